section
-- ===== PART A: goes FIRST, ahead of the names: the tables' words, and 'selects' of the private methods out of them =====
/-- a private method of a class that the tables say can be made, by its rows of tables_1 -/
def lw_okq (q : MethodName × Nat) : Prop := (q.1.cls ≠ "java/lang/invoke/MethodHandle" ∧ q.1.cls ≠ "java/lang/invoke/VarHandle") ∧ Cond.instantiable q.1.cls q.2 ∈ tables_1 ∧ Cond.privateMethod q.1 ∈ tables_1 ∧ Cond.instanceMethod q.1 ∈ tables_1
theorem lw_p0 : lw_okq (⟨"ManyPens", "sheetOf", "(I)LManyPens$Sheet;"⟩, 5) := ⟨⟨by decide +kernel, by decide +kernel⟩, List.mem_of_getElem? (i := 15) (by decide +kernel), List.mem_of_getElem? (i := 156) (by decide +kernel), List.mem_of_getElem? (i := 157) (by decide +kernel)⟩
theorem lw_p1 : lw_okq (⟨"ManyPens", "refuse", "(I)I"⟩, 5) := ⟨⟨by decide +kernel, by decide +kernel⟩, List.mem_of_getElem? (i := 15) (by decide +kernel), List.mem_of_getElem? (i := 160) (by decide +kernel), List.mem_of_getElem? (i := 161) (by decide +kernel)⟩
theorem lw_p2 : lw_okq (⟨"ManyPens$Reading", "findTaken", "(LManyPens$Sheet;I)V"⟩, 10) := ⟨⟨by decide +kernel, by decide +kernel⟩, List.mem_of_getElem? (i := 93) (by decide +kernel), List.mem_of_getElem? (i := 169) (by decide +kernel), List.mem_of_getElem? (i := 170) (by decide +kernel)⟩
theorem lw_p3 : lw_okq (⟨"ManyPens$Reading", "findUndone", "()V"⟩, 10) := ⟨⟨by decide +kernel, by decide +kernel⟩, List.mem_of_getElem? (i := 93) (by decide +kernel), List.mem_of_getElem? (i := 177) (by decide +kernel), List.mem_of_getElem? (i := 178) (by decide +kernel)⟩
theorem lw_p4 : lw_okq (⟨"ManyPens$Reading", "findOrder", "()V"⟩, 10) := ⟨⟨by decide +kernel, by decide +kernel⟩, List.mem_of_getElem? (i := 93) (by decide +kernel), List.mem_of_getElem? (i := 182) (by decide +kernel), List.mem_of_getElem? (i := 183) (by decide +kernel)⟩
theorem lw_p5 : lw_okq (⟨"ManyPens$Reading", "findStruck", "()V"⟩, 10) := ⟨⟨by decide +kernel, by decide +kernel⟩, List.mem_of_getElem? (i := 93) (by decide +kernel), List.mem_of_getElem? (i := 189) (by decide +kernel), List.mem_of_getElem? (i := 190) (by decide +kernel)⟩
theorem lw_p6 : lw_okq (⟨"ManyPens$Reading", "countStruck", "(LManyPens$Strike;)V"⟩, 10) := ⟨⟨by decide +kernel, by decide +kernel⟩, List.mem_of_getElem? (i := 93) (by decide +kernel), List.mem_of_getElem? (i := 194) (by decide +kernel), List.mem_of_getElem? (i := 195) (by decide +kernel)⟩
theorem lw_p7 : lw_okq (⟨"ManyPens$Reading", "findSeen", "()V"⟩, 10) := ⟨⟨by decide +kernel, by decide +kernel⟩, List.mem_of_getElem? (i := 93) (by decide +kernel), List.mem_of_getElem? (i := 202) (by decide +kernel), List.mem_of_getElem? (i := 203) (by decide +kernel)⟩
theorem lw_p8 : lw_okq (⟨"ManyPens", "enter", "(LManyPens$Sheet;LManyPens$Slip;)I"⟩, 5) := ⟨⟨by decide +kernel, by decide +kernel⟩, List.mem_of_getElem? (i := 15) (by decide +kernel), List.mem_of_getElem? (i := 282) (by decide +kernel), List.mem_of_getElem? (i := 283) (by decide +kernel)⟩
theorem lw_p9 : lw_okq (⟨"ManyPens$Book", "insertByAge", "(LManyPens$Slip;)V"⟩, 5) := ⟨⟨by decide +kernel, by decide +kernel⟩, List.mem_of_getElem? (i := 23) (by decide +kernel), List.mem_of_getElem? (i := 291) (by decide +kernel), List.mem_of_getElem? (i := 292) (by decide +kernel)⟩
theorem lw_p10 : lw_okq (⟨"ManyPens$Book", "insertSigns", "(LManyPens$Put;)V"⟩, 5) := ⟨⟨by decide +kernel, by decide +kernel⟩, List.mem_of_getElem? (i := 23) (by decide +kernel), List.mem_of_getElem? (i := 304) (by decide +kernel), List.mem_of_getElem? (i := 305) (by decide +kernel)⟩
theorem lw_p11 : lw_okq (⟨"ManyPens$Book", "spotFor", "(LManyPens$Put;)I"⟩, 5) := ⟨⟨by decide +kernel, by decide +kernel⟩, List.mem_of_getElem? (i := 23) (by decide +kernel), List.mem_of_getElem? (i := 308) (by decide +kernel), List.mem_of_getElem? (i := 309) (by decide +kernel)⟩
theorem lw_p12 : lw_okq (⟨"ManyPens$Sheet", "take", "(LManyPens$Slip;)V"⟩, 6) := ⟨⟨by decide +kernel, by decide +kernel⟩, List.mem_of_getElem? (i := 59) (by decide +kernel), List.mem_of_getElem? (i := 322) (by decide +kernel), List.mem_of_getElem? (i := 323) (by decide +kernel)⟩
theorem lw_p13 : lw_okq (⟨"ManyPens", "done", "(I)I"⟩, 5) := ⟨⟨by decide +kernel, by decide +kernel⟩, List.mem_of_getElem? (i := 15) (by decide +kernel), List.mem_of_getElem? (i := 329) (by decide +kernel), List.mem_of_getElem? (i := 330) (by decide +kernel)⟩
theorem lw_p14 : lw_okq (⟨"ManyPens$Sheet", "lesserMissing", "(II)I"⟩, 6) := ⟨⟨by decide +kernel, by decide +kernel⟩, List.mem_of_getElem? (i := 59) (by decide +kernel), List.mem_of_getElem? (i := 449) (by decide +kernel), List.mem_of_getElem? (i := 450) (by decide +kernel)⟩
theorem lw_p15 : lw_okq (⟨"ManyPens", "read", "(I)Z"⟩, 5) := ⟨⟨by decide +kernel, by decide +kernel⟩, List.mem_of_getElem? (i := 15) (by decide +kernel), List.mem_of_getElem? (i := 581) (by decide +kernel), List.mem_of_getElem? (i := 582) (by decide +kernel)⟩
def lw_privs_1 : List (MethodName × Nat) := [(⟨"ManyPens", "sheetOf", "(I)LManyPens$Sheet;"⟩, 5), (⟨"ManyPens", "refuse", "(I)I"⟩, 5), (⟨"ManyPens$Reading", "findTaken", "(LManyPens$Sheet;I)V"⟩, 10), (⟨"ManyPens$Reading", "findUndone", "()V"⟩, 10), (⟨"ManyPens$Reading", "findOrder", "()V"⟩, 10), (⟨"ManyPens$Reading", "findStruck", "()V"⟩, 10), (⟨"ManyPens$Reading", "countStruck", "(LManyPens$Strike;)V"⟩, 10), (⟨"ManyPens$Reading", "findSeen", "()V"⟩, 10), (⟨"ManyPens", "enter", "(LManyPens$Sheet;LManyPens$Slip;)I"⟩, 5), (⟨"ManyPens$Book", "insertByAge", "(LManyPens$Slip;)V"⟩, 5), (⟨"ManyPens$Book", "insertSigns", "(LManyPens$Put;)V"⟩, 5), (⟨"ManyPens$Book", "spotFor", "(LManyPens$Put;)I"⟩, 5), (⟨"ManyPens$Sheet", "take", "(LManyPens$Slip;)V"⟩, 6), (⟨"ManyPens", "done", "(I)I"⟩, 5), (⟨"ManyPens$Sheet", "lesserMissing", "(II)I"⟩, 6), (⟨"ManyPens", "read", "(I)Z"⟩, 5)]
theorem lw_r1 : ∀ q ∈ lw_privs_1, lw_okq q := List.forall_mem_cons.mpr ⟨lw_p0, List.forall_mem_cons.mpr ⟨lw_p1, List.forall_mem_cons.mpr ⟨lw_p2, List.forall_mem_cons.mpr ⟨lw_p3, List.forall_mem_cons.mpr ⟨lw_p4, List.forall_mem_cons.mpr ⟨lw_p5, List.forall_mem_cons.mpr ⟨lw_p6, List.forall_mem_cons.mpr ⟨lw_p7, List.forall_mem_cons.mpr ⟨lw_p8, List.forall_mem_cons.mpr ⟨lw_p9, List.forall_mem_cons.mpr ⟨lw_p10, List.forall_mem_cons.mpr ⟨lw_p11, List.forall_mem_cons.mpr ⟨lw_p12, List.forall_mem_cons.mpr ⟨lw_p13, List.forall_mem_cons.mpr ⟨lw_p14, List.forall_mem_cons.mpr ⟨lw_p15, fun _ h => absurd h List.not_mem_nil⟩⟩⟩⟩⟩⟩⟩⟩⟩⟩⟩⟩⟩⟩⟩⟩
theorem lw_p16 : lw_okq (⟨"ManyPens$Reading", "lay", "(LManyPens$Mark;)V"⟩, 10) := ⟨⟨by decide +kernel, by decide +kernel⟩, List.mem_of_getElem? (i := 93) (by decide +kernel), List.mem_of_getElem? (i := 601) (by decide +kernel), List.mem_of_getElem? (i := 602) (by decide +kernel)⟩
theorem lw_p17 : lw_okq (⟨"ManyPens$Reading", "endOf", "(LManyPens$Mark;)I"⟩, 10) := ⟨⟨by decide +kernel, by decide +kernel⟩, List.mem_of_getElem? (i := 93) (by decide +kernel), List.mem_of_getElem? (i := 605) (by decide +kernel), List.mem_of_getElem? (i := 606) (by decide +kernel)⟩
theorem lw_p18 : lw_okq (⟨"ManyPens", "haveSameTaken", "(LManyPens$Sheet;LManyPens$Sheet;)Z"⟩, 5) := ⟨⟨by decide +kernel, by decide +kernel⟩, List.mem_of_getElem? (i := 15) (by decide +kernel), List.mem_of_getElem? (i := 658) (by decide +kernel), List.mem_of_getElem? (i := 659) (by decide +kernel)⟩
theorem lw_p19 : lw_okq (⟨"ManyPens", "placesAlike", "(LManyPens$Sheet;LManyPens$Sheet;)I"⟩, 5) := ⟨⟨by decide +kernel, by decide +kernel⟩, List.mem_of_getElem? (i := 15) (by decide +kernel), List.mem_of_getElem? (i := 662) (by decide +kernel), List.mem_of_getElem? (i := 663) (by decide +kernel)⟩
theorem lw_p20 : lw_okq (⟨"ManyPensModel", "refuse", "(I)I"⟩, 28) := ⟨⟨by decide +kernel, by decide +kernel⟩, List.mem_of_getElem? (i := 687) (by decide +kernel), List.mem_of_getElem? (i := 786) (by decide +kernel), List.mem_of_getElem? (i := 787) (by decide +kernel)⟩
theorem lw_p21 : lw_okq (⟨"ManyPensModel", "sheet", "(I)I"⟩, 28) := ⟨⟨by decide +kernel, by decide +kernel⟩, List.mem_of_getElem? (i := 687) (by decide +kernel), List.mem_of_getElem? (i := 790) (by decide +kernel), List.mem_of_getElem? (i := 791) (by decide +kernel)⟩
theorem lw_p22 : lw_okq (⟨"ManyPensModel", "findTaken", "(I)I"⟩, 28) := ⟨⟨by decide +kernel, by decide +kernel⟩, List.mem_of_getElem? (i := 687) (by decide +kernel), List.mem_of_getElem? (i := 794) (by decide +kernel), List.mem_of_getElem? (i := 795) (by decide +kernel)⟩
theorem lw_p23 : lw_okq (⟨"ManyPensModel", "hasNeeds", "(I)Z"⟩, 28) := ⟨⟨by decide +kernel, by decide +kernel⟩, List.mem_of_getElem? (i := 687) (by decide +kernel), List.mem_of_getElem? (i := 798) (by decide +kernel), List.mem_of_getElem? (i := 799) (by decide +kernel)⟩
theorem lw_p24 : lw_okq (⟨"ManyPensModel", "findNeeds", "(I)V"⟩, 28) := ⟨⟨by decide +kernel, by decide +kernel⟩, List.mem_of_getElem? (i := 687) (by decide +kernel), List.mem_of_getElem? (i := 802) (by decide +kernel), List.mem_of_getElem? (i := 803) (by decide +kernel)⟩
theorem lw_p25 : lw_okq (⟨"ManyPensModel", "latestOf", "(II)I"⟩, 28) := ⟨⟨by decide +kernel, by decide +kernel⟩, List.mem_of_getElem? (i := 687) (by decide +kernel), List.mem_of_getElem? (i := 806) (by decide +kernel), List.mem_of_getElem? (i := 807) (by decide +kernel)⟩
theorem lw_p26 : lw_okq (⟨"ManyPensModel", "need", "(I)V"⟩, 28) := ⟨⟨by decide +kernel, by decide +kernel⟩, List.mem_of_getElem? (i := 687) (by decide +kernel), List.mem_of_getElem? (i := 810) (by decide +kernel), List.mem_of_getElem? (i := 811) (by decide +kernel)⟩
theorem lw_p27 : lw_okq (⟨"ManyPensModel", "findText", "()I"⟩, 28) := ⟨⟨by decide +kernel, by decide +kernel⟩, List.mem_of_getElem? (i := 687) (by decide +kernel), List.mem_of_getElem? (i := 814) (by decide +kernel), List.mem_of_getElem? (i := 815) (by decide +kernel)⟩
theorem lw_p28 : lw_okq (⟨"ManyPensModel", "findWorks", "()V"⟩, 28) := ⟨⟨by decide +kernel, by decide +kernel⟩, List.mem_of_getElem? (i := 687) (by decide +kernel), List.mem_of_getElem? (i := 818) (by decide +kernel), List.mem_of_getElem? (i := 819) (by decide +kernel)⟩
theorem lw_p29 : lw_okq (⟨"ManyPensModel", "findOrder", "()V"⟩, 28) := ⟨⟨by decide +kernel, by decide +kernel⟩, List.mem_of_getElem? (i := 687) (by decide +kernel), List.mem_of_getElem? (i := 822) (by decide +kernel), List.mem_of_getElem? (i := 823) (by decide +kernel)⟩
theorem lw_p30 : lw_okq (⟨"ManyPensModel", "pilePuts", "(I)V"⟩, 28) := ⟨⟨by decide +kernel, by decide +kernel⟩, List.mem_of_getElem? (i := 687) (by decide +kernel), List.mem_of_getElem? (i := 826) (by decide +kernel), List.mem_of_getElem? (i := 827) (by decide +kernel)⟩
theorem lw_p31 : lw_okq (⟨"ManyPensModel", "isLater", "(II)Z"⟩, 28) := ⟨⟨by decide +kernel, by decide +kernel⟩, List.mem_of_getElem? (i := 687) (by decide +kernel), List.mem_of_getElem? (i := 830) (by decide +kernel), List.mem_of_getElem? (i := 831) (by decide +kernel)⟩
def lw_privs_2 : List (MethodName × Nat) := [(⟨"ManyPens$Reading", "lay", "(LManyPens$Mark;)V"⟩, 10), (⟨"ManyPens$Reading", "endOf", "(LManyPens$Mark;)I"⟩, 10), (⟨"ManyPens", "haveSameTaken", "(LManyPens$Sheet;LManyPens$Sheet;)Z"⟩, 5), (⟨"ManyPens", "placesAlike", "(LManyPens$Sheet;LManyPens$Sheet;)I"⟩, 5), (⟨"ManyPensModel", "refuse", "(I)I"⟩, 28), (⟨"ManyPensModel", "sheet", "(I)I"⟩, 28), (⟨"ManyPensModel", "findTaken", "(I)I"⟩, 28), (⟨"ManyPensModel", "hasNeeds", "(I)Z"⟩, 28), (⟨"ManyPensModel", "findNeeds", "(I)V"⟩, 28), (⟨"ManyPensModel", "latestOf", "(II)I"⟩, 28), (⟨"ManyPensModel", "need", "(I)V"⟩, 28), (⟨"ManyPensModel", "findText", "()I"⟩, 28), (⟨"ManyPensModel", "findWorks", "()V"⟩, 28), (⟨"ManyPensModel", "findOrder", "()V"⟩, 28), (⟨"ManyPensModel", "pilePuts", "(I)V"⟩, 28), (⟨"ManyPensModel", "isLater", "(II)Z"⟩, 28)]
theorem lw_r2 : ∀ q ∈ lw_privs_2, lw_okq q := List.forall_mem_cons.mpr ⟨lw_p16, List.forall_mem_cons.mpr ⟨lw_p17, List.forall_mem_cons.mpr ⟨lw_p18, List.forall_mem_cons.mpr ⟨lw_p19, List.forall_mem_cons.mpr ⟨lw_p20, List.forall_mem_cons.mpr ⟨lw_p21, List.forall_mem_cons.mpr ⟨lw_p22, List.forall_mem_cons.mpr ⟨lw_p23, List.forall_mem_cons.mpr ⟨lw_p24, List.forall_mem_cons.mpr ⟨lw_p25, List.forall_mem_cons.mpr ⟨lw_p26, List.forall_mem_cons.mpr ⟨lw_p27, List.forall_mem_cons.mpr ⟨lw_p28, List.forall_mem_cons.mpr ⟨lw_p29, List.forall_mem_cons.mpr ⟨lw_p30, List.forall_mem_cons.mpr ⟨lw_p31, fun _ h => absurd h List.not_mem_nil⟩⟩⟩⟩⟩⟩⟩⟩⟩⟩⟩⟩⟩⟩⟩⟩
theorem lw_p32 : lw_okq (⟨"ManyPensModel", "isStruck", "(I)Z"⟩, 28) := ⟨⟨by decide +kernel, by decide +kernel⟩, List.mem_of_getElem? (i := 687) (by decide +kernel), List.mem_of_getElem? (i := 834) (by decide +kernel), List.mem_of_getElem? (i := 835) (by decide +kernel)⟩
theorem lw_p33 : lw_okq (⟨"ManyPensModel", "strikesOf", "(I)I"⟩, 28) := ⟨⟨by decide +kernel, by decide +kernel⟩, List.mem_of_getElem? (i := 687) (by decide +kernel), List.mem_of_getElem? (i := 838) (by decide +kernel), List.mem_of_getElem? (i := 839) (by decide +kernel)⟩
theorem lw_p34 : lw_okq (⟨"ManyPensModel", "atPlace", "(I)I"⟩, 28) := ⟨⟨by decide +kernel, by decide +kernel⟩, List.mem_of_getElem? (i := 687) (by decide +kernel), List.mem_of_getElem? (i := 842) (by decide +kernel), List.mem_of_getElem? (i := 843) (by decide +kernel)⟩
theorem lw_p35 : lw_okq (⟨"ManyPensModel", "make", "(III)I"⟩, 28) := ⟨⟨by decide +kernel, by decide +kernel⟩, List.mem_of_getElem? (i := 687) (by decide +kernel), List.mem_of_getElem? (i := 846) (by decide +kernel), List.mem_of_getElem? (i := 847) (by decide +kernel)⟩
theorem lw_p36 : lw_okq (⟨"ManyPensModel", "done", "(I)I"⟩, 28) := ⟨⟨by decide +kernel, by decide +kernel⟩, List.mem_of_getElem? (i := 687) (by decide +kernel), List.mem_of_getElem? (i := 850) (by decide +kernel), List.mem_of_getElem? (i := 851) (by decide +kernel)⟩
theorem lw_p37 : lw_okq (⟨"ManyPensModel", "isSlip", "(I)Z"⟩, 28) := ⟨⟨by decide +kernel, by decide +kernel⟩, List.mem_of_getElem? (i := 687) (by decide +kernel), List.mem_of_getElem? (i := 869) (by decide +kernel), List.mem_of_getElem? (i := 870) (by decide +kernel)⟩
theorem lw_p38 : lw_okq (⟨"ManyPensModel", "linked", "(II)I"⟩, 28) := ⟨⟨by decide +kernel, by decide +kernel⟩, List.mem_of_getElem? (i := 687) (by decide +kernel), List.mem_of_getElem? (i := 905) (by decide +kernel), List.mem_of_getElem? (i := 906) (by decide +kernel)⟩
theorem lw_p39 : lw_okq (⟨"ManyPensModel", "tintsOf", "(I)I"⟩, 28) := ⟨⟨by decide +kernel, by decide +kernel⟩, List.mem_of_getElem? (i := 687) (by decide +kernel), List.mem_of_getElem? (i := 929) (by decide +kernel), List.mem_of_getElem? (i := 930) (by decide +kernel)⟩
theorem lw_p40 : lw_okq (⟨"ManyPensModel", "hasTint", "(II)Z"⟩, 28) := ⟨⟨by decide +kernel, by decide +kernel⟩, List.mem_of_getElem? (i := 687) (by decide +kernel), List.mem_of_getElem? (i := 933) (by decide +kernel), List.mem_of_getElem? (i := 934) (by decide +kernel)⟩
theorem lw_p41 : lw_okq (⟨"ManyPensModel", "covers", "(II)Z"⟩, 28) := ⟨⟨by decide +kernel, by decide +kernel⟩, List.mem_of_getElem? (i := 687) (by decide +kernel), List.mem_of_getElem? (i := 937) (by decide +kernel), List.mem_of_getElem? (i := 938) (by decide +kernel)⟩
theorem lw_p42 : lw_okq (⟨"ManyPensModel", "inOrder", "(I)I"⟩, 28) := ⟨⟨by decide +kernel, by decide +kernel⟩, List.mem_of_getElem? (i := 687) (by decide +kernel), List.mem_of_getElem? (i := 941) (by decide +kernel), List.mem_of_getElem? (i := 942) (by decide +kernel)⟩
theorem lw_p43 : lw_okq (⟨"ManyPensModel", "seenAhead", "(I)I"⟩, 28) := ⟨⟨by decide +kernel, by decide +kernel⟩, List.mem_of_getElem? (i := 687) (by decide +kernel), List.mem_of_getElem? (i := 958) (by decide +kernel), List.mem_of_getElem? (i := 959) (by decide +kernel)⟩
def lw_privs_3 : List (MethodName × Nat) := [(⟨"ManyPensModel", "isStruck", "(I)Z"⟩, 28), (⟨"ManyPensModel", "strikesOf", "(I)I"⟩, 28), (⟨"ManyPensModel", "atPlace", "(I)I"⟩, 28), (⟨"ManyPensModel", "make", "(III)I"⟩, 28), (⟨"ManyPensModel", "done", "(I)I"⟩, 28), (⟨"ManyPensModel", "isSlip", "(I)Z"⟩, 28), (⟨"ManyPensModel", "linked", "(II)I"⟩, 28), (⟨"ManyPensModel", "tintsOf", "(I)I"⟩, 28), (⟨"ManyPensModel", "hasTint", "(II)Z"⟩, 28), (⟨"ManyPensModel", "covers", "(II)Z"⟩, 28), (⟨"ManyPensModel", "inOrder", "(I)I"⟩, 28), (⟨"ManyPensModel", "seenAhead", "(I)I"⟩, 28)]
theorem lw_r3 : ∀ q ∈ lw_privs_3, lw_okq q := List.forall_mem_cons.mpr ⟨lw_p32, List.forall_mem_cons.mpr ⟨lw_p33, List.forall_mem_cons.mpr ⟨lw_p34, List.forall_mem_cons.mpr ⟨lw_p35, List.forall_mem_cons.mpr ⟨lw_p36, List.forall_mem_cons.mpr ⟨lw_p37, List.forall_mem_cons.mpr ⟨lw_p38, List.forall_mem_cons.mpr ⟨lw_p39, List.forall_mem_cons.mpr ⟨lw_p40, List.forall_mem_cons.mpr ⟨lw_p41, List.forall_mem_cons.mpr ⟨lw_p42, List.forall_mem_cons.mpr ⟨lw_p43, fun _ h => absurd h List.not_mem_nil⟩⟩⟩⟩⟩⟩⟩⟩⟩⟩⟩⟩
def lw_privs : List (MethodName × Nat) := lw_privs_1 ++ (lw_privs_2 ++ (lw_privs_3))
def lw_tbl : List Cond := k2_sels lw_privs ++ tables_1
theorem lw_privs_ok : ∀ q ∈ lw_privs, lw_okq q := by
  show ∀ q ∈ lw_privs_1 ++ (lw_privs_2 ++ (lw_privs_3)), lw_okq q
  exact List.forall_mem_append.mpr ⟨lw_r1, List.forall_mem_append.mpr ⟨lw_r2, lw_r3⟩⟩
end
section
def RX0 : String := "ManyPens$Book"
def TX0 : u_T := fun k => match k with
  | 0 => ("ManyPens$Book", "slips", "[LManyPens$Slip;", true)
  | 1 => ("ManyPens$Book", "byAge", "[LManyPens$Slip;", true)
  | 2 => ("ManyPens$Book", "order", "[I", true)
  | 3 => ("ManyPens$Book", "count", "I", false)
  | _ => ("ManyPens$Book", "orderSize", "I", false)
def tyX0 : Nat → FieldType := fun k => match k with
  | 0 => .array (.object "ManyPens$Slip")
  | 1 => .array (.object "ManyPens$Slip")
  | 2 => .array .int
  | 3 => .int
  | _ => .int
abbrev wsX00 : List Cond := u_ws RX0 TX0 5
theorem nmX0 : ∀ a, a < 5 → ∀ b, b < 5 → a ≠ b → (TX0 a).2.1 ≠ (TX0 b).2.1 := by decide +kernel
theorem tyX0_ok : ∀ k, k < 5 → parseFieldDescriptor (TX0 k).2.2.1 = some (tyX0 k) := by decide +kernel
abbrev cX0_init : ByteArray := prog_2_method_1_code
def yX0_init : MethodName := ⟨RX0, "<init>", "()V"⟩
abbrev cX0_isFull : ByteArray := prog_2_method_2_code
def yX0_isFull : MethodName := ⟨RX0, "isFull", "()Z"⟩
abbrev cX0_find : ByteArray := prog_2_method_3_code
def yX0_find : MethodName := ⟨RX0, "find", "(I)LManyPens$Slip;"⟩
abbrev cX0_add : ByteArray := prog_2_method_4_code
def yX0_add : MethodName := ⟨RX0, "add", "(LManyPens$Slip;)V"⟩
abbrev cX0_codeOf : ByteArray := prog_2_method_5_code
def yX0_codeOf : MethodName := ⟨RX0, "codeOf", "(I)I"⟩
abbrev cX0_penOf : ByteArray := prog_2_method_6_code
def yX0_penOf : MethodName := ⟨RX0, "penOf", "(I)I"⟩
abbrev cX0_insertByAge : ByteArray := prog_2_method_7_code
def yX0_insertByAge : MethodName := ⟨RX0, "insertByAge", "(LManyPens$Slip;)V"⟩
abbrev cX0_insertSigns : ByteArray := prog_2_method_8_code
def yX0_insertSigns : MethodName := ⟨RX0, "insertSigns", "(LManyPens$Put;)V"⟩
abbrev cX0_spotFor : ByteArray := prog_2_method_9_code
def yX0_spotFor : MethodName := ⟨RX0, "spotFor", "(LManyPens$Put;)I"⟩
def RX1 : String := "ManyPens$Mark"
def TX1 : u_T := fun k => match k with
  | 0 => ("ManyPens$Slip", "number", "I", true)
  | 1 => ("ManyPens$Slip", "pen", "I", true)
  | 2 => ("ManyPens$Slip", "stamp", "I", true)
  | 3 => ("ManyPens$Slip", "prior", "I", true)
  | 4 => ("ManyPens$Mark", "first", "I", true)
  | 5 => ("ManyPens$Mark", "last", "I", true)
  | 6 => ("ManyPens$Mark", "bound", "I", true)
  | 7 => ("ManyPens$Mark", "tint", "I", true)
  | _ => ("ManyPens$Mark", "on", "Z", true)
def tyX1 : Nat → FieldType := fun k => match k with
  | 0 => .int
  | 1 => .int
  | 2 => .int
  | 3 => .int
  | 4 => .int
  | 5 => .int
  | 6 => .int
  | 7 => .int
  | _ => .boolean
abbrev wsX10 : List Cond := u_ws RX1 TX1 9
theorem nmX1 : ∀ a, a < 9 → ∀ b, b < 9 → a ≠ b → (TX1 a).2.1 ≠ (TX1 b).2.1 := by decide +kernel
theorem tyX1_ok : ∀ k, k < 9 → parseFieldDescriptor (TX1 k).2.2.1 = some (tyX1 k) := by decide +kernel
abbrev cX1_init : ByteArray := prog_3_method_1_code
def yX1_init : MethodName := ⟨RX1, "<init>", "(ILManyPens$Sheet;IIIIZ)V"⟩
abbrev cX1_kind : ByteArray := prog_3_method_2_code
def yX1_kind : MethodName := ⟨RX1, "kind", "()I"⟩
abbrev cX1_size : ByteArray := prog_3_method_3_code
def yX1_size : MethodName := ⟨RX1, "size", "()I"⟩
abbrev cX1_nameOf : ByteArray := prog_3_method_4_code
def yX1_nameOf : MethodName := ⟨RX1, "nameOf", "(I)I"⟩
abbrev cX1_howManyNeeds : ByteArray := prog_3_method_5_code
def yX1_howManyNeeds : MethodName := ⟨RX1, "howManyNeeds", "()I"⟩
abbrev cX1_need : ByteArray := prog_3_method_6_code
def yX1_need : MethodName := ⟨RX1, "need", "(I)I"⟩
def RX2 : String := "ManyPens$Put"
def TX2 : u_T := fun k => match k with
  | 0 => ("ManyPens$Slip", "number", "I", true)
  | 1 => ("ManyPens$Slip", "pen", "I", true)
  | 2 => ("ManyPens$Slip", "stamp", "I", true)
  | 3 => ("ManyPens$Slip", "prior", "I", true)
  | 4 => ("ManyPens$Put", "left", "I", true)
  | _ => ("ManyPens$Put", "codes", "[I", true)
def tyX2 : Nat → FieldType := fun k => match k with
  | 0 => .int
  | 1 => .int
  | 2 => .int
  | 3 => .int
  | 4 => .int
  | _ => .array .int
abbrev wsX20 : List Cond := u_ws RX2 TX2 6
theorem nmX2 : ∀ a, a < 6 → ∀ b, b < 6 → a ≠ b → (TX2 a).2.1 ≠ (TX2 b).2.1 := by decide +kernel
theorem tyX2_ok : ∀ k, k < 6 → parseFieldDescriptor (TX2 k).2.2.1 = some (tyX2 k) := by decide +kernel
abbrev cX2_init : ByteArray := prog_4_method_1_code
def yX2_init : MethodName := ⟨RX2, "<init>", "(ILManyPens$Sheet;I[I)V"⟩
abbrev cX2_kind : ByteArray := prog_4_method_2_code
def yX2_kind : MethodName := ⟨RX2, "kind", "()I"⟩
abbrev cX2_size : ByteArray := prog_4_method_3_code
def yX2_size : MethodName := ⟨RX2, "size", "()I"⟩
abbrev cX2_nameOf : ByteArray := prog_4_method_4_code
def yX2_nameOf : MethodName := ⟨RX2, "nameOf", "(I)I"⟩
abbrev cX2_howManyNeeds : ByteArray := prog_4_method_5_code
def yX2_howManyNeeds : MethodName := ⟨RX2, "howManyNeeds", "()I"⟩
abbrev cX2_need : ByteArray := prog_4_method_6_code
def yX2_need : MethodName := ⟨RX2, "need", "(I)I"⟩
def RX3 : String := "ManyPens$Reading"
def TX3 : u_T := fun k => match k with
  | 0 => ("ManyPens$Reading", "book", "LManyPens$Book;", true)
  | 1 => ("ManyPens$Reading", "standing", "[I", true)
  | 2 => ("ManyPens$Reading", "order", "[I", true)
  | 3 => ("ManyPens$Reading", "spots", "[I", true)
  | 4 => ("ManyPens$Reading", "struck", "[I", true)
  | 5 => ("ManyPens$Reading", "ahead", "[I", true)
  | 6 => ("ManyPens$Reading", "seen", "[I", true)
  | 7 => ("ManyPens$Reading", "tints", "[I", true)
  | 8 => ("ManyPens$Reading", "orderSize", "I", false)
  | _ => ("ManyPens$Reading", "textSize", "I", false)
def tyX3 : Nat → FieldType := fun k => match k with
  | 0 => .object "ManyPens$Book"
  | 1 => .array .int
  | 2 => .array .int
  | 3 => .array .int
  | 4 => .array .int
  | 5 => .array .int
  | 6 => .array .int
  | 7 => .array .int
  | 8 => .int
  | _ => .int
abbrev wsX30 : List Cond := u_ws RX3 TX3 10
theorem nmX3 : ∀ a, a < 10 → ∀ b, b < 10 → a ≠ b → (TX3 a).2.1 ≠ (TX3 b).2.1 := by decide +kernel
theorem tyX3_ok : ∀ k, k < 10 → parseFieldDescriptor (TX3 k).2.2.1 = some (tyX3 k) := by decide +kernel
abbrev cX3_init : ByteArray := prog_5_method_1_code
def yX3_init : MethodName := ⟨RX3, "<init>", "(LManyPens$Book;)V"⟩
abbrev cX3_read : ByteArray := prog_5_method_2_code
def yX3_read : MethodName := ⟨RX3, "read", "(LManyPens$Sheet;I)V"⟩
abbrev cX3_isWorking : ByteArray := prog_5_method_3_code
def yX3_isWorking : MethodName := ⟨RX3, "isWorking", "(LManyPens$Slip;)Z"⟩
abbrev cX3_isPlace : ByteArray := prog_5_method_4_code
def yX3_isPlace : MethodName := ⟨RX3, "isPlace", "(I)Z"⟩
abbrev cX3_hasStretch : ByteArray := prog_5_method_5_code
def yX3_hasStretch : MethodName := ⟨RX3, "hasStretch", "(II)Z"⟩
abbrev cX3_nameAt : ByteArray := prog_5_method_6_code
def yX3_nameAt : MethodName := ⟨RX3, "nameAt", "(I)I"⟩
abbrev cX3_tintsAt : ByteArray := prog_5_method_7_code
def yX3_tintsAt : MethodName := ⟨RX3, "tintsAt", "(I)I"⟩
abbrev cX3_lookAt : ByteArray := prog_5_method_8_code
def yX3_lookAt : MethodName := ⟨RX3, "lookAt", "(I)I"⟩
abbrev cX3_namesFrom : ByteArray := prog_5_method_9_code
def yX3_namesFrom : MethodName := ⟨RX3, "namesFrom", "(II)[I"⟩
abbrev cX3_spotOf : ByteArray := prog_5_method_10_code
def yX3_spotOf : MethodName := ⟨RX3, "spotOf", "(I)I"⟩
abbrev cX3_isSeen : ByteArray := prog_5_method_11_code
def yX3_isSeen : MethodName := ⟨RX3, "isSeen", "(I)Z"⟩
abbrev cX3_nextBehind : ByteArray := prog_5_method_12_code
def yX3_nextBehind : MethodName := ⟨RX3, "nextBehind", "(I)I"⟩
abbrev cX3_stretchesOf : ByteArray := prog_5_method_13_code
def yX3_stretchesOf : MethodName := ⟨RX3, "stretchesOf", "(I)I"⟩
abbrev cX3_paint : ByteArray := prog_5_method_14_code
def yX3_paint : MethodName := ⟨RX3, "paint", "()V"⟩
abbrev cX3_lay : ByteArray := prog_5_method_15_code
def yX3_lay : MethodName := ⟨RX3, "lay", "(LManyPens$Mark;)V"⟩
abbrev cX3_endOf : ByteArray := prog_5_method_16_code
def yX3_endOf : MethodName := ⟨RX3, "endOf", "(LManyPens$Mark;)I"⟩
abbrev cX3_findTaken : ByteArray := prog_5_method_17_code
def yX3_findTaken : MethodName := ⟨RX3, "findTaken", "(LManyPens$Sheet;I)V"⟩
abbrev cX3_findUndone : ByteArray := prog_5_method_18_code
def yX3_findUndone : MethodName := ⟨RX3, "findUndone", "()V"⟩
abbrev cX3_findOrder : ByteArray := prog_5_method_19_code
def yX3_findOrder : MethodName := ⟨RX3, "findOrder", "()V"⟩
abbrev cX3_findStruck : ByteArray := prog_5_method_20_code
def yX3_findStruck : MethodName := ⟨RX3, "findStruck", "()V"⟩
abbrev cX3_countStruck : ByteArray := prog_5_method_21_code
def yX3_countStruck : MethodName := ⟨RX3, "countStruck", "(LManyPens$Strike;)V"⟩
abbrev cX3_findSeen : ByteArray := prog_5_method_22_code
def yX3_findSeen : MethodName := ⟨RX3, "findSeen", "()V"⟩
def RX4 : String := "ManyPens$Sheet"
def TX4 : u_T := fun k => match k with
  | 0 => ("ManyPens$Sheet", "pen", "I", true)
  | 1 => ("ManyPens$Sheet", "held", "[I", true)
  | 2 => ("ManyPens$Sheet", "beside", "[I", true)
  | 3 => ("ManyPens$Sheet", "leans", "[I", true)
  | 4 => ("ManyPens$Sheet", "greatestStamp", "I", false)
  | _ => ("ManyPens$Sheet", "lastMade", "I", false)
def tyX4 : Nat → FieldType := fun k => match k with
  | 0 => .int
  | 1 => .array .int
  | 2 => .array .int
  | 3 => .array .int
  | 4 => .int
  | _ => .int
abbrev wsX40 : List Cond := u_ws RX4 TX4 6
theorem nmX4 : ∀ a, a < 6 → ∀ b, b < 6 → a ≠ b → (TX4 a).2.1 ≠ (TX4 b).2.1 := by decide +kernel
theorem tyX4_ok : ∀ k, k < 6 → parseFieldDescriptor (TX4 k).2.2.1 = some (tyX4 k) := by decide +kernel
abbrev cX4_init : ByteArray := prog_6_method_1_code
def yX4_init : MethodName := ⟨RX4, "<init>", "(I)V"⟩
abbrev cX4_hasTaken : ByteArray := prog_6_method_2_code
def yX4_hasTaken : MethodName := ⟨RX4, "hasTaken", "(LManyPens$Slip;)Z"⟩
abbrev cX4_own : ByteArray := prog_6_method_3_code
def yX4_own : MethodName := ⟨RX4, "own", "(LManyPens$Slip;)V"⟩
abbrev cX4_get : ByteArray := prog_6_method_4_code
def yX4_get : MethodName := ⟨RX4, "get", "(LManyPens$Slip;)V"⟩
abbrev cX4_settle : ByteArray := prog_6_method_5_code
def yX4_settle : MethodName := ⟨RX4, "settle", "(LManyPens$Book;)I"⟩
abbrev cX4_leastMissing : ByteArray := prog_6_method_6_code
def yX4_leastMissing : MethodName := ⟨RX4, "leastMissing", "(LManyPens$Slip;)I"⟩
abbrev cX4_lesserMissing : ByteArray := prog_6_method_7_code
def yX4_lesserMissing : MethodName := ⟨RX4, "lesserMissing", "(II)I"⟩
abbrev cX4_take : ByteArray := prog_6_method_8_code
def yX4_take : MethodName := ⟨RX4, "take", "(LManyPens$Slip;)V"⟩
def RX5 : String := "ManyPens$Slip"
def TX5 : u_T := fun k => match k with
  | _ => ("", "", "", false)
def tyX5 : Nat → FieldType := fun k => match k with
  | _ => .int
abbrev wsX50 : List Cond := u_ws RX5 TX5 0
theorem nmX5 : ∀ a, a < 0 → ∀ b, b < 0 → a ≠ b → (TX5 a).2.1 ≠ (TX5 b).2.1 := by decide +kernel
theorem tyX5_ok : ∀ k, k < 0 → parseFieldDescriptor (TX5 k).2.2.1 = some (tyX5 k) := by decide +kernel
abbrev cX5_init : ByteArray := prog_7_method_1_code
def yX5_init : MethodName := ⟨RX5, "<init>", "(ILManyPens$Sheet;)V"⟩
abbrev cX5_isLaterThan : ByteArray := prog_7_method_7_code
def yX5_isLaterThan : MethodName := ⟨RX5, "isLaterThan", "(LManyPens$Slip;)Z"⟩
def RX6 : String := "ManyPens$Strike"
def TX6 : u_T := fun k => match k with
  | 0 => ("ManyPens$Slip", "number", "I", true)
  | 1 => ("ManyPens$Slip", "pen", "I", true)
  | 2 => ("ManyPens$Slip", "stamp", "I", true)
  | 3 => ("ManyPens$Slip", "prior", "I", true)
  | _ => ("ManyPens$Strike", "names", "[I", true)
def tyX6 : Nat → FieldType := fun k => match k with
  | 0 => .int
  | 1 => .int
  | 2 => .int
  | 3 => .int
  | _ => .array .int
abbrev wsX60 : List Cond := u_ws RX6 TX6 5
theorem nmX6 : ∀ a, a < 5 → ∀ b, b < 5 → a ≠ b → (TX6 a).2.1 ≠ (TX6 b).2.1 := by decide +kernel
theorem tyX6_ok : ∀ k, k < 5 → parseFieldDescriptor (TX6 k).2.2.1 = some (tyX6 k) := by decide +kernel
abbrev cX6_init : ByteArray := prog_8_method_1_code
def yX6_init : MethodName := ⟨RX6, "<init>", "(ILManyPens$Sheet;[I)V"⟩
abbrev cX6_kind : ByteArray := prog_8_method_2_code
def yX6_kind : MethodName := ⟨RX6, "kind", "()I"⟩
abbrev cX6_size : ByteArray := prog_8_method_3_code
def yX6_size : MethodName := ⟨RX6, "size", "()I"⟩
abbrev cX6_nameOf : ByteArray := prog_8_method_4_code
def yX6_nameOf : MethodName := ⟨RX6, "nameOf", "(I)I"⟩
abbrev cX6_howManyNeeds : ByteArray := prog_8_method_5_code
def yX6_howManyNeeds : MethodName := ⟨RX6, "howManyNeeds", "()I"⟩
abbrev cX6_need : ByteArray := prog_8_method_6_code
def yX6_need : MethodName := ⟨RX6, "need", "(I)I"⟩
def RX7 : String := "ManyPens$Undo"
def TX7 : u_T := fun k => match k with
  | 0 => ("ManyPens$Slip", "number", "I", true)
  | 1 => ("ManyPens$Slip", "pen", "I", true)
  | 2 => ("ManyPens$Slip", "stamp", "I", true)
  | 3 => ("ManyPens$Slip", "prior", "I", true)
  | _ => ("ManyPens$Undo", "undone", "I", true)
def tyX7 : Nat → FieldType := fun k => match k with
  | 0 => .int
  | 1 => .int
  | 2 => .int
  | 3 => .int
  | _ => .int
abbrev wsX70 : List Cond := u_ws RX7 TX7 5
theorem nmX7 : ∀ a, a < 5 → ∀ b, b < 5 → a ≠ b → (TX7 a).2.1 ≠ (TX7 b).2.1 := by decide +kernel
theorem tyX7_ok : ∀ k, k < 5 → parseFieldDescriptor (TX7 k).2.2.1 = some (tyX7 k) := by decide +kernel
abbrev cX7_init : ByteArray := prog_9_method_1_code
def yX7_init : MethodName := ⟨RX7, "<init>", "(ILManyPens$Sheet;I)V"⟩
abbrev cX7_kind : ByteArray := prog_9_method_2_code
def yX7_kind : MethodName := ⟨RX7, "kind", "()I"⟩
abbrev cX7_size : ByteArray := prog_9_method_3_code
def yX7_size : MethodName := ⟨RX7, "size", "()I"⟩
abbrev cX7_nameOf : ByteArray := prog_9_method_4_code
def yX7_nameOf : MethodName := ⟨RX7, "nameOf", "(I)I"⟩
abbrev cX7_howManyNeeds : ByteArray := prog_9_method_5_code
def yX7_howManyNeeds : MethodName := ⟨RX7, "howManyNeeds", "()I"⟩
abbrev cX7_need : ByteArray := prog_9_method_6_code
def yX7_need : MethodName := ⟨RX7, "need", "(I)I"⟩
def RX8 : String := "ManyPens"
def TX8 : u_T := fun k => match k with
  | 0 => ("ManyPens", "book", "LManyPens$Book;", true)
  | 1 => ("ManyPens", "sheets", "[LManyPens$Sheet;", true)
  | 2 => ("ManyPens", "reading", "LManyPens$Reading;", true)
  | 3 => ("ManyPens", "looks", "[I", true)
  | _ => ("ManyPens", "finding", "I", false)
def tyX8 : Nat → FieldType := fun k => match k with
  | 0 => .object "ManyPens$Book"
  | 1 => .array (.object "ManyPens$Sheet")
  | 2 => .object "ManyPens$Reading"
  | 3 => .array .int
  | _ => .int
abbrev wsX80 : List Cond := u_ws RX8 TX8 5
theorem nmX8 : ∀ a, a < 5 → ∀ b, b < 5 → a ≠ b → (TX8 a).2.1 ≠ (TX8 b).2.1 := by decide +kernel
theorem tyX8_ok : ∀ k, k < 5 → parseFieldDescriptor (TX8 k).2.2.1 = some (tyX8 k) := by decide +kernel
abbrev cX8_init : ByteArray := prog_1_method_1_code
def yX8_init : MethodName := ⟨RX8, "<init>", "()V"⟩
abbrev cX8_type : ByteArray := prog_1_method_2_code
def yX8_type : MethodName := ⟨RX8, "type", "(IIIII)I"⟩
abbrev cX8_strike : ByteArray := prog_1_method_3_code
def yX8_strike : MethodName := ⟨RX8, "strike", "(III)I"⟩
abbrev cX8_mark : ByteArray := prog_1_method_4_code
def yX8_mark : MethodName := ⟨RX8, "mark", "(IIIII)I"⟩
abbrev cX8_undo : ByteArray := prog_1_method_5_code
def yX8_undo : MethodName := ⟨RX8, "undo", "(II)I"⟩
abbrev cX8_carry : ByteArray := prog_1_method_6_code
def yX8_carry : MethodName := ⟨RX8, "carry", "(II)I"⟩
abbrev cX8_all : ByteArray := prog_1_method_7_code
def yX8_all : MethodName := ⟨RX8, "all", "(II)I"⟩
abbrev cX8_state : ByteArray := prog_1_method_8_code
def yX8_state : MethodName := ⟨RX8, "state", "(II)I"⟩
abbrev cX8_lacks : ByteArray := prog_1_method_9_code
def yX8_lacks : MethodName := ⟨RX8, "lacks", "(II)I"⟩
abbrev cX8_slips : ByteArray := prog_1_method_10_code
def yX8_slips : MethodName := ⟨RX8, "slips", "()I"⟩
abbrev cX8_slip : ByteArray := prog_1_method_11_code
def yX8_slip : MethodName := ⟨RX8, "slip", "(II)I"⟩
abbrev cX8_part : ByteArray := prog_1_method_12_code
def yX8_part : MethodName := ⟨RX8, "part", "(II)I"⟩
abbrev cX8_left : ByteArray := prog_1_method_13_code
def yX8_left : MethodName := ⟨RX8, "left", "(I)I"⟩
abbrev cX8_bound : ByteArray := prog_1_method_14_code
def yX8_bound : MethodName := ⟨RX8, "bound", "(I)I"⟩
abbrev cX8_undone : ByteArray := prog_1_method_15_code
def yX8_undone : MethodName := ⟨RX8, "undone", "(I)I"⟩
abbrev cX8_later : ByteArray := prog_1_method_16_code
def yX8_later : MethodName := ⟨RX8, "later", "(II)Z"⟩
abbrev cX8_length : ByteArray := prog_1_method_17_code
def yX8_length : MethodName := ⟨RX8, "length", "(I)I"⟩
abbrev cX8_text : ByteArray := prog_1_method_18_code
def yX8_text : MethodName := ⟨RX8, "text", "(III)I"⟩
abbrev cX8_signs : ByteArray := prog_1_method_19_code
def yX8_signs : MethodName := ⟨RX8, "signs", "(I)I"⟩
abbrev cX8_order : ByteArray := prog_1_method_20_code
def yX8_order : MethodName := ⟨RX8, "order", "(II)I"⟩
abbrev cX8_place : ByteArray := prog_1_method_21_code
def yX8_place : MethodName := ⟨RX8, "place", "(II)I"⟩
abbrev cX8_strikers : ByteArray := prog_1_method_22_code
def yX8_strikers : MethodName := ⟨RX8, "strikers", "(II)I"⟩
abbrev cX8_spans : ByteArray := prog_1_method_23_code
def yX8_spans : MethodName := ⟨RX8, "spans", "(II)I"⟩
abbrev cX8_history : ByteArray := prog_1_method_24_code
def yX8_history : MethodName := ⟨RX8, "history", "(II)I"⟩
abbrev cX8_asOf : ByteArray := prog_1_method_25_code
def yX8_asOf : MethodName := ⟨RX8, "asOf", "(III)I"⟩
abbrev cX8_unlike : ByteArray := prog_1_method_26_code
def yX8_unlike : MethodName := ⟨RX8, "unlike", "(II)I"⟩
abbrev cX8_cursor : ByteArray := prog_1_method_27_code
def yX8_cursor : MethodName := ⟨RX8, "cursor", "(IIII)I"⟩
abbrev cX8_where : ByteArray := prog_1_method_28_code
def yX8_where : MethodName := ⟨RX8, "where", "(II)I"⟩
abbrev cX8_status : ByteArray := prog_1_method_29_code
def yX8_status : MethodName := ⟨RX8, "status", "()I"⟩
abbrev cX8_refuse : ByteArray := prog_1_method_30_code
def yX8_refuse : MethodName := ⟨RX8, "refuse", "(I)I"⟩
abbrev cX8_done : ByteArray := prog_1_method_31_code
def yX8_done : MethodName := ⟨RX8, "done", "(I)I"⟩
abbrev cX8_enter : ByteArray := prog_1_method_32_code
def yX8_enter : MethodName := ⟨RX8, "enter", "(LManyPens$Sheet;LManyPens$Slip;)I"⟩
abbrev cX8_sheetOf : ByteArray := prog_1_method_33_code
def yX8_sheetOf : MethodName := ⟨RX8, "sheetOf", "(I)LManyPens$Sheet;"⟩
abbrev cX8_read : ByteArray := prog_1_method_34_code
def yX8_read : MethodName := ⟨RX8, "read", "(I)Z"⟩
abbrev cX8_haveSameTaken : ByteArray := prog_1_method_35_code
def yX8_haveSameTaken : MethodName := ⟨RX8, "haveSameTaken", "(LManyPens$Sheet;LManyPens$Sheet;)Z"⟩
abbrev cX8_placesAlike : ByteArray := prog_1_method_36_code
def yX8_placesAlike : MethodName := ⟨RX8, "placesAlike", "(LManyPens$Sheet;LManyPens$Sheet;)I"⟩
abbrev cX8_codesAheadOfNone : ByteArray := prog_1_method_37_code
def yX8_codesAheadOfNone : MethodName := ⟨RX8, "codesAheadOfNone", "(III)[I"⟩
abbrev cX8_arePutCodes : ByteArray := prog_1_method_38_code
def yX8_arePutCodes : MethodName := ⟨RX8, "arePutCodes", "([I)Z"⟩
abbrev cX8_isTint : ByteArray := prog_1_method_39_code
def yX8_isTint : MethodName := ⟨RX8, "isTint", "(I)Z"⟩
abbrev cX8_isCursor : ByteArray := prog_1_method_40_code
def yX8_isCursor : MethodName := ⟨RX8, "isCursor", "(I)Z"⟩
abbrev cX8_putOf : ByteArray := prog_1_method_41_code
def yX8_putOf : MethodName := ⟨RX8, "putOf", "(I)I"⟩
def RX9 : String := "ManyPensModel"
def TX9 : u_T := fun k => match k with
  | 0 => ("ManyPensModel", "penOf", "[I", true)
  | 1 => ("ManyPensModel", "stampOf", "[I", true)
  | 2 => ("ManyPensModel", "kindOf", "[I", true)
  | 3 => ("ManyPensModel", "sizeOf", "[I", true)
  | 4 => ("ManyPensModel", "signOf", "[I", true)
  | 5 => ("ManyPensModel", "codeOf", "[I", true)
  | 6 => ("ManyPensModel", "linkOf", "[I", true)
  | 7 => ("ManyPensModel", "tintOf", "[I", true)
  | 8 => ("ManyPensModel", "isOn", "[Z", true)
  | 9 => ("ManyPensModel", "slips", "I", false)
  | 10 => ("ManyPensModel", "got", "[Z", true)
  | 11 => ("ManyPensModel", "beside", "[I", true)
  | 12 => ("ManyPensModel", "leanOf", "[I", true)
  | 13 => ("ManyPensModel", "finding", "I", false)
  | 14 => ("ManyPensModel", "taken", "[Z", true)
  | 15 => ("ManyPensModel", "works", "[Z", true)
  | 16 => ("ManyPensModel", "order", "[I", true)
  | 17 => ("ManyPensModel", "orderSize", "I", false)
  | 18 => ("ManyPensModel", "seen", "[Z", true)
  | 19 => ("ManyPensModel", "needed", "[I", true)
  | 20 => ("ManyPensModel", "needs", "I", false)
  | 21 => ("ManyPensModel", "pilePut", "[I", true)
  | 22 => ("ManyPensModel", "pileAt", "[I", true)
  | 23 => ("ManyPensModel", "piled", "I", false)
  | 24 => ("ManyPensModel", "three", "[I", true)
  | 25 => ("ManyPensModel", "other", "[Z", true)
  | 26 => ("ManyPensModel", "firstName", "[I", true)
  | _ => ("ManyPensModel", "firstTints", "[I", true)
def tyX9 : Nat → FieldType := fun k => match k with
  | 0 => .array .int
  | 1 => .array .int
  | 2 => .array .int
  | 3 => .array .int
  | 4 => .array .int
  | 5 => .array .int
  | 6 => .array .int
  | 7 => .array .int
  | 8 => .array .boolean
  | 9 => .int
  | 10 => .array .boolean
  | 11 => .array .int
  | 12 => .array .int
  | 13 => .int
  | 14 => .array .boolean
  | 15 => .array .boolean
  | 16 => .array .int
  | 17 => .int
  | 18 => .array .boolean
  | 19 => .array .int
  | 20 => .int
  | 21 => .array .int
  | 22 => .array .int
  | 23 => .int
  | 24 => .array .int
  | 25 => .array .boolean
  | 26 => .array .int
  | _ => .array .int
abbrev wsX90 : List Cond := u_ws RX9 TX9 28
theorem nmX9 : ∀ a, a < 28 → ∀ b, b < 28 → a ≠ b → (TX9 a).2.1 ≠ (TX9 b).2.1 := by decide +kernel
theorem tyX9_ok : ∀ k, k < 28 → parseFieldDescriptor (TX9 k).2.2.1 = some (tyX9 k) := by decide +kernel
abbrev cX9_init : ByteArray := prog_11_method_1_code
def yX9_init : MethodName := ⟨RX9, "<init>", "()V"⟩
abbrev cX9_refuse : ByteArray := prog_11_method_2_code
def yX9_refuse : MethodName := ⟨RX9, "refuse", "(I)I"⟩
abbrev cX9_done : ByteArray := prog_11_method_3_code
def yX9_done : MethodName := ⟨RX9, "done", "(I)I"⟩
abbrev cX9_isPen : ByteArray := prog_11_method_4_code
def yX9_isPen : MethodName := ⟨RX9, "isPen", "(I)Z"⟩
abbrev cX9_isSlip : ByteArray := prog_11_method_5_code
def yX9_isSlip : MethodName := ⟨RX9, "isSlip", "(I)Z"⟩
abbrev cX9_isLater : ByteArray := prog_11_method_6_code
def yX9_isLater : MethodName := ⟨RX9, "isLater", "(II)Z"⟩
abbrev cX9_latestOf : ByteArray := prog_11_method_7_code
def yX9_latestOf : MethodName := ⟨RX9, "latestOf", "(II)I"⟩
abbrev cX9_need : ByteArray := prog_11_method_8_code
def yX9_need : MethodName := ⟨RX9, "need", "(I)V"⟩
abbrev cX9_findNeeds : ByteArray := prog_11_method_9_code
def yX9_findNeeds : MethodName := ⟨RX9, "findNeeds", "(I)V"⟩
abbrev cX9_hasNeeds : ByteArray := prog_11_method_10_code
def yX9_hasNeeds : MethodName := ⟨RX9, "hasNeeds", "(I)Z"⟩
abbrev cX9_findTaken : ByteArray := prog_11_method_11_code
def yX9_findTaken : MethodName := ⟨RX9, "findTaken", "(I)I"⟩
abbrev cX9_findWorks : ByteArray := prog_11_method_12_code
def yX9_findWorks : MethodName := ⟨RX9, "findWorks", "()V"⟩
abbrev cX9_pilePuts : ByteArray := prog_11_method_13_code
def yX9_pilePuts : MethodName := ⟨RX9, "pilePuts", "(I)V"⟩
abbrev cX9_findOrder : ByteArray := prog_11_method_14_code
def yX9_findOrder : MethodName := ⟨RX9, "findOrder", "()V"⟩
abbrev cX9_isStruck : ByteArray := prog_11_method_15_code
def yX9_isStruck : MethodName := ⟨RX9, "isStruck", "(I)Z"⟩
abbrev cX9_strikesOf : ByteArray := prog_11_method_16_code
def yX9_strikesOf : MethodName := ⟨RX9, "strikesOf", "(I)I"⟩
abbrev cX9_findText : ByteArray := prog_11_method_17_code
def yX9_findText : MethodName := ⟨RX9, "findText", "()I"⟩
abbrev cX9_sheet : ByteArray := prog_11_method_18_code
def yX9_sheet : MethodName := ⟨RX9, "sheet", "(I)I"⟩
abbrev cX9_atPlace : ByteArray := prog_11_method_19_code
def yX9_atPlace : MethodName := ⟨RX9, "atPlace", "(I)I"⟩
abbrev cX9_inOrder : ByteArray := prog_11_method_20_code
def yX9_inOrder : MethodName := ⟨RX9, "inOrder", "(I)I"⟩
abbrev cX9_seenAhead : ByteArray := prog_11_method_21_code
def yX9_seenAhead : MethodName := ⟨RX9, "seenAhead", "(I)I"⟩
abbrev cX9_covers : ByteArray := prog_11_method_22_code
def yX9_covers : MethodName := ⟨RX9, "covers", "(II)Z"⟩
abbrev cX9_hasTint : ByteArray := prog_11_method_23_code
def yX9_hasTint : MethodName := ⟨RX9, "hasTint", "(II)Z"⟩
abbrev cX9_tintsOf : ByteArray := prog_11_method_24_code
def yX9_tintsOf : MethodName := ⟨RX9, "tintsOf", "(I)I"⟩
abbrev cX9_make : ByteArray := prog_11_method_25_code
def yX9_make : MethodName := ⟨RX9, "make", "(III)I"⟩
abbrev cX9_type : ByteArray := prog_11_method_26_code
def yX9_type : MethodName := ⟨RX9, "type", "(IIIII)I"⟩
abbrev cX9_isRange : ByteArray := prog_11_method_27_code
def yX9_isRange : MethodName := ⟨RX9, "isRange", "(III)Z"⟩
abbrev cX9_strike : ByteArray := prog_11_method_28_code
def yX9_strike : MethodName := ⟨RX9, "strike", "(III)I"⟩
abbrev cX9_mark : ByteArray := prog_11_method_29_code
def yX9_mark : MethodName := ⟨RX9, "mark", "(IIIII)I"⟩
abbrev cX9_undo : ByteArray := prog_11_method_30_code
def yX9_undo : MethodName := ⟨RX9, "undo", "(II)I"⟩
abbrev cX9_carry : ByteArray := prog_11_method_31_code
def yX9_carry : MethodName := ⟨RX9, "carry", "(II)I"⟩
abbrev cX9_all : ByteArray := prog_11_method_32_code
def yX9_all : MethodName := ⟨RX9, "all", "(II)I"⟩
abbrev cX9_state : ByteArray := prog_11_method_33_code
def yX9_state : MethodName := ⟨RX9, "state", "(II)I"⟩
abbrev cX9_lacks : ByteArray := prog_11_method_34_code
def yX9_lacks : MethodName := ⟨RX9, "lacks", "(II)I"⟩
abbrev cX9_slips : ByteArray := prog_11_method_35_code
def yX9_slips : MethodName := ⟨RX9, "slips", "()I"⟩
abbrev cX9_slip : ByteArray := prog_11_method_36_code
def yX9_slip : MethodName := ⟨RX9, "slip", "(II)I"⟩
abbrev cX9_part : ByteArray := prog_11_method_37_code
def yX9_part : MethodName := ⟨RX9, "part", "(II)I"⟩
abbrev cX9_linked : ByteArray := prog_11_method_38_code
def yX9_linked : MethodName := ⟨RX9, "linked", "(II)I"⟩
abbrev cX9_left : ByteArray := prog_11_method_39_code
def yX9_left : MethodName := ⟨RX9, "left", "(I)I"⟩
abbrev cX9_bound : ByteArray := prog_11_method_40_code
def yX9_bound : MethodName := ⟨RX9, "bound", "(I)I"⟩
abbrev cX9_undone : ByteArray := prog_11_method_41_code
def yX9_undone : MethodName := ⟨RX9, "undone", "(I)I"⟩
abbrev cX9_later : ByteArray := prog_11_method_42_code
def yX9_later : MethodName := ⟨RX9, "later", "(II)Z"⟩
abbrev cX9_length : ByteArray := prog_11_method_43_code
def yX9_length : MethodName := ⟨RX9, "length", "(I)I"⟩
abbrev cX9_text : ByteArray := prog_11_method_44_code
def yX9_text : MethodName := ⟨RX9, "text", "(III)I"⟩
abbrev cX9_signs : ByteArray := prog_11_method_45_code
def yX9_signs : MethodName := ⟨RX9, "signs", "(I)I"⟩
abbrev cX9_order : ByteArray := prog_11_method_46_code
def yX9_order : MethodName := ⟨RX9, "order", "(II)I"⟩
abbrev cX9_place : ByteArray := prog_11_method_47_code
def yX9_place : MethodName := ⟨RX9, "place", "(II)I"⟩
abbrev cX9_strikers : ByteArray := prog_11_method_48_code
def yX9_strikers : MethodName := ⟨RX9, "strikers", "(II)I"⟩
abbrev cX9_spans : ByteArray := prog_11_method_49_code
def yX9_spans : MethodName := ⟨RX9, "spans", "(II)I"⟩
abbrev cX9_history : ByteArray := prog_11_method_50_code
def yX9_history : MethodName := ⟨RX9, "history", "(II)I"⟩
abbrev cX9_asOf : ByteArray := prog_11_method_51_code
def yX9_asOf : MethodName := ⟨RX9, "asOf", "(III)I"⟩
abbrev cX9_unlike : ByteArray := prog_11_method_52_code
def yX9_unlike : MethodName := ⟨RX9, "unlike", "(II)I"⟩
abbrev cX9_cursor : ByteArray := prog_11_method_53_code
def yX9_cursor : MethodName := ⟨RX9, "cursor", "(IIII)I"⟩
abbrev cX9_where : ByteArray := prog_11_method_54_code
def yX9_where : MethodName := ⟨RX9, "where", "(II)I"⟩
abbrev cX9_status : ByteArray := prog_11_method_55_code
def yX9_status : MethodName := ⟨RX9, "status", "()I"⟩
def RJx8e188 : String := "java/lang/Cloneable"
def TJx8e188 : u_T := fun k => match k with
  | _ => ("", "", "", false)
def tyJx8e188 : Nat → FieldType := fun k => match k with
  | _ => .int
abbrev wsJx8e1880 : List Cond := u_ws RJx8e188 TJx8e188 0
theorem nmJx8e188 : ∀ a, a < 0 → ∀ b, b < 0 → a ≠ b → (TJx8e188 a).2.1 ≠ (TJx8e188 b).2.1 := by decide +kernel
theorem tyJx8e188_ok : ∀ k, k < 0 → parseFieldDescriptor (TJx8e188 k).2.2.1 = some (tyJx8e188 k) := by decide +kernel
def RJ9 : String := "java/lang/Math"
def TJ9 : u_T := fun k => match k with
  | _ => ("", "", "", false)
def tyJ9 : Nat → FieldType := fun k => match k with
  | _ => .int
abbrev wsJ90 : List Cond := u_ws RJ9 TJ9 0
theorem nmJ9 : ∀ a, a < 0 → ∀ b, b < 0 → a ≠ b → (TJ9 a).2.1 ≠ (TJ9 b).2.1 := by decide +kernel
theorem tyJ9_ok : ∀ k, k < 0 → parseFieldDescriptor (TJ9 k).2.2.1 = some (tyJ9 k) := by decide +kernel
abbrev cJ9_max_7cf53 : ByteArray := prog_13_method_65_code
def yJ9_max_7cf53 : MethodName := ⟨RJ9, "max", "(II)I"⟩
abbrev cJ9_min_7cf53 : ByteArray := prog_13_method_69_code
def yJ9_min_7cf53 : MethodName := ⟨RJ9, "min", "(II)I"⟩
def RJ10 : String := "java/lang/System"
def TJ10 : u_T := fun k => match k with
  | _ => ("", "", "", false)
def tyJ10 : Nat → FieldType := fun k => match k with
  | _ => .int
abbrev wsJ100 : List Cond := u_ws RJ10 TJ10 0
theorem nmJ10 : ∀ a, a < 0 → ∀ b, b < 0 → a ≠ b → (TJ10 a).2.1 ≠ (TJ10 b).2.1 := by decide +kernel
theorem tyJ10_ok : ∀ k, k < 0 → parseFieldDescriptor (TJ10 k).2.2.1 = some (tyJ10 k) := by decide +kernel
def RJ7 : String := "java/util/Arrays"
def TJ7 : u_T := fun k => match k with
  | _ => ("", "", "", false)
def tyJ7 : Nat → FieldType := fun k => match k with
  | _ => .int
abbrev wsJ70 : List Cond := u_ws RJ7 TJ7 0
theorem nmJ7 : ∀ a, a < 0 → ∀ b, b < 0 → a ≠ b → (TJ7 a).2.1 ≠ (TJ7 b).2.1 := by decide +kernel
theorem tyJ7_ok : ∀ k, k < 0 → parseFieldDescriptor (TJ7 k).2.2.1 = some (tyJ7 k) := by decide +kernel
abbrev cJ7_fill_53178 : ByteArray := prog_15_method_103_code
def yJ7_fill_53178 : MethodName := ⟨RJ7, "fill", "([II)V"⟩
abbrev cJ7_copyOf_59c91 : ByteArray := prog_15_method_123_code
def yJ7_copyOf_59c91 : MethodName := ⟨RJ7, "copyOf", "([II)[I"⟩
def RL : String := "ManyPensLaw"
abbrev cL_law : ByteArray := code
def yL_law : MethodName := ⟨RL, "law", "([I)Z"⟩
abbrev vwCl : List vw_C := [(RX0, TX0, 5), (RX1, TX1, 9), (RX2, TX2, 6), (RX3, TX3, 10), (RX4, TX4, 6), (RX6, TX6, 5), (RX7, TX7, 5), (RX8, TX8, 5), (RX9, TX9, 28)]
end
section
theorem dX9_init_0 : decode cX9_init 0 = .ok (.aload_n 0, 1) := by decide +kernel
theorem dX9_init_1 : decode cX9_init 1 = .ok (.invokespecial 1, 3) := by decide +kernel
theorem dX9_init_4 : decode cX9_init 4 = .ok (.aload_n 0, 1) := by decide +kernel
theorem dX9_init_5 : decode cX9_init 5 = .ok (.sipush 256, 3) := by decide +kernel
theorem dX9_init_8 : decode cX9_init 8 = .ok (.newarray .int, 2) := by decide +kernel
theorem dX9_init_10 : decode cX9_init 10 = .ok (.putfield 7, 3) := by decide +kernel
theorem dX9_init_13 : decode cX9_init 13 = .ok (.aload_n 0, 1) := by decide +kernel
theorem dX9_init_14 : decode cX9_init 14 = .ok (.sipush 256, 3) := by decide +kernel
theorem dX9_init_17 : decode cX9_init 17 = .ok (.newarray .int, 2) := by decide +kernel
theorem dX9_init_19 : decode cX9_init 19 = .ok (.putfield 13, 3) := by decide +kernel
theorem dX9_init_22 : decode cX9_init 22 = .ok (.aload_n 0, 1) := by decide +kernel
theorem dX9_init_23 : decode cX9_init 23 = .ok (.sipush 256, 3) := by decide +kernel
theorem dX9_init_26 : decode cX9_init 26 = .ok (.newarray .int, 2) := by decide +kernel
theorem dX9_init_28 : decode cX9_init 28 = .ok (.putfield 16, 3) := by decide +kernel
theorem dX9_init_31 : decode cX9_init 31 = .ok (.aload_n 0, 1) := by decide +kernel
theorem dX9_init_32 : decode cX9_init 32 = .ok (.sipush 256, 3) := by decide +kernel
theorem dX9_init_35 : decode cX9_init 35 = .ok (.newarray .int, 2) := by decide +kernel
theorem dX9_init_37 : decode cX9_init 37 = .ok (.putfield 19, 3) := by decide +kernel
theorem dX9_init_40 : decode cX9_init 40 = .ok (.aload_n 0, 1) := by decide +kernel
theorem dX9_init_41 : decode cX9_init 41 = .ok (.sipush 3072, 3) := by decide +kernel
theorem dX9_init_44 : decode cX9_init 44 = .ok (.newarray .int, 2) := by decide +kernel
theorem dX9_init_46 : decode cX9_init 46 = .ok (.putfield 22, 3) := by decide +kernel
theorem dX9_init_49 : decode cX9_init 49 = .ok (.aload_n 0, 1) := by decide +kernel
theorem dX9_init_50 : decode cX9_init 50 = .ok (.sipush 1024, 3) := by decide +kernel
theorem dX9_init_53 : decode cX9_init 53 = .ok (.newarray .int, 2) := by decide +kernel
theorem dX9_init_55 : decode cX9_init 55 = .ok (.putfield 25, 3) := by decide +kernel
theorem dX9_init_58 : decode cX9_init 58 = .ok (.aload_n 0, 1) := by decide +kernel
theorem dX9_init_59 : decode cX9_init 59 = .ok (.sipush 256, 3) := by decide +kernel
theorem dX9_init_62 : decode cX9_init 62 = .ok (.newarray .int, 2) := by decide +kernel
theorem dX9_init_64 : decode cX9_init 64 = .ok (.putfield 28, 3) := by decide +kernel
theorem dX9_init_67 : decode cX9_init 67 = .ok (.aload_n 0, 1) := by decide +kernel
theorem dX9_init_68 : decode cX9_init 68 = .ok (.sipush 256, 3) := by decide +kernel
theorem dX9_init_71 : decode cX9_init 71 = .ok (.newarray .int, 2) := by decide +kernel
theorem dX9_init_73 : decode cX9_init 73 = .ok (.putfield 31, 3) := by decide +kernel
theorem dX9_init_76 : decode cX9_init 76 = .ok (.aload_n 0, 1) := by decide +kernel
theorem dX9_init_77 : decode cX9_init 77 = .ok (.sipush 256, 3) := by decide +kernel
theorem dX9_init_80 : decode cX9_init 80 = .ok (.newarray .boolean, 2) := by decide +kernel
theorem dX9_init_82 : decode cX9_init 82 = .ok (.putfield 34, 3) := by decide +kernel
theorem dX9_init_85 : decode cX9_init 85 = .ok (.aload_n 0, 1) := by decide +kernel
theorem dX9_init_86 : decode cX9_init 86 = .ok (.sipush 1536, 3) := by decide +kernel
theorem dX9_init_89 : decode cX9_init 89 = .ok (.newarray .boolean, 2) := by decide +kernel
theorem dX9_init_91 : decode cX9_init 91 = .ok (.putfield 38, 3) := by decide +kernel
theorem dX9_init_94 : decode cX9_init 94 = .ok (.aload_n 0, 1) := by decide +kernel
theorem dX9_init_95 : decode cX9_init 95 = .ok (.bipush 18, 2) := by decide +kernel
theorem dX9_init_97 : decode cX9_init 97 = .ok (.newarray .int, 2) := by decide +kernel
theorem dX9_init_99 : decode cX9_init 99 = .ok (.putfield 41, 3) := by decide +kernel
theorem dX9_init_102 : decode cX9_init 102 = .ok (.aload_n 0, 1) := by decide +kernel
theorem dX9_init_103 : decode cX9_init 103 = .ok (.bipush 18, 2) := by decide +kernel
theorem dX9_init_105 : decode cX9_init 105 = .ok (.newarray .int, 2) := by decide +kernel
theorem dX9_init_107 : decode cX9_init 107 = .ok (.putfield 44, 3) := by decide +kernel
theorem dX9_init_110 : decode cX9_init 110 = .ok (.aload_n 0, 1) := by decide +kernel
theorem dX9_init_111 : decode cX9_init 111 = .ok (.sipush 256, 3) := by decide +kernel
theorem dX9_init_114 : decode cX9_init 114 = .ok (.newarray .boolean, 2) := by decide +kernel
theorem dX9_init_116 : decode cX9_init 116 = .ok (.putfield 47, 3) := by decide +kernel
theorem dX9_init_119 : decode cX9_init 119 = .ok (.aload_n 0, 1) := by decide +kernel
theorem dX9_init_120 : decode cX9_init 120 = .ok (.sipush 256, 3) := by decide +kernel
theorem dX9_init_123 : decode cX9_init 123 = .ok (.newarray .boolean, 2) := by decide +kernel
theorem dX9_init_125 : decode cX9_init 125 = .ok (.putfield 50, 3) := by decide +kernel
theorem dX9_init_128 : decode cX9_init 128 = .ok (.aload_n 0, 1) := by decide +kernel
theorem dX9_init_129 : decode cX9_init 129 = .ok (.sipush 768, 3) := by decide +kernel
theorem dX9_init_132 : decode cX9_init 132 = .ok (.newarray .int, 2) := by decide +kernel
theorem dX9_init_134 : decode cX9_init 134 = .ok (.putfield 53, 3) := by decide +kernel
theorem dX9_init_137 : decode cX9_init 137 = .ok (.aload_n 0, 1) := by decide +kernel
theorem dX9_init_138 : decode cX9_init 138 = .ok (.sipush 768, 3) := by decide +kernel
theorem dX9_init_141 : decode cX9_init 141 = .ok (.newarray .boolean, 2) := by decide +kernel
theorem dX9_init_143 : decode cX9_init 143 = .ok (.putfield 56, 3) := by decide +kernel
theorem dX9_init_146 : decode cX9_init 146 = .ok (.aload_n 0, 1) := by decide +kernel
theorem dX9_init_147 : decode cX9_init 147 = .ok (.bipush 16, 2) := by decide +kernel
theorem dX9_init_149 : decode cX9_init 149 = .ok (.newarray .int, 2) := by decide +kernel
theorem dX9_init_151 : decode cX9_init 151 = .ok (.putfield 59, 3) := by decide +kernel
theorem dX9_init_154 : decode cX9_init 154 = .ok (.aload_n 0, 1) := by decide +kernel
theorem dX9_init_155 : decode cX9_init 155 = .ok (.sipush 800, 3) := by decide +kernel
theorem dX9_init_158 : decode cX9_init 158 = .ok (.newarray .int, 2) := by decide +kernel
theorem dX9_init_160 : decode cX9_init 160 = .ok (.putfield 62, 3) := by decide +kernel
theorem dX9_init_163 : decode cX9_init 163 = .ok (.aload_n 0, 1) := by decide +kernel
theorem dX9_init_164 : decode cX9_init 164 = .ok (.sipush 800, 3) := by decide +kernel
theorem dX9_init_167 : decode cX9_init 167 = .ok (.newarray .int, 2) := by decide +kernel
theorem dX9_init_169 : decode cX9_init 169 = .ok (.putfield 65, 3) := by decide +kernel
theorem dX9_init_172 : decode cX9_init 172 = .ok (.aload_n 0, 1) := by decide +kernel
theorem dX9_init_173 : decode cX9_init 173 = .ok (.iconst 3, 1) := by decide +kernel
theorem dX9_init_174 : decode cX9_init 174 = .ok (.newarray .int, 2) := by decide +kernel
theorem dX9_init_176 : decode cX9_init 176 = .ok (.putfield 68, 3) := by decide +kernel
theorem dX9_init_179 : decode cX9_init 179 = .ok (.aload_n 0, 1) := by decide +kernel
theorem dX9_init_180 : decode cX9_init 180 = .ok (.sipush 256, 3) := by decide +kernel
theorem dX9_init_183 : decode cX9_init 183 = .ok (.newarray .boolean, 2) := by decide +kernel
theorem dX9_init_185 : decode cX9_init 185 = .ok (.putfield 71, 3) := by decide +kernel
theorem dX9_init_188 : decode cX9_init 188 = .ok (.aload_n 0, 1) := by decide +kernel
theorem dX9_init_189 : decode cX9_init 189 = .ok (.sipush 768, 3) := by decide +kernel
theorem dX9_init_192 : decode cX9_init 192 = .ok (.newarray .int, 2) := by decide +kernel
theorem dX9_init_194 : decode cX9_init 194 = .ok (.putfield 74, 3) := by decide +kernel
theorem dX9_init_197 : decode cX9_init 197 = .ok (.aload_n 0, 1) := by decide +kernel
theorem dX9_init_198 : decode cX9_init 198 = .ok (.sipush 768, 3) := by decide +kernel
theorem dX9_init_201 : decode cX9_init 201 = .ok (.newarray .int, 2) := by decide +kernel
theorem dX9_init_203 : decode cX9_init 203 = .ok (.putfield 77, 3) := by decide +kernel
theorem dX9_init_206 : decode cX9_init 206 = .ok (.iconst 0, 1) := by decide +kernel
theorem dX9_init_207 : decode cX9_init 207 = .ok (.istore_n 1, 1) := by decide +kernel
theorem dX9_init_208 : decode cX9_init 208 = .ok (.iload_n 1, 1) := by decide +kernel
theorem dX9_init_209 : decode cX9_init 209 = .ok (.bipush 18, 2) := by decide +kernel
theorem dX9_init_211 : decode cX9_init 211 = .ok (.if_icmp .ge 16, 3) := by decide +kernel
theorem dX9_init_214 : decode cX9_init 214 = .ok (.aload_n 0, 1) := by decide +kernel
theorem dX9_init_215 : decode cX9_init 215 = .ok (.getfield 44, 3) := by decide +kernel
theorem dX9_init_218 : decode cX9_init 218 = .ok (.iload_n 1, 1) := by decide +kernel
theorem dX9_init_219 : decode cX9_init 219 = .ok (.iconst (-1), 1) := by decide +kernel
theorem dX9_init_220 : decode cX9_init 220 = .ok (.iastore, 1) := by decide +kernel
theorem dX9_init_221 : decode cX9_init 221 = .ok (.iinc 1 1, 3) := by decide +kernel
theorem dX9_init_224 : decode cX9_init 224 = .ok (.goto (-16), 3) := by decide +kernel
theorem dX9_init_227 : decode cX9_init 227 = .ok (.return_, 1) := by decide +kernel
theorem dX9_refuse_0 : decode cX9_refuse 0 = .ok (.aload_n 0, 1) := by decide +kernel
theorem dX9_refuse_1 : decode cX9_refuse 1 = .ok (.iload_n 1, 1) := by decide +kernel
theorem dX9_refuse_2 : decode cX9_refuse 2 = .ok (.putfield 80, 3) := by decide +kernel
theorem dX9_refuse_5 : decode cX9_refuse 5 = .ok (.iconst (-1), 1) := by decide +kernel
theorem dX9_refuse_6 : decode cX9_refuse 6 = .ok (.ireturn, 1) := by decide +kernel
theorem dX9_done_0 : decode cX9_done 0 = .ok (.aload_n 0, 1) := by decide +kernel
theorem dX9_done_1 : decode cX9_done 1 = .ok (.iconst 0, 1) := by decide +kernel
theorem dX9_done_2 : decode cX9_done 2 = .ok (.putfield 80, 3) := by decide +kernel
theorem dX9_done_5 : decode cX9_done 5 = .ok (.iload_n 1, 1) := by decide +kernel
theorem dX9_done_6 : decode cX9_done 6 = .ok (.ireturn, 1) := by decide +kernel
theorem dX9_isPen_0 : decode cX9_isPen 0 = .ok (.iload_n 0, 1) := by decide +kernel
theorem dX9_isPen_1 : decode cX9_isPen 1 = .ok (.ifCond .lt 13, 3) := by decide +kernel
theorem dX9_isPen_4 : decode cX9_isPen 4 = .ok (.iload_n 0, 1) := by decide +kernel
theorem dX9_isPen_5 : decode cX9_isPen 5 = .ok (.bipush 6, 2) := by decide +kernel
theorem dX9_isPen_7 : decode cX9_isPen 7 = .ok (.if_icmp .ge 7, 3) := by decide +kernel
theorem dX9_isPen_10 : decode cX9_isPen 10 = .ok (.iconst 1, 1) := by decide +kernel
theorem dX9_isPen_11 : decode cX9_isPen 11 = .ok (.goto 4, 3) := by decide +kernel
theorem dX9_isPen_14 : decode cX9_isPen 14 = .ok (.iconst 0, 1) := by decide +kernel
theorem dX9_isPen_15 : decode cX9_isPen 15 = .ok (.ireturn, 1) := by decide +kernel
theorem dX9_isSlip_0 : decode cX9_isSlip 0 = .ok (.iload_n 1, 1) := by decide +kernel
theorem dX9_isSlip_1 : decode cX9_isSlip 1 = .ok (.ifCond .lt 15, 3) := by decide +kernel
theorem dX9_isSlip_4 : decode cX9_isSlip 4 = .ok (.iload_n 1, 1) := by decide +kernel
theorem dX9_isSlip_5 : decode cX9_isSlip 5 = .ok (.aload_n 0, 1) := by decide +kernel
theorem dX9_isSlip_6 : decode cX9_isSlip 6 = .ok (.getfield 84, 3) := by decide +kernel
theorem dX9_isSlip_9 : decode cX9_isSlip 9 = .ok (.if_icmp .ge 7, 3) := by decide +kernel
theorem dX9_isSlip_12 : decode cX9_isSlip 12 = .ok (.iconst 1, 1) := by decide +kernel
theorem dX9_isSlip_13 : decode cX9_isSlip 13 = .ok (.goto 4, 3) := by decide +kernel
theorem dX9_isSlip_16 : decode cX9_isSlip 16 = .ok (.iconst 0, 1) := by decide +kernel
theorem dX9_isSlip_17 : decode cX9_isSlip 17 = .ok (.ireturn, 1) := by decide +kernel
theorem dX9_isLater_0 : decode cX9_isLater 0 = .ok (.aload_n 0, 1) := by decide +kernel
theorem dX9_isLater_1 : decode cX9_isLater 1 = .ok (.getfield 13, 3) := by decide +kernel
theorem dX9_isLater_4 : decode cX9_isLater 4 = .ok (.iload_n 1, 1) := by decide +kernel
theorem dX9_isLater_5 : decode cX9_isLater 5 = .ok (.iaload, 1) := by decide +kernel
theorem dX9_isLater_6 : decode cX9_isLater 6 = .ok (.aload_n 0, 1) := by decide +kernel
theorem dX9_isLater_7 : decode cX9_isLater 7 = .ok (.getfield 13, 3) := by decide +kernel
theorem dX9_isLater_10 : decode cX9_isLater 10 = .ok (.iload_n 2, 1) := by decide +kernel
theorem dX9_isLater_11 : decode cX9_isLater 11 = .ok (.iaload, 1) := by decide +kernel
theorem dX9_isLater_12 : decode cX9_isLater 12 = .ok (.if_icmp .eq 26, 3) := by decide +kernel
theorem dX9_isLater_15 : decode cX9_isLater 15 = .ok (.aload_n 0, 1) := by decide +kernel
theorem dX9_isLater_16 : decode cX9_isLater 16 = .ok (.getfield 13, 3) := by decide +kernel
theorem dX9_isLater_19 : decode cX9_isLater 19 = .ok (.iload_n 1, 1) := by decide +kernel
theorem dX9_isLater_20 : decode cX9_isLater 20 = .ok (.iaload, 1) := by decide +kernel
theorem dX9_isLater_21 : decode cX9_isLater 21 = .ok (.aload_n 0, 1) := by decide +kernel
theorem dX9_isLater_22 : decode cX9_isLater 22 = .ok (.getfield 13, 3) := by decide +kernel
theorem dX9_isLater_25 : decode cX9_isLater 25 = .ok (.iload_n 2, 1) := by decide +kernel
theorem dX9_isLater_26 : decode cX9_isLater 26 = .ok (.iaload, 1) := by decide +kernel
theorem dX9_isLater_27 : decode cX9_isLater 27 = .ok (.if_icmp .le 7, 3) := by decide +kernel
theorem dX9_isLater_30 : decode cX9_isLater 30 = .ok (.iconst 1, 1) := by decide +kernel
theorem dX9_isLater_31 : decode cX9_isLater 31 = .ok (.goto 27, 3) := by decide +kernel
theorem dX9_isLater_34 : decode cX9_isLater 34 = .ok (.iconst 0, 1) := by decide +kernel
theorem dX9_isLater_35 : decode cX9_isLater 35 = .ok (.goto 23, 3) := by decide +kernel
theorem dX9_isLater_38 : decode cX9_isLater 38 = .ok (.aload_n 0, 1) := by decide +kernel
theorem dX9_isLater_39 : decode cX9_isLater 39 = .ok (.getfield 7, 3) := by decide +kernel
theorem dX9_isLater_42 : decode cX9_isLater 42 = .ok (.iload_n 1, 1) := by decide +kernel
theorem dX9_isLater_43 : decode cX9_isLater 43 = .ok (.iaload, 1) := by decide +kernel
theorem dX9_isLater_44 : decode cX9_isLater 44 = .ok (.aload_n 0, 1) := by decide +kernel
theorem dX9_isLater_45 : decode cX9_isLater 45 = .ok (.getfield 7, 3) := by decide +kernel
theorem dX9_isLater_48 : decode cX9_isLater 48 = .ok (.iload_n 2, 1) := by decide +kernel
theorem dX9_isLater_49 : decode cX9_isLater 49 = .ok (.iaload, 1) := by decide +kernel
theorem dX9_isLater_50 : decode cX9_isLater 50 = .ok (.if_icmp .le 7, 3) := by decide +kernel
theorem dX9_isLater_53 : decode cX9_isLater 53 = .ok (.iconst 1, 1) := by decide +kernel
theorem dX9_isLater_54 : decode cX9_isLater 54 = .ok (.goto 4, 3) := by decide +kernel
theorem dX9_isLater_57 : decode cX9_isLater 57 = .ok (.iconst 0, 1) := by decide +kernel
theorem dX9_isLater_58 : decode cX9_isLater 58 = .ok (.ireturn, 1) := by decide +kernel
theorem dX9_latestOf_0 : decode cX9_latestOf 0 = .ok (.iconst (-1), 1) := by decide +kernel
theorem dX9_latestOf_1 : decode cX9_latestOf 1 = .ok (.istore_n 3, 1) := by decide +kernel
theorem dX9_latestOf_2 : decode cX9_latestOf 2 = .ok (.iconst 0, 1) := by decide +kernel
theorem dX9_latestOf_3 : decode cX9_latestOf 3 = .ok (.istore 4, 2) := by decide +kernel
theorem dX9_latestOf_5 : decode cX9_latestOf 5 = .ok (.iload 4, 2) := by decide +kernel
theorem dX9_latestOf_7 : decode cX9_latestOf 7 = .ok (.iload_n 2, 1) := by decide +kernel
theorem dX9_latestOf_8 : decode cX9_latestOf 8 = .ok (.if_icmp .ge 27, 3) := by decide +kernel
theorem dX9_latestOf_11 : decode cX9_latestOf 11 = .ok (.aload_n 0, 1) := by decide +kernel
theorem dX9_latestOf_12 : decode cX9_latestOf 12 = .ok (.getfield 7, 3) := by decide +kernel
theorem dX9_latestOf_15 : decode cX9_latestOf 15 = .ok (.iload 4, 2) := by decide +kernel
theorem dX9_latestOf_17 : decode cX9_latestOf 17 = .ok (.iaload, 1) := by decide +kernel
theorem dX9_latestOf_18 : decode cX9_latestOf 18 = .ok (.iload_n 1, 1) := by decide +kernel
theorem dX9_latestOf_19 : decode cX9_latestOf 19 = .ok (.if_icmp .ne 8, 3) := by decide +kernel
theorem dX9_latestOf_22 : decode cX9_latestOf 22 = .ok (.iload 4, 2) := by decide +kernel
theorem dX9_latestOf_24 : decode cX9_latestOf 24 = .ok (.goto 4, 3) := by decide +kernel
theorem dX9_latestOf_27 : decode cX9_latestOf 27 = .ok (.iload_n 3, 1) := by decide +kernel
theorem dX9_latestOf_28 : decode cX9_latestOf 28 = .ok (.istore_n 3, 1) := by decide +kernel
theorem dX9_latestOf_29 : decode cX9_latestOf 29 = .ok (.iinc 4 1, 3) := by decide +kernel
theorem dX9_latestOf_32 : decode cX9_latestOf 32 = .ok (.goto (-27), 3) := by decide +kernel
theorem dX9_latestOf_35 : decode cX9_latestOf 35 = .ok (.iload_n 3, 1) := by decide +kernel
theorem dX9_latestOf_36 : decode cX9_latestOf 36 = .ok (.ireturn, 1) := by decide +kernel
theorem dX9_need_0 : decode cX9_need 0 = .ok (.iload_n 1, 1) := by decide +kernel
theorem dX9_need_1 : decode cX9_need 1 = .ok (.ifCond .lt 23, 3) := by decide +kernel
theorem dX9_need_4 : decode cX9_need 4 = .ok (.aload_n 0, 1) := by decide +kernel
theorem dX9_need_5 : decode cX9_need 5 = .ok (.getfield 59, 3) := by decide +kernel
theorem dX9_need_8 : decode cX9_need 8 = .ok (.aload_n 0, 1) := by decide +kernel
theorem dX9_need_9 : decode cX9_need 9 = .ok (.getfield 87, 3) := by decide +kernel
theorem dX9_need_12 : decode cX9_need 12 = .ok (.iload_n 1, 1) := by decide +kernel
theorem dX9_need_13 : decode cX9_need 13 = .ok (.iastore, 1) := by decide +kernel
theorem dX9_need_14 : decode cX9_need 14 = .ok (.aload_n 0, 1) := by decide +kernel
theorem dX9_need_15 : decode cX9_need 15 = .ok (.dup, 1) := by decide +kernel
theorem dX9_need_16 : decode cX9_need 16 = .ok (.getfield 87, 3) := by decide +kernel
theorem dX9_need_19 : decode cX9_need 19 = .ok (.iconst 1, 1) := by decide +kernel
theorem dX9_need_20 : decode cX9_need 20 = .ok (.iadd, 1) := by decide +kernel
theorem dX9_need_21 : decode cX9_need 21 = .ok (.putfield 87, 3) := by decide +kernel
theorem dX9_need_24 : decode cX9_need 24 = .ok (.return_, 1) := by decide +kernel
theorem dX9_findNeeds_0 : decode cX9_findNeeds 0 = .ok (.aload_n 0, 1) := by decide +kernel
theorem dX9_findNeeds_1 : decode cX9_findNeeds 1 = .ok (.iconst 0, 1) := by decide +kernel
theorem dX9_findNeeds_2 : decode cX9_findNeeds 2 = .ok (.putfield 87, 3) := by decide +kernel
theorem dX9_findNeeds_5 : decode cX9_findNeeds 5 = .ok (.aload_n 0, 1) := by decide +kernel
theorem dX9_findNeeds_6 : decode cX9_findNeeds 6 = .ok (.aload_n 0, 1) := by decide +kernel
theorem dX9_findNeeds_7 : decode cX9_findNeeds 7 = .ok (.aload_n 0, 1) := by decide +kernel
theorem dX9_findNeeds_8 : decode cX9_findNeeds 8 = .ok (.getfield 7, 3) := by decide +kernel
theorem dX9_findNeeds_11 : decode cX9_findNeeds 11 = .ok (.iload_n 1, 1) := by decide +kernel
theorem dX9_findNeeds_12 : decode cX9_findNeeds 12 = .ok (.iaload, 1) := by decide +kernel
theorem dX9_findNeeds_13 : decode cX9_findNeeds 13 = .ok (.iload_n 1, 1) := by decide +kernel
theorem dX9_findNeeds_14 : decode cX9_findNeeds 14 = .ok (.invokevirtual 90, 3) := by decide +kernel
theorem dX9_findNeeds_17 : decode cX9_findNeeds 17 = .ok (.invokevirtual 94, 3) := by decide +kernel
theorem dX9_findNeeds_20 : decode cX9_findNeeds 20 = .ok (.aload_n 0, 1) := by decide +kernel
theorem dX9_findNeeds_21 : decode cX9_findNeeds 21 = .ok (.getfield 16, 3) := by decide +kernel
theorem dX9_findNeeds_24 : decode cX9_findNeeds 24 = .ok (.iload_n 1, 1) := by decide +kernel
theorem dX9_findNeeds_25 : decode cX9_findNeeds 25 = .ok (.iaload, 1) := by decide +kernel
theorem dX9_findNeeds_26 : decode cX9_findNeeds 26 = .ok (.iconst 1, 1) := by decide +kernel
theorem dX9_findNeeds_27 : decode cX9_findNeeds 27 = .ok (.if_icmp .eq 13, 3) := by decide +kernel
theorem dX9_findNeeds_30 : decode cX9_findNeeds 30 = .ok (.aload_n 0, 1) := by decide +kernel
theorem dX9_findNeeds_31 : decode cX9_findNeeds 31 = .ok (.getfield 16, 3) := by decide +kernel
theorem dX9_findNeeds_34 : decode cX9_findNeeds 34 = .ok (.iload_n 1, 1) := by decide +kernel
theorem dX9_findNeeds_35 : decode cX9_findNeeds 35 = .ok (.iaload, 1) := by decide +kernel
theorem dX9_findNeeds_36 : decode cX9_findNeeds 36 = .ok (.iconst 2, 1) := by decide +kernel
theorem dX9_findNeeds_37 : decode cX9_findNeeds 37 = .ok (.if_icmp .ne 38, 3) := by decide +kernel
theorem dX9_findNeeds_40 : decode cX9_findNeeds 40 = .ok (.iconst 0, 1) := by decide +kernel
theorem dX9_findNeeds_41 : decode cX9_findNeeds 41 = .ok (.istore_n 2, 1) := by decide +kernel
theorem dX9_findNeeds_42 : decode cX9_findNeeds 42 = .ok (.iload_n 2, 1) := by decide +kernel
theorem dX9_findNeeds_43 : decode cX9_findNeeds 43 = .ok (.aload_n 0, 1) := by decide +kernel
theorem dX9_findNeeds_44 : decode cX9_findNeeds 44 = .ok (.getfield 19, 3) := by decide +kernel
theorem dX9_findNeeds_47 : decode cX9_findNeeds 47 = .ok (.iload_n 1, 1) := by decide +kernel
theorem dX9_findNeeds_48 : decode cX9_findNeeds 48 = .ok (.iaload, 1) := by decide +kernel
theorem dX9_findNeeds_49 : decode cX9_findNeeds 49 = .ok (.if_icmp .ge 26, 3) := by decide +kernel
theorem dX9_findNeeds_52 : decode cX9_findNeeds 52 = .ok (.aload_n 0, 1) := by decide +kernel
theorem dX9_findNeeds_53 : decode cX9_findNeeds 53 = .ok (.aload_n 0, 1) := by decide +kernel
theorem dX9_findNeeds_54 : decode cX9_findNeeds 54 = .ok (.getfield 22, 3) := by decide +kernel
theorem dX9_findNeeds_57 : decode cX9_findNeeds 57 = .ok (.bipush 12, 2) := by decide +kernel
theorem dX9_findNeeds_59 : decode cX9_findNeeds 59 = .ok (.iload_n 1, 1) := by decide +kernel
theorem dX9_findNeeds_60 : decode cX9_findNeeds 60 = .ok (.imul, 1) := by decide +kernel
theorem dX9_findNeeds_61 : decode cX9_findNeeds 61 = .ok (.iload_n 2, 1) := by decide +kernel
theorem dX9_findNeeds_62 : decode cX9_findNeeds 62 = .ok (.iadd, 1) := by decide +kernel
theorem dX9_findNeeds_63 : decode cX9_findNeeds 63 = .ok (.iaload, 1) := by decide +kernel
theorem dX9_findNeeds_64 : decode cX9_findNeeds 64 = .ok (.iconst 4, 1) := by decide +kernel
theorem dX9_findNeeds_65 : decode cX9_findNeeds 65 = .ok (.idiv, 1) := by decide +kernel
theorem dX9_findNeeds_66 : decode cX9_findNeeds 66 = .ok (.invokevirtual 94, 3) := by decide +kernel
theorem dX9_findNeeds_69 : decode cX9_findNeeds 69 = .ok (.iinc 2 1, 3) := by decide +kernel
theorem dX9_findNeeds_72 : decode cX9_findNeeds 72 = .ok (.goto (-30), 3) := by decide +kernel
theorem dX9_findNeeds_75 : decode cX9_findNeeds 75 = .ok (.aload_n 0, 1) := by decide +kernel
theorem dX9_findNeeds_76 : decode cX9_findNeeds 76 = .ok (.getfield 16, 3) := by decide +kernel
theorem dX9_findNeeds_79 : decode cX9_findNeeds 79 = .ok (.iload_n 1, 1) := by decide +kernel
theorem dX9_findNeeds_80 : decode cX9_findNeeds 80 = .ok (.iaload, 1) := by decide +kernel
theorem dX9_findNeeds_81 : decode cX9_findNeeds 81 = .ok (.iconst 3, 1) := by decide +kernel
theorem dX9_findNeeds_82 : decode cX9_findNeeds 82 = .ok (.if_icmp .ne 16, 3) := by decide +kernel
theorem dX9_findNeeds_85 : decode cX9_findNeeds 85 = .ok (.aload_n 0, 1) := by decide +kernel
theorem dX9_findNeeds_86 : decode cX9_findNeeds 86 = .ok (.aload_n 0, 1) := by decide +kernel
theorem dX9_findNeeds_87 : decode cX9_findNeeds 87 = .ok (.getfield 28, 3) := by decide +kernel
theorem dX9_findNeeds_90 : decode cX9_findNeeds 90 = .ok (.iload_n 1, 1) := by decide +kernel
theorem dX9_findNeeds_91 : decode cX9_findNeeds 91 = .ok (.iaload, 1) := by decide +kernel
theorem dX9_findNeeds_92 : decode cX9_findNeeds 92 = .ok (.invokevirtual 94, 3) := by decide +kernel
theorem dX9_findNeeds_95 : decode cX9_findNeeds 95 = .ok (.goto 34, 3) := by decide +kernel
theorem dX9_findNeeds_98 : decode cX9_findNeeds 98 = .ok (.aload_n 0, 1) := by decide +kernel
theorem dX9_findNeeds_99 : decode cX9_findNeeds 99 = .ok (.getfield 28, 3) := by decide +kernel
theorem dX9_findNeeds_102 : decode cX9_findNeeds 102 = .ok (.iload_n 1, 1) := by decide +kernel
theorem dX9_findNeeds_103 : decode cX9_findNeeds 103 = .ok (.iaload, 1) := by decide +kernel
theorem dX9_findNeeds_104 : decode cX9_findNeeds 104 = .ok (.ifCond .lt 25, 3) := by decide +kernel
theorem dX9_findNeeds_107 : decode cX9_findNeeds 107 = .ok (.aload_n 0, 1) := by decide +kernel
theorem dX9_findNeeds_108 : decode cX9_findNeeds 108 = .ok (.getfield 16, 3) := by decide +kernel
theorem dX9_findNeeds_111 : decode cX9_findNeeds 111 = .ok (.iload_n 1, 1) := by decide +kernel
theorem dX9_findNeeds_112 : decode cX9_findNeeds 112 = .ok (.iaload, 1) := by decide +kernel
theorem dX9_findNeeds_113 : decode cX9_findNeeds 113 = .ok (.iconst 1, 1) := by decide +kernel
theorem dX9_findNeeds_114 : decode cX9_findNeeds 114 = .ok (.if_icmp .eq 15, 3) := by decide +kernel
theorem dX9_findNeeds_117 : decode cX9_findNeeds 117 = .ok (.aload_n 0, 1) := by decide +kernel
theorem dX9_findNeeds_118 : decode cX9_findNeeds 118 = .ok (.aload_n 0, 1) := by decide +kernel
theorem dX9_findNeeds_119 : decode cX9_findNeeds 119 = .ok (.getfield 28, 3) := by decide +kernel
theorem dX9_findNeeds_122 : decode cX9_findNeeds 122 = .ok (.iload_n 1, 1) := by decide +kernel
theorem dX9_findNeeds_123 : decode cX9_findNeeds 123 = .ok (.iaload, 1) := by decide +kernel
theorem dX9_findNeeds_124 : decode cX9_findNeeds 124 = .ok (.iconst 4, 1) := by decide +kernel
theorem dX9_findNeeds_125 : decode cX9_findNeeds 125 = .ok (.idiv, 1) := by decide +kernel
theorem dX9_findNeeds_126 : decode cX9_findNeeds 126 = .ok (.invokevirtual 94, 3) := by decide +kernel
theorem dX9_findNeeds_129 : decode cX9_findNeeds 129 = .ok (.return_, 1) := by decide +kernel
theorem dX9_hasNeeds_0 : decode cX9_hasNeeds 0 = .ok (.aload_n 0, 1) := by decide +kernel
theorem dX9_hasNeeds_1 : decode cX9_hasNeeds 1 = .ok (.iload_n 1, 1) := by decide +kernel
theorem dX9_hasNeeds_2 : decode cX9_hasNeeds 2 = .ok (.invokevirtual 98, 3) := by decide +kernel
theorem dX9_hasNeeds_5 : decode cX9_hasNeeds 5 = .ok (.iconst 1, 1) := by decide +kernel
theorem dX9_hasNeeds_6 : decode cX9_hasNeeds 6 = .ok (.istore_n 2, 1) := by decide +kernel
theorem dX9_hasNeeds_7 : decode cX9_hasNeeds 7 = .ok (.iconst 0, 1) := by decide +kernel
theorem dX9_hasNeeds_8 : decode cX9_hasNeeds 8 = .ok (.istore_n 3, 1) := by decide +kernel
theorem dX9_hasNeeds_9 : decode cX9_hasNeeds 9 = .ok (.iload_n 3, 1) := by decide +kernel
theorem dX9_hasNeeds_10 : decode cX9_hasNeeds 10 = .ok (.aload_n 0, 1) := by decide +kernel
theorem dX9_hasNeeds_11 : decode cX9_hasNeeds 11 = .ok (.getfield 87, 3) := by decide +kernel
theorem dX9_hasNeeds_14 : decode cX9_hasNeeds 14 = .ok (.if_icmp .ge 33, 3) := by decide +kernel
theorem dX9_hasNeeds_17 : decode cX9_hasNeeds 17 = .ok (.iload_n 2, 1) := by decide +kernel
theorem dX9_hasNeeds_18 : decode cX9_hasNeeds 18 = .ok (.ifCond .eq 21, 3) := by decide +kernel
theorem dX9_hasNeeds_21 : decode cX9_hasNeeds 21 = .ok (.aload_n 0, 1) := by decide +kernel
theorem dX9_hasNeeds_22 : decode cX9_hasNeeds 22 = .ok (.getfield 47, 3) := by decide +kernel
theorem dX9_hasNeeds_25 : decode cX9_hasNeeds 25 = .ok (.aload_n 0, 1) := by decide +kernel
theorem dX9_hasNeeds_26 : decode cX9_hasNeeds 26 = .ok (.getfield 59, 3) := by decide +kernel
theorem dX9_hasNeeds_29 : decode cX9_hasNeeds 29 = .ok (.iload_n 3, 1) := by decide +kernel
theorem dX9_hasNeeds_30 : decode cX9_hasNeeds 30 = .ok (.iaload, 1) := by decide +kernel
theorem dX9_hasNeeds_31 : decode cX9_hasNeeds 31 = .ok (.baload, 1) := by decide +kernel
theorem dX9_hasNeeds_32 : decode cX9_hasNeeds 32 = .ok (.ifCond .eq 7, 3) := by decide +kernel
theorem dX9_hasNeeds_35 : decode cX9_hasNeeds 35 = .ok (.iconst 1, 1) := by decide +kernel
theorem dX9_hasNeeds_36 : decode cX9_hasNeeds 36 = .ok (.goto 4, 3) := by decide +kernel
theorem dX9_hasNeeds_39 : decode cX9_hasNeeds 39 = .ok (.iconst 0, 1) := by decide +kernel
theorem dX9_hasNeeds_40 : decode cX9_hasNeeds 40 = .ok (.istore_n 2, 1) := by decide +kernel
theorem dX9_hasNeeds_41 : decode cX9_hasNeeds 41 = .ok (.iinc 3 1, 3) := by decide +kernel
theorem dX9_hasNeeds_44 : decode cX9_hasNeeds 44 = .ok (.goto (-35), 3) := by decide +kernel
theorem dX9_hasNeeds_47 : decode cX9_hasNeeds 47 = .ok (.iload_n 2, 1) := by decide +kernel
theorem dX9_hasNeeds_48 : decode cX9_hasNeeds 48 = .ok (.ireturn, 1) := by decide +kernel
theorem dX9_findTaken_0 : decode cX9_findTaken 0 = .ok (.iconst 0, 1) := by decide +kernel
theorem dX9_findTaken_1 : decode cX9_findTaken 1 = .ok (.istore_n 2, 1) := by decide +kernel
theorem dX9_findTaken_2 : decode cX9_findTaken 2 = .ok (.iconst 0, 1) := by decide +kernel
theorem dX9_findTaken_3 : decode cX9_findTaken 3 = .ok (.istore_n 3, 1) := by decide +kernel
theorem dX9_findTaken_4 : decode cX9_findTaken 4 = .ok (.iload_n 3, 1) := by decide +kernel
theorem dX9_findTaken_5 : decode cX9_findTaken 5 = .ok (.aload_n 0, 1) := by decide +kernel
theorem dX9_findTaken_6 : decode cX9_findTaken 6 = .ok (.getfield 84, 3) := by decide +kernel
theorem dX9_findTaken_9 : decode cX9_findTaken 9 = .ok (.if_icmp .ge 60, 3) := by decide +kernel
theorem dX9_findTaken_12 : decode cX9_findTaken 12 = .ok (.aload_n 0, 1) := by decide +kernel
theorem dX9_findTaken_13 : decode cX9_findTaken 13 = .ok (.getfield 47, 3) := by decide +kernel
theorem dX9_findTaken_16 : decode cX9_findTaken 16 = .ok (.iload_n 3, 1) := by decide +kernel
theorem dX9_findTaken_17 : decode cX9_findTaken 17 = .ok (.aload_n 0, 1) := by decide +kernel
theorem dX9_findTaken_18 : decode cX9_findTaken 18 = .ok (.getfield 38, 3) := by decide +kernel
theorem dX9_findTaken_21 : decode cX9_findTaken 21 = .ok (.sipush 256, 3) := by decide +kernel
theorem dX9_findTaken_24 : decode cX9_findTaken 24 = .ok (.iload_n 1, 1) := by decide +kernel
theorem dX9_findTaken_25 : decode cX9_findTaken 25 = .ok (.imul, 1) := by decide +kernel
theorem dX9_findTaken_26 : decode cX9_findTaken 26 = .ok (.iload_n 3, 1) := by decide +kernel
theorem dX9_findTaken_27 : decode cX9_findTaken 27 = .ok (.iadd, 1) := by decide +kernel
theorem dX9_findTaken_28 : decode cX9_findTaken 28 = .ok (.baload, 1) := by decide +kernel
theorem dX9_findTaken_29 : decode cX9_findTaken 29 = .ok (.ifCond .eq 15, 3) := by decide +kernel
theorem dX9_findTaken_32 : decode cX9_findTaken 32 = .ok (.aload_n 0, 1) := by decide +kernel
theorem dX9_findTaken_33 : decode cX9_findTaken 33 = .ok (.iload_n 3, 1) := by decide +kernel
theorem dX9_findTaken_34 : decode cX9_findTaken 34 = .ok (.invokevirtual 101, 3) := by decide +kernel
theorem dX9_findTaken_37 : decode cX9_findTaken 37 = .ok (.ifCond .eq 7, 3) := by decide +kernel
theorem dX9_findTaken_40 : decode cX9_findTaken 40 = .ok (.iconst 1, 1) := by decide +kernel
theorem dX9_findTaken_41 : decode cX9_findTaken 41 = .ok (.goto 4, 3) := by decide +kernel
theorem dX9_findTaken_44 : decode cX9_findTaken 44 = .ok (.iconst 0, 1) := by decide +kernel
theorem dX9_findTaken_45 : decode cX9_findTaken 45 = .ok (.bastore, 1) := by decide +kernel
theorem dX9_findTaken_46 : decode cX9_findTaken 46 = .ok (.iload_n 2, 1) := by decide +kernel
theorem dX9_findTaken_47 : decode cX9_findTaken 47 = .ok (.aload_n 0, 1) := by decide +kernel
theorem dX9_findTaken_48 : decode cX9_findTaken 48 = .ok (.getfield 47, 3) := by decide +kernel
theorem dX9_findTaken_51 : decode cX9_findTaken 51 = .ok (.iload_n 3, 1) := by decide +kernel
theorem dX9_findTaken_52 : decode cX9_findTaken 52 = .ok (.baload, 1) := by decide +kernel
theorem dX9_findTaken_53 : decode cX9_findTaken 53 = .ok (.ifCond .eq 7, 3) := by decide +kernel
theorem dX9_findTaken_56 : decode cX9_findTaken 56 = .ok (.iconst 1, 1) := by decide +kernel
theorem dX9_findTaken_57 : decode cX9_findTaken 57 = .ok (.goto 4, 3) := by decide +kernel
theorem dX9_findTaken_60 : decode cX9_findTaken 60 = .ok (.iconst 0, 1) := by decide +kernel
theorem dX9_findTaken_61 : decode cX9_findTaken 61 = .ok (.iadd, 1) := by decide +kernel
theorem dX9_findTaken_62 : decode cX9_findTaken 62 = .ok (.istore_n 2, 1) := by decide +kernel
theorem dX9_findTaken_63 : decode cX9_findTaken 63 = .ok (.iinc 3 1, 3) := by decide +kernel
theorem dX9_findTaken_66 : decode cX9_findTaken 66 = .ok (.goto (-62), 3) := by decide +kernel
theorem dX9_findTaken_69 : decode cX9_findTaken 69 = .ok (.iload_n 2, 1) := by decide +kernel
theorem dX9_findTaken_70 : decode cX9_findTaken 70 = .ok (.ireturn, 1) := by decide +kernel
theorem dX9_findWorks_0 : decode cX9_findWorks 0 = .ok (.aload_n 0, 1) := by decide +kernel
theorem dX9_findWorks_1 : decode cX9_findWorks 1 = .ok (.getfield 84, 3) := by decide +kernel
theorem dX9_findWorks_4 : decode cX9_findWorks 4 = .ok (.iconst 1, 1) := by decide +kernel
theorem dX9_findWorks_5 : decode cX9_findWorks 5 = .ok (.isub, 1) := by decide +kernel
theorem dX9_findWorks_6 : decode cX9_findWorks 6 = .ok (.istore_n 1, 1) := by decide +kernel
theorem dX9_findWorks_7 : decode cX9_findWorks 7 = .ok (.iload_n 1, 1) := by decide +kernel
theorem dX9_findWorks_8 : decode cX9_findWorks 8 = .ok (.ifCond .lt 88, 3) := by decide +kernel
theorem dX9_findWorks_11 : decode cX9_findWorks 11 = .ok (.aload_n 0, 1) := by decide +kernel
theorem dX9_findWorks_12 : decode cX9_findWorks 12 = .ok (.getfield 50, 3) := by decide +kernel
theorem dX9_findWorks_15 : decode cX9_findWorks 15 = .ok (.iload_n 1, 1) := by decide +kernel
theorem dX9_findWorks_16 : decode cX9_findWorks 16 = .ok (.aload_n 0, 1) := by decide +kernel
theorem dX9_findWorks_17 : decode cX9_findWorks 17 = .ok (.getfield 47, 3) := by decide +kernel
theorem dX9_findWorks_20 : decode cX9_findWorks 20 = .ok (.iload_n 1, 1) := by decide +kernel
theorem dX9_findWorks_21 : decode cX9_findWorks 21 = .ok (.baload, 1) := by decide +kernel
theorem dX9_findWorks_22 : decode cX9_findWorks 22 = .ok (.bastore, 1) := by decide +kernel
theorem dX9_findWorks_23 : decode cX9_findWorks 23 = .ok (.iload_n 1, 1) := by decide +kernel
theorem dX9_findWorks_24 : decode cX9_findWorks 24 = .ok (.iconst 1, 1) := by decide +kernel
theorem dX9_findWorks_25 : decode cX9_findWorks 25 = .ok (.iadd, 1) := by decide +kernel
theorem dX9_findWorks_26 : decode cX9_findWorks 26 = .ok (.istore_n 2, 1) := by decide +kernel
theorem dX9_findWorks_27 : decode cX9_findWorks 27 = .ok (.iload_n 2, 1) := by decide +kernel
theorem dX9_findWorks_28 : decode cX9_findWorks 28 = .ok (.aload_n 0, 1) := by decide +kernel
theorem dX9_findWorks_29 : decode cX9_findWorks 29 = .ok (.getfield 84, 3) := by decide +kernel
theorem dX9_findWorks_32 : decode cX9_findWorks 32 = .ok (.if_icmp .ge 58, 3) := by decide +kernel
theorem dX9_findWorks_35 : decode cX9_findWorks 35 = .ok (.aload_n 0, 1) := by decide +kernel
theorem dX9_findWorks_36 : decode cX9_findWorks 36 = .ok (.getfield 50, 3) := by decide +kernel
theorem dX9_findWorks_39 : decode cX9_findWorks 39 = .ok (.iload_n 1, 1) := by decide +kernel
theorem dX9_findWorks_40 : decode cX9_findWorks 40 = .ok (.aload_n 0, 1) := by decide +kernel
theorem dX9_findWorks_41 : decode cX9_findWorks 41 = .ok (.getfield 50, 3) := by decide +kernel
theorem dX9_findWorks_44 : decode cX9_findWorks 44 = .ok (.iload_n 1, 1) := by decide +kernel
theorem dX9_findWorks_45 : decode cX9_findWorks 45 = .ok (.baload, 1) := by decide +kernel
theorem dX9_findWorks_46 : decode cX9_findWorks 46 = .ok (.ifCond .eq 36, 3) := by decide +kernel
theorem dX9_findWorks_49 : decode cX9_findWorks 49 = .ok (.aload_n 0, 1) := by decide +kernel
theorem dX9_findWorks_50 : decode cX9_findWorks 50 = .ok (.getfield 16, 3) := by decide +kernel
theorem dX9_findWorks_53 : decode cX9_findWorks 53 = .ok (.iload_n 2, 1) := by decide +kernel
theorem dX9_findWorks_54 : decode cX9_findWorks 54 = .ok (.iaload, 1) := by decide +kernel
theorem dX9_findWorks_55 : decode cX9_findWorks 55 = .ok (.iconst 3, 1) := by decide +kernel
theorem dX9_findWorks_56 : decode cX9_findWorks 56 = .ok (.if_icmp .ne 22, 3) := by decide +kernel
theorem dX9_findWorks_59 : decode cX9_findWorks 59 = .ok (.aload_n 0, 1) := by decide +kernel
theorem dX9_findWorks_60 : decode cX9_findWorks 60 = .ok (.getfield 28, 3) := by decide +kernel
theorem dX9_findWorks_63 : decode cX9_findWorks 63 = .ok (.iload_n 2, 1) := by decide +kernel
theorem dX9_findWorks_64 : decode cX9_findWorks 64 = .ok (.iaload, 1) := by decide +kernel
theorem dX9_findWorks_65 : decode cX9_findWorks 65 = .ok (.iload_n 1, 1) := by decide +kernel
theorem dX9_findWorks_66 : decode cX9_findWorks 66 = .ok (.if_icmp .ne 12, 3) := by decide +kernel
theorem dX9_findWorks_69 : decode cX9_findWorks 69 = .ok (.aload_n 0, 1) := by decide +kernel
theorem dX9_findWorks_70 : decode cX9_findWorks 70 = .ok (.getfield 50, 3) := by decide +kernel
theorem dX9_findWorks_73 : decode cX9_findWorks 73 = .ok (.iload_n 2, 1) := by decide +kernel
theorem dX9_findWorks_74 : decode cX9_findWorks 74 = .ok (.baload, 1) := by decide +kernel
theorem dX9_findWorks_75 : decode cX9_findWorks 75 = .ok (.ifCond .ne 7, 3) := by decide +kernel
theorem dX9_findWorks_78 : decode cX9_findWorks 78 = .ok (.iconst 1, 1) := by decide +kernel
theorem dX9_findWorks_79 : decode cX9_findWorks 79 = .ok (.goto 4, 3) := by decide +kernel
theorem dX9_findWorks_82 : decode cX9_findWorks 82 = .ok (.iconst 0, 1) := by decide +kernel
theorem dX9_findWorks_83 : decode cX9_findWorks 83 = .ok (.bastore, 1) := by decide +kernel
theorem dX9_findWorks_84 : decode cX9_findWorks 84 = .ok (.iinc 2 1, 3) := by decide +kernel
theorem dX9_findWorks_87 : decode cX9_findWorks 87 = .ok (.goto (-60), 3) := by decide +kernel
theorem dX9_findWorks_90 : decode cX9_findWorks 90 = .ok (.iinc 1 (-1), 3) := by decide +kernel
theorem dX9_findWorks_93 : decode cX9_findWorks 93 = .ok (.goto (-86), 3) := by decide +kernel
theorem dX9_findWorks_96 : decode cX9_findWorks 96 = .ok (.return_, 1) := by decide +kernel
theorem dX9_pilePuts_0 : decode cX9_pilePuts 0 = .ok (.aload_n 0, 1) := by decide +kernel
theorem dX9_pilePuts_1 : decode cX9_pilePuts 1 = .ok (.getfield 105, 3) := by decide +kernel
theorem dX9_pilePuts_4 : decode cX9_pilePuts 4 = .ok (.istore_n 2, 1) := by decide +kernel
theorem dX9_pilePuts_5 : decode cX9_pilePuts 5 = .ok (.iconst 0, 1) := by decide +kernel
theorem dX9_pilePuts_6 : decode cX9_pilePuts 6 = .ok (.istore_n 3, 1) := by decide +kernel
theorem dX9_pilePuts_7 : decode cX9_pilePuts 7 = .ok (.iload_n 3, 1) := by decide +kernel
theorem dX9_pilePuts_8 : decode cX9_pilePuts 8 = .ok (.aload_n 0, 1) := by decide +kernel
theorem dX9_pilePuts_9 : decode cX9_pilePuts 9 = .ok (.getfield 84, 3) := by decide +kernel
theorem dX9_pilePuts_12 : decode cX9_pilePuts 12 = .ok (.if_icmp .ge 130, 3) := by decide +kernel
theorem dX9_pilePuts_15 : decode cX9_pilePuts 15 = .ok (.aload_n 0, 1) := by decide +kernel
theorem dX9_pilePuts_16 : decode cX9_pilePuts 16 = .ok (.getfield 47, 3) := by decide +kernel
theorem dX9_pilePuts_19 : decode cX9_pilePuts 19 = .ok (.iload_n 3, 1) := by decide +kernel
theorem dX9_pilePuts_20 : decode cX9_pilePuts 20 = .ok (.baload, 1) := by decide +kernel
theorem dX9_pilePuts_21 : decode cX9_pilePuts 21 = .ok (.ifCond .eq 115, 3) := by decide +kernel
theorem dX9_pilePuts_24 : decode cX9_pilePuts 24 = .ok (.aload_n 0, 1) := by decide +kernel
theorem dX9_pilePuts_25 : decode cX9_pilePuts 25 = .ok (.getfield 16, 3) := by decide +kernel
theorem dX9_pilePuts_28 : decode cX9_pilePuts 28 = .ok (.iload_n 3, 1) := by decide +kernel
theorem dX9_pilePuts_29 : decode cX9_pilePuts 29 = .ok (.iaload, 1) := by decide +kernel
theorem dX9_pilePuts_30 : decode cX9_pilePuts 30 = .ok (.ifCond .ne 106, 3) := by decide +kernel
theorem dX9_pilePuts_33 : decode cX9_pilePuts 33 = .ok (.aload_n 0, 1) := by decide +kernel
theorem dX9_pilePuts_34 : decode cX9_pilePuts 34 = .ok (.getfield 28, 3) := by decide +kernel
theorem dX9_pilePuts_37 : decode cX9_pilePuts 37 = .ok (.iload_n 3, 1) := by decide +kernel
theorem dX9_pilePuts_38 : decode cX9_pilePuts 38 = .ok (.iaload, 1) := by decide +kernel
theorem dX9_pilePuts_39 : decode cX9_pilePuts 39 = .ok (.iload_n 1, 1) := by decide +kernel
theorem dX9_pilePuts_40 : decode cX9_pilePuts 40 = .ok (.if_icmp .ne 96, 3) := by decide +kernel
theorem dX9_pilePuts_43 : decode cX9_pilePuts 43 = .ok (.aload_n 0, 1) := by decide +kernel
theorem dX9_pilePuts_44 : decode cX9_pilePuts 44 = .ok (.getfield 105, 3) := by decide +kernel
theorem dX9_pilePuts_47 : decode cX9_pilePuts 47 = .ok (.istore 4, 2) := by decide +kernel
theorem dX9_pilePuts_49 : decode cX9_pilePuts 49 = .ok (.iload 4, 2) := by decide +kernel
theorem dX9_pilePuts_51 : decode cX9_pilePuts 51 = .ok (.iload_n 2, 1) := by decide +kernel
theorem dX9_pilePuts_52 : decode cX9_pilePuts 52 = .ok (.if_icmp .le 58, 3) := by decide +kernel
theorem dX9_pilePuts_55 : decode cX9_pilePuts 55 = .ok (.aload_n 0, 1) := by decide +kernel
theorem dX9_pilePuts_56 : decode cX9_pilePuts 56 = .ok (.aload_n 0, 1) := by decide +kernel
theorem dX9_pilePuts_57 : decode cX9_pilePuts 57 = .ok (.getfield 62, 3) := by decide +kernel
theorem dX9_pilePuts_60 : decode cX9_pilePuts 60 = .ok (.iload 4, 2) := by decide +kernel
theorem dX9_pilePuts_62 : decode cX9_pilePuts 62 = .ok (.iconst 1, 1) := by decide +kernel
theorem dX9_pilePuts_63 : decode cX9_pilePuts 63 = .ok (.isub, 1) := by decide +kernel
theorem dX9_pilePuts_64 : decode cX9_pilePuts 64 = .ok (.iaload, 1) := by decide +kernel
theorem dX9_pilePuts_65 : decode cX9_pilePuts 65 = .ok (.iload_n 3, 1) := by decide +kernel
theorem dX9_pilePuts_66 : decode cX9_pilePuts 66 = .ok (.invokevirtual 108, 3) := by decide +kernel
theorem dX9_pilePuts_69 : decode cX9_pilePuts 69 = .ok (.ifCond .eq 41, 3) := by decide +kernel
theorem dX9_pilePuts_72 : decode cX9_pilePuts 72 = .ok (.aload_n 0, 1) := by decide +kernel
theorem dX9_pilePuts_73 : decode cX9_pilePuts 73 = .ok (.getfield 62, 3) := by decide +kernel
theorem dX9_pilePuts_76 : decode cX9_pilePuts 76 = .ok (.iload 4, 2) := by decide +kernel
theorem dX9_pilePuts_78 : decode cX9_pilePuts 78 = .ok (.aload_n 0, 1) := by decide +kernel
theorem dX9_pilePuts_79 : decode cX9_pilePuts 79 = .ok (.getfield 62, 3) := by decide +kernel
theorem dX9_pilePuts_82 : decode cX9_pilePuts 82 = .ok (.iload 4, 2) := by decide +kernel
theorem dX9_pilePuts_84 : decode cX9_pilePuts 84 = .ok (.iconst 1, 1) := by decide +kernel
theorem dX9_pilePuts_85 : decode cX9_pilePuts 85 = .ok (.isub, 1) := by decide +kernel
theorem dX9_pilePuts_86 : decode cX9_pilePuts 86 = .ok (.iaload, 1) := by decide +kernel
theorem dX9_pilePuts_87 : decode cX9_pilePuts 87 = .ok (.iastore, 1) := by decide +kernel
theorem dX9_pilePuts_88 : decode cX9_pilePuts 88 = .ok (.aload_n 0, 1) := by decide +kernel
theorem dX9_pilePuts_89 : decode cX9_pilePuts 89 = .ok (.getfield 65, 3) := by decide +kernel
theorem dX9_pilePuts_92 : decode cX9_pilePuts 92 = .ok (.iload 4, 2) := by decide +kernel
theorem dX9_pilePuts_94 : decode cX9_pilePuts 94 = .ok (.aload_n 0, 1) := by decide +kernel
theorem dX9_pilePuts_95 : decode cX9_pilePuts 95 = .ok (.getfield 65, 3) := by decide +kernel
theorem dX9_pilePuts_98 : decode cX9_pilePuts 98 = .ok (.iload 4, 2) := by decide +kernel
theorem dX9_pilePuts_100 : decode cX9_pilePuts 100 = .ok (.iconst 1, 1) := by decide +kernel
theorem dX9_pilePuts_101 : decode cX9_pilePuts 101 = .ok (.isub, 1) := by decide +kernel
theorem dX9_pilePuts_102 : decode cX9_pilePuts 102 = .ok (.iaload, 1) := by decide +kernel
theorem dX9_pilePuts_103 : decode cX9_pilePuts 103 = .ok (.iastore, 1) := by decide +kernel
theorem dX9_pilePuts_104 : decode cX9_pilePuts 104 = .ok (.iinc 4 (-1), 3) := by decide +kernel
theorem dX9_pilePuts_107 : decode cX9_pilePuts 107 = .ok (.goto (-58), 3) := by decide +kernel
theorem dX9_pilePuts_110 : decode cX9_pilePuts 110 = .ok (.aload_n 0, 1) := by decide +kernel
theorem dX9_pilePuts_111 : decode cX9_pilePuts 111 = .ok (.getfield 62, 3) := by decide +kernel
theorem dX9_pilePuts_114 : decode cX9_pilePuts 114 = .ok (.iload 4, 2) := by decide +kernel
theorem dX9_pilePuts_116 : decode cX9_pilePuts 116 = .ok (.iload_n 3, 1) := by decide +kernel
theorem dX9_pilePuts_117 : decode cX9_pilePuts 117 = .ok (.iastore, 1) := by decide +kernel
theorem dX9_pilePuts_118 : decode cX9_pilePuts 118 = .ok (.aload_n 0, 1) := by decide +kernel
theorem dX9_pilePuts_119 : decode cX9_pilePuts 119 = .ok (.getfield 65, 3) := by decide +kernel
theorem dX9_pilePuts_122 : decode cX9_pilePuts 122 = .ok (.iload 4, 2) := by decide +kernel
theorem dX9_pilePuts_124 : decode cX9_pilePuts 124 = .ok (.iconst 0, 1) := by decide +kernel
theorem dX9_pilePuts_125 : decode cX9_pilePuts 125 = .ok (.iastore, 1) := by decide +kernel
theorem dX9_pilePuts_126 : decode cX9_pilePuts 126 = .ok (.aload_n 0, 1) := by decide +kernel
theorem dX9_pilePuts_127 : decode cX9_pilePuts 127 = .ok (.dup, 1) := by decide +kernel
theorem dX9_pilePuts_128 : decode cX9_pilePuts 128 = .ok (.getfield 105, 3) := by decide +kernel
theorem dX9_pilePuts_131 : decode cX9_pilePuts 131 = .ok (.iconst 1, 1) := by decide +kernel
theorem dX9_pilePuts_132 : decode cX9_pilePuts 132 = .ok (.iadd, 1) := by decide +kernel
theorem dX9_pilePuts_133 : decode cX9_pilePuts 133 = .ok (.putfield 105, 3) := by decide +kernel
theorem dX9_pilePuts_136 : decode cX9_pilePuts 136 = .ok (.iinc 3 1, 3) := by decide +kernel
theorem dX9_pilePuts_139 : decode cX9_pilePuts 139 = .ok (.goto (-132), 3) := by decide +kernel
theorem dX9_pilePuts_142 : decode cX9_pilePuts 142 = .ok (.return_, 1) := by decide +kernel
theorem dX9_findOrder_0 : decode cX9_findOrder 0 = .ok (.aload_n 0, 1) := by decide +kernel
theorem dX9_findOrder_1 : decode cX9_findOrder 1 = .ok (.iconst 0, 1) := by decide +kernel
theorem dX9_findOrder_2 : decode cX9_findOrder 2 = .ok (.putfield 112, 3) := by decide +kernel
theorem dX9_findOrder_5 : decode cX9_findOrder 5 = .ok (.aload_n 0, 1) := by decide +kernel
theorem dX9_findOrder_6 : decode cX9_findOrder 6 = .ok (.iconst 0, 1) := by decide +kernel
theorem dX9_findOrder_7 : decode cX9_findOrder 7 = .ok (.putfield 105, 3) := by decide +kernel
theorem dX9_findOrder_10 : decode cX9_findOrder 10 = .ok (.aload_n 0, 1) := by decide +kernel
theorem dX9_findOrder_11 : decode cX9_findOrder 11 = .ok (.bipush (-2), 2) := by decide +kernel
theorem dX9_findOrder_13 : decode cX9_findOrder 13 = .ok (.invokevirtual 115, 3) := by decide +kernel
theorem dX9_findOrder_16 : decode cX9_findOrder 16 = .ok (.aload_n 0, 1) := by decide +kernel
theorem dX9_findOrder_17 : decode cX9_findOrder 17 = .ok (.getfield 105, 3) := by decide +kernel
theorem dX9_findOrder_20 : decode cX9_findOrder 20 = .ok (.ifCond .le 102, 3) := by decide +kernel
theorem dX9_findOrder_23 : decode cX9_findOrder 23 = .ok (.aload_n 0, 1) := by decide +kernel
theorem dX9_findOrder_24 : decode cX9_findOrder 24 = .ok (.getfield 62, 3) := by decide +kernel
theorem dX9_findOrder_27 : decode cX9_findOrder 27 = .ok (.aload_n 0, 1) := by decide +kernel
theorem dX9_findOrder_28 : decode cX9_findOrder 28 = .ok (.getfield 105, 3) := by decide +kernel
theorem dX9_findOrder_31 : decode cX9_findOrder 31 = .ok (.iconst 1, 1) := by decide +kernel
theorem dX9_findOrder_32 : decode cX9_findOrder 32 = .ok (.isub, 1) := by decide +kernel
theorem dX9_findOrder_33 : decode cX9_findOrder 33 = .ok (.iaload, 1) := by decide +kernel
theorem dX9_findOrder_34 : decode cX9_findOrder 34 = .ok (.istore_n 1, 1) := by decide +kernel
theorem dX9_findOrder_35 : decode cX9_findOrder 35 = .ok (.aload_n 0, 1) := by decide +kernel
theorem dX9_findOrder_36 : decode cX9_findOrder 36 = .ok (.getfield 65, 3) := by decide +kernel
theorem dX9_findOrder_39 : decode cX9_findOrder 39 = .ok (.aload_n 0, 1) := by decide +kernel
theorem dX9_findOrder_40 : decode cX9_findOrder 40 = .ok (.getfield 105, 3) := by decide +kernel
theorem dX9_findOrder_43 : decode cX9_findOrder 43 = .ok (.iconst 1, 1) := by decide +kernel
theorem dX9_findOrder_44 : decode cX9_findOrder 44 = .ok (.isub, 1) := by decide +kernel
theorem dX9_findOrder_45 : decode cX9_findOrder 45 = .ok (.iaload, 1) := by decide +kernel
theorem dX9_findOrder_46 : decode cX9_findOrder 46 = .ok (.istore_n 2, 1) := by decide +kernel
theorem dX9_findOrder_47 : decode cX9_findOrder 47 = .ok (.iload_n 2, 1) := by decide +kernel
theorem dX9_findOrder_48 : decode cX9_findOrder 48 = .ok (.iconst 1, 1) := by decide +kernel
theorem dX9_findOrder_49 : decode cX9_findOrder 49 = .ok (.iadd, 1) := by decide +kernel
theorem dX9_findOrder_50 : decode cX9_findOrder 50 = .ok (.aload_n 0, 1) := by decide +kernel
theorem dX9_findOrder_51 : decode cX9_findOrder 51 = .ok (.getfield 19, 3) := by decide +kernel
theorem dX9_findOrder_54 : decode cX9_findOrder 54 = .ok (.iload_n 1, 1) := by decide +kernel
theorem dX9_findOrder_55 : decode cX9_findOrder 55 = .ok (.iaload, 1) := by decide +kernel
theorem dX9_findOrder_56 : decode cX9_findOrder 56 = .ok (.if_icmp .ge 20, 3) := by decide +kernel
theorem dX9_findOrder_59 : decode cX9_findOrder 59 = .ok (.aload_n 0, 1) := by decide +kernel
theorem dX9_findOrder_60 : decode cX9_findOrder 60 = .ok (.getfield 65, 3) := by decide +kernel
theorem dX9_findOrder_63 : decode cX9_findOrder 63 = .ok (.aload_n 0, 1) := by decide +kernel
theorem dX9_findOrder_64 : decode cX9_findOrder 64 = .ok (.getfield 105, 3) := by decide +kernel
theorem dX9_findOrder_67 : decode cX9_findOrder 67 = .ok (.iconst 1, 1) := by decide +kernel
theorem dX9_findOrder_68 : decode cX9_findOrder 68 = .ok (.isub, 1) := by decide +kernel
theorem dX9_findOrder_69 : decode cX9_findOrder 69 = .ok (.iload_n 2, 1) := by decide +kernel
theorem dX9_findOrder_70 : decode cX9_findOrder 70 = .ok (.iconst 1, 1) := by decide +kernel
theorem dX9_findOrder_71 : decode cX9_findOrder 71 = .ok (.iadd, 1) := by decide +kernel
theorem dX9_findOrder_72 : decode cX9_findOrder 72 = .ok (.iastore, 1) := by decide +kernel
theorem dX9_findOrder_73 : decode cX9_findOrder 73 = .ok (.goto 13, 3) := by decide +kernel
theorem dX9_findOrder_76 : decode cX9_findOrder 76 = .ok (.aload_n 0, 1) := by decide +kernel
theorem dX9_findOrder_77 : decode cX9_findOrder 77 = .ok (.dup, 1) := by decide +kernel
theorem dX9_findOrder_78 : decode cX9_findOrder 78 = .ok (.getfield 105, 3) := by decide +kernel
theorem dX9_findOrder_81 : decode cX9_findOrder 81 = .ok (.iconst 1, 1) := by decide +kernel
theorem dX9_findOrder_82 : decode cX9_findOrder 82 = .ok (.isub, 1) := by decide +kernel
theorem dX9_findOrder_83 : decode cX9_findOrder 83 = .ok (.putfield 105, 3) := by decide +kernel
theorem dX9_findOrder_86 : decode cX9_findOrder 86 = .ok (.aload_n 0, 1) := by decide +kernel
theorem dX9_findOrder_87 : decode cX9_findOrder 87 = .ok (.getfield 53, 3) := by decide +kernel
theorem dX9_findOrder_90 : decode cX9_findOrder 90 = .ok (.aload_n 0, 1) := by decide +kernel
theorem dX9_findOrder_91 : decode cX9_findOrder 91 = .ok (.getfield 112, 3) := by decide +kernel
theorem dX9_findOrder_94 : decode cX9_findOrder 94 = .ok (.iconst 4, 1) := by decide +kernel
theorem dX9_findOrder_95 : decode cX9_findOrder 95 = .ok (.iload_n 1, 1) := by decide +kernel
theorem dX9_findOrder_96 : decode cX9_findOrder 96 = .ok (.imul, 1) := by decide +kernel
theorem dX9_findOrder_97 : decode cX9_findOrder 97 = .ok (.iload_n 2, 1) := by decide +kernel
theorem dX9_findOrder_98 : decode cX9_findOrder 98 = .ok (.iadd, 1) := by decide +kernel
theorem dX9_findOrder_99 : decode cX9_findOrder 99 = .ok (.iastore, 1) := by decide +kernel
theorem dX9_findOrder_100 : decode cX9_findOrder 100 = .ok (.aload_n 0, 1) := by decide +kernel
theorem dX9_findOrder_101 : decode cX9_findOrder 101 = .ok (.dup, 1) := by decide +kernel
theorem dX9_findOrder_102 : decode cX9_findOrder 102 = .ok (.getfield 112, 3) := by decide +kernel
theorem dX9_findOrder_105 : decode cX9_findOrder 105 = .ok (.iconst 1, 1) := by decide +kernel
theorem dX9_findOrder_106 : decode cX9_findOrder 106 = .ok (.iadd, 1) := by decide +kernel
theorem dX9_findOrder_107 : decode cX9_findOrder 107 = .ok (.putfield 112, 3) := by decide +kernel
theorem dX9_findOrder_110 : decode cX9_findOrder 110 = .ok (.aload_n 0, 1) := by decide +kernel
theorem dX9_findOrder_111 : decode cX9_findOrder 111 = .ok (.iconst 4, 1) := by decide +kernel
theorem dX9_findOrder_112 : decode cX9_findOrder 112 = .ok (.iload_n 1, 1) := by decide +kernel
theorem dX9_findOrder_113 : decode cX9_findOrder 113 = .ok (.imul, 1) := by decide +kernel
theorem dX9_findOrder_114 : decode cX9_findOrder 114 = .ok (.iload_n 2, 1) := by decide +kernel
theorem dX9_findOrder_115 : decode cX9_findOrder 115 = .ok (.iadd, 1) := by decide +kernel
theorem dX9_findOrder_116 : decode cX9_findOrder 116 = .ok (.invokevirtual 115, 3) := by decide +kernel
theorem dX9_findOrder_119 : decode cX9_findOrder 119 = .ok (.goto (-103), 3) := by decide +kernel
theorem dX9_findOrder_122 : decode cX9_findOrder 122 = .ok (.return_, 1) := by decide +kernel
theorem dX9_isStruck_0 : decode cX9_isStruck 0 = .ok (.aload_n 0, 1) := by decide +kernel
theorem dX9_isStruck_1 : decode cX9_isStruck 1 = .ok (.iload_n 1, 1) := by decide +kernel
theorem dX9_isStruck_2 : decode cX9_isStruck 2 = .ok (.invokevirtual 118, 3) := by decide +kernel
theorem dX9_isStruck_5 : decode cX9_isStruck 5 = .ok (.ifCond .le 7, 3) := by decide +kernel
theorem dX9_isStruck_8 : decode cX9_isStruck 8 = .ok (.iconst 1, 1) := by decide +kernel
theorem dX9_isStruck_9 : decode cX9_isStruck 9 = .ok (.goto 4, 3) := by decide +kernel
theorem dX9_isStruck_12 : decode cX9_isStruck 12 = .ok (.iconst 0, 1) := by decide +kernel
theorem dX9_isStruck_13 : decode cX9_isStruck 13 = .ok (.ireturn, 1) := by decide +kernel
theorem dX9_strikesOf_0 : decode cX9_strikesOf 0 = .ok (.iconst 0, 1) := by decide +kernel
theorem dX9_strikesOf_1 : decode cX9_strikesOf 1 = .ok (.istore_n 2, 1) := by decide +kernel
theorem dX9_strikesOf_2 : decode cX9_strikesOf 2 = .ok (.iconst 0, 1) := by decide +kernel
theorem dX9_strikesOf_3 : decode cX9_strikesOf 3 = .ok (.istore_n 3, 1) := by decide +kernel
theorem dX9_strikesOf_4 : decode cX9_strikesOf 4 = .ok (.iload_n 3, 1) := by decide +kernel
theorem dX9_strikesOf_5 : decode cX9_strikesOf 5 = .ok (.aload_n 0, 1) := by decide +kernel
theorem dX9_strikesOf_6 : decode cX9_strikesOf 6 = .ok (.getfield 84, 3) := by decide +kernel
theorem dX9_strikesOf_9 : decode cX9_strikesOf 9 = .ok (.if_icmp .ge 92, 3) := by decide +kernel
theorem dX9_strikesOf_12 : decode cX9_strikesOf 12 = .ok (.iconst 0, 1) := by decide +kernel
theorem dX9_strikesOf_13 : decode cX9_strikesOf 13 = .ok (.istore 4, 2) := by decide +kernel
theorem dX9_strikesOf_15 : decode cX9_strikesOf 15 = .ok (.iconst 0, 1) := by decide +kernel
theorem dX9_strikesOf_16 : decode cX9_strikesOf 16 = .ok (.istore 5, 2) := by decide +kernel
theorem dX9_strikesOf_18 : decode cX9_strikesOf 18 = .ok (.aload_n 0, 1) := by decide +kernel
theorem dX9_strikesOf_19 : decode cX9_strikesOf 19 = .ok (.getfield 50, 3) := by decide +kernel
theorem dX9_strikesOf_22 : decode cX9_strikesOf 22 = .ok (.iload_n 3, 1) := by decide +kernel
theorem dX9_strikesOf_23 : decode cX9_strikesOf 23 = .ok (.baload, 1) := by decide +kernel
theorem dX9_strikesOf_24 : decode cX9_strikesOf 24 = .ok (.ifCond .eq 58, 3) := by decide +kernel
theorem dX9_strikesOf_27 : decode cX9_strikesOf 27 = .ok (.aload_n 0, 1) := by decide +kernel
theorem dX9_strikesOf_28 : decode cX9_strikesOf 28 = .ok (.getfield 16, 3) := by decide +kernel
theorem dX9_strikesOf_31 : decode cX9_strikesOf 31 = .ok (.iload_n 3, 1) := by decide +kernel
theorem dX9_strikesOf_32 : decode cX9_strikesOf 32 = .ok (.iaload, 1) := by decide +kernel
theorem dX9_strikesOf_33 : decode cX9_strikesOf 33 = .ok (.iconst 1, 1) := by decide +kernel
theorem dX9_strikesOf_34 : decode cX9_strikesOf 34 = .ok (.if_icmp .ne 48, 3) := by decide +kernel
theorem dX9_strikesOf_37 : decode cX9_strikesOf 37 = .ok (.iload 5, 2) := by decide +kernel
theorem dX9_strikesOf_39 : decode cX9_strikesOf 39 = .ok (.aload_n 0, 1) := by decide +kernel
theorem dX9_strikesOf_40 : decode cX9_strikesOf 40 = .ok (.getfield 19, 3) := by decide +kernel
theorem dX9_strikesOf_43 : decode cX9_strikesOf 43 = .ok (.iload_n 3, 1) := by decide +kernel
theorem dX9_strikesOf_44 : decode cX9_strikesOf 44 = .ok (.iaload, 1) := by decide +kernel
theorem dX9_strikesOf_45 : decode cX9_strikesOf 45 = .ok (.if_icmp .ge 37, 3) := by decide +kernel
theorem dX9_strikesOf_48 : decode cX9_strikesOf 48 = .ok (.iload 4, 2) := by decide +kernel
theorem dX9_strikesOf_50 : decode cX9_strikesOf 50 = .ok (.ifCond .ne 19, 3) := by decide +kernel
theorem dX9_strikesOf_53 : decode cX9_strikesOf 53 = .ok (.aload_n 0, 1) := by decide +kernel
theorem dX9_strikesOf_54 : decode cX9_strikesOf 54 = .ok (.getfield 22, 3) := by decide +kernel
theorem dX9_strikesOf_57 : decode cX9_strikesOf 57 = .ok (.bipush 12, 2) := by decide +kernel
theorem dX9_strikesOf_59 : decode cX9_strikesOf 59 = .ok (.iload_n 3, 1) := by decide +kernel
theorem dX9_strikesOf_60 : decode cX9_strikesOf 60 = .ok (.imul, 1) := by decide +kernel
theorem dX9_strikesOf_61 : decode cX9_strikesOf 61 = .ok (.iload 5, 2) := by decide +kernel
theorem dX9_strikesOf_63 : decode cX9_strikesOf 63 = .ok (.iadd, 1) := by decide +kernel
theorem dX9_strikesOf_64 : decode cX9_strikesOf 64 = .ok (.iaload, 1) := by decide +kernel
theorem dX9_strikesOf_65 : decode cX9_strikesOf 65 = .ok (.iload_n 1, 1) := by decide +kernel
theorem dX9_strikesOf_66 : decode cX9_strikesOf 66 = .ok (.if_icmp .ne 7, 3) := by decide +kernel
theorem dX9_strikesOf_69 : decode cX9_strikesOf 69 = .ok (.iconst 1, 1) := by decide +kernel
theorem dX9_strikesOf_70 : decode cX9_strikesOf 70 = .ok (.goto 4, 3) := by decide +kernel
theorem dX9_strikesOf_73 : decode cX9_strikesOf 73 = .ok (.iconst 0, 1) := by decide +kernel
theorem dX9_strikesOf_74 : decode cX9_strikesOf 74 = .ok (.istore 4, 2) := by decide +kernel
theorem dX9_strikesOf_76 : decode cX9_strikesOf 76 = .ok (.iinc 5 1, 3) := by decide +kernel
theorem dX9_strikesOf_79 : decode cX9_strikesOf 79 = .ok (.goto (-61), 3) := by decide +kernel
theorem dX9_strikesOf_82 : decode cX9_strikesOf 82 = .ok (.iload_n 2, 1) := by decide +kernel
theorem dX9_strikesOf_83 : decode cX9_strikesOf 83 = .ok (.iload 4, 2) := by decide +kernel
theorem dX9_strikesOf_85 : decode cX9_strikesOf 85 = .ok (.ifCond .eq 7, 3) := by decide +kernel
theorem dX9_strikesOf_88 : decode cX9_strikesOf 88 = .ok (.iconst 1, 1) := by decide +kernel
theorem dX9_strikesOf_89 : decode cX9_strikesOf 89 = .ok (.goto 4, 3) := by decide +kernel
theorem dX9_strikesOf_92 : decode cX9_strikesOf 92 = .ok (.iconst 0, 1) := by decide +kernel
theorem dX9_strikesOf_93 : decode cX9_strikesOf 93 = .ok (.iadd, 1) := by decide +kernel
theorem dX9_strikesOf_94 : decode cX9_strikesOf 94 = .ok (.istore_n 2, 1) := by decide +kernel
theorem dX9_strikesOf_95 : decode cX9_strikesOf 95 = .ok (.iinc 3 1, 3) := by decide +kernel
theorem dX9_strikesOf_98 : decode cX9_strikesOf 98 = .ok (.goto (-94), 3) := by decide +kernel
theorem dX9_strikesOf_101 : decode cX9_strikesOf 101 = .ok (.iload_n 2, 1) := by decide +kernel
theorem dX9_strikesOf_102 : decode cX9_strikesOf 102 = .ok (.ireturn, 1) := by decide +kernel
theorem dX9_findText_0 : decode cX9_findText 0 = .ok (.aload_n 0, 1) := by decide +kernel
theorem dX9_findText_1 : decode cX9_findText 1 = .ok (.invokevirtual 122, 3) := by decide +kernel
theorem dX9_findText_4 : decode cX9_findText 4 = .ok (.aload_n 0, 1) := by decide +kernel
theorem dX9_findText_5 : decode cX9_findText 5 = .ok (.invokevirtual 125, 3) := by decide +kernel
theorem dX9_findText_8 : decode cX9_findText 8 = .ok (.iconst 0, 1) := by decide +kernel
theorem dX9_findText_9 : decode cX9_findText 9 = .ok (.istore_n 1, 1) := by decide +kernel
theorem dX9_findText_10 : decode cX9_findText 10 = .ok (.iconst 0, 1) := by decide +kernel
theorem dX9_findText_11 : decode cX9_findText 11 = .ok (.istore_n 2, 1) := by decide +kernel
theorem dX9_findText_12 : decode cX9_findText 12 = .ok (.iload_n 2, 1) := by decide +kernel
theorem dX9_findText_13 : decode cX9_findText 13 = .ok (.aload_n 0, 1) := by decide +kernel
theorem dX9_findText_14 : decode cX9_findText 14 = .ok (.getfield 112, 3) := by decide +kernel
theorem dX9_findText_17 : decode cX9_findText 17 = .ok (.if_icmp .ge 66, 3) := by decide +kernel
theorem dX9_findText_20 : decode cX9_findText 20 = .ok (.aload_n 0, 1) := by decide +kernel
theorem dX9_findText_21 : decode cX9_findText 21 = .ok (.getfield 56, 3) := by decide +kernel
theorem dX9_findText_24 : decode cX9_findText 24 = .ok (.iload_n 2, 1) := by decide +kernel
theorem dX9_findText_25 : decode cX9_findText 25 = .ok (.aload_n 0, 1) := by decide +kernel
theorem dX9_findText_26 : decode cX9_findText 26 = .ok (.getfield 50, 3) := by decide +kernel
theorem dX9_findText_29 : decode cX9_findText 29 = .ok (.aload_n 0, 1) := by decide +kernel
theorem dX9_findText_30 : decode cX9_findText 30 = .ok (.getfield 53, 3) := by decide +kernel
theorem dX9_findText_33 : decode cX9_findText 33 = .ok (.iload_n 2, 1) := by decide +kernel
theorem dX9_findText_34 : decode cX9_findText 34 = .ok (.iaload, 1) := by decide +kernel
theorem dX9_findText_35 : decode cX9_findText 35 = .ok (.iconst 4, 1) := by decide +kernel
theorem dX9_findText_36 : decode cX9_findText 36 = .ok (.idiv, 1) := by decide +kernel
theorem dX9_findText_37 : decode cX9_findText 37 = .ok (.baload, 1) := by decide +kernel
theorem dX9_findText_38 : decode cX9_findText 38 = .ok (.ifCond .eq 20, 3) := by decide +kernel
theorem dX9_findText_41 : decode cX9_findText 41 = .ok (.aload_n 0, 1) := by decide +kernel
theorem dX9_findText_42 : decode cX9_findText 42 = .ok (.aload_n 0, 1) := by decide +kernel
theorem dX9_findText_43 : decode cX9_findText 43 = .ok (.getfield 53, 3) := by decide +kernel
theorem dX9_findText_46 : decode cX9_findText 46 = .ok (.iload_n 2, 1) := by decide +kernel
theorem dX9_findText_47 : decode cX9_findText 47 = .ok (.iaload, 1) := by decide +kernel
theorem dX9_findText_48 : decode cX9_findText 48 = .ok (.invokevirtual 128, 3) := by decide +kernel
theorem dX9_findText_51 : decode cX9_findText 51 = .ok (.ifCond .ne 7, 3) := by decide +kernel
theorem dX9_findText_54 : decode cX9_findText 54 = .ok (.iconst 1, 1) := by decide +kernel
theorem dX9_findText_55 : decode cX9_findText 55 = .ok (.goto 4, 3) := by decide +kernel
theorem dX9_findText_58 : decode cX9_findText 58 = .ok (.iconst 0, 1) := by decide +kernel
theorem dX9_findText_59 : decode cX9_findText 59 = .ok (.bastore, 1) := by decide +kernel
theorem dX9_findText_60 : decode cX9_findText 60 = .ok (.iload_n 1, 1) := by decide +kernel
theorem dX9_findText_61 : decode cX9_findText 61 = .ok (.aload_n 0, 1) := by decide +kernel
theorem dX9_findText_62 : decode cX9_findText 62 = .ok (.getfield 56, 3) := by decide +kernel
theorem dX9_findText_65 : decode cX9_findText 65 = .ok (.iload_n 2, 1) := by decide +kernel
theorem dX9_findText_66 : decode cX9_findText 66 = .ok (.baload, 1) := by decide +kernel
theorem dX9_findText_67 : decode cX9_findText 67 = .ok (.ifCond .eq 7, 3) := by decide +kernel
theorem dX9_findText_70 : decode cX9_findText 70 = .ok (.iconst 1, 1) := by decide +kernel
theorem dX9_findText_71 : decode cX9_findText 71 = .ok (.goto 4, 3) := by decide +kernel
theorem dX9_findText_74 : decode cX9_findText 74 = .ok (.iconst 0, 1) := by decide +kernel
theorem dX9_findText_75 : decode cX9_findText 75 = .ok (.iadd, 1) := by decide +kernel
theorem dX9_findText_76 : decode cX9_findText 76 = .ok (.istore_n 1, 1) := by decide +kernel
theorem dX9_findText_77 : decode cX9_findText 77 = .ok (.iinc 2 1, 3) := by decide +kernel
theorem dX9_findText_80 : decode cX9_findText 80 = .ok (.goto (-68), 3) := by decide +kernel
theorem dX9_findText_83 : decode cX9_findText 83 = .ok (.iload_n 1, 1) := by decide +kernel
theorem dX9_findText_84 : decode cX9_findText 84 = .ok (.ireturn, 1) := by decide +kernel
theorem dX9_sheet_0 : decode cX9_sheet 0 = .ok (.aload_n 0, 1) := by decide +kernel
theorem dX9_sheet_1 : decode cX9_sheet 1 = .ok (.iload_n 1, 1) := by decide +kernel
theorem dX9_sheet_2 : decode cX9_sheet 2 = .ok (.invokevirtual 131, 3) := by decide +kernel
theorem dX9_sheet_5 : decode cX9_sheet 5 = .ok (.pop, 1) := by decide +kernel
theorem dX9_sheet_6 : decode cX9_sheet 6 = .ok (.aload_n 0, 1) := by decide +kernel
theorem dX9_sheet_7 : decode cX9_sheet 7 = .ok (.invokevirtual 134, 3) := by decide +kernel
theorem dX9_sheet_10 : decode cX9_sheet 10 = .ok (.ireturn, 1) := by decide +kernel
theorem dX9_atPlace_0 : decode cX9_atPlace 0 = .ok (.iload_n 1, 1) := by decide +kernel
theorem dX9_atPlace_1 : decode cX9_atPlace 1 = .ok (.istore_n 2, 1) := by decide +kernel
theorem dX9_atPlace_2 : decode cX9_atPlace 2 = .ok (.iconst 0, 1) := by decide +kernel
theorem dX9_atPlace_3 : decode cX9_atPlace 3 = .ok (.istore_n 3, 1) := by decide +kernel
theorem dX9_atPlace_4 : decode cX9_atPlace 4 = .ok (.iload_n 3, 1) := by decide +kernel
theorem dX9_atPlace_5 : decode cX9_atPlace 5 = .ok (.aload_n 0, 1) := by decide +kernel
theorem dX9_atPlace_6 : decode cX9_atPlace 6 = .ok (.getfield 112, 3) := by decide +kernel
theorem dX9_atPlace_9 : decode cX9_atPlace 9 = .ok (.if_icmp .ge 27, 3) := by decide +kernel
theorem dX9_atPlace_12 : decode cX9_atPlace 12 = .ok (.aload_n 0, 1) := by decide +kernel
theorem dX9_atPlace_13 : decode cX9_atPlace 13 = .ok (.getfield 56, 3) := by decide +kernel
theorem dX9_atPlace_16 : decode cX9_atPlace 16 = .ok (.iload_n 3, 1) := by decide +kernel
theorem dX9_atPlace_17 : decode cX9_atPlace 17 = .ok (.baload, 1) := by decide +kernel
theorem dX9_atPlace_18 : decode cX9_atPlace 18 = .ok (.ifCond .eq 12, 3) := by decide +kernel
theorem dX9_atPlace_21 : decode cX9_atPlace 21 = .ok (.iload_n 2, 1) := by decide +kernel
theorem dX9_atPlace_22 : decode cX9_atPlace 22 = .ok (.ifCond .ne 5, 3) := by decide +kernel
theorem dX9_atPlace_25 : decode cX9_atPlace 25 = .ok (.iload_n 3, 1) := by decide +kernel
theorem dX9_atPlace_26 : decode cX9_atPlace 26 = .ok (.ireturn, 1) := by decide +kernel
theorem dX9_atPlace_27 : decode cX9_atPlace 27 = .ok (.iinc 2 (-1), 3) := by decide +kernel
theorem dX9_atPlace_30 : decode cX9_atPlace 30 = .ok (.iinc 3 1, 3) := by decide +kernel
theorem dX9_atPlace_33 : decode cX9_atPlace 33 = .ok (.goto (-29), 3) := by decide +kernel
theorem dX9_atPlace_36 : decode cX9_atPlace 36 = .ok (.iconst (-1), 1) := by decide +kernel
theorem dX9_atPlace_37 : decode cX9_atPlace 37 = .ok (.ireturn, 1) := by decide +kernel
theorem dX9_inOrder_0 : decode cX9_inOrder 0 = .ok (.iconst (-1), 1) := by decide +kernel
theorem dX9_inOrder_1 : decode cX9_inOrder 1 = .ok (.istore_n 2, 1) := by decide +kernel
theorem dX9_inOrder_2 : decode cX9_inOrder 2 = .ok (.iconst 0, 1) := by decide +kernel
theorem dX9_inOrder_3 : decode cX9_inOrder 3 = .ok (.istore_n 3, 1) := by decide +kernel
theorem dX9_inOrder_4 : decode cX9_inOrder 4 = .ok (.iload_n 3, 1) := by decide +kernel
theorem dX9_inOrder_5 : decode cX9_inOrder 5 = .ok (.aload_n 0, 1) := by decide +kernel
theorem dX9_inOrder_6 : decode cX9_inOrder 6 = .ok (.getfield 112, 3) := by decide +kernel
theorem dX9_inOrder_9 : decode cX9_inOrder 9 = .ok (.if_icmp .ge 25, 3) := by decide +kernel
theorem dX9_inOrder_12 : decode cX9_inOrder 12 = .ok (.aload_n 0, 1) := by decide +kernel
theorem dX9_inOrder_13 : decode cX9_inOrder 13 = .ok (.getfield 53, 3) := by decide +kernel
theorem dX9_inOrder_16 : decode cX9_inOrder 16 = .ok (.iload_n 3, 1) := by decide +kernel
theorem dX9_inOrder_17 : decode cX9_inOrder 17 = .ok (.iaload, 1) := by decide +kernel
theorem dX9_inOrder_18 : decode cX9_inOrder 18 = .ok (.iload_n 1, 1) := by decide +kernel
theorem dX9_inOrder_19 : decode cX9_inOrder 19 = .ok (.if_icmp .ne 7, 3) := by decide +kernel
theorem dX9_inOrder_22 : decode cX9_inOrder 22 = .ok (.iload_n 3, 1) := by decide +kernel
theorem dX9_inOrder_23 : decode cX9_inOrder 23 = .ok (.goto 4, 3) := by decide +kernel
theorem dX9_inOrder_26 : decode cX9_inOrder 26 = .ok (.iload_n 2, 1) := by decide +kernel
theorem dX9_inOrder_27 : decode cX9_inOrder 27 = .ok (.istore_n 2, 1) := by decide +kernel
theorem dX9_inOrder_28 : decode cX9_inOrder 28 = .ok (.iinc 3 1, 3) := by decide +kernel
theorem dX9_inOrder_31 : decode cX9_inOrder 31 = .ok (.goto (-27), 3) := by decide +kernel
theorem dX9_inOrder_34 : decode cX9_inOrder 34 = .ok (.iload_n 2, 1) := by decide +kernel
theorem dX9_inOrder_35 : decode cX9_inOrder 35 = .ok (.ireturn, 1) := by decide +kernel
theorem dX9_seenAhead_0 : decode cX9_seenAhead 0 = .ok (.iconst 0, 1) := by decide +kernel
theorem dX9_seenAhead_1 : decode cX9_seenAhead 1 = .ok (.istore_n 2, 1) := by decide +kernel
theorem dX9_seenAhead_2 : decode cX9_seenAhead 2 = .ok (.iconst 0, 1) := by decide +kernel
theorem dX9_seenAhead_3 : decode cX9_seenAhead 3 = .ok (.istore_n 3, 1) := by decide +kernel
theorem dX9_seenAhead_4 : decode cX9_seenAhead 4 = .ok (.iload_n 3, 1) := by decide +kernel
theorem dX9_seenAhead_5 : decode cX9_seenAhead 5 = .ok (.iload_n 1, 1) := by decide +kernel
theorem dX9_seenAhead_6 : decode cX9_seenAhead 6 = .ok (.if_icmp .ge 26, 3) := by decide +kernel
theorem dX9_seenAhead_9 : decode cX9_seenAhead 9 = .ok (.iload_n 2, 1) := by decide +kernel
theorem dX9_seenAhead_10 : decode cX9_seenAhead 10 = .ok (.aload_n 0, 1) := by decide +kernel
theorem dX9_seenAhead_11 : decode cX9_seenAhead 11 = .ok (.getfield 56, 3) := by decide +kernel
theorem dX9_seenAhead_14 : decode cX9_seenAhead 14 = .ok (.iload_n 3, 1) := by decide +kernel
theorem dX9_seenAhead_15 : decode cX9_seenAhead 15 = .ok (.baload, 1) := by decide +kernel
theorem dX9_seenAhead_16 : decode cX9_seenAhead 16 = .ok (.ifCond .eq 7, 3) := by decide +kernel
theorem dX9_seenAhead_19 : decode cX9_seenAhead 19 = .ok (.iconst 1, 1) := by decide +kernel
theorem dX9_seenAhead_20 : decode cX9_seenAhead 20 = .ok (.goto 4, 3) := by decide +kernel
theorem dX9_seenAhead_23 : decode cX9_seenAhead 23 = .ok (.iconst 0, 1) := by decide +kernel
theorem dX9_seenAhead_24 : decode cX9_seenAhead 24 = .ok (.iadd, 1) := by decide +kernel
theorem dX9_seenAhead_25 : decode cX9_seenAhead 25 = .ok (.istore_n 2, 1) := by decide +kernel
theorem dX9_seenAhead_26 : decode cX9_seenAhead 26 = .ok (.iinc 3 1, 3) := by decide +kernel
theorem dX9_seenAhead_29 : decode cX9_seenAhead 29 = .ok (.goto (-25), 3) := by decide +kernel
theorem dX9_seenAhead_32 : decode cX9_seenAhead 32 = .ok (.iload_n 2, 1) := by decide +kernel
theorem dX9_seenAhead_33 : decode cX9_seenAhead 33 = .ok (.ireturn, 1) := by decide +kernel
theorem dX9_covers_0 : decode cX9_covers 0 = .ok (.aload_n 0, 1) := by decide +kernel
theorem dX9_covers_1 : decode cX9_covers 1 = .ok (.aload_n 0, 1) := by decide +kernel
theorem dX9_covers_2 : decode cX9_covers 2 = .ok (.getfield 22, 3) := by decide +kernel
theorem dX9_covers_5 : decode cX9_covers 5 = .ok (.bipush 12, 2) := by decide +kernel
theorem dX9_covers_7 : decode cX9_covers 7 = .ok (.iload_n 1, 1) := by decide +kernel
theorem dX9_covers_8 : decode cX9_covers 8 = .ok (.imul, 1) := by decide +kernel
theorem dX9_covers_9 : decode cX9_covers 9 = .ok (.iaload, 1) := by decide +kernel
theorem dX9_covers_10 : decode cX9_covers 10 = .ok (.invokevirtual 138, 3) := by decide +kernel
theorem dX9_covers_13 : decode cX9_covers 13 = .ok (.istore_n 3, 1) := by decide +kernel
theorem dX9_covers_14 : decode cX9_covers 14 = .ok (.aload_n 0, 1) := by decide +kernel
theorem dX9_covers_15 : decode cX9_covers 15 = .ok (.aload_n 0, 1) := by decide +kernel
theorem dX9_covers_16 : decode cX9_covers 16 = .ok (.getfield 22, 3) := by decide +kernel
theorem dX9_covers_19 : decode cX9_covers 19 = .ok (.bipush 12, 2) := by decide +kernel
theorem dX9_covers_21 : decode cX9_covers 21 = .ok (.iload_n 1, 1) := by decide +kernel
theorem dX9_covers_22 : decode cX9_covers 22 = .ok (.imul, 1) := by decide +kernel
theorem dX9_covers_23 : decode cX9_covers 23 = .ok (.iconst 1, 1) := by decide +kernel
theorem dX9_covers_24 : decode cX9_covers 24 = .ok (.iadd, 1) := by decide +kernel
theorem dX9_covers_25 : decode cX9_covers 25 = .ok (.iaload, 1) := by decide +kernel
theorem dX9_covers_26 : decode cX9_covers 26 = .ok (.invokevirtual 138, 3) := by decide +kernel
theorem dX9_covers_29 : decode cX9_covers 29 = .ok (.istore 4, 2) := by decide +kernel
theorem dX9_covers_31 : decode cX9_covers 31 = .ok (.iload_n 2, 1) := by decide +kernel
theorem dX9_covers_32 : decode cX9_covers 32 = .ok (.iload_n 3, 1) := by decide +kernel
theorem dX9_covers_33 : decode cX9_covers 33 = .ok (.if_icmp .lt 11, 3) := by decide +kernel
theorem dX9_covers_36 : decode cX9_covers 36 = .ok (.iload_n 2, 1) := by decide +kernel
theorem dX9_covers_37 : decode cX9_covers 37 = .ok (.iload 4, 2) := by decide +kernel
theorem dX9_covers_39 : decode cX9_covers 39 = .ok (.if_icmp .gt 5, 3) := by decide +kernel
theorem dX9_covers_42 : decode cX9_covers 42 = .ok (.iconst 1, 1) := by decide +kernel
theorem dX9_covers_43 : decode cX9_covers 43 = .ok (.ireturn, 1) := by decide +kernel
theorem dX9_covers_44 : decode cX9_covers 44 = .ok (.iload_n 2, 1) := by decide +kernel
theorem dX9_covers_45 : decode cX9_covers 45 = .ok (.iload_n 3, 1) := by decide +kernel
theorem dX9_covers_46 : decode cX9_covers 46 = .ok (.if_icmp .lt 14, 3) := by decide +kernel
theorem dX9_covers_49 : decode cX9_covers 49 = .ok (.aload_n 0, 1) := by decide +kernel
theorem dX9_covers_50 : decode cX9_covers 50 = .ok (.getfield 28, 3) := by decide +kernel
theorem dX9_covers_53 : decode cX9_covers 53 = .ok (.iload_n 1, 1) := by decide +kernel
theorem dX9_covers_54 : decode cX9_covers 54 = .ok (.iaload, 1) := by decide +kernel
theorem dX9_covers_55 : decode cX9_covers 55 = .ok (.bipush (-3), 2) := by decide +kernel
theorem dX9_covers_57 : decode cX9_covers 57 = .ok (.if_icmp .ne 5, 3) := by decide +kernel
theorem dX9_covers_60 : decode cX9_covers 60 = .ok (.iconst 0, 1) := by decide +kernel
theorem dX9_covers_61 : decode cX9_covers 61 = .ok (.ireturn, 1) := by decide +kernel
theorem dX9_covers_62 : decode cX9_covers 62 = .ok (.aload_n 0, 1) := by decide +kernel
theorem dX9_covers_63 : decode cX9_covers 63 = .ok (.getfield 28, 3) := by decide +kernel
theorem dX9_covers_66 : decode cX9_covers 66 = .ok (.iload_n 1, 1) := by decide +kernel
theorem dX9_covers_67 : decode cX9_covers 67 = .ok (.iaload, 1) := by decide +kernel
theorem dX9_covers_68 : decode cX9_covers 68 = .ok (.bipush (-2), 2) := by decide +kernel
theorem dX9_covers_70 : decode cX9_covers 70 = .ok (.if_icmp .eq 17, 3) := by decide +kernel
theorem dX9_covers_73 : decode cX9_covers 73 = .ok (.iload_n 2, 1) := by decide +kernel
theorem dX9_covers_74 : decode cX9_covers 74 = .ok (.aload_n 0, 1) := by decide +kernel
theorem dX9_covers_75 : decode cX9_covers 75 = .ok (.aload_n 0, 1) := by decide +kernel
theorem dX9_covers_76 : decode cX9_covers 76 = .ok (.getfield 28, 3) := by decide +kernel
theorem dX9_covers_79 : decode cX9_covers 79 = .ok (.iload_n 1, 1) := by decide +kernel
theorem dX9_covers_80 : decode cX9_covers 80 = .ok (.iaload, 1) := by decide +kernel
theorem dX9_covers_81 : decode cX9_covers 81 = .ok (.invokevirtual 138, 3) := by decide +kernel
theorem dX9_covers_84 : decode cX9_covers 84 = .ok (.if_icmp .ge 7, 3) := by decide +kernel
theorem dX9_covers_87 : decode cX9_covers 87 = .ok (.iconst 1, 1) := by decide +kernel
theorem dX9_covers_88 : decode cX9_covers 88 = .ok (.goto 4, 3) := by decide +kernel
theorem dX9_covers_91 : decode cX9_covers 91 = .ok (.iconst 0, 1) := by decide +kernel
theorem dX9_covers_92 : decode cX9_covers 92 = .ok (.ireturn, 1) := by decide +kernel
theorem dX9_hasTint_0 : decode cX9_hasTint 0 = .ok (.iconst (-1), 1) := by decide +kernel
theorem dX9_hasTint_1 : decode cX9_hasTint 1 = .ok (.istore_n 3, 1) := by decide +kernel
theorem dX9_hasTint_2 : decode cX9_hasTint 2 = .ok (.iconst 0, 1) := by decide +kernel
theorem dX9_hasTint_3 : decode cX9_hasTint 3 = .ok (.istore 4, 2) := by decide +kernel
theorem dX9_hasTint_5 : decode cX9_hasTint 5 = .ok (.iload 4, 2) := by decide +kernel
theorem dX9_hasTint_7 : decode cX9_hasTint 7 = .ok (.aload_n 0, 1) := by decide +kernel
theorem dX9_hasTint_8 : decode cX9_hasTint 8 = .ok (.getfield 84, 3) := by decide +kernel
theorem dX9_hasTint_11 : decode cX9_hasTint 11 = .ok (.if_icmp .ge 72, 3) := by decide +kernel
theorem dX9_hasTint_14 : decode cX9_hasTint 14 = .ok (.aload_n 0, 1) := by decide +kernel
theorem dX9_hasTint_15 : decode cX9_hasTint 15 = .ok (.getfield 50, 3) := by decide +kernel
theorem dX9_hasTint_18 : decode cX9_hasTint 18 = .ok (.iload 4, 2) := by decide +kernel
theorem dX9_hasTint_20 : decode cX9_hasTint 20 = .ok (.baload, 1) := by decide +kernel
theorem dX9_hasTint_21 : decode cX9_hasTint 21 = .ok (.ifCond .eq 56, 3) := by decide +kernel
theorem dX9_hasTint_24 : decode cX9_hasTint 24 = .ok (.aload_n 0, 1) := by decide +kernel
theorem dX9_hasTint_25 : decode cX9_hasTint 25 = .ok (.getfield 16, 3) := by decide +kernel
theorem dX9_hasTint_28 : decode cX9_hasTint 28 = .ok (.iload 4, 2) := by decide +kernel
theorem dX9_hasTint_30 : decode cX9_hasTint 30 = .ok (.iaload, 1) := by decide +kernel
theorem dX9_hasTint_31 : decode cX9_hasTint 31 = .ok (.iconst 2, 1) := by decide +kernel
theorem dX9_hasTint_32 : decode cX9_hasTint 32 = .ok (.if_icmp .ne 45, 3) := by decide +kernel
theorem dX9_hasTint_35 : decode cX9_hasTint 35 = .ok (.aload_n 0, 1) := by decide +kernel
theorem dX9_hasTint_36 : decode cX9_hasTint 36 = .ok (.getfield 31, 3) := by decide +kernel
theorem dX9_hasTint_39 : decode cX9_hasTint 39 = .ok (.iload 4, 2) := by decide +kernel
theorem dX9_hasTint_41 : decode cX9_hasTint 41 = .ok (.iaload, 1) := by decide +kernel
theorem dX9_hasTint_42 : decode cX9_hasTint 42 = .ok (.iload_n 2, 1) := by decide +kernel
theorem dX9_hasTint_43 : decode cX9_hasTint 43 = .ok (.if_icmp .ne 34, 3) := by decide +kernel
theorem dX9_hasTint_46 : decode cX9_hasTint 46 = .ok (.aload_n 0, 1) := by decide +kernel
theorem dX9_hasTint_47 : decode cX9_hasTint 47 = .ok (.iload 4, 2) := by decide +kernel
theorem dX9_hasTint_49 : decode cX9_hasTint 49 = .ok (.iload_n 1, 1) := by decide +kernel
theorem dX9_hasTint_50 : decode cX9_hasTint 50 = .ok (.invokevirtual 141, 3) := by decide +kernel
theorem dX9_hasTint_53 : decode cX9_hasTint 53 = .ok (.ifCond .eq 24, 3) := by decide +kernel
theorem dX9_hasTint_56 : decode cX9_hasTint 56 = .ok (.iload_n 3, 1) := by decide +kernel
theorem dX9_hasTint_57 : decode cX9_hasTint 57 = .ok (.ifCond .lt 13, 3) := by decide +kernel
theorem dX9_hasTint_60 : decode cX9_hasTint 60 = .ok (.aload_n 0, 1) := by decide +kernel
theorem dX9_hasTint_61 : decode cX9_hasTint 61 = .ok (.iload 4, 2) := by decide +kernel
theorem dX9_hasTint_63 : decode cX9_hasTint 63 = .ok (.iload_n 3, 1) := by decide +kernel
theorem dX9_hasTint_64 : decode cX9_hasTint 64 = .ok (.invokevirtual 108, 3) := by decide +kernel
theorem dX9_hasTint_67 : decode cX9_hasTint 67 = .ok (.ifCond .eq 8, 3) := by decide +kernel
theorem dX9_hasTint_70 : decode cX9_hasTint 70 = .ok (.iload 4, 2) := by decide +kernel
theorem dX9_hasTint_72 : decode cX9_hasTint 72 = .ok (.goto 4, 3) := by decide +kernel
theorem dX9_hasTint_75 : decode cX9_hasTint 75 = .ok (.iload_n 3, 1) := by decide +kernel
theorem dX9_hasTint_76 : decode cX9_hasTint 76 = .ok (.istore_n 3, 1) := by decide +kernel
theorem dX9_hasTint_77 : decode cX9_hasTint 77 = .ok (.iinc 4 1, 3) := by decide +kernel
theorem dX9_hasTint_80 : decode cX9_hasTint 80 = .ok (.goto (-75), 3) := by decide +kernel
theorem dX9_hasTint_83 : decode cX9_hasTint 83 = .ok (.iload_n 3, 1) := by decide +kernel
theorem dX9_hasTint_84 : decode cX9_hasTint 84 = .ok (.ifCond .lt 16, 3) := by decide +kernel
theorem dX9_hasTint_87 : decode cX9_hasTint 87 = .ok (.aload_n 0, 1) := by decide +kernel
theorem dX9_hasTint_88 : decode cX9_hasTint 88 = .ok (.getfield 34, 3) := by decide +kernel
theorem dX9_hasTint_91 : decode cX9_hasTint 91 = .ok (.iload_n 3, 1) := by decide +kernel
theorem dX9_hasTint_92 : decode cX9_hasTint 92 = .ok (.baload, 1) := by decide +kernel
theorem dX9_hasTint_93 : decode cX9_hasTint 93 = .ok (.ifCond .eq 7, 3) := by decide +kernel
theorem dX9_hasTint_96 : decode cX9_hasTint 96 = .ok (.iconst 1, 1) := by decide +kernel
theorem dX9_hasTint_97 : decode cX9_hasTint 97 = .ok (.goto 4, 3) := by decide +kernel
theorem dX9_hasTint_100 : decode cX9_hasTint 100 = .ok (.iconst 0, 1) := by decide +kernel
theorem dX9_hasTint_101 : decode cX9_hasTint 101 = .ok (.ireturn, 1) := by decide +kernel
theorem dX9_tintsOf_0 : decode cX9_tintsOf 0 = .ok (.iconst 0, 1) := by decide +kernel
theorem dX9_tintsOf_1 : decode cX9_tintsOf 1 = .ok (.istore_n 2, 1) := by decide +kernel
theorem dX9_tintsOf_2 : decode cX9_tintsOf 2 = .ok (.iconst 0, 1) := by decide +kernel
theorem dX9_tintsOf_3 : decode cX9_tintsOf 3 = .ok (.istore_n 3, 1) := by decide +kernel
theorem dX9_tintsOf_4 : decode cX9_tintsOf 4 = .ok (.iload_n 3, 1) := by decide +kernel
theorem dX9_tintsOf_5 : decode cX9_tintsOf 5 = .ok (.iconst 4, 1) := by decide +kernel
theorem dX9_tintsOf_6 : decode cX9_tintsOf 6 = .ok (.if_icmp .ge 28, 3) := by decide +kernel
theorem dX9_tintsOf_9 : decode cX9_tintsOf 9 = .ok (.iload_n 2, 1) := by decide +kernel
theorem dX9_tintsOf_10 : decode cX9_tintsOf 10 = .ok (.aload_n 0, 1) := by decide +kernel
theorem dX9_tintsOf_11 : decode cX9_tintsOf 11 = .ok (.iload_n 1, 1) := by decide +kernel
theorem dX9_tintsOf_12 : decode cX9_tintsOf 12 = .ok (.iload_n 3, 1) := by decide +kernel
theorem dX9_tintsOf_13 : decode cX9_tintsOf 13 = .ok (.invokevirtual 144, 3) := by decide +kernel
theorem dX9_tintsOf_16 : decode cX9_tintsOf 16 = .ok (.ifCond .eq 9, 3) := by decide +kernel
theorem dX9_tintsOf_19 : decode cX9_tintsOf 19 = .ok (.iconst 1, 1) := by decide +kernel
theorem dX9_tintsOf_20 : decode cX9_tintsOf 20 = .ok (.iload_n 3, 1) := by decide +kernel
theorem dX9_tintsOf_21 : decode cX9_tintsOf 21 = .ok (.ishl, 1) := by decide +kernel
theorem dX9_tintsOf_22 : decode cX9_tintsOf 22 = .ok (.goto 4, 3) := by decide +kernel
theorem dX9_tintsOf_25 : decode cX9_tintsOf 25 = .ok (.iconst 0, 1) := by decide +kernel
theorem dX9_tintsOf_26 : decode cX9_tintsOf 26 = .ok (.iadd, 1) := by decide +kernel
theorem dX9_tintsOf_27 : decode cX9_tintsOf 27 = .ok (.istore_n 2, 1) := by decide +kernel
theorem dX9_tintsOf_28 : decode cX9_tintsOf 28 = .ok (.iinc 3 1, 3) := by decide +kernel
theorem dX9_tintsOf_31 : decode cX9_tintsOf 31 = .ok (.goto (-27), 3) := by decide +kernel
theorem dX9_tintsOf_34 : decode cX9_tintsOf 34 = .ok (.iload_n 2, 1) := by decide +kernel
theorem dX9_tintsOf_35 : decode cX9_tintsOf 35 = .ok (.ireturn, 1) := by decide +kernel
theorem dX9_make_0 : decode cX9_make 0 = .ok (.iconst 0, 1) := by decide +kernel
theorem dX9_make_1 : decode cX9_make 1 = .ok (.istore 4, 2) := by decide +kernel
theorem dX9_make_3 : decode cX9_make 3 = .ok (.iconst 0, 1) := by decide +kernel
theorem dX9_make_4 : decode cX9_make 4 = .ok (.istore 5, 2) := by decide +kernel
theorem dX9_make_6 : decode cX9_make 6 = .ok (.iload 5, 2) := by decide +kernel
theorem dX9_make_8 : decode cX9_make 8 = .ok (.aload_n 0, 1) := by decide +kernel
theorem dX9_make_9 : decode cX9_make 9 = .ok (.getfield 84, 3) := by decide +kernel
theorem dX9_make_12 : decode cX9_make 12 = .ok (.if_icmp .ge 45, 3) := by decide +kernel
theorem dX9_make_15 : decode cX9_make 15 = .ok (.aload_n 0, 1) := by decide +kernel
theorem dX9_make_16 : decode cX9_make 16 = .ok (.getfield 47, 3) := by decide +kernel
theorem dX9_make_19 : decode cX9_make 19 = .ok (.iload 5, 2) := by decide +kernel
theorem dX9_make_21 : decode cX9_make 21 = .ok (.baload, 1) := by decide +kernel
theorem dX9_make_22 : decode cX9_make 22 = .ok (.ifCond .eq 25, 3) := by decide +kernel
theorem dX9_make_25 : decode cX9_make 25 = .ok (.aload_n 0, 1) := by decide +kernel
theorem dX9_make_26 : decode cX9_make 26 = .ok (.getfield 13, 3) := by decide +kernel
theorem dX9_make_29 : decode cX9_make 29 = .ok (.iload 5, 2) := by decide +kernel
theorem dX9_make_31 : decode cX9_make 31 = .ok (.iaload, 1) := by decide +kernel
theorem dX9_make_32 : decode cX9_make 32 = .ok (.iload 4, 2) := by decide +kernel
theorem dX9_make_34 : decode cX9_make 34 = .ok (.if_icmp .le 13, 3) := by decide +kernel
theorem dX9_make_37 : decode cX9_make 37 = .ok (.aload_n 0, 1) := by decide +kernel
theorem dX9_make_38 : decode cX9_make 38 = .ok (.getfield 13, 3) := by decide +kernel
theorem dX9_make_41 : decode cX9_make 41 = .ok (.iload 5, 2) := by decide +kernel
theorem dX9_make_43 : decode cX9_make 43 = .ok (.iaload, 1) := by decide +kernel
theorem dX9_make_44 : decode cX9_make 44 = .ok (.goto 5, 3) := by decide +kernel
theorem dX9_make_47 : decode cX9_make 47 = .ok (.iload 4, 2) := by decide +kernel
theorem dX9_make_49 : decode cX9_make 49 = .ok (.istore 4, 2) := by decide +kernel
theorem dX9_make_51 : decode cX9_make 51 = .ok (.iinc 5 1, 3) := by decide +kernel
theorem dX9_make_54 : decode cX9_make 54 = .ok (.goto (-48), 3) := by decide +kernel
theorem dX9_make_57 : decode cX9_make 57 = .ok (.aload_n 0, 1) := by decide +kernel
theorem dX9_make_58 : decode cX9_make 58 = .ok (.getfield 7, 3) := by decide +kernel
theorem dX9_make_61 : decode cX9_make 61 = .ok (.aload_n 0, 1) := by decide +kernel
theorem dX9_make_62 : decode cX9_make 62 = .ok (.getfield 84, 3) := by decide +kernel
theorem dX9_make_65 : decode cX9_make 65 = .ok (.iload_n 1, 1) := by decide +kernel
theorem dX9_make_66 : decode cX9_make 66 = .ok (.iastore, 1) := by decide +kernel
theorem dX9_make_67 : decode cX9_make 67 = .ok (.aload_n 0, 1) := by decide +kernel
theorem dX9_make_68 : decode cX9_make 68 = .ok (.getfield 13, 3) := by decide +kernel
theorem dX9_make_71 : decode cX9_make 71 = .ok (.aload_n 0, 1) := by decide +kernel
theorem dX9_make_72 : decode cX9_make 72 = .ok (.getfield 84, 3) := by decide +kernel
theorem dX9_make_75 : decode cX9_make 75 = .ok (.iload 4, 2) := by decide +kernel
theorem dX9_make_77 : decode cX9_make 77 = .ok (.iconst 1, 1) := by decide +kernel
theorem dX9_make_78 : decode cX9_make 78 = .ok (.iadd, 1) := by decide +kernel
theorem dX9_make_79 : decode cX9_make 79 = .ok (.iastore, 1) := by decide +kernel
theorem dX9_make_80 : decode cX9_make 80 = .ok (.aload_n 0, 1) := by decide +kernel
theorem dX9_make_81 : decode cX9_make 81 = .ok (.getfield 16, 3) := by decide +kernel
theorem dX9_make_84 : decode cX9_make 84 = .ok (.aload_n 0, 1) := by decide +kernel
theorem dX9_make_85 : decode cX9_make 85 = .ok (.getfield 84, 3) := by decide +kernel
theorem dX9_make_88 : decode cX9_make 88 = .ok (.iload_n 2, 1) := by decide +kernel
theorem dX9_make_89 : decode cX9_make 89 = .ok (.iastore, 1) := by decide +kernel
theorem dX9_make_90 : decode cX9_make 90 = .ok (.aload_n 0, 1) := by decide +kernel
theorem dX9_make_91 : decode cX9_make 91 = .ok (.getfield 19, 3) := by decide +kernel
theorem dX9_make_94 : decode cX9_make 94 = .ok (.aload_n 0, 1) := by decide +kernel
theorem dX9_make_95 : decode cX9_make 95 = .ok (.getfield 84, 3) := by decide +kernel
theorem dX9_make_98 : decode cX9_make 98 = .ok (.iload_n 3, 1) := by decide +kernel
theorem dX9_make_99 : decode cX9_make 99 = .ok (.iastore, 1) := by decide +kernel
theorem dX9_make_100 : decode cX9_make 100 = .ok (.aload_n 0, 1) := by decide +kernel
theorem dX9_make_101 : decode cX9_make 101 = .ok (.getfield 28, 3) := by decide +kernel
theorem dX9_make_104 : decode cX9_make 104 = .ok (.aload_n 0, 1) := by decide +kernel
theorem dX9_make_105 : decode cX9_make 105 = .ok (.getfield 84, 3) := by decide +kernel
theorem dX9_make_108 : decode cX9_make 108 = .ok (.bipush (-3), 2) := by decide +kernel
theorem dX9_make_110 : decode cX9_make 110 = .ok (.iastore, 1) := by decide +kernel
theorem dX9_make_111 : decode cX9_make 111 = .ok (.iconst 0, 1) := by decide +kernel
theorem dX9_make_112 : decode cX9_make 112 = .ok (.istore 5, 2) := by decide +kernel
theorem dX9_make_114 : decode cX9_make 114 = .ok (.iload 5, 2) := by decide +kernel
theorem dX9_make_116 : decode cX9_make 116 = .ok (.bipush 6, 2) := by decide +kernel
theorem dX9_make_118 : decode cX9_make 118 = .ok (.if_icmp .ge 36, 3) := by decide +kernel
theorem dX9_make_121 : decode cX9_make 121 = .ok (.aload_n 0, 1) := by decide +kernel
theorem dX9_make_122 : decode cX9_make 122 = .ok (.getfield 38, 3) := by decide +kernel
theorem dX9_make_125 : decode cX9_make 125 = .ok (.sipush 256, 3) := by decide +kernel
theorem dX9_make_128 : decode cX9_make 128 = .ok (.iload 5, 2) := by decide +kernel
theorem dX9_make_130 : decode cX9_make 130 = .ok (.imul, 1) := by decide +kernel
theorem dX9_make_131 : decode cX9_make 131 = .ok (.aload_n 0, 1) := by decide +kernel
theorem dX9_make_132 : decode cX9_make 132 = .ok (.getfield 84, 3) := by decide +kernel
theorem dX9_make_135 : decode cX9_make 135 = .ok (.iadd, 1) := by decide +kernel
theorem dX9_make_136 : decode cX9_make 136 = .ok (.iload 5, 2) := by decide +kernel
theorem dX9_make_138 : decode cX9_make 138 = .ok (.iload_n 1, 1) := by decide +kernel
theorem dX9_make_139 : decode cX9_make 139 = .ok (.if_icmp .ne 7, 3) := by decide +kernel
theorem dX9_make_142 : decode cX9_make 142 = .ok (.iconst 1, 1) := by decide +kernel
theorem dX9_make_143 : decode cX9_make 143 = .ok (.goto 4, 3) := by decide +kernel
theorem dX9_make_146 : decode cX9_make 146 = .ok (.iconst 0, 1) := by decide +kernel
theorem dX9_make_147 : decode cX9_make 147 = .ok (.bastore, 1) := by decide +kernel
theorem dX9_make_148 : decode cX9_make 148 = .ok (.iinc 5 1, 3) := by decide +kernel
theorem dX9_make_151 : decode cX9_make 151 = .ok (.goto (-37), 3) := by decide +kernel
theorem dX9_make_154 : decode cX9_make 154 = .ok (.aload_n 0, 1) := by decide +kernel
theorem dX9_make_155 : decode cX9_make 155 = .ok (.dup, 1) := by decide +kernel
theorem dX9_make_156 : decode cX9_make 156 = .ok (.getfield 84, 3) := by decide +kernel
theorem dX9_make_159 : decode cX9_make 159 = .ok (.iconst 1, 1) := by decide +kernel
theorem dX9_make_160 : decode cX9_make 160 = .ok (.iadd, 1) := by decide +kernel
theorem dX9_make_161 : decode cX9_make 161 = .ok (.putfield 84, 3) := by decide +kernel
theorem dX9_make_164 : decode cX9_make 164 = .ok (.aload_n 0, 1) := by decide +kernel
theorem dX9_make_165 : decode cX9_make 165 = .ok (.getfield 84, 3) := by decide +kernel
theorem dX9_make_168 : decode cX9_make 168 = .ok (.iconst 1, 1) := by decide +kernel
theorem dX9_make_169 : decode cX9_make 169 = .ok (.isub, 1) := by decide +kernel
theorem dX9_make_170 : decode cX9_make 170 = .ok (.ireturn, 1) := by decide +kernel
theorem dX9_type_0 : decode cX9_type 0 = .ok (.iload_n 1, 1) := by decide +kernel
theorem dX9_type_1 : decode cX9_type 1 = .ok (.invokestatic 147, 3) := by decide +kernel
theorem dX9_type_4 : decode cX9_type 4 = .ok (.ifCond .ne 9, 3) := by decide +kernel
theorem dX9_type_7 : decode cX9_type 7 = .ok (.aload_n 0, 1) := by decide +kernel
theorem dX9_type_8 : decode cX9_type 8 = .ok (.iconst 1, 1) := by decide +kernel
theorem dX9_type_9 : decode cX9_type 9 = .ok (.invokevirtual 150, 3) := by decide +kernel
theorem dX9_type_12 : decode cX9_type 12 = .ok (.ireturn, 1) := by decide +kernel
theorem dX9_type_13 : decode cX9_type 13 = .ok (.aload_n 0, 1) := by decide +kernel
theorem dX9_type_14 : decode cX9_type 14 = .ok (.iload_n 1, 1) := by decide +kernel
theorem dX9_type_15 : decode cX9_type 15 = .ok (.invokevirtual 153, 3) := by decide +kernel
theorem dX9_type_18 : decode cX9_type 18 = .ok (.istore 6, 2) := by decide +kernel
theorem dX9_type_20 : decode cX9_type 20 = .ok (.aload_n 0, 1) := by decide +kernel
theorem dX9_type_21 : decode cX9_type 21 = .ok (.getfield 68, 3) := by decide +kernel
theorem dX9_type_24 : decode cX9_type 24 = .ok (.iconst 0, 1) := by decide +kernel
theorem dX9_type_25 : decode cX9_type 25 = .ok (.iload_n 3, 1) := by decide +kernel
theorem dX9_type_26 : decode cX9_type 26 = .ok (.iastore, 1) := by decide +kernel
theorem dX9_type_27 : decode cX9_type 27 = .ok (.aload_n 0, 1) := by decide +kernel
theorem dX9_type_28 : decode cX9_type 28 = .ok (.getfield 68, 3) := by decide +kernel
theorem dX9_type_31 : decode cX9_type 31 = .ok (.iconst 1, 1) := by decide +kernel
theorem dX9_type_32 : decode cX9_type 32 = .ok (.iload 4, 2) := by decide +kernel
theorem dX9_type_34 : decode cX9_type 34 = .ok (.iastore, 1) := by decide +kernel
theorem dX9_type_35 : decode cX9_type 35 = .ok (.aload_n 0, 1) := by decide +kernel
theorem dX9_type_36 : decode cX9_type 36 = .ok (.getfield 68, 3) := by decide +kernel
theorem dX9_type_39 : decode cX9_type 39 = .ok (.iconst 2, 1) := by decide +kernel
theorem dX9_type_40 : decode cX9_type 40 = .ok (.iload 5, 2) := by decide +kernel
theorem dX9_type_42 : decode cX9_type 42 = .ok (.iastore, 1) := by decide +kernel
theorem dX9_type_43 : decode cX9_type 43 = .ok (.iconst 0, 1) := by decide +kernel
theorem dX9_type_44 : decode cX9_type 44 = .ok (.istore 7, 2) := by decide +kernel
theorem dX9_type_46 : decode cX9_type 46 = .ok (.iload_n 2, 1) := by decide +kernel
theorem dX9_type_47 : decode cX9_type 47 = .ok (.ifCond .lt 18, 3) := by decide +kernel
theorem dX9_type_50 : decode cX9_type 50 = .ok (.iload_n 2, 1) := by decide +kernel
theorem dX9_type_51 : decode cX9_type 51 = .ok (.iload 6, 2) := by decide +kernel
theorem dX9_type_53 : decode cX9_type 53 = .ok (.if_icmp .gt 12, 3) := by decide +kernel
theorem dX9_type_56 : decode cX9_type 56 = .ok (.iload_n 3, 1) := by decide +kernel
theorem dX9_type_57 : decode cX9_type 57 = .ok (.iconst (-1), 1) := by decide +kernel
theorem dX9_type_58 : decode cX9_type 58 = .ok (.if_icmp .eq 7, 3) := by decide +kernel
theorem dX9_type_61 : decode cX9_type 61 = .ok (.iconst 1, 1) := by decide +kernel
theorem dX9_type_62 : decode cX9_type 62 = .ok (.goto 4, 3) := by decide +kernel
theorem dX9_type_65 : decode cX9_type 65 = .ok (.iconst 0, 1) := by decide +kernel
theorem dX9_type_66 : decode cX9_type 66 = .ok (.istore 8, 2) := by decide +kernel
theorem dX9_type_68 : decode cX9_type 68 = .ok (.iload 7, 2) := by decide +kernel
theorem dX9_type_70 : decode cX9_type 70 = .ok (.iconst 3, 1) := by decide +kernel
theorem dX9_type_71 : decode cX9_type 71 = .ok (.if_icmp .ge 55, 3) := by decide +kernel
theorem dX9_type_74 : decode cX9_type 74 = .ok (.aload_n 0, 1) := by decide +kernel
theorem dX9_type_75 : decode cX9_type 75 = .ok (.getfield 68, 3) := by decide +kernel
theorem dX9_type_78 : decode cX9_type 78 = .ok (.iload 7, 2) := by decide +kernel
theorem dX9_type_80 : decode cX9_type 80 = .ok (.iaload, 1) := by decide +kernel
theorem dX9_type_81 : decode cX9_type 81 = .ok (.iconst (-1), 1) := by decide +kernel
theorem dX9_type_82 : decode cX9_type 82 = .ok (.if_icmp .eq 44, 3) := by decide +kernel
theorem dX9_type_85 : decode cX9_type 85 = .ok (.iload 8, 2) := by decide +kernel
theorem dX9_type_87 : decode cX9_type 87 = .ok (.ifCond .eq 30, 3) := by decide +kernel
theorem dX9_type_90 : decode cX9_type 90 = .ok (.aload_n 0, 1) := by decide +kernel
theorem dX9_type_91 : decode cX9_type 91 = .ok (.getfield 68, 3) := by decide +kernel
theorem dX9_type_94 : decode cX9_type 94 = .ok (.iload 7, 2) := by decide +kernel
theorem dX9_type_96 : decode cX9_type 96 = .ok (.iaload, 1) := by decide +kernel
theorem dX9_type_97 : decode cX9_type 97 = .ok (.ifCond .lt 20, 3) := by decide +kernel
theorem dX9_type_100 : decode cX9_type 100 = .ok (.aload_n 0, 1) := by decide +kernel
theorem dX9_type_101 : decode cX9_type 101 = .ok (.getfield 68, 3) := by decide +kernel
theorem dX9_type_104 : decode cX9_type 104 = .ok (.iload 7, 2) := by decide +kernel
theorem dX9_type_106 : decode cX9_type 106 = .ok (.iaload, 1) := by decide +kernel
theorem dX9_type_107 : decode cX9_type 107 = .ok (.sipush 255, 3) := by decide +kernel
theorem dX9_type_110 : decode cX9_type 110 = .ok (.if_icmp .gt 7, 3) := by decide +kernel
theorem dX9_type_113 : decode cX9_type 113 = .ok (.iconst 1, 1) := by decide +kernel
theorem dX9_type_114 : decode cX9_type 114 = .ok (.goto 4, 3) := by decide +kernel
theorem dX9_type_117 : decode cX9_type 117 = .ok (.iconst 0, 1) := by decide +kernel
theorem dX9_type_118 : decode cX9_type 118 = .ok (.istore 8, 2) := by decide +kernel
theorem dX9_type_120 : decode cX9_type 120 = .ok (.iinc 7 1, 3) := by decide +kernel
theorem dX9_type_123 : decode cX9_type 123 = .ok (.goto (-55), 3) := by decide +kernel
theorem dX9_type_126 : decode cX9_type 126 = .ok (.iload 8, 2) := by decide +kernel
theorem dX9_type_128 : decode cX9_type 128 = .ok (.ifCond .ne 9, 3) := by decide +kernel
theorem dX9_type_131 : decode cX9_type 131 = .ok (.aload_n 0, 1) := by decide +kernel
theorem dX9_type_132 : decode cX9_type 132 = .ok (.iconst 1, 1) := by decide +kernel
theorem dX9_type_133 : decode cX9_type 133 = .ok (.invokevirtual 150, 3) := by decide +kernel
theorem dX9_type_136 : decode cX9_type 136 = .ok (.ireturn, 1) := by decide +kernel
theorem dX9_type_137 : decode cX9_type 137 = .ok (.aload_n 0, 1) := by decide +kernel
theorem dX9_type_138 : decode cX9_type 138 = .ok (.getfield 84, 3) := by decide +kernel
theorem dX9_type_141 : decode cX9_type 141 = .ok (.sipush 256, 3) := by decide +kernel
theorem dX9_type_144 : decode cX9_type 144 = .ok (.if_icmp .ne 9, 3) := by decide +kernel
theorem dX9_type_147 : decode cX9_type 147 = .ok (.aload_n 0, 1) := by decide +kernel
theorem dX9_type_148 : decode cX9_type 148 = .ok (.iconst 2, 1) := by decide +kernel
theorem dX9_type_149 : decode cX9_type 149 = .ok (.invokevirtual 150, 3) := by decide +kernel
theorem dX9_type_152 : decode cX9_type 152 = .ok (.ireturn, 1) := by decide +kernel
theorem dX9_type_153 : decode cX9_type 153 = .ok (.iload_n 2, 1) := by decide +kernel
theorem dX9_type_154 : decode cX9_type 154 = .ok (.ifCond .ne 8, 3) := by decide +kernel
theorem dX9_type_157 : decode cX9_type 157 = .ok (.bipush (-2), 2) := by decide +kernel
theorem dX9_type_159 : decode cX9_type 159 = .ok (.goto 15, 3) := by decide +kernel
theorem dX9_type_162 : decode cX9_type 162 = .ok (.aload_n 0, 1) := by decide +kernel
theorem dX9_type_163 : decode cX9_type 163 = .ok (.getfield 53, 3) := by decide +kernel
theorem dX9_type_166 : decode cX9_type 166 = .ok (.aload_n 0, 1) := by decide +kernel
theorem dX9_type_167 : decode cX9_type 167 = .ok (.iload_n 2, 1) := by decide +kernel
theorem dX9_type_168 : decode cX9_type 168 = .ok (.iconst 1, 1) := by decide +kernel
theorem dX9_type_169 : decode cX9_type 169 = .ok (.isub, 1) := by decide +kernel
theorem dX9_type_170 : decode cX9_type 170 = .ok (.invokevirtual 156, 3) := by decide +kernel
theorem dX9_type_173 : decode cX9_type 173 = .ok (.iaload, 1) := by decide +kernel
theorem dX9_type_174 : decode cX9_type 174 = .ok (.istore 9, 2) := by decide +kernel
theorem dX9_type_176 : decode cX9_type 176 = .ok (.aload_n 0, 1) := by decide +kernel
theorem dX9_type_177 : decode cX9_type 177 = .ok (.iload_n 1, 1) := by decide +kernel
theorem dX9_type_178 : decode cX9_type 178 = .ok (.iconst 0, 1) := by decide +kernel
theorem dX9_type_179 : decode cX9_type 179 = .ok (.iload 7, 2) := by decide +kernel
theorem dX9_type_181 : decode cX9_type 181 = .ok (.invokevirtual 159, 3) := by decide +kernel
theorem dX9_type_184 : decode cX9_type 184 = .ok (.istore 10, 2) := by decide +kernel
theorem dX9_type_186 : decode cX9_type 186 = .ok (.aload_n 0, 1) := by decide +kernel
theorem dX9_type_187 : decode cX9_type 187 = .ok (.getfield 28, 3) := by decide +kernel
theorem dX9_type_190 : decode cX9_type 190 = .ok (.iload 10, 2) := by decide +kernel
theorem dX9_type_192 : decode cX9_type 192 = .ok (.iload 9, 2) := by decide +kernel
theorem dX9_type_194 : decode cX9_type 194 = .ok (.iastore, 1) := by decide +kernel
theorem dX9_type_195 : decode cX9_type 195 = .ok (.iconst 0, 1) := by decide +kernel
theorem dX9_type_196 : decode cX9_type 196 = .ok (.istore 11, 2) := by decide +kernel
theorem dX9_type_198 : decode cX9_type 198 = .ok (.iload 11, 2) := by decide +kernel
theorem dX9_type_200 : decode cX9_type 200 = .ok (.iload 7, 2) := by decide +kernel
theorem dX9_type_202 : decode cX9_type 202 = .ok (.if_icmp .ge 48, 3) := by decide +kernel
theorem dX9_type_205 : decode cX9_type 205 = .ok (.aload_n 0, 1) := by decide +kernel
theorem dX9_type_206 : decode cX9_type 206 = .ok (.getfield 25, 3) := by decide +kernel
theorem dX9_type_209 : decode cX9_type 209 = .ok (.iconst 4, 1) := by decide +kernel
theorem dX9_type_210 : decode cX9_type 210 = .ok (.iload 10, 2) := by decide +kernel
theorem dX9_type_212 : decode cX9_type 212 = .ok (.imul, 1) := by decide +kernel
theorem dX9_type_213 : decode cX9_type 213 = .ok (.iload 11, 2) := by decide +kernel
theorem dX9_type_215 : decode cX9_type 215 = .ok (.iadd, 1) := by decide +kernel
theorem dX9_type_216 : decode cX9_type 216 = .ok (.aload_n 0, 1) := by decide +kernel
theorem dX9_type_217 : decode cX9_type 217 = .ok (.getfield 68, 3) := by decide +kernel
theorem dX9_type_220 : decode cX9_type 220 = .ok (.iload 11, 2) := by decide +kernel
theorem dX9_type_222 : decode cX9_type 222 = .ok (.iaload, 1) := by decide +kernel
theorem dX9_type_223 : decode cX9_type 223 = .ok (.iastore, 1) := by decide +kernel
theorem dX9_type_224 : decode cX9_type 224 = .ok (.aload_n 0, 1) := by decide +kernel
theorem dX9_type_225 : decode cX9_type 225 = .ok (.getfield 22, 3) := by decide +kernel
theorem dX9_type_228 : decode cX9_type 228 = .ok (.bipush 12, 2) := by decide +kernel
theorem dX9_type_230 : decode cX9_type 230 = .ok (.iload 10, 2) := by decide +kernel
theorem dX9_type_232 : decode cX9_type 232 = .ok (.imul, 1) := by decide +kernel
theorem dX9_type_233 : decode cX9_type 233 = .ok (.iload 11, 2) := by decide +kernel
theorem dX9_type_235 : decode cX9_type 235 = .ok (.iadd, 1) := by decide +kernel
theorem dX9_type_236 : decode cX9_type 236 = .ok (.iconst 4, 1) := by decide +kernel
theorem dX9_type_237 : decode cX9_type 237 = .ok (.iload 10, 2) := by decide +kernel
theorem dX9_type_239 : decode cX9_type 239 = .ok (.imul, 1) := by decide +kernel
theorem dX9_type_240 : decode cX9_type 240 = .ok (.iload 11, 2) := by decide +kernel
theorem dX9_type_242 : decode cX9_type 242 = .ok (.iadd, 1) := by decide +kernel
theorem dX9_type_243 : decode cX9_type 243 = .ok (.iastore, 1) := by decide +kernel
theorem dX9_type_244 : decode cX9_type 244 = .ok (.iinc 11 1, 3) := by decide +kernel
theorem dX9_type_247 : decode cX9_type 247 = .ok (.goto (-49), 3) := by decide +kernel
theorem dX9_type_250 : decode cX9_type 250 = .ok (.aload_n 0, 1) := by decide +kernel
theorem dX9_type_251 : decode cX9_type 251 = .ok (.iload 10, 2) := by decide +kernel
theorem dX9_type_253 : decode cX9_type 253 = .ok (.invokevirtual 163, 3) := by decide +kernel
theorem dX9_type_256 : decode cX9_type 256 = .ok (.ireturn, 1) := by decide +kernel
theorem dX9_isRange_0 : decode cX9_isRange 0 = .ok (.iload_n 0, 1) := by decide +kernel
theorem dX9_isRange_1 : decode cX9_isRange 1 = .ok (.ifCond .lt 23, 3) := by decide +kernel
theorem dX9_isRange_4 : decode cX9_isRange 4 = .ok (.iload_n 1, 1) := by decide +kernel
theorem dX9_isRange_5 : decode cX9_isRange 5 = .ok (.ifCond .lt 19, 3) := by decide +kernel
theorem dX9_isRange_8 : decode cX9_isRange 8 = .ok (.iload_n 1, 1) := by decide +kernel
theorem dX9_isRange_9 : decode cX9_isRange 9 = .ok (.iload_n 2, 1) := by decide +kernel
theorem dX9_isRange_10 : decode cX9_isRange 10 = .ok (.if_icmp .gt 14, 3) := by decide +kernel
theorem dX9_isRange_13 : decode cX9_isRange 13 = .ok (.iload_n 0, 1) := by decide +kernel
theorem dX9_isRange_14 : decode cX9_isRange 14 = .ok (.iload_n 2, 1) := by decide +kernel
theorem dX9_isRange_15 : decode cX9_isRange 15 = .ok (.iload_n 1, 1) := by decide +kernel
theorem dX9_isRange_16 : decode cX9_isRange 16 = .ok (.isub, 1) := by decide +kernel
theorem dX9_isRange_17 : decode cX9_isRange 17 = .ok (.if_icmp .gt 7, 3) := by decide +kernel
theorem dX9_isRange_20 : decode cX9_isRange 20 = .ok (.iconst 1, 1) := by decide +kernel
theorem dX9_isRange_21 : decode cX9_isRange 21 = .ok (.goto 4, 3) := by decide +kernel
theorem dX9_isRange_24 : decode cX9_isRange 24 = .ok (.iconst 0, 1) := by decide +kernel
theorem dX9_isRange_25 : decode cX9_isRange 25 = .ok (.ireturn, 1) := by decide +kernel
theorem dX9_strike_0 : decode cX9_strike 0 = .ok (.iload_n 1, 1) := by decide +kernel
theorem dX9_strike_1 : decode cX9_strike 1 = .ok (.invokestatic 147, 3) := by decide +kernel
theorem dX9_strike_4 : decode cX9_strike 4 = .ok (.ifCond .ne 9, 3) := by decide +kernel
theorem dX9_strike_7 : decode cX9_strike 7 = .ok (.aload_n 0, 1) := by decide +kernel
theorem dX9_strike_8 : decode cX9_strike 8 = .ok (.iconst 1, 1) := by decide +kernel
theorem dX9_strike_9 : decode cX9_strike 9 = .ok (.invokevirtual 150, 3) := by decide +kernel
theorem dX9_strike_12 : decode cX9_strike 12 = .ok (.ireturn, 1) := by decide +kernel
theorem dX9_strike_13 : decode cX9_strike 13 = .ok (.iload_n 3, 1) := by decide +kernel
theorem dX9_strike_14 : decode cX9_strike 14 = .ok (.ifCond .ge 9, 3) := by decide +kernel
theorem dX9_strike_17 : decode cX9_strike 17 = .ok (.aload_n 0, 1) := by decide +kernel
theorem dX9_strike_18 : decode cX9_strike 18 = .ok (.iconst 5, 1) := by decide +kernel
theorem dX9_strike_19 : decode cX9_strike 19 = .ok (.invokevirtual 150, 3) := by decide +kernel
theorem dX9_strike_22 : decode cX9_strike 22 = .ok (.ireturn, 1) := by decide +kernel
theorem dX9_strike_23 : decode cX9_strike 23 = .ok (.aload_n 0, 1) := by decide +kernel
theorem dX9_strike_24 : decode cX9_strike 24 = .ok (.iload_n 1, 1) := by decide +kernel
theorem dX9_strike_25 : decode cX9_strike 25 = .ok (.invokevirtual 153, 3) := by decide +kernel
theorem dX9_strike_28 : decode cX9_strike 28 = .ok (.istore 4, 2) := by decide +kernel
theorem dX9_strike_30 : decode cX9_strike 30 = .ok (.iload_n 3, 1) := by decide +kernel
theorem dX9_strike_31 : decode cX9_strike 31 = .ok (.iconst 1, 1) := by decide +kernel
theorem dX9_strike_32 : decode cX9_strike 32 = .ok (.if_icmp .lt 19, 3) := by decide +kernel
theorem dX9_strike_35 : decode cX9_strike 35 = .ok (.iload_n 3, 1) := by decide +kernel
theorem dX9_strike_36 : decode cX9_strike 36 = .ok (.bipush 12, 2) := by decide +kernel
theorem dX9_strike_38 : decode cX9_strike 38 = .ok (.if_icmp .gt 13, 3) := by decide +kernel
theorem dX9_strike_41 : decode cX9_strike 41 = .ok (.iload_n 2, 1) := by decide +kernel
theorem dX9_strike_42 : decode cX9_strike 42 = .ok (.iload_n 3, 1) := by decide +kernel
theorem dX9_strike_43 : decode cX9_strike 43 = .ok (.iload 4, 2) := by decide +kernel
theorem dX9_strike_45 : decode cX9_strike 45 = .ok (.invokestatic 166, 3) := by decide +kernel
theorem dX9_strike_48 : decode cX9_strike 48 = .ok (.ifCond .ne 9, 3) := by decide +kernel
theorem dX9_strike_51 : decode cX9_strike 51 = .ok (.aload_n 0, 1) := by decide +kernel
theorem dX9_strike_52 : decode cX9_strike 52 = .ok (.iconst 1, 1) := by decide +kernel
theorem dX9_strike_53 : decode cX9_strike 53 = .ok (.invokevirtual 150, 3) := by decide +kernel
theorem dX9_strike_56 : decode cX9_strike 56 = .ok (.ireturn, 1) := by decide +kernel
theorem dX9_strike_57 : decode cX9_strike 57 = .ok (.aload_n 0, 1) := by decide +kernel
theorem dX9_strike_58 : decode cX9_strike 58 = .ok (.getfield 84, 3) := by decide +kernel
theorem dX9_strike_61 : decode cX9_strike 61 = .ok (.sipush 256, 3) := by decide +kernel
theorem dX9_strike_64 : decode cX9_strike 64 = .ok (.if_icmp .ne 9, 3) := by decide +kernel
theorem dX9_strike_67 : decode cX9_strike 67 = .ok (.aload_n 0, 1) := by decide +kernel
theorem dX9_strike_68 : decode cX9_strike 68 = .ok (.iconst 2, 1) := by decide +kernel
theorem dX9_strike_69 : decode cX9_strike 69 = .ok (.invokevirtual 150, 3) := by decide +kernel
theorem dX9_strike_72 : decode cX9_strike 72 = .ok (.ireturn, 1) := by decide +kernel
theorem dX9_strike_73 : decode cX9_strike 73 = .ok (.aload_n 0, 1) := by decide +kernel
theorem dX9_strike_74 : decode cX9_strike 74 = .ok (.iload_n 1, 1) := by decide +kernel
theorem dX9_strike_75 : decode cX9_strike 75 = .ok (.iconst 1, 1) := by decide +kernel
theorem dX9_strike_76 : decode cX9_strike 76 = .ok (.iload_n 3, 1) := by decide +kernel
theorem dX9_strike_77 : decode cX9_strike 77 = .ok (.invokevirtual 159, 3) := by decide +kernel
theorem dX9_strike_80 : decode cX9_strike 80 = .ok (.istore 5, 2) := by decide +kernel
theorem dX9_strike_82 : decode cX9_strike 82 = .ok (.iconst 0, 1) := by decide +kernel
theorem dX9_strike_83 : decode cX9_strike 83 = .ok (.istore 6, 2) := by decide +kernel
theorem dX9_strike_85 : decode cX9_strike 85 = .ok (.iload 6, 2) := by decide +kernel
theorem dX9_strike_87 : decode cX9_strike 87 = .ok (.iload_n 3, 1) := by decide +kernel
theorem dX9_strike_88 : decode cX9_strike 88 = .ok (.if_icmp .ge 35, 3) := by decide +kernel
theorem dX9_strike_91 : decode cX9_strike 91 = .ok (.aload_n 0, 1) := by decide +kernel
theorem dX9_strike_92 : decode cX9_strike 92 = .ok (.getfield 22, 3) := by decide +kernel
theorem dX9_strike_95 : decode cX9_strike 95 = .ok (.bipush 12, 2) := by decide +kernel
theorem dX9_strike_97 : decode cX9_strike 97 = .ok (.iload 5, 2) := by decide +kernel
theorem dX9_strike_99 : decode cX9_strike 99 = .ok (.imul, 1) := by decide +kernel
theorem dX9_strike_100 : decode cX9_strike 100 = .ok (.iload 6, 2) := by decide +kernel
theorem dX9_strike_102 : decode cX9_strike 102 = .ok (.iadd, 1) := by decide +kernel
theorem dX9_strike_103 : decode cX9_strike 103 = .ok (.aload_n 0, 1) := by decide +kernel
theorem dX9_strike_104 : decode cX9_strike 104 = .ok (.getfield 53, 3) := by decide +kernel
theorem dX9_strike_107 : decode cX9_strike 107 = .ok (.aload_n 0, 1) := by decide +kernel
theorem dX9_strike_108 : decode cX9_strike 108 = .ok (.iload_n 2, 1) := by decide +kernel
theorem dX9_strike_109 : decode cX9_strike 109 = .ok (.iload 6, 2) := by decide +kernel
theorem dX9_strike_111 : decode cX9_strike 111 = .ok (.iadd, 1) := by decide +kernel
theorem dX9_strike_112 : decode cX9_strike 112 = .ok (.invokevirtual 156, 3) := by decide +kernel
theorem dX9_strike_115 : decode cX9_strike 115 = .ok (.iaload, 1) := by decide +kernel
theorem dX9_strike_116 : decode cX9_strike 116 = .ok (.iastore, 1) := by decide +kernel
theorem dX9_strike_117 : decode cX9_strike 117 = .ok (.iinc 6 1, 3) := by decide +kernel
theorem dX9_strike_120 : decode cX9_strike 120 = .ok (.goto (-35), 3) := by decide +kernel
theorem dX9_strike_123 : decode cX9_strike 123 = .ok (.aload_n 0, 1) := by decide +kernel
theorem dX9_strike_124 : decode cX9_strike 124 = .ok (.iload 5, 2) := by decide +kernel
theorem dX9_strike_126 : decode cX9_strike 126 = .ok (.invokevirtual 163, 3) := by decide +kernel
theorem dX9_strike_129 : decode cX9_strike 129 = .ok (.ireturn, 1) := by decide +kernel
theorem dX9_mark_0 : decode cX9_mark 0 = .ok (.iload_n 1, 1) := by decide +kernel
theorem dX9_mark_1 : decode cX9_mark 1 = .ok (.invokestatic 147, 3) := by decide +kernel
theorem dX9_mark_4 : decode cX9_mark 4 = .ok (.ifCond .ne 9, 3) := by decide +kernel
theorem dX9_mark_7 : decode cX9_mark 7 = .ok (.aload_n 0, 1) := by decide +kernel
theorem dX9_mark_8 : decode cX9_mark 8 = .ok (.iconst 1, 1) := by decide +kernel
theorem dX9_mark_9 : decode cX9_mark 9 = .ok (.invokevirtual 150, 3) := by decide +kernel
theorem dX9_mark_12 : decode cX9_mark 12 = .ok (.ireturn, 1) := by decide +kernel
theorem dX9_mark_13 : decode cX9_mark 13 = .ok (.iload_n 3, 1) := by decide +kernel
theorem dX9_mark_14 : decode cX9_mark 14 = .ok (.ifCond .ge 9, 3) := by decide +kernel
theorem dX9_mark_17 : decode cX9_mark 17 = .ok (.aload_n 0, 1) := by decide +kernel
theorem dX9_mark_18 : decode cX9_mark 18 = .ok (.iconst 5, 1) := by decide +kernel
theorem dX9_mark_19 : decode cX9_mark 19 = .ok (.invokevirtual 150, 3) := by decide +kernel
theorem dX9_mark_22 : decode cX9_mark 22 = .ok (.ireturn, 1) := by decide +kernel
theorem dX9_mark_23 : decode cX9_mark 23 = .ok (.aload_n 0, 1) := by decide +kernel
theorem dX9_mark_24 : decode cX9_mark 24 = .ok (.iload_n 1, 1) := by decide +kernel
theorem dX9_mark_25 : decode cX9_mark 25 = .ok (.invokevirtual 153, 3) := by decide +kernel
theorem dX9_mark_28 : decode cX9_mark 28 = .ok (.istore 6, 2) := by decide +kernel
theorem dX9_mark_30 : decode cX9_mark 30 = .ok (.iload_n 3, 1) := by decide +kernel
theorem dX9_mark_31 : decode cX9_mark 31 = .ok (.ifCond .eq 35, 3) := by decide +kernel
theorem dX9_mark_34 : decode cX9_mark 34 = .ok (.iload_n 2, 1) := by decide +kernel
theorem dX9_mark_35 : decode cX9_mark 35 = .ok (.iload_n 3, 1) := by decide +kernel
theorem dX9_mark_36 : decode cX9_mark 36 = .ok (.iload 6, 2) := by decide +kernel
theorem dX9_mark_38 : decode cX9_mark 38 = .ok (.invokestatic 166, 3) := by decide +kernel
theorem dX9_mark_41 : decode cX9_mark 41 = .ok (.ifCond .eq 25, 3) := by decide +kernel
theorem dX9_mark_44 : decode cX9_mark 44 = .ok (.iload 4, 2) := by decide +kernel
theorem dX9_mark_46 : decode cX9_mark 46 = .ok (.ifCond .lt 20, 3) := by decide +kernel
theorem dX9_mark_49 : decode cX9_mark 49 = .ok (.iload 4, 2) := by decide +kernel
theorem dX9_mark_51 : decode cX9_mark 51 = .ok (.iconst 3, 1) := by decide +kernel
theorem dX9_mark_52 : decode cX9_mark 52 = .ok (.if_icmp .gt 14, 3) := by decide +kernel
theorem dX9_mark_55 : decode cX9_mark 55 = .ok (.iload 5, 2) := by decide +kernel
theorem dX9_mark_57 : decode cX9_mark 57 = .ok (.ifCond .lt 9, 3) := by decide +kernel
theorem dX9_mark_60 : decode cX9_mark 60 = .ok (.iload 5, 2) := by decide +kernel
theorem dX9_mark_62 : decode cX9_mark 62 = .ok (.iconst 3, 1) := by decide +kernel
theorem dX9_mark_63 : decode cX9_mark 63 = .ok (.if_icmp .le 9, 3) := by decide +kernel
theorem dX9_mark_66 : decode cX9_mark 66 = .ok (.aload_n 0, 1) := by decide +kernel
theorem dX9_mark_67 : decode cX9_mark 67 = .ok (.iconst 1, 1) := by decide +kernel
theorem dX9_mark_68 : decode cX9_mark 68 = .ok (.invokevirtual 150, 3) := by decide +kernel
theorem dX9_mark_71 : decode cX9_mark 71 = .ok (.ireturn, 1) := by decide +kernel
theorem dX9_mark_72 : decode cX9_mark 72 = .ok (.aload_n 0, 1) := by decide +kernel
theorem dX9_mark_73 : decode cX9_mark 73 = .ok (.getfield 84, 3) := by decide +kernel
theorem dX9_mark_76 : decode cX9_mark 76 = .ok (.sipush 256, 3) := by decide +kernel
theorem dX9_mark_79 : decode cX9_mark 79 = .ok (.if_icmp .ne 9, 3) := by decide +kernel
theorem dX9_mark_82 : decode cX9_mark 82 = .ok (.aload_n 0, 1) := by decide +kernel
theorem dX9_mark_83 : decode cX9_mark 83 = .ok (.iconst 2, 1) := by decide +kernel
theorem dX9_mark_84 : decode cX9_mark 84 = .ok (.invokevirtual 150, 3) := by decide +kernel
theorem dX9_mark_87 : decode cX9_mark 87 = .ok (.ireturn, 1) := by decide +kernel
theorem dX9_mark_88 : decode cX9_mark 88 = .ok (.aload_n 0, 1) := by decide +kernel
theorem dX9_mark_89 : decode cX9_mark 89 = .ok (.iload_n 2, 1) := by decide +kernel
theorem dX9_mark_90 : decode cX9_mark 90 = .ok (.invokevirtual 156, 3) := by decide +kernel
theorem dX9_mark_93 : decode cX9_mark 93 = .ok (.istore 7, 2) := by decide +kernel
theorem dX9_mark_95 : decode cX9_mark 95 = .ok (.aload_n 0, 1) := by decide +kernel
theorem dX9_mark_96 : decode cX9_mark 96 = .ok (.iload_n 2, 1) := by decide +kernel
theorem dX9_mark_97 : decode cX9_mark 97 = .ok (.iload_n 3, 1) := by decide +kernel
theorem dX9_mark_98 : decode cX9_mark 98 = .ok (.iadd, 1) := by decide +kernel
theorem dX9_mark_99 : decode cX9_mark 99 = .ok (.iconst 1, 1) := by decide +kernel
theorem dX9_mark_100 : decode cX9_mark 100 = .ok (.isub, 1) := by decide +kernel
theorem dX9_mark_101 : decode cX9_mark 101 = .ok (.invokevirtual 156, 3) := by decide +kernel
theorem dX9_mark_104 : decode cX9_mark 104 = .ok (.istore 8, 2) := by decide +kernel
theorem dX9_mark_106 : decode cX9_mark 106 = .ok (.aload_n 0, 1) := by decide +kernel
theorem dX9_mark_107 : decode cX9_mark 107 = .ok (.iload_n 1, 1) := by decide +kernel
theorem dX9_mark_108 : decode cX9_mark 108 = .ok (.iconst 2, 1) := by decide +kernel
theorem dX9_mark_109 : decode cX9_mark 109 = .ok (.iconst 2, 1) := by decide +kernel
theorem dX9_mark_110 : decode cX9_mark 110 = .ok (.invokevirtual 159, 3) := by decide +kernel
theorem dX9_mark_113 : decode cX9_mark 113 = .ok (.istore 9, 2) := by decide +kernel
theorem dX9_mark_115 : decode cX9_mark 115 = .ok (.aload_n 0, 1) := by decide +kernel
theorem dX9_mark_116 : decode cX9_mark 116 = .ok (.getfield 22, 3) := by decide +kernel
theorem dX9_mark_119 : decode cX9_mark 119 = .ok (.bipush 12, 2) := by decide +kernel
theorem dX9_mark_121 : decode cX9_mark 121 = .ok (.iload 9, 2) := by decide +kernel
theorem dX9_mark_123 : decode cX9_mark 123 = .ok (.imul, 1) := by decide +kernel
theorem dX9_mark_124 : decode cX9_mark 124 = .ok (.aload_n 0, 1) := by decide +kernel
theorem dX9_mark_125 : decode cX9_mark 125 = .ok (.getfield 53, 3) := by decide +kernel
theorem dX9_mark_128 : decode cX9_mark 128 = .ok (.iload 7, 2) := by decide +kernel
theorem dX9_mark_130 : decode cX9_mark 130 = .ok (.iaload, 1) := by decide +kernel
theorem dX9_mark_131 : decode cX9_mark 131 = .ok (.iastore, 1) := by decide +kernel
theorem dX9_mark_132 : decode cX9_mark 132 = .ok (.aload_n 0, 1) := by decide +kernel
theorem dX9_mark_133 : decode cX9_mark 133 = .ok (.getfield 22, 3) := by decide +kernel
theorem dX9_mark_136 : decode cX9_mark 136 = .ok (.bipush 12, 2) := by decide +kernel
theorem dX9_mark_138 : decode cX9_mark 138 = .ok (.iload 9, 2) := by decide +kernel
theorem dX9_mark_140 : decode cX9_mark 140 = .ok (.imul, 1) := by decide +kernel
theorem dX9_mark_141 : decode cX9_mark 141 = .ok (.iconst 1, 1) := by decide +kernel
theorem dX9_mark_142 : decode cX9_mark 142 = .ok (.iadd, 1) := by decide +kernel
theorem dX9_mark_143 : decode cX9_mark 143 = .ok (.aload_n 0, 1) := by decide +kernel
theorem dX9_mark_144 : decode cX9_mark 144 = .ok (.getfield 53, 3) := by decide +kernel
theorem dX9_mark_147 : decode cX9_mark 147 = .ok (.iload 8, 2) := by decide +kernel
theorem dX9_mark_149 : decode cX9_mark 149 = .ok (.iaload, 1) := by decide +kernel
theorem dX9_mark_150 : decode cX9_mark 150 = .ok (.iastore, 1) := by decide +kernel
theorem dX9_mark_151 : decode cX9_mark 151 = .ok (.aload_n 0, 1) := by decide +kernel
theorem dX9_mark_152 : decode cX9_mark 152 = .ok (.getfield 31, 3) := by decide +kernel
theorem dX9_mark_155 : decode cX9_mark 155 = .ok (.iload 9, 2) := by decide +kernel
theorem dX9_mark_157 : decode cX9_mark 157 = .ok (.iload 4, 2) := by decide +kernel
theorem dX9_mark_159 : decode cX9_mark 159 = .ok (.iastore, 1) := by decide +kernel
theorem dX9_mark_160 : decode cX9_mark 160 = .ok (.aload_n 0, 1) := by decide +kernel
theorem dX9_mark_161 : decode cX9_mark 161 = .ok (.getfield 34, 3) := by decide +kernel
theorem dX9_mark_164 : decode cX9_mark 164 = .ok (.iload 9, 2) := by decide +kernel
theorem dX9_mark_166 : decode cX9_mark 166 = .ok (.iload 5, 2) := by decide +kernel
theorem dX9_mark_168 : decode cX9_mark 168 = .ok (.iconst 1, 1) := by decide +kernel
theorem dX9_mark_169 : decode cX9_mark 169 = .ok (.if_icmp .eq 9, 3) := by decide +kernel
theorem dX9_mark_172 : decode cX9_mark 172 = .ok (.iload 5, 2) := by decide +kernel
theorem dX9_mark_174 : decode cX9_mark 174 = .ok (.iconst 3, 1) := by decide +kernel
theorem dX9_mark_175 : decode cX9_mark 175 = .ok (.if_icmp .ne 7, 3) := by decide +kernel
theorem dX9_mark_178 : decode cX9_mark 178 = .ok (.iconst 1, 1) := by decide +kernel
theorem dX9_mark_179 : decode cX9_mark 179 = .ok (.goto 4, 3) := by decide +kernel
theorem dX9_mark_182 : decode cX9_mark 182 = .ok (.iconst 0, 1) := by decide +kernel
theorem dX9_mark_183 : decode cX9_mark 183 = .ok (.bastore, 1) := by decide +kernel
theorem dX9_mark_184 : decode cX9_mark 184 = .ok (.aload_n 0, 1) := by decide +kernel
theorem dX9_mark_185 : decode cX9_mark 185 = .ok (.getfield 28, 3) := by decide +kernel
theorem dX9_mark_188 : decode cX9_mark 188 = .ok (.iload 9, 2) := by decide +kernel
theorem dX9_mark_190 : decode cX9_mark 190 = .ok (.iload 5, 2) := by decide +kernel
theorem dX9_mark_192 : decode cX9_mark 192 = .ok (.iconst 2, 1) := by decide +kernel
theorem dX9_mark_193 : decode cX9_mark 193 = .ok (.if_icmp .ge 8, 3) := by decide +kernel
theorem dX9_mark_196 : decode cX9_mark 196 = .ok (.bipush (-3), 2) := by decide +kernel
theorem dX9_mark_198 : decode cX9_mark 198 = .ok (.goto 28, 3) := by decide +kernel
theorem dX9_mark_201 : decode cX9_mark 201 = .ok (.iload 8, 2) := by decide +kernel
theorem dX9_mark_203 : decode cX9_mark 203 = .ok (.iconst 1, 1) := by decide +kernel
theorem dX9_mark_204 : decode cX9_mark 204 = .ok (.iadd, 1) := by decide +kernel
theorem dX9_mark_205 : decode cX9_mark 205 = .ok (.aload_n 0, 1) := by decide +kernel
theorem dX9_mark_206 : decode cX9_mark 206 = .ok (.getfield 112, 3) := by decide +kernel
theorem dX9_mark_209 : decode cX9_mark 209 = .ok (.if_icmp .ge 15, 3) := by decide +kernel
theorem dX9_mark_212 : decode cX9_mark 212 = .ok (.aload_n 0, 1) := by decide +kernel
theorem dX9_mark_213 : decode cX9_mark 213 = .ok (.getfield 53, 3) := by decide +kernel
theorem dX9_mark_216 : decode cX9_mark 216 = .ok (.iload 8, 2) := by decide +kernel
theorem dX9_mark_218 : decode cX9_mark 218 = .ok (.iconst 1, 1) := by decide +kernel
theorem dX9_mark_219 : decode cX9_mark 219 = .ok (.iadd, 1) := by decide +kernel
theorem dX9_mark_220 : decode cX9_mark 220 = .ok (.iaload, 1) := by decide +kernel
theorem dX9_mark_221 : decode cX9_mark 221 = .ok (.goto 5, 3) := by decide +kernel
theorem dX9_mark_224 : decode cX9_mark 224 = .ok (.bipush (-2), 2) := by decide +kernel
theorem dX9_mark_226 : decode cX9_mark 226 = .ok (.iastore, 1) := by decide +kernel
theorem dX9_mark_227 : decode cX9_mark 227 = .ok (.aload_n 0, 1) := by decide +kernel
theorem dX9_mark_228 : decode cX9_mark 228 = .ok (.iload 9, 2) := by decide +kernel
theorem dX9_mark_230 : decode cX9_mark 230 = .ok (.invokevirtual 163, 3) := by decide +kernel
theorem dX9_mark_233 : decode cX9_mark 233 = .ok (.ireturn, 1) := by decide +kernel
theorem dX9_undo_0 : decode cX9_undo 0 = .ok (.iload_n 1, 1) := by decide +kernel
theorem dX9_undo_1 : decode cX9_undo 1 = .ok (.invokestatic 147, 3) := by decide +kernel
theorem dX9_undo_4 : decode cX9_undo 4 = .ok (.ifCond .eq 11, 3) := by decide +kernel
theorem dX9_undo_7 : decode cX9_undo 7 = .ok (.aload_n 0, 1) := by decide +kernel
theorem dX9_undo_8 : decode cX9_undo 8 = .ok (.iload_n 2, 1) := by decide +kernel
theorem dX9_undo_9 : decode cX9_undo 9 = .ok (.invokevirtual 170, 3) := by decide +kernel
theorem dX9_undo_12 : decode cX9_undo 12 = .ok (.ifCond .ne 9, 3) := by decide +kernel
theorem dX9_undo_15 : decode cX9_undo 15 = .ok (.aload_n 0, 1) := by decide +kernel
theorem dX9_undo_16 : decode cX9_undo 16 = .ok (.iconst 1, 1) := by decide +kernel
theorem dX9_undo_17 : decode cX9_undo 17 = .ok (.invokevirtual 150, 3) := by decide +kernel
theorem dX9_undo_20 : decode cX9_undo 20 = .ok (.ireturn, 1) := by decide +kernel
theorem dX9_undo_21 : decode cX9_undo 21 = .ok (.aload_n 0, 1) := by decide +kernel
theorem dX9_undo_22 : decode cX9_undo 22 = .ok (.getfield 7, 3) := by decide +kernel
theorem dX9_undo_25 : decode cX9_undo 25 = .ok (.iload_n 2, 1) := by decide +kernel
theorem dX9_undo_26 : decode cX9_undo 26 = .ok (.iaload, 1) := by decide +kernel
theorem dX9_undo_27 : decode cX9_undo 27 = .ok (.iload_n 1, 1) := by decide +kernel
theorem dX9_undo_28 : decode cX9_undo 28 = .ok (.if_icmp .eq 9, 3) := by decide +kernel
theorem dX9_undo_31 : decode cX9_undo 31 = .ok (.aload_n 0, 1) := by decide +kernel
theorem dX9_undo_32 : decode cX9_undo 32 = .ok (.iconst 3, 1) := by decide +kernel
theorem dX9_undo_33 : decode cX9_undo 33 = .ok (.invokevirtual 150, 3) := by decide +kernel
theorem dX9_undo_36 : decode cX9_undo 36 = .ok (.ireturn, 1) := by decide +kernel
theorem dX9_undo_37 : decode cX9_undo 37 = .ok (.aload_n 0, 1) := by decide +kernel
theorem dX9_undo_38 : decode cX9_undo 38 = .ok (.iload_n 1, 1) := by decide +kernel
theorem dX9_undo_39 : decode cX9_undo 39 = .ok (.invokevirtual 131, 3) := by decide +kernel
theorem dX9_undo_42 : decode cX9_undo 42 = .ok (.pop, 1) := by decide +kernel
theorem dX9_undo_43 : decode cX9_undo 43 = .ok (.aload_n 0, 1) := by decide +kernel
theorem dX9_undo_44 : decode cX9_undo 44 = .ok (.invokevirtual 122, 3) := by decide +kernel
theorem dX9_undo_47 : decode cX9_undo 47 = .ok (.aload_n 0, 1) := by decide +kernel
theorem dX9_undo_48 : decode cX9_undo 48 = .ok (.getfield 50, 3) := by decide +kernel
theorem dX9_undo_51 : decode cX9_undo 51 = .ok (.iload_n 2, 1) := by decide +kernel
theorem dX9_undo_52 : decode cX9_undo 52 = .ok (.baload, 1) := by decide +kernel
theorem dX9_undo_53 : decode cX9_undo 53 = .ok (.ifCond .ne 9, 3) := by decide +kernel
theorem dX9_undo_56 : decode cX9_undo 56 = .ok (.aload_n 0, 1) := by decide +kernel
theorem dX9_undo_57 : decode cX9_undo 57 = .ok (.iconst 4, 1) := by decide +kernel
theorem dX9_undo_58 : decode cX9_undo 58 = .ok (.invokevirtual 150, 3) := by decide +kernel
theorem dX9_undo_61 : decode cX9_undo 61 = .ok (.ireturn, 1) := by decide +kernel
theorem dX9_undo_62 : decode cX9_undo 62 = .ok (.aload_n 0, 1) := by decide +kernel
theorem dX9_undo_63 : decode cX9_undo 63 = .ok (.getfield 84, 3) := by decide +kernel
theorem dX9_undo_66 : decode cX9_undo 66 = .ok (.sipush 256, 3) := by decide +kernel
theorem dX9_undo_69 : decode cX9_undo 69 = .ok (.if_icmp .ne 9, 3) := by decide +kernel
theorem dX9_undo_72 : decode cX9_undo 72 = .ok (.aload_n 0, 1) := by decide +kernel
theorem dX9_undo_73 : decode cX9_undo 73 = .ok (.iconst 2, 1) := by decide +kernel
theorem dX9_undo_74 : decode cX9_undo 74 = .ok (.invokevirtual 150, 3) := by decide +kernel
theorem dX9_undo_77 : decode cX9_undo 77 = .ok (.ireturn, 1) := by decide +kernel
theorem dX9_undo_78 : decode cX9_undo 78 = .ok (.aload_n 0, 1) := by decide +kernel
theorem dX9_undo_79 : decode cX9_undo 79 = .ok (.iload_n 1, 1) := by decide +kernel
theorem dX9_undo_80 : decode cX9_undo 80 = .ok (.iconst 3, 1) := by decide +kernel
theorem dX9_undo_81 : decode cX9_undo 81 = .ok (.iconst 0, 1) := by decide +kernel
theorem dX9_undo_82 : decode cX9_undo 82 = .ok (.invokevirtual 159, 3) := by decide +kernel
theorem dX9_undo_85 : decode cX9_undo 85 = .ok (.istore_n 3, 1) := by decide +kernel
theorem dX9_undo_86 : decode cX9_undo 86 = .ok (.aload_n 0, 1) := by decide +kernel
theorem dX9_undo_87 : decode cX9_undo 87 = .ok (.getfield 28, 3) := by decide +kernel
theorem dX9_undo_90 : decode cX9_undo 90 = .ok (.iload_n 3, 1) := by decide +kernel
theorem dX9_undo_91 : decode cX9_undo 91 = .ok (.iload_n 2, 1) := by decide +kernel
theorem dX9_undo_92 : decode cX9_undo 92 = .ok (.iastore, 1) := by decide +kernel
theorem dX9_undo_93 : decode cX9_undo 93 = .ok (.aload_n 0, 1) := by decide +kernel
theorem dX9_undo_94 : decode cX9_undo 94 = .ok (.iload_n 3, 1) := by decide +kernel
theorem dX9_undo_95 : decode cX9_undo 95 = .ok (.invokevirtual 163, 3) := by decide +kernel
theorem dX9_undo_98 : decode cX9_undo 98 = .ok (.ireturn, 1) := by decide +kernel
theorem dX9_carry_0 : decode cX9_carry 0 = .ok (.iload_n 2, 1) := by decide +kernel
theorem dX9_carry_1 : decode cX9_carry 1 = .ok (.invokestatic 147, 3) := by decide +kernel
theorem dX9_carry_4 : decode cX9_carry 4 = .ok (.ifCond .eq 11, 3) := by decide +kernel
theorem dX9_carry_7 : decode cX9_carry 7 = .ok (.aload_n 0, 1) := by decide +kernel
theorem dX9_carry_8 : decode cX9_carry 8 = .ok (.iload_n 1, 1) := by decide +kernel
theorem dX9_carry_9 : decode cX9_carry 9 = .ok (.invokevirtual 170, 3) := by decide +kernel
theorem dX9_carry_12 : decode cX9_carry 12 = .ok (.ifCond .ne 9, 3) := by decide +kernel
theorem dX9_carry_15 : decode cX9_carry 15 = .ok (.aload_n 0, 1) := by decide +kernel
theorem dX9_carry_16 : decode cX9_carry 16 = .ok (.iconst 1, 1) := by decide +kernel
theorem dX9_carry_17 : decode cX9_carry 17 = .ok (.invokevirtual 150, 3) := by decide +kernel
theorem dX9_carry_20 : decode cX9_carry 20 = .ok (.ireturn, 1) := by decide +kernel
theorem dX9_carry_21 : decode cX9_carry 21 = .ok (.aload_n 0, 1) := by decide +kernel
theorem dX9_carry_22 : decode cX9_carry 22 = .ok (.iload_n 2, 1) := by decide +kernel
theorem dX9_carry_23 : decode cX9_carry 23 = .ok (.invokevirtual 131, 3) := by decide +kernel
theorem dX9_carry_26 : decode cX9_carry 26 = .ok (.istore_n 3, 1) := by decide +kernel
theorem dX9_carry_27 : decode cX9_carry 27 = .ok (.aload_n 0, 1) := by decide +kernel
theorem dX9_carry_28 : decode cX9_carry 28 = .ok (.getfield 38, 3) := by decide +kernel
theorem dX9_carry_31 : decode cX9_carry 31 = .ok (.sipush 256, 3) := by decide +kernel
theorem dX9_carry_34 : decode cX9_carry 34 = .ok (.iload_n 2, 1) := by decide +kernel
theorem dX9_carry_35 : decode cX9_carry 35 = .ok (.imul, 1) := by decide +kernel
theorem dX9_carry_36 : decode cX9_carry 36 = .ok (.iload_n 1, 1) := by decide +kernel
theorem dX9_carry_37 : decode cX9_carry 37 = .ok (.iadd, 1) := by decide +kernel
theorem dX9_carry_38 : decode cX9_carry 38 = .ok (.iconst 1, 1) := by decide +kernel
theorem dX9_carry_39 : decode cX9_carry 39 = .ok (.bastore, 1) := by decide +kernel
theorem dX9_carry_40 : decode cX9_carry 40 = .ok (.aload_n 0, 1) := by decide +kernel
theorem dX9_carry_41 : decode cX9_carry 41 = .ok (.aload_n 0, 1) := by decide +kernel
theorem dX9_carry_42 : decode cX9_carry 42 = .ok (.iload_n 2, 1) := by decide +kernel
theorem dX9_carry_43 : decode cX9_carry 43 = .ok (.invokevirtual 131, 3) := by decide +kernel
theorem dX9_carry_46 : decode cX9_carry 46 = .ok (.iload_n 3, 1) := by decide +kernel
theorem dX9_carry_47 : decode cX9_carry 47 = .ok (.isub, 1) := by decide +kernel
theorem dX9_carry_48 : decode cX9_carry 48 = .ok (.invokevirtual 163, 3) := by decide +kernel
theorem dX9_carry_51 : decode cX9_carry 51 = .ok (.ireturn, 1) := by decide +kernel
theorem dX9_all_0 : decode cX9_all 0 = .ok (.iload_n 1, 1) := by decide +kernel
theorem dX9_all_1 : decode cX9_all 1 = .ok (.invokestatic 147, 3) := by decide +kernel
theorem dX9_all_4 : decode cX9_all 4 = .ok (.ifCond .eq 10, 3) := by decide +kernel
theorem dX9_all_7 : decode cX9_all 7 = .ok (.iload_n 2, 1) := by decide +kernel
theorem dX9_all_8 : decode cX9_all 8 = .ok (.invokestatic 147, 3) := by decide +kernel
theorem dX9_all_11 : decode cX9_all 11 = .ok (.ifCond .ne 9, 3) := by decide +kernel
theorem dX9_all_14 : decode cX9_all 14 = .ok (.aload_n 0, 1) := by decide +kernel
theorem dX9_all_15 : decode cX9_all 15 = .ok (.iconst 1, 1) := by decide +kernel
theorem dX9_all_16 : decode cX9_all 16 = .ok (.invokevirtual 150, 3) := by decide +kernel
theorem dX9_all_19 : decode cX9_all 19 = .ok (.ireturn, 1) := by decide +kernel
theorem dX9_all_20 : decode cX9_all 20 = .ok (.aload_n 0, 1) := by decide +kernel
theorem dX9_all_21 : decode cX9_all 21 = .ok (.iload_n 1, 1) := by decide +kernel
theorem dX9_all_22 : decode cX9_all 22 = .ok (.invokevirtual 131, 3) := by decide +kernel
theorem dX9_all_25 : decode cX9_all 25 = .ok (.pop, 1) := by decide +kernel
theorem dX9_all_26 : decode cX9_all 26 = .ok (.iconst 0, 1) := by decide +kernel
theorem dX9_all_27 : decode cX9_all 27 = .ok (.istore_n 3, 1) := by decide +kernel
theorem dX9_all_28 : decode cX9_all 28 = .ok (.iload_n 3, 1) := by decide +kernel
theorem dX9_all_29 : decode cX9_all 29 = .ok (.aload_n 0, 1) := by decide +kernel
theorem dX9_all_30 : decode cX9_all 30 = .ok (.getfield 84, 3) := by decide +kernel
theorem dX9_all_33 : decode cX9_all 33 = .ok (.if_icmp .ge 21, 3) := by decide +kernel
theorem dX9_all_36 : decode cX9_all 36 = .ok (.aload_n 0, 1) := by decide +kernel
theorem dX9_all_37 : decode cX9_all 37 = .ok (.getfield 71, 3) := by decide +kernel
theorem dX9_all_40 : decode cX9_all 40 = .ok (.iload_n 3, 1) := by decide +kernel
theorem dX9_all_41 : decode cX9_all 41 = .ok (.aload_n 0, 1) := by decide +kernel
theorem dX9_all_42 : decode cX9_all 42 = .ok (.getfield 47, 3) := by decide +kernel
theorem dX9_all_45 : decode cX9_all 45 = .ok (.iload_n 3, 1) := by decide +kernel
theorem dX9_all_46 : decode cX9_all 46 = .ok (.baload, 1) := by decide +kernel
theorem dX9_all_47 : decode cX9_all 47 = .ok (.bastore, 1) := by decide +kernel
theorem dX9_all_48 : decode cX9_all 48 = .ok (.iinc 3 1, 3) := by decide +kernel
theorem dX9_all_51 : decode cX9_all 51 = .ok (.goto (-23), 3) := by decide +kernel
theorem dX9_all_54 : decode cX9_all 54 = .ok (.aload_n 0, 1) := by decide +kernel
theorem dX9_all_55 : decode cX9_all 55 = .ok (.iload_n 2, 1) := by decide +kernel
theorem dX9_all_56 : decode cX9_all 56 = .ok (.invokevirtual 131, 3) := by decide +kernel
theorem dX9_all_59 : decode cX9_all 59 = .ok (.istore_n 3, 1) := by decide +kernel
theorem dX9_all_60 : decode cX9_all 60 = .ok (.iconst 0, 1) := by decide +kernel
theorem dX9_all_61 : decode cX9_all 61 = .ok (.istore 4, 2) := by decide +kernel
theorem dX9_all_63 : decode cX9_all 63 = .ok (.iload 4, 2) := by decide +kernel
theorem dX9_all_65 : decode cX9_all 65 = .ok (.aload_n 0, 1) := by decide +kernel
theorem dX9_all_66 : decode cX9_all 66 = .ok (.getfield 84, 3) := by decide +kernel
theorem dX9_all_69 : decode cX9_all 69 = .ok (.if_icmp .ge 53, 3) := by decide +kernel
theorem dX9_all_72 : decode cX9_all 72 = .ok (.aload_n 0, 1) := by decide +kernel
theorem dX9_all_73 : decode cX9_all 73 = .ok (.getfield 38, 3) := by decide +kernel
theorem dX9_all_76 : decode cX9_all 76 = .ok (.sipush 256, 3) := by decide +kernel
theorem dX9_all_79 : decode cX9_all 79 = .ok (.iload_n 2, 1) := by decide +kernel
theorem dX9_all_80 : decode cX9_all 80 = .ok (.imul, 1) := by decide +kernel
theorem dX9_all_81 : decode cX9_all 81 = .ok (.iload 4, 2) := by decide +kernel
theorem dX9_all_83 : decode cX9_all 83 = .ok (.iadd, 1) := by decide +kernel
theorem dX9_all_84 : decode cX9_all 84 = .ok (.aload_n 0, 1) := by decide +kernel
theorem dX9_all_85 : decode cX9_all 85 = .ok (.getfield 38, 3) := by decide +kernel
theorem dX9_all_88 : decode cX9_all 88 = .ok (.sipush 256, 3) := by decide +kernel
theorem dX9_all_91 : decode cX9_all 91 = .ok (.iload_n 2, 1) := by decide +kernel
theorem dX9_all_92 : decode cX9_all 92 = .ok (.imul, 1) := by decide +kernel
theorem dX9_all_93 : decode cX9_all 93 = .ok (.iload 4, 2) := by decide +kernel
theorem dX9_all_95 : decode cX9_all 95 = .ok (.iadd, 1) := by decide +kernel
theorem dX9_all_96 : decode cX9_all 96 = .ok (.baload, 1) := by decide +kernel
theorem dX9_all_97 : decode cX9_all 97 = .ok (.ifCond .ne 13, 3) := by decide +kernel
theorem dX9_all_100 : decode cX9_all 100 = .ok (.aload_n 0, 1) := by decide +kernel
theorem dX9_all_101 : decode cX9_all 101 = .ok (.getfield 71, 3) := by decide +kernel
theorem dX9_all_104 : decode cX9_all 104 = .ok (.iload 4, 2) := by decide +kernel
theorem dX9_all_106 : decode cX9_all 106 = .ok (.baload, 1) := by decide +kernel
theorem dX9_all_107 : decode cX9_all 107 = .ok (.ifCond .eq 7, 3) := by decide +kernel
theorem dX9_all_110 : decode cX9_all 110 = .ok (.iconst 1, 1) := by decide +kernel
theorem dX9_all_111 : decode cX9_all 111 = .ok (.goto 4, 3) := by decide +kernel
theorem dX9_all_114 : decode cX9_all 114 = .ok (.iconst 0, 1) := by decide +kernel
theorem dX9_all_115 : decode cX9_all 115 = .ok (.bastore, 1) := by decide +kernel
theorem dX9_all_116 : decode cX9_all 116 = .ok (.iinc 4 1, 3) := by decide +kernel
theorem dX9_all_119 : decode cX9_all 119 = .ok (.goto (-56), 3) := by decide +kernel
theorem dX9_all_122 : decode cX9_all 122 = .ok (.aload_n 0, 1) := by decide +kernel
theorem dX9_all_123 : decode cX9_all 123 = .ok (.aload_n 0, 1) := by decide +kernel
theorem dX9_all_124 : decode cX9_all 124 = .ok (.iload_n 2, 1) := by decide +kernel
theorem dX9_all_125 : decode cX9_all 125 = .ok (.invokevirtual 131, 3) := by decide +kernel
theorem dX9_all_128 : decode cX9_all 128 = .ok (.iload_n 3, 1) := by decide +kernel
theorem dX9_all_129 : decode cX9_all 129 = .ok (.isub, 1) := by decide +kernel
theorem dX9_all_130 : decode cX9_all 130 = .ok (.invokevirtual 163, 3) := by decide +kernel
theorem dX9_all_133 : decode cX9_all 133 = .ok (.ireturn, 1) := by decide +kernel
theorem dX9_state_0 : decode cX9_state 0 = .ok (.iload_n 1, 1) := by decide +kernel
theorem dX9_state_1 : decode cX9_state 1 = .ok (.invokestatic 147, 3) := by decide +kernel
theorem dX9_state_4 : decode cX9_state 4 = .ok (.ifCond .eq 11, 3) := by decide +kernel
theorem dX9_state_7 : decode cX9_state 7 = .ok (.aload_n 0, 1) := by decide +kernel
theorem dX9_state_8 : decode cX9_state 8 = .ok (.iload_n 2, 1) := by decide +kernel
theorem dX9_state_9 : decode cX9_state 9 = .ok (.invokevirtual 170, 3) := by decide +kernel
theorem dX9_state_12 : decode cX9_state 12 = .ok (.ifCond .ne 5, 3) := by decide +kernel
theorem dX9_state_15 : decode cX9_state 15 = .ok (.iconst (-1), 1) := by decide +kernel
theorem dX9_state_16 : decode cX9_state 16 = .ok (.ireturn, 1) := by decide +kernel
theorem dX9_state_17 : decode cX9_state 17 = .ok (.aload_n 0, 1) := by decide +kernel
theorem dX9_state_18 : decode cX9_state 18 = .ok (.iload_n 1, 1) := by decide +kernel
theorem dX9_state_19 : decode cX9_state 19 = .ok (.invokevirtual 131, 3) := by decide +kernel
theorem dX9_state_22 : decode cX9_state 22 = .ok (.pop, 1) := by decide +kernel
theorem dX9_state_23 : decode cX9_state 23 = .ok (.aload_n 0, 1) := by decide +kernel
theorem dX9_state_24 : decode cX9_state 24 = .ok (.invokevirtual 122, 3) := by decide +kernel
theorem dX9_state_27 : decode cX9_state 27 = .ok (.aload_n 0, 1) := by decide +kernel
theorem dX9_state_28 : decode cX9_state 28 = .ok (.getfield 38, 3) := by decide +kernel
theorem dX9_state_31 : decode cX9_state 31 = .ok (.sipush 256, 3) := by decide +kernel
theorem dX9_state_34 : decode cX9_state 34 = .ok (.iload_n 1, 1) := by decide +kernel
theorem dX9_state_35 : decode cX9_state 35 = .ok (.imul, 1) := by decide +kernel
theorem dX9_state_36 : decode cX9_state 36 = .ok (.iload_n 2, 1) := by decide +kernel
theorem dX9_state_37 : decode cX9_state 37 = .ok (.iadd, 1) := by decide +kernel
theorem dX9_state_38 : decode cX9_state 38 = .ok (.baload, 1) := by decide +kernel
theorem dX9_state_39 : decode cX9_state 39 = .ok (.ifCond .ne 7, 3) := by decide +kernel
theorem dX9_state_42 : decode cX9_state 42 = .ok (.iconst 0, 1) := by decide +kernel
theorem dX9_state_43 : decode cX9_state 43 = .ok (.goto 30, 3) := by decide +kernel
theorem dX9_state_46 : decode cX9_state 46 = .ok (.aload_n 0, 1) := by decide +kernel
theorem dX9_state_47 : decode cX9_state 47 = .ok (.getfield 47, 3) := by decide +kernel
theorem dX9_state_50 : decode cX9_state 50 = .ok (.iload_n 2, 1) := by decide +kernel
theorem dX9_state_51 : decode cX9_state 51 = .ok (.baload, 1) := by decide +kernel
theorem dX9_state_52 : decode cX9_state 52 = .ok (.ifCond .ne 7, 3) := by decide +kernel
theorem dX9_state_55 : decode cX9_state 55 = .ok (.iconst 1, 1) := by decide +kernel
theorem dX9_state_56 : decode cX9_state 56 = .ok (.goto 17, 3) := by decide +kernel
theorem dX9_state_59 : decode cX9_state 59 = .ok (.aload_n 0, 1) := by decide +kernel
theorem dX9_state_60 : decode cX9_state 60 = .ok (.getfield 50, 3) := by decide +kernel
theorem dX9_state_63 : decode cX9_state 63 = .ok (.iload_n 2, 1) := by decide +kernel
theorem dX9_state_64 : decode cX9_state 64 = .ok (.baload, 1) := by decide +kernel
theorem dX9_state_65 : decode cX9_state 65 = .ok (.ifCond .eq 7, 3) := by decide +kernel
theorem dX9_state_68 : decode cX9_state 68 = .ok (.iconst 3, 1) := by decide +kernel
theorem dX9_state_69 : decode cX9_state 69 = .ok (.goto 4, 3) := by decide +kernel
theorem dX9_state_72 : decode cX9_state 72 = .ok (.iconst 2, 1) := by decide +kernel
theorem dX9_state_73 : decode cX9_state 73 = .ok (.ireturn, 1) := by decide +kernel
theorem dX9_lacks_0 : decode cX9_lacks 0 = .ok (.iload_n 1, 1) := by decide +kernel
theorem dX9_lacks_1 : decode cX9_lacks 1 = .ok (.invokestatic 147, 3) := by decide +kernel
theorem dX9_lacks_4 : decode cX9_lacks 4 = .ok (.ifCond .eq 26, 3) := by decide +kernel
theorem dX9_lacks_7 : decode cX9_lacks 7 = .ok (.aload_n 0, 1) := by decide +kernel
theorem dX9_lacks_8 : decode cX9_lacks 8 = .ok (.iload_n 2, 1) := by decide +kernel
theorem dX9_lacks_9 : decode cX9_lacks 9 = .ok (.invokevirtual 170, 3) := by decide +kernel
theorem dX9_lacks_12 : decode cX9_lacks 12 = .ok (.ifCond .eq 18, 3) := by decide +kernel
theorem dX9_lacks_15 : decode cX9_lacks 15 = .ok (.aload_n 0, 1) := by decide +kernel
theorem dX9_lacks_16 : decode cX9_lacks 16 = .ok (.getfield 38, 3) := by decide +kernel
theorem dX9_lacks_19 : decode cX9_lacks 19 = .ok (.sipush 256, 3) := by decide +kernel
theorem dX9_lacks_22 : decode cX9_lacks 22 = .ok (.iload_n 1, 1) := by decide +kernel
theorem dX9_lacks_23 : decode cX9_lacks 23 = .ok (.imul, 1) := by decide +kernel
theorem dX9_lacks_24 : decode cX9_lacks 24 = .ok (.iload_n 2, 1) := by decide +kernel
theorem dX9_lacks_25 : decode cX9_lacks 25 = .ok (.iadd, 1) := by decide +kernel
theorem dX9_lacks_26 : decode cX9_lacks 26 = .ok (.baload, 1) := by decide +kernel
theorem dX9_lacks_27 : decode cX9_lacks 27 = .ok (.ifCond .ne 5, 3) := by decide +kernel
theorem dX9_lacks_30 : decode cX9_lacks 30 = .ok (.iconst (-1), 1) := by decide +kernel
theorem dX9_lacks_31 : decode cX9_lacks 31 = .ok (.ireturn, 1) := by decide +kernel
theorem dX9_lacks_32 : decode cX9_lacks 32 = .ok (.aload_n 0, 1) := by decide +kernel
theorem dX9_lacks_33 : decode cX9_lacks 33 = .ok (.iload_n 1, 1) := by decide +kernel
theorem dX9_lacks_34 : decode cX9_lacks 34 = .ok (.invokevirtual 131, 3) := by decide +kernel
theorem dX9_lacks_37 : decode cX9_lacks 37 = .ok (.pop, 1) := by decide +kernel
theorem dX9_lacks_38 : decode cX9_lacks 38 = .ok (.aload_n 0, 1) := by decide +kernel
theorem dX9_lacks_39 : decode cX9_lacks 39 = .ok (.getfield 47, 3) := by decide +kernel
theorem dX9_lacks_42 : decode cX9_lacks 42 = .ok (.iload_n 2, 1) := by decide +kernel
theorem dX9_lacks_43 : decode cX9_lacks 43 = .ok (.baload, 1) := by decide +kernel
theorem dX9_lacks_44 : decode cX9_lacks 44 = .ok (.ifCond .eq 5, 3) := by decide +kernel
theorem dX9_lacks_47 : decode cX9_lacks 47 = .ok (.iconst (-1), 1) := by decide +kernel
theorem dX9_lacks_48 : decode cX9_lacks 48 = .ok (.ireturn, 1) := by decide +kernel
theorem dX9_lacks_49 : decode cX9_lacks 49 = .ok (.aload_n 0, 1) := by decide +kernel
theorem dX9_lacks_50 : decode cX9_lacks 50 = .ok (.iload_n 2, 1) := by decide +kernel
theorem dX9_lacks_51 : decode cX9_lacks 51 = .ok (.invokevirtual 98, 3) := by decide +kernel
theorem dX9_lacks_54 : decode cX9_lacks 54 = .ok (.iconst (-1), 1) := by decide +kernel
theorem dX9_lacks_55 : decode cX9_lacks 55 = .ok (.istore_n 3, 1) := by decide +kernel
theorem dX9_lacks_56 : decode cX9_lacks 56 = .ok (.iconst 0, 1) := by decide +kernel
theorem dX9_lacks_57 : decode cX9_lacks 57 = .ok (.istore 4, 2) := by decide +kernel
theorem dX9_lacks_59 : decode cX9_lacks 59 = .ok (.iload 4, 2) := by decide +kernel
theorem dX9_lacks_61 : decode cX9_lacks 61 = .ok (.aload_n 0, 1) := by decide +kernel
theorem dX9_lacks_62 : decode cX9_lacks 62 = .ok (.getfield 87, 3) := by decide +kernel
theorem dX9_lacks_65 : decode cX9_lacks 65 = .ok (.if_icmp .ge 63, 3) := by decide +kernel
theorem dX9_lacks_68 : decode cX9_lacks 68 = .ok (.aload_n 0, 1) := by decide +kernel
theorem dX9_lacks_69 : decode cX9_lacks 69 = .ok (.getfield 47, 3) := by decide +kernel
theorem dX9_lacks_72 : decode cX9_lacks 72 = .ok (.aload_n 0, 1) := by decide +kernel
theorem dX9_lacks_73 : decode cX9_lacks 73 = .ok (.getfield 59, 3) := by decide +kernel
theorem dX9_lacks_76 : decode cX9_lacks 76 = .ok (.iload 4, 2) := by decide +kernel
theorem dX9_lacks_78 : decode cX9_lacks 78 = .ok (.iaload, 1) := by decide +kernel
theorem dX9_lacks_79 : decode cX9_lacks 79 = .ok (.baload, 1) := by decide +kernel
theorem dX9_lacks_80 : decode cX9_lacks 80 = .ok (.ifCond .ne 22, 3) := by decide +kernel
theorem dX9_lacks_83 : decode cX9_lacks 83 = .ok (.iload_n 3, 1) := by decide +kernel
theorem dX9_lacks_84 : decode cX9_lacks 84 = .ok (.ifCond .lt 14, 3) := by decide +kernel
theorem dX9_lacks_87 : decode cX9_lacks 87 = .ok (.aload_n 0, 1) := by decide +kernel
theorem dX9_lacks_88 : decode cX9_lacks 88 = .ok (.getfield 59, 3) := by decide +kernel
theorem dX9_lacks_91 : decode cX9_lacks 91 = .ok (.iload 4, 2) := by decide +kernel
theorem dX9_lacks_93 : decode cX9_lacks 93 = .ok (.iaload, 1) := by decide +kernel
theorem dX9_lacks_94 : decode cX9_lacks 94 = .ok (.iload_n 3, 1) := by decide +kernel
theorem dX9_lacks_95 : decode cX9_lacks 95 = .ok (.if_icmp .ge 7, 3) := by decide +kernel
theorem dX9_lacks_98 : decode cX9_lacks 98 = .ok (.iconst 1, 1) := by decide +kernel
theorem dX9_lacks_99 : decode cX9_lacks 99 = .ok (.goto 4, 3) := by decide +kernel
theorem dX9_lacks_102 : decode cX9_lacks 102 = .ok (.iconst 0, 1) := by decide +kernel
theorem dX9_lacks_103 : decode cX9_lacks 103 = .ok (.istore 5, 2) := by decide +kernel
theorem dX9_lacks_105 : decode cX9_lacks 105 = .ok (.iload 5, 2) := by decide +kernel
theorem dX9_lacks_107 : decode cX9_lacks 107 = .ok (.ifCond .eq 13, 3) := by decide +kernel
theorem dX9_lacks_110 : decode cX9_lacks 110 = .ok (.aload_n 0, 1) := by decide +kernel
theorem dX9_lacks_111 : decode cX9_lacks 111 = .ok (.getfield 59, 3) := by decide +kernel
theorem dX9_lacks_114 : decode cX9_lacks 114 = .ok (.iload 4, 2) := by decide +kernel
theorem dX9_lacks_116 : decode cX9_lacks 116 = .ok (.iaload, 1) := by decide +kernel
theorem dX9_lacks_117 : decode cX9_lacks 117 = .ok (.goto 4, 3) := by decide +kernel
theorem dX9_lacks_120 : decode cX9_lacks 120 = .ok (.iload_n 3, 1) := by decide +kernel
theorem dX9_lacks_121 : decode cX9_lacks 121 = .ok (.istore_n 3, 1) := by decide +kernel
theorem dX9_lacks_122 : decode cX9_lacks 122 = .ok (.iinc 4 1, 3) := by decide +kernel
theorem dX9_lacks_125 : decode cX9_lacks 125 = .ok (.goto (-66), 3) := by decide +kernel
theorem dX9_lacks_128 : decode cX9_lacks 128 = .ok (.iload_n 3, 1) := by decide +kernel
theorem dX9_lacks_129 : decode cX9_lacks 129 = .ok (.ireturn, 1) := by decide +kernel
theorem dX9_slips_0 : decode cX9_slips 0 = .ok (.aload_n 0, 1) := by decide +kernel
theorem dX9_slips_1 : decode cX9_slips 1 = .ok (.getfield 84, 3) := by decide +kernel
theorem dX9_slips_4 : decode cX9_slips 4 = .ok (.ireturn, 1) := by decide +kernel
theorem dX9_slip_0 : decode cX9_slip 0 = .ok (.aload_n 0, 1) := by decide +kernel
theorem dX9_slip_1 : decode cX9_slip 1 = .ok (.iload_n 1, 1) := by decide +kernel
theorem dX9_slip_2 : decode cX9_slip 2 = .ok (.invokevirtual 170, 3) := by decide +kernel
theorem dX9_slip_5 : decode cX9_slip 5 = .ok (.ifCond .ne 5, 3) := by decide +kernel
theorem dX9_slip_8 : decode cX9_slip 8 = .ok (.iconst (-1), 1) := by decide +kernel
theorem dX9_slip_9 : decode cX9_slip 9 = .ok (.ireturn, 1) := by decide +kernel
theorem dX9_slip_10 : decode cX9_slip 10 = .ok (.iload_n 2, 1) := by decide +kernel
theorem dX9_slip_11 : decode cX9_slip 11 = .ok (.tableswitch 57 0 3 #[29, 36, 43, 50], 29) := by decide +kernel
theorem dX9_slip_40 : decode cX9_slip 40 = .ok (.aload_n 0, 1) := by decide +kernel
theorem dX9_slip_41 : decode cX9_slip 41 = .ok (.getfield 7, 3) := by decide +kernel
theorem dX9_slip_44 : decode cX9_slip 44 = .ok (.iload_n 1, 1) := by decide +kernel
theorem dX9_slip_45 : decode cX9_slip 45 = .ok (.iaload, 1) := by decide +kernel
theorem dX9_slip_46 : decode cX9_slip 46 = .ok (.ireturn, 1) := by decide +kernel
theorem dX9_slip_47 : decode cX9_slip 47 = .ok (.aload_n 0, 1) := by decide +kernel
theorem dX9_slip_48 : decode cX9_slip 48 = .ok (.getfield 13, 3) := by decide +kernel
theorem dX9_slip_51 : decode cX9_slip 51 = .ok (.iload_n 1, 1) := by decide +kernel
theorem dX9_slip_52 : decode cX9_slip 52 = .ok (.iaload, 1) := by decide +kernel
theorem dX9_slip_53 : decode cX9_slip 53 = .ok (.ireturn, 1) := by decide +kernel
theorem dX9_slip_54 : decode cX9_slip 54 = .ok (.aload_n 0, 1) := by decide +kernel
theorem dX9_slip_55 : decode cX9_slip 55 = .ok (.getfield 16, 3) := by decide +kernel
theorem dX9_slip_58 : decode cX9_slip 58 = .ok (.iload_n 1, 1) := by decide +kernel
theorem dX9_slip_59 : decode cX9_slip 59 = .ok (.iaload, 1) := by decide +kernel
theorem dX9_slip_60 : decode cX9_slip 60 = .ok (.ireturn, 1) := by decide +kernel
theorem dX9_slip_61 : decode cX9_slip 61 = .ok (.aload_n 0, 1) := by decide +kernel
theorem dX9_slip_62 : decode cX9_slip 62 = .ok (.getfield 19, 3) := by decide +kernel
theorem dX9_slip_65 : decode cX9_slip 65 = .ok (.iload_n 1, 1) := by decide +kernel
theorem dX9_slip_66 : decode cX9_slip 66 = .ok (.iaload, 1) := by decide +kernel
theorem dX9_slip_67 : decode cX9_slip 67 = .ok (.ireturn, 1) := by decide +kernel
theorem dX9_slip_68 : decode cX9_slip 68 = .ok (.iconst (-1), 1) := by decide +kernel
theorem dX9_slip_69 : decode cX9_slip 69 = .ok (.ireturn, 1) := by decide +kernel
theorem dX9_part_0 : decode cX9_part 0 = .ok (.aload_n 0, 1) := by decide +kernel
theorem dX9_part_1 : decode cX9_part 1 = .ok (.iload_n 1, 1) := by decide +kernel
theorem dX9_part_2 : decode cX9_part 2 = .ok (.invokevirtual 170, 3) := by decide +kernel
theorem dX9_part_5 : decode cX9_part 5 = .ok (.ifCond .ne 9, 3) := by decide +kernel
theorem dX9_part_8 : decode cX9_part 8 = .ok (.aload_n 0, 1) := by decide +kernel
theorem dX9_part_9 : decode cX9_part 9 = .ok (.iconst 1, 1) := by decide +kernel
theorem dX9_part_10 : decode cX9_part 10 = .ok (.invokevirtual 150, 3) := by decide +kernel
theorem dX9_part_13 : decode cX9_part 13 = .ok (.ireturn, 1) := by decide +kernel
theorem dX9_part_14 : decode cX9_part 14 = .ok (.aload_n 0, 1) := by decide +kernel
theorem dX9_part_15 : decode cX9_part 15 = .ok (.getfield 16, 3) := by decide +kernel
theorem dX9_part_18 : decode cX9_part 18 = .ok (.iload_n 1, 1) := by decide +kernel
theorem dX9_part_19 : decode cX9_part 19 = .ok (.iaload, 1) := by decide +kernel
theorem dX9_part_20 : decode cX9_part 20 = .ok (.iconst 3, 1) := by decide +kernel
theorem dX9_part_21 : decode cX9_part 21 = .ok (.if_icmp .ne 10, 3) := by decide +kernel
theorem dX9_part_24 : decode cX9_part 24 = .ok (.aload_n 0, 1) := by decide +kernel
theorem dX9_part_25 : decode cX9_part 25 = .ok (.bipush 6, 2) := by decide +kernel
theorem dX9_part_27 : decode cX9_part 27 = .ok (.invokevirtual 150, 3) := by decide +kernel
theorem dX9_part_30 : decode cX9_part 30 = .ok (.ireturn, 1) := by decide +kernel
theorem dX9_part_31 : decode cX9_part 31 = .ok (.iload_n 2, 1) := by decide +kernel
theorem dX9_part_32 : decode cX9_part 32 = .ok (.ifCond .lt 13, 3) := by decide +kernel
theorem dX9_part_35 : decode cX9_part 35 = .ok (.iload_n 2, 1) := by decide +kernel
theorem dX9_part_36 : decode cX9_part 36 = .ok (.aload_n 0, 1) := by decide +kernel
theorem dX9_part_37 : decode cX9_part 37 = .ok (.getfield 19, 3) := by decide +kernel
theorem dX9_part_40 : decode cX9_part 40 = .ok (.iload_n 1, 1) := by decide +kernel
theorem dX9_part_41 : decode cX9_part 41 = .ok (.iaload, 1) := by decide +kernel
theorem dX9_part_42 : decode cX9_part 42 = .ok (.if_icmp .lt 11, 3) := by decide +kernel
theorem dX9_part_45 : decode cX9_part 45 = .ok (.aload_n 0, 1) := by decide +kernel
theorem dX9_part_46 : decode cX9_part 46 = .ok (.iconst 1, 1) := by decide +kernel
theorem dX9_part_47 : decode cX9_part 47 = .ok (.invokevirtual 150, 3) := by decide +kernel
theorem dX9_part_50 : decode cX9_part 50 = .ok (.goto 18, 3) := by decide +kernel
theorem dX9_part_53 : decode cX9_part 53 = .ok (.aload_n 0, 1) := by decide +kernel
theorem dX9_part_54 : decode cX9_part 54 = .ok (.aload_n 0, 1) := by decide +kernel
theorem dX9_part_55 : decode cX9_part 55 = .ok (.getfield 22, 3) := by decide +kernel
theorem dX9_part_58 : decode cX9_part 58 = .ok (.bipush 12, 2) := by decide +kernel
theorem dX9_part_60 : decode cX9_part 60 = .ok (.iload_n 1, 1) := by decide +kernel
theorem dX9_part_61 : decode cX9_part 61 = .ok (.imul, 1) := by decide +kernel
theorem dX9_part_62 : decode cX9_part 62 = .ok (.iload_n 2, 1) := by decide +kernel
theorem dX9_part_63 : decode cX9_part 63 = .ok (.iadd, 1) := by decide +kernel
theorem dX9_part_64 : decode cX9_part 64 = .ok (.iaload, 1) := by decide +kernel
theorem dX9_part_65 : decode cX9_part 65 = .ok (.invokevirtual 163, 3) := by decide +kernel
theorem dX9_part_68 : decode cX9_part 68 = .ok (.ireturn, 1) := by decide +kernel
theorem dX9_linked_0 : decode cX9_linked 0 = .ok (.aload_n 0, 1) := by decide +kernel
theorem dX9_linked_1 : decode cX9_linked 1 = .ok (.iload_n 1, 1) := by decide +kernel
theorem dX9_linked_2 : decode cX9_linked 2 = .ok (.invokevirtual 170, 3) := by decide +kernel
theorem dX9_linked_5 : decode cX9_linked 5 = .ok (.ifCond .ne 9, 3) := by decide +kernel
theorem dX9_linked_8 : decode cX9_linked 8 = .ok (.aload_n 0, 1) := by decide +kernel
theorem dX9_linked_9 : decode cX9_linked 9 = .ok (.iconst 1, 1) := by decide +kernel
theorem dX9_linked_10 : decode cX9_linked 10 = .ok (.invokevirtual 150, 3) := by decide +kernel
theorem dX9_linked_13 : decode cX9_linked 13 = .ok (.ireturn, 1) := by decide +kernel
theorem dX9_linked_14 : decode cX9_linked 14 = .ok (.aload_n 0, 1) := by decide +kernel
theorem dX9_linked_15 : decode cX9_linked 15 = .ok (.getfield 16, 3) := by decide +kernel
theorem dX9_linked_18 : decode cX9_linked 18 = .ok (.iload_n 1, 1) := by decide +kernel
theorem dX9_linked_19 : decode cX9_linked 19 = .ok (.iaload, 1) := by decide +kernel
theorem dX9_linked_20 : decode cX9_linked 20 = .ok (.iload_n 2, 1) := by decide +kernel
theorem dX9_linked_21 : decode cX9_linked 21 = .ok (.if_icmp .eq 12, 3) := by decide +kernel
theorem dX9_linked_24 : decode cX9_linked 24 = .ok (.aload_n 0, 1) := by decide +kernel
theorem dX9_linked_25 : decode cX9_linked 25 = .ok (.bipush 6, 2) := by decide +kernel
theorem dX9_linked_27 : decode cX9_linked 27 = .ok (.invokevirtual 150, 3) := by decide +kernel
theorem dX9_linked_30 : decode cX9_linked 30 = .ok (.goto 13, 3) := by decide +kernel
theorem dX9_linked_33 : decode cX9_linked 33 = .ok (.aload_n 0, 1) := by decide +kernel
theorem dX9_linked_34 : decode cX9_linked 34 = .ok (.aload_n 0, 1) := by decide +kernel
theorem dX9_linked_35 : decode cX9_linked 35 = .ok (.getfield 28, 3) := by decide +kernel
theorem dX9_linked_38 : decode cX9_linked 38 = .ok (.iload_n 1, 1) := by decide +kernel
theorem dX9_linked_39 : decode cX9_linked 39 = .ok (.iaload, 1) := by decide +kernel
theorem dX9_linked_40 : decode cX9_linked 40 = .ok (.invokevirtual 163, 3) := by decide +kernel
theorem dX9_linked_43 : decode cX9_linked 43 = .ok (.ireturn, 1) := by decide +kernel
theorem dX9_left_0 : decode cX9_left 0 = .ok (.aload_n 0, 1) := by decide +kernel
theorem dX9_left_1 : decode cX9_left 1 = .ok (.iload_n 1, 1) := by decide +kernel
theorem dX9_left_2 : decode cX9_left 2 = .ok (.iconst 0, 1) := by decide +kernel
theorem dX9_left_3 : decode cX9_left 3 = .ok (.invokevirtual 173, 3) := by decide +kernel
theorem dX9_left_6 : decode cX9_left 6 = .ok (.ireturn, 1) := by decide +kernel
theorem dX9_bound_0 : decode cX9_bound 0 = .ok (.aload_n 0, 1) := by decide +kernel
theorem dX9_bound_1 : decode cX9_bound 1 = .ok (.iload_n 1, 1) := by decide +kernel
theorem dX9_bound_2 : decode cX9_bound 2 = .ok (.iconst 2, 1) := by decide +kernel
theorem dX9_bound_3 : decode cX9_bound 3 = .ok (.invokevirtual 173, 3) := by decide +kernel
theorem dX9_bound_6 : decode cX9_bound 6 = .ok (.ireturn, 1) := by decide +kernel
theorem dX9_undone_0 : decode cX9_undone 0 = .ok (.aload_n 0, 1) := by decide +kernel
theorem dX9_undone_1 : decode cX9_undone 1 = .ok (.iload_n 1, 1) := by decide +kernel
theorem dX9_undone_2 : decode cX9_undone 2 = .ok (.iconst 3, 1) := by decide +kernel
theorem dX9_undone_3 : decode cX9_undone 3 = .ok (.invokevirtual 173, 3) := by decide +kernel
theorem dX9_undone_6 : decode cX9_undone 6 = .ok (.ireturn, 1) := by decide +kernel
theorem dX9_later_0 : decode cX9_later 0 = .ok (.aload_n 0, 1) := by decide +kernel
theorem dX9_later_1 : decode cX9_later 1 = .ok (.iload_n 1, 1) := by decide +kernel
theorem dX9_later_2 : decode cX9_later 2 = .ok (.invokevirtual 170, 3) := by decide +kernel
theorem dX9_later_5 : decode cX9_later 5 = .ok (.ifCond .eq 24, 3) := by decide +kernel
theorem dX9_later_8 : decode cX9_later 8 = .ok (.aload_n 0, 1) := by decide +kernel
theorem dX9_later_9 : decode cX9_later 9 = .ok (.iload_n 2, 1) := by decide +kernel
theorem dX9_later_10 : decode cX9_later 10 = .ok (.invokevirtual 170, 3) := by decide +kernel
theorem dX9_later_13 : decode cX9_later 13 = .ok (.ifCond .eq 16, 3) := by decide +kernel
theorem dX9_later_16 : decode cX9_later 16 = .ok (.aload_n 0, 1) := by decide +kernel
theorem dX9_later_17 : decode cX9_later 17 = .ok (.iload_n 1, 1) := by decide +kernel
theorem dX9_later_18 : decode cX9_later 18 = .ok (.iload_n 2, 1) := by decide +kernel
theorem dX9_later_19 : decode cX9_later 19 = .ok (.invokevirtual 108, 3) := by decide +kernel
theorem dX9_later_22 : decode cX9_later 22 = .ok (.ifCond .eq 7, 3) := by decide +kernel
theorem dX9_later_25 : decode cX9_later 25 = .ok (.iconst 1, 1) := by decide +kernel
theorem dX9_later_26 : decode cX9_later 26 = .ok (.goto 4, 3) := by decide +kernel
theorem dX9_later_29 : decode cX9_later 29 = .ok (.iconst 0, 1) := by decide +kernel
theorem dX9_later_30 : decode cX9_later 30 = .ok (.ireturn, 1) := by decide +kernel
theorem dX9_length_0 : decode cX9_length 0 = .ok (.iload_n 1, 1) := by decide +kernel
theorem dX9_length_1 : decode cX9_length 1 = .ok (.invokestatic 147, 3) := by decide +kernel
theorem dX9_length_4 : decode cX9_length 4 = .ok (.ifCond .eq 11, 3) := by decide +kernel
theorem dX9_length_7 : decode cX9_length 7 = .ok (.aload_n 0, 1) := by decide +kernel
theorem dX9_length_8 : decode cX9_length 8 = .ok (.iload_n 1, 1) := by decide +kernel
theorem dX9_length_9 : decode cX9_length 9 = .ok (.invokevirtual 153, 3) := by decide +kernel
theorem dX9_length_12 : decode cX9_length 12 = .ok (.goto 4, 3) := by decide +kernel
theorem dX9_length_15 : decode cX9_length 15 = .ok (.iconst (-1), 1) := by decide +kernel
theorem dX9_length_16 : decode cX9_length 16 = .ok (.ireturn, 1) := by decide +kernel
theorem dX9_text_0 : decode cX9_text 0 = .ok (.iload_n 1, 1) := by decide +kernel
theorem dX9_text_1 : decode cX9_text 1 = .ok (.invokestatic 147, 3) := by decide +kernel
theorem dX9_text_4 : decode cX9_text 4 = .ok (.ifCond .eq 16, 3) := by decide +kernel
theorem dX9_text_7 : decode cX9_text 7 = .ok (.iload_n 2, 1) := by decide +kernel
theorem dX9_text_8 : decode cX9_text 8 = .ok (.ifCond .lt 12, 3) := by decide +kernel
theorem dX9_text_11 : decode cX9_text 11 = .ok (.iload_n 2, 1) := by decide +kernel
theorem dX9_text_12 : decode cX9_text 12 = .ok (.aload_n 0, 1) := by decide +kernel
theorem dX9_text_13 : decode cX9_text 13 = .ok (.iload_n 1, 1) := by decide +kernel
theorem dX9_text_14 : decode cX9_text 14 = .ok (.invokevirtual 153, 3) := by decide +kernel
theorem dX9_text_17 : decode cX9_text 17 = .ok (.if_icmp .lt 5, 3) := by decide +kernel
theorem dX9_text_20 : decode cX9_text 20 = .ok (.iconst (-1), 1) := by decide +kernel
theorem dX9_text_21 : decode cX9_text 21 = .ok (.ireturn, 1) := by decide +kernel
theorem dX9_text_22 : decode cX9_text 22 = .ok (.aload_n 0, 1) := by decide +kernel
theorem dX9_text_23 : decode cX9_text 23 = .ok (.iload_n 2, 1) := by decide +kernel
theorem dX9_text_24 : decode cX9_text 24 = .ok (.invokevirtual 156, 3) := by decide +kernel
theorem dX9_text_27 : decode cX9_text 27 = .ok (.istore 4, 2) := by decide +kernel
theorem dX9_text_29 : decode cX9_text 29 = .ok (.iload_n 3, 1) := by decide +kernel
theorem dX9_text_30 : decode cX9_text 30 = .ok (.tableswitch 73 0 3 #[30, 43, 51, 58], 30) := by decide +kernel
theorem dX9_text_60 : decode cX9_text 60 = .ok (.aload_n 0, 1) := by decide +kernel
theorem dX9_text_61 : decode cX9_text 61 = .ok (.getfield 25, 3) := by decide +kernel
theorem dX9_text_64 : decode cX9_text 64 = .ok (.aload_n 0, 1) := by decide +kernel
theorem dX9_text_65 : decode cX9_text 65 = .ok (.getfield 53, 3) := by decide +kernel
theorem dX9_text_68 : decode cX9_text 68 = .ok (.iload 4, 2) := by decide +kernel
theorem dX9_text_70 : decode cX9_text 70 = .ok (.iaload, 1) := by decide +kernel
theorem dX9_text_71 : decode cX9_text 71 = .ok (.iaload, 1) := by decide +kernel
theorem dX9_text_72 : decode cX9_text 72 = .ok (.ireturn, 1) := by decide +kernel
theorem dX9_text_73 : decode cX9_text 73 = .ok (.aload_n 0, 1) := by decide +kernel
theorem dX9_text_74 : decode cX9_text 74 = .ok (.getfield 53, 3) := by decide +kernel
theorem dX9_text_77 : decode cX9_text 77 = .ok (.iload 4, 2) := by decide +kernel
theorem dX9_text_79 : decode cX9_text 79 = .ok (.iaload, 1) := by decide +kernel
theorem dX9_text_80 : decode cX9_text 80 = .ok (.ireturn, 1) := by decide +kernel
theorem dX9_text_81 : decode cX9_text 81 = .ok (.aload_n 0, 1) := by decide +kernel
theorem dX9_text_82 : decode cX9_text 82 = .ok (.iload 4, 2) := by decide +kernel
theorem dX9_text_84 : decode cX9_text 84 = .ok (.invokevirtual 176, 3) := by decide +kernel
theorem dX9_text_87 : decode cX9_text 87 = .ok (.ireturn, 1) := by decide +kernel
theorem dX9_text_88 : decode cX9_text 88 = .ok (.aload_n 0, 1) := by decide +kernel
theorem dX9_text_89 : decode cX9_text 89 = .ok (.getfield 7, 3) := by decide +kernel
theorem dX9_text_92 : decode cX9_text 92 = .ok (.aload_n 0, 1) := by decide +kernel
theorem dX9_text_93 : decode cX9_text 93 = .ok (.getfield 53, 3) := by decide +kernel
theorem dX9_text_96 : decode cX9_text 96 = .ok (.iload 4, 2) := by decide +kernel
theorem dX9_text_98 : decode cX9_text 98 = .ok (.iaload, 1) := by decide +kernel
theorem dX9_text_99 : decode cX9_text 99 = .ok (.iconst 4, 1) := by decide +kernel
theorem dX9_text_100 : decode cX9_text 100 = .ok (.idiv, 1) := by decide +kernel
theorem dX9_text_101 : decode cX9_text 101 = .ok (.iaload, 1) := by decide +kernel
theorem dX9_text_102 : decode cX9_text 102 = .ok (.ireturn, 1) := by decide +kernel
theorem dX9_text_103 : decode cX9_text 103 = .ok (.iconst (-1), 1) := by decide +kernel
theorem dX9_text_104 : decode cX9_text 104 = .ok (.ireturn, 1) := by decide +kernel
theorem dX9_signs_0 : decode cX9_signs 0 = .ok (.iload_n 1, 1) := by decide +kernel
theorem dX9_signs_1 : decode cX9_signs 1 = .ok (.invokestatic 147, 3) := by decide +kernel
theorem dX9_signs_4 : decode cX9_signs 4 = .ok (.ifCond .ne 5, 3) := by decide +kernel
theorem dX9_signs_7 : decode cX9_signs 7 = .ok (.iconst (-1), 1) := by decide +kernel
theorem dX9_signs_8 : decode cX9_signs 8 = .ok (.ireturn, 1) := by decide +kernel
theorem dX9_signs_9 : decode cX9_signs 9 = .ok (.aload_n 0, 1) := by decide +kernel
theorem dX9_signs_10 : decode cX9_signs 10 = .ok (.iload_n 1, 1) := by decide +kernel
theorem dX9_signs_11 : decode cX9_signs 11 = .ok (.invokevirtual 153, 3) := by decide +kernel
theorem dX9_signs_14 : decode cX9_signs 14 = .ok (.istore_n 2, 1) := by decide +kernel
theorem dX9_signs_15 : decode cX9_signs 15 = .ok (.aload_n 0, 1) := by decide +kernel
theorem dX9_signs_16 : decode cX9_signs 16 = .ok (.getfield 112, 3) := by decide +kernel
theorem dX9_signs_19 : decode cX9_signs 19 = .ok (.ireturn, 1) := by decide +kernel
theorem dX9_order_0 : decode cX9_order 0 = .ok (.iload_n 2, 1) := by decide +kernel
theorem dX9_order_1 : decode cX9_order 1 = .ok (.ifCond .lt 21, 3) := by decide +kernel
theorem dX9_order_4 : decode cX9_order 4 = .ok (.iload_n 2, 1) := by decide +kernel
theorem dX9_order_5 : decode cX9_order 5 = .ok (.aload_n 0, 1) := by decide +kernel
theorem dX9_order_6 : decode cX9_order 6 = .ok (.iload_n 1, 1) := by decide +kernel
theorem dX9_order_7 : decode cX9_order 7 = .ok (.invokevirtual 179, 3) := by decide +kernel
theorem dX9_order_10 : decode cX9_order 10 = .ok (.if_icmp .ge 12, 3) := by decide +kernel
theorem dX9_order_13 : decode cX9_order 13 = .ok (.aload_n 0, 1) := by decide +kernel
theorem dX9_order_14 : decode cX9_order 14 = .ok (.getfield 53, 3) := by decide +kernel
theorem dX9_order_17 : decode cX9_order 17 = .ok (.iload_n 2, 1) := by decide +kernel
theorem dX9_order_18 : decode cX9_order 18 = .ok (.iaload, 1) := by decide +kernel
theorem dX9_order_19 : decode cX9_order 19 = .ok (.goto 4, 3) := by decide +kernel
theorem dX9_order_22 : decode cX9_order 22 = .ok (.iconst (-1), 1) := by decide +kernel
theorem dX9_order_23 : decode cX9_order 23 = .ok (.ireturn, 1) := by decide +kernel
theorem dX9_place_0 : decode cX9_place 0 = .ok (.aload_n 0, 1) := by decide +kernel
theorem dX9_place_1 : decode cX9_place 1 = .ok (.iload_n 1, 1) := by decide +kernel
theorem dX9_place_2 : decode cX9_place 2 = .ok (.invokevirtual 179, 3) := by decide +kernel
theorem dX9_place_5 : decode cX9_place 5 = .ok (.istore_n 3, 1) := by decide +kernel
theorem dX9_place_6 : decode cX9_place 6 = .ok (.iload_n 3, 1) := by decide +kernel
theorem dX9_place_7 : decode cX9_place 7 = .ok (.ifCond .ge 7, 3) := by decide +kernel
theorem dX9_place_10 : decode cX9_place 10 = .ok (.iconst (-1), 1) := by decide +kernel
theorem dX9_place_11 : decode cX9_place 11 = .ok (.goto 8, 3) := by decide +kernel
theorem dX9_place_14 : decode cX9_place 14 = .ok (.aload_n 0, 1) := by decide +kernel
theorem dX9_place_15 : decode cX9_place 15 = .ok (.iload_n 2, 1) := by decide +kernel
theorem dX9_place_16 : decode cX9_place 16 = .ok (.invokevirtual 138, 3) := by decide +kernel
theorem dX9_place_19 : decode cX9_place 19 = .ok (.istore 4, 2) := by decide +kernel
theorem dX9_place_21 : decode cX9_place 21 = .ok (.iload 4, 2) := by decide +kernel
theorem dX9_place_23 : decode cX9_place 23 = .ok (.ifCond .ge 8, 3) := by decide +kernel
theorem dX9_place_26 : decode cX9_place 26 = .ok (.bipush (-3), 2) := by decide +kernel
theorem dX9_place_28 : decode cX9_place 28 = .ok (.goto 24, 3) := by decide +kernel
theorem dX9_place_31 : decode cX9_place 31 = .ok (.aload_n 0, 1) := by decide +kernel
theorem dX9_place_32 : decode cX9_place 32 = .ok (.getfield 56, 3) := by decide +kernel
theorem dX9_place_35 : decode cX9_place 35 = .ok (.iload 4, 2) := by decide +kernel
theorem dX9_place_37 : decode cX9_place 37 = .ok (.baload, 1) := by decide +kernel
theorem dX9_place_38 : decode cX9_place 38 = .ok (.ifCond .eq 12, 3) := by decide +kernel
theorem dX9_place_41 : decode cX9_place 41 = .ok (.aload_n 0, 1) := by decide +kernel
theorem dX9_place_42 : decode cX9_place 42 = .ok (.iload 4, 2) := by decide +kernel
theorem dX9_place_44 : decode cX9_place 44 = .ok (.invokevirtual 182, 3) := by decide +kernel
theorem dX9_place_47 : decode cX9_place 47 = .ok (.goto 5, 3) := by decide +kernel
theorem dX9_place_50 : decode cX9_place 50 = .ok (.bipush (-2), 2) := by decide +kernel
theorem dX9_place_52 : decode cX9_place 52 = .ok (.ireturn, 1) := by decide +kernel
theorem dX9_strikers_0 : decode cX9_strikers 0 = .ok (.aload_n 0, 1) := by decide +kernel
theorem dX9_strikers_1 : decode cX9_strikers 1 = .ok (.iload_n 1, 1) := by decide +kernel
theorem dX9_strikers_2 : decode cX9_strikers 2 = .ok (.invokevirtual 179, 3) := by decide +kernel
theorem dX9_strikers_5 : decode cX9_strikers 5 = .ok (.istore_n 3, 1) := by decide +kernel
theorem dX9_strikers_6 : decode cX9_strikers 6 = .ok (.iload_n 3, 1) := by decide +kernel
theorem dX9_strikers_7 : decode cX9_strikers 7 = .ok (.ifCond .lt 11, 3) := by decide +kernel
theorem dX9_strikers_10 : decode cX9_strikers 10 = .ok (.aload_n 0, 1) := by decide +kernel
theorem dX9_strikers_11 : decode cX9_strikers 11 = .ok (.iload_n 2, 1) := by decide +kernel
theorem dX9_strikers_12 : decode cX9_strikers 12 = .ok (.invokevirtual 138, 3) := by decide +kernel
theorem dX9_strikers_15 : decode cX9_strikers 15 = .ok (.ifCond .ge 7, 3) := by decide +kernel
theorem dX9_strikers_18 : decode cX9_strikers 18 = .ok (.iconst (-1), 1) := by decide +kernel
theorem dX9_strikers_19 : decode cX9_strikers 19 = .ok (.goto 8, 3) := by decide +kernel
theorem dX9_strikers_22 : decode cX9_strikers 22 = .ok (.aload_n 0, 1) := by decide +kernel
theorem dX9_strikers_23 : decode cX9_strikers 23 = .ok (.iload_n 2, 1) := by decide +kernel
theorem dX9_strikers_24 : decode cX9_strikers 24 = .ok (.invokevirtual 118, 3) := by decide +kernel
theorem dX9_strikers_27 : decode cX9_strikers 27 = .ok (.ireturn, 1) := by decide +kernel
theorem dX9_spans_0 : decode cX9_spans 0 = .ok (.iload_n 1, 1) := by decide +kernel
theorem dX9_spans_1 : decode cX9_spans 1 = .ok (.invokestatic 147, 3) := by decide +kernel
theorem dX9_spans_4 : decode cX9_spans 4 = .ok (.ifCond .eq 12, 3) := by decide +kernel
theorem dX9_spans_7 : decode cX9_spans 7 = .ok (.iload_n 2, 1) := by decide +kernel
theorem dX9_spans_8 : decode cX9_spans 8 = .ok (.ifCond .lt 8, 3) := by decide +kernel
theorem dX9_spans_11 : decode cX9_spans 11 = .ok (.iload_n 2, 1) := by decide +kernel
theorem dX9_spans_12 : decode cX9_spans 12 = .ok (.iconst 3, 1) := by decide +kernel
theorem dX9_spans_13 : decode cX9_spans 13 = .ok (.if_icmp .le 5, 3) := by decide +kernel
theorem dX9_spans_16 : decode cX9_spans 16 = .ok (.iconst (-1), 1) := by decide +kernel
theorem dX9_spans_17 : decode cX9_spans 17 = .ok (.ireturn, 1) := by decide +kernel
theorem dX9_spans_18 : decode cX9_spans 18 = .ok (.aload_n 0, 1) := by decide +kernel
theorem dX9_spans_19 : decode cX9_spans 19 = .ok (.iload_n 1, 1) := by decide +kernel
theorem dX9_spans_20 : decode cX9_spans 20 = .ok (.invokevirtual 153, 3) := by decide +kernel
theorem dX9_spans_23 : decode cX9_spans 23 = .ok (.istore_n 3, 1) := by decide +kernel
theorem dX9_spans_24 : decode cX9_spans 24 = .ok (.iconst 0, 1) := by decide +kernel
theorem dX9_spans_25 : decode cX9_spans 25 = .ok (.istore 4, 2) := by decide +kernel
theorem dX9_spans_27 : decode cX9_spans 27 = .ok (.iconst 0, 1) := by decide +kernel
theorem dX9_spans_28 : decode cX9_spans 28 = .ok (.istore 5, 2) := by decide +kernel
theorem dX9_spans_30 : decode cX9_spans 30 = .ok (.iconst 0, 1) := by decide +kernel
theorem dX9_spans_31 : decode cX9_spans 31 = .ok (.istore 6, 2) := by decide +kernel
theorem dX9_spans_33 : decode cX9_spans 33 = .ok (.iload 6, 2) := by decide +kernel
theorem dX9_spans_35 : decode cX9_spans 35 = .ok (.aload_n 0, 1) := by decide +kernel
theorem dX9_spans_36 : decode cX9_spans 36 = .ok (.getfield 112, 3) := by decide +kernel
theorem dX9_spans_39 : decode cX9_spans 39 = .ok (.if_icmp .ge 52, 3) := by decide +kernel
theorem dX9_spans_42 : decode cX9_spans 42 = .ok (.aload_n 0, 1) := by decide +kernel
theorem dX9_spans_43 : decode cX9_spans 43 = .ok (.getfield 56, 3) := by decide +kernel
theorem dX9_spans_46 : decode cX9_spans 46 = .ok (.iload 6, 2) := by decide +kernel
theorem dX9_spans_48 : decode cX9_spans 48 = .ok (.baload, 1) := by decide +kernel
theorem dX9_spans_49 : decode cX9_spans 49 = .ok (.ifCond .eq 36, 3) := by decide +kernel
theorem dX9_spans_52 : decode cX9_spans 52 = .ok (.aload_n 0, 1) := by decide +kernel
theorem dX9_spans_53 : decode cX9_spans 53 = .ok (.iload 6, 2) := by decide +kernel
theorem dX9_spans_55 : decode cX9_spans 55 = .ok (.iload_n 2, 1) := by decide +kernel
theorem dX9_spans_56 : decode cX9_spans 56 = .ok (.invokevirtual 144, 3) := by decide +kernel
theorem dX9_spans_59 : decode cX9_spans 59 = .ok (.istore 7, 2) := by decide +kernel
theorem dX9_spans_61 : decode cX9_spans 61 = .ok (.iload 4, 2) := by decide +kernel
theorem dX9_spans_63 : decode cX9_spans 63 = .ok (.iload 7, 2) := by decide +kernel
theorem dX9_spans_65 : decode cX9_spans 65 = .ok (.ifCond .eq 12, 3) := by decide +kernel
theorem dX9_spans_68 : decode cX9_spans 68 = .ok (.iload 5, 2) := by decide +kernel
theorem dX9_spans_70 : decode cX9_spans 70 = .ok (.ifCond .ne 7, 3) := by decide +kernel
theorem dX9_spans_73 : decode cX9_spans 73 = .ok (.iconst 1, 1) := by decide +kernel
theorem dX9_spans_74 : decode cX9_spans 74 = .ok (.goto 4, 3) := by decide +kernel
theorem dX9_spans_77 : decode cX9_spans 77 = .ok (.iconst 0, 1) := by decide +kernel
theorem dX9_spans_78 : decode cX9_spans 78 = .ok (.iadd, 1) := by decide +kernel
theorem dX9_spans_79 : decode cX9_spans 79 = .ok (.istore 4, 2) := by decide +kernel
theorem dX9_spans_81 : decode cX9_spans 81 = .ok (.iload 7, 2) := by decide +kernel
theorem dX9_spans_83 : decode cX9_spans 83 = .ok (.istore 5, 2) := by decide +kernel
theorem dX9_spans_85 : decode cX9_spans 85 = .ok (.iinc 6 1, 3) := by decide +kernel
theorem dX9_spans_88 : decode cX9_spans 88 = .ok (.goto (-55), 3) := by decide +kernel
theorem dX9_spans_91 : decode cX9_spans 91 = .ok (.iload 4, 2) := by decide +kernel
theorem dX9_spans_93 : decode cX9_spans 93 = .ok (.ireturn, 1) := by decide +kernel
theorem dX9_history_0 : decode cX9_history 0 = .ok (.iload_n 1, 1) := by decide +kernel
theorem dX9_history_1 : decode cX9_history 1 = .ok (.invokestatic 147, 3) := by decide +kernel
theorem dX9_history_4 : decode cX9_history 4 = .ok (.ifCond .eq 16, 3) := by decide +kernel
theorem dX9_history_7 : decode cX9_history 7 = .ok (.iload_n 2, 1) := by decide +kernel
theorem dX9_history_8 : decode cX9_history 8 = .ok (.ifCond .lt 12, 3) := by decide +kernel
theorem dX9_history_11 : decode cX9_history 11 = .ok (.iload_n 2, 1) := by decide +kernel
theorem dX9_history_12 : decode cX9_history 12 = .ok (.aload_n 0, 1) := by decide +kernel
theorem dX9_history_13 : decode cX9_history 13 = .ok (.iload_n 1, 1) := by decide +kernel
theorem dX9_history_14 : decode cX9_history 14 = .ok (.invokevirtual 131, 3) := by decide +kernel
theorem dX9_history_17 : decode cX9_history 17 = .ok (.if_icmp .lt 5, 3) := by decide +kernel
theorem dX9_history_20 : decode cX9_history 20 = .ok (.iconst (-1), 1) := by decide +kernel
theorem dX9_history_21 : decode cX9_history 21 = .ok (.ireturn, 1) := by decide +kernel
theorem dX9_history_22 : decode cX9_history 22 = .ok (.iconst 0, 1) := by decide +kernel
theorem dX9_history_23 : decode cX9_history 23 = .ok (.istore_n 3, 1) := by decide +kernel
theorem dX9_history_24 : decode cX9_history 24 = .ok (.iload_n 3, 1) := by decide +kernel
theorem dX9_history_25 : decode cX9_history 25 = .ok (.aload_n 0, 1) := by decide +kernel
theorem dX9_history_26 : decode cX9_history 26 = .ok (.getfield 84, 3) := by decide +kernel
theorem dX9_history_29 : decode cX9_history 29 = .ok (.if_icmp .ge 77, 3) := by decide +kernel
theorem dX9_history_32 : decode cX9_history 32 = .ok (.iconst 0, 1) := by decide +kernel
theorem dX9_history_33 : decode cX9_history 33 = .ok (.istore 4, 2) := by decide +kernel
theorem dX9_history_35 : decode cX9_history 35 = .ok (.iconst 0, 1) := by decide +kernel
theorem dX9_history_36 : decode cX9_history 36 = .ok (.istore 5, 2) := by decide +kernel
theorem dX9_history_38 : decode cX9_history 38 = .ok (.iload 5, 2) := by decide +kernel
theorem dX9_history_40 : decode cX9_history 40 = .ok (.aload_n 0, 1) := by decide +kernel
theorem dX9_history_41 : decode cX9_history 41 = .ok (.getfield 84, 3) := by decide +kernel
theorem dX9_history_44 : decode cX9_history 44 = .ok (.if_icmp .ge 39, 3) := by decide +kernel
theorem dX9_history_47 : decode cX9_history 47 = .ok (.iload 4, 2) := by decide +kernel
theorem dX9_history_49 : decode cX9_history 49 = .ok (.aload_n 0, 1) := by decide +kernel
theorem dX9_history_50 : decode cX9_history 50 = .ok (.getfield 47, 3) := by decide +kernel
theorem dX9_history_53 : decode cX9_history 53 = .ok (.iload 5, 2) := by decide +kernel
theorem dX9_history_55 : decode cX9_history 55 = .ok (.baload, 1) := by decide +kernel
theorem dX9_history_56 : decode cX9_history 56 = .ok (.ifCond .eq 17, 3) := by decide +kernel
theorem dX9_history_59 : decode cX9_history 59 = .ok (.aload_n 0, 1) := by decide +kernel
theorem dX9_history_60 : decode cX9_history 60 = .ok (.iload_n 3, 1) := by decide +kernel
theorem dX9_history_61 : decode cX9_history 61 = .ok (.iload 5, 2) := by decide +kernel
theorem dX9_history_63 : decode cX9_history 63 = .ok (.invokevirtual 108, 3) := by decide +kernel
theorem dX9_history_66 : decode cX9_history 66 = .ok (.ifCond .eq 7, 3) := by decide +kernel
theorem dX9_history_69 : decode cX9_history 69 = .ok (.iconst 1, 1) := by decide +kernel
theorem dX9_history_70 : decode cX9_history 70 = .ok (.goto 4, 3) := by decide +kernel
theorem dX9_history_73 : decode cX9_history 73 = .ok (.iconst 0, 1) := by decide +kernel
theorem dX9_history_74 : decode cX9_history 74 = .ok (.iadd, 1) := by decide +kernel
theorem dX9_history_75 : decode cX9_history 75 = .ok (.istore 4, 2) := by decide +kernel
theorem dX9_history_77 : decode cX9_history 77 = .ok (.iinc 5 1, 3) := by decide +kernel
theorem dX9_history_80 : decode cX9_history 80 = .ok (.goto (-42), 3) := by decide +kernel
theorem dX9_history_83 : decode cX9_history 83 = .ok (.aload_n 0, 1) := by decide +kernel
theorem dX9_history_84 : decode cX9_history 84 = .ok (.getfield 47, 3) := by decide +kernel
theorem dX9_history_87 : decode cX9_history 87 = .ok (.iload_n 3, 1) := by decide +kernel
theorem dX9_history_88 : decode cX9_history 88 = .ok (.baload, 1) := by decide +kernel
theorem dX9_history_89 : decode cX9_history 89 = .ok (.ifCond .eq 11, 3) := by decide +kernel
theorem dX9_history_92 : decode cX9_history 92 = .ok (.iload 4, 2) := by decide +kernel
theorem dX9_history_94 : decode cX9_history 94 = .ok (.iload_n 2, 1) := by decide +kernel
theorem dX9_history_95 : decode cX9_history 95 = .ok (.if_icmp .ne 5, 3) := by decide +kernel
theorem dX9_history_98 : decode cX9_history 98 = .ok (.iload_n 3, 1) := by decide +kernel
theorem dX9_history_99 : decode cX9_history 99 = .ok (.ireturn, 1) := by decide +kernel
theorem dX9_history_100 : decode cX9_history 100 = .ok (.iinc 3 1, 3) := by decide +kernel
theorem dX9_history_103 : decode cX9_history 103 = .ok (.goto (-79), 3) := by decide +kernel
theorem dX9_history_106 : decode cX9_history 106 = .ok (.iconst (-1), 1) := by decide +kernel
theorem dX9_history_107 : decode cX9_history 107 = .ok (.ireturn, 1) := by decide +kernel
theorem dX9_asOf_0 : decode cX9_asOf 0 = .ok (.iload_n 1, 1) := by decide +kernel
theorem dX9_asOf_1 : decode cX9_asOf 1 = .ok (.invokestatic 147, 3) := by decide +kernel
theorem dX9_asOf_4 : decode cX9_asOf 4 = .ok (.ifCond .ne 5, 3) := by decide +kernel
theorem dX9_asOf_7 : decode cX9_asOf 7 = .ok (.iconst (-1), 1) := by decide +kernel
theorem dX9_asOf_8 : decode cX9_asOf 8 = .ok (.ireturn, 1) := by decide +kernel
theorem dX9_asOf_9 : decode cX9_asOf 9 = .ok (.aload_n 0, 1) := by decide +kernel
theorem dX9_asOf_10 : decode cX9_asOf 10 = .ok (.iload_n 1, 1) := by decide +kernel
theorem dX9_asOf_11 : decode cX9_asOf 11 = .ok (.invokevirtual 131, 3) := by decide +kernel
theorem dX9_asOf_14 : decode cX9_asOf 14 = .ok (.pop, 1) := by decide +kernel
theorem dX9_asOf_15 : decode cX9_asOf 15 = .ok (.iconst 0, 1) := by decide +kernel
theorem dX9_asOf_16 : decode cX9_asOf 16 = .ok (.istore 4, 2) := by decide +kernel
theorem dX9_asOf_18 : decode cX9_asOf 18 = .ok (.iload 4, 2) := by decide +kernel
theorem dX9_asOf_20 : decode cX9_asOf 20 = .ok (.aload_n 0, 1) := by decide +kernel
theorem dX9_asOf_21 : decode cX9_asOf 21 = .ok (.getfield 84, 3) := by decide +kernel
theorem dX9_asOf_24 : decode cX9_asOf 24 = .ok (.if_icmp .ge 42, 3) := by decide +kernel
theorem dX9_asOf_27 : decode cX9_asOf 27 = .ok (.aload_n 0, 1) := by decide +kernel
theorem dX9_asOf_28 : decode cX9_asOf 28 = .ok (.getfield 47, 3) := by decide +kernel
theorem dX9_asOf_31 : decode cX9_asOf 31 = .ok (.iload 4, 2) := by decide +kernel
theorem dX9_asOf_33 : decode cX9_asOf 33 = .ok (.aload_n 0, 1) := by decide +kernel
theorem dX9_asOf_34 : decode cX9_asOf 34 = .ok (.getfield 47, 3) := by decide +kernel
theorem dX9_asOf_37 : decode cX9_asOf 37 = .ok (.iload 4, 2) := by decide +kernel
theorem dX9_asOf_39 : decode cX9_asOf 39 = .ok (.baload, 1) := by decide +kernel
theorem dX9_asOf_40 : decode cX9_asOf 40 = .ok (.ifCond .eq 18, 3) := by decide +kernel
theorem dX9_asOf_43 : decode cX9_asOf 43 = .ok (.aload_n 0, 1) := by decide +kernel
theorem dX9_asOf_44 : decode cX9_asOf 44 = .ok (.getfield 13, 3) := by decide +kernel
theorem dX9_asOf_47 : decode cX9_asOf 47 = .ok (.iload 4, 2) := by decide +kernel
theorem dX9_asOf_49 : decode cX9_asOf 49 = .ok (.iaload, 1) := by decide +kernel
theorem dX9_asOf_50 : decode cX9_asOf 50 = .ok (.iload_n 2, 1) := by decide +kernel
theorem dX9_asOf_51 : decode cX9_asOf 51 = .ok (.if_icmp .gt 7, 3) := by decide +kernel
theorem dX9_asOf_54 : decode cX9_asOf 54 = .ok (.iconst 1, 1) := by decide +kernel
theorem dX9_asOf_55 : decode cX9_asOf 55 = .ok (.goto 4, 3) := by decide +kernel
theorem dX9_asOf_58 : decode cX9_asOf 58 = .ok (.iconst 0, 1) := by decide +kernel
theorem dX9_asOf_59 : decode cX9_asOf 59 = .ok (.bastore, 1) := by decide +kernel
theorem dX9_asOf_60 : decode cX9_asOf 60 = .ok (.iinc 4 1, 3) := by decide +kernel
theorem dX9_asOf_63 : decode cX9_asOf 63 = .ok (.goto (-45), 3) := by decide +kernel
theorem dX9_asOf_66 : decode cX9_asOf 66 = .ok (.aload_n 0, 1) := by decide +kernel
theorem dX9_asOf_67 : decode cX9_asOf 67 = .ok (.invokevirtual 134, 3) := by decide +kernel
theorem dX9_asOf_70 : decode cX9_asOf 70 = .ok (.istore 4, 2) := by decide +kernel
theorem dX9_asOf_72 : decode cX9_asOf 72 = .ok (.iload_n 3, 1) := by decide +kernel
theorem dX9_asOf_73 : decode cX9_asOf 73 = .ok (.ifCond .lt 27, 3) := by decide +kernel
theorem dX9_asOf_76 : decode cX9_asOf 76 = .ok (.iload_n 3, 1) := by decide +kernel
theorem dX9_asOf_77 : decode cX9_asOf 77 = .ok (.iload 4, 2) := by decide +kernel
theorem dX9_asOf_79 : decode cX9_asOf 79 = .ok (.if_icmp .ge 21, 3) := by decide +kernel
theorem dX9_asOf_82 : decode cX9_asOf 82 = .ok (.aload_n 0, 1) := by decide +kernel
theorem dX9_asOf_83 : decode cX9_asOf 83 = .ok (.getfield 25, 3) := by decide +kernel
theorem dX9_asOf_86 : decode cX9_asOf 86 = .ok (.aload_n 0, 1) := by decide +kernel
theorem dX9_asOf_87 : decode cX9_asOf 87 = .ok (.getfield 53, 3) := by decide +kernel
theorem dX9_asOf_90 : decode cX9_asOf 90 = .ok (.aload_n 0, 1) := by decide +kernel
theorem dX9_asOf_91 : decode cX9_asOf 91 = .ok (.iload_n 3, 1) := by decide +kernel
theorem dX9_asOf_92 : decode cX9_asOf 92 = .ok (.invokevirtual 156, 3) := by decide +kernel
theorem dX9_asOf_95 : decode cX9_asOf 95 = .ok (.iaload, 1) := by decide +kernel
theorem dX9_asOf_96 : decode cX9_asOf 96 = .ok (.iaload, 1) := by decide +kernel
theorem dX9_asOf_97 : decode cX9_asOf 97 = .ok (.goto 4, 3) := by decide +kernel
theorem dX9_asOf_100 : decode cX9_asOf 100 = .ok (.iconst (-1), 1) := by decide +kernel
theorem dX9_asOf_101 : decode cX9_asOf 101 = .ok (.ireturn, 1) := by decide +kernel
theorem dX9_unlike_0 : decode cX9_unlike 0 = .ok (.iload_n 1, 1) := by decide +kernel
theorem dX9_unlike_1 : decode cX9_unlike 1 = .ok (.invokestatic 147, 3) := by decide +kernel
theorem dX9_unlike_4 : decode cX9_unlike 4 = .ok (.ifCond .eq 10, 3) := by decide +kernel
theorem dX9_unlike_7 : decode cX9_unlike 7 = .ok (.iload_n 2, 1) := by decide +kernel
theorem dX9_unlike_8 : decode cX9_unlike 8 = .ok (.invokestatic 147, 3) := by decide +kernel
theorem dX9_unlike_11 : decode cX9_unlike 11 = .ok (.ifCond .ne 5, 3) := by decide +kernel
theorem dX9_unlike_14 : decode cX9_unlike 14 = .ok (.iconst (-1), 1) := by decide +kernel
theorem dX9_unlike_15 : decode cX9_unlike 15 = .ok (.ireturn, 1) := by decide +kernel
theorem dX9_unlike_16 : decode cX9_unlike 16 = .ok (.aload_n 0, 1) := by decide +kernel
theorem dX9_unlike_17 : decode cX9_unlike 17 = .ok (.iload_n 1, 1) := by decide +kernel
theorem dX9_unlike_18 : decode cX9_unlike 18 = .ok (.invokevirtual 153, 3) := by decide +kernel
theorem dX9_unlike_21 : decode cX9_unlike 21 = .ok (.istore_n 3, 1) := by decide +kernel
theorem dX9_unlike_22 : decode cX9_unlike 22 = .ok (.iconst 0, 1) := by decide +kernel
theorem dX9_unlike_23 : decode cX9_unlike 23 = .ok (.istore 4, 2) := by decide +kernel
theorem dX9_unlike_25 : decode cX9_unlike 25 = .ok (.iload 4, 2) := by decide +kernel
theorem dX9_unlike_27 : decode cX9_unlike 27 = .ok (.iload_n 3, 1) := by decide +kernel
theorem dX9_unlike_28 : decode cX9_unlike 28 = .ok (.if_icmp .ge 44, 3) := by decide +kernel
theorem dX9_unlike_31 : decode cX9_unlike 31 = .ok (.aload_n 0, 1) := by decide +kernel
theorem dX9_unlike_32 : decode cX9_unlike 32 = .ok (.iload 4, 2) := by decide +kernel
theorem dX9_unlike_34 : decode cX9_unlike 34 = .ok (.invokevirtual 156, 3) := by decide +kernel
theorem dX9_unlike_37 : decode cX9_unlike 37 = .ok (.istore 5, 2) := by decide +kernel
theorem dX9_unlike_39 : decode cX9_unlike 39 = .ok (.aload_n 0, 1) := by decide +kernel
theorem dX9_unlike_40 : decode cX9_unlike 40 = .ok (.getfield 74, 3) := by decide +kernel
theorem dX9_unlike_43 : decode cX9_unlike 43 = .ok (.iload 4, 2) := by decide +kernel
theorem dX9_unlike_45 : decode cX9_unlike 45 = .ok (.aload_n 0, 1) := by decide +kernel
theorem dX9_unlike_46 : decode cX9_unlike 46 = .ok (.getfield 53, 3) := by decide +kernel
theorem dX9_unlike_49 : decode cX9_unlike 49 = .ok (.iload 5, 2) := by decide +kernel
theorem dX9_unlike_51 : decode cX9_unlike 51 = .ok (.iaload, 1) := by decide +kernel
theorem dX9_unlike_52 : decode cX9_unlike 52 = .ok (.iastore, 1) := by decide +kernel
theorem dX9_unlike_53 : decode cX9_unlike 53 = .ok (.aload_n 0, 1) := by decide +kernel
theorem dX9_unlike_54 : decode cX9_unlike 54 = .ok (.getfield 77, 3) := by decide +kernel
theorem dX9_unlike_57 : decode cX9_unlike 57 = .ok (.iload 4, 2) := by decide +kernel
theorem dX9_unlike_59 : decode cX9_unlike 59 = .ok (.aload_n 0, 1) := by decide +kernel
theorem dX9_unlike_60 : decode cX9_unlike 60 = .ok (.iload 5, 2) := by decide +kernel
theorem dX9_unlike_62 : decode cX9_unlike 62 = .ok (.invokevirtual 176, 3) := by decide +kernel
theorem dX9_unlike_65 : decode cX9_unlike 65 = .ok (.iastore, 1) := by decide +kernel
theorem dX9_unlike_66 : decode cX9_unlike 66 = .ok (.iinc 4 1, 3) := by decide +kernel
theorem dX9_unlike_69 : decode cX9_unlike 69 = .ok (.goto (-44), 3) := by decide +kernel
theorem dX9_unlike_72 : decode cX9_unlike 72 = .ok (.iconst 0, 1) := by decide +kernel
theorem dX9_unlike_73 : decode cX9_unlike 73 = .ok (.istore 4, 2) := by decide +kernel
theorem dX9_unlike_75 : decode cX9_unlike 75 = .ok (.iload 4, 2) := by decide +kernel
theorem dX9_unlike_77 : decode cX9_unlike 77 = .ok (.aload_n 0, 1) := by decide +kernel
theorem dX9_unlike_78 : decode cX9_unlike 78 = .ok (.getfield 84, 3) := by decide +kernel
theorem dX9_unlike_81 : decode cX9_unlike 81 = .ok (.if_icmp .ge 23, 3) := by decide +kernel
theorem dX9_unlike_84 : decode cX9_unlike 84 = .ok (.aload_n 0, 1) := by decide +kernel
theorem dX9_unlike_85 : decode cX9_unlike 85 = .ok (.getfield 71, 3) := by decide +kernel
theorem dX9_unlike_88 : decode cX9_unlike 88 = .ok (.iload 4, 2) := by decide +kernel
theorem dX9_unlike_90 : decode cX9_unlike 90 = .ok (.aload_n 0, 1) := by decide +kernel
theorem dX9_unlike_91 : decode cX9_unlike 91 = .ok (.getfield 47, 3) := by decide +kernel
theorem dX9_unlike_94 : decode cX9_unlike 94 = .ok (.iload 4, 2) := by decide +kernel
theorem dX9_unlike_96 : decode cX9_unlike 96 = .ok (.baload, 1) := by decide +kernel
theorem dX9_unlike_97 : decode cX9_unlike 97 = .ok (.bastore, 1) := by decide +kernel
theorem dX9_unlike_98 : decode cX9_unlike 98 = .ok (.iinc 4 1, 3) := by decide +kernel
theorem dX9_unlike_101 : decode cX9_unlike 101 = .ok (.goto (-26), 3) := by decide +kernel
theorem dX9_unlike_104 : decode cX9_unlike 104 = .ok (.aload_n 0, 1) := by decide +kernel
theorem dX9_unlike_105 : decode cX9_unlike 105 = .ok (.iload_n 2, 1) := by decide +kernel
theorem dX9_unlike_106 : decode cX9_unlike 106 = .ok (.invokevirtual 153, 3) := by decide +kernel
theorem dX9_unlike_109 : decode cX9_unlike 109 = .ok (.istore 4, 2) := by decide +kernel
theorem dX9_unlike_111 : decode cX9_unlike 111 = .ok (.iconst 1, 1) := by decide +kernel
theorem dX9_unlike_112 : decode cX9_unlike 112 = .ok (.istore 5, 2) := by decide +kernel
theorem dX9_unlike_114 : decode cX9_unlike 114 = .ok (.iconst 0, 1) := by decide +kernel
theorem dX9_unlike_115 : decode cX9_unlike 115 = .ok (.istore 6, 2) := by decide +kernel
theorem dX9_unlike_117 : decode cX9_unlike 117 = .ok (.iload 6, 2) := by decide +kernel
theorem dX9_unlike_119 : decode cX9_unlike 119 = .ok (.aload_n 0, 1) := by decide +kernel
theorem dX9_unlike_120 : decode cX9_unlike 120 = .ok (.getfield 84, 3) := by decide +kernel
theorem dX9_unlike_123 : decode cX9_unlike 123 = .ok (.if_icmp .ge 38, 3) := by decide +kernel
theorem dX9_unlike_126 : decode cX9_unlike 126 = .ok (.iload 5, 2) := by decide +kernel
theorem dX9_unlike_128 : decode cX9_unlike 128 = .ok (.ifCond .eq 24, 3) := by decide +kernel
theorem dX9_unlike_131 : decode cX9_unlike 131 = .ok (.aload_n 0, 1) := by decide +kernel
theorem dX9_unlike_132 : decode cX9_unlike 132 = .ok (.getfield 71, 3) := by decide +kernel
theorem dX9_unlike_135 : decode cX9_unlike 135 = .ok (.iload 6, 2) := by decide +kernel
theorem dX9_unlike_137 : decode cX9_unlike 137 = .ok (.baload, 1) := by decide +kernel
theorem dX9_unlike_138 : decode cX9_unlike 138 = .ok (.aload_n 0, 1) := by decide +kernel
theorem dX9_unlike_139 : decode cX9_unlike 139 = .ok (.getfield 47, 3) := by decide +kernel
theorem dX9_unlike_142 : decode cX9_unlike 142 = .ok (.iload 6, 2) := by decide +kernel
theorem dX9_unlike_144 : decode cX9_unlike 144 = .ok (.baload, 1) := by decide +kernel
theorem dX9_unlike_145 : decode cX9_unlike 145 = .ok (.if_icmp .ne 7, 3) := by decide +kernel
theorem dX9_unlike_148 : decode cX9_unlike 148 = .ok (.iconst 1, 1) := by decide +kernel
theorem dX9_unlike_149 : decode cX9_unlike 149 = .ok (.goto 4, 3) := by decide +kernel
theorem dX9_unlike_152 : decode cX9_unlike 152 = .ok (.iconst 0, 1) := by decide +kernel
theorem dX9_unlike_153 : decode cX9_unlike 153 = .ok (.istore 5, 2) := by decide +kernel
theorem dX9_unlike_155 : decode cX9_unlike 155 = .ok (.iinc 6 1, 3) := by decide +kernel
theorem dX9_unlike_158 : decode cX9_unlike 158 = .ok (.goto (-41), 3) := by decide +kernel
theorem dX9_unlike_161 : decode cX9_unlike 161 = .ok (.iload 5, 2) := by decide +kernel
theorem dX9_unlike_163 : decode cX9_unlike 163 = .ok (.ifCond .eq 5, 3) := by decide +kernel
theorem dX9_unlike_166 : decode cX9_unlike 166 = .ok (.iconst 0, 1) := by decide +kernel
theorem dX9_unlike_167 : decode cX9_unlike 167 = .ok (.ireturn, 1) := by decide +kernel
theorem dX9_unlike_168 : decode cX9_unlike 168 = .ok (.iconst 0, 1) := by decide +kernel
theorem dX9_unlike_169 : decode cX9_unlike 169 = .ok (.istore 6, 2) := by decide +kernel
theorem dX9_unlike_171 : decode cX9_unlike 171 = .ok (.iload 6, 2) := by decide +kernel
theorem dX9_unlike_173 : decode cX9_unlike 173 = .ok (.iload_n 3, 1) := by decide +kernel
theorem dX9_unlike_174 : decode cX9_unlike 174 = .ok (.if_icmp .ge 57, 3) := by decide +kernel
theorem dX9_unlike_177 : decode cX9_unlike 177 = .ok (.iload 6, 2) := by decide +kernel
theorem dX9_unlike_179 : decode cX9_unlike 179 = .ok (.iload 4, 2) := by decide +kernel
theorem dX9_unlike_181 : decode cX9_unlike 181 = .ok (.if_icmp .ge 50, 3) := by decide +kernel
theorem dX9_unlike_184 : decode cX9_unlike 184 = .ok (.aload_n 0, 1) := by decide +kernel
theorem dX9_unlike_185 : decode cX9_unlike 185 = .ok (.getfield 53, 3) := by decide +kernel
theorem dX9_unlike_188 : decode cX9_unlike 188 = .ok (.aload_n 0, 1) := by decide +kernel
theorem dX9_unlike_189 : decode cX9_unlike 189 = .ok (.iload 6, 2) := by decide +kernel
theorem dX9_unlike_191 : decode cX9_unlike 191 = .ok (.invokevirtual 156, 3) := by decide +kernel
theorem dX9_unlike_194 : decode cX9_unlike 194 = .ok (.iaload, 1) := by decide +kernel
theorem dX9_unlike_195 : decode cX9_unlike 195 = .ok (.aload_n 0, 1) := by decide +kernel
theorem dX9_unlike_196 : decode cX9_unlike 196 = .ok (.getfield 74, 3) := by decide +kernel
theorem dX9_unlike_199 : decode cX9_unlike 199 = .ok (.iload 6, 2) := by decide +kernel
theorem dX9_unlike_201 : decode cX9_unlike 201 = .ok (.iaload, 1) := by decide +kernel
theorem dX9_unlike_202 : decode cX9_unlike 202 = .ok (.if_icmp .ne 29, 3) := by decide +kernel
theorem dX9_unlike_205 : decode cX9_unlike 205 = .ok (.aload_n 0, 1) := by decide +kernel
theorem dX9_unlike_206 : decode cX9_unlike 206 = .ok (.aload_n 0, 1) := by decide +kernel
theorem dX9_unlike_207 : decode cX9_unlike 207 = .ok (.iload 6, 2) := by decide +kernel
theorem dX9_unlike_209 : decode cX9_unlike 209 = .ok (.invokevirtual 156, 3) := by decide +kernel
theorem dX9_unlike_212 : decode cX9_unlike 212 = .ok (.invokevirtual 176, 3) := by decide +kernel
theorem dX9_unlike_215 : decode cX9_unlike 215 = .ok (.aload_n 0, 1) := by decide +kernel
theorem dX9_unlike_216 : decode cX9_unlike 216 = .ok (.getfield 77, 3) := by decide +kernel
theorem dX9_unlike_219 : decode cX9_unlike 219 = .ok (.iload 6, 2) := by decide +kernel
theorem dX9_unlike_221 : decode cX9_unlike 221 = .ok (.iaload, 1) := by decide +kernel
theorem dX9_unlike_222 : decode cX9_unlike 222 = .ok (.if_icmp .ne 9, 3) := by decide +kernel
theorem dX9_unlike_225 : decode cX9_unlike 225 = .ok (.iinc 6 1, 3) := by decide +kernel
theorem dX9_unlike_228 : decode cX9_unlike 228 = .ok (.goto (-57), 3) := by decide +kernel
theorem dX9_unlike_231 : decode cX9_unlike 231 = .ok (.iload 6, 2) := by decide +kernel
theorem dX9_unlike_233 : decode cX9_unlike 233 = .ok (.iconst 1, 1) := by decide +kernel
theorem dX9_unlike_234 : decode cX9_unlike 234 = .ok (.iadd, 1) := by decide +kernel
theorem dX9_unlike_235 : decode cX9_unlike 235 = .ok (.ireturn, 1) := by decide +kernel
theorem dX9_cursor_0 : decode cX9_cursor 0 = .ok (.iload_n 1, 1) := by decide +kernel
theorem dX9_cursor_1 : decode cX9_cursor 1 = .ok (.invokestatic 147, 3) := by decide +kernel
theorem dX9_cursor_4 : decode cX9_cursor 4 = .ok (.ifCond .eq 12, 3) := by decide +kernel
theorem dX9_cursor_7 : decode cX9_cursor 7 = .ok (.iload_n 2, 1) := by decide +kernel
theorem dX9_cursor_8 : decode cX9_cursor 8 = .ok (.ifCond .lt 8, 3) := by decide +kernel
theorem dX9_cursor_11 : decode cX9_cursor 11 = .ok (.iload_n 2, 1) := by decide +kernel
theorem dX9_cursor_12 : decode cX9_cursor 12 = .ok (.iconst 3, 1) := by decide +kernel
theorem dX9_cursor_13 : decode cX9_cursor 13 = .ok (.if_icmp .lt 9, 3) := by decide +kernel
theorem dX9_cursor_16 : decode cX9_cursor 16 = .ok (.aload_n 0, 1) := by decide +kernel
theorem dX9_cursor_17 : decode cX9_cursor 17 = .ok (.iconst 1, 1) := by decide +kernel
theorem dX9_cursor_18 : decode cX9_cursor 18 = .ok (.invokevirtual 150, 3) := by decide +kernel
theorem dX9_cursor_21 : decode cX9_cursor 21 = .ok (.ireturn, 1) := by decide +kernel
theorem dX9_cursor_22 : decode cX9_cursor 22 = .ok (.aload_n 0, 1) := by decide +kernel
theorem dX9_cursor_23 : decode cX9_cursor 23 = .ok (.iload_n 1, 1) := by decide +kernel
theorem dX9_cursor_24 : decode cX9_cursor 24 = .ok (.invokevirtual 153, 3) := by decide +kernel
theorem dX9_cursor_27 : decode cX9_cursor 27 = .ok (.istore 5, 2) := by decide +kernel
theorem dX9_cursor_29 : decode cX9_cursor 29 = .ok (.iload_n 3, 1) := by decide +kernel
theorem dX9_cursor_30 : decode cX9_cursor 30 = .ok (.ifCond .lt 20, 3) := by decide +kernel
theorem dX9_cursor_33 : decode cX9_cursor 33 = .ok (.iload_n 3, 1) := by decide +kernel
theorem dX9_cursor_34 : decode cX9_cursor 34 = .ok (.iload 5, 2) := by decide +kernel
theorem dX9_cursor_36 : decode cX9_cursor 36 = .ok (.if_icmp .gt 14, 3) := by decide +kernel
theorem dX9_cursor_39 : decode cX9_cursor 39 = .ok (.iload 4, 2) := by decide +kernel
theorem dX9_cursor_41 : decode cX9_cursor 41 = .ok (.ifCond .lt 9, 3) := by decide +kernel
theorem dX9_cursor_44 : decode cX9_cursor 44 = .ok (.iload 4, 2) := by decide +kernel
theorem dX9_cursor_46 : decode cX9_cursor 46 = .ok (.iconst 1, 1) := by decide +kernel
theorem dX9_cursor_47 : decode cX9_cursor 47 = .ok (.if_icmp .le 9, 3) := by decide +kernel
theorem dX9_cursor_50 : decode cX9_cursor 50 = .ok (.aload_n 0, 1) := by decide +kernel
theorem dX9_cursor_51 : decode cX9_cursor 51 = .ok (.iconst 1, 1) := by decide +kernel
theorem dX9_cursor_52 : decode cX9_cursor 52 = .ok (.invokevirtual 150, 3) := by decide +kernel
theorem dX9_cursor_55 : decode cX9_cursor 55 = .ok (.ireturn, 1) := by decide +kernel
theorem dX9_cursor_56 : decode cX9_cursor 56 = .ok (.iload 4, 2) := by decide +kernel
theorem dX9_cursor_58 : decode cX9_cursor 58 = .ok (.ifCond .ne 9, 3) := by decide +kernel
theorem dX9_cursor_61 : decode cX9_cursor 61 = .ok (.iload_n 3, 1) := by decide +kernel
theorem dX9_cursor_62 : decode cX9_cursor 62 = .ok (.iconst 1, 1) := by decide +kernel
theorem dX9_cursor_63 : decode cX9_cursor 63 = .ok (.isub, 1) := by decide +kernel
theorem dX9_cursor_64 : decode cX9_cursor 64 = .ok (.goto 4, 3) := by decide +kernel
theorem dX9_cursor_67 : decode cX9_cursor 67 = .ok (.iload_n 3, 1) := by decide +kernel
theorem dX9_cursor_68 : decode cX9_cursor 68 = .ok (.istore 6, 2) := by decide +kernel
theorem dX9_cursor_70 : decode cX9_cursor 70 = .ok (.aload_n 0, 1) := by decide +kernel
theorem dX9_cursor_71 : decode cX9_cursor 71 = .ok (.getfield 41, 3) := by decide +kernel
theorem dX9_cursor_74 : decode cX9_cursor 74 = .ok (.iconst 3, 1) := by decide +kernel
theorem dX9_cursor_75 : decode cX9_cursor 75 = .ok (.iload_n 1, 1) := by decide +kernel
theorem dX9_cursor_76 : decode cX9_cursor 76 = .ok (.imul, 1) := by decide +kernel
theorem dX9_cursor_77 : decode cX9_cursor 77 = .ok (.iload_n 2, 1) := by decide +kernel
theorem dX9_cursor_78 : decode cX9_cursor 78 = .ok (.iadd, 1) := by decide +kernel
theorem dX9_cursor_79 : decode cX9_cursor 79 = .ok (.iload 6, 2) := by decide +kernel
theorem dX9_cursor_81 : decode cX9_cursor 81 = .ok (.ifCond .lt 10, 3) := by decide +kernel
theorem dX9_cursor_84 : decode cX9_cursor 84 = .ok (.iload 6, 2) := by decide +kernel
theorem dX9_cursor_86 : decode cX9_cursor 86 = .ok (.iload 5, 2) := by decide +kernel
theorem dX9_cursor_88 : decode cX9_cursor 88 = .ok (.if_icmp .lt 8, 3) := by decide +kernel
theorem dX9_cursor_91 : decode cX9_cursor 91 = .ok (.bipush (-2), 2) := by decide +kernel
theorem dX9_cursor_93 : decode cX9_cursor 93 = .ok (.goto 14, 3) := by decide +kernel
theorem dX9_cursor_96 : decode cX9_cursor 96 = .ok (.aload_n 0, 1) := by decide +kernel
theorem dX9_cursor_97 : decode cX9_cursor 97 = .ok (.getfield 53, 3) := by decide +kernel
theorem dX9_cursor_100 : decode cX9_cursor 100 = .ok (.aload_n 0, 1) := by decide +kernel
theorem dX9_cursor_101 : decode cX9_cursor 101 = .ok (.iload 6, 2) := by decide +kernel
theorem dX9_cursor_103 : decode cX9_cursor 103 = .ok (.invokevirtual 156, 3) := by decide +kernel
theorem dX9_cursor_106 : decode cX9_cursor 106 = .ok (.iaload, 1) := by decide +kernel
theorem dX9_cursor_107 : decode cX9_cursor 107 = .ok (.iastore, 1) := by decide +kernel
theorem dX9_cursor_108 : decode cX9_cursor 108 = .ok (.aload_n 0, 1) := by decide +kernel
theorem dX9_cursor_109 : decode cX9_cursor 109 = .ok (.getfield 44, 3) := by decide +kernel
theorem dX9_cursor_112 : decode cX9_cursor 112 = .ok (.iconst 3, 1) := by decide +kernel
theorem dX9_cursor_113 : decode cX9_cursor 113 = .ok (.iload_n 1, 1) := by decide +kernel
theorem dX9_cursor_114 : decode cX9_cursor 114 = .ok (.imul, 1) := by decide +kernel
theorem dX9_cursor_115 : decode cX9_cursor 115 = .ok (.iload_n 2, 1) := by decide +kernel
theorem dX9_cursor_116 : decode cX9_cursor 116 = .ok (.iadd, 1) := by decide +kernel
theorem dX9_cursor_117 : decode cX9_cursor 117 = .ok (.iload 4, 2) := by decide +kernel
theorem dX9_cursor_119 : decode cX9_cursor 119 = .ok (.iastore, 1) := by decide +kernel
theorem dX9_cursor_120 : decode cX9_cursor 120 = .ok (.aload_n 0, 1) := by decide +kernel
theorem dX9_cursor_121 : decode cX9_cursor 121 = .ok (.iconst 1, 1) := by decide +kernel
theorem dX9_cursor_122 : decode cX9_cursor 122 = .ok (.invokevirtual 163, 3) := by decide +kernel
theorem dX9_cursor_125 : decode cX9_cursor 125 = .ok (.ireturn, 1) := by decide +kernel
theorem dX9_where_0 : decode cX9_where 0 = .ok (.iload_n 1, 1) := by decide +kernel
theorem dX9_where_1 : decode cX9_where 1 = .ok (.invokestatic 147, 3) := by decide +kernel
theorem dX9_where_4 : decode cX9_where 4 = .ok (.ifCond .eq 25, 3) := by decide +kernel
theorem dX9_where_7 : decode cX9_where 7 = .ok (.iload_n 2, 1) := by decide +kernel
theorem dX9_where_8 : decode cX9_where 8 = .ok (.ifCond .lt 21, 3) := by decide +kernel
theorem dX9_where_11 : decode cX9_where 11 = .ok (.iload_n 2, 1) := by decide +kernel
theorem dX9_where_12 : decode cX9_where 12 = .ok (.iconst 3, 1) := by decide +kernel
theorem dX9_where_13 : decode cX9_where 13 = .ok (.if_icmp .ge 16, 3) := by decide +kernel
theorem dX9_where_16 : decode cX9_where 16 = .ok (.aload_n 0, 1) := by decide +kernel
theorem dX9_where_17 : decode cX9_where 17 = .ok (.getfield 44, 3) := by decide +kernel
theorem dX9_where_20 : decode cX9_where 20 = .ok (.iconst 3, 1) := by decide +kernel
theorem dX9_where_21 : decode cX9_where 21 = .ok (.iload_n 1, 1) := by decide +kernel
theorem dX9_where_22 : decode cX9_where 22 = .ok (.imul, 1) := by decide +kernel
theorem dX9_where_23 : decode cX9_where 23 = .ok (.iload_n 2, 1) := by decide +kernel
theorem dX9_where_24 : decode cX9_where 24 = .ok (.iadd, 1) := by decide +kernel
theorem dX9_where_25 : decode cX9_where 25 = .ok (.iaload, 1) := by decide +kernel
theorem dX9_where_26 : decode cX9_where 26 = .ok (.ifCond .ge 5, 3) := by decide +kernel
theorem dX9_where_29 : decode cX9_where 29 = .ok (.iconst (-1), 1) := by decide +kernel
theorem dX9_where_30 : decode cX9_where 30 = .ok (.ireturn, 1) := by decide +kernel
theorem dX9_where_31 : decode cX9_where 31 = .ok (.aload_n 0, 1) := by decide +kernel
theorem dX9_where_32 : decode cX9_where 32 = .ok (.iload_n 1, 1) := by decide +kernel
theorem dX9_where_33 : decode cX9_where 33 = .ok (.invokevirtual 153, 3) := by decide +kernel
theorem dX9_where_36 : decode cX9_where 36 = .ok (.istore_n 3, 1) := by decide +kernel
theorem dX9_where_37 : decode cX9_where 37 = .ok (.aload_n 0, 1) := by decide +kernel
theorem dX9_where_38 : decode cX9_where 38 = .ok (.getfield 41, 3) := by decide +kernel
theorem dX9_where_41 : decode cX9_where 41 = .ok (.iconst 3, 1) := by decide +kernel
theorem dX9_where_42 : decode cX9_where 42 = .ok (.iload_n 1, 1) := by decide +kernel
theorem dX9_where_43 : decode cX9_where 43 = .ok (.imul, 1) := by decide +kernel
theorem dX9_where_44 : decode cX9_where 44 = .ok (.iload_n 2, 1) := by decide +kernel
theorem dX9_where_45 : decode cX9_where 45 = .ok (.iadd, 1) := by decide +kernel
theorem dX9_where_46 : decode cX9_where 46 = .ok (.iaload, 1) := by decide +kernel
theorem dX9_where_47 : decode cX9_where 47 = .ok (.istore 4, 2) := by decide +kernel
theorem dX9_where_49 : decode cX9_where 49 = .ok (.aload_n 0, 1) := by decide +kernel
theorem dX9_where_50 : decode cX9_where 50 = .ok (.getfield 44, 3) := by decide +kernel
theorem dX9_where_53 : decode cX9_where 53 = .ok (.iconst 3, 1) := by decide +kernel
theorem dX9_where_54 : decode cX9_where 54 = .ok (.iload_n 1, 1) := by decide +kernel
theorem dX9_where_55 : decode cX9_where 55 = .ok (.imul, 1) := by decide +kernel
theorem dX9_where_56 : decode cX9_where 56 = .ok (.iload_n 2, 1) := by decide +kernel
theorem dX9_where_57 : decode cX9_where 57 = .ok (.iadd, 1) := by decide +kernel
theorem dX9_where_58 : decode cX9_where 58 = .ok (.iaload, 1) := by decide +kernel
theorem dX9_where_59 : decode cX9_where 59 = .ok (.istore 5, 2) := by decide +kernel
theorem dX9_where_61 : decode cX9_where 61 = .ok (.iload 4, 2) := by decide +kernel
theorem dX9_where_63 : decode cX9_where 63 = .ok (.bipush (-2), 2) := by decide +kernel
theorem dX9_where_65 : decode cX9_where 65 = .ok (.if_icmp .ne 14, 3) := by decide +kernel
theorem dX9_where_68 : decode cX9_where 68 = .ok (.iload 5, 2) := by decide +kernel
theorem dX9_where_70 : decode cX9_where 70 = .ok (.ifCond .ne 7, 3) := by decide +kernel
theorem dX9_where_73 : decode cX9_where 73 = .ok (.iconst 0, 1) := by decide +kernel
theorem dX9_where_74 : decode cX9_where 74 = .ok (.goto 4, 3) := by decide +kernel
theorem dX9_where_77 : decode cX9_where 77 = .ok (.iload_n 3, 1) := by decide +kernel
theorem dX9_where_78 : decode cX9_where 78 = .ok (.ireturn, 1) := by decide +kernel
theorem dX9_where_79 : decode cX9_where 79 = .ok (.aload_n 0, 1) := by decide +kernel
theorem dX9_where_80 : decode cX9_where 80 = .ok (.iload 4, 2) := by decide +kernel
theorem dX9_where_82 : decode cX9_where 82 = .ok (.invokevirtual 138, 3) := by decide +kernel
theorem dX9_where_85 : decode cX9_where 85 = .ok (.istore 6, 2) := by decide +kernel
theorem dX9_where_87 : decode cX9_where 87 = .ok (.iload 5, 2) := by decide +kernel
theorem dX9_where_89 : decode cX9_where 89 = .ok (.ifCond .ne 14, 3) := by decide +kernel
theorem dX9_where_92 : decode cX9_where 92 = .ok (.aload_n 0, 1) := by decide +kernel
theorem dX9_where_93 : decode cX9_where 93 = .ok (.iload 6, 2) := by decide +kernel
theorem dX9_where_95 : decode cX9_where 95 = .ok (.iconst 1, 1) := by decide +kernel
theorem dX9_where_96 : decode cX9_where 96 = .ok (.iadd, 1) := by decide +kernel
theorem dX9_where_97 : decode cX9_where 97 = .ok (.invokevirtual 182, 3) := by decide +kernel
theorem dX9_where_100 : decode cX9_where 100 = .ok (.goto 9, 3) := by decide +kernel
theorem dX9_where_103 : decode cX9_where 103 = .ok (.aload_n 0, 1) := by decide +kernel
theorem dX9_where_104 : decode cX9_where 104 = .ok (.iload 6, 2) := by decide +kernel
theorem dX9_where_106 : decode cX9_where 106 = .ok (.invokevirtual 182, 3) := by decide +kernel
theorem dX9_where_109 : decode cX9_where 109 = .ok (.ireturn, 1) := by decide +kernel
theorem dX9_status_0 : decode cX9_status 0 = .ok (.aload_n 0, 1) := by decide +kernel
theorem dX9_status_1 : decode cX9_status 1 = .ok (.getfield 80, 3) := by decide +kernel
theorem dX9_status_4 : decode cX9_status 4 = .ok (.ireturn, 1) := by decide +kernel
theorem dJ9_max_7cf53_0 : decode cJ9_max_7cf53 0 = .ok (.iload_n 0, 1) := by decide +kernel
theorem dJ9_max_7cf53_1 : decode cJ9_max_7cf53 1 = .ok (.iload_n 1, 1) := by decide +kernel
theorem dJ9_max_7cf53_2 : decode cJ9_max_7cf53 2 = .ok (.if_icmp .lt 7, 3) := by decide +kernel
theorem dJ9_max_7cf53_5 : decode cJ9_max_7cf53 5 = .ok (.iload_n 0, 1) := by decide +kernel
theorem dJ9_max_7cf53_6 : decode cJ9_max_7cf53 6 = .ok (.goto 4, 3) := by decide +kernel
theorem dJ9_max_7cf53_9 : decode cJ9_max_7cf53 9 = .ok (.iload_n 1, 1) := by decide +kernel
theorem dJ9_max_7cf53_10 : decode cJ9_max_7cf53 10 = .ok (.ireturn, 1) := by decide +kernel
theorem dJ9_min_7cf53_0 : decode cJ9_min_7cf53 0 = .ok (.iload_n 0, 1) := by decide +kernel
theorem dJ9_min_7cf53_1 : decode cJ9_min_7cf53 1 = .ok (.iload_n 1, 1) := by decide +kernel
theorem dJ9_min_7cf53_2 : decode cJ9_min_7cf53 2 = .ok (.if_icmp .gt 7, 3) := by decide +kernel
theorem dJ9_min_7cf53_5 : decode cJ9_min_7cf53 5 = .ok (.iload_n 0, 1) := by decide +kernel
theorem dJ9_min_7cf53_6 : decode cJ9_min_7cf53 6 = .ok (.goto 4, 3) := by decide +kernel
theorem dJ9_min_7cf53_9 : decode cJ9_min_7cf53 9 = .ok (.iload_n 1, 1) := by decide +kernel
theorem dJ9_min_7cf53_10 : decode cJ9_min_7cf53 10 = .ok (.ireturn, 1) := by decide +kernel
theorem dJ7_fill_53178_0 : decode cJ7_fill_53178 0 = .ok (.iconst 0, 1) := by decide +kernel
theorem dJ7_fill_53178_1 : decode cJ7_fill_53178 1 = .ok (.istore_n 2, 1) := by decide +kernel
theorem dJ7_fill_53178_2 : decode cJ7_fill_53178 2 = .ok (.aload_n 0, 1) := by decide +kernel
theorem dJ7_fill_53178_3 : decode cJ7_fill_53178 3 = .ok (.arraylength, 1) := by decide +kernel
theorem dJ7_fill_53178_4 : decode cJ7_fill_53178 4 = .ok (.istore_n 3, 1) := by decide +kernel
theorem dJ7_fill_53178_5 : decode cJ7_fill_53178 5 = .ok (.iload_n 2, 1) := by decide +kernel
theorem dJ7_fill_53178_6 : decode cJ7_fill_53178 6 = .ok (.iload_n 3, 1) := by decide +kernel
theorem dJ7_fill_53178_7 : decode cJ7_fill_53178 7 = .ok (.if_icmp .ge 13, 3) := by decide +kernel
theorem dJ7_fill_53178_10 : decode cJ7_fill_53178 10 = .ok (.aload_n 0, 1) := by decide +kernel
theorem dJ7_fill_53178_11 : decode cJ7_fill_53178 11 = .ok (.iload_n 2, 1) := by decide +kernel
theorem dJ7_fill_53178_12 : decode cJ7_fill_53178 12 = .ok (.iload_n 1, 1) := by decide +kernel
theorem dJ7_fill_53178_13 : decode cJ7_fill_53178 13 = .ok (.iastore, 1) := by decide +kernel
theorem dJ7_fill_53178_14 : decode cJ7_fill_53178 14 = .ok (.iinc 2 1, 3) := by decide +kernel
theorem dJ7_fill_53178_17 : decode cJ7_fill_53178 17 = .ok (.goto (-12), 3) := by decide +kernel
theorem dJ7_fill_53178_20 : decode cJ7_fill_53178 20 = .ok (.return_, 1) := by decide +kernel
theorem dJ7_copyOf_59c91_0 : decode cJ7_copyOf_59c91 0 = .ok (.iload_n 1, 1) := by decide +kernel
theorem dJ7_copyOf_59c91_1 : decode cJ7_copyOf_59c91 1 = .ok (.aload_n 0, 1) := by decide +kernel
theorem dJ7_copyOf_59c91_2 : decode cJ7_copyOf_59c91 2 = .ok (.arraylength, 1) := by decide +kernel
theorem dJ7_copyOf_59c91_3 : decode cJ7_copyOf_59c91 3 = .ok (.if_icmp .ne 11, 3) := by decide +kernel
theorem dJ7_copyOf_59c91_6 : decode cJ7_copyOf_59c91 6 = .ok (.aload_n 0, 1) := by decide +kernel
theorem dJ7_copyOf_59c91_7 : decode cJ7_copyOf_59c91 7 = .ok (.invokevirtual 316, 3) := by decide +kernel
theorem dJ7_copyOf_59c91_10 : decode cJ7_copyOf_59c91 10 = .ok (.checkcast 317, 3) := by decide +kernel
theorem dJ7_copyOf_59c91_13 : decode cJ7_copyOf_59c91 13 = .ok (.areturn, 1) := by decide +kernel
theorem dJ7_copyOf_59c91_14 : decode cJ7_copyOf_59c91 14 = .ok (.iload_n 1, 1) := by decide +kernel
theorem dJ7_copyOf_59c91_15 : decode cJ7_copyOf_59c91 15 = .ok (.newarray .int, 2) := by decide +kernel
theorem dJ7_copyOf_59c91_17 : decode cJ7_copyOf_59c91 17 = .ok (.astore_n 2, 1) := by decide +kernel
theorem dJ7_copyOf_59c91_18 : decode cJ7_copyOf_59c91 18 = .ok (.aload_n 0, 1) := by decide +kernel
theorem dJ7_copyOf_59c91_19 : decode cJ7_copyOf_59c91 19 = .ok (.iconst 0, 1) := by decide +kernel
theorem dJ7_copyOf_59c91_20 : decode cJ7_copyOf_59c91 20 = .ok (.aload_n 2, 1) := by decide +kernel
theorem dJ7_copyOf_59c91_21 : decode cJ7_copyOf_59c91 21 = .ok (.iconst 0, 1) := by decide +kernel
theorem dJ7_copyOf_59c91_22 : decode cJ7_copyOf_59c91 22 = .ok (.aload_n 0, 1) := by decide +kernel
theorem dJ7_copyOf_59c91_23 : decode cJ7_copyOf_59c91 23 = .ok (.arraylength, 1) := by decide +kernel
theorem dJ7_copyOf_59c91_24 : decode cJ7_copyOf_59c91 24 = .ok (.iload_n 1, 1) := by decide +kernel
theorem dJ7_copyOf_59c91_25 : decode cJ7_copyOf_59c91 25 = .ok (.invokestatic 304, 3) := by decide +kernel
theorem dJ7_copyOf_59c91_28 : decode cJ7_copyOf_59c91 28 = .ok (.invokestatic 150, 3) := by decide +kernel
theorem dJ7_copyOf_59c91_31 : decode cJ7_copyOf_59c91 31 = .ok (.aload_n 2, 1) := by decide +kernel
theorem dJ7_copyOf_59c91_32 : decode cJ7_copyOf_59c91 32 = .ok (.areturn, 1) := by decide +kernel
end
section
theorem dX0_init_0 : decode cX0_init 0 = .ok (.aload_n 0, 1) := by decide +kernel
theorem dX0_init_1 : decode cX0_init 1 = .ok (.invokespecial 3, 3) := by decide +kernel
theorem dX0_init_4 : decode cX0_init 4 = .ok (.aload_n 0, 1) := by decide +kernel
theorem dX0_init_5 : decode cX0_init 5 = .ok (.sipush 256, 3) := by decide +kernel
theorem dX0_init_8 : decode cX0_init 8 = .ok (.anewarray 9, 3) := by decide +kernel
theorem dX0_init_11 : decode cX0_init 11 = .ok (.putfield 11, 3) := by decide +kernel
theorem dX0_init_14 : decode cX0_init 14 = .ok (.aload_n 0, 1) := by decide +kernel
theorem dX0_init_15 : decode cX0_init 15 = .ok (.sipush 256, 3) := by decide +kernel
theorem dX0_init_18 : decode cX0_init 18 = .ok (.anewarray 9, 3) := by decide +kernel
theorem dX0_init_21 : decode cX0_init 21 = .ok (.putfield 17, 3) := by decide +kernel
theorem dX0_init_24 : decode cX0_init 24 = .ok (.aload_n 0, 1) := by decide +kernel
theorem dX0_init_25 : decode cX0_init 25 = .ok (.sipush 768, 3) := by decide +kernel
theorem dX0_init_28 : decode cX0_init 28 = .ok (.newarray .int, 2) := by decide +kernel
theorem dX0_init_30 : decode cX0_init 30 = .ok (.putfield 20, 3) := by decide +kernel
theorem dX0_init_33 : decode cX0_init 33 = .ok (.return_, 1) := by decide +kernel
theorem dX0_isFull_0 : decode cX0_isFull 0 = .ok (.aload_n 0, 1) := by decide +kernel
theorem dX0_isFull_1 : decode cX0_isFull 1 = .ok (.getfield 24, 3) := by decide +kernel
theorem dX0_isFull_4 : decode cX0_isFull 4 = .ok (.sipush 256, 3) := by decide +kernel
theorem dX0_isFull_7 : decode cX0_isFull 7 = .ok (.if_icmp .lt 7, 3) := by decide +kernel
theorem dX0_isFull_10 : decode cX0_isFull 10 = .ok (.iconst 1, 1) := by decide +kernel
theorem dX0_isFull_11 : decode cX0_isFull 11 = .ok (.goto 4, 3) := by decide +kernel
theorem dX0_isFull_14 : decode cX0_isFull 14 = .ok (.iconst 0, 1) := by decide +kernel
theorem dX0_isFull_15 : decode cX0_isFull 15 = .ok (.ireturn, 1) := by decide +kernel
theorem dX0_find_0 : decode cX0_find 0 = .ok (.iload_n 1, 1) := by decide +kernel
theorem dX0_find_1 : decode cX0_find 1 = .ok (.ifCond .lt 20, 3) := by decide +kernel
theorem dX0_find_4 : decode cX0_find 4 = .ok (.iload_n 1, 1) := by decide +kernel
theorem dX0_find_5 : decode cX0_find 5 = .ok (.aload_n 0, 1) := by decide +kernel
theorem dX0_find_6 : decode cX0_find 6 = .ok (.getfield 24, 3) := by decide +kernel
theorem dX0_find_9 : decode cX0_find 9 = .ok (.if_icmp .ge 12, 3) := by decide +kernel
theorem dX0_find_12 : decode cX0_find 12 = .ok (.aload_n 0, 1) := by decide +kernel
theorem dX0_find_13 : decode cX0_find 13 = .ok (.getfield 11, 3) := by decide +kernel
theorem dX0_find_16 : decode cX0_find 16 = .ok (.iload_n 1, 1) := by decide +kernel
theorem dX0_find_17 : decode cX0_find 17 = .ok (.aaload, 1) := by decide +kernel
theorem dX0_find_18 : decode cX0_find 18 = .ok (.goto 4, 3) := by decide +kernel
theorem dX0_find_21 : decode cX0_find 21 = .ok (.aconst_null, 1) := by decide +kernel
theorem dX0_find_22 : decode cX0_find 22 = .ok (.areturn, 1) := by decide +kernel
theorem dX0_add_0 : decode cX0_add 0 = .ok (.aload_n 0, 1) := by decide +kernel
theorem dX0_add_1 : decode cX0_add 1 = .ok (.invokevirtual 28, 3) := by decide +kernel
theorem dX0_add_4 : decode cX0_add 4 = .ok (.ifCond .eq 4, 3) := by decide +kernel
theorem dX0_add_7 : decode cX0_add 7 = .ok (.return_, 1) := by decide +kernel
theorem dX0_add_8 : decode cX0_add 8 = .ok (.aload_n 0, 1) := by decide +kernel
theorem dX0_add_9 : decode cX0_add 9 = .ok (.getfield 11, 3) := by decide +kernel
theorem dX0_add_12 : decode cX0_add 12 = .ok (.aload_n 0, 1) := by decide +kernel
theorem dX0_add_13 : decode cX0_add 13 = .ok (.getfield 24, 3) := by decide +kernel
theorem dX0_add_16 : decode cX0_add 16 = .ok (.aload_n 1, 1) := by decide +kernel
theorem dX0_add_17 : decode cX0_add 17 = .ok (.aastore, 1) := by decide +kernel
theorem dX0_add_18 : decode cX0_add 18 = .ok (.aload_n 0, 1) := by decide +kernel
theorem dX0_add_19 : decode cX0_add 19 = .ok (.aload_n 1, 1) := by decide +kernel
theorem dX0_add_20 : decode cX0_add 20 = .ok (.invokevirtual 32, 3) := by decide +kernel
theorem dX0_add_23 : decode cX0_add 23 = .ok (.aload_n 0, 1) := by decide +kernel
theorem dX0_add_24 : decode cX0_add 24 = .ok (.dup, 1) := by decide +kernel
theorem dX0_add_25 : decode cX0_add 25 = .ok (.getfield 24, 3) := by decide +kernel
theorem dX0_add_28 : decode cX0_add 28 = .ok (.iconst 1, 1) := by decide +kernel
theorem dX0_add_29 : decode cX0_add 29 = .ok (.iadd, 1) := by decide +kernel
theorem dX0_add_30 : decode cX0_add 30 = .ok (.putfield 24, 3) := by decide +kernel
theorem dX0_add_33 : decode cX0_add 33 = .ok (.aload_n 1, 1) := by decide +kernel
theorem dX0_add_34 : decode cX0_add 34 = .ok (.instanceof 36, 3) := by decide +kernel
theorem dX0_add_37 : decode cX0_add 37 = .ok (.ifCond .eq 13, 3) := by decide +kernel
theorem dX0_add_40 : decode cX0_add 40 = .ok (.aload_n 1, 1) := by decide +kernel
theorem dX0_add_41 : decode cX0_add 41 = .ok (.checkcast 36, 3) := by decide +kernel
theorem dX0_add_44 : decode cX0_add 44 = .ok (.astore_n 2, 1) := by decide +kernel
theorem dX0_add_45 : decode cX0_add 45 = .ok (.aload_n 0, 1) := by decide +kernel
theorem dX0_add_46 : decode cX0_add 46 = .ok (.aload_n 2, 1) := by decide +kernel
theorem dX0_add_47 : decode cX0_add 47 = .ok (.invokevirtual 38, 3) := by decide +kernel
theorem dX0_add_50 : decode cX0_add 50 = .ok (.return_, 1) := by decide +kernel
theorem dX0_codeOf_0 : decode cX0_codeOf 0 = .ok (.aload_n 0, 1) := by decide +kernel
theorem dX0_codeOf_1 : decode cX0_codeOf 1 = .ok (.iload_n 1, 1) := by decide +kernel
theorem dX0_codeOf_2 : decode cX0_codeOf 2 = .ok (.invokestatic 42, 3) := by decide +kernel
theorem dX0_codeOf_5 : decode cX0_codeOf 5 = .ok (.invokevirtual 46, 3) := by decide +kernel
theorem dX0_codeOf_8 : decode cX0_codeOf 8 = .ok (.astore_n 3, 1) := by decide +kernel
theorem dX0_codeOf_9 : decode cX0_codeOf 9 = .ok (.aload_n 3, 1) := by decide +kernel
theorem dX0_codeOf_10 : decode cX0_codeOf 10 = .ok (.instanceof 36, 3) := by decide +kernel
theorem dX0_codeOf_13 : decode cX0_codeOf 13 = .ok (.ifCond .eq 32, 3) := by decide +kernel
theorem dX0_codeOf_16 : decode cX0_codeOf 16 = .ok (.aload_n 3, 1) := by decide +kernel
theorem dX0_codeOf_17 : decode cX0_codeOf 17 = .ok (.checkcast 36, 3) := by decide +kernel
theorem dX0_codeOf_20 : decode cX0_codeOf 20 = .ok (.astore_n 2, 1) := by decide +kernel
theorem dX0_codeOf_21 : decode cX0_codeOf 21 = .ok (.iload_n 1, 1) := by decide +kernel
theorem dX0_codeOf_22 : decode cX0_codeOf 22 = .ok (.iconst 4, 1) := by decide +kernel
theorem dX0_codeOf_23 : decode cX0_codeOf 23 = .ok (.irem, 1) := by decide +kernel
theorem dX0_codeOf_24 : decode cX0_codeOf 24 = .ok (.istore_n 3, 1) := by decide +kernel
theorem dX0_codeOf_25 : decode cX0_codeOf 25 = .ok (.iload_n 3, 1) := by decide +kernel
theorem dX0_codeOf_26 : decode cX0_codeOf 26 = .ok (.aload_n 2, 1) := by decide +kernel
theorem dX0_codeOf_27 : decode cX0_codeOf 27 = .ok (.getfield 50, 3) := by decide +kernel
theorem dX0_codeOf_30 : decode cX0_codeOf 30 = .ok (.arraylength, 1) := by decide +kernel
theorem dX0_codeOf_31 : decode cX0_codeOf 31 = .ok (.if_icmp .ge 12, 3) := by decide +kernel
theorem dX0_codeOf_34 : decode cX0_codeOf 34 = .ok (.aload_n 2, 1) := by decide +kernel
theorem dX0_codeOf_35 : decode cX0_codeOf 35 = .ok (.getfield 50, 3) := by decide +kernel
theorem dX0_codeOf_38 : decode cX0_codeOf 38 = .ok (.iload_n 3, 1) := by decide +kernel
theorem dX0_codeOf_39 : decode cX0_codeOf 39 = .ok (.iaload, 1) := by decide +kernel
theorem dX0_codeOf_40 : decode cX0_codeOf 40 = .ok (.goto 4, 3) := by decide +kernel
theorem dX0_codeOf_43 : decode cX0_codeOf 43 = .ok (.iconst (-1), 1) := by decide +kernel
theorem dX0_codeOf_44 : decode cX0_codeOf 44 = .ok (.ireturn, 1) := by decide +kernel
theorem dX0_codeOf_45 : decode cX0_codeOf 45 = .ok (.iconst (-1), 1) := by decide +kernel
theorem dX0_codeOf_46 : decode cX0_codeOf 46 = .ok (.ireturn, 1) := by decide +kernel
theorem dX0_penOf_0 : decode cX0_penOf 0 = .ok (.aload_n 0, 1) := by decide +kernel
theorem dX0_penOf_1 : decode cX0_penOf 1 = .ok (.iload_n 1, 1) := by decide +kernel
theorem dX0_penOf_2 : decode cX0_penOf 2 = .ok (.invokestatic 42, 3) := by decide +kernel
theorem dX0_penOf_5 : decode cX0_penOf 5 = .ok (.invokevirtual 46, 3) := by decide +kernel
theorem dX0_penOf_8 : decode cX0_penOf 8 = .ok (.astore_n 2, 1) := by decide +kernel
theorem dX0_penOf_9 : decode cX0_penOf 9 = .ok (.aload_n 2, 1) := by decide +kernel
theorem dX0_penOf_10 : decode cX0_penOf 10 = .ok (.ifnonnull 7, 3) := by decide +kernel
theorem dX0_penOf_13 : decode cX0_penOf 13 = .ok (.iconst (-1), 1) := by decide +kernel
theorem dX0_penOf_14 : decode cX0_penOf 14 = .ok (.goto 7, 3) := by decide +kernel
theorem dX0_penOf_17 : decode cX0_penOf 17 = .ok (.aload_n 2, 1) := by decide +kernel
theorem dX0_penOf_18 : decode cX0_penOf 18 = .ok (.getfield 53, 3) := by decide +kernel
theorem dX0_penOf_21 : decode cX0_penOf 21 = .ok (.ireturn, 1) := by decide +kernel
theorem dX0_insertByAge_0 : decode cX0_insertByAge 0 = .ok (.aload_n 0, 1) := by decide +kernel
theorem dX0_insertByAge_1 : decode cX0_insertByAge 1 = .ok (.getfield 24, 3) := by decide +kernel
theorem dX0_insertByAge_4 : decode cX0_insertByAge 4 = .ok (.istore_n 2, 1) := by decide +kernel
theorem dX0_insertByAge_5 : decode cX0_insertByAge 5 = .ok (.iload_n 2, 1) := by decide +kernel
theorem dX0_insertByAge_6 : decode cX0_insertByAge 6 = .ok (.ifCond .le 38, 3) := by decide +kernel
theorem dX0_insertByAge_9 : decode cX0_insertByAge 9 = .ok (.aload_n 0, 1) := by decide +kernel
theorem dX0_insertByAge_10 : decode cX0_insertByAge 10 = .ok (.getfield 17, 3) := by decide +kernel
theorem dX0_insertByAge_13 : decode cX0_insertByAge 13 = .ok (.iload_n 2, 1) := by decide +kernel
theorem dX0_insertByAge_14 : decode cX0_insertByAge 14 = .ok (.iconst 1, 1) := by decide +kernel
theorem dX0_insertByAge_15 : decode cX0_insertByAge 15 = .ok (.isub, 1) := by decide +kernel
theorem dX0_insertByAge_16 : decode cX0_insertByAge 16 = .ok (.aaload, 1) := by decide +kernel
theorem dX0_insertByAge_17 : decode cX0_insertByAge 17 = .ok (.aload_n 1, 1) := by decide +kernel
theorem dX0_insertByAge_18 : decode cX0_insertByAge 18 = .ok (.invokevirtual 56, 3) := by decide +kernel
theorem dX0_insertByAge_21 : decode cX0_insertByAge 21 = .ok (.ifCond .eq 23, 3) := by decide +kernel
theorem dX0_insertByAge_24 : decode cX0_insertByAge 24 = .ok (.aload_n 0, 1) := by decide +kernel
theorem dX0_insertByAge_25 : decode cX0_insertByAge 25 = .ok (.getfield 17, 3) := by decide +kernel
theorem dX0_insertByAge_28 : decode cX0_insertByAge 28 = .ok (.iload_n 2, 1) := by decide +kernel
theorem dX0_insertByAge_29 : decode cX0_insertByAge 29 = .ok (.aload_n 0, 1) := by decide +kernel
theorem dX0_insertByAge_30 : decode cX0_insertByAge 30 = .ok (.getfield 17, 3) := by decide +kernel
theorem dX0_insertByAge_33 : decode cX0_insertByAge 33 = .ok (.iload_n 2, 1) := by decide +kernel
theorem dX0_insertByAge_34 : decode cX0_insertByAge 34 = .ok (.iconst 1, 1) := by decide +kernel
theorem dX0_insertByAge_35 : decode cX0_insertByAge 35 = .ok (.isub, 1) := by decide +kernel
theorem dX0_insertByAge_36 : decode cX0_insertByAge 36 = .ok (.aaload, 1) := by decide +kernel
theorem dX0_insertByAge_37 : decode cX0_insertByAge 37 = .ok (.aastore, 1) := by decide +kernel
theorem dX0_insertByAge_38 : decode cX0_insertByAge 38 = .ok (.iinc 2 (-1), 3) := by decide +kernel
theorem dX0_insertByAge_41 : decode cX0_insertByAge 41 = .ok (.goto (-36), 3) := by decide +kernel
theorem dX0_insertByAge_44 : decode cX0_insertByAge 44 = .ok (.aload_n 0, 1) := by decide +kernel
theorem dX0_insertByAge_45 : decode cX0_insertByAge 45 = .ok (.getfield 17, 3) := by decide +kernel
theorem dX0_insertByAge_48 : decode cX0_insertByAge 48 = .ok (.iload_n 2, 1) := by decide +kernel
theorem dX0_insertByAge_49 : decode cX0_insertByAge 49 = .ok (.aload_n 1, 1) := by decide +kernel
theorem dX0_insertByAge_50 : decode cX0_insertByAge 50 = .ok (.aastore, 1) := by decide +kernel
theorem dX0_insertByAge_51 : decode cX0_insertByAge 51 = .ok (.return_, 1) := by decide +kernel
theorem dX0_insertSigns_0 : decode cX0_insertSigns 0 = .ok (.aload_n 1, 1) := by decide +kernel
theorem dX0_insertSigns_1 : decode cX0_insertSigns 1 = .ok (.getfield 50, 3) := by decide +kernel
theorem dX0_insertSigns_4 : decode cX0_insertSigns 4 = .ok (.arraylength, 1) := by decide +kernel
theorem dX0_insertSigns_5 : decode cX0_insertSigns 5 = .ok (.istore_n 2, 1) := by decide +kernel
theorem dX0_insertSigns_6 : decode cX0_insertSigns 6 = .ok (.aload_n 0, 1) := by decide +kernel
theorem dX0_insertSigns_7 : decode cX0_insertSigns 7 = .ok (.aload_n 1, 1) := by decide +kernel
theorem dX0_insertSigns_8 : decode cX0_insertSigns 8 = .ok (.invokevirtual 60, 3) := by decide +kernel
theorem dX0_insertSigns_11 : decode cX0_insertSigns 11 = .ok (.istore_n 3, 1) := by decide +kernel
theorem dX0_insertSigns_12 : decode cX0_insertSigns 12 = .ok (.aload_n 0, 1) := by decide +kernel
theorem dX0_insertSigns_13 : decode cX0_insertSigns 13 = .ok (.getfield 64, 3) := by decide +kernel
theorem dX0_insertSigns_16 : decode cX0_insertSigns 16 = .ok (.iconst 1, 1) := by decide +kernel
theorem dX0_insertSigns_17 : decode cX0_insertSigns 17 = .ok (.isub, 1) := by decide +kernel
theorem dX0_insertSigns_18 : decode cX0_insertSigns 18 = .ok (.istore 4, 2) := by decide +kernel
theorem dX0_insertSigns_20 : decode cX0_insertSigns 20 = .ok (.iload 4, 2) := by decide +kernel
theorem dX0_insertSigns_22 : decode cX0_insertSigns 22 = .ok (.iload_n 3, 1) := by decide +kernel
theorem dX0_insertSigns_23 : decode cX0_insertSigns 23 = .ok (.if_icmp .lt 25, 3) := by decide +kernel
theorem dX0_insertSigns_26 : decode cX0_insertSigns 26 = .ok (.aload_n 0, 1) := by decide +kernel
theorem dX0_insertSigns_27 : decode cX0_insertSigns 27 = .ok (.getfield 20, 3) := by decide +kernel
theorem dX0_insertSigns_30 : decode cX0_insertSigns 30 = .ok (.iload 4, 2) := by decide +kernel
theorem dX0_insertSigns_32 : decode cX0_insertSigns 32 = .ok (.iload_n 2, 1) := by decide +kernel
theorem dX0_insertSigns_33 : decode cX0_insertSigns 33 = .ok (.iadd, 1) := by decide +kernel
theorem dX0_insertSigns_34 : decode cX0_insertSigns 34 = .ok (.aload_n 0, 1) := by decide +kernel
theorem dX0_insertSigns_35 : decode cX0_insertSigns 35 = .ok (.getfield 20, 3) := by decide +kernel
theorem dX0_insertSigns_38 : decode cX0_insertSigns 38 = .ok (.iload 4, 2) := by decide +kernel
theorem dX0_insertSigns_40 : decode cX0_insertSigns 40 = .ok (.iaload, 1) := by decide +kernel
theorem dX0_insertSigns_41 : decode cX0_insertSigns 41 = .ok (.iastore, 1) := by decide +kernel
theorem dX0_insertSigns_42 : decode cX0_insertSigns 42 = .ok (.iinc 4 (-1), 3) := by decide +kernel
theorem dX0_insertSigns_45 : decode cX0_insertSigns 45 = .ok (.goto (-25), 3) := by decide +kernel
theorem dX0_insertSigns_48 : decode cX0_insertSigns 48 = .ok (.iconst 0, 1) := by decide +kernel
theorem dX0_insertSigns_49 : decode cX0_insertSigns 49 = .ok (.istore 4, 2) := by decide +kernel
theorem dX0_insertSigns_51 : decode cX0_insertSigns 51 = .ok (.iload 4, 2) := by decide +kernel
theorem dX0_insertSigns_53 : decode cX0_insertSigns 53 = .ok (.iload_n 2, 1) := by decide +kernel
theorem dX0_insertSigns_54 : decode cX0_insertSigns 54 = .ok (.if_icmp .ge 24, 3) := by decide +kernel
theorem dX0_insertSigns_57 : decode cX0_insertSigns 57 = .ok (.aload_n 0, 1) := by decide +kernel
theorem dX0_insertSigns_58 : decode cX0_insertSigns 58 = .ok (.getfield 20, 3) := by decide +kernel
theorem dX0_insertSigns_61 : decode cX0_insertSigns 61 = .ok (.iload_n 3, 1) := by decide +kernel
theorem dX0_insertSigns_62 : decode cX0_insertSigns 62 = .ok (.iload 4, 2) := by decide +kernel
theorem dX0_insertSigns_64 : decode cX0_insertSigns 64 = .ok (.iadd, 1) := by decide +kernel
theorem dX0_insertSigns_65 : decode cX0_insertSigns 65 = .ok (.aload_n 1, 1) := by decide +kernel
theorem dX0_insertSigns_66 : decode cX0_insertSigns 66 = .ok (.iload 4, 2) := by decide +kernel
theorem dX0_insertSigns_68 : decode cX0_insertSigns 68 = .ok (.invokevirtual 67, 3) := by decide +kernel
theorem dX0_insertSigns_71 : decode cX0_insertSigns 71 = .ok (.iastore, 1) := by decide +kernel
theorem dX0_insertSigns_72 : decode cX0_insertSigns 72 = .ok (.iinc 4 1, 3) := by decide +kernel
theorem dX0_insertSigns_75 : decode cX0_insertSigns 75 = .ok (.goto (-24), 3) := by decide +kernel
theorem dX0_insertSigns_78 : decode cX0_insertSigns 78 = .ok (.aload_n 0, 1) := by decide +kernel
theorem dX0_insertSigns_79 : decode cX0_insertSigns 79 = .ok (.dup, 1) := by decide +kernel
theorem dX0_insertSigns_80 : decode cX0_insertSigns 80 = .ok (.getfield 64, 3) := by decide +kernel
theorem dX0_insertSigns_83 : decode cX0_insertSigns 83 = .ok (.iload_n 2, 1) := by decide +kernel
theorem dX0_insertSigns_84 : decode cX0_insertSigns 84 = .ok (.iadd, 1) := by decide +kernel
theorem dX0_insertSigns_85 : decode cX0_insertSigns 85 = .ok (.putfield 64, 3) := by decide +kernel
theorem dX0_insertSigns_88 : decode cX0_insertSigns 88 = .ok (.return_, 1) := by decide +kernel
theorem dX0_spotFor_0 : decode cX0_spotFor 0 = .ok (.iconst 0, 1) := by decide +kernel
theorem dX0_spotFor_1 : decode cX0_spotFor 1 = .ok (.istore_n 2, 1) := by decide +kernel
theorem dX0_spotFor_2 : decode cX0_spotFor 2 = .ok (.aload_n 1, 1) := by decide +kernel
theorem dX0_spotFor_3 : decode cX0_spotFor 3 = .ok (.getfield 70, 3) := by decide +kernel
theorem dX0_spotFor_6 : decode cX0_spotFor 6 = .ok (.bipush (-2), 2) := by decide +kernel
theorem dX0_spotFor_8 : decode cX0_spotFor 8 = .ok (.if_icmp .eq 41, 3) := by decide +kernel
theorem dX0_spotFor_11 : decode cX0_spotFor 11 = .ok (.iload_n 2, 1) := by decide +kernel
theorem dX0_spotFor_12 : decode cX0_spotFor 12 = .ok (.aload_n 0, 1) := by decide +kernel
theorem dX0_spotFor_13 : decode cX0_spotFor 13 = .ok (.getfield 64, 3) := by decide +kernel
theorem dX0_spotFor_16 : decode cX0_spotFor 16 = .ok (.if_icmp .ge 22, 3) := by decide +kernel
theorem dX0_spotFor_19 : decode cX0_spotFor 19 = .ok (.aload_n 0, 1) := by decide +kernel
theorem dX0_spotFor_20 : decode cX0_spotFor 20 = .ok (.getfield 20, 3) := by decide +kernel
theorem dX0_spotFor_23 : decode cX0_spotFor 23 = .ok (.iload_n 2, 1) := by decide +kernel
theorem dX0_spotFor_24 : decode cX0_spotFor 24 = .ok (.iaload, 1) := by decide +kernel
theorem dX0_spotFor_25 : decode cX0_spotFor 25 = .ok (.aload_n 1, 1) := by decide +kernel
theorem dX0_spotFor_26 : decode cX0_spotFor 26 = .ok (.getfield 70, 3) := by decide +kernel
theorem dX0_spotFor_29 : decode cX0_spotFor 29 = .ok (.if_icmp .eq 9, 3) := by decide +kernel
theorem dX0_spotFor_32 : decode cX0_spotFor 32 = .ok (.iinc 2 1, 3) := by decide +kernel
theorem dX0_spotFor_35 : decode cX0_spotFor 35 = .ok (.goto (-24), 3) := by decide +kernel
theorem dX0_spotFor_38 : decode cX0_spotFor 38 = .ok (.iload_n 2, 1) := by decide +kernel
theorem dX0_spotFor_39 : decode cX0_spotFor 39 = .ok (.iconst 1, 1) := by decide +kernel
theorem dX0_spotFor_40 : decode cX0_spotFor 40 = .ok (.iadd, 1) := by decide +kernel
theorem dX0_spotFor_41 : decode cX0_spotFor 41 = .ok (.aload_n 0, 1) := by decide +kernel
theorem dX0_spotFor_42 : decode cX0_spotFor 42 = .ok (.getfield 64, 3) := by decide +kernel
theorem dX0_spotFor_45 : decode cX0_spotFor 45 = .ok (.invokestatic 73, 3) := by decide +kernel
theorem dX0_spotFor_48 : decode cX0_spotFor 48 = .ok (.istore_n 2, 1) := by decide +kernel
theorem dX0_spotFor_49 : decode cX0_spotFor 49 = .ok (.iload_n 2, 1) := by decide +kernel
theorem dX0_spotFor_50 : decode cX0_spotFor 50 = .ok (.aload_n 0, 1) := by decide +kernel
theorem dX0_spotFor_51 : decode cX0_spotFor 51 = .ok (.getfield 64, 3) := by decide +kernel
theorem dX0_spotFor_54 : decode cX0_spotFor 54 = .ok (.if_icmp .ge 30, 3) := by decide +kernel
theorem dX0_spotFor_57 : decode cX0_spotFor 57 = .ok (.aload_n 0, 1) := by decide +kernel
theorem dX0_spotFor_58 : decode cX0_spotFor 58 = .ok (.getfield 11, 3) := by decide +kernel
theorem dX0_spotFor_61 : decode cX0_spotFor 61 = .ok (.aload_n 0, 1) := by decide +kernel
theorem dX0_spotFor_62 : decode cX0_spotFor 62 = .ok (.getfield 20, 3) := by decide +kernel
theorem dX0_spotFor_65 : decode cX0_spotFor 65 = .ok (.iload_n 2, 1) := by decide +kernel
theorem dX0_spotFor_66 : decode cX0_spotFor 66 = .ok (.iaload, 1) := by decide +kernel
theorem dX0_spotFor_67 : decode cX0_spotFor 67 = .ok (.invokestatic 42, 3) := by decide +kernel
theorem dX0_spotFor_70 : decode cX0_spotFor 70 = .ok (.aaload, 1) := by decide +kernel
theorem dX0_spotFor_71 : decode cX0_spotFor 71 = .ok (.aload_n 1, 1) := by decide +kernel
theorem dX0_spotFor_72 : decode cX0_spotFor 72 = .ok (.invokevirtual 56, 3) := by decide +kernel
theorem dX0_spotFor_75 : decode cX0_spotFor 75 = .ok (.ifCond .eq 9, 3) := by decide +kernel
theorem dX0_spotFor_78 : decode cX0_spotFor 78 = .ok (.iinc 2 1, 3) := by decide +kernel
theorem dX0_spotFor_81 : decode cX0_spotFor 81 = .ok (.goto (-32), 3) := by decide +kernel
theorem dX0_spotFor_84 : decode cX0_spotFor 84 = .ok (.iload_n 2, 1) := by decide +kernel
theorem dX0_spotFor_85 : decode cX0_spotFor 85 = .ok (.ireturn, 1) := by decide +kernel
theorem dX1_init_0 : decode cX1_init 0 = .ok (.aload_n 0, 1) := by decide +kernel
theorem dX1_init_1 : decode cX1_init 1 = .ok (.iload_n 1, 1) := by decide +kernel
theorem dX1_init_2 : decode cX1_init 2 = .ok (.aload_n 2, 1) := by decide +kernel
theorem dX1_init_3 : decode cX1_init 3 = .ok (.invokespecial 3, 3) := by decide +kernel
theorem dX1_init_6 : decode cX1_init 6 = .ok (.aload_n 0, 1) := by decide +kernel
theorem dX1_init_7 : decode cX1_init 7 = .ok (.iload_n 3, 1) := by decide +kernel
theorem dX1_init_8 : decode cX1_init 8 = .ok (.putfield 9, 3) := by decide +kernel
theorem dX1_init_11 : decode cX1_init 11 = .ok (.aload_n 0, 1) := by decide +kernel
theorem dX1_init_12 : decode cX1_init 12 = .ok (.iload 4, 2) := by decide +kernel
theorem dX1_init_14 : decode cX1_init 14 = .ok (.putfield 15, 3) := by decide +kernel
theorem dX1_init_17 : decode cX1_init 17 = .ok (.aload_n 0, 1) := by decide +kernel
theorem dX1_init_18 : decode cX1_init 18 = .ok (.iload 5, 2) := by decide +kernel
theorem dX1_init_20 : decode cX1_init 20 = .ok (.putfield 18, 3) := by decide +kernel
theorem dX1_init_23 : decode cX1_init 23 = .ok (.aload_n 0, 1) := by decide +kernel
theorem dX1_init_24 : decode cX1_init 24 = .ok (.iload 6, 2) := by decide +kernel
theorem dX1_init_26 : decode cX1_init 26 = .ok (.putfield 21, 3) := by decide +kernel
theorem dX1_init_29 : decode cX1_init 29 = .ok (.aload_n 0, 1) := by decide +kernel
theorem dX1_init_30 : decode cX1_init 30 = .ok (.iload 7, 2) := by decide +kernel
theorem dX1_init_32 : decode cX1_init 32 = .ok (.putfield 24, 3) := by decide +kernel
theorem dX1_init_35 : decode cX1_init 35 = .ok (.return_, 1) := by decide +kernel
theorem dX1_kind_0 : decode cX1_kind 0 = .ok (.iconst 2, 1) := by decide +kernel
theorem dX1_kind_1 : decode cX1_kind 1 = .ok (.ireturn, 1) := by decide +kernel
theorem dX1_size_0 : decode cX1_size 0 = .ok (.iconst 2, 1) := by decide +kernel
theorem dX1_size_1 : decode cX1_size 1 = .ok (.ireturn, 1) := by decide +kernel
theorem dX1_nameOf_0 : decode cX1_nameOf 0 = .ok (.iload_n 1, 1) := by decide +kernel
theorem dX1_nameOf_1 : decode cX1_nameOf 1 = .ok (.ifCond .ne 10, 3) := by decide +kernel
theorem dX1_nameOf_4 : decode cX1_nameOf 4 = .ok (.aload_n 0, 1) := by decide +kernel
theorem dX1_nameOf_5 : decode cX1_nameOf 5 = .ok (.getfield 9, 3) := by decide +kernel
theorem dX1_nameOf_8 : decode cX1_nameOf 8 = .ok (.goto 7, 3) := by decide +kernel
theorem dX1_nameOf_11 : decode cX1_nameOf 11 = .ok (.aload_n 0, 1) := by decide +kernel
theorem dX1_nameOf_12 : decode cX1_nameOf 12 = .ok (.getfield 15, 3) := by decide +kernel
theorem dX1_nameOf_15 : decode cX1_nameOf 15 = .ok (.ireturn, 1) := by decide +kernel
theorem dX1_howManyNeeds_0 : decode cX1_howManyNeeds 0 = .ok (.iconst 3, 1) := by decide +kernel
theorem dX1_howManyNeeds_1 : decode cX1_howManyNeeds 1 = .ok (.ireturn, 1) := by decide +kernel
theorem dX1_need_0 : decode cX1_need 0 = .ok (.iload_n 1, 1) := by decide +kernel
theorem dX1_need_1 : decode cX1_need 1 = .ok (.iconst 2, 1) := by decide +kernel
theorem dX1_need_2 : decode cX1_need 2 = .ok (.if_icmp .ge 11, 3) := by decide +kernel
theorem dX1_need_5 : decode cX1_need 5 = .ok (.aload_n 0, 1) := by decide +kernel
theorem dX1_need_6 : decode cX1_need 6 = .ok (.iload_n 1, 1) := by decide +kernel
theorem dX1_need_7 : decode cX1_need 7 = .ok (.invokevirtual 28, 3) := by decide +kernel
theorem dX1_need_10 : decode cX1_need 10 = .ok (.goto 7, 3) := by decide +kernel
theorem dX1_need_13 : decode cX1_need 13 = .ok (.aload_n 0, 1) := by decide +kernel
theorem dX1_need_14 : decode cX1_need 14 = .ok (.getfield 18, 3) := by decide +kernel
theorem dX1_need_17 : decode cX1_need 17 = .ok (.invokestatic 32, 3) := by decide +kernel
theorem dX1_need_20 : decode cX1_need 20 = .ok (.ireturn, 1) := by decide +kernel
theorem dX2_init_0 : decode cX2_init 0 = .ok (.aload_n 0, 1) := by decide +kernel
theorem dX2_init_1 : decode cX2_init 1 = .ok (.iload_n 1, 1) := by decide +kernel
theorem dX2_init_2 : decode cX2_init 2 = .ok (.aload_n 2, 1) := by decide +kernel
theorem dX2_init_3 : decode cX2_init 3 = .ok (.invokespecial 3, 3) := by decide +kernel
theorem dX2_init_6 : decode cX2_init 6 = .ok (.aload_n 0, 1) := by decide +kernel
theorem dX2_init_7 : decode cX2_init 7 = .ok (.iload_n 3, 1) := by decide +kernel
theorem dX2_init_8 : decode cX2_init 8 = .ok (.putfield 9, 3) := by decide +kernel
theorem dX2_init_11 : decode cX2_init 11 = .ok (.aload_n 0, 1) := by decide +kernel
theorem dX2_init_12 : decode cX2_init 12 = .ok (.aload 4, 2) := by decide +kernel
theorem dX2_init_14 : decode cX2_init 14 = .ok (.putfield 15, 3) := by decide +kernel
theorem dX2_init_17 : decode cX2_init 17 = .ok (.return_, 1) := by decide +kernel
theorem dX2_kind_0 : decode cX2_kind 0 = .ok (.iconst 0, 1) := by decide +kernel
theorem dX2_kind_1 : decode cX2_kind 1 = .ok (.ireturn, 1) := by decide +kernel
theorem dX2_size_0 : decode cX2_size 0 = .ok (.aload_n 0, 1) := by decide +kernel
theorem dX2_size_1 : decode cX2_size 1 = .ok (.getfield 15, 3) := by decide +kernel
theorem dX2_size_4 : decode cX2_size 4 = .ok (.arraylength, 1) := by decide +kernel
theorem dX2_size_5 : decode cX2_size 5 = .ok (.ireturn, 1) := by decide +kernel
theorem dX2_nameOf_0 : decode cX2_nameOf 0 = .ok (.iconst 4, 1) := by decide +kernel
theorem dX2_nameOf_1 : decode cX2_nameOf 1 = .ok (.aload_n 0, 1) := by decide +kernel
theorem dX2_nameOf_2 : decode cX2_nameOf 2 = .ok (.getfield 19, 3) := by decide +kernel
theorem dX2_nameOf_5 : decode cX2_nameOf 5 = .ok (.imul, 1) := by decide +kernel
theorem dX2_nameOf_6 : decode cX2_nameOf 6 = .ok (.iload_n 1, 1) := by decide +kernel
theorem dX2_nameOf_7 : decode cX2_nameOf 7 = .ok (.iadd, 1) := by decide +kernel
theorem dX2_nameOf_8 : decode cX2_nameOf 8 = .ok (.ireturn, 1) := by decide +kernel
theorem dX2_howManyNeeds_0 : decode cX2_howManyNeeds 0 = .ok (.iconst 1, 1) := by decide +kernel
theorem dX2_howManyNeeds_1 : decode cX2_howManyNeeds 1 = .ok (.ireturn, 1) := by decide +kernel
theorem dX2_need_0 : decode cX2_need 0 = .ok (.aload_n 0, 1) := by decide +kernel
theorem dX2_need_1 : decode cX2_need 1 = .ok (.getfield 9, 3) := by decide +kernel
theorem dX2_need_4 : decode cX2_need 4 = .ok (.invokestatic 22, 3) := by decide +kernel
theorem dX2_need_7 : decode cX2_need 7 = .ok (.ireturn, 1) := by decide +kernel
theorem dX3_init_0 : decode cX3_init 0 = .ok (.aload_n 0, 1) := by decide +kernel
theorem dX3_init_1 : decode cX3_init 1 = .ok (.invokespecial 3, 3) := by decide +kernel
theorem dX3_init_4 : decode cX3_init 4 = .ok (.aload_n 0, 1) := by decide +kernel
theorem dX3_init_5 : decode cX3_init 5 = .ok (.sipush 256, 3) := by decide +kernel
theorem dX3_init_8 : decode cX3_init 8 = .ok (.newarray .int, 2) := by decide +kernel
theorem dX3_init_10 : decode cX3_init 10 = .ok (.putfield 9, 3) := by decide +kernel
theorem dX3_init_13 : decode cX3_init 13 = .ok (.aload_n 0, 1) := by decide +kernel
theorem dX3_init_14 : decode cX3_init 14 = .ok (.sipush 768, 3) := by decide +kernel
theorem dX3_init_17 : decode cX3_init 17 = .ok (.newarray .int, 2) := by decide +kernel
theorem dX3_init_19 : decode cX3_init 19 = .ok (.putfield 15, 3) := by decide +kernel
theorem dX3_init_22 : decode cX3_init 22 = .ok (.aload_n 0, 1) := by decide +kernel
theorem dX3_init_23 : decode cX3_init 23 = .ok (.sipush 1024, 3) := by decide +kernel
theorem dX3_init_26 : decode cX3_init 26 = .ok (.newarray .int, 2) := by decide +kernel
theorem dX3_init_28 : decode cX3_init 28 = .ok (.putfield 18, 3) := by decide +kernel
theorem dX3_init_31 : decode cX3_init 31 = .ok (.aload_n 0, 1) := by decide +kernel
theorem dX3_init_32 : decode cX3_init 32 = .ok (.sipush 768, 3) := by decide +kernel
theorem dX3_init_35 : decode cX3_init 35 = .ok (.newarray .int, 2) := by decide +kernel
theorem dX3_init_37 : decode cX3_init 37 = .ok (.putfield 21, 3) := by decide +kernel
theorem dX3_init_40 : decode cX3_init 40 = .ok (.aload_n 0, 1) := by decide +kernel
theorem dX3_init_41 : decode cX3_init 41 = .ok (.sipush 769, 3) := by decide +kernel
theorem dX3_init_44 : decode cX3_init 44 = .ok (.newarray .int, 2) := by decide +kernel
theorem dX3_init_46 : decode cX3_init 46 = .ok (.putfield 24, 3) := by decide +kernel
theorem dX3_init_49 : decode cX3_init 49 = .ok (.aload_n 0, 1) := by decide +kernel
theorem dX3_init_50 : decode cX3_init 50 = .ok (.sipush 768, 3) := by decide +kernel
theorem dX3_init_53 : decode cX3_init 53 = .ok (.newarray .int, 2) := by decide +kernel
theorem dX3_init_55 : decode cX3_init 55 = .ok (.putfield 27, 3) := by decide +kernel
theorem dX3_init_58 : decode cX3_init 58 = .ok (.aload_n 0, 1) := by decide +kernel
theorem dX3_init_59 : decode cX3_init 59 = .ok (.sipush 768, 3) := by decide +kernel
theorem dX3_init_62 : decode cX3_init 62 = .ok (.newarray .int, 2) := by decide +kernel
theorem dX3_init_64 : decode cX3_init 64 = .ok (.putfield 30, 3) := by decide +kernel
theorem dX3_init_67 : decode cX3_init 67 = .ok (.aload_n 0, 1) := by decide +kernel
theorem dX3_init_68 : decode cX3_init 68 = .ok (.aload_n 1, 1) := by decide +kernel
theorem dX3_init_69 : decode cX3_init 69 = .ok (.putfield 33, 3) := by decide +kernel
theorem dX3_init_72 : decode cX3_init 72 = .ok (.aload_n 0, 1) := by decide +kernel
theorem dX3_init_73 : decode cX3_init 73 = .ok (.getfield 18, 3) := by decide +kernel
theorem dX3_init_76 : decode cX3_init 76 = .ok (.iconst (-1), 1) := by decide +kernel
theorem dX3_init_77 : decode cX3_init 77 = .ok (.invokestatic 37, 3) := by decide +kernel
theorem dX3_init_80 : decode cX3_init 80 = .ok (.return_, 1) := by decide +kernel
theorem dX3_read_0 : decode cX3_read 0 = .ok (.aload_n 0, 1) := by decide +kernel
theorem dX3_read_1 : decode cX3_read 1 = .ok (.aload_n 1, 1) := by decide +kernel
theorem dX3_read_2 : decode cX3_read 2 = .ok (.iload_n 2, 1) := by decide +kernel
theorem dX3_read_3 : decode cX3_read 3 = .ok (.invokevirtual 43, 3) := by decide +kernel
theorem dX3_read_6 : decode cX3_read 6 = .ok (.aload_n 0, 1) := by decide +kernel
theorem dX3_read_7 : decode cX3_read 7 = .ok (.invokevirtual 47, 3) := by decide +kernel
theorem dX3_read_10 : decode cX3_read 10 = .ok (.aload_n 0, 1) := by decide +kernel
theorem dX3_read_11 : decode cX3_read 11 = .ok (.invokevirtual 50, 3) := by decide +kernel
theorem dX3_read_14 : decode cX3_read 14 = .ok (.aload_n 0, 1) := by decide +kernel
theorem dX3_read_15 : decode cX3_read 15 = .ok (.invokevirtual 53, 3) := by decide +kernel
theorem dX3_read_18 : decode cX3_read 18 = .ok (.aload_n 0, 1) := by decide +kernel
theorem dX3_read_19 : decode cX3_read 19 = .ok (.invokevirtual 56, 3) := by decide +kernel
theorem dX3_read_22 : decode cX3_read 22 = .ok (.return_, 1) := by decide +kernel
theorem dX3_isWorking_0 : decode cX3_isWorking 0 = .ok (.aload_n 0, 1) := by decide +kernel
theorem dX3_isWorking_1 : decode cX3_isWorking 1 = .ok (.getfield 9, 3) := by decide +kernel
theorem dX3_isWorking_4 : decode cX3_isWorking 4 = .ok (.aload_n 1, 1) := by decide +kernel
theorem dX3_isWorking_5 : decode cX3_isWorking 5 = .ok (.getfield 59, 3) := by decide +kernel
theorem dX3_isWorking_8 : decode cX3_isWorking 8 = .ok (.iaload, 1) := by decide +kernel
theorem dX3_isWorking_9 : decode cX3_isWorking 9 = .ok (.iconst 3, 1) := by decide +kernel
theorem dX3_isWorking_10 : decode cX3_isWorking 10 = .ok (.if_icmp .ne 7, 3) := by decide +kernel
theorem dX3_isWorking_13 : decode cX3_isWorking 13 = .ok (.iconst 1, 1) := by decide +kernel
theorem dX3_isWorking_14 : decode cX3_isWorking 14 = .ok (.goto 4, 3) := by decide +kernel
theorem dX3_isWorking_17 : decode cX3_isWorking 17 = .ok (.iconst 0, 1) := by decide +kernel
theorem dX3_isWorking_18 : decode cX3_isWorking 18 = .ok (.ireturn, 1) := by decide +kernel
theorem dX3_isPlace_0 : decode cX3_isPlace 0 = .ok (.iload_n 1, 1) := by decide +kernel
theorem dX3_isPlace_1 : decode cX3_isPlace 1 = .ok (.ifCond .lt 15, 3) := by decide +kernel
theorem dX3_isPlace_4 : decode cX3_isPlace 4 = .ok (.iload_n 1, 1) := by decide +kernel
theorem dX3_isPlace_5 : decode cX3_isPlace 5 = .ok (.aload_n 0, 1) := by decide +kernel
theorem dX3_isPlace_6 : decode cX3_isPlace 6 = .ok (.getfield 65, 3) := by decide +kernel
theorem dX3_isPlace_9 : decode cX3_isPlace 9 = .ok (.if_icmp .ge 7, 3) := by decide +kernel
theorem dX3_isPlace_12 : decode cX3_isPlace 12 = .ok (.iconst 1, 1) := by decide +kernel
theorem dX3_isPlace_13 : decode cX3_isPlace 13 = .ok (.goto 4, 3) := by decide +kernel
theorem dX3_isPlace_16 : decode cX3_isPlace 16 = .ok (.iconst 0, 1) := by decide +kernel
theorem dX3_isPlace_17 : decode cX3_isPlace 17 = .ok (.ireturn, 1) := by decide +kernel
theorem dX3_hasStretch_0 : decode cX3_hasStretch 0 = .ok (.iload_n 2, 1) := by decide +kernel
theorem dX3_hasStretch_1 : decode cX3_hasStretch 1 = .ok (.ifCond .le 21, 3) := by decide +kernel
theorem dX3_hasStretch_4 : decode cX3_hasStretch 4 = .ok (.iload_n 1, 1) := by decide +kernel
theorem dX3_hasStretch_5 : decode cX3_hasStretch 5 = .ok (.ifCond .lt 17, 3) := by decide +kernel
theorem dX3_hasStretch_8 : decode cX3_hasStretch 8 = .ok (.iload_n 1, 1) := by decide +kernel
theorem dX3_hasStretch_9 : decode cX3_hasStretch 9 = .ok (.aload_n 0, 1) := by decide +kernel
theorem dX3_hasStretch_10 : decode cX3_hasStretch 10 = .ok (.getfield 65, 3) := by decide +kernel
theorem dX3_hasStretch_13 : decode cX3_hasStretch 13 = .ok (.iload_n 2, 1) := by decide +kernel
theorem dX3_hasStretch_14 : decode cX3_hasStretch 14 = .ok (.isub, 1) := by decide +kernel
theorem dX3_hasStretch_15 : decode cX3_hasStretch 15 = .ok (.if_icmp .gt 7, 3) := by decide +kernel
theorem dX3_hasStretch_18 : decode cX3_hasStretch 18 = .ok (.iconst 1, 1) := by decide +kernel
theorem dX3_hasStretch_19 : decode cX3_hasStretch 19 = .ok (.goto 4, 3) := by decide +kernel
theorem dX3_hasStretch_22 : decode cX3_hasStretch 22 = .ok (.iconst 0, 1) := by decide +kernel
theorem dX3_hasStretch_23 : decode cX3_hasStretch 23 = .ok (.ireturn, 1) := by decide +kernel
theorem dX3_nameAt_0 : decode cX3_nameAt 0 = .ok (.aload_n 0, 1) := by decide +kernel
theorem dX3_nameAt_1 : decode cX3_nameAt 1 = .ok (.iload_n 1, 1) := by decide +kernel
theorem dX3_nameAt_2 : decode cX3_nameAt 2 = .ok (.invokevirtual 68, 3) := by decide +kernel
theorem dX3_nameAt_5 : decode cX3_nameAt 5 = .ok (.ifCond .eq 17, 3) := by decide +kernel
theorem dX3_nameAt_8 : decode cX3_nameAt 8 = .ok (.aload_n 0, 1) := by decide +kernel
theorem dX3_nameAt_9 : decode cX3_nameAt 9 = .ok (.getfield 15, 3) := by decide +kernel
theorem dX3_nameAt_12 : decode cX3_nameAt 12 = .ok (.aload_n 0, 1) := by decide +kernel
theorem dX3_nameAt_13 : decode cX3_nameAt 13 = .ok (.getfield 27, 3) := by decide +kernel
theorem dX3_nameAt_16 : decode cX3_nameAt 16 = .ok (.iload_n 1, 1) := by decide +kernel
theorem dX3_nameAt_17 : decode cX3_nameAt 17 = .ok (.iaload, 1) := by decide +kernel
theorem dX3_nameAt_18 : decode cX3_nameAt 18 = .ok (.iaload, 1) := by decide +kernel
theorem dX3_nameAt_19 : decode cX3_nameAt 19 = .ok (.goto 4, 3) := by decide +kernel
theorem dX3_nameAt_22 : decode cX3_nameAt 22 = .ok (.iconst (-1), 1) := by decide +kernel
theorem dX3_nameAt_23 : decode cX3_nameAt 23 = .ok (.ireturn, 1) := by decide +kernel
theorem dX3_tintsAt_0 : decode cX3_tintsAt 0 = .ok (.aload_n 0, 1) := by decide +kernel
theorem dX3_tintsAt_1 : decode cX3_tintsAt 1 = .ok (.iload_n 1, 1) := by decide +kernel
theorem dX3_tintsAt_2 : decode cX3_tintsAt 2 = .ok (.invokevirtual 68, 3) := by decide +kernel
theorem dX3_tintsAt_5 : decode cX3_tintsAt 5 = .ok (.ifCond .eq 17, 3) := by decide +kernel
theorem dX3_tintsAt_8 : decode cX3_tintsAt 8 = .ok (.aload_n 0, 1) := by decide +kernel
theorem dX3_tintsAt_9 : decode cX3_tintsAt 9 = .ok (.getfield 30, 3) := by decide +kernel
theorem dX3_tintsAt_12 : decode cX3_tintsAt 12 = .ok (.aload_n 0, 1) := by decide +kernel
theorem dX3_tintsAt_13 : decode cX3_tintsAt 13 = .ok (.getfield 27, 3) := by decide +kernel
theorem dX3_tintsAt_16 : decode cX3_tintsAt 16 = .ok (.iload_n 1, 1) := by decide +kernel
theorem dX3_tintsAt_17 : decode cX3_tintsAt 17 = .ok (.iaload, 1) := by decide +kernel
theorem dX3_tintsAt_18 : decode cX3_tintsAt 18 = .ok (.iaload, 1) := by decide +kernel
theorem dX3_tintsAt_19 : decode cX3_tintsAt 19 = .ok (.goto 4, 3) := by decide +kernel
theorem dX3_tintsAt_22 : decode cX3_tintsAt 22 = .ok (.iconst 0, 1) := by decide +kernel
theorem dX3_tintsAt_23 : decode cX3_tintsAt 23 = .ok (.ireturn, 1) := by decide +kernel
theorem dX3_lookAt_0 : decode cX3_lookAt 0 = .ok (.aload_n 0, 1) := by decide +kernel
theorem dX3_lookAt_1 : decode cX3_lookAt 1 = .ok (.iload_n 1, 1) := by decide +kernel
theorem dX3_lookAt_2 : decode cX3_lookAt 2 = .ok (.invokevirtual 72, 3) := by decide +kernel
theorem dX3_lookAt_5 : decode cX3_lookAt 5 = .ok (.bipush 16, 2) := by decide +kernel
theorem dX3_lookAt_7 : decode cX3_lookAt 7 = .ok (.imul, 1) := by decide +kernel
theorem dX3_lookAt_8 : decode cX3_lookAt 8 = .ok (.aload_n 0, 1) := by decide +kernel
theorem dX3_lookAt_9 : decode cX3_lookAt 9 = .ok (.iload_n 1, 1) := by decide +kernel
theorem dX3_lookAt_10 : decode cX3_lookAt 10 = .ok (.invokevirtual 76, 3) := by decide +kernel
theorem dX3_lookAt_13 : decode cX3_lookAt 13 = .ok (.iadd, 1) := by decide +kernel
theorem dX3_lookAt_14 : decode cX3_lookAt 14 = .ok (.ireturn, 1) := by decide +kernel
theorem dX3_namesFrom_0 : decode cX3_namesFrom 0 = .ok (.iconst 0, 1) := by decide +kernel
theorem dX3_namesFrom_1 : decode cX3_namesFrom 1 = .ok (.iload_n 2, 1) := by decide +kernel
theorem dX3_namesFrom_2 : decode cX3_namesFrom 2 = .ok (.invokestatic 79, 3) := by decide +kernel
theorem dX3_namesFrom_5 : decode cX3_namesFrom 5 = .ok (.newarray .int, 2) := by decide +kernel
theorem dX3_namesFrom_7 : decode cX3_namesFrom 7 = .ok (.astore_n 3, 1) := by decide +kernel
theorem dX3_namesFrom_8 : decode cX3_namesFrom 8 = .ok (.iconst 0, 1) := by decide +kernel
theorem dX3_namesFrom_9 : decode cX3_namesFrom 9 = .ok (.istore 4, 2) := by decide +kernel
theorem dX3_namesFrom_11 : decode cX3_namesFrom 11 = .ok (.iload 4, 2) := by decide +kernel
theorem dX3_namesFrom_13 : decode cX3_namesFrom 13 = .ok (.aload_n 3, 1) := by decide +kernel
theorem dX3_namesFrom_14 : decode cX3_namesFrom 14 = .ok (.arraylength, 1) := by decide +kernel
theorem dX3_namesFrom_15 : decode cX3_namesFrom 15 = .ok (.if_icmp .ge 21, 3) := by decide +kernel
theorem dX3_namesFrom_18 : decode cX3_namesFrom 18 = .ok (.aload_n 3, 1) := by decide +kernel
theorem dX3_namesFrom_19 : decode cX3_namesFrom 19 = .ok (.iload 4, 2) := by decide +kernel
theorem dX3_namesFrom_21 : decode cX3_namesFrom 21 = .ok (.aload_n 0, 1) := by decide +kernel
theorem dX3_namesFrom_22 : decode cX3_namesFrom 22 = .ok (.iload_n 1, 1) := by decide +kernel
theorem dX3_namesFrom_23 : decode cX3_namesFrom 23 = .ok (.iload 4, 2) := by decide +kernel
theorem dX3_namesFrom_25 : decode cX3_namesFrom 25 = .ok (.iadd, 1) := by decide +kernel
theorem dX3_namesFrom_26 : decode cX3_namesFrom 26 = .ok (.invokevirtual 72, 3) := by decide +kernel
theorem dX3_namesFrom_29 : decode cX3_namesFrom 29 = .ok (.iastore, 1) := by decide +kernel
theorem dX3_namesFrom_30 : decode cX3_namesFrom 30 = .ok (.iinc 4 1, 3) := by decide +kernel
theorem dX3_namesFrom_33 : decode cX3_namesFrom 33 = .ok (.goto (-22), 3) := by decide +kernel
theorem dX3_namesFrom_36 : decode cX3_namesFrom 36 = .ok (.aload_n 3, 1) := by decide +kernel
theorem dX3_namesFrom_37 : decode cX3_namesFrom 37 = .ok (.areturn, 1) := by decide +kernel
theorem dX3_spotOf_0 : decode cX3_spotOf 0 = .ok (.iload_n 1, 1) := by decide +kernel
theorem dX3_spotOf_1 : decode cX3_spotOf 1 = .ok (.ifCond .lt 19, 3) := by decide +kernel
theorem dX3_spotOf_4 : decode cX3_spotOf 4 = .ok (.iload_n 1, 1) := by decide +kernel
theorem dX3_spotOf_5 : decode cX3_spotOf 5 = .ok (.sipush 1024, 3) := by decide +kernel
theorem dX3_spotOf_8 : decode cX3_spotOf 8 = .ok (.if_icmp .ge 12, 3) := by decide +kernel
theorem dX3_spotOf_11 : decode cX3_spotOf 11 = .ok (.aload_n 0, 1) := by decide +kernel
theorem dX3_spotOf_12 : decode cX3_spotOf 12 = .ok (.getfield 18, 3) := by decide +kernel
theorem dX3_spotOf_15 : decode cX3_spotOf 15 = .ok (.iload_n 1, 1) := by decide +kernel
theorem dX3_spotOf_16 : decode cX3_spotOf 16 = .ok (.iaload, 1) := by decide +kernel
theorem dX3_spotOf_17 : decode cX3_spotOf 17 = .ok (.goto 4, 3) := by decide +kernel
theorem dX3_spotOf_20 : decode cX3_spotOf 20 = .ok (.iconst (-1), 1) := by decide +kernel
theorem dX3_spotOf_21 : decode cX3_spotOf 21 = .ok (.ireturn, 1) := by decide +kernel
theorem dX3_isSeen_0 : decode cX3_isSeen 0 = .ok (.aload_n 0, 1) := by decide +kernel
theorem dX3_isSeen_1 : decode cX3_isSeen 1 = .ok (.getfield 24, 3) := by decide +kernel
theorem dX3_isSeen_4 : decode cX3_isSeen 4 = .ok (.iload_n 1, 1) := by decide +kernel
theorem dX3_isSeen_5 : decode cX3_isSeen 5 = .ok (.iconst 1, 1) := by decide +kernel
theorem dX3_isSeen_6 : decode cX3_isSeen 6 = .ok (.iadd, 1) := by decide +kernel
theorem dX3_isSeen_7 : decode cX3_isSeen 7 = .ok (.iaload, 1) := by decide +kernel
theorem dX3_isSeen_8 : decode cX3_isSeen 8 = .ok (.aload_n 0, 1) := by decide +kernel
theorem dX3_isSeen_9 : decode cX3_isSeen 9 = .ok (.getfield 24, 3) := by decide +kernel
theorem dX3_isSeen_12 : decode cX3_isSeen 12 = .ok (.iload_n 1, 1) := by decide +kernel
theorem dX3_isSeen_13 : decode cX3_isSeen 13 = .ok (.iaload, 1) := by decide +kernel
theorem dX3_isSeen_14 : decode cX3_isSeen 14 = .ok (.if_icmp .le 7, 3) := by decide +kernel
theorem dX3_isSeen_17 : decode cX3_isSeen 17 = .ok (.iconst 1, 1) := by decide +kernel
theorem dX3_isSeen_18 : decode cX3_isSeen 18 = .ok (.goto 4, 3) := by decide +kernel
theorem dX3_isSeen_21 : decode cX3_isSeen 21 = .ok (.iconst 0, 1) := by decide +kernel
theorem dX3_isSeen_22 : decode cX3_isSeen 22 = .ok (.ireturn, 1) := by decide +kernel
theorem dX3_nextBehind_0 : decode cX3_nextBehind 0 = .ok (.aload_n 0, 1) := by decide +kernel
theorem dX3_nextBehind_1 : decode cX3_nextBehind 1 = .ok (.iload_n 1, 1) := by decide +kernel
theorem dX3_nextBehind_2 : decode cX3_nextBehind 2 = .ok (.invokevirtual 85, 3) := by decide +kernel
theorem dX3_nextBehind_5 : decode cX3_nextBehind 5 = .ok (.iconst 1, 1) := by decide +kernel
theorem dX3_nextBehind_6 : decode cX3_nextBehind 6 = .ok (.iadd, 1) := by decide +kernel
theorem dX3_nextBehind_7 : decode cX3_nextBehind 7 = .ok (.istore_n 2, 1) := by decide +kernel
theorem dX3_nextBehind_8 : decode cX3_nextBehind 8 = .ok (.iload_n 2, 1) := by decide +kernel
theorem dX3_nextBehind_9 : decode cX3_nextBehind 9 = .ok (.aload_n 0, 1) := by decide +kernel
theorem dX3_nextBehind_10 : decode cX3_nextBehind 10 = .ok (.getfield 88, 3) := by decide +kernel
theorem dX3_nextBehind_13 : decode cX3_nextBehind 13 = .ok (.if_icmp .ge 12, 3) := by decide +kernel
theorem dX3_nextBehind_16 : decode cX3_nextBehind 16 = .ok (.aload_n 0, 1) := by decide +kernel
theorem dX3_nextBehind_17 : decode cX3_nextBehind 17 = .ok (.getfield 15, 3) := by decide +kernel
theorem dX3_nextBehind_20 : decode cX3_nextBehind 20 = .ok (.iload_n 2, 1) := by decide +kernel
theorem dX3_nextBehind_21 : decode cX3_nextBehind 21 = .ok (.iaload, 1) := by decide +kernel
theorem dX3_nextBehind_22 : decode cX3_nextBehind 22 = .ok (.goto 5, 3) := by decide +kernel
theorem dX3_nextBehind_25 : decode cX3_nextBehind 25 = .ok (.bipush (-2), 2) := by decide +kernel
theorem dX3_nextBehind_27 : decode cX3_nextBehind 27 = .ok (.ireturn, 1) := by decide +kernel
theorem dX3_stretchesOf_0 : decode cX3_stretchesOf 0 = .ok (.iconst 1, 1) := by decide +kernel
theorem dX3_stretchesOf_1 : decode cX3_stretchesOf 1 = .ok (.iload_n 1, 1) := by decide +kernel
theorem dX3_stretchesOf_2 : decode cX3_stretchesOf 2 = .ok (.ishl, 1) := by decide +kernel
theorem dX3_stretchesOf_3 : decode cX3_stretchesOf 3 = .ok (.istore_n 2, 1) := by decide +kernel
theorem dX3_stretchesOf_4 : decode cX3_stretchesOf 4 = .ok (.iconst 0, 1) := by decide +kernel
theorem dX3_stretchesOf_5 : decode cX3_stretchesOf 5 = .ok (.istore_n 3, 1) := by decide +kernel
theorem dX3_stretchesOf_6 : decode cX3_stretchesOf 6 = .ok (.iconst 0, 1) := by decide +kernel
theorem dX3_stretchesOf_7 : decode cX3_stretchesOf 7 = .ok (.istore 4, 2) := by decide +kernel
theorem dX3_stretchesOf_9 : decode cX3_stretchesOf 9 = .ok (.iconst 0, 1) := by decide +kernel
theorem dX3_stretchesOf_10 : decode cX3_stretchesOf 10 = .ok (.istore 5, 2) := by decide +kernel
theorem dX3_stretchesOf_12 : decode cX3_stretchesOf 12 = .ok (.iload 5, 2) := by decide +kernel
theorem dX3_stretchesOf_14 : decode cX3_stretchesOf 14 = .ok (.aload_n 0, 1) := by decide +kernel
theorem dX3_stretchesOf_15 : decode cX3_stretchesOf 15 = .ok (.getfield 65, 3) := by decide +kernel
theorem dX3_stretchesOf_18 : decode cX3_stretchesOf 18 = .ok (.if_icmp .ge 50, 3) := by decide +kernel
theorem dX3_stretchesOf_21 : decode cX3_stretchesOf 21 = .ok (.aload_n 0, 1) := by decide +kernel
theorem dX3_stretchesOf_22 : decode cX3_stretchesOf 22 = .ok (.getfield 30, 3) := by decide +kernel
theorem dX3_stretchesOf_25 : decode cX3_stretchesOf 25 = .ok (.aload_n 0, 1) := by decide +kernel
theorem dX3_stretchesOf_26 : decode cX3_stretchesOf 26 = .ok (.getfield 27, 3) := by decide +kernel
theorem dX3_stretchesOf_29 : decode cX3_stretchesOf 29 = .ok (.iload 5, 2) := by decide +kernel
theorem dX3_stretchesOf_31 : decode cX3_stretchesOf 31 = .ok (.iaload, 1) := by decide +kernel
theorem dX3_stretchesOf_32 : decode cX3_stretchesOf 32 = .ok (.iaload, 1) := by decide +kernel
theorem dX3_stretchesOf_33 : decode cX3_stretchesOf 33 = .ok (.iload_n 2, 1) := by decide +kernel
theorem dX3_stretchesOf_34 : decode cX3_stretchesOf 34 = .ok (.iand, 1) := by decide +kernel
theorem dX3_stretchesOf_35 : decode cX3_stretchesOf 35 = .ok (.ifCond .eq 7, 3) := by decide +kernel
theorem dX3_stretchesOf_38 : decode cX3_stretchesOf 38 = .ok (.iconst 1, 1) := by decide +kernel
theorem dX3_stretchesOf_39 : decode cX3_stretchesOf 39 = .ok (.goto 4, 3) := by decide +kernel
theorem dX3_stretchesOf_42 : decode cX3_stretchesOf 42 = .ok (.iconst 0, 1) := by decide +kernel
theorem dX3_stretchesOf_43 : decode cX3_stretchesOf 43 = .ok (.istore 6, 2) := by decide +kernel
theorem dX3_stretchesOf_45 : decode cX3_stretchesOf 45 = .ok (.iload 6, 2) := by decide +kernel
theorem dX3_stretchesOf_47 : decode cX3_stretchesOf 47 = .ok (.ifCond .eq 11, 3) := by decide +kernel
theorem dX3_stretchesOf_50 : decode cX3_stretchesOf 50 = .ok (.iload 4, 2) := by decide +kernel
theorem dX3_stretchesOf_52 : decode cX3_stretchesOf 52 = .ok (.ifCond .ne 6, 3) := by decide +kernel
theorem dX3_stretchesOf_55 : decode cX3_stretchesOf 55 = .ok (.iinc 3 1, 3) := by decide +kernel
theorem dX3_stretchesOf_58 : decode cX3_stretchesOf 58 = .ok (.iload 6, 2) := by decide +kernel
theorem dX3_stretchesOf_60 : decode cX3_stretchesOf 60 = .ok (.istore 4, 2) := by decide +kernel
theorem dX3_stretchesOf_62 : decode cX3_stretchesOf 62 = .ok (.iinc 5 1, 3) := by decide +kernel
theorem dX3_stretchesOf_65 : decode cX3_stretchesOf 65 = .ok (.goto (-53), 3) := by decide +kernel
theorem dX3_stretchesOf_68 : decode cX3_stretchesOf 68 = .ok (.iload_n 3, 1) := by decide +kernel
theorem dX3_stretchesOf_69 : decode cX3_stretchesOf 69 = .ok (.ireturn, 1) := by decide +kernel
theorem dX3_paint_0 : decode cX3_paint 0 = .ok (.iconst 0, 1) := by decide +kernel
theorem dX3_paint_1 : decode cX3_paint 1 = .ok (.istore_n 1, 1) := by decide +kernel
theorem dX3_paint_2 : decode cX3_paint 2 = .ok (.iload_n 1, 1) := by decide +kernel
theorem dX3_paint_3 : decode cX3_paint 3 = .ok (.aload_n 0, 1) := by decide +kernel
theorem dX3_paint_4 : decode cX3_paint 4 = .ok (.getfield 88, 3) := by decide +kernel
theorem dX3_paint_7 : decode cX3_paint 7 = .ok (.if_icmp .ge 16, 3) := by decide +kernel
theorem dX3_paint_10 : decode cX3_paint 10 = .ok (.aload_n 0, 1) := by decide +kernel
theorem dX3_paint_11 : decode cX3_paint 11 = .ok (.getfield 30, 3) := by decide +kernel
theorem dX3_paint_14 : decode cX3_paint 14 = .ok (.iload_n 1, 1) := by decide +kernel
theorem dX3_paint_15 : decode cX3_paint 15 = .ok (.iconst 0, 1) := by decide +kernel
theorem dX3_paint_16 : decode cX3_paint 16 = .ok (.iastore, 1) := by decide +kernel
theorem dX3_paint_17 : decode cX3_paint 17 = .ok (.iinc 1 1, 3) := by decide +kernel
theorem dX3_paint_20 : decode cX3_paint 20 = .ok (.goto (-18), 3) := by decide +kernel
theorem dX3_paint_23 : decode cX3_paint 23 = .ok (.iconst 0, 1) := by decide +kernel
theorem dX3_paint_24 : decode cX3_paint 24 = .ok (.istore_n 1, 1) := by decide +kernel
theorem dX3_paint_25 : decode cX3_paint 25 = .ok (.iload_n 1, 1) := by decide +kernel
theorem dX3_paint_26 : decode cX3_paint 26 = .ok (.aload_n 0, 1) := by decide +kernel
theorem dX3_paint_27 : decode cX3_paint 27 = .ok (.getfield 33, 3) := by decide +kernel
theorem dX3_paint_30 : decode cX3_paint 30 = .ok (.getfield 91, 3) := by decide +kernel
theorem dX3_paint_33 : decode cX3_paint 33 = .ok (.if_icmp .ge 44, 3) := by decide +kernel
theorem dX3_paint_36 : decode cX3_paint 36 = .ok (.aload_n 0, 1) := by decide +kernel
theorem dX3_paint_37 : decode cX3_paint 37 = .ok (.getfield 33, 3) := by decide +kernel
theorem dX3_paint_40 : decode cX3_paint 40 = .ok (.getfield 96, 3) := by decide +kernel
theorem dX3_paint_43 : decode cX3_paint 43 = .ok (.iload_n 1, 1) := by decide +kernel
theorem dX3_paint_44 : decode cX3_paint 44 = .ok (.aaload, 1) := by decide +kernel
theorem dX3_paint_45 : decode cX3_paint 45 = .ok (.astore_n 3, 1) := by decide +kernel
theorem dX3_paint_46 : decode cX3_paint 46 = .ok (.aload_n 3, 1) := by decide +kernel
theorem dX3_paint_47 : decode cX3_paint 47 = .ok (.instanceof 100, 3) := by decide +kernel
theorem dX3_paint_50 : decode cX3_paint 50 = .ok (.ifCond .eq 21, 3) := by decide +kernel
theorem dX3_paint_53 : decode cX3_paint 53 = .ok (.aload_n 3, 1) := by decide +kernel
theorem dX3_paint_54 : decode cX3_paint 54 = .ok (.checkcast 100, 3) := by decide +kernel
theorem dX3_paint_57 : decode cX3_paint 57 = .ok (.astore_n 2, 1) := by decide +kernel
theorem dX3_paint_58 : decode cX3_paint 58 = .ok (.aload_n 0, 1) := by decide +kernel
theorem dX3_paint_59 : decode cX3_paint 59 = .ok (.aload_n 2, 1) := by decide +kernel
theorem dX3_paint_60 : decode cX3_paint 60 = .ok (.invokevirtual 102, 3) := by decide +kernel
theorem dX3_paint_63 : decode cX3_paint 63 = .ok (.ifCond .eq 8, 3) := by decide +kernel
theorem dX3_paint_66 : decode cX3_paint 66 = .ok (.aload_n 0, 1) := by decide +kernel
theorem dX3_paint_67 : decode cX3_paint 67 = .ok (.aload_n 2, 1) := by decide +kernel
theorem dX3_paint_68 : decode cX3_paint 68 = .ok (.invokevirtual 106, 3) := by decide +kernel
theorem dX3_paint_71 : decode cX3_paint 71 = .ok (.iinc 1 1, 3) := by decide +kernel
theorem dX3_paint_74 : decode cX3_paint 74 = .ok (.goto (-49), 3) := by decide +kernel
theorem dX3_paint_77 : decode cX3_paint 77 = .ok (.return_, 1) := by decide +kernel
theorem dX3_lay_0 : decode cX3_lay 0 = .ok (.iconst 1, 1) := by decide +kernel
theorem dX3_lay_1 : decode cX3_lay 1 = .ok (.aload_n 1, 1) := by decide +kernel
theorem dX3_lay_2 : decode cX3_lay 2 = .ok (.getfield 110, 3) := by decide +kernel
theorem dX3_lay_5 : decode cX3_lay 5 = .ok (.ishl, 1) := by decide +kernel
theorem dX3_lay_6 : decode cX3_lay 6 = .ok (.istore_n 2, 1) := by decide +kernel
theorem dX3_lay_7 : decode cX3_lay 7 = .ok (.iconst 0, 1) := by decide +kernel
theorem dX3_lay_8 : decode cX3_lay 8 = .ok (.aload_n 0, 1) := by decide +kernel
theorem dX3_lay_9 : decode cX3_lay 9 = .ok (.aload_n 1, 1) := by decide +kernel
theorem dX3_lay_10 : decode cX3_lay 10 = .ok (.getfield 113, 3) := by decide +kernel
theorem dX3_lay_13 : decode cX3_lay 13 = .ok (.invokevirtual 85, 3) := by decide +kernel
theorem dX3_lay_16 : decode cX3_lay 16 = .ok (.invokestatic 79, 3) := by decide +kernel
theorem dX3_lay_19 : decode cX3_lay 19 = .ok (.istore_n 3, 1) := by decide +kernel
theorem dX3_lay_20 : decode cX3_lay 20 = .ok (.aload_n 0, 1) := by decide +kernel
theorem dX3_lay_21 : decode cX3_lay 21 = .ok (.aload_n 1, 1) := by decide +kernel
theorem dX3_lay_22 : decode cX3_lay 22 = .ok (.invokevirtual 116, 3) := by decide +kernel
theorem dX3_lay_25 : decode cX3_lay 25 = .ok (.istore 4, 2) := by decide +kernel
theorem dX3_lay_27 : decode cX3_lay 27 = .ok (.iload_n 3, 1) := by decide +kernel
theorem dX3_lay_28 : decode cX3_lay 28 = .ok (.istore 5, 2) := by decide +kernel
theorem dX3_lay_30 : decode cX3_lay 30 = .ok (.iload 5, 2) := by decide +kernel
theorem dX3_lay_32 : decode cX3_lay 32 = .ok (.iload 4, 2) := by decide +kernel
theorem dX3_lay_34 : decode cX3_lay 34 = .ok (.if_icmp .ge 46, 3) := by decide +kernel
theorem dX3_lay_37 : decode cX3_lay 37 = .ok (.aload_n 0, 1) := by decide +kernel
theorem dX3_lay_38 : decode cX3_lay 38 = .ok (.getfield 30, 3) := by decide +kernel
theorem dX3_lay_41 : decode cX3_lay 41 = .ok (.iload 5, 2) := by decide +kernel
theorem dX3_lay_43 : decode cX3_lay 43 = .ok (.aload_n 1, 1) := by decide +kernel
theorem dX3_lay_44 : decode cX3_lay 44 = .ok (.getfield 120, 3) := by decide +kernel
theorem dX3_lay_47 : decode cX3_lay 47 = .ok (.ifCond .eq 15, 3) := by decide +kernel
theorem dX3_lay_50 : decode cX3_lay 50 = .ok (.aload_n 0, 1) := by decide +kernel
theorem dX3_lay_51 : decode cX3_lay 51 = .ok (.getfield 30, 3) := by decide +kernel
theorem dX3_lay_54 : decode cX3_lay 54 = .ok (.iload 5, 2) := by decide +kernel
theorem dX3_lay_56 : decode cX3_lay 56 = .ok (.iaload, 1) := by decide +kernel
theorem dX3_lay_57 : decode cX3_lay 57 = .ok (.iload_n 2, 1) := by decide +kernel
theorem dX3_lay_58 : decode cX3_lay 58 = .ok (.ior, 1) := by decide +kernel
theorem dX3_lay_59 : decode cX3_lay 59 = .ok (.goto 14, 3) := by decide +kernel
theorem dX3_lay_62 : decode cX3_lay 62 = .ok (.aload_n 0, 1) := by decide +kernel
theorem dX3_lay_63 : decode cX3_lay 63 = .ok (.getfield 30, 3) := by decide +kernel
theorem dX3_lay_66 : decode cX3_lay 66 = .ok (.iload 5, 2) := by decide +kernel
theorem dX3_lay_68 : decode cX3_lay 68 = .ok (.iaload, 1) := by decide +kernel
theorem dX3_lay_69 : decode cX3_lay 69 = .ok (.iload_n 2, 1) := by decide +kernel
theorem dX3_lay_70 : decode cX3_lay 70 = .ok (.iconst (-1), 1) := by decide +kernel
theorem dX3_lay_71 : decode cX3_lay 71 = .ok (.ixor, 1) := by decide +kernel
theorem dX3_lay_72 : decode cX3_lay 72 = .ok (.iand, 1) := by decide +kernel
theorem dX3_lay_73 : decode cX3_lay 73 = .ok (.iastore, 1) := by decide +kernel
theorem dX3_lay_74 : decode cX3_lay 74 = .ok (.iinc 5 1, 3) := by decide +kernel
theorem dX3_lay_77 : decode cX3_lay 77 = .ok (.goto (-47), 3) := by decide +kernel
theorem dX3_lay_80 : decode cX3_lay 80 = .ok (.return_, 1) := by decide +kernel
theorem dX3_endOf_0 : decode cX3_endOf 0 = .ok (.aload_n 1, 1) := by decide +kernel
theorem dX3_endOf_1 : decode cX3_endOf 1 = .ok (.getfield 124, 3) := by decide +kernel
theorem dX3_endOf_4 : decode cX3_endOf 4 = .ok (.bipush (-3), 2) := by decide +kernel
theorem dX3_endOf_6 : decode cX3_endOf 6 = .ok (.if_icmp .ne 14, 3) := by decide +kernel
theorem dX3_endOf_9 : decode cX3_endOf 9 = .ok (.aload_n 0, 1) := by decide +kernel
theorem dX3_endOf_10 : decode cX3_endOf 10 = .ok (.aload_n 1, 1) := by decide +kernel
theorem dX3_endOf_11 : decode cX3_endOf 11 = .ok (.getfield 127, 3) := by decide +kernel
theorem dX3_endOf_14 : decode cX3_endOf 14 = .ok (.invokevirtual 85, 3) := by decide +kernel
theorem dX3_endOf_17 : decode cX3_endOf 17 = .ok (.iconst 1, 1) := by decide +kernel
theorem dX3_endOf_18 : decode cX3_endOf 18 = .ok (.iadd, 1) := by decide +kernel
theorem dX3_endOf_19 : decode cX3_endOf 19 = .ok (.ireturn, 1) := by decide +kernel
theorem dX3_endOf_20 : decode cX3_endOf 20 = .ok (.aload_n 1, 1) := by decide +kernel
theorem dX3_endOf_21 : decode cX3_endOf 21 = .ok (.getfield 124, 3) := by decide +kernel
theorem dX3_endOf_24 : decode cX3_endOf 24 = .ok (.bipush (-2), 2) := by decide +kernel
theorem dX3_endOf_26 : decode cX3_endOf 26 = .ok (.if_icmp .ne 10, 3) := by decide +kernel
theorem dX3_endOf_29 : decode cX3_endOf 29 = .ok (.aload_n 0, 1) := by decide +kernel
theorem dX3_endOf_30 : decode cX3_endOf 30 = .ok (.getfield 88, 3) := by decide +kernel
theorem dX3_endOf_33 : decode cX3_endOf 33 = .ok (.goto 11, 3) := by decide +kernel
theorem dX3_endOf_36 : decode cX3_endOf 36 = .ok (.aload_n 0, 1) := by decide +kernel
theorem dX3_endOf_37 : decode cX3_endOf 37 = .ok (.aload_n 1, 1) := by decide +kernel
theorem dX3_endOf_38 : decode cX3_endOf 38 = .ok (.getfield 124, 3) := by decide +kernel
theorem dX3_endOf_41 : decode cX3_endOf 41 = .ok (.invokevirtual 85, 3) := by decide +kernel
theorem dX3_endOf_44 : decode cX3_endOf 44 = .ok (.ireturn, 1) := by decide +kernel
theorem dX3_findTaken_0 : decode cX3_findTaken 0 = .ok (.iconst 0, 1) := by decide +kernel
theorem dX3_findTaken_1 : decode cX3_findTaken 1 = .ok (.istore_n 3, 1) := by decide +kernel
theorem dX3_findTaken_2 : decode cX3_findTaken 2 = .ok (.iload_n 3, 1) := by decide +kernel
theorem dX3_findTaken_3 : decode cX3_findTaken 3 = .ok (.aload_n 0, 1) := by decide +kernel
theorem dX3_findTaken_4 : decode cX3_findTaken 4 = .ok (.getfield 33, 3) := by decide +kernel
theorem dX3_findTaken_7 : decode cX3_findTaken 7 = .ok (.getfield 91, 3) := by decide +kernel
theorem dX3_findTaken_10 : decode cX3_findTaken 10 = .ok (.if_icmp .ge 61, 3) := by decide +kernel
theorem dX3_findTaken_13 : decode cX3_findTaken 13 = .ok (.aload_n 0, 1) := by decide +kernel
theorem dX3_findTaken_14 : decode cX3_findTaken 14 = .ok (.getfield 33, 3) := by decide +kernel
theorem dX3_findTaken_17 : decode cX3_findTaken 17 = .ok (.getfield 130, 3) := by decide +kernel
theorem dX3_findTaken_20 : decode cX3_findTaken 20 = .ok (.iload_n 3, 1) := by decide +kernel
theorem dX3_findTaken_21 : decode cX3_findTaken 21 = .ok (.aaload, 1) := by decide +kernel
theorem dX3_findTaken_22 : decode cX3_findTaken 22 = .ok (.astore 4, 2) := by decide +kernel
theorem dX3_findTaken_24 : decode cX3_findTaken 24 = .ok (.aload_n 1, 1) := by decide +kernel
theorem dX3_findTaken_25 : decode cX3_findTaken 25 = .ok (.aload 4, 2) := by decide +kernel
theorem dX3_findTaken_27 : decode cX3_findTaken 27 = .ok (.invokevirtual 133, 3) := by decide +kernel
theorem dX3_findTaken_30 : decode cX3_findTaken 30 = .ok (.ifCond .eq 16, 3) := by decide +kernel
theorem dX3_findTaken_33 : decode cX3_findTaken 33 = .ok (.aload 4, 2) := by decide +kernel
theorem dX3_findTaken_35 : decode cX3_findTaken 35 = .ok (.getfield 138, 3) := by decide +kernel
theorem dX3_findTaken_38 : decode cX3_findTaken 38 = .ok (.iload_n 2, 1) := by decide +kernel
theorem dX3_findTaken_39 : decode cX3_findTaken 39 = .ok (.if_icmp .gt 7, 3) := by decide +kernel
theorem dX3_findTaken_42 : decode cX3_findTaken 42 = .ok (.iconst 1, 1) := by decide +kernel
theorem dX3_findTaken_43 : decode cX3_findTaken 43 = .ok (.goto 4, 3) := by decide +kernel
theorem dX3_findTaken_46 : decode cX3_findTaken 46 = .ok (.iconst 0, 1) := by decide +kernel
theorem dX3_findTaken_47 : decode cX3_findTaken 47 = .ok (.istore 5, 2) := by decide +kernel
theorem dX3_findTaken_49 : decode cX3_findTaken 49 = .ok (.aload_n 0, 1) := by decide +kernel
theorem dX3_findTaken_50 : decode cX3_findTaken 50 = .ok (.getfield 9, 3) := by decide +kernel
theorem dX3_findTaken_53 : decode cX3_findTaken 53 = .ok (.iload_n 3, 1) := by decide +kernel
theorem dX3_findTaken_54 : decode cX3_findTaken 54 = .ok (.iload 5, 2) := by decide +kernel
theorem dX3_findTaken_56 : decode cX3_findTaken 56 = .ok (.ifCond .eq 7, 3) := by decide +kernel
theorem dX3_findTaken_59 : decode cX3_findTaken 59 = .ok (.iconst 3, 1) := by decide +kernel
theorem dX3_findTaken_60 : decode cX3_findTaken 60 = .ok (.goto 4, 3) := by decide +kernel
theorem dX3_findTaken_63 : decode cX3_findTaken 63 = .ok (.iconst 0, 1) := by decide +kernel
theorem dX3_findTaken_64 : decode cX3_findTaken 64 = .ok (.iastore, 1) := by decide +kernel
theorem dX3_findTaken_65 : decode cX3_findTaken 65 = .ok (.iinc 3 1, 3) := by decide +kernel
theorem dX3_findTaken_68 : decode cX3_findTaken 68 = .ok (.goto (-66), 3) := by decide +kernel
theorem dX3_findTaken_71 : decode cX3_findTaken 71 = .ok (.return_, 1) := by decide +kernel
theorem dX3_findUndone_0 : decode cX3_findUndone 0 = .ok (.aload_n 0, 1) := by decide +kernel
theorem dX3_findUndone_1 : decode cX3_findUndone 1 = .ok (.getfield 33, 3) := by decide +kernel
theorem dX3_findUndone_4 : decode cX3_findUndone 4 = .ok (.getfield 91, 3) := by decide +kernel
theorem dX3_findUndone_7 : decode cX3_findUndone 7 = .ok (.iconst 1, 1) := by decide +kernel
theorem dX3_findUndone_8 : decode cX3_findUndone 8 = .ok (.isub, 1) := by decide +kernel
theorem dX3_findUndone_9 : decode cX3_findUndone 9 = .ok (.istore_n 1, 1) := by decide +kernel
theorem dX3_findUndone_10 : decode cX3_findUndone 10 = .ok (.iload_n 1, 1) := by decide +kernel
theorem dX3_findUndone_11 : decode cX3_findUndone 11 = .ok (.ifCond .lt 51, 3) := by decide +kernel
theorem dX3_findUndone_14 : decode cX3_findUndone 14 = .ok (.aload_n 0, 1) := by decide +kernel
theorem dX3_findUndone_15 : decode cX3_findUndone 15 = .ok (.getfield 9, 3) := by decide +kernel
theorem dX3_findUndone_18 : decode cX3_findUndone 18 = .ok (.iload_n 1, 1) := by decide +kernel
theorem dX3_findUndone_19 : decode cX3_findUndone 19 = .ok (.iaload, 1) := by decide +kernel
theorem dX3_findUndone_20 : decode cX3_findUndone 20 = .ok (.iconst 3, 1) := by decide +kernel
theorem dX3_findUndone_21 : decode cX3_findUndone 21 = .ok (.if_icmp .ne 35, 3) := by decide +kernel
theorem dX3_findUndone_24 : decode cX3_findUndone 24 = .ok (.aload_n 0, 1) := by decide +kernel
theorem dX3_findUndone_25 : decode cX3_findUndone 25 = .ok (.getfield 33, 3) := by decide +kernel
theorem dX3_findUndone_28 : decode cX3_findUndone 28 = .ok (.getfield 130, 3) := by decide +kernel
theorem dX3_findUndone_31 : decode cX3_findUndone 31 = .ok (.iload_n 1, 1) := by decide +kernel
theorem dX3_findUndone_32 : decode cX3_findUndone 32 = .ok (.aaload, 1) := by decide +kernel
theorem dX3_findUndone_33 : decode cX3_findUndone 33 = .ok (.astore_n 3, 1) := by decide +kernel
theorem dX3_findUndone_34 : decode cX3_findUndone 34 = .ok (.aload_n 3, 1) := by decide +kernel
theorem dX3_findUndone_35 : decode cX3_findUndone 35 = .ok (.instanceof 141, 3) := by decide +kernel
theorem dX3_findUndone_38 : decode cX3_findUndone 38 = .ok (.ifCond .eq 18, 3) := by decide +kernel
theorem dX3_findUndone_41 : decode cX3_findUndone 41 = .ok (.aload_n 3, 1) := by decide +kernel
theorem dX3_findUndone_42 : decode cX3_findUndone 42 = .ok (.checkcast 141, 3) := by decide +kernel
theorem dX3_findUndone_45 : decode cX3_findUndone 45 = .ok (.astore_n 2, 1) := by decide +kernel
theorem dX3_findUndone_46 : decode cX3_findUndone 46 = .ok (.aload_n 0, 1) := by decide +kernel
theorem dX3_findUndone_47 : decode cX3_findUndone 47 = .ok (.getfield 9, 3) := by decide +kernel
theorem dX3_findUndone_50 : decode cX3_findUndone 50 = .ok (.aload_n 2, 1) := by decide +kernel
theorem dX3_findUndone_51 : decode cX3_findUndone 51 = .ok (.getfield 143, 3) := by decide +kernel
theorem dX3_findUndone_54 : decode cX3_findUndone 54 = .ok (.iconst 2, 1) := by decide +kernel
theorem dX3_findUndone_55 : decode cX3_findUndone 55 = .ok (.iastore, 1) := by decide +kernel
theorem dX3_findUndone_56 : decode cX3_findUndone 56 = .ok (.iinc 1 (-1), 3) := by decide +kernel
theorem dX3_findUndone_59 : decode cX3_findUndone 59 = .ok (.goto (-49), 3) := by decide +kernel
theorem dX3_findUndone_62 : decode cX3_findUndone 62 = .ok (.return_, 1) := by decide +kernel
theorem dX3_findOrder_0 : decode cX3_findOrder 0 = .ok (.aload_n 0, 1) := by decide +kernel
theorem dX3_findOrder_1 : decode cX3_findOrder 1 = .ok (.iconst 0, 1) := by decide +kernel
theorem dX3_findOrder_2 : decode cX3_findOrder 2 = .ok (.putfield 88, 3) := by decide +kernel
theorem dX3_findOrder_5 : decode cX3_findOrder 5 = .ok (.iconst 0, 1) := by decide +kernel
theorem dX3_findOrder_6 : decode cX3_findOrder 6 = .ok (.istore_n 1, 1) := by decide +kernel
theorem dX3_findOrder_7 : decode cX3_findOrder 7 = .ok (.iload_n 1, 1) := by decide +kernel
theorem dX3_findOrder_8 : decode cX3_findOrder 8 = .ok (.aload_n 0, 1) := by decide +kernel
theorem dX3_findOrder_9 : decode cX3_findOrder 9 = .ok (.getfield 33, 3) := by decide +kernel
theorem dX3_findOrder_12 : decode cX3_findOrder 12 = .ok (.getfield 146, 3) := by decide +kernel
theorem dX3_findOrder_15 : decode cX3_findOrder 15 = .ok (.if_icmp .ge 71, 3) := by decide +kernel
theorem dX3_findOrder_18 : decode cX3_findOrder 18 = .ok (.aload_n 0, 1) := by decide +kernel
theorem dX3_findOrder_19 : decode cX3_findOrder 19 = .ok (.getfield 33, 3) := by decide +kernel
theorem dX3_findOrder_22 : decode cX3_findOrder 22 = .ok (.getfield 147, 3) := by decide +kernel
theorem dX3_findOrder_25 : decode cX3_findOrder 25 = .ok (.iload_n 1, 1) := by decide +kernel
theorem dX3_findOrder_26 : decode cX3_findOrder 26 = .ok (.iaload, 1) := by decide +kernel
theorem dX3_findOrder_27 : decode cX3_findOrder 27 = .ok (.istore_n 2, 1) := by decide +kernel
theorem dX3_findOrder_28 : decode cX3_findOrder 28 = .ok (.aload_n 0, 1) := by decide +kernel
theorem dX3_findOrder_29 : decode cX3_findOrder 29 = .ok (.getfield 9, 3) := by decide +kernel
theorem dX3_findOrder_32 : decode cX3_findOrder 32 = .ok (.iload_n 2, 1) := by decide +kernel
theorem dX3_findOrder_33 : decode cX3_findOrder 33 = .ok (.invokestatic 148, 3) := by decide +kernel
theorem dX3_findOrder_36 : decode cX3_findOrder 36 = .ok (.iaload, 1) := by decide +kernel
theorem dX3_findOrder_37 : decode cX3_findOrder 37 = .ok (.ifCond .ne 13, 3) := by decide +kernel
theorem dX3_findOrder_40 : decode cX3_findOrder 40 = .ok (.aload_n 0, 1) := by decide +kernel
theorem dX3_findOrder_41 : decode cX3_findOrder 41 = .ok (.getfield 18, 3) := by decide +kernel
theorem dX3_findOrder_44 : decode cX3_findOrder 44 = .ok (.iload_n 2, 1) := by decide +kernel
theorem dX3_findOrder_45 : decode cX3_findOrder 45 = .ok (.iconst (-1), 1) := by decide +kernel
theorem dX3_findOrder_46 : decode cX3_findOrder 46 = .ok (.iastore, 1) := by decide +kernel
theorem dX3_findOrder_47 : decode cX3_findOrder 47 = .ok (.goto 33, 3) := by decide +kernel
theorem dX3_findOrder_50 : decode cX3_findOrder 50 = .ok (.aload_n 0, 1) := by decide +kernel
theorem dX3_findOrder_51 : decode cX3_findOrder 51 = .ok (.getfield 18, 3) := by decide +kernel
theorem dX3_findOrder_54 : decode cX3_findOrder 54 = .ok (.iload_n 2, 1) := by decide +kernel
theorem dX3_findOrder_55 : decode cX3_findOrder 55 = .ok (.aload_n 0, 1) := by decide +kernel
theorem dX3_findOrder_56 : decode cX3_findOrder 56 = .ok (.getfield 88, 3) := by decide +kernel
theorem dX3_findOrder_59 : decode cX3_findOrder 59 = .ok (.iastore, 1) := by decide +kernel
theorem dX3_findOrder_60 : decode cX3_findOrder 60 = .ok (.aload_n 0, 1) := by decide +kernel
theorem dX3_findOrder_61 : decode cX3_findOrder 61 = .ok (.getfield 15, 3) := by decide +kernel
theorem dX3_findOrder_64 : decode cX3_findOrder 64 = .ok (.aload_n 0, 1) := by decide +kernel
theorem dX3_findOrder_65 : decode cX3_findOrder 65 = .ok (.getfield 88, 3) := by decide +kernel
theorem dX3_findOrder_68 : decode cX3_findOrder 68 = .ok (.iload_n 2, 1) := by decide +kernel
theorem dX3_findOrder_69 : decode cX3_findOrder 69 = .ok (.iastore, 1) := by decide +kernel
theorem dX3_findOrder_70 : decode cX3_findOrder 70 = .ok (.aload_n 0, 1) := by decide +kernel
theorem dX3_findOrder_71 : decode cX3_findOrder 71 = .ok (.dup, 1) := by decide +kernel
theorem dX3_findOrder_72 : decode cX3_findOrder 72 = .ok (.getfield 88, 3) := by decide +kernel
theorem dX3_findOrder_75 : decode cX3_findOrder 75 = .ok (.iconst 1, 1) := by decide +kernel
theorem dX3_findOrder_76 : decode cX3_findOrder 76 = .ok (.iadd, 1) := by decide +kernel
theorem dX3_findOrder_77 : decode cX3_findOrder 77 = .ok (.putfield 88, 3) := by decide +kernel
theorem dX3_findOrder_80 : decode cX3_findOrder 80 = .ok (.iinc 1 1, 3) := by decide +kernel
theorem dX3_findOrder_83 : decode cX3_findOrder 83 = .ok (.goto (-76), 3) := by decide +kernel
theorem dX3_findOrder_86 : decode cX3_findOrder 86 = .ok (.return_, 1) := by decide +kernel
theorem dX3_findStruck_0 : decode cX3_findStruck 0 = .ok (.iconst 0, 1) := by decide +kernel
theorem dX3_findStruck_1 : decode cX3_findStruck 1 = .ok (.istore_n 1, 1) := by decide +kernel
theorem dX3_findStruck_2 : decode cX3_findStruck 2 = .ok (.iload_n 1, 1) := by decide +kernel
theorem dX3_findStruck_3 : decode cX3_findStruck 3 = .ok (.aload_n 0, 1) := by decide +kernel
theorem dX3_findStruck_4 : decode cX3_findStruck 4 = .ok (.getfield 88, 3) := by decide +kernel
theorem dX3_findStruck_7 : decode cX3_findStruck 7 = .ok (.if_icmp .ge 16, 3) := by decide +kernel
theorem dX3_findStruck_10 : decode cX3_findStruck 10 = .ok (.aload_n 0, 1) := by decide +kernel
theorem dX3_findStruck_11 : decode cX3_findStruck 11 = .ok (.getfield 21, 3) := by decide +kernel
theorem dX3_findStruck_14 : decode cX3_findStruck 14 = .ok (.iload_n 1, 1) := by decide +kernel
theorem dX3_findStruck_15 : decode cX3_findStruck 15 = .ok (.iconst 0, 1) := by decide +kernel
theorem dX3_findStruck_16 : decode cX3_findStruck 16 = .ok (.iastore, 1) := by decide +kernel
theorem dX3_findStruck_17 : decode cX3_findStruck 17 = .ok (.iinc 1 1, 3) := by decide +kernel
theorem dX3_findStruck_20 : decode cX3_findStruck 20 = .ok (.goto (-18), 3) := by decide +kernel
theorem dX3_findStruck_23 : decode cX3_findStruck 23 = .ok (.iconst 0, 1) := by decide +kernel
theorem dX3_findStruck_24 : decode cX3_findStruck 24 = .ok (.istore_n 1, 1) := by decide +kernel
theorem dX3_findStruck_25 : decode cX3_findStruck 25 = .ok (.iload_n 1, 1) := by decide +kernel
theorem dX3_findStruck_26 : decode cX3_findStruck 26 = .ok (.aload_n 0, 1) := by decide +kernel
theorem dX3_findStruck_27 : decode cX3_findStruck 27 = .ok (.getfield 33, 3) := by decide +kernel
theorem dX3_findStruck_30 : decode cX3_findStruck 30 = .ok (.getfield 91, 3) := by decide +kernel
theorem dX3_findStruck_33 : decode cX3_findStruck 33 = .ok (.if_icmp .ge 46, 3) := by decide +kernel
theorem dX3_findStruck_36 : decode cX3_findStruck 36 = .ok (.aload_n 0, 1) := by decide +kernel
theorem dX3_findStruck_37 : decode cX3_findStruck 37 = .ok (.getfield 9, 3) := by decide +kernel
theorem dX3_findStruck_40 : decode cX3_findStruck 40 = .ok (.iload_n 1, 1) := by decide +kernel
theorem dX3_findStruck_41 : decode cX3_findStruck 41 = .ok (.iaload, 1) := by decide +kernel
theorem dX3_findStruck_42 : decode cX3_findStruck 42 = .ok (.iconst 3, 1) := by decide +kernel
theorem dX3_findStruck_43 : decode cX3_findStruck 43 = .ok (.if_icmp .ne 30, 3) := by decide +kernel
theorem dX3_findStruck_46 : decode cX3_findStruck 46 = .ok (.aload_n 0, 1) := by decide +kernel
theorem dX3_findStruck_47 : decode cX3_findStruck 47 = .ok (.getfield 33, 3) := by decide +kernel
theorem dX3_findStruck_50 : decode cX3_findStruck 50 = .ok (.getfield 130, 3) := by decide +kernel
theorem dX3_findStruck_53 : decode cX3_findStruck 53 = .ok (.iload_n 1, 1) := by decide +kernel
theorem dX3_findStruck_54 : decode cX3_findStruck 54 = .ok (.aaload, 1) := by decide +kernel
theorem dX3_findStruck_55 : decode cX3_findStruck 55 = .ok (.astore_n 3, 1) := by decide +kernel
theorem dX3_findStruck_56 : decode cX3_findStruck 56 = .ok (.aload_n 3, 1) := by decide +kernel
theorem dX3_findStruck_57 : decode cX3_findStruck 57 = .ok (.instanceof 151, 3) := by decide +kernel
theorem dX3_findStruck_60 : decode cX3_findStruck 60 = .ok (.ifCond .eq 13, 3) := by decide +kernel
theorem dX3_findStruck_63 : decode cX3_findStruck 63 = .ok (.aload_n 3, 1) := by decide +kernel
theorem dX3_findStruck_64 : decode cX3_findStruck 64 = .ok (.checkcast 151, 3) := by decide +kernel
theorem dX3_findStruck_67 : decode cX3_findStruck 67 = .ok (.astore_n 2, 1) := by decide +kernel
theorem dX3_findStruck_68 : decode cX3_findStruck 68 = .ok (.aload_n 0, 1) := by decide +kernel
theorem dX3_findStruck_69 : decode cX3_findStruck 69 = .ok (.aload_n 2, 1) := by decide +kernel
theorem dX3_findStruck_70 : decode cX3_findStruck 70 = .ok (.invokevirtual 153, 3) := by decide +kernel
theorem dX3_findStruck_73 : decode cX3_findStruck 73 = .ok (.iinc 1 1, 3) := by decide +kernel
theorem dX3_findStruck_76 : decode cX3_findStruck 76 = .ok (.goto (-51), 3) := by decide +kernel
theorem dX3_findStruck_79 : decode cX3_findStruck 79 = .ok (.return_, 1) := by decide +kernel
theorem dX3_countStruck_0 : decode cX3_countStruck 0 = .ok (.iconst 0, 1) := by decide +kernel
theorem dX3_countStruck_1 : decode cX3_countStruck 1 = .ok (.istore_n 2, 1) := by decide +kernel
theorem dX3_countStruck_2 : decode cX3_countStruck 2 = .ok (.iload_n 2, 1) := by decide +kernel
theorem dX3_countStruck_3 : decode cX3_countStruck 3 = .ok (.aload_n 1, 1) := by decide +kernel
theorem dX3_countStruck_4 : decode cX3_countStruck 4 = .ok (.getfield 157, 3) := by decide +kernel
theorem dX3_countStruck_7 : decode cX3_countStruck 7 = .ok (.arraylength, 1) := by decide +kernel
theorem dX3_countStruck_8 : decode cX3_countStruck 8 = .ok (.if_icmp .ge 35, 3) := by decide +kernel
theorem dX3_countStruck_11 : decode cX3_countStruck 11 = .ok (.aload_n 0, 1) := by decide +kernel
theorem dX3_countStruck_12 : decode cX3_countStruck 12 = .ok (.aload_n 1, 1) := by decide +kernel
theorem dX3_countStruck_13 : decode cX3_countStruck 13 = .ok (.getfield 157, 3) := by decide +kernel
theorem dX3_countStruck_16 : decode cX3_countStruck 16 = .ok (.iload_n 2, 1) := by decide +kernel
theorem dX3_countStruck_17 : decode cX3_countStruck 17 = .ok (.iaload, 1) := by decide +kernel
theorem dX3_countStruck_18 : decode cX3_countStruck 18 = .ok (.invokevirtual 85, 3) := by decide +kernel
theorem dX3_countStruck_21 : decode cX3_countStruck 21 = .ok (.istore_n 3, 1) := by decide +kernel
theorem dX3_countStruck_22 : decode cX3_countStruck 22 = .ok (.iload_n 3, 1) := by decide +kernel
theorem dX3_countStruck_23 : decode cX3_countStruck 23 = .ok (.iconst (-1), 1) := by decide +kernel
theorem dX3_countStruck_24 : decode cX3_countStruck 24 = .ok (.if_icmp .eq 13, 3) := by decide +kernel
theorem dX3_countStruck_27 : decode cX3_countStruck 27 = .ok (.aload_n 0, 1) := by decide +kernel
theorem dX3_countStruck_28 : decode cX3_countStruck 28 = .ok (.getfield 21, 3) := by decide +kernel
theorem dX3_countStruck_31 : decode cX3_countStruck 31 = .ok (.iload_n 3, 1) := by decide +kernel
theorem dX3_countStruck_32 : decode cX3_countStruck 32 = .ok (.dup2, 1) := by decide +kernel
theorem dX3_countStruck_33 : decode cX3_countStruck 33 = .ok (.iaload, 1) := by decide +kernel
theorem dX3_countStruck_34 : decode cX3_countStruck 34 = .ok (.iconst 1, 1) := by decide +kernel
theorem dX3_countStruck_35 : decode cX3_countStruck 35 = .ok (.iadd, 1) := by decide +kernel
theorem dX3_countStruck_36 : decode cX3_countStruck 36 = .ok (.iastore, 1) := by decide +kernel
theorem dX3_countStruck_37 : decode cX3_countStruck 37 = .ok (.iinc 2 1, 3) := by decide +kernel
theorem dX3_countStruck_40 : decode cX3_countStruck 40 = .ok (.goto (-38), 3) := by decide +kernel
theorem dX3_countStruck_43 : decode cX3_countStruck 43 = .ok (.return_, 1) := by decide +kernel
theorem dX3_findSeen_0 : decode cX3_findSeen 0 = .ok (.aload_n 0, 1) := by decide +kernel
theorem dX3_findSeen_1 : decode cX3_findSeen 1 = .ok (.iconst 0, 1) := by decide +kernel
theorem dX3_findSeen_2 : decode cX3_findSeen 2 = .ok (.putfield 65, 3) := by decide +kernel
theorem dX3_findSeen_5 : decode cX3_findSeen 5 = .ok (.iconst 0, 1) := by decide +kernel
theorem dX3_findSeen_6 : decode cX3_findSeen 6 = .ok (.istore_n 1, 1) := by decide +kernel
theorem dX3_findSeen_7 : decode cX3_findSeen 7 = .ok (.iload_n 1, 1) := by decide +kernel
theorem dX3_findSeen_8 : decode cX3_findSeen 8 = .ok (.aload_n 0, 1) := by decide +kernel
theorem dX3_findSeen_9 : decode cX3_findSeen 9 = .ok (.getfield 88, 3) := by decide +kernel
theorem dX3_findSeen_12 : decode cX3_findSeen 12 = .ok (.if_icmp .ge 66, 3) := by decide +kernel
theorem dX3_findSeen_15 : decode cX3_findSeen 15 = .ok (.aload_n 0, 1) := by decide +kernel
theorem dX3_findSeen_16 : decode cX3_findSeen 16 = .ok (.getfield 24, 3) := by decide +kernel
theorem dX3_findSeen_19 : decode cX3_findSeen 19 = .ok (.iload_n 1, 1) := by decide +kernel
theorem dX3_findSeen_20 : decode cX3_findSeen 20 = .ok (.aload_n 0, 1) := by decide +kernel
theorem dX3_findSeen_21 : decode cX3_findSeen 21 = .ok (.getfield 65, 3) := by decide +kernel
theorem dX3_findSeen_24 : decode cX3_findSeen 24 = .ok (.iastore, 1) := by decide +kernel
theorem dX3_findSeen_25 : decode cX3_findSeen 25 = .ok (.aload_n 0, 1) := by decide +kernel
theorem dX3_findSeen_26 : decode cX3_findSeen 26 = .ok (.getfield 21, 3) := by decide +kernel
theorem dX3_findSeen_29 : decode cX3_findSeen 29 = .ok (.iload_n 1, 1) := by decide +kernel
theorem dX3_findSeen_30 : decode cX3_findSeen 30 = .ok (.iaload, 1) := by decide +kernel
theorem dX3_findSeen_31 : decode cX3_findSeen 31 = .ok (.ifCond .ne 41, 3) := by decide +kernel
theorem dX3_findSeen_34 : decode cX3_findSeen 34 = .ok (.aload_n 0, 1) := by decide +kernel
theorem dX3_findSeen_35 : decode cX3_findSeen 35 = .ok (.getfield 9, 3) := by decide +kernel
theorem dX3_findSeen_38 : decode cX3_findSeen 38 = .ok (.aload_n 0, 1) := by decide +kernel
theorem dX3_findSeen_39 : decode cX3_findSeen 39 = .ok (.getfield 15, 3) := by decide +kernel
theorem dX3_findSeen_42 : decode cX3_findSeen 42 = .ok (.iload_n 1, 1) := by decide +kernel
theorem dX3_findSeen_43 : decode cX3_findSeen 43 = .ok (.iaload, 1) := by decide +kernel
theorem dX3_findSeen_44 : decode cX3_findSeen 44 = .ok (.invokestatic 148, 3) := by decide +kernel
theorem dX3_findSeen_47 : decode cX3_findSeen 47 = .ok (.iaload, 1) := by decide +kernel
theorem dX3_findSeen_48 : decode cX3_findSeen 48 = .ok (.iconst 3, 1) := by decide +kernel
theorem dX3_findSeen_49 : decode cX3_findSeen 49 = .ok (.if_icmp .ne 23, 3) := by decide +kernel
theorem dX3_findSeen_52 : decode cX3_findSeen 52 = .ok (.aload_n 0, 1) := by decide +kernel
theorem dX3_findSeen_53 : decode cX3_findSeen 53 = .ok (.getfield 27, 3) := by decide +kernel
theorem dX3_findSeen_56 : decode cX3_findSeen 56 = .ok (.aload_n 0, 1) := by decide +kernel
theorem dX3_findSeen_57 : decode cX3_findSeen 57 = .ok (.getfield 65, 3) := by decide +kernel
theorem dX3_findSeen_60 : decode cX3_findSeen 60 = .ok (.iload_n 1, 1) := by decide +kernel
theorem dX3_findSeen_61 : decode cX3_findSeen 61 = .ok (.iastore, 1) := by decide +kernel
theorem dX3_findSeen_62 : decode cX3_findSeen 62 = .ok (.aload_n 0, 1) := by decide +kernel
theorem dX3_findSeen_63 : decode cX3_findSeen 63 = .ok (.dup, 1) := by decide +kernel
theorem dX3_findSeen_64 : decode cX3_findSeen 64 = .ok (.getfield 65, 3) := by decide +kernel
theorem dX3_findSeen_67 : decode cX3_findSeen 67 = .ok (.iconst 1, 1) := by decide +kernel
theorem dX3_findSeen_68 : decode cX3_findSeen 68 = .ok (.iadd, 1) := by decide +kernel
theorem dX3_findSeen_69 : decode cX3_findSeen 69 = .ok (.putfield 65, 3) := by decide +kernel
theorem dX3_findSeen_72 : decode cX3_findSeen 72 = .ok (.iinc 1 1, 3) := by decide +kernel
theorem dX3_findSeen_75 : decode cX3_findSeen 75 = .ok (.goto (-68), 3) := by decide +kernel
theorem dX3_findSeen_78 : decode cX3_findSeen 78 = .ok (.aload_n 0, 1) := by decide +kernel
theorem dX3_findSeen_79 : decode cX3_findSeen 79 = .ok (.getfield 24, 3) := by decide +kernel
theorem dX3_findSeen_82 : decode cX3_findSeen 82 = .ok (.aload_n 0, 1) := by decide +kernel
theorem dX3_findSeen_83 : decode cX3_findSeen 83 = .ok (.getfield 88, 3) := by decide +kernel
theorem dX3_findSeen_86 : decode cX3_findSeen 86 = .ok (.aload_n 0, 1) := by decide +kernel
theorem dX3_findSeen_87 : decode cX3_findSeen 87 = .ok (.getfield 65, 3) := by decide +kernel
theorem dX3_findSeen_90 : decode cX3_findSeen 90 = .ok (.iastore, 1) := by decide +kernel
theorem dX3_findSeen_91 : decode cX3_findSeen 91 = .ok (.return_, 1) := by decide +kernel
theorem dX4_init_0 : decode cX4_init 0 = .ok (.aload_n 0, 1) := by decide +kernel
theorem dX4_init_1 : decode cX4_init 1 = .ok (.invokespecial 3, 3) := by decide +kernel
theorem dX4_init_4 : decode cX4_init 4 = .ok (.aload_n 0, 1) := by decide +kernel
theorem dX4_init_5 : decode cX4_init 5 = .ok (.sipush 256, 3) := by decide +kernel
theorem dX4_init_8 : decode cX4_init 8 = .ok (.newarray .int, 2) := by decide +kernel
theorem dX4_init_10 : decode cX4_init 10 = .ok (.putfield 9, 3) := by decide +kernel
theorem dX4_init_13 : decode cX4_init 13 = .ok (.aload_n 0, 1) := by decide +kernel
theorem dX4_init_14 : decode cX4_init 14 = .ok (.iconst 3, 1) := by decide +kernel
theorem dX4_init_15 : decode cX4_init 15 = .ok (.newarray .int, 2) := by decide +kernel
theorem dX4_init_17 : decode cX4_init 17 = .ok (.putfield 15, 3) := by decide +kernel
theorem dX4_init_20 : decode cX4_init 20 = .ok (.aload_n 0, 1) := by decide +kernel
theorem dX4_init_21 : decode cX4_init 21 = .ok (.iconst 3, 1) := by decide +kernel
theorem dX4_init_22 : decode cX4_init 22 = .ok (.newarray .int, 2) := by decide +kernel
theorem dX4_init_24 : decode cX4_init 24 = .ok (.putfield 18, 3) := by decide +kernel
theorem dX4_init_27 : decode cX4_init 27 = .ok (.aload_n 0, 1) := by decide +kernel
theorem dX4_init_28 : decode cX4_init 28 = .ok (.iconst (-1), 1) := by decide +kernel
theorem dX4_init_29 : decode cX4_init 29 = .ok (.putfield 21, 3) := by decide +kernel
theorem dX4_init_32 : decode cX4_init 32 = .ok (.aload_n 0, 1) := by decide +kernel
theorem dX4_init_33 : decode cX4_init 33 = .ok (.iload_n 1, 1) := by decide +kernel
theorem dX4_init_34 : decode cX4_init 34 = .ok (.putfield 25, 3) := by decide +kernel
theorem dX4_init_37 : decode cX4_init 37 = .ok (.aload_n 0, 1) := by decide +kernel
theorem dX4_init_38 : decode cX4_init 38 = .ok (.getfield 18, 3) := by decide +kernel
theorem dX4_init_41 : decode cX4_init 41 = .ok (.iconst (-1), 1) := by decide +kernel
theorem dX4_init_42 : decode cX4_init 42 = .ok (.invokestatic 28, 3) := by decide +kernel
theorem dX4_init_45 : decode cX4_init 45 = .ok (.return_, 1) := by decide +kernel
theorem dX4_hasTaken_0 : decode cX4_hasTaken 0 = .ok (.aload_n 0, 1) := by decide +kernel
theorem dX4_hasTaken_1 : decode cX4_hasTaken 1 = .ok (.getfield 9, 3) := by decide +kernel
theorem dX4_hasTaken_4 : decode cX4_hasTaken 4 = .ok (.aload_n 1, 1) := by decide +kernel
theorem dX4_hasTaken_5 : decode cX4_hasTaken 5 = .ok (.getfield 34, 3) := by decide +kernel
theorem dX4_hasTaken_8 : decode cX4_hasTaken 8 = .ok (.iaload, 1) := by decide +kernel
theorem dX4_hasTaken_9 : decode cX4_hasTaken 9 = .ok (.iconst 2, 1) := by decide +kernel
theorem dX4_hasTaken_10 : decode cX4_hasTaken 10 = .ok (.if_icmp .ne 7, 3) := by decide +kernel
theorem dX4_hasTaken_13 : decode cX4_hasTaken 13 = .ok (.iconst 1, 1) := by decide +kernel
theorem dX4_hasTaken_14 : decode cX4_hasTaken 14 = .ok (.goto 4, 3) := by decide +kernel
theorem dX4_hasTaken_17 : decode cX4_hasTaken 17 = .ok (.iconst 0, 1) := by decide +kernel
theorem dX4_hasTaken_18 : decode cX4_hasTaken 18 = .ok (.ireturn, 1) := by decide +kernel
theorem dX4_own_0 : decode cX4_own 0 = .ok (.aload_n 0, 1) := by decide +kernel
theorem dX4_own_1 : decode cX4_own 1 = .ok (.aload_n 1, 1) := by decide +kernel
theorem dX4_own_2 : decode cX4_own 2 = .ok (.getfield 34, 3) := by decide +kernel
theorem dX4_own_5 : decode cX4_own 5 = .ok (.putfield 21, 3) := by decide +kernel
theorem dX4_own_8 : decode cX4_own 8 = .ok (.aload_n 0, 1) := by decide +kernel
theorem dX4_own_9 : decode cX4_own 9 = .ok (.aload_n 1, 1) := by decide +kernel
theorem dX4_own_10 : decode cX4_own 10 = .ok (.invokevirtual 39, 3) := by decide +kernel
theorem dX4_own_13 : decode cX4_own 13 = .ok (.return_, 1) := by decide +kernel
theorem dX4_get_0 : decode cX4_get 0 = .ok (.aload_n 0, 1) := by decide +kernel
theorem dX4_get_1 : decode cX4_get 1 = .ok (.getfield 9, 3) := by decide +kernel
theorem dX4_get_4 : decode cX4_get 4 = .ok (.aload_n 1, 1) := by decide +kernel
theorem dX4_get_5 : decode cX4_get 5 = .ok (.getfield 34, 3) := by decide +kernel
theorem dX4_get_8 : decode cX4_get 8 = .ok (.iaload, 1) := by decide +kernel
theorem dX4_get_9 : decode cX4_get 9 = .ok (.ifCond .ne 13, 3) := by decide +kernel
theorem dX4_get_12 : decode cX4_get 12 = .ok (.aload_n 0, 1) := by decide +kernel
theorem dX4_get_13 : decode cX4_get 13 = .ok (.getfield 9, 3) := by decide +kernel
theorem dX4_get_16 : decode cX4_get 16 = .ok (.aload_n 1, 1) := by decide +kernel
theorem dX4_get_17 : decode cX4_get 17 = .ok (.getfield 34, 3) := by decide +kernel
theorem dX4_get_20 : decode cX4_get 20 = .ok (.iconst 1, 1) := by decide +kernel
theorem dX4_get_21 : decode cX4_get 21 = .ok (.iastore, 1) := by decide +kernel
theorem dX4_get_22 : decode cX4_get 22 = .ok (.return_, 1) := by decide +kernel
theorem dX4_settle_0 : decode cX4_settle 0 = .ok (.iconst 0, 1) := by decide +kernel
theorem dX4_settle_1 : decode cX4_settle 1 = .ok (.istore_n 2, 1) := by decide +kernel
theorem dX4_settle_2 : decode cX4_settle 2 = .ok (.iconst 0, 1) := by decide +kernel
theorem dX4_settle_3 : decode cX4_settle 3 = .ok (.istore_n 3, 1) := by decide +kernel
theorem dX4_settle_4 : decode cX4_settle 4 = .ok (.iload_n 3, 1) := by decide +kernel
theorem dX4_settle_5 : decode cX4_settle 5 = .ok (.aload_n 1, 1) := by decide +kernel
theorem dX4_settle_6 : decode cX4_settle 6 = .ok (.getfield 43, 3) := by decide +kernel
theorem dX4_settle_9 : decode cX4_settle 9 = .ok (.if_icmp .ge 46, 3) := by decide +kernel
theorem dX4_settle_12 : decode cX4_settle 12 = .ok (.aload_n 0, 1) := by decide +kernel
theorem dX4_settle_13 : decode cX4_settle 13 = .ok (.getfield 9, 3) := by decide +kernel
theorem dX4_settle_16 : decode cX4_settle 16 = .ok (.iload_n 3, 1) := by decide +kernel
theorem dX4_settle_17 : decode cX4_settle 17 = .ok (.iaload, 1) := by decide +kernel
theorem dX4_settle_18 : decode cX4_settle 18 = .ok (.iconst 1, 1) := by decide +kernel
theorem dX4_settle_19 : decode cX4_settle 19 = .ok (.if_icmp .ne 30, 3) := by decide +kernel
theorem dX4_settle_22 : decode cX4_settle 22 = .ok (.aload_n 0, 1) := by decide +kernel
theorem dX4_settle_23 : decode cX4_settle 23 = .ok (.aload_n 1, 1) := by decide +kernel
theorem dX4_settle_24 : decode cX4_settle 24 = .ok (.getfield 48, 3) := by decide +kernel
theorem dX4_settle_27 : decode cX4_settle 27 = .ok (.iload_n 3, 1) := by decide +kernel
theorem dX4_settle_28 : decode cX4_settle 28 = .ok (.aaload, 1) := by decide +kernel
theorem dX4_settle_29 : decode cX4_settle 29 = .ok (.invokevirtual 52, 3) := by decide +kernel
theorem dX4_settle_32 : decode cX4_settle 32 = .ok (.iconst (-1), 1) := by decide +kernel
theorem dX4_settle_33 : decode cX4_settle 33 = .ok (.if_icmp .ne 16, 3) := by decide +kernel
theorem dX4_settle_36 : decode cX4_settle 36 = .ok (.aload_n 0, 1) := by decide +kernel
theorem dX4_settle_37 : decode cX4_settle 37 = .ok (.aload_n 1, 1) := by decide +kernel
theorem dX4_settle_38 : decode cX4_settle 38 = .ok (.getfield 48, 3) := by decide +kernel
theorem dX4_settle_41 : decode cX4_settle 41 = .ok (.iload_n 3, 1) := by decide +kernel
theorem dX4_settle_42 : decode cX4_settle 42 = .ok (.aaload, 1) := by decide +kernel
theorem dX4_settle_43 : decode cX4_settle 43 = .ok (.invokevirtual 39, 3) := by decide +kernel
theorem dX4_settle_46 : decode cX4_settle 46 = .ok (.iinc 2 1, 3) := by decide +kernel
theorem dX4_settle_49 : decode cX4_settle 49 = .ok (.iinc 3 1, 3) := by decide +kernel
theorem dX4_settle_52 : decode cX4_settle 52 = .ok (.goto (-48), 3) := by decide +kernel
theorem dX4_settle_55 : decode cX4_settle 55 = .ok (.iload_n 2, 1) := by decide +kernel
theorem dX4_settle_56 : decode cX4_settle 56 = .ok (.ireturn, 1) := by decide +kernel
theorem dX4_leastMissing_0 : decode cX4_leastMissing 0 = .ok (.aload_n 0, 1) := by decide +kernel
theorem dX4_leastMissing_1 : decode cX4_leastMissing 1 = .ok (.iconst (-1), 1) := by decide +kernel
theorem dX4_leastMissing_2 : decode cX4_leastMissing 2 = .ok (.aload_n 1, 1) := by decide +kernel
theorem dX4_leastMissing_3 : decode cX4_leastMissing 3 = .ok (.getfield 56, 3) := by decide +kernel
theorem dX4_leastMissing_6 : decode cX4_leastMissing 6 = .ok (.invokevirtual 59, 3) := by decide +kernel
theorem dX4_leastMissing_9 : decode cX4_leastMissing 9 = .ok (.istore_n 2, 1) := by decide +kernel
theorem dX4_leastMissing_10 : decode cX4_leastMissing 10 = .ok (.aload_n 1, 1) := by decide +kernel
theorem dX4_leastMissing_11 : decode cX4_leastMissing 11 = .ok (.invokevirtual 63, 3) := by decide +kernel
theorem dX4_leastMissing_14 : decode cX4_leastMissing 14 = .ok (.istore_n 3, 1) := by decide +kernel
theorem dX4_leastMissing_15 : decode cX4_leastMissing 15 = .ok (.iconst 0, 1) := by decide +kernel
theorem dX4_leastMissing_16 : decode cX4_leastMissing 16 = .ok (.istore 4, 2) := by decide +kernel
theorem dX4_leastMissing_18 : decode cX4_leastMissing 18 = .ok (.iload 4, 2) := by decide +kernel
theorem dX4_leastMissing_20 : decode cX4_leastMissing 20 = .ok (.iload_n 3, 1) := by decide +kernel
theorem dX4_leastMissing_21 : decode cX4_leastMissing 21 = .ok (.if_icmp .ge 21, 3) := by decide +kernel
theorem dX4_leastMissing_24 : decode cX4_leastMissing 24 = .ok (.aload_n 0, 1) := by decide +kernel
theorem dX4_leastMissing_25 : decode cX4_leastMissing 25 = .ok (.iload_n 2, 1) := by decide +kernel
theorem dX4_leastMissing_26 : decode cX4_leastMissing 26 = .ok (.aload_n 1, 1) := by decide +kernel
theorem dX4_leastMissing_27 : decode cX4_leastMissing 27 = .ok (.iload 4, 2) := by decide +kernel
theorem dX4_leastMissing_29 : decode cX4_leastMissing 29 = .ok (.invokevirtual 67, 3) := by decide +kernel
theorem dX4_leastMissing_32 : decode cX4_leastMissing 32 = .ok (.invokevirtual 59, 3) := by decide +kernel
theorem dX4_leastMissing_35 : decode cX4_leastMissing 35 = .ok (.istore_n 2, 1) := by decide +kernel
theorem dX4_leastMissing_36 : decode cX4_leastMissing 36 = .ok (.iinc 4 1, 3) := by decide +kernel
theorem dX4_leastMissing_39 : decode cX4_leastMissing 39 = .ok (.goto (-21), 3) := by decide +kernel
theorem dX4_leastMissing_42 : decode cX4_leastMissing 42 = .ok (.iload_n 2, 1) := by decide +kernel
theorem dX4_leastMissing_43 : decode cX4_leastMissing 43 = .ok (.ireturn, 1) := by decide +kernel
theorem dX4_lesserMissing_0 : decode cX4_lesserMissing 0 = .ok (.iload_n 2, 1) := by decide +kernel
theorem dX4_lesserMissing_1 : decode cX4_lesserMissing 1 = .ok (.iconst (-1), 1) := by decide +kernel
theorem dX4_lesserMissing_2 : decode cX4_lesserMissing 2 = .ok (.if_icmp .eq 13, 3) := by decide +kernel
theorem dX4_lesserMissing_5 : decode cX4_lesserMissing 5 = .ok (.aload_n 0, 1) := by decide +kernel
theorem dX4_lesserMissing_6 : decode cX4_lesserMissing 6 = .ok (.getfield 9, 3) := by decide +kernel
theorem dX4_lesserMissing_9 : decode cX4_lesserMissing 9 = .ok (.iload_n 2, 1) := by decide +kernel
theorem dX4_lesserMissing_10 : decode cX4_lesserMissing 10 = .ok (.iaload, 1) := by decide +kernel
theorem dX4_lesserMissing_11 : decode cX4_lesserMissing 11 = .ok (.iconst 2, 1) := by decide +kernel
theorem dX4_lesserMissing_12 : decode cX4_lesserMissing 12 = .ok (.if_icmp .ne 5, 3) := by decide +kernel
theorem dX4_lesserMissing_15 : decode cX4_lesserMissing 15 = .ok (.iload_n 1, 1) := by decide +kernel
theorem dX4_lesserMissing_16 : decode cX4_lesserMissing 16 = .ok (.ireturn, 1) := by decide +kernel
theorem dX4_lesserMissing_17 : decode cX4_lesserMissing 17 = .ok (.iload_n 1, 1) := by decide +kernel
theorem dX4_lesserMissing_18 : decode cX4_lesserMissing 18 = .ok (.iconst (-1), 1) := by decide +kernel
theorem dX4_lesserMissing_19 : decode cX4_lesserMissing 19 = .ok (.if_icmp .ne 7, 3) := by decide +kernel
theorem dX4_lesserMissing_22 : decode cX4_lesserMissing 22 = .ok (.iload_n 2, 1) := by decide +kernel
theorem dX4_lesserMissing_23 : decode cX4_lesserMissing 23 = .ok (.goto 8, 3) := by decide +kernel
theorem dX4_lesserMissing_26 : decode cX4_lesserMissing 26 = .ok (.iload_n 1, 1) := by decide +kernel
theorem dX4_lesserMissing_27 : decode cX4_lesserMissing 27 = .ok (.iload_n 2, 1) := by decide +kernel
theorem dX4_lesserMissing_28 : decode cX4_lesserMissing 28 = .ok (.invokestatic 71, 3) := by decide +kernel
theorem dX4_lesserMissing_31 : decode cX4_lesserMissing 31 = .ok (.ireturn, 1) := by decide +kernel
theorem dX4_take_0 : decode cX4_take 0 = .ok (.aload_n 0, 1) := by decide +kernel
theorem dX4_take_1 : decode cX4_take 1 = .ok (.getfield 9, 3) := by decide +kernel
theorem dX4_take_4 : decode cX4_take 4 = .ok (.aload_n 1, 1) := by decide +kernel
theorem dX4_take_5 : decode cX4_take 5 = .ok (.getfield 34, 3) := by decide +kernel
theorem dX4_take_8 : decode cX4_take 8 = .ok (.iconst 2, 1) := by decide +kernel
theorem dX4_take_9 : decode cX4_take 9 = .ok (.iastore, 1) := by decide +kernel
theorem dX4_take_10 : decode cX4_take 10 = .ok (.aload_n 0, 1) := by decide +kernel
theorem dX4_take_11 : decode cX4_take 11 = .ok (.aload_n 0, 1) := by decide +kernel
theorem dX4_take_12 : decode cX4_take 12 = .ok (.getfield 76, 3) := by decide +kernel
theorem dX4_take_15 : decode cX4_take 15 = .ok (.aload_n 1, 1) := by decide +kernel
theorem dX4_take_16 : decode cX4_take 16 = .ok (.getfield 79, 3) := by decide +kernel
theorem dX4_take_19 : decode cX4_take 19 = .ok (.invokestatic 82, 3) := by decide +kernel
theorem dX4_take_22 : decode cX4_take 22 = .ok (.putfield 76, 3) := by decide +kernel
theorem dX4_take_25 : decode cX4_take 25 = .ok (.return_, 1) := by decide +kernel
theorem dX5_init_0 : decode cX5_init 0 = .ok (.aload_n 0, 1) := by decide +kernel
theorem dX5_init_1 : decode cX5_init 1 = .ok (.invokespecial 1, 3) := by decide +kernel
theorem dX5_init_4 : decode cX5_init 4 = .ok (.aload_n 0, 1) := by decide +kernel
theorem dX5_init_5 : decode cX5_init 5 = .ok (.iload_n 1, 1) := by decide +kernel
theorem dX5_init_6 : decode cX5_init 6 = .ok (.putfield 7, 3) := by decide +kernel
theorem dX5_init_9 : decode cX5_init 9 = .ok (.aload_n 0, 1) := by decide +kernel
theorem dX5_init_10 : decode cX5_init 10 = .ok (.aload_n 2, 1) := by decide +kernel
theorem dX5_init_11 : decode cX5_init 11 = .ok (.getfield 13, 3) := by decide +kernel
theorem dX5_init_14 : decode cX5_init 14 = .ok (.putfield 18, 3) := by decide +kernel
theorem dX5_init_17 : decode cX5_init 17 = .ok (.aload_n 0, 1) := by decide +kernel
theorem dX5_init_18 : decode cX5_init 18 = .ok (.aload_n 2, 1) := by decide +kernel
theorem dX5_init_19 : decode cX5_init 19 = .ok (.getfield 19, 3) := by decide +kernel
theorem dX5_init_22 : decode cX5_init 22 = .ok (.iconst 1, 1) := by decide +kernel
theorem dX5_init_23 : decode cX5_init 23 = .ok (.iadd, 1) := by decide +kernel
theorem dX5_init_24 : decode cX5_init 24 = .ok (.putfield 22, 3) := by decide +kernel
theorem dX5_init_27 : decode cX5_init 27 = .ok (.aload_n 0, 1) := by decide +kernel
theorem dX5_init_28 : decode cX5_init 28 = .ok (.aload_n 2, 1) := by decide +kernel
theorem dX5_init_29 : decode cX5_init 29 = .ok (.getfield 25, 3) := by decide +kernel
theorem dX5_init_32 : decode cX5_init 32 = .ok (.putfield 28, 3) := by decide +kernel
theorem dX5_init_35 : decode cX5_init 35 = .ok (.return_, 1) := by decide +kernel
theorem dX5_isLaterThan_0 : decode cX5_isLaterThan 0 = .ok (.aload_n 0, 1) := by decide +kernel
theorem dX5_isLaterThan_1 : decode cX5_isLaterThan 1 = .ok (.getfield 22, 3) := by decide +kernel
theorem dX5_isLaterThan_4 : decode cX5_isLaterThan 4 = .ok (.aload_n 1, 1) := by decide +kernel
theorem dX5_isLaterThan_5 : decode cX5_isLaterThan 5 = .ok (.getfield 22, 3) := by decide +kernel
theorem dX5_isLaterThan_8 : decode cX5_isLaterThan 8 = .ok (.if_icmp .eq 22, 3) := by decide +kernel
theorem dX5_isLaterThan_11 : decode cX5_isLaterThan 11 = .ok (.aload_n 0, 1) := by decide +kernel
theorem dX5_isLaterThan_12 : decode cX5_isLaterThan 12 = .ok (.getfield 22, 3) := by decide +kernel
theorem dX5_isLaterThan_15 : decode cX5_isLaterThan 15 = .ok (.aload_n 1, 1) := by decide +kernel
theorem dX5_isLaterThan_16 : decode cX5_isLaterThan 16 = .ok (.getfield 22, 3) := by decide +kernel
theorem dX5_isLaterThan_19 : decode cX5_isLaterThan 19 = .ok (.if_icmp .le 7, 3) := by decide +kernel
theorem dX5_isLaterThan_22 : decode cX5_isLaterThan 22 = .ok (.iconst 1, 1) := by decide +kernel
theorem dX5_isLaterThan_23 : decode cX5_isLaterThan 23 = .ok (.goto 23, 3) := by decide +kernel
theorem dX5_isLaterThan_26 : decode cX5_isLaterThan 26 = .ok (.iconst 0, 1) := by decide +kernel
theorem dX5_isLaterThan_27 : decode cX5_isLaterThan 27 = .ok (.goto 19, 3) := by decide +kernel
theorem dX5_isLaterThan_30 : decode cX5_isLaterThan 30 = .ok (.aload_n 0, 1) := by decide +kernel
theorem dX5_isLaterThan_31 : decode cX5_isLaterThan 31 = .ok (.getfield 18, 3) := by decide +kernel
theorem dX5_isLaterThan_34 : decode cX5_isLaterThan 34 = .ok (.aload_n 1, 1) := by decide +kernel
theorem dX5_isLaterThan_35 : decode cX5_isLaterThan 35 = .ok (.getfield 18, 3) := by decide +kernel
theorem dX5_isLaterThan_38 : decode cX5_isLaterThan 38 = .ok (.if_icmp .le 7, 3) := by decide +kernel
theorem dX5_isLaterThan_41 : decode cX5_isLaterThan 41 = .ok (.iconst 1, 1) := by decide +kernel
theorem dX5_isLaterThan_42 : decode cX5_isLaterThan 42 = .ok (.goto 4, 3) := by decide +kernel
theorem dX5_isLaterThan_45 : decode cX5_isLaterThan 45 = .ok (.iconst 0, 1) := by decide +kernel
theorem dX5_isLaterThan_46 : decode cX5_isLaterThan 46 = .ok (.ireturn, 1) := by decide +kernel
theorem dX6_init_0 : decode cX6_init 0 = .ok (.aload_n 0, 1) := by decide +kernel
theorem dX6_init_1 : decode cX6_init 1 = .ok (.iload_n 1, 1) := by decide +kernel
theorem dX6_init_2 : decode cX6_init 2 = .ok (.aload_n 2, 1) := by decide +kernel
theorem dX6_init_3 : decode cX6_init 3 = .ok (.invokespecial 3, 3) := by decide +kernel
theorem dX6_init_6 : decode cX6_init 6 = .ok (.aload_n 0, 1) := by decide +kernel
theorem dX6_init_7 : decode cX6_init 7 = .ok (.aload_n 3, 1) := by decide +kernel
theorem dX6_init_8 : decode cX6_init 8 = .ok (.putfield 9, 3) := by decide +kernel
theorem dX6_init_11 : decode cX6_init 11 = .ok (.return_, 1) := by decide +kernel
theorem dX6_kind_0 : decode cX6_kind 0 = .ok (.iconst 1, 1) := by decide +kernel
theorem dX6_kind_1 : decode cX6_kind 1 = .ok (.ireturn, 1) := by decide +kernel
theorem dX6_size_0 : decode cX6_size 0 = .ok (.aload_n 0, 1) := by decide +kernel
theorem dX6_size_1 : decode cX6_size 1 = .ok (.getfield 9, 3) := by decide +kernel
theorem dX6_size_4 : decode cX6_size 4 = .ok (.arraylength, 1) := by decide +kernel
theorem dX6_size_5 : decode cX6_size 5 = .ok (.ireturn, 1) := by decide +kernel
theorem dX6_nameOf_0 : decode cX6_nameOf 0 = .ok (.iload_n 1, 1) := by decide +kernel
theorem dX6_nameOf_1 : decode cX6_nameOf 1 = .ok (.ifCond .lt 21, 3) := by decide +kernel
theorem dX6_nameOf_4 : decode cX6_nameOf 4 = .ok (.iload_n 1, 1) := by decide +kernel
theorem dX6_nameOf_5 : decode cX6_nameOf 5 = .ok (.aload_n 0, 1) := by decide +kernel
theorem dX6_nameOf_6 : decode cX6_nameOf 6 = .ok (.getfield 9, 3) := by decide +kernel
theorem dX6_nameOf_9 : decode cX6_nameOf 9 = .ok (.arraylength, 1) := by decide +kernel
theorem dX6_nameOf_10 : decode cX6_nameOf 10 = .ok (.if_icmp .ge 12, 3) := by decide +kernel
theorem dX6_nameOf_13 : decode cX6_nameOf 13 = .ok (.aload_n 0, 1) := by decide +kernel
theorem dX6_nameOf_14 : decode cX6_nameOf 14 = .ok (.getfield 9, 3) := by decide +kernel
theorem dX6_nameOf_17 : decode cX6_nameOf 17 = .ok (.iload_n 1, 1) := by decide +kernel
theorem dX6_nameOf_18 : decode cX6_nameOf 18 = .ok (.iaload, 1) := by decide +kernel
theorem dX6_nameOf_19 : decode cX6_nameOf 19 = .ok (.goto 4, 3) := by decide +kernel
theorem dX6_nameOf_22 : decode cX6_nameOf 22 = .ok (.iconst (-1), 1) := by decide +kernel
theorem dX6_nameOf_23 : decode cX6_nameOf 23 = .ok (.ireturn, 1) := by decide +kernel
theorem dX6_howManyNeeds_0 : decode cX6_howManyNeeds 0 = .ok (.aload_n 0, 1) := by decide +kernel
theorem dX6_howManyNeeds_1 : decode cX6_howManyNeeds 1 = .ok (.getfield 9, 3) := by decide +kernel
theorem dX6_howManyNeeds_4 : decode cX6_howManyNeeds 4 = .ok (.arraylength, 1) := by decide +kernel
theorem dX6_howManyNeeds_5 : decode cX6_howManyNeeds 5 = .ok (.ireturn, 1) := by decide +kernel
theorem dX6_need_0 : decode cX6_need 0 = .ok (.aload_n 0, 1) := by decide +kernel
theorem dX6_need_1 : decode cX6_need 1 = .ok (.iload_n 1, 1) := by decide +kernel
theorem dX6_need_2 : decode cX6_need 2 = .ok (.invokevirtual 15, 3) := by decide +kernel
theorem dX6_need_5 : decode cX6_need 5 = .ok (.invokestatic 19, 3) := by decide +kernel
theorem dX6_need_8 : decode cX6_need 8 = .ok (.ireturn, 1) := by decide +kernel
theorem dX7_init_0 : decode cX7_init 0 = .ok (.aload_n 0, 1) := by decide +kernel
theorem dX7_init_1 : decode cX7_init 1 = .ok (.iload_n 1, 1) := by decide +kernel
theorem dX7_init_2 : decode cX7_init 2 = .ok (.aload_n 2, 1) := by decide +kernel
theorem dX7_init_3 : decode cX7_init 3 = .ok (.invokespecial 3, 3) := by decide +kernel
theorem dX7_init_6 : decode cX7_init 6 = .ok (.aload_n 0, 1) := by decide +kernel
theorem dX7_init_7 : decode cX7_init 7 = .ok (.iload_n 3, 1) := by decide +kernel
theorem dX7_init_8 : decode cX7_init 8 = .ok (.putfield 9, 3) := by decide +kernel
theorem dX7_init_11 : decode cX7_init 11 = .ok (.return_, 1) := by decide +kernel
theorem dX7_kind_0 : decode cX7_kind 0 = .ok (.iconst 3, 1) := by decide +kernel
theorem dX7_kind_1 : decode cX7_kind 1 = .ok (.ireturn, 1) := by decide +kernel
theorem dX7_size_0 : decode cX7_size 0 = .ok (.iconst 0, 1) := by decide +kernel
theorem dX7_size_1 : decode cX7_size 1 = .ok (.ireturn, 1) := by decide +kernel
theorem dX7_nameOf_0 : decode cX7_nameOf 0 = .ok (.iconst (-1), 1) := by decide +kernel
theorem dX7_nameOf_1 : decode cX7_nameOf 1 = .ok (.ireturn, 1) := by decide +kernel
theorem dX7_howManyNeeds_0 : decode cX7_howManyNeeds 0 = .ok (.iconst 1, 1) := by decide +kernel
theorem dX7_howManyNeeds_1 : decode cX7_howManyNeeds 1 = .ok (.ireturn, 1) := by decide +kernel
theorem dX7_need_0 : decode cX7_need 0 = .ok (.aload_n 0, 1) := by decide +kernel
theorem dX7_need_1 : decode cX7_need 1 = .ok (.getfield 9, 3) := by decide +kernel
theorem dX7_need_4 : decode cX7_need 4 = .ok (.ireturn, 1) := by decide +kernel
theorem dX8_init_0 : decode cX8_init 0 = .ok (.aload_n 0, 1) := by decide +kernel
theorem dX8_init_1 : decode cX8_init 1 = .ok (.invokespecial 5, 3) := by decide +kernel
theorem dX8_init_4 : decode cX8_init 4 = .ok (.aload_n 0, 1) := by decide +kernel
theorem dX8_init_5 : decode cX8_init 5 = .ok (.new 11, 3) := by decide +kernel
theorem dX8_init_8 : decode cX8_init 8 = .ok (.dup, 1) := by decide +kernel
theorem dX8_init_9 : decode cX8_init 9 = .ok (.invokespecial 13, 3) := by decide +kernel
theorem dX8_init_12 : decode cX8_init 12 = .ok (.putfield 14, 3) := by decide +kernel
theorem dX8_init_15 : decode cX8_init 15 = .ok (.aload_n 0, 1) := by decide +kernel
theorem dX8_init_16 : decode cX8_init 16 = .ok (.bipush 6, 2) := by decide +kernel
theorem dX8_init_18 : decode cX8_init 18 = .ok (.anewarray 18, 3) := by decide +kernel
theorem dX8_init_21 : decode cX8_init 21 = .ok (.putfield 20, 3) := by decide +kernel
theorem dX8_init_24 : decode cX8_init 24 = .ok (.iconst 0, 1) := by decide +kernel
theorem dX8_init_25 : decode cX8_init 25 = .ok (.istore_n 1, 1) := by decide +kernel
theorem dX8_init_26 : decode cX8_init 26 = .ok (.iload_n 1, 1) := by decide +kernel
theorem dX8_init_27 : decode cX8_init 27 = .ok (.bipush 6, 2) := by decide +kernel
theorem dX8_init_29 : decode cX8_init 29 = .ok (.if_icmp .ge 23, 3) := by decide +kernel
theorem dX8_init_32 : decode cX8_init 32 = .ok (.aload_n 0, 1) := by decide +kernel
theorem dX8_init_33 : decode cX8_init 33 = .ok (.getfield 20, 3) := by decide +kernel
theorem dX8_init_36 : decode cX8_init 36 = .ok (.iload_n 1, 1) := by decide +kernel
theorem dX8_init_37 : decode cX8_init 37 = .ok (.new 18, 3) := by decide +kernel
theorem dX8_init_40 : decode cX8_init 40 = .ok (.dup, 1) := by decide +kernel
theorem dX8_init_41 : decode cX8_init 41 = .ok (.iload_n 1, 1) := by decide +kernel
theorem dX8_init_42 : decode cX8_init 42 = .ok (.invokespecial 24, 3) := by decide +kernel
theorem dX8_init_45 : decode cX8_init 45 = .ok (.aastore, 1) := by decide +kernel
theorem dX8_init_46 : decode cX8_init 46 = .ok (.iinc 1 1, 3) := by decide +kernel
theorem dX8_init_49 : decode cX8_init 49 = .ok (.goto (-23), 3) := by decide +kernel
theorem dX8_init_52 : decode cX8_init 52 = .ok (.aload_n 0, 1) := by decide +kernel
theorem dX8_init_53 : decode cX8_init 53 = .ok (.new 27, 3) := by decide +kernel
theorem dX8_init_56 : decode cX8_init 56 = .ok (.dup, 1) := by decide +kernel
theorem dX8_init_57 : decode cX8_init 57 = .ok (.aload_n 0, 1) := by decide +kernel
theorem dX8_init_58 : decode cX8_init 58 = .ok (.getfield 14, 3) := by decide +kernel
theorem dX8_init_61 : decode cX8_init 61 = .ok (.invokespecial 29, 3) := by decide +kernel
theorem dX8_init_64 : decode cX8_init 64 = .ok (.putfield 32, 3) := by decide +kernel
theorem dX8_init_67 : decode cX8_init 67 = .ok (.aload_n 0, 1) := by decide +kernel
theorem dX8_init_68 : decode cX8_init 68 = .ok (.sipush 768, 3) := by decide +kernel
theorem dX8_init_71 : decode cX8_init 71 = .ok (.newarray .int, 2) := by decide +kernel
theorem dX8_init_73 : decode cX8_init 73 = .ok (.putfield 36, 3) := by decide +kernel
theorem dX8_init_76 : decode cX8_init 76 = .ok (.aload_n 0, 1) := by decide +kernel
theorem dX8_init_77 : decode cX8_init 77 = .ok (.iconst 0, 1) := by decide +kernel
theorem dX8_init_78 : decode cX8_init 78 = .ok (.putfield 40, 3) := by decide +kernel
theorem dX8_init_81 : decode cX8_init 81 = .ok (.return_, 1) := by decide +kernel
theorem dX8_type_0 : decode cX8_type 0 = .ok (.aload_n 0, 1) := by decide +kernel
theorem dX8_type_1 : decode cX8_type 1 = .ok (.iload_n 1, 1) := by decide +kernel
theorem dX8_type_2 : decode cX8_type 2 = .ok (.invokevirtual 44, 3) := by decide +kernel
theorem dX8_type_5 : decode cX8_type 5 = .ok (.astore 6, 2) := by decide +kernel
theorem dX8_type_7 : decode cX8_type 7 = .ok (.aload 6, 2) := by decide +kernel
theorem dX8_type_9 : decode cX8_type 9 = .ok (.ifnonnull 9, 3) := by decide +kernel
theorem dX8_type_12 : decode cX8_type 12 = .ok (.aload_n 0, 1) := by decide +kernel
theorem dX8_type_13 : decode cX8_type 13 = .ok (.iconst 1, 1) := by decide +kernel
theorem dX8_type_14 : decode cX8_type 14 = .ok (.invokevirtual 48, 3) := by decide +kernel
theorem dX8_type_17 : decode cX8_type 17 = .ok (.ireturn, 1) := by decide +kernel
theorem dX8_type_18 : decode cX8_type 18 = .ok (.aload_n 0, 1) := by decide +kernel
theorem dX8_type_19 : decode cX8_type 19 = .ok (.getfield 32, 3) := by decide +kernel
theorem dX8_type_22 : decode cX8_type 22 = .ok (.aload 6, 2) := by decide +kernel
theorem dX8_type_24 : decode cX8_type 24 = .ok (.ldc 52, 2) := by decide +kernel
theorem dX8_type_26 : decode cX8_type 26 = .ok (.invokevirtual 53, 3) := by decide +kernel
theorem dX8_type_29 : decode cX8_type 29 = .ok (.iload_n 3, 1) := by decide +kernel
theorem dX8_type_30 : decode cX8_type 30 = .ok (.iload 4, 2) := by decide +kernel
theorem dX8_type_32 : decode cX8_type 32 = .ok (.iload 5, 2) := by decide +kernel
theorem dX8_type_34 : decode cX8_type 34 = .ok (.invokestatic 57, 3) := by decide +kernel
theorem dX8_type_37 : decode cX8_type 37 = .ok (.astore 7, 2) := by decide +kernel
theorem dX8_type_39 : decode cX8_type 39 = .ok (.iload_n 2, 1) := by decide +kernel
theorem dX8_type_40 : decode cX8_type 40 = .ok (.ifCond .lt 22, 3) := by decide +kernel
theorem dX8_type_43 : decode cX8_type 43 = .ok (.iload_n 2, 1) := by decide +kernel
theorem dX8_type_44 : decode cX8_type 44 = .ok (.aload_n 0, 1) := by decide +kernel
theorem dX8_type_45 : decode cX8_type 45 = .ok (.getfield 32, 3) := by decide +kernel
theorem dX8_type_48 : decode cX8_type 48 = .ok (.getfield 61, 3) := by decide +kernel
theorem dX8_type_51 : decode cX8_type 51 = .ok (.if_icmp .gt 11, 3) := by decide +kernel
theorem dX8_type_54 : decode cX8_type 54 = .ok (.aload 7, 2) := by decide +kernel
theorem dX8_type_56 : decode cX8_type 56 = .ok (.invokestatic 64, 3) := by decide +kernel
theorem dX8_type_59 : decode cX8_type 59 = .ok (.ifCond .ne 9, 3) := by decide +kernel
theorem dX8_type_62 : decode cX8_type 62 = .ok (.aload_n 0, 1) := by decide +kernel
theorem dX8_type_63 : decode cX8_type 63 = .ok (.iconst 1, 1) := by decide +kernel
theorem dX8_type_64 : decode cX8_type 64 = .ok (.invokevirtual 48, 3) := by decide +kernel
theorem dX8_type_67 : decode cX8_type 67 = .ok (.ireturn, 1) := by decide +kernel
theorem dX8_type_68 : decode cX8_type 68 = .ok (.aload_n 0, 1) := by decide +kernel
theorem dX8_type_69 : decode cX8_type 69 = .ok (.getfield 14, 3) := by decide +kernel
theorem dX8_type_72 : decode cX8_type 72 = .ok (.invokevirtual 68, 3) := by decide +kernel
theorem dX8_type_75 : decode cX8_type 75 = .ok (.ifCond .eq 9, 3) := by decide +kernel
theorem dX8_type_78 : decode cX8_type 78 = .ok (.aload_n 0, 1) := by decide +kernel
theorem dX8_type_79 : decode cX8_type 79 = .ok (.iconst 2, 1) := by decide +kernel
theorem dX8_type_80 : decode cX8_type 80 = .ok (.invokevirtual 48, 3) := by decide +kernel
theorem dX8_type_83 : decode cX8_type 83 = .ok (.ireturn, 1) := by decide +kernel
theorem dX8_type_84 : decode cX8_type 84 = .ok (.iload_n 2, 1) := by decide +kernel
theorem dX8_type_85 : decode cX8_type 85 = .ok (.ifCond .ne 8, 3) := by decide +kernel
theorem dX8_type_88 : decode cX8_type 88 = .ok (.bipush (-2), 2) := by decide +kernel
theorem dX8_type_90 : decode cX8_type 90 = .ok (.goto 13, 3) := by decide +kernel
theorem dX8_type_93 : decode cX8_type 93 = .ok (.aload_n 0, 1) := by decide +kernel
theorem dX8_type_94 : decode cX8_type 94 = .ok (.getfield 32, 3) := by decide +kernel
theorem dX8_type_97 : decode cX8_type 97 = .ok (.iload_n 2, 1) := by decide +kernel
theorem dX8_type_98 : decode cX8_type 98 = .ok (.iconst 1, 1) := by decide +kernel
theorem dX8_type_99 : decode cX8_type 99 = .ok (.isub, 1) := by decide +kernel
theorem dX8_type_100 : decode cX8_type 100 = .ok (.invokevirtual 72, 3) := by decide +kernel
theorem dX8_type_103 : decode cX8_type 103 = .ok (.istore 8, 2) := by decide +kernel
theorem dX8_type_105 : decode cX8_type 105 = .ok (.aload_n 0, 1) := by decide +kernel
theorem dX8_type_106 : decode cX8_type 106 = .ok (.aload 6, 2) := by decide +kernel
theorem dX8_type_108 : decode cX8_type 108 = .ok (.new 75, 3) := by decide +kernel
theorem dX8_type_111 : decode cX8_type 111 = .ok (.dup, 1) := by decide +kernel
theorem dX8_type_112 : decode cX8_type 112 = .ok (.aload_n 0, 1) := by decide +kernel
theorem dX8_type_113 : decode cX8_type 113 = .ok (.getfield 14, 3) := by decide +kernel
theorem dX8_type_116 : decode cX8_type 116 = .ok (.getfield 77, 3) := by decide +kernel
theorem dX8_type_119 : decode cX8_type 119 = .ok (.aload 6, 2) := by decide +kernel
theorem dX8_type_121 : decode cX8_type 121 = .ok (.iload 8, 2) := by decide +kernel
theorem dX8_type_123 : decode cX8_type 123 = .ok (.aload 7, 2) := by decide +kernel
theorem dX8_type_125 : decode cX8_type 125 = .ok (.invokespecial 80, 3) := by decide +kernel
theorem dX8_type_128 : decode cX8_type 128 = .ok (.invokevirtual 83, 3) := by decide +kernel
theorem dX8_type_131 : decode cX8_type 131 = .ok (.ireturn, 1) := by decide +kernel
theorem dX8_strike_0 : decode cX8_strike 0 = .ok (.aload_n 0, 1) := by decide +kernel
theorem dX8_strike_1 : decode cX8_strike 1 = .ok (.iload_n 1, 1) := by decide +kernel
theorem dX8_strike_2 : decode cX8_strike 2 = .ok (.invokevirtual 44, 3) := by decide +kernel
theorem dX8_strike_5 : decode cX8_strike 5 = .ok (.astore 4, 2) := by decide +kernel
theorem dX8_strike_7 : decode cX8_strike 7 = .ok (.aload 4, 2) := by decide +kernel
theorem dX8_strike_9 : decode cX8_strike 9 = .ok (.ifnonnull 9, 3) := by decide +kernel
theorem dX8_strike_12 : decode cX8_strike 12 = .ok (.aload_n 0, 1) := by decide +kernel
theorem dX8_strike_13 : decode cX8_strike 13 = .ok (.iconst 1, 1) := by decide +kernel
theorem dX8_strike_14 : decode cX8_strike 14 = .ok (.invokevirtual 48, 3) := by decide +kernel
theorem dX8_strike_17 : decode cX8_strike 17 = .ok (.ireturn, 1) := by decide +kernel
theorem dX8_strike_18 : decode cX8_strike 18 = .ok (.iload_n 3, 1) := by decide +kernel
theorem dX8_strike_19 : decode cX8_strike 19 = .ok (.ifCond .ge 9, 3) := by decide +kernel
theorem dX8_strike_22 : decode cX8_strike 22 = .ok (.aload_n 0, 1) := by decide +kernel
theorem dX8_strike_23 : decode cX8_strike 23 = .ok (.iconst 5, 1) := by decide +kernel
theorem dX8_strike_24 : decode cX8_strike 24 = .ok (.invokevirtual 48, 3) := by decide +kernel
theorem dX8_strike_27 : decode cX8_strike 27 = .ok (.ireturn, 1) := by decide +kernel
theorem dX8_strike_28 : decode cX8_strike 28 = .ok (.aload_n 0, 1) := by decide +kernel
theorem dX8_strike_29 : decode cX8_strike 29 = .ok (.getfield 32, 3) := by decide +kernel
theorem dX8_strike_32 : decode cX8_strike 32 = .ok (.aload 4, 2) := by decide +kernel
theorem dX8_strike_34 : decode cX8_strike 34 = .ok (.ldc 52, 2) := by decide +kernel
theorem dX8_strike_36 : decode cX8_strike 36 = .ok (.invokevirtual 53, 3) := by decide +kernel
theorem dX8_strike_39 : decode cX8_strike 39 = .ok (.iload_n 3, 1) := by decide +kernel
theorem dX8_strike_40 : decode cX8_strike 40 = .ok (.bipush 12, 2) := by decide +kernel
theorem dX8_strike_42 : decode cX8_strike 42 = .ok (.if_icmp .gt 15, 3) := by decide +kernel
theorem dX8_strike_45 : decode cX8_strike 45 = .ok (.aload_n 0, 1) := by decide +kernel
theorem dX8_strike_46 : decode cX8_strike 46 = .ok (.getfield 32, 3) := by decide +kernel
theorem dX8_strike_49 : decode cX8_strike 49 = .ok (.iload_n 2, 1) := by decide +kernel
theorem dX8_strike_50 : decode cX8_strike 50 = .ok (.iload_n 3, 1) := by decide +kernel
theorem dX8_strike_51 : decode cX8_strike 51 = .ok (.invokevirtual 87, 3) := by decide +kernel
theorem dX8_strike_54 : decode cX8_strike 54 = .ok (.ifCond .ne 9, 3) := by decide +kernel
theorem dX8_strike_57 : decode cX8_strike 57 = .ok (.aload_n 0, 1) := by decide +kernel
theorem dX8_strike_58 : decode cX8_strike 58 = .ok (.iconst 1, 1) := by decide +kernel
theorem dX8_strike_59 : decode cX8_strike 59 = .ok (.invokevirtual 48, 3) := by decide +kernel
theorem dX8_strike_62 : decode cX8_strike 62 = .ok (.ireturn, 1) := by decide +kernel
theorem dX8_strike_63 : decode cX8_strike 63 = .ok (.aload_n 0, 1) := by decide +kernel
theorem dX8_strike_64 : decode cX8_strike 64 = .ok (.getfield 14, 3) := by decide +kernel
theorem dX8_strike_67 : decode cX8_strike 67 = .ok (.invokevirtual 68, 3) := by decide +kernel
theorem dX8_strike_70 : decode cX8_strike 70 = .ok (.ifCond .eq 9, 3) := by decide +kernel
theorem dX8_strike_73 : decode cX8_strike 73 = .ok (.aload_n 0, 1) := by decide +kernel
theorem dX8_strike_74 : decode cX8_strike 74 = .ok (.iconst 2, 1) := by decide +kernel
theorem dX8_strike_75 : decode cX8_strike 75 = .ok (.invokevirtual 48, 3) := by decide +kernel
theorem dX8_strike_78 : decode cX8_strike 78 = .ok (.ireturn, 1) := by decide +kernel
theorem dX8_strike_79 : decode cX8_strike 79 = .ok (.aload_n 0, 1) := by decide +kernel
theorem dX8_strike_80 : decode cX8_strike 80 = .ok (.aload 4, 2) := by decide +kernel
theorem dX8_strike_82 : decode cX8_strike 82 = .ok (.new 91, 3) := by decide +kernel
theorem dX8_strike_85 : decode cX8_strike 85 = .ok (.dup, 1) := by decide +kernel
theorem dX8_strike_86 : decode cX8_strike 86 = .ok (.aload_n 0, 1) := by decide +kernel
theorem dX8_strike_87 : decode cX8_strike 87 = .ok (.getfield 14, 3) := by decide +kernel
theorem dX8_strike_90 : decode cX8_strike 90 = .ok (.getfield 77, 3) := by decide +kernel
theorem dX8_strike_93 : decode cX8_strike 93 = .ok (.aload 4, 2) := by decide +kernel
theorem dX8_strike_95 : decode cX8_strike 95 = .ok (.aload_n 0, 1) := by decide +kernel
theorem dX8_strike_96 : decode cX8_strike 96 = .ok (.getfield 32, 3) := by decide +kernel
theorem dX8_strike_99 : decode cX8_strike 99 = .ok (.iload_n 2, 1) := by decide +kernel
theorem dX8_strike_100 : decode cX8_strike 100 = .ok (.iload_n 3, 1) := by decide +kernel
theorem dX8_strike_101 : decode cX8_strike 101 = .ok (.invokevirtual 93, 3) := by decide +kernel
theorem dX8_strike_104 : decode cX8_strike 104 = .ok (.invokespecial 97, 3) := by decide +kernel
theorem dX8_strike_107 : decode cX8_strike 107 = .ok (.invokevirtual 83, 3) := by decide +kernel
theorem dX8_strike_110 : decode cX8_strike 110 = .ok (.ireturn, 1) := by decide +kernel
theorem dX8_mark_0 : decode cX8_mark 0 = .ok (.aload_n 0, 1) := by decide +kernel
theorem dX8_mark_1 : decode cX8_mark 1 = .ok (.iload_n 1, 1) := by decide +kernel
theorem dX8_mark_2 : decode cX8_mark 2 = .ok (.invokevirtual 44, 3) := by decide +kernel
theorem dX8_mark_5 : decode cX8_mark 5 = .ok (.astore 6, 2) := by decide +kernel
theorem dX8_mark_7 : decode cX8_mark 7 = .ok (.aload 6, 2) := by decide +kernel
theorem dX8_mark_9 : decode cX8_mark 9 = .ok (.ifnonnull 9, 3) := by decide +kernel
theorem dX8_mark_12 : decode cX8_mark 12 = .ok (.aload_n 0, 1) := by decide +kernel
theorem dX8_mark_13 : decode cX8_mark 13 = .ok (.iconst 1, 1) := by decide +kernel
theorem dX8_mark_14 : decode cX8_mark 14 = .ok (.invokevirtual 48, 3) := by decide +kernel
theorem dX8_mark_17 : decode cX8_mark 17 = .ok (.ireturn, 1) := by decide +kernel
theorem dX8_mark_18 : decode cX8_mark 18 = .ok (.iload_n 3, 1) := by decide +kernel
theorem dX8_mark_19 : decode cX8_mark 19 = .ok (.ifCond .ge 9, 3) := by decide +kernel
theorem dX8_mark_22 : decode cX8_mark 22 = .ok (.aload_n 0, 1) := by decide +kernel
theorem dX8_mark_23 : decode cX8_mark 23 = .ok (.iconst 5, 1) := by decide +kernel
theorem dX8_mark_24 : decode cX8_mark 24 = .ok (.invokevirtual 48, 3) := by decide +kernel
theorem dX8_mark_27 : decode cX8_mark 27 = .ok (.ireturn, 1) := by decide +kernel
theorem dX8_mark_28 : decode cX8_mark 28 = .ok (.aload_n 0, 1) := by decide +kernel
theorem dX8_mark_29 : decode cX8_mark 29 = .ok (.getfield 32, 3) := by decide +kernel
theorem dX8_mark_32 : decode cX8_mark 32 = .ok (.aload 6, 2) := by decide +kernel
theorem dX8_mark_34 : decode cX8_mark 34 = .ok (.ldc 52, 2) := by decide +kernel
theorem dX8_mark_36 : decode cX8_mark 36 = .ok (.invokevirtual 53, 3) := by decide +kernel
theorem dX8_mark_39 : decode cX8_mark 39 = .ok (.aload_n 0, 1) := by decide +kernel
theorem dX8_mark_40 : decode cX8_mark 40 = .ok (.getfield 32, 3) := by decide +kernel
theorem dX8_mark_43 : decode cX8_mark 43 = .ok (.iload_n 2, 1) := by decide +kernel
theorem dX8_mark_44 : decode cX8_mark 44 = .ok (.iload_n 3, 1) := by decide +kernel
theorem dX8_mark_45 : decode cX8_mark 45 = .ok (.invokevirtual 87, 3) := by decide +kernel
theorem dX8_mark_48 : decode cX8_mark 48 = .ok (.ifCond .eq 22, 3) := by decide +kernel
theorem dX8_mark_51 : decode cX8_mark 51 = .ok (.iload 4, 2) := by decide +kernel
theorem dX8_mark_53 : decode cX8_mark 53 = .ok (.invokestatic 100, 3) := by decide +kernel
theorem dX8_mark_56 : decode cX8_mark 56 = .ok (.ifCond .eq 14, 3) := by decide +kernel
theorem dX8_mark_59 : decode cX8_mark 59 = .ok (.iload 5, 2) := by decide +kernel
theorem dX8_mark_61 : decode cX8_mark 61 = .ok (.ifCond .lt 9, 3) := by decide +kernel
theorem dX8_mark_64 : decode cX8_mark 64 = .ok (.iload 5, 2) := by decide +kernel
theorem dX8_mark_66 : decode cX8_mark 66 = .ok (.iconst 4, 1) := by decide +kernel
theorem dX8_mark_67 : decode cX8_mark 67 = .ok (.if_icmp .lt 9, 3) := by decide +kernel
theorem dX8_mark_70 : decode cX8_mark 70 = .ok (.aload_n 0, 1) := by decide +kernel
theorem dX8_mark_71 : decode cX8_mark 71 = .ok (.iconst 1, 1) := by decide +kernel
theorem dX8_mark_72 : decode cX8_mark 72 = .ok (.invokevirtual 48, 3) := by decide +kernel
theorem dX8_mark_75 : decode cX8_mark 75 = .ok (.ireturn, 1) := by decide +kernel
theorem dX8_mark_76 : decode cX8_mark 76 = .ok (.aload_n 0, 1) := by decide +kernel
theorem dX8_mark_77 : decode cX8_mark 77 = .ok (.getfield 14, 3) := by decide +kernel
theorem dX8_mark_80 : decode cX8_mark 80 = .ok (.invokevirtual 68, 3) := by decide +kernel
theorem dX8_mark_83 : decode cX8_mark 83 = .ok (.ifCond .eq 9, 3) := by decide +kernel
theorem dX8_mark_86 : decode cX8_mark 86 = .ok (.aload_n 0, 1) := by decide +kernel
theorem dX8_mark_87 : decode cX8_mark 87 = .ok (.iconst 2, 1) := by decide +kernel
theorem dX8_mark_88 : decode cX8_mark 88 = .ok (.invokevirtual 48, 3) := by decide +kernel
theorem dX8_mark_91 : decode cX8_mark 91 = .ok (.ireturn, 1) := by decide +kernel
theorem dX8_mark_92 : decode cX8_mark 92 = .ok (.aload_n 0, 1) := by decide +kernel
theorem dX8_mark_93 : decode cX8_mark 93 = .ok (.getfield 32, 3) := by decide +kernel
theorem dX8_mark_96 : decode cX8_mark 96 = .ok (.iload_n 2, 1) := by decide +kernel
theorem dX8_mark_97 : decode cX8_mark 97 = .ok (.invokevirtual 72, 3) := by decide +kernel
theorem dX8_mark_100 : decode cX8_mark 100 = .ok (.istore 7, 2) := by decide +kernel
theorem dX8_mark_102 : decode cX8_mark 102 = .ok (.aload_n 0, 1) := by decide +kernel
theorem dX8_mark_103 : decode cX8_mark 103 = .ok (.getfield 32, 3) := by decide +kernel
theorem dX8_mark_106 : decode cX8_mark 106 = .ok (.iload_n 2, 1) := by decide +kernel
theorem dX8_mark_107 : decode cX8_mark 107 = .ok (.iload_n 3, 1) := by decide +kernel
theorem dX8_mark_108 : decode cX8_mark 108 = .ok (.iadd, 1) := by decide +kernel
theorem dX8_mark_109 : decode cX8_mark 109 = .ok (.iconst 1, 1) := by decide +kernel
theorem dX8_mark_110 : decode cX8_mark 110 = .ok (.isub, 1) := by decide +kernel
theorem dX8_mark_111 : decode cX8_mark 111 = .ok (.invokevirtual 72, 3) := by decide +kernel
theorem dX8_mark_114 : decode cX8_mark 114 = .ok (.istore 8, 2) := by decide +kernel
theorem dX8_mark_116 : decode cX8_mark 116 = .ok (.iload 5, 2) := by decide +kernel
theorem dX8_mark_118 : decode cX8_mark 118 = .ok (.iconst 2, 1) := by decide +kernel
theorem dX8_mark_119 : decode cX8_mark 119 = .ok (.if_icmp .lt 15, 3) := by decide +kernel
theorem dX8_mark_122 : decode cX8_mark 122 = .ok (.aload_n 0, 1) := by decide +kernel
theorem dX8_mark_123 : decode cX8_mark 123 = .ok (.getfield 32, 3) := by decide +kernel
theorem dX8_mark_126 : decode cX8_mark 126 = .ok (.iload 8, 2) := by decide +kernel
theorem dX8_mark_128 : decode cX8_mark 128 = .ok (.invokevirtual 104, 3) := by decide +kernel
theorem dX8_mark_131 : decode cX8_mark 131 = .ok (.goto 5, 3) := by decide +kernel
theorem dX8_mark_134 : decode cX8_mark 134 = .ok (.bipush (-3), 2) := by decide +kernel
theorem dX8_mark_136 : decode cX8_mark 136 = .ok (.istore 9, 2) := by decide +kernel
theorem dX8_mark_138 : decode cX8_mark 138 = .ok (.aload_n 0, 1) := by decide +kernel
theorem dX8_mark_139 : decode cX8_mark 139 = .ok (.aload 6, 2) := by decide +kernel
theorem dX8_mark_141 : decode cX8_mark 141 = .ok (.new 107, 3) := by decide +kernel
theorem dX8_mark_144 : decode cX8_mark 144 = .ok (.dup, 1) := by decide +kernel
theorem dX8_mark_145 : decode cX8_mark 145 = .ok (.aload_n 0, 1) := by decide +kernel
theorem dX8_mark_146 : decode cX8_mark 146 = .ok (.getfield 14, 3) := by decide +kernel
theorem dX8_mark_149 : decode cX8_mark 149 = .ok (.getfield 77, 3) := by decide +kernel
theorem dX8_mark_152 : decode cX8_mark 152 = .ok (.aload 6, 2) := by decide +kernel
theorem dX8_mark_154 : decode cX8_mark 154 = .ok (.iload 7, 2) := by decide +kernel
theorem dX8_mark_156 : decode cX8_mark 156 = .ok (.iload 8, 2) := by decide +kernel
theorem dX8_mark_158 : decode cX8_mark 158 = .ok (.iload 9, 2) := by decide +kernel
theorem dX8_mark_160 : decode cX8_mark 160 = .ok (.iload 4, 2) := by decide +kernel
theorem dX8_mark_162 : decode cX8_mark 162 = .ok (.iload 5, 2) := by decide +kernel
theorem dX8_mark_164 : decode cX8_mark 164 = .ok (.iconst 2, 1) := by decide +kernel
theorem dX8_mark_165 : decode cX8_mark 165 = .ok (.irem, 1) := by decide +kernel
theorem dX8_mark_166 : decode cX8_mark 166 = .ok (.iconst 1, 1) := by decide +kernel
theorem dX8_mark_167 : decode cX8_mark 167 = .ok (.if_icmp .ne 7, 3) := by decide +kernel
theorem dX8_mark_170 : decode cX8_mark 170 = .ok (.iconst 1, 1) := by decide +kernel
theorem dX8_mark_171 : decode cX8_mark 171 = .ok (.goto 4, 3) := by decide +kernel
theorem dX8_mark_174 : decode cX8_mark 174 = .ok (.iconst 0, 1) := by decide +kernel
theorem dX8_mark_175 : decode cX8_mark 175 = .ok (.invokespecial 109, 3) := by decide +kernel
theorem dX8_mark_178 : decode cX8_mark 178 = .ok (.invokevirtual 83, 3) := by decide +kernel
theorem dX8_mark_181 : decode cX8_mark 181 = .ok (.ireturn, 1) := by decide +kernel
theorem dX8_undo_0 : decode cX8_undo 0 = .ok (.aload_n 0, 1) := by decide +kernel
theorem dX8_undo_1 : decode cX8_undo 1 = .ok (.iload_n 1, 1) := by decide +kernel
theorem dX8_undo_2 : decode cX8_undo 2 = .ok (.invokevirtual 44, 3) := by decide +kernel
theorem dX8_undo_5 : decode cX8_undo 5 = .ok (.astore_n 3, 1) := by decide +kernel
theorem dX8_undo_6 : decode cX8_undo 6 = .ok (.aload_n 0, 1) := by decide +kernel
theorem dX8_undo_7 : decode cX8_undo 7 = .ok (.getfield 14, 3) := by decide +kernel
theorem dX8_undo_10 : decode cX8_undo 10 = .ok (.iload_n 2, 1) := by decide +kernel
theorem dX8_undo_11 : decode cX8_undo 11 = .ok (.invokevirtual 112, 3) := by decide +kernel
theorem dX8_undo_14 : decode cX8_undo 14 = .ok (.astore 4, 2) := by decide +kernel
theorem dX8_undo_16 : decode cX8_undo 16 = .ok (.aload_n 3, 1) := by decide +kernel
theorem dX8_undo_17 : decode cX8_undo 17 = .ok (.ifnull 8, 3) := by decide +kernel
theorem dX8_undo_20 : decode cX8_undo 20 = .ok (.aload 4, 2) := by decide +kernel
theorem dX8_undo_22 : decode cX8_undo 22 = .ok (.ifnonnull 9, 3) := by decide +kernel
theorem dX8_undo_25 : decode cX8_undo 25 = .ok (.aload_n 0, 1) := by decide +kernel
theorem dX8_undo_26 : decode cX8_undo 26 = .ok (.iconst 1, 1) := by decide +kernel
theorem dX8_undo_27 : decode cX8_undo 27 = .ok (.invokevirtual 48, 3) := by decide +kernel
theorem dX8_undo_30 : decode cX8_undo 30 = .ok (.ireturn, 1) := by decide +kernel
theorem dX8_undo_31 : decode cX8_undo 31 = .ok (.aload 4, 2) := by decide +kernel
theorem dX8_undo_33 : decode cX8_undo 33 = .ok (.getfield 116, 3) := by decide +kernel
theorem dX8_undo_36 : decode cX8_undo 36 = .ok (.iload_n 1, 1) := by decide +kernel
theorem dX8_undo_37 : decode cX8_undo 37 = .ok (.if_icmp .eq 9, 3) := by decide +kernel
theorem dX8_undo_40 : decode cX8_undo 40 = .ok (.aload_n 0, 1) := by decide +kernel
theorem dX8_undo_41 : decode cX8_undo 41 = .ok (.iconst 3, 1) := by decide +kernel
theorem dX8_undo_42 : decode cX8_undo 42 = .ok (.invokevirtual 48, 3) := by decide +kernel
theorem dX8_undo_45 : decode cX8_undo 45 = .ok (.ireturn, 1) := by decide +kernel
theorem dX8_undo_46 : decode cX8_undo 46 = .ok (.aload_n 0, 1) := by decide +kernel
theorem dX8_undo_47 : decode cX8_undo 47 = .ok (.getfield 32, 3) := by decide +kernel
theorem dX8_undo_50 : decode cX8_undo 50 = .ok (.aload_n 3, 1) := by decide +kernel
theorem dX8_undo_51 : decode cX8_undo 51 = .ok (.ldc 52, 2) := by decide +kernel
theorem dX8_undo_53 : decode cX8_undo 53 = .ok (.invokevirtual 53, 3) := by decide +kernel
theorem dX8_undo_56 : decode cX8_undo 56 = .ok (.aload_n 0, 1) := by decide +kernel
theorem dX8_undo_57 : decode cX8_undo 57 = .ok (.getfield 32, 3) := by decide +kernel
theorem dX8_undo_60 : decode cX8_undo 60 = .ok (.aload 4, 2) := by decide +kernel
theorem dX8_undo_62 : decode cX8_undo 62 = .ok (.invokevirtual 121, 3) := by decide +kernel
theorem dX8_undo_65 : decode cX8_undo 65 = .ok (.ifCond .ne 9, 3) := by decide +kernel
theorem dX8_undo_68 : decode cX8_undo 68 = .ok (.aload_n 0, 1) := by decide +kernel
theorem dX8_undo_69 : decode cX8_undo 69 = .ok (.iconst 4, 1) := by decide +kernel
theorem dX8_undo_70 : decode cX8_undo 70 = .ok (.invokevirtual 48, 3) := by decide +kernel
theorem dX8_undo_73 : decode cX8_undo 73 = .ok (.ireturn, 1) := by decide +kernel
theorem dX8_undo_74 : decode cX8_undo 74 = .ok (.aload_n 0, 1) := by decide +kernel
theorem dX8_undo_75 : decode cX8_undo 75 = .ok (.getfield 14, 3) := by decide +kernel
theorem dX8_undo_78 : decode cX8_undo 78 = .ok (.invokevirtual 68, 3) := by decide +kernel
theorem dX8_undo_81 : decode cX8_undo 81 = .ok (.ifCond .eq 9, 3) := by decide +kernel
theorem dX8_undo_84 : decode cX8_undo 84 = .ok (.aload_n 0, 1) := by decide +kernel
theorem dX8_undo_85 : decode cX8_undo 85 = .ok (.iconst 2, 1) := by decide +kernel
theorem dX8_undo_86 : decode cX8_undo 86 = .ok (.invokevirtual 48, 3) := by decide +kernel
theorem dX8_undo_89 : decode cX8_undo 89 = .ok (.ireturn, 1) := by decide +kernel
theorem dX8_undo_90 : decode cX8_undo 90 = .ok (.aload_n 0, 1) := by decide +kernel
theorem dX8_undo_91 : decode cX8_undo 91 = .ok (.aload_n 3, 1) := by decide +kernel
theorem dX8_undo_92 : decode cX8_undo 92 = .ok (.new 125, 3) := by decide +kernel
theorem dX8_undo_95 : decode cX8_undo 95 = .ok (.dup, 1) := by decide +kernel
theorem dX8_undo_96 : decode cX8_undo 96 = .ok (.aload_n 0, 1) := by decide +kernel
theorem dX8_undo_97 : decode cX8_undo 97 = .ok (.getfield 14, 3) := by decide +kernel
theorem dX8_undo_100 : decode cX8_undo 100 = .ok (.getfield 77, 3) := by decide +kernel
theorem dX8_undo_103 : decode cX8_undo 103 = .ok (.aload_n 3, 1) := by decide +kernel
theorem dX8_undo_104 : decode cX8_undo 104 = .ok (.aload 4, 2) := by decide +kernel
theorem dX8_undo_106 : decode cX8_undo 106 = .ok (.getfield 127, 3) := by decide +kernel
theorem dX8_undo_109 : decode cX8_undo 109 = .ok (.invokespecial 130, 3) := by decide +kernel
theorem dX8_undo_112 : decode cX8_undo 112 = .ok (.invokevirtual 83, 3) := by decide +kernel
theorem dX8_undo_115 : decode cX8_undo 115 = .ok (.ireturn, 1) := by decide +kernel
theorem dX8_carry_0 : decode cX8_carry 0 = .ok (.aload_n 0, 1) := by decide +kernel
theorem dX8_carry_1 : decode cX8_carry 1 = .ok (.iload_n 2, 1) := by decide +kernel
theorem dX8_carry_2 : decode cX8_carry 2 = .ok (.invokevirtual 44, 3) := by decide +kernel
theorem dX8_carry_5 : decode cX8_carry 5 = .ok (.astore_n 3, 1) := by decide +kernel
theorem dX8_carry_6 : decode cX8_carry 6 = .ok (.aload_n 0, 1) := by decide +kernel
theorem dX8_carry_7 : decode cX8_carry 7 = .ok (.getfield 14, 3) := by decide +kernel
theorem dX8_carry_10 : decode cX8_carry 10 = .ok (.iload_n 1, 1) := by decide +kernel
theorem dX8_carry_11 : decode cX8_carry 11 = .ok (.invokevirtual 112, 3) := by decide +kernel
theorem dX8_carry_14 : decode cX8_carry 14 = .ok (.astore 4, 2) := by decide +kernel
theorem dX8_carry_16 : decode cX8_carry 16 = .ok (.aload_n 3, 1) := by decide +kernel
theorem dX8_carry_17 : decode cX8_carry 17 = .ok (.ifnull 8, 3) := by decide +kernel
theorem dX8_carry_20 : decode cX8_carry 20 = .ok (.aload 4, 2) := by decide +kernel
theorem dX8_carry_22 : decode cX8_carry 22 = .ok (.ifnonnull 9, 3) := by decide +kernel
theorem dX8_carry_25 : decode cX8_carry 25 = .ok (.aload_n 0, 1) := by decide +kernel
theorem dX8_carry_26 : decode cX8_carry 26 = .ok (.iconst 1, 1) := by decide +kernel
theorem dX8_carry_27 : decode cX8_carry 27 = .ok (.invokevirtual 48, 3) := by decide +kernel
theorem dX8_carry_30 : decode cX8_carry 30 = .ok (.ireturn, 1) := by decide +kernel
theorem dX8_carry_31 : decode cX8_carry 31 = .ok (.aload_n 3, 1) := by decide +kernel
theorem dX8_carry_32 : decode cX8_carry 32 = .ok (.aload 4, 2) := by decide +kernel
theorem dX8_carry_34 : decode cX8_carry 34 = .ok (.invokevirtual 133, 3) := by decide +kernel
theorem dX8_carry_37 : decode cX8_carry 37 = .ok (.aload_n 0, 1) := by decide +kernel
theorem dX8_carry_38 : decode cX8_carry 38 = .ok (.aload_n 3, 1) := by decide +kernel
theorem dX8_carry_39 : decode cX8_carry 39 = .ok (.aload_n 0, 1) := by decide +kernel
theorem dX8_carry_40 : decode cX8_carry 40 = .ok (.getfield 14, 3) := by decide +kernel
theorem dX8_carry_43 : decode cX8_carry 43 = .ok (.invokevirtual 137, 3) := by decide +kernel
theorem dX8_carry_46 : decode cX8_carry 46 = .ok (.invokevirtual 141, 3) := by decide +kernel
theorem dX8_carry_49 : decode cX8_carry 49 = .ok (.ireturn, 1) := by decide +kernel
theorem dX8_all_0 : decode cX8_all 0 = .ok (.aload_n 0, 1) := by decide +kernel
theorem dX8_all_1 : decode cX8_all 1 = .ok (.iload_n 1, 1) := by decide +kernel
theorem dX8_all_2 : decode cX8_all 2 = .ok (.invokevirtual 44, 3) := by decide +kernel
theorem dX8_all_5 : decode cX8_all 5 = .ok (.astore_n 3, 1) := by decide +kernel
theorem dX8_all_6 : decode cX8_all 6 = .ok (.aload_n 0, 1) := by decide +kernel
theorem dX8_all_7 : decode cX8_all 7 = .ok (.iload_n 2, 1) := by decide +kernel
theorem dX8_all_8 : decode cX8_all 8 = .ok (.invokevirtual 44, 3) := by decide +kernel
theorem dX8_all_11 : decode cX8_all 11 = .ok (.astore 4, 2) := by decide +kernel
theorem dX8_all_13 : decode cX8_all 13 = .ok (.aload_n 3, 1) := by decide +kernel
theorem dX8_all_14 : decode cX8_all 14 = .ok (.ifnull 8, 3) := by decide +kernel
theorem dX8_all_17 : decode cX8_all 17 = .ok (.aload 4, 2) := by decide +kernel
theorem dX8_all_19 : decode cX8_all 19 = .ok (.ifnonnull 9, 3) := by decide +kernel
theorem dX8_all_22 : decode cX8_all 22 = .ok (.aload_n 0, 1) := by decide +kernel
theorem dX8_all_23 : decode cX8_all 23 = .ok (.iconst 1, 1) := by decide +kernel
theorem dX8_all_24 : decode cX8_all 24 = .ok (.invokevirtual 48, 3) := by decide +kernel
theorem dX8_all_27 : decode cX8_all 27 = .ok (.ireturn, 1) := by decide +kernel
theorem dX8_all_28 : decode cX8_all 28 = .ok (.iconst 0, 1) := by decide +kernel
theorem dX8_all_29 : decode cX8_all 29 = .ok (.istore 5, 2) := by decide +kernel
theorem dX8_all_31 : decode cX8_all 31 = .ok (.iload 5, 2) := by decide +kernel
theorem dX8_all_33 : decode cX8_all 33 = .ok (.aload_n 0, 1) := by decide +kernel
theorem dX8_all_34 : decode cX8_all 34 = .ok (.getfield 14, 3) := by decide +kernel
theorem dX8_all_37 : decode cX8_all 37 = .ok (.getfield 77, 3) := by decide +kernel
theorem dX8_all_40 : decode cX8_all 40 = .ok (.if_icmp .ge 37, 3) := by decide +kernel
theorem dX8_all_43 : decode cX8_all 43 = .ok (.aload_n 0, 1) := by decide +kernel
theorem dX8_all_44 : decode cX8_all 44 = .ok (.getfield 14, 3) := by decide +kernel
theorem dX8_all_47 : decode cX8_all 47 = .ok (.getfield 144, 3) := by decide +kernel
theorem dX8_all_50 : decode cX8_all 50 = .ok (.iload 5, 2) := by decide +kernel
theorem dX8_all_52 : decode cX8_all 52 = .ok (.aaload, 1) := by decide +kernel
theorem dX8_all_53 : decode cX8_all 53 = .ok (.astore 6, 2) := by decide +kernel
theorem dX8_all_55 : decode cX8_all 55 = .ok (.aload_n 3, 1) := by decide +kernel
theorem dX8_all_56 : decode cX8_all 56 = .ok (.aload 6, 2) := by decide +kernel
theorem dX8_all_58 : decode cX8_all 58 = .ok (.invokevirtual 148, 3) := by decide +kernel
theorem dX8_all_61 : decode cX8_all 61 = .ok (.ifCond .eq 10, 3) := by decide +kernel
theorem dX8_all_64 : decode cX8_all 64 = .ok (.aload 4, 2) := by decide +kernel
theorem dX8_all_66 : decode cX8_all 66 = .ok (.aload 6, 2) := by decide +kernel
theorem dX8_all_68 : decode cX8_all 68 = .ok (.invokevirtual 133, 3) := by decide +kernel
theorem dX8_all_71 : decode cX8_all 71 = .ok (.iinc 5 1, 3) := by decide +kernel
theorem dX8_all_74 : decode cX8_all 74 = .ok (.goto (-43), 3) := by decide +kernel
theorem dX8_all_77 : decode cX8_all 77 = .ok (.aload_n 0, 1) := by decide +kernel
theorem dX8_all_78 : decode cX8_all 78 = .ok (.aload 4, 2) := by decide +kernel
theorem dX8_all_80 : decode cX8_all 80 = .ok (.aload_n 0, 1) := by decide +kernel
theorem dX8_all_81 : decode cX8_all 81 = .ok (.getfield 14, 3) := by decide +kernel
theorem dX8_all_84 : decode cX8_all 84 = .ok (.invokevirtual 137, 3) := by decide +kernel
theorem dX8_all_87 : decode cX8_all 87 = .ok (.invokevirtual 141, 3) := by decide +kernel
theorem dX8_all_90 : decode cX8_all 90 = .ok (.ireturn, 1) := by decide +kernel
theorem dX8_state_0 : decode cX8_state 0 = .ok (.aload_n 0, 1) := by decide +kernel
theorem dX8_state_1 : decode cX8_state 1 = .ok (.iload_n 1, 1) := by decide +kernel
theorem dX8_state_2 : decode cX8_state 2 = .ok (.invokevirtual 44, 3) := by decide +kernel
theorem dX8_state_5 : decode cX8_state 5 = .ok (.astore_n 3, 1) := by decide +kernel
theorem dX8_state_6 : decode cX8_state 6 = .ok (.aload_n 0, 1) := by decide +kernel
theorem dX8_state_7 : decode cX8_state 7 = .ok (.getfield 14, 3) := by decide +kernel
theorem dX8_state_10 : decode cX8_state 10 = .ok (.iload_n 2, 1) := by decide +kernel
theorem dX8_state_11 : decode cX8_state 11 = .ok (.invokevirtual 112, 3) := by decide +kernel
theorem dX8_state_14 : decode cX8_state 14 = .ok (.astore 4, 2) := by decide +kernel
theorem dX8_state_16 : decode cX8_state 16 = .ok (.aload_n 3, 1) := by decide +kernel
theorem dX8_state_17 : decode cX8_state 17 = .ok (.ifnull 8, 3) := by decide +kernel
theorem dX8_state_20 : decode cX8_state 20 = .ok (.aload 4, 2) := by decide +kernel
theorem dX8_state_22 : decode cX8_state 22 = .ok (.ifnonnull 5, 3) := by decide +kernel
theorem dX8_state_25 : decode cX8_state 25 = .ok (.iconst (-1), 1) := by decide +kernel
theorem dX8_state_26 : decode cX8_state 26 = .ok (.ireturn, 1) := by decide +kernel
theorem dX8_state_27 : decode cX8_state 27 = .ok (.aload_n 0, 1) := by decide +kernel
theorem dX8_state_28 : decode cX8_state 28 = .ok (.getfield 32, 3) := by decide +kernel
theorem dX8_state_31 : decode cX8_state 31 = .ok (.aload_n 3, 1) := by decide +kernel
theorem dX8_state_32 : decode cX8_state 32 = .ok (.ldc 52, 2) := by decide +kernel
theorem dX8_state_34 : decode cX8_state 34 = .ok (.invokevirtual 53, 3) := by decide +kernel
theorem dX8_state_37 : decode cX8_state 37 = .ok (.aload_n 0, 1) := by decide +kernel
theorem dX8_state_38 : decode cX8_state 38 = .ok (.getfield 32, 3) := by decide +kernel
theorem dX8_state_41 : decode cX8_state 41 = .ok (.aload 4, 2) := by decide +kernel
theorem dX8_state_43 : decode cX8_state 43 = .ok (.invokevirtual 121, 3) := by decide +kernel
theorem dX8_state_46 : decode cX8_state 46 = .ok (.ifCond .eq 7, 3) := by decide +kernel
theorem dX8_state_49 : decode cX8_state 49 = .ok (.iconst 3, 1) := by decide +kernel
theorem dX8_state_50 : decode cX8_state 50 = .ok (.goto 13, 3) := by decide +kernel
theorem dX8_state_53 : decode cX8_state 53 = .ok (.aload_n 3, 1) := by decide +kernel
theorem dX8_state_54 : decode cX8_state 54 = .ok (.getfield 151, 3) := by decide +kernel
theorem dX8_state_57 : decode cX8_state 57 = .ok (.aload 4, 2) := by decide +kernel
theorem dX8_state_59 : decode cX8_state 59 = .ok (.getfield 127, 3) := by decide +kernel
theorem dX8_state_62 : decode cX8_state 62 = .ok (.iaload, 1) := by decide +kernel
theorem dX8_state_63 : decode cX8_state 63 = .ok (.ireturn, 1) := by decide +kernel
theorem dX8_lacks_0 : decode cX8_lacks 0 = .ok (.aload_n 0, 1) := by decide +kernel
theorem dX8_lacks_1 : decode cX8_lacks 1 = .ok (.iload_n 1, 1) := by decide +kernel
theorem dX8_lacks_2 : decode cX8_lacks 2 = .ok (.invokevirtual 44, 3) := by decide +kernel
theorem dX8_lacks_5 : decode cX8_lacks 5 = .ok (.astore_n 3, 1) := by decide +kernel
theorem dX8_lacks_6 : decode cX8_lacks 6 = .ok (.aload_n 0, 1) := by decide +kernel
theorem dX8_lacks_7 : decode cX8_lacks 7 = .ok (.getfield 14, 3) := by decide +kernel
theorem dX8_lacks_10 : decode cX8_lacks 10 = .ok (.iload_n 2, 1) := by decide +kernel
theorem dX8_lacks_11 : decode cX8_lacks 11 = .ok (.invokevirtual 112, 3) := by decide +kernel
theorem dX8_lacks_14 : decode cX8_lacks 14 = .ok (.astore 4, 2) := by decide +kernel
theorem dX8_lacks_16 : decode cX8_lacks 16 = .ok (.aload_n 3, 1) := by decide +kernel
theorem dX8_lacks_17 : decode cX8_lacks 17 = .ok (.ifnull 22, 3) := by decide +kernel
theorem dX8_lacks_20 : decode cX8_lacks 20 = .ok (.aload 4, 2) := by decide +kernel
theorem dX8_lacks_22 : decode cX8_lacks 22 = .ok (.ifnull 17, 3) := by decide +kernel
theorem dX8_lacks_25 : decode cX8_lacks 25 = .ok (.aload_n 3, 1) := by decide +kernel
theorem dX8_lacks_26 : decode cX8_lacks 26 = .ok (.getfield 151, 3) := by decide +kernel
theorem dX8_lacks_29 : decode cX8_lacks 29 = .ok (.aload 4, 2) := by decide +kernel
theorem dX8_lacks_31 : decode cX8_lacks 31 = .ok (.getfield 127, 3) := by decide +kernel
theorem dX8_lacks_34 : decode cX8_lacks 34 = .ok (.iaload, 1) := by decide +kernel
theorem dX8_lacks_35 : decode cX8_lacks 35 = .ok (.iconst 1, 1) := by decide +kernel
theorem dX8_lacks_36 : decode cX8_lacks 36 = .ok (.if_icmp .eq 5, 3) := by decide +kernel
theorem dX8_lacks_39 : decode cX8_lacks 39 = .ok (.iconst (-1), 1) := by decide +kernel
theorem dX8_lacks_40 : decode cX8_lacks 40 = .ok (.ireturn, 1) := by decide +kernel
theorem dX8_lacks_41 : decode cX8_lacks 41 = .ok (.aload_n 3, 1) := by decide +kernel
theorem dX8_lacks_42 : decode cX8_lacks 42 = .ok (.aload 4, 2) := by decide +kernel
theorem dX8_lacks_44 : decode cX8_lacks 44 = .ok (.invokevirtual 154, 3) := by decide +kernel
theorem dX8_lacks_47 : decode cX8_lacks 47 = .ok (.ireturn, 1) := by decide +kernel
theorem dX8_slips_0 : decode cX8_slips 0 = .ok (.aload_n 0, 1) := by decide +kernel
theorem dX8_slips_1 : decode cX8_slips 1 = .ok (.getfield 14, 3) := by decide +kernel
theorem dX8_slips_4 : decode cX8_slips 4 = .ok (.getfield 77, 3) := by decide +kernel
theorem dX8_slips_7 : decode cX8_slips 7 = .ok (.ireturn, 1) := by decide +kernel
theorem dX8_slip_0 : decode cX8_slip 0 = .ok (.aload_n 0, 1) := by decide +kernel
theorem dX8_slip_1 : decode cX8_slip 1 = .ok (.getfield 14, 3) := by decide +kernel
theorem dX8_slip_4 : decode cX8_slip 4 = .ok (.iload_n 1, 1) := by decide +kernel
theorem dX8_slip_5 : decode cX8_slip 5 = .ok (.invokevirtual 112, 3) := by decide +kernel
theorem dX8_slip_8 : decode cX8_slip 8 = .ok (.astore_n 3, 1) := by decide +kernel
theorem dX8_slip_9 : decode cX8_slip 9 = .ok (.aload_n 3, 1) := by decide +kernel
theorem dX8_slip_10 : decode cX8_slip 10 = .ok (.ifnonnull 5, 3) := by decide +kernel
theorem dX8_slip_13 : decode cX8_slip 13 = .ok (.iconst (-1), 1) := by decide +kernel
theorem dX8_slip_14 : decode cX8_slip 14 = .ok (.ireturn, 1) := by decide +kernel
theorem dX8_slip_15 : decode cX8_slip 15 = .ok (.iload_n 2, 1) := by decide +kernel
theorem dX8_slip_16 : decode cX8_slip 16 = .ok (.tableswitch 52 0 3 #[32, 37, 42, 47], 32) := by decide +kernel
theorem dX8_slip_48 : decode cX8_slip 48 = .ok (.aload_n 3, 1) := by decide +kernel
theorem dX8_slip_49 : decode cX8_slip 49 = .ok (.getfield 116, 3) := by decide +kernel
theorem dX8_slip_52 : decode cX8_slip 52 = .ok (.ireturn, 1) := by decide +kernel
theorem dX8_slip_53 : decode cX8_slip 53 = .ok (.aload_n 3, 1) := by decide +kernel
theorem dX8_slip_54 : decode cX8_slip 54 = .ok (.getfield 158, 3) := by decide +kernel
theorem dX8_slip_57 : decode cX8_slip 57 = .ok (.ireturn, 1) := by decide +kernel
theorem dX8_slip_58 : decode cX8_slip 58 = .ok (.aload_n 3, 1) := by decide +kernel
theorem dX8_slip_59 : decode cX8_slip 59 = .ok (.invokevirtual 161, 3) := by decide +kernel
theorem dX8_slip_62 : decode cX8_slip 62 = .ok (.ireturn, 1) := by decide +kernel
theorem dX8_slip_63 : decode cX8_slip 63 = .ok (.aload_n 3, 1) := by decide +kernel
theorem dX8_slip_64 : decode cX8_slip 64 = .ok (.invokevirtual 165, 3) := by decide +kernel
theorem dX8_slip_67 : decode cX8_slip 67 = .ok (.ireturn, 1) := by decide +kernel
theorem dX8_slip_68 : decode cX8_slip 68 = .ok (.iconst (-1), 1) := by decide +kernel
theorem dX8_slip_69 : decode cX8_slip 69 = .ok (.ireturn, 1) := by decide +kernel
theorem dX8_part_0 : decode cX8_part 0 = .ok (.aload_n 0, 1) := by decide +kernel
theorem dX8_part_1 : decode cX8_part 1 = .ok (.getfield 14, 3) := by decide +kernel
theorem dX8_part_4 : decode cX8_part 4 = .ok (.iload_n 1, 1) := by decide +kernel
theorem dX8_part_5 : decode cX8_part 5 = .ok (.invokevirtual 112, 3) := by decide +kernel
theorem dX8_part_8 : decode cX8_part 8 = .ok (.astore_n 3, 1) := by decide +kernel
theorem dX8_part_9 : decode cX8_part 9 = .ok (.aload_n 3, 1) := by decide +kernel
theorem dX8_part_10 : decode cX8_part 10 = .ok (.ifnonnull 9, 3) := by decide +kernel
theorem dX8_part_13 : decode cX8_part 13 = .ok (.aload_n 0, 1) := by decide +kernel
theorem dX8_part_14 : decode cX8_part 14 = .ok (.iconst 1, 1) := by decide +kernel
theorem dX8_part_15 : decode cX8_part 15 = .ok (.invokevirtual 48, 3) := by decide +kernel
theorem dX8_part_18 : decode cX8_part 18 = .ok (.ireturn, 1) := by decide +kernel
theorem dX8_part_19 : decode cX8_part 19 = .ok (.aload_n 3, 1) := by decide +kernel
theorem dX8_part_20 : decode cX8_part 20 = .ok (.invokevirtual 161, 3) := by decide +kernel
theorem dX8_part_23 : decode cX8_part 23 = .ok (.iconst 3, 1) := by decide +kernel
theorem dX8_part_24 : decode cX8_part 24 = .ok (.if_icmp .ne 10, 3) := by decide +kernel
theorem dX8_part_27 : decode cX8_part 27 = .ok (.aload_n 0, 1) := by decide +kernel
theorem dX8_part_28 : decode cX8_part 28 = .ok (.bipush 6, 2) := by decide +kernel
theorem dX8_part_30 : decode cX8_part 30 = .ok (.invokevirtual 48, 3) := by decide +kernel
theorem dX8_part_33 : decode cX8_part 33 = .ok (.ireturn, 1) := by decide +kernel
theorem dX8_part_34 : decode cX8_part 34 = .ok (.iload_n 2, 1) := by decide +kernel
theorem dX8_part_35 : decode cX8_part 35 = .ok (.ifCond .lt 11, 3) := by decide +kernel
theorem dX8_part_38 : decode cX8_part 38 = .ok (.iload_n 2, 1) := by decide +kernel
theorem dX8_part_39 : decode cX8_part 39 = .ok (.aload_n 3, 1) := by decide +kernel
theorem dX8_part_40 : decode cX8_part 40 = .ok (.invokevirtual 165, 3) := by decide +kernel
theorem dX8_part_43 : decode cX8_part 43 = .ok (.if_icmp .lt 9, 3) := by decide +kernel
theorem dX8_part_46 : decode cX8_part 46 = .ok (.aload_n 0, 1) := by decide +kernel
theorem dX8_part_47 : decode cX8_part 47 = .ok (.iconst 1, 1) := by decide +kernel
theorem dX8_part_48 : decode cX8_part 48 = .ok (.invokevirtual 48, 3) := by decide +kernel
theorem dX8_part_51 : decode cX8_part 51 = .ok (.ireturn, 1) := by decide +kernel
theorem dX8_part_52 : decode cX8_part 52 = .ok (.aload_n 0, 1) := by decide +kernel
theorem dX8_part_53 : decode cX8_part 53 = .ok (.aload_n 3, 1) := by decide +kernel
theorem dX8_part_54 : decode cX8_part 54 = .ok (.iload_n 2, 1) := by decide +kernel
theorem dX8_part_55 : decode cX8_part 55 = .ok (.invokevirtual 168, 3) := by decide +kernel
theorem dX8_part_58 : decode cX8_part 58 = .ok (.invokevirtual 141, 3) := by decide +kernel
theorem dX8_part_61 : decode cX8_part 61 = .ok (.ireturn, 1) := by decide +kernel
theorem dX8_left_0 : decode cX8_left 0 = .ok (.aload_n 0, 1) := by decide +kernel
theorem dX8_left_1 : decode cX8_left 1 = .ok (.getfield 14, 3) := by decide +kernel
theorem dX8_left_4 : decode cX8_left 4 = .ok (.iload_n 1, 1) := by decide +kernel
theorem dX8_left_5 : decode cX8_left 5 = .ok (.invokevirtual 112, 3) := by decide +kernel
theorem dX8_left_8 : decode cX8_left 8 = .ok (.astore_n 2, 1) := by decide +kernel
theorem dX8_left_9 : decode cX8_left 9 = .ok (.aload_n 2, 1) := by decide +kernel
theorem dX8_left_10 : decode cX8_left 10 = .ok (.ifnonnull 9, 3) := by decide +kernel
theorem dX8_left_13 : decode cX8_left 13 = .ok (.aload_n 0, 1) := by decide +kernel
theorem dX8_left_14 : decode cX8_left 14 = .ok (.iconst 1, 1) := by decide +kernel
theorem dX8_left_15 : decode cX8_left 15 = .ok (.invokevirtual 48, 3) := by decide +kernel
theorem dX8_left_18 : decode cX8_left 18 = .ok (.ireturn, 1) := by decide +kernel
theorem dX8_left_19 : decode cX8_left 19 = .ok (.aload_n 2, 1) := by decide +kernel
theorem dX8_left_20 : decode cX8_left 20 = .ok (.instanceof 75, 3) := by decide +kernel
theorem dX8_left_23 : decode cX8_left 23 = .ok (.ifCond .eq 19, 3) := by decide +kernel
theorem dX8_left_26 : decode cX8_left 26 = .ok (.aload_n 2, 1) := by decide +kernel
theorem dX8_left_27 : decode cX8_left 27 = .ok (.checkcast 75, 3) := by decide +kernel
theorem dX8_left_30 : decode cX8_left 30 = .ok (.astore_n 3, 1) := by decide +kernel
theorem dX8_left_31 : decode cX8_left 31 = .ok (.aload_n 0, 1) := by decide +kernel
theorem dX8_left_32 : decode cX8_left 32 = .ok (.aload_n 3, 1) := by decide +kernel
theorem dX8_left_33 : decode cX8_left 33 = .ok (.getfield 171, 3) := by decide +kernel
theorem dX8_left_36 : decode cX8_left 36 = .ok (.invokevirtual 141, 3) := by decide +kernel
theorem dX8_left_39 : decode cX8_left 39 = .ok (.goto 9, 3) := by decide +kernel
theorem dX8_left_42 : decode cX8_left 42 = .ok (.aload_n 0, 1) := by decide +kernel
theorem dX8_left_43 : decode cX8_left 43 = .ok (.bipush 6, 2) := by decide +kernel
theorem dX8_left_45 : decode cX8_left 45 = .ok (.invokevirtual 48, 3) := by decide +kernel
theorem dX8_left_48 : decode cX8_left 48 = .ok (.ireturn, 1) := by decide +kernel
theorem dX8_bound_0 : decode cX8_bound 0 = .ok (.aload_n 0, 1) := by decide +kernel
theorem dX8_bound_1 : decode cX8_bound 1 = .ok (.getfield 14, 3) := by decide +kernel
theorem dX8_bound_4 : decode cX8_bound 4 = .ok (.iload_n 1, 1) := by decide +kernel
theorem dX8_bound_5 : decode cX8_bound 5 = .ok (.invokevirtual 112, 3) := by decide +kernel
theorem dX8_bound_8 : decode cX8_bound 8 = .ok (.astore_n 2, 1) := by decide +kernel
theorem dX8_bound_9 : decode cX8_bound 9 = .ok (.aload_n 2, 1) := by decide +kernel
theorem dX8_bound_10 : decode cX8_bound 10 = .ok (.ifnonnull 9, 3) := by decide +kernel
theorem dX8_bound_13 : decode cX8_bound 13 = .ok (.aload_n 0, 1) := by decide +kernel
theorem dX8_bound_14 : decode cX8_bound 14 = .ok (.iconst 1, 1) := by decide +kernel
theorem dX8_bound_15 : decode cX8_bound 15 = .ok (.invokevirtual 48, 3) := by decide +kernel
theorem dX8_bound_18 : decode cX8_bound 18 = .ok (.ireturn, 1) := by decide +kernel
theorem dX8_bound_19 : decode cX8_bound 19 = .ok (.aload_n 2, 1) := by decide +kernel
theorem dX8_bound_20 : decode cX8_bound 20 = .ok (.instanceof 107, 3) := by decide +kernel
theorem dX8_bound_23 : decode cX8_bound 23 = .ok (.ifCond .eq 19, 3) := by decide +kernel
theorem dX8_bound_26 : decode cX8_bound 26 = .ok (.aload_n 2, 1) := by decide +kernel
theorem dX8_bound_27 : decode cX8_bound 27 = .ok (.checkcast 107, 3) := by decide +kernel
theorem dX8_bound_30 : decode cX8_bound 30 = .ok (.astore_n 3, 1) := by decide +kernel
theorem dX8_bound_31 : decode cX8_bound 31 = .ok (.aload_n 0, 1) := by decide +kernel
theorem dX8_bound_32 : decode cX8_bound 32 = .ok (.aload_n 3, 1) := by decide +kernel
theorem dX8_bound_33 : decode cX8_bound 33 = .ok (.getfield 174, 3) := by decide +kernel
theorem dX8_bound_36 : decode cX8_bound 36 = .ok (.invokevirtual 141, 3) := by decide +kernel
theorem dX8_bound_39 : decode cX8_bound 39 = .ok (.goto 9, 3) := by decide +kernel
theorem dX8_bound_42 : decode cX8_bound 42 = .ok (.aload_n 0, 1) := by decide +kernel
theorem dX8_bound_43 : decode cX8_bound 43 = .ok (.bipush 6, 2) := by decide +kernel
theorem dX8_bound_45 : decode cX8_bound 45 = .ok (.invokevirtual 48, 3) := by decide +kernel
theorem dX8_bound_48 : decode cX8_bound 48 = .ok (.ireturn, 1) := by decide +kernel
theorem dX8_undone_0 : decode cX8_undone 0 = .ok (.aload_n 0, 1) := by decide +kernel
theorem dX8_undone_1 : decode cX8_undone 1 = .ok (.getfield 14, 3) := by decide +kernel
theorem dX8_undone_4 : decode cX8_undone 4 = .ok (.iload_n 1, 1) := by decide +kernel
theorem dX8_undone_5 : decode cX8_undone 5 = .ok (.invokevirtual 112, 3) := by decide +kernel
theorem dX8_undone_8 : decode cX8_undone 8 = .ok (.astore_n 2, 1) := by decide +kernel
theorem dX8_undone_9 : decode cX8_undone 9 = .ok (.aload_n 2, 1) := by decide +kernel
theorem dX8_undone_10 : decode cX8_undone 10 = .ok (.ifnonnull 9, 3) := by decide +kernel
theorem dX8_undone_13 : decode cX8_undone 13 = .ok (.aload_n 0, 1) := by decide +kernel
theorem dX8_undone_14 : decode cX8_undone 14 = .ok (.iconst 1, 1) := by decide +kernel
theorem dX8_undone_15 : decode cX8_undone 15 = .ok (.invokevirtual 48, 3) := by decide +kernel
theorem dX8_undone_18 : decode cX8_undone 18 = .ok (.ireturn, 1) := by decide +kernel
theorem dX8_undone_19 : decode cX8_undone 19 = .ok (.aload_n 2, 1) := by decide +kernel
theorem dX8_undone_20 : decode cX8_undone 20 = .ok (.instanceof 125, 3) := by decide +kernel
theorem dX8_undone_23 : decode cX8_undone 23 = .ok (.ifCond .eq 19, 3) := by decide +kernel
theorem dX8_undone_26 : decode cX8_undone 26 = .ok (.aload_n 2, 1) := by decide +kernel
theorem dX8_undone_27 : decode cX8_undone 27 = .ok (.checkcast 125, 3) := by decide +kernel
theorem dX8_undone_30 : decode cX8_undone 30 = .ok (.astore_n 3, 1) := by decide +kernel
theorem dX8_undone_31 : decode cX8_undone 31 = .ok (.aload_n 0, 1) := by decide +kernel
theorem dX8_undone_32 : decode cX8_undone 32 = .ok (.aload_n 3, 1) := by decide +kernel
theorem dX8_undone_33 : decode cX8_undone 33 = .ok (.getfield 177, 3) := by decide +kernel
theorem dX8_undone_36 : decode cX8_undone 36 = .ok (.invokevirtual 141, 3) := by decide +kernel
theorem dX8_undone_39 : decode cX8_undone 39 = .ok (.goto 9, 3) := by decide +kernel
theorem dX8_undone_42 : decode cX8_undone 42 = .ok (.aload_n 0, 1) := by decide +kernel
theorem dX8_undone_43 : decode cX8_undone 43 = .ok (.bipush 6, 2) := by decide +kernel
theorem dX8_undone_45 : decode cX8_undone 45 = .ok (.invokevirtual 48, 3) := by decide +kernel
theorem dX8_undone_48 : decode cX8_undone 48 = .ok (.ireturn, 1) := by decide +kernel
theorem dX8_later_0 : decode cX8_later 0 = .ok (.aload_n 0, 1) := by decide +kernel
theorem dX8_later_1 : decode cX8_later 1 = .ok (.getfield 14, 3) := by decide +kernel
theorem dX8_later_4 : decode cX8_later 4 = .ok (.iload_n 1, 1) := by decide +kernel
theorem dX8_later_5 : decode cX8_later 5 = .ok (.invokevirtual 112, 3) := by decide +kernel
theorem dX8_later_8 : decode cX8_later 8 = .ok (.astore_n 3, 1) := by decide +kernel
theorem dX8_later_9 : decode cX8_later 9 = .ok (.aload_n 0, 1) := by decide +kernel
theorem dX8_later_10 : decode cX8_later 10 = .ok (.getfield 14, 3) := by decide +kernel
theorem dX8_later_13 : decode cX8_later 13 = .ok (.iload_n 2, 1) := by decide +kernel
theorem dX8_later_14 : decode cX8_later 14 = .ok (.invokevirtual 112, 3) := by decide +kernel
theorem dX8_later_17 : decode cX8_later 17 = .ok (.astore 4, 2) := by decide +kernel
theorem dX8_later_19 : decode cX8_later 19 = .ok (.aload_n 3, 1) := by decide +kernel
theorem dX8_later_20 : decode cX8_later 20 = .ok (.ifnull 21, 3) := by decide +kernel
theorem dX8_later_23 : decode cX8_later 23 = .ok (.aload 4, 2) := by decide +kernel
theorem dX8_later_25 : decode cX8_later 25 = .ok (.ifnull 16, 3) := by decide +kernel
theorem dX8_later_28 : decode cX8_later 28 = .ok (.aload_n 3, 1) := by decide +kernel
theorem dX8_later_29 : decode cX8_later 29 = .ok (.aload 4, 2) := by decide +kernel
theorem dX8_later_31 : decode cX8_later 31 = .ok (.invokevirtual 180, 3) := by decide +kernel
theorem dX8_later_34 : decode cX8_later 34 = .ok (.ifCond .eq 7, 3) := by decide +kernel
theorem dX8_later_37 : decode cX8_later 37 = .ok (.iconst 1, 1) := by decide +kernel
theorem dX8_later_38 : decode cX8_later 38 = .ok (.goto 4, 3) := by decide +kernel
theorem dX8_later_41 : decode cX8_later 41 = .ok (.iconst 0, 1) := by decide +kernel
theorem dX8_later_42 : decode cX8_later 42 = .ok (.ireturn, 1) := by decide +kernel
theorem dX8_length_0 : decode cX8_length 0 = .ok (.aload_n 0, 1) := by decide +kernel
theorem dX8_length_1 : decode cX8_length 1 = .ok (.iload_n 1, 1) := by decide +kernel
theorem dX8_length_2 : decode cX8_length 2 = .ok (.invokevirtual 183, 3) := by decide +kernel
theorem dX8_length_5 : decode cX8_length 5 = .ok (.ifCond .eq 13, 3) := by decide +kernel
theorem dX8_length_8 : decode cX8_length 8 = .ok (.aload_n 0, 1) := by decide +kernel
theorem dX8_length_9 : decode cX8_length 9 = .ok (.getfield 32, 3) := by decide +kernel
theorem dX8_length_12 : decode cX8_length 12 = .ok (.getfield 61, 3) := by decide +kernel
theorem dX8_length_15 : decode cX8_length 15 = .ok (.goto 4, 3) := by decide +kernel
theorem dX8_length_18 : decode cX8_length 18 = .ok (.iconst (-1), 1) := by decide +kernel
theorem dX8_length_19 : decode cX8_length 19 = .ok (.ireturn, 1) := by decide +kernel
theorem dX8_text_0 : decode cX8_text 0 = .ok (.aload_n 0, 1) := by decide +kernel
theorem dX8_text_1 : decode cX8_text 1 = .ok (.iload_n 1, 1) := by decide +kernel
theorem dX8_text_2 : decode cX8_text 2 = .ok (.invokevirtual 183, 3) := by decide +kernel
theorem dX8_text_5 : decode cX8_text 5 = .ok (.ifCond .eq 14, 3) := by decide +kernel
theorem dX8_text_8 : decode cX8_text 8 = .ok (.aload_n 0, 1) := by decide +kernel
theorem dX8_text_9 : decode cX8_text 9 = .ok (.getfield 32, 3) := by decide +kernel
theorem dX8_text_12 : decode cX8_text 12 = .ok (.iload_n 2, 1) := by decide +kernel
theorem dX8_text_13 : decode cX8_text 13 = .ok (.invokevirtual 185, 3) := by decide +kernel
theorem dX8_text_16 : decode cX8_text 16 = .ok (.ifCond .ne 5, 3) := by decide +kernel
theorem dX8_text_19 : decode cX8_text 19 = .ok (.iconst (-1), 1) := by decide +kernel
theorem dX8_text_20 : decode cX8_text 20 = .ok (.ireturn, 1) := by decide +kernel
theorem dX8_text_21 : decode cX8_text 21 = .ok (.iload_n 3, 1) := by decide +kernel
theorem dX8_text_22 : decode cX8_text 22 = .ok (.tableswitch 87 0 3 #[30, 46, 55, 71], 30) := by decide +kernel
theorem dX8_text_52 : decode cX8_text 52 = .ok (.aload_n 0, 1) := by decide +kernel
theorem dX8_text_53 : decode cX8_text 53 = .ok (.getfield 14, 3) := by decide +kernel
theorem dX8_text_56 : decode cX8_text 56 = .ok (.aload_n 0, 1) := by decide +kernel
theorem dX8_text_57 : decode cX8_text 57 = .ok (.getfield 32, 3) := by decide +kernel
theorem dX8_text_60 : decode cX8_text 60 = .ok (.iload_n 2, 1) := by decide +kernel
theorem dX8_text_61 : decode cX8_text 61 = .ok (.invokevirtual 72, 3) := by decide +kernel
theorem dX8_text_64 : decode cX8_text 64 = .ok (.invokevirtual 188, 3) := by decide +kernel
theorem dX8_text_67 : decode cX8_text 67 = .ok (.ireturn, 1) := by decide +kernel
theorem dX8_text_68 : decode cX8_text 68 = .ok (.aload_n 0, 1) := by decide +kernel
theorem dX8_text_69 : decode cX8_text 69 = .ok (.getfield 32, 3) := by decide +kernel
theorem dX8_text_72 : decode cX8_text 72 = .ok (.iload_n 2, 1) := by decide +kernel
theorem dX8_text_73 : decode cX8_text 73 = .ok (.invokevirtual 72, 3) := by decide +kernel
theorem dX8_text_76 : decode cX8_text 76 = .ok (.ireturn, 1) := by decide +kernel
theorem dX8_text_77 : decode cX8_text 77 = .ok (.aload_n 0, 1) := by decide +kernel
theorem dX8_text_78 : decode cX8_text 78 = .ok (.getfield 32, 3) := by decide +kernel
theorem dX8_text_81 : decode cX8_text 81 = .ok (.invokevirtual 191, 3) := by decide +kernel
theorem dX8_text_84 : decode cX8_text 84 = .ok (.aload_n 0, 1) := by decide +kernel
theorem dX8_text_85 : decode cX8_text 85 = .ok (.getfield 32, 3) := by decide +kernel
theorem dX8_text_88 : decode cX8_text 88 = .ok (.iload_n 2, 1) := by decide +kernel
theorem dX8_text_89 : decode cX8_text 89 = .ok (.invokevirtual 194, 3) := by decide +kernel
theorem dX8_text_92 : decode cX8_text 92 = .ok (.ireturn, 1) := by decide +kernel
theorem dX8_text_93 : decode cX8_text 93 = .ok (.aload_n 0, 1) := by decide +kernel
theorem dX8_text_94 : decode cX8_text 94 = .ok (.getfield 14, 3) := by decide +kernel
theorem dX8_text_97 : decode cX8_text 97 = .ok (.aload_n 0, 1) := by decide +kernel
theorem dX8_text_98 : decode cX8_text 98 = .ok (.getfield 32, 3) := by decide +kernel
theorem dX8_text_101 : decode cX8_text 101 = .ok (.iload_n 2, 1) := by decide +kernel
theorem dX8_text_102 : decode cX8_text 102 = .ok (.invokevirtual 72, 3) := by decide +kernel
theorem dX8_text_105 : decode cX8_text 105 = .ok (.invokevirtual 197, 3) := by decide +kernel
theorem dX8_text_108 : decode cX8_text 108 = .ok (.ireturn, 1) := by decide +kernel
theorem dX8_text_109 : decode cX8_text 109 = .ok (.iconst (-1), 1) := by decide +kernel
theorem dX8_text_110 : decode cX8_text 110 = .ok (.ireturn, 1) := by decide +kernel
theorem dX8_signs_0 : decode cX8_signs 0 = .ok (.aload_n 0, 1) := by decide +kernel
theorem dX8_signs_1 : decode cX8_signs 1 = .ok (.iload_n 1, 1) := by decide +kernel
theorem dX8_signs_2 : decode cX8_signs 2 = .ok (.invokevirtual 183, 3) := by decide +kernel
theorem dX8_signs_5 : decode cX8_signs 5 = .ok (.ifCond .eq 13, 3) := by decide +kernel
theorem dX8_signs_8 : decode cX8_signs 8 = .ok (.aload_n 0, 1) := by decide +kernel
theorem dX8_signs_9 : decode cX8_signs 9 = .ok (.getfield 32, 3) := by decide +kernel
theorem dX8_signs_12 : decode cX8_signs 12 = .ok (.getfield 200, 3) := by decide +kernel
theorem dX8_signs_15 : decode cX8_signs 15 = .ok (.goto 4, 3) := by decide +kernel
theorem dX8_signs_18 : decode cX8_signs 18 = .ok (.iconst (-1), 1) := by decide +kernel
theorem dX8_signs_19 : decode cX8_signs 19 = .ok (.ireturn, 1) := by decide +kernel
theorem dX8_order_0 : decode cX8_order 0 = .ok (.aload_n 0, 1) := by decide +kernel
theorem dX8_order_1 : decode cX8_order 1 = .ok (.iload_n 1, 1) := by decide +kernel
theorem dX8_order_2 : decode cX8_order 2 = .ok (.invokevirtual 183, 3) := by decide +kernel
theorem dX8_order_5 : decode cX8_order 5 = .ok (.ifCond .eq 30, 3) := by decide +kernel
theorem dX8_order_8 : decode cX8_order 8 = .ok (.iload_n 2, 1) := by decide +kernel
theorem dX8_order_9 : decode cX8_order 9 = .ok (.ifCond .lt 26, 3) := by decide +kernel
theorem dX8_order_12 : decode cX8_order 12 = .ok (.iload_n 2, 1) := by decide +kernel
theorem dX8_order_13 : decode cX8_order 13 = .ok (.aload_n 0, 1) := by decide +kernel
theorem dX8_order_14 : decode cX8_order 14 = .ok (.getfield 32, 3) := by decide +kernel
theorem dX8_order_17 : decode cX8_order 17 = .ok (.getfield 200, 3) := by decide +kernel
theorem dX8_order_20 : decode cX8_order 20 = .ok (.if_icmp .ge 15, 3) := by decide +kernel
theorem dX8_order_23 : decode cX8_order 23 = .ok (.aload_n 0, 1) := by decide +kernel
theorem dX8_order_24 : decode cX8_order 24 = .ok (.getfield 32, 3) := by decide +kernel
theorem dX8_order_27 : decode cX8_order 27 = .ok (.getfield 203, 3) := by decide +kernel
theorem dX8_order_30 : decode cX8_order 30 = .ok (.iload_n 2, 1) := by decide +kernel
theorem dX8_order_31 : decode cX8_order 31 = .ok (.iaload, 1) := by decide +kernel
theorem dX8_order_32 : decode cX8_order 32 = .ok (.goto 4, 3) := by decide +kernel
theorem dX8_order_35 : decode cX8_order 35 = .ok (.iconst (-1), 1) := by decide +kernel
theorem dX8_order_36 : decode cX8_order 36 = .ok (.ireturn, 1) := by decide +kernel
theorem dX8_place_0 : decode cX8_place 0 = .ok (.aload_n 0, 1) := by decide +kernel
theorem dX8_place_1 : decode cX8_place 1 = .ok (.iload_n 1, 1) := by decide +kernel
theorem dX8_place_2 : decode cX8_place 2 = .ok (.invokevirtual 183, 3) := by decide +kernel
theorem dX8_place_5 : decode cX8_place 5 = .ok (.ifCond .eq 14, 3) := by decide +kernel
theorem dX8_place_8 : decode cX8_place 8 = .ok (.aload_n 0, 1) := by decide +kernel
theorem dX8_place_9 : decode cX8_place 9 = .ok (.getfield 32, 3) := by decide +kernel
theorem dX8_place_12 : decode cX8_place 12 = .ok (.iload_n 2, 1) := by decide +kernel
theorem dX8_place_13 : decode cX8_place 13 = .ok (.invokevirtual 206, 3) := by decide +kernel
theorem dX8_place_16 : decode cX8_place 16 = .ok (.goto 4, 3) := by decide +kernel
theorem dX8_place_19 : decode cX8_place 19 = .ok (.iconst (-1), 1) := by decide +kernel
theorem dX8_place_20 : decode cX8_place 20 = .ok (.istore_n 3, 1) := by decide +kernel
theorem dX8_place_21 : decode cX8_place 21 = .ok (.iload_n 3, 1) := by decide +kernel
theorem dX8_place_22 : decode cX8_place 22 = .ok (.iconst (-1), 1) := by decide +kernel
theorem dX8_place_23 : decode cX8_place 23 = .ok (.if_icmp .ne 6, 3) := by decide +kernel
theorem dX8_place_26 : decode cX8_place 26 = .ok (.bipush (-3), 2) := by decide +kernel
theorem dX8_place_28 : decode cX8_place 28 = .ok (.ireturn, 1) := by decide +kernel
theorem dX8_place_29 : decode cX8_place 29 = .ok (.aload_n 0, 1) := by decide +kernel
theorem dX8_place_30 : decode cX8_place 30 = .ok (.getfield 32, 3) := by decide +kernel
theorem dX8_place_33 : decode cX8_place 33 = .ok (.iload_n 3, 1) := by decide +kernel
theorem dX8_place_34 : decode cX8_place 34 = .ok (.invokevirtual 209, 3) := by decide +kernel
theorem dX8_place_37 : decode cX8_place 37 = .ok (.ifCond .eq 15, 3) := by decide +kernel
theorem dX8_place_40 : decode cX8_place 40 = .ok (.aload_n 0, 1) := by decide +kernel
theorem dX8_place_41 : decode cX8_place 41 = .ok (.getfield 32, 3) := by decide +kernel
theorem dX8_place_44 : decode cX8_place 44 = .ok (.getfield 212, 3) := by decide +kernel
theorem dX8_place_47 : decode cX8_place 47 = .ok (.iload_n 3, 1) := by decide +kernel
theorem dX8_place_48 : decode cX8_place 48 = .ok (.iaload, 1) := by decide +kernel
theorem dX8_place_49 : decode cX8_place 49 = .ok (.goto 5, 3) := by decide +kernel
theorem dX8_place_52 : decode cX8_place 52 = .ok (.bipush (-2), 2) := by decide +kernel
theorem dX8_place_54 : decode cX8_place 54 = .ok (.ireturn, 1) := by decide +kernel
theorem dX8_strikers_0 : decode cX8_strikers 0 = .ok (.aload_n 0, 1) := by decide +kernel
theorem dX8_strikers_1 : decode cX8_strikers 1 = .ok (.iload_n 1, 1) := by decide +kernel
theorem dX8_strikers_2 : decode cX8_strikers 2 = .ok (.invokevirtual 183, 3) := by decide +kernel
theorem dX8_strikers_5 : decode cX8_strikers 5 = .ok (.ifCond .eq 14, 3) := by decide +kernel
theorem dX8_strikers_8 : decode cX8_strikers 8 = .ok (.aload_n 0, 1) := by decide +kernel
theorem dX8_strikers_9 : decode cX8_strikers 9 = .ok (.getfield 32, 3) := by decide +kernel
theorem dX8_strikers_12 : decode cX8_strikers 12 = .ok (.iload_n 2, 1) := by decide +kernel
theorem dX8_strikers_13 : decode cX8_strikers 13 = .ok (.invokevirtual 206, 3) := by decide +kernel
theorem dX8_strikers_16 : decode cX8_strikers 16 = .ok (.goto 4, 3) := by decide +kernel
theorem dX8_strikers_19 : decode cX8_strikers 19 = .ok (.iconst (-1), 1) := by decide +kernel
theorem dX8_strikers_20 : decode cX8_strikers 20 = .ok (.istore_n 3, 1) := by decide +kernel
theorem dX8_strikers_21 : decode cX8_strikers 21 = .ok (.iload_n 3, 1) := by decide +kernel
theorem dX8_strikers_22 : decode cX8_strikers 22 = .ok (.iconst (-1), 1) := by decide +kernel
theorem dX8_strikers_23 : decode cX8_strikers 23 = .ok (.if_icmp .ne 7, 3) := by decide +kernel
theorem dX8_strikers_26 : decode cX8_strikers 26 = .ok (.iconst (-1), 1) := by decide +kernel
theorem dX8_strikers_27 : decode cX8_strikers 27 = .ok (.goto 12, 3) := by decide +kernel
theorem dX8_strikers_30 : decode cX8_strikers 30 = .ok (.aload_n 0, 1) := by decide +kernel
theorem dX8_strikers_31 : decode cX8_strikers 31 = .ok (.getfield 32, 3) := by decide +kernel
theorem dX8_strikers_34 : decode cX8_strikers 34 = .ok (.getfield 215, 3) := by decide +kernel
theorem dX8_strikers_37 : decode cX8_strikers 37 = .ok (.iload_n 3, 1) := by decide +kernel
theorem dX8_strikers_38 : decode cX8_strikers 38 = .ok (.iaload, 1) := by decide +kernel
theorem dX8_strikers_39 : decode cX8_strikers 39 = .ok (.ireturn, 1) := by decide +kernel
theorem dX8_spans_0 : decode cX8_spans 0 = .ok (.iload_n 2, 1) := by decide +kernel
theorem dX8_spans_1 : decode cX8_spans 1 = .ok (.invokestatic 100, 3) := by decide +kernel
theorem dX8_spans_4 : decode cX8_spans 4 = .ok (.ifCond .eq 11, 3) := by decide +kernel
theorem dX8_spans_7 : decode cX8_spans 7 = .ok (.aload_n 0, 1) := by decide +kernel
theorem dX8_spans_8 : decode cX8_spans 8 = .ok (.iload_n 1, 1) := by decide +kernel
theorem dX8_spans_9 : decode cX8_spans 9 = .ok (.invokevirtual 183, 3) := by decide +kernel
theorem dX8_spans_12 : decode cX8_spans 12 = .ok (.ifCond .ne 5, 3) := by decide +kernel
theorem dX8_spans_15 : decode cX8_spans 15 = .ok (.iconst (-1), 1) := by decide +kernel
theorem dX8_spans_16 : decode cX8_spans 16 = .ok (.ireturn, 1) := by decide +kernel
theorem dX8_spans_17 : decode cX8_spans 17 = .ok (.aload_n 0, 1) := by decide +kernel
theorem dX8_spans_18 : decode cX8_spans 18 = .ok (.getfield 32, 3) := by decide +kernel
theorem dX8_spans_21 : decode cX8_spans 21 = .ok (.invokevirtual 191, 3) := by decide +kernel
theorem dX8_spans_24 : decode cX8_spans 24 = .ok (.aload_n 0, 1) := by decide +kernel
theorem dX8_spans_25 : decode cX8_spans 25 = .ok (.getfield 32, 3) := by decide +kernel
theorem dX8_spans_28 : decode cX8_spans 28 = .ok (.iload_n 2, 1) := by decide +kernel
theorem dX8_spans_29 : decode cX8_spans 29 = .ok (.invokevirtual 218, 3) := by decide +kernel
theorem dX8_spans_32 : decode cX8_spans 32 = .ok (.ireturn, 1) := by decide +kernel
theorem dX8_history_0 : decode cX8_history 0 = .ok (.aload_n 0, 1) := by decide +kernel
theorem dX8_history_1 : decode cX8_history 1 = .ok (.iload_n 1, 1) := by decide +kernel
theorem dX8_history_2 : decode cX8_history 2 = .ok (.invokevirtual 44, 3) := by decide +kernel
theorem dX8_history_5 : decode cX8_history 5 = .ok (.astore_n 3, 1) := by decide +kernel
theorem dX8_history_6 : decode cX8_history 6 = .ok (.aload_n 3, 1) := by decide +kernel
theorem dX8_history_7 : decode cX8_history 7 = .ok (.ifnull 7, 3) := by decide +kernel
theorem dX8_history_10 : decode cX8_history 10 = .ok (.iload_n 2, 1) := by decide +kernel
theorem dX8_history_11 : decode cX8_history 11 = .ok (.ifCond .ge 5, 3) := by decide +kernel
theorem dX8_history_14 : decode cX8_history 14 = .ok (.iconst (-1), 1) := by decide +kernel
theorem dX8_history_15 : decode cX8_history 15 = .ok (.ireturn, 1) := by decide +kernel
theorem dX8_history_16 : decode cX8_history 16 = .ok (.iconst 0, 1) := by decide +kernel
theorem dX8_history_17 : decode cX8_history 17 = .ok (.istore 4, 2) := by decide +kernel
theorem dX8_history_19 : decode cX8_history 19 = .ok (.iconst 0, 1) := by decide +kernel
theorem dX8_history_20 : decode cX8_history 20 = .ok (.istore 5, 2) := by decide +kernel
theorem dX8_history_22 : decode cX8_history 22 = .ok (.iload 5, 2) := by decide +kernel
theorem dX8_history_24 : decode cX8_history 24 = .ok (.aload_n 0, 1) := by decide +kernel
theorem dX8_history_25 : decode cX8_history 25 = .ok (.getfield 14, 3) := by decide +kernel
theorem dX8_history_28 : decode cX8_history 28 = .ok (.getfield 77, 3) := by decide +kernel
theorem dX8_history_31 : decode cX8_history 31 = .ok (.if_icmp .ge 45, 3) := by decide +kernel
theorem dX8_history_34 : decode cX8_history 34 = .ok (.aload_n 0, 1) := by decide +kernel
theorem dX8_history_35 : decode cX8_history 35 = .ok (.getfield 14, 3) := by decide +kernel
theorem dX8_history_38 : decode cX8_history 38 = .ok (.getfield 221, 3) := by decide +kernel
theorem dX8_history_41 : decode cX8_history 41 = .ok (.iload 5, 2) := by decide +kernel
theorem dX8_history_43 : decode cX8_history 43 = .ok (.aaload, 1) := by decide +kernel
theorem dX8_history_44 : decode cX8_history 44 = .ok (.astore 6, 2) := by decide +kernel
theorem dX8_history_46 : decode cX8_history 46 = .ok (.aload_n 3, 1) := by decide +kernel
theorem dX8_history_47 : decode cX8_history 47 = .ok (.aload 6, 2) := by decide +kernel
theorem dX8_history_49 : decode cX8_history 49 = .ok (.invokevirtual 148, 3) := by decide +kernel
theorem dX8_history_52 : decode cX8_history 52 = .ok (.ifCond .eq 18, 3) := by decide +kernel
theorem dX8_history_55 : decode cX8_history 55 = .ok (.iload 4, 2) := by decide +kernel
theorem dX8_history_57 : decode cX8_history 57 = .ok (.iload_n 2, 1) := by decide +kernel
theorem dX8_history_58 : decode cX8_history 58 = .ok (.if_icmp .ne 9, 3) := by decide +kernel
theorem dX8_history_61 : decode cX8_history 61 = .ok (.aload 6, 2) := by decide +kernel
theorem dX8_history_63 : decode cX8_history 63 = .ok (.getfield 127, 3) := by decide +kernel
theorem dX8_history_66 : decode cX8_history 66 = .ok (.ireturn, 1) := by decide +kernel
theorem dX8_history_67 : decode cX8_history 67 = .ok (.iinc 4 1, 3) := by decide +kernel
theorem dX8_history_70 : decode cX8_history 70 = .ok (.iinc 5 1, 3) := by decide +kernel
theorem dX8_history_73 : decode cX8_history 73 = .ok (.goto (-51), 3) := by decide +kernel
theorem dX8_history_76 : decode cX8_history 76 = .ok (.iconst (-1), 1) := by decide +kernel
theorem dX8_history_77 : decode cX8_history 77 = .ok (.ireturn, 1) := by decide +kernel
theorem dX8_asOf_0 : decode cX8_asOf 0 = .ok (.aload_n 0, 1) := by decide +kernel
theorem dX8_asOf_1 : decode cX8_asOf 1 = .ok (.iload_n 1, 1) := by decide +kernel
theorem dX8_asOf_2 : decode cX8_asOf 2 = .ok (.invokevirtual 44, 3) := by decide +kernel
theorem dX8_asOf_5 : decode cX8_asOf 5 = .ok (.astore 4, 2) := by decide +kernel
theorem dX8_asOf_7 : decode cX8_asOf 7 = .ok (.aload 4, 2) := by decide +kernel
theorem dX8_asOf_9 : decode cX8_asOf 9 = .ok (.ifnonnull 5, 3) := by decide +kernel
theorem dX8_asOf_12 : decode cX8_asOf 12 = .ok (.iconst (-1), 1) := by decide +kernel
theorem dX8_asOf_13 : decode cX8_asOf 13 = .ok (.ireturn, 1) := by decide +kernel
theorem dX8_asOf_14 : decode cX8_asOf 14 = .ok (.aload_n 0, 1) := by decide +kernel
theorem dX8_asOf_15 : decode cX8_asOf 15 = .ok (.getfield 32, 3) := by decide +kernel
theorem dX8_asOf_18 : decode cX8_asOf 18 = .ok (.aload 4, 2) := by decide +kernel
theorem dX8_asOf_20 : decode cX8_asOf 20 = .ok (.iload_n 2, 1) := by decide +kernel
theorem dX8_asOf_21 : decode cX8_asOf 21 = .ok (.invokevirtual 53, 3) := by decide +kernel
theorem dX8_asOf_24 : decode cX8_asOf 24 = .ok (.aload_n 0, 1) := by decide +kernel
theorem dX8_asOf_25 : decode cX8_asOf 25 = .ok (.getfield 32, 3) := by decide +kernel
theorem dX8_asOf_28 : decode cX8_asOf 28 = .ok (.iload_n 3, 1) := by decide +kernel
theorem dX8_asOf_29 : decode cX8_asOf 29 = .ok (.invokevirtual 185, 3) := by decide +kernel
theorem dX8_asOf_32 : decode cX8_asOf 32 = .ok (.ifCond .eq 21, 3) := by decide +kernel
theorem dX8_asOf_35 : decode cX8_asOf 35 = .ok (.aload_n 0, 1) := by decide +kernel
theorem dX8_asOf_36 : decode cX8_asOf 36 = .ok (.getfield 14, 3) := by decide +kernel
theorem dX8_asOf_39 : decode cX8_asOf 39 = .ok (.aload_n 0, 1) := by decide +kernel
theorem dX8_asOf_40 : decode cX8_asOf 40 = .ok (.getfield 32, 3) := by decide +kernel
theorem dX8_asOf_43 : decode cX8_asOf 43 = .ok (.iload_n 3, 1) := by decide +kernel
theorem dX8_asOf_44 : decode cX8_asOf 44 = .ok (.invokevirtual 72, 3) := by decide +kernel
theorem dX8_asOf_47 : decode cX8_asOf 47 = .ok (.invokevirtual 188, 3) := by decide +kernel
theorem dX8_asOf_50 : decode cX8_asOf 50 = .ok (.goto 4, 3) := by decide +kernel
theorem dX8_asOf_53 : decode cX8_asOf 53 = .ok (.iconst (-1), 1) := by decide +kernel
theorem dX8_asOf_54 : decode cX8_asOf 54 = .ok (.ireturn, 1) := by decide +kernel
theorem dX8_unlike_0 : decode cX8_unlike 0 = .ok (.aload_n 0, 1) := by decide +kernel
theorem dX8_unlike_1 : decode cX8_unlike 1 = .ok (.iload_n 1, 1) := by decide +kernel
theorem dX8_unlike_2 : decode cX8_unlike 2 = .ok (.invokevirtual 44, 3) := by decide +kernel
theorem dX8_unlike_5 : decode cX8_unlike 5 = .ok (.astore_n 3, 1) := by decide +kernel
theorem dX8_unlike_6 : decode cX8_unlike 6 = .ok (.aload_n 0, 1) := by decide +kernel
theorem dX8_unlike_7 : decode cX8_unlike 7 = .ok (.iload_n 2, 1) := by decide +kernel
theorem dX8_unlike_8 : decode cX8_unlike 8 = .ok (.invokevirtual 44, 3) := by decide +kernel
theorem dX8_unlike_11 : decode cX8_unlike 11 = .ok (.astore 4, 2) := by decide +kernel
theorem dX8_unlike_13 : decode cX8_unlike 13 = .ok (.aload_n 3, 1) := by decide +kernel
theorem dX8_unlike_14 : decode cX8_unlike 14 = .ok (.ifnull 8, 3) := by decide +kernel
theorem dX8_unlike_17 : decode cX8_unlike 17 = .ok (.aload 4, 2) := by decide +kernel
theorem dX8_unlike_19 : decode cX8_unlike 19 = .ok (.ifnonnull 5, 3) := by decide +kernel
theorem dX8_unlike_22 : decode cX8_unlike 22 = .ok (.iconst (-1), 1) := by decide +kernel
theorem dX8_unlike_23 : decode cX8_unlike 23 = .ok (.ireturn, 1) := by decide +kernel
theorem dX8_unlike_24 : decode cX8_unlike 24 = .ok (.aload_n 0, 1) := by decide +kernel
theorem dX8_unlike_25 : decode cX8_unlike 25 = .ok (.aload_n 3, 1) := by decide +kernel
theorem dX8_unlike_26 : decode cX8_unlike 26 = .ok (.aload 4, 2) := by decide +kernel
theorem dX8_unlike_28 : decode cX8_unlike 28 = .ok (.invokevirtual 224, 3) := by decide +kernel
theorem dX8_unlike_31 : decode cX8_unlike 31 = .ok (.ifCond .eq 7, 3) := by decide +kernel
theorem dX8_unlike_34 : decode cX8_unlike 34 = .ok (.iconst 0, 1) := by decide +kernel
theorem dX8_unlike_35 : decode cX8_unlike 35 = .ok (.goto 12, 3) := by decide +kernel
theorem dX8_unlike_38 : decode cX8_unlike 38 = .ok (.iconst 1, 1) := by decide +kernel
theorem dX8_unlike_39 : decode cX8_unlike 39 = .ok (.aload_n 0, 1) := by decide +kernel
theorem dX8_unlike_40 : decode cX8_unlike 40 = .ok (.aload_n 3, 1) := by decide +kernel
theorem dX8_unlike_41 : decode cX8_unlike 41 = .ok (.aload 4, 2) := by decide +kernel
theorem dX8_unlike_43 : decode cX8_unlike 43 = .ok (.invokevirtual 228, 3) := by decide +kernel
theorem dX8_unlike_46 : decode cX8_unlike 46 = .ok (.iadd, 1) := by decide +kernel
theorem dX8_unlike_47 : decode cX8_unlike 47 = .ok (.ireturn, 1) := by decide +kernel
theorem dX8_cursor_0 : decode cX8_cursor 0 = .ok (.aload_n 0, 1) := by decide +kernel
theorem dX8_cursor_1 : decode cX8_cursor 1 = .ok (.iload_n 1, 1) := by decide +kernel
theorem dX8_cursor_2 : decode cX8_cursor 2 = .ok (.invokevirtual 44, 3) := by decide +kernel
theorem dX8_cursor_5 : decode cX8_cursor 5 = .ok (.astore 5, 2) := by decide +kernel
theorem dX8_cursor_7 : decode cX8_cursor 7 = .ok (.aload 5, 2) := by decide +kernel
theorem dX8_cursor_9 : decode cX8_cursor 9 = .ok (.ifnull 21, 3) := by decide +kernel
theorem dX8_cursor_12 : decode cX8_cursor 12 = .ok (.iload_n 2, 1) := by decide +kernel
theorem dX8_cursor_13 : decode cX8_cursor 13 = .ok (.invokestatic 232, 3) := by decide +kernel
theorem dX8_cursor_16 : decode cX8_cursor 16 = .ok (.ifCond .eq 14, 3) := by decide +kernel
theorem dX8_cursor_19 : decode cX8_cursor 19 = .ok (.iload 4, 2) := by decide +kernel
theorem dX8_cursor_21 : decode cX8_cursor 21 = .ok (.ifCond .lt 9, 3) := by decide +kernel
theorem dX8_cursor_24 : decode cX8_cursor 24 = .ok (.iload 4, 2) := by decide +kernel
theorem dX8_cursor_26 : decode cX8_cursor 26 = .ok (.iconst 1, 1) := by decide +kernel
theorem dX8_cursor_27 : decode cX8_cursor 27 = .ok (.if_icmp .le 9, 3) := by decide +kernel
theorem dX8_cursor_30 : decode cX8_cursor 30 = .ok (.aload_n 0, 1) := by decide +kernel
theorem dX8_cursor_31 : decode cX8_cursor 31 = .ok (.iconst 1, 1) := by decide +kernel
theorem dX8_cursor_32 : decode cX8_cursor 32 = .ok (.invokevirtual 48, 3) := by decide +kernel
theorem dX8_cursor_35 : decode cX8_cursor 35 = .ok (.ireturn, 1) := by decide +kernel
theorem dX8_cursor_36 : decode cX8_cursor 36 = .ok (.aload_n 0, 1) := by decide +kernel
theorem dX8_cursor_37 : decode cX8_cursor 37 = .ok (.getfield 32, 3) := by decide +kernel
theorem dX8_cursor_40 : decode cX8_cursor 40 = .ok (.aload 5, 2) := by decide +kernel
theorem dX8_cursor_42 : decode cX8_cursor 42 = .ok (.ldc 52, 2) := by decide +kernel
theorem dX8_cursor_44 : decode cX8_cursor 44 = .ok (.invokevirtual 53, 3) := by decide +kernel
theorem dX8_cursor_47 : decode cX8_cursor 47 = .ok (.iload_n 3, 1) := by decide +kernel
theorem dX8_cursor_48 : decode cX8_cursor 48 = .ok (.ifCond .lt 14, 3) := by decide +kernel
theorem dX8_cursor_51 : decode cX8_cursor 51 = .ok (.iload_n 3, 1) := by decide +kernel
theorem dX8_cursor_52 : decode cX8_cursor 52 = .ok (.aload_n 0, 1) := by decide +kernel
theorem dX8_cursor_53 : decode cX8_cursor 53 = .ok (.getfield 32, 3) := by decide +kernel
theorem dX8_cursor_56 : decode cX8_cursor 56 = .ok (.getfield 61, 3) := by decide +kernel
theorem dX8_cursor_59 : decode cX8_cursor 59 = .ok (.if_icmp .le 9, 3) := by decide +kernel
theorem dX8_cursor_62 : decode cX8_cursor 62 = .ok (.aload_n 0, 1) := by decide +kernel
theorem dX8_cursor_63 : decode cX8_cursor 63 = .ok (.iconst 1, 1) := by decide +kernel
theorem dX8_cursor_64 : decode cX8_cursor 64 = .ok (.invokevirtual 48, 3) := by decide +kernel
theorem dX8_cursor_67 : decode cX8_cursor 67 = .ok (.ireturn, 1) := by decide +kernel
theorem dX8_cursor_68 : decode cX8_cursor 68 = .ok (.iload 4, 2) := by decide +kernel
theorem dX8_cursor_70 : decode cX8_cursor 70 = .ok (.ifCond .ne 9, 3) := by decide +kernel
theorem dX8_cursor_73 : decode cX8_cursor 73 = .ok (.iload_n 3, 1) := by decide +kernel
theorem dX8_cursor_74 : decode cX8_cursor 74 = .ok (.iconst 1, 1) := by decide +kernel
theorem dX8_cursor_75 : decode cX8_cursor 75 = .ok (.isub, 1) := by decide +kernel
theorem dX8_cursor_76 : decode cX8_cursor 76 = .ok (.goto 4, 3) := by decide +kernel
theorem dX8_cursor_79 : decode cX8_cursor 79 = .ok (.iload_n 3, 1) := by decide +kernel
theorem dX8_cursor_80 : decode cX8_cursor 80 = .ok (.istore 6, 2) := by decide +kernel
theorem dX8_cursor_82 : decode cX8_cursor 82 = .ok (.aload 5, 2) := by decide +kernel
theorem dX8_cursor_84 : decode cX8_cursor 84 = .ok (.getfield 235, 3) := by decide +kernel
theorem dX8_cursor_87 : decode cX8_cursor 87 = .ok (.iload_n 2, 1) := by decide +kernel
theorem dX8_cursor_88 : decode cX8_cursor 88 = .ok (.aload_n 0, 1) := by decide +kernel
theorem dX8_cursor_89 : decode cX8_cursor 89 = .ok (.getfield 32, 3) := by decide +kernel
theorem dX8_cursor_92 : decode cX8_cursor 92 = .ok (.iload 6, 2) := by decide +kernel
theorem dX8_cursor_94 : decode cX8_cursor 94 = .ok (.invokevirtual 185, 3) := by decide +kernel
theorem dX8_cursor_97 : decode cX8_cursor 97 = .ok (.ifCond .eq 15, 3) := by decide +kernel
theorem dX8_cursor_100 : decode cX8_cursor 100 = .ok (.aload_n 0, 1) := by decide +kernel
theorem dX8_cursor_101 : decode cX8_cursor 101 = .ok (.getfield 32, 3) := by decide +kernel
theorem dX8_cursor_104 : decode cX8_cursor 104 = .ok (.iload 6, 2) := by decide +kernel
theorem dX8_cursor_106 : decode cX8_cursor 106 = .ok (.invokevirtual 72, 3) := by decide +kernel
theorem dX8_cursor_109 : decode cX8_cursor 109 = .ok (.goto 5, 3) := by decide +kernel
theorem dX8_cursor_112 : decode cX8_cursor 112 = .ok (.bipush (-2), 2) := by decide +kernel
theorem dX8_cursor_114 : decode cX8_cursor 114 = .ok (.iastore, 1) := by decide +kernel
theorem dX8_cursor_115 : decode cX8_cursor 115 = .ok (.aload 5, 2) := by decide +kernel
theorem dX8_cursor_117 : decode cX8_cursor 117 = .ok (.getfield 238, 3) := by decide +kernel
theorem dX8_cursor_120 : decode cX8_cursor 120 = .ok (.iload_n 2, 1) := by decide +kernel
theorem dX8_cursor_121 : decode cX8_cursor 121 = .ok (.iload 4, 2) := by decide +kernel
theorem dX8_cursor_123 : decode cX8_cursor 123 = .ok (.iastore, 1) := by decide +kernel
theorem dX8_cursor_124 : decode cX8_cursor 124 = .ok (.aload_n 0, 1) := by decide +kernel
theorem dX8_cursor_125 : decode cX8_cursor 125 = .ok (.iconst 1, 1) := by decide +kernel
theorem dX8_cursor_126 : decode cX8_cursor 126 = .ok (.invokevirtual 141, 3) := by decide +kernel
theorem dX8_cursor_129 : decode cX8_cursor 129 = .ok (.ireturn, 1) := by decide +kernel
theorem dX8_where_0 : decode cX8_where 0 = .ok (.aload_n 0, 1) := by decide +kernel
theorem dX8_where_1 : decode cX8_where 1 = .ok (.iload_n 1, 1) := by decide +kernel
theorem dX8_where_2 : decode cX8_where 2 = .ok (.invokevirtual 44, 3) := by decide +kernel
theorem dX8_where_5 : decode cX8_where 5 = .ok (.astore_n 3, 1) := by decide +kernel
theorem dX8_where_6 : decode cX8_where 6 = .ok (.aload_n 3, 1) := by decide +kernel
theorem dX8_where_7 : decode cX8_where 7 = .ok (.ifnull 20, 3) := by decide +kernel
theorem dX8_where_10 : decode cX8_where 10 = .ok (.iload_n 2, 1) := by decide +kernel
theorem dX8_where_11 : decode cX8_where 11 = .ok (.invokestatic 232, 3) := by decide +kernel
theorem dX8_where_14 : decode cX8_where 14 = .ok (.ifCond .eq 13, 3) := by decide +kernel
theorem dX8_where_17 : decode cX8_where 17 = .ok (.aload_n 3, 1) := by decide +kernel
theorem dX8_where_18 : decode cX8_where 18 = .ok (.getfield 238, 3) := by decide +kernel
theorem dX8_where_21 : decode cX8_where 21 = .ok (.iload_n 2, 1) := by decide +kernel
theorem dX8_where_22 : decode cX8_where 22 = .ok (.iaload, 1) := by decide +kernel
theorem dX8_where_23 : decode cX8_where 23 = .ok (.iconst (-1), 1) := by decide +kernel
theorem dX8_where_24 : decode cX8_where 24 = .ok (.if_icmp .ne 5, 3) := by decide +kernel
theorem dX8_where_27 : decode cX8_where 27 = .ok (.iconst (-1), 1) := by decide +kernel
theorem dX8_where_28 : decode cX8_where 28 = .ok (.ireturn, 1) := by decide +kernel
theorem dX8_where_29 : decode cX8_where 29 = .ok (.aload_n 0, 1) := by decide +kernel
theorem dX8_where_30 : decode cX8_where 30 = .ok (.getfield 32, 3) := by decide +kernel
theorem dX8_where_33 : decode cX8_where 33 = .ok (.aload_n 3, 1) := by decide +kernel
theorem dX8_where_34 : decode cX8_where 34 = .ok (.ldc 52, 2) := by decide +kernel
theorem dX8_where_36 : decode cX8_where 36 = .ok (.invokevirtual 53, 3) := by decide +kernel
theorem dX8_where_39 : decode cX8_where 39 = .ok (.aload_n 3, 1) := by decide +kernel
theorem dX8_where_40 : decode cX8_where 40 = .ok (.getfield 238, 3) := by decide +kernel
theorem dX8_where_43 : decode cX8_where 43 = .ok (.iload_n 2, 1) := by decide +kernel
theorem dX8_where_44 : decode cX8_where 44 = .ok (.iaload, 1) := by decide +kernel
theorem dX8_where_45 : decode cX8_where 45 = .ok (.ifCond .ne 7, 3) := by decide +kernel
theorem dX8_where_48 : decode cX8_where 48 = .ok (.iconst 1, 1) := by decide +kernel
theorem dX8_where_49 : decode cX8_where 49 = .ok (.goto 4, 3) := by decide +kernel
theorem dX8_where_52 : decode cX8_where 52 = .ok (.iconst 0, 1) := by decide +kernel
theorem dX8_where_53 : decode cX8_where 53 = .ok (.istore 4, 2) := by decide +kernel
theorem dX8_where_55 : decode cX8_where 55 = .ok (.aload_n 0, 1) := by decide +kernel
theorem dX8_where_56 : decode cX8_where 56 = .ok (.getfield 32, 3) := by decide +kernel
theorem dX8_where_59 : decode cX8_where 59 = .ok (.aload_n 3, 1) := by decide +kernel
theorem dX8_where_60 : decode cX8_where 60 = .ok (.getfield 235, 3) := by decide +kernel
theorem dX8_where_63 : decode cX8_where 63 = .ok (.iload_n 2, 1) := by decide +kernel
theorem dX8_where_64 : decode cX8_where 64 = .ok (.iaload, 1) := by decide +kernel
theorem dX8_where_65 : decode cX8_where 65 = .ok (.invokevirtual 206, 3) := by decide +kernel
theorem dX8_where_68 : decode cX8_where 68 = .ok (.istore 5, 2) := by decide +kernel
theorem dX8_where_70 : decode cX8_where 70 = .ok (.iload 5, 2) := by decide +kernel
theorem dX8_where_72 : decode cX8_where 72 = .ok (.iconst (-1), 1) := by decide +kernel
theorem dX8_where_73 : decode cX8_where 73 = .ok (.if_icmp .ne 20, 3) := by decide +kernel
theorem dX8_where_76 : decode cX8_where 76 = .ok (.iload 4, 2) := by decide +kernel
theorem dX8_where_78 : decode cX8_where 78 = .ok (.ifCond .eq 7, 3) := by decide +kernel
theorem dX8_where_81 : decode cX8_where 81 = .ok (.iconst 0, 1) := by decide +kernel
theorem dX8_where_82 : decode cX8_where 82 = .ok (.goto 10, 3) := by decide +kernel
theorem dX8_where_85 : decode cX8_where 85 = .ok (.aload_n 0, 1) := by decide +kernel
theorem dX8_where_86 : decode cX8_where 86 = .ok (.getfield 32, 3) := by decide +kernel
theorem dX8_where_89 : decode cX8_where 89 = .ok (.getfield 61, 3) := by decide +kernel
theorem dX8_where_92 : decode cX8_where 92 = .ok (.ireturn, 1) := by decide +kernel
theorem dX8_where_93 : decode cX8_where 93 = .ok (.iload 4, 2) := by decide +kernel
theorem dX8_where_95 : decode cX8_where 95 = .ok (.ifCond .eq 18, 3) := by decide +kernel
theorem dX8_where_98 : decode cX8_where 98 = .ok (.aload_n 0, 1) := by decide +kernel
theorem dX8_where_99 : decode cX8_where 99 = .ok (.getfield 32, 3) := by decide +kernel
theorem dX8_where_102 : decode cX8_where 102 = .ok (.getfield 212, 3) := by decide +kernel
theorem dX8_where_105 : decode cX8_where 105 = .ok (.iload 5, 2) := by decide +kernel
theorem dX8_where_107 : decode cX8_where 107 = .ok (.iconst 1, 1) := by decide +kernel
theorem dX8_where_108 : decode cX8_where 108 = .ok (.iadd, 1) := by decide +kernel
theorem dX8_where_109 : decode cX8_where 109 = .ok (.iaload, 1) := by decide +kernel
theorem dX8_where_110 : decode cX8_where 110 = .ok (.goto 13, 3) := by decide +kernel
theorem dX8_where_113 : decode cX8_where 113 = .ok (.aload_n 0, 1) := by decide +kernel
theorem dX8_where_114 : decode cX8_where 114 = .ok (.getfield 32, 3) := by decide +kernel
theorem dX8_where_117 : decode cX8_where 117 = .ok (.getfield 212, 3) := by decide +kernel
theorem dX8_where_120 : decode cX8_where 120 = .ok (.iload 5, 2) := by decide +kernel
theorem dX8_where_122 : decode cX8_where 122 = .ok (.iaload, 1) := by decide +kernel
theorem dX8_where_123 : decode cX8_where 123 = .ok (.ireturn, 1) := by decide +kernel
theorem dX8_status_0 : decode cX8_status 0 = .ok (.aload_n 0, 1) := by decide +kernel
theorem dX8_status_1 : decode cX8_status 1 = .ok (.getfield 40, 3) := by decide +kernel
theorem dX8_status_4 : decode cX8_status 4 = .ok (.ireturn, 1) := by decide +kernel
theorem dX8_refuse_0 : decode cX8_refuse 0 = .ok (.aload_n 0, 1) := by decide +kernel
theorem dX8_refuse_1 : decode cX8_refuse 1 = .ok (.iload_n 1, 1) := by decide +kernel
theorem dX8_refuse_2 : decode cX8_refuse 2 = .ok (.putfield 40, 3) := by decide +kernel
theorem dX8_refuse_5 : decode cX8_refuse 5 = .ok (.iconst (-1), 1) := by decide +kernel
theorem dX8_refuse_6 : decode cX8_refuse 6 = .ok (.ireturn, 1) := by decide +kernel
theorem dX8_done_0 : decode cX8_done 0 = .ok (.aload_n 0, 1) := by decide +kernel
theorem dX8_done_1 : decode cX8_done 1 = .ok (.iconst 0, 1) := by decide +kernel
theorem dX8_done_2 : decode cX8_done 2 = .ok (.putfield 40, 3) := by decide +kernel
theorem dX8_done_5 : decode cX8_done 5 = .ok (.iload_n 1, 1) := by decide +kernel
theorem dX8_done_6 : decode cX8_done 6 = .ok (.ireturn, 1) := by decide +kernel
theorem dX8_enter_0 : decode cX8_enter 0 = .ok (.aload_n 0, 1) := by decide +kernel
theorem dX8_enter_1 : decode cX8_enter 1 = .ok (.getfield 14, 3) := by decide +kernel
theorem dX8_enter_4 : decode cX8_enter 4 = .ok (.aload_n 2, 1) := by decide +kernel
theorem dX8_enter_5 : decode cX8_enter 5 = .ok (.invokevirtual 241, 3) := by decide +kernel
theorem dX8_enter_8 : decode cX8_enter 8 = .ok (.aload_n 1, 1) := by decide +kernel
theorem dX8_enter_9 : decode cX8_enter 9 = .ok (.aload_n 2, 1) := by decide +kernel
theorem dX8_enter_10 : decode cX8_enter 10 = .ok (.invokevirtual 244, 3) := by decide +kernel
theorem dX8_enter_13 : decode cX8_enter 13 = .ok (.aload_n 0, 1) := by decide +kernel
theorem dX8_enter_14 : decode cX8_enter 14 = .ok (.aload_n 2, 1) := by decide +kernel
theorem dX8_enter_15 : decode cX8_enter 15 = .ok (.getfield 127, 3) := by decide +kernel
theorem dX8_enter_18 : decode cX8_enter 18 = .ok (.invokevirtual 141, 3) := by decide +kernel
theorem dX8_enter_21 : decode cX8_enter 21 = .ok (.ireturn, 1) := by decide +kernel
theorem dX8_sheetOf_0 : decode cX8_sheetOf 0 = .ok (.iload_n 1, 1) := by decide +kernel
theorem dX8_sheetOf_1 : decode cX8_sheetOf 1 = .ok (.ifCond .lt 18, 3) := by decide +kernel
theorem dX8_sheetOf_4 : decode cX8_sheetOf 4 = .ok (.iload_n 1, 1) := by decide +kernel
theorem dX8_sheetOf_5 : decode cX8_sheetOf 5 = .ok (.bipush 6, 2) := by decide +kernel
theorem dX8_sheetOf_7 : decode cX8_sheetOf 7 = .ok (.if_icmp .ge 12, 3) := by decide +kernel
theorem dX8_sheetOf_10 : decode cX8_sheetOf 10 = .ok (.aload_n 0, 1) := by decide +kernel
theorem dX8_sheetOf_11 : decode cX8_sheetOf 11 = .ok (.getfield 20, 3) := by decide +kernel
theorem dX8_sheetOf_14 : decode cX8_sheetOf 14 = .ok (.iload_n 1, 1) := by decide +kernel
theorem dX8_sheetOf_15 : decode cX8_sheetOf 15 = .ok (.aaload, 1) := by decide +kernel
theorem dX8_sheetOf_16 : decode cX8_sheetOf 16 = .ok (.goto 4, 3) := by decide +kernel
theorem dX8_sheetOf_19 : decode cX8_sheetOf 19 = .ok (.aconst_null, 1) := by decide +kernel
theorem dX8_sheetOf_20 : decode cX8_sheetOf 20 = .ok (.areturn, 1) := by decide +kernel
theorem dX8_read_0 : decode cX8_read 0 = .ok (.aload_n 0, 1) := by decide +kernel
theorem dX8_read_1 : decode cX8_read 1 = .ok (.iload_n 1, 1) := by decide +kernel
theorem dX8_read_2 : decode cX8_read 2 = .ok (.invokevirtual 44, 3) := by decide +kernel
theorem dX8_read_5 : decode cX8_read 5 = .ok (.astore_n 2, 1) := by decide +kernel
theorem dX8_read_6 : decode cX8_read 6 = .ok (.aload_n 2, 1) := by decide +kernel
theorem dX8_read_7 : decode cX8_read 7 = .ok (.ifnonnull 5, 3) := by decide +kernel
theorem dX8_read_10 : decode cX8_read 10 = .ok (.iconst 0, 1) := by decide +kernel
theorem dX8_read_11 : decode cX8_read 11 = .ok (.ireturn, 1) := by decide +kernel
theorem dX8_read_12 : decode cX8_read 12 = .ok (.aload_n 0, 1) := by decide +kernel
theorem dX8_read_13 : decode cX8_read 13 = .ok (.getfield 32, 3) := by decide +kernel
theorem dX8_read_16 : decode cX8_read 16 = .ok (.aload_n 2, 1) := by decide +kernel
theorem dX8_read_17 : decode cX8_read 17 = .ok (.ldc 52, 2) := by decide +kernel
theorem dX8_read_19 : decode cX8_read 19 = .ok (.invokevirtual 53, 3) := by decide +kernel
theorem dX8_read_22 : decode cX8_read 22 = .ok (.iconst 1, 1) := by decide +kernel
theorem dX8_read_23 : decode cX8_read 23 = .ok (.ireturn, 1) := by decide +kernel
theorem dX8_haveSameTaken_0 : decode cX8_haveSameTaken 0 = .ok (.iconst 0, 1) := by decide +kernel
theorem dX8_haveSameTaken_1 : decode cX8_haveSameTaken 1 = .ok (.istore_n 3, 1) := by decide +kernel
theorem dX8_haveSameTaken_2 : decode cX8_haveSameTaken 2 = .ok (.iload_n 3, 1) := by decide +kernel
theorem dX8_haveSameTaken_3 : decode cX8_haveSameTaken 3 = .ok (.aload_n 0, 1) := by decide +kernel
theorem dX8_haveSameTaken_4 : decode cX8_haveSameTaken 4 = .ok (.getfield 14, 3) := by decide +kernel
theorem dX8_haveSameTaken_7 : decode cX8_haveSameTaken 7 = .ok (.getfield 77, 3) := by decide +kernel
theorem dX8_haveSameTaken_10 : decode cX8_haveSameTaken 10 = .ok (.if_icmp .ge 40, 3) := by decide +kernel
theorem dX8_haveSameTaken_13 : decode cX8_haveSameTaken 13 = .ok (.aload_n 1, 1) := by decide +kernel
theorem dX8_haveSameTaken_14 : decode cX8_haveSameTaken 14 = .ok (.aload_n 0, 1) := by decide +kernel
theorem dX8_haveSameTaken_15 : decode cX8_haveSameTaken 15 = .ok (.getfield 14, 3) := by decide +kernel
theorem dX8_haveSameTaken_18 : decode cX8_haveSameTaken 18 = .ok (.getfield 144, 3) := by decide +kernel
theorem dX8_haveSameTaken_21 : decode cX8_haveSameTaken 21 = .ok (.iload_n 3, 1) := by decide +kernel
theorem dX8_haveSameTaken_22 : decode cX8_haveSameTaken 22 = .ok (.aaload, 1) := by decide +kernel
theorem dX8_haveSameTaken_23 : decode cX8_haveSameTaken 23 = .ok (.invokevirtual 148, 3) := by decide +kernel
theorem dX8_haveSameTaken_26 : decode cX8_haveSameTaken 26 = .ok (.aload_n 2, 1) := by decide +kernel
theorem dX8_haveSameTaken_27 : decode cX8_haveSameTaken 27 = .ok (.aload_n 0, 1) := by decide +kernel
theorem dX8_haveSameTaken_28 : decode cX8_haveSameTaken 28 = .ok (.getfield 14, 3) := by decide +kernel
theorem dX8_haveSameTaken_31 : decode cX8_haveSameTaken 31 = .ok (.getfield 144, 3) := by decide +kernel
theorem dX8_haveSameTaken_34 : decode cX8_haveSameTaken 34 = .ok (.iload_n 3, 1) := by decide +kernel
theorem dX8_haveSameTaken_35 : decode cX8_haveSameTaken 35 = .ok (.aaload, 1) := by decide +kernel
theorem dX8_haveSameTaken_36 : decode cX8_haveSameTaken 36 = .ok (.invokevirtual 148, 3) := by decide +kernel
theorem dX8_haveSameTaken_39 : decode cX8_haveSameTaken 39 = .ok (.if_icmp .eq 5, 3) := by decide +kernel
theorem dX8_haveSameTaken_42 : decode cX8_haveSameTaken 42 = .ok (.iconst 0, 1) := by decide +kernel
theorem dX8_haveSameTaken_43 : decode cX8_haveSameTaken 43 = .ok (.ireturn, 1) := by decide +kernel
theorem dX8_haveSameTaken_44 : decode cX8_haveSameTaken 44 = .ok (.iinc 3 1, 3) := by decide +kernel
theorem dX8_haveSameTaken_47 : decode cX8_haveSameTaken 47 = .ok (.goto (-45), 3) := by decide +kernel
theorem dX8_haveSameTaken_50 : decode cX8_haveSameTaken 50 = .ok (.iconst 1, 1) := by decide +kernel
theorem dX8_haveSameTaken_51 : decode cX8_haveSameTaken 51 = .ok (.ireturn, 1) := by decide +kernel
theorem dX8_placesAlike_0 : decode cX8_placesAlike 0 = .ok (.aload_n 0, 1) := by decide +kernel
theorem dX8_placesAlike_1 : decode cX8_placesAlike 1 = .ok (.getfield 32, 3) := by decide +kernel
theorem dX8_placesAlike_4 : decode cX8_placesAlike 4 = .ok (.aload_n 1, 1) := by decide +kernel
theorem dX8_placesAlike_5 : decode cX8_placesAlike 5 = .ok (.ldc 52, 2) := by decide +kernel
theorem dX8_placesAlike_7 : decode cX8_placesAlike 7 = .ok (.invokevirtual 53, 3) := by decide +kernel
theorem dX8_placesAlike_10 : decode cX8_placesAlike 10 = .ok (.aload_n 0, 1) := by decide +kernel
theorem dX8_placesAlike_11 : decode cX8_placesAlike 11 = .ok (.getfield 32, 3) := by decide +kernel
theorem dX8_placesAlike_14 : decode cX8_placesAlike 14 = .ok (.invokevirtual 191, 3) := by decide +kernel
theorem dX8_placesAlike_17 : decode cX8_placesAlike 17 = .ok (.aload_n 0, 1) := by decide +kernel
theorem dX8_placesAlike_18 : decode cX8_placesAlike 18 = .ok (.getfield 32, 3) := by decide +kernel
theorem dX8_placesAlike_21 : decode cX8_placesAlike 21 = .ok (.getfield 61, 3) := by decide +kernel
theorem dX8_placesAlike_24 : decode cX8_placesAlike 24 = .ok (.istore_n 3, 1) := by decide +kernel
theorem dX8_placesAlike_25 : decode cX8_placesAlike 25 = .ok (.iconst 0, 1) := by decide +kernel
theorem dX8_placesAlike_26 : decode cX8_placesAlike 26 = .ok (.istore 4, 2) := by decide +kernel
theorem dX8_placesAlike_28 : decode cX8_placesAlike 28 = .ok (.iload 4, 2) := by decide +kernel
theorem dX8_placesAlike_30 : decode cX8_placesAlike 30 = .ok (.iload_n 3, 1) := by decide +kernel
theorem dX8_placesAlike_31 : decode cX8_placesAlike 31 = .ok (.if_icmp .ge 25, 3) := by decide +kernel
theorem dX8_placesAlike_34 : decode cX8_placesAlike 34 = .ok (.aload_n 0, 1) := by decide +kernel
theorem dX8_placesAlike_35 : decode cX8_placesAlike 35 = .ok (.getfield 36, 3) := by decide +kernel
theorem dX8_placesAlike_38 : decode cX8_placesAlike 38 = .ok (.iload 4, 2) := by decide +kernel
theorem dX8_placesAlike_40 : decode cX8_placesAlike 40 = .ok (.aload_n 0, 1) := by decide +kernel
theorem dX8_placesAlike_41 : decode cX8_placesAlike 41 = .ok (.getfield 32, 3) := by decide +kernel
theorem dX8_placesAlike_44 : decode cX8_placesAlike 44 = .ok (.iload 4, 2) := by decide +kernel
theorem dX8_placesAlike_46 : decode cX8_placesAlike 46 = .ok (.invokevirtual 247, 3) := by decide +kernel
theorem dX8_placesAlike_49 : decode cX8_placesAlike 49 = .ok (.iastore, 1) := by decide +kernel
theorem dX8_placesAlike_50 : decode cX8_placesAlike 50 = .ok (.iinc 4 1, 3) := by decide +kernel
theorem dX8_placesAlike_53 : decode cX8_placesAlike 53 = .ok (.goto (-25), 3) := by decide +kernel
theorem dX8_placesAlike_56 : decode cX8_placesAlike 56 = .ok (.aload_n 0, 1) := by decide +kernel
theorem dX8_placesAlike_57 : decode cX8_placesAlike 57 = .ok (.getfield 32, 3) := by decide +kernel
theorem dX8_placesAlike_60 : decode cX8_placesAlike 60 = .ok (.aload_n 2, 1) := by decide +kernel
theorem dX8_placesAlike_61 : decode cX8_placesAlike 61 = .ok (.ldc 52, 2) := by decide +kernel
theorem dX8_placesAlike_63 : decode cX8_placesAlike 63 = .ok (.invokevirtual 53, 3) := by decide +kernel
theorem dX8_placesAlike_66 : decode cX8_placesAlike 66 = .ok (.aload_n 0, 1) := by decide +kernel
theorem dX8_placesAlike_67 : decode cX8_placesAlike 67 = .ok (.getfield 32, 3) := by decide +kernel
theorem dX8_placesAlike_70 : decode cX8_placesAlike 70 = .ok (.invokevirtual 191, 3) := by decide +kernel
theorem dX8_placesAlike_73 : decode cX8_placesAlike 73 = .ok (.iload_n 3, 1) := by decide +kernel
theorem dX8_placesAlike_74 : decode cX8_placesAlike 74 = .ok (.aload_n 0, 1) := by decide +kernel
theorem dX8_placesAlike_75 : decode cX8_placesAlike 75 = .ok (.getfield 32, 3) := by decide +kernel
theorem dX8_placesAlike_78 : decode cX8_placesAlike 78 = .ok (.getfield 61, 3) := by decide +kernel
theorem dX8_placesAlike_81 : decode cX8_placesAlike 81 = .ok (.invokestatic 250, 3) := by decide +kernel
theorem dX8_placesAlike_84 : decode cX8_placesAlike 84 = .ok (.istore_n 3, 1) := by decide +kernel
theorem dX8_placesAlike_85 : decode cX8_placesAlike 85 = .ok (.iconst 0, 1) := by decide +kernel
theorem dX8_placesAlike_86 : decode cX8_placesAlike 86 = .ok (.istore 4, 2) := by decide +kernel
theorem dX8_placesAlike_88 : decode cX8_placesAlike 88 = .ok (.iload 4, 2) := by decide +kernel
theorem dX8_placesAlike_90 : decode cX8_placesAlike 90 = .ok (.iload_n 3, 1) := by decide +kernel
theorem dX8_placesAlike_91 : decode cX8_placesAlike 91 = .ok (.if_icmp .ge 28, 3) := by decide +kernel
theorem dX8_placesAlike_94 : decode cX8_placesAlike 94 = .ok (.aload_n 0, 1) := by decide +kernel
theorem dX8_placesAlike_95 : decode cX8_placesAlike 95 = .ok (.getfield 36, 3) := by decide +kernel
theorem dX8_placesAlike_98 : decode cX8_placesAlike 98 = .ok (.iload 4, 2) := by decide +kernel
theorem dX8_placesAlike_100 : decode cX8_placesAlike 100 = .ok (.iaload, 1) := by decide +kernel
theorem dX8_placesAlike_101 : decode cX8_placesAlike 101 = .ok (.aload_n 0, 1) := by decide +kernel
theorem dX8_placesAlike_102 : decode cX8_placesAlike 102 = .ok (.getfield 32, 3) := by decide +kernel
theorem dX8_placesAlike_105 : decode cX8_placesAlike 105 = .ok (.iload 4, 2) := by decide +kernel
theorem dX8_placesAlike_107 : decode cX8_placesAlike 107 = .ok (.invokevirtual 247, 3) := by decide +kernel
theorem dX8_placesAlike_110 : decode cX8_placesAlike 110 = .ok (.if_icmp .ne 9, 3) := by decide +kernel
theorem dX8_placesAlike_113 : decode cX8_placesAlike 113 = .ok (.iinc 4 1, 3) := by decide +kernel
theorem dX8_placesAlike_116 : decode cX8_placesAlike 116 = .ok (.goto (-28), 3) := by decide +kernel
theorem dX8_placesAlike_119 : decode cX8_placesAlike 119 = .ok (.iload 4, 2) := by decide +kernel
theorem dX8_placesAlike_121 : decode cX8_placesAlike 121 = .ok (.ireturn, 1) := by decide +kernel
theorem dX8_codesAheadOfNone_0 : decode cX8_codesAheadOfNone 0 = .ok (.iconst 3, 1) := by decide +kernel
theorem dX8_codesAheadOfNone_1 : decode cX8_codesAheadOfNone 1 = .ok (.newarray .int, 2) := by decide +kernel
theorem dX8_codesAheadOfNone_3 : decode cX8_codesAheadOfNone 3 = .ok (.dup, 1) := by decide +kernel
theorem dX8_codesAheadOfNone_4 : decode cX8_codesAheadOfNone 4 = .ok (.iconst 0, 1) := by decide +kernel
theorem dX8_codesAheadOfNone_5 : decode cX8_codesAheadOfNone 5 = .ok (.iload_n 0, 1) := by decide +kernel
theorem dX8_codesAheadOfNone_6 : decode cX8_codesAheadOfNone 6 = .ok (.iastore, 1) := by decide +kernel
theorem dX8_codesAheadOfNone_7 : decode cX8_codesAheadOfNone 7 = .ok (.dup, 1) := by decide +kernel
theorem dX8_codesAheadOfNone_8 : decode cX8_codesAheadOfNone 8 = .ok (.iconst 1, 1) := by decide +kernel
theorem dX8_codesAheadOfNone_9 : decode cX8_codesAheadOfNone 9 = .ok (.iload_n 1, 1) := by decide +kernel
theorem dX8_codesAheadOfNone_10 : decode cX8_codesAheadOfNone 10 = .ok (.iastore, 1) := by decide +kernel
theorem dX8_codesAheadOfNone_11 : decode cX8_codesAheadOfNone 11 = .ok (.dup, 1) := by decide +kernel
theorem dX8_codesAheadOfNone_12 : decode cX8_codesAheadOfNone 12 = .ok (.iconst 2, 1) := by decide +kernel
theorem dX8_codesAheadOfNone_13 : decode cX8_codesAheadOfNone 13 = .ok (.iload_n 2, 1) := by decide +kernel
theorem dX8_codesAheadOfNone_14 : decode cX8_codesAheadOfNone 14 = .ok (.iastore, 1) := by decide +kernel
theorem dX8_codesAheadOfNone_15 : decode cX8_codesAheadOfNone 15 = .ok (.astore_n 3, 1) := by decide +kernel
theorem dX8_codesAheadOfNone_16 : decode cX8_codesAheadOfNone 16 = .ok (.iconst 0, 1) := by decide +kernel
theorem dX8_codesAheadOfNone_17 : decode cX8_codesAheadOfNone 17 = .ok (.istore 4, 2) := by decide +kernel
theorem dX8_codesAheadOfNone_19 : decode cX8_codesAheadOfNone 19 = .ok (.iload 4, 2) := by decide +kernel
theorem dX8_codesAheadOfNone_21 : decode cX8_codesAheadOfNone 21 = .ok (.aload_n 3, 1) := by decide +kernel
theorem dX8_codesAheadOfNone_22 : decode cX8_codesAheadOfNone 22 = .ok (.arraylength, 1) := by decide +kernel
theorem dX8_codesAheadOfNone_23 : decode cX8_codesAheadOfNone 23 = .ok (.if_icmp .ge 17, 3) := by decide +kernel
theorem dX8_codesAheadOfNone_26 : decode cX8_codesAheadOfNone 26 = .ok (.aload_n 3, 1) := by decide +kernel
theorem dX8_codesAheadOfNone_27 : decode cX8_codesAheadOfNone 27 = .ok (.iload 4, 2) := by decide +kernel
theorem dX8_codesAheadOfNone_29 : decode cX8_codesAheadOfNone 29 = .ok (.iaload, 1) := by decide +kernel
theorem dX8_codesAheadOfNone_30 : decode cX8_codesAheadOfNone 30 = .ok (.iconst (-1), 1) := by decide +kernel
theorem dX8_codesAheadOfNone_31 : decode cX8_codesAheadOfNone 31 = .ok (.if_icmp .eq 9, 3) := by decide +kernel
theorem dX8_codesAheadOfNone_34 : decode cX8_codesAheadOfNone 34 = .ok (.iinc 4 1, 3) := by decide +kernel
theorem dX8_codesAheadOfNone_37 : decode cX8_codesAheadOfNone 37 = .ok (.goto (-18), 3) := by decide +kernel
theorem dX8_codesAheadOfNone_40 : decode cX8_codesAheadOfNone 40 = .ok (.aload_n 3, 1) := by decide +kernel
theorem dX8_codesAheadOfNone_41 : decode cX8_codesAheadOfNone 41 = .ok (.iload 4, 2) := by decide +kernel
theorem dX8_codesAheadOfNone_43 : decode cX8_codesAheadOfNone 43 = .ok (.invokestatic 256, 3) := by decide +kernel
theorem dX8_codesAheadOfNone_46 : decode cX8_codesAheadOfNone 46 = .ok (.areturn, 1) := by decide +kernel
theorem dX8_arePutCodes_0 : decode cX8_arePutCodes 0 = .ok (.iconst 0, 1) := by decide +kernel
theorem dX8_arePutCodes_1 : decode cX8_arePutCodes 1 = .ok (.istore_n 1, 1) := by decide +kernel
theorem dX8_arePutCodes_2 : decode cX8_arePutCodes 2 = .ok (.iload_n 1, 1) := by decide +kernel
theorem dX8_arePutCodes_3 : decode cX8_arePutCodes 3 = .ok (.aload_n 0, 1) := by decide +kernel
theorem dX8_arePutCodes_4 : decode cX8_arePutCodes 4 = .ok (.arraylength, 1) := by decide +kernel
theorem dX8_arePutCodes_5 : decode cX8_arePutCodes 5 = .ok (.if_icmp .ge 26, 3) := by decide +kernel
theorem dX8_arePutCodes_8 : decode cX8_arePutCodes 8 = .ok (.aload_n 0, 1) := by decide +kernel
theorem dX8_arePutCodes_9 : decode cX8_arePutCodes 9 = .ok (.iload_n 1, 1) := by decide +kernel
theorem dX8_arePutCodes_10 : decode cX8_arePutCodes 10 = .ok (.iaload, 1) := by decide +kernel
theorem dX8_arePutCodes_11 : decode cX8_arePutCodes 11 = .ok (.ifCond .lt 12, 3) := by decide +kernel
theorem dX8_arePutCodes_14 : decode cX8_arePutCodes 14 = .ok (.aload_n 0, 1) := by decide +kernel
theorem dX8_arePutCodes_15 : decode cX8_arePutCodes 15 = .ok (.iload_n 1, 1) := by decide +kernel
theorem dX8_arePutCodes_16 : decode cX8_arePutCodes 16 = .ok (.iaload, 1) := by decide +kernel
theorem dX8_arePutCodes_17 : decode cX8_arePutCodes 17 = .ok (.sipush 255, 3) := by decide +kernel
theorem dX8_arePutCodes_20 : decode cX8_arePutCodes 20 = .ok (.if_icmp .le 5, 3) := by decide +kernel
theorem dX8_arePutCodes_23 : decode cX8_arePutCodes 23 = .ok (.iconst 0, 1) := by decide +kernel
theorem dX8_arePutCodes_24 : decode cX8_arePutCodes 24 = .ok (.ireturn, 1) := by decide +kernel
theorem dX8_arePutCodes_25 : decode cX8_arePutCodes 25 = .ok (.iinc 1 1, 3) := by decide +kernel
theorem dX8_arePutCodes_28 : decode cX8_arePutCodes 28 = .ok (.goto (-26), 3) := by decide +kernel
theorem dX8_arePutCodes_31 : decode cX8_arePutCodes 31 = .ok (.aload_n 0, 1) := by decide +kernel
theorem dX8_arePutCodes_32 : decode cX8_arePutCodes 32 = .ok (.arraylength, 1) := by decide +kernel
theorem dX8_arePutCodes_33 : decode cX8_arePutCodes 33 = .ok (.ifCond .le 7, 3) := by decide +kernel
theorem dX8_arePutCodes_36 : decode cX8_arePutCodes 36 = .ok (.iconst 1, 1) := by decide +kernel
theorem dX8_arePutCodes_37 : decode cX8_arePutCodes 37 = .ok (.goto 4, 3) := by decide +kernel
theorem dX8_arePutCodes_40 : decode cX8_arePutCodes 40 = .ok (.iconst 0, 1) := by decide +kernel
theorem dX8_arePutCodes_41 : decode cX8_arePutCodes 41 = .ok (.ireturn, 1) := by decide +kernel
theorem dX8_isTint_0 : decode cX8_isTint 0 = .ok (.iload_n 0, 1) := by decide +kernel
theorem dX8_isTint_1 : decode cX8_isTint 1 = .ok (.ifCond .lt 12, 3) := by decide +kernel
theorem dX8_isTint_4 : decode cX8_isTint 4 = .ok (.iload_n 0, 1) := by decide +kernel
theorem dX8_isTint_5 : decode cX8_isTint 5 = .ok (.iconst 4, 1) := by decide +kernel
theorem dX8_isTint_6 : decode cX8_isTint 6 = .ok (.if_icmp .ge 7, 3) := by decide +kernel
theorem dX8_isTint_9 : decode cX8_isTint 9 = .ok (.iconst 1, 1) := by decide +kernel
theorem dX8_isTint_10 : decode cX8_isTint 10 = .ok (.goto 4, 3) := by decide +kernel
theorem dX8_isTint_13 : decode cX8_isTint 13 = .ok (.iconst 0, 1) := by decide +kernel
theorem dX8_isTint_14 : decode cX8_isTint 14 = .ok (.ireturn, 1) := by decide +kernel
theorem dX8_isCursor_0 : decode cX8_isCursor 0 = .ok (.iload_n 0, 1) := by decide +kernel
theorem dX8_isCursor_1 : decode cX8_isCursor 1 = .ok (.ifCond .lt 12, 3) := by decide +kernel
theorem dX8_isCursor_4 : decode cX8_isCursor 4 = .ok (.iload_n 0, 1) := by decide +kernel
theorem dX8_isCursor_5 : decode cX8_isCursor 5 = .ok (.iconst 3, 1) := by decide +kernel
theorem dX8_isCursor_6 : decode cX8_isCursor 6 = .ok (.if_icmp .ge 7, 3) := by decide +kernel
theorem dX8_isCursor_9 : decode cX8_isCursor 9 = .ok (.iconst 1, 1) := by decide +kernel
theorem dX8_isCursor_10 : decode cX8_isCursor 10 = .ok (.goto 4, 3) := by decide +kernel
theorem dX8_isCursor_13 : decode cX8_isCursor 13 = .ok (.iconst 0, 1) := by decide +kernel
theorem dX8_isCursor_14 : decode cX8_isCursor 14 = .ok (.ireturn, 1) := by decide +kernel
theorem dX8_putOf_0 : decode cX8_putOf 0 = .ok (.iload_n 0, 1) := by decide +kernel
theorem dX8_putOf_1 : decode cX8_putOf 1 = .ok (.ifCond .ge 7, 3) := by decide +kernel
theorem dX8_putOf_4 : decode cX8_putOf 4 = .ok (.iconst (-1), 1) := by decide +kernel
theorem dX8_putOf_5 : decode cX8_putOf 5 = .ok (.goto 6, 3) := by decide +kernel
theorem dX8_putOf_8 : decode cX8_putOf 8 = .ok (.iload_n 0, 1) := by decide +kernel
theorem dX8_putOf_9 : decode cX8_putOf 9 = .ok (.iconst 4, 1) := by decide +kernel
theorem dX8_putOf_10 : decode cX8_putOf 10 = .ok (.idiv, 1) := by decide +kernel
theorem dX8_putOf_11 : decode cX8_putOf 11 = .ok (.ireturn, 1) := by decide +kernel
end
section
theorem dL_law_0 : decode cL_law 0 = .ok (.new 7, 3) := by decide +kernel
theorem dL_law_3 : decode cL_law 3 = .ok (.dup, 1) := by decide +kernel
theorem dL_law_4 : decode cL_law 4 = .ok (.invokespecial 9, 3) := by decide +kernel
theorem dL_law_7 : decode cL_law 7 = .ok (.astore_n 1, 1) := by decide +kernel
theorem dL_law_8 : decode cL_law 8 = .ok (.new 10, 3) := by decide +kernel
theorem dL_law_11 : decode cL_law 11 = .ok (.dup, 1) := by decide +kernel
theorem dL_law_12 : decode cL_law 12 = .ok (.invokespecial 12, 3) := by decide +kernel
theorem dL_law_15 : decode cL_law 15 = .ok (.astore_n 2, 1) := by decide +kernel
theorem dL_law_16 : decode cL_law 16 = .ok (.iconst 0, 1) := by decide +kernel
theorem dL_law_17 : decode cL_law 17 = .ok (.istore_n 3, 1) := by decide +kernel
theorem dL_law_18 : decode cL_law 18 = .ok (.iload_n 3, 1) := by decide +kernel
theorem dL_law_19 : decode cL_law 19 = .ok (.aload_n 0, 1) := by decide +kernel
theorem dL_law_20 : decode cL_law 20 = .ok (.arraylength, 1) := by decide +kernel
theorem dL_law_21 : decode cL_law 21 = .ok (.bipush 6, 2) := by decide +kernel
theorem dL_law_23 : decode cL_law 23 = .ok (.isub, 1) := by decide +kernel
theorem dL_law_24 : decode cL_law 24 = .ok (.if_icmp .gt 1086, 3) := by decide +kernel
theorem dL_law_27 : decode cL_law 27 = .ok (.aload_n 0, 1) := by decide +kernel
theorem dL_law_28 : decode cL_law 28 = .ok (.iload_n 3, 1) := by decide +kernel
theorem dL_law_29 : decode cL_law 29 = .ok (.iaload, 1) := by decide +kernel
theorem dL_law_30 : decode cL_law 30 = .ok (.bipush 31, 2) := by decide +kernel
theorem dL_law_32 : decode cL_law 32 = .ok (.iand, 1) := by decide +kernel
theorem dL_law_33 : decode cL_law 33 = .ok (.tableswitch 1071 0 27 #[127, 190, 233, 296, 329, 362, 395, 428, 461, 474, 507, 540, 563, 586, 609, 642, 665, 708, 731, 764, 797, 830, 863, 896, 939, 972, 1025, 1058], 127) := by decide +kernel
theorem dL_law_160 : decode cL_law 160 = .ok (.aload_n 1, 1) := by decide +kernel
theorem dL_law_161 : decode cL_law 161 = .ok (.aload_n 0, 1) := by decide +kernel
theorem dL_law_162 : decode cL_law 162 = .ok (.iload_n 3, 1) := by decide +kernel
theorem dL_law_163 : decode cL_law 163 = .ok (.iconst 1, 1) := by decide +kernel
theorem dL_law_164 : decode cL_law 164 = .ok (.iadd, 1) := by decide +kernel
theorem dL_law_165 : decode cL_law 165 = .ok (.iaload, 1) := by decide +kernel
theorem dL_law_166 : decode cL_law 166 = .ok (.aload_n 0, 1) := by decide +kernel
theorem dL_law_167 : decode cL_law 167 = .ok (.iload_n 3, 1) := by decide +kernel
theorem dL_law_168 : decode cL_law 168 = .ok (.iconst 2, 1) := by decide +kernel
theorem dL_law_169 : decode cL_law 169 = .ok (.iadd, 1) := by decide +kernel
theorem dL_law_170 : decode cL_law 170 = .ok (.iaload, 1) := by decide +kernel
theorem dL_law_171 : decode cL_law 171 = .ok (.aload_n 0, 1) := by decide +kernel
theorem dL_law_172 : decode cL_law 172 = .ok (.iload_n 3, 1) := by decide +kernel
theorem dL_law_173 : decode cL_law 173 = .ok (.iconst 3, 1) := by decide +kernel
theorem dL_law_174 : decode cL_law 174 = .ok (.iadd, 1) := by decide +kernel
theorem dL_law_175 : decode cL_law 175 = .ok (.iaload, 1) := by decide +kernel
theorem dL_law_176 : decode cL_law 176 = .ok (.aload_n 0, 1) := by decide +kernel
theorem dL_law_177 : decode cL_law 177 = .ok (.iload_n 3, 1) := by decide +kernel
theorem dL_law_178 : decode cL_law 178 = .ok (.iconst 4, 1) := by decide +kernel
theorem dL_law_179 : decode cL_law 179 = .ok (.iadd, 1) := by decide +kernel
theorem dL_law_180 : decode cL_law 180 = .ok (.iaload, 1) := by decide +kernel
theorem dL_law_181 : decode cL_law 181 = .ok (.aload_n 0, 1) := by decide +kernel
theorem dL_law_182 : decode cL_law 182 = .ok (.iload_n 3, 1) := by decide +kernel
theorem dL_law_183 : decode cL_law 183 = .ok (.iconst 5, 1) := by decide +kernel
theorem dL_law_184 : decode cL_law 184 = .ok (.iadd, 1) := by decide +kernel
theorem dL_law_185 : decode cL_law 185 = .ok (.iaload, 1) := by decide +kernel
theorem dL_law_186 : decode cL_law 186 = .ok (.invokevirtual 13, 3) := by decide +kernel
theorem dL_law_189 : decode cL_law 189 = .ok (.aload_n 2, 1) := by decide +kernel
theorem dL_law_190 : decode cL_law 190 = .ok (.aload_n 0, 1) := by decide +kernel
theorem dL_law_191 : decode cL_law 191 = .ok (.iload_n 3, 1) := by decide +kernel
theorem dL_law_192 : decode cL_law 192 = .ok (.iconst 1, 1) := by decide +kernel
theorem dL_law_193 : decode cL_law 193 = .ok (.iadd, 1) := by decide +kernel
theorem dL_law_194 : decode cL_law 194 = .ok (.iaload, 1) := by decide +kernel
theorem dL_law_195 : decode cL_law 195 = .ok (.aload_n 0, 1) := by decide +kernel
theorem dL_law_196 : decode cL_law 196 = .ok (.iload_n 3, 1) := by decide +kernel
theorem dL_law_197 : decode cL_law 197 = .ok (.iconst 2, 1) := by decide +kernel
theorem dL_law_198 : decode cL_law 198 = .ok (.iadd, 1) := by decide +kernel
theorem dL_law_199 : decode cL_law 199 = .ok (.iaload, 1) := by decide +kernel
theorem dL_law_200 : decode cL_law 200 = .ok (.aload_n 0, 1) := by decide +kernel
theorem dL_law_201 : decode cL_law 201 = .ok (.iload_n 3, 1) := by decide +kernel
theorem dL_law_202 : decode cL_law 202 = .ok (.iconst 3, 1) := by decide +kernel
theorem dL_law_203 : decode cL_law 203 = .ok (.iadd, 1) := by decide +kernel
theorem dL_law_204 : decode cL_law 204 = .ok (.iaload, 1) := by decide +kernel
theorem dL_law_205 : decode cL_law 205 = .ok (.aload_n 0, 1) := by decide +kernel
theorem dL_law_206 : decode cL_law 206 = .ok (.iload_n 3, 1) := by decide +kernel
theorem dL_law_207 : decode cL_law 207 = .ok (.iconst 4, 1) := by decide +kernel
theorem dL_law_208 : decode cL_law 208 = .ok (.iadd, 1) := by decide +kernel
theorem dL_law_209 : decode cL_law 209 = .ok (.iaload, 1) := by decide +kernel
theorem dL_law_210 : decode cL_law 210 = .ok (.aload_n 0, 1) := by decide +kernel
theorem dL_law_211 : decode cL_law 211 = .ok (.iload_n 3, 1) := by decide +kernel
theorem dL_law_212 : decode cL_law 212 = .ok (.iconst 5, 1) := by decide +kernel
theorem dL_law_213 : decode cL_law 213 = .ok (.iadd, 1) := by decide +kernel
theorem dL_law_214 : decode cL_law 214 = .ok (.iaload, 1) := by decide +kernel
theorem dL_law_215 : decode cL_law 215 = .ok (.invokevirtual 17, 3) := by decide +kernel
theorem dL_law_218 : decode cL_law 218 = .ok (.if_icmp .eq 886, 3) := by decide +kernel
theorem dL_law_221 : decode cL_law 221 = .ok (.iconst 0, 1) := by decide +kernel
theorem dL_law_222 : decode cL_law 222 = .ok (.ireturn, 1) := by decide +kernel
theorem dL_law_223 : decode cL_law 223 = .ok (.aload_n 1, 1) := by decide +kernel
theorem dL_law_224 : decode cL_law 224 = .ok (.aload_n 0, 1) := by decide +kernel
theorem dL_law_225 : decode cL_law 225 = .ok (.iload_n 3, 1) := by decide +kernel
theorem dL_law_226 : decode cL_law 226 = .ok (.iconst 1, 1) := by decide +kernel
theorem dL_law_227 : decode cL_law 227 = .ok (.iadd, 1) := by decide +kernel
theorem dL_law_228 : decode cL_law 228 = .ok (.iaload, 1) := by decide +kernel
theorem dL_law_229 : decode cL_law 229 = .ok (.aload_n 0, 1) := by decide +kernel
theorem dL_law_230 : decode cL_law 230 = .ok (.iload_n 3, 1) := by decide +kernel
theorem dL_law_231 : decode cL_law 231 = .ok (.iconst 2, 1) := by decide +kernel
theorem dL_law_232 : decode cL_law 232 = .ok (.iadd, 1) := by decide +kernel
theorem dL_law_233 : decode cL_law 233 = .ok (.iaload, 1) := by decide +kernel
theorem dL_law_234 : decode cL_law 234 = .ok (.aload_n 0, 1) := by decide +kernel
theorem dL_law_235 : decode cL_law 235 = .ok (.iload_n 3, 1) := by decide +kernel
theorem dL_law_236 : decode cL_law 236 = .ok (.iconst 3, 1) := by decide +kernel
theorem dL_law_237 : decode cL_law 237 = .ok (.iadd, 1) := by decide +kernel
theorem dL_law_238 : decode cL_law 238 = .ok (.iaload, 1) := by decide +kernel
theorem dL_law_239 : decode cL_law 239 = .ok (.invokevirtual 18, 3) := by decide +kernel
theorem dL_law_242 : decode cL_law 242 = .ok (.aload_n 2, 1) := by decide +kernel
theorem dL_law_243 : decode cL_law 243 = .ok (.aload_n 0, 1) := by decide +kernel
theorem dL_law_244 : decode cL_law 244 = .ok (.iload_n 3, 1) := by decide +kernel
theorem dL_law_245 : decode cL_law 245 = .ok (.iconst 1, 1) := by decide +kernel
theorem dL_law_246 : decode cL_law 246 = .ok (.iadd, 1) := by decide +kernel
theorem dL_law_247 : decode cL_law 247 = .ok (.iaload, 1) := by decide +kernel
theorem dL_law_248 : decode cL_law 248 = .ok (.aload_n 0, 1) := by decide +kernel
theorem dL_law_249 : decode cL_law 249 = .ok (.iload_n 3, 1) := by decide +kernel
theorem dL_law_250 : decode cL_law 250 = .ok (.iconst 2, 1) := by decide +kernel
theorem dL_law_251 : decode cL_law 251 = .ok (.iadd, 1) := by decide +kernel
theorem dL_law_252 : decode cL_law 252 = .ok (.iaload, 1) := by decide +kernel
theorem dL_law_253 : decode cL_law 253 = .ok (.aload_n 0, 1) := by decide +kernel
theorem dL_law_254 : decode cL_law 254 = .ok (.iload_n 3, 1) := by decide +kernel
theorem dL_law_255 : decode cL_law 255 = .ok (.iconst 3, 1) := by decide +kernel
theorem dL_law_256 : decode cL_law 256 = .ok (.iadd, 1) := by decide +kernel
theorem dL_law_257 : decode cL_law 257 = .ok (.iaload, 1) := by decide +kernel
theorem dL_law_258 : decode cL_law 258 = .ok (.invokevirtual 22, 3) := by decide +kernel
theorem dL_law_261 : decode cL_law 261 = .ok (.if_icmp .eq 843, 3) := by decide +kernel
theorem dL_law_264 : decode cL_law 264 = .ok (.iconst 0, 1) := by decide +kernel
theorem dL_law_265 : decode cL_law 265 = .ok (.ireturn, 1) := by decide +kernel
theorem dL_law_266 : decode cL_law 266 = .ok (.aload_n 1, 1) := by decide +kernel
theorem dL_law_267 : decode cL_law 267 = .ok (.aload_n 0, 1) := by decide +kernel
theorem dL_law_268 : decode cL_law 268 = .ok (.iload_n 3, 1) := by decide +kernel
theorem dL_law_269 : decode cL_law 269 = .ok (.iconst 1, 1) := by decide +kernel
theorem dL_law_270 : decode cL_law 270 = .ok (.iadd, 1) := by decide +kernel
theorem dL_law_271 : decode cL_law 271 = .ok (.iaload, 1) := by decide +kernel
theorem dL_law_272 : decode cL_law 272 = .ok (.aload_n 0, 1) := by decide +kernel
theorem dL_law_273 : decode cL_law 273 = .ok (.iload_n 3, 1) := by decide +kernel
theorem dL_law_274 : decode cL_law 274 = .ok (.iconst 2, 1) := by decide +kernel
theorem dL_law_275 : decode cL_law 275 = .ok (.iadd, 1) := by decide +kernel
theorem dL_law_276 : decode cL_law 276 = .ok (.iaload, 1) := by decide +kernel
theorem dL_law_277 : decode cL_law 277 = .ok (.aload_n 0, 1) := by decide +kernel
theorem dL_law_278 : decode cL_law 278 = .ok (.iload_n 3, 1) := by decide +kernel
theorem dL_law_279 : decode cL_law 279 = .ok (.iconst 3, 1) := by decide +kernel
theorem dL_law_280 : decode cL_law 280 = .ok (.iadd, 1) := by decide +kernel
theorem dL_law_281 : decode cL_law 281 = .ok (.iaload, 1) := by decide +kernel
theorem dL_law_282 : decode cL_law 282 = .ok (.aload_n 0, 1) := by decide +kernel
theorem dL_law_283 : decode cL_law 283 = .ok (.iload_n 3, 1) := by decide +kernel
theorem dL_law_284 : decode cL_law 284 = .ok (.iconst 4, 1) := by decide +kernel
theorem dL_law_285 : decode cL_law 285 = .ok (.iadd, 1) := by decide +kernel
theorem dL_law_286 : decode cL_law 286 = .ok (.iaload, 1) := by decide +kernel
theorem dL_law_287 : decode cL_law 287 = .ok (.aload_n 0, 1) := by decide +kernel
theorem dL_law_288 : decode cL_law 288 = .ok (.iload_n 3, 1) := by decide +kernel
theorem dL_law_289 : decode cL_law 289 = .ok (.iconst 5, 1) := by decide +kernel
theorem dL_law_290 : decode cL_law 290 = .ok (.iadd, 1) := by decide +kernel
theorem dL_law_291 : decode cL_law 291 = .ok (.iaload, 1) := by decide +kernel
theorem dL_law_292 : decode cL_law 292 = .ok (.invokevirtual 23, 3) := by decide +kernel
theorem dL_law_295 : decode cL_law 295 = .ok (.aload_n 2, 1) := by decide +kernel
theorem dL_law_296 : decode cL_law 296 = .ok (.aload_n 0, 1) := by decide +kernel
theorem dL_law_297 : decode cL_law 297 = .ok (.iload_n 3, 1) := by decide +kernel
theorem dL_law_298 : decode cL_law 298 = .ok (.iconst 1, 1) := by decide +kernel
theorem dL_law_299 : decode cL_law 299 = .ok (.iadd, 1) := by decide +kernel
theorem dL_law_300 : decode cL_law 300 = .ok (.iaload, 1) := by decide +kernel
theorem dL_law_301 : decode cL_law 301 = .ok (.aload_n 0, 1) := by decide +kernel
theorem dL_law_302 : decode cL_law 302 = .ok (.iload_n 3, 1) := by decide +kernel
theorem dL_law_303 : decode cL_law 303 = .ok (.iconst 2, 1) := by decide +kernel
theorem dL_law_304 : decode cL_law 304 = .ok (.iadd, 1) := by decide +kernel
theorem dL_law_305 : decode cL_law 305 = .ok (.iaload, 1) := by decide +kernel
theorem dL_law_306 : decode cL_law 306 = .ok (.aload_n 0, 1) := by decide +kernel
theorem dL_law_307 : decode cL_law 307 = .ok (.iload_n 3, 1) := by decide +kernel
theorem dL_law_308 : decode cL_law 308 = .ok (.iconst 3, 1) := by decide +kernel
theorem dL_law_309 : decode cL_law 309 = .ok (.iadd, 1) := by decide +kernel
theorem dL_law_310 : decode cL_law 310 = .ok (.iaload, 1) := by decide +kernel
theorem dL_law_311 : decode cL_law 311 = .ok (.aload_n 0, 1) := by decide +kernel
theorem dL_law_312 : decode cL_law 312 = .ok (.iload_n 3, 1) := by decide +kernel
theorem dL_law_313 : decode cL_law 313 = .ok (.iconst 4, 1) := by decide +kernel
theorem dL_law_314 : decode cL_law 314 = .ok (.iadd, 1) := by decide +kernel
theorem dL_law_315 : decode cL_law 315 = .ok (.iaload, 1) := by decide +kernel
theorem dL_law_316 : decode cL_law 316 = .ok (.aload_n 0, 1) := by decide +kernel
theorem dL_law_317 : decode cL_law 317 = .ok (.iload_n 3, 1) := by decide +kernel
theorem dL_law_318 : decode cL_law 318 = .ok (.iconst 5, 1) := by decide +kernel
theorem dL_law_319 : decode cL_law 319 = .ok (.iadd, 1) := by decide +kernel
theorem dL_law_320 : decode cL_law 320 = .ok (.iaload, 1) := by decide +kernel
theorem dL_law_321 : decode cL_law 321 = .ok (.invokevirtual 26, 3) := by decide +kernel
theorem dL_law_324 : decode cL_law 324 = .ok (.if_icmp .eq 780, 3) := by decide +kernel
theorem dL_law_327 : decode cL_law 327 = .ok (.iconst 0, 1) := by decide +kernel
theorem dL_law_328 : decode cL_law 328 = .ok (.ireturn, 1) := by decide +kernel
theorem dL_law_329 : decode cL_law 329 = .ok (.aload_n 1, 1) := by decide +kernel
theorem dL_law_330 : decode cL_law 330 = .ok (.aload_n 0, 1) := by decide +kernel
theorem dL_law_331 : decode cL_law 331 = .ok (.iload_n 3, 1) := by decide +kernel
theorem dL_law_332 : decode cL_law 332 = .ok (.iconst 1, 1) := by decide +kernel
theorem dL_law_333 : decode cL_law 333 = .ok (.iadd, 1) := by decide +kernel
theorem dL_law_334 : decode cL_law 334 = .ok (.iaload, 1) := by decide +kernel
theorem dL_law_335 : decode cL_law 335 = .ok (.aload_n 0, 1) := by decide +kernel
theorem dL_law_336 : decode cL_law 336 = .ok (.iload_n 3, 1) := by decide +kernel
theorem dL_law_337 : decode cL_law 337 = .ok (.iconst 2, 1) := by decide +kernel
theorem dL_law_338 : decode cL_law 338 = .ok (.iadd, 1) := by decide +kernel
theorem dL_law_339 : decode cL_law 339 = .ok (.iaload, 1) := by decide +kernel
theorem dL_law_340 : decode cL_law 340 = .ok (.invokevirtual 27, 3) := by decide +kernel
theorem dL_law_343 : decode cL_law 343 = .ok (.aload_n 2, 1) := by decide +kernel
theorem dL_law_344 : decode cL_law 344 = .ok (.aload_n 0, 1) := by decide +kernel
theorem dL_law_345 : decode cL_law 345 = .ok (.iload_n 3, 1) := by decide +kernel
theorem dL_law_346 : decode cL_law 346 = .ok (.iconst 1, 1) := by decide +kernel
theorem dL_law_347 : decode cL_law 347 = .ok (.iadd, 1) := by decide +kernel
theorem dL_law_348 : decode cL_law 348 = .ok (.iaload, 1) := by decide +kernel
theorem dL_law_349 : decode cL_law 349 = .ok (.aload_n 0, 1) := by decide +kernel
theorem dL_law_350 : decode cL_law 350 = .ok (.iload_n 3, 1) := by decide +kernel
theorem dL_law_351 : decode cL_law 351 = .ok (.iconst 2, 1) := by decide +kernel
theorem dL_law_352 : decode cL_law 352 = .ok (.iadd, 1) := by decide +kernel
theorem dL_law_353 : decode cL_law 353 = .ok (.iaload, 1) := by decide +kernel
theorem dL_law_354 : decode cL_law 354 = .ok (.invokevirtual 31, 3) := by decide +kernel
theorem dL_law_357 : decode cL_law 357 = .ok (.if_icmp .eq 747, 3) := by decide +kernel
theorem dL_law_360 : decode cL_law 360 = .ok (.iconst 0, 1) := by decide +kernel
theorem dL_law_361 : decode cL_law 361 = .ok (.ireturn, 1) := by decide +kernel
theorem dL_law_362 : decode cL_law 362 = .ok (.aload_n 1, 1) := by decide +kernel
theorem dL_law_363 : decode cL_law 363 = .ok (.aload_n 0, 1) := by decide +kernel
theorem dL_law_364 : decode cL_law 364 = .ok (.iload_n 3, 1) := by decide +kernel
theorem dL_law_365 : decode cL_law 365 = .ok (.iconst 1, 1) := by decide +kernel
theorem dL_law_366 : decode cL_law 366 = .ok (.iadd, 1) := by decide +kernel
theorem dL_law_367 : decode cL_law 367 = .ok (.iaload, 1) := by decide +kernel
theorem dL_law_368 : decode cL_law 368 = .ok (.aload_n 0, 1) := by decide +kernel
theorem dL_law_369 : decode cL_law 369 = .ok (.iload_n 3, 1) := by decide +kernel
theorem dL_law_370 : decode cL_law 370 = .ok (.iconst 2, 1) := by decide +kernel
theorem dL_law_371 : decode cL_law 371 = .ok (.iadd, 1) := by decide +kernel
theorem dL_law_372 : decode cL_law 372 = .ok (.iaload, 1) := by decide +kernel
theorem dL_law_373 : decode cL_law 373 = .ok (.invokevirtual 32, 3) := by decide +kernel
theorem dL_law_376 : decode cL_law 376 = .ok (.aload_n 2, 1) := by decide +kernel
theorem dL_law_377 : decode cL_law 377 = .ok (.aload_n 0, 1) := by decide +kernel
theorem dL_law_378 : decode cL_law 378 = .ok (.iload_n 3, 1) := by decide +kernel
theorem dL_law_379 : decode cL_law 379 = .ok (.iconst 1, 1) := by decide +kernel
theorem dL_law_380 : decode cL_law 380 = .ok (.iadd, 1) := by decide +kernel
theorem dL_law_381 : decode cL_law 381 = .ok (.iaload, 1) := by decide +kernel
theorem dL_law_382 : decode cL_law 382 = .ok (.aload_n 0, 1) := by decide +kernel
theorem dL_law_383 : decode cL_law 383 = .ok (.iload_n 3, 1) := by decide +kernel
theorem dL_law_384 : decode cL_law 384 = .ok (.iconst 2, 1) := by decide +kernel
theorem dL_law_385 : decode cL_law 385 = .ok (.iadd, 1) := by decide +kernel
theorem dL_law_386 : decode cL_law 386 = .ok (.iaload, 1) := by decide +kernel
theorem dL_law_387 : decode cL_law 387 = .ok (.invokevirtual 35, 3) := by decide +kernel
theorem dL_law_390 : decode cL_law 390 = .ok (.if_icmp .eq 714, 3) := by decide +kernel
theorem dL_law_393 : decode cL_law 393 = .ok (.iconst 0, 1) := by decide +kernel
theorem dL_law_394 : decode cL_law 394 = .ok (.ireturn, 1) := by decide +kernel
theorem dL_law_395 : decode cL_law 395 = .ok (.aload_n 1, 1) := by decide +kernel
theorem dL_law_396 : decode cL_law 396 = .ok (.aload_n 0, 1) := by decide +kernel
theorem dL_law_397 : decode cL_law 397 = .ok (.iload_n 3, 1) := by decide +kernel
theorem dL_law_398 : decode cL_law 398 = .ok (.iconst 1, 1) := by decide +kernel
theorem dL_law_399 : decode cL_law 399 = .ok (.iadd, 1) := by decide +kernel
theorem dL_law_400 : decode cL_law 400 = .ok (.iaload, 1) := by decide +kernel
theorem dL_law_401 : decode cL_law 401 = .ok (.aload_n 0, 1) := by decide +kernel
theorem dL_law_402 : decode cL_law 402 = .ok (.iload_n 3, 1) := by decide +kernel
theorem dL_law_403 : decode cL_law 403 = .ok (.iconst 2, 1) := by decide +kernel
theorem dL_law_404 : decode cL_law 404 = .ok (.iadd, 1) := by decide +kernel
theorem dL_law_405 : decode cL_law 405 = .ok (.iaload, 1) := by decide +kernel
theorem dL_law_406 : decode cL_law 406 = .ok (.invokevirtual 36, 3) := by decide +kernel
theorem dL_law_409 : decode cL_law 409 = .ok (.aload_n 2, 1) := by decide +kernel
theorem dL_law_410 : decode cL_law 410 = .ok (.aload_n 0, 1) := by decide +kernel
theorem dL_law_411 : decode cL_law 411 = .ok (.iload_n 3, 1) := by decide +kernel
theorem dL_law_412 : decode cL_law 412 = .ok (.iconst 1, 1) := by decide +kernel
theorem dL_law_413 : decode cL_law 413 = .ok (.iadd, 1) := by decide +kernel
theorem dL_law_414 : decode cL_law 414 = .ok (.iaload, 1) := by decide +kernel
theorem dL_law_415 : decode cL_law 415 = .ok (.aload_n 0, 1) := by decide +kernel
theorem dL_law_416 : decode cL_law 416 = .ok (.iload_n 3, 1) := by decide +kernel
theorem dL_law_417 : decode cL_law 417 = .ok (.iconst 2, 1) := by decide +kernel
theorem dL_law_418 : decode cL_law 418 = .ok (.iadd, 1) := by decide +kernel
theorem dL_law_419 : decode cL_law 419 = .ok (.iaload, 1) := by decide +kernel
theorem dL_law_420 : decode cL_law 420 = .ok (.invokevirtual 39, 3) := by decide +kernel
theorem dL_law_423 : decode cL_law 423 = .ok (.if_icmp .eq 681, 3) := by decide +kernel
theorem dL_law_426 : decode cL_law 426 = .ok (.iconst 0, 1) := by decide +kernel
theorem dL_law_427 : decode cL_law 427 = .ok (.ireturn, 1) := by decide +kernel
theorem dL_law_428 : decode cL_law 428 = .ok (.aload_n 1, 1) := by decide +kernel
theorem dL_law_429 : decode cL_law 429 = .ok (.aload_n 0, 1) := by decide +kernel
theorem dL_law_430 : decode cL_law 430 = .ok (.iload_n 3, 1) := by decide +kernel
theorem dL_law_431 : decode cL_law 431 = .ok (.iconst 1, 1) := by decide +kernel
theorem dL_law_432 : decode cL_law 432 = .ok (.iadd, 1) := by decide +kernel
theorem dL_law_433 : decode cL_law 433 = .ok (.iaload, 1) := by decide +kernel
theorem dL_law_434 : decode cL_law 434 = .ok (.aload_n 0, 1) := by decide +kernel
theorem dL_law_435 : decode cL_law 435 = .ok (.iload_n 3, 1) := by decide +kernel
theorem dL_law_436 : decode cL_law 436 = .ok (.iconst 2, 1) := by decide +kernel
theorem dL_law_437 : decode cL_law 437 = .ok (.iadd, 1) := by decide +kernel
theorem dL_law_438 : decode cL_law 438 = .ok (.iaload, 1) := by decide +kernel
theorem dL_law_439 : decode cL_law 439 = .ok (.invokevirtual 40, 3) := by decide +kernel
theorem dL_law_442 : decode cL_law 442 = .ok (.aload_n 2, 1) := by decide +kernel
theorem dL_law_443 : decode cL_law 443 = .ok (.aload_n 0, 1) := by decide +kernel
theorem dL_law_444 : decode cL_law 444 = .ok (.iload_n 3, 1) := by decide +kernel
theorem dL_law_445 : decode cL_law 445 = .ok (.iconst 1, 1) := by decide +kernel
theorem dL_law_446 : decode cL_law 446 = .ok (.iadd, 1) := by decide +kernel
theorem dL_law_447 : decode cL_law 447 = .ok (.iaload, 1) := by decide +kernel
theorem dL_law_448 : decode cL_law 448 = .ok (.aload_n 0, 1) := by decide +kernel
theorem dL_law_449 : decode cL_law 449 = .ok (.iload_n 3, 1) := by decide +kernel
theorem dL_law_450 : decode cL_law 450 = .ok (.iconst 2, 1) := by decide +kernel
theorem dL_law_451 : decode cL_law 451 = .ok (.iadd, 1) := by decide +kernel
theorem dL_law_452 : decode cL_law 452 = .ok (.iaload, 1) := by decide +kernel
theorem dL_law_453 : decode cL_law 453 = .ok (.invokevirtual 43, 3) := by decide +kernel
theorem dL_law_456 : decode cL_law 456 = .ok (.if_icmp .eq 648, 3) := by decide +kernel
theorem dL_law_459 : decode cL_law 459 = .ok (.iconst 0, 1) := by decide +kernel
theorem dL_law_460 : decode cL_law 460 = .ok (.ireturn, 1) := by decide +kernel
theorem dL_law_461 : decode cL_law 461 = .ok (.aload_n 1, 1) := by decide +kernel
theorem dL_law_462 : decode cL_law 462 = .ok (.aload_n 0, 1) := by decide +kernel
theorem dL_law_463 : decode cL_law 463 = .ok (.iload_n 3, 1) := by decide +kernel
theorem dL_law_464 : decode cL_law 464 = .ok (.iconst 1, 1) := by decide +kernel
theorem dL_law_465 : decode cL_law 465 = .ok (.iadd, 1) := by decide +kernel
theorem dL_law_466 : decode cL_law 466 = .ok (.iaload, 1) := by decide +kernel
theorem dL_law_467 : decode cL_law 467 = .ok (.aload_n 0, 1) := by decide +kernel
theorem dL_law_468 : decode cL_law 468 = .ok (.iload_n 3, 1) := by decide +kernel
theorem dL_law_469 : decode cL_law 469 = .ok (.iconst 2, 1) := by decide +kernel
theorem dL_law_470 : decode cL_law 470 = .ok (.iadd, 1) := by decide +kernel
theorem dL_law_471 : decode cL_law 471 = .ok (.iaload, 1) := by decide +kernel
theorem dL_law_472 : decode cL_law 472 = .ok (.invokevirtual 44, 3) := by decide +kernel
theorem dL_law_475 : decode cL_law 475 = .ok (.aload_n 2, 1) := by decide +kernel
theorem dL_law_476 : decode cL_law 476 = .ok (.aload_n 0, 1) := by decide +kernel
theorem dL_law_477 : decode cL_law 477 = .ok (.iload_n 3, 1) := by decide +kernel
theorem dL_law_478 : decode cL_law 478 = .ok (.iconst 1, 1) := by decide +kernel
theorem dL_law_479 : decode cL_law 479 = .ok (.iadd, 1) := by decide +kernel
theorem dL_law_480 : decode cL_law 480 = .ok (.iaload, 1) := by decide +kernel
theorem dL_law_481 : decode cL_law 481 = .ok (.aload_n 0, 1) := by decide +kernel
theorem dL_law_482 : decode cL_law 482 = .ok (.iload_n 3, 1) := by decide +kernel
theorem dL_law_483 : decode cL_law 483 = .ok (.iconst 2, 1) := by decide +kernel
theorem dL_law_484 : decode cL_law 484 = .ok (.iadd, 1) := by decide +kernel
theorem dL_law_485 : decode cL_law 485 = .ok (.iaload, 1) := by decide +kernel
theorem dL_law_486 : decode cL_law 486 = .ok (.invokevirtual 47, 3) := by decide +kernel
theorem dL_law_489 : decode cL_law 489 = .ok (.if_icmp .eq 615, 3) := by decide +kernel
theorem dL_law_492 : decode cL_law 492 = .ok (.iconst 0, 1) := by decide +kernel
theorem dL_law_493 : decode cL_law 493 = .ok (.ireturn, 1) := by decide +kernel
theorem dL_law_494 : decode cL_law 494 = .ok (.aload_n 1, 1) := by decide +kernel
theorem dL_law_495 : decode cL_law 495 = .ok (.invokevirtual 48, 3) := by decide +kernel
theorem dL_law_498 : decode cL_law 498 = .ok (.aload_n 2, 1) := by decide +kernel
theorem dL_law_499 : decode cL_law 499 = .ok (.invokevirtual 52, 3) := by decide +kernel
theorem dL_law_502 : decode cL_law 502 = .ok (.if_icmp .eq 602, 3) := by decide +kernel
theorem dL_law_505 : decode cL_law 505 = .ok (.iconst 0, 1) := by decide +kernel
theorem dL_law_506 : decode cL_law 506 = .ok (.ireturn, 1) := by decide +kernel
theorem dL_law_507 : decode cL_law 507 = .ok (.aload_n 1, 1) := by decide +kernel
theorem dL_law_508 : decode cL_law 508 = .ok (.aload_n 0, 1) := by decide +kernel
theorem dL_law_509 : decode cL_law 509 = .ok (.iload_n 3, 1) := by decide +kernel
theorem dL_law_510 : decode cL_law 510 = .ok (.iconst 1, 1) := by decide +kernel
theorem dL_law_511 : decode cL_law 511 = .ok (.iadd, 1) := by decide +kernel
theorem dL_law_512 : decode cL_law 512 = .ok (.iaload, 1) := by decide +kernel
theorem dL_law_513 : decode cL_law 513 = .ok (.aload_n 0, 1) := by decide +kernel
theorem dL_law_514 : decode cL_law 514 = .ok (.iload_n 3, 1) := by decide +kernel
theorem dL_law_515 : decode cL_law 515 = .ok (.iconst 2, 1) := by decide +kernel
theorem dL_law_516 : decode cL_law 516 = .ok (.iadd, 1) := by decide +kernel
theorem dL_law_517 : decode cL_law 517 = .ok (.iaload, 1) := by decide +kernel
theorem dL_law_518 : decode cL_law 518 = .ok (.invokevirtual 53, 3) := by decide +kernel
theorem dL_law_521 : decode cL_law 521 = .ok (.aload_n 2, 1) := by decide +kernel
theorem dL_law_522 : decode cL_law 522 = .ok (.aload_n 0, 1) := by decide +kernel
theorem dL_law_523 : decode cL_law 523 = .ok (.iload_n 3, 1) := by decide +kernel
theorem dL_law_524 : decode cL_law 524 = .ok (.iconst 1, 1) := by decide +kernel
theorem dL_law_525 : decode cL_law 525 = .ok (.iadd, 1) := by decide +kernel
theorem dL_law_526 : decode cL_law 526 = .ok (.iaload, 1) := by decide +kernel
theorem dL_law_527 : decode cL_law 527 = .ok (.aload_n 0, 1) := by decide +kernel
theorem dL_law_528 : decode cL_law 528 = .ok (.iload_n 3, 1) := by decide +kernel
theorem dL_law_529 : decode cL_law 529 = .ok (.iconst 2, 1) := by decide +kernel
theorem dL_law_530 : decode cL_law 530 = .ok (.iadd, 1) := by decide +kernel
theorem dL_law_531 : decode cL_law 531 = .ok (.iaload, 1) := by decide +kernel
theorem dL_law_532 : decode cL_law 532 = .ok (.invokevirtual 56, 3) := by decide +kernel
theorem dL_law_535 : decode cL_law 535 = .ok (.if_icmp .eq 569, 3) := by decide +kernel
theorem dL_law_538 : decode cL_law 538 = .ok (.iconst 0, 1) := by decide +kernel
theorem dL_law_539 : decode cL_law 539 = .ok (.ireturn, 1) := by decide +kernel
theorem dL_law_540 : decode cL_law 540 = .ok (.aload_n 1, 1) := by decide +kernel
theorem dL_law_541 : decode cL_law 541 = .ok (.aload_n 0, 1) := by decide +kernel
theorem dL_law_542 : decode cL_law 542 = .ok (.iload_n 3, 1) := by decide +kernel
theorem dL_law_543 : decode cL_law 543 = .ok (.iconst 1, 1) := by decide +kernel
theorem dL_law_544 : decode cL_law 544 = .ok (.iadd, 1) := by decide +kernel
theorem dL_law_545 : decode cL_law 545 = .ok (.iaload, 1) := by decide +kernel
theorem dL_law_546 : decode cL_law 546 = .ok (.aload_n 0, 1) := by decide +kernel
theorem dL_law_547 : decode cL_law 547 = .ok (.iload_n 3, 1) := by decide +kernel
theorem dL_law_548 : decode cL_law 548 = .ok (.iconst 2, 1) := by decide +kernel
theorem dL_law_549 : decode cL_law 549 = .ok (.iadd, 1) := by decide +kernel
theorem dL_law_550 : decode cL_law 550 = .ok (.iaload, 1) := by decide +kernel
theorem dL_law_551 : decode cL_law 551 = .ok (.invokevirtual 57, 3) := by decide +kernel
theorem dL_law_554 : decode cL_law 554 = .ok (.aload_n 2, 1) := by decide +kernel
theorem dL_law_555 : decode cL_law 555 = .ok (.aload_n 0, 1) := by decide +kernel
theorem dL_law_556 : decode cL_law 556 = .ok (.iload_n 3, 1) := by decide +kernel
theorem dL_law_557 : decode cL_law 557 = .ok (.iconst 1, 1) := by decide +kernel
theorem dL_law_558 : decode cL_law 558 = .ok (.iadd, 1) := by decide +kernel
theorem dL_law_559 : decode cL_law 559 = .ok (.iaload, 1) := by decide +kernel
theorem dL_law_560 : decode cL_law 560 = .ok (.aload_n 0, 1) := by decide +kernel
theorem dL_law_561 : decode cL_law 561 = .ok (.iload_n 3, 1) := by decide +kernel
theorem dL_law_562 : decode cL_law 562 = .ok (.iconst 2, 1) := by decide +kernel
theorem dL_law_563 : decode cL_law 563 = .ok (.iadd, 1) := by decide +kernel
theorem dL_law_564 : decode cL_law 564 = .ok (.iaload, 1) := by decide +kernel
theorem dL_law_565 : decode cL_law 565 = .ok (.invokevirtual 60, 3) := by decide +kernel
theorem dL_law_568 : decode cL_law 568 = .ok (.if_icmp .eq 536, 3) := by decide +kernel
theorem dL_law_571 : decode cL_law 571 = .ok (.iconst 0, 1) := by decide +kernel
theorem dL_law_572 : decode cL_law 572 = .ok (.ireturn, 1) := by decide +kernel
theorem dL_law_573 : decode cL_law 573 = .ok (.aload_n 1, 1) := by decide +kernel
theorem dL_law_574 : decode cL_law 574 = .ok (.aload_n 0, 1) := by decide +kernel
theorem dL_law_575 : decode cL_law 575 = .ok (.iload_n 3, 1) := by decide +kernel
theorem dL_law_576 : decode cL_law 576 = .ok (.iconst 1, 1) := by decide +kernel
theorem dL_law_577 : decode cL_law 577 = .ok (.iadd, 1) := by decide +kernel
theorem dL_law_578 : decode cL_law 578 = .ok (.iaload, 1) := by decide +kernel
theorem dL_law_579 : decode cL_law 579 = .ok (.invokevirtual 61, 3) := by decide +kernel
theorem dL_law_582 : decode cL_law 582 = .ok (.aload_n 2, 1) := by decide +kernel
theorem dL_law_583 : decode cL_law 583 = .ok (.aload_n 0, 1) := by decide +kernel
theorem dL_law_584 : decode cL_law 584 = .ok (.iload_n 3, 1) := by decide +kernel
theorem dL_law_585 : decode cL_law 585 = .ok (.iconst 1, 1) := by decide +kernel
theorem dL_law_586 : decode cL_law 586 = .ok (.iadd, 1) := by decide +kernel
theorem dL_law_587 : decode cL_law 587 = .ok (.iaload, 1) := by decide +kernel
theorem dL_law_588 : decode cL_law 588 = .ok (.invokevirtual 65, 3) := by decide +kernel
theorem dL_law_591 : decode cL_law 591 = .ok (.if_icmp .eq 513, 3) := by decide +kernel
theorem dL_law_594 : decode cL_law 594 = .ok (.iconst 0, 1) := by decide +kernel
theorem dL_law_595 : decode cL_law 595 = .ok (.ireturn, 1) := by decide +kernel
theorem dL_law_596 : decode cL_law 596 = .ok (.aload_n 1, 1) := by decide +kernel
theorem dL_law_597 : decode cL_law 597 = .ok (.aload_n 0, 1) := by decide +kernel
theorem dL_law_598 : decode cL_law 598 = .ok (.iload_n 3, 1) := by decide +kernel
theorem dL_law_599 : decode cL_law 599 = .ok (.iconst 1, 1) := by decide +kernel
theorem dL_law_600 : decode cL_law 600 = .ok (.iadd, 1) := by decide +kernel
theorem dL_law_601 : decode cL_law 601 = .ok (.iaload, 1) := by decide +kernel
theorem dL_law_602 : decode cL_law 602 = .ok (.invokevirtual 66, 3) := by decide +kernel
theorem dL_law_605 : decode cL_law 605 = .ok (.aload_n 2, 1) := by decide +kernel
theorem dL_law_606 : decode cL_law 606 = .ok (.aload_n 0, 1) := by decide +kernel
theorem dL_law_607 : decode cL_law 607 = .ok (.iload_n 3, 1) := by decide +kernel
theorem dL_law_608 : decode cL_law 608 = .ok (.iconst 1, 1) := by decide +kernel
theorem dL_law_609 : decode cL_law 609 = .ok (.iadd, 1) := by decide +kernel
theorem dL_law_610 : decode cL_law 610 = .ok (.iaload, 1) := by decide +kernel
theorem dL_law_611 : decode cL_law 611 = .ok (.invokevirtual 69, 3) := by decide +kernel
theorem dL_law_614 : decode cL_law 614 = .ok (.if_icmp .eq 490, 3) := by decide +kernel
theorem dL_law_617 : decode cL_law 617 = .ok (.iconst 0, 1) := by decide +kernel
theorem dL_law_618 : decode cL_law 618 = .ok (.ireturn, 1) := by decide +kernel
theorem dL_law_619 : decode cL_law 619 = .ok (.aload_n 1, 1) := by decide +kernel
theorem dL_law_620 : decode cL_law 620 = .ok (.aload_n 0, 1) := by decide +kernel
theorem dL_law_621 : decode cL_law 621 = .ok (.iload_n 3, 1) := by decide +kernel
theorem dL_law_622 : decode cL_law 622 = .ok (.iconst 1, 1) := by decide +kernel
theorem dL_law_623 : decode cL_law 623 = .ok (.iadd, 1) := by decide +kernel
theorem dL_law_624 : decode cL_law 624 = .ok (.iaload, 1) := by decide +kernel
theorem dL_law_625 : decode cL_law 625 = .ok (.invokevirtual 70, 3) := by decide +kernel
theorem dL_law_628 : decode cL_law 628 = .ok (.aload_n 2, 1) := by decide +kernel
theorem dL_law_629 : decode cL_law 629 = .ok (.aload_n 0, 1) := by decide +kernel
theorem dL_law_630 : decode cL_law 630 = .ok (.iload_n 3, 1) := by decide +kernel
theorem dL_law_631 : decode cL_law 631 = .ok (.iconst 1, 1) := by decide +kernel
theorem dL_law_632 : decode cL_law 632 = .ok (.iadd, 1) := by decide +kernel
theorem dL_law_633 : decode cL_law 633 = .ok (.iaload, 1) := by decide +kernel
theorem dL_law_634 : decode cL_law 634 = .ok (.invokevirtual 73, 3) := by decide +kernel
theorem dL_law_637 : decode cL_law 637 = .ok (.if_icmp .eq 467, 3) := by decide +kernel
theorem dL_law_640 : decode cL_law 640 = .ok (.iconst 0, 1) := by decide +kernel
theorem dL_law_641 : decode cL_law 641 = .ok (.ireturn, 1) := by decide +kernel
theorem dL_law_642 : decode cL_law 642 = .ok (.aload_n 1, 1) := by decide +kernel
theorem dL_law_643 : decode cL_law 643 = .ok (.aload_n 0, 1) := by decide +kernel
theorem dL_law_644 : decode cL_law 644 = .ok (.iload_n 3, 1) := by decide +kernel
theorem dL_law_645 : decode cL_law 645 = .ok (.iconst 1, 1) := by decide +kernel
theorem dL_law_646 : decode cL_law 646 = .ok (.iadd, 1) := by decide +kernel
theorem dL_law_647 : decode cL_law 647 = .ok (.iaload, 1) := by decide +kernel
theorem dL_law_648 : decode cL_law 648 = .ok (.aload_n 0, 1) := by decide +kernel
theorem dL_law_649 : decode cL_law 649 = .ok (.iload_n 3, 1) := by decide +kernel
theorem dL_law_650 : decode cL_law 650 = .ok (.iconst 2, 1) := by decide +kernel
theorem dL_law_651 : decode cL_law 651 = .ok (.iadd, 1) := by decide +kernel
theorem dL_law_652 : decode cL_law 652 = .ok (.iaload, 1) := by decide +kernel
theorem dL_law_653 : decode cL_law 653 = .ok (.invokevirtual 74, 3) := by decide +kernel
theorem dL_law_656 : decode cL_law 656 = .ok (.aload_n 2, 1) := by decide +kernel
theorem dL_law_657 : decode cL_law 657 = .ok (.aload_n 0, 1) := by decide +kernel
theorem dL_law_658 : decode cL_law 658 = .ok (.iload_n 3, 1) := by decide +kernel
theorem dL_law_659 : decode cL_law 659 = .ok (.iconst 1, 1) := by decide +kernel
theorem dL_law_660 : decode cL_law 660 = .ok (.iadd, 1) := by decide +kernel
theorem dL_law_661 : decode cL_law 661 = .ok (.iaload, 1) := by decide +kernel
theorem dL_law_662 : decode cL_law 662 = .ok (.aload_n 0, 1) := by decide +kernel
theorem dL_law_663 : decode cL_law 663 = .ok (.iload_n 3, 1) := by decide +kernel
theorem dL_law_664 : decode cL_law 664 = .ok (.iconst 2, 1) := by decide +kernel
theorem dL_law_665 : decode cL_law 665 = .ok (.iadd, 1) := by decide +kernel
theorem dL_law_666 : decode cL_law 666 = .ok (.iaload, 1) := by decide +kernel
theorem dL_law_667 : decode cL_law 667 = .ok (.invokevirtual 78, 3) := by decide +kernel
theorem dL_law_670 : decode cL_law 670 = .ok (.if_icmp .eq 434, 3) := by decide +kernel
theorem dL_law_673 : decode cL_law 673 = .ok (.iconst 0, 1) := by decide +kernel
theorem dL_law_674 : decode cL_law 674 = .ok (.ireturn, 1) := by decide +kernel
theorem dL_law_675 : decode cL_law 675 = .ok (.aload_n 1, 1) := by decide +kernel
theorem dL_law_676 : decode cL_law 676 = .ok (.aload_n 0, 1) := by decide +kernel
theorem dL_law_677 : decode cL_law 677 = .ok (.iload_n 3, 1) := by decide +kernel
theorem dL_law_678 : decode cL_law 678 = .ok (.iconst 1, 1) := by decide +kernel
theorem dL_law_679 : decode cL_law 679 = .ok (.iadd, 1) := by decide +kernel
theorem dL_law_680 : decode cL_law 680 = .ok (.iaload, 1) := by decide +kernel
theorem dL_law_681 : decode cL_law 681 = .ok (.invokevirtual 79, 3) := by decide +kernel
theorem dL_law_684 : decode cL_law 684 = .ok (.aload_n 2, 1) := by decide +kernel
theorem dL_law_685 : decode cL_law 685 = .ok (.aload_n 0, 1) := by decide +kernel
theorem dL_law_686 : decode cL_law 686 = .ok (.iload_n 3, 1) := by decide +kernel
theorem dL_law_687 : decode cL_law 687 = .ok (.iconst 1, 1) := by decide +kernel
theorem dL_law_688 : decode cL_law 688 = .ok (.iadd, 1) := by decide +kernel
theorem dL_law_689 : decode cL_law 689 = .ok (.iaload, 1) := by decide +kernel
theorem dL_law_690 : decode cL_law 690 = .ok (.invokevirtual 82, 3) := by decide +kernel
theorem dL_law_693 : decode cL_law 693 = .ok (.if_icmp .eq 411, 3) := by decide +kernel
theorem dL_law_696 : decode cL_law 696 = .ok (.iconst 0, 1) := by decide +kernel
theorem dL_law_697 : decode cL_law 697 = .ok (.ireturn, 1) := by decide +kernel
theorem dL_law_698 : decode cL_law 698 = .ok (.aload_n 1, 1) := by decide +kernel
theorem dL_law_699 : decode cL_law 699 = .ok (.aload_n 0, 1) := by decide +kernel
theorem dL_law_700 : decode cL_law 700 = .ok (.iload_n 3, 1) := by decide +kernel
theorem dL_law_701 : decode cL_law 701 = .ok (.iconst 1, 1) := by decide +kernel
theorem dL_law_702 : decode cL_law 702 = .ok (.iadd, 1) := by decide +kernel
theorem dL_law_703 : decode cL_law 703 = .ok (.iaload, 1) := by decide +kernel
theorem dL_law_704 : decode cL_law 704 = .ok (.aload_n 0, 1) := by decide +kernel
theorem dL_law_705 : decode cL_law 705 = .ok (.iload_n 3, 1) := by decide +kernel
theorem dL_law_706 : decode cL_law 706 = .ok (.iconst 2, 1) := by decide +kernel
theorem dL_law_707 : decode cL_law 707 = .ok (.iadd, 1) := by decide +kernel
theorem dL_law_708 : decode cL_law 708 = .ok (.iaload, 1) := by decide +kernel
theorem dL_law_709 : decode cL_law 709 = .ok (.aload_n 0, 1) := by decide +kernel
theorem dL_law_710 : decode cL_law 710 = .ok (.iload_n 3, 1) := by decide +kernel
theorem dL_law_711 : decode cL_law 711 = .ok (.iconst 3, 1) := by decide +kernel
theorem dL_law_712 : decode cL_law 712 = .ok (.iadd, 1) := by decide +kernel
theorem dL_law_713 : decode cL_law 713 = .ok (.iaload, 1) := by decide +kernel
theorem dL_law_714 : decode cL_law 714 = .ok (.invokevirtual 83, 3) := by decide +kernel
theorem dL_law_717 : decode cL_law 717 = .ok (.aload_n 2, 1) := by decide +kernel
theorem dL_law_718 : decode cL_law 718 = .ok (.aload_n 0, 1) := by decide +kernel
theorem dL_law_719 : decode cL_law 719 = .ok (.iload_n 3, 1) := by decide +kernel
theorem dL_law_720 : decode cL_law 720 = .ok (.iconst 1, 1) := by decide +kernel
theorem dL_law_721 : decode cL_law 721 = .ok (.iadd, 1) := by decide +kernel
theorem dL_law_722 : decode cL_law 722 = .ok (.iaload, 1) := by decide +kernel
theorem dL_law_723 : decode cL_law 723 = .ok (.aload_n 0, 1) := by decide +kernel
theorem dL_law_724 : decode cL_law 724 = .ok (.iload_n 3, 1) := by decide +kernel
theorem dL_law_725 : decode cL_law 725 = .ok (.iconst 2, 1) := by decide +kernel
theorem dL_law_726 : decode cL_law 726 = .ok (.iadd, 1) := by decide +kernel
theorem dL_law_727 : decode cL_law 727 = .ok (.iaload, 1) := by decide +kernel
theorem dL_law_728 : decode cL_law 728 = .ok (.aload_n 0, 1) := by decide +kernel
theorem dL_law_729 : decode cL_law 729 = .ok (.iload_n 3, 1) := by decide +kernel
theorem dL_law_730 : decode cL_law 730 = .ok (.iconst 3, 1) := by decide +kernel
theorem dL_law_731 : decode cL_law 731 = .ok (.iadd, 1) := by decide +kernel
theorem dL_law_732 : decode cL_law 732 = .ok (.iaload, 1) := by decide +kernel
theorem dL_law_733 : decode cL_law 733 = .ok (.invokevirtual 86, 3) := by decide +kernel
theorem dL_law_736 : decode cL_law 736 = .ok (.if_icmp .eq 368, 3) := by decide +kernel
theorem dL_law_739 : decode cL_law 739 = .ok (.iconst 0, 1) := by decide +kernel
theorem dL_law_740 : decode cL_law 740 = .ok (.ireturn, 1) := by decide +kernel
theorem dL_law_741 : decode cL_law 741 = .ok (.aload_n 1, 1) := by decide +kernel
theorem dL_law_742 : decode cL_law 742 = .ok (.aload_n 0, 1) := by decide +kernel
theorem dL_law_743 : decode cL_law 743 = .ok (.iload_n 3, 1) := by decide +kernel
theorem dL_law_744 : decode cL_law 744 = .ok (.iconst 1, 1) := by decide +kernel
theorem dL_law_745 : decode cL_law 745 = .ok (.iadd, 1) := by decide +kernel
theorem dL_law_746 : decode cL_law 746 = .ok (.iaload, 1) := by decide +kernel
theorem dL_law_747 : decode cL_law 747 = .ok (.invokevirtual 87, 3) := by decide +kernel
theorem dL_law_750 : decode cL_law 750 = .ok (.aload_n 2, 1) := by decide +kernel
theorem dL_law_751 : decode cL_law 751 = .ok (.aload_n 0, 1) := by decide +kernel
theorem dL_law_752 : decode cL_law 752 = .ok (.iload_n 3, 1) := by decide +kernel
theorem dL_law_753 : decode cL_law 753 = .ok (.iconst 1, 1) := by decide +kernel
theorem dL_law_754 : decode cL_law 754 = .ok (.iadd, 1) := by decide +kernel
theorem dL_law_755 : decode cL_law 755 = .ok (.iaload, 1) := by decide +kernel
theorem dL_law_756 : decode cL_law 756 = .ok (.invokevirtual 90, 3) := by decide +kernel
theorem dL_law_759 : decode cL_law 759 = .ok (.if_icmp .eq 345, 3) := by decide +kernel
theorem dL_law_762 : decode cL_law 762 = .ok (.iconst 0, 1) := by decide +kernel
theorem dL_law_763 : decode cL_law 763 = .ok (.ireturn, 1) := by decide +kernel
theorem dL_law_764 : decode cL_law 764 = .ok (.aload_n 1, 1) := by decide +kernel
theorem dL_law_765 : decode cL_law 765 = .ok (.aload_n 0, 1) := by decide +kernel
theorem dL_law_766 : decode cL_law 766 = .ok (.iload_n 3, 1) := by decide +kernel
theorem dL_law_767 : decode cL_law 767 = .ok (.iconst 1, 1) := by decide +kernel
theorem dL_law_768 : decode cL_law 768 = .ok (.iadd, 1) := by decide +kernel
theorem dL_law_769 : decode cL_law 769 = .ok (.iaload, 1) := by decide +kernel
theorem dL_law_770 : decode cL_law 770 = .ok (.aload_n 0, 1) := by decide +kernel
theorem dL_law_771 : decode cL_law 771 = .ok (.iload_n 3, 1) := by decide +kernel
theorem dL_law_772 : decode cL_law 772 = .ok (.iconst 2, 1) := by decide +kernel
theorem dL_law_773 : decode cL_law 773 = .ok (.iadd, 1) := by decide +kernel
theorem dL_law_774 : decode cL_law 774 = .ok (.iaload, 1) := by decide +kernel
theorem dL_law_775 : decode cL_law 775 = .ok (.invokevirtual 91, 3) := by decide +kernel
theorem dL_law_778 : decode cL_law 778 = .ok (.aload_n 2, 1) := by decide +kernel
theorem dL_law_779 : decode cL_law 779 = .ok (.aload_n 0, 1) := by decide +kernel
theorem dL_law_780 : decode cL_law 780 = .ok (.iload_n 3, 1) := by decide +kernel
theorem dL_law_781 : decode cL_law 781 = .ok (.iconst 1, 1) := by decide +kernel
theorem dL_law_782 : decode cL_law 782 = .ok (.iadd, 1) := by decide +kernel
theorem dL_law_783 : decode cL_law 783 = .ok (.iaload, 1) := by decide +kernel
theorem dL_law_784 : decode cL_law 784 = .ok (.aload_n 0, 1) := by decide +kernel
theorem dL_law_785 : decode cL_law 785 = .ok (.iload_n 3, 1) := by decide +kernel
theorem dL_law_786 : decode cL_law 786 = .ok (.iconst 2, 1) := by decide +kernel
theorem dL_law_787 : decode cL_law 787 = .ok (.iadd, 1) := by decide +kernel
theorem dL_law_788 : decode cL_law 788 = .ok (.iaload, 1) := by decide +kernel
theorem dL_law_789 : decode cL_law 789 = .ok (.invokevirtual 94, 3) := by decide +kernel
theorem dL_law_792 : decode cL_law 792 = .ok (.if_icmp .eq 312, 3) := by decide +kernel
theorem dL_law_795 : decode cL_law 795 = .ok (.iconst 0, 1) := by decide +kernel
theorem dL_law_796 : decode cL_law 796 = .ok (.ireturn, 1) := by decide +kernel
theorem dL_law_797 : decode cL_law 797 = .ok (.aload_n 1, 1) := by decide +kernel
theorem dL_law_798 : decode cL_law 798 = .ok (.aload_n 0, 1) := by decide +kernel
theorem dL_law_799 : decode cL_law 799 = .ok (.iload_n 3, 1) := by decide +kernel
theorem dL_law_800 : decode cL_law 800 = .ok (.iconst 1, 1) := by decide +kernel
theorem dL_law_801 : decode cL_law 801 = .ok (.iadd, 1) := by decide +kernel
theorem dL_law_802 : decode cL_law 802 = .ok (.iaload, 1) := by decide +kernel
theorem dL_law_803 : decode cL_law 803 = .ok (.aload_n 0, 1) := by decide +kernel
theorem dL_law_804 : decode cL_law 804 = .ok (.iload_n 3, 1) := by decide +kernel
theorem dL_law_805 : decode cL_law 805 = .ok (.iconst 2, 1) := by decide +kernel
theorem dL_law_806 : decode cL_law 806 = .ok (.iadd, 1) := by decide +kernel
theorem dL_law_807 : decode cL_law 807 = .ok (.iaload, 1) := by decide +kernel
theorem dL_law_808 : decode cL_law 808 = .ok (.invokevirtual 95, 3) := by decide +kernel
theorem dL_law_811 : decode cL_law 811 = .ok (.aload_n 2, 1) := by decide +kernel
theorem dL_law_812 : decode cL_law 812 = .ok (.aload_n 0, 1) := by decide +kernel
theorem dL_law_813 : decode cL_law 813 = .ok (.iload_n 3, 1) := by decide +kernel
theorem dL_law_814 : decode cL_law 814 = .ok (.iconst 1, 1) := by decide +kernel
theorem dL_law_815 : decode cL_law 815 = .ok (.iadd, 1) := by decide +kernel
theorem dL_law_816 : decode cL_law 816 = .ok (.iaload, 1) := by decide +kernel
theorem dL_law_817 : decode cL_law 817 = .ok (.aload_n 0, 1) := by decide +kernel
theorem dL_law_818 : decode cL_law 818 = .ok (.iload_n 3, 1) := by decide +kernel
theorem dL_law_819 : decode cL_law 819 = .ok (.iconst 2, 1) := by decide +kernel
theorem dL_law_820 : decode cL_law 820 = .ok (.iadd, 1) := by decide +kernel
theorem dL_law_821 : decode cL_law 821 = .ok (.iaload, 1) := by decide +kernel
theorem dL_law_822 : decode cL_law 822 = .ok (.invokevirtual 98, 3) := by decide +kernel
theorem dL_law_825 : decode cL_law 825 = .ok (.if_icmp .eq 279, 3) := by decide +kernel
theorem dL_law_828 : decode cL_law 828 = .ok (.iconst 0, 1) := by decide +kernel
theorem dL_law_829 : decode cL_law 829 = .ok (.ireturn, 1) := by decide +kernel
theorem dL_law_830 : decode cL_law 830 = .ok (.aload_n 1, 1) := by decide +kernel
theorem dL_law_831 : decode cL_law 831 = .ok (.aload_n 0, 1) := by decide +kernel
theorem dL_law_832 : decode cL_law 832 = .ok (.iload_n 3, 1) := by decide +kernel
theorem dL_law_833 : decode cL_law 833 = .ok (.iconst 1, 1) := by decide +kernel
theorem dL_law_834 : decode cL_law 834 = .ok (.iadd, 1) := by decide +kernel
theorem dL_law_835 : decode cL_law 835 = .ok (.iaload, 1) := by decide +kernel
theorem dL_law_836 : decode cL_law 836 = .ok (.aload_n 0, 1) := by decide +kernel
theorem dL_law_837 : decode cL_law 837 = .ok (.iload_n 3, 1) := by decide +kernel
theorem dL_law_838 : decode cL_law 838 = .ok (.iconst 2, 1) := by decide +kernel
theorem dL_law_839 : decode cL_law 839 = .ok (.iadd, 1) := by decide +kernel
theorem dL_law_840 : decode cL_law 840 = .ok (.iaload, 1) := by decide +kernel
theorem dL_law_841 : decode cL_law 841 = .ok (.invokevirtual 99, 3) := by decide +kernel
theorem dL_law_844 : decode cL_law 844 = .ok (.aload_n 2, 1) := by decide +kernel
theorem dL_law_845 : decode cL_law 845 = .ok (.aload_n 0, 1) := by decide +kernel
theorem dL_law_846 : decode cL_law 846 = .ok (.iload_n 3, 1) := by decide +kernel
theorem dL_law_847 : decode cL_law 847 = .ok (.iconst 1, 1) := by decide +kernel
theorem dL_law_848 : decode cL_law 848 = .ok (.iadd, 1) := by decide +kernel
theorem dL_law_849 : decode cL_law 849 = .ok (.iaload, 1) := by decide +kernel
theorem dL_law_850 : decode cL_law 850 = .ok (.aload_n 0, 1) := by decide +kernel
theorem dL_law_851 : decode cL_law 851 = .ok (.iload_n 3, 1) := by decide +kernel
theorem dL_law_852 : decode cL_law 852 = .ok (.iconst 2, 1) := by decide +kernel
theorem dL_law_853 : decode cL_law 853 = .ok (.iadd, 1) := by decide +kernel
theorem dL_law_854 : decode cL_law 854 = .ok (.iaload, 1) := by decide +kernel
theorem dL_law_855 : decode cL_law 855 = .ok (.invokevirtual 102, 3) := by decide +kernel
theorem dL_law_858 : decode cL_law 858 = .ok (.if_icmp .eq 246, 3) := by decide +kernel
theorem dL_law_861 : decode cL_law 861 = .ok (.iconst 0, 1) := by decide +kernel
theorem dL_law_862 : decode cL_law 862 = .ok (.ireturn, 1) := by decide +kernel
theorem dL_law_863 : decode cL_law 863 = .ok (.aload_n 1, 1) := by decide +kernel
theorem dL_law_864 : decode cL_law 864 = .ok (.aload_n 0, 1) := by decide +kernel
theorem dL_law_865 : decode cL_law 865 = .ok (.iload_n 3, 1) := by decide +kernel
theorem dL_law_866 : decode cL_law 866 = .ok (.iconst 1, 1) := by decide +kernel
theorem dL_law_867 : decode cL_law 867 = .ok (.iadd, 1) := by decide +kernel
theorem dL_law_868 : decode cL_law 868 = .ok (.iaload, 1) := by decide +kernel
theorem dL_law_869 : decode cL_law 869 = .ok (.aload_n 0, 1) := by decide +kernel
theorem dL_law_870 : decode cL_law 870 = .ok (.iload_n 3, 1) := by decide +kernel
theorem dL_law_871 : decode cL_law 871 = .ok (.iconst 2, 1) := by decide +kernel
theorem dL_law_872 : decode cL_law 872 = .ok (.iadd, 1) := by decide +kernel
theorem dL_law_873 : decode cL_law 873 = .ok (.iaload, 1) := by decide +kernel
theorem dL_law_874 : decode cL_law 874 = .ok (.invokevirtual 103, 3) := by decide +kernel
theorem dL_law_877 : decode cL_law 877 = .ok (.aload_n 2, 1) := by decide +kernel
theorem dL_law_878 : decode cL_law 878 = .ok (.aload_n 0, 1) := by decide +kernel
theorem dL_law_879 : decode cL_law 879 = .ok (.iload_n 3, 1) := by decide +kernel
theorem dL_law_880 : decode cL_law 880 = .ok (.iconst 1, 1) := by decide +kernel
theorem dL_law_881 : decode cL_law 881 = .ok (.iadd, 1) := by decide +kernel
theorem dL_law_882 : decode cL_law 882 = .ok (.iaload, 1) := by decide +kernel
theorem dL_law_883 : decode cL_law 883 = .ok (.aload_n 0, 1) := by decide +kernel
theorem dL_law_884 : decode cL_law 884 = .ok (.iload_n 3, 1) := by decide +kernel
theorem dL_law_885 : decode cL_law 885 = .ok (.iconst 2, 1) := by decide +kernel
theorem dL_law_886 : decode cL_law 886 = .ok (.iadd, 1) := by decide +kernel
theorem dL_law_887 : decode cL_law 887 = .ok (.iaload, 1) := by decide +kernel
theorem dL_law_888 : decode cL_law 888 = .ok (.invokevirtual 106, 3) := by decide +kernel
theorem dL_law_891 : decode cL_law 891 = .ok (.if_icmp .eq 213, 3) := by decide +kernel
theorem dL_law_894 : decode cL_law 894 = .ok (.iconst 0, 1) := by decide +kernel
theorem dL_law_895 : decode cL_law 895 = .ok (.ireturn, 1) := by decide +kernel
theorem dL_law_896 : decode cL_law 896 = .ok (.aload_n 1, 1) := by decide +kernel
theorem dL_law_897 : decode cL_law 897 = .ok (.aload_n 0, 1) := by decide +kernel
theorem dL_law_898 : decode cL_law 898 = .ok (.iload_n 3, 1) := by decide +kernel
theorem dL_law_899 : decode cL_law 899 = .ok (.iconst 1, 1) := by decide +kernel
theorem dL_law_900 : decode cL_law 900 = .ok (.iadd, 1) := by decide +kernel
theorem dL_law_901 : decode cL_law 901 = .ok (.iaload, 1) := by decide +kernel
theorem dL_law_902 : decode cL_law 902 = .ok (.aload_n 0, 1) := by decide +kernel
theorem dL_law_903 : decode cL_law 903 = .ok (.iload_n 3, 1) := by decide +kernel
theorem dL_law_904 : decode cL_law 904 = .ok (.iconst 2, 1) := by decide +kernel
theorem dL_law_905 : decode cL_law 905 = .ok (.iadd, 1) := by decide +kernel
theorem dL_law_906 : decode cL_law 906 = .ok (.iaload, 1) := by decide +kernel
theorem dL_law_907 : decode cL_law 907 = .ok (.invokevirtual 107, 3) := by decide +kernel
theorem dL_law_910 : decode cL_law 910 = .ok (.aload_n 2, 1) := by decide +kernel
theorem dL_law_911 : decode cL_law 911 = .ok (.aload_n 0, 1) := by decide +kernel
theorem dL_law_912 : decode cL_law 912 = .ok (.iload_n 3, 1) := by decide +kernel
theorem dL_law_913 : decode cL_law 913 = .ok (.iconst 1, 1) := by decide +kernel
theorem dL_law_914 : decode cL_law 914 = .ok (.iadd, 1) := by decide +kernel
theorem dL_law_915 : decode cL_law 915 = .ok (.iaload, 1) := by decide +kernel
theorem dL_law_916 : decode cL_law 916 = .ok (.aload_n 0, 1) := by decide +kernel
theorem dL_law_917 : decode cL_law 917 = .ok (.iload_n 3, 1) := by decide +kernel
theorem dL_law_918 : decode cL_law 918 = .ok (.iconst 2, 1) := by decide +kernel
theorem dL_law_919 : decode cL_law 919 = .ok (.iadd, 1) := by decide +kernel
theorem dL_law_920 : decode cL_law 920 = .ok (.iaload, 1) := by decide +kernel
theorem dL_law_921 : decode cL_law 921 = .ok (.invokevirtual 110, 3) := by decide +kernel
theorem dL_law_924 : decode cL_law 924 = .ok (.if_icmp .eq 180, 3) := by decide +kernel
theorem dL_law_927 : decode cL_law 927 = .ok (.iconst 0, 1) := by decide +kernel
theorem dL_law_928 : decode cL_law 928 = .ok (.ireturn, 1) := by decide +kernel
theorem dL_law_929 : decode cL_law 929 = .ok (.aload_n 1, 1) := by decide +kernel
theorem dL_law_930 : decode cL_law 930 = .ok (.aload_n 0, 1) := by decide +kernel
theorem dL_law_931 : decode cL_law 931 = .ok (.iload_n 3, 1) := by decide +kernel
theorem dL_law_932 : decode cL_law 932 = .ok (.iconst 1, 1) := by decide +kernel
theorem dL_law_933 : decode cL_law 933 = .ok (.iadd, 1) := by decide +kernel
theorem dL_law_934 : decode cL_law 934 = .ok (.iaload, 1) := by decide +kernel
theorem dL_law_935 : decode cL_law 935 = .ok (.aload_n 0, 1) := by decide +kernel
theorem dL_law_936 : decode cL_law 936 = .ok (.iload_n 3, 1) := by decide +kernel
theorem dL_law_937 : decode cL_law 937 = .ok (.iconst 2, 1) := by decide +kernel
theorem dL_law_938 : decode cL_law 938 = .ok (.iadd, 1) := by decide +kernel
theorem dL_law_939 : decode cL_law 939 = .ok (.iaload, 1) := by decide +kernel
theorem dL_law_940 : decode cL_law 940 = .ok (.aload_n 0, 1) := by decide +kernel
theorem dL_law_941 : decode cL_law 941 = .ok (.iload_n 3, 1) := by decide +kernel
theorem dL_law_942 : decode cL_law 942 = .ok (.iconst 3, 1) := by decide +kernel
theorem dL_law_943 : decode cL_law 943 = .ok (.iadd, 1) := by decide +kernel
theorem dL_law_944 : decode cL_law 944 = .ok (.iaload, 1) := by decide +kernel
theorem dL_law_945 : decode cL_law 945 = .ok (.invokevirtual 111, 3) := by decide +kernel
theorem dL_law_948 : decode cL_law 948 = .ok (.aload_n 2, 1) := by decide +kernel
theorem dL_law_949 : decode cL_law 949 = .ok (.aload_n 0, 1) := by decide +kernel
theorem dL_law_950 : decode cL_law 950 = .ok (.iload_n 3, 1) := by decide +kernel
theorem dL_law_951 : decode cL_law 951 = .ok (.iconst 1, 1) := by decide +kernel
theorem dL_law_952 : decode cL_law 952 = .ok (.iadd, 1) := by decide +kernel
theorem dL_law_953 : decode cL_law 953 = .ok (.iaload, 1) := by decide +kernel
theorem dL_law_954 : decode cL_law 954 = .ok (.aload_n 0, 1) := by decide +kernel
theorem dL_law_955 : decode cL_law 955 = .ok (.iload_n 3, 1) := by decide +kernel
theorem dL_law_956 : decode cL_law 956 = .ok (.iconst 2, 1) := by decide +kernel
theorem dL_law_957 : decode cL_law 957 = .ok (.iadd, 1) := by decide +kernel
theorem dL_law_958 : decode cL_law 958 = .ok (.iaload, 1) := by decide +kernel
theorem dL_law_959 : decode cL_law 959 = .ok (.aload_n 0, 1) := by decide +kernel
theorem dL_law_960 : decode cL_law 960 = .ok (.iload_n 3, 1) := by decide +kernel
theorem dL_law_961 : decode cL_law 961 = .ok (.iconst 3, 1) := by decide +kernel
theorem dL_law_962 : decode cL_law 962 = .ok (.iadd, 1) := by decide +kernel
theorem dL_law_963 : decode cL_law 963 = .ok (.iaload, 1) := by decide +kernel
theorem dL_law_964 : decode cL_law 964 = .ok (.invokevirtual 114, 3) := by decide +kernel
theorem dL_law_967 : decode cL_law 967 = .ok (.if_icmp .eq 137, 3) := by decide +kernel
theorem dL_law_970 : decode cL_law 970 = .ok (.iconst 0, 1) := by decide +kernel
theorem dL_law_971 : decode cL_law 971 = .ok (.ireturn, 1) := by decide +kernel
theorem dL_law_972 : decode cL_law 972 = .ok (.aload_n 1, 1) := by decide +kernel
theorem dL_law_973 : decode cL_law 973 = .ok (.aload_n 0, 1) := by decide +kernel
theorem dL_law_974 : decode cL_law 974 = .ok (.iload_n 3, 1) := by decide +kernel
theorem dL_law_975 : decode cL_law 975 = .ok (.iconst 1, 1) := by decide +kernel
theorem dL_law_976 : decode cL_law 976 = .ok (.iadd, 1) := by decide +kernel
theorem dL_law_977 : decode cL_law 977 = .ok (.iaload, 1) := by decide +kernel
theorem dL_law_978 : decode cL_law 978 = .ok (.aload_n 0, 1) := by decide +kernel
theorem dL_law_979 : decode cL_law 979 = .ok (.iload_n 3, 1) := by decide +kernel
theorem dL_law_980 : decode cL_law 980 = .ok (.iconst 2, 1) := by decide +kernel
theorem dL_law_981 : decode cL_law 981 = .ok (.iadd, 1) := by decide +kernel
theorem dL_law_982 : decode cL_law 982 = .ok (.iaload, 1) := by decide +kernel
theorem dL_law_983 : decode cL_law 983 = .ok (.invokevirtual 115, 3) := by decide +kernel
theorem dL_law_986 : decode cL_law 986 = .ok (.aload_n 2, 1) := by decide +kernel
theorem dL_law_987 : decode cL_law 987 = .ok (.aload_n 0, 1) := by decide +kernel
theorem dL_law_988 : decode cL_law 988 = .ok (.iload_n 3, 1) := by decide +kernel
theorem dL_law_989 : decode cL_law 989 = .ok (.iconst 1, 1) := by decide +kernel
theorem dL_law_990 : decode cL_law 990 = .ok (.iadd, 1) := by decide +kernel
theorem dL_law_991 : decode cL_law 991 = .ok (.iaload, 1) := by decide +kernel
theorem dL_law_992 : decode cL_law 992 = .ok (.aload_n 0, 1) := by decide +kernel
theorem dL_law_993 : decode cL_law 993 = .ok (.iload_n 3, 1) := by decide +kernel
theorem dL_law_994 : decode cL_law 994 = .ok (.iconst 2, 1) := by decide +kernel
theorem dL_law_995 : decode cL_law 995 = .ok (.iadd, 1) := by decide +kernel
theorem dL_law_996 : decode cL_law 996 = .ok (.iaload, 1) := by decide +kernel
theorem dL_law_997 : decode cL_law 997 = .ok (.invokevirtual 118, 3) := by decide +kernel
theorem dL_law_1000 : decode cL_law 1000 = .ok (.if_icmp .eq 104, 3) := by decide +kernel
theorem dL_law_1003 : decode cL_law 1003 = .ok (.iconst 0, 1) := by decide +kernel
theorem dL_law_1004 : decode cL_law 1004 = .ok (.ireturn, 1) := by decide +kernel
theorem dL_law_1005 : decode cL_law 1005 = .ok (.aload_n 1, 1) := by decide +kernel
theorem dL_law_1006 : decode cL_law 1006 = .ok (.aload_n 0, 1) := by decide +kernel
theorem dL_law_1007 : decode cL_law 1007 = .ok (.iload_n 3, 1) := by decide +kernel
theorem dL_law_1008 : decode cL_law 1008 = .ok (.iconst 1, 1) := by decide +kernel
theorem dL_law_1009 : decode cL_law 1009 = .ok (.iadd, 1) := by decide +kernel
theorem dL_law_1010 : decode cL_law 1010 = .ok (.iaload, 1) := by decide +kernel
theorem dL_law_1011 : decode cL_law 1011 = .ok (.aload_n 0, 1) := by decide +kernel
theorem dL_law_1012 : decode cL_law 1012 = .ok (.iload_n 3, 1) := by decide +kernel
theorem dL_law_1013 : decode cL_law 1013 = .ok (.iconst 2, 1) := by decide +kernel
theorem dL_law_1014 : decode cL_law 1014 = .ok (.iadd, 1) := by decide +kernel
theorem dL_law_1015 : decode cL_law 1015 = .ok (.iaload, 1) := by decide +kernel
theorem dL_law_1016 : decode cL_law 1016 = .ok (.aload_n 0, 1) := by decide +kernel
theorem dL_law_1017 : decode cL_law 1017 = .ok (.iload_n 3, 1) := by decide +kernel
theorem dL_law_1018 : decode cL_law 1018 = .ok (.iconst 3, 1) := by decide +kernel
theorem dL_law_1019 : decode cL_law 1019 = .ok (.iadd, 1) := by decide +kernel
theorem dL_law_1020 : decode cL_law 1020 = .ok (.iaload, 1) := by decide +kernel
theorem dL_law_1021 : decode cL_law 1021 = .ok (.aload_n 0, 1) := by decide +kernel
theorem dL_law_1022 : decode cL_law 1022 = .ok (.iload_n 3, 1) := by decide +kernel
theorem dL_law_1023 : decode cL_law 1023 = .ok (.iconst 4, 1) := by decide +kernel
theorem dL_law_1024 : decode cL_law 1024 = .ok (.iadd, 1) := by decide +kernel
theorem dL_law_1025 : decode cL_law 1025 = .ok (.iaload, 1) := by decide +kernel
theorem dL_law_1026 : decode cL_law 1026 = .ok (.invokevirtual 119, 3) := by decide +kernel
theorem dL_law_1029 : decode cL_law 1029 = .ok (.aload_n 2, 1) := by decide +kernel
theorem dL_law_1030 : decode cL_law 1030 = .ok (.aload_n 0, 1) := by decide +kernel
theorem dL_law_1031 : decode cL_law 1031 = .ok (.iload_n 3, 1) := by decide +kernel
theorem dL_law_1032 : decode cL_law 1032 = .ok (.iconst 1, 1) := by decide +kernel
theorem dL_law_1033 : decode cL_law 1033 = .ok (.iadd, 1) := by decide +kernel
theorem dL_law_1034 : decode cL_law 1034 = .ok (.iaload, 1) := by decide +kernel
theorem dL_law_1035 : decode cL_law 1035 = .ok (.aload_n 0, 1) := by decide +kernel
theorem dL_law_1036 : decode cL_law 1036 = .ok (.iload_n 3, 1) := by decide +kernel
theorem dL_law_1037 : decode cL_law 1037 = .ok (.iconst 2, 1) := by decide +kernel
theorem dL_law_1038 : decode cL_law 1038 = .ok (.iadd, 1) := by decide +kernel
theorem dL_law_1039 : decode cL_law 1039 = .ok (.iaload, 1) := by decide +kernel
theorem dL_law_1040 : decode cL_law 1040 = .ok (.aload_n 0, 1) := by decide +kernel
theorem dL_law_1041 : decode cL_law 1041 = .ok (.iload_n 3, 1) := by decide +kernel
theorem dL_law_1042 : decode cL_law 1042 = .ok (.iconst 3, 1) := by decide +kernel
theorem dL_law_1043 : decode cL_law 1043 = .ok (.iadd, 1) := by decide +kernel
theorem dL_law_1044 : decode cL_law 1044 = .ok (.iaload, 1) := by decide +kernel
theorem dL_law_1045 : decode cL_law 1045 = .ok (.aload_n 0, 1) := by decide +kernel
theorem dL_law_1046 : decode cL_law 1046 = .ok (.iload_n 3, 1) := by decide +kernel
theorem dL_law_1047 : decode cL_law 1047 = .ok (.iconst 4, 1) := by decide +kernel
theorem dL_law_1048 : decode cL_law 1048 = .ok (.iadd, 1) := by decide +kernel
theorem dL_law_1049 : decode cL_law 1049 = .ok (.iaload, 1) := by decide +kernel
theorem dL_law_1050 : decode cL_law 1050 = .ok (.invokevirtual 123, 3) := by decide +kernel
theorem dL_law_1053 : decode cL_law 1053 = .ok (.if_icmp .eq 51, 3) := by decide +kernel
theorem dL_law_1056 : decode cL_law 1056 = .ok (.iconst 0, 1) := by decide +kernel
theorem dL_law_1057 : decode cL_law 1057 = .ok (.ireturn, 1) := by decide +kernel
theorem dL_law_1058 : decode cL_law 1058 = .ok (.aload_n 1, 1) := by decide +kernel
theorem dL_law_1059 : decode cL_law 1059 = .ok (.aload_n 0, 1) := by decide +kernel
theorem dL_law_1060 : decode cL_law 1060 = .ok (.iload_n 3, 1) := by decide +kernel
theorem dL_law_1061 : decode cL_law 1061 = .ok (.iconst 1, 1) := by decide +kernel
theorem dL_law_1062 : decode cL_law 1062 = .ok (.iadd, 1) := by decide +kernel
theorem dL_law_1063 : decode cL_law 1063 = .ok (.iaload, 1) := by decide +kernel
theorem dL_law_1064 : decode cL_law 1064 = .ok (.aload_n 0, 1) := by decide +kernel
theorem dL_law_1065 : decode cL_law 1065 = .ok (.iload_n 3, 1) := by decide +kernel
theorem dL_law_1066 : decode cL_law 1066 = .ok (.iconst 2, 1) := by decide +kernel
theorem dL_law_1067 : decode cL_law 1067 = .ok (.iadd, 1) := by decide +kernel
theorem dL_law_1068 : decode cL_law 1068 = .ok (.iaload, 1) := by decide +kernel
theorem dL_law_1069 : decode cL_law 1069 = .ok (.invokevirtual 124, 3) := by decide +kernel
theorem dL_law_1072 : decode cL_law 1072 = .ok (.aload_n 2, 1) := by decide +kernel
theorem dL_law_1073 : decode cL_law 1073 = .ok (.aload_n 0, 1) := by decide +kernel
theorem dL_law_1074 : decode cL_law 1074 = .ok (.iload_n 3, 1) := by decide +kernel
theorem dL_law_1075 : decode cL_law 1075 = .ok (.iconst 1, 1) := by decide +kernel
theorem dL_law_1076 : decode cL_law 1076 = .ok (.iadd, 1) := by decide +kernel
theorem dL_law_1077 : decode cL_law 1077 = .ok (.iaload, 1) := by decide +kernel
theorem dL_law_1078 : decode cL_law 1078 = .ok (.aload_n 0, 1) := by decide +kernel
theorem dL_law_1079 : decode cL_law 1079 = .ok (.iload_n 3, 1) := by decide +kernel
theorem dL_law_1080 : decode cL_law 1080 = .ok (.iconst 2, 1) := by decide +kernel
theorem dL_law_1081 : decode cL_law 1081 = .ok (.iadd, 1) := by decide +kernel
theorem dL_law_1082 : decode cL_law 1082 = .ok (.iaload, 1) := by decide +kernel
theorem dL_law_1083 : decode cL_law 1083 = .ok (.invokevirtual 127, 3) := by decide +kernel
theorem dL_law_1086 : decode cL_law 1086 = .ok (.if_icmp .eq 18, 3) := by decide +kernel
theorem dL_law_1089 : decode cL_law 1089 = .ok (.iconst 0, 1) := by decide +kernel
theorem dL_law_1090 : decode cL_law 1090 = .ok (.ireturn, 1) := by decide +kernel
theorem dL_law_1091 : decode cL_law 1091 = .ok (.aload_n 1, 1) := by decide +kernel
theorem dL_law_1092 : decode cL_law 1092 = .ok (.invokevirtual 128, 3) := by decide +kernel
theorem dL_law_1095 : decode cL_law 1095 = .ok (.aload_n 2, 1) := by decide +kernel
theorem dL_law_1096 : decode cL_law 1096 = .ok (.invokevirtual 131, 3) := by decide +kernel
theorem dL_law_1099 : decode cL_law 1099 = .ok (.if_icmp .eq 5, 3) := by decide +kernel
theorem dL_law_1102 : decode cL_law 1102 = .ok (.iconst 0, 1) := by decide +kernel
theorem dL_law_1103 : decode cL_law 1103 = .ok (.ireturn, 1) := by decide +kernel
theorem dL_law_1104 : decode cL_law 1104 = .ok (.iinc 3 6, 3) := by decide +kernel
theorem dL_law_1107 : decode cL_law 1107 = .ok (.goto (-1089), 3) := by decide +kernel
theorem dL_law_1110 : decode cL_law 1110 = .ok (.iconst 1, 1) := by decide +kernel
theorem dL_law_1111 : decode cL_law 1111 = .ok (.ireturn, 1) := by decide +kernel
end
section
def WT : List Cond := lw_tbl.filter goodWord
theorem wt_of {w : Cond} (i : Nat) (h : lw_tbl[i]? = some w) (g : goodWord w = true) : w ∈ WT := List.mem_filter.mpr ⟨List.mem_of_getElem? h, g⟩
theorem wt_good : ∀ w ∈ WT, (w.onTables && w.keeps) = true ∨ ∃ ty, w = .arrayClass ty := fun _ h => good_of_word (List.mem_filter.mp h).2
def nwOK (w : Cond) : Prop := w.onTables = true ∧ ∀ s U : State, s.WarmedH U.vm → va_Nw w s → va_Nw w U
theorem nwC (C T : String) : nwOK (.castable C T) := ⟨rfl, fun _ _ hW h => va_Nw.warmC hW h⟩
theorem nwD (x : MethodName) : nwOK (.declares x) := ⟨rfl, fun _ _ hW h => va_Nw.warmD hW h⟩
theorem nwM (a : String) (i : Nat) (x : MethodName) (hs : String) : nwOK (.methodLinkNest a i x hs) := ⟨rfl, fun _ _ hW h => va_Nw.warmM hW h⟩
def NWs : List Cond := [.castable "[I" "java/lang/Cloneable", .castable "ManyPens$Put" "ManyPens$Slip", .castable "ManyPens$Strike" "ManyPens$Slip", .castable "ManyPens$Mark" "ManyPens$Slip", .castable "ManyPens$Undo" "ManyPens$Slip", .declares ⟨"ManyPens$Slip", "howManyNeeds", "()I"⟩, .declares ⟨"ManyPens$Slip", "need", "(I)I"⟩, .declares ⟨"ManyPens$Slip", "kind", "()I"⟩, .declares ⟨"ManyPens$Slip", "size", "()I"⟩, .declares ⟨"ManyPens$Slip", "nameOf", "(I)I"⟩, .methodLinkNest "ManyPens" 13 ⟨"ManyPens$Book", "<init>", "()V"⟩ "ManyPens", .methodLinkNest "ManyPens$Reading" 148 ⟨"ManyPens", "putOf", "(I)I"⟩ "ManyPens", .methodLinkNest "ManyPens$Book" 42 ⟨"ManyPens", "putOf", "(I)I"⟩ "ManyPens", .methodLinkNest "ManyPens$Mark" 32 ⟨"ManyPens", "putOf", "(I)I"⟩ "ManyPens", .methodLinkNest "ManyPens$Put" 22 ⟨"ManyPens", "putOf", "(I)I"⟩ "ManyPens", .methodLinkNest "ManyPens$Strike" 19 ⟨"ManyPens", "putOf", "(I)I"⟩ "ManyPens"]
theorem NWs_ok : ∀ w ∈ NWs, nwOK w := List.forall_mem_cons.mpr ⟨nwC _ _, List.forall_mem_cons.mpr ⟨nwC _ _, List.forall_mem_cons.mpr ⟨nwC _ _, List.forall_mem_cons.mpr ⟨nwC _ _, List.forall_mem_cons.mpr ⟨nwC _ _, List.forall_mem_cons.mpr ⟨nwD _, List.forall_mem_cons.mpr ⟨nwD _, List.forall_mem_cons.mpr ⟨nwD _, List.forall_mem_cons.mpr ⟨nwD _, List.forall_mem_cons.mpr ⟨nwD _, List.forall_mem_cons.mpr ⟨nwM _ _ _ _, List.forall_mem_cons.mpr ⟨nwM _ _ _ _, List.forall_mem_cons.mpr ⟨nwM _ _ _ _, List.forall_mem_cons.mpr ⟨nwM _ _ _ _, List.forall_mem_cons.mpr ⟨nwM _ _ _ _, List.forall_mem_cons.mpr ⟨nwM _ _ _ _, fun _ h => absurd h List.not_mem_nil⟩⟩⟩⟩⟩⟩⟩⟩⟩⟩⟩⟩⟩⟩⟩⟩
theorem NWs_in : ∀ w ∈ NWs, w ∈ lw_tbl := by decide +kernel
def NCs : List (String × String) := [("ManyPens$Put", "ManyPens$Strike"), ("ManyPens$Put", "ManyPens$Mark"), ("ManyPens$Put", "ManyPens$Undo"), ("ManyPens$Strike", "ManyPens$Put"), ("ManyPens$Strike", "ManyPens$Mark"), ("ManyPens$Strike", "ManyPens$Undo"), ("ManyPens$Mark", "ManyPens$Put"), ("ManyPens$Mark", "ManyPens$Strike"), ("ManyPens$Mark", "ManyPens$Undo"), ("ManyPens$Undo", "ManyPens$Put"), ("ManyPens$Undo", "ManyPens$Strike"), ("ManyPens$Undo", "ManyPens$Mark")]
end
section
/-! THE LAYER: G Z J E Q pc ls st ws k n: the machine at pc of the method J, locals ls, stack st, world ws, k cells of n slots made so far, comes to Q. All of the machine is hidden in it; a row an instruction. -/
abbrev LZ : Type := va_G × (Nat → ClassId)
def tyZ (Z : LZ) : List (ClassId × FieldType) := [(Z.2 0, .int), (Z.2 1, .boolean), (Z.2 2, .object "ManyPens$Slip"), (Z.2 3, .object "ManyPens$Sheet")]
theorem wt_GI : GoodIn WT WT := fun w h => ⟨h, wt_good w h⟩
theorem wt_GI_cons {w : Cond} {l : List Cond} (h : w ∈ WT) (hl : GoodIn WT l) : GoodIn WT (w :: l) := fun v hv => (List.mem_cons.mp hv).elim (fun e => e ▸ ⟨h, wt_good w h⟩) (hl v)
def EnvZ (Z : LZ) (U : State) : Prop := va_K Z.1 vwCl (tyZ Z) U ∧ (∀ w ∈ NWs, va_Nw w U) ∧ (∀ q ∈ NCs, va_Nc q.1 q.2 U) ∧ va_AO "ManyPens$Slip" U ∧ va_AO "ManyPens$Sheet" U
theorem EnvZ.warm {Z : LZ} {s U : State} (h : EnvZ Z s) (hW : s.WarmedH U.vm) : EnvZ Z U :=
  ⟨va_K.moved hW.alike h.1, fun w hw => (NWs_ok w hw).2 s U hW (h.2.1 w hw), fun q hq => (h.2.2.1 q hq).moved hW.alike, h.2.2.2.1.moved hW.alike, h.2.2.2.2.moved hW.alike⟩
theorem EnvZ.same {Z : LZ} {s U : State} (h : EnvZ Z s) (hv : s.vm = U.vm) : EnvZ Z U :=
  ⟨va_K.moved (by rw [← hv]; exact Vm.Alike.refl s.vm) h.1, fun w hw => va_Nw.same (NWs_ok w hw).1 hv (h.2.1 w hw), fun q hq => (h.2.2.1 q hq).moved (by rw [← hv]; exact Vm.Alike.refl s.vm), h.2.2.2.1.moved (by rw [← hv]; exact Vm.Alike.refl s.vm), h.2.2.2.2.moved (by rw [← hv]; exact Vm.Alike.refl s.vm)⟩
abbrev MD : Type := MethodName × ByteArray × Nat × Option FieldType × Jvm.Room
def Cx (Z : LZ) (J : MD) (p : Program) (s : State) (m : MethodId) (args : Array Value) (meth : Method) (c : Code) (A : Nat → Prop) : Prop :=
  p.tables.exec = Jvm.exec ∧ c.code = J.2.1 ∧ c.maxLocals = J.2.2.1 ∧ meth.sig.returnType = J.2.2.2.1 ∧ meth.locks = false ∧ s.vm.findClass J.1.cls = some m.cls ∧ meth.name = J.1.name ∧ (∀ w ∈ WT, w.before args s = true) ∧ EnvZ Z s ∧ ∀ q : Nat, s.heap.size ≤ q → A q
section CxP
variable {Z : LZ} {J : MD} {p : Program} {s : State} {m : MethodId} {args : Array Value} {meth : Method} {c : Code} {A : Nat → Prop}
theorem Cx.ex (h : Cx Z J p s m args meth c A) : p.tables.exec = Jvm.exec := h.1
theorem Cx.by (h : Cx Z J p s m args meth c A) : c.code = J.2.1 := h.2.1
theorem Cx.ml (h : Cx Z J p s m args meth c A) : c.maxLocals = J.2.2.1 := h.2.2.1
theorem Cx.rt (h : Cx Z J p s m args meth c A) : meth.sig.returnType = J.2.2.2.1 := h.2.2.2.1
theorem Cx.lk (h : Cx Z J p s m args meth c A) : meth.locks = false := h.2.2.2.2.1
theorem Cx.ow (h : Cx Z J p s m args meth c A) : s.vm.findClass J.1.cls = some m.cls := h.2.2.2.2.2.1
theorem Cx.nm (h : Cx Z J p s m args meth c A) : meth.name = J.1.name := h.2.2.2.2.2.2.1
theorem Cx.ts (h : Cx Z J p s m args meth c A) : ∀ w ∈ WT, w.before args s = true := h.2.2.2.2.2.2.2.1
theorem Cx.en (h : Cx Z J p s m args meth c A) : EnvZ Z s := h.2.2.2.2.2.2.2.2.1
theorem Cx.kk (h : Cx Z J p s m args meth c A) : va_K Z.1 vwCl (tyZ Z) s := h.en.1
theorem Cx.hA (h : Cx Z J p s m args meth c A) : ∀ q : Nat, s.heap.size ≤ q → A q := h.2.2.2.2.2.2.2.2.2
end CxP
/-! locals by their places -/
def sto : List Value → Nat → Value → List Value
  | [], _, v => [v]
  | _ :: t, 0, v => v :: t
  | x :: t, i + 1, v => x :: sto t i v
theorem sto_get : ∀ (ls : List Value) (i : Nat) (x : Value), i ≤ ls.length → ∀ (j : Nat) (v : Value), (sto ls i x)[j]? = some v → (j = i ∧ v = x) ∨ (j ≠ i ∧ ls[j]? = some v) := by
  intro ls
  induction ls with
  | nil =>
    intro i x hi j v h
    have hi0 : i = 0 := by simpa using hi
    subst hi0
    cases j with
    | zero => left; simp [sto] at h; exact ⟨rfl, h.symm⟩
    | succ j => simp [sto] at h
  | cons y t ih =>
    intro i x hi j v h
    cases i with
    | zero =>
      cases j with
      | zero => left; simp [sto] at h; exact ⟨rfl, h.symm⟩
      | succ j => right; simp [sto] at h; exact ⟨by omega, by simpa using h⟩
    | succ i =>
      cases j with
      | zero => right; simp [sto] at h; exact ⟨by omega, by simpa using h⟩
      | succ j =>
        have h' : (sto t i x)[j]? = some v := by simpa [sto] using h
        rcases ih i x (by simpa using hi) j v h' with ⟨h1, h2⟩ | ⟨h1, h2⟩
        · left; exact ⟨by omega, h2⟩
        · right; exact ⟨by omega, by simpa using h2⟩
def LH (lsA : Array Slot) (nL : Nat) (ls : List Value) : Prop := ∃ l, lv_has lsA nL l ∧ ∀ (i : Nat) (v : Value), ls[i]? = some v → (i, v) ∈ l ∧ v.category = 1
theorem LH.get {lsA : Array Slot} {nL : Nat} {ls : List Value} (h : LH lsA nL ls) {i : Nat} {v : Value} (hi : ls[i]? = some v) : lsA[i]? = some (.val v) := by
  obtain ⟨l, h1, h2⟩ := h
  exact h1.2.2 (i, v) (h2 i v hi).1
theorem LH.size {lsA : Array Slot} {nL : Nat} {ls : List Value} (h : LH lsA nL ls) : lsA.size = nL := by
  obtain ⟨l, h1, h2⟩ := h
  exact h1.1
theorem LH.put {l : List (Nat × Value)} {ls : List Value} {i : Nat} {x : Value} (h : ∀ (i : Nat) (v : Value), ls[i]? = some v → (i, v) ∈ l ∧ v.category = 1) (hi : i ≤ ls.length) (hx : x.category = 1) :
    ∀ (j : Nat) (v : Value), (sto ls i x)[j]? = some v → (j, v) ∈ ((i, x) :: l.filter (fun q => !(q.1 == i) && !(q.1 + 1 == i && q.2.category == 2))) ∧ v.category = 1 := by
  intro j v hv
  rcases sto_get ls i x hi j v hv with ⟨rfl, rfl⟩ | ⟨hne, hl⟩
  · exact ⟨List.mem_cons_self, hx⟩
  · obtain ⟨h1, h2⟩ := h j v hl
    refine ⟨List.mem_cons_of_mem _ (List.mem_filter.mpr ⟨h1, ?_⟩), h2⟩
    simp [hne, h2]
theorem lv_args_mem : ∀ (vs : List Value) (b : Nat), (∀ v ∈ vs, v.category = 1) → ∀ (i : Nat) (v : Value), vs[i]? = some v → (b + i, v) ∈ lv_args b vs := by
  intro vs
  induction vs with
  | nil => intro b _ i v h; simp at h
  | cons y t ih =>
    intro b hc i v h
    have hy : ¬ y.category = 2 := by have := hc y List.mem_cons_self; omega
    simp only [lv_args, if_neg hy]
    cases i with
    | zero => simp at h; subst h; exact List.mem_cons_self
    | succ i =>
      have := ih (b + 1) (fun v hv => hc v (List.mem_cons_of_mem _ hv)) i v (by simpa using h)
      rw [show b + (i + 1) = b + 1 + i by omega]
      exact List.mem_cons_of_mem _ this
theorem lg_sl_len : ∀ (vs : List Value), (∀ v ∈ vs, v.category = 1) → (lg_sl vs).length = vs.length := by
  intro vs
  induction vs with
  | nil => intro _; rfl
  | cons y t ih =>
    intro hc
    have hy : y.category = 1 := hc y List.mem_cons_self
    have := ih (fun v hv => hc v (List.mem_cons_of_mem _ hv))
    simp [lg_sl, hy] at this ⊢
    exact this
theorem LH.entry (vs : List Value) (n : Nat) (hc : ∀ v ∈ vs, v.category = 1) (hn : vs.length ≤ n) : LH ((lg_sl vs ++ List.replicate (n - (lg_sl vs).length) Slot.unset).toArray) n vs := by
  refine ⟨lv_args 0 vs, lv_entry vs (by rw [lg_sl_len vs hc]; exact hn), fun i v h => ⟨?_, hc v (List.mem_of_getElem? h)⟩⟩
  have := lv_args_mem vs 0 hc i v h
  rwa [Nat.zero_add] at this
def G (Z : LZ) (J : MD) (E : State → Array Value → (Nat → Prop) → Prop) (Q : List Frame → Array Value → State → (Nat → Prop) → State → Prop) (pc : Nat) (ls st : List Value) (ws : va_W) (k n : Nat) : Prop :=
  ∀ (p : Program) (l : Launch) (e : Env) (s : State) (m : MethodId) (args : Array Value) (below : List Frame) (meth : Method) (c : Code) (A : Nat → Prop) (H : Heap) (locs : List Loc) (lsA : Array Slot),
    Cx Z J p s m args meth c A → E s args A → va_P Z.1 vwCl ws H → va_D A ws → va_S A s.heap H locs → LH lsA J.2.2.1 ls →
    W p l e J.2.2.2.2 s m args below meth c H locs k n (Q below args s A) (F0 m pc lsA st)
section Rows
variable {Z : LZ} {J : MD} {E : State → Array Value → (Nat → Prop) → Prop} {Q : List Frame → Array Value → State → (Nat → Prop) → State → Prop} {pc : Nat} {ls st : List Value} {ws : va_W} {k n : Nat}
theorem g_iconst {i : Int} (v : Int32) (d : decode J.2.1 pc = .ok (.iconst i, 1)) (hv : Int32.ofInt i = v) (K : G Z J E Q (pc + 1) ls (.int v :: st) ws k n) : G Z J E Q pc ls (st) ws k n := by
  intro p l e s m args below meth c A H locs lsA C hE hP hD hS hL
  exact lv_iconst C.ex C.by d hv (K p l e s m args below meth c A H locs lsA C hE hP hD hS hL)
theorem g_bipush {i : Int} (v : Int32) (d : decode J.2.1 pc = .ok (.bipush i, 2)) (hv : (Int8.ofInt i).toInt32 = v) (K : G Z J E Q (pc + 2) ls (.int v :: st) ws k n) : G Z J E Q pc ls (st) ws k n := by
  intro p l e s m args below meth c A H locs lsA C hE hP hD hS hL
  exact lv_bipush C.ex C.by d hv (K p l e s m args below meth c A H locs lsA C hE hP hD hS hL)
theorem g_sipush {i : Int} (v : Int32) (d : decode J.2.1 pc = .ok (.sipush i, 3)) (hv : (Int16.ofInt i).toInt32 = v) (K : G Z J E Q (pc + 3) ls (.int v :: st) ws k n) : G Z J E Q pc ls (st) ws k n := by
  intro p l e s m args below meth c A H locs lsA C hE hP hD hS hL
  exact lv_sipush C.ex C.by d hv (K p l e s m args below meth c A H locs lsA C hE hP hD hS hL)
theorem g_iload_n {j : Fin 4} (i : Nat) {x : Int32} (d : decode J.2.1 pc = .ok (.iload_n j, 1)) (hi : (j : Nat) = i) (hl : ls[i]? = some (.int x)) (K : G Z J E Q (pc + 1) ls (.int x :: st) ws k n) : G Z J E Q pc ls (st) ws k n := by
  intro p l e s m args below meth c A H locs lsA C hE hP hD hS hL
  exact lv_iload_n C.ex C.by d hi (hL.get hl) (K p l e s m args below meth c A H locs lsA C hE hP hD hS hL)
theorem g_iload {i : Nat} {x : Int32} (d : decode J.2.1 pc = .ok (.iload i, 2)) (hl : ls[i]? = some (.int x)) (K : G Z J E Q (pc + 2) ls (.int x :: st) ws k n) : G Z J E Q pc ls (st) ws k n := by
  intro p l e s m args below meth c A H locs lsA C hE hP hD hS hL
  exact lv_iload C.ex C.by d (hL.get hl) (K p l e s m args below meth c A H locs lsA C hE hP hD hS hL)
theorem g_aload_n {j : Fin 4} (i : Nat) {x : Nat} (d : decode J.2.1 pc = .ok (.aload_n j, 1)) (hi : (j : Nat) = i) (hl : ls[i]? = some (.ref x)) (K : G Z J E Q (pc + 1) ls (.ref x :: st) ws k n) : G Z J E Q pc ls (st) ws k n := by
  intro p l e s m args below meth c A H locs lsA C hE hP hD hS hL
  exact lv_aload_n C.ex C.by d hi (hL.get hl) (K p l e s m args below meth c A H locs lsA C hE hP hD hS hL)
theorem g_aload {i : Nat} {x : Nat} (d : decode J.2.1 pc = .ok (.aload i, 2)) (hl : ls[i]? = some (.ref x)) (K : G Z J E Q (pc + 2) ls (.ref x :: st) ws k n) : G Z J E Q pc ls (st) ws k n := by
  intro p l e s m args below meth c A H locs lsA C hE hP hD hS hL
  exact lv_aload C.ex C.by d (hL.get hl) (K p l e s m args below meth c A H locs lsA C hE hP hD hS hL)
theorem g_aload_nN {j : Fin 4} (i : Nat) (d : decode J.2.1 pc = .ok (.aload_n j, 1)) (hi : (j : Nat) = i) (hl : ls[i]? = some .null) (K : G Z J E Q (pc + 1) ls (.null :: st) ws k n) : G Z J E Q pc ls (st) ws k n := by
  intro p l e s m args below meth c A H locs lsA C hE hP hD hS hL
  exact lv_aload_nN C.ex C.by d hi (hL.get hl) (K p l e s m args below meth c A H locs lsA C hE hP hD hS hL)
theorem g_aloadN {i : Nat} (d : decode J.2.1 pc = .ok (.aload i, 2)) (hl : ls[i]? = some .null) (K : G Z J E Q (pc + 2) ls (.null :: st) ws k n) : G Z J E Q pc ls (st) ws k n := by
  intro p l e s m args below meth c A H locs lsA C hE hP hD hS hL
  exact lv_aloadN C.ex C.by d (hL.get hl) (K p l e s m args below meth c A H locs lsA C hE hP hD hS hL)
theorem g_iadd {x y : Int32} (d : decode J.2.1 pc = .ok (.iadd, 1))  (K : G Z J E Q (pc + 1) ls (.int (x + y) :: st) ws k n) : G Z J E Q pc ls (.int y :: .int x :: st) ws k n := by
  intro p l e s m args below meth c A H locs lsA C hE hP hD hS hL
  exact lv_iadd C.ex C.by d (K p l e s m args below meth c A H locs lsA C hE hP hD hS hL)
theorem g_isub {x y : Int32} (d : decode J.2.1 pc = .ok (.isub, 1))  (K : G Z J E Q (pc + 1) ls (.int (x - y) :: st) ws k n) : G Z J E Q pc ls (.int y :: .int x :: st) ws k n := by
  intro p l e s m args below meth c A H locs lsA C hE hP hD hS hL
  exact lv_isub C.ex C.by d (K p l e s m args below meth c A H locs lsA C hE hP hD hS hL)
theorem g_imul {x y : Int32} (d : decode J.2.1 pc = .ok (.imul, 1))  (K : G Z J E Q (pc + 1) ls (.int (x * y) :: st) ws k n) : G Z J E Q pc ls (.int y :: .int x :: st) ws k n := by
  intro p l e s m args below meth c A H locs lsA C hE hP hD hS hL
  exact lv_imul C.ex C.by d (K p l e s m args below meth c A H locs lsA C hE hP hD hS hL)
theorem g_iand {x y : Int32} (d : decode J.2.1 pc = .ok (.iand, 1))  (K : G Z J E Q (pc + 1) ls (.int (x &&& y) :: st) ws k n) : G Z J E Q pc ls (.int y :: .int x :: st) ws k n := by
  intro p l e s m args below meth c A H locs lsA C hE hP hD hS hL
  exact lv_iand C.ex C.by d (K p l e s m args below meth c A H locs lsA C hE hP hD hS hL)
theorem g_ior {x y : Int32} (d : decode J.2.1 pc = .ok (.ior, 1))  (K : G Z J E Q (pc + 1) ls (.int (x ||| y) :: st) ws k n) : G Z J E Q pc ls (.int y :: .int x :: st) ws k n := by
  intro p l e s m args below meth c A H locs lsA C hE hP hD hS hL
  exact lv_ior C.ex C.by d (K p l e s m args below meth c A H locs lsA C hE hP hD hS hL)
theorem g_ixor {x y : Int32} (d : decode J.2.1 pc = .ok (.ixor, 1))  (K : G Z J E Q (pc + 1) ls (.int (x ^^^ y) :: st) ws k n) : G Z J E Q pc ls (.int y :: .int x :: st) ws k n := by
  intro p l e s m args below meth c A H locs lsA C hE hP hD hS hL
  exact lv_ixor C.ex C.by d (K p l e s m args below meth c A H locs lsA C hE hP hD hS hL)
theorem g_ishl {x y : Int32} (d : decode J.2.1 pc = .ok (.ishl, 1))  (K : G Z J E Q (pc + 1) ls (.int (x <<< (y &&& 31)) :: st) ws k n) : G Z J E Q pc ls (.int y :: .int x :: st) ws k n := by
  intro p l e s m args below meth c A H locs lsA C hE hP hD hS hL
  exact lv_ishl C.ex C.by d (K p l e s m args below meth c A H locs lsA C hE hP hD hS hL)
theorem g_idiv {x y : Int32} (d : decode J.2.1 pc = .ok (.idiv, 1)) (hne : ¬ y = 0) (K : G Z J E Q (pc + 1) ls (.int (x / y) :: st) ws k n) : G Z J E Q pc ls (.int y :: .int x :: st) ws k n := by
  intro p l e s m args below meth c A H locs lsA C hE hP hD hS hL
  exact lv_idiv C.ex C.by d hne (K p l e s m args below meth c A H locs lsA C hE hP hD hS hL)
theorem g_irem {x y : Int32} (d : decode J.2.1 pc = .ok (.irem, 1)) (hne : ¬ y = 0) (K : G Z J E Q (pc + 1) ls (.int (x - x / y * y) :: st) ws k n) : G Z J E Q pc ls (.int y :: .int x :: st) ws k n := by
  intro p l e s m args below meth c A H locs lsA C hE hP hD hS hL
  exact lv_irem C.ex C.by d hne (K p l e s m args below meth c A H locs lsA C hE hP hD hS hL)
theorem g_dup {v : Value} (d : decode J.2.1 pc = .ok (.dup, 1)) (hv : v.category = 1) (K : G Z J E Q (pc + 1) ls (v :: v :: st) ws k n) : G Z J E Q pc ls (v :: st) ws k n := by
  intro p l e s m args below meth c A H locs lsA C hE hP hD hS hL
  exact lv_dup C.ex C.by d hv (K p l e s m args below meth c A H locs lsA C hE hP hD hS hL)
theorem g_pop {v : Value} (d : decode J.2.1 pc = .ok (.pop, 1)) (hv : v.category = 1) (K : G Z J E Q (pc + 1) ls (st) ws k n) : G Z J E Q pc ls (v :: st) ws k n := by
  intro p l e s m args below meth c A H locs lsA C hE hP hD hS hL
  exact lv_pop C.ex C.by d hv (K p l e s m args below meth c A H locs lsA C hE hP hD hS hL)
theorem g_dup2 {v w : Value} (d : decode J.2.1 pc = .ok (.dup2, 1)) (hv : v.category = 1) (hw : w.category = 1) (K : G Z J E Q (pc + 1) ls (v :: w :: v :: w :: st) ws k n) : G Z J E Q pc ls (v :: w :: st) ws k n := by
  intro p l e s m args below meth c A H locs lsA C hE hP hD hS hL
  exact lv_dup2_11 C.ex C.by d hv hw (K p l e s m args below meth c A H locs lsA C hE hP hD hS hL)
theorem g_null  (d : decode J.2.1 pc = .ok (.aconst_null, 1))  (K : G Z J E Q (pc + 1) ls (.null :: st) ws k n) : G Z J E Q pc ls (st) ws k n := by
  intro p l e s m args below meth c A H locs lsA C hE hP hD hS hL
  exact lv_null C.ex C.by d (K p l e s m args below meth c A H locs lsA C hE hP hD hS hL)
theorem g_istore_n {j : Fin 4} (i : Nat) {x : Int32} (d : decode J.2.1 pc = .ok (.istore_n j, 1)) (hi : (j : Nat) = i) (hn : i < J.2.2.1) (hle : i ≤ ls.length) {ls2 : List Value} (hs : sto ls i (.int x) = ls2) (K : G Z J E Q (pc + 1) ls2 st ws k n) : G Z J E Q pc ls (.int x :: st) ws k n := by
  intro p l e s m args below meth c A H locs lsA C hE hP hD hS hL
  obtain ⟨l0, h1, h2⟩ := hL
  subst hs
  exact lv_istore_n C.ex C.by d hi h1 hn rfl (fun ls2 hl2 => K p l e s m args below meth c A H locs ls2 C hE hP hD hS ⟨_, hl2, LH.put h2 hle rfl⟩)
theorem g_istore {i : Nat} {x : Int32} (d : decode J.2.1 pc = .ok (.istore i, 2)) (hn : i < J.2.2.1) (hle : i ≤ ls.length) {ls2 : List Value} (hs : sto ls i (.int x) = ls2) (K : G Z J E Q (pc + 2) ls2 st ws k n) : G Z J E Q pc ls (.int x :: st) ws k n := by
  intro p l e s m args below meth c A H locs lsA C hE hP hD hS hL
  obtain ⟨l0, h1, h2⟩ := hL
  subst hs
  exact lv_istore C.ex C.by d h1 hn rfl (fun ls2 hl2 => K p l e s m args below meth c A H locs ls2 C hE hP hD hS ⟨_, hl2, LH.put h2 hle rfl⟩)
theorem g_astore_n {j : Fin 4} (i : Nat) {x : Nat} (d : decode J.2.1 pc = .ok (.astore_n j, 1)) (hi : (j : Nat) = i) (hn : i < J.2.2.1) (hle : i ≤ ls.length) {ls2 : List Value} (hs : sto ls i (.ref x) = ls2) (K : G Z J E Q (pc + 1) ls2 st ws k n) : G Z J E Q pc ls (.ref x :: st) ws k n := by
  intro p l e s m args below meth c A H locs lsA C hE hP hD hS hL
  obtain ⟨l0, h1, h2⟩ := hL
  subst hs
  exact lv_astore_n C.ex C.by d hi h1 hn rfl (fun ls2 hl2 => K p l e s m args below meth c A H locs ls2 C hE hP hD hS ⟨_, hl2, LH.put h2 hle rfl⟩)
theorem g_astore {i : Nat} {x : Nat} (d : decode J.2.1 pc = .ok (.astore i, 2)) (hn : i < J.2.2.1) (hle : i ≤ ls.length) {ls2 : List Value} (hs : sto ls i (.ref x) = ls2) (K : G Z J E Q (pc + 2) ls2 st ws k n) : G Z J E Q pc ls (.ref x :: st) ws k n := by
  intro p l e s m args below meth c A H locs lsA C hE hP hD hS hL
  obtain ⟨l0, h1, h2⟩ := hL
  subst hs
  exact lv_astore C.ex C.by d h1 hn rfl (fun ls2 hl2 => K p l e s m args below meth c A H locs ls2 C hE hP hD hS ⟨_, hl2, LH.put h2 hle rfl⟩)
theorem g_astore_nN {j : Fin 4} (i : Nat) (d : decode J.2.1 pc = .ok (.astore_n j, 1)) (hi : (j : Nat) = i) (hn : i < J.2.2.1) (hle : i ≤ ls.length) {ls2 : List Value} (hs : sto ls i (.null) = ls2) (K : G Z J E Q (pc + 1) ls2 st ws k n) : G Z J E Q pc ls (.null :: st) ws k n := by
  intro p l e s m args below meth c A H locs lsA C hE hP hD hS hL
  obtain ⟨l0, h1, h2⟩ := hL
  subst hs
  exact lv_astore_nN C.ex C.by d hi h1 hn rfl (fun ls2 hl2 => K p l e s m args below meth c A H locs ls2 C hE hP hD hS ⟨_, hl2, LH.put h2 hle rfl⟩)
theorem g_astoreN {i : Nat} (d : decode J.2.1 pc = .ok (.astore i, 2)) (hn : i < J.2.2.1) (hle : i ≤ ls.length) {ls2 : List Value} (hs : sto ls i (.null) = ls2) (K : G Z J E Q (pc + 2) ls2 st ws k n) : G Z J E Q pc ls (.null :: st) ws k n := by
  intro p l e s m args below meth c A H locs lsA C hE hP hD hS hL
  obtain ⟨l0, h1, h2⟩ := hL
  subst hs
  exact lv_astoreN C.ex C.by d h1 hn rfl (fun ls2 hl2 => K p l e s m args below meth c A H locs ls2 C hE hP hD hS ⟨_, hl2, LH.put h2 hle rfl⟩)
theorem g_iinc {i : Nat} {q : Int} {x : Int32} (v : Int32) (d : decode J.2.1 pc = .ok (.iinc i q, 3)) (hl : ls[i]? = some (.int x)) (hv : x + Int32.ofInt q = v) (hn : i < J.2.2.1) {ls2 : List Value} (hs : sto ls i (.int v) = ls2) (K : G Z J E Q (pc + 3) ls2 st ws k n) : G Z J E Q pc ls st ws k n := by
  intro p l e s m args below meth c A H locs lsA C hE hP hD hS hL
  obtain ⟨l0, h1, h2⟩ := hL
  subst hs
  obtain ⟨kk, hkk⟩ := List.getElem?_of_mem (h2 i _ hl).1
  have hle : i ≤ ls.length := Nat.le_of_lt (List.getElem?_eq_some_iff.mp hl).1
  exact lv_iinc (k := kk) C.ex C.by d h1 hkk hv hn rfl (fun ls2 hl2 => K p l e s m args below meth c A H locs ls2 C hE hP hD hS ⟨_, hl2, LH.put h2 hle rfl⟩)
theorem g_if_eq {x : Int32} {off : Int} (tgt : Nat) (d : decode J.2.1 pc = .ok (.ifCond .eq off, 3)) (ht : (pc : Int) + off = (tgt : Int)) (kt : x = 0 → G Z J E Q tgt ls st ws k n) (kf : ¬ x = 0 → G Z J E Q (pc + 3) ls st ws k n) : G Z J E Q pc ls (.int x :: st) ws k n := by
  intro p l e s m args below meth c A H locs lsA C hE hP hD hS hL
  exact lv_if_eq C.ex C.by d ht (fun q => kt q p l e s m args below meth c A H locs lsA C hE hP hD hS hL) (fun q => kf q p l e s m args below meth c A H locs lsA C hE hP hD hS hL)
theorem g_if_ne {x : Int32} {off : Int} (tgt : Nat) (d : decode J.2.1 pc = .ok (.ifCond .ne off, 3)) (ht : (pc : Int) + off = (tgt : Int)) (kt : ¬ x = 0 → G Z J E Q tgt ls st ws k n) (kf : x = 0 → G Z J E Q (pc + 3) ls st ws k n) : G Z J E Q pc ls (.int x :: st) ws k n := by
  intro p l e s m args below meth c A H locs lsA C hE hP hD hS hL
  exact lv_if_ne C.ex C.by d ht (fun q => kt q p l e s m args below meth c A H locs lsA C hE hP hD hS hL) (fun q => kf q p l e s m args below meth c A H locs lsA C hE hP hD hS hL)
theorem g_if_lt {x : Int32} {off : Int} (tgt : Nat) (d : decode J.2.1 pc = .ok (.ifCond .lt off, 3)) (ht : (pc : Int) + off = (tgt : Int)) (kt : x < 0 → G Z J E Q tgt ls st ws k n) (kf : ¬ x < 0 → G Z J E Q (pc + 3) ls st ws k n) : G Z J E Q pc ls (.int x :: st) ws k n := by
  intro p l e s m args below meth c A H locs lsA C hE hP hD hS hL
  exact lv_if_lt C.ex C.by d ht (fun q => kt q p l e s m args below meth c A H locs lsA C hE hP hD hS hL) (fun q => kf q p l e s m args below meth c A H locs lsA C hE hP hD hS hL)
theorem g_if_ge {x : Int32} {off : Int} (tgt : Nat) (d : decode J.2.1 pc = .ok (.ifCond .ge off, 3)) (ht : (pc : Int) + off = (tgt : Int)) (kt : 0 ≤ x → G Z J E Q tgt ls st ws k n) (kf : ¬ 0 ≤ x → G Z J E Q (pc + 3) ls st ws k n) : G Z J E Q pc ls (.int x :: st) ws k n := by
  intro p l e s m args below meth c A H locs lsA C hE hP hD hS hL
  exact lv_if_ge C.ex C.by d ht (fun q => kt q p l e s m args below meth c A H locs lsA C hE hP hD hS hL) (fun q => kf q p l e s m args below meth c A H locs lsA C hE hP hD hS hL)
theorem g_if_gt {x : Int32} {off : Int} (tgt : Nat) (d : decode J.2.1 pc = .ok (.ifCond .gt off, 3)) (ht : (pc : Int) + off = (tgt : Int)) (kt : 0 < x → G Z J E Q tgt ls st ws k n) (kf : ¬ 0 < x → G Z J E Q (pc + 3) ls st ws k n) : G Z J E Q pc ls (.int x :: st) ws k n := by
  intro p l e s m args below meth c A H locs lsA C hE hP hD hS hL
  exact lv_if_gt C.ex C.by d ht (fun q => kt q p l e s m args below meth c A H locs lsA C hE hP hD hS hL) (fun q => kf q p l e s m args below meth c A H locs lsA C hE hP hD hS hL)
theorem g_if_le {x : Int32} {off : Int} (tgt : Nat) (d : decode J.2.1 pc = .ok (.ifCond .le off, 3)) (ht : (pc : Int) + off = (tgt : Int)) (kt : x ≤ 0 → G Z J E Q tgt ls st ws k n) (kf : ¬ x ≤ 0 → G Z J E Q (pc + 3) ls st ws k n) : G Z J E Q pc ls (.int x :: st) ws k n := by
  intro p l e s m args below meth c A H locs lsA C hE hP hD hS hL
  exact lv_if_le C.ex C.by d ht (fun q => kt q p l e s m args below meth c A H locs lsA C hE hP hD hS hL) (fun q => kf q p l e s m args below meth c A H locs lsA C hE hP hD hS hL)
theorem g_icmp_eq {x y : Int32} {off : Int} (tgt : Nat) (d : decode J.2.1 pc = .ok (.if_icmp .eq off, 3)) (ht : (pc : Int) + off = (tgt : Int)) (kt : x = y → G Z J E Q tgt ls st ws k n) (kf : ¬ x = y → G Z J E Q (pc + 3) ls st ws k n) : G Z J E Q pc ls (.int y :: .int x :: st) ws k n := by
  intro p l e s m args below meth c A H locs lsA C hE hP hD hS hL
  exact lv_icmp_eq C.ex C.by d ht (fun q => kt q p l e s m args below meth c A H locs lsA C hE hP hD hS hL) (fun q => kf q p l e s m args below meth c A H locs lsA C hE hP hD hS hL)
theorem g_icmp_ne {x y : Int32} {off : Int} (tgt : Nat) (d : decode J.2.1 pc = .ok (.if_icmp .ne off, 3)) (ht : (pc : Int) + off = (tgt : Int)) (kt : ¬ x = y → G Z J E Q tgt ls st ws k n) (kf : x = y → G Z J E Q (pc + 3) ls st ws k n) : G Z J E Q pc ls (.int y :: .int x :: st) ws k n := by
  intro p l e s m args below meth c A H locs lsA C hE hP hD hS hL
  exact lv_icmp_ne C.ex C.by d ht (fun q => kt q p l e s m args below meth c A H locs lsA C hE hP hD hS hL) (fun q => kf q p l e s m args below meth c A H locs lsA C hE hP hD hS hL)
theorem g_icmp_lt {x y : Int32} {off : Int} (tgt : Nat) (d : decode J.2.1 pc = .ok (.if_icmp .lt off, 3)) (ht : (pc : Int) + off = (tgt : Int)) (kt : x < y → G Z J E Q tgt ls st ws k n) (kf : ¬ x < y → G Z J E Q (pc + 3) ls st ws k n) : G Z J E Q pc ls (.int y :: .int x :: st) ws k n := by
  intro p l e s m args below meth c A H locs lsA C hE hP hD hS hL
  exact lv_icmp_lt C.ex C.by d ht (fun q => kt q p l e s m args below meth c A H locs lsA C hE hP hD hS hL) (fun q => kf q p l e s m args below meth c A H locs lsA C hE hP hD hS hL)
theorem g_icmp_ge {x y : Int32} {off : Int} (tgt : Nat) (d : decode J.2.1 pc = .ok (.if_icmp .ge off, 3)) (ht : (pc : Int) + off = (tgt : Int)) (kt : y ≤ x → G Z J E Q tgt ls st ws k n) (kf : ¬ y ≤ x → G Z J E Q (pc + 3) ls st ws k n) : G Z J E Q pc ls (.int y :: .int x :: st) ws k n := by
  intro p l e s m args below meth c A H locs lsA C hE hP hD hS hL
  exact lv_icmp_ge C.ex C.by d ht (fun q => kt q p l e s m args below meth c A H locs lsA C hE hP hD hS hL) (fun q => kf q p l e s m args below meth c A H locs lsA C hE hP hD hS hL)
theorem g_icmp_gt {x y : Int32} {off : Int} (tgt : Nat) (d : decode J.2.1 pc = .ok (.if_icmp .gt off, 3)) (ht : (pc : Int) + off = (tgt : Int)) (kt : y < x → G Z J E Q tgt ls st ws k n) (kf : ¬ y < x → G Z J E Q (pc + 3) ls st ws k n) : G Z J E Q pc ls (.int y :: .int x :: st) ws k n := by
  intro p l e s m args below meth c A H locs lsA C hE hP hD hS hL
  exact lv_icmp_gt C.ex C.by d ht (fun q => kt q p l e s m args below meth c A H locs lsA C hE hP hD hS hL) (fun q => kf q p l e s m args below meth c A H locs lsA C hE hP hD hS hL)
theorem g_icmp_le {x y : Int32} {off : Int} (tgt : Nat) (d : decode J.2.1 pc = .ok (.if_icmp .le off, 3)) (ht : (pc : Int) + off = (tgt : Int)) (kt : x ≤ y → G Z J E Q tgt ls st ws k n) (kf : ¬ x ≤ y → G Z J E Q (pc + 3) ls st ws k n) : G Z J E Q pc ls (.int y :: .int x :: st) ws k n := by
  intro p l e s m args below meth c A H locs lsA C hE hP hD hS hL
  exact lv_icmp_le C.ex C.by d ht (fun q => kt q p l e s m args below meth c A H locs lsA C hE hP hD hS hL) (fun q => kf q p l e s m args below meth c A H locs lsA C hE hP hD hS hL)
theorem g_goto {off : Int} (tgt : Nat) (d : decode J.2.1 pc = .ok (.goto off, 3)) (ht : (pc : Int) + off = (tgt : Int)) (K : G Z J E Q tgt ls st ws k n) : G Z J E Q pc ls st ws k n := by
  intro p l e s m args below meth c A H locs lsA C hE hP hD hS hL
  exact lv_goto C.ex C.by d ht (K p l e s m args below meth c A H locs lsA C hE hP hD hS hL)
theorem g_ifnonnull {x : Nat} {off : Int} (tgt : Nat) (d : decode J.2.1 pc = .ok (.ifnonnull off, 3)) (ht : (pc : Int) + off = (tgt : Int)) (K : G Z J E Q tgt ls st ws k n) : G Z J E Q pc ls (.ref x :: st) ws k n := by
  intro p l e s m args below meth c A H locs lsA C hE hP hD hS hL
  exact lv_ifnonnull C.ex C.by d ht (K p l e s m args below meth c A H locs lsA C hE hP hD hS hL)
theorem g_ifnull {x : Nat} {off : Int} (d : decode J.2.1 pc = .ok (.ifnull off, 3)) (K : G Z J E Q (pc + 3) ls st ws k n) : G Z J E Q pc ls (.ref x :: st) ws k n := by
  intro p l e s m args below meth c A H locs lsA C hE hP hD hS hL
  exact lv_ifnull C.ex C.by d (K p l e s m args below meth c A H locs lsA C hE hP hD hS hL)
theorem g_ifnullN {off : Int} (tgt : Nat) (d : decode J.2.1 pc = .ok (.ifnull off, 3)) (ht : (pc : Int) + off = (tgt : Int)) (K : G Z J E Q tgt ls st ws k n) : G Z J E Q pc ls (.null :: st) ws k n := by
  intro p l e s m args below meth c A H locs lsA C hE hP hD hS hL
  exact lv_ifnullN C.ex C.by d ht (K p l e s m args below meth c A H locs lsA C hE hP hD hS hL)
theorem g_ifnonnullN {off : Int} (d : decode J.2.1 pc = .ok (.ifnonnull off, 3)) (K : G Z J E Q (pc + 3) ls st ws k n) : G Z J E Q pc ls (.null :: st) ws k n := by
  intro p l e s m args below meth c A H locs lsA C hE hP hD hS hL
  exact lv_ifnonnullN C.ex C.by d (K p l e s m args below meth c A H locs lsA C hE hP hD hS hL)
theorem g_ldc {i : Nat} (v : Int32) (d : decode J.2.1 pc = .ok (.ldc i, 2)) (hc : Cond.constant J.1.cls i v ∈ WT) (K : G Z J E Q (pc + 2) ls (.int v :: st) ws k n) : G Z J E Q pc ls st ws k n := by
  intro p l e s m args below meth c A H locs lsA C hE hP hD hS hL
  exact lv_ldc C.ex C.by C.ow (C.ts _ hc) d (K p l e s m args below meth c A H locs lsA C hE hP hD hS hL)
theorem g_tableOut {dflt lo hi : Int} {offs : Array Int} {len : Nat} {x : Int32} (tgt : Nat) (d : decode J.2.1 pc = .ok (.tableswitch dflt lo hi offs, len)) (h : x.toInt < lo ∨ hi < x.toInt) (ht : (pc : Int) + dflt = (tgt : Int)) (K : G Z J E Q tgt ls st ws k n) : G Z J E Q pc ls (.int x :: st) ws k n := by
  intro p l e s m args below meth c A H locs lsA C hE hP hD hS hL
  exact lv_tableOut C.ex C.by d h ht (K p l e s m args below meth c A H locs lsA C hE hP hD hS hL)
theorem g_tableIn {dflt lo hi : Int} {offs : Array Int} {len : Nat} {x : Int32} {off : Int} (tgt : Nat) (d : decode J.2.1 pc = .ok (.tableswitch dflt lo hi offs, len)) (h1 : ¬ x.toInt < lo) (h2 : ¬ hi < x.toInt) (ho : offs[(x.toInt - lo).toNat]? = some off) (ht : (pc : Int) + off = (tgt : Int)) (K : G Z J E Q tgt ls st ws k n) : G Z J E Q pc ls (.int x :: st) ws k n := by
  intro p l e s m args below meth c A H locs lsA C hE hP hD hS hL
  exact lv_tableIn C.ex C.by d h1 h2 ho ht (K p l e s m args below meth c A H locs lsA C hE hP hD hS hL)
theorem g_top {x : Int32} (K : ∀ y : Int32, y = x → G Z J E Q pc ls (.int y :: st) ws k n) : G Z J E Q pc ls (.int x :: st) ws k n := K x rfl
theorem g_widen {k2 n2 : Nat} (h1 : k ≤ k2) (h2 : n ≤ n2) (K : G Z J E Q pc ls st ws k2 n2) : G Z J E Q pc ls st ws k n := by
  intro p l e s m args below meth c A H locs lsA C hE hP hD hS hL
  exact W.widen h1 h2 (K p l e s m args below meth c A H locs lsA C hE hP hD hS hL)
theorem g_get {i : Nat} {a : Nat} {fs : List Value} {v : Value} (ci q0 kf : Nat) {Cn : String} {T : u_T} {N : Nat} (d : decode J.2.1 pc = .ok (.getfield i, 3)) (hc : vwCl[ci]? = some (Cn, T, N)) (hin : ∀ w ∈ u_ws Cn T N, w ∈ WT) (hk : kf < N) (hl : Cond.fieldLink J.1.cls i (T kf).1 (T kf).2.1 (T kf).2.2.1 ∈ WT) (he : ws[q0]? = some (a, .inr (ci, fs))) (hv : fs[kf]? = some v) (K : G Z J E Q (pc + 3) ls (v :: st) ws k n) : G Z J E Q pc ls (.ref a :: st) ws k n := by
  intro p l e s m args below meth c A H locs lsA C hE hP hD hS hL
  exact va_get (D := Z.1) (ref := (T kf).1) C.ex C.by C.ts hin C.ow C.kk hP q0 he hc kf hk (C.ts _ hl) (fun _ h => h) hv d (K p l e s m args below meth c A H locs lsA C hE hP hD hS hL)
theorem g_put {i : Nat} {a : Nat} {fs : List Value} {v : Value} (ci q0 kf : Nat) {Cn : String} {T : u_T} {N : Nat} (ty0 : Nat → FieldType) {ws2 : va_W} (d : decode J.2.1 pc = .ok (.putfield i, 3)) (hc : vwCl[ci]? = some (Cn, T, N)) (hin : ∀ w ∈ u_ws Cn T N, w ∈ WT) (hty : ∀ k, k < N → parseFieldDescriptor (T k).2.2.1 = some (ty0 k)) (hnm : ∀ a, a < N → ∀ b, b < N → a ≠ b → (T a).2.1 ≠ (T b).2.1) (hk : kf < N) (hl : Cond.fieldLink J.1.cls i (T kf).1 (T kf).2.1 (T kf).2.2.1 ∈ WT) (hfin : (T kf).2.2.2 = false) (he : ws[q0]? = some (a, .inr (ci, fs))) (hn : narrow (ty0 kf) v = v) (hfit : fits (ty0 kf) v = true) (hlen : kf < fs.length) (h2 : ws.set q0 (a, .inr (ci, fs.set kf v)) = ws2) (K : G Z J E Q (pc + 3) ls st ws2 k n) : G Z J E Q pc ls (v :: .ref a :: st) ws k n := by
  intro p l e s m args below meth c A H locs lsA C hE hP hD hS hL
  subst h2
  exact va_put (D := Z.1) (ref := (T kf).1) C.ex C.by C.ts hin ty0 hty hnm C.ow C.kk hP hD hS q0 he hc kf hk (C.ts _ hl) (fun _ h => h) hfin (hty kf hk) hn hfit hlen d (fun H1 locs1 hP1 hD1 hS1 => K p l e s m args below meth c A H1 locs1 lsA C hE hP1 hD1 hS1 hL)
theorem g_putF {i : Nat} {a : Nat} {fs : List Value} {v : Value} (ci q0 kf : Nat) {Cn : String} {T : u_T} {N : Nat} (ty0 : Nat → FieldType) {ws2 : va_W} (d : decode J.2.1 pc = .ok (.putfield i, 3)) (hc : vwCl[ci]? = some (Cn, T, N)) (hin : ∀ w ∈ u_ws Cn T N, w ∈ WT) (hty : ∀ k, k < N → parseFieldDescriptor (T k).2.2.1 = some (ty0 k)) (hnm : ∀ a, a < N → ∀ b, b < N → a ≠ b → (T a).2.1 ≠ (T b).2.1) (hk : kf < N) (hl : Cond.fieldLink J.1.cls i (T kf).1 (T kf).2.1 (T kf).2.2.1 ∈ WT) (hfin : (T kf).2.2.2 = true) (hini : J.1.name = "<init>") (hdecl : (T kf).1 = J.1.cls) (he : ws[q0]? = some (a, .inr (ci, fs))) (hn : narrow (ty0 kf) v = v) (hfit : fits (ty0 kf) v = true) (hlen : kf < fs.length) (h2 : ws.set q0 (a, .inr (ci, fs.set kf v)) = ws2) (K : G Z J E Q (pc + 3) ls st ws2 k n) : G Z J E Q pc ls (v :: .ref a :: st) ws k n := by
  intro p l e s m args below meth c A H locs lsA C hE hP hD hS hL
  subst h2
  exact va_putF (D := Z.1) (ref := (T kf).1) C.ex C.by C.ts hin ty0 hty hnm C.ow C.kk hP hD hS q0 he hc kf hk (C.ts _ hl) (fun _ h => h) hfin (C.nm.trans hini) hdecl (hty kf hk) hn hfit hlen d (fun H1 locs1 hP1 hD1 hS1 => K p l e s m args below meth c A H1 locs1 lsA C hE hP1 hD1 hS1 hL)
theorem g_iald {a : Nat} {i : Int32} {N : Nat} {f : Nat → Int32} (q0 : Nat) (d : decode J.2.1 pc = .ok (.iaload, 1)) (he : ws[q0]? = some (a, .inl (Z.2 0, N, .inl f))) (hi : vp_in i N) (K : G Z J E Q (pc + 1) ls (.int (f i.toNatClampNeg) :: st) ws k n) : G Z J E Q pc ls (.int i :: .ref a :: st) ws k n := by
  intro p l e s m args below meth c A H locs lsA C hE hP hD hS hL
  exact va_iald (D := Z.1) C.ex C.by C.kk hP q0 0 he rfl hi d (K p l e s m args below meth c A H locs lsA C hE hP hD hS hL)
theorem g_zald {a : Nat} {i : Int32} {N : Nat} {f : Nat → Int32} (q0 : Nat) (d : decode J.2.1 pc = .ok (.baload, 1)) (he : ws[q0]? = some (a, .inl (Z.2 1, N, .inl f))) (hi : vp_in i N) (K : G Z J E Q (pc + 1) ls (.int (f i.toNatClampNeg) :: st) ws k n) : G Z J E Q pc ls (.int i :: .ref a :: st) ws k n := by
  intro p l e s m args below meth c A H locs lsA C hE hP hD hS hL
  exact va_zald (D := Z.1) C.ex C.by C.kk hP q0 1 he rfl hi d (K p l e s m args below meth c A H locs lsA C hE hP hD hS hL)
theorem g_iast {a : Nat} {i x : Int32} {N : Nat} {f : Nat → Int32} (q0 : Nat) {ws2 : va_W} (d : decode J.2.1 pc = .ok (.iastore, 1)) (he : ws[q0]? = some (a, .inl (Z.2 0, N, .inl f))) (hi : vp_in i N) (h2 : ws.set q0 (a, .inl (Z.2 0, N, .inl (upd f i.toNatClampNeg x))) = ws2) (K : G Z J E Q (pc + 1) ls st ws2 k n) : G Z J E Q pc ls (.int x :: .int i :: .ref a :: st) ws k n := by
  intro p l e s m args below meth c A H locs lsA C hE hP hD hS hL
  subst h2
  exact va_iast (D := Z.1) C.ex C.by C.kk hP hD hS q0 0 he rfl hi d (fun H1 locs1 hP1 hD1 hS1 => K p l e s m args below meth c A H1 locs1 lsA C hE hP1 hD1 hS1 hL)
theorem g_zast {a : Nat} {i x : Int32} {N : Nat} {f : Nat → Int32} (q0 : Nat) {ws2 : va_W} (d : decode J.2.1 pc = .ok (.bastore, 1)) (he : ws[q0]? = some (a, .inl (Z.2 1, N, .inl f))) (hi : vp_in i N) (h2 : ws.set q0 (a, .inl (Z.2 1, N, .inl (upd f i.toNatClampNeg (vp_nar .boolean x)))) = ws2) (K : G Z J E Q (pc + 1) ls st ws2 k n) : G Z J E Q pc ls (.int x :: .int i :: .ref a :: st) ws k n := by
  intro p l e s m args below meth c A H locs lsA C hE hP hD hS hL
  subst h2
  exact va_zast (D := Z.1) C.ex C.by C.kk hP hD hS q0 1 he rfl hi d (fun H1 locs1 hP1 hD1 hS1 => K p l e s m args below meth c A H1 locs1 lsA C hE hP1 hD1 hS1 hL)
theorem g_alen {a : Nat} {cA : ClassId} {x : vp_A} (q0 t0 : Nat) {ty : FieldType} (v : Int32) (d : decode J.2.1 pc = .ok (.arraylength, 1)) (he : ws[q0]? = some (a, .inl (cA, x))) (ht : (tyZ Z)[t0]? = some (cA, ty)) (hv : Int32.ofNat x.1 = v) (K : G Z J E Q (pc + 1) ls (.int v :: st) ws k n) : G Z J E Q pc ls (.ref a :: st) ws k n := by
  intro p l e s m args below meth c A H locs lsA C hE hP hD hS hL
  exact va_alen (D := Z.1) C.ex C.by C.kk hP q0 t0 he ht hv d (K p l e s m args below meth c A H locs lsA C hE hP hD hS hL)
theorem g_aald2 {a : Nat} {i : Int32} {N : Nat} {f : Nat → Option Nat} (q0 : Nat) (d : decode J.2.1 pc = .ok (.aaload, 1)) (he : ws[q0]? = some (a, .inl (Z.2 2, N, .inr (.inr (.inr (.inr f)))))) (hi : vp_in i N) (K : G Z J E Q (pc + 1) ls (va_rf (f i.toNatClampNeg) :: st) ws k n) : G Z J E Q pc ls (.int i :: .ref a :: st) ws k n := by
  intro p l e s m args below meth c A H locs lsA C hE hP hD hS hL
  exact va_aldq (D := Z.1) (C := "ManyPens$Slip") C.ex C.by C.kk hP q0 2 he rfl hi d (K p l e s m args below meth c A H locs lsA C hE hP hD hS hL)
theorem g_aald3 {a : Nat} {i : Int32} {N : Nat} {f : Nat → Option Nat} (q0 : Nat) (d : decode J.2.1 pc = .ok (.aaload, 1)) (he : ws[q0]? = some (a, .inl (Z.2 3, N, .inr (.inr (.inr (.inr f)))))) (hi : vp_in i N) (K : G Z J E Q (pc + 1) ls (va_rf (f i.toNatClampNeg) :: st) ws k n) : G Z J E Q pc ls (.int i :: .ref a :: st) ws k n := by
  intro p l e s m args below meth c A H locs lsA C hE hP hD hS hL
  exact va_aldq (D := Z.1) (C := "ManyPens$Sheet") C.ex C.by C.kk hP q0 3 he rfl hi d (K p l e s m args below meth c A H locs lsA C hE hP hD hS hL)
end Rows
def Qg (Z : LZ) (post : Option Value → va_W → Prop) (A : Nat → Prop) : Array Value → State → Outcome → State → Prop := fun _ st oc t => (∃ (r : Option Value) (w2 : va_W), oc = .returned r ∧ post r w2 ∧ va_P Z.1 vwCl w2 t.heap ∧ va_D A w2) ∧ va_F A st t
def QM (Z : LZ) (J : MD) (post : Option Value → va_W → Prop) : List Frame → Array Value → State → (Nat → Prop) → State → Prop := fun below args s A => MQ below (Qg Z post A) args s J.2.2.2.2.cells J.2.2.2.2.slots A
def E0 : State → Array Value → (Nat → Prop) → Prop := fun _ _ _ => True
abbrev Gm (Z : LZ) (J : MD) (post : Option Value → va_W → Prop) := G Z J E0 (QM Z J post)
def Tr (Z : LZ) (J : MD) (args : List Value) (ws : va_W) (post : Option Value → va_W → Prop) : Prop :=
  ∀ (l : Launch) (sz : Nat), Met l J.1 (.code J.1 J.2.1 J.2.2.1 J.2.2.2.1 :: WT) J.2.2.2.2 (va_Pc args (fun U => U.heap.size = sz ∧ va_P Z.1 vwCl ws U.heap ∧ EnvZ Z U ∧ va_D (fun _ => True) ws)) (Qg Z post (va_A ws sz)) J.2.2.2.2.cells J.2.2.2.2.slots (va_A ws sz)
section Ret
variable {Z : LZ} {J : MD} {post : Option Value → va_W → Prop} {pc : Nat} {ls st : List Value} {ws : va_W} {k n : Nat}
theorem g_iret {v : Int32} (d : decode J.2.1 pc = .ok (.ireturn, 1)) (hr : J.2.2.2.1 = some .int) (h1 : k ≤ J.2.2.2.2.cells) (h2 : n ≤ J.2.2.2.2.slots) (hp : post (some (.int v)) ws) : Gm Z J post pc ls [.int v] ws k n := by
  intro p l e s m args below meth c A H locs lsA C hE hP hD hS hL
  refine W.widen h1 h2 ?_
  exact W.iret (v := v) C.ex C.by (C.rt.trans hr) (fun t ht hW => ⟨⟨_, ws, rfl, hp, by rw [ht]; exact hP, hD⟩, hS.F ht⟩) hS.2.2 d C.lk
theorem g_zret {v : Int32} (d : decode J.2.1 pc = .ok (.ireturn, 1)) (hr : J.2.2.2.1 = some .boolean) (hv : narrow .boolean (.int v) = .int v) (h1 : k ≤ J.2.2.2.2.cells) (h2 : n ≤ J.2.2.2.2.slots) (hp : post (some (.int v)) ws) : Gm Z J post pc ls [.int v] ws k n := by
  intro p l e s m args below meth c A H locs lsA C hE hP hD hS hL
  refine W.widen h1 h2 ?_
  exact W.zret (v := v) C.ex C.by (C.rt.trans hr) hv (fun t ht hW => ⟨⟨_, ws, rfl, hp, by rw [ht]; exact hP, hD⟩, hS.F ht⟩) hS.2.2 d C.lk
theorem g_vret (d : decode J.2.1 pc = .ok (.return_, 1)) (hr : J.2.2.2.1 = none) (h1 : k ≤ J.2.2.2.2.cells) (h2 : n ≤ J.2.2.2.2.slots) (hp : post none ws) : Gm Z J post pc ls [] ws k n := by
  intro p l e s m args below meth c A H locs lsA C hE hP hD hS hL
  refine W.widen h1 h2 ?_
  exact W.vret C.ex C.by (C.rt.trans hr) (fun t ht hW => ⟨⟨_, ws, rfl, hp, by rw [ht]; exact hP, hD⟩, hS.F ht⟩) hS.2.2 d C.lk
theorem g_aret {v : Value} {rt : FieldType} (d : decode J.2.1 pc = .ok (.areturn, 1)) (hr : J.2.2.2.1 = some rt) (hrt : (∃ n, rt = .object n) ∨ ∃ t, rt = .array t) (hv : v = .null ∨ ∃ a, v = .ref a) (h1 : k ≤ J.2.2.2.2.cells) (h2 : n ≤ J.2.2.2.2.slots) (hp : post (some v) ws) : Gm Z J post pc ls [v] ws k n := by
  intro p l e s m args below meth c A H locs lsA C hE hP hD hS hL
  refine W.widen h1 h2 ?_
  exact W.aret (v := v) C.ex C.by (C.rt.trans hr) hrt hv (fun t ht hW => ⟨⟨_, ws, rfl, hp, by rw [ht]; exact hP, hD⟩, hS.F ht⟩) hS.2.2 d C.lk
/-- the world may be narrowed to some of its cells, in any order, before the return -/
theorem g_sub {E : State → Array Value → (Nat → Prop) → Prop} {Q : List Frame → Array Value → State → (Nat → Prop) → State → Prop} {ws2 : va_W} (is : List Nat) (hn : va_nd is = true) (h : is.map (fun i => ws[i]?) = ws2.map some) (K : G Z J E Q pc ls st ws2 k n) : G Z J E Q pc ls st ws k n := by
  intro p l e s m args below meth c A H locs lsA C hE hP hD hS hL
  refine K p l e s m args below meth c A H locs lsA C hE ?_ (hD.sub is hn h) hS hL
  intro j q hq
  have h1 : (is.map (fun i => ws[i]?))[j]? = some (some q) := by rw [h, List.getElem?_map, hq]; rfl
  rw [List.getElem?_map] at h1
  cases hi : is[j]? with
  | none => rw [hi] at h1; cases h1
  | some i => rw [hi] at h1; exact hP i q (Option.some.inj h1)
theorem tr_of {args : List Value} (hy : plainName J.1.cls = true) (hlen : args.length ≤ J.2.2.1) (hcat : ∀ v ∈ args, v.category = 1) (K : Gm Z J post 0 args [] ws 0 0) : Tr Z J args ws post := by
  intro l sz
  refine Met.ofW (cc := J.2.1) (maxL := J.2.2.1) (ret := J.2.2.2.1) hy rfl ?_
  intro p e s m args' below meth c s₁ B hml hv
  obtain ⟨rfl, hsz, hP, hE, hD0⟩ := hv
  subst hsz
  have hts := atoms_spec (ws := .code J.1 J.2.1 J.2.2.1 J.2.2.2.1 :: WT) B.pre
  rw [lg_entry_eq]
  exact K p l e s m _ below meth c (va_A ws s.heap.size) s.heap [] _ ⟨B.exec, B.bytes, hml, B.returns, B.notSynchronized, findClass_of_methodNamed B.named, (name_of_methodNamed B.named B.method).1, fun w h => hts w (List.mem_cons_of_mem _ h), hE, fun q h => Or.inr h⟩ trivial hP hD0.self va_S.rf (LH.entry args J.2.2.1 hcat hlen)
theorem tr_post {args : List Value} {post2 : Option Value → va_W → Prop} (h : Tr Z J args ws post) (hp : ∀ r w, post r w → post2 r w) : Tr Z J args ws post2 := by
  intro l sz
  have hM := h l sz
  unfold Met MetFree at hM ⊢
  intro p e ha hc hk s m a below hf hap hP hK
  obtain ⟨t, o, h1, h2, h3, ⟨⟨⟨r, w2, e1, e2, e3, e4⟩, e5⟩, e6⟩⟩ := hM p e ha hc hk s m a below hf hap hP hK
  exact ⟨t, o, h1, h2, h3, ⟨⟨⟨r, w2, e1, hp r w2 e2, e3, e4⟩, e5⟩, e6⟩⟩
end Ret
section CallG
variable {p : Program} {l : Launch} {e : Env} {R : Room} {s : State} {m : MethodId} {args : Array Value} {below : List Frame} {meth : Method} {c : Code} {H : Heap} {locs : List Loc} {cells slots : Nat} {Q : State → Prop}
variable {pc : Nat} {lsA : Array Slot} {rest st0 : List Value} {a : Array Value} {A0 A1 : Nat → Prop} {H0 : Heap} {mc ms : Nat} {free : Addr → Prop}
theorem va_callg {Z : LZ} {post : Option Value → va_W → Prop} (hr : va_Run p l e R s m args below meth c H locs cells slots mc ms (F0 m pc lsA st0) rest (Qg Z post A1 a) free) (hS : va_S A0 H0 H locs) (hA : ∀ q, q < H.size → A1 q → A0 q) (hf : ∀ q, free q → A0 q)
    (kk : ∀ (r : Option Value) (w2 : va_W) (H1 : Heap) (locs1 : List Loc), post r w2 → va_P Z.1 vwCl w2 H1 → va_D A1 w2 → H.size ≤ H1.size → (∀ q : Nat, q < H.size → ¬ A1 q → H1[q]? = H[q]?) → va_S A0 H0 H1 locs1 → W p l e R s m args below meth c H1 locs1 (cells + mc) (slots + ms) Q (F0 m (pc + 3) lsA (r.toList ++ rest))) : W p l e R s m args below meth c H locs cells slots Q (F0 m pc lsA st0) := by
  intro T hT X
  obtain ⟨v, st₀, t, T', L, h0, X', hL, e1, e2, ⟨⟨r, u, hv, hp, hb, hd⟩, hz, hk⟩, st⟩ := hr T hT X
  cases hv
  rw [h0] at hz hk
  obtain ⟨t2, a1, b1⟩ := kk v u T'.heap (locs ++ L) hp (by rw [e1]; exact hb) hd (by rw [e1]; exact hz) (fun q h1 h2 => by rw [e1]; exact hk q h1 h2)
    ⟨Nat.le_trans hS.1 (by rw [e1]; exact hz), fun q h1 h2 => by rw [e1, hk q (Nat.lt_of_lt_of_le h1 hS.1) (fun z => h2 (hA q (Nat.lt_of_lt_of_le h1 hS.1) z))]; exact hS.2.1 q h1 h2, fun q hq => by
      rcases List.mem_append.mp hq with h | h
      · exact hS.2.2 q h
      · exact hf _ (hL q h)⟩ T' rfl X'
  exact ⟨t2, st t2 a1, b1⟩
end CallG
def pcB {Z : LZ} {args : List Value} {ws : va_W} {sz : Nat} : FrameBlind (va_Pc args (fun U => U.heap.size = sz ∧ va_P Z.1 vwCl ws U.heap ∧ EnvZ Z U ∧ va_D (fun _ => True) ws)) := by
  intro a U g mk q
  obtain ⟨q0, q1, qP, qE, qD⟩ := q
  exact ⟨q0, q1, qP, qE.same rfl, qD⟩
def nDesc (y : MethodName) (n : Nat) : Prop := y.cls ≠ "java/lang/invoke/MethodHandle" ∧ y.cls ≠ "java/lang/invoke/VarHandle" ∧ (parseMethodDescriptor y.desc).map (fun d => d.parameters.length) = some n
def fitR (J J2 : MD) : Prop := J2.2.2.2.2.frames + 1 ≤ J.2.2.2.2.frames ∧ 8 + (J2.2.2.1 + 11) + J2.2.2.2.2.locals ≤ J.2.2.2.2.locals
abbrev cdW (J : MD) : Cond := .code J.1 J.2.1 J.2.2.1 J.2.2.2.1
def lkV (own : String) (i : Nat) (J2 : MD) (n : Nat) : Prop := Cond.methodLink own i J2.1 ∈ WT ∧ Cond.instanceMethod J2.1 ∈ WT ∧ Cond.selects J2.1.cls J2.1 J2.1 ∈ WT ∧ Cond.initialized J2.1.cls ∈ WT ∧ cdW J2 ∈ WT ∧ nDesc J2.1 n
def lkS (own : String) (i : Nat) (J2 : MD) (n : Nat) : Prop := Cond.methodLink own i J2.1 ∈ WT ∧ Cond.static J2.1 ∈ WT ∧ Cond.initialized J2.1.cls ∈ WT ∧ cdW J2 ∈ WT ∧ nDesc J2.1 n
def lkI (own : String) (i : Nat) (J2 : MD) (n : Nat) : Prop := Cond.methodLink own i J2.1 ∈ WT ∧ Cond.instanceMethod J2.1 ∈ WT ∧ Cond.initialized J2.1.cls ∈ WT ∧ cdW J2 ∈ WT ∧ nDesc J2.1 n ∧ J2.1.name = "<init>" ∧ J2.2.2.2.1 = none
section Calls
variable {Z : LZ} {J : MD} {E : State → Array Value → (Nat → Prop) → Prop} {Q : List Frame → Array Value → State → (Nat → Prop) → State → Prop} {pc : Nat} {ls st : List Value} {ws : va_W} {k n : Nat}
/-- a call of the object's own method: the callee's world wc is cut out of ws (places ic), the rest wr (places ir) stays -/
theorem g_callV {post : Option Value → va_W → Prop} {J2 : MD} {As : List Value} {b i ci N q0 : Nat} {fs : List Value} {T : u_T} {wc wr : va_W} (ic ir : List Nat) (hlk : lkV J.1.cls i J2 As.length) (hT : Tr Z J2 (.ref b :: As) wc post) (d : decode J.2.1 pc = .ok (.invokevirtual i, 3)) (hfit : fitR J J2)
    (hc : vwCl[ci]? = some (J2.1.cls, T, N)) (he : ws[q0]? = some (b, .inr (ci, fs))) (hC : ic.map (fun i => ws[i]?) = wc.map some) (hR : ir.map (fun i => ws[i]?) = wr.map some) (hn : va_nd ir = true) (hdis : ∀ i ∈ ir, i ∉ ic) (hnc : va_nd ic = true) (hst : (st.map fun v => v.category).sum ≤ 8) (h1 : k + J2.2.2.2.2.cells ≤ J.2.2.2.2.cells) (h2 : n + J2.2.2.2.2.slots ≤ J.2.2.2.2.slots)
    (K : ∀ (r : Option Value) (w2 : va_W), post r w2 → G Z J E Q (pc + 3) ls (r.toList ++ st) (wr ++ w2) (k + J2.2.2.2.2.cells) (n + J2.2.2.2.2.slots)) {st2 : List Value} (hs : As.reverse ++ .ref b :: st = st2) : G Z J E Q pc ls st2 ws k n := by
  intro p l e s m args below meth c A H locs lsA C hE hP hD hS hL
  subst hs
  obtain ⟨l1, l2, l3, l4, l5, l6⟩ := hlk
  have hPc : va_P Z.1 vwCl wc H := by
    intro j q hq
    have h1 : (ic.map (fun i => ws[i]?))[j]? = some (some q) := by rw [hC, List.getElem?_map, hq]; rfl
    rw [List.getElem?_map] at h1
    cases hi : ic[j]? with
    | none => rw [hi] at h1; cases h1
    | some i => rw [hi] at h1; exact hP i q (Option.some.inj h1)
  have hDc := hD.sub ic hnc hC
  have hFc := va_free (wc := wc) hD hS C.hA ic hC
  refine va_callg (va_runV (As := As) (rest := st) ⟨C.ex, C.by, C.ml, C.ow, C.ts⟩ (hT l H.size) (cwV As.length C.ts (wt_GI_cons l1 (wt_GI_cons l2 (wt_GI_cons l3 (wt_GI_cons l4 (wt_GI_cons l5 wt_GI))))) rfl rfl rfl ⟨rfl, l6⟩ hfit) ⟨pcB, va_recv C.kk hP hc he, fun U hU hW => ⟨rfl, by rw [hU], by rw [hU]; exact hPc, C.en.warm hW, hDc.weaken (fun _ _ _ _ => trivial)⟩⟩ rfl rfl (hL.size) rfl (lv_room hst) d ⟨h1, h2⟩) hS (fun q _ h => hFc q h) hFc (fun r w2 H1 locs1 hp hP1 hD1 hz hk1 hS1 => ?_)
  obtain ⟨hP2, hD2⟩ := va_join (wr := wr) (w1 := w2) hP hD ic ir hC hR hn hdis hk1 hFc hP1 hD1
  exact K r w2 hp p l e s m args below meth c A H1 locs1 lsA C hE hP2 hD2 hS1 hL
theorem g_callS {post : Option Value → va_W → Prop} {J2 : MD} {As : List Value} {i : Nat} {wc wr : va_W} (ic ir : List Nat) (hlk : lkS J.1.cls i J2 As.length) (hT : Tr Z J2 As wc post) (d : decode J.2.1 pc = .ok (.invokestatic i, 3)) (hfit : fitR J J2)
    (hC : ic.map (fun i => ws[i]?) = wc.map some) (hR : ir.map (fun i => ws[i]?) = wr.map some) (hn : va_nd ir = true) (hdis : ∀ i ∈ ir, i ∉ ic) (hnc : va_nd ic = true) (hst : (st.map fun v => v.category).sum ≤ 8) (h1 : k + J2.2.2.2.2.cells ≤ J.2.2.2.2.cells) (h2 : n + J2.2.2.2.2.slots ≤ J.2.2.2.2.slots)
    (K : ∀ (r : Option Value) (w2 : va_W), post r w2 → G Z J E Q (pc + 3) ls (r.toList ++ st) (wr ++ w2) (k + J2.2.2.2.2.cells) (n + J2.2.2.2.2.slots)) {st2 : List Value} (hs : As.reverse ++ st = st2) : G Z J E Q pc ls st2 ws k n := by
  intro p l e s m args below meth c A H locs lsA C hE hP hD hS hL
  subst hs
  obtain ⟨l1, l2, l4, l5, l6⟩ := hlk
  have hPc : va_P Z.1 vwCl wc H := by
    intro j q hq
    have h1 : (ic.map (fun i => ws[i]?))[j]? = some (some q) := by rw [hC, List.getElem?_map, hq]; rfl
    rw [List.getElem?_map] at h1
    cases hi : ic[j]? with
    | none => rw [hi] at h1; cases h1
    | some i => rw [hi] at h1; exact hP i q (Option.some.inj h1)
  have hDc := hD.sub ic hnc hC
  have hFc := va_free (wc := wc) hD hS C.hA ic hC
  refine va_callg (va_runS (As := As) (rest := st) ⟨C.ex, C.by, C.ml, C.ow, C.ts⟩ (hT l H.size) (va_cwS As.length C.ts (wt_GI_cons l1 (wt_GI_cons l2 (wt_GI_cons l4 (wt_GI_cons l5 wt_GI)))) rfl rfl rfl l6 hfit) ⟨pcB, fun U hU hW => ⟨rfl, by rw [hU], by rw [hU]; exact hPc, C.en.warm hW, hDc.weaken (fun _ _ _ _ => trivial)⟩⟩ rfl rfl (hL.size) rfl (lv_room hst) d ⟨h1, h2⟩) hS (fun q _ h => hFc q h) hFc (fun r w2 H1 locs1 hp hP1 hD1 hz hk1 hS1 => ?_)
  obtain ⟨hP2, hD2⟩ := va_join (wr := wr) (w1 := w2) hP hD ic ir hC hR hn hdis hk1 hFc hP1 hD1
  exact K r w2 hp p l e s m args below meth c A H1 locs1 lsA C hE hP2 hD2 hS1 hL
theorem g_callI {post : Option Value → va_W → Prop} {J2 : MD} {As : List Value} {b i : Nat} {wc wr : va_W} (ic ir : List Nat) (hlk : lkI J.1.cls i J2 As.length) (hT : Tr Z J2 (.ref b :: As) wc post) (d : decode J.2.1 pc = .ok (.invokespecial i, 3)) (hfit : fitR J J2)
    (hC : ic.map (fun i => ws[i]?) = wc.map some) (hR : ir.map (fun i => ws[i]?) = wr.map some) (hn : va_nd ir = true) (hdis : ∀ i ∈ ir, i ∉ ic) (hnc : va_nd ic = true) (hst : (st.map fun v => v.category).sum ≤ 8) (h1 : k + J2.2.2.2.2.cells ≤ J.2.2.2.2.cells) (h2 : n + J2.2.2.2.2.slots ≤ J.2.2.2.2.slots)
    (K : ∀ (r : Option Value) (w2 : va_W), post r w2 → G Z J E Q (pc + 3) ls (r.toList ++ st) (wr ++ w2) (k + J2.2.2.2.2.cells) (n + J2.2.2.2.2.slots)) {st2 : List Value} (hs : As.reverse ++ .ref b :: st = st2) : G Z J E Q pc ls st2 ws k n := by
  intro p l e s m args below meth c A H locs lsA C hE hP hD hS hL
  subst hs
  obtain ⟨l1, l2, l4, l5, l6, l7, l8⟩ := hlk
  have hPc : va_P Z.1 vwCl wc H := by
    intro j q hq
    have h1 : (ic.map (fun i => ws[i]?))[j]? = some (some q) := by rw [hC, List.getElem?_map, hq]; rfl
    rw [List.getElem?_map] at h1
    cases hi : ic[j]? with
    | none => rw [hi] at h1; cases h1
    | some i => rw [hi] at h1; exact hP i q (Option.some.inj h1)
  have hDc := hD.sub ic hnc hC
  have hFc := va_free (wc := wc) hD hS C.hA ic hC
  have hM := hT l H.size
  have l5' := l5
  unfold cdW at l5'
  rw [l8] at hM l5'
  refine va_callg (va_runI (As := As) (rest := st) ⟨C.ex, C.by, C.ml, C.ow, C.ts⟩ hM (cwI As.length C.ts (wt_GI_cons l5' wt_GI) rfl rfl rfl (C.ts _ l4) (C.ts _ l1) (C.ts _ l2) l7 l6 hfit) ⟨pcB, fun U hU hW => ⟨rfl, by rw [hU], by rw [hU]; exact hPc, C.en.warm hW, hDc.weaken (fun _ _ _ _ => trivial)⟩⟩ rfl rfl (hL.size) rfl (lv_room hst) d ⟨h1, h2⟩) hS (fun q _ h => hFc q h) hFc (fun r w2 H1 locs1 hp hP1 hD1 hz hk1 hS1 => ?_)
  obtain ⟨hP2, hD2⟩ := va_join (wr := wr) (w1 := w2) hP hD ic ir hC hR hn hdis hk1 hFc hP1 hD1
  exact K r w2 hp p l e s m args below meth c A H1 locs1 lsA C hE hP2 hD2 hS1 hL
end Calls
end
section
-- words of the tables
theorem clL_7 : Cond.classLink RL 7 RX8 ∈ WT := wt_of 58 (by decide +kernel) rfl
theorem clX8_11 : Cond.classLink RX8 11 RX0 ∈ WT := wt_of 66 (by decide +kernel) rfl
theorem clX0_9 : Cond.classLink RX0 9 RX5 ∈ WT := wt_of 72 (by decide +kernel) rfl
theorem flX0_11 : Cond.fieldLink RX0 11 "ManyPens$Book" "slips" "[LManyPens$Slip;" ∈ WT := wt_of 74 (by decide +kernel) rfl
theorem flX4_48 : Cond.fieldLink RX4 48 "ManyPens$Book" "slips" "[LManyPens$Slip;" ∈ WT := wt_of 75 (by decide +kernel) rfl
theorem flX8_144 : Cond.fieldLink RX8 144 "ManyPens$Book" "slips" "[LManyPens$Slip;" ∈ WT := wt_of 76 (by decide +kernel) rfl
theorem flX3_130 : Cond.fieldLink RX3 130 "ManyPens$Book" "slips" "[LManyPens$Slip;" ∈ WT := wt_of 77 (by decide +kernel) rfl
theorem flX0_17 : Cond.fieldLink RX0 17 "ManyPens$Book" "byAge" "[LManyPens$Slip;" ∈ WT := wt_of 78 (by decide +kernel) rfl
theorem flX3_96 : Cond.fieldLink RX3 96 "ManyPens$Book" "byAge" "[LManyPens$Slip;" ∈ WT := wt_of 79 (by decide +kernel) rfl
theorem flX8_221 : Cond.fieldLink RX8 221 "ManyPens$Book" "byAge" "[LManyPens$Slip;" ∈ WT := wt_of 80 (by decide +kernel) rfl
theorem flX0_20 : Cond.fieldLink RX0 20 "ManyPens$Book" "order" "[I" ∈ WT := wt_of 81 (by decide +kernel) rfl
theorem flX3_147 : Cond.fieldLink RX3 147 "ManyPens$Book" "order" "[I" ∈ WT := wt_of 82 (by decide +kernel) rfl
theorem flX0_24 : Cond.fieldLink RX0 24 "ManyPens$Book" "count" "I" ∈ WT := wt_of 83 (by decide +kernel) rfl
theorem flX8_77 : Cond.fieldLink RX8 77 "ManyPens$Book" "count" "I" ∈ WT := wt_of 84 (by decide +kernel) rfl
theorem flX4_43 : Cond.fieldLink RX4 43 "ManyPens$Book" "count" "I" ∈ WT := wt_of 85 (by decide +kernel) rfl
theorem flX3_91 : Cond.fieldLink RX3 91 "ManyPens$Book" "count" "I" ∈ WT := wt_of 86 (by decide +kernel) rfl
theorem flX0_64 : Cond.fieldLink RX0 64 "ManyPens$Book" "orderSize" "I" ∈ WT := wt_of 87 (by decide +kernel) rfl
theorem flX3_146 : Cond.fieldLink RX3 146 "ManyPens$Book" "orderSize" "I" ∈ WT := wt_of 88 (by decide +kernel) rfl
theorem clX8_18 : Cond.classLink RX8 18 RX4 ∈ WT := wt_of 101 (by decide +kernel) rfl
theorem flX5_13 : Cond.fieldLink RX5 13 "ManyPens$Sheet" "pen" "I" ∈ WT := wt_of 111 (by decide +kernel) rfl
theorem flX4_25 : Cond.fieldLink RX4 25 "ManyPens$Sheet" "pen" "I" ∈ WT := wt_of 112 (by decide +kernel) rfl
theorem flX4_9 : Cond.fieldLink RX4 9 "ManyPens$Sheet" "held" "[I" ∈ WT := wt_of 113 (by decide +kernel) rfl
theorem flX8_151 : Cond.fieldLink RX8 151 "ManyPens$Sheet" "held" "[I" ∈ WT := wt_of 114 (by decide +kernel) rfl
theorem flX4_15 : Cond.fieldLink RX4 15 "ManyPens$Sheet" "beside" "[I" ∈ WT := wt_of 115 (by decide +kernel) rfl
theorem flX8_235 : Cond.fieldLink RX8 235 "ManyPens$Sheet" "beside" "[I" ∈ WT := wt_of 116 (by decide +kernel) rfl
theorem flX4_18 : Cond.fieldLink RX4 18 "ManyPens$Sheet" "leans" "[I" ∈ WT := wt_of 117 (by decide +kernel) rfl
theorem flX8_238 : Cond.fieldLink RX8 238 "ManyPens$Sheet" "leans" "[I" ∈ WT := wt_of 118 (by decide +kernel) rfl
theorem flX5_19 : Cond.fieldLink RX5 19 "ManyPens$Sheet" "greatestStamp" "I" ∈ WT := wt_of 119 (by decide +kernel) rfl
theorem flX4_76 : Cond.fieldLink RX4 76 "ManyPens$Sheet" "greatestStamp" "I" ∈ WT := wt_of 120 (by decide +kernel) rfl
theorem flX4_21 : Cond.fieldLink RX4 21 "ManyPens$Sheet" "lastMade" "I" ∈ WT := wt_of 121 (by decide +kernel) rfl
theorem flX5_25 : Cond.fieldLink RX5 25 "ManyPens$Sheet" "lastMade" "I" ∈ WT := wt_of 122 (by decide +kernel) rfl
theorem clX8_27 : Cond.classLink RX8 27 RX3 ∈ WT := wt_of 136 (by decide +kernel) rfl
theorem flX3_33 : Cond.fieldLink RX3 33 "ManyPens$Reading" "book" "LManyPens$Book;" ∈ WT := wt_of 143 (by decide +kernel) rfl
theorem flX3_9 : Cond.fieldLink RX3 9 "ManyPens$Reading" "standing" "[I" ∈ WT := wt_of 144 (by decide +kernel) rfl
theorem flX3_15 : Cond.fieldLink RX3 15 "ManyPens$Reading" "order" "[I" ∈ WT := wt_of 145 (by decide +kernel) rfl
theorem flX8_203 : Cond.fieldLink RX8 203 "ManyPens$Reading" "order" "[I" ∈ WT := wt_of 146 (by decide +kernel) rfl
theorem flX3_18 : Cond.fieldLink RX3 18 "ManyPens$Reading" "spots" "[I" ∈ WT := wt_of 147 (by decide +kernel) rfl
theorem flX3_21 : Cond.fieldLink RX3 21 "ManyPens$Reading" "struck" "[I" ∈ WT := wt_of 148 (by decide +kernel) rfl
theorem flX8_215 : Cond.fieldLink RX8 215 "ManyPens$Reading" "struck" "[I" ∈ WT := wt_of 149 (by decide +kernel) rfl
theorem flX3_24 : Cond.fieldLink RX3 24 "ManyPens$Reading" "ahead" "[I" ∈ WT := wt_of 150 (by decide +kernel) rfl
theorem flX8_212 : Cond.fieldLink RX8 212 "ManyPens$Reading" "ahead" "[I" ∈ WT := wt_of 151 (by decide +kernel) rfl
theorem flX3_27 : Cond.fieldLink RX3 27 "ManyPens$Reading" "seen" "[I" ∈ WT := wt_of 152 (by decide +kernel) rfl
theorem flX3_30 : Cond.fieldLink RX3 30 "ManyPens$Reading" "tints" "[I" ∈ WT := wt_of 153 (by decide +kernel) rfl
theorem flX3_88 : Cond.fieldLink RX3 88 "ManyPens$Reading" "orderSize" "I" ∈ WT := wt_of 154 (by decide +kernel) rfl
theorem flX8_200 : Cond.fieldLink RX8 200 "ManyPens$Reading" "orderSize" "I" ∈ WT := wt_of 155 (by decide +kernel) rfl
theorem flX8_61 : Cond.fieldLink RX8 61 "ManyPens$Reading" "textSize" "I" ∈ WT := wt_of 156 (by decide +kernel) rfl
theorem flX3_65 : Cond.fieldLink RX3 65 "ManyPens$Reading" "textSize" "I" ∈ WT := wt_of 157 (by decide +kernel) rfl
theorem flX8_14 : Cond.fieldLink RX8 14 "ManyPens" "book" "LManyPens$Book;" ∈ WT := wt_of 179 (by decide +kernel) rfl
theorem flX8_20 : Cond.fieldLink RX8 20 "ManyPens" "sheets" "[LManyPens$Sheet;" ∈ WT := wt_of 180 (by decide +kernel) rfl
theorem flX8_32 : Cond.fieldLink RX8 32 "ManyPens" "reading" "LManyPens$Reading;" ∈ WT := wt_of 181 (by decide +kernel) rfl
theorem flX8_36 : Cond.fieldLink RX8 36 "ManyPens" "looks" "[I" ∈ WT := wt_of 182 (by decide +kernel) rfl
theorem flX8_40 : Cond.fieldLink RX8 40 "ManyPens" "finding" "I" ∈ WT := wt_of 183 (by decide +kernel) rfl
theorem kcX8_52 : Cond.constant RX8 52 (2147483647) ∈ WT := wt_of 207 (by decide +kernel) rfl
theorem clX3_141 : Cond.classLink RX3 141 RX7 ∈ WT := wt_of 224 (by decide +kernel) rfl
theorem clX3_151 : Cond.classLink RX3 151 RX6 ∈ WT := wt_of 236 (by decide +kernel) rfl
theorem clJ7_317 : Cond.classLink RJ7 317 "[I" ∈ WT := wt_of 261 (by decide +kernel) rfl
theorem clX8_75 : Cond.classLink RX8 75 RX2 ∈ WT := wt_of 283 (by decide +kernel) rfl
theorem flX2_9 : Cond.fieldLink RX2 9 "ManyPens$Put" "left" "I" ∈ WT := wt_of 292 (by decide +kernel) rfl
theorem flX0_70 : Cond.fieldLink RX0 70 "ManyPens$Put" "left" "I" ∈ WT := wt_of 293 (by decide +kernel) rfl
theorem flX8_171 : Cond.fieldLink RX8 171 "ManyPens$Put" "left" "I" ∈ WT := wt_of 294 (by decide +kernel) rfl
theorem flX2_15 : Cond.fieldLink RX2 15 "ManyPens$Put" "codes" "[I" ∈ WT := wt_of 295 (by decide +kernel) rfl
theorem flX0_50 : Cond.fieldLink RX0 50 "ManyPens$Put" "codes" "[I" ∈ WT := wt_of 296 (by decide +kernel) rfl
theorem flX5_7 : Cond.fieldLink RX5 7 "ManyPens$Slip" "number" "I" ∈ WT := wt_of 297 (by decide +kernel) rfl
theorem flX4_34 : Cond.fieldLink RX4 34 "ManyPens$Slip" "number" "I" ∈ WT := wt_of 298 (by decide +kernel) rfl
theorem flX3_59 : Cond.fieldLink RX3 59 "ManyPens$Slip" "number" "I" ∈ WT := wt_of 299 (by decide +kernel) rfl
theorem flX2_19 : Cond.fieldLink RX2 19 "ManyPens$Put" "number" "I" ∈ WT := wt_of 300 (by decide +kernel) rfl
theorem flX8_127 : Cond.fieldLink RX8 127 "ManyPens$Slip" "number" "I" ∈ WT := wt_of 302 (by decide +kernel) rfl
theorem flX5_18 : Cond.fieldLink RX5 18 "ManyPens$Slip" "pen" "I" ∈ WT := wt_of 303 (by decide +kernel) rfl
theorem flX8_116 : Cond.fieldLink RX8 116 "ManyPens$Slip" "pen" "I" ∈ WT := wt_of 304 (by decide +kernel) rfl
theorem flX0_53 : Cond.fieldLink RX0 53 "ManyPens$Slip" "pen" "I" ∈ WT := wt_of 305 (by decide +kernel) rfl
theorem flX5_22 : Cond.fieldLink RX5 22 "ManyPens$Slip" "stamp" "I" ∈ WT := wt_of 306 (by decide +kernel) rfl
theorem flX4_79 : Cond.fieldLink RX4 79 "ManyPens$Slip" "stamp" "I" ∈ WT := wt_of 307 (by decide +kernel) rfl
theorem flX8_158 : Cond.fieldLink RX8 158 "ManyPens$Slip" "stamp" "I" ∈ WT := wt_of 308 (by decide +kernel) rfl
theorem flX3_138 : Cond.fieldLink RX3 138 "ManyPens$Slip" "stamp" "I" ∈ WT := wt_of 309 (by decide +kernel) rfl
theorem flX5_28 : Cond.fieldLink RX5 28 "ManyPens$Slip" "prior" "I" ∈ WT := wt_of 310 (by decide +kernel) rfl
theorem flX4_56 : Cond.fieldLink RX4 56 "ManyPens$Slip" "prior" "I" ∈ WT := wt_of 311 (by decide +kernel) rfl
theorem clX0_36 : Cond.classLink RX0 36 RX2 ∈ WT := wt_of 346 (by decide +kernel) rfl
theorem clX8_91 : Cond.classLink RX8 91 RX6 ∈ WT := wt_of 384 (by decide +kernel) rfl
theorem flX6_9 : Cond.fieldLink RX6 9 "ManyPens$Strike" "names" "[I" ∈ WT := wt_of 396 (by decide +kernel) rfl
theorem flX3_157 : Cond.fieldLink RX3 157 "ManyPens$Strike" "names" "[I" ∈ WT := wt_of 397 (by decide +kernel) rfl
theorem clX8_107 : Cond.classLink RX8 107 RX1 ∈ WT := wt_of 416 (by decide +kernel) rfl
theorem flX1_9 : Cond.fieldLink RX1 9 "ManyPens$Mark" "first" "I" ∈ WT := wt_of 422 (by decide +kernel) rfl
theorem flX3_113 : Cond.fieldLink RX3 113 "ManyPens$Mark" "first" "I" ∈ WT := wt_of 423 (by decide +kernel) rfl
theorem flX1_15 : Cond.fieldLink RX1 15 "ManyPens$Mark" "last" "I" ∈ WT := wt_of 424 (by decide +kernel) rfl
theorem flX3_127 : Cond.fieldLink RX3 127 "ManyPens$Mark" "last" "I" ∈ WT := wt_of 425 (by decide +kernel) rfl
theorem flX1_18 : Cond.fieldLink RX1 18 "ManyPens$Mark" "bound" "I" ∈ WT := wt_of 426 (by decide +kernel) rfl
theorem flX8_174 : Cond.fieldLink RX8 174 "ManyPens$Mark" "bound" "I" ∈ WT := wt_of 427 (by decide +kernel) rfl
theorem flX3_124 : Cond.fieldLink RX3 124 "ManyPens$Mark" "bound" "I" ∈ WT := wt_of 428 (by decide +kernel) rfl
theorem flX1_21 : Cond.fieldLink RX1 21 "ManyPens$Mark" "tint" "I" ∈ WT := wt_of 429 (by decide +kernel) rfl
theorem flX3_110 : Cond.fieldLink RX3 110 "ManyPens$Mark" "tint" "I" ∈ WT := wt_of 430 (by decide +kernel) rfl
theorem flX1_24 : Cond.fieldLink RX1 24 "ManyPens$Mark" "on" "Z" ∈ WT := wt_of 431 (by decide +kernel) rfl
theorem flX3_120 : Cond.fieldLink RX3 120 "ManyPens$Mark" "on" "Z" ∈ WT := wt_of 432 (by decide +kernel) rfl
theorem clX8_125 : Cond.classLink RX8 125 RX7 ∈ WT := wt_of 460 (by decide +kernel) rfl
theorem flX7_9 : Cond.fieldLink RX7 9 "ManyPens$Undo" "undone" "I" ∈ WT := wt_of 466 (by decide +kernel) rfl
theorem flX8_177 : Cond.fieldLink RX8 177 "ManyPens$Undo" "undone" "I" ∈ WT := wt_of 467 (by decide +kernel) rfl
theorem flX3_143 : Cond.fieldLink RX3 143 "ManyPens$Undo" "undone" "I" ∈ WT := wt_of 468 (by decide +kernel) rfl
theorem clX3_100 : Cond.classLink RX3 100 RX1 ∈ WT := wt_of 642 (by decide +kernel) rfl
theorem clL_10 : Cond.classLink RL 10 RX9 ∈ WT := wt_of 730 (by decide +kernel) rfl
theorem flX9_7 : Cond.fieldLink RX9 7 "ManyPensModel" "penOf" "[I" ∈ WT := wt_of 736 (by decide +kernel) rfl
theorem flX9_13 : Cond.fieldLink RX9 13 "ManyPensModel" "stampOf" "[I" ∈ WT := wt_of 737 (by decide +kernel) rfl
theorem flX9_16 : Cond.fieldLink RX9 16 "ManyPensModel" "kindOf" "[I" ∈ WT := wt_of 738 (by decide +kernel) rfl
theorem flX9_19 : Cond.fieldLink RX9 19 "ManyPensModel" "sizeOf" "[I" ∈ WT := wt_of 739 (by decide +kernel) rfl
theorem flX9_22 : Cond.fieldLink RX9 22 "ManyPensModel" "signOf" "[I" ∈ WT := wt_of 740 (by decide +kernel) rfl
theorem flX9_25 : Cond.fieldLink RX9 25 "ManyPensModel" "codeOf" "[I" ∈ WT := wt_of 741 (by decide +kernel) rfl
theorem flX9_28 : Cond.fieldLink RX9 28 "ManyPensModel" "linkOf" "[I" ∈ WT := wt_of 742 (by decide +kernel) rfl
theorem flX9_31 : Cond.fieldLink RX9 31 "ManyPensModel" "tintOf" "[I" ∈ WT := wt_of 743 (by decide +kernel) rfl
theorem flX9_34 : Cond.fieldLink RX9 34 "ManyPensModel" "isOn" "[Z" ∈ WT := wt_of 744 (by decide +kernel) rfl
theorem flX9_84 : Cond.fieldLink RX9 84 "ManyPensModel" "slips" "I" ∈ WT := wt_of 745 (by decide +kernel) rfl
theorem flX9_38 : Cond.fieldLink RX9 38 "ManyPensModel" "got" "[Z" ∈ WT := wt_of 746 (by decide +kernel) rfl
theorem flX9_41 : Cond.fieldLink RX9 41 "ManyPensModel" "beside" "[I" ∈ WT := wt_of 747 (by decide +kernel) rfl
theorem flX9_44 : Cond.fieldLink RX9 44 "ManyPensModel" "leanOf" "[I" ∈ WT := wt_of 748 (by decide +kernel) rfl
theorem flX9_80 : Cond.fieldLink RX9 80 "ManyPensModel" "finding" "I" ∈ WT := wt_of 749 (by decide +kernel) rfl
theorem flX9_47 : Cond.fieldLink RX9 47 "ManyPensModel" "taken" "[Z" ∈ WT := wt_of 750 (by decide +kernel) rfl
theorem flX9_50 : Cond.fieldLink RX9 50 "ManyPensModel" "works" "[Z" ∈ WT := wt_of 751 (by decide +kernel) rfl
theorem flX9_53 : Cond.fieldLink RX9 53 "ManyPensModel" "order" "[I" ∈ WT := wt_of 752 (by decide +kernel) rfl
theorem flX9_112 : Cond.fieldLink RX9 112 "ManyPensModel" "orderSize" "I" ∈ WT := wt_of 753 (by decide +kernel) rfl
theorem flX9_56 : Cond.fieldLink RX9 56 "ManyPensModel" "seen" "[Z" ∈ WT := wt_of 754 (by decide +kernel) rfl
theorem flX9_59 : Cond.fieldLink RX9 59 "ManyPensModel" "needed" "[I" ∈ WT := wt_of 755 (by decide +kernel) rfl
theorem flX9_87 : Cond.fieldLink RX9 87 "ManyPensModel" "needs" "I" ∈ WT := wt_of 756 (by decide +kernel) rfl
theorem flX9_62 : Cond.fieldLink RX9 62 "ManyPensModel" "pilePut" "[I" ∈ WT := wt_of 757 (by decide +kernel) rfl
theorem flX9_65 : Cond.fieldLink RX9 65 "ManyPensModel" "pileAt" "[I" ∈ WT := wt_of 758 (by decide +kernel) rfl
theorem flX9_105 : Cond.fieldLink RX9 105 "ManyPensModel" "piled" "I" ∈ WT := wt_of 759 (by decide +kernel) rfl
theorem flX9_68 : Cond.fieldLink RX9 68 "ManyPensModel" "three" "[I" ∈ WT := wt_of 760 (by decide +kernel) rfl
theorem flX9_71 : Cond.fieldLink RX9 71 "ManyPensModel" "other" "[Z" ∈ WT := wt_of 761 (by decide +kernel) rfl
theorem flX9_74 : Cond.fieldLink RX9 74 "ManyPensModel" "firstName" "[I" ∈ WT := wt_of 762 (by decide +kernel) rfl
theorem flX9_77 : Cond.fieldLink RX9 77 "ManyPensModel" "firstTints" "[I" ∈ WT := wt_of 763 (by decide +kernel) rfl
theorem inX8 : Cond.initialized RX8 ∈ WT := wt_of 45 (by decide +kernel) rfl
theorem inX0 : Cond.initialized RX0 ∈ WT := wt_of 46 (by decide +kernel) rfl
theorem inX1 : Cond.initialized RX1 ∈ WT := wt_of 56 (by decide +kernel) rfl
theorem inX2 : Cond.initialized RX2 ∈ WT := wt_of 54 (by decide +kernel) rfl
theorem inX3 : Cond.initialized RX3 ∈ WT := wt_of 49 (by decide +kernel) rfl
theorem inX4 : Cond.initialized RX4 ∈ WT := wt_of 47 (by decide +kernel) rfl
theorem inX5 : Cond.initialized RX5 ∈ WT := wt_of 53 (by decide +kernel) rfl
theorem inX6 : Cond.initialized RX6 ∈ WT := wt_of 55 (by decide +kernel) rfl
theorem inX7 : Cond.initialized RX7 ∈ WT := wt_of 57 (by decide +kernel) rfl
theorem inL : Cond.initialized RL ∈ WT := wt_of 44 (by decide +kernel) rfl
theorem inX9 : Cond.initialized RX9 ∈ WT := wt_of 50 (by decide +kernel) rfl
theorem inJ9 : Cond.initialized RJ9 ∈ WT := wt_of 51 (by decide +kernel) rfl
theorem inJ10 : Cond.initialized RJ10 ∈ WT := wt_of 52 (by decide +kernel) rfl
theorem inJ7 : Cond.initialized RJ7 ∈ WT := wt_of 48 (by decide +kernel) rfl
theorem isX8 : Cond.instantiable RX8 5 ∈ WT := wt_of 59 (by decide +kernel) rfl
theorem isX0 : Cond.instantiable RX0 5 ∈ WT := wt_of 67 (by decide +kernel) rfl
theorem isX4 : Cond.instantiable RX4 6 ∈ WT := wt_of 103 (by decide +kernel) rfl
theorem isX3 : Cond.instantiable RX3 10 ∈ WT := wt_of 137 (by decide +kernel) rfl
theorem isX2 : Cond.instantiable RX2 6 ∈ WT := wt_of 284 (by decide +kernel) rfl
theorem isX6 : Cond.instantiable RX6 5 ∈ WT := wt_of 385 (by decide +kernel) rfl
theorem isX1 : Cond.instantiable RX1 9 ∈ WT := wt_of 417 (by decide +kernel) rfl
theorem isX7 : Cond.instantiable RX7 5 ∈ WT := wt_of 461 (by decide +kernel) rfl
theorem isX9 : Cond.instantiable RX9 28 ∈ WT := wt_of 731 (by decide +kernel) rfl
theorem ac_int : Cond.arrayClass .int ∈ WT := wt_of 100 (by decide +kernel) rfl
theorem ac_boolean : Cond.arrayClass .boolean ∈ WT := wt_of 821 (by decide +kernel) rfl
theorem fwX0 : ∀ w ∈ u_ws RX0 TX0 5, w ∈ WT := by
  have h : (u_ws RX0 TX0 5).all (fun w => decide (w ∈ lw_tbl) && goodWord w) = true := by decide +kernel
  intro w hw
  have h2 := List.all_eq_true.mp h w hw
  simp only [Bool.and_eq_true, decide_eq_true_eq] at h2
  exact List.mem_filter.mpr ⟨h2.1, h2.2⟩
theorem fwX1 : ∀ w ∈ u_ws RX1 TX1 9, w ∈ WT := by
  have h : (u_ws RX1 TX1 9).all (fun w => decide (w ∈ lw_tbl) && goodWord w) = true := by decide +kernel
  intro w hw
  have h2 := List.all_eq_true.mp h w hw
  simp only [Bool.and_eq_true, decide_eq_true_eq] at h2
  exact List.mem_filter.mpr ⟨h2.1, h2.2⟩
theorem fwX2 : ∀ w ∈ u_ws RX2 TX2 6, w ∈ WT := by
  have h : (u_ws RX2 TX2 6).all (fun w => decide (w ∈ lw_tbl) && goodWord w) = true := by decide +kernel
  intro w hw
  have h2 := List.all_eq_true.mp h w hw
  simp only [Bool.and_eq_true, decide_eq_true_eq] at h2
  exact List.mem_filter.mpr ⟨h2.1, h2.2⟩
theorem fwX3 : ∀ w ∈ u_ws RX3 TX3 10, w ∈ WT := by
  have h : (u_ws RX3 TX3 10).all (fun w => decide (w ∈ lw_tbl) && goodWord w) = true := by decide +kernel
  intro w hw
  have h2 := List.all_eq_true.mp h w hw
  simp only [Bool.and_eq_true, decide_eq_true_eq] at h2
  exact List.mem_filter.mpr ⟨h2.1, h2.2⟩
theorem fwX4 : ∀ w ∈ u_ws RX4 TX4 6, w ∈ WT := by
  have h : (u_ws RX4 TX4 6).all (fun w => decide (w ∈ lw_tbl) && goodWord w) = true := by decide +kernel
  intro w hw
  have h2 := List.all_eq_true.mp h w hw
  simp only [Bool.and_eq_true, decide_eq_true_eq] at h2
  exact List.mem_filter.mpr ⟨h2.1, h2.2⟩
theorem fwX6 : ∀ w ∈ u_ws RX6 TX6 5, w ∈ WT := by
  have h : (u_ws RX6 TX6 5).all (fun w => decide (w ∈ lw_tbl) && goodWord w) = true := by decide +kernel
  intro w hw
  have h2 := List.all_eq_true.mp h w hw
  simp only [Bool.and_eq_true, decide_eq_true_eq] at h2
  exact List.mem_filter.mpr ⟨h2.1, h2.2⟩
theorem fwX7 : ∀ w ∈ u_ws RX7 TX7 5, w ∈ WT := by
  have h : (u_ws RX7 TX7 5).all (fun w => decide (w ∈ lw_tbl) && goodWord w) = true := by decide +kernel
  intro w hw
  have h2 := List.all_eq_true.mp h w hw
  simp only [Bool.and_eq_true, decide_eq_true_eq] at h2
  exact List.mem_filter.mpr ⟨h2.1, h2.2⟩
theorem fwX8 : ∀ w ∈ u_ws RX8 TX8 5, w ∈ WT := by
  have h : (u_ws RX8 TX8 5).all (fun w => decide (w ∈ lw_tbl) && goodWord w) = true := by decide +kernel
  intro w hw
  have h2 := List.all_eq_true.mp h w hw
  simp only [Bool.and_eq_true, decide_eq_true_eq] at h2
  exact List.mem_filter.mpr ⟨h2.1, h2.2⟩
theorem fwX9 : ∀ w ∈ u_ws RX9 TX9 28, w ∈ WT := by
  have h : (u_ws RX9 TX9 28).all (fun w => decide (w ∈ lw_tbl) && goodWord w) = true := by decide +kernel
  intro w hw
  have h2 := List.all_eq_true.mp h w hw
  simp only [Bool.and_eq_true, decide_eq_true_eq] at h2
  exact List.mem_filter.mpr ⟨h2.1, h2.2⟩
abbrev jX8_init : MD := (yX8_init, cX8_init, 2, none, { frames := 2, cells := 38, slots := 8798, locals := 45 })
theorem cd_X8_init : cdW jX8_init ∈ WT := wt_of 62 (by decide +kernel) rfl
theorem pn_X8_init : plainName jX8_init.1.cls = true := by decide +kernel
abbrev jX0_init : MD := (yX0_init, cX0_init, 1, none, { frames := 1, cells := 3, slots := 1280, locals := 24 })
theorem cd_X0_init : cdW jX0_init ∈ WT := wt_of 70 (by decide +kernel) rfl
theorem pn_X0_init : plainName jX0_init.1.cls = true := by decide +kernel
abbrev jX4_init : MD := (yX4_init, cX4_init, 2, none, { frames := 1, cells := 3, slots := 262, locals := 24 })
theorem cd_X4_init : cdW jX4_init ∈ WT := wt_of 106 (by decide +kernel) rfl
theorem pn_X4_init : plainName jX4_init.1.cls = true := by decide +kernel
abbrev jJ7_fill_53178 : MD := (yJ7_fill_53178, cJ7_fill_53178, 4, none, { frames := 0, cells := 0, slots := 0, locals := 0 })
theorem cd_J7_fill_53178 : cdW jJ7_fill_53178 ∈ WT := wt_of 110 (by decide +kernel) rfl
theorem pn_J7_fill_53178 : plainName jJ7_fill_53178.1.cls = true := by decide +kernel
abbrev jX3_init : MD := (yX3_init, cX3_init, 2, none, { frames := 1, cells := 7, slots := 5121, locals := 24 })
theorem cd_X3_init : cdW jX3_init ∈ WT := wt_of 140 (by decide +kernel) rfl
theorem pn_X3_init : plainName jX3_init.1.cls = true := by decide +kernel
abbrev jX8_type : MD := (yX8_type, cX8_type, 9, (some FieldType.int), { frames := 5, cells := 3, slots := 12, locals := 111 })
theorem cd_X8_type : cdW jX8_type ∈ WT := wt_of 198 (by decide +kernel) rfl
theorem pn_X8_type : plainName jX8_type.1.cls = true := by decide +kernel
abbrev jX8_sheetOf : MD := (yX8_sheetOf, cX8_sheetOf, 2, (some (FieldType.object "ManyPens$Sheet")), { frames := 0, cells := 0, slots := 0, locals := 0 })
theorem cd_X8_sheetOf : cdW jX8_sheetOf ∈ WT := wt_of 202 (by decide +kernel) rfl
theorem pn_X8_sheetOf : plainName jX8_sheetOf.1.cls = true := by decide +kernel
abbrev jX8_refuse : MD := (yX8_refuse, cX8_refuse, 2, (some FieldType.int), { frames := 0, cells := 0, slots := 0, locals := 0 })
theorem cd_X8_refuse : cdW jX8_refuse ∈ WT := wt_of 206 (by decide +kernel) rfl
theorem pn_X8_refuse : plainName jX8_refuse.1.cls = true := by decide +kernel
abbrev jX3_read : MD := (yX3_read, cX3_read, 3, none, { frames := 3, cells := 0, slots := 0, locals := 67 })
theorem cd_X3_read : cdW jX3_read ∈ WT := wt_of 211 (by decide +kernel) rfl
theorem pn_X3_read : plainName jX3_read.1.cls = true := by decide +kernel
abbrev jX3_findTaken : MD := (yX3_findTaken, cX3_findTaken, 6, none, { frames := 1, cells := 0, slots := 0, locals := 21 })
theorem cd_X3_findTaken : cdW jX3_findTaken ∈ WT := wt_of 215 (by decide +kernel) rfl
theorem pn_X3_findTaken : plainName jX3_findTaken.1.cls = true := by decide +kernel
abbrev jX4_hasTaken : MD := (yX4_hasTaken, cX4_hasTaken, 2, (some FieldType.boolean), { frames := 0, cells := 0, slots := 0, locals := 0 })
theorem cd_X4_hasTaken : cdW jX4_hasTaken ∈ WT := wt_of 219 (by decide +kernel) rfl
theorem pn_X4_hasTaken : plainName jX4_hasTaken.1.cls = true := by decide +kernel
abbrev jX3_findUndone : MD := (yX3_findUndone, cX3_findUndone, 4, none, { frames := 0, cells := 0, slots := 0, locals := 0 })
theorem cd_X3_findUndone : cdW jX3_findUndone ∈ WT := wt_of 223 (by decide +kernel) rfl
theorem pn_X3_findUndone : plainName jX3_findUndone.1.cls = true := by decide +kernel
abbrev jX3_findOrder : MD := (yX3_findOrder, cX3_findOrder, 3, none, { frames := 1, cells := 0, slots := 0, locals := 20 })
theorem cd_X3_findOrder : cdW jX3_findOrder ∈ WT := wt_of 228 (by decide +kernel) rfl
theorem pn_X3_findOrder : plainName jX3_findOrder.1.cls = true := by decide +kernel
abbrev jX8_putOf : MD := (yX8_putOf, cX8_putOf, 1, (some FieldType.int), { frames := 0, cells := 0, slots := 0, locals := 0 })
theorem cd_X8_putOf : cdW jX8_putOf ∈ WT := wt_of 231 (by decide +kernel) rfl
theorem pn_X8_putOf : plainName jX8_putOf.1.cls = true := by decide +kernel
abbrev jX3_findStruck : MD := (yX3_findStruck, cX3_findStruck, 4, none, { frames := 2, cells := 0, slots := 0, locals := 44 })
theorem cd_X3_findStruck : cdW jX3_findStruck ∈ WT := wt_of 235 (by decide +kernel) rfl
theorem pn_X3_findStruck : plainName jX3_findStruck.1.cls = true := by decide +kernel
abbrev jX3_countStruck : MD := (yX3_countStruck, cX3_countStruck, 4, none, { frames := 1, cells := 0, slots := 0, locals := 21 })
theorem cd_X3_countStruck : cdW jX3_countStruck ∈ WT := wt_of 240 (by decide +kernel) rfl
theorem pn_X3_countStruck : plainName jX3_countStruck.1.cls = true := by decide +kernel
abbrev jX3_spotOf : MD := (yX3_spotOf, cX3_spotOf, 2, (some FieldType.int), { frames := 0, cells := 0, slots := 0, locals := 0 })
theorem cd_X3_spotOf : cdW jX3_spotOf ∈ WT := wt_of 244 (by decide +kernel) rfl
theorem pn_X3_spotOf : plainName jX3_spotOf.1.cls = true := by decide +kernel
abbrev jX3_findSeen : MD := (yX3_findSeen, cX3_findSeen, 2, none, { frames := 1, cells := 0, slots := 0, locals := 20 })
theorem cd_X3_findSeen : cdW jX3_findSeen ∈ WT := wt_of 248 (by decide +kernel) rfl
theorem pn_X3_findSeen : plainName jX3_findSeen.1.cls = true := by decide +kernel
abbrev jX8_codesAheadOfNone : MD := (yX8_codesAheadOfNone, cX8_codesAheadOfNone, 5, (some (FieldType.array FieldType.int)), { frames := 2, cells := 2, slots := 6, locals := 46 })
theorem cd_X8_codesAheadOfNone : cdW jX8_codesAheadOfNone ∈ WT := wt_of 251 (by decide +kernel) rfl
theorem pn_X8_codesAheadOfNone : plainName jX8_codesAheadOfNone.1.cls = true := by decide +kernel
abbrev jJ7_copyOf_59c91 : MD := (yJ7_copyOf_59c91, cJ7_copyOf_59c91, 3, (some (FieldType.array FieldType.int)), { frames := 1, cells := 1, slots := 3, locals := 24 })
theorem cd_J7_copyOf_59c91 : cdW jJ7_copyOf_59c91 ∈ WT := wt_of 254 (by decide +kernel) rfl
theorem pn_J7_copyOf_59c91 : plainName jJ7_copyOf_59c91.1.cls = true := by decide +kernel
abbrev jJ9_min_7cf53 : MD := (yJ9_min_7cf53, cJ9_min_7cf53, 2, (some FieldType.int), { frames := 0, cells := 0, slots := 0, locals := 0 })
theorem cd_J9_min_7cf53 : cdW jJ9_min_7cf53 ∈ WT := wt_of 264 (by decide +kernel) rfl
abbrev jX8_arePutCodes : MD := (yX8_arePutCodes, cX8_arePutCodes, 2, (some FieldType.boolean), { frames := 0, cells := 0, slots := 0, locals := 0 })
theorem cd_X8_arePutCodes : cdW jX8_arePutCodes ∈ WT := wt_of 270 (by decide +kernel) rfl
theorem pn_X8_arePutCodes : plainName jX8_arePutCodes.1.cls = true := by decide +kernel
abbrev jX0_isFull : MD := (yX0_isFull, cX0_isFull, 1, (some FieldType.boolean), { frames := 0, cells := 0, slots := 0, locals := 0 })
theorem cd_X0_isFull : cdW jX0_isFull ∈ WT := wt_of 274 (by decide +kernel) rfl
theorem pn_X0_isFull : plainName jX0_isFull.1.cls = true := by decide +kernel
abbrev jX3_nameAt : MD := (yX3_nameAt, cX3_nameAt, 2, (some FieldType.int), { frames := 1, cells := 0, slots := 0, locals := 21 })
theorem cd_X3_nameAt : cdW jX3_nameAt ∈ WT := wt_of 278 (by decide +kernel) rfl
theorem pn_X3_nameAt : plainName jX3_nameAt.1.cls = true := by decide +kernel
abbrev jX3_isPlace : MD := (yX3_isPlace, cX3_isPlace, 2, (some FieldType.boolean), { frames := 0, cells := 0, slots := 0, locals := 0 })
theorem cd_X3_isPlace : cdW jX3_isPlace ∈ WT := wt_of 282 (by decide +kernel) rfl
theorem pn_X3_isPlace : plainName jX3_isPlace.1.cls = true := by decide +kernel
abbrev jX2_init : MD := (yX2_init, cX2_init, 5, none, { frames := 2, cells := 0, slots := 0, locals := 46 })
theorem cd_X2_init : cdW jX2_init ∈ WT := wt_of 287 (by decide +kernel) rfl
theorem pn_X2_init : plainName jX2_init.1.cls = true := by decide +kernel
abbrev jX5_init : MD := (yX5_init, cX5_init, 3, none, { frames := 1, cells := 0, slots := 0, locals := 24 })
theorem cd_X5_init : cdW jX5_init ∈ WT := wt_of 290 (by decide +kernel) rfl
theorem pn_X5_init : plainName jX5_init.1.cls = true := by decide +kernel
abbrev jX8_enter : MD := (yX8_enter, cX8_enter, 3, (some FieldType.int), { frames := 4, cells := 0, slots := 0, locals := 89 })
theorem cd_X8_enter : cdW jX8_enter ∈ WT := wt_of 328 (by decide +kernel) rfl
theorem pn_X8_enter : plainName jX8_enter.1.cls = true := by decide +kernel
abbrev jX0_add : MD := (yX0_add, cX0_add, 3, none, { frames := 3, cells := 0, slots := 0, locals := 67 })
theorem cd_X0_add : cdW jX0_add ∈ WT := wt_of 332 (by decide +kernel) rfl
theorem pn_X0_add : plainName jX0_add.1.cls = true := by decide +kernel
abbrev jX0_insertByAge : MD := (yX0_insertByAge, cX0_insertByAge, 3, none, { frames := 1, cells := 0, slots := 0, locals := 21 })
theorem cd_X0_insertByAge : cdW jX0_insertByAge ∈ WT := wt_of 337 (by decide +kernel) rfl
theorem pn_X0_insertByAge : plainName jX0_insertByAge.1.cls = true := by decide +kernel
abbrev jX5_isLaterThan : MD := (yX5_isLaterThan, cX5_isLaterThan, 2, (some FieldType.boolean), { frames := 0, cells := 0, slots := 0, locals := 0 })
theorem cd_X5_isLaterThan : cdW jX5_isLaterThan ∈ WT := wt_of 345 (by decide +kernel) rfl
theorem pn_X5_isLaterThan : plainName jX5_isLaterThan.1.cls = true := by decide +kernel
abbrev jX0_insertSigns : MD := (yX0_insertSigns, cX0_insertSigns, 5, none, { frames := 2, cells := 0, slots := 0, locals := 43 })
theorem cd_X0_insertSigns : cdW jX0_insertSigns ∈ WT := wt_of 350 (by decide +kernel) rfl
theorem pn_X0_insertSigns : plainName jX0_insertSigns.1.cls = true := by decide +kernel
abbrev jX0_spotFor : MD := (yX0_spotFor, cX0_spotFor, 3, (some FieldType.int), { frames := 1, cells := 0, slots := 0, locals := 21 })
theorem cd_X0_spotFor : cdW jX0_spotFor ∈ WT := wt_of 354 (by decide +kernel) rfl
theorem pn_X0_spotFor : plainName jX0_spotFor.1.cls = true := by decide +kernel
abbrev jX2_nameOf : MD := (yX2_nameOf, cX2_nameOf, 2, (some FieldType.int), { frames := 0, cells := 0, slots := 0, locals := 0 })
theorem cd_X2_nameOf : cdW jX2_nameOf ∈ WT := wt_of 360 (by decide +kernel) rfl
theorem pn_X2_nameOf : plainName jX2_nameOf.1.cls = true := by decide +kernel
abbrev jX4_own : MD := (yX4_own, cX4_own, 2, none, { frames := 2, cells := 0, slots := 0, locals := 42 })
theorem cd_X4_own : cdW jX4_own ∈ WT := wt_of 364 (by decide +kernel) rfl
theorem pn_X4_own : plainName jX4_own.1.cls = true := by decide +kernel
abbrev jX4_take : MD := (yX4_take, cX4_take, 2, none, { frames := 1, cells := 0, slots := 0, locals := 21 })
theorem cd_X4_take : cdW jX4_take ∈ WT := wt_of 368 (by decide +kernel) rfl
theorem pn_X4_take : plainName jX4_take.1.cls = true := by decide +kernel
abbrev jJ9_max_7cf53 : MD := (yJ9_max_7cf53, cJ9_max_7cf53, 2, (some FieldType.int), { frames := 0, cells := 0, slots := 0, locals := 0 })
theorem cd_J9_max_7cf53 : cdW jJ9_max_7cf53 ∈ WT := wt_of 371 (by decide +kernel) rfl
abbrev jX8_done : MD := (yX8_done, cX8_done, 2, (some FieldType.int), { frames := 0, cells := 0, slots := 0, locals := 0 })
theorem cd_X8_done : cdW jX8_done ∈ WT := wt_of 375 (by decide +kernel) rfl
theorem pn_X8_done : plainName jX8_done.1.cls = true := by decide +kernel
abbrev jX8_strike : MD := (yX8_strike, cX8_strike, 5, (some FieldType.int), { frames := 5, cells := 2, slots := 17, locals := 111 })
theorem cd_X8_strike : cdW jX8_strike ∈ WT := wt_of 379 (by decide +kernel) rfl
theorem pn_X8_strike : plainName jX8_strike.1.cls = true := by decide +kernel
abbrev jX3_hasStretch : MD := (yX3_hasStretch, cX3_hasStretch, 3, (some FieldType.boolean), { frames := 0, cells := 0, slots := 0, locals := 0 })
theorem cd_X3_hasStretch : cdW jX3_hasStretch ∈ WT := wt_of 383 (by decide +kernel) rfl
theorem pn_X3_hasStretch : plainName jX3_hasStretch.1.cls = true := by decide +kernel
abbrev jX3_namesFrom : MD := (yX3_namesFrom, cX3_namesFrom, 5, (some (FieldType.array FieldType.int)), { frames := 2, cells := 1, slots := 12, locals := 42 })
theorem cd_X3_namesFrom : cdW jX3_namesFrom ∈ WT := wt_of 389 (by decide +kernel) rfl
theorem pn_X3_namesFrom : plainName jX3_namesFrom.1.cls = true := by decide +kernel
abbrev jX6_init : MD := (yX6_init, cX6_init, 4, none, { frames := 2, cells := 0, slots := 0, locals := 46 })
theorem cd_X6_init : cdW jX6_init ∈ WT := wt_of 394 (by decide +kernel) rfl
theorem pn_X6_init : plainName jX6_init.1.cls = true := by decide +kernel
abbrev jX8_mark : MD := (yX8_mark, cX8_mark, 10, (some FieldType.int), { frames := 5, cells := 1, slots := 9, locals := 111 })
theorem cd_X8_mark : cdW jX8_mark ∈ WT := wt_of 408 (by decide +kernel) rfl
theorem pn_X8_mark : plainName jX8_mark.1.cls = true := by decide +kernel
abbrev jX8_isTint : MD := (yX8_isTint, cX8_isTint, 1, (some FieldType.boolean), { frames := 0, cells := 0, slots := 0, locals := 0 })
theorem cd_X8_isTint : cdW jX8_isTint ∈ WT := wt_of 411 (by decide +kernel) rfl
theorem pn_X8_isTint : plainName jX8_isTint.1.cls = true := by decide +kernel
abbrev jX3_nextBehind : MD := (yX3_nextBehind, cX3_nextBehind, 3, (some FieldType.int), { frames := 1, cells := 0, slots := 0, locals := 21 })
theorem cd_X3_nextBehind : cdW jX3_nextBehind ∈ WT := wt_of 415 (by decide +kernel) rfl
theorem pn_X3_nextBehind : plainName jX3_nextBehind.1.cls = true := by decide +kernel
abbrev jX1_init : MD := (yX1_init, cX1_init, 8, none, { frames := 2, cells := 0, slots := 0, locals := 46 })
theorem cd_X1_init : cdW jX1_init ∈ WT := wt_of 420 (by decide +kernel) rfl
theorem pn_X1_init : plainName jX1_init.1.cls = true := by decide +kernel
abbrev jX8_undo : MD := (yX8_undo, cX8_undo, 5, (some FieldType.int), { frames := 5, cells := 1, slots := 5, locals := 111 })
theorem cd_X8_undo : cdW jX8_undo ∈ WT := wt_of 451 (by decide +kernel) rfl
theorem pn_X8_undo : plainName jX8_undo.1.cls = true := by decide +kernel
abbrev jX0_find : MD := (yX0_find, cX0_find, 2, (some (FieldType.object "ManyPens$Slip")), { frames := 0, cells := 0, slots := 0, locals := 0 })
theorem cd_X0_find : cdW jX0_find ∈ WT := wt_of 455 (by decide +kernel) rfl
theorem pn_X0_find : plainName jX0_find.1.cls = true := by decide +kernel
abbrev jX3_isWorking : MD := (yX3_isWorking, cX3_isWorking, 2, (some FieldType.boolean), { frames := 0, cells := 0, slots := 0, locals := 0 })
theorem cd_X3_isWorking : cdW jX3_isWorking ∈ WT := wt_of 459 (by decide +kernel) rfl
theorem pn_X3_isWorking : plainName jX3_isWorking.1.cls = true := by decide +kernel
abbrev jX7_init : MD := (yX7_init, cX7_init, 4, none, { frames := 2, cells := 0, slots := 0, locals := 46 })
theorem cd_X7_init : cdW jX7_init ∈ WT := wt_of 464 (by decide +kernel) rfl
theorem pn_X7_init : plainName jX7_init.1.cls = true := by decide +kernel
abbrev jX8_carry : MD := (yX8_carry, cX8_carry, 5, (some FieldType.int), { frames := 4, cells := 0, slots := 0, locals := 90 })
theorem cd_X8_carry : cdW jX8_carry ∈ WT := wt_of 479 (by decide +kernel) rfl
theorem pn_X8_carry : plainName jX8_carry.1.cls = true := by decide +kernel
abbrev jX4_get : MD := (yX4_get, cX4_get, 2, none, { frames := 0, cells := 0, slots := 0, locals := 0 })
theorem cd_X4_get : cdW jX4_get ∈ WT := wt_of 483 (by decide +kernel) rfl
theorem pn_X4_get : plainName jX4_get.1.cls = true := by decide +kernel
abbrev jX4_settle : MD := (yX4_settle, cX4_settle, 4, (some FieldType.int), { frames := 3, cells := 0, slots := 0, locals := 67 })
theorem cd_X4_settle : cdW jX4_settle ∈ WT := wt_of 487 (by decide +kernel) rfl
theorem pn_X4_settle : plainName jX4_settle.1.cls = true := by decide +kernel
abbrev jX4_leastMissing : MD := (yX4_leastMissing, cX4_leastMissing, 5, (some FieldType.int), { frames := 2, cells := 0, slots := 0, locals := 43 })
theorem cd_X4_leastMissing : cdW jX4_leastMissing ∈ WT := wt_of 491 (by decide +kernel) rfl
theorem pn_X4_leastMissing : plainName jX4_leastMissing.1.cls = true := by decide +kernel
abbrev jX4_lesserMissing : MD := (yX4_lesserMissing, cX4_lesserMissing, 3, (some FieldType.int), { frames := 1, cells := 0, slots := 0, locals := 21 })
theorem cd_X4_lesserMissing : cdW jX4_lesserMissing ∈ WT := wt_of 495 (by decide +kernel) rfl
theorem pn_X4_lesserMissing : plainName jX4_lesserMissing.1.cls = true := by decide +kernel
abbrev jX1_howManyNeeds : MD := (yX1_howManyNeeds, cX1_howManyNeeds, 1, (some FieldType.int), { frames := 0, cells := 0, slots := 0, locals := 0 })
theorem cd_X1_howManyNeeds : cdW jX1_howManyNeeds ∈ WT := wt_of 502 (by decide +kernel) rfl
theorem pn_X1_howManyNeeds : plainName jX1_howManyNeeds.1.cls = true := by decide +kernel
abbrev jX2_howManyNeeds : MD := (yX2_howManyNeeds, cX2_howManyNeeds, 1, (some FieldType.int), { frames := 0, cells := 0, slots := 0, locals := 0 })
theorem cd_X2_howManyNeeds : cdW jX2_howManyNeeds ∈ WT := wt_of 505 (by decide +kernel) rfl
theorem pn_X2_howManyNeeds : plainName jX2_howManyNeeds.1.cls = true := by decide +kernel
abbrev jX6_howManyNeeds : MD := (yX6_howManyNeeds, cX6_howManyNeeds, 1, (some FieldType.int), { frames := 0, cells := 0, slots := 0, locals := 0 })
theorem cd_X6_howManyNeeds : cdW jX6_howManyNeeds ∈ WT := wt_of 508 (by decide +kernel) rfl
theorem pn_X6_howManyNeeds : plainName jX6_howManyNeeds.1.cls = true := by decide +kernel
abbrev jX7_howManyNeeds : MD := (yX7_howManyNeeds, cX7_howManyNeeds, 1, (some FieldType.int), { frames := 0, cells := 0, slots := 0, locals := 0 })
theorem cd_X7_howManyNeeds : cdW jX7_howManyNeeds ∈ WT := wt_of 511 (by decide +kernel) rfl
theorem pn_X7_howManyNeeds : plainName jX7_howManyNeeds.1.cls = true := by decide +kernel
abbrev jX1_need : MD := (yX1_need, cX1_need, 2, (some FieldType.int), { frames := 1, cells := 0, slots := 0, locals := 21 })
theorem cd_X1_need : cdW jX1_need ∈ WT := wt_of 517 (by decide +kernel) rfl
theorem pn_X1_need : plainName jX1_need.1.cls = true := by decide +kernel
abbrev jX1_nameOf : MD := (yX1_nameOf, cX1_nameOf, 2, (some FieldType.int), { frames := 0, cells := 0, slots := 0, locals := 0 })
theorem cd_X1_nameOf : cdW jX1_nameOf ∈ WT := wt_of 521 (by decide +kernel) rfl
theorem pn_X1_nameOf : plainName jX1_nameOf.1.cls = true := by decide +kernel
abbrev jX2_need : MD := (yX2_need, cX2_need, 2, (some FieldType.int), { frames := 1, cells := 0, slots := 0, locals := 20 })
theorem cd_X2_need : cdW jX2_need ∈ WT := wt_of 525 (by decide +kernel) rfl
theorem pn_X2_need : plainName jX2_need.1.cls = true := by decide +kernel
abbrev jX6_need : MD := (yX6_need, cX6_need, 2, (some FieldType.int), { frames := 1, cells := 0, slots := 0, locals := 21 })
theorem cd_X6_need : cdW jX6_need ∈ WT := wt_of 529 (by decide +kernel) rfl
theorem pn_X6_need : plainName jX6_need.1.cls = true := by decide +kernel
abbrev jX6_nameOf : MD := (yX6_nameOf, cX6_nameOf, 2, (some FieldType.int), { frames := 0, cells := 0, slots := 0, locals := 0 })
theorem cd_X6_nameOf : cdW jX6_nameOf ∈ WT := wt_of 533 (by decide +kernel) rfl
theorem pn_X6_nameOf : plainName jX6_nameOf.1.cls = true := by decide +kernel
abbrev jX7_need : MD := (yX7_need, cX7_need, 2, (some FieldType.int), { frames := 0, cells := 0, slots := 0, locals := 0 })
theorem cd_X7_need : cdW jX7_need ∈ WT := wt_of 537 (by decide +kernel) rfl
theorem pn_X7_need : plainName jX7_need.1.cls = true := by decide +kernel
abbrev jX8_all : MD := (yX8_all, cX8_all, 7, (some FieldType.int), { frames := 4, cells := 0, slots := 0, locals := 90 })
theorem cd_X8_all : cdW jX8_all ∈ WT := wt_of 541 (by decide +kernel) rfl
theorem pn_X8_all : plainName jX8_all.1.cls = true := by decide +kernel
abbrev jX8_state : MD := (yX8_state, cX8_state, 5, (some FieldType.int), { frames := 4, cells := 0, slots := 0, locals := 89 })
theorem cd_X8_state : cdW jX8_state ∈ WT := wt_of 546 (by decide +kernel) rfl
theorem pn_X8_state : plainName jX8_state.1.cls = true := by decide +kernel
abbrev jX8_lacks : MD := (yX8_lacks, cX8_lacks, 5, (some FieldType.int), { frames := 3, cells := 0, slots := 0, locals := 67 })
theorem cd_X8_lacks : cdW jX8_lacks ∈ WT := wt_of 550 (by decide +kernel) rfl
theorem pn_X8_lacks : plainName jX8_lacks.1.cls = true := by decide +kernel
abbrev jX8_slips : MD := (yX8_slips, cX8_slips, 1, (some FieldType.int), { frames := 0, cells := 0, slots := 0, locals := 0 })
theorem cd_X8_slips : cdW jX8_slips ∈ WT := wt_of 555 (by decide +kernel) rfl
theorem pn_X8_slips : plainName jX8_slips.1.cls = true := by decide +kernel
abbrev jX8_slip : MD := (yX8_slip, cX8_slip, 4, (some FieldType.int), { frames := 1, cells := 0, slots := 0, locals := 21 })
theorem cd_X8_slip : cdW jX8_slip ∈ WT := wt_of 559 (by decide +kernel) rfl
theorem pn_X8_slip : plainName jX8_slip.1.cls = true := by decide +kernel
abbrev jX1_kind : MD := (yX1_kind, cX1_kind, 1, (some FieldType.int), { frames := 0, cells := 0, slots := 0, locals := 0 })
theorem cd_X1_kind : cdW jX1_kind ∈ WT := wt_of 565 (by decide +kernel) rfl
theorem pn_X1_kind : plainName jX1_kind.1.cls = true := by decide +kernel
abbrev jX2_kind : MD := (yX2_kind, cX2_kind, 1, (some FieldType.int), { frames := 0, cells := 0, slots := 0, locals := 0 })
theorem cd_X2_kind : cdW jX2_kind ∈ WT := wt_of 568 (by decide +kernel) rfl
theorem pn_X2_kind : plainName jX2_kind.1.cls = true := by decide +kernel
abbrev jX6_kind : MD := (yX6_kind, cX6_kind, 1, (some FieldType.int), { frames := 0, cells := 0, slots := 0, locals := 0 })
theorem cd_X6_kind : cdW jX6_kind ∈ WT := wt_of 571 (by decide +kernel) rfl
theorem pn_X6_kind : plainName jX6_kind.1.cls = true := by decide +kernel
abbrev jX7_kind : MD := (yX7_kind, cX7_kind, 1, (some FieldType.int), { frames := 0, cells := 0, slots := 0, locals := 0 })
theorem cd_X7_kind : cdW jX7_kind ∈ WT := wt_of 574 (by decide +kernel) rfl
theorem pn_X7_kind : plainName jX7_kind.1.cls = true := by decide +kernel
abbrev jX1_size : MD := (yX1_size, cX1_size, 1, (some FieldType.int), { frames := 0, cells := 0, slots := 0, locals := 0 })
theorem cd_X1_size : cdW jX1_size ∈ WT := wt_of 580 (by decide +kernel) rfl
theorem pn_X1_size : plainName jX1_size.1.cls = true := by decide +kernel
abbrev jX2_size : MD := (yX2_size, cX2_size, 1, (some FieldType.int), { frames := 0, cells := 0, slots := 0, locals := 0 })
theorem cd_X2_size : cdW jX2_size ∈ WT := wt_of 583 (by decide +kernel) rfl
theorem pn_X2_size : plainName jX2_size.1.cls = true := by decide +kernel
abbrev jX6_size : MD := (yX6_size, cX6_size, 1, (some FieldType.int), { frames := 0, cells := 0, slots := 0, locals := 0 })
theorem cd_X6_size : cdW jX6_size ∈ WT := wt_of 586 (by decide +kernel) rfl
theorem pn_X6_size : plainName jX6_size.1.cls = true := by decide +kernel
abbrev jX7_size : MD := (yX7_size, cX7_size, 1, (some FieldType.int), { frames := 0, cells := 0, slots := 0, locals := 0 })
theorem cd_X7_size : cdW jX7_size ∈ WT := wt_of 589 (by decide +kernel) rfl
theorem pn_X7_size : plainName jX7_size.1.cls = true := by decide +kernel
abbrev jX8_part : MD := (yX8_part, cX8_part, 4, (some FieldType.int), { frames := 1, cells := 0, slots := 0, locals := 21 })
theorem cd_X8_part : cdW jX8_part ∈ WT := wt_of 593 (by decide +kernel) rfl
theorem pn_X8_part : plainName jX8_part.1.cls = true := by decide +kernel
abbrev jX7_nameOf : MD := (yX7_nameOf, cX7_nameOf, 2, (some FieldType.int), { frames := 0, cells := 0, slots := 0, locals := 0 })
theorem cd_X7_nameOf : cdW jX7_nameOf ∈ WT := wt_of 602 (by decide +kernel) rfl
theorem pn_X7_nameOf : plainName jX7_nameOf.1.cls = true := by decide +kernel
abbrev jX8_left : MD := (yX8_left, cX8_left, 4, (some FieldType.int), { frames := 1, cells := 0, slots := 0, locals := 21 })
theorem cd_X8_left : cdW jX8_left ∈ WT := wt_of 606 (by decide +kernel) rfl
theorem pn_X8_left : plainName jX8_left.1.cls = true := by decide +kernel
abbrev jX8_bound : MD := (yX8_bound, cX8_bound, 4, (some FieldType.int), { frames := 1, cells := 0, slots := 0, locals := 21 })
theorem cd_X8_bound : cdW jX8_bound ∈ WT := wt_of 610 (by decide +kernel) rfl
theorem pn_X8_bound : plainName jX8_bound.1.cls = true := by decide +kernel
abbrev jX8_undone : MD := (yX8_undone, cX8_undone, 4, (some FieldType.int), { frames := 1, cells := 0, slots := 0, locals := 21 })
theorem cd_X8_undone : cdW jX8_undone ∈ WT := wt_of 614 (by decide +kernel) rfl
theorem pn_X8_undone : plainName jX8_undone.1.cls = true := by decide +kernel
abbrev jX8_later : MD := (yX8_later, cX8_later, 5, (some FieldType.boolean), { frames := 1, cells := 0, slots := 0, locals := 21 })
theorem cd_X8_later : cdW jX8_later ∈ WT := wt_of 618 (by decide +kernel) rfl
theorem pn_X8_later : plainName jX8_later.1.cls = true := by decide +kernel
abbrev jX8_length : MD := (yX8_length, cX8_length, 2, (some FieldType.int), { frames := 5, cells := 0, slots := 0, locals := 111 })
theorem cd_X8_length : cdW jX8_length ∈ WT := wt_of 623 (by decide +kernel) rfl
theorem pn_X8_length : plainName jX8_length.1.cls = true := by decide +kernel
abbrev jX8_read : MD := (yX8_read, cX8_read, 3, (some FieldType.boolean), { frames := 4, cells := 0, slots := 0, locals := 89 })
theorem cd_X8_read : cdW jX8_read ∈ WT := wt_of 627 (by decide +kernel) rfl
theorem pn_X8_read : plainName jX8_read.1.cls = true := by decide +kernel
abbrev jX8_text : MD := (yX8_text, cX8_text, 4, (some FieldType.int), { frames := 5, cells := 0, slots := 0, locals := 111 })
theorem cd_X8_text : cdW jX8_text ∈ WT := wt_of 631 (by decide +kernel) rfl
theorem pn_X8_text : plainName jX8_text.1.cls = true := by decide +kernel
abbrev jX0_codeOf : MD := (yX0_codeOf, cX0_codeOf, 4, (some FieldType.int), { frames := 1, cells := 0, slots := 0, locals := 21 })
theorem cd_X0_codeOf : cdW jX0_codeOf ∈ WT := wt_of 636 (by decide +kernel) rfl
theorem pn_X0_codeOf : plainName jX0_codeOf.1.cls = true := by decide +kernel
abbrev jX3_paint : MD := (yX3_paint, cX3_paint, 4, none, { frames := 3, cells := 0, slots := 0, locals := 67 })
theorem cd_X3_paint : cdW jX3_paint ∈ WT := wt_of 641 (by decide +kernel) rfl
theorem pn_X3_paint : plainName jX3_paint.1.cls = true := by decide +kernel
abbrev jX3_lay : MD := (yX3_lay, cX3_lay, 6, none, { frames := 2, cells := 0, slots := 0, locals := 42 })
theorem cd_X3_lay : cdW jX3_lay ∈ WT := wt_of 647 (by decide +kernel) rfl
theorem pn_X3_lay : plainName jX3_lay.1.cls = true := by decide +kernel
abbrev jX3_endOf : MD := (yX3_endOf, cX3_endOf, 2, (some FieldType.int), { frames := 1, cells := 0, slots := 0, locals := 21 })
theorem cd_X3_endOf : cdW jX3_endOf ∈ WT := wt_of 651 (by decide +kernel) rfl
theorem pn_X3_endOf : plainName jX3_endOf.1.cls = true := by decide +kernel
abbrev jX3_tintsAt : MD := (yX3_tintsAt, cX3_tintsAt, 2, (some FieldType.int), { frames := 1, cells := 0, slots := 0, locals := 21 })
theorem cd_X3_tintsAt : cdW jX3_tintsAt ∈ WT := wt_of 655 (by decide +kernel) rfl
theorem pn_X3_tintsAt : plainName jX3_tintsAt.1.cls = true := by decide +kernel
abbrev jX0_penOf : MD := (yX0_penOf, cX0_penOf, 3, (some FieldType.int), { frames := 1, cells := 0, slots := 0, locals := 21 })
theorem cd_X0_penOf : cdW jX0_penOf ∈ WT := wt_of 659 (by decide +kernel) rfl
theorem pn_X0_penOf : plainName jX0_penOf.1.cls = true := by decide +kernel
abbrev jX8_signs : MD := (yX8_signs, cX8_signs, 2, (some FieldType.int), { frames := 5, cells := 0, slots := 0, locals := 111 })
theorem cd_X8_signs : cdW jX8_signs ∈ WT := wt_of 663 (by decide +kernel) rfl
theorem pn_X8_signs : plainName jX8_signs.1.cls = true := by decide +kernel
abbrev jX8_order : MD := (yX8_order, cX8_order, 3, (some FieldType.int), { frames := 5, cells := 0, slots := 0, locals := 111 })
theorem cd_X8_order : cdW jX8_order ∈ WT := wt_of 667 (by decide +kernel) rfl
theorem pn_X8_order : plainName jX8_order.1.cls = true := by decide +kernel
abbrev jX8_place : MD := (yX8_place, cX8_place, 4, (some FieldType.int), { frames := 5, cells := 0, slots := 0, locals := 111 })
theorem cd_X8_place : cdW jX8_place ∈ WT := wt_of 671 (by decide +kernel) rfl
theorem pn_X8_place : plainName jX8_place.1.cls = true := by decide +kernel
abbrev jX3_isSeen : MD := (yX3_isSeen, cX3_isSeen, 2, (some FieldType.boolean), { frames := 0, cells := 0, slots := 0, locals := 0 })
theorem cd_X3_isSeen : cdW jX3_isSeen ∈ WT := wt_of 676 (by decide +kernel) rfl
theorem pn_X3_isSeen : plainName jX3_isSeen.1.cls = true := by decide +kernel
abbrev jX8_strikers : MD := (yX8_strikers, cX8_strikers, 4, (some FieldType.int), { frames := 5, cells := 0, slots := 0, locals := 111 })
theorem cd_X8_strikers : cdW jX8_strikers ∈ WT := wt_of 680 (by decide +kernel) rfl
theorem pn_X8_strikers : plainName jX8_strikers.1.cls = true := by decide +kernel
abbrev jX8_spans : MD := (yX8_spans, cX8_spans, 3, (some FieldType.int), { frames := 5, cells := 0, slots := 0, locals := 111 })
theorem cd_X8_spans : cdW jX8_spans ∈ WT := wt_of 684 (by decide +kernel) rfl
theorem pn_X8_spans : plainName jX8_spans.1.cls = true := by decide +kernel
abbrev jX3_stretchesOf : MD := (yX3_stretchesOf, cX3_stretchesOf, 7, (some FieldType.int), { frames := 0, cells := 0, slots := 0, locals := 0 })
theorem cd_X3_stretchesOf : cdW jX3_stretchesOf ∈ WT := wt_of 688 (by decide +kernel) rfl
theorem pn_X3_stretchesOf : plainName jX3_stretchesOf.1.cls = true := by decide +kernel
abbrev jX8_history : MD := (yX8_history, cX8_history, 7, (some FieldType.int), { frames := 1, cells := 0, slots := 0, locals := 21 })
theorem cd_X8_history : cdW jX8_history ∈ WT := wt_of 692 (by decide +kernel) rfl
theorem pn_X8_history : plainName jX8_history.1.cls = true := by decide +kernel
abbrev jX8_asOf : MD := (yX8_asOf, cX8_asOf, 5, (some FieldType.int), { frames := 4, cells := 0, slots := 0, locals := 89 })
theorem cd_X8_asOf : cdW jX8_asOf ∈ WT := wt_of 696 (by decide +kernel) rfl
theorem pn_X8_asOf : plainName jX8_asOf.1.cls = true := by decide +kernel
abbrev jX8_unlike : MD := (yX8_unlike, cX8_unlike, 5, (some FieldType.int), { frames := 5, cells := 0, slots := 0, locals := 114 })
theorem cd_X8_unlike : cdW jX8_unlike ∈ WT := wt_of 700 (by decide +kernel) rfl
theorem pn_X8_unlike : plainName jX8_unlike.1.cls = true := by decide +kernel
abbrev jX8_haveSameTaken : MD := (yX8_haveSameTaken, cX8_haveSameTaken, 4, (some FieldType.boolean), { frames := 1, cells := 0, slots := 0, locals := 21 })
theorem cd_X8_haveSameTaken : cdW jX8_haveSameTaken ∈ WT := wt_of 704 (by decide +kernel) rfl
theorem pn_X8_haveSameTaken : plainName jX8_haveSameTaken.1.cls = true := by decide +kernel
abbrev jX8_placesAlike : MD := (yX8_placesAlike, cX8_placesAlike, 5, (some FieldType.int), { frames := 4, cells := 0, slots := 0, locals := 90 })
theorem cd_X8_placesAlike : cdW jX8_placesAlike ∈ WT := wt_of 708 (by decide +kernel) rfl
theorem pn_X8_placesAlike : plainName jX8_placesAlike.1.cls = true := by decide +kernel
abbrev jX3_lookAt : MD := (yX3_lookAt, cX3_lookAt, 2, (some FieldType.int), { frames := 2, cells := 0, slots := 0, locals := 42 })
theorem cd_X3_lookAt : cdW jX3_lookAt ∈ WT := wt_of 712 (by decide +kernel) rfl
theorem pn_X3_lookAt : plainName jX3_lookAt.1.cls = true := by decide +kernel
abbrev jX8_cursor : MD := (yX8_cursor, cX8_cursor, 7, (some FieldType.int), { frames := 4, cells := 0, slots := 0, locals := 89 })
theorem cd_X8_cursor : cdW jX8_cursor ∈ WT := wt_of 718 (by decide +kernel) rfl
theorem pn_X8_cursor : plainName jX8_cursor.1.cls = true := by decide +kernel
abbrev jX8_isCursor : MD := (yX8_isCursor, cX8_isCursor, 1, (some FieldType.boolean), { frames := 0, cells := 0, slots := 0, locals := 0 })
theorem cd_X8_isCursor : cdW jX8_isCursor ∈ WT := wt_of 721 (by decide +kernel) rfl
theorem pn_X8_isCursor : plainName jX8_isCursor.1.cls = true := by decide +kernel
abbrev jX8_where : MD := (yX8_where, cX8_where, 6, (some FieldType.int), { frames := 4, cells := 0, slots := 0, locals := 89 })
theorem cd_X8_where : cdW jX8_where ∈ WT := wt_of 725 (by decide +kernel) rfl
theorem pn_X8_where : plainName jX8_where.1.cls = true := by decide +kernel
abbrev jX8_status : MD := (yX8_status, cX8_status, 1, (some FieldType.int), { frames := 0, cells := 0, slots := 0, locals := 0 })
theorem cd_X8_status : cdW jX8_status ∈ WT := wt_of 729 (by decide +kernel) rfl
theorem pn_X8_status : plainName jX8_status.1.cls = true := by decide +kernel
abbrev jX9_init : MD := (yX9_init, cX9_init, 2, none, { frames := 1, cells := 23, slots := 12919, locals := 24 })
theorem cd_X9_init : cdW jX9_init ∈ WT := wt_of 734 (by decide +kernel) rfl
theorem pn_X9_init : plainName jX9_init.1.cls = true := by decide +kernel
abbrev jX9_type : MD := (yX9_type, cX9_type, 12, (some FieldType.int), { frames := 5, cells := 0, slots := 0, locals := 113 })
theorem cd_X9_type : cdW jX9_type ∈ WT := wt_of 825 (by decide +kernel) rfl
theorem pn_X9_type : plainName jX9_type.1.cls = true := by decide +kernel
abbrev jX9_isPen : MD := (yX9_isPen, cX9_isPen, 1, (some FieldType.boolean), { frames := 0, cells := 0, slots := 0, locals := 0 })
theorem cd_X9_isPen : cdW jX9_isPen ∈ WT := wt_of 828 (by decide +kernel) rfl
theorem pn_X9_isPen : plainName jX9_isPen.1.cls = true := by decide +kernel
abbrev jX9_refuse : MD := (yX9_refuse, cX9_refuse, 2, (some FieldType.int), { frames := 0, cells := 0, slots := 0, locals := 0 })
theorem cd_X9_refuse : cdW jX9_refuse ∈ WT := wt_of 832 (by decide +kernel) rfl
theorem pn_X9_refuse : plainName jX9_refuse.1.cls = true := by decide +kernel
abbrev jX9_sheet : MD := (yX9_sheet, cX9_sheet, 2, (some FieldType.int), { frames := 4, cells := 0, slots := 0, locals := 92 })
theorem cd_X9_sheet : cdW jX9_sheet ∈ WT := wt_of 836 (by decide +kernel) rfl
theorem pn_X9_sheet : plainName jX9_sheet.1.cls = true := by decide +kernel
abbrev jX9_findTaken : MD := (yX9_findTaken, cX9_findTaken, 4, (some FieldType.int), { frames := 3, cells := 0, slots := 0, locals := 69 })
theorem cd_X9_findTaken : cdW jX9_findTaken ∈ WT := wt_of 840 (by decide +kernel) rfl
theorem pn_X9_findTaken : plainName jX9_findTaken.1.cls = true := by decide +kernel
abbrev jX9_hasNeeds : MD := (yX9_hasNeeds, cX9_hasNeeds, 4, (some FieldType.boolean), { frames := 2, cells := 0, slots := 0, locals := 46 })
theorem cd_X9_hasNeeds : cdW jX9_hasNeeds ∈ WT := wt_of 844 (by decide +kernel) rfl
theorem pn_X9_hasNeeds : plainName jX9_hasNeeds.1.cls = true := by decide +kernel
abbrev jX9_findNeeds : MD := (yX9_findNeeds, cX9_findNeeds, 3, none, { frames := 1, cells := 0, slots := 0, locals := 24 })
theorem cd_X9_findNeeds : cdW jX9_findNeeds ∈ WT := wt_of 848 (by decide +kernel) rfl
theorem pn_X9_findNeeds : plainName jX9_findNeeds.1.cls = true := by decide +kernel
abbrev jX9_latestOf : MD := (yX9_latestOf, cX9_latestOf, 5, (some FieldType.int), { frames := 0, cells := 0, slots := 0, locals := 0 })
theorem cd_X9_latestOf : cdW jX9_latestOf ∈ WT := wt_of 852 (by decide +kernel) rfl
theorem pn_X9_latestOf : plainName jX9_latestOf.1.cls = true := by decide +kernel
abbrev jX9_need : MD := (yX9_need, cX9_need, 2, none, { frames := 0, cells := 0, slots := 0, locals := 0 })
theorem cd_X9_need : cdW jX9_need ∈ WT := wt_of 856 (by decide +kernel) rfl
theorem pn_X9_need : plainName jX9_need.1.cls = true := by decide +kernel
abbrev jX9_findText : MD := (yX9_findText, cX9_findText, 3, (some FieldType.int), { frames := 3, cells := 0, slots := 0, locals := 68 })
theorem cd_X9_findText : cdW jX9_findText ∈ WT := wt_of 860 (by decide +kernel) rfl
theorem pn_X9_findText : plainName jX9_findText.1.cls = true := by decide +kernel
abbrev jX9_findWorks : MD := (yX9_findWorks, cX9_findWorks, 3, none, { frames := 0, cells := 0, slots := 0, locals := 0 })
theorem cd_X9_findWorks : cdW jX9_findWorks ∈ WT := wt_of 864 (by decide +kernel) rfl
theorem pn_X9_findWorks : plainName jX9_findWorks.1.cls = true := by decide +kernel
abbrev jX9_findOrder : MD := (yX9_findOrder, cX9_findOrder, 3, none, { frames := 2, cells := 0, slots := 0, locals := 46 })
theorem cd_X9_findOrder : cdW jX9_findOrder ∈ WT := wt_of 868 (by decide +kernel) rfl
theorem pn_X9_findOrder : plainName jX9_findOrder.1.cls = true := by decide +kernel
abbrev jX9_pilePuts : MD := (yX9_pilePuts, cX9_pilePuts, 5, none, { frames := 1, cells := 0, slots := 0, locals := 22 })
theorem cd_X9_pilePuts : cdW jX9_pilePuts ∈ WT := wt_of 872 (by decide +kernel) rfl
theorem pn_X9_pilePuts : plainName jX9_pilePuts.1.cls = true := by decide +kernel
abbrev jX9_isLater : MD := (yX9_isLater, cX9_isLater, 3, (some FieldType.boolean), { frames := 0, cells := 0, slots := 0, locals := 0 })
theorem cd_X9_isLater : cdW jX9_isLater ∈ WT := wt_of 876 (by decide +kernel) rfl
theorem pn_X9_isLater : plainName jX9_isLater.1.cls = true := by decide +kernel
abbrev jX9_isStruck : MD := (yX9_isStruck, cX9_isStruck, 2, (some FieldType.boolean), { frames := 1, cells := 0, slots := 0, locals := 25 })
theorem cd_X9_isStruck : cdW jX9_isStruck ∈ WT := wt_of 880 (by decide +kernel) rfl
theorem pn_X9_isStruck : plainName jX9_isStruck.1.cls = true := by decide +kernel
abbrev jX9_strikesOf : MD := (yX9_strikesOf, cX9_strikesOf, 6, (some FieldType.int), { frames := 0, cells := 0, slots := 0, locals := 0 })
theorem cd_X9_strikesOf : cdW jX9_strikesOf ∈ WT := wt_of 884 (by decide +kernel) rfl
theorem pn_X9_strikesOf : plainName jX9_strikesOf.1.cls = true := by decide +kernel
abbrev jX9_atPlace : MD := (yX9_atPlace, cX9_atPlace, 4, (some FieldType.int), { frames := 0, cells := 0, slots := 0, locals := 0 })
theorem cd_X9_atPlace : cdW jX9_atPlace ∈ WT := wt_of 888 (by decide +kernel) rfl
theorem pn_X9_atPlace : plainName jX9_atPlace.1.cls = true := by decide +kernel
abbrev jX9_make : MD := (yX9_make, cX9_make, 6, (some FieldType.int), { frames := 0, cells := 0, slots := 0, locals := 0 })
theorem cd_X9_make : cdW jX9_make ∈ WT := wt_of 892 (by decide +kernel) rfl
theorem pn_X9_make : plainName jX9_make.1.cls = true := by decide +kernel
abbrev jX9_done : MD := (yX9_done, cX9_done, 2, (some FieldType.int), { frames := 0, cells := 0, slots := 0, locals := 0 })
theorem cd_X9_done : cdW jX9_done ∈ WT := wt_of 896 (by decide +kernel) rfl
theorem pn_X9_done : plainName jX9_done.1.cls = true := by decide +kernel
abbrev jX9_strike : MD := (yX9_strike, cX9_strike, 7, (some FieldType.int), { frames := 5, cells := 0, slots := 0, locals := 113 })
theorem cd_X9_strike : cdW jX9_strike ∈ WT := wt_of 900 (by decide +kernel) rfl
theorem pn_X9_strike : plainName jX9_strike.1.cls = true := by decide +kernel
abbrev jX9_isRange : MD := (yX9_isRange, cX9_isRange, 3, (some FieldType.boolean), { frames := 0, cells := 0, slots := 0, locals := 0 })
theorem cd_X9_isRange : cdW jX9_isRange ∈ WT := wt_of 903 (by decide +kernel) rfl
theorem pn_X9_isRange : plainName jX9_isRange.1.cls = true := by decide +kernel
abbrev jX9_mark : MD := (yX9_mark, cX9_mark, 10, (some FieldType.int), { frames := 5, cells := 0, slots := 0, locals := 113 })
theorem cd_X9_mark : cdW jX9_mark ∈ WT := wt_of 907 (by decide +kernel) rfl
theorem pn_X9_mark : plainName jX9_mark.1.cls = true := by decide +kernel
abbrev jX9_undo : MD := (yX9_undo, cX9_undo, 4, (some FieldType.int), { frames := 4, cells := 0, slots := 0, locals := 92 })
theorem cd_X9_undo : cdW jX9_undo ∈ WT := wt_of 911 (by decide +kernel) rfl
theorem pn_X9_undo : plainName jX9_undo.1.cls = true := by decide +kernel
abbrev jX9_isSlip : MD := (yX9_isSlip, cX9_isSlip, 2, (some FieldType.boolean), { frames := 0, cells := 0, slots := 0, locals := 0 })
theorem cd_X9_isSlip : cdW jX9_isSlip ∈ WT := wt_of 915 (by decide +kernel) rfl
theorem pn_X9_isSlip : plainName jX9_isSlip.1.cls = true := by decide +kernel
abbrev jX9_carry : MD := (yX9_carry, cX9_carry, 4, (some FieldType.int), { frames := 4, cells := 0, slots := 0, locals := 92 })
theorem cd_X9_carry : cdW jX9_carry ∈ WT := wt_of 919 (by decide +kernel) rfl
theorem pn_X9_carry : plainName jX9_carry.1.cls = true := by decide +kernel
abbrev jX9_all : MD := (yX9_all, cX9_all, 5, (some FieldType.int), { frames := 4, cells := 0, slots := 0, locals := 92 })
theorem cd_X9_all : cdW jX9_all ∈ WT := wt_of 923 (by decide +kernel) rfl
theorem pn_X9_all : plainName jX9_all.1.cls = true := by decide +kernel
abbrev jX9_state : MD := (yX9_state, cX9_state, 3, (some FieldType.int), { frames := 4, cells := 0, slots := 0, locals := 92 })
theorem cd_X9_state : cdW jX9_state ∈ WT := wt_of 927 (by decide +kernel) rfl
theorem pn_X9_state : plainName jX9_state.1.cls = true := by decide +kernel
abbrev jX9_lacks : MD := (yX9_lacks, cX9_lacks, 6, (some FieldType.int), { frames := 4, cells := 0, slots := 0, locals := 92 })
theorem cd_X9_lacks : cdW jX9_lacks ∈ WT := wt_of 931 (by decide +kernel) rfl
theorem pn_X9_lacks : plainName jX9_lacks.1.cls = true := by decide +kernel
abbrev jX9_slips : MD := (yX9_slips, cX9_slips, 1, (some FieldType.int), { frames := 0, cells := 0, slots := 0, locals := 0 })
theorem cd_X9_slips : cdW jX9_slips ∈ WT := wt_of 935 (by decide +kernel) rfl
theorem pn_X9_slips : plainName jX9_slips.1.cls = true := by decide +kernel
abbrev jX9_slip : MD := (yX9_slip, cX9_slip, 3, (some FieldType.int), { frames := 1, cells := 0, slots := 0, locals := 21 })
theorem cd_X9_slip : cdW jX9_slip ∈ WT := wt_of 939 (by decide +kernel) rfl
theorem pn_X9_slip : plainName jX9_slip.1.cls = true := by decide +kernel
abbrev jX9_part : MD := (yX9_part, cX9_part, 3, (some FieldType.int), { frames := 1, cells := 0, slots := 0, locals := 21 })
theorem cd_X9_part : cdW jX9_part ∈ WT := wt_of 943 (by decide +kernel) rfl
theorem pn_X9_part : plainName jX9_part.1.cls = true := by decide +kernel
abbrev jX9_left : MD := (yX9_left, cX9_left, 2, (some FieldType.int), { frames := 2, cells := 0, slots := 0, locals := 43 })
theorem cd_X9_left : cdW jX9_left ∈ WT := wt_of 947 (by decide +kernel) rfl
theorem pn_X9_left : plainName jX9_left.1.cls = true := by decide +kernel
abbrev jX9_linked : MD := (yX9_linked, cX9_linked, 3, (some FieldType.int), { frames := 1, cells := 0, slots := 0, locals := 21 })
theorem cd_X9_linked : cdW jX9_linked ∈ WT := wt_of 951 (by decide +kernel) rfl
theorem pn_X9_linked : plainName jX9_linked.1.cls = true := by decide +kernel
abbrev jX9_bound : MD := (yX9_bound, cX9_bound, 2, (some FieldType.int), { frames := 2, cells := 0, slots := 0, locals := 43 })
theorem cd_X9_bound : cdW jX9_bound ∈ WT := wt_of 955 (by decide +kernel) rfl
theorem pn_X9_bound : plainName jX9_bound.1.cls = true := by decide +kernel
abbrev jX9_undone : MD := (yX9_undone, cX9_undone, 2, (some FieldType.int), { frames := 2, cells := 0, slots := 0, locals := 43 })
theorem cd_X9_undone : cdW jX9_undone ∈ WT := wt_of 959 (by decide +kernel) rfl
theorem pn_X9_undone : plainName jX9_undone.1.cls = true := by decide +kernel
abbrev jX9_later : MD := (yX9_later, cX9_later, 3, (some FieldType.boolean), { frames := 1, cells := 0, slots := 0, locals := 22 })
theorem cd_X9_later : cdW jX9_later ∈ WT := wt_of 963 (by decide +kernel) rfl
theorem pn_X9_later : plainName jX9_later.1.cls = true := by decide +kernel
abbrev jX9_length : MD := (yX9_length, cX9_length, 2, (some FieldType.int), { frames := 5, cells := 0, slots := 0, locals := 113 })
theorem cd_X9_length : cdW jX9_length ∈ WT := wt_of 967 (by decide +kernel) rfl
theorem pn_X9_length : plainName jX9_length.1.cls = true := by decide +kernel
abbrev jX9_text : MD := (yX9_text, cX9_text, 5, (some FieldType.int), { frames := 5, cells := 0, slots := 0, locals := 113 })
theorem cd_X9_text : cdW jX9_text ∈ WT := wt_of 971 (by decide +kernel) rfl
theorem pn_X9_text : plainName jX9_text.1.cls = true := by decide +kernel
abbrev jX9_tintsOf : MD := (yX9_tintsOf, cX9_tintsOf, 4, (some FieldType.int), { frames := 3, cells := 0, slots := 0, locals := 71 })
theorem cd_X9_tintsOf : cdW jX9_tintsOf ∈ WT := wt_of 975 (by decide +kernel) rfl
theorem pn_X9_tintsOf : plainName jX9_tintsOf.1.cls = true := by decide +kernel
abbrev jX9_hasTint : MD := (yX9_hasTint, cX9_hasTint, 5, (some FieldType.boolean), { frames := 2, cells := 0, slots := 0, locals := 47 })
theorem cd_X9_hasTint : cdW jX9_hasTint ∈ WT := wt_of 979 (by decide +kernel) rfl
theorem pn_X9_hasTint : plainName jX9_hasTint.1.cls = true := by decide +kernel
abbrev jX9_covers : MD := (yX9_covers, cX9_covers, 5, (some FieldType.boolean), { frames := 1, cells := 0, slots := 0, locals := 23 })
theorem cd_X9_covers : cdW jX9_covers ∈ WT := wt_of 983 (by decide +kernel) rfl
theorem pn_X9_covers : plainName jX9_covers.1.cls = true := by decide +kernel
abbrev jX9_inOrder : MD := (yX9_inOrder, cX9_inOrder, 4, (some FieldType.int), { frames := 0, cells := 0, slots := 0, locals := 0 })
theorem cd_X9_inOrder : cdW jX9_inOrder ∈ WT := wt_of 987 (by decide +kernel) rfl
theorem pn_X9_inOrder : plainName jX9_inOrder.1.cls = true := by decide +kernel
abbrev jX9_signs : MD := (yX9_signs, cX9_signs, 3, (some FieldType.int), { frames := 5, cells := 0, slots := 0, locals := 113 })
theorem cd_X9_signs : cdW jX9_signs ∈ WT := wt_of 991 (by decide +kernel) rfl
theorem pn_X9_signs : plainName jX9_signs.1.cls = true := by decide +kernel
abbrev jX9_order : MD := (yX9_order, cX9_order, 3, (some FieldType.int), { frames := 6, cells := 0, slots := 0, locals := 135 })
theorem cd_X9_order : cdW jX9_order ∈ WT := wt_of 995 (by decide +kernel) rfl
theorem pn_X9_order : plainName jX9_order.1.cls = true := by decide +kernel
abbrev jX9_place : MD := (yX9_place, cX9_place, 5, (some FieldType.int), { frames := 6, cells := 0, slots := 0, locals := 135 })
theorem cd_X9_place : cdW jX9_place ∈ WT := wt_of 1000 (by decide +kernel) rfl
theorem pn_X9_place : plainName jX9_place.1.cls = true := by decide +kernel
abbrev jX9_seenAhead : MD := (yX9_seenAhead, cX9_seenAhead, 4, (some FieldType.int), { frames := 0, cells := 0, slots := 0, locals := 0 })
theorem cd_X9_seenAhead : cdW jX9_seenAhead ∈ WT := wt_of 1004 (by decide +kernel) rfl
theorem pn_X9_seenAhead : plainName jX9_seenAhead.1.cls = true := by decide +kernel
abbrev jX9_strikers : MD := (yX9_strikers, cX9_strikers, 4, (some FieldType.int), { frames := 6, cells := 0, slots := 0, locals := 135 })
theorem cd_X9_strikers : cdW jX9_strikers ∈ WT := wt_of 1008 (by decide +kernel) rfl
theorem pn_X9_strikers : plainName jX9_strikers.1.cls = true := by decide +kernel
abbrev jX9_spans : MD := (yX9_spans, cX9_spans, 8, (some FieldType.int), { frames := 5, cells := 0, slots := 0, locals := 113 })
theorem cd_X9_spans : cdW jX9_spans ∈ WT := wt_of 1012 (by decide +kernel) rfl
theorem pn_X9_spans : plainName jX9_spans.1.cls = true := by decide +kernel
abbrev jX9_history : MD := (yX9_history, cX9_history, 6, (some FieldType.int), { frames := 4, cells := 0, slots := 0, locals := 92 })
theorem cd_X9_history : cdW jX9_history ∈ WT := wt_of 1016 (by decide +kernel) rfl
theorem pn_X9_history : plainName jX9_history.1.cls = true := by decide +kernel
abbrev jX9_asOf : MD := (yX9_asOf, cX9_asOf, 5, (some FieldType.int), { frames := 4, cells := 0, slots := 0, locals := 92 })
theorem cd_X9_asOf : cdW jX9_asOf ∈ WT := wt_of 1020 (by decide +kernel) rfl
theorem pn_X9_asOf : plainName jX9_asOf.1.cls = true := by decide +kernel
abbrev jX9_unlike : MD := (yX9_unlike, cX9_unlike, 7, (some FieldType.int), { frames := 5, cells := 0, slots := 0, locals := 113 })
theorem cd_X9_unlike : cdW jX9_unlike ∈ WT := wt_of 1024 (by decide +kernel) rfl
theorem pn_X9_unlike : plainName jX9_unlike.1.cls = true := by decide +kernel
abbrev jX9_cursor : MD := (yX9_cursor, cX9_cursor, 7, (some FieldType.int), { frames := 5, cells := 0, slots := 0, locals := 113 })
theorem cd_X9_cursor : cdW jX9_cursor ∈ WT := wt_of 1028 (by decide +kernel) rfl
theorem pn_X9_cursor : plainName jX9_cursor.1.cls = true := by decide +kernel
abbrev jX9_where : MD := (yX9_where, cX9_where, 7, (some FieldType.int), { frames := 5, cells := 0, slots := 0, locals := 113 })
theorem cd_X9_where : cdW jX9_where ∈ WT := wt_of 1032 (by decide +kernel) rfl
theorem pn_X9_where : plainName jX9_where.1.cls = true := by decide +kernel
abbrev jX9_status : MD := (yX9_status, cX9_status, 1, (some FieldType.int), { frames := 0, cells := 0, slots := 0, locals := 0 })
theorem cd_X9_status : cdW jX9_status ∈ WT := wt_of 1036 (by decide +kernel) rfl
theorem pn_X9_status : plainName jX9_status.1.cls = true := by decide +kernel
theorem lkX8_24 : lkI RX8 24 jX4_init 1 := ⟨wt_of 104 (by decide +kernel) rfl, wt_of 105 (by decide +kernel) rfl, wt_of 47 (by decide +kernel) rfl, cd_X4_init, ⟨by decide +kernel, by decide +kernel, by decide +kernel⟩, rfl, rfl⟩
theorem lkX8_29 : lkI RX8 29 jX3_init 1 := ⟨wt_of 138 (by decide +kernel) rfl, wt_of 139 (by decide +kernel) rfl, wt_of 49 (by decide +kernel) rfl, cd_X3_init, ⟨by decide +kernel, by decide +kernel, by decide +kernel⟩, rfl, rfl⟩
theorem lkX8_44 : lkV RX8 44 jX8_sheetOf 1 := ⟨wt_of 199 (by decide +kernel) rfl, wt_of 201 (by decide +kernel) rfl, wt_of 0 (by decide +kernel) rfl, wt_of 45 (by decide +kernel) rfl, cd_X8_sheetOf, ⟨by decide +kernel, by decide +kernel, by decide +kernel⟩⟩
theorem lkX8_48 : lkV RX8 48 jX8_refuse 1 := ⟨wt_of 203 (by decide +kernel) rfl, wt_of 205 (by decide +kernel) rfl, wt_of 1 (by decide +kernel) rfl, wt_of 45 (by decide +kernel) rfl, cd_X8_refuse, ⟨by decide +kernel, by decide +kernel, by decide +kernel⟩⟩
theorem lkX8_53 : lkV RX8 53 jX3_read 2 := ⟨wt_of 208 (by decide +kernel) rfl, wt_of 209 (by decide +kernel) rfl, wt_of 210 (by decide +kernel) rfl, wt_of 49 (by decide +kernel) rfl, cd_X3_read, ⟨by decide +kernel, by decide +kernel, by decide +kernel⟩⟩
theorem lkX8_57 : lkS RX8 57 jX8_codesAheadOfNone 3 := ⟨wt_of 249 (by decide +kernel) rfl, wt_of 250 (by decide +kernel) rfl, wt_of 45 (by decide +kernel) rfl, cd_X8_codesAheadOfNone, ⟨by decide +kernel, by decide +kernel, by decide +kernel⟩⟩
theorem lkX8_64 : lkS RX8 64 jX8_arePutCodes 1 := ⟨wt_of 268 (by decide +kernel) rfl, wt_of 269 (by decide +kernel) rfl, wt_of 45 (by decide +kernel) rfl, cd_X8_arePutCodes, ⟨by decide +kernel, by decide +kernel, by decide +kernel⟩⟩
theorem lkX8_68 : lkV RX8 68 jX0_isFull 0 := ⟨wt_of 271 (by decide +kernel) rfl, wt_of 272 (by decide +kernel) rfl, wt_of 273 (by decide +kernel) rfl, wt_of 46 (by decide +kernel) rfl, cd_X0_isFull, ⟨by decide +kernel, by decide +kernel, by decide +kernel⟩⟩
theorem lkX8_72 : lkV RX8 72 jX3_nameAt 1 := ⟨wt_of 275 (by decide +kernel) rfl, wt_of 276 (by decide +kernel) rfl, wt_of 277 (by decide +kernel) rfl, wt_of 49 (by decide +kernel) rfl, cd_X3_nameAt, ⟨by decide +kernel, by decide +kernel, by decide +kernel⟩⟩
theorem lkX8_80 : lkI RX8 80 jX2_init 4 := ⟨wt_of 285 (by decide +kernel) rfl, wt_of 286 (by decide +kernel) rfl, wt_of 54 (by decide +kernel) rfl, cd_X2_init, ⟨by decide +kernel, by decide +kernel, by decide +kernel⟩, rfl, rfl⟩
theorem lkX8_83 : lkV RX8 83 jX8_enter 2 := ⟨wt_of 325 (by decide +kernel) rfl, wt_of 327 (by decide +kernel) rfl, wt_of 8 (by decide +kernel) rfl, wt_of 45 (by decide +kernel) rfl, cd_X8_enter, ⟨by decide +kernel, by decide +kernel, by decide +kernel⟩⟩
theorem lkX8_87 : lkV RX8 87 jX3_hasStretch 2 := ⟨wt_of 380 (by decide +kernel) rfl, wt_of 381 (by decide +kernel) rfl, wt_of 382 (by decide +kernel) rfl, wt_of 49 (by decide +kernel) rfl, cd_X3_hasStretch, ⟨by decide +kernel, by decide +kernel, by decide +kernel⟩⟩
theorem lkX8_93 : lkV RX8 93 jX3_namesFrom 2 := ⟨wt_of 386 (by decide +kernel) rfl, wt_of 387 (by decide +kernel) rfl, wt_of 388 (by decide +kernel) rfl, wt_of 49 (by decide +kernel) rfl, cd_X3_namesFrom, ⟨by decide +kernel, by decide +kernel, by decide +kernel⟩⟩
theorem lkX8_97 : lkI RX8 97 jX6_init 3 := ⟨wt_of 392 (by decide +kernel) rfl, wt_of 393 (by decide +kernel) rfl, wt_of 55 (by decide +kernel) rfl, cd_X6_init, ⟨by decide +kernel, by decide +kernel, by decide +kernel⟩, rfl, rfl⟩
theorem lkX8_100 : lkS RX8 100 jX8_isTint 1 := ⟨wt_of 409 (by decide +kernel) rfl, wt_of 410 (by decide +kernel) rfl, wt_of 45 (by decide +kernel) rfl, cd_X8_isTint, ⟨by decide +kernel, by decide +kernel, by decide +kernel⟩⟩
theorem lkX8_104 : lkV RX8 104 jX3_nextBehind 1 := ⟨wt_of 412 (by decide +kernel) rfl, wt_of 413 (by decide +kernel) rfl, wt_of 414 (by decide +kernel) rfl, wt_of 49 (by decide +kernel) rfl, cd_X3_nextBehind, ⟨by decide +kernel, by decide +kernel, by decide +kernel⟩⟩
theorem lkX8_109 : lkI RX8 109 jX1_init 7 := ⟨wt_of 418 (by decide +kernel) rfl, wt_of 419 (by decide +kernel) rfl, wt_of 56 (by decide +kernel) rfl, cd_X1_init, ⟨by decide +kernel, by decide +kernel, by decide +kernel⟩, rfl, rfl⟩
theorem lkX8_112 : lkV RX8 112 jX0_find 1 := ⟨wt_of 452 (by decide +kernel) rfl, wt_of 453 (by decide +kernel) rfl, wt_of 454 (by decide +kernel) rfl, wt_of 46 (by decide +kernel) rfl, cd_X0_find, ⟨by decide +kernel, by decide +kernel, by decide +kernel⟩⟩
theorem lkX8_121 : lkV RX8 121 jX3_isWorking 1 := ⟨wt_of 456 (by decide +kernel) rfl, wt_of 457 (by decide +kernel) rfl, wt_of 458 (by decide +kernel) rfl, wt_of 49 (by decide +kernel) rfl, cd_X3_isWorking, ⟨by decide +kernel, by decide +kernel, by decide +kernel⟩⟩
theorem lkX8_130 : lkI RX8 130 jX7_init 3 := ⟨wt_of 462 (by decide +kernel) rfl, wt_of 463 (by decide +kernel) rfl, wt_of 57 (by decide +kernel) rfl, cd_X7_init, ⟨by decide +kernel, by decide +kernel, by decide +kernel⟩, rfl, rfl⟩
theorem lkX8_133 : lkV RX8 133 jX4_get 1 := ⟨wt_of 480 (by decide +kernel) rfl, wt_of 481 (by decide +kernel) rfl, wt_of 482 (by decide +kernel) rfl, wt_of 47 (by decide +kernel) rfl, cd_X4_get, ⟨by decide +kernel, by decide +kernel, by decide +kernel⟩⟩
theorem lkX8_137 : lkV RX8 137 jX4_settle 1 := ⟨wt_of 484 (by decide +kernel) rfl, wt_of 485 (by decide +kernel) rfl, wt_of 486 (by decide +kernel) rfl, wt_of 47 (by decide +kernel) rfl, cd_X4_settle, ⟨by decide +kernel, by decide +kernel, by decide +kernel⟩⟩
theorem lkX8_141 : lkV RX8 141 jX8_done 1 := ⟨wt_of 372 (by decide +kernel) rfl, wt_of 374 (by decide +kernel) rfl, wt_of 13 (by decide +kernel) rfl, wt_of 45 (by decide +kernel) rfl, cd_X8_done, ⟨by decide +kernel, by decide +kernel, by decide +kernel⟩⟩
theorem lkX8_148 : lkV RX8 148 jX4_hasTaken 1 := ⟨wt_of 542 (by decide +kernel) rfl, wt_of 217 (by decide +kernel) rfl, wt_of 218 (by decide +kernel) rfl, wt_of 47 (by decide +kernel) rfl, cd_X4_hasTaken, ⟨by decide +kernel, by decide +kernel, by decide +kernel⟩⟩
theorem lkX8_154 : lkV RX8 154 jX4_leastMissing 1 := ⟨wt_of 551 (by decide +kernel) rfl, wt_of 489 (by decide +kernel) rfl, wt_of 490 (by decide +kernel) rfl, wt_of 47 (by decide +kernel) rfl, cd_X4_leastMissing, ⟨by decide +kernel, by decide +kernel, by decide +kernel⟩⟩
theorem lkX8_183 : lkV RX8 183 jX8_read 1 := ⟨wt_of 624 (by decide +kernel) rfl, wt_of 626 (by decide +kernel) rfl, wt_of 15 (by decide +kernel) rfl, wt_of 45 (by decide +kernel) rfl, cd_X8_read, ⟨by decide +kernel, by decide +kernel, by decide +kernel⟩⟩
theorem lkX8_185 : lkV RX8 185 jX3_isPlace 1 := ⟨wt_of 632 (by decide +kernel) rfl, wt_of 280 (by decide +kernel) rfl, wt_of 281 (by decide +kernel) rfl, wt_of 49 (by decide +kernel) rfl, cd_X3_isPlace, ⟨by decide +kernel, by decide +kernel, by decide +kernel⟩⟩
theorem lkX8_188 : lkV RX8 188 jX0_codeOf 1 := ⟨wt_of 633 (by decide +kernel) rfl, wt_of 634 (by decide +kernel) rfl, wt_of 635 (by decide +kernel) rfl, wt_of 46 (by decide +kernel) rfl, cd_X0_codeOf, ⟨by decide +kernel, by decide +kernel, by decide +kernel⟩⟩
theorem lkX8_191 : lkV RX8 191 jX3_paint 0 := ⟨wt_of 638 (by decide +kernel) rfl, wt_of 639 (by decide +kernel) rfl, wt_of 640 (by decide +kernel) rfl, wt_of 49 (by decide +kernel) rfl, cd_X3_paint, ⟨by decide +kernel, by decide +kernel, by decide +kernel⟩⟩
theorem lkX8_194 : lkV RX8 194 jX3_tintsAt 1 := ⟨wt_of 652 (by decide +kernel) rfl, wt_of 653 (by decide +kernel) rfl, wt_of 654 (by decide +kernel) rfl, wt_of 49 (by decide +kernel) rfl, cd_X3_tintsAt, ⟨by decide +kernel, by decide +kernel, by decide +kernel⟩⟩
theorem lkX8_197 : lkV RX8 197 jX0_penOf 1 := ⟨wt_of 656 (by decide +kernel) rfl, wt_of 657 (by decide +kernel) rfl, wt_of 658 (by decide +kernel) rfl, wt_of 46 (by decide +kernel) rfl, cd_X0_penOf, ⟨by decide +kernel, by decide +kernel, by decide +kernel⟩⟩
theorem lkX8_206 : lkV RX8 206 jX3_spotOf 1 := ⟨wt_of 672 (by decide +kernel) rfl, wt_of 242 (by decide +kernel) rfl, wt_of 243 (by decide +kernel) rfl, wt_of 49 (by decide +kernel) rfl, cd_X3_spotOf, ⟨by decide +kernel, by decide +kernel, by decide +kernel⟩⟩
theorem lkX8_209 : lkV RX8 209 jX3_isSeen 1 := ⟨wt_of 673 (by decide +kernel) rfl, wt_of 674 (by decide +kernel) rfl, wt_of 675 (by decide +kernel) rfl, wt_of 49 (by decide +kernel) rfl, cd_X3_isSeen, ⟨by decide +kernel, by decide +kernel, by decide +kernel⟩⟩
theorem lkX8_218 : lkV RX8 218 jX3_stretchesOf 1 := ⟨wt_of 685 (by decide +kernel) rfl, wt_of 686 (by decide +kernel) rfl, wt_of 687 (by decide +kernel) rfl, wt_of 49 (by decide +kernel) rfl, cd_X3_stretchesOf, ⟨by decide +kernel, by decide +kernel, by decide +kernel⟩⟩
theorem lkX8_224 : lkV RX8 224 jX8_haveSameTaken 2 := ⟨wt_of 701 (by decide +kernel) rfl, wt_of 703 (by decide +kernel) rfl, wt_of 18 (by decide +kernel) rfl, wt_of 45 (by decide +kernel) rfl, cd_X8_haveSameTaken, ⟨by decide +kernel, by decide +kernel, by decide +kernel⟩⟩
theorem lkX8_228 : lkV RX8 228 jX8_placesAlike 2 := ⟨wt_of 705 (by decide +kernel) rfl, wt_of 707 (by decide +kernel) rfl, wt_of 19 (by decide +kernel) rfl, wt_of 45 (by decide +kernel) rfl, cd_X8_placesAlike, ⟨by decide +kernel, by decide +kernel, by decide +kernel⟩⟩
theorem lkX8_232 : lkS RX8 232 jX8_isCursor 1 := ⟨wt_of 719 (by decide +kernel) rfl, wt_of 720 (by decide +kernel) rfl, wt_of 45 (by decide +kernel) rfl, cd_X8_isCursor, ⟨by decide +kernel, by decide +kernel, by decide +kernel⟩⟩
theorem lkX8_241 : lkV RX8 241 jX0_add 1 := ⟨wt_of 329 (by decide +kernel) rfl, wt_of 330 (by decide +kernel) rfl, wt_of 331 (by decide +kernel) rfl, wt_of 46 (by decide +kernel) rfl, cd_X0_add, ⟨by decide +kernel, by decide +kernel, by decide +kernel⟩⟩
theorem lkX8_244 : lkV RX8 244 jX4_own 1 := ⟨wt_of 361 (by decide +kernel) rfl, wt_of 362 (by decide +kernel) rfl, wt_of 363 (by decide +kernel) rfl, wt_of 47 (by decide +kernel) rfl, cd_X4_own, ⟨by decide +kernel, by decide +kernel, by decide +kernel⟩⟩
theorem lkX8_247 : lkV RX8 247 jX3_lookAt 1 := ⟨wt_of 709 (by decide +kernel) rfl, wt_of 710 (by decide +kernel) rfl, wt_of 711 (by decide +kernel) rfl, wt_of 49 (by decide +kernel) rfl, cd_X3_lookAt, ⟨by decide +kernel, by decide +kernel, by decide +kernel⟩⟩
theorem lkX8_250 : lkS RX8 250 jJ9_min_7cf53 2 := ⟨wt_of 714 (by decide +kernel) rfl, wt_of 263 (by decide +kernel) rfl, wt_of 51 (by decide +kernel) rfl, cd_J9_min_7cf53, ⟨by decide +kernel, by decide +kernel, by decide +kernel⟩⟩
theorem lkX8_256 : lkS RX8 256 jJ7_copyOf_59c91 2 := ⟨wt_of 252 (by decide +kernel) rfl, wt_of 253 (by decide +kernel) rfl, wt_of 48 (by decide +kernel) rfl, cd_J7_copyOf_59c91, ⟨by decide +kernel, by decide +kernel, by decide +kernel⟩⟩
theorem lkX0_28 : lkV RX0 28 jX0_isFull 0 := ⟨wt_of 333 (by decide +kernel) rfl, wt_of 272 (by decide +kernel) rfl, wt_of 273 (by decide +kernel) rfl, wt_of 46 (by decide +kernel) rfl, cd_X0_isFull, ⟨by decide +kernel, by decide +kernel, by decide +kernel⟩⟩
theorem lkX0_32 : lkV RX0 32 jX0_insertByAge 1 := ⟨wt_of 334 (by decide +kernel) rfl, wt_of 336 (by decide +kernel) rfl, wt_of 9 (by decide +kernel) rfl, wt_of 46 (by decide +kernel) rfl, cd_X0_insertByAge, ⟨by decide +kernel, by decide +kernel, by decide +kernel⟩⟩
theorem lkX0_38 : lkV RX0 38 jX0_insertSigns 1 := ⟨wt_of 347 (by decide +kernel) rfl, wt_of 349 (by decide +kernel) rfl, wt_of 10 (by decide +kernel) rfl, wt_of 46 (by decide +kernel) rfl, cd_X0_insertSigns, ⟨by decide +kernel, by decide +kernel, by decide +kernel⟩⟩
theorem lkX0_46 : lkV RX0 46 jX0_find 1 := ⟨wt_of 637 (by decide +kernel) rfl, wt_of 453 (by decide +kernel) rfl, wt_of 454 (by decide +kernel) rfl, wt_of 46 (by decide +kernel) rfl, cd_X0_find, ⟨by decide +kernel, by decide +kernel, by decide +kernel⟩⟩
theorem lkX0_60 : lkV RX0 60 jX0_spotFor 1 := ⟨wt_of 351 (by decide +kernel) rfl, wt_of 353 (by decide +kernel) rfl, wt_of 11 (by decide +kernel) rfl, wt_of 46 (by decide +kernel) rfl, cd_X0_spotFor, ⟨by decide +kernel, by decide +kernel, by decide +kernel⟩⟩
theorem lkX0_67 : lkV RX0 67 jX2_nameOf 1 := ⟨wt_of 357 (by decide +kernel) rfl, wt_of 358 (by decide +kernel) rfl, wt_of 359 (by decide +kernel) rfl, wt_of 54 (by decide +kernel) rfl, cd_X2_nameOf, ⟨by decide +kernel, by decide +kernel, by decide +kernel⟩⟩
theorem lkX0_73 : lkS RX0 73 jJ9_min_7cf53 2 := ⟨wt_of 355 (by decide +kernel) rfl, wt_of 263 (by decide +kernel) rfl, wt_of 51 (by decide +kernel) rfl, cd_J9_min_7cf53, ⟨by decide +kernel, by decide +kernel, by decide +kernel⟩⟩
theorem lkX1_3 : lkI RX1 3 jX5_init 2 := ⟨wt_of 421 (by decide +kernel) rfl, wt_of 289 (by decide +kernel) rfl, wt_of 53 (by decide +kernel) rfl, cd_X5_init, ⟨by decide +kernel, by decide +kernel, by decide +kernel⟩, rfl, rfl⟩
theorem lkX1_28 : lkV RX1 28 jX1_nameOf 1 := ⟨wt_of 518 (by decide +kernel) rfl, wt_of 519 (by decide +kernel) rfl, wt_of 520 (by decide +kernel) rfl, wt_of 56 (by decide +kernel) rfl, cd_X1_nameOf, ⟨by decide +kernel, by decide +kernel, by decide +kernel⟩⟩
theorem lkX2_3 : lkI RX2 3 jX5_init 2 := ⟨wt_of 288 (by decide +kernel) rfl, wt_of 289 (by decide +kernel) rfl, wt_of 53 (by decide +kernel) rfl, cd_X5_init, ⟨by decide +kernel, by decide +kernel, by decide +kernel⟩, rfl, rfl⟩
theorem lkX3_37 : lkS RX3 37 jJ7_fill_53178 2 := ⟨wt_of 142 (by decide +kernel) rfl, wt_of 109 (by decide +kernel) rfl, wt_of 48 (by decide +kernel) rfl, cd_J7_fill_53178, ⟨by decide +kernel, by decide +kernel, by decide +kernel⟩⟩
theorem lkX3_43 : lkV RX3 43 jX3_findTaken 2 := ⟨wt_of 212 (by decide +kernel) rfl, wt_of 214 (by decide +kernel) rfl, wt_of 2 (by decide +kernel) rfl, wt_of 49 (by decide +kernel) rfl, cd_X3_findTaken, ⟨by decide +kernel, by decide +kernel, by decide +kernel⟩⟩
theorem lkX3_47 : lkV RX3 47 jX3_findUndone 0 := ⟨wt_of 220 (by decide +kernel) rfl, wt_of 222 (by decide +kernel) rfl, wt_of 3 (by decide +kernel) rfl, wt_of 49 (by decide +kernel) rfl, cd_X3_findUndone, ⟨by decide +kernel, by decide +kernel, by decide +kernel⟩⟩
theorem lkX3_50 : lkV RX3 50 jX3_findOrder 0 := ⟨wt_of 225 (by decide +kernel) rfl, wt_of 227 (by decide +kernel) rfl, wt_of 4 (by decide +kernel) rfl, wt_of 49 (by decide +kernel) rfl, cd_X3_findOrder, ⟨by decide +kernel, by decide +kernel, by decide +kernel⟩⟩
theorem lkX3_53 : lkV RX3 53 jX3_findStruck 0 := ⟨wt_of 232 (by decide +kernel) rfl, wt_of 234 (by decide +kernel) rfl, wt_of 5 (by decide +kernel) rfl, wt_of 49 (by decide +kernel) rfl, cd_X3_findStruck, ⟨by decide +kernel, by decide +kernel, by decide +kernel⟩⟩
theorem lkX3_56 : lkV RX3 56 jX3_findSeen 0 := ⟨wt_of 245 (by decide +kernel) rfl, wt_of 247 (by decide +kernel) rfl, wt_of 7 (by decide +kernel) rfl, wt_of 49 (by decide +kernel) rfl, cd_X3_findSeen, ⟨by decide +kernel, by decide +kernel, by decide +kernel⟩⟩
theorem lkX3_68 : lkV RX3 68 jX3_isPlace 1 := ⟨wt_of 279 (by decide +kernel) rfl, wt_of 280 (by decide +kernel) rfl, wt_of 281 (by decide +kernel) rfl, wt_of 49 (by decide +kernel) rfl, cd_X3_isPlace, ⟨by decide +kernel, by decide +kernel, by decide +kernel⟩⟩
theorem lkX3_72 : lkV RX3 72 jX3_nameAt 1 := ⟨wt_of 391 (by decide +kernel) rfl, wt_of 276 (by decide +kernel) rfl, wt_of 277 (by decide +kernel) rfl, wt_of 49 (by decide +kernel) rfl, cd_X3_nameAt, ⟨by decide +kernel, by decide +kernel, by decide +kernel⟩⟩
theorem lkX3_76 : lkV RX3 76 jX3_tintsAt 1 := ⟨wt_of 713 (by decide +kernel) rfl, wt_of 653 (by decide +kernel) rfl, wt_of 654 (by decide +kernel) rfl, wt_of 49 (by decide +kernel) rfl, cd_X3_tintsAt, ⟨by decide +kernel, by decide +kernel, by decide +kernel⟩⟩
theorem lkX3_79 : lkS RX3 79 jJ9_max_7cf53 2 := ⟨wt_of 390 (by decide +kernel) rfl, wt_of 370 (by decide +kernel) rfl, wt_of 51 (by decide +kernel) rfl, cd_J9_max_7cf53, ⟨by decide +kernel, by decide +kernel, by decide +kernel⟩⟩
theorem lkX3_85 : lkV RX3 85 jX3_spotOf 1 := ⟨wt_of 241 (by decide +kernel) rfl, wt_of 242 (by decide +kernel) rfl, wt_of 243 (by decide +kernel) rfl, wt_of 49 (by decide +kernel) rfl, cd_X3_spotOf, ⟨by decide +kernel, by decide +kernel, by decide +kernel⟩⟩
theorem lkX3_102 : lkV RX3 102 jX3_isWorking 1 := ⟨wt_of 643 (by decide +kernel) rfl, wt_of 457 (by decide +kernel) rfl, wt_of 458 (by decide +kernel) rfl, wt_of 49 (by decide +kernel) rfl, cd_X3_isWorking, ⟨by decide +kernel, by decide +kernel, by decide +kernel⟩⟩
theorem lkX3_106 : lkV RX3 106 jX3_lay 1 := ⟨wt_of 644 (by decide +kernel) rfl, wt_of 646 (by decide +kernel) rfl, wt_of 16 (by decide +kernel) rfl, wt_of 49 (by decide +kernel) rfl, cd_X3_lay, ⟨by decide +kernel, by decide +kernel, by decide +kernel⟩⟩
theorem lkX3_116 : lkV RX3 116 jX3_endOf 1 := ⟨wt_of 648 (by decide +kernel) rfl, wt_of 650 (by decide +kernel) rfl, wt_of 17 (by decide +kernel) rfl, wt_of 49 (by decide +kernel) rfl, cd_X3_endOf, ⟨by decide +kernel, by decide +kernel, by decide +kernel⟩⟩
theorem lkX3_133 : lkV RX3 133 jX4_hasTaken 1 := ⟨wt_of 216 (by decide +kernel) rfl, wt_of 217 (by decide +kernel) rfl, wt_of 218 (by decide +kernel) rfl, wt_of 47 (by decide +kernel) rfl, cd_X4_hasTaken, ⟨by decide +kernel, by decide +kernel, by decide +kernel⟩⟩
theorem lkX3_153 : lkV RX3 153 jX3_countStruck 1 := ⟨wt_of 237 (by decide +kernel) rfl, wt_of 239 (by decide +kernel) rfl, wt_of 6 (by decide +kernel) rfl, wt_of 49 (by decide +kernel) rfl, cd_X3_countStruck, ⟨by decide +kernel, by decide +kernel, by decide +kernel⟩⟩
theorem lkX4_28 : lkS RX4 28 jJ7_fill_53178 2 := ⟨wt_of 108 (by decide +kernel) rfl, wt_of 109 (by decide +kernel) rfl, wt_of 48 (by decide +kernel) rfl, cd_J7_fill_53178, ⟨by decide +kernel, by decide +kernel, by decide +kernel⟩⟩
theorem lkX4_39 : lkV RX4 39 jX4_take 1 := ⟨wt_of 365 (by decide +kernel) rfl, wt_of 367 (by decide +kernel) rfl, wt_of 12 (by decide +kernel) rfl, wt_of 47 (by decide +kernel) rfl, cd_X4_take, ⟨by decide +kernel, by decide +kernel, by decide +kernel⟩⟩
theorem lkX4_52 : lkV RX4 52 jX4_leastMissing 1 := ⟨wt_of 488 (by decide +kernel) rfl, wt_of 489 (by decide +kernel) rfl, wt_of 490 (by decide +kernel) rfl, wt_of 47 (by decide +kernel) rfl, cd_X4_leastMissing, ⟨by decide +kernel, by decide +kernel, by decide +kernel⟩⟩
theorem lkX4_59 : lkV RX4 59 jX4_lesserMissing 2 := ⟨wt_of 492 (by decide +kernel) rfl, wt_of 494 (by decide +kernel) rfl, wt_of 14 (by decide +kernel) rfl, wt_of 47 (by decide +kernel) rfl, cd_X4_lesserMissing, ⟨by decide +kernel, by decide +kernel, by decide +kernel⟩⟩
theorem lkX4_71 : lkS RX4 71 jJ9_min_7cf53 2 := ⟨wt_of 496 (by decide +kernel) rfl, wt_of 263 (by decide +kernel) rfl, wt_of 51 (by decide +kernel) rfl, cd_J9_min_7cf53, ⟨by decide +kernel, by decide +kernel, by decide +kernel⟩⟩
theorem lkX4_82 : lkS RX4 82 jJ9_max_7cf53 2 := ⟨wt_of 369 (by decide +kernel) rfl, wt_of 370 (by decide +kernel) rfl, wt_of 51 (by decide +kernel) rfl, cd_J9_max_7cf53, ⟨by decide +kernel, by decide +kernel, by decide +kernel⟩⟩
theorem lkX6_3 : lkI RX6 3 jX5_init 2 := ⟨wt_of 395 (by decide +kernel) rfl, wt_of 289 (by decide +kernel) rfl, wt_of 53 (by decide +kernel) rfl, cd_X5_init, ⟨by decide +kernel, by decide +kernel, by decide +kernel⟩, rfl, rfl⟩
theorem lkX6_15 : lkV RX6 15 jX6_nameOf 1 := ⟨wt_of 530 (by decide +kernel) rfl, wt_of 531 (by decide +kernel) rfl, wt_of 532 (by decide +kernel) rfl, wt_of 55 (by decide +kernel) rfl, cd_X6_nameOf, ⟨by decide +kernel, by decide +kernel, by decide +kernel⟩⟩
theorem lkX7_3 : lkI RX7 3 jX5_init 2 := ⟨wt_of 465 (by decide +kernel) rfl, wt_of 289 (by decide +kernel) rfl, wt_of 53 (by decide +kernel) rfl, cd_X5_init, ⟨by decide +kernel, by decide +kernel, by decide +kernel⟩, rfl, rfl⟩
theorem lkL_9 : lkI RL 9 jX8_init 0 := ⟨wt_of 60 (by decide +kernel) rfl, wt_of 61 (by decide +kernel) rfl, wt_of 45 (by decide +kernel) rfl, cd_X8_init, ⟨by decide +kernel, by decide +kernel, by decide +kernel⟩, rfl, rfl⟩
theorem lkL_12 : lkI RL 12 jX9_init 0 := ⟨wt_of 732 (by decide +kernel) rfl, wt_of 733 (by decide +kernel) rfl, wt_of 50 (by decide +kernel) rfl, cd_X9_init, ⟨by decide +kernel, by decide +kernel, by decide +kernel⟩, rfl, rfl⟩
theorem lkL_13 : lkV RL 13 jX8_type 5 := ⟨wt_of 195 (by decide +kernel) rfl, wt_of 196 (by decide +kernel) rfl, wt_of 197 (by decide +kernel) rfl, wt_of 45 (by decide +kernel) rfl, cd_X8_type, ⟨by decide +kernel, by decide +kernel, by decide +kernel⟩⟩
theorem lkL_17 : lkV RL 17 jX9_type 5 := ⟨wt_of 822 (by decide +kernel) rfl, wt_of 823 (by decide +kernel) rfl, wt_of 824 (by decide +kernel) rfl, wt_of 50 (by decide +kernel) rfl, cd_X9_type, ⟨by decide +kernel, by decide +kernel, by decide +kernel⟩⟩
theorem lkL_18 : lkV RL 18 jX8_strike 3 := ⟨wt_of 376 (by decide +kernel) rfl, wt_of 377 (by decide +kernel) rfl, wt_of 378 (by decide +kernel) rfl, wt_of 45 (by decide +kernel) rfl, cd_X8_strike, ⟨by decide +kernel, by decide +kernel, by decide +kernel⟩⟩
theorem lkL_22 : lkV RL 22 jX9_strike 3 := ⟨wt_of 897 (by decide +kernel) rfl, wt_of 898 (by decide +kernel) rfl, wt_of 899 (by decide +kernel) rfl, wt_of 50 (by decide +kernel) rfl, cd_X9_strike, ⟨by decide +kernel, by decide +kernel, by decide +kernel⟩⟩
theorem lkL_23 : lkV RL 23 jX8_mark 5 := ⟨wt_of 405 (by decide +kernel) rfl, wt_of 406 (by decide +kernel) rfl, wt_of 407 (by decide +kernel) rfl, wt_of 45 (by decide +kernel) rfl, cd_X8_mark, ⟨by decide +kernel, by decide +kernel, by decide +kernel⟩⟩
theorem lkL_26 : lkV RL 26 jX9_mark 5 := ⟨wt_of 904 (by decide +kernel) rfl, wt_of 905 (by decide +kernel) rfl, wt_of 906 (by decide +kernel) rfl, wt_of 50 (by decide +kernel) rfl, cd_X9_mark, ⟨by decide +kernel, by decide +kernel, by decide +kernel⟩⟩
theorem lkL_27 : lkV RL 27 jX8_undo 2 := ⟨wt_of 448 (by decide +kernel) rfl, wt_of 449 (by decide +kernel) rfl, wt_of 450 (by decide +kernel) rfl, wt_of 45 (by decide +kernel) rfl, cd_X8_undo, ⟨by decide +kernel, by decide +kernel, by decide +kernel⟩⟩
theorem lkL_31 : lkV RL 31 jX9_undo 2 := ⟨wt_of 908 (by decide +kernel) rfl, wt_of 909 (by decide +kernel) rfl, wt_of 910 (by decide +kernel) rfl, wt_of 50 (by decide +kernel) rfl, cd_X9_undo, ⟨by decide +kernel, by decide +kernel, by decide +kernel⟩⟩
theorem lkL_32 : lkV RL 32 jX8_carry 2 := ⟨wt_of 476 (by decide +kernel) rfl, wt_of 477 (by decide +kernel) rfl, wt_of 478 (by decide +kernel) rfl, wt_of 45 (by decide +kernel) rfl, cd_X8_carry, ⟨by decide +kernel, by decide +kernel, by decide +kernel⟩⟩
theorem lkL_35 : lkV RL 35 jX9_carry 2 := ⟨wt_of 916 (by decide +kernel) rfl, wt_of 917 (by decide +kernel) rfl, wt_of 918 (by decide +kernel) rfl, wt_of 50 (by decide +kernel) rfl, cd_X9_carry, ⟨by decide +kernel, by decide +kernel, by decide +kernel⟩⟩
theorem lkL_36 : lkV RL 36 jX8_all 2 := ⟨wt_of 538 (by decide +kernel) rfl, wt_of 539 (by decide +kernel) rfl, wt_of 540 (by decide +kernel) rfl, wt_of 45 (by decide +kernel) rfl, cd_X8_all, ⟨by decide +kernel, by decide +kernel, by decide +kernel⟩⟩
theorem lkL_39 : lkV RL 39 jX9_all 2 := ⟨wt_of 920 (by decide +kernel) rfl, wt_of 921 (by decide +kernel) rfl, wt_of 922 (by decide +kernel) rfl, wt_of 50 (by decide +kernel) rfl, cd_X9_all, ⟨by decide +kernel, by decide +kernel, by decide +kernel⟩⟩
theorem lkL_40 : lkV RL 40 jX8_state 2 := ⟨wt_of 543 (by decide +kernel) rfl, wt_of 544 (by decide +kernel) rfl, wt_of 545 (by decide +kernel) rfl, wt_of 45 (by decide +kernel) rfl, cd_X8_state, ⟨by decide +kernel, by decide +kernel, by decide +kernel⟩⟩
theorem lkL_43 : lkV RL 43 jX9_state 2 := ⟨wt_of 924 (by decide +kernel) rfl, wt_of 925 (by decide +kernel) rfl, wt_of 926 (by decide +kernel) rfl, wt_of 50 (by decide +kernel) rfl, cd_X9_state, ⟨by decide +kernel, by decide +kernel, by decide +kernel⟩⟩
theorem lkL_44 : lkV RL 44 jX8_lacks 2 := ⟨wt_of 547 (by decide +kernel) rfl, wt_of 548 (by decide +kernel) rfl, wt_of 549 (by decide +kernel) rfl, wt_of 45 (by decide +kernel) rfl, cd_X8_lacks, ⟨by decide +kernel, by decide +kernel, by decide +kernel⟩⟩
theorem lkL_47 : lkV RL 47 jX9_lacks 2 := ⟨wt_of 928 (by decide +kernel) rfl, wt_of 929 (by decide +kernel) rfl, wt_of 930 (by decide +kernel) rfl, wt_of 50 (by decide +kernel) rfl, cd_X9_lacks, ⟨by decide +kernel, by decide +kernel, by decide +kernel⟩⟩
theorem lkL_48 : lkV RL 48 jX8_slips 0 := ⟨wt_of 552 (by decide +kernel) rfl, wt_of 553 (by decide +kernel) rfl, wt_of 554 (by decide +kernel) rfl, wt_of 45 (by decide +kernel) rfl, cd_X8_slips, ⟨by decide +kernel, by decide +kernel, by decide +kernel⟩⟩
theorem lkL_52 : lkV RL 52 jX9_slips 0 := ⟨wt_of 932 (by decide +kernel) rfl, wt_of 933 (by decide +kernel) rfl, wt_of 934 (by decide +kernel) rfl, wt_of 50 (by decide +kernel) rfl, cd_X9_slips, ⟨by decide +kernel, by decide +kernel, by decide +kernel⟩⟩
theorem lkL_53 : lkV RL 53 jX8_slip 2 := ⟨wt_of 556 (by decide +kernel) rfl, wt_of 557 (by decide +kernel) rfl, wt_of 558 (by decide +kernel) rfl, wt_of 45 (by decide +kernel) rfl, cd_X8_slip, ⟨by decide +kernel, by decide +kernel, by decide +kernel⟩⟩
theorem lkL_56 : lkV RL 56 jX9_slip 2 := ⟨wt_of 936 (by decide +kernel) rfl, wt_of 937 (by decide +kernel) rfl, wt_of 938 (by decide +kernel) rfl, wt_of 50 (by decide +kernel) rfl, cd_X9_slip, ⟨by decide +kernel, by decide +kernel, by decide +kernel⟩⟩
theorem lkL_57 : lkV RL 57 jX8_part 2 := ⟨wt_of 590 (by decide +kernel) rfl, wt_of 591 (by decide +kernel) rfl, wt_of 592 (by decide +kernel) rfl, wt_of 45 (by decide +kernel) rfl, cd_X8_part, ⟨by decide +kernel, by decide +kernel, by decide +kernel⟩⟩
theorem lkL_60 : lkV RL 60 jX9_part 2 := ⟨wt_of 940 (by decide +kernel) rfl, wt_of 941 (by decide +kernel) rfl, wt_of 942 (by decide +kernel) rfl, wt_of 50 (by decide +kernel) rfl, cd_X9_part, ⟨by decide +kernel, by decide +kernel, by decide +kernel⟩⟩
theorem lkL_61 : lkV RL 61 jX8_left 1 := ⟨wt_of 603 (by decide +kernel) rfl, wt_of 604 (by decide +kernel) rfl, wt_of 605 (by decide +kernel) rfl, wt_of 45 (by decide +kernel) rfl, cd_X8_left, ⟨by decide +kernel, by decide +kernel, by decide +kernel⟩⟩
theorem lkL_65 : lkV RL 65 jX9_left 1 := ⟨wt_of 944 (by decide +kernel) rfl, wt_of 945 (by decide +kernel) rfl, wt_of 946 (by decide +kernel) rfl, wt_of 50 (by decide +kernel) rfl, cd_X9_left, ⟨by decide +kernel, by decide +kernel, by decide +kernel⟩⟩
theorem lkL_66 : lkV RL 66 jX8_bound 1 := ⟨wt_of 607 (by decide +kernel) rfl, wt_of 608 (by decide +kernel) rfl, wt_of 609 (by decide +kernel) rfl, wt_of 45 (by decide +kernel) rfl, cd_X8_bound, ⟨by decide +kernel, by decide +kernel, by decide +kernel⟩⟩
theorem lkL_69 : lkV RL 69 jX9_bound 1 := ⟨wt_of 952 (by decide +kernel) rfl, wt_of 953 (by decide +kernel) rfl, wt_of 954 (by decide +kernel) rfl, wt_of 50 (by decide +kernel) rfl, cd_X9_bound, ⟨by decide +kernel, by decide +kernel, by decide +kernel⟩⟩
theorem lkL_70 : lkV RL 70 jX8_undone 1 := ⟨wt_of 611 (by decide +kernel) rfl, wt_of 612 (by decide +kernel) rfl, wt_of 613 (by decide +kernel) rfl, wt_of 45 (by decide +kernel) rfl, cd_X8_undone, ⟨by decide +kernel, by decide +kernel, by decide +kernel⟩⟩
theorem lkL_73 : lkV RL 73 jX9_undone 1 := ⟨wt_of 956 (by decide +kernel) rfl, wt_of 957 (by decide +kernel) rfl, wt_of 958 (by decide +kernel) rfl, wt_of 50 (by decide +kernel) rfl, cd_X9_undone, ⟨by decide +kernel, by decide +kernel, by decide +kernel⟩⟩
theorem lkL_74 : lkV RL 74 jX8_later 2 := ⟨wt_of 615 (by decide +kernel) rfl, wt_of 616 (by decide +kernel) rfl, wt_of 617 (by decide +kernel) rfl, wt_of 45 (by decide +kernel) rfl, cd_X8_later, ⟨by decide +kernel, by decide +kernel, by decide +kernel⟩⟩
theorem lkL_78 : lkV RL 78 jX9_later 2 := ⟨wt_of 960 (by decide +kernel) rfl, wt_of 961 (by decide +kernel) rfl, wt_of 962 (by decide +kernel) rfl, wt_of 50 (by decide +kernel) rfl, cd_X9_later, ⟨by decide +kernel, by decide +kernel, by decide +kernel⟩⟩
theorem lkL_79 : lkV RL 79 jX8_length 1 := ⟨wt_of 620 (by decide +kernel) rfl, wt_of 621 (by decide +kernel) rfl, wt_of 622 (by decide +kernel) rfl, wt_of 45 (by decide +kernel) rfl, cd_X8_length, ⟨by decide +kernel, by decide +kernel, by decide +kernel⟩⟩
theorem lkL_82 : lkV RL 82 jX9_length 1 := ⟨wt_of 964 (by decide +kernel) rfl, wt_of 965 (by decide +kernel) rfl, wt_of 966 (by decide +kernel) rfl, wt_of 50 (by decide +kernel) rfl, cd_X9_length, ⟨by decide +kernel, by decide +kernel, by decide +kernel⟩⟩
theorem lkL_83 : lkV RL 83 jX8_text 3 := ⟨wt_of 628 (by decide +kernel) rfl, wt_of 629 (by decide +kernel) rfl, wt_of 630 (by decide +kernel) rfl, wt_of 45 (by decide +kernel) rfl, cd_X8_text, ⟨by decide +kernel, by decide +kernel, by decide +kernel⟩⟩
theorem lkL_86 : lkV RL 86 jX9_text 3 := ⟨wt_of 968 (by decide +kernel) rfl, wt_of 969 (by decide +kernel) rfl, wt_of 970 (by decide +kernel) rfl, wt_of 50 (by decide +kernel) rfl, cd_X9_text, ⟨by decide +kernel, by decide +kernel, by decide +kernel⟩⟩
theorem lkL_87 : lkV RL 87 jX8_signs 1 := ⟨wt_of 660 (by decide +kernel) rfl, wt_of 661 (by decide +kernel) rfl, wt_of 662 (by decide +kernel) rfl, wt_of 45 (by decide +kernel) rfl, cd_X8_signs, ⟨by decide +kernel, by decide +kernel, by decide +kernel⟩⟩
theorem lkL_90 : lkV RL 90 jX9_signs 1 := ⟨wt_of 988 (by decide +kernel) rfl, wt_of 989 (by decide +kernel) rfl, wt_of 990 (by decide +kernel) rfl, wt_of 50 (by decide +kernel) rfl, cd_X9_signs, ⟨by decide +kernel, by decide +kernel, by decide +kernel⟩⟩
theorem lkL_91 : lkV RL 91 jX8_order 2 := ⟨wt_of 664 (by decide +kernel) rfl, wt_of 665 (by decide +kernel) rfl, wt_of 666 (by decide +kernel) rfl, wt_of 45 (by decide +kernel) rfl, cd_X8_order, ⟨by decide +kernel, by decide +kernel, by decide +kernel⟩⟩
theorem lkL_94 : lkV RL 94 jX9_order 2 := ⟨wt_of 992 (by decide +kernel) rfl, wt_of 993 (by decide +kernel) rfl, wt_of 994 (by decide +kernel) rfl, wt_of 50 (by decide +kernel) rfl, cd_X9_order, ⟨by decide +kernel, by decide +kernel, by decide +kernel⟩⟩
theorem lkL_95 : lkV RL 95 jX8_place 2 := ⟨wt_of 668 (by decide +kernel) rfl, wt_of 669 (by decide +kernel) rfl, wt_of 670 (by decide +kernel) rfl, wt_of 45 (by decide +kernel) rfl, cd_X8_place, ⟨by decide +kernel, by decide +kernel, by decide +kernel⟩⟩
theorem lkL_98 : lkV RL 98 jX9_place 2 := ⟨wt_of 997 (by decide +kernel) rfl, wt_of 998 (by decide +kernel) rfl, wt_of 999 (by decide +kernel) rfl, wt_of 50 (by decide +kernel) rfl, cd_X9_place, ⟨by decide +kernel, by decide +kernel, by decide +kernel⟩⟩
theorem lkL_99 : lkV RL 99 jX8_strikers 2 := ⟨wt_of 677 (by decide +kernel) rfl, wt_of 678 (by decide +kernel) rfl, wt_of 679 (by decide +kernel) rfl, wt_of 45 (by decide +kernel) rfl, cd_X8_strikers, ⟨by decide +kernel, by decide +kernel, by decide +kernel⟩⟩
theorem lkL_102 : lkV RL 102 jX9_strikers 2 := ⟨wt_of 1005 (by decide +kernel) rfl, wt_of 1006 (by decide +kernel) rfl, wt_of 1007 (by decide +kernel) rfl, wt_of 50 (by decide +kernel) rfl, cd_X9_strikers, ⟨by decide +kernel, by decide +kernel, by decide +kernel⟩⟩
theorem lkL_103 : lkV RL 103 jX8_spans 2 := ⟨wt_of 681 (by decide +kernel) rfl, wt_of 682 (by decide +kernel) rfl, wt_of 683 (by decide +kernel) rfl, wt_of 45 (by decide +kernel) rfl, cd_X8_spans, ⟨by decide +kernel, by decide +kernel, by decide +kernel⟩⟩
theorem lkL_106 : lkV RL 106 jX9_spans 2 := ⟨wt_of 1009 (by decide +kernel) rfl, wt_of 1010 (by decide +kernel) rfl, wt_of 1011 (by decide +kernel) rfl, wt_of 50 (by decide +kernel) rfl, cd_X9_spans, ⟨by decide +kernel, by decide +kernel, by decide +kernel⟩⟩
theorem lkL_107 : lkV RL 107 jX8_history 2 := ⟨wt_of 689 (by decide +kernel) rfl, wt_of 690 (by decide +kernel) rfl, wt_of 691 (by decide +kernel) rfl, wt_of 45 (by decide +kernel) rfl, cd_X8_history, ⟨by decide +kernel, by decide +kernel, by decide +kernel⟩⟩
theorem lkL_110 : lkV RL 110 jX9_history 2 := ⟨wt_of 1013 (by decide +kernel) rfl, wt_of 1014 (by decide +kernel) rfl, wt_of 1015 (by decide +kernel) rfl, wt_of 50 (by decide +kernel) rfl, cd_X9_history, ⟨by decide +kernel, by decide +kernel, by decide +kernel⟩⟩
theorem lkL_111 : lkV RL 111 jX8_asOf 3 := ⟨wt_of 693 (by decide +kernel) rfl, wt_of 694 (by decide +kernel) rfl, wt_of 695 (by decide +kernel) rfl, wt_of 45 (by decide +kernel) rfl, cd_X8_asOf, ⟨by decide +kernel, by decide +kernel, by decide +kernel⟩⟩
theorem lkL_114 : lkV RL 114 jX9_asOf 3 := ⟨wt_of 1017 (by decide +kernel) rfl, wt_of 1018 (by decide +kernel) rfl, wt_of 1019 (by decide +kernel) rfl, wt_of 50 (by decide +kernel) rfl, cd_X9_asOf, ⟨by decide +kernel, by decide +kernel, by decide +kernel⟩⟩
theorem lkL_115 : lkV RL 115 jX8_unlike 2 := ⟨wt_of 697 (by decide +kernel) rfl, wt_of 698 (by decide +kernel) rfl, wt_of 699 (by decide +kernel) rfl, wt_of 45 (by decide +kernel) rfl, cd_X8_unlike, ⟨by decide +kernel, by decide +kernel, by decide +kernel⟩⟩
theorem lkL_118 : lkV RL 118 jX9_unlike 2 := ⟨wt_of 1021 (by decide +kernel) rfl, wt_of 1022 (by decide +kernel) rfl, wt_of 1023 (by decide +kernel) rfl, wt_of 50 (by decide +kernel) rfl, cd_X9_unlike, ⟨by decide +kernel, by decide +kernel, by decide +kernel⟩⟩
theorem lkL_119 : lkV RL 119 jX8_cursor 4 := ⟨wt_of 715 (by decide +kernel) rfl, wt_of 716 (by decide +kernel) rfl, wt_of 717 (by decide +kernel) rfl, wt_of 45 (by decide +kernel) rfl, cd_X8_cursor, ⟨by decide +kernel, by decide +kernel, by decide +kernel⟩⟩
theorem lkL_123 : lkV RL 123 jX9_cursor 4 := ⟨wt_of 1025 (by decide +kernel) rfl, wt_of 1026 (by decide +kernel) rfl, wt_of 1027 (by decide +kernel) rfl, wt_of 50 (by decide +kernel) rfl, cd_X9_cursor, ⟨by decide +kernel, by decide +kernel, by decide +kernel⟩⟩
theorem lkL_124 : lkV RL 124 jX8_where 2 := ⟨wt_of 722 (by decide +kernel) rfl, wt_of 723 (by decide +kernel) rfl, wt_of 724 (by decide +kernel) rfl, wt_of 45 (by decide +kernel) rfl, cd_X8_where, ⟨by decide +kernel, by decide +kernel, by decide +kernel⟩⟩
theorem lkL_127 : lkV RL 127 jX9_where 2 := ⟨wt_of 1029 (by decide +kernel) rfl, wt_of 1030 (by decide +kernel) rfl, wt_of 1031 (by decide +kernel) rfl, wt_of 50 (by decide +kernel) rfl, cd_X9_where, ⟨by decide +kernel, by decide +kernel, by decide +kernel⟩⟩
theorem lkL_128 : lkV RL 128 jX8_status 0 := ⟨wt_of 726 (by decide +kernel) rfl, wt_of 727 (by decide +kernel) rfl, wt_of 728 (by decide +kernel) rfl, wt_of 45 (by decide +kernel) rfl, cd_X8_status, ⟨by decide +kernel, by decide +kernel, by decide +kernel⟩⟩
theorem lkL_131 : lkV RL 131 jX9_status 0 := ⟨wt_of 1033 (by decide +kernel) rfl, wt_of 1034 (by decide +kernel) rfl, wt_of 1035 (by decide +kernel) rfl, wt_of 50 (by decide +kernel) rfl, cd_X9_status, ⟨by decide +kernel, by decide +kernel, by decide +kernel⟩⟩
theorem lkX9_90 : lkV RX9 90 jX9_latestOf 2 := ⟨wt_of 849 (by decide +kernel) rfl, wt_of 851 (by decide +kernel) rfl, wt_of 25 (by decide +kernel) rfl, wt_of 50 (by decide +kernel) rfl, cd_X9_latestOf, ⟨by decide +kernel, by decide +kernel, by decide +kernel⟩⟩
theorem lkX9_94 : lkV RX9 94 jX9_need 1 := ⟨wt_of 853 (by decide +kernel) rfl, wt_of 855 (by decide +kernel) rfl, wt_of 26 (by decide +kernel) rfl, wt_of 50 (by decide +kernel) rfl, cd_X9_need, ⟨by decide +kernel, by decide +kernel, by decide +kernel⟩⟩
theorem lkX9_98 : lkV RX9 98 jX9_findNeeds 1 := ⟨wt_of 845 (by decide +kernel) rfl, wt_of 847 (by decide +kernel) rfl, wt_of 24 (by decide +kernel) rfl, wt_of 50 (by decide +kernel) rfl, cd_X9_findNeeds, ⟨by decide +kernel, by decide +kernel, by decide +kernel⟩⟩
theorem lkX9_101 : lkV RX9 101 jX9_hasNeeds 1 := ⟨wt_of 841 (by decide +kernel) rfl, wt_of 843 (by decide +kernel) rfl, wt_of 23 (by decide +kernel) rfl, wt_of 50 (by decide +kernel) rfl, cd_X9_hasNeeds, ⟨by decide +kernel, by decide +kernel, by decide +kernel⟩⟩
theorem lkX9_108 : lkV RX9 108 jX9_isLater 2 := ⟨wt_of 873 (by decide +kernel) rfl, wt_of 875 (by decide +kernel) rfl, wt_of 31 (by decide +kernel) rfl, wt_of 50 (by decide +kernel) rfl, cd_X9_isLater, ⟨by decide +kernel, by decide +kernel, by decide +kernel⟩⟩
theorem lkX9_115 : lkV RX9 115 jX9_pilePuts 1 := ⟨wt_of 869 (by decide +kernel) rfl, wt_of 871 (by decide +kernel) rfl, wt_of 30 (by decide +kernel) rfl, wt_of 50 (by decide +kernel) rfl, cd_X9_pilePuts, ⟨by decide +kernel, by decide +kernel, by decide +kernel⟩⟩
theorem lkX9_118 : lkV RX9 118 jX9_strikesOf 1 := ⟨wt_of 881 (by decide +kernel) rfl, wt_of 883 (by decide +kernel) rfl, wt_of 33 (by decide +kernel) rfl, wt_of 50 (by decide +kernel) rfl, cd_X9_strikesOf, ⟨by decide +kernel, by decide +kernel, by decide +kernel⟩⟩
theorem lkX9_122 : lkV RX9 122 jX9_findWorks 0 := ⟨wt_of 861 (by decide +kernel) rfl, wt_of 863 (by decide +kernel) rfl, wt_of 28 (by decide +kernel) rfl, wt_of 50 (by decide +kernel) rfl, cd_X9_findWorks, ⟨by decide +kernel, by decide +kernel, by decide +kernel⟩⟩
theorem lkX9_125 : lkV RX9 125 jX9_findOrder 0 := ⟨wt_of 865 (by decide +kernel) rfl, wt_of 867 (by decide +kernel) rfl, wt_of 29 (by decide +kernel) rfl, wt_of 50 (by decide +kernel) rfl, cd_X9_findOrder, ⟨by decide +kernel, by decide +kernel, by decide +kernel⟩⟩
theorem lkX9_128 : lkV RX9 128 jX9_isStruck 1 := ⟨wt_of 877 (by decide +kernel) rfl, wt_of 879 (by decide +kernel) rfl, wt_of 32 (by decide +kernel) rfl, wt_of 50 (by decide +kernel) rfl, cd_X9_isStruck, ⟨by decide +kernel, by decide +kernel, by decide +kernel⟩⟩
theorem lkX9_131 : lkV RX9 131 jX9_findTaken 1 := ⟨wt_of 837 (by decide +kernel) rfl, wt_of 839 (by decide +kernel) rfl, wt_of 22 (by decide +kernel) rfl, wt_of 50 (by decide +kernel) rfl, cd_X9_findTaken, ⟨by decide +kernel, by decide +kernel, by decide +kernel⟩⟩
theorem lkX9_134 : lkV RX9 134 jX9_findText 0 := ⟨wt_of 857 (by decide +kernel) rfl, wt_of 859 (by decide +kernel) rfl, wt_of 27 (by decide +kernel) rfl, wt_of 50 (by decide +kernel) rfl, cd_X9_findText, ⟨by decide +kernel, by decide +kernel, by decide +kernel⟩⟩
theorem lkX9_138 : lkV RX9 138 jX9_inOrder 1 := ⟨wt_of 984 (by decide +kernel) rfl, wt_of 986 (by decide +kernel) rfl, wt_of 42 (by decide +kernel) rfl, wt_of 50 (by decide +kernel) rfl, cd_X9_inOrder, ⟨by decide +kernel, by decide +kernel, by decide +kernel⟩⟩
theorem lkX9_141 : lkV RX9 141 jX9_covers 2 := ⟨wt_of 980 (by decide +kernel) rfl, wt_of 982 (by decide +kernel) rfl, wt_of 41 (by decide +kernel) rfl, wt_of 50 (by decide +kernel) rfl, cd_X9_covers, ⟨by decide +kernel, by decide +kernel, by decide +kernel⟩⟩
theorem lkX9_144 : lkV RX9 144 jX9_hasTint 2 := ⟨wt_of 976 (by decide +kernel) rfl, wt_of 978 (by decide +kernel) rfl, wt_of 40 (by decide +kernel) rfl, wt_of 50 (by decide +kernel) rfl, cd_X9_hasTint, ⟨by decide +kernel, by decide +kernel, by decide +kernel⟩⟩
theorem lkX9_147 : lkS RX9 147 jX9_isPen 1 := ⟨wt_of 826 (by decide +kernel) rfl, wt_of 827 (by decide +kernel) rfl, wt_of 50 (by decide +kernel) rfl, cd_X9_isPen, ⟨by decide +kernel, by decide +kernel, by decide +kernel⟩⟩
theorem lkX9_150 : lkV RX9 150 jX9_refuse 1 := ⟨wt_of 829 (by decide +kernel) rfl, wt_of 831 (by decide +kernel) rfl, wt_of 20 (by decide +kernel) rfl, wt_of 50 (by decide +kernel) rfl, cd_X9_refuse, ⟨by decide +kernel, by decide +kernel, by decide +kernel⟩⟩
theorem lkX9_153 : lkV RX9 153 jX9_sheet 1 := ⟨wt_of 833 (by decide +kernel) rfl, wt_of 835 (by decide +kernel) rfl, wt_of 21 (by decide +kernel) rfl, wt_of 50 (by decide +kernel) rfl, cd_X9_sheet, ⟨by decide +kernel, by decide +kernel, by decide +kernel⟩⟩
theorem lkX9_156 : lkV RX9 156 jX9_atPlace 1 := ⟨wt_of 885 (by decide +kernel) rfl, wt_of 887 (by decide +kernel) rfl, wt_of 34 (by decide +kernel) rfl, wt_of 50 (by decide +kernel) rfl, cd_X9_atPlace, ⟨by decide +kernel, by decide +kernel, by decide +kernel⟩⟩
theorem lkX9_159 : lkV RX9 159 jX9_make 3 := ⟨wt_of 889 (by decide +kernel) rfl, wt_of 891 (by decide +kernel) rfl, wt_of 35 (by decide +kernel) rfl, wt_of 50 (by decide +kernel) rfl, cd_X9_make, ⟨by decide +kernel, by decide +kernel, by decide +kernel⟩⟩
theorem lkX9_163 : lkV RX9 163 jX9_done 1 := ⟨wt_of 893 (by decide +kernel) rfl, wt_of 895 (by decide +kernel) rfl, wt_of 36 (by decide +kernel) rfl, wt_of 50 (by decide +kernel) rfl, cd_X9_done, ⟨by decide +kernel, by decide +kernel, by decide +kernel⟩⟩
theorem lkX9_166 : lkS RX9 166 jX9_isRange 3 := ⟨wt_of 901 (by decide +kernel) rfl, wt_of 902 (by decide +kernel) rfl, wt_of 50 (by decide +kernel) rfl, cd_X9_isRange, ⟨by decide +kernel, by decide +kernel, by decide +kernel⟩⟩
theorem lkX9_170 : lkV RX9 170 jX9_isSlip 1 := ⟨wt_of 912 (by decide +kernel) rfl, wt_of 914 (by decide +kernel) rfl, wt_of 37 (by decide +kernel) rfl, wt_of 50 (by decide +kernel) rfl, cd_X9_isSlip, ⟨by decide +kernel, by decide +kernel, by decide +kernel⟩⟩
theorem lkX9_173 : lkV RX9 173 jX9_linked 2 := ⟨wt_of 948 (by decide +kernel) rfl, wt_of 950 (by decide +kernel) rfl, wt_of 38 (by decide +kernel) rfl, wt_of 50 (by decide +kernel) rfl, cd_X9_linked, ⟨by decide +kernel, by decide +kernel, by decide +kernel⟩⟩
theorem lkX9_176 : lkV RX9 176 jX9_tintsOf 1 := ⟨wt_of 972 (by decide +kernel) rfl, wt_of 974 (by decide +kernel) rfl, wt_of 39 (by decide +kernel) rfl, wt_of 50 (by decide +kernel) rfl, cd_X9_tintsOf, ⟨by decide +kernel, by decide +kernel, by decide +kernel⟩⟩
theorem lkX9_179 : lkV RX9 179 jX9_signs 1 := ⟨wt_of 996 (by decide +kernel) rfl, wt_of 989 (by decide +kernel) rfl, wt_of 990 (by decide +kernel) rfl, wt_of 50 (by decide +kernel) rfl, cd_X9_signs, ⟨by decide +kernel, by decide +kernel, by decide +kernel⟩⟩
theorem lkX9_182 : lkV RX9 182 jX9_seenAhead 1 := ⟨wt_of 1001 (by decide +kernel) rfl, wt_of 1003 (by decide +kernel) rfl, wt_of 43 (by decide +kernel) rfl, wt_of 50 (by decide +kernel) rfl, cd_X9_seenAhead, ⟨by decide +kernel, by decide +kernel, by decide +kernel⟩⟩
theorem lkJ7_304 : lkS RJ7 304 jJ9_min_7cf53 2 := ⟨wt_of 262 (by decide +kernel) rfl, wt_of 263 (by decide +kernel) rfl, wt_of 51 (by decide +kernel) rfl, cd_J9_min_7cf53, ⟨by decide +kernel, by decide +kernel, by decide +kernel⟩⟩
end
section
/-! whole numbers on the stack: iI z for an integer z -/
def iI (z : Int) : Int32 := Int32.ofInt z
abbrev Rg (z : Int) : Prop := -2147483648 ≤ z ∧ z < 2147483648
theorem iI_toInt {z : Int} (h : Rg z) : (iI z).toInt = z := by
  unfold iI
  rw [Int32.toInt_ofInt_of_le (by omega) (by omega)]
theorem iI_of (x : Int32) : x = iI x.toInt := by
  unfold iI
  rw [Int32.ofInt_toInt]
theorem Rg_of (x : Int32) : Rg x.toInt := by
  have h1 := Int32.le_toInt x
  have h2 := Int32.toInt_lt x
  constructor <;> omega
theorem iI_ex (x : Int32) : ∃ z : Int, Rg z ∧ x = iI z := ⟨x.toInt, Rg_of x, iI_of x⟩
theorem iI_add (a b : Int) : iI a + iI b = iI (a + b) := by unfold iI; rw [Int32.ofInt_add]
theorem iI_sub (a b : Int) : iI a - iI b = iI (a - b) := by unfold iI; rw [Int32.ofInt_sub]
theorem iI_mul (a b : Int) : iI a * iI b = iI (a * b) := by unfold iI; rw [Int32.ofInt_mul]
theorem iI_lt {a b : Int} (ha : Rg a) (hb : Rg b) : iI a < iI b ↔ a < b := by rw [Int32.lt_iff_toInt_lt, iI_toInt ha, iI_toInt hb]
theorem iI_le {a b : Int} (ha : Rg a) (hb : Rg b) : iI a ≤ iI b ↔ a ≤ b := by rw [Int32.le_iff_toInt_le, iI_toInt ha, iI_toInt hb]
theorem iI_eq {a b : Int} (ha : Rg a) (hb : Rg b) : iI a = iI b ↔ a = b := by rw [← Int32.toInt_inj, iI_toInt ha, iI_toInt hb]
theorem iI_inj {a b : Int} (ha : Rg a) (hb : Rg b) (h : iI a = iI b) : a = b := (iI_eq ha hb).mp h
theorem iI_0 : (0 : Int32) = iI 0 := rfl
theorem Rg_0 : Rg 0 := by constructor <;> omega
theorem iI_nat (n : Nat) : iI (n : Int) = nI n := by
  unfold iI nI
  apply Int32.toBitVec_inj.mp
  simp
theorem iI_clamp {z : Int} (h0 : 0 ≤ z) (h : z < 2147483648) : (iI z).toNatClampNeg = z.toNat := by
  obtain ⟨n, rfl⟩ := Int.eq_ofNat_of_zero_le h0
  rw [iI_nat, nI_clamp (by omega)]
  simp
theorem iI_in {z : Int} {N : Nat} (h0 : 0 ≤ z) (h : z < N) (hN : N < 2147483648) : vp_in (iI z) N := by
  obtain ⟨n, rfl⟩ := Int.eq_ofNat_of_zero_le h0
  rw [iI_nat]
  exact vp_in_nI (by omega) (by omega)
theorem iI_div {a d : Int} (h0 : 0 ≤ a) (ha : a < 2147483648) (h1 : 0 < d) (hd : d < 2147483648) : iI a / iI d = iI (a / d) := by
  obtain ⟨n, rfl⟩ := Int.eq_ofNat_of_zero_le h0
  obtain ⟨m, rfl⟩ := Int.eq_ofNat_of_zero_le (Int.le_of_lt h1)
  rw [iI_nat, iI_nat, pk_div (by omega) (by omega) (by omega), ← iI_nat]
  simp
theorem iI_rem {a d : Int} (h0 : 0 ≤ a) (ha : a < 2147483648) (h1 : 0 < d) (hd : d < 2147483648) : iI a - iI a / iI d * iI d = iI (a % d) := by
  obtain ⟨n, rfl⟩ := Int.eq_ofNat_of_zero_le h0
  obtain ⟨m, rfl⟩ := Int.eq_ofNat_of_zero_le (Int.le_of_lt h1)
  rw [iI_nat, iI_nat, pk_rem (by omega) (by omega) (by omega), ← iI_nat]
  simp
theorem iI_ne0 {d : Int} (h1 : 0 < d) (hd : d < 2147483648) : ¬ iI d = 0 := by
  intro h
  have := iI_inj (a := d) (b := 0) ⟨by omega, by omega⟩ Rg_0 h
  omega
theorem nar_bool {z : Int} (h : z = 0 ∨ z = 1) : vp_nar .boolean (iI z) = iI z := by
  rcases h with rfl | rfl <;> rfl
theorem narrow_bool {z : Int} (h : z = 0 ∨ z = 1) : narrow .boolean (.int (iI z)) = .int (iI z) := by
  rcases h with rfl | rfl <;> rfl
/-- a row of an array: integers by their places -/
def rowI (f : Int → Int) : Nat → Int32 := fun j => iI (f j)
def upI (f : Int → Int) (z v : Int) : Int → Int := fun y => if y = z then v else f y
theorem rowI_up {f : Int → Int} {z v : Int} (h0 : 0 ≤ z) : upd (rowI f) z.toNat (iI v) = rowI (upI f z v) := by
  funext j
  unfold upd rowI upI
  by_cases h : j = z.toNat
  · subst h
    rw [if_pos rfl, if_pos (by omega)]
  · rw [if_neg h, if_neg (by omega)]
theorem rowI_at {f : Int → Int} {z : Int} (h0 : 0 ≤ z) : rowI f z.toNat = iI (f z) := by
  unfold rowI
  rw [show ((z.toNat : Nat) : Int) = z by omega]
/-- the memory: rows of integers -/
abbrev Mem : Type := Nat → Int → Int
def ms (M : Mem) (r : Nat) (z v : Int) : Mem := fun q => if q = r then upI (M r) z v else M q
def RM (M : Mem) : Prop := ∀ (r : Nat) (z : Int), Rg (M r z)
theorem ms_ne {M : Mem} {r q : Nat} {z v : Int} (h : q ≠ r) : ms M r z v q = M q := by unfold ms; rw [if_neg h]
theorem ms_eq {M : Mem} {r : Nat} {z v : Int} : ms M r z v r = upI (M r) z v := by unfold ms; rw [if_pos rfl]
theorem upI_eq {f : Int → Int} {z v : Int} : upI f z v z = v := by unfold upI; rw [if_pos rfl]
theorem upI_ne {f : Int → Int} {z v y : Int} (h : y ≠ z) : upI f z v y = f y := by unfold upI; rw [if_neg h]
theorem RM_ms {M : Mem} (h : RM M) {r : Nat} {z v : Int} (hv : Rg v) : RM (ms M r z v) := by
  intro q y
  unfold ms
  by_cases hq : q = r
  · rw [if_pos hq]
    unfold upI
    by_cases hy : y = z
    · rw [if_pos hy]; exact hv
    · rw [if_neg hy]; exact h _ _
  · rw [if_neg hq]; exact h _ _
section IRows
variable {Z : LZ} {J : MD} {E : State → Array Value → (Nat → Prop) → Prop} {Q : List Frame → Array Value → State → (Nat → Prop) → State → Prop} {pc : Nat} {ls st : List Value} {ws : va_W} {k n : Nat} {x y : Int}
theorem gi_add (d : decode J.2.1 pc = .ok (.iadd, 1)) (K : G Z J E Q (pc + 1) ls (.int (iI (x + y)) :: st) ws k n) : G Z J E Q pc ls (.int (iI y) :: .int (iI x) :: st) ws k n := g_iadd d (by rw [iI_add]; exact K)
theorem gi_sub (d : decode J.2.1 pc = .ok (.isub, 1)) (K : G Z J E Q (pc + 1) ls (.int (iI (x - y)) :: st) ws k n) : G Z J E Q pc ls (.int (iI y) :: .int (iI x) :: st) ws k n := g_isub d (by rw [iI_sub]; exact K)
theorem gi_mul (d : decode J.2.1 pc = .ok (.imul, 1)) (K : G Z J E Q (pc + 1) ls (.int (iI (x * y)) :: st) ws k n) : G Z J E Q pc ls (.int (iI y) :: .int (iI x) :: st) ws k n := g_imul d (by rw [iI_mul]; exact K)
theorem gi_div (d : decode J.2.1 pc = .ok (.idiv, 1)) (h0 : 0 ≤ x) (hx : x < 2147483648) (h1 : 0 < y) (hy : y < 2147483648) (K : G Z J E Q (pc + 1) ls (.int (iI (x / y)) :: st) ws k n) : G Z J E Q pc ls (.int (iI y) :: .int (iI x) :: st) ws k n := g_idiv d (iI_ne0 h1 hy) (by rw [iI_div h0 hx h1 hy]; exact K)
theorem gi_rem (d : decode J.2.1 pc = .ok (.irem, 1)) (h0 : 0 ≤ x) (hx : x < 2147483648) (h1 : 0 < y) (hy : y < 2147483648) (K : G Z J E Q (pc + 1) ls (.int (iI (x % y)) :: st) ws k n) : G Z J E Q pc ls (.int (iI y) :: .int (iI x) :: st) ws k n := g_irem d (iI_ne0 h1 hy) (by rw [iI_rem h0 hx h1 hy]; exact K)
theorem gi_inc {i : Nat} {q : Int} (d : decode J.2.1 pc = .ok (.iinc i q, 3)) (hl : ls[i]? = some (.int (iI x))) (hn : i < J.2.2.1) {ls2 : List Value} (hs : sto ls i (.int (iI (x + q))) = ls2) (K : G Z J E Q (pc + 3) ls2 st ws k n) : G Z J E Q pc ls st ws k n := g_iinc (iI (x + q)) d hl (iI_add x q) hn hs K
theorem gi_icmp_eq {off : Int} (tgt : Nat) (d : decode J.2.1 pc = .ok (.if_icmp .eq off, 3)) (ht : (pc : Int) + off = (tgt : Int)) (hx : Rg x) (hy : Rg y) (kt : x = y → G Z J E Q tgt ls st ws k n) (kf : ¬ x = y → G Z J E Q (pc + 3) ls st ws k n) : G Z J E Q pc ls (.int (iI y) :: .int (iI x) :: st) ws k n := g_icmp_eq tgt d ht (fun h => kt ((iI_eq hx hy).mp h)) (fun h => kf (fun e => h ((iI_eq hx hy).mpr e)))
theorem gi_if_eq {off : Int} (tgt : Nat) (d : decode J.2.1 pc = .ok (.ifCond .eq off, 3)) (ht : (pc : Int) + off = (tgt : Int)) (hx : Rg x) (kt : x = 0 → G Z J E Q tgt ls st ws k n) (kf : ¬ x = 0 → G Z J E Q (pc + 3) ls st ws k n) : G Z J E Q pc ls (.int (iI x) :: st) ws k n := g_if_eq tgt d ht (fun h => kt ((iI_eq hx Rg_0).mp h)) (fun h => kf (fun e => h ((iI_eq hx Rg_0).mpr e)))
theorem gi_icmp_ne {off : Int} (tgt : Nat) (d : decode J.2.1 pc = .ok (.if_icmp .ne off, 3)) (ht : (pc : Int) + off = (tgt : Int)) (hx : Rg x) (hy : Rg y) (kt : ¬ x = y → G Z J E Q tgt ls st ws k n) (kf : x = y → G Z J E Q (pc + 3) ls st ws k n) : G Z J E Q pc ls (.int (iI y) :: .int (iI x) :: st) ws k n := g_icmp_ne tgt d ht (fun h => kt (fun e => h ((iI_eq hx hy).mpr e))) (fun h => kf ((iI_eq hx hy).mp h))
theorem gi_if_ne {off : Int} (tgt : Nat) (d : decode J.2.1 pc = .ok (.ifCond .ne off, 3)) (ht : (pc : Int) + off = (tgt : Int)) (hx : Rg x) (kt : ¬ x = 0 → G Z J E Q tgt ls st ws k n) (kf : x = 0 → G Z J E Q (pc + 3) ls st ws k n) : G Z J E Q pc ls (.int (iI x) :: st) ws k n := g_if_ne tgt d ht (fun h => kt (fun e => h ((iI_eq hx Rg_0).mpr e))) (fun h => kf ((iI_eq hx Rg_0).mp h))
theorem gi_icmp_lt {off : Int} (tgt : Nat) (d : decode J.2.1 pc = .ok (.if_icmp .lt off, 3)) (ht : (pc : Int) + off = (tgt : Int)) (hx : Rg x) (hy : Rg y) (kt : x < y → G Z J E Q tgt ls st ws k n) (kf : ¬ x < y → G Z J E Q (pc + 3) ls st ws k n) : G Z J E Q pc ls (.int (iI y) :: .int (iI x) :: st) ws k n := g_icmp_lt tgt d ht (fun h => kt ((iI_lt hx hy).mp h)) (fun h => kf (fun e => h ((iI_lt hx hy).mpr e)))
theorem gi_if_lt {off : Int} (tgt : Nat) (d : decode J.2.1 pc = .ok (.ifCond .lt off, 3)) (ht : (pc : Int) + off = (tgt : Int)) (hx : Rg x) (kt : x < 0 → G Z J E Q tgt ls st ws k n) (kf : ¬ x < 0 → G Z J E Q (pc + 3) ls st ws k n) : G Z J E Q pc ls (.int (iI x) :: st) ws k n := g_if_lt tgt d ht (fun h => kt ((iI_lt hx Rg_0).mp h)) (fun h => kf (fun e => h ((iI_lt hx Rg_0).mpr e)))
theorem gi_icmp_ge {off : Int} (tgt : Nat) (d : decode J.2.1 pc = .ok (.if_icmp .ge off, 3)) (ht : (pc : Int) + off = (tgt : Int)) (hx : Rg x) (hy : Rg y) (kt : y ≤ x → G Z J E Q tgt ls st ws k n) (kf : ¬ y ≤ x → G Z J E Q (pc + 3) ls st ws k n) : G Z J E Q pc ls (.int (iI y) :: .int (iI x) :: st) ws k n := g_icmp_ge tgt d ht (fun h => kt ((iI_le hy hx).mp h)) (fun h => kf (fun e => h ((iI_le hy hx).mpr e)))
theorem gi_if_ge {off : Int} (tgt : Nat) (d : decode J.2.1 pc = .ok (.ifCond .ge off, 3)) (ht : (pc : Int) + off = (tgt : Int)) (hx : Rg x) (kt : 0 ≤ x → G Z J E Q tgt ls st ws k n) (kf : ¬ 0 ≤ x → G Z J E Q (pc + 3) ls st ws k n) : G Z J E Q pc ls (.int (iI x) :: st) ws k n := g_if_ge tgt d ht (fun h => kt ((iI_le Rg_0 hx).mp h)) (fun h => kf (fun e => h ((iI_le Rg_0 hx).mpr e)))
theorem gi_icmp_gt {off : Int} (tgt : Nat) (d : decode J.2.1 pc = .ok (.if_icmp .gt off, 3)) (ht : (pc : Int) + off = (tgt : Int)) (hx : Rg x) (hy : Rg y) (kt : y < x → G Z J E Q tgt ls st ws k n) (kf : ¬ y < x → G Z J E Q (pc + 3) ls st ws k n) : G Z J E Q pc ls (.int (iI y) :: .int (iI x) :: st) ws k n := g_icmp_gt tgt d ht (fun h => kt ((iI_lt hy hx).mp h)) (fun h => kf (fun e => h ((iI_lt hy hx).mpr e)))
theorem gi_if_gt {off : Int} (tgt : Nat) (d : decode J.2.1 pc = .ok (.ifCond .gt off, 3)) (ht : (pc : Int) + off = (tgt : Int)) (hx : Rg x) (kt : 0 < x → G Z J E Q tgt ls st ws k n) (kf : ¬ 0 < x → G Z J E Q (pc + 3) ls st ws k n) : G Z J E Q pc ls (.int (iI x) :: st) ws k n := g_if_gt tgt d ht (fun h => kt ((iI_lt Rg_0 hx).mp h)) (fun h => kf (fun e => h ((iI_lt Rg_0 hx).mpr e)))
theorem gi_icmp_le {off : Int} (tgt : Nat) (d : decode J.2.1 pc = .ok (.if_icmp .le off, 3)) (ht : (pc : Int) + off = (tgt : Int)) (hx : Rg x) (hy : Rg y) (kt : x ≤ y → G Z J E Q tgt ls st ws k n) (kf : ¬ x ≤ y → G Z J E Q (pc + 3) ls st ws k n) : G Z J E Q pc ls (.int (iI y) :: .int (iI x) :: st) ws k n := g_icmp_le tgt d ht (fun h => kt ((iI_le hx hy).mp h)) (fun h => kf (fun e => h ((iI_le hx hy).mpr e)))
theorem gi_if_le {off : Int} (tgt : Nat) (d : decode J.2.1 pc = .ok (.ifCond .le off, 3)) (ht : (pc : Int) + off = (tgt : Int)) (hx : Rg x) (kt : x ≤ 0 → G Z J E Q tgt ls st ws k n) (kf : ¬ x ≤ 0 → G Z J E Q (pc + 3) ls st ws k n) : G Z J E Q pc ls (.int (iI x) :: st) ws k n := g_if_le tgt d ht (fun h => kt ((iI_le hx Rg_0).mp h)) (fun h => kf (fun e => h ((iI_le hx Rg_0).mpr e)))
theorem gi_iald {a N : Nat} {f : Int → Int} (q0 : Nat) (d : decode J.2.1 pc = .ok (.iaload, 1)) (he : ws[q0]? = some (a, .inl (Z.2 0, N, .inl (rowI f)))) (hN : N < 2147483648) (h0 : 0 ≤ x) (h1 : x < N) (K : G Z J E Q (pc + 1) ls (.int (iI (f x)) :: st) ws k n) : G Z J E Q pc ls (.int (iI x) :: .ref a :: st) ws k n := g_iald q0 d he (iI_in h0 h1 hN) (by rw [iI_clamp h0 (by omega), rowI_at h0]; exact K)
theorem gi_zald {a N : Nat} {f : Int → Int} (q0 : Nat) (d : decode J.2.1 pc = .ok (.baload, 1)) (he : ws[q0]? = some (a, .inl (Z.2 1, N, .inl (rowI f)))) (hN : N < 2147483648) (h0 : 0 ≤ x) (h1 : x < N) (K : G Z J E Q (pc + 1) ls (.int (iI (f x)) :: st) ws k n) : G Z J E Q pc ls (.int (iI x) :: .ref a :: st) ws k n := g_zald q0 d he (iI_in h0 h1 hN) (by rw [iI_clamp h0 (by omega), rowI_at h0]; exact K)
theorem gi_iast {a N : Nat} {f : Int → Int} (q0 : Nat) {ws2 : va_W} (d : decode J.2.1 pc = .ok (.iastore, 1)) (he : ws[q0]? = some (a, .inl (Z.2 0, N, .inl (rowI f)))) (hN : N < 2147483648) (h0 : 0 ≤ x) (h1 : x < N) (h2 : ws.set q0 (a, .inl (Z.2 0, N, .inl (rowI (upI f x y)))) = ws2) (K : G Z J E Q (pc + 1) ls st ws2 k n) : G Z J E Q pc ls (.int (iI y) :: .int (iI x) :: .ref a :: st) ws k n := g_iast q0 d he (iI_in h0 h1 hN) (by rw [iI_clamp h0 (by omega), rowI_up h0]; exact h2) K
theorem gi_zast {a N : Nat} {f : Int → Int} (q0 : Nat) {ws2 : va_W} (d : decode J.2.1 pc = .ok (.bastore, 1)) (he : ws[q0]? = some (a, .inl (Z.2 1, N, .inl (rowI f)))) (hN : N < 2147483648) (h0 : 0 ≤ x) (h1 : x < N) (hb : y = 0 ∨ y = 1) (h2 : ws.set q0 (a, .inl (Z.2 1, N, .inl (rowI (upI f x y)))) = ws2) (K : G Z J E Q (pc + 1) ls st ws2 k n) : G Z J E Q pc ls (.int (iI y) :: .int (iI x) :: .ref a :: st) ws k n := g_zast q0 d he (iI_in h0 h1 hN) (by rw [iI_clamp h0 (by omega), nar_bool hb, rowI_up h0]; exact h2) K
end IRows
theorem range_all {α : Type} (w : List α) : (List.range w.length).map (fun i => w[i]?) = w.map some := by
  apply List.ext_getElem?
  intro i
  rw [List.getElem?_map, List.getElem?_map]
  by_cases h : i < w.length
  · simp [h]
  · simp [h]
theorem nd_of : ∀ l : List Nat, l.Nodup → va_nd l = true := by
  intro l
  induction l with
  | nil => intro _; rfl
  | cons a t ih =>
    intro h
    have h1 := List.nodup_cons.mp h
    simp [va_nd, ih h1.2, h1.1]
theorem nd_range (n : Nat) : va_nd (List.range n) = true := nd_of _ List.nodup_range
end
section
def mF (a : Nat → Nat) (M : Mem) : List Value := [.ref (a 0), .ref (a 1), .ref (a 2), .ref (a 3), .ref (a 4), .ref (a 5), .ref (a 6), .ref (a 7), .ref (a 8), .int (iI (M 9 0)), .ref (a 10), .ref (a 11), .ref (a 12), .int (iI (M 13 0)), .ref (a 14), .ref (a 15), .ref (a 16), .int (iI (M 17 0)), .ref (a 18), .ref (a 19), .int (iI (M 20 0)), .ref (a 21), .ref (a 22), .int (iI (M 23 0)), .ref (a 24), .ref (a 25), .ref (a 26), .ref (a 27)]
/-- the reference: its object o, its arrays at a r -/
def mW (Z : LZ) (o : Nat) (a : Nat → Nat) (M : Mem) : va_W := [(o, .inr (8, mF a M)), (a 0, .inl (Z.2 0, 256, .inl (rowI (M 0)))), (a 1, .inl (Z.2 0, 256, .inl (rowI (M 1)))), (a 2, .inl (Z.2 0, 256, .inl (rowI (M 2)))), (a 3, .inl (Z.2 0, 256, .inl (rowI (M 3)))), (a 4, .inl (Z.2 0, 3072, .inl (rowI (M 4)))), (a 5, .inl (Z.2 0, 1024, .inl (rowI (M 5)))), (a 6, .inl (Z.2 0, 256, .inl (rowI (M 6)))), (a 7, .inl (Z.2 0, 256, .inl (rowI (M 7)))), (a 8, .inl (Z.2 1, 256, .inl (rowI (M 8)))), (a 10, .inl (Z.2 1, 1536, .inl (rowI (M 10)))), (a 11, .inl (Z.2 0, 18, .inl (rowI (M 11)))), (a 12, .inl (Z.2 0, 18, .inl (rowI (M 12)))), (a 14, .inl (Z.2 1, 256, .inl (rowI (M 14)))), (a 15, .inl (Z.2 1, 256, .inl (rowI (M 15)))), (a 16, .inl (Z.2 0, 768, .inl (rowI (M 16)))), (a 18, .inl (Z.2 1, 768, .inl (rowI (M 18)))), (a 19, .inl (Z.2 0, 16, .inl (rowI (M 19)))), (a 21, .inl (Z.2 0, 800, .inl (rowI (M 21)))), (a 22, .inl (Z.2 0, 800, .inl (rowI (M 22)))), (a 24, .inl (Z.2 0, 3, .inl (rowI (M 24)))), (a 25, .inl (Z.2 1, 256, .inl (rowI (M 25)))), (a 26, .inl (Z.2 0, 768, .inl (rowI (M 26)))), (a 27, .inl (Z.2 0, 768, .inl (rowI (M 27))))]
theorem mW_len (Z : LZ) (o : Nat) (a : Nat → Nat) (M : Mem) : (mW Z o a M).length = 24 := rfl
/-- the memory M holds the data D in its first fourteen rows -/
def Pers (D M : Mem) : Prop := ∀ r : Nat, r < 14 → M r = D r
/-- nothing but the rows rs has changed -/
def Fx (rs : List Nat) (M M2 : Mem) : Prop := ∀ r : Nat, r ∉ rs → M2 r = M r
theorem Pers.at {D M : Mem} (h : Pers D M) (r : Nat) (hr : r < 14) (x : Int) : M r x = D r x := by rw [h r hr]
theorem Pers.fx {D M M2 : Mem} (h : Pers D M) {rs : List Nat} (hf : Fx rs M M2) (hr : ∀ r ∈ rs, 14 ≤ r) : Pers D M2 := fun r h14 => (hf r (fun hm => by have := hr r hm; omega)).trans (h r h14)
theorem Pers.ms {D M : Mem} (h : Pers D M) {r : Nat} (hr : 14 ≤ r) {z v : Int} : Pers D (ms M r z v) := fun q hq => by rw [ms_ne (by omega)]; exact h q hq
theorem Fx.rf (rs : List Nat) (M : Mem) : Fx rs M M := fun _ _ => rfl
theorem Fx.ms {rs : List Nat} {M M2 : Mem} (h : Fx rs M M2) {r : Nat} (hr : r ∈ rs) {z v : Int} : Fx rs M (ms M2 r z v) := fun q hq => by rw [ms_ne (q := q) (r := r) (fun e => hq (by rw [e]; exact hr))]; exact h q hq
theorem Fx.tr {rs rs2 : List Nat} {M M2 M3 : Mem} (h : Fx rs M M2) (h2 : Fx rs2 M2 M3) (hs : ∀ r ∈ rs2, r ∈ rs) : Fx rs M M3 := fun q hq => (h2 q (fun hm => hq (hs q hm))).trans (h q hq)
theorem Fx.sub {rs rs2 : List Nat} {M M2 : Mem} (h : Fx rs2 M M2) (hs : ∀ r ∈ rs2, r ∈ rs) : Fx rs M M2 := fun q hq => h q (fun hm => hq (hs q hm))
theorem Fx.at {rs : List Nat} {M M2 : Mem} (h : Fx rs M M2) (r : Nat) (hr : r ∉ rs) (x : Int) : M2 r x = M r x := by rw [h r hr]
theorem ms_at {M : Mem} {r : Nat} {z v : Int} : ms M r z v r z = v := by rw [ms_eq, upI_eq]
theorem ms_off {M : Mem} {r : Nat} {z v y : Int} (h : y ≠ z) : ms M r z v r y = M r y := by rw [ms_eq, upI_ne h]
theorem ms_row {M : Mem} {r q : Nat} {z v y : Int} (h : q ≠ r) : ms M r z v q y = M q y := by rw [ms_ne h]
section MRows
variable {Z : LZ} {J : MD} {E : State → Array Value → (Nat → Prop) → Prop} {Q : List Frame → Array Value → State → (Nat → Prop) → State → Prop} {pc : Nat} {ls st : List Value} {k n : Nat} {x y : Int} {o : Nat} {a : Nat → Nat} {M : Mem}
theorem mg_0 (d : decode J.2.1 pc = .ok (.getfield 7, 3)) (hJ : J.1.cls = RX9) (K : G Z J E Q (pc + 3) ls (.ref (a 0) :: st) (mW Z o a M) k n) : G Z J E Q pc ls (.ref o :: st) (mW Z o a M) k n := g_get 8 0 0 d rfl fwX9 (by decide) (by rw [hJ]; exact flX9_7) rfl rfl K
theorem mw_0 (z v : Int) : (mW Z o a M).set 1 (a 0, .inl (Z.2 0, 256, .inl (rowI (upI (M 0) z v)))) = mW Z o a (ms M 0 z v) := rfl
theorem ml_0 {v : Int} (hv : M 0 x = v) (d : decode J.2.1 pc = .ok (.iaload, 1)) (h0 : 0 ≤ x) (h1 : x < 256) (K : G Z J E Q (pc + 1) ls (.int (iI v) :: st) (mW Z o a M) k n) : G Z J E Q pc ls (.int (iI x) :: .ref (a 0) :: st) (mW Z o a M) k n := gi_iald 1 d rfl (by decide) h0 h1 (by rw [hv]; exact K)
theorem mt_0 (d : decode J.2.1 pc = .ok (.iastore, 1)) (h0 : 0 ≤ x) (h1 : x < 256) (K : G Z J E Q (pc + 1) ls st (mW Z o a (ms M 0 x y)) k n) : G Z J E Q pc ls (.int (iI y) :: .int (iI x) :: .ref (a 0) :: st) (mW Z o a M) k n := gi_iast 1 d rfl (by decide) h0 h1 (mw_0 x y) K
theorem mg_1 (d : decode J.2.1 pc = .ok (.getfield 13, 3)) (hJ : J.1.cls = RX9) (K : G Z J E Q (pc + 3) ls (.ref (a 1) :: st) (mW Z o a M) k n) : G Z J E Q pc ls (.ref o :: st) (mW Z o a M) k n := g_get 8 0 1 d rfl fwX9 (by decide) (by rw [hJ]; exact flX9_13) rfl rfl K
theorem mw_1 (z v : Int) : (mW Z o a M).set 2 (a 1, .inl (Z.2 0, 256, .inl (rowI (upI (M 1) z v)))) = mW Z o a (ms M 1 z v) := rfl
theorem ml_1 {v : Int} (hv : M 1 x = v) (d : decode J.2.1 pc = .ok (.iaload, 1)) (h0 : 0 ≤ x) (h1 : x < 256) (K : G Z J E Q (pc + 1) ls (.int (iI v) :: st) (mW Z o a M) k n) : G Z J E Q pc ls (.int (iI x) :: .ref (a 1) :: st) (mW Z o a M) k n := gi_iald 2 d rfl (by decide) h0 h1 (by rw [hv]; exact K)
theorem mt_1 (d : decode J.2.1 pc = .ok (.iastore, 1)) (h0 : 0 ≤ x) (h1 : x < 256) (K : G Z J E Q (pc + 1) ls st (mW Z o a (ms M 1 x y)) k n) : G Z J E Q pc ls (.int (iI y) :: .int (iI x) :: .ref (a 1) :: st) (mW Z o a M) k n := gi_iast 2 d rfl (by decide) h0 h1 (mw_1 x y) K
theorem mg_2 (d : decode J.2.1 pc = .ok (.getfield 16, 3)) (hJ : J.1.cls = RX9) (K : G Z J E Q (pc + 3) ls (.ref (a 2) :: st) (mW Z o a M) k n) : G Z J E Q pc ls (.ref o :: st) (mW Z o a M) k n := g_get 8 0 2 d rfl fwX9 (by decide) (by rw [hJ]; exact flX9_16) rfl rfl K
theorem mw_2 (z v : Int) : (mW Z o a M).set 3 (a 2, .inl (Z.2 0, 256, .inl (rowI (upI (M 2) z v)))) = mW Z o a (ms M 2 z v) := rfl
theorem ml_2 {v : Int} (hv : M 2 x = v) (d : decode J.2.1 pc = .ok (.iaload, 1)) (h0 : 0 ≤ x) (h1 : x < 256) (K : G Z J E Q (pc + 1) ls (.int (iI v) :: st) (mW Z o a M) k n) : G Z J E Q pc ls (.int (iI x) :: .ref (a 2) :: st) (mW Z o a M) k n := gi_iald 3 d rfl (by decide) h0 h1 (by rw [hv]; exact K)
theorem mt_2 (d : decode J.2.1 pc = .ok (.iastore, 1)) (h0 : 0 ≤ x) (h1 : x < 256) (K : G Z J E Q (pc + 1) ls st (mW Z o a (ms M 2 x y)) k n) : G Z J E Q pc ls (.int (iI y) :: .int (iI x) :: .ref (a 2) :: st) (mW Z o a M) k n := gi_iast 3 d rfl (by decide) h0 h1 (mw_2 x y) K
theorem mg_3 (d : decode J.2.1 pc = .ok (.getfield 19, 3)) (hJ : J.1.cls = RX9) (K : G Z J E Q (pc + 3) ls (.ref (a 3) :: st) (mW Z o a M) k n) : G Z J E Q pc ls (.ref o :: st) (mW Z o a M) k n := g_get 8 0 3 d rfl fwX9 (by decide) (by rw [hJ]; exact flX9_19) rfl rfl K
theorem mw_3 (z v : Int) : (mW Z o a M).set 4 (a 3, .inl (Z.2 0, 256, .inl (rowI (upI (M 3) z v)))) = mW Z o a (ms M 3 z v) := rfl
theorem ml_3 {v : Int} (hv : M 3 x = v) (d : decode J.2.1 pc = .ok (.iaload, 1)) (h0 : 0 ≤ x) (h1 : x < 256) (K : G Z J E Q (pc + 1) ls (.int (iI v) :: st) (mW Z o a M) k n) : G Z J E Q pc ls (.int (iI x) :: .ref (a 3) :: st) (mW Z o a M) k n := gi_iald 4 d rfl (by decide) h0 h1 (by rw [hv]; exact K)
theorem mt_3 (d : decode J.2.1 pc = .ok (.iastore, 1)) (h0 : 0 ≤ x) (h1 : x < 256) (K : G Z J E Q (pc + 1) ls st (mW Z o a (ms M 3 x y)) k n) : G Z J E Q pc ls (.int (iI y) :: .int (iI x) :: .ref (a 3) :: st) (mW Z o a M) k n := gi_iast 4 d rfl (by decide) h0 h1 (mw_3 x y) K
theorem mg_4 (d : decode J.2.1 pc = .ok (.getfield 22, 3)) (hJ : J.1.cls = RX9) (K : G Z J E Q (pc + 3) ls (.ref (a 4) :: st) (mW Z o a M) k n) : G Z J E Q pc ls (.ref o :: st) (mW Z o a M) k n := g_get 8 0 4 d rfl fwX9 (by decide) (by rw [hJ]; exact flX9_22) rfl rfl K
theorem mw_4 (z v : Int) : (mW Z o a M).set 5 (a 4, .inl (Z.2 0, 3072, .inl (rowI (upI (M 4) z v)))) = mW Z o a (ms M 4 z v) := rfl
theorem ml_4 {v : Int} (hv : M 4 x = v) (d : decode J.2.1 pc = .ok (.iaload, 1)) (h0 : 0 ≤ x) (h1 : x < 3072) (K : G Z J E Q (pc + 1) ls (.int (iI v) :: st) (mW Z o a M) k n) : G Z J E Q pc ls (.int (iI x) :: .ref (a 4) :: st) (mW Z o a M) k n := gi_iald 5 d rfl (by decide) h0 h1 (by rw [hv]; exact K)
theorem mt_4 (d : decode J.2.1 pc = .ok (.iastore, 1)) (h0 : 0 ≤ x) (h1 : x < 3072) (K : G Z J E Q (pc + 1) ls st (mW Z o a (ms M 4 x y)) k n) : G Z J E Q pc ls (.int (iI y) :: .int (iI x) :: .ref (a 4) :: st) (mW Z o a M) k n := gi_iast 5 d rfl (by decide) h0 h1 (mw_4 x y) K
theorem mg_5 (d : decode J.2.1 pc = .ok (.getfield 25, 3)) (hJ : J.1.cls = RX9) (K : G Z J E Q (pc + 3) ls (.ref (a 5) :: st) (mW Z o a M) k n) : G Z J E Q pc ls (.ref o :: st) (mW Z o a M) k n := g_get 8 0 5 d rfl fwX9 (by decide) (by rw [hJ]; exact flX9_25) rfl rfl K
theorem mw_5 (z v : Int) : (mW Z o a M).set 6 (a 5, .inl (Z.2 0, 1024, .inl (rowI (upI (M 5) z v)))) = mW Z o a (ms M 5 z v) := rfl
theorem ml_5 {v : Int} (hv : M 5 x = v) (d : decode J.2.1 pc = .ok (.iaload, 1)) (h0 : 0 ≤ x) (h1 : x < 1024) (K : G Z J E Q (pc + 1) ls (.int (iI v) :: st) (mW Z o a M) k n) : G Z J E Q pc ls (.int (iI x) :: .ref (a 5) :: st) (mW Z o a M) k n := gi_iald 6 d rfl (by decide) h0 h1 (by rw [hv]; exact K)
theorem mt_5 (d : decode J.2.1 pc = .ok (.iastore, 1)) (h0 : 0 ≤ x) (h1 : x < 1024) (K : G Z J E Q (pc + 1) ls st (mW Z o a (ms M 5 x y)) k n) : G Z J E Q pc ls (.int (iI y) :: .int (iI x) :: .ref (a 5) :: st) (mW Z o a M) k n := gi_iast 6 d rfl (by decide) h0 h1 (mw_5 x y) K
theorem mg_6 (d : decode J.2.1 pc = .ok (.getfield 28, 3)) (hJ : J.1.cls = RX9) (K : G Z J E Q (pc + 3) ls (.ref (a 6) :: st) (mW Z o a M) k n) : G Z J E Q pc ls (.ref o :: st) (mW Z o a M) k n := g_get 8 0 6 d rfl fwX9 (by decide) (by rw [hJ]; exact flX9_28) rfl rfl K
theorem mw_6 (z v : Int) : (mW Z o a M).set 7 (a 6, .inl (Z.2 0, 256, .inl (rowI (upI (M 6) z v)))) = mW Z o a (ms M 6 z v) := rfl
theorem ml_6 {v : Int} (hv : M 6 x = v) (d : decode J.2.1 pc = .ok (.iaload, 1)) (h0 : 0 ≤ x) (h1 : x < 256) (K : G Z J E Q (pc + 1) ls (.int (iI v) :: st) (mW Z o a M) k n) : G Z J E Q pc ls (.int (iI x) :: .ref (a 6) :: st) (mW Z o a M) k n := gi_iald 7 d rfl (by decide) h0 h1 (by rw [hv]; exact K)
theorem mt_6 (d : decode J.2.1 pc = .ok (.iastore, 1)) (h0 : 0 ≤ x) (h1 : x < 256) (K : G Z J E Q (pc + 1) ls st (mW Z o a (ms M 6 x y)) k n) : G Z J E Q pc ls (.int (iI y) :: .int (iI x) :: .ref (a 6) :: st) (mW Z o a M) k n := gi_iast 7 d rfl (by decide) h0 h1 (mw_6 x y) K
theorem mg_7 (d : decode J.2.1 pc = .ok (.getfield 31, 3)) (hJ : J.1.cls = RX9) (K : G Z J E Q (pc + 3) ls (.ref (a 7) :: st) (mW Z o a M) k n) : G Z J E Q pc ls (.ref o :: st) (mW Z o a M) k n := g_get 8 0 7 d rfl fwX9 (by decide) (by rw [hJ]; exact flX9_31) rfl rfl K
theorem mw_7 (z v : Int) : (mW Z o a M).set 8 (a 7, .inl (Z.2 0, 256, .inl (rowI (upI (M 7) z v)))) = mW Z o a (ms M 7 z v) := rfl
theorem ml_7 {v : Int} (hv : M 7 x = v) (d : decode J.2.1 pc = .ok (.iaload, 1)) (h0 : 0 ≤ x) (h1 : x < 256) (K : G Z J E Q (pc + 1) ls (.int (iI v) :: st) (mW Z o a M) k n) : G Z J E Q pc ls (.int (iI x) :: .ref (a 7) :: st) (mW Z o a M) k n := gi_iald 8 d rfl (by decide) h0 h1 (by rw [hv]; exact K)
theorem mt_7 (d : decode J.2.1 pc = .ok (.iastore, 1)) (h0 : 0 ≤ x) (h1 : x < 256) (K : G Z J E Q (pc + 1) ls st (mW Z o a (ms M 7 x y)) k n) : G Z J E Q pc ls (.int (iI y) :: .int (iI x) :: .ref (a 7) :: st) (mW Z o a M) k n := gi_iast 8 d rfl (by decide) h0 h1 (mw_7 x y) K
theorem mg_8 (d : decode J.2.1 pc = .ok (.getfield 34, 3)) (hJ : J.1.cls = RX9) (K : G Z J E Q (pc + 3) ls (.ref (a 8) :: st) (mW Z o a M) k n) : G Z J E Q pc ls (.ref o :: st) (mW Z o a M) k n := g_get 8 0 8 d rfl fwX9 (by decide) (by rw [hJ]; exact flX9_34) rfl rfl K
theorem mw_8 (z v : Int) : (mW Z o a M).set 9 (a 8, .inl (Z.2 1, 256, .inl (rowI (upI (M 8) z v)))) = mW Z o a (ms M 8 z v) := rfl
theorem ml_8 {v : Int} (hv : M 8 x = v) (d : decode J.2.1 pc = .ok (.baload, 1)) (h0 : 0 ≤ x) (h1 : x < 256) (K : G Z J E Q (pc + 1) ls (.int (iI v) :: st) (mW Z o a M) k n) : G Z J E Q pc ls (.int (iI x) :: .ref (a 8) :: st) (mW Z o a M) k n := gi_zald 9 d rfl (by decide) h0 h1 (by rw [hv]; exact K)
theorem mt_8 (d : decode J.2.1 pc = .ok (.bastore, 1)) (h0 : 0 ≤ x) (h1 : x < 256) (hb : y = 0 ∨ y = 1) (K : G Z J E Q (pc + 1) ls st (mW Z o a (ms M 8 x y)) k n) : G Z J E Q pc ls (.int (iI y) :: .int (iI x) :: .ref (a 8) :: st) (mW Z o a M) k n := gi_zast 9 d rfl (by decide) h0 h1 hb (mw_8 x y) K
theorem mg_9 {v : Int} (hv : M 9 0 = v) (d : decode J.2.1 pc = .ok (.getfield 84, 3)) (hJ : J.1.cls = RX9) (K : G Z J E Q (pc + 3) ls (.int (iI v) :: st) (mW Z o a M) k n) : G Z J E Q pc ls (.ref o :: st) (mW Z o a M) k n := g_get 8 0 9 d rfl fwX9 (by decide) (by rw [hJ]; exact flX9_84) rfl rfl (by rw [hv]; exact K)
theorem mw_9 (v : Int) : (mW Z o a M).set 0 (o, .inr (8, (mF a M).set 9 (.int (iI v)))) = mW Z o a (ms M 9 0 v) := rfl
theorem mp_9 (d : decode J.2.1 pc = .ok (.putfield 84, 3)) (hJ : J.1.cls = RX9) (K : G Z J E Q (pc + 3) ls st (mW Z o a (ms M 9 0 x)) k n) : G Z J E Q pc ls (.int (iI x) :: .ref o :: st) (mW Z o a M) k n := g_put 8 0 9 tyX9 d rfl fwX9 tyX9_ok nmX9 (by decide) (by rw [hJ]; exact flX9_84) rfl rfl rfl rfl (Nat.le_of_ble_eq_true rfl) (mw_9 x) K
theorem mg_10 (d : decode J.2.1 pc = .ok (.getfield 38, 3)) (hJ : J.1.cls = RX9) (K : G Z J E Q (pc + 3) ls (.ref (a 10) :: st) (mW Z o a M) k n) : G Z J E Q pc ls (.ref o :: st) (mW Z o a M) k n := g_get 8 0 10 d rfl fwX9 (by decide) (by rw [hJ]; exact flX9_38) rfl rfl K
theorem mw_10 (z v : Int) : (mW Z o a M).set 10 (a 10, .inl (Z.2 1, 1536, .inl (rowI (upI (M 10) z v)))) = mW Z o a (ms M 10 z v) := rfl
theorem ml_10 {v : Int} (hv : M 10 x = v) (d : decode J.2.1 pc = .ok (.baload, 1)) (h0 : 0 ≤ x) (h1 : x < 1536) (K : G Z J E Q (pc + 1) ls (.int (iI v) :: st) (mW Z o a M) k n) : G Z J E Q pc ls (.int (iI x) :: .ref (a 10) :: st) (mW Z o a M) k n := gi_zald 10 d rfl (by decide) h0 h1 (by rw [hv]; exact K)
theorem mt_10 (d : decode J.2.1 pc = .ok (.bastore, 1)) (h0 : 0 ≤ x) (h1 : x < 1536) (hb : y = 0 ∨ y = 1) (K : G Z J E Q (pc + 1) ls st (mW Z o a (ms M 10 x y)) k n) : G Z J E Q pc ls (.int (iI y) :: .int (iI x) :: .ref (a 10) :: st) (mW Z o a M) k n := gi_zast 10 d rfl (by decide) h0 h1 hb (mw_10 x y) K
theorem mg_11 (d : decode J.2.1 pc = .ok (.getfield 41, 3)) (hJ : J.1.cls = RX9) (K : G Z J E Q (pc + 3) ls (.ref (a 11) :: st) (mW Z o a M) k n) : G Z J E Q pc ls (.ref o :: st) (mW Z o a M) k n := g_get 8 0 11 d rfl fwX9 (by decide) (by rw [hJ]; exact flX9_41) rfl rfl K
theorem mw_11 (z v : Int) : (mW Z o a M).set 11 (a 11, .inl (Z.2 0, 18, .inl (rowI (upI (M 11) z v)))) = mW Z o a (ms M 11 z v) := rfl
theorem ml_11 {v : Int} (hv : M 11 x = v) (d : decode J.2.1 pc = .ok (.iaload, 1)) (h0 : 0 ≤ x) (h1 : x < 18) (K : G Z J E Q (pc + 1) ls (.int (iI v) :: st) (mW Z o a M) k n) : G Z J E Q pc ls (.int (iI x) :: .ref (a 11) :: st) (mW Z o a M) k n := gi_iald 11 d rfl (by decide) h0 h1 (by rw [hv]; exact K)
theorem mt_11 (d : decode J.2.1 pc = .ok (.iastore, 1)) (h0 : 0 ≤ x) (h1 : x < 18) (K : G Z J E Q (pc + 1) ls st (mW Z o a (ms M 11 x y)) k n) : G Z J E Q pc ls (.int (iI y) :: .int (iI x) :: .ref (a 11) :: st) (mW Z o a M) k n := gi_iast 11 d rfl (by decide) h0 h1 (mw_11 x y) K
theorem mg_12 (d : decode J.2.1 pc = .ok (.getfield 44, 3)) (hJ : J.1.cls = RX9) (K : G Z J E Q (pc + 3) ls (.ref (a 12) :: st) (mW Z o a M) k n) : G Z J E Q pc ls (.ref o :: st) (mW Z o a M) k n := g_get 8 0 12 d rfl fwX9 (by decide) (by rw [hJ]; exact flX9_44) rfl rfl K
theorem mw_12 (z v : Int) : (mW Z o a M).set 12 (a 12, .inl (Z.2 0, 18, .inl (rowI (upI (M 12) z v)))) = mW Z o a (ms M 12 z v) := rfl
theorem ml_12 {v : Int} (hv : M 12 x = v) (d : decode J.2.1 pc = .ok (.iaload, 1)) (h0 : 0 ≤ x) (h1 : x < 18) (K : G Z J E Q (pc + 1) ls (.int (iI v) :: st) (mW Z o a M) k n) : G Z J E Q pc ls (.int (iI x) :: .ref (a 12) :: st) (mW Z o a M) k n := gi_iald 12 d rfl (by decide) h0 h1 (by rw [hv]; exact K)
theorem mt_12 (d : decode J.2.1 pc = .ok (.iastore, 1)) (h0 : 0 ≤ x) (h1 : x < 18) (K : G Z J E Q (pc + 1) ls st (mW Z o a (ms M 12 x y)) k n) : G Z J E Q pc ls (.int (iI y) :: .int (iI x) :: .ref (a 12) :: st) (mW Z o a M) k n := gi_iast 12 d rfl (by decide) h0 h1 (mw_12 x y) K
theorem mg_13 {v : Int} (hv : M 13 0 = v) (d : decode J.2.1 pc = .ok (.getfield 80, 3)) (hJ : J.1.cls = RX9) (K : G Z J E Q (pc + 3) ls (.int (iI v) :: st) (mW Z o a M) k n) : G Z J E Q pc ls (.ref o :: st) (mW Z o a M) k n := g_get 8 0 13 d rfl fwX9 (by decide) (by rw [hJ]; exact flX9_80) rfl rfl (by rw [hv]; exact K)
theorem mw_13 (v : Int) : (mW Z o a M).set 0 (o, .inr (8, (mF a M).set 13 (.int (iI v)))) = mW Z o a (ms M 13 0 v) := rfl
theorem mp_13 (d : decode J.2.1 pc = .ok (.putfield 80, 3)) (hJ : J.1.cls = RX9) (K : G Z J E Q (pc + 3) ls st (mW Z o a (ms M 13 0 x)) k n) : G Z J E Q pc ls (.int (iI x) :: .ref o :: st) (mW Z o a M) k n := g_put 8 0 13 tyX9 d rfl fwX9 tyX9_ok nmX9 (by decide) (by rw [hJ]; exact flX9_80) rfl rfl rfl rfl (Nat.le_of_ble_eq_true rfl) (mw_13 x) K
theorem mg_14 (d : decode J.2.1 pc = .ok (.getfield 47, 3)) (hJ : J.1.cls = RX9) (K : G Z J E Q (pc + 3) ls (.ref (a 14) :: st) (mW Z o a M) k n) : G Z J E Q pc ls (.ref o :: st) (mW Z o a M) k n := g_get 8 0 14 d rfl fwX9 (by decide) (by rw [hJ]; exact flX9_47) rfl rfl K
theorem mw_14 (z v : Int) : (mW Z o a M).set 13 (a 14, .inl (Z.2 1, 256, .inl (rowI (upI (M 14) z v)))) = mW Z o a (ms M 14 z v) := rfl
theorem ml_14 {v : Int} (hv : M 14 x = v) (d : decode J.2.1 pc = .ok (.baload, 1)) (h0 : 0 ≤ x) (h1 : x < 256) (K : G Z J E Q (pc + 1) ls (.int (iI v) :: st) (mW Z o a M) k n) : G Z J E Q pc ls (.int (iI x) :: .ref (a 14) :: st) (mW Z o a M) k n := gi_zald 13 d rfl (by decide) h0 h1 (by rw [hv]; exact K)
theorem mt_14 (d : decode J.2.1 pc = .ok (.bastore, 1)) (h0 : 0 ≤ x) (h1 : x < 256) (hb : y = 0 ∨ y = 1) (K : G Z J E Q (pc + 1) ls st (mW Z o a (ms M 14 x y)) k n) : G Z J E Q pc ls (.int (iI y) :: .int (iI x) :: .ref (a 14) :: st) (mW Z o a M) k n := gi_zast 13 d rfl (by decide) h0 h1 hb (mw_14 x y) K
theorem mg_15 (d : decode J.2.1 pc = .ok (.getfield 50, 3)) (hJ : J.1.cls = RX9) (K : G Z J E Q (pc + 3) ls (.ref (a 15) :: st) (mW Z o a M) k n) : G Z J E Q pc ls (.ref o :: st) (mW Z o a M) k n := g_get 8 0 15 d rfl fwX9 (by decide) (by rw [hJ]; exact flX9_50) rfl rfl K
theorem mw_15 (z v : Int) : (mW Z o a M).set 14 (a 15, .inl (Z.2 1, 256, .inl (rowI (upI (M 15) z v)))) = mW Z o a (ms M 15 z v) := rfl
theorem ml_15 {v : Int} (hv : M 15 x = v) (d : decode J.2.1 pc = .ok (.baload, 1)) (h0 : 0 ≤ x) (h1 : x < 256) (K : G Z J E Q (pc + 1) ls (.int (iI v) :: st) (mW Z o a M) k n) : G Z J E Q pc ls (.int (iI x) :: .ref (a 15) :: st) (mW Z o a M) k n := gi_zald 14 d rfl (by decide) h0 h1 (by rw [hv]; exact K)
theorem mt_15 (d : decode J.2.1 pc = .ok (.bastore, 1)) (h0 : 0 ≤ x) (h1 : x < 256) (hb : y = 0 ∨ y = 1) (K : G Z J E Q (pc + 1) ls st (mW Z o a (ms M 15 x y)) k n) : G Z J E Q pc ls (.int (iI y) :: .int (iI x) :: .ref (a 15) :: st) (mW Z o a M) k n := gi_zast 14 d rfl (by decide) h0 h1 hb (mw_15 x y) K
theorem mg_16 (d : decode J.2.1 pc = .ok (.getfield 53, 3)) (hJ : J.1.cls = RX9) (K : G Z J E Q (pc + 3) ls (.ref (a 16) :: st) (mW Z o a M) k n) : G Z J E Q pc ls (.ref o :: st) (mW Z o a M) k n := g_get 8 0 16 d rfl fwX9 (by decide) (by rw [hJ]; exact flX9_53) rfl rfl K
theorem mw_16 (z v : Int) : (mW Z o a M).set 15 (a 16, .inl (Z.2 0, 768, .inl (rowI (upI (M 16) z v)))) = mW Z o a (ms M 16 z v) := rfl
theorem ml_16 {v : Int} (hv : M 16 x = v) (d : decode J.2.1 pc = .ok (.iaload, 1)) (h0 : 0 ≤ x) (h1 : x < 768) (K : G Z J E Q (pc + 1) ls (.int (iI v) :: st) (mW Z o a M) k n) : G Z J E Q pc ls (.int (iI x) :: .ref (a 16) :: st) (mW Z o a M) k n := gi_iald 15 d rfl (by decide) h0 h1 (by rw [hv]; exact K)
theorem mt_16 (d : decode J.2.1 pc = .ok (.iastore, 1)) (h0 : 0 ≤ x) (h1 : x < 768) (K : G Z J E Q (pc + 1) ls st (mW Z o a (ms M 16 x y)) k n) : G Z J E Q pc ls (.int (iI y) :: .int (iI x) :: .ref (a 16) :: st) (mW Z o a M) k n := gi_iast 15 d rfl (by decide) h0 h1 (mw_16 x y) K
theorem mg_17 {v : Int} (hv : M 17 0 = v) (d : decode J.2.1 pc = .ok (.getfield 112, 3)) (hJ : J.1.cls = RX9) (K : G Z J E Q (pc + 3) ls (.int (iI v) :: st) (mW Z o a M) k n) : G Z J E Q pc ls (.ref o :: st) (mW Z o a M) k n := g_get 8 0 17 d rfl fwX9 (by decide) (by rw [hJ]; exact flX9_112) rfl rfl (by rw [hv]; exact K)
theorem mw_17 (v : Int) : (mW Z o a M).set 0 (o, .inr (8, (mF a M).set 17 (.int (iI v)))) = mW Z o a (ms M 17 0 v) := rfl
theorem mp_17 (d : decode J.2.1 pc = .ok (.putfield 112, 3)) (hJ : J.1.cls = RX9) (K : G Z J E Q (pc + 3) ls st (mW Z o a (ms M 17 0 x)) k n) : G Z J E Q pc ls (.int (iI x) :: .ref o :: st) (mW Z o a M) k n := g_put 8 0 17 tyX9 d rfl fwX9 tyX9_ok nmX9 (by decide) (by rw [hJ]; exact flX9_112) rfl rfl rfl rfl (Nat.le_of_ble_eq_true rfl) (mw_17 x) K
theorem mg_18 (d : decode J.2.1 pc = .ok (.getfield 56, 3)) (hJ : J.1.cls = RX9) (K : G Z J E Q (pc + 3) ls (.ref (a 18) :: st) (mW Z o a M) k n) : G Z J E Q pc ls (.ref o :: st) (mW Z o a M) k n := g_get 8 0 18 d rfl fwX9 (by decide) (by rw [hJ]; exact flX9_56) rfl rfl K
theorem mw_18 (z v : Int) : (mW Z o a M).set 16 (a 18, .inl (Z.2 1, 768, .inl (rowI (upI (M 18) z v)))) = mW Z o a (ms M 18 z v) := rfl
theorem ml_18 {v : Int} (hv : M 18 x = v) (d : decode J.2.1 pc = .ok (.baload, 1)) (h0 : 0 ≤ x) (h1 : x < 768) (K : G Z J E Q (pc + 1) ls (.int (iI v) :: st) (mW Z o a M) k n) : G Z J E Q pc ls (.int (iI x) :: .ref (a 18) :: st) (mW Z o a M) k n := gi_zald 16 d rfl (by decide) h0 h1 (by rw [hv]; exact K)
theorem mt_18 (d : decode J.2.1 pc = .ok (.bastore, 1)) (h0 : 0 ≤ x) (h1 : x < 768) (hb : y = 0 ∨ y = 1) (K : G Z J E Q (pc + 1) ls st (mW Z o a (ms M 18 x y)) k n) : G Z J E Q pc ls (.int (iI y) :: .int (iI x) :: .ref (a 18) :: st) (mW Z o a M) k n := gi_zast 16 d rfl (by decide) h0 h1 hb (mw_18 x y) K
theorem mg_19 (d : decode J.2.1 pc = .ok (.getfield 59, 3)) (hJ : J.1.cls = RX9) (K : G Z J E Q (pc + 3) ls (.ref (a 19) :: st) (mW Z o a M) k n) : G Z J E Q pc ls (.ref o :: st) (mW Z o a M) k n := g_get 8 0 19 d rfl fwX9 (by decide) (by rw [hJ]; exact flX9_59) rfl rfl K
theorem mw_19 (z v : Int) : (mW Z o a M).set 17 (a 19, .inl (Z.2 0, 16, .inl (rowI (upI (M 19) z v)))) = mW Z o a (ms M 19 z v) := rfl
theorem ml_19 {v : Int} (hv : M 19 x = v) (d : decode J.2.1 pc = .ok (.iaload, 1)) (h0 : 0 ≤ x) (h1 : x < 16) (K : G Z J E Q (pc + 1) ls (.int (iI v) :: st) (mW Z o a M) k n) : G Z J E Q pc ls (.int (iI x) :: .ref (a 19) :: st) (mW Z o a M) k n := gi_iald 17 d rfl (by decide) h0 h1 (by rw [hv]; exact K)
theorem mt_19 (d : decode J.2.1 pc = .ok (.iastore, 1)) (h0 : 0 ≤ x) (h1 : x < 16) (K : G Z J E Q (pc + 1) ls st (mW Z o a (ms M 19 x y)) k n) : G Z J E Q pc ls (.int (iI y) :: .int (iI x) :: .ref (a 19) :: st) (mW Z o a M) k n := gi_iast 17 d rfl (by decide) h0 h1 (mw_19 x y) K
theorem mg_20 {v : Int} (hv : M 20 0 = v) (d : decode J.2.1 pc = .ok (.getfield 87, 3)) (hJ : J.1.cls = RX9) (K : G Z J E Q (pc + 3) ls (.int (iI v) :: st) (mW Z o a M) k n) : G Z J E Q pc ls (.ref o :: st) (mW Z o a M) k n := g_get 8 0 20 d rfl fwX9 (by decide) (by rw [hJ]; exact flX9_87) rfl rfl (by rw [hv]; exact K)
theorem mw_20 (v : Int) : (mW Z o a M).set 0 (o, .inr (8, (mF a M).set 20 (.int (iI v)))) = mW Z o a (ms M 20 0 v) := rfl
theorem mp_20 (d : decode J.2.1 pc = .ok (.putfield 87, 3)) (hJ : J.1.cls = RX9) (K : G Z J E Q (pc + 3) ls st (mW Z o a (ms M 20 0 x)) k n) : G Z J E Q pc ls (.int (iI x) :: .ref o :: st) (mW Z o a M) k n := g_put 8 0 20 tyX9 d rfl fwX9 tyX9_ok nmX9 (by decide) (by rw [hJ]; exact flX9_87) rfl rfl rfl rfl (Nat.le_of_ble_eq_true rfl) (mw_20 x) K
theorem mg_21 (d : decode J.2.1 pc = .ok (.getfield 62, 3)) (hJ : J.1.cls = RX9) (K : G Z J E Q (pc + 3) ls (.ref (a 21) :: st) (mW Z o a M) k n) : G Z J E Q pc ls (.ref o :: st) (mW Z o a M) k n := g_get 8 0 21 d rfl fwX9 (by decide) (by rw [hJ]; exact flX9_62) rfl rfl K
theorem mw_21 (z v : Int) : (mW Z o a M).set 18 (a 21, .inl (Z.2 0, 800, .inl (rowI (upI (M 21) z v)))) = mW Z o a (ms M 21 z v) := rfl
theorem ml_21 {v : Int} (hv : M 21 x = v) (d : decode J.2.1 pc = .ok (.iaload, 1)) (h0 : 0 ≤ x) (h1 : x < 800) (K : G Z J E Q (pc + 1) ls (.int (iI v) :: st) (mW Z o a M) k n) : G Z J E Q pc ls (.int (iI x) :: .ref (a 21) :: st) (mW Z o a M) k n := gi_iald 18 d rfl (by decide) h0 h1 (by rw [hv]; exact K)
theorem mt_21 (d : decode J.2.1 pc = .ok (.iastore, 1)) (h0 : 0 ≤ x) (h1 : x < 800) (K : G Z J E Q (pc + 1) ls st (mW Z o a (ms M 21 x y)) k n) : G Z J E Q pc ls (.int (iI y) :: .int (iI x) :: .ref (a 21) :: st) (mW Z o a M) k n := gi_iast 18 d rfl (by decide) h0 h1 (mw_21 x y) K
theorem mg_22 (d : decode J.2.1 pc = .ok (.getfield 65, 3)) (hJ : J.1.cls = RX9) (K : G Z J E Q (pc + 3) ls (.ref (a 22) :: st) (mW Z o a M) k n) : G Z J E Q pc ls (.ref o :: st) (mW Z o a M) k n := g_get 8 0 22 d rfl fwX9 (by decide) (by rw [hJ]; exact flX9_65) rfl rfl K
theorem mw_22 (z v : Int) : (mW Z o a M).set 19 (a 22, .inl (Z.2 0, 800, .inl (rowI (upI (M 22) z v)))) = mW Z o a (ms M 22 z v) := rfl
theorem ml_22 {v : Int} (hv : M 22 x = v) (d : decode J.2.1 pc = .ok (.iaload, 1)) (h0 : 0 ≤ x) (h1 : x < 800) (K : G Z J E Q (pc + 1) ls (.int (iI v) :: st) (mW Z o a M) k n) : G Z J E Q pc ls (.int (iI x) :: .ref (a 22) :: st) (mW Z o a M) k n := gi_iald 19 d rfl (by decide) h0 h1 (by rw [hv]; exact K)
theorem mt_22 (d : decode J.2.1 pc = .ok (.iastore, 1)) (h0 : 0 ≤ x) (h1 : x < 800) (K : G Z J E Q (pc + 1) ls st (mW Z o a (ms M 22 x y)) k n) : G Z J E Q pc ls (.int (iI y) :: .int (iI x) :: .ref (a 22) :: st) (mW Z o a M) k n := gi_iast 19 d rfl (by decide) h0 h1 (mw_22 x y) K
theorem mg_23 {v : Int} (hv : M 23 0 = v) (d : decode J.2.1 pc = .ok (.getfield 105, 3)) (hJ : J.1.cls = RX9) (K : G Z J E Q (pc + 3) ls (.int (iI v) :: st) (mW Z o a M) k n) : G Z J E Q pc ls (.ref o :: st) (mW Z o a M) k n := g_get 8 0 23 d rfl fwX9 (by decide) (by rw [hJ]; exact flX9_105) rfl rfl (by rw [hv]; exact K)
theorem mw_23 (v : Int) : (mW Z o a M).set 0 (o, .inr (8, (mF a M).set 23 (.int (iI v)))) = mW Z o a (ms M 23 0 v) := rfl
theorem mp_23 (d : decode J.2.1 pc = .ok (.putfield 105, 3)) (hJ : J.1.cls = RX9) (K : G Z J E Q (pc + 3) ls st (mW Z o a (ms M 23 0 x)) k n) : G Z J E Q pc ls (.int (iI x) :: .ref o :: st) (mW Z o a M) k n := g_put 8 0 23 tyX9 d rfl fwX9 tyX9_ok nmX9 (by decide) (by rw [hJ]; exact flX9_105) rfl rfl rfl rfl (Nat.le_of_ble_eq_true rfl) (mw_23 x) K
theorem mg_24 (d : decode J.2.1 pc = .ok (.getfield 68, 3)) (hJ : J.1.cls = RX9) (K : G Z J E Q (pc + 3) ls (.ref (a 24) :: st) (mW Z o a M) k n) : G Z J E Q pc ls (.ref o :: st) (mW Z o a M) k n := g_get 8 0 24 d rfl fwX9 (by decide) (by rw [hJ]; exact flX9_68) rfl rfl K
theorem mw_24 (z v : Int) : (mW Z o a M).set 20 (a 24, .inl (Z.2 0, 3, .inl (rowI (upI (M 24) z v)))) = mW Z o a (ms M 24 z v) := rfl
theorem ml_24 {v : Int} (hv : M 24 x = v) (d : decode J.2.1 pc = .ok (.iaload, 1)) (h0 : 0 ≤ x) (h1 : x < 3) (K : G Z J E Q (pc + 1) ls (.int (iI v) :: st) (mW Z o a M) k n) : G Z J E Q pc ls (.int (iI x) :: .ref (a 24) :: st) (mW Z o a M) k n := gi_iald 20 d rfl (by decide) h0 h1 (by rw [hv]; exact K)
theorem mt_24 (d : decode J.2.1 pc = .ok (.iastore, 1)) (h0 : 0 ≤ x) (h1 : x < 3) (K : G Z J E Q (pc + 1) ls st (mW Z o a (ms M 24 x y)) k n) : G Z J E Q pc ls (.int (iI y) :: .int (iI x) :: .ref (a 24) :: st) (mW Z o a M) k n := gi_iast 20 d rfl (by decide) h0 h1 (mw_24 x y) K
theorem mg_25 (d : decode J.2.1 pc = .ok (.getfield 71, 3)) (hJ : J.1.cls = RX9) (K : G Z J E Q (pc + 3) ls (.ref (a 25) :: st) (mW Z o a M) k n) : G Z J E Q pc ls (.ref o :: st) (mW Z o a M) k n := g_get 8 0 25 d rfl fwX9 (by decide) (by rw [hJ]; exact flX9_71) rfl rfl K
theorem mw_25 (z v : Int) : (mW Z o a M).set 21 (a 25, .inl (Z.2 1, 256, .inl (rowI (upI (M 25) z v)))) = mW Z o a (ms M 25 z v) := rfl
theorem ml_25 {v : Int} (hv : M 25 x = v) (d : decode J.2.1 pc = .ok (.baload, 1)) (h0 : 0 ≤ x) (h1 : x < 256) (K : G Z J E Q (pc + 1) ls (.int (iI v) :: st) (mW Z o a M) k n) : G Z J E Q pc ls (.int (iI x) :: .ref (a 25) :: st) (mW Z o a M) k n := gi_zald 21 d rfl (by decide) h0 h1 (by rw [hv]; exact K)
theorem mt_25 (d : decode J.2.1 pc = .ok (.bastore, 1)) (h0 : 0 ≤ x) (h1 : x < 256) (hb : y = 0 ∨ y = 1) (K : G Z J E Q (pc + 1) ls st (mW Z o a (ms M 25 x y)) k n) : G Z J E Q pc ls (.int (iI y) :: .int (iI x) :: .ref (a 25) :: st) (mW Z o a M) k n := gi_zast 21 d rfl (by decide) h0 h1 hb (mw_25 x y) K
theorem mg_26 (d : decode J.2.1 pc = .ok (.getfield 74, 3)) (hJ : J.1.cls = RX9) (K : G Z J E Q (pc + 3) ls (.ref (a 26) :: st) (mW Z o a M) k n) : G Z J E Q pc ls (.ref o :: st) (mW Z o a M) k n := g_get 8 0 26 d rfl fwX9 (by decide) (by rw [hJ]; exact flX9_74) rfl rfl K
theorem mw_26 (z v : Int) : (mW Z o a M).set 22 (a 26, .inl (Z.2 0, 768, .inl (rowI (upI (M 26) z v)))) = mW Z o a (ms M 26 z v) := rfl
theorem ml_26 {v : Int} (hv : M 26 x = v) (d : decode J.2.1 pc = .ok (.iaload, 1)) (h0 : 0 ≤ x) (h1 : x < 768) (K : G Z J E Q (pc + 1) ls (.int (iI v) :: st) (mW Z o a M) k n) : G Z J E Q pc ls (.int (iI x) :: .ref (a 26) :: st) (mW Z o a M) k n := gi_iald 22 d rfl (by decide) h0 h1 (by rw [hv]; exact K)
theorem mt_26 (d : decode J.2.1 pc = .ok (.iastore, 1)) (h0 : 0 ≤ x) (h1 : x < 768) (K : G Z J E Q (pc + 1) ls st (mW Z o a (ms M 26 x y)) k n) : G Z J E Q pc ls (.int (iI y) :: .int (iI x) :: .ref (a 26) :: st) (mW Z o a M) k n := gi_iast 22 d rfl (by decide) h0 h1 (mw_26 x y) K
theorem mg_27 (d : decode J.2.1 pc = .ok (.getfield 77, 3)) (hJ : J.1.cls = RX9) (K : G Z J E Q (pc + 3) ls (.ref (a 27) :: st) (mW Z o a M) k n) : G Z J E Q pc ls (.ref o :: st) (mW Z o a M) k n := g_get 8 0 27 d rfl fwX9 (by decide) (by rw [hJ]; exact flX9_77) rfl rfl K
theorem mw_27 (z v : Int) : (mW Z o a M).set 23 (a 27, .inl (Z.2 0, 768, .inl (rowI (upI (M 27) z v)))) = mW Z o a (ms M 27 z v) := rfl
theorem ml_27 {v : Int} (hv : M 27 x = v) (d : decode J.2.1 pc = .ok (.iaload, 1)) (h0 : 0 ≤ x) (h1 : x < 768) (K : G Z J E Q (pc + 1) ls (.int (iI v) :: st) (mW Z o a M) k n) : G Z J E Q pc ls (.int (iI x) :: .ref (a 27) :: st) (mW Z o a M) k n := gi_iald 23 d rfl (by decide) h0 h1 (by rw [hv]; exact K)
theorem mt_27 (d : decode J.2.1 pc = .ok (.iastore, 1)) (h0 : 0 ≤ x) (h1 : x < 768) (K : G Z J E Q (pc + 1) ls st (mW Z o a (ms M 27 x y)) k n) : G Z J E Q pc ls (.int (iI y) :: .int (iI x) :: .ref (a 27) :: st) (mW Z o a M) k n := gi_iast 23 d rfl (by decide) h0 h1 (mw_27 x y) K
end MRows
theorem g_drop {Z : LZ} {J : MD} {E : State → Array Value → (Nat → Prop) → Prop} {Q : List Frame → Array Value → State → (Nat → Prop) → State → Prop} {pc : Nat} {ls1 xs ls st : List Value} {ws : va_W} {k n : Nat} (h : ls1 ++ xs = ls) (K : G Z J E Q pc ls1 st ws k n) : G Z J E Q pc ls st ws k n := by
  intro p l e s m args below meth c A H locs lsA C hE hP hD hS hL
  subst h
  obtain ⟨l0, h1, h2⟩ := hL
  refine K p l e s m args below meth c A H locs lsA C hE hP hD hS ⟨l0, h1, fun i v hi => h2 i v ?_⟩
  rw [List.getElem?_append_left (List.getElem?_eq_some_iff.mp hi).1]
  exact hi
/-- what a method of the reference says: from the memory M, with the arguments As, it answers z (none: nothing) and leaves the memory M2, with P z M2 -/
def vI (z : Int) : Value := .int (iI z)
def Tm (Z : LZ) (o : Nat) (a : Nat → Nat) (J : MD) (As : List Int) (M : Mem) (P : Int → Mem → Prop) : Prop := Tr Z J (.ref o :: As.map vI) (mW Z o a M) (fun r w => ∃ (z : Int) (M2 : Mem), r = some (.int (iI z)) ∧ w = mW Z o a M2 ∧ P z M2)
def Tn (Z : LZ) (o : Nat) (a : Nat → Nat) (J : MD) (As : List Int) (M : Mem) (P : Mem → Prop) : Prop := Tr Z J (.ref o :: As.map vI) (mW Z o a M) (fun r w => ∃ M2 : Mem, r = none ∧ w = mW Z o a M2 ∧ P M2)
def Ts (Z : LZ) (o : Nat) (a : Nat → Nat) (J : MD) (As : List Int) (M : Mem) (P : Int → Prop) : Prop := Tr Z J (As.map vI) (mW Z o a M) (fun r w => ∃ z : Int, r = some (.int (iI z)) ∧ w = mW Z o a M ∧ P z)
theorem vI_cat : ∀ (As : List Int), ∀ v ∈ As.map vI, v.category = 1 := by
  intro As v h
  obtain ⟨z, -, rfl⟩ := List.mem_map.mp h
  rfl
theorem vI_catO (o : Nat) : ∀ (As : List Int), ∀ v ∈ (.ref o :: As.map vI : List Value), v.category = 1 := by
  intro As v h
  rcases List.mem_cons.mp h with rfl | h
  · rfl
  · exact vI_cat As v h
abbrev pI (Z : LZ) (o : Nat) (a : Nat → Nat) (P : Int → Mem → Prop) : Option Value → va_W → Prop := fun r w => ∃ (z : Int) (M2 : Mem), r = some (.int (iI z)) ∧ w = mW Z o a M2 ∧ P z M2
abbrev pV (Z : LZ) (o : Nat) (a : Nat → Nat) (P : Mem → Prop) : Option Value → va_W → Prop := fun r w => ∃ M2 : Mem, r = none ∧ w = mW Z o a M2 ∧ P M2
abbrev pS (Z : LZ) (o : Nat) (a : Nat → Nat) (M : Mem) (P : Int → Prop) : Option Value → va_W → Prop := fun r w => ∃ z : Int, r = some (.int (iI z)) ∧ w = mW Z o a M ∧ P z
section MCalls
variable {Z : LZ} {J : MD} {E : State → Array Value → (Nat → Prop) → Prop} {Q : List Frame → Array Value → State → (Nat → Prop) → State → Prop} {pc : Nat} {ls st : List Value} {k n : Nat} {o : Nat} {a : Nat → Nat} {M : Mem}
theorem g_callVF {ws : va_W} {post : Option Value → va_W → Prop} {J2 : MD} {As : List Value} {b i ci N q0 : Nat} {fs : List Value} {T : u_T} (hlk : lkV J.1.cls i J2 As.length) (hT : Tr Z J2 (.ref b :: As) ws post) (d : decode J.2.1 pc = .ok (.invokevirtual i, 3)) (hfit : fitR J J2)
    (hc : vwCl[ci]? = some (J2.1.cls, T, N)) (he : ws[q0]? = some (b, .inr (ci, fs))) (hst : (st.map fun v => v.category).sum ≤ 8) (h1 : k + J2.2.2.2.2.cells ≤ J.2.2.2.2.cells) (h2 : n + J2.2.2.2.2.slots ≤ J.2.2.2.2.slots)
    (K : ∀ (r : Option Value) (w2 : va_W), post r w2 → G Z J E Q (pc + 3) ls (r.toList ++ st) w2 (k + J2.2.2.2.2.cells) (n + J2.2.2.2.2.slots)) {st2 : List Value} (hs : As.reverse ++ .ref b :: st = st2) : G Z J E Q pc ls st2 ws k n :=
  g_callV (wr := []) (List.range ws.length) [] hlk hT d hfit hc he (range_all ws) rfl rfl (fun i h => by cases h) (nd_range _) hst h1 h2 K hs
theorem g_callSF {ws : va_W} {post : Option Value → va_W → Prop} {J2 : MD} {As : List Value} {i : Nat} (hlk : lkS J.1.cls i J2 As.length) (hT : Tr Z J2 As ws post) (d : decode J.2.1 pc = .ok (.invokestatic i, 3)) (hfit : fitR J J2)
    (hst : (st.map fun v => v.category).sum ≤ 8) (h1 : k + J2.2.2.2.2.cells ≤ J.2.2.2.2.cells) (h2 : n + J2.2.2.2.2.slots ≤ J.2.2.2.2.slots)
    (K : ∀ (r : Option Value) (w2 : va_W), post r w2 → G Z J E Q (pc + 3) ls (r.toList ++ st) w2 (k + J2.2.2.2.2.cells) (n + J2.2.2.2.2.slots)) {st2 : List Value} (hs : As.reverse ++ st = st2) : G Z J E Q pc ls st2 ws k n :=
  g_callS (wr := []) (List.range ws.length) [] hlk hT d hfit (range_all ws) rfl rfl (fun i h => by cases h) (nd_range _) hst h1 h2 K hs
theorem mcI {J2 : MD} {As : List Int} {i : Nat} {P : Int → Mem → Prop} (hlk : lkV J.1.cls i J2 (As.map vI).length) (hT : Tm Z o a J2 As M P) (d : decode J.2.1 pc = .ok (.invokevirtual i, 3)) {st2 : List Value} (hs : (As.map vI).reverse ++ .ref o :: st = st2) (hfit : fitR J J2) (hcl : J2.1.cls = RX9) (hst : (st.map fun v => v.category).sum ≤ 8) (h1 : J2.2.2.2.2.cells = 0) (h2 : J2.2.2.2.2.slots = 0) (h3 : k ≤ J.2.2.2.2.cells) (h4 : n ≤ J.2.2.2.2.slots)
    (K : ∀ (z : Int) (M2 : Mem), P z M2 → G Z J E Q (pc + 3) ls (.int (iI z) :: st) (mW Z o a M2) k n) : G Z J E Q pc ls st2 (mW Z o a M) k n := by
  refine g_callVF (ci := 8) (q0 := 0) (fs := mF a M) (T := TX9) (N := 28) hlk hT d hfit (by rw [hcl]; rfl) rfl hst (by omega) (by omega) (fun r w2 h => ?_) hs
  obtain ⟨z, M2, rfl, rfl, hP⟩ := h
  rw [h1, h2]
  exact K z M2 hP
theorem mcV {J2 : MD} {As : List Int} {i : Nat} {P : Mem → Prop} (hlk : lkV J.1.cls i J2 (As.map vI).length) (hT : Tn Z o a J2 As M P) (d : decode J.2.1 pc = .ok (.invokevirtual i, 3)) {st2 : List Value} (hs : (As.map vI).reverse ++ .ref o :: st = st2) (hfit : fitR J J2) (hcl : J2.1.cls = RX9) (hst : (st.map fun v => v.category).sum ≤ 8) (h1 : J2.2.2.2.2.cells = 0) (h2 : J2.2.2.2.2.slots = 0) (h3 : k ≤ J.2.2.2.2.cells) (h4 : n ≤ J.2.2.2.2.slots)
    (K : ∀ (M2 : Mem), P M2 → G Z J E Q (pc + 3) ls st (mW Z o a M2) k n) : G Z J E Q pc ls st2 (mW Z o a M) k n := by
  refine g_callVF (ci := 8) (q0 := 0) (fs := mF a M) (T := TX9) (N := 28) hlk hT d hfit (by rw [hcl]; rfl) rfl hst (by omega) (by omega) (fun r w2 h => ?_) hs
  obtain ⟨M2, rfl, rfl, hP⟩ := h
  rw [h1, h2]
  exact K M2 hP
theorem mcS {J2 : MD} {As : List Int} {i : Nat} {P : Int → Prop} (hlk : lkS J.1.cls i J2 (As.map vI).length) (hT : Ts Z o a J2 As M P) (d : decode J.2.1 pc = .ok (.invokestatic i, 3)) {st2 : List Value} (hs : (As.map vI).reverse ++ st = st2) (hfit : fitR J J2) (hst : (st.map fun v => v.category).sum ≤ 8) (h1 : J2.2.2.2.2.cells = 0) (h2 : J2.2.2.2.2.slots = 0) (h3 : k ≤ J.2.2.2.2.cells) (h4 : n ≤ J.2.2.2.2.slots)
    (K : ∀ (z : Int), P z → G Z J E Q (pc + 3) ls (.int (iI z) :: st) (mW Z o a M) k n) : G Z J E Q pc ls st2 (mW Z o a M) k n := by
  refine g_callSF hlk hT d hfit hst (by omega) (by omega) (fun r w2 h => ?_) hs
  obtain ⟨z, rfl, rfl, hP⟩ := h
  rw [h1, h2]
  exact K z hP
end MCalls
end
section
/-! THE REFERENCE, its leaves -/
def bI (b : Bool) : Int := if b then 1 else 0
theorem bI_01 (b : Bool) : bI b = 0 ∨ bI b = 1 := by cases b <;> simp [bI]
theorem bI_t : bI true = 1 := rfl
theorem bI_f : bI false = 0 := rfl
theorem bI_Rg (b : Bool) : Rg (bI b) := by cases b <;> exact ⟨by decide, by decide⟩
theorem bI_eq0 {b : Bool} : bI b = 0 ↔ b = false := by cases b <;> simp [bI]
def latestF (M : Mem) (pen : Int) : Nat → Int
  | 0 => -1
  | t + 1 => if M 0 t = pen then (t : Int) else latestF M pen t
def laterB (M : Mem) (s t : Int) : Bool := if M 1 s = M 1 t then decide (M 0 t < M 0 s) else decide (M 1 t < M 1 s)
def needF (M : Mem) (x : Int) : Mem := if 0 ≤ x then ms (ms M 19 (M 20 0) x) 20 0 (M 20 0 + 1) else M
theorem latestF_rg (D : Mem) (p : Int) : ∀ t : Nat, -1 ≤ latestF D p t ∧ latestF D p t < t ∧ (0 ≤ latestF D p t → D 0 (latestF D p t) = p) := by
  intro t
  induction t with
  | zero => simp [latestF]
  | succ t ih =>
    unfold latestF
    split
    · refine ⟨by omega, by omega, fun _ => by assumption⟩
    · exact ⟨by omega, by omega, ih.2.2⟩
def penB (p : Int) : Bool := decide (0 ≤ p ∧ p < 6)
def slipB (M : Mem) (s : Int) : Bool := decide (0 ≤ s ∧ s < M 9 0)
set_option maxHeartbeats 4000000 in
set_option maxRecDepth 100000 in
/-- refuse -/
theorem c_refuse (Z : LZ) (o : Nat) (a : Nat → Nat) (M : Mem) (w : Int)  : Tm Z o a jX9_refuse [w] M (fun z M2 => z = -1 ∧ M2 = ms M 13 0 w) := by
  refine tr_of pn_X9_refuse (Nat.le_of_ble_eq_true rfl) (vI_catO o _) ?_
  show G Z jX9_refuse E0 (QM Z jX9_refuse (pI Z o a (fun z M2 => z = -1 ∧ M2 = ms M 13 0 w))) 0 [.ref o, .int (iI w)] [] (mW Z o a M) 0 0
  refine g_aload_n 0 dX9_refuse_0 rfl rfl ?_
  refine g_iload_n 1 dX9_refuse_1 rfl rfl ?_
  refine mp_13 dX9_refuse_2 rfl ?_
  refine g_iconst (iI (-1)) dX9_refuse_5 rfl ?_
  refine g_iret dX9_refuse_6 rfl (Nat.le_of_ble_eq_true rfl) (Nat.le_of_ble_eq_true rfl) ⟨_, _, rfl, rfl, ?_⟩
  exact ⟨rfl, rfl⟩
set_option maxHeartbeats 4000000 in
set_option maxRecDepth 100000 in
/-- done -/
theorem c_done (Z : LZ) (o : Nat) (a : Nat → Nat) (M : Mem) (w : Int)  : Tm Z o a jX9_done [w] M (fun z M2 => z = w ∧ M2 = ms M 13 0 0) := by
  refine tr_of pn_X9_done (Nat.le_of_ble_eq_true rfl) (vI_catO o _) ?_
  show G Z jX9_done E0 (QM Z jX9_done (pI Z o a (fun z M2 => z = w ∧ M2 = ms M 13 0 0))) 0 [.ref o, .int (iI w)] [] (mW Z o a M) 0 0
  refine g_aload_n 0 dX9_done_0 rfl rfl ?_
  refine g_iconst (iI 0) dX9_done_1 rfl ?_
  refine mp_13 dX9_done_2 rfl ?_
  refine g_iload_n 1 dX9_done_5 rfl rfl ?_
  refine g_iret dX9_done_6 rfl (Nat.le_of_ble_eq_true rfl) (Nat.le_of_ble_eq_true rfl) ⟨_, _, rfl, rfl, ?_⟩
  exact ⟨rfl, rfl⟩
set_option maxHeartbeats 4000000 in
set_option maxRecDepth 100000 in
/-- isPen -/
theorem c_isPen (Z : LZ) (o : Nat) (a : Nat → Nat) (M : Mem) (p : Int) (hp : Rg p)  : Ts Z o a jX9_isPen [p] M (fun z => z = bI (penB p)) := by
  refine tr_of pn_X9_isPen (Nat.le_of_ble_eq_true rfl) (vI_cat _) ?_
  show G Z jX9_isPen E0 (QM Z jX9_isPen (pS Z o a M (fun z => z = bI (penB p)))) 0 [.int (iI p)] [] (mW Z o a M) 0 0
  refine g_iload_n 0 dX9_isPen_0 rfl rfl ?_
  refine gi_if_lt 14 dX9_isPen_1 (by decide) (by first | exact hM _ _ | exact bI_Rg _ | exact ⟨by omega, by omega⟩) (fun c1 => ?_) (fun c1 => ?_)
  · refine g_iconst (iI 0) dX9_isPen_14 rfl ?_
    refine g_zret dX9_isPen_15 rfl (narrow_bool (by first | exact Or.inl rfl | exact Or.inr rfl | assumption | omega)) (Nat.le_of_ble_eq_true rfl) (Nat.le_of_ble_eq_true rfl) ⟨_, rfl, rfl, ?_⟩
    simp [bI, penB]; omega
  · refine g_iload_n 0 dX9_isPen_4 rfl rfl ?_
    refine g_bipush (iI 6) dX9_isPen_5 (by decide) ?_
    refine gi_icmp_ge 14 dX9_isPen_7 (by decide) (by first | exact hM _ _ | exact bI_Rg _ | exact ⟨by omega, by omega⟩) (by first | exact hM _ _ | exact bI_Rg _ | exact ⟨by omega, by omega⟩) (fun c7 => ?_) (fun c7 => ?_)
    · refine g_iconst (iI 0) dX9_isPen_14 rfl ?_
      refine g_zret dX9_isPen_15 rfl (narrow_bool (by first | exact Or.inl rfl | exact Or.inr rfl | assumption | omega)) (Nat.le_of_ble_eq_true rfl) (Nat.le_of_ble_eq_true rfl) ⟨_, rfl, rfl, ?_⟩
      simp [bI, penB]; omega
    · refine g_iconst (iI 1) dX9_isPen_10 rfl ?_
      refine g_goto 15 dX9_isPen_11 (by decide) ?_
      refine g_zret dX9_isPen_15 rfl (narrow_bool (by first | exact Or.inl rfl | exact Or.inr rfl | assumption | omega)) (Nat.le_of_ble_eq_true rfl) (Nat.le_of_ble_eq_true rfl) ⟨_, rfl, rfl, ?_⟩
      simp [bI, penB]; omega
set_option maxHeartbeats 4000000 in
set_option maxRecDepth 100000 in
/-- isSlip -/
theorem c_isSlip (Z : LZ) (o : Nat) (a : Nat → Nat) {D M : Mem} (hP : Pers D M) (hM : RM D) (s : Int) (hs : Rg s)  : Tm Z o a jX9_isSlip [s] M (fun z M2 => z = bI (slipB D s) ∧ M2 = M) := by
  refine tr_of pn_X9_isSlip (Nat.le_of_ble_eq_true rfl) (vI_catO o _) ?_
  show G Z jX9_isSlip E0 (QM Z jX9_isSlip (pI Z o a (fun z M2 => z = bI (slipB D s) ∧ M2 = M))) 0 [.ref o, .int (iI s)] [] (mW Z o a M) 0 0
  refine g_iload_n 1 dX9_isSlip_0 rfl rfl ?_
  refine gi_if_lt 16 dX9_isSlip_1 (by decide) (by first | exact hM _ _ | exact bI_Rg _ | exact ⟨by omega, by omega⟩) (fun c1 => ?_) (fun c1 => ?_)
  · refine g_iconst (iI 0) dX9_isSlip_16 rfl ?_
    refine g_zret dX9_isSlip_17 rfl (narrow_bool (by first | exact Or.inl rfl | exact Or.inr rfl | assumption | omega)) (Nat.le_of_ble_eq_true rfl) (Nat.le_of_ble_eq_true rfl) ⟨_, _, rfl, rfl, ?_⟩
    refine ⟨?_, rfl⟩
    simp [bI, slipB]; omega
  · refine g_iload_n 1 dX9_isSlip_4 rfl rfl ?_
    refine g_aload_n 0 dX9_isSlip_5 rfl rfl ?_
    refine mg_9 (hP.at 9 (by decide) _) dX9_isSlip_6 rfl ?_
    refine gi_icmp_ge 16 dX9_isSlip_9 (by decide) (by first | exact hM _ _ | exact bI_Rg _ | exact ⟨by omega, by omega⟩) (by first | exact hM _ _ | exact bI_Rg _ | exact ⟨by omega, by omega⟩) (fun c9 => ?_) (fun c9 => ?_)
    · refine g_iconst (iI 0) dX9_isSlip_16 rfl ?_
      refine g_zret dX9_isSlip_17 rfl (narrow_bool (by first | exact Or.inl rfl | exact Or.inr rfl | assumption | omega)) (Nat.le_of_ble_eq_true rfl) (Nat.le_of_ble_eq_true rfl) ⟨_, _, rfl, rfl, ?_⟩
      refine ⟨?_, rfl⟩
      simp [bI, slipB]; omega
    · refine g_iconst (iI 1) dX9_isSlip_12 rfl ?_
      refine g_goto 17 dX9_isSlip_13 (by decide) ?_
      refine g_zret dX9_isSlip_17 rfl (narrow_bool (by first | exact Or.inl rfl | exact Or.inr rfl | assumption | omega)) (Nat.le_of_ble_eq_true rfl) (Nat.le_of_ble_eq_true rfl) ⟨_, _, rfl, rfl, ?_⟩
      refine ⟨?_, rfl⟩
      simp [bI, slipB]; omega
set_option maxHeartbeats 4000000 in
set_option maxRecDepth 100000 in
/-- isLater -/
theorem c_isLater (Z : LZ) (o : Nat) (a : Nat → Nat) {D M : Mem} (hP : Pers D M) (hM : RM D) (s t : Int) (hs : 0 ≤ s) (hs2 : s < 256) (ht : 0 ≤ t) (ht2 : t < 256)  : Tm Z o a jX9_isLater [s, t] M (fun z M2 => z = bI (laterB D s t) ∧ M2 = M) := by
  refine tr_of pn_X9_isLater (Nat.le_of_ble_eq_true rfl) (vI_catO o _) ?_
  show G Z jX9_isLater E0 (QM Z jX9_isLater (pI Z o a (fun z M2 => z = bI (laterB D s t) ∧ M2 = M))) 0 [.ref o, .int (iI s), .int (iI t)] [] (mW Z o a M) 0 0
  refine g_aload_n 0 dX9_isLater_0 rfl rfl ?_
  refine mg_1 dX9_isLater_1 rfl ?_
  refine g_iload_n 1 dX9_isLater_4 rfl rfl ?_
  refine ml_1 (hP.at 1 (by decide) _) dX9_isLater_5 (by omega) (by omega) ?_
  refine g_aload_n 0 dX9_isLater_6 rfl rfl ?_
  refine mg_1 dX9_isLater_7 rfl ?_
  refine g_iload_n 2 dX9_isLater_10 rfl rfl ?_
  refine ml_1 (hP.at 1 (by decide) _) dX9_isLater_11 (by omega) (by omega) ?_
  refine gi_icmp_eq 38 dX9_isLater_12 (by decide) (by first | exact hM _ _ | exact bI_Rg _ | exact ⟨by omega, by omega⟩) (by first | exact hM _ _ | exact bI_Rg _ | exact ⟨by omega, by omega⟩) (fun c12 => ?_) (fun c12 => ?_)
  · refine g_aload_n 0 dX9_isLater_38 rfl rfl ?_
    refine mg_0 dX9_isLater_39 rfl ?_
    refine g_iload_n 1 dX9_isLater_42 rfl rfl ?_
    refine ml_0 (hP.at 0 (by decide) _) dX9_isLater_43 (by omega) (by omega) ?_
    refine g_aload_n 0 dX9_isLater_44 rfl rfl ?_
    refine mg_0 dX9_isLater_45 rfl ?_
    refine g_iload_n 2 dX9_isLater_48 rfl rfl ?_
    refine ml_0 (hP.at 0 (by decide) _) dX9_isLater_49 (by omega) (by omega) ?_
    refine gi_icmp_le 57 dX9_isLater_50 (by decide) (by first | exact hM _ _ | exact bI_Rg _ | exact ⟨by omega, by omega⟩) (by first | exact hM _ _ | exact bI_Rg _ | exact ⟨by omega, by omega⟩) (fun c50 => ?_) (fun c50 => ?_)
    · refine g_iconst (iI 0) dX9_isLater_57 rfl ?_
      refine g_zret dX9_isLater_58 rfl (narrow_bool (by first | exact Or.inl rfl | exact Or.inr rfl | assumption | omega)) (Nat.le_of_ble_eq_true rfl) (Nat.le_of_ble_eq_true rfl) ⟨_, _, rfl, rfl, ?_⟩
      refine ⟨?_, rfl⟩
      unfold bI laterB
      simp [*]
    · refine g_iconst (iI 1) dX9_isLater_53 rfl ?_
      refine g_goto 58 dX9_isLater_54 (by decide) ?_
      refine g_zret dX9_isLater_58 rfl (narrow_bool (by first | exact Or.inl rfl | exact Or.inr rfl | assumption | omega)) (Nat.le_of_ble_eq_true rfl) (Nat.le_of_ble_eq_true rfl) ⟨_, _, rfl, rfl, ?_⟩
      refine ⟨?_, rfl⟩
      unfold bI laterB
      simp [*]
  · refine g_aload_n 0 dX9_isLater_15 rfl rfl ?_
    refine mg_1 dX9_isLater_16 rfl ?_
    refine g_iload_n 1 dX9_isLater_19 rfl rfl ?_
    refine ml_1 (hP.at 1 (by decide) _) dX9_isLater_20 (by omega) (by omega) ?_
    refine g_aload_n 0 dX9_isLater_21 rfl rfl ?_
    refine mg_1 dX9_isLater_22 rfl ?_
    refine g_iload_n 2 dX9_isLater_25 rfl rfl ?_
    refine ml_1 (hP.at 1 (by decide) _) dX9_isLater_26 (by omega) (by omega) ?_
    refine gi_icmp_le 34 dX9_isLater_27 (by decide) (by first | exact hM _ _ | exact bI_Rg _ | exact ⟨by omega, by omega⟩) (by first | exact hM _ _ | exact bI_Rg _ | exact ⟨by omega, by omega⟩) (fun c27 => ?_) (fun c27 => ?_)
    · refine g_iconst (iI 0) dX9_isLater_34 rfl ?_
      refine g_goto 58 dX9_isLater_35 (by decide) ?_
      refine g_zret dX9_isLater_58 rfl (narrow_bool (by first | exact Or.inl rfl | exact Or.inr rfl | assumption | omega)) (Nat.le_of_ble_eq_true rfl) (Nat.le_of_ble_eq_true rfl) ⟨_, _, rfl, rfl, ?_⟩
      refine ⟨?_, rfl⟩
      unfold bI laterB
      simp [*]
    · refine g_iconst (iI 1) dX9_isLater_30 rfl ?_
      refine g_goto 58 dX9_isLater_31 (by decide) ?_
      refine g_zret dX9_isLater_58 rfl (narrow_bool (by first | exact Or.inl rfl | exact Or.inr rfl | assumption | omega)) (Nat.le_of_ble_eq_true rfl) (Nat.le_of_ble_eq_true rfl) ⟨_, _, rfl, rfl, ?_⟩
      refine ⟨?_, rfl⟩
      unfold bI laterB
      simp [*]
set_option maxHeartbeats 4000000 in
set_option maxRecDepth 100000 in
/-- latestOf -/
theorem c_latestOf (Z : LZ) (o : Nat) (a : Nat → Nat) {D M : Mem} (hP : Pers D M) (hM : RM D) (pen b : Int) (hp : Rg pen) (h0 : 0 ≤ b) (h1 : b ≤ 256)  : Tm Z o a jX9_latestOf [pen, b] M (fun z M2 => M2 = M ∧ z = latestF D pen b.toNat) := by
  refine tr_of pn_X9_latestOf (Nat.le_of_ble_eq_true rfl) (vI_catO o _) ?_
  show G Z jX9_latestOf E0 (QM Z jX9_latestOf (pI Z o a (fun z M2 => M2 = M ∧ z = latestF D pen b.toNat))) 0 [.ref o, .int (iI pen), .int (iI b)] [] (mW Z o a M) 0 0
  have loop : ∀ (fuel : Nat) (f t : Int), b - t < fuel → 0 ≤ t → t ≤ b → f = latestF D pen t.toNat → G Z jX9_latestOf E0 (QM Z jX9_latestOf (pI Z o a (fun z M2 => M2 = M ∧ z = latestF D pen b.toNat))) 5 [.ref o, .int (iI pen), .int (iI b), .int (iI f), .int (iI t)] [] (mW Z o a M) 0 0 := by
    intro fuel
    induction fuel with
    | zero => intros; exfalso; omega
    | succ fuel ih =>
      intro f t hfu ht0 ht1 hf
      refine g_iload dX9_latestOf_5 rfl ?_
      refine g_iload_n 2 dX9_latestOf_7 rfl rfl ?_
      refine gi_icmp_ge 35 dX9_latestOf_8 (by decide) (by first | exact hM _ _ | exact bI_Rg _ | exact ⟨by omega, by omega⟩) (by first | exact hM _ _ | exact bI_Rg _ | exact ⟨by omega, by omega⟩) (fun c8 => ?_) (fun c8 => ?_)
      · refine g_iload_n 3 dX9_latestOf_35 rfl rfl ?_
        refine g_iret dX9_latestOf_36 rfl (Nat.le_of_ble_eq_true rfl) (Nat.le_of_ble_eq_true rfl) ⟨_, _, rfl, rfl, ?_⟩
        refine ⟨rfl, ?_⟩
        have : t = b := by omega
        subst this
        exact hf
      · refine g_aload_n 0 dX9_latestOf_11 rfl rfl ?_
        refine mg_0 dX9_latestOf_12 rfl ?_
        refine g_iload dX9_latestOf_15 rfl ?_
        refine ml_0 (hP.at 0 (by decide) _) dX9_latestOf_17 (by omega) (by omega) ?_
        refine g_iload_n 1 dX9_latestOf_18 rfl rfl ?_
        refine gi_icmp_ne 27 dX9_latestOf_19 (by decide) (by first | exact hM _ _ | exact bI_Rg _ | exact ⟨by omega, by omega⟩) (by first | exact hM _ _ | exact bI_Rg _ | exact ⟨by omega, by omega⟩) (fun c19 => ?_) (fun c19 => ?_)
        · refine g_iload_n 3 dX9_latestOf_27 rfl rfl ?_
          refine g_istore_n 3 dX9_latestOf_28 rfl (Nat.le_of_ble_eq_true rfl) (Nat.le_of_ble_eq_true rfl) rfl ?_
          dsimp only [sto]
          refine gi_inc dX9_latestOf_29 rfl (Nat.le_of_ble_eq_true rfl) rfl ?_
          dsimp only [sto]
          refine g_goto 5 dX9_latestOf_32 (by decide) ?_
          exact ih _ _ (by omega) (by omega) (by omega) (by
            rw [show (t + 1).toNat = t.toNat + 1 by omega, latestF, show ((t.toNat : Nat) : Int) = t by omega]
            first | rw [if_pos (by omega)] | (rw [if_neg (by omega)]; exact hf))
        · refine g_iload dX9_latestOf_22 rfl ?_
          refine g_goto 28 dX9_latestOf_24 (by decide) ?_
          refine g_istore_n 3 dX9_latestOf_28 rfl (Nat.le_of_ble_eq_true rfl) (Nat.le_of_ble_eq_true rfl) rfl ?_
          dsimp only [sto]
          refine gi_inc dX9_latestOf_29 rfl (Nat.le_of_ble_eq_true rfl) rfl ?_
          dsimp only [sto]
          refine g_goto 5 dX9_latestOf_32 (by decide) ?_
          exact ih _ _ (by omega) (by omega) (by omega) (by
            rw [show (t + 1).toNat = t.toNat + 1 by omega, latestF, show ((t.toNat : Nat) : Int) = t by omega]
            first | rw [if_pos (by omega)] | (rw [if_neg (by omega)]; exact hf))
  refine g_iconst (iI (-1)) dX9_latestOf_0 rfl ?_
  refine g_istore_n 3 dX9_latestOf_1 rfl (Nat.le_of_ble_eq_true rfl) (Nat.le_of_ble_eq_true rfl) rfl ?_
  dsimp only [sto]
  refine g_iconst (iI 0) dX9_latestOf_2 rfl ?_
  refine g_istore dX9_latestOf_3 (Nat.le_of_ble_eq_true rfl) (Nat.le_of_ble_eq_true rfl) rfl ?_
  dsimp only [sto]
  exact loop (b.toNat + 1) (-1) 0 (by omega) (by omega) (by omega) rfl
set_option maxHeartbeats 4000000 in
set_option maxRecDepth 100000 in
/-- need -/
theorem c_need (Z : LZ) (o : Nat) (a : Nat → Nat) (M : Mem) (x : Int) (hx : Rg x) (h0 : 0 ≤ M 20 0) (h1 : M 20 0 < 16)  : Tn Z o a jX9_need [x] M (fun M2 => M2 = needF M x) := by
  refine tr_of pn_X9_need (Nat.le_of_ble_eq_true rfl) (vI_catO o _) ?_
  show G Z jX9_need E0 (QM Z jX9_need (pV Z o a (fun M2 => M2 = needF M x))) 0 [.ref o, .int (iI x)] [] (mW Z o a M) 0 0
  refine g_iload_n 1 dX9_need_0 rfl rfl ?_
  refine gi_if_lt 24 dX9_need_1 (by decide) (by first | exact hM _ _ | exact bI_Rg _ | exact ⟨by omega, by omega⟩) (fun c1 => ?_) (fun c1 => ?_)
  · refine g_vret dX9_need_24 rfl (Nat.le_of_ble_eq_true rfl) (Nat.le_of_ble_eq_true rfl) ⟨_, rfl, rfl, ?_⟩
    unfold needF
    first | (rw [if_pos (by omega)]; rfl) | (rw [if_neg (by omega)])
  · refine g_aload_n 0 dX9_need_4 rfl rfl ?_
    refine mg_19 dX9_need_5 rfl ?_
    refine g_aload_n 0 dX9_need_8 rfl rfl ?_
    refine mg_20 rfl dX9_need_9 rfl ?_
    refine g_iload_n 1 dX9_need_12 rfl rfl ?_
    refine mt_19 dX9_need_13 (by omega) (by omega) ?_
    refine g_aload_n 0 dX9_need_14 rfl rfl ?_
    refine g_dup dX9_need_15 rfl ?_
    refine mg_20 rfl dX9_need_16 rfl ?_
    refine g_iconst (iI 1) dX9_need_19 rfl ?_
    refine gi_add dX9_need_20 ?_
    refine mp_20 dX9_need_21 rfl ?_
    refine g_vret dX9_need_24 rfl (Nat.le_of_ble_eq_true rfl) (Nat.le_of_ble_eq_true rfl) ⟨_, rfl, rfl, ?_⟩
    unfold needF
    first | (rw [if_pos (by omega)]; rfl) | (rw [if_neg (by omega)])
end
section
/-! THE REFERENCE: needs, taken, works -/
abbrev nameOK (D : Mem) (s x : Int) : Prop := 0 ≤ x ∧ x / 4 < s ∧ D 2 (x / 4) = 0 ∧ x % 4 < D 3 (x / 4)
def okS (D : Mem) (s : Int) : Prop := (0 ≤ D 0 s ∧ D 0 s < 6) ∧ (0 ≤ D 2 s ∧ D 2 s ≤ 3) ∧ (D 2 s = 0 → 1 ≤ D 3 s ∧ D 3 s ≤ 3 ∧ (D 6 s = -2 ∨ nameOK D s (D 6 s))) ∧ (D 2 s = 1 → 1 ≤ D 3 s ∧ D 3 s ≤ 12 ∧ D 6 s = -3) ∧ (D 2 s = 2 → D 3 s = 2 ∧ (D 6 s = -3 ∨ D 6 s = -2 ∨ nameOK D s (D 6 s)) ∧ 0 ≤ D 7 s ∧ D 7 s ≤ 3) ∧ (D 2 s = 3 → D 3 s = 0 ∧ 0 ≤ D 6 s ∧ D 6 s < s) ∧ (∀ i, (D 2 s = 1 ∨ D 2 s = 2) → 0 ≤ i → i < D 3 s → nameOK D s (D 4 (12 * s + i)))
def okP (D : Mem) : Prop := RM D ∧ (0 ≤ D 9 0 ∧ D 9 0 ≤ 256) ∧ (∀ s, 0 ≤ s → s < D 9 0 → okS D s) ∧ (∀ z, D 8 z = 0 ∨ D 8 z = 1) ∧ (∀ z, D 10 z = 0 ∨ D 10 z = 1)
def ndx (x : Int) : List Int := if 0 ≤ x then [x] else []
theorem ndx_len (x : Int) : (ndx x).length ≤ 1 := by unfold ndx; split <;> simp
def sgN (D : Mem) (s : Int) : Nat → List Int
  | 0 => []
  | i + 1 => sgN D s i ++ ndx (D 4 (12 * s + i) / 4)
theorem sgN_len (D : Mem) (s : Int) : ∀ i, (sgN D s i).length ≤ i := by
  intro i
  induction i with
  | zero => simp [sgN]
  | succ i ih => have := ndx_len (D 4 (12 * s + i) / 4); simp [sgN]; omega
def needA (D : Mem) (s : Int) : List Int := ndx (latestF D (D 0 s) s.toNat) ++ (if D 2 s = 1 ∨ D 2 s = 2 then sgN D s (D 3 s).toNat else [])
def needL (D : Mem) (s : Int) : List Int := needA D s ++ (if D 2 s = 3 then ndx (D 6 s) else if 0 ≤ D 6 s ∧ D 2 s ≠ 1 then ndx (D 6 s / 4) else [])
def NL (M : Mem) (l : List Int) : Prop := M 20 0 = l.length ∧ ∀ (i : Nat) (x : Int), l[i]? = some x → M 19 i = x
theorem NL_0 (M : Mem) : NL (ms M 20 0 0) [] := ⟨ms_at, fun i x h => by simp at h⟩
theorem NL_need {M : Mem} {l : List Int} (h : NL M l) (x : Int) : NL (needF M x) (l ++ ndx x) := by
  unfold needF ndx
  by_cases hx : 0 ≤ x
  · rw [if_pos hx, if_pos hx]
    refine ⟨?_, fun i y hi => ?_⟩
    · rw [ms_at, h.1]; simp
    · rw [ms_row (by decide)]
      by_cases hl : i < l.length
      · rw [List.getElem?_append_left hl] at hi
        rw [ms_off (by rw [h.1]; omega)]
        exact h.2 i y hi
      · rw [List.getElem?_append_right (by omega)] at hi
        have h0 : i - l.length = 0 := by
          rcases Nat.eq_zero_or_pos (i - l.length) with e | e
          · exact e
          · rw [List.getElem?_eq_none (by simp; omega)] at hi; cases hi
        rw [h0] at hi
        simp at hi
        rw [h.1, show (i : Int) = (l.length : Int) by omega, ms_at, hi]
  · rw [if_neg hx, if_neg hx]
    simpa using h
theorem Fx_need {M M1 : Mem} (h : Fx [19, 20] M M1) (x : Int) : Fx [19, 20] M (needF M1 x) := by
  unfold needF
  split
  · exact (h.ms (by decide)).ms (by decide)
  · exact h
theorem need_lt {D : Mem} (hD : okP D) {s : Int} (h0 : 0 ≤ s) (h1 : s < D 9 0) : ∀ t ∈ needL D s, 0 ≤ t ∧ t < s := by
  obtain ⟨hp0, hk0, hS0, hS1, hS2, hS3, hSg⟩ := hD.2.2.1 s h0 h1
  have hla := latestF_rg D (D 0 s) s.toNat
  have hx : ∀ x t : Int, t ∈ ndx x → t = x ∧ 0 ≤ t := by
    intro x t h
    unfold ndx at h
    split at h
    · simp at h; omega
    · simp at h
  have hsg : ∀ i : Nat, (i : Int) ≤ D 3 s → (D 2 s = 1 ∨ D 2 s = 2) → ∀ t ∈ sgN D s i, 0 ≤ t ∧ t < s := by
    intro i
    induction i with
    | zero => intro _ _ t h; simp [sgN] at h
    | succ i ih =>
      intro hi hk t h
      rcases List.mem_append.mp h with h | h
      · exact ih (by omega) hk t h
      · have := hx _ _ h
        have := hSg i hk (by omega) (by omega)
        omega
  intro t ht
  unfold needL needA at ht
  rcases List.mem_append.mp ht with ht | ht
  · rcases List.mem_append.mp ht with ht | ht
    · have := hx _ _ ht; omega
    · split at ht
      · next hk =>
        exact hsg _ (by rcases hk with hk | hk
                        · have := hS1 hk; omega
                        · have := hS2 hk; omega) hk t ht
      · simp at ht
  · split at ht
    · next hk => have := hx _ _ ht; have := hS3 hk; omega
    · split at ht
      · next hk =>
        have h2 := hx _ _ ht
        have hk2 : D 2 s = 0 ∨ D 2 s = 2 := by omega
        rcases hk2 with hk2 | hk2
        · rcases (hS0 hk2).2.2 with h | h <;> omega
        · rcases (hS2 hk2).2.1 with h | h | h <;> omega
      · simp at ht
theorem NL_add {M : Mem} {l l2 : List Int} {x : Int} (h : NL M l) (e : l2 = l ++ ndx x) : NL (needF M x) l2 := e ▸ NL_need h x
set_option maxHeartbeats 4000000 in
set_option maxRecDepth 100000 in
/-- findNeeds -/
theorem c_findNeeds (Z : LZ) (o : Nat) (a : Nat → Nat) {D M : Mem} (hP : Pers D M) (hM : RM D) (hD : okP D) (s : Int) (h0 : 0 ≤ s) (h1 : s < D 9 0)  : Tn Z o a jX9_findNeeds [s] M (fun M2 => Fx [19, 20] M M2 ∧ NL M2 (needL D s)) := by
  refine tr_of pn_X9_findNeeds (Nat.le_of_ble_eq_true rfl) (vI_catO o _) ?_
  show G Z jX9_findNeeds E0 (QM Z jX9_findNeeds (pV Z o a (fun M2 => Fx [19, 20] M M2 ∧ NL M2 (needL D s)))) 0 [.ref o, .int (iI s)] [] (mW Z o a M) 0 0
  obtain ⟨hp0, hk0, hS0, hS1, hS2, hS3, hSg⟩ := hD.2.2.1 s h0 h1
  have hn := hD.2.1
  have hA : (needA D s).length ≤ 13 := by
    have h1 := ndx_len (latestF D (D 0 s) s.toNat)
    have h2 := sgN_len D s (D 3 s).toNat
    unfold needA
    split
    · next hk =>
      simp only [List.length_append]
      rcases hk with hk | hk
      · have := hS1 hk; omega
      · have := hS2 hk; omega
    · simp; omega
  have fin : ∀ (M1 : Mem) (xs : List Value), Fx [19, 20] M M1 → NL M1 (needA D s) → G Z jX9_findNeeds E0 (QM Z jX9_findNeeds (pV Z o a (fun M2 => Fx [19, 20] M M2 ∧ NL M2 (needL D s)))) 75 (.ref o :: .int (iI s) :: xs) [] (mW Z o a M1) 0 0 := by
    intro M1 xs hF hN
    refine g_aload_n 0 dX9_findNeeds_75 rfl rfl ?_
    refine mg_2 dX9_findNeeds_76 rfl ?_
    refine g_iload_n 1 dX9_findNeeds_79 rfl rfl ?_
    refine ml_2 ((hP.fx hF (by decide)).at 2 (by decide) _) dX9_findNeeds_80 (by omega) (by omega) ?_
    refine g_iconst (iI 3) dX9_findNeeds_81 rfl ?_
    refine gi_icmp_ne 98 dX9_findNeeds_82 (by decide) (by first | exact hM _ _ | exact bI_Rg _ | exact ⟨by omega, by omega⟩) (by first | exact hM _ _ | exact bI_Rg _ | exact ⟨by omega, by omega⟩) (fun c82 => ?_) (fun c82 => ?_)
    · refine g_aload_n 0 dX9_findNeeds_98 rfl rfl ?_
      refine mg_6 dX9_findNeeds_99 rfl ?_
      refine g_iload_n 1 dX9_findNeeds_102 rfl rfl ?_
      refine ml_6 ((hP.fx hF (by decide)).at 6 (by decide) _) dX9_findNeeds_103 (by omega) (by omega) ?_
      refine gi_if_lt 129 dX9_findNeeds_104 (by decide) (by first | exact hM _ _ | exact bI_Rg _ | exact ⟨by omega, by omega⟩) (fun c104 => ?_) (fun c104 => ?_)
      · refine g_vret dX9_findNeeds_129 rfl (Nat.le_of_ble_eq_true rfl) (Nat.le_of_ble_eq_true rfl) ⟨_, rfl, rfl, ?_⟩
        first | (refine ⟨Fx_need hF _, NL_add hN ?_⟩; unfold needL; first | rw [if_pos (by omega)] | rw [if_neg (by omega), if_pos (by omega)]) | (refine ⟨hF, ?_⟩; have e : needL D s = needA D s := by { unfold needL; rw [if_neg (by omega), if_neg (by omega)]; simp }; rw [e]; exact hN)
      · refine g_aload_n 0 dX9_findNeeds_107 rfl rfl ?_
        refine mg_2 dX9_findNeeds_108 rfl ?_
        refine g_iload_n 1 dX9_findNeeds_111 rfl rfl ?_
        refine ml_2 ((hP.fx hF (by decide)).at 2 (by decide) _) dX9_findNeeds_112 (by omega) (by omega) ?_
        refine g_iconst (iI 1) dX9_findNeeds_113 rfl ?_
        refine gi_icmp_eq 129 dX9_findNeeds_114 (by decide) (by first | exact hM _ _ | exact bI_Rg _ | exact ⟨by omega, by omega⟩) (by first | exact hM _ _ | exact bI_Rg _ | exact ⟨by omega, by omega⟩) (fun c114 => ?_) (fun c114 => ?_)
        · refine g_vret dX9_findNeeds_129 rfl (Nat.le_of_ble_eq_true rfl) (Nat.le_of_ble_eq_true rfl) ⟨_, rfl, rfl, ?_⟩
          first | (refine ⟨Fx_need hF _, NL_add hN ?_⟩; unfold needL; first | rw [if_pos (by omega)] | rw [if_neg (by omega), if_pos (by omega)]) | (refine ⟨hF, ?_⟩; have e : needL D s = needA D s := by { unfold needL; rw [if_neg (by omega), if_neg (by omega)]; simp }; rw [e]; exact hN)
        · refine g_aload_n 0 dX9_findNeeds_117 rfl rfl ?_
          refine g_aload_n 0 dX9_findNeeds_118 rfl rfl ?_
          refine mg_6 dX9_findNeeds_119 rfl ?_
          refine g_iload_n 1 dX9_findNeeds_122 rfl rfl ?_
          refine ml_6 ((hP.fx hF (by decide)).at 6 (by decide) _) dX9_findNeeds_123 (by omega) (by omega) ?_
          refine g_iconst (iI 4) dX9_findNeeds_124 rfl ?_
          refine gi_div dX9_findNeeds_125 (by omega) (by omega) (by decide) (by decide) ?_
          refine mcV lkX9_94 (c_need Z o a _ (D 6 s / 4) (by have := hM 6 s; exact ⟨by omega, by omega⟩) (by rw [hN.1]; omega) (by rw [hN.1]; omega)) dX9_findNeeds_126 rfl (And.intro (Nat.le_of_ble_eq_true rfl) (Nat.le_of_ble_eq_true rfl)) rfl (Nat.le_of_ble_eq_true rfl) rfl rfl (Nat.le_of_ble_eq_true rfl) (Nat.le_of_ble_eq_true rfl) (fun M126 h126 => ?_)
          subst h126
          refine g_vret dX9_findNeeds_129 rfl (Nat.le_of_ble_eq_true rfl) (Nat.le_of_ble_eq_true rfl) ⟨_, rfl, rfl, ?_⟩
          first | (refine ⟨Fx_need hF _, NL_add hN ?_⟩; unfold needL; first | rw [if_pos (by omega)] | rw [if_neg (by omega), if_pos (by omega)]) | (refine ⟨hF, ?_⟩; have e : needL D s = needA D s := by { unfold needL; rw [if_neg (by omega), if_neg (by omega)]; simp }; rw [e]; exact hN)
    · refine g_aload_n 0 dX9_findNeeds_85 rfl rfl ?_
      refine g_aload_n 0 dX9_findNeeds_86 rfl rfl ?_
      refine mg_6 dX9_findNeeds_87 rfl ?_
      refine g_iload_n 1 dX9_findNeeds_90 rfl rfl ?_
      refine ml_6 ((hP.fx hF (by decide)).at 6 (by decide) _) dX9_findNeeds_91 (by omega) (by omega) ?_
      refine mcV lkX9_94 (c_need Z o a _ (D 6 s) (by first | exact hM _ _) (by rw [hN.1]; omega) (by rw [hN.1]; omega)) dX9_findNeeds_92 rfl (And.intro (Nat.le_of_ble_eq_true rfl) (Nat.le_of_ble_eq_true rfl)) rfl (Nat.le_of_ble_eq_true rfl) rfl rfl (Nat.le_of_ble_eq_true rfl) (Nat.le_of_ble_eq_true rfl) (fun M92 h92 => ?_)
      subst h92
      refine g_goto 129 dX9_findNeeds_95 (by decide) ?_
      refine g_vret dX9_findNeeds_129 rfl (Nat.le_of_ble_eq_true rfl) (Nat.le_of_ble_eq_true rfl) ⟨_, rfl, rfl, ?_⟩
      first | (refine ⟨Fx_need hF _, NL_add hN ?_⟩; unfold needL; first | rw [if_pos (by omega)] | rw [if_neg (by omega), if_pos (by omega)]) | (refine ⟨hF, ?_⟩; have e : needL D s = needA D s := by { unfold needL; rw [if_neg (by omega), if_neg (by omega)]; simp }; rw [e]; exact hN)
  have loop : (D 2 s = 1 ∨ D 2 s = 2) → ∀ (fuel : Nat) (i : Int) (M1 : Mem), D 3 s - i < fuel → 0 ≤ i → i ≤ D 3 s → Fx [19, 20] M M1 → NL M1 (ndx (latestF D (D 0 s) s.toNat) ++ sgN D s i.toNat) → G Z jX9_findNeeds E0 (QM Z jX9_findNeeds (pV Z o a (fun M2 => Fx [19, 20] M M2 ∧ NL M2 (needL D s)))) 42 [.ref o, .int (iI s), .int (iI i)] [] (mW Z o a M1) 0 0 := by
    intro hk fuel
    induction fuel with
    | zero => intros; exfalso; omega
    | succ fuel ih =>
      intro i M1 hfu hi0 hi1 hF hN
      refine g_iload_n 2 dX9_findNeeds_42 rfl rfl ?_
      refine g_aload_n 0 dX9_findNeeds_43 rfl rfl ?_
      refine mg_3 dX9_findNeeds_44 rfl ?_
      refine g_iload_n 1 dX9_findNeeds_47 rfl rfl ?_
      refine ml_3 ((hP.fx hF (by decide)).at 3 (by decide) _) dX9_findNeeds_48 (by omega) (by omega) ?_
      refine gi_icmp_ge 75 dX9_findNeeds_49 (by decide) (by first | exact hM _ _ | exact bI_Rg _ | exact ⟨by omega, by omega⟩) (by first | exact hM _ _ | exact bI_Rg _ | exact ⟨by omega, by omega⟩) (fun c49 => ?_) (fun c49 => ?_)
      · exact fin M1 [_] hF (by
          have e : needA D s = ndx (latestF D (D 0 s) s.toNat) ++ sgN D s i.toNat := by
            unfold needA
            rw [if_pos hk, show D 3 s = i by omega]
          rw [e]
          exact hN)
      · have hsg := hSg i hk hi0 (by omega)
        have hsz : D 3 s ≤ 12 := by
          rcases hk with hk | hk
          · have := hS1 hk; omega
          · have := hS2 hk; omega
        refine g_aload_n 0 dX9_findNeeds_52 rfl rfl ?_
        refine g_aload_n 0 dX9_findNeeds_53 rfl rfl ?_
        refine mg_4 dX9_findNeeds_54 rfl ?_
        refine g_bipush (iI 12) dX9_findNeeds_57 (by decide) ?_
        refine g_iload_n 1 dX9_findNeeds_59 rfl rfl ?_
        refine gi_mul dX9_findNeeds_60 ?_
        refine g_iload_n 2 dX9_findNeeds_61 rfl rfl ?_
        refine gi_add dX9_findNeeds_62 ?_
        refine ml_4 ((hP.fx hF (by decide)).at 4 (by decide) _) dX9_findNeeds_63 (by omega) (by omega) ?_
        refine g_iconst (iI 4) dX9_findNeeds_64 rfl ?_
        refine gi_div dX9_findNeeds_65 (by omega) (by have := hM 4 (12 * s + i); omega) (by decide) (by decide) ?_
        refine mcV lkX9_94 (c_need Z o a _ (D 4 (12 * s + i) / 4) (by have := hSg i hk hi0 (by omega); have := hM 4 (12 * s + i); exact ⟨by omega, by omega⟩) (by rw [hN.1]; omega) (by have := hN.1; have := sgN_len D s i.toNat; have := ndx_len (latestF D (D 0 s) s.toNat); simp at *; omega)) dX9_findNeeds_66 rfl (And.intro (Nat.le_of_ble_eq_true rfl) (Nat.le_of_ble_eq_true rfl)) rfl (Nat.le_of_ble_eq_true rfl) rfl rfl (Nat.le_of_ble_eq_true rfl) (Nat.le_of_ble_eq_true rfl) (fun M66 h66 => ?_)
        subst h66
        refine gi_inc dX9_findNeeds_69 rfl (Nat.le_of_ble_eq_true rfl) rfl ?_
        dsimp only [sto]
        refine g_goto 42 dX9_findNeeds_72 (by decide) ?_
        exact ih _ _ (by omega) (by omega) (by omega) (Fx_need hF _) (NL_add hN (by rw [show (i + 1).toNat = i.toNat + 1 by omega, sgN, show ((i.toNat : Nat) : Int) = i by omega, List.append_assoc]))
  refine g_aload_n 0 dX9_findNeeds_0 rfl rfl ?_
  refine g_iconst (iI 0) dX9_findNeeds_1 rfl ?_
  refine mp_20 dX9_findNeeds_2 rfl ?_
  refine g_aload_n 0 dX9_findNeeds_5 rfl rfl ?_
  refine g_aload_n 0 dX9_findNeeds_6 rfl rfl ?_
  refine g_aload_n 0 dX9_findNeeds_7 rfl rfl ?_
  refine mg_0 dX9_findNeeds_8 rfl ?_
  refine g_iload_n 1 dX9_findNeeds_11 rfl rfl ?_
  refine ml_0 ((hP.ms (r := 20) (by decide)).at 0 (by decide) _) dX9_findNeeds_12 (by omega) (by omega) ?_
  refine g_iload_n 1 dX9_findNeeds_13 rfl rfl ?_
  refine mcI lkX9_90 (c_latestOf Z o a (hP.ms (r := 20) (by decide)) hM (D 0 s) s (hM _ _) (by omega) (by omega)) dX9_findNeeds_14 rfl (And.intro (Nat.le_of_ble_eq_true rfl) (Nat.le_of_ble_eq_true rfl)) rfl (Nat.le_of_ble_eq_true rfl) rfl rfl (Nat.le_of_ble_eq_true rfl) (Nat.le_of_ble_eq_true rfl) (fun z14 M14 h14 => ?_)
  obtain ⟨rfl, rfl⟩ := h14
  refine mcV lkX9_94 (c_need Z o a _ _ (by have := latestF_rg D (D 0 s) s.toNat; exact ⟨by omega, by omega⟩) (by rw [ms_at]; omega) (by rw [ms_at]; omega)) dX9_findNeeds_17 rfl (And.intro (Nat.le_of_ble_eq_true rfl) (Nat.le_of_ble_eq_true rfl)) rfl (Nat.le_of_ble_eq_true rfl) rfl rfl (Nat.le_of_ble_eq_true rfl) (Nat.le_of_ble_eq_true rfl) (fun M17 h17 => ?_)
  subst h17
  have hF0 : Fx [19, 20] M (needF (ms M 20 0 0) (latestF D (D 0 s) s.toNat)) := Fx_need ((Fx.rf _ _).ms (by decide)) _
  have hN0 : NL (needF (ms M 20 0 0) (latestF D (D 0 s) s.toNat)) (ndx (latestF D (D 0 s) s.toNat)) := NL_add (NL_0 M) (by simp)
  generalize needF (ms M 20 0 0) (latestF D (D 0 s) s.toNat) = M0 at hF0 hN0 ⊢
  refine g_aload_n 0 dX9_findNeeds_20 rfl rfl ?_
  refine mg_2 dX9_findNeeds_21 rfl ?_
  refine g_iload_n 1 dX9_findNeeds_24 rfl rfl ?_
  refine ml_2 ((hP.fx hF0 (by decide)).at 2 (by decide) _) dX9_findNeeds_25 (by omega) (by omega) ?_
  refine g_iconst (iI 1) dX9_findNeeds_26 rfl ?_
  refine gi_icmp_eq 40 dX9_findNeeds_27 (by decide) (by first | exact hM _ _ | exact bI_Rg _ | exact ⟨by omega, by omega⟩) (by first | exact hM _ _ | exact bI_Rg _ | exact ⟨by omega, by omega⟩) (fun c27 => ?_) (fun c27 => ?_)
  · refine g_iconst (iI 0) dX9_findNeeds_40 rfl ?_
    refine g_istore_n 2 dX9_findNeeds_41 rfl (Nat.le_of_ble_eq_true rfl) (Nat.le_of_ble_eq_true rfl) rfl ?_
    dsimp only [sto]
    exact loop (by omega) ((D 3 s).toNat + 1) 0 M0 (by omega) (by omega) (by
      have hk : D 2 s = 1 ∨ D 2 s = 2 := by omega
      rcases hk with hk | hk
      · have := hS1 hk; omega
      · have := hS2 hk; omega) hF0 (by simpa [sgN] using hN0)
  · refine g_aload_n 0 dX9_findNeeds_30 rfl rfl ?_
    refine mg_2 dX9_findNeeds_31 rfl ?_
    refine g_iload_n 1 dX9_findNeeds_34 rfl rfl ?_
    refine ml_2 ((hP.fx hF0 (by decide)).at 2 (by decide) _) dX9_findNeeds_35 (by omega) (by omega) ?_
    refine g_iconst (iI 2) dX9_findNeeds_36 rfl ?_
    refine gi_icmp_ne 75 dX9_findNeeds_37 (by decide) (by first | exact hM _ _ | exact bI_Rg _ | exact ⟨by omega, by omega⟩) (by first | exact hM _ _ | exact bI_Rg _ | exact ⟨by omega, by omega⟩) (fun c37 => ?_) (fun c37 => ?_)
    · exact fin M0 [] hF0 (by unfold needA; rw [if_neg (by omega)]; simpa using hN0)
    · refine g_iconst (iI 0) dX9_findNeeds_40 rfl ?_
      refine g_istore_n 2 dX9_findNeeds_41 rfl (Nat.le_of_ble_eq_true rfl) (Nat.le_of_ble_eq_true rfl) rfl ?_
      dsimp only [sto]
      exact loop (by omega) ((D 3 s).toNat + 1) 0 M0 (by omega) (by omega) (by
        have hk : D 2 s = 1 ∨ D 2 s = 2 := by omega
        rcases hk with hk | hk
        · have := hS1 hk; omega
        · have := hS2 hk; omega) hF0 (by simpa [sgN] using hN0)
end
section
/-! THE REFERENCE: taken and works -/
theorem bI_and_t {A B : Bool} (h : ¬ bI A = 0) (h2 : ¬ bI B = 0) : 1 = bI (A && B) := by cases A <;> cases B <;> simp_all [bI]
theorem bI_and_l {A B : Bool} (h : bI A = 0) : 0 = bI (A && B) := by cases A <;> cases B <;> simp_all [bI]
theorem bI_and_r {A B : Bool} (h : bI B = 0) : 0 = bI (A && B) := by cases A <;> cases B <;> simp_all [bI]
theorem bI_g0 {g : Int} {X : Bool} (h : g = 0) : 0 = bI (decide (g = 1) && X) := by subst h; rfl
theorem bI_gt {g : Int} {X : Bool} (hb : g = 0 ∨ g = 1) (h : ¬ g = 0) (h2 : ¬ bI X = 0) : 1 = bI (decide (g = 1) && X) := by
  rcases hb with rfl | rfl
  · exact absurd rfl h
  · cases X <;> simp_all [bI]
theorem bI_1 {A : Bool} (h : ¬ bI A = 0) : bI A = 1 := by cases A <;> simp_all [bI]
theorem take_all {T : Int → Bool} {l : List Int} {k : Nat} {x : Int} (h : l[k]? = some x) : (l.take (k + 1)).all T = ((l.take k).all T && T x) := by
  rw [List.take_add_one, h]
  simp [List.all_append]
def tkU (D : Mem) (p : Int) : Nat → Int → Bool
  | 0, _ => false
  | k + 1, x => decide (D 10 (256 * p + x) = 1) && (needL D x).all (tkU D p k)
def tkB (D : Mem) (p : Int) : Int → Bool := tkU D p 300
theorem all_congr {l : List Int} {S T : Int → Bool} (h : ∀ t ∈ l, S t = T t) : l.all S = l.all T := by
  induction l with
  | nil => rfl
  | cons a t ih =>
    simp only [List.all_cons]
    rw [h a List.mem_cons_self, ih (fun t ht => h t (List.mem_cons_of_mem _ ht))]
theorem tkU_st {D : Mem} (hD : okP D) (p : Int) : ∀ (k k2 : Nat) (x : Int), 0 ≤ x → x < D 9 0 → x < k → x < k2 → tkU D p k x = tkU D p k2 x := by
  intro k
  induction k with
  | zero => intro k2 x h0 _ h; exfalso; omega
  | succ k ih =>
    intro k2 x h0 h1 hk hk2
    cases k2 with
    | zero => exfalso; omega
    | succ k2 =>
      unfold tkU
      rw [all_congr (fun t ht => ih k2 t (need_lt hD h0 h1 t ht).1 (by have := need_lt hD h0 h1 t ht; omega) (by have := need_lt hD h0 h1 t ht; omega) (by have := need_lt hD h0 h1 t ht; omega))]
theorem tkB_eq {D : Mem} (hD : okP D) (p : Int) {x : Int} (h0 : 0 ≤ x) (h1 : x < D 9 0) : tkB D p x = (decide (D 10 (256 * p + x) = 1) && (needL D x).all (tkB D p)) := by
  have hn := hD.2.1
  unfold tkB
  rw [tkU_st hD p 300 301 x h0 h1 (by omega) (by omega)]
  rfl
def cntB (T : Int → Bool) : Nat → Int
  | 0 => 0
  | k + 1 => cntB T k + bI (T k)
theorem cntB_rg (T : Int → Bool) : ∀ k : Nat, 0 ≤ cntB T k ∧ cntB T k ≤ k := by
  intro k
  induction k with
  | zero => simp [cntB]
  | succ k ih => have := bI_01 (T k); simp only [cntB]; omega
def allB (P : Int → Bool) (lo : Int) : Nat → Bool
  | 0 => true
  | k + 1 => allB P lo k && P (lo + k)
theorem allB_congr {P S : Int → Bool} {lo : Int} : ∀ k : Nat, (∀ u, lo ≤ u → u < lo + k → P u = S u) → allB P lo k = allB S lo k := by
  intro k
  induction k with
  | zero => intro _; rfl
  | succ k ih =>
    intro h
    unfold allB
    rw [ih (fun u h1 h2 => h u h1 (by omega)), h (lo + k) (by omega) (by omega)]
def undB (D : Mem) (W : Int → Bool) (x u : Int) : Bool := !(decide (D 2 u = 3) && (decide (D 6 u = x) && W u))
theorem und_keep {A : Bool} {D : Mem} {W : Int → Bool} {s u : Int} (h : ¬ bI A = 0) (hx : ¬ D 2 u = 3 ∨ ¬ D 6 u = s ∨ bI (W u) = 0) : 1 = bI (A && undB D W s u) := by
  have hA : A = true := by cases A <;> simp_all [bI]
  subst hA
  unfold undB
  rcases hx with h1 | h1 | h1
  · rw [decide_eq_false h1]; rfl
  · rw [decide_eq_false h1]; cases decide (D 2 u = 3) <;> rfl
  · rw [bI_eq0.mp h1]; cases decide (D 2 u = 3) <;> cases decide (D 6 u = s) <;> rfl
theorem und_fall {A : Bool} {D : Mem} {W : Int → Bool} {s u : Int} (h2 : D 2 u = 3) (h6 : D 6 u = s) (h : ¬ bI (W u) = 0) : 0 = bI (A && undB D W s u) := by
  have hA : W u = true := by cases hw : W u <;> simp_all [bI]
  unfold undB
  rw [decide_eq_true h2, decide_eq_true h6, hA]
  cases A <;> rfl
def wkU (D : Mem) (T : Int → Bool) : Nat → Int → Bool
  | 0, _ => false
  | k + 1, x => T x && allB (undB D (wkU D T k) x) (x + 1) (D 9 0 - 1 - x).toNat
def wkB (D : Mem) (T : Int → Bool) : Int → Bool := wkU D T 300
theorem wkU_st {D : Mem} (T : Int → Bool) : ∀ (k k2 : Nat) (x : Int), x < D 9 0 → D 9 0 - x ≤ k → D 9 0 - x ≤ k2 → wkU D T k x = wkU D T k2 x := by
  intro k
  induction k with
  | zero => intro k2 x h1 h; exfalso; omega
  | succ k ih =>
    intro k2 x h1 hk hk2
    cases k2 with
    | zero => exfalso; omega
    | succ k2 =>
      unfold wkU
      rw [allB_congr (S := undB D (wkU D T k2) x) _ (fun u h1 h2 => by unfold undB; rw [ih k2 u (by omega) (by omega) (by omega)])]
theorem wkB_eq {D : Mem} (hD : okP D) (T : Int → Bool) {x : Int} (h0 : 0 ≤ x) (h1 : x < D 9 0) : wkB D T x = (T x && allB (undB D (wkB D T) x) (x + 1) (D 9 0 - 1 - x).toNat) := by
  have hn := hD.2.1
  unfold wkB
  rw [wkU_st T 300 301 x h1 (by omega) (by omega)]
  rfl
theorem needL_len {D : Mem} (hD : okP D) {s : Int} (h0 : 0 ≤ s) (h1 : s < D 9 0) : (needL D s).length ≤ 16 := by
  obtain ⟨hp0, hk0, hS0, hS1, hS2, hS3, hSg⟩ := hD.2.2.1 s h0 h1
  have a1 := ndx_len (latestF D (D 0 s) s.toNat)
  have a2 := sgN_len D s (D 3 s).toNat
  have a3 := ndx_len (D 6 s)
  have a4 := ndx_len (D 6 s / 4)
  have b1 : (if D 2 s = 1 ∨ D 2 s = 2 then sgN D s (D 3 s).toNat else []).length ≤ 12 := by
    split
    · next hk =>
      rcases hk with hk | hk
      · have := hS1 hk; omega
      · have := hS2 hk; omega
    · simp
  have b2 : (if D 2 s = 3 then ndx (D 6 s) else if 0 ≤ D 6 s ∧ D 2 s ≠ 1 then ndx (D 6 s / 4) else []).length ≤ 1 := by
    split
    · omega
    · split
      · omega
      · simp
  unfold needL needA
  simp only [List.length_append]
  omega
set_option maxHeartbeats 4000000 in
set_option maxRecDepth 100000 in
/-- hasNeeds -/
theorem c_hasNeeds (Z : LZ) (o : Nat) (a : Nat → Nat) {D M : Mem} (hP : Pers D M) (hM : RM D) (hD : okP D) (s : Int) (h0 : 0 ≤ s) (h1 : s < D 9 0) (T : Int → Bool) (hT : ∀ t, 0 ≤ t → t < s → M 14 t = bI (T t))  : Tm Z o a jX9_hasNeeds [s] M (fun z M2 => z = bI ((needL D s).all T) ∧ Fx [19, 20] M M2) := by
  refine tr_of pn_X9_hasNeeds (Nat.le_of_ble_eq_true rfl) (vI_catO o _) ?_
  show G Z jX9_hasNeeds E0 (QM Z jX9_hasNeeds (pI Z o a (fun z M2 => z = bI ((needL D s).all T) ∧ Fx [19, 20] M M2))) 0 [.ref o, .int (iI s)] [] (mW Z o a M) 0 0
  have hn := hD.2.1
  refine g_aload_n 0 dX9_hasNeeds_0 rfl rfl ?_
  refine g_iload_n 1 dX9_hasNeeds_1 rfl rfl ?_
  refine mcV lkX9_98 (c_findNeeds Z o a hP hM hD s h0 h1) dX9_hasNeeds_2 rfl (And.intro (Nat.le_of_ble_eq_true rfl) (Nat.le_of_ble_eq_true rfl)) rfl (Nat.le_of_ble_eq_true rfl) rfl rfl (Nat.le_of_ble_eq_true rfl) (Nat.le_of_ble_eq_true rfl) (fun M2 h2 => ?_)
  obtain ⟨hF, hN⟩ := h2
  generalize M2 = M1 at hF hN ⊢
  have hl : (needL D s).length ≤ 16 := needL_len hD h0 h1
  refine g_iconst (iI 1) dX9_hasNeeds_5 rfl ?_
  refine g_istore_n 2 dX9_hasNeeds_6 rfl (Nat.le_of_ble_eq_true rfl) (Nat.le_of_ble_eq_true rfl) rfl ?_
  dsimp only [sto]
  refine g_iconst (iI 0) dX9_hasNeeds_7 rfl ?_
  refine g_istore_n 3 dX9_hasNeeds_8 rfl (Nat.le_of_ble_eq_true rfl) (Nat.le_of_ble_eq_true rfl) rfl ?_
  dsimp only [sto]
  have loop : ∀ (fuel : Nat) (h i : Int), (needL D s).length - i < fuel → 0 ≤ i → i ≤ (needL D s).length → h = bI (((needL D s).take i.toNat).all T) → G Z jX9_hasNeeds E0 (QM Z jX9_hasNeeds (pI Z o a (fun z M2 => z = bI ((needL D s).all T) ∧ Fx [19, 20] M M2))) 9 [.ref o, .int (iI s), .int (iI h), .int (iI i)] [] (mW Z o a M1) 0 0 := by
    intro fuel
    induction fuel with
    | zero => intros; exfalso; omega
    | succ fuel ih =>
      intro h i hfu hi0 hi1 hh
      subst hh
      refine g_iload_n 3 dX9_hasNeeds_9 rfl rfl ?_
      refine g_aload_n 0 dX9_hasNeeds_10 rfl rfl ?_
      refine mg_20 hN.1 dX9_hasNeeds_11 rfl ?_
      refine gi_icmp_ge 47 dX9_hasNeeds_14 (by decide) (by first | exact hM _ _ | exact bI_Rg _ | exact ⟨by omega, by omega⟩) (by first | exact hM _ _ | exact bI_Rg _ | exact ⟨by omega, by omega⟩) (fun c14 => ?_) (fun c14 => ?_)
      · refine g_iload_n 2 dX9_hasNeeds_47 rfl rfl ?_
        refine g_zret dX9_hasNeeds_48 rfl (narrow_bool (bI_01 _)) (Nat.le_of_ble_eq_true rfl) (Nat.le_of_ble_eq_true rfl) ⟨_, _, rfl, rfl, ?_⟩
        refine ⟨?_, hF⟩
        rw [List.take_of_length_le (by omega)]
      · obtain ⟨x, hx⟩ : ∃ x, (needL D s)[i.toNat]? = some x := ⟨_, List.getElem?_eq_getElem (by omega)⟩
        have hval : M1 19 i = x := by
          have := hN.2 i.toNat x hx
          rwa [show ((i.toNat : Nat) : Int) = i by omega] at this
        have hb := need_lt hD h0 h1 x (List.mem_of_getElem? hx)
        refine g_iload_n 2 dX9_hasNeeds_17 rfl rfl ?_
        refine gi_if_eq 39 dX9_hasNeeds_18 (by decide) (by first | exact hM _ _ | exact bI_Rg _ | exact ⟨by omega, by omega⟩) (fun c18 => ?_) (fun c18 => ?_)
        · refine g_iconst (iI 0) dX9_hasNeeds_39 rfl ?_
          refine g_istore_n 2 dX9_hasNeeds_40 rfl (Nat.le_of_ble_eq_true rfl) (Nat.le_of_ble_eq_true rfl) rfl ?_
          dsimp only [sto]
          refine gi_inc dX9_hasNeeds_41 rfl (Nat.le_of_ble_eq_true rfl) rfl ?_
          dsimp only [sto]
          refine g_goto 9 dX9_hasNeeds_44 (by decide) ?_
          exact ih _ _ (by omega) (by omega) (by omega) (by
            rw [show (i + 1).toNat = i.toNat + 1 by omega, take_all hx]
            first | exact bI_and_t c18 c32 | exact bI_and_l c18 | exact bI_and_r c32)
        · refine g_aload_n 0 dX9_hasNeeds_21 rfl rfl ?_
          refine mg_14 dX9_hasNeeds_22 rfl ?_
          refine g_aload_n 0 dX9_hasNeeds_25 rfl rfl ?_
          refine mg_19 dX9_hasNeeds_26 rfl ?_
          refine g_iload_n 3 dX9_hasNeeds_29 rfl rfl ?_
          refine ml_19 hval dX9_hasNeeds_30 (by omega) (by omega) ?_
          refine ml_14 ((hF.at 14 (by decide) x).trans (hT x hb.1 hb.2)) dX9_hasNeeds_31 (by omega) (by omega) ?_
          refine gi_if_eq 39 dX9_hasNeeds_32 (by decide) (by first | exact hM _ _ | exact bI_Rg _ | exact ⟨by omega, by omega⟩) (fun c32 => ?_) (fun c32 => ?_)
          · refine g_iconst (iI 0) dX9_hasNeeds_39 rfl ?_
            refine g_istore_n 2 dX9_hasNeeds_40 rfl (Nat.le_of_ble_eq_true rfl) (Nat.le_of_ble_eq_true rfl) rfl ?_
            dsimp only [sto]
            refine gi_inc dX9_hasNeeds_41 rfl (Nat.le_of_ble_eq_true rfl) rfl ?_
            dsimp only [sto]
            refine g_goto 9 dX9_hasNeeds_44 (by decide) ?_
            exact ih _ _ (by omega) (by omega) (by omega) (by
              rw [show (i + 1).toNat = i.toNat + 1 by omega, take_all hx]
              first | exact bI_and_t c18 c32 | exact bI_and_l c18 | exact bI_and_r c32)
          · refine g_iconst (iI 1) dX9_hasNeeds_35 rfl ?_
            refine g_goto 40 dX9_hasNeeds_36 (by decide) ?_
            refine g_istore_n 2 dX9_hasNeeds_40 rfl (Nat.le_of_ble_eq_true rfl) (Nat.le_of_ble_eq_true rfl) rfl ?_
            dsimp only [sto]
            refine gi_inc dX9_hasNeeds_41 rfl (Nat.le_of_ble_eq_true rfl) rfl ?_
            dsimp only [sto]
            refine g_goto 9 dX9_hasNeeds_44 (by decide) ?_
            exact ih _ _ (by omega) (by omega) (by omega) (by
              rw [show (i + 1).toNat = i.toNat + 1 by omega, take_all hx]
              first | exact bI_and_t c18 c32 | exact bI_and_l c18 | exact bI_and_r c32)
  exact loop ((needL D s).length + 1) 1 0 (by omega) (by omega) (by omega) (by simp [bI])
set_option maxHeartbeats 4000000 in
set_option maxRecDepth 100000 in
/-- findTaken -/
theorem c_findTaken (Z : LZ) (o : Nat) (a : Nat → Nat) {D M : Mem} (hP : Pers D M) (hM : RM D) (hD : okP D) (p : Int) (h0 : 0 ≤ p) (h1 : p < 6)  : Tm Z o a jX9_findTaken [p] M (fun z M2 => z = cntB (tkB D p) (D 9 0).toNat ∧ Fx [14, 19, 20] M M2 ∧ ∀ t, 0 ≤ t → t < D 9 0 → M2 14 t = bI (tkB D p t)) := by
  refine tr_of pn_X9_findTaken (Nat.le_of_ble_eq_true rfl) (vI_catO o _) ?_
  show G Z jX9_findTaken E0 (QM Z jX9_findTaken (pI Z o a (fun z M2 => z = cntB (tkB D p) (D 9 0).toNat ∧ Fx [14, 19, 20] M M2 ∧ ∀ t, 0 ≤ t → t < D 9 0 → M2 14 t = bI (tkB D p t)))) 0 [.ref o, .int (iI p)] [] (mW Z o a M) 0 0
  have hn := hD.2.1
  have loop : ∀ (fuel : Nat) (c s : Int) (M1 : Mem), D 9 0 - s < fuel → 0 ≤ s → s ≤ D 9 0 → c = cntB (tkB D p) s.toNat → Fx [14, 19, 20] M M1 → (∀ t, 0 ≤ t → t < s → M1 14 t = bI (tkB D p t)) → G Z jX9_findTaken E0 (QM Z jX9_findTaken (pI Z o a (fun z M2 => z = cntB (tkB D p) (D 9 0).toNat ∧ Fx [14, 19, 20] M M2 ∧ ∀ t, 0 ≤ t → t < D 9 0 → M2 14 t = bI (tkB D p t)))) 4 [.ref o, .int (iI p), .int (iI c), .int (iI s)] [] (mW Z o a M1) 0 0 := by
    intro fuel
    induction fuel with
    | zero => intros; exfalso; omega
    | succ fuel ih =>
      intro c s M1 hfu hs0 hs1 hc hF hT
      have hcr := cntB_rg (tkB D p) s.toNat
      by_cases hlt : s < D 9 0
      · have mid : ∀ (M1 : Mem) (v : Int), Fx [14, 19, 20] M M1 → (∀ t, 0 ≤ t → t < s → M1 14 t = bI (tkB D p t)) → v = bI (tkB D p s) → G Z jX9_findTaken E0 (QM Z jX9_findTaken (pI Z o a (fun z M2 => z = cntB (tkB D p) (D 9 0).toNat ∧ Fx [14, 19, 20] M M2 ∧ ∀ t, 0 ≤ t → t < D 9 0 → M2 14 t = bI (tkB D p t)))) 45 [.ref o, .int (iI p), .int (iI c), .int (iI s)] [.int (iI v), .int (iI s), .ref (a 14)] (mW Z o a M1) 0 0 := by
          intro M1 v hF hT hv
          subst hv
          refine mt_14 dX9_findTaken_45 (by omega) (by omega) (bI_01 _) ?_
          refine g_iload_n 2 dX9_findTaken_46 rfl rfl ?_
          refine g_aload_n 0 dX9_findTaken_47 rfl rfl ?_
          refine mg_14 dX9_findTaken_48 rfl ?_
          refine g_iload_n 3 dX9_findTaken_51 rfl rfl ?_
          refine ml_14 ms_at dX9_findTaken_52 (by omega) (by omega) ?_
          refine gi_if_eq 60 dX9_findTaken_53 (by decide) (by first | exact hM _ _ | exact bI_Rg _ | exact ⟨by omega, by omega⟩) (fun c53 => ?_) (fun c53 => ?_)
          · refine g_iconst (iI 0) dX9_findTaken_60 rfl ?_
            refine gi_add dX9_findTaken_61 ?_
            refine g_istore_n 2 dX9_findTaken_62 rfl (Nat.le_of_ble_eq_true rfl) (Nat.le_of_ble_eq_true rfl) rfl ?_
            dsimp only [sto]
            refine gi_inc dX9_findTaken_63 rfl (Nat.le_of_ble_eq_true rfl) rfl ?_
            dsimp only [sto]
            refine g_goto 4 dX9_findTaken_66 (by decide) ?_
            exact ih _ _ _ (by omega) (by omega) (by omega) (by
              rw [show (s + 1).toNat = s.toNat + 1 by omega, cntB, show ((s.toNat : Nat) : Int) = s by omega, ← hc]
              first | omega | (have := bI_1 c53; omega)) (hF.ms (by decide)) (fun t ht0 ht1 => by
              by_cases e : t = s
              · subst e; exact ms_at
              · rw [ms_off e]; exact hT t ht0 (by omega))
          · refine g_iconst (iI 1) dX9_findTaken_56 rfl ?_
            refine g_goto 61 dX9_findTaken_57 (by decide) ?_
            refine gi_add dX9_findTaken_61 ?_
            refine g_istore_n 2 dX9_findTaken_62 rfl (Nat.le_of_ble_eq_true rfl) (Nat.le_of_ble_eq_true rfl) rfl ?_
            dsimp only [sto]
            refine gi_inc dX9_findTaken_63 rfl (Nat.le_of_ble_eq_true rfl) rfl ?_
            dsimp only [sto]
            refine g_goto 4 dX9_findTaken_66 (by decide) ?_
            exact ih _ _ _ (by omega) (by omega) (by omega) (by
              rw [show (s + 1).toNat = s.toNat + 1 by omega, cntB, show ((s.toNat : Nat) : Int) = s by omega, ← hc]
              first | omega | (have := bI_1 c53; omega)) (hF.ms (by decide)) (fun t ht0 ht1 => by
              by_cases e : t = s
              · subst e; exact ms_at
              · rw [ms_off e]; exact hT t ht0 (by omega))
        refine g_iload_n 3 dX9_findTaken_4 rfl rfl ?_
        refine g_aload_n 0 dX9_findTaken_5 rfl rfl ?_
        refine mg_9 ((hP.fx hF (by decide)).at 9 (by decide) _) dX9_findTaken_6 rfl ?_
        refine gi_icmp_ge 69 dX9_findTaken_9 (by decide) (by first | exact hM _ _ | exact bI_Rg _ | exact ⟨by omega, by omega⟩) (by first | exact hM _ _ | exact bI_Rg _ | exact ⟨by omega, by omega⟩) (fun c9 => ?_) (fun c9 => ?_)
        · exfalso; omega
        · refine g_aload_n 0 dX9_findTaken_12 rfl rfl ?_
          refine mg_14 dX9_findTaken_13 rfl ?_
          refine g_iload_n 3 dX9_findTaken_16 rfl rfl ?_
          refine g_aload_n 0 dX9_findTaken_17 rfl rfl ?_
          refine mg_10 dX9_findTaken_18 rfl ?_
          refine g_sipush (iI 256) dX9_findTaken_21 (by decide) ?_
          refine g_iload_n 1 dX9_findTaken_24 rfl rfl ?_
          refine gi_mul dX9_findTaken_25 ?_
          refine g_iload_n 3 dX9_findTaken_26 rfl rfl ?_
          refine gi_add dX9_findTaken_27 ?_
          refine ml_10 ((hP.fx hF (by decide)).at 10 (by decide) _) dX9_findTaken_28 (by omega) (by omega) ?_
          refine gi_if_eq 44 dX9_findTaken_29 (by decide) (hM _ _) (fun c29 => ?_) (fun c29 => ?_)
          · refine g_iconst (iI 0) dX9_findTaken_44 rfl ?_
            first
              | exact mid M34 _ (hF.tr hF34 (by decide)) (fun t ht0 ht1 => by rw [hF34.at 14 (by decide)]; exact hT t ht0 ht1) (by
                  rw [tkB_eq hD p (by omega) (by omega)]
                  first | exact bI_gt (hD.2.2.2.2 (256 * p + s)) c29 c37 | exact bI_g0 c29 | exact bI_and_r c37)
              | exact mid M1 _ hF hT (by
                  rw [tkB_eq hD p (by omega) (by omega)]
                  first | exact bI_gt (hD.2.2.2.2 (256 * p + s)) c29 c37 | exact bI_g0 c29 | exact bI_and_r c37)
          · refine g_aload_n 0 dX9_findTaken_32 rfl rfl ?_
            refine g_iload_n 3 dX9_findTaken_33 rfl rfl ?_
            refine mcI lkX9_101 (c_hasNeeds Z o a (hP.fx hF (by decide)) hM hD s (by omega) (by omega) (tkB D p) hT) dX9_findTaken_34 rfl (And.intro (Nat.le_of_ble_eq_true rfl) (Nat.le_of_ble_eq_true rfl)) rfl (Nat.le_of_ble_eq_true rfl) rfl rfl (Nat.le_of_ble_eq_true rfl) (Nat.le_of_ble_eq_true rfl) (fun z34 M34 h34 => ?_)
            obtain ⟨rfl, hF34⟩ := h34
            refine gi_if_eq 44 dX9_findTaken_37 (by decide) (by first | exact hM _ _ | exact bI_Rg _ | exact ⟨by omega, by omega⟩) (fun c37 => ?_) (fun c37 => ?_)
            · refine g_iconst (iI 0) dX9_findTaken_44 rfl ?_
              first
                | exact mid M34 _ (hF.tr hF34 (by decide)) (fun t ht0 ht1 => by rw [hF34.at 14 (by decide)]; exact hT t ht0 ht1) (by
                    rw [tkB_eq hD p (by omega) (by omega)]
                    first | exact bI_gt (hD.2.2.2.2 (256 * p + s)) c29 c37 | exact bI_g0 c29 | exact bI_and_r c37)
                | exact mid M1 _ hF hT (by
                    rw [tkB_eq hD p (by omega) (by omega)]
                    first | exact bI_gt (hD.2.2.2.2 (256 * p + s)) c29 c37 | exact bI_g0 c29 | exact bI_and_r c37)
            · refine g_iconst (iI 1) dX9_findTaken_40 rfl ?_
              refine g_goto 45 dX9_findTaken_41 (by decide) ?_
              first
                | exact mid M34 _ (hF.tr hF34 (by decide)) (fun t ht0 ht1 => by rw [hF34.at 14 (by decide)]; exact hT t ht0 ht1) (by
                    rw [tkB_eq hD p (by omega) (by omega)]
                    first | exact bI_gt (hD.2.2.2.2 (256 * p + s)) c29 c37 | exact bI_g0 c29 | exact bI_and_r c37)
                | exact mid M1 _ hF hT (by
                    rw [tkB_eq hD p (by omega) (by omega)]
                    first | exact bI_gt (hD.2.2.2.2 (256 * p + s)) c29 c37 | exact bI_g0 c29 | exact bI_and_r c37)
      · refine g_iload_n 3 dX9_findTaken_4 rfl rfl ?_
        refine g_aload_n 0 dX9_findTaken_5 rfl rfl ?_
        refine mg_9 ((hP.fx hF (by decide)).at 9 (by decide) _) dX9_findTaken_6 rfl ?_
        refine gi_icmp_ge 69 dX9_findTaken_9 (by decide) (by first | exact hM _ _ | exact bI_Rg _ | exact ⟨by omega, by omega⟩) (by first | exact hM _ _ | exact bI_Rg _ | exact ⟨by omega, by omega⟩) (fun c9 => ?_) (fun c9 => ?_)
        · refine g_iload_n 2 dX9_findTaken_69 rfl rfl ?_
          refine g_iret dX9_findTaken_70 rfl (Nat.le_of_ble_eq_true rfl) (Nat.le_of_ble_eq_true rfl) ⟨_, _, rfl, rfl, ?_⟩
          refine ⟨?_, hF, fun t a1 a2 => hT t a1 (by omega)⟩
          rw [hc, show s = D 9 0 by omega]
        · exfalso; omega
  refine g_iconst (iI 0) dX9_findTaken_0 rfl ?_
  refine g_istore_n 2 dX9_findTaken_1 rfl (Nat.le_of_ble_eq_true rfl) (Nat.le_of_ble_eq_true rfl) rfl ?_
  dsimp only [sto]
  refine g_iconst (iI 0) dX9_findTaken_2 rfl ?_
  refine g_istore_n 3 dX9_findTaken_3 rfl (Nat.le_of_ble_eq_true rfl) (Nat.le_of_ble_eq_true rfl) rfl ?_
  dsimp only [sto]
  exact loop ((D 9 0).toNat + 1) 0 0 M (by omega) (by omega) (by omega) rfl (Fx.rf _ _) (fun t h1 h2 => by omega)
set_option maxHeartbeats 4000000 in
set_option maxRecDepth 100000 in
/-- findWorks -/
theorem c_findWorks (Z : LZ) (o : Nat) (a : Nat → Nat) {D M : Mem} (hP : Pers D M) (hM : RM D) (hD : okP D) (T : Int → Bool) (hT : ∀ t, 0 ≤ t → t < D 9 0 → M 14 t = bI (T t))  : Tn Z o a jX9_findWorks [] M (fun M2 => Fx [15] M M2 ∧ ∀ t, 0 ≤ t → t < D 9 0 → M2 15 t = bI (wkB D T t)) := by
  refine tr_of pn_X9_findWorks (Nat.le_of_ble_eq_true rfl) (vI_catO o _) ?_
  show G Z jX9_findWorks E0 (QM Z jX9_findWorks (pV Z o a (fun M2 => Fx [15] M M2 ∧ ∀ t, 0 ≤ t → t < D 9 0 → M2 15 t = bI (wkB D T t)))) 0 [.ref o] [] (mW Z o a M) 0 0
  have hn := hD.2.1
  have loop : ∀ (fuel : Nat) (s : Int) (M1 : Mem), s + 1 < fuel → -1 ≤ s → s < D 9 0 → Fx [15] M M1 → (∀ t, s < t → t < D 9 0 → M1 15 t = bI (wkB D T t)) → G Z jX9_findWorks E0 (QM Z jX9_findWorks (pV Z o a (fun M2 => Fx [15] M M2 ∧ ∀ t, 0 ≤ t → t < D 9 0 → M2 15 t = bI (wkB D T t)))) 7 [.ref o, .int (iI s)] [] (mW Z o a M1) 0 0 := by
    intro fuel
    induction fuel with
    | zero => intros; exfalso; omega
    | succ fuel ih =>
      intro s M1 hfu hs0 hs1 hF hW
      by_cases hs : 0 ≤ s
      · have outn : ∀ (M2 : Mem) (xs : List Value), Fx [15] M M2 → (∀ t, s < t → t < D 9 0 → M2 15 t = bI (wkB D T t)) → M2 15 s = bI (wkB D T s) → G Z jX9_findWorks E0 (QM Z jX9_findWorks (pV Z o a (fun M2 => Fx [15] M M2 ∧ ∀ t, 0 ≤ t → t < D 9 0 → M2 15 t = bI (wkB D T t)))) 90 (.ref o :: .int (iI s) :: xs) [] (mW Z o a M2) 0 0 := by
          intro M2 xs hF hW hc
          refine gi_inc dX9_findWorks_90 rfl (Nat.le_of_ble_eq_true rfl) rfl ?_
          dsimp only [sto]
          refine g_goto 7 dX9_findWorks_93 (by decide) ?_
          refine g_drop (ls1 := [_, _]) (xs := xs) rfl ?_
          exact ih _ _ (by omega) (by omega) (by omega) hF (fun t h1 h2 => by
            by_cases e : t = s
            · subst e; exact hc
            · exact hW t (by omega) h2)
        have inn : ∀ (fuel : Nat) (u : Int) (M2 : Mem), D 9 0 - u < fuel → s + 1 ≤ u → u ≤ D 9 0 → Fx [15] M M2 → (∀ t, s < t → t < D 9 0 → M2 15 t = bI (wkB D T t)) → M2 15 s = bI (T s && allB (undB D (wkB D T) s) (s + 1) (u - s - 1).toNat) → G Z jX9_findWorks E0 (QM Z jX9_findWorks (pV Z o a (fun M2 => Fx [15] M M2 ∧ ∀ t, 0 ≤ t → t < D 9 0 → M2 15 t = bI (wkB D T t)))) 27 [.ref o, .int (iI s), .int (iI u)] [] (mW Z o a M2) 0 0 := by
          intro fuel
          induction fuel with
          | zero => intros; exfalso; omega
          | succ fuel ihi =>
            intro u M2 hfu hu0 hu1 hF hW hcur
            have mid : ∀ v : Int, v = bI ((T s && allB (undB D (wkB D T) s) (s + 1) (u - s - 1).toNat) && undB D (wkB D T) s u) → u < D 9 0 → G Z jX9_findWorks E0 (QM Z jX9_findWorks (pV Z o a (fun M2 => Fx [15] M M2 ∧ ∀ t, 0 ≤ t → t < D 9 0 → M2 15 t = bI (wkB D T t)))) 83 [.ref o, .int (iI s), .int (iI u)] [.int (iI v), .int (iI s), .ref (a 15)] (mW Z o a M2) 0 0 := by
              intro v hv hu
              refine mt_15 dX9_findWorks_83 (by omega) (by omega) (by rw [hv]; exact bI_01 _) ?_
              refine gi_inc dX9_findWorks_84 rfl (Nat.le_of_ble_eq_true rfl) rfl ?_
              dsimp only [sto]
              refine g_goto 27 dX9_findWorks_87 (by decide) ?_
              exact ihi _ _ (by omega) (by omega) (by omega) (hF.ms (by decide)) (fun t h1 h2 => by rw [ms_off (by omega)]; exact hW t h1 h2) (by
                rw [ms_at, hv, show (u + 1 - s - 1).toNat = (u - s - 1).toNat + 1 by omega, allB, show s + 1 + ((u - s - 1).toNat : Int) = u by omega, Bool.and_assoc])
            refine g_iload_n 2 dX9_findWorks_27 rfl rfl ?_
            refine g_aload_n 0 dX9_findWorks_28 rfl rfl ?_
            refine mg_9 ((hP.fx hF (by decide)).at 9 (by decide) _) dX9_findWorks_29 rfl ?_
            refine gi_icmp_ge 90 dX9_findWorks_32 (by decide) (by first | exact hM _ _ | exact bI_Rg _ | exact ⟨by omega, by omega⟩) (by first | exact hM _ _ | exact bI_Rg _ | exact ⟨by omega, by omega⟩) (fun c32 => ?_) (fun c32 => ?_)
            · exact outn M2 [_] hF hW (by rw [hcur, wkB_eq hD T (by omega) (by omega), show (u - s - 1).toNat = (D 9 0 - 1 - s).toNat by omega])
            · refine g_aload_n 0 dX9_findWorks_35 rfl rfl ?_
              refine mg_15 dX9_findWorks_36 rfl ?_
              refine g_iload_n 1 dX9_findWorks_39 rfl rfl ?_
              refine g_aload_n 0 dX9_findWorks_40 rfl rfl ?_
              refine mg_15 dX9_findWorks_41 rfl ?_
              refine g_iload_n 1 dX9_findWorks_44 rfl rfl ?_
              refine ml_15 hcur dX9_findWorks_45 (by omega) (by omega) ?_
              refine gi_if_eq 82 dX9_findWorks_46 (by decide) (by first | exact hM _ _ | exact bI_Rg _ | exact ⟨by omega, by omega⟩) (fun c46 => ?_) (fun c46 => ?_)
              · refine g_iconst (iI 0) dX9_findWorks_82 rfl ?_
                exact mid _ (by
                  first
                    | exact bI_and_l c46
                    | exact und_keep c46 (Or.inl c56)
                    | exact und_keep c46 (Or.inr (Or.inl c66))
                    | exact und_keep c46 (Or.inr (Or.inr c75))
                    | exact und_fall c56 c66 c75) (by omega)
              · refine g_aload_n 0 dX9_findWorks_49 rfl rfl ?_
                refine mg_2 dX9_findWorks_50 rfl ?_
                refine g_iload_n 2 dX9_findWorks_53 rfl rfl ?_
                refine ml_2 ((hP.fx hF (by decide)).at 2 (by decide) _) dX9_findWorks_54 (by omega) (by omega) ?_
                refine g_iconst (iI 3) dX9_findWorks_55 rfl ?_
                refine gi_icmp_ne 78 dX9_findWorks_56 (by decide) (by first | exact hM _ _ | exact bI_Rg _ | exact ⟨by omega, by omega⟩) (by first | exact hM _ _ | exact bI_Rg _ | exact ⟨by omega, by omega⟩) (fun c56 => ?_) (fun c56 => ?_)
                · refine g_iconst (iI 1) dX9_findWorks_78 rfl ?_
                  refine g_goto 83 dX9_findWorks_79 (by decide) ?_
                  exact mid _ (by
                    first
                      | exact bI_and_l c46
                      | exact und_keep c46 (Or.inl c56)
                      | exact und_keep c46 (Or.inr (Or.inl c66))
                      | exact und_keep c46 (Or.inr (Or.inr c75))
                      | exact und_fall c56 c66 c75) (by omega)
                · refine g_aload_n 0 dX9_findWorks_59 rfl rfl ?_
                  refine mg_6 dX9_findWorks_60 rfl ?_
                  refine g_iload_n 2 dX9_findWorks_63 rfl rfl ?_
                  refine ml_6 ((hP.fx hF (by decide)).at 6 (by decide) _) dX9_findWorks_64 (by omega) (by omega) ?_
                  refine g_iload_n 1 dX9_findWorks_65 rfl rfl ?_
                  refine gi_icmp_ne 78 dX9_findWorks_66 (by decide) (by first | exact hM _ _ | exact bI_Rg _ | exact ⟨by omega, by omega⟩) (by first | exact hM _ _ | exact bI_Rg _ | exact ⟨by omega, by omega⟩) (fun c66 => ?_) (fun c66 => ?_)
                  · refine g_iconst (iI 1) dX9_findWorks_78 rfl ?_
                    refine g_goto 83 dX9_findWorks_79 (by decide) ?_
                    exact mid _ (by
                      first
                        | exact bI_and_l c46
                        | exact und_keep c46 (Or.inl c56)
                        | exact und_keep c46 (Or.inr (Or.inl c66))
                        | exact und_keep c46 (Or.inr (Or.inr c75))
                        | exact und_fall c56 c66 c75) (by omega)
                  · refine g_aload_n 0 dX9_findWorks_69 rfl rfl ?_
                    refine mg_15 dX9_findWorks_70 rfl ?_
                    refine g_iload_n 2 dX9_findWorks_73 rfl rfl ?_
                    refine ml_15 (hW u (by omega) (by omega)) dX9_findWorks_74 (by omega) (by omega) ?_
                    refine gi_if_ne 82 dX9_findWorks_75 (by decide) (by first | exact hM _ _ | exact bI_Rg _ | exact ⟨by omega, by omega⟩) (fun c75 => ?_) (fun c75 => ?_)
                    · refine g_iconst (iI 0) dX9_findWorks_82 rfl ?_
                      exact mid _ (by
                        first
                          | exact bI_and_l c46
                          | exact und_keep c46 (Or.inl c56)
                          | exact und_keep c46 (Or.inr (Or.inl c66))
                          | exact und_keep c46 (Or.inr (Or.inr c75))
                          | exact und_fall c56 c66 c75) (by omega)
                    · refine g_iconst (iI 1) dX9_findWorks_78 rfl ?_
                      refine g_goto 83 dX9_findWorks_79 (by decide) ?_
                      exact mid _ (by
                        first
                          | exact bI_and_l c46
                          | exact und_keep c46 (Or.inl c56)
                          | exact und_keep c46 (Or.inr (Or.inl c66))
                          | exact und_keep c46 (Or.inr (Or.inr c75))
                          | exact und_fall c56 c66 c75) (by omega)
        refine g_iload_n 1 dX9_findWorks_7 rfl rfl ?_
        refine gi_if_lt 96 dX9_findWorks_8 (by decide) (by first | exact hM _ _ | exact bI_Rg _ | exact ⟨by omega, by omega⟩) (fun c8 => ?_) (fun c8 => ?_)
        · exfalso; omega
        · refine g_aload_n 0 dX9_findWorks_11 rfl rfl ?_
          refine mg_15 dX9_findWorks_12 rfl ?_
          refine g_iload_n 1 dX9_findWorks_15 rfl rfl ?_
          refine g_aload_n 0 dX9_findWorks_16 rfl rfl ?_
          refine mg_14 dX9_findWorks_17 rfl ?_
          refine g_iload_n 1 dX9_findWorks_20 rfl rfl ?_
          refine ml_14 ((hF.at 14 (by decide) s).trans (hT s (by omega) (by omega))) dX9_findWorks_21 (by omega) (by omega) ?_
          refine mt_15 dX9_findWorks_22 (by omega) (by omega) (bI_01 _) ?_
          refine g_iload_n 1 dX9_findWorks_23 rfl rfl ?_
          refine g_iconst (iI 1) dX9_findWorks_24 rfl ?_
          refine gi_add dX9_findWorks_25 ?_
          refine g_istore_n 2 dX9_findWorks_26 rfl (Nat.le_of_ble_eq_true rfl) (Nat.le_of_ble_eq_true rfl) rfl ?_
          dsimp only [sto]
          exact inn ((D 9 0).toNat + 1) _ _ (by omega) (by omega) (by omega) (hF.ms (by decide)) (fun t h1 h2 => by rw [ms_off (by omega)]; exact hW t h1 h2) (by rw [ms_at, show (s + 1 - s - 1).toNat = 0 by omega]; simp [allB])
      · refine g_iload_n 1 dX9_findWorks_7 rfl rfl ?_
        refine gi_if_lt 96 dX9_findWorks_8 (by decide) (by first | exact hM _ _ | exact bI_Rg _ | exact ⟨by omega, by omega⟩) (fun c8 => ?_) (fun c8 => ?_)
        · refine g_vret dX9_findWorks_96 rfl (Nat.le_of_ble_eq_true rfl) (Nat.le_of_ble_eq_true rfl) ⟨_, rfl, rfl, ?_⟩
          exact ⟨hF, fun t h1 h2 => hW t (by omega) h2⟩
        · exfalso; omega
  refine g_aload_n 0 dX9_findWorks_0 rfl rfl ?_
  refine mg_9 (hP.at 9 (by decide) _) dX9_findWorks_1 rfl ?_
  refine g_iconst (iI 1) dX9_findWorks_4 rfl ?_
  refine gi_sub dX9_findWorks_5 ?_
  refine g_istore_n 1 dX9_findWorks_6 rfl (Nat.le_of_ble_eq_true rfl) (Nat.le_of_ble_eq_true rfl) rfl ?_
  dsimp only [sto]
  exact loop ((D 9 0).toNat + 1) _ M (by omega) (by omega) (by omega) (Fx.rf _ _) (fun t h1 h2 => by omega)
end
section
/-! THE REFERENCE: strikes, places -/
def anyB (P : Int → Bool) : Nat → Bool
  | 0 => false
  | i + 1 => anyB P i || P i
def sgB (D : Mem) (s name : Int) (i : Int) : Bool := decide (D 4 (12 * s + i) = name)
def stB (D : Mem) (W : Int → Bool) (name s : Int) : Bool := W s && (decide (D 2 s = 1) && anyB (sgB D s name) (D 3 s).toNat)
def strikesF (D : Mem) (W : Int → Bool) (name : Int) : Int := cntB (stB D W name) (D 9 0).toNat
theorem bI_or_t {A B : Bool} (h : ¬ bI A = 0 ∨ B = true) : 1 = bI (A || B) := by rcases h with h | h <;> cases A <;> cases B <;> simp_all [bI]
theorem bI_or_f {A B : Bool} (h : bI A = 0) (h2 : B = false) : 0 = bI (A || B) := by cases A <;> cases B <;> simp_all [bI]
def lastIx (f : Int → Int) (x : Int) : Nat → Int
  | 0 => -1
  | i + 1 => if f i = x then (i : Int) else lastIx f x i
theorem lastIx_rg (f : Int → Int) (x : Int) : ∀ k : Nat, -1 ≤ lastIx f x k ∧ lastIx f x k < k ∧ (0 ≤ lastIx f x k → f (lastIx f x k) = x) := by
  intro k
  induction k with
  | zero => simp [lastIx]
  | succ k ih =>
    unfold lastIx
    split
    · exact ⟨by omega, by omega, fun _ => by assumption⟩
    · exact ⟨by omega, by omega, ih.2.2⟩
set_option maxHeartbeats 4000000 in
set_option maxRecDepth 100000 in
/-- strikesOf -/
theorem c_strikesOf (Z : LZ) (o : Nat) (a : Nat → Nat) {D M : Mem} (hP : Pers D M) (hM : RM D) (hD : okP D) (x : Int) (hx : Rg x) (W : Int → Bool) (hW : ∀ t, 0 ≤ t → t < D 9 0 → M 15 t = bI (W t))  : Tm Z o a jX9_strikesOf [x] M (fun z M2 => z = strikesF D W x ∧ M2 = M) := by
  refine tr_of pn_X9_strikesOf (Nat.le_of_ble_eq_true rfl) (vI_catO o _) ?_
  show G Z jX9_strikesOf E0 (QM Z jX9_strikesOf (pI Z o a (fun z M2 => z = strikesF D W x ∧ M2 = M))) 0 [.ref o, .int (iI x)] [] (mW Z o a M) 0 0
  have hn := hD.2.1
  have loop : ∀ (fuel : Nat) (c s : Int), D 9 0 - s < fuel → 0 ≤ s → s ≤ D 9 0 → c = cntB (stB D W x) s.toNat → G Z jX9_strikesOf E0 (QM Z jX9_strikesOf (pI Z o a (fun z M2 => z = strikesF D W x ∧ M2 = M))) 4 [.ref o, .int (iI x), .int (iI c), .int (iI s)] [] (mW Z o a M) 0 0 := by
    intro fuel
    induction fuel with
    | zero => intros; exfalso; omega
    | succ fuel ih =>
      intro c s hfu hs0 hs1 hc
      have hcr := cntB_rg (stB D W x) s.toNat
      by_cases hlt : s < D 9 0
      · obtain ⟨hp0, hk0, hS0, hS1, hS2, hS3, hSg⟩ := hD.2.2.1 s hs0 hlt
        have aft : ∀ h i : Int, h = bI (stB D W x s) → G Z jX9_strikesOf E0 (QM Z jX9_strikesOf (pI Z o a (fun z M2 => z = strikesF D W x ∧ M2 = M))) 82 [.ref o, .int (iI x), .int (iI c), .int (iI s), .int (iI h), .int (iI i)] [] (mW Z o a M) 0 0 := by
          intro h i hh
          subst hh
          refine g_iload_n 2 dX9_strikesOf_82 rfl rfl ?_
          refine g_iload dX9_strikesOf_83 rfl ?_
          refine gi_if_eq 92 dX9_strikesOf_85 (by decide) (by first | exact hM _ _ | exact bI_Rg _ | exact ⟨by omega, by omega⟩) (fun c85 => ?_) (fun c85 => ?_)
          · refine g_iconst (iI 0) dX9_strikesOf_92 rfl ?_
            refine gi_add dX9_strikesOf_93 ?_
            refine g_istore_n 2 dX9_strikesOf_94 rfl (Nat.le_of_ble_eq_true rfl) (Nat.le_of_ble_eq_true rfl) rfl ?_
            dsimp only [sto]
            refine gi_inc dX9_strikesOf_95 rfl (Nat.le_of_ble_eq_true rfl) rfl ?_
            dsimp only [sto]
            refine g_goto 4 dX9_strikesOf_98 (by decide) ?_
            refine g_drop (ls1 := [_, _, _, _]) (xs := [_, _]) rfl ?_
            exact ih _ _ (by omega) (by omega) (by omega) (by
              rw [show (s + 1).toNat = s.toNat + 1 by omega, cntB, show ((s.toNat : Nat) : Int) = s by omega, ← hc]
              first | omega | (have := bI_1 c85; omega))
          · refine g_iconst (iI 1) dX9_strikesOf_88 rfl ?_
            refine g_goto 93 dX9_strikesOf_89 (by decide) ?_
            refine gi_add dX9_strikesOf_93 ?_
            refine g_istore_n 2 dX9_strikesOf_94 rfl (Nat.le_of_ble_eq_true rfl) (Nat.le_of_ble_eq_true rfl) rfl ?_
            dsimp only [sto]
            refine gi_inc dX9_strikesOf_95 rfl (Nat.le_of_ble_eq_true rfl) rfl ?_
            dsimp only [sto]
            refine g_goto 4 dX9_strikesOf_98 (by decide) ?_
            refine g_drop (ls1 := [_, _, _, _]) (xs := [_, _]) rfl ?_
            exact ih _ _ (by omega) (by omega) (by omega) (by
              rw [show (s + 1).toNat = s.toNat + 1 by omega, cntB, show ((s.toNat : Nat) : Int) = s by omega, ← hc]
              first | omega | (have := bI_1 c85; omega))
        have inn : ∀ (fuel : Nat) (h i : Int), 13 - i < fuel → 0 ≤ i → i ≤ 12 → (i = 0 ∨ (bI (W s) = 1 ∧ D 2 s = 1 ∧ i ≤ D 3 s)) → h = bI (anyB (sgB D s x) i.toNat) → G Z jX9_strikesOf E0 (QM Z jX9_strikesOf (pI Z o a (fun z M2 => z = strikesF D W x ∧ M2 = M))) 18 [.ref o, .int (iI x), .int (iI c), .int (iI s), .int (iI h), .int (iI i)] [] (mW Z o a M) 0 0 := by
          intro fuel
          induction fuel with
          | zero => intros; exfalso; omega
          | succ fuel ihi =>
            intro h i hfu hi0 hi1 hor hh
            subst hh
            refine g_aload_n 0 dX9_strikesOf_18 rfl rfl ?_
            refine mg_15 dX9_strikesOf_19 rfl ?_
            refine g_iload_n 3 dX9_strikesOf_22 rfl rfl ?_
            refine ml_15 (hW s (by omega) (by omega)) dX9_strikesOf_23 (by omega) (by omega) ?_
            refine gi_if_eq 82 dX9_strikesOf_24 (by decide) (by first | exact hM _ _ | exact bI_Rg _ | exact ⟨by omega, by omega⟩) (fun c24 => ?_) (fun c24 => ?_)
            · exact aft _ _ (by
                unfold stB
                first
                  | (rw [bI_eq0.mp c24]; rcases hor with e | e
                     · rw [e]; rfl
                     · rw [bI_eq0.mp c24] at e; exact absurd e.1 (by decide))
                  | (rw [decide_eq_false c34]; rcases hor with e | e
                     · rw [e]; cases W s <;> rfl
                     · exact absurd e.2.1 c34)
                  | (have e : W s = true := by cases hw : W s <;> simp_all [bI]
                     rw [e, decide_eq_true c34, show i.toNat = (D 3 s).toNat by have := hS1 c34; omega]; rfl))
            · refine g_aload_n 0 dX9_strikesOf_27 rfl rfl ?_
              refine mg_2 dX9_strikesOf_28 rfl ?_
              refine g_iload_n 3 dX9_strikesOf_31 rfl rfl ?_
              refine ml_2 (hP.at 2 (by decide) _) dX9_strikesOf_32 (by omega) (by omega) ?_
              refine g_iconst (iI 1) dX9_strikesOf_33 rfl ?_
              refine gi_icmp_ne 82 dX9_strikesOf_34 (by decide) (by first | exact hM _ _ | exact bI_Rg _ | exact ⟨by omega, by omega⟩) (by first | exact hM _ _ | exact bI_Rg _ | exact ⟨by omega, by omega⟩) (fun c34 => ?_) (fun c34 => ?_)
              · exact aft _ _ (by
                  unfold stB
                  first
                    | (rw [bI_eq0.mp c24]; rcases hor with e | e
                       · rw [e]; rfl
                       · rw [bI_eq0.mp c24] at e; exact absurd e.1 (by decide))
                    | (rw [decide_eq_false c34]; rcases hor with e | e
                       · rw [e]; cases W s <;> rfl
                       · exact absurd e.2.1 c34)
                    | (have e : W s = true := by cases hw : W s <;> simp_all [bI]
                       rw [e, decide_eq_true c34, show i.toNat = (D 3 s).toNat by have := hS1 c34; omega]; rfl))
              · have hsz := hS1 c34
                refine g_iload dX9_strikesOf_37 rfl ?_
                refine g_aload_n 0 dX9_strikesOf_39 rfl rfl ?_
                refine mg_3 dX9_strikesOf_40 rfl ?_
                refine g_iload_n 3 dX9_strikesOf_43 rfl rfl ?_
                refine ml_3 (hP.at 3 (by decide) _) dX9_strikesOf_44 (by omega) (by omega) ?_
                refine gi_icmp_ge 82 dX9_strikesOf_45 (by decide) (by first | exact hM _ _ | exact bI_Rg _ | exact ⟨by omega, by omega⟩) (by first | exact hM _ _ | exact bI_Rg _ | exact ⟨by omega, by omega⟩) (fun c45 => ?_) (fun c45 => ?_)
                · exact aft _ _ (by
                    unfold stB
                    first
                      | (rw [bI_eq0.mp c24]; rcases hor with e | e
                         · rw [e]; rfl
                         · rw [bI_eq0.mp c24] at e; exact absurd e.1 (by decide))
                      | (rw [decide_eq_false c34]; rcases hor with e | e
                         · rw [e]; cases W s <;> rfl
                         · exact absurd e.2.1 c34)
                      | (have e : W s = true := by cases hw : W s <;> simp_all [bI]
                         rw [e, decide_eq_true c34, show i.toNat = (D 3 s).toNat by have := hS1 c34; omega]; rfl))
                · refine g_iload dX9_strikesOf_48 rfl ?_
                  refine gi_if_ne 69 dX9_strikesOf_50 (by decide) (by first | exact hM _ _ | exact bI_Rg _ | exact ⟨by omega, by omega⟩) (fun c50 => ?_) (fun c50 => ?_)
                  · refine g_iconst (iI 1) dX9_strikesOf_69 rfl ?_
                    refine g_goto 74 dX9_strikesOf_70 (by decide) ?_
                    refine g_istore dX9_strikesOf_74 (Nat.le_of_ble_eq_true rfl) (Nat.le_of_ble_eq_true rfl) rfl ?_
                    dsimp only [sto]
                    refine gi_inc dX9_strikesOf_76 rfl (Nat.le_of_ble_eq_true rfl) rfl ?_
                    dsimp only [sto]
                    refine g_goto 18 dX9_strikesOf_79 (by decide) ?_
                    exact ihi _ _ (by omega) (by omega) (by omega) (Or.inr ⟨bI_1 c24, c34, by omega⟩) (by
                      rw [show (i + 1).toNat = i.toNat + 1 by omega, anyB, show ((i.toNat : Nat) : Int) = i by omega]
                      first
                        | exact bI_or_t (Or.inl c50)
                        | exact bI_or_t (Or.inr (by unfold sgB; exact decide_eq_true c66))
                        | exact bI_or_f c50 (by unfold sgB; exact decide_eq_false c66))
                  · refine g_aload_n 0 dX9_strikesOf_53 rfl rfl ?_
                    refine mg_4 dX9_strikesOf_54 rfl ?_
                    refine g_bipush (iI 12) dX9_strikesOf_57 (by decide) ?_
                    refine g_iload_n 3 dX9_strikesOf_59 rfl rfl ?_
                    refine gi_mul dX9_strikesOf_60 ?_
                    refine g_iload dX9_strikesOf_61 rfl ?_
                    refine gi_add dX9_strikesOf_63 ?_
                    refine ml_4 (hP.at 4 (by decide) _) dX9_strikesOf_64 (by omega) (by omega) ?_
                    refine g_iload_n 1 dX9_strikesOf_65 rfl rfl ?_
                    refine gi_icmp_ne 73 dX9_strikesOf_66 (by decide) (by first | exact hM _ _ | exact bI_Rg _ | exact ⟨by omega, by omega⟩) (by first | exact hM _ _ | exact bI_Rg _ | exact ⟨by omega, by omega⟩) (fun c66 => ?_) (fun c66 => ?_)
                    · refine g_iconst (iI 0) dX9_strikesOf_73 rfl ?_
                      refine g_istore dX9_strikesOf_74 (Nat.le_of_ble_eq_true rfl) (Nat.le_of_ble_eq_true rfl) rfl ?_
                      dsimp only [sto]
                      refine gi_inc dX9_strikesOf_76 rfl (Nat.le_of_ble_eq_true rfl) rfl ?_
                      dsimp only [sto]
                      refine g_goto 18 dX9_strikesOf_79 (by decide) ?_
                      exact ihi _ _ (by omega) (by omega) (by omega) (Or.inr ⟨bI_1 c24, c34, by omega⟩) (by
                        rw [show (i + 1).toNat = i.toNat + 1 by omega, anyB, show ((i.toNat : Nat) : Int) = i by omega]
                        first
                          | exact bI_or_t (Or.inl c50)
                          | exact bI_or_t (Or.inr (by unfold sgB; exact decide_eq_true c66))
                          | exact bI_or_f c50 (by unfold sgB; exact decide_eq_false c66))
                    · refine g_iconst (iI 1) dX9_strikesOf_69 rfl ?_
                      refine g_goto 74 dX9_strikesOf_70 (by decide) ?_
                      refine g_istore dX9_strikesOf_74 (Nat.le_of_ble_eq_true rfl) (Nat.le_of_ble_eq_true rfl) rfl ?_
                      dsimp only [sto]
                      refine gi_inc dX9_strikesOf_76 rfl (Nat.le_of_ble_eq_true rfl) rfl ?_
                      dsimp only [sto]
                      refine g_goto 18 dX9_strikesOf_79 (by decide) ?_
                      exact ihi _ _ (by omega) (by omega) (by omega) (Or.inr ⟨bI_1 c24, c34, by omega⟩) (by
                        rw [show (i + 1).toNat = i.toNat + 1 by omega, anyB, show ((i.toNat : Nat) : Int) = i by omega]
                        first
                          | exact bI_or_t (Or.inl c50)
                          | exact bI_or_t (Or.inr (by unfold sgB; exact decide_eq_true c66))
                          | exact bI_or_f c50 (by unfold sgB; exact decide_eq_false c66))
        refine g_iload_n 3 dX9_strikesOf_4 rfl rfl ?_
        refine g_aload_n 0 dX9_strikesOf_5 rfl rfl ?_
        refine mg_9 (hP.at 9 (by decide) _) dX9_strikesOf_6 rfl ?_
        refine gi_icmp_ge 101 dX9_strikesOf_9 (by decide) (by first | exact hM _ _ | exact bI_Rg _ | exact ⟨by omega, by omega⟩) (by first | exact hM _ _ | exact bI_Rg _ | exact ⟨by omega, by omega⟩) (fun c9 => ?_) (fun c9 => ?_)
        · exfalso; omega
        · refine g_iconst (iI 0) dX9_strikesOf_12 rfl ?_
          refine g_istore dX9_strikesOf_13 (Nat.le_of_ble_eq_true rfl) (Nat.le_of_ble_eq_true rfl) rfl ?_
          dsimp only [sto]
          refine g_iconst (iI 0) dX9_strikesOf_15 rfl ?_
          refine g_istore dX9_strikesOf_16 (Nat.le_of_ble_eq_true rfl) (Nat.le_of_ble_eq_true rfl) rfl ?_
          dsimp only [sto]
          exact inn 14 0 0 (by omega) (by omega) (by omega) (Or.inl rfl) rfl
      · refine g_iload_n 3 dX9_strikesOf_4 rfl rfl ?_
        refine g_aload_n 0 dX9_strikesOf_5 rfl rfl ?_
        refine mg_9 (hP.at 9 (by decide) _) dX9_strikesOf_6 rfl ?_
        refine gi_icmp_ge 101 dX9_strikesOf_9 (by decide) (by first | exact hM _ _ | exact bI_Rg _ | exact ⟨by omega, by omega⟩) (by first | exact hM _ _ | exact bI_Rg _ | exact ⟨by omega, by omega⟩) (fun c9 => ?_) (fun c9 => ?_)
        · refine g_iload_n 2 dX9_strikesOf_101 rfl rfl ?_
          refine g_iret dX9_strikesOf_102 rfl (Nat.le_of_ble_eq_true rfl) (Nat.le_of_ble_eq_true rfl) ⟨_, _, rfl, rfl, ?_⟩
          refine ⟨?_, rfl⟩
          unfold strikesF
          rw [hc, show s = D 9 0 by omega]
        · exfalso; omega
  refine g_iconst (iI 0) dX9_strikesOf_0 rfl ?_
  refine g_istore_n 2 dX9_strikesOf_1 rfl (Nat.le_of_ble_eq_true rfl) (Nat.le_of_ble_eq_true rfl) rfl ?_
  dsimp only [sto]
  refine g_iconst (iI 0) dX9_strikesOf_2 rfl ?_
  refine g_istore_n 3 dX9_strikesOf_3 rfl (Nat.le_of_ble_eq_true rfl) (Nat.le_of_ble_eq_true rfl) rfl ?_
  dsimp only [sto]
  exact loop ((D 9 0).toNat + 1) 0 0 (by omega) (by omega) (by omega) rfl
set_option maxHeartbeats 4000000 in
set_option maxRecDepth 100000 in
/-- isStruck -/
theorem c_isStruck (Z : LZ) (o : Nat) (a : Nat → Nat) {D M : Mem} (hP : Pers D M) (hM : RM D) (hD : okP D) (x : Int) (hx : Rg x) (W : Int → Bool) (hW : ∀ t, 0 ≤ t → t < D 9 0 → M 15 t = bI (W t))  : Tm Z o a jX9_isStruck [x] M (fun z M2 => z = bI (decide (0 < strikesF D W x)) ∧ M2 = M) := by
  refine tr_of pn_X9_isStruck (Nat.le_of_ble_eq_true rfl) (vI_catO o _) ?_
  show G Z jX9_isStruck E0 (QM Z jX9_isStruck (pI Z o a (fun z M2 => z = bI (decide (0 < strikesF D W x)) ∧ M2 = M))) 0 [.ref o, .int (iI x)] [] (mW Z o a M) 0 0
  have hn := hD.2.1
  have hcr := cntB_rg (stB D W x) (D 9 0).toNat
  refine g_aload_n 0 dX9_isStruck_0 rfl rfl ?_
  refine g_iload_n 1 dX9_isStruck_1 rfl rfl ?_
  refine mcI lkX9_118 (c_strikesOf Z o a hP hM hD x hx W hW) dX9_isStruck_2 rfl (And.intro (Nat.le_of_ble_eq_true rfl) (Nat.le_of_ble_eq_true rfl)) rfl (Nat.le_of_ble_eq_true rfl) rfl rfl (Nat.le_of_ble_eq_true rfl) (Nat.le_of_ble_eq_true rfl) (fun z2 M2 h2 => ?_)
  obtain ⟨rfl, rfl⟩ := h2
  refine gi_if_le 12 dX9_isStruck_5 (by decide) (by unfold strikesF; exact ⟨by omega, by omega⟩) (fun c5 => ?_) (fun c5 => ?_)
  · refine g_iconst (iI 0) dX9_isStruck_12 rfl ?_
    refine g_zret dX9_isStruck_13 rfl (narrow_bool (by first | exact Or.inl rfl | exact Or.inr rfl | assumption | omega)) (Nat.le_of_ble_eq_true rfl) (Nat.le_of_ble_eq_true rfl) ⟨_, _, rfl, rfl, ?_⟩
    refine ⟨?_, rfl⟩
    first | (rw [decide_eq_true (by omega)]; rfl) | (rw [decide_eq_false (by omega)]; rfl)
  · refine g_iconst (iI 1) dX9_isStruck_8 rfl ?_
    refine g_goto 13 dX9_isStruck_9 (by decide) ?_
    refine g_zret dX9_isStruck_13 rfl (narrow_bool (by first | exact Or.inl rfl | exact Or.inr rfl | assumption | omega)) (Nat.le_of_ble_eq_true rfl) (Nat.le_of_ble_eq_true rfl) ⟨_, _, rfl, rfl, ?_⟩
    refine ⟨?_, rfl⟩
    first | (rw [decide_eq_true (by omega)]; rfl) | (rw [decide_eq_false (by omega)]; rfl)
set_option maxHeartbeats 4000000 in
set_option maxRecDepth 100000 in
/-- atPlace -/
theorem c_atPlace (Z : LZ) (o : Nat) (a : Nat → Nat) {D M : Mem} (hP : Pers D M) (hM : RM D) (x : Int) (h0 : 0 ≤ x) (hx : x < 1000000) (h1 : 0 ≤ M 17 0) (h2 : M 17 0 ≤ 768) (V : Int → Bool) (hV : ∀ i, 0 ≤ i → i < M 17 0 → M 18 i = bI (V i))  : Tm Z o a jX9_atPlace [x] M (fun z M2 => M2 = M ∧ ((0 ≤ z ∧ z < M 17 0 ∧ V z = true ∧ cntB V z.toNat = x) ∨ (z = -1 ∧ ∀ i, 0 ≤ i → i < M 17 0 → V i = true → cntB V i.toNat ≠ x))) := by
  refine tr_of pn_X9_atPlace (Nat.le_of_ble_eq_true rfl) (vI_catO o _) ?_
  show G Z jX9_atPlace E0 (QM Z jX9_atPlace (pI Z o a (fun z M2 => M2 = M ∧ ((0 ≤ z ∧ z < M 17 0 ∧ V z = true ∧ cntB V z.toNat = x) ∨ (z = -1 ∧ ∀ i, 0 ≤ i → i < M 17 0 → V i = true → cntB V i.toNat ≠ x))))) 0 [.ref o, .int (iI x)] [] (mW Z o a M) 0 0
  have loop : ∀ (fuel : Nat) (l i : Int), M 17 0 - i < fuel → 0 ≤ i → i ≤ M 17 0 → l = x - cntB V i.toNat → (∀ j, 0 ≤ j → j < i → V j = true → cntB V j.toNat ≠ x) → G Z jX9_atPlace E0 (QM Z jX9_atPlace (pI Z o a (fun z M2 => M2 = M ∧ ((0 ≤ z ∧ z < M 17 0 ∧ V z = true ∧ cntB V z.toNat = x) ∨ (z = -1 ∧ ∀ i, 0 ≤ i → i < M 17 0 → V i = true → cntB V i.toNat ≠ x))))) 4 [.ref o, .int (iI x), .int (iI l), .int (iI i)] [] (mW Z o a M) 0 0 := by
    intro fuel
    induction fuel with
    | zero => intros; exfalso; omega
    | succ fuel ih =>
      intro l i hfu hi0 hi1 hl hno
      have hcr := cntB_rg V i.toNat
      refine g_iload_n 3 dX9_atPlace_4 rfl rfl ?_
      refine g_aload_n 0 dX9_atPlace_5 rfl rfl ?_
      refine mg_17 rfl dX9_atPlace_6 rfl ?_
      refine gi_icmp_ge 36 dX9_atPlace_9 (by decide) (by first | exact hM _ _ | exact bI_Rg _ | exact ⟨by omega, by omega⟩) (by first | exact hM _ _ | exact bI_Rg _ | exact ⟨by omega, by omega⟩) (fun c9 => ?_) (fun c9 => ?_)
      · refine g_iconst (iI (-1)) dX9_atPlace_36 rfl ?_
        refine g_iret dX9_atPlace_37 rfl (Nat.le_of_ble_eq_true rfl) (Nat.le_of_ble_eq_true rfl) ⟨_, _, rfl, rfl, ?_⟩
        exact ⟨rfl, Or.inr ⟨rfl, fun j h1 h2 h3 => hno j h1 (by omega) h3⟩⟩
      · refine g_aload_n 0 dX9_atPlace_12 rfl rfl ?_
        refine mg_18 dX9_atPlace_13 rfl ?_
        refine g_iload_n 3 dX9_atPlace_16 rfl rfl ?_
        refine ml_18 (hV i (by omega) (by omega)) dX9_atPlace_17 (by omega) (by omega) ?_
        refine gi_if_eq 30 dX9_atPlace_18 (by decide) (by first | exact hM _ _ | exact bI_Rg _ | exact ⟨by omega, by omega⟩) (fun c18 => ?_) (fun c18 => ?_)
        · refine gi_inc dX9_atPlace_30 rfl (Nat.le_of_ble_eq_true rfl) rfl ?_
          dsimp only [sto]
          refine g_goto 4 dX9_atPlace_33 (by decide) ?_
          exact ih _ _ (by omega) (by omega) (by omega) (by
            rw [show (i + 1).toNat = i.toNat + 1 by omega, cntB, show ((i.toNat : Nat) : Int) = i by omega]
            first | omega | (have := bI_1 c18; omega)) (fun j h1 h2 h3 => by
            by_cases e : j = i
            · subst e
              first | omega | (rw [h3] at c18; exact absurd c18 (by decide))
            · exact hno j h1 (by omega) h3)
        · refine g_iload_n 2 dX9_atPlace_21 rfl rfl ?_
          refine gi_if_ne 27 dX9_atPlace_22 (by decide) (by first | exact hM _ _ | exact bI_Rg _ | exact ⟨by omega, by omega⟩) (fun c22 => ?_) (fun c22 => ?_)
          · refine gi_inc dX9_atPlace_27 rfl (Nat.le_of_ble_eq_true rfl) rfl ?_
            dsimp only [sto]
            refine gi_inc dX9_atPlace_30 rfl (Nat.le_of_ble_eq_true rfl) rfl ?_
            dsimp only [sto]
            refine g_goto 4 dX9_atPlace_33 (by decide) ?_
            exact ih _ _ (by omega) (by omega) (by omega) (by
              rw [show (i + 1).toNat = i.toNat + 1 by omega, cntB, show ((i.toNat : Nat) : Int) = i by omega]
              first | omega | (have := bI_1 c18; omega)) (fun j h1 h2 h3 => by
              by_cases e : j = i
              · subst e
                first | omega | (rw [h3] at c18; exact absurd c18 (by decide))
              · exact hno j h1 (by omega) h3)
          · refine g_iload_n 3 dX9_atPlace_25 rfl rfl ?_
            refine g_iret dX9_atPlace_26 rfl (Nat.le_of_ble_eq_true rfl) (Nat.le_of_ble_eq_true rfl) ⟨_, _, rfl, rfl, ?_⟩
            exact ⟨rfl, Or.inl ⟨hi0, by omega, by cases h : V i <;> simp_all [bI], by omega⟩⟩
  refine g_iload_n 1 dX9_atPlace_0 rfl rfl ?_
  refine g_istore_n 2 dX9_atPlace_1 rfl (Nat.le_of_ble_eq_true rfl) (Nat.le_of_ble_eq_true rfl) rfl ?_
  dsimp only [sto]
  refine g_iconst (iI 0) dX9_atPlace_2 rfl ?_
  refine g_istore_n 3 dX9_atPlace_3 rfl (Nat.le_of_ble_eq_true rfl) (Nat.le_of_ble_eq_true rfl) rfl ?_
  dsimp only [sto]
  exact loop ((M 17 0).toNat + 1) x 0 (by omega) (by omega) (by omega) (by simp [cntB]) (fun j h1 h2 => by omega)
set_option maxHeartbeats 4000000 in
set_option maxRecDepth 100000 in
/-- inOrder -/
theorem c_inOrder (Z : LZ) (o : Nat) (a : Nat → Nat) {D M : Mem} (hP : Pers D M) (hM : RM D) (x : Int) (hx : Rg x) (h1 : 0 ≤ M 17 0) (h2 : M 17 0 ≤ 768) (hO : ∀ i, 0 ≤ i → i < M 17 0 → Rg (M 16 i))  : Tm Z o a jX9_inOrder [x] M (fun z M2 => M2 = M ∧ z = lastIx (M 16) x (M 17 0).toNat) := by
  refine tr_of pn_X9_inOrder (Nat.le_of_ble_eq_true rfl) (vI_catO o _) ?_
  show G Z jX9_inOrder E0 (QM Z jX9_inOrder (pI Z o a (fun z M2 => M2 = M ∧ z = lastIx (M 16) x (M 17 0).toNat))) 0 [.ref o, .int (iI x)] [] (mW Z o a M) 0 0
  have loop : ∀ (fuel : Nat) (f i : Int), M 17 0 - i < fuel → 0 ≤ i → i ≤ M 17 0 → f = lastIx (M 16) x i.toNat → G Z jX9_inOrder E0 (QM Z jX9_inOrder (pI Z o a (fun z M2 => M2 = M ∧ z = lastIx (M 16) x (M 17 0).toNat))) 4 [.ref o, .int (iI x), .int (iI f), .int (iI i)] [] (mW Z o a M) 0 0 := by
    intro fuel
    induction fuel with
    | zero => intros; exfalso; omega
    | succ fuel ih =>
      intro f i hfu hi0 hi1 hf
      refine g_iload_n 3 dX9_inOrder_4 rfl rfl ?_
      refine g_aload_n 0 dX9_inOrder_5 rfl rfl ?_
      refine mg_17 rfl dX9_inOrder_6 rfl ?_
      refine gi_icmp_ge 34 dX9_inOrder_9 (by decide) (by first | exact hM _ _ | exact bI_Rg _ | exact ⟨by omega, by omega⟩) (by first | exact hM _ _ | exact bI_Rg _ | exact ⟨by omega, by omega⟩) (fun c9 => ?_) (fun c9 => ?_)
      · refine g_iload_n 2 dX9_inOrder_34 rfl rfl ?_
        refine g_iret dX9_inOrder_35 rfl (Nat.le_of_ble_eq_true rfl) (Nat.le_of_ble_eq_true rfl) ⟨_, _, rfl, rfl, ?_⟩
        refine ⟨rfl, ?_⟩
        rw [hf, show i = M 17 0 by omega]
      · refine g_aload_n 0 dX9_inOrder_12 rfl rfl ?_
        refine mg_16 dX9_inOrder_13 rfl ?_
        refine g_iload_n 3 dX9_inOrder_16 rfl rfl ?_
        refine ml_16 rfl dX9_inOrder_17 (by omega) (by omega) ?_
        refine g_iload_n 1 dX9_inOrder_18 rfl rfl ?_
        refine gi_icmp_ne 26 dX9_inOrder_19 (by decide) (hO i (by omega) (by omega)) hx (fun c19 => ?_) (fun c19 => ?_)
        · refine g_iload_n 2 dX9_inOrder_26 rfl rfl ?_
          refine g_istore_n 2 dX9_inOrder_27 rfl (Nat.le_of_ble_eq_true rfl) (Nat.le_of_ble_eq_true rfl) rfl ?_
          dsimp only [sto]
          refine gi_inc dX9_inOrder_28 rfl (Nat.le_of_ble_eq_true rfl) rfl ?_
          dsimp only [sto]
          refine g_goto 4 dX9_inOrder_31 (by decide) ?_
          exact ih _ _ (by omega) (by omega) (by omega) (by
            rw [show (i + 1).toNat = i.toNat + 1 by omega, lastIx, show ((i.toNat : Nat) : Int) = i by omega]
            first | rw [if_pos c19] | (rw [if_neg c19]; exact hf))
        · refine g_iload_n 3 dX9_inOrder_22 rfl rfl ?_
          refine g_goto 27 dX9_inOrder_23 (by decide) ?_
          refine g_istore_n 2 dX9_inOrder_27 rfl (Nat.le_of_ble_eq_true rfl) (Nat.le_of_ble_eq_true rfl) rfl ?_
          dsimp only [sto]
          refine gi_inc dX9_inOrder_28 rfl (Nat.le_of_ble_eq_true rfl) rfl ?_
          dsimp only [sto]
          refine g_goto 4 dX9_inOrder_31 (by decide) ?_
          exact ih _ _ (by omega) (by omega) (by omega) (by
            rw [show (i + 1).toNat = i.toNat + 1 by omega, lastIx, show ((i.toNat : Nat) : Int) = i by omega]
            first | rw [if_pos c19] | (rw [if_neg c19]; exact hf))
  refine g_iconst (iI (-1)) dX9_inOrder_0 rfl ?_
  refine g_istore_n 2 dX9_inOrder_1 rfl (Nat.le_of_ble_eq_true rfl) (Nat.le_of_ble_eq_true rfl) rfl ?_
  dsimp only [sto]
  refine g_iconst (iI 0) dX9_inOrder_2 rfl ?_
  refine g_istore_n 3 dX9_inOrder_3 rfl (Nat.le_of_ble_eq_true rfl) (Nat.le_of_ble_eq_true rfl) rfl ?_
  dsimp only [sto]
  exact loop ((M 17 0).toNat + 1) (-1) 0 (by omega) (by omega) (by omega) rfl
set_option maxHeartbeats 4000000 in
set_option maxRecDepth 100000 in
/-- seenAhead -/
theorem c_seenAhead (Z : LZ) (o : Nat) (a : Nat → Nat) {D M : Mem} (hP : Pers D M) (hM : RM D) (x : Int) (h0 : 0 ≤ x) (h1 : x ≤ 768) (V : Int → Bool) (hV : ∀ i, 0 ≤ i → i < x → M 18 i = bI (V i))  : Tm Z o a jX9_seenAhead [x] M (fun z M2 => M2 = M ∧ z = cntB V x.toNat) := by
  refine tr_of pn_X9_seenAhead (Nat.le_of_ble_eq_true rfl) (vI_catO o _) ?_
  show G Z jX9_seenAhead E0 (QM Z jX9_seenAhead (pI Z o a (fun z M2 => M2 = M ∧ z = cntB V x.toNat))) 0 [.ref o, .int (iI x)] [] (mW Z o a M) 0 0
  have loop : ∀ (fuel : Nat) (c i : Int), x - i < fuel → 0 ≤ i → i ≤ x → c = cntB V i.toNat → G Z jX9_seenAhead E0 (QM Z jX9_seenAhead (pI Z o a (fun z M2 => M2 = M ∧ z = cntB V x.toNat))) 4 [.ref o, .int (iI x), .int (iI c), .int (iI i)] [] (mW Z o a M) 0 0 := by
    intro fuel
    induction fuel with
    | zero => intros; exfalso; omega
    | succ fuel ih =>
      intro c i hfu hi0 hi1 hc
      refine g_iload_n 3 dX9_seenAhead_4 rfl rfl ?_
      refine g_iload_n 1 dX9_seenAhead_5 rfl rfl ?_
      refine gi_icmp_ge 32 dX9_seenAhead_6 (by decide) (by first | exact hM _ _ | exact bI_Rg _ | exact ⟨by omega, by omega⟩) (by first | exact hM _ _ | exact bI_Rg _ | exact ⟨by omega, by omega⟩) (fun c6 => ?_) (fun c6 => ?_)
      · refine g_iload_n 2 dX9_seenAhead_32 rfl rfl ?_
        refine g_iret dX9_seenAhead_33 rfl (Nat.le_of_ble_eq_true rfl) (Nat.le_of_ble_eq_true rfl) ⟨_, _, rfl, rfl, ?_⟩
        refine ⟨rfl, ?_⟩
        rw [hc, show i = x by omega]
      · refine g_iload_n 2 dX9_seenAhead_9 rfl rfl ?_
        refine g_aload_n 0 dX9_seenAhead_10 rfl rfl ?_
        refine mg_18 dX9_seenAhead_11 rfl ?_
        refine g_iload_n 3 dX9_seenAhead_14 rfl rfl ?_
        refine ml_18 (hV i (by omega) (by omega)) dX9_seenAhead_15 (by omega) (by omega) ?_
        refine gi_if_eq 23 dX9_seenAhead_16 (by decide) (by first | exact hM _ _ | exact bI_Rg _ | exact ⟨by omega, by omega⟩) (fun c16 => ?_) (fun c16 => ?_)
        · refine g_iconst (iI 0) dX9_seenAhead_23 rfl ?_
          refine gi_add dX9_seenAhead_24 ?_
          refine g_istore_n 2 dX9_seenAhead_25 rfl (Nat.le_of_ble_eq_true rfl) (Nat.le_of_ble_eq_true rfl) rfl ?_
          dsimp only [sto]
          refine gi_inc dX9_seenAhead_26 rfl (Nat.le_of_ble_eq_true rfl) rfl ?_
          dsimp only [sto]
          refine g_goto 4 dX9_seenAhead_29 (by decide) ?_
          exact ih _ _ (by omega) (by omega) (by omega) (by
            rw [show (i + 1).toNat = i.toNat + 1 by omega, cntB, show ((i.toNat : Nat) : Int) = i by omega, ← hc]
            first | omega | (have := bI_1 c16; omega))
        · refine g_iconst (iI 1) dX9_seenAhead_19 rfl ?_
          refine g_goto 24 dX9_seenAhead_20 (by decide) ?_
          refine gi_add dX9_seenAhead_24 ?_
          refine g_istore_n 2 dX9_seenAhead_25 rfl (Nat.le_of_ble_eq_true rfl) (Nat.le_of_ble_eq_true rfl) rfl ?_
          dsimp only [sto]
          refine gi_inc dX9_seenAhead_26 rfl (Nat.le_of_ble_eq_true rfl) rfl ?_
          dsimp only [sto]
          refine g_goto 4 dX9_seenAhead_29 (by decide) ?_
          exact ih _ _ (by omega) (by omega) (by omega) (by
            rw [show (i + 1).toNat = i.toNat + 1 by omega, cntB, show ((i.toNat : Nat) : Int) = i by omega, ← hc]
            first | omega | (have := bI_1 c16; omega))
  refine g_iconst (iI 0) dX9_seenAhead_0 rfl ?_
  refine g_istore_n 2 dX9_seenAhead_1 rfl (Nat.le_of_ble_eq_true rfl) (Nat.le_of_ble_eq_true rfl) rfl ?_
  dsimp only [sto]
  refine g_iconst (iI 0) dX9_seenAhead_2 rfl ?_
  refine g_istore_n 3 dX9_seenAhead_3 rfl (Nat.le_of_ble_eq_true rfl) (Nat.le_of_ble_eq_true rfl) rfl ?_
  dsimp only [sto]
  exact loop (x.toNat + 1) 0 0 (by omega) (by omega) (by omega) rfl
end
section
/-! THE ORDER: the tree of signs, its walk, what filtering and a new put do to it -/
abbrev Lat (D : Mem) (s t : Int) : Prop := D 1 t < D 1 s ∨ (D 1 s = D 1 t ∧ D 0 t < D 0 s)
theorem laterB_iff {D : Mem} {s t : Int} : laterB D s t = true ↔ Lat D s t := by
  unfold laterB Lat
  split
  · rw [decide_eq_true_iff]; omega
  · rw [decide_eq_true_iff]; omega
theorem laterB_not {D : Mem} {s t : Int} : laterB D s t = false ↔ ¬ Lat D s t := by
  rw [← laterB_iff]; simp
def insR (D : Mem) (s : Int) : List Int → List Int
  | [] => [s]
  | t :: r => if laterB D t s = true then t :: insR D s r else s :: t :: r
def cand (D : Mem) (T : Int → Bool) (L s : Int) : Bool := T s && (decide (D 2 s = 0) && decide (D 6 s = L))
def pls (D : Mem) (T : Int → Bool) (L : Int) : Nat → List Int
  | 0 => []
  | s + 1 => if cand D T L s = true then insR D s (pls D T L s) else pls D T L s
def nmP (D : Mem) (P : Int) : List Int := (List.range (D 3 P).toNat).map (fun i : Nat => 4 * P + (i : Int))
def chl (D : Mem) (T : Int → Bool) (N : Nat) (L : Int) : List Int := (pls D T L N).flatMap (nmP D)
def kd (D : Mem) (T : Int → Bool) (N : Nat) : Nat → Int → List Int
  | 0, _ => []
  | d + 1, L => (chl D T N L).flatMap (fun x => x :: kd D T N d x)
def tT : Int → Bool := fun _ => true
def okO (D : Mem) (N : Nat) : Prop := (∀ s : Int, 0 ≤ s → s < N → D 2 s = 0 → 1 ≤ D 3 s ∧ D 3 s ≤ 3 ∧ (D 6 s = -2 ∨ (nameOK D s (D 6 s) ∧ Lat D s (D 6 s / 4)))) ∧ (∀ s t : Int, 0 ≤ s → s < N → 0 ≤ t → t < N → s ≠ t → Lat D s t ∨ Lat D t s)
theorem okO.mono {D : Mem} {N k : Nat} (h : okO D N) (hk : k ≤ N) : okO D k := ⟨fun s h0 h1 => h.1 s h0 (by omega), fun s t a b c d => h.2 s t a (by omega) c (by omega)⟩
theorem cand_iff {D : Mem} {T : Int → Bool} {L s : Int} : cand D T L s = true ↔ T s = true ∧ D 2 s = 0 ∧ D 6 s = L := by unfold cand; simp
theorem mem_insR {D : Mem} {s x : Int} : ∀ {l : List Int}, x ∈ insR D s l ↔ x = s ∨ x ∈ l := by
  intro l
  induction l with
  | nil => simp [insR]
  | cons t r ih =>
    unfold insR
    split
    · simp only [List.mem_cons, ih]
      constructor
      · rintro (h | h | h)
        · exact Or.inr (Or.inl h)
        · exact Or.inl h
        · exact Or.inr (Or.inr h)
      · rintro (h | h | h)
        · exact Or.inr (Or.inl h)
        · exact Or.inl h
        · exact Or.inr (Or.inr h)
    · simp
theorem mem_pls {D : Mem} {T : Int → Bool} {L x : Int} : ∀ {N : Nat}, x ∈ pls D T L N ↔ 0 ≤ x ∧ x < N ∧ cand D T L x = true := by
  intro N
  induction N with
  | zero => simp [pls]; omega
  | succ k ih =>
    unfold pls
    split
    · next hc =>
      rw [mem_insR, ih]
      constructor
      · rintro (h | h)
        · subst h; exact ⟨by omega, by omega, hc⟩
        · exact ⟨h.1, by omega, h.2.2⟩
      · rintro ⟨h0, h1, h2⟩
        by_cases e : x = k
        · exact Or.inl e
        · exact Or.inr ⟨h0, by omega, h2⟩
    · next hc =>
      rw [ih]
      constructor
      · rintro ⟨h0, h1, h2⟩; exact ⟨h0, by omega, h2⟩
      · rintro ⟨h0, h1, h2⟩
        by_cases e : x = k
        · subst e; exact absurd h2 hc
        · exact ⟨h0, by omega, h2⟩
theorem insR_srt {D : Mem} {s : Int} : ∀ {l : List Int}, l.Pairwise (Lat D) → (∀ t ∈ l, Lat D t s ∨ Lat D s t) → (insR D s l).Pairwise (Lat D) := by
  intro l
  induction l with
  | nil => intro _ _; simp [insR]
  | cons t r ih =>
    intro h hs
    have h2 := List.pairwise_cons.mp h
    unfold insR
    split
    · next hl =>
      refine List.pairwise_cons.mpr ⟨fun x hx => ?_, ih h2.2 (fun y hy => hs y (List.mem_cons_of_mem _ hy))⟩
      rcases mem_insR.mp hx with e | e
      · subst e; exact laterB_iff.mp hl
      · exact h2.1 x e
    · next hl =>
      have hst : Lat D s t := (hs t List.mem_cons_self).resolve_left (fun e => hl (laterB_iff.mpr e))
      refine List.pairwise_cons.mpr ⟨fun x hx => ?_, h⟩
      rcases List.mem_cons.mp hx with e | e
      · subst e; exact hst
      · have := h2.1 x e; omega
theorem pls_srt {D : Mem} {T : Int → Bool} {L : Int} {N : Nat} (hO : okO D N) : ∀ k : Nat, k ≤ N → (pls D T L k).Pairwise (Lat D) := by
  intro k
  induction k with
  | zero => intro _; simp [pls]
  | succ k ih =>
    intro hk
    unfold pls
    split
    · refine insR_srt (ih (by omega)) (fun t ht => ?_)
      have h2 := mem_pls.mp ht
      exact hO.2 t k h2.1 (by omega) (by omega) (by omega) (by omega)
    · exact ih (by omega)
theorem insR_filter {D : Mem} {T : Int → Bool} {s : Int} : ∀ {l : List Int}, l.Pairwise (Lat D) → (∀ t ∈ l, Lat D t s ∨ Lat D s t) → (insR D s l).filter T = if T s = true then insR D s (l.filter T) else l.filter T := by
  intro l
  induction l with
  | nil => intro _ _; simp only [insR, List.filter]; cases T s <;> simp
  | cons t r ih =>
    intro h hs
    have h2 := List.pairwise_cons.mp h
    have ihr := ih h2.2 (fun y hy => hs y (List.mem_cons_of_mem _ hy))
    rw [show insR D s (t :: r) = if laterB D t s = true then t :: insR D s r else s :: t :: r from rfl]
    by_cases hl : laterB D t s = true
    · rw [if_pos hl, List.filter_cons, ihr]
      cases hT : T t
      · rw [List.filter_cons, hT]; simp
      · cases T s
        · simp [List.filter_cons, hT]
        · simp [List.filter_cons, hT, insR, hl]
    · rw [if_neg hl]
      have hst : Lat D s t := (hs t List.mem_cons_self).resolve_left (fun e => hl (laterB_iff.mpr e))
      have hall : ∀ x ∈ (t :: r).filter T, ¬ laterB D x s = true := by
        intro x hx
        have hx2 := (List.mem_filter.mp hx).1
        rw [laterB_iff]
        rcases List.mem_cons.mp hx2 with e | e
        · subst e; omega
        · have := h2.1 x e; omega
      rw [List.filter_cons]
      cases hT : T s
      · simp
      · simp only [if_true]
        cases hf : (t :: r).filter T with
        | nil => rfl
        | cons y ys =>
          have := hall y (by rw [hf]; exact List.mem_cons_self)
          show s :: y :: ys = if laterB D y s = true then y :: insR D s ys else s :: y :: ys
          rw [if_neg this]
theorem pls_filter {D : Mem} {T : Int → Bool} {L : Int} {N : Nat} (hO : okO D N) : ∀ k : Nat, k ≤ N → pls D T L k = (pls D tT L k).filter T := by
  intro k
  induction k with
  | zero => intro _; rfl
  | succ k ih =>
    intro hk
    have hs : (pls D tT L k).Pairwise (Lat D) := pls_srt hO k (by omega)
    have ht : ∀ t ∈ pls D tT L k, Lat D t k ∨ Lat D k t := fun t ht => by
      have h2 := mem_pls.mp ht
      exact hO.2 t k h2.1 (by omega) (by omega) (by omega) (by omega)
    have hc : cand D T L k = (T k && cand D tT L k) := by unfold cand tT; simp
    unfold pls
    rw [hc]
    cases h1 : cand D tT L k
    · simp [ih (by omega)]
    · simp only [Bool.and_true, if_true]
      rw [insR_filter hs ht, ih (by omega)]
theorem mem_nmP {D : Mem} {P x : Int} (hP : 0 ≤ P) (h3 : D 3 P ≤ 3) : x ∈ nmP D P ↔ x / 4 = P ∧ x % 4 < D 3 P := by
  unfold nmP
  simp only [List.mem_map, List.mem_range]
  constructor
  · rintro ⟨i, hi, rfl⟩; omega
  · rintro ⟨h1, h2⟩; exact ⟨(x % 4).toNat, by omega, by omega⟩
theorem mem_chl {D : Mem} {T : Int → Bool} {N : Nat} (hO : okO D N) {L x : Int} : x ∈ chl D T N L ↔ 0 ≤ x / 4 ∧ x / 4 < N ∧ cand D T L (x / 4) = true ∧ x % 4 < D 3 (x / 4) := by
  unfold chl
  simp only [List.mem_flatMap]
  constructor
  · rintro ⟨P, hP, hx⟩
    have h1 := mem_pls.mp hP
    have h2 := hO.1 P h1.1 h1.2.1 (cand_iff.mp h1.2.2).2.1
    have h3 := (mem_nmP h1.1 h2.2.1).mp hx
    rw [h3.1]
    exact ⟨h1.1, h1.2.1, h1.2.2, h3.2⟩
  · rintro ⟨h0, h1, h2, h3⟩
    have h4 := hO.1 _ h0 h1 (cand_iff.mp h2).2.1
    exact ⟨x / 4, mem_pls.mpr ⟨h0, h1, h2⟩, (mem_nmP h0 h4.2.1).mpr ⟨rfl, h3⟩⟩
/-- a sign of a child: its put's link is L, later than L's put, with a greater number -/
theorem chl_up {D : Mem} {T : Int → Bool} {N : Nat} (hO : okO D N) {L x : Int} (h : x ∈ chl D T N L) : 0 ≤ x ∧ x / 4 < N ∧ D 2 (x / 4) = 0 ∧ D 6 (x / 4) = L ∧ T (x / 4) = true ∧ x % 4 < D 3 (x / 4) ∧ (L = -2 ∨ (0 ≤ L ∧ L / 4 < x / 4 ∧ Lat D (x / 4) (L / 4))) := by
  obtain ⟨h0, h1, h2, h3⟩ := (mem_chl hO).mp h
  obtain ⟨c1, c2, c3⟩ := cand_iff.mp h2
  have h4 := hO.1 _ h0 h1 c2
  refine ⟨by omega, h1, c2, c3, c1, h3, ?_⟩
  rw [c3] at h4
  rcases h4.2.2 with e | e
  · exact Or.inl e
  · exact Or.inr ⟨e.1.1, e.1.2.1, e.2⟩
theorem kd_up {D : Mem} {T : Int → Bool} {N : Nat} (hO : okO D N) : ∀ (d : Nat) (L x : Int), x ∈ kd D T N d L → (0 ≤ x ∧ x / 4 < N ∧ D 2 (x / 4) = 0 ∧ T (x / 4) = true ∧ x % 4 < D 3 (x / 4)) ∧ (L = -2 ∨ (0 ≤ L ∧ L / 4 < x / 4 ∧ Lat D (x / 4) (L / 4))) := by
  intro d
  induction d with
  | zero => intro L x h; simp [kd] at h
  | succ d ih =>
    intro L x h
    unfold kd at h
    obtain ⟨y, hy, hx⟩ := List.mem_flatMap.mp h
    have hu := chl_up hO hy
    rcases List.mem_cons.mp hx with e | e
    · subst e
      exact ⟨⟨hu.1, hu.2.1, hu.2.2.1, hu.2.2.2.2.1, hu.2.2.2.2.2.1⟩, hu.2.2.2.2.2.2⟩
    · obtain ⟨h1, h3⟩ := ih y x e
      have h3 := h3.resolve_left (by omega)
      refine ⟨h1, ?_⟩
      rcases hu.2.2.2.2.2.2 with e | e
      · exact Or.inl e
      · refine Or.inr ⟨e.1, by omega, ?_⟩
        have := e.2.2; have := h3.2.2; omega
theorem kd_one {D : Mem} {T : Int → Bool} {N d : Nat} {L x : Int} (h : x ∈ chl D T N L) : x ∈ kd D T N (d + 1) L := by
  unfold kd
  exact List.mem_flatMap.mpr ⟨x, h, List.mem_cons_self⟩
theorem kd_sub {D : Mem} {T : Int → Bool} {N d : Nat} {L x y : Int} (h : x ∈ chl D T N L) (hy : y ∈ kd D T N d x) : y ∈ kd D T N (d + 1) L := by
  unfold kd
  exact List.mem_flatMap.mpr ⟨x, h, List.mem_cons_of_mem _ hy⟩
theorem kd_down {D : Mem} {T : Int → Bool} {N : Nat} : ∀ (d : Nat) (L w z : Int), w ∈ kd D T N d L → z ∈ chl D T N w → z ∈ kd D T N (d + 1) L := by
  intro d
  induction d with
  | zero => intro L w z h; simp [kd] at h
  | succ d ih =>
    intro L w z h hz
    unfold kd at h
    obtain ⟨y, hy, hx⟩ := List.mem_flatMap.mp h
    rcases List.mem_cons.mp hx with e | e
    · subst e; exact kd_sub hy (kd_one hz)
    · exact kd_sub hy (ih y w z e hz)
theorem kd_par {D : Mem} {T : Int → Bool} {N : Nat} : ∀ (d : Nat) (y z : Int), z ∈ kd D T N d y → ∃ (w : Int) (e : Nat), z ∈ chl D T N w ∧ (w = y ∨ w ∈ kd D T N e y) := by
  intro d
  induction d with
  | zero => intro y z h; simp [kd] at h
  | succ d ih =>
    intro y z h
    unfold kd at h
    obtain ⟨v, hv, hx⟩ := List.mem_flatMap.mp h
    rcases List.mem_cons.mp hx with e | e
    · subst e; exact ⟨y, 0, hv, Or.inl rfl⟩
    · obtain ⟨w, e2, h1, h2⟩ := ih v z e
      rcases h2 with h2 | h2
      · subst h2; exact ⟨w, 1, h1, Or.inr (kd_one hv)⟩
      · exact ⟨w, e2 + 1, h1, Or.inr (kd_sub hv h2)⟩
/-- two children of one sign (or of the edge) have nothing in common below them -/
theorem kd_apart {D : Mem} {T : Int → Bool} {N : Nat} (hO : okO D N) {L x y : Int} (hx : x ∈ chl D T N L) (hy : y ∈ chl D T N L) : ∀ (m : Nat) (z : Int), z / 4 ≤ m → ∀ (d e : Nat), (z = x ∨ z ∈ kd D T N d x) → (z = y ∨ z ∈ kd D T N e y) → x = y := by
  have ux := chl_up hO hx
  have uy := chl_up hO hy
  have one : ∀ (x y : Int), x ∈ chl D T N L → y ∈ chl D T N L → ∀ e : Nat, x ∈ kd D T N e y → False := by
    intro x y hx hy e he
    have ux := chl_up hO hx
    have uy := chl_up hO hy
    obtain ⟨w, e2, h1, h2⟩ := kd_par e y x he
    have uw := chl_up hO h1
    have hw : w = L := by rw [← uw.2.2.2.1, ux.2.2.2.1]
    subst hw
    rcases h2 with h2 | h2
    · subst h2
      rcases uy.2.2.2.2.2.2 with h | h <;> omega
    · have hk := kd_up hO e2 y w h2
      have hk2 := hk.2.resolve_left (by omega)
      rcases uy.2.2.2.2.2.2 with h | h <;> omega
  intro m
  induction m with
  | zero =>
    intro z hz d e h1 h2
    rcases h1 with h1 | h1
    · rcases h2 with h2 | h2
      · rw [← h1, ← h2]
      · subst h1; exact (one z y hx hy e h2).elim
    · have h3 := (kd_up hO d x z h1).2.resolve_left (by omega); omega
  | succ m ih =>
    intro z hz d e h1 h2
    rcases h1 with h1 | h1
    · rcases h2 with h2 | h2
      · rw [← h1, ← h2]
      · subst h1; exact (one z y hx hy e h2).elim
    · rcases h2 with h2 | h2
      · subst h2; exact (one z x hy hx d h1).elim
      · obtain ⟨w, d2, a1, a2⟩ := kd_par d x z h1
        obtain ⟨v, e2, b1, b2⟩ := kd_par e y z h2
        have uw := chl_up hO a1
        have uv := chl_up hO b1
        have hw : w = v := by rw [← uw.2.2.2.1, uv.2.2.2.1]
        subst hw
        have hwz : w / 4 < z / 4 := by
          rcases uw.2.2.2.2.2.2 with h | h
          · subst h
            rcases a2 with a2 | a2
            · omega
            · have := (kd_up hO d2 x (-2) a2).1; omega
          · omega
        exact ih w (by omega) d2 e2 a2 b2
theorem chl_nil {D : Mem} {T : Int → Bool} {N : Nat} (hO : okO D N) {L : Int} (h : (N : Int) ≤ L / 4) : chl D T N L = [] := by
  cases hc : chl D T N L with
  | nil => rfl
  | cons x r =>
    exfalso
    have hu := chl_up hO (x := x) (L := L) (T := T) (by rw [hc]; exact List.mem_cons_self)
    rcases hu.2.2.2.2.2.2 with e | e <;> omega
theorem flatMap_congr {l : List Int} {f g : Int → List Int} (h : ∀ x ∈ l, f x = g x) : l.flatMap f = l.flatMap g := by
  induction l with
  | nil => rfl
  | cons a t ih => rw [List.flatMap_cons, List.flatMap_cons, h a List.mem_cons_self, ih (fun x hx => h x (List.mem_cons_of_mem _ hx))]
theorem kd_st {D : Mem} {T : Int → Bool} {N : Nat} (hO : okO D N) : ∀ (d e : Nat) (L : Int), (N : Int) - L / 4 ≤ d → (N : Int) - L / 4 ≤ e → kd D T N d L = kd D T N e L := by
  have nil : ∀ (e : Nat) (L : Int), (N : Int) ≤ L / 4 → kd D T N e L = [] := by
    intro e L h
    cases e with
    | zero => rfl
    | succ e => unfold kd; rw [chl_nil hO h]; rfl
  intro d
  induction d with
  | zero => intro e L h1 h2; rw [nil 0 L (by omega), nil e L (by omega)]
  | succ d ih =>
    intro e L h1 h2
    cases e with
    | zero => rw [nil 0 L (by omega), nil _ L (by omega)]
    | succ e =>
      unfold kd
      refine flatMap_congr (fun x hx => ?_)
      have hu := chl_up hO hx
      rw [ih e x (by rcases hu.2.2.2.2.2.2 with h | h <;> omega) (by rcases hu.2.2.2.2.2.2 with h | h <;> omega)]
def KD (D : Mem) (T : Int → Bool) (N : Nat) : Int → List Int := kd D T N 300
theorem KD_eq {D : Mem} {T : Int → Bool} {N : Nat} (hO : okO D N) (hN : N ≤ 256) {L : Int} (hL : -2 ≤ L) : KD D T N L = (chl D T N L).flatMap (fun x => x :: KD D T N x) := by
  unfold KD
  rw [kd_st hO 300 301 L (by omega) (by omega)]
  rfl
theorem kd_full {D : Mem} {N : Nat} (hO : okO D N) : ∀ (m : Nat) (z : Int), z / 4 ≤ m → 0 ≤ z → z / 4 < N → D 2 (z / 4) = 0 → z % 4 < D 3 (z / 4) → ∀ d : Nat, z / 4 < d → z ∈ kd D tT N d (-2) := by
  intro m
  induction m with
  | zero =>
    intro z h h0 h1 h2 h3 d hd
    cases d with
    | zero => omega
    | succ d =>
      refine kd_one ((mem_chl hO).mpr ⟨by omega, h1, cand_iff.mpr ⟨rfl, h2, ?_⟩, h3⟩)
      rcases (hO.1 _ (by omega) h1 h2).2.2 with e | e
      · exact e
      · have := e.1; omega
  | succ m ih =>
    intro z h h0 h1 h2 h3 d hd
    cases d with
    | zero => omega
    | succ d =>
      rcases (hO.1 _ (by omega) h1 h2).2.2 with e | ⟨e, -⟩
      · exact kd_one ((mem_chl hO).mpr ⟨by omega, h1, cand_iff.mpr ⟨rfl, h2, e⟩, h3⟩)
      · exact kd_down d (-2) (D 6 (z / 4)) z (ih _ (by omega) e.1 (by omega) e.2.2.1 e.2.2.2 d (by omega)) ((mem_chl hO).mpr ⟨by omega, h1, cand_iff.mpr ⟨rfl, h2, rfl⟩, h3⟩)
/-! filtering -/
theorem kd_closed {D : Mem} {N : Nat} (hO : okO D N) {T : Int → Bool} (hT : ∀ P : Int, 0 ≤ P → P < N → D 2 P = 0 → T P = true → 0 ≤ D 6 P → T (D 6 P / 4) = true) : ∀ (d : Nat) (L x : Int), x ∈ kd D tT N d L → T (x / 4) = true → L = -2 ∨ T (L / 4) = true := by
  have one : ∀ (L x : Int), x ∈ chl D tT N L → T (x / 4) = true → L = -2 ∨ T (L / 4) = true := by
    intro L x hx h
    have hu := chl_up hO hx
    rcases hu.2.2.2.2.2.2 with e | e
    · exact Or.inl e
    · refine Or.inr ?_
      have := hT (x / 4) (by omega) hu.2.1 hu.2.2.1 h (by rw [hu.2.2.2.1]; exact e.1)
      rwa [hu.2.2.2.1] at this
  intro d
  induction d with
  | zero => intro L x h; simp [kd] at h
  | succ d ih =>
    intro L x h hx
    unfold kd at h
    obtain ⟨y, hy, hm⟩ := List.mem_flatMap.mp h
    rcases List.mem_cons.mp hm with e | e
    · subst e; exact one L x hy hx
    · have hu := chl_up hO hy
      exact one L y hy ((ih y x e hx).resolve_left (by omega))
theorem filter_nil {l : List Int} {q : Int → Bool} (h : ∀ x ∈ l, q x = false) : l.filter q = [] := by
  induction l with
  | nil => rfl
  | cons a t ih => rw [List.filter_cons, h a List.mem_cons_self]; simpa using ih (fun x hx => h x (List.mem_cons_of_mem _ hx))
theorem filter_id {l : List Int} {q : Int → Bool} (h : ∀ x ∈ l, q x = true) : l.filter q = l := by
  induction l with
  | nil => rfl
  | cons a t ih => rw [List.filter_cons, h a List.mem_cons_self]; simp [ih (fun x hx => h x (List.mem_cons_of_mem _ hx))]
theorem filter_flatMap' {l : List Int} {f : Int → List Int} {q : Int → Bool} : (l.flatMap f).filter q = l.flatMap (fun x => (f x).filter q) := by
  induction l with
  | nil => rfl
  | cons a t ih => rw [List.flatMap_cons, List.flatMap_cons, List.filter_append, ih]
theorem flatMap_filter' {l : List Int} {f g : Int → List Int} {q : Int → Bool} (h1 : ∀ x ∈ l, q x = true → g x = f x) (h2 : ∀ x ∈ l, q x = false → g x = []) : (l.filter q).flatMap f = l.flatMap g := by
  induction l with
  | nil => rfl
  | cons a t ih =>
    have ih2 := ih (fun x hx => h1 x (List.mem_cons_of_mem _ hx)) (fun x hx => h2 x (List.mem_cons_of_mem _ hx))
    rw [List.filter_cons, List.flatMap_cons]
    cases hq : q a
    · rw [h2 a List.mem_cons_self hq]; simpa using ih2
    · simp only [if_true, List.flatMap_cons]; rw [h1 a List.mem_cons_self hq, ih2]
theorem chl_filter {D : Mem} {N : Nat} (hO : okO D N) (T : Int → Bool) (L : Int) : chl D T N L = (chl D tT N L).filter (fun x => T (x / 4)) := by
  unfold chl
  rw [filter_flatMap', pls_filter hO N (Nat.le_refl _)]
  refine flatMap_filter' (fun P hP hq => filter_id (fun x hx => ?_)) (fun P hP hq => filter_nil (fun x hx => ?_))
  · have h1 := mem_pls.mp hP
    have h2 := hO.1 P h1.1 h1.2.1 (cand_iff.mp h1.2.2).2.1
    rw [((mem_nmP h1.1 h2.2.1).mp hx).1]; exact hq
  · have h1 := mem_pls.mp hP
    have h2 := hO.1 P h1.1 h1.2.1 (cand_iff.mp h1.2.2).2.1
    rw [((mem_nmP h1.1 h2.2.1).mp hx).1]; exact hq
theorem kd_filter {D : Mem} {N : Nat} (hO : okO D N) {T : Int → Bool} (hT : ∀ P : Int, 0 ≤ P → P < N → D 2 P = 0 → T P = true → 0 ≤ D 6 P → T (D 6 P / 4) = true) : ∀ (d : Nat) (L : Int), kd D T N d L = (kd D tT N d L).filter (fun x => T (x / 4)) := by
  intro d
  induction d with
  | zero => intro L; rfl
  | succ d ih =>
    intro L
    unfold kd
    rw [filter_flatMap', chl_filter hO T L]
    refine flatMap_filter' (fun x hx hq => ?_) (fun x hx hq => ?_)
    · rw [List.filter_cons, hq, ih x]; rfl
    · rw [List.filter_cons, hq]
      have hu := chl_up hO hx
      simp only [Bool.false_eq_true, if_false]
      refine filter_nil (fun y hy => ?_)
      cases hc : T (y / 4)
      · rfl
      · have := (kd_closed hO hT d x y hy hc).resolve_left (by omega)
        rw [hq] at this
        exact this.symm
/-! a new put -/
theorem insR_split {D : Mem} {s : Int} : ∀ l : List Int, insR D s l = l.takeWhile (fun t => laterB D t s) ++ s :: l.dropWhile (fun t => laterB D t s) := by
  intro l
  induction l with
  | nil => rfl
  | cons t r ih =>
    rw [show insR D s (t :: r) = if laterB D t s = true then t :: insR D s r else s :: t :: r from rfl, List.takeWhile_cons, List.dropWhile_cons]
    cases laterB D t s
    · rfl
    · simp [ih]
def sk (D : Mem) (k : Int) (l : List Int) : List Int := l.takeWhile (fun y => laterB D (y / 4) k) ++ (nmP D k ++ l.dropWhile (fun y => laterB D (y / 4) k))
def insA (D : Mem) (k L : Int) : List Int → List Int
  | [] => []
  | x :: t => if x = L then x :: sk D k t else x :: insA D k L t
theorem insA_app {D : Mem} {k L : Int} : ∀ (l r : List Int), L ∉ l → insA D k L (l ++ r) = l ++ insA D k L r := by
  intro l
  induction l with
  | nil => intro r _; rfl
  | cons x t ih =>
    intro r h
    have h1 : ¬ x = L := fun e => h (by rw [e]; exact List.mem_cons_self)
    rw [List.cons_append, insA, if_neg h1, ih r (fun hm => h (List.mem_cons_of_mem _ hm)), List.cons_append]
theorem tw_split {q : Int → Bool} : ∀ (l r : List Int), (∀ y ∈ l, q y = true) → (∀ y, r.head? = some y → q y = false) → (l ++ r).takeWhile q = l ∧ (l ++ r).dropWhile q = r := by
  intro l
  induction l with
  | nil =>
    intro r _ h
    cases r with
    | nil => exact ⟨rfl, rfl⟩
    | cons y t => have := h y rfl; simp [List.takeWhile_cons, List.dropWhile_cons, this]
  | cons x t ih =>
    intro r h1 h2
    have := ih r (fun y hy => h1 y (List.mem_cons_of_mem _ hy)) h2
    rw [List.cons_append, List.takeWhile_cons, List.dropWhile_cons, h1 x List.mem_cons_self]
    simp [this.1, this.2]
theorem tw_all {q : Int → Bool} : ∀ (l : List Int), ∀ y ∈ l.takeWhile q, q y = true := by
  intro l
  induction l with
  | nil => intro y h; simp at h
  | cons x t ih =>
    intro y h
    rw [List.takeWhile_cons] at h
    cases hx : q x
    · rw [hx] at h; simp at h
    · rw [hx] at h
      rcases List.mem_cons.mp h with e | e
      · subst e; exact hx
      · exact ih y e
theorem dw_head {q : Int → Bool} : ∀ (l : List Int) (y : Int), (l.dropWhile q).head? = some y → q y = false := by
  intro l
  induction l with
  | nil => intro y h; simp at h
  | cons x t ih =>
    intro y h
    rw [List.dropWhile_cons] at h
    cases hx : q x
    · rw [hx] at h; simp at h; rw [← h]; exact hx
    · rw [hx] at h; exact ih y h
theorem pls_new {D : Mem} {T : Int → Bool} {L : Int} {k : Nat} (h : ¬ (D 2 k = 0 ∧ D 6 k = L)) : pls D T L (k + 1) = pls D T L k := by
  unfold pls
  rw [if_neg]
  · cases k <;> rfl
  · intro hc
    exact h (cand_iff.mp hc).2
theorem kd_new0 {D : Mem} {T : Int → Bool} {k : Nat} (h : ¬ D 2 k = 0) : ∀ (d : Nat) (L : Int), kd D T (k + 1) d L = kd D T k d L := by
  intro d
  induction d with
  | zero => intro L; rfl
  | succ d ih =>
    intro L
    unfold kd chl
    rw [pls_new (fun e => h e.1)]
    exact flatMap_congr (fun x _ => by rw [ih x])
end
section
/-! THE ORDER with a new put k: its signs come behind its left, behind all that is later -/
section NewPut
variable {D : Mem} {k : Nat}
theorem kd_newB (hO : okO D (k + 1)) : ∀ (d : Nat) (L : Int), L ≠ D 6 k → D 6 k ∉ kd D tT k d L → kd D tT (k + 1) d L = kd D tT k d L := by
  intro d
  induction d with
  | zero => intro L _ _; rfl
  | succ d ih =>
    intro L hL hn
    have hc : chl D tT (k + 1) L = chl D tT k L := by unfold chl; rw [pls_new (fun e => hL e.2.symm)]
    have hb : ∀ x ∈ chl D tT k L, kd D tT (k + 1) d x = kd D tT k d x := fun x hx => ih x (fun e => hn (e ▸ kd_one hx)) (fun hm => hn (kd_sub hx hm))
    show (chl D tT (k + 1) L).flatMap (fun x => x :: kd D tT (k + 1) d x) = (chl D tT k L).flatMap (fun x => x :: kd D tT k d x)
    rw [hc]
    exact flatMap_congr (fun x hx => by rw [hb x hx])
theorem chl_k (hO : okO D (k + 1)) {x : Int} (hx : x / 4 = k) : chl D tT (k + 1) x = [] := by
  cases hc : chl D tT (k + 1) x with
  | nil => rfl
  | cons y r =>
    exfalso
    have hu := chl_up hO (x := y) (L := x) (T := tT) (by rw [hc]; exact List.mem_cons_self)
    rcases hu.2.2.2.2.2.2 with e | e <;> omega
theorem kd_k (hO : okO D (k + 1)) {x : Int} (hx : x / 4 = k) (d : Nat) : kd D tT (k + 1) d x = [] := by
  cases d with
  | zero => rfl
  | succ d =>
    show (chl D tT (k + 1) x).flatMap (fun x => x :: kd D tT (k + 1) d x) = []
    rw [chl_k hO hx]; rfl
theorem kd_blk (hO : okO D (k + 1)) (h2 : D 2 k = 0) (d : Nat) : (nmP D k).flatMap (fun x => x :: kd D tT (k + 1) d x) = nmP D k := by
  have h3 := hO.1 k (by omega) (by omega) h2
  have : ∀ l : List Int, (∀ x ∈ l, x / 4 = k) → l.flatMap (fun x => x :: kd D tT (k + 1) d x) = l := by
    intro l
    induction l with
    | nil => intro _; rfl
    | cons a t ih =>
      intro h
      rw [List.flatMap_cons, ih (fun x hx => h x (List.mem_cons_of_mem _ hx)), kd_k hO (h a List.mem_cons_self)]
      rfl
  exact this _ (fun x hx => ((mem_nmP (by omega) h3.2.1).mp hx).1)
theorem kd_newC (hO : okO D (k + 1)) (h2 : D 2 k = 0) (d : Nat) (Y : List Int) (hY : ∀ y, Y.head? = some y → laterB D (y / 4) k = false) : kd D tT (k + 1) (d + 1) (D 6 k) ++ Y = sk D k (kd D tT k (d + 1) (D 6 k) ++ Y) := by
  have hOk : okO D k := hO.mono (by omega)
  have hc : cand D tT (D 6 k) k = true := cand_iff.mpr ⟨rfl, h2, rfl⟩
  have hp : pls D tT (D 6 k) (k + 1) = insR D k (pls D tT (D 6 k) k) := by
    show (if cand D tT (D 6 k) k = true then insR D k (pls D tT (D 6 k) k) else pls D tT (D 6 k) k) = _
    rw [if_pos hc]
  have hsame : ∀ x ∈ chl D tT k (D 6 k), kd D tT (k + 1) d x = kd D tT k d x := by
    intro x hx
    have hu := chl_up hOk hx
    refine kd_newB hO d x (fun e => ?_) (fun hm => ?_)
    · rcases hu.2.2.2.2.2.2 with h | h <;> omega
    · have hk := kd_up hOk d x _ hm
      have hk2 := hk.2.resolve_left (by omega)
      rcases hu.2.2.2.2.2.2 with h | h <;> omega
  obtain ⟨A, hA⟩ : ∃ A, A = (pls D tT (D 6 k) k).takeWhile (fun t => laterB D t k) := ⟨_, rfl⟩
  obtain ⟨B, hB⟩ : ∃ B, B = (pls D tT (D 6 k) k).dropWhile (fun t => laterB D t k) := ⟨_, rfl⟩
  have hAB : pls D tT (D 6 k) k = A ++ B := by rw [hA, hB, List.takeWhile_append_dropWhile]
  have hsub : ∀ P ∈ A ++ B, ∀ x ∈ nmP D P, x ∈ chl D tT k (D 6 k) := by
    intro P hP x hx
    unfold chl
    rw [hAB]
    exact List.mem_flatMap.mpr ⟨P, hP, hx⟩
  have hg : kd D tT (k + 1) (d + 1) (D 6 k) = (A.flatMap (nmP D)).flatMap (fun x => x :: kd D tT k d x) ++ (nmP D k ++ (B.flatMap (nmP D)).flatMap (fun x => x :: kd D tT k d x)) := by
    show (chl D tT (k + 1) (D 6 k)).flatMap (fun x => x :: kd D tT (k + 1) d x) = _
    unfold chl
    rw [hp, insR_split, ← hA, ← hB, List.flatMap_append, List.flatMap_cons, List.flatMap_append, List.flatMap_append, kd_blk hO h2]
    congr 1
    · refine flatMap_congr (fun x hx => ?_)
      obtain ⟨P, hP, hx2⟩ := List.mem_flatMap.mp hx
      rw [hsame x (hsub P (List.mem_append_left _ hP) x hx2)]
    · congr 1
      refine flatMap_congr (fun x hx => ?_)
      obtain ⟨P, hP, hx2⟩ := List.mem_flatMap.mp hx
      rw [hsame x (hsub P (List.mem_append_right _ hP) x hx2)]
  have hf : kd D tT k (d + 1) (D 6 k) = (A.flatMap (nmP D)).flatMap (fun x => x :: kd D tT k d x) ++ (B.flatMap (nmP D)).flatMap (fun x => x :: kd D tT k d x) := by
    show (chl D tT k (D 6 k)).flatMap (fun x => x :: kd D tT k d x) = _
    unfold chl
    rw [hAB, List.flatMap_append, List.flatMap_append]
  have hall : ∀ y ∈ (A.flatMap (nmP D)).flatMap (fun x => x :: kd D tT k d x), laterB D (y / 4) k = true := by
    intro y hy
    obtain ⟨x, hx, hy2⟩ := List.mem_flatMap.mp hy
    obtain ⟨P, hP, hx2⟩ := List.mem_flatMap.mp hx
    have hPl : laterB D P k = true := by rw [hA] at hP; exact tw_all _ P hP
    have hm := mem_pls.mp (show P ∈ pls D tT (D 6 k) k by rw [hAB]; exact List.mem_append_left _ hP)
    have hsz := hOk.1 P hm.1 hm.2.1 (cand_iff.mp hm.2.2).2.1
    have hxP := ((mem_nmP hm.1 hsz.2.1).mp hx2).1
    rcases List.mem_cons.mp hy2 with e | e
    · subst e; rw [hxP]; exact hPl
    · have hk := kd_up hOk d x y e
      have hk2 := hk.2.resolve_left (by omega)
      rw [laterB_iff] at hPl ⊢
      have := hk2.2.2
      rw [hxP] at this
      omega
  have hhd : ∀ y, ((B.flatMap (nmP D)).flatMap (fun x => x :: kd D tT k d x) ++ Y).head? = some y → laterB D (y / 4) k = false := by
    intro y hy
    cases hBc : B with
    | nil => rw [hBc] at hy; exact hY y (by simpa using hy)
    | cons P r =>
      have hPm : P ∈ pls D tT (D 6 k) k := by rw [hAB, hBc]; simp
      have hm := mem_pls.mp hPm
      have hsz := hOk.1 P hm.1 hm.2.1 (cand_iff.mp hm.2.2).2.1
      have hPl : laterB D P k = false := dw_head (pls D tT (D 6 k) k) P (by rw [← hB, hBc]; rfl)
      have hn : nmP D P = 4 * P :: (nmP D P).tail := by
        unfold nmP
        rw [show (D 3 P).toNat = ((D 3 P).toNat - 1) + 1 by omega, List.range_succ_eq_map]
        simp
      rw [hBc, List.flatMap_cons, hn] at hy
      simp at hy
      rw [← hy, show 4 * P / 4 = P by omega]
      exact hPl
  rw [hg, hf, List.append_assoc, List.append_assoc, List.append_assoc]
  unfold sk
  rw [(tw_split _ _ hall hhd).1, (tw_split _ _ hall hhd).2]
theorem chl_pw (hO : okO D k) (T : Int → Bool) (L : Int) : (chl D T k L).Pairwise (fun x y => Lat D (x / 4) (y / 4) ∨ (x / 4 = y / 4 ∧ x < y)) := by
  have : ∀ l : List Int, l.Pairwise (Lat D) → (∀ P ∈ l, 0 ≤ P ∧ D 3 P ≤ 3) → (l.flatMap (nmP D)).Pairwise (fun x y => Lat D (x / 4) (y / 4) ∨ (x / 4 = y / 4 ∧ x < y)) := by
    intro l
    induction l with
    | nil => intro _ _; simp
    | cons P t ih =>
      intro h hs
      have h2 := List.pairwise_cons.mp h
      have hP := hs P List.mem_cons_self
      rw [List.flatMap_cons]
      refine List.pairwise_append.mpr ⟨?_, ih h2.2 (fun q hq => hs q (List.mem_cons_of_mem _ hq)), ?_⟩
      · unfold nmP
        refine List.pairwise_map.mpr ((List.pairwise_lt_range (n := (D 3 P).toNat)).imp_of_mem ?_)
        intro a b ha hb hab
        have := List.mem_range.mp ha
        have := List.mem_range.mp hb
        right
        omega
      · intro x hx y hy
        obtain ⟨q, hq, hy2⟩ := List.mem_flatMap.mp hy
        have hqs := hs q (List.mem_cons_of_mem _ hq)
        rw [((mem_nmP hP.1 hP.2).mp hx).1, ((mem_nmP hqs.1 hqs.2).mp hy2).1]
        exact Or.inl (h2.1 q hq)
  refine this _ (pls_srt hO k (Nat.le_refl _)) (fun P hP => ?_)
  have hm := mem_pls.mp hP
  exact ⟨hm.1, (hO.1 P hm.1 hm.2.1 (cand_iff.mp hm.2.2).2.1).2.1⟩
theorem kd_newD (hO : okO D (k + 1)) (h2 : D 2 k = 0) (h6 : 0 ≤ D 6 k) : ∀ (d : Nat) (L : Int) (Y : List Int), (k : Int) + 1 - L / 4 ≤ d → L ≠ D 6 k → D 6 k ∈ kd D tT k d L → (∀ y, Y.head? = some y → laterB D (y / 4) k = false) → kd D tT (k + 1) d L ++ Y = insA D k (D 6 k) (kd D tT k d L ++ Y) := by
  have hOk : okO D k := hO.mono (by omega)
  have hl6 : nameOK D k (D 6 k) ∧ Lat D k (D 6 k / 4) := ((hO.1 k (by omega) (by omega) h2).2.2).resolve_left (by omega)
  intro d
  induction d with
  | zero => intro L Y _ _ h; simp [kd] at h
  | succ d ih =>
    intro L Y hd hL hm hY
    have hc : chl D tT (k + 1) L = chl D tT k L := by unfold chl; rw [pls_new (fun e => hL e.2.symm)]
    have hm2 : D 6 k ∈ (chl D tT k L).flatMap (fun x => x :: kd D tT k d x) := hm
    obtain ⟨x0, hx0, hx0m⟩ := List.mem_flatMap.mp hm2
    have hx0m : D 6 k = x0 ∨ D 6 k ∈ kd D tT k d x0 := List.mem_cons.mp hx0m
    obtain ⟨X1, X2, hX⟩ := List.append_of_mem hx0
    have hpw := chl_pw hOk tT L
    rw [hX] at hpw
    have hpw2 := List.pairwise_append.mp hpw
    have hpw3 := List.pairwise_cons.mp hpw2.2.1
    have hu0 := chl_up hOk hx0
    have hne : ∀ x, x ∈ X1 ∨ x ∈ X2 → x ≠ x0 := by
      intro x hx e
      subst e
      rcases hx with hx | hx
      · have := hpw2.2.2 x hx x List.mem_cons_self; omega
      · have := hpw3.1 x hx; omega
    have hmem : ∀ x, x ∈ X1 ∨ x ∈ X2 → x ∈ chl D tT k L := by
      intro x hx
      rw [hX]
      rcases hx with hx | hx
      · exact List.mem_append_left _ hx
      · exact List.mem_append_right _ (List.mem_cons_of_mem _ hx)
    have hoff : ∀ x, x ∈ X1 ∨ x ∈ X2 → D 6 k ≠ x ∧ D 6 k ∉ kd D tT k d x := by
      intro x hx
      refine ⟨fun e => hne x hx ?_, fun e => hne x hx ?_⟩
      · exact kd_apart hOk (hmem x hx) hx0 (D 6 k / 4).toNat (D 6 k) (by omega) d d (Or.inl e) hx0m
      · exact kd_apart hOk (hmem x hx) hx0 (D 6 k / 4).toNat (D 6 k) (by omega) d d (Or.inr e) hx0m
    obtain ⟨F1, hF1⟩ : ∃ F1, F1 = X1.flatMap (fun x => x :: kd D tT k d x) := ⟨_, rfl⟩
    obtain ⟨F2, hF2⟩ : ∃ F2, F2 = X2.flatMap (fun x => x :: kd D tT k d x) := ⟨_, rfl⟩
    have hf : kd D tT k (d + 1) L = F1 ++ (x0 :: kd D tT k d x0 ++ F2) := by
      show (chl D tT k L).flatMap (fun x => x :: kd D tT k d x) = _
      rw [hX, List.flatMap_append, List.flatMap_cons, hF1, hF2]
    have hg : kd D tT (k + 1) (d + 1) L = F1 ++ (x0 :: kd D tT (k + 1) d x0 ++ F2) := by
      show (chl D tT (k + 1) L).flatMap (fun x => x :: kd D tT (k + 1) d x) = _
      rw [hc, hX, List.flatMap_append, List.flatMap_cons, hF1, hF2]
      congr 1
      · exact flatMap_congr (fun x hx => by rw [kd_newB hO d x (fun e => (hoff x (Or.inl hx)).1 e.symm) (hoff x (Or.inl hx)).2])
      · congr 1
        exact flatMap_congr (fun x hx => by rw [kd_newB hO d x (fun e => (hoff x (Or.inr hx)).1 e.symm) (hoff x (Or.inr hx)).2])
    have hF1n : D 6 k ∉ F1 := by
      intro h
      rw [hF1] at h
      obtain ⟨x, hx, hxm⟩ := List.mem_flatMap.mp h
      rcases List.mem_cons.mp hxm with e | e
      · exact (hoff x (Or.inl hx)).1 e
      · exact (hoff x (Or.inl hx)).2 e
    have hx0l : Lat D k (x0 / 4) := by
      rcases hx0m with e | e
      · rw [← e]; exact hl6.2
      · have := (kd_up hOk d x0 _ e).2.resolve_left (by omega)
        have h3 := this.2.2
        have h4 := hl6.2
        omega
    have hhd : ∀ y, (F2 ++ Y).head? = some y → laterB D (y / 4) k = false := by
      intro y hy
      cases hX2 : X2 with
      | nil => rw [hF2, hX2] at hy; exact hY y (by simpa using hy)
      | cons x1 r =>
        rw [hF2, hX2, List.flatMap_cons] at hy
        simp at hy
        subst hy
        rw [laterB_not]
        have := hpw3.1 x1 (by rw [hX2]; exact List.mem_cons_self)
        rcases this with h | h
        · omega
        · rw [← h.1]; omega
    rw [hg, hf, List.append_assoc, List.append_assoc, List.append_assoc, List.append_assoc, insA_app _ _ hF1n]
    congr 1
    by_cases e : x0 = D 6 k
    · have hd1 : ∃ d2, d = d2 + 1 := ⟨d - 1, by rcases hu0.2.2.2.2.2.2 with h | h <;> omega⟩
      obtain ⟨d2, hd2⟩ := hd1
      subst hd2
      rw [List.cons_append, List.cons_append, insA, if_pos e, e, kd_newC hO h2 d2 (F2 ++ Y) hhd]
    · rw [List.cons_append, List.cons_append, insA, if_neg e, ih x0 (F2 ++ Y) (by rcases hu0.2.2.2.2.2.2 with h | h <;> omega) e (hx0m.resolve_left (fun h => e h.symm)) hhd]
/-- the order of all slips before a new put, and behind it -/
theorem KD_new (hO : okO D (k + 1)) (hk : k < 256) (h2 : D 2 k = 0) : KD D tT (k + 1) (-2) = if D 6 k = -2 then sk D k (KD D tT k (-2)) else insA D k (D 6 k) (KD D tT k (-2)) := by
  unfold KD
  split
  · next h =>
    have := kd_newC hO h2 299 [] (fun y h => by simp at h)
    rw [h] at this
    simpa using this
  · next h =>
    have hl6 := ((hO.1 k (by omega) (by omega) h2).2.2).resolve_left h
    have hm : D 6 k ∈ kd D tT k 300 (-2) := kd_full (hO.mono (by omega)) (D 6 k / 4).toNat (D 6 k) (by have := hl6.1; omega) hl6.1.1 hl6.1.2.1 hl6.1.2.2.1 hl6.1.2.2.2 300 (by have := hl6.1; omega)
    have := kd_newD hO h2 hl6.1.1 300 (-2) [] (by omega) (fun e => h e.symm) hm (fun y h => by simp at h)
    simpa using this
theorem nmP_len (P : Int) : ((nmP D P).length : Int) = (D 3 P).toNat := by unfold nmP; simp
theorem sk_len (P : Int) (l : List Int) : (sk D P l).length = l.length + (nmP D P).length := by
  unfold sk
  have := congrArg List.length (List.takeWhile_append_dropWhile (p := fun y => laterB D (y / 4) P) (l := l))
  simp only [List.length_append] at this ⊢
  omega
theorem insA_len (P L : Int) : ∀ l : List Int, (insA D P L l).length ≤ l.length + (nmP D P).length := by
  intro l
  induction l with
  | nil => simp [insA]
  | cons x t ih =>
    unfold insA
    split
    · simp only [List.length_cons, sk_len]; omega
    · simp only [List.length_cons]; omega
end NewPut
theorem KD_len {D : Mem} {N : Nat} (hO : okO D N) (hN : N ≤ 256) : (KD D tT N (-2)).length ≤ 3 * N := by
  have : ∀ k : Nat, k ≤ N → (KD D tT k (-2)).length ≤ 3 * k := by
    intro k
    induction k with
    | zero =>
      intro _
      have h0 : ∀ (d : Nat) (L : Int), kd D tT 0 d L = [] := by
        intro d L
        cases d <;> rfl
      unfold KD
      rw [h0]; simp
    | succ k ih =>
      intro hk
      have ih := ih (by omega)
      by_cases h2 : D 2 k = 0
      · have hO2 := hO.mono (k := k + 1) hk
        have hs := hO2.1 k (by omega) (by omega) h2
        have hl := nmP_len (D := D) k
        rw [KD_new hO2 (by omega) h2]
        split
        · rw [sk_len]; omega
        · have := insA_len (D := D) k (D 6 k) (KD D tT k (-2)); omega
      · unfold KD at ih ⊢
        rw [kd_new0 h2]; omega
  exact this N (Nat.le_refl _)
end
section
/-! THE REFERENCE: the pile and the order -/
def PL (M : Mem) (B : List (Int × Int)) : Prop := M 23 0 = B.length ∧ ∀ (j : Nat) (q : Int × Int), B[j]? = some q → M 21 j = q.1 ∧ M 22 j = q.2
def OL (M : Mem) (F : List Int) : Prop := M 17 0 = F.length ∧ ∀ (j : Nat) (x : Int), F[j]? = some x → M 16 j = x
def z0 (s : Int) : Int × Int := (s, 0)
theorem insR_rev {D : Mem} {s : Int} (C : List Int) (i : Nat) (hi : i ≤ C.length) (h1 : ∀ (j : Nat) (x : Int), i ≤ j → C[j]? = some x → laterB D x s = true) (h2 : i = 0 ∨ ∃ x, C[i - 1]? = some x ∧ laterB D x s = false) : (insR D s C.reverse).reverse = C.take i ++ s :: C.drop i := by
  have e : C.reverse = (C.drop i).reverse ++ (C.take i).reverse := by rw [← List.reverse_append, List.take_append_drop]
  have ha : ∀ y ∈ (C.drop i).reverse, laterB D y s = true := by
    intro y hy
    obtain ⟨j, hj⟩ := List.getElem?_of_mem (List.mem_reverse.mp hy)
    rw [List.getElem?_drop] at hj
    exact h1 (i + j) y (by omega) hj
  have hb : ∀ y, (C.take i).reverse.head? = some y → laterB D y s = false := by
    intro y hy
    rcases h2 with h | ⟨x, hx, hl⟩
    · subst h; simp at hy
    · rw [List.head?_reverse, List.getLast?_eq_getElem?, List.length_take, Nat.min_eq_left hi] at hy
      have hlt : i - 1 < C.length := (List.getElem?_eq_some_iff.mp hx).1
      have h0 : i ≠ 0 := by
        intro h0; subst h0; simp at hy
      rw [List.getElem?_take_of_lt (by omega), hx] at hy
      cases hy; exact hl
  rw [insR_split, e, (tw_split _ _ ha hb).1, (tw_split _ _ ha hb).2]
  simp
theorem PL_ins {M1 M3 : Mem} {E : List (Int × Int)} (k : Nat) (s : Int) (hk : k ≤ E.length) (h1 : PL M1 E) (h23 : M3 23 0 = E.length + 1) (hlo : ∀ j : Nat, j < k → M3 21 j = M1 21 j ∧ M3 22 j = M1 22 j) (hk1 : M3 21 k = s ∧ M3 22 k = 0) (hhi : ∀ j : Nat, k < j → j ≤ E.length → M3 21 j = M1 21 ((j : Int) - 1) ∧ M3 22 j = M1 22 ((j : Int) - 1)) : PL M3 (E.take k ++ (s, 0) :: E.drop k) := by
  refine ⟨?_, fun j q hq => ?_⟩
  · rw [h23]; simp; omega
  · rcases Nat.lt_trichotomy j k with hj | hj | hj
    · rw [List.getElem?_append_left (by simp; omega), List.getElem?_take_of_lt hj] at hq
      rw [(hlo j hj).1, (hlo j hj).2]
      exact h1.2 j q hq
    · subst hj
      rw [List.getElem?_append_right (by simp; omega)] at hq
      have e : j - (List.take j E).length = 0 := by simp; omega
      rw [e] at hq
      cases hq
      exact hk1
    · rw [List.getElem?_append_right (by simp; omega)] at hq
      have e : j - (List.take k E).length = (j - k - 1) + 1 := by simp; omega
      rw [e, List.getElem?_cons_succ, List.getElem?_drop] at hq
      have hlt := (List.getElem?_eq_some_iff.mp hq).1
      have h2 := hhi j hj (by omega)
      have h3 := h1.2 (k + (j - k - 1)) q hq
      rw [h2.1, h2.2, show ((j : Int) - 1) = ((k + (j - k - 1) : Nat) : Int) by omega]
      exact h3
theorem pls_len {D : Mem} {T : Int → Bool} {L : Int} : ∀ (k m : Nat), k ≤ m → (pls D T L k).length ≤ (pls D T L m).length := by
  have one : ∀ (s : Int) (l : List Int), (insR D s l).length = l.length + 1 := by
    intro s l
    rw [insR_split]
    have := congrArg List.length (List.takeWhile_append_dropWhile (p := fun t => laterB D t s) (l := l))
    simp only [List.length_append, List.length_cons] at this ⊢
    omega
  intro k m hkm
  induction m with
  | zero => rw [show k = 0 by omega]; exact Nat.le_refl _
  | succ m ih =>
    by_cases e : k = m + 1
    · rw [e]; exact Nat.le_refl _
    · have := ih (by omega)
      have h2 : (pls D T L (m + 1)).length = (if cand D T L m = true then insR D m (pls D T L m) else pls D T L m).length := rfl
      rw [h2]
      split
      · rw [one]; omega
      · exact this
theorem pls_step {D : Mem} {T : Int → Bool} {L : Int} {s : Int} (h0 : 0 ≤ s) : pls D T L (s + 1).toNat = if cand D T L s = true then insR D s (pls D T L s.toNat) else pls D T L s.toNat := by
  rw [show (s + 1).toNat = s.toNat + 1 by omega, show pls D T L (s.toNat + 1) = if cand D T L ((s.toNat : Nat) : Int) = true then insR D ((s.toNat : Nat) : Int) (pls D T L s.toNat) else pls D T L s.toNat from rfl, show ((s.toNat : Nat) : Int) = s by omega]
theorem insR_len (D : Mem) (s : Int) (l : List Int) : (insR D s l).length = l.length + 1 := by
  rw [insR_split]
  have := congrArg List.length (List.takeWhile_append_dropWhile (p := fun t => laterB D t s) (l := l))
  simp only [List.length_append, List.length_cons] at this ⊢
  omega
set_option maxHeartbeats 4000000 in
set_option maxRecDepth 100000 in
/-- pilePuts -/
theorem c_pilePuts (Z : LZ) (o : Nat) (a : Nat → Nat) {D M : Mem} (hP : Pers D M) (hM : RM D) (hD : okP D) (x : Int) (hx : Rg x) (T : Int → Bool) (hT : ∀ t, 0 ≤ t → t < D 9 0 → M 14 t = bI (T t)) (B : List (Int × Int)) (hB : PL M B) (hlen : B.length + (pls D T x (D 9 0).toNat).length ≤ 800)  : Tn Z o a jX9_pilePuts [x] M (fun M2 => Fx [21, 22, 23] M M2 ∧ PL M2 (B ++ (pls D T x (D 9 0).toNat).reverse.map z0)) := by
  refine tr_of pn_X9_pilePuts (Nat.le_of_ble_eq_true rfl) (vI_catO o _) ?_
  show G Z jX9_pilePuts E0 (QM Z jX9_pilePuts (pV Z o a (fun M2 => Fx [21, 22, 23] M M2 ∧ PL M2 (B ++ (pls D T x (D 9 0).toNat).reverse.map z0)))) 0 [.ref o, .int (iI x)] [] (mW Z o a M) 0 0
  have hn := hD.2.1
  obtain ⟨f, hf⟩ : ∃ f : Int, f = B.length := ⟨_, rfl⟩
  have loop : ∀ (fuel : Nat) (s : Int) (M1 : Mem), D 9 0 - s < fuel → 0 ≤ s → s ≤ D 9 0 → Fx [21, 22, 23] M M1 → PL M1 (B ++ (pls D T x s.toNat).reverse.map z0) → G Z jX9_pilePuts E0 (QM Z jX9_pilePuts (pV Z o a (fun M2 => Fx [21, 22, 23] M M2 ∧ PL M2 (B ++ (pls D T x (D 9 0).toNat).reverse.map z0)))) 7 [.ref o, .int (iI x), .int (iI f), .int (iI s)] [] (mW Z o a M1) 0 0 := by
    intro fuel
    induction fuel with
    | zero => intros; exfalso; omega
    | succ fuel ih0 =>
      intro s M1 hfu hs0 hs1 hF hE1
      by_cases hlt : s < D 9 0
      · have nxt : ∀ (M2 : Mem) (xs : List Value), Fx [21, 22, 23] M M2 → PL M2 (B ++ (pls D T x (s + 1).toNat).reverse.map z0) → G Z jX9_pilePuts E0 (QM Z jX9_pilePuts (pV Z o a (fun M2 => Fx [21, 22, 23] M M2 ∧ PL M2 (B ++ (pls D T x (D 9 0).toNat).reverse.map z0)))) 136 (.ref o :: .int (iI x) :: .int (iI f) :: .int (iI s) :: xs) [] (mW Z o a M2) 0 0 := by
          intro M2 xs hF hE
          refine gi_inc dX9_pilePuts_136 rfl (Nat.le_of_ble_eq_true rfl) rfl ?_
          dsimp only [sto]
          refine g_goto 7 dX9_pilePuts_139 (by decide) ?_
          refine g_drop (ls1 := [_, _, _, _]) (xs := xs) rfl ?_
          exact ih0 _ _ (by omega) (by omega) (by omega) hF hE
        have hpl := pls_len (D := D) (T := T) (L := x) (s + 1).toNat (D 9 0).toNat (by omega)
        obtain ⟨E0l, hE0⟩ : ∃ q : Nat, q = (B ++ (pls D T x s.toNat).reverse.map z0).length := ⟨_, rfl⟩
        have hE0' : (E0l : Int) = f + (pls D T x s.toNat).length := by rw [hE0, hf]; simp
        have hEC : ∀ (j : Nat) (y : Int), (pls D T x s.toNat).reverse[j]? = some y → M1 21 (f + j) = y := by
          intro j y hj
          have := hE1.2 (B.length + j) (z0 y) (by rw [List.getElem?_append_right (by omega), show B.length + j - B.length = j by omega, List.getElem?_map, hj]; rfl)
          rw [hf, show ((B.length : Int) + (j : Int)) = ((B.length + j : Nat) : Int) by omega]
          exact this.1
        have hE2 : ∀ j : Int, f ≤ j → j < E0l → 0 ≤ M1 21 j ∧ M1 21 j < D 9 0 := by
          intro j a1 a2
          have hj : (j - f).toNat < (pls D T x s.toNat).reverse.length := by simp; omega
          have := hEC _ _ (List.getElem?_eq_getElem hj)
          rw [show f + (((j - f).toNat : Nat) : Int) = j by omega] at this
          rw [this]
          have hm := mem_pls.mp (List.mem_reverse.mp (List.getElem_mem hj))
          exact ⟨hm.1, by omega⟩
        have hcase : cand D T x s = true → G Z jX9_pilePuts E0 (QM Z jX9_pilePuts (pV Z o a (fun M2 => Fx [21, 22, 23] M M2 ∧ PL M2 (B ++ (pls D T x (D 9 0).toNat).reverse.map z0)))) 43 [.ref o, .int (iI x), .int (iI f), .int (iI s)] [] (mW Z o a M1) 0 0 := by
          intro hcd
          have hl1 : (pls D T x (s + 1).toNat).length = (pls D T x s.toNat).length + 1 := by rw [pls_step hs0, if_pos hcd, insR_len]
          have fin : ∀ (k : Int) (M2 : Mem), f ≤ k → k ≤ E0l → Fx [21, 22, 23] M M2 → M2 23 0 = E0l → (∀ j, 0 ≤ j → j < k → M2 21 j = M1 21 j ∧ M2 22 j = M1 22 j) → (∀ j, k < j → j ≤ E0l → M2 21 j = M1 21 (j - 1) ∧ M2 22 j = M1 22 (j - 1)) → (∀ j, k ≤ j → j < E0l → laterB D (M1 21 j) s = true) → (k = f ∨ (f < k ∧ laterB D (M1 21 (k - 1)) s = false)) → G Z jX9_pilePuts E0 (QM Z jX9_pilePuts (pV Z o a (fun M2 => Fx [21, 22, 23] M M2 ∧ PL M2 (B ++ (pls D T x (D 9 0).toNat).reverse.map z0)))) 110 [.ref o, .int (iI x), .int (iI f), .int (iI s), .int (iI k)] [] (mW Z o a M2) 0 0 := by
            intro k M2 hk0 hk1 hF h23 hlo hhi hla hst
            refine g_aload_n 0 dX9_pilePuts_110 rfl rfl ?_
            refine mg_21 dX9_pilePuts_111 rfl ?_
            refine g_iload dX9_pilePuts_114 rfl ?_
            refine g_iload_n 3 dX9_pilePuts_116 rfl rfl ?_
            refine mt_21 dX9_pilePuts_117 (by omega) (by omega) ?_
            refine g_aload_n 0 dX9_pilePuts_118 rfl rfl ?_
            refine mg_22 dX9_pilePuts_119 rfl ?_
            refine g_iload dX9_pilePuts_122 rfl ?_
            refine g_iconst (iI 0) dX9_pilePuts_124 rfl ?_
            refine mt_22 dX9_pilePuts_125 (by omega) (by omega) ?_
            refine g_aload_n 0 dX9_pilePuts_126 rfl rfl ?_
            refine g_dup dX9_pilePuts_127 rfl ?_
            refine mg_23 ((ms_row (by decide)).trans ((ms_row (by decide)).trans h23)) dX9_pilePuts_128 rfl ?_
            refine g_iconst (iI 1) dX9_pilePuts_131 rfl ?_
            refine gi_add dX9_pilePuts_132 ?_
            refine mp_23 dX9_pilePuts_133 rfl ?_
            exact nxt _ [_] (((hF.ms (by decide)).ms (by decide)).ms (by decide)) (by
              rw [pls_step hs0, if_pos hcd]
              have hi : (k - f).toNat ≤ (pls D T x s.toNat).reverse.length := by simp; omega
              have hrev := insR_rev (D := D) (s := s) (pls D T x s.toNat).reverse (k - f).toNat hi (fun j y a1 a2 => by
                have hlt := (List.getElem?_eq_some_iff.mp a2).1
                rw [List.length_reverse] at hlt
                rw [← hEC j y a2]
                exact hla _ (by omega) (by omega)) (by
                rcases hst with h | ⟨h1, h2⟩
                · left; omega
                · right
                  have hlt : (k - f).toNat - 1 < (pls D T x s.toNat).reverse.length := by omega
                  refine ⟨_, List.getElem?_eq_getElem hlt, ?_⟩
                  rw [← hEC _ _ (List.getElem?_eq_getElem hlt), show f + (((k - f).toNat - 1 : Nat) : Int) = k - 1 by omega]
                  exact h2)
              rw [List.reverse_reverse] at hrev
              rw [hrev]
              have e21 : ∀ j, ms (ms (ms M2 21 k s) 22 k 0) 23 0 ((E0l : Int) + 1) 21 j = upI (M2 21) k s j := fun j => rfl
              have e22 : ∀ j, ms (ms (ms M2 21 k s) 22 k 0) 23 0 ((E0l : Int) + 1) 22 j = upI (M2 22) k 0 j := fun j => rfl
              have hp := PL_ins (M3 := ms (ms (ms M2 21 k s) 22 k 0) 23 0 ((E0l : Int) + 1)) k.toNat s (by omega) hE1 (by rw [ms_at, hE0]) (fun j a1 => by
                rw [e21, e22, upI_ne (by omega), upI_ne (by omega)]
                exact hlo j (by omega) (by omega)) (by
                rw [show ((k.toNat : Nat) : Int) = k by omega, e21, e22, upI_eq, upI_eq]
                exact ⟨rfl, rfl⟩) (fun j a1 a2 => by
                rw [e21, e22, upI_ne (by omega), upI_ne (by omega)]
                exact hhi j (by omega) (by omega))
              have e1 : (B ++ (pls D T x s.toNat).reverse.map z0).take k.toNat = B ++ ((pls D T x s.toNat).reverse.take (k - f).toNat).map z0 := by
                rw [List.take_append, List.take_of_length_le (by omega), ← List.map_take, show k.toNat - B.length = (k - f).toNat by omega]
              have e2 : (B ++ (pls D T x s.toNat).reverse.map z0).drop k.toNat = ((pls D T x s.toNat).reverse.drop (k - f).toNat).map z0 := by
                rw [List.drop_append, List.drop_of_length_le (by omega), ← List.map_drop, show k.toNat - B.length = (k - f).toNat by omega]; rfl
              rw [e1, e2] at hp
              simpa [z0] using hp)
          have inn : ∀ (fuel : Nat) (k : Int) (M2 : Mem), k - f < fuel → f ≤ k → k ≤ E0l → Fx [21, 22, 23] M M2 → M2 23 0 = E0l → (∀ j, 0 ≤ j → j < k → M2 21 j = M1 21 j ∧ M2 22 j = M1 22 j) → (∀ j, k < j → j ≤ E0l → M2 21 j = M1 21 (j - 1) ∧ M2 22 j = M1 22 (j - 1)) → (∀ j, k ≤ j → j < E0l → laterB D (M1 21 j) s = true) → G Z jX9_pilePuts E0 (QM Z jX9_pilePuts (pV Z o a (fun M2 => Fx [21, 22, 23] M M2 ∧ PL M2 (B ++ (pls D T x (D 9 0).toNat).reverse.map z0)))) 49 [.ref o, .int (iI x), .int (iI f), .int (iI s), .int (iI k)] [] (mW Z o a M2) 0 0 := by
            intro fuel
            induction fuel with
            | zero => intros; exfalso; omega
            | succ fuel ih =>
              intro k M2 hfu hk0 hk1 hF h23 hlo hhi hla
              refine g_iload dX9_pilePuts_49 rfl ?_
              refine g_iload_n 2 dX9_pilePuts_51 rfl rfl ?_
              refine gi_icmp_le 110 dX9_pilePuts_52 (by decide) (by first | exact hM _ _ | exact bI_Rg _ | exact ⟨by omega, by omega⟩) (by first | exact hM _ _ | exact bI_Rg _ | exact ⟨by omega, by omega⟩) (fun c52 => ?_) (fun c52 => ?_)
              · exact fin k M2 hk0 hk1 hF h23 hlo hhi hla (by first | exact Or.inl (by omega) | (right; exact ⟨by omega, bI_eq0.mp c69⟩))
              · obtain ⟨hx1, hx2⟩ := hE2 (k - 1) (by omega) (by omega)
                refine g_aload_n 0 dX9_pilePuts_55 rfl rfl ?_
                refine g_aload_n 0 dX9_pilePuts_56 rfl rfl ?_
                refine mg_21 dX9_pilePuts_57 rfl ?_
                refine g_iload dX9_pilePuts_60 rfl ?_
                refine g_iconst (iI 1) dX9_pilePuts_62 rfl ?_
                refine gi_sub dX9_pilePuts_63 ?_
                refine ml_21 (hlo _ (by omega) (by omega)).1 dX9_pilePuts_64 (by omega) (by omega) ?_
                refine g_iload_n 3 dX9_pilePuts_65 rfl rfl ?_
                refine mcI lkX9_108 (c_isLater Z o a (hP.fx hF (by decide)) hM _ s (by omega) (by omega) (by omega) (by omega)) dX9_pilePuts_66 rfl (And.intro (Nat.le_of_ble_eq_true rfl) (Nat.le_of_ble_eq_true rfl)) rfl (Nat.le_of_ble_eq_true rfl) rfl rfl (Nat.le_of_ble_eq_true rfl) (Nat.le_of_ble_eq_true rfl) (fun z66 M66 h66 => ?_)
                obtain ⟨q1, q2⟩ := h66
                rw [q1, q2]
                refine gi_if_eq 110 dX9_pilePuts_69 (by decide) (by first | exact hM _ _ | exact bI_Rg _ | exact ⟨by omega, by omega⟩) (fun c69 => ?_) (fun c69 => ?_)
                · exact fin k M2 hk0 hk1 hF h23 hlo hhi hla (by first | exact Or.inl (by omega) | (right; exact ⟨by omega, bI_eq0.mp c69⟩))
                · refine g_aload_n 0 dX9_pilePuts_72 rfl rfl ?_
                  refine mg_21 dX9_pilePuts_73 rfl ?_
                  refine g_iload dX9_pilePuts_76 rfl ?_
                  refine g_aload_n 0 dX9_pilePuts_78 rfl rfl ?_
                  refine mg_21 dX9_pilePuts_79 rfl ?_
                  refine g_iload dX9_pilePuts_82 rfl ?_
                  refine g_iconst (iI 1) dX9_pilePuts_84 rfl ?_
                  refine gi_sub dX9_pilePuts_85 ?_
                  refine ml_21 (hlo _ (by omega) (by omega)).1 dX9_pilePuts_86 (by omega) (by omega) ?_
                  refine mt_21 dX9_pilePuts_87 (by omega) (by omega) ?_
                  refine g_aload_n 0 dX9_pilePuts_88 rfl rfl ?_
                  refine mg_22 dX9_pilePuts_89 rfl ?_
                  refine g_iload dX9_pilePuts_92 rfl ?_
                  refine g_aload_n 0 dX9_pilePuts_94 rfl rfl ?_
                  refine mg_22 dX9_pilePuts_95 rfl ?_
                  refine g_iload dX9_pilePuts_98 rfl ?_
                  refine g_iconst (iI 1) dX9_pilePuts_100 rfl ?_
                  refine gi_sub dX9_pilePuts_101 ?_
                  refine ml_22 ((ms_row (by decide)).trans (hlo _ (by omega) (by omega)).2) dX9_pilePuts_102 (by omega) (by omega) ?_
                  refine mt_22 dX9_pilePuts_103 (by omega) (by omega) ?_
                  refine gi_inc dX9_pilePuts_104 rfl (Nat.le_of_ble_eq_true rfl) rfl ?_
                  dsimp only [sto]
                  refine g_goto 49 dX9_pilePuts_107 (by decide) ?_
                  exact ih _ _ (by omega) (by omega) (by omega) ((hF.ms (by decide)).ms (by decide)) (by rw [ms_row (by decide), ms_row (by decide)]; exact h23) (fun j a1 a2 => by
                    show upI (M2 21) k (M1 21 (k - 1)) j = _ ∧ upI (M2 22) k (M1 22 (k - 1)) j = _
                    rw [upI_ne (by omega), upI_ne (by omega)]
                    exact hlo j a1 (by omega)) (fun j a1 a2 => by
                    show upI (M2 21) k (M1 21 (k - 1)) j = _ ∧ upI (M2 22) k (M1 22 (k - 1)) j = _
                    by_cases e : j = k
                    · subst e
                      rw [upI_eq, upI_eq]
                      exact ⟨rfl, rfl⟩
                    · rw [upI_ne e, upI_ne e]
                      exact hhi j (by omega) a2) (fun j a1 a2 => by
                    by_cases e : j = k - 1
                    · subst e
                      cases hl : laterB D (M1 21 (k - 1)) s
                      · rw [hl] at c69; exact absurd rfl c69
                      · rfl
                    · exact hla j (by omega) a2)
          refine g_aload_n 0 dX9_pilePuts_43 rfl rfl ?_
          refine mg_23 (hE1.1.trans (by rw [← hE0])) dX9_pilePuts_44 rfl ?_
          refine g_istore dX9_pilePuts_47 (Nat.le_of_ble_eq_true rfl) (Nat.le_of_ble_eq_true rfl) rfl ?_
          dsimp only [sto]
          exact inn (E0l + 1) _ M1 (by omega) (by omega) (by omega) hF (by rw [hE1.1, ← hE0]) (fun j _ _ => ⟨rfl, rfl⟩) (fun j a1 a2 => by omega) (fun j a1 a2 => by omega)
        refine g_iload_n 3 dX9_pilePuts_7 rfl rfl ?_
        refine g_aload_n 0 dX9_pilePuts_8 rfl rfl ?_
        refine mg_9 ((hP.fx hF (by decide)).at 9 (by decide) _) dX9_pilePuts_9 rfl ?_
        refine gi_icmp_ge 142 dX9_pilePuts_12 (by decide) (by first | exact hM _ _ | exact bI_Rg _ | exact ⟨by omega, by omega⟩) (by first | exact hM _ _ | exact bI_Rg _ | exact ⟨by omega, by omega⟩) (fun c12 => ?_) (fun c12 => ?_)
        · exfalso; omega
        · refine g_aload_n 0 dX9_pilePuts_15 rfl rfl ?_
          refine mg_14 dX9_pilePuts_16 rfl ?_
          refine g_iload_n 3 dX9_pilePuts_19 rfl rfl ?_
          refine ml_14 ((hF.at 14 (by decide) s).trans (hT s (by omega) (by omega))) dX9_pilePuts_20 (by omega) (by omega) ?_
          refine gi_if_eq 136 dX9_pilePuts_21 (by decide) (by first | exact hM _ _ | exact bI_Rg _ | exact ⟨by omega, by omega⟩) (fun c21 => ?_) (fun c21 => ?_)
          · exact nxt M1 [] hF (by
              rw [pls_step hs0, if_neg (fun hc => by
                have := cand_iff.mp hc
                first
                  | exact c40 this.2.2
                  | exact c30 this.2.1
                  | (rw [this.1] at c21; exact absurd c21 (by decide)))]
              exact hE1)
          · refine g_aload_n 0 dX9_pilePuts_24 rfl rfl ?_
            refine mg_2 dX9_pilePuts_25 rfl ?_
            refine g_iload_n 3 dX9_pilePuts_28 rfl rfl ?_
            refine ml_2 ((hP.fx hF (by decide)).at 2 (by decide) _) dX9_pilePuts_29 (by omega) (by omega) ?_
            refine gi_if_ne 136 dX9_pilePuts_30 (by decide) (by first | exact hM _ _ | exact bI_Rg _ | exact ⟨by omega, by omega⟩) (fun c30 => ?_) (fun c30 => ?_)
            · exact nxt M1 [] hF (by
                rw [pls_step hs0, if_neg (fun hc => by
                  have := cand_iff.mp hc
                  first
                    | exact c40 this.2.2
                    | exact c30 this.2.1
                    | (rw [this.1] at c21; exact absurd c21 (by decide)))]
                exact hE1)
            · refine g_aload_n 0 dX9_pilePuts_33 rfl rfl ?_
              refine mg_6 dX9_pilePuts_34 rfl ?_
              refine g_iload_n 3 dX9_pilePuts_37 rfl rfl ?_
              refine ml_6 ((hP.fx hF (by decide)).at 6 (by decide) _) dX9_pilePuts_38 (by omega) (by omega) ?_
              refine g_iload_n 1 dX9_pilePuts_39 rfl rfl ?_
              refine gi_icmp_ne 136 dX9_pilePuts_40 (by decide) (by first | exact hM _ _ | exact bI_Rg _ | exact ⟨by omega, by omega⟩) (by first | exact hM _ _ | exact bI_Rg _ | exact ⟨by omega, by omega⟩) (fun c40 => ?_) (fun c40 => ?_)
              · exact nxt M1 [] hF (by
                  rw [pls_step hs0, if_neg (fun hc => by
                    have := cand_iff.mp hc
                    first
                      | exact c40 this.2.2
                      | exact c30 this.2.1
                      | (rw [this.1] at c21; exact absurd c21 (by decide)))]
                  exact hE1)
              · exact hcase (cand_iff.mpr ⟨by cases h : T s <;> simp_all [bI], c30, c40⟩)
      · refine g_iload_n 3 dX9_pilePuts_7 rfl rfl ?_
        refine g_aload_n 0 dX9_pilePuts_8 rfl rfl ?_
        refine mg_9 ((hP.fx hF (by decide)).at 9 (by decide) _) dX9_pilePuts_9 rfl ?_
        refine gi_icmp_ge 142 dX9_pilePuts_12 (by decide) (by first | exact hM _ _ | exact bI_Rg _ | exact ⟨by omega, by omega⟩) (by first | exact hM _ _ | exact bI_Rg _ | exact ⟨by omega, by omega⟩) (fun c12 => ?_) (fun c12 => ?_)
        · refine g_vret dX9_pilePuts_142 rfl (Nat.le_of_ble_eq_true rfl) (Nat.le_of_ble_eq_true rfl) ⟨_, rfl, rfl, ?_⟩
          refine ⟨hF, ?_⟩
          rw [show D 9 0 = s by omega]
          exact hE1
        · exfalso; omega
  refine g_aload_n 0 dX9_pilePuts_0 rfl rfl ?_
  refine mg_23 (hB.1.trans hf.symm) dX9_pilePuts_1 rfl ?_
  refine g_istore_n 2 dX9_pilePuts_4 rfl (Nat.le_of_ble_eq_true rfl) (Nat.le_of_ble_eq_true rfl) rfl ?_
  dsimp only [sto]
  refine g_iconst (iI 0) dX9_pilePuts_5 rfl ?_
  refine g_istore_n 3 dX9_pilePuts_6 rfl (Nat.le_of_ble_eq_true rfl) (Nat.le_of_ble_eq_true rfl) rfl ?_
  dsimp only [sto]
  exact loop ((D 9 0).toNat + 1) 0 M (by omega) (by omega) (by omega) (Fx.rf _ _) (by simpa [pls] using hB)
end
section
/-! THE REFERENCE: findOrder -/
def rst (D : Mem) (T : Int → Bool) (N : Nat) (q : Int × Int) : List Int := ((nmP D q.1).drop q.2.toNat).flatMap (fun y => y :: KD D T N y)
def pnd (D : Mem) (T : Int → Bool) (N : Nat) (B : List (Int × Int)) : List Int := B.reverse.flatMap (rst D T N)
def okB (D : Mem) (q : Int × Int) : Prop := 0 ≤ q.1 ∧ q.1 < D 9 0 ∧ D 2 q.1 = 0 ∧ 0 ≤ q.2 ∧ q.2 < D 3 q.1 ∧ D 3 q.1 ≤ 3
theorem nmP_get {D : Mem} {P : Int} {i : Nat} (h : (i : Int) < D 3 P) : (nmP D P)[i]? = some (4 * P + i) := by
  unfold nmP
  rw [List.getElem?_map, List.getElem?_range (by omega)]
  rfl
theorem rst_cons {D : Mem} {T : Int → Bool} {N : Nat} {P at_ : Int} (h0 : 0 ≤ at_) (h1 : at_ < D 3 P) : rst D T N (P, at_) = (4 * P + at_) :: (KD D T N (4 * P + at_) ++ rst D T N (P, at_ + 1)) := by
  unfold rst
  have hg := nmP_get (D := D) (P := P) (i := at_.toNat) (by omega)
  rw [show ((at_.toNat : Nat) : Int) = at_ by omega] at hg
  have hlt := (List.getElem?_eq_some_iff.mp hg).1
  have hge := (List.getElem?_eq_some_iff.mp hg).2
  simp only
  rw [List.drop_eq_getElem_cons hlt, hge, List.flatMap_cons, show (at_ + 1).toNat = at_.toNat + 1 by omega]
  simp
theorem rst_nil {D : Mem} {T : Int → Bool} {N : Nat} {P at_ : Int} (h : D 3 P ≤ at_) : rst D T N (P, at_) = [] := by
  unfold rst
  rw [List.drop_of_length_le]
  · rfl
  · have := nmP_len (D := D) P
    simp only
    omega
theorem pnd_app (D : Mem) (T : Int → Bool) (N : Nat) (B C : List (Int × Int)) : pnd D T N (B ++ C) = pnd D T N C ++ pnd D T N B := by
  unfold pnd
  rw [List.reverse_append, List.flatMap_append]
theorem pnd_one (D : Mem) (T : Int → Bool) (N : Nat) (q : Int × Int) : pnd D T N [q] = rst D T N q := by
  unfold pnd; simp
theorem pnd_kids {D : Mem} {T : Int → Bool} {N : Nat} (hO : okO D N) (hN : N ≤ 256) {L : Int} (hL : -2 ≤ L) : pnd D T N ((pls D T L N).reverse.map z0) = KD D T N L := by
  rw [KD_eq hO hN hL]
  unfold pnd chl
  rw [← List.map_reverse, List.reverse_reverse, List.flatMap_map]
  have : ∀ l : List Int, l.flatMap (fun P => rst D T N (z0 P)) = (l.flatMap (nmP D)).flatMap (fun y => y :: KD D T N y) := by
    intro l
    induction l with
    | nil => rfl
    | cons P t ih =>
      rw [List.flatMap_cons, List.flatMap_cons, List.flatMap_append, ih]
      rfl
  exact this _
theorem pnd_len {D : Mem} {T : Int → Bool} {N : Nat} : ∀ B : List (Int × Int), (∀ q ∈ B, okB D q) → B.length ≤ (pnd D T N B).length := by
  intro B
  induction B with
  | nil => intro _; simp
  | cons q t ih =>
    intro h
    have h1 := ih (fun r hr => h r (List.mem_cons_of_mem _ hr))
    obtain ⟨P, at_⟩ := q
    have hq := h (P, at_) List.mem_cons_self
    rw [show (P, at_) :: t = [(P, at_)] ++ t from rfl, pnd_app, pnd_one, rst_cons hq.2.2.2.1 hq.2.2.2.2.1]
    simp only [List.length_append, List.length_cons, List.length_nil]
    omega
theorem pls_ok {D : Mem} (hD : okP D) {T : Int → Bool} {L : Int} : ∀ q ∈ (pls D T L (D 9 0).toNat).reverse.map z0, okB D q := by
  intro q hq
  have hn := hD.2.1
  obtain ⟨s, hs, rfl⟩ := List.mem_map.mp hq
  have hm := mem_pls.mp (List.mem_reverse.mp hs)
  have hk := (cand_iff.mp hm.2.2).2.1
  have h3 := (hD.2.2.1 s hm.1 (by omega)).2.2.1 hk
  exact ⟨hm.1, by simp [z0]; omega, hk, by simp [z0], by simp [z0]; omega, by simp [z0]; omega⟩
theorem OL_0 (Mx : Mem) : OL (ms Mx 17 0 0) [] := ⟨ms_at, fun j x h => by simp at h⟩
theorem OL_add {Mx My : Mem} {F : List Int} {x : Int} (h : OL Mx F) (h17 : My 17 0 = F.length + 1) (h16 : ∀ j, My 16 j = upI (Mx 16) F.length x j) : OL My (F ++ [x]) := by
  refine ⟨by rw [h17]; simp, fun j y hy => ?_⟩
  rw [h16]
  by_cases hj : j < F.length
  · rw [List.getElem?_append_left hj] at hy
    rw [upI_ne (by omega)]
    exact h.2 j y hy
  · rw [List.getElem?_append_right (by omega)] at hy
    have h0 : j - F.length = 0 := by
      rcases Nat.eq_zero_or_pos (j - F.length) with e | e
      · exact e
      · rw [List.getElem?_eq_none (by simp; omega)] at hy; cases hy
    rw [h0] at hy
    simp at hy
    rw [show (j : Int) = (F.length : Int) by omega, upI_eq, hy]
theorem OL_row {Mx My : Mem} {F : List Int} (h : OL Mx F) (h16 : My 16 = Mx 16) (h17 : My 17 = Mx 17) : OL My F := ⟨by rw [h17]; exact h.1, fun j x hx => by rw [h16]; exact h.2 j x hx⟩
theorem PL_row {Mx My : Mem} {B : List (Int × Int)} (h : PL Mx B) (h1 : My 21 = Mx 21) (h2 : My 22 = Mx 22) (h3 : My 23 = Mx 23) : PL My B := ⟨by rw [h3]; exact h.1, fun j x hx => by rw [h1, h2]; exact h.2 j x hx⟩
theorem PL_top {Mx My : Mem} {B : List (Int × Int)} {P at_ v : Int} (h : PL Mx (B ++ [(P, at_)])) (h1 : My 21 = Mx 21) (h2 : My 22 = upI (Mx 22) B.length v) (h3 : My 23 = Mx 23) : PL My (B ++ [(P, v)]) := by
  refine ⟨by rw [h3, h.1]; simp, fun j q hq => ?_⟩
  rw [h1, h2]
  by_cases hj : j < B.length
  · rw [List.getElem?_append_left hj] at hq
    rw [upI_ne (by omega)]
    exact h.2 j q (by rw [List.getElem?_append_left hj]; exact hq)
  · rw [List.getElem?_append_right (by omega)] at hq
    have h0 : j - B.length = 0 := by
      rcases Nat.eq_zero_or_pos (j - B.length) with e | e
      · exact e
      · rw [List.getElem?_eq_none (by simp; omega)] at hq; cases hq
    rw [h0] at hq
    simp at hq
    subst hq
    have := h.2 j (P, at_) (by rw [List.getElem?_append_right (by omega), h0]; rfl)
    rw [show (j : Int) = (B.length : Int) by omega] at this ⊢
    rw [upI_eq]
    exact ⟨this.1, rfl⟩
theorem PL_pop {Mx My : Mem} {B : List (Int × Int)} {q : Int × Int} (h : PL Mx (B ++ [q])) (h1 : My 21 = Mx 21) (h2 : My 22 = Mx 22) (h3 : My 23 0 = B.length) : PL My B := by
  refine ⟨h3, fun j r hr => ?_⟩
  have hj := (List.getElem?_eq_some_iff.mp hr).1
  rw [h1, h2]
  exact h.2 j r (by rw [List.getElem?_append_left hj]; exact hr)
set_option maxHeartbeats 4000000 in
set_option maxRecDepth 100000 in
/-- findOrder -/
theorem c_findOrder (Z : LZ) (o : Nat) (a : Nat → Nat) {D M : Mem} (hP : Pers D M) (hM : RM D) (hD : okP D) (hO : okO D (D 9 0).toNat) (T : Int → Bool) (hT : ∀ t, 0 ≤ t → t < D 9 0 → M 14 t = bI (T t)) (hlen : (KD D T (D 9 0).toNat (-2)).length ≤ 768)  : Tn Z o a jX9_findOrder [] M (fun M2 => Fx [16, 17, 21, 22, 23] M M2 ∧ OL M2 (KD D T (D 9 0).toNat (-2))) := by
  refine tr_of pn_X9_findOrder (Nat.le_of_ble_eq_true rfl) (vI_catO o _) ?_
  show G Z jX9_findOrder E0 (QM Z jX9_findOrder (pV Z o a (fun M2 => Fx [16, 17, 21, 22, 23] M M2 ∧ OL M2 (KD D T (D 9 0).toNat (-2))))) 0 [.ref o] [] (mW Z o a M) 0 0
  have hn := hD.2.1
  have loop : ∀ (fuel : Nat) (O : List Int) (B : List (Int × Int)) (Mq : Mem), (pnd D T (D 9 0).toNat B).length < fuel → Fx [16, 17, 21, 22, 23] M Mq → OL Mq O → PL Mq B → (KD D T (D 9 0).toNat (-2)) = O ++ pnd D T (D 9 0).toNat B → (∀ q ∈ B, okB D q) → G Z jX9_findOrder E0 (QM Z jX9_findOrder (pV Z o a (fun M2 => Fx [16, 17, 21, 22, 23] M M2 ∧ OL M2 (KD D T (D 9 0).toNat (-2))))) 16 [.ref o] [] (mW Z o a Mq) 0 0 := by
    intro fuel
    induction fuel with
    | zero => intros; exfalso; omega
    | succ fuel ih =>
      intro O B Mq hfu hF hOL hPL hFeq hok
      rcases List.eq_nil_or_concat B with hB | ⟨B0, q, hB⟩
      · subst hB
        have h23 : Mq 23 0 = 0 := by rw [hPL.1]; rfl
        refine g_aload_n 0 dX9_findOrder_16 rfl rfl ?_
        refine mg_23 h23 dX9_findOrder_17 rfl ?_
        refine gi_if_le 122 dX9_findOrder_20 (by decide) (by first | exact hM _ _ | exact bI_Rg _ | exact ⟨by omega, by omega⟩) (fun c20 => ?_) (fun c20 => ?_)
        · refine g_vret dX9_findOrder_122 rfl (Nat.le_of_ble_eq_true rfl) (Nat.le_of_ble_eq_true rfl) ⟨_, rfl, rfl, ?_⟩
          refine ⟨hF, ?_⟩
          rw [hFeq]
          simpa [pnd] using hOL
        · exfalso; omega
      · obtain ⟨P, t⟩ := q
        rw [List.concat_eq_append] at hB
        subst hB
        have hq := hok (P, t) (by simp)
        unfold okB at hq
        simp only at hq
        have hlB := pnd_len (T := T) (N := (D 9 0).toNat) _ hok
        have hll := congrArg List.length hFeq
        simp only [List.length_append, List.length_cons, List.length_nil] at hlB hll
        have hcons := congrArg List.length (pnd_app D T (D 9 0).toNat B0 [(P, t)])
        rw [pnd_one, rst_cons hq.2.2.2.1 hq.2.2.2.2.1] at hcons
        simp only [List.length_append, List.length_cons] at hcons
        have h23 : Mq 23 0 = (B0.length : Int) + 1 := by rw [hPL.1]; simp
        have hp : Mq 21 B0.length = P ∧ Mq 22 B0.length = t := hPL.2 B0.length (P, t) (by simp)
        have hp1 : Mq 21 ((B0.length : Int) + 1 - 1) = P := by rw [show ((B0.length : Int) + 1 - 1) = B0.length by omega]; exact hp.1
        have hp2 : Mq 22 ((B0.length : Int) + 1 - 1) = t := by rw [show ((B0.length : Int) + 1 - 1) = B0.length by omega]; exact hp.2
        have mid : ∀ (Mr : Mem) (B1 : List (Int × Int)), Fx [16, 17, 21, 22, 23] M Mr → OL Mr O → PL Mr B1 → (KD D T (D 9 0).toNat (-2)) = O ++ ((4 * P + t) :: (KD D T (D 9 0).toNat (4 * P + t) ++ pnd D T (D 9 0).toNat B1)) → (∀ q ∈ B1, okB D q) → G Z jX9_findOrder E0 (QM Z jX9_findOrder (pV Z o a (fun M2 => Fx [16, 17, 21, 22, 23] M M2 ∧ OL M2 (KD D T (D 9 0).toNat (-2))))) 86 [.ref o, .int (iI P), .int (iI t)] [] (mW Z o a Mr) 0 0 := by
          intro Mr B1 hF hOL hPL hFeq2 hok1
          have hok2 : ∀ q ∈ B1 ++ (pls D T (4 * P + t) (D 9 0).toNat).reverse.map z0, okB D q := by
            intro r hr
            rcases List.mem_append.mp hr with h | h
            · exact hok1 r h
            · exact pls_ok hD r h
          have hk := pnd_kids (T := T) hO (by omega) (L := 4 * P + t) (by omega)
          have hl2 := pnd_len (T := T) (N := (D 9 0).toNat) _ hok2
          rw [pnd_app, hk] at hl2
          have hl3 := congrArg List.length hFeq2
          simp only [List.length_append, List.length_cons, List.length_map, List.length_reverse] at hl2 hl3
          have hFeq2 : (KD D T (D 9 0).toNat (-2)) = (O ++ [4 * P + t]) ++ pnd D T (D 9 0).toNat (B1 ++ (pls D T (4 * P + t) (D 9 0).toNat).reverse.map z0) := by
            rw [hFeq2, pnd_app, hk]; simp
          have hl4 := congrArg List.length hFeq2
          simp only [List.length_append, List.length_cons, List.length_nil] at hl4
          refine g_aload_n 0 dX9_findOrder_86 rfl rfl ?_
          refine mg_16 dX9_findOrder_87 rfl ?_
          refine g_aload_n 0 dX9_findOrder_90 rfl rfl ?_
          refine mg_17 hOL.1 dX9_findOrder_91 rfl ?_
          refine g_iconst (iI 4) dX9_findOrder_94 rfl ?_
          refine g_iload_n 1 dX9_findOrder_95 rfl rfl ?_
          refine gi_mul dX9_findOrder_96 ?_
          refine g_iload_n 2 dX9_findOrder_97 rfl rfl ?_
          refine gi_add dX9_findOrder_98 ?_
          refine mt_16 dX9_findOrder_99 (by omega) (by omega) ?_
          refine g_aload_n 0 dX9_findOrder_100 rfl rfl ?_
          refine g_dup dX9_findOrder_101 rfl ?_
          refine mg_17 ((ms_row (by decide)).trans hOL.1) dX9_findOrder_102 rfl ?_
          refine g_iconst (iI 1) dX9_findOrder_105 rfl ?_
          refine gi_add dX9_findOrder_106 ?_
          refine mp_17 dX9_findOrder_107 rfl ?_
          refine g_aload_n 0 dX9_findOrder_110 rfl rfl ?_
          refine g_iconst (iI 4) dX9_findOrder_111 rfl ?_
          refine g_iload_n 1 dX9_findOrder_112 rfl rfl ?_
          refine gi_mul dX9_findOrder_113 ?_
          refine g_iload_n 2 dX9_findOrder_114 rfl rfl ?_
          refine gi_add dX9_findOrder_115 ?_
          refine mcV lkX9_115 (c_pilePuts Z o a (((hP.fx hF (by decide)).ms (r := 16) (by decide)).ms (r := 17) (by decide)) hM hD _ (by exact ⟨by omega, by omega⟩) T (fun u a1 a2 => (((hF.ms (r := 16) (by decide)).ms (r := 17) (by decide)).at 14 (by decide) u).trans (hT u a1 a2)) B1 (PL_row hPL rfl rfl rfl) (by omega)) dX9_findOrder_116 rfl (And.intro (Nat.le_of_ble_eq_true rfl) (Nat.le_of_ble_eq_true rfl)) rfl (Nat.le_of_ble_eq_true rfl) rfl rfl (Nat.le_of_ble_eq_true rfl) (Nat.le_of_ble_eq_true rfl) (fun M116 h116 => ?_)
          obtain ⟨hF2, hPL2⟩ := h116
          refine g_goto 16 dX9_findOrder_119 (by decide) ?_
          refine g_drop (ls1 := [_]) (xs := [_, _]) rfl ?_
          exact ih _ _ _ (by omega) (hF.ms (r := 16) (by decide) |>.ms (r := 17) (by decide) |>.tr hF2 (by decide)) (OL_row (OL_add hOL ms_at (fun j => rfl)) (hF2 16 (by decide)) (hF2 17 (by decide))) hPL2 hFeq2 hok2
        refine g_aload_n 0 dX9_findOrder_16 rfl rfl ?_
        refine mg_23 h23 dX9_findOrder_17 rfl ?_
        refine gi_if_le 122 dX9_findOrder_20 (by decide) (by first | exact hM _ _ | exact bI_Rg _ | exact ⟨by omega, by omega⟩) (fun c20 => ?_) (fun c20 => ?_)
        · exfalso; omega
        · refine g_aload_n 0 dX9_findOrder_23 rfl rfl ?_
          refine mg_21 dX9_findOrder_24 rfl ?_
          refine g_aload_n 0 dX9_findOrder_27 rfl rfl ?_
          refine mg_23 h23 dX9_findOrder_28 rfl ?_
          refine g_iconst (iI 1) dX9_findOrder_31 rfl ?_
          refine gi_sub dX9_findOrder_32 ?_
          refine ml_21 hp1 dX9_findOrder_33 (by omega) (by omega) ?_
          refine g_istore_n 1 dX9_findOrder_34 rfl (Nat.le_of_ble_eq_true rfl) (Nat.le_of_ble_eq_true rfl) rfl ?_
          dsimp only [sto]
          refine g_aload_n 0 dX9_findOrder_35 rfl rfl ?_
          refine mg_22 dX9_findOrder_36 rfl ?_
          refine g_aload_n 0 dX9_findOrder_39 rfl rfl ?_
          refine mg_23 h23 dX9_findOrder_40 rfl ?_
          refine g_iconst (iI 1) dX9_findOrder_43 rfl ?_
          refine gi_sub dX9_findOrder_44 ?_
          refine ml_22 hp2 dX9_findOrder_45 (by omega) (by omega) ?_
          refine g_istore_n 2 dX9_findOrder_46 rfl (Nat.le_of_ble_eq_true rfl) (Nat.le_of_ble_eq_true rfl) rfl ?_
          dsimp only [sto]
          refine g_iload_n 2 dX9_findOrder_47 rfl rfl ?_
          refine g_iconst (iI 1) dX9_findOrder_48 rfl ?_
          refine gi_add dX9_findOrder_49 ?_
          refine g_aload_n 0 dX9_findOrder_50 rfl rfl ?_
          refine mg_3 dX9_findOrder_51 rfl ?_
          refine g_iload_n 1 dX9_findOrder_54 rfl rfl ?_
          refine ml_3 ((hP.fx hF (by decide)).at 3 (by decide) _) dX9_findOrder_55 (by omega) (by omega) ?_
          refine gi_icmp_ge 76 dX9_findOrder_56 (by decide) (by first | exact hM _ _ | exact bI_Rg _ | exact ⟨by omega, by omega⟩) (by first | exact hM _ _ | exact bI_Rg _ | exact ⟨by omega, by omega⟩) (fun c56 => ?_) (fun c56 => ?_)
          · refine g_aload_n 0 dX9_findOrder_76 rfl rfl ?_
            refine g_dup dX9_findOrder_77 rfl ?_
            refine mg_23 h23 dX9_findOrder_78 rfl ?_
            refine g_iconst (iI 1) dX9_findOrder_81 rfl ?_
            refine gi_sub dX9_findOrder_82 ?_
            refine mp_23 dX9_findOrder_83 rfl ?_
            first
              | exact mid _ (B0 ++ [(P, t + 1)]) (hF.ms (by decide)) (OL_row hOL rfl rfl) (PL_top hPL rfl (by
                  show upI (Mq 22) ((B0.length : Int) + 1 - 1) (t + 1) = _
                  rw [show ((B0.length : Int) + 1 - 1) = B0.length by omega]) rfl) (by
                  rw [hFeq, pnd_app, pnd_one, rst_cons hq.2.2.2.1 hq.2.2.2.2.1, pnd_app, pnd_one]
                  simp) (fun r hr => by
                  rcases List.mem_append.mp hr with h | h
                  · exact hok r (List.mem_append_left _ h)
                  · rw [List.mem_singleton.mp h]; exact ⟨hq.1, hq.2.1, hq.2.2.1, by simp; omega, by simp; omega, hq.2.2.2.2.2⟩)
              | exact mid _ B0 (hF.ms (by decide)) (OL_row hOL rfl rfl) (PL_pop hPL rfl rfl (by rw [ms_at]; omega)) (by
                  rw [hFeq, pnd_app, pnd_one, rst_cons hq.2.2.2.1 hq.2.2.2.2.1, rst_nil (P := P) (at_ := t + 1) (by omega)]
                  simp) (fun r hr => hok r (List.mem_append_left _ hr))
          · refine g_aload_n 0 dX9_findOrder_59 rfl rfl ?_
            refine mg_22 dX9_findOrder_60 rfl ?_
            refine g_aload_n 0 dX9_findOrder_63 rfl rfl ?_
            refine mg_23 h23 dX9_findOrder_64 rfl ?_
            refine g_iconst (iI 1) dX9_findOrder_67 rfl ?_
            refine gi_sub dX9_findOrder_68 ?_
            refine g_iload_n 2 dX9_findOrder_69 rfl rfl ?_
            refine g_iconst (iI 1) dX9_findOrder_70 rfl ?_
            refine gi_add dX9_findOrder_71 ?_
            refine mt_22 dX9_findOrder_72 (by omega) (by omega) ?_
            refine g_goto 86 dX9_findOrder_73 (by decide) ?_
            first
              | exact mid _ (B0 ++ [(P, t + 1)]) (hF.ms (by decide)) (OL_row hOL rfl rfl) (PL_top hPL rfl (by
                  show upI (Mq 22) ((B0.length : Int) + 1 - 1) (t + 1) = _
                  rw [show ((B0.length : Int) + 1 - 1) = B0.length by omega]) rfl) (by
                  rw [hFeq, pnd_app, pnd_one, rst_cons hq.2.2.2.1 hq.2.2.2.2.1, pnd_app, pnd_one]
                  simp) (fun r hr => by
                  rcases List.mem_append.mp hr with h | h
                  · exact hok r (List.mem_append_left _ h)
                  · rw [List.mem_singleton.mp h]; exact ⟨hq.1, hq.2.1, hq.2.2.1, by simp; omega, by simp; omega, hq.2.2.2.2.2⟩)
              | exact mid _ B0 (hF.ms (by decide)) (OL_row hOL rfl rfl) (PL_pop hPL rfl rfl (by rw [ms_at]; omega)) (by
                  rw [hFeq, pnd_app, pnd_one, rst_cons hq.2.2.2.1 hq.2.2.2.2.1, rst_nil (P := P) (at_ := t + 1) (by omega)]
                  simp) (fun r hr => hok r (List.mem_append_left _ hr))
  refine g_aload_n 0 dX9_findOrder_0 rfl rfl ?_
  refine g_iconst (iI 0) dX9_findOrder_1 rfl ?_
  refine mp_17 dX9_findOrder_2 rfl ?_
  refine g_aload_n 0 dX9_findOrder_5 rfl rfl ?_
  refine g_iconst (iI 0) dX9_findOrder_6 rfl ?_
  refine mp_23 dX9_findOrder_7 rfl ?_
  refine g_aload_n 0 dX9_findOrder_10 rfl rfl ?_
  refine g_bipush (iI (-2)) dX9_findOrder_11 (by decide) ?_
  refine mcV lkX9_115 (c_pilePuts Z o a ((hP.ms (r := 17) (by decide)).ms (r := 23) (by decide)) hM hD (-2) (by exact ⟨by omega, by omega⟩) T (fun u a1 a2 => (((Fx.rf [17, 23] M).ms (r := 17) (by decide)).ms (r := 23) (by decide)).at 14 (by decide) u |>.trans (hT u a1 a2)) [] ⟨ms_at, fun j q h => by simp at h⟩ (by
  have h1 := pnd_len (T := T) (N := (D 9 0).toNat) _ (pls_ok hD (T := T) (L := -2))
  rw [pnd_kids hO (by omega) (by omega)] at h1
  simp at h1 ⊢
  omega)) dX9_findOrder_13 rfl (And.intro (Nat.le_of_ble_eq_true rfl) (Nat.le_of_ble_eq_true rfl)) rfl (Nat.le_of_ble_eq_true rfl) rfl rfl (Nat.le_of_ble_eq_true rfl) (Nat.le_of_ble_eq_true rfl) (fun M13 h13 => ?_)
  obtain ⟨hF2, hPL2⟩ := h13
  exact loop _ [] _ _ (Nat.lt_succ_self _) (((((Fx.rf [16, 17, 21, 22, 23] M).ms (r := 17) (by decide)).ms (r := 23) (by decide))).tr hF2 (by decide)) (OL_row (OL_0 M) (hF2 16 (by decide)) (hF2 17 (by decide))) hPL2 (by
    rw [List.nil_append, List.nil_append, pnd_kids hO (by omega) (by omega)]) (by rw [List.nil_append]; exact pls_ok hD)
end
section
/-! THE REFERENCE: text -/
def ordF (D : Mem) (T : Int → Bool) : List Int := KD D T (D 9 0).toNat (-2)
def visB (D : Mem) (T : Int → Bool) (x : Int) : Bool := wkB D T (x / 4) && !(decide (0 < strikesF D (wkB D T) x))
def Vi (D : Mem) (T : Int → Bool) (i : Int) : Bool := visB D T ((ordF D T).getD i.toNat 0)
def txtN (D : Mem) (T : Int → Bool) : Int := cntB (Vi D T) (ordF D T).length
def TkR (D : Mem) (T : Int → Bool) (M : Mem) : Prop := ∀ t, 0 ≤ t → t < D 9 0 → M 14 t = bI (T t)
def WkR (D : Mem) (T : Int → Bool) (M : Mem) : Prop := ∀ t, 0 ≤ t → t < D 9 0 → M 15 t = bI (wkB D T t)
def SeR (D : Mem) (T : Int → Bool) (M : Mem) : Prop := ∀ (i : Nat) (x : Int), (ordF D T)[i]? = some x → M 18 i = bI (visB D T x)
def Sh (D : Mem) (T : Int → Bool) (M : Mem) : Prop := TkR D T M ∧ WkR D T M ∧ OL M (ordF D T) ∧ SeR D T M
/-- a set of slips that holds the put of each link of its puts -/
def Cl (D : Mem) (T : Int → Bool) : Prop := ∀ P : Int, 0 ≤ P → P < D 9 0 → D 2 P = 0 → T P = true → 0 ≤ D 6 P → T (D 6 P / 4) = true
theorem Cl_nat {D : Mem} (hD : okP D) {T : Int → Bool} (h : Cl D T) : ∀ P : Int, 0 ≤ P → P < (D 9 0).toNat → D 2 P = 0 → T P = true → 0 ≤ D 6 P → T (D 6 P / 4) = true := fun P h0 h1 => h P h0 (by have := hD.2.1; omega)
theorem ordF_eq {D : Mem} (hD : okP D) (hO : okO D (D 9 0).toNat) {T : Int → Bool} (hC : Cl D T) : ordF D T = (ordF D tT).filter (fun x => T (x / 4)) := kd_filter hO (Cl_nat hD hC) 300 (-2)
theorem ordF_len {D : Mem} (hD : okP D) (hO : okO D (D 9 0).toNat) {T : Int → Bool} (hC : Cl D T) : (ordF D T).length ≤ 768 := by
  have hn := hD.2.1
  rw [ordF_eq hD hO hC]
  have h1 := List.length_filter_le (fun x => T (x / 4)) (ordF D tT)
  have h2 := KD_len hO (by omega)
  unfold ordF at h1 ⊢
  omega
theorem ordF_mem {D : Mem} (hD : okP D) (hO : okO D (D 9 0).toNat) {T : Int → Bool} {x : Int} (h : x ∈ ordF D T) : 0 ≤ x ∧ x / 4 < D 9 0 ∧ D 2 (x / 4) = 0 ∧ T (x / 4) = true ∧ x % 4 < D 3 (x / 4) := by
  have hn := hD.2.1
  have := (kd_up hO 300 (-2) x h).1
  exact ⟨this.1, by omega, this.2.2.1, this.2.2.2.1, this.2.2.2.2⟩
theorem need_link {D : Mem} {P : Int} (h2 : D 2 P = 0) (h6 : 0 ≤ D 6 P) : D 6 P / 4 ∈ needL D P := by
  unfold needL
  refine List.mem_append_right _ ?_
  rw [if_neg (by omega), if_pos ⟨h6, by omega⟩]
  unfold ndx
  rw [if_pos (by omega)]
  simp
theorem tkB_Cl {D : Mem} (hD : okP D) (p : Int) : Cl D (tkB D p) := by
  intro P h0 h1 h2 hT h6
  rw [tkB_eq hD p h0 h1, Bool.and_eq_true] at hT
  exact List.all_eq_true.mp hT.2 _ (need_link h2 h6)
theorem Vi_at {D : Mem} {T : Int → Bool} {i : Nat} {x : Int} (h : (ordF D T)[i]? = some x) : Vi D T i = visB D T x := by
  unfold Vi
  rw [show ((i : Int)).toNat = i by omega, List.getD_eq_getElem?_getD, h]
  rfl
theorem Sh.row {D : Mem} {T : Int → Bool} {Mx My : Mem} {rs : List Nat} (h : Sh D T Mx) (hf : Fx rs Mx My) (h14 : 14 ∉ rs) (h15 : 15 ∉ rs) (h16 : 16 ∉ rs) (h17 : 17 ∉ rs) (h18 : 18 ∉ rs) : Sh D T My :=
  ⟨fun t a b => (hf.at 14 h14 t).trans (h.1 t a b), fun t a b => (hf.at 15 h15 t).trans (h.2.1 t a b), OL_row h.2.2.1 (hf 16 h16) (hf 17 h17), fun i x hx => (hf.at 18 h18 _).trans (h.2.2.2 i x hx)⟩
theorem Sh.vi {D : Mem} {T : Int → Bool} {Mx : Mem} (h : Sh D T Mx) : ∀ i, 0 ≤ i → i < Mx 17 0 → Mx 18 i = bI (Vi D T i) := by
  intro i h0 h1
  rw [h.2.2.1.1] at h1
  have hlt : i.toNat < (ordF D T).length := by omega
  have hx := List.getElem?_eq_getElem hlt
  have h2 := h.2.2.2 i.toNat _ hx
  have h3 := Vi_at hx
  rw [show ((i.toNat : Nat) : Int) = i by omega] at h2 h3
  rw [h2, h3]
set_option maxHeartbeats 4000000 in
set_option maxRecDepth 100000 in
/-- findText -/
theorem c_findText (Z : LZ) (o : Nat) (a : Nat → Nat) {D M : Mem} (hP : Pers D M) (hM : RM D) (hD : okP D) (hO : okO D (D 9 0).toNat) (T : Int → Bool) (hC : Cl D T) (hT : TkR D T M)  : Tm Z o a jX9_findText [] M (fun z M2 => z = txtN D T ∧ Fx [15, 16, 17, 18, 21, 22, 23] M M2 ∧ Sh D T M2) := by
  refine tr_of pn_X9_findText (Nat.le_of_ble_eq_true rfl) (vI_catO o _) ?_
  show G Z jX9_findText E0 (QM Z jX9_findText (pI Z o a (fun z M2 => z = txtN D T ∧ Fx [15, 16, 17, 18, 21, 22, 23] M M2 ∧ Sh D T M2))) 0 [.ref o] [] (mW Z o a M) 0 0
  have hn := hD.2.1
  have hlen := ordF_len hD hO hC
  have loop : ∀ (fuel : Nat) (c i : Int) (Mq : Mem), (ordF D T).length - i < fuel → 0 ≤ i → i ≤ (ordF D T).length → c = cntB (Vi D T) i.toNat → Fx [15, 16, 17, 18, 21, 22, 23] M Mq → TkR D T Mq → WkR D T Mq → OL Mq (ordF D T) → (∀ (j : Nat) (y : Int), j < i → (ordF D T)[j]? = some y → Mq 18 j = bI (visB D T y)) → G Z jX9_findText E0 (QM Z jX9_findText (pI Z o a (fun z M2 => z = txtN D T ∧ Fx [15, 16, 17, 18, 21, 22, 23] M M2 ∧ Sh D T M2))) 12 [.ref o, .int (iI c), .int (iI i)] [] (mW Z o a Mq) 0 0 := by
    intro fuel
    induction fuel with
    | zero => intros; exfalso; omega
    | succ fuel ih =>
      intro c i Mq hfu hi0 hi1 hc hF hTk hWk hOL hSe
      by_cases hlt : i < (ordF D T).length
      · have hcr := cntB_rg (Vi D T) i.toNat
        obtain ⟨x, hx⟩ : ∃ x, (ordF D T)[i.toNat]? = some x := ⟨_, List.getElem?_eq_getElem (by omega)⟩
        have hval : Mq 16 i = x := by
          have := hOL.2 i.toNat x hx
          rwa [show ((i.toNat : Nat) : Int) = i by omega] at this
        obtain ⟨m1, m2, m3, m4, m5⟩ := ordF_mem hD hO (List.mem_of_getElem? hx)
        have mid : ∀ v : Int, v = bI (visB D T x) → G Z jX9_findText E0 (QM Z jX9_findText (pI Z o a (fun z M2 => z = txtN D T ∧ Fx [15, 16, 17, 18, 21, 22, 23] M M2 ∧ Sh D T M2))) 59 [.ref o, .int (iI c), .int (iI i)] [.int (iI v), .int (iI i), .ref (a 18)] (mW Z o a Mq) 0 0 := by
          intro v hv
          subst hv
          refine mt_18 dX9_findText_59 (by omega) (by omega) (bI_01 _) ?_
          refine g_iload_n 1 dX9_findText_60 rfl rfl ?_
          refine g_aload_n 0 dX9_findText_61 rfl rfl ?_
          refine mg_18 dX9_findText_62 rfl ?_
          refine g_iload_n 2 dX9_findText_65 rfl rfl ?_
          refine ml_18 ms_at dX9_findText_66 (by omega) (by omega) ?_
          refine gi_if_eq 74 dX9_findText_67 (by decide) (by first | exact hM _ _ | exact bI_Rg _ | exact ⟨by omega, by omega⟩) (fun c67 => ?_) (fun c67 => ?_)
          · refine g_iconst (iI 0) dX9_findText_74 rfl ?_
            refine gi_add dX9_findText_75 ?_
            refine g_istore_n 1 dX9_findText_76 rfl (Nat.le_of_ble_eq_true rfl) (Nat.le_of_ble_eq_true rfl) rfl ?_
            dsimp only [sto]
            refine gi_inc dX9_findText_77 rfl (Nat.le_of_ble_eq_true rfl) rfl ?_
            dsimp only [sto]
            refine g_goto 12 dX9_findText_80 (by decide) ?_
            exact ih _ _ _ (by omega) (by omega) (by omega) (by
              rw [show (i + 1).toNat = i.toNat + 1 by omega, cntB, ← hc]
              have hv := Vi_at hx
              rw [hv]
              first | omega | (have := bI_1 c67; omega)) (hF.ms (by decide)) hTk hWk (OL_row hOL rfl rfl) (fun j y a1 a2 => by
              by_cases e : (j : Int) = i
              · have e2 : j = i.toNat := by omega
                rw [e2, hx] at a2
                cases a2
                rw [e, ms_at]
              · rw [ms_off e]; exact hSe j y (by omega) a2)
          · refine g_iconst (iI 1) dX9_findText_70 rfl ?_
            refine g_goto 75 dX9_findText_71 (by decide) ?_
            refine gi_add dX9_findText_75 ?_
            refine g_istore_n 1 dX9_findText_76 rfl (Nat.le_of_ble_eq_true rfl) (Nat.le_of_ble_eq_true rfl) rfl ?_
            dsimp only [sto]
            refine gi_inc dX9_findText_77 rfl (Nat.le_of_ble_eq_true rfl) rfl ?_
            dsimp only [sto]
            refine g_goto 12 dX9_findText_80 (by decide) ?_
            exact ih _ _ _ (by omega) (by omega) (by omega) (by
              rw [show (i + 1).toNat = i.toNat + 1 by omega, cntB, ← hc]
              have hv := Vi_at hx
              rw [hv]
              first | omega | (have := bI_1 c67; omega)) (hF.ms (by decide)) hTk hWk (OL_row hOL rfl rfl) (fun j y a1 a2 => by
              by_cases e : (j : Int) = i
              · have e2 : j = i.toNat := by omega
                rw [e2, hx] at a2
                cases a2
                rw [e, ms_at]
              · rw [ms_off e]; exact hSe j y (by omega) a2)
        refine g_iload_n 2 dX9_findText_12 rfl rfl ?_
        refine g_aload_n 0 dX9_findText_13 rfl rfl ?_
        refine mg_17 hOL.1 dX9_findText_14 rfl ?_
        refine gi_icmp_ge 83 dX9_findText_17 (by decide) (by first | exact hM _ _ | exact bI_Rg _ | exact ⟨by omega, by omega⟩) (by first | exact hM _ _ | exact bI_Rg _ | exact ⟨by omega, by omega⟩) (fun c17 => ?_) (fun c17 => ?_)
        · exfalso; omega
        · refine g_aload_n 0 dX9_findText_20 rfl rfl ?_
          refine mg_18 dX9_findText_21 rfl ?_
          refine g_iload_n 2 dX9_findText_24 rfl rfl ?_
          refine g_aload_n 0 dX9_findText_25 rfl rfl ?_
          refine mg_15 dX9_findText_26 rfl ?_
          refine g_aload_n 0 dX9_findText_29 rfl rfl ?_
          refine mg_16 dX9_findText_30 rfl ?_
          refine g_iload_n 2 dX9_findText_33 rfl rfl ?_
          refine ml_16 hval dX9_findText_34 (by omega) (by omega) ?_
          refine g_iconst (iI 4) dX9_findText_35 rfl ?_
          refine gi_div dX9_findText_36 (by omega) (by omega) (by decide) (by decide) ?_
          refine ml_15 (hWk _ (by omega) (by omega)) dX9_findText_37 (by omega) (by omega) ?_
          refine gi_if_eq 58 dX9_findText_38 (by decide) (by first | exact hM _ _ | exact bI_Rg _ | exact ⟨by omega, by omega⟩) (fun c38 => ?_) (fun c38 => ?_)
          · refine g_iconst (iI 0) dX9_findText_58 rfl ?_
            exact mid _ (by
              unfold visB
              first
                | exact bI_and_l c38
                | (rw [bI_eq0.mp c51]; cases hw : wkB D T (x / 4)
                   · rw [hw] at c38; exact absurd rfl c38
                   · rfl)
                | (cases hs : decide (0 < strikesF D (wkB D T) x)
                   · rw [hs] at c51; exact absurd rfl c51
                   · cases wkB D T (x / 4) <;> rfl))
          · refine g_aload_n 0 dX9_findText_41 rfl rfl ?_
            refine g_aload_n 0 dX9_findText_42 rfl rfl ?_
            refine mg_16 dX9_findText_43 rfl ?_
            refine g_iload_n 2 dX9_findText_46 rfl rfl ?_
            refine ml_16 hval dX9_findText_47 (by omega) (by omega) ?_
            refine mcI lkX9_128 (c_isStruck Z o a (hP.fx hF (by decide)) hM hD _ (by exact ⟨by omega, by omega⟩) (wkB D T) hWk) dX9_findText_48 rfl (And.intro (Nat.le_of_ble_eq_true rfl) (Nat.le_of_ble_eq_true rfl)) rfl (Nat.le_of_ble_eq_true rfl) rfl rfl (Nat.le_of_ble_eq_true rfl) (Nat.le_of_ble_eq_true rfl) (fun z48 M48 h48 => ?_)
            obtain ⟨q1, q2⟩ := h48
            rw [q1, q2]
            refine gi_if_ne 58 dX9_findText_51 (by decide) (by first | exact hM _ _ | exact bI_Rg _ | exact ⟨by omega, by omega⟩) (fun c51 => ?_) (fun c51 => ?_)
            · refine g_iconst (iI 0) dX9_findText_58 rfl ?_
              exact mid _ (by
                unfold visB
                first
                  | exact bI_and_l c38
                  | (rw [bI_eq0.mp c51]; cases hw : wkB D T (x / 4)
                     · rw [hw] at c38; exact absurd rfl c38
                     · rfl)
                  | (cases hs : decide (0 < strikesF D (wkB D T) x)
                     · rw [hs] at c51; exact absurd rfl c51
                     · cases wkB D T (x / 4) <;> rfl))
            · refine g_iconst (iI 1) dX9_findText_54 rfl ?_
              refine g_goto 59 dX9_findText_55 (by decide) ?_
              exact mid _ (by
                unfold visB
                first
                  | exact bI_and_l c38
                  | (rw [bI_eq0.mp c51]; cases hw : wkB D T (x / 4)
                     · rw [hw] at c38; exact absurd rfl c38
                     · rfl)
                  | (cases hs : decide (0 < strikesF D (wkB D T) x)
                     · rw [hs] at c51; exact absurd rfl c51
                     · cases wkB D T (x / 4) <;> rfl))
      · refine g_iload_n 2 dX9_findText_12 rfl rfl ?_
        refine g_aload_n 0 dX9_findText_13 rfl rfl ?_
        refine mg_17 hOL.1 dX9_findText_14 rfl ?_
        refine gi_icmp_ge 83 dX9_findText_17 (by decide) (by first | exact hM _ _ | exact bI_Rg _ | exact ⟨by omega, by omega⟩) (by first | exact hM _ _ | exact bI_Rg _ | exact ⟨by omega, by omega⟩) (fun c17 => ?_) (fun c17 => ?_)
        · refine g_iload_n 1 dX9_findText_83 rfl rfl ?_
          refine g_iret dX9_findText_84 rfl (Nat.le_of_ble_eq_true rfl) (Nat.le_of_ble_eq_true rfl) ⟨_, _, rfl, rfl, ?_⟩
          refine ⟨?_, hF, hTk, hWk, hOL, fun j y a => hSe j y (by have := (List.getElem?_eq_some_iff.mp a).1; omega) a⟩
          unfold txtN
          rw [hc, show i.toNat = (ordF D T).length by omega]
        · exfalso; omega
  refine g_aload_n 0 dX9_findText_0 rfl rfl ?_
  refine mcV lkX9_122 (c_findWorks Z o a hP hM hD T hT) dX9_findText_1 rfl (And.intro (Nat.le_of_ble_eq_true rfl) (Nat.le_of_ble_eq_true rfl)) rfl (Nat.le_of_ble_eq_true rfl) rfl rfl (Nat.le_of_ble_eq_true rfl) (Nat.le_of_ble_eq_true rfl) (fun M1 h1 => ?_)
  obtain ⟨hF1, hW1⟩ := h1
  refine g_aload_n 0 dX9_findText_4 rfl rfl ?_
  refine mcV lkX9_125 (c_findOrder Z o a (hP.fx hF1 (by decide)) hM hD hO T (fun t a1 a2 => (hF1.at 14 (by decide) t).trans (hT t a1 a2)) hlen) dX9_findText_5 rfl (And.intro (Nat.le_of_ble_eq_true rfl) (Nat.le_of_ble_eq_true rfl)) rfl (Nat.le_of_ble_eq_true rfl) rfl rfl (Nat.le_of_ble_eq_true rfl) (Nat.le_of_ble_eq_true rfl) (fun M5 h5 => ?_)
  obtain ⟨hF2, hOL⟩ := h5
  refine g_iconst (iI 0) dX9_findText_8 rfl ?_
  refine g_istore_n 1 dX9_findText_9 rfl (Nat.le_of_ble_eq_true rfl) (Nat.le_of_ble_eq_true rfl) rfl ?_
  dsimp only [sto]
  refine g_iconst (iI 0) dX9_findText_10 rfl ?_
  refine g_istore_n 2 dX9_findText_11 rfl (Nat.le_of_ble_eq_true rfl) (Nat.le_of_ble_eq_true rfl) rfl ?_
  dsimp only [sto]
  exact loop ((ordF D T).length + 1) 0 0 _ (by omega) (by omega) (by omega) rfl ((hF1.sub (by decide)).tr hF2 (by decide)) (fun t a1 a2 => (hF2.at 14 (by decide) t).trans ((hF1.at 14 (by decide) t).trans (hT t a1 a2))) (fun t a1 a2 => (hF2.at 15 (by decide) t).trans (hW1 t a1 a2)) hOL (fun j y a1 a2 => by omega)
set_option maxHeartbeats 4000000 in
set_option maxRecDepth 100000 in
/-- sheet -/
theorem c_sheet (Z : LZ) (o : Nat) (a : Nat → Nat) {D M : Mem} (hP : Pers D M) (hM : RM D) (hD : okP D) (hO : okO D (D 9 0).toNat) (p : Int) (h0 : 0 ≤ p) (h1 : p < 6)  : Tm Z o a jX9_sheet [p] M (fun z M2 => z = txtN D (tkB D p) ∧ Fx [14, 15, 16, 17, 18, 19, 20, 21, 22, 23] M M2 ∧ Sh D (tkB D p) M2) := by
  refine tr_of pn_X9_sheet (Nat.le_of_ble_eq_true rfl) (vI_catO o _) ?_
  show G Z jX9_sheet E0 (QM Z jX9_sheet (pI Z o a (fun z M2 => z = txtN D (tkB D p) ∧ Fx [14, 15, 16, 17, 18, 19, 20, 21, 22, 23] M M2 ∧ Sh D (tkB D p) M2))) 0 [.ref o, .int (iI p)] [] (mW Z o a M) 0 0
  refine g_aload_n 0 dX9_sheet_0 rfl rfl ?_
  refine g_iload_n 1 dX9_sheet_1 rfl rfl ?_
  refine mcI lkX9_131 (c_findTaken Z o a hP hM hD p h0 h1) dX9_sheet_2 rfl (And.intro (Nat.le_of_ble_eq_true rfl) (Nat.le_of_ble_eq_true rfl)) rfl (Nat.le_of_ble_eq_true rfl) rfl rfl (Nat.le_of_ble_eq_true rfl) (Nat.le_of_ble_eq_true rfl) (fun z2 M2 h2 => ?_)
  obtain ⟨q1, hF1, hT1⟩ := h2
  refine g_pop dX9_sheet_5 rfl ?_
  refine g_aload_n 0 dX9_sheet_6 rfl rfl ?_
  refine mcI lkX9_134 (c_findText Z o a (hP.fx hF1 (by decide)) hM hD hO (tkB D p) (tkB_Cl hD p) hT1) dX9_sheet_7 rfl (And.intro (Nat.le_of_ble_eq_true rfl) (Nat.le_of_ble_eq_true rfl)) rfl (Nat.le_of_ble_eq_true rfl) rfl rfl (Nat.le_of_ble_eq_true rfl) (Nat.le_of_ble_eq_true rfl) (fun z7 M7 h7 => ?_)
  obtain ⟨q2, hF2, hS⟩ := h7
  refine g_iret dX9_sheet_10 rfl (Nat.le_of_ble_eq_true rfl) (Nat.le_of_ble_eq_true rfl) ⟨_, _, rfl, rfl, ?_⟩
  exact ⟨q2, (hF1.sub (by decide)).tr hF2 (by decide), hS⟩
end
section
/-! THE REFERENCE: marks -/
def fF (F : List Int) (i : Int) : Int := F.getD i.toNat 0
def inIx (F : List Int) (x : Int) : Int := lastIx (fF F) x F.length
theorem lastIx_congr {f g : Int → Int} {x : Int} : ∀ k : Nat, (∀ i : Int, 0 ≤ i → i < k → f i = g i) → lastIx f x k = lastIx g x k := by
  intro k
  induction k with
  | zero => intro _; rfl
  | succ k ih =>
    intro h
    unfold lastIx
    rw [h k (by omega) (by omega), ih (fun i a b => h i a (by omega))]
theorem OL_fF {Mx : Mem} {F : List Int} (h : OL Mx F) {i : Int} (h0 : 0 ≤ i) (h1 : i < F.length) : Mx 16 i = fF F i := by
  have hlt : i.toNat < F.length := by omega
  have := h.2 i.toNat _ (List.getElem?_eq_getElem hlt)
  rw [show ((i.toNat : Nat) : Int) = i by omega] at this
  rw [this]
  unfold fF
  rw [List.getD_eq_getElem?_getD, List.getElem?_eq_getElem hlt]
  rfl
theorem fF_mem {F : List Int} {i : Int} (h0 : 0 ≤ i) (h1 : i < F.length) : fF F i ∈ F := by
  have hlt : i.toNat < F.length := by omega
  unfold fF
  rw [List.getD_eq_getElem?_getD, List.getElem?_eq_getElem hlt]
  exact List.getElem_mem hlt
theorem Vi_fF {D : Mem} {T : Int → Bool} (i : Int) : Vi D T i = visB D T (fF (ordF D T) i) := rfl
theorem Sh.io {D : Mem} (hD : okP D) (hO : okO D (D 9 0).toNat) {T : Int → Bool} (hC : Cl D T) {Mx : Mem} (h : Sh D T Mx) : 0 ≤ Mx 17 0 ∧ Mx 17 0 ≤ 768 ∧ (∀ i, 0 ≤ i → i < Mx 17 0 → Rg (Mx 16 i)) := by
  have hl := ordF_len hD hO hC
  have hn := hD.2.1
  have h17 := h.2.2.1.1
  refine ⟨by omega, by omega, fun i h0 h1 => ?_⟩
  rw [OL_fF h.2.2.1 h0 (by omega)]
  have := ordF_mem hD hO (fF_mem (F := ordF D T) h0 (by omega))
  exact ⟨by omega, by omega⟩
theorem inIx_rg (F : List Int) (x : Int) : -1 ≤ inIx F x ∧ inIx F x < F.length := ⟨(lastIx_rg _ _ _).1, (lastIx_rg _ _ _).2.1⟩
theorem c_inOrderF (Z : LZ) (o : Nat) (a : Nat → Nat) {D M : Mem} (hP : Pers D M) (hM : RM D) (hD : okP D) (hO : okO D (D 9 0).toNat) {T : Int → Bool} (hC : Cl D T) (hS : Sh D T M) (x : Int) (hx : Rg x) : Tm Z o a jX9_inOrder [x] M (fun z M2 => z = inIx (ordF D T) x ∧ M2 = M) := by
  obtain ⟨h1, h2, h3⟩ := hS.io hD hO hC
  refine tr_post (c_inOrder Z o a hP hM x hx h1 h2 h3) ?_
  rintro r w ⟨z, M2, rfl, rfl, e1, e2⟩
  refine ⟨z, M2, rfl, rfl, ?_, e1⟩
  rw [e2]
  unfold inIx
  rw [hS.2.2.1.1, show ((ordF D T).length : Int).toNat = (ordF D T).length by omega]
  exact lastIx_congr _ (fun i a b => OL_fF hS.2.2.1 a b)
def coB (D : Mem) (F : List Int) (m i : Int) : Bool := (decide (inIx F (D 4 (12 * m)) ≤ i) && decide (i ≤ inIx F (D 4 (12 * m + 1)))) || ((decide (inIx F (D 4 (12 * m)) ≤ i) && decide (D 6 m ≠ -3)) && (decide (D 6 m = -2) || decide (i < inIx F (D 6 m))))
def tcB (D : Mem) (T : Int → Bool) (t i s : Int) : Bool := wkB D T s && (decide (D 2 s = 2) && (decide (D 7 s = t) && coB D (ordF D T) s i))
def ltF (D : Mem) (C : Int → Bool) : Nat → Int
  | 0 => -1
  | s + 1 => if C s = true ∧ (ltF D C s < 0 ∨ laterB D s (ltF D C s) = true) then (s : Int) else ltF D C s
theorem ltF_rg (D : Mem) (C : Int → Bool) : ∀ k : Nat, -1 ≤ ltF D C k ∧ ltF D C k < k := by
  intro k
  induction k with
  | zero => simp [ltF]
  | succ k ih => unfold ltF; split <;> omega
def hasT (D : Mem) (T : Int → Bool) (i t : Int) : Bool := decide (0 ≤ ltF D (tcB D T t i) (D 9 0).toNat) && decide (D 8 (ltF D (tcB D T t i) (D 9 0).toNat) = 1)
def p2 (k : Nat) : Int := 2 ^ k
def tinF (D : Mem) (T : Int → Bool) (i : Int) : Nat → Int
  | 0 => 0
  | t + 1 => tinF D T i t + (if hasT D T i t = true then p2 t else 0)
theorem shl_t {t : Int} (h0 : 0 ≤ t) (h1 : t < 4) : iI 1 <<< (iI t &&& 31) = iI (p2 t.toNat) := by
  have h : t = 0 ∨ t = 1 ∨ t = 2 ∨ t = 3 := by omega
  rcases h with rfl | rfl | rfl | rfl <;> decide
theorem tinF_rg (D : Mem) (T : Int → Bool) (i : Int) : 0 ≤ tinF D T i 4 ∧ tinF D T i 4 ≤ 15 := by
  simp only [tinF, p2]
  split <;> split <;> split <;> split <;> simp
set_option maxHeartbeats 4000000 in
set_option maxRecDepth 100000 in
/-- covers -/
theorem c_covers (Z : LZ) (o : Nat) (a : Nat → Nat) {D M : Mem} (hP : Pers D M) (hM : RM D) (hD : okP D) (hO : okO D (D 9 0).toNat) (T : Int → Bool) (hC : Cl D T) (hS : Sh D T M) (m i : Int) (hm0 : 0 ≤ m) (hm1 : m < D 9 0) (h2 : D 2 m = 2) (hi0 : 0 ≤ i) (hi1 : i < 1000)  : Tm Z o a jX9_covers [m, i] M (fun z M2 => z = bI (coB D (ordF D T) m i) ∧ M2 = M) := by
  refine tr_of pn_X9_covers (Nat.le_of_ble_eq_true rfl) (vI_catO o _) ?_
  show G Z jX9_covers E0 (QM Z jX9_covers (pI Z o a (fun z M2 => z = bI (coB D (ordF D T) m i) ∧ M2 = M))) 0 [.ref o, .int (iI m), .int (iI i)] [] (mW Z o a M) 0 0
  have hn := hD.2.1
  have hl := ordF_len hD hO hC
  have r1 := inIx_rg (ordF D T) (D 4 (12 * m))
  have r2 := inIx_rg (ordF D T) (D 4 (12 * m + 1))
  have r3 := inIx_rg (ordF D T) (D 6 m)
  refine g_aload_n 0 dX9_covers_0 rfl rfl ?_
  refine g_aload_n 0 dX9_covers_1 rfl rfl ?_
  refine mg_4 dX9_covers_2 rfl ?_
  refine g_bipush (iI 12) dX9_covers_5 (by decide) ?_
  refine g_iload_n 1 dX9_covers_7 rfl rfl ?_
  refine gi_mul dX9_covers_8 ?_
  refine ml_4 (hP.at 4 (by decide) _) dX9_covers_9 (by omega) (by omega) ?_
  refine mcI lkX9_138 (c_inOrderF Z o a hP hM hD hO hC hS _ (hM _ _)) dX9_covers_10 rfl (And.intro (Nat.le_of_ble_eq_true rfl) (Nat.le_of_ble_eq_true rfl)) rfl (Nat.le_of_ble_eq_true rfl) rfl rfl (Nat.le_of_ble_eq_true rfl) (Nat.le_of_ble_eq_true rfl) (fun z10 M10 h10 => ?_)
  obtain ⟨q1, q2⟩ := h10
  rw [q1, q2]
  refine g_istore_n 3 dX9_covers_13 rfl (Nat.le_of_ble_eq_true rfl) (Nat.le_of_ble_eq_true rfl) rfl ?_
  dsimp only [sto]
  refine g_aload_n 0 dX9_covers_14 rfl rfl ?_
  refine g_aload_n 0 dX9_covers_15 rfl rfl ?_
  refine mg_4 dX9_covers_16 rfl ?_
  refine g_bipush (iI 12) dX9_covers_19 (by decide) ?_
  refine g_iload_n 1 dX9_covers_21 rfl rfl ?_
  refine gi_mul dX9_covers_22 ?_
  refine g_iconst (iI 1) dX9_covers_23 rfl ?_
  refine gi_add dX9_covers_24 ?_
  refine ml_4 (hP.at 4 (by decide) _) dX9_covers_25 (by omega) (by omega) ?_
  refine mcI lkX9_138 (c_inOrderF Z o a hP hM hD hO hC hS _ (hM _ _)) dX9_covers_26 rfl (And.intro (Nat.le_of_ble_eq_true rfl) (Nat.le_of_ble_eq_true rfl)) rfl (Nat.le_of_ble_eq_true rfl) rfl rfl (Nat.le_of_ble_eq_true rfl) (Nat.le_of_ble_eq_true rfl) (fun z26 M26 h26 => ?_)
  obtain ⟨q1, q2⟩ := h26
  rw [q1, q2]
  refine g_istore dX9_covers_29 (Nat.le_of_ble_eq_true rfl) (Nat.le_of_ble_eq_true rfl) rfl ?_
  dsimp only [sto]
  refine g_iload_n 2 dX9_covers_31 rfl rfl ?_
  refine g_iload_n 3 dX9_covers_32 rfl rfl ?_
  refine gi_icmp_lt 44 dX9_covers_33 (by decide) (by first | exact hM _ _ | exact bI_Rg _ | exact ⟨by omega, by omega⟩) (by first | exact hM _ _ | exact bI_Rg _ | exact ⟨by omega, by omega⟩) (fun c33 => ?_) (fun c33 => ?_)
  · refine g_iload_n 2 dX9_covers_44 rfl rfl ?_
    refine g_iload_n 3 dX9_covers_45 rfl rfl ?_
    refine gi_icmp_lt 60 dX9_covers_46 (by decide) (by first | exact hM _ _ | exact bI_Rg _ | exact ⟨by omega, by omega⟩) (by first | exact hM _ _ | exact bI_Rg _ | exact ⟨by omega, by omega⟩) (fun c46 => ?_) (fun c46 => ?_)
    · refine g_iconst (iI 0) dX9_covers_60 rfl ?_
      refine g_zret dX9_covers_61 rfl (narrow_bool (by first | exact Or.inl rfl | exact Or.inr rfl | assumption | omega)) (Nat.le_of_ble_eq_true rfl) (Nat.le_of_ble_eq_true rfl) ⟨_, _, rfl, rfl, ?_⟩
      refine ⟨?_, rfl⟩
      unfold coB bI
      simp only [Bool.or_eq_true, Bool.and_eq_true, decide_eq_true_eq]
      first | (exfalso; omega) | rw [if_pos (by omega)] | rw [if_neg (by omega)]
    · refine g_aload_n 0 dX9_covers_49 rfl rfl ?_
      refine mg_6 dX9_covers_50 rfl ?_
      refine g_iload_n 1 dX9_covers_53 rfl rfl ?_
      refine ml_6 (hP.at 6 (by decide) _) dX9_covers_54 (by omega) (by omega) ?_
      refine g_bipush (iI (-3)) dX9_covers_55 (by decide) ?_
      refine gi_icmp_ne 62 dX9_covers_57 (by decide) (by first | exact hM _ _ | exact bI_Rg _ | exact ⟨by omega, by omega⟩) (by first | exact hM _ _ | exact bI_Rg _ | exact ⟨by omega, by omega⟩) (fun c57 => ?_) (fun c57 => ?_)
      · refine g_aload_n 0 dX9_covers_62 rfl rfl ?_
        refine mg_6 dX9_covers_63 rfl ?_
        refine g_iload_n 1 dX9_covers_66 rfl rfl ?_
        refine ml_6 (hP.at 6 (by decide) _) dX9_covers_67 (by omega) (by omega) ?_
        refine g_bipush (iI (-2)) dX9_covers_68 (by decide) ?_
        refine gi_icmp_eq 87 dX9_covers_70 (by decide) (by first | exact hM _ _ | exact bI_Rg _ | exact ⟨by omega, by omega⟩) (by first | exact hM _ _ | exact bI_Rg _ | exact ⟨by omega, by omega⟩) (fun c70 => ?_) (fun c70 => ?_)
        · refine g_iconst (iI 1) dX9_covers_87 rfl ?_
          refine g_goto 92 dX9_covers_88 (by decide) ?_
          refine g_zret dX9_covers_92 rfl (narrow_bool (by first | exact Or.inl rfl | exact Or.inr rfl | assumption | omega)) (Nat.le_of_ble_eq_true rfl) (Nat.le_of_ble_eq_true rfl) ⟨_, _, rfl, rfl, ?_⟩
          refine ⟨?_, rfl⟩
          unfold coB bI
          simp only [Bool.or_eq_true, Bool.and_eq_true, decide_eq_true_eq]
          first | (exfalso; omega) | rw [if_pos (by omega)] | rw [if_neg (by omega)]
        · refine g_iload_n 2 dX9_covers_73 rfl rfl ?_
          refine g_aload_n 0 dX9_covers_74 rfl rfl ?_
          refine g_aload_n 0 dX9_covers_75 rfl rfl ?_
          refine mg_6 dX9_covers_76 rfl ?_
          refine g_iload_n 1 dX9_covers_79 rfl rfl ?_
          refine ml_6 (hP.at 6 (by decide) _) dX9_covers_80 (by omega) (by omega) ?_
          refine mcI lkX9_138 (c_inOrderF Z o a hP hM hD hO hC hS _ (hM _ _)) dX9_covers_81 rfl (And.intro (Nat.le_of_ble_eq_true rfl) (Nat.le_of_ble_eq_true rfl)) rfl (Nat.le_of_ble_eq_true rfl) rfl rfl (Nat.le_of_ble_eq_true rfl) (Nat.le_of_ble_eq_true rfl) (fun z81 M81 h81 => ?_)
          obtain ⟨q1, q2⟩ := h81
          rw [q1, q2]
          refine gi_icmp_ge 91 dX9_covers_84 (by decide) (by first | exact hM _ _ | exact bI_Rg _ | exact ⟨by omega, by omega⟩) (by first | exact hM _ _ | exact bI_Rg _ | exact ⟨by omega, by omega⟩) (fun c84 => ?_) (fun c84 => ?_)
          · refine g_iconst (iI 0) dX9_covers_91 rfl ?_
            refine g_zret dX9_covers_92 rfl (narrow_bool (by first | exact Or.inl rfl | exact Or.inr rfl | assumption | omega)) (Nat.le_of_ble_eq_true rfl) (Nat.le_of_ble_eq_true rfl) ⟨_, _, rfl, rfl, ?_⟩
            refine ⟨?_, rfl⟩
            unfold coB bI
            simp only [Bool.or_eq_true, Bool.and_eq_true, decide_eq_true_eq]
            first | (exfalso; omega) | rw [if_pos (by omega)] | rw [if_neg (by omega)]
          · refine g_iconst (iI 1) dX9_covers_87 rfl ?_
            refine g_goto 92 dX9_covers_88 (by decide) ?_
            refine g_zret dX9_covers_92 rfl (narrow_bool (by first | exact Or.inl rfl | exact Or.inr rfl | assumption | omega)) (Nat.le_of_ble_eq_true rfl) (Nat.le_of_ble_eq_true rfl) ⟨_, _, rfl, rfl, ?_⟩
            refine ⟨?_, rfl⟩
            unfold coB bI
            simp only [Bool.or_eq_true, Bool.and_eq_true, decide_eq_true_eq]
            first | (exfalso; omega) | rw [if_pos (by omega)] | rw [if_neg (by omega)]
      · refine g_iconst (iI 0) dX9_covers_60 rfl ?_
        refine g_zret dX9_covers_61 rfl (narrow_bool (by first | exact Or.inl rfl | exact Or.inr rfl | assumption | omega)) (Nat.le_of_ble_eq_true rfl) (Nat.le_of_ble_eq_true rfl) ⟨_, _, rfl, rfl, ?_⟩
        refine ⟨?_, rfl⟩
        unfold coB bI
        simp only [Bool.or_eq_true, Bool.and_eq_true, decide_eq_true_eq]
        first | (exfalso; omega) | rw [if_pos (by omega)] | rw [if_neg (by omega)]
  · refine g_iload_n 2 dX9_covers_36 rfl rfl ?_
    refine g_iload dX9_covers_37 rfl ?_
    refine gi_icmp_gt 44 dX9_covers_39 (by decide) (by first | exact hM _ _ | exact bI_Rg _ | exact ⟨by omega, by omega⟩) (by first | exact hM _ _ | exact bI_Rg _ | exact ⟨by omega, by omega⟩) (fun c39 => ?_) (fun c39 => ?_)
    · refine g_iload_n 2 dX9_covers_44 rfl rfl ?_
      refine g_iload_n 3 dX9_covers_45 rfl rfl ?_
      refine gi_icmp_lt 60 dX9_covers_46 (by decide) (by first | exact hM _ _ | exact bI_Rg _ | exact ⟨by omega, by omega⟩) (by first | exact hM _ _ | exact bI_Rg _ | exact ⟨by omega, by omega⟩) (fun c46 => ?_) (fun c46 => ?_)
      · refine g_iconst (iI 0) dX9_covers_60 rfl ?_
        refine g_zret dX9_covers_61 rfl (narrow_bool (by first | exact Or.inl rfl | exact Or.inr rfl | assumption | omega)) (Nat.le_of_ble_eq_true rfl) (Nat.le_of_ble_eq_true rfl) ⟨_, _, rfl, rfl, ?_⟩
        refine ⟨?_, rfl⟩
        unfold coB bI
        simp only [Bool.or_eq_true, Bool.and_eq_true, decide_eq_true_eq]
        first | (exfalso; omega) | rw [if_pos (by omega)] | rw [if_neg (by omega)]
      · refine g_aload_n 0 dX9_covers_49 rfl rfl ?_
        refine mg_6 dX9_covers_50 rfl ?_
        refine g_iload_n 1 dX9_covers_53 rfl rfl ?_
        refine ml_6 (hP.at 6 (by decide) _) dX9_covers_54 (by omega) (by omega) ?_
        refine g_bipush (iI (-3)) dX9_covers_55 (by decide) ?_
        refine gi_icmp_ne 62 dX9_covers_57 (by decide) (by first | exact hM _ _ | exact bI_Rg _ | exact ⟨by omega, by omega⟩) (by first | exact hM _ _ | exact bI_Rg _ | exact ⟨by omega, by omega⟩) (fun c57 => ?_) (fun c57 => ?_)
        · refine g_aload_n 0 dX9_covers_62 rfl rfl ?_
          refine mg_6 dX9_covers_63 rfl ?_
          refine g_iload_n 1 dX9_covers_66 rfl rfl ?_
          refine ml_6 (hP.at 6 (by decide) _) dX9_covers_67 (by omega) (by omega) ?_
          refine g_bipush (iI (-2)) dX9_covers_68 (by decide) ?_
          refine gi_icmp_eq 87 dX9_covers_70 (by decide) (by first | exact hM _ _ | exact bI_Rg _ | exact ⟨by omega, by omega⟩) (by first | exact hM _ _ | exact bI_Rg _ | exact ⟨by omega, by omega⟩) (fun c70 => ?_) (fun c70 => ?_)
          · refine g_iconst (iI 1) dX9_covers_87 rfl ?_
            refine g_goto 92 dX9_covers_88 (by decide) ?_
            refine g_zret dX9_covers_92 rfl (narrow_bool (by first | exact Or.inl rfl | exact Or.inr rfl | assumption | omega)) (Nat.le_of_ble_eq_true rfl) (Nat.le_of_ble_eq_true rfl) ⟨_, _, rfl, rfl, ?_⟩
            refine ⟨?_, rfl⟩
            unfold coB bI
            simp only [Bool.or_eq_true, Bool.and_eq_true, decide_eq_true_eq]
            first | (exfalso; omega) | rw [if_pos (by omega)] | rw [if_neg (by omega)]
          · refine g_iload_n 2 dX9_covers_73 rfl rfl ?_
            refine g_aload_n 0 dX9_covers_74 rfl rfl ?_
            refine g_aload_n 0 dX9_covers_75 rfl rfl ?_
            refine mg_6 dX9_covers_76 rfl ?_
            refine g_iload_n 1 dX9_covers_79 rfl rfl ?_
            refine ml_6 (hP.at 6 (by decide) _) dX9_covers_80 (by omega) (by omega) ?_
            refine mcI lkX9_138 (c_inOrderF Z o a hP hM hD hO hC hS _ (hM _ _)) dX9_covers_81 rfl (And.intro (Nat.le_of_ble_eq_true rfl) (Nat.le_of_ble_eq_true rfl)) rfl (Nat.le_of_ble_eq_true rfl) rfl rfl (Nat.le_of_ble_eq_true rfl) (Nat.le_of_ble_eq_true rfl) (fun z81 M81 h81 => ?_)
            obtain ⟨q1, q2⟩ := h81
            rw [q1, q2]
            refine gi_icmp_ge 91 dX9_covers_84 (by decide) (by first | exact hM _ _ | exact bI_Rg _ | exact ⟨by omega, by omega⟩) (by first | exact hM _ _ | exact bI_Rg _ | exact ⟨by omega, by omega⟩) (fun c84 => ?_) (fun c84 => ?_)
            · refine g_iconst (iI 0) dX9_covers_91 rfl ?_
              refine g_zret dX9_covers_92 rfl (narrow_bool (by first | exact Or.inl rfl | exact Or.inr rfl | assumption | omega)) (Nat.le_of_ble_eq_true rfl) (Nat.le_of_ble_eq_true rfl) ⟨_, _, rfl, rfl, ?_⟩
              refine ⟨?_, rfl⟩
              unfold coB bI
              simp only [Bool.or_eq_true, Bool.and_eq_true, decide_eq_true_eq]
              first | (exfalso; omega) | rw [if_pos (by omega)] | rw [if_neg (by omega)]
            · refine g_iconst (iI 1) dX9_covers_87 rfl ?_
              refine g_goto 92 dX9_covers_88 (by decide) ?_
              refine g_zret dX9_covers_92 rfl (narrow_bool (by first | exact Or.inl rfl | exact Or.inr rfl | assumption | omega)) (Nat.le_of_ble_eq_true rfl) (Nat.le_of_ble_eq_true rfl) ⟨_, _, rfl, rfl, ?_⟩
              refine ⟨?_, rfl⟩
              unfold coB bI
              simp only [Bool.or_eq_true, Bool.and_eq_true, decide_eq_true_eq]
              first | (exfalso; omega) | rw [if_pos (by omega)] | rw [if_neg (by omega)]
        · refine g_iconst (iI 0) dX9_covers_60 rfl ?_
          refine g_zret dX9_covers_61 rfl (narrow_bool (by first | exact Or.inl rfl | exact Or.inr rfl | assumption | omega)) (Nat.le_of_ble_eq_true rfl) (Nat.le_of_ble_eq_true rfl) ⟨_, _, rfl, rfl, ?_⟩
          refine ⟨?_, rfl⟩
          unfold coB bI
          simp only [Bool.or_eq_true, Bool.and_eq_true, decide_eq_true_eq]
          first | (exfalso; omega) | rw [if_pos (by omega)] | rw [if_neg (by omega)]
    · refine g_iconst (iI 1) dX9_covers_42 rfl ?_
      refine g_zret dX9_covers_43 rfl (narrow_bool (by first | exact Or.inl rfl | exact Or.inr rfl | assumption | omega)) (Nat.le_of_ble_eq_true rfl) (Nat.le_of_ble_eq_true rfl) ⟨_, _, rfl, rfl, ?_⟩
      refine ⟨?_, rfl⟩
      unfold coB bI
      simp only [Bool.or_eq_true, Bool.and_eq_true, decide_eq_true_eq]
      first | (exfalso; omega) | rw [if_pos (by omega)] | rw [if_neg (by omega)]
set_option maxHeartbeats 4000000 in
set_option maxRecDepth 100000 in
/-- hasTint -/
theorem c_hasTint (Z : LZ) (o : Nat) (a : Nat → Nat) {D M : Mem} (hP : Pers D M) (hM : RM D) (hD : okP D) (hO : okO D (D 9 0).toNat) (T : Int → Bool) (hC : Cl D T) (hS : Sh D T M) (i t : Int) (hi0 : 0 ≤ i) (hi1 : i < 1000) (ht : Rg t)  : Tm Z o a jX9_hasTint [i, t] M (fun z M2 => z = bI (hasT D T i t) ∧ M2 = M) := by
  refine tr_of pn_X9_hasTint (Nat.le_of_ble_eq_true rfl) (vI_catO o _) ?_
  show G Z jX9_hasTint E0 (QM Z jX9_hasTint (pI Z o a (fun z M2 => z = bI (hasT D T i t) ∧ M2 = M))) 0 [.ref o, .int (iI i), .int (iI t)] [] (mW Z o a M) 0 0
  have hn := hD.2.1
  have loop : ∀ (fuel : Nat) (l s : Int), D 9 0 - s < fuel → 0 ≤ s → s ≤ D 9 0 → l = ltF D (tcB D T t i) s.toNat → G Z jX9_hasTint E0 (QM Z jX9_hasTint (pI Z o a (fun z M2 => z = bI (hasT D T i t) ∧ M2 = M))) 5 [.ref o, .int (iI i), .int (iI t), .int (iI l), .int (iI s)] [] (mW Z o a M) 0 0 := by
    intro fuel
    induction fuel with
    | zero => intros; exfalso; omega
    | succ fuel ih =>
      intro l s hfu hs0 hs1 hl
      have hlr := ltF_rg D (tcB D T t i) s.toNat
      by_cases hlt : s < D 9 0
      · refine g_iload dX9_hasTint_5 rfl ?_
        refine g_aload_n 0 dX9_hasTint_7 rfl rfl ?_
        refine mg_9 (hP.at 9 (by decide) _) dX9_hasTint_8 rfl ?_
        refine gi_icmp_ge 83 dX9_hasTint_11 (by decide) (by first | exact hM _ _ | exact bI_Rg _ | exact ⟨by omega, by omega⟩) (by first | exact hM _ _ | exact bI_Rg _ | exact ⟨by omega, by omega⟩) (fun c11 => ?_) (fun c11 => ?_)
        · exfalso; omega
        · refine g_aload_n 0 dX9_hasTint_14 rfl rfl ?_
          refine mg_15 dX9_hasTint_15 rfl ?_
          refine g_iload dX9_hasTint_18 rfl ?_
          refine ml_15 (hS.2.1 s (by omega) (by omega)) dX9_hasTint_20 (by omega) (by omega) ?_
          refine gi_if_eq 77 dX9_hasTint_21 (by decide) (by first | exact hM _ _ | exact bI_Rg _ | exact ⟨by omega, by omega⟩) (fun c21 => ?_) (fun c21 => ?_)
          · refine gi_inc dX9_hasTint_77 rfl (Nat.le_of_ble_eq_true rfl) rfl ?_
            dsimp only [sto]
            refine g_goto 5 dX9_hasTint_80 (by decide) ?_
            exact ih _ _ (by omega) (by omega) (by omega) (by
              rw [show (s + 1).toNat = s.toNat + 1 by omega, ltF, show ((s.toNat : Nat) : Int) = s by omega, ← hl]
              have ht : wkB D T s = true → D 2 s = 2 → D 7 s = t → coB D (ordF D T) s i = true → tcB D T t i s = true := by
                intro h1 h2 h3 h4
                unfold tcB
                rw [h1, h4, decide_eq_true h2, decide_eq_true h3]; rfl
              have hf : tcB D T t i s = true → wkB D T s = true ∧ D 2 s = 2 ∧ D 7 s = t ∧ coB D (ordF D T) s i = true := by
                intro h
                unfold tcB at h
                simpa using h
              have hb : ∀ b : Bool, ¬ bI b = 0 → b = true := by intro b h; cases b <;> simp_all [bI]
              rw [if_neg (fun h => by have h2 := (hf h.1).1; rw [h2] at c21; exact absurd c21 (by decide))])
          · refine g_aload_n 0 dX9_hasTint_24 rfl rfl ?_
            refine mg_2 dX9_hasTint_25 rfl ?_
            refine g_iload dX9_hasTint_28 rfl ?_
            refine ml_2 (hP.at 2 (by decide) _) dX9_hasTint_30 (by omega) (by omega) ?_
            refine g_iconst (iI 2) dX9_hasTint_31 rfl ?_
            refine gi_icmp_ne 77 dX9_hasTint_32 (by decide) (by first | exact hM _ _ | exact bI_Rg _ | exact ⟨by omega, by omega⟩) (by first | exact hM _ _ | exact bI_Rg _ | exact ⟨by omega, by omega⟩) (fun c32 => ?_) (fun c32 => ?_)
            · refine gi_inc dX9_hasTint_77 rfl (Nat.le_of_ble_eq_true rfl) rfl ?_
              dsimp only [sto]
              refine g_goto 5 dX9_hasTint_80 (by decide) ?_
              exact ih _ _ (by omega) (by omega) (by omega) (by
                rw [show (s + 1).toNat = s.toNat + 1 by omega, ltF, show ((s.toNat : Nat) : Int) = s by omega, ← hl]
                have ht : wkB D T s = true → D 2 s = 2 → D 7 s = t → coB D (ordF D T) s i = true → tcB D T t i s = true := by
                  intro h1 h2 h3 h4
                  unfold tcB
                  rw [h1, h4, decide_eq_true h2, decide_eq_true h3]; rfl
                have hf : tcB D T t i s = true → wkB D T s = true ∧ D 2 s = 2 ∧ D 7 s = t ∧ coB D (ordF D T) s i = true := by
                  intro h
                  unfold tcB at h
                  simpa using h
                have hb : ∀ b : Bool, ¬ bI b = 0 → b = true := by intro b h; cases b <;> simp_all [bI]
                rw [if_neg (fun h => c32 (hf h.1).2.1)])
            · refine g_aload_n 0 dX9_hasTint_35 rfl rfl ?_
              refine mg_7 dX9_hasTint_36 rfl ?_
              refine g_iload dX9_hasTint_39 rfl ?_
              refine ml_7 (hP.at 7 (by decide) _) dX9_hasTint_41 (by omega) (by omega) ?_
              refine g_iload_n 2 dX9_hasTint_42 rfl rfl ?_
              refine gi_icmp_ne 77 dX9_hasTint_43 (by decide) (by first | exact hM _ _ | exact bI_Rg _ | exact ⟨by omega, by omega⟩) (by first | exact hM _ _ | exact bI_Rg _ | exact ⟨by omega, by omega⟩) (fun c43 => ?_) (fun c43 => ?_)
              · refine gi_inc dX9_hasTint_77 rfl (Nat.le_of_ble_eq_true rfl) rfl ?_
                dsimp only [sto]
                refine g_goto 5 dX9_hasTint_80 (by decide) ?_
                exact ih _ _ (by omega) (by omega) (by omega) (by
                  rw [show (s + 1).toNat = s.toNat + 1 by omega, ltF, show ((s.toNat : Nat) : Int) = s by omega, ← hl]
                  have ht : wkB D T s = true → D 2 s = 2 → D 7 s = t → coB D (ordF D T) s i = true → tcB D T t i s = true := by
                    intro h1 h2 h3 h4
                    unfold tcB
                    rw [h1, h4, decide_eq_true h2, decide_eq_true h3]; rfl
                  have hf : tcB D T t i s = true → wkB D T s = true ∧ D 2 s = 2 ∧ D 7 s = t ∧ coB D (ordF D T) s i = true := by
                    intro h
                    unfold tcB at h
                    simpa using h
                  have hb : ∀ b : Bool, ¬ bI b = 0 → b = true := by intro b h; cases b <;> simp_all [bI]
                  rw [if_neg (fun h => c43 (hf h.1).2.2.1)])
              · refine g_aload_n 0 dX9_hasTint_46 rfl rfl ?_
                refine g_iload dX9_hasTint_47 rfl ?_
                refine g_iload_n 1 dX9_hasTint_49 rfl rfl ?_
                refine mcI lkX9_141 (c_covers Z o a hP hM hD hO T hC hS s i (by omega) (by omega) c32 hi0 hi1) dX9_hasTint_50 rfl (And.intro (Nat.le_of_ble_eq_true rfl) (Nat.le_of_ble_eq_true rfl)) rfl (Nat.le_of_ble_eq_true rfl) rfl rfl (Nat.le_of_ble_eq_true rfl) (Nat.le_of_ble_eq_true rfl) (fun z50 M50 h50 => ?_)
                obtain ⟨q1, q2⟩ := h50
                rw [q1, q2]
                refine gi_if_eq 77 dX9_hasTint_53 (by decide) (by first | exact hM _ _ | exact bI_Rg _ | exact ⟨by omega, by omega⟩) (fun c53 => ?_) (fun c53 => ?_)
                · refine gi_inc dX9_hasTint_77 rfl (Nat.le_of_ble_eq_true rfl) rfl ?_
                  dsimp only [sto]
                  refine g_goto 5 dX9_hasTint_80 (by decide) ?_
                  exact ih _ _ (by omega) (by omega) (by omega) (by
                    rw [show (s + 1).toNat = s.toNat + 1 by omega, ltF, show ((s.toNat : Nat) : Int) = s by omega, ← hl]
                    have ht : wkB D T s = true → D 2 s = 2 → D 7 s = t → coB D (ordF D T) s i = true → tcB D T t i s = true := by
                      intro h1 h2 h3 h4
                      unfold tcB
                      rw [h1, h4, decide_eq_true h2, decide_eq_true h3]; rfl
                    have hf : tcB D T t i s = true → wkB D T s = true ∧ D 2 s = 2 ∧ D 7 s = t ∧ coB D (ordF D T) s i = true := by
                      intro h
                      unfold tcB at h
                      simpa using h
                    have hb : ∀ b : Bool, ¬ bI b = 0 → b = true := by intro b h; cases b <;> simp_all [bI]
                    rw [if_neg (fun h => by have h2 := (hf h.1).2.2.2; rw [h2] at c53; exact absurd c53 (by decide))])
                · refine g_iload_n 3 dX9_hasTint_56 rfl rfl ?_
                  refine gi_if_lt 70 dX9_hasTint_57 (by decide) (by first | exact hM _ _ | exact bI_Rg _ | exact ⟨by omega, by omega⟩) (fun c57 => ?_) (fun c57 => ?_)
                  · refine g_iload dX9_hasTint_70 rfl ?_
                    refine g_goto 76 dX9_hasTint_72 (by decide) ?_
                    refine g_istore_n 3 dX9_hasTint_76 rfl (Nat.le_of_ble_eq_true rfl) (Nat.le_of_ble_eq_true rfl) rfl ?_
                    dsimp only [sto]
                    refine gi_inc dX9_hasTint_77 rfl (Nat.le_of_ble_eq_true rfl) rfl ?_
                    dsimp only [sto]
                    refine g_goto 5 dX9_hasTint_80 (by decide) ?_
                    exact ih _ _ (by omega) (by omega) (by omega) (by
                      rw [show (s + 1).toNat = s.toNat + 1 by omega, ltF, show ((s.toNat : Nat) : Int) = s by omega, ← hl]
                      have ht : wkB D T s = true → D 2 s = 2 → D 7 s = t → coB D (ordF D T) s i = true → tcB D T t i s = true := by
                        intro h1 h2 h3 h4
                        unfold tcB
                        rw [h1, h4, decide_eq_true h2, decide_eq_true h3]; rfl
                      have hf : tcB D T t i s = true → wkB D T s = true ∧ D 2 s = 2 ∧ D 7 s = t ∧ coB D (ordF D T) s i = true := by
                        intro h
                        unfold tcB at h
                        simpa using h
                      have hb : ∀ b : Bool, ¬ bI b = 0 → b = true := by intro b h; cases b <;> simp_all [bI]
                      rw [if_pos ⟨ht (hb _ c21) c32 c43 (hb _ c53), Or.inl c57⟩])
                  · refine g_aload_n 0 dX9_hasTint_60 rfl rfl ?_
                    refine g_iload dX9_hasTint_61 rfl ?_
                    refine g_iload_n 3 dX9_hasTint_63 rfl rfl ?_
                    refine mcI lkX9_108 (c_isLater Z o a hP hM s l (by omega) (by omega) (by omega) (by omega)) dX9_hasTint_64 rfl (And.intro (Nat.le_of_ble_eq_true rfl) (Nat.le_of_ble_eq_true rfl)) rfl (Nat.le_of_ble_eq_true rfl) rfl rfl (Nat.le_of_ble_eq_true rfl) (Nat.le_of_ble_eq_true rfl) (fun z64 M64 h64 => ?_)
                    obtain ⟨q1, q2⟩ := h64
                    rw [q1, q2]
                    refine gi_if_eq 75 dX9_hasTint_67 (by decide) (by first | exact hM _ _ | exact bI_Rg _ | exact ⟨by omega, by omega⟩) (fun c67 => ?_) (fun c67 => ?_)
                    · refine g_iload_n 3 dX9_hasTint_75 rfl rfl ?_
                      refine g_istore_n 3 dX9_hasTint_76 rfl (Nat.le_of_ble_eq_true rfl) (Nat.le_of_ble_eq_true rfl) rfl ?_
                      dsimp only [sto]
                      refine gi_inc dX9_hasTint_77 rfl (Nat.le_of_ble_eq_true rfl) rfl ?_
                      dsimp only [sto]
                      refine g_goto 5 dX9_hasTint_80 (by decide) ?_
                      exact ih _ _ (by omega) (by omega) (by omega) (by
                        rw [show (s + 1).toNat = s.toNat + 1 by omega, ltF, show ((s.toNat : Nat) : Int) = s by omega, ← hl]
                        have ht : wkB D T s = true → D 2 s = 2 → D 7 s = t → coB D (ordF D T) s i = true → tcB D T t i s = true := by
                          intro h1 h2 h3 h4
                          unfold tcB
                          rw [h1, h4, decide_eq_true h2, decide_eq_true h3]; rfl
                        have hf : tcB D T t i s = true → wkB D T s = true ∧ D 2 s = 2 ∧ D 7 s = t ∧ coB D (ordF D T) s i = true := by
                          intro h
                          unfold tcB at h
                          simpa using h
                        have hb : ∀ b : Bool, ¬ bI b = 0 → b = true := by intro b h; cases b <;> simp_all [bI]
                        rw [if_neg (fun h => by
                          rcases h.2 with h2 | h2
                          · omega
                          · rw [h2] at c67; exact absurd c67 (by decide))])
                    · refine g_iload dX9_hasTint_70 rfl ?_
                      refine g_goto 76 dX9_hasTint_72 (by decide) ?_
                      refine g_istore_n 3 dX9_hasTint_76 rfl (Nat.le_of_ble_eq_true rfl) (Nat.le_of_ble_eq_true rfl) rfl ?_
                      dsimp only [sto]
                      refine gi_inc dX9_hasTint_77 rfl (Nat.le_of_ble_eq_true rfl) rfl ?_
                      dsimp only [sto]
                      refine g_goto 5 dX9_hasTint_80 (by decide) ?_
                      exact ih _ _ (by omega) (by omega) (by omega) (by
                        rw [show (s + 1).toNat = s.toNat + 1 by omega, ltF, show ((s.toNat : Nat) : Int) = s by omega, ← hl]
                        have ht : wkB D T s = true → D 2 s = 2 → D 7 s = t → coB D (ordF D T) s i = true → tcB D T t i s = true := by
                          intro h1 h2 h3 h4
                          unfold tcB
                          rw [h1, h4, decide_eq_true h2, decide_eq_true h3]; rfl
                        have hf : tcB D T t i s = true → wkB D T s = true ∧ D 2 s = 2 ∧ D 7 s = t ∧ coB D (ordF D T) s i = true := by
                          intro h
                          unfold tcB at h
                          simpa using h
                        have hb : ∀ b : Bool, ¬ bI b = 0 → b = true := by intro b h; cases b <;> simp_all [bI]
                        rw [if_pos ⟨ht (hb _ c21) c32 c43 (hb _ c53), Or.inr (hb _ c67)⟩])
      · refine g_iload dX9_hasTint_5 rfl ?_
        refine g_aload_n 0 dX9_hasTint_7 rfl rfl ?_
        refine mg_9 (hP.at 9 (by decide) _) dX9_hasTint_8 rfl ?_
        refine gi_icmp_ge 83 dX9_hasTint_11 (by decide) (by first | exact hM _ _ | exact bI_Rg _ | exact ⟨by omega, by omega⟩) (by first | exact hM _ _ | exact bI_Rg _ | exact ⟨by omega, by omega⟩) (fun c11 => ?_) (fun c11 => ?_)
        · refine g_iload_n 3 dX9_hasTint_83 rfl rfl ?_
          refine gi_if_lt 100 dX9_hasTint_84 (by decide) (by exact ⟨by omega, by omega⟩) (fun c84 => ?_) (fun c84 => ?_)
          · refine g_iconst (iI 0) dX9_hasTint_100 rfl ?_
            refine g_zret dX9_hasTint_101 rfl (narrow_bool (by first | exact Or.inl rfl | exact Or.inr rfl | assumption | omega)) (Nat.le_of_ble_eq_true rfl) (Nat.le_of_ble_eq_true rfl) ⟨_, _, rfl, rfl, ?_⟩
            refine ⟨?_, rfl⟩
            have e : l = ltF D (tcB D T t i) (D 9 0).toNat := by rw [hl, show s = D 9 0 by omega]
            unfold hasT
            rw [← e]
            rcases hD.2.2.2.1 l with h8 | h8
            all_goals first
              | (rw [decide_eq_true (show 0 ≤ l by omega), decide_eq_true (show D 8 l = 1 by omega)]; rfl)
              | (rw [decide_eq_false (show ¬ 0 ≤ l by omega)]; rfl)
              | (rw [decide_eq_false (show ¬ D 8 l = 1 by omega)]; cases decide (0 ≤ l) <;> rfl)
              | (exfalso; omega)
          · refine g_aload_n 0 dX9_hasTint_87 rfl rfl ?_
            refine mg_8 dX9_hasTint_88 rfl ?_
            refine g_iload_n 3 dX9_hasTint_91 rfl rfl ?_
            refine ml_8 (hP.at 8 (by decide) _) dX9_hasTint_92 (by omega) (by omega) ?_
            refine gi_if_eq 100 dX9_hasTint_93 (by decide) (by first | exact hM _ _ | exact bI_Rg _ | exact ⟨by omega, by omega⟩) (fun c93 => ?_) (fun c93 => ?_)
            · refine g_iconst (iI 0) dX9_hasTint_100 rfl ?_
              refine g_zret dX9_hasTint_101 rfl (narrow_bool (by first | exact Or.inl rfl | exact Or.inr rfl | assumption | omega)) (Nat.le_of_ble_eq_true rfl) (Nat.le_of_ble_eq_true rfl) ⟨_, _, rfl, rfl, ?_⟩
              refine ⟨?_, rfl⟩
              have e : l = ltF D (tcB D T t i) (D 9 0).toNat := by rw [hl, show s = D 9 0 by omega]
              unfold hasT
              rw [← e]
              rcases hD.2.2.2.1 l with h8 | h8
              all_goals first
                | (rw [decide_eq_true (show 0 ≤ l by omega), decide_eq_true (show D 8 l = 1 by omega)]; rfl)
                | (rw [decide_eq_false (show ¬ 0 ≤ l by omega)]; rfl)
                | (rw [decide_eq_false (show ¬ D 8 l = 1 by omega)]; cases decide (0 ≤ l) <;> rfl)
                | (exfalso; omega)
            · refine g_iconst (iI 1) dX9_hasTint_96 rfl ?_
              refine g_goto 101 dX9_hasTint_97 (by decide) ?_
              refine g_zret dX9_hasTint_101 rfl (narrow_bool (by first | exact Or.inl rfl | exact Or.inr rfl | assumption | omega)) (Nat.le_of_ble_eq_true rfl) (Nat.le_of_ble_eq_true rfl) ⟨_, _, rfl, rfl, ?_⟩
              refine ⟨?_, rfl⟩
              have e : l = ltF D (tcB D T t i) (D 9 0).toNat := by rw [hl, show s = D 9 0 by omega]
              unfold hasT
              rw [← e]
              rcases hD.2.2.2.1 l with h8 | h8
              all_goals first
                | (rw [decide_eq_true (show 0 ≤ l by omega), decide_eq_true (show D 8 l = 1 by omega)]; rfl)
                | (rw [decide_eq_false (show ¬ 0 ≤ l by omega)]; rfl)
                | (rw [decide_eq_false (show ¬ D 8 l = 1 by omega)]; cases decide (0 ≤ l) <;> rfl)
                | (exfalso; omega)
        · exfalso; omega
  refine g_iconst (iI (-1)) dX9_hasTint_0 rfl ?_
  refine g_istore_n 3 dX9_hasTint_1 rfl (Nat.le_of_ble_eq_true rfl) (Nat.le_of_ble_eq_true rfl) rfl ?_
  dsimp only [sto]
  refine g_iconst (iI 0) dX9_hasTint_2 rfl ?_
  refine g_istore dX9_hasTint_3 (Nat.le_of_ble_eq_true rfl) (Nat.le_of_ble_eq_true rfl) rfl ?_
  dsimp only [sto]
  exact loop ((D 9 0).toNat + 1) (-1) 0 (by omega) (by omega) (by omega) rfl
set_option maxHeartbeats 4000000 in
set_option maxRecDepth 100000 in
/-- tintsOf -/
theorem c_tintsOf (Z : LZ) (o : Nat) (a : Nat → Nat) {D M : Mem} (hP : Pers D M) (hM : RM D) (hD : okP D) (hO : okO D (D 9 0).toNat) (T : Int → Bool) (hC : Cl D T) (hS : Sh D T M) (i : Int) (hi0 : 0 ≤ i) (hi1 : i < 1000)  : Tm Z o a jX9_tintsOf [i] M (fun z M2 => z = tinF D T i 4 ∧ M2 = M) := by
  refine tr_of pn_X9_tintsOf (Nat.le_of_ble_eq_true rfl) (vI_catO o _) ?_
  show G Z jX9_tintsOf E0 (QM Z jX9_tintsOf (pI Z o a (fun z M2 => z = tinF D T i 4 ∧ M2 = M))) 0 [.ref o, .int (iI i)] [] (mW Z o a M) 0 0
  have loop : ∀ (fuel : Nat) (c t : Int), 4 - t < fuel → 0 ≤ t → t ≤ 4 → c = tinF D T i t.toNat → G Z jX9_tintsOf E0 (QM Z jX9_tintsOf (pI Z o a (fun z M2 => z = tinF D T i 4 ∧ M2 = M))) 4 [.ref o, .int (iI i), .int (iI c), .int (iI t)] [] (mW Z o a M) 0 0 := by
    intro fuel
    induction fuel with
    | zero => intros; exfalso; omega
    | succ fuel ih =>
      intro c t hfu ht0 ht1 hc
      refine g_iload_n 3 dX9_tintsOf_4 rfl rfl ?_
      refine g_iconst (iI 4) dX9_tintsOf_5 rfl ?_
      refine gi_icmp_ge 34 dX9_tintsOf_6 (by decide) (by first | exact hM _ _ | exact bI_Rg _ | exact ⟨by omega, by omega⟩) (by first | exact hM _ _ | exact bI_Rg _ | exact ⟨by omega, by omega⟩) (fun c6 => ?_) (fun c6 => ?_)
      · refine g_iload_n 2 dX9_tintsOf_34 rfl rfl ?_
        refine g_iret dX9_tintsOf_35 rfl (Nat.le_of_ble_eq_true rfl) (Nat.le_of_ble_eq_true rfl) ⟨_, _, rfl, rfl, ?_⟩
        refine ⟨?_, rfl⟩
        rw [hc, show t = 4 by omega]
        rfl
      · refine g_iload_n 2 dX9_tintsOf_9 rfl rfl ?_
        refine g_aload_n 0 dX9_tintsOf_10 rfl rfl ?_
        refine g_iload_n 1 dX9_tintsOf_11 rfl rfl ?_
        refine g_iload_n 3 dX9_tintsOf_12 rfl rfl ?_
        refine mcI lkX9_144 (c_hasTint Z o a hP hM hD hO T hC hS i t hi0 hi1 (by exact ⟨by omega, by omega⟩)) dX9_tintsOf_13 rfl (And.intro (Nat.le_of_ble_eq_true rfl) (Nat.le_of_ble_eq_true rfl)) rfl (Nat.le_of_ble_eq_true rfl) rfl rfl (Nat.le_of_ble_eq_true rfl) (Nat.le_of_ble_eq_true rfl) (fun z13 M13 h13 => ?_)
        obtain ⟨q1, q2⟩ := h13
        rw [q1, q2]
        refine gi_if_eq 25 dX9_tintsOf_16 (by decide) (by first | exact hM _ _ | exact bI_Rg _ | exact ⟨by omega, by omega⟩) (fun c16 => ?_) (fun c16 => ?_)
        · refine g_iconst (iI 0) dX9_tintsOf_25 rfl ?_
          refine gi_add dX9_tintsOf_26 ?_
          refine g_istore_n 2 dX9_tintsOf_27 rfl (Nat.le_of_ble_eq_true rfl) (Nat.le_of_ble_eq_true rfl) rfl ?_
          dsimp only [sto]
          refine gi_inc dX9_tintsOf_28 rfl (Nat.le_of_ble_eq_true rfl) rfl ?_
          dsimp only [sto]
          refine g_goto 4 dX9_tintsOf_31 (by decide) ?_
          exact ih _ _ (by omega) (by omega) (by omega) (by
            rw [show (t + 1).toNat = t.toNat + 1 by omega, tinF, show ((t.toNat : Nat) : Int) = t by omega, ← hc]
            first
              | rw [bI_eq0.mp c16, if_neg (by decide)]
              | (have hb : hasT D T i t = true := by cases h : hasT D T i t <;> simp_all [bI]
                 rw [hb, if_pos rfl]))
        · refine g_iconst (iI 1) dX9_tintsOf_19 rfl ?_
          refine g_iload_n 3 dX9_tintsOf_20 rfl rfl ?_
          refine g_ishl dX9_tintsOf_21 ?_
          rw [shl_t (by omega) (by omega)]
          refine g_goto 26 dX9_tintsOf_22 (by decide) ?_
          refine gi_add dX9_tintsOf_26 ?_
          refine g_istore_n 2 dX9_tintsOf_27 rfl (Nat.le_of_ble_eq_true rfl) (Nat.le_of_ble_eq_true rfl) rfl ?_
          dsimp only [sto]
          refine gi_inc dX9_tintsOf_28 rfl (Nat.le_of_ble_eq_true rfl) rfl ?_
          dsimp only [sto]
          refine g_goto 4 dX9_tintsOf_31 (by decide) ?_
          exact ih _ _ (by omega) (by omega) (by omega) (by
            rw [show (t + 1).toNat = t.toNat + 1 by omega, tinF, show ((t.toNat : Nat) : Int) = t by omega, ← hc]
            first
              | rw [bI_eq0.mp c16, if_neg (by decide)]
              | (have hb : hasT D T i t = true := by cases h : hasT D T i t <;> simp_all [bI]
                 rw [hb, if_pos rfl]))
  refine g_iconst (iI 0) dX9_tintsOf_0 rfl ?_
  refine g_istore_n 2 dX9_tintsOf_1 rfl (Nat.le_of_ble_eq_true rfl) (Nat.le_of_ble_eq_true rfl) rfl ?_
  dsimp only [sto]
  refine g_iconst (iI 0) dX9_tintsOf_2 rfl ?_
  refine g_istore_n 3 dX9_tintsOf_3 rfl (Nat.le_of_ble_eq_true rfl) (Nat.le_of_ble_eq_true rfl) rfl ?_
  dsimp only [sto]
  exact loop 5 0 0 (by omega) (by omega) (by omega) rfl
end
