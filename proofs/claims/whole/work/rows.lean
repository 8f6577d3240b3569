section
-- ===== PART A: goes FIRST, ahead of the names: the tables' words, and 'selects' of the private methods out of them =====
/-- a private method of a class that the tables say can be made, by its rows of tables_1 -/
def lw_okq (q : MethodName × Nat) : Prop := (q.1.cls ≠ "java/lang/invoke/MethodHandle" ∧ q.1.cls ≠ "java/lang/invoke/VarHandle") ∧ Cond.instantiable q.1.cls q.2 ∈ tables_1 ∧ Cond.privateMethod q.1 ∈ tables_1 ∧ Cond.instanceMethod q.1 ∈ tables_1
theorem lw_p0 : lw_okq (⟨"CohereBench$Scene", "setPart", "(III)V"⟩, 3) := ⟨⟨by decide +kernel, by decide +kernel⟩, List.mem_of_getElem? (i := 79) (by decide +kernel), List.mem_of_getElem? (i := 275) (by decide +kernel), List.mem_of_getElem? (i := 276) (by decide +kernel)⟩
theorem lw_p1 : lw_okq (⟨"CohereBench", "beginAnew", "()V"⟩, 7) := ⟨⟨by decide +kernel, by decide +kernel⟩, List.mem_of_getElem? (i := 16) (by decide +kernel), List.mem_of_getElem? (i := 310) (by decide +kernel), List.mem_of_getElem? (i := 311) (by decide +kernel)⟩
theorem lw_p2 : lw_okq (⟨"CohereBench$Protocol", "hasWait", "(I)Z"⟩, 8) := ⟨⟨by decide +kernel, by decide +kernel⟩, List.mem_of_getElem? (i := 24) (by decide +kernel), List.mem_of_getElem? (i := 349) (by decide +kernel), List.mem_of_getElem? (i := 350) (by decide +kernel)⟩
theorem lw_p3 : lw_okq (⟨"CohereBench", "countChoices", "()I"⟩, 7) := ⟨⟨by decide +kernel, by decide +kernel⟩, List.mem_of_getElem? (i := 16) (by decide +kernel), List.mem_of_getElem? (i := 377) (by decide +kernel), List.mem_of_getElem? (i := 378) (by decide +kernel)⟩
theorem lw_p4 : lw_okq (⟨"CohereBench$Scene", "part", "(II)I"⟩, 3) := ⟨⟨by decide +kernel, by decide +kernel⟩, List.mem_of_getElem? (i := 79) (by decide +kernel), List.mem_of_getElem? (i := 390) (by decide +kernel), List.mem_of_getElem? (i := 391) (by decide +kernel)⟩
theorem lw_p5 : lw_okq (⟨"CohereBench$StepList", "listOwn", "(LCohereBench$Scene;I)V"⟩, 7) := ⟨⟨by decide +kernel, by decide +kernel⟩, List.mem_of_getElem? (i := 95) (by decide +kernel), List.mem_of_getElem? (i := 394) (by decide +kernel), List.mem_of_getElem? (i := 395) (by decide +kernel)⟩
theorem lw_p6 : lw_okq (⟨"CohereBench$StepList", "add", "(IIIII)V"⟩, 7) := ⟨⟨by decide +kernel, by decide +kernel⟩, List.mem_of_getElem? (i := 95) (by decide +kernel), List.mem_of_getElem? (i := 411) (by decide +kernel), List.mem_of_getElem? (i := 412) (by decide +kernel)⟩
theorem lw_p7 : lw_okq (⟨"CohereBench$StepList", "listComing", "(LCohereBench$Scene;I)V"⟩, 7) := ⟨⟨by decide +kernel, by decide +kernel⟩, List.mem_of_getElem? (i := 95) (by decide +kernel), List.mem_of_getElem? (i := 426) (by decide +kernel), List.mem_of_getElem? (i := 427) (by decide +kernel)⟩
theorem lw_p8 : lw_okq (⟨"CohereBench$Acting", "takeUp", "(LCohereBench$Scene;LCohereBench$StepList;I)V"⟩, 4) := ⟨⟨by decide +kernel, by decide +kernel⟩, List.mem_of_getElem? (i := 60) (by decide +kernel), List.mem_of_getElem? (i := 502) (by decide +kernel), List.mem_of_getElem? (i := 503) (by decide +kernel)⟩
theorem lw_p9 : lw_okq (⟨"CohereBench$Acting", "homeAct", "(LCohereBench$Scene;II)I"⟩, 4) := ⟨⟨by decide +kernel, by decide +kernel⟩, List.mem_of_getElem? (i := 60) (by decide +kernel), List.mem_of_getElem? (i := 530) (by decide +kernel), List.mem_of_getElem? (i := 531) (by decide +kernel)⟩
theorem lw_p10 : lw_okq (⟨"CohereBench$Acting", "send", "(LCohereBench$Scene;IIII)I"⟩, 4) := ⟨⟨by decide +kernel, by decide +kernel⟩, List.mem_of_getElem? (i := 60) (by decide +kernel), List.mem_of_getElem? (i := 538) (by decide +kernel), List.mem_of_getElem? (i := 539) (by decide +kernel)⟩
theorem lw_p11 : lw_okq (⟨"CohereBench$Acting", "cacheAct", "(LCohereBench$Scene;II)I"⟩, 4) := ⟨⟨by decide +kernel, by decide +kernel⟩, List.mem_of_getElem? (i := 60) (by decide +kernel), List.mem_of_getElem? (i := 566) (by decide +kernel), List.mem_of_getElem? (i := 567) (by decide +kernel)⟩
theorem lw_p12 : lw_okq (⟨"CohereBench$Atlas", "keepTrial", "(II)I"⟩, 17) := ⟨⟨by decide +kernel, by decide +kernel⟩, List.mem_of_getElem? (i := 123) (by decide +kernel), List.mem_of_getElem? (i := 641) (by decide +kernel), List.mem_of_getElem? (i := 642) (by decide +kernel)⟩
theorem lw_p13 : lw_okq (⟨"CohereBench$Shelf", "slotOf", "(JJJ)I"⟩, 5) := ⟨⟨by decide +kernel, by decide +kernel⟩, List.mem_of_getElem? (i := 133) (by decide +kernel), List.mem_of_getElem? (i := 661) (by decide +kernel), List.mem_of_getElem? (i := 662) (by decide +kernel)⟩
theorem lw_p14 : lw_okq (⟨"CohereBench$Scene", "loadHalf", "(IJ)V"⟩, 3) := ⟨⟨by decide +kernel, by decide +kernel⟩, List.mem_of_getElem? (i := 79) (by decide +kernel), List.mem_of_getElem? (i := 695) (by decide +kernel), List.mem_of_getElem? (i := 696) (by decide +kernel)⟩
theorem lw_p15 : lw_okq (⟨"CohereBench$Atlas", "tryStep", "(II)V"⟩, 17) := ⟨⟨by decide +kernel, by decide +kernel⟩, List.mem_of_getElem? (i := 123) (by decide +kernel), List.mem_of_getElem? (i := 711) (by decide +kernel), List.mem_of_getElem? (i := 712) (by decide +kernel)⟩
def lw_privs_1 : List (MethodName × Nat) := [(⟨"CohereBench$Scene", "setPart", "(III)V"⟩, 3), (⟨"CohereBench", "beginAnew", "()V"⟩, 7), (⟨"CohereBench$Protocol", "hasWait", "(I)Z"⟩, 8), (⟨"CohereBench", "countChoices", "()I"⟩, 7), (⟨"CohereBench$Scene", "part", "(II)I"⟩, 3), (⟨"CohereBench$StepList", "listOwn", "(LCohereBench$Scene;I)V"⟩, 7), (⟨"CohereBench$StepList", "add", "(IIIII)V"⟩, 7), (⟨"CohereBench$StepList", "listComing", "(LCohereBench$Scene;I)V"⟩, 7), (⟨"CohereBench$Acting", "takeUp", "(LCohereBench$Scene;LCohereBench$StepList;I)V"⟩, 4), (⟨"CohereBench$Acting", "homeAct", "(LCohereBench$Scene;II)I"⟩, 4), (⟨"CohereBench$Acting", "send", "(LCohereBench$Scene;IIII)I"⟩, 4), (⟨"CohereBench$Acting", "cacheAct", "(LCohereBench$Scene;II)I"⟩, 4), (⟨"CohereBench$Atlas", "keepTrial", "(II)I"⟩, 17), (⟨"CohereBench$Shelf", "slotOf", "(JJJ)I"⟩, 5), (⟨"CohereBench$Scene", "loadHalf", "(IJ)V"⟩, 3), (⟨"CohereBench$Atlas", "tryStep", "(II)V"⟩, 17)]
theorem lw_r1 : ∀ q ∈ lw_privs_1, lw_okq q := List.forall_mem_cons.mpr ⟨lw_p0, List.forall_mem_cons.mpr ⟨lw_p1, List.forall_mem_cons.mpr ⟨lw_p2, List.forall_mem_cons.mpr ⟨lw_p3, List.forall_mem_cons.mpr ⟨lw_p4, List.forall_mem_cons.mpr ⟨lw_p5, List.forall_mem_cons.mpr ⟨lw_p6, List.forall_mem_cons.mpr ⟨lw_p7, List.forall_mem_cons.mpr ⟨lw_p8, List.forall_mem_cons.mpr ⟨lw_p9, List.forall_mem_cons.mpr ⟨lw_p10, List.forall_mem_cons.mpr ⟨lw_p11, List.forall_mem_cons.mpr ⟨lw_p12, List.forall_mem_cons.mpr ⟨lw_p13, List.forall_mem_cons.mpr ⟨lw_p14, List.forall_mem_cons.mpr ⟨lw_p15, fun _ h => absurd h List.not_mem_nil⟩⟩⟩⟩⟩⟩⟩⟩⟩⟩⟩⟩⟩⟩⟩⟩
theorem lw_p16 : lw_okq (⟨"CohereBench$Atlas", "markUsed", "(I)V"⟩, 17) := ⟨⟨by decide +kernel, by decide +kernel⟩, List.mem_of_getElem? (i := 123) (by decide +kernel), List.mem_of_getElem? (i := 716) (by decide +kernel), List.mem_of_getElem? (i := 717) (by decide +kernel)⟩
theorem lw_p17 : lw_okq (⟨"CohereBench$Atlas", "greatestDepth", "()I"⟩, 17) := ⟨⟨by decide +kernel, by decide +kernel⟩, List.mem_of_getElem? (i := 123) (by decide +kernel), List.mem_of_getElem? (i := 769) (by decide +kernel), List.mem_of_getElem? (i := 770) (by decide +kernel)⟩
theorem lw_p18 : lw_okq (⟨"CohereBenchModel", "first", "()V"⟩, 35) := ⟨⟨by decide +kernel, by decide +kernel⟩, List.mem_of_getElem? (i := 843) (by decide +kernel), List.mem_of_getElem? (i := 851) (by decide +kernel), List.mem_of_getElem? (i := 852) (by decide +kernel)⟩
theorem lw_p19 : lw_okq (⟨"CohereBenchModel", "changed", "()V"⟩, 35) := ⟨⟨by decide +kernel, by decide +kernel⟩, List.mem_of_getElem? (i := 843) (by decide +kernel), List.mem_of_getElem? (i := 968) (by decide +kernel), List.mem_of_getElem? (i := 969) (by decide +kernel)⟩
theorem lw_p20 : lw_okq (⟨"CohereBenchModel", "toRun", "()V"⟩, 35) := ⟨⟨by decide +kernel, by decide +kernel⟩, List.mem_of_getElem? (i := 843) (by decide +kernel), List.mem_of_getElem? (i := 999) (by decide +kernel), List.mem_of_getElem? (i := 1000) (by decide +kernel)⟩
theorem lw_p21 : lw_okq (⟨"CohereBenchModel", "findSteps", "()V"⟩, 35) := ⟨⟨by decide +kernel, by decide +kernel⟩, List.mem_of_getElem? (i := 843) (by decide +kernel), List.mem_of_getElem? (i := 1003) (by decide +kernel), List.mem_of_getElem? (i := 1004) (by decide +kernel)⟩
theorem lw_p22 : lw_okq (⟨"CohereBenchModel", "waits", "(I)Z"⟩, 35) := ⟨⟨by decide +kernel, by decide +kernel⟩, List.mem_of_getElem? (i := 843) (by decide +kernel), List.mem_of_getElem? (i := 1007) (by decide +kernel), List.mem_of_getElem? (i := 1008) (by decide +kernel)⟩
theorem lw_p23 : lw_okq (⟨"CohereBenchModel", "addStep", "(IIII)V"⟩, 35) := ⟨⟨by decide +kernel, by decide +kernel⟩, List.mem_of_getElem? (i := 843) (by decide +kernel), List.mem_of_getElem? (i := 1011) (by decide +kernel), List.mem_of_getElem? (i := 1012) (by decide +kernel)⟩
theorem lw_p24 : lw_okq (⟨"CohereBenchModel", "letterAt", "(II)I"⟩, 35) := ⟨⟨by decide +kernel, by decide +kernel⟩, List.mem_of_getElem? (i := 843) (by decide +kernel), List.mem_of_getElem? (i := 1015) (by decide +kernel), List.mem_of_getElem? (i := 1016) (by decide +kernel)⟩
theorem lw_p25 : lw_okq (⟨"CohereBenchModel", "rowOfLetter", "(I)I"⟩, 35) := ⟨⟨by decide +kernel, by decide +kernel⟩, List.mem_of_getElem? (i := 843) (by decide +kernel), List.mem_of_getElem? (i := 1019) (by decide +kernel), List.mem_of_getElem? (i := 1020) (by decide +kernel)⟩
theorem lw_p26 : lw_okq (⟨"CohereBenchModel", "doStep", "(I)I"⟩, 35) := ⟨⟨by decide +kernel, by decide +kernel⟩, List.mem_of_getElem? (i := 843) (by decide +kernel), List.mem_of_getElem? (i := 1035) (by decide +kernel), List.mem_of_getElem? (i := 1036) (by decide +kernel)⟩
theorem lw_p27 : lw_okq (⟨"CohereBenchModel", "takeLetter", "(I)V"⟩, 35) := ⟨⟨by decide +kernel, by decide +kernel⟩, List.mem_of_getElem? (i := 843) (by decide +kernel), List.mem_of_getElem? (i := 1039) (by decide +kernel), List.mem_of_getElem? (i := 1040) (by decide +kernel)⟩
theorem lw_p28 : lw_okq (⟨"CohereBenchModel", "cacheActs", "(III)I"⟩, 35) := ⟨⟨by decide +kernel, by decide +kernel⟩, List.mem_of_getElem? (i := 843) (by decide +kernel), List.mem_of_getElem? (i := 1043) (by decide +kernel), List.mem_of_getElem? (i := 1044) (by decide +kernel)⟩
theorem lw_p29 : lw_okq (⟨"CohereBenchModel", "send", "(IIIII)Z"⟩, 35) := ⟨⟨by decide +kernel, by decide +kernel⟩, List.mem_of_getElem? (i := 843) (by decide +kernel), List.mem_of_getElem? (i := 1047) (by decide +kernel), List.mem_of_getElem? (i := 1048) (by decide +kernel)⟩
theorem lw_p30 : lw_okq (⟨"CohereBenchModel", "isAhead", "(IIIIII)Z"⟩, 35) := ⟨⟨by decide +kernel, by decide +kernel⟩, List.mem_of_getElem? (i := 843) (by decide +kernel), List.mem_of_getElem? (i := 1051) (by decide +kernel), List.mem_of_getElem? (i := 1052) (by decide +kernel)⟩
theorem lw_p31 : lw_okq (⟨"CohereBenchModel", "stale", "(I)V"⟩, 35) := ⟨⟨by decide +kernel, by decide +kernel⟩, List.mem_of_getElem? (i := 843) (by decide +kernel), List.mem_of_getElem? (i := 1058) (by decide +kernel), List.mem_of_getElem? (i := 1059) (by decide +kernel)⟩
def lw_privs_2 : List (MethodName × Nat) := [(⟨"CohereBench$Atlas", "markUsed", "(I)V"⟩, 17), (⟨"CohereBench$Atlas", "greatestDepth", "()I"⟩, 17), (⟨"CohereBenchModel", "first", "()V"⟩, 35), (⟨"CohereBenchModel", "changed", "()V"⟩, 35), (⟨"CohereBenchModel", "toRun", "()V"⟩, 35), (⟨"CohereBenchModel", "findSteps", "()V"⟩, 35), (⟨"CohereBenchModel", "waits", "(I)Z"⟩, 35), (⟨"CohereBenchModel", "addStep", "(IIII)V"⟩, 35), (⟨"CohereBenchModel", "letterAt", "(II)I"⟩, 35), (⟨"CohereBenchModel", "rowOfLetter", "(I)I"⟩, 35), (⟨"CohereBenchModel", "doStep", "(I)I"⟩, 35), (⟨"CohereBenchModel", "takeLetter", "(I)V"⟩, 35), (⟨"CohereBenchModel", "cacheActs", "(III)I"⟩, 35), (⟨"CohereBenchModel", "send", "(IIIII)Z"⟩, 35), (⟨"CohereBenchModel", "isAhead", "(IIIIII)Z"⟩, 35), (⟨"CohereBenchModel", "stale", "(I)V"⟩, 35)]
theorem lw_r2 : ∀ q ∈ lw_privs_2, lw_okq q := List.forall_mem_cons.mpr ⟨lw_p16, List.forall_mem_cons.mpr ⟨lw_p17, List.forall_mem_cons.mpr ⟨lw_p18, List.forall_mem_cons.mpr ⟨lw_p19, List.forall_mem_cons.mpr ⟨lw_p20, List.forall_mem_cons.mpr ⟨lw_p21, List.forall_mem_cons.mpr ⟨lw_p22, List.forall_mem_cons.mpr ⟨lw_p23, List.forall_mem_cons.mpr ⟨lw_p24, List.forall_mem_cons.mpr ⟨lw_p25, List.forall_mem_cons.mpr ⟨lw_p26, List.forall_mem_cons.mpr ⟨lw_p27, List.forall_mem_cons.mpr ⟨lw_p28, List.forall_mem_cons.mpr ⟨lw_p29, List.forall_mem_cons.mpr ⟨lw_p30, List.forall_mem_cons.mpr ⟨lw_p31, fun _ h => absurd h List.not_mem_nil⟩⟩⟩⟩⟩⟩⟩⟩⟩⟩⟩⟩⟩⟩⟩⟩
theorem lw_p32 : lw_okq (⟨"CohereBenchModel", "homeActs", "(II)I"⟩, 35) := ⟨⟨by decide +kernel, by decide +kernel⟩, List.mem_of_getElem? (i := 843) (by decide +kernel), List.mem_of_getElem? (i := 1062) (by decide +kernel), List.mem_of_getElem? (i := 1063) (by decide +kernel)⟩
theorem lw_p33 : lw_okq (⟨"CohereBenchModel", "badNow", "()I"⟩, 35) := ⟨⟨by decide +kernel, by decide +kernel⟩, List.mem_of_getElem? (i := 843) (by decide +kernel), List.mem_of_getElem? (i := 1078) (by decide +kernel), List.mem_of_getElem? (i := 1079) (by decide +kernel)⟩
theorem lw_p34 : lw_okq (⟨"CohereBenchModel", "isQuiet", "()Z"⟩, 35) := ⟨⟨by decide +kernel, by decide +kernel⟩, List.mem_of_getElem? (i := 843) (by decide +kernel), List.mem_of_getElem? (i := 1082) (by decide +kernel), List.mem_of_getElem? (i := 1083) (by decide +kernel)⟩
theorem lw_p35 : lw_okq (⟨"CohereBenchModel", "add", "(II)I"⟩, 35) := ⟨⟨by decide +kernel, by decide +kernel⟩, List.mem_of_getElem? (i := 843) (by decide +kernel), List.mem_of_getElem? (i := 1090) (by decide +kernel), List.mem_of_getElem? (i := 1091) (by decide +kernel)⟩
theorem lw_p36 : lw_okq (⟨"CohereBenchModel", "addBad", "(III)V"⟩, 35) := ⟨⟨by decide +kernel, by decide +kernel⟩, List.mem_of_getElem? (i := 843) (by decide +kernel), List.mem_of_getElem? (i := 1098) (by decide +kernel), List.mem_of_getElem? (i := 1099) (by decide +kernel)⟩
theorem lw_p37 : lw_okq (⟨"CohereBenchModel", "from", "(II)V"⟩, 35) := ⟨⟨by decide +kernel, by decide +kernel⟩, List.mem_of_getElem? (i := 843) (by decide +kernel), List.mem_of_getElem? (i := 1102) (by decide +kernel), List.mem_of_getElem? (i := 1103) (by decide +kernel)⟩
theorem lw_p38 : lw_okq (⟨"CohereBenchModel", "numberOf", "()I"⟩, 35) := ⟨⟨by decide +kernel, by decide +kernel⟩, List.mem_of_getElem? (i := 843) (by decide +kernel), List.mem_of_getElem? (i := 1106) (by decide +kernel), List.mem_of_getElem? (i := 1107) (by decide +kernel)⟩
theorem lw_p39 : lw_okq (⟨"CohereBenchModel", "lead", "()V"⟩, 35) := ⟨⟨by decide +kernel, by decide +kernel⟩, List.mem_of_getElem? (i := 843) (by decide +kernel), List.mem_of_getElem? (i := 1110) (by decide +kernel), List.mem_of_getElem? (i := 1111) (by decide +kernel)⟩
def lw_privs_3 : List (MethodName × Nat) := [(⟨"CohereBenchModel", "homeActs", "(II)I"⟩, 35), (⟨"CohereBenchModel", "badNow", "()I"⟩, 35), (⟨"CohereBenchModel", "isQuiet", "()Z"⟩, 35), (⟨"CohereBenchModel", "add", "(II)I"⟩, 35), (⟨"CohereBenchModel", "addBad", "(III)V"⟩, 35), (⟨"CohereBenchModel", "from", "(II)V"⟩, 35), (⟨"CohereBenchModel", "numberOf", "()I"⟩, 35), (⟨"CohereBenchModel", "lead", "()V"⟩, 35)]
theorem lw_r3 : ∀ q ∈ lw_privs_3, lw_okq q := List.forall_mem_cons.mpr ⟨lw_p32, List.forall_mem_cons.mpr ⟨lw_p33, List.forall_mem_cons.mpr ⟨lw_p34, List.forall_mem_cons.mpr ⟨lw_p35, List.forall_mem_cons.mpr ⟨lw_p36, List.forall_mem_cons.mpr ⟨lw_p37, List.forall_mem_cons.mpr ⟨lw_p38, List.forall_mem_cons.mpr ⟨lw_p39, fun _ h => absurd h List.not_mem_nil⟩⟩⟩⟩⟩⟩⟩⟩
def lw_privs : List (MethodName × Nat) := lw_privs_1 ++ (lw_privs_2 ++ (lw_privs_3))
def lw_tbl : List Cond := k2_sels lw_privs ++ tables_1
theorem lw_privs_ok : ∀ q ∈ lw_privs, lw_okq q := by
  show ∀ q ∈ lw_privs_1 ++ (lw_privs_2 ++ (lw_privs_3)), lw_okq q
  exact List.forall_mem_append.mpr ⟨lw_r1, List.forall_mem_append.mpr ⟨lw_r2, lw_r3⟩⟩

def RX0 : String := "CohereBench$Acting"
def TX0 : u_T := fun k => match k with
  | 0 => ("CohereBench$Acting", "protocol", "LCohereBench$Protocol;", true)
  | 1 => ("CohereBench$Acting", "self", "I", false)
  | 2 => ("CohereBench$Acting", "handFor", "I", false)
  | _ => ("CohereBench$Acting", "handFresh", "I", false)
def tyX0 : Nat → FieldType := fun k => match k with
  | 0 => .object "CohereBench$Protocol"
  | 1 => .int
  | 2 => .int
  | _ => .int
abbrev wsX00 : List Cond := u_ws RX0 TX0 4
theorem nmX0 : ∀ a, a < 4 → ∀ b, b < 4 → a ≠ b → (TX0 a).2.1 ≠ (TX0 b).2.1 := by decide +kernel
theorem tyX0_ok : ∀ k, k < 4 → parseFieldDescriptor (TX0 k).2.2.1 = some (tyX0 k) := by decide +kernel
abbrev cX0_init : ByteArray := prog_2_method_1_code
def yX0_init : MethodName := ⟨RX0, "<init>", "(LCohereBench$Protocol;)V"⟩
abbrev cX0_perform : ByteArray := prog_2_method_2_code
def yX0_perform : MethodName := ⟨RX0, "perform", "(LCohereBench$Scene;LCohereBench$StepList;I)I"⟩
abbrev cX0_takeUp : ByteArray := prog_2_method_3_code
def yX0_takeUp : MethodName := ⟨RX0, "takeUp", "(LCohereBench$Scene;LCohereBench$StepList;I)V"⟩
abbrev cX0_cacheAct : ByteArray := prog_2_method_4_code
def yX0_cacheAct : MethodName := ⟨RX0, "cacheAct", "(LCohereBench$Scene;II)I"⟩
abbrev cX0_homeAct : ByteArray := prog_2_method_5_code
def yX0_homeAct : MethodName := ⟨RX0, "homeAct", "(LCohereBench$Scene;II)I"⟩
abbrev cX0_send : ByteArray := prog_2_method_6_code
def yX0_send : MethodName := ⟨RX0, "send", "(LCohereBench$Scene;IIII)I"⟩
def RX1 : String := "CohereBench$Atlas"
def TX1 : u_T := fun k => match k with
  | 0 => ("CohereBench$Atlas", "protocol", "LCohereBench$Protocol;", true)
  | 1 => ("CohereBench$Atlas", "acting", "LCohereBench$Acting;", true)
  | 2 => ("CohereBench$Atlas", "base", "LCohereBench$Scene;", true)
  | 3 => ("CohereBench$Atlas", "trial", "LCohereBench$Scene;", true)
  | 4 => ("CohereBench$Atlas", "choices", "LCohereBench$StepList;", true)
  | 5 => ("CohereBench$Atlas", "shelf", "LCohereBench$Shelf;", true)
  | 6 => ("CohereBench$Atlas", "bads", "LCohereBench$BadList;", true)
  | 7 => ("CohereBench$Atlas", "stuck", "LCohereBench$NumberList;", true)
  | 8 => ("CohereBench$Atlas", "lost", "LCohereBench$NumberList;", true)
  | 9 => ("CohereBench$Atlas", "backtrack", "LCohereBench$Backtrack;", true)
  | 10 => ("CohereBench$Atlas", "finders", "[I", true)
  | 11 => ("CohereBench$Atlas", "depths", "[I", true)
  | 12 => ("CohereBench$Atlas", "usedRows", "[I", true)
  | 13 => ("CohereBench$Atlas", "room", "I", false)
  | 14 => ("CohereBench$Atlas", "tried", "I", false)
  | 15 => ("CohereBench$Atlas", "quiet", "I", false)
  | _ => ("CohereBench$Atlas", "spent", "Z", false)
def tyX1 : Nat → FieldType := fun k => match k with
  | 0 => .object "CohereBench$Protocol"
  | 1 => .object "CohereBench$Acting"
  | 2 => .object "CohereBench$Scene"
  | 3 => .object "CohereBench$Scene"
  | 4 => .object "CohereBench$StepList"
  | 5 => .object "CohereBench$Shelf"
  | 6 => .object "CohereBench$BadList"
  | 7 => .object "CohereBench$NumberList"
  | 8 => .object "CohereBench$NumberList"
  | 9 => .object "CohereBench$Backtrack"
  | 10 => .array .int
  | 11 => .array .int
  | 12 => .array .int
  | 13 => .int
  | 14 => .int
  | 15 => .int
  | _ => .boolean
abbrev wsX10 : List Cond := u_ws RX1 TX1 17
theorem nmX1 : ∀ a, a < 17 → ∀ b, b < 17 → a ≠ b → (TX1 a).2.1 ≠ (TX1 b).2.1 := by decide +kernel
theorem tyX1_ok : ∀ k, k < 17 → parseFieldDescriptor (TX1 k).2.2.1 = some (tyX1 k) := by decide +kernel
abbrev cX1_init : ByteArray := prog_3_method_1_code
def yX1_init : MethodName := ⟨RX1, "<init>", "(LCohereBench$Protocol;LCohereBench$Acting;)V"⟩
abbrev cX1_begin : ByteArray := prog_3_method_2_code
def yX1_begin : MethodName := ⟨RX1, "begin", "(I)V"⟩
abbrev cX1_visit : ByteArray := prog_3_method_3_code
def yX1_visit : MethodName := ⟨RX1, "visit", "(I)V"⟩
abbrev cX1_finish : ByteArray := prog_3_method_4_code
def yX1_finish : MethodName := ⟨RX1, "finish", "()V"⟩
abbrev cX1_tryStep : ByteArray := prog_3_method_5_code
def yX1_tryStep : MethodName := ⟨RX1, "tryStep", "(II)V"⟩
abbrev cX1_markUsed : ByteArray := prog_3_method_6_code
def yX1_markUsed : MethodName := ⟨RX1, "markUsed", "(I)V"⟩
abbrev cX1_keepTrial : ByteArray := prog_3_method_7_code
def yX1_keepTrial : MethodName := ⟨RX1, "keepTrial", "(II)I"⟩
abbrev cX1_figure : ByteArray := prog_3_method_8_code
def yX1_figure : MethodName := ⟨RX1, "figure", "(I)I"⟩
abbrev cX1_greatestDepth : ByteArray := prog_3_method_9_code
def yX1_greatestDepth : MethodName := ⟨RX1, "greatestDepth", "()I"⟩
abbrev cX1_countStates : ByteArray := prog_3_method_10_code
def yX1_countStates : MethodName := ⟨RX1, "countStates", "()I"⟩
abbrev cX1_isSpent : ByteArray := prog_3_method_11_code
def yX1_isSpent : MethodName := ⟨RX1, "isSpent", "()Z"⟩
abbrev cX1_hasState : ByteArray := prog_3_method_12_code
def yX1_hasState : MethodName := ⟨RX1, "hasState", "(I)Z"⟩
abbrev cX1_badAt : ByteArray := prog_3_method_13_code
def yX1_badAt : MethodName := ⟨RX1, "badAt", "(II)I"⟩
abbrev cX1_stuckAt : ByteArray := prog_3_method_14_code
def yX1_stuckAt : MethodName := ⟨RX1, "stuckAt", "(I)I"⟩
abbrev cX1_lostAt : ByteArray := prog_3_method_15_code
def yX1_lostAt : MethodName := ⟨RX1, "lostAt", "(I)I"⟩
abbrev cX1_depthOf : ByteArray := prog_3_method_16_code
def yX1_depthOf : MethodName := ⟨RX1, "depthOf", "(I)I"⟩
abbrev cX1_stepTowards : ByteArray := prog_3_method_17_code
def yX1_stepTowards : MethodName := ⟨RX1, "stepTowards", "(II)I"⟩
abbrev cX1_load : ByteArray := prog_3_method_18_code
def yX1_load : MethodName := ⟨RX1, "load", "(ILCohereBench$Scene;)V"⟩
abbrev cX1_numberOf : ByteArray := prog_3_method_19_code
def yX1_numberOf : MethodName := ⟨RX1, "numberOf", "(LCohereBench$Scene;)I"⟩
abbrev cX1_usedAt : ByteArray := prog_3_method_20_code
def yX1_usedAt : MethodName := ⟨RX1, "usedAt", "(I)I"⟩
def RX2 : String := "CohereBench$Backtrack"
def TX2 : u_T := fun k => match k with
  | 0 => ("CohereBench$Backtrack", "latestPaths", "[I", true)
  | 1 => ("CohereBench$Backtrack", "earlierPaths", "[I", true)
  | 2 => ("CohereBench$Backtrack", "leading", "[Z", true)
  | _ => ("CohereBench$Backtrack", "reached", "LCohereBench$NumberList;", true)
def tyX2 : Nat → FieldType := fun k => match k with
  | 0 => .array .int
  | 1 => .array .int
  | 2 => .array .boolean
  | _ => .object "CohereBench$NumberList"
abbrev wsX20 : List Cond := u_ws RX2 TX2 4
theorem nmX2 : ∀ a, a < 4 → ∀ b, b < 4 → a ≠ b → (TX2 a).2.1 ≠ (TX2 b).2.1 := by decide +kernel
theorem tyX2_ok : ∀ k, k < 4 → parseFieldDescriptor (TX2 k).2.2.1 = some (tyX2 k) := by decide +kernel
abbrev cX2_init : ByteArray := prog_4_method_1_code
def yX2_init : MethodName := ⟨RX2, "<init>", "()V"⟩
abbrev cX2_clear : ByteArray := prog_4_method_2_code
def yX2_clear : MethodName := ⟨RX2, "clear", "()V"⟩
abbrev cX2_addState : ByteArray := prog_4_method_3_code
def yX2_addState : MethodName := ⟨RX2, "addState", "(I)V"⟩
abbrev cX2_addPath : ByteArray := prog_4_method_4_code
def yX2_addPath : MethodName := ⟨RX2, "addPath", "(II)V"⟩
abbrev cX2_markLeading : ByteArray := prog_4_method_5_code
def yX2_markLeading : MethodName := ⟨RX2, "markLeading", "(I)V"⟩
abbrev cX2_isLeading : ByteArray := prog_4_method_6_code
def yX2_isLeading : MethodName := ⟨RX2, "isLeading", "(I)Z"⟩
abbrev cX2_spread : ByteArray := prog_4_method_7_code
def yX2_spread : MethodName := ⟨RX2, "spread", "()V"⟩
def RX3 : String := "CohereBench$BadList"
def TX3 : u_T := fun k => match k with
  | 0 => ("CohereBench$BadList", "hows", "[I", true)
  | 1 => ("CohereBench$BadList", "states", "[I", true)
  | 2 => ("CohereBench$BadList", "steps", "[I", true)
  | _ => ("CohereBench$BadList", "count", "I", false)
def tyX3 : Nat → FieldType := fun k => match k with
  | 0 => .array .int
  | 1 => .array .int
  | 2 => .array .int
  | _ => .int
abbrev wsX30 : List Cond := u_ws RX3 TX3 4
theorem nmX3 : ∀ a, a < 4 → ∀ b, b < 4 → a ≠ b → (TX3 a).2.1 ≠ (TX3 b).2.1 := by decide +kernel
theorem tyX3_ok : ∀ k, k < 4 → parseFieldDescriptor (TX3 k).2.2.1 = some (tyX3 k) := by decide +kernel
abbrev cX3_init : ByteArray := prog_5_method_1_code
def yX3_init : MethodName := ⟨RX3, "<init>", "()V"⟩
abbrev cX3_clear : ByteArray := prog_5_method_2_code
def yX3_clear : MethodName := ⟨RX3, "clear", "()V"⟩
abbrev cX3_count : ByteArray := prog_5_method_3_code
def yX3_count : MethodName := ⟨RX3, "count", "()I"⟩
abbrev cX3_add : ByteArray := prog_5_method_4_code
def yX3_add : MethodName := ⟨RX3, "add", "(III)V"⟩
abbrev cX3_ask : ByteArray := prog_5_method_5_code
def yX3_ask : MethodName := ⟨RX3, "ask", "(II)I"⟩
def RX4 : String := "CohereBench$Letter"
def TX4 : u_T := fun k => match k with
  | _ => ("", "", "", false)
def tyX4 : Nat → FieldType := fun k => match k with
  | _ => .int
abbrev wsX40 : List Cond := u_ws RX4 TX4 0
theorem nmX4 : ∀ a, a < 0 → ∀ b, b < 0 → a ≠ b → (TX4 a).2.1 ≠ (TX4 b).2.1 := by decide +kernel
theorem tyX4_ok : ∀ k, k < 0 → parseFieldDescriptor (TX4 k).2.2.1 = some (tyX4 k) := by decide +kernel
abbrev cX4_make : ByteArray := prog_6_method_2_code
def yX4_make : MethodName := ⟨RX4, "make", "(IIIIII)I"⟩
abbrev cX4_kindOf : ByteArray := prog_6_method_3_code
def yX4_kindOf : MethodName := ⟨RX4, "kindOf", "(I)I"⟩
abbrev cX4_fromOf : ByteArray := prog_6_method_4_code
def yX4_fromOf : MethodName := ⟨RX4, "fromOf", "(I)I"⟩
abbrev cX4_toOf : ByteArray := prog_6_method_5_code
def yX4_toOf : MethodName := ⟨RX4, "toOf", "(I)I"⟩
abbrev cX4_forOf : ByteArray := prog_6_method_6_code
def yX4_forOf : MethodName := ⟨RX4, "forOf", "(I)I"⟩
abbrev cX4_freshOf : ByteArray := prog_6_method_7_code
def yX4_freshOf : MethodName := ⟨RX4, "freshOf", "(I)I"⟩
abbrev cX4_staled : ByteArray := prog_6_method_8_code
def yX4_staled : MethodName := ⟨RX4, "staled", "(I)I"⟩
abbrev cX4_shareOrder : ByteArray := prog_6_method_9_code
def yX4_shareOrder : MethodName := ⟨RX4, "shareOrder", "(II)Z"⟩
abbrev cX4_lastAhead : ByteArray := prog_6_method_10_code
def yX4_lastAhead : MethodName := ⟨RX4, "lastAhead", "(I)I"⟩
def RX5 : String := "CohereBench$NumberList"
def TX5 : u_T := fun k => match k with
  | 0 => ("CohereBench$NumberList", "numbers", "[I", true)
  | _ => ("CohereBench$NumberList", "count", "I", false)
def tyX5 : Nat → FieldType := fun k => match k with
  | 0 => .array .int
  | _ => .int
abbrev wsX50 : List Cond := u_ws RX5 TX5 2
theorem nmX5 : ∀ a, a < 2 → ∀ b, b < 2 → a ≠ b → (TX5 a).2.1 ≠ (TX5 b).2.1 := by decide +kernel
theorem tyX5_ok : ∀ k, k < 2 → parseFieldDescriptor (TX5 k).2.2.1 = some (tyX5 k) := by decide +kernel
abbrev cX5_init : ByteArray := prog_7_method_1_code
def yX5_init : MethodName := ⟨RX5, "<init>", "()V"⟩
abbrev cX5_clear : ByteArray := prog_7_method_2_code
def yX5_clear : MethodName := ⟨RX5, "clear", "()V"⟩
abbrev cX5_count : ByteArray := prog_7_method_3_code
def yX5_count : MethodName := ⟨RX5, "count", "()I"⟩
abbrev cX5_add : ByteArray := prog_7_method_4_code
def yX5_add : MethodName := ⟨RX5, "add", "(I)V"⟩
abbrev cX5_at : ByteArray := prog_7_method_5_code
def yX5_at : MethodName := ⟨RX5, "at", "(I)I"⟩
def RX6 : String := "CohereBench$Protocol"
def TX6 : u_T := fun k => match k with
  | 0 => ("CohereBench$Protocol", "home", "I", false)
  | 1 => ("CohereBench$Protocol", "loose", "[I", true)
  | 2 => ("CohereBench$Protocol", "rights", "[I", true)
  | 3 => ("CohereBench$Protocol", "lengths", "[I", true)
  | 4 => ("CohereBench$Protocol", "firstActs", "[I", true)
  | 5 => ("CohereBench$Protocol", "laterActs", "[I", true)
  | 6 => ("CohereBench$Protocol", "waits", "[Z", true)
  | _ => ("CohereBench$Protocol", "rowCounts", "[I", true)
def tyX6 : Nat → FieldType := fun k => match k with
  | 0 => .int
  | 1 => .array .int
  | 2 => .array .int
  | 3 => .array .int
  | 4 => .array .int
  | 5 => .array .int
  | 6 => .array .boolean
  | _ => .array .int
abbrev wsX60 : List Cond := u_ws RX6 TX6 8
theorem nmX6 : ∀ a, a < 8 → ∀ b, b < 8 → a ≠ b → (TX6 a).2.1 ≠ (TX6 b).2.1 := by decide +kernel
theorem tyX6_ok : ∀ k, k < 8 → parseFieldDescriptor (TX6 k).2.2.1 = some (tyX6 k) := by decide +kernel
abbrev cX6_init : ByteArray := prog_8_method_1_code
def yX6_init : MethodName := ⟨RX6, "<init>", "()V"⟩
abbrev cX6_home : ByteArray := prog_8_method_2_code
def yX6_home : MethodName := ⟨RX6, "home", "()I"⟩
abbrev cX6_setHome : ByteArray := prog_8_method_3_code
def yX6_setHome : MethodName := ⟨RX6, "setHome", "(I)I"⟩
abbrev cX6_looseOf : ByteArray := prog_8_method_4_code
def yX6_looseOf : MethodName := ⟨RX6, "looseOf", "(I)I"⟩
abbrev cX6_setLoose : ByteArray := prog_8_method_5_code
def yX6_setLoose : MethodName := ⟨RX6, "setLoose", "(II)I"⟩
abbrev cX6_setRight : ByteArray := prog_8_method_6_code
def yX6_setRight : MethodName := ⟨RX6, "setRight", "(II)I"⟩
abbrev cX6_hasRow : ByteArray := prog_8_method_7_code
def yX6_hasRow : MethodName := ⟨RX6, "hasRow", "(I)Z"⟩
abbrev cX6_lengthOf : ByteArray := prog_8_method_8_code
def yX6_lengthOf : MethodName := ⟨RX6, "lengthOf", "(I)I"⟩
abbrev cX6_waitsAt : ByteArray := prog_8_method_9_code
def yX6_waitsAt : MethodName := ⟨RX6, "waitsAt", "(I)Z"⟩
abbrev cX6_countRows : ByteArray := prog_8_method_10_code
def yX6_countRows : MethodName := ⟨RX6, "countRows", "(I)I"⟩
abbrev cX6_putRow : ByteArray := prog_8_method_11_code
def yX6_putRow : MethodName := ⟨RX6, "putRow", "(IIII)I"⟩
abbrev cX6_dropRow : ByteArray := prog_8_method_12_code
def yX6_dropRow : MethodName := ⟨RX6, "dropRow", "(I)I"⟩
abbrev cX6_actOf : ByteArray := prog_8_method_13_code
def yX6_actOf : MethodName := ⟨RX6, "actOf", "(II)I"⟩
abbrev cX6_hasWait : ByteArray := prog_8_method_14_code
def yX6_hasWait : MethodName := ⟨RX6, "hasWait", "(I)Z"⟩
abbrev cX6_cachePlace : ByteArray := prog_8_method_15_code
def yX6_cachePlace : MethodName := ⟨RX6, "cachePlace", "(II)I"⟩
abbrev cX6_letterPlace : ByteArray := prog_8_method_16_code
def yX6_letterPlace : MethodName := ⟨RX6, "letterPlace", "(LCohereBench$Scene;I)I"⟩
abbrev cX6_badnessOf : ByteArray := prog_8_method_17_code
def yX6_badnessOf : MethodName := ⟨RX6, "badnessOf", "(LCohereBench$Scene;)I"⟩
def RX7 : String := "CohereBench$Scene"
def TX7 : u_T := fun k => match k with
  | 0 => ("CohereBench$Scene", "ends", "J", false)
  | 1 => ("CohereBench$Scene", "count", "I", false)
  | _ => ("CohereBench$Scene", "letters", "[I", true)
def tyX7 : Nat → FieldType := fun k => match k with
  | 0 => .long
  | 1 => .int
  | _ => .array .int
abbrev wsX70 : List Cond := u_ws RX7 TX7 3
theorem nmX7 : ∀ a, a < 3 → ∀ b, b < 3 → a ≠ b → (TX7 a).2.1 ≠ (TX7 b).2.1 := by decide +kernel
theorem tyX7_ok : ∀ k, k < 3 → parseFieldDescriptor (TX7 k).2.2.1 = some (tyX7 k) := by decide +kernel
abbrev cX7_init : ByteArray := prog_9_method_1_code
def yX7_init : MethodName := ⟨RX7, "<init>", "()V"⟩
abbrev cX7_begin : ByteArray := prog_9_method_2_code
def yX7_begin : MethodName := ⟨RX7, "begin", "(I)V"⟩
abbrev cX7_copy : ByteArray := prog_9_method_3_code
def yX7_copy : MethodName := ⟨RX7, "copy", "(LCohereBench$Scene;)V"⟩
abbrev cX7_stateOf : ByteArray := prog_9_method_4_code
def yX7_stateOf : MethodName := ⟨RX7, "stateOf", "(I)I"⟩
abbrev cX7_freshOf : ByteArray := prog_9_method_5_code
def yX7_freshOf : MethodName := ⟨RX7, "freshOf", "(I)I"⟩
abbrev cX7_wantOf : ByteArray := prog_9_method_6_code
def yX7_wantOf : MethodName := ⟨RX7, "wantOf", "(I)I"⟩
abbrev cX7_holders : ByteArray := prog_9_method_7_code
def yX7_holders : MethodName := ⟨RX7, "holders", "()I"⟩
abbrev cX7_setState : ByteArray := prog_9_method_8_code
def yX7_setState : MethodName := ⟨RX7, "setState", "(II)V"⟩
abbrev cX7_setFresh : ByteArray := prog_9_method_9_code
def yX7_setFresh : MethodName := ⟨RX7, "setFresh", "(II)V"⟩
abbrev cX7_setWant : ByteArray := prog_9_method_10_code
def yX7_setWant : MethodName := ⟨RX7, "setWant", "(II)V"⟩
abbrev cX7_setHolders : ByteArray := prog_9_method_11_code
def yX7_setHolders : MethodName := ⟨RX7, "setHolders", "(I)V"⟩
abbrev cX7_isQuiet : ByteArray := prog_9_method_12_code
def yX7_isQuiet : MethodName := ⟨RX7, "isQuiet", "()Z"⟩
abbrev cX7_letterCount : ByteArray := prog_9_method_13_code
def yX7_letterCount : MethodName := ⟨RX7, "letterCount", "()I"⟩
abbrev cX7_letterAt : ByteArray := prog_9_method_14_code
def yX7_letterAt : MethodName := ⟨RX7, "letterAt", "(I)I"⟩
abbrev cX7_isBehindAnother : ByteArray := prog_9_method_15_code
def yX7_isBehindAnother : MethodName := ⟨RX7, "isBehindAnother", "(I)Z"⟩
abbrev cX7_add : ByteArray := prog_9_method_16_code
def yX7_add : MethodName := ⟨RX7, "add", "(I)Z"⟩
abbrev cX7_take : ByteArray := prog_9_method_17_code
def yX7_take : MethodName := ⟨RX7, "take", "(I)I"⟩
abbrev cX7_storeAt : ByteArray := prog_9_method_18_code
def yX7_storeAt : MethodName := ⟨RX7, "storeAt", "(I)V"⟩
abbrev cX7_endsWord : ByteArray := prog_9_method_19_code
def yX7_endsWord : MethodName := ⟨RX7, "endsWord", "()J"⟩
abbrev cX7_lettersWord : ByteArray := prog_9_method_20_code
def yX7_lettersWord : MethodName := ⟨RX7, "lettersWord", "(I)J"⟩
abbrev cX7_load : ByteArray := prog_9_method_21_code
def yX7_load : MethodName := ⟨RX7, "load", "(JJJ)V"⟩
abbrev cX7_loadHalf : ByteArray := prog_9_method_22_code
def yX7_loadHalf : MethodName := ⟨RX7, "loadHalf", "(IJ)V"⟩
abbrev cX7_part : ByteArray := prog_9_method_23_code
def yX7_part : MethodName := ⟨RX7, "part", "(II)I"⟩
abbrev cX7_setPart : ByteArray := prog_9_method_24_code
def yX7_setPart : MethodName := ⟨RX7, "setPart", "(III)V"⟩
def RX8 : String := "CohereBench$Shelf"
def TX8 : u_T := fun k => match k with
  | 0 => ("CohereBench$Shelf", "ends", "[J", true)
  | 1 => ("CohereBench$Shelf", "lowLetters", "[J", true)
  | 2 => ("CohereBench$Shelf", "highLetters", "[J", true)
  | 3 => ("CohereBench$Shelf", "slots", "[I", true)
  | _ => ("CohereBench$Shelf", "count", "I", false)
def tyX8 : Nat → FieldType := fun k => match k with
  | 0 => .array .long
  | 1 => .array .long
  | 2 => .array .long
  | 3 => .array .int
  | _ => .int
abbrev wsX80 : List Cond := u_ws RX8 TX8 5
theorem nmX8 : ∀ a, a < 5 → ∀ b, b < 5 → a ≠ b → (TX8 a).2.1 ≠ (TX8 b).2.1 := by decide +kernel
theorem tyX8_ok : ∀ k, k < 5 → parseFieldDescriptor (TX8 k).2.2.1 = some (tyX8 k) := by decide +kernel
abbrev cX8_init : ByteArray := prog_10_method_1_code
def yX8_init : MethodName := ⟨RX8, "<init>", "()V"⟩
abbrev cX8_clear : ByteArray := prog_10_method_2_code
def yX8_clear : MethodName := ⟨RX8, "clear", "()V"⟩
abbrev cX8_count : ByteArray := prog_10_method_3_code
def yX8_count : MethodName := ⟨RX8, "count", "()I"⟩
abbrev cX8_find : ByteArray := prog_10_method_4_code
def yX8_find : MethodName := ⟨RX8, "find", "(LCohereBench$Scene;)I"⟩
abbrev cX8_keep : ByteArray := prog_10_method_5_code
def yX8_keep : MethodName := ⟨RX8, "keep", "(LCohereBench$Scene;)I"⟩
abbrev cX8_load : ByteArray := prog_10_method_6_code
def yX8_load : MethodName := ⟨RX8, "load", "(ILCohereBench$Scene;)V"⟩
abbrev cX8_slotOf : ByteArray := prog_10_method_7_code
def yX8_slotOf : MethodName := ⟨RX8, "slotOf", "(JJJ)I"⟩
abbrev cX8_startOf : ByteArray := prog_10_method_8_code
def yX8_startOf : MethodName := ⟨RX8, "startOf", "(JJJ)I"⟩
def RX9 : String := "CohereBench$StepList"
def TX9 : u_T := fun k => match k with
  | 0 => ("CohereBench$StepList", "protocol", "LCohereBench$Protocol;", true)
  | 1 => ("CohereBench$StepList", "ends", "[I", true)
  | 2 => ("CohereBench$StepList", "events", "[I", true)
  | 3 => ("CohereBench$StepList", "senders", "[I", true)
  | 4 => ("CohereBench$StepList", "letters", "[I", true)
  | 5 => ("CohereBench$StepList", "places", "[I", true)
  | _ => ("CohereBench$StepList", "count", "I", false)
def tyX9 : Nat → FieldType := fun k => match k with
  | 0 => .object "CohereBench$Protocol"
  | 1 => .array .int
  | 2 => .array .int
  | 3 => .array .int
  | 4 => .array .int
  | 5 => .array .int
  | _ => .int
abbrev wsX90 : List Cond := u_ws RX9 TX9 7
theorem nmX9 : ∀ a, a < 7 → ∀ b, b < 7 → a ≠ b → (TX9 a).2.1 ≠ (TX9 b).2.1 := by decide +kernel
theorem tyX9_ok : ∀ k, k < 7 → parseFieldDescriptor (TX9 k).2.2.1 = some (tyX9 k) := by decide +kernel
abbrev cX9_init : ByteArray := prog_11_method_1_code
def yX9_init : MethodName := ⟨RX9, "<init>", "(LCohereBench$Protocol;)V"⟩
abbrev cX9_count : ByteArray := prog_11_method_2_code
def yX9_count : MethodName := ⟨RX9, "count", "()I"⟩
abbrev cX9_endOf : ByteArray := prog_11_method_3_code
def yX9_endOf : MethodName := ⟨RX9, "endOf", "(I)I"⟩
abbrev cX9_eventOf : ByteArray := prog_11_method_4_code
def yX9_eventOf : MethodName := ⟨RX9, "eventOf", "(I)I"⟩
abbrev cX9_senderOf : ByteArray := prog_11_method_5_code
def yX9_senderOf : MethodName := ⟨RX9, "senderOf", "(I)I"⟩
abbrev cX9_letterOf : ByteArray := prog_11_method_6_code
def yX9_letterOf : MethodName := ⟨RX9, "letterOf", "(I)I"⟩
abbrev cX9_placeAt : ByteArray := prog_11_method_7_code
def yX9_placeAt : MethodName := ⟨RX9, "placeAt", "(I)I"⟩
abbrev cX9_list : ByteArray := prog_11_method_8_code
def yX9_list : MethodName := ⟨RX9, "list", "(LCohereBench$Scene;)V"⟩
abbrev cX9_listOwn : ByteArray := prog_11_method_9_code
def yX9_listOwn : MethodName := ⟨RX9, "listOwn", "(LCohereBench$Scene;I)V"⟩
abbrev cX9_listComing : ByteArray := prog_11_method_10_code
def yX9_listComing : MethodName := ⟨RX9, "listComing", "(LCohereBench$Scene;I)V"⟩
abbrev cX9_add : ByteArray := prog_11_method_11_code
def yX9_add : MethodName := ⟨RX9, "add", "(IIIII)V"⟩
def RX10 : String := "CohereBench"
def TX10 : u_T := fun k => match k with
  | 0 => ("CohereBench", "protocol", "LCohereBench$Protocol;", true)
  | 1 => ("CohereBench", "acting", "LCohereBench$Acting;", true)
  | 2 => ("CohereBench", "run", "LCohereBench$Scene;", true)
  | 3 => ("CohereBench", "trial", "LCohereBench$Scene;", true)
  | 4 => ("CohereBench", "choices", "LCohereBench$StepList;", true)
  | 5 => ("CohereBench", "atlas", "LCohereBench$Atlas;", true)
  | _ => ("CohereBench", "atlasHolds", "Z", false)
def tyX10 : Nat → FieldType := fun k => match k with
  | 0 => .object "CohereBench$Protocol"
  | 1 => .object "CohereBench$Acting"
  | 2 => .object "CohereBench$Scene"
  | 3 => .object "CohereBench$Scene"
  | 4 => .object "CohereBench$StepList"
  | 5 => .object "CohereBench$Atlas"
  | _ => .boolean
abbrev wsX100 : List Cond := u_ws RX10 TX10 7
theorem nmX10 : ∀ a, a < 7 → ∀ b, b < 7 → a ≠ b → (TX10 a).2.1 ≠ (TX10 b).2.1 := by decide +kernel
theorem tyX10_ok : ∀ k, k < 7 → parseFieldDescriptor (TX10 k).2.2.1 = some (tyX10 k) := by decide +kernel
abbrev cX10_init : ByteArray := prog_1_method_1_code
def yX10_init : MethodName := ⟨RX10, "<init>", "()V"⟩
abbrev cX10_processors : ByteArray := prog_1_method_2_code
def yX10_processors : MethodName := ⟨RX10, "processors", "(I)I"⟩
abbrev cX10_net : ByteArray := prog_1_method_3_code
def yX10_net : MethodName := ⟨RX10, "net", "(II)I"⟩
abbrev cX10_right : ByteArray := prog_1_method_4_code
def yX10_right : MethodName := ⟨RX10, "right", "(II)I"⟩
abbrev cX10_row : ByteArray := prog_1_method_5_code
def yX10_row : MethodName := ⟨RX10, "row", "(III)I"⟩
abbrev cX10_tear : ByteArray := prog_1_method_6_code
def yX10_tear : MethodName := ⟨RX10, "tear", "(I)I"⟩
abbrev cX10_rows : ByteArray := prog_1_method_7_code
def yX10_rows : MethodName := ⟨RX10, "rows", "(I)I"⟩
abbrev cX10_reset : ByteArray := prog_1_method_8_code
def yX10_reset : MethodName := ⟨RX10, "reset", "()I"⟩
abbrev cX10_steps : ByteArray := prog_1_method_9_code
def yX10_steps : MethodName := ⟨RX10, "steps", "()I"⟩
abbrev cX10_step : ByteArray := prog_1_method_10_code
def yX10_step : MethodName := ⟨RX10, "step", "(II)I"⟩
abbrev cX10_choose : ByteArray := prog_1_method_11_code
def yX10_choose : MethodName := ⟨RX10, "choose", "(I)I"⟩
abbrev cX10_end : ByteArray := prog_1_method_12_code
def yX10_end : MethodName := ⟨RX10, "end", "(II)I"⟩
abbrev cX10_letter : ByteArray := prog_1_method_13_code
def yX10_letter : MethodName := ⟨RX10, "letter", "(II)I"⟩
abbrev cX10_now : ByteArray := prog_1_method_14_code
def yX10_now : MethodName := ⟨RX10, "now", "(I)I"⟩
abbrev cX10_walk : ByteArray := prog_1_method_15_code
def yX10_walk : MethodName := ⟨RX10, "walk", "(I)I"⟩
abbrev cX10_walked : ByteArray := prog_1_method_16_code
def yX10_walked : MethodName := ⟨RX10, "walked", "(I)I"⟩
abbrev cX10_bad : ByteArray := prog_1_method_17_code
def yX10_bad : MethodName := ⟨RX10, "bad", "(II)I"⟩
abbrev cX10_found : ByteArray := prog_1_method_18_code
def yX10_found : MethodName := ⟨RX10, "found", "(II)I"⟩
abbrev cX10_far : ByteArray := prog_1_method_19_code
def yX10_far : MethodName := ⟨RX10, "far", "(I)I"⟩
abbrev cX10_way : ByteArray := prog_1_method_20_code
def yX10_way : MethodName := ⟨RX10, "way", "(II)I"⟩
abbrev cX10_go : ByteArray := prog_1_method_21_code
def yX10_go : MethodName := ⟨RX10, "go", "(I)I"⟩
abbrev cX10_number : ByteArray := prog_1_method_22_code
def yX10_number : MethodName := ⟨RX10, "number", "()I"⟩
abbrev cX10_used : ByteArray := prog_1_method_23_code
def yX10_used : MethodName := ⟨RX10, "used", "(I)I"⟩
abbrev cX10_beginAnew : ByteArray := prog_1_method_24_code
def yX10_beginAnew : MethodName := ⟨RX10, "beginAnew", "()V"⟩
abbrev cX10_countChoices : ByteArray := prog_1_method_25_code
def yX10_countChoices : MethodName := ⟨RX10, "countChoices", "()I"⟩
abbrev cX10_placeOf : ByteArray := prog_1_method_26_code
def yX10_placeOf : MethodName := ⟨RX10, "placeOf", "(I)I"⟩
abbrev cX10_sideOf : ByteArray := prog_1_method_27_code
def yX10_sideOf : MethodName := ⟨RX10, "sideOf", "(I)I"⟩
def RX11 : String := "CohereBenchModel"
def TX11 : u_T := fun k => match k with
  | 0 => ("CohereBenchModel", "processors", "I", false)
  | 1 => ("CohereBenchModel", "loose", "[I", true)
  | 2 => ("CohereBenchModel", "right", "[I", true)
  | 3 => ("CohereBenchModel", "actMany", "[I", true)
  | 4 => ("CohereBenchModel", "acts", "[I", true)
  | 5 => ("CohereBenchModel", "isUsed", "[Z", true)
  | 6 => ("CohereBenchModel", "now", "[I", true)
  | 7 => ("CohereBenchModel", "run", "[I", true)
  | 8 => ("CohereBenchModel", "kept", "[I", true)
  | 9 => ("CohereBenchModel", "handKind", "I", false)
  | 10 => ("CohereBenchModel", "handFor", "I", false)
  | 11 => ("CohereBenchModel", "handData", "I", false)
  | 12 => ("CohereBenchModel", "stepWho", "[I", true)
  | 13 => ("CohereBenchModel", "stepEvent", "[I", true)
  | 14 => ("CohereBenchModel", "stepFrom", "[I", true)
  | 15 => ("CohereBenchModel", "stepLetter", "[I", true)
  | 16 => ("CohereBenchModel", "stepMany", "I", false)
  | 17 => ("CohereBenchModel", "states", "[I", true)
  | 18 => ("CohereBenchModel", "sums", "[J", true)
  | 19 => ("CohereBenchModel", "parent", "[I", true)
  | 20 => ("CohereBenchModel", "parentStep", "[I", true)
  | 21 => ("CohereBenchModel", "far", "[I", true)
  | 22 => ("CohereBenchModel", "next", "[I", true)
  | 23 => ("CohereBenchModel", "isStuck", "[Z", true)
  | 24 => ("CohereBenchModel", "leads", "[Z", true)
  | 25 => ("CohereBenchModel", "many", "I", false)
  | 26 => ("CohereBenchModel", "tried", "I", false)
  | 27 => ("CohereBenchModel", "bads", "I", false)
  | 28 => ("CohereBenchModel", "badHow", "[I", true)
  | 29 => ("CohereBenchModel", "badState", "[I", true)
  | 30 => ("CohereBenchModel", "badStep", "[I", true)
  | 31 => ("CohereBenchModel", "quiet", "I", false)
  | 32 => ("CohereBenchModel", "isSpent", "Z", false)
  | 33 => ("CohereBenchModel", "isChanged", "Z", false)
  | _ => ("CohereBenchModel", "usedRow", "I", false)
def tyX11 : Nat → FieldType := fun k => match k with
  | 0 => .int
  | 1 => .array .int
  | 2 => .array .int
  | 3 => .array .int
  | 4 => .array .int
  | 5 => .array .boolean
  | 6 => .array .int
  | 7 => .array .int
  | 8 => .array .int
  | 9 => .int
  | 10 => .int
  | 11 => .int
  | 12 => .array .int
  | 13 => .array .int
  | 14 => .array .int
  | 15 => .array .int
  | 16 => .int
  | 17 => .array .int
  | 18 => .array .long
  | 19 => .array .int
  | 20 => .array .int
  | 21 => .array .int
  | 22 => .array .int
  | 23 => .array .boolean
  | 24 => .array .boolean
  | 25 => .int
  | 26 => .int
  | 27 => .int
  | 28 => .array .int
  | 29 => .array .int
  | 30 => .array .int
  | 31 => .int
  | 32 => .boolean
  | 33 => .boolean
  | _ => .int
abbrev wsX110 : List Cond := u_ws RX11 TX11 35
theorem nmX11 : ∀ a, a < 35 → ∀ b, b < 35 → a ≠ b → (TX11 a).2.1 ≠ (TX11 b).2.1 := by decide +kernel
theorem tyX11_ok : ∀ k, k < 35 → parseFieldDescriptor (TX11 k).2.2.1 = some (tyX11 k) := by decide +kernel
abbrev cX11_init : ByteArray := prog_13_method_1_code
def yX11_init : MethodName := ⟨RX11, "<init>", "()V"⟩
abbrev cX11_copy : ByteArray := prog_13_method_2_code
def yX11_copy : MethodName := ⟨RX11, "copy", "([II[II)V"⟩
abbrev cX11_first : ByteArray := prog_13_method_3_code
def yX11_first : MethodName := ⟨RX11, "first", "()V"⟩
abbrev cX11_changed : ByteArray := prog_13_method_4_code
def yX11_changed : MethodName := ⟨RX11, "changed", "()V"⟩
abbrev cX11_processors : ByteArray := prog_13_method_5_code
def yX11_processors : MethodName := ⟨RX11, "processors", "(I)I"⟩
abbrev cX11_net : ByteArray := prog_13_method_6_code
def yX11_net : MethodName := ⟨RX11, "net", "(II)I"⟩
abbrev cX11_right : ByteArray := prog_13_method_7_code
def yX11_right : MethodName := ⟨RX11, "right", "(II)I"⟩
abbrev cX11_placeOf : ByteArray := prog_13_method_8_code
def yX11_placeOf : MethodName := ⟨RX11, "placeOf", "(I)I"⟩
abbrev cX11_row : ByteArray := prog_13_method_9_code
def yX11_row : MethodName := ⟨RX11, "row", "(III)I"⟩
abbrev cX11_tear : ByteArray := prog_13_method_10_code
def yX11_tear : MethodName := ⟨RX11, "tear", "(I)I"⟩
abbrev cX11_rows : ByteArray := prog_13_method_11_code
def yX11_rows : MethodName := ⟨RX11, "rows", "(I)I"⟩
abbrev cX11_letterAt : ByteArray := prog_13_method_12_code
def yX11_letterAt : MethodName := ⟨RX11, "letterAt", "(II)I"⟩
abbrev cX11_rowOfLetter : ByteArray := prog_13_method_13_code
def yX11_rowOfLetter : MethodName := ⟨RX11, "rowOfLetter", "(I)I"⟩
abbrev cX11_waits : ByteArray := prog_13_method_14_code
def yX11_waits : MethodName := ⟨RX11, "waits", "(I)Z"⟩
abbrev cX11_addStep : ByteArray := prog_13_method_15_code
def yX11_addStep : MethodName := ⟨RX11, "addStep", "(IIII)V"⟩
abbrev cX11_findSteps : ByteArray := prog_13_method_16_code
def yX11_findSteps : MethodName := ⟨RX11, "findSteps", "()V"⟩
abbrev cX11_compareLetters : ByteArray := prog_13_method_17_code
def yX11_compareLetters : MethodName := ⟨RX11, "compareLetters", "(II)I"⟩
abbrev cX11_isAhead : ByteArray := prog_13_method_18_code
def yX11_isAhead : MethodName := ⟨RX11, "isAhead", "(IIIIII)Z"⟩
abbrev cX11_send : ByteArray := prog_13_method_19_code
def yX11_send : MethodName := ⟨RX11, "send", "(IIIII)Z"⟩
abbrev cX11_takeLetter : ByteArray := prog_13_method_20_code
def yX11_takeLetter : MethodName := ⟨RX11, "takeLetter", "(I)V"⟩
abbrev cX11_stale : ByteArray := prog_13_method_21_code
def yX11_stale : MethodName := ⟨RX11, "stale", "(I)V"⟩
abbrev cX11_cacheActs : ByteArray := prog_13_method_22_code
def yX11_cacheActs : MethodName := ⟨RX11, "cacheActs", "(III)I"⟩
abbrev cX11_homeActs : ByteArray := prog_13_method_23_code
def yX11_homeActs : MethodName := ⟨RX11, "homeActs", "(II)I"⟩
abbrev cX11_doStep : ByteArray := prog_13_method_24_code
def yX11_doStep : MethodName := ⟨RX11, "doStep", "(I)I"⟩
abbrev cX11_badNow : ByteArray := prog_13_method_25_code
def yX11_badNow : MethodName := ⟨RX11, "badNow", "()I"⟩
abbrev cX11_isQuiet : ByteArray := prog_13_method_26_code
def yX11_isQuiet : MethodName := ⟨RX11, "isQuiet", "()Z"⟩
abbrev cX11_toRun : ByteArray := prog_13_method_27_code
def yX11_toRun : MethodName := ⟨RX11, "toRun", "()V"⟩
abbrev cX11_reset : ByteArray := prog_13_method_28_code
def yX11_reset : MethodName := ⟨RX11, "reset", "()I"⟩
abbrev cX11_steps : ByteArray := prog_13_method_29_code
def yX11_steps : MethodName := ⟨RX11, "steps", "()I"⟩
abbrev cX11_step : ByteArray := prog_13_method_30_code
def yX11_step : MethodName := ⟨RX11, "step", "(II)I"⟩
abbrev cX11_choose : ByteArray := prog_13_method_31_code
def yX11_choose : MethodName := ⟨RX11, "choose", "(I)I"⟩
abbrev cX11_end : ByteArray := prog_13_method_32_code
def yX11_end : MethodName := ⟨RX11, "end", "(II)I"⟩
abbrev cX11_letter : ByteArray := prog_13_method_33_code
def yX11_letter : MethodName := ⟨RX11, "letter", "(II)I"⟩
abbrev cX11_now : ByteArray := prog_13_method_34_code
def yX11_now : MethodName := ⟨RX11, "now", "(I)I"⟩
abbrev cX11_sumOf : ByteArray := prog_13_method_35_code
def yX11_sumOf : MethodName := ⟨RX11, "sumOf", "([I)J"⟩
abbrev cX11_numberOf : ByteArray := prog_13_method_36_code
def yX11_numberOf : MethodName := ⟨RX11, "numberOf", "()I"⟩
abbrev cX11_addBad : ByteArray := prog_13_method_37_code
def yX11_addBad : MethodName := ⟨RX11, "addBad", "(III)V"⟩
abbrev cX11_add : ByteArray := prog_13_method_38_code
def yX11_add : MethodName := ⟨RX11, "add", "(II)I"⟩
abbrev cX11_walk : ByteArray := prog_13_method_39_code
def yX11_walk : MethodName := ⟨RX11, "walk", "(I)I"⟩
abbrev cX11_from : ByteArray := prog_13_method_40_code
def yX11_from : MethodName := ⟨RX11, "from", "(II)V"⟩
abbrev cX11_lead : ByteArray := prog_13_method_41_code
def yX11_lead : MethodName := ⟨RX11, "lead", "()V"⟩
abbrev cX11_walked : ByteArray := prog_13_method_42_code
def yX11_walked : MethodName := ⟨RX11, "walked", "(I)I"⟩
abbrev cX11_bad : ByteArray := prog_13_method_43_code
def yX11_bad : MethodName := ⟨RX11, "bad", "(II)I"⟩
abbrev cX11_found : ByteArray := prog_13_method_44_code
def yX11_found : MethodName := ⟨RX11, "found", "(II)I"⟩
abbrev cX11_far : ByteArray := prog_13_method_45_code
def yX11_far : MethodName := ⟨RX11, "far", "(I)I"⟩
abbrev cX11_way : ByteArray := prog_13_method_46_code
def yX11_way : MethodName := ⟨RX11, "way", "(II)I"⟩
abbrev cX11_go : ByteArray := prog_13_method_47_code
def yX11_go : MethodName := ⟨RX11, "go", "(I)I"⟩
abbrev cX11_number : ByteArray := prog_13_method_48_code
def yX11_number : MethodName := ⟨RX11, "number", "()I"⟩
abbrev cX11_used : ByteArray := prog_13_method_49_code
def yX11_used : MethodName := ⟨RX11, "used", "(I)I"⟩
def RJ10 : String := "java/lang/System"
def TJ10 : u_T := fun k => match k with
  | _ => ("", "", "", false)
def tyJ10 : Nat → FieldType := fun k => match k with
  | _ => .int
abbrev wsJ100 : List Cond := u_ws RJ10 TJ10 0
theorem nmJ10 : ∀ a, a < 0 → ∀ b, b < 0 → a ≠ b → (TJ10 a).2.1 ≠ (TJ10 b).2.1 := by decide +kernel
theorem tyJ10_ok : ∀ k, k < 0 → parseFieldDescriptor (TJ10 k).2.2.1 = some (tyJ10 k) := by decide +kernel
def RJ7 : String := "java/util/Arrays"
def TJ7 : u_T := fun k => match k with
  | _ => ("", "", "", false)
def tyJ7 : Nat → FieldType := fun k => match k with
  | _ => .int
abbrev wsJ70 : List Cond := u_ws RJ7 TJ7 0
theorem nmJ7 : ∀ a, a < 0 → ∀ b, b < 0 → a ≠ b → (TJ7 a).2.1 ≠ (TJ7 b).2.1 := by decide +kernel
theorem tyJ7_ok : ∀ k, k < 0 → parseFieldDescriptor (TJ7 k).2.2.1 = some (tyJ7 k) := by decide +kernel
abbrev cJ7_fill_53178 : ByteArray := prog_15_method_103_code
def yJ7_fill_53178 : MethodName := ⟨RJ7, "fill", "([II)V"⟩
def RL : String := "CohereBenchLaw"
abbrev cL_law : ByteArray := code
def yL_law : MethodName := ⟨RL, "law", "([I)Z"⟩
/-! infos of methods, classes, links -/
abbrev MI : Type := MethodName × ByteArray × Nat × Option FieldType × Nat × Nat × Nat × Nat
abbrev mY (M : MI) : MethodName := M.1
abbrev mB (M : MI) : ByteArray := M.2.1
abbrev mL (M : MI) : Nat := M.2.2.1
abbrev mR (M : MI) : Option FieldType := M.2.2.2.1
abbrev mF (M : MI) : Nat := M.2.2.2.2.1
abbrev mO (M : MI) : Nat := M.2.2.2.2.2.1
abbrev mC (M : MI) : Nat := M.2.2.2.2.2.2.1
abbrev mS (M : MI) : Nat := M.2.2.2.2.2.2.2
abbrev mRm (M : MI) : Room := { frames := mF M, cells := mC M, slots := mS M, locals := mO M }
def tb : List Cond := lw_tbl.filter goodWord
theorem tb_at {w : Cond} (i : Nat) (h : lw_tbl[i]? = some w) (g : goodWord w = true) : w ∈ tb := List.mem_filter.mpr ⟨List.mem_of_getElem? h, g⟩
theorem tb_good {ws : List Cond} (h : ∀ w ∈ ws, w ∈ tb) : GoodIn tb ws := fun w hw => ⟨h w hw, good_of_word (List.mem_filter.mp (h w hw)).2⟩
theorem tb_in {ws : List Cond} (ps : List Nat) (hp : ws = ps.filterMap (fun i => lw_tbl[i]?)) (g : ws.all goodWord = true) : ∀ w ∈ ws, w ∈ tb := by
  intro w hw
  refine List.mem_filter.mpr ⟨?_, List.all_eq_true.mp g w hw⟩
  rw [hp] at hw
  obtain ⟨i, -, hi⟩ := List.mem_filterMap.mp hw
  exact List.mem_of_getElem? hi
abbrev vwCl : List vw_C := [(RX0, TX0, 4), (RX1, TX1, 17), (RX2, TX2, 4), (RX3, TX3, 4), (RX5, TX5, 2), (RX6, TX6, 8), (RX7, TX7, 3), (RX8, TX8, 5), (RX9, TX9, 7), (RX10, TX10, 7), (RX11, TX11, 35)]
def CiOk (ci : Nat) (C : String) (T : u_T) (N : Nat) (ty : Nat → FieldType) : Prop := vwCl[ci]? = some (C, T, N) ∧ (∀ w ∈ u_ws C T N, w ∈ tb) ∧ (∀ k, k < N → parseFieldDescriptor (T k).2.2.1 = some (ty k)) ∧ (∀ a, a < N → ∀ b, b < N → a ≠ b → (T a).2.1 ≠ (T b).2.1) ∧ Cond.instantiable C N ∈ tb ∧ Cond.initialized C ∈ tb
theorem ci_0 : CiOk 0 RX0 TX0 4 tyX0 := ⟨rfl, tb_in [109, 111, 113, 115] (by decide +kernel) (by decide +kernel), tyX0_ok, nmX0, tb_at 100 (by decide +kernel) rfl, tb_at 44 (by decide +kernel) rfl⟩
theorem ci_1 : CiOk 1 RX1 TX1 17 tyX1 := ⟨rfl, tb_in [266, 268, 270, 272, 274, 276, 278, 280, 282, 284, 286, 288, 290, 292, 294, 296, 298] (by decide +kernel) (by decide +kernel), tyX1_ok, nmX1, tb_at 163 (by decide +kernel) rfl, tb_at 47 (by decide +kernel) rfl⟩
theorem ci_2 : CiOk 2 RX2 TX2 4 tyX2 := ⟨rfl, tb_in [240, 242, 244, 246] (by decide +kernel) (by decide +kernel), tyX2_ok, nmX2, tb_at 228 (by decide +kernel) rfl, tb_at 51 (by decide +kernel) rfl⟩
theorem ci_3 : CiOk 3 RX3 TX3 4 tyX3 := ⟨rfl, tb_in [205, 207, 209, 211] (by decide +kernel) (by decide +kernel), tyX3_ok, nmX3, tb_at 196 (by decide +kernel) rfl, tb_at 49 (by decide +kernel) rfl⟩
theorem ci_4 : CiOk 4 RX5 TX5 2 tyX5 := ⟨rfl, tb_in [222, 224] (by decide +kernel) (by decide +kernel), tyX5_ok, nmX5, tb_at 215 (by decide +kernel) rfl, tb_at 50 (by decide +kernel) rfl⟩
theorem ci_5 : CiOk 5 RX6 TX6 8 tyX6 := ⟨rfl, tb_in [80, 82, 84, 86, 88, 90, 92, 94] (by decide +kernel) (by decide +kernel), tyX6_ok, nmX6, tb_at 64 (by decide +kernel) rfl, tb_at 42 (by decide +kernel) rfl⟩
theorem ci_6 : CiOk 6 RX7 TX7 3 tyX7 := ⟨rfl, tb_in [127, 129, 131] (by decide +kernel) (by decide +kernel), tyX7_ok, nmX7, tb_at 119 (by decide +kernel) rfl, tb_at 45 (by decide +kernel) rfl⟩
theorem ci_7 : CiOk 7 RX8 TX8 5 tyX8 := ⟨rfl, tb_in [183, 185, 187, 189, 191] (by decide +kernel) (by decide +kernel), tyX8_ok, nmX8, tb_at 173 (by decide +kernel) rfl, tb_at 48 (by decide +kernel) rfl⟩
theorem ci_8 : CiOk 8 RX9 TX9 7 tyX9 := ⟨rfl, tb_in [147, 149, 151, 153, 155, 157, 159] (by decide +kernel) (by decide +kernel), tyX9_ok, nmX9, tb_at 135 (by decide +kernel) rfl, tb_at 46 (by decide +kernel) rfl⟩
theorem ci_9 : CiOk 9 RX10 TX10 7 tyX10 := ⟨rfl, tb_in [326, 328, 330, 332, 334, 336, 338] (by decide +kernel) (by decide +kernel), tyX10_ok, nmX10, tb_at 56 (by decide +kernel) rfl, tb_at 41 (by decide +kernel) rfl⟩
theorem ci_10 : CiOk 10 RX11 TX11 35 tyX11 := ⟨rfl, tb_in [932, 934, 936, 938, 940, 942, 944, 946, 948, 950, 952, 954, 956, 958, 960, 962, 964, 966, 968, 970, 972, 974, 976, 978, 980, 982, 984, 986, 988, 990, 992, 994, 996, 998, 1000] (by decide +kernel) (by decide +kernel), tyX11_ok, nmX11, tb_at 883 (by decide +kernel) rfl, tb_at 52 (by decide +kernel) rfl⟩
/-- a field's link: the place of the field, its type, whether it is final -/
def Fl (own : String) (idx ci k : Nat) (ty : FieldType) (fin : Bool) : Prop := ∃ (C : String) (T : u_T) (N : Nat) (tf : Nat → FieldType), CiOk ci C T N tf ∧ k < N ∧ Cond.fieldLink own idx (T k).1 (T k).2.1 (T k).2.2.1 ∈ tb ∧ tf k = ty ∧ (T k).2.2.2 = fin ∧ (T k).1 = C
theorem fl_X10_12 : Fl RX10 12 9 0 (.object "CohereBench$Protocol") true := ⟨RX10, TX10, 7, tyX10, ci_9, by decide, tb_at 319 (by decide +kernel) rfl, rfl, rfl, rfl⟩
theorem fl_X10_21 : Fl RX10 21 9 1 (.object "CohereBench$Acting") true := ⟨RX10, TX10, 7, tyX10, ci_9, by decide, tb_at 320 (by decide +kernel) rfl, rfl, rfl, rfl⟩
theorem fl_X10_28 : Fl RX10 28 9 2 (.object "CohereBench$Scene") true := ⟨RX10, TX10, 7, tyX10, ci_9, by decide, tb_at 321 (by decide +kernel) rfl, rfl, rfl, rfl⟩
theorem fl_X10_32 : Fl RX10 32 9 3 (.object "CohereBench$Scene") true := ⟨RX10, TX10, 7, tyX10, ci_9, by decide, tb_at 322 (by decide +kernel) rfl, rfl, rfl, rfl⟩
theorem fl_X10_38 : Fl RX10 38 9 4 (.object "CohereBench$StepList") true := ⟨RX10, TX10, 7, tyX10, ci_9, by decide, tb_at 323 (by decide +kernel) rfl, rfl, rfl, rfl⟩
theorem fl_X10_47 : Fl RX10 47 9 5 (.object "CohereBench$Atlas") true := ⟨RX10, TX10, 7, tyX10, ci_9, by decide, tb_at 324 (by decide +kernel) rfl, rfl, rfl, rfl⟩
theorem fl_X10_51 : Fl RX10 51 9 6 .boolean false := ⟨RX10, TX10, 7, tyX10, ci_9, by decide, tb_at 325 (by decide +kernel) rfl, rfl, rfl, rfl⟩
theorem fl_X0_9 : Fl RX0 9 0 0 (.object "CohereBench$Protocol") true := ⟨RX0, TX0, 4, tyX0, ci_0, by decide, tb_at 105 (by decide +kernel) rfl, rfl, rfl, rfl⟩
theorem fl_X0_15 : Fl RX0 15 0 1 .int false := ⟨RX0, TX0, 4, tyX0, ci_0, by decide, tb_at 106 (by decide +kernel) rfl, rfl, rfl, rfl⟩
theorem fl_X0_19 : Fl RX0 19 0 2 .int false := ⟨RX0, TX0, 4, tyX0, ci_0, by decide, tb_at 107 (by decide +kernel) rfl, rfl, rfl, rfl⟩
theorem fl_X0_22 : Fl RX0 22 0 3 .int false := ⟨RX0, TX0, 4, tyX0, ci_0, by decide, tb_at 108 (by decide +kernel) rfl, rfl, rfl, rfl⟩
theorem fl_X1_9 : Fl RX1 9 1 0 (.object "CohereBench$Protocol") true := ⟨RX1, TX1, 17, tyX1, ci_1, by decide, tb_at 249 (by decide +kernel) rfl, rfl, rfl, rfl⟩
theorem fl_X1_15 : Fl RX1 15 1 1 (.object "CohereBench$Acting") true := ⟨RX1, TX1, 17, tyX1, ci_1, by decide, tb_at 250 (by decide +kernel) rfl, rfl, rfl, rfl⟩
theorem fl_X1_22 : Fl RX1 22 1 2 (.object "CohereBench$Scene") true := ⟨RX1, TX1, 17, tyX1, ci_1, by decide, tb_at 251 (by decide +kernel) rfl, rfl, rfl, rfl⟩
theorem fl_X1_26 : Fl RX1 26 1 3 (.object "CohereBench$Scene") true := ⟨RX1, TX1, 17, tyX1, ci_1, by decide, tb_at 252 (by decide +kernel) rfl, rfl, rfl, rfl⟩
theorem fl_X1_34 : Fl RX1 34 1 4 (.object "CohereBench$StepList") true := ⟨RX1, TX1, 17, tyX1, ci_1, by decide, tb_at 253 (by decide +kernel) rfl, rfl, rfl, rfl⟩
theorem fl_X1_41 : Fl RX1 41 1 5 (.object "CohereBench$Shelf") true := ⟨RX1, TX1, 17, tyX1, ci_1, by decide, tb_at 254 (by decide +kernel) rfl, rfl, rfl, rfl⟩
theorem fl_X1_48 : Fl RX1 48 1 6 (.object "CohereBench$BadList") true := ⟨RX1, TX1, 17, tyX1, ci_1, by decide, tb_at 255 (by decide +kernel) rfl, rfl, rfl, rfl⟩
theorem fl_X1_55 : Fl RX1 55 1 7 (.object "CohereBench$NumberList") true := ⟨RX1, TX1, 17, tyX1, ci_1, by decide, tb_at 256 (by decide +kernel) rfl, rfl, rfl, rfl⟩
theorem fl_X1_59 : Fl RX1 59 1 8 (.object "CohereBench$NumberList") true := ⟨RX1, TX1, 17, tyX1, ci_1, by decide, tb_at 257 (by decide +kernel) rfl, rfl, rfl, rfl⟩
theorem fl_X1_65 : Fl RX1 65 1 9 (.object "CohereBench$Backtrack") true := ⟨RX1, TX1, 17, tyX1, ci_1, by decide, tb_at 258 (by decide +kernel) rfl, rfl, rfl, rfl⟩
theorem fl_X1_69 : Fl RX1 69 1 10 (.array .int) true := ⟨RX1, TX1, 17, tyX1, ci_1, by decide, tb_at 259 (by decide +kernel) rfl, rfl, rfl, rfl⟩
theorem fl_X1_73 : Fl RX1 73 1 11 (.array .int) true := ⟨RX1, TX1, 17, tyX1, ci_1, by decide, tb_at 260 (by decide +kernel) rfl, rfl, rfl, rfl⟩
theorem fl_X1_76 : Fl RX1 76 1 12 (.array .int) true := ⟨RX1, TX1, 17, tyX1, ci_1, by decide, tb_at 261 (by decide +kernel) rfl, rfl, rfl, rfl⟩
theorem fl_X1_79 : Fl RX1 79 1 13 .int false := ⟨RX1, TX1, 17, tyX1, ci_1, by decide, tb_at 262 (by decide +kernel) rfl, rfl, rfl, rfl⟩
theorem fl_X1_83 : Fl RX1 83 1 14 .int false := ⟨RX1, TX1, 17, tyX1, ci_1, by decide, tb_at 263 (by decide +kernel) rfl, rfl, rfl, rfl⟩
theorem fl_X1_86 : Fl RX1 86 1 15 .int false := ⟨RX1, TX1, 17, tyX1, ci_1, by decide, tb_at 264 (by decide +kernel) rfl, rfl, rfl, rfl⟩
theorem fl_X1_89 : Fl RX1 89 1 16 .boolean false := ⟨RX1, TX1, 17, tyX1, ci_1, by decide, tb_at 265 (by decide +kernel) rfl, rfl, rfl, rfl⟩
theorem fl_X2_9 : Fl RX2 9 2 0 (.array .int) true := ⟨RX2, TX2, 4, tyX2, ci_2, by decide, tb_at 236 (by decide +kernel) rfl, rfl, rfl, rfl⟩
theorem fl_X2_16 : Fl RX2 16 2 1 (.array .int) true := ⟨RX2, TX2, 4, tyX2, ci_2, by decide, tb_at 237 (by decide +kernel) rfl, rfl, rfl, rfl⟩
theorem fl_X2_19 : Fl RX2 19 2 2 (.array .boolean) true := ⟨RX2, TX2, 4, tyX2, ci_2, by decide, tb_at 238 (by decide +kernel) rfl, rfl, rfl, rfl⟩
theorem fl_X2_26 : Fl RX2 26 2 3 (.object "CohereBench$NumberList") true := ⟨RX2, TX2, 4, tyX2, ci_2, by decide, tb_at 239 (by decide +kernel) rfl, rfl, rfl, rfl⟩
theorem fl_X3_9 : Fl RX3 9 3 0 (.array .int) true := ⟨RX3, TX3, 4, tyX3, ci_3, by decide, tb_at 201 (by decide +kernel) rfl, rfl, rfl, rfl⟩
theorem fl_X3_15 : Fl RX3 15 3 1 (.array .int) true := ⟨RX3, TX3, 4, tyX3, ci_3, by decide, tb_at 202 (by decide +kernel) rfl, rfl, rfl, rfl⟩
theorem fl_X3_18 : Fl RX3 18 3 2 (.array .int) true := ⟨RX3, TX3, 4, tyX3, ci_3, by decide, tb_at 203 (by decide +kernel) rfl, rfl, rfl, rfl⟩
theorem fl_X3_21 : Fl RX3 21 3 3 .int false := ⟨RX3, TX3, 4, tyX3, ci_3, by decide, tb_at 204 (by decide +kernel) rfl, rfl, rfl, rfl⟩
theorem fl_X5_9 : Fl RX5 9 4 0 (.array .int) true := ⟨RX5, TX5, 2, tyX5, ci_4, by decide, tb_at 220 (by decide +kernel) rfl, rfl, rfl, rfl⟩
theorem fl_X5_15 : Fl RX5 15 4 1 .int false := ⟨RX5, TX5, 2, tyX5, ci_4, by decide, tb_at 221 (by decide +kernel) rfl, rfl, rfl, rfl⟩
theorem fl_X6_9 : Fl RX6 9 5 0 .int false := ⟨RX6, TX6, 8, tyX6, ci_5, by decide, tb_at 72 (by decide +kernel) rfl, rfl, rfl, rfl⟩
theorem fl_X6_15 : Fl RX6 15 5 1 (.array .int) true := ⟨RX6, TX6, 8, tyX6, ci_5, by decide, tb_at 73 (by decide +kernel) rfl, rfl, rfl, rfl⟩
theorem fl_X6_19 : Fl RX6 19 5 2 (.array .int) true := ⟨RX6, TX6, 8, tyX6, ci_5, by decide, tb_at 74 (by decide +kernel) rfl, rfl, rfl, rfl⟩
theorem fl_X6_22 : Fl RX6 22 5 3 (.array .int) true := ⟨RX6, TX6, 8, tyX6, ci_5, by decide, tb_at 75 (by decide +kernel) rfl, rfl, rfl, rfl⟩
theorem fl_X6_25 : Fl RX6 25 5 4 (.array .int) true := ⟨RX6, TX6, 8, tyX6, ci_5, by decide, tb_at 76 (by decide +kernel) rfl, rfl, rfl, rfl⟩
theorem fl_X6_28 : Fl RX6 28 5 5 (.array .int) true := ⟨RX6, TX6, 8, tyX6, ci_5, by decide, tb_at 77 (by decide +kernel) rfl, rfl, rfl, rfl⟩
theorem fl_X6_31 : Fl RX6 31 5 6 (.array .boolean) true := ⟨RX6, TX6, 8, tyX6, ci_5, by decide, tb_at 78 (by decide +kernel) rfl, rfl, rfl, rfl⟩
theorem fl_X6_35 : Fl RX6 35 5 7 (.array .int) true := ⟨RX6, TX6, 8, tyX6, ci_5, by decide, tb_at 79 (by decide +kernel) rfl, rfl, rfl, rfl⟩
theorem fl_X7_11 : Fl RX7 11 6 0 .long false := ⟨RX7, TX7, 3, tyX7, ci_6, by decide, tb_at 124 (by decide +kernel) rfl, rfl, rfl, rfl⟩
theorem fl_X7_15 : Fl RX7 15 6 1 .int false := ⟨RX7, TX7, 3, tyX7, ci_6, by decide, tb_at 125 (by decide +kernel) rfl, rfl, rfl, rfl⟩
theorem fl_X7_19 : Fl RX7 19 6 2 (.array .int) true := ⟨RX7, TX7, 3, tyX7, ci_6, by decide, tb_at 126 (by decide +kernel) rfl, rfl, rfl, rfl⟩
theorem fl_X8_11 : Fl RX8 11 7 0 (.array .long) true := ⟨RX8, TX8, 5, tyX8, ci_7, by decide, tb_at 178 (by decide +kernel) rfl, rfl, rfl, rfl⟩
theorem fl_X8_15 : Fl RX8 15 7 1 (.array .long) true := ⟨RX8, TX8, 5, tyX8, ci_7, by decide, tb_at 179 (by decide +kernel) rfl, rfl, rfl, rfl⟩
theorem fl_X8_18 : Fl RX8 18 7 2 (.array .long) true := ⟨RX8, TX8, 5, tyX8, ci_7, by decide, tb_at 180 (by decide +kernel) rfl, rfl, rfl, rfl⟩
theorem fl_X8_21 : Fl RX8 21 7 3 (.array .int) true := ⟨RX8, TX8, 5, tyX8, ci_7, by decide, tb_at 181 (by decide +kernel) rfl, rfl, rfl, rfl⟩
theorem fl_X8_25 : Fl RX8 25 7 4 .int false := ⟨RX8, TX8, 5, tyX8, ci_7, by decide, tb_at 182 (by decide +kernel) rfl, rfl, rfl, rfl⟩
theorem fl_X9_9 : Fl RX9 9 8 0 (.object "CohereBench$Protocol") true := ⟨RX9, TX9, 7, tyX9, ci_8, by decide, tb_at 140 (by decide +kernel) rfl, rfl, rfl, rfl⟩
theorem fl_X9_15 : Fl RX9 15 8 1 (.array .int) true := ⟨RX9, TX9, 7, tyX9, ci_8, by decide, tb_at 141 (by decide +kernel) rfl, rfl, rfl, rfl⟩
theorem fl_X9_19 : Fl RX9 19 8 2 (.array .int) true := ⟨RX9, TX9, 7, tyX9, ci_8, by decide, tb_at 142 (by decide +kernel) rfl, rfl, rfl, rfl⟩
theorem fl_X9_22 : Fl RX9 22 8 3 (.array .int) true := ⟨RX9, TX9, 7, tyX9, ci_8, by decide, tb_at 143 (by decide +kernel) rfl, rfl, rfl, rfl⟩
theorem fl_X9_25 : Fl RX9 25 8 4 (.array .int) true := ⟨RX9, TX9, 7, tyX9, ci_8, by decide, tb_at 144 (by decide +kernel) rfl, rfl, rfl, rfl⟩
theorem fl_X9_28 : Fl RX9 28 8 5 (.array .int) true := ⟨RX9, TX9, 7, tyX9, ci_8, by decide, tb_at 145 (by decide +kernel) rfl, rfl, rfl, rfl⟩
theorem fl_X9_31 : Fl RX9 31 8 6 .int false := ⟨RX9, TX9, 7, tyX9, ci_8, by decide, tb_at 146 (by decide +kernel) rfl, rfl, rfl, rfl⟩
theorem fl_X11_7 : Fl RX11 7 10 0 .int false := ⟨RX11, TX11, 35, tyX11, ci_10, by decide, tb_at 897 (by decide +kernel) rfl, rfl, rfl, rfl⟩
theorem fl_X11_13 : Fl RX11 13 10 1 (.array .int) true := ⟨RX11, TX11, 35, tyX11, ci_10, by decide, tb_at 898 (by decide +kernel) rfl, rfl, rfl, rfl⟩
theorem fl_X11_17 : Fl RX11 17 10 2 (.array .int) true := ⟨RX11, TX11, 35, tyX11, ci_10, by decide, tb_at 899 (by decide +kernel) rfl, rfl, rfl, rfl⟩
theorem fl_X11_20 : Fl RX11 20 10 3 (.array .int) true := ⟨RX11, TX11, 35, tyX11, ci_10, by decide, tb_at 900 (by decide +kernel) rfl, rfl, rfl, rfl⟩
theorem fl_X11_23 : Fl RX11 23 10 4 (.array .int) true := ⟨RX11, TX11, 35, tyX11, ci_10, by decide, tb_at 901 (by decide +kernel) rfl, rfl, rfl, rfl⟩
theorem fl_X11_26 : Fl RX11 26 10 5 (.array .boolean) true := ⟨RX11, TX11, 35, tyX11, ci_10, by decide, tb_at 902 (by decide +kernel) rfl, rfl, rfl, rfl⟩
theorem fl_X11_30 : Fl RX11 30 10 6 (.array .int) true := ⟨RX11, TX11, 35, tyX11, ci_10, by decide, tb_at 903 (by decide +kernel) rfl, rfl, rfl, rfl⟩
theorem fl_X11_33 : Fl RX11 33 10 7 (.array .int) true := ⟨RX11, TX11, 35, tyX11, ci_10, by decide, tb_at 904 (by decide +kernel) rfl, rfl, rfl, rfl⟩
theorem fl_X11_36 : Fl RX11 36 10 8 (.array .int) true := ⟨RX11, TX11, 35, tyX11, ci_10, by decide, tb_at 905 (by decide +kernel) rfl, rfl, rfl, rfl⟩
theorem fl_X11_39 : Fl RX11 39 10 12 (.array .int) true := ⟨RX11, TX11, 35, tyX11, ci_10, by decide, tb_at 909 (by decide +kernel) rfl, rfl, rfl, rfl⟩
theorem fl_X11_42 : Fl RX11 42 10 13 (.array .int) true := ⟨RX11, TX11, 35, tyX11, ci_10, by decide, tb_at 910 (by decide +kernel) rfl, rfl, rfl, rfl⟩
theorem fl_X11_45 : Fl RX11 45 10 14 (.array .int) true := ⟨RX11, TX11, 35, tyX11, ci_10, by decide, tb_at 911 (by decide +kernel) rfl, rfl, rfl, rfl⟩
theorem fl_X11_48 : Fl RX11 48 10 15 (.array .int) true := ⟨RX11, TX11, 35, tyX11, ci_10, by decide, tb_at 912 (by decide +kernel) rfl, rfl, rfl, rfl⟩
theorem fl_X11_52 : Fl RX11 52 10 17 (.array .int) true := ⟨RX11, TX11, 35, tyX11, ci_10, by decide, tb_at 914 (by decide +kernel) rfl, rfl, rfl, rfl⟩
theorem fl_X11_55 : Fl RX11 55 10 18 (.array .long) true := ⟨RX11, TX11, 35, tyX11, ci_10, by decide, tb_at 915 (by decide +kernel) rfl, rfl, rfl, rfl⟩
theorem fl_X11_59 : Fl RX11 59 10 19 (.array .int) true := ⟨RX11, TX11, 35, tyX11, ci_10, by decide, tb_at 916 (by decide +kernel) rfl, rfl, rfl, rfl⟩
theorem fl_X11_62 : Fl RX11 62 10 20 (.array .int) true := ⟨RX11, TX11, 35, tyX11, ci_10, by decide, tb_at 917 (by decide +kernel) rfl, rfl, rfl, rfl⟩
theorem fl_X11_65 : Fl RX11 65 10 21 (.array .int) true := ⟨RX11, TX11, 35, tyX11, ci_10, by decide, tb_at 918 (by decide +kernel) rfl, rfl, rfl, rfl⟩
theorem fl_X11_69 : Fl RX11 69 10 22 (.array .int) true := ⟨RX11, TX11, 35, tyX11, ci_10, by decide, tb_at 919 (by decide +kernel) rfl, rfl, rfl, rfl⟩
theorem fl_X11_72 : Fl RX11 72 10 23 (.array .boolean) true := ⟨RX11, TX11, 35, tyX11, ci_10, by decide, tb_at 920 (by decide +kernel) rfl, rfl, rfl, rfl⟩
theorem fl_X11_75 : Fl RX11 75 10 24 (.array .boolean) true := ⟨RX11, TX11, 35, tyX11, ci_10, by decide, tb_at 921 (by decide +kernel) rfl, rfl, rfl, rfl⟩
theorem fl_X11_78 : Fl RX11 78 10 28 (.array .int) true := ⟨RX11, TX11, 35, tyX11, ci_10, by decide, tb_at 925 (by decide +kernel) rfl, rfl, rfl, rfl⟩
theorem fl_X11_81 : Fl RX11 81 10 29 (.array .int) true := ⟨RX11, TX11, 35, tyX11, ci_10, by decide, tb_at 926 (by decide +kernel) rfl, rfl, rfl, rfl⟩
theorem fl_X11_84 : Fl RX11 84 10 30 (.array .int) true := ⟨RX11, TX11, 35, tyX11, ci_10, by decide, tb_at 927 (by decide +kernel) rfl, rfl, rfl, rfl⟩
theorem fl_X11_87 : Fl RX11 87 10 33 .boolean false := ⟨RX11, TX11, 35, tyX11, ci_10, by decide, tb_at 930 (by decide +kernel) rfl, rfl, rfl, rfl⟩
theorem fl_X11_109 : Fl RX11 109 10 16 .int false := ⟨RX11, TX11, 35, tyX11, ci_10, by decide, tb_at 913 (by decide +kernel) rfl, rfl, rfl, rfl⟩
theorem fl_X11_130 : Fl RX11 130 10 9 .int false := ⟨RX11, TX11, 35, tyX11, ci_10, by decide, tb_at 906 (by decide +kernel) rfl, rfl, rfl, rfl⟩
theorem fl_X11_133 : Fl RX11 133 10 10 .int false := ⟨RX11, TX11, 35, tyX11, ci_10, by decide, tb_at 907 (by decide +kernel) rfl, rfl, rfl, rfl⟩
theorem fl_X11_136 : Fl RX11 136 10 11 .int false := ⟨RX11, TX11, 35, tyX11, ci_10, by decide, tb_at 908 (by decide +kernel) rfl, rfl, rfl, rfl⟩
theorem fl_X11_150 : Fl RX11 150 10 34 .int false := ⟨RX11, TX11, 35, tyX11, ci_10, by decide, tb_at 931 (by decide +kernel) rfl, rfl, rfl, rfl⟩
theorem fl_X11_183 : Fl RX11 183 10 25 .int false := ⟨RX11, TX11, 35, tyX11, ci_10, by decide, tb_at 922 (by decide +kernel) rfl, rfl, rfl, rfl⟩
theorem fl_X11_186 : Fl RX11 186 10 27 .int false := ⟨RX11, TX11, 35, tyX11, ci_10, by decide, tb_at 924 (by decide +kernel) rfl, rfl, rfl, rfl⟩
theorem fl_X11_189 : Fl RX11 189 10 31 .int false := ⟨RX11, TX11, 35, tyX11, ci_10, by decide, tb_at 928 (by decide +kernel) rfl, rfl, rfl, rfl⟩
theorem fl_X11_196 : Fl RX11 196 10 26 .int false := ⟨RX11, TX11, 35, tyX11, ci_10, by decide, tb_at 923 (by decide +kernel) rfl, rfl, rfl, rfl⟩
theorem fl_X11_199 : Fl RX11 199 10 32 .boolean false := ⟨RX11, TX11, 35, tyX11, ci_10, by decide, tb_at 929 (by decide +kernel) rfl, rfl, rfl, rfl⟩
abbrev mX0_init : MI := (yX0_init, cX0_init, 2, none, 1, 20, 0, 0)
abbrev mX0_perform : MI := (yX0_perform, cX0_perform, 10, (some .int), 4, 94, 0, 0)
abbrev mX0_takeUp : MI := (yX0_takeUp, cX0_takeUp, 5, none, 2, 45, 0, 0)
abbrev mX0_cacheAct : MI := (yX0_cacheAct, cX0_cacheAct, 4, (some .int), 3, 71, 0, 0)
abbrev mX0_homeAct : MI := (yX0_homeAct, cX0_homeAct, 4, (some .int), 3, 71, 0, 0)
abbrev mX0_send : MI := (yX0_send, cX0_send, 9, (some .int), 2, 43, 0, 0)
abbrev mX1_init : MI := (yX1_init, cX1_init, 3, none, 3, 60, 32, 130988)
abbrev mX1_begin : MI := (yX1_begin, cX1_begin, 2, none, 4, 102, 0, 0)
abbrev mX1_visit : MI := (yX1_visit, cX1_visit, 3, none, 6, 148, 0, 0)
abbrev mX1_finish : MI := (yX1_finish, cX1_finish, 2, none, 3, 65, 0, 0)
abbrev mX1_tryStep : MI := (yX1_tryStep, cX1_tryStep, 6, none, 5, 123, 0, 0)
abbrev mX1_markUsed : MI := (yX1_markUsed, cX1_markUsed, 2, none, 1, 21, 0, 0)
abbrev mX1_keepTrial : MI := (yX1_keepTrial, cX1_keepTrial, 5, (some .int), 3, 78, 0, 0)
abbrev mX1_figure : MI := (yX1_figure, cX1_figure, 2, (some .int), 2, 41, 0, 0)
abbrev mX1_greatestDepth : MI := (yX1_greatestDepth, cX1_greatestDepth, 2, (some .int), 1, 20, 0, 0)
abbrev mX1_countStates : MI := (yX1_countStates, cX1_countStates, 1, (some .int), 1, 20, 0, 0)
abbrev mX1_isSpent : MI := (yX1_isSpent, cX1_isSpent, 1, (some .boolean), 0, 0, 0, 0)
abbrev mX1_hasState : MI := (yX1_hasState, cX1_hasState, 2, (some .boolean), 1, 20, 0, 0)
abbrev mX1_badAt : MI := (yX1_badAt, cX1_badAt, 3, (some .int), 1, 22, 0, 0)
abbrev mX1_stuckAt : MI := (yX1_stuckAt, cX1_stuckAt, 2, (some .int), 1, 21, 0, 0)
abbrev mX1_lostAt : MI := (yX1_lostAt, cX1_lostAt, 2, (some .int), 1, 21, 0, 0)
abbrev mX1_depthOf : MI := (yX1_depthOf, cX1_depthOf, 2, (some .int), 0, 0, 0, 0)
abbrev mX1_stepTowards : MI := (yX1_stepTowards, cX1_stepTowards, 5, (some .int), 0, 0, 0, 0)
abbrev mX1_load : MI := (yX1_load, cX1_load, 3, none, 3, 75, 0, 0)
abbrev mX1_numberOf : MI := (yX1_numberOf, cX1_numberOf, 2, (some .int), 3, 77, 0, 0)
abbrev mX1_usedAt : MI := (yX1_usedAt, cX1_usedAt, 2, (some .int), 0, 0, 0, 0)
abbrev mX2_init : MI := (yX2_init, cX2_init, 1, none, 2, 40, 5, 92002)
abbrev mX2_clear : MI := (yX2_clear, cX2_clear, 1, none, 1, 20, 0, 0)
abbrev mX2_addState : MI := (yX2_addState, cX2_addState, 2, none, 0, 0, 0, 0)
abbrev mX2_addPath : MI := (yX2_addPath, cX2_addPath, 3, none, 0, 0, 0, 0)
abbrev mX2_markLeading : MI := (yX2_markLeading, cX2_markLeading, 2, none, 1, 21, 0, 0)
abbrev mX2_isLeading : MI := (yX2_isLeading, cX2_isLeading, 2, (some .boolean), 0, 0, 0, 0)
abbrev mX2_spread : MI := (yX2_spread, cX2_spread, 4, none, 2, 42, 0, 0)
abbrev mX3_init : MI := (yX3_init, cX3_init, 1, none, 1, 20, 3, 600)
abbrev mX3_clear : MI := (yX3_clear, cX3_clear, 1, none, 0, 0, 0, 0)
abbrev mX3_count : MI := (yX3_count, cX3_count, 1, (some .int), 0, 0, 0, 0)
abbrev mX3_add : MI := (yX3_add, cX3_add, 4, none, 0, 0, 0, 0)
abbrev mX3_ask : MI := (yX3_ask, cX3_ask, 3, (some .int), 0, 0, 0, 0)
abbrev mX4_make : MI := (yX4_make, cX4_make, 6, (some .int), 0, 0, 0, 0)
abbrev mX4_kindOf : MI := (yX4_kindOf, cX4_kindOf, 1, (some .int), 0, 0, 0, 0)
abbrev mX4_fromOf : MI := (yX4_fromOf, cX4_fromOf, 1, (some .int), 0, 0, 0, 0)
abbrev mX4_toOf : MI := (yX4_toOf, cX4_toOf, 1, (some .int), 0, 0, 0, 0)
abbrev mX4_forOf : MI := (yX4_forOf, cX4_forOf, 1, (some .int), 0, 0, 0, 0)
abbrev mX4_freshOf : MI := (yX4_freshOf, cX4_freshOf, 1, (some .int), 0, 0, 0, 0)
abbrev mX4_staled : MI := (yX4_staled, cX4_staled, 1, (some .int), 0, 0, 0, 0)
abbrev mX4_shareOrder : MI := (yX4_shareOrder, cX4_shareOrder, 2, (some .boolean), 0, 0, 0, 0)
abbrev mX4_lastAhead : MI := (yX4_lastAhead, cX4_lastAhead, 1, (some .int), 0, 0, 0, 0)
abbrev mX5_init : MI := (yX5_init, cX5_init, 1, none, 1, 20, 1, 4000)
abbrev mX5_clear : MI := (yX5_clear, cX5_clear, 1, none, 0, 0, 0, 0)
abbrev mX5_count : MI := (yX5_count, cX5_count, 1, (some .int), 0, 0, 0, 0)
abbrev mX5_add : MI := (yX5_add, cX5_add, 2, none, 0, 0, 0, 0)
abbrev mX5_at : MI := (yX5_at, cX5_at, 2, (some .int), 0, 0, 0, 0)
abbrev mX6_init : MI := (yX6_init, cX6_init, 1, none, 1, 23, 7, 8226)
abbrev mX6_home : MI := (yX6_home, cX6_home, 1, (some .int), 0, 0, 0, 0)
abbrev mX6_setHome : MI := (yX6_setHome, cX6_setHome, 3, (some .int), 0, 0, 0, 0)
abbrev mX6_looseOf : MI := (yX6_looseOf, cX6_looseOf, 2, (some .int), 0, 0, 0, 0)
abbrev mX6_setLoose : MI := (yX6_setLoose, cX6_setLoose, 4, (some .int), 0, 0, 0, 0)
abbrev mX6_setRight : MI := (yX6_setRight, cX6_setRight, 4, (some .int), 0, 0, 0, 0)
abbrev mX6_hasRow : MI := (yX6_hasRow, cX6_hasRow, 2, (some .boolean), 0, 0, 0, 0)
abbrev mX6_lengthOf : MI := (yX6_lengthOf, cX6_lengthOf, 2, (some .int), 0, 0, 0, 0)
abbrev mX6_waitsAt : MI := (yX6_waitsAt, cX6_waitsAt, 2, (some .boolean), 0, 0, 0, 0)
abbrev mX6_countRows : MI := (yX6_countRows, cX6_countRows, 2, (some .int), 0, 0, 0, 0)
abbrev mX6_putRow : MI := (yX6_putRow, cX6_putRow, 6, (some .int), 2, 45, 0, 0)
abbrev mX6_dropRow : MI := (yX6_dropRow, cX6_dropRow, 3, (some .int), 1, 21, 0, 0)
abbrev mX6_actOf : MI := (yX6_actOf, cX6_actOf, 4, (some .int), 0, 0, 0, 0)
abbrev mX6_hasWait : MI := (yX6_hasWait, cX6_hasWait, 3, (some .boolean), 1, 23, 0, 0)
abbrev mX6_cachePlace : MI := (yX6_cachePlace, cX6_cachePlace, 3, (some .int), 0, 0, 0, 0)
abbrev mX6_letterPlace : MI := (yX6_letterPlace, cX6_letterPlace, 7, (some .int), 2, 43, 0, 0)
abbrev mX6_badnessOf : MI := (yX6_badnessOf, cX6_badnessOf, 7, (some .int), 2, 43, 0, 0)
abbrev mX7_init : MI := (yX7_init, cX7_init, 1, none, 1, 20, 1, 8)
abbrev mX7_begin : MI := (yX7_begin, cX7_begin, 2, none, 2, 45, 0, 0)
abbrev mX7_copy : MI := (yX7_copy, cX7_copy, 2, none, 1, 40, 0, 0)
abbrev mX7_stateOf : MI := (yX7_stateOf, cX7_stateOf, 2, (some .int), 1, 22, 0, 0)
abbrev mX7_freshOf : MI := (yX7_freshOf, cX7_freshOf, 2, (some .int), 1, 22, 0, 0)
abbrev mX7_wantOf : MI := (yX7_wantOf, cX7_wantOf, 2, (some .int), 1, 22, 0, 0)
abbrev mX7_holders : MI := (yX7_holders, cX7_holders, 1, (some .int), 1, 22, 0, 0)
abbrev mX7_setState : MI := (yX7_setState, cX7_setState, 3, none, 1, 23, 0, 0)
abbrev mX7_setFresh : MI := (yX7_setFresh, cX7_setFresh, 3, none, 1, 23, 0, 0)
abbrev mX7_setWant : MI := (yX7_setWant, cX7_setWant, 3, none, 1, 23, 0, 0)
abbrev mX7_setHolders : MI := (yX7_setHolders, cX7_setHolders, 2, none, 1, 23, 0, 0)
abbrev mX7_isQuiet : MI := (yX7_isQuiet, cX7_isQuiet, 1, (some .boolean), 0, 0, 0, 0)
abbrev mX7_letterCount : MI := (yX7_letterCount, cX7_letterCount, 1, (some .int), 0, 0, 0, 0)
abbrev mX7_letterAt : MI := (yX7_letterAt, cX7_letterAt, 2, (some .int), 0, 0, 0, 0)
abbrev mX7_isBehindAnother : MI := (yX7_isBehindAnother, cX7_isBehindAnother, 2, (some .boolean), 1, 21, 0, 0)
abbrev mX7_add : MI := (yX7_add, cX7_add, 4, (some .boolean), 1, 20, 0, 0)
abbrev mX7_take : MI := (yX7_take, cX7_take, 4, (some .int), 0, 0, 0, 0)
abbrev mX7_storeAt : MI := (yX7_storeAt, cX7_storeAt, 3, none, 2, 45, 0, 0)
abbrev mX7_endsWord : MI := (yX7_endsWord, cX7_endsWord, 1, (some .long), 0, 0, 0, 0)
abbrev mX7_lettersWord : MI := (yX7_lettersWord, cX7_lettersWord, 5, (some .long), 0, 0, 0, 0)
abbrev mX7_load : MI := (yX7_load, cX7_load, 7, none, 1, 27, 0, 0)
abbrev mX7_loadHalf : MI := (yX7_loadHalf, cX7_loadHalf, 8, none, 0, 0, 0, 0)
abbrev mX7_part : MI := (yX7_part, cX7_part, 3, (some .int), 0, 0, 0, 0)
abbrev mX7_setPart : MI := (yX7_setPart, cX7_setPart, 4, none, 0, 0, 0, 0)
abbrev mX8_init : MI := (yX8_init, cX8_init, 1, none, 1, 20, 4, 20192)
abbrev mX8_clear : MI := (yX8_clear, cX8_clear, 1, none, 1, 23, 0, 0)
abbrev mX8_count : MI := (yX8_count, cX8_count, 1, (some .int), 0, 0, 0, 0)
abbrev mX8_find : MI := (yX8_find, cX8_find, 2, (some .int), 2, 56, 0, 0)
abbrev mX8_keep : MI := (yX8_keep, cX8_keep, 3, (some .int), 2, 56, 0, 0)
abbrev mX8_load : MI := (yX8_load, cX8_load, 3, none, 2, 53, 0, 0)
abbrev mX8_slotOf : MI := (yX8_slotOf, cX8_slotOf, 10, (some .int), 1, 27, 0, 0)
abbrev mX8_startOf : MI := (yX8_startOf, cX8_startOf, 8, (some .int), 0, 0, 0, 0)
abbrev mX9_init : MI := (yX9_init, cX9_init, 2, none, 1, 20, 5, 100)
abbrev mX9_count : MI := (yX9_count, cX9_count, 1, (some .int), 0, 0, 0, 0)
abbrev mX9_endOf : MI := (yX9_endOf, cX9_endOf, 2, (some .int), 0, 0, 0, 0)
abbrev mX9_eventOf : MI := (yX9_eventOf, cX9_eventOf, 2, (some .int), 0, 0, 0, 0)
abbrev mX9_senderOf : MI := (yX9_senderOf, cX9_senderOf, 2, (some .int), 0, 0, 0, 0)
abbrev mX9_letterOf : MI := (yX9_letterOf, cX9_letterOf, 2, (some .int), 0, 0, 0, 0)
abbrev mX9_placeAt : MI := (yX9_placeAt, cX9_placeAt, 2, (some .int), 0, 0, 0, 0)
abbrev mX9_list : MI := (yX9_list, cX9_list, 3, none, 4, 93, 0, 0)
abbrev mX9_listOwn : MI := (yX9_listOwn, cX9_listOwn, 6, none, 2, 43, 0, 0)
abbrev mX9_listComing : MI := (yX9_listComing, cX9_listComing, 5, none, 3, 69, 0, 0)
abbrev mX9_add : MI := (yX9_add, cX9_add, 6, none, 0, 0, 0, 0)
abbrev mX10_init : MI := (yX10_init, cX10_init, 1, none, 4, 82, 52, 139372)
abbrev mX10_processors : MI := (yX10_processors, cX10_processors, 3, (some .int), 4, 86, 0, 0)
abbrev mX10_net : MI := (yX10_net, cX10_net, 4, (some .int), 4, 86, 0, 0)
abbrev mX10_right : MI := (yX10_right, cX10_right, 4, (some .int), 4, 86, 0, 0)
abbrev mX10_row : MI := (yX10_row, cX10_row, 7, (some .int), 4, 86, 0, 0)
abbrev mX10_tear : MI := (yX10_tear, cX10_tear, 4, (some .int), 4, 86, 0, 0)
abbrev mX10_rows : MI := (yX10_rows, cX10_rows, 2, (some .int), 1, 21, 0, 0)
abbrev mX10_reset : MI := (yX10_reset, cX10_reset, 1, (some .int), 6, 135, 0, 0)
abbrev mX10_steps : MI := (yX10_steps, cX10_steps, 1, (some .int), 6, 135, 0, 0)
abbrev mX10_step : MI := (yX10_step, cX10_step, 3, (some .int), 6, 135, 0, 0)
abbrev mX10_choose : MI := (yX10_choose, cX10_choose, 3, (some .int), 6, 135, 0, 0)
abbrev mX10_end : MI := (yX10_end, cX10_end, 4, (some .int), 2, 43, 0, 0)
abbrev mX10_letter : MI := (yX10_letter, cX10_letter, 4, (some .int), 1, 21, 0, 0)
abbrev mX10_now : MI := (yX10_now, cX10_now, 2, (some .int), 6, 135, 0, 0)
abbrev mX10_walk : MI := (yX10_walk, cX10_walk, 3, (some .int), 7, 170, 0, 0)
abbrev mX10_walked : MI := (yX10_walked, cX10_walked, 2, (some .int), 3, 62, 0, 0)
abbrev mX10_bad : MI := (yX10_bad, cX10_bad, 3, (some .int), 2, 44, 0, 0)
abbrev mX10_found : MI := (yX10_found, cX10_found, 3, (some .int), 2, 42, 0, 0)
abbrev mX10_far : MI := (yX10_far, cX10_far, 2, (some .int), 2, 41, 0, 0)
abbrev mX10_way : MI := (yX10_way, cX10_way, 3, (some .int), 2, 41, 0, 0)
abbrev mX10_go : MI := (yX10_go, cX10_go, 2, (some .int), 6, 135, 0, 0)
abbrev mX10_number : MI := (yX10_number, cX10_number, 1, (some .int), 4, 98, 0, 0)
abbrev mX10_used : MI := (yX10_used, cX10_used, 3, (some .int), 2, 43, 0, 0)
abbrev mX10_beginAnew : MI := (yX10_beginAnew, cX10_beginAnew, 1, none, 3, 66, 0, 0)
abbrev mX10_countChoices : MI := (yX10_countChoices, cX10_countChoices, 1, (some .int), 5, 115, 0, 0)
abbrev mX10_placeOf : MI := (yX10_placeOf, cX10_placeOf, 4, (some .int), 1, 20, 0, 0)
abbrev mX10_sideOf : MI := (yX10_sideOf, cX10_sideOf, 1, (some .int), 0, 0, 0, 0)
abbrev mX11_init : MI := (yX11_init, cX11_init, 2, none, 1, 24, 23, 349360)
abbrev mX11_copy : MI := (yX11_copy, cX11_copy, 5, none, 0, 0, 0, 0)
abbrev mX11_first : MI := (yX11_first, cX11_first, 2, none, 0, 0, 0, 0)
abbrev mX11_changed : MI := (yX11_changed, cX11_changed, 1, none, 1, 24, 0, 0)
abbrev mX11_processors : MI := (yX11_processors, cX11_processors, 3, (some .int), 2, 44, 0, 0)
abbrev mX11_net : MI := (yX11_net, cX11_net, 4, (some .int), 2, 44, 0, 0)
abbrev mX11_right : MI := (yX11_right, cX11_right, 4, (some .int), 2, 44, 0, 0)
abbrev mX11_placeOf : MI := (yX11_placeOf, cX11_placeOf, 4, (some .int), 0, 0, 0, 0)
abbrev mX11_row : MI := (yX11_row, cX11_row, 9, (some .int), 2, 44, 0, 0)
abbrev mX11_tear : MI := (yX11_tear, cX11_tear, 4, (some .int), 2, 44, 0, 0)
abbrev mX11_rows : MI := (yX11_rows, cX11_rows, 4, (some .int), 0, 0, 0, 0)
abbrev mX11_letterAt : MI := (yX11_letterAt, cX11_letterAt, 3, (some .int), 0, 0, 0, 0)
abbrev mX11_rowOfLetter : MI := (yX11_rowOfLetter, cX11_rowOfLetter, 5, (some .int), 1, 22, 0, 0)
abbrev mX11_waits : MI := (yX11_waits, cX11_waits, 4, (some .boolean), 0, 0, 0, 0)
abbrev mX11_addStep : MI := (yX11_addStep, cX11_addStep, 5, none, 0, 0, 0, 0)
abbrev mX11_findSteps : MI := (yX11_findSteps, cX11_findSteps, 4, none, 2, 46, 0, 0)
abbrev mX11_compareLetters : MI := (yX11_compareLetters, cX11_compareLetters, 2, (some .int), 0, 0, 0, 0)
abbrev mX11_isAhead : MI := (yX11_isAhead, cX11_isAhead, 8, (some .boolean), 1, 22, 0, 0)
abbrev mX11_send : MI := (yX11_send, cX11_send, 8, (some .boolean), 2, 49, 0, 0)
abbrev mX11_takeLetter : MI := (yX11_takeLetter, cX11_takeLetter, 4, none, 1, 22, 0, 0)
abbrev mX11_stale : MI := (yX11_stale, cX11_stale, 3, none, 0, 0, 0, 0)
abbrev mX11_cacheActs : MI := (yX11_cacheActs, cX11_cacheActs, 5, (some .int), 3, 76, 0, 0)
abbrev mX11_homeActs : MI := (yX11_homeActs, cX11_homeActs, 4, (some .int), 3, 76, 0, 0)
abbrev mX11_doStep : MI := (yX11_doStep, cX11_doStep, 8, (some .int), 4, 100, 0, 0)
abbrev mX11_badNow : MI := (yX11_badNow, cX11_badNow, 6, (some .int), 0, 0, 0, 0)
abbrev mX11_isQuiet : MI := (yX11_isQuiet, cX11_isQuiet, 3, (some .boolean), 0, 0, 0, 0)
abbrev mX11_toRun : MI := (yX11_toRun, cX11_toRun, 1, none, 3, 69, 0, 0)
abbrev mX11_reset : MI := (yX11_reset, cX11_reset, 1, (some .int), 4, 89, 0, 0)
abbrev mX11_steps : MI := (yX11_steps, cX11_steps, 1, (some .int), 4, 89, 0, 0)
abbrev mX11_step : MI := (yX11_step, cX11_step, 3, (some .int), 4, 89, 0, 0)
abbrev mX11_choose : MI := (yX11_choose, cX11_choose, 3, (some .int), 5, 127, 0, 0)
abbrev mX11_end : MI := (yX11_end, cX11_end, 3, (some .int), 0, 0, 0, 0)
abbrev mX11_letter : MI := (yX11_letter, cX11_letter, 3, (some .int), 0, 0, 0, 0)
abbrev mX11_now : MI := (yX11_now, cX11_now, 2, (some .int), 4, 89, 0, 0)
abbrev mX11_sumOf : MI := (yX11_sumOf, cX11_sumOf, 4, (some .long), 0, 0, 0, 0)
abbrev mX11_numberOf : MI := (yX11_numberOf, cX11_numberOf, 6, (some .int), 1, 23, 0, 0)
abbrev mX11_addBad : MI := (yX11_addBad, cX11_addBad, 4, none, 0, 0, 0, 0)
abbrev mX11_add : MI := (yX11_add, cX11_add, 5, (some .int), 1, 25, 0, 0)
abbrev mX11_walk : MI := (yX11_walk, cX11_walk, 4, (some .int), 6, 153, 0, 0)
abbrev mX11_from : MI := (yX11_from, cX11_from, 7, none, 5, 127, 0, 0)
abbrev mX11_lead : MI := (yX11_lead, cX11_lead, 5, none, 1, 24, 0, 0)
abbrev mX11_walked : MI := (yX11_walked, cX11_walked, 4, (some .int), 0, 0, 0, 0)
abbrev mX11_bad : MI := (yX11_bad, cX11_bad, 3, (some .int), 0, 0, 0, 0)
abbrev mX11_found : MI := (yX11_found, cX11_found, 5, (some .int), 0, 0, 0, 0)
abbrev mX11_far : MI := (yX11_far, cX11_far, 2, (some .int), 0, 0, 0, 0)
abbrev mX11_way : MI := (yX11_way, cX11_way, 4, (some .int), 0, 0, 0, 0)
abbrev mX11_go : MI := (yX11_go, cX11_go, 2, (some .int), 4, 89, 0, 0)
abbrev mX11_number : MI := (yX11_number, cX11_number, 1, (some .int), 2, 48, 0, 0)
abbrev mX11_used : MI := (yX11_used, cX11_used, 3, (some .int), 1, 23, 0, 0)
abbrev mJ7_fill_53178 : MI := (yJ7_fill_53178, cJ7_fill_53178, 4, none, 0, 0, 0, 0)
abbrev mL_law : MI := (yL_law, cL_law, 4, ret, 10, 384, 600000, 7302250)
/-- the words of a called method: its code, and all words of the tables -/
def mW (M : MI) : List Cond := .code (mY M) (mB M) (mL M) (mR M) :: tb
def MkOk (M : MI) (n : Nat) : Prop := Cond.code (mY M) (mB M) (mL M) (mR M) ∈ tb ∧ plainName (mY M).cls = true ∧ (mY M).cls ≠ "java/lang/invoke/MethodHandle" ∧ (mY M).cls ≠ "java/lang/invoke/VarHandle" ∧ (parseMethodDescriptor (mY M).desc).map (fun d => d.parameters.length) = some n ∧ Cond.initialized (mY M).cls ∈ tb
theorem mk_X0_init : MkOk mX0_init 1 := ⟨tb_at 103 (by decide +kernel) rfl, by decide, by decide, by decide, by decide +kernel, tb_at 44 (by decide +kernel) rfl⟩
theorem mk_X0_perform : MkOk mX0_perform 3 := ⟨tb_at 535 (by decide +kernel) rfl, by decide, by decide, by decide, by decide +kernel, tb_at 44 (by decide +kernel) rfl⟩
theorem mk_X0_takeUp : MkOk mX0_takeUp 3 := ⟨tb_at 544 (by decide +kernel) rfl, by decide, by decide, by decide, by decide +kernel, tb_at 44 (by decide +kernel) rfl⟩
theorem mk_X0_cacheAct : MkOk mX0_cacheAct 3 := ⟨tb_at 608 (by decide +kernel) rfl, by decide, by decide, by decide, by decide +kernel, tb_at 44 (by decide +kernel) rfl⟩
theorem mk_X0_homeAct : MkOk mX0_homeAct 3 := ⟨tb_at 572 (by decide +kernel) rfl, by decide, by decide, by decide, by decide +kernel, tb_at 44 (by decide +kernel) rfl⟩
theorem mk_X0_send : MkOk mX0_send 5 := ⟨tb_at 580 (by decide +kernel) rfl, by decide, by decide, by decide, by decide +kernel, tb_at 44 (by decide +kernel) rfl⟩
theorem mk_X1_init : MkOk mX1_init 2 := ⟨tb_at 166 (by decide +kernel) rfl, by decide, by decide, by decide, by decide +kernel, tb_at 47 (by decide +kernel) rfl⟩
theorem mk_X1_begin : MkOk mX1_begin 1 := ⟨tb_at 658 (by decide +kernel) rfl, by decide, by decide, by decide, by decide +kernel, tb_at 47 (by decide +kernel) rfl⟩
theorem mk_X1_visit : MkOk mX1_visit 1 := ⟨tb_at 725 (by decide +kernel) rfl, by decide, by decide, by decide, by decide +kernel, tb_at 47 (by decide +kernel) rfl⟩
theorem mk_X1_finish : MkOk mX1_finish 0 := ⟨tb_at 773 (by decide +kernel) rfl, by decide, by decide, by decide, by decide +kernel, tb_at 47 (by decide +kernel) rfl⟩
theorem mk_X1_tryStep : MkOk mX1_tryStep 2 := ⟨tb_at 753 (by decide +kernel) rfl, by decide, by decide, by decide, by decide +kernel, tb_at 47 (by decide +kernel) rfl⟩
theorem mk_X1_markUsed : MkOk mX1_markUsed 1 := ⟨tb_at 758 (by decide +kernel) rfl, by decide, by decide, by decide, by decide +kernel, tb_at 47 (by decide +kernel) rfl⟩
theorem mk_X1_keepTrial : MkOk mX1_keepTrial 2 := ⟨tb_at 683 (by decide +kernel) rfl, by decide, by decide, by decide, by decide +kernel, tb_at 47 (by decide +kernel) rfl⟩
theorem mk_X1_figure : MkOk mX1_figure 1 := ⟨tb_at 802 (by decide +kernel) rfl, by decide, by decide, by decide, by decide +kernel, tb_at 47 (by decide +kernel) rfl⟩
theorem mk_X1_greatestDepth : MkOk mX1_greatestDepth 0 := ⟨tb_at 811 (by decide +kernel) rfl, by decide, by decide, by decide, by decide +kernel, tb_at 47 (by decide +kernel) rfl⟩
theorem mk_X1_countStates : MkOk mX1_countStates 0 := ⟨tb_at 721 (by decide +kernel) rfl, by decide, by decide, by decide, by decide +kernel, tb_at 47 (by decide +kernel) rfl⟩
theorem mk_X1_isSpent : MkOk mX1_isSpent 0 := ⟨tb_at 794 (by decide +kernel) rfl, by decide, by decide, by decide, by decide +kernel, tb_at 47 (by decide +kernel) rfl⟩
theorem mk_X1_hasState : MkOk mX1_hasState 1 := ⟨tb_at 844 (by decide +kernel) rfl, by decide, by decide, by decide, by decide +kernel, tb_at 47 (by decide +kernel) rfl⟩
theorem mk_X1_badAt : MkOk mX1_badAt 2 := ⟨tb_at 819 (by decide +kernel) rfl, by decide, by decide, by decide, by decide +kernel, tb_at 47 (by decide +kernel) rfl⟩
theorem mk_X1_stuckAt : MkOk mX1_stuckAt 1 := ⟨tb_at 831 (by decide +kernel) rfl, by decide, by decide, by decide, by decide +kernel, tb_at 47 (by decide +kernel) rfl⟩
theorem mk_X1_lostAt : MkOk mX1_lostAt 1 := ⟨tb_at 836 (by decide +kernel) rfl, by decide, by decide, by decide, by decide +kernel, tb_at 47 (by decide +kernel) rfl⟩
theorem mk_X1_depthOf : MkOk mX1_depthOf 1 := ⟨tb_at 848 (by decide +kernel) rfl, by decide, by decide, by decide, by decide +kernel, tb_at 47 (by decide +kernel) rfl⟩
theorem mk_X1_stepTowards : MkOk mX1_stepTowards 2 := ⟨tb_at 856 (by decide +kernel) rfl, by decide, by decide, by decide, by decide +kernel, tb_at 47 (by decide +kernel) rfl⟩
theorem mk_X1_load : MkOk mX1_load 2 := ⟨tb_at 864 (by decide +kernel) rfl, by decide, by decide, by decide, by decide +kernel, tb_at 47 (by decide +kernel) rfl⟩
theorem mk_X1_numberOf : MkOk mX1_numberOf 1 := ⟨tb_at 872 (by decide +kernel) rfl, by decide, by decide, by decide, by decide +kernel, tb_at 47 (by decide +kernel) rfl⟩
theorem mk_X1_usedAt : MkOk mX1_usedAt 1 := ⟨tb_at 881 (by decide +kernel) rfl, by decide, by decide, by decide, by decide +kernel, tb_at 47 (by decide +kernel) rfl⟩
theorem mk_X2_init : MkOk mX2_init 0 := ⟨tb_at 231 (by decide +kernel) rfl, by decide, by decide, by decide, by decide +kernel, tb_at 51 (by decide +kernel) rfl⟩
theorem mk_X2_clear : MkOk mX2_clear 0 := ⟨tb_at 675 (by decide +kernel) rfl, by decide, by decide, by decide, by decide +kernel, tb_at 51 (by decide +kernel) rfl⟩
theorem mk_X2_addState : MkOk mX2_addState 1 := ⟨tb_at 712 (by decide +kernel) rfl, by decide, by decide, by decide, by decide +kernel, tb_at 51 (by decide +kernel) rfl⟩
theorem mk_X2_addPath : MkOk mX2_addPath 2 := ⟨tb_at 769 (by decide +kernel) rfl, by decide, by decide, by decide, by decide +kernel, tb_at 51 (by decide +kernel) rfl⟩
theorem mk_X2_markLeading : MkOk mX2_markLeading 1 := ⟨tb_at 743 (by decide +kernel) rfl, by decide, by decide, by decide, by decide +kernel, tb_at 51 (by decide +kernel) rfl⟩
theorem mk_X2_isLeading : MkOk mX2_isLeading 1 := ⟨tb_at 790 (by decide +kernel) rfl, by decide, by decide, by decide, by decide +kernel, tb_at 51 (by decide +kernel) rfl⟩
theorem mk_X2_spread : MkOk mX2_spread 0 := ⟨tb_at 777 (by decide +kernel) rfl, by decide, by decide, by decide, by decide +kernel, tb_at 51 (by decide +kernel) rfl⟩
theorem mk_X3_init : MkOk mX3_init 0 := ⟨tb_at 199 (by decide +kernel) rfl, by decide, by decide, by decide, by decide +kernel, tb_at 49 (by decide +kernel) rfl⟩
theorem mk_X3_clear : MkOk mX3_clear 0 := ⟨tb_at 667 (by decide +kernel) rfl, by decide, by decide, by decide, by decide +kernel, tb_at 49 (by decide +kernel) rfl⟩
theorem mk_X3_count : MkOk mX3_count 0 := ⟨tb_at 806 (by decide +kernel) rfl, by decide, by decide, by decide, by decide +kernel, tb_at 49 (by decide +kernel) rfl⟩
theorem mk_X3_add : MkOk mX3_add 3 := ⟨tb_at 717 (by decide +kernel) rfl, by decide, by decide, by decide, by decide +kernel, tb_at 49 (by decide +kernel) rfl⟩
theorem mk_X3_ask : MkOk mX3_ask 2 := ⟨tb_at 823 (by decide +kernel) rfl, by decide, by decide, by decide, by decide +kernel, tb_at 49 (by decide +kernel) rfl⟩
theorem mk_X4_make : MkOk mX4_make 6 := ⟨tb_at 587 (by decide +kernel) rfl, by decide, by decide, by decide, by decide +kernel, tb_at 53 (by decide +kernel) rfl⟩
theorem mk_X4_kindOf : MkOk mX4_kindOf 1 := ⟨tb_at 482 (by decide +kernel) rfl, by decide, by decide, by decide, by decide +kernel, tb_at 53 (by decide +kernel) rfl⟩
theorem mk_X4_fromOf : MkOk mX4_fromOf 1 := ⟨tb_at 496 (by decide +kernel) rfl, by decide, by decide, by decide, by decide +kernel, tb_at 53 (by decide +kernel) rfl⟩
theorem mk_X4_toOf : MkOk mX4_toOf 1 := ⟨tb_at 479 (by decide +kernel) rfl, by decide, by decide, by decide, by decide +kernel, tb_at 53 (by decide +kernel) rfl⟩
theorem mk_X4_forOf : MkOk mX4_forOf 1 := ⟨tb_at 491 (by decide +kernel) rfl, by decide, by decide, by decide, by decide +kernel, tb_at 53 (by decide +kernel) rfl⟩
theorem mk_X4_freshOf : MkOk mX4_freshOf 1 := ⟨tb_at 557 (by decide +kernel) rfl, by decide, by decide, by decide, by decide +kernel, tb_at 53 (by decide +kernel) rfl⟩
theorem mk_X4_staled : MkOk mX4_staled 1 := ⟨tb_at 617 (by decide +kernel) rfl, by decide, by decide, by decide, by decide +kernel, tb_at 53 (by decide +kernel) rfl⟩
theorem mk_X4_shareOrder : MkOk mX4_shareOrder 2 := ⟨tb_at 464 (by decide +kernel) rfl, by decide, by decide, by decide, by decide +kernel, tb_at 53 (by decide +kernel) rfl⟩
theorem mk_X4_lastAhead : MkOk mX4_lastAhead 1 := ⟨tb_at 594 (by decide +kernel) rfl, by decide, by decide, by decide, by decide +kernel, tb_at 53 (by decide +kernel) rfl⟩
theorem mk_X5_init : MkOk mX5_init 0 := ⟨tb_at 218 (by decide +kernel) rfl, by decide, by decide, by decide, by decide +kernel, tb_at 50 (by decide +kernel) rfl⟩
theorem mk_X5_clear : MkOk mX5_clear 0 := ⟨tb_at 671 (by decide +kernel) rfl, by decide, by decide, by decide, by decide +kernel, tb_at 50 (by decide +kernel) rfl⟩
theorem mk_X5_count : MkOk mX5_count 0 := ⟨tb_at 781 (by decide +kernel) rfl, by decide, by decide, by decide, by decide +kernel, tb_at 50 (by decide +kernel) rfl⟩
theorem mk_X5_add : MkOk mX5_add 1 := ⟨tb_at 747 (by decide +kernel) rfl, by decide, by decide, by decide, by decide +kernel, tb_at 50 (by decide +kernel) rfl⟩
theorem mk_X5_at : MkOk mX5_at 1 := ⟨tb_at 785 (by decide +kernel) rfl, by decide, by decide, by decide, by decide +kernel, tb_at 50 (by decide +kernel) rfl⟩
theorem mk_X6_init : MkOk mX6_init 0 := ⟨tb_at 67 (by decide +kernel) rfl, by decide, by decide, by decide, by decide +kernel, tb_at 42 (by decide +kernel) rfl⟩
theorem mk_X6_home : MkOk mX6_home 0 := ⟨tb_at 304 (by decide +kernel) rfl, by decide, by decide, by decide, by decide +kernel, tb_at 42 (by decide +kernel) rfl⟩
theorem mk_X6_setHome : MkOk mX6_setHome 1 := ⟨tb_at 348 (by decide +kernel) rfl, by decide, by decide, by decide, by decide +kernel, tb_at 42 (by decide +kernel) rfl⟩
theorem mk_X6_looseOf : MkOk mX6_looseOf 1 := ⟨tb_at 584 (by decide +kernel) rfl, by decide, by decide, by decide, by decide +kernel, tb_at 42 (by decide +kernel) rfl⟩
theorem mk_X6_setLoose : MkOk mX6_setLoose 2 := ⟨tb_at 360 (by decide +kernel) rfl, by decide, by decide, by decide, by decide +kernel, tb_at 42 (by decide +kernel) rfl⟩
theorem mk_X6_setRight : MkOk mX6_setRight 2 := ⟨tb_at 368 (by decide +kernel) rfl, by decide, by decide, by decide, by decide +kernel, tb_at 42 (by decide +kernel) rfl⟩
theorem mk_X6_hasRow : MkOk mX6_hasRow 1 := ⟨tb_at 386 (by decide +kernel) rfl, by decide, by decide, by decide, by decide +kernel, tb_at 42 (by decide +kernel) rfl⟩
theorem mk_X6_lengthOf : MkOk mX6_lengthOf 1 := ⟨tb_at 567 (by decide +kernel) rfl, by decide, by decide, by decide, by decide +kernel, tb_at 42 (by decide +kernel) rfl⟩
theorem mk_X6_waitsAt : MkOk mX6_waitsAt 1 := ⟨tb_at 449 (by decide +kernel) rfl, by decide, by decide, by decide, by decide +kernel, tb_at 42 (by decide +kernel) rfl⟩
theorem mk_X6_countRows : MkOk mX6_countRows 1 := ⟨tb_at 411 (by decide +kernel) rfl, by decide, by decide, by decide, by decide +kernel, tb_at 42 (by decide +kernel) rfl⟩
theorem mk_X6_putRow : MkOk mX6_putRow 4 := ⟨tb_at 382 (by decide +kernel) rfl, by decide, by decide, by decide, by decide +kernel, tb_at 42 (by decide +kernel) rfl⟩
theorem mk_X6_dropRow : MkOk mX6_dropRow 1 := ⟨tb_at 403 (by decide +kernel) rfl, by decide, by decide, by decide, by decide +kernel, tb_at 42 (by decide +kernel) rfl⟩
theorem mk_X6_actOf : MkOk mX6_actOf 2 := ⟨tb_at 395 (by decide +kernel) rfl, by decide, by decide, by decide, by decide +kernel, tb_at 42 (by decide +kernel) rfl⟩
theorem mk_X6_hasWait : MkOk mX6_hasWait 1 := ⟨tb_at 391 (by decide +kernel) rfl, by decide, by decide, by decide, by decide +kernel, tb_at 42 (by decide +kernel) rfl⟩
theorem mk_X6_cachePlace : MkOk mX6_cachePlace 2 := ⟨tb_at 444 (by decide +kernel) rfl, by decide, by decide, by decide, by decide +kernel, tb_at 42 (by decide +kernel) rfl⟩
theorem mk_X6_letterPlace : MkOk mX6_letterPlace 2 := ⟨tb_at 476 (by decide +kernel) rfl, by decide, by decide, by decide, by decide +kernel, tb_at 42 (by decide +kernel) rfl⟩
theorem mk_X6_badnessOf : MkOk mX6_badnessOf 1 := ⟨tb_at 644 (by decide +kernel) rfl, by decide, by decide, by decide, by decide +kernel, tb_at 42 (by decide +kernel) rfl⟩
theorem mk_X7_init : MkOk mX7_init 0 := ⟨tb_at 122 (by decide +kernel) rfl, by decide, by decide, by decide, by decide +kernel, tb_at 45 (by decide +kernel) rfl⟩
theorem mk_X7_begin : MkOk mX7_begin 1 := ⟨tb_at 308 (by decide +kernel) rfl, by decide, by decide, by decide, by decide +kernel, tb_at 45 (by decide +kernel) rfl⟩
theorem mk_X7_copy : MkOk mX7_copy 1 := ⟨tb_at 528 (by decide +kernel) rfl, by decide, by decide, by decide, by decide +kernel, tb_at 45 (by decide +kernel) rfl⟩
theorem mk_X7_stateOf : MkOk mX7_stateOf 1 := ⟨tb_at 440 (by decide +kernel) rfl, by decide, by decide, by decide, by decide +kernel, tb_at 45 (by decide +kernel) rfl⟩
theorem mk_X7_freshOf : MkOk mX7_freshOf 1 := ⟨tb_at 598 (by decide +kernel) rfl, by decide, by decide, by decide, by decide +kernel, tb_at 45 (by decide +kernel) rfl⟩
theorem mk_X7_wantOf : MkOk mX7_wantOf 1 := ⟨tb_at 428 (by decide +kernel) rfl, by decide, by decide, by decide, by decide +kernel, tb_at 45 (by decide +kernel) rfl⟩
theorem mk_X7_holders : MkOk mX7_holders 0 := ⟨tb_at 488 (by decide +kernel) rfl, by decide, by decide, by decide, by decide +kernel, tb_at 45 (by decide +kernel) rfl⟩
theorem mk_X7_setState : MkOk mX7_setState 2 := ⟨tb_at 576 (by decide +kernel) rfl, by decide, by decide, by decide, by decide +kernel, tb_at 45 (by decide +kernel) rfl⟩
theorem mk_X7_setFresh : MkOk mX7_setFresh 2 := ⟨tb_at 313 (by decide +kernel) rfl, by decide, by decide, by decide, by decide +kernel, tb_at 45 (by decide +kernel) rfl⟩
theorem mk_X7_setWant : MkOk mX7_setWant 2 := ⟨tb_at 562 (by decide +kernel) rfl, by decide, by decide, by decide, by decide +kernel, tb_at 45 (by decide +kernel) rfl⟩
theorem mk_X7_setHolders : MkOk mX7_setHolders 1 := ⟨tb_at 603 (by decide +kernel) rfl, by decide, by decide, by decide, by decide +kernel, tb_at 45 (by decide +kernel) rfl⟩
theorem mk_X7_isQuiet : MkOk mX7_isQuiet 0 := ⟨tb_at 649 (by decide +kernel) rfl, by decide, by decide, by decide, by decide +kernel, tb_at 45 (by decide +kernel) rfl⟩
theorem mk_X7_letterCount : MkOk mX7_letterCount 0 := ⟨tb_at 457 (by decide +kernel) rfl, by decide, by decide, by decide, by decide +kernel, tb_at 45 (by decide +kernel) rfl⟩
theorem mk_X7_letterAt : MkOk mX7_letterAt 1 := ⟨tb_at 472 (by decide +kernel) rfl, by decide, by decide, by decide, by decide +kernel, tb_at 45 (by decide +kernel) rfl⟩
theorem mk_X7_isBehindAnother : MkOk mX7_isBehindAnother 1 := ⟨tb_at 461 (by decide +kernel) rfl, by decide, by decide, by decide, by decide +kernel, tb_at 45 (by decide +kernel) rfl⟩
theorem mk_X7_add : MkOk mX7_add 1 := ⟨tb_at 591 (by decide +kernel) rfl, by decide, by decide, by decide, by decide +kernel, tb_at 45 (by decide +kernel) rfl⟩
theorem mk_X7_take : MkOk mX7_take 1 := ⟨tb_at 553 (by decide +kernel) rfl, by decide, by decide, by decide, by decide +kernel, tb_at 45 (by decide +kernel) rfl⟩
theorem mk_X7_storeAt : MkOk mX7_storeAt 1 := ⟨tb_at 612 (by decide +kernel) rfl, by decide, by decide, by decide, by decide +kernel, tb_at 45 (by decide +kernel) rfl⟩
theorem mk_X7_endsWord : MkOk mX7_endsWord 0 := ⟨tb_at 695 (by decide +kernel) rfl, by decide, by decide, by decide, by decide +kernel, tb_at 45 (by decide +kernel) rfl⟩
theorem mk_X7_lettersWord : MkOk mX7_lettersWord 1 := ⟨tb_at 699 (by decide +kernel) rfl, by decide, by decide, by decide, by decide +kernel, tb_at 45 (by decide +kernel) rfl⟩
theorem mk_X7_load : MkOk mX7_load 3 := ⟨tb_at 733 (by decide +kernel) rfl, by decide, by decide, by decide, by decide +kernel, tb_at 45 (by decide +kernel) rfl⟩
theorem mk_X7_loadHalf : MkOk mX7_loadHalf 2 := ⟨tb_at 737 (by decide +kernel) rfl, by decide, by decide, by decide, by decide +kernel, tb_at 45 (by decide +kernel) rfl⟩
theorem mk_X7_part : MkOk mX7_part 2 := ⟨tb_at 432 (by decide +kernel) rfl, by decide, by decide, by decide, by decide +kernel, tb_at 45 (by decide +kernel) rfl⟩
theorem mk_X7_setPart : MkOk mX7_setPart 3 := ⟨tb_at 317 (by decide +kernel) rfl, by decide, by decide, by decide, by decide +kernel, tb_at 45 (by decide +kernel) rfl⟩
theorem mk_X8_init : MkOk mX8_init 0 := ⟨tb_at 176 (by decide +kernel) rfl, by decide, by decide, by decide, by decide +kernel, tb_at 48 (by decide +kernel) rfl⟩
theorem mk_X8_clear : MkOk mX8_clear 0 := ⟨tb_at 662 (by decide +kernel) rfl, by decide, by decide, by decide, by decide +kernel, tb_at 48 (by decide +kernel) rfl⟩
theorem mk_X8_count : MkOk mX8_count 0 := ⟨tb_at 687 (by decide +kernel) rfl, by decide, by decide, by decide, by decide +kernel, tb_at 48 (by decide +kernel) rfl⟩
theorem mk_X8_find : MkOk mX8_find 1 := ⟨tb_at 765 (by decide +kernel) rfl, by decide, by decide, by decide, by decide +kernel, tb_at 48 (by decide +kernel) rfl⟩
theorem mk_X8_keep : MkOk mX8_keep 1 := ⟨tb_at 691 (by decide +kernel) rfl, by decide, by decide, by decide, by decide +kernel, tb_at 48 (by decide +kernel) rfl⟩
theorem mk_X8_load : MkOk mX8_load 2 := ⟨tb_at 729 (by decide +kernel) rfl, by decide, by decide, by decide, by decide +kernel, tb_at 48 (by decide +kernel) rfl⟩
theorem mk_X8_slotOf : MkOk mX8_slotOf 3 := ⟨tb_at 703 (by decide +kernel) rfl, by decide, by decide, by decide, by decide +kernel, tb_at 48 (by decide +kernel) rfl⟩
theorem mk_X8_startOf : MkOk mX8_startOf 3 := ⟨tb_at 706 (by decide +kernel) rfl, by decide, by decide, by decide, by decide +kernel, tb_at 48 (by decide +kernel) rfl⟩
theorem mk_X9_init : MkOk mX9_init 1 := ⟨tb_at 138 (by decide +kernel) rfl, by decide, by decide, by decide, by decide +kernel, tb_at 46 (by decide +kernel) rfl⟩
theorem mk_X9_count : MkOk mX9_count 0 := ⟨tb_at 500 (by decide +kernel) rfl, by decide, by decide, by decide, by decide +kernel, tb_at 46 (by decide +kernel) rfl⟩
theorem mk_X9_endOf : MkOk mX9_endOf 1 := ⟨tb_at 512 (by decide +kernel) rfl, by decide, by decide, by decide, by decide +kernel, tb_at 46 (by decide +kernel) rfl⟩
theorem mk_X9_eventOf : MkOk mX9_eventOf 1 := ⟨tb_at 516 (by decide +kernel) rfl, by decide, by decide, by decide, by decide +kernel, tb_at 46 (by decide +kernel) rfl⟩
theorem mk_X9_senderOf : MkOk mX9_senderOf 1 := ⟨tb_at 520 (by decide +kernel) rfl, by decide, by decide, by decide, by decide +kernel, tb_at 46 (by decide +kernel) rfl⟩
theorem mk_X9_letterOf : MkOk mX9_letterOf 1 := ⟨tb_at 549 (by decide +kernel) rfl, by decide, by decide, by decide, by decide +kernel, tb_at 46 (by decide +kernel) rfl⟩
theorem mk_X9_placeAt : MkOk mX9_placeAt 1 := ⟨tb_at 539 (by decide +kernel) rfl, by decide, by decide, by decide, by decide +kernel, tb_at 46 (by decide +kernel) rfl⟩
theorem mk_X9_list : MkOk mX9_list 1 := ⟨tb_at 423 (by decide +kernel) rfl, by decide, by decide, by decide, by decide +kernel, tb_at 46 (by decide +kernel) rfl⟩
theorem mk_X9_listOwn : MkOk mX9_listOwn 2 := ⟨tb_at 436 (by decide +kernel) rfl, by decide, by decide, by decide, by decide +kernel, tb_at 46 (by decide +kernel) rfl⟩
theorem mk_X9_listComing : MkOk mX9_listComing 2 := ⟨tb_at 468 (by decide +kernel) rfl, by decide, by decide, by decide, by decide +kernel, tb_at 46 (by decide +kernel) rfl⟩
theorem mk_X9_add : MkOk mX9_add 5 := ⟨tb_at 453 (by decide +kernel) rfl, by decide, by decide, by decide, by decide +kernel, tb_at 46 (by decide +kernel) rfl⟩
theorem mk_X10_init : MkOk mX10_init 0 := ⟨tb_at 59 (by decide +kernel) rfl, by decide, by decide, by decide, by decide +kernel, tb_at 41 (by decide +kernel) rfl⟩
theorem mk_X10_processors : MkOk mX10_processors 1 := ⟨tb_at 344 (by decide +kernel) rfl, by decide, by decide, by decide, by decide +kernel, tb_at 41 (by decide +kernel) rfl⟩
theorem mk_X10_net : MkOk mX10_net 2 := ⟨tb_at 356 (by decide +kernel) rfl, by decide, by decide, by decide, by decide +kernel, tb_at 41 (by decide +kernel) rfl⟩
theorem mk_X10_right : MkOk mX10_right 2 := ⟨tb_at 364 (by decide +kernel) rfl, by decide, by decide, by decide, by decide +kernel, tb_at 41 (by decide +kernel) rfl⟩
theorem mk_X10_row : MkOk mX10_row 3 := ⟨tb_at 372 (by decide +kernel) rfl, by decide, by decide, by decide, by decide +kernel, tb_at 41 (by decide +kernel) rfl⟩
theorem mk_X10_tear : MkOk mX10_tear 1 := ⟨tb_at 399 (by decide +kernel) rfl, by decide, by decide, by decide, by decide +kernel, tb_at 41 (by decide +kernel) rfl⟩
theorem mk_X10_rows : MkOk mX10_rows 1 := ⟨tb_at 407 (by decide +kernel) rfl, by decide, by decide, by decide, by decide +kernel, tb_at 41 (by decide +kernel) rfl⟩
theorem mk_X10_reset : MkOk mX10_reset 0 := ⟨tb_at 415 (by decide +kernel) rfl, by decide, by decide, by decide, by decide +kernel, tb_at 41 (by decide +kernel) rfl⟩
theorem mk_X10_steps : MkOk mX10_steps 0 := ⟨tb_at 504 (by decide +kernel) rfl, by decide, by decide, by decide, by decide +kernel, tb_at 41 (by decide +kernel) rfl⟩
theorem mk_X10_step : MkOk mX10_step 2 := ⟨tb_at 508 (by decide +kernel) rfl, by decide, by decide, by decide, by decide +kernel, tb_at 41 (by decide +kernel) rfl⟩
theorem mk_X10_choose : MkOk mX10_choose 1 := ⟨tb_at 524 (by decide +kernel) rfl, by decide, by decide, by decide, by decide +kernel, tb_at 41 (by decide +kernel) rfl⟩
theorem mk_X10_end : MkOk mX10_end 2 := ⟨tb_at 621 (by decide +kernel) rfl, by decide, by decide, by decide, by decide +kernel, tb_at 41 (by decide +kernel) rfl⟩
theorem mk_X10_letter : MkOk mX10_letter 2 := ⟨tb_at 629 (by decide +kernel) rfl, by decide, by decide, by decide, by decide +kernel, tb_at 41 (by decide +kernel) rfl⟩
theorem mk_X10_now : MkOk mX10_now 1 := ⟨tb_at 640 (by decide +kernel) rfl, by decide, by decide, by decide, by decide +kernel, tb_at 41 (by decide +kernel) rfl⟩
theorem mk_X10_walk : MkOk mX10_walk 1 := ⟨tb_at 654 (by decide +kernel) rfl, by decide, by decide, by decide, by decide +kernel, tb_at 41 (by decide +kernel) rfl⟩
theorem mk_X10_walked : MkOk mX10_walked 1 := ⟨tb_at 798 (by decide +kernel) rfl, by decide, by decide, by decide, by decide +kernel, tb_at 41 (by decide +kernel) rfl⟩
theorem mk_X10_bad : MkOk mX10_bad 2 := ⟨tb_at 815 (by decide +kernel) rfl, by decide, by decide, by decide, by decide +kernel, tb_at 41 (by decide +kernel) rfl⟩
theorem mk_X10_found : MkOk mX10_found 2 := ⟨tb_at 827 (by decide +kernel) rfl, by decide, by decide, by decide, by decide +kernel, tb_at 41 (by decide +kernel) rfl⟩
theorem mk_X10_far : MkOk mX10_far 1 := ⟨tb_at 840 (by decide +kernel) rfl, by decide, by decide, by decide, by decide +kernel, tb_at 41 (by decide +kernel) rfl⟩
theorem mk_X10_way : MkOk mX10_way 2 := ⟨tb_at 852 (by decide +kernel) rfl, by decide, by decide, by decide, by decide +kernel, tb_at 41 (by decide +kernel) rfl⟩
theorem mk_X10_go : MkOk mX10_go 1 := ⟨tb_at 860 (by decide +kernel) rfl, by decide, by decide, by decide, by decide +kernel, tb_at 41 (by decide +kernel) rfl⟩
theorem mk_X10_number : MkOk mX10_number 0 := ⟨tb_at 868 (by decide +kernel) rfl, by decide, by decide, by decide, by decide +kernel, tb_at 41 (by decide +kernel) rfl⟩
theorem mk_X10_used : MkOk mX10_used 1 := ⟨tb_at 876 (by decide +kernel) rfl, by decide, by decide, by decide, by decide +kernel, tb_at 41 (by decide +kernel) rfl⟩
theorem mk_X10_beginAnew : MkOk mX10_beginAnew 0 := ⟨tb_at 352 (by decide +kernel) rfl, by decide, by decide, by decide, by decide +kernel, tb_at 41 (by decide +kernel) rfl⟩
theorem mk_X10_countChoices : MkOk mX10_countChoices 0 := ⟨tb_at 419 (by decide +kernel) rfl, by decide, by decide, by decide, by decide +kernel, tb_at 41 (by decide +kernel) rfl⟩
theorem mk_X10_placeOf : MkOk mX10_placeOf 1 := ⟨tb_at 375 (by decide +kernel) rfl, by decide, by decide, by decide, by decide +kernel, tb_at 41 (by decide +kernel) rfl⟩
theorem mk_X10_sideOf : MkOk mX10_sideOf 1 := ⟨tb_at 378 (by decide +kernel) rfl, by decide, by decide, by decide, by decide +kernel, tb_at 41 (by decide +kernel) rfl⟩
theorem mk_X11_init : MkOk mX11_init 0 := ⟨tb_at 886 (by decide +kernel) rfl, by decide, by decide, by decide, by decide +kernel, tb_at 52 (by decide +kernel) rfl⟩
theorem mk_X11_copy : MkOk mX11_copy 4 := ⟨tb_at 896 (by decide +kernel) rfl, by decide, by decide, by decide, by decide +kernel, tb_at 52 (by decide +kernel) rfl⟩
theorem mk_X11_first : MkOk mX11_first 0 := ⟨tb_at 893 (by decide +kernel) rfl, by decide, by decide, by decide, by decide +kernel, tb_at 52 (by decide +kernel) rfl⟩
theorem mk_X11_changed : MkOk mX11_changed 0 := ⟨tb_at 1010 (by decide +kernel) rfl, by decide, by decide, by decide, by decide +kernel, tb_at 52 (by decide +kernel) rfl⟩
theorem mk_X11_processors : MkOk mX11_processors 1 := ⟨tb_at 1006 (by decide +kernel) rfl, by decide, by decide, by decide, by decide +kernel, tb_at 52 (by decide +kernel) rfl⟩
theorem mk_X11_net : MkOk mX11_net 2 := ⟨tb_at 1014 (by decide +kernel) rfl, by decide, by decide, by decide, by decide +kernel, tb_at 52 (by decide +kernel) rfl⟩
theorem mk_X11_right : MkOk mX11_right 2 := ⟨tb_at 1018 (by decide +kernel) rfl, by decide, by decide, by decide, by decide +kernel, tb_at 52 (by decide +kernel) rfl⟩
theorem mk_X11_placeOf : MkOk mX11_placeOf 1 := ⟨tb_at 1025 (by decide +kernel) rfl, by decide, by decide, by decide, by decide +kernel, tb_at 52 (by decide +kernel) rfl⟩
theorem mk_X11_row : MkOk mX11_row 3 := ⟨tb_at 1022 (by decide +kernel) rfl, by decide, by decide, by decide, by decide +kernel, tb_at 52 (by decide +kernel) rfl⟩
theorem mk_X11_tear : MkOk mX11_tear 1 := ⟨tb_at 1029 (by decide +kernel) rfl, by decide, by decide, by decide, by decide +kernel, tb_at 52 (by decide +kernel) rfl⟩
theorem mk_X11_rows : MkOk mX11_rows 1 := ⟨tb_at 1033 (by decide +kernel) rfl, by decide, by decide, by decide, by decide +kernel, tb_at 52 (by decide +kernel) rfl⟩
theorem mk_X11_letterAt : MkOk mX11_letterAt 2 := ⟨tb_at 1057 (by decide +kernel) rfl, by decide, by decide, by decide, by decide +kernel, tb_at 52 (by decide +kernel) rfl⟩
theorem mk_X11_rowOfLetter : MkOk mX11_rowOfLetter 1 := ⟨tb_at 1061 (by decide +kernel) rfl, by decide, by decide, by decide, by decide +kernel, tb_at 52 (by decide +kernel) rfl⟩
theorem mk_X11_waits : MkOk mX11_waits 1 := ⟨tb_at 1049 (by decide +kernel) rfl, by decide, by decide, by decide, by decide +kernel, tb_at 52 (by decide +kernel) rfl⟩
theorem mk_X11_addStep : MkOk mX11_addStep 4 := ⟨tb_at 1053 (by decide +kernel) rfl, by decide, by decide, by decide, by decide +kernel, tb_at 52 (by decide +kernel) rfl⟩
theorem mk_X11_findSteps : MkOk mX11_findSteps 0 := ⟨tb_at 1045 (by decide +kernel) rfl, by decide, by decide, by decide, by decide +kernel, tb_at 52 (by decide +kernel) rfl⟩
theorem mk_X11_compareLetters : MkOk mX11_compareLetters 2 := ⟨tb_at 1096 (by decide +kernel) rfl, by decide, by decide, by decide, by decide +kernel, tb_at 52 (by decide +kernel) rfl⟩
theorem mk_X11_isAhead : MkOk mX11_isAhead 6 := ⟨tb_at 1093 (by decide +kernel) rfl, by decide, by decide, by decide, by decide +kernel, tb_at 52 (by decide +kernel) rfl⟩
theorem mk_X11_send : MkOk mX11_send 5 := ⟨tb_at 1089 (by decide +kernel) rfl, by decide, by decide, by decide, by decide +kernel, tb_at 52 (by decide +kernel) rfl⟩
theorem mk_X11_takeLetter : MkOk mX11_takeLetter 1 := ⟨tb_at 1081 (by decide +kernel) rfl, by decide, by decide, by decide, by decide +kernel, tb_at 52 (by decide +kernel) rfl⟩
theorem mk_X11_stale : MkOk mX11_stale 1 := ⟨tb_at 1100 (by decide +kernel) rfl, by decide, by decide, by decide, by decide +kernel, tb_at 52 (by decide +kernel) rfl⟩
theorem mk_X11_cacheActs : MkOk mX11_cacheActs 3 := ⟨tb_at 1085 (by decide +kernel) rfl, by decide, by decide, by decide, by decide +kernel, tb_at 52 (by decide +kernel) rfl⟩
theorem mk_X11_homeActs : MkOk mX11_homeActs 2 := ⟨tb_at 1104 (by decide +kernel) rfl, by decide, by decide, by decide, by decide +kernel, tb_at 52 (by decide +kernel) rfl⟩
theorem mk_X11_doStep : MkOk mX11_doStep 1 := ⟨tb_at 1077 (by decide +kernel) rfl, by decide, by decide, by decide, by decide +kernel, tb_at 52 (by decide +kernel) rfl⟩
theorem mk_X11_badNow : MkOk mX11_badNow 0 := ⟨tb_at 1120 (by decide +kernel) rfl, by decide, by decide, by decide, by decide +kernel, tb_at 52 (by decide +kernel) rfl⟩
theorem mk_X11_isQuiet : MkOk mX11_isQuiet 0 := ⟨tb_at 1124 (by decide +kernel) rfl, by decide, by decide, by decide, by decide +kernel, tb_at 52 (by decide +kernel) rfl⟩
theorem mk_X11_toRun : MkOk mX11_toRun 0 := ⟨tb_at 1041 (by decide +kernel) rfl, by decide, by decide, by decide, by decide +kernel, tb_at 52 (by decide +kernel) rfl⟩
theorem mk_X11_reset : MkOk mX11_reset 0 := ⟨tb_at 1037 (by decide +kernel) rfl, by decide, by decide, by decide, by decide +kernel, tb_at 52 (by decide +kernel) rfl⟩
theorem mk_X11_steps : MkOk mX11_steps 0 := ⟨tb_at 1065 (by decide +kernel) rfl, by decide, by decide, by decide, by decide +kernel, tb_at 52 (by decide +kernel) rfl⟩
theorem mk_X11_step : MkOk mX11_step 2 := ⟨tb_at 1069 (by decide +kernel) rfl, by decide, by decide, by decide, by decide +kernel, tb_at 52 (by decide +kernel) rfl⟩
theorem mk_X11_choose : MkOk mX11_choose 1 := ⟨tb_at 1073 (by decide +kernel) rfl, by decide, by decide, by decide, by decide +kernel, tb_at 52 (by decide +kernel) rfl⟩
theorem mk_X11_end : MkOk mX11_end 2 := ⟨tb_at 1108 (by decide +kernel) rfl, by decide, by decide, by decide, by decide +kernel, tb_at 52 (by decide +kernel) rfl⟩
theorem mk_X11_letter : MkOk mX11_letter 2 := ⟨tb_at 1112 (by decide +kernel) rfl, by decide, by decide, by decide, by decide +kernel, tb_at 52 (by decide +kernel) rfl⟩
theorem mk_X11_now : MkOk mX11_now 1 := ⟨tb_at 1116 (by decide +kernel) rfl, by decide, by decide, by decide, by decide +kernel, tb_at 52 (by decide +kernel) rfl⟩
theorem mk_X11_sumOf : MkOk mX11_sumOf 1 := ⟨tb_at 1135 (by decide +kernel) rfl, by decide, by decide, by decide, by decide +kernel, tb_at 52 (by decide +kernel) rfl⟩
theorem mk_X11_numberOf : MkOk mX11_numberOf 0 := ⟨tb_at 1148 (by decide +kernel) rfl, by decide, by decide, by decide, by decide +kernel, tb_at 52 (by decide +kernel) rfl⟩
theorem mk_X11_addBad : MkOk mX11_addBad 3 := ⟨tb_at 1140 (by decide +kernel) rfl, by decide, by decide, by decide, by decide +kernel, tb_at 52 (by decide +kernel) rfl⟩
theorem mk_X11_add : MkOk mX11_add 2 := ⟨tb_at 1132 (by decide +kernel) rfl, by decide, by decide, by decide, by decide +kernel, tb_at 52 (by decide +kernel) rfl⟩
theorem mk_X11_walk : MkOk mX11_walk 1 := ⟨tb_at 1128 (by decide +kernel) rfl, by decide, by decide, by decide, by decide +kernel, tb_at 52 (by decide +kernel) rfl⟩
theorem mk_X11_from : MkOk mX11_from 2 := ⟨tb_at 1144 (by decide +kernel) rfl, by decide, by decide, by decide, by decide +kernel, tb_at 52 (by decide +kernel) rfl⟩
theorem mk_X11_lead : MkOk mX11_lead 0 := ⟨tb_at 1152 (by decide +kernel) rfl, by decide, by decide, by decide, by decide +kernel, tb_at 52 (by decide +kernel) rfl⟩
theorem mk_X11_walked : MkOk mX11_walked 1 := ⟨tb_at 1156 (by decide +kernel) rfl, by decide, by decide, by decide, by decide +kernel, tb_at 52 (by decide +kernel) rfl⟩
theorem mk_X11_bad : MkOk mX11_bad 2 := ⟨tb_at 1160 (by decide +kernel) rfl, by decide, by decide, by decide, by decide +kernel, tb_at 52 (by decide +kernel) rfl⟩
theorem mk_X11_found : MkOk mX11_found 2 := ⟨tb_at 1164 (by decide +kernel) rfl, by decide, by decide, by decide, by decide +kernel, tb_at 52 (by decide +kernel) rfl⟩
theorem mk_X11_far : MkOk mX11_far 1 := ⟨tb_at 1168 (by decide +kernel) rfl, by decide, by decide, by decide, by decide +kernel, tb_at 52 (by decide +kernel) rfl⟩
theorem mk_X11_way : MkOk mX11_way 2 := ⟨tb_at 1172 (by decide +kernel) rfl, by decide, by decide, by decide, by decide +kernel, tb_at 52 (by decide +kernel) rfl⟩
theorem mk_X11_go : MkOk mX11_go 1 := ⟨tb_at 1176 (by decide +kernel) rfl, by decide, by decide, by decide, by decide +kernel, tb_at 52 (by decide +kernel) rfl⟩
theorem mk_X11_number : MkOk mX11_number 0 := ⟨tb_at 1180 (by decide +kernel) rfl, by decide, by decide, by decide, by decide +kernel, tb_at 52 (by decide +kernel) rfl⟩
theorem mk_X11_used : MkOk mX11_used 1 := ⟨tb_at 1184 (by decide +kernel) rfl, by decide, by decide, by decide, by decide +kernel, tb_at 52 (by decide +kernel) rfl⟩
theorem mk_J7_fill_53178 : MkOk mJ7_fill_53178 2 := ⟨tb_at 71 (by decide +kernel) rfl, by decide, by decide, by decide, by decide +kernel, tb_at 43 (by decide +kernel) rfl⟩
/-- a call's link -/
def LkV (own : String) (idx : Nat) (M : MI) : Prop := Cond.methodLink own idx (mY M) ∈ tb ∧ Cond.instanceMethod (mY M) ∈ tb ∧ Cond.selects (mY M).cls (mY M) (mY M) ∈ tb
def LkS (own : String) (idx : Nat) (M : MI) : Prop := Cond.methodLink own idx (mY M) ∈ tb ∧ Cond.static (mY M) ∈ tb
def LkI (own : String) (idx : Nat) (M : MI) : Prop := Cond.methodLink own idx (mY M) ∈ tb ∧ Cond.instanceMethod (mY M) ∈ tb ∧ (mY M).name = "<init>"
theorem lk_X0_25 : LkV RX0 25 mX9_placeAt := ⟨tb_at 536 (by decide +kernel) rfl, tb_at 537 (by decide +kernel) rfl, tb_at 538 (by decide +kernel) rfl⟩
theorem lk_X0_31 : LkV RX0 31 mX6_hasRow := ⟨tb_at 540 (by decide +kernel) rfl, tb_at 384 (by decide +kernel) rfl, tb_at 385 (by decide +kernel) rfl⟩
theorem lk_X0_37 : LkV RX0 37 mX0_takeUp := ⟨tb_at 541 (by decide +kernel) rfl, tb_at 543 (by decide +kernel) rfl, tb_at 8 (by decide +kernel) rfl⟩
theorem lk_X0_41 : LkV RX0 41 mX6_home := ⟨tb_at 563 (by decide +kernel) rfl, tb_at 302 (by decide +kernel) rfl, tb_at 303 (by decide +kernel) rfl⟩
theorem lk_X0_45 : LkV RX0 45 mX6_lengthOf := ⟨tb_at 564 (by decide +kernel) rfl, tb_at 565 (by decide +kernel) rfl, tb_at 566 (by decide +kernel) rfl⟩
theorem lk_X0_48 : LkV RX0 48 mX6_actOf := ⟨tb_at 568 (by decide +kernel) rfl, tb_at 393 (by decide +kernel) rfl, tb_at 394 (by decide +kernel) rfl⟩
theorem lk_X0_52 : LkV RX0 52 mX0_homeAct := ⟨tb_at 569 (by decide +kernel) rfl, tb_at 571 (by decide +kernel) rfl, tb_at 9 (by decide +kernel) rfl⟩
theorem lk_X0_56 : LkV RX0 56 mX0_cacheAct := ⟨tb_at 605 (by decide +kernel) rfl, tb_at 607 (by decide +kernel) rfl, tb_at 11 (by decide +kernel) rfl⟩
theorem lk_X0_59 : LkV RX0 59 mX9_endOf := ⟨tb_at 545 (by decide +kernel) rfl, tb_at 510 (by decide +kernel) rfl, tb_at 511 (by decide +kernel) rfl⟩
theorem lk_X0_62 : LkV RX0 62 mX9_letterOf := ⟨tb_at 546 (by decide +kernel) rfl, tb_at 547 (by decide +kernel) rfl, tb_at 548 (by decide +kernel) rfl⟩
theorem lk_X0_65 : LkV RX0 65 mX7_take := ⟨tb_at 550 (by decide +kernel) rfl, tb_at 551 (by decide +kernel) rfl, tb_at 552 (by decide +kernel) rfl⟩
theorem lk_X0_70 : LkS RX0 70 mX4_forOf := ⟨tb_at 554 (by decide +kernel) rfl, tb_at 490 (by decide +kernel) rfl⟩
theorem lk_X0_75 : LkS RX0 75 mX4_freshOf := ⟨tb_at 555 (by decide +kernel) rfl, tb_at 556 (by decide +kernel) rfl⟩
theorem lk_X0_78 : LkV RX0 78 mX9_eventOf := ⟨tb_at 558 (by decide +kernel) rfl, tb_at 514 (by decide +kernel) rfl, tb_at 515 (by decide +kernel) rfl⟩
theorem lk_X0_81 : LkV RX0 81 mX7_setWant := ⟨tb_at 559 (by decide +kernel) rfl, tb_at 560 (by decide +kernel) rfl, tb_at 561 (by decide +kernel) rfl⟩
theorem lk_X0_85 : LkV RX0 85 mX7_setState := ⟨tb_at 573 (by decide +kernel) rfl, tb_at 574 (by decide +kernel) rfl, tb_at 575 (by decide +kernel) rfl⟩
theorem lk_X0_88 : LkV RX0 88 mX0_send := ⟨tb_at 577 (by decide +kernel) rfl, tb_at 579 (by decide +kernel) rfl, tb_at 10 (by decide +kernel) rfl⟩
theorem lk_X0_92 : LkV RX0 92 mX7_freshOf := ⟨tb_at 595 (by decide +kernel) rfl, tb_at 596 (by decide +kernel) rfl, tb_at 597 (by decide +kernel) rfl⟩
theorem lk_X0_93 : LkV RX0 93 mX7_setFresh := ⟨tb_at 604 (by decide +kernel) rfl, tb_at 311 (by decide +kernel) rfl, tb_at 312 (by decide +kernel) rfl⟩
theorem lk_X0_96 : LkV RX0 96 mX7_storeAt := ⟨tb_at 609 (by decide +kernel) rfl, tb_at 610 (by decide +kernel) rfl, tb_at 611 (by decide +kernel) rfl⟩
theorem lk_X0_100 : LkV RX0 100 mX7_holders := ⟨tb_at 599 (by decide +kernel) rfl, tb_at 486 (by decide +kernel) rfl, tb_at 487 (by decide +kernel) rfl⟩
theorem lk_X0_103 : LkV RX0 103 mX7_setHolders := ⟨tb_at 600 (by decide +kernel) rfl, tb_at 601 (by decide +kernel) rfl, tb_at 602 (by decide +kernel) rfl⟩
theorem lk_X0_106 : LkV RX0 106 mX6_looseOf := ⟨tb_at 581 (by decide +kernel) rfl, tb_at 582 (by decide +kernel) rfl, tb_at 583 (by decide +kernel) rfl⟩
theorem lk_X0_109 : LkS RX0 109 mX4_make := ⟨tb_at 585 (by decide +kernel) rfl, tb_at 586 (by decide +kernel) rfl⟩
theorem lk_X0_113 : LkV RX0 113 mX7_add := ⟨tb_at 588 (by decide +kernel) rfl, tb_at 589 (by decide +kernel) rfl, tb_at 590 (by decide +kernel) rfl⟩
theorem lk_X1_21 : LkI RX1 21 mX7_init := ⟨tb_at 169 (by decide +kernel) rfl, tb_at 121 (by decide +kernel) rfl, rfl⟩
theorem lk_X1_31 : LkI RX1 31 mX9_init := ⟨tb_at 171 (by decide +kernel) rfl, tb_at 137 (by decide +kernel) rfl, rfl⟩
theorem lk_X1_40 : LkI RX1 40 mX8_init := ⟨tb_at 174 (by decide +kernel) rfl, tb_at 175 (by decide +kernel) rfl, rfl⟩
theorem lk_X1_47 : LkI RX1 47 mX3_init := ⟨tb_at 197 (by decide +kernel) rfl, tb_at 198 (by decide +kernel) rfl, rfl⟩
theorem lk_X1_54 : LkI RX1 54 mX5_init := ⟨tb_at 216 (by decide +kernel) rfl, tb_at 217 (by decide +kernel) rfl, rfl⟩
theorem lk_X1_64 : LkI RX1 64 mX2_init := ⟨tb_at 229 (by decide +kernel) rfl, tb_at 230 (by decide +kernel) rfl, rfl⟩
theorem lk_X1_93 : LkV RX1 93 mX8_clear := ⟨tb_at 659 (by decide +kernel) rfl, tb_at 660 (by decide +kernel) rfl, tb_at 661 (by decide +kernel) rfl⟩
theorem lk_X1_96 : LkV RX1 96 mX3_clear := ⟨tb_at 664 (by decide +kernel) rfl, tb_at 665 (by decide +kernel) rfl, tb_at 666 (by decide +kernel) rfl⟩
theorem lk_X1_97 : LkV RX1 97 mX5_clear := ⟨tb_at 668 (by decide +kernel) rfl, tb_at 669 (by decide +kernel) rfl, tb_at 670 (by decide +kernel) rfl⟩
theorem lk_X1_98 : LkV RX1 98 mX2_clear := ⟨tb_at 672 (by decide +kernel) rfl, tb_at 673 (by decide +kernel) rfl, tb_at 674 (by decide +kernel) rfl⟩
theorem lk_X1_99 : LkS RX1 99 mJ7_fill_53178 := ⟨tb_at 677 (by decide +kernel) rfl, tb_at 70 (by decide +kernel) rfl⟩
theorem lk_X1_105 : LkV RX1 105 mX6_home := ⟨tb_at 678 (by decide +kernel) rfl, tb_at 302 (by decide +kernel) rfl, tb_at 303 (by decide +kernel) rfl⟩
theorem lk_X1_111 : LkV RX1 111 mX7_begin := ⟨tb_at 679 (by decide +kernel) rfl, tb_at 306 (by decide +kernel) rfl, tb_at 307 (by decide +kernel) rfl⟩
theorem lk_X1_115 : LkV RX1 115 mX1_keepTrial := ⟨tb_at 680 (by decide +kernel) rfl, tb_at 682 (by decide +kernel) rfl, tb_at 12 (by decide +kernel) rfl⟩
theorem lk_X1_119 : LkV RX1 119 mX8_load := ⟨tb_at 726 (by decide +kernel) rfl, tb_at 727 (by decide +kernel) rfl, tb_at 728 (by decide +kernel) rfl⟩
theorem lk_X1_123 : LkV RX1 123 mX9_list := ⟨tb_at 738 (by decide +kernel) rfl, tb_at 421 (by decide +kernel) rfl, tb_at 422 (by decide +kernel) rfl⟩
theorem lk_X1_127 : LkV RX1 127 mX7_isQuiet := ⟨tb_at 739 (by decide +kernel) rfl, tb_at 647 (by decide +kernel) rfl, tb_at 648 (by decide +kernel) rfl⟩
theorem lk_X1_131 : LkV RX1 131 mX2_markLeading := ⟨tb_at 740 (by decide +kernel) rfl, tb_at 741 (by decide +kernel) rfl, tb_at 742 (by decide +kernel) rfl⟩
theorem lk_X1_134 : LkV RX1 134 mX9_count := ⟨tb_at 748 (by decide +kernel) rfl, tb_at 498 (by decide +kernel) rfl, tb_at 499 (by decide +kernel) rfl⟩
theorem lk_X1_137 : LkV RX1 137 mX5_add := ⟨tb_at 749 (by decide +kernel) rfl, tb_at 745 (by decide +kernel) rfl, tb_at 746 (by decide +kernel) rfl⟩
theorem lk_X1_140 : LkV RX1 140 mX1_tryStep := ⟨tb_at 750 (by decide +kernel) rfl, tb_at 752 (by decide +kernel) rfl, tb_at 15 (by decide +kernel) rfl⟩
theorem lk_X1_144 : LkV RX1 144 mX2_spread := ⟨tb_at 774 (by decide +kernel) rfl, tb_at 775 (by decide +kernel) rfl, tb_at 776 (by decide +kernel) rfl⟩
theorem lk_X1_147 : LkV RX1 147 mX8_count := ⟨tb_at 684 (by decide +kernel) rfl, tb_at 685 (by decide +kernel) rfl, tb_at 686 (by decide +kernel) rfl⟩
theorem lk_X1_148 : LkV RX1 148 mX2_isLeading := ⟨tb_at 787 (by decide +kernel) rfl, tb_at 788 (by decide +kernel) rfl, tb_at 789 (by decide +kernel) rfl⟩
theorem lk_X1_152 : LkV RX1 152 mX9_placeAt := ⟨tb_at 754 (by decide +kernel) rfl, tb_at 537 (by decide +kernel) rfl, tb_at 538 (by decide +kernel) rfl⟩
theorem lk_X1_156 : LkV RX1 156 mX1_markUsed := ⟨tb_at 755 (by decide +kernel) rfl, tb_at 757 (by decide +kernel) rfl, tb_at 16 (by decide +kernel) rfl⟩
theorem lk_X1_159 : LkV RX1 159 mX7_copy := ⟨tb_at 760 (by decide +kernel) rfl, tb_at 526 (by decide +kernel) rfl, tb_at 527 (by decide +kernel) rfl⟩
theorem lk_X1_162 : LkV RX1 162 mX0_perform := ⟨tb_at 761 (by decide +kernel) rfl, tb_at 533 (by decide +kernel) rfl, tb_at 534 (by decide +kernel) rfl⟩
theorem lk_X1_168 : LkV RX1 168 mX3_add := ⟨tb_at 714 (by decide +kernel) rfl, tb_at 715 (by decide +kernel) rfl, tb_at 716 (by decide +kernel) rfl⟩
theorem lk_X1_171 : LkV RX1 171 mX8_find := ⟨tb_at 762 (by decide +kernel) rfl, tb_at 763 (by decide +kernel) rfl, tb_at 764 (by decide +kernel) rfl⟩
theorem lk_X1_175 : LkV RX1 175 mX2_addPath := ⟨tb_at 766 (by decide +kernel) rfl, tb_at 767 (by decide +kernel) rfl, tb_at 768 (by decide +kernel) rfl⟩
theorem lk_X1_178 : LkV RX1 178 mX6_hasRow := ⟨tb_at 759 (by decide +kernel) rfl, tb_at 384 (by decide +kernel) rfl, tb_at 385 (by decide +kernel) rfl⟩
theorem lk_X1_181 : LkV RX1 181 mX8_keep := ⟨tb_at 688 (by decide +kernel) rfl, tb_at 689 (by decide +kernel) rfl, tb_at 690 (by decide +kernel) rfl⟩
theorem lk_X1_184 : LkV RX1 184 mX2_addState := ⟨tb_at 709 (by decide +kernel) rfl, tb_at 710 (by decide +kernel) rfl, tb_at 711 (by decide +kernel) rfl⟩
theorem lk_X1_187 : LkV RX1 187 mX6_badnessOf := ⟨tb_at 713 (by decide +kernel) rfl, tb_at 642 (by decide +kernel) rfl, tb_at 643 (by decide +kernel) rfl⟩
theorem lk_X1_190 : LkV RX1 190 mX3_count := ⟨tb_at 803 (by decide +kernel) rfl, tb_at 804 (by decide +kernel) rfl, tb_at 805 (by decide +kernel) rfl⟩
theorem lk_X1_191 : LkV RX1 191 mX5_count := ⟨tb_at 807 (by decide +kernel) rfl, tb_at 779 (by decide +kernel) rfl, tb_at 780 (by decide +kernel) rfl⟩
theorem lk_X1_192 : LkV RX1 192 mX1_greatestDepth := ⟨tb_at 808 (by decide +kernel) rfl, tb_at 810 (by decide +kernel) rfl, tb_at 17 (by decide +kernel) rfl⟩
theorem lk_X1_195 : LkV RX1 195 mX3_ask := ⟨tb_at 820 (by decide +kernel) rfl, tb_at 821 (by decide +kernel) rfl, tb_at 822 (by decide +kernel) rfl⟩
theorem lk_X1_198 : LkV RX1 198 mX5_at := ⟨tb_at 832 (by decide +kernel) rfl, tb_at 783 (by decide +kernel) rfl, tb_at 784 (by decide +kernel) rfl⟩
theorem lk_X2_25 : LkI RX2 25 mX5_init := ⟨tb_at 235 (by decide +kernel) rfl, tb_at 217 (by decide +kernel) rfl, rfl⟩
theorem lk_X2_30 : LkV RX2 30 mX5_clear := ⟨tb_at 676 (by decide +kernel) rfl, tb_at 669 (by decide +kernel) rfl, tb_at 670 (by decide +kernel) rfl⟩
theorem lk_X2_33 : LkV RX2 33 mX5_add := ⟨tb_at 744 (by decide +kernel) rfl, tb_at 745 (by decide +kernel) rfl, tb_at 746 (by decide +kernel) rfl⟩
theorem lk_X2_37 : LkV RX2 37 mX5_count := ⟨tb_at 778 (by decide +kernel) rfl, tb_at 779 (by decide +kernel) rfl, tb_at 780 (by decide +kernel) rfl⟩
theorem lk_X2_41 : LkV RX2 41 mX5_at := ⟨tb_at 782 (by decide +kernel) rfl, tb_at 783 (by decide +kernel) rfl, tb_at 784 (by decide +kernel) rfl⟩
theorem lk_X2_45 : LkV RX2 45 mX2_markLeading := ⟨tb_at 786 (by decide +kernel) rfl, tb_at 741 (by decide +kernel) rfl, tb_at 742 (by decide +kernel) rfl⟩
theorem lk_X6_38 : LkS RX6 38 mJ7_fill_53178 := ⟨tb_at 69 (by decide +kernel) rfl, tb_at 70 (by decide +kernel) rfl⟩
theorem lk_X6_44 : LkV RX6 44 mX6_hasRow := ⟨tb_at 383 (by decide +kernel) rfl, tb_at 384 (by decide +kernel) rfl, tb_at 385 (by decide +kernel) rfl⟩
theorem lk_X6_52 : LkV RX6 52 mX6_hasWait := ⟨tb_at 388 (by decide +kernel) rfl, tb_at 390 (by decide +kernel) rfl, tb_at 2 (by decide +kernel) rfl⟩
theorem lk_X6_55 : LkV RX6 55 mX6_actOf := ⟨tb_at 392 (by decide +kernel) rfl, tb_at 393 (by decide +kernel) rfl, tb_at 394 (by decide +kernel) rfl⟩
theorem lk_X6_59 : LkS RX6 59 mX4_toOf := ⟨tb_at 477 (by decide +kernel) rfl, tb_at 478 (by decide +kernel) rfl⟩
theorem lk_X6_64 : LkS RX6 64 mX4_kindOf := ⟨tb_at 480 (by decide +kernel) rfl, tb_at 481 (by decide +kernel) rfl⟩
theorem lk_X6_67 : LkV RX6 67 mX7_stateOf := ⟨tb_at 483 (by decide +kernel) rfl, tb_at 438 (by decide +kernel) rfl, tb_at 439 (by decide +kernel) rfl⟩
theorem lk_X6_72 : LkV RX6 72 mX6_cachePlace := ⟨tb_at 484 (by decide +kernel) rfl, tb_at 442 (by decide +kernel) rfl, tb_at 443 (by decide +kernel) rfl⟩
theorem lk_X6_75 : LkV RX6 75 mX7_holders := ⟨tb_at 485 (by decide +kernel) rfl, tb_at 486 (by decide +kernel) rfl, tb_at 487 (by decide +kernel) rfl⟩
theorem lk_X6_79 : LkS RX6 79 mX4_forOf := ⟨tb_at 489 (by decide +kernel) rfl, tb_at 490 (by decide +kernel) rfl⟩
theorem lk_X6_82 : LkV RX6 82 mX7_freshOf := ⟨tb_at 645 (by decide +kernel) rfl, tb_at 596 (by decide +kernel) rfl, tb_at 597 (by decide +kernel) rfl⟩
theorem lk_X7_23 : LkS RX7 23 mJ7_fill_53178 := ⟨tb_at 309 (by decide +kernel) rfl, tb_at 70 (by decide +kernel) rfl⟩
theorem lk_X7_29 : LkV RX7 29 mX7_setFresh := ⟨tb_at 310 (by decide +kernel) rfl, tb_at 311 (by decide +kernel) rfl, tb_at 312 (by decide +kernel) rfl⟩
theorem lk_X7_39 : LkV RX7 39 mX7_part := ⟨tb_at 429 (by decide +kernel) rfl, tb_at 431 (by decide +kernel) rfl, tb_at 4 (by decide +kernel) rfl⟩
theorem lk_X7_43 : LkV RX7 43 mX7_setPart := ⟨tb_at 314 (by decide +kernel) rfl, tb_at 316 (by decide +kernel) rfl, tb_at 0 (by decide +kernel) rfl⟩
theorem lk_X7_49 : LkS RX7 49 mX4_shareOrder := ⟨tb_at 462 (by decide +kernel) rfl, tb_at 463 (by decide +kernel) rfl⟩
theorem lk_X7_55 : LkS RX7 55 mX4_lastAhead := ⟨tb_at 592 (by decide +kernel) rfl, tb_at 593 (by decide +kernel) rfl⟩
theorem lk_X7_59 : LkV RX7 59 mX7_setWant := ⟨tb_at 613 (by decide +kernel) rfl, tb_at 560 (by decide +kernel) rfl, tb_at 561 (by decide +kernel) rfl⟩
theorem lk_X7_64 : LkS RX7 64 mX4_staled := ⟨tb_at 615 (by decide +kernel) rfl, tb_at 616 (by decide +kernel) rfl⟩
theorem lk_X7_67 : LkV RX7 67 mX7_loadHalf := ⟨tb_at 734 (by decide +kernel) rfl, tb_at 736 (by decide +kernel) rfl, tb_at 14 (by decide +kernel) rfl⟩
theorem lk_X8_29 : LkS RX8 29 mJ7_fill_53178 := ⟨tb_at 663 (by decide +kernel) rfl, tb_at 70 (by decide +kernel) rfl⟩
theorem lk_X8_35 : LkV RX8 35 mX7_endsWord := ⟨tb_at 692 (by decide +kernel) rfl, tb_at 693 (by decide +kernel) rfl, tb_at 694 (by decide +kernel) rfl⟩
theorem lk_X8_41 : LkV RX8 41 mX7_lettersWord := ⟨tb_at 696 (by decide +kernel) rfl, tb_at 697 (by decide +kernel) rfl, tb_at 698 (by decide +kernel) rfl⟩
theorem lk_X8_45 : LkV RX8 45 mX8_slotOf := ⟨tb_at 700 (by decide +kernel) rfl, tb_at 702 (by decide +kernel) rfl, tb_at 13 (by decide +kernel) rfl⟩
theorem lk_X8_49 : LkV RX8 49 mX7_load := ⟨tb_at 730 (by decide +kernel) rfl, tb_at 731 (by decide +kernel) rfl, tb_at 732 (by decide +kernel) rfl⟩
theorem lk_X8_53 : LkS RX8 53 mX8_startOf := ⟨tb_at 704 (by decide +kernel) rfl, tb_at 705 (by decide +kernel) rfl⟩
theorem lk_X9_35 : LkV RX9 35 mX6_home := ⟨tb_at 424 (by decide +kernel) rfl, tb_at 302 (by decide +kernel) rfl, tb_at 303 (by decide +kernel) rfl⟩
theorem lk_X9_41 : LkV RX9 41 mX7_wantOf := ⟨tb_at 425 (by decide +kernel) rfl, tb_at 426 (by decide +kernel) rfl, tb_at 427 (by decide +kernel) rfl⟩
theorem lk_X9_47 : LkV RX9 47 mX9_listOwn := ⟨tb_at 433 (by decide +kernel) rfl, tb_at 435 (by decide +kernel) rfl, tb_at 5 (by decide +kernel) rfl⟩
theorem lk_X9_51 : LkV RX9 51 mX7_letterCount := ⟨tb_at 454 (by decide +kernel) rfl, tb_at 455 (by decide +kernel) rfl, tb_at 456 (by decide +kernel) rfl⟩
theorem lk_X9_54 : LkV RX9 54 mX7_isBehindAnother := ⟨tb_at 458 (by decide +kernel) rfl, tb_at 459 (by decide +kernel) rfl, tb_at 460 (by decide +kernel) rfl⟩
theorem lk_X9_58 : LkV RX9 58 mX9_listComing := ⟨tb_at 465 (by decide +kernel) rfl, tb_at 467 (by decide +kernel) rfl, tb_at 7 (by decide +kernel) rfl⟩
theorem lk_X9_61 : LkV RX9 61 mX7_stateOf := ⟨tb_at 437 (by decide +kernel) rfl, tb_at 438 (by decide +kernel) rfl, tb_at 439 (by decide +kernel) rfl⟩
theorem lk_X9_64 : LkV RX9 64 mX6_cachePlace := ⟨tb_at 441 (by decide +kernel) rfl, tb_at 442 (by decide +kernel) rfl, tb_at 443 (by decide +kernel) rfl⟩
theorem lk_X9_68 : LkV RX9 68 mX6_hasRow := ⟨tb_at 445 (by decide +kernel) rfl, tb_at 384 (by decide +kernel) rfl, tb_at 385 (by decide +kernel) rfl⟩
theorem lk_X9_71 : LkV RX9 71 mX6_waitsAt := ⟨tb_at 446 (by decide +kernel) rfl, tb_at 447 (by decide +kernel) rfl, tb_at 448 (by decide +kernel) rfl⟩
theorem lk_X9_74 : LkV RX9 74 mX9_add := ⟨tb_at 450 (by decide +kernel) rfl, tb_at 452 (by decide +kernel) rfl, tb_at 6 (by decide +kernel) rfl⟩
theorem lk_X9_78 : LkV RX9 78 mX7_letterAt := ⟨tb_at 469 (by decide +kernel) rfl, tb_at 470 (by decide +kernel) rfl, tb_at 471 (by decide +kernel) rfl⟩
theorem lk_X9_81 : LkV RX9 81 mX6_letterPlace := ⟨tb_at 473 (by decide +kernel) rfl, tb_at 474 (by decide +kernel) rfl, tb_at 475 (by decide +kernel) rfl⟩
theorem lk_X9_85 : LkS RX9 85 mX4_toOf := ⟨tb_at 492 (by decide +kernel) rfl, tb_at 478 (by decide +kernel) rfl⟩
theorem lk_X9_90 : LkS RX9 90 mX4_kindOf := ⟨tb_at 493 (by decide +kernel) rfl, tb_at 481 (by decide +kernel) rfl⟩
theorem lk_X9_93 : LkS RX9 93 mX4_fromOf := ⟨tb_at 494 (by decide +kernel) rfl, tb_at 495 (by decide +kernel) rfl⟩
theorem lk_X10_11 : LkI RX10 11 mX6_init := ⟨tb_at 65 (by decide +kernel) rfl, tb_at 66 (by decide +kernel) rfl, rfl⟩
theorem lk_X10_18 : LkI RX10 18 mX0_init := ⟨tb_at 101 (by decide +kernel) rfl, tb_at 102 (by decide +kernel) rfl, rfl⟩
theorem lk_X10_27 : LkI RX10 27 mX7_init := ⟨tb_at 120 (by decide +kernel) rfl, tb_at 121 (by decide +kernel) rfl, rfl⟩
theorem lk_X10_37 : LkI RX10 37 mX9_init := ⟨tb_at 136 (by decide +kernel) rfl, tb_at 137 (by decide +kernel) rfl, rfl⟩
theorem lk_X10_44 : LkI RX10 44 mX1_init := ⟨tb_at 164 (by decide +kernel) rfl, tb_at 165 (by decide +kernel) rfl, rfl⟩
theorem lk_X10_55 : LkV RX10 55 mX6_home := ⟨tb_at 301 (by decide +kernel) rfl, tb_at 302 (by decide +kernel) rfl, tb_at 303 (by decide +kernel) rfl⟩
theorem lk_X10_59 : LkV RX10 59 mX7_begin := ⟨tb_at 305 (by decide +kernel) rfl, tb_at 306 (by decide +kernel) rfl, tb_at 307 (by decide +kernel) rfl⟩
theorem lk_X10_63 : LkV RX10 63 mX6_setHome := ⟨tb_at 345 (by decide +kernel) rfl, tb_at 346 (by decide +kernel) rfl, tb_at 347 (by decide +kernel) rfl⟩
theorem lk_X10_67 : LkV RX10 67 mX10_beginAnew := ⟨tb_at 349 (by decide +kernel) rfl, tb_at 351 (by decide +kernel) rfl, tb_at 1 (by decide +kernel) rfl⟩
theorem lk_X10_70 : LkV RX10 70 mX6_setLoose := ⟨tb_at 357 (by decide +kernel) rfl, tb_at 358 (by decide +kernel) rfl, tb_at 359 (by decide +kernel) rfl⟩
theorem lk_X10_74 : LkV RX10 74 mX6_setRight := ⟨tb_at 365 (by decide +kernel) rfl, tb_at 366 (by decide +kernel) rfl, tb_at 367 (by decide +kernel) rfl⟩
theorem lk_X10_77 : LkS RX10 77 mX10_placeOf := ⟨tb_at 373 (by decide +kernel) rfl, tb_at 374 (by decide +kernel) rfl⟩
theorem lk_X10_80 : LkV RX10 80 mX6_putRow := ⟨tb_at 379 (by decide +kernel) rfl, tb_at 380 (by decide +kernel) rfl, tb_at 381 (by decide +kernel) rfl⟩
theorem lk_X10_84 : LkV RX10 84 mX6_dropRow := ⟨tb_at 400 (by decide +kernel) rfl, tb_at 401 (by decide +kernel) rfl, tb_at 402 (by decide +kernel) rfl⟩
theorem lk_X10_87 : LkV RX10 87 mX6_countRows := ⟨tb_at 408 (by decide +kernel) rfl, tb_at 409 (by decide +kernel) rfl, tb_at 410 (by decide +kernel) rfl⟩
theorem lk_X10_90 : LkV RX10 90 mX10_countChoices := ⟨tb_at 416 (by decide +kernel) rfl, tb_at 418 (by decide +kernel) rfl, tb_at 3 (by decide +kernel) rfl⟩
theorem lk_X10_93 : LkV RX10 93 mX9_endOf := ⟨tb_at 509 (by decide +kernel) rfl, tb_at 510 (by decide +kernel) rfl, tb_at 511 (by decide +kernel) rfl⟩
theorem lk_X10_96 : LkV RX10 96 mX9_eventOf := ⟨tb_at 513 (by decide +kernel) rfl, tb_at 514 (by decide +kernel) rfl, tb_at 515 (by decide +kernel) rfl⟩
theorem lk_X10_99 : LkV RX10 99 mX9_senderOf := ⟨tb_at 517 (by decide +kernel) rfl, tb_at 518 (by decide +kernel) rfl, tb_at 519 (by decide +kernel) rfl⟩
theorem lk_X10_102 : LkV RX10 102 mX7_copy := ⟨tb_at 525 (by decide +kernel) rfl, tb_at 526 (by decide +kernel) rfl, tb_at 527 (by decide +kernel) rfl⟩
theorem lk_X10_106 : LkV RX10 106 mX0_perform := ⟨tb_at 532 (by decide +kernel) rfl, tb_at 533 (by decide +kernel) rfl, tb_at 534 (by decide +kernel) rfl⟩
theorem lk_X10_110 : LkV RX10 110 mX7_stateOf := ⟨tb_at 622 (by decide +kernel) rfl, tb_at 438 (by decide +kernel) rfl, tb_at 439 (by decide +kernel) rfl⟩
theorem lk_X10_113 : LkV RX10 113 mX7_freshOf := ⟨tb_at 623 (by decide +kernel) rfl, tb_at 596 (by decide +kernel) rfl, tb_at 597 (by decide +kernel) rfl⟩
theorem lk_X10_116 : LkV RX10 116 mX7_holders := ⟨tb_at 624 (by decide +kernel) rfl, tb_at 486 (by decide +kernel) rfl, tb_at 487 (by decide +kernel) rfl⟩
theorem lk_X10_119 : LkV RX10 119 mX7_wantOf := ⟨tb_at 625 (by decide +kernel) rfl, tb_at 426 (by decide +kernel) rfl, tb_at 427 (by decide +kernel) rfl⟩
theorem lk_X10_122 : LkV RX10 122 mX7_letterCount := ⟨tb_at 630 (by decide +kernel) rfl, tb_at 455 (by decide +kernel) rfl, tb_at 456 (by decide +kernel) rfl⟩
theorem lk_X10_125 : LkV RX10 125 mX7_letterAt := ⟨tb_at 631 (by decide +kernel) rfl, tb_at 470 (by decide +kernel) rfl, tb_at 471 (by decide +kernel) rfl⟩
theorem lk_X10_128 : LkS RX10 128 mX4_kindOf := ⟨tb_at 632 (by decide +kernel) rfl, tb_at 481 (by decide +kernel) rfl⟩
theorem lk_X10_133 : LkS RX10 133 mX4_fromOf := ⟨tb_at 633 (by decide +kernel) rfl, tb_at 495 (by decide +kernel) rfl⟩
theorem lk_X10_136 : LkS RX10 136 mX4_toOf := ⟨tb_at 634 (by decide +kernel) rfl, tb_at 478 (by decide +kernel) rfl⟩
theorem lk_X10_139 : LkS RX10 139 mX4_forOf := ⟨tb_at 635 (by decide +kernel) rfl, tb_at 490 (by decide +kernel) rfl⟩
theorem lk_X10_142 : LkS RX10 142 mX4_freshOf := ⟨tb_at 636 (by decide +kernel) rfl, tb_at 556 (by decide +kernel) rfl⟩
theorem lk_X10_143 : LkV RX10 143 mX6_badnessOf := ⟨tb_at 641 (by decide +kernel) rfl, tb_at 642 (by decide +kernel) rfl, tb_at 643 (by decide +kernel) rfl⟩
theorem lk_X10_147 : LkV RX10 147 mX7_isQuiet := ⟨tb_at 646 (by decide +kernel) rfl, tb_at 647 (by decide +kernel) rfl, tb_at 648 (by decide +kernel) rfl⟩
theorem lk_X10_151 : LkV RX10 151 mX1_begin := ⟨tb_at 655 (by decide +kernel) rfl, tb_at 656 (by decide +kernel) rfl, tb_at 657 (by decide +kernel) rfl⟩
theorem lk_X10_152 : LkV RX10 152 mX1_countStates := ⟨tb_at 718 (by decide +kernel) rfl, tb_at 719 (by decide +kernel) rfl, tb_at 720 (by decide +kernel) rfl⟩
theorem lk_X10_155 : LkV RX10 155 mX1_visit := ⟨tb_at 722 (by decide +kernel) rfl, tb_at 723 (by decide +kernel) rfl, tb_at 724 (by decide +kernel) rfl⟩
theorem lk_X10_158 : LkV RX10 158 mX1_finish := ⟨tb_at 770 (by decide +kernel) rfl, tb_at 771 (by decide +kernel) rfl, tb_at 772 (by decide +kernel) rfl⟩
theorem lk_X10_161 : LkV RX10 161 mX1_isSpent := ⟨tb_at 791 (by decide +kernel) rfl, tb_at 792 (by decide +kernel) rfl, tb_at 793 (by decide +kernel) rfl⟩
theorem lk_X10_164 : LkV RX10 164 mX1_figure := ⟨tb_at 799 (by decide +kernel) rfl, tb_at 800 (by decide +kernel) rfl, tb_at 801 (by decide +kernel) rfl⟩
theorem lk_X10_167 : LkV RX10 167 mX1_badAt := ⟨tb_at 816 (by decide +kernel) rfl, tb_at 817 (by decide +kernel) rfl, tb_at 818 (by decide +kernel) rfl⟩
theorem lk_X10_170 : LkV RX10 170 mX1_stuckAt := ⟨tb_at 828 (by decide +kernel) rfl, tb_at 829 (by decide +kernel) rfl, tb_at 830 (by decide +kernel) rfl⟩
theorem lk_X10_173 : LkV RX10 173 mX1_lostAt := ⟨tb_at 833 (by decide +kernel) rfl, tb_at 834 (by decide +kernel) rfl, tb_at 835 (by decide +kernel) rfl⟩
theorem lk_X10_176 : LkV RX10 176 mX1_hasState := ⟨tb_at 841 (by decide +kernel) rfl, tb_at 842 (by decide +kernel) rfl, tb_at 843 (by decide +kernel) rfl⟩
theorem lk_X10_180 : LkV RX10 180 mX1_depthOf := ⟨tb_at 845 (by decide +kernel) rfl, tb_at 846 (by decide +kernel) rfl, tb_at 847 (by decide +kernel) rfl⟩
theorem lk_X10_183 : LkV RX10 183 mX1_stepTowards := ⟨tb_at 853 (by decide +kernel) rfl, tb_at 854 (by decide +kernel) rfl, tb_at 855 (by decide +kernel) rfl⟩
theorem lk_X10_186 : LkV RX10 186 mX1_load := ⟨tb_at 861 (by decide +kernel) rfl, tb_at 862 (by decide +kernel) rfl, tb_at 863 (by decide +kernel) rfl⟩
theorem lk_X10_190 : LkV RX10 190 mX1_numberOf := ⟨tb_at 869 (by decide +kernel) rfl, tb_at 870 (by decide +kernel) rfl, tb_at 871 (by decide +kernel) rfl⟩
theorem lk_X10_193 : LkV RX10 193 mX6_hasRow := ⟨tb_at 877 (by decide +kernel) rfl, tb_at 384 (by decide +kernel) rfl, tb_at 385 (by decide +kernel) rfl⟩
theorem lk_X10_196 : LkV RX10 196 mX1_usedAt := ⟨tb_at 878 (by decide +kernel) rfl, tb_at 879 (by decide +kernel) rfl, tb_at 880 (by decide +kernel) rfl⟩
theorem lk_X10_199 : LkV RX10 199 mX9_list := ⟨tb_at 420 (by decide +kernel) rfl, tb_at 421 (by decide +kernel) rfl, tb_at 422 (by decide +kernel) rfl⟩
theorem lk_X10_202 : LkV RX10 202 mX9_count := ⟨tb_at 497 (by decide +kernel) rfl, tb_at 498 (by decide +kernel) rfl, tb_at 499 (by decide +kernel) rfl⟩
theorem lk_X10_205 : LkS RX10 205 mX10_sideOf := ⟨tb_at 376 (by decide +kernel) rfl, tb_at 377 (by decide +kernel) rfl⟩
theorem lk_X11_91 : LkV RX11 91 mX11_first := ⟨tb_at 890 (by decide +kernel) rfl, tb_at 892 (by decide +kernel) rfl, tb_at 18 (by decide +kernel) rfl⟩
theorem lk_X11_94 : LkS RX11 94 mX11_copy := ⟨tb_at 894 (by decide +kernel) rfl, tb_at 895 (by decide +kernel) rfl⟩
theorem lk_X11_98 : LkV RX11 98 mX11_changed := ⟨tb_at 1007 (by decide +kernel) rfl, tb_at 1009 (by decide +kernel) rfl, tb_at 19 (by decide +kernel) rfl⟩
theorem lk_X11_101 : LkS RX11 101 mX11_placeOf := ⟨tb_at 1023 (by decide +kernel) rfl, tb_at 1024 (by decide +kernel) rfl⟩
theorem lk_X11_105 : LkV RX11 105 mX11_letterAt := ⟨tb_at 1054 (by decide +kernel) rfl, tb_at 1056 (by decide +kernel) rfl, tb_at 24 (by decide +kernel) rfl⟩
theorem lk_X11_112 : LkV RX11 112 mX11_waits := ⟨tb_at 1046 (by decide +kernel) rfl, tb_at 1048 (by decide +kernel) rfl, tb_at 22 (by decide +kernel) rfl⟩
theorem lk_X11_116 : LkV RX11 116 mX11_addStep := ⟨tb_at 1050 (by decide +kernel) rfl, tb_at 1052 (by decide +kernel) rfl, tb_at 23 (by decide +kernel) rfl⟩
theorem lk_X11_120 : LkV RX11 120 mX11_rowOfLetter := ⟨tb_at 1058 (by decide +kernel) rfl, tb_at 1060 (by decide +kernel) rfl, tb_at 25 (by decide +kernel) rfl⟩
theorem lk_X11_123 : LkS RX11 123 mX11_compareLetters := ⟨tb_at 1094 (by decide +kernel) rfl, tb_at 1095 (by decide +kernel) rfl⟩
theorem lk_X11_126 : LkV RX11 126 mX11_isAhead := ⟨tb_at 1090 (by decide +kernel) rfl, tb_at 1092 (by decide +kernel) rfl, tb_at 30 (by decide +kernel) rfl⟩
theorem lk_X11_139 : LkV RX11 139 mX11_send := ⟨tb_at 1086 (by decide +kernel) rfl, tb_at 1088 (by decide +kernel) rfl, tb_at 29 (by decide +kernel) rfl⟩
theorem lk_X11_143 : LkV RX11 143 mX11_stale := ⟨tb_at 1097 (by decide +kernel) rfl, tb_at 1099 (by decide +kernel) rfl, tb_at 31 (by decide +kernel) rfl⟩
theorem lk_X11_147 : LkV RX11 147 mX11_takeLetter := ⟨tb_at 1078 (by decide +kernel) rfl, tb_at 1080 (by decide +kernel) rfl, tb_at 27 (by decide +kernel) rfl⟩
theorem lk_X11_153 : LkV RX11 153 mX11_cacheActs := ⟨tb_at 1082 (by decide +kernel) rfl, tb_at 1084 (by decide +kernel) rfl, tb_at 28 (by decide +kernel) rfl⟩
theorem lk_X11_157 : LkV RX11 157 mX11_homeActs := ⟨tb_at 1101 (by decide +kernel) rfl, tb_at 1103 (by decide +kernel) rfl, tb_at 32 (by decide +kernel) rfl⟩
theorem lk_X11_160 : LkV RX11 160 mX11_findSteps := ⟨tb_at 1042 (by decide +kernel) rfl, tb_at 1044 (by decide +kernel) rfl, tb_at 21 (by decide +kernel) rfl⟩
theorem lk_X11_163 : LkV RX11 163 mX11_toRun := ⟨tb_at 1038 (by decide +kernel) rfl, tb_at 1040 (by decide +kernel) rfl, tb_at 20 (by decide +kernel) rfl⟩
theorem lk_X11_166 : LkV RX11 166 mX11_doStep := ⟨tb_at 1074 (by decide +kernel) rfl, tb_at 1076 (by decide +kernel) rfl, tb_at 26 (by decide +kernel) rfl⟩
theorem lk_X11_169 : LkV RX11 169 mX11_badNow := ⟨tb_at 1117 (by decide +kernel) rfl, tb_at 1119 (by decide +kernel) rfl, tb_at 33 (by decide +kernel) rfl⟩
theorem lk_X11_173 : LkV RX11 173 mX11_isQuiet := ⟨tb_at 1121 (by decide +kernel) rfl, tb_at 1123 (by decide +kernel) rfl, tb_at 34 (by decide +kernel) rfl⟩
theorem lk_X11_179 : LkS RX11 179 mX11_sumOf := ⟨tb_at 1133 (by decide +kernel) rfl, tb_at 1134 (by decide +kernel) rfl⟩
theorem lk_X11_192 : LkV RX11 192 mX11_addBad := ⟨tb_at 1137 (by decide +kernel) rfl, tb_at 1139 (by decide +kernel) rfl, tb_at 36 (by decide +kernel) rfl⟩
theorem lk_X11_202 : LkV RX11 202 mX11_add := ⟨tb_at 1129 (by decide +kernel) rfl, tb_at 1131 (by decide +kernel) rfl, tb_at 35 (by decide +kernel) rfl⟩
theorem lk_X11_205 : LkV RX11 205 mX11_from := ⟨tb_at 1141 (by decide +kernel) rfl, tb_at 1143 (by decide +kernel) rfl, tb_at 37 (by decide +kernel) rfl⟩
theorem lk_X11_209 : LkV RX11 209 mX11_lead := ⟨tb_at 1149 (by decide +kernel) rfl, tb_at 1151 (by decide +kernel) rfl, tb_at 39 (by decide +kernel) rfl⟩
theorem lk_X11_212 : LkV RX11 212 mX11_numberOf := ⟨tb_at 1145 (by decide +kernel) rfl, tb_at 1147 (by decide +kernel) rfl, tb_at 38 (by decide +kernel) rfl⟩
theorem lk_L_9 : LkI RL 9 mX10_init := ⟨tb_at 57 (by decide +kernel) rfl, tb_at 58 (by decide +kernel) rfl, rfl⟩
theorem lk_L_12 : LkI RL 12 mX11_init := ⟨tb_at 884 (by decide +kernel) rfl, tb_at 885 (by decide +kernel) rfl, rfl⟩
theorem lk_L_13 : LkV RL 13 mX10_processors := ⟨tb_at 341 (by decide +kernel) rfl, tb_at 342 (by decide +kernel) rfl, tb_at 343 (by decide +kernel) rfl⟩
theorem lk_L_17 : LkV RL 17 mX11_processors := ⟨tb_at 1003 (by decide +kernel) rfl, tb_at 1004 (by decide +kernel) rfl, tb_at 1005 (by decide +kernel) rfl⟩
theorem lk_L_18 : LkV RL 18 mX10_net := ⟨tb_at 353 (by decide +kernel) rfl, tb_at 354 (by decide +kernel) rfl, tb_at 355 (by decide +kernel) rfl⟩
theorem lk_L_22 : LkV RL 22 mX11_net := ⟨tb_at 1011 (by decide +kernel) rfl, tb_at 1012 (by decide +kernel) rfl, tb_at 1013 (by decide +kernel) rfl⟩
theorem lk_L_23 : LkV RL 23 mX10_right := ⟨tb_at 361 (by decide +kernel) rfl, tb_at 362 (by decide +kernel) rfl, tb_at 363 (by decide +kernel) rfl⟩
theorem lk_L_26 : LkV RL 26 mX11_right := ⟨tb_at 1015 (by decide +kernel) rfl, tb_at 1016 (by decide +kernel) rfl, tb_at 1017 (by decide +kernel) rfl⟩
theorem lk_L_27 : LkV RL 27 mX10_row := ⟨tb_at 369 (by decide +kernel) rfl, tb_at 370 (by decide +kernel) rfl, tb_at 371 (by decide +kernel) rfl⟩
theorem lk_L_31 : LkV RL 31 mX11_row := ⟨tb_at 1019 (by decide +kernel) rfl, tb_at 1020 (by decide +kernel) rfl, tb_at 1021 (by decide +kernel) rfl⟩
theorem lk_L_32 : LkV RL 32 mX10_tear := ⟨tb_at 396 (by decide +kernel) rfl, tb_at 397 (by decide +kernel) rfl, tb_at 398 (by decide +kernel) rfl⟩
theorem lk_L_35 : LkV RL 35 mX11_tear := ⟨tb_at 1026 (by decide +kernel) rfl, tb_at 1027 (by decide +kernel) rfl, tb_at 1028 (by decide +kernel) rfl⟩
theorem lk_L_36 : LkV RL 36 mX10_rows := ⟨tb_at 404 (by decide +kernel) rfl, tb_at 405 (by decide +kernel) rfl, tb_at 406 (by decide +kernel) rfl⟩
theorem lk_L_39 : LkV RL 39 mX11_rows := ⟨tb_at 1030 (by decide +kernel) rfl, tb_at 1031 (by decide +kernel) rfl, tb_at 1032 (by decide +kernel) rfl⟩
theorem lk_L_40 : LkV RL 40 mX10_reset := ⟨tb_at 412 (by decide +kernel) rfl, tb_at 413 (by decide +kernel) rfl, tb_at 414 (by decide +kernel) rfl⟩
theorem lk_L_44 : LkV RL 44 mX11_reset := ⟨tb_at 1034 (by decide +kernel) rfl, tb_at 1035 (by decide +kernel) rfl, tb_at 1036 (by decide +kernel) rfl⟩
theorem lk_L_45 : LkV RL 45 mX10_steps := ⟨tb_at 501 (by decide +kernel) rfl, tb_at 502 (by decide +kernel) rfl, tb_at 503 (by decide +kernel) rfl⟩
theorem lk_L_48 : LkV RL 48 mX11_steps := ⟨tb_at 1062 (by decide +kernel) rfl, tb_at 1063 (by decide +kernel) rfl, tb_at 1064 (by decide +kernel) rfl⟩
theorem lk_L_49 : LkV RL 49 mX10_step := ⟨tb_at 505 (by decide +kernel) rfl, tb_at 506 (by decide +kernel) rfl, tb_at 507 (by decide +kernel) rfl⟩
theorem lk_L_52 : LkV RL 52 mX11_step := ⟨tb_at 1066 (by decide +kernel) rfl, tb_at 1067 (by decide +kernel) rfl, tb_at 1068 (by decide +kernel) rfl⟩
theorem lk_L_53 : LkV RL 53 mX10_choose := ⟨tb_at 521 (by decide +kernel) rfl, tb_at 522 (by decide +kernel) rfl, tb_at 523 (by decide +kernel) rfl⟩
theorem lk_L_56 : LkV RL 56 mX11_choose := ⟨tb_at 1070 (by decide +kernel) rfl, tb_at 1071 (by decide +kernel) rfl, tb_at 1072 (by decide +kernel) rfl⟩
theorem lk_L_57 : LkV RL 57 mX10_end := ⟨tb_at 618 (by decide +kernel) rfl, tb_at 619 (by decide +kernel) rfl, tb_at 620 (by decide +kernel) rfl⟩
theorem lk_L_60 : LkV RL 60 mX11_end := ⟨tb_at 1105 (by decide +kernel) rfl, tb_at 1106 (by decide +kernel) rfl, tb_at 1107 (by decide +kernel) rfl⟩
theorem lk_L_61 : LkV RL 61 mX10_letter := ⟨tb_at 626 (by decide +kernel) rfl, tb_at 627 (by decide +kernel) rfl, tb_at 628 (by decide +kernel) rfl⟩
theorem lk_L_64 : LkV RL 64 mX11_letter := ⟨tb_at 1109 (by decide +kernel) rfl, tb_at 1110 (by decide +kernel) rfl, tb_at 1111 (by decide +kernel) rfl⟩
theorem lk_L_65 : LkV RL 65 mX10_now := ⟨tb_at 637 (by decide +kernel) rfl, tb_at 638 (by decide +kernel) rfl, tb_at 639 (by decide +kernel) rfl⟩
theorem lk_L_68 : LkV RL 68 mX11_now := ⟨tb_at 1113 (by decide +kernel) rfl, tb_at 1114 (by decide +kernel) rfl, tb_at 1115 (by decide +kernel) rfl⟩
theorem lk_L_69 : LkV RL 69 mX10_walk := ⟨tb_at 651 (by decide +kernel) rfl, tb_at 652 (by decide +kernel) rfl, tb_at 653 (by decide +kernel) rfl⟩
theorem lk_L_72 : LkV RL 72 mX11_walk := ⟨tb_at 1125 (by decide +kernel) rfl, tb_at 1126 (by decide +kernel) rfl, tb_at 1127 (by decide +kernel) rfl⟩
theorem lk_L_73 : LkV RL 73 mX10_walked := ⟨tb_at 795 (by decide +kernel) rfl, tb_at 796 (by decide +kernel) rfl, tb_at 797 (by decide +kernel) rfl⟩
theorem lk_L_76 : LkV RL 76 mX11_walked := ⟨tb_at 1153 (by decide +kernel) rfl, tb_at 1154 (by decide +kernel) rfl, tb_at 1155 (by decide +kernel) rfl⟩
theorem lk_L_77 : LkV RL 77 mX10_bad := ⟨tb_at 812 (by decide +kernel) rfl, tb_at 813 (by decide +kernel) rfl, tb_at 814 (by decide +kernel) rfl⟩
theorem lk_L_80 : LkV RL 80 mX11_bad := ⟨tb_at 1157 (by decide +kernel) rfl, tb_at 1158 (by decide +kernel) rfl, tb_at 1159 (by decide +kernel) rfl⟩
theorem lk_L_81 : LkV RL 81 mX10_found := ⟨tb_at 824 (by decide +kernel) rfl, tb_at 825 (by decide +kernel) rfl, tb_at 826 (by decide +kernel) rfl⟩
theorem lk_L_84 : LkV RL 84 mX11_found := ⟨tb_at 1161 (by decide +kernel) rfl, tb_at 1162 (by decide +kernel) rfl, tb_at 1163 (by decide +kernel) rfl⟩
theorem lk_L_85 : LkV RL 85 mX10_far := ⟨tb_at 837 (by decide +kernel) rfl, tb_at 838 (by decide +kernel) rfl, tb_at 839 (by decide +kernel) rfl⟩
theorem lk_L_88 : LkV RL 88 mX11_far := ⟨tb_at 1165 (by decide +kernel) rfl, tb_at 1166 (by decide +kernel) rfl, tb_at 1167 (by decide +kernel) rfl⟩
theorem lk_L_89 : LkV RL 89 mX10_way := ⟨tb_at 849 (by decide +kernel) rfl, tb_at 850 (by decide +kernel) rfl, tb_at 851 (by decide +kernel) rfl⟩
theorem lk_L_92 : LkV RL 92 mX11_way := ⟨tb_at 1169 (by decide +kernel) rfl, tb_at 1170 (by decide +kernel) rfl, tb_at 1171 (by decide +kernel) rfl⟩
theorem lk_L_93 : LkV RL 93 mX10_go := ⟨tb_at 857 (by decide +kernel) rfl, tb_at 858 (by decide +kernel) rfl, tb_at 859 (by decide +kernel) rfl⟩
theorem lk_L_96 : LkV RL 96 mX11_go := ⟨tb_at 1173 (by decide +kernel) rfl, tb_at 1174 (by decide +kernel) rfl, tb_at 1175 (by decide +kernel) rfl⟩
theorem lk_L_97 : LkV RL 97 mX10_number := ⟨tb_at 865 (by decide +kernel) rfl, tb_at 866 (by decide +kernel) rfl, tb_at 867 (by decide +kernel) rfl⟩
theorem lk_L_100 : LkV RL 100 mX11_number := ⟨tb_at 1177 (by decide +kernel) rfl, tb_at 1178 (by decide +kernel) rfl, tb_at 1179 (by decide +kernel) rfl⟩
theorem lk_L_101 : LkV RL 101 mX10_used := ⟨tb_at 873 (by decide +kernel) rfl, tb_at 874 (by decide +kernel) rfl, tb_at 875 (by decide +kernel) rfl⟩
theorem lk_L_104 : LkV RL 104 mX11_used := ⟨tb_at 1181 (by decide +kernel) rfl, tb_at 1182 (by decide +kernel) rfl, tb_at 1183 (by decide +kernel) rfl⟩
end
section
theorem ar_nat : Cond.native arraycopyName ∈ tb := tb_at 531 (by decide +kernel) rfl
theorem ar_stat : Cond.static arraycopyName ∈ tb := tb_at 530 (by decide +kernel) rfl
theorem ar_ini : Cond.initialized "java/lang/System" ∈ tb := tb_at 54 (by decide +kernel) rfl
theorem ar_0 : Cond.arrayClass (newarray.typeOf .int) ∈ tb := tb_at 97 (by decide +kernel) rfl
theorem ar_1 : Cond.arrayClass (newarray.typeOf .boolean) ∈ tb := tb_at 98 (by decide +kernel) rfl
theorem ar_2 : Cond.arrayClass (newarray.typeOf .long) ∈ tb := tb_at 194 (by decide +kernel) rfl
theorem so_stat : Cond.static yX10_sideOf ∈ tb := tb_at 377 (by decide +kernel) rfl
theorem oi_inst : Cond.instanceMethod objectInit ∈ tb := tb_at 61 (by decide +kernel) rfl
theorem oi_code : Cond.code objectInit ⟨#[0xb1]⟩ 1 none ∈ tb := tb_at 62 (by decide +kernel) rfl
/-! ===== a logic of frames over an explicit heap: cell k of the list stands at address b + k ===== -/
abbrev AC : Type := (Nat × vp_A) ⊕ (Nat × List Value)
def rv (b : Nat) (v : Value) : Value := match v with
  | .ref k => .ref (b + k)
  | .int x => .int x
  | .long x => .long x
  | .float x => .float x
  | .double x => .double x
  | .null => .null
  | .retAddr x => .retAddr x
def rc (b : Nat) (dA : Nat → ClassId) (c : AC) : va_E := match c with
  | .inl a => .inl (dA a.1, a.2)
  | .inr f => .inr (f.1, f.2.map (rv b))
def rz (b : Nat) (dA : Nat → ClassId) (h : List AC) : va_W := h.mapIdx (fun k c => (b + k, rc b dA c))
theorem rv_cat (b : Nat) (v : Value) : (rv b v).category = v.category := by cases v <;> rfl
theorem rv_cats (b : Nat) (vs : List Value) : ((vs.map (rv b)).map fun v => v.category).sum = (vs.map fun v => v.category).sum := by
  rw [List.map_map]
  congr 1
  exact List.map_congr_left (fun v _ => rv_cat b v)
theorem rv_narrow {b : Nat} {ty : FieldType} {v : Value} (h : narrow ty v = v) : narrow ty (rv b v) = rv b v := by
  cases v <;> first | exact h | (cases ty <;> rfl)
theorem rv_fits {b : Nat} {ty : FieldType} {v : Value} (h : fits ty v = true) : fits ty (rv b v) = true := by
  cases v <;> first | exact h | (cases ty <;> first | exact h | rfl)
theorem rz_len (b : Nat) (dA : Nat → ClassId) (h : List AC) : (rz b dA h).length = h.length := by simp [rz]
theorem rz_at {b : Nat} {dA : Nat → ClassId} {h : List AC} {k : Nat} {c : AC} (e : h[k]? = some c) : (rz b dA h)[k]? = some (b + k, rc b dA c) := by simp [rz, List.getElem?_mapIdx, e]
theorem rz_of {b : Nat} {dA : Nat → ClassId} {h : List AC} {k : Nat} {q : Nat × va_E} (e : (rz b dA h)[k]? = some q) : ∃ c, h[k]? = some c ∧ q = (b + k, rc b dA c) := by
  simp only [rz, List.getElem?_mapIdx, Option.map_eq_some_iff] at e
  obtain ⟨c, h1, h2⟩ := e
  exact ⟨c, h1, h2.symm⟩
theorem rz_set (b : Nat) (dA : Nat → ClassId) (h : List AC) (k : Nat) (c : AC) : (rz b dA h).set k (b + k, rc b dA c) = rz b dA (h.set k c) := by
  apply List.ext_getElem?
  intro i
  by_cases hi : i = k
  · subst hi
    by_cases hl : i < h.length
    · rw [List.getElem?_set_self (by rw [rz_len]; exact hl), rz_at (List.getElem?_set_self hl)]
    · rw [List.getElem?_eq_none (by simp [rz_len]; omega), List.getElem?_eq_none (by simp [rz_len]; omega)]
  · rw [List.getElem?_set_ne (Ne.symm hi)]
    simp only [rz, List.getElem?_mapIdx]
    rw [List.getElem?_set_ne (Ne.symm hi)]
theorem rz_push (b : Nat) (dA : Nat → ClassId) (h : List AC) (c : AC) : rz b dA h ++ [(b + h.length, rc b dA c)] = rz b dA (h ++ [c]) := by
  simp [rz, List.mapIdx_append]
theorem rz_D (b : Nat) (dA : Nat → ClassId) (h : List AC) : va_D (fun q => b ≤ q) (rz b dA h) := by
  refine ⟨fun i j p q hi hj hpq => ?_, fun k q hk => ?_⟩
  · obtain ⟨c, -, rfl⟩ := rz_of hi
    obtain ⟨c', -, rfl⟩ := rz_of hj
    exact Nat.add_left_cancel hpq
  · obtain ⟨c, -, rfl⟩ := rz_of hk
    exact Nat.le_add_right b k
/-! the values of the frame, by their places -/
def LH (b : Nat) (ls : Array Slot) (L : List (Option Value)) : Prop := ls.size = L.length ∧ lv_wf ls ∧ ∀ (i : Nat) (v : Value), L[i]? = some (some v) → ls[i]? = some (.val (rv b v))
def lpr (b : Nat) (L : List (Option Value)) : List (Nat × Value) := (List.range L.length).filterMap (fun i => (L[i]?).join.map (fun v => (i, rv b v)))
theorem lpr_mem {b : Nat} {L : List (Option Value)} {q : Nat × Value} : q ∈ lpr b L ↔ ∃ v, L[q.1]? = some (some v) ∧ q.2 = rv b v := by
  constructor
  · intro hq
    obtain ⟨i, -, hi⟩ := List.mem_filterMap.mp hq
    cases hL : L[i]? with
    | none => rw [hL] at hi; cases hi
    | some x =>
      rw [hL] at hi
      cases x with
      | none => cases hi
      | some v => cases hi; exact ⟨v, hL, rfl⟩
  · rintro ⟨v, h1, h2⟩
    refine List.mem_filterMap.mpr ⟨q.1, List.mem_range.mpr (List.getElem?_eq_some_iff.mp h1).1, ?_⟩
    rw [h1]
    show some (q.1, rv b v) = some q
    rw [← h2]
theorem LH.has {b : Nat} {ls : Array Slot} {L : List (Option Value)} (h : LH b ls L) : lv_has ls L.length (lpr b L) := by
  refine ⟨h.1, h.2.1, fun q hq => ?_⟩
  obtain ⟨v, h1, h2⟩ := lpr_mem.mp hq
  rw [h.2.2 q.1 v h1, h2]
def nl (a : Option Value) : Bool := match a with
  | some v => v.category == 1
  | none => true
theorem LH.set1 {b : Nat} {ls : Array Slot} {L : List (Option Value)} {i : Nat} {v : Value} (hn : nl (L.getD (i - 1) none) = true) (h : lv_has ls L.length ((i, rv b v) :: (lpr b L).filter (fun q => !(q.1 == i) && !(q.1 + 1 == i && q.2.category == 2)))) : LH b ls (L.set i (some v)) := by
  refine ⟨by rw [List.length_set]; exact h.1, h.2.1, fun j w hj => ?_⟩
  by_cases hji : j = i
  · subst hji
    have hl : j < L.length := by have := (List.getElem?_eq_some_iff.mp hj).1; simpa using this
    rw [List.getElem?_set_self hl] at hj
    cases hj
    exact h.2.2 (j, rv b v) List.mem_cons_self
  · rw [List.getElem?_set_ne (Ne.symm hji)] at hj
    refine h.2.2 (j, rv b w) (List.mem_cons_of_mem _ (List.mem_filter.mpr ⟨lpr_mem.mpr ⟨w, hj, rfl⟩, ?_⟩))
    simp only [Bool.and_eq_true, Bool.not_eq_true', beq_eq_false_iff_ne, ne_eq, Bool.and_eq_false_iff]
    refine ⟨hji, ?_⟩
    by_cases h1 : j + 1 = i
    · refine Or.inr ?_
      rw [rv_cat]
      have e : i - 1 = j := by omega
      rw [e] at hn
      have e2 : L.getD j none = some w := by rw [List.getD_eq_getElem?_getD, hj]; rfl
      rw [e2] at hn
      have e3 : w.category = 1 := by simpa [nl] using hn
      rw [e3]; decide
    · exact Or.inl h1
theorem LH.set2 {b : Nat} {ls : Array Slot} {L : List (Option Value)} {i : Nat} {v : Value} (hn : nl (L.getD (i - 1) none) = true) (h : lv_has ls L.length ((i, rv b v) :: (lpr b L).filter (fun q => !(q.1 == i) && (!(q.1 == i + 1) && !(q.1 + 1 == i && q.2.category == 2))))) : LH b ls ((L.set i (some v)).set (i + 1) none) := by
  refine ⟨by rw [List.length_set, List.length_set]; exact h.1, h.2.1, fun j w hj => ?_⟩
  by_cases hj2 : j = i + 1
  · subst hj2
    by_cases hl : i + 1 < (L.set i (some v)).length
    · rw [List.getElem?_set_self hl] at hj
      cases hj
    · rw [List.getElem?_eq_none (by rw [List.length_set]; omega)] at hj
      cases hj
  rw [List.getElem?_set_ne (Ne.symm hj2)] at hj
  by_cases hji : j = i
  · subst hji
    have hl : j < L.length := by have := (List.getElem?_eq_some_iff.mp hj).1; simpa using this
    rw [List.getElem?_set_self hl] at hj
    cases hj
    exact h.2.2 (j, rv b v) List.mem_cons_self
  · rw [List.getElem?_set_ne (Ne.symm hji)] at hj
    refine h.2.2 (j, rv b w) (List.mem_cons_of_mem _ (List.mem_filter.mpr ⟨lpr_mem.mpr ⟨w, hj, rfl⟩, ?_⟩))
    simp only [Bool.and_eq_true, Bool.not_eq_true', beq_eq_false_iff_ne, ne_eq, Bool.and_eq_false_iff]
    refine ⟨hji, hj2, ?_⟩
    by_cases h1 : j + 1 = i
    · refine Or.inr ?_
      rw [rv_cat]
      have e : i - 1 = j := by omega
      rw [e] at hn
      have e2 : L.getD j none = some w := by rw [List.getD_eq_getElem?_getD, hj]; rfl
      rw [e2] at hn
      have e3 : w.category = 1 := by simpa [nl] using hn
      rw [e3]; decide
    · exact Or.inl h1
/-- fewer values are known -/
theorem LH.less {b : Nat} {ls : Array Slot} {L L' : List (Option Value)} (h : LH b ls L) (hn : L'.length = L.length) (hl : ∀ (i : Nat) (v : Value), L'[i]? = some (some v) → L[i]? = some (some v)) : LH b ls L' := ⟨by rw [hn]; exact h.1, h.2.1, fun i v hv => h.2.2 i v (hl i v hv)⟩
def en (vs : List Value) : List (Option Value) := vs.flatMap (fun v => if v.category = 2 then [some v, none] else [some v])
theorem en_len (b : Nat) (vs : List Value) : (lg_sl (vs.map (rv b))).length = (en vs).length := by
  induction vs with
  | nil => rfl
  | cons v vs ih =>
    simp only [lg_sl, en, List.map_cons, List.flatMap_cons, List.length_append, rv_cat] at ih ⊢
    rw [ih]
    by_cases hc : v.category = 2 <;> simp [hc]
theorem en_at (b : Nat) (vs : List Value) : ∀ (i : Nat) (v : Value), (en vs)[i]? = some (some v) → (lg_sl (vs.map (rv b)))[i]? = some (.val (rv b v)) := by
  induction vs with
  | nil => intro i v h; simp [en] at h
  | cons w vs ih =>
    intro i v h
    simp only [lg_sl, en, List.map_cons, List.flatMap_cons, rv_cat] at h ih ⊢
    by_cases hc : w.category = 2
    · rw [if_pos hc] at h ⊢
      match i, h with
      | 0, h => simp at h ⊢; rw [h]
      | 1, h => simp at h
      | i + 2, h => simp at h ⊢; exact ih i v h
    · rw [if_neg hc] at h ⊢
      match i, h with
      | 0, h => simp at h ⊢; rw [h]
      | i + 1, h => simp at h ⊢; exact ih i v h
theorem LH.entry {b : Nat} {vs : List Value} {n : Nat} {L : List (Option Value)} (hn : (en vs).length ≤ n) (hL : en vs ++ List.replicate (n - (en vs).length) none = L) : LH b ((lg_sl (vs.map (rv b)) ++ List.replicate (n - (lg_sl (vs.map (rv b))).length) Slot.unset).toArray) L := by
  have h0 := lv_entry (vs.map (rv b)) (n := n) (by rw [en_len]; exact hn)
  subst hL
  refine ⟨by rw [h0.1]; simp; omega, h0.2.1, fun i v hv => ?_⟩
  by_cases hi : i < (en vs).length
  · rw [List.getElem?_append_left hi] at hv
    have := en_at b vs i v hv
    simp only [List.getElem?_toArray]
    rw [List.getElem?_append_left (by rw [en_len]; exact hi)]
    exact this
  · rw [List.getElem?_append_right (by omega)] at hv
    have := List.eq_of_mem_replicate (List.mem_of_getElem? hv)
    cases this
/-! the context of a walk -/
abbrev CT : Type := Program × Launch × Env × Room × State × MethodId × Array Value × List Frame × Method × Code × (Nat → ClassId) × (Nat → Nat → Nat) × (Nat → ClassId) × Nat
def nsw : Cond := .methodLinkNest RX6 48 yX10_sideOf "CohereBench"
abbrev vwT (dA : Nat → ClassId) : List (ClassId × FieldType) := [(dA 0, .int), (dA 1, .boolean), (dA 2, .long)]
def Kx (dC : Nat → ClassId) (dI : Nat → Nat → Nat) (dA : Nat → ClassId) (U : State) : Prop := va_K (dC, dI) vwCl (vwT dA) U ∧ va_Nw nsw U
def Cx (M : MI) (X : CT) : Prop := match X with
  | (p, _, _, R, s, m, args, _, meth, c, dC, dI, dA, b) => p.tables.exec = Jvm.exec ∧ c.code = mB M ∧ meth.sig.returnType = mR M ∧ c.maxLocals = mL M ∧ s.vm.findClass (mY M).cls = some m.cls ∧ (∀ w ∈ tb, w.before args s = true) ∧ meth.locks = false ∧ meth.name = (mY M).name ∧ R = mRm M ∧ Kx dC dI dA s ∧ b ≤ s.heap.size
/-- the machine at a frame of M: from here it comes to a state with Z -/
def Ew (M : MI) (X : CT) (Z : State → Prop) (pc : Nat) (L : List (Option Value)) (st : List Value) (h : List AC) (cells slots : Nat) : Prop := match X with
  | (p, l, e, R, s, m, args, below, meth, c, dC, dI, dA, b) => ∀ (H : Heap) (locs : List Loc) (ls : Array Slot), LH b ls L → va_P (dC, dI) vwCl (rz b dA h) H → va_S (fun q => b ≤ q) s.heap H locs → b + h.length = s.heap.size + cells → W p l e R s m args below meth c H locs cells slots Z (F0 m pc ls (st.map (rv b)))
/-- a method's contract -/
def PcE (b : Nat) (dC : Nat → ClassId) (dI : Nat → Nat → Nat) (dA : Nat → ClassId) (args : List Value) (h : List AC) : Array Value → State → Prop := va_Pc (args.map (rv b)) (fun U => U.heap.size = b + h.length ∧ va_P (dC, dI) vwCl (rz b dA h) U.heap ∧ Kx dC dI dA U)
def QcE (b : Nat) (dC : Nat → ClassId) (dI : Nat → Nat → Nat) (dA : Nat → ClassId) (Q : Option Value → List AC → Prop) : Array Value → State → Outcome → State → Prop := fun _ st oc t => (∃ (r : Option Value) (h' : List AC), oc = .returned (r.map (rv b)) ∧ Q r h' ∧ va_P (dC, dI) vwCl (rz b dA h') t.heap) ∧ va_F (fun q => b ≤ q) st t
def Em (M : MI) (args : List Value) (h : List AC) (Q : Option Value → List AC → Prop) : Prop := ∀ (l : Launch) (dC : Nat → ClassId) (dI : Nat → Nat → Nat) (dA : Nat → ClassId) (b : Nat), Met l (mY M) (mW M) (mRm M) (PcE b dC dI dA args h) (QcE b dC dI dA (fun r h' => Q r h' ∧ h'.length = h.length + mC M)) (mC M) (mS M) (fun q => b ≤ q)
def Zm (M : MI) (n0 : Nat) (Q : Option Value → List AC → Prop) (X : CT) : State → Prop := match X with
  | (_, _, _, _, s, _, args, below, _, _, dC, dI, dA, b) => MQ below (QcE b dC dI dA (fun r h' => Q r h' ∧ h'.length = n0 + mC M)) args s (mC M) (mS M) (fun q => b ≤ q)
theorem PcE.blind {b : Nat} {dC : Nat → ClassId} {dI : Nat → Nat → Nat} {dA : Nat → ClassId} {args : List Value} {h : List AC} : FrameBlind (PcE b dC dI dA args h) := by
  intro a U g mk q
  obtain ⟨q0, q1, qP, qK, qN⟩ := q
  exact ⟨q0, q1, qP, va_K.moved (u := U) (U := U.calling g mk a) (Vm.Alike.refl U.vm) qK, va_Nw.same rfl (u := U) (U := U.calling g mk a) rfl qN⟩
theorem Kx.warm {dC : Nat → ClassId} {dI : Nat → Nat → Nat} {dA : Nat → ClassId} {s U : State} (h : Kx dC dI dA s) (hW : s.WarmedH U.vm) : Kx dC dI dA U := ⟨va_K.moved hW.alike h.1, va_Nw.warmM hW h.2⟩
/-- the heap's size, by the room on one side and the cells on the other -/
theorem sz_of {p : Program} {l : Launch} {e : Env} {R : Room} {s : State} {m : MethodId} {args : Array Value} {below : List Frame} {meth : Method} {c : Code} {T : State} {locs : List Loc} {cells slots : Nat} {D : va_G} {b : Nat} {dA : Nat → ClassId} {h : List AC} {H : Heap} (X : Stand p l e R s m args below meth c T locs cells slots) (hT : T.heap = H) (hP : va_P D vwCl (rz b dA h) H) (hb : b ≤ s.heap.size) (hz : b + h.length = s.heap.size + cells) : H.size = b + h.length := by
  have h1 := X.same.2.1
  have h2 := X.same.2.2.1
  have e1 : (T.setVm s.vm).heap = H := hT
  rw [e1] at h1 h2
  have h3 : b + h.length ≤ H.size := by
    cases hl : h.length with
    | zero => omega
    | succ n =>
      have hk : h[n]? = some (h[n]'(by omega)) := List.getElem?_eq_getElem (by omega)
      have := (hP n _ (rz_at hk)).lt
      have h4 : b + n < H.size := this
      omega
  omega
theorem Em.of {M : MI} {n : Nat} {args : List Value} {h : List AC} {Q : Option Value → List AC → Prop} (ho : MkOk M n) {L : List (Option Value)} (hn : (en args).length ≤ mL M) (hL : en args ++ List.replicate (mL M - (en args).length) none = L) (k : ∀ X : CT, Cx M X → Ew M X (Zm M h.length Q X) 0 L [] h 0 0) : Em M args h Q := by
  intro l dC dI dA b
  refine Met.ofW (cc := mB M) (maxL := mL M) (ret := mR M) ho.2.1 rfl ?_
  intro p e s m a below meth c s₁ B hml hv
  obtain ⟨rfl, hsz, hP, hK⟩ := hv
  have hts := atoms_spec (ws := mW M) B.pre
  have hown : s.vm.findClass (mY M).cls = some m.cls := findClass_of_methodNamed B.named
  have hin : meth.name = (mY M).name := (name_of_methodNamed B.named B.method).1
  rw [lg_entry_eq]
  exact k (p, l, e, (headSpec (mW M) (mRm M)).room, s, m, (args.map (rv b)).toArray, below, meth, c, dC, dI, dA, b) ⟨B.exec, B.bytes, B.returns, hml, hown, fun w hw => hts w (List.mem_cons_of_mem _ hw), B.notSynchronized, hin, rfl, hK, by omega⟩ s.heap [] _ (LH.entry hn hL) hP va_S.rf (by omega)
theorem Em.imp {M : MI} {args : List Value} {h : List AC} {Q Q' : Option Value → List AC → Prop} (hE : Em M args h Q) (hq : ∀ r h', Q r h' → Q' r h') : Em M args h Q' := by
  intro l dC dI dA b p e ha hc hk s m a below hf hap hPc hK
  obtain ⟨k, o, h1, h2, h3, ⟨⟨r, h', q1, q2, q3⟩, q4⟩, q5⟩ := hE l dC dI dA b p e ha hc hk s m a below hf hap hPc hK
  exact ⟨k, o, h1, h2, h3, ⟨⟨r, h', q1, ⟨hq r h' q2.1, q2.2⟩, q3⟩, q4⟩, q5⟩
section EL
variable {M : MI} {X : CT} {Z : State → Prop} {pc : Nat} {L : List (Option Value)} {st : List Value} {h : List AC} {cells slots : Nat}
theorem e_iconst {n : Int} {v : Int32} (hX : Cx M X) (d : decode (mB M) pc = .ok (.iconst n, 1)) (hv : Int32.ofInt n = v) (k : Ew M X Z (pc + 1) L (.int v :: st) h cells slots) : Ew M X Z pc L (st) h cells slots := by
  obtain ⟨p, l, e, R, s, m, args, below, meth, c, dC, dI, dA, b⟩ := X
  obtain ⟨hx, hb, hr, hml, hown, hts, hlk, hnm, hR, hK, hbs⟩ := hX
  intro H locs ls hl hP hS hz
  exact lv_iconst hx hb d hv (k H locs ls hl hP hS hz)
theorem e_bipush {n : Int} {v : Int32} (hX : Cx M X) (d : decode (mB M) pc = .ok (.bipush n, 2)) (hv : (Int8.ofInt n).toInt32 = v) (k : Ew M X Z (pc + 2) L (.int v :: st) h cells slots) : Ew M X Z pc L (st) h cells slots := by
  obtain ⟨p, l, e, R, s, m, args, below, meth, c, dC, dI, dA, b⟩ := X
  obtain ⟨hx, hb, hr, hml, hown, hts, hlk, hnm, hR, hK, hbs⟩ := hX
  intro H locs ls hl hP hS hz
  exact lv_bipush hx hb d hv (k H locs ls hl hP hS hz)
theorem e_sipush {n : Int} {v : Int32} (hX : Cx M X) (d : decode (mB M) pc = .ok (.sipush n, 3)) (hv : (Int16.ofInt n).toInt32 = v) (k : Ew M X Z (pc + 3) L (.int v :: st) h cells slots) : Ew M X Z pc L (st) h cells slots := by
  obtain ⟨p, l, e, R, s, m, args, below, meth, c, dC, dI, dA, b⟩ := X
  obtain ⟨hx, hb, hr, hml, hown, hts, hlk, hnm, hR, hK, hbs⟩ := hX
  intro H locs ls hl hP hS hz
  exact lv_sipush hx hb d hv (k H locs ls hl hP hS hz)
theorem e_lconst {n : Fin 2} {v : Int64} (hX : Cx M X) (d : decode (mB M) pc = .ok (.lconst n, 1)) (hv : Int64.ofNat (n : Nat) = v) (k : Ew M X Z (pc + 1) L (.long v :: st) h cells slots) : Ew M X Z pc L (st) h cells slots := by
  obtain ⟨p, l, e, R, s, m, args, below, meth, c, dC, dI, dA, b⟩ := X
  obtain ⟨hx, hb, hr, hml, hown, hts, hlk, hnm, hR, hK, hbs⟩ := hX
  intro H locs ls hl hP hS hz
  exact lv_lconst hx hb d hv (k H locs ls hl hP hS hz)
theorem e_ldc {idx : Nat} {v : Int32} (hX : Cx M X) (d : decode (mB M) pc = .ok (.ldc idx, 2)) (hc : Cond.constant (mY M).cls idx v ∈ tb) (k : Ew M X Z (pc + 2) L (.int v :: st) h cells slots) : Ew M X Z pc L (st) h cells slots := by
  obtain ⟨p, l, e, R, s, m, args, below, meth, c, dC, dI, dA, b⟩ := X
  obtain ⟨hx, hb, hr, hml, hown, hts, hlk, hnm, hR, hK, hbs⟩ := hX
  intro H locs ls hl hP hS hz
  exact lv_ldc hx hb hown (hts _ hc) d (k H locs ls hl hP hS hz)
theorem e_ldc2 {idx : Nat} {v : Int64} (hX : Cx M X) (d : decode (mB M) pc = .ok (.ldc2_w idx, 3)) (hc : Cond.constantLong (mY M).cls idx v ∈ tb) (k : Ew M X Z (pc + 3) L (.long v :: st) h cells slots) : Ew M X Z pc L (st) h cells slots := by
  obtain ⟨p, l, e, R, s, m, args, below, meth, c, dC, dI, dA, b⟩ := X
  obtain ⟨hx, hb, hr, hml, hown, hts, hlk, hnm, hR, hK, hbs⟩ := hX
  intro H locs ls hl hP hS hz
  exact lv_ldc2 hx hb hown (hts _ hc) d (k H locs ls hl hP hS hz)
theorem e_iload_n {k0 : Fin 4} {x : Int32} (hX : Cx M X) (d : decode (mB M) pc = .ok (.iload_n k0, 1)) (hv : L[(k0 : Nat)]? = some (some (.int x))) (k : Ew M X Z (pc + 1) L (.int x :: st) h cells slots) : Ew M X Z pc L (st) h cells slots := by
  obtain ⟨p, l, e, R, s, m, args, below, meth, c, dC, dI, dA, b⟩ := X
  obtain ⟨hx, hb, hr, hml, hown, hts, hlk, hnm, hR, hK, hbs⟩ := hX
  intro H locs ls hl hP hS hz
  exact lv_iload_n hx hb d rfl (hl.2.2 _ _ hv) (k H locs ls hl hP hS hz)
theorem e_iload {i : Nat} {x : Int32} (hX : Cx M X) (d : decode (mB M) pc = .ok (.iload i, 2)) (hv : L[i]? = some (some (.int x))) (k : Ew M X Z (pc + 2) L (.int x :: st) h cells slots) : Ew M X Z pc L (st) h cells slots := by
  obtain ⟨p, l, e, R, s, m, args, below, meth, c, dC, dI, dA, b⟩ := X
  obtain ⟨hx, hb, hr, hml, hown, hts, hlk, hnm, hR, hK, hbs⟩ := hX
  intro H locs ls hl hP hS hz
  exact lv_iload hx hb d (hl.2.2 _ _ hv) (k H locs ls hl hP hS hz)
theorem e_lload_n {k0 : Fin 4} {x : Int64} (hX : Cx M X) (d : decode (mB M) pc = .ok (.lload_n k0, 1)) (hv : L[(k0 : Nat)]? = some (some (.long x))) (k : Ew M X Z (pc + 1) L (.long x :: st) h cells slots) : Ew M X Z pc L (st) h cells slots := by
  obtain ⟨p, l, e, R, s, m, args, below, meth, c, dC, dI, dA, b⟩ := X
  obtain ⟨hx, hb, hr, hml, hown, hts, hlk, hnm, hR, hK, hbs⟩ := hX
  intro H locs ls hl hP hS hz
  exact lv_lload_n hx hb d rfl (hl.2.2 _ _ hv) (k H locs ls hl hP hS hz)
theorem e_lload {i : Nat} {x : Int64} (hX : Cx M X) (d : decode (mB M) pc = .ok (.lload i, 2)) (hv : L[i]? = some (some (.long x))) (k : Ew M X Z (pc + 2) L (.long x :: st) h cells slots) : Ew M X Z pc L (st) h cells slots := by
  obtain ⟨p, l, e, R, s, m, args, below, meth, c, dC, dI, dA, b⟩ := X
  obtain ⟨hx, hb, hr, hml, hown, hts, hlk, hnm, hR, hK, hbs⟩ := hX
  intro H locs ls hl hP hS hz
  exact lv_lload hx hb d (hl.2.2 _ _ hv) (k H locs ls hl hP hS hz)
theorem e_aload_n {k0 : Fin 4} {x : Nat} (hX : Cx M X) (d : decode (mB M) pc = .ok (.aload_n k0, 1)) (hv : L[(k0 : Nat)]? = some (some (.ref x))) (k : Ew M X Z (pc + 1) L (.ref x :: st) h cells slots) : Ew M X Z pc L (st) h cells slots := by
  obtain ⟨p, l, e, R, s, m, args, below, meth, c, dC, dI, dA, b⟩ := X
  obtain ⟨hx, hb, hr, hml, hown, hts, hlk, hnm, hR, hK, hbs⟩ := hX
  intro H locs ls hl hP hS hz
  exact lv_aload_n hx hb d rfl (hl.2.2 _ _ hv) (k H locs ls hl hP hS hz)
theorem e_istore_n {k0 : Fin 4} {x : Int32} {L2 : List (Option Value)} (hX : Cx M X) (d : decode (mB M) pc = .ok (.istore_n k0, 1)) (hi : (k0 : Nat) < L.length) (hn : nl (L.getD ((k0 : Nat) - 1) none) = true) (hL : L.set (k0 : Nat) (some (.int x)) = L2) (k : Ew M X Z (pc + 1) L2 (st) h cells slots) : Ew M X Z pc L (.int x :: st) h cells slots := by
  obtain ⟨p, l, e, R, s, m, args, below, meth, c, dC, dI, dA, b⟩ := X
  obtain ⟨hx, hb, hr, hml, hown, hts, hlk, hnm, hR, hK, hbs⟩ := hX
  intro H locs ls hl hP hS hz
  subst hL
  exact lv_istore_n hx hb d rfl hl.has hi rfl (fun ls2 hl2 => k H locs ls2 (LH.set1 hn hl2) hP hS hz)
theorem e_istore {i : Nat} {x : Int32} {L2 : List (Option Value)} (hX : Cx M X) (d : decode (mB M) pc = .ok (.istore i, 2)) (hi : i < L.length) (hn : nl (L.getD (i - 1) none) = true) (hL : L.set i (some (.int x)) = L2) (k : Ew M X Z (pc + 2) L2 (st) h cells slots) : Ew M X Z pc L (.int x :: st) h cells slots := by
  obtain ⟨p, l, e, R, s, m, args, below, meth, c, dC, dI, dA, b⟩ := X
  obtain ⟨hx, hb, hr, hml, hown, hts, hlk, hnm, hR, hK, hbs⟩ := hX
  intro H locs ls hl hP hS hz
  subst hL
  exact lv_istore hx hb d hl.has hi rfl (fun ls2 hl2 => k H locs ls2 (LH.set1 hn hl2) hP hS hz)
theorem e_astore_n {k0 : Fin 4} {x : Nat} {L2 : List (Option Value)} (hX : Cx M X) (d : decode (mB M) pc = .ok (.astore_n k0, 1)) (hi : (k0 : Nat) < L.length) (hn : nl (L.getD ((k0 : Nat) - 1) none) = true) (hL : L.set (k0 : Nat) (some (.ref x)) = L2) (k : Ew M X Z (pc + 1) L2 (st) h cells slots) : Ew M X Z pc L (.ref x :: st) h cells slots := by
  obtain ⟨p, l, e, R, s, m, args, below, meth, c, dC, dI, dA, b⟩ := X
  obtain ⟨hx, hb, hr, hml, hown, hts, hlk, hnm, hR, hK, hbs⟩ := hX
  intro H locs ls hl hP hS hz
  subst hL
  exact lv_astore_n hx hb d rfl hl.has hi rfl (fun ls2 hl2 => k H locs ls2 (LH.set1 hn hl2) hP hS hz)
theorem e_lstore_n {k0 : Fin 4} {x : Int64} {L2 : List (Option Value)} (hX : Cx M X) (d : decode (mB M) pc = .ok (.lstore_n k0, 1)) (hi : (k0 : Nat) + 1 < L.length) (hn : nl (L.getD ((k0 : Nat) - 1) none) = true) (hL : (L.set (k0 : Nat) (some (.long x))).set ((k0 : Nat) + 1) none = L2) (k : Ew M X Z (pc + 1) L2 (st) h cells slots) : Ew M X Z pc L (.long x :: st) h cells slots := by
  obtain ⟨p, l, e, R, s, m, args, below, meth, c, dC, dI, dA, b⟩ := X
  obtain ⟨hx, hb, hr, hml, hown, hts, hlk, hnm, hR, hK, hbs⟩ := hX
  intro H locs ls hl hP hS hz
  subst hL
  exact lv_lstore_n hx hb d rfl hl.has hi rfl (fun ls2 hl2 => k H locs ls2 (LH.set2 hn hl2) hP hS hz)
theorem e_lstore {i : Nat} {x : Int64} {L2 : List (Option Value)} (hX : Cx M X) (d : decode (mB M) pc = .ok (.lstore i, 2)) (hi : i + 1 < L.length) (hn : nl (L.getD (i - 1) none) = true) (hL : (L.set i (some (.long x))).set (i + 1) none = L2) (k : Ew M X Z (pc + 2) L2 (st) h cells slots) : Ew M X Z pc L (.long x :: st) h cells slots := by
  obtain ⟨p, l, e, R, s, m, args, below, meth, c, dC, dI, dA, b⟩ := X
  obtain ⟨hx, hb, hr, hml, hown, hts, hlk, hnm, hR, hK, hbs⟩ := hX
  intro H locs ls hl hP hS hz
  subst hL
  exact lv_lstore hx hb d hl.has hi rfl (fun ls2 hl2 => k H locs ls2 (LH.set2 hn hl2) hP hS hz)
theorem e_iinc {i : Nat} {n : Int} {x v : Int32} {L2 : List (Option Value)} (hX : Cx M X) (d : decode (mB M) pc = .ok (.iinc i n, 3)) (hv : L[i]? = some (some (.int x))) (hv2 : x + Int32.ofInt n = v) (hn : nl (L.getD (i - 1) none) = true) (hL : L.set i (some (.int v)) = L2) (k : Ew M X Z (pc + 3) L2 st h cells slots) : Ew M X Z pc L st h cells slots := by
  obtain ⟨p, l, e, R, s, m, args, below, meth, c, dC, dI, dA, b⟩ := X
  obtain ⟨hx, hb, hr, hml, hown, hts, hlk, hnm, hR, hK, hbs⟩ := hX
  intro H locs ls hl hP hS hz
  subst hL
  have hi : i < L.length := (List.getElem?_eq_some_iff.mp hv).1
  obtain ⟨j, hj⟩ := List.getElem?_of_mem (lpr_mem.mpr ⟨.int x, hv, rfl⟩ : (i, rv b (.int x)) ∈ lpr b L)
  exact lv_iinc hx hb d hl.has hj hv2 hi rfl (fun ls2 hl2 => k H locs ls2 (LH.set1 (v := .int v) hn hl2) hP hS hz)
theorem e_iadd {x y : Int32} (hX : Cx M X) (d : decode (mB M) pc = .ok (.iadd, 1)) (k : Ew M X Z (pc + 1) L (.int (x + y) :: st) h cells slots) : Ew M X Z pc L (.int y :: .int x :: st) h cells slots := by
  obtain ⟨p, l, e, R, s, m, args, below, meth, c, dC, dI, dA, b⟩ := X
  obtain ⟨hx, hb, hr, hml, hown, hts, hlk, hnm, hR, hK, hbs⟩ := hX
  intro H locs ls hl hP hS hz
  exact lv_iadd hx hb d (k H locs ls hl hP hS hz)
theorem e_isub {x y : Int32} (hX : Cx M X) (d : decode (mB M) pc = .ok (.isub, 1)) (k : Ew M X Z (pc + 1) L (.int (x - y) :: st) h cells slots) : Ew M X Z pc L (.int y :: .int x :: st) h cells slots := by
  obtain ⟨p, l, e, R, s, m, args, below, meth, c, dC, dI, dA, b⟩ := X
  obtain ⟨hx, hb, hr, hml, hown, hts, hlk, hnm, hR, hK, hbs⟩ := hX
  intro H locs ls hl hP hS hz
  exact lv_isub hx hb d (k H locs ls hl hP hS hz)
theorem e_imul {x y : Int32} (hX : Cx M X) (d : decode (mB M) pc = .ok (.imul, 1)) (k : Ew M X Z (pc + 1) L (.int (x * y) :: st) h cells slots) : Ew M X Z pc L (.int y :: .int x :: st) h cells slots := by
  obtain ⟨p, l, e, R, s, m, args, below, meth, c, dC, dI, dA, b⟩ := X
  obtain ⟨hx, hb, hr, hml, hown, hts, hlk, hnm, hR, hK, hbs⟩ := hX
  intro H locs ls hl hP hS hz
  exact lv_imul hx hb d (k H locs ls hl hP hS hz)
theorem e_iand {x y : Int32} (hX : Cx M X) (d : decode (mB M) pc = .ok (.iand, 1)) (k : Ew M X Z (pc + 1) L (.int (x &&& y) :: st) h cells slots) : Ew M X Z pc L (.int y :: .int x :: st) h cells slots := by
  obtain ⟨p, l, e, R, s, m, args, below, meth, c, dC, dI, dA, b⟩ := X
  obtain ⟨hx, hb, hr, hml, hown, hts, hlk, hnm, hR, hK, hbs⟩ := hX
  intro H locs ls hl hP hS hz
  exact lv_iand hx hb d (k H locs ls hl hP hS hz)
theorem e_ior {x y : Int32} (hX : Cx M X) (d : decode (mB M) pc = .ok (.ior, 1)) (k : Ew M X Z (pc + 1) L (.int (x ||| y) :: st) h cells slots) : Ew M X Z pc L (.int y :: .int x :: st) h cells slots := by
  obtain ⟨p, l, e, R, s, m, args, below, meth, c, dC, dI, dA, b⟩ := X
  obtain ⟨hx, hb, hr, hml, hown, hts, hlk, hnm, hR, hK, hbs⟩ := hX
  intro H locs ls hl hP hS hz
  exact lv_ior hx hb d (k H locs ls hl hP hS hz)
theorem e_ixor {x y : Int32} (hX : Cx M X) (d : decode (mB M) pc = .ok (.ixor, 1)) (k : Ew M X Z (pc + 1) L (.int (x ^^^ y) :: st) h cells slots) : Ew M X Z pc L (.int y :: .int x :: st) h cells slots := by
  obtain ⟨p, l, e, R, s, m, args, below, meth, c, dC, dI, dA, b⟩ := X
  obtain ⟨hx, hb, hr, hml, hown, hts, hlk, hnm, hR, hK, hbs⟩ := hX
  intro H locs ls hl hP hS hz
  exact lv_ixor hx hb d (k H locs ls hl hP hS hz)
theorem e_ishl {x y : Int32} (hX : Cx M X) (d : decode (mB M) pc = .ok (.ishl, 1)) (k : Ew M X Z (pc + 1) L (.int (x <<< (y &&& 31)) :: st) h cells slots) : Ew M X Z pc L (.int y :: .int x :: st) h cells slots := by
  obtain ⟨p, l, e, R, s, m, args, below, meth, c, dC, dI, dA, b⟩ := X
  obtain ⟨hx, hb, hr, hml, hown, hts, hlk, hnm, hR, hK, hbs⟩ := hX
  intro H locs ls hl hP hS hz
  exact lv_ishl hx hb d (k H locs ls hl hP hS hz)
theorem e_ishr {x y : Int32} (hX : Cx M X) (d : decode (mB M) pc = .ok (.ishr, 1)) (k : Ew M X Z (pc + 1) L (.int (x >>> (y &&& 31)) :: st) h cells slots) : Ew M X Z pc L (.int y :: .int x :: st) h cells slots := by
  obtain ⟨p, l, e, R, s, m, args, below, meth, c, dC, dI, dA, b⟩ := X
  obtain ⟨hx, hb, hr, hml, hown, hts, hlk, hnm, hR, hK, hbs⟩ := hX
  intro H locs ls hl hP hS hz
  exact lv_ishr hx hb d (k H locs ls hl hP hS hz)
theorem e_iushr {x y : Int32} (hX : Cx M X) (d : decode (mB M) pc = .ok (.iushr, 1)) (k : Ew M X Z (pc + 1) L (.int ((x.toUInt32 >>> (y.toUInt32 &&& Int32.toUInt32 31)).toInt32) :: st) h cells slots) : Ew M X Z pc L (.int y :: .int x :: st) h cells slots := by
  obtain ⟨p, l, e, R, s, m, args, below, meth, c, dC, dI, dA, b⟩ := X
  obtain ⟨hx, hb, hr, hml, hown, hts, hlk, hnm, hR, hK, hbs⟩ := hX
  intro H locs ls hl hP hS hz
  exact lv_iushr hx hb d rfl (k H locs ls hl hP hS hz)
theorem e_idiv {x y : Int32} (hX : Cx M X) (d : decode (mB M) pc = .ok (.idiv, 1)) (hne : ¬ y = 0) (k : Ew M X Z (pc + 1) L (.int (x / y) :: st) h cells slots) : Ew M X Z pc L (.int y :: .int x :: st) h cells slots := by
  obtain ⟨p, l, e, R, s, m, args, below, meth, c, dC, dI, dA, b⟩ := X
  obtain ⟨hx, hb, hr, hml, hown, hts, hlk, hnm, hR, hK, hbs⟩ := hX
  intro H locs ls hl hP hS hz
  exact lv_idiv hx hb d hne (k H locs ls hl hP hS hz)
theorem e_irem {x y : Int32} (hX : Cx M X) (d : decode (mB M) pc = .ok (.irem, 1)) (hne : ¬ y = 0) (k : Ew M X Z (pc + 1) L (.int (x - x / y * y) :: st) h cells slots) : Ew M X Z pc L (.int y :: .int x :: st) h cells slots := by
  obtain ⟨p, l, e, R, s, m, args, below, meth, c, dC, dI, dA, b⟩ := X
  obtain ⟨hx, hb, hr, hml, hown, hts, hlk, hnm, hR, hK, hbs⟩ := hX
  intro H locs ls hl hP hS hz
  exact lv_irem hx hb d hne (k H locs ls hl hP hS hz)
theorem e_ineg {x : Int32} (hX : Cx M X) (d : decode (mB M) pc = .ok (.ineg, 1)) (k : Ew M X Z (pc + 1) L (.int (-x) :: st) h cells slots) : Ew M X Z pc L (.int x :: st) h cells slots := by
  obtain ⟨p, l, e, R, s, m, args, below, meth, c, dC, dI, dA, b⟩ := X
  obtain ⟨hx, hb, hr, hml, hown, hts, hlk, hnm, hR, hK, hbs⟩ := hX
  intro H locs ls hl hP hS hz
  exact lv_ineg hx hb d (k H locs ls hl hP hS hz)
theorem e_ladd {x y : Int64} (hX : Cx M X) (d : decode (mB M) pc = .ok (.ladd, 1)) (k : Ew M X Z (pc + 1) L (.long (x + y) :: st) h cells slots) : Ew M X Z pc L (.long y :: .long x :: st) h cells slots := by
  obtain ⟨p, l, e, R, s, m, args, below, meth, c, dC, dI, dA, b⟩ := X
  obtain ⟨hx, hb, hr, hml, hown, hts, hlk, hnm, hR, hK, hbs⟩ := hX
  intro H locs ls hl hP hS hz
  exact lv_ladd hx hb d (k H locs ls hl hP hS hz)
theorem e_lmul {x y : Int64} (hX : Cx M X) (d : decode (mB M) pc = .ok (.lmul, 1)) (k : Ew M X Z (pc + 1) L (.long (x * y) :: st) h cells slots) : Ew M X Z pc L (.long y :: .long x :: st) h cells slots := by
  obtain ⟨p, l, e, R, s, m, args, below, meth, c, dC, dI, dA, b⟩ := X
  obtain ⟨hx, hb, hr, hml, hown, hts, hlk, hnm, hR, hK, hbs⟩ := hX
  intro H locs ls hl hP hS hz
  exact lv_lmul hx hb d (k H locs ls hl hP hS hz)
theorem e_land {x y : Int64} (hX : Cx M X) (d : decode (mB M) pc = .ok (.land, 1)) (k : Ew M X Z (pc + 1) L (.long (x &&& y) :: st) h cells slots) : Ew M X Z pc L (.long y :: .long x :: st) h cells slots := by
  obtain ⟨p, l, e, R, s, m, args, below, meth, c, dC, dI, dA, b⟩ := X
  obtain ⟨hx, hb, hr, hml, hown, hts, hlk, hnm, hR, hK, hbs⟩ := hX
  intro H locs ls hl hP hS hz
  exact lv_land hx hb d (k H locs ls hl hP hS hz)
theorem e_lor {x y : Int64} (hX : Cx M X) (d : decode (mB M) pc = .ok (.lor, 1)) (k : Ew M X Z (pc + 1) L (.long (x ||| y) :: st) h cells slots) : Ew M X Z pc L (.long y :: .long x :: st) h cells slots := by
  obtain ⟨p, l, e, R, s, m, args, below, meth, c, dC, dI, dA, b⟩ := X
  obtain ⟨hx, hb, hr, hml, hown, hts, hlk, hnm, hR, hK, hbs⟩ := hX
  intro H locs ls hl hP hS hz
  exact lv_lor hx hb d (k H locs ls hl hP hS hz)
theorem e_lxor {x y : Int64} (hX : Cx M X) (d : decode (mB M) pc = .ok (.lxor, 1)) (k : Ew M X Z (pc + 1) L (.long (x ^^^ y) :: st) h cells slots) : Ew M X Z pc L (.long y :: .long x :: st) h cells slots := by
  obtain ⟨p, l, e, R, s, m, args, below, meth, c, dC, dI, dA, b⟩ := X
  obtain ⟨hx, hb, hr, hml, hown, hts, hlk, hnm, hR, hK, hbs⟩ := hX
  intro H locs ls hl hP hS hz
  exact lv_lxor hx hb d (k H locs ls hl hP hS hz)
theorem e_lushr {x : Int64} {y : Int32} (hX : Cx M X) (d : decode (mB M) pc = .ok (.lushr, 1)) (k : Ew M X Z (pc + 1) L (.long ((x.toUInt64 >>> (y.toInt64.toUInt64 &&& Int64.toUInt64 63)).toInt64) :: st) h cells slots) : Ew M X Z pc L (.int y :: .long x :: st) h cells slots := by
  obtain ⟨p, l, e, R, s, m, args, below, meth, c, dC, dI, dA, b⟩ := X
  obtain ⟨hx, hb, hr, hml, hown, hts, hlk, hnm, hR, hK, hbs⟩ := hX
  intro H locs ls hl hP hS hz
  exact lv_lushr hx hb d rfl (k H locs ls hl hP hS hz)
theorem e_lshl {x : Int64} {y : Int32} (hX : Cx M X) (d : decode (mB M) pc = .ok (.lshl, 1)) (k : Ew M X Z (pc + 1) L (.long (x <<< (y.toInt64 &&& 63)) :: st) h cells slots) : Ew M X Z pc L (.int y :: .long x :: st) h cells slots := by
  obtain ⟨p, l, e, R, s, m, args, below, meth, c, dC, dI, dA, b⟩ := X
  obtain ⟨hx, hb, hr, hml, hown, hts, hlk, hnm, hR, hK, hbs⟩ := hX
  intro H locs ls hl hP hS hz
  exact lv_lshl hx hb d rfl (k H locs ls hl hP hS hz)
theorem e_i2l {x : Int32} (hX : Cx M X) (d : decode (mB M) pc = .ok (.i2l, 1)) (k : Ew M X Z (pc + 1) L (.long x.toInt64 :: st) h cells slots) : Ew M X Z pc L (.int x :: st) h cells slots := by
  obtain ⟨p, l, e, R, s, m, args, below, meth, c, dC, dI, dA, b⟩ := X
  obtain ⟨hx, hb, hr, hml, hown, hts, hlk, hnm, hR, hK, hbs⟩ := hX
  intro H locs ls hl hP hS hz
  exact lv_i2l hx hb d rfl (k H locs ls hl hP hS hz)
theorem e_l2i {x : Int64} (hX : Cx M X) (d : decode (mB M) pc = .ok (.l2i, 1)) (k : Ew M X Z (pc + 1) L (.int x.toInt32 :: st) h cells slots) : Ew M X Z pc L (.long x :: st) h cells slots := by
  obtain ⟨p, l, e, R, s, m, args, below, meth, c, dC, dI, dA, b⟩ := X
  obtain ⟨hx, hb, hr, hml, hown, hts, hlk, hnm, hR, hK, hbs⟩ := hX
  intro H locs ls hl hP hS hz
  exact lv_l2i hx hb d rfl (k H locs ls hl hP hS hz)
theorem e_lcmp {x y : Int64} (hX : Cx M X) (d : decode (mB M) pc = .ok (.lcmp, 1)) (k : Ew M X Z (pc + 1) L (.int (lg_cmp x y) :: st) h cells slots) : Ew M X Z pc L (.long y :: .long x :: st) h cells slots := by
  obtain ⟨p, l, e, R, s, m, args, below, meth, c, dC, dI, dA, b⟩ := X
  obtain ⟨hx, hb, hr, hml, hown, hts, hlk, hnm, hR, hK, hbs⟩ := hX
  intro H locs ls hl hP hS hz
  exact W.lcmp hx hb d (k H locs ls hl hP hS hz)
theorem e_dup {v : Value} (hX : Cx M X) (d : decode (mB M) pc = .ok (.dup, 1)) (hv : v.category = 1) (k : Ew M X Z (pc + 1) L (v :: v :: st) h cells slots) : Ew M X Z pc L (v :: st) h cells slots := by
  obtain ⟨p, l, e, R, s, m, args, below, meth, c, dC, dI, dA, b⟩ := X
  obtain ⟨hx, hb, hr, hml, hown, hts, hlk, hnm, hR, hK, hbs⟩ := hX
  intro H locs ls hl hP hS hz
  exact lv_dup hx hb d ((rv_cat b v).trans hv) (k H locs ls hl hP hS hz)
theorem e_pop {v : Value} (hX : Cx M X) (d : decode (mB M) pc = .ok (.pop, 1)) (hv : v.category = 1) (k : Ew M X Z (pc + 1) L (st) h cells slots) : Ew M X Z pc L (v :: st) h cells slots := by
  obtain ⟨p, l, e, R, s, m, args, below, meth, c, dC, dI, dA, b⟩ := X
  obtain ⟨hx, hb, hr, hml, hown, hts, hlk, hnm, hR, hK, hbs⟩ := hX
  intro H locs ls hl hP hS hz
  exact lv_pop hx hb d ((rv_cat b v).trans hv) (k H locs ls hl hP hS hz)
theorem e_dup2 {v w : Value} (hX : Cx M X) (d : decode (mB M) pc = .ok (.dup2, 1)) (hv : v.category = 1) (hw : w.category = 1) (k : Ew M X Z (pc + 1) L (v :: w :: v :: w :: st) h cells slots) : Ew M X Z pc L (v :: w :: st) h cells slots := by
  obtain ⟨p, l, e, R, s, m, args, below, meth, c, dC, dI, dA, b⟩ := X
  obtain ⟨hx, hb, hr, hml, hown, hts, hlk, hnm, hR, hK, hbs⟩ := hX
  intro H locs ls hl hP hS hz
  exact lv_dup2_11 hx hb d ((rv_cat b v).trans hv) ((rv_cat b w).trans hw) (k H locs ls hl hP hS hz)
theorem e_if_eq {x : Int32} {off : Int} {tgt : Nat} (hX : Cx M X) (d : decode (mB M) pc = .ok (.ifCond .eq off, 3)) (ht : (pc : Int) + off = (tgt : Int)) (kt : x = 0 → Ew M X Z tgt L st h cells slots) (kf : ¬ (x = 0) → Ew M X Z (pc + 3) L st h cells slots) : Ew M X Z pc L (.int x :: st) h cells slots := by
  obtain ⟨p, l, e, R, s, m, args, below, meth, c, dC, dI, dA, b⟩ := X
  obtain ⟨hx, hb, hr, hml, hown, hts, hlk, hnm, hR, hK, hbs⟩ := hX
  intro H locs ls hl hP hS hz
  exact lv_if_eq hx hb d ht (fun q => kt (by first | exact q | simpa using q) H locs ls hl hP hS hz) (fun q => kf (by first | exact q | simpa using q) H locs ls hl hP hS hz)
theorem e_icmp_eq {x y : Int32} {off : Int} {tgt : Nat} (hX : Cx M X) (d : decode (mB M) pc = .ok (.if_icmp .eq off, 3)) (ht : (pc : Int) + off = (tgt : Int)) (kt : x = y → Ew M X Z tgt L st h cells slots) (kf : ¬ (x = y) → Ew M X Z (pc + 3) L st h cells slots) : Ew M X Z pc L (.int y :: .int x :: st) h cells slots := by
  obtain ⟨p, l, e, R, s, m, args, below, meth, c, dC, dI, dA, b⟩ := X
  obtain ⟨hx, hb, hr, hml, hown, hts, hlk, hnm, hR, hK, hbs⟩ := hX
  intro H locs ls hl hP hS hz
  exact lv_icmp_eq hx hb d ht (fun q => kt (by first | exact q | simpa using q) H locs ls hl hP hS hz) (fun q => kf (by first | exact q | simpa using q) H locs ls hl hP hS hz)
theorem e_if_ne {x : Int32} {off : Int} {tgt : Nat} (hX : Cx M X) (d : decode (mB M) pc = .ok (.ifCond .ne off, 3)) (ht : (pc : Int) + off = (tgt : Int)) (kt : ¬ x = 0 → Ew M X Z tgt L st h cells slots) (kf : ¬ (¬ x = 0) → Ew M X Z (pc + 3) L st h cells slots) : Ew M X Z pc L (.int x :: st) h cells slots := by
  obtain ⟨p, l, e, R, s, m, args, below, meth, c, dC, dI, dA, b⟩ := X
  obtain ⟨hx, hb, hr, hml, hown, hts, hlk, hnm, hR, hK, hbs⟩ := hX
  intro H locs ls hl hP hS hz
  exact lv_if_ne hx hb d ht (fun q => kt (by first | exact q | simpa using q) H locs ls hl hP hS hz) (fun q => kf (by first | exact q | simpa using q) H locs ls hl hP hS hz)
theorem e_icmp_ne {x y : Int32} {off : Int} {tgt : Nat} (hX : Cx M X) (d : decode (mB M) pc = .ok (.if_icmp .ne off, 3)) (ht : (pc : Int) + off = (tgt : Int)) (kt : ¬ x = y → Ew M X Z tgt L st h cells slots) (kf : ¬ (¬ x = y) → Ew M X Z (pc + 3) L st h cells slots) : Ew M X Z pc L (.int y :: .int x :: st) h cells slots := by
  obtain ⟨p, l, e, R, s, m, args, below, meth, c, dC, dI, dA, b⟩ := X
  obtain ⟨hx, hb, hr, hml, hown, hts, hlk, hnm, hR, hK, hbs⟩ := hX
  intro H locs ls hl hP hS hz
  exact lv_icmp_ne hx hb d ht (fun q => kt (by first | exact q | simpa using q) H locs ls hl hP hS hz) (fun q => kf (by first | exact q | simpa using q) H locs ls hl hP hS hz)
theorem e_if_lt {x : Int32} {off : Int} {tgt : Nat} (hX : Cx M X) (d : decode (mB M) pc = .ok (.ifCond .lt off, 3)) (ht : (pc : Int) + off = (tgt : Int)) (kt : x < 0 → Ew M X Z tgt L st h cells slots) (kf : ¬ (x < 0) → Ew M X Z (pc + 3) L st h cells slots) : Ew M X Z pc L (.int x :: st) h cells slots := by
  obtain ⟨p, l, e, R, s, m, args, below, meth, c, dC, dI, dA, b⟩ := X
  obtain ⟨hx, hb, hr, hml, hown, hts, hlk, hnm, hR, hK, hbs⟩ := hX
  intro H locs ls hl hP hS hz
  exact lv_if_lt hx hb d ht (fun q => kt (by first | exact q | simpa using q) H locs ls hl hP hS hz) (fun q => kf (by first | exact q | simpa using q) H locs ls hl hP hS hz)
theorem e_icmp_lt {x y : Int32} {off : Int} {tgt : Nat} (hX : Cx M X) (d : decode (mB M) pc = .ok (.if_icmp .lt off, 3)) (ht : (pc : Int) + off = (tgt : Int)) (kt : x < y → Ew M X Z tgt L st h cells slots) (kf : ¬ (x < y) → Ew M X Z (pc + 3) L st h cells slots) : Ew M X Z pc L (.int y :: .int x :: st) h cells slots := by
  obtain ⟨p, l, e, R, s, m, args, below, meth, c, dC, dI, dA, b⟩ := X
  obtain ⟨hx, hb, hr, hml, hown, hts, hlk, hnm, hR, hK, hbs⟩ := hX
  intro H locs ls hl hP hS hz
  exact lv_icmp_lt hx hb d ht (fun q => kt (by first | exact q | simpa using q) H locs ls hl hP hS hz) (fun q => kf (by first | exact q | simpa using q) H locs ls hl hP hS hz)
theorem e_if_ge {x : Int32} {off : Int} {tgt : Nat} (hX : Cx M X) (d : decode (mB M) pc = .ok (.ifCond .ge off, 3)) (ht : (pc : Int) + off = (tgt : Int)) (kt : 0 ≤ x → Ew M X Z tgt L st h cells slots) (kf : ¬ (0 ≤ x) → Ew M X Z (pc + 3) L st h cells slots) : Ew M X Z pc L (.int x :: st) h cells slots := by
  obtain ⟨p, l, e, R, s, m, args, below, meth, c, dC, dI, dA, b⟩ := X
  obtain ⟨hx, hb, hr, hml, hown, hts, hlk, hnm, hR, hK, hbs⟩ := hX
  intro H locs ls hl hP hS hz
  exact lv_if_ge hx hb d ht (fun q => kt (by first | exact q | simpa using q) H locs ls hl hP hS hz) (fun q => kf (by first | exact q | simpa using q) H locs ls hl hP hS hz)
theorem e_icmp_ge {x y : Int32} {off : Int} {tgt : Nat} (hX : Cx M X) (d : decode (mB M) pc = .ok (.if_icmp .ge off, 3)) (ht : (pc : Int) + off = (tgt : Int)) (kt : y ≤ x → Ew M X Z tgt L st h cells slots) (kf : ¬ (y ≤ x) → Ew M X Z (pc + 3) L st h cells slots) : Ew M X Z pc L (.int y :: .int x :: st) h cells slots := by
  obtain ⟨p, l, e, R, s, m, args, below, meth, c, dC, dI, dA, b⟩ := X
  obtain ⟨hx, hb, hr, hml, hown, hts, hlk, hnm, hR, hK, hbs⟩ := hX
  intro H locs ls hl hP hS hz
  exact lv_icmp_ge hx hb d ht (fun q => kt (by first | exact q | simpa using q) H locs ls hl hP hS hz) (fun q => kf (by first | exact q | simpa using q) H locs ls hl hP hS hz)
theorem e_if_gt {x : Int32} {off : Int} {tgt : Nat} (hX : Cx M X) (d : decode (mB M) pc = .ok (.ifCond .gt off, 3)) (ht : (pc : Int) + off = (tgt : Int)) (kt : 0 < x → Ew M X Z tgt L st h cells slots) (kf : ¬ (0 < x) → Ew M X Z (pc + 3) L st h cells slots) : Ew M X Z pc L (.int x :: st) h cells slots := by
  obtain ⟨p, l, e, R, s, m, args, below, meth, c, dC, dI, dA, b⟩ := X
  obtain ⟨hx, hb, hr, hml, hown, hts, hlk, hnm, hR, hK, hbs⟩ := hX
  intro H locs ls hl hP hS hz
  exact lv_if_gt hx hb d ht (fun q => kt (by first | exact q | simpa using q) H locs ls hl hP hS hz) (fun q => kf (by first | exact q | simpa using q) H locs ls hl hP hS hz)
theorem e_icmp_gt {x y : Int32} {off : Int} {tgt : Nat} (hX : Cx M X) (d : decode (mB M) pc = .ok (.if_icmp .gt off, 3)) (ht : (pc : Int) + off = (tgt : Int)) (kt : y < x → Ew M X Z tgt L st h cells slots) (kf : ¬ (y < x) → Ew M X Z (pc + 3) L st h cells slots) : Ew M X Z pc L (.int y :: .int x :: st) h cells slots := by
  obtain ⟨p, l, e, R, s, m, args, below, meth, c, dC, dI, dA, b⟩ := X
  obtain ⟨hx, hb, hr, hml, hown, hts, hlk, hnm, hR, hK, hbs⟩ := hX
  intro H locs ls hl hP hS hz
  exact lv_icmp_gt hx hb d ht (fun q => kt (by first | exact q | simpa using q) H locs ls hl hP hS hz) (fun q => kf (by first | exact q | simpa using q) H locs ls hl hP hS hz)
theorem e_if_le {x : Int32} {off : Int} {tgt : Nat} (hX : Cx M X) (d : decode (mB M) pc = .ok (.ifCond .le off, 3)) (ht : (pc : Int) + off = (tgt : Int)) (kt : x ≤ 0 → Ew M X Z tgt L st h cells slots) (kf : ¬ (x ≤ 0) → Ew M X Z (pc + 3) L st h cells slots) : Ew M X Z pc L (.int x :: st) h cells slots := by
  obtain ⟨p, l, e, R, s, m, args, below, meth, c, dC, dI, dA, b⟩ := X
  obtain ⟨hx, hb, hr, hml, hown, hts, hlk, hnm, hR, hK, hbs⟩ := hX
  intro H locs ls hl hP hS hz
  exact lv_if_le hx hb d ht (fun q => kt (by first | exact q | simpa using q) H locs ls hl hP hS hz) (fun q => kf (by first | exact q | simpa using q) H locs ls hl hP hS hz)
theorem e_icmp_le {x y : Int32} {off : Int} {tgt : Nat} (hX : Cx M X) (d : decode (mB M) pc = .ok (.if_icmp .le off, 3)) (ht : (pc : Int) + off = (tgt : Int)) (kt : x ≤ y → Ew M X Z tgt L st h cells slots) (kf : ¬ (x ≤ y) → Ew M X Z (pc + 3) L st h cells slots) : Ew M X Z pc L (.int y :: .int x :: st) h cells slots := by
  obtain ⟨p, l, e, R, s, m, args, below, meth, c, dC, dI, dA, b⟩ := X
  obtain ⟨hx, hb, hr, hml, hown, hts, hlk, hnm, hR, hK, hbs⟩ := hX
  intro H locs ls hl hP hS hz
  exact lv_icmp_le hx hb d ht (fun q => kt (by first | exact q | simpa using q) H locs ls hl hP hS hz) (fun q => kf (by first | exact q | simpa using q) H locs ls hl hP hS hz)
theorem e_goto {off : Int} {tgt : Nat} (hX : Cx M X) (d : decode (mB M) pc = .ok (.goto off, 3)) (ht : (pc : Int) + off = (tgt : Int)) (k : Ew M X Z tgt L st h cells slots) : Ew M X Z pc L st h cells slots := by
  obtain ⟨p, l, e, R, s, m, args, below, meth, c, dC, dI, dA, b⟩ := X
  obtain ⟨hx, hb, hr, hml, hown, hts, hlk, hnm, hR, hK, hbs⟩ := hX
  intro H locs ls hl hP hS hz
  exact lv_goto hx hb d ht (k H locs ls hl hP hS hz)
theorem e_tableOut {dflt lo hi : Int} {offs : Array Int} {len : Nat} {x : Int32} {tgt : Nat} (hX : Cx M X) (d : decode (mB M) pc = .ok (.tableswitch dflt lo hi offs, len)) (h0 : x.toInt < lo ∨ hi < x.toInt) (ht : (pc : Int) + dflt = (tgt : Int)) (k : Ew M X Z tgt L st h cells slots) : Ew M X Z pc L (.int x :: st) h cells slots := by
  obtain ⟨p, l, e, R, s, m, args, below, meth, c, dC, dI, dA, b⟩ := X
  obtain ⟨hx, hb, hr, hml, hown, hts, hlk, hnm, hR, hK, hbs⟩ := hX
  intro H locs ls hl hP hS hz
  exact lv_tableOut hx hb d h0 ht (k H locs ls hl hP hS hz)
theorem e_tableIn {dflt lo hi : Int} {offs : Array Int} {len : Nat} {x : Int32} {off : Int} {tgt : Nat} (hX : Cx M X) (d : decode (mB M) pc = .ok (.tableswitch dflt lo hi offs, len)) (h1 : ¬ x.toInt < lo) (h2 : ¬ hi < x.toInt) (ho : offs[(x.toInt - lo).toNat]? = some off) (ht : (pc : Int) + off = (tgt : Int)) (k : Ew M X Z tgt L st h cells slots) : Ew M X Z pc L (.int x :: st) h cells slots := by
  obtain ⟨p, l, e, R, s, m, args, below, meth, c, dC, dI, dA, b⟩ := X
  obtain ⟨hx, hb, hr, hml, hown, hts, hlk, hnm, hR, hK, hbs⟩ := hX
  intro H locs ls hl hP hS hz
  exact lv_tableIn hx hb d h1 h2 ho ht (k H locs ls hl hP hS hz)
theorem e_lookup {dflt : Int} {ps : Array (Int × Int)} {len : Nat} {x : Int32} {off : Int} {tgt : Nat} (hX : Cx M X) (d : decode (mB M) pc = .ok (.lookupswitch dflt ps, len)) (hp : (ps.toList.zip (ps.toList.drop 1)).all (fun (a, next) => a.1 < next.1) = true) (ho : Op.lookupswitch.offset ps.toList dflt x.toInt = off) (ht : (pc : Int) + off = (tgt : Int)) (k : Ew M X Z tgt L st h cells slots) : Ew M X Z pc L (.int x :: st) h cells slots := by
  obtain ⟨p, l, e, R, s, m, args, below, meth, c, dC, dI, dA, b⟩ := X
  obtain ⟨hx, hb, hr, hml, hown, hts, hlk, hnm, hR, hK, hbs⟩ := hX
  intro H locs ls hl hP hS hz
  exact lv_lookup hx hb d hp ho ht (k H locs ls hl hP hS hz)
/-- fewer values of the frame are known -/
theorem e_less {L2 : List (Option Value)} (hn : L2.length = L.length) (hl0 : ∀ (i : Nat) (v : Value), L2[i]? = some (some v) → L[i]? = some (some v)) (k : Ew M X Z pc L2 st h cells slots) : Ew M X Z pc L st h cells slots := by
  obtain ⟨p, l, e, R, s, m, args, below, meth, c, dC, dI, dA, b⟩ := X
  intro H locs ls hl hP hS hz
  exact k H locs ls (hl.less hn hl0) hP hS hz
theorem e_get {idx ci kk o0 : Nat} {ty : FieldType} {fin : Bool} {fs : List Value} {v : Value} (hX : Cx M X) (d : decode (mB M) pc = .ok (.getfield idx, 3)) (lk : Fl (mY M).cls idx ci kk ty fin) (ho : h[o0]? = some (.inr (ci, fs))) (hv : fs[kk]? = some v) (k : Ew M X Z (pc + 3) L (v :: st) h cells slots) : Ew M X Z pc L (.ref o0 :: st) h cells slots := by
  obtain ⟨p, l, e, R, s, m, args, below, meth, c, dC, dI, dA, b⟩ := X
  obtain ⟨hx, hb, hr, hml, hown, hts, hlk, hnm, hR, hK, hbs⟩ := hX
  intro H locs ls hl hP hS hz
  obtain ⟨C, T, N, tf, hci, hkN, hlk2, hty, hfin, hC⟩ := lk
  exact va_get (D := (dC, dI)) (v := rv b v) hx hb hts hci.2.1 hown hK.1 hP o0 (rz_at ho) hci.1 kk hkN (hts _ hlk2) (fun _ h9 => h9) (by simp [hv]) d (k H locs ls hl hP hS hz)
theorem e_iald {a0 n : Nat} {f : Nat → Int32} {i : Int32} (hX : Cx M X) (d : decode (mB M) pc = .ok (.iaload, 1)) (ha : h[a0]? = some (.inl (0, n, .inl f))) (hin : vp_in i n) (k : Ew M X Z (pc + 1) L (.int (f i.toNatClampNeg) :: st) h cells slots) : Ew M X Z pc L (.int i :: .ref a0 :: st) h cells slots := by
  obtain ⟨p, l, e, R, s, m, args, below, meth, c, dC, dI, dA, b⟩ := X
  obtain ⟨hx, hb, hr, hml, hown, hts, hlk, hnm, hR, hK, hbs⟩ := hX
  intro H locs ls hl hP hS hz
  exact va_iald (D := (dC, dI)) hx hb hK.1 hP a0 0 (rz_at ha) rfl hin d (k H locs ls hl hP hS hz)
theorem e_zald {a0 n : Nat} {f : Nat → Int32} {i : Int32} (hX : Cx M X) (d : decode (mB M) pc = .ok (.baload, 1)) (ha : h[a0]? = some (.inl (1, n, .inl f))) (hin : vp_in i n) (k : Ew M X Z (pc + 1) L (.int (f i.toNatClampNeg) :: st) h cells slots) : Ew M X Z pc L (.int i :: .ref a0 :: st) h cells slots := by
  obtain ⟨p, l, e, R, s, m, args, below, meth, c, dC, dI, dA, b⟩ := X
  obtain ⟨hx, hb, hr, hml, hown, hts, hlk, hnm, hR, hK, hbs⟩ := hX
  intro H locs ls hl hP hS hz
  exact va_zald (D := (dC, dI)) hx hb hK.1 hP a0 1 (rz_at ha) rfl hin d (k H locs ls hl hP hS hz)
theorem e_lald {a0 n : Nat} {f : Nat → Int64} {i : Int32} (hX : Cx M X) (d : decode (mB M) pc = .ok (.laload, 1)) (ha : h[a0]? = some (.inl (2, n, .inr (.inl f)))) (hin : vp_in i n) (k : Ew M X Z (pc + 1) L (.long (f i.toNatClampNeg) :: st) h cells slots) : Ew M X Z pc L (.int i :: .ref a0 :: st) h cells slots := by
  obtain ⟨p, l, e, R, s, m, args, below, meth, c, dC, dI, dA, b⟩ := X
  obtain ⟨hx, hb, hr, hml, hown, hts, hlk, hnm, hR, hK, hbs⟩ := hX
  intro H locs ls hl hP hS hz
  exact va_lald (D := (dC, dI)) hx hb hK.1 hP a0 2 (rz_at ha) rfl hin d (k H locs ls hl hP hS hz)
theorem e_alen {a0 t0 : Nat} {x : vp_A} {v : Int32} (hX : Cx M X) (d : decode (mB M) pc = .ok (.arraylength, 1)) (ha : h[a0]? = some (.inl (t0, x))) (ht : t0 < 3) (hv : Int32.ofNat x.1 = v) (k : Ew M X Z (pc + 1) L (.int v :: st) h cells slots) : Ew M X Z pc L (.ref a0 :: st) h cells slots := by
  obtain ⟨p, l, e, R, s, m, args, below, meth, c, dC, dI, dA, b⟩ := X
  obtain ⟨hx, hb, hr, hml, hown, hts, hlk, hnm, hR, hK, hbs⟩ := hX
  intro H locs ls hl hP hS hz
  match t0, ht, ha with
  | 0, _, ha => exact va_alen (D := (dC, dI)) hx hb hK.1 hP a0 0 (rz_at ha) rfl hv d (k H locs ls hl hP hS hz)
  | 1, _, ha => exact va_alen (D := (dC, dI)) hx hb hK.1 hP a0 1 (rz_at ha) rfl hv d (k H locs ls hl hP hS hz)
  | 2, _, ha => exact va_alen (D := (dC, dI)) hx hb hK.1 hP a0 2 (rz_at ha) rfl hv d (k H locs ls hl hP hS hz)
theorem e_put {idx ci kk o0 : Nat} {ty : FieldType} {fs : List Value} {v : Value} (hX : Cx M X) (d : decode (mB M) pc = .ok (.putfield idx, 3)) (lk : Fl (mY M).cls idx ci kk ty false) (ho : h[o0]? = some (.inr (ci, fs))) (hl0 : kk < fs.length) (hn : narrow ty v = v) (hf : fits ty v = true) (k : Ew M X Z (pc + 3) L st (h.set o0 (.inr (ci, fs.set kk v))) cells slots) : Ew M X Z pc L (v :: .ref o0 :: st) h cells slots := by
  obtain ⟨p, l, e, R, s, m, args, below, meth, c, dC, dI, dA, b⟩ := X
  obtain ⟨hx, hb, hr, hml, hown, hts, hlk, hnm, hR, hK, hbs⟩ := hX
  intro H locs ls hl hP hS hz
  obtain ⟨C, T, N, tf, hci, hkN, hlk2, hty, hfin, hC⟩ := lk
  refine va_put (D := (dC, dI)) (v := rv b v) (ty := ty) hx hb hts hci.2.1 tf hci.2.2.1 hci.2.2.2.1 hown hK.1 hP (rz_D b dA h) hS o0 (rz_at ho) hci.1 kk hkN (hts _ hlk2) (fun _ h9 => h9) hfin (by rw [hci.2.2.1 kk hkN, hty]) (rv_narrow hn) (rv_fits hf) (by rw [List.length_map]; exact hl0) d (fun H1 locs1 hP1 _ hS1 => ?_)
  rw [← List.map_set, show (Sum.inr (ci, (fs.set kk v).map (rv b)) : va_E) = rc b dA (.inr (ci, fs.set kk v)) from rfl, rz_set] at hP1
  exact k H1 locs1 ls hl hP1 hS1 (by rw [List.length_set]; exact hz)
theorem e_putF {idx ci kk o0 : Nat} {ty : FieldType} {fs : List Value} {v : Value} (hX : Cx M X) (d : decode (mB M) pc = .ok (.putfield idx, 3)) (lk : Fl (mY M).cls idx ci kk ty true) (hi0 : (mY M).name = "<init>") (hcc : ∀ C T N, vwCl[ci]? = some (C, T, N) → C = (mY M).cls) (ho : h[o0]? = some (.inr (ci, fs))) (hl0 : kk < fs.length) (hn : narrow ty v = v) (hf : fits ty v = true) (k : Ew M X Z (pc + 3) L st (h.set o0 (.inr (ci, fs.set kk v))) cells slots) : Ew M X Z pc L (v :: .ref o0 :: st) h cells slots := by
  obtain ⟨p, l, e, R, s, m, args, below, meth, c, dC, dI, dA, b⟩ := X
  obtain ⟨hx, hb, hr, hml, hown, hts, hlk, hnm, hR, hK, hbs⟩ := hX
  intro H locs ls hl hP hS hz
  obtain ⟨C, T, N, tf, hci, hkN, hlk2, hty, hfin, hC⟩ := lk
  refine va_putF (D := (dC, dI)) (v := rv b v) (ty := ty) hx hb hts hci.2.1 tf hci.2.2.1 hci.2.2.2.1 hown hK.1 hP (rz_D b dA h) hS o0 (rz_at ho) hci.1 kk hkN (hts _ hlk2) (fun _ h9 => h9) hfin (hnm.trans hi0) (hC.trans (hcc C T N hci.1)) (by rw [hci.2.2.1 kk hkN, hty]) (rv_narrow hn) (rv_fits hf) (by rw [List.length_map]; exact hl0) d (fun H1 locs1 hP1 _ hS1 => ?_)
  rw [← List.map_set, show (Sum.inr (ci, (fs.set kk v).map (rv b)) : va_E) = rc b dA (.inr (ci, fs.set kk v)) from rfl, rz_set] at hP1
  exact k H1 locs1 ls hl hP1 hS1 (by rw [List.length_set]; exact hz)
theorem e_iast {a0 n : Nat} {f : Nat → Int32} {i : Int32} {x : Int32} (hX : Cx M X) (d : decode (mB M) pc = .ok (.iastore, 1)) (ha : h[a0]? = some (.inl (0, n, .inl f))) (hin : vp_in i n) (k : Ew M X Z (pc + 1) L st (h.set a0 (.inl (0, n, .inl (upd f i.toNatClampNeg x)))) cells slots) : Ew M X Z pc L (.int x :: .int i :: .ref a0 :: st) h cells slots := by
  obtain ⟨p, l, e, R, s, m, args, below, meth, c, dC, dI, dA, b⟩ := X
  obtain ⟨hx, hb, hr, hml, hown, hts, hlk, hnm, hR, hK, hbs⟩ := hX
  intro H locs ls hl hP hS hz
  refine va_iast (D := (dC, dI)) hx hb hK.1 hP (rz_D b dA h) hS a0 0 (rz_at ha) rfl hin d (fun H1 locs1 hP1 _ hS1 => ?_)
  rw [show (Sum.inl (dA 0, n, .inl (upd f i.toNatClampNeg x)) : va_E) = rc b dA (.inl (0, n, .inl (upd f i.toNatClampNeg x))) from rfl, rz_set] at hP1
  exact k H1 locs1 ls hl hP1 hS1 (by rw [List.length_set]; exact hz)
theorem e_zast {a0 n : Nat} {f : Nat → Int32} {i : Int32} {x : Int32} (hX : Cx M X) (d : decode (mB M) pc = .ok (.bastore, 1)) (ha : h[a0]? = some (.inl (1, n, .inl f))) (hin : vp_in i n) (k : Ew M X Z (pc + 1) L st (h.set a0 (.inl (1, n, .inl (upd f i.toNatClampNeg (vp_nar .boolean x))))) cells slots) : Ew M X Z pc L (.int x :: .int i :: .ref a0 :: st) h cells slots := by
  obtain ⟨p, l, e, R, s, m, args, below, meth, c, dC, dI, dA, b⟩ := X
  obtain ⟨hx, hb, hr, hml, hown, hts, hlk, hnm, hR, hK, hbs⟩ := hX
  intro H locs ls hl hP hS hz
  refine va_zast (D := (dC, dI)) hx hb hK.1 hP (rz_D b dA h) hS a0 1 (rz_at ha) rfl hin d (fun H1 locs1 hP1 _ hS1 => ?_)
  rw [show (Sum.inl (dA 1, n, .inl (upd f i.toNatClampNeg (vp_nar .boolean x))) : va_E) = rc b dA (.inl (1, n, .inl (upd f i.toNatClampNeg (vp_nar .boolean x)))) from rfl, rz_set] at hP1
  exact k H1 locs1 ls hl hP1 hS1 (by rw [List.length_set]; exact hz)
theorem e_last {a0 n : Nat} {f : Nat → Int64} {i : Int32} {x : Int64} (hX : Cx M X) (d : decode (mB M) pc = .ok (.lastore, 1)) (ha : h[a0]? = some (.inl (2, n, .inr (.inl f)))) (hin : vp_in i n) (k : Ew M X Z (pc + 1) L st (h.set a0 (.inl (2, n, .inr (.inl (vp_updL f i.toNatClampNeg x))))) cells slots) : Ew M X Z pc L (.long x :: .int i :: .ref a0 :: st) h cells slots := by
  obtain ⟨p, l, e, R, s, m, args, below, meth, c, dC, dI, dA, b⟩ := X
  obtain ⟨hx, hb, hr, hml, hown, hts, hlk, hnm, hR, hK, hbs⟩ := hX
  intro H locs ls hl hP hS hz
  refine va_last (D := (dC, dI)) hx hb hK.1 hP (rz_D b dA h) hS a0 2 (rz_at ha) rfl hin d (fun H1 locs1 hP1 _ hS1 => ?_)
  rw [show (Sum.inl (dA 2, n, .inr (.inl (vp_updL f i.toNatClampNeg x))) : va_E) = rc b dA (.inl (2, n, .inr (.inl (vp_updL f i.toNatClampNeg x)))) from rfl, rz_set] at hP1
  exact k H1 locs1 ls hl hP1 hS1 (by rw [List.length_set]; exact hz)
theorem e_copyi {idx a0 a1 n0 n1 : Nat} {f g : Nat → Int32} {sp dp n : Int32} (hX : Cx M X) (d : decode (mB M) pc = .ok (.invokestatic idx, 3)) (lk : Cond.methodLink (mY M).cls idx arraycopyName ∈ tb) (ha0 : h[a0]? = some (.inl (0, n0, .inl f))) (ha1 : h[a1]? = some (.inl (0, n1, .inl g))) (h1 : ¬ sp < 0) (h2 : ¬ dp < 0) (h3 : ¬ n < 0) (h4 : sp.toNatClampNeg + n.toNatClampNeg ≤ n0) (h5 : dp.toNatClampNeg + n.toNatClampNeg ≤ n1) (hfr : 1 ≤ mF M) (hlo : (st.map fun v => v.category).sum + (nativeFrameWords "java/lang/System" "arraycopy" 5 + 11) ≤ mO M) (hLl : L.length = mL M) (k : Ew M X Z (pc + 3) L st (h.set a1 (.inl (0, n1, .inl (va_cpy f g sp.toNatClampNeg dp.toNatClampNeg n.toNatClampNeg)))) cells slots) : Ew M X Z pc L (.int n :: .int dp :: .ref a1 :: .int sp :: .ref a0 :: st) h cells slots := by
  obtain ⟨p, l, e, R, s, m, args, below, meth, c, dC, dI, dA, b⟩ := X
  obtain ⟨hx, hb, hr, hml, hown, hts, hlk, hnm, hR, hK, hbs⟩ := hX
  intro H locs ls hl hP hS hz
  refine va_copyi (D := (dC, dI)) (ty := .int) hx hb (by rw [hml, hl.1, hLl]) hown (hts _ lk) (hts _ ar_nat) (hts _ ar_stat) (hts _ ar_ini) hK.1 hP (rz_D b dA h) hS a0 a1 0 0 (rz_at ha0) (rz_at ha1) rfl rfl rfl h1 h2 h3 h4 h5 (fun i _ => rfl) (by rw [hR]; exact hfr) (by rw [hR, rv_cats]; exact hlo) d (fun H1 locs1 hP1 _ hS1 => ?_)
  rw [show (Sum.inl (dA 0, n1, .inl (va_cpy f g sp.toNatClampNeg dp.toNatClampNeg n.toNatClampNeg)) : va_E) = rc b dA (.inl (0, n1, .inl (va_cpy f g sp.toNatClampNeg dp.toNatClampNeg n.toNatClampNeg))) from rfl, rz_set] at hP1
  exact k H1 locs1 ls hl hP1 hS1 (by rw [List.length_set]; exact hz)
theorem e_new {idx ci N : Nat} {C : String} {T : u_T} {tf : Nat → FieldType} {fs : List Value} (hX : Cx M X) (d : decode (mB M) pc = .ok (.new idx, 3)) (hci : CiOk ci C T N tf) (lk : Cond.classLink (mY M).cls idx C ∈ tb) (hfs : ∀ j, j < N → defaultValue (tf j) = vp_V fs j) (hrf : ∀ b : Nat, fs.map (rv b) = fs) (hc1 : cells + 1 ≤ mC M) (hs1 : slots + N ≤ mS M) (k : Ew M X Z (pc + 3) L (.ref h.length :: st) (h ++ [.inr (ci, fs)]) (cells + 1) (slots + N)) : Ew M X Z pc L st h cells slots := by
  obtain ⟨p, l, e, R, s, m, args, below, meth, c, dC, dI, dA, b⟩ := X
  obtain ⟨hx, hb, hr, hml, hown, hts, hlk, hnm, hR, hK, hbs⟩ := hX
  intro H locs ls hl hP hS hz
  intro T0 hT0 X0
  have hsz := sz_of X0 hT0 hP hbs hz
  have key : W p l e R s m args below meth c H locs cells slots Z (F0 m pc ls (st.map (rv b))) := by
    have hKn := hK.1.1 ci _ hci.1
    refine W.newcK hx hb hown (hts _ lk) (hts _ hci.2.2.2.2.1) (hts _ hci.2.2.2.2.2) rfl d (by rw [hR]; exact hc1) (by rw [hR]; exact hs1) hKn.2.1 hsz fun H1 kC hkC e1 z1 o1 => ?_
    have hk : ∀ (k : Nat) (x : Nat × va_E), (rz b dA h)[k]? = some x → H1[x.1]? = H[x.1]? := fun k x hx0 => o1 x.1 (by have := (hP k x hx0).lt; omega)
    refine k H1 locs ls hl ?_ ⟨by have := hS.1; omega, fun x h1 h2 => (o1 x (by have := hS.1; omega)).trans (hS.2.1 x h1 h2), hS.2.2⟩ (by rw [List.length_append, List.length_singleton]; omega)
    rw [← rz_push]
    refine (hP.kept hk).app (fun k x hx0 => ?_)
    have hz0 : k < 1 := (List.getElem?_eq_some_iff.mp hx0).1
    rw [show k = 0 by omega] at hx0
    cases hx0
    refine ⟨_, hci.1, ?_⟩
    show t_OB _ _ _ _ _ (vp_V (fs.map (rv b)))
    rw [hrf b]
    exact (u_born tf hts hci.2.1 hKn hkC e1 hci.2.2.1).to hfs
  exact key T0 hT0 X0
theorem e_newi {n : Int32} {N : Nat} (hX : Cx M X) (d : decode (mB M) pc = .ok (.newarray .int, 2)) (hn : ¬ n < 0) (hN : n.toNatClampNeg = N) (hby : N * componentBytes .int ≤ 536870912) (hc1 : cells + 1 ≤ mC M) (hs1 : slots + N ≤ mS M) (k : Ew M X Z (pc + 2) L (.ref h.length :: st) (h ++ [.inl (0, N, .inl (fun _ => 0))]) (cells + 1) (slots + N)) : Ew M X Z pc L (.int n :: st) h cells slots := by
  obtain ⟨p, l, e, R, s, m, args, below, meth, c, dC, dI, dA, b⟩ := X
  obtain ⟨hx, hb, hr, hml, hown, hts, hlk, hnm, hR, hK, hbs⟩ := hX
  intro H locs ls hl hP hS hz
  intro T0 hT0 X0
  have hsz := sz_of X0 hT0 hP hbs hz
  have key : W p l e R s m args below meth c H locs cells slots Z (F0 m pc ls (.int n :: st.map (rv b))) := by
    refine va_newaK hx hb (hts _ ar_0) rfl d rfl hn hN hby (by rw [hR]; exact hc1) (by rw [hR]; exact hs1) hsz fun H1 cA e1 z1 o1 hAr hNm => ?_
    have hcA : cA = dA 0 := by
      have h9 := (hK.1.2 0 _ rfl).2
      exact Option.some.inj (hNm.symm.trans h9)
    subst hcA
    have hk : ∀ (k : Nat) (x : Nat × va_E), (rz b dA h)[k]? = some x → H1[x.1]? = H[x.1]? := fun k x hx0 => o1 x.1 (by have := (hP k x hx0).lt; omega)
    refine k H1 locs ls hl ?_ ⟨by have := hS.1; omega, fun x h1 h2 => (o1 x (by have := hS.1; omega)).trans (hS.2.1 x h1 h2), hS.2.2⟩ (by rw [List.length_append, List.length_singleton]; omega)
    rw [← rz_push]
    refine (hP.kept hk).app (fun k x hx0 => ?_)
    have hz0 : k < 1 := (List.getElem?_eq_some_iff.mp hx0).1
    rw [show k = 0 by omega] at hx0
    cases hx0
    exact e1
  exact key T0 hT0 X0
theorem e_newz {n : Int32} {N : Nat} (hX : Cx M X) (d : decode (mB M) pc = .ok (.newarray .boolean, 2)) (hn : ¬ n < 0) (hN : n.toNatClampNeg = N) (hby : N * componentBytes .boolean ≤ 536870912) (hc1 : cells + 1 ≤ mC M) (hs1 : slots + N ≤ mS M) (k : Ew M X Z (pc + 2) L (.ref h.length :: st) (h ++ [.inl (1, N, .inl (fun _ => 0))]) (cells + 1) (slots + N)) : Ew M X Z pc L (.int n :: st) h cells slots := by
  obtain ⟨p, l, e, R, s, m, args, below, meth, c, dC, dI, dA, b⟩ := X
  obtain ⟨hx, hb, hr, hml, hown, hts, hlk, hnm, hR, hK, hbs⟩ := hX
  intro H locs ls hl hP hS hz
  intro T0 hT0 X0
  have hsz := sz_of X0 hT0 hP hbs hz
  have key : W p l e R s m args below meth c H locs cells slots Z (F0 m pc ls (.int n :: st.map (rv b))) := by
    refine va_newaK hx hb (hts _ ar_1) rfl d rfl hn hN hby (by rw [hR]; exact hc1) (by rw [hR]; exact hs1) hsz fun H1 cA e1 z1 o1 hAr hNm => ?_
    have hcA : cA = dA 1 := by
      have h9 := (hK.1.2 1 _ rfl).2
      exact Option.some.inj (hNm.symm.trans h9)
    subst hcA
    have hk : ∀ (k : Nat) (x : Nat × va_E), (rz b dA h)[k]? = some x → H1[x.1]? = H[x.1]? := fun k x hx0 => o1 x.1 (by have := (hP k x hx0).lt; omega)
    refine k H1 locs ls hl ?_ ⟨by have := hS.1; omega, fun x h1 h2 => (o1 x (by have := hS.1; omega)).trans (hS.2.1 x h1 h2), hS.2.2⟩ (by rw [List.length_append, List.length_singleton]; omega)
    rw [← rz_push]
    refine (hP.kept hk).app (fun k x hx0 => ?_)
    have hz0 : k < 1 := (List.getElem?_eq_some_iff.mp hx0).1
    rw [show k = 0 by omega] at hx0
    cases hx0
    exact e1
  exact key T0 hT0 X0
theorem e_newl {n : Int32} {N : Nat} (hX : Cx M X) (d : decode (mB M) pc = .ok (.newarray .long, 2)) (hn : ¬ n < 0) (hN : n.toNatClampNeg = N) (hby : N * componentBytes .long ≤ 536870912) (hc1 : cells + 1 ≤ mC M) (hs1 : slots + N ≤ mS M) (k : Ew M X Z (pc + 2) L (.ref h.length :: st) (h ++ [.inl (2, N, .inr (.inl (fun _ => 0)))]) (cells + 1) (slots + N)) : Ew M X Z pc L (.int n :: st) h cells slots := by
  obtain ⟨p, l, e, R, s, m, args, below, meth, c, dC, dI, dA, b⟩ := X
  obtain ⟨hx, hb, hr, hml, hown, hts, hlk, hnm, hR, hK, hbs⟩ := hX
  intro H locs ls hl hP hS hz
  intro T0 hT0 X0
  have hsz := sz_of X0 hT0 hP hbs hz
  have key : W p l e R s m args below meth c H locs cells slots Z (F0 m pc ls (.int n :: st.map (rv b))) := by
    refine va_newaK hx hb (hts _ ar_2) rfl d rfl hn hN hby (by rw [hR]; exact hc1) (by rw [hR]; exact hs1) hsz fun H1 cA e1 z1 o1 hAr hNm => ?_
    have hcA : cA = dA 2 := by
      have h9 := (hK.1.2 2 _ rfl).2
      exact Option.some.inj (hNm.symm.trans h9)
    subst hcA
    have hk : ∀ (k : Nat) (x : Nat × va_E), (rz b dA h)[k]? = some x → H1[x.1]? = H[x.1]? := fun k x hx0 => o1 x.1 (by have := (hP k x hx0).lt; omega)
    refine k H1 locs ls hl ?_ ⟨by have := hS.1; omega, fun x h1 h2 => (o1 x (by have := hS.1; omega)).trans (hS.2.1 x h1 h2), hS.2.2⟩ (by rw [List.length_append, List.length_singleton]; omega)
    rw [← rz_push]
    refine (hP.kept hk).app (fun k x hx0 => ?_)
    have hz0 : k < 1 := (List.getElem?_eq_some_iff.mp hx0).1
    rw [show k = 0 by omega] at hx0
    cases hx0
    exact e1
  exact key T0 hT0 X0
theorem e_iret {v : Int32} {n0 : Nat} {Q : Option Value → List AC → Prop} (hX : Cx M X) (d : decode (mB M) pc = .ok (.ireturn, 1)) (hrt : mR M = some .int) (hc : cells = mC M) (hs : slots ≤ mS M) (hl0 : h.length = n0 + mC M) (q : Q (some (.int v)) h) : Ew M X (Zm M n0 Q X) pc L ([.int v]) h cells slots := by
  obtain ⟨p, l, e, R, s, m, args, below, meth, c, dC, dI, dA, b⟩ := X
  obtain ⟨hx, hb, hr, hml, hown, hts, hlk, hnm, hR, hK, hbs⟩ := hX
  intro H locs ls hl hP hS hz
  refine W.widen (k := mC M) (n := mS M) (by omega) hs ?_
  exact W.iret (v := v) hx hb (hr.trans hrt) (fun t ht hW => ⟨⟨_, h, rfl, ⟨q, hl0⟩, by rw [ht]; exact hP⟩, hS.F ht⟩) hS.2.2 d hlk
theorem e_zret {v : Int32} {n0 : Nat} {Q : Option Value → List AC → Prop} (hX : Cx M X) (d : decode (mB M) pc = .ok (.ireturn, 1)) (hrt : mR M = some .boolean) (hn : narrow .boolean (.int v) = .int v) (hc : cells = mC M) (hs : slots ≤ mS M) (hl0 : h.length = n0 + mC M) (q : Q (some (.int v)) h) : Ew M X (Zm M n0 Q X) pc L ([.int v]) h cells slots := by
  obtain ⟨p, l, e, R, s, m, args, below, meth, c, dC, dI, dA, b⟩ := X
  obtain ⟨hx, hb, hr, hml, hown, hts, hlk, hnm, hR, hK, hbs⟩ := hX
  intro H locs ls hl hP hS hz
  refine W.widen (k := mC M) (n := mS M) (by omega) hs ?_
  exact W.zret (v := v) hx hb (hr.trans hrt) hn (fun t ht hW => ⟨⟨_, h, rfl, ⟨q, hl0⟩, by rw [ht]; exact hP⟩, hS.F ht⟩) hS.2.2 d hlk
theorem e_lret {v : Int64} {n0 : Nat} {Q : Option Value → List AC → Prop} (hX : Cx M X) (d : decode (mB M) pc = .ok (.lreturn, 1)) (hrt : mR M = some .long) (hc : cells = mC M) (hs : slots ≤ mS M) (hl0 : h.length = n0 + mC M) (q : Q (some (.long v)) h) : Ew M X (Zm M n0 Q X) pc L ([.long v]) h cells slots := by
  obtain ⟨p, l, e, R, s, m, args, below, meth, c, dC, dI, dA, b⟩ := X
  obtain ⟨hx, hb, hr, hml, hown, hts, hlk, hnm, hR, hK, hbs⟩ := hX
  intro H locs ls hl hP hS hz
  refine W.widen (k := mC M) (n := mS M) (by omega) hs ?_
  exact W.lret (v := v) hx hb (hr.trans hrt) (fun t ht hW => ⟨⟨_, h, rfl, ⟨q, hl0⟩, by rw [ht]; exact hP⟩, hS.F ht⟩) hS.2.2 d hlk
theorem e_vret {n0 : Nat} {Q : Option Value → List AC → Prop} (hX : Cx M X) (d : decode (mB M) pc = .ok (.return_, 1)) (hrt : mR M = none) (hc : cells = mC M) (hs : slots ≤ mS M) (hl0 : h.length = n0 + mC M) (q : Q (none) h) : Ew M X (Zm M n0 Q X) pc L ([]) h cells slots := by
  obtain ⟨p, l, e, R, s, m, args, below, meth, c, dC, dI, dA, b⟩ := X
  obtain ⟨hx, hb, hr, hml, hown, hts, hlk, hnm, hR, hK, hbs⟩ := hX
  intro H locs ls hl hP hS hz
  refine W.widen (k := mC M) (n := mS M) (by omega) hs ?_
  exact W.vret hx hb (hr.trans hrt) (fun t ht hW => ⟨⟨_, h, rfl, ⟨q, hl0⟩, by rw [ht]; exact hP⟩, hS.F ht⟩) hS.2.2 d hlk
def ps (as st : List Value) : List Value := as.reverse ++ st
theorem ps_map (b : Nat) (as st : List Value) : (ps as st).map (rv b) = (as.map (rv b)).reverse ++ st.map (rv b) := by simp [ps]
theorem e_run {M2 : MI} {args2 : List Value} {Q2 : Option Value → List AC → Prop} (hX : Cx M X) (hE : Em M2 args2 h Q2)
    {rest : List Value} (hrun : ∀ (p : Program) (l : Launch) (e : Env) (R : Room) (s : State) (m : MethodId) (args : Array Value) (below : List Frame) (meth : Method) (c : Code) (dC : Nat → ClassId) (dI : Nat → Nat → Nat) (dA : Nat → ClassId) (b : Nat), X = (p, l, e, R, s, m, args, below, meth, c, dC, dI, dA, b) → ∀ (H : Heap) (locs : List Loc) (ls : Array Slot), LH b ls L → va_P (dC, dI) vwCl (rz b dA h) H → H.size = b + h.length → Met l (mY M2) (mW M2) (mRm M2) (PcE b dC dI dA args2 h) (QcE b dC dI dA (fun r h' => Q2 r h' ∧ h'.length = h.length + mC M2)) (mC M2) (mS M2) (fun q => b ≤ q) →
      va_Run p l e R s m args below meth c H locs cells slots (mC M2) (mS M2) (F0 m pc ls (st.map (rv b))) (rest.map (rv b)) (QcE b dC dI dA (fun r h' => Q2 r h' ∧ h'.length = h.length + mC M2) (args2.map (rv b)).toArray) (fun q => b ≤ q))
    (k : ∀ r h', Q2 r h' → Ew M X Z (pc + 3) L (r.toList ++ rest) h' (cells + mC M2) (slots + mS M2)) : Ew M X Z pc L st h cells slots := by
  obtain ⟨p, l, e, R, s, m, args, below, meth, c, dC, dI, dA, b⟩ := X
  obtain ⟨hx, hb, hr, hml, hown, hts, hlk, hnm, hR, hK, hbs⟩ := hX
  intro H locs ls hl hP hS hz
  intro T hT X0
  have hsz := sz_of X0 hT hP hbs hz
  obtain ⟨v, st₀, t, T', L', h0, X', hL', e1, e2, ⟨⟨r, h', hv, ⟨hq, hlen⟩, hPt⟩, hzz, hk⟩, go⟩ := hrun p l e R s m args below meth c dC dI dA b rfl H locs ls hl hP hsz (hE l dC dI dA b) T hT X0
  have hv' : v = r.map (rv b) := by cases hv; rfl
  subst hv'
  rw [h0] at hzz hk
  have hfin := k r h' hq T'.heap (locs ++ L') ls hl (by rw [e1]; exact hPt) ⟨Nat.le_trans hS.1 (by rw [e1]; exact hzz), fun q h1 h2 => by rw [e1, hk q (Nat.lt_of_lt_of_le h1 hS.1) h2]; exact hS.2.1 q h1 h2, fun q hq => by
      rcases List.mem_append.mp hq with h1 | h1
      · exact hS.2.2 q h1
      · exact hL' q h1⟩ (by rw [hlen]; omega) T' rfl X'
  obtain ⟨t2, a1, b1⟩ := hfin
  refine ⟨t2, go t2 ?_, b1⟩
  have e3 : ((r.toList ++ rest).map (rv b)) = (r.map (rv b)).toList ++ rest.map (rv b) := by cases r <;> simp
  rw [e3] at a1
  exact a1
theorem e_callV {M2 : MI} {as rest : List Value} {Q2 : Option Value → List AC → Prop} {idx n ci o0 : Nat} {fs : List Value} {C2 : String} {T2 : u_T} {N2 : Nat} (hX : Cx M X) (d : decode (mB M) pc = .ok (.invokevirtual idx, 3)) (hok : MkOk M2 n) (lk : LkV (mY M).cls idx M2) (hE : Em M2 (.ref o0 :: as) h Q2) (ho : h[o0]? = some (.inr (ci, fs))) (hcl : vwCl[ci]? = some (C2, T2, N2)) (hC2 : C2 = (mY M2).cls) (hn : as.length = n) (hfr : mF M2 + 1 ≤ mF M) (hlo : 8 + (mL M2 + 11) + mO M2 ≤ mO M) (hc1 : cells + mC M2 ≤ mC M) (hs1 : slots + mS M2 ≤ mS M) (hrest : (rest.map fun v => v.category).sum ≤ 8) (hLl : L.length = mL M)
    (k : ∀ r h', Q2 r h' → Ew M X Z (pc + 3) L (r.toList ++ rest) h' (cells + mC M2) (slots + mS M2)) : Ew M X Z pc L (ps as (.ref o0 :: rest)) h cells slots := by
  refine e_run hX hE (fun p l e R s m args below meth c dC dI dA b eX H locs ls hl hP hsz hM => ?_) k
  subst eX
  obtain ⟨hx, hb, hr, hml, hown, hts, hlk, hnm, hR, hK, hbs⟩ := hX
  have hcode := hok.1
  have hG : GoodIn tb (mW M2) := tb_good (fun w hw => (List.mem_cons.mp hw).elim (fun e => e ▸ hcode) (fun hw => hw))
  have hT : GoodIn tb (wsV (mY M).cls idx C2 (mY M2) (mW M2)) := by
    intro w hw
    rcases List.mem_append.mp hw with hw | hw
    · refine tb_good (ws := [.methodLink (mY M).cls idx (mY M2), .instanceMethod (mY M2), .selects C2 (mY M2) (mY M2), .initialized C2]) ?_ w hw
      intro w hw
      simp only [List.mem_cons, List.not_mem_nil, or_false] at hw
      rcases hw with rfl | rfl | rfl | rfl
      · exact lk.1
      · exact lk.2.1
      · rw [hC2]; exact lk.2.2
      · rw [hC2]; exact hok.2.2.2.2.2
    · exact hG w hw
  rw [ps_map]
  exact va_runV (As := as.map (rv b)) (b := b + o0) (rest := rest.map (rv b)) (Ts := tb) (own := (mY M).cls) (C := C2) ⟨hx, hb, hml, hown, hts⟩ hM (cwV n hts hT rfl rfl rfl ⟨hC2.symm, hok.2.2.1, hok.2.2.2.1, hok.2.2.2.2.1⟩ (by rw [hR]; exact ⟨hfr, hlo⟩)) ⟨PcE.blind, va_recv hK.1 hP hcl (rz_at ho), fun U hU hW => ⟨rfl, by rw [hU]; exact hsz, by rw [hU]; exact hP, hK.warm hW⟩⟩ rfl (by rw [List.length_map]; exact hn) (hl.1.trans hLl) (by simp [rv]) (lv_room (by rw [rv_cats]; exact hrest)) d (by rw [hR]; exact ⟨hc1, hs1⟩)
theorem e_callS {M2 : MI} {as rest : List Value} {Q2 : Option Value → List AC → Prop} {idx n : Nat} (hX : Cx M X) (d : decode (mB M) pc = .ok (.invokestatic idx, 3)) (hok : MkOk M2 n) (lk : LkS (mY M).cls idx M2) (hE : Em M2 as h Q2) (hn : as.length = n) (hfr : mF M2 + 1 ≤ mF M) (hlo : 8 + (mL M2 + 11) + mO M2 ≤ mO M) (hc1 : cells + mC M2 ≤ mC M) (hs1 : slots + mS M2 ≤ mS M) (hrest : (rest.map fun v => v.category).sum ≤ 8) (hLl : L.length = mL M)
    (k : ∀ r h', Q2 r h' → Ew M X Z (pc + 3) L (r.toList ++ rest) h' (cells + mC M2) (slots + mS M2)) : Ew M X Z pc L (ps as rest) h cells slots := by
  refine e_run hX hE (fun p l e R s m args below meth c dC dI dA b eX H locs ls hl hP hsz hM => ?_) k
  subst eX
  obtain ⟨hx, hb, hr, hml, hown, hts, hlk, hnm, hR, hK, hbs⟩ := hX
  have hcode := hok.1
  have hG : GoodIn tb (mW M2) := tb_good (fun w hw => (List.mem_cons.mp hw).elim (fun e => e ▸ hcode) (fun hw => hw))
  rw [ps_map]
  exact va_runS (As := as.map (rv b)) (rest := rest.map (rv b)) (Ts := tb) (own := (mY M).cls) ⟨hx, hb, hml, hown, hts⟩ hM ⟨callB_of n hts hG rfl rfl rfl (hts _ hok.2.2.2.2.2) (hts _ lk.1) ⟨hok.2.2.1, hok.2.2.2.1, hok.2.2.2.2.1⟩ (by rw [hR]; exact ⟨hfr, hlo⟩), hts _ lk.2⟩ ⟨PcE.blind, fun U hU hW => ⟨rfl, by rw [hU]; exact hsz, by rw [hU]; exact hP, hK.warm hW⟩⟩ rfl (by rw [List.length_map]; exact hn) (hl.1.trans hLl) rfl (lv_room (by rw [rv_cats]; exact hrest)) d (by rw [hR]; exact ⟨hc1, hs1⟩)
theorem e_callN {as rest : List Value} {Q2 : Option Value → List AC → Prop} (hX : Cx M X) (d : decode (mB M) pc = .ok (.invokestatic 48, 3)) (hM6 : (mY M).cls = RX6) (hE : Em mX10_sideOf as h Q2) (hn : as.length = 1) (hfr : mF mX10_sideOf + 1 ≤ mF M) (hlo : 8 + (mL mX10_sideOf + 11) + mO mX10_sideOf ≤ mO M) (hc1 : cells + mC mX10_sideOf ≤ mC M) (hs1 : slots + mS mX10_sideOf ≤ mS M) (hrest : (rest.map fun v => v.category).sum ≤ 8) (hLl : L.length = mL M)
    (k : ∀ r h', Q2 r h' → Ew M X Z (pc + 3) L (r.toList ++ rest) h' (cells + mC mX10_sideOf) (slots + mS mX10_sideOf)) : Ew M X Z pc L (ps as rest) h cells slots := by
  refine e_run hX hE (fun p l e R s m args below meth c dC dI dA b eX H locs ls hl hP hsz hM => ?_) k
  subst eX
  obtain ⟨hx, hb, hr, hml, hown, hts, hlk, hnm, hR, hK, hbs⟩ := hX
  have hok := mk_X10_sideOf
  have hcode := hok.1
  have hG : GoodIn tb (mW mX10_sideOf) := tb_good (fun w hw => (List.mem_cons.mp hw).elim (fun e => e ▸ hcode) (fun hw => hw))
  rw [ps_map]
  rw [hM6] at hown
  exact va_runSN (As := as.map (rv b)) (rest := rest.map (rv b)) (Ts := tb) (own := RX6) (host := "CohereBench") ⟨hx, hb, hml, hown, hts⟩ hM ⟨va_cnB 1 hts hG rfl rfl rfl hK.2 (hts _ hok.2.2.2.2.2) ⟨hok.2.2.1, hok.2.2.2.1, hok.2.2.2.2.1⟩ (by rw [hR]; exact ⟨hfr, hlo⟩), hts _ so_stat, trivial⟩ ⟨PcE.blind, fun U hU hW => ⟨rfl, by rw [hU]; exact hsz, by rw [hU]; exact hP, hK.warm hW⟩⟩ rfl (by rw [List.length_map]; exact hn) (hl.1.trans hLl) rfl (lv_room (by rw [rv_cats]; exact hrest)) d (by rw [hR]; exact ⟨hc1, hs1⟩)
theorem e_callI {M2 : MI} {as rest : List Value} {Q2 : Option Value → List AC → Prop} {idx n o0 : Nat} (hX : Cx M X) (d : decode (mB M) pc = .ok (.invokespecial idx, 3)) (hok : MkOk M2 n) (hrn : mR M2 = none) (lk : LkI (mY M).cls idx M2) (hE : Em M2 (.ref o0 :: as) h Q2) (hn : as.length = n) (hfr : mF M2 + 1 ≤ mF M) (hlo : 8 + (mL M2 + 11) + mO M2 ≤ mO M) (hc1 : cells + mC M2 ≤ mC M) (hs1 : slots + mS M2 ≤ mS M) (hrest : (rest.map fun v => v.category).sum ≤ 8) (hLl : L.length = mL M)
    (k : ∀ r h', Q2 r h' → Ew M X Z (pc + 3) L (r.toList ++ rest) h' (cells + mC M2) (slots + mS M2)) : Ew M X Z pc L (ps as (.ref o0 :: rest)) h cells slots := by
  refine e_run hX hE (fun p l e R s m args below meth c dC dI dA b eX H locs ls hl hP hsz hM => ?_) k
  subst eX
  obtain ⟨hx, hb, hr, hml, hown, hts, hlk, hnm, hR, hK, hbs⟩ := hX
  have hcode := hok.1
  have hG : GoodIn tb (mW M2) := tb_good (fun w hw => (List.mem_cons.mp hw).elim (fun e => e ▸ hcode) (fun hw => hw))
  rw [ps_map]
  exact va_runI (As := as.map (rv b)) (b := b + o0) (rest := rest.map (rv b)) (Ts := tb) (own := (mY M).cls) ⟨hx, hb, hml, hown, hts⟩ hM (cwI n hts hG (by unfold mW; rw [hrn]) rfl rfl (hts _ hok.2.2.2.2.2) (hts _ lk.1) (hts _ lk.2.1) lk.2.2 ⟨hok.2.2.1, hok.2.2.2.1, hok.2.2.2.2.1⟩ (by rw [hR]; exact ⟨hfr, hlo⟩)) ⟨PcE.blind, fun U hU hW => ⟨rfl, by rw [hU]; exact hsz, by rw [hU]; exact hP, hK.warm hW⟩⟩ rfl (by rw [List.length_map]; exact hn) (hl.1.trans hLl) (by simp [rv]) (lv_room (by rw [rv_cats]; exact hrest)) d (by rw [hR]; exact ⟨hc1, hs1⟩)
theorem e_objInit {idx o0 : Nat} (hX : Cx M X) (d : decode (mB M) pc = .ok (.invokespecial idx, 3)) (lk : Cond.methodLink (mY M).cls idx objectInit ∈ tb) (hfr : 1 ≤ mF M) (hlo : (st.map fun v => v.category).sum + 12 ≤ mO M) (hLl : L.length = mL M) (k : Ew M X Z (pc + 3) L st h cells slots) : Ew M X Z pc L (.ref o0 :: st) h cells slots := by
  obtain ⟨p, l, e, R, s, m, args, below, meth, c, dC, dI, dA, b⟩ := X
  obtain ⟨hx, hb, hr, hml, hown, hts, hlk, hnm, hR, hK, hbs⟩ := hX
  intro H locs ls hl hP hS hz
  exact W.objInit hx hb hown (hts _ lk) (hts _ oi_inst) (hts _ oi_code) rfl (by rw [hml]; exact hl.1.trans hLl) rfl d (by rw [hR]; exact hfr) (by rw [hR]; show 2 * 0 + _ + 12 ≤ mO M; have := rv_cats b st; omega) (k H locs ls hl hP hS hz)
end EL
end
section
theorem dX0_init_0 : decode cX0_init 0 = .ok (.aload_n 0, 1) := by decide +kernel
theorem dX0_init_1 : decode cX0_init 1 = .ok (.invokespecial 3, 3) := by decide +kernel
theorem dX0_init_4 : decode cX0_init 4 = .ok (.aload_n 0, 1) := by decide +kernel
theorem dX0_init_5 : decode cX0_init 5 = .ok (.aload_n 1, 1) := by decide +kernel
theorem dX0_init_6 : decode cX0_init 6 = .ok (.putfield 9, 3) := by decide +kernel
theorem dX0_init_9 : decode cX0_init 9 = .ok (.aload_n 0, 1) := by decide +kernel
theorem dX0_init_10 : decode cX0_init 10 = .ok (.iconst 0, 1) := by decide +kernel
theorem dX0_init_11 : decode cX0_init 11 = .ok (.putfield 15, 3) := by decide +kernel
theorem dX0_init_14 : decode cX0_init 14 = .ok (.aload_n 0, 1) := by decide +kernel
theorem dX0_init_15 : decode cX0_init 15 = .ok (.iconst 0, 1) := by decide +kernel
theorem dX0_init_16 : decode cX0_init 16 = .ok (.putfield 19, 3) := by decide +kernel
theorem dX0_init_19 : decode cX0_init 19 = .ok (.aload_n 0, 1) := by decide +kernel
theorem dX0_init_20 : decode cX0_init 20 = .ok (.iconst 0, 1) := by decide +kernel
theorem dX0_init_21 : decode cX0_init 21 = .ok (.putfield 22, 3) := by decide +kernel
theorem dX0_init_24 : decode cX0_init 24 = .ok (.return_, 1) := by decide +kernel
theorem dX0_perform_0 : decode cX0_perform 0 = .ok (.aload_n 2, 1) := by decide +kernel
theorem dX0_perform_1 : decode cX0_perform 1 = .ok (.iload_n 3, 1) := by decide +kernel
theorem dX0_perform_2 : decode cX0_perform 2 = .ok (.invokevirtual 25, 3) := by decide +kernel
theorem dX0_perform_5 : decode cX0_perform 5 = .ok (.istore 4, 2) := by decide +kernel
theorem dX0_perform_7 : decode cX0_perform 7 = .ok (.aload_n 0, 1) := by decide +kernel
theorem dX0_perform_8 : decode cX0_perform 8 = .ok (.getfield 9, 3) := by decide +kernel
theorem dX0_perform_11 : decode cX0_perform 11 = .ok (.iload 4, 2) := by decide +kernel
theorem dX0_perform_13 : decode cX0_perform 13 = .ok (.invokevirtual 31, 3) := by decide +kernel
theorem dX0_perform_16 : decode cX0_perform 16 = .ok (.ifCond .ne 5, 3) := by decide +kernel
theorem dX0_perform_19 : decode cX0_perform 19 = .ok (.iconst 1, 1) := by decide +kernel
theorem dX0_perform_20 : decode cX0_perform 20 = .ok (.ireturn, 1) := by decide +kernel
theorem dX0_perform_21 : decode cX0_perform 21 = .ok (.aload_n 0, 1) := by decide +kernel
theorem dX0_perform_22 : decode cX0_perform 22 = .ok (.aload_n 1, 1) := by decide +kernel
theorem dX0_perform_23 : decode cX0_perform 23 = .ok (.aload_n 2, 1) := by decide +kernel
theorem dX0_perform_24 : decode cX0_perform 24 = .ok (.iload_n 3, 1) := by decide +kernel
theorem dX0_perform_25 : decode cX0_perform 25 = .ok (.invokevirtual 37, 3) := by decide +kernel
theorem dX0_perform_28 : decode cX0_perform 28 = .ok (.aload_n 0, 1) := by decide +kernel
theorem dX0_perform_29 : decode cX0_perform 29 = .ok (.getfield 15, 3) := by decide +kernel
theorem dX0_perform_32 : decode cX0_perform 32 = .ok (.aload_n 0, 1) := by decide +kernel
theorem dX0_perform_33 : decode cX0_perform 33 = .ok (.getfield 9, 3) := by decide +kernel
theorem dX0_perform_36 : decode cX0_perform 36 = .ok (.invokevirtual 41, 3) := by decide +kernel
theorem dX0_perform_39 : decode cX0_perform 39 = .ok (.if_icmp .ne 7, 3) := by decide +kernel
theorem dX0_perform_42 : decode cX0_perform 42 = .ok (.iconst 1, 1) := by decide +kernel
theorem dX0_perform_43 : decode cX0_perform 43 = .ok (.goto 4, 3) := by decide +kernel
theorem dX0_perform_46 : decode cX0_perform 46 = .ok (.iconst 0, 1) := by decide +kernel
theorem dX0_perform_47 : decode cX0_perform 47 = .ok (.istore 5, 2) := by decide +kernel
theorem dX0_perform_49 : decode cX0_perform 49 = .ok (.aload_n 0, 1) := by decide +kernel
theorem dX0_perform_50 : decode cX0_perform 50 = .ok (.getfield 9, 3) := by decide +kernel
theorem dX0_perform_53 : decode cX0_perform 53 = .ok (.iload 4, 2) := by decide +kernel
theorem dX0_perform_55 : decode cX0_perform 55 = .ok (.invokevirtual 45, 3) := by decide +kernel
theorem dX0_perform_58 : decode cX0_perform 58 = .ok (.istore 6, 2) := by decide +kernel
theorem dX0_perform_60 : decode cX0_perform 60 = .ok (.iconst 0, 1) := by decide +kernel
theorem dX0_perform_61 : decode cX0_perform 61 = .ok (.istore 7, 2) := by decide +kernel
theorem dX0_perform_63 : decode cX0_perform 63 = .ok (.iconst 0, 1) := by decide +kernel
theorem dX0_perform_64 : decode cX0_perform 64 = .ok (.istore 8, 2) := by decide +kernel
theorem dX0_perform_66 : decode cX0_perform 66 = .ok (.iload 8, 2) := by decide +kernel
theorem dX0_perform_68 : decode cX0_perform 68 = .ok (.iload 6, 2) := by decide +kernel
theorem dX0_perform_70 : decode cX0_perform 70 = .ok (.if_icmp .ge 65, 3) := by decide +kernel
theorem dX0_perform_73 : decode cX0_perform 73 = .ok (.iload 7, 2) := by decide +kernel
theorem dX0_perform_75 : decode cX0_perform 75 = .ok (.ifCond .ne 60, 3) := by decide +kernel
theorem dX0_perform_78 : decode cX0_perform 78 = .ok (.aload_n 0, 1) := by decide +kernel
theorem dX0_perform_79 : decode cX0_perform 79 = .ok (.getfield 9, 3) := by decide +kernel
theorem dX0_perform_82 : decode cX0_perform 82 = .ok (.iload 4, 2) := by decide +kernel
theorem dX0_perform_84 : decode cX0_perform 84 = .ok (.iload 8, 2) := by decide +kernel
theorem dX0_perform_86 : decode cX0_perform 86 = .ok (.invokevirtual 48, 3) := by decide +kernel
theorem dX0_perform_89 : decode cX0_perform 89 = .ok (.istore 9, 2) := by decide +kernel
theorem dX0_perform_91 : decode cX0_perform 91 = .ok (.iload 5, 2) := by decide +kernel
theorem dX0_perform_93 : decode cX0_perform 93 = .ok (.ifCond .eq 20, 3) := by decide +kernel
theorem dX0_perform_96 : decode cX0_perform 96 = .ok (.aload_n 0, 1) := by decide +kernel
theorem dX0_perform_97 : decode cX0_perform 97 = .ok (.aload_n 1, 1) := by decide +kernel
theorem dX0_perform_98 : decode cX0_perform 98 = .ok (.iload 9, 2) := by decide +kernel
theorem dX0_perform_100 : decode cX0_perform 100 = .ok (.iconst 4, 1) := by decide +kernel
theorem dX0_perform_101 : decode cX0_perform 101 = .ok (.ishr, 1) := by decide +kernel
theorem dX0_perform_102 : decode cX0_perform 102 = .ok (.iload 9, 2) := by decide +kernel
theorem dX0_perform_104 : decode cX0_perform 104 = .ok (.bipush 15, 2) := by decide +kernel
theorem dX0_perform_106 : decode cX0_perform 106 = .ok (.iand, 1) := by decide +kernel
theorem dX0_perform_107 : decode cX0_perform 107 = .ok (.invokevirtual 52, 3) := by decide +kernel
theorem dX0_perform_110 : decode cX0_perform 110 = .ok (.goto 17, 3) := by decide +kernel
theorem dX0_perform_113 : decode cX0_perform 113 = .ok (.aload_n 0, 1) := by decide +kernel
theorem dX0_perform_114 : decode cX0_perform 114 = .ok (.aload_n 1, 1) := by decide +kernel
theorem dX0_perform_115 : decode cX0_perform 115 = .ok (.iload 9, 2) := by decide +kernel
theorem dX0_perform_117 : decode cX0_perform 117 = .ok (.iconst 4, 1) := by decide +kernel
theorem dX0_perform_118 : decode cX0_perform 118 = .ok (.ishr, 1) := by decide +kernel
theorem dX0_perform_119 : decode cX0_perform 119 = .ok (.iload 9, 2) := by decide +kernel
theorem dX0_perform_121 : decode cX0_perform 121 = .ok (.bipush 15, 2) := by decide +kernel
theorem dX0_perform_123 : decode cX0_perform 123 = .ok (.iand, 1) := by decide +kernel
theorem dX0_perform_124 : decode cX0_perform 124 = .ok (.invokevirtual 56, 3) := by decide +kernel
theorem dX0_perform_127 : decode cX0_perform 127 = .ok (.istore 7, 2) := by decide +kernel
theorem dX0_perform_129 : decode cX0_perform 129 = .ok (.iinc 8 1, 3) := by decide +kernel
theorem dX0_perform_132 : decode cX0_perform 132 = .ok (.goto (-66), 3) := by decide +kernel
theorem dX0_perform_135 : decode cX0_perform 135 = .ok (.iload 7, 2) := by decide +kernel
theorem dX0_perform_137 : decode cX0_perform 137 = .ok (.ireturn, 1) := by decide +kernel
theorem dX0_takeUp_0 : decode cX0_takeUp 0 = .ok (.aload_n 0, 1) := by decide +kernel
theorem dX0_takeUp_1 : decode cX0_takeUp 1 = .ok (.aload_n 2, 1) := by decide +kernel
theorem dX0_takeUp_2 : decode cX0_takeUp 2 = .ok (.iload_n 3, 1) := by decide +kernel
theorem dX0_takeUp_3 : decode cX0_takeUp 3 = .ok (.invokevirtual 59, 3) := by decide +kernel
theorem dX0_takeUp_6 : decode cX0_takeUp 6 = .ok (.putfield 15, 3) := by decide +kernel
theorem dX0_takeUp_9 : decode cX0_takeUp 9 = .ok (.aload_n 2, 1) := by decide +kernel
theorem dX0_takeUp_10 : decode cX0_takeUp 10 = .ok (.iload_n 3, 1) := by decide +kernel
theorem dX0_takeUp_11 : decode cX0_takeUp 11 = .ok (.invokevirtual 62, 3) := by decide +kernel
theorem dX0_takeUp_14 : decode cX0_takeUp 14 = .ok (.iconst (-1), 1) := by decide +kernel
theorem dX0_takeUp_15 : decode cX0_takeUp 15 = .ok (.if_icmp .eq 33, 3) := by decide +kernel
theorem dX0_takeUp_18 : decode cX0_takeUp 18 = .ok (.aload_n 1, 1) := by decide +kernel
theorem dX0_takeUp_19 : decode cX0_takeUp 19 = .ok (.aload_n 2, 1) := by decide +kernel
theorem dX0_takeUp_20 : decode cX0_takeUp 20 = .ok (.iload_n 3, 1) := by decide +kernel
theorem dX0_takeUp_21 : decode cX0_takeUp 21 = .ok (.invokevirtual 62, 3) := by decide +kernel
theorem dX0_takeUp_24 : decode cX0_takeUp 24 = .ok (.invokevirtual 65, 3) := by decide +kernel
theorem dX0_takeUp_27 : decode cX0_takeUp 27 = .ok (.istore 4, 2) := by decide +kernel
theorem dX0_takeUp_29 : decode cX0_takeUp 29 = .ok (.aload_n 0, 1) := by decide +kernel
theorem dX0_takeUp_30 : decode cX0_takeUp 30 = .ok (.iload 4, 2) := by decide +kernel
theorem dX0_takeUp_32 : decode cX0_takeUp 32 = .ok (.invokestatic 70, 3) := by decide +kernel
theorem dX0_takeUp_35 : decode cX0_takeUp 35 = .ok (.putfield 19, 3) := by decide +kernel
theorem dX0_takeUp_38 : decode cX0_takeUp 38 = .ok (.aload_n 0, 1) := by decide +kernel
theorem dX0_takeUp_39 : decode cX0_takeUp 39 = .ok (.iload 4, 2) := by decide +kernel
theorem dX0_takeUp_41 : decode cX0_takeUp 41 = .ok (.invokestatic 75, 3) := by decide +kernel
theorem dX0_takeUp_44 : decode cX0_takeUp 44 = .ok (.putfield 22, 3) := by decide +kernel
theorem dX0_takeUp_47 : decode cX0_takeUp 47 = .ok (.return_, 1) := by decide +kernel
theorem dX0_takeUp_48 : decode cX0_takeUp 48 = .ok (.aload_n 0, 1) := by decide +kernel
theorem dX0_takeUp_49 : decode cX0_takeUp 49 = .ok (.aload_n 0, 1) := by decide +kernel
theorem dX0_takeUp_50 : decode cX0_takeUp 50 = .ok (.getfield 15, 3) := by decide +kernel
theorem dX0_takeUp_53 : decode cX0_takeUp 53 = .ok (.putfield 19, 3) := by decide +kernel
theorem dX0_takeUp_56 : decode cX0_takeUp 56 = .ok (.aload_n 0, 1) := by decide +kernel
theorem dX0_takeUp_57 : decode cX0_takeUp 57 = .ok (.iconst 0, 1) := by decide +kernel
theorem dX0_takeUp_58 : decode cX0_takeUp 58 = .ok (.putfield 22, 3) := by decide +kernel
theorem dX0_takeUp_61 : decode cX0_takeUp 61 = .ok (.aload_n 2, 1) := by decide +kernel
theorem dX0_takeUp_62 : decode cX0_takeUp 62 = .ok (.iload_n 3, 1) := by decide +kernel
theorem dX0_takeUp_63 : decode cX0_takeUp 63 = .ok (.invokevirtual 78, 3) := by decide +kernel
theorem dX0_takeUp_66 : decode cX0_takeUp 66 = .ok (.istore 4, 2) := by decide +kernel
theorem dX0_takeUp_68 : decode cX0_takeUp 68 = .ok (.iload 4, 2) := by decide +kernel
theorem dX0_takeUp_70 : decode cX0_takeUp 70 = .ok (.ifCond .eq 9, 3) := by decide +kernel
theorem dX0_takeUp_73 : decode cX0_takeUp 73 = .ok (.iload 4, 2) := by decide +kernel
theorem dX0_takeUp_75 : decode cX0_takeUp 75 = .ok (.iconst 1, 1) := by decide +kernel
theorem dX0_takeUp_76 : decode cX0_takeUp 76 = .ok (.if_icmp .ne 21, 3) := by decide +kernel
theorem dX0_takeUp_79 : decode cX0_takeUp 79 = .ok (.aload_n 1, 1) := by decide +kernel
theorem dX0_takeUp_80 : decode cX0_takeUp 80 = .ok (.aload_n 0, 1) := by decide +kernel
theorem dX0_takeUp_81 : decode cX0_takeUp 81 = .ok (.getfield 15, 3) := by decide +kernel
theorem dX0_takeUp_84 : decode cX0_takeUp 84 = .ok (.iload 4, 2) := by decide +kernel
theorem dX0_takeUp_86 : decode cX0_takeUp 86 = .ok (.ifCond .ne 7, 3) := by decide +kernel
theorem dX0_takeUp_89 : decode cX0_takeUp 89 = .ok (.iconst 1, 1) := by decide +kernel
theorem dX0_takeUp_90 : decode cX0_takeUp 90 = .ok (.goto 4, 3) := by decide +kernel
theorem dX0_takeUp_93 : decode cX0_takeUp 93 = .ok (.iconst 2, 1) := by decide +kernel
theorem dX0_takeUp_94 : decode cX0_takeUp 94 = .ok (.invokevirtual 81, 3) := by decide +kernel
theorem dX0_takeUp_97 : decode cX0_takeUp 97 = .ok (.return_, 1) := by decide +kernel
theorem dX0_cacheAct_0 : decode cX0_cacheAct 0 = .ok (.iload_n 2, 1) := by decide +kernel
theorem dX0_cacheAct_1 : decode cX0_cacheAct 1 = .ok (.tableswitch 206 1 8 #[47, 58, 79, 107, 125, 150, 164, 191], 47) := by decide +kernel
theorem dX0_cacheAct_48 : decode cX0_cacheAct 48 = .ok (.aload_n 1, 1) := by decide +kernel
theorem dX0_cacheAct_49 : decode cX0_cacheAct 49 = .ok (.aload_n 0, 1) := by decide +kernel
theorem dX0_cacheAct_50 : decode cX0_cacheAct 50 = .ok (.getfield 15, 3) := by decide +kernel
theorem dX0_cacheAct_53 : decode cX0_cacheAct 53 = .ok (.iload_n 3, 1) := by decide +kernel
theorem dX0_cacheAct_54 : decode cX0_cacheAct 54 = .ok (.invokevirtual 85, 3) := by decide +kernel
theorem dX0_cacheAct_57 : decode cX0_cacheAct 57 = .ok (.iconst 0, 1) := by decide +kernel
theorem dX0_cacheAct_58 : decode cX0_cacheAct 58 = .ok (.ireturn, 1) := by decide +kernel
theorem dX0_cacheAct_59 : decode cX0_cacheAct 59 = .ok (.aload_n 0, 1) := by decide +kernel
theorem dX0_cacheAct_60 : decode cX0_cacheAct 60 = .ok (.aload_n 1, 1) := by decide +kernel
theorem dX0_cacheAct_61 : decode cX0_cacheAct 61 = .ok (.iload_n 3, 1) := by decide +kernel
theorem dX0_cacheAct_62 : decode cX0_cacheAct 62 = .ok (.iconst 1, 1) := by decide +kernel
theorem dX0_cacheAct_63 : decode cX0_cacheAct 63 = .ok (.aload_n 0, 1) := by decide +kernel
theorem dX0_cacheAct_64 : decode cX0_cacheAct 64 = .ok (.getfield 9, 3) := by decide +kernel
theorem dX0_cacheAct_67 : decode cX0_cacheAct 67 = .ok (.invokevirtual 41, 3) := by decide +kernel
theorem dX0_cacheAct_70 : decode cX0_cacheAct 70 = .ok (.ishl, 1) := by decide +kernel
theorem dX0_cacheAct_71 : decode cX0_cacheAct 71 = .ok (.aload_n 0, 1) := by decide +kernel
theorem dX0_cacheAct_72 : decode cX0_cacheAct 72 = .ok (.getfield 15, 3) := by decide +kernel
theorem dX0_cacheAct_75 : decode cX0_cacheAct 75 = .ok (.iconst 0, 1) := by decide +kernel
theorem dX0_cacheAct_76 : decode cX0_cacheAct 76 = .ok (.invokevirtual 88, 3) := by decide +kernel
theorem dX0_cacheAct_79 : decode cX0_cacheAct 79 = .ok (.ireturn, 1) := by decide +kernel
theorem dX0_cacheAct_80 : decode cX0_cacheAct 80 = .ok (.aload_n 0, 1) := by decide +kernel
theorem dX0_cacheAct_81 : decode cX0_cacheAct 81 = .ok (.aload_n 1, 1) := by decide +kernel
theorem dX0_cacheAct_82 : decode cX0_cacheAct 82 = .ok (.iload_n 3, 1) := by decide +kernel
theorem dX0_cacheAct_83 : decode cX0_cacheAct 83 = .ok (.iconst 1, 1) := by decide +kernel
theorem dX0_cacheAct_84 : decode cX0_cacheAct 84 = .ok (.aload_n 0, 1) := by decide +kernel
theorem dX0_cacheAct_85 : decode cX0_cacheAct 85 = .ok (.getfield 9, 3) := by decide +kernel
theorem dX0_cacheAct_88 : decode cX0_cacheAct 88 = .ok (.invokevirtual 41, 3) := by decide +kernel
theorem dX0_cacheAct_91 : decode cX0_cacheAct 91 = .ok (.ishl, 1) := by decide +kernel
theorem dX0_cacheAct_92 : decode cX0_cacheAct 92 = .ok (.aload_n 0, 1) := by decide +kernel
theorem dX0_cacheAct_93 : decode cX0_cacheAct 93 = .ok (.getfield 15, 3) := by decide +kernel
theorem dX0_cacheAct_96 : decode cX0_cacheAct 96 = .ok (.aload_n 1, 1) := by decide +kernel
theorem dX0_cacheAct_97 : decode cX0_cacheAct 97 = .ok (.aload_n 0, 1) := by decide +kernel
theorem dX0_cacheAct_98 : decode cX0_cacheAct 98 = .ok (.getfield 15, 3) := by decide +kernel
theorem dX0_cacheAct_101 : decode cX0_cacheAct 101 = .ok (.invokevirtual 92, 3) := by decide +kernel
theorem dX0_cacheAct_104 : decode cX0_cacheAct 104 = .ok (.invokevirtual 88, 3) := by decide +kernel
theorem dX0_cacheAct_107 : decode cX0_cacheAct 107 = .ok (.ireturn, 1) := by decide +kernel
theorem dX0_cacheAct_108 : decode cX0_cacheAct 108 = .ok (.aload_n 0, 1) := by decide +kernel
theorem dX0_cacheAct_109 : decode cX0_cacheAct 109 = .ok (.aload_n 1, 1) := by decide +kernel
theorem dX0_cacheAct_110 : decode cX0_cacheAct 110 = .ok (.iload_n 3, 1) := by decide +kernel
theorem dX0_cacheAct_111 : decode cX0_cacheAct 111 = .ok (.iconst 1, 1) := by decide +kernel
theorem dX0_cacheAct_112 : decode cX0_cacheAct 112 = .ok (.aload_n 0, 1) := by decide +kernel
theorem dX0_cacheAct_113 : decode cX0_cacheAct 113 = .ok (.getfield 19, 3) := by decide +kernel
theorem dX0_cacheAct_116 : decode cX0_cacheAct 116 = .ok (.ishl, 1) := by decide +kernel
theorem dX0_cacheAct_117 : decode cX0_cacheAct 117 = .ok (.aload_n 0, 1) := by decide +kernel
theorem dX0_cacheAct_118 : decode cX0_cacheAct 118 = .ok (.getfield 19, 3) := by decide +kernel
theorem dX0_cacheAct_121 : decode cX0_cacheAct 121 = .ok (.iconst 0, 1) := by decide +kernel
theorem dX0_cacheAct_122 : decode cX0_cacheAct 122 = .ok (.invokevirtual 88, 3) := by decide +kernel
theorem dX0_cacheAct_125 : decode cX0_cacheAct 125 = .ok (.ireturn, 1) := by decide +kernel
theorem dX0_cacheAct_126 : decode cX0_cacheAct 126 = .ok (.aload_n 0, 1) := by decide +kernel
theorem dX0_cacheAct_127 : decode cX0_cacheAct 127 = .ok (.aload_n 1, 1) := by decide +kernel
theorem dX0_cacheAct_128 : decode cX0_cacheAct 128 = .ok (.iload_n 3, 1) := by decide +kernel
theorem dX0_cacheAct_129 : decode cX0_cacheAct 129 = .ok (.iconst 1, 1) := by decide +kernel
theorem dX0_cacheAct_130 : decode cX0_cacheAct 130 = .ok (.aload_n 0, 1) := by decide +kernel
theorem dX0_cacheAct_131 : decode cX0_cacheAct 131 = .ok (.getfield 19, 3) := by decide +kernel
theorem dX0_cacheAct_134 : decode cX0_cacheAct 134 = .ok (.ishl, 1) := by decide +kernel
theorem dX0_cacheAct_135 : decode cX0_cacheAct 135 = .ok (.aload_n 0, 1) := by decide +kernel
theorem dX0_cacheAct_136 : decode cX0_cacheAct 136 = .ok (.getfield 19, 3) := by decide +kernel
theorem dX0_cacheAct_139 : decode cX0_cacheAct 139 = .ok (.aload_n 1, 1) := by decide +kernel
theorem dX0_cacheAct_140 : decode cX0_cacheAct 140 = .ok (.aload_n 0, 1) := by decide +kernel
theorem dX0_cacheAct_141 : decode cX0_cacheAct 141 = .ok (.getfield 15, 3) := by decide +kernel
theorem dX0_cacheAct_144 : decode cX0_cacheAct 144 = .ok (.invokevirtual 92, 3) := by decide +kernel
theorem dX0_cacheAct_147 : decode cX0_cacheAct 147 = .ok (.invokevirtual 88, 3) := by decide +kernel
theorem dX0_cacheAct_150 : decode cX0_cacheAct 150 = .ok (.ireturn, 1) := by decide +kernel
theorem dX0_cacheAct_151 : decode cX0_cacheAct 151 = .ok (.aload_n 1, 1) := by decide +kernel
theorem dX0_cacheAct_152 : decode cX0_cacheAct 152 = .ok (.aload_n 0, 1) := by decide +kernel
theorem dX0_cacheAct_153 : decode cX0_cacheAct 153 = .ok (.getfield 15, 3) := by decide +kernel
theorem dX0_cacheAct_156 : decode cX0_cacheAct 156 = .ok (.aload_n 0, 1) := by decide +kernel
theorem dX0_cacheAct_157 : decode cX0_cacheAct 157 = .ok (.getfield 22, 3) := by decide +kernel
theorem dX0_cacheAct_160 : decode cX0_cacheAct 160 = .ok (.invokevirtual 93, 3) := by decide +kernel
theorem dX0_cacheAct_163 : decode cX0_cacheAct 163 = .ok (.iconst 0, 1) := by decide +kernel
theorem dX0_cacheAct_164 : decode cX0_cacheAct 164 = .ok (.ireturn, 1) := by decide +kernel
theorem dX0_cacheAct_165 : decode cX0_cacheAct 165 = .ok (.aload_n 1, 1) := by decide +kernel
theorem dX0_cacheAct_166 : decode cX0_cacheAct 166 = .ok (.aload_n 0, 1) := by decide +kernel
theorem dX0_cacheAct_167 : decode cX0_cacheAct 167 = .ok (.getfield 15, 3) := by decide +kernel
theorem dX0_cacheAct_170 : decode cX0_cacheAct 170 = .ok (.iconst 0, 1) := by decide +kernel
theorem dX0_cacheAct_171 : decode cX0_cacheAct 171 = .ok (.invokevirtual 81, 3) := by decide +kernel
theorem dX0_cacheAct_174 : decode cX0_cacheAct 174 = .ok (.aload_n 1, 1) := by decide +kernel
theorem dX0_cacheAct_175 : decode cX0_cacheAct 175 = .ok (.aload_n 0, 1) := by decide +kernel
theorem dX0_cacheAct_176 : decode cX0_cacheAct 176 = .ok (.getfield 15, 3) := by decide +kernel
theorem dX0_cacheAct_179 : decode cX0_cacheAct 179 = .ok (.invokevirtual 92, 3) := by decide +kernel
theorem dX0_cacheAct_182 : decode cX0_cacheAct 182 = .ok (.iconst 1, 1) := by decide +kernel
theorem dX0_cacheAct_183 : decode cX0_cacheAct 183 = .ok (.if_icmp .ne 7, 3) := by decide +kernel
theorem dX0_cacheAct_186 : decode cX0_cacheAct 186 = .ok (.iconst 0, 1) := by decide +kernel
theorem dX0_cacheAct_187 : decode cX0_cacheAct 187 = .ok (.goto 4, 3) := by decide +kernel
theorem dX0_cacheAct_190 : decode cX0_cacheAct 190 = .ok (.iconst 2, 1) := by decide +kernel
theorem dX0_cacheAct_191 : decode cX0_cacheAct 191 = .ok (.ireturn, 1) := by decide +kernel
theorem dX0_cacheAct_192 : decode cX0_cacheAct 192 = .ok (.aload_n 1, 1) := by decide +kernel
theorem dX0_cacheAct_193 : decode cX0_cacheAct 193 = .ok (.aload_n 0, 1) := by decide +kernel
theorem dX0_cacheAct_194 : decode cX0_cacheAct 194 = .ok (.getfield 15, 3) := by decide +kernel
theorem dX0_cacheAct_197 : decode cX0_cacheAct 197 = .ok (.invokevirtual 96, 3) := by decide +kernel
theorem dX0_cacheAct_200 : decode cX0_cacheAct 200 = .ok (.aload_n 0, 1) := by decide +kernel
theorem dX0_cacheAct_201 : decode cX0_cacheAct 201 = .ok (.iconst 0, 1) := by decide +kernel
theorem dX0_cacheAct_202 : decode cX0_cacheAct 202 = .ok (.putfield 22, 3) := by decide +kernel
theorem dX0_cacheAct_205 : decode cX0_cacheAct 205 = .ok (.iconst 0, 1) := by decide +kernel
theorem dX0_cacheAct_206 : decode cX0_cacheAct 206 = .ok (.ireturn, 1) := by decide +kernel
theorem dX0_cacheAct_207 : decode cX0_cacheAct 207 = .ok (.iconst 0, 1) := by decide +kernel
theorem dX0_cacheAct_208 : decode cX0_cacheAct 208 = .ok (.ireturn, 1) := by decide +kernel
theorem dX0_homeAct_0 : decode cX0_homeAct 0 = .ok (.iload_n 2, 1) := by decide +kernel
theorem dX0_homeAct_1 : decode cX0_homeAct 1 = .ok (.tableswitch 183 1 8 #[47, 58, 76, 101, 126, 143, 162, 169], 47) := by decide +kernel
theorem dX0_homeAct_48 : decode cX0_homeAct 48 = .ok (.aload_n 1, 1) := by decide +kernel
theorem dX0_homeAct_49 : decode cX0_homeAct 49 = .ok (.aload_n 0, 1) := by decide +kernel
theorem dX0_homeAct_50 : decode cX0_homeAct 50 = .ok (.getfield 15, 3) := by decide +kernel
theorem dX0_homeAct_53 : decode cX0_homeAct 53 = .ok (.iload_n 3, 1) := by decide +kernel
theorem dX0_homeAct_54 : decode cX0_homeAct 54 = .ok (.invokevirtual 85, 3) := by decide +kernel
theorem dX0_homeAct_57 : decode cX0_homeAct 57 = .ok (.iconst 0, 1) := by decide +kernel
theorem dX0_homeAct_58 : decode cX0_homeAct 58 = .ok (.ireturn, 1) := by decide +kernel
theorem dX0_homeAct_59 : decode cX0_homeAct 59 = .ok (.aload_n 0, 1) := by decide +kernel
theorem dX0_homeAct_60 : decode cX0_homeAct 60 = .ok (.aload_n 1, 1) := by decide +kernel
theorem dX0_homeAct_61 : decode cX0_homeAct 61 = .ok (.iload_n 3, 1) := by decide +kernel
theorem dX0_homeAct_62 : decode cX0_homeAct 62 = .ok (.iconst 1, 1) := by decide +kernel
theorem dX0_homeAct_63 : decode cX0_homeAct 63 = .ok (.aload_n 0, 1) := by decide +kernel
theorem dX0_homeAct_64 : decode cX0_homeAct 64 = .ok (.getfield 19, 3) := by decide +kernel
theorem dX0_homeAct_67 : decode cX0_homeAct 67 = .ok (.ishl, 1) := by decide +kernel
theorem dX0_homeAct_68 : decode cX0_homeAct 68 = .ok (.aload_n 0, 1) := by decide +kernel
theorem dX0_homeAct_69 : decode cX0_homeAct 69 = .ok (.getfield 19, 3) := by decide +kernel
theorem dX0_homeAct_72 : decode cX0_homeAct 72 = .ok (.iconst 0, 1) := by decide +kernel
theorem dX0_homeAct_73 : decode cX0_homeAct 73 = .ok (.invokevirtual 88, 3) := by decide +kernel
theorem dX0_homeAct_76 : decode cX0_homeAct 76 = .ok (.ireturn, 1) := by decide +kernel
theorem dX0_homeAct_77 : decode cX0_homeAct 77 = .ok (.aload_n 0, 1) := by decide +kernel
theorem dX0_homeAct_78 : decode cX0_homeAct 78 = .ok (.aload_n 1, 1) := by decide +kernel
theorem dX0_homeAct_79 : decode cX0_homeAct 79 = .ok (.iload_n 3, 1) := by decide +kernel
theorem dX0_homeAct_80 : decode cX0_homeAct 80 = .ok (.iconst 1, 1) := by decide +kernel
theorem dX0_homeAct_81 : decode cX0_homeAct 81 = .ok (.aload_n 0, 1) := by decide +kernel
theorem dX0_homeAct_82 : decode cX0_homeAct 82 = .ok (.getfield 19, 3) := by decide +kernel
theorem dX0_homeAct_85 : decode cX0_homeAct 85 = .ok (.ishl, 1) := by decide +kernel
theorem dX0_homeAct_86 : decode cX0_homeAct 86 = .ok (.aload_n 0, 1) := by decide +kernel
theorem dX0_homeAct_87 : decode cX0_homeAct 87 = .ok (.getfield 19, 3) := by decide +kernel
theorem dX0_homeAct_90 : decode cX0_homeAct 90 = .ok (.aload_n 1, 1) := by decide +kernel
theorem dX0_homeAct_91 : decode cX0_homeAct 91 = .ok (.aload_n 0, 1) := by decide +kernel
theorem dX0_homeAct_92 : decode cX0_homeAct 92 = .ok (.getfield 15, 3) := by decide +kernel
theorem dX0_homeAct_95 : decode cX0_homeAct 95 = .ok (.invokevirtual 92, 3) := by decide +kernel
theorem dX0_homeAct_98 : decode cX0_homeAct 98 = .ok (.invokevirtual 88, 3) := by decide +kernel
theorem dX0_homeAct_101 : decode cX0_homeAct 101 = .ok (.ireturn, 1) := by decide +kernel
theorem dX0_homeAct_102 : decode cX0_homeAct 102 = .ok (.aload_n 0, 1) := by decide +kernel
theorem dX0_homeAct_103 : decode cX0_homeAct 103 = .ok (.aload_n 1, 1) := by decide +kernel
theorem dX0_homeAct_104 : decode cX0_homeAct 104 = .ok (.iload_n 3, 1) := by decide +kernel
theorem dX0_homeAct_105 : decode cX0_homeAct 105 = .ok (.aload_n 1, 1) := by decide +kernel
theorem dX0_homeAct_106 : decode cX0_homeAct 106 = .ok (.invokevirtual 100, 3) := by decide +kernel
theorem dX0_homeAct_109 : decode cX0_homeAct 109 = .ok (.iconst 1, 1) := by decide +kernel
theorem dX0_homeAct_110 : decode cX0_homeAct 110 = .ok (.aload_n 0, 1) := by decide +kernel
theorem dX0_homeAct_111 : decode cX0_homeAct 111 = .ok (.getfield 19, 3) := by decide +kernel
theorem dX0_homeAct_114 : decode cX0_homeAct 114 = .ok (.ishl, 1) := by decide +kernel
theorem dX0_homeAct_115 : decode cX0_homeAct 115 = .ok (.iconst (-1), 1) := by decide +kernel
theorem dX0_homeAct_116 : decode cX0_homeAct 116 = .ok (.ixor, 1) := by decide +kernel
theorem dX0_homeAct_117 : decode cX0_homeAct 117 = .ok (.iand, 1) := by decide +kernel
theorem dX0_homeAct_118 : decode cX0_homeAct 118 = .ok (.aload_n 0, 1) := by decide +kernel
theorem dX0_homeAct_119 : decode cX0_homeAct 119 = .ok (.getfield 19, 3) := by decide +kernel
theorem dX0_homeAct_122 : decode cX0_homeAct 122 = .ok (.iconst 0, 1) := by decide +kernel
theorem dX0_homeAct_123 : decode cX0_homeAct 123 = .ok (.invokevirtual 88, 3) := by decide +kernel
theorem dX0_homeAct_126 : decode cX0_homeAct 126 = .ok (.ireturn, 1) := by decide +kernel
theorem dX0_homeAct_127 : decode cX0_homeAct 127 = .ok (.aload_n 1, 1) := by decide +kernel
theorem dX0_homeAct_128 : decode cX0_homeAct 128 = .ok (.aload_n 1, 1) := by decide +kernel
theorem dX0_homeAct_129 : decode cX0_homeAct 129 = .ok (.invokevirtual 100, 3) := by decide +kernel
theorem dX0_homeAct_132 : decode cX0_homeAct 132 = .ok (.iconst 1, 1) := by decide +kernel
theorem dX0_homeAct_133 : decode cX0_homeAct 133 = .ok (.aload_n 0, 1) := by decide +kernel
theorem dX0_homeAct_134 : decode cX0_homeAct 134 = .ok (.getfield 19, 3) := by decide +kernel
theorem dX0_homeAct_137 : decode cX0_homeAct 137 = .ok (.ishl, 1) := by decide +kernel
theorem dX0_homeAct_138 : decode cX0_homeAct 138 = .ok (.ior, 1) := by decide +kernel
theorem dX0_homeAct_139 : decode cX0_homeAct 139 = .ok (.invokevirtual 103, 3) := by decide +kernel
theorem dX0_homeAct_142 : decode cX0_homeAct 142 = .ok (.iconst 0, 1) := by decide +kernel
theorem dX0_homeAct_143 : decode cX0_homeAct 143 = .ok (.ireturn, 1) := by decide +kernel
theorem dX0_homeAct_144 : decode cX0_homeAct 144 = .ok (.aload_n 1, 1) := by decide +kernel
theorem dX0_homeAct_145 : decode cX0_homeAct 145 = .ok (.aload_n 1, 1) := by decide +kernel
theorem dX0_homeAct_146 : decode cX0_homeAct 146 = .ok (.invokevirtual 100, 3) := by decide +kernel
theorem dX0_homeAct_149 : decode cX0_homeAct 149 = .ok (.iconst 1, 1) := by decide +kernel
theorem dX0_homeAct_150 : decode cX0_homeAct 150 = .ok (.aload_n 0, 1) := by decide +kernel
theorem dX0_homeAct_151 : decode cX0_homeAct 151 = .ok (.getfield 19, 3) := by decide +kernel
theorem dX0_homeAct_154 : decode cX0_homeAct 154 = .ok (.ishl, 1) := by decide +kernel
theorem dX0_homeAct_155 : decode cX0_homeAct 155 = .ok (.iconst (-1), 1) := by decide +kernel
theorem dX0_homeAct_156 : decode cX0_homeAct 156 = .ok (.ixor, 1) := by decide +kernel
theorem dX0_homeAct_157 : decode cX0_homeAct 157 = .ok (.iand, 1) := by decide +kernel
theorem dX0_homeAct_158 : decode cX0_homeAct 158 = .ok (.invokevirtual 103, 3) := by decide +kernel
theorem dX0_homeAct_161 : decode cX0_homeAct 161 = .ok (.iconst 0, 1) := by decide +kernel
theorem dX0_homeAct_162 : decode cX0_homeAct 162 = .ok (.ireturn, 1) := by decide +kernel
theorem dX0_homeAct_163 : decode cX0_homeAct 163 = .ok (.aload_n 1, 1) := by decide +kernel
theorem dX0_homeAct_164 : decode cX0_homeAct 164 = .ok (.iconst 0, 1) := by decide +kernel
theorem dX0_homeAct_165 : decode cX0_homeAct 165 = .ok (.invokevirtual 103, 3) := by decide +kernel
theorem dX0_homeAct_168 : decode cX0_homeAct 168 = .ok (.iconst 0, 1) := by decide +kernel
theorem dX0_homeAct_169 : decode cX0_homeAct 169 = .ok (.ireturn, 1) := by decide +kernel
theorem dX0_homeAct_170 : decode cX0_homeAct 170 = .ok (.aload_n 1, 1) := by decide +kernel
theorem dX0_homeAct_171 : decode cX0_homeAct 171 = .ok (.aload_n 0, 1) := by decide +kernel
theorem dX0_homeAct_172 : decode cX0_homeAct 172 = .ok (.getfield 15, 3) := by decide +kernel
theorem dX0_homeAct_175 : decode cX0_homeAct 175 = .ok (.aload_n 0, 1) := by decide +kernel
theorem dX0_homeAct_176 : decode cX0_homeAct 176 = .ok (.getfield 22, 3) := by decide +kernel
theorem dX0_homeAct_179 : decode cX0_homeAct 179 = .ok (.invokevirtual 93, 3) := by decide +kernel
theorem dX0_homeAct_182 : decode cX0_homeAct 182 = .ok (.iconst 0, 1) := by decide +kernel
theorem dX0_homeAct_183 : decode cX0_homeAct 183 = .ok (.ireturn, 1) := by decide +kernel
theorem dX0_homeAct_184 : decode cX0_homeAct 184 = .ok (.iconst 0, 1) := by decide +kernel
theorem dX0_homeAct_185 : decode cX0_homeAct 185 = .ok (.ireturn, 1) := by decide +kernel
theorem dX0_send_0 : decode cX0_send 0 = .ok (.aload_n 0, 1) := by decide +kernel
theorem dX0_send_1 : decode cX0_send 1 = .ok (.getfield 9, 3) := by decide +kernel
theorem dX0_send_4 : decode cX0_send 4 = .ok (.iload_n 2, 1) := by decide +kernel
theorem dX0_send_5 : decode cX0_send 5 = .ok (.invokevirtual 106, 3) := by decide +kernel
theorem dX0_send_8 : decode cX0_send 8 = .ok (.istore 6, 2) := by decide +kernel
theorem dX0_send_10 : decode cX0_send 10 = .ok (.iconst 0, 1) := by decide +kernel
theorem dX0_send_11 : decode cX0_send 11 = .ok (.istore 7, 2) := by decide +kernel
theorem dX0_send_13 : decode cX0_send 13 = .ok (.iload 7, 2) := by decide +kernel
theorem dX0_send_15 : decode cX0_send 15 = .ok (.iconst 4, 1) := by decide +kernel
theorem dX0_send_16 : decode cX0_send 16 = .ok (.if_icmp .gt 56, 3) := by decide +kernel
theorem dX0_send_19 : decode cX0_send 19 = .ok (.iload_n 3, 1) := by decide +kernel
theorem dX0_send_20 : decode cX0_send 20 = .ok (.iload 7, 2) := by decide +kernel
theorem dX0_send_22 : decode cX0_send 22 = .ok (.ishr, 1) := by decide +kernel
theorem dX0_send_23 : decode cX0_send 23 = .ok (.iconst 1, 1) := by decide +kernel
theorem dX0_send_24 : decode cX0_send 24 = .ok (.iand, 1) := by decide +kernel
theorem dX0_send_25 : decode cX0_send 25 = .ok (.iconst 1, 1) := by decide +kernel
theorem dX0_send_26 : decode cX0_send 26 = .ok (.if_icmp .ne 7, 3) := by decide +kernel
theorem dX0_send_29 : decode cX0_send 29 = .ok (.iconst 1, 1) := by decide +kernel
theorem dX0_send_30 : decode cX0_send 30 = .ok (.goto 4, 3) := by decide +kernel
theorem dX0_send_33 : decode cX0_send 33 = .ok (.iconst 0, 1) := by decide +kernel
theorem dX0_send_34 : decode cX0_send 34 = .ok (.istore 8, 2) := by decide +kernel
theorem dX0_send_36 : decode cX0_send 36 = .ok (.iload 8, 2) := by decide +kernel
theorem dX0_send_38 : decode cX0_send 38 = .ok (.ifCond .eq 28, 3) := by decide +kernel
theorem dX0_send_41 : decode cX0_send 41 = .ok (.aload_n 1, 1) := by decide +kernel
theorem dX0_send_42 : decode cX0_send 42 = .ok (.iload_n 2, 1) := by decide +kernel
theorem dX0_send_43 : decode cX0_send 43 = .ok (.iload 6, 2) := by decide +kernel
theorem dX0_send_45 : decode cX0_send 45 = .ok (.aload_n 0, 1) := by decide +kernel
theorem dX0_send_46 : decode cX0_send 46 = .ok (.getfield 15, 3) := by decide +kernel
theorem dX0_send_49 : decode cX0_send 49 = .ok (.iload 7, 2) := by decide +kernel
theorem dX0_send_51 : decode cX0_send 51 = .ok (.iload 4, 2) := by decide +kernel
theorem dX0_send_53 : decode cX0_send 53 = .ok (.iload 5, 2) := by decide +kernel
theorem dX0_send_55 : decode cX0_send 55 = .ok (.invokestatic 109, 3) := by decide +kernel
theorem dX0_send_58 : decode cX0_send 58 = .ok (.invokevirtual 113, 3) := by decide +kernel
theorem dX0_send_61 : decode cX0_send 61 = .ok (.ifCond .ne 5, 3) := by decide +kernel
theorem dX0_send_64 : decode cX0_send 64 = .ok (.iconst 3, 1) := by decide +kernel
theorem dX0_send_65 : decode cX0_send 65 = .ok (.ireturn, 1) := by decide +kernel
theorem dX0_send_66 : decode cX0_send 66 = .ok (.iinc 7 1, 3) := by decide +kernel
theorem dX0_send_69 : decode cX0_send 69 = .ok (.goto (-56), 3) := by decide +kernel
theorem dX0_send_72 : decode cX0_send 72 = .ok (.iconst 0, 1) := by decide +kernel
theorem dX0_send_73 : decode cX0_send 73 = .ok (.ireturn, 1) := by decide +kernel
theorem dX1_init_0 : decode cX1_init 0 = .ok (.aload_n 0, 1) := by decide +kernel
theorem dX1_init_1 : decode cX1_init 1 = .ok (.invokespecial 3, 3) := by decide +kernel
theorem dX1_init_4 : decode cX1_init 4 = .ok (.aload_n 0, 1) := by decide +kernel
theorem dX1_init_5 : decode cX1_init 5 = .ok (.aload_n 1, 1) := by decide +kernel
theorem dX1_init_6 : decode cX1_init 6 = .ok (.putfield 9, 3) := by decide +kernel
theorem dX1_init_9 : decode cX1_init 9 = .ok (.aload_n 0, 1) := by decide +kernel
theorem dX1_init_10 : decode cX1_init 10 = .ok (.aload_n 2, 1) := by decide +kernel
theorem dX1_init_11 : decode cX1_init 11 = .ok (.putfield 15, 3) := by decide +kernel
theorem dX1_init_14 : decode cX1_init 14 = .ok (.aload_n 0, 1) := by decide +kernel
theorem dX1_init_15 : decode cX1_init 15 = .ok (.new 19, 3) := by decide +kernel
theorem dX1_init_18 : decode cX1_init 18 = .ok (.dup, 1) := by decide +kernel
theorem dX1_init_19 : decode cX1_init 19 = .ok (.invokespecial 21, 3) := by decide +kernel
theorem dX1_init_22 : decode cX1_init 22 = .ok (.putfield 22, 3) := by decide +kernel
theorem dX1_init_25 : decode cX1_init 25 = .ok (.aload_n 0, 1) := by decide +kernel
theorem dX1_init_26 : decode cX1_init 26 = .ok (.new 19, 3) := by decide +kernel
theorem dX1_init_29 : decode cX1_init 29 = .ok (.dup, 1) := by decide +kernel
theorem dX1_init_30 : decode cX1_init 30 = .ok (.invokespecial 21, 3) := by decide +kernel
theorem dX1_init_33 : decode cX1_init 33 = .ok (.putfield 26, 3) := by decide +kernel
theorem dX1_init_36 : decode cX1_init 36 = .ok (.aload_n 0, 1) := by decide +kernel
theorem dX1_init_37 : decode cX1_init 37 = .ok (.new 29, 3) := by decide +kernel
theorem dX1_init_40 : decode cX1_init 40 = .ok (.dup, 1) := by decide +kernel
theorem dX1_init_41 : decode cX1_init 41 = .ok (.aload_n 1, 1) := by decide +kernel
theorem dX1_init_42 : decode cX1_init 42 = .ok (.invokespecial 31, 3) := by decide +kernel
theorem dX1_init_45 : decode cX1_init 45 = .ok (.putfield 34, 3) := by decide +kernel
theorem dX1_init_48 : decode cX1_init 48 = .ok (.aload_n 0, 1) := by decide +kernel
theorem dX1_init_49 : decode cX1_init 49 = .ok (.new 38, 3) := by decide +kernel
theorem dX1_init_52 : decode cX1_init 52 = .ok (.dup, 1) := by decide +kernel
theorem dX1_init_53 : decode cX1_init 53 = .ok (.invokespecial 40, 3) := by decide +kernel
theorem dX1_init_56 : decode cX1_init 56 = .ok (.putfield 41, 3) := by decide +kernel
theorem dX1_init_59 : decode cX1_init 59 = .ok (.aload_n 0, 1) := by decide +kernel
theorem dX1_init_60 : decode cX1_init 60 = .ok (.new 45, 3) := by decide +kernel
theorem dX1_init_63 : decode cX1_init 63 = .ok (.dup, 1) := by decide +kernel
theorem dX1_init_64 : decode cX1_init 64 = .ok (.invokespecial 47, 3) := by decide +kernel
theorem dX1_init_67 : decode cX1_init 67 = .ok (.putfield 48, 3) := by decide +kernel
theorem dX1_init_70 : decode cX1_init 70 = .ok (.aload_n 0, 1) := by decide +kernel
theorem dX1_init_71 : decode cX1_init 71 = .ok (.new 52, 3) := by decide +kernel
theorem dX1_init_74 : decode cX1_init 74 = .ok (.dup, 1) := by decide +kernel
theorem dX1_init_75 : decode cX1_init 75 = .ok (.invokespecial 54, 3) := by decide +kernel
theorem dX1_init_78 : decode cX1_init 78 = .ok (.putfield 55, 3) := by decide +kernel
theorem dX1_init_81 : decode cX1_init 81 = .ok (.aload_n 0, 1) := by decide +kernel
theorem dX1_init_82 : decode cX1_init 82 = .ok (.new 52, 3) := by decide +kernel
theorem dX1_init_85 : decode cX1_init 85 = .ok (.dup, 1) := by decide +kernel
theorem dX1_init_86 : decode cX1_init 86 = .ok (.invokespecial 54, 3) := by decide +kernel
theorem dX1_init_89 : decode cX1_init 89 = .ok (.putfield 59, 3) := by decide +kernel
theorem dX1_init_92 : decode cX1_init 92 = .ok (.aload_n 0, 1) := by decide +kernel
theorem dX1_init_93 : decode cX1_init 93 = .ok (.new 62, 3) := by decide +kernel
theorem dX1_init_96 : decode cX1_init 96 = .ok (.dup, 1) := by decide +kernel
theorem dX1_init_97 : decode cX1_init 97 = .ok (.invokespecial 64, 3) := by decide +kernel
theorem dX1_init_100 : decode cX1_init 100 = .ok (.putfield 65, 3) := by decide +kernel
theorem dX1_init_103 : decode cX1_init 103 = .ok (.aload_n 0, 1) := by decide +kernel
theorem dX1_init_104 : decode cX1_init 104 = .ok (.sipush 4000, 3) := by decide +kernel
theorem dX1_init_107 : decode cX1_init 107 = .ok (.newarray .int, 2) := by decide +kernel
theorem dX1_init_109 : decode cX1_init 109 = .ok (.putfield 69, 3) := by decide +kernel
theorem dX1_init_112 : decode cX1_init 112 = .ok (.aload_n 0, 1) := by decide +kernel
theorem dX1_init_113 : decode cX1_init 113 = .ok (.sipush 4000, 3) := by decide +kernel
theorem dX1_init_116 : decode cX1_init 116 = .ok (.newarray .int, 2) := by decide +kernel
theorem dX1_init_118 : decode cX1_init 118 = .ok (.putfield 73, 3) := by decide +kernel
theorem dX1_init_121 : decode cX1_init 121 = .ok (.aload_n 0, 1) := by decide +kernel
theorem dX1_init_122 : decode cX1_init 122 = .ok (.sipush 2048, 3) := by decide +kernel
theorem dX1_init_125 : decode cX1_init 125 = .ok (.newarray .int, 2) := by decide +kernel
theorem dX1_init_127 : decode cX1_init 127 = .ok (.putfield 76, 3) := by decide +kernel
theorem dX1_init_130 : decode cX1_init 130 = .ok (.aload_n 0, 1) := by decide +kernel
theorem dX1_init_131 : decode cX1_init 131 = .ok (.iconst 0, 1) := by decide +kernel
theorem dX1_init_132 : decode cX1_init 132 = .ok (.putfield 79, 3) := by decide +kernel
theorem dX1_init_135 : decode cX1_init 135 = .ok (.aload_n 0, 1) := by decide +kernel
theorem dX1_init_136 : decode cX1_init 136 = .ok (.iconst 0, 1) := by decide +kernel
theorem dX1_init_137 : decode cX1_init 137 = .ok (.putfield 83, 3) := by decide +kernel
theorem dX1_init_140 : decode cX1_init 140 = .ok (.aload_n 0, 1) := by decide +kernel
theorem dX1_init_141 : decode cX1_init 141 = .ok (.iconst 0, 1) := by decide +kernel
theorem dX1_init_142 : decode cX1_init 142 = .ok (.putfield 86, 3) := by decide +kernel
theorem dX1_init_145 : decode cX1_init 145 = .ok (.aload_n 0, 1) := by decide +kernel
theorem dX1_init_146 : decode cX1_init 146 = .ok (.iconst 0, 1) := by decide +kernel
theorem dX1_init_147 : decode cX1_init 147 = .ok (.putfield 89, 3) := by decide +kernel
theorem dX1_init_150 : decode cX1_init 150 = .ok (.return_, 1) := by decide +kernel
theorem dX1_begin_0 : decode cX1_begin 0 = .ok (.aload_n 0, 1) := by decide +kernel
theorem dX1_begin_1 : decode cX1_begin 1 = .ok (.getfield 41, 3) := by decide +kernel
theorem dX1_begin_4 : decode cX1_begin 4 = .ok (.invokevirtual 93, 3) := by decide +kernel
theorem dX1_begin_7 : decode cX1_begin 7 = .ok (.aload_n 0, 1) := by decide +kernel
theorem dX1_begin_8 : decode cX1_begin 8 = .ok (.getfield 48, 3) := by decide +kernel
theorem dX1_begin_11 : decode cX1_begin 11 = .ok (.invokevirtual 96, 3) := by decide +kernel
theorem dX1_begin_14 : decode cX1_begin 14 = .ok (.aload_n 0, 1) := by decide +kernel
theorem dX1_begin_15 : decode cX1_begin 15 = .ok (.getfield 55, 3) := by decide +kernel
theorem dX1_begin_18 : decode cX1_begin 18 = .ok (.invokevirtual 97, 3) := by decide +kernel
theorem dX1_begin_21 : decode cX1_begin 21 = .ok (.aload_n 0, 1) := by decide +kernel
theorem dX1_begin_22 : decode cX1_begin 22 = .ok (.getfield 59, 3) := by decide +kernel
theorem dX1_begin_25 : decode cX1_begin 25 = .ok (.invokevirtual 97, 3) := by decide +kernel
theorem dX1_begin_28 : decode cX1_begin 28 = .ok (.aload_n 0, 1) := by decide +kernel
theorem dX1_begin_29 : decode cX1_begin 29 = .ok (.getfield 65, 3) := by decide +kernel
theorem dX1_begin_32 : decode cX1_begin 32 = .ok (.invokevirtual 98, 3) := by decide +kernel
theorem dX1_begin_35 : decode cX1_begin 35 = .ok (.aload_n 0, 1) := by decide +kernel
theorem dX1_begin_36 : decode cX1_begin 36 = .ok (.getfield 76, 3) := by decide +kernel
theorem dX1_begin_39 : decode cX1_begin 39 = .ok (.iconst 0, 1) := by decide +kernel
theorem dX1_begin_40 : decode cX1_begin 40 = .ok (.invokestatic 99, 3) := by decide +kernel
theorem dX1_begin_43 : decode cX1_begin 43 = .ok (.aload_n 0, 1) := by decide +kernel
theorem dX1_begin_44 : decode cX1_begin 44 = .ok (.iload_n 1, 1) := by decide +kernel
theorem dX1_begin_45 : decode cX1_begin 45 = .ok (.putfield 79, 3) := by decide +kernel
theorem dX1_begin_48 : decode cX1_begin 48 = .ok (.aload_n 0, 1) := by decide +kernel
theorem dX1_begin_49 : decode cX1_begin 49 = .ok (.iconst 0, 1) := by decide +kernel
theorem dX1_begin_50 : decode cX1_begin 50 = .ok (.putfield 83, 3) := by decide +kernel
theorem dX1_begin_53 : decode cX1_begin 53 = .ok (.aload_n 0, 1) := by decide +kernel
theorem dX1_begin_54 : decode cX1_begin 54 = .ok (.iconst 0, 1) := by decide +kernel
theorem dX1_begin_55 : decode cX1_begin 55 = .ok (.putfield 86, 3) := by decide +kernel
theorem dX1_begin_58 : decode cX1_begin 58 = .ok (.aload_n 0, 1) := by decide +kernel
theorem dX1_begin_59 : decode cX1_begin 59 = .ok (.iconst 0, 1) := by decide +kernel
theorem dX1_begin_60 : decode cX1_begin 60 = .ok (.putfield 89, 3) := by decide +kernel
theorem dX1_begin_63 : decode cX1_begin 63 = .ok (.aload_n 0, 1) := by decide +kernel
theorem dX1_begin_64 : decode cX1_begin 64 = .ok (.getfield 26, 3) := by decide +kernel
theorem dX1_begin_67 : decode cX1_begin 67 = .ok (.aload_n 0, 1) := by decide +kernel
theorem dX1_begin_68 : decode cX1_begin 68 = .ok (.getfield 9, 3) := by decide +kernel
theorem dX1_begin_71 : decode cX1_begin 71 = .ok (.invokevirtual 105, 3) := by decide +kernel
theorem dX1_begin_74 : decode cX1_begin 74 = .ok (.invokevirtual 111, 3) := by decide +kernel
theorem dX1_begin_77 : decode cX1_begin 77 = .ok (.aload_n 0, 1) := by decide +kernel
theorem dX1_begin_78 : decode cX1_begin 78 = .ok (.iconst (-1), 1) := by decide +kernel
theorem dX1_begin_79 : decode cX1_begin 79 = .ok (.iconst 0, 1) := by decide +kernel
theorem dX1_begin_80 : decode cX1_begin 80 = .ok (.invokevirtual 115, 3) := by decide +kernel
theorem dX1_begin_83 : decode cX1_begin 83 = .ok (.pop, 1) := by decide +kernel
theorem dX1_begin_84 : decode cX1_begin 84 = .ok (.return_, 1) := by decide +kernel
theorem dX1_visit_0 : decode cX1_visit 0 = .ok (.aload_n 0, 1) := by decide +kernel
theorem dX1_visit_1 : decode cX1_visit 1 = .ok (.getfield 41, 3) := by decide +kernel
theorem dX1_visit_4 : decode cX1_visit 4 = .ok (.iload_n 1, 1) := by decide +kernel
theorem dX1_visit_5 : decode cX1_visit 5 = .ok (.aload_n 0, 1) := by decide +kernel
theorem dX1_visit_6 : decode cX1_visit 6 = .ok (.getfield 22, 3) := by decide +kernel
theorem dX1_visit_9 : decode cX1_visit 9 = .ok (.invokevirtual 119, 3) := by decide +kernel
theorem dX1_visit_12 : decode cX1_visit 12 = .ok (.aload_n 0, 1) := by decide +kernel
theorem dX1_visit_13 : decode cX1_visit 13 = .ok (.getfield 34, 3) := by decide +kernel
theorem dX1_visit_16 : decode cX1_visit 16 = .ok (.aload_n 0, 1) := by decide +kernel
theorem dX1_visit_17 : decode cX1_visit 17 = .ok (.getfield 22, 3) := by decide +kernel
theorem dX1_visit_20 : decode cX1_visit 20 = .ok (.invokevirtual 123, 3) := by decide +kernel
theorem dX1_visit_23 : decode cX1_visit 23 = .ok (.aload_n 0, 1) := by decide +kernel
theorem dX1_visit_24 : decode cX1_visit 24 = .ok (.getfield 22, 3) := by decide +kernel
theorem dX1_visit_27 : decode cX1_visit 27 = .ok (.invokevirtual 127, 3) := by decide +kernel
theorem dX1_visit_30 : decode cX1_visit 30 = .ok (.ifCond .eq 24, 3) := by decide +kernel
theorem dX1_visit_33 : decode cX1_visit 33 = .ok (.aload_n 0, 1) := by decide +kernel
theorem dX1_visit_34 : decode cX1_visit 34 = .ok (.dup, 1) := by decide +kernel
theorem dX1_visit_35 : decode cX1_visit 35 = .ok (.getfield 86, 3) := by decide +kernel
theorem dX1_visit_38 : decode cX1_visit 38 = .ok (.iconst 1, 1) := by decide +kernel
theorem dX1_visit_39 : decode cX1_visit 39 = .ok (.iadd, 1) := by decide +kernel
theorem dX1_visit_40 : decode cX1_visit 40 = .ok (.putfield 86, 3) := by decide +kernel
theorem dX1_visit_43 : decode cX1_visit 43 = .ok (.aload_n 0, 1) := by decide +kernel
theorem dX1_visit_44 : decode cX1_visit 44 = .ok (.getfield 65, 3) := by decide +kernel
theorem dX1_visit_47 : decode cX1_visit 47 = .ok (.iload_n 1, 1) := by decide +kernel
theorem dX1_visit_48 : decode cX1_visit 48 = .ok (.invokevirtual 131, 3) := by decide +kernel
theorem dX1_visit_51 : decode cX1_visit 51 = .ok (.goto 21, 3) := by decide +kernel
theorem dX1_visit_54 : decode cX1_visit 54 = .ok (.aload_n 0, 1) := by decide +kernel
theorem dX1_visit_55 : decode cX1_visit 55 = .ok (.getfield 34, 3) := by decide +kernel
theorem dX1_visit_58 : decode cX1_visit 58 = .ok (.invokevirtual 134, 3) := by decide +kernel
theorem dX1_visit_61 : decode cX1_visit 61 = .ok (.ifCond .ne 11, 3) := by decide +kernel
theorem dX1_visit_64 : decode cX1_visit 64 = .ok (.aload_n 0, 1) := by decide +kernel
theorem dX1_visit_65 : decode cX1_visit 65 = .ok (.getfield 55, 3) := by decide +kernel
theorem dX1_visit_68 : decode cX1_visit 68 = .ok (.iload_n 1, 1) := by decide +kernel
theorem dX1_visit_69 : decode cX1_visit 69 = .ok (.invokevirtual 137, 3) := by decide +kernel
theorem dX1_visit_72 : decode cX1_visit 72 = .ok (.iconst 0, 1) := by decide +kernel
theorem dX1_visit_73 : decode cX1_visit 73 = .ok (.istore_n 2, 1) := by decide +kernel
theorem dX1_visit_74 : decode cX1_visit 74 = .ok (.iload_n 2, 1) := by decide +kernel
theorem dX1_visit_75 : decode cX1_visit 75 = .ok (.aload_n 0, 1) := by decide +kernel
theorem dX1_visit_76 : decode cX1_visit 76 = .ok (.getfield 34, 3) := by decide +kernel
theorem dX1_visit_79 : decode cX1_visit 79 = .ok (.invokevirtual 134, 3) := by decide +kernel
theorem dX1_visit_82 : decode cX1_visit 82 = .ok (.if_icmp .ge 15, 3) := by decide +kernel
theorem dX1_visit_85 : decode cX1_visit 85 = .ok (.aload_n 0, 1) := by decide +kernel
theorem dX1_visit_86 : decode cX1_visit 86 = .ok (.iload_n 1, 1) := by decide +kernel
theorem dX1_visit_87 : decode cX1_visit 87 = .ok (.iload_n 2, 1) := by decide +kernel
theorem dX1_visit_88 : decode cX1_visit 88 = .ok (.invokevirtual 140, 3) := by decide +kernel
theorem dX1_visit_91 : decode cX1_visit 91 = .ok (.iinc 2 1, 3) := by decide +kernel
theorem dX1_visit_94 : decode cX1_visit 94 = .ok (.goto (-20), 3) := by decide +kernel
theorem dX1_visit_97 : decode cX1_visit 97 = .ok (.return_, 1) := by decide +kernel
theorem dX1_finish_0 : decode cX1_finish 0 = .ok (.aload_n 0, 1) := by decide +kernel
theorem dX1_finish_1 : decode cX1_finish 1 = .ok (.getfield 65, 3) := by decide +kernel
theorem dX1_finish_4 : decode cX1_finish 4 = .ok (.invokevirtual 144, 3) := by decide +kernel
theorem dX1_finish_7 : decode cX1_finish 7 = .ok (.iconst 0, 1) := by decide +kernel
theorem dX1_finish_8 : decode cX1_finish 8 = .ok (.istore_n 1, 1) := by decide +kernel
theorem dX1_finish_9 : decode cX1_finish 9 = .ok (.iload_n 1, 1) := by decide +kernel
theorem dX1_finish_10 : decode cX1_finish 10 = .ok (.aload_n 0, 1) := by decide +kernel
theorem dX1_finish_11 : decode cX1_finish 11 = .ok (.getfield 41, 3) := by decide +kernel
theorem dX1_finish_14 : decode cX1_finish 14 = .ok (.invokevirtual 147, 3) := by decide +kernel
theorem dX1_finish_17 : decode cX1_finish 17 = .ok (.if_icmp .ge 28, 3) := by decide +kernel
theorem dX1_finish_20 : decode cX1_finish 20 = .ok (.aload_n 0, 1) := by decide +kernel
theorem dX1_finish_21 : decode cX1_finish 21 = .ok (.getfield 65, 3) := by decide +kernel
theorem dX1_finish_24 : decode cX1_finish 24 = .ok (.iload_n 1, 1) := by decide +kernel
theorem dX1_finish_25 : decode cX1_finish 25 = .ok (.invokevirtual 148, 3) := by decide +kernel
theorem dX1_finish_28 : decode cX1_finish 28 = .ok (.ifCond .ne 11, 3) := by decide +kernel
theorem dX1_finish_31 : decode cX1_finish 31 = .ok (.aload_n 0, 1) := by decide +kernel
theorem dX1_finish_32 : decode cX1_finish 32 = .ok (.getfield 59, 3) := by decide +kernel
theorem dX1_finish_35 : decode cX1_finish 35 = .ok (.iload_n 1, 1) := by decide +kernel
theorem dX1_finish_36 : decode cX1_finish 36 = .ok (.invokevirtual 137, 3) := by decide +kernel
theorem dX1_finish_39 : decode cX1_finish 39 = .ok (.iinc 1 1, 3) := by decide +kernel
theorem dX1_finish_42 : decode cX1_finish 42 = .ok (.goto (-33), 3) := by decide +kernel
theorem dX1_finish_45 : decode cX1_finish 45 = .ok (.return_, 1) := by decide +kernel
theorem dX1_tryStep_0 : decode cX1_tryStep 0 = .ok (.aload_n 0, 1) := by decide +kernel
theorem dX1_tryStep_1 : decode cX1_tryStep 1 = .ok (.dup, 1) := by decide +kernel
theorem dX1_tryStep_2 : decode cX1_tryStep 2 = .ok (.getfield 83, 3) := by decide +kernel
theorem dX1_tryStep_5 : decode cX1_tryStep 5 = .ok (.iconst 1, 1) := by decide +kernel
theorem dX1_tryStep_6 : decode cX1_tryStep 6 = .ok (.iadd, 1) := by decide +kernel
theorem dX1_tryStep_7 : decode cX1_tryStep 7 = .ok (.putfield 83, 3) := by decide +kernel
theorem dX1_tryStep_10 : decode cX1_tryStep 10 = .ok (.aload_n 0, 1) := by decide +kernel
theorem dX1_tryStep_11 : decode cX1_tryStep 11 = .ok (.aload_n 0, 1) := by decide +kernel
theorem dX1_tryStep_12 : decode cX1_tryStep 12 = .ok (.getfield 34, 3) := by decide +kernel
theorem dX1_tryStep_15 : decode cX1_tryStep 15 = .ok (.iload_n 2, 1) := by decide +kernel
theorem dX1_tryStep_16 : decode cX1_tryStep 16 = .ok (.invokevirtual 152, 3) := by decide +kernel
theorem dX1_tryStep_19 : decode cX1_tryStep 19 = .ok (.invokevirtual 156, 3) := by decide +kernel
theorem dX1_tryStep_22 : decode cX1_tryStep 22 = .ok (.aload_n 0, 1) := by decide +kernel
theorem dX1_tryStep_23 : decode cX1_tryStep 23 = .ok (.getfield 26, 3) := by decide +kernel
theorem dX1_tryStep_26 : decode cX1_tryStep 26 = .ok (.aload_n 0, 1) := by decide +kernel
theorem dX1_tryStep_27 : decode cX1_tryStep 27 = .ok (.getfield 22, 3) := by decide +kernel
theorem dX1_tryStep_30 : decode cX1_tryStep 30 = .ok (.invokevirtual 159, 3) := by decide +kernel
theorem dX1_tryStep_33 : decode cX1_tryStep 33 = .ok (.aload_n 0, 1) := by decide +kernel
theorem dX1_tryStep_34 : decode cX1_tryStep 34 = .ok (.getfield 15, 3) := by decide +kernel
theorem dX1_tryStep_37 : decode cX1_tryStep 37 = .ok (.aload_n 0, 1) := by decide +kernel
theorem dX1_tryStep_38 : decode cX1_tryStep 38 = .ok (.getfield 26, 3) := by decide +kernel
theorem dX1_tryStep_41 : decode cX1_tryStep 41 = .ok (.aload_n 0, 1) := by decide +kernel
theorem dX1_tryStep_42 : decode cX1_tryStep 42 = .ok (.getfield 34, 3) := by decide +kernel
theorem dX1_tryStep_45 : decode cX1_tryStep 45 = .ok (.iload_n 2, 1) := by decide +kernel
theorem dX1_tryStep_46 : decode cX1_tryStep 46 = .ok (.invokevirtual 162, 3) := by decide +kernel
theorem dX1_tryStep_49 : decode cX1_tryStep 49 = .ok (.istore_n 3, 1) := by decide +kernel
theorem dX1_tryStep_50 : decode cX1_tryStep 50 = .ok (.iload_n 3, 1) := by decide +kernel
theorem dX1_tryStep_51 : decode cX1_tryStep 51 = .ok (.ifCond .eq 14, 3) := by decide +kernel
theorem dX1_tryStep_54 : decode cX1_tryStep 54 = .ok (.aload_n 0, 1) := by decide +kernel
theorem dX1_tryStep_55 : decode cX1_tryStep 55 = .ok (.getfield 48, 3) := by decide +kernel
theorem dX1_tryStep_58 : decode cX1_tryStep 58 = .ok (.iload_n 3, 1) := by decide +kernel
theorem dX1_tryStep_59 : decode cX1_tryStep 59 = .ok (.iload_n 1, 1) := by decide +kernel
theorem dX1_tryStep_60 : decode cX1_tryStep 60 = .ok (.iload_n 2, 1) := by decide +kernel
theorem dX1_tryStep_61 : decode cX1_tryStep 61 = .ok (.invokevirtual 168, 3) := by decide +kernel
theorem dX1_tryStep_64 : decode cX1_tryStep 64 = .ok (.return_, 1) := by decide +kernel
theorem dX1_tryStep_65 : decode cX1_tryStep 65 = .ok (.iload_n 1, 1) := by decide +kernel
theorem dX1_tryStep_66 : decode cX1_tryStep 66 = .ok (.bipush 20, 2) := by decide +kernel
theorem dX1_tryStep_68 : decode cX1_tryStep 68 = .ok (.imul, 1) := by decide +kernel
theorem dX1_tryStep_69 : decode cX1_tryStep 69 = .ok (.iload_n 2, 1) := by decide +kernel
theorem dX1_tryStep_70 : decode cX1_tryStep 70 = .ok (.iadd, 1) := by decide +kernel
theorem dX1_tryStep_71 : decode cX1_tryStep 71 = .ok (.istore 4, 2) := by decide +kernel
theorem dX1_tryStep_73 : decode cX1_tryStep 73 = .ok (.aload_n 0, 1) := by decide +kernel
theorem dX1_tryStep_74 : decode cX1_tryStep 74 = .ok (.getfield 41, 3) := by decide +kernel
theorem dX1_tryStep_77 : decode cX1_tryStep 77 = .ok (.aload_n 0, 1) := by decide +kernel
theorem dX1_tryStep_78 : decode cX1_tryStep 78 = .ok (.getfield 26, 3) := by decide +kernel
theorem dX1_tryStep_81 : decode cX1_tryStep 81 = .ok (.invokevirtual 171, 3) := by decide +kernel
theorem dX1_tryStep_84 : decode cX1_tryStep 84 = .ok (.istore 5, 2) := by decide +kernel
theorem dX1_tryStep_86 : decode cX1_tryStep 86 = .ok (.iload 5, 2) := by decide +kernel
theorem dX1_tryStep_88 : decode cX1_tryStep 88 = .ok (.iconst (-1), 1) := by decide +kernel
theorem dX1_tryStep_89 : decode cX1_tryStep 89 = .ok (.if_icmp .ne 19, 3) := by decide +kernel
theorem dX1_tryStep_92 : decode cX1_tryStep 92 = .ok (.aload_n 0, 1) := by decide +kernel
theorem dX1_tryStep_93 : decode cX1_tryStep 93 = .ok (.iload 4, 2) := by decide +kernel
theorem dX1_tryStep_95 : decode cX1_tryStep 95 = .ok (.aload_n 0, 1) := by decide +kernel
theorem dX1_tryStep_96 : decode cX1_tryStep 96 = .ok (.getfield 73, 3) := by decide +kernel
theorem dX1_tryStep_99 : decode cX1_tryStep 99 = .ok (.iload_n 1, 1) := by decide +kernel
theorem dX1_tryStep_100 : decode cX1_tryStep 100 = .ok (.iaload, 1) := by decide +kernel
theorem dX1_tryStep_101 : decode cX1_tryStep 101 = .ok (.iconst 1, 1) := by decide +kernel
theorem dX1_tryStep_102 : decode cX1_tryStep 102 = .ok (.iadd, 1) := by decide +kernel
theorem dX1_tryStep_103 : decode cX1_tryStep 103 = .ok (.invokevirtual 115, 3) := by decide +kernel
theorem dX1_tryStep_106 : decode cX1_tryStep 106 = .ok (.istore 5, 2) := by decide +kernel
theorem dX1_tryStep_108 : decode cX1_tryStep 108 = .ok (.iload 5, 2) := by decide +kernel
theorem dX1_tryStep_110 : decode cX1_tryStep 110 = .ok (.iconst (-1), 1) := by decide +kernel
theorem dX1_tryStep_111 : decode cX1_tryStep 111 = .ok (.if_icmp .eq 14, 3) := by decide +kernel
theorem dX1_tryStep_114 : decode cX1_tryStep 114 = .ok (.aload_n 0, 1) := by decide +kernel
theorem dX1_tryStep_115 : decode cX1_tryStep 115 = .ok (.getfield 65, 3) := by decide +kernel
theorem dX1_tryStep_118 : decode cX1_tryStep 118 = .ok (.iload 4, 2) := by decide +kernel
theorem dX1_tryStep_120 : decode cX1_tryStep 120 = .ok (.iload 5, 2) := by decide +kernel
theorem dX1_tryStep_122 : decode cX1_tryStep 122 = .ok (.invokevirtual 175, 3) := by decide +kernel
theorem dX1_tryStep_125 : decode cX1_tryStep 125 = .ok (.return_, 1) := by decide +kernel
theorem dX1_markUsed_0 : decode cX1_markUsed 0 = .ok (.aload_n 0, 1) := by decide +kernel
theorem dX1_markUsed_1 : decode cX1_markUsed 1 = .ok (.getfield 9, 3) := by decide +kernel
theorem dX1_markUsed_4 : decode cX1_markUsed 4 = .ok (.iload_n 1, 1) := by decide +kernel
theorem dX1_markUsed_5 : decode cX1_markUsed 5 = .ok (.invokevirtual 178, 3) := by decide +kernel
theorem dX1_markUsed_8 : decode cX1_markUsed 8 = .ok (.ifCond .eq 10, 3) := by decide +kernel
theorem dX1_markUsed_11 : decode cX1_markUsed 11 = .ok (.aload_n 0, 1) := by decide +kernel
theorem dX1_markUsed_12 : decode cX1_markUsed 12 = .ok (.getfield 76, 3) := by decide +kernel
theorem dX1_markUsed_15 : decode cX1_markUsed 15 = .ok (.iload_n 1, 1) := by decide +kernel
theorem dX1_markUsed_16 : decode cX1_markUsed 16 = .ok (.iconst 1, 1) := by decide +kernel
theorem dX1_markUsed_17 : decode cX1_markUsed 17 = .ok (.iastore, 1) := by decide +kernel
theorem dX1_markUsed_18 : decode cX1_markUsed 18 = .ok (.return_, 1) := by decide +kernel
theorem dX1_keepTrial_0 : decode cX1_keepTrial 0 = .ok (.aload_n 0, 1) := by decide +kernel
theorem dX1_keepTrial_1 : decode cX1_keepTrial 1 = .ok (.getfield 41, 3) := by decide +kernel
theorem dX1_keepTrial_4 : decode cX1_keepTrial 4 = .ok (.invokevirtual 147, 3) := by decide +kernel
theorem dX1_keepTrial_7 : decode cX1_keepTrial 7 = .ok (.aload_n 0, 1) := by decide +kernel
theorem dX1_keepTrial_8 : decode cX1_keepTrial 8 = .ok (.getfield 79, 3) := by decide +kernel
theorem dX1_keepTrial_11 : decode cX1_keepTrial 11 = .ok (.if_icmp .lt 10, 3) := by decide +kernel
theorem dX1_keepTrial_14 : decode cX1_keepTrial 14 = .ok (.aload_n 0, 1) := by decide +kernel
theorem dX1_keepTrial_15 : decode cX1_keepTrial 15 = .ok (.iconst 1, 1) := by decide +kernel
theorem dX1_keepTrial_16 : decode cX1_keepTrial 16 = .ok (.putfield 89, 3) := by decide +kernel
theorem dX1_keepTrial_19 : decode cX1_keepTrial 19 = .ok (.iconst (-1), 1) := by decide +kernel
theorem dX1_keepTrial_20 : decode cX1_keepTrial 20 = .ok (.ireturn, 1) := by decide +kernel
theorem dX1_keepTrial_21 : decode cX1_keepTrial 21 = .ok (.aload_n 0, 1) := by decide +kernel
theorem dX1_keepTrial_22 : decode cX1_keepTrial 22 = .ok (.getfield 41, 3) := by decide +kernel
theorem dX1_keepTrial_25 : decode cX1_keepTrial 25 = .ok (.aload_n 0, 1) := by decide +kernel
theorem dX1_keepTrial_26 : decode cX1_keepTrial 26 = .ok (.getfield 26, 3) := by decide +kernel
theorem dX1_keepTrial_29 : decode cX1_keepTrial 29 = .ok (.invokevirtual 181, 3) := by decide +kernel
theorem dX1_keepTrial_32 : decode cX1_keepTrial 32 = .ok (.istore_n 3, 1) := by decide +kernel
theorem dX1_keepTrial_33 : decode cX1_keepTrial 33 = .ok (.aload_n 0, 1) := by decide +kernel
theorem dX1_keepTrial_34 : decode cX1_keepTrial 34 = .ok (.getfield 69, 3) := by decide +kernel
theorem dX1_keepTrial_37 : decode cX1_keepTrial 37 = .ok (.iload_n 3, 1) := by decide +kernel
theorem dX1_keepTrial_38 : decode cX1_keepTrial 38 = .ok (.iload_n 1, 1) := by decide +kernel
theorem dX1_keepTrial_39 : decode cX1_keepTrial 39 = .ok (.iastore, 1) := by decide +kernel
theorem dX1_keepTrial_40 : decode cX1_keepTrial 40 = .ok (.aload_n 0, 1) := by decide +kernel
theorem dX1_keepTrial_41 : decode cX1_keepTrial 41 = .ok (.getfield 73, 3) := by decide +kernel
theorem dX1_keepTrial_44 : decode cX1_keepTrial 44 = .ok (.iload_n 3, 1) := by decide +kernel
theorem dX1_keepTrial_45 : decode cX1_keepTrial 45 = .ok (.iload_n 2, 1) := by decide +kernel
theorem dX1_keepTrial_46 : decode cX1_keepTrial 46 = .ok (.iastore, 1) := by decide +kernel
theorem dX1_keepTrial_47 : decode cX1_keepTrial 47 = .ok (.aload_n 0, 1) := by decide +kernel
theorem dX1_keepTrial_48 : decode cX1_keepTrial 48 = .ok (.getfield 65, 3) := by decide +kernel
theorem dX1_keepTrial_51 : decode cX1_keepTrial 51 = .ok (.iload_n 3, 1) := by decide +kernel
theorem dX1_keepTrial_52 : decode cX1_keepTrial 52 = .ok (.invokevirtual 184, 3) := by decide +kernel
theorem dX1_keepTrial_55 : decode cX1_keepTrial 55 = .ok (.aload_n 0, 1) := by decide +kernel
theorem dX1_keepTrial_56 : decode cX1_keepTrial 56 = .ok (.getfield 9, 3) := by decide +kernel
theorem dX1_keepTrial_59 : decode cX1_keepTrial 59 = .ok (.aload_n 0, 1) := by decide +kernel
theorem dX1_keepTrial_60 : decode cX1_keepTrial 60 = .ok (.getfield 26, 3) := by decide +kernel
theorem dX1_keepTrial_63 : decode cX1_keepTrial 63 = .ok (.invokevirtual 187, 3) := by decide +kernel
theorem dX1_keepTrial_66 : decode cX1_keepTrial 66 = .ok (.istore 4, 2) := by decide +kernel
theorem dX1_keepTrial_68 : decode cX1_keepTrial 68 = .ok (.iload 4, 2) := by decide +kernel
theorem dX1_keepTrial_70 : decode cX1_keepTrial 70 = .ok (.ifCond .eq 14, 3) := by decide +kernel
theorem dX1_keepTrial_73 : decode cX1_keepTrial 73 = .ok (.aload_n 0, 1) := by decide +kernel
theorem dX1_keepTrial_74 : decode cX1_keepTrial 74 = .ok (.getfield 48, 3) := by decide +kernel
theorem dX1_keepTrial_77 : decode cX1_keepTrial 77 = .ok (.iload 4, 2) := by decide +kernel
theorem dX1_keepTrial_79 : decode cX1_keepTrial 79 = .ok (.iload_n 3, 1) := by decide +kernel
theorem dX1_keepTrial_80 : decode cX1_keepTrial 80 = .ok (.iconst (-1), 1) := by decide +kernel
theorem dX1_keepTrial_81 : decode cX1_keepTrial 81 = .ok (.invokevirtual 168, 3) := by decide +kernel
theorem dX1_keepTrial_84 : decode cX1_keepTrial 84 = .ok (.iload_n 3, 1) := by decide +kernel
theorem dX1_keepTrial_85 : decode cX1_keepTrial 85 = .ok (.ireturn, 1) := by decide +kernel
theorem dX1_figure_0 : decode cX1_figure 0 = .ok (.iload_n 1, 1) := by decide +kernel
theorem dX1_figure_1 : decode cX1_figure 1 = .ok (.tableswitch 107 0 7 #[47, 55, 60, 68, 76, 84, 89, 102], 47) := by decide +kernel
theorem dX1_figure_48 : decode cX1_figure 48 = .ok (.aload_n 0, 1) := by decide +kernel
theorem dX1_figure_49 : decode cX1_figure 49 = .ok (.getfield 41, 3) := by decide +kernel
theorem dX1_figure_52 : decode cX1_figure 52 = .ok (.invokevirtual 147, 3) := by decide +kernel
theorem dX1_figure_55 : decode cX1_figure 55 = .ok (.ireturn, 1) := by decide +kernel
theorem dX1_figure_56 : decode cX1_figure 56 = .ok (.aload_n 0, 1) := by decide +kernel
theorem dX1_figure_57 : decode cX1_figure 57 = .ok (.getfield 83, 3) := by decide +kernel
theorem dX1_figure_60 : decode cX1_figure 60 = .ok (.ireturn, 1) := by decide +kernel
theorem dX1_figure_61 : decode cX1_figure 61 = .ok (.aload_n 0, 1) := by decide +kernel
theorem dX1_figure_62 : decode cX1_figure 62 = .ok (.getfield 48, 3) := by decide +kernel
theorem dX1_figure_65 : decode cX1_figure 65 = .ok (.invokevirtual 190, 3) := by decide +kernel
theorem dX1_figure_68 : decode cX1_figure 68 = .ok (.ireturn, 1) := by decide +kernel
theorem dX1_figure_69 : decode cX1_figure 69 = .ok (.aload_n 0, 1) := by decide +kernel
theorem dX1_figure_70 : decode cX1_figure 70 = .ok (.getfield 55, 3) := by decide +kernel
theorem dX1_figure_73 : decode cX1_figure 73 = .ok (.invokevirtual 191, 3) := by decide +kernel
theorem dX1_figure_76 : decode cX1_figure 76 = .ok (.ireturn, 1) := by decide +kernel
theorem dX1_figure_77 : decode cX1_figure 77 = .ok (.aload_n 0, 1) := by decide +kernel
theorem dX1_figure_78 : decode cX1_figure 78 = .ok (.getfield 59, 3) := by decide +kernel
theorem dX1_figure_81 : decode cX1_figure 81 = .ok (.invokevirtual 191, 3) := by decide +kernel
theorem dX1_figure_84 : decode cX1_figure 84 = .ok (.ireturn, 1) := by decide +kernel
theorem dX1_figure_85 : decode cX1_figure 85 = .ok (.aload_n 0, 1) := by decide +kernel
theorem dX1_figure_86 : decode cX1_figure 86 = .ok (.invokevirtual 192, 3) := by decide +kernel
theorem dX1_figure_89 : decode cX1_figure 89 = .ok (.ireturn, 1) := by decide +kernel
theorem dX1_figure_90 : decode cX1_figure 90 = .ok (.aload_n 0, 1) := by decide +kernel
theorem dX1_figure_91 : decode cX1_figure 91 = .ok (.getfield 89, 3) := by decide +kernel
theorem dX1_figure_94 : decode cX1_figure 94 = .ok (.ifCond .eq 7, 3) := by decide +kernel
theorem dX1_figure_97 : decode cX1_figure 97 = .ok (.iconst 1, 1) := by decide +kernel
theorem dX1_figure_98 : decode cX1_figure 98 = .ok (.goto 4, 3) := by decide +kernel
theorem dX1_figure_101 : decode cX1_figure 101 = .ok (.iconst 0, 1) := by decide +kernel
theorem dX1_figure_102 : decode cX1_figure 102 = .ok (.ireturn, 1) := by decide +kernel
theorem dX1_figure_103 : decode cX1_figure 103 = .ok (.aload_n 0, 1) := by decide +kernel
theorem dX1_figure_104 : decode cX1_figure 104 = .ok (.getfield 86, 3) := by decide +kernel
theorem dX1_figure_107 : decode cX1_figure 107 = .ok (.ireturn, 1) := by decide +kernel
theorem dX1_figure_108 : decode cX1_figure 108 = .ok (.iconst (-1), 1) := by decide +kernel
theorem dX1_figure_109 : decode cX1_figure 109 = .ok (.ireturn, 1) := by decide +kernel
theorem dX1_greatestDepth_0 : decode cX1_greatestDepth 0 = .ok (.aload_n 0, 1) := by decide +kernel
theorem dX1_greatestDepth_1 : decode cX1_greatestDepth 1 = .ok (.getfield 41, 3) := by decide +kernel
theorem dX1_greatestDepth_4 : decode cX1_greatestDepth 4 = .ok (.invokevirtual 147, 3) := by decide +kernel
theorem dX1_greatestDepth_7 : decode cX1_greatestDepth 7 = .ok (.istore_n 1, 1) := by decide +kernel
theorem dX1_greatestDepth_8 : decode cX1_greatestDepth 8 = .ok (.iload_n 1, 1) := by decide +kernel
theorem dX1_greatestDepth_9 : decode cX1_greatestDepth 9 = .ok (.ifCond .ne 7, 3) := by decide +kernel
theorem dX1_greatestDepth_12 : decode cX1_greatestDepth 12 = .ok (.iconst 0, 1) := by decide +kernel
theorem dX1_greatestDepth_13 : decode cX1_greatestDepth 13 = .ok (.goto 11, 3) := by decide +kernel
theorem dX1_greatestDepth_16 : decode cX1_greatestDepth 16 = .ok (.aload_n 0, 1) := by decide +kernel
theorem dX1_greatestDepth_17 : decode cX1_greatestDepth 17 = .ok (.getfield 73, 3) := by decide +kernel
theorem dX1_greatestDepth_20 : decode cX1_greatestDepth 20 = .ok (.iload_n 1, 1) := by decide +kernel
theorem dX1_greatestDepth_21 : decode cX1_greatestDepth 21 = .ok (.iconst 1, 1) := by decide +kernel
theorem dX1_greatestDepth_22 : decode cX1_greatestDepth 22 = .ok (.isub, 1) := by decide +kernel
theorem dX1_greatestDepth_23 : decode cX1_greatestDepth 23 = .ok (.iaload, 1) := by decide +kernel
theorem dX1_greatestDepth_24 : decode cX1_greatestDepth 24 = .ok (.ireturn, 1) := by decide +kernel
theorem dX1_countStates_0 : decode cX1_countStates 0 = .ok (.aload_n 0, 1) := by decide +kernel
theorem dX1_countStates_1 : decode cX1_countStates 1 = .ok (.getfield 41, 3) := by decide +kernel
theorem dX1_countStates_4 : decode cX1_countStates 4 = .ok (.invokevirtual 147, 3) := by decide +kernel
theorem dX1_countStates_7 : decode cX1_countStates 7 = .ok (.ireturn, 1) := by decide +kernel
theorem dX1_isSpent_0 : decode cX1_isSpent 0 = .ok (.aload_n 0, 1) := by decide +kernel
theorem dX1_isSpent_1 : decode cX1_isSpent 1 = .ok (.getfield 89, 3) := by decide +kernel
theorem dX1_isSpent_4 : decode cX1_isSpent 4 = .ok (.ireturn, 1) := by decide +kernel
theorem dX1_hasState_0 : decode cX1_hasState 0 = .ok (.iload_n 1, 1) := by decide +kernel
theorem dX1_hasState_1 : decode cX1_hasState 1 = .ok (.ifCond .lt 18, 3) := by decide +kernel
theorem dX1_hasState_4 : decode cX1_hasState 4 = .ok (.iload_n 1, 1) := by decide +kernel
theorem dX1_hasState_5 : decode cX1_hasState 5 = .ok (.aload_n 0, 1) := by decide +kernel
theorem dX1_hasState_6 : decode cX1_hasState 6 = .ok (.getfield 41, 3) := by decide +kernel
theorem dX1_hasState_9 : decode cX1_hasState 9 = .ok (.invokevirtual 147, 3) := by decide +kernel
theorem dX1_hasState_12 : decode cX1_hasState 12 = .ok (.if_icmp .ge 7, 3) := by decide +kernel
theorem dX1_hasState_15 : decode cX1_hasState 15 = .ok (.iconst 1, 1) := by decide +kernel
theorem dX1_hasState_16 : decode cX1_hasState 16 = .ok (.goto 4, 3) := by decide +kernel
theorem dX1_hasState_19 : decode cX1_hasState 19 = .ok (.iconst 0, 1) := by decide +kernel
theorem dX1_hasState_20 : decode cX1_hasState 20 = .ok (.ireturn, 1) := by decide +kernel
theorem dX1_badAt_0 : decode cX1_badAt 0 = .ok (.aload_n 0, 1) := by decide +kernel
theorem dX1_badAt_1 : decode cX1_badAt 1 = .ok (.getfield 48, 3) := by decide +kernel
theorem dX1_badAt_4 : decode cX1_badAt 4 = .ok (.iload_n 1, 1) := by decide +kernel
theorem dX1_badAt_5 : decode cX1_badAt 5 = .ok (.iload_n 2, 1) := by decide +kernel
theorem dX1_badAt_6 : decode cX1_badAt 6 = .ok (.invokevirtual 195, 3) := by decide +kernel
theorem dX1_badAt_9 : decode cX1_badAt 9 = .ok (.ireturn, 1) := by decide +kernel
theorem dX1_stuckAt_0 : decode cX1_stuckAt 0 = .ok (.aload_n 0, 1) := by decide +kernel
theorem dX1_stuckAt_1 : decode cX1_stuckAt 1 = .ok (.getfield 55, 3) := by decide +kernel
theorem dX1_stuckAt_4 : decode cX1_stuckAt 4 = .ok (.iload_n 1, 1) := by decide +kernel
theorem dX1_stuckAt_5 : decode cX1_stuckAt 5 = .ok (.invokevirtual 198, 3) := by decide +kernel
theorem dX1_stuckAt_8 : decode cX1_stuckAt 8 = .ok (.ireturn, 1) := by decide +kernel
theorem dX1_lostAt_0 : decode cX1_lostAt 0 = .ok (.aload_n 0, 1) := by decide +kernel
theorem dX1_lostAt_1 : decode cX1_lostAt 1 = .ok (.getfield 59, 3) := by decide +kernel
theorem dX1_lostAt_4 : decode cX1_lostAt 4 = .ok (.iload_n 1, 1) := by decide +kernel
theorem dX1_lostAt_5 : decode cX1_lostAt 5 = .ok (.invokevirtual 198, 3) := by decide +kernel
theorem dX1_lostAt_8 : decode cX1_lostAt 8 = .ok (.ireturn, 1) := by decide +kernel
theorem dX1_depthOf_0 : decode cX1_depthOf 0 = .ok (.aload_n 0, 1) := by decide +kernel
theorem dX1_depthOf_1 : decode cX1_depthOf 1 = .ok (.getfield 73, 3) := by decide +kernel
theorem dX1_depthOf_4 : decode cX1_depthOf 4 = .ok (.iload_n 1, 1) := by decide +kernel
theorem dX1_depthOf_5 : decode cX1_depthOf 5 = .ok (.iaload, 1) := by decide +kernel
theorem dX1_depthOf_6 : decode cX1_depthOf 6 = .ok (.ireturn, 1) := by decide +kernel
theorem dX1_stepTowards_0 : decode cX1_stepTowards 0 = .ok (.iload_n 1, 1) := by decide +kernel
theorem dX1_stepTowards_1 : decode cX1_stepTowards 1 = .ok (.istore_n 3, 1) := by decide +kernel
theorem dX1_stepTowards_2 : decode cX1_stepTowards 2 = .ok (.aload_n 0, 1) := by decide +kernel
theorem dX1_stepTowards_3 : decode cX1_stepTowards 3 = .ok (.getfield 73, 3) := by decide +kernel
theorem dX1_stepTowards_6 : decode cX1_stepTowards 6 = .ok (.iload_n 1, 1) := by decide +kernel
theorem dX1_stepTowards_7 : decode cX1_stepTowards 7 = .ok (.iaload, 1) := by decide +kernel
theorem dX1_stepTowards_8 : decode cX1_stepTowards 8 = .ok (.iconst 1, 1) := by decide +kernel
theorem dX1_stepTowards_9 : decode cX1_stepTowards 9 = .ok (.isub, 1) := by decide +kernel
theorem dX1_stepTowards_10 : decode cX1_stepTowards 10 = .ok (.istore 4, 2) := by decide +kernel
theorem dX1_stepTowards_12 : decode cX1_stepTowards 12 = .ok (.iload 4, 2) := by decide +kernel
theorem dX1_stepTowards_14 : decode cX1_stepTowards 14 = .ok (.iload_n 2, 1) := by decide +kernel
theorem dX1_stepTowards_15 : decode cX1_stepTowards 15 = .ok (.if_icmp .le 19, 3) := by decide +kernel
theorem dX1_stepTowards_18 : decode cX1_stepTowards 18 = .ok (.aload_n 0, 1) := by decide +kernel
theorem dX1_stepTowards_19 : decode cX1_stepTowards 19 = .ok (.getfield 69, 3) := by decide +kernel
theorem dX1_stepTowards_22 : decode cX1_stepTowards 22 = .ok (.iload_n 3, 1) := by decide +kernel
theorem dX1_stepTowards_23 : decode cX1_stepTowards 23 = .ok (.iaload, 1) := by decide +kernel
theorem dX1_stepTowards_24 : decode cX1_stepTowards 24 = .ok (.bipush 20, 2) := by decide +kernel
theorem dX1_stepTowards_26 : decode cX1_stepTowards 26 = .ok (.idiv, 1) := by decide +kernel
theorem dX1_stepTowards_27 : decode cX1_stepTowards 27 = .ok (.istore_n 3, 1) := by decide +kernel
theorem dX1_stepTowards_28 : decode cX1_stepTowards 28 = .ok (.iinc 4 (-1), 3) := by decide +kernel
theorem dX1_stepTowards_31 : decode cX1_stepTowards 31 = .ok (.goto (-19), 3) := by decide +kernel
theorem dX1_stepTowards_34 : decode cX1_stepTowards 34 = .ok (.aload_n 0, 1) := by decide +kernel
theorem dX1_stepTowards_35 : decode cX1_stepTowards 35 = .ok (.getfield 69, 3) := by decide +kernel
theorem dX1_stepTowards_38 : decode cX1_stepTowards 38 = .ok (.iload_n 3, 1) := by decide +kernel
theorem dX1_stepTowards_39 : decode cX1_stepTowards 39 = .ok (.iaload, 1) := by decide +kernel
theorem dX1_stepTowards_40 : decode cX1_stepTowards 40 = .ok (.bipush 20, 2) := by decide +kernel
theorem dX1_stepTowards_42 : decode cX1_stepTowards 42 = .ok (.irem, 1) := by decide +kernel
theorem dX1_stepTowards_43 : decode cX1_stepTowards 43 = .ok (.ireturn, 1) := by decide +kernel
theorem dX1_load_0 : decode cX1_load 0 = .ok (.aload_n 0, 1) := by decide +kernel
theorem dX1_load_1 : decode cX1_load 1 = .ok (.getfield 41, 3) := by decide +kernel
theorem dX1_load_4 : decode cX1_load 4 = .ok (.iload_n 1, 1) := by decide +kernel
theorem dX1_load_5 : decode cX1_load 5 = .ok (.aload_n 2, 1) := by decide +kernel
theorem dX1_load_6 : decode cX1_load 6 = .ok (.invokevirtual 119, 3) := by decide +kernel
theorem dX1_load_9 : decode cX1_load 9 = .ok (.return_, 1) := by decide +kernel
theorem dX1_numberOf_0 : decode cX1_numberOf 0 = .ok (.aload_n 0, 1) := by decide +kernel
theorem dX1_numberOf_1 : decode cX1_numberOf 1 = .ok (.getfield 41, 3) := by decide +kernel
theorem dX1_numberOf_4 : decode cX1_numberOf 4 = .ok (.aload_n 1, 1) := by decide +kernel
theorem dX1_numberOf_5 : decode cX1_numberOf 5 = .ok (.invokevirtual 171, 3) := by decide +kernel
theorem dX1_numberOf_8 : decode cX1_numberOf 8 = .ok (.ireturn, 1) := by decide +kernel
theorem dX1_usedAt_0 : decode cX1_usedAt 0 = .ok (.aload_n 0, 1) := by decide +kernel
theorem dX1_usedAt_1 : decode cX1_usedAt 1 = .ok (.getfield 76, 3) := by decide +kernel
theorem dX1_usedAt_4 : decode cX1_usedAt 4 = .ok (.iload_n 1, 1) := by decide +kernel
theorem dX1_usedAt_5 : decode cX1_usedAt 5 = .ok (.iaload, 1) := by decide +kernel
theorem dX1_usedAt_6 : decode cX1_usedAt 6 = .ok (.ireturn, 1) := by decide +kernel
theorem dX2_init_0 : decode cX2_init 0 = .ok (.aload_n 0, 1) := by decide +kernel
theorem dX2_init_1 : decode cX2_init 1 = .ok (.invokespecial 3, 3) := by decide +kernel
theorem dX2_init_4 : decode cX2_init 4 = .ok (.aload_n 0, 1) := by decide +kernel
theorem dX2_init_5 : decode cX2_init 5 = .ok (.sipush 4000, 3) := by decide +kernel
theorem dX2_init_8 : decode cX2_init 8 = .ok (.newarray .int, 2) := by decide +kernel
theorem dX2_init_10 : decode cX2_init 10 = .ok (.putfield 9, 3) := by decide +kernel
theorem dX2_init_13 : decode cX2_init 13 = .ok (.aload_n 0, 1) := by decide +kernel
theorem dX2_init_14 : decode cX2_init 14 = .ok (.ldc 15, 2) := by decide +kernel
theorem dX2_init_16 : decode cX2_init 16 = .ok (.newarray .int, 2) := by decide +kernel
theorem dX2_init_18 : decode cX2_init 18 = .ok (.putfield 16, 3) := by decide +kernel
theorem dX2_init_21 : decode cX2_init 21 = .ok (.aload_n 0, 1) := by decide +kernel
theorem dX2_init_22 : decode cX2_init 22 = .ok (.sipush 4000, 3) := by decide +kernel
theorem dX2_init_25 : decode cX2_init 25 = .ok (.newarray .boolean, 2) := by decide +kernel
theorem dX2_init_27 : decode cX2_init 27 = .ok (.putfield 19, 3) := by decide +kernel
theorem dX2_init_30 : decode cX2_init 30 = .ok (.aload_n 0, 1) := by decide +kernel
theorem dX2_init_31 : decode cX2_init 31 = .ok (.new 23, 3) := by decide +kernel
theorem dX2_init_34 : decode cX2_init 34 = .ok (.dup, 1) := by decide +kernel
theorem dX2_init_35 : decode cX2_init 35 = .ok (.invokespecial 25, 3) := by decide +kernel
theorem dX2_init_38 : decode cX2_init 38 = .ok (.putfield 26, 3) := by decide +kernel
theorem dX2_init_41 : decode cX2_init 41 = .ok (.return_, 1) := by decide +kernel
theorem dX2_clear_0 : decode cX2_clear 0 = .ok (.aload_n 0, 1) := by decide +kernel
theorem dX2_clear_1 : decode cX2_clear 1 = .ok (.getfield 26, 3) := by decide +kernel
theorem dX2_clear_4 : decode cX2_clear 4 = .ok (.invokevirtual 30, 3) := by decide +kernel
theorem dX2_clear_7 : decode cX2_clear 7 = .ok (.return_, 1) := by decide +kernel
theorem dX2_addState_0 : decode cX2_addState 0 = .ok (.aload_n 0, 1) := by decide +kernel
theorem dX2_addState_1 : decode cX2_addState 1 = .ok (.getfield 9, 3) := by decide +kernel
theorem dX2_addState_4 : decode cX2_addState 4 = .ok (.iload_n 1, 1) := by decide +kernel
theorem dX2_addState_5 : decode cX2_addState 5 = .ok (.iconst (-1), 1) := by decide +kernel
theorem dX2_addState_6 : decode cX2_addState 6 = .ok (.iastore, 1) := by decide +kernel
theorem dX2_addState_7 : decode cX2_addState 7 = .ok (.aload_n 0, 1) := by decide +kernel
theorem dX2_addState_8 : decode cX2_addState 8 = .ok (.getfield 19, 3) := by decide +kernel
theorem dX2_addState_11 : decode cX2_addState 11 = .ok (.iload_n 1, 1) := by decide +kernel
theorem dX2_addState_12 : decode cX2_addState 12 = .ok (.iconst 0, 1) := by decide +kernel
theorem dX2_addState_13 : decode cX2_addState 13 = .ok (.bastore, 1) := by decide +kernel
theorem dX2_addState_14 : decode cX2_addState 14 = .ok (.return_, 1) := by decide +kernel
theorem dX2_addPath_0 : decode cX2_addPath 0 = .ok (.aload_n 0, 1) := by decide +kernel
theorem dX2_addPath_1 : decode cX2_addPath 1 = .ok (.getfield 16, 3) := by decide +kernel
theorem dX2_addPath_4 : decode cX2_addPath 4 = .ok (.iload_n 1, 1) := by decide +kernel
theorem dX2_addPath_5 : decode cX2_addPath 5 = .ok (.aload_n 0, 1) := by decide +kernel
theorem dX2_addPath_6 : decode cX2_addPath 6 = .ok (.getfield 9, 3) := by decide +kernel
theorem dX2_addPath_9 : decode cX2_addPath 9 = .ok (.iload_n 2, 1) := by decide +kernel
theorem dX2_addPath_10 : decode cX2_addPath 10 = .ok (.iaload, 1) := by decide +kernel
theorem dX2_addPath_11 : decode cX2_addPath 11 = .ok (.iastore, 1) := by decide +kernel
theorem dX2_addPath_12 : decode cX2_addPath 12 = .ok (.aload_n 0, 1) := by decide +kernel
theorem dX2_addPath_13 : decode cX2_addPath 13 = .ok (.getfield 9, 3) := by decide +kernel
theorem dX2_addPath_16 : decode cX2_addPath 16 = .ok (.iload_n 2, 1) := by decide +kernel
theorem dX2_addPath_17 : decode cX2_addPath 17 = .ok (.iload_n 1, 1) := by decide +kernel
theorem dX2_addPath_18 : decode cX2_addPath 18 = .ok (.iastore, 1) := by decide +kernel
theorem dX2_addPath_19 : decode cX2_addPath 19 = .ok (.return_, 1) := by decide +kernel
theorem dX2_markLeading_0 : decode cX2_markLeading 0 = .ok (.aload_n 0, 1) := by decide +kernel
theorem dX2_markLeading_1 : decode cX2_markLeading 1 = .ok (.getfield 19, 3) := by decide +kernel
theorem dX2_markLeading_4 : decode cX2_markLeading 4 = .ok (.iload_n 1, 1) := by decide +kernel
theorem dX2_markLeading_5 : decode cX2_markLeading 5 = .ok (.baload, 1) := by decide +kernel
theorem dX2_markLeading_6 : decode cX2_markLeading 6 = .ok (.ifCond .ne 18, 3) := by decide +kernel
theorem dX2_markLeading_9 : decode cX2_markLeading 9 = .ok (.aload_n 0, 1) := by decide +kernel
theorem dX2_markLeading_10 : decode cX2_markLeading 10 = .ok (.getfield 19, 3) := by decide +kernel
theorem dX2_markLeading_13 : decode cX2_markLeading 13 = .ok (.iload_n 1, 1) := by decide +kernel
theorem dX2_markLeading_14 : decode cX2_markLeading 14 = .ok (.iconst 1, 1) := by decide +kernel
theorem dX2_markLeading_15 : decode cX2_markLeading 15 = .ok (.bastore, 1) := by decide +kernel
theorem dX2_markLeading_16 : decode cX2_markLeading 16 = .ok (.aload_n 0, 1) := by decide +kernel
theorem dX2_markLeading_17 : decode cX2_markLeading 17 = .ok (.getfield 26, 3) := by decide +kernel
theorem dX2_markLeading_20 : decode cX2_markLeading 20 = .ok (.iload_n 1, 1) := by decide +kernel
theorem dX2_markLeading_21 : decode cX2_markLeading 21 = .ok (.invokevirtual 33, 3) := by decide +kernel
theorem dX2_markLeading_24 : decode cX2_markLeading 24 = .ok (.return_, 1) := by decide +kernel
theorem dX2_isLeading_0 : decode cX2_isLeading 0 = .ok (.aload_n 0, 1) := by decide +kernel
theorem dX2_isLeading_1 : decode cX2_isLeading 1 = .ok (.getfield 19, 3) := by decide +kernel
theorem dX2_isLeading_4 : decode cX2_isLeading 4 = .ok (.iload_n 1, 1) := by decide +kernel
theorem dX2_isLeading_5 : decode cX2_isLeading 5 = .ok (.baload, 1) := by decide +kernel
theorem dX2_isLeading_6 : decode cX2_isLeading 6 = .ok (.ireturn, 1) := by decide +kernel
theorem dX2_spread_0 : decode cX2_spread 0 = .ok (.iconst 0, 1) := by decide +kernel
theorem dX2_spread_1 : decode cX2_spread 1 = .ok (.istore_n 1, 1) := by decide +kernel
theorem dX2_spread_2 : decode cX2_spread 2 = .ok (.iload_n 1, 1) := by decide +kernel
theorem dX2_spread_3 : decode cX2_spread 3 = .ok (.sipush 4000, 3) := by decide +kernel
theorem dX2_spread_6 : decode cX2_spread 6 = .ok (.if_icmp .ge 68, 3) := by decide +kernel
theorem dX2_spread_9 : decode cX2_spread 9 = .ok (.iload_n 1, 1) := by decide +kernel
theorem dX2_spread_10 : decode cX2_spread 10 = .ok (.aload_n 0, 1) := by decide +kernel
theorem dX2_spread_11 : decode cX2_spread 11 = .ok (.getfield 26, 3) := by decide +kernel
theorem dX2_spread_14 : decode cX2_spread 14 = .ok (.invokevirtual 37, 3) := by decide +kernel
theorem dX2_spread_17 : decode cX2_spread 17 = .ok (.if_icmp .ge 57, 3) := by decide +kernel
theorem dX2_spread_20 : decode cX2_spread 20 = .ok (.aload_n 0, 1) := by decide +kernel
theorem dX2_spread_21 : decode cX2_spread 21 = .ok (.getfield 9, 3) := by decide +kernel
theorem dX2_spread_24 : decode cX2_spread 24 = .ok (.aload_n 0, 1) := by decide +kernel
theorem dX2_spread_25 : decode cX2_spread 25 = .ok (.getfield 26, 3) := by decide +kernel
theorem dX2_spread_28 : decode cX2_spread 28 = .ok (.iload_n 1, 1) := by decide +kernel
theorem dX2_spread_29 : decode cX2_spread 29 = .ok (.invokevirtual 41, 3) := by decide +kernel
theorem dX2_spread_32 : decode cX2_spread 32 = .ok (.iaload, 1) := by decide +kernel
theorem dX2_spread_33 : decode cX2_spread 33 = .ok (.istore_n 2, 1) := by decide +kernel
theorem dX2_spread_34 : decode cX2_spread 34 = .ok (.iconst 0, 1) := by decide +kernel
theorem dX2_spread_35 : decode cX2_spread 35 = .ok (.istore_n 3, 1) := by decide +kernel
theorem dX2_spread_36 : decode cX2_spread 36 = .ok (.iload_n 3, 1) := by decide +kernel
theorem dX2_spread_37 : decode cX2_spread 37 = .ok (.ldc 15, 2) := by decide +kernel
theorem dX2_spread_39 : decode cX2_spread 39 = .ok (.if_icmp .ge 29, 3) := by decide +kernel
theorem dX2_spread_42 : decode cX2_spread 42 = .ok (.iload_n 2, 1) := by decide +kernel
theorem dX2_spread_43 : decode cX2_spread 43 = .ok (.iconst (-1), 1) := by decide +kernel
theorem dX2_spread_44 : decode cX2_spread 44 = .ok (.if_icmp .eq 24, 3) := by decide +kernel
theorem dX2_spread_47 : decode cX2_spread 47 = .ok (.aload_n 0, 1) := by decide +kernel
theorem dX2_spread_48 : decode cX2_spread 48 = .ok (.iload_n 2, 1) := by decide +kernel
theorem dX2_spread_49 : decode cX2_spread 49 = .ok (.bipush 20, 2) := by decide +kernel
theorem dX2_spread_51 : decode cX2_spread 51 = .ok (.idiv, 1) := by decide +kernel
theorem dX2_spread_52 : decode cX2_spread 52 = .ok (.invokevirtual 45, 3) := by decide +kernel
theorem dX2_spread_55 : decode cX2_spread 55 = .ok (.aload_n 0, 1) := by decide +kernel
theorem dX2_spread_56 : decode cX2_spread 56 = .ok (.getfield 16, 3) := by decide +kernel
theorem dX2_spread_59 : decode cX2_spread 59 = .ok (.iload_n 2, 1) := by decide +kernel
theorem dX2_spread_60 : decode cX2_spread 60 = .ok (.iaload, 1) := by decide +kernel
theorem dX2_spread_61 : decode cX2_spread 61 = .ok (.istore_n 2, 1) := by decide +kernel
theorem dX2_spread_62 : decode cX2_spread 62 = .ok (.iinc 3 1, 3) := by decide +kernel
theorem dX2_spread_65 : decode cX2_spread 65 = .ok (.goto (-29), 3) := by decide +kernel
theorem dX2_spread_68 : decode cX2_spread 68 = .ok (.iinc 1 1, 3) := by decide +kernel
theorem dX2_spread_71 : decode cX2_spread 71 = .ok (.goto (-69), 3) := by decide +kernel
theorem dX2_spread_74 : decode cX2_spread 74 = .ok (.return_, 1) := by decide +kernel
theorem dX3_init_0 : decode cX3_init 0 = .ok (.aload_n 0, 1) := by decide +kernel
theorem dX3_init_1 : decode cX3_init 1 = .ok (.invokespecial 3, 3) := by decide +kernel
theorem dX3_init_4 : decode cX3_init 4 = .ok (.aload_n 0, 1) := by decide +kernel
theorem dX3_init_5 : decode cX3_init 5 = .ok (.sipush 200, 3) := by decide +kernel
theorem dX3_init_8 : decode cX3_init 8 = .ok (.newarray .int, 2) := by decide +kernel
theorem dX3_init_10 : decode cX3_init 10 = .ok (.putfield 9, 3) := by decide +kernel
theorem dX3_init_13 : decode cX3_init 13 = .ok (.aload_n 0, 1) := by decide +kernel
theorem dX3_init_14 : decode cX3_init 14 = .ok (.sipush 200, 3) := by decide +kernel
theorem dX3_init_17 : decode cX3_init 17 = .ok (.newarray .int, 2) := by decide +kernel
theorem dX3_init_19 : decode cX3_init 19 = .ok (.putfield 15, 3) := by decide +kernel
theorem dX3_init_22 : decode cX3_init 22 = .ok (.aload_n 0, 1) := by decide +kernel
theorem dX3_init_23 : decode cX3_init 23 = .ok (.sipush 200, 3) := by decide +kernel
theorem dX3_init_26 : decode cX3_init 26 = .ok (.newarray .int, 2) := by decide +kernel
theorem dX3_init_28 : decode cX3_init 28 = .ok (.putfield 18, 3) := by decide +kernel
theorem dX3_init_31 : decode cX3_init 31 = .ok (.aload_n 0, 1) := by decide +kernel
theorem dX3_init_32 : decode cX3_init 32 = .ok (.iconst 0, 1) := by decide +kernel
theorem dX3_init_33 : decode cX3_init 33 = .ok (.putfield 21, 3) := by decide +kernel
theorem dX3_init_36 : decode cX3_init 36 = .ok (.return_, 1) := by decide +kernel
theorem dX3_clear_0 : decode cX3_clear 0 = .ok (.aload_n 0, 1) := by decide +kernel
theorem dX3_clear_1 : decode cX3_clear 1 = .ok (.iconst 0, 1) := by decide +kernel
theorem dX3_clear_2 : decode cX3_clear 2 = .ok (.putfield 21, 3) := by decide +kernel
theorem dX3_clear_5 : decode cX3_clear 5 = .ok (.return_, 1) := by decide +kernel
theorem dX3_count_0 : decode cX3_count 0 = .ok (.aload_n 0, 1) := by decide +kernel
theorem dX3_count_1 : decode cX3_count 1 = .ok (.getfield 21, 3) := by decide +kernel
theorem dX3_count_4 : decode cX3_count 4 = .ok (.ireturn, 1) := by decide +kernel
theorem dX3_add_0 : decode cX3_add 0 = .ok (.aload_n 0, 1) := by decide +kernel
theorem dX3_add_1 : decode cX3_add 1 = .ok (.getfield 21, 3) := by decide +kernel
theorem dX3_add_4 : decode cX3_add 4 = .ok (.sipush 200, 3) := by decide +kernel
theorem dX3_add_7 : decode cX3_add 7 = .ok (.if_icmp .ge 33, 3) := by decide +kernel
theorem dX3_add_10 : decode cX3_add 10 = .ok (.aload_n 0, 1) := by decide +kernel
theorem dX3_add_11 : decode cX3_add 11 = .ok (.getfield 9, 3) := by decide +kernel
theorem dX3_add_14 : decode cX3_add 14 = .ok (.aload_n 0, 1) := by decide +kernel
theorem dX3_add_15 : decode cX3_add 15 = .ok (.getfield 21, 3) := by decide +kernel
theorem dX3_add_18 : decode cX3_add 18 = .ok (.iload_n 1, 1) := by decide +kernel
theorem dX3_add_19 : decode cX3_add 19 = .ok (.iastore, 1) := by decide +kernel
theorem dX3_add_20 : decode cX3_add 20 = .ok (.aload_n 0, 1) := by decide +kernel
theorem dX3_add_21 : decode cX3_add 21 = .ok (.getfield 15, 3) := by decide +kernel
theorem dX3_add_24 : decode cX3_add 24 = .ok (.aload_n 0, 1) := by decide +kernel
theorem dX3_add_25 : decode cX3_add 25 = .ok (.getfield 21, 3) := by decide +kernel
theorem dX3_add_28 : decode cX3_add 28 = .ok (.iload_n 2, 1) := by decide +kernel
theorem dX3_add_29 : decode cX3_add 29 = .ok (.iastore, 1) := by decide +kernel
theorem dX3_add_30 : decode cX3_add 30 = .ok (.aload_n 0, 1) := by decide +kernel
theorem dX3_add_31 : decode cX3_add 31 = .ok (.getfield 18, 3) := by decide +kernel
theorem dX3_add_34 : decode cX3_add 34 = .ok (.aload_n 0, 1) := by decide +kernel
theorem dX3_add_35 : decode cX3_add 35 = .ok (.getfield 21, 3) := by decide +kernel
theorem dX3_add_38 : decode cX3_add 38 = .ok (.iload_n 3, 1) := by decide +kernel
theorem dX3_add_39 : decode cX3_add 39 = .ok (.iastore, 1) := by decide +kernel
theorem dX3_add_40 : decode cX3_add 40 = .ok (.aload_n 0, 1) := by decide +kernel
theorem dX3_add_41 : decode cX3_add 41 = .ok (.dup, 1) := by decide +kernel
theorem dX3_add_42 : decode cX3_add 42 = .ok (.getfield 21, 3) := by decide +kernel
theorem dX3_add_45 : decode cX3_add 45 = .ok (.iconst 1, 1) := by decide +kernel
theorem dX3_add_46 : decode cX3_add 46 = .ok (.iadd, 1) := by decide +kernel
theorem dX3_add_47 : decode cX3_add 47 = .ok (.putfield 21, 3) := by decide +kernel
theorem dX3_add_50 : decode cX3_add 50 = .ok (.return_, 1) := by decide +kernel
theorem dX3_ask_0 : decode cX3_ask 0 = .ok (.iload_n 1, 1) := by decide +kernel
theorem dX3_ask_1 : decode cX3_ask 1 = .ok (.ifCond .lt 18, 3) := by decide +kernel
theorem dX3_ask_4 : decode cX3_ask 4 = .ok (.iload_n 1, 1) := by decide +kernel
theorem dX3_ask_5 : decode cX3_ask 5 = .ok (.aload_n 0, 1) := by decide +kernel
theorem dX3_ask_6 : decode cX3_ask 6 = .ok (.getfield 21, 3) := by decide +kernel
theorem dX3_ask_9 : decode cX3_ask 9 = .ok (.if_icmp .ge 10, 3) := by decide +kernel
theorem dX3_ask_12 : decode cX3_ask 12 = .ok (.iload_n 1, 1) := by decide +kernel
theorem dX3_ask_13 : decode cX3_ask 13 = .ok (.sipush 200, 3) := by decide +kernel
theorem dX3_ask_16 : decode cX3_ask 16 = .ok (.if_icmp .lt 5, 3) := by decide +kernel
theorem dX3_ask_19 : decode cX3_ask 19 = .ok (.iconst (-1), 1) := by decide +kernel
theorem dX3_ask_20 : decode cX3_ask 20 = .ok (.ireturn, 1) := by decide +kernel
theorem dX3_ask_21 : decode cX3_ask 21 = .ok (.iload_n 2, 1) := by decide +kernel
theorem dX3_ask_22 : decode cX3_ask 22 = .ok (.tableswitch 47 0 2 #[26, 33, 40], 26) := by decide +kernel
theorem dX3_ask_48 : decode cX3_ask 48 = .ok (.aload_n 0, 1) := by decide +kernel
theorem dX3_ask_49 : decode cX3_ask 49 = .ok (.getfield 9, 3) := by decide +kernel
theorem dX3_ask_52 : decode cX3_ask 52 = .ok (.iload_n 1, 1) := by decide +kernel
theorem dX3_ask_53 : decode cX3_ask 53 = .ok (.iaload, 1) := by decide +kernel
theorem dX3_ask_54 : decode cX3_ask 54 = .ok (.ireturn, 1) := by decide +kernel
theorem dX3_ask_55 : decode cX3_ask 55 = .ok (.aload_n 0, 1) := by decide +kernel
theorem dX3_ask_56 : decode cX3_ask 56 = .ok (.getfield 15, 3) := by decide +kernel
theorem dX3_ask_59 : decode cX3_ask 59 = .ok (.iload_n 1, 1) := by decide +kernel
theorem dX3_ask_60 : decode cX3_ask 60 = .ok (.iaload, 1) := by decide +kernel
theorem dX3_ask_61 : decode cX3_ask 61 = .ok (.ireturn, 1) := by decide +kernel
theorem dX3_ask_62 : decode cX3_ask 62 = .ok (.aload_n 0, 1) := by decide +kernel
theorem dX3_ask_63 : decode cX3_ask 63 = .ok (.getfield 18, 3) := by decide +kernel
theorem dX3_ask_66 : decode cX3_ask 66 = .ok (.iload_n 1, 1) := by decide +kernel
theorem dX3_ask_67 : decode cX3_ask 67 = .ok (.iaload, 1) := by decide +kernel
theorem dX3_ask_68 : decode cX3_ask 68 = .ok (.ireturn, 1) := by decide +kernel
theorem dX3_ask_69 : decode cX3_ask 69 = .ok (.iconst (-1), 1) := by decide +kernel
theorem dX3_ask_70 : decode cX3_ask 70 = .ok (.ireturn, 1) := by decide +kernel
theorem dX4_make_0 : decode cX4_make 0 = .ok (.sipush 16384, 3) := by decide +kernel
theorem dX4_make_3 : decode cX4_make 3 = .ok (.iload_n 2, 1) := by decide +kernel
theorem dX4_make_4 : decode cX4_make 4 = .ok (.bipush 11, 2) := by decide +kernel
theorem dX4_make_6 : decode cX4_make 6 = .ok (.ishl, 1) := by decide +kernel
theorem dX4_make_7 : decode cX4_make 7 = .ok (.ior, 1) := by decide +kernel
theorem dX4_make_8 : decode cX4_make 8 = .ok (.iload_n 3, 1) := by decide +kernel
theorem dX4_make_9 : decode cX4_make 9 = .ok (.bipush 8, 2) := by decide +kernel
theorem dX4_make_11 : decode cX4_make 11 = .ok (.ishl, 1) := by decide +kernel
theorem dX4_make_12 : decode cX4_make 12 = .ok (.ior, 1) := by decide +kernel
theorem dX4_make_13 : decode cX4_make 13 = .ok (.iload_n 1, 1) := by decide +kernel
theorem dX4_make_14 : decode cX4_make 14 = .ok (.bipush 7, 2) := by decide +kernel
theorem dX4_make_16 : decode cX4_make 16 = .ok (.ishl, 1) := by decide +kernel
theorem dX4_make_17 : decode cX4_make 17 = .ok (.ior, 1) := by decide +kernel
theorem dX4_make_18 : decode cX4_make 18 = .ok (.iload_n 0, 1) := by decide +kernel
theorem dX4_make_19 : decode cX4_make 19 = .ok (.iconst 3, 1) := by decide +kernel
theorem dX4_make_20 : decode cX4_make 20 = .ok (.ishl, 1) := by decide +kernel
theorem dX4_make_21 : decode cX4_make 21 = .ok (.ior, 1) := by decide +kernel
theorem dX4_make_22 : decode cX4_make 22 = .ok (.iload 4, 2) := by decide +kernel
theorem dX4_make_24 : decode cX4_make 24 = .ok (.iconst 1, 1) := by decide +kernel
theorem dX4_make_25 : decode cX4_make 25 = .ok (.ishl, 1) := by decide +kernel
theorem dX4_make_26 : decode cX4_make 26 = .ok (.ior, 1) := by decide +kernel
theorem dX4_make_27 : decode cX4_make 27 = .ok (.iload 5, 2) := by decide +kernel
theorem dX4_make_29 : decode cX4_make 29 = .ok (.ior, 1) := by decide +kernel
theorem dX4_make_30 : decode cX4_make 30 = .ok (.ireturn, 1) := by decide +kernel
theorem dX4_kindOf_0 : decode cX4_kindOf 0 = .ok (.iload_n 0, 1) := by decide +kernel
theorem dX4_kindOf_1 : decode cX4_kindOf 1 = .ok (.iconst 3, 1) := by decide +kernel
theorem dX4_kindOf_2 : decode cX4_kindOf 2 = .ok (.ishr, 1) := by decide +kernel
theorem dX4_kindOf_3 : decode cX4_kindOf 3 = .ok (.bipush 15, 2) := by decide +kernel
theorem dX4_kindOf_5 : decode cX4_kindOf 5 = .ok (.iand, 1) := by decide +kernel
theorem dX4_kindOf_6 : decode cX4_kindOf 6 = .ok (.ireturn, 1) := by decide +kernel
theorem dX4_fromOf_0 : decode cX4_fromOf 0 = .ok (.iload_n 0, 1) := by decide +kernel
theorem dX4_fromOf_1 : decode cX4_fromOf 1 = .ok (.bipush 11, 2) := by decide +kernel
theorem dX4_fromOf_3 : decode cX4_fromOf 3 = .ok (.ishr, 1) := by decide +kernel
theorem dX4_fromOf_4 : decode cX4_fromOf 4 = .ok (.bipush 7, 2) := by decide +kernel
theorem dX4_fromOf_6 : decode cX4_fromOf 6 = .ok (.iand, 1) := by decide +kernel
theorem dX4_fromOf_7 : decode cX4_fromOf 7 = .ok (.ireturn, 1) := by decide +kernel
theorem dX4_toOf_0 : decode cX4_toOf 0 = .ok (.iload_n 0, 1) := by decide +kernel
theorem dX4_toOf_1 : decode cX4_toOf 1 = .ok (.bipush 8, 2) := by decide +kernel
theorem dX4_toOf_3 : decode cX4_toOf 3 = .ok (.ishr, 1) := by decide +kernel
theorem dX4_toOf_4 : decode cX4_toOf 4 = .ok (.bipush 7, 2) := by decide +kernel
theorem dX4_toOf_6 : decode cX4_toOf 6 = .ok (.iand, 1) := by decide +kernel
theorem dX4_toOf_7 : decode cX4_toOf 7 = .ok (.ireturn, 1) := by decide +kernel
theorem dX4_forOf_0 : decode cX4_forOf 0 = .ok (.iload_n 0, 1) := by decide +kernel
theorem dX4_forOf_1 : decode cX4_forOf 1 = .ok (.iconst 1, 1) := by decide +kernel
theorem dX4_forOf_2 : decode cX4_forOf 2 = .ok (.ishr, 1) := by decide +kernel
theorem dX4_forOf_3 : decode cX4_forOf 3 = .ok (.iconst 3, 1) := by decide +kernel
theorem dX4_forOf_4 : decode cX4_forOf 4 = .ok (.iand, 1) := by decide +kernel
theorem dX4_forOf_5 : decode cX4_forOf 5 = .ok (.ireturn, 1) := by decide +kernel
theorem dX4_freshOf_0 : decode cX4_freshOf 0 = .ok (.iload_n 0, 1) := by decide +kernel
theorem dX4_freshOf_1 : decode cX4_freshOf 1 = .ok (.iconst 1, 1) := by decide +kernel
theorem dX4_freshOf_2 : decode cX4_freshOf 2 = .ok (.iand, 1) := by decide +kernel
theorem dX4_freshOf_3 : decode cX4_freshOf 3 = .ok (.ireturn, 1) := by decide +kernel
theorem dX4_staled_0 : decode cX4_staled 0 = .ok (.iload_n 0, 1) := by decide +kernel
theorem dX4_staled_1 : decode cX4_staled 1 = .ok (.bipush (-2), 2) := by decide +kernel
theorem dX4_staled_3 : decode cX4_staled 3 = .ok (.iand, 1) := by decide +kernel
theorem dX4_staled_4 : decode cX4_staled 4 = .ok (.ireturn, 1) := by decide +kernel
theorem dX4_shareOrder_0 : decode cX4_shareOrder 0 = .ok (.iload_n 0, 1) := by decide +kernel
theorem dX4_shareOrder_1 : decode cX4_shareOrder 1 = .ok (.bipush 7, 2) := by decide +kernel
theorem dX4_shareOrder_3 : decode cX4_shareOrder 3 = .ok (.ishr, 1) := by decide +kernel
theorem dX4_shareOrder_4 : decode cX4_shareOrder 4 = .ok (.iload_n 1, 1) := by decide +kernel
theorem dX4_shareOrder_5 : decode cX4_shareOrder 5 = .ok (.bipush 7, 2) := by decide +kernel
theorem dX4_shareOrder_7 : decode cX4_shareOrder 7 = .ok (.ishr, 1) := by decide +kernel
theorem dX4_shareOrder_8 : decode cX4_shareOrder 8 = .ok (.if_icmp .ne 15, 3) := by decide +kernel
theorem dX4_shareOrder_11 : decode cX4_shareOrder 11 = .ok (.iload_n 0, 1) := by decide +kernel
theorem dX4_shareOrder_12 : decode cX4_shareOrder 12 = .ok (.sipush 128, 3) := by decide +kernel
theorem dX4_shareOrder_15 : decode cX4_shareOrder 15 = .ok (.iand, 1) := by decide +kernel
theorem dX4_shareOrder_16 : decode cX4_shareOrder 16 = .ok (.ifCond .ne 7, 3) := by decide +kernel
theorem dX4_shareOrder_19 : decode cX4_shareOrder 19 = .ok (.iconst 1, 1) := by decide +kernel
theorem dX4_shareOrder_20 : decode cX4_shareOrder 20 = .ok (.goto 4, 3) := by decide +kernel
theorem dX4_shareOrder_23 : decode cX4_shareOrder 23 = .ok (.iconst 0, 1) := by decide +kernel
theorem dX4_shareOrder_24 : decode cX4_shareOrder 24 = .ok (.ireturn, 1) := by decide +kernel
theorem dX4_lastAhead_0 : decode cX4_lastAhead 0 = .ok (.iload_n 0, 1) := by decide +kernel
theorem dX4_lastAhead_1 : decode cX4_lastAhead 1 = .ok (.sipush 128, 3) := by decide +kernel
theorem dX4_lastAhead_4 : decode cX4_lastAhead 4 = .ok (.iand, 1) := by decide +kernel
theorem dX4_lastAhead_5 : decode cX4_lastAhead 5 = .ok (.ifCond .ne 10, 3) := by decide +kernel
theorem dX4_lastAhead_8 : decode cX4_lastAhead 8 = .ok (.iload_n 0, 1) := by decide +kernel
theorem dX4_lastAhead_9 : decode cX4_lastAhead 9 = .ok (.bipush 127, 2) := by decide +kernel
theorem dX4_lastAhead_11 : decode cX4_lastAhead 11 = .ok (.ior, 1) := by decide +kernel
theorem dX4_lastAhead_12 : decode cX4_lastAhead 12 = .ok (.goto 4, 3) := by decide +kernel
theorem dX4_lastAhead_15 : decode cX4_lastAhead 15 = .ok (.iload_n 0, 1) := by decide +kernel
theorem dX4_lastAhead_16 : decode cX4_lastAhead 16 = .ok (.ireturn, 1) := by decide +kernel
theorem dX5_init_0 : decode cX5_init 0 = .ok (.aload_n 0, 1) := by decide +kernel
theorem dX5_init_1 : decode cX5_init 1 = .ok (.invokespecial 3, 3) := by decide +kernel
theorem dX5_init_4 : decode cX5_init 4 = .ok (.aload_n 0, 1) := by decide +kernel
theorem dX5_init_5 : decode cX5_init 5 = .ok (.sipush 4000, 3) := by decide +kernel
theorem dX5_init_8 : decode cX5_init 8 = .ok (.newarray .int, 2) := by decide +kernel
theorem dX5_init_10 : decode cX5_init 10 = .ok (.putfield 9, 3) := by decide +kernel
theorem dX5_init_13 : decode cX5_init 13 = .ok (.aload_n 0, 1) := by decide +kernel
theorem dX5_init_14 : decode cX5_init 14 = .ok (.iconst 0, 1) := by decide +kernel
theorem dX5_init_15 : decode cX5_init 15 = .ok (.putfield 15, 3) := by decide +kernel
theorem dX5_init_18 : decode cX5_init 18 = .ok (.return_, 1) := by decide +kernel
theorem dX5_clear_0 : decode cX5_clear 0 = .ok (.aload_n 0, 1) := by decide +kernel
theorem dX5_clear_1 : decode cX5_clear 1 = .ok (.iconst 0, 1) := by decide +kernel
theorem dX5_clear_2 : decode cX5_clear 2 = .ok (.putfield 15, 3) := by decide +kernel
theorem dX5_clear_5 : decode cX5_clear 5 = .ok (.return_, 1) := by decide +kernel
theorem dX5_count_0 : decode cX5_count 0 = .ok (.aload_n 0, 1) := by decide +kernel
theorem dX5_count_1 : decode cX5_count 1 = .ok (.getfield 15, 3) := by decide +kernel
theorem dX5_count_4 : decode cX5_count 4 = .ok (.ireturn, 1) := by decide +kernel
theorem dX5_add_0 : decode cX5_add 0 = .ok (.aload_n 0, 1) := by decide +kernel
theorem dX5_add_1 : decode cX5_add 1 = .ok (.getfield 15, 3) := by decide +kernel
theorem dX5_add_4 : decode cX5_add 4 = .ok (.sipush 4000, 3) := by decide +kernel
theorem dX5_add_7 : decode cX5_add 7 = .ok (.if_icmp .ge 23, 3) := by decide +kernel
theorem dX5_add_10 : decode cX5_add 10 = .ok (.aload_n 0, 1) := by decide +kernel
theorem dX5_add_11 : decode cX5_add 11 = .ok (.getfield 9, 3) := by decide +kernel
theorem dX5_add_14 : decode cX5_add 14 = .ok (.aload_n 0, 1) := by decide +kernel
theorem dX5_add_15 : decode cX5_add 15 = .ok (.getfield 15, 3) := by decide +kernel
theorem dX5_add_18 : decode cX5_add 18 = .ok (.iload_n 1, 1) := by decide +kernel
theorem dX5_add_19 : decode cX5_add 19 = .ok (.iastore, 1) := by decide +kernel
theorem dX5_add_20 : decode cX5_add 20 = .ok (.aload_n 0, 1) := by decide +kernel
theorem dX5_add_21 : decode cX5_add 21 = .ok (.dup, 1) := by decide +kernel
theorem dX5_add_22 : decode cX5_add 22 = .ok (.getfield 15, 3) := by decide +kernel
theorem dX5_add_25 : decode cX5_add 25 = .ok (.iconst 1, 1) := by decide +kernel
theorem dX5_add_26 : decode cX5_add 26 = .ok (.iadd, 1) := by decide +kernel
theorem dX5_add_27 : decode cX5_add 27 = .ok (.putfield 15, 3) := by decide +kernel
theorem dX5_add_30 : decode cX5_add 30 = .ok (.return_, 1) := by decide +kernel
theorem dX5_at_0 : decode cX5_at 0 = .ok (.iload_n 1, 1) := by decide +kernel
theorem dX5_at_1 : decode cX5_at 1 = .ok (.ifCond .lt 20, 3) := by decide +kernel
theorem dX5_at_4 : decode cX5_at 4 = .ok (.iload_n 1, 1) := by decide +kernel
theorem dX5_at_5 : decode cX5_at 5 = .ok (.aload_n 0, 1) := by decide +kernel
theorem dX5_at_6 : decode cX5_at 6 = .ok (.getfield 15, 3) := by decide +kernel
theorem dX5_at_9 : decode cX5_at 9 = .ok (.if_icmp .ge 12, 3) := by decide +kernel
theorem dX5_at_12 : decode cX5_at 12 = .ok (.aload_n 0, 1) := by decide +kernel
theorem dX5_at_13 : decode cX5_at 13 = .ok (.getfield 9, 3) := by decide +kernel
theorem dX5_at_16 : decode cX5_at 16 = .ok (.iload_n 1, 1) := by decide +kernel
theorem dX5_at_17 : decode cX5_at 17 = .ok (.iaload, 1) := by decide +kernel
theorem dX5_at_18 : decode cX5_at 18 = .ok (.goto 4, 3) := by decide +kernel
theorem dX5_at_21 : decode cX5_at 21 = .ok (.iconst (-1), 1) := by decide +kernel
theorem dX5_at_22 : decode cX5_at 22 = .ok (.ireturn, 1) := by decide +kernel
theorem dX6_init_0 : decode cX6_init 0 = .ok (.aload_n 0, 1) := by decide +kernel
theorem dX6_init_1 : decode cX6_init 1 = .ok (.invokespecial 3, 3) := by decide +kernel
theorem dX6_init_4 : decode cX6_init 4 = .ok (.aload_n 0, 1) := by decide +kernel
theorem dX6_init_5 : decode cX6_init 5 = .ok (.iconst 2, 1) := by decide +kernel
theorem dX6_init_6 : decode cX6_init 6 = .ok (.putfield 9, 3) := by decide +kernel
theorem dX6_init_9 : decode cX6_init 9 = .ok (.aload_n 0, 1) := by decide +kernel
theorem dX6_init_10 : decode cX6_init 10 = .ok (.bipush 16, 2) := by decide +kernel
theorem dX6_init_12 : decode cX6_init 12 = .ok (.newarray .int, 2) := by decide +kernel
theorem dX6_init_14 : decode cX6_init 14 = .ok (.putfield 15, 3) := by decide +kernel
theorem dX6_init_17 : decode cX6_init 17 = .ok (.aload_n 0, 1) := by decide +kernel
theorem dX6_init_18 : decode cX6_init 18 = .ok (.bipush 16, 2) := by decide +kernel
theorem dX6_init_20 : decode cX6_init 20 = .ok (.newarray .int, 2) := by decide +kernel
theorem dX6_init_22 : decode cX6_init 22 = .ok (.putfield 19, 3) := by decide +kernel
theorem dX6_init_25 : decode cX6_init 25 = .ok (.aload_n 0, 1) := by decide +kernel
theorem dX6_init_26 : decode cX6_init 26 = .ok (.sipush 2048, 3) := by decide +kernel
theorem dX6_init_29 : decode cX6_init 29 = .ok (.newarray .int, 2) := by decide +kernel
theorem dX6_init_31 : decode cX6_init 31 = .ok (.putfield 22, 3) := by decide +kernel
theorem dX6_init_34 : decode cX6_init 34 = .ok (.aload_n 0, 1) := by decide +kernel
theorem dX6_init_35 : decode cX6_init 35 = .ok (.sipush 2048, 3) := by decide +kernel
theorem dX6_init_38 : decode cX6_init 38 = .ok (.newarray .int, 2) := by decide +kernel
theorem dX6_init_40 : decode cX6_init 40 = .ok (.putfield 25, 3) := by decide +kernel
theorem dX6_init_43 : decode cX6_init 43 = .ok (.aload_n 0, 1) := by decide +kernel
theorem dX6_init_44 : decode cX6_init 44 = .ok (.sipush 2048, 3) := by decide +kernel
theorem dX6_init_47 : decode cX6_init 47 = .ok (.newarray .int, 2) := by decide +kernel
theorem dX6_init_49 : decode cX6_init 49 = .ok (.putfield 28, 3) := by decide +kernel
theorem dX6_init_52 : decode cX6_init 52 = .ok (.aload_n 0, 1) := by decide +kernel
theorem dX6_init_53 : decode cX6_init 53 = .ok (.sipush 2048, 3) := by decide +kernel
theorem dX6_init_56 : decode cX6_init 56 = .ok (.newarray .boolean, 2) := by decide +kernel
theorem dX6_init_58 : decode cX6_init 58 = .ok (.putfield 31, 3) := by decide +kernel
theorem dX6_init_61 : decode cX6_init 61 = .ok (.aload_n 0, 1) := by decide +kernel
theorem dX6_init_62 : decode cX6_init 62 = .ok (.iconst 2, 1) := by decide +kernel
theorem dX6_init_63 : decode cX6_init 63 = .ok (.newarray .int, 2) := by decide +kernel
theorem dX6_init_65 : decode cX6_init 65 = .ok (.putfield 35, 3) := by decide +kernel
theorem dX6_init_68 : decode cX6_init 68 = .ok (.aload_n 0, 1) := by decide +kernel
theorem dX6_init_69 : decode cX6_init 69 = .ok (.getfield 22, 3) := by decide +kernel
theorem dX6_init_72 : decode cX6_init 72 = .ok (.iconst (-1), 1) := by decide +kernel
theorem dX6_init_73 : decode cX6_init 73 = .ok (.invokestatic 38, 3) := by decide +kernel
theorem dX6_init_76 : decode cX6_init 76 = .ok (.return_, 1) := by decide +kernel
theorem dX6_home_0 : decode cX6_home 0 = .ok (.aload_n 0, 1) := by decide +kernel
theorem dX6_home_1 : decode cX6_home 1 = .ok (.getfield 9, 3) := by decide +kernel
theorem dX6_home_4 : decode cX6_home 4 = .ok (.ireturn, 1) := by decide +kernel
theorem dX6_setHome_0 : decode cX6_setHome 0 = .ok (.aload_n 0, 1) := by decide +kernel
theorem dX6_setHome_1 : decode cX6_setHome 1 = .ok (.getfield 9, 3) := by decide +kernel
theorem dX6_setHome_4 : decode cX6_setHome 4 = .ok (.istore_n 2, 1) := by decide +kernel
theorem dX6_setHome_5 : decode cX6_setHome 5 = .ok (.aload_n 0, 1) := by decide +kernel
theorem dX6_setHome_6 : decode cX6_setHome 6 = .ok (.iload_n 1, 1) := by decide +kernel
theorem dX6_setHome_7 : decode cX6_setHome 7 = .ok (.putfield 9, 3) := by decide +kernel
theorem dX6_setHome_10 : decode cX6_setHome 10 = .ok (.iload_n 2, 1) := by decide +kernel
theorem dX6_setHome_11 : decode cX6_setHome 11 = .ok (.ireturn, 1) := by decide +kernel
theorem dX6_looseOf_0 : decode cX6_looseOf 0 = .ok (.aload_n 0, 1) := by decide +kernel
theorem dX6_looseOf_1 : decode cX6_looseOf 1 = .ok (.getfield 15, 3) := by decide +kernel
theorem dX6_looseOf_4 : decode cX6_looseOf 4 = .ok (.iload_n 1, 1) := by decide +kernel
theorem dX6_looseOf_5 : decode cX6_looseOf 5 = .ok (.iaload, 1) := by decide +kernel
theorem dX6_looseOf_6 : decode cX6_looseOf 6 = .ok (.ireturn, 1) := by decide +kernel
theorem dX6_setLoose_0 : decode cX6_setLoose 0 = .ok (.aload_n 0, 1) := by decide +kernel
theorem dX6_setLoose_1 : decode cX6_setLoose 1 = .ok (.getfield 15, 3) := by decide +kernel
theorem dX6_setLoose_4 : decode cX6_setLoose 4 = .ok (.iload_n 1, 1) := by decide +kernel
theorem dX6_setLoose_5 : decode cX6_setLoose 5 = .ok (.iaload, 1) := by decide +kernel
theorem dX6_setLoose_6 : decode cX6_setLoose 6 = .ok (.istore_n 3, 1) := by decide +kernel
theorem dX6_setLoose_7 : decode cX6_setLoose 7 = .ok (.aload_n 0, 1) := by decide +kernel
theorem dX6_setLoose_8 : decode cX6_setLoose 8 = .ok (.getfield 15, 3) := by decide +kernel
theorem dX6_setLoose_11 : decode cX6_setLoose 11 = .ok (.iload_n 1, 1) := by decide +kernel
theorem dX6_setLoose_12 : decode cX6_setLoose 12 = .ok (.iload_n 2, 1) := by decide +kernel
theorem dX6_setLoose_13 : decode cX6_setLoose 13 = .ok (.iastore, 1) := by decide +kernel
theorem dX6_setLoose_14 : decode cX6_setLoose 14 = .ok (.iload_n 3, 1) := by decide +kernel
theorem dX6_setLoose_15 : decode cX6_setLoose 15 = .ok (.ireturn, 1) := by decide +kernel
theorem dX6_setRight_0 : decode cX6_setRight 0 = .ok (.aload_n 0, 1) := by decide +kernel
theorem dX6_setRight_1 : decode cX6_setRight 1 = .ok (.getfield 19, 3) := by decide +kernel
theorem dX6_setRight_4 : decode cX6_setRight 4 = .ok (.iload_n 1, 1) := by decide +kernel
theorem dX6_setRight_5 : decode cX6_setRight 5 = .ok (.iaload, 1) := by decide +kernel
theorem dX6_setRight_6 : decode cX6_setRight 6 = .ok (.istore_n 3, 1) := by decide +kernel
theorem dX6_setRight_7 : decode cX6_setRight 7 = .ok (.aload_n 0, 1) := by decide +kernel
theorem dX6_setRight_8 : decode cX6_setRight 8 = .ok (.getfield 19, 3) := by decide +kernel
theorem dX6_setRight_11 : decode cX6_setRight 11 = .ok (.iload_n 1, 1) := by decide +kernel
theorem dX6_setRight_12 : decode cX6_setRight 12 = .ok (.iload_n 2, 1) := by decide +kernel
theorem dX6_setRight_13 : decode cX6_setRight 13 = .ok (.iastore, 1) := by decide +kernel
theorem dX6_setRight_14 : decode cX6_setRight 14 = .ok (.iload_n 3, 1) := by decide +kernel
theorem dX6_setRight_15 : decode cX6_setRight 15 = .ok (.ireturn, 1) := by decide +kernel
theorem dX6_hasRow_0 : decode cX6_hasRow 0 = .ok (.aload_n 0, 1) := by decide +kernel
theorem dX6_hasRow_1 : decode cX6_hasRow 1 = .ok (.getfield 22, 3) := by decide +kernel
theorem dX6_hasRow_4 : decode cX6_hasRow 4 = .ok (.iload_n 1, 1) := by decide +kernel
theorem dX6_hasRow_5 : decode cX6_hasRow 5 = .ok (.iaload, 1) := by decide +kernel
theorem dX6_hasRow_6 : decode cX6_hasRow 6 = .ok (.iconst (-1), 1) := by decide +kernel
theorem dX6_hasRow_7 : decode cX6_hasRow 7 = .ok (.if_icmp .eq 7, 3) := by decide +kernel
theorem dX6_hasRow_10 : decode cX6_hasRow 10 = .ok (.iconst 1, 1) := by decide +kernel
theorem dX6_hasRow_11 : decode cX6_hasRow 11 = .ok (.goto 4, 3) := by decide +kernel
theorem dX6_hasRow_14 : decode cX6_hasRow 14 = .ok (.iconst 0, 1) := by decide +kernel
theorem dX6_hasRow_15 : decode cX6_hasRow 15 = .ok (.ireturn, 1) := by decide +kernel
theorem dX6_lengthOf_0 : decode cX6_lengthOf 0 = .ok (.aload_n 0, 1) := by decide +kernel
theorem dX6_lengthOf_1 : decode cX6_lengthOf 1 = .ok (.getfield 22, 3) := by decide +kernel
theorem dX6_lengthOf_4 : decode cX6_lengthOf 4 = .ok (.iload_n 1, 1) := by decide +kernel
theorem dX6_lengthOf_5 : decode cX6_lengthOf 5 = .ok (.iaload, 1) := by decide +kernel
theorem dX6_lengthOf_6 : decode cX6_lengthOf 6 = .ok (.ireturn, 1) := by decide +kernel
theorem dX6_waitsAt_0 : decode cX6_waitsAt 0 = .ok (.aload_n 0, 1) := by decide +kernel
theorem dX6_waitsAt_1 : decode cX6_waitsAt 1 = .ok (.getfield 31, 3) := by decide +kernel
theorem dX6_waitsAt_4 : decode cX6_waitsAt 4 = .ok (.iload_n 1, 1) := by decide +kernel
theorem dX6_waitsAt_5 : decode cX6_waitsAt 5 = .ok (.baload, 1) := by decide +kernel
theorem dX6_waitsAt_6 : decode cX6_waitsAt 6 = .ok (.ireturn, 1) := by decide +kernel
theorem dX6_countRows_0 : decode cX6_countRows 0 = .ok (.aload_n 0, 1) := by decide +kernel
theorem dX6_countRows_1 : decode cX6_countRows 1 = .ok (.getfield 35, 3) := by decide +kernel
theorem dX6_countRows_4 : decode cX6_countRows 4 = .ok (.iload_n 1, 1) := by decide +kernel
theorem dX6_countRows_5 : decode cX6_countRows 5 = .ok (.iaload, 1) := by decide +kernel
theorem dX6_countRows_6 : decode cX6_countRows 6 = .ok (.ireturn, 1) := by decide +kernel
theorem dX6_putRow_0 : decode cX6_putRow 0 = .ok (.aload_n 0, 1) := by decide +kernel
theorem dX6_putRow_1 : decode cX6_putRow 1 = .ok (.iload_n 1, 1) := by decide +kernel
theorem dX6_putRow_2 : decode cX6_putRow 2 = .ok (.invokevirtual 44, 3) := by decide +kernel
theorem dX6_putRow_5 : decode cX6_putRow 5 = .ok (.ifCond .eq 7, 3) := by decide +kernel
theorem dX6_putRow_8 : decode cX6_putRow 8 = .ok (.iconst 1, 1) := by decide +kernel
theorem dX6_putRow_9 : decode cX6_putRow 9 = .ok (.goto 4, 3) := by decide +kernel
theorem dX6_putRow_12 : decode cX6_putRow 12 = .ok (.iconst 0, 1) := by decide +kernel
theorem dX6_putRow_13 : decode cX6_putRow 13 = .ok (.istore 5, 2) := by decide +kernel
theorem dX6_putRow_15 : decode cX6_putRow 15 = .ok (.aload_n 0, 1) := by decide +kernel
theorem dX6_putRow_16 : decode cX6_putRow 16 = .ok (.getfield 35, 3) := by decide +kernel
theorem dX6_putRow_19 : decode cX6_putRow 19 = .ok (.iload_n 1, 1) := by decide +kernel
theorem dX6_putRow_20 : decode cX6_putRow 20 = .ok (.invokestatic 48, 3) := by decide +kernel
theorem dX6_putRow_23 : decode cX6_putRow 23 = .ok (.dup2, 1) := by decide +kernel
theorem dX6_putRow_24 : decode cX6_putRow 24 = .ok (.iaload, 1) := by decide +kernel
theorem dX6_putRow_25 : decode cX6_putRow 25 = .ok (.iconst 1, 1) := by decide +kernel
theorem dX6_putRow_26 : decode cX6_putRow 26 = .ok (.iload 5, 2) := by decide +kernel
theorem dX6_putRow_28 : decode cX6_putRow 28 = .ok (.isub, 1) := by decide +kernel
theorem dX6_putRow_29 : decode cX6_putRow 29 = .ok (.iadd, 1) := by decide +kernel
theorem dX6_putRow_30 : decode cX6_putRow 30 = .ok (.iastore, 1) := by decide +kernel
theorem dX6_putRow_31 : decode cX6_putRow 31 = .ok (.aload_n 0, 1) := by decide +kernel
theorem dX6_putRow_32 : decode cX6_putRow 32 = .ok (.getfield 22, 3) := by decide +kernel
theorem dX6_putRow_35 : decode cX6_putRow 35 = .ok (.iload_n 1, 1) := by decide +kernel
theorem dX6_putRow_36 : decode cX6_putRow 36 = .ok (.iload_n 2, 1) := by decide +kernel
theorem dX6_putRow_37 : decode cX6_putRow 37 = .ok (.iastore, 1) := by decide +kernel
theorem dX6_putRow_38 : decode cX6_putRow 38 = .ok (.aload_n 0, 1) := by decide +kernel
theorem dX6_putRow_39 : decode cX6_putRow 39 = .ok (.getfield 25, 3) := by decide +kernel
theorem dX6_putRow_42 : decode cX6_putRow 42 = .ok (.iload_n 1, 1) := by decide +kernel
theorem dX6_putRow_43 : decode cX6_putRow 43 = .ok (.iload_n 3, 1) := by decide +kernel
theorem dX6_putRow_44 : decode cX6_putRow 44 = .ok (.iastore, 1) := by decide +kernel
theorem dX6_putRow_45 : decode cX6_putRow 45 = .ok (.aload_n 0, 1) := by decide +kernel
theorem dX6_putRow_46 : decode cX6_putRow 46 = .ok (.getfield 28, 3) := by decide +kernel
theorem dX6_putRow_49 : decode cX6_putRow 49 = .ok (.iload_n 1, 1) := by decide +kernel
theorem dX6_putRow_50 : decode cX6_putRow 50 = .ok (.iload 4, 2) := by decide +kernel
theorem dX6_putRow_52 : decode cX6_putRow 52 = .ok (.iastore, 1) := by decide +kernel
theorem dX6_putRow_53 : decode cX6_putRow 53 = .ok (.aload_n 0, 1) := by decide +kernel
theorem dX6_putRow_54 : decode cX6_putRow 54 = .ok (.getfield 31, 3) := by decide +kernel
theorem dX6_putRow_57 : decode cX6_putRow 57 = .ok (.iload_n 1, 1) := by decide +kernel
theorem dX6_putRow_58 : decode cX6_putRow 58 = .ok (.aload_n 0, 1) := by decide +kernel
theorem dX6_putRow_59 : decode cX6_putRow 59 = .ok (.iload_n 1, 1) := by decide +kernel
theorem dX6_putRow_60 : decode cX6_putRow 60 = .ok (.invokevirtual 52, 3) := by decide +kernel
theorem dX6_putRow_63 : decode cX6_putRow 63 = .ok (.bastore, 1) := by decide +kernel
theorem dX6_putRow_64 : decode cX6_putRow 64 = .ok (.iload 5, 2) := by decide +kernel
theorem dX6_putRow_66 : decode cX6_putRow 66 = .ok (.ireturn, 1) := by decide +kernel
theorem dX6_dropRow_0 : decode cX6_dropRow 0 = .ok (.aload_n 0, 1) := by decide +kernel
theorem dX6_dropRow_1 : decode cX6_dropRow 1 = .ok (.iload_n 1, 1) := by decide +kernel
theorem dX6_dropRow_2 : decode cX6_dropRow 2 = .ok (.invokevirtual 44, 3) := by decide +kernel
theorem dX6_dropRow_5 : decode cX6_dropRow 5 = .ok (.ifCond .eq 7, 3) := by decide +kernel
theorem dX6_dropRow_8 : decode cX6_dropRow 8 = .ok (.iconst 1, 1) := by decide +kernel
theorem dX6_dropRow_9 : decode cX6_dropRow 9 = .ok (.goto 4, 3) := by decide +kernel
theorem dX6_dropRow_12 : decode cX6_dropRow 12 = .ok (.iconst 0, 1) := by decide +kernel
theorem dX6_dropRow_13 : decode cX6_dropRow 13 = .ok (.istore_n 2, 1) := by decide +kernel
theorem dX6_dropRow_14 : decode cX6_dropRow 14 = .ok (.aload_n 0, 1) := by decide +kernel
theorem dX6_dropRow_15 : decode cX6_dropRow 15 = .ok (.getfield 35, 3) := by decide +kernel
theorem dX6_dropRow_18 : decode cX6_dropRow 18 = .ok (.iload_n 1, 1) := by decide +kernel
theorem dX6_dropRow_19 : decode cX6_dropRow 19 = .ok (.invokestatic 48, 3) := by decide +kernel
theorem dX6_dropRow_22 : decode cX6_dropRow 22 = .ok (.dup2, 1) := by decide +kernel
theorem dX6_dropRow_23 : decode cX6_dropRow 23 = .ok (.iaload, 1) := by decide +kernel
theorem dX6_dropRow_24 : decode cX6_dropRow 24 = .ok (.iload_n 2, 1) := by decide +kernel
theorem dX6_dropRow_25 : decode cX6_dropRow 25 = .ok (.isub, 1) := by decide +kernel
theorem dX6_dropRow_26 : decode cX6_dropRow 26 = .ok (.iastore, 1) := by decide +kernel
theorem dX6_dropRow_27 : decode cX6_dropRow 27 = .ok (.aload_n 0, 1) := by decide +kernel
theorem dX6_dropRow_28 : decode cX6_dropRow 28 = .ok (.getfield 22, 3) := by decide +kernel
theorem dX6_dropRow_31 : decode cX6_dropRow 31 = .ok (.iload_n 1, 1) := by decide +kernel
theorem dX6_dropRow_32 : decode cX6_dropRow 32 = .ok (.iconst (-1), 1) := by decide +kernel
theorem dX6_dropRow_33 : decode cX6_dropRow 33 = .ok (.iastore, 1) := by decide +kernel
theorem dX6_dropRow_34 : decode cX6_dropRow 34 = .ok (.aload_n 0, 1) := by decide +kernel
theorem dX6_dropRow_35 : decode cX6_dropRow 35 = .ok (.getfield 31, 3) := by decide +kernel
theorem dX6_dropRow_38 : decode cX6_dropRow 38 = .ok (.iload_n 1, 1) := by decide +kernel
theorem dX6_dropRow_39 : decode cX6_dropRow 39 = .ok (.iconst 0, 1) := by decide +kernel
theorem dX6_dropRow_40 : decode cX6_dropRow 40 = .ok (.bastore, 1) := by decide +kernel
theorem dX6_dropRow_41 : decode cX6_dropRow 41 = .ok (.iload_n 2, 1) := by decide +kernel
theorem dX6_dropRow_42 : decode cX6_dropRow 42 = .ok (.ireturn, 1) := by decide +kernel
theorem dX6_actOf_0 : decode cX6_actOf 0 = .ok (.iload_n 2, 1) := by decide +kernel
theorem dX6_actOf_1 : decode cX6_actOf 1 = .ok (.iconst 4, 1) := by decide +kernel
theorem dX6_actOf_2 : decode cX6_actOf 2 = .ok (.if_icmp .ge 12, 3) := by decide +kernel
theorem dX6_actOf_5 : decode cX6_actOf 5 = .ok (.aload_n 0, 1) := by decide +kernel
theorem dX6_actOf_6 : decode cX6_actOf 6 = .ok (.getfield 25, 3) := by decide +kernel
theorem dX6_actOf_9 : decode cX6_actOf 9 = .ok (.iload_n 1, 1) := by decide +kernel
theorem dX6_actOf_10 : decode cX6_actOf 10 = .ok (.iaload, 1) := by decide +kernel
theorem dX6_actOf_11 : decode cX6_actOf 11 = .ok (.goto 9, 3) := by decide +kernel
theorem dX6_actOf_14 : decode cX6_actOf 14 = .ok (.aload_n 0, 1) := by decide +kernel
theorem dX6_actOf_15 : decode cX6_actOf 15 = .ok (.getfield 28, 3) := by decide +kernel
theorem dX6_actOf_18 : decode cX6_actOf 18 = .ok (.iload_n 1, 1) := by decide +kernel
theorem dX6_actOf_19 : decode cX6_actOf 19 = .ok (.iaload, 1) := by decide +kernel
theorem dX6_actOf_20 : decode cX6_actOf 20 = .ok (.istore_n 3, 1) := by decide +kernel
theorem dX6_actOf_21 : decode cX6_actOf 21 = .ok (.iload_n 3, 1) := by decide +kernel
theorem dX6_actOf_22 : decode cX6_actOf 22 = .ok (.bipush 24, 2) := by decide +kernel
theorem dX6_actOf_24 : decode cX6_actOf 24 = .ok (.bipush 8, 2) := by decide +kernel
theorem dX6_actOf_26 : decode cX6_actOf 26 = .ok (.iload_n 2, 1) := by decide +kernel
theorem dX6_actOf_27 : decode cX6_actOf 27 = .ok (.iconst 3, 1) := by decide +kernel
theorem dX6_actOf_28 : decode cX6_actOf 28 = .ok (.iand, 1) := by decide +kernel
theorem dX6_actOf_29 : decode cX6_actOf 29 = .ok (.imul, 1) := by decide +kernel
theorem dX6_actOf_30 : decode cX6_actOf 30 = .ok (.isub, 1) := by decide +kernel
theorem dX6_actOf_31 : decode cX6_actOf 31 = .ok (.iushr, 1) := by decide +kernel
theorem dX6_actOf_32 : decode cX6_actOf 32 = .ok (.sipush 255, 3) := by decide +kernel
theorem dX6_actOf_35 : decode cX6_actOf 35 = .ok (.iand, 1) := by decide +kernel
theorem dX6_actOf_36 : decode cX6_actOf 36 = .ok (.ireturn, 1) := by decide +kernel
theorem dX6_hasWait_0 : decode cX6_hasWait 0 = .ok (.iconst 0, 1) := by decide +kernel
theorem dX6_hasWait_1 : decode cX6_hasWait 1 = .ok (.istore_n 2, 1) := by decide +kernel
theorem dX6_hasWait_2 : decode cX6_hasWait 2 = .ok (.iload_n 2, 1) := by decide +kernel
theorem dX6_hasWait_3 : decode cX6_hasWait 3 = .ok (.aload_n 0, 1) := by decide +kernel
theorem dX6_hasWait_4 : decode cX6_hasWait 4 = .ok (.getfield 22, 3) := by decide +kernel
theorem dX6_hasWait_7 : decode cX6_hasWait 7 = .ok (.iload_n 1, 1) := by decide +kernel
theorem dX6_hasWait_8 : decode cX6_hasWait 8 = .ok (.iaload, 1) := by decide +kernel
theorem dX6_hasWait_9 : decode cX6_hasWait 9 = .ok (.if_icmp .ge 24, 3) := by decide +kernel
theorem dX6_hasWait_12 : decode cX6_hasWait 12 = .ok (.aload_n 0, 1) := by decide +kernel
theorem dX6_hasWait_13 : decode cX6_hasWait 13 = .ok (.iload_n 1, 1) := by decide +kernel
theorem dX6_hasWait_14 : decode cX6_hasWait 14 = .ok (.iload_n 2, 1) := by decide +kernel
theorem dX6_hasWait_15 : decode cX6_hasWait 15 = .ok (.invokevirtual 55, 3) := by decide +kernel
theorem dX6_hasWait_18 : decode cX6_hasWait 18 = .ok (.iconst 4, 1) := by decide +kernel
theorem dX6_hasWait_19 : decode cX6_hasWait 19 = .ok (.ishr, 1) := by decide +kernel
theorem dX6_hasWait_20 : decode cX6_hasWait 20 = .ok (.bipush 9, 2) := by decide +kernel
theorem dX6_hasWait_22 : decode cX6_hasWait 22 = .ok (.if_icmp .ne 5, 3) := by decide +kernel
theorem dX6_hasWait_25 : decode cX6_hasWait 25 = .ok (.iconst 1, 1) := by decide +kernel
theorem dX6_hasWait_26 : decode cX6_hasWait 26 = .ok (.ireturn, 1) := by decide +kernel
theorem dX6_hasWait_27 : decode cX6_hasWait 27 = .ok (.iinc 2 1, 3) := by decide +kernel
theorem dX6_hasWait_30 : decode cX6_hasWait 30 = .ok (.goto (-28), 3) := by decide +kernel
theorem dX6_hasWait_33 : decode cX6_hasWait 33 = .ok (.iconst 0, 1) := by decide +kernel
theorem dX6_hasWait_34 : decode cX6_hasWait 34 = .ok (.ireturn, 1) := by decide +kernel
theorem dX6_cachePlace_0 : decode cX6_cachePlace 0 = .ok (.iload_n 1, 1) := by decide +kernel
theorem dX6_cachePlace_1 : decode cX6_cachePlace 1 = .ok (.bipush 64, 2) := by decide +kernel
theorem dX6_cachePlace_3 : decode cX6_cachePlace 3 = .ok (.imul, 1) := by decide +kernel
theorem dX6_cachePlace_4 : decode cX6_cachePlace 4 = .ok (.iload_n 2, 1) := by decide +kernel
theorem dX6_cachePlace_5 : decode cX6_cachePlace 5 = .ok (.iadd, 1) := by decide +kernel
theorem dX6_cachePlace_6 : decode cX6_cachePlace 6 = .ok (.ireturn, 1) := by decide +kernel
theorem dX6_letterPlace_0 : decode cX6_letterPlace 0 = .ok (.iload_n 2, 1) := by decide +kernel
theorem dX6_letterPlace_1 : decode cX6_letterPlace 1 = .ok (.invokestatic 59, 3) := by decide +kernel
theorem dX6_letterPlace_4 : decode cX6_letterPlace 4 = .ok (.istore_n 3, 1) := by decide +kernel
theorem dX6_letterPlace_5 : decode cX6_letterPlace 5 = .ok (.iload_n 2, 1) := by decide +kernel
theorem dX6_letterPlace_6 : decode cX6_letterPlace 6 = .ok (.invokestatic 64, 3) := by decide +kernel
theorem dX6_letterPlace_9 : decode cX6_letterPlace 9 = .ok (.istore 4, 2) := by decide +kernel
theorem dX6_letterPlace_11 : decode cX6_letterPlace 11 = .ok (.iload_n 3, 1) := by decide +kernel
theorem dX6_letterPlace_12 : decode cX6_letterPlace 12 = .ok (.aload_n 0, 1) := by decide +kernel
theorem dX6_letterPlace_13 : decode cX6_letterPlace 13 = .ok (.getfield 9, 3) := by decide +kernel
theorem dX6_letterPlace_16 : decode cX6_letterPlace 16 = .ok (.if_icmp .eq 17, 3) := by decide +kernel
theorem dX6_letterPlace_19 : decode cX6_letterPlace 19 = .ok (.aload_n 0, 1) := by decide +kernel
theorem dX6_letterPlace_20 : decode cX6_letterPlace 20 = .ok (.aload_n 1, 1) := by decide +kernel
theorem dX6_letterPlace_21 : decode cX6_letterPlace 21 = .ok (.iload_n 3, 1) := by decide +kernel
theorem dX6_letterPlace_22 : decode cX6_letterPlace 22 = .ok (.invokevirtual 67, 3) := by decide +kernel
theorem dX6_letterPlace_25 : decode cX6_letterPlace 25 = .ok (.iconst 3, 1) := by decide +kernel
theorem dX6_letterPlace_26 : decode cX6_letterPlace 26 = .ok (.iload 4, 2) := by decide +kernel
theorem dX6_letterPlace_28 : decode cX6_letterPlace 28 = .ok (.iadd, 1) := by decide +kernel
theorem dX6_letterPlace_29 : decode cX6_letterPlace 29 = .ok (.invokevirtual 72, 3) := by decide +kernel
theorem dX6_letterPlace_32 : decode cX6_letterPlace 32 = .ok (.ireturn, 1) := by decide +kernel
theorem dX6_letterPlace_33 : decode cX6_letterPlace 33 = .ok (.aload_n 1, 1) := by decide +kernel
theorem dX6_letterPlace_34 : decode cX6_letterPlace 34 = .ok (.invokevirtual 75, 3) := by decide +kernel
theorem dX6_letterPlace_37 : decode cX6_letterPlace 37 = .ok (.iconst 1, 1) := by decide +kernel
theorem dX6_letterPlace_38 : decode cX6_letterPlace 38 = .ok (.iload_n 2, 1) := by decide +kernel
theorem dX6_letterPlace_39 : decode cX6_letterPlace 39 = .ok (.invokestatic 79, 3) := by decide +kernel
theorem dX6_letterPlace_42 : decode cX6_letterPlace 42 = .ok (.ishl, 1) := by decide +kernel
theorem dX6_letterPlace_43 : decode cX6_letterPlace 43 = .ok (.iconst (-1), 1) := by decide +kernel
theorem dX6_letterPlace_44 : decode cX6_letterPlace 44 = .ok (.ixor, 1) := by decide +kernel
theorem dX6_letterPlace_45 : decode cX6_letterPlace 45 = .ok (.iand, 1) := by decide +kernel
theorem dX6_letterPlace_46 : decode cX6_letterPlace 46 = .ok (.istore 5, 2) := by decide +kernel
theorem dX6_letterPlace_48 : decode cX6_letterPlace 48 = .ok (.iload 5, 2) := by decide +kernel
theorem dX6_letterPlace_50 : decode cX6_letterPlace 50 = .ok (.ifCond .ne 10, 3) := by decide +kernel
theorem dX6_letterPlace_53 : decode cX6_letterPlace 53 = .ok (.iconst 2, 1) := by decide +kernel
theorem dX6_letterPlace_54 : decode cX6_letterPlace 54 = .ok (.iload 4, 2) := by decide +kernel
theorem dX6_letterPlace_56 : decode cX6_letterPlace 56 = .ok (.imul, 1) := by decide +kernel
theorem dX6_letterPlace_57 : decode cX6_letterPlace 57 = .ok (.goto 9, 3) := by decide +kernel
theorem dX6_letterPlace_60 : decode cX6_letterPlace 60 = .ok (.iconst 2, 1) := by decide +kernel
theorem dX6_letterPlace_61 : decode cX6_letterPlace 61 = .ok (.iload 4, 2) := by decide +kernel
theorem dX6_letterPlace_63 : decode cX6_letterPlace 63 = .ok (.imul, 1) := by decide +kernel
theorem dX6_letterPlace_64 : decode cX6_letterPlace 64 = .ok (.iconst 1, 1) := by decide +kernel
theorem dX6_letterPlace_65 : decode cX6_letterPlace 65 = .ok (.iadd, 1) := by decide +kernel
theorem dX6_letterPlace_66 : decode cX6_letterPlace 66 = .ok (.istore 6, 2) := by decide +kernel
theorem dX6_letterPlace_68 : decode cX6_letterPlace 68 = .ok (.bipush 16, 2) := by decide +kernel
theorem dX6_letterPlace_70 : decode cX6_letterPlace 70 = .ok (.aload_n 1, 1) := by decide +kernel
theorem dX6_letterPlace_71 : decode cX6_letterPlace 71 = .ok (.aload_n 0, 1) := by decide +kernel
theorem dX6_letterPlace_72 : decode cX6_letterPlace 72 = .ok (.getfield 9, 3) := by decide +kernel
theorem dX6_letterPlace_75 : decode cX6_letterPlace 75 = .ok (.invokevirtual 67, 3) := by decide +kernel
theorem dX6_letterPlace_78 : decode cX6_letterPlace 78 = .ok (.iadd, 1) := by decide +kernel
theorem dX6_letterPlace_79 : decode cX6_letterPlace 79 = .ok (.bipush 64, 2) := by decide +kernel
theorem dX6_letterPlace_81 : decode cX6_letterPlace 81 = .ok (.imul, 1) := by decide +kernel
theorem dX6_letterPlace_82 : decode cX6_letterPlace 82 = .ok (.iload 6, 2) := by decide +kernel
theorem dX6_letterPlace_84 : decode cX6_letterPlace 84 = .ok (.iadd, 1) := by decide +kernel
theorem dX6_letterPlace_85 : decode cX6_letterPlace 85 = .ok (.ireturn, 1) := by decide +kernel
theorem dX6_badnessOf_0 : decode cX6_badnessOf 0 = .ok (.iconst 0, 1) := by decide +kernel
theorem dX6_badnessOf_1 : decode cX6_badnessOf 1 = .ok (.istore_n 2, 1) := by decide +kernel
theorem dX6_badnessOf_2 : decode cX6_badnessOf 2 = .ok (.iconst 0, 1) := by decide +kernel
theorem dX6_badnessOf_3 : decode cX6_badnessOf 3 = .ok (.istore_n 3, 1) := by decide +kernel
theorem dX6_badnessOf_4 : decode cX6_badnessOf 4 = .ok (.iconst 0, 1) := by decide +kernel
theorem dX6_badnessOf_5 : decode cX6_badnessOf 5 = .ok (.istore 4, 2) := by decide +kernel
theorem dX6_badnessOf_7 : decode cX6_badnessOf 7 = .ok (.iconst 0, 1) := by decide +kernel
theorem dX6_badnessOf_8 : decode cX6_badnessOf 8 = .ok (.istore 5, 2) := by decide +kernel
theorem dX6_badnessOf_10 : decode cX6_badnessOf 10 = .ok (.iload 5, 2) := by decide +kernel
theorem dX6_badnessOf_12 : decode cX6_badnessOf 12 = .ok (.aload_n 0, 1) := by decide +kernel
theorem dX6_badnessOf_13 : decode cX6_badnessOf 13 = .ok (.getfield 9, 3) := by decide +kernel
theorem dX6_badnessOf_16 : decode cX6_badnessOf 16 = .ok (.if_icmp .ge 75, 3) := by decide +kernel
theorem dX6_badnessOf_19 : decode cX6_badnessOf 19 = .ok (.aload_n 0, 1) := by decide +kernel
theorem dX6_badnessOf_20 : decode cX6_badnessOf 20 = .ok (.getfield 19, 3) := by decide +kernel
theorem dX6_badnessOf_23 : decode cX6_badnessOf 23 = .ok (.aload_n 1, 1) := by decide +kernel
theorem dX6_badnessOf_24 : decode cX6_badnessOf 24 = .ok (.iload 5, 2) := by decide +kernel
theorem dX6_badnessOf_26 : decode cX6_badnessOf 26 = .ok (.invokevirtual 67, 3) := by decide +kernel
theorem dX6_badnessOf_29 : decode cX6_badnessOf 29 = .ok (.iaload, 1) := by decide +kernel
theorem dX6_badnessOf_30 : decode cX6_badnessOf 30 = .ok (.istore 6, 2) := by decide +kernel
theorem dX6_badnessOf_32 : decode cX6_badnessOf 32 = .ok (.iload_n 2, 1) := by decide +kernel
theorem dX6_badnessOf_33 : decode cX6_badnessOf 33 = .ok (.iload 6, 2) := by decide +kernel
theorem dX6_badnessOf_35 : decode cX6_badnessOf 35 = .ok (.iconst 2, 1) := by decide +kernel
theorem dX6_badnessOf_36 : decode cX6_badnessOf 36 = .ok (.if_icmp .ne 7, 3) := by decide +kernel
theorem dX6_badnessOf_39 : decode cX6_badnessOf 39 = .ok (.iconst 1, 1) := by decide +kernel
theorem dX6_badnessOf_40 : decode cX6_badnessOf 40 = .ok (.goto 4, 3) := by decide +kernel
theorem dX6_badnessOf_43 : decode cX6_badnessOf 43 = .ok (.iconst 0, 1) := by decide +kernel
theorem dX6_badnessOf_44 : decode cX6_badnessOf 44 = .ok (.iadd, 1) := by decide +kernel
theorem dX6_badnessOf_45 : decode cX6_badnessOf 45 = .ok (.istore_n 2, 1) := by decide +kernel
theorem dX6_badnessOf_46 : decode cX6_badnessOf 46 = .ok (.iload_n 3, 1) := by decide +kernel
theorem dX6_badnessOf_47 : decode cX6_badnessOf 47 = .ok (.iload 6, 2) := by decide +kernel
theorem dX6_badnessOf_49 : decode cX6_badnessOf 49 = .ok (.iconst 1, 1) := by decide +kernel
theorem dX6_badnessOf_50 : decode cX6_badnessOf 50 = .ok (.if_icmp .lt 7, 3) := by decide +kernel
theorem dX6_badnessOf_53 : decode cX6_badnessOf 53 = .ok (.iconst 1, 1) := by decide +kernel
theorem dX6_badnessOf_54 : decode cX6_badnessOf 54 = .ok (.goto 4, 3) := by decide +kernel
theorem dX6_badnessOf_57 : decode cX6_badnessOf 57 = .ok (.iconst 0, 1) := by decide +kernel
theorem dX6_badnessOf_58 : decode cX6_badnessOf 58 = .ok (.iadd, 1) := by decide +kernel
theorem dX6_badnessOf_59 : decode cX6_badnessOf 59 = .ok (.istore_n 3, 1) := by decide +kernel
theorem dX6_badnessOf_60 : decode cX6_badnessOf 60 = .ok (.iload 4, 2) := by decide +kernel
theorem dX6_badnessOf_62 : decode cX6_badnessOf 62 = .ok (.iload 6, 2) := by decide +kernel
theorem dX6_badnessOf_64 : decode cX6_badnessOf 64 = .ok (.iconst 1, 1) := by decide +kernel
theorem dX6_badnessOf_65 : decode cX6_badnessOf 65 = .ok (.if_icmp .lt 16, 3) := by decide +kernel
theorem dX6_badnessOf_68 : decode cX6_badnessOf 68 = .ok (.aload_n 1, 1) := by decide +kernel
theorem dX6_badnessOf_69 : decode cX6_badnessOf 69 = .ok (.iload 5, 2) := by decide +kernel
theorem dX6_badnessOf_71 : decode cX6_badnessOf 71 = .ok (.invokevirtual 82, 3) := by decide +kernel
theorem dX6_badnessOf_74 : decode cX6_badnessOf 74 = .ok (.ifCond .ne 7, 3) := by decide +kernel
theorem dX6_badnessOf_77 : decode cX6_badnessOf 77 = .ok (.iconst 1, 1) := by decide +kernel
theorem dX6_badnessOf_78 : decode cX6_badnessOf 78 = .ok (.goto 4, 3) := by decide +kernel
theorem dX6_badnessOf_81 : decode cX6_badnessOf 81 = .ok (.iconst 0, 1) := by decide +kernel
theorem dX6_badnessOf_82 : decode cX6_badnessOf 82 = .ok (.ior, 1) := by decide +kernel
theorem dX6_badnessOf_83 : decode cX6_badnessOf 83 = .ok (.istore 4, 2) := by decide +kernel
theorem dX6_badnessOf_85 : decode cX6_badnessOf 85 = .ok (.iinc 5 1, 3) := by decide +kernel
theorem dX6_badnessOf_88 : decode cX6_badnessOf 88 = .ok (.goto (-78), 3) := by decide +kernel
theorem dX6_badnessOf_91 : decode cX6_badnessOf 91 = .ok (.iload_n 2, 1) := by decide +kernel
theorem dX6_badnessOf_92 : decode cX6_badnessOf 92 = .ok (.ifCond .le 10, 3) := by decide +kernel
theorem dX6_badnessOf_95 : decode cX6_badnessOf 95 = .ok (.iload_n 3, 1) := by decide +kernel
theorem dX6_badnessOf_96 : decode cX6_badnessOf 96 = .ok (.iconst 1, 1) := by decide +kernel
theorem dX6_badnessOf_97 : decode cX6_badnessOf 97 = .ok (.if_icmp .le 5, 3) := by decide +kernel
theorem dX6_badnessOf_100 : decode cX6_badnessOf 100 = .ok (.iconst 4, 1) := by decide +kernel
theorem dX6_badnessOf_101 : decode cX6_badnessOf 101 = .ok (.ireturn, 1) := by decide +kernel
theorem dX6_badnessOf_102 : decode cX6_badnessOf 102 = .ok (.iload 4, 2) := by decide +kernel
theorem dX6_badnessOf_104 : decode cX6_badnessOf 104 = .ok (.ifCond .eq 7, 3) := by decide +kernel
theorem dX6_badnessOf_107 : decode cX6_badnessOf 107 = .ok (.iconst 5, 1) := by decide +kernel
theorem dX6_badnessOf_108 : decode cX6_badnessOf 108 = .ok (.goto 4, 3) := by decide +kernel
theorem dX6_badnessOf_111 : decode cX6_badnessOf 111 = .ok (.iconst 0, 1) := by decide +kernel
theorem dX6_badnessOf_112 : decode cX6_badnessOf 112 = .ok (.ireturn, 1) := by decide +kernel
theorem dX7_init_0 : decode cX7_init 0 = .ok (.aload_n 0, 1) := by decide +kernel
theorem dX7_init_1 : decode cX7_init 1 = .ok (.invokespecial 5, 3) := by decide +kernel
theorem dX7_init_4 : decode cX7_init 4 = .ok (.aload_n 0, 1) := by decide +kernel
theorem dX7_init_5 : decode cX7_init 5 = .ok (.lconst 0, 1) := by decide +kernel
theorem dX7_init_6 : decode cX7_init 6 = .ok (.putfield 11, 3) := by decide +kernel
theorem dX7_init_9 : decode cX7_init 9 = .ok (.aload_n 0, 1) := by decide +kernel
theorem dX7_init_10 : decode cX7_init 10 = .ok (.iconst 0, 1) := by decide +kernel
theorem dX7_init_11 : decode cX7_init 11 = .ok (.putfield 15, 3) := by decide +kernel
theorem dX7_init_14 : decode cX7_init 14 = .ok (.aload_n 0, 1) := by decide +kernel
theorem dX7_init_15 : decode cX7_init 15 = .ok (.bipush 8, 2) := by decide +kernel
theorem dX7_init_17 : decode cX7_init 17 = .ok (.newarray .int, 2) := by decide +kernel
theorem dX7_init_19 : decode cX7_init 19 = .ok (.putfield 19, 3) := by decide +kernel
theorem dX7_init_22 : decode cX7_init 22 = .ok (.return_, 1) := by decide +kernel
theorem dX7_begin_0 : decode cX7_begin 0 = .ok (.aload_n 0, 1) := by decide +kernel
theorem dX7_begin_1 : decode cX7_begin 1 = .ok (.lconst 0, 1) := by decide +kernel
theorem dX7_begin_2 : decode cX7_begin 2 = .ok (.putfield 11, 3) := by decide +kernel
theorem dX7_begin_5 : decode cX7_begin 5 = .ok (.aload_n 0, 1) := by decide +kernel
theorem dX7_begin_6 : decode cX7_begin 6 = .ok (.iconst 0, 1) := by decide +kernel
theorem dX7_begin_7 : decode cX7_begin 7 = .ok (.putfield 15, 3) := by decide +kernel
theorem dX7_begin_10 : decode cX7_begin 10 = .ok (.aload_n 0, 1) := by decide +kernel
theorem dX7_begin_11 : decode cX7_begin 11 = .ok (.getfield 19, 3) := by decide +kernel
theorem dX7_begin_14 : decode cX7_begin 14 = .ok (.iconst 0, 1) := by decide +kernel
theorem dX7_begin_15 : decode cX7_begin 15 = .ok (.invokestatic 23, 3) := by decide +kernel
theorem dX7_begin_18 : decode cX7_begin 18 = .ok (.aload_n 0, 1) := by decide +kernel
theorem dX7_begin_19 : decode cX7_begin 19 = .ok (.iload_n 1, 1) := by decide +kernel
theorem dX7_begin_20 : decode cX7_begin 20 = .ok (.iconst 1, 1) := by decide +kernel
theorem dX7_begin_21 : decode cX7_begin 21 = .ok (.invokevirtual 29, 3) := by decide +kernel
theorem dX7_begin_24 : decode cX7_begin 24 = .ok (.return_, 1) := by decide +kernel
theorem dX7_copy_0 : decode cX7_copy 0 = .ok (.aload_n 0, 1) := by decide +kernel
theorem dX7_copy_1 : decode cX7_copy 1 = .ok (.aload_n 1, 1) := by decide +kernel
theorem dX7_copy_2 : decode cX7_copy 2 = .ok (.getfield 11, 3) := by decide +kernel
theorem dX7_copy_5 : decode cX7_copy 5 = .ok (.putfield 11, 3) := by decide +kernel
theorem dX7_copy_8 : decode cX7_copy 8 = .ok (.aload_n 0, 1) := by decide +kernel
theorem dX7_copy_9 : decode cX7_copy 9 = .ok (.aload_n 1, 1) := by decide +kernel
theorem dX7_copy_10 : decode cX7_copy 10 = .ok (.getfield 15, 3) := by decide +kernel
theorem dX7_copy_13 : decode cX7_copy 13 = .ok (.putfield 15, 3) := by decide +kernel
theorem dX7_copy_16 : decode cX7_copy 16 = .ok (.aload_n 1, 1) := by decide +kernel
theorem dX7_copy_17 : decode cX7_copy 17 = .ok (.getfield 19, 3) := by decide +kernel
theorem dX7_copy_20 : decode cX7_copy 20 = .ok (.iconst 0, 1) := by decide +kernel
theorem dX7_copy_21 : decode cX7_copy 21 = .ok (.aload_n 0, 1) := by decide +kernel
theorem dX7_copy_22 : decode cX7_copy 22 = .ok (.getfield 19, 3) := by decide +kernel
theorem dX7_copy_25 : decode cX7_copy 25 = .ok (.iconst 0, 1) := by decide +kernel
theorem dX7_copy_26 : decode cX7_copy 26 = .ok (.bipush 8, 2) := by decide +kernel
theorem dX7_copy_28 : decode cX7_copy 28 = .ok (.invokestatic 33, 3) := by decide +kernel
theorem dX7_copy_31 : decode cX7_copy 31 = .ok (.return_, 1) := by decide +kernel
theorem dX7_stateOf_0 : decode cX7_stateOf 0 = .ok (.aload_n 0, 1) := by decide +kernel
theorem dX7_stateOf_1 : decode cX7_stateOf 1 = .ok (.bipush 7, 2) := by decide +kernel
theorem dX7_stateOf_3 : decode cX7_stateOf 3 = .ok (.iload_n 1, 1) := by decide +kernel
theorem dX7_stateOf_4 : decode cX7_stateOf 4 = .ok (.imul, 1) := by decide +kernel
theorem dX7_stateOf_5 : decode cX7_stateOf 5 = .ok (.bipush 15, 2) := by decide +kernel
theorem dX7_stateOf_7 : decode cX7_stateOf 7 = .ok (.invokevirtual 39, 3) := by decide +kernel
theorem dX7_stateOf_10 : decode cX7_stateOf 10 = .ok (.ireturn, 1) := by decide +kernel
theorem dX7_freshOf_0 : decode cX7_freshOf 0 = .ok (.aload_n 0, 1) := by decide +kernel
theorem dX7_freshOf_1 : decode cX7_freshOf 1 = .ok (.bipush 7, 2) := by decide +kernel
theorem dX7_freshOf_3 : decode cX7_freshOf 3 = .ok (.iload_n 1, 1) := by decide +kernel
theorem dX7_freshOf_4 : decode cX7_freshOf 4 = .ok (.imul, 1) := by decide +kernel
theorem dX7_freshOf_5 : decode cX7_freshOf 5 = .ok (.iconst 4, 1) := by decide +kernel
theorem dX7_freshOf_6 : decode cX7_freshOf 6 = .ok (.iadd, 1) := by decide +kernel
theorem dX7_freshOf_7 : decode cX7_freshOf 7 = .ok (.iconst 1, 1) := by decide +kernel
theorem dX7_freshOf_8 : decode cX7_freshOf 8 = .ok (.invokevirtual 39, 3) := by decide +kernel
theorem dX7_freshOf_11 : decode cX7_freshOf 11 = .ok (.ireturn, 1) := by decide +kernel
theorem dX7_wantOf_0 : decode cX7_wantOf 0 = .ok (.aload_n 0, 1) := by decide +kernel
theorem dX7_wantOf_1 : decode cX7_wantOf 1 = .ok (.bipush 7, 2) := by decide +kernel
theorem dX7_wantOf_3 : decode cX7_wantOf 3 = .ok (.iload_n 1, 1) := by decide +kernel
theorem dX7_wantOf_4 : decode cX7_wantOf 4 = .ok (.imul, 1) := by decide +kernel
theorem dX7_wantOf_5 : decode cX7_wantOf 5 = .ok (.iconst 5, 1) := by decide +kernel
theorem dX7_wantOf_6 : decode cX7_wantOf 6 = .ok (.iadd, 1) := by decide +kernel
theorem dX7_wantOf_7 : decode cX7_wantOf 7 = .ok (.iconst 3, 1) := by decide +kernel
theorem dX7_wantOf_8 : decode cX7_wantOf 8 = .ok (.invokevirtual 39, 3) := by decide +kernel
theorem dX7_wantOf_11 : decode cX7_wantOf 11 = .ok (.ireturn, 1) := by decide +kernel
theorem dX7_holders_0 : decode cX7_holders 0 = .ok (.aload_n 0, 1) := by decide +kernel
theorem dX7_holders_1 : decode cX7_holders 1 = .ok (.bipush 35, 2) := by decide +kernel
theorem dX7_holders_3 : decode cX7_holders 3 = .ok (.bipush 15, 2) := by decide +kernel
theorem dX7_holders_5 : decode cX7_holders 5 = .ok (.invokevirtual 39, 3) := by decide +kernel
theorem dX7_holders_8 : decode cX7_holders 8 = .ok (.ireturn, 1) := by decide +kernel
theorem dX7_setState_0 : decode cX7_setState 0 = .ok (.aload_n 0, 1) := by decide +kernel
theorem dX7_setState_1 : decode cX7_setState 1 = .ok (.bipush 7, 2) := by decide +kernel
theorem dX7_setState_3 : decode cX7_setState 3 = .ok (.iload_n 1, 1) := by decide +kernel
theorem dX7_setState_4 : decode cX7_setState 4 = .ok (.imul, 1) := by decide +kernel
theorem dX7_setState_5 : decode cX7_setState 5 = .ok (.bipush 15, 2) := by decide +kernel
theorem dX7_setState_7 : decode cX7_setState 7 = .ok (.iload_n 2, 1) := by decide +kernel
theorem dX7_setState_8 : decode cX7_setState 8 = .ok (.invokevirtual 43, 3) := by decide +kernel
theorem dX7_setState_11 : decode cX7_setState 11 = .ok (.return_, 1) := by decide +kernel
theorem dX7_setFresh_0 : decode cX7_setFresh 0 = .ok (.aload_n 0, 1) := by decide +kernel
theorem dX7_setFresh_1 : decode cX7_setFresh 1 = .ok (.bipush 7, 2) := by decide +kernel
theorem dX7_setFresh_3 : decode cX7_setFresh 3 = .ok (.iload_n 1, 1) := by decide +kernel
theorem dX7_setFresh_4 : decode cX7_setFresh 4 = .ok (.imul, 1) := by decide +kernel
theorem dX7_setFresh_5 : decode cX7_setFresh 5 = .ok (.iconst 4, 1) := by decide +kernel
theorem dX7_setFresh_6 : decode cX7_setFresh 6 = .ok (.iadd, 1) := by decide +kernel
theorem dX7_setFresh_7 : decode cX7_setFresh 7 = .ok (.iconst 1, 1) := by decide +kernel
theorem dX7_setFresh_8 : decode cX7_setFresh 8 = .ok (.iload_n 2, 1) := by decide +kernel
theorem dX7_setFresh_9 : decode cX7_setFresh 9 = .ok (.invokevirtual 43, 3) := by decide +kernel
theorem dX7_setFresh_12 : decode cX7_setFresh 12 = .ok (.return_, 1) := by decide +kernel
theorem dX7_setWant_0 : decode cX7_setWant 0 = .ok (.aload_n 0, 1) := by decide +kernel
theorem dX7_setWant_1 : decode cX7_setWant 1 = .ok (.bipush 7, 2) := by decide +kernel
theorem dX7_setWant_3 : decode cX7_setWant 3 = .ok (.iload_n 1, 1) := by decide +kernel
theorem dX7_setWant_4 : decode cX7_setWant 4 = .ok (.imul, 1) := by decide +kernel
theorem dX7_setWant_5 : decode cX7_setWant 5 = .ok (.iconst 5, 1) := by decide +kernel
theorem dX7_setWant_6 : decode cX7_setWant 6 = .ok (.iadd, 1) := by decide +kernel
theorem dX7_setWant_7 : decode cX7_setWant 7 = .ok (.iconst 3, 1) := by decide +kernel
theorem dX7_setWant_8 : decode cX7_setWant 8 = .ok (.iload_n 2, 1) := by decide +kernel
theorem dX7_setWant_9 : decode cX7_setWant 9 = .ok (.invokevirtual 43, 3) := by decide +kernel
theorem dX7_setWant_12 : decode cX7_setWant 12 = .ok (.return_, 1) := by decide +kernel
theorem dX7_setHolders_0 : decode cX7_setHolders 0 = .ok (.aload_n 0, 1) := by decide +kernel
theorem dX7_setHolders_1 : decode cX7_setHolders 1 = .ok (.bipush 35, 2) := by decide +kernel
theorem dX7_setHolders_3 : decode cX7_setHolders 3 = .ok (.bipush 15, 2) := by decide +kernel
theorem dX7_setHolders_5 : decode cX7_setHolders 5 = .ok (.iload_n 1, 1) := by decide +kernel
theorem dX7_setHolders_6 : decode cX7_setHolders 6 = .ok (.invokevirtual 43, 3) := by decide +kernel
theorem dX7_setHolders_9 : decode cX7_setHolders 9 = .ok (.return_, 1) := by decide +kernel
theorem dX7_isQuiet_0 : decode cX7_isQuiet 0 = .ok (.aload_n 0, 1) := by decide +kernel
theorem dX7_isQuiet_1 : decode cX7_isQuiet 1 = .ok (.getfield 15, 3) := by decide +kernel
theorem dX7_isQuiet_4 : decode cX7_isQuiet 4 = .ok (.ifCond .ne 20, 3) := by decide +kernel
theorem dX7_isQuiet_7 : decode cX7_isQuiet 7 = .ok (.aload_n 0, 1) := by decide +kernel
theorem dX7_isQuiet_8 : decode cX7_isQuiet 8 = .ok (.getfield 11, 3) := by decide +kernel
theorem dX7_isQuiet_11 : decode cX7_isQuiet 11 = .ok (.ldc2_w 47, 3) := by decide +kernel
theorem dX7_isQuiet_14 : decode cX7_isQuiet 14 = .ok (.land, 1) := by decide +kernel
theorem dX7_isQuiet_15 : decode cX7_isQuiet 15 = .ok (.lconst 0, 1) := by decide +kernel
theorem dX7_isQuiet_16 : decode cX7_isQuiet 16 = .ok (.lcmp, 1) := by decide +kernel
theorem dX7_isQuiet_17 : decode cX7_isQuiet 17 = .ok (.ifCond .ne 7, 3) := by decide +kernel
theorem dX7_isQuiet_20 : decode cX7_isQuiet 20 = .ok (.iconst 1, 1) := by decide +kernel
theorem dX7_isQuiet_21 : decode cX7_isQuiet 21 = .ok (.goto 4, 3) := by decide +kernel
theorem dX7_isQuiet_24 : decode cX7_isQuiet 24 = .ok (.iconst 0, 1) := by decide +kernel
theorem dX7_isQuiet_25 : decode cX7_isQuiet 25 = .ok (.ireturn, 1) := by decide +kernel
theorem dX7_letterCount_0 : decode cX7_letterCount 0 = .ok (.aload_n 0, 1) := by decide +kernel
theorem dX7_letterCount_1 : decode cX7_letterCount 1 = .ok (.getfield 15, 3) := by decide +kernel
theorem dX7_letterCount_4 : decode cX7_letterCount 4 = .ok (.ireturn, 1) := by decide +kernel
theorem dX7_letterAt_0 : decode cX7_letterAt 0 = .ok (.aload_n 0, 1) := by decide +kernel
theorem dX7_letterAt_1 : decode cX7_letterAt 1 = .ok (.getfield 19, 3) := by decide +kernel
theorem dX7_letterAt_4 : decode cX7_letterAt 4 = .ok (.iload_n 1, 1) := by decide +kernel
theorem dX7_letterAt_5 : decode cX7_letterAt 5 = .ok (.iaload, 1) := by decide +kernel
theorem dX7_letterAt_6 : decode cX7_letterAt 6 = .ok (.ireturn, 1) := by decide +kernel
theorem dX7_isBehindAnother_0 : decode cX7_isBehindAnother 0 = .ok (.iload_n 1, 1) := by decide +kernel
theorem dX7_isBehindAnother_1 : decode cX7_isBehindAnother 1 = .ok (.ifCond .le 27, 3) := by decide +kernel
theorem dX7_isBehindAnother_4 : decode cX7_isBehindAnother 4 = .ok (.aload_n 0, 1) := by decide +kernel
theorem dX7_isBehindAnother_5 : decode cX7_isBehindAnother 5 = .ok (.getfield 19, 3) := by decide +kernel
theorem dX7_isBehindAnother_8 : decode cX7_isBehindAnother 8 = .ok (.iload_n 1, 1) := by decide +kernel
theorem dX7_isBehindAnother_9 : decode cX7_isBehindAnother 9 = .ok (.iconst 1, 1) := by decide +kernel
theorem dX7_isBehindAnother_10 : decode cX7_isBehindAnother 10 = .ok (.isub, 1) := by decide +kernel
theorem dX7_isBehindAnother_11 : decode cX7_isBehindAnother 11 = .ok (.iaload, 1) := by decide +kernel
theorem dX7_isBehindAnother_12 : decode cX7_isBehindAnother 12 = .ok (.aload_n 0, 1) := by decide +kernel
theorem dX7_isBehindAnother_13 : decode cX7_isBehindAnother 13 = .ok (.getfield 19, 3) := by decide +kernel
theorem dX7_isBehindAnother_16 : decode cX7_isBehindAnother 16 = .ok (.iload_n 1, 1) := by decide +kernel
theorem dX7_isBehindAnother_17 : decode cX7_isBehindAnother 17 = .ok (.iaload, 1) := by decide +kernel
theorem dX7_isBehindAnother_18 : decode cX7_isBehindAnother 18 = .ok (.invokestatic 49, 3) := by decide +kernel
theorem dX7_isBehindAnother_21 : decode cX7_isBehindAnother 21 = .ok (.ifCond .eq 7, 3) := by decide +kernel
theorem dX7_isBehindAnother_24 : decode cX7_isBehindAnother 24 = .ok (.iconst 1, 1) := by decide +kernel
theorem dX7_isBehindAnother_25 : decode cX7_isBehindAnother 25 = .ok (.goto 4, 3) := by decide +kernel
theorem dX7_isBehindAnother_28 : decode cX7_isBehindAnother 28 = .ok (.iconst 0, 1) := by decide +kernel
theorem dX7_isBehindAnother_29 : decode cX7_isBehindAnother 29 = .ok (.ireturn, 1) := by decide +kernel
theorem dX7_add_0 : decode cX7_add 0 = .ok (.aload_n 0, 1) := by decide +kernel
theorem dX7_add_1 : decode cX7_add 1 = .ok (.getfield 15, 3) := by decide +kernel
theorem dX7_add_4 : decode cX7_add 4 = .ok (.bipush 8, 2) := by decide +kernel
theorem dX7_add_6 : decode cX7_add 6 = .ok (.if_icmp .lt 5, 3) := by decide +kernel
theorem dX7_add_9 : decode cX7_add 9 = .ok (.iconst 0, 1) := by decide +kernel
theorem dX7_add_10 : decode cX7_add 10 = .ok (.ireturn, 1) := by decide +kernel
theorem dX7_add_11 : decode cX7_add 11 = .ok (.iload_n 1, 1) := by decide +kernel
theorem dX7_add_12 : decode cX7_add 12 = .ok (.invokestatic 55, 3) := by decide +kernel
theorem dX7_add_15 : decode cX7_add 15 = .ok (.istore_n 2, 1) := by decide +kernel
theorem dX7_add_16 : decode cX7_add 16 = .ok (.aload_n 0, 1) := by decide +kernel
theorem dX7_add_17 : decode cX7_add 17 = .ok (.getfield 15, 3) := by decide +kernel
theorem dX7_add_20 : decode cX7_add 20 = .ok (.istore_n 3, 1) := by decide +kernel
theorem dX7_add_21 : decode cX7_add 21 = .ok (.iload_n 3, 1) := by decide +kernel
theorem dX7_add_22 : decode cX7_add 22 = .ok (.ifCond .le 35, 3) := by decide +kernel
theorem dX7_add_25 : decode cX7_add 25 = .ok (.aload_n 0, 1) := by decide +kernel
theorem dX7_add_26 : decode cX7_add 26 = .ok (.getfield 19, 3) := by decide +kernel
theorem dX7_add_29 : decode cX7_add 29 = .ok (.iload_n 3, 1) := by decide +kernel
theorem dX7_add_30 : decode cX7_add 30 = .ok (.iconst 1, 1) := by decide +kernel
theorem dX7_add_31 : decode cX7_add 31 = .ok (.isub, 1) := by decide +kernel
theorem dX7_add_32 : decode cX7_add 32 = .ok (.iaload, 1) := by decide +kernel
theorem dX7_add_33 : decode cX7_add 33 = .ok (.iload_n 2, 1) := by decide +kernel
theorem dX7_add_34 : decode cX7_add 34 = .ok (.if_icmp .le 23, 3) := by decide +kernel
theorem dX7_add_37 : decode cX7_add 37 = .ok (.aload_n 0, 1) := by decide +kernel
theorem dX7_add_38 : decode cX7_add 38 = .ok (.getfield 19, 3) := by decide +kernel
theorem dX7_add_41 : decode cX7_add 41 = .ok (.iload_n 3, 1) := by decide +kernel
theorem dX7_add_42 : decode cX7_add 42 = .ok (.aload_n 0, 1) := by decide +kernel
theorem dX7_add_43 : decode cX7_add 43 = .ok (.getfield 19, 3) := by decide +kernel
theorem dX7_add_46 : decode cX7_add 46 = .ok (.iload_n 3, 1) := by decide +kernel
theorem dX7_add_47 : decode cX7_add 47 = .ok (.iconst 1, 1) := by decide +kernel
theorem dX7_add_48 : decode cX7_add 48 = .ok (.isub, 1) := by decide +kernel
theorem dX7_add_49 : decode cX7_add 49 = .ok (.iaload, 1) := by decide +kernel
theorem dX7_add_50 : decode cX7_add 50 = .ok (.iastore, 1) := by decide +kernel
theorem dX7_add_51 : decode cX7_add 51 = .ok (.iinc 3 (-1), 3) := by decide +kernel
theorem dX7_add_54 : decode cX7_add 54 = .ok (.goto (-33), 3) := by decide +kernel
theorem dX7_add_57 : decode cX7_add 57 = .ok (.aload_n 0, 1) := by decide +kernel
theorem dX7_add_58 : decode cX7_add 58 = .ok (.getfield 19, 3) := by decide +kernel
theorem dX7_add_61 : decode cX7_add 61 = .ok (.iload_n 3, 1) := by decide +kernel
theorem dX7_add_62 : decode cX7_add 62 = .ok (.iload_n 1, 1) := by decide +kernel
theorem dX7_add_63 : decode cX7_add 63 = .ok (.iastore, 1) := by decide +kernel
theorem dX7_add_64 : decode cX7_add 64 = .ok (.aload_n 0, 1) := by decide +kernel
theorem dX7_add_65 : decode cX7_add 65 = .ok (.dup, 1) := by decide +kernel
theorem dX7_add_66 : decode cX7_add 66 = .ok (.getfield 15, 3) := by decide +kernel
theorem dX7_add_69 : decode cX7_add 69 = .ok (.iconst 1, 1) := by decide +kernel
theorem dX7_add_70 : decode cX7_add 70 = .ok (.iadd, 1) := by decide +kernel
theorem dX7_add_71 : decode cX7_add 71 = .ok (.putfield 15, 3) := by decide +kernel
theorem dX7_add_74 : decode cX7_add 74 = .ok (.iconst 1, 1) := by decide +kernel
theorem dX7_add_75 : decode cX7_add 75 = .ok (.ireturn, 1) := by decide +kernel
theorem dX7_take_0 : decode cX7_take 0 = .ok (.aload_n 0, 1) := by decide +kernel
theorem dX7_take_1 : decode cX7_take 1 = .ok (.getfield 19, 3) := by decide +kernel
theorem dX7_take_4 : decode cX7_take 4 = .ok (.iload_n 1, 1) := by decide +kernel
theorem dX7_take_5 : decode cX7_take 5 = .ok (.iaload, 1) := by decide +kernel
theorem dX7_take_6 : decode cX7_take 6 = .ok (.istore_n 2, 1) := by decide +kernel
theorem dX7_take_7 : decode cX7_take 7 = .ok (.aload_n 0, 1) := by decide +kernel
theorem dX7_take_8 : decode cX7_take 8 = .ok (.dup, 1) := by decide +kernel
theorem dX7_take_9 : decode cX7_take 9 = .ok (.getfield 15, 3) := by decide +kernel
theorem dX7_take_12 : decode cX7_take 12 = .ok (.iconst 1, 1) := by decide +kernel
theorem dX7_take_13 : decode cX7_take 13 = .ok (.isub, 1) := by decide +kernel
theorem dX7_take_14 : decode cX7_take 14 = .ok (.putfield 15, 3) := by decide +kernel
theorem dX7_take_17 : decode cX7_take 17 = .ok (.iload_n 1, 1) := by decide +kernel
theorem dX7_take_18 : decode cX7_take 18 = .ok (.istore_n 3, 1) := by decide +kernel
theorem dX7_take_19 : decode cX7_take 19 = .ok (.iload_n 3, 1) := by decide +kernel
theorem dX7_take_20 : decode cX7_take 20 = .ok (.aload_n 0, 1) := by decide +kernel
theorem dX7_take_21 : decode cX7_take 21 = .ok (.getfield 15, 3) := by decide +kernel
theorem dX7_take_24 : decode cX7_take 24 = .ok (.if_icmp .ge 23, 3) := by decide +kernel
theorem dX7_take_27 : decode cX7_take 27 = .ok (.aload_n 0, 1) := by decide +kernel
theorem dX7_take_28 : decode cX7_take 28 = .ok (.getfield 19, 3) := by decide +kernel
theorem dX7_take_31 : decode cX7_take 31 = .ok (.iload_n 3, 1) := by decide +kernel
theorem dX7_take_32 : decode cX7_take 32 = .ok (.aload_n 0, 1) := by decide +kernel
theorem dX7_take_33 : decode cX7_take 33 = .ok (.getfield 19, 3) := by decide +kernel
theorem dX7_take_36 : decode cX7_take 36 = .ok (.iload_n 3, 1) := by decide +kernel
theorem dX7_take_37 : decode cX7_take 37 = .ok (.iconst 1, 1) := by decide +kernel
theorem dX7_take_38 : decode cX7_take 38 = .ok (.iadd, 1) := by decide +kernel
theorem dX7_take_39 : decode cX7_take 39 = .ok (.iaload, 1) := by decide +kernel
theorem dX7_take_40 : decode cX7_take 40 = .ok (.iastore, 1) := by decide +kernel
theorem dX7_take_41 : decode cX7_take 41 = .ok (.iinc 3 1, 3) := by decide +kernel
theorem dX7_take_44 : decode cX7_take 44 = .ok (.goto (-25), 3) := by decide +kernel
theorem dX7_take_47 : decode cX7_take 47 = .ok (.aload_n 0, 1) := by decide +kernel
theorem dX7_take_48 : decode cX7_take 48 = .ok (.getfield 19, 3) := by decide +kernel
theorem dX7_take_51 : decode cX7_take 51 = .ok (.aload_n 0, 1) := by decide +kernel
theorem dX7_take_52 : decode cX7_take 52 = .ok (.getfield 15, 3) := by decide +kernel
theorem dX7_take_55 : decode cX7_take 55 = .ok (.iconst 0, 1) := by decide +kernel
theorem dX7_take_56 : decode cX7_take 56 = .ok (.iastore, 1) := by decide +kernel
theorem dX7_take_57 : decode cX7_take 57 = .ok (.iload_n 2, 1) := by decide +kernel
theorem dX7_take_58 : decode cX7_take 58 = .ok (.ireturn, 1) := by decide +kernel
theorem dX7_storeAt_0 : decode cX7_storeAt 0 = .ok (.aload_n 0, 1) := by decide +kernel
theorem dX7_storeAt_1 : decode cX7_storeAt 1 = .ok (.iload_n 1, 1) := by decide +kernel
theorem dX7_storeAt_2 : decode cX7_storeAt 2 = .ok (.iconst 0, 1) := by decide +kernel
theorem dX7_storeAt_3 : decode cX7_storeAt 3 = .ok (.invokevirtual 59, 3) := by decide +kernel
theorem dX7_storeAt_6 : decode cX7_storeAt 6 = .ok (.aload_n 0, 1) := by decide +kernel
theorem dX7_storeAt_7 : decode cX7_storeAt 7 = .ok (.dup, 1) := by decide +kernel
theorem dX7_storeAt_8 : decode cX7_storeAt 8 = .ok (.getfield 11, 3) := by decide +kernel
theorem dX7_storeAt_11 : decode cX7_storeAt 11 = .ok (.ldc2_w 62, 3) := by decide +kernel
theorem dX7_storeAt_14 : decode cX7_storeAt 14 = .ok (.land, 1) := by decide +kernel
theorem dX7_storeAt_15 : decode cX7_storeAt 15 = .ok (.putfield 11, 3) := by decide +kernel
theorem dX7_storeAt_18 : decode cX7_storeAt 18 = .ok (.iconst 0, 1) := by decide +kernel
theorem dX7_storeAt_19 : decode cX7_storeAt 19 = .ok (.istore_n 2, 1) := by decide +kernel
theorem dX7_storeAt_20 : decode cX7_storeAt 20 = .ok (.iload_n 2, 1) := by decide +kernel
theorem dX7_storeAt_21 : decode cX7_storeAt 21 = .ok (.aload_n 0, 1) := by decide +kernel
theorem dX7_storeAt_22 : decode cX7_storeAt 22 = .ok (.getfield 15, 3) := by decide +kernel
theorem dX7_storeAt_25 : decode cX7_storeAt 25 = .ok (.if_icmp .ge 24, 3) := by decide +kernel
theorem dX7_storeAt_28 : decode cX7_storeAt 28 = .ok (.aload_n 0, 1) := by decide +kernel
theorem dX7_storeAt_29 : decode cX7_storeAt 29 = .ok (.getfield 19, 3) := by decide +kernel
theorem dX7_storeAt_32 : decode cX7_storeAt 32 = .ok (.iload_n 2, 1) := by decide +kernel
theorem dX7_storeAt_33 : decode cX7_storeAt 33 = .ok (.aload_n 0, 1) := by decide +kernel
theorem dX7_storeAt_34 : decode cX7_storeAt 34 = .ok (.getfield 19, 3) := by decide +kernel
theorem dX7_storeAt_37 : decode cX7_storeAt 37 = .ok (.iload_n 2, 1) := by decide +kernel
theorem dX7_storeAt_38 : decode cX7_storeAt 38 = .ok (.iaload, 1) := by decide +kernel
theorem dX7_storeAt_39 : decode cX7_storeAt 39 = .ok (.invokestatic 64, 3) := by decide +kernel
theorem dX7_storeAt_42 : decode cX7_storeAt 42 = .ok (.iastore, 1) := by decide +kernel
theorem dX7_storeAt_43 : decode cX7_storeAt 43 = .ok (.iinc 2 1, 3) := by decide +kernel
theorem dX7_storeAt_46 : decode cX7_storeAt 46 = .ok (.goto (-26), 3) := by decide +kernel
theorem dX7_storeAt_49 : decode cX7_storeAt 49 = .ok (.aload_n 0, 1) := by decide +kernel
theorem dX7_storeAt_50 : decode cX7_storeAt 50 = .ok (.iload_n 1, 1) := by decide +kernel
theorem dX7_storeAt_51 : decode cX7_storeAt 51 = .ok (.iconst 1, 1) := by decide +kernel
theorem dX7_storeAt_52 : decode cX7_storeAt 52 = .ok (.invokevirtual 29, 3) := by decide +kernel
theorem dX7_storeAt_55 : decode cX7_storeAt 55 = .ok (.return_, 1) := by decide +kernel
theorem dX7_endsWord_0 : decode cX7_endsWord 0 = .ok (.aload_n 0, 1) := by decide +kernel
theorem dX7_endsWord_1 : decode cX7_endsWord 1 = .ok (.getfield 11, 3) := by decide +kernel
theorem dX7_endsWord_4 : decode cX7_endsWord 4 = .ok (.lreturn, 1) := by decide +kernel
theorem dX7_lettersWord_0 : decode cX7_lettersWord 0 = .ok (.lconst 0, 1) := by decide +kernel
theorem dX7_lettersWord_1 : decode cX7_lettersWord 1 = .ok (.lstore_n 2, 1) := by decide +kernel
theorem dX7_lettersWord_2 : decode cX7_lettersWord 2 = .ok (.iconst 0, 1) := by decide +kernel
theorem dX7_lettersWord_3 : decode cX7_lettersWord 3 = .ok (.istore 4, 2) := by decide +kernel
theorem dX7_lettersWord_5 : decode cX7_lettersWord 5 = .ok (.iload 4, 2) := by decide +kernel
theorem dX7_lettersWord_7 : decode cX7_lettersWord 7 = .ok (.iconst 4, 1) := by decide +kernel
theorem dX7_lettersWord_8 : decode cX7_lettersWord 8 = .ok (.if_icmp .ge 27, 3) := by decide +kernel
theorem dX7_lettersWord_11 : decode cX7_lettersWord 11 = .ok (.lload_n 2, 1) := by decide +kernel
theorem dX7_lettersWord_12 : decode cX7_lettersWord 12 = .ok (.bipush 15, 2) := by decide +kernel
theorem dX7_lettersWord_14 : decode cX7_lettersWord 14 = .ok (.lshl, 1) := by decide +kernel
theorem dX7_lettersWord_15 : decode cX7_lettersWord 15 = .ok (.aload_n 0, 1) := by decide +kernel
theorem dX7_lettersWord_16 : decode cX7_lettersWord 16 = .ok (.getfield 19, 3) := by decide +kernel
theorem dX7_lettersWord_19 : decode cX7_lettersWord 19 = .ok (.iload_n 1, 1) := by decide +kernel
theorem dX7_lettersWord_20 : decode cX7_lettersWord 20 = .ok (.iconst 4, 1) := by decide +kernel
theorem dX7_lettersWord_21 : decode cX7_lettersWord 21 = .ok (.imul, 1) := by decide +kernel
theorem dX7_lettersWord_22 : decode cX7_lettersWord 22 = .ok (.iload 4, 2) := by decide +kernel
theorem dX7_lettersWord_24 : decode cX7_lettersWord 24 = .ok (.iadd, 1) := by decide +kernel
theorem dX7_lettersWord_25 : decode cX7_lettersWord 25 = .ok (.iaload, 1) := by decide +kernel
theorem dX7_lettersWord_26 : decode cX7_lettersWord 26 = .ok (.i2l, 1) := by decide +kernel
theorem dX7_lettersWord_27 : decode cX7_lettersWord 27 = .ok (.lor, 1) := by decide +kernel
theorem dX7_lettersWord_28 : decode cX7_lettersWord 28 = .ok (.lstore_n 2, 1) := by decide +kernel
theorem dX7_lettersWord_29 : decode cX7_lettersWord 29 = .ok (.iinc 4 1, 3) := by decide +kernel
theorem dX7_lettersWord_32 : decode cX7_lettersWord 32 = .ok (.goto (-27), 3) := by decide +kernel
theorem dX7_lettersWord_35 : decode cX7_lettersWord 35 = .ok (.lload_n 2, 1) := by decide +kernel
theorem dX7_lettersWord_36 : decode cX7_lettersWord 36 = .ok (.lreturn, 1) := by decide +kernel
theorem dX7_load_0 : decode cX7_load 0 = .ok (.aload_n 0, 1) := by decide +kernel
theorem dX7_load_1 : decode cX7_load 1 = .ok (.lload_n 1, 1) := by decide +kernel
theorem dX7_load_2 : decode cX7_load 2 = .ok (.putfield 11, 3) := by decide +kernel
theorem dX7_load_5 : decode cX7_load 5 = .ok (.aload_n 0, 1) := by decide +kernel
theorem dX7_load_6 : decode cX7_load 6 = .ok (.iconst 0, 1) := by decide +kernel
theorem dX7_load_7 : decode cX7_load 7 = .ok (.putfield 15, 3) := by decide +kernel
theorem dX7_load_10 : decode cX7_load 10 = .ok (.aload_n 0, 1) := by decide +kernel
theorem dX7_load_11 : decode cX7_load 11 = .ok (.iconst 0, 1) := by decide +kernel
theorem dX7_load_12 : decode cX7_load 12 = .ok (.lload_n 3, 1) := by decide +kernel
theorem dX7_load_13 : decode cX7_load 13 = .ok (.invokevirtual 67, 3) := by decide +kernel
theorem dX7_load_16 : decode cX7_load 16 = .ok (.aload_n 0, 1) := by decide +kernel
theorem dX7_load_17 : decode cX7_load 17 = .ok (.iconst 1, 1) := by decide +kernel
theorem dX7_load_18 : decode cX7_load 18 = .ok (.lload 5, 2) := by decide +kernel
theorem dX7_load_20 : decode cX7_load 20 = .ok (.invokevirtual 67, 3) := by decide +kernel
theorem dX7_load_23 : decode cX7_load 23 = .ok (.return_, 1) := by decide +kernel
theorem dX7_loadHalf_0 : decode cX7_loadHalf 0 = .ok (.lload_n 2, 1) := by decide +kernel
theorem dX7_loadHalf_1 : decode cX7_loadHalf 1 = .ok (.lstore 4, 2) := by decide +kernel
theorem dX7_loadHalf_3 : decode cX7_loadHalf 3 = .ok (.iconst 3, 1) := by decide +kernel
theorem dX7_loadHalf_4 : decode cX7_loadHalf 4 = .ok (.istore 6, 2) := by decide +kernel
theorem dX7_loadHalf_6 : decode cX7_loadHalf 6 = .ok (.iload 6, 2) := by decide +kernel
theorem dX7_loadHalf_8 : decode cX7_loadHalf 8 = .ok (.ifCond .lt 57, 3) := by decide +kernel
theorem dX7_loadHalf_11 : decode cX7_loadHalf 11 = .ok (.lload 4, 2) := by decide +kernel
theorem dX7_loadHalf_13 : decode cX7_loadHalf 13 = .ok (.l2i, 1) := by decide +kernel
theorem dX7_loadHalf_14 : decode cX7_loadHalf 14 = .ok (.sipush 32767, 3) := by decide +kernel
theorem dX7_loadHalf_17 : decode cX7_loadHalf 17 = .ok (.iand, 1) := by decide +kernel
theorem dX7_loadHalf_18 : decode cX7_loadHalf 18 = .ok (.istore 7, 2) := by decide +kernel
theorem dX7_loadHalf_20 : decode cX7_loadHalf 20 = .ok (.aload_n 0, 1) := by decide +kernel
theorem dX7_loadHalf_21 : decode cX7_loadHalf 21 = .ok (.getfield 19, 3) := by decide +kernel
theorem dX7_loadHalf_24 : decode cX7_loadHalf 24 = .ok (.iload_n 1, 1) := by decide +kernel
theorem dX7_loadHalf_25 : decode cX7_loadHalf 25 = .ok (.iconst 4, 1) := by decide +kernel
theorem dX7_loadHalf_26 : decode cX7_loadHalf 26 = .ok (.imul, 1) := by decide +kernel
theorem dX7_loadHalf_27 : decode cX7_loadHalf 27 = .ok (.iload 6, 2) := by decide +kernel
theorem dX7_loadHalf_29 : decode cX7_loadHalf 29 = .ok (.iadd, 1) := by decide +kernel
theorem dX7_loadHalf_30 : decode cX7_loadHalf 30 = .ok (.iload 7, 2) := by decide +kernel
theorem dX7_loadHalf_32 : decode cX7_loadHalf 32 = .ok (.iastore, 1) := by decide +kernel
theorem dX7_loadHalf_33 : decode cX7_loadHalf 33 = .ok (.aload_n 0, 1) := by decide +kernel
theorem dX7_loadHalf_34 : decode cX7_loadHalf 34 = .ok (.dup, 1) := by decide +kernel
theorem dX7_loadHalf_35 : decode cX7_loadHalf 35 = .ok (.getfield 15, 3) := by decide +kernel
theorem dX7_loadHalf_38 : decode cX7_loadHalf 38 = .ok (.iload 7, 2) := by decide +kernel
theorem dX7_loadHalf_40 : decode cX7_loadHalf 40 = .ok (.ifCond .ne 7, 3) := by decide +kernel
theorem dX7_loadHalf_43 : decode cX7_loadHalf 43 = .ok (.iconst 0, 1) := by decide +kernel
theorem dX7_loadHalf_44 : decode cX7_loadHalf 44 = .ok (.goto 4, 3) := by decide +kernel
theorem dX7_loadHalf_47 : decode cX7_loadHalf 47 = .ok (.iconst 1, 1) := by decide +kernel
theorem dX7_loadHalf_48 : decode cX7_loadHalf 48 = .ok (.iadd, 1) := by decide +kernel
theorem dX7_loadHalf_49 : decode cX7_loadHalf 49 = .ok (.putfield 15, 3) := by decide +kernel
theorem dX7_loadHalf_52 : decode cX7_loadHalf 52 = .ok (.lload 4, 2) := by decide +kernel
theorem dX7_loadHalf_54 : decode cX7_loadHalf 54 = .ok (.bipush 15, 2) := by decide +kernel
theorem dX7_loadHalf_56 : decode cX7_loadHalf 56 = .ok (.lushr, 1) := by decide +kernel
theorem dX7_loadHalf_57 : decode cX7_loadHalf 57 = .ok (.lstore 4, 2) := by decide +kernel
theorem dX7_loadHalf_59 : decode cX7_loadHalf 59 = .ok (.iinc 6 (-1), 3) := by decide +kernel
theorem dX7_loadHalf_62 : decode cX7_loadHalf 62 = .ok (.goto (-56), 3) := by decide +kernel
theorem dX7_loadHalf_65 : decode cX7_loadHalf 65 = .ok (.return_, 1) := by decide +kernel
theorem dX7_part_0 : decode cX7_part 0 = .ok (.aload_n 0, 1) := by decide +kernel
theorem dX7_part_1 : decode cX7_part 1 = .ok (.getfield 11, 3) := by decide +kernel
theorem dX7_part_4 : decode cX7_part 4 = .ok (.iload_n 1, 1) := by decide +kernel
theorem dX7_part_5 : decode cX7_part 5 = .ok (.lushr, 1) := by decide +kernel
theorem dX7_part_6 : decode cX7_part 6 = .ok (.l2i, 1) := by decide +kernel
theorem dX7_part_7 : decode cX7_part 7 = .ok (.iload_n 2, 1) := by decide +kernel
theorem dX7_part_8 : decode cX7_part 8 = .ok (.iand, 1) := by decide +kernel
theorem dX7_part_9 : decode cX7_part 9 = .ok (.ireturn, 1) := by decide +kernel
theorem dX7_setPart_0 : decode cX7_setPart 0 = .ok (.aload_n 0, 1) := by decide +kernel
theorem dX7_setPart_1 : decode cX7_setPart 1 = .ok (.aload_n 0, 1) := by decide +kernel
theorem dX7_setPart_2 : decode cX7_setPart 2 = .ok (.getfield 11, 3) := by decide +kernel
theorem dX7_setPart_5 : decode cX7_setPart 5 = .ok (.iload_n 2, 1) := by decide +kernel
theorem dX7_setPart_6 : decode cX7_setPart 6 = .ok (.i2l, 1) := by decide +kernel
theorem dX7_setPart_7 : decode cX7_setPart 7 = .ok (.iload_n 1, 1) := by decide +kernel
theorem dX7_setPart_8 : decode cX7_setPart 8 = .ok (.lshl, 1) := by decide +kernel
theorem dX7_setPart_9 : decode cX7_setPart 9 = .ok (.ldc2_w 71, 3) := by decide +kernel
theorem dX7_setPart_12 : decode cX7_setPart 12 = .ok (.lxor, 1) := by decide +kernel
theorem dX7_setPart_13 : decode cX7_setPart 13 = .ok (.land, 1) := by decide +kernel
theorem dX7_setPart_14 : decode cX7_setPart 14 = .ok (.iload_n 3, 1) := by decide +kernel
theorem dX7_setPart_15 : decode cX7_setPart 15 = .ok (.iload_n 2, 1) := by decide +kernel
theorem dX7_setPart_16 : decode cX7_setPart 16 = .ok (.iand, 1) := by decide +kernel
theorem dX7_setPart_17 : decode cX7_setPart 17 = .ok (.i2l, 1) := by decide +kernel
theorem dX7_setPart_18 : decode cX7_setPart 18 = .ok (.iload_n 1, 1) := by decide +kernel
theorem dX7_setPart_19 : decode cX7_setPart 19 = .ok (.lshl, 1) := by decide +kernel
theorem dX7_setPart_20 : decode cX7_setPart 20 = .ok (.lor, 1) := by decide +kernel
theorem dX7_setPart_21 : decode cX7_setPart 21 = .ok (.putfield 11, 3) := by decide +kernel
theorem dX7_setPart_24 : decode cX7_setPart 24 = .ok (.return_, 1) := by decide +kernel
theorem dX8_init_0 : decode cX8_init 0 = .ok (.aload_n 0, 1) := by decide +kernel
theorem dX8_init_1 : decode cX8_init 1 = .ok (.invokespecial 5, 3) := by decide +kernel
theorem dX8_init_4 : decode cX8_init 4 = .ok (.aload_n 0, 1) := by decide +kernel
theorem dX8_init_5 : decode cX8_init 5 = .ok (.sipush 4000, 3) := by decide +kernel
theorem dX8_init_8 : decode cX8_init 8 = .ok (.newarray .long, 2) := by decide +kernel
theorem dX8_init_10 : decode cX8_init 10 = .ok (.putfield 11, 3) := by decide +kernel
theorem dX8_init_13 : decode cX8_init 13 = .ok (.aload_n 0, 1) := by decide +kernel
theorem dX8_init_14 : decode cX8_init 14 = .ok (.sipush 4000, 3) := by decide +kernel
theorem dX8_init_17 : decode cX8_init 17 = .ok (.newarray .long, 2) := by decide +kernel
theorem dX8_init_19 : decode cX8_init 19 = .ok (.putfield 15, 3) := by decide +kernel
theorem dX8_init_22 : decode cX8_init 22 = .ok (.aload_n 0, 1) := by decide +kernel
theorem dX8_init_23 : decode cX8_init 23 = .ok (.sipush 4000, 3) := by decide +kernel
theorem dX8_init_26 : decode cX8_init 26 = .ok (.newarray .long, 2) := by decide +kernel
theorem dX8_init_28 : decode cX8_init 28 = .ok (.putfield 18, 3) := by decide +kernel
theorem dX8_init_31 : decode cX8_init 31 = .ok (.aload_n 0, 1) := by decide +kernel
theorem dX8_init_32 : decode cX8_init 32 = .ok (.sipush 8192, 3) := by decide +kernel
theorem dX8_init_35 : decode cX8_init 35 = .ok (.newarray .int, 2) := by decide +kernel
theorem dX8_init_37 : decode cX8_init 37 = .ok (.putfield 21, 3) := by decide +kernel
theorem dX8_init_40 : decode cX8_init 40 = .ok (.aload_n 0, 1) := by decide +kernel
theorem dX8_init_41 : decode cX8_init 41 = .ok (.iconst 0, 1) := by decide +kernel
theorem dX8_init_42 : decode cX8_init 42 = .ok (.putfield 25, 3) := by decide +kernel
theorem dX8_init_45 : decode cX8_init 45 = .ok (.return_, 1) := by decide +kernel
theorem dX8_clear_0 : decode cX8_clear 0 = .ok (.aload_n 0, 1) := by decide +kernel
theorem dX8_clear_1 : decode cX8_clear 1 = .ok (.getfield 21, 3) := by decide +kernel
theorem dX8_clear_4 : decode cX8_clear 4 = .ok (.iconst 0, 1) := by decide +kernel
theorem dX8_clear_5 : decode cX8_clear 5 = .ok (.invokestatic 29, 3) := by decide +kernel
theorem dX8_clear_8 : decode cX8_clear 8 = .ok (.aload_n 0, 1) := by decide +kernel
theorem dX8_clear_9 : decode cX8_clear 9 = .ok (.iconst 0, 1) := by decide +kernel
theorem dX8_clear_10 : decode cX8_clear 10 = .ok (.putfield 25, 3) := by decide +kernel
theorem dX8_clear_13 : decode cX8_clear 13 = .ok (.return_, 1) := by decide +kernel
theorem dX8_count_0 : decode cX8_count 0 = .ok (.aload_n 0, 1) := by decide +kernel
theorem dX8_count_1 : decode cX8_count 1 = .ok (.getfield 25, 3) := by decide +kernel
theorem dX8_count_4 : decode cX8_count 4 = .ok (.ireturn, 1) := by decide +kernel
theorem dX8_find_0 : decode cX8_find 0 = .ok (.aload_n 0, 1) := by decide +kernel
theorem dX8_find_1 : decode cX8_find 1 = .ok (.getfield 21, 3) := by decide +kernel
theorem dX8_find_4 : decode cX8_find 4 = .ok (.aload_n 0, 1) := by decide +kernel
theorem dX8_find_5 : decode cX8_find 5 = .ok (.aload_n 1, 1) := by decide +kernel
theorem dX8_find_6 : decode cX8_find 6 = .ok (.invokevirtual 35, 3) := by decide +kernel
theorem dX8_find_9 : decode cX8_find 9 = .ok (.aload_n 1, 1) := by decide +kernel
theorem dX8_find_10 : decode cX8_find 10 = .ok (.iconst 0, 1) := by decide +kernel
theorem dX8_find_11 : decode cX8_find 11 = .ok (.invokevirtual 41, 3) := by decide +kernel
theorem dX8_find_14 : decode cX8_find 14 = .ok (.aload_n 1, 1) := by decide +kernel
theorem dX8_find_15 : decode cX8_find 15 = .ok (.iconst 1, 1) := by decide +kernel
theorem dX8_find_16 : decode cX8_find 16 = .ok (.invokevirtual 41, 3) := by decide +kernel
theorem dX8_find_19 : decode cX8_find 19 = .ok (.invokevirtual 45, 3) := by decide +kernel
theorem dX8_find_22 : decode cX8_find 22 = .ok (.iaload, 1) := by decide +kernel
theorem dX8_find_23 : decode cX8_find 23 = .ok (.iconst 1, 1) := by decide +kernel
theorem dX8_find_24 : decode cX8_find 24 = .ok (.isub, 1) := by decide +kernel
theorem dX8_find_25 : decode cX8_find 25 = .ok (.ireturn, 1) := by decide +kernel
theorem dX8_keep_0 : decode cX8_keep 0 = .ok (.aload_n 0, 1) := by decide +kernel
theorem dX8_keep_1 : decode cX8_keep 1 = .ok (.getfield 25, 3) := by decide +kernel
theorem dX8_keep_4 : decode cX8_keep 4 = .ok (.istore_n 2, 1) := by decide +kernel
theorem dX8_keep_5 : decode cX8_keep 5 = .ok (.aload_n 0, 1) := by decide +kernel
theorem dX8_keep_6 : decode cX8_keep 6 = .ok (.getfield 11, 3) := by decide +kernel
theorem dX8_keep_9 : decode cX8_keep 9 = .ok (.iload_n 2, 1) := by decide +kernel
theorem dX8_keep_10 : decode cX8_keep 10 = .ok (.aload_n 1, 1) := by decide +kernel
theorem dX8_keep_11 : decode cX8_keep 11 = .ok (.invokevirtual 35, 3) := by decide +kernel
theorem dX8_keep_14 : decode cX8_keep 14 = .ok (.lastore, 1) := by decide +kernel
theorem dX8_keep_15 : decode cX8_keep 15 = .ok (.aload_n 0, 1) := by decide +kernel
theorem dX8_keep_16 : decode cX8_keep 16 = .ok (.getfield 15, 3) := by decide +kernel
theorem dX8_keep_19 : decode cX8_keep 19 = .ok (.iload_n 2, 1) := by decide +kernel
theorem dX8_keep_20 : decode cX8_keep 20 = .ok (.aload_n 1, 1) := by decide +kernel
theorem dX8_keep_21 : decode cX8_keep 21 = .ok (.iconst 0, 1) := by decide +kernel
theorem dX8_keep_22 : decode cX8_keep 22 = .ok (.invokevirtual 41, 3) := by decide +kernel
theorem dX8_keep_25 : decode cX8_keep 25 = .ok (.lastore, 1) := by decide +kernel
theorem dX8_keep_26 : decode cX8_keep 26 = .ok (.aload_n 0, 1) := by decide +kernel
theorem dX8_keep_27 : decode cX8_keep 27 = .ok (.getfield 18, 3) := by decide +kernel
theorem dX8_keep_30 : decode cX8_keep 30 = .ok (.iload_n 2, 1) := by decide +kernel
theorem dX8_keep_31 : decode cX8_keep 31 = .ok (.aload_n 1, 1) := by decide +kernel
theorem dX8_keep_32 : decode cX8_keep 32 = .ok (.iconst 1, 1) := by decide +kernel
theorem dX8_keep_33 : decode cX8_keep 33 = .ok (.invokevirtual 41, 3) := by decide +kernel
theorem dX8_keep_36 : decode cX8_keep 36 = .ok (.lastore, 1) := by decide +kernel
theorem dX8_keep_37 : decode cX8_keep 37 = .ok (.aload_n 0, 1) := by decide +kernel
theorem dX8_keep_38 : decode cX8_keep 38 = .ok (.getfield 21, 3) := by decide +kernel
theorem dX8_keep_41 : decode cX8_keep 41 = .ok (.aload_n 0, 1) := by decide +kernel
theorem dX8_keep_42 : decode cX8_keep 42 = .ok (.aload_n 0, 1) := by decide +kernel
theorem dX8_keep_43 : decode cX8_keep 43 = .ok (.getfield 11, 3) := by decide +kernel
theorem dX8_keep_46 : decode cX8_keep 46 = .ok (.iload_n 2, 1) := by decide +kernel
theorem dX8_keep_47 : decode cX8_keep 47 = .ok (.laload, 1) := by decide +kernel
theorem dX8_keep_48 : decode cX8_keep 48 = .ok (.aload_n 0, 1) := by decide +kernel
theorem dX8_keep_49 : decode cX8_keep 49 = .ok (.getfield 15, 3) := by decide +kernel
theorem dX8_keep_52 : decode cX8_keep 52 = .ok (.iload_n 2, 1) := by decide +kernel
theorem dX8_keep_53 : decode cX8_keep 53 = .ok (.laload, 1) := by decide +kernel
theorem dX8_keep_54 : decode cX8_keep 54 = .ok (.aload_n 0, 1) := by decide +kernel
theorem dX8_keep_55 : decode cX8_keep 55 = .ok (.getfield 18, 3) := by decide +kernel
theorem dX8_keep_58 : decode cX8_keep 58 = .ok (.iload_n 2, 1) := by decide +kernel
theorem dX8_keep_59 : decode cX8_keep 59 = .ok (.laload, 1) := by decide +kernel
theorem dX8_keep_60 : decode cX8_keep 60 = .ok (.invokevirtual 45, 3) := by decide +kernel
theorem dX8_keep_63 : decode cX8_keep 63 = .ok (.iload_n 2, 1) := by decide +kernel
theorem dX8_keep_64 : decode cX8_keep 64 = .ok (.iconst 1, 1) := by decide +kernel
theorem dX8_keep_65 : decode cX8_keep 65 = .ok (.iadd, 1) := by decide +kernel
theorem dX8_keep_66 : decode cX8_keep 66 = .ok (.iastore, 1) := by decide +kernel
theorem dX8_keep_67 : decode cX8_keep 67 = .ok (.aload_n 0, 1) := by decide +kernel
theorem dX8_keep_68 : decode cX8_keep 68 = .ok (.dup, 1) := by decide +kernel
theorem dX8_keep_69 : decode cX8_keep 69 = .ok (.getfield 25, 3) := by decide +kernel
theorem dX8_keep_72 : decode cX8_keep 72 = .ok (.iconst 1, 1) := by decide +kernel
theorem dX8_keep_73 : decode cX8_keep 73 = .ok (.iadd, 1) := by decide +kernel
theorem dX8_keep_74 : decode cX8_keep 74 = .ok (.putfield 25, 3) := by decide +kernel
theorem dX8_keep_77 : decode cX8_keep 77 = .ok (.iload_n 2, 1) := by decide +kernel
theorem dX8_keep_78 : decode cX8_keep 78 = .ok (.ireturn, 1) := by decide +kernel
theorem dX8_load_0 : decode cX8_load 0 = .ok (.aload_n 2, 1) := by decide +kernel
theorem dX8_load_1 : decode cX8_load 1 = .ok (.aload_n 0, 1) := by decide +kernel
theorem dX8_load_2 : decode cX8_load 2 = .ok (.getfield 11, 3) := by decide +kernel
theorem dX8_load_5 : decode cX8_load 5 = .ok (.iload_n 1, 1) := by decide +kernel
theorem dX8_load_6 : decode cX8_load 6 = .ok (.laload, 1) := by decide +kernel
theorem dX8_load_7 : decode cX8_load 7 = .ok (.aload_n 0, 1) := by decide +kernel
theorem dX8_load_8 : decode cX8_load 8 = .ok (.getfield 15, 3) := by decide +kernel
theorem dX8_load_11 : decode cX8_load 11 = .ok (.iload_n 1, 1) := by decide +kernel
theorem dX8_load_12 : decode cX8_load 12 = .ok (.laload, 1) := by decide +kernel
theorem dX8_load_13 : decode cX8_load 13 = .ok (.aload_n 0, 1) := by decide +kernel
theorem dX8_load_14 : decode cX8_load 14 = .ok (.getfield 18, 3) := by decide +kernel
theorem dX8_load_17 : decode cX8_load 17 = .ok (.iload_n 1, 1) := by decide +kernel
theorem dX8_load_18 : decode cX8_load 18 = .ok (.laload, 1) := by decide +kernel
theorem dX8_load_19 : decode cX8_load 19 = .ok (.invokevirtual 49, 3) := by decide +kernel
theorem dX8_load_22 : decode cX8_load 22 = .ok (.return_, 1) := by decide +kernel
theorem dX8_slotOf_0 : decode cX8_slotOf 0 = .ok (.lload_n 1, 1) := by decide +kernel
theorem dX8_slotOf_1 : decode cX8_slotOf 1 = .ok (.lload_n 3, 1) := by decide +kernel
theorem dX8_slotOf_2 : decode cX8_slotOf 2 = .ok (.lload 5, 2) := by decide +kernel
theorem dX8_slotOf_4 : decode cX8_slotOf 4 = .ok (.invokestatic 53, 3) := by decide +kernel
theorem dX8_slotOf_7 : decode cX8_slotOf 7 = .ok (.istore 7, 2) := by decide +kernel
theorem dX8_slotOf_9 : decode cX8_slotOf 9 = .ok (.iconst 0, 1) := by decide +kernel
theorem dX8_slotOf_10 : decode cX8_slotOf 10 = .ok (.istore 8, 2) := by decide +kernel
theorem dX8_slotOf_12 : decode cX8_slotOf 12 = .ok (.iload 8, 2) := by decide +kernel
theorem dX8_slotOf_14 : decode cX8_slotOf 14 = .ok (.sipush 8192, 3) := by decide +kernel
theorem dX8_slotOf_17 : decode cX8_slotOf 17 = .ok (.if_icmp .ge 78, 3) := by decide +kernel
theorem dX8_slotOf_20 : decode cX8_slotOf 20 = .ok (.aload_n 0, 1) := by decide +kernel
theorem dX8_slotOf_21 : decode cX8_slotOf 21 = .ok (.getfield 21, 3) := by decide +kernel
theorem dX8_slotOf_24 : decode cX8_slotOf 24 = .ok (.iload 7, 2) := by decide +kernel
theorem dX8_slotOf_26 : decode cX8_slotOf 26 = .ok (.iaload, 1) := by decide +kernel
theorem dX8_slotOf_27 : decode cX8_slotOf 27 = .ok (.iconst 1, 1) := by decide +kernel
theorem dX8_slotOf_28 : decode cX8_slotOf 28 = .ok (.isub, 1) := by decide +kernel
theorem dX8_slotOf_29 : decode cX8_slotOf 29 = .ok (.istore 9, 2) := by decide +kernel
theorem dX8_slotOf_31 : decode cX8_slotOf 31 = .ok (.iload 9, 2) := by decide +kernel
theorem dX8_slotOf_33 : decode cX8_slotOf 33 = .ok (.ifCond .ge 6, 3) := by decide +kernel
theorem dX8_slotOf_36 : decode cX8_slotOf 36 = .ok (.iload 7, 2) := by decide +kernel
theorem dX8_slotOf_38 : decode cX8_slotOf 38 = .ok (.ireturn, 1) := by decide +kernel
theorem dX8_slotOf_39 : decode cX8_slotOf 39 = .ok (.aload_n 0, 1) := by decide +kernel
theorem dX8_slotOf_40 : decode cX8_slotOf 40 = .ok (.getfield 11, 3) := by decide +kernel
theorem dX8_slotOf_43 : decode cX8_slotOf 43 = .ok (.iload 9, 2) := by decide +kernel
theorem dX8_slotOf_45 : decode cX8_slotOf 45 = .ok (.laload, 1) := by decide +kernel
theorem dX8_slotOf_46 : decode cX8_slotOf 46 = .ok (.lload_n 1, 1) := by decide +kernel
theorem dX8_slotOf_47 : decode cX8_slotOf 47 = .ok (.lcmp, 1) := by decide +kernel
theorem dX8_slotOf_48 : decode cX8_slotOf 48 = .ok (.ifCond .ne 31, 3) := by decide +kernel
theorem dX8_slotOf_51 : decode cX8_slotOf 51 = .ok (.aload_n 0, 1) := by decide +kernel
theorem dX8_slotOf_52 : decode cX8_slotOf 52 = .ok (.getfield 15, 3) := by decide +kernel
theorem dX8_slotOf_55 : decode cX8_slotOf 55 = .ok (.iload 9, 2) := by decide +kernel
theorem dX8_slotOf_57 : decode cX8_slotOf 57 = .ok (.laload, 1) := by decide +kernel
theorem dX8_slotOf_58 : decode cX8_slotOf 58 = .ok (.lload_n 3, 1) := by decide +kernel
theorem dX8_slotOf_59 : decode cX8_slotOf 59 = .ok (.lcmp, 1) := by decide +kernel
theorem dX8_slotOf_60 : decode cX8_slotOf 60 = .ok (.ifCond .ne 19, 3) := by decide +kernel
theorem dX8_slotOf_63 : decode cX8_slotOf 63 = .ok (.aload_n 0, 1) := by decide +kernel
theorem dX8_slotOf_64 : decode cX8_slotOf 64 = .ok (.getfield 18, 3) := by decide +kernel
theorem dX8_slotOf_67 : decode cX8_slotOf 67 = .ok (.iload 9, 2) := by decide +kernel
theorem dX8_slotOf_69 : decode cX8_slotOf 69 = .ok (.laload, 1) := by decide +kernel
theorem dX8_slotOf_70 : decode cX8_slotOf 70 = .ok (.lload 5, 2) := by decide +kernel
theorem dX8_slotOf_72 : decode cX8_slotOf 72 = .ok (.lcmp, 1) := by decide +kernel
theorem dX8_slotOf_73 : decode cX8_slotOf 73 = .ok (.ifCond .ne 6, 3) := by decide +kernel
theorem dX8_slotOf_76 : decode cX8_slotOf 76 = .ok (.iload 7, 2) := by decide +kernel
theorem dX8_slotOf_78 : decode cX8_slotOf 78 = .ok (.ireturn, 1) := by decide +kernel
theorem dX8_slotOf_79 : decode cX8_slotOf 79 = .ok (.iload 7, 2) := by decide +kernel
theorem dX8_slotOf_81 : decode cX8_slotOf 81 = .ok (.iconst 1, 1) := by decide +kernel
theorem dX8_slotOf_82 : decode cX8_slotOf 82 = .ok (.iadd, 1) := by decide +kernel
theorem dX8_slotOf_83 : decode cX8_slotOf 83 = .ok (.sipush 8191, 3) := by decide +kernel
theorem dX8_slotOf_86 : decode cX8_slotOf 86 = .ok (.iand, 1) := by decide +kernel
theorem dX8_slotOf_87 : decode cX8_slotOf 87 = .ok (.istore 7, 2) := by decide +kernel
theorem dX8_slotOf_89 : decode cX8_slotOf 89 = .ok (.iinc 8 1, 3) := by decide +kernel
theorem dX8_slotOf_92 : decode cX8_slotOf 92 = .ok (.goto (-80), 3) := by decide +kernel
theorem dX8_slotOf_95 : decode cX8_slotOf 95 = .ok (.iload 7, 2) := by decide +kernel
theorem dX8_slotOf_97 : decode cX8_slotOf 97 = .ok (.ireturn, 1) := by decide +kernel
theorem dX8_startOf_0 : decode cX8_startOf 0 = .ok (.lload_n 0, 1) := by decide +kernel
theorem dX8_startOf_1 : decode cX8_startOf 1 = .ok (.ldc2_w 56, 3) := by decide +kernel
theorem dX8_startOf_4 : decode cX8_startOf 4 = .ok (.lmul, 1) := by decide +kernel
theorem dX8_startOf_5 : decode cX8_startOf 5 = .ok (.lload_n 2, 1) := by decide +kernel
theorem dX8_startOf_6 : decode cX8_startOf 6 = .ok (.ladd, 1) := by decide +kernel
theorem dX8_startOf_7 : decode cX8_startOf 7 = .ok (.ldc2_w 56, 3) := by decide +kernel
theorem dX8_startOf_10 : decode cX8_startOf 10 = .ok (.lmul, 1) := by decide +kernel
theorem dX8_startOf_11 : decode cX8_startOf 11 = .ok (.lload 4, 2) := by decide +kernel
theorem dX8_startOf_13 : decode cX8_startOf 13 = .ok (.ladd, 1) := by decide +kernel
theorem dX8_startOf_14 : decode cX8_startOf 14 = .ok (.lstore 6, 2) := by decide +kernel
theorem dX8_startOf_16 : decode cX8_startOf 16 = .ok (.lload 6, 2) := by decide +kernel
theorem dX8_startOf_18 : decode cX8_startOf 18 = .ok (.lload 6, 2) := by decide +kernel
theorem dX8_startOf_20 : decode cX8_startOf 20 = .ok (.bipush 29, 2) := by decide +kernel
theorem dX8_startOf_22 : decode cX8_startOf 22 = .ok (.lushr, 1) := by decide +kernel
theorem dX8_startOf_23 : decode cX8_startOf 23 = .ok (.lxor, 1) := by decide +kernel
theorem dX8_startOf_24 : decode cX8_startOf 24 = .ok (.ldc2_w 58, 3) := by decide +kernel
theorem dX8_startOf_27 : decode cX8_startOf 27 = .ok (.lmul, 1) := by decide +kernel
theorem dX8_startOf_28 : decode cX8_startOf 28 = .ok (.lstore 6, 2) := by decide +kernel
theorem dX8_startOf_30 : decode cX8_startOf 30 = .ok (.lload 6, 2) := by decide +kernel
theorem dX8_startOf_32 : decode cX8_startOf 32 = .ok (.lload 6, 2) := by decide +kernel
theorem dX8_startOf_34 : decode cX8_startOf 34 = .ok (.bipush 32, 2) := by decide +kernel
theorem dX8_startOf_36 : decode cX8_startOf 36 = .ok (.lushr, 1) := by decide +kernel
theorem dX8_startOf_37 : decode cX8_startOf 37 = .ok (.lxor, 1) := by decide +kernel
theorem dX8_startOf_38 : decode cX8_startOf 38 = .ok (.ldc2_w 58, 3) := by decide +kernel
theorem dX8_startOf_41 : decode cX8_startOf 41 = .ok (.lmul, 1) := by decide +kernel
theorem dX8_startOf_42 : decode cX8_startOf 42 = .ok (.lstore 6, 2) := by decide +kernel
theorem dX8_startOf_44 : decode cX8_startOf 44 = .ok (.lload 6, 2) := by decide +kernel
theorem dX8_startOf_46 : decode cX8_startOf 46 = .ok (.bipush 51, 2) := by decide +kernel
theorem dX8_startOf_48 : decode cX8_startOf 48 = .ok (.lushr, 1) := by decide +kernel
theorem dX8_startOf_49 : decode cX8_startOf 49 = .ok (.l2i, 1) := by decide +kernel
theorem dX8_startOf_50 : decode cX8_startOf 50 = .ok (.ireturn, 1) := by decide +kernel
theorem dX9_init_0 : decode cX9_init 0 = .ok (.aload_n 0, 1) := by decide +kernel
theorem dX9_init_1 : decode cX9_init 1 = .ok (.invokespecial 3, 3) := by decide +kernel
theorem dX9_init_4 : decode cX9_init 4 = .ok (.aload_n 0, 1) := by decide +kernel
theorem dX9_init_5 : decode cX9_init 5 = .ok (.aload_n 1, 1) := by decide +kernel
theorem dX9_init_6 : decode cX9_init 6 = .ok (.putfield 9, 3) := by decide +kernel
theorem dX9_init_9 : decode cX9_init 9 = .ok (.aload_n 0, 1) := by decide +kernel
theorem dX9_init_10 : decode cX9_init 10 = .ok (.bipush 20, 2) := by decide +kernel
theorem dX9_init_12 : decode cX9_init 12 = .ok (.newarray .int, 2) := by decide +kernel
theorem dX9_init_14 : decode cX9_init 14 = .ok (.putfield 15, 3) := by decide +kernel
theorem dX9_init_17 : decode cX9_init 17 = .ok (.aload_n 0, 1) := by decide +kernel
theorem dX9_init_18 : decode cX9_init 18 = .ok (.bipush 20, 2) := by decide +kernel
theorem dX9_init_20 : decode cX9_init 20 = .ok (.newarray .int, 2) := by decide +kernel
theorem dX9_init_22 : decode cX9_init 22 = .ok (.putfield 19, 3) := by decide +kernel
theorem dX9_init_25 : decode cX9_init 25 = .ok (.aload_n 0, 1) := by decide +kernel
theorem dX9_init_26 : decode cX9_init 26 = .ok (.bipush 20, 2) := by decide +kernel
theorem dX9_init_28 : decode cX9_init 28 = .ok (.newarray .int, 2) := by decide +kernel
theorem dX9_init_30 : decode cX9_init 30 = .ok (.putfield 22, 3) := by decide +kernel
theorem dX9_init_33 : decode cX9_init 33 = .ok (.aload_n 0, 1) := by decide +kernel
theorem dX9_init_34 : decode cX9_init 34 = .ok (.bipush 20, 2) := by decide +kernel
theorem dX9_init_36 : decode cX9_init 36 = .ok (.newarray .int, 2) := by decide +kernel
theorem dX9_init_38 : decode cX9_init 38 = .ok (.putfield 25, 3) := by decide +kernel
theorem dX9_init_41 : decode cX9_init 41 = .ok (.aload_n 0, 1) := by decide +kernel
theorem dX9_init_42 : decode cX9_init 42 = .ok (.bipush 20, 2) := by decide +kernel
theorem dX9_init_44 : decode cX9_init 44 = .ok (.newarray .int, 2) := by decide +kernel
theorem dX9_init_46 : decode cX9_init 46 = .ok (.putfield 28, 3) := by decide +kernel
theorem dX9_init_49 : decode cX9_init 49 = .ok (.aload_n 0, 1) := by decide +kernel
theorem dX9_init_50 : decode cX9_init 50 = .ok (.iconst 0, 1) := by decide +kernel
theorem dX9_init_51 : decode cX9_init 51 = .ok (.putfield 31, 3) := by decide +kernel
theorem dX9_init_54 : decode cX9_init 54 = .ok (.return_, 1) := by decide +kernel
theorem dX9_count_0 : decode cX9_count 0 = .ok (.aload_n 0, 1) := by decide +kernel
theorem dX9_count_1 : decode cX9_count 1 = .ok (.getfield 31, 3) := by decide +kernel
theorem dX9_count_4 : decode cX9_count 4 = .ok (.ireturn, 1) := by decide +kernel
theorem dX9_endOf_0 : decode cX9_endOf 0 = .ok (.aload_n 0, 1) := by decide +kernel
theorem dX9_endOf_1 : decode cX9_endOf 1 = .ok (.getfield 15, 3) := by decide +kernel
theorem dX9_endOf_4 : decode cX9_endOf 4 = .ok (.iload_n 1, 1) := by decide +kernel
theorem dX9_endOf_5 : decode cX9_endOf 5 = .ok (.iaload, 1) := by decide +kernel
theorem dX9_endOf_6 : decode cX9_endOf 6 = .ok (.ireturn, 1) := by decide +kernel
theorem dX9_eventOf_0 : decode cX9_eventOf 0 = .ok (.aload_n 0, 1) := by decide +kernel
theorem dX9_eventOf_1 : decode cX9_eventOf 1 = .ok (.getfield 19, 3) := by decide +kernel
theorem dX9_eventOf_4 : decode cX9_eventOf 4 = .ok (.iload_n 1, 1) := by decide +kernel
theorem dX9_eventOf_5 : decode cX9_eventOf 5 = .ok (.iaload, 1) := by decide +kernel
theorem dX9_eventOf_6 : decode cX9_eventOf 6 = .ok (.ireturn, 1) := by decide +kernel
theorem dX9_senderOf_0 : decode cX9_senderOf 0 = .ok (.aload_n 0, 1) := by decide +kernel
theorem dX9_senderOf_1 : decode cX9_senderOf 1 = .ok (.getfield 22, 3) := by decide +kernel
theorem dX9_senderOf_4 : decode cX9_senderOf 4 = .ok (.iload_n 1, 1) := by decide +kernel
theorem dX9_senderOf_5 : decode cX9_senderOf 5 = .ok (.iaload, 1) := by decide +kernel
theorem dX9_senderOf_6 : decode cX9_senderOf 6 = .ok (.ireturn, 1) := by decide +kernel
theorem dX9_letterOf_0 : decode cX9_letterOf 0 = .ok (.aload_n 0, 1) := by decide +kernel
theorem dX9_letterOf_1 : decode cX9_letterOf 1 = .ok (.getfield 25, 3) := by decide +kernel
theorem dX9_letterOf_4 : decode cX9_letterOf 4 = .ok (.iload_n 1, 1) := by decide +kernel
theorem dX9_letterOf_5 : decode cX9_letterOf 5 = .ok (.iaload, 1) := by decide +kernel
theorem dX9_letterOf_6 : decode cX9_letterOf 6 = .ok (.ireturn, 1) := by decide +kernel
theorem dX9_placeAt_0 : decode cX9_placeAt 0 = .ok (.aload_n 0, 1) := by decide +kernel
theorem dX9_placeAt_1 : decode cX9_placeAt 1 = .ok (.getfield 28, 3) := by decide +kernel
theorem dX9_placeAt_4 : decode cX9_placeAt 4 = .ok (.iload_n 1, 1) := by decide +kernel
theorem dX9_placeAt_5 : decode cX9_placeAt 5 = .ok (.iaload, 1) := by decide +kernel
theorem dX9_placeAt_6 : decode cX9_placeAt 6 = .ok (.ireturn, 1) := by decide +kernel
theorem dX9_list_0 : decode cX9_list 0 = .ok (.aload_n 0, 1) := by decide +kernel
theorem dX9_list_1 : decode cX9_list 1 = .ok (.iconst 0, 1) := by decide +kernel
theorem dX9_list_2 : decode cX9_list 2 = .ok (.putfield 31, 3) := by decide +kernel
theorem dX9_list_5 : decode cX9_list 5 = .ok (.iconst 0, 1) := by decide +kernel
theorem dX9_list_6 : decode cX9_list 6 = .ok (.istore_n 2, 1) := by decide +kernel
theorem dX9_list_7 : decode cX9_list 7 = .ok (.iload_n 2, 1) := by decide +kernel
theorem dX9_list_8 : decode cX9_list 8 = .ok (.aload_n 0, 1) := by decide +kernel
theorem dX9_list_9 : decode cX9_list 9 = .ok (.getfield 9, 3) := by decide +kernel
theorem dX9_list_12 : decode cX9_list 12 = .ok (.invokevirtual 35, 3) := by decide +kernel
theorem dX9_list_15 : decode cX9_list 15 = .ok (.if_icmp .ge 23, 3) := by decide +kernel
theorem dX9_list_18 : decode cX9_list 18 = .ok (.aload_n 1, 1) := by decide +kernel
theorem dX9_list_19 : decode cX9_list 19 = .ok (.iload_n 2, 1) := by decide +kernel
theorem dX9_list_20 : decode cX9_list 20 = .ok (.invokevirtual 41, 3) := by decide +kernel
theorem dX9_list_23 : decode cX9_list 23 = .ok (.ifCond .ne 9, 3) := by decide +kernel
theorem dX9_list_26 : decode cX9_list 26 = .ok (.aload_n 0, 1) := by decide +kernel
theorem dX9_list_27 : decode cX9_list 27 = .ok (.aload_n 1, 1) := by decide +kernel
theorem dX9_list_28 : decode cX9_list 28 = .ok (.iload_n 2, 1) := by decide +kernel
theorem dX9_list_29 : decode cX9_list 29 = .ok (.invokevirtual 47, 3) := by decide +kernel
theorem dX9_list_32 : decode cX9_list 32 = .ok (.iinc 2 1, 3) := by decide +kernel
theorem dX9_list_35 : decode cX9_list 35 = .ok (.goto (-28), 3) := by decide +kernel
theorem dX9_list_38 : decode cX9_list 38 = .ok (.iconst 0, 1) := by decide +kernel
theorem dX9_list_39 : decode cX9_list 39 = .ok (.istore_n 2, 1) := by decide +kernel
theorem dX9_list_40 : decode cX9_list 40 = .ok (.iload_n 2, 1) := by decide +kernel
theorem dX9_list_41 : decode cX9_list 41 = .ok (.aload_n 1, 1) := by decide +kernel
theorem dX9_list_42 : decode cX9_list 42 = .ok (.invokevirtual 51, 3) := by decide +kernel
theorem dX9_list_45 : decode cX9_list 45 = .ok (.if_icmp .ge 23, 3) := by decide +kernel
theorem dX9_list_48 : decode cX9_list 48 = .ok (.aload_n 1, 1) := by decide +kernel
theorem dX9_list_49 : decode cX9_list 49 = .ok (.iload_n 2, 1) := by decide +kernel
theorem dX9_list_50 : decode cX9_list 50 = .ok (.invokevirtual 54, 3) := by decide +kernel
theorem dX9_list_53 : decode cX9_list 53 = .ok (.ifCond .ne 9, 3) := by decide +kernel
theorem dX9_list_56 : decode cX9_list 56 = .ok (.aload_n 0, 1) := by decide +kernel
theorem dX9_list_57 : decode cX9_list 57 = .ok (.aload_n 1, 1) := by decide +kernel
theorem dX9_list_58 : decode cX9_list 58 = .ok (.iload_n 2, 1) := by decide +kernel
theorem dX9_list_59 : decode cX9_list 59 = .ok (.invokevirtual 58, 3) := by decide +kernel
theorem dX9_list_62 : decode cX9_list 62 = .ok (.iinc 2 1, 3) := by decide +kernel
theorem dX9_list_65 : decode cX9_list 65 = .ok (.goto (-25), 3) := by decide +kernel
theorem dX9_list_68 : decode cX9_list 68 = .ok (.return_, 1) := by decide +kernel
theorem dX9_listOwn_0 : decode cX9_listOwn 0 = .ok (.aload_n 1, 1) := by decide +kernel
theorem dX9_listOwn_1 : decode cX9_listOwn 1 = .ok (.iload_n 2, 1) := by decide +kernel
theorem dX9_listOwn_2 : decode cX9_listOwn 2 = .ok (.invokevirtual 61, 3) := by decide +kernel
theorem dX9_listOwn_5 : decode cX9_listOwn 5 = .ok (.istore_n 3, 1) := by decide +kernel
theorem dX9_listOwn_6 : decode cX9_listOwn 6 = .ok (.iconst 0, 1) := by decide +kernel
theorem dX9_listOwn_7 : decode cX9_listOwn 7 = .ok (.istore 4, 2) := by decide +kernel
theorem dX9_listOwn_9 : decode cX9_listOwn 9 = .ok (.iload 4, 2) := by decide +kernel
theorem dX9_listOwn_11 : decode cX9_listOwn 11 = .ok (.iconst 3, 1) := by decide +kernel
theorem dX9_listOwn_12 : decode cX9_listOwn 12 = .ok (.if_icmp .ge 56, 3) := by decide +kernel
theorem dX9_listOwn_15 : decode cX9_listOwn 15 = .ok (.aload_n 0, 1) := by decide +kernel
theorem dX9_listOwn_16 : decode cX9_listOwn 16 = .ok (.getfield 9, 3) := by decide +kernel
theorem dX9_listOwn_19 : decode cX9_listOwn 19 = .ok (.iload_n 3, 1) := by decide +kernel
theorem dX9_listOwn_20 : decode cX9_listOwn 20 = .ok (.iload 4, 2) := by decide +kernel
theorem dX9_listOwn_22 : decode cX9_listOwn 22 = .ok (.invokevirtual 64, 3) := by decide +kernel
theorem dX9_listOwn_25 : decode cX9_listOwn 25 = .ok (.istore 5, 2) := by decide +kernel
theorem dX9_listOwn_27 : decode cX9_listOwn 27 = .ok (.aload_n 0, 1) := by decide +kernel
theorem dX9_listOwn_28 : decode cX9_listOwn 28 = .ok (.getfield 9, 3) := by decide +kernel
theorem dX9_listOwn_31 : decode cX9_listOwn 31 = .ok (.iload 5, 2) := by decide +kernel
theorem dX9_listOwn_33 : decode cX9_listOwn 33 = .ok (.invokevirtual 68, 3) := by decide +kernel
theorem dX9_listOwn_36 : decode cX9_listOwn 36 = .ok (.ifCond .eq 26, 3) := by decide +kernel
theorem dX9_listOwn_39 : decode cX9_listOwn 39 = .ok (.aload_n 0, 1) := by decide +kernel
theorem dX9_listOwn_40 : decode cX9_listOwn 40 = .ok (.getfield 9, 3) := by decide +kernel
theorem dX9_listOwn_43 : decode cX9_listOwn 43 = .ok (.iload 5, 2) := by decide +kernel
theorem dX9_listOwn_45 : decode cX9_listOwn 45 = .ok (.invokevirtual 71, 3) := by decide +kernel
theorem dX9_listOwn_48 : decode cX9_listOwn 48 = .ok (.ifCond .ne 14, 3) := by decide +kernel
theorem dX9_listOwn_51 : decode cX9_listOwn 51 = .ok (.aload_n 0, 1) := by decide +kernel
theorem dX9_listOwn_52 : decode cX9_listOwn 52 = .ok (.iload_n 2, 1) := by decide +kernel
theorem dX9_listOwn_53 : decode cX9_listOwn 53 = .ok (.iload 4, 2) := by decide +kernel
theorem dX9_listOwn_55 : decode cX9_listOwn 55 = .ok (.iconst (-1), 1) := by decide +kernel
theorem dX9_listOwn_56 : decode cX9_listOwn 56 = .ok (.iconst (-1), 1) := by decide +kernel
theorem dX9_listOwn_57 : decode cX9_listOwn 57 = .ok (.iload 5, 2) := by decide +kernel
theorem dX9_listOwn_59 : decode cX9_listOwn 59 = .ok (.invokevirtual 74, 3) := by decide +kernel
theorem dX9_listOwn_62 : decode cX9_listOwn 62 = .ok (.iinc 4 1, 3) := by decide +kernel
theorem dX9_listOwn_65 : decode cX9_listOwn 65 = .ok (.goto (-56), 3) := by decide +kernel
theorem dX9_listOwn_68 : decode cX9_listOwn 68 = .ok (.return_, 1) := by decide +kernel
theorem dX9_listComing_0 : decode cX9_listComing 0 = .ok (.aload_n 1, 1) := by decide +kernel
theorem dX9_listComing_1 : decode cX9_listComing 1 = .ok (.iload_n 2, 1) := by decide +kernel
theorem dX9_listComing_2 : decode cX9_listComing 2 = .ok (.invokevirtual 78, 3) := by decide +kernel
theorem dX9_listComing_5 : decode cX9_listComing 5 = .ok (.istore_n 3, 1) := by decide +kernel
theorem dX9_listComing_6 : decode cX9_listComing 6 = .ok (.aload_n 0, 1) := by decide +kernel
theorem dX9_listComing_7 : decode cX9_listComing 7 = .ok (.getfield 9, 3) := by decide +kernel
theorem dX9_listComing_10 : decode cX9_listComing 10 = .ok (.aload_n 1, 1) := by decide +kernel
theorem dX9_listComing_11 : decode cX9_listComing 11 = .ok (.iload_n 3, 1) := by decide +kernel
theorem dX9_listComing_12 : decode cX9_listComing 12 = .ok (.invokevirtual 81, 3) := by decide +kernel
theorem dX9_listComing_15 : decode cX9_listComing 15 = .ok (.istore 4, 2) := by decide +kernel
theorem dX9_listComing_17 : decode cX9_listComing 17 = .ok (.aload_n 0, 1) := by decide +kernel
theorem dX9_listComing_18 : decode cX9_listComing 18 = .ok (.getfield 9, 3) := by decide +kernel
theorem dX9_listComing_21 : decode cX9_listComing 21 = .ok (.iload 4, 2) := by decide +kernel
theorem dX9_listComing_23 : decode cX9_listComing 23 = .ok (.invokevirtual 71, 3) := by decide +kernel
theorem dX9_listComing_26 : decode cX9_listComing 26 = .ok (.ifCond .ne 24, 3) := by decide +kernel
theorem dX9_listComing_29 : decode cX9_listComing 29 = .ok (.aload_n 0, 1) := by decide +kernel
theorem dX9_listComing_30 : decode cX9_listComing 30 = .ok (.iload_n 3, 1) := by decide +kernel
theorem dX9_listComing_31 : decode cX9_listComing 31 = .ok (.invokestatic 85, 3) := by decide +kernel
theorem dX9_listComing_34 : decode cX9_listComing 34 = .ok (.iconst 3, 1) := by decide +kernel
theorem dX9_listComing_35 : decode cX9_listComing 35 = .ok (.iload_n 3, 1) := by decide +kernel
theorem dX9_listComing_36 : decode cX9_listComing 36 = .ok (.invokestatic 90, 3) := by decide +kernel
theorem dX9_listComing_39 : decode cX9_listComing 39 = .ok (.iadd, 1) := by decide +kernel
theorem dX9_listComing_40 : decode cX9_listComing 40 = .ok (.iload_n 3, 1) := by decide +kernel
theorem dX9_listComing_41 : decode cX9_listComing 41 = .ok (.invokestatic 93, 3) := by decide +kernel
theorem dX9_listComing_44 : decode cX9_listComing 44 = .ok (.iload_n 2, 1) := by decide +kernel
theorem dX9_listComing_45 : decode cX9_listComing 45 = .ok (.iload 4, 2) := by decide +kernel
theorem dX9_listComing_47 : decode cX9_listComing 47 = .ok (.invokevirtual 74, 3) := by decide +kernel
theorem dX9_listComing_50 : decode cX9_listComing 50 = .ok (.return_, 1) := by decide +kernel
theorem dX9_add_0 : decode cX9_add 0 = .ok (.aload_n 0, 1) := by decide +kernel
theorem dX9_add_1 : decode cX9_add 1 = .ok (.getfield 31, 3) := by decide +kernel
theorem dX9_add_4 : decode cX9_add 4 = .ok (.bipush 20, 2) := by decide +kernel
theorem dX9_add_6 : decode cX9_add 6 = .ok (.if_icmp .lt 4, 3) := by decide +kernel
theorem dX9_add_9 : decode cX9_add 9 = .ok (.return_, 1) := by decide +kernel
theorem dX9_add_10 : decode cX9_add 10 = .ok (.aload_n 0, 1) := by decide +kernel
theorem dX9_add_11 : decode cX9_add 11 = .ok (.getfield 15, 3) := by decide +kernel
theorem dX9_add_14 : decode cX9_add 14 = .ok (.aload_n 0, 1) := by decide +kernel
theorem dX9_add_15 : decode cX9_add 15 = .ok (.getfield 31, 3) := by decide +kernel
theorem dX9_add_18 : decode cX9_add 18 = .ok (.iload_n 1, 1) := by decide +kernel
theorem dX9_add_19 : decode cX9_add 19 = .ok (.iastore, 1) := by decide +kernel
theorem dX9_add_20 : decode cX9_add 20 = .ok (.aload_n 0, 1) := by decide +kernel
theorem dX9_add_21 : decode cX9_add 21 = .ok (.getfield 19, 3) := by decide +kernel
theorem dX9_add_24 : decode cX9_add 24 = .ok (.aload_n 0, 1) := by decide +kernel
theorem dX9_add_25 : decode cX9_add 25 = .ok (.getfield 31, 3) := by decide +kernel
theorem dX9_add_28 : decode cX9_add 28 = .ok (.iload_n 2, 1) := by decide +kernel
theorem dX9_add_29 : decode cX9_add 29 = .ok (.iastore, 1) := by decide +kernel
theorem dX9_add_30 : decode cX9_add 30 = .ok (.aload_n 0, 1) := by decide +kernel
theorem dX9_add_31 : decode cX9_add 31 = .ok (.getfield 22, 3) := by decide +kernel
theorem dX9_add_34 : decode cX9_add 34 = .ok (.aload_n 0, 1) := by decide +kernel
theorem dX9_add_35 : decode cX9_add 35 = .ok (.getfield 31, 3) := by decide +kernel
theorem dX9_add_38 : decode cX9_add 38 = .ok (.iload_n 3, 1) := by decide +kernel
theorem dX9_add_39 : decode cX9_add 39 = .ok (.iastore, 1) := by decide +kernel
theorem dX9_add_40 : decode cX9_add 40 = .ok (.aload_n 0, 1) := by decide +kernel
theorem dX9_add_41 : decode cX9_add 41 = .ok (.getfield 25, 3) := by decide +kernel
theorem dX9_add_44 : decode cX9_add 44 = .ok (.aload_n 0, 1) := by decide +kernel
theorem dX9_add_45 : decode cX9_add 45 = .ok (.getfield 31, 3) := by decide +kernel
theorem dX9_add_48 : decode cX9_add 48 = .ok (.iload 4, 2) := by decide +kernel
theorem dX9_add_50 : decode cX9_add 50 = .ok (.iastore, 1) := by decide +kernel
theorem dX9_add_51 : decode cX9_add 51 = .ok (.aload_n 0, 1) := by decide +kernel
theorem dX9_add_52 : decode cX9_add 52 = .ok (.getfield 28, 3) := by decide +kernel
theorem dX9_add_55 : decode cX9_add 55 = .ok (.aload_n 0, 1) := by decide +kernel
theorem dX9_add_56 : decode cX9_add 56 = .ok (.getfield 31, 3) := by decide +kernel
theorem dX9_add_59 : decode cX9_add 59 = .ok (.iload 5, 2) := by decide +kernel
theorem dX9_add_61 : decode cX9_add 61 = .ok (.iastore, 1) := by decide +kernel
theorem dX9_add_62 : decode cX9_add 62 = .ok (.aload_n 0, 1) := by decide +kernel
theorem dX9_add_63 : decode cX9_add 63 = .ok (.dup, 1) := by decide +kernel
theorem dX9_add_64 : decode cX9_add 64 = .ok (.getfield 31, 3) := by decide +kernel
theorem dX9_add_67 : decode cX9_add 67 = .ok (.iconst 1, 1) := by decide +kernel
theorem dX9_add_68 : decode cX9_add 68 = .ok (.iadd, 1) := by decide +kernel
theorem dX9_add_69 : decode cX9_add 69 = .ok (.putfield 31, 3) := by decide +kernel
theorem dX9_add_72 : decode cX9_add 72 = .ok (.return_, 1) := by decide +kernel
theorem dX10_init_0 : decode cX10_init 0 = .ok (.aload_n 0, 1) := by decide +kernel
theorem dX10_init_1 : decode cX10_init 1 = .ok (.invokespecial 3, 3) := by decide +kernel
theorem dX10_init_4 : decode cX10_init 4 = .ok (.aload_n 0, 1) := by decide +kernel
theorem dX10_init_5 : decode cX10_init 5 = .ok (.new 9, 3) := by decide +kernel
theorem dX10_init_8 : decode cX10_init 8 = .ok (.dup, 1) := by decide +kernel
theorem dX10_init_9 : decode cX10_init 9 = .ok (.invokespecial 11, 3) := by decide +kernel
theorem dX10_init_12 : decode cX10_init 12 = .ok (.putfield 12, 3) := by decide +kernel
theorem dX10_init_15 : decode cX10_init 15 = .ok (.aload_n 0, 1) := by decide +kernel
theorem dX10_init_16 : decode cX10_init 16 = .ok (.new 16, 3) := by decide +kernel
theorem dX10_init_19 : decode cX10_init 19 = .ok (.dup, 1) := by decide +kernel
theorem dX10_init_20 : decode cX10_init 20 = .ok (.aload_n 0, 1) := by decide +kernel
theorem dX10_init_21 : decode cX10_init 21 = .ok (.getfield 12, 3) := by decide +kernel
theorem dX10_init_24 : decode cX10_init 24 = .ok (.invokespecial 18, 3) := by decide +kernel
theorem dX10_init_27 : decode cX10_init 27 = .ok (.putfield 21, 3) := by decide +kernel
theorem dX10_init_30 : decode cX10_init 30 = .ok (.aload_n 0, 1) := by decide +kernel
theorem dX10_init_31 : decode cX10_init 31 = .ok (.new 25, 3) := by decide +kernel
theorem dX10_init_34 : decode cX10_init 34 = .ok (.dup, 1) := by decide +kernel
theorem dX10_init_35 : decode cX10_init 35 = .ok (.invokespecial 27, 3) := by decide +kernel
theorem dX10_init_38 : decode cX10_init 38 = .ok (.putfield 28, 3) := by decide +kernel
theorem dX10_init_41 : decode cX10_init 41 = .ok (.aload_n 0, 1) := by decide +kernel
theorem dX10_init_42 : decode cX10_init 42 = .ok (.new 25, 3) := by decide +kernel
theorem dX10_init_45 : decode cX10_init 45 = .ok (.dup, 1) := by decide +kernel
theorem dX10_init_46 : decode cX10_init 46 = .ok (.invokespecial 27, 3) := by decide +kernel
theorem dX10_init_49 : decode cX10_init 49 = .ok (.putfield 32, 3) := by decide +kernel
theorem dX10_init_52 : decode cX10_init 52 = .ok (.aload_n 0, 1) := by decide +kernel
theorem dX10_init_53 : decode cX10_init 53 = .ok (.new 35, 3) := by decide +kernel
theorem dX10_init_56 : decode cX10_init 56 = .ok (.dup, 1) := by decide +kernel
theorem dX10_init_57 : decode cX10_init 57 = .ok (.aload_n 0, 1) := by decide +kernel
theorem dX10_init_58 : decode cX10_init 58 = .ok (.getfield 12, 3) := by decide +kernel
theorem dX10_init_61 : decode cX10_init 61 = .ok (.invokespecial 37, 3) := by decide +kernel
theorem dX10_init_64 : decode cX10_init 64 = .ok (.putfield 38, 3) := by decide +kernel
theorem dX10_init_67 : decode cX10_init 67 = .ok (.aload_n 0, 1) := by decide +kernel
theorem dX10_init_68 : decode cX10_init 68 = .ok (.new 42, 3) := by decide +kernel
theorem dX10_init_71 : decode cX10_init 71 = .ok (.dup, 1) := by decide +kernel
theorem dX10_init_72 : decode cX10_init 72 = .ok (.aload_n 0, 1) := by decide +kernel
theorem dX10_init_73 : decode cX10_init 73 = .ok (.getfield 12, 3) := by decide +kernel
theorem dX10_init_76 : decode cX10_init 76 = .ok (.aload_n 0, 1) := by decide +kernel
theorem dX10_init_77 : decode cX10_init 77 = .ok (.getfield 21, 3) := by decide +kernel
theorem dX10_init_80 : decode cX10_init 80 = .ok (.invokespecial 44, 3) := by decide +kernel
theorem dX10_init_83 : decode cX10_init 83 = .ok (.putfield 47, 3) := by decide +kernel
theorem dX10_init_86 : decode cX10_init 86 = .ok (.aload_n 0, 1) := by decide +kernel
theorem dX10_init_87 : decode cX10_init 87 = .ok (.iconst 0, 1) := by decide +kernel
theorem dX10_init_88 : decode cX10_init 88 = .ok (.putfield 51, 3) := by decide +kernel
theorem dX10_init_91 : decode cX10_init 91 = .ok (.aload_n 0, 1) := by decide +kernel
theorem dX10_init_92 : decode cX10_init 92 = .ok (.getfield 28, 3) := by decide +kernel
theorem dX10_init_95 : decode cX10_init 95 = .ok (.aload_n 0, 1) := by decide +kernel
theorem dX10_init_96 : decode cX10_init 96 = .ok (.getfield 12, 3) := by decide +kernel
theorem dX10_init_99 : decode cX10_init 99 = .ok (.invokevirtual 55, 3) := by decide +kernel
theorem dX10_init_102 : decode cX10_init 102 = .ok (.invokevirtual 59, 3) := by decide +kernel
theorem dX10_init_105 : decode cX10_init 105 = .ok (.return_, 1) := by decide +kernel
theorem dX10_processors_0 : decode cX10_processors 0 = .ok (.iload_n 1, 1) := by decide +kernel
theorem dX10_processors_1 : decode cX10_processors 1 = .ok (.iconst 1, 1) := by decide +kernel
theorem dX10_processors_2 : decode cX10_processors 2 = .ok (.if_icmp .lt 8, 3) := by decide +kernel
theorem dX10_processors_5 : decode cX10_processors 5 = .ok (.iload_n 1, 1) := by decide +kernel
theorem dX10_processors_6 : decode cX10_processors 6 = .ok (.iconst 4, 1) := by decide +kernel
theorem dX10_processors_7 : decode cX10_processors 7 = .ok (.if_icmp .le 5, 3) := by decide +kernel
theorem dX10_processors_10 : decode cX10_processors 10 = .ok (.iconst (-1), 1) := by decide +kernel
theorem dX10_processors_11 : decode cX10_processors 11 = .ok (.ireturn, 1) := by decide +kernel
theorem dX10_processors_12 : decode cX10_processors 12 = .ok (.aload_n 0, 1) := by decide +kernel
theorem dX10_processors_13 : decode cX10_processors 13 = .ok (.getfield 12, 3) := by decide +kernel
theorem dX10_processors_16 : decode cX10_processors 16 = .ok (.iload_n 1, 1) := by decide +kernel
theorem dX10_processors_17 : decode cX10_processors 17 = .ok (.invokevirtual 63, 3) := by decide +kernel
theorem dX10_processors_20 : decode cX10_processors 20 = .ok (.istore_n 2, 1) := by decide +kernel
theorem dX10_processors_21 : decode cX10_processors 21 = .ok (.aload_n 0, 1) := by decide +kernel
theorem dX10_processors_22 : decode cX10_processors 22 = .ok (.invokevirtual 67, 3) := by decide +kernel
theorem dX10_processors_25 : decode cX10_processors 25 = .ok (.iload_n 2, 1) := by decide +kernel
theorem dX10_processors_26 : decode cX10_processors 26 = .ok (.ireturn, 1) := by decide +kernel
theorem dX10_net_0 : decode cX10_net 0 = .ok (.iload_n 1, 1) := by decide +kernel
theorem dX10_net_1 : decode cX10_net 1 = .ok (.ifCond .lt 18, 3) := by decide +kernel
theorem dX10_net_4 : decode cX10_net 4 = .ok (.iload_n 1, 1) := by decide +kernel
theorem dX10_net_5 : decode cX10_net 5 = .ok (.bipush 16, 2) := by decide +kernel
theorem dX10_net_7 : decode cX10_net 7 = .ok (.if_icmp .ge 12, 3) := by decide +kernel
theorem dX10_net_10 : decode cX10_net 10 = .ok (.iload_n 2, 1) := by decide +kernel
theorem dX10_net_11 : decode cX10_net 11 = .ok (.ifCond .lt 8, 3) := by decide +kernel
theorem dX10_net_14 : decode cX10_net 14 = .ok (.iload_n 2, 1) := by decide +kernel
theorem dX10_net_15 : decode cX10_net 15 = .ok (.iconst 1, 1) := by decide +kernel
theorem dX10_net_16 : decode cX10_net 16 = .ok (.if_icmp .le 5, 3) := by decide +kernel
theorem dX10_net_19 : decode cX10_net 19 = .ok (.iconst (-1), 1) := by decide +kernel
theorem dX10_net_20 : decode cX10_net 20 = .ok (.ireturn, 1) := by decide +kernel
theorem dX10_net_21 : decode cX10_net 21 = .ok (.aload_n 0, 1) := by decide +kernel
theorem dX10_net_22 : decode cX10_net 22 = .ok (.getfield 12, 3) := by decide +kernel
theorem dX10_net_25 : decode cX10_net 25 = .ok (.iload_n 1, 1) := by decide +kernel
theorem dX10_net_26 : decode cX10_net 26 = .ok (.iload_n 2, 1) := by decide +kernel
theorem dX10_net_27 : decode cX10_net 27 = .ok (.invokevirtual 70, 3) := by decide +kernel
theorem dX10_net_30 : decode cX10_net 30 = .ok (.istore_n 3, 1) := by decide +kernel
theorem dX10_net_31 : decode cX10_net 31 = .ok (.aload_n 0, 1) := by decide +kernel
theorem dX10_net_32 : decode cX10_net 32 = .ok (.invokevirtual 67, 3) := by decide +kernel
theorem dX10_net_35 : decode cX10_net 35 = .ok (.iload_n 3, 1) := by decide +kernel
theorem dX10_net_36 : decode cX10_net 36 = .ok (.ireturn, 1) := by decide +kernel
theorem dX10_right_0 : decode cX10_right 0 = .ok (.iload_n 1, 1) := by decide +kernel
theorem dX10_right_1 : decode cX10_right 1 = .ok (.ifCond .lt 18, 3) := by decide +kernel
theorem dX10_right_4 : decode cX10_right 4 = .ok (.iload_n 1, 1) := by decide +kernel
theorem dX10_right_5 : decode cX10_right 5 = .ok (.bipush 16, 2) := by decide +kernel
theorem dX10_right_7 : decode cX10_right 7 = .ok (.if_icmp .ge 12, 3) := by decide +kernel
theorem dX10_right_10 : decode cX10_right 10 = .ok (.iload_n 2, 1) := by decide +kernel
theorem dX10_right_11 : decode cX10_right 11 = .ok (.ifCond .lt 8, 3) := by decide +kernel
theorem dX10_right_14 : decode cX10_right 14 = .ok (.iload_n 2, 1) := by decide +kernel
theorem dX10_right_15 : decode cX10_right 15 = .ok (.iconst 2, 1) := by decide +kernel
theorem dX10_right_16 : decode cX10_right 16 = .ok (.if_icmp .le 5, 3) := by decide +kernel
theorem dX10_right_19 : decode cX10_right 19 = .ok (.iconst (-1), 1) := by decide +kernel
theorem dX10_right_20 : decode cX10_right 20 = .ok (.ireturn, 1) := by decide +kernel
theorem dX10_right_21 : decode cX10_right 21 = .ok (.aload_n 0, 1) := by decide +kernel
theorem dX10_right_22 : decode cX10_right 22 = .ok (.getfield 12, 3) := by decide +kernel
theorem dX10_right_25 : decode cX10_right 25 = .ok (.iload_n 1, 1) := by decide +kernel
theorem dX10_right_26 : decode cX10_right 26 = .ok (.iload_n 2, 1) := by decide +kernel
theorem dX10_right_27 : decode cX10_right 27 = .ok (.invokevirtual 74, 3) := by decide +kernel
theorem dX10_right_30 : decode cX10_right 30 = .ok (.istore_n 3, 1) := by decide +kernel
theorem dX10_right_31 : decode cX10_right 31 = .ok (.aload_n 0, 1) := by decide +kernel
theorem dX10_right_32 : decode cX10_right 32 = .ok (.invokevirtual 67, 3) := by decide +kernel
theorem dX10_right_35 : decode cX10_right 35 = .ok (.iload_n 3, 1) := by decide +kernel
theorem dX10_right_36 : decode cX10_right 36 = .ok (.ireturn, 1) := by decide +kernel
theorem dX10_row_0 : decode cX10_row 0 = .ok (.iload_n 1, 1) := by decide +kernel
theorem dX10_row_1 : decode cX10_row 1 = .ok (.invokestatic 77, 3) := by decide +kernel
theorem dX10_row_4 : decode cX10_row 4 = .ok (.istore 4, 2) := by decide +kernel
theorem dX10_row_6 : decode cX10_row 6 = .ok (.iload_n 1, 1) := by decide +kernel
theorem dX10_row_7 : decode cX10_row 7 = .ok (.bipush 15, 2) := by decide +kernel
theorem dX10_row_9 : decode cX10_row 9 = .ok (.iand, 1) := by decide +kernel
theorem dX10_row_10 : decode cX10_row 10 = .ok (.istore 5, 2) := by decide +kernel
theorem dX10_row_12 : decode cX10_row 12 = .ok (.iload 4, 2) := by decide +kernel
theorem dX10_row_14 : decode cX10_row 14 = .ok (.iconst (-1), 1) := by decide +kernel
theorem dX10_row_15 : decode cX10_row 15 = .ok (.if_icmp .eq 10, 3) := by decide +kernel
theorem dX10_row_18 : decode cX10_row 18 = .ok (.iload 5, 2) := by decide +kernel
theorem dX10_row_20 : decode cX10_row 20 = .ok (.bipush 8, 2) := by decide +kernel
theorem dX10_row_22 : decode cX10_row 22 = .ok (.if_icmp .le 5, 3) := by decide +kernel
theorem dX10_row_25 : decode cX10_row 25 = .ok (.iconst (-1), 1) := by decide +kernel
theorem dX10_row_26 : decode cX10_row 26 = .ok (.ireturn, 1) := by decide +kernel
theorem dX10_row_27 : decode cX10_row 27 = .ok (.aload_n 0, 1) := by decide +kernel
theorem dX10_row_28 : decode cX10_row 28 = .ok (.getfield 12, 3) := by decide +kernel
theorem dX10_row_31 : decode cX10_row 31 = .ok (.iload 4, 2) := by decide +kernel
theorem dX10_row_33 : decode cX10_row 33 = .ok (.iload 5, 2) := by decide +kernel
theorem dX10_row_35 : decode cX10_row 35 = .ok (.iload_n 2, 1) := by decide +kernel
theorem dX10_row_36 : decode cX10_row 36 = .ok (.iload_n 3, 1) := by decide +kernel
theorem dX10_row_37 : decode cX10_row 37 = .ok (.invokevirtual 80, 3) := by decide +kernel
theorem dX10_row_40 : decode cX10_row 40 = .ok (.istore 6, 2) := by decide +kernel
theorem dX10_row_42 : decode cX10_row 42 = .ok (.aload_n 0, 1) := by decide +kernel
theorem dX10_row_43 : decode cX10_row 43 = .ok (.invokevirtual 67, 3) := by decide +kernel
theorem dX10_row_46 : decode cX10_row 46 = .ok (.iload 6, 2) := by decide +kernel
theorem dX10_row_48 : decode cX10_row 48 = .ok (.ireturn, 1) := by decide +kernel
theorem dX10_tear_0 : decode cX10_tear 0 = .ok (.iload_n 1, 1) := by decide +kernel
theorem dX10_tear_1 : decode cX10_tear 1 = .ok (.invokestatic 77, 3) := by decide +kernel
theorem dX10_tear_4 : decode cX10_tear 4 = .ok (.istore_n 2, 1) := by decide +kernel
theorem dX10_tear_5 : decode cX10_tear 5 = .ok (.iload_n 2, 1) := by decide +kernel
theorem dX10_tear_6 : decode cX10_tear 6 = .ok (.iconst (-1), 1) := by decide +kernel
theorem dX10_tear_7 : decode cX10_tear 7 = .ok (.if_icmp .ne 5, 3) := by decide +kernel
theorem dX10_tear_10 : decode cX10_tear 10 = .ok (.iconst (-1), 1) := by decide +kernel
theorem dX10_tear_11 : decode cX10_tear 11 = .ok (.ireturn, 1) := by decide +kernel
theorem dX10_tear_12 : decode cX10_tear 12 = .ok (.aload_n 0, 1) := by decide +kernel
theorem dX10_tear_13 : decode cX10_tear 13 = .ok (.getfield 12, 3) := by decide +kernel
theorem dX10_tear_16 : decode cX10_tear 16 = .ok (.iload_n 2, 1) := by decide +kernel
theorem dX10_tear_17 : decode cX10_tear 17 = .ok (.invokevirtual 84, 3) := by decide +kernel
theorem dX10_tear_20 : decode cX10_tear 20 = .ok (.istore_n 3, 1) := by decide +kernel
theorem dX10_tear_21 : decode cX10_tear 21 = .ok (.aload_n 0, 1) := by decide +kernel
theorem dX10_tear_22 : decode cX10_tear 22 = .ok (.invokevirtual 67, 3) := by decide +kernel
theorem dX10_tear_25 : decode cX10_tear 25 = .ok (.iload_n 3, 1) := by decide +kernel
theorem dX10_tear_26 : decode cX10_tear 26 = .ok (.ireturn, 1) := by decide +kernel
theorem dX10_rows_0 : decode cX10_rows 0 = .ok (.iload_n 1, 1) := by decide +kernel
theorem dX10_rows_1 : decode cX10_rows 1 = .ok (.ifCond .lt 8, 3) := by decide +kernel
theorem dX10_rows_4 : decode cX10_rows 4 = .ok (.iload_n 1, 1) := by decide +kernel
theorem dX10_rows_5 : decode cX10_rows 5 = .ok (.iconst 2, 1) := by decide +kernel
theorem dX10_rows_6 : decode cX10_rows 6 = .ok (.if_icmp .lt 5, 3) := by decide +kernel
theorem dX10_rows_9 : decode cX10_rows 9 = .ok (.iconst (-1), 1) := by decide +kernel
theorem dX10_rows_10 : decode cX10_rows 10 = .ok (.ireturn, 1) := by decide +kernel
theorem dX10_rows_11 : decode cX10_rows 11 = .ok (.aload_n 0, 1) := by decide +kernel
theorem dX10_rows_12 : decode cX10_rows 12 = .ok (.getfield 12, 3) := by decide +kernel
theorem dX10_rows_15 : decode cX10_rows 15 = .ok (.iload_n 1, 1) := by decide +kernel
theorem dX10_rows_16 : decode cX10_rows 16 = .ok (.invokevirtual 87, 3) := by decide +kernel
theorem dX10_rows_19 : decode cX10_rows 19 = .ok (.ireturn, 1) := by decide +kernel
theorem dX10_reset_0 : decode cX10_reset 0 = .ok (.aload_n 0, 1) := by decide +kernel
theorem dX10_reset_1 : decode cX10_reset 1 = .ok (.getfield 28, 3) := by decide +kernel
theorem dX10_reset_4 : decode cX10_reset 4 = .ok (.aload_n 0, 1) := by decide +kernel
theorem dX10_reset_5 : decode cX10_reset 5 = .ok (.getfield 12, 3) := by decide +kernel
theorem dX10_reset_8 : decode cX10_reset 8 = .ok (.invokevirtual 55, 3) := by decide +kernel
theorem dX10_reset_11 : decode cX10_reset 11 = .ok (.invokevirtual 59, 3) := by decide +kernel
theorem dX10_reset_14 : decode cX10_reset 14 = .ok (.aload_n 0, 1) := by decide +kernel
theorem dX10_reset_15 : decode cX10_reset 15 = .ok (.invokevirtual 90, 3) := by decide +kernel
theorem dX10_reset_18 : decode cX10_reset 18 = .ok (.ireturn, 1) := by decide +kernel
theorem dX10_steps_0 : decode cX10_steps 0 = .ok (.aload_n 0, 1) := by decide +kernel
theorem dX10_steps_1 : decode cX10_steps 1 = .ok (.invokevirtual 90, 3) := by decide +kernel
theorem dX10_steps_4 : decode cX10_steps 4 = .ok (.ireturn, 1) := by decide +kernel
theorem dX10_step_0 : decode cX10_step 0 = .ok (.iload_n 1, 1) := by decide +kernel
theorem dX10_step_1 : decode cX10_step 1 = .ok (.ifCond .lt 11, 3) := by decide +kernel
theorem dX10_step_4 : decode cX10_step 4 = .ok (.iload_n 1, 1) := by decide +kernel
theorem dX10_step_5 : decode cX10_step 5 = .ok (.aload_n 0, 1) := by decide +kernel
theorem dX10_step_6 : decode cX10_step 6 = .ok (.invokevirtual 90, 3) := by decide +kernel
theorem dX10_step_9 : decode cX10_step 9 = .ok (.if_icmp .lt 5, 3) := by decide +kernel
theorem dX10_step_12 : decode cX10_step 12 = .ok (.iconst (-1), 1) := by decide +kernel
theorem dX10_step_13 : decode cX10_step 13 = .ok (.ireturn, 1) := by decide +kernel
theorem dX10_step_14 : decode cX10_step 14 = .ok (.iload_n 2, 1) := by decide +kernel
theorem dX10_step_15 : decode cX10_step 15 = .ok (.tableswitch 52 0 2 #[25, 34, 43], 25) := by decide +kernel
theorem dX10_step_40 : decode cX10_step 40 = .ok (.aload_n 0, 1) := by decide +kernel
theorem dX10_step_41 : decode cX10_step 41 = .ok (.getfield 38, 3) := by decide +kernel
theorem dX10_step_44 : decode cX10_step 44 = .ok (.iload_n 1, 1) := by decide +kernel
theorem dX10_step_45 : decode cX10_step 45 = .ok (.invokevirtual 93, 3) := by decide +kernel
theorem dX10_step_48 : decode cX10_step 48 = .ok (.ireturn, 1) := by decide +kernel
theorem dX10_step_49 : decode cX10_step 49 = .ok (.aload_n 0, 1) := by decide +kernel
theorem dX10_step_50 : decode cX10_step 50 = .ok (.getfield 38, 3) := by decide +kernel
theorem dX10_step_53 : decode cX10_step 53 = .ok (.iload_n 1, 1) := by decide +kernel
theorem dX10_step_54 : decode cX10_step 54 = .ok (.invokevirtual 96, 3) := by decide +kernel
theorem dX10_step_57 : decode cX10_step 57 = .ok (.ireturn, 1) := by decide +kernel
theorem dX10_step_58 : decode cX10_step 58 = .ok (.aload_n 0, 1) := by decide +kernel
theorem dX10_step_59 : decode cX10_step 59 = .ok (.getfield 38, 3) := by decide +kernel
theorem dX10_step_62 : decode cX10_step 62 = .ok (.iload_n 1, 1) := by decide +kernel
theorem dX10_step_63 : decode cX10_step 63 = .ok (.invokevirtual 99, 3) := by decide +kernel
theorem dX10_step_66 : decode cX10_step 66 = .ok (.ireturn, 1) := by decide +kernel
theorem dX10_step_67 : decode cX10_step 67 = .ok (.iconst (-1), 1) := by decide +kernel
theorem dX10_step_68 : decode cX10_step 68 = .ok (.ireturn, 1) := by decide +kernel
theorem dX10_choose_0 : decode cX10_choose 0 = .ok (.iload_n 1, 1) := by decide +kernel
theorem dX10_choose_1 : decode cX10_choose 1 = .ok (.ifCond .lt 11, 3) := by decide +kernel
theorem dX10_choose_4 : decode cX10_choose 4 = .ok (.iload_n 1, 1) := by decide +kernel
theorem dX10_choose_5 : decode cX10_choose 5 = .ok (.aload_n 0, 1) := by decide +kernel
theorem dX10_choose_6 : decode cX10_choose 6 = .ok (.invokevirtual 90, 3) := by decide +kernel
theorem dX10_choose_9 : decode cX10_choose 9 = .ok (.if_icmp .lt 5, 3) := by decide +kernel
theorem dX10_choose_12 : decode cX10_choose 12 = .ok (.iconst (-1), 1) := by decide +kernel
theorem dX10_choose_13 : decode cX10_choose 13 = .ok (.ireturn, 1) := by decide +kernel
theorem dX10_choose_14 : decode cX10_choose 14 = .ok (.aload_n 0, 1) := by decide +kernel
theorem dX10_choose_15 : decode cX10_choose 15 = .ok (.getfield 32, 3) := by decide +kernel
theorem dX10_choose_18 : decode cX10_choose 18 = .ok (.aload_n 0, 1) := by decide +kernel
theorem dX10_choose_19 : decode cX10_choose 19 = .ok (.getfield 28, 3) := by decide +kernel
theorem dX10_choose_22 : decode cX10_choose 22 = .ok (.invokevirtual 102, 3) := by decide +kernel
theorem dX10_choose_25 : decode cX10_choose 25 = .ok (.aload_n 0, 1) := by decide +kernel
theorem dX10_choose_26 : decode cX10_choose 26 = .ok (.getfield 21, 3) := by decide +kernel
theorem dX10_choose_29 : decode cX10_choose 29 = .ok (.aload_n 0, 1) := by decide +kernel
theorem dX10_choose_30 : decode cX10_choose 30 = .ok (.getfield 32, 3) := by decide +kernel
theorem dX10_choose_33 : decode cX10_choose 33 = .ok (.aload_n 0, 1) := by decide +kernel
theorem dX10_choose_34 : decode cX10_choose 34 = .ok (.getfield 38, 3) := by decide +kernel
theorem dX10_choose_37 : decode cX10_choose 37 = .ok (.iload_n 1, 1) := by decide +kernel
theorem dX10_choose_38 : decode cX10_choose 38 = .ok (.invokevirtual 106, 3) := by decide +kernel
theorem dX10_choose_41 : decode cX10_choose 41 = .ok (.istore_n 2, 1) := by decide +kernel
theorem dX10_choose_42 : decode cX10_choose 42 = .ok (.iload_n 2, 1) := by decide +kernel
theorem dX10_choose_43 : decode cX10_choose 43 = .ok (.ifCond .ne 14, 3) := by decide +kernel
theorem dX10_choose_46 : decode cX10_choose 46 = .ok (.aload_n 0, 1) := by decide +kernel
theorem dX10_choose_47 : decode cX10_choose 47 = .ok (.getfield 28, 3) := by decide +kernel
theorem dX10_choose_50 : decode cX10_choose 50 = .ok (.aload_n 0, 1) := by decide +kernel
theorem dX10_choose_51 : decode cX10_choose 51 = .ok (.getfield 32, 3) := by decide +kernel
theorem dX10_choose_54 : decode cX10_choose 54 = .ok (.invokevirtual 102, 3) := by decide +kernel
theorem dX10_choose_57 : decode cX10_choose 57 = .ok (.iload_n 2, 1) := by decide +kernel
theorem dX10_choose_58 : decode cX10_choose 58 = .ok (.ireturn, 1) := by decide +kernel
theorem dX10_end_0 : decode cX10_end 0 = .ok (.aload_n 0, 1) := by decide +kernel
theorem dX10_end_1 : decode cX10_end 1 = .ok (.getfield 12, 3) := by decide +kernel
theorem dX10_end_4 : decode cX10_end 4 = .ok (.invokevirtual 55, 3) := by decide +kernel
theorem dX10_end_7 : decode cX10_end 7 = .ok (.istore_n 3, 1) := by decide +kernel
theorem dX10_end_8 : decode cX10_end 8 = .ok (.iload_n 1, 1) := by decide +kernel
theorem dX10_end_9 : decode cX10_end 9 = .ok (.ifCond .lt 8, 3) := by decide +kernel
theorem dX10_end_12 : decode cX10_end 12 = .ok (.iload_n 1, 1) := by decide +kernel
theorem dX10_end_13 : decode cX10_end 13 = .ok (.iload_n 3, 1) := by decide +kernel
theorem dX10_end_14 : decode cX10_end 14 = .ok (.if_icmp .le 5, 3) := by decide +kernel
theorem dX10_end_17 : decode cX10_end 17 = .ok (.iconst (-1), 1) := by decide +kernel
theorem dX10_end_18 : decode cX10_end 18 = .ok (.ireturn, 1) := by decide +kernel
theorem dX10_end_19 : decode cX10_end 19 = .ok (.iload_n 2, 1) := by decide +kernel
theorem dX10_end_20 : decode cX10_end 20 = .ok (.tableswitch 70 0 2 #[28, 37, 46], 28) := by decide +kernel
theorem dX10_end_48 : decode cX10_end 48 = .ok (.aload_n 0, 1) := by decide +kernel
theorem dX10_end_49 : decode cX10_end 49 = .ok (.getfield 28, 3) := by decide +kernel
theorem dX10_end_52 : decode cX10_end 52 = .ok (.iload_n 1, 1) := by decide +kernel
theorem dX10_end_53 : decode cX10_end 53 = .ok (.invokevirtual 110, 3) := by decide +kernel
theorem dX10_end_56 : decode cX10_end 56 = .ok (.ireturn, 1) := by decide +kernel
theorem dX10_end_57 : decode cX10_end 57 = .ok (.aload_n 0, 1) := by decide +kernel
theorem dX10_end_58 : decode cX10_end 58 = .ok (.getfield 28, 3) := by decide +kernel
theorem dX10_end_61 : decode cX10_end 61 = .ok (.iload_n 1, 1) := by decide +kernel
theorem dX10_end_62 : decode cX10_end 62 = .ok (.invokevirtual 113, 3) := by decide +kernel
theorem dX10_end_65 : decode cX10_end 65 = .ok (.ireturn, 1) := by decide +kernel
theorem dX10_end_66 : decode cX10_end 66 = .ok (.iload_n 1, 1) := by decide +kernel
theorem dX10_end_67 : decode cX10_end 67 = .ok (.iload_n 3, 1) := by decide +kernel
theorem dX10_end_68 : decode cX10_end 68 = .ok (.if_icmp .ne 13, 3) := by decide +kernel
theorem dX10_end_71 : decode cX10_end 71 = .ok (.aload_n 0, 1) := by decide +kernel
theorem dX10_end_72 : decode cX10_end 72 = .ok (.getfield 28, 3) := by decide +kernel
theorem dX10_end_75 : decode cX10_end 75 = .ok (.invokevirtual 116, 3) := by decide +kernel
theorem dX10_end_78 : decode cX10_end 78 = .ok (.goto 11, 3) := by decide +kernel
theorem dX10_end_81 : decode cX10_end 81 = .ok (.aload_n 0, 1) := by decide +kernel
theorem dX10_end_82 : decode cX10_end 82 = .ok (.getfield 28, 3) := by decide +kernel
theorem dX10_end_85 : decode cX10_end 85 = .ok (.iload_n 1, 1) := by decide +kernel
theorem dX10_end_86 : decode cX10_end 86 = .ok (.invokevirtual 119, 3) := by decide +kernel
theorem dX10_end_89 : decode cX10_end 89 = .ok (.ireturn, 1) := by decide +kernel
theorem dX10_end_90 : decode cX10_end 90 = .ok (.iconst (-1), 1) := by decide +kernel
theorem dX10_end_91 : decode cX10_end 91 = .ok (.ireturn, 1) := by decide +kernel
theorem dX10_letter_0 : decode cX10_letter 0 = .ok (.iload_n 1, 1) := by decide +kernel
theorem dX10_letter_1 : decode cX10_letter 1 = .ok (.ifCond .lt 14, 3) := by decide +kernel
theorem dX10_letter_4 : decode cX10_letter 4 = .ok (.iload_n 1, 1) := by decide +kernel
theorem dX10_letter_5 : decode cX10_letter 5 = .ok (.aload_n 0, 1) := by decide +kernel
theorem dX10_letter_6 : decode cX10_letter 6 = .ok (.getfield 28, 3) := by decide +kernel
theorem dX10_letter_9 : decode cX10_letter 9 = .ok (.invokevirtual 122, 3) := by decide +kernel
theorem dX10_letter_12 : decode cX10_letter 12 = .ok (.if_icmp .lt 5, 3) := by decide +kernel
theorem dX10_letter_15 : decode cX10_letter 15 = .ok (.iconst (-1), 1) := by decide +kernel
theorem dX10_letter_16 : decode cX10_letter 16 = .ok (.ireturn, 1) := by decide +kernel
theorem dX10_letter_17 : decode cX10_letter 17 = .ok (.aload_n 0, 1) := by decide +kernel
theorem dX10_letter_18 : decode cX10_letter 18 = .ok (.getfield 28, 3) := by decide +kernel
theorem dX10_letter_21 : decode cX10_letter 21 = .ok (.iload_n 1, 1) := by decide +kernel
theorem dX10_letter_22 : decode cX10_letter 22 = .ok (.invokevirtual 125, 3) := by decide +kernel
theorem dX10_letter_25 : decode cX10_letter 25 = .ok (.istore_n 3, 1) := by decide +kernel
theorem dX10_letter_26 : decode cX10_letter 26 = .ok (.iload_n 2, 1) := by decide +kernel
theorem dX10_letter_27 : decode cX10_letter 27 = .ok (.tableswitch 58 0 4 #[33, 38, 43, 48, 53], 33) := by decide +kernel
theorem dX10_letter_60 : decode cX10_letter 60 = .ok (.iload_n 3, 1) := by decide +kernel
theorem dX10_letter_61 : decode cX10_letter 61 = .ok (.invokestatic 128, 3) := by decide +kernel
theorem dX10_letter_64 : decode cX10_letter 64 = .ok (.ireturn, 1) := by decide +kernel
theorem dX10_letter_65 : decode cX10_letter 65 = .ok (.iload_n 3, 1) := by decide +kernel
theorem dX10_letter_66 : decode cX10_letter 66 = .ok (.invokestatic 133, 3) := by decide +kernel
theorem dX10_letter_69 : decode cX10_letter 69 = .ok (.ireturn, 1) := by decide +kernel
theorem dX10_letter_70 : decode cX10_letter 70 = .ok (.iload_n 3, 1) := by decide +kernel
theorem dX10_letter_71 : decode cX10_letter 71 = .ok (.invokestatic 136, 3) := by decide +kernel
theorem dX10_letter_74 : decode cX10_letter 74 = .ok (.ireturn, 1) := by decide +kernel
theorem dX10_letter_75 : decode cX10_letter 75 = .ok (.iload_n 3, 1) := by decide +kernel
theorem dX10_letter_76 : decode cX10_letter 76 = .ok (.invokestatic 139, 3) := by decide +kernel
theorem dX10_letter_79 : decode cX10_letter 79 = .ok (.ireturn, 1) := by decide +kernel
theorem dX10_letter_80 : decode cX10_letter 80 = .ok (.iload_n 3, 1) := by decide +kernel
theorem dX10_letter_81 : decode cX10_letter 81 = .ok (.invokestatic 142, 3) := by decide +kernel
theorem dX10_letter_84 : decode cX10_letter 84 = .ok (.ireturn, 1) := by decide +kernel
theorem dX10_letter_85 : decode cX10_letter 85 = .ok (.iconst (-1), 1) := by decide +kernel
theorem dX10_letter_86 : decode cX10_letter 86 = .ok (.ireturn, 1) := by decide +kernel
theorem dX10_now_0 : decode cX10_now 0 = .ok (.iload_n 1, 1) := by decide +kernel
theorem dX10_now_1 : decode cX10_now 1 = .ok (.tableswitch 90 0 3 #[31, 39, 51, 67], 31) := by decide +kernel
theorem dX10_now_32 : decode cX10_now 32 = .ok (.aload_n 0, 1) := by decide +kernel
theorem dX10_now_33 : decode cX10_now 33 = .ok (.getfield 28, 3) := by decide +kernel
theorem dX10_now_36 : decode cX10_now 36 = .ok (.invokevirtual 122, 3) := by decide +kernel
theorem dX10_now_39 : decode cX10_now 39 = .ok (.ireturn, 1) := by decide +kernel
theorem dX10_now_40 : decode cX10_now 40 = .ok (.aload_n 0, 1) := by decide +kernel
theorem dX10_now_41 : decode cX10_now 41 = .ok (.getfield 12, 3) := by decide +kernel
theorem dX10_now_44 : decode cX10_now 44 = .ok (.aload_n 0, 1) := by decide +kernel
theorem dX10_now_45 : decode cX10_now 45 = .ok (.getfield 28, 3) := by decide +kernel
theorem dX10_now_48 : decode cX10_now 48 = .ok (.invokevirtual 143, 3) := by decide +kernel
theorem dX10_now_51 : decode cX10_now 51 = .ok (.ireturn, 1) := by decide +kernel
theorem dX10_now_52 : decode cX10_now 52 = .ok (.aload_n 0, 1) := by decide +kernel
theorem dX10_now_53 : decode cX10_now 53 = .ok (.getfield 28, 3) := by decide +kernel
theorem dX10_now_56 : decode cX10_now 56 = .ok (.invokevirtual 147, 3) := by decide +kernel
theorem dX10_now_59 : decode cX10_now 59 = .ok (.ifCond .eq 7, 3) := by decide +kernel
theorem dX10_now_62 : decode cX10_now 62 = .ok (.iconst 1, 1) := by decide +kernel
theorem dX10_now_63 : decode cX10_now 63 = .ok (.goto 4, 3) := by decide +kernel
theorem dX10_now_66 : decode cX10_now 66 = .ok (.iconst 0, 1) := by decide +kernel
theorem dX10_now_67 : decode cX10_now 67 = .ok (.ireturn, 1) := by decide +kernel
theorem dX10_now_68 : decode cX10_now 68 = .ok (.aload_n 0, 1) := by decide +kernel
theorem dX10_now_69 : decode cX10_now 69 = .ok (.invokevirtual 90, 3) := by decide +kernel
theorem dX10_now_72 : decode cX10_now 72 = .ok (.ifCond .ne 17, 3) := by decide +kernel
theorem dX10_now_75 : decode cX10_now 75 = .ok (.aload_n 0, 1) := by decide +kernel
theorem dX10_now_76 : decode cX10_now 76 = .ok (.getfield 28, 3) := by decide +kernel
theorem dX10_now_79 : decode cX10_now 79 = .ok (.invokevirtual 147, 3) := by decide +kernel
theorem dX10_now_82 : decode cX10_now 82 = .ok (.ifCond .ne 7, 3) := by decide +kernel
theorem dX10_now_85 : decode cX10_now 85 = .ok (.iconst 1, 1) := by decide +kernel
theorem dX10_now_86 : decode cX10_now 86 = .ok (.goto 4, 3) := by decide +kernel
theorem dX10_now_89 : decode cX10_now 89 = .ok (.iconst 0, 1) := by decide +kernel
theorem dX10_now_90 : decode cX10_now 90 = .ok (.ireturn, 1) := by decide +kernel
theorem dX10_now_91 : decode cX10_now 91 = .ok (.iconst (-1), 1) := by decide +kernel
theorem dX10_now_92 : decode cX10_now 92 = .ok (.ireturn, 1) := by decide +kernel
theorem dX10_walk_0 : decode cX10_walk 0 = .ok (.iload_n 1, 1) := by decide +kernel
theorem dX10_walk_1 : decode cX10_walk 1 = .ok (.iconst 1, 1) := by decide +kernel
theorem dX10_walk_2 : decode cX10_walk 2 = .ok (.if_icmp .lt 10, 3) := by decide +kernel
theorem dX10_walk_5 : decode cX10_walk 5 = .ok (.iload_n 1, 1) := by decide +kernel
theorem dX10_walk_6 : decode cX10_walk 6 = .ok (.sipush 4000, 3) := by decide +kernel
theorem dX10_walk_9 : decode cX10_walk 9 = .ok (.if_icmp .le 5, 3) := by decide +kernel
theorem dX10_walk_12 : decode cX10_walk 12 = .ok (.iconst (-1), 1) := by decide +kernel
theorem dX10_walk_13 : decode cX10_walk 13 = .ok (.ireturn, 1) := by decide +kernel
theorem dX10_walk_14 : decode cX10_walk 14 = .ok (.aload_n 0, 1) := by decide +kernel
theorem dX10_walk_15 : decode cX10_walk 15 = .ok (.getfield 47, 3) := by decide +kernel
theorem dX10_walk_18 : decode cX10_walk 18 = .ok (.iload_n 1, 1) := by decide +kernel
theorem dX10_walk_19 : decode cX10_walk 19 = .ok (.invokevirtual 151, 3) := by decide +kernel
theorem dX10_walk_22 : decode cX10_walk 22 = .ok (.iconst 0, 1) := by decide +kernel
theorem dX10_walk_23 : decode cX10_walk 23 = .ok (.istore_n 2, 1) := by decide +kernel
theorem dX10_walk_24 : decode cX10_walk 24 = .ok (.iload_n 2, 1) := by decide +kernel
theorem dX10_walk_25 : decode cX10_walk 25 = .ok (.iload_n 1, 1) := by decide +kernel
theorem dX10_walk_26 : decode cX10_walk 26 = .ok (.if_icmp .ge 28, 3) := by decide +kernel
theorem dX10_walk_29 : decode cX10_walk 29 = .ok (.iload_n 2, 1) := by decide +kernel
theorem dX10_walk_30 : decode cX10_walk 30 = .ok (.aload_n 0, 1) := by decide +kernel
theorem dX10_walk_31 : decode cX10_walk 31 = .ok (.getfield 47, 3) := by decide +kernel
theorem dX10_walk_34 : decode cX10_walk 34 = .ok (.invokevirtual 152, 3) := by decide +kernel
theorem dX10_walk_37 : decode cX10_walk 37 = .ok (.if_icmp .ge 17, 3) := by decide +kernel
theorem dX10_walk_40 : decode cX10_walk 40 = .ok (.aload_n 0, 1) := by decide +kernel
theorem dX10_walk_41 : decode cX10_walk 41 = .ok (.getfield 47, 3) := by decide +kernel
theorem dX10_walk_44 : decode cX10_walk 44 = .ok (.iload_n 2, 1) := by decide +kernel
theorem dX10_walk_45 : decode cX10_walk 45 = .ok (.invokevirtual 155, 3) := by decide +kernel
theorem dX10_walk_48 : decode cX10_walk 48 = .ok (.iinc 2 1, 3) := by decide +kernel
theorem dX10_walk_51 : decode cX10_walk 51 = .ok (.goto (-27), 3) := by decide +kernel
theorem dX10_walk_54 : decode cX10_walk 54 = .ok (.aload_n 0, 1) := by decide +kernel
theorem dX10_walk_55 : decode cX10_walk 55 = .ok (.getfield 47, 3) := by decide +kernel
theorem dX10_walk_58 : decode cX10_walk 58 = .ok (.invokevirtual 158, 3) := by decide +kernel
theorem dX10_walk_61 : decode cX10_walk 61 = .ok (.aload_n 0, 1) := by decide +kernel
theorem dX10_walk_62 : decode cX10_walk 62 = .ok (.iconst 1, 1) := by decide +kernel
theorem dX10_walk_63 : decode cX10_walk 63 = .ok (.putfield 51, 3) := by decide +kernel
theorem dX10_walk_66 : decode cX10_walk 66 = .ok (.aload_n 0, 1) := by decide +kernel
theorem dX10_walk_67 : decode cX10_walk 67 = .ok (.getfield 47, 3) := by decide +kernel
theorem dX10_walk_70 : decode cX10_walk 70 = .ok (.invokevirtual 152, 3) := by decide +kernel
theorem dX10_walk_73 : decode cX10_walk 73 = .ok (.istore_n 2, 1) := by decide +kernel
theorem dX10_walk_74 : decode cX10_walk 74 = .ok (.aload_n 0, 1) := by decide +kernel
theorem dX10_walk_75 : decode cX10_walk 75 = .ok (.getfield 47, 3) := by decide +kernel
theorem dX10_walk_78 : decode cX10_walk 78 = .ok (.invokevirtual 161, 3) := by decide +kernel
theorem dX10_walk_81 : decode cX10_walk 81 = .ok (.ifCond .eq 10, 3) := by decide +kernel
theorem dX10_walk_84 : decode cX10_walk 84 = .ok (.iload_n 2, 1) := by decide +kernel
theorem dX10_walk_85 : decode cX10_walk 85 = .ok (.ineg, 1) := by decide +kernel
theorem dX10_walk_86 : decode cX10_walk 86 = .ok (.iconst 1, 1) := by decide +kernel
theorem dX10_walk_87 : decode cX10_walk 87 = .ok (.isub, 1) := by decide +kernel
theorem dX10_walk_88 : decode cX10_walk 88 = .ok (.goto 4, 3) := by decide +kernel
theorem dX10_walk_91 : decode cX10_walk 91 = .ok (.iload_n 2, 1) := by decide +kernel
theorem dX10_walk_92 : decode cX10_walk 92 = .ok (.ireturn, 1) := by decide +kernel
theorem dX10_walked_0 : decode cX10_walked 0 = .ok (.aload_n 0, 1) := by decide +kernel
theorem dX10_walked_1 : decode cX10_walked 1 = .ok (.getfield 47, 3) := by decide +kernel
theorem dX10_walked_4 : decode cX10_walked 4 = .ok (.iload_n 1, 1) := by decide +kernel
theorem dX10_walked_5 : decode cX10_walked 5 = .ok (.invokevirtual 164, 3) := by decide +kernel
theorem dX10_walked_8 : decode cX10_walked 8 = .ok (.ireturn, 1) := by decide +kernel
theorem dX10_bad_0 : decode cX10_bad 0 = .ok (.aload_n 0, 1) := by decide +kernel
theorem dX10_bad_1 : decode cX10_bad 1 = .ok (.getfield 47, 3) := by decide +kernel
theorem dX10_bad_4 : decode cX10_bad 4 = .ok (.iload_n 1, 1) := by decide +kernel
theorem dX10_bad_5 : decode cX10_bad 5 = .ok (.iload_n 2, 1) := by decide +kernel
theorem dX10_bad_6 : decode cX10_bad 6 = .ok (.invokevirtual 167, 3) := by decide +kernel
theorem dX10_bad_9 : decode cX10_bad 9 = .ok (.ireturn, 1) := by decide +kernel
theorem dX10_found_0 : decode cX10_found 0 = .ok (.iload_n 1, 1) := by decide +kernel
theorem dX10_found_1 : decode cX10_found 1 = .ok (.lookupswitch 45 #[(0, 27), (1, 36)], 27) := by decide +kernel
theorem dX10_found_28 : decode cX10_found 28 = .ok (.aload_n 0, 1) := by decide +kernel
theorem dX10_found_29 : decode cX10_found 29 = .ok (.getfield 47, 3) := by decide +kernel
theorem dX10_found_32 : decode cX10_found 32 = .ok (.iload_n 2, 1) := by decide +kernel
theorem dX10_found_33 : decode cX10_found 33 = .ok (.invokevirtual 170, 3) := by decide +kernel
theorem dX10_found_36 : decode cX10_found 36 = .ok (.ireturn, 1) := by decide +kernel
theorem dX10_found_37 : decode cX10_found 37 = .ok (.aload_n 0, 1) := by decide +kernel
theorem dX10_found_38 : decode cX10_found 38 = .ok (.getfield 47, 3) := by decide +kernel
theorem dX10_found_41 : decode cX10_found 41 = .ok (.iload_n 2, 1) := by decide +kernel
theorem dX10_found_42 : decode cX10_found 42 = .ok (.invokevirtual 173, 3) := by decide +kernel
theorem dX10_found_45 : decode cX10_found 45 = .ok (.ireturn, 1) := by decide +kernel
theorem dX10_found_46 : decode cX10_found 46 = .ok (.iconst (-1), 1) := by decide +kernel
theorem dX10_found_47 : decode cX10_found 47 = .ok (.ireturn, 1) := by decide +kernel
theorem dX10_far_0 : decode cX10_far 0 = .ok (.aload_n 0, 1) := by decide +kernel
theorem dX10_far_1 : decode cX10_far 1 = .ok (.getfield 47, 3) := by decide +kernel
theorem dX10_far_4 : decode cX10_far 4 = .ok (.iload_n 1, 1) := by decide +kernel
theorem dX10_far_5 : decode cX10_far 5 = .ok (.invokevirtual 176, 3) := by decide +kernel
theorem dX10_far_8 : decode cX10_far 8 = .ok (.ifCond .eq 14, 3) := by decide +kernel
theorem dX10_far_11 : decode cX10_far 11 = .ok (.aload_n 0, 1) := by decide +kernel
theorem dX10_far_12 : decode cX10_far 12 = .ok (.getfield 47, 3) := by decide +kernel
theorem dX10_far_15 : decode cX10_far 15 = .ok (.iload_n 1, 1) := by decide +kernel
theorem dX10_far_16 : decode cX10_far 16 = .ok (.invokevirtual 180, 3) := by decide +kernel
theorem dX10_far_19 : decode cX10_far 19 = .ok (.goto 4, 3) := by decide +kernel
theorem dX10_far_22 : decode cX10_far 22 = .ok (.iconst (-1), 1) := by decide +kernel
theorem dX10_far_23 : decode cX10_far 23 = .ok (.ireturn, 1) := by decide +kernel
theorem dX10_way_0 : decode cX10_way 0 = .ok (.aload_n 0, 1) := by decide +kernel
theorem dX10_way_1 : decode cX10_way 1 = .ok (.getfield 47, 3) := by decide +kernel
theorem dX10_way_4 : decode cX10_way 4 = .ok (.iload_n 1, 1) := by decide +kernel
theorem dX10_way_5 : decode cX10_way 5 = .ok (.invokevirtual 176, 3) := by decide +kernel
theorem dX10_way_8 : decode cX10_way 8 = .ok (.ifCond .eq 19, 3) := by decide +kernel
theorem dX10_way_11 : decode cX10_way 11 = .ok (.iload_n 2, 1) := by decide +kernel
theorem dX10_way_12 : decode cX10_way 12 = .ok (.ifCond .lt 15, 3) := by decide +kernel
theorem dX10_way_15 : decode cX10_way 15 = .ok (.iload_n 2, 1) := by decide +kernel
theorem dX10_way_16 : decode cX10_way 16 = .ok (.aload_n 0, 1) := by decide +kernel
theorem dX10_way_17 : decode cX10_way 17 = .ok (.getfield 47, 3) := by decide +kernel
theorem dX10_way_20 : decode cX10_way 20 = .ok (.iload_n 1, 1) := by decide +kernel
theorem dX10_way_21 : decode cX10_way 21 = .ok (.invokevirtual 180, 3) := by decide +kernel
theorem dX10_way_24 : decode cX10_way 24 = .ok (.if_icmp .lt 5, 3) := by decide +kernel
theorem dX10_way_27 : decode cX10_way 27 = .ok (.iconst (-1), 1) := by decide +kernel
theorem dX10_way_28 : decode cX10_way 28 = .ok (.ireturn, 1) := by decide +kernel
theorem dX10_way_29 : decode cX10_way 29 = .ok (.aload_n 0, 1) := by decide +kernel
theorem dX10_way_30 : decode cX10_way 30 = .ok (.getfield 47, 3) := by decide +kernel
theorem dX10_way_33 : decode cX10_way 33 = .ok (.iload_n 1, 1) := by decide +kernel
theorem dX10_way_34 : decode cX10_way 34 = .ok (.iload_n 2, 1) := by decide +kernel
theorem dX10_way_35 : decode cX10_way 35 = .ok (.invokevirtual 183, 3) := by decide +kernel
theorem dX10_way_38 : decode cX10_way 38 = .ok (.ireturn, 1) := by decide +kernel
theorem dX10_go_0 : decode cX10_go 0 = .ok (.aload_n 0, 1) := by decide +kernel
theorem dX10_go_1 : decode cX10_go 1 = .ok (.getfield 51, 3) := by decide +kernel
theorem dX10_go_4 : decode cX10_go 4 = .ok (.ifCond .eq 14, 3) := by decide +kernel
theorem dX10_go_7 : decode cX10_go 7 = .ok (.aload_n 0, 1) := by decide +kernel
theorem dX10_go_8 : decode cX10_go 8 = .ok (.getfield 47, 3) := by decide +kernel
theorem dX10_go_11 : decode cX10_go 11 = .ok (.iload_n 1, 1) := by decide +kernel
theorem dX10_go_12 : decode cX10_go 12 = .ok (.invokevirtual 176, 3) := by decide +kernel
theorem dX10_go_15 : decode cX10_go 15 = .ok (.ifCond .ne 5, 3) := by decide +kernel
theorem dX10_go_18 : decode cX10_go 18 = .ok (.iconst (-1), 1) := by decide +kernel
theorem dX10_go_19 : decode cX10_go 19 = .ok (.ireturn, 1) := by decide +kernel
theorem dX10_go_20 : decode cX10_go 20 = .ok (.aload_n 0, 1) := by decide +kernel
theorem dX10_go_21 : decode cX10_go 21 = .ok (.getfield 47, 3) := by decide +kernel
theorem dX10_go_24 : decode cX10_go 24 = .ok (.iload_n 1, 1) := by decide +kernel
theorem dX10_go_25 : decode cX10_go 25 = .ok (.aload_n 0, 1) := by decide +kernel
theorem dX10_go_26 : decode cX10_go 26 = .ok (.getfield 28, 3) := by decide +kernel
theorem dX10_go_29 : decode cX10_go 29 = .ok (.invokevirtual 186, 3) := by decide +kernel
theorem dX10_go_32 : decode cX10_go 32 = .ok (.aload_n 0, 1) := by decide +kernel
theorem dX10_go_33 : decode cX10_go 33 = .ok (.invokevirtual 90, 3) := by decide +kernel
theorem dX10_go_36 : decode cX10_go 36 = .ok (.ireturn, 1) := by decide +kernel
theorem dX10_number_0 : decode cX10_number 0 = .ok (.aload_n 0, 1) := by decide +kernel
theorem dX10_number_1 : decode cX10_number 1 = .ok (.getfield 51, 3) := by decide +kernel
theorem dX10_number_4 : decode cX10_number 4 = .ok (.ifCond .eq 17, 3) := by decide +kernel
theorem dX10_number_7 : decode cX10_number 7 = .ok (.aload_n 0, 1) := by decide +kernel
theorem dX10_number_8 : decode cX10_number 8 = .ok (.getfield 47, 3) := by decide +kernel
theorem dX10_number_11 : decode cX10_number 11 = .ok (.aload_n 0, 1) := by decide +kernel
theorem dX10_number_12 : decode cX10_number 12 = .ok (.getfield 28, 3) := by decide +kernel
theorem dX10_number_15 : decode cX10_number 15 = .ok (.invokevirtual 190, 3) := by decide +kernel
theorem dX10_number_18 : decode cX10_number 18 = .ok (.goto 4, 3) := by decide +kernel
theorem dX10_number_21 : decode cX10_number 21 = .ok (.iconst (-1), 1) := by decide +kernel
theorem dX10_number_22 : decode cX10_number 22 = .ok (.ireturn, 1) := by decide +kernel
theorem dX10_used_0 : decode cX10_used 0 = .ok (.iload_n 1, 1) := by decide +kernel
theorem dX10_used_1 : decode cX10_used 1 = .ok (.invokestatic 77, 3) := by decide +kernel
theorem dX10_used_4 : decode cX10_used 4 = .ok (.istore_n 2, 1) := by decide +kernel
theorem dX10_used_5 : decode cX10_used 5 = .ok (.iload_n 2, 1) := by decide +kernel
theorem dX10_used_6 : decode cX10_used 6 = .ok (.iconst (-1), 1) := by decide +kernel
theorem dX10_used_7 : decode cX10_used 7 = .ok (.if_icmp .eq 14, 3) := by decide +kernel
theorem dX10_used_10 : decode cX10_used 10 = .ok (.aload_n 0, 1) := by decide +kernel
theorem dX10_used_11 : decode cX10_used 11 = .ok (.getfield 12, 3) := by decide +kernel
theorem dX10_used_14 : decode cX10_used 14 = .ok (.iload_n 2, 1) := by decide +kernel
theorem dX10_used_15 : decode cX10_used 15 = .ok (.invokevirtual 193, 3) := by decide +kernel
theorem dX10_used_18 : decode cX10_used 18 = .ok (.ifCond .ne 5, 3) := by decide +kernel
theorem dX10_used_21 : decode cX10_used 21 = .ok (.iconst (-1), 1) := by decide +kernel
theorem dX10_used_22 : decode cX10_used 22 = .ok (.ireturn, 1) := by decide +kernel
theorem dX10_used_23 : decode cX10_used 23 = .ok (.aload_n 0, 1) := by decide +kernel
theorem dX10_used_24 : decode cX10_used 24 = .ok (.getfield 47, 3) := by decide +kernel
theorem dX10_used_27 : decode cX10_used 27 = .ok (.iload_n 2, 1) := by decide +kernel
theorem dX10_used_28 : decode cX10_used 28 = .ok (.invokevirtual 196, 3) := by decide +kernel
theorem dX10_used_31 : decode cX10_used 31 = .ok (.ireturn, 1) := by decide +kernel
theorem dX10_beginAnew_0 : decode cX10_beginAnew 0 = .ok (.aload_n 0, 1) := by decide +kernel
theorem dX10_beginAnew_1 : decode cX10_beginAnew 1 = .ok (.getfield 28, 3) := by decide +kernel
theorem dX10_beginAnew_4 : decode cX10_beginAnew 4 = .ok (.aload_n 0, 1) := by decide +kernel
theorem dX10_beginAnew_5 : decode cX10_beginAnew 5 = .ok (.getfield 12, 3) := by decide +kernel
theorem dX10_beginAnew_8 : decode cX10_beginAnew 8 = .ok (.invokevirtual 55, 3) := by decide +kernel
theorem dX10_beginAnew_11 : decode cX10_beginAnew 11 = .ok (.invokevirtual 59, 3) := by decide +kernel
theorem dX10_beginAnew_14 : decode cX10_beginAnew 14 = .ok (.aload_n 0, 1) := by decide +kernel
theorem dX10_beginAnew_15 : decode cX10_beginAnew 15 = .ok (.iconst 0, 1) := by decide +kernel
theorem dX10_beginAnew_16 : decode cX10_beginAnew 16 = .ok (.putfield 51, 3) := by decide +kernel
theorem dX10_beginAnew_19 : decode cX10_beginAnew 19 = .ok (.return_, 1) := by decide +kernel
theorem dX10_countChoices_0 : decode cX10_countChoices 0 = .ok (.aload_n 0, 1) := by decide +kernel
theorem dX10_countChoices_1 : decode cX10_countChoices 1 = .ok (.getfield 38, 3) := by decide +kernel
theorem dX10_countChoices_4 : decode cX10_countChoices 4 = .ok (.aload_n 0, 1) := by decide +kernel
theorem dX10_countChoices_5 : decode cX10_countChoices 5 = .ok (.getfield 28, 3) := by decide +kernel
theorem dX10_countChoices_8 : decode cX10_countChoices 8 = .ok (.invokevirtual 199, 3) := by decide +kernel
theorem dX10_countChoices_11 : decode cX10_countChoices 11 = .ok (.aload_n 0, 1) := by decide +kernel
theorem dX10_countChoices_12 : decode cX10_countChoices 12 = .ok (.getfield 38, 3) := by decide +kernel
theorem dX10_countChoices_15 : decode cX10_countChoices 15 = .ok (.invokevirtual 202, 3) := by decide +kernel
theorem dX10_countChoices_18 : decode cX10_countChoices 18 = .ok (.ireturn, 1) := by decide +kernel
theorem dX10_placeOf_0 : decode cX10_placeOf 0 = .ok (.iload_n 0, 1) := by decide +kernel
theorem dX10_placeOf_1 : decode cX10_placeOf 1 = .ok (.ifCond .ge 5, 3) := by decide +kernel
theorem dX10_placeOf_4 : decode cX10_placeOf 4 = .ok (.iconst (-1), 1) := by decide +kernel
theorem dX10_placeOf_5 : decode cX10_placeOf 5 = .ok (.ireturn, 1) := by decide +kernel
theorem dX10_placeOf_6 : decode cX10_placeOf 6 = .ok (.iload_n 0, 1) := by decide +kernel
theorem dX10_placeOf_7 : decode cX10_placeOf 7 = .ok (.iconst 4, 1) := by decide +kernel
theorem dX10_placeOf_8 : decode cX10_placeOf 8 = .ok (.ishr, 1) := by decide +kernel
theorem dX10_placeOf_9 : decode cX10_placeOf 9 = .ok (.istore_n 1, 1) := by decide +kernel
theorem dX10_placeOf_10 : decode cX10_placeOf 10 = .ok (.iload_n 1, 1) := by decide +kernel
theorem dX10_placeOf_11 : decode cX10_placeOf 11 = .ok (.sipush 2048, 3) := by decide +kernel
theorem dX10_placeOf_14 : decode cX10_placeOf 14 = .ok (.if_icmp .lt 5, 3) := by decide +kernel
theorem dX10_placeOf_17 : decode cX10_placeOf 17 = .ok (.iconst (-1), 1) := by decide +kernel
theorem dX10_placeOf_18 : decode cX10_placeOf 18 = .ok (.ireturn, 1) := by decide +kernel
theorem dX10_placeOf_19 : decode cX10_placeOf 19 = .ok (.iload_n 1, 1) := by decide +kernel
theorem dX10_placeOf_20 : decode cX10_placeOf 20 = .ok (.bipush 64, 2) := by decide +kernel
theorem dX10_placeOf_22 : decode cX10_placeOf 22 = .ok (.irem, 1) := by decide +kernel
theorem dX10_placeOf_23 : decode cX10_placeOf 23 = .ok (.istore_n 2, 1) := by decide +kernel
theorem dX10_placeOf_24 : decode cX10_placeOf 24 = .ok (.iload_n 1, 1) := by decide +kernel
theorem dX10_placeOf_25 : decode cX10_placeOf 25 = .ok (.invokestatic 205, 3) := by decide +kernel
theorem dX10_placeOf_28 : decode cX10_placeOf 28 = .ok (.ifCond .ne 8, 3) := by decide +kernel
theorem dX10_placeOf_31 : decode cX10_placeOf 31 = .ok (.bipush 19, 2) := by decide +kernel
theorem dX10_placeOf_33 : decode cX10_placeOf 33 = .ok (.goto 5, 3) := by decide +kernel
theorem dX10_placeOf_36 : decode cX10_placeOf 36 = .ok (.bipush 32, 2) := by decide +kernel
theorem dX10_placeOf_38 : decode cX10_placeOf 38 = .ok (.istore_n 3, 1) := by decide +kernel
theorem dX10_placeOf_39 : decode cX10_placeOf 39 = .ok (.iload_n 2, 1) := by decide +kernel
theorem dX10_placeOf_40 : decode cX10_placeOf 40 = .ok (.iload_n 3, 1) := by decide +kernel
theorem dX10_placeOf_41 : decode cX10_placeOf 41 = .ok (.if_icmp .ge 7, 3) := by decide +kernel
theorem dX10_placeOf_44 : decode cX10_placeOf 44 = .ok (.iload_n 1, 1) := by decide +kernel
theorem dX10_placeOf_45 : decode cX10_placeOf 45 = .ok (.goto 4, 3) := by decide +kernel
theorem dX10_placeOf_48 : decode cX10_placeOf 48 = .ok (.iconst (-1), 1) := by decide +kernel
theorem dX10_placeOf_49 : decode cX10_placeOf 49 = .ok (.ireturn, 1) := by decide +kernel
theorem dX10_sideOf_0 : decode cX10_sideOf 0 = .ok (.iload_n 0, 1) := by decide +kernel
theorem dX10_sideOf_1 : decode cX10_sideOf 1 = .ok (.sipush 1024, 3) := by decide +kernel
theorem dX10_sideOf_4 : decode cX10_sideOf 4 = .ok (.if_icmp .ge 7, 3) := by decide +kernel
theorem dX10_sideOf_7 : decode cX10_sideOf 7 = .ok (.iconst 0, 1) := by decide +kernel
theorem dX10_sideOf_8 : decode cX10_sideOf 8 = .ok (.goto 4, 3) := by decide +kernel
theorem dX10_sideOf_11 : decode cX10_sideOf 11 = .ok (.iconst 1, 1) := by decide +kernel
theorem dX10_sideOf_12 : decode cX10_sideOf 12 = .ok (.ireturn, 1) := by decide +kernel
theorem dJ7_fill_53178_0 : decode cJ7_fill_53178 0 = .ok (.iconst 0, 1) := by decide +kernel
theorem dJ7_fill_53178_1 : decode cJ7_fill_53178 1 = .ok (.istore_n 2, 1) := by decide +kernel
theorem dJ7_fill_53178_2 : decode cJ7_fill_53178 2 = .ok (.aload_n 0, 1) := by decide +kernel
theorem dJ7_fill_53178_3 : decode cJ7_fill_53178 3 = .ok (.arraylength, 1) := by decide +kernel
theorem dJ7_fill_53178_4 : decode cJ7_fill_53178 4 = .ok (.istore_n 3, 1) := by decide +kernel
theorem dJ7_fill_53178_5 : decode cJ7_fill_53178 5 = .ok (.iload_n 2, 1) := by decide +kernel
theorem dJ7_fill_53178_6 : decode cJ7_fill_53178 6 = .ok (.iload_n 3, 1) := by decide +kernel
theorem dJ7_fill_53178_7 : decode cJ7_fill_53178 7 = .ok (.if_icmp .ge 13, 3) := by decide +kernel
theorem dJ7_fill_53178_10 : decode cJ7_fill_53178 10 = .ok (.aload_n 0, 1) := by decide +kernel
theorem dJ7_fill_53178_11 : decode cJ7_fill_53178 11 = .ok (.iload_n 2, 1) := by decide +kernel
theorem dJ7_fill_53178_12 : decode cJ7_fill_53178 12 = .ok (.iload_n 1, 1) := by decide +kernel
theorem dJ7_fill_53178_13 : decode cJ7_fill_53178 13 = .ok (.iastore, 1) := by decide +kernel
theorem dJ7_fill_53178_14 : decode cJ7_fill_53178 14 = .ok (.iinc 2 1, 3) := by decide +kernel
theorem dJ7_fill_53178_17 : decode cJ7_fill_53178 17 = .ok (.goto (-12), 3) := by decide +kernel
theorem dJ7_fill_53178_20 : decode cJ7_fill_53178 20 = .ok (.return_, 1) := by decide +kernel
end
section
theorem dX11_init_0 : decode cX11_init 0 = .ok (.aload_n 0, 1) := by decide +kernel
theorem dX11_init_1 : decode cX11_init 1 = .ok (.invokespecial 1, 3) := by decide +kernel
theorem dX11_init_4 : decode cX11_init 4 = .ok (.aload_n 0, 1) := by decide +kernel
theorem dX11_init_5 : decode cX11_init 5 = .ok (.iconst 2, 1) := by decide +kernel
theorem dX11_init_6 : decode cX11_init 6 = .ok (.putfield 7, 3) := by decide +kernel
theorem dX11_init_9 : decode cX11_init 9 = .ok (.aload_n 0, 1) := by decide +kernel
theorem dX11_init_10 : decode cX11_init 10 = .ok (.bipush 16, 2) := by decide +kernel
theorem dX11_init_12 : decode cX11_init 12 = .ok (.newarray .int, 2) := by decide +kernel
theorem dX11_init_14 : decode cX11_init 14 = .ok (.putfield 13, 3) := by decide +kernel
theorem dX11_init_17 : decode cX11_init 17 = .ok (.aload_n 0, 1) := by decide +kernel
theorem dX11_init_18 : decode cX11_init 18 = .ok (.bipush 16, 2) := by decide +kernel
theorem dX11_init_20 : decode cX11_init 20 = .ok (.newarray .int, 2) := by decide +kernel
theorem dX11_init_22 : decode cX11_init 22 = .ok (.putfield 17, 3) := by decide +kernel
theorem dX11_init_25 : decode cX11_init 25 = .ok (.aload_n 0, 1) := by decide +kernel
theorem dX11_init_26 : decode cX11_init 26 = .ok (.sipush 2048, 3) := by decide +kernel
theorem dX11_init_29 : decode cX11_init 29 = .ok (.newarray .int, 2) := by decide +kernel
theorem dX11_init_31 : decode cX11_init 31 = .ok (.putfield 20, 3) := by decide +kernel
theorem dX11_init_34 : decode cX11_init 34 = .ok (.aload_n 0, 1) := by decide +kernel
theorem dX11_init_35 : decode cX11_init 35 = .ok (.sipush 16384, 3) := by decide +kernel
theorem dX11_init_38 : decode cX11_init 38 = .ok (.newarray .int, 2) := by decide +kernel
theorem dX11_init_40 : decode cX11_init 40 = .ok (.putfield 23, 3) := by decide +kernel
theorem dX11_init_43 : decode cX11_init 43 = .ok (.aload_n 0, 1) := by decide +kernel
theorem dX11_init_44 : decode cX11_init 44 = .ok (.sipush 2048, 3) := by decide +kernel
theorem dX11_init_47 : decode cX11_init 47 = .ok (.newarray .boolean, 2) := by decide +kernel
theorem dX11_init_49 : decode cX11_init 49 = .ok (.putfield 26, 3) := by decide +kernel
theorem dX11_init_52 : decode cX11_init 52 = .ok (.aload_n 0, 1) := by decide +kernel
theorem dX11_init_53 : decode cX11_init 53 = .ok (.bipush 56, 2) := by decide +kernel
theorem dX11_init_55 : decode cX11_init 55 = .ok (.newarray .int, 2) := by decide +kernel
theorem dX11_init_57 : decode cX11_init 57 = .ok (.putfield 30, 3) := by decide +kernel
theorem dX11_init_60 : decode cX11_init 60 = .ok (.aload_n 0, 1) := by decide +kernel
theorem dX11_init_61 : decode cX11_init 61 = .ok (.bipush 56, 2) := by decide +kernel
theorem dX11_init_63 : decode cX11_init 63 = .ok (.newarray .int, 2) := by decide +kernel
theorem dX11_init_65 : decode cX11_init 65 = .ok (.putfield 33, 3) := by decide +kernel
theorem dX11_init_68 : decode cX11_init 68 = .ok (.aload_n 0, 1) := by decide +kernel
theorem dX11_init_69 : decode cX11_init 69 = .ok (.bipush 56, 2) := by decide +kernel
theorem dX11_init_71 : decode cX11_init 71 = .ok (.newarray .int, 2) := by decide +kernel
theorem dX11_init_73 : decode cX11_init 73 = .ok (.putfield 36, 3) := by decide +kernel
theorem dX11_init_76 : decode cX11_init 76 = .ok (.aload_n 0, 1) := by decide +kernel
theorem dX11_init_77 : decode cX11_init 77 = .ok (.bipush 20, 2) := by decide +kernel
theorem dX11_init_79 : decode cX11_init 79 = .ok (.newarray .int, 2) := by decide +kernel
theorem dX11_init_81 : decode cX11_init 81 = .ok (.putfield 39, 3) := by decide +kernel
theorem dX11_init_84 : decode cX11_init 84 = .ok (.aload_n 0, 1) := by decide +kernel
theorem dX11_init_85 : decode cX11_init 85 = .ok (.bipush 20, 2) := by decide +kernel
theorem dX11_init_87 : decode cX11_init 87 = .ok (.newarray .int, 2) := by decide +kernel
theorem dX11_init_89 : decode cX11_init 89 = .ok (.putfield 42, 3) := by decide +kernel
theorem dX11_init_92 : decode cX11_init 92 = .ok (.aload_n 0, 1) := by decide +kernel
theorem dX11_init_93 : decode cX11_init 93 = .ok (.bipush 20, 2) := by decide +kernel
theorem dX11_init_95 : decode cX11_init 95 = .ok (.newarray .int, 2) := by decide +kernel
theorem dX11_init_97 : decode cX11_init 97 = .ok (.putfield 45, 3) := by decide +kernel
theorem dX11_init_100 : decode cX11_init 100 = .ok (.aload_n 0, 1) := by decide +kernel
theorem dX11_init_101 : decode cX11_init 101 = .ok (.bipush 20, 2) := by decide +kernel
theorem dX11_init_103 : decode cX11_init 103 = .ok (.newarray .int, 2) := by decide +kernel
theorem dX11_init_105 : decode cX11_init 105 = .ok (.putfield 48, 3) := by decide +kernel
theorem dX11_init_108 : decode cX11_init 108 = .ok (.aload_n 0, 1) := by decide +kernel
theorem dX11_init_109 : decode cX11_init 109 = .ok (.ldc 51, 2) := by decide +kernel
theorem dX11_init_111 : decode cX11_init 111 = .ok (.newarray .int, 2) := by decide +kernel
theorem dX11_init_113 : decode cX11_init 113 = .ok (.putfield 52, 3) := by decide +kernel
theorem dX11_init_116 : decode cX11_init 116 = .ok (.aload_n 0, 1) := by decide +kernel
theorem dX11_init_117 : decode cX11_init 117 = .ok (.sipush 4000, 3) := by decide +kernel
theorem dX11_init_120 : decode cX11_init 120 = .ok (.newarray .long, 2) := by decide +kernel
theorem dX11_init_122 : decode cX11_init 122 = .ok (.putfield 55, 3) := by decide +kernel
theorem dX11_init_125 : decode cX11_init 125 = .ok (.aload_n 0, 1) := by decide +kernel
theorem dX11_init_126 : decode cX11_init 126 = .ok (.sipush 4000, 3) := by decide +kernel
theorem dX11_init_129 : decode cX11_init 129 = .ok (.newarray .int, 2) := by decide +kernel
theorem dX11_init_131 : decode cX11_init 131 = .ok (.putfield 59, 3) := by decide +kernel
theorem dX11_init_134 : decode cX11_init 134 = .ok (.aload_n 0, 1) := by decide +kernel
theorem dX11_init_135 : decode cX11_init 135 = .ok (.sipush 4000, 3) := by decide +kernel
theorem dX11_init_138 : decode cX11_init 138 = .ok (.newarray .int, 2) := by decide +kernel
theorem dX11_init_140 : decode cX11_init 140 = .ok (.putfield 62, 3) := by decide +kernel
theorem dX11_init_143 : decode cX11_init 143 = .ok (.aload_n 0, 1) := by decide +kernel
theorem dX11_init_144 : decode cX11_init 144 = .ok (.sipush 4000, 3) := by decide +kernel
theorem dX11_init_147 : decode cX11_init 147 = .ok (.newarray .int, 2) := by decide +kernel
theorem dX11_init_149 : decode cX11_init 149 = .ok (.putfield 65, 3) := by decide +kernel
theorem dX11_init_152 : decode cX11_init 152 = .ok (.aload_n 0, 1) := by decide +kernel
theorem dX11_init_153 : decode cX11_init 153 = .ok (.ldc 68, 2) := by decide +kernel
theorem dX11_init_155 : decode cX11_init 155 = .ok (.newarray .int, 2) := by decide +kernel
theorem dX11_init_157 : decode cX11_init 157 = .ok (.putfield 69, 3) := by decide +kernel
theorem dX11_init_160 : decode cX11_init 160 = .ok (.aload_n 0, 1) := by decide +kernel
theorem dX11_init_161 : decode cX11_init 161 = .ok (.sipush 4000, 3) := by decide +kernel
theorem dX11_init_164 : decode cX11_init 164 = .ok (.newarray .boolean, 2) := by decide +kernel
theorem dX11_init_166 : decode cX11_init 166 = .ok (.putfield 72, 3) := by decide +kernel
theorem dX11_init_169 : decode cX11_init 169 = .ok (.aload_n 0, 1) := by decide +kernel
theorem dX11_init_170 : decode cX11_init 170 = .ok (.sipush 4000, 3) := by decide +kernel
theorem dX11_init_173 : decode cX11_init 173 = .ok (.newarray .boolean, 2) := by decide +kernel
theorem dX11_init_175 : decode cX11_init 175 = .ok (.putfield 75, 3) := by decide +kernel
theorem dX11_init_178 : decode cX11_init 178 = .ok (.aload_n 0, 1) := by decide +kernel
theorem dX11_init_179 : decode cX11_init 179 = .ok (.sipush 200, 3) := by decide +kernel
theorem dX11_init_182 : decode cX11_init 182 = .ok (.newarray .int, 2) := by decide +kernel
theorem dX11_init_184 : decode cX11_init 184 = .ok (.putfield 78, 3) := by decide +kernel
theorem dX11_init_187 : decode cX11_init 187 = .ok (.aload_n 0, 1) := by decide +kernel
theorem dX11_init_188 : decode cX11_init 188 = .ok (.sipush 200, 3) := by decide +kernel
theorem dX11_init_191 : decode cX11_init 191 = .ok (.newarray .int, 2) := by decide +kernel
theorem dX11_init_193 : decode cX11_init 193 = .ok (.putfield 81, 3) := by decide +kernel
theorem dX11_init_196 : decode cX11_init 196 = .ok (.aload_n 0, 1) := by decide +kernel
theorem dX11_init_197 : decode cX11_init 197 = .ok (.sipush 200, 3) := by decide +kernel
theorem dX11_init_200 : decode cX11_init 200 = .ok (.newarray .int, 2) := by decide +kernel
theorem dX11_init_202 : decode cX11_init 202 = .ok (.putfield 84, 3) := by decide +kernel
theorem dX11_init_205 : decode cX11_init 205 = .ok (.aload_n 0, 1) := by decide +kernel
theorem dX11_init_206 : decode cX11_init 206 = .ok (.iconst 1, 1) := by decide +kernel
theorem dX11_init_207 : decode cX11_init 207 = .ok (.putfield 87, 3) := by decide +kernel
theorem dX11_init_210 : decode cX11_init 210 = .ok (.iconst 0, 1) := by decide +kernel
theorem dX11_init_211 : decode cX11_init 211 = .ok (.istore_n 1, 1) := by decide +kernel
theorem dX11_init_212 : decode cX11_init 212 = .ok (.iload_n 1, 1) := by decide +kernel
theorem dX11_init_213 : decode cX11_init 213 = .ok (.sipush 2048, 3) := by decide +kernel
theorem dX11_init_216 : decode cX11_init 216 = .ok (.if_icmp .ge 16, 3) := by decide +kernel
theorem dX11_init_219 : decode cX11_init 219 = .ok (.aload_n 0, 1) := by decide +kernel
theorem dX11_init_220 : decode cX11_init 220 = .ok (.getfield 20, 3) := by decide +kernel
theorem dX11_init_223 : decode cX11_init 223 = .ok (.iload_n 1, 1) := by decide +kernel
theorem dX11_init_224 : decode cX11_init 224 = .ok (.iconst (-1), 1) := by decide +kernel
theorem dX11_init_225 : decode cX11_init 225 = .ok (.iastore, 1) := by decide +kernel
theorem dX11_init_226 : decode cX11_init 226 = .ok (.iinc 1 1, 3) := by decide +kernel
theorem dX11_init_229 : decode cX11_init 229 = .ok (.goto (-17), 3) := by decide +kernel
theorem dX11_init_232 : decode cX11_init 232 = .ok (.aload_n 0, 1) := by decide +kernel
theorem dX11_init_233 : decode cX11_init 233 = .ok (.invokevirtual 91, 3) := by decide +kernel
theorem dX11_init_236 : decode cX11_init 236 = .ok (.aload_n 0, 1) := by decide +kernel
theorem dX11_init_237 : decode cX11_init 237 = .ok (.getfield 30, 3) := by decide +kernel
theorem dX11_init_240 : decode cX11_init 240 = .ok (.iconst 0, 1) := by decide +kernel
theorem dX11_init_241 : decode cX11_init 241 = .ok (.aload_n 0, 1) := by decide +kernel
theorem dX11_init_242 : decode cX11_init 242 = .ok (.getfield 33, 3) := by decide +kernel
theorem dX11_init_245 : decode cX11_init 245 = .ok (.iconst 0, 1) := by decide +kernel
theorem dX11_init_246 : decode cX11_init 246 = .ok (.invokestatic 94, 3) := by decide +kernel
theorem dX11_init_249 : decode cX11_init 249 = .ok (.return_, 1) := by decide +kernel
theorem dX11_copy_0 : decode cX11_copy 0 = .ok (.iconst 0, 1) := by decide +kernel
theorem dX11_copy_1 : decode cX11_copy 1 = .ok (.istore 4, 2) := by decide +kernel
theorem dX11_copy_3 : decode cX11_copy 3 = .ok (.iload 4, 2) := by decide +kernel
theorem dX11_copy_5 : decode cX11_copy 5 = .ok (.bipush 56, 2) := by decide +kernel
theorem dX11_copy_7 : decode cX11_copy 7 = .ok (.if_icmp .ge 21, 3) := by decide +kernel
theorem dX11_copy_10 : decode cX11_copy 10 = .ok (.aload_n 2, 1) := by decide +kernel
theorem dX11_copy_11 : decode cX11_copy 11 = .ok (.iload_n 3, 1) := by decide +kernel
theorem dX11_copy_12 : decode cX11_copy 12 = .ok (.iload 4, 2) := by decide +kernel
theorem dX11_copy_14 : decode cX11_copy 14 = .ok (.iadd, 1) := by decide +kernel
theorem dX11_copy_15 : decode cX11_copy 15 = .ok (.aload_n 0, 1) := by decide +kernel
theorem dX11_copy_16 : decode cX11_copy 16 = .ok (.iload_n 1, 1) := by decide +kernel
theorem dX11_copy_17 : decode cX11_copy 17 = .ok (.iload 4, 2) := by decide +kernel
theorem dX11_copy_19 : decode cX11_copy 19 = .ok (.iadd, 1) := by decide +kernel
theorem dX11_copy_20 : decode cX11_copy 20 = .ok (.iaload, 1) := by decide +kernel
theorem dX11_copy_21 : decode cX11_copy 21 = .ok (.iastore, 1) := by decide +kernel
theorem dX11_copy_22 : decode cX11_copy 22 = .ok (.iinc 4 1, 3) := by decide +kernel
theorem dX11_copy_25 : decode cX11_copy 25 = .ok (.goto (-22), 3) := by decide +kernel
theorem dX11_copy_28 : decode cX11_copy 28 = .ok (.return_, 1) := by decide +kernel
theorem dX11_first_0 : decode cX11_first 0 = .ok (.iconst 0, 1) := by decide +kernel
theorem dX11_first_1 : decode cX11_first 1 = .ok (.istore_n 1, 1) := by decide +kernel
theorem dX11_first_2 : decode cX11_first 2 = .ok (.iload_n 1, 1) := by decide +kernel
theorem dX11_first_3 : decode cX11_first 3 = .ok (.bipush 56, 2) := by decide +kernel
theorem dX11_first_5 : decode cX11_first 5 = .ok (.if_icmp .ge 16, 3) := by decide +kernel
theorem dX11_first_8 : decode cX11_first 8 = .ok (.aload_n 0, 1) := by decide +kernel
theorem dX11_first_9 : decode cX11_first 9 = .ok (.getfield 30, 3) := by decide +kernel
theorem dX11_first_12 : decode cX11_first 12 = .ok (.iload_n 1, 1) := by decide +kernel
theorem dX11_first_13 : decode cX11_first 13 = .ok (.iconst 0, 1) := by decide +kernel
theorem dX11_first_14 : decode cX11_first 14 = .ok (.iastore, 1) := by decide +kernel
theorem dX11_first_15 : decode cX11_first 15 = .ok (.iinc 1 1, 3) := by decide +kernel
theorem dX11_first_18 : decode cX11_first 18 = .ok (.goto (-16), 3) := by decide +kernel
theorem dX11_first_21 : decode cX11_first 21 = .ok (.aload_n 0, 1) := by decide +kernel
theorem dX11_first_22 : decode cX11_first 22 = .ok (.getfield 30, 3) := by decide +kernel
theorem dX11_first_25 : decode cX11_first 25 = .ok (.bipush 13, 2) := by decide +kernel
theorem dX11_first_27 : decode cX11_first 27 = .ok (.iconst 1, 1) := by decide +kernel
theorem dX11_first_28 : decode cX11_first 28 = .ok (.iastore, 1) := by decide +kernel
theorem dX11_first_29 : decode cX11_first 29 = .ok (.return_, 1) := by decide +kernel
theorem dX11_changed_0 : decode cX11_changed 0 = .ok (.aload_n 0, 1) := by decide +kernel
theorem dX11_changed_1 : decode cX11_changed 1 = .ok (.iconst 1, 1) := by decide +kernel
theorem dX11_changed_2 : decode cX11_changed 2 = .ok (.putfield 87, 3) := by decide +kernel
theorem dX11_changed_5 : decode cX11_changed 5 = .ok (.aload_n 0, 1) := by decide +kernel
theorem dX11_changed_6 : decode cX11_changed 6 = .ok (.invokevirtual 91, 3) := by decide +kernel
theorem dX11_changed_9 : decode cX11_changed 9 = .ok (.aload_n 0, 1) := by decide +kernel
theorem dX11_changed_10 : decode cX11_changed 10 = .ok (.getfield 30, 3) := by decide +kernel
theorem dX11_changed_13 : decode cX11_changed 13 = .ok (.iconst 0, 1) := by decide +kernel
theorem dX11_changed_14 : decode cX11_changed 14 = .ok (.aload_n 0, 1) := by decide +kernel
theorem dX11_changed_15 : decode cX11_changed 15 = .ok (.getfield 33, 3) := by decide +kernel
theorem dX11_changed_18 : decode cX11_changed 18 = .ok (.iconst 0, 1) := by decide +kernel
theorem dX11_changed_19 : decode cX11_changed 19 = .ok (.invokestatic 94, 3) := by decide +kernel
theorem dX11_changed_22 : decode cX11_changed 22 = .ok (.return_, 1) := by decide +kernel
theorem dX11_processors_0 : decode cX11_processors 0 = .ok (.iload_n 1, 1) := by decide +kernel
theorem dX11_processors_1 : decode cX11_processors 1 = .ok (.iconst 1, 1) := by decide +kernel
theorem dX11_processors_2 : decode cX11_processors 2 = .ok (.if_icmp .lt 8, 3) := by decide +kernel
theorem dX11_processors_5 : decode cX11_processors 5 = .ok (.iload_n 1, 1) := by decide +kernel
theorem dX11_processors_6 : decode cX11_processors 6 = .ok (.iconst 4, 1) := by decide +kernel
theorem dX11_processors_7 : decode cX11_processors 7 = .ok (.if_icmp .le 5, 3) := by decide +kernel
theorem dX11_processors_10 : decode cX11_processors 10 = .ok (.iconst (-1), 1) := by decide +kernel
theorem dX11_processors_11 : decode cX11_processors 11 = .ok (.ireturn, 1) := by decide +kernel
theorem dX11_processors_12 : decode cX11_processors 12 = .ok (.aload_n 0, 1) := by decide +kernel
theorem dX11_processors_13 : decode cX11_processors 13 = .ok (.getfield 7, 3) := by decide +kernel
theorem dX11_processors_16 : decode cX11_processors 16 = .ok (.istore_n 2, 1) := by decide +kernel
theorem dX11_processors_17 : decode cX11_processors 17 = .ok (.aload_n 0, 1) := by decide +kernel
theorem dX11_processors_18 : decode cX11_processors 18 = .ok (.iload_n 1, 1) := by decide +kernel
theorem dX11_processors_19 : decode cX11_processors 19 = .ok (.putfield 7, 3) := by decide +kernel
theorem dX11_processors_22 : decode cX11_processors 22 = .ok (.aload_n 0, 1) := by decide +kernel
theorem dX11_processors_23 : decode cX11_processors 23 = .ok (.invokevirtual 98, 3) := by decide +kernel
theorem dX11_processors_26 : decode cX11_processors 26 = .ok (.iload_n 2, 1) := by decide +kernel
theorem dX11_processors_27 : decode cX11_processors 27 = .ok (.ireturn, 1) := by decide +kernel
theorem dX11_net_0 : decode cX11_net 0 = .ok (.iload_n 1, 1) := by decide +kernel
theorem dX11_net_1 : decode cX11_net 1 = .ok (.ifCond .lt 18, 3) := by decide +kernel
theorem dX11_net_4 : decode cX11_net 4 = .ok (.iload_n 1, 1) := by decide +kernel
theorem dX11_net_5 : decode cX11_net 5 = .ok (.bipush 15, 2) := by decide +kernel
theorem dX11_net_7 : decode cX11_net 7 = .ok (.if_icmp .gt 12, 3) := by decide +kernel
theorem dX11_net_10 : decode cX11_net 10 = .ok (.iload_n 2, 1) := by decide +kernel
theorem dX11_net_11 : decode cX11_net 11 = .ok (.ifCond .lt 8, 3) := by decide +kernel
theorem dX11_net_14 : decode cX11_net 14 = .ok (.iload_n 2, 1) := by decide +kernel
theorem dX11_net_15 : decode cX11_net 15 = .ok (.iconst 1, 1) := by decide +kernel
theorem dX11_net_16 : decode cX11_net 16 = .ok (.if_icmp .le 5, 3) := by decide +kernel
theorem dX11_net_19 : decode cX11_net 19 = .ok (.iconst (-1), 1) := by decide +kernel
theorem dX11_net_20 : decode cX11_net 20 = .ok (.ireturn, 1) := by decide +kernel
theorem dX11_net_21 : decode cX11_net 21 = .ok (.aload_n 0, 1) := by decide +kernel
theorem dX11_net_22 : decode cX11_net 22 = .ok (.getfield 13, 3) := by decide +kernel
theorem dX11_net_25 : decode cX11_net 25 = .ok (.iload_n 1, 1) := by decide +kernel
theorem dX11_net_26 : decode cX11_net 26 = .ok (.iaload, 1) := by decide +kernel
theorem dX11_net_27 : decode cX11_net 27 = .ok (.istore_n 3, 1) := by decide +kernel
theorem dX11_net_28 : decode cX11_net 28 = .ok (.aload_n 0, 1) := by decide +kernel
theorem dX11_net_29 : decode cX11_net 29 = .ok (.getfield 13, 3) := by decide +kernel
theorem dX11_net_32 : decode cX11_net 32 = .ok (.iload_n 1, 1) := by decide +kernel
theorem dX11_net_33 : decode cX11_net 33 = .ok (.iload_n 2, 1) := by decide +kernel
theorem dX11_net_34 : decode cX11_net 34 = .ok (.iastore, 1) := by decide +kernel
theorem dX11_net_35 : decode cX11_net 35 = .ok (.aload_n 0, 1) := by decide +kernel
theorem dX11_net_36 : decode cX11_net 36 = .ok (.invokevirtual 98, 3) := by decide +kernel
theorem dX11_net_39 : decode cX11_net 39 = .ok (.iload_n 3, 1) := by decide +kernel
theorem dX11_net_40 : decode cX11_net 40 = .ok (.ireturn, 1) := by decide +kernel
theorem dX11_right_0 : decode cX11_right 0 = .ok (.iload_n 1, 1) := by decide +kernel
theorem dX11_right_1 : decode cX11_right 1 = .ok (.ifCond .lt 18, 3) := by decide +kernel
theorem dX11_right_4 : decode cX11_right 4 = .ok (.iload_n 1, 1) := by decide +kernel
theorem dX11_right_5 : decode cX11_right 5 = .ok (.bipush 15, 2) := by decide +kernel
theorem dX11_right_7 : decode cX11_right 7 = .ok (.if_icmp .gt 12, 3) := by decide +kernel
theorem dX11_right_10 : decode cX11_right 10 = .ok (.iload_n 2, 1) := by decide +kernel
theorem dX11_right_11 : decode cX11_right 11 = .ok (.ifCond .lt 8, 3) := by decide +kernel
theorem dX11_right_14 : decode cX11_right 14 = .ok (.iload_n 2, 1) := by decide +kernel
theorem dX11_right_15 : decode cX11_right 15 = .ok (.iconst 2, 1) := by decide +kernel
theorem dX11_right_16 : decode cX11_right 16 = .ok (.if_icmp .le 5, 3) := by decide +kernel
theorem dX11_right_19 : decode cX11_right 19 = .ok (.iconst (-1), 1) := by decide +kernel
theorem dX11_right_20 : decode cX11_right 20 = .ok (.ireturn, 1) := by decide +kernel
theorem dX11_right_21 : decode cX11_right 21 = .ok (.aload_n 0, 1) := by decide +kernel
theorem dX11_right_22 : decode cX11_right 22 = .ok (.getfield 17, 3) := by decide +kernel
theorem dX11_right_25 : decode cX11_right 25 = .ok (.iload_n 1, 1) := by decide +kernel
theorem dX11_right_26 : decode cX11_right 26 = .ok (.iaload, 1) := by decide +kernel
theorem dX11_right_27 : decode cX11_right 27 = .ok (.istore_n 3, 1) := by decide +kernel
theorem dX11_right_28 : decode cX11_right 28 = .ok (.aload_n 0, 1) := by decide +kernel
theorem dX11_right_29 : decode cX11_right 29 = .ok (.getfield 17, 3) := by decide +kernel
theorem dX11_right_32 : decode cX11_right 32 = .ok (.iload_n 1, 1) := by decide +kernel
theorem dX11_right_33 : decode cX11_right 33 = .ok (.iload_n 2, 1) := by decide +kernel
theorem dX11_right_34 : decode cX11_right 34 = .ok (.iastore, 1) := by decide +kernel
theorem dX11_right_35 : decode cX11_right 35 = .ok (.aload_n 0, 1) := by decide +kernel
theorem dX11_right_36 : decode cX11_right 36 = .ok (.invokevirtual 98, 3) := by decide +kernel
theorem dX11_right_39 : decode cX11_right 39 = .ok (.iload_n 3, 1) := by decide +kernel
theorem dX11_right_40 : decode cX11_right 40 = .ok (.ireturn, 1) := by decide +kernel
theorem dX11_placeOf_0 : decode cX11_placeOf 0 = .ok (.iload_n 0, 1) := by decide +kernel
theorem dX11_placeOf_1 : decode cX11_placeOf 1 = .ok (.ifCond .ge 5, 3) := by decide +kernel
theorem dX11_placeOf_4 : decode cX11_placeOf 4 = .ok (.iconst (-1), 1) := by decide +kernel
theorem dX11_placeOf_5 : decode cX11_placeOf 5 = .ok (.ireturn, 1) := by decide +kernel
theorem dX11_placeOf_6 : decode cX11_placeOf 6 = .ok (.iload_n 0, 1) := by decide +kernel
theorem dX11_placeOf_7 : decode cX11_placeOf 7 = .ok (.bipush 16, 2) := by decide +kernel
theorem dX11_placeOf_9 : decode cX11_placeOf 9 = .ok (.idiv, 1) := by decide +kernel
theorem dX11_placeOf_10 : decode cX11_placeOf 10 = .ok (.istore_n 1, 1) := by decide +kernel
theorem dX11_placeOf_11 : decode cX11_placeOf 11 = .ok (.iload_n 1, 1) := by decide +kernel
theorem dX11_placeOf_12 : decode cX11_placeOf 12 = .ok (.sipush 1024, 3) := by decide +kernel
theorem dX11_placeOf_15 : decode cX11_placeOf 15 = .ok (.idiv, 1) := by decide +kernel
theorem dX11_placeOf_16 : decode cX11_placeOf 16 = .ok (.istore_n 2, 1) := by decide +kernel
theorem dX11_placeOf_17 : decode cX11_placeOf 17 = .ok (.iload_n 1, 1) := by decide +kernel
theorem dX11_placeOf_18 : decode cX11_placeOf 18 = .ok (.bipush 64, 2) := by decide +kernel
theorem dX11_placeOf_20 : decode cX11_placeOf 20 = .ok (.irem, 1) := by decide +kernel
theorem dX11_placeOf_21 : decode cX11_placeOf 21 = .ok (.istore_n 3, 1) := by decide +kernel
theorem dX11_placeOf_22 : decode cX11_placeOf 22 = .ok (.iload_n 2, 1) := by decide +kernel
theorem dX11_placeOf_23 : decode cX11_placeOf 23 = .ok (.iconst 1, 1) := by decide +kernel
theorem dX11_placeOf_24 : decode cX11_placeOf 24 = .ok (.if_icmp .gt 19, 3) := by decide +kernel
theorem dX11_placeOf_27 : decode cX11_placeOf 27 = .ok (.iload_n 2, 1) := by decide +kernel
theorem dX11_placeOf_28 : decode cX11_placeOf 28 = .ok (.ifCond .ne 9, 3) := by decide +kernel
theorem dX11_placeOf_31 : decode cX11_placeOf 31 = .ok (.iload_n 3, 1) := by decide +kernel
theorem dX11_placeOf_32 : decode cX11_placeOf 32 = .ok (.bipush 18, 2) := by decide +kernel
theorem dX11_placeOf_34 : decode cX11_placeOf 34 = .ok (.if_icmp .gt 9, 3) := by decide +kernel
theorem dX11_placeOf_37 : decode cX11_placeOf 37 = .ok (.iload_n 3, 1) := by decide +kernel
theorem dX11_placeOf_38 : decode cX11_placeOf 38 = .ok (.bipush 31, 2) := by decide +kernel
theorem dX11_placeOf_40 : decode cX11_placeOf 40 = .ok (.if_icmp .le 7, 3) := by decide +kernel
theorem dX11_placeOf_43 : decode cX11_placeOf 43 = .ok (.iconst (-1), 1) := by decide +kernel
theorem dX11_placeOf_44 : decode cX11_placeOf 44 = .ok (.goto 4, 3) := by decide +kernel
theorem dX11_placeOf_47 : decode cX11_placeOf 47 = .ok (.iload_n 1, 1) := by decide +kernel
theorem dX11_placeOf_48 : decode cX11_placeOf 48 = .ok (.ireturn, 1) := by decide +kernel
theorem dX11_row_0 : decode cX11_row 0 = .ok (.iload_n 1, 1) := by decide +kernel
theorem dX11_row_1 : decode cX11_row 1 = .ok (.invokestatic 101, 3) := by decide +kernel
theorem dX11_row_4 : decode cX11_row 4 = .ok (.istore 4, 2) := by decide +kernel
theorem dX11_row_6 : decode cX11_row 6 = .ok (.iload_n 1, 1) := by decide +kernel
theorem dX11_row_7 : decode cX11_row 7 = .ok (.bipush 16, 2) := by decide +kernel
theorem dX11_row_9 : decode cX11_row 9 = .ok (.irem, 1) := by decide +kernel
theorem dX11_row_10 : decode cX11_row 10 = .ok (.istore 5, 2) := by decide +kernel
theorem dX11_row_12 : decode cX11_row 12 = .ok (.iload 4, 2) := by decide +kernel
theorem dX11_row_14 : decode cX11_row 14 = .ok (.ifCond .lt 10, 3) := by decide +kernel
theorem dX11_row_17 : decode cX11_row 17 = .ok (.iload 5, 2) := by decide +kernel
theorem dX11_row_19 : decode cX11_row 19 = .ok (.bipush 8, 2) := by decide +kernel
theorem dX11_row_21 : decode cX11_row 21 = .ok (.if_icmp .le 5, 3) := by decide +kernel
theorem dX11_row_24 : decode cX11_row 24 = .ok (.iconst (-1), 1) := by decide +kernel
theorem dX11_row_25 : decode cX11_row 25 = .ok (.ireturn, 1) := by decide +kernel
theorem dX11_row_26 : decode cX11_row 26 = .ok (.aload_n 0, 1) := by decide +kernel
theorem dX11_row_27 : decode cX11_row 27 = .ok (.getfield 20, 3) := by decide +kernel
theorem dX11_row_30 : decode cX11_row 30 = .ok (.iload 4, 2) := by decide +kernel
theorem dX11_row_32 : decode cX11_row 32 = .ok (.iaload, 1) := by decide +kernel
theorem dX11_row_33 : decode cX11_row 33 = .ok (.ifCond .lt 7, 3) := by decide +kernel
theorem dX11_row_36 : decode cX11_row 36 = .ok (.iconst 1, 1) := by decide +kernel
theorem dX11_row_37 : decode cX11_row 37 = .ok (.goto 4, 3) := by decide +kernel
theorem dX11_row_40 : decode cX11_row 40 = .ok (.iconst 0, 1) := by decide +kernel
theorem dX11_row_41 : decode cX11_row 41 = .ok (.istore 6, 2) := by decide +kernel
theorem dX11_row_43 : decode cX11_row 43 = .ok (.aload_n 0, 1) := by decide +kernel
theorem dX11_row_44 : decode cX11_row 44 = .ok (.getfield 20, 3) := by decide +kernel
theorem dX11_row_47 : decode cX11_row 47 = .ok (.iload 4, 2) := by decide +kernel
theorem dX11_row_49 : decode cX11_row 49 = .ok (.iload 5, 2) := by decide +kernel
theorem dX11_row_51 : decode cX11_row 51 = .ok (.iastore, 1) := by decide +kernel
theorem dX11_row_52 : decode cX11_row 52 = .ok (.iconst 0, 1) := by decide +kernel
theorem dX11_row_53 : decode cX11_row 53 = .ok (.istore 7, 2) := by decide +kernel
theorem dX11_row_55 : decode cX11_row 55 = .ok (.iload 7, 2) := by decide +kernel
theorem dX11_row_57 : decode cX11_row 57 = .ok (.iload 5, 2) := by decide +kernel
theorem dX11_row_59 : decode cX11_row 59 = .ok (.if_icmp .ge 52, 3) := by decide +kernel
theorem dX11_row_62 : decode cX11_row 62 = .ok (.iload 7, 2) := by decide +kernel
theorem dX11_row_64 : decode cX11_row 64 = .ok (.iconst 4, 1) := by decide +kernel
theorem dX11_row_65 : decode cX11_row 65 = .ok (.if_icmp .ge 7, 3) := by decide +kernel
theorem dX11_row_68 : decode cX11_row 68 = .ok (.iload_n 2, 1) := by decide +kernel
theorem dX11_row_69 : decode cX11_row 69 = .ok (.goto 4, 3) := by decide +kernel
theorem dX11_row_72 : decode cX11_row 72 = .ok (.iload_n 3, 1) := by decide +kernel
theorem dX11_row_73 : decode cX11_row 73 = .ok (.istore 8, 2) := by decide +kernel
theorem dX11_row_75 : decode cX11_row 75 = .ok (.aload_n 0, 1) := by decide +kernel
theorem dX11_row_76 : decode cX11_row 76 = .ok (.getfield 23, 3) := by decide +kernel
theorem dX11_row_79 : decode cX11_row 79 = .ok (.bipush 8, 2) := by decide +kernel
theorem dX11_row_81 : decode cX11_row 81 = .ok (.iload 4, 2) := by decide +kernel
theorem dX11_row_83 : decode cX11_row 83 = .ok (.imul, 1) := by decide +kernel
theorem dX11_row_84 : decode cX11_row 84 = .ok (.iload 7, 2) := by decide +kernel
theorem dX11_row_86 : decode cX11_row 86 = .ok (.iadd, 1) := by decide +kernel
theorem dX11_row_87 : decode cX11_row 87 = .ok (.iload 8, 2) := by decide +kernel
theorem dX11_row_89 : decode cX11_row 89 = .ok (.bipush 24, 2) := by decide +kernel
theorem dX11_row_91 : decode cX11_row 91 = .ok (.bipush 8, 2) := by decide +kernel
theorem dX11_row_93 : decode cX11_row 93 = .ok (.iload 7, 2) := by decide +kernel
theorem dX11_row_95 : decode cX11_row 95 = .ok (.iconst 4, 1) := by decide +kernel
theorem dX11_row_96 : decode cX11_row 96 = .ok (.irem, 1) := by decide +kernel
theorem dX11_row_97 : decode cX11_row 97 = .ok (.imul, 1) := by decide +kernel
theorem dX11_row_98 : decode cX11_row 98 = .ok (.isub, 1) := by decide +kernel
theorem dX11_row_99 : decode cX11_row 99 = .ok (.ishr, 1) := by decide +kernel
theorem dX11_row_100 : decode cX11_row 100 = .ok (.sipush 255, 3) := by decide +kernel
theorem dX11_row_103 : decode cX11_row 103 = .ok (.iand, 1) := by decide +kernel
theorem dX11_row_104 : decode cX11_row 104 = .ok (.iastore, 1) := by decide +kernel
theorem dX11_row_105 : decode cX11_row 105 = .ok (.iinc 7 1, 3) := by decide +kernel
theorem dX11_row_108 : decode cX11_row 108 = .ok (.goto (-53), 3) := by decide +kernel
theorem dX11_row_111 : decode cX11_row 111 = .ok (.aload_n 0, 1) := by decide +kernel
theorem dX11_row_112 : decode cX11_row 112 = .ok (.invokevirtual 98, 3) := by decide +kernel
theorem dX11_row_115 : decode cX11_row 115 = .ok (.iload 6, 2) := by decide +kernel
theorem dX11_row_117 : decode cX11_row 117 = .ok (.ireturn, 1) := by decide +kernel
theorem dX11_tear_0 : decode cX11_tear 0 = .ok (.iload_n 1, 1) := by decide +kernel
theorem dX11_tear_1 : decode cX11_tear 1 = .ok (.invokestatic 101, 3) := by decide +kernel
theorem dX11_tear_4 : decode cX11_tear 4 = .ok (.istore_n 2, 1) := by decide +kernel
theorem dX11_tear_5 : decode cX11_tear 5 = .ok (.iload_n 2, 1) := by decide +kernel
theorem dX11_tear_6 : decode cX11_tear 6 = .ok (.ifCond .ge 5, 3) := by decide +kernel
theorem dX11_tear_9 : decode cX11_tear 9 = .ok (.iconst (-1), 1) := by decide +kernel
theorem dX11_tear_10 : decode cX11_tear 10 = .ok (.ireturn, 1) := by decide +kernel
theorem dX11_tear_11 : decode cX11_tear 11 = .ok (.aload_n 0, 1) := by decide +kernel
theorem dX11_tear_12 : decode cX11_tear 12 = .ok (.getfield 20, 3) := by decide +kernel
theorem dX11_tear_15 : decode cX11_tear 15 = .ok (.iload_n 2, 1) := by decide +kernel
theorem dX11_tear_16 : decode cX11_tear 16 = .ok (.iaload, 1) := by decide +kernel
theorem dX11_tear_17 : decode cX11_tear 17 = .ok (.ifCond .lt 7, 3) := by decide +kernel
theorem dX11_tear_20 : decode cX11_tear 20 = .ok (.iconst 1, 1) := by decide +kernel
theorem dX11_tear_21 : decode cX11_tear 21 = .ok (.goto 4, 3) := by decide +kernel
theorem dX11_tear_24 : decode cX11_tear 24 = .ok (.iconst 0, 1) := by decide +kernel
theorem dX11_tear_25 : decode cX11_tear 25 = .ok (.istore_n 3, 1) := by decide +kernel
theorem dX11_tear_26 : decode cX11_tear 26 = .ok (.aload_n 0, 1) := by decide +kernel
theorem dX11_tear_27 : decode cX11_tear 27 = .ok (.getfield 20, 3) := by decide +kernel
theorem dX11_tear_30 : decode cX11_tear 30 = .ok (.iload_n 2, 1) := by decide +kernel
theorem dX11_tear_31 : decode cX11_tear 31 = .ok (.iconst (-1), 1) := by decide +kernel
theorem dX11_tear_32 : decode cX11_tear 32 = .ok (.iastore, 1) := by decide +kernel
theorem dX11_tear_33 : decode cX11_tear 33 = .ok (.aload_n 0, 1) := by decide +kernel
theorem dX11_tear_34 : decode cX11_tear 34 = .ok (.invokevirtual 98, 3) := by decide +kernel
theorem dX11_tear_37 : decode cX11_tear 37 = .ok (.iload_n 3, 1) := by decide +kernel
theorem dX11_tear_38 : decode cX11_tear 38 = .ok (.ireturn, 1) := by decide +kernel
theorem dX11_rows_0 : decode cX11_rows 0 = .ok (.iload_n 1, 1) := by decide +kernel
theorem dX11_rows_1 : decode cX11_rows 1 = .ok (.ifCond .lt 8, 3) := by decide +kernel
theorem dX11_rows_4 : decode cX11_rows 4 = .ok (.iload_n 1, 1) := by decide +kernel
theorem dX11_rows_5 : decode cX11_rows 5 = .ok (.iconst 1, 1) := by decide +kernel
theorem dX11_rows_6 : decode cX11_rows 6 = .ok (.if_icmp .le 5, 3) := by decide +kernel
theorem dX11_rows_9 : decode cX11_rows 9 = .ok (.iconst (-1), 1) := by decide +kernel
theorem dX11_rows_10 : decode cX11_rows 10 = .ok (.ireturn, 1) := by decide +kernel
theorem dX11_rows_11 : decode cX11_rows 11 = .ok (.iconst 0, 1) := by decide +kernel
theorem dX11_rows_12 : decode cX11_rows 12 = .ok (.istore_n 2, 1) := by decide +kernel
theorem dX11_rows_13 : decode cX11_rows 13 = .ok (.iconst 0, 1) := by decide +kernel
theorem dX11_rows_14 : decode cX11_rows 14 = .ok (.istore_n 3, 1) := by decide +kernel
theorem dX11_rows_15 : decode cX11_rows 15 = .ok (.iload_n 3, 1) := by decide +kernel
theorem dX11_rows_16 : decode cX11_rows 16 = .ok (.sipush 1024, 3) := by decide +kernel
theorem dX11_rows_19 : decode cX11_rows 19 = .ok (.if_icmp .ge 32, 3) := by decide +kernel
theorem dX11_rows_22 : decode cX11_rows 22 = .ok (.iload_n 2, 1) := by decide +kernel
theorem dX11_rows_23 : decode cX11_rows 23 = .ok (.aload_n 0, 1) := by decide +kernel
theorem dX11_rows_24 : decode cX11_rows 24 = .ok (.getfield 20, 3) := by decide +kernel
theorem dX11_rows_27 : decode cX11_rows 27 = .ok (.sipush 1024, 3) := by decide +kernel
theorem dX11_rows_30 : decode cX11_rows 30 = .ok (.iload_n 1, 1) := by decide +kernel
theorem dX11_rows_31 : decode cX11_rows 31 = .ok (.imul, 1) := by decide +kernel
theorem dX11_rows_32 : decode cX11_rows 32 = .ok (.iload_n 3, 1) := by decide +kernel
theorem dX11_rows_33 : decode cX11_rows 33 = .ok (.iadd, 1) := by decide +kernel
theorem dX11_rows_34 : decode cX11_rows 34 = .ok (.iaload, 1) := by decide +kernel
theorem dX11_rows_35 : decode cX11_rows 35 = .ok (.ifCond .lt 7, 3) := by decide +kernel
theorem dX11_rows_38 : decode cX11_rows 38 = .ok (.iconst 1, 1) := by decide +kernel
theorem dX11_rows_39 : decode cX11_rows 39 = .ok (.goto 4, 3) := by decide +kernel
theorem dX11_rows_42 : decode cX11_rows 42 = .ok (.iconst 0, 1) := by decide +kernel
theorem dX11_rows_43 : decode cX11_rows 43 = .ok (.iadd, 1) := by decide +kernel
theorem dX11_rows_44 : decode cX11_rows 44 = .ok (.istore_n 2, 1) := by decide +kernel
theorem dX11_rows_45 : decode cX11_rows 45 = .ok (.iinc 3 1, 3) := by decide +kernel
theorem dX11_rows_48 : decode cX11_rows 48 = .ok (.goto (-33), 3) := by decide +kernel
theorem dX11_rows_51 : decode cX11_rows 51 = .ok (.iload_n 2, 1) := by decide +kernel
theorem dX11_rows_52 : decode cX11_rows 52 = .ok (.ireturn, 1) := by decide +kernel
theorem dX11_letterAt_0 : decode cX11_letterAt 0 = .ok (.aload_n 0, 1) := by decide +kernel
theorem dX11_letterAt_1 : decode cX11_letterAt 1 = .ok (.getfield 30, 3) := by decide +kernel
theorem dX11_letterAt_4 : decode cX11_letterAt 4 = .ok (.bipush 16, 2) := by decide +kernel
theorem dX11_letterAt_6 : decode cX11_letterAt 6 = .ok (.iconst 5, 1) := by decide +kernel
theorem dX11_letterAt_7 : decode cX11_letterAt 7 = .ok (.iload_n 1, 1) := by decide +kernel
theorem dX11_letterAt_8 : decode cX11_letterAt 8 = .ok (.imul, 1) := by decide +kernel
theorem dX11_letterAt_9 : decode cX11_letterAt 9 = .ok (.iadd, 1) := by decide +kernel
theorem dX11_letterAt_10 : decode cX11_letterAt 10 = .ok (.iload_n 2, 1) := by decide +kernel
theorem dX11_letterAt_11 : decode cX11_letterAt 11 = .ok (.iadd, 1) := by decide +kernel
theorem dX11_letterAt_12 : decode cX11_letterAt 12 = .ok (.iaload, 1) := by decide +kernel
theorem dX11_letterAt_13 : decode cX11_letterAt 13 = .ok (.ireturn, 1) := by decide +kernel
theorem dX11_rowOfLetter_0 : decode cX11_rowOfLetter 0 = .ok (.aload_n 0, 1) := by decide +kernel
theorem dX11_rowOfLetter_1 : decode cX11_rowOfLetter 1 = .ok (.iload_n 1, 1) := by decide +kernel
theorem dX11_rowOfLetter_2 : decode cX11_rowOfLetter 2 = .ok (.iconst 0, 1) := by decide +kernel
theorem dX11_rowOfLetter_3 : decode cX11_rowOfLetter 3 = .ok (.invokevirtual 105, 3) := by decide +kernel
theorem dX11_rowOfLetter_6 : decode cX11_rowOfLetter 6 = .ok (.istore_n 2, 1) := by decide +kernel
theorem dX11_rowOfLetter_7 : decode cX11_rowOfLetter 7 = .ok (.aload_n 0, 1) := by decide +kernel
theorem dX11_rowOfLetter_8 : decode cX11_rowOfLetter 8 = .ok (.iload_n 1, 1) := by decide +kernel
theorem dX11_rowOfLetter_9 : decode cX11_rowOfLetter 9 = .ok (.iconst 2, 1) := by decide +kernel
theorem dX11_rowOfLetter_10 : decode cX11_rowOfLetter 10 = .ok (.invokevirtual 105, 3) := by decide +kernel
theorem dX11_rowOfLetter_13 : decode cX11_rowOfLetter 13 = .ok (.istore_n 3, 1) := by decide +kernel
theorem dX11_rowOfLetter_14 : decode cX11_rowOfLetter 14 = .ok (.iload_n 3, 1) := by decide +kernel
theorem dX11_rowOfLetter_15 : decode cX11_rowOfLetter 15 = .ok (.aload_n 0, 1) := by decide +kernel
theorem dX11_rowOfLetter_16 : decode cX11_rowOfLetter 16 = .ok (.getfield 7, 3) := by decide +kernel
theorem dX11_rowOfLetter_19 : decode cX11_rowOfLetter 19 = .ok (.if_icmp .ge 19, 3) := by decide +kernel
theorem dX11_rowOfLetter_22 : decode cX11_rowOfLetter 22 = .ok (.aload_n 0, 1) := by decide +kernel
theorem dX11_rowOfLetter_23 : decode cX11_rowOfLetter 23 = .ok (.getfield 30, 3) := by decide +kernel
theorem dX11_rowOfLetter_26 : decode cX11_rowOfLetter 26 = .ok (.iconst 3, 1) := by decide +kernel
theorem dX11_rowOfLetter_27 : decode cX11_rowOfLetter 27 = .ok (.iload_n 3, 1) := by decide +kernel
theorem dX11_rowOfLetter_28 : decode cX11_rowOfLetter 28 = .ok (.imul, 1) := by decide +kernel
theorem dX11_rowOfLetter_29 : decode cX11_rowOfLetter 29 = .ok (.iaload, 1) := by decide +kernel
theorem dX11_rowOfLetter_30 : decode cX11_rowOfLetter 30 = .ok (.bipush 64, 2) := by decide +kernel
theorem dX11_rowOfLetter_32 : decode cX11_rowOfLetter 32 = .ok (.imul, 1) := by decide +kernel
theorem dX11_rowOfLetter_33 : decode cX11_rowOfLetter 33 = .ok (.iconst 3, 1) := by decide +kernel
theorem dX11_rowOfLetter_34 : decode cX11_rowOfLetter 34 = .ok (.iadd, 1) := by decide +kernel
theorem dX11_rowOfLetter_35 : decode cX11_rowOfLetter 35 = .ok (.iload_n 2, 1) := by decide +kernel
theorem dX11_rowOfLetter_36 : decode cX11_rowOfLetter 36 = .ok (.iadd, 1) := by decide +kernel
theorem dX11_rowOfLetter_37 : decode cX11_rowOfLetter 37 = .ok (.ireturn, 1) := by decide +kernel
theorem dX11_rowOfLetter_38 : decode cX11_rowOfLetter 38 = .ok (.aload_n 0, 1) := by decide +kernel
theorem dX11_rowOfLetter_39 : decode cX11_rowOfLetter 39 = .ok (.getfield 30, 3) := by decide +kernel
theorem dX11_rowOfLetter_42 : decode cX11_rowOfLetter 42 = .ok (.bipush 14, 2) := by decide +kernel
theorem dX11_rowOfLetter_44 : decode cX11_rowOfLetter 44 = .ok (.iaload, 1) := by decide +kernel
theorem dX11_rowOfLetter_45 : decode cX11_rowOfLetter 45 = .ok (.iconst 1, 1) := by decide +kernel
theorem dX11_rowOfLetter_46 : decode cX11_rowOfLetter 46 = .ok (.aload_n 0, 1) := by decide +kernel
theorem dX11_rowOfLetter_47 : decode cX11_rowOfLetter 47 = .ok (.iload_n 1, 1) := by decide +kernel
theorem dX11_rowOfLetter_48 : decode cX11_rowOfLetter 48 = .ok (.iconst 3, 1) := by decide +kernel
theorem dX11_rowOfLetter_49 : decode cX11_rowOfLetter 49 = .ok (.invokevirtual 105, 3) := by decide +kernel
theorem dX11_rowOfLetter_52 : decode cX11_rowOfLetter 52 = .ok (.ishl, 1) := by decide +kernel
theorem dX11_rowOfLetter_53 : decode cX11_rowOfLetter 53 = .ok (.iconst (-1), 1) := by decide +kernel
theorem dX11_rowOfLetter_54 : decode cX11_rowOfLetter 54 = .ok (.ixor, 1) := by decide +kernel
theorem dX11_rowOfLetter_55 : decode cX11_rowOfLetter 55 = .ok (.iand, 1) := by decide +kernel
theorem dX11_rowOfLetter_56 : decode cX11_rowOfLetter 56 = .ok (.istore 4, 2) := by decide +kernel
theorem dX11_rowOfLetter_58 : decode cX11_rowOfLetter 58 = .ok (.sipush 1024, 3) := by decide +kernel
theorem dX11_rowOfLetter_61 : decode cX11_rowOfLetter 61 = .ok (.aload_n 0, 1) := by decide +kernel
theorem dX11_rowOfLetter_62 : decode cX11_rowOfLetter 62 = .ok (.getfield 30, 3) := by decide +kernel
theorem dX11_rowOfLetter_65 : decode cX11_rowOfLetter 65 = .ok (.bipush 12, 2) := by decide +kernel
theorem dX11_rowOfLetter_67 : decode cX11_rowOfLetter 67 = .ok (.iaload, 1) := by decide +kernel
theorem dX11_rowOfLetter_68 : decode cX11_rowOfLetter 68 = .ok (.bipush 64, 2) := by decide +kernel
theorem dX11_rowOfLetter_70 : decode cX11_rowOfLetter 70 = .ok (.imul, 1) := by decide +kernel
theorem dX11_rowOfLetter_71 : decode cX11_rowOfLetter 71 = .ok (.iadd, 1) := by decide +kernel
theorem dX11_rowOfLetter_72 : decode cX11_rowOfLetter 72 = .ok (.iconst 2, 1) := by decide +kernel
theorem dX11_rowOfLetter_73 : decode cX11_rowOfLetter 73 = .ok (.iload_n 2, 1) := by decide +kernel
theorem dX11_rowOfLetter_74 : decode cX11_rowOfLetter 74 = .ok (.imul, 1) := by decide +kernel
theorem dX11_rowOfLetter_75 : decode cX11_rowOfLetter 75 = .ok (.iadd, 1) := by decide +kernel
theorem dX11_rowOfLetter_76 : decode cX11_rowOfLetter 76 = .ok (.iload 4, 2) := by decide +kernel
theorem dX11_rowOfLetter_78 : decode cX11_rowOfLetter 78 = .ok (.ifCond .eq 7, 3) := by decide +kernel
theorem dX11_rowOfLetter_81 : decode cX11_rowOfLetter 81 = .ok (.iconst 1, 1) := by decide +kernel
theorem dX11_rowOfLetter_82 : decode cX11_rowOfLetter 82 = .ok (.goto 4, 3) := by decide +kernel
theorem dX11_rowOfLetter_85 : decode cX11_rowOfLetter 85 = .ok (.iconst 0, 1) := by decide +kernel
theorem dX11_rowOfLetter_86 : decode cX11_rowOfLetter 86 = .ok (.iadd, 1) := by decide +kernel
theorem dX11_rowOfLetter_87 : decode cX11_rowOfLetter 87 = .ok (.ireturn, 1) := by decide +kernel
theorem dX11_waits_0 : decode cX11_waits 0 = .ok (.iconst 0, 1) := by decide +kernel
theorem dX11_waits_1 : decode cX11_waits 1 = .ok (.istore_n 2, 1) := by decide +kernel
theorem dX11_waits_2 : decode cX11_waits 2 = .ok (.iconst 0, 1) := by decide +kernel
theorem dX11_waits_3 : decode cX11_waits 3 = .ok (.istore_n 3, 1) := by decide +kernel
theorem dX11_waits_4 : decode cX11_waits 4 = .ok (.iload_n 3, 1) := by decide +kernel
theorem dX11_waits_5 : decode cX11_waits 5 = .ok (.aload_n 0, 1) := by decide +kernel
theorem dX11_waits_6 : decode cX11_waits 6 = .ok (.getfield 20, 3) := by decide +kernel
theorem dX11_waits_9 : decode cX11_waits 9 = .ok (.iload_n 1, 1) := by decide +kernel
theorem dX11_waits_10 : decode cX11_waits 10 = .ok (.iaload, 1) := by decide +kernel
theorem dX11_waits_11 : decode cX11_waits 11 = .ok (.if_icmp .ge 38, 3) := by decide +kernel
theorem dX11_waits_14 : decode cX11_waits 14 = .ok (.iload_n 2, 1) := by decide +kernel
theorem dX11_waits_15 : decode cX11_waits 15 = .ok (.ifCond .ne 22, 3) := by decide +kernel
theorem dX11_waits_18 : decode cX11_waits 18 = .ok (.aload_n 0, 1) := by decide +kernel
theorem dX11_waits_19 : decode cX11_waits 19 = .ok (.getfield 23, 3) := by decide +kernel
theorem dX11_waits_22 : decode cX11_waits 22 = .ok (.bipush 8, 2) := by decide +kernel
theorem dX11_waits_24 : decode cX11_waits 24 = .ok (.iload_n 1, 1) := by decide +kernel
theorem dX11_waits_25 : decode cX11_waits 25 = .ok (.imul, 1) := by decide +kernel
theorem dX11_waits_26 : decode cX11_waits 26 = .ok (.iload_n 3, 1) := by decide +kernel
theorem dX11_waits_27 : decode cX11_waits 27 = .ok (.iadd, 1) := by decide +kernel
theorem dX11_waits_28 : decode cX11_waits 28 = .ok (.iaload, 1) := by decide +kernel
theorem dX11_waits_29 : decode cX11_waits 29 = .ok (.bipush 16, 2) := by decide +kernel
theorem dX11_waits_31 : decode cX11_waits 31 = .ok (.idiv, 1) := by decide +kernel
theorem dX11_waits_32 : decode cX11_waits 32 = .ok (.bipush 9, 2) := by decide +kernel
theorem dX11_waits_34 : decode cX11_waits 34 = .ok (.if_icmp .ne 7, 3) := by decide +kernel
theorem dX11_waits_37 : decode cX11_waits 37 = .ok (.iconst 1, 1) := by decide +kernel
theorem dX11_waits_38 : decode cX11_waits 38 = .ok (.goto 4, 3) := by decide +kernel
theorem dX11_waits_41 : decode cX11_waits 41 = .ok (.iconst 0, 1) := by decide +kernel
theorem dX11_waits_42 : decode cX11_waits 42 = .ok (.istore_n 2, 1) := by decide +kernel
theorem dX11_waits_43 : decode cX11_waits 43 = .ok (.iinc 3 1, 3) := by decide +kernel
theorem dX11_waits_46 : decode cX11_waits 46 = .ok (.goto (-42), 3) := by decide +kernel
theorem dX11_waits_49 : decode cX11_waits 49 = .ok (.iload_n 2, 1) := by decide +kernel
theorem dX11_waits_50 : decode cX11_waits 50 = .ok (.ireturn, 1) := by decide +kernel
theorem dX11_addStep_0 : decode cX11_addStep 0 = .ok (.aload_n 0, 1) := by decide +kernel
theorem dX11_addStep_1 : decode cX11_addStep 1 = .ok (.getfield 39, 3) := by decide +kernel
theorem dX11_addStep_4 : decode cX11_addStep 4 = .ok (.aload_n 0, 1) := by decide +kernel
theorem dX11_addStep_5 : decode cX11_addStep 5 = .ok (.getfield 109, 3) := by decide +kernel
theorem dX11_addStep_8 : decode cX11_addStep 8 = .ok (.iload_n 1, 1) := by decide +kernel
theorem dX11_addStep_9 : decode cX11_addStep 9 = .ok (.iastore, 1) := by decide +kernel
theorem dX11_addStep_10 : decode cX11_addStep 10 = .ok (.aload_n 0, 1) := by decide +kernel
theorem dX11_addStep_11 : decode cX11_addStep 11 = .ok (.getfield 42, 3) := by decide +kernel
theorem dX11_addStep_14 : decode cX11_addStep 14 = .ok (.aload_n 0, 1) := by decide +kernel
theorem dX11_addStep_15 : decode cX11_addStep 15 = .ok (.getfield 109, 3) := by decide +kernel
theorem dX11_addStep_18 : decode cX11_addStep 18 = .ok (.iload_n 2, 1) := by decide +kernel
theorem dX11_addStep_19 : decode cX11_addStep 19 = .ok (.iastore, 1) := by decide +kernel
theorem dX11_addStep_20 : decode cX11_addStep 20 = .ok (.aload_n 0, 1) := by decide +kernel
theorem dX11_addStep_21 : decode cX11_addStep 21 = .ok (.getfield 45, 3) := by decide +kernel
theorem dX11_addStep_24 : decode cX11_addStep 24 = .ok (.aload_n 0, 1) := by decide +kernel
theorem dX11_addStep_25 : decode cX11_addStep 25 = .ok (.getfield 109, 3) := by decide +kernel
theorem dX11_addStep_28 : decode cX11_addStep 28 = .ok (.iload_n 3, 1) := by decide +kernel
theorem dX11_addStep_29 : decode cX11_addStep 29 = .ok (.iastore, 1) := by decide +kernel
theorem dX11_addStep_30 : decode cX11_addStep 30 = .ok (.aload_n 0, 1) := by decide +kernel
theorem dX11_addStep_31 : decode cX11_addStep 31 = .ok (.getfield 48, 3) := by decide +kernel
theorem dX11_addStep_34 : decode cX11_addStep 34 = .ok (.aload_n 0, 1) := by decide +kernel
theorem dX11_addStep_35 : decode cX11_addStep 35 = .ok (.getfield 109, 3) := by decide +kernel
theorem dX11_addStep_38 : decode cX11_addStep 38 = .ok (.iload 4, 2) := by decide +kernel
theorem dX11_addStep_40 : decode cX11_addStep 40 = .ok (.iastore, 1) := by decide +kernel
theorem dX11_addStep_41 : decode cX11_addStep 41 = .ok (.aload_n 0, 1) := by decide +kernel
theorem dX11_addStep_42 : decode cX11_addStep 42 = .ok (.dup, 1) := by decide +kernel
theorem dX11_addStep_43 : decode cX11_addStep 43 = .ok (.getfield 109, 3) := by decide +kernel
theorem dX11_addStep_46 : decode cX11_addStep 46 = .ok (.iconst 1, 1) := by decide +kernel
theorem dX11_addStep_47 : decode cX11_addStep 47 = .ok (.iadd, 1) := by decide +kernel
theorem dX11_addStep_48 : decode cX11_addStep 48 = .ok (.putfield 109, 3) := by decide +kernel
theorem dX11_addStep_51 : decode cX11_addStep 51 = .ok (.return_, 1) := by decide +kernel
theorem dX11_findSteps_0 : decode cX11_findSteps 0 = .ok (.aload_n 0, 1) := by decide +kernel
theorem dX11_findSteps_1 : decode cX11_findSteps 1 = .ok (.iconst 0, 1) := by decide +kernel
theorem dX11_findSteps_2 : decode cX11_findSteps 2 = .ok (.putfield 109, 3) := by decide +kernel
theorem dX11_findSteps_5 : decode cX11_findSteps 5 = .ok (.iconst 0, 1) := by decide +kernel
theorem dX11_findSteps_6 : decode cX11_findSteps 6 = .ok (.istore_n 1, 1) := by decide +kernel
theorem dX11_findSteps_7 : decode cX11_findSteps 7 = .ok (.iload_n 1, 1) := by decide +kernel
theorem dX11_findSteps_8 : decode cX11_findSteps 8 = .ok (.aload_n 0, 1) := by decide +kernel
theorem dX11_findSteps_9 : decode cX11_findSteps 9 = .ok (.getfield 7, 3) := by decide +kernel
theorem dX11_findSteps_12 : decode cX11_findSteps 12 = .ok (.if_icmp .ge 74, 3) := by decide +kernel
theorem dX11_findSteps_15 : decode cX11_findSteps 15 = .ok (.iconst 0, 1) := by decide +kernel
theorem dX11_findSteps_16 : decode cX11_findSteps 16 = .ok (.istore_n 2, 1) := by decide +kernel
theorem dX11_findSteps_17 : decode cX11_findSteps 17 = .ok (.iload_n 2, 1) := by decide +kernel
theorem dX11_findSteps_18 : decode cX11_findSteps 18 = .ok (.iconst 3, 1) := by decide +kernel
theorem dX11_findSteps_19 : decode cX11_findSteps 19 = .ok (.if_icmp .ge 61, 3) := by decide +kernel
theorem dX11_findSteps_22 : decode cX11_findSteps 22 = .ok (.aload_n 0, 1) := by decide +kernel
theorem dX11_findSteps_23 : decode cX11_findSteps 23 = .ok (.getfield 30, 3) := by decide +kernel
theorem dX11_findSteps_26 : decode cX11_findSteps 26 = .ok (.iconst 3, 1) := by decide +kernel
theorem dX11_findSteps_27 : decode cX11_findSteps 27 = .ok (.iload_n 1, 1) := by decide +kernel
theorem dX11_findSteps_28 : decode cX11_findSteps 28 = .ok (.imul, 1) := by decide +kernel
theorem dX11_findSteps_29 : decode cX11_findSteps 29 = .ok (.iconst 2, 1) := by decide +kernel
theorem dX11_findSteps_30 : decode cX11_findSteps 30 = .ok (.iadd, 1) := by decide +kernel
theorem dX11_findSteps_31 : decode cX11_findSteps 31 = .ok (.iaload, 1) := by decide +kernel
theorem dX11_findSteps_32 : decode cX11_findSteps 32 = .ok (.ifCond .ne 48, 3) := by decide +kernel
theorem dX11_findSteps_35 : decode cX11_findSteps 35 = .ok (.aload_n 0, 1) := by decide +kernel
theorem dX11_findSteps_36 : decode cX11_findSteps 36 = .ok (.getfield 30, 3) := by decide +kernel
theorem dX11_findSteps_39 : decode cX11_findSteps 39 = .ok (.iconst 3, 1) := by decide +kernel
theorem dX11_findSteps_40 : decode cX11_findSteps 40 = .ok (.iload_n 1, 1) := by decide +kernel
theorem dX11_findSteps_41 : decode cX11_findSteps 41 = .ok (.imul, 1) := by decide +kernel
theorem dX11_findSteps_42 : decode cX11_findSteps 42 = .ok (.iaload, 1) := by decide +kernel
theorem dX11_findSteps_43 : decode cX11_findSteps 43 = .ok (.bipush 64, 2) := by decide +kernel
theorem dX11_findSteps_45 : decode cX11_findSteps 45 = .ok (.imul, 1) := by decide +kernel
theorem dX11_findSteps_46 : decode cX11_findSteps 46 = .ok (.iload_n 2, 1) := by decide +kernel
theorem dX11_findSteps_47 : decode cX11_findSteps 47 = .ok (.iadd, 1) := by decide +kernel
theorem dX11_findSteps_48 : decode cX11_findSteps 48 = .ok (.istore_n 3, 1) := by decide +kernel
theorem dX11_findSteps_49 : decode cX11_findSteps 49 = .ok (.aload_n 0, 1) := by decide +kernel
theorem dX11_findSteps_50 : decode cX11_findSteps 50 = .ok (.getfield 20, 3) := by decide +kernel
theorem dX11_findSteps_53 : decode cX11_findSteps 53 = .ok (.iload_n 3, 1) := by decide +kernel
theorem dX11_findSteps_54 : decode cX11_findSteps 54 = .ok (.iaload, 1) := by decide +kernel
theorem dX11_findSteps_55 : decode cX11_findSteps 55 = .ok (.ifCond .lt 19, 3) := by decide +kernel
theorem dX11_findSteps_58 : decode cX11_findSteps 58 = .ok (.aload_n 0, 1) := by decide +kernel
theorem dX11_findSteps_59 : decode cX11_findSteps 59 = .ok (.iload_n 3, 1) := by decide +kernel
theorem dX11_findSteps_60 : decode cX11_findSteps 60 = .ok (.invokevirtual 112, 3) := by decide +kernel
theorem dX11_findSteps_63 : decode cX11_findSteps 63 = .ok (.ifCond .ne 11, 3) := by decide +kernel
theorem dX11_findSteps_66 : decode cX11_findSteps 66 = .ok (.aload_n 0, 1) := by decide +kernel
theorem dX11_findSteps_67 : decode cX11_findSteps 67 = .ok (.iload_n 1, 1) := by decide +kernel
theorem dX11_findSteps_68 : decode cX11_findSteps 68 = .ok (.iload_n 2, 1) := by decide +kernel
theorem dX11_findSteps_69 : decode cX11_findSteps 69 = .ok (.iconst (-1), 1) := by decide +kernel
theorem dX11_findSteps_70 : decode cX11_findSteps 70 = .ok (.iconst (-1), 1) := by decide +kernel
theorem dX11_findSteps_71 : decode cX11_findSteps 71 = .ok (.invokevirtual 116, 3) := by decide +kernel
theorem dX11_findSteps_74 : decode cX11_findSteps 74 = .ok (.iinc 2 1, 3) := by decide +kernel
theorem dX11_findSteps_77 : decode cX11_findSteps 77 = .ok (.goto (-60), 3) := by decide +kernel
theorem dX11_findSteps_80 : decode cX11_findSteps 80 = .ok (.iinc 1 1, 3) := by decide +kernel
theorem dX11_findSteps_83 : decode cX11_findSteps 83 = .ok (.goto (-76), 3) := by decide +kernel
theorem dX11_findSteps_86 : decode cX11_findSteps 86 = .ok (.iconst 0, 1) := by decide +kernel
theorem dX11_findSteps_87 : decode cX11_findSteps 87 = .ok (.istore_n 1, 1) := by decide +kernel
theorem dX11_findSteps_88 : decode cX11_findSteps 88 = .ok (.iload_n 1, 1) := by decide +kernel
theorem dX11_findSteps_89 : decode cX11_findSteps 89 = .ok (.aload_n 0, 1) := by decide +kernel
theorem dX11_findSteps_90 : decode cX11_findSteps 90 = .ok (.getfield 30, 3) := by decide +kernel
theorem dX11_findSteps_93 : decode cX11_findSteps 93 = .ok (.bipush 15, 2) := by decide +kernel
theorem dX11_findSteps_95 : decode cX11_findSteps 95 = .ok (.iaload, 1) := by decide +kernel
theorem dX11_findSteps_96 : decode cX11_findSteps 96 = .ok (.if_icmp .ge 133, 3) := by decide +kernel
theorem dX11_findSteps_99 : decode cX11_findSteps 99 = .ok (.iconst 0, 1) := by decide +kernel
theorem dX11_findSteps_100 : decode cX11_findSteps 100 = .ok (.istore_n 2, 1) := by decide +kernel
theorem dX11_findSteps_101 : decode cX11_findSteps 101 = .ok (.iconst 0, 1) := by decide +kernel
theorem dX11_findSteps_102 : decode cX11_findSteps 102 = .ok (.istore_n 3, 1) := by decide +kernel
theorem dX11_findSteps_103 : decode cX11_findSteps 103 = .ok (.iload_n 3, 1) := by decide +kernel
theorem dX11_findSteps_104 : decode cX11_findSteps 104 = .ok (.iload_n 1, 1) := by decide +kernel
theorem dX11_findSteps_105 : decode cX11_findSteps 105 = .ok (.if_icmp .ge 77, 3) := by decide +kernel
theorem dX11_findSteps_108 : decode cX11_findSteps 108 = .ok (.iload_n 2, 1) := by decide +kernel
theorem dX11_findSteps_109 : decode cX11_findSteps 109 = .ok (.ifCond .ne 61, 3) := by decide +kernel
theorem dX11_findSteps_112 : decode cX11_findSteps 112 = .ok (.aload_n 0, 1) := by decide +kernel
theorem dX11_findSteps_113 : decode cX11_findSteps 113 = .ok (.getfield 13, 3) := by decide +kernel
theorem dX11_findSteps_116 : decode cX11_findSteps 116 = .ok (.aload_n 0, 1) := by decide +kernel
theorem dX11_findSteps_117 : decode cX11_findSteps 117 = .ok (.iload_n 1, 1) := by decide +kernel
theorem dX11_findSteps_118 : decode cX11_findSteps 118 = .ok (.iconst 0, 1) := by decide +kernel
theorem dX11_findSteps_119 : decode cX11_findSteps 119 = .ok (.invokevirtual 105, 3) := by decide +kernel
theorem dX11_findSteps_122 : decode cX11_findSteps 122 = .ok (.iaload, 1) := by decide +kernel
theorem dX11_findSteps_123 : decode cX11_findSteps 123 = .ok (.ifCond .ne 51, 3) := by decide +kernel
theorem dX11_findSteps_126 : decode cX11_findSteps 126 = .ok (.aload_n 0, 1) := by decide +kernel
theorem dX11_findSteps_127 : decode cX11_findSteps 127 = .ok (.getfield 13, 3) := by decide +kernel
theorem dX11_findSteps_130 : decode cX11_findSteps 130 = .ok (.aload_n 0, 1) := by decide +kernel
theorem dX11_findSteps_131 : decode cX11_findSteps 131 = .ok (.iload_n 3, 1) := by decide +kernel
theorem dX11_findSteps_132 : decode cX11_findSteps 132 = .ok (.iconst 0, 1) := by decide +kernel
theorem dX11_findSteps_133 : decode cX11_findSteps 133 = .ok (.invokevirtual 105, 3) := by decide +kernel
theorem dX11_findSteps_136 : decode cX11_findSteps 136 = .ok (.iaload, 1) := by decide +kernel
theorem dX11_findSteps_137 : decode cX11_findSteps 137 = .ok (.ifCond .ne 37, 3) := by decide +kernel
theorem dX11_findSteps_140 : decode cX11_findSteps 140 = .ok (.aload_n 0, 1) := by decide +kernel
theorem dX11_findSteps_141 : decode cX11_findSteps 141 = .ok (.iload_n 1, 1) := by decide +kernel
theorem dX11_findSteps_142 : decode cX11_findSteps 142 = .ok (.iconst 1, 1) := by decide +kernel
theorem dX11_findSteps_143 : decode cX11_findSteps 143 = .ok (.invokevirtual 105, 3) := by decide +kernel
theorem dX11_findSteps_146 : decode cX11_findSteps 146 = .ok (.aload_n 0, 1) := by decide +kernel
theorem dX11_findSteps_147 : decode cX11_findSteps 147 = .ok (.iload_n 3, 1) := by decide +kernel
theorem dX11_findSteps_148 : decode cX11_findSteps 148 = .ok (.iconst 1, 1) := by decide +kernel
theorem dX11_findSteps_149 : decode cX11_findSteps 149 = .ok (.invokevirtual 105, 3) := by decide +kernel
theorem dX11_findSteps_152 : decode cX11_findSteps 152 = .ok (.if_icmp .ne 22, 3) := by decide +kernel
theorem dX11_findSteps_155 : decode cX11_findSteps 155 = .ok (.aload_n 0, 1) := by decide +kernel
theorem dX11_findSteps_156 : decode cX11_findSteps 156 = .ok (.iload_n 1, 1) := by decide +kernel
theorem dX11_findSteps_157 : decode cX11_findSteps 157 = .ok (.iconst 2, 1) := by decide +kernel
theorem dX11_findSteps_158 : decode cX11_findSteps 158 = .ok (.invokevirtual 105, 3) := by decide +kernel
theorem dX11_findSteps_161 : decode cX11_findSteps 161 = .ok (.aload_n 0, 1) := by decide +kernel
theorem dX11_findSteps_162 : decode cX11_findSteps 162 = .ok (.iload_n 3, 1) := by decide +kernel
theorem dX11_findSteps_163 : decode cX11_findSteps 163 = .ok (.iconst 2, 1) := by decide +kernel
theorem dX11_findSteps_164 : decode cX11_findSteps 164 = .ok (.invokevirtual 105, 3) := by decide +kernel
theorem dX11_findSteps_167 : decode cX11_findSteps 167 = .ok (.if_icmp .ne 7, 3) := by decide +kernel
theorem dX11_findSteps_170 : decode cX11_findSteps 170 = .ok (.iconst 1, 1) := by decide +kernel
theorem dX11_findSteps_171 : decode cX11_findSteps 171 = .ok (.goto 4, 3) := by decide +kernel
theorem dX11_findSteps_174 : decode cX11_findSteps 174 = .ok (.iconst 0, 1) := by decide +kernel
theorem dX11_findSteps_175 : decode cX11_findSteps 175 = .ok (.istore_n 2, 1) := by decide +kernel
theorem dX11_findSteps_176 : decode cX11_findSteps 176 = .ok (.iinc 3 1, 3) := by decide +kernel
theorem dX11_findSteps_179 : decode cX11_findSteps 179 = .ok (.goto (-76), 3) := by decide +kernel
theorem dX11_findSteps_182 : decode cX11_findSteps 182 = .ok (.iload_n 2, 1) := by decide +kernel
theorem dX11_findSteps_183 : decode cX11_findSteps 183 = .ok (.ifCond .ne 40, 3) := by decide +kernel
theorem dX11_findSteps_186 : decode cX11_findSteps 186 = .ok (.aload_n 0, 1) := by decide +kernel
theorem dX11_findSteps_187 : decode cX11_findSteps 187 = .ok (.aload_n 0, 1) := by decide +kernel
theorem dX11_findSteps_188 : decode cX11_findSteps 188 = .ok (.iload_n 1, 1) := by decide +kernel
theorem dX11_findSteps_189 : decode cX11_findSteps 189 = .ok (.invokevirtual 120, 3) := by decide +kernel
theorem dX11_findSteps_192 : decode cX11_findSteps 192 = .ok (.invokevirtual 112, 3) := by decide +kernel
theorem dX11_findSteps_195 : decode cX11_findSteps 195 = .ok (.ifCond .ne 28, 3) := by decide +kernel
theorem dX11_findSteps_198 : decode cX11_findSteps 198 = .ok (.aload_n 0, 1) := by decide +kernel
theorem dX11_findSteps_199 : decode cX11_findSteps 199 = .ok (.aload_n 0, 1) := by decide +kernel
theorem dX11_findSteps_200 : decode cX11_findSteps 200 = .ok (.iload_n 1, 1) := by decide +kernel
theorem dX11_findSteps_201 : decode cX11_findSteps 201 = .ok (.iconst 2, 1) := by decide +kernel
theorem dX11_findSteps_202 : decode cX11_findSteps 202 = .ok (.invokevirtual 105, 3) := by decide +kernel
theorem dX11_findSteps_205 : decode cX11_findSteps 205 = .ok (.iconst 3, 1) := by decide +kernel
theorem dX11_findSteps_206 : decode cX11_findSteps 206 = .ok (.aload_n 0, 1) := by decide +kernel
theorem dX11_findSteps_207 : decode cX11_findSteps 207 = .ok (.iload_n 1, 1) := by decide +kernel
theorem dX11_findSteps_208 : decode cX11_findSteps 208 = .ok (.iconst 0, 1) := by decide +kernel
theorem dX11_findSteps_209 : decode cX11_findSteps 209 = .ok (.invokevirtual 105, 3) := by decide +kernel
theorem dX11_findSteps_212 : decode cX11_findSteps 212 = .ok (.iadd, 1) := by decide +kernel
theorem dX11_findSteps_213 : decode cX11_findSteps 213 = .ok (.aload_n 0, 1) := by decide +kernel
theorem dX11_findSteps_214 : decode cX11_findSteps 214 = .ok (.iload_n 1, 1) := by decide +kernel
theorem dX11_findSteps_215 : decode cX11_findSteps 215 = .ok (.iconst 1, 1) := by decide +kernel
theorem dX11_findSteps_216 : decode cX11_findSteps 216 = .ok (.invokevirtual 105, 3) := by decide +kernel
theorem dX11_findSteps_219 : decode cX11_findSteps 219 = .ok (.iload_n 1, 1) := by decide +kernel
theorem dX11_findSteps_220 : decode cX11_findSteps 220 = .ok (.invokevirtual 116, 3) := by decide +kernel
theorem dX11_findSteps_223 : decode cX11_findSteps 223 = .ok (.iinc 1 1, 3) := by decide +kernel
theorem dX11_findSteps_226 : decode cX11_findSteps 226 = .ok (.goto (-138), 3) := by decide +kernel
theorem dX11_findSteps_229 : decode cX11_findSteps 229 = .ok (.return_, 1) := by decide +kernel
theorem dX11_compareLetters_0 : decode cX11_compareLetters 0 = .ok (.iload_n 0, 1) := by decide +kernel
theorem dX11_compareLetters_1 : decode cX11_compareLetters 1 = .ok (.iload_n 1, 1) := by decide +kernel
theorem dX11_compareLetters_2 : decode cX11_compareLetters 2 = .ok (.if_icmp .ge 7, 3) := by decide +kernel
theorem dX11_compareLetters_5 : decode cX11_compareLetters 5 = .ok (.iconst (-1), 1) := by decide +kernel
theorem dX11_compareLetters_6 : decode cX11_compareLetters 6 = .ok (.goto 13, 3) := by decide +kernel
theorem dX11_compareLetters_9 : decode cX11_compareLetters 9 = .ok (.iload_n 0, 1) := by decide +kernel
theorem dX11_compareLetters_10 : decode cX11_compareLetters 10 = .ok (.iload_n 1, 1) := by decide +kernel
theorem dX11_compareLetters_11 : decode cX11_compareLetters 11 = .ok (.if_icmp .le 7, 3) := by decide +kernel
theorem dX11_compareLetters_14 : decode cX11_compareLetters 14 = .ok (.iconst 1, 1) := by decide +kernel
theorem dX11_compareLetters_15 : decode cX11_compareLetters 15 = .ok (.goto 4, 3) := by decide +kernel
theorem dX11_compareLetters_18 : decode cX11_compareLetters 18 = .ok (.iconst 0, 1) := by decide +kernel
theorem dX11_compareLetters_19 : decode cX11_compareLetters 19 = .ok (.ireturn, 1) := by decide +kernel
theorem dX11_isAhead_0 : decode cX11_isAhead 0 = .ok (.iload_n 2, 1) := by decide +kernel
theorem dX11_isAhead_1 : decode cX11_isAhead 1 = .ok (.aload_n 0, 1) := by decide +kernel
theorem dX11_isAhead_2 : decode cX11_isAhead 2 = .ok (.iload 6, 2) := by decide +kernel
theorem dX11_isAhead_4 : decode cX11_isAhead 4 = .ok (.iconst 1, 1) := by decide +kernel
theorem dX11_isAhead_5 : decode cX11_isAhead 5 = .ok (.invokevirtual 105, 3) := by decide +kernel
theorem dX11_isAhead_8 : decode cX11_isAhead 8 = .ok (.invokestatic 123, 3) := by decide +kernel
theorem dX11_isAhead_11 : decode cX11_isAhead 11 = .ok (.istore 7, 2) := by decide +kernel
theorem dX11_isAhead_13 : decode cX11_isAhead 13 = .ok (.iload 7, 2) := by decide +kernel
theorem dX11_isAhead_15 : decode cX11_isAhead 15 = .ok (.ifCond .eq 8, 3) := by decide +kernel
theorem dX11_isAhead_18 : decode cX11_isAhead 18 = .ok (.iload 7, 2) := by decide +kernel
theorem dX11_isAhead_20 : decode cX11_isAhead 20 = .ok (.goto 14, 3) := by decide +kernel
theorem dX11_isAhead_23 : decode cX11_isAhead 23 = .ok (.iload_n 3, 1) := by decide +kernel
theorem dX11_isAhead_24 : decode cX11_isAhead 24 = .ok (.aload_n 0, 1) := by decide +kernel
theorem dX11_isAhead_25 : decode cX11_isAhead 25 = .ok (.iload 6, 2) := by decide +kernel
theorem dX11_isAhead_27 : decode cX11_isAhead 27 = .ok (.iconst 2, 1) := by decide +kernel
theorem dX11_isAhead_28 : decode cX11_isAhead 28 = .ok (.invokevirtual 105, 3) := by decide +kernel
theorem dX11_isAhead_31 : decode cX11_isAhead 31 = .ok (.invokestatic 123, 3) := by decide +kernel
theorem dX11_isAhead_34 : decode cX11_isAhead 34 = .ok (.istore 7, 2) := by decide +kernel
theorem dX11_isAhead_36 : decode cX11_isAhead 36 = .ok (.iload 7, 2) := by decide +kernel
theorem dX11_isAhead_38 : decode cX11_isAhead 38 = .ok (.ifCond .eq 8, 3) := by decide +kernel
theorem dX11_isAhead_41 : decode cX11_isAhead 41 = .ok (.iload 7, 2) := by decide +kernel
theorem dX11_isAhead_43 : decode cX11_isAhead 43 = .ok (.goto 24, 3) := by decide +kernel
theorem dX11_isAhead_46 : decode cX11_isAhead 46 = .ok (.aload_n 0, 1) := by decide +kernel
theorem dX11_isAhead_47 : decode cX11_isAhead 47 = .ok (.getfield 13, 3) := by decide +kernel
theorem dX11_isAhead_50 : decode cX11_isAhead 50 = .ok (.iload_n 1, 1) := by decide +kernel
theorem dX11_isAhead_51 : decode cX11_isAhead 51 = .ok (.iaload, 1) := by decide +kernel
theorem dX11_isAhead_52 : decode cX11_isAhead 52 = .ok (.aload_n 0, 1) := by decide +kernel
theorem dX11_isAhead_53 : decode cX11_isAhead 53 = .ok (.getfield 13, 3) := by decide +kernel
theorem dX11_isAhead_56 : decode cX11_isAhead 56 = .ok (.aload_n 0, 1) := by decide +kernel
theorem dX11_isAhead_57 : decode cX11_isAhead 57 = .ok (.iload 6, 2) := by decide +kernel
theorem dX11_isAhead_59 : decode cX11_isAhead 59 = .ok (.iconst 0, 1) := by decide +kernel
theorem dX11_isAhead_60 : decode cX11_isAhead 60 = .ok (.invokevirtual 105, 3) := by decide +kernel
theorem dX11_isAhead_63 : decode cX11_isAhead 63 = .ok (.iaload, 1) := by decide +kernel
theorem dX11_isAhead_64 : decode cX11_isAhead 64 = .ok (.invokestatic 123, 3) := by decide +kernel
theorem dX11_isAhead_67 : decode cX11_isAhead 67 = .ok (.istore 7, 2) := by decide +kernel
theorem dX11_isAhead_69 : decode cX11_isAhead 69 = .ok (.iload 7, 2) := by decide +kernel
theorem dX11_isAhead_71 : decode cX11_isAhead 71 = .ok (.ifCond .ne 12, 3) := by decide +kernel
theorem dX11_isAhead_74 : decode cX11_isAhead 74 = .ok (.aload_n 0, 1) := by decide +kernel
theorem dX11_isAhead_75 : decode cX11_isAhead 75 = .ok (.getfield 13, 3) := by decide +kernel
theorem dX11_isAhead_78 : decode cX11_isAhead 78 = .ok (.iload_n 1, 1) := by decide +kernel
theorem dX11_isAhead_79 : decode cX11_isAhead 79 = .ok (.iaload, 1) := by decide +kernel
theorem dX11_isAhead_80 : decode cX11_isAhead 80 = .ok (.ifCond .ne 14, 3) := by decide +kernel
theorem dX11_isAhead_83 : decode cX11_isAhead 83 = .ok (.iload 7, 2) := by decide +kernel
theorem dX11_isAhead_85 : decode cX11_isAhead 85 = .ok (.ifCond .ge 7, 3) := by decide +kernel
theorem dX11_isAhead_88 : decode cX11_isAhead 88 = .ok (.iconst 1, 1) := by decide +kernel
theorem dX11_isAhead_89 : decode cX11_isAhead 89 = .ok (.goto 4, 3) := by decide +kernel
theorem dX11_isAhead_92 : decode cX11_isAhead 92 = .ok (.iconst 0, 1) := by decide +kernel
theorem dX11_isAhead_93 : decode cX11_isAhead 93 = .ok (.ireturn, 1) := by decide +kernel
theorem dX11_isAhead_94 : decode cX11_isAhead 94 = .ok (.iload_n 1, 1) := by decide +kernel
theorem dX11_isAhead_95 : decode cX11_isAhead 95 = .ok (.aload_n 0, 1) := by decide +kernel
theorem dX11_isAhead_96 : decode cX11_isAhead 96 = .ok (.iload 6, 2) := by decide +kernel
theorem dX11_isAhead_98 : decode cX11_isAhead 98 = .ok (.iconst 0, 1) := by decide +kernel
theorem dX11_isAhead_99 : decode cX11_isAhead 99 = .ok (.invokevirtual 105, 3) := by decide +kernel
theorem dX11_isAhead_102 : decode cX11_isAhead 102 = .ok (.invokestatic 123, 3) := by decide +kernel
theorem dX11_isAhead_105 : decode cX11_isAhead 105 = .ok (.istore 7, 2) := by decide +kernel
theorem dX11_isAhead_107 : decode cX11_isAhead 107 = .ok (.iload 7, 2) := by decide +kernel
theorem dX11_isAhead_109 : decode cX11_isAhead 109 = .ok (.ifCond .eq 8, 3) := by decide +kernel
theorem dX11_isAhead_112 : decode cX11_isAhead 112 = .ok (.iload 7, 2) := by decide +kernel
theorem dX11_isAhead_114 : decode cX11_isAhead 114 = .ok (.goto 15, 3) := by decide +kernel
theorem dX11_isAhead_117 : decode cX11_isAhead 117 = .ok (.iload 4, 2) := by decide +kernel
theorem dX11_isAhead_119 : decode cX11_isAhead 119 = .ok (.aload_n 0, 1) := by decide +kernel
theorem dX11_isAhead_120 : decode cX11_isAhead 120 = .ok (.iload 6, 2) := by decide +kernel
theorem dX11_isAhead_122 : decode cX11_isAhead 122 = .ok (.iconst 3, 1) := by decide +kernel
theorem dX11_isAhead_123 : decode cX11_isAhead 123 = .ok (.invokevirtual 105, 3) := by decide +kernel
theorem dX11_isAhead_126 : decode cX11_isAhead 126 = .ok (.invokestatic 123, 3) := by decide +kernel
theorem dX11_isAhead_129 : decode cX11_isAhead 129 = .ok (.istore 7, 2) := by decide +kernel
theorem dX11_isAhead_131 : decode cX11_isAhead 131 = .ok (.iload 7, 2) := by decide +kernel
theorem dX11_isAhead_133 : decode cX11_isAhead 133 = .ok (.ifCond .eq 8, 3) := by decide +kernel
theorem dX11_isAhead_136 : decode cX11_isAhead 136 = .ok (.iload 7, 2) := by decide +kernel
theorem dX11_isAhead_138 : decode cX11_isAhead 138 = .ok (.goto 15, 3) := by decide +kernel
theorem dX11_isAhead_141 : decode cX11_isAhead 141 = .ok (.iload 5, 2) := by decide +kernel
theorem dX11_isAhead_143 : decode cX11_isAhead 143 = .ok (.aload_n 0, 1) := by decide +kernel
theorem dX11_isAhead_144 : decode cX11_isAhead 144 = .ok (.iload 6, 2) := by decide +kernel
theorem dX11_isAhead_146 : decode cX11_isAhead 146 = .ok (.iconst 4, 1) := by decide +kernel
theorem dX11_isAhead_147 : decode cX11_isAhead 147 = .ok (.invokevirtual 105, 3) := by decide +kernel
theorem dX11_isAhead_150 : decode cX11_isAhead 150 = .ok (.invokestatic 123, 3) := by decide +kernel
theorem dX11_isAhead_153 : decode cX11_isAhead 153 = .ok (.istore 7, 2) := by decide +kernel
theorem dX11_isAhead_155 : decode cX11_isAhead 155 = .ok (.iload 7, 2) := by decide +kernel
theorem dX11_isAhead_157 : decode cX11_isAhead 157 = .ok (.ifCond .ge 7, 3) := by decide +kernel
theorem dX11_isAhead_160 : decode cX11_isAhead 160 = .ok (.iconst 1, 1) := by decide +kernel
theorem dX11_isAhead_161 : decode cX11_isAhead 161 = .ok (.goto 4, 3) := by decide +kernel
theorem dX11_isAhead_164 : decode cX11_isAhead 164 = .ok (.iconst 0, 1) := by decide +kernel
theorem dX11_isAhead_165 : decode cX11_isAhead 165 = .ok (.ireturn, 1) := by decide +kernel
theorem dX11_send_0 : decode cX11_send 0 = .ok (.aload_n 0, 1) := by decide +kernel
theorem dX11_send_1 : decode cX11_send 1 = .ok (.getfield 30, 3) := by decide +kernel
theorem dX11_send_4 : decode cX11_send 4 = .ok (.bipush 15, 2) := by decide +kernel
theorem dX11_send_6 : decode cX11_send 6 = .ok (.iaload, 1) := by decide +kernel
theorem dX11_send_7 : decode cX11_send 7 = .ok (.bipush 8, 2) := by decide +kernel
theorem dX11_send_9 : decode cX11_send 9 = .ok (.if_icmp .ne 5, 3) := by decide +kernel
theorem dX11_send_12 : decode cX11_send 12 = .ok (.iconst 0, 1) := by decide +kernel
theorem dX11_send_13 : decode cX11_send 13 = .ok (.ireturn, 1) := by decide +kernel
theorem dX11_send_14 : decode cX11_send 14 = .ok (.aload_n 0, 1) := by decide +kernel
theorem dX11_send_15 : decode cX11_send 15 = .ok (.getfield 30, 3) := by decide +kernel
theorem dX11_send_18 : decode cX11_send 18 = .ok (.bipush 15, 2) := by decide +kernel
theorem dX11_send_20 : decode cX11_send 20 = .ok (.iaload, 1) := by decide +kernel
theorem dX11_send_21 : decode cX11_send 21 = .ok (.istore 6, 2) := by decide +kernel
theorem dX11_send_23 : decode cX11_send 23 = .ok (.iload 6, 2) := by decide +kernel
theorem dX11_send_25 : decode cX11_send 25 = .ok (.ifCond .le 67, 3) := by decide +kernel
theorem dX11_send_28 : decode cX11_send 28 = .ok (.aload_n 0, 1) := by decide +kernel
theorem dX11_send_29 : decode cX11_send 29 = .ok (.iload_n 1, 1) := by decide +kernel
theorem dX11_send_30 : decode cX11_send 30 = .ok (.iload_n 2, 1) := by decide +kernel
theorem dX11_send_31 : decode cX11_send 31 = .ok (.iload_n 3, 1) := by decide +kernel
theorem dX11_send_32 : decode cX11_send 32 = .ok (.iload 4, 2) := by decide +kernel
theorem dX11_send_34 : decode cX11_send 34 = .ok (.iload 5, 2) := by decide +kernel
theorem dX11_send_36 : decode cX11_send 36 = .ok (.iload 6, 2) := by decide +kernel
theorem dX11_send_38 : decode cX11_send 38 = .ok (.iconst 1, 1) := by decide +kernel
theorem dX11_send_39 : decode cX11_send 39 = .ok (.isub, 1) := by decide +kernel
theorem dX11_send_40 : decode cX11_send 40 = .ok (.invokevirtual 126, 3) := by decide +kernel
theorem dX11_send_43 : decode cX11_send 43 = .ok (.ifCond .eq 49, 3) := by decide +kernel
theorem dX11_send_46 : decode cX11_send 46 = .ok (.iconst 0, 1) := by decide +kernel
theorem dX11_send_47 : decode cX11_send 47 = .ok (.istore 7, 2) := by decide +kernel
theorem dX11_send_49 : decode cX11_send 49 = .ok (.iload 7, 2) := by decide +kernel
theorem dX11_send_51 : decode cX11_send 51 = .ok (.iconst 5, 1) := by decide +kernel
theorem dX11_send_52 : decode cX11_send 52 = .ok (.if_icmp .ge 34, 3) := by decide +kernel
theorem dX11_send_55 : decode cX11_send 55 = .ok (.aload_n 0, 1) := by decide +kernel
theorem dX11_send_56 : decode cX11_send 56 = .ok (.getfield 30, 3) := by decide +kernel
theorem dX11_send_59 : decode cX11_send 59 = .ok (.bipush 16, 2) := by decide +kernel
theorem dX11_send_61 : decode cX11_send 61 = .ok (.iconst 5, 1) := by decide +kernel
theorem dX11_send_62 : decode cX11_send 62 = .ok (.iload 6, 2) := by decide +kernel
theorem dX11_send_64 : decode cX11_send 64 = .ok (.imul, 1) := by decide +kernel
theorem dX11_send_65 : decode cX11_send 65 = .ok (.iadd, 1) := by decide +kernel
theorem dX11_send_66 : decode cX11_send 66 = .ok (.iload 7, 2) := by decide +kernel
theorem dX11_send_68 : decode cX11_send 68 = .ok (.iadd, 1) := by decide +kernel
theorem dX11_send_69 : decode cX11_send 69 = .ok (.aload_n 0, 1) := by decide +kernel
theorem dX11_send_70 : decode cX11_send 70 = .ok (.iload 6, 2) := by decide +kernel
theorem dX11_send_72 : decode cX11_send 72 = .ok (.iconst 1, 1) := by decide +kernel
theorem dX11_send_73 : decode cX11_send 73 = .ok (.isub, 1) := by decide +kernel
theorem dX11_send_74 : decode cX11_send 74 = .ok (.iload 7, 2) := by decide +kernel
theorem dX11_send_76 : decode cX11_send 76 = .ok (.invokevirtual 105, 3) := by decide +kernel
theorem dX11_send_79 : decode cX11_send 79 = .ok (.iastore, 1) := by decide +kernel
theorem dX11_send_80 : decode cX11_send 80 = .ok (.iinc 7 1, 3) := by decide +kernel
theorem dX11_send_83 : decode cX11_send 83 = .ok (.goto (-34), 3) := by decide +kernel
theorem dX11_send_86 : decode cX11_send 86 = .ok (.iinc 6 (-1), 3) := by decide +kernel
theorem dX11_send_89 : decode cX11_send 89 = .ok (.goto (-66), 3) := by decide +kernel
theorem dX11_send_92 : decode cX11_send 92 = .ok (.bipush 16, 2) := by decide +kernel
theorem dX11_send_94 : decode cX11_send 94 = .ok (.iconst 5, 1) := by decide +kernel
theorem dX11_send_95 : decode cX11_send 95 = .ok (.iload 6, 2) := by decide +kernel
theorem dX11_send_97 : decode cX11_send 97 = .ok (.imul, 1) := by decide +kernel
theorem dX11_send_98 : decode cX11_send 98 = .ok (.iadd, 1) := by decide +kernel
theorem dX11_send_99 : decode cX11_send 99 = .ok (.istore 7, 2) := by decide +kernel
theorem dX11_send_101 : decode cX11_send 101 = .ok (.aload_n 0, 1) := by decide +kernel
theorem dX11_send_102 : decode cX11_send 102 = .ok (.getfield 30, 3) := by decide +kernel
theorem dX11_send_105 : decode cX11_send 105 = .ok (.iload 7, 2) := by decide +kernel
theorem dX11_send_107 : decode cX11_send 107 = .ok (.iload_n 1, 1) := by decide +kernel
theorem dX11_send_108 : decode cX11_send 108 = .ok (.iastore, 1) := by decide +kernel
theorem dX11_send_109 : decode cX11_send 109 = .ok (.aload_n 0, 1) := by decide +kernel
theorem dX11_send_110 : decode cX11_send 110 = .ok (.getfield 30, 3) := by decide +kernel
theorem dX11_send_113 : decode cX11_send 113 = .ok (.iload 7, 2) := by decide +kernel
theorem dX11_send_115 : decode cX11_send 115 = .ok (.iconst 1, 1) := by decide +kernel
theorem dX11_send_116 : decode cX11_send 116 = .ok (.iadd, 1) := by decide +kernel
theorem dX11_send_117 : decode cX11_send 117 = .ok (.iload_n 2, 1) := by decide +kernel
theorem dX11_send_118 : decode cX11_send 118 = .ok (.iastore, 1) := by decide +kernel
theorem dX11_send_119 : decode cX11_send 119 = .ok (.aload_n 0, 1) := by decide +kernel
theorem dX11_send_120 : decode cX11_send 120 = .ok (.getfield 30, 3) := by decide +kernel
theorem dX11_send_123 : decode cX11_send 123 = .ok (.iload 7, 2) := by decide +kernel
theorem dX11_send_125 : decode cX11_send 125 = .ok (.iconst 2, 1) := by decide +kernel
theorem dX11_send_126 : decode cX11_send 126 = .ok (.iadd, 1) := by decide +kernel
theorem dX11_send_127 : decode cX11_send 127 = .ok (.iload_n 3, 1) := by decide +kernel
theorem dX11_send_128 : decode cX11_send 128 = .ok (.iastore, 1) := by decide +kernel
theorem dX11_send_129 : decode cX11_send 129 = .ok (.aload_n 0, 1) := by decide +kernel
theorem dX11_send_130 : decode cX11_send 130 = .ok (.getfield 30, 3) := by decide +kernel
theorem dX11_send_133 : decode cX11_send 133 = .ok (.iload 7, 2) := by decide +kernel
theorem dX11_send_135 : decode cX11_send 135 = .ok (.iconst 3, 1) := by decide +kernel
theorem dX11_send_136 : decode cX11_send 136 = .ok (.iadd, 1) := by decide +kernel
theorem dX11_send_137 : decode cX11_send 137 = .ok (.iload 4, 2) := by decide +kernel
theorem dX11_send_139 : decode cX11_send 139 = .ok (.iastore, 1) := by decide +kernel
theorem dX11_send_140 : decode cX11_send 140 = .ok (.aload_n 0, 1) := by decide +kernel
theorem dX11_send_141 : decode cX11_send 141 = .ok (.getfield 30, 3) := by decide +kernel
theorem dX11_send_144 : decode cX11_send 144 = .ok (.iload 7, 2) := by decide +kernel
theorem dX11_send_146 : decode cX11_send 146 = .ok (.iconst 4, 1) := by decide +kernel
theorem dX11_send_147 : decode cX11_send 147 = .ok (.iadd, 1) := by decide +kernel
theorem dX11_send_148 : decode cX11_send 148 = .ok (.iload 5, 2) := by decide +kernel
theorem dX11_send_150 : decode cX11_send 150 = .ok (.iastore, 1) := by decide +kernel
theorem dX11_send_151 : decode cX11_send 151 = .ok (.aload_n 0, 1) := by decide +kernel
theorem dX11_send_152 : decode cX11_send 152 = .ok (.getfield 30, 3) := by decide +kernel
theorem dX11_send_155 : decode cX11_send 155 = .ok (.bipush 15, 2) := by decide +kernel
theorem dX11_send_157 : decode cX11_send 157 = .ok (.dup2, 1) := by decide +kernel
theorem dX11_send_158 : decode cX11_send 158 = .ok (.iaload, 1) := by decide +kernel
theorem dX11_send_159 : decode cX11_send 159 = .ok (.iconst 1, 1) := by decide +kernel
theorem dX11_send_160 : decode cX11_send 160 = .ok (.iadd, 1) := by decide +kernel
theorem dX11_send_161 : decode cX11_send 161 = .ok (.iastore, 1) := by decide +kernel
theorem dX11_send_162 : decode cX11_send 162 = .ok (.iconst 1, 1) := by decide +kernel
theorem dX11_send_163 : decode cX11_send 163 = .ok (.ireturn, 1) := by decide +kernel
theorem dX11_takeLetter_0 : decode cX11_takeLetter 0 = .ok (.aload_n 0, 1) := by decide +kernel
theorem dX11_takeLetter_1 : decode cX11_takeLetter 1 = .ok (.aload_n 0, 1) := by decide +kernel
theorem dX11_takeLetter_2 : decode cX11_takeLetter 2 = .ok (.iload_n 1, 1) := by decide +kernel
theorem dX11_takeLetter_3 : decode cX11_takeLetter 3 = .ok (.iconst 0, 1) := by decide +kernel
theorem dX11_takeLetter_4 : decode cX11_takeLetter 4 = .ok (.invokevirtual 105, 3) := by decide +kernel
theorem dX11_takeLetter_7 : decode cX11_takeLetter 7 = .ok (.putfield 130, 3) := by decide +kernel
theorem dX11_takeLetter_10 : decode cX11_takeLetter 10 = .ok (.aload_n 0, 1) := by decide +kernel
theorem dX11_takeLetter_11 : decode cX11_takeLetter 11 = .ok (.aload_n 0, 1) := by decide +kernel
theorem dX11_takeLetter_12 : decode cX11_takeLetter 12 = .ok (.iload_n 1, 1) := by decide +kernel
theorem dX11_takeLetter_13 : decode cX11_takeLetter 13 = .ok (.iconst 3, 1) := by decide +kernel
theorem dX11_takeLetter_14 : decode cX11_takeLetter 14 = .ok (.invokevirtual 105, 3) := by decide +kernel
theorem dX11_takeLetter_17 : decode cX11_takeLetter 17 = .ok (.putfield 133, 3) := by decide +kernel
theorem dX11_takeLetter_20 : decode cX11_takeLetter 20 = .ok (.aload_n 0, 1) := by decide +kernel
theorem dX11_takeLetter_21 : decode cX11_takeLetter 21 = .ok (.aload_n 0, 1) := by decide +kernel
theorem dX11_takeLetter_22 : decode cX11_takeLetter 22 = .ok (.iload_n 1, 1) := by decide +kernel
theorem dX11_takeLetter_23 : decode cX11_takeLetter 23 = .ok (.iconst 4, 1) := by decide +kernel
theorem dX11_takeLetter_24 : decode cX11_takeLetter 24 = .ok (.invokevirtual 105, 3) := by decide +kernel
theorem dX11_takeLetter_27 : decode cX11_takeLetter 27 = .ok (.putfield 136, 3) := by decide +kernel
theorem dX11_takeLetter_30 : decode cX11_takeLetter 30 = .ok (.aload_n 0, 1) := by decide +kernel
theorem dX11_takeLetter_31 : decode cX11_takeLetter 31 = .ok (.getfield 30, 3) := by decide +kernel
theorem dX11_takeLetter_34 : decode cX11_takeLetter 34 = .ok (.bipush 15, 2) := by decide +kernel
theorem dX11_takeLetter_36 : decode cX11_takeLetter 36 = .ok (.dup2, 1) := by decide +kernel
theorem dX11_takeLetter_37 : decode cX11_takeLetter 37 = .ok (.iaload, 1) := by decide +kernel
theorem dX11_takeLetter_38 : decode cX11_takeLetter 38 = .ok (.iconst 1, 1) := by decide +kernel
theorem dX11_takeLetter_39 : decode cX11_takeLetter 39 = .ok (.isub, 1) := by decide +kernel
theorem dX11_takeLetter_40 : decode cX11_takeLetter 40 = .ok (.iastore, 1) := by decide +kernel
theorem dX11_takeLetter_41 : decode cX11_takeLetter 41 = .ok (.iload_n 1, 1) := by decide +kernel
theorem dX11_takeLetter_42 : decode cX11_takeLetter 42 = .ok (.istore_n 2, 1) := by decide +kernel
theorem dX11_takeLetter_43 : decode cX11_takeLetter 43 = .ok (.iload_n 2, 1) := by decide +kernel
theorem dX11_takeLetter_44 : decode cX11_takeLetter 44 = .ok (.aload_n 0, 1) := by decide +kernel
theorem dX11_takeLetter_45 : decode cX11_takeLetter 45 = .ok (.getfield 30, 3) := by decide +kernel
theorem dX11_takeLetter_48 : decode cX11_takeLetter 48 = .ok (.bipush 15, 2) := by decide +kernel
theorem dX11_takeLetter_50 : decode cX11_takeLetter 50 = .ok (.iaload, 1) := by decide +kernel
theorem dX11_takeLetter_51 : decode cX11_takeLetter 51 = .ok (.if_icmp .ge 43, 3) := by decide +kernel
theorem dX11_takeLetter_54 : decode cX11_takeLetter 54 = .ok (.iconst 0, 1) := by decide +kernel
theorem dX11_takeLetter_55 : decode cX11_takeLetter 55 = .ok (.istore_n 3, 1) := by decide +kernel
theorem dX11_takeLetter_56 : decode cX11_takeLetter 56 = .ok (.iload_n 3, 1) := by decide +kernel
theorem dX11_takeLetter_57 : decode cX11_takeLetter 57 = .ok (.iconst 5, 1) := by decide +kernel
theorem dX11_takeLetter_58 : decode cX11_takeLetter 58 = .ok (.if_icmp .ge 30, 3) := by decide +kernel
theorem dX11_takeLetter_61 : decode cX11_takeLetter 61 = .ok (.aload_n 0, 1) := by decide +kernel
theorem dX11_takeLetter_62 : decode cX11_takeLetter 62 = .ok (.getfield 30, 3) := by decide +kernel
theorem dX11_takeLetter_65 : decode cX11_takeLetter 65 = .ok (.bipush 16, 2) := by decide +kernel
theorem dX11_takeLetter_67 : decode cX11_takeLetter 67 = .ok (.iconst 5, 1) := by decide +kernel
theorem dX11_takeLetter_68 : decode cX11_takeLetter 68 = .ok (.iload_n 2, 1) := by decide +kernel
theorem dX11_takeLetter_69 : decode cX11_takeLetter 69 = .ok (.imul, 1) := by decide +kernel
theorem dX11_takeLetter_70 : decode cX11_takeLetter 70 = .ok (.iadd, 1) := by decide +kernel
theorem dX11_takeLetter_71 : decode cX11_takeLetter 71 = .ok (.iload_n 3, 1) := by decide +kernel
theorem dX11_takeLetter_72 : decode cX11_takeLetter 72 = .ok (.iadd, 1) := by decide +kernel
theorem dX11_takeLetter_73 : decode cX11_takeLetter 73 = .ok (.aload_n 0, 1) := by decide +kernel
theorem dX11_takeLetter_74 : decode cX11_takeLetter 74 = .ok (.iload_n 2, 1) := by decide +kernel
theorem dX11_takeLetter_75 : decode cX11_takeLetter 75 = .ok (.iconst 1, 1) := by decide +kernel
theorem dX11_takeLetter_76 : decode cX11_takeLetter 76 = .ok (.iadd, 1) := by decide +kernel
theorem dX11_takeLetter_77 : decode cX11_takeLetter 77 = .ok (.iload_n 3, 1) := by decide +kernel
theorem dX11_takeLetter_78 : decode cX11_takeLetter 78 = .ok (.invokevirtual 105, 3) := by decide +kernel
theorem dX11_takeLetter_81 : decode cX11_takeLetter 81 = .ok (.iastore, 1) := by decide +kernel
theorem dX11_takeLetter_82 : decode cX11_takeLetter 82 = .ok (.iinc 3 1, 3) := by decide +kernel
theorem dX11_takeLetter_85 : decode cX11_takeLetter 85 = .ok (.goto (-29), 3) := by decide +kernel
theorem dX11_takeLetter_88 : decode cX11_takeLetter 88 = .ok (.iinc 2 1, 3) := by decide +kernel
theorem dX11_takeLetter_91 : decode cX11_takeLetter 91 = .ok (.goto (-48), 3) := by decide +kernel
theorem dX11_takeLetter_94 : decode cX11_takeLetter 94 = .ok (.iconst 0, 1) := by decide +kernel
theorem dX11_takeLetter_95 : decode cX11_takeLetter 95 = .ok (.istore_n 2, 1) := by decide +kernel
theorem dX11_takeLetter_96 : decode cX11_takeLetter 96 = .ok (.iload_n 2, 1) := by decide +kernel
theorem dX11_takeLetter_97 : decode cX11_takeLetter 97 = .ok (.iconst 5, 1) := by decide +kernel
theorem dX11_takeLetter_98 : decode cX11_takeLetter 98 = .ok (.if_icmp .ge 29, 3) := by decide +kernel
theorem dX11_takeLetter_101 : decode cX11_takeLetter 101 = .ok (.aload_n 0, 1) := by decide +kernel
theorem dX11_takeLetter_102 : decode cX11_takeLetter 102 = .ok (.getfield 30, 3) := by decide +kernel
theorem dX11_takeLetter_105 : decode cX11_takeLetter 105 = .ok (.bipush 16, 2) := by decide +kernel
theorem dX11_takeLetter_107 : decode cX11_takeLetter 107 = .ok (.iconst 5, 1) := by decide +kernel
theorem dX11_takeLetter_108 : decode cX11_takeLetter 108 = .ok (.aload_n 0, 1) := by decide +kernel
theorem dX11_takeLetter_109 : decode cX11_takeLetter 109 = .ok (.getfield 30, 3) := by decide +kernel
theorem dX11_takeLetter_112 : decode cX11_takeLetter 112 = .ok (.bipush 15, 2) := by decide +kernel
theorem dX11_takeLetter_114 : decode cX11_takeLetter 114 = .ok (.iaload, 1) := by decide +kernel
theorem dX11_takeLetter_115 : decode cX11_takeLetter 115 = .ok (.imul, 1) := by decide +kernel
theorem dX11_takeLetter_116 : decode cX11_takeLetter 116 = .ok (.iadd, 1) := by decide +kernel
theorem dX11_takeLetter_117 : decode cX11_takeLetter 117 = .ok (.iload_n 2, 1) := by decide +kernel
theorem dX11_takeLetter_118 : decode cX11_takeLetter 118 = .ok (.iadd, 1) := by decide +kernel
theorem dX11_takeLetter_119 : decode cX11_takeLetter 119 = .ok (.iconst 0, 1) := by decide +kernel
theorem dX11_takeLetter_120 : decode cX11_takeLetter 120 = .ok (.iastore, 1) := by decide +kernel
theorem dX11_takeLetter_121 : decode cX11_takeLetter 121 = .ok (.iinc 2 1, 3) := by decide +kernel
theorem dX11_takeLetter_124 : decode cX11_takeLetter 124 = .ok (.goto (-28), 3) := by decide +kernel
theorem dX11_takeLetter_127 : decode cX11_takeLetter 127 = .ok (.return_, 1) := by decide +kernel
theorem dX11_stale_0 : decode cX11_stale 0 = .ok (.iconst 0, 1) := by decide +kernel
theorem dX11_stale_1 : decode cX11_stale 1 = .ok (.istore_n 2, 1) := by decide +kernel
theorem dX11_stale_2 : decode cX11_stale 2 = .ok (.iload_n 2, 1) := by decide +kernel
theorem dX11_stale_3 : decode cX11_stale 3 = .ok (.aload_n 0, 1) := by decide +kernel
theorem dX11_stale_4 : decode cX11_stale 4 = .ok (.getfield 7, 3) := by decide +kernel
theorem dX11_stale_7 : decode cX11_stale 7 = .ok (.if_icmp .ge 29, 3) := by decide +kernel
theorem dX11_stale_10 : decode cX11_stale 10 = .ok (.aload_n 0, 1) := by decide +kernel
theorem dX11_stale_11 : decode cX11_stale 11 = .ok (.getfield 30, 3) := by decide +kernel
theorem dX11_stale_14 : decode cX11_stale 14 = .ok (.iconst 3, 1) := by decide +kernel
theorem dX11_stale_15 : decode cX11_stale 15 = .ok (.iload_n 2, 1) := by decide +kernel
theorem dX11_stale_16 : decode cX11_stale 16 = .ok (.imul, 1) := by decide +kernel
theorem dX11_stale_17 : decode cX11_stale 17 = .ok (.iconst 1, 1) := by decide +kernel
theorem dX11_stale_18 : decode cX11_stale 18 = .ok (.iadd, 1) := by decide +kernel
theorem dX11_stale_19 : decode cX11_stale 19 = .ok (.iload_n 2, 1) := by decide +kernel
theorem dX11_stale_20 : decode cX11_stale 20 = .ok (.iload_n 1, 1) := by decide +kernel
theorem dX11_stale_21 : decode cX11_stale 21 = .ok (.if_icmp .ne 7, 3) := by decide +kernel
theorem dX11_stale_24 : decode cX11_stale 24 = .ok (.iconst 1, 1) := by decide +kernel
theorem dX11_stale_25 : decode cX11_stale 25 = .ok (.goto 4, 3) := by decide +kernel
theorem dX11_stale_28 : decode cX11_stale 28 = .ok (.iconst 0, 1) := by decide +kernel
theorem dX11_stale_29 : decode cX11_stale 29 = .ok (.iastore, 1) := by decide +kernel
theorem dX11_stale_30 : decode cX11_stale 30 = .ok (.iinc 2 1, 3) := by decide +kernel
theorem dX11_stale_33 : decode cX11_stale 33 = .ok (.goto (-31), 3) := by decide +kernel
theorem dX11_stale_36 : decode cX11_stale 36 = .ok (.aload_n 0, 1) := by decide +kernel
theorem dX11_stale_37 : decode cX11_stale 37 = .ok (.getfield 30, 3) := by decide +kernel
theorem dX11_stale_40 : decode cX11_stale 40 = .ok (.bipush 13, 2) := by decide +kernel
theorem dX11_stale_42 : decode cX11_stale 42 = .ok (.iconst 0, 1) := by decide +kernel
theorem dX11_stale_43 : decode cX11_stale 43 = .ok (.iastore, 1) := by decide +kernel
theorem dX11_stale_44 : decode cX11_stale 44 = .ok (.aload_n 0, 1) := by decide +kernel
theorem dX11_stale_45 : decode cX11_stale 45 = .ok (.iconst 0, 1) := by decide +kernel
theorem dX11_stale_46 : decode cX11_stale 46 = .ok (.putfield 136, 3) := by decide +kernel
theorem dX11_stale_49 : decode cX11_stale 49 = .ok (.iconst 0, 1) := by decide +kernel
theorem dX11_stale_50 : decode cX11_stale 50 = .ok (.istore_n 2, 1) := by decide +kernel
theorem dX11_stale_51 : decode cX11_stale 51 = .ok (.iload_n 2, 1) := by decide +kernel
theorem dX11_stale_52 : decode cX11_stale 52 = .ok (.aload_n 0, 1) := by decide +kernel
theorem dX11_stale_53 : decode cX11_stale 53 = .ok (.getfield 30, 3) := by decide +kernel
theorem dX11_stale_56 : decode cX11_stale 56 = .ok (.bipush 15, 2) := by decide +kernel
theorem dX11_stale_58 : decode cX11_stale 58 = .ok (.iaload, 1) := by decide +kernel
theorem dX11_stale_59 : decode cX11_stale 59 = .ok (.if_icmp .ge 23, 3) := by decide +kernel
theorem dX11_stale_62 : decode cX11_stale 62 = .ok (.aload_n 0, 1) := by decide +kernel
theorem dX11_stale_63 : decode cX11_stale 63 = .ok (.getfield 30, 3) := by decide +kernel
theorem dX11_stale_66 : decode cX11_stale 66 = .ok (.bipush 16, 2) := by decide +kernel
theorem dX11_stale_68 : decode cX11_stale 68 = .ok (.iconst 5, 1) := by decide +kernel
theorem dX11_stale_69 : decode cX11_stale 69 = .ok (.iload_n 2, 1) := by decide +kernel
theorem dX11_stale_70 : decode cX11_stale 70 = .ok (.imul, 1) := by decide +kernel
theorem dX11_stale_71 : decode cX11_stale 71 = .ok (.iadd, 1) := by decide +kernel
theorem dX11_stale_72 : decode cX11_stale 72 = .ok (.iconst 4, 1) := by decide +kernel
theorem dX11_stale_73 : decode cX11_stale 73 = .ok (.iadd, 1) := by decide +kernel
theorem dX11_stale_74 : decode cX11_stale 74 = .ok (.iconst 0, 1) := by decide +kernel
theorem dX11_stale_75 : decode cX11_stale 75 = .ok (.iastore, 1) := by decide +kernel
theorem dX11_stale_76 : decode cX11_stale 76 = .ok (.iinc 2 1, 3) := by decide +kernel
theorem dX11_stale_79 : decode cX11_stale 79 = .ok (.goto (-28), 3) := by decide +kernel
theorem dX11_stale_82 : decode cX11_stale 82 = .ok (.return_, 1) := by decide +kernel
theorem dX11_cacheActs_0 : decode cX11_cacheActs 0 = .ok (.iconst 3, 1) := by decide +kernel
theorem dX11_cacheActs_1 : decode cX11_cacheActs 1 = .ok (.iload_n 1, 1) := by decide +kernel
theorem dX11_cacheActs_2 : decode cX11_cacheActs 2 = .ok (.imul, 1) := by decide +kernel
theorem dX11_cacheActs_3 : decode cX11_cacheActs 3 = .ok (.istore 4, 2) := by decide +kernel
theorem dX11_cacheActs_5 : decode cX11_cacheActs 5 = .ok (.iload_n 2, 1) := by decide +kernel
theorem dX11_cacheActs_6 : decode cX11_cacheActs 6 = .ok (.tableswitch 195 1 8 #[46, 56, 56, 94, 94, 135, 150, 178], 46) := by decide +kernel
theorem dX11_cacheActs_52 : decode cX11_cacheActs 52 = .ok (.aload_n 0, 1) := by decide +kernel
theorem dX11_cacheActs_53 : decode cX11_cacheActs 53 = .ok (.getfield 30, 3) := by decide +kernel
theorem dX11_cacheActs_56 : decode cX11_cacheActs 56 = .ok (.iload 4, 2) := by decide +kernel
theorem dX11_cacheActs_58 : decode cX11_cacheActs 58 = .ok (.iload_n 3, 1) := by decide +kernel
theorem dX11_cacheActs_59 : decode cX11_cacheActs 59 = .ok (.iastore, 1) := by decide +kernel
theorem dX11_cacheActs_60 : decode cX11_cacheActs 60 = .ok (.iconst 0, 1) := by decide +kernel
theorem dX11_cacheActs_61 : decode cX11_cacheActs 61 = .ok (.ireturn, 1) := by decide +kernel
theorem dX11_cacheActs_62 : decode cX11_cacheActs 62 = .ok (.aload_n 0, 1) := by decide +kernel
theorem dX11_cacheActs_63 : decode cX11_cacheActs 63 = .ok (.iload_n 3, 1) := by decide +kernel
theorem dX11_cacheActs_64 : decode cX11_cacheActs 64 = .ok (.iload_n 1, 1) := by decide +kernel
theorem dX11_cacheActs_65 : decode cX11_cacheActs 65 = .ok (.aload_n 0, 1) := by decide +kernel
theorem dX11_cacheActs_66 : decode cX11_cacheActs 66 = .ok (.getfield 7, 3) := by decide +kernel
theorem dX11_cacheActs_69 : decode cX11_cacheActs 69 = .ok (.iload_n 1, 1) := by decide +kernel
theorem dX11_cacheActs_70 : decode cX11_cacheActs 70 = .ok (.iload_n 2, 1) := by decide +kernel
theorem dX11_cacheActs_71 : decode cX11_cacheActs 71 = .ok (.iconst 3, 1) := by decide +kernel
theorem dX11_cacheActs_72 : decode cX11_cacheActs 72 = .ok (.if_icmp .ne 15, 3) := by decide +kernel
theorem dX11_cacheActs_75 : decode cX11_cacheActs 75 = .ok (.aload_n 0, 1) := by decide +kernel
theorem dX11_cacheActs_76 : decode cX11_cacheActs 76 = .ok (.getfield 30, 3) := by decide +kernel
theorem dX11_cacheActs_79 : decode cX11_cacheActs 79 = .ok (.iload 4, 2) := by decide +kernel
theorem dX11_cacheActs_81 : decode cX11_cacheActs 81 = .ok (.iconst 1, 1) := by decide +kernel
theorem dX11_cacheActs_82 : decode cX11_cacheActs 82 = .ok (.iadd, 1) := by decide +kernel
theorem dX11_cacheActs_83 : decode cX11_cacheActs 83 = .ok (.iaload, 1) := by decide +kernel
theorem dX11_cacheActs_84 : decode cX11_cacheActs 84 = .ok (.goto 4, 3) := by decide +kernel
theorem dX11_cacheActs_87 : decode cX11_cacheActs 87 = .ok (.iconst 0, 1) := by decide +kernel
theorem dX11_cacheActs_88 : decode cX11_cacheActs 88 = .ok (.invokevirtual 139, 3) := by decide +kernel
theorem dX11_cacheActs_91 : decode cX11_cacheActs 91 = .ok (.ifCond .eq 7, 3) := by decide +kernel
theorem dX11_cacheActs_94 : decode cX11_cacheActs 94 = .ok (.iconst 0, 1) := by decide +kernel
theorem dX11_cacheActs_95 : decode cX11_cacheActs 95 = .ok (.goto 4, 3) := by decide +kernel
theorem dX11_cacheActs_98 : decode cX11_cacheActs 98 = .ok (.iconst 3, 1) := by decide +kernel
theorem dX11_cacheActs_99 : decode cX11_cacheActs 99 = .ok (.ireturn, 1) := by decide +kernel
theorem dX11_cacheActs_100 : decode cX11_cacheActs 100 = .ok (.aload_n 0, 1) := by decide +kernel
theorem dX11_cacheActs_101 : decode cX11_cacheActs 101 = .ok (.iload_n 3, 1) := by decide +kernel
theorem dX11_cacheActs_102 : decode cX11_cacheActs 102 = .ok (.iload_n 1, 1) := by decide +kernel
theorem dX11_cacheActs_103 : decode cX11_cacheActs 103 = .ok (.aload_n 0, 1) := by decide +kernel
theorem dX11_cacheActs_104 : decode cX11_cacheActs 104 = .ok (.getfield 133, 3) := by decide +kernel
theorem dX11_cacheActs_107 : decode cX11_cacheActs 107 = .ok (.aload_n 0, 1) := by decide +kernel
theorem dX11_cacheActs_108 : decode cX11_cacheActs 108 = .ok (.getfield 133, 3) := by decide +kernel
theorem dX11_cacheActs_111 : decode cX11_cacheActs 111 = .ok (.iload_n 2, 1) := by decide +kernel
theorem dX11_cacheActs_112 : decode cX11_cacheActs 112 = .ok (.iconst 5, 1) := by decide +kernel
theorem dX11_cacheActs_113 : decode cX11_cacheActs 113 = .ok (.if_icmp .ne 15, 3) := by decide +kernel
theorem dX11_cacheActs_116 : decode cX11_cacheActs 116 = .ok (.aload_n 0, 1) := by decide +kernel
theorem dX11_cacheActs_117 : decode cX11_cacheActs 117 = .ok (.getfield 30, 3) := by decide +kernel
theorem dX11_cacheActs_120 : decode cX11_cacheActs 120 = .ok (.iload 4, 2) := by decide +kernel
theorem dX11_cacheActs_122 : decode cX11_cacheActs 122 = .ok (.iconst 1, 1) := by decide +kernel
theorem dX11_cacheActs_123 : decode cX11_cacheActs 123 = .ok (.iadd, 1) := by decide +kernel
theorem dX11_cacheActs_124 : decode cX11_cacheActs 124 = .ok (.iaload, 1) := by decide +kernel
theorem dX11_cacheActs_125 : decode cX11_cacheActs 125 = .ok (.goto 4, 3) := by decide +kernel
theorem dX11_cacheActs_128 : decode cX11_cacheActs 128 = .ok (.iconst 0, 1) := by decide +kernel
theorem dX11_cacheActs_129 : decode cX11_cacheActs 129 = .ok (.invokevirtual 139, 3) := by decide +kernel
theorem dX11_cacheActs_132 : decode cX11_cacheActs 132 = .ok (.ifCond .eq 7, 3) := by decide +kernel
theorem dX11_cacheActs_135 : decode cX11_cacheActs 135 = .ok (.iconst 0, 1) := by decide +kernel
theorem dX11_cacheActs_136 : decode cX11_cacheActs 136 = .ok (.goto 4, 3) := by decide +kernel
theorem dX11_cacheActs_139 : decode cX11_cacheActs 139 = .ok (.iconst 3, 1) := by decide +kernel
theorem dX11_cacheActs_140 : decode cX11_cacheActs 140 = .ok (.ireturn, 1) := by decide +kernel
theorem dX11_cacheActs_141 : decode cX11_cacheActs 141 = .ok (.aload_n 0, 1) := by decide +kernel
theorem dX11_cacheActs_142 : decode cX11_cacheActs 142 = .ok (.getfield 30, 3) := by decide +kernel
theorem dX11_cacheActs_145 : decode cX11_cacheActs 145 = .ok (.iload 4, 2) := by decide +kernel
theorem dX11_cacheActs_147 : decode cX11_cacheActs 147 = .ok (.iconst 1, 1) := by decide +kernel
theorem dX11_cacheActs_148 : decode cX11_cacheActs 148 = .ok (.iadd, 1) := by decide +kernel
theorem dX11_cacheActs_149 : decode cX11_cacheActs 149 = .ok (.aload_n 0, 1) := by decide +kernel
theorem dX11_cacheActs_150 : decode cX11_cacheActs 150 = .ok (.getfield 136, 3) := by decide +kernel
theorem dX11_cacheActs_153 : decode cX11_cacheActs 153 = .ok (.iastore, 1) := by decide +kernel
theorem dX11_cacheActs_154 : decode cX11_cacheActs 154 = .ok (.iconst 0, 1) := by decide +kernel
theorem dX11_cacheActs_155 : decode cX11_cacheActs 155 = .ok (.ireturn, 1) := by decide +kernel
theorem dX11_cacheActs_156 : decode cX11_cacheActs 156 = .ok (.aload_n 0, 1) := by decide +kernel
theorem dX11_cacheActs_157 : decode cX11_cacheActs 157 = .ok (.getfield 30, 3) := by decide +kernel
theorem dX11_cacheActs_160 : decode cX11_cacheActs 160 = .ok (.iload 4, 2) := by decide +kernel
theorem dX11_cacheActs_162 : decode cX11_cacheActs 162 = .ok (.iconst 2, 1) := by decide +kernel
theorem dX11_cacheActs_163 : decode cX11_cacheActs 163 = .ok (.iadd, 1) := by decide +kernel
theorem dX11_cacheActs_164 : decode cX11_cacheActs 164 = .ok (.iconst 0, 1) := by decide +kernel
theorem dX11_cacheActs_165 : decode cX11_cacheActs 165 = .ok (.iastore, 1) := by decide +kernel
theorem dX11_cacheActs_166 : decode cX11_cacheActs 166 = .ok (.aload_n 0, 1) := by decide +kernel
theorem dX11_cacheActs_167 : decode cX11_cacheActs 167 = .ok (.getfield 30, 3) := by decide +kernel
theorem dX11_cacheActs_170 : decode cX11_cacheActs 170 = .ok (.iload 4, 2) := by decide +kernel
theorem dX11_cacheActs_172 : decode cX11_cacheActs 172 = .ok (.iconst 1, 1) := by decide +kernel
theorem dX11_cacheActs_173 : decode cX11_cacheActs 173 = .ok (.iadd, 1) := by decide +kernel
theorem dX11_cacheActs_174 : decode cX11_cacheActs 174 = .ok (.iaload, 1) := by decide +kernel
theorem dX11_cacheActs_175 : decode cX11_cacheActs 175 = .ok (.ifCond .ne 7, 3) := by decide +kernel
theorem dX11_cacheActs_178 : decode cX11_cacheActs 178 = .ok (.iconst 2, 1) := by decide +kernel
theorem dX11_cacheActs_179 : decode cX11_cacheActs 179 = .ok (.goto 4, 3) := by decide +kernel
theorem dX11_cacheActs_182 : decode cX11_cacheActs 182 = .ok (.iconst 0, 1) := by decide +kernel
theorem dX11_cacheActs_183 : decode cX11_cacheActs 183 = .ok (.ireturn, 1) := by decide +kernel
theorem dX11_cacheActs_184 : decode cX11_cacheActs 184 = .ok (.aload_n 0, 1) := by decide +kernel
theorem dX11_cacheActs_185 : decode cX11_cacheActs 185 = .ok (.getfield 30, 3) := by decide +kernel
theorem dX11_cacheActs_188 : decode cX11_cacheActs 188 = .ok (.iload 4, 2) := by decide +kernel
theorem dX11_cacheActs_190 : decode cX11_cacheActs 190 = .ok (.iconst 2, 1) := by decide +kernel
theorem dX11_cacheActs_191 : decode cX11_cacheActs 191 = .ok (.iadd, 1) := by decide +kernel
theorem dX11_cacheActs_192 : decode cX11_cacheActs 192 = .ok (.iconst 0, 1) := by decide +kernel
theorem dX11_cacheActs_193 : decode cX11_cacheActs 193 = .ok (.iastore, 1) := by decide +kernel
theorem dX11_cacheActs_194 : decode cX11_cacheActs 194 = .ok (.aload_n 0, 1) := by decide +kernel
theorem dX11_cacheActs_195 : decode cX11_cacheActs 195 = .ok (.iload_n 1, 1) := by decide +kernel
theorem dX11_cacheActs_196 : decode cX11_cacheActs 196 = .ok (.invokevirtual 143, 3) := by decide +kernel
theorem dX11_cacheActs_199 : decode cX11_cacheActs 199 = .ok (.iconst 0, 1) := by decide +kernel
theorem dX11_cacheActs_200 : decode cX11_cacheActs 200 = .ok (.ireturn, 1) := by decide +kernel
theorem dX11_cacheActs_201 : decode cX11_cacheActs 201 = .ok (.iconst 0, 1) := by decide +kernel
theorem dX11_cacheActs_202 : decode cX11_cacheActs 202 = .ok (.ireturn, 1) := by decide +kernel
theorem dX11_homeActs_0 : decode cX11_homeActs 0 = .ok (.iload_n 1, 1) := by decide +kernel
theorem dX11_homeActs_1 : decode cX11_homeActs 1 = .ok (.tableswitch 221 1 8 #[47, 57, 57, 99, 160, 178, 198, 208], 47) := by decide +kernel
theorem dX11_homeActs_48 : decode cX11_homeActs 48 = .ok (.aload_n 0, 1) := by decide +kernel
theorem dX11_homeActs_49 : decode cX11_homeActs 49 = .ok (.getfield 30, 3) := by decide +kernel
theorem dX11_homeActs_52 : decode cX11_homeActs 52 = .ok (.bipush 12, 2) := by decide +kernel
theorem dX11_homeActs_54 : decode cX11_homeActs 54 = .ok (.iload_n 2, 1) := by decide +kernel
theorem dX11_homeActs_55 : decode cX11_homeActs 55 = .ok (.iastore, 1) := by decide +kernel
theorem dX11_homeActs_56 : decode cX11_homeActs 56 = .ok (.iconst 0, 1) := by decide +kernel
theorem dX11_homeActs_57 : decode cX11_homeActs 57 = .ok (.ireturn, 1) := by decide +kernel
theorem dX11_homeActs_58 : decode cX11_homeActs 58 = .ok (.aload_n 0, 1) := by decide +kernel
theorem dX11_homeActs_59 : decode cX11_homeActs 59 = .ok (.iload_n 2, 1) := by decide +kernel
theorem dX11_homeActs_60 : decode cX11_homeActs 60 = .ok (.aload_n 0, 1) := by decide +kernel
theorem dX11_homeActs_61 : decode cX11_homeActs 61 = .ok (.getfield 7, 3) := by decide +kernel
theorem dX11_homeActs_64 : decode cX11_homeActs 64 = .ok (.aload_n 0, 1) := by decide +kernel
theorem dX11_homeActs_65 : decode cX11_homeActs 65 = .ok (.getfield 133, 3) := by decide +kernel
theorem dX11_homeActs_68 : decode cX11_homeActs 68 = .ok (.aload_n 0, 1) := by decide +kernel
theorem dX11_homeActs_69 : decode cX11_homeActs 69 = .ok (.getfield 133, 3) := by decide +kernel
theorem dX11_homeActs_72 : decode cX11_homeActs 72 = .ok (.iload_n 1, 1) := by decide +kernel
theorem dX11_homeActs_73 : decode cX11_homeActs 73 = .ok (.iconst 3, 1) := by decide +kernel
theorem dX11_homeActs_74 : decode cX11_homeActs 74 = .ok (.if_icmp .ne 13, 3) := by decide +kernel
theorem dX11_homeActs_77 : decode cX11_homeActs 77 = .ok (.aload_n 0, 1) := by decide +kernel
theorem dX11_homeActs_78 : decode cX11_homeActs 78 = .ok (.getfield 30, 3) := by decide +kernel
theorem dX11_homeActs_81 : decode cX11_homeActs 81 = .ok (.bipush 13, 2) := by decide +kernel
theorem dX11_homeActs_83 : decode cX11_homeActs 83 = .ok (.iaload, 1) := by decide +kernel
theorem dX11_homeActs_84 : decode cX11_homeActs 84 = .ok (.goto 4, 3) := by decide +kernel
theorem dX11_homeActs_87 : decode cX11_homeActs 87 = .ok (.iconst 0, 1) := by decide +kernel
theorem dX11_homeActs_88 : decode cX11_homeActs 88 = .ok (.invokevirtual 139, 3) := by decide +kernel
theorem dX11_homeActs_91 : decode cX11_homeActs 91 = .ok (.ifCond .eq 7, 3) := by decide +kernel
theorem dX11_homeActs_94 : decode cX11_homeActs 94 = .ok (.iconst 0, 1) := by decide +kernel
theorem dX11_homeActs_95 : decode cX11_homeActs 95 = .ok (.goto 4, 3) := by decide +kernel
theorem dX11_homeActs_98 : decode cX11_homeActs 98 = .ok (.iconst 3, 1) := by decide +kernel
theorem dX11_homeActs_99 : decode cX11_homeActs 99 = .ok (.ireturn, 1) := by decide +kernel
theorem dX11_homeActs_100 : decode cX11_homeActs 100 = .ok (.iconst 0, 1) := by decide +kernel
theorem dX11_homeActs_101 : decode cX11_homeActs 101 = .ok (.istore_n 3, 1) := by decide +kernel
theorem dX11_homeActs_102 : decode cX11_homeActs 102 = .ok (.iload_n 3, 1) := by decide +kernel
theorem dX11_homeActs_103 : decode cX11_homeActs 103 = .ok (.aload_n 0, 1) := by decide +kernel
theorem dX11_homeActs_104 : decode cX11_homeActs 104 = .ok (.getfield 7, 3) := by decide +kernel
theorem dX11_homeActs_107 : decode cX11_homeActs 107 = .ok (.if_icmp .ge 52, 3) := by decide +kernel
theorem dX11_homeActs_110 : decode cX11_homeActs 110 = .ok (.iload_n 3, 1) := by decide +kernel
theorem dX11_homeActs_111 : decode cX11_homeActs 111 = .ok (.aload_n 0, 1) := by decide +kernel
theorem dX11_homeActs_112 : decode cX11_homeActs 112 = .ok (.getfield 133, 3) := by decide +kernel
theorem dX11_homeActs_115 : decode cX11_homeActs 115 = .ok (.if_icmp .eq 38, 3) := by decide +kernel
theorem dX11_homeActs_118 : decode cX11_homeActs 118 = .ok (.aload_n 0, 1) := by decide +kernel
theorem dX11_homeActs_119 : decode cX11_homeActs 119 = .ok (.getfield 30, 3) := by decide +kernel
theorem dX11_homeActs_122 : decode cX11_homeActs 122 = .ok (.bipush 14, 2) := by decide +kernel
theorem dX11_homeActs_124 : decode cX11_homeActs 124 = .ok (.iaload, 1) := by decide +kernel
theorem dX11_homeActs_125 : decode cX11_homeActs 125 = .ok (.iload_n 3, 1) := by decide +kernel
theorem dX11_homeActs_126 : decode cX11_homeActs 126 = .ok (.ishr, 1) := by decide +kernel
theorem dX11_homeActs_127 : decode cX11_homeActs 127 = .ok (.iconst 1, 1) := by decide +kernel
theorem dX11_homeActs_128 : decode cX11_homeActs 128 = .ok (.iand, 1) := by decide +kernel
theorem dX11_homeActs_129 : decode cX11_homeActs 129 = .ok (.iconst 1, 1) := by decide +kernel
theorem dX11_homeActs_130 : decode cX11_homeActs 130 = .ok (.if_icmp .ne 23, 3) := by decide +kernel
theorem dX11_homeActs_133 : decode cX11_homeActs 133 = .ok (.aload_n 0, 1) := by decide +kernel
theorem dX11_homeActs_134 : decode cX11_homeActs 134 = .ok (.iload_n 2, 1) := by decide +kernel
theorem dX11_homeActs_135 : decode cX11_homeActs 135 = .ok (.aload_n 0, 1) := by decide +kernel
theorem dX11_homeActs_136 : decode cX11_homeActs 136 = .ok (.getfield 7, 3) := by decide +kernel
theorem dX11_homeActs_139 : decode cX11_homeActs 139 = .ok (.iload_n 3, 1) := by decide +kernel
theorem dX11_homeActs_140 : decode cX11_homeActs 140 = .ok (.aload_n 0, 1) := by decide +kernel
theorem dX11_homeActs_141 : decode cX11_homeActs 141 = .ok (.getfield 133, 3) := by decide +kernel
theorem dX11_homeActs_144 : decode cX11_homeActs 144 = .ok (.iconst 0, 1) := by decide +kernel
theorem dX11_homeActs_145 : decode cX11_homeActs 145 = .ok (.invokevirtual 139, 3) := by decide +kernel
theorem dX11_homeActs_148 : decode cX11_homeActs 148 = .ok (.ifCond .ne 5, 3) := by decide +kernel
theorem dX11_homeActs_151 : decode cX11_homeActs 151 = .ok (.iconst 3, 1) := by decide +kernel
theorem dX11_homeActs_152 : decode cX11_homeActs 152 = .ok (.ireturn, 1) := by decide +kernel
theorem dX11_homeActs_153 : decode cX11_homeActs 153 = .ok (.iinc 3 1, 3) := by decide +kernel
theorem dX11_homeActs_156 : decode cX11_homeActs 156 = .ok (.goto (-54), 3) := by decide +kernel
theorem dX11_homeActs_159 : decode cX11_homeActs 159 = .ok (.iconst 0, 1) := by decide +kernel
theorem dX11_homeActs_160 : decode cX11_homeActs 160 = .ok (.ireturn, 1) := by decide +kernel
theorem dX11_homeActs_161 : decode cX11_homeActs 161 = .ok (.aload_n 0, 1) := by decide +kernel
theorem dX11_homeActs_162 : decode cX11_homeActs 162 = .ok (.getfield 30, 3) := by decide +kernel
theorem dX11_homeActs_165 : decode cX11_homeActs 165 = .ok (.bipush 14, 2) := by decide +kernel
theorem dX11_homeActs_167 : decode cX11_homeActs 167 = .ok (.dup2, 1) := by decide +kernel
theorem dX11_homeActs_168 : decode cX11_homeActs 168 = .ok (.iaload, 1) := by decide +kernel
theorem dX11_homeActs_169 : decode cX11_homeActs 169 = .ok (.iconst 1, 1) := by decide +kernel
theorem dX11_homeActs_170 : decode cX11_homeActs 170 = .ok (.aload_n 0, 1) := by decide +kernel
theorem dX11_homeActs_171 : decode cX11_homeActs 171 = .ok (.getfield 133, 3) := by decide +kernel
theorem dX11_homeActs_174 : decode cX11_homeActs 174 = .ok (.ishl, 1) := by decide +kernel
theorem dX11_homeActs_175 : decode cX11_homeActs 175 = .ok (.ior, 1) := by decide +kernel
theorem dX11_homeActs_176 : decode cX11_homeActs 176 = .ok (.iastore, 1) := by decide +kernel
theorem dX11_homeActs_177 : decode cX11_homeActs 177 = .ok (.iconst 0, 1) := by decide +kernel
theorem dX11_homeActs_178 : decode cX11_homeActs 178 = .ok (.ireturn, 1) := by decide +kernel
theorem dX11_homeActs_179 : decode cX11_homeActs 179 = .ok (.aload_n 0, 1) := by decide +kernel
theorem dX11_homeActs_180 : decode cX11_homeActs 180 = .ok (.getfield 30, 3) := by decide +kernel
theorem dX11_homeActs_183 : decode cX11_homeActs 183 = .ok (.bipush 14, 2) := by decide +kernel
theorem dX11_homeActs_185 : decode cX11_homeActs 185 = .ok (.dup2, 1) := by decide +kernel
theorem dX11_homeActs_186 : decode cX11_homeActs 186 = .ok (.iaload, 1) := by decide +kernel
theorem dX11_homeActs_187 : decode cX11_homeActs 187 = .ok (.iconst 1, 1) := by decide +kernel
theorem dX11_homeActs_188 : decode cX11_homeActs 188 = .ok (.aload_n 0, 1) := by decide +kernel
theorem dX11_homeActs_189 : decode cX11_homeActs 189 = .ok (.getfield 133, 3) := by decide +kernel
theorem dX11_homeActs_192 : decode cX11_homeActs 192 = .ok (.ishl, 1) := by decide +kernel
theorem dX11_homeActs_193 : decode cX11_homeActs 193 = .ok (.iconst (-1), 1) := by decide +kernel
theorem dX11_homeActs_194 : decode cX11_homeActs 194 = .ok (.ixor, 1) := by decide +kernel
theorem dX11_homeActs_195 : decode cX11_homeActs 195 = .ok (.iand, 1) := by decide +kernel
theorem dX11_homeActs_196 : decode cX11_homeActs 196 = .ok (.iastore, 1) := by decide +kernel
theorem dX11_homeActs_197 : decode cX11_homeActs 197 = .ok (.iconst 0, 1) := by decide +kernel
theorem dX11_homeActs_198 : decode cX11_homeActs 198 = .ok (.ireturn, 1) := by decide +kernel
theorem dX11_homeActs_199 : decode cX11_homeActs 199 = .ok (.aload_n 0, 1) := by decide +kernel
theorem dX11_homeActs_200 : decode cX11_homeActs 200 = .ok (.getfield 30, 3) := by decide +kernel
theorem dX11_homeActs_203 : decode cX11_homeActs 203 = .ok (.bipush 14, 2) := by decide +kernel
theorem dX11_homeActs_205 : decode cX11_homeActs 205 = .ok (.iconst 0, 1) := by decide +kernel
theorem dX11_homeActs_206 : decode cX11_homeActs 206 = .ok (.iastore, 1) := by decide +kernel
theorem dX11_homeActs_207 : decode cX11_homeActs 207 = .ok (.iconst 0, 1) := by decide +kernel
theorem dX11_homeActs_208 : decode cX11_homeActs 208 = .ok (.ireturn, 1) := by decide +kernel
theorem dX11_homeActs_209 : decode cX11_homeActs 209 = .ok (.aload_n 0, 1) := by decide +kernel
theorem dX11_homeActs_210 : decode cX11_homeActs 210 = .ok (.getfield 30, 3) := by decide +kernel
theorem dX11_homeActs_213 : decode cX11_homeActs 213 = .ok (.bipush 13, 2) := by decide +kernel
theorem dX11_homeActs_215 : decode cX11_homeActs 215 = .ok (.aload_n 0, 1) := by decide +kernel
theorem dX11_homeActs_216 : decode cX11_homeActs 216 = .ok (.getfield 136, 3) := by decide +kernel
theorem dX11_homeActs_219 : decode cX11_homeActs 219 = .ok (.iastore, 1) := by decide +kernel
theorem dX11_homeActs_220 : decode cX11_homeActs 220 = .ok (.iconst 0, 1) := by decide +kernel
theorem dX11_homeActs_221 : decode cX11_homeActs 221 = .ok (.ireturn, 1) := by decide +kernel
theorem dX11_homeActs_222 : decode cX11_homeActs 222 = .ok (.iconst 0, 1) := by decide +kernel
theorem dX11_homeActs_223 : decode cX11_homeActs 223 = .ok (.ireturn, 1) := by decide +kernel
theorem dX11_doStep_0 : decode cX11_doStep 0 = .ok (.aload_n 0, 1) := by decide +kernel
theorem dX11_doStep_1 : decode cX11_doStep 1 = .ok (.getfield 39, 3) := by decide +kernel
theorem dX11_doStep_4 : decode cX11_doStep 4 = .ok (.iload_n 1, 1) := by decide +kernel
theorem dX11_doStep_5 : decode cX11_doStep 5 = .ok (.iaload, 1) := by decide +kernel
theorem dX11_doStep_6 : decode cX11_doStep 6 = .ok (.istore_n 2, 1) := by decide +kernel
theorem dX11_doStep_7 : decode cX11_doStep 7 = .ok (.aload_n 0, 1) := by decide +kernel
theorem dX11_doStep_8 : decode cX11_doStep 8 = .ok (.getfield 48, 3) := by decide +kernel
theorem dX11_doStep_11 : decode cX11_doStep 11 = .ok (.iload_n 1, 1) := by decide +kernel
theorem dX11_doStep_12 : decode cX11_doStep 12 = .ok (.iaload, 1) := by decide +kernel
theorem dX11_doStep_13 : decode cX11_doStep 13 = .ok (.ifCond .lt 27, 3) := by decide +kernel
theorem dX11_doStep_16 : decode cX11_doStep 16 = .ok (.aload_n 0, 1) := by decide +kernel
theorem dX11_doStep_17 : decode cX11_doStep 17 = .ok (.aload_n 0, 1) := by decide +kernel
theorem dX11_doStep_18 : decode cX11_doStep 18 = .ok (.getfield 48, 3) := by decide +kernel
theorem dX11_doStep_21 : decode cX11_doStep 21 = .ok (.iload_n 1, 1) := by decide +kernel
theorem dX11_doStep_22 : decode cX11_doStep 22 = .ok (.iaload, 1) := by decide +kernel
theorem dX11_doStep_23 : decode cX11_doStep 23 = .ok (.invokevirtual 120, 3) := by decide +kernel
theorem dX11_doStep_26 : decode cX11_doStep 26 = .ok (.istore_n 3, 1) := by decide +kernel
theorem dX11_doStep_27 : decode cX11_doStep 27 = .ok (.aload_n 0, 1) := by decide +kernel
theorem dX11_doStep_28 : decode cX11_doStep 28 = .ok (.aload_n 0, 1) := by decide +kernel
theorem dX11_doStep_29 : decode cX11_doStep 29 = .ok (.getfield 48, 3) := by decide +kernel
theorem dX11_doStep_32 : decode cX11_doStep 32 = .ok (.iload_n 1, 1) := by decide +kernel
theorem dX11_doStep_33 : decode cX11_doStep 33 = .ok (.iaload, 1) := by decide +kernel
theorem dX11_doStep_34 : decode cX11_doStep 34 = .ok (.invokevirtual 147, 3) := by decide +kernel
theorem dX11_doStep_37 : decode cX11_doStep 37 = .ok (.goto 64, 3) := by decide +kernel
theorem dX11_doStep_40 : decode cX11_doStep 40 = .ok (.aload_n 0, 1) := by decide +kernel
theorem dX11_doStep_41 : decode cX11_doStep 41 = .ok (.getfield 30, 3) := by decide +kernel
theorem dX11_doStep_44 : decode cX11_doStep 44 = .ok (.iconst 3, 1) := by decide +kernel
theorem dX11_doStep_45 : decode cX11_doStep 45 = .ok (.iload_n 2, 1) := by decide +kernel
theorem dX11_doStep_46 : decode cX11_doStep 46 = .ok (.imul, 1) := by decide +kernel
theorem dX11_doStep_47 : decode cX11_doStep 47 = .ok (.iaload, 1) := by decide +kernel
theorem dX11_doStep_48 : decode cX11_doStep 48 = .ok (.bipush 64, 2) := by decide +kernel
theorem dX11_doStep_50 : decode cX11_doStep 50 = .ok (.imul, 1) := by decide +kernel
theorem dX11_doStep_51 : decode cX11_doStep 51 = .ok (.aload_n 0, 1) := by decide +kernel
theorem dX11_doStep_52 : decode cX11_doStep 52 = .ok (.getfield 42, 3) := by decide +kernel
theorem dX11_doStep_55 : decode cX11_doStep 55 = .ok (.iload_n 1, 1) := by decide +kernel
theorem dX11_doStep_56 : decode cX11_doStep 56 = .ok (.iaload, 1) := by decide +kernel
theorem dX11_doStep_57 : decode cX11_doStep 57 = .ok (.iadd, 1) := by decide +kernel
theorem dX11_doStep_58 : decode cX11_doStep 58 = .ok (.istore_n 3, 1) := by decide +kernel
theorem dX11_doStep_59 : decode cX11_doStep 59 = .ok (.aload_n 0, 1) := by decide +kernel
theorem dX11_doStep_60 : decode cX11_doStep 60 = .ok (.iload_n 2, 1) := by decide +kernel
theorem dX11_doStep_61 : decode cX11_doStep 61 = .ok (.putfield 133, 3) := by decide +kernel
theorem dX11_doStep_64 : decode cX11_doStep 64 = .ok (.aload_n 0, 1) := by decide +kernel
theorem dX11_doStep_65 : decode cX11_doStep 65 = .ok (.iconst 0, 1) := by decide +kernel
theorem dX11_doStep_66 : decode cX11_doStep 66 = .ok (.putfield 136, 3) := by decide +kernel
theorem dX11_doStep_69 : decode cX11_doStep 69 = .ok (.aload_n 0, 1) := by decide +kernel
theorem dX11_doStep_70 : decode cX11_doStep 70 = .ok (.getfield 30, 3) := by decide +kernel
theorem dX11_doStep_73 : decode cX11_doStep 73 = .ok (.iconst 3, 1) := by decide +kernel
theorem dX11_doStep_74 : decode cX11_doStep 74 = .ok (.iload_n 2, 1) := by decide +kernel
theorem dX11_doStep_75 : decode cX11_doStep 75 = .ok (.imul, 1) := by decide +kernel
theorem dX11_doStep_76 : decode cX11_doStep 76 = .ok (.iconst 2, 1) := by decide +kernel
theorem dX11_doStep_77 : decode cX11_doStep 77 = .ok (.iadd, 1) := by decide +kernel
theorem dX11_doStep_78 : decode cX11_doStep 78 = .ok (.aload_n 0, 1) := by decide +kernel
theorem dX11_doStep_79 : decode cX11_doStep 79 = .ok (.getfield 42, 3) := by decide +kernel
theorem dX11_doStep_82 : decode cX11_doStep 82 = .ok (.iload_n 1, 1) := by decide +kernel
theorem dX11_doStep_83 : decode cX11_doStep 83 = .ok (.iaload, 1) := by decide +kernel
theorem dX11_doStep_84 : decode cX11_doStep 84 = .ok (.iconst 2, 1) := by decide +kernel
theorem dX11_doStep_85 : decode cX11_doStep 85 = .ok (.if_icmp .ge 14, 3) := by decide +kernel
theorem dX11_doStep_88 : decode cX11_doStep 88 = .ok (.aload_n 0, 1) := by decide +kernel
theorem dX11_doStep_89 : decode cX11_doStep 89 = .ok (.getfield 42, 3) := by decide +kernel
theorem dX11_doStep_92 : decode cX11_doStep 92 = .ok (.iload_n 1, 1) := by decide +kernel
theorem dX11_doStep_93 : decode cX11_doStep 93 = .ok (.iaload, 1) := by decide +kernel
theorem dX11_doStep_94 : decode cX11_doStep 94 = .ok (.iconst 1, 1) := by decide +kernel
theorem dX11_doStep_95 : decode cX11_doStep 95 = .ok (.iadd, 1) := by decide +kernel
theorem dX11_doStep_96 : decode cX11_doStep 96 = .ok (.goto 4, 3) := by decide +kernel
theorem dX11_doStep_99 : decode cX11_doStep 99 = .ok (.iconst 0, 1) := by decide +kernel
theorem dX11_doStep_100 : decode cX11_doStep 100 = .ok (.iastore, 1) := by decide +kernel
theorem dX11_doStep_101 : decode cX11_doStep 101 = .ok (.aload_n 0, 1) := by decide +kernel
theorem dX11_doStep_102 : decode cX11_doStep 102 = .ok (.aload_n 0, 1) := by decide +kernel
theorem dX11_doStep_103 : decode cX11_doStep 103 = .ok (.getfield 20, 3) := by decide +kernel
theorem dX11_doStep_106 : decode cX11_doStep 106 = .ok (.iload_n 3, 1) := by decide +kernel
theorem dX11_doStep_107 : decode cX11_doStep 107 = .ok (.iaload, 1) := by decide +kernel
theorem dX11_doStep_108 : decode cX11_doStep 108 = .ok (.ifCond .ge 7, 3) := by decide +kernel
theorem dX11_doStep_111 : decode cX11_doStep 111 = .ok (.iconst (-1), 1) := by decide +kernel
theorem dX11_doStep_112 : decode cX11_doStep 112 = .ok (.goto 4, 3) := by decide +kernel
theorem dX11_doStep_115 : decode cX11_doStep 115 = .ok (.iload_n 3, 1) := by decide +kernel
theorem dX11_doStep_116 : decode cX11_doStep 116 = .ok (.putfield 150, 3) := by decide +kernel
theorem dX11_doStep_119 : decode cX11_doStep 119 = .ok (.aload_n 0, 1) := by decide +kernel
theorem dX11_doStep_120 : decode cX11_doStep 120 = .ok (.getfield 150, 3) := by decide +kernel
theorem dX11_doStep_123 : decode cX11_doStep 123 = .ok (.ifCond .ge 5, 3) := by decide +kernel
theorem dX11_doStep_126 : decode cX11_doStep 126 = .ok (.iconst 1, 1) := by decide +kernel
theorem dX11_doStep_127 : decode cX11_doStep 127 = .ok (.ireturn, 1) := by decide +kernel
theorem dX11_doStep_128 : decode cX11_doStep 128 = .ok (.iconst 0, 1) := by decide +kernel
theorem dX11_doStep_129 : decode cX11_doStep 129 = .ok (.istore 4, 2) := by decide +kernel
theorem dX11_doStep_131 : decode cX11_doStep 131 = .ok (.iconst 0, 1) := by decide +kernel
theorem dX11_doStep_132 : decode cX11_doStep 132 = .ok (.istore 5, 2) := by decide +kernel
theorem dX11_doStep_134 : decode cX11_doStep 134 = .ok (.iload 5, 2) := by decide +kernel
theorem dX11_doStep_136 : decode cX11_doStep 136 = .ok (.aload_n 0, 1) := by decide +kernel
theorem dX11_doStep_137 : decode cX11_doStep 137 = .ok (.getfield 20, 3) := by decide +kernel
theorem dX11_doStep_140 : decode cX11_doStep 140 = .ok (.iload_n 3, 1) := by decide +kernel
theorem dX11_doStep_141 : decode cX11_doStep 141 = .ok (.iaload, 1) := by decide +kernel
theorem dX11_doStep_142 : decode cX11_doStep 142 = .ok (.if_icmp .ge 78, 3) := by decide +kernel
theorem dX11_doStep_145 : decode cX11_doStep 145 = .ok (.iload 4, 2) := by decide +kernel
theorem dX11_doStep_147 : decode cX11_doStep 147 = .ok (.ifCond .ne 73, 3) := by decide +kernel
theorem dX11_doStep_150 : decode cX11_doStep 150 = .ok (.aload_n 0, 1) := by decide +kernel
theorem dX11_doStep_151 : decode cX11_doStep 151 = .ok (.getfield 23, 3) := by decide +kernel
theorem dX11_doStep_154 : decode cX11_doStep 154 = .ok (.bipush 8, 2) := by decide +kernel
theorem dX11_doStep_156 : decode cX11_doStep 156 = .ok (.iload_n 3, 1) := by decide +kernel
theorem dX11_doStep_157 : decode cX11_doStep 157 = .ok (.imul, 1) := by decide +kernel
theorem dX11_doStep_158 : decode cX11_doStep 158 = .ok (.iload 5, 2) := by decide +kernel
theorem dX11_doStep_160 : decode cX11_doStep 160 = .ok (.iadd, 1) := by decide +kernel
theorem dX11_doStep_161 : decode cX11_doStep 161 = .ok (.iaload, 1) := by decide +kernel
theorem dX11_doStep_162 : decode cX11_doStep 162 = .ok (.bipush 16, 2) := by decide +kernel
theorem dX11_doStep_164 : decode cX11_doStep 164 = .ok (.idiv, 1) := by decide +kernel
theorem dX11_doStep_165 : decode cX11_doStep 165 = .ok (.istore 6, 2) := by decide +kernel
theorem dX11_doStep_167 : decode cX11_doStep 167 = .ok (.aload_n 0, 1) := by decide +kernel
theorem dX11_doStep_168 : decode cX11_doStep 168 = .ok (.getfield 23, 3) := by decide +kernel
theorem dX11_doStep_171 : decode cX11_doStep 171 = .ok (.bipush 8, 2) := by decide +kernel
theorem dX11_doStep_173 : decode cX11_doStep 173 = .ok (.iload_n 3, 1) := by decide +kernel
theorem dX11_doStep_174 : decode cX11_doStep 174 = .ok (.imul, 1) := by decide +kernel
theorem dX11_doStep_175 : decode cX11_doStep 175 = .ok (.iload 5, 2) := by decide +kernel
theorem dX11_doStep_177 : decode cX11_doStep 177 = .ok (.iadd, 1) := by decide +kernel
theorem dX11_doStep_178 : decode cX11_doStep 178 = .ok (.iaload, 1) := by decide +kernel
theorem dX11_doStep_179 : decode cX11_doStep 179 = .ok (.bipush 16, 2) := by decide +kernel
theorem dX11_doStep_181 : decode cX11_doStep 181 = .ok (.irem, 1) := by decide +kernel
theorem dX11_doStep_182 : decode cX11_doStep 182 = .ok (.istore 7, 2) := by decide +kernel
theorem dX11_doStep_184 : decode cX11_doStep 184 = .ok (.iload_n 2, 1) := by decide +kernel
theorem dX11_doStep_185 : decode cX11_doStep 185 = .ok (.aload_n 0, 1) := by decide +kernel
theorem dX11_doStep_186 : decode cX11_doStep 186 = .ok (.getfield 7, 3) := by decide +kernel
theorem dX11_doStep_189 : decode cX11_doStep 189 = .ok (.if_icmp .ge 15, 3) := by decide +kernel
theorem dX11_doStep_192 : decode cX11_doStep 192 = .ok (.aload_n 0, 1) := by decide +kernel
theorem dX11_doStep_193 : decode cX11_doStep 193 = .ok (.iload_n 2, 1) := by decide +kernel
theorem dX11_doStep_194 : decode cX11_doStep 194 = .ok (.iload 6, 2) := by decide +kernel
theorem dX11_doStep_196 : decode cX11_doStep 196 = .ok (.iload 7, 2) := by decide +kernel
theorem dX11_doStep_198 : decode cX11_doStep 198 = .ok (.invokevirtual 153, 3) := by decide +kernel
theorem dX11_doStep_201 : decode cX11_doStep 201 = .ok (.goto 11, 3) := by decide +kernel
theorem dX11_doStep_204 : decode cX11_doStep 204 = .ok (.aload_n 0, 1) := by decide +kernel
theorem dX11_doStep_205 : decode cX11_doStep 205 = .ok (.iload 6, 2) := by decide +kernel
theorem dX11_doStep_207 : decode cX11_doStep 207 = .ok (.iload 7, 2) := by decide +kernel
theorem dX11_doStep_209 : decode cX11_doStep 209 = .ok (.invokevirtual 157, 3) := by decide +kernel
theorem dX11_doStep_212 : decode cX11_doStep 212 = .ok (.istore 4, 2) := by decide +kernel
theorem dX11_doStep_214 : decode cX11_doStep 214 = .ok (.iinc 5 1, 3) := by decide +kernel
theorem dX11_doStep_217 : decode cX11_doStep 217 = .ok (.goto (-83), 3) := by decide +kernel
theorem dX11_doStep_220 : decode cX11_doStep 220 = .ok (.iload 4, 2) := by decide +kernel
theorem dX11_doStep_222 : decode cX11_doStep 222 = .ok (.ireturn, 1) := by decide +kernel
theorem dX11_badNow_0 : decode cX11_badNow 0 = .ok (.iconst 0, 1) := by decide +kernel
theorem dX11_badNow_1 : decode cX11_badNow 1 = .ok (.istore_n 1, 1) := by decide +kernel
theorem dX11_badNow_2 : decode cX11_badNow 2 = .ok (.iconst 0, 1) := by decide +kernel
theorem dX11_badNow_3 : decode cX11_badNow 3 = .ok (.istore_n 2, 1) := by decide +kernel
theorem dX11_badNow_4 : decode cX11_badNow 4 = .ok (.iconst 0, 1) := by decide +kernel
theorem dX11_badNow_5 : decode cX11_badNow 5 = .ok (.istore_n 3, 1) := by decide +kernel
theorem dX11_badNow_6 : decode cX11_badNow 6 = .ok (.iconst 0, 1) := by decide +kernel
theorem dX11_badNow_7 : decode cX11_badNow 7 = .ok (.istore 4, 2) := by decide +kernel
theorem dX11_badNow_9 : decode cX11_badNow 9 = .ok (.iload 4, 2) := by decide +kernel
theorem dX11_badNow_11 : decode cX11_badNow 11 = .ok (.aload_n 0, 1) := by decide +kernel
theorem dX11_badNow_12 : decode cX11_badNow 12 = .ok (.getfield 7, 3) := by decide +kernel
theorem dX11_badNow_15 : decode cX11_badNow 15 = .ok (.if_icmp .ge 81, 3) := by decide +kernel
theorem dX11_badNow_18 : decode cX11_badNow 18 = .ok (.aload_n 0, 1) := by decide +kernel
theorem dX11_badNow_19 : decode cX11_badNow 19 = .ok (.getfield 17, 3) := by decide +kernel
theorem dX11_badNow_22 : decode cX11_badNow 22 = .ok (.aload_n 0, 1) := by decide +kernel
theorem dX11_badNow_23 : decode cX11_badNow 23 = .ok (.getfield 30, 3) := by decide +kernel
theorem dX11_badNow_26 : decode cX11_badNow 26 = .ok (.iconst 3, 1) := by decide +kernel
theorem dX11_badNow_27 : decode cX11_badNow 27 = .ok (.iload 4, 2) := by decide +kernel
theorem dX11_badNow_29 : decode cX11_badNow 29 = .ok (.imul, 1) := by decide +kernel
theorem dX11_badNow_30 : decode cX11_badNow 30 = .ok (.iaload, 1) := by decide +kernel
theorem dX11_badNow_31 : decode cX11_badNow 31 = .ok (.iaload, 1) := by decide +kernel
theorem dX11_badNow_32 : decode cX11_badNow 32 = .ok (.istore 5, 2) := by decide +kernel
theorem dX11_badNow_34 : decode cX11_badNow 34 = .ok (.iload_n 1, 1) := by decide +kernel
theorem dX11_badNow_35 : decode cX11_badNow 35 = .ok (.iload 5, 2) := by decide +kernel
theorem dX11_badNow_37 : decode cX11_badNow 37 = .ok (.iconst 2, 1) := by decide +kernel
theorem dX11_badNow_38 : decode cX11_badNow 38 = .ok (.if_icmp .ne 7, 3) := by decide +kernel
theorem dX11_badNow_41 : decode cX11_badNow 41 = .ok (.iconst 1, 1) := by decide +kernel
theorem dX11_badNow_42 : decode cX11_badNow 42 = .ok (.goto 4, 3) := by decide +kernel
theorem dX11_badNow_45 : decode cX11_badNow 45 = .ok (.iconst 0, 1) := by decide +kernel
theorem dX11_badNow_46 : decode cX11_badNow 46 = .ok (.iadd, 1) := by decide +kernel
theorem dX11_badNow_47 : decode cX11_badNow 47 = .ok (.istore_n 1, 1) := by decide +kernel
theorem dX11_badNow_48 : decode cX11_badNow 48 = .ok (.iload_n 2, 1) := by decide +kernel
theorem dX11_badNow_49 : decode cX11_badNow 49 = .ok (.iload 5, 2) := by decide +kernel
theorem dX11_badNow_51 : decode cX11_badNow 51 = .ok (.ifCond .le 7, 3) := by decide +kernel
theorem dX11_badNow_54 : decode cX11_badNow 54 = .ok (.iconst 1, 1) := by decide +kernel
theorem dX11_badNow_55 : decode cX11_badNow 55 = .ok (.goto 4, 3) := by decide +kernel
theorem dX11_badNow_58 : decode cX11_badNow 58 = .ok (.iconst 0, 1) := by decide +kernel
theorem dX11_badNow_59 : decode cX11_badNow 59 = .ok (.iadd, 1) := by decide +kernel
theorem dX11_badNow_60 : decode cX11_badNow 60 = .ok (.istore_n 2, 1) := by decide +kernel
theorem dX11_badNow_61 : decode cX11_badNow 61 = .ok (.iload_n 3, 1) := by decide +kernel
theorem dX11_badNow_62 : decode cX11_badNow 62 = .ok (.ifCond .ne 22, 3) := by decide +kernel
theorem dX11_badNow_65 : decode cX11_badNow 65 = .ok (.iload 5, 2) := by decide +kernel
theorem dX11_badNow_67 : decode cX11_badNow 67 = .ok (.ifCond .le 21, 3) := by decide +kernel
theorem dX11_badNow_70 : decode cX11_badNow 70 = .ok (.aload_n 0, 1) := by decide +kernel
theorem dX11_badNow_71 : decode cX11_badNow 71 = .ok (.getfield 30, 3) := by decide +kernel
theorem dX11_badNow_74 : decode cX11_badNow 74 = .ok (.iconst 3, 1) := by decide +kernel
theorem dX11_badNow_75 : decode cX11_badNow 75 = .ok (.iload 4, 2) := by decide +kernel
theorem dX11_badNow_77 : decode cX11_badNow 77 = .ok (.imul, 1) := by decide +kernel
theorem dX11_badNow_78 : decode cX11_badNow 78 = .ok (.iconst 1, 1) := by decide +kernel
theorem dX11_badNow_79 : decode cX11_badNow 79 = .ok (.iadd, 1) := by decide +kernel
theorem dX11_badNow_80 : decode cX11_badNow 80 = .ok (.iaload, 1) := by decide +kernel
theorem dX11_badNow_81 : decode cX11_badNow 81 = .ok (.ifCond .ne 7, 3) := by decide +kernel
theorem dX11_badNow_84 : decode cX11_badNow 84 = .ok (.iconst 1, 1) := by decide +kernel
theorem dX11_badNow_85 : decode cX11_badNow 85 = .ok (.goto 4, 3) := by decide +kernel
theorem dX11_badNow_88 : decode cX11_badNow 88 = .ok (.iconst 0, 1) := by decide +kernel
theorem dX11_badNow_89 : decode cX11_badNow 89 = .ok (.istore_n 3, 1) := by decide +kernel
theorem dX11_badNow_90 : decode cX11_badNow 90 = .ok (.iinc 4 1, 3) := by decide +kernel
theorem dX11_badNow_93 : decode cX11_badNow 93 = .ok (.goto (-84), 3) := by decide +kernel
theorem dX11_badNow_96 : decode cX11_badNow 96 = .ok (.iload_n 1, 1) := by decide +kernel
theorem dX11_badNow_97 : decode cX11_badNow 97 = .ok (.ifCond .le 12, 3) := by decide +kernel
theorem dX11_badNow_100 : decode cX11_badNow 100 = .ok (.iload_n 2, 1) := by decide +kernel
theorem dX11_badNow_101 : decode cX11_badNow 101 = .ok (.iconst 1, 1) := by decide +kernel
theorem dX11_badNow_102 : decode cX11_badNow 102 = .ok (.if_icmp .le 7, 3) := by decide +kernel
theorem dX11_badNow_105 : decode cX11_badNow 105 = .ok (.iconst 4, 1) := by decide +kernel
theorem dX11_badNow_106 : decode cX11_badNow 106 = .ok (.goto 12, 3) := by decide +kernel
theorem dX11_badNow_109 : decode cX11_badNow 109 = .ok (.iload_n 3, 1) := by decide +kernel
theorem dX11_badNow_110 : decode cX11_badNow 110 = .ok (.ifCond .eq 7, 3) := by decide +kernel
theorem dX11_badNow_113 : decode cX11_badNow 113 = .ok (.iconst 5, 1) := by decide +kernel
theorem dX11_badNow_114 : decode cX11_badNow 114 = .ok (.goto 4, 3) := by decide +kernel
theorem dX11_badNow_117 : decode cX11_badNow 117 = .ok (.iconst 0, 1) := by decide +kernel
theorem dX11_badNow_118 : decode cX11_badNow 118 = .ok (.ireturn, 1) := by decide +kernel
theorem dX11_isQuiet_0 : decode cX11_isQuiet 0 = .ok (.aload_n 0, 1) := by decide +kernel
theorem dX11_isQuiet_1 : decode cX11_isQuiet 1 = .ok (.getfield 30, 3) := by decide +kernel
theorem dX11_isQuiet_4 : decode cX11_isQuiet 4 = .ok (.bipush 15, 2) := by decide +kernel
theorem dX11_isQuiet_6 : decode cX11_isQuiet 6 = .ok (.iaload, 1) := by decide +kernel
theorem dX11_isQuiet_7 : decode cX11_isQuiet 7 = .ok (.ifCond .ne 7, 3) := by decide +kernel
theorem dX11_isQuiet_10 : decode cX11_isQuiet 10 = .ok (.iconst 1, 1) := by decide +kernel
theorem dX11_isQuiet_11 : decode cX11_isQuiet 11 = .ok (.goto 4, 3) := by decide +kernel
theorem dX11_isQuiet_14 : decode cX11_isQuiet 14 = .ok (.iconst 0, 1) := by decide +kernel
theorem dX11_isQuiet_15 : decode cX11_isQuiet 15 = .ok (.istore_n 1, 1) := by decide +kernel
theorem dX11_isQuiet_16 : decode cX11_isQuiet 16 = .ok (.iconst 0, 1) := by decide +kernel
theorem dX11_isQuiet_17 : decode cX11_isQuiet 17 = .ok (.istore_n 2, 1) := by decide +kernel
theorem dX11_isQuiet_18 : decode cX11_isQuiet 18 = .ok (.iload_n 2, 1) := by decide +kernel
theorem dX11_isQuiet_19 : decode cX11_isQuiet 19 = .ok (.aload_n 0, 1) := by decide +kernel
theorem dX11_isQuiet_20 : decode cX11_isQuiet 20 = .ok (.getfield 7, 3) := by decide +kernel
theorem dX11_isQuiet_23 : decode cX11_isQuiet 23 = .ok (.if_icmp .ge 32, 3) := by decide +kernel
theorem dX11_isQuiet_26 : decode cX11_isQuiet 26 = .ok (.iload_n 1, 1) := by decide +kernel
theorem dX11_isQuiet_27 : decode cX11_isQuiet 27 = .ok (.ifCond .eq 20, 3) := by decide +kernel
theorem dX11_isQuiet_30 : decode cX11_isQuiet 30 = .ok (.aload_n 0, 1) := by decide +kernel
theorem dX11_isQuiet_31 : decode cX11_isQuiet 31 = .ok (.getfield 30, 3) := by decide +kernel
theorem dX11_isQuiet_34 : decode cX11_isQuiet 34 = .ok (.iconst 3, 1) := by decide +kernel
theorem dX11_isQuiet_35 : decode cX11_isQuiet 35 = .ok (.iload_n 2, 1) := by decide +kernel
theorem dX11_isQuiet_36 : decode cX11_isQuiet 36 = .ok (.imul, 1) := by decide +kernel
theorem dX11_isQuiet_37 : decode cX11_isQuiet 37 = .ok (.iconst 2, 1) := by decide +kernel
theorem dX11_isQuiet_38 : decode cX11_isQuiet 38 = .ok (.iadd, 1) := by decide +kernel
theorem dX11_isQuiet_39 : decode cX11_isQuiet 39 = .ok (.iaload, 1) := by decide +kernel
theorem dX11_isQuiet_40 : decode cX11_isQuiet 40 = .ok (.ifCond .ne 7, 3) := by decide +kernel
theorem dX11_isQuiet_43 : decode cX11_isQuiet 43 = .ok (.iconst 1, 1) := by decide +kernel
theorem dX11_isQuiet_44 : decode cX11_isQuiet 44 = .ok (.goto 4, 3) := by decide +kernel
theorem dX11_isQuiet_47 : decode cX11_isQuiet 47 = .ok (.iconst 0, 1) := by decide +kernel
theorem dX11_isQuiet_48 : decode cX11_isQuiet 48 = .ok (.istore_n 1, 1) := by decide +kernel
theorem dX11_isQuiet_49 : decode cX11_isQuiet 49 = .ok (.iinc 2 1, 3) := by decide +kernel
theorem dX11_isQuiet_52 : decode cX11_isQuiet 52 = .ok (.goto (-34), 3) := by decide +kernel
theorem dX11_isQuiet_55 : decode cX11_isQuiet 55 = .ok (.iload_n 1, 1) := by decide +kernel
theorem dX11_isQuiet_56 : decode cX11_isQuiet 56 = .ok (.ireturn, 1) := by decide +kernel
theorem dX11_toRun_0 : decode cX11_toRun 0 = .ok (.aload_n 0, 1) := by decide +kernel
theorem dX11_toRun_1 : decode cX11_toRun 1 = .ok (.getfield 33, 3) := by decide +kernel
theorem dX11_toRun_4 : decode cX11_toRun 4 = .ok (.iconst 0, 1) := by decide +kernel
theorem dX11_toRun_5 : decode cX11_toRun 5 = .ok (.aload_n 0, 1) := by decide +kernel
theorem dX11_toRun_6 : decode cX11_toRun 6 = .ok (.getfield 30, 3) := by decide +kernel
theorem dX11_toRun_9 : decode cX11_toRun 9 = .ok (.iconst 0, 1) := by decide +kernel
theorem dX11_toRun_10 : decode cX11_toRun 10 = .ok (.invokestatic 94, 3) := by decide +kernel
theorem dX11_toRun_13 : decode cX11_toRun 13 = .ok (.aload_n 0, 1) := by decide +kernel
theorem dX11_toRun_14 : decode cX11_toRun 14 = .ok (.invokevirtual 160, 3) := by decide +kernel
theorem dX11_toRun_17 : decode cX11_toRun 17 = .ok (.return_, 1) := by decide +kernel
theorem dX11_reset_0 : decode cX11_reset 0 = .ok (.aload_n 0, 1) := by decide +kernel
theorem dX11_reset_1 : decode cX11_reset 1 = .ok (.invokevirtual 91, 3) := by decide +kernel
theorem dX11_reset_4 : decode cX11_reset 4 = .ok (.aload_n 0, 1) := by decide +kernel
theorem dX11_reset_5 : decode cX11_reset 5 = .ok (.getfield 30, 3) := by decide +kernel
theorem dX11_reset_8 : decode cX11_reset 8 = .ok (.iconst 0, 1) := by decide +kernel
theorem dX11_reset_9 : decode cX11_reset 9 = .ok (.aload_n 0, 1) := by decide +kernel
theorem dX11_reset_10 : decode cX11_reset 10 = .ok (.getfield 33, 3) := by decide +kernel
theorem dX11_reset_13 : decode cX11_reset 13 = .ok (.iconst 0, 1) := by decide +kernel
theorem dX11_reset_14 : decode cX11_reset 14 = .ok (.invokestatic 94, 3) := by decide +kernel
theorem dX11_reset_17 : decode cX11_reset 17 = .ok (.aload_n 0, 1) := by decide +kernel
theorem dX11_reset_18 : decode cX11_reset 18 = .ok (.invokevirtual 163, 3) := by decide +kernel
theorem dX11_reset_21 : decode cX11_reset 21 = .ok (.aload_n 0, 1) := by decide +kernel
theorem dX11_reset_22 : decode cX11_reset 22 = .ok (.getfield 109, 3) := by decide +kernel
theorem dX11_reset_25 : decode cX11_reset 25 = .ok (.ireturn, 1) := by decide +kernel
theorem dX11_steps_0 : decode cX11_steps 0 = .ok (.aload_n 0, 1) := by decide +kernel
theorem dX11_steps_1 : decode cX11_steps 1 = .ok (.invokevirtual 163, 3) := by decide +kernel
theorem dX11_steps_4 : decode cX11_steps 4 = .ok (.aload_n 0, 1) := by decide +kernel
theorem dX11_steps_5 : decode cX11_steps 5 = .ok (.getfield 109, 3) := by decide +kernel
theorem dX11_steps_8 : decode cX11_steps 8 = .ok (.ireturn, 1) := by decide +kernel
theorem dX11_step_0 : decode cX11_step 0 = .ok (.aload_n 0, 1) := by decide +kernel
theorem dX11_step_1 : decode cX11_step 1 = .ok (.invokevirtual 163, 3) := by decide +kernel
theorem dX11_step_4 : decode cX11_step 4 = .ok (.iload_n 1, 1) := by decide +kernel
theorem dX11_step_5 : decode cX11_step 5 = .ok (.ifCond .lt 20, 3) := by decide +kernel
theorem dX11_step_8 : decode cX11_step 8 = .ok (.iload_n 1, 1) := by decide +kernel
theorem dX11_step_9 : decode cX11_step 9 = .ok (.aload_n 0, 1) := by decide +kernel
theorem dX11_step_10 : decode cX11_step 10 = .ok (.getfield 109, 3) := by decide +kernel
theorem dX11_step_13 : decode cX11_step 13 = .ok (.if_icmp .ge 12, 3) := by decide +kernel
theorem dX11_step_16 : decode cX11_step 16 = .ok (.iload_n 2, 1) := by decide +kernel
theorem dX11_step_17 : decode cX11_step 17 = .ok (.ifCond .lt 8, 3) := by decide +kernel
theorem dX11_step_20 : decode cX11_step 20 = .ok (.iload_n 2, 1) := by decide +kernel
theorem dX11_step_21 : decode cX11_step 21 = .ok (.iconst 2, 1) := by decide +kernel
theorem dX11_step_22 : decode cX11_step 22 = .ok (.if_icmp .le 5, 3) := by decide +kernel
theorem dX11_step_25 : decode cX11_step 25 = .ok (.iconst (-1), 1) := by decide +kernel
theorem dX11_step_26 : decode cX11_step 26 = .ok (.ireturn, 1) := by decide +kernel
theorem dX11_step_27 : decode cX11_step 27 = .ok (.iload_n 2, 1) := by decide +kernel
theorem dX11_step_28 : decode cX11_step 28 = .ok (.ifCond .ne 12, 3) := by decide +kernel
theorem dX11_step_31 : decode cX11_step 31 = .ok (.aload_n 0, 1) := by decide +kernel
theorem dX11_step_32 : decode cX11_step 32 = .ok (.getfield 39, 3) := by decide +kernel
theorem dX11_step_35 : decode cX11_step 35 = .ok (.iload_n 1, 1) := by decide +kernel
theorem dX11_step_36 : decode cX11_step 36 = .ok (.iaload, 1) := by decide +kernel
theorem dX11_step_37 : decode cX11_step 37 = .ok (.goto 23, 3) := by decide +kernel
theorem dX11_step_40 : decode cX11_step 40 = .ok (.iload_n 2, 1) := by decide +kernel
theorem dX11_step_41 : decode cX11_step 41 = .ok (.iconst 1, 1) := by decide +kernel
theorem dX11_step_42 : decode cX11_step 42 = .ok (.if_icmp .ne 12, 3) := by decide +kernel
theorem dX11_step_45 : decode cX11_step 45 = .ok (.aload_n 0, 1) := by decide +kernel
theorem dX11_step_46 : decode cX11_step 46 = .ok (.getfield 42, 3) := by decide +kernel
theorem dX11_step_49 : decode cX11_step 49 = .ok (.iload_n 1, 1) := by decide +kernel
theorem dX11_step_50 : decode cX11_step 50 = .ok (.iaload, 1) := by decide +kernel
theorem dX11_step_51 : decode cX11_step 51 = .ok (.goto 9, 3) := by decide +kernel
theorem dX11_step_54 : decode cX11_step 54 = .ok (.aload_n 0, 1) := by decide +kernel
theorem dX11_step_55 : decode cX11_step 55 = .ok (.getfield 45, 3) := by decide +kernel
theorem dX11_step_58 : decode cX11_step 58 = .ok (.iload_n 1, 1) := by decide +kernel
theorem dX11_step_59 : decode cX11_step 59 = .ok (.iaload, 1) := by decide +kernel
theorem dX11_step_60 : decode cX11_step 60 = .ok (.ireturn, 1) := by decide +kernel
theorem dX11_choose_0 : decode cX11_choose 0 = .ok (.aload_n 0, 1) := by decide +kernel
theorem dX11_choose_1 : decode cX11_choose 1 = .ok (.invokevirtual 163, 3) := by decide +kernel
theorem dX11_choose_4 : decode cX11_choose 4 = .ok (.iload_n 1, 1) := by decide +kernel
theorem dX11_choose_5 : decode cX11_choose 5 = .ok (.ifCond .lt 11, 3) := by decide +kernel
theorem dX11_choose_8 : decode cX11_choose 8 = .ok (.iload_n 1, 1) := by decide +kernel
theorem dX11_choose_9 : decode cX11_choose 9 = .ok (.aload_n 0, 1) := by decide +kernel
theorem dX11_choose_10 : decode cX11_choose 10 = .ok (.getfield 109, 3) := by decide +kernel
theorem dX11_choose_13 : decode cX11_choose 13 = .ok (.if_icmp .lt 5, 3) := by decide +kernel
theorem dX11_choose_16 : decode cX11_choose 16 = .ok (.iconst (-1), 1) := by decide +kernel
theorem dX11_choose_17 : decode cX11_choose 17 = .ok (.ireturn, 1) := by decide +kernel
theorem dX11_choose_18 : decode cX11_choose 18 = .ok (.aload_n 0, 1) := by decide +kernel
theorem dX11_choose_19 : decode cX11_choose 19 = .ok (.iload_n 1, 1) := by decide +kernel
theorem dX11_choose_20 : decode cX11_choose 20 = .ok (.invokevirtual 166, 3) := by decide +kernel
theorem dX11_choose_23 : decode cX11_choose 23 = .ok (.istore_n 2, 1) := by decide +kernel
theorem dX11_choose_24 : decode cX11_choose 24 = .ok (.iload_n 2, 1) := by decide +kernel
theorem dX11_choose_25 : decode cX11_choose 25 = .ok (.ifCond .ne 16, 3) := by decide +kernel
theorem dX11_choose_28 : decode cX11_choose 28 = .ok (.aload_n 0, 1) := by decide +kernel
theorem dX11_choose_29 : decode cX11_choose 29 = .ok (.getfield 30, 3) := by decide +kernel
theorem dX11_choose_32 : decode cX11_choose 32 = .ok (.iconst 0, 1) := by decide +kernel
theorem dX11_choose_33 : decode cX11_choose 33 = .ok (.aload_n 0, 1) := by decide +kernel
theorem dX11_choose_34 : decode cX11_choose 34 = .ok (.getfield 33, 3) := by decide +kernel
theorem dX11_choose_37 : decode cX11_choose 37 = .ok (.iconst 0, 1) := by decide +kernel
theorem dX11_choose_38 : decode cX11_choose 38 = .ok (.invokestatic 94, 3) := by decide +kernel
theorem dX11_choose_41 : decode cX11_choose 41 = .ok (.iload_n 2, 1) := by decide +kernel
theorem dX11_choose_42 : decode cX11_choose 42 = .ok (.ireturn, 1) := by decide +kernel
theorem dX11_end_0 : decode cX11_end 0 = .ok (.iload_n 1, 1) := by decide +kernel
theorem dX11_end_1 : decode cX11_end 1 = .ok (.ifCond .lt 20, 3) := by decide +kernel
theorem dX11_end_4 : decode cX11_end 4 = .ok (.iload_n 1, 1) := by decide +kernel
theorem dX11_end_5 : decode cX11_end 5 = .ok (.aload_n 0, 1) := by decide +kernel
theorem dX11_end_6 : decode cX11_end 6 = .ok (.getfield 7, 3) := by decide +kernel
theorem dX11_end_9 : decode cX11_end 9 = .ok (.if_icmp .gt 12, 3) := by decide +kernel
theorem dX11_end_12 : decode cX11_end 12 = .ok (.iload_n 2, 1) := by decide +kernel
theorem dX11_end_13 : decode cX11_end 13 = .ok (.ifCond .lt 8, 3) := by decide +kernel
theorem dX11_end_16 : decode cX11_end 16 = .ok (.iload_n 2, 1) := by decide +kernel
theorem dX11_end_17 : decode cX11_end 17 = .ok (.iconst 2, 1) := by decide +kernel
theorem dX11_end_18 : decode cX11_end 18 = .ok (.if_icmp .le 5, 3) := by decide +kernel
theorem dX11_end_21 : decode cX11_end 21 = .ok (.iconst (-1), 1) := by decide +kernel
theorem dX11_end_22 : decode cX11_end 22 = .ok (.ireturn, 1) := by decide +kernel
theorem dX11_end_23 : decode cX11_end 23 = .ok (.iload_n 1, 1) := by decide +kernel
theorem dX11_end_24 : decode cX11_end 24 = .ok (.aload_n 0, 1) := by decide +kernel
theorem dX11_end_25 : decode cX11_end 25 = .ok (.getfield 7, 3) := by decide +kernel
theorem dX11_end_28 : decode cX11_end 28 = .ok (.if_icmp .ne 15, 3) := by decide +kernel
theorem dX11_end_31 : decode cX11_end 31 = .ok (.aload_n 0, 1) := by decide +kernel
theorem dX11_end_32 : decode cX11_end 32 = .ok (.getfield 33, 3) := by decide +kernel
theorem dX11_end_35 : decode cX11_end 35 = .ok (.bipush 12, 2) := by decide +kernel
theorem dX11_end_37 : decode cX11_end 37 = .ok (.iload_n 2, 1) := by decide +kernel
theorem dX11_end_38 : decode cX11_end 38 = .ok (.iadd, 1) := by decide +kernel
theorem dX11_end_39 : decode cX11_end 39 = .ok (.iaload, 1) := by decide +kernel
theorem dX11_end_40 : decode cX11_end 40 = .ok (.goto 13, 3) := by decide +kernel
theorem dX11_end_43 : decode cX11_end 43 = .ok (.aload_n 0, 1) := by decide +kernel
theorem dX11_end_44 : decode cX11_end 44 = .ok (.getfield 33, 3) := by decide +kernel
theorem dX11_end_47 : decode cX11_end 47 = .ok (.iconst 3, 1) := by decide +kernel
theorem dX11_end_48 : decode cX11_end 48 = .ok (.iload_n 1, 1) := by decide +kernel
theorem dX11_end_49 : decode cX11_end 49 = .ok (.imul, 1) := by decide +kernel
theorem dX11_end_50 : decode cX11_end 50 = .ok (.iload_n 2, 1) := by decide +kernel
theorem dX11_end_51 : decode cX11_end 51 = .ok (.iadd, 1) := by decide +kernel
theorem dX11_end_52 : decode cX11_end 52 = .ok (.iaload, 1) := by decide +kernel
theorem dX11_end_53 : decode cX11_end 53 = .ok (.ireturn, 1) := by decide +kernel
theorem dX11_letter_0 : decode cX11_letter 0 = .ok (.iload_n 1, 1) := by decide +kernel
theorem dX11_letter_1 : decode cX11_letter 1 = .ok (.ifCond .lt 23, 3) := by decide +kernel
theorem dX11_letter_4 : decode cX11_letter 4 = .ok (.iload_n 1, 1) := by decide +kernel
theorem dX11_letter_5 : decode cX11_letter 5 = .ok (.aload_n 0, 1) := by decide +kernel
theorem dX11_letter_6 : decode cX11_letter 6 = .ok (.getfield 33, 3) := by decide +kernel
theorem dX11_letter_9 : decode cX11_letter 9 = .ok (.bipush 15, 2) := by decide +kernel
theorem dX11_letter_11 : decode cX11_letter 11 = .ok (.iaload, 1) := by decide +kernel
theorem dX11_letter_12 : decode cX11_letter 12 = .ok (.if_icmp .ge 12, 3) := by decide +kernel
theorem dX11_letter_15 : decode cX11_letter 15 = .ok (.iload_n 2, 1) := by decide +kernel
theorem dX11_letter_16 : decode cX11_letter 16 = .ok (.ifCond .lt 8, 3) := by decide +kernel
theorem dX11_letter_19 : decode cX11_letter 19 = .ok (.iload_n 2, 1) := by decide +kernel
theorem dX11_letter_20 : decode cX11_letter 20 = .ok (.iconst 4, 1) := by decide +kernel
theorem dX11_letter_21 : decode cX11_letter 21 = .ok (.if_icmp .le 5, 3) := by decide +kernel
theorem dX11_letter_24 : decode cX11_letter 24 = .ok (.iconst (-1), 1) := by decide +kernel
theorem dX11_letter_25 : decode cX11_letter 25 = .ok (.ireturn, 1) := by decide +kernel
theorem dX11_letter_26 : decode cX11_letter 26 = .ok (.aload_n 0, 1) := by decide +kernel
theorem dX11_letter_27 : decode cX11_letter 27 = .ok (.getfield 33, 3) := by decide +kernel
theorem dX11_letter_30 : decode cX11_letter 30 = .ok (.bipush 16, 2) := by decide +kernel
theorem dX11_letter_32 : decode cX11_letter 32 = .ok (.iconst 5, 1) := by decide +kernel
theorem dX11_letter_33 : decode cX11_letter 33 = .ok (.iload_n 1, 1) := by decide +kernel
theorem dX11_letter_34 : decode cX11_letter 34 = .ok (.imul, 1) := by decide +kernel
theorem dX11_letter_35 : decode cX11_letter 35 = .ok (.iadd, 1) := by decide +kernel
theorem dX11_letter_36 : decode cX11_letter 36 = .ok (.iload_n 2, 1) := by decide +kernel
theorem dX11_letter_37 : decode cX11_letter 37 = .ok (.iadd, 1) := by decide +kernel
theorem dX11_letter_38 : decode cX11_letter 38 = .ok (.iaload, 1) := by decide +kernel
theorem dX11_letter_39 : decode cX11_letter 39 = .ok (.ireturn, 1) := by decide +kernel
theorem dX11_now_0 : decode cX11_now 0 = .ok (.iload_n 1, 1) := by decide +kernel
theorem dX11_now_1 : decode cX11_now 1 = .ok (.ifCond .lt 8, 3) := by decide +kernel
theorem dX11_now_4 : decode cX11_now 4 = .ok (.iload_n 1, 1) := by decide +kernel
theorem dX11_now_5 : decode cX11_now 5 = .ok (.iconst 3, 1) := by decide +kernel
theorem dX11_now_6 : decode cX11_now 6 = .ok (.if_icmp .le 5, 3) := by decide +kernel
theorem dX11_now_9 : decode cX11_now 9 = .ok (.iconst (-1), 1) := by decide +kernel
theorem dX11_now_10 : decode cX11_now 10 = .ok (.ireturn, 1) := by decide +kernel
theorem dX11_now_11 : decode cX11_now 11 = .ok (.aload_n 0, 1) := by decide +kernel
theorem dX11_now_12 : decode cX11_now 12 = .ok (.invokevirtual 163, 3) := by decide +kernel
theorem dX11_now_15 : decode cX11_now 15 = .ok (.iload_n 1, 1) := by decide +kernel
theorem dX11_now_16 : decode cX11_now 16 = .ok (.iconst 2, 1) := by decide +kernel
theorem dX11_now_17 : decode cX11_now 17 = .ok (.if_icmp .ge 22, 3) := by decide +kernel
theorem dX11_now_20 : decode cX11_now 20 = .ok (.iload_n 1, 1) := by decide +kernel
theorem dX11_now_21 : decode cX11_now 21 = .ok (.ifCond .ne 13, 3) := by decide +kernel
theorem dX11_now_24 : decode cX11_now 24 = .ok (.aload_n 0, 1) := by decide +kernel
theorem dX11_now_25 : decode cX11_now 25 = .ok (.getfield 30, 3) := by decide +kernel
theorem dX11_now_28 : decode cX11_now 28 = .ok (.bipush 15, 2) := by decide +kernel
theorem dX11_now_30 : decode cX11_now 30 = .ok (.iaload, 1) := by decide +kernel
theorem dX11_now_31 : decode cX11_now 31 = .ok (.goto 7, 3) := by decide +kernel
theorem dX11_now_34 : decode cX11_now 34 = .ok (.aload_n 0, 1) := by decide +kernel
theorem dX11_now_35 : decode cX11_now 35 = .ok (.invokevirtual 169, 3) := by decide +kernel
theorem dX11_now_38 : decode cX11_now 38 = .ok (.ireturn, 1) := by decide +kernel
theorem dX11_now_39 : decode cX11_now 39 = .ok (.iload_n 1, 1) := by decide +kernel
theorem dX11_now_40 : decode cX11_now 40 = .ok (.iconst 2, 1) := by decide +kernel
theorem dX11_now_41 : decode cX11_now 41 = .ok (.if_icmp .ne 18, 3) := by decide +kernel
theorem dX11_now_44 : decode cX11_now 44 = .ok (.aload_n 0, 1) := by decide +kernel
theorem dX11_now_45 : decode cX11_now 45 = .ok (.invokevirtual 173, 3) := by decide +kernel
theorem dX11_now_48 : decode cX11_now 48 = .ok (.ifCond .eq 7, 3) := by decide +kernel
theorem dX11_now_51 : decode cX11_now 51 = .ok (.iconst 1, 1) := by decide +kernel
theorem dX11_now_52 : decode cX11_now 52 = .ok (.goto 26, 3) := by decide +kernel
theorem dX11_now_55 : decode cX11_now 55 = .ok (.iconst 0, 1) := by decide +kernel
theorem dX11_now_56 : decode cX11_now 56 = .ok (.goto 22, 3) := by decide +kernel
theorem dX11_now_59 : decode cX11_now 59 = .ok (.aload_n 0, 1) := by decide +kernel
theorem dX11_now_60 : decode cX11_now 60 = .ok (.getfield 109, 3) := by decide +kernel
theorem dX11_now_63 : decode cX11_now 63 = .ok (.ifCond .ne 14, 3) := by decide +kernel
theorem dX11_now_66 : decode cX11_now 66 = .ok (.aload_n 0, 1) := by decide +kernel
theorem dX11_now_67 : decode cX11_now 67 = .ok (.invokevirtual 173, 3) := by decide +kernel
theorem dX11_now_70 : decode cX11_now 70 = .ok (.ifCond .ne 7, 3) := by decide +kernel
theorem dX11_now_73 : decode cX11_now 73 = .ok (.iconst 1, 1) := by decide +kernel
theorem dX11_now_74 : decode cX11_now 74 = .ok (.goto 4, 3) := by decide +kernel
theorem dX11_now_77 : decode cX11_now 77 = .ok (.iconst 0, 1) := by decide +kernel
theorem dX11_now_78 : decode cX11_now 78 = .ok (.ireturn, 1) := by decide +kernel
theorem dX11_sumOf_0 : decode cX11_sumOf 0 = .ok (.lconst 0, 1) := by decide +kernel
theorem dX11_sumOf_1 : decode cX11_sumOf 1 = .ok (.lstore_n 1, 1) := by decide +kernel
theorem dX11_sumOf_2 : decode cX11_sumOf 2 = .ok (.iconst 0, 1) := by decide +kernel
theorem dX11_sumOf_3 : decode cX11_sumOf 3 = .ok (.istore_n 3, 1) := by decide +kernel
theorem dX11_sumOf_4 : decode cX11_sumOf 4 = .ok (.iload_n 3, 1) := by decide +kernel
theorem dX11_sumOf_5 : decode cX11_sumOf 5 = .ok (.bipush 56, 2) := by decide +kernel
theorem dX11_sumOf_7 : decode cX11_sumOf 7 = .ok (.if_icmp .ge 20, 3) := by decide +kernel
theorem dX11_sumOf_10 : decode cX11_sumOf 10 = .ok (.ldc2_w 177, 3) := by decide +kernel
theorem dX11_sumOf_13 : decode cX11_sumOf 13 = .ok (.lload_n 1, 1) := by decide +kernel
theorem dX11_sumOf_14 : decode cX11_sumOf 14 = .ok (.lmul, 1) := by decide +kernel
theorem dX11_sumOf_15 : decode cX11_sumOf 15 = .ok (.aload_n 0, 1) := by decide +kernel
theorem dX11_sumOf_16 : decode cX11_sumOf 16 = .ok (.iload_n 3, 1) := by decide +kernel
theorem dX11_sumOf_17 : decode cX11_sumOf 17 = .ok (.iaload, 1) := by decide +kernel
theorem dX11_sumOf_18 : decode cX11_sumOf 18 = .ok (.i2l, 1) := by decide +kernel
theorem dX11_sumOf_19 : decode cX11_sumOf 19 = .ok (.ladd, 1) := by decide +kernel
theorem dX11_sumOf_20 : decode cX11_sumOf 20 = .ok (.lstore_n 1, 1) := by decide +kernel
theorem dX11_sumOf_21 : decode cX11_sumOf 21 = .ok (.iinc 3 1, 3) := by decide +kernel
theorem dX11_sumOf_24 : decode cX11_sumOf 24 = .ok (.goto (-20), 3) := by decide +kernel
theorem dX11_sumOf_27 : decode cX11_sumOf 27 = .ok (.lload_n 1, 1) := by decide +kernel
theorem dX11_sumOf_28 : decode cX11_sumOf 28 = .ok (.lreturn, 1) := by decide +kernel
theorem dX11_numberOf_0 : decode cX11_numberOf 0 = .ok (.aload_n 0, 1) := by decide +kernel
theorem dX11_numberOf_1 : decode cX11_numberOf 1 = .ok (.getfield 30, 3) := by decide +kernel
theorem dX11_numberOf_4 : decode cX11_numberOf 4 = .ok (.invokestatic 179, 3) := by decide +kernel
theorem dX11_numberOf_7 : decode cX11_numberOf 7 = .ok (.lstore_n 1, 1) := by decide +kernel
theorem dX11_numberOf_8 : decode cX11_numberOf 8 = .ok (.iconst 0, 1) := by decide +kernel
theorem dX11_numberOf_9 : decode cX11_numberOf 9 = .ok (.istore_n 3, 1) := by decide +kernel
theorem dX11_numberOf_10 : decode cX11_numberOf 10 = .ok (.iload_n 3, 1) := by decide +kernel
theorem dX11_numberOf_11 : decode cX11_numberOf 11 = .ok (.aload_n 0, 1) := by decide +kernel
theorem dX11_numberOf_12 : decode cX11_numberOf 12 = .ok (.getfield 183, 3) := by decide +kernel
theorem dX11_numberOf_15 : decode cX11_numberOf 15 = .ok (.if_icmp .ge 83, 3) := by decide +kernel
theorem dX11_numberOf_18 : decode cX11_numberOf 18 = .ok (.aload_n 0, 1) := by decide +kernel
theorem dX11_numberOf_19 : decode cX11_numberOf 19 = .ok (.getfield 55, 3) := by decide +kernel
theorem dX11_numberOf_22 : decode cX11_numberOf 22 = .ok (.iload_n 3, 1) := by decide +kernel
theorem dX11_numberOf_23 : decode cX11_numberOf 23 = .ok (.laload, 1) := by decide +kernel
theorem dX11_numberOf_24 : decode cX11_numberOf 24 = .ok (.lload_n 1, 1) := by decide +kernel
theorem dX11_numberOf_25 : decode cX11_numberOf 25 = .ok (.lcmp, 1) := by decide +kernel
theorem dX11_numberOf_26 : decode cX11_numberOf 26 = .ok (.ifCond .eq 6, 3) := by decide +kernel
theorem dX11_numberOf_29 : decode cX11_numberOf 29 = .ok (.goto 63, 3) := by decide +kernel
theorem dX11_numberOf_32 : decode cX11_numberOf 32 = .ok (.iconst 1, 1) := by decide +kernel
theorem dX11_numberOf_33 : decode cX11_numberOf 33 = .ok (.istore 4, 2) := by decide +kernel
theorem dX11_numberOf_35 : decode cX11_numberOf 35 = .ok (.iconst 0, 1) := by decide +kernel
theorem dX11_numberOf_36 : decode cX11_numberOf 36 = .ok (.istore 5, 2) := by decide +kernel
theorem dX11_numberOf_38 : decode cX11_numberOf 38 = .ok (.iload 5, 2) := by decide +kernel
theorem dX11_numberOf_40 : decode cX11_numberOf 40 = .ok (.bipush 56, 2) := by decide +kernel
theorem dX11_numberOf_42 : decode cX11_numberOf 42 = .ok (.if_icmp .ge 43, 3) := by decide +kernel
theorem dX11_numberOf_45 : decode cX11_numberOf 45 = .ok (.iload 4, 2) := by decide +kernel
theorem dX11_numberOf_47 : decode cX11_numberOf 47 = .ok (.ifCond .eq 38, 3) := by decide +kernel
theorem dX11_numberOf_50 : decode cX11_numberOf 50 = .ok (.aload_n 0, 1) := by decide +kernel
theorem dX11_numberOf_51 : decode cX11_numberOf 51 = .ok (.getfield 52, 3) := by decide +kernel
theorem dX11_numberOf_54 : decode cX11_numberOf 54 = .ok (.bipush 56, 2) := by decide +kernel
theorem dX11_numberOf_56 : decode cX11_numberOf 56 = .ok (.iload_n 3, 1) := by decide +kernel
theorem dX11_numberOf_57 : decode cX11_numberOf 57 = .ok (.imul, 1) := by decide +kernel
theorem dX11_numberOf_58 : decode cX11_numberOf 58 = .ok (.iload 5, 2) := by decide +kernel
theorem dX11_numberOf_60 : decode cX11_numberOf 60 = .ok (.iadd, 1) := by decide +kernel
theorem dX11_numberOf_61 : decode cX11_numberOf 61 = .ok (.iaload, 1) := by decide +kernel
theorem dX11_numberOf_62 : decode cX11_numberOf 62 = .ok (.aload_n 0, 1) := by decide +kernel
theorem dX11_numberOf_63 : decode cX11_numberOf 63 = .ok (.getfield 30, 3) := by decide +kernel
theorem dX11_numberOf_66 : decode cX11_numberOf 66 = .ok (.iload 5, 2) := by decide +kernel
theorem dX11_numberOf_68 : decode cX11_numberOf 68 = .ok (.iaload, 1) := by decide +kernel
theorem dX11_numberOf_69 : decode cX11_numberOf 69 = .ok (.if_icmp .ne 7, 3) := by decide +kernel
theorem dX11_numberOf_72 : decode cX11_numberOf 72 = .ok (.iconst 1, 1) := by decide +kernel
theorem dX11_numberOf_73 : decode cX11_numberOf 73 = .ok (.goto 4, 3) := by decide +kernel
theorem dX11_numberOf_76 : decode cX11_numberOf 76 = .ok (.iconst 0, 1) := by decide +kernel
theorem dX11_numberOf_77 : decode cX11_numberOf 77 = .ok (.istore 4, 2) := by decide +kernel
theorem dX11_numberOf_79 : decode cX11_numberOf 79 = .ok (.iinc 5 1, 3) := by decide +kernel
theorem dX11_numberOf_82 : decode cX11_numberOf 82 = .ok (.goto (-44), 3) := by decide +kernel
theorem dX11_numberOf_85 : decode cX11_numberOf 85 = .ok (.iload 4, 2) := by decide +kernel
theorem dX11_numberOf_87 : decode cX11_numberOf 87 = .ok (.ifCond .eq 5, 3) := by decide +kernel
theorem dX11_numberOf_90 : decode cX11_numberOf 90 = .ok (.iload_n 3, 1) := by decide +kernel
theorem dX11_numberOf_91 : decode cX11_numberOf 91 = .ok (.ireturn, 1) := by decide +kernel
theorem dX11_numberOf_92 : decode cX11_numberOf 92 = .ok (.iinc 3 1, 3) := by decide +kernel
theorem dX11_numberOf_95 : decode cX11_numberOf 95 = .ok (.goto (-85), 3) := by decide +kernel
theorem dX11_numberOf_98 : decode cX11_numberOf 98 = .ok (.iconst (-1), 1) := by decide +kernel
theorem dX11_numberOf_99 : decode cX11_numberOf 99 = .ok (.ireturn, 1) := by decide +kernel
theorem dX11_addBad_0 : decode cX11_addBad 0 = .ok (.aload_n 0, 1) := by decide +kernel
theorem dX11_addBad_1 : decode cX11_addBad 1 = .ok (.getfield 186, 3) := by decide +kernel
theorem dX11_addBad_4 : decode cX11_addBad 4 = .ok (.sipush 200, 3) := by decide +kernel
theorem dX11_addBad_7 : decode cX11_addBad 7 = .ok (.if_icmp .ge 33, 3) := by decide +kernel
theorem dX11_addBad_10 : decode cX11_addBad 10 = .ok (.aload_n 0, 1) := by decide +kernel
theorem dX11_addBad_11 : decode cX11_addBad 11 = .ok (.getfield 78, 3) := by decide +kernel
theorem dX11_addBad_14 : decode cX11_addBad 14 = .ok (.aload_n 0, 1) := by decide +kernel
theorem dX11_addBad_15 : decode cX11_addBad 15 = .ok (.getfield 186, 3) := by decide +kernel
theorem dX11_addBad_18 : decode cX11_addBad 18 = .ok (.iload_n 1, 1) := by decide +kernel
theorem dX11_addBad_19 : decode cX11_addBad 19 = .ok (.iastore, 1) := by decide +kernel
theorem dX11_addBad_20 : decode cX11_addBad 20 = .ok (.aload_n 0, 1) := by decide +kernel
theorem dX11_addBad_21 : decode cX11_addBad 21 = .ok (.getfield 81, 3) := by decide +kernel
theorem dX11_addBad_24 : decode cX11_addBad 24 = .ok (.aload_n 0, 1) := by decide +kernel
theorem dX11_addBad_25 : decode cX11_addBad 25 = .ok (.getfield 186, 3) := by decide +kernel
theorem dX11_addBad_28 : decode cX11_addBad 28 = .ok (.iload_n 2, 1) := by decide +kernel
theorem dX11_addBad_29 : decode cX11_addBad 29 = .ok (.iastore, 1) := by decide +kernel
theorem dX11_addBad_30 : decode cX11_addBad 30 = .ok (.aload_n 0, 1) := by decide +kernel
theorem dX11_addBad_31 : decode cX11_addBad 31 = .ok (.getfield 84, 3) := by decide +kernel
theorem dX11_addBad_34 : decode cX11_addBad 34 = .ok (.aload_n 0, 1) := by decide +kernel
theorem dX11_addBad_35 : decode cX11_addBad 35 = .ok (.getfield 186, 3) := by decide +kernel
theorem dX11_addBad_38 : decode cX11_addBad 38 = .ok (.iload_n 3, 1) := by decide +kernel
theorem dX11_addBad_39 : decode cX11_addBad 39 = .ok (.iastore, 1) := by decide +kernel
theorem dX11_addBad_40 : decode cX11_addBad 40 = .ok (.aload_n 0, 1) := by decide +kernel
theorem dX11_addBad_41 : decode cX11_addBad 41 = .ok (.dup, 1) := by decide +kernel
theorem dX11_addBad_42 : decode cX11_addBad 42 = .ok (.getfield 186, 3) := by decide +kernel
theorem dX11_addBad_45 : decode cX11_addBad 45 = .ok (.iconst 1, 1) := by decide +kernel
theorem dX11_addBad_46 : decode cX11_addBad 46 = .ok (.iadd, 1) := by decide +kernel
theorem dX11_addBad_47 : decode cX11_addBad 47 = .ok (.putfield 186, 3) := by decide +kernel
theorem dX11_addBad_50 : decode cX11_addBad 50 = .ok (.return_, 1) := by decide +kernel
theorem dX11_add_0 : decode cX11_add 0 = .ok (.aload_n 0, 1) := by decide +kernel
theorem dX11_add_1 : decode cX11_add 1 = .ok (.getfield 183, 3) := by decide +kernel
theorem dX11_add_4 : decode cX11_add 4 = .ok (.istore_n 3, 1) := by decide +kernel
theorem dX11_add_5 : decode cX11_add 5 = .ok (.aload_n 0, 1) := by decide +kernel
theorem dX11_add_6 : decode cX11_add 6 = .ok (.getfield 30, 3) := by decide +kernel
theorem dX11_add_9 : decode cX11_add 9 = .ok (.iconst 0, 1) := by decide +kernel
theorem dX11_add_10 : decode cX11_add 10 = .ok (.aload_n 0, 1) := by decide +kernel
theorem dX11_add_11 : decode cX11_add 11 = .ok (.getfield 52, 3) := by decide +kernel
theorem dX11_add_14 : decode cX11_add 14 = .ok (.bipush 56, 2) := by decide +kernel
theorem dX11_add_16 : decode cX11_add 16 = .ok (.iload_n 3, 1) := by decide +kernel
theorem dX11_add_17 : decode cX11_add 17 = .ok (.imul, 1) := by decide +kernel
theorem dX11_add_18 : decode cX11_add 18 = .ok (.invokestatic 94, 3) := by decide +kernel
theorem dX11_add_21 : decode cX11_add 21 = .ok (.aload_n 0, 1) := by decide +kernel
theorem dX11_add_22 : decode cX11_add 22 = .ok (.getfield 55, 3) := by decide +kernel
theorem dX11_add_25 : decode cX11_add 25 = .ok (.iload_n 3, 1) := by decide +kernel
theorem dX11_add_26 : decode cX11_add 26 = .ok (.aload_n 0, 1) := by decide +kernel
theorem dX11_add_27 : decode cX11_add 27 = .ok (.getfield 30, 3) := by decide +kernel
theorem dX11_add_30 : decode cX11_add 30 = .ok (.invokestatic 179, 3) := by decide +kernel
theorem dX11_add_33 : decode cX11_add 33 = .ok (.lastore, 1) := by decide +kernel
theorem dX11_add_34 : decode cX11_add 34 = .ok (.aload_n 0, 1) := by decide +kernel
theorem dX11_add_35 : decode cX11_add 35 = .ok (.getfield 59, 3) := by decide +kernel
theorem dX11_add_38 : decode cX11_add 38 = .ok (.iload_n 3, 1) := by decide +kernel
theorem dX11_add_39 : decode cX11_add 39 = .ok (.iload_n 1, 1) := by decide +kernel
theorem dX11_add_40 : decode cX11_add 40 = .ok (.iastore, 1) := by decide +kernel
theorem dX11_add_41 : decode cX11_add 41 = .ok (.aload_n 0, 1) := by decide +kernel
theorem dX11_add_42 : decode cX11_add 42 = .ok (.getfield 62, 3) := by decide +kernel
theorem dX11_add_45 : decode cX11_add 45 = .ok (.iload_n 3, 1) := by decide +kernel
theorem dX11_add_46 : decode cX11_add 46 = .ok (.iload_n 2, 1) := by decide +kernel
theorem dX11_add_47 : decode cX11_add 47 = .ok (.iastore, 1) := by decide +kernel
theorem dX11_add_48 : decode cX11_add 48 = .ok (.aload_n 0, 1) := by decide +kernel
theorem dX11_add_49 : decode cX11_add 49 = .ok (.getfield 65, 3) := by decide +kernel
theorem dX11_add_52 : decode cX11_add 52 = .ok (.iload_n 3, 1) := by decide +kernel
theorem dX11_add_53 : decode cX11_add 53 = .ok (.iload_n 1, 1) := by decide +kernel
theorem dX11_add_54 : decode cX11_add 54 = .ok (.ifCond .ge 7, 3) := by decide +kernel
theorem dX11_add_57 : decode cX11_add 57 = .ok (.iconst 0, 1) := by decide +kernel
theorem dX11_add_58 : decode cX11_add 58 = .ok (.goto 11, 3) := by decide +kernel
theorem dX11_add_61 : decode cX11_add 61 = .ok (.aload_n 0, 1) := by decide +kernel
theorem dX11_add_62 : decode cX11_add 62 = .ok (.getfield 65, 3) := by decide +kernel
theorem dX11_add_65 : decode cX11_add 65 = .ok (.iload_n 1, 1) := by decide +kernel
theorem dX11_add_66 : decode cX11_add 66 = .ok (.iaload, 1) := by decide +kernel
theorem dX11_add_67 : decode cX11_add 67 = .ok (.iconst 1, 1) := by decide +kernel
theorem dX11_add_68 : decode cX11_add 68 = .ok (.iadd, 1) := by decide +kernel
theorem dX11_add_69 : decode cX11_add 69 = .ok (.iastore, 1) := by decide +kernel
theorem dX11_add_70 : decode cX11_add 70 = .ok (.aload_n 0, 1) := by decide +kernel
theorem dX11_add_71 : decode cX11_add 71 = .ok (.dup, 1) := by decide +kernel
theorem dX11_add_72 : decode cX11_add 72 = .ok (.getfield 183, 3) := by decide +kernel
theorem dX11_add_75 : decode cX11_add 75 = .ok (.iconst 1, 1) := by decide +kernel
theorem dX11_add_76 : decode cX11_add 76 = .ok (.iadd, 1) := by decide +kernel
theorem dX11_add_77 : decode cX11_add 77 = .ok (.putfield 183, 3) := by decide +kernel
theorem dX11_add_80 : decode cX11_add 80 = .ok (.aload_n 0, 1) := by decide +kernel
theorem dX11_add_81 : decode cX11_add 81 = .ok (.dup, 1) := by decide +kernel
theorem dX11_add_82 : decode cX11_add 82 = .ok (.getfield 189, 3) := by decide +kernel
theorem dX11_add_85 : decode cX11_add 85 = .ok (.aload_n 0, 1) := by decide +kernel
theorem dX11_add_86 : decode cX11_add 86 = .ok (.invokevirtual 173, 3) := by decide +kernel
theorem dX11_add_89 : decode cX11_add 89 = .ok (.ifCond .eq 7, 3) := by decide +kernel
theorem dX11_add_92 : decode cX11_add 92 = .ok (.iconst 1, 1) := by decide +kernel
theorem dX11_add_93 : decode cX11_add 93 = .ok (.goto 4, 3) := by decide +kernel
theorem dX11_add_96 : decode cX11_add 96 = .ok (.iconst 0, 1) := by decide +kernel
theorem dX11_add_97 : decode cX11_add 97 = .ok (.iadd, 1) := by decide +kernel
theorem dX11_add_98 : decode cX11_add 98 = .ok (.putfield 189, 3) := by decide +kernel
theorem dX11_add_101 : decode cX11_add 101 = .ok (.aload_n 0, 1) := by decide +kernel
theorem dX11_add_102 : decode cX11_add 102 = .ok (.invokevirtual 169, 3) := by decide +kernel
theorem dX11_add_105 : decode cX11_add 105 = .ok (.istore 4, 2) := by decide +kernel
theorem dX11_add_107 : decode cX11_add 107 = .ok (.iload 4, 2) := by decide +kernel
theorem dX11_add_109 : decode cX11_add 109 = .ok (.ifCond .eq 11, 3) := by decide +kernel
theorem dX11_add_112 : decode cX11_add 112 = .ok (.aload_n 0, 1) := by decide +kernel
theorem dX11_add_113 : decode cX11_add 113 = .ok (.iload 4, 2) := by decide +kernel
theorem dX11_add_115 : decode cX11_add 115 = .ok (.iload_n 3, 1) := by decide +kernel
theorem dX11_add_116 : decode cX11_add 116 = .ok (.iconst (-1), 1) := by decide +kernel
theorem dX11_add_117 : decode cX11_add 117 = .ok (.invokevirtual 192, 3) := by decide +kernel
theorem dX11_add_120 : decode cX11_add 120 = .ok (.iload_n 3, 1) := by decide +kernel
theorem dX11_add_121 : decode cX11_add 121 = .ok (.ireturn, 1) := by decide +kernel
theorem dX11_walk_0 : decode cX11_walk 0 = .ok (.iload_n 1, 1) := by decide +kernel
theorem dX11_walk_1 : decode cX11_walk 1 = .ok (.iconst 1, 1) := by decide +kernel
theorem dX11_walk_2 : decode cX11_walk 2 = .ok (.if_icmp .lt 10, 3) := by decide +kernel
theorem dX11_walk_5 : decode cX11_walk 5 = .ok (.iload_n 1, 1) := by decide +kernel
theorem dX11_walk_6 : decode cX11_walk 6 = .ok (.sipush 4000, 3) := by decide +kernel
theorem dX11_walk_9 : decode cX11_walk 9 = .ok (.if_icmp .le 5, 3) := by decide +kernel
theorem dX11_walk_12 : decode cX11_walk 12 = .ok (.iconst (-1), 1) := by decide +kernel
theorem dX11_walk_13 : decode cX11_walk 13 = .ok (.ireturn, 1) := by decide +kernel
theorem dX11_walk_14 : decode cX11_walk 14 = .ok (.aload_n 0, 1) := by decide +kernel
theorem dX11_walk_15 : decode cX11_walk 15 = .ok (.iconst 0, 1) := by decide +kernel
theorem dX11_walk_16 : decode cX11_walk 16 = .ok (.putfield 183, 3) := by decide +kernel
theorem dX11_walk_19 : decode cX11_walk 19 = .ok (.aload_n 0, 1) := by decide +kernel
theorem dX11_walk_20 : decode cX11_walk 20 = .ok (.iconst 0, 1) := by decide +kernel
theorem dX11_walk_21 : decode cX11_walk 21 = .ok (.putfield 196, 3) := by decide +kernel
theorem dX11_walk_24 : decode cX11_walk 24 = .ok (.aload_n 0, 1) := by decide +kernel
theorem dX11_walk_25 : decode cX11_walk 25 = .ok (.iconst 0, 1) := by decide +kernel
theorem dX11_walk_26 : decode cX11_walk 26 = .ok (.putfield 186, 3) := by decide +kernel
theorem dX11_walk_29 : decode cX11_walk 29 = .ok (.aload_n 0, 1) := by decide +kernel
theorem dX11_walk_30 : decode cX11_walk 30 = .ok (.iconst 0, 1) := by decide +kernel
theorem dX11_walk_31 : decode cX11_walk 31 = .ok (.putfield 189, 3) := by decide +kernel
theorem dX11_walk_34 : decode cX11_walk 34 = .ok (.aload_n 0, 1) := by decide +kernel
theorem dX11_walk_35 : decode cX11_walk 35 = .ok (.iconst 0, 1) := by decide +kernel
theorem dX11_walk_36 : decode cX11_walk 36 = .ok (.putfield 199, 3) := by decide +kernel
theorem dX11_walk_39 : decode cX11_walk 39 = .ok (.aload_n 0, 1) := by decide +kernel
theorem dX11_walk_40 : decode cX11_walk 40 = .ok (.iconst 0, 1) := by decide +kernel
theorem dX11_walk_41 : decode cX11_walk 41 = .ok (.putfield 87, 3) := by decide +kernel
theorem dX11_walk_44 : decode cX11_walk 44 = .ok (.iconst 0, 1) := by decide +kernel
theorem dX11_walk_45 : decode cX11_walk 45 = .ok (.istore_n 2, 1) := by decide +kernel
theorem dX11_walk_46 : decode cX11_walk 46 = .ok (.iload_n 2, 1) := by decide +kernel
theorem dX11_walk_47 : decode cX11_walk 47 = .ok (.sipush 2048, 3) := by decide +kernel
theorem dX11_walk_50 : decode cX11_walk 50 = .ok (.if_icmp .ge 16, 3) := by decide +kernel
theorem dX11_walk_53 : decode cX11_walk 53 = .ok (.aload_n 0, 1) := by decide +kernel
theorem dX11_walk_54 : decode cX11_walk 54 = .ok (.getfield 26, 3) := by decide +kernel
theorem dX11_walk_57 : decode cX11_walk 57 = .ok (.iload_n 2, 1) := by decide +kernel
theorem dX11_walk_58 : decode cX11_walk 58 = .ok (.iconst 0, 1) := by decide +kernel
theorem dX11_walk_59 : decode cX11_walk 59 = .ok (.bastore, 1) := by decide +kernel
theorem dX11_walk_60 : decode cX11_walk 60 = .ok (.iinc 2 1, 3) := by decide +kernel
theorem dX11_walk_63 : decode cX11_walk 63 = .ok (.goto (-17), 3) := by decide +kernel
theorem dX11_walk_66 : decode cX11_walk 66 = .ok (.aload_n 0, 1) := by decide +kernel
theorem dX11_walk_67 : decode cX11_walk 67 = .ok (.invokevirtual 91, 3) := by decide +kernel
theorem dX11_walk_70 : decode cX11_walk 70 = .ok (.aload_n 0, 1) := by decide +kernel
theorem dX11_walk_71 : decode cX11_walk 71 = .ok (.iconst (-1), 1) := by decide +kernel
theorem dX11_walk_72 : decode cX11_walk 72 = .ok (.iconst (-1), 1) := by decide +kernel
theorem dX11_walk_73 : decode cX11_walk 73 = .ok (.invokevirtual 202, 3) := by decide +kernel
theorem dX11_walk_76 : decode cX11_walk 76 = .ok (.istore_n 2, 1) := by decide +kernel
theorem dX11_walk_77 : decode cX11_walk 77 = .ok (.iconst 0, 1) := by decide +kernel
theorem dX11_walk_78 : decode cX11_walk 78 = .ok (.istore_n 3, 1) := by decide +kernel
theorem dX11_walk_79 : decode cX11_walk 79 = .ok (.iload_n 3, 1) := by decide +kernel
theorem dX11_walk_80 : decode cX11_walk 80 = .ok (.aload_n 0, 1) := by decide +kernel
theorem dX11_walk_81 : decode cX11_walk 81 = .ok (.getfield 183, 3) := by decide +kernel
theorem dX11_walk_84 : decode cX11_walk 84 = .ok (.if_icmp .ge 15, 3) := by decide +kernel
theorem dX11_walk_87 : decode cX11_walk 87 = .ok (.aload_n 0, 1) := by decide +kernel
theorem dX11_walk_88 : decode cX11_walk 88 = .ok (.iload_n 3, 1) := by decide +kernel
theorem dX11_walk_89 : decode cX11_walk 89 = .ok (.iload_n 1, 1) := by decide +kernel
theorem dX11_walk_90 : decode cX11_walk 90 = .ok (.invokevirtual 205, 3) := by decide +kernel
theorem dX11_walk_93 : decode cX11_walk 93 = .ok (.iinc 3 1, 3) := by decide +kernel
theorem dX11_walk_96 : decode cX11_walk 96 = .ok (.goto (-17), 3) := by decide +kernel
theorem dX11_walk_99 : decode cX11_walk 99 = .ok (.aload_n 0, 1) := by decide +kernel
theorem dX11_walk_100 : decode cX11_walk 100 = .ok (.invokevirtual 209, 3) := by decide +kernel
theorem dX11_walk_103 : decode cX11_walk 103 = .ok (.aload_n 0, 1) := by decide +kernel
theorem dX11_walk_104 : decode cX11_walk 104 = .ok (.getfield 199, 3) := by decide +kernel
theorem dX11_walk_107 : decode cX11_walk 107 = .ok (.ifCond .eq 13, 3) := by decide +kernel
theorem dX11_walk_110 : decode cX11_walk 110 = .ok (.aload_n 0, 1) := by decide +kernel
theorem dX11_walk_111 : decode cX11_walk 111 = .ok (.getfield 183, 3) := by decide +kernel
theorem dX11_walk_114 : decode cX11_walk 114 = .ok (.ineg, 1) := by decide +kernel
theorem dX11_walk_115 : decode cX11_walk 115 = .ok (.iconst 1, 1) := by decide +kernel
theorem dX11_walk_116 : decode cX11_walk 116 = .ok (.isub, 1) := by decide +kernel
theorem dX11_walk_117 : decode cX11_walk 117 = .ok (.goto 7, 3) := by decide +kernel
theorem dX11_walk_120 : decode cX11_walk 120 = .ok (.aload_n 0, 1) := by decide +kernel
theorem dX11_walk_121 : decode cX11_walk 121 = .ok (.getfield 183, 3) := by decide +kernel
theorem dX11_walk_124 : decode cX11_walk 124 = .ok (.ireturn, 1) := by decide +kernel
theorem dX11_from_0 : decode cX11_from 0 = .ok (.aload_n 0, 1) := by decide +kernel
theorem dX11_from_1 : decode cX11_from 1 = .ok (.getfield 52, 3) := by decide +kernel
theorem dX11_from_4 : decode cX11_from 4 = .ok (.bipush 56, 2) := by decide +kernel
theorem dX11_from_6 : decode cX11_from 6 = .ok (.iload_n 1, 1) := by decide +kernel
theorem dX11_from_7 : decode cX11_from 7 = .ok (.imul, 1) := by decide +kernel
theorem dX11_from_8 : decode cX11_from 8 = .ok (.aload_n 0, 1) := by decide +kernel
theorem dX11_from_9 : decode cX11_from 9 = .ok (.getfield 30, 3) := by decide +kernel
theorem dX11_from_12 : decode cX11_from 12 = .ok (.iconst 0, 1) := by decide +kernel
theorem dX11_from_13 : decode cX11_from 13 = .ok (.invokestatic 94, 3) := by decide +kernel
theorem dX11_from_16 : decode cX11_from 16 = .ok (.aload_n 0, 1) := by decide +kernel
theorem dX11_from_17 : decode cX11_from 17 = .ok (.invokevirtual 160, 3) := by decide +kernel
theorem dX11_from_20 : decode cX11_from 20 = .ok (.aload_n 0, 1) := by decide +kernel
theorem dX11_from_21 : decode cX11_from 21 = .ok (.getfield 72, 3) := by decide +kernel
theorem dX11_from_24 : decode cX11_from 24 = .ok (.iload_n 1, 1) := by decide +kernel
theorem dX11_from_25 : decode cX11_from 25 = .ok (.aload_n 0, 1) := by decide +kernel
theorem dX11_from_26 : decode cX11_from 26 = .ok (.getfield 109, 3) := by decide +kernel
theorem dX11_from_29 : decode cX11_from 29 = .ok (.ifCond .ne 14, 3) := by decide +kernel
theorem dX11_from_32 : decode cX11_from 32 = .ok (.aload_n 0, 1) := by decide +kernel
theorem dX11_from_33 : decode cX11_from 33 = .ok (.invokevirtual 173, 3) := by decide +kernel
theorem dX11_from_36 : decode cX11_from 36 = .ok (.ifCond .ne 7, 3) := by decide +kernel
theorem dX11_from_39 : decode cX11_from 39 = .ok (.iconst 1, 1) := by decide +kernel
theorem dX11_from_40 : decode cX11_from 40 = .ok (.goto 4, 3) := by decide +kernel
theorem dX11_from_43 : decode cX11_from 43 = .ok (.iconst 0, 1) := by decide +kernel
theorem dX11_from_44 : decode cX11_from 44 = .ok (.bastore, 1) := by decide +kernel
theorem dX11_from_45 : decode cX11_from 45 = .ok (.aload_n 0, 1) := by decide +kernel
theorem dX11_from_46 : decode cX11_from 46 = .ok (.getfield 109, 3) := by decide +kernel
theorem dX11_from_49 : decode cX11_from 49 = .ok (.istore_n 3, 1) := by decide +kernel
theorem dX11_from_50 : decode cX11_from 50 = .ok (.iconst 0, 1) := by decide +kernel
theorem dX11_from_51 : decode cX11_from 51 = .ok (.istore 4, 2) := by decide +kernel
theorem dX11_from_53 : decode cX11_from 53 = .ok (.iload 4, 2) := by decide +kernel
theorem dX11_from_55 : decode cX11_from 55 = .ok (.bipush 20, 2) := by decide +kernel
theorem dX11_from_57 : decode cX11_from 57 = .ok (.if_icmp .ge 22, 3) := by decide +kernel
theorem dX11_from_60 : decode cX11_from 60 = .ok (.aload_n 0, 1) := by decide +kernel
theorem dX11_from_61 : decode cX11_from 61 = .ok (.getfield 69, 3) := by decide +kernel
theorem dX11_from_64 : decode cX11_from 64 = .ok (.bipush 20, 2) := by decide +kernel
theorem dX11_from_66 : decode cX11_from 66 = .ok (.iload_n 1, 1) := by decide +kernel
theorem dX11_from_67 : decode cX11_from 67 = .ok (.imul, 1) := by decide +kernel
theorem dX11_from_68 : decode cX11_from 68 = .ok (.iload 4, 2) := by decide +kernel
theorem dX11_from_70 : decode cX11_from 70 = .ok (.iadd, 1) := by decide +kernel
theorem dX11_from_71 : decode cX11_from 71 = .ok (.iconst (-1), 1) := by decide +kernel
theorem dX11_from_72 : decode cX11_from 72 = .ok (.iastore, 1) := by decide +kernel
theorem dX11_from_73 : decode cX11_from 73 = .ok (.iinc 4 1, 3) := by decide +kernel
theorem dX11_from_76 : decode cX11_from 76 = .ok (.goto (-23), 3) := by decide +kernel
theorem dX11_from_79 : decode cX11_from 79 = .ok (.iconst 0, 1) := by decide +kernel
theorem dX11_from_80 : decode cX11_from 80 = .ok (.istore 4, 2) := by decide +kernel
theorem dX11_from_82 : decode cX11_from 82 = .ok (.iload 4, 2) := by decide +kernel
theorem dX11_from_84 : decode cX11_from 84 = .ok (.iload_n 3, 1) := by decide +kernel
theorem dX11_from_85 : decode cX11_from 85 = .ok (.if_icmp .ge 132, 3) := by decide +kernel
theorem dX11_from_88 : decode cX11_from 88 = .ok (.aload_n 0, 1) := by decide +kernel
theorem dX11_from_89 : decode cX11_from 89 = .ok (.getfield 52, 3) := by decide +kernel
theorem dX11_from_92 : decode cX11_from 92 = .ok (.bipush 56, 2) := by decide +kernel
theorem dX11_from_94 : decode cX11_from 94 = .ok (.iload_n 1, 1) := by decide +kernel
theorem dX11_from_95 : decode cX11_from 95 = .ok (.imul, 1) := by decide +kernel
theorem dX11_from_96 : decode cX11_from 96 = .ok (.aload_n 0, 1) := by decide +kernel
theorem dX11_from_97 : decode cX11_from 97 = .ok (.getfield 30, 3) := by decide +kernel
theorem dX11_from_100 : decode cX11_from 100 = .ok (.iconst 0, 1) := by decide +kernel
theorem dX11_from_101 : decode cX11_from 101 = .ok (.invokestatic 94, 3) := by decide +kernel
theorem dX11_from_104 : decode cX11_from 104 = .ok (.aload_n 0, 1) := by decide +kernel
theorem dX11_from_105 : decode cX11_from 105 = .ok (.iload 4, 2) := by decide +kernel
theorem dX11_from_107 : decode cX11_from 107 = .ok (.invokevirtual 166, 3) := by decide +kernel
theorem dX11_from_110 : decode cX11_from 110 = .ok (.istore 5, 2) := by decide +kernel
theorem dX11_from_112 : decode cX11_from 112 = .ok (.aload_n 0, 1) := by decide +kernel
theorem dX11_from_113 : decode cX11_from 113 = .ok (.dup, 1) := by decide +kernel
theorem dX11_from_114 : decode cX11_from 114 = .ok (.getfield 196, 3) := by decide +kernel
theorem dX11_from_117 : decode cX11_from 117 = .ok (.iconst 1, 1) := by decide +kernel
theorem dX11_from_118 : decode cX11_from 118 = .ok (.iadd, 1) := by decide +kernel
theorem dX11_from_119 : decode cX11_from 119 = .ok (.putfield 196, 3) := by decide +kernel
theorem dX11_from_122 : decode cX11_from 122 = .ok (.aload_n 0, 1) := by decide +kernel
theorem dX11_from_123 : decode cX11_from 123 = .ok (.getfield 150, 3) := by decide +kernel
theorem dX11_from_126 : decode cX11_from 126 = .ok (.ifCond .lt 13, 3) := by decide +kernel
theorem dX11_from_129 : decode cX11_from 129 = .ok (.aload_n 0, 1) := by decide +kernel
theorem dX11_from_130 : decode cX11_from 130 = .ok (.getfield 26, 3) := by decide +kernel
theorem dX11_from_133 : decode cX11_from 133 = .ok (.aload_n 0, 1) := by decide +kernel
theorem dX11_from_134 : decode cX11_from 134 = .ok (.getfield 150, 3) := by decide +kernel
theorem dX11_from_137 : decode cX11_from 137 = .ok (.iconst 1, 1) := by decide +kernel
theorem dX11_from_138 : decode cX11_from 138 = .ok (.bastore, 1) := by decide +kernel
theorem dX11_from_139 : decode cX11_from 139 = .ok (.iload 5, 2) := by decide +kernel
theorem dX11_from_141 : decode cX11_from 141 = .ok (.ifCond .eq 15, 3) := by decide +kernel
theorem dX11_from_144 : decode cX11_from 144 = .ok (.aload_n 0, 1) := by decide +kernel
theorem dX11_from_145 : decode cX11_from 145 = .ok (.iload 5, 2) := by decide +kernel
theorem dX11_from_147 : decode cX11_from 147 = .ok (.iload_n 1, 1) := by decide +kernel
theorem dX11_from_148 : decode cX11_from 148 = .ok (.iload 4, 2) := by decide +kernel
theorem dX11_from_150 : decode cX11_from 150 = .ok (.invokevirtual 192, 3) := by decide +kernel
theorem dX11_from_153 : decode cX11_from 153 = .ok (.goto 58, 3) := by decide +kernel
theorem dX11_from_156 : decode cX11_from 156 = .ok (.aload_n 0, 1) := by decide +kernel
theorem dX11_from_157 : decode cX11_from 157 = .ok (.invokevirtual 212, 3) := by decide +kernel
theorem dX11_from_160 : decode cX11_from 160 = .ok (.istore 6, 2) := by decide +kernel
theorem dX11_from_162 : decode cX11_from 162 = .ok (.iload 6, 2) := by decide +kernel
theorem dX11_from_164 : decode cX11_from 164 = .ok (.ifCond .ge 23, 3) := by decide +kernel
theorem dX11_from_167 : decode cX11_from 167 = .ok (.aload_n 0, 1) := by decide +kernel
theorem dX11_from_168 : decode cX11_from 168 = .ok (.getfield 183, 3) := by decide +kernel
theorem dX11_from_171 : decode cX11_from 171 = .ok (.iload_n 2, 1) := by decide +kernel
theorem dX11_from_172 : decode cX11_from 172 = .ok (.if_icmp .ge 15, 3) := by decide +kernel
theorem dX11_from_175 : decode cX11_from 175 = .ok (.aload_n 0, 1) := by decide +kernel
theorem dX11_from_176 : decode cX11_from 176 = .ok (.iload_n 1, 1) := by decide +kernel
theorem dX11_from_177 : decode cX11_from 177 = .ok (.iload 4, 2) := by decide +kernel
theorem dX11_from_179 : decode cX11_from 179 = .ok (.invokevirtual 202, 3) := by decide +kernel
theorem dX11_from_182 : decode cX11_from 182 = .ok (.istore 6, 2) := by decide +kernel
theorem dX11_from_184 : decode cX11_from 184 = .ok (.goto 13, 3) := by decide +kernel
theorem dX11_from_187 : decode cX11_from 187 = .ok (.iload 6, 2) := by decide +kernel
theorem dX11_from_189 : decode cX11_from 189 = .ok (.ifCond .ge 8, 3) := by decide +kernel
theorem dX11_from_192 : decode cX11_from 192 = .ok (.aload_n 0, 1) := by decide +kernel
theorem dX11_from_193 : decode cX11_from 193 = .ok (.iconst 1, 1) := by decide +kernel
theorem dX11_from_194 : decode cX11_from 194 = .ok (.putfield 199, 3) := by decide +kernel
theorem dX11_from_197 : decode cX11_from 197 = .ok (.aload_n 0, 1) := by decide +kernel
theorem dX11_from_198 : decode cX11_from 198 = .ok (.getfield 69, 3) := by decide +kernel
theorem dX11_from_201 : decode cX11_from 201 = .ok (.bipush 20, 2) := by decide +kernel
theorem dX11_from_203 : decode cX11_from 203 = .ok (.iload_n 1, 1) := by decide +kernel
theorem dX11_from_204 : decode cX11_from 204 = .ok (.imul, 1) := by decide +kernel
theorem dX11_from_205 : decode cX11_from 205 = .ok (.iload 4, 2) := by decide +kernel
theorem dX11_from_207 : decode cX11_from 207 = .ok (.iadd, 1) := by decide +kernel
theorem dX11_from_208 : decode cX11_from 208 = .ok (.iload 6, 2) := by decide +kernel
theorem dX11_from_210 : decode cX11_from 210 = .ok (.iastore, 1) := by decide +kernel
theorem dX11_from_211 : decode cX11_from 211 = .ok (.iinc 4 1, 3) := by decide +kernel
theorem dX11_from_214 : decode cX11_from 214 = .ok (.goto (-132), 3) := by decide +kernel
theorem dX11_from_217 : decode cX11_from 217 = .ok (.return_, 1) := by decide +kernel
theorem dX11_lead_0 : decode cX11_lead 0 = .ok (.iconst 0, 1) := by decide +kernel
theorem dX11_lead_1 : decode cX11_lead 1 = .ok (.istore_n 1, 1) := by decide +kernel
theorem dX11_lead_2 : decode cX11_lead 2 = .ok (.iload_n 1, 1) := by decide +kernel
theorem dX11_lead_3 : decode cX11_lead 3 = .ok (.aload_n 0, 1) := by decide +kernel
theorem dX11_lead_4 : decode cX11_lead 4 = .ok (.getfield 183, 3) := by decide +kernel
theorem dX11_lead_7 : decode cX11_lead 7 = .ok (.if_icmp .ge 35, 3) := by decide +kernel
theorem dX11_lead_10 : decode cX11_lead 10 = .ok (.aload_n 0, 1) := by decide +kernel
theorem dX11_lead_11 : decode cX11_lead 11 = .ok (.getfield 52, 3) := by decide +kernel
theorem dX11_lead_14 : decode cX11_lead 14 = .ok (.bipush 56, 2) := by decide +kernel
theorem dX11_lead_16 : decode cX11_lead 16 = .ok (.iload_n 1, 1) := by decide +kernel
theorem dX11_lead_17 : decode cX11_lead 17 = .ok (.imul, 1) := by decide +kernel
theorem dX11_lead_18 : decode cX11_lead 18 = .ok (.aload_n 0, 1) := by decide +kernel
theorem dX11_lead_19 : decode cX11_lead 19 = .ok (.getfield 30, 3) := by decide +kernel
theorem dX11_lead_22 : decode cX11_lead 22 = .ok (.iconst 0, 1) := by decide +kernel
theorem dX11_lead_23 : decode cX11_lead 23 = .ok (.invokestatic 94, 3) := by decide +kernel
theorem dX11_lead_26 : decode cX11_lead 26 = .ok (.aload_n 0, 1) := by decide +kernel
theorem dX11_lead_27 : decode cX11_lead 27 = .ok (.getfield 75, 3) := by decide +kernel
theorem dX11_lead_30 : decode cX11_lead 30 = .ok (.iload_n 1, 1) := by decide +kernel
theorem dX11_lead_31 : decode cX11_lead 31 = .ok (.aload_n 0, 1) := by decide +kernel
theorem dX11_lead_32 : decode cX11_lead 32 = .ok (.invokevirtual 173, 3) := by decide +kernel
theorem dX11_lead_35 : decode cX11_lead 35 = .ok (.bastore, 1) := by decide +kernel
theorem dX11_lead_36 : decode cX11_lead 36 = .ok (.iinc 1 1, 3) := by decide +kernel
theorem dX11_lead_39 : decode cX11_lead 39 = .ok (.goto (-37), 3) := by decide +kernel
theorem dX11_lead_42 : decode cX11_lead 42 = .ok (.iconst 1, 1) := by decide +kernel
theorem dX11_lead_43 : decode cX11_lead 43 = .ok (.istore_n 1, 1) := by decide +kernel
theorem dX11_lead_44 : decode cX11_lead 44 = .ok (.iload_n 1, 1) := by decide +kernel
theorem dX11_lead_45 : decode cX11_lead 45 = .ok (.ifCond .eq 120, 3) := by decide +kernel
theorem dX11_lead_48 : decode cX11_lead 48 = .ok (.iconst 0, 1) := by decide +kernel
theorem dX11_lead_49 : decode cX11_lead 49 = .ok (.istore_n 1, 1) := by decide +kernel
theorem dX11_lead_50 : decode cX11_lead 50 = .ok (.aload_n 0, 1) := by decide +kernel
theorem dX11_lead_51 : decode cX11_lead 51 = .ok (.getfield 183, 3) := by decide +kernel
theorem dX11_lead_54 : decode cX11_lead 54 = .ok (.iconst 1, 1) := by decide +kernel
theorem dX11_lead_55 : decode cX11_lead 55 = .ok (.isub, 1) := by decide +kernel
theorem dX11_lead_56 : decode cX11_lead 56 = .ok (.istore_n 2, 1) := by decide +kernel
theorem dX11_lead_57 : decode cX11_lead 57 = .ok (.iload_n 2, 1) := by decide +kernel
theorem dX11_lead_58 : decode cX11_lead 58 = .ok (.ifCond .lt 104, 3) := by decide +kernel
theorem dX11_lead_61 : decode cX11_lead 61 = .ok (.aload_n 0, 1) := by decide +kernel
theorem dX11_lead_62 : decode cX11_lead 62 = .ok (.getfield 75, 3) := by decide +kernel
theorem dX11_lead_65 : decode cX11_lead 65 = .ok (.iload_n 2, 1) := by decide +kernel
theorem dX11_lead_66 : decode cX11_lead 66 = .ok (.baload, 1) := by decide +kernel
theorem dX11_lead_67 : decode cX11_lead 67 = .ok (.istore_n 3, 1) := by decide +kernel
theorem dX11_lead_68 : decode cX11_lead 68 = .ok (.iconst 0, 1) := by decide +kernel
theorem dX11_lead_69 : decode cX11_lead 69 = .ok (.istore 4, 2) := by decide +kernel
theorem dX11_lead_71 : decode cX11_lead 71 = .ok (.iload 4, 2) := by decide +kernel
theorem dX11_lead_73 : decode cX11_lead 73 = .ok (.bipush 20, 2) := by decide +kernel
theorem dX11_lead_75 : decode cX11_lead 75 = .ok (.if_icmp .ge 54, 3) := by decide +kernel
theorem dX11_lead_78 : decode cX11_lead 78 = .ok (.iload_n 3, 1) := by decide +kernel
theorem dX11_lead_79 : decode cX11_lead 79 = .ok (.ifCond .ne 50, 3) := by decide +kernel
theorem dX11_lead_82 : decode cX11_lead 82 = .ok (.aload_n 0, 1) := by decide +kernel
theorem dX11_lead_83 : decode cX11_lead 83 = .ok (.getfield 69, 3) := by decide +kernel
theorem dX11_lead_86 : decode cX11_lead 86 = .ok (.bipush 20, 2) := by decide +kernel
theorem dX11_lead_88 : decode cX11_lead 88 = .ok (.iload_n 2, 1) := by decide +kernel
theorem dX11_lead_89 : decode cX11_lead 89 = .ok (.imul, 1) := by decide +kernel
theorem dX11_lead_90 : decode cX11_lead 90 = .ok (.iload 4, 2) := by decide +kernel
theorem dX11_lead_92 : decode cX11_lead 92 = .ok (.iadd, 1) := by decide +kernel
theorem dX11_lead_93 : decode cX11_lead 93 = .ok (.iaload, 1) := by decide +kernel
theorem dX11_lead_94 : decode cX11_lead 94 = .ok (.ifCond .lt 27, 3) := by decide +kernel
theorem dX11_lead_97 : decode cX11_lead 97 = .ok (.aload_n 0, 1) := by decide +kernel
theorem dX11_lead_98 : decode cX11_lead 98 = .ok (.getfield 75, 3) := by decide +kernel
theorem dX11_lead_101 : decode cX11_lead 101 = .ok (.aload_n 0, 1) := by decide +kernel
theorem dX11_lead_102 : decode cX11_lead 102 = .ok (.getfield 69, 3) := by decide +kernel
theorem dX11_lead_105 : decode cX11_lead 105 = .ok (.bipush 20, 2) := by decide +kernel
theorem dX11_lead_107 : decode cX11_lead 107 = .ok (.iload_n 2, 1) := by decide +kernel
theorem dX11_lead_108 : decode cX11_lead 108 = .ok (.imul, 1) := by decide +kernel
theorem dX11_lead_109 : decode cX11_lead 109 = .ok (.iload 4, 2) := by decide +kernel
theorem dX11_lead_111 : decode cX11_lead 111 = .ok (.iadd, 1) := by decide +kernel
theorem dX11_lead_112 : decode cX11_lead 112 = .ok (.iaload, 1) := by decide +kernel
theorem dX11_lead_113 : decode cX11_lead 113 = .ok (.baload, 1) := by decide +kernel
theorem dX11_lead_114 : decode cX11_lead 114 = .ok (.ifCond .eq 7, 3) := by decide +kernel
theorem dX11_lead_117 : decode cX11_lead 117 = .ok (.iconst 1, 1) := by decide +kernel
theorem dX11_lead_118 : decode cX11_lead 118 = .ok (.goto 4, 3) := by decide +kernel
theorem dX11_lead_121 : decode cX11_lead 121 = .ok (.iconst 0, 1) := by decide +kernel
theorem dX11_lead_122 : decode cX11_lead 122 = .ok (.istore_n 3, 1) := by decide +kernel
theorem dX11_lead_123 : decode cX11_lead 123 = .ok (.iinc 4 1, 3) := by decide +kernel
theorem dX11_lead_126 : decode cX11_lead 126 = .ok (.goto (-55), 3) := by decide +kernel
theorem dX11_lead_129 : decode cX11_lead 129 = .ok (.iload_n 1, 1) := by decide +kernel
theorem dX11_lead_130 : decode cX11_lead 130 = .ok (.ifCond .ne 13, 3) := by decide +kernel
theorem dX11_lead_133 : decode cX11_lead 133 = .ok (.iload_n 3, 1) := by decide +kernel
theorem dX11_lead_134 : decode cX11_lead 134 = .ok (.aload_n 0, 1) := by decide +kernel
theorem dX11_lead_135 : decode cX11_lead 135 = .ok (.getfield 75, 3) := by decide +kernel
theorem dX11_lead_138 : decode cX11_lead 138 = .ok (.iload_n 2, 1) := by decide +kernel
theorem dX11_lead_139 : decode cX11_lead 139 = .ok (.baload, 1) := by decide +kernel
theorem dX11_lead_140 : decode cX11_lead 140 = .ok (.if_icmp .eq 7, 3) := by decide +kernel
theorem dX11_lead_143 : decode cX11_lead 143 = .ok (.iconst 1, 1) := by decide +kernel
theorem dX11_lead_144 : decode cX11_lead 144 = .ok (.goto 4, 3) := by decide +kernel
theorem dX11_lead_147 : decode cX11_lead 147 = .ok (.iconst 0, 1) := by decide +kernel
theorem dX11_lead_148 : decode cX11_lead 148 = .ok (.istore_n 1, 1) := by decide +kernel
theorem dX11_lead_149 : decode cX11_lead 149 = .ok (.aload_n 0, 1) := by decide +kernel
theorem dX11_lead_150 : decode cX11_lead 150 = .ok (.getfield 75, 3) := by decide +kernel
theorem dX11_lead_153 : decode cX11_lead 153 = .ok (.iload_n 2, 1) := by decide +kernel
theorem dX11_lead_154 : decode cX11_lead 154 = .ok (.iload_n 3, 1) := by decide +kernel
theorem dX11_lead_155 : decode cX11_lead 155 = .ok (.bastore, 1) := by decide +kernel
theorem dX11_lead_156 : decode cX11_lead 156 = .ok (.iinc 2 (-1), 3) := by decide +kernel
theorem dX11_lead_159 : decode cX11_lead 159 = .ok (.goto (-102), 3) := by decide +kernel
theorem dX11_lead_162 : decode cX11_lead 162 = .ok (.goto (-118), 3) := by decide +kernel
theorem dX11_lead_165 : decode cX11_lead 165 = .ok (.return_, 1) := by decide +kernel
theorem dX11_walked_0 : decode cX11_walked 0 = .ok (.iload_n 1, 1) := by decide +kernel
theorem dX11_walked_1 : decode cX11_walked 1 = .ok (.ifCond .lt 9, 3) := by decide +kernel
theorem dX11_walked_4 : decode cX11_walked 4 = .ok (.iload_n 1, 1) := by decide +kernel
theorem dX11_walked_5 : decode cX11_walked 5 = .ok (.bipush 7, 2) := by decide +kernel
theorem dX11_walked_7 : decode cX11_walked 7 = .ok (.if_icmp .le 5, 3) := by decide +kernel
theorem dX11_walked_10 : decode cX11_walked 10 = .ok (.iconst (-1), 1) := by decide +kernel
theorem dX11_walked_11 : decode cX11_walked 11 = .ok (.ireturn, 1) := by decide +kernel
theorem dX11_walked_12 : decode cX11_walked 12 = .ok (.iconst 0, 1) := by decide +kernel
theorem dX11_walked_13 : decode cX11_walked 13 = .ok (.istore_n 2, 1) := by decide +kernel
theorem dX11_walked_14 : decode cX11_walked 14 = .ok (.iload_n 1, 1) := by decide +kernel
theorem dX11_walked_15 : decode cX11_walked 15 = .ok (.tableswitch 78 0 7 #[45, 50, 55, 78, 78, 78, 60, 73], 45) := by decide +kernel
theorem dX11_walked_60 : decode cX11_walked 60 = .ok (.aload_n 0, 1) := by decide +kernel
theorem dX11_walked_61 : decode cX11_walked 61 = .ok (.getfield 183, 3) := by decide +kernel
theorem dX11_walked_64 : decode cX11_walked 64 = .ok (.ireturn, 1) := by decide +kernel
theorem dX11_walked_65 : decode cX11_walked 65 = .ok (.aload_n 0, 1) := by decide +kernel
theorem dX11_walked_66 : decode cX11_walked 66 = .ok (.getfield 196, 3) := by decide +kernel
theorem dX11_walked_69 : decode cX11_walked 69 = .ok (.ireturn, 1) := by decide +kernel
theorem dX11_walked_70 : decode cX11_walked 70 = .ok (.aload_n 0, 1) := by decide +kernel
theorem dX11_walked_71 : decode cX11_walked 71 = .ok (.getfield 186, 3) := by decide +kernel
theorem dX11_walked_74 : decode cX11_walked 74 = .ok (.ireturn, 1) := by decide +kernel
theorem dX11_walked_75 : decode cX11_walked 75 = .ok (.aload_n 0, 1) := by decide +kernel
theorem dX11_walked_76 : decode cX11_walked 76 = .ok (.getfield 199, 3) := by decide +kernel
theorem dX11_walked_79 : decode cX11_walked 79 = .ok (.ifCond .eq 7, 3) := by decide +kernel
theorem dX11_walked_82 : decode cX11_walked 82 = .ok (.iconst 1, 1) := by decide +kernel
theorem dX11_walked_83 : decode cX11_walked 83 = .ok (.goto 4, 3) := by decide +kernel
theorem dX11_walked_86 : decode cX11_walked 86 = .ok (.iconst 0, 1) := by decide +kernel
theorem dX11_walked_87 : decode cX11_walked 87 = .ok (.ireturn, 1) := by decide +kernel
theorem dX11_walked_88 : decode cX11_walked 88 = .ok (.aload_n 0, 1) := by decide +kernel
theorem dX11_walked_89 : decode cX11_walked 89 = .ok (.getfield 189, 3) := by decide +kernel
theorem dX11_walked_92 : decode cX11_walked 92 = .ok (.ireturn, 1) := by decide +kernel
theorem dX11_walked_93 : decode cX11_walked 93 = .ok (.iconst 0, 1) := by decide +kernel
theorem dX11_walked_94 : decode cX11_walked 94 = .ok (.istore_n 3, 1) := by decide +kernel
theorem dX11_walked_95 : decode cX11_walked 95 = .ok (.iload_n 3, 1) := by decide +kernel
theorem dX11_walked_96 : decode cX11_walked 96 = .ok (.aload_n 0, 1) := by decide +kernel
theorem dX11_walked_97 : decode cX11_walked 97 = .ok (.getfield 183, 3) := by decide +kernel
theorem dX11_walked_100 : decode cX11_walked 100 = .ok (.if_icmp .ge 76, 3) := by decide +kernel
theorem dX11_walked_103 : decode cX11_walked 103 = .ok (.iload_n 1, 1) := by decide +kernel
theorem dX11_walked_104 : decode cX11_walked 104 = .ok (.iconst 5, 1) := by decide +kernel
theorem dX11_walked_105 : decode cX11_walked 105 = .ok (.if_icmp .ne 26, 3) := by decide +kernel
theorem dX11_walked_108 : decode cX11_walked 108 = .ok (.aload_n 0, 1) := by decide +kernel
theorem dX11_walked_109 : decode cX11_walked 109 = .ok (.getfield 65, 3) := by decide +kernel
theorem dX11_walked_112 : decode cX11_walked 112 = .ok (.iload_n 3, 1) := by decide +kernel
theorem dX11_walked_113 : decode cX11_walked 113 = .ok (.iaload, 1) := by decide +kernel
theorem dX11_walked_114 : decode cX11_walked 114 = .ok (.iload_n 2, 1) := by decide +kernel
theorem dX11_walked_115 : decode cX11_walked 115 = .ok (.if_icmp .le 12, 3) := by decide +kernel
theorem dX11_walked_118 : decode cX11_walked 118 = .ok (.aload_n 0, 1) := by decide +kernel
theorem dX11_walked_119 : decode cX11_walked 119 = .ok (.getfield 65, 3) := by decide +kernel
theorem dX11_walked_122 : decode cX11_walked 122 = .ok (.iload_n 3, 1) := by decide +kernel
theorem dX11_walked_123 : decode cX11_walked 123 = .ok (.iaload, 1) := by decide +kernel
theorem dX11_walked_124 : decode cX11_walked 124 = .ok (.goto 45, 3) := by decide +kernel
theorem dX11_walked_127 : decode cX11_walked 127 = .ok (.iload_n 2, 1) := by decide +kernel
theorem dX11_walked_128 : decode cX11_walked 128 = .ok (.goto 41, 3) := by decide +kernel
theorem dX11_walked_131 : decode cX11_walked 131 = .ok (.iload_n 2, 1) := by decide +kernel
theorem dX11_walked_132 : decode cX11_walked 132 = .ok (.iload_n 1, 1) := by decide +kernel
theorem dX11_walked_133 : decode cX11_walked 133 = .ok (.iconst 3, 1) := by decide +kernel
theorem dX11_walked_134 : decode cX11_walked 134 = .ok (.if_icmp .ne 20, 3) := by decide +kernel
theorem dX11_walked_137 : decode cX11_walked 137 = .ok (.aload_n 0, 1) := by decide +kernel
theorem dX11_walked_138 : decode cX11_walked 138 = .ok (.getfield 72, 3) := by decide +kernel
theorem dX11_walked_141 : decode cX11_walked 141 = .ok (.iload_n 3, 1) := by decide +kernel
theorem dX11_walked_142 : decode cX11_walked 142 = .ok (.baload, 1) := by decide +kernel
theorem dX11_walked_143 : decode cX11_walked 143 = .ok (.ifCond .eq 7, 3) := by decide +kernel
theorem dX11_walked_146 : decode cX11_walked 146 = .ok (.iconst 1, 1) := by decide +kernel
theorem dX11_walked_147 : decode cX11_walked 147 = .ok (.goto 21, 3) := by decide +kernel
theorem dX11_walked_150 : decode cX11_walked 150 = .ok (.iconst 0, 1) := by decide +kernel
theorem dX11_walked_151 : decode cX11_walked 151 = .ok (.goto 17, 3) := by decide +kernel
theorem dX11_walked_154 : decode cX11_walked 154 = .ok (.aload_n 0, 1) := by decide +kernel
theorem dX11_walked_155 : decode cX11_walked 155 = .ok (.getfield 75, 3) := by decide +kernel
theorem dX11_walked_158 : decode cX11_walked 158 = .ok (.iload_n 3, 1) := by decide +kernel
theorem dX11_walked_159 : decode cX11_walked 159 = .ok (.baload, 1) := by decide +kernel
theorem dX11_walked_160 : decode cX11_walked 160 = .ok (.ifCond .eq 7, 3) := by decide +kernel
theorem dX11_walked_163 : decode cX11_walked 163 = .ok (.iconst 0, 1) := by decide +kernel
theorem dX11_walked_164 : decode cX11_walked 164 = .ok (.goto 4, 3) := by decide +kernel
theorem dX11_walked_167 : decode cX11_walked 167 = .ok (.iconst 1, 1) := by decide +kernel
theorem dX11_walked_168 : decode cX11_walked 168 = .ok (.iadd, 1) := by decide +kernel
theorem dX11_walked_169 : decode cX11_walked 169 = .ok (.istore_n 2, 1) := by decide +kernel
theorem dX11_walked_170 : decode cX11_walked 170 = .ok (.iinc 3 1, 3) := by decide +kernel
theorem dX11_walked_173 : decode cX11_walked 173 = .ok (.goto (-78), 3) := by decide +kernel
theorem dX11_walked_176 : decode cX11_walked 176 = .ok (.iload_n 2, 1) := by decide +kernel
theorem dX11_walked_177 : decode cX11_walked 177 = .ok (.ireturn, 1) := by decide +kernel
theorem dX11_bad_0 : decode cX11_bad 0 = .ok (.iload_n 1, 1) := by decide +kernel
theorem dX11_bad_1 : decode cX11_bad 1 = .ok (.ifCond .lt 27, 3) := by decide +kernel
theorem dX11_bad_4 : decode cX11_bad 4 = .ok (.iload_n 1, 1) := by decide +kernel
theorem dX11_bad_5 : decode cX11_bad 5 = .ok (.aload_n 0, 1) := by decide +kernel
theorem dX11_bad_6 : decode cX11_bad 6 = .ok (.getfield 186, 3) := by decide +kernel
theorem dX11_bad_9 : decode cX11_bad 9 = .ok (.if_icmp .ge 19, 3) := by decide +kernel
theorem dX11_bad_12 : decode cX11_bad 12 = .ok (.iload_n 1, 1) := by decide +kernel
theorem dX11_bad_13 : decode cX11_bad 13 = .ok (.sipush 200, 3) := by decide +kernel
theorem dX11_bad_16 : decode cX11_bad 16 = .ok (.if_icmp .ge 12, 3) := by decide +kernel
theorem dX11_bad_19 : decode cX11_bad 19 = .ok (.iload_n 2, 1) := by decide +kernel
theorem dX11_bad_20 : decode cX11_bad 20 = .ok (.ifCond .lt 8, 3) := by decide +kernel
theorem dX11_bad_23 : decode cX11_bad 23 = .ok (.iload_n 2, 1) := by decide +kernel
theorem dX11_bad_24 : decode cX11_bad 24 = .ok (.iconst 2, 1) := by decide +kernel
theorem dX11_bad_25 : decode cX11_bad 25 = .ok (.if_icmp .le 5, 3) := by decide +kernel
theorem dX11_bad_28 : decode cX11_bad 28 = .ok (.iconst (-1), 1) := by decide +kernel
theorem dX11_bad_29 : decode cX11_bad 29 = .ok (.ireturn, 1) := by decide +kernel
theorem dX11_bad_30 : decode cX11_bad 30 = .ok (.iload_n 2, 1) := by decide +kernel
theorem dX11_bad_31 : decode cX11_bad 31 = .ok (.ifCond .ne 12, 3) := by decide +kernel
theorem dX11_bad_34 : decode cX11_bad 34 = .ok (.aload_n 0, 1) := by decide +kernel
theorem dX11_bad_35 : decode cX11_bad 35 = .ok (.getfield 78, 3) := by decide +kernel
theorem dX11_bad_38 : decode cX11_bad 38 = .ok (.iload_n 1, 1) := by decide +kernel
theorem dX11_bad_39 : decode cX11_bad 39 = .ok (.iaload, 1) := by decide +kernel
theorem dX11_bad_40 : decode cX11_bad 40 = .ok (.goto 23, 3) := by decide +kernel
theorem dX11_bad_43 : decode cX11_bad 43 = .ok (.iload_n 2, 1) := by decide +kernel
theorem dX11_bad_44 : decode cX11_bad 44 = .ok (.iconst 1, 1) := by decide +kernel
theorem dX11_bad_45 : decode cX11_bad 45 = .ok (.if_icmp .ne 12, 3) := by decide +kernel
theorem dX11_bad_48 : decode cX11_bad 48 = .ok (.aload_n 0, 1) := by decide +kernel
theorem dX11_bad_49 : decode cX11_bad 49 = .ok (.getfield 81, 3) := by decide +kernel
theorem dX11_bad_52 : decode cX11_bad 52 = .ok (.iload_n 1, 1) := by decide +kernel
theorem dX11_bad_53 : decode cX11_bad 53 = .ok (.iaload, 1) := by decide +kernel
theorem dX11_bad_54 : decode cX11_bad 54 = .ok (.goto 9, 3) := by decide +kernel
theorem dX11_bad_57 : decode cX11_bad 57 = .ok (.aload_n 0, 1) := by decide +kernel
theorem dX11_bad_58 : decode cX11_bad 58 = .ok (.getfield 84, 3) := by decide +kernel
theorem dX11_bad_61 : decode cX11_bad 61 = .ok (.iload_n 1, 1) := by decide +kernel
theorem dX11_bad_62 : decode cX11_bad 62 = .ok (.iaload, 1) := by decide +kernel
theorem dX11_bad_63 : decode cX11_bad 63 = .ok (.ireturn, 1) := by decide +kernel
theorem dX11_found_0 : decode cX11_found 0 = .ok (.iload_n 1, 1) := by decide +kernel
theorem dX11_found_1 : decode cX11_found 1 = .ok (.ifCond .lt 12, 3) := by decide +kernel
theorem dX11_found_4 : decode cX11_found 4 = .ok (.iload_n 1, 1) := by decide +kernel
theorem dX11_found_5 : decode cX11_found 5 = .ok (.iconst 1, 1) := by decide +kernel
theorem dX11_found_6 : decode cX11_found 6 = .ok (.if_icmp .gt 7, 3) := by decide +kernel
theorem dX11_found_9 : decode cX11_found 9 = .ok (.iload_n 2, 1) := by decide +kernel
theorem dX11_found_10 : decode cX11_found 10 = .ok (.ifCond .ge 5, 3) := by decide +kernel
theorem dX11_found_13 : decode cX11_found 13 = .ok (.iconst (-1), 1) := by decide +kernel
theorem dX11_found_14 : decode cX11_found 14 = .ok (.ireturn, 1) := by decide +kernel
theorem dX11_found_15 : decode cX11_found 15 = .ok (.iload_n 2, 1) := by decide +kernel
theorem dX11_found_16 : decode cX11_found 16 = .ok (.istore_n 3, 1) := by decide +kernel
theorem dX11_found_17 : decode cX11_found 17 = .ok (.iconst 0, 1) := by decide +kernel
theorem dX11_found_18 : decode cX11_found 18 = .ok (.istore 4, 2) := by decide +kernel
theorem dX11_found_20 : decode cX11_found 20 = .ok (.iload 4, 2) := by decide +kernel
theorem dX11_found_22 : decode cX11_found 22 = .ok (.aload_n 0, 1) := by decide +kernel
theorem dX11_found_23 : decode cX11_found 23 = .ok (.getfield 183, 3) := by decide +kernel
theorem dX11_found_26 : decode cX11_found 26 = .ok (.if_icmp .ge 46, 3) := by decide +kernel
theorem dX11_found_29 : decode cX11_found 29 = .ok (.iload_n 1, 1) := by decide +kernel
theorem dX11_found_30 : decode cX11_found 30 = .ok (.ifCond .ne 16, 3) := by decide +kernel
theorem dX11_found_33 : decode cX11_found 33 = .ok (.aload_n 0, 1) := by decide +kernel
theorem dX11_found_34 : decode cX11_found 34 = .ok (.getfield 72, 3) := by decide +kernel
theorem dX11_found_37 : decode cX11_found 37 = .ok (.iload 4, 2) := by decide +kernel
theorem dX11_found_39 : decode cX11_found 39 = .ok (.baload, 1) := by decide +kernel
theorem dX11_found_40 : decode cX11_found 40 = .ok (.ifCond .eq 26, 3) := by decide +kernel
theorem dX11_found_43 : decode cX11_found 43 = .ok (.goto 13, 3) := by decide +kernel
theorem dX11_found_46 : decode cX11_found 46 = .ok (.aload_n 0, 1) := by decide +kernel
theorem dX11_found_47 : decode cX11_found 47 = .ok (.getfield 75, 3) := by decide +kernel
theorem dX11_found_50 : decode cX11_found 50 = .ok (.iload 4, 2) := by decide +kernel
theorem dX11_found_52 : decode cX11_found 52 = .ok (.baload, 1) := by decide +kernel
theorem dX11_found_53 : decode cX11_found 53 = .ok (.ifCond .ne 13, 3) := by decide +kernel
theorem dX11_found_56 : decode cX11_found 56 = .ok (.iload_n 3, 1) := by decide +kernel
theorem dX11_found_57 : decode cX11_found 57 = .ok (.ifCond .ne 6, 3) := by decide +kernel
theorem dX11_found_60 : decode cX11_found 60 = .ok (.iload 4, 2) := by decide +kernel
theorem dX11_found_62 : decode cX11_found 62 = .ok (.ireturn, 1) := by decide +kernel
theorem dX11_found_63 : decode cX11_found 63 = .ok (.iinc 3 (-1), 3) := by decide +kernel
theorem dX11_found_66 : decode cX11_found 66 = .ok (.iinc 4 1, 3) := by decide +kernel
theorem dX11_found_69 : decode cX11_found 69 = .ok (.goto (-49), 3) := by decide +kernel
theorem dX11_found_72 : decode cX11_found 72 = .ok (.iconst (-1), 1) := by decide +kernel
theorem dX11_found_73 : decode cX11_found 73 = .ok (.ireturn, 1) := by decide +kernel
theorem dX11_far_0 : decode cX11_far 0 = .ok (.iload_n 1, 1) := by decide +kernel
theorem dX11_far_1 : decode cX11_far 1 = .ok (.ifCond .lt 11, 3) := by decide +kernel
theorem dX11_far_4 : decode cX11_far 4 = .ok (.iload_n 1, 1) := by decide +kernel
theorem dX11_far_5 : decode cX11_far 5 = .ok (.aload_n 0, 1) := by decide +kernel
theorem dX11_far_6 : decode cX11_far 6 = .ok (.getfield 183, 3) := by decide +kernel
theorem dX11_far_9 : decode cX11_far 9 = .ok (.if_icmp .lt 7, 3) := by decide +kernel
theorem dX11_far_12 : decode cX11_far 12 = .ok (.iconst (-1), 1) := by decide +kernel
theorem dX11_far_13 : decode cX11_far 13 = .ok (.goto 9, 3) := by decide +kernel
theorem dX11_far_16 : decode cX11_far 16 = .ok (.aload_n 0, 1) := by decide +kernel
theorem dX11_far_17 : decode cX11_far 17 = .ok (.getfield 65, 3) := by decide +kernel
theorem dX11_far_20 : decode cX11_far 20 = .ok (.iload_n 1, 1) := by decide +kernel
theorem dX11_far_21 : decode cX11_far 21 = .ok (.iaload, 1) := by decide +kernel
theorem dX11_far_22 : decode cX11_far 22 = .ok (.ireturn, 1) := by decide +kernel
theorem dX11_way_0 : decode cX11_way 0 = .ok (.iload_n 1, 1) := by decide +kernel
theorem dX11_way_1 : decode cX11_way 1 = .ok (.ifCond .lt 25, 3) := by decide +kernel
theorem dX11_way_4 : decode cX11_way 4 = .ok (.iload_n 1, 1) := by decide +kernel
theorem dX11_way_5 : decode cX11_way 5 = .ok (.aload_n 0, 1) := by decide +kernel
theorem dX11_way_6 : decode cX11_way 6 = .ok (.getfield 183, 3) := by decide +kernel
theorem dX11_way_9 : decode cX11_way 9 = .ok (.if_icmp .ge 17, 3) := by decide +kernel
theorem dX11_way_12 : decode cX11_way 12 = .ok (.iload_n 2, 1) := by decide +kernel
theorem dX11_way_13 : decode cX11_way 13 = .ok (.ifCond .lt 13, 3) := by decide +kernel
theorem dX11_way_16 : decode cX11_way 16 = .ok (.iload_n 2, 1) := by decide +kernel
theorem dX11_way_17 : decode cX11_way 17 = .ok (.aload_n 0, 1) := by decide +kernel
theorem dX11_way_18 : decode cX11_way 18 = .ok (.getfield 65, 3) := by decide +kernel
theorem dX11_way_21 : decode cX11_way 21 = .ok (.iload_n 1, 1) := by decide +kernel
theorem dX11_way_22 : decode cX11_way 22 = .ok (.iaload, 1) := by decide +kernel
theorem dX11_way_23 : decode cX11_way 23 = .ok (.if_icmp .lt 5, 3) := by decide +kernel
theorem dX11_way_26 : decode cX11_way 26 = .ok (.iconst (-1), 1) := by decide +kernel
theorem dX11_way_27 : decode cX11_way 27 = .ok (.ireturn, 1) := by decide +kernel
theorem dX11_way_28 : decode cX11_way 28 = .ok (.iload_n 1, 1) := by decide +kernel
theorem dX11_way_29 : decode cX11_way 29 = .ok (.istore_n 3, 1) := by decide +kernel
theorem dX11_way_30 : decode cX11_way 30 = .ok (.aload_n 0, 1) := by decide +kernel
theorem dX11_way_31 : decode cX11_way 31 = .ok (.getfield 65, 3) := by decide +kernel
theorem dX11_way_34 : decode cX11_way 34 = .ok (.iload_n 3, 1) := by decide +kernel
theorem dX11_way_35 : decode cX11_way 35 = .ok (.iaload, 1) := by decide +kernel
theorem dX11_way_36 : decode cX11_way 36 = .ok (.iload_n 2, 1) := by decide +kernel
theorem dX11_way_37 : decode cX11_way 37 = .ok (.iconst 1, 1) := by decide +kernel
theorem dX11_way_38 : decode cX11_way 38 = .ok (.iadd, 1) := by decide +kernel
theorem dX11_way_39 : decode cX11_way 39 = .ok (.if_icmp .le 13, 3) := by decide +kernel
theorem dX11_way_42 : decode cX11_way 42 = .ok (.aload_n 0, 1) := by decide +kernel
theorem dX11_way_43 : decode cX11_way 43 = .ok (.getfield 59, 3) := by decide +kernel
theorem dX11_way_46 : decode cX11_way 46 = .ok (.iload_n 3, 1) := by decide +kernel
theorem dX11_way_47 : decode cX11_way 47 = .ok (.iaload, 1) := by decide +kernel
theorem dX11_way_48 : decode cX11_way 48 = .ok (.istore_n 3, 1) := by decide +kernel
theorem dX11_way_49 : decode cX11_way 49 = .ok (.goto (-19), 3) := by decide +kernel
theorem dX11_way_52 : decode cX11_way 52 = .ok (.aload_n 0, 1) := by decide +kernel
theorem dX11_way_53 : decode cX11_way 53 = .ok (.getfield 62, 3) := by decide +kernel
theorem dX11_way_56 : decode cX11_way 56 = .ok (.iload_n 3, 1) := by decide +kernel
theorem dX11_way_57 : decode cX11_way 57 = .ok (.iaload, 1) := by decide +kernel
theorem dX11_way_58 : decode cX11_way 58 = .ok (.ireturn, 1) := by decide +kernel
theorem dX11_go_0 : decode cX11_go 0 = .ok (.iload_n 1, 1) := by decide +kernel
theorem dX11_go_1 : decode cX11_go 1 = .ok (.ifCond .lt 18, 3) := by decide +kernel
theorem dX11_go_4 : decode cX11_go 4 = .ok (.iload_n 1, 1) := by decide +kernel
theorem dX11_go_5 : decode cX11_go 5 = .ok (.aload_n 0, 1) := by decide +kernel
theorem dX11_go_6 : decode cX11_go 6 = .ok (.getfield 183, 3) := by decide +kernel
theorem dX11_go_9 : decode cX11_go 9 = .ok (.if_icmp .ge 10, 3) := by decide +kernel
theorem dX11_go_12 : decode cX11_go 12 = .ok (.aload_n 0, 1) := by decide +kernel
theorem dX11_go_13 : decode cX11_go 13 = .ok (.getfield 87, 3) := by decide +kernel
theorem dX11_go_16 : decode cX11_go 16 = .ok (.ifCond .eq 5, 3) := by decide +kernel
theorem dX11_go_19 : decode cX11_go 19 = .ok (.iconst (-1), 1) := by decide +kernel
theorem dX11_go_20 : decode cX11_go 20 = .ok (.ireturn, 1) := by decide +kernel
theorem dX11_go_21 : decode cX11_go 21 = .ok (.aload_n 0, 1) := by decide +kernel
theorem dX11_go_22 : decode cX11_go 22 = .ok (.getfield 52, 3) := by decide +kernel
theorem dX11_go_25 : decode cX11_go 25 = .ok (.bipush 56, 2) := by decide +kernel
theorem dX11_go_27 : decode cX11_go 27 = .ok (.iload_n 1, 1) := by decide +kernel
theorem dX11_go_28 : decode cX11_go 28 = .ok (.imul, 1) := by decide +kernel
theorem dX11_go_29 : decode cX11_go 29 = .ok (.aload_n 0, 1) := by decide +kernel
theorem dX11_go_30 : decode cX11_go 30 = .ok (.getfield 33, 3) := by decide +kernel
theorem dX11_go_33 : decode cX11_go 33 = .ok (.iconst 0, 1) := by decide +kernel
theorem dX11_go_34 : decode cX11_go 34 = .ok (.invokestatic 94, 3) := by decide +kernel
theorem dX11_go_37 : decode cX11_go 37 = .ok (.aload_n 0, 1) := by decide +kernel
theorem dX11_go_38 : decode cX11_go 38 = .ok (.invokevirtual 163, 3) := by decide +kernel
theorem dX11_go_41 : decode cX11_go 41 = .ok (.aload_n 0, 1) := by decide +kernel
theorem dX11_go_42 : decode cX11_go 42 = .ok (.getfield 109, 3) := by decide +kernel
theorem dX11_go_45 : decode cX11_go 45 = .ok (.ireturn, 1) := by decide +kernel
theorem dX11_number_0 : decode cX11_number 0 = .ok (.aload_n 0, 1) := by decide +kernel
theorem dX11_number_1 : decode cX11_number 1 = .ok (.getfield 87, 3) := by decide +kernel
theorem dX11_number_4 : decode cX11_number 4 = .ok (.ifCond .eq 5, 3) := by decide +kernel
theorem dX11_number_7 : decode cX11_number 7 = .ok (.iconst (-1), 1) := by decide +kernel
theorem dX11_number_8 : decode cX11_number 8 = .ok (.ireturn, 1) := by decide +kernel
theorem dX11_number_9 : decode cX11_number 9 = .ok (.aload_n 0, 1) := by decide +kernel
theorem dX11_number_10 : decode cX11_number 10 = .ok (.getfield 33, 3) := by decide +kernel
theorem dX11_number_13 : decode cX11_number 13 = .ok (.iconst 0, 1) := by decide +kernel
theorem dX11_number_14 : decode cX11_number 14 = .ok (.aload_n 0, 1) := by decide +kernel
theorem dX11_number_15 : decode cX11_number 15 = .ok (.getfield 30, 3) := by decide +kernel
theorem dX11_number_18 : decode cX11_number 18 = .ok (.iconst 0, 1) := by decide +kernel
theorem dX11_number_19 : decode cX11_number 19 = .ok (.invokestatic 94, 3) := by decide +kernel
theorem dX11_number_22 : decode cX11_number 22 = .ok (.aload_n 0, 1) := by decide +kernel
theorem dX11_number_23 : decode cX11_number 23 = .ok (.invokevirtual 212, 3) := by decide +kernel
theorem dX11_number_26 : decode cX11_number 26 = .ok (.ireturn, 1) := by decide +kernel
theorem dX11_used_0 : decode cX11_used 0 = .ok (.iload_n 1, 1) := by decide +kernel
theorem dX11_used_1 : decode cX11_used 1 = .ok (.invokestatic 101, 3) := by decide +kernel
theorem dX11_used_4 : decode cX11_used 4 = .ok (.istore_n 2, 1) := by decide +kernel
theorem dX11_used_5 : decode cX11_used 5 = .ok (.iload_n 2, 1) := by decide +kernel
theorem dX11_used_6 : decode cX11_used 6 = .ok (.ifCond .lt 12, 3) := by decide +kernel
theorem dX11_used_9 : decode cX11_used 9 = .ok (.aload_n 0, 1) := by decide +kernel
theorem dX11_used_10 : decode cX11_used 10 = .ok (.getfield 20, 3) := by decide +kernel
theorem dX11_used_13 : decode cX11_used 13 = .ok (.iload_n 2, 1) := by decide +kernel
theorem dX11_used_14 : decode cX11_used 14 = .ok (.iaload, 1) := by decide +kernel
theorem dX11_used_15 : decode cX11_used 15 = .ok (.ifCond .ge 7, 3) := by decide +kernel
theorem dX11_used_18 : decode cX11_used 18 = .ok (.iconst (-1), 1) := by decide +kernel
theorem dX11_used_19 : decode cX11_used 19 = .ok (.goto 17, 3) := by decide +kernel
theorem dX11_used_22 : decode cX11_used 22 = .ok (.aload_n 0, 1) := by decide +kernel
theorem dX11_used_23 : decode cX11_used 23 = .ok (.getfield 26, 3) := by decide +kernel
theorem dX11_used_26 : decode cX11_used 26 = .ok (.iload_n 2, 1) := by decide +kernel
theorem dX11_used_27 : decode cX11_used 27 = .ok (.baload, 1) := by decide +kernel
theorem dX11_used_28 : decode cX11_used 28 = .ok (.ifCond .eq 7, 3) := by decide +kernel
theorem dX11_used_31 : decode cX11_used 31 = .ok (.iconst 1, 1) := by decide +kernel
theorem dX11_used_32 : decode cX11_used 32 = .ok (.goto 4, 3) := by decide +kernel
theorem dX11_used_35 : decode cX11_used 35 = .ok (.iconst 0, 1) := by decide +kernel
theorem dX11_used_36 : decode cX11_used 36 = .ok (.ireturn, 1) := by decide +kernel
end
section
theorem dL_law_0 : decode cL_law 0 = .ok (.new 7, 3) := by decide +kernel
theorem dL_law_3 : decode cL_law 3 = .ok (.dup, 1) := by decide +kernel
theorem dL_law_4 : decode cL_law 4 = .ok (.invokespecial 9, 3) := by decide +kernel
theorem dL_law_7 : decode cL_law 7 = .ok (.astore_n 1, 1) := by decide +kernel
theorem dL_law_8 : decode cL_law 8 = .ok (.new 10, 3) := by decide +kernel
theorem dL_law_11 : decode cL_law 11 = .ok (.dup, 1) := by decide +kernel
theorem dL_law_12 : decode cL_law 12 = .ok (.invokespecial 12, 3) := by decide +kernel
theorem dL_law_15 : decode cL_law 15 = .ok (.astore_n 2, 1) := by decide +kernel
theorem dL_law_16 : decode cL_law 16 = .ok (.iconst 0, 1) := by decide +kernel
theorem dL_law_17 : decode cL_law 17 = .ok (.istore_n 3, 1) := by decide +kernel
theorem dL_law_18 : decode cL_law 18 = .ok (.iload_n 3, 1) := by decide +kernel
theorem dL_law_19 : decode cL_law 19 = .ok (.aload_n 0, 1) := by decide +kernel
theorem dL_law_20 : decode cL_law 20 = .ok (.arraylength, 1) := by decide +kernel
theorem dL_law_21 : decode cL_law 21 = .ok (.iconst 4, 1) := by decide +kernel
theorem dL_law_22 : decode cL_law 22 = .ok (.isub, 1) := by decide +kernel
theorem dL_law_23 : decode cL_law 23 = .ok (.if_icmp .gt 695, 3) := by decide +kernel
theorem dL_law_26 : decode cL_law 26 = .ok (.aload_n 0, 1) := by decide +kernel
theorem dL_law_27 : decode cL_law 27 = .ok (.iload_n 3, 1) := by decide +kernel
theorem dL_law_28 : decode cL_law 28 = .ok (.iaload, 1) := by decide +kernel
theorem dL_law_29 : decode cL_law 29 = .ok (.bipush 31, 2) := by decide +kernel
theorem dL_law_31 : decode cL_law 31 = .ok (.iand, 1) := by decide +kernel
theorem dL_law_32 : decode cL_law 32 = .ok (.tableswitch 680 0 21 #[104, 127, 160, 193, 236, 259, 282, 295, 308, 341, 364, 397, 430, 453, 476, 499, 532, 565, 588, 621, 644, 657], 104) := by decide +kernel
theorem dL_law_136 : decode cL_law 136 = .ok (.aload_n 1, 1) := by decide +kernel
theorem dL_law_137 : decode cL_law 137 = .ok (.aload_n 0, 1) := by decide +kernel
theorem dL_law_138 : decode cL_law 138 = .ok (.iload_n 3, 1) := by decide +kernel
theorem dL_law_139 : decode cL_law 139 = .ok (.iconst 1, 1) := by decide +kernel
theorem dL_law_140 : decode cL_law 140 = .ok (.iadd, 1) := by decide +kernel
theorem dL_law_141 : decode cL_law 141 = .ok (.iaload, 1) := by decide +kernel
theorem dL_law_142 : decode cL_law 142 = .ok (.invokevirtual 13, 3) := by decide +kernel
theorem dL_law_145 : decode cL_law 145 = .ok (.aload_n 2, 1) := by decide +kernel
theorem dL_law_146 : decode cL_law 146 = .ok (.aload_n 0, 1) := by decide +kernel
theorem dL_law_147 : decode cL_law 147 = .ok (.iload_n 3, 1) := by decide +kernel
theorem dL_law_148 : decode cL_law 148 = .ok (.iconst 1, 1) := by decide +kernel
theorem dL_law_149 : decode cL_law 149 = .ok (.iadd, 1) := by decide +kernel
theorem dL_law_150 : decode cL_law 150 = .ok (.iaload, 1) := by decide +kernel
theorem dL_law_151 : decode cL_law 151 = .ok (.invokevirtual 17, 3) := by decide +kernel
theorem dL_law_154 : decode cL_law 154 = .ok (.if_icmp .eq 558, 3) := by decide +kernel
theorem dL_law_157 : decode cL_law 157 = .ok (.iconst 0, 1) := by decide +kernel
theorem dL_law_158 : decode cL_law 158 = .ok (.ireturn, 1) := by decide +kernel
theorem dL_law_159 : decode cL_law 159 = .ok (.aload_n 1, 1) := by decide +kernel
theorem dL_law_160 : decode cL_law 160 = .ok (.aload_n 0, 1) := by decide +kernel
theorem dL_law_161 : decode cL_law 161 = .ok (.iload_n 3, 1) := by decide +kernel
theorem dL_law_162 : decode cL_law 162 = .ok (.iconst 1, 1) := by decide +kernel
theorem dL_law_163 : decode cL_law 163 = .ok (.iadd, 1) := by decide +kernel
theorem dL_law_164 : decode cL_law 164 = .ok (.iaload, 1) := by decide +kernel
theorem dL_law_165 : decode cL_law 165 = .ok (.aload_n 0, 1) := by decide +kernel
theorem dL_law_166 : decode cL_law 166 = .ok (.iload_n 3, 1) := by decide +kernel
theorem dL_law_167 : decode cL_law 167 = .ok (.iconst 2, 1) := by decide +kernel
theorem dL_law_168 : decode cL_law 168 = .ok (.iadd, 1) := by decide +kernel
theorem dL_law_169 : decode cL_law 169 = .ok (.iaload, 1) := by decide +kernel
theorem dL_law_170 : decode cL_law 170 = .ok (.invokevirtual 18, 3) := by decide +kernel
theorem dL_law_173 : decode cL_law 173 = .ok (.aload_n 2, 1) := by decide +kernel
theorem dL_law_174 : decode cL_law 174 = .ok (.aload_n 0, 1) := by decide +kernel
theorem dL_law_175 : decode cL_law 175 = .ok (.iload_n 3, 1) := by decide +kernel
theorem dL_law_176 : decode cL_law 176 = .ok (.iconst 1, 1) := by decide +kernel
theorem dL_law_177 : decode cL_law 177 = .ok (.iadd, 1) := by decide +kernel
theorem dL_law_178 : decode cL_law 178 = .ok (.iaload, 1) := by decide +kernel
theorem dL_law_179 : decode cL_law 179 = .ok (.aload_n 0, 1) := by decide +kernel
theorem dL_law_180 : decode cL_law 180 = .ok (.iload_n 3, 1) := by decide +kernel
theorem dL_law_181 : decode cL_law 181 = .ok (.iconst 2, 1) := by decide +kernel
theorem dL_law_182 : decode cL_law 182 = .ok (.iadd, 1) := by decide +kernel
theorem dL_law_183 : decode cL_law 183 = .ok (.iaload, 1) := by decide +kernel
theorem dL_law_184 : decode cL_law 184 = .ok (.invokevirtual 22, 3) := by decide +kernel
theorem dL_law_187 : decode cL_law 187 = .ok (.if_icmp .eq 525, 3) := by decide +kernel
theorem dL_law_190 : decode cL_law 190 = .ok (.iconst 0, 1) := by decide +kernel
theorem dL_law_191 : decode cL_law 191 = .ok (.ireturn, 1) := by decide +kernel
theorem dL_law_192 : decode cL_law 192 = .ok (.aload_n 1, 1) := by decide +kernel
theorem dL_law_193 : decode cL_law 193 = .ok (.aload_n 0, 1) := by decide +kernel
theorem dL_law_194 : decode cL_law 194 = .ok (.iload_n 3, 1) := by decide +kernel
theorem dL_law_195 : decode cL_law 195 = .ok (.iconst 1, 1) := by decide +kernel
theorem dL_law_196 : decode cL_law 196 = .ok (.iadd, 1) := by decide +kernel
theorem dL_law_197 : decode cL_law 197 = .ok (.iaload, 1) := by decide +kernel
theorem dL_law_198 : decode cL_law 198 = .ok (.aload_n 0, 1) := by decide +kernel
theorem dL_law_199 : decode cL_law 199 = .ok (.iload_n 3, 1) := by decide +kernel
theorem dL_law_200 : decode cL_law 200 = .ok (.iconst 2, 1) := by decide +kernel
theorem dL_law_201 : decode cL_law 201 = .ok (.iadd, 1) := by decide +kernel
theorem dL_law_202 : decode cL_law 202 = .ok (.iaload, 1) := by decide +kernel
theorem dL_law_203 : decode cL_law 203 = .ok (.invokevirtual 23, 3) := by decide +kernel
theorem dL_law_206 : decode cL_law 206 = .ok (.aload_n 2, 1) := by decide +kernel
theorem dL_law_207 : decode cL_law 207 = .ok (.aload_n 0, 1) := by decide +kernel
theorem dL_law_208 : decode cL_law 208 = .ok (.iload_n 3, 1) := by decide +kernel
theorem dL_law_209 : decode cL_law 209 = .ok (.iconst 1, 1) := by decide +kernel
theorem dL_law_210 : decode cL_law 210 = .ok (.iadd, 1) := by decide +kernel
theorem dL_law_211 : decode cL_law 211 = .ok (.iaload, 1) := by decide +kernel
theorem dL_law_212 : decode cL_law 212 = .ok (.aload_n 0, 1) := by decide +kernel
theorem dL_law_213 : decode cL_law 213 = .ok (.iload_n 3, 1) := by decide +kernel
theorem dL_law_214 : decode cL_law 214 = .ok (.iconst 2, 1) := by decide +kernel
theorem dL_law_215 : decode cL_law 215 = .ok (.iadd, 1) := by decide +kernel
theorem dL_law_216 : decode cL_law 216 = .ok (.iaload, 1) := by decide +kernel
theorem dL_law_217 : decode cL_law 217 = .ok (.invokevirtual 26, 3) := by decide +kernel
theorem dL_law_220 : decode cL_law 220 = .ok (.if_icmp .eq 492, 3) := by decide +kernel
theorem dL_law_223 : decode cL_law 223 = .ok (.iconst 0, 1) := by decide +kernel
theorem dL_law_224 : decode cL_law 224 = .ok (.ireturn, 1) := by decide +kernel
theorem dL_law_225 : decode cL_law 225 = .ok (.aload_n 1, 1) := by decide +kernel
theorem dL_law_226 : decode cL_law 226 = .ok (.aload_n 0, 1) := by decide +kernel
theorem dL_law_227 : decode cL_law 227 = .ok (.iload_n 3, 1) := by decide +kernel
theorem dL_law_228 : decode cL_law 228 = .ok (.iconst 1, 1) := by decide +kernel
theorem dL_law_229 : decode cL_law 229 = .ok (.iadd, 1) := by decide +kernel
theorem dL_law_230 : decode cL_law 230 = .ok (.iaload, 1) := by decide +kernel
theorem dL_law_231 : decode cL_law 231 = .ok (.aload_n 0, 1) := by decide +kernel
theorem dL_law_232 : decode cL_law 232 = .ok (.iload_n 3, 1) := by decide +kernel
theorem dL_law_233 : decode cL_law 233 = .ok (.iconst 2, 1) := by decide +kernel
theorem dL_law_234 : decode cL_law 234 = .ok (.iadd, 1) := by decide +kernel
theorem dL_law_235 : decode cL_law 235 = .ok (.iaload, 1) := by decide +kernel
theorem dL_law_236 : decode cL_law 236 = .ok (.aload_n 0, 1) := by decide +kernel
theorem dL_law_237 : decode cL_law 237 = .ok (.iload_n 3, 1) := by decide +kernel
theorem dL_law_238 : decode cL_law 238 = .ok (.iconst 3, 1) := by decide +kernel
theorem dL_law_239 : decode cL_law 239 = .ok (.iadd, 1) := by decide +kernel
theorem dL_law_240 : decode cL_law 240 = .ok (.iaload, 1) := by decide +kernel
theorem dL_law_241 : decode cL_law 241 = .ok (.invokevirtual 27, 3) := by decide +kernel
theorem dL_law_244 : decode cL_law 244 = .ok (.aload_n 2, 1) := by decide +kernel
theorem dL_law_245 : decode cL_law 245 = .ok (.aload_n 0, 1) := by decide +kernel
theorem dL_law_246 : decode cL_law 246 = .ok (.iload_n 3, 1) := by decide +kernel
theorem dL_law_247 : decode cL_law 247 = .ok (.iconst 1, 1) := by decide +kernel
theorem dL_law_248 : decode cL_law 248 = .ok (.iadd, 1) := by decide +kernel
theorem dL_law_249 : decode cL_law 249 = .ok (.iaload, 1) := by decide +kernel
theorem dL_law_250 : decode cL_law 250 = .ok (.aload_n 0, 1) := by decide +kernel
theorem dL_law_251 : decode cL_law 251 = .ok (.iload_n 3, 1) := by decide +kernel
theorem dL_law_252 : decode cL_law 252 = .ok (.iconst 2, 1) := by decide +kernel
theorem dL_law_253 : decode cL_law 253 = .ok (.iadd, 1) := by decide +kernel
theorem dL_law_254 : decode cL_law 254 = .ok (.iaload, 1) := by decide +kernel
theorem dL_law_255 : decode cL_law 255 = .ok (.aload_n 0, 1) := by decide +kernel
theorem dL_law_256 : decode cL_law 256 = .ok (.iload_n 3, 1) := by decide +kernel
theorem dL_law_257 : decode cL_law 257 = .ok (.iconst 3, 1) := by decide +kernel
theorem dL_law_258 : decode cL_law 258 = .ok (.iadd, 1) := by decide +kernel
theorem dL_law_259 : decode cL_law 259 = .ok (.iaload, 1) := by decide +kernel
theorem dL_law_260 : decode cL_law 260 = .ok (.invokevirtual 31, 3) := by decide +kernel
theorem dL_law_263 : decode cL_law 263 = .ok (.if_icmp .eq 449, 3) := by decide +kernel
theorem dL_law_266 : decode cL_law 266 = .ok (.iconst 0, 1) := by decide +kernel
theorem dL_law_267 : decode cL_law 267 = .ok (.ireturn, 1) := by decide +kernel
theorem dL_law_268 : decode cL_law 268 = .ok (.aload_n 1, 1) := by decide +kernel
theorem dL_law_269 : decode cL_law 269 = .ok (.aload_n 0, 1) := by decide +kernel
theorem dL_law_270 : decode cL_law 270 = .ok (.iload_n 3, 1) := by decide +kernel
theorem dL_law_271 : decode cL_law 271 = .ok (.iconst 1, 1) := by decide +kernel
theorem dL_law_272 : decode cL_law 272 = .ok (.iadd, 1) := by decide +kernel
theorem dL_law_273 : decode cL_law 273 = .ok (.iaload, 1) := by decide +kernel
theorem dL_law_274 : decode cL_law 274 = .ok (.invokevirtual 32, 3) := by decide +kernel
theorem dL_law_277 : decode cL_law 277 = .ok (.aload_n 2, 1) := by decide +kernel
theorem dL_law_278 : decode cL_law 278 = .ok (.aload_n 0, 1) := by decide +kernel
theorem dL_law_279 : decode cL_law 279 = .ok (.iload_n 3, 1) := by decide +kernel
theorem dL_law_280 : decode cL_law 280 = .ok (.iconst 1, 1) := by decide +kernel
theorem dL_law_281 : decode cL_law 281 = .ok (.iadd, 1) := by decide +kernel
theorem dL_law_282 : decode cL_law 282 = .ok (.iaload, 1) := by decide +kernel
theorem dL_law_283 : decode cL_law 283 = .ok (.invokevirtual 35, 3) := by decide +kernel
theorem dL_law_286 : decode cL_law 286 = .ok (.if_icmp .eq 426, 3) := by decide +kernel
theorem dL_law_289 : decode cL_law 289 = .ok (.iconst 0, 1) := by decide +kernel
theorem dL_law_290 : decode cL_law 290 = .ok (.ireturn, 1) := by decide +kernel
theorem dL_law_291 : decode cL_law 291 = .ok (.aload_n 1, 1) := by decide +kernel
theorem dL_law_292 : decode cL_law 292 = .ok (.aload_n 0, 1) := by decide +kernel
theorem dL_law_293 : decode cL_law 293 = .ok (.iload_n 3, 1) := by decide +kernel
theorem dL_law_294 : decode cL_law 294 = .ok (.iconst 1, 1) := by decide +kernel
theorem dL_law_295 : decode cL_law 295 = .ok (.iadd, 1) := by decide +kernel
theorem dL_law_296 : decode cL_law 296 = .ok (.iaload, 1) := by decide +kernel
theorem dL_law_297 : decode cL_law 297 = .ok (.invokevirtual 36, 3) := by decide +kernel
theorem dL_law_300 : decode cL_law 300 = .ok (.aload_n 2, 1) := by decide +kernel
theorem dL_law_301 : decode cL_law 301 = .ok (.aload_n 0, 1) := by decide +kernel
theorem dL_law_302 : decode cL_law 302 = .ok (.iload_n 3, 1) := by decide +kernel
theorem dL_law_303 : decode cL_law 303 = .ok (.iconst 1, 1) := by decide +kernel
theorem dL_law_304 : decode cL_law 304 = .ok (.iadd, 1) := by decide +kernel
theorem dL_law_305 : decode cL_law 305 = .ok (.iaload, 1) := by decide +kernel
theorem dL_law_306 : decode cL_law 306 = .ok (.invokevirtual 39, 3) := by decide +kernel
theorem dL_law_309 : decode cL_law 309 = .ok (.if_icmp .eq 403, 3) := by decide +kernel
theorem dL_law_312 : decode cL_law 312 = .ok (.iconst 0, 1) := by decide +kernel
theorem dL_law_313 : decode cL_law 313 = .ok (.ireturn, 1) := by decide +kernel
theorem dL_law_314 : decode cL_law 314 = .ok (.aload_n 1, 1) := by decide +kernel
theorem dL_law_315 : decode cL_law 315 = .ok (.invokevirtual 40, 3) := by decide +kernel
theorem dL_law_318 : decode cL_law 318 = .ok (.aload_n 2, 1) := by decide +kernel
theorem dL_law_319 : decode cL_law 319 = .ok (.invokevirtual 44, 3) := by decide +kernel
theorem dL_law_322 : decode cL_law 322 = .ok (.if_icmp .eq 390, 3) := by decide +kernel
theorem dL_law_325 : decode cL_law 325 = .ok (.iconst 0, 1) := by decide +kernel
theorem dL_law_326 : decode cL_law 326 = .ok (.ireturn, 1) := by decide +kernel
theorem dL_law_327 : decode cL_law 327 = .ok (.aload_n 1, 1) := by decide +kernel
theorem dL_law_328 : decode cL_law 328 = .ok (.invokevirtual 45, 3) := by decide +kernel
theorem dL_law_331 : decode cL_law 331 = .ok (.aload_n 2, 1) := by decide +kernel
theorem dL_law_332 : decode cL_law 332 = .ok (.invokevirtual 48, 3) := by decide +kernel
theorem dL_law_335 : decode cL_law 335 = .ok (.if_icmp .eq 377, 3) := by decide +kernel
theorem dL_law_338 : decode cL_law 338 = .ok (.iconst 0, 1) := by decide +kernel
theorem dL_law_339 : decode cL_law 339 = .ok (.ireturn, 1) := by decide +kernel
theorem dL_law_340 : decode cL_law 340 = .ok (.aload_n 1, 1) := by decide +kernel
theorem dL_law_341 : decode cL_law 341 = .ok (.aload_n 0, 1) := by decide +kernel
theorem dL_law_342 : decode cL_law 342 = .ok (.iload_n 3, 1) := by decide +kernel
theorem dL_law_343 : decode cL_law 343 = .ok (.iconst 1, 1) := by decide +kernel
theorem dL_law_344 : decode cL_law 344 = .ok (.iadd, 1) := by decide +kernel
theorem dL_law_345 : decode cL_law 345 = .ok (.iaload, 1) := by decide +kernel
theorem dL_law_346 : decode cL_law 346 = .ok (.aload_n 0, 1) := by decide +kernel
theorem dL_law_347 : decode cL_law 347 = .ok (.iload_n 3, 1) := by decide +kernel
theorem dL_law_348 : decode cL_law 348 = .ok (.iconst 2, 1) := by decide +kernel
theorem dL_law_349 : decode cL_law 349 = .ok (.iadd, 1) := by decide +kernel
theorem dL_law_350 : decode cL_law 350 = .ok (.iaload, 1) := by decide +kernel
theorem dL_law_351 : decode cL_law 351 = .ok (.invokevirtual 49, 3) := by decide +kernel
theorem dL_law_354 : decode cL_law 354 = .ok (.aload_n 2, 1) := by decide +kernel
theorem dL_law_355 : decode cL_law 355 = .ok (.aload_n 0, 1) := by decide +kernel
theorem dL_law_356 : decode cL_law 356 = .ok (.iload_n 3, 1) := by decide +kernel
theorem dL_law_357 : decode cL_law 357 = .ok (.iconst 1, 1) := by decide +kernel
theorem dL_law_358 : decode cL_law 358 = .ok (.iadd, 1) := by decide +kernel
theorem dL_law_359 : decode cL_law 359 = .ok (.iaload, 1) := by decide +kernel
theorem dL_law_360 : decode cL_law 360 = .ok (.aload_n 0, 1) := by decide +kernel
theorem dL_law_361 : decode cL_law 361 = .ok (.iload_n 3, 1) := by decide +kernel
theorem dL_law_362 : decode cL_law 362 = .ok (.iconst 2, 1) := by decide +kernel
theorem dL_law_363 : decode cL_law 363 = .ok (.iadd, 1) := by decide +kernel
theorem dL_law_364 : decode cL_law 364 = .ok (.iaload, 1) := by decide +kernel
theorem dL_law_365 : decode cL_law 365 = .ok (.invokevirtual 52, 3) := by decide +kernel
theorem dL_law_368 : decode cL_law 368 = .ok (.if_icmp .eq 344, 3) := by decide +kernel
theorem dL_law_371 : decode cL_law 371 = .ok (.iconst 0, 1) := by decide +kernel
theorem dL_law_372 : decode cL_law 372 = .ok (.ireturn, 1) := by decide +kernel
theorem dL_law_373 : decode cL_law 373 = .ok (.aload_n 1, 1) := by decide +kernel
theorem dL_law_374 : decode cL_law 374 = .ok (.aload_n 0, 1) := by decide +kernel
theorem dL_law_375 : decode cL_law 375 = .ok (.iload_n 3, 1) := by decide +kernel
theorem dL_law_376 : decode cL_law 376 = .ok (.iconst 1, 1) := by decide +kernel
theorem dL_law_377 : decode cL_law 377 = .ok (.iadd, 1) := by decide +kernel
theorem dL_law_378 : decode cL_law 378 = .ok (.iaload, 1) := by decide +kernel
theorem dL_law_379 : decode cL_law 379 = .ok (.invokevirtual 53, 3) := by decide +kernel
theorem dL_law_382 : decode cL_law 382 = .ok (.aload_n 2, 1) := by decide +kernel
theorem dL_law_383 : decode cL_law 383 = .ok (.aload_n 0, 1) := by decide +kernel
theorem dL_law_384 : decode cL_law 384 = .ok (.iload_n 3, 1) := by decide +kernel
theorem dL_law_385 : decode cL_law 385 = .ok (.iconst 1, 1) := by decide +kernel
theorem dL_law_386 : decode cL_law 386 = .ok (.iadd, 1) := by decide +kernel
theorem dL_law_387 : decode cL_law 387 = .ok (.iaload, 1) := by decide +kernel
theorem dL_law_388 : decode cL_law 388 = .ok (.invokevirtual 56, 3) := by decide +kernel
theorem dL_law_391 : decode cL_law 391 = .ok (.if_icmp .eq 321, 3) := by decide +kernel
theorem dL_law_394 : decode cL_law 394 = .ok (.iconst 0, 1) := by decide +kernel
theorem dL_law_395 : decode cL_law 395 = .ok (.ireturn, 1) := by decide +kernel
theorem dL_law_396 : decode cL_law 396 = .ok (.aload_n 1, 1) := by decide +kernel
theorem dL_law_397 : decode cL_law 397 = .ok (.aload_n 0, 1) := by decide +kernel
theorem dL_law_398 : decode cL_law 398 = .ok (.iload_n 3, 1) := by decide +kernel
theorem dL_law_399 : decode cL_law 399 = .ok (.iconst 1, 1) := by decide +kernel
theorem dL_law_400 : decode cL_law 400 = .ok (.iadd, 1) := by decide +kernel
theorem dL_law_401 : decode cL_law 401 = .ok (.iaload, 1) := by decide +kernel
theorem dL_law_402 : decode cL_law 402 = .ok (.aload_n 0, 1) := by decide +kernel
theorem dL_law_403 : decode cL_law 403 = .ok (.iload_n 3, 1) := by decide +kernel
theorem dL_law_404 : decode cL_law 404 = .ok (.iconst 2, 1) := by decide +kernel
theorem dL_law_405 : decode cL_law 405 = .ok (.iadd, 1) := by decide +kernel
theorem dL_law_406 : decode cL_law 406 = .ok (.iaload, 1) := by decide +kernel
theorem dL_law_407 : decode cL_law 407 = .ok (.invokevirtual 57, 3) := by decide +kernel
theorem dL_law_410 : decode cL_law 410 = .ok (.aload_n 2, 1) := by decide +kernel
theorem dL_law_411 : decode cL_law 411 = .ok (.aload_n 0, 1) := by decide +kernel
theorem dL_law_412 : decode cL_law 412 = .ok (.iload_n 3, 1) := by decide +kernel
theorem dL_law_413 : decode cL_law 413 = .ok (.iconst 1, 1) := by decide +kernel
theorem dL_law_414 : decode cL_law 414 = .ok (.iadd, 1) := by decide +kernel
theorem dL_law_415 : decode cL_law 415 = .ok (.iaload, 1) := by decide +kernel
theorem dL_law_416 : decode cL_law 416 = .ok (.aload_n 0, 1) := by decide +kernel
theorem dL_law_417 : decode cL_law 417 = .ok (.iload_n 3, 1) := by decide +kernel
theorem dL_law_418 : decode cL_law 418 = .ok (.iconst 2, 1) := by decide +kernel
theorem dL_law_419 : decode cL_law 419 = .ok (.iadd, 1) := by decide +kernel
theorem dL_law_420 : decode cL_law 420 = .ok (.iaload, 1) := by decide +kernel
theorem dL_law_421 : decode cL_law 421 = .ok (.invokevirtual 60, 3) := by decide +kernel
theorem dL_law_424 : decode cL_law 424 = .ok (.if_icmp .eq 288, 3) := by decide +kernel
theorem dL_law_427 : decode cL_law 427 = .ok (.iconst 0, 1) := by decide +kernel
theorem dL_law_428 : decode cL_law 428 = .ok (.ireturn, 1) := by decide +kernel
theorem dL_law_429 : decode cL_law 429 = .ok (.aload_n 1, 1) := by decide +kernel
theorem dL_law_430 : decode cL_law 430 = .ok (.aload_n 0, 1) := by decide +kernel
theorem dL_law_431 : decode cL_law 431 = .ok (.iload_n 3, 1) := by decide +kernel
theorem dL_law_432 : decode cL_law 432 = .ok (.iconst 1, 1) := by decide +kernel
theorem dL_law_433 : decode cL_law 433 = .ok (.iadd, 1) := by decide +kernel
theorem dL_law_434 : decode cL_law 434 = .ok (.iaload, 1) := by decide +kernel
theorem dL_law_435 : decode cL_law 435 = .ok (.aload_n 0, 1) := by decide +kernel
theorem dL_law_436 : decode cL_law 436 = .ok (.iload_n 3, 1) := by decide +kernel
theorem dL_law_437 : decode cL_law 437 = .ok (.iconst 2, 1) := by decide +kernel
theorem dL_law_438 : decode cL_law 438 = .ok (.iadd, 1) := by decide +kernel
theorem dL_law_439 : decode cL_law 439 = .ok (.iaload, 1) := by decide +kernel
theorem dL_law_440 : decode cL_law 440 = .ok (.invokevirtual 61, 3) := by decide +kernel
theorem dL_law_443 : decode cL_law 443 = .ok (.aload_n 2, 1) := by decide +kernel
theorem dL_law_444 : decode cL_law 444 = .ok (.aload_n 0, 1) := by decide +kernel
theorem dL_law_445 : decode cL_law 445 = .ok (.iload_n 3, 1) := by decide +kernel
theorem dL_law_446 : decode cL_law 446 = .ok (.iconst 1, 1) := by decide +kernel
theorem dL_law_447 : decode cL_law 447 = .ok (.iadd, 1) := by decide +kernel
theorem dL_law_448 : decode cL_law 448 = .ok (.iaload, 1) := by decide +kernel
theorem dL_law_449 : decode cL_law 449 = .ok (.aload_n 0, 1) := by decide +kernel
theorem dL_law_450 : decode cL_law 450 = .ok (.iload_n 3, 1) := by decide +kernel
theorem dL_law_451 : decode cL_law 451 = .ok (.iconst 2, 1) := by decide +kernel
theorem dL_law_452 : decode cL_law 452 = .ok (.iadd, 1) := by decide +kernel
theorem dL_law_453 : decode cL_law 453 = .ok (.iaload, 1) := by decide +kernel
theorem dL_law_454 : decode cL_law 454 = .ok (.invokevirtual 64, 3) := by decide +kernel
theorem dL_law_457 : decode cL_law 457 = .ok (.if_icmp .eq 255, 3) := by decide +kernel
theorem dL_law_460 : decode cL_law 460 = .ok (.iconst 0, 1) := by decide +kernel
theorem dL_law_461 : decode cL_law 461 = .ok (.ireturn, 1) := by decide +kernel
theorem dL_law_462 : decode cL_law 462 = .ok (.aload_n 1, 1) := by decide +kernel
theorem dL_law_463 : decode cL_law 463 = .ok (.aload_n 0, 1) := by decide +kernel
theorem dL_law_464 : decode cL_law 464 = .ok (.iload_n 3, 1) := by decide +kernel
theorem dL_law_465 : decode cL_law 465 = .ok (.iconst 1, 1) := by decide +kernel
theorem dL_law_466 : decode cL_law 466 = .ok (.iadd, 1) := by decide +kernel
theorem dL_law_467 : decode cL_law 467 = .ok (.iaload, 1) := by decide +kernel
theorem dL_law_468 : decode cL_law 468 = .ok (.invokevirtual 65, 3) := by decide +kernel
theorem dL_law_471 : decode cL_law 471 = .ok (.aload_n 2, 1) := by decide +kernel
theorem dL_law_472 : decode cL_law 472 = .ok (.aload_n 0, 1) := by decide +kernel
theorem dL_law_473 : decode cL_law 473 = .ok (.iload_n 3, 1) := by decide +kernel
theorem dL_law_474 : decode cL_law 474 = .ok (.iconst 1, 1) := by decide +kernel
theorem dL_law_475 : decode cL_law 475 = .ok (.iadd, 1) := by decide +kernel
theorem dL_law_476 : decode cL_law 476 = .ok (.iaload, 1) := by decide +kernel
theorem dL_law_477 : decode cL_law 477 = .ok (.invokevirtual 68, 3) := by decide +kernel
theorem dL_law_480 : decode cL_law 480 = .ok (.if_icmp .eq 232, 3) := by decide +kernel
theorem dL_law_483 : decode cL_law 483 = .ok (.iconst 0, 1) := by decide +kernel
theorem dL_law_484 : decode cL_law 484 = .ok (.ireturn, 1) := by decide +kernel
theorem dL_law_485 : decode cL_law 485 = .ok (.aload_n 1, 1) := by decide +kernel
theorem dL_law_486 : decode cL_law 486 = .ok (.aload_n 0, 1) := by decide +kernel
theorem dL_law_487 : decode cL_law 487 = .ok (.iload_n 3, 1) := by decide +kernel
theorem dL_law_488 : decode cL_law 488 = .ok (.iconst 1, 1) := by decide +kernel
theorem dL_law_489 : decode cL_law 489 = .ok (.iadd, 1) := by decide +kernel
theorem dL_law_490 : decode cL_law 490 = .ok (.iaload, 1) := by decide +kernel
theorem dL_law_491 : decode cL_law 491 = .ok (.invokevirtual 69, 3) := by decide +kernel
theorem dL_law_494 : decode cL_law 494 = .ok (.aload_n 2, 1) := by decide +kernel
theorem dL_law_495 : decode cL_law 495 = .ok (.aload_n 0, 1) := by decide +kernel
theorem dL_law_496 : decode cL_law 496 = .ok (.iload_n 3, 1) := by decide +kernel
theorem dL_law_497 : decode cL_law 497 = .ok (.iconst 1, 1) := by decide +kernel
theorem dL_law_498 : decode cL_law 498 = .ok (.iadd, 1) := by decide +kernel
theorem dL_law_499 : decode cL_law 499 = .ok (.iaload, 1) := by decide +kernel
theorem dL_law_500 : decode cL_law 500 = .ok (.invokevirtual 72, 3) := by decide +kernel
theorem dL_law_503 : decode cL_law 503 = .ok (.if_icmp .eq 209, 3) := by decide +kernel
theorem dL_law_506 : decode cL_law 506 = .ok (.iconst 0, 1) := by decide +kernel
theorem dL_law_507 : decode cL_law 507 = .ok (.ireturn, 1) := by decide +kernel
theorem dL_law_508 : decode cL_law 508 = .ok (.aload_n 1, 1) := by decide +kernel
theorem dL_law_509 : decode cL_law 509 = .ok (.aload_n 0, 1) := by decide +kernel
theorem dL_law_510 : decode cL_law 510 = .ok (.iload_n 3, 1) := by decide +kernel
theorem dL_law_511 : decode cL_law 511 = .ok (.iconst 1, 1) := by decide +kernel
theorem dL_law_512 : decode cL_law 512 = .ok (.iadd, 1) := by decide +kernel
theorem dL_law_513 : decode cL_law 513 = .ok (.iaload, 1) := by decide +kernel
theorem dL_law_514 : decode cL_law 514 = .ok (.invokevirtual 73, 3) := by decide +kernel
theorem dL_law_517 : decode cL_law 517 = .ok (.aload_n 2, 1) := by decide +kernel
theorem dL_law_518 : decode cL_law 518 = .ok (.aload_n 0, 1) := by decide +kernel
theorem dL_law_519 : decode cL_law 519 = .ok (.iload_n 3, 1) := by decide +kernel
theorem dL_law_520 : decode cL_law 520 = .ok (.iconst 1, 1) := by decide +kernel
theorem dL_law_521 : decode cL_law 521 = .ok (.iadd, 1) := by decide +kernel
theorem dL_law_522 : decode cL_law 522 = .ok (.iaload, 1) := by decide +kernel
theorem dL_law_523 : decode cL_law 523 = .ok (.invokevirtual 76, 3) := by decide +kernel
theorem dL_law_526 : decode cL_law 526 = .ok (.if_icmp .eq 186, 3) := by decide +kernel
theorem dL_law_529 : decode cL_law 529 = .ok (.iconst 0, 1) := by decide +kernel
theorem dL_law_530 : decode cL_law 530 = .ok (.ireturn, 1) := by decide +kernel
theorem dL_law_531 : decode cL_law 531 = .ok (.aload_n 1, 1) := by decide +kernel
theorem dL_law_532 : decode cL_law 532 = .ok (.aload_n 0, 1) := by decide +kernel
theorem dL_law_533 : decode cL_law 533 = .ok (.iload_n 3, 1) := by decide +kernel
theorem dL_law_534 : decode cL_law 534 = .ok (.iconst 1, 1) := by decide +kernel
theorem dL_law_535 : decode cL_law 535 = .ok (.iadd, 1) := by decide +kernel
theorem dL_law_536 : decode cL_law 536 = .ok (.iaload, 1) := by decide +kernel
theorem dL_law_537 : decode cL_law 537 = .ok (.aload_n 0, 1) := by decide +kernel
theorem dL_law_538 : decode cL_law 538 = .ok (.iload_n 3, 1) := by decide +kernel
theorem dL_law_539 : decode cL_law 539 = .ok (.iconst 2, 1) := by decide +kernel
theorem dL_law_540 : decode cL_law 540 = .ok (.iadd, 1) := by decide +kernel
theorem dL_law_541 : decode cL_law 541 = .ok (.iaload, 1) := by decide +kernel
theorem dL_law_542 : decode cL_law 542 = .ok (.invokevirtual 77, 3) := by decide +kernel
theorem dL_law_545 : decode cL_law 545 = .ok (.aload_n 2, 1) := by decide +kernel
theorem dL_law_546 : decode cL_law 546 = .ok (.aload_n 0, 1) := by decide +kernel
theorem dL_law_547 : decode cL_law 547 = .ok (.iload_n 3, 1) := by decide +kernel
theorem dL_law_548 : decode cL_law 548 = .ok (.iconst 1, 1) := by decide +kernel
theorem dL_law_549 : decode cL_law 549 = .ok (.iadd, 1) := by decide +kernel
theorem dL_law_550 : decode cL_law 550 = .ok (.iaload, 1) := by decide +kernel
theorem dL_law_551 : decode cL_law 551 = .ok (.aload_n 0, 1) := by decide +kernel
theorem dL_law_552 : decode cL_law 552 = .ok (.iload_n 3, 1) := by decide +kernel
theorem dL_law_553 : decode cL_law 553 = .ok (.iconst 2, 1) := by decide +kernel
theorem dL_law_554 : decode cL_law 554 = .ok (.iadd, 1) := by decide +kernel
theorem dL_law_555 : decode cL_law 555 = .ok (.iaload, 1) := by decide +kernel
theorem dL_law_556 : decode cL_law 556 = .ok (.invokevirtual 80, 3) := by decide +kernel
theorem dL_law_559 : decode cL_law 559 = .ok (.if_icmp .eq 153, 3) := by decide +kernel
theorem dL_law_562 : decode cL_law 562 = .ok (.iconst 0, 1) := by decide +kernel
theorem dL_law_563 : decode cL_law 563 = .ok (.ireturn, 1) := by decide +kernel
theorem dL_law_564 : decode cL_law 564 = .ok (.aload_n 1, 1) := by decide +kernel
theorem dL_law_565 : decode cL_law 565 = .ok (.aload_n 0, 1) := by decide +kernel
theorem dL_law_566 : decode cL_law 566 = .ok (.iload_n 3, 1) := by decide +kernel
theorem dL_law_567 : decode cL_law 567 = .ok (.iconst 1, 1) := by decide +kernel
theorem dL_law_568 : decode cL_law 568 = .ok (.iadd, 1) := by decide +kernel
theorem dL_law_569 : decode cL_law 569 = .ok (.iaload, 1) := by decide +kernel
theorem dL_law_570 : decode cL_law 570 = .ok (.aload_n 0, 1) := by decide +kernel
theorem dL_law_571 : decode cL_law 571 = .ok (.iload_n 3, 1) := by decide +kernel
theorem dL_law_572 : decode cL_law 572 = .ok (.iconst 2, 1) := by decide +kernel
theorem dL_law_573 : decode cL_law 573 = .ok (.iadd, 1) := by decide +kernel
theorem dL_law_574 : decode cL_law 574 = .ok (.iaload, 1) := by decide +kernel
theorem dL_law_575 : decode cL_law 575 = .ok (.invokevirtual 81, 3) := by decide +kernel
theorem dL_law_578 : decode cL_law 578 = .ok (.aload_n 2, 1) := by decide +kernel
theorem dL_law_579 : decode cL_law 579 = .ok (.aload_n 0, 1) := by decide +kernel
theorem dL_law_580 : decode cL_law 580 = .ok (.iload_n 3, 1) := by decide +kernel
theorem dL_law_581 : decode cL_law 581 = .ok (.iconst 1, 1) := by decide +kernel
theorem dL_law_582 : decode cL_law 582 = .ok (.iadd, 1) := by decide +kernel
theorem dL_law_583 : decode cL_law 583 = .ok (.iaload, 1) := by decide +kernel
theorem dL_law_584 : decode cL_law 584 = .ok (.aload_n 0, 1) := by decide +kernel
theorem dL_law_585 : decode cL_law 585 = .ok (.iload_n 3, 1) := by decide +kernel
theorem dL_law_586 : decode cL_law 586 = .ok (.iconst 2, 1) := by decide +kernel
theorem dL_law_587 : decode cL_law 587 = .ok (.iadd, 1) := by decide +kernel
theorem dL_law_588 : decode cL_law 588 = .ok (.iaload, 1) := by decide +kernel
theorem dL_law_589 : decode cL_law 589 = .ok (.invokevirtual 84, 3) := by decide +kernel
theorem dL_law_592 : decode cL_law 592 = .ok (.if_icmp .eq 120, 3) := by decide +kernel
theorem dL_law_595 : decode cL_law 595 = .ok (.iconst 0, 1) := by decide +kernel
theorem dL_law_596 : decode cL_law 596 = .ok (.ireturn, 1) := by decide +kernel
theorem dL_law_597 : decode cL_law 597 = .ok (.aload_n 1, 1) := by decide +kernel
theorem dL_law_598 : decode cL_law 598 = .ok (.aload_n 0, 1) := by decide +kernel
theorem dL_law_599 : decode cL_law 599 = .ok (.iload_n 3, 1) := by decide +kernel
theorem dL_law_600 : decode cL_law 600 = .ok (.iconst 1, 1) := by decide +kernel
theorem dL_law_601 : decode cL_law 601 = .ok (.iadd, 1) := by decide +kernel
theorem dL_law_602 : decode cL_law 602 = .ok (.iaload, 1) := by decide +kernel
theorem dL_law_603 : decode cL_law 603 = .ok (.invokevirtual 85, 3) := by decide +kernel
theorem dL_law_606 : decode cL_law 606 = .ok (.aload_n 2, 1) := by decide +kernel
theorem dL_law_607 : decode cL_law 607 = .ok (.aload_n 0, 1) := by decide +kernel
theorem dL_law_608 : decode cL_law 608 = .ok (.iload_n 3, 1) := by decide +kernel
theorem dL_law_609 : decode cL_law 609 = .ok (.iconst 1, 1) := by decide +kernel
theorem dL_law_610 : decode cL_law 610 = .ok (.iadd, 1) := by decide +kernel
theorem dL_law_611 : decode cL_law 611 = .ok (.iaload, 1) := by decide +kernel
theorem dL_law_612 : decode cL_law 612 = .ok (.invokevirtual 88, 3) := by decide +kernel
theorem dL_law_615 : decode cL_law 615 = .ok (.if_icmp .eq 97, 3) := by decide +kernel
theorem dL_law_618 : decode cL_law 618 = .ok (.iconst 0, 1) := by decide +kernel
theorem dL_law_619 : decode cL_law 619 = .ok (.ireturn, 1) := by decide +kernel
theorem dL_law_620 : decode cL_law 620 = .ok (.aload_n 1, 1) := by decide +kernel
theorem dL_law_621 : decode cL_law 621 = .ok (.aload_n 0, 1) := by decide +kernel
theorem dL_law_622 : decode cL_law 622 = .ok (.iload_n 3, 1) := by decide +kernel
theorem dL_law_623 : decode cL_law 623 = .ok (.iconst 1, 1) := by decide +kernel
theorem dL_law_624 : decode cL_law 624 = .ok (.iadd, 1) := by decide +kernel
theorem dL_law_625 : decode cL_law 625 = .ok (.iaload, 1) := by decide +kernel
theorem dL_law_626 : decode cL_law 626 = .ok (.aload_n 0, 1) := by decide +kernel
theorem dL_law_627 : decode cL_law 627 = .ok (.iload_n 3, 1) := by decide +kernel
theorem dL_law_628 : decode cL_law 628 = .ok (.iconst 2, 1) := by decide +kernel
theorem dL_law_629 : decode cL_law 629 = .ok (.iadd, 1) := by decide +kernel
theorem dL_law_630 : decode cL_law 630 = .ok (.iaload, 1) := by decide +kernel
theorem dL_law_631 : decode cL_law 631 = .ok (.invokevirtual 89, 3) := by decide +kernel
theorem dL_law_634 : decode cL_law 634 = .ok (.aload_n 2, 1) := by decide +kernel
theorem dL_law_635 : decode cL_law 635 = .ok (.aload_n 0, 1) := by decide +kernel
theorem dL_law_636 : decode cL_law 636 = .ok (.iload_n 3, 1) := by decide +kernel
theorem dL_law_637 : decode cL_law 637 = .ok (.iconst 1, 1) := by decide +kernel
theorem dL_law_638 : decode cL_law 638 = .ok (.iadd, 1) := by decide +kernel
theorem dL_law_639 : decode cL_law 639 = .ok (.iaload, 1) := by decide +kernel
theorem dL_law_640 : decode cL_law 640 = .ok (.aload_n 0, 1) := by decide +kernel
theorem dL_law_641 : decode cL_law 641 = .ok (.iload_n 3, 1) := by decide +kernel
theorem dL_law_642 : decode cL_law 642 = .ok (.iconst 2, 1) := by decide +kernel
theorem dL_law_643 : decode cL_law 643 = .ok (.iadd, 1) := by decide +kernel
theorem dL_law_644 : decode cL_law 644 = .ok (.iaload, 1) := by decide +kernel
theorem dL_law_645 : decode cL_law 645 = .ok (.invokevirtual 92, 3) := by decide +kernel
theorem dL_law_648 : decode cL_law 648 = .ok (.if_icmp .eq 64, 3) := by decide +kernel
theorem dL_law_651 : decode cL_law 651 = .ok (.iconst 0, 1) := by decide +kernel
theorem dL_law_652 : decode cL_law 652 = .ok (.ireturn, 1) := by decide +kernel
theorem dL_law_653 : decode cL_law 653 = .ok (.aload_n 1, 1) := by decide +kernel
theorem dL_law_654 : decode cL_law 654 = .ok (.aload_n 0, 1) := by decide +kernel
theorem dL_law_655 : decode cL_law 655 = .ok (.iload_n 3, 1) := by decide +kernel
theorem dL_law_656 : decode cL_law 656 = .ok (.iconst 1, 1) := by decide +kernel
theorem dL_law_657 : decode cL_law 657 = .ok (.iadd, 1) := by decide +kernel
theorem dL_law_658 : decode cL_law 658 = .ok (.iaload, 1) := by decide +kernel
theorem dL_law_659 : decode cL_law 659 = .ok (.invokevirtual 93, 3) := by decide +kernel
theorem dL_law_662 : decode cL_law 662 = .ok (.aload_n 2, 1) := by decide +kernel
theorem dL_law_663 : decode cL_law 663 = .ok (.aload_n 0, 1) := by decide +kernel
theorem dL_law_664 : decode cL_law 664 = .ok (.iload_n 3, 1) := by decide +kernel
theorem dL_law_665 : decode cL_law 665 = .ok (.iconst 1, 1) := by decide +kernel
theorem dL_law_666 : decode cL_law 666 = .ok (.iadd, 1) := by decide +kernel
theorem dL_law_667 : decode cL_law 667 = .ok (.iaload, 1) := by decide +kernel
theorem dL_law_668 : decode cL_law 668 = .ok (.invokevirtual 96, 3) := by decide +kernel
theorem dL_law_671 : decode cL_law 671 = .ok (.if_icmp .eq 41, 3) := by decide +kernel
theorem dL_law_674 : decode cL_law 674 = .ok (.iconst 0, 1) := by decide +kernel
theorem dL_law_675 : decode cL_law 675 = .ok (.ireturn, 1) := by decide +kernel
theorem dL_law_676 : decode cL_law 676 = .ok (.aload_n 1, 1) := by decide +kernel
theorem dL_law_677 : decode cL_law 677 = .ok (.invokevirtual 97, 3) := by decide +kernel
theorem dL_law_680 : decode cL_law 680 = .ok (.aload_n 2, 1) := by decide +kernel
theorem dL_law_681 : decode cL_law 681 = .ok (.invokevirtual 100, 3) := by decide +kernel
theorem dL_law_684 : decode cL_law 684 = .ok (.if_icmp .eq 28, 3) := by decide +kernel
theorem dL_law_687 : decode cL_law 687 = .ok (.iconst 0, 1) := by decide +kernel
theorem dL_law_688 : decode cL_law 688 = .ok (.ireturn, 1) := by decide +kernel
theorem dL_law_689 : decode cL_law 689 = .ok (.aload_n 1, 1) := by decide +kernel
theorem dL_law_690 : decode cL_law 690 = .ok (.aload_n 0, 1) := by decide +kernel
theorem dL_law_691 : decode cL_law 691 = .ok (.iload_n 3, 1) := by decide +kernel
theorem dL_law_692 : decode cL_law 692 = .ok (.iconst 1, 1) := by decide +kernel
theorem dL_law_693 : decode cL_law 693 = .ok (.iadd, 1) := by decide +kernel
theorem dL_law_694 : decode cL_law 694 = .ok (.iaload, 1) := by decide +kernel
theorem dL_law_695 : decode cL_law 695 = .ok (.invokevirtual 101, 3) := by decide +kernel
theorem dL_law_698 : decode cL_law 698 = .ok (.aload_n 2, 1) := by decide +kernel
theorem dL_law_699 : decode cL_law 699 = .ok (.aload_n 0, 1) := by decide +kernel
theorem dL_law_700 : decode cL_law 700 = .ok (.iload_n 3, 1) := by decide +kernel
theorem dL_law_701 : decode cL_law 701 = .ok (.iconst 1, 1) := by decide +kernel
theorem dL_law_702 : decode cL_law 702 = .ok (.iadd, 1) := by decide +kernel
theorem dL_law_703 : decode cL_law 703 = .ok (.iaload, 1) := by decide +kernel
theorem dL_law_704 : decode cL_law 704 = .ok (.invokevirtual 104, 3) := by decide +kernel
theorem dL_law_707 : decode cL_law 707 = .ok (.if_icmp .eq 5, 3) := by decide +kernel
theorem dL_law_710 : decode cL_law 710 = .ok (.iconst 0, 1) := by decide +kernel
theorem dL_law_711 : decode cL_law 711 = .ok (.ireturn, 1) := by decide +kernel
theorem dL_law_712 : decode cL_law 712 = .ok (.iinc 3 4, 3) := by decide +kernel
theorem dL_law_715 : decode cL_law 715 = .ok (.goto (-697), 3) := by decide +kernel
theorem dL_law_718 : decode cL_law 718 = .ok (.iconst 1, 1) := by decide +kernel
theorem dL_law_719 : decode cL_law 719 = .ok (.ireturn, 1) := by decide +kernel
end
section
/-! ===== the pure state: what the cells hold, by their addresses ===== -/
abbrev Sg : Type := Nat → (Nat → Int32) × (Nat → Int64)
abbrev Kd : Type := Option (Option Nat)
abbrev Sh : Type := (Nat × List Kd) ⊕ (Nat × Nat)
def shl : List Sh := [.inl (9, [some (some 1), some (some 9), some (some 10), some (some 12), some (some 14), some (some 20), none]),
  .inl (5, [none, some (some 2), some (some 3), some (some 4), some (some 5), some (some 6), some (some 7), some (some 8)]),
  .inr (0, 16),
  .inr (0, 16),
  .inr (0, 2048),
  .inr (0, 2048),
  .inr (0, 2048),
  .inr (1, 2048),
  .inr (0, 2),
  .inl (0, [some (some 1), none, none, none]),
  .inl (6, [some none, none, some (some 11)]),
  .inr (0, 8),
  .inl (6, [some none, none, some (some 13)]),
  .inr (0, 8),
  .inl (8, [some (some 1), some (some 15), some (some 16), some (some 17), some (some 18), some (some 19), none]),
  .inr (0, 20),
  .inr (0, 20),
  .inr (0, 20),
  .inr (0, 20),
  .inr (0, 20),
  .inl (1, [some (some 1), some (some 9), some (some 21), some (some 23), some (some 25), some (some 31), some (some 36), some (some 40), some (some 42), some (some 44), some (some 50), some (some 51), some (some 52), none, none, none, none]),
  .inl (6, [some none, none, some (some 22)]),
  .inr (0, 8),
  .inl (6, [some none, none, some (some 24)]),
  .inr (0, 8),
  .inl (8, [some (some 1), some (some 26), some (some 27), some (some 28), some (some 29), some (some 30), none]),
  .inr (0, 20),
  .inr (0, 20),
  .inr (0, 20),
  .inr (0, 20),
  .inr (0, 20),
  .inl (7, [some (some 32), some (some 33), some (some 34), some (some 35), none]),
  .inr (2, 4000),
  .inr (2, 4000),
  .inr (2, 4000),
  .inr (0, 8192),
  .inl (3, [some (some 37), some (some 38), some (some 39), none]),
  .inr (0, 200),
  .inr (0, 200),
  .inr (0, 200),
  .inl (4, [some (some 41), none]),
  .inr (0, 4000),
  .inl (4, [some (some 43), none]),
  .inr (0, 4000),
  .inl (2, [some (some 45), some (some 46), some (some 47), some (some 48)]),
  .inr (0, 4000),
  .inr (0, 80000),
  .inr (1, 4000),
  .inl (4, [some (some 49), none]),
  .inr (0, 4000),
  .inr (0, 4000),
  .inr (0, 4000),
  .inr (0, 2048),
  .inl (10, [none, some (some 54), some (some 55), some (some 56), some (some 57), some (some 58), some (some 59), some (some 60), some (some 61), none, none, none, some (some 62), some (some 63), some (some 64), some (some 65), none, some (some 66), some (some 67), some (some 68), some (some 69), some (some 70), some (some 71), some (some 72), some (some 73), none, none, none, some (some 74), some (some 75), some (some 76), none, none, none, none]),
  .inr (0, 16),
  .inr (0, 16),
  .inr (0, 2048),
  .inr (0, 16384),
  .inr (1, 2048),
  .inr (0, 56),
  .inr (0, 56),
  .inr (0, 56),
  .inr (0, 20),
  .inr (0, 20),
  .inr (0, 20),
  .inr (0, 20),
  .inr (0, 224000),
  .inr (2, 4000),
  .inr (0, 4000),
  .inr (0, 4000),
  .inr (0, 4000),
  .inr (0, 80000),
  .inr (1, 4000),
  .inr (1, 4000),
  .inr (0, 200),
  .inr (0, 200),
  .inr (0, 200)]
def sh (a : Nat) : Sh := shl.getD a (.inr (0, 0))
def kdv (c : (Nat → Int32) × (Nat → Int64)) (k : Nat) (q : Kd) : Value := match q with
  | none => .int (c.1 k)
  | some none => .long (c.2 k)
  | some (some r) => .ref r
def cel (σ : Sg) (a : Nat) : AC := match sh a with
  | .inl x => .inr (x.1, x.2.mapIdx (fun k q => kdv (σ a) k q))
  | .inr x => if x.1 = 2 then .inl (2, x.2, .inr (.inl (σ a).2)) else .inl (x.1, x.2, .inl (σ a).1)
def St (n : Nat) (σ : Sg) (h : List AC) : Prop := h.length = n ∧ ∀ a, a < n → h[a]? = some (cel σ a)
def wI (σ : Sg) (a k : Nat) (x : Int32) : Sg := va_up σ a (upd (σ a).1 k x, (σ a).2)
def wL (σ : Sg) (a k : Nat) (x : Int64) : Sg := va_up σ a ((σ a).1, vp_updL (σ a).2 k x)
def wA (σ : Sg) (a : Nat) (f : Nat → Int32) : Sg := va_up σ a (f, (σ a).2)
theorem cel_up {σ : Sg} {a a' : Nat} {c : (Nat → Int32) × (Nat → Int64)} (h : a' ≠ a) : cel (va_up σ a c) a' = cel σ a' := by
  have e : va_up σ a c a' = σ a' := by simp [va_up, h]
  unfold cel
  rw [e]
theorem St.up {n : Nat} {σ : Sg} {h : List AC} {a : Nat} {c : (Nat → Int32) × (Nat → Int64)} {x : AC} (hs : St n σ h) (ha : a < n) (hx : cel (va_up σ a c) a = x) : St n (va_up σ a c) (h.set a x) := by
  refine ⟨by rw [List.length_set]; exact hs.1, fun q hq => ?_⟩
  by_cases e : q = a
  · subst e
    rw [List.getElem?_set_self (by rw [hs.1]; exact hq), hx]
  · rw [List.getElem?_set_ne (Ne.symm e), hs.2 q hq, cel_up e]
theorem cel_obj {σ : Sg} {a ci : Nat} {ks : List Kd} (e : sh a = .inl (ci, ks)) : cel σ a = .inr (ci, ks.mapIdx (fun k q => kdv (σ a) k q)) := by unfold cel; rw [e]
theorem cel_ai {σ : Sg} {a t n : Nat} (e : sh a = .inr (t, n)) (ht : t ≠ 2) : cel σ a = .inl (t, n, .inl (σ a).1) := by unfold cel; rw [e]; simp [ht]
theorem cel_al {σ : Sg} {a n : Nat} (e : sh a = .inr (2, n)) : cel σ a = .inl (2, n, .inr (.inl (σ a).2)) := by unfold cel; rw [e]; rfl
theorem va_up_at {α : Type} (f : Nat → α) (k : Nat) (v : α) : va_up f k v k = v := by simp [va_up]
def Sw (n : Nat) (M : MI) (X : CT) (Z : State → Prop) (pc : Nat) (L : List (Option Value)) (st : List Value) (σ : Sg) : Prop := ∀ h, St n σ h → Ew M X Z pc L st h 0 0
def Sm (n : Nat) (M : MI) (args : List Value) (σ : Sg) (Q : Option Value → Sg → Prop) : Prop := ∀ h, St n σ h → Em M args h (fun r h' => ∃ σ', Q r σ' ∧ St n σ' h')
def ZS (n : Nat) (M : MI) (Q : Option Value → Sg → Prop) (X : CT) : State → Prop := Zm M n (fun r h' => ∃ σ', Q r σ' ∧ St n σ' h') X
def qi (P : Int32 → Sg → Prop) : Option Value → Sg → Prop := fun r σ => ∃ v, r = some (.int v) ∧ P v σ
def ql (P : Int64 → Sg → Prop) : Option Value → Sg → Prop := fun r σ => ∃ v, r = some (.long v) ∧ P v σ
def qv (P : Sg → Prop) : Option Value → Sg → Prop := fun r σ => r = none ∧ P σ
theorem Sm.of {n : Nat} {M : MI} {np : Nat} {args : List Value} {σ : Sg} {Q : Option Value → Sg → Prop} (ho : MkOk M np) {L : List (Option Value)} (hn : (en args).length ≤ mL M) (hL : en args ++ List.replicate (mL M - (en args).length) none = L) (k : ∀ X : CT, Cx M X → Sw n M X (ZS n M Q X) 0 L [] σ) : Sm n M args σ Q := by
  intro h hs
  refine Em.of ho hn hL (fun X hX => ?_)
  rw [hs.1]
  exact k X hX h hs
theorem Sm.imp {n : Nat} {M : MI} {args : List Value} {σ : Sg} {Q Q' : Option Value → Sg → Prop} (h : Sm n M args σ Q) (hq : ∀ r σ', Q r σ' → Q' r σ') : Sm n M args σ Q' := fun h0 hs => (h h0 hs).imp (fun r h' ⟨σ', q, s⟩ => ⟨σ', hq r σ' q, s⟩)
theorem Sm.impI {n : Nat} {M : MI} {args : List Value} {σ : Sg} {Q Q' : Int32 → Sg → Prop} (h : Sm n M args σ (qi Q)) (hq : ∀ r σ', Q r σ' → Q' r σ') : Sm n M args σ (qi Q') := h.imp (fun _ σ' ⟨v, e, q⟩ => ⟨v, e, hq v σ' q⟩)
theorem Sm.impV {n : Nat} {M : MI} {args : List Value} {σ : Sg} {Q Q' : Sg → Prop} (h : Sm n M args σ (qv Q)) (hq : ∀ σ', Q σ' → Q' σ') : Sm n M args σ (qv Q') := h.imp (fun _ σ' ⟨e, q⟩ => ⟨e, hq σ' q⟩)
/-! numbers -/
theorem nx_and (a b : Nat) : nI a &&& nI b = nI (a &&& b) := by
  apply Int32.toBitVec_inj.mp
  show (BitVec.ofNat 32 a &&& BitVec.ofNat 32 b) = BitVec.ofNat 32 (a &&& b)
  rw [BitVec.ofNat_and]
theorem nx_or (a b : Nat) : nI a ||| nI b = nI (a ||| b) := by
  apply Int32.toBitVec_inj.mp
  show (BitVec.ofNat 32 a ||| BitVec.ofNat 32 b) = BitVec.ofNat 32 (a ||| b)
  rw [BitVec.ofNat_or]
theorem nx_sl : ∀ n, n < 32 → ((nI n &&& 31).toBitVec.smod 32).toNat = n := by decide
theorem nx_su : ∀ n, n < 32 → (((nI n).toUInt32 &&& Int32.toUInt32 31).toBitVec % 32).toNat = n := by decide
theorem nx_shl {a k : Nat} (hk : k < 32) (h : a * 2 ^ k < 2 ^ 32) : nI a <<< (nI k &&& 31) = nI (a * 2 ^ k) := pk_shlN _ k (nx_sl k hk) h
theorem nx_shr {a k : Nat} (hk : k < 32) (h : a < 2 ^ 31) : nI a >>> (nI k &&& 31) = nI (a / 2 ^ k) := pk_shrN h _ k (nx_sl k hk)
theorem nx_ushr {a k : Nat} (hk : k < 32) (h : a < 2 ^ 32) : ((nI a).toUInt32 >>> ((nI k).toUInt32 &&& Int32.toUInt32 31)).toInt32 = nI (a / 2 ^ k) := pk_ushrN h _ k (nx_su k hk)
theorem nx_ne {a b : Nat} (ha : a < 2 ^ 31) (hb : b < 2 ^ 31) : (nI a = nI b) = (a = b) := propext (nI_eq ha hb)
theorem nx_lt {a b : Nat} (ha : a < 2 ^ 31) (hb : b < 2 ^ 31) : (nI a < nI b) = (a < b) := propext (nI_ltI ha hb)
theorem nx_le {a b : Nat} (ha : a < 2 ^ 31) (hb : b < 2 ^ 31) : (nI a ≤ nI b) = (a ≤ b) := propext (nI_leI ha hb)
theorem nx_lit (n : Nat) : (OfNat.ofNat n : Int32) = nI n := rfl
section SL
variable {n : Nat} {M : MI} {X : CT} {Z : State → Prop} {pc : Nat} {L : List (Option Value)} {st : List Value} {σ : Sg}
theorem s_iconst {i : Int} {v : Int32} (hX : Cx M X) (d : decode (mB M) pc = .ok (.iconst i, 1)) (hv : Int32.ofInt i = v) (k : Sw n M X Z (pc + 1) L (.int v :: st) σ) : Sw n M X Z pc L (st) σ := fun h hs => e_iconst hX d hv (k h hs)
theorem s_bipush {i : Int} {v : Int32} (hX : Cx M X) (d : decode (mB M) pc = .ok (.bipush i, 2)) (hv : (Int8.ofInt i).toInt32 = v) (k : Sw n M X Z (pc + 2) L (.int v :: st) σ) : Sw n M X Z pc L (st) σ := fun h hs => e_bipush hX d hv (k h hs)
theorem s_sipush {i : Int} {v : Int32} (hX : Cx M X) (d : decode (mB M) pc = .ok (.sipush i, 3)) (hv : (Int16.ofInt i).toInt32 = v) (k : Sw n M X Z (pc + 3) L (.int v :: st) σ) : Sw n M X Z pc L (st) σ := fun h hs => e_sipush hX d hv (k h hs)
theorem s_lconst {i : Fin 2} {v : Int64} (hX : Cx M X) (d : decode (mB M) pc = .ok (.lconst i, 1)) (hv : Int64.ofNat (i : Nat) = v) (k : Sw n M X Z (pc + 1) L (.long v :: st) σ) : Sw n M X Z pc L (st) σ := fun h hs => e_lconst hX d hv (k h hs)
theorem s_ldc {idx : Nat} {v : Int32} (hX : Cx M X) (d : decode (mB M) pc = .ok (.ldc idx, 2)) (hc : Cond.constant (mY M).cls idx v ∈ tb) (k : Sw n M X Z (pc + 2) L (.int v :: st) σ) : Sw n M X Z pc L (st) σ := fun h hs => e_ldc hX d hc (k h hs)
theorem s_ldc2 {idx : Nat} {v : Int64} (hX : Cx M X) (d : decode (mB M) pc = .ok (.ldc2_w idx, 3)) (hc : Cond.constantLong (mY M).cls idx v ∈ tb) (k : Sw n M X Z (pc + 3) L (.long v :: st) σ) : Sw n M X Z pc L (st) σ := fun h hs => e_ldc2 hX d hc (k h hs)
theorem s_iload_n {k0 : Fin 4} {x : Int32} (hX : Cx M X) (d : decode (mB M) pc = .ok (.iload_n k0, 1)) (hv : L[(k0 : Nat)]? = some (some (.int x))) (k : Sw n M X Z (pc + 1) L (.int x :: st) σ) : Sw n M X Z pc L (st) σ := fun h hs => e_iload_n hX d hv (k h hs)
theorem s_iload {i : Nat} {x : Int32} (hX : Cx M X) (d : decode (mB M) pc = .ok (.iload i, 2)) (hv : L[i]? = some (some (.int x))) (k : Sw n M X Z (pc + 2) L (.int x :: st) σ) : Sw n M X Z pc L (st) σ := fun h hs => e_iload hX d hv (k h hs)
theorem s_lload_n {k0 : Fin 4} {x : Int64} (hX : Cx M X) (d : decode (mB M) pc = .ok (.lload_n k0, 1)) (hv : L[(k0 : Nat)]? = some (some (.long x))) (k : Sw n M X Z (pc + 1) L (.long x :: st) σ) : Sw n M X Z pc L (st) σ := fun h hs => e_lload_n hX d hv (k h hs)
theorem s_lload {i : Nat} {x : Int64} (hX : Cx M X) (d : decode (mB M) pc = .ok (.lload i, 2)) (hv : L[i]? = some (some (.long x))) (k : Sw n M X Z (pc + 2) L (.long x :: st) σ) : Sw n M X Z pc L (st) σ := fun h hs => e_lload hX d hv (k h hs)
theorem s_aload_n {k0 : Fin 4} {x : Nat} (hX : Cx M X) (d : decode (mB M) pc = .ok (.aload_n k0, 1)) (hv : L[(k0 : Nat)]? = some (some (.ref x))) (k : Sw n M X Z (pc + 1) L (.ref x :: st) σ) : Sw n M X Z pc L (st) σ := fun h hs => e_aload_n hX d hv (k h hs)
theorem s_istore_n {k0 : Fin 4} {x : Int32} {L2 : List (Option Value)} (hX : Cx M X) (d : decode (mB M) pc = .ok (.istore_n k0, 1)) (hi : (k0 : Nat) < L.length) (hn : nl (L.getD ((k0 : Nat) - 1) none) = true) (hL : L.set (k0 : Nat) (some (.int x)) = L2) (k : Sw n M X Z (pc + 1) L2 (st) σ) : Sw n M X Z pc L (.int x :: st) σ := fun h hs => e_istore_n hX d hi hn hL (k h hs)
theorem s_istore {i : Nat} {x : Int32} {L2 : List (Option Value)} (hX : Cx M X) (d : decode (mB M) pc = .ok (.istore i, 2)) (hi : i < L.length) (hn : nl (L.getD (i - 1) none) = true) (hL : L.set i (some (.int x)) = L2) (k : Sw n M X Z (pc + 2) L2 (st) σ) : Sw n M X Z pc L (.int x :: st) σ := fun h hs => e_istore hX d hi hn hL (k h hs)
theorem s_astore_n {k0 : Fin 4} {x : Nat} {L2 : List (Option Value)} (hX : Cx M X) (d : decode (mB M) pc = .ok (.astore_n k0, 1)) (hi : (k0 : Nat) < L.length) (hn : nl (L.getD ((k0 : Nat) - 1) none) = true) (hL : L.set (k0 : Nat) (some (.ref x)) = L2) (k : Sw n M X Z (pc + 1) L2 (st) σ) : Sw n M X Z pc L (.ref x :: st) σ := fun h hs => e_astore_n hX d hi hn hL (k h hs)
theorem s_lstore_n {k0 : Fin 4} {x : Int64} {L2 : List (Option Value)} (hX : Cx M X) (d : decode (mB M) pc = .ok (.lstore_n k0, 1)) (hi : (k0 : Nat) + 1 < L.length) (hn : nl (L.getD ((k0 : Nat) - 1) none) = true) (hL : (L.set (k0 : Nat) (some (.long x))).set ((k0 : Nat) + 1) none = L2) (k : Sw n M X Z (pc + 1) L2 (st) σ) : Sw n M X Z pc L (.long x :: st) σ := fun h hs => e_lstore_n hX d hi hn hL (k h hs)
theorem s_lstore {i : Nat} {x : Int64} {L2 : List (Option Value)} (hX : Cx M X) (d : decode (mB M) pc = .ok (.lstore i, 2)) (hi : i + 1 < L.length) (hn : nl (L.getD (i - 1) none) = true) (hL : (L.set i (some (.long x))).set (i + 1) none = L2) (k : Sw n M X Z (pc + 2) L2 (st) σ) : Sw n M X Z pc L (.long x :: st) σ := fun h hs => e_lstore hX d hi hn hL (k h hs)
theorem s_iinc {i : Nat} {z : Int} {x v : Int32} {L2 : List (Option Value)} (hX : Cx M X) (d : decode (mB M) pc = .ok (.iinc i z, 3)) (hv : L[i]? = some (some (.int x))) (hv2 : x + Int32.ofInt z = v) (hn : nl (L.getD (i - 1) none) = true) (hL : L.set i (some (.int v)) = L2) (k : Sw n M X Z (pc + 3) L2 st σ) : Sw n M X Z pc L st σ := fun h hs => e_iinc hX d hv hv2 hn hL (k h hs)
theorem s_iadd {x y : Int32} (hX : Cx M X) (d : decode (mB M) pc = .ok (.iadd, 1)) (k : Sw n M X Z (pc + 1) L (.int (x + y) :: st) σ) : Sw n M X Z pc L (.int y :: .int x :: st) σ := fun h hs => e_iadd hX d (k h hs)
theorem s_isub {x y : Int32} (hX : Cx M X) (d : decode (mB M) pc = .ok (.isub, 1)) (k : Sw n M X Z (pc + 1) L (.int (x - y) :: st) σ) : Sw n M X Z pc L (.int y :: .int x :: st) σ := fun h hs => e_isub hX d (k h hs)
theorem s_imul {x y : Int32} (hX : Cx M X) (d : decode (mB M) pc = .ok (.imul, 1)) (k : Sw n M X Z (pc + 1) L (.int (x * y) :: st) σ) : Sw n M X Z pc L (.int y :: .int x :: st) σ := fun h hs => e_imul hX d (k h hs)
theorem s_iand {x y : Int32} (hX : Cx M X) (d : decode (mB M) pc = .ok (.iand, 1)) (k : Sw n M X Z (pc + 1) L (.int (x &&& y) :: st) σ) : Sw n M X Z pc L (.int y :: .int x :: st) σ := fun h hs => e_iand hX d (k h hs)
theorem s_ior {x y : Int32} (hX : Cx M X) (d : decode (mB M) pc = .ok (.ior, 1)) (k : Sw n M X Z (pc + 1) L (.int (x ||| y) :: st) σ) : Sw n M X Z pc L (.int y :: .int x :: st) σ := fun h hs => e_ior hX d (k h hs)
theorem s_ixor {x y : Int32} (hX : Cx M X) (d : decode (mB M) pc = .ok (.ixor, 1)) (k : Sw n M X Z (pc + 1) L (.int (x ^^^ y) :: st) σ) : Sw n M X Z pc L (.int y :: .int x :: st) σ := fun h hs => e_ixor hX d (k h hs)
theorem s_ishl {x y : Int32} (hX : Cx M X) (d : decode (mB M) pc = .ok (.ishl, 1)) (k : Sw n M X Z (pc + 1) L (.int (x <<< (y &&& 31)) :: st) σ) : Sw n M X Z pc L (.int y :: .int x :: st) σ := fun h hs => e_ishl hX d (k h hs)
theorem s_ishr {x y : Int32} (hX : Cx M X) (d : decode (mB M) pc = .ok (.ishr, 1)) (k : Sw n M X Z (pc + 1) L (.int (x >>> (y &&& 31)) :: st) σ) : Sw n M X Z pc L (.int y :: .int x :: st) σ := fun h hs => e_ishr hX d (k h hs)
theorem s_iushr {x y : Int32} (hX : Cx M X) (d : decode (mB M) pc = .ok (.iushr, 1)) (k : Sw n M X Z (pc + 1) L (.int ((x.toUInt32 >>> (y.toUInt32 &&& Int32.toUInt32 31)).toInt32) :: st) σ) : Sw n M X Z pc L (.int y :: .int x :: st) σ := fun h hs => e_iushr hX d (k h hs)
theorem s_idiv {x y : Int32} (hX : Cx M X) (d : decode (mB M) pc = .ok (.idiv, 1)) (hne : ¬ y = 0) (k : Sw n M X Z (pc + 1) L (.int (x / y) :: st) σ) : Sw n M X Z pc L (.int y :: .int x :: st) σ := fun h hs => e_idiv hX d hne (k h hs)
theorem s_irem {x y : Int32} (hX : Cx M X) (d : decode (mB M) pc = .ok (.irem, 1)) (hne : ¬ y = 0) (k : Sw n M X Z (pc + 1) L (.int (x - x / y * y) :: st) σ) : Sw n M X Z pc L (.int y :: .int x :: st) σ := fun h hs => e_irem hX d hne (k h hs)
theorem s_ineg {x : Int32} (hX : Cx M X) (d : decode (mB M) pc = .ok (.ineg, 1)) (k : Sw n M X Z (pc + 1) L (.int (-x) :: st) σ) : Sw n M X Z pc L (.int x :: st) σ := fun h hs => e_ineg hX d (k h hs)
theorem s_ladd {x y : Int64} (hX : Cx M X) (d : decode (mB M) pc = .ok (.ladd, 1)) (k : Sw n M X Z (pc + 1) L (.long (x + y) :: st) σ) : Sw n M X Z pc L (.long y :: .long x :: st) σ := fun h hs => e_ladd hX d (k h hs)
theorem s_lmul {x y : Int64} (hX : Cx M X) (d : decode (mB M) pc = .ok (.lmul, 1)) (k : Sw n M X Z (pc + 1) L (.long (x * y) :: st) σ) : Sw n M X Z pc L (.long y :: .long x :: st) σ := fun h hs => e_lmul hX d (k h hs)
theorem s_land {x y : Int64} (hX : Cx M X) (d : decode (mB M) pc = .ok (.land, 1)) (k : Sw n M X Z (pc + 1) L (.long (x &&& y) :: st) σ) : Sw n M X Z pc L (.long y :: .long x :: st) σ := fun h hs => e_land hX d (k h hs)
theorem s_lor {x y : Int64} (hX : Cx M X) (d : decode (mB M) pc = .ok (.lor, 1)) (k : Sw n M X Z (pc + 1) L (.long (x ||| y) :: st) σ) : Sw n M X Z pc L (.long y :: .long x :: st) σ := fun h hs => e_lor hX d (k h hs)
theorem s_lxor {x y : Int64} (hX : Cx M X) (d : decode (mB M) pc = .ok (.lxor, 1)) (k : Sw n M X Z (pc + 1) L (.long (x ^^^ y) :: st) σ) : Sw n M X Z pc L (.long y :: .long x :: st) σ := fun h hs => e_lxor hX d (k h hs)
theorem s_lushr {x : Int64} {y : Int32} (hX : Cx M X) (d : decode (mB M) pc = .ok (.lushr, 1)) (k : Sw n M X Z (pc + 1) L (.long ((x.toUInt64 >>> (y.toInt64.toUInt64 &&& Int64.toUInt64 63)).toInt64) :: st) σ) : Sw n M X Z pc L (.int y :: .long x :: st) σ := fun h hs => e_lushr hX d (k h hs)
theorem s_lshl {x : Int64} {y : Int32} (hX : Cx M X) (d : decode (mB M) pc = .ok (.lshl, 1)) (k : Sw n M X Z (pc + 1) L (.long (x <<< (y.toInt64 &&& 63)) :: st) σ) : Sw n M X Z pc L (.int y :: .long x :: st) σ := fun h hs => e_lshl hX d (k h hs)
theorem s_i2l {x : Int32} (hX : Cx M X) (d : decode (mB M) pc = .ok (.i2l, 1)) (k : Sw n M X Z (pc + 1) L (.long x.toInt64 :: st) σ) : Sw n M X Z pc L (.int x :: st) σ := fun h hs => e_i2l hX d (k h hs)
theorem s_l2i {x : Int64} (hX : Cx M X) (d : decode (mB M) pc = .ok (.l2i, 1)) (k : Sw n M X Z (pc + 1) L (.int x.toInt32 :: st) σ) : Sw n M X Z pc L (.long x :: st) σ := fun h hs => e_l2i hX d (k h hs)
theorem s_lcmp {x y : Int64} (hX : Cx M X) (d : decode (mB M) pc = .ok (.lcmp, 1)) (k : Sw n M X Z (pc + 1) L (.int (lg_cmp x y) :: st) σ) : Sw n M X Z pc L (.long y :: .long x :: st) σ := fun h hs => e_lcmp hX d (k h hs)
theorem s_dup {v : Value} (hX : Cx M X) (d : decode (mB M) pc = .ok (.dup, 1)) (hv : v.category = 1) (k : Sw n M X Z (pc + 1) L (v :: v :: st) σ) : Sw n M X Z pc L (v :: st) σ := fun h hs => e_dup hX d hv (k h hs)
theorem s_pop {v : Value} (hX : Cx M X) (d : decode (mB M) pc = .ok (.pop, 1)) (hv : v.category = 1) (k : Sw n M X Z (pc + 1) L (st) σ) : Sw n M X Z pc L (v :: st) σ := fun h hs => e_pop hX d hv (k h hs)
theorem s_dup2 {v w : Value} (hX : Cx M X) (d : decode (mB M) pc = .ok (.dup2, 1)) (hv : v.category = 1) (hw : w.category = 1) (k : Sw n M X Z (pc + 1) L (v :: w :: v :: w :: st) σ) : Sw n M X Z pc L (v :: w :: st) σ := fun h hs => e_dup2 hX d hv hw (k h hs)
theorem s_if_eq {x : Int32} {off : Int} {tgt : Nat} (hX : Cx M X) (d : decode (mB M) pc = .ok (.ifCond .eq off, 3)) (ht : (pc : Int) + off = (tgt : Int)) (kt : x = 0 → Sw n M X Z tgt L st σ) (kf : ¬ (x = 0) → Sw n M X Z (pc + 3) L st σ) : Sw n M X Z pc L (.int x :: st) σ := fun h hs => e_if_eq hX d ht (fun q => kt q h hs) (fun q => kf q h hs)
theorem s_icmp_eq {x y : Int32} {off : Int} {tgt : Nat} (hX : Cx M X) (d : decode (mB M) pc = .ok (.if_icmp .eq off, 3)) (ht : (pc : Int) + off = (tgt : Int)) (kt : x = y → Sw n M X Z tgt L st σ) (kf : ¬ (x = y) → Sw n M X Z (pc + 3) L st σ) : Sw n M X Z pc L (.int y :: .int x :: st) σ := fun h hs => e_icmp_eq hX d ht (fun q => kt q h hs) (fun q => kf q h hs)
theorem s_if_ne {x : Int32} {off : Int} {tgt : Nat} (hX : Cx M X) (d : decode (mB M) pc = .ok (.ifCond .ne off, 3)) (ht : (pc : Int) + off = (tgt : Int)) (kt : ¬ x = 0 → Sw n M X Z tgt L st σ) (kf : ¬ (¬ x = 0) → Sw n M X Z (pc + 3) L st σ) : Sw n M X Z pc L (.int x :: st) σ := fun h hs => e_if_ne hX d ht (fun q => kt q h hs) (fun q => kf q h hs)
theorem s_icmp_ne {x y : Int32} {off : Int} {tgt : Nat} (hX : Cx M X) (d : decode (mB M) pc = .ok (.if_icmp .ne off, 3)) (ht : (pc : Int) + off = (tgt : Int)) (kt : ¬ x = y → Sw n M X Z tgt L st σ) (kf : ¬ (¬ x = y) → Sw n M X Z (pc + 3) L st σ) : Sw n M X Z pc L (.int y :: .int x :: st) σ := fun h hs => e_icmp_ne hX d ht (fun q => kt q h hs) (fun q => kf q h hs)
theorem s_if_lt {x : Int32} {off : Int} {tgt : Nat} (hX : Cx M X) (d : decode (mB M) pc = .ok (.ifCond .lt off, 3)) (ht : (pc : Int) + off = (tgt : Int)) (kt : x < 0 → Sw n M X Z tgt L st σ) (kf : ¬ (x < 0) → Sw n M X Z (pc + 3) L st σ) : Sw n M X Z pc L (.int x :: st) σ := fun h hs => e_if_lt hX d ht (fun q => kt q h hs) (fun q => kf q h hs)
theorem s_icmp_lt {x y : Int32} {off : Int} {tgt : Nat} (hX : Cx M X) (d : decode (mB M) pc = .ok (.if_icmp .lt off, 3)) (ht : (pc : Int) + off = (tgt : Int)) (kt : x < y → Sw n M X Z tgt L st σ) (kf : ¬ (x < y) → Sw n M X Z (pc + 3) L st σ) : Sw n M X Z pc L (.int y :: .int x :: st) σ := fun h hs => e_icmp_lt hX d ht (fun q => kt q h hs) (fun q => kf q h hs)
theorem s_if_ge {x : Int32} {off : Int} {tgt : Nat} (hX : Cx M X) (d : decode (mB M) pc = .ok (.ifCond .ge off, 3)) (ht : (pc : Int) + off = (tgt : Int)) (kt : 0 ≤ x → Sw n M X Z tgt L st σ) (kf : ¬ (0 ≤ x) → Sw n M X Z (pc + 3) L st σ) : Sw n M X Z pc L (.int x :: st) σ := fun h hs => e_if_ge hX d ht (fun q => kt q h hs) (fun q => kf q h hs)
theorem s_icmp_ge {x y : Int32} {off : Int} {tgt : Nat} (hX : Cx M X) (d : decode (mB M) pc = .ok (.if_icmp .ge off, 3)) (ht : (pc : Int) + off = (tgt : Int)) (kt : y ≤ x → Sw n M X Z tgt L st σ) (kf : ¬ (y ≤ x) → Sw n M X Z (pc + 3) L st σ) : Sw n M X Z pc L (.int y :: .int x :: st) σ := fun h hs => e_icmp_ge hX d ht (fun q => kt q h hs) (fun q => kf q h hs)
theorem s_if_gt {x : Int32} {off : Int} {tgt : Nat} (hX : Cx M X) (d : decode (mB M) pc = .ok (.ifCond .gt off, 3)) (ht : (pc : Int) + off = (tgt : Int)) (kt : 0 < x → Sw n M X Z tgt L st σ) (kf : ¬ (0 < x) → Sw n M X Z (pc + 3) L st σ) : Sw n M X Z pc L (.int x :: st) σ := fun h hs => e_if_gt hX d ht (fun q => kt q h hs) (fun q => kf q h hs)
theorem s_icmp_gt {x y : Int32} {off : Int} {tgt : Nat} (hX : Cx M X) (d : decode (mB M) pc = .ok (.if_icmp .gt off, 3)) (ht : (pc : Int) + off = (tgt : Int)) (kt : y < x → Sw n M X Z tgt L st σ) (kf : ¬ (y < x) → Sw n M X Z (pc + 3) L st σ) : Sw n M X Z pc L (.int y :: .int x :: st) σ := fun h hs => e_icmp_gt hX d ht (fun q => kt q h hs) (fun q => kf q h hs)
theorem s_if_le {x : Int32} {off : Int} {tgt : Nat} (hX : Cx M X) (d : decode (mB M) pc = .ok (.ifCond .le off, 3)) (ht : (pc : Int) + off = (tgt : Int)) (kt : x ≤ 0 → Sw n M X Z tgt L st σ) (kf : ¬ (x ≤ 0) → Sw n M X Z (pc + 3) L st σ) : Sw n M X Z pc L (.int x :: st) σ := fun h hs => e_if_le hX d ht (fun q => kt q h hs) (fun q => kf q h hs)
theorem s_icmp_le {x y : Int32} {off : Int} {tgt : Nat} (hX : Cx M X) (d : decode (mB M) pc = .ok (.if_icmp .le off, 3)) (ht : (pc : Int) + off = (tgt : Int)) (kt : x ≤ y → Sw n M X Z tgt L st σ) (kf : ¬ (x ≤ y) → Sw n M X Z (pc + 3) L st σ) : Sw n M X Z pc L (.int y :: .int x :: st) σ := fun h hs => e_icmp_le hX d ht (fun q => kt q h hs) (fun q => kf q h hs)
theorem s_goto {off : Int} {tgt : Nat} (hX : Cx M X) (d : decode (mB M) pc = .ok (.goto off, 3)) (ht : (pc : Int) + off = (tgt : Int)) (k : Sw n M X Z tgt L st σ) : Sw n M X Z pc L st σ := fun h hs => e_goto hX d ht (k h hs)
theorem s_tableOut {dflt lo hi : Int} {offs : Array Int} {len : Nat} {x : Int32} {tgt : Nat} (hX : Cx M X) (d : decode (mB M) pc = .ok (.tableswitch dflt lo hi offs, len)) (h0 : x.toInt < lo ∨ hi < x.toInt) (ht : (pc : Int) + dflt = (tgt : Int)) (k : Sw n M X Z tgt L st σ) : Sw n M X Z pc L (.int x :: st) σ := fun h hs => e_tableOut hX d h0 ht (k h hs)
theorem s_tableIn {dflt lo hi : Int} {offs : Array Int} {len : Nat} {x : Int32} {off : Int} {tgt : Nat} (hX : Cx M X) (d : decode (mB M) pc = .ok (.tableswitch dflt lo hi offs, len)) (h1 : ¬ x.toInt < lo) (h2 : ¬ hi < x.toInt) (ho : offs[(x.toInt - lo).toNat]? = some off) (ht : (pc : Int) + off = (tgt : Int)) (k : Sw n M X Z tgt L st σ) : Sw n M X Z pc L (.int x :: st) σ := fun h hs => e_tableIn hX d h1 h2 ho ht (k h hs)
theorem s_lookup {dflt : Int} {ps : Array (Int × Int)} {len : Nat} {x : Int32} {off : Int} {tgt : Nat} (hX : Cx M X) (d : decode (mB M) pc = .ok (.lookupswitch dflt ps, len)) (hp : (ps.toList.zip (ps.toList.drop 1)).all (fun (a, next) => a.1 < next.1) = true) (ho : Op.lookupswitch.offset ps.toList dflt x.toInt = off) (ht : (pc : Int) + off = (tgt : Int)) (k : Sw n M X Z tgt L st σ) : Sw n M X Z pc L (.int x :: st) σ := fun h hs => e_lookup hX d hp ho ht (k h hs)
theorem s_less {L2 : List (Option Value)} (hn : L2.length = L.length) (hl0 : ∀ (i : Nat) (v : Value), L2[i]? = some (some v) → L[i]? = some (some v)) (k : Sw n M X Z pc L2 st σ) : Sw n M X Z pc L st σ := fun h hs => e_less hn hl0 (k h hs)
theorem s_eq {σ2 : Sg} (e : σ = σ2) (k : Sw n M X Z pc L st σ2) : Sw n M X Z pc L st σ := e ▸ k
theorem s_top {x y : Int32} (e : x = y) (k : Sw n M X Z pc L (.int y :: st) σ) : Sw n M X Z pc L (.int x :: st) σ := e ▸ k
theorem s_topl {x y : Int64} (e : x = y) (k : Sw n M X Z pc L (.long y :: st) σ) : Sw n M X Z pc L (.long x :: st) σ := e ▸ k
theorem s_get {idx ci kk o0 : Nat} {ty : FieldType} {fin : Bool} {ks : List Kd} {q : Kd} (hX : Cx M X) (d : decode (mB M) pc = .ok (.getfield idx, 3)) (lk : Fl (mY M).cls idx ci kk ty fin) (ho : sh o0 = .inl (ci, ks)) (hq : ks[kk]? = some q) (ha : o0 < n) (k : Sw n M X Z (pc + 3) L (kdv (σ o0) kk q :: st) σ) : Sw n M X Z pc L (.ref o0 :: st) σ := fun h hs => e_get hX d lk ((hs.2 o0 ha).trans (by rw [cel_obj ho])) (by simp [List.getElem?_mapIdx, hq]) (k h hs)
theorem s_getI {idx ci kk o0 : Nat} {ty : FieldType} {fin : Bool} {ks : List Kd} {x : Int32} (hX : Cx M X) (d : decode (mB M) pc = .ok (.getfield idx, 3)) (lk : Fl (mY M).cls idx ci kk ty fin) (ho : sh o0 = .inl (ci, ks)) (hq : ks[kk]? = some none) (ha : o0 < n) (hv : (σ o0).1 kk = x) (k : Sw n M X Z (pc + 3) L (.int x :: st) σ) : Sw n M X Z pc L (.ref o0 :: st) σ := s_get hX d lk ho hq ha (by subst hv; exact k)
theorem s_getL {idx ci kk o0 : Nat} {ty : FieldType} {fin : Bool} {ks : List Kd} {x : Int64} (hX : Cx M X) (d : decode (mB M) pc = .ok (.getfield idx, 3)) (lk : Fl (mY M).cls idx ci kk ty fin) (ho : sh o0 = .inl (ci, ks)) (hq : ks[kk]? = some (some none)) (ha : o0 < n) (hv : (σ o0).2 kk = x) (k : Sw n M X Z (pc + 3) L (.long x :: st) σ) : Sw n M X Z pc L (.ref o0 :: st) σ := s_get hX d lk ho hq ha (by subst hv; exact k)
theorem s_getR {idx ci kk o0 r : Nat} {ty : FieldType} {fin : Bool} {ks : List Kd} (hX : Cx M X) (d : decode (mB M) pc = .ok (.getfield idx, 3)) (lk : Fl (mY M).cls idx ci kk ty fin) (ho : sh o0 = .inl (ci, ks)) (hq : ks[kk]? = some (some (some r))) (ha : o0 < n) (k : Sw n M X Z (pc + 3) L (.ref r :: st) σ) : Sw n M X Z pc L (.ref o0 :: st) σ := s_get hX d lk ho hq ha k
theorem mapIdx_set {σ : Sg} {o0 kk : Nat} {ks : List Kd} {c : (Nat → Int32) × (Nat → Int64)} {q : Kd} (hq : ks[kk]? = some q) (hc : ∀ k r, k ≠ kk → kdv c k r = kdv (σ o0) k r) : (ks.mapIdx (fun k q => kdv (σ o0) k q)).set kk (kdv c kk q) = ks.mapIdx (fun k q => kdv c k q) := by
  apply List.ext_getElem?
  intro i
  by_cases hi : i = kk
  · subst hi
    have hl : i < ks.length := (List.getElem?_eq_some_iff.mp hq).1
    rw [List.getElem?_set_self (by simpa using hl), List.getElem?_mapIdx, hq]
    rfl
  · rw [List.getElem?_set_ne (Ne.symm hi), List.getElem?_mapIdx, List.getElem?_mapIdx]
    cases ks[i]? with
    | none => rfl
    | some r => exact congrArg some (hc i r hi).symm
theorem s_putI {idx ci kk o0 : Nat} {ty : FieldType} {ks : List Kd} {x : Int32} (hX : Cx M X) (d : decode (mB M) pc = .ok (.putfield idx, 3)) (lk : Fl (mY M).cls idx ci kk ty false) (ho : sh o0 = .inl (ci, ks)) (hq : ks[kk]? = some none) (ha : o0 < n) (hn : narrow ty (.int x) = .int x) (hf : fits ty (.int x) = true) (k : Sw n M X Z (pc + 3) L st (wI σ o0 kk x)) : Sw n M X Z pc L (.int x :: .ref o0 :: st) σ := fun h hs => by
  have hl : kk < ks.length := (List.getElem?_eq_some_iff.mp hq).1
  refine e_put hX d lk ((hs.2 o0 ha).trans (by rw [cel_obj ho])) (by simpa using hl) hn hf (k _ (hs.up ha ?_))
  rw [cel_obj ho, va_up_at, ← mapIdx_set (σ := σ) (o0 := o0) (kk := kk) hq]
  · show _ = Sum.inr (ci, List.set _ kk _)
    congr 3
    show Value.int (upd (σ o0).1 kk x kk) = _
    rw [pk_us]
  · intro k r hk
    cases r with
    | none => show Value.int (upd (σ o0).1 kk x k) = _; rw [pk_un hk]; rfl
    | some r => cases r <;> rfl
theorem s_putL {idx ci kk o0 : Nat} {ty : FieldType} {ks : List Kd} {x : Int64} (hX : Cx M X) (d : decode (mB M) pc = .ok (.putfield idx, 3)) (lk : Fl (mY M).cls idx ci kk ty false) (ho : sh o0 = .inl (ci, ks)) (hq : ks[kk]? = some (some none)) (ha : o0 < n) (hn : narrow ty (.long x) = .long x) (hf : fits ty (.long x) = true) (k : Sw n M X Z (pc + 3) L st (wL σ o0 kk x)) : Sw n M X Z pc L (.long x :: .ref o0 :: st) σ := fun h hs => by
  have hl : kk < ks.length := (List.getElem?_eq_some_iff.mp hq).1
  refine e_put hX d lk ((hs.2 o0 ha).trans (by rw [cel_obj ho])) (by simpa using hl) hn hf (k _ (hs.up ha ?_))
  rw [cel_obj ho, va_up_at, ← mapIdx_set (σ := σ) (o0 := o0) (kk := kk) hq]
  · show _ = Sum.inr (ci, List.set _ kk _)
    congr 3
    show Value.long (vp_updL (σ o0).2 kk x kk) = _
    rw [pk_uLs]
  · intro k r hk
    cases r with
    | none => rfl
    | some r => cases r with
      | none => show Value.long (vp_updL (σ o0).2 kk x k) = _; rw [pk_uLn hk]; rfl
      | some r => rfl
theorem s_iald {a0 len i : Nat} {x : Int32} (hX : Cx M X) (d : decode (mB M) pc = .ok (.iaload, 1)) (ho : sh a0 = .inr (0, len)) (ha : a0 < n) (hi : i < len) (hlen : len < 2 ^ 31) (hv : (σ a0).1 i = x) (k : Sw n M X Z (pc + 1) L (.int x :: st) σ) : Sw n M X Z pc L (.int (nI i) :: .ref a0 :: st) σ := fun h hs => by
  subst hv
  refine e_iald hX d ((hs.2 a0 ha).trans (by rw [cel_ai ho (by decide)])) (vp_in_nI hi hlen) ?_
  rw [nI_clamp (by omega)]
  exact k h hs
theorem s_zald {a0 len i : Nat} {x : Int32} (hX : Cx M X) (d : decode (mB M) pc = .ok (.baload, 1)) (ho : sh a0 = .inr (1, len)) (ha : a0 < n) (hi : i < len) (hlen : len < 2 ^ 31) (hv : (σ a0).1 i = x) (k : Sw n M X Z (pc + 1) L (.int x :: st) σ) : Sw n M X Z pc L (.int (nI i) :: .ref a0 :: st) σ := fun h hs => by
  subst hv
  refine e_zald hX d ((hs.2 a0 ha).trans (by rw [cel_ai ho (by decide)])) (vp_in_nI hi hlen) ?_
  rw [nI_clamp (by omega)]
  exact k h hs
theorem s_lald {a0 len i : Nat} {x : Int64} (hX : Cx M X) (d : decode (mB M) pc = .ok (.laload, 1)) (ho : sh a0 = .inr (2, len)) (ha : a0 < n) (hi : i < len) (hlen : len < 2 ^ 31) (hv : (σ a0).2 i = x) (k : Sw n M X Z (pc + 1) L (.long x :: st) σ) : Sw n M X Z pc L (.int (nI i) :: .ref a0 :: st) σ := fun h hs => by
  subst hv
  refine e_lald hX d ((hs.2 a0 ha).trans (by rw [cel_al ho])) (vp_in_nI hi hlen) ?_
  rw [nI_clamp (by omega)]
  exact k h hs
theorem s_iast {a0 len i : Nat} {x : Int32} (hX : Cx M X) (d : decode (mB M) pc = .ok (.iastore, 1)) (ho : sh a0 = .inr (0, len)) (ha : a0 < n) (hi : i < len) (hlen : len < 2 ^ 31) (k : Sw n M X Z (pc + 1) L st (wI σ a0 i x)) : Sw n M X Z pc L (.int x :: .int (nI i) :: .ref a0 :: st) σ := fun h hs => by
  refine e_iast hX d ((hs.2 a0 ha).trans (by rw [cel_ai ho (by decide)])) (vp_in_nI hi hlen) ?_
  rw [nI_clamp (by omega)]
  exact k _ (hs.up ha (by rw [cel_ai ho (by decide), va_up_at]))
theorem s_zast {a0 len i : Nat} {x : Int32} (hX : Cx M X) (d : decode (mB M) pc = .ok (.bastore, 1)) (ho : sh a0 = .inr (1, len)) (ha : a0 < n) (hi : i < len) (hlen : len < 2 ^ 31) (hb : x = 0 ∨ x = 1) (k : Sw n M X Z (pc + 1) L st (wI σ a0 i x)) : Sw n M X Z pc L (.int x :: .int (nI i) :: .ref a0 :: st) σ := fun h hs => by
  refine e_zast hX d ((hs.2 a0 ha).trans (by rw [cel_ai ho (by decide)])) (vp_in_nI hi hlen) ?_
  rw [nI_clamp (by omega), show vp_nar .boolean x = x by rcases hb with rfl | rfl <;> rfl]
  exact k _ (hs.up ha (by rw [cel_ai ho (by decide), va_up_at]))
theorem s_last {a0 len i : Nat} {x : Int64} (hX : Cx M X) (d : decode (mB M) pc = .ok (.lastore, 1)) (ho : sh a0 = .inr (2, len)) (ha : a0 < n) (hi : i < len) (hlen : len < 2 ^ 31) (k : Sw n M X Z (pc + 1) L st (wL σ a0 i x)) : Sw n M X Z pc L (.long x :: .int (nI i) :: .ref a0 :: st) σ := fun h hs => by
  refine e_last hX d ((hs.2 a0 ha).trans (by rw [cel_al ho])) (vp_in_nI hi hlen) ?_
  rw [nI_clamp (by omega)]
  exact k _ (hs.up ha (by rw [cel_al ho, va_up_at]))
theorem s_alen {a0 len : Nat} (hX : Cx M X) (d : decode (mB M) pc = .ok (.arraylength, 1)) (ho : sh a0 = .inr (0, len)) (ha : a0 < n) (k : Sw n M X Z (pc + 1) L (.int (nI len) :: st) σ) : Sw n M X Z pc L (.ref a0 :: st) σ := fun h hs => e_alen (x := (len, .inl (σ a0).1)) hX d ((hs.2 a0 ha).trans (by rw [cel_ai ho (by decide)])) (by decide) rfl (k h hs)
theorem s_copyi {idx a0 a1 n0 n1 sp dp nn : Nat} (hX : Cx M X) (d : decode (mB M) pc = .ok (.invokestatic idx, 3)) (lk : Cond.methodLink (mY M).cls idx arraycopyName ∈ tb) (ho0 : sh a0 = .inr (0, n0)) (ho1 : sh a1 = .inr (0, n1)) (hb0 : a0 < n) (hb1 : a1 < n) (h4 : sp + nn ≤ n0) (h5 : dp + nn ≤ n1) (hl0 : n0 < 2 ^ 31) (hl1 : n1 < 2 ^ 31) (hfr : 1 ≤ mF M) (hlo : (st.map fun v => v.category).sum + (nativeFrameWords "java/lang/System" "arraycopy" 5 + 11) ≤ mO M) (hLl : L.length = mL M) (k : Sw n M X Z (pc + 3) L st (wA σ a1 (va_cpy (σ a0).1 (σ a1).1 sp dp nn))) : Sw n M X Z pc L (.int (nI nn) :: .int (nI dp) :: .ref a1 :: .int (nI sp) :: .ref a0 :: st) σ := fun h hs => by
  refine e_copyi hX d lk ((hs.2 a0 hb0).trans (by rw [cel_ai ho0 (by decide)])) ((hs.2 a1 hb1).trans (by rw [cel_ai ho1 (by decide)])) (nI_pos (by omega)) (nI_pos (by omega)) (nI_pos (by omega)) (by rw [nI_clamp (by omega), nI_clamp (by omega)]; exact h4) (by rw [nI_clamp (by omega), nI_clamp (by omega)]; exact h5) hfr hlo hLl ?_
  rw [nI_clamp (by omega), nI_clamp (by omega), nI_clamp (by omega)]
  exact k _ (hs.up hb1 (by rw [cel_ai ho1 (by decide), va_up_at]))
theorem s_iret {v : Int32} {P : Int32 → Sg → Prop} (hX : Cx M X) (d : decode (mB M) pc = .ok (.ireturn, 1)) (hrt : mR M = some .int) (hm : mC M = 0) (q : P v σ) : Sw n M X (ZS n M (qi P) X) pc L [.int v] σ := fun h hs => e_iret hX d hrt hm.symm (Nat.zero_le _) (by rw [hs.1, hm]; rfl) ⟨σ, ⟨v, rfl, q⟩, hs⟩
theorem s_zret {v : Int32} {P : Int32 → Sg → Prop} (hX : Cx M X) (d : decode (mB M) pc = .ok (.ireturn, 1)) (hrt : mR M = some .boolean) (hb : v = 0 ∨ v = 1) (hm : mC M = 0) (q : P v σ) : Sw n M X (ZS n M (qi P) X) pc L [.int v] σ := fun h hs => e_zret hX d hrt (by rcases hb with rfl | rfl <;> rfl) hm.symm (Nat.zero_le _) (by rw [hs.1, hm]; rfl) ⟨σ, ⟨v, rfl, q⟩, hs⟩
theorem s_lret {v : Int64} {P : Int64 → Sg → Prop} (hX : Cx M X) (d : decode (mB M) pc = .ok (.lreturn, 1)) (hrt : mR M = some .long) (hm : mC M = 0) (q : P v σ) : Sw n M X (ZS n M (ql P) X) pc L [.long v] σ := fun h hs => e_lret hX d hrt hm.symm (Nat.zero_le _) (by rw [hs.1, hm]; rfl) ⟨σ, ⟨v, rfl, q⟩, hs⟩
theorem s_vret {P : Sg → Prop} (hX : Cx M X) (d : decode (mB M) pc = .ok (.return_, 1)) (hrt : mR M = none) (hm : mC M = 0) (q : P σ) : Sw n M X (ZS n M (qv P) X) pc L [] σ := fun h hs => e_vret hX d hrt hm.symm (Nat.zero_le _) (by rw [hs.1, hm]; rfl) ⟨σ, ⟨rfl, q⟩, hs⟩
theorem s_callV {M2 : MI} {as rest : List Value} {Q2 : Option Value → Sg → Prop} {idx np ci o0 : Nat} {ks : List Kd} {C2 : String} {T2 : u_T} {N2 : Nat} (hX : Cx M X) (d : decode (mB M) pc = .ok (.invokevirtual idx, 3)) (hok : MkOk M2 np) (lk : LkV (mY M).cls idx M2) (hE : Sm n M2 (.ref o0 :: as) σ Q2) (ho : sh o0 = .inl (ci, ks)) (ha : o0 < n) (hcl : vwCl[ci]? = some (C2, T2, N2)) (hC2 : C2 = (mY M2).cls) (hn : as.length = np) (hm : mC M2 = 0 ∧ mS M2 = 0) (hfr : mF M2 + 1 ≤ mF M) (hlo : 8 + (mL M2 + 11) + mO M2 ≤ mO M) (hrest : (rest.map fun v => v.category).sum ≤ 8) (hLl : L.length = mL M) (k : ∀ r σ2, Q2 r σ2 → Sw n M X Z (pc + 3) L (r.toList ++ rest) σ2) : Sw n M X Z pc L (ps as (.ref o0 :: rest)) σ := fun h hs => e_callV hX d hok lk (hE h hs) ((hs.2 o0 ha).trans (by rw [cel_obj ho])) hcl hC2 hn hfr hlo (by omega) (by omega) hrest hLl (fun r h2 ⟨σ2, q, s2⟩ => by rw [hm.1, hm.2]; exact k r σ2 q h2 s2)
theorem s_callS {M2 : MI} {as rest : List Value} {Q2 : Option Value → Sg → Prop} {idx np : Nat} (hX : Cx M X) (d : decode (mB M) pc = .ok (.invokestatic idx, 3)) (hok : MkOk M2 np) (lk : LkS (mY M).cls idx M2) (hE : Sm n M2 as σ Q2) (hn : as.length = np) (hm : mC M2 = 0 ∧ mS M2 = 0) (hfr : mF M2 + 1 ≤ mF M) (hlo : 8 + (mL M2 + 11) + mO M2 ≤ mO M) (hrest : (rest.map fun v => v.category).sum ≤ 8) (hLl : L.length = mL M) (k : ∀ r σ2, Q2 r σ2 → Sw n M X Z (pc + 3) L (r.toList ++ rest) σ2) : Sw n M X Z pc L (ps as rest) σ := fun h hs => e_callS hX d hok lk (hE h hs) hn hfr hlo (by omega) (by omega) hrest hLl (fun r h2 ⟨σ2, q, s2⟩ => by rw [hm.1, hm.2]; exact k r σ2 q h2 s2)
theorem s_callN {as rest : List Value} {Q2 : Option Value → Sg → Prop} (hX : Cx M X) (d : decode (mB M) pc = .ok (.invokestatic 48, 3)) (hM6 : (mY M).cls = RX6) (hE : Sm n mX10_sideOf as σ Q2) (hn : as.length = 1) (hfr : 1 ≤ mF M) (hlo : 20 ≤ mO M) (hrest : (rest.map fun v => v.category).sum ≤ 8) (hLl : L.length = mL M) (k : ∀ r σ2, Q2 r σ2 → Sw n M X Z (pc + 3) L (r.toList ++ rest) σ2) : Sw n M X Z pc L (ps as rest) σ := fun h hs => e_callN hX d hM6 (hE h hs) hn hfr hlo (Nat.zero_le _) (Nat.zero_le _) hrest hLl (fun r h2 ⟨σ2, q, s2⟩ => k r σ2 q h2 s2)
theorem s_callVi {M2 : MI} {as rest : List Value} {P : Int32 → Sg → Prop} {idx np ci o0 : Nat} {ks : List Kd} {C2 : String} {T2 : u_T} {N2 : Nat} (hX : Cx M X) (d : decode (mB M) pc = .ok (.invokevirtual idx, 3)) (hok : MkOk M2 np) (lk : LkV (mY M).cls idx M2) (hE : Sm n M2 (.ref o0 :: as) σ (qi P)) (ho : sh o0 = .inl (ci, ks)) (ha : o0 < n) (hcl : vwCl[ci]? = some (C2, T2, N2)) (hC2 : C2 = (mY M2).cls) (hn : as.length = np) (hm : mC M2 = 0 ∧ mS M2 = 0) (hfr : mF M2 + 1 ≤ mF M) (hlo : 8 + (mL M2 + 11) + mO M2 ≤ mO M) (hrest : (rest.map fun v => v.category).sum ≤ 8) (hLl : L.length = mL M) (k : ∀ v σ2, P v σ2 → Sw n M X Z (pc + 3) L (.int v :: rest) σ2) : Sw n M X Z pc L (ps as (.ref o0 :: rest)) σ := s_callV hX d hok lk hE ho ha hcl hC2 hn hm hfr hlo hrest hLl (fun r σ2 ⟨v, e, q⟩ => by subst e; exact k v σ2 q)
theorem s_callSi {M2 : MI} {as rest : List Value} {P : Int32 → Sg → Prop} {idx np : Nat} (hX : Cx M X) (d : decode (mB M) pc = .ok (.invokestatic idx, 3)) (hok : MkOk M2 np) (lk : LkS (mY M).cls idx M2) (hE : Sm n M2 as σ (qi P)) (hn : as.length = np) (hm : mC M2 = 0 ∧ mS M2 = 0) (hfr : mF M2 + 1 ≤ mF M) (hlo : 8 + (mL M2 + 11) + mO M2 ≤ mO M) (hrest : (rest.map fun v => v.category).sum ≤ 8) (hLl : L.length = mL M) (k : ∀ v σ2, P v σ2 → Sw n M X Z (pc + 3) L (.int v :: rest) σ2) : Sw n M X Z pc L (ps as rest) σ := s_callS hX d hok lk hE hn hm hfr hlo hrest hLl (fun r σ2 ⟨v, e, q⟩ => by subst e; exact k v σ2 q)
theorem s_callVl {M2 : MI} {as rest : List Value} {P : Int64 → Sg → Prop} {idx np ci o0 : Nat} {ks : List Kd} {C2 : String} {T2 : u_T} {N2 : Nat} (hX : Cx M X) (d : decode (mB M) pc = .ok (.invokevirtual idx, 3)) (hok : MkOk M2 np) (lk : LkV (mY M).cls idx M2) (hE : Sm n M2 (.ref o0 :: as) σ (ql P)) (ho : sh o0 = .inl (ci, ks)) (ha : o0 < n) (hcl : vwCl[ci]? = some (C2, T2, N2)) (hC2 : C2 = (mY M2).cls) (hn : as.length = np) (hm : mC M2 = 0 ∧ mS M2 = 0) (hfr : mF M2 + 1 ≤ mF M) (hlo : 8 + (mL M2 + 11) + mO M2 ≤ mO M) (hrest : (rest.map fun v => v.category).sum ≤ 8) (hLl : L.length = mL M) (k : ∀ v σ2, P v σ2 → Sw n M X Z (pc + 3) L (.long v :: rest) σ2) : Sw n M X Z pc L (ps as (.ref o0 :: rest)) σ := s_callV hX d hok lk hE ho ha hcl hC2 hn hm hfr hlo hrest hLl (fun r σ2 ⟨v, e, q⟩ => by subst e; exact k v σ2 q)
theorem s_callSl {M2 : MI} {as rest : List Value} {P : Int64 → Sg → Prop} {idx np : Nat} (hX : Cx M X) (d : decode (mB M) pc = .ok (.invokestatic idx, 3)) (hok : MkOk M2 np) (lk : LkS (mY M).cls idx M2) (hE : Sm n M2 as σ (ql P)) (hn : as.length = np) (hm : mC M2 = 0 ∧ mS M2 = 0) (hfr : mF M2 + 1 ≤ mF M) (hlo : 8 + (mL M2 + 11) + mO M2 ≤ mO M) (hrest : (rest.map fun v => v.category).sum ≤ 8) (hLl : L.length = mL M) (k : ∀ v σ2, P v σ2 → Sw n M X Z (pc + 3) L (.long v :: rest) σ2) : Sw n M X Z pc L (ps as rest) σ := s_callS hX d hok lk hE hn hm hfr hlo hrest hLl (fun r σ2 ⟨v, e, q⟩ => by subst e; exact k v σ2 q)
theorem s_callVv {M2 : MI} {as rest : List Value} {P : Sg → Prop} {idx np ci o0 : Nat} {ks : List Kd} {C2 : String} {T2 : u_T} {N2 : Nat} (hX : Cx M X) (d : decode (mB M) pc = .ok (.invokevirtual idx, 3)) (hok : MkOk M2 np) (lk : LkV (mY M).cls idx M2) (hE : Sm n M2 (.ref o0 :: as) σ (qv P)) (ho : sh o0 = .inl (ci, ks)) (ha : o0 < n) (hcl : vwCl[ci]? = some (C2, T2, N2)) (hC2 : C2 = (mY M2).cls) (hn : as.length = np) (hm : mC M2 = 0 ∧ mS M2 = 0) (hfr : mF M2 + 1 ≤ mF M) (hlo : 8 + (mL M2 + 11) + mO M2 ≤ mO M) (hrest : (rest.map fun v => v.category).sum ≤ 8) (hLl : L.length = mL M) (k : ∀ σ2, P σ2 → Sw n M X Z (pc + 3) L rest σ2) : Sw n M X Z pc L (ps as (.ref o0 :: rest)) σ := s_callV hX d hok lk hE ho ha hcl hC2 hn hm hfr hlo hrest hLl (fun r σ2 ⟨e, q⟩ => by subst e; exact k σ2 q)
theorem s_callSv {M2 : MI} {as rest : List Value} {P : Sg → Prop} {idx np : Nat} (hX : Cx M X) (d : decode (mB M) pc = .ok (.invokestatic idx, 3)) (hok : MkOk M2 np) (lk : LkS (mY M).cls idx M2) (hE : Sm n M2 as σ (qv P)) (hn : as.length = np) (hm : mC M2 = 0 ∧ mS M2 = 0) (hfr : mF M2 + 1 ≤ mF M) (hlo : 8 + (mL M2 + 11) + mO M2 ≤ mO M) (hrest : (rest.map fun v => v.category).sum ≤ 8) (hLl : L.length = mL M) (k : ∀ σ2, P σ2 → Sw n M X Z (pc + 3) L rest σ2) : Sw n M X Z pc L (ps as rest) σ := s_callS hX d hok lk hE hn hm hfr hlo hrest hLl (fun r σ2 ⟨e, q⟩ => by subst e; exact k σ2 q)
theorem s_iadd_n {a b : Nat} (hX : Cx M X) (d : decode (mB M) pc = .ok (.iadd, 1)) (k : Sw n M X Z (pc + 1) L (.int (nI (a + b)) :: st) σ) : Sw n M X Z pc L (.int (nI b) :: .int (nI a) :: st) σ := s_iadd hX d (s_top (nI_add a b) k)
theorem s_imul_n {a b : Nat} (hX : Cx M X) (d : decode (mB M) pc = .ok (.imul, 1)) (k : Sw n M X Z (pc + 1) L (.int (nI (a * b)) :: st) σ) : Sw n M X Z pc L (.int (nI b) :: .int (nI a) :: st) σ := s_imul hX d (s_top (pk_mul a b) k)
theorem s_isub_n {a b : Nat} (hX : Cx M X) (d : decode (mB M) pc = .ok (.isub, 1)) (hab : b ≤ a) (k : Sw n M X Z (pc + 1) L (.int (nI (a - b)) :: st) σ) : Sw n M X Z pc L (.int (nI b) :: .int (nI a) :: st) σ := s_isub hX d (s_top (pk_sub hab) k)
theorem s_idiv_n {a b : Nat} (hX : Cx M X) (d : decode (mB M) pc = .ok (.idiv, 1)) (ha : a < 2 ^ 31) (hb0 : 0 < b) (hb : b < 2 ^ 31) (k : Sw n M X Z (pc + 1) L (.int (nI (a / b)) :: st) σ) : Sw n M X Z pc L (.int (nI b) :: .int (nI a) :: st) σ := s_idiv hX d (nI_ne0 hb0 hb) (s_top (pk_div ha hb0 hb) k)
theorem s_irem_n {a b : Nat} (hX : Cx M X) (d : decode (mB M) pc = .ok (.irem, 1)) (ha : a < 2 ^ 31) (hb0 : 0 < b) (hb : b < 2 ^ 31) (k : Sw n M X Z (pc + 1) L (.int (nI (a % b)) :: st) σ) : Sw n M X Z pc L (.int (nI b) :: .int (nI a) :: st) σ := s_irem hX d (nI_ne0 hb0 hb) (s_top (pk_rem ha hb0 hb) k)
theorem s_iand_n {a b : Nat} (hX : Cx M X) (d : decode (mB M) pc = .ok (.iand, 1)) (k : Sw n M X Z (pc + 1) L (.int (nI (a &&& b)) :: st) σ) : Sw n M X Z pc L (.int (nI b) :: .int (nI a) :: st) σ := s_iand hX d (s_top (nx_and a b) k)
theorem s_ior_n {a b : Nat} (hX : Cx M X) (d : decode (mB M) pc = .ok (.ior, 1)) (k : Sw n M X Z (pc + 1) L (.int (nI (a ||| b)) :: st) σ) : Sw n M X Z pc L (.int (nI b) :: .int (nI a) :: st) σ := s_ior hX d (s_top (nx_or a b) k)
theorem s_ishl_n {a b : Nat} (hX : Cx M X) (d : decode (mB M) pc = .ok (.ishl, 1)) (hb : b < 32) (hab : a * 2 ^ b < 2 ^ 32) (k : Sw n M X Z (pc + 1) L (.int (nI (a * 2 ^ b)) :: st) σ) : Sw n M X Z pc L (.int (nI b) :: .int (nI a) :: st) σ := s_ishl hX d (s_top (nx_shl hb hab) k)
theorem s_ishr_n {a b : Nat} (hX : Cx M X) (d : decode (mB M) pc = .ok (.ishr, 1)) (hb : b < 32) (ha : a < 2 ^ 31) (k : Sw n M X Z (pc + 1) L (.int (nI (a / 2 ^ b)) :: st) σ) : Sw n M X Z pc L (.int (nI b) :: .int (nI a) :: st) σ := s_ishr hX d (s_top (nx_shr hb ha) k)
theorem s_iushr_n {a b : Nat} (hX : Cx M X) (d : decode (mB M) pc = .ok (.iushr, 1)) (hb : b < 32) (ha : a < 2 ^ 32) (k : Sw n M X Z (pc + 1) L (.int (nI (a / 2 ^ b)) :: st) σ) : Sw n M X Z pc L (.int (nI b) :: .int (nI a) :: st) σ := s_iushr hX d (s_top (nx_ushr hb ha) k)
theorem s_iinc_n {i a c : Nat} {z : Int} {L2 : List (Option Value)} (hX : Cx M X) (d : decode (mB M) pc = .ok (.iinc i z, 3)) (hv : L[i]? = some (some (.int (nI a)))) (hz : Int32.ofInt z = nI c) (hn : nl (L.getD (i - 1) none) = true) (hL : L.set i (some (.int (nI (a + c)))) = L2) (k : Sw n M X Z (pc + 3) L2 st σ) : Sw n M X Z pc L st σ := s_iinc hX d hv (by rw [hz, nI_add]) hn hL k
theorem s_idec_n {i a : Nat} {L2 : List (Option Value)} (hX : Cx M X) (d : decode (mB M) pc = .ok (.iinc i (-1), 3)) (hv : L[i]? = some (some (.int (nI a)))) (ha : 0 < a) (hn : nl (L.getD (i - 1) none) = true) (hL : L.set i (some (.int (nI (a - 1)))) = L2) (k : Sw n M X Z (pc + 3) L2 st σ) : Sw n M X Z pc L st σ := s_iinc hX d hv (sb_m1 ha) hn hL k
theorem s_icmp_eq_n {a b : Nat} {off : Int} {tgt : Nat} (hX : Cx M X) (d : decode (mB M) pc = .ok (.if_icmp .eq off, 3)) (ht : (pc : Int) + off = (tgt : Int)) (ha : a < 2 ^ 31) (hb : b < 2 ^ 31) (kt : a = b → Sw n M X Z tgt L st σ) (kf : a ≠ b → Sw n M X Z (pc + 3) L st σ) : Sw n M X Z pc L (.int (nI b) :: .int (nI a) :: st) σ := s_icmp_eq hX d ht (fun q => kt (by rw [nx_ne ha hb] at q; omega)) (fun q => kf (by rw [nx_ne ha hb] at q; omega))
theorem s_icmp_ne_n {a b : Nat} {off : Int} {tgt : Nat} (hX : Cx M X) (d : decode (mB M) pc = .ok (.if_icmp .ne off, 3)) (ht : (pc : Int) + off = (tgt : Int)) (ha : a < 2 ^ 31) (hb : b < 2 ^ 31) (kt : a ≠ b → Sw n M X Z tgt L st σ) (kf : a = b → Sw n M X Z (pc + 3) L st σ) : Sw n M X Z pc L (.int (nI b) :: .int (nI a) :: st) σ := s_icmp_ne hX d ht (fun q => kt (by rw [nx_ne ha hb] at q; omega)) (fun q => kf (by rw [nx_ne ha hb] at q; omega))
theorem s_icmp_lt_n {a b : Nat} {off : Int} {tgt : Nat} (hX : Cx M X) (d : decode (mB M) pc = .ok (.if_icmp .lt off, 3)) (ht : (pc : Int) + off = (tgt : Int)) (ha : a < 2 ^ 31) (hb : b < 2 ^ 31) (kt : a < b → Sw n M X Z tgt L st σ) (kf : b ≤ a → Sw n M X Z (pc + 3) L st σ) : Sw n M X Z pc L (.int (nI b) :: .int (nI a) :: st) σ := s_icmp_lt hX d ht (fun q => kt (by rw [nx_lt ha hb] at q; omega)) (fun q => kf (by rw [nx_lt ha hb] at q; omega))
theorem s_icmp_ge_n {a b : Nat} {off : Int} {tgt : Nat} (hX : Cx M X) (d : decode (mB M) pc = .ok (.if_icmp .ge off, 3)) (ht : (pc : Int) + off = (tgt : Int)) (ha : a < 2 ^ 31) (hb : b < 2 ^ 31) (kt : b ≤ a → Sw n M X Z tgt L st σ) (kf : a < b → Sw n M X Z (pc + 3) L st σ) : Sw n M X Z pc L (.int (nI b) :: .int (nI a) :: st) σ := s_icmp_ge hX d ht (fun q => kt (by rw [nx_le hb ha] at q; omega)) (fun q => kf (by rw [nx_le hb ha] at q; omega))
theorem s_icmp_gt_n {a b : Nat} {off : Int} {tgt : Nat} (hX : Cx M X) (d : decode (mB M) pc = .ok (.if_icmp .gt off, 3)) (ht : (pc : Int) + off = (tgt : Int)) (ha : a < 2 ^ 31) (hb : b < 2 ^ 31) (kt : b < a → Sw n M X Z tgt L st σ) (kf : a ≤ b → Sw n M X Z (pc + 3) L st σ) : Sw n M X Z pc L (.int (nI b) :: .int (nI a) :: st) σ := s_icmp_gt hX d ht (fun q => kt (by rw [nx_lt hb ha] at q; omega)) (fun q => kf (by rw [nx_lt hb ha] at q; omega))
theorem s_icmp_le_n {a b : Nat} {off : Int} {tgt : Nat} (hX : Cx M X) (d : decode (mB M) pc = .ok (.if_icmp .le off, 3)) (ht : (pc : Int) + off = (tgt : Int)) (ha : a < 2 ^ 31) (hb : b < 2 ^ 31) (kt : a ≤ b → Sw n M X Z tgt L st σ) (kf : b < a → Sw n M X Z (pc + 3) L st σ) : Sw n M X Z pc L (.int (nI b) :: .int (nI a) :: st) σ := s_icmp_le hX d ht (fun q => kt (by rw [nx_le ha hb] at q; omega)) (fun q => kf (by rw [nx_le ha hb] at q; omega))
theorem s_if_eq_n {a : Nat} {off : Int} {tgt : Nat} (hX : Cx M X) (d : decode (mB M) pc = .ok (.ifCond .eq off, 3)) (ht : (pc : Int) + off = (tgt : Int)) (ha : a < 2 ^ 31) (kt : a = 0 → Sw n M X Z tgt L st σ) (kf : a ≠ 0 → Sw n M X Z (pc + 3) L st σ) : Sw n M X Z pc L (.int (nI a) :: st) σ := s_if_eq hX d ht (fun q => kt (by rw [← nI_0, nx_ne ha (by decide : 0 < 2 ^ 31)] at q; omega)) (fun q => kf (by rw [← nI_0, nx_ne ha (by decide : 0 < 2 ^ 31)] at q; omega))
theorem s_if_ne_n {a : Nat} {off : Int} {tgt : Nat} (hX : Cx M X) (d : decode (mB M) pc = .ok (.ifCond .ne off, 3)) (ht : (pc : Int) + off = (tgt : Int)) (ha : a < 2 ^ 31) (kt : a ≠ 0 → Sw n M X Z tgt L st σ) (kf : a = 0 → Sw n M X Z (pc + 3) L st σ) : Sw n M X Z pc L (.int (nI a) :: st) σ := s_if_ne hX d ht (fun q => kt (by rw [← nI_0, nx_ne ha (by decide : 0 < 2 ^ 31)] at q; omega)) (fun q => kf (by rw [← nI_0, nx_ne ha (by decide : 0 < 2 ^ 31)] at q; omega))
theorem s_if_gt_n {a : Nat} {off : Int} {tgt : Nat} (hX : Cx M X) (d : decode (mB M) pc = .ok (.ifCond .gt off, 3)) (ht : (pc : Int) + off = (tgt : Int)) (ha : a < 2 ^ 31) (kt : 0 < a → Sw n M X Z tgt L st σ) (kf : a = 0 → Sw n M X Z (pc + 3) L st σ) : Sw n M X Z pc L (.int (nI a) :: st) σ := s_if_gt hX d ht (fun q => kt (by rw [← nI_0, nx_lt (by decide : 0 < 2 ^ 31) ha] at q; omega)) (fun q => kf (by rw [← nI_0, nx_lt (by decide : 0 < 2 ^ 31) ha] at q; omega))
theorem s_if_le_n {a : Nat} {off : Int} {tgt : Nat} (hX : Cx M X) (d : decode (mB M) pc = .ok (.ifCond .le off, 3)) (ht : (pc : Int) + off = (tgt : Int)) (ha : a < 2 ^ 31) (kt : a = 0 → Sw n M X Z tgt L st σ) (kf : 0 < a → Sw n M X Z (pc + 3) L st σ) : Sw n M X Z pc L (.int (nI a) :: st) σ := s_if_le hX d ht (fun q => kt (by rw [← nI_0, nx_le ha (by decide : 0 < 2 ^ 31)] at q; omega)) (fun q => kf (by rw [← nI_0, nx_le ha (by decide : 0 < 2 ^ 31)] at q; omega))
theorem s_if_lt_n {a : Nat} {off : Int} (hX : Cx M X) (d : decode (mB M) pc = .ok (.ifCond .lt off, 3)) {tgt : Nat} (ht : (pc : Int) + off = (tgt : Int)) (ha : a < 2 ^ 31) (k : Sw n M X Z (pc + 3) L st σ) : Sw n M X Z pc L (.int (nI a) :: st) σ := s_if_lt hX d ht (fun q => absurd q (nI_pos ha)) (fun _ => k)
theorem s_if_ge_n {a : Nat} {off : Int} (hX : Cx M X) (d : decode (mB M) pc = .ok (.ifCond .ge off, 3)) {tgt : Nat} (ht : (pc : Int) + off = (tgt : Int)) (ha : a < 2 ^ 31) (k : Sw n M X Z tgt L st σ) : Sw n M X Z pc L (.int (nI a) :: st) σ := s_if_ge hX d ht (fun _ => k) (fun q => absurd (nI_pos' ha) q)
end SL
theorem st_1_0 {a0 v : Option Value} : [a0].set 0 v = [v] := rfl
theorem st_2_0 {a0 a1 v : Option Value} : [a0, a1].set 0 v = [v, a1] := rfl
theorem sl_2_0 {a0 a1 v : Option Value} : ([a0, a1].set 0 v).set (0 + 1) none = [v, none] := rfl
theorem st_2_1 {a0 a1 v : Option Value} : [a0, a1].set 1 v = [a0, v] := rfl
theorem st_3_0 {a0 a1 a2 v : Option Value} : [a0, a1, a2].set 0 v = [v, a1, a2] := rfl
theorem sl_3_0 {a0 a1 a2 v : Option Value} : ([a0, a1, a2].set 0 v).set (0 + 1) none = [v, none, a2] := rfl
theorem st_3_1 {a0 a1 a2 v : Option Value} : [a0, a1, a2].set 1 v = [a0, v, a2] := rfl
theorem sl_3_1 {a0 a1 a2 v : Option Value} : ([a0, a1, a2].set 1 v).set (1 + 1) none = [a0, v, none] := rfl
theorem st_3_2 {a0 a1 a2 v : Option Value} : [a0, a1, a2].set 2 v = [a0, a1, v] := rfl
theorem st_4_0 {a0 a1 a2 a3 v : Option Value} : [a0, a1, a2, a3].set 0 v = [v, a1, a2, a3] := rfl
theorem sl_4_0 {a0 a1 a2 a3 v : Option Value} : ([a0, a1, a2, a3].set 0 v).set (0 + 1) none = [v, none, a2, a3] := rfl
theorem st_4_1 {a0 a1 a2 a3 v : Option Value} : [a0, a1, a2, a3].set 1 v = [a0, v, a2, a3] := rfl
theorem sl_4_1 {a0 a1 a2 a3 v : Option Value} : ([a0, a1, a2, a3].set 1 v).set (1 + 1) none = [a0, v, none, a3] := rfl
theorem st_4_2 {a0 a1 a2 a3 v : Option Value} : [a0, a1, a2, a3].set 2 v = [a0, a1, v, a3] := rfl
theorem sl_4_2 {a0 a1 a2 a3 v : Option Value} : ([a0, a1, a2, a3].set 2 v).set (2 + 1) none = [a0, a1, v, none] := rfl
theorem st_4_3 {a0 a1 a2 a3 v : Option Value} : [a0, a1, a2, a3].set 3 v = [a0, a1, a2, v] := rfl
theorem st_5_0 {a0 a1 a2 a3 a4 v : Option Value} : [a0, a1, a2, a3, a4].set 0 v = [v, a1, a2, a3, a4] := rfl
theorem sl_5_0 {a0 a1 a2 a3 a4 v : Option Value} : ([a0, a1, a2, a3, a4].set 0 v).set (0 + 1) none = [v, none, a2, a3, a4] := rfl
theorem st_5_1 {a0 a1 a2 a3 a4 v : Option Value} : [a0, a1, a2, a3, a4].set 1 v = [a0, v, a2, a3, a4] := rfl
theorem sl_5_1 {a0 a1 a2 a3 a4 v : Option Value} : ([a0, a1, a2, a3, a4].set 1 v).set (1 + 1) none = [a0, v, none, a3, a4] := rfl
theorem st_5_2 {a0 a1 a2 a3 a4 v : Option Value} : [a0, a1, a2, a3, a4].set 2 v = [a0, a1, v, a3, a4] := rfl
theorem sl_5_2 {a0 a1 a2 a3 a4 v : Option Value} : ([a0, a1, a2, a3, a4].set 2 v).set (2 + 1) none = [a0, a1, v, none, a4] := rfl
theorem st_5_3 {a0 a1 a2 a3 a4 v : Option Value} : [a0, a1, a2, a3, a4].set 3 v = [a0, a1, a2, v, a4] := rfl
theorem sl_5_3 {a0 a1 a2 a3 a4 v : Option Value} : ([a0, a1, a2, a3, a4].set 3 v).set (3 + 1) none = [a0, a1, a2, v, none] := rfl
theorem st_5_4 {a0 a1 a2 a3 a4 v : Option Value} : [a0, a1, a2, a3, a4].set 4 v = [a0, a1, a2, a3, v] := rfl
theorem st_6_0 {a0 a1 a2 a3 a4 a5 v : Option Value} : [a0, a1, a2, a3, a4, a5].set 0 v = [v, a1, a2, a3, a4, a5] := rfl
theorem sl_6_0 {a0 a1 a2 a3 a4 a5 v : Option Value} : ([a0, a1, a2, a3, a4, a5].set 0 v).set (0 + 1) none = [v, none, a2, a3, a4, a5] := rfl
theorem st_6_1 {a0 a1 a2 a3 a4 a5 v : Option Value} : [a0, a1, a2, a3, a4, a5].set 1 v = [a0, v, a2, a3, a4, a5] := rfl
theorem sl_6_1 {a0 a1 a2 a3 a4 a5 v : Option Value} : ([a0, a1, a2, a3, a4, a5].set 1 v).set (1 + 1) none = [a0, v, none, a3, a4, a5] := rfl
theorem st_6_2 {a0 a1 a2 a3 a4 a5 v : Option Value} : [a0, a1, a2, a3, a4, a5].set 2 v = [a0, a1, v, a3, a4, a5] := rfl
theorem sl_6_2 {a0 a1 a2 a3 a4 a5 v : Option Value} : ([a0, a1, a2, a3, a4, a5].set 2 v).set (2 + 1) none = [a0, a1, v, none, a4, a5] := rfl
theorem st_6_3 {a0 a1 a2 a3 a4 a5 v : Option Value} : [a0, a1, a2, a3, a4, a5].set 3 v = [a0, a1, a2, v, a4, a5] := rfl
theorem sl_6_3 {a0 a1 a2 a3 a4 a5 v : Option Value} : ([a0, a1, a2, a3, a4, a5].set 3 v).set (3 + 1) none = [a0, a1, a2, v, none, a5] := rfl
theorem st_6_4 {a0 a1 a2 a3 a4 a5 v : Option Value} : [a0, a1, a2, a3, a4, a5].set 4 v = [a0, a1, a2, a3, v, a5] := rfl
theorem sl_6_4 {a0 a1 a2 a3 a4 a5 v : Option Value} : ([a0, a1, a2, a3, a4, a5].set 4 v).set (4 + 1) none = [a0, a1, a2, a3, v, none] := rfl
theorem st_6_5 {a0 a1 a2 a3 a4 a5 v : Option Value} : [a0, a1, a2, a3, a4, a5].set 5 v = [a0, a1, a2, a3, a4, v] := rfl
theorem st_7_0 {a0 a1 a2 a3 a4 a5 a6 v : Option Value} : [a0, a1, a2, a3, a4, a5, a6].set 0 v = [v, a1, a2, a3, a4, a5, a6] := rfl
theorem sl_7_0 {a0 a1 a2 a3 a4 a5 a6 v : Option Value} : ([a0, a1, a2, a3, a4, a5, a6].set 0 v).set (0 + 1) none = [v, none, a2, a3, a4, a5, a6] := rfl
theorem st_7_1 {a0 a1 a2 a3 a4 a5 a6 v : Option Value} : [a0, a1, a2, a3, a4, a5, a6].set 1 v = [a0, v, a2, a3, a4, a5, a6] := rfl
theorem sl_7_1 {a0 a1 a2 a3 a4 a5 a6 v : Option Value} : ([a0, a1, a2, a3, a4, a5, a6].set 1 v).set (1 + 1) none = [a0, v, none, a3, a4, a5, a6] := rfl
theorem st_7_2 {a0 a1 a2 a3 a4 a5 a6 v : Option Value} : [a0, a1, a2, a3, a4, a5, a6].set 2 v = [a0, a1, v, a3, a4, a5, a6] := rfl
theorem sl_7_2 {a0 a1 a2 a3 a4 a5 a6 v : Option Value} : ([a0, a1, a2, a3, a4, a5, a6].set 2 v).set (2 + 1) none = [a0, a1, v, none, a4, a5, a6] := rfl
theorem st_7_3 {a0 a1 a2 a3 a4 a5 a6 v : Option Value} : [a0, a1, a2, a3, a4, a5, a6].set 3 v = [a0, a1, a2, v, a4, a5, a6] := rfl
theorem sl_7_3 {a0 a1 a2 a3 a4 a5 a6 v : Option Value} : ([a0, a1, a2, a3, a4, a5, a6].set 3 v).set (3 + 1) none = [a0, a1, a2, v, none, a5, a6] := rfl
theorem st_7_4 {a0 a1 a2 a3 a4 a5 a6 v : Option Value} : [a0, a1, a2, a3, a4, a5, a6].set 4 v = [a0, a1, a2, a3, v, a5, a6] := rfl
theorem sl_7_4 {a0 a1 a2 a3 a4 a5 a6 v : Option Value} : ([a0, a1, a2, a3, a4, a5, a6].set 4 v).set (4 + 1) none = [a0, a1, a2, a3, v, none, a6] := rfl
theorem st_7_5 {a0 a1 a2 a3 a4 a5 a6 v : Option Value} : [a0, a1, a2, a3, a4, a5, a6].set 5 v = [a0, a1, a2, a3, a4, v, a6] := rfl
theorem sl_7_5 {a0 a1 a2 a3 a4 a5 a6 v : Option Value} : ([a0, a1, a2, a3, a4, a5, a6].set 5 v).set (5 + 1) none = [a0, a1, a2, a3, a4, v, none] := rfl
theorem st_7_6 {a0 a1 a2 a3 a4 a5 a6 v : Option Value} : [a0, a1, a2, a3, a4, a5, a6].set 6 v = [a0, a1, a2, a3, a4, a5, v] := rfl
theorem st_8_0 {a0 a1 a2 a3 a4 a5 a6 a7 v : Option Value} : [a0, a1, a2, a3, a4, a5, a6, a7].set 0 v = [v, a1, a2, a3, a4, a5, a6, a7] := rfl
theorem sl_8_0 {a0 a1 a2 a3 a4 a5 a6 a7 v : Option Value} : ([a0, a1, a2, a3, a4, a5, a6, a7].set 0 v).set (0 + 1) none = [v, none, a2, a3, a4, a5, a6, a7] := rfl
theorem st_8_1 {a0 a1 a2 a3 a4 a5 a6 a7 v : Option Value} : [a0, a1, a2, a3, a4, a5, a6, a7].set 1 v = [a0, v, a2, a3, a4, a5, a6, a7] := rfl
theorem sl_8_1 {a0 a1 a2 a3 a4 a5 a6 a7 v : Option Value} : ([a0, a1, a2, a3, a4, a5, a6, a7].set 1 v).set (1 + 1) none = [a0, v, none, a3, a4, a5, a6, a7] := rfl
theorem st_8_2 {a0 a1 a2 a3 a4 a5 a6 a7 v : Option Value} : [a0, a1, a2, a3, a4, a5, a6, a7].set 2 v = [a0, a1, v, a3, a4, a5, a6, a7] := rfl
theorem sl_8_2 {a0 a1 a2 a3 a4 a5 a6 a7 v : Option Value} : ([a0, a1, a2, a3, a4, a5, a6, a7].set 2 v).set (2 + 1) none = [a0, a1, v, none, a4, a5, a6, a7] := rfl
theorem st_8_3 {a0 a1 a2 a3 a4 a5 a6 a7 v : Option Value} : [a0, a1, a2, a3, a4, a5, a6, a7].set 3 v = [a0, a1, a2, v, a4, a5, a6, a7] := rfl
theorem sl_8_3 {a0 a1 a2 a3 a4 a5 a6 a7 v : Option Value} : ([a0, a1, a2, a3, a4, a5, a6, a7].set 3 v).set (3 + 1) none = [a0, a1, a2, v, none, a5, a6, a7] := rfl
theorem st_8_4 {a0 a1 a2 a3 a4 a5 a6 a7 v : Option Value} : [a0, a1, a2, a3, a4, a5, a6, a7].set 4 v = [a0, a1, a2, a3, v, a5, a6, a7] := rfl
theorem sl_8_4 {a0 a1 a2 a3 a4 a5 a6 a7 v : Option Value} : ([a0, a1, a2, a3, a4, a5, a6, a7].set 4 v).set (4 + 1) none = [a0, a1, a2, a3, v, none, a6, a7] := rfl
theorem st_8_5 {a0 a1 a2 a3 a4 a5 a6 a7 v : Option Value} : [a0, a1, a2, a3, a4, a5, a6, a7].set 5 v = [a0, a1, a2, a3, a4, v, a6, a7] := rfl
theorem sl_8_5 {a0 a1 a2 a3 a4 a5 a6 a7 v : Option Value} : ([a0, a1, a2, a3, a4, a5, a6, a7].set 5 v).set (5 + 1) none = [a0, a1, a2, a3, a4, v, none, a7] := rfl
theorem st_8_6 {a0 a1 a2 a3 a4 a5 a6 a7 v : Option Value} : [a0, a1, a2, a3, a4, a5, a6, a7].set 6 v = [a0, a1, a2, a3, a4, a5, v, a7] := rfl
theorem sl_8_6 {a0 a1 a2 a3 a4 a5 a6 a7 v : Option Value} : ([a0, a1, a2, a3, a4, a5, a6, a7].set 6 v).set (6 + 1) none = [a0, a1, a2, a3, a4, a5, v, none] := rfl
theorem st_8_7 {a0 a1 a2 a3 a4 a5 a6 a7 v : Option Value} : [a0, a1, a2, a3, a4, a5, a6, a7].set 7 v = [a0, a1, a2, a3, a4, a5, a6, v] := rfl
theorem st_9_0 {a0 a1 a2 a3 a4 a5 a6 a7 a8 v : Option Value} : [a0, a1, a2, a3, a4, a5, a6, a7, a8].set 0 v = [v, a1, a2, a3, a4, a5, a6, a7, a8] := rfl
theorem sl_9_0 {a0 a1 a2 a3 a4 a5 a6 a7 a8 v : Option Value} : ([a0, a1, a2, a3, a4, a5, a6, a7, a8].set 0 v).set (0 + 1) none = [v, none, a2, a3, a4, a5, a6, a7, a8] := rfl
theorem st_9_1 {a0 a1 a2 a3 a4 a5 a6 a7 a8 v : Option Value} : [a0, a1, a2, a3, a4, a5, a6, a7, a8].set 1 v = [a0, v, a2, a3, a4, a5, a6, a7, a8] := rfl
theorem sl_9_1 {a0 a1 a2 a3 a4 a5 a6 a7 a8 v : Option Value} : ([a0, a1, a2, a3, a4, a5, a6, a7, a8].set 1 v).set (1 + 1) none = [a0, v, none, a3, a4, a5, a6, a7, a8] := rfl
theorem st_9_2 {a0 a1 a2 a3 a4 a5 a6 a7 a8 v : Option Value} : [a0, a1, a2, a3, a4, a5, a6, a7, a8].set 2 v = [a0, a1, v, a3, a4, a5, a6, a7, a8] := rfl
theorem sl_9_2 {a0 a1 a2 a3 a4 a5 a6 a7 a8 v : Option Value} : ([a0, a1, a2, a3, a4, a5, a6, a7, a8].set 2 v).set (2 + 1) none = [a0, a1, v, none, a4, a5, a6, a7, a8] := rfl
theorem st_9_3 {a0 a1 a2 a3 a4 a5 a6 a7 a8 v : Option Value} : [a0, a1, a2, a3, a4, a5, a6, a7, a8].set 3 v = [a0, a1, a2, v, a4, a5, a6, a7, a8] := rfl
theorem sl_9_3 {a0 a1 a2 a3 a4 a5 a6 a7 a8 v : Option Value} : ([a0, a1, a2, a3, a4, a5, a6, a7, a8].set 3 v).set (3 + 1) none = [a0, a1, a2, v, none, a5, a6, a7, a8] := rfl
theorem st_9_4 {a0 a1 a2 a3 a4 a5 a6 a7 a8 v : Option Value} : [a0, a1, a2, a3, a4, a5, a6, a7, a8].set 4 v = [a0, a1, a2, a3, v, a5, a6, a7, a8] := rfl
theorem sl_9_4 {a0 a1 a2 a3 a4 a5 a6 a7 a8 v : Option Value} : ([a0, a1, a2, a3, a4, a5, a6, a7, a8].set 4 v).set (4 + 1) none = [a0, a1, a2, a3, v, none, a6, a7, a8] := rfl
theorem st_9_5 {a0 a1 a2 a3 a4 a5 a6 a7 a8 v : Option Value} : [a0, a1, a2, a3, a4, a5, a6, a7, a8].set 5 v = [a0, a1, a2, a3, a4, v, a6, a7, a8] := rfl
theorem sl_9_5 {a0 a1 a2 a3 a4 a5 a6 a7 a8 v : Option Value} : ([a0, a1, a2, a3, a4, a5, a6, a7, a8].set 5 v).set (5 + 1) none = [a0, a1, a2, a3, a4, v, none, a7, a8] := rfl
theorem st_9_6 {a0 a1 a2 a3 a4 a5 a6 a7 a8 v : Option Value} : [a0, a1, a2, a3, a4, a5, a6, a7, a8].set 6 v = [a0, a1, a2, a3, a4, a5, v, a7, a8] := rfl
theorem sl_9_6 {a0 a1 a2 a3 a4 a5 a6 a7 a8 v : Option Value} : ([a0, a1, a2, a3, a4, a5, a6, a7, a8].set 6 v).set (6 + 1) none = [a0, a1, a2, a3, a4, a5, v, none, a8] := rfl
theorem st_9_7 {a0 a1 a2 a3 a4 a5 a6 a7 a8 v : Option Value} : [a0, a1, a2, a3, a4, a5, a6, a7, a8].set 7 v = [a0, a1, a2, a3, a4, a5, a6, v, a8] := rfl
theorem sl_9_7 {a0 a1 a2 a3 a4 a5 a6 a7 a8 v : Option Value} : ([a0, a1, a2, a3, a4, a5, a6, a7, a8].set 7 v).set (7 + 1) none = [a0, a1, a2, a3, a4, a5, a6, v, none] := rfl
theorem st_9_8 {a0 a1 a2 a3 a4 a5 a6 a7 a8 v : Option Value} : [a0, a1, a2, a3, a4, a5, a6, a7, a8].set 8 v = [a0, a1, a2, a3, a4, a5, a6, a7, v] := rfl
theorem st_10_0 {a0 a1 a2 a3 a4 a5 a6 a7 a8 a9 v : Option Value} : [a0, a1, a2, a3, a4, a5, a6, a7, a8, a9].set 0 v = [v, a1, a2, a3, a4, a5, a6, a7, a8, a9] := rfl
theorem sl_10_0 {a0 a1 a2 a3 a4 a5 a6 a7 a8 a9 v : Option Value} : ([a0, a1, a2, a3, a4, a5, a6, a7, a8, a9].set 0 v).set (0 + 1) none = [v, none, a2, a3, a4, a5, a6, a7, a8, a9] := rfl
theorem st_10_1 {a0 a1 a2 a3 a4 a5 a6 a7 a8 a9 v : Option Value} : [a0, a1, a2, a3, a4, a5, a6, a7, a8, a9].set 1 v = [a0, v, a2, a3, a4, a5, a6, a7, a8, a9] := rfl
theorem sl_10_1 {a0 a1 a2 a3 a4 a5 a6 a7 a8 a9 v : Option Value} : ([a0, a1, a2, a3, a4, a5, a6, a7, a8, a9].set 1 v).set (1 + 1) none = [a0, v, none, a3, a4, a5, a6, a7, a8, a9] := rfl
theorem st_10_2 {a0 a1 a2 a3 a4 a5 a6 a7 a8 a9 v : Option Value} : [a0, a1, a2, a3, a4, a5, a6, a7, a8, a9].set 2 v = [a0, a1, v, a3, a4, a5, a6, a7, a8, a9] := rfl
theorem sl_10_2 {a0 a1 a2 a3 a4 a5 a6 a7 a8 a9 v : Option Value} : ([a0, a1, a2, a3, a4, a5, a6, a7, a8, a9].set 2 v).set (2 + 1) none = [a0, a1, v, none, a4, a5, a6, a7, a8, a9] := rfl
theorem st_10_3 {a0 a1 a2 a3 a4 a5 a6 a7 a8 a9 v : Option Value} : [a0, a1, a2, a3, a4, a5, a6, a7, a8, a9].set 3 v = [a0, a1, a2, v, a4, a5, a6, a7, a8, a9] := rfl
theorem sl_10_3 {a0 a1 a2 a3 a4 a5 a6 a7 a8 a9 v : Option Value} : ([a0, a1, a2, a3, a4, a5, a6, a7, a8, a9].set 3 v).set (3 + 1) none = [a0, a1, a2, v, none, a5, a6, a7, a8, a9] := rfl
theorem st_10_4 {a0 a1 a2 a3 a4 a5 a6 a7 a8 a9 v : Option Value} : [a0, a1, a2, a3, a4, a5, a6, a7, a8, a9].set 4 v = [a0, a1, a2, a3, v, a5, a6, a7, a8, a9] := rfl
theorem sl_10_4 {a0 a1 a2 a3 a4 a5 a6 a7 a8 a9 v : Option Value} : ([a0, a1, a2, a3, a4, a5, a6, a7, a8, a9].set 4 v).set (4 + 1) none = [a0, a1, a2, a3, v, none, a6, a7, a8, a9] := rfl
theorem st_10_5 {a0 a1 a2 a3 a4 a5 a6 a7 a8 a9 v : Option Value} : [a0, a1, a2, a3, a4, a5, a6, a7, a8, a9].set 5 v = [a0, a1, a2, a3, a4, v, a6, a7, a8, a9] := rfl
theorem sl_10_5 {a0 a1 a2 a3 a4 a5 a6 a7 a8 a9 v : Option Value} : ([a0, a1, a2, a3, a4, a5, a6, a7, a8, a9].set 5 v).set (5 + 1) none = [a0, a1, a2, a3, a4, v, none, a7, a8, a9] := rfl
theorem st_10_6 {a0 a1 a2 a3 a4 a5 a6 a7 a8 a9 v : Option Value} : [a0, a1, a2, a3, a4, a5, a6, a7, a8, a9].set 6 v = [a0, a1, a2, a3, a4, a5, v, a7, a8, a9] := rfl
theorem sl_10_6 {a0 a1 a2 a3 a4 a5 a6 a7 a8 a9 v : Option Value} : ([a0, a1, a2, a3, a4, a5, a6, a7, a8, a9].set 6 v).set (6 + 1) none = [a0, a1, a2, a3, a4, a5, v, none, a8, a9] := rfl
theorem st_10_7 {a0 a1 a2 a3 a4 a5 a6 a7 a8 a9 v : Option Value} : [a0, a1, a2, a3, a4, a5, a6, a7, a8, a9].set 7 v = [a0, a1, a2, a3, a4, a5, a6, v, a8, a9] := rfl
theorem sl_10_7 {a0 a1 a2 a3 a4 a5 a6 a7 a8 a9 v : Option Value} : ([a0, a1, a2, a3, a4, a5, a6, a7, a8, a9].set 7 v).set (7 + 1) none = [a0, a1, a2, a3, a4, a5, a6, v, none, a9] := rfl
theorem st_10_8 {a0 a1 a2 a3 a4 a5 a6 a7 a8 a9 v : Option Value} : [a0, a1, a2, a3, a4, a5, a6, a7, a8, a9].set 8 v = [a0, a1, a2, a3, a4, a5, a6, a7, v, a9] := rfl
theorem sl_10_8 {a0 a1 a2 a3 a4 a5 a6 a7 a8 a9 v : Option Value} : ([a0, a1, a2, a3, a4, a5, a6, a7, a8, a9].set 8 v).set (8 + 1) none = [a0, a1, a2, a3, a4, a5, a6, a7, v, none] := rfl
theorem st_10_9 {a0 a1 a2 a3 a4 a5 a6 a7 a8 a9 v : Option Value} : [a0, a1, a2, a3, a4, a5, a6, a7, a8, a9].set 9 v = [a0, a1, a2, a3, a4, a5, a6, a7, a8, v] := rfl
end
section
/-! ===== the words in which both sides are told: a scene is 56 numbers, a protocol its tables ===== -/
abbrev Vc : Type := Nat → Nat
def vset (v : Vc) (k x : Nat) : Vc := fun j => if j = k then x else v j
theorem vset_s (v : Vc) (k x : Nat) : vset v k x k = x := by simp [vset]
theorem vset_n (v : Vc) {k j : Nat} (x : Nat) (h : j ≠ k) : vset v k x j = v j := by simp [vset, h]
def v0 : Vc := fun j => if j = 13 then 1 else 0
abbrev Pr : Type := Nat × (Nat → Nat) × (Nat → Nat) × (Nat → Option Nat) × (Nat → Nat → Nat)
abbrev pP (pr : Pr) : Nat := pr.1
abbrev pLo (pr : Pr) : Nat → Nat := pr.2.1
abbrev pRi (pr : Pr) : Nat → Nat := pr.2.2.1
abbrev pAm (pr : Pr) : Nat → Option Nat := pr.2.2.2.1
abbrev pAc (pr : Pr) : Nat → Nat → Nat := pr.2.2.2.2
def amv (a : Option Nat) : Int32 := match a with
  | none => -1
  | some n => nI n
def PrOk (pr : Pr) : Prop := (1 ≤ pP pr ∧ pP pr ≤ 4) ∧ (∀ k, pLo pr k ≤ 1) ∧ (∀ s, pRi pr s ≤ 2) ∧ (∀ a n, pAm pr a = some n → n ≤ 8) ∧ (∀ a k, pAc pr a k < 256)
def VOk (pr : Pr) (v : Vc) : Prop := (∀ p, p < pP pr → v (3 * p) < 16 ∧ v (3 * p + 1) < 2 ∧ v (3 * p + 2) < 3) ∧ v 12 < 16 ∧ v 13 < 2 ∧ v 14 < 16 ∧ v 15 ≤ 8 ∧ (∀ i, i < v 15 → v (16 + 5 * i) < 16 ∧ v (17 + 5 * i) ≤ pP pr ∧ v (18 + 5 * i) ≤ pP pr ∧ v (19 + 5 * i) < pP pr ∧ v (20 + 5 * i) < 2) ∧ (∀ j, 3 * pP pr ≤ j → j < 12 → v j = 0) ∧ (∀ j, 16 + 5 * v 15 ≤ j → v j = 0)
/-- does one of the first acts say 'wait' -/
def wtR (f : Nat → Nat) : Nat → Bool
  | 0 => false
  | k + 1 => wtR f k || f k / 16 == 9
def wtF (pr : Pr) (a : Nat) : Bool := match pAm pr a with
  | none => false
  | some n => wtR (pAc pr a) n
def othI (h f : Nat) : Int32 := nI h &&& (nI (1 * 2 ^ f) ^^^ (-1))
def rowOf (pr : Pr) (v : Vc) (i : Nat) : Nat := if v (18 + 5 * i) < pP pr then v (3 * v (18 + 5 * i)) * 64 + 3 + v (16 + 5 * i) else 1024 + v 12 * 64 + 2 * v (16 + 5 * i) + (if othI (v 14) (v (19 + 5 * i)) = 0 then 0 else 1)
theorem rowOf_lt {pr : Pr} {v : Vc} {i : Nat} (hv : VOk pr v) (hi : i < v 15) : rowOf pr v i < 2048 := by
  obtain ⟨h1, h2, h3, h4, h5, h6, h7, h8⟩ := hv
  obtain ⟨g1, g2, g3, g4, g5⟩ := h6 i hi
  unfold rowOf
  split
  · rename_i hq
    have := (h1 _ hq).1
    omega
  · split <;> omega
/-- what a part of the state keeps -/
def Off (σ σ2 : Sg) (S : List Nat) : Prop := ∀ a, a ∉ S → σ2 a = σ a
theorem Off.rf {σ : Sg} {S : List Nat} : Off σ σ S := fun _ _ => rfl
theorem Off.trans {σ σ2 σ3 : Sg} {S : List Nat} (h : Off σ σ2 S) (h2 : Off σ2 σ3 S) : Off σ σ3 S := fun a ha => (h2 a ha).trans (h a ha)
theorem Off.mono {σ σ2 : Sg} {S S2 : List Nat} (h : Off σ σ2 S) (hs : ∀ a, a ∈ S → a ∈ S2) : Off σ σ2 S2 := fun a ha => h a (fun q => ha (hs a q))
theorem Off.up {σ : Sg} {S : List Nat} {a : Nat} {c : (Nat → Int32) × (Nat → Int64)} (ha : a ∈ S) : Off σ (va_up σ a c) S := fun q hq => by
  have : q ≠ a := fun e => hq (e ▸ ha)
  simp [va_up, this]
theorem Off.wI {σ σ1 : Sg} {S : List Nat} {a k : Nat} {x : Int32} (h : Off σ σ1 S) (ha : a ∈ S) : Off σ (wI σ1 a k x) S := h.trans (Off.up ha)
theorem Off.wA {σ σ1 : Sg} {S : List Nat} {a : Nat} {f : Nat → Int32} (h : Off σ σ1 S) (ha : a ∈ S) : Off σ (wA σ1 a f) S := h.trans (Off.up ha)
theorem Off.wL {σ σ1 : Sg} {S : List Nat} {a k : Nat} {x : Int64} (h : Off σ σ1 S) (ha : a ∈ S) : Off σ (wL σ1 a k x) S := h.trans (Off.up ha)
/-- the fields of one object that are kept, and all other cells but those of S -/
def Fr (o : Nat) (σ σ2 : Sg) (S K : List Nat) : Prop := (∀ a, a ∉ S → a ≠ o → σ2 a = σ a) ∧ (∀ k, k ∉ K → (σ2 o).1 k = (σ o).1 k) ∧ (σ2 o).2 = (σ o).2
theorem Fr.rf {o : Nat} {σ : Sg} {S K : List Nat} : Fr o σ σ S K := ⟨fun _ _ _ => rfl, fun _ _ => rfl, rfl⟩
theorem Fr.trans {o : Nat} {σ σ2 σ3 : Sg} {S K : List Nat} (h : Fr o σ σ2 S K) (h2 : Fr o σ2 σ3 S K) : Fr o σ σ3 S K := ⟨fun a ha hb => (h2.1 a ha hb).trans (h.1 a ha hb), fun k hk => (h2.2.1 k hk).trans (h.2.1 k hk), h2.2.2.trans h.2.2⟩
theorem Fr.mono {o : Nat} {σ σ2 : Sg} {S K S2 K2 : List Nat} (h : Fr o σ σ2 S K) (hs : ∀ a, a ∈ S → a ∈ S2) (hk : ∀ a, a ∈ K → a ∈ K2) : Fr o σ σ2 S2 K2 := ⟨fun a ha hb => h.1 a (fun q => ha (hs a q)) hb, fun k q => h.2.1 k (fun z => q (hk k z)), h.2.2⟩
theorem Fr.of {o : Nat} {σ σ2 : Sg} {S K : List Nat} (h : Off σ σ2 S) (ho : o ∉ S) : Fr o σ σ2 S K := ⟨fun a ha _ => h a ha, fun k _ => by rw [h o ho], by rw [h o ho]⟩
theorem Fr.wI {o : Nat} {σ σ1 : Sg} {S K : List Nat} {a k : Nat} {x : Int32} (h : Fr o σ σ1 S K) (ha : a ∈ S) (ho : a ≠ o) : Fr o σ (wI σ1 a k x) S K := h.trans ⟨fun q hq _ => Off.up (σ := σ1) ha q hq, fun k _ => by simp [_root_.Jvm.Pilot.CCohereBenchLaw_law_r9828_5e64c7.wI, va_up, Ne.symm ho], by simp [_root_.Jvm.Pilot.CCohereBenchLaw_law_r9828_5e64c7.wI, va_up, Ne.symm ho]⟩
theorem Fr.put {o : Nat} {σ σ1 : Sg} {S K : List Nat} {k : Nat} {x : Int32} (h : Fr o σ σ1 S K) (hk : k ∈ K) : Fr o σ (_root_.Jvm.Pilot.CCohereBenchLaw_law_r9828_5e64c7.wI σ1 o k x) S K := h.trans ⟨fun q _ hq => by simp [_root_.Jvm.Pilot.CCohereBenchLaw_law_r9828_5e64c7.wI, va_up, hq], fun j hj => by
  have : j ≠ k := fun e => hj (e ▸ hk)
  simp [_root_.Jvm.Pilot.CCohereBenchLaw_law_r9828_5e64c7.wI, va_up, upd, this], by simp [_root_.Jvm.Pilot.CCohereBenchLaw_law_r9828_5e64c7.wI, va_up]⟩
theorem wI_s (σ : Sg) (a k : Nat) (x : Int32) : (wI σ a k x a).1 k = x := by simp [wI, va_up, upd]
theorem wI_k (σ : Sg) {a k j : Nat} (x : Int32) (h : j ≠ k) : (wI σ a k x a).1 j = (σ a).1 j := by simp [wI, va_up, upd, h]
theorem wI_a (σ : Sg) {a b k : Nat} (x : Int32) (h : b ≠ a) : wI σ a k x b = σ b := by simp [wI, va_up, h]
theorem wI_2 (σ : Sg) (a k b : Nat) (x : Int32) : (wI σ a k x b).2 = (σ b).2 := by
  by_cases h : b = a
  · subst h; simp [wI, va_up]
  · simp [wI, va_up, h]
theorem wI_f (σ : Sg) (a k : Nat) (x : Int32) : (wI σ a k x a).1 = upd (σ a).1 k x := by simp [wI, va_up]
theorem wA_f (σ : Sg) (a : Nat) (f : Nat → Int32) : (wA σ a f a).1 = f := by simp [wA, va_up]
theorem wA_a (σ : Sg) {a b : Nat} (f : Nat → Int32) (h : b ≠ a) : wA σ a f b = σ b := by simp [wA, va_up, h]
theorem wI_wA (σ : Sg) (a k : Nat) (f : Nat → Int32) (x : Int32) : wI (wA σ a f) a k x = wA σ a (upd f k x) := by
  funext q
  by_cases h : q = a
  · subst h; simp [wI, wA, va_up]
  · simp [wI, wA, va_up, h]
theorem wA_self (σ : Sg) (a : Nat) : wA σ a (σ a).1 = σ := by
  funext q
  by_cases h : q = a
  · subst h; simp [wA, va_up]
  · simp [wA, va_up, h]
theorem wI_eq (σ : Sg) (a k : Nat) (x : Int32) : wI σ a k x = wA σ a (upd (σ a).1 k x) := rfl
theorem cpy_0 (f g : Nat → Int32) (a b : Nat) : va_cpy f g a b 0 = g := by
  funext j
  simp [va_cpy]
  intro h1 h2
  omega
theorem cpy_s (f g : Nat → Int32) (a b k : Nat) : upd (va_cpy f g a b k) (b + k) (f (a + k)) = va_cpy f g a b (k + 1) := by
  funext j
  by_cases h : j = b + k
  · subst h
    rw [pk_us, pk_cpy_in (by omega) (by omega)]
    congr 1
    omega
  · rw [pk_un h]
    by_cases h2 : b ≤ j ∧ j < b + k
    · rw [pk_cpy_in h2.1 h2.2, pk_cpy_in (by omega) (by omega)]
    · rw [pk_cpy_out (by omega), pk_cpy_out (by omega)]
theorem s_gen {n : Nat} {M : MI} {X : CT} {Z : State → Prop} {pc : Nat} {L : List (Option Value)} {st : List Value} {σ : Sg} (k : ∀ σ2, σ2 = σ → Sw n M X Z pc L st σ2) : Sw n M X Z pc L st σ := k σ rfl
def bI (b : Bool) : Int32 := nI b.toNat
theorem bI_01 (b : Bool) : bI b = 0 ∨ bI b = 1 := by cases b <;> decide
end
section
/-! ===== what a step is, and what it does ===== -/
abbrev Lt : Type := Nat × Nat × Nat × Nat × Nat
/-- a new letter stands ahead of the letter at place j -/
def ahF (pr : Pr) (v : Vc) (x : Lt) (j : Nat) : Bool :=
  if x.2.1 ≠ v (17 + 5 * j) then decide (x.2.1 < v (17 + 5 * j)) else
  if x.2.2.1 ≠ v (18 + 5 * j) then decide (x.2.2.1 < v (18 + 5 * j)) else
  if pLo pr x.1 ≠ pLo pr (v (16 + 5 * j)) then decide (pLo pr x.1 < pLo pr (v (16 + 5 * j))) else
  if pLo pr x.1 = 0 then false else
  if x.1 ≠ v (16 + 5 * j) then decide (x.1 < v (16 + 5 * j)) else
  if x.2.2.2.1 ≠ v (19 + 5 * j) then decide (x.2.2.2.1 < v (19 + 5 * j)) else decide (x.2.2.2.2 < v (20 + 5 * j))
def posR (a : Nat → Bool) : Nat → Nat
  | 0 => 0
  | k + 1 => if a k then posR a k else k + 1
theorem posR_le (a : Nat → Bool) : ∀ k, posR a k ≤ k
  | 0 => Nat.le_refl 0
  | k + 1 => by
    unfold posR
    split
    · exact Nat.le_succ_of_le (posR_le a k)
    · exact Nat.le_refl _
def ltw (x : Lt) (w : Nat) : Nat := if w = 0 then x.1 else if w = 1 then x.2.1 else if w = 2 then x.2.2.1 else if w = 3 then x.2.2.2.1 else x.2.2.2.2
def insL (v : Vc) (p : Nat) (x : Lt) : Vc := fun j => if j < 15 then v j else if j = 15 then v 15 + 1 else if j < 16 + 5 * p then v j else if j < 16 + 5 * p + 5 then ltw x (j - (16 + 5 * p)) else v (j - 5)
def sendF (pr : Pr) (v : Vc) (x : Lt) : Bool × Vc := if v 15 = 8 then (false, v) else (true, insL v (posR (ahF pr v x) (v 15)) x)
def takeL (v : Vc) (i : Nat) : Vc := fun q => if q < 15 then v q else if q = 15 then v 15 - 1 else if q < 16 + 5 * i then v q else v (q + 5)
def staleF (pr : Pr) (v : Vc) (c : Nat) : Vc := fun q => if q = 13 then 0 else if q < 3 * pP pr ∧ q % 3 = 1 then (if q / 3 = c then 1 else 0) else if 16 ≤ q ∧ (q - 16) % 5 = 4 then 0 else v q
def mcF (pr : Pr) (arg hf : Nat) : Nat → Vc → Bool × Vc
  | 0, v => (true, v)
  | p + 1, v => if (mcF pr arg hf p v).1 = false then mcF pr arg hf p v else if p ≠ hf ∧ (mcF pr arg hf p v).2 14 / 2 ^ p % 2 = 1 then sendF pr (mcF pr arg hf p v).2 (arg, pP pr, p, hf, 0) else mcF pr arg hf p v
def b3 (b : Bool) : Nat := if b then 0 else 3
def hcl (h f : Nat) : Nat := if h / 2 ^ f % 2 = 1 then h - 2 ^ f else h
/-- an act of a cache, of the home: how it is bad, the scene, the data at hand -/
def caF (pr : Pr) (c hf op arg : Nat) (v : Vc) (hd : Nat) : Nat × Vc × Nat :=
  if op = 1 then (0, vset v (3 * c) arg, hd) else
  if op = 2 then (b3 (sendF pr v (arg, c, pP pr, c, 0)).1, (sendF pr v (arg, c, pP pr, c, 0)).2, hd) else
  if op = 3 then (b3 (sendF pr v (arg, c, pP pr, c, v (3 * c + 1))).1, (sendF pr v (arg, c, pP pr, c, v (3 * c + 1))).2, hd) else
  if op = 4 then (b3 (sendF pr v (arg, c, hf, hf, 0)).1, (sendF pr v (arg, c, hf, hf, 0)).2, hd) else
  if op = 5 then (b3 (sendF pr v (arg, c, hf, hf, v (3 * c + 1))).1, (sendF pr v (arg, c, hf, hf, v (3 * c + 1))).2, hd) else
  if op = 6 then (0, vset v (3 * c + 1) hd, hd) else
  if op = 7 then ((if v (3 * c + 1) = 0 then 2 else 0), vset v (3 * c + 2) 0, hd) else
  if op = 8 then (0, staleF pr (vset v (3 * c + 2) 0) c, 0) else (0, v, hd)
def hoF (pr : Pr) (hf op arg : Nat) (v : Vc) (hd : Nat) : Nat × Vc × Nat :=
  if op = 1 then (0, vset v 12 arg, hd) else
  if op = 2 then (b3 (sendF pr v (arg, pP pr, hf, hf, 0)).1, (sendF pr v (arg, pP pr, hf, hf, 0)).2, hd) else
  if op = 3 then (b3 (sendF pr v (arg, pP pr, hf, hf, v 13)).1, (sendF pr v (arg, pP pr, hf, hf, v 13)).2, hd) else
  if op = 4 then (b3 (mcF pr arg hf (pP pr) v).1, (mcF pr arg hf (pP pr) v).2, hd) else
  if op = 5 then (0, vset v 14 (v 14 ||| 1 * 2 ^ hf), hd) else
  if op = 6 then (0, vset v 14 (hcl (v 14) hf), hd) else
  if op = 7 then (0, vset v 14 0, hd) else
  if op = 8 then (0, vset v 13 hd, hd) else (0, v, hd)
def actF (pr : Pr) (who hf b : Nat) (v : Vc) (hd : Nat) : Nat × Vc × Nat := if who < pP pr then caF pr who hf (b / 16) (b % 16) v hd else hoF pr hf (b / 16) (b % 16) v hd
def acR (pr : Pr) (who hf : Nat) (f : Nat → Nat) : Nat → Nat × Vc × Nat → Nat × Vc × Nat
  | 0, s => s
  | k + 1, s => if (acR pr who hf f k s).1 ≠ 0 then acR pr who hf f k s else actF pr who hf (f k) (acR pr who hf f k s).2.1 (acR pr who hf f k s).2.2
/-- who, event, sender and place of the letter -/
abbrev Sp : Type := Nat × Nat × Option (Nat × Nat)
def frI (s : Sp) : Int32 := match s.2.2 with
  | none => -1
  | some q => nI q.1
def ltI (s : Sp) : Int32 := match s.2.2 with
  | none => -1
  | some q => nI q.2
def plcF (pr : Pr) (v : Vc) (s : Sp) : Nat := match s.2.2 with
  | none => v (3 * s.1) * 64 + s.2.1
  | some q => rowOf pr v q.2
def hfF (v : Vc) (s : Sp) : Nat := match s.2.2 with
  | none => s.1
  | some q => v (19 + 5 * q.2)
def upF (v : Vc) (s : Sp) : Vc × Nat := match s.2.2 with
  | none => (vset v (3 * s.1 + 2) (if s.2.1 < 2 then s.2.1 + 1 else 0), 0)
  | some q => (takeL v q.2, v (20 + 5 * q.2))
/-- a step: how it is bad, the row that is used, the scene behind it -/
def doF (pr : Pr) (v : Vc) (s : Sp) : Nat × Option Nat × Vc := match pAm pr (plcF pr v s) with
  | none => (1, none, (upF v s).1)
  | some m => ((acR pr s.1 (hfF v s) (pAc pr (plcF pr v s)) m (0, upF v s)).1, some (plcF pr v s), (acR pr s.1 (hfF v s) (pAc pr (plcF pr v s)) m (0, upF v s)).2.1)
/-! the steps of a scene -/
def ownR (pr : Pr) (v : Vc) (p : Nat) : Nat → List Sp
  | 0 => []
  | e + 1 => ownR pr v p e ++ (if v (3 * p + 2) = 0 ∧ (pAm pr (v (3 * p) * 64 + e)).isSome = true ∧ wtF pr (v (3 * p) * 64 + e) = false then [(p, e, none)] else [])
def ownsR (pr : Pr) (v : Vc) : Nat → List Sp
  | 0 => []
  | p + 1 => ownsR pr v p ++ ownR pr v p 3
def bhT (pr : Pr) (v : Vc) (i j : Nat) : Bool := decide (pLo pr (v (16 + 5 * i)) = 0 ∧ pLo pr (v (16 + 5 * j)) = 0 ∧ v (17 + 5 * i) = v (17 + 5 * j) ∧ v (18 + 5 * i) = v (18 + 5 * j))
def bhR (pr : Pr) (v : Vc) (i : Nat) : Nat → Bool
  | 0 => false
  | j + 1 => bhR pr v i j || bhT pr v i j
def comR (pr : Pr) (v : Vc) : Nat → List Sp
  | 0 => []
  | i + 1 => comR pr v i ++ (if bhR pr v i i = false ∧ wtF pr (rowOf pr v i) = false then [(v (18 + 5 * i), 3 + v (16 + 5 * i), some (v (17 + 5 * i), i))] else [])
def stepsF (pr : Pr) (v : Vc) : List Sp := ownsR pr v (pP pr) ++ comR pr v (v 15)
theorem ownR_le (pr : Pr) (v : Vc) (p : Nat) : ∀ e, (ownR pr v p e).length ≤ e
  | 0 => Nat.le_refl 0
  | e + 1 => by
    unfold ownR
    rw [List.length_append]
    have := ownR_le pr v p e
    split <;> simp <;> omega
theorem ownsR_le (pr : Pr) (v : Vc) : ∀ p, (ownsR pr v p).length ≤ 3 * p
  | 0 => Nat.le_refl 0
  | p + 1 => by
    unfold ownsR
    rw [List.length_append]
    have := ownsR_le pr v p
    have := ownR_le pr v p 3
    omega
theorem comR_le (pr : Pr) (v : Vc) : ∀ i, (comR pr v i).length ≤ i
  | 0 => Nat.le_refl 0
  | i + 1 => by
    unfold comR
    rw [List.length_append]
    have := comR_le pr v i
    split <;> simp <;> omega
theorem stepsF_le {pr : Pr} {v : Vc} (hk : PrOk pr) (hv : VOk pr v) : (stepsF pr v).length ≤ 20 := by
  unfold stepsF
  rw [List.length_append]
  have := ownsR_le pr v (pP pr)
  have := comR_le pr v (v 15)
  have := hk.1
  have := hv.2.2.2.2.1
  omega
/-- a step of a scene is one of these -/
def SpOk (pr : Pr) (v : Vc) (s : Sp) : Prop := (s.2.2 = none → s.1 < pP pr ∧ s.2.1 < 3) ∧ (∀ q, s.2.2 = some q → s.1 ≤ pP pr ∧ s.1 = v (18 + 5 * q.2) ∧ s.2.1 = 3 + v (16 + 5 * q.2) ∧ q.1 = v (17 + 5 * q.2) ∧ q.2 < v 15)
theorem ownR_ok {pr : Pr} {v : Vc} {p : Nat} (hp : p < pP pr) : ∀ e, e ≤ 3 → ∀ s, s ∈ ownR pr v p e → SpOk pr v s
  | 0, _, s, h => by cases h
  | e + 1, he, s, h => by
    unfold ownR at h
    rcases List.mem_append.mp h with h | h
    · exact ownR_ok hp e (by omega) s h
    · split at h
      · have := List.mem_singleton.mp h
        subst this
        exact ⟨fun _ => ⟨hp, by show e < 3; omega⟩, fun q hq => by cases hq⟩
      · cases h
theorem ownsR_ok {pr : Pr} {v : Vc} : ∀ p, p ≤ pP pr → ∀ s, s ∈ ownsR pr v p → SpOk pr v s
  | 0, _, s, h => by cases h
  | p + 1, hp, s, h => by
    unfold ownsR at h
    rcases List.mem_append.mp h with h | h
    · exact ownsR_ok p (by omega) s h
    · exact ownR_ok (by omega) 3 (Nat.le_refl 3) s h
theorem comR_ok {pr : Pr} {v : Vc} (hv : VOk pr v) : ∀ i, i ≤ v 15 → ∀ s, s ∈ comR pr v i → SpOk pr v s
  | 0, _, s, h => by cases h
  | i + 1, hi, s, h => by
    unfold comR at h
    rcases List.mem_append.mp h with h | h
    · exact comR_ok hv i (by omega) s h
    · split at h
      · have := List.mem_singleton.mp h
        subst this
        refine ⟨fun q => (by cases q), fun q hq => ?_⟩
        cases hq
        exact ⟨(hv.2.2.2.2.2.1 i (by omega)).2.2.1, rfl, rfl, rfl, by show i < _; omega⟩
      · cases h
theorem stepsF_ok {pr : Pr} {v : Vc} (hv : VOk pr v) {s : Sp} (h : s ∈ stepsF pr v) : SpOk pr v s := by
  unfold stepsF at h
  rcases List.mem_append.mp h with h | h
  · exact ownsR_ok _ (Nat.le_refl _) s h
  · exact comR_ok hv _ (Nat.le_refl _) s h
theorem plcF_lt {pr : Pr} {v : Vc} (hv : VOk pr v) {s : Sp} (h : SpOk pr v s) : plcF pr v s < 2048 := by
  unfold plcF
  cases hs : s.2.2 with
  | none =>
    obtain ⟨h1, h2⟩ := h.1 hs
    have := (hv.1 _ h1).1
    show v (3 * s.1) * 64 + s.2.1 < 2048
    omega
  | some q => exact rowOf_lt hv (h.2 q hs).2.2.2.2
/-! what holds of a scene goes on to hold -/
theorem VOk.send {pr : Pr} {v : Vc} {x : Lt} (hv : VOk pr v) (h1 : x.1 < 16) (h2 : x.2.1 ≤ pP pr) (h3 : x.2.2.1 ≤ pP pr) (h4 : x.2.2.2.1 < pP pr) (h5 : x.2.2.2.2 < 2) (hP : pP pr ≤ 4) : VOk pr (sendF pr v x).2 := by
  unfold sendF
  by_cases hc : v 15 = 8
  · rw [if_pos hc]; exact hv
  rw [if_neg hc]
  have hp := posR_le (ahF pr v x) (v 15)
  show VOk pr (insL v (posR (ahF pr v x) (v 15)) x)
  generalize posR (ahF pr v x) (v 15) = p at hp
  obtain ⟨a1, a2, a3, a4, a5, a6, a7, a8⟩ := hv
  have low : ∀ j, j < 15 → insL v p x j = v j := fun j hj => by simp [insL, hj]
  have e15 : insL v p x 15 = v 15 + 1 := by simp [insL]
  refine ⟨fun q hq => ?_, by rw [low 12 (by decide)]; exact a2, by rw [low 13 (by decide)]; exact a3, by rw [low 14 (by decide)]; exact a4, by rw [e15]; omega, fun i hi => ?_, fun j h1 h2 => by rw [low j (by omega)]; exact a7 j h1 h2, fun j hj => ?_⟩
  · rw [low _ (by omega), low _ (by omega), low _ (by omega)]
    exact a1 q hq
  · rw [e15] at hi
    rcases Nat.lt_trichotomy i p with h | h | h
    · have g := a6 i (by omega)
      have t : ∀ w, w < 5 → insL v p x (16 + w + 5 * i) = v (16 + w + 5 * i) := fun w hw => by unfold insL; rw [if_neg (by omega), if_neg (by omega), if_pos (by omega)]
      rw [t 0 (by decide), t 1 (by decide), t 2 (by decide), t 3 (by decide), t 4 (by decide)]
      exact g
    · subst h
      have t : ∀ w, w < 5 → insL v i x (16 + w + 5 * i) = ltw x w := fun w hw => by
        unfold insL; rw [if_neg (by omega), if_neg (by omega), if_neg (by omega), if_pos (by omega)]
        congr 1; omega
      rw [t 0 (by decide), t 1 (by decide), t 2 (by decide), t 3 (by decide), t 4 (by decide)]
      exact ⟨h1, h2, h3, h4, h5⟩
    · have g := a6 (i - 1) (by omega)
      have t : ∀ w, w < 5 → insL v p x (16 + w + 5 * i) = v (16 + w + 5 * (i - 1)) := fun w hw => by
        unfold insL; rw [if_neg (by omega), if_neg (by omega), if_neg (by omega), if_neg (by omega)]
        congr 1; omega
      rw [t 0 (by decide), t 1 (by decide), t 2 (by decide), t 3 (by decide), t 4 (by decide)]
      exact g
  · rw [e15] at hj
    unfold insL
    rw [if_neg (by omega), if_neg (by omega), if_neg (by omega), if_neg (by omega)]
    exact a8 _ (by omega)
theorem VOk.take {pr : Pr} {v : Vc} {i : Nat} (hv : VOk pr v) (hi : i < v 15) (hP : pP pr ≤ 4) : VOk pr (takeL v i) := by
  obtain ⟨a1, a2, a3, a4, a5, a6, a7, a8⟩ := hv
  have low : ∀ j, j < 15 → takeL v i j = v j := fun j hj => by simp [takeL, hj]
  have e15 : takeL v i 15 = v 15 - 1 := by simp [takeL]
  refine ⟨fun q hq => ?_, by rw [low 12 (by decide)]; exact a2, by rw [low 13 (by decide)]; exact a3, by rw [low 14 (by decide)]; exact a4, by rw [e15]; omega, fun j hj => ?_, fun j h1 h2 => by rw [low j (by omega)]; exact a7 j h1 h2, fun j hj => ?_⟩
  · rw [low _ (by omega), low _ (by omega), low _ (by omega)]
    exact a1 q hq
  · rw [e15] at hj
    by_cases h : j < i
    · have t : ∀ w, w < 5 → takeL v i (16 + w + 5 * j) = v (16 + w + 5 * j) := fun w hw => by unfold takeL; rw [if_neg (by omega), if_neg (by omega), if_pos (by omega)]
      rw [t 0 (by decide), t 1 (by decide), t 2 (by decide), t 3 (by decide), t 4 (by decide)]
      exact a6 j (by omega)
    · have t : ∀ w, w < 5 → takeL v i (16 + w + 5 * j) = v (16 + w + 5 * (j + 1)) := fun w hw => by
        unfold takeL; rw [if_neg (by omega), if_neg (by omega), if_neg (by omega)]
        congr 1
      rw [t 0 (by decide), t 1 (by decide), t 2 (by decide), t 3 (by decide), t 4 (by decide)]
      exact a6 (j + 1) (by omega)
  · rw [e15] at hj
    unfold takeL
    rw [if_neg (by omega), if_neg (by omega)]
    split
    · omega
    · exact a8 _ (by omega)
theorem VOk.cell {pr : Pr} {v : Vc} {p w x : Nat} (hv : VOk pr v) (hp : p < pP pr) (hP : pP pr ≤ 4) (hw : (w = 0 ∧ x < 16) ∨ (w = 1 ∧ x < 2) ∨ (w = 2 ∧ x < 3)) : VOk pr (vset v (3 * p + w) x) := by
  obtain ⟨a1, a2, a3, a4, a5, a6, a7, a8⟩ := hv
  have far : ∀ j, j ≠ 3 * p + w → vset v (3 * p + w) x j = v j := fun j hj => vset_n v x hj
  have e15 : vset v (3 * p + w) x 15 = v 15 := far 15 (by omega)
  refine ⟨fun q hq => ?_, by rw [far 12 (by omega)]; exact a2, by rw [far 13 (by omega)]; exact a3, by rw [far 14 (by omega)]; exact a4, by rw [e15]; exact a5, fun i hi => ?_, fun j h1 h2 => by rw [far j (by omega)]; exact a7 j h1 h2, fun j hj => ?_⟩
  · have := a1 q hq
    by_cases h : q = p
    · subst h
      rcases hw with ⟨rfl, hx⟩ | ⟨rfl, hx⟩ | ⟨rfl, hx⟩
      · rw [Nat.add_zero, vset_s, vset_n _ _ (by omega), vset_n _ _ (by omega)]; exact ⟨hx, this.2⟩
      · rw [vset_s, vset_n _ _ (by omega), vset_n _ _ (by omega)]; exact ⟨this.1, hx, this.2.2⟩
      · rw [vset_s, vset_n _ _ (by omega), vset_n _ _ (by omega)]; exact ⟨this.1, this.2.1, hx⟩
    · rw [far _ (by omega), far _ (by omega), far _ (by omega)]; exact this
  · rw [e15] at hi
    rw [far _ (by omega), far _ (by omega), far _ (by omega), far _ (by omega), far _ (by omega)]
    exact a6 i hi
  · rw [e15] at hj
    rw [far _ (by omega)]
    exact a8 j hj
theorem VOk.home {pr : Pr} {v : Vc} {w x : Nat} (hv : VOk pr v) (hP : pP pr ≤ 4) (hw : (w = 12 ∧ x < 16) ∨ (w = 13 ∧ x < 2) ∨ (w = 14 ∧ x < 16)) : VOk pr (vset v w x) := by
  obtain ⟨a1, a2, a3, a4, a5, a6, a7, a8⟩ := hv
  have far : ∀ j, j ≠ w → vset v w x j = v j := fun j hj => vset_n v x hj
  have e15 : vset v w x 15 = v 15 := far 15 (by omega)
  refine ⟨fun q hq => ?_, ?_, ?_, ?_, by rw [e15]; exact a5, fun i hi => ?_, fun j h1 h2 => by rw [far j (by omega)]; exact a7 j h1 h2, fun j hj => ?_⟩
  · rw [far _ (by omega), far _ (by omega), far _ (by omega)]; exact a1 q hq
  · by_cases h : w = 12
    · subst h; rw [vset_s]; omega
    · rw [far 12 (Ne.symm h)]; exact a2
  · by_cases h : w = 13
    · subst h; rw [vset_s]; omega
    · rw [far 13 (Ne.symm h)]; exact a3
  · by_cases h : w = 14
    · subst h; rw [vset_s]; omega
    · rw [far 14 (Ne.symm h)]; exact a4
  · rw [e15] at hi
    rw [far _ (by omega), far _ (by omega), far _ (by omega), far _ (by omega), far _ (by omega)]
    exact a6 i hi
  · rw [e15] at hj
    rw [far _ (by omega)]
    exact a8 j hj
theorem VOk.stale {pr : Pr} {v : Vc} {c : Nat} (hv : VOk pr v) (hP : pP pr ≤ 4) : VOk pr (staleF pr v c) := by
  obtain ⟨a1, a2, a3, a4, a5, a6, a7, a8⟩ := hv
  have e15 : staleF pr v c 15 = v 15 := by unfold staleF; rw [if_neg (by decide), if_neg (by omega), if_neg (by omega)]
  have le2 : ∀ q, q < 3 * pP pr → q % 3 = 1 → staleF pr v c q < 2 := fun q h1 h2 => by
    unfold staleF; rw [if_neg (by omega), if_pos ⟨h1, h2⟩]; split <;> omega
  refine ⟨fun q hq => ⟨?_, le2 _ (by omega) (by omega), ?_⟩, ?_, ?_, ?_, by rw [e15]; exact a5, fun i hi => ?_, fun j h1 h2 => ?_, fun j hj => ?_⟩
  · unfold staleF; rw [if_neg (by omega), if_neg (by omega), if_neg (by omega)]; exact (a1 q hq).1
  · unfold staleF; rw [if_neg (by omega), if_neg (by omega), if_neg (by omega)]; exact (a1 q hq).2.2
  · unfold staleF; rw [if_neg (by omega), if_neg (by omega), if_neg (by omega)]; exact a2
  · unfold staleF; rw [if_pos rfl]; decide
  · unfold staleF; rw [if_neg (by omega), if_neg (by omega), if_neg (by omega)]; exact a4
  · rw [e15] at hi
    have t : ∀ w, w < 4 → staleF pr v c (16 + w + 5 * i) = v (16 + w + 5 * i) := fun w hw => by unfold staleF; rw [if_neg (by omega), if_neg (by omega), if_neg (by omega)]
    rw [t 0 (by decide), t 1 (by decide), t 2 (by decide), t 3 (by decide)]
    refine ⟨(a6 i hi).1, (a6 i hi).2.1, (a6 i hi).2.2.1, (a6 i hi).2.2.2.1, ?_⟩
    unfold staleF; rw [if_neg (by omega), if_neg (by omega), if_pos (by omega)]; decide
  · unfold staleF
    rw [if_neg (by omega), if_neg (by omega), if_neg (by omega)]; exact a7 j h1 h2
  · rw [e15] at hj
    unfold staleF
    rw [if_neg (by omega), if_neg (by omega)]
    split
    · rfl
    · exact a8 j hj
theorem VOk.mc {pr : Pr} {arg hf : Nat} (ha : arg < 16) (hf0 : hf < pP pr) (hP : pP pr ≤ 4) : ∀ (p : Nat), p ≤ pP pr → ∀ v, VOk pr v → VOk pr (mcF pr arg hf p v).2
  | 0, _, v, hv => hv
  | p + 1, hp, v, hv => by
    have ih := VOk.mc ha hf0 hP p (by omega) v hv
    unfold mcF
    split
    · exact ih
    · split
      · exact ih.send ha (Nat.le_refl _) (by show p ≤ _; omega) hf0 (by show 0 < 2; decide) hP
      · exact ih
theorem or16 : ∀ h, h < 16 → ∀ f, f < 4 → h ||| 1 * 2 ^ f < 16 := by decide
theorem hcl16 : ∀ h, h < 16 → ∀ f, f < 4 → hcl h f < 16 := by decide
theorem hclI : ∀ h, h < 16 → ∀ f, f < 4 → othI h f = nI (hcl h f) := by decide
theorem VOk.ca {pr : Pr} {c hf op arg : Nat} {v : Vc} {hd : Nat} (hv : VOk pr v) (hP : pP pr ≤ 4) (hc : c < pP pr) (hf0 : hf < pP pr) (ha : arg < 16) (hd2 : hd < 2) : VOk pr (caF pr c hf op arg v hd).2.1 ∧ (caF pr c hf op arg v hd).2.2 < 2 := by
  have hc1 := (hv.1 c hc).2.1
  unfold caF
  split
  · exact ⟨hv.cell (w := 0) hc hP (Or.inl ⟨rfl, ha⟩), hd2⟩
  split
  · exact ⟨hv.send ha (Nat.le_of_lt hc) (Nat.le_refl _) hc (by show 0 < 2; decide) hP, hd2⟩
  split
  · exact ⟨hv.send ha (Nat.le_of_lt hc) (Nat.le_refl _) hc hc1 hP, hd2⟩
  split
  · exact ⟨hv.send ha (Nat.le_of_lt hc) (Nat.le_of_lt hf0) hf0 (by show 0 < 2; decide) hP, hd2⟩
  split
  · exact ⟨hv.send ha (Nat.le_of_lt hc) (Nat.le_of_lt hf0) hf0 hc1 hP, hd2⟩
  split
  · exact ⟨hv.cell hc hP (Or.inr (Or.inl ⟨rfl, hd2⟩)), hd2⟩
  split
  · exact ⟨hv.cell hc hP (Or.inr (Or.inr ⟨rfl, by decide⟩)), hd2⟩
  split
  · exact ⟨(hv.cell hc hP (Or.inr (Or.inr ⟨rfl, by decide⟩))).stale hP, by show 0 < 2; decide⟩
  · exact ⟨hv, hd2⟩
theorem VOk.ho {pr : Pr} {hf op arg : Nat} {v : Vc} {hd : Nat} (hv : VOk pr v) (hP : pP pr ≤ 4) (hf0 : hf < pP pr) (ha : arg < 16) (hd2 : hd < 2) : VOk pr (hoF pr hf op arg v hd).2.1 ∧ (hoF pr hf op arg v hd).2.2 < 2 := by
  have h13 := hv.2.2.1
  have h14 := hv.2.2.2.1
  unfold hoF
  split
  · exact ⟨hv.home hP (Or.inl ⟨rfl, ha⟩), hd2⟩
  split
  · exact ⟨hv.send ha (Nat.le_refl _) (Nat.le_of_lt hf0) hf0 (by show 0 < 2; decide) hP, hd2⟩
  split
  · exact ⟨hv.send ha (Nat.le_refl _) (Nat.le_of_lt hf0) hf0 h13 hP, hd2⟩
  split
  · exact ⟨VOk.mc ha hf0 hP _ (Nat.le_refl _) v hv, hd2⟩
  split
  · exact ⟨hv.home hP (Or.inr (Or.inr ⟨rfl, or16 _ h14 _ (by omega)⟩)), hd2⟩
  split
  · exact ⟨hv.home hP (Or.inr (Or.inr ⟨rfl, hcl16 _ h14 _ (by omega)⟩)), hd2⟩
  split
  · exact ⟨hv.home hP (Or.inr (Or.inr ⟨rfl, by decide⟩)), hd2⟩
  split
  · exact ⟨hv.home hP (Or.inr (Or.inl ⟨rfl, hd2⟩)), hd2⟩
  · exact ⟨hv, hd2⟩
theorem VOk.ac {pr : Pr} {who hf : Nat} {f : Nat → Nat} (hP : pP pr ≤ 4) (hf0 : hf < pP pr) : ∀ (k : Nat) (s : Nat × Vc × Nat), VOk pr s.2.1 → s.2.2 < 2 → VOk pr (acR pr who hf f k s).2.1 ∧ (acR pr who hf f k s).2.2 < 2
  | 0, s, hv, h2 => ⟨hv, h2⟩
  | k + 1, s, hv, h2 => by
    have ih := VOk.ac (who := who) (f := f) hP hf0 k s hv h2
    unfold acR
    split
    · exact ih
    · unfold actF
      split
      · rename_i hw
        exact ih.1.ca hP hw hf0 (Nat.mod_lt _ (by decide)) ih.2
      · exact ih.1.ho hP hf0 (Nat.mod_lt _ (by decide)) ih.2
theorem VOk.up {pr : Pr} {v : Vc} {s : Sp} (hv : VOk pr v) (hP : pP pr ≤ 4) (hs : SpOk pr v s) : VOk pr (upF v s).1 ∧ (upF v s).2 < 2 ∧ hfF v s < pP pr := by
  unfold upF hfF
  cases h : s.2.2 with
  | none =>
    obtain ⟨h1, h2⟩ := hs.1 h
    exact ⟨hv.cell h1 hP (Or.inr (Or.inr ⟨rfl, by split <;> omega⟩)), by show 0 < 2; decide, h1⟩
  | some q =>
    obtain ⟨h1, h2, h3, h4, h5⟩ := hs.2 q h
    have := hv.2.2.2.2.2.1 q.2 h5
    exact ⟨hv.take h5 hP, this.2.2.2.2, this.2.2.2.1⟩
theorem VOk.doF {pr : Pr} {v : Vc} {s : Sp} (hv : VOk pr v) (hP : pP pr ≤ 4) (hs : SpOk pr v s) : VOk pr (doF pr v s).2.2 := by
  obtain ⟨h1, h2, h3⟩ := hv.up hP hs
  unfold _root_.Jvm.Pilot.CCohereBenchLaw_law_r9828_5e64c7.doF
  split
  · exact h1
  · exact (VOk.ac hP h3 _ (0, upF v s) h1 h2).1
theorem VOk_v0 {pr : Pr} (hP : pP pr ≤ 4) : VOk pr v0 := by
  have z : ∀ j, j ≠ 13 → v0 j = 0 := fun j h => by simp [v0, h]
  refine ⟨fun p hp => ?_, by decide, by decide, by decide, by decide, fun i hi => ?_, fun j h1 h2 => z j (by omega), fun j hj => z j (by omega)⟩
  · rw [z _ (by omega), z _ (by omega), z _ (by omega)]; decide
  · rw [z 15 (by decide)] at hi; omega
end
section
/-! ===== letters: numbers that hold six parts ===== -/
theorem am (a k : Nat) : a &&& (2 ^ k - 1) = a % 2 ^ k := Nat.and_two_pow_sub_one_eq_mod a k
theorem tb_low (k : Nat) (a b : Nat) (h : a < 2 ^ k) : b * 2 ^ k ||| a = b * 2 ^ k + a := by
  rw [Nat.mul_comm]; exact (Nat.two_pow_add_eq_or_of_lt h b).symm
set_option maxRecDepth 100000 in
set_option maxHeartbeats 4000000 in
theorem c_X4_kindOf {n : Nat} {σ : Sg} (c : Nat) (hc : c < 2 ^ 31) : Sm n mX4_kindOf [.int (nI c)] σ (qi fun r σ2 => r = nI (c / 8 % 16) ∧ σ2 = σ) := by
  refine Sm.of mk_X4_kindOf (Nat.le_of_ble_eq_true rfl) rfl (fun X hX => ?_)
  refine s_iload_n hX dX4_kindOf_0 rfl ?_
  refine s_iconst (v := nI 3) hX dX4_kindOf_1 (by decide) ?_
  refine s_ishr_n hX dX4_kindOf_2 (by decide) (by omega) ?_
  refine s_bipush (v := nI 15) hX dX4_kindOf_3 (by decide) ?_
  refine s_iand_n hX dX4_kindOf_5 ?_
  refine s_iret hX dX4_kindOf_6 rfl rfl ?_
  exact ⟨by rw [show (15 : Nat) = 2 ^ 4 - 1 from rfl, am], rfl⟩

set_option maxRecDepth 100000 in
set_option maxHeartbeats 4000000 in
theorem c_X4_fromOf {n : Nat} {σ : Sg} (c : Nat) (hc : c < 2 ^ 31) : Sm n mX4_fromOf [.int (nI c)] σ (qi fun r σ2 => r = nI (c / 2048 % 8) ∧ σ2 = σ) := by
  refine Sm.of mk_X4_fromOf (Nat.le_of_ble_eq_true rfl) rfl (fun X hX => ?_)
  refine s_iload_n hX dX4_fromOf_0 rfl ?_
  refine s_bipush (v := nI 11) hX dX4_fromOf_1 (by decide) ?_
  refine s_ishr_n hX dX4_fromOf_3 (by decide) (by omega) ?_
  refine s_bipush (v := nI 7) hX dX4_fromOf_4 (by decide) ?_
  refine s_iand_n hX dX4_fromOf_6 ?_
  refine s_iret hX dX4_fromOf_7 rfl rfl ?_
  exact ⟨by rw [show (7 : Nat) = 2 ^ 3 - 1 from rfl, am], rfl⟩

set_option maxRecDepth 100000 in
set_option maxHeartbeats 4000000 in
theorem c_X4_toOf {n : Nat} {σ : Sg} (c : Nat) (hc : c < 2 ^ 31) : Sm n mX4_toOf [.int (nI c)] σ (qi fun r σ2 => r = nI (c / 256 % 8) ∧ σ2 = σ) := by
  refine Sm.of mk_X4_toOf (Nat.le_of_ble_eq_true rfl) rfl (fun X hX => ?_)
  refine s_iload_n hX dX4_toOf_0 rfl ?_
  refine s_bipush (v := nI 8) hX dX4_toOf_1 (by decide) ?_
  refine s_ishr_n hX dX4_toOf_3 (by decide) (by omega) ?_
  refine s_bipush (v := nI 7) hX dX4_toOf_4 (by decide) ?_
  refine s_iand_n hX dX4_toOf_6 ?_
  refine s_iret hX dX4_toOf_7 rfl rfl ?_
  exact ⟨by rw [show (7 : Nat) = 2 ^ 3 - 1 from rfl, am], rfl⟩

set_option maxRecDepth 100000 in
set_option maxHeartbeats 4000000 in
theorem c_X4_forOf {n : Nat} {σ : Sg} (c : Nat) (hc : c < 2 ^ 31) : Sm n mX4_forOf [.int (nI c)] σ (qi fun r σ2 => r = nI (c / 2 % 4) ∧ σ2 = σ) := by
  refine Sm.of mk_X4_forOf (Nat.le_of_ble_eq_true rfl) rfl (fun X hX => ?_)
  refine s_iload_n hX dX4_forOf_0 rfl ?_
  refine s_iconst (v := nI 1) hX dX4_forOf_1 (by decide) ?_
  refine s_ishr_n hX dX4_forOf_2 (by decide) (by omega) ?_
  refine s_iconst (v := nI 3) hX dX4_forOf_3 (by decide) ?_
  refine s_iand_n hX dX4_forOf_4 ?_
  refine s_iret hX dX4_forOf_5 rfl rfl ?_
  exact ⟨by rw [show (3 : Nat) = 2 ^ 2 - 1 from rfl, am], rfl⟩

set_option maxRecDepth 100000 in
set_option maxHeartbeats 4000000 in
theorem c_X4_freshOf {n : Nat} {σ : Sg} (c : Nat) (hc : c < 2 ^ 31) : Sm n mX4_freshOf [.int (nI c)] σ (qi fun r σ2 => r = nI (c % 2) ∧ σ2 = σ) := by
  refine Sm.of mk_X4_freshOf (Nat.le_of_ble_eq_true rfl) rfl (fun X hX => ?_)
  refine s_iload_n hX dX4_freshOf_0 rfl ?_
  refine s_iconst (v := nI 1) hX dX4_freshOf_1 (by decide) ?_
  refine s_iand_n hX dX4_freshOf_2 ?_
  refine s_iret hX dX4_freshOf_3 rfl rfl ?_
  exact ⟨by rw [show (1 : Nat) = 2 ^ 1 - 1 from rfl, am], rfl⟩
end
section
/-! ===== the reference: its cells in these words ===== -/
def PrM (σ : Sg) (pr : Pr) : Prop := (σ 53).1 0 = nI (pP pr) ∧ (∀ k, k < 16 → (σ 54).1 k = nI (pLo pr k)) ∧ (∀ s, s < 16 → (σ 55).1 s = nI (pRi pr s)) ∧ (∀ a, a < 2048 → (σ 56).1 a = amv (pAm pr a)) ∧ (∀ a, a < 2048 → ∀ m, pAm pr a = some m → ∀ k, k < m → (σ 57).1 (8 * a + k) = nI (pAc pr a k))
def Vat (σ : Sg) (a b : Nat) (v : Vc) : Prop := ∀ j, j < 56 → (σ a).1 (b + j) = nI (v j)
theorem Vat.at0 {σ : Sg} {a : Nat} {v : Vc} (h : Vat σ a 0 v) (j : Nat) (hj : j < 56) : (σ a).1 j = nI (v j) := by have := h j hj; rwa [Nat.zero_add] at this
theorem Vat.kept {σ σ2 : Sg} {a b : Nat} {v : Vc} (h : Vat σ a b v) (e : σ2 a = σ a) : Vat σ2 a b v := fun j hj => by rw [e]; exact h j hj
theorem PrM.kept {σ σ2 : Sg} {pr : Pr} (h : PrM σ pr) (e : (σ2 53).1 0 = (σ 53).1 0) (e1 : σ2 54 = σ 54) (e2 : σ2 55 = σ 55) (e3 : σ2 56 = σ 56) (e4 : σ2 57 = σ 57) : PrM σ2 pr := ⟨e.trans h.1, by rw [e1]; exact h.2.1, by rw [e2]; exact h.2.2.1, by rw [e3]; exact h.2.2.2.1, by rw [e4]; exact h.2.2.2.2⟩
theorem PrM.fr {σ σ2 : Sg} {pr : Pr} {S K : List Nat} (h : PrM σ pr) (f : Fr 53 σ σ2 S K) (hk : 0 ∉ K) (h1 : 54 ∉ S) (h2 : 55 ∉ S) (h3 : 56 ∉ S) (h4 : 57 ∉ S) : PrM σ2 pr := h.kept (f.2.1 0 hk) (f.1 54 h1 (by decide)) (f.1 55 h2 (by decide)) (f.1 56 h3 (by decide)) (f.1 57 h4 (by decide))
theorem PrM.off {σ σ2 : Sg} {pr : Pr} {S : List Nat} (h : PrM σ pr) (f : Off σ σ2 S) (h0 : 53 ∉ S) (h1 : 54 ∉ S) (h2 : 55 ∉ S) (h3 : 56 ∉ S) (h4 : 57 ∉ S) : PrM σ2 pr := h.kept (by rw [f 53 h0]) (f 54 h1) (f 55 h2) (f 56 h3) (f 57 h4)
theorem Vat.off {σ σ2 : Sg} {a b : Nat} {v : Vc} {S : List Nat} (h : Vat σ a b v) (f : Off σ σ2 S) (ha : a ∉ S) : Vat σ2 a b v := h.kept (f a ha)
theorem Vat.fr {σ σ2 : Sg} {a b : Nat} {v : Vc} {S K : List Nat} (h : Vat σ a b v) (f : Fr 53 σ σ2 S K) (ha : a ∉ S) (h0 : a ≠ 53) : Vat σ2 a b v := h.kept (f.1 a ha h0)
set_option maxRecDepth 100000 in
set_option maxHeartbeats 4000000 in
theorem c_X11_copy {n : Nat} {σ : Sg} {f t lf lt a b : Nat} (hf : sh f = .inr (0, lf)) (ht : sh t = .inr (0, lt)) (hfn : f < n) (htn : t < n) (hne : f ≠ t) (ha : a + 56 ≤ lf) (hb : b + 56 ≤ lt) (hlf : lf < 2 ^ 31) (hlt : lt < 2 ^ 31) : Sm n mX11_copy [.ref f, .int (nI a), .ref t, .int (nI b)] σ (qv fun σ2 => σ2 = wA σ t (va_cpy (σ f).1 (σ t).1 a b 56)) := by
  refine Sm.of mk_X11_copy (Nat.le_of_ble_eq_true rfl) rfl (fun X hX => ?_)
  have lp : ∀ m k, k + m = 56 → Sw n mX11_copy X (ZS n mX11_copy (qv fun σ2 => σ2 = wA σ t (va_cpy (σ f).1 (σ t).1 a b 56)) X) 3 [some (.ref f), some (.int (nI a)), some (.ref t), some (.int (nI b)), some (.int (nI k))] [] (wA σ t (va_cpy (σ f).1 (σ t).1 a b k)) := by
    intro m
    induction m with
    | zero =>
      intro k hk
      refine s_iload hX dX11_copy_3 rfl ?_
      refine s_bipush (v := nI 56) hX dX11_copy_5 (by decide) ?_
      refine s_icmp_ge_n (tgt := 28) hX dX11_copy_7 (by decide) (by omega) (by omega) (fun q7 => ?_) (fun q7 => ?_)
      · refine s_vret hX dX11_copy_28 rfl rfl ?_
        rw [show k = 56 by omega]
      · omega
    | succ m ih =>
      intro k hk
      refine s_iload hX dX11_copy_3 rfl ?_
      refine s_bipush (v := nI 56) hX dX11_copy_5 (by decide) ?_
      refine s_icmp_ge_n (tgt := 28) hX dX11_copy_7 (by decide) (by omega) (by omega) (fun q7 => ?_) (fun q7 => ?_)
      · omega
      · refine s_aload_n hX dX11_copy_10 rfl ?_
        refine s_iload_n hX dX11_copy_11 rfl ?_
        refine s_iload hX dX11_copy_12 rfl ?_
        refine s_iadd_n hX dX11_copy_14 ?_
        refine s_aload_n hX dX11_copy_15 rfl ?_
        refine s_iload_n hX dX11_copy_16 rfl ?_
        refine s_iload hX dX11_copy_17 rfl ?_
        refine s_iadd_n hX dX11_copy_19 ?_
        refine s_iald (x := (σ f).1 (a + k)) hX dX11_copy_20 hf hfn (by omega) hlf (by rw [wA_a _ _ hne]) ?_
        refine s_iast hX dX11_copy_21 ht htn (by omega) hlt ?_
        refine s_eq (wI_wA _ _ _ _ _) ?_
        rw [cpy_s]
        refine s_iinc_n (c := 1) hX dX11_copy_22 rfl (by decide) rfl st_5_4 ?_
        refine s_goto (tgt := 3) hX dX11_copy_25 (by decide) ?_
        exact ih (k + 1) (by omega)
  refine s_iconst (v := nI 0) hX dX11_copy_0 (by decide) ?_
  refine s_istore hX dX11_copy_1 (Nat.le_of_ble_eq_true rfl) rfl st_5_4 ?_
  refine s_eq (σ2 := wA σ t (va_cpy (σ f).1 (σ t).1 a b 0)) (by rw [cpy_0, wA_self]) ?_
  exact lp 56 0 (by omega)
set_option maxRecDepth 100000 in
set_option maxHeartbeats 4000000 in
theorem c_X11_first {σ : Sg} : Sm 77 mX11_first [.ref 53] σ (qv fun σ2 => Off σ σ2 [59] ∧ Vat σ2 59 0 v0) := by
  refine Sm.of mk_X11_first (Nat.le_of_ble_eq_true rfl) rfl (fun X hX => ?_)
  have lp : ∀ m k, k + m = 56 → ∀ σ1, Off σ σ1 [59] → (∀ j, j < k → (σ1 59).1 j = 0) → Sw 77 mX11_first X (ZS 77 mX11_first (qv fun σ2 => Off σ σ2 [59] ∧ Vat σ2 59 0 v0) X) 2 [some (.ref 53), some (.int (nI k))] [] σ1 := by
    intro m
    induction m with
    | zero =>
      intro k hk σ1 ho hz
      refine s_iload_n hX dX11_first_2 rfl ?_
      refine s_bipush (v := nI 56) hX dX11_first_3 (by decide) ?_
      refine s_icmp_ge_n (tgt := 21) hX dX11_first_5 (by decide) (by omega) (by omega) (fun q5 => ?_) (fun q5 => ?_)
      · refine s_aload_n hX dX11_first_21 rfl ?_
        refine s_getR hX dX11_first_22 fl_X11_30 rfl rfl (by omega) ?_
        refine s_bipush (v := nI 13) hX dX11_first_25 (by decide) ?_
        refine s_iconst (v := nI 1) hX dX11_first_27 (by decide) ?_
        refine s_iast hX dX11_first_28 rfl (by omega) (by omega) (by decide) ?_
        refine s_vret hX dX11_first_29 rfl rfl ?_
        refine ⟨ho.wI (by decide), fun j hj => ?_⟩
        rw [Nat.zero_add]
        by_cases h : j = 13
        · subst h; rw [wI_s]; rfl
        · rw [wI_k _ _ h, hz j (by omega)]
          simp [v0, h]; rfl
      · omega
    | succ m ih =>
      intro k hk σ1 ho hz
      refine s_iload_n hX dX11_first_2 rfl ?_
      refine s_bipush (v := nI 56) hX dX11_first_3 (by decide) ?_
      refine s_icmp_ge_n (tgt := 21) hX dX11_first_5 (by decide) (by omega) (by omega) (fun q5 => ?_) (fun q5 => ?_)
      · omega
      · refine s_aload_n hX dX11_first_8 rfl ?_
        refine s_getR hX dX11_first_9 fl_X11_30 rfl rfl (by omega) ?_
        refine s_iload_n hX dX11_first_12 rfl ?_
        refine s_iconst (v := nI 0) hX dX11_first_13 (by decide) ?_
        refine s_iast hX dX11_first_14 rfl (by omega) (by omega) (by decide) ?_
        refine s_iinc_n (c := 1) hX dX11_first_15 rfl (by decide) rfl st_2_1 ?_
        refine s_goto (tgt := 2) hX dX11_first_18 (by decide) ?_
        refine ih (k + 1) (by omega) _ (ho.wI (by decide)) (fun j hj => ?_)
        by_cases h : j = k
        · subst h; rw [wI_s]; rfl
        · rw [wI_k _ _ h, hz j (by omega)]
  refine s_iconst (v := nI 0) hX dX11_first_0 (by decide) ?_
  refine s_istore_n hX dX11_first_1 (Nat.le_of_ble_eq_true rfl) rfl st_2_1 ?_
  exact lp 56 0 (by omega) σ Off.rf (fun j hj => absurd hj (Nat.not_lt_zero j))
set_option maxRecDepth 100000 in
set_option maxHeartbeats 4000000 in
theorem c_X11_letterAt {σ : Sg} {v : Vc} (hN : Vat σ 59 0 v) (i w : Nat) (hi : 16 + 5 * i + w < 56) : Sm 77 mX11_letterAt [.ref 53, .int (nI i), .int (nI w)] σ (qi fun r σ2 => r = nI (v (16 + 5 * i + w)) ∧ σ2 = σ) := by
  refine Sm.of mk_X11_letterAt (Nat.le_of_ble_eq_true rfl) rfl (fun X hX => ?_)
  refine s_aload_n hX dX11_letterAt_0 rfl ?_
  refine s_getR hX dX11_letterAt_1 fl_X11_30 rfl rfl (by omega) ?_
  refine s_bipush (v := nI 16) hX dX11_letterAt_4 (by decide) ?_
  refine s_iconst (v := nI 5) hX dX11_letterAt_6 (by decide) ?_
  refine s_iload_n hX dX11_letterAt_7 rfl ?_
  refine s_imul_n hX dX11_letterAt_8 ?_
  refine s_iadd_n hX dX11_letterAt_9 ?_
  refine s_iload_n hX dX11_letterAt_10 rfl ?_
  refine s_iadd_n hX dX11_letterAt_11 ?_
  refine s_iald (x := nI (v _)) hX dX11_letterAt_12 rfl (by omega) (by omega) (by decide) (hN.at0 _ (by omega)) ?_
  refine s_iret hX dX11_letterAt_13 rfl rfl ?_
  exact ⟨rfl, rfl⟩

def plF (w : Int32) : Option Nat := if w < 0 then none else if w.toNatClampNeg / 16 / 1024 > 1 ∨ (w.toNatClampNeg / 16 / 1024 = 0 ∧ w.toNatClampNeg / 16 % 64 > 18) ∨ w.toNatClampNeg / 16 % 64 > 31 then none else some (w.toNatClampNeg / 16)
theorem plF_n {w : Nat} (h : w < 2 ^ 31) : plF (nI w) = if w / 16 / 1024 > 1 ∨ (w / 16 / 1024 = 0 ∧ w / 16 % 64 > 18) ∨ w / 16 % 64 > 31 then none else some (w / 16) := by
  unfold plF
  rw [if_neg (nI_pos h), nI_clamp h]
theorem plF_lt {w : Int32} {a : Nat} (h : plF w = some a) : a < 2048 := by
  unfold plF at h
  split at h
  · cases h
  · split at h
    · cases h
    · rename_i hq
      have := Option.some.inj h
      omega
set_option maxRecDepth 100000 in
set_option maxHeartbeats 4000000 in
theorem c_X11_placeOf {n : Nat} {σ : Sg} (w : Int32) : Sm n mX11_placeOf [.int w] σ (qi fun r σ2 => r = amv (plF w) ∧ σ2 = σ) := by
  refine Sm.of mk_X11_placeOf (Nat.le_of_ble_eq_true rfl) rfl (fun X hX => ?_)
  by_cases hw : w < 0
  · have hp : plF w = none := by unfold plF; rw [if_pos hw]
    refine s_iload_n hX dX11_placeOf_0 rfl ?_
    refine s_if_ge (tgt := 6) hX dX11_placeOf_1 (by decide) (fun q1 => ?_) (fun q1 => ?_)
    · exact absurd hw (by first | exact Int32.not_lt.mpr q1)
    · refine s_iconst (v := -1) hX dX11_placeOf_4 (by decide) ?_
      refine s_iret hX dX11_placeOf_5 rfl rfl ?_
      exact ⟨by rw [hp]; rfl, rfl⟩
  · obtain ⟨a, ha, rfl⟩ := nI_of hw
    have hp := plF_n ha
    refine s_iload_n hX dX11_placeOf_0 rfl ?_
    refine s_if_ge_n (tgt := 6) hX dX11_placeOf_1 (by decide) (by omega) ?_
    refine s_iload_n hX dX11_placeOf_6 rfl ?_
    refine s_bipush (v := nI 16) hX dX11_placeOf_7 (by decide) ?_
    refine s_idiv_n hX dX11_placeOf_9 (by omega) (by decide) (by decide) ?_
    refine s_istore_n hX dX11_placeOf_10 (Nat.le_of_ble_eq_true rfl) rfl st_4_1 ?_
    refine s_iload_n hX dX11_placeOf_11 rfl ?_
    refine s_sipush (v := nI 1024) hX dX11_placeOf_12 (by decide) ?_
    refine s_idiv_n hX dX11_placeOf_15 (by omega) (by decide) (by decide) ?_
    refine s_istore_n hX dX11_placeOf_16 (Nat.le_of_ble_eq_true rfl) rfl st_4_2 ?_
    refine s_iload_n hX dX11_placeOf_17 rfl ?_
    refine s_bipush (v := nI 64) hX dX11_placeOf_18 (by decide) ?_
    refine s_irem_n hX dX11_placeOf_20 (by omega) (by decide) (by decide) ?_
    refine s_istore_n hX dX11_placeOf_21 (Nat.le_of_ble_eq_true rfl) rfl st_4_3 ?_
    refine s_iload_n hX dX11_placeOf_22 rfl ?_
    refine s_iconst (v := nI 1) hX dX11_placeOf_23 (by decide) ?_
    refine s_icmp_gt_n (tgt := 43) hX dX11_placeOf_24 (by decide) (by omega) (by omega) (fun q24 => ?_) (fun q24 => ?_)
    · refine s_iconst (v := -1) hX dX11_placeOf_43 (by decide) ?_
      refine s_goto (tgt := 48) hX dX11_placeOf_44 (by decide) ?_
      refine s_iret hX dX11_placeOf_48 rfl rfl ?_
      first
        | exact ⟨by rw [hp, if_pos (by omega)]; rfl, rfl⟩
        | exact ⟨by rw [hp, if_neg (by omega)]; rfl, rfl⟩
    · refine s_iload_n hX dX11_placeOf_27 rfl ?_
      refine s_if_ne_n (tgt := 37) hX dX11_placeOf_28 (by decide) (by omega) (fun q28 => ?_) (fun q28 => ?_)
      · refine s_iload_n hX dX11_placeOf_37 rfl ?_
        refine s_bipush (v := nI 31) hX dX11_placeOf_38 (by decide) ?_
        refine s_icmp_le_n (tgt := 47) hX dX11_placeOf_40 (by decide) (by omega) (by omega) (fun q40 => ?_) (fun q40 => ?_)
        · refine s_iload_n hX dX11_placeOf_47 rfl ?_
          refine s_iret hX dX11_placeOf_48 rfl rfl ?_
          first
            | exact ⟨by rw [hp, if_pos (by omega)]; rfl, rfl⟩
            | exact ⟨by rw [hp, if_neg (by omega)]; rfl, rfl⟩
        · refine s_iconst (v := -1) hX dX11_placeOf_43 (by decide) ?_
          refine s_goto (tgt := 48) hX dX11_placeOf_44 (by decide) ?_
          refine s_iret hX dX11_placeOf_48 rfl rfl ?_
          first
            | exact ⟨by rw [hp, if_pos (by omega)]; rfl, rfl⟩
            | exact ⟨by rw [hp, if_neg (by omega)]; rfl, rfl⟩
      · refine s_iload_n hX dX11_placeOf_31 rfl ?_
        refine s_bipush (v := nI 18) hX dX11_placeOf_32 (by decide) ?_
        refine s_icmp_gt_n (tgt := 43) hX dX11_placeOf_34 (by decide) (by omega) (by omega) (fun q34 => ?_) (fun q34 => ?_)
        · refine s_iconst (v := -1) hX dX11_placeOf_43 (by decide) ?_
          refine s_goto (tgt := 48) hX dX11_placeOf_44 (by decide) ?_
          refine s_iret hX dX11_placeOf_48 rfl rfl ?_
          first
            | exact ⟨by rw [hp, if_pos (by omega)]; rfl, rfl⟩
            | exact ⟨by rw [hp, if_neg (by omega)]; rfl, rfl⟩
        · refine s_iload_n hX dX11_placeOf_37 rfl ?_
          refine s_bipush (v := nI 31) hX dX11_placeOf_38 (by decide) ?_
          refine s_icmp_le_n (tgt := 47) hX dX11_placeOf_40 (by decide) (by omega) (by omega) (fun q40 => ?_) (fun q40 => ?_)
          · refine s_iload_n hX dX11_placeOf_47 rfl ?_
            refine s_iret hX dX11_placeOf_48 rfl rfl ?_
            first
              | exact ⟨by rw [hp, if_pos (by omega)]; rfl, rfl⟩
              | exact ⟨by rw [hp, if_neg (by omega)]; rfl, rfl⟩
          · refine s_iconst (v := -1) hX dX11_placeOf_43 (by decide) ?_
            refine s_goto (tgt := 48) hX dX11_placeOf_44 (by decide) ?_
            refine s_iret hX dX11_placeOf_48 rfl rfl ?_
            first
              | exact ⟨by rw [hp, if_pos (by omega)]; rfl, rfl⟩
              | exact ⟨by rw [hp, if_neg (by omega)]; rfl, rfl⟩
set_option maxRecDepth 100000 in
set_option maxHeartbeats 4000000 in
theorem c_X11_waits {σ : Sg} {pr : Pr} (hp : PrM σ pr) (hk : PrOk pr) (a : Nat) (ha : a < 2048) : Sm 77 mX11_waits [.ref 53, .int (nI a)] σ (qi fun r σ2 => r = bI (wtF pr a) ∧ σ2 = σ) := by
  refine Sm.of mk_X11_waits (Nat.le_of_ble_eq_true rfl) rfl (fun X hX => ?_)
  cases hm : pAm pr a with
  | none =>
    have hw : wtF pr a = false := by unfold wtF; rw [hm]
    have h56 : (σ 56).1 a = -1 := by rw [hp.2.2.2.1 a ha, hm]; rfl
    refine s_iconst (v := nI 0) hX dX11_waits_0 (by decide) ?_
    refine s_istore_n hX dX11_waits_1 (Nat.le_of_ble_eq_true rfl) rfl st_4_2 ?_
    refine s_iconst (v := nI 0) hX dX11_waits_2 (by decide) ?_
    refine s_istore_n hX dX11_waits_3 (Nat.le_of_ble_eq_true rfl) rfl st_4_3 ?_
    refine s_iload_n hX dX11_waits_4 rfl ?_
    refine s_aload_n hX dX11_waits_5 rfl ?_
    refine s_getR hX dX11_waits_6 fl_X11_20 rfl rfl (by omega) ?_
    refine s_iload_n hX dX11_waits_9 rfl ?_
    refine s_iald (x := (-1)) hX dX11_waits_10 rfl (by omega) (by omega) (by decide) h56 ?_
    refine s_icmp_ge (tgt := 49) hX dX11_waits_11 (by decide) (fun q11 => ?_) (fun q11 => ?_)
    · refine s_iload_n hX dX11_waits_49 rfl ?_
      refine s_zret hX dX11_waits_50 rfl (Or.inl rfl) rfl ?_
      exact ⟨by rw [hw]; rfl, rfl⟩
    · exact absurd (by decide : (-1 : Int32) ≤ nI 0) q11
  | some m =>
    have hm8 := hk.2.2.2.1 a m hm
    have hw : wtF pr a = wtR (pAc pr a) m := by unfold wtF; rw [hm]
    have h56 : (σ 56).1 a = nI m := by rw [hp.2.2.2.1 a ha, hm]; rfl
    have h57 := hp.2.2.2.2 a ha m hm
    have hac := hk.2.2.2.2 a
    have lp : ∀ d k, k + d = m → Sw 77 mX11_waits X (ZS 77 mX11_waits (qi fun r σ2 => r = bI (wtF pr a) ∧ σ2 = σ) X) 4 [some (.ref 53), some (.int (nI a)), some (.int (nI (wtR (pAc pr a) k).toNat)), some (.int (nI k))] [] σ := by
      intro d
      induction d with
      | zero =>
        intro k hd
        refine s_iload_n hX dX11_waits_4 rfl ?_
        refine s_aload_n hX dX11_waits_5 rfl ?_
        refine s_getR hX dX11_waits_6 fl_X11_20 rfl rfl (by omega) ?_
        refine s_iload_n hX dX11_waits_9 rfl ?_
        refine s_iald (x := nI (m)) hX dX11_waits_10 rfl (by omega) (by omega) (by decide) h56 ?_
        refine s_icmp_ge_n (tgt := 49) hX dX11_waits_11 (by decide) (by omega) (by omega) (fun q11 => ?_) (fun q11 => ?_)
        · refine s_iload_n hX dX11_waits_49 rfl ?_
          refine s_zret hX dX11_waits_50 rfl (by exact bI_01 _) rfl ?_
          exact ⟨by rw [hw, show k = m by omega]; rfl, rfl⟩
        · omega
      | succ d ih =>
        intro k hd
        have hb : (wtR (pAc pr a) k).toNat ≤ 1 := by cases wtR (pAc pr a) k <;> decide
        have hs : wtR (pAc pr a) (k + 1) = (wtR (pAc pr a) k || pAc pr a k / 16 == 9) := rfl
        have hk8 := hac k
        refine s_iload_n hX dX11_waits_4 rfl ?_
        refine s_aload_n hX dX11_waits_5 rfl ?_
        refine s_getR hX dX11_waits_6 fl_X11_20 rfl rfl (by omega) ?_
        refine s_iload_n hX dX11_waits_9 rfl ?_
        refine s_iald (x := nI (m)) hX dX11_waits_10 rfl (by omega) (by omega) (by decide) h56 ?_
        refine s_icmp_ge_n (tgt := 49) hX dX11_waits_11 (by decide) (by omega) (by omega) (fun q11 => ?_) (fun q11 => ?_)
        · omega
        · refine s_iload_n hX dX11_waits_14 rfl ?_
          refine s_if_ne_n (tgt := 37) hX dX11_waits_15 (by decide) (by omega) (fun q15 => ?_) (fun q15 => ?_)
          · refine s_iconst (v := nI 1) hX dX11_waits_37 (by decide) ?_
            refine s_goto (tgt := 42) hX dX11_waits_38 (by decide) ?_
            refine s_istore_n hX dX11_waits_42 (Nat.le_of_ble_eq_true rfl) rfl st_4_2 ?_
            refine s_iinc_n (c := 1) hX dX11_waits_43 rfl (by decide) rfl st_4_3 ?_
            refine s_goto (tgt := 4) hX dX11_waits_46 (by decide) ?_
            have hx := ih (k + 1) (by omega)
            rw [hs] at hx
            first
              | (have e1 : wtR (pAc pr a) k = true := by revert q15; cases wtR (pAc pr a) k <;> simp
                 rw [e1, Bool.true_or] at hx
                 exact hx)
              | (have e1 : wtR (pAc pr a) k = false := by revert q15; cases wtR (pAc pr a) k <;> simp
                 have e2 : (pAc pr a k / 16 == 9) = false := by simpa using q34
                 rw [e1, e2] at hx
                 exact hx)
              | (have e1 : wtR (pAc pr a) k = false := by revert q15; cases wtR (pAc pr a) k <;> simp
                 have e2 : (pAc pr a k / 16 == 9) = true := by simpa using q34
                 rw [e1, e2] at hx
                 exact hx)
          · refine s_aload_n hX dX11_waits_18 rfl ?_
            refine s_getR hX dX11_waits_19 fl_X11_23 rfl rfl (by omega) ?_
            refine s_bipush (v := nI 8) hX dX11_waits_22 (by decide) ?_
            refine s_iload_n hX dX11_waits_24 rfl ?_
            refine s_imul_n hX dX11_waits_25 ?_
            refine s_iload_n hX dX11_waits_26 rfl ?_
            refine s_iadd_n hX dX11_waits_27 ?_
            refine s_iald (x := nI (pAc pr a k)) hX dX11_waits_28 rfl (by omega) (by omega) (by decide) (h57 k (by omega)) ?_
            refine s_bipush (v := nI 16) hX dX11_waits_29 (by decide) ?_
            refine s_idiv_n hX dX11_waits_31 (by omega) (by decide) (by decide) ?_
            refine s_bipush (v := nI 9) hX dX11_waits_32 (by decide) ?_
            refine s_icmp_ne_n (tgt := 41) hX dX11_waits_34 (by decide) (by omega) (by omega) (fun q34 => ?_) (fun q34 => ?_)
            · refine s_iconst (v := nI 0) hX dX11_waits_41 (by decide) ?_
              refine s_istore_n hX dX11_waits_42 (Nat.le_of_ble_eq_true rfl) rfl st_4_2 ?_
              refine s_iinc_n (c := 1) hX dX11_waits_43 rfl (by decide) rfl st_4_3 ?_
              refine s_goto (tgt := 4) hX dX11_waits_46 (by decide) ?_
              have hx := ih (k + 1) (by omega)
              rw [hs] at hx
              first
                | (have e1 : wtR (pAc pr a) k = true := by revert q15; cases wtR (pAc pr a) k <;> simp
                   rw [e1, Bool.true_or] at hx
                   exact hx)
                | (have e1 : wtR (pAc pr a) k = false := by revert q15; cases wtR (pAc pr a) k <;> simp
                   have e2 : (pAc pr a k / 16 == 9) = false := by simpa using q34
                   rw [e1, e2] at hx
                   exact hx)
                | (have e1 : wtR (pAc pr a) k = false := by revert q15; cases wtR (pAc pr a) k <;> simp
                   have e2 : (pAc pr a k / 16 == 9) = true := by simpa using q34
                   rw [e1, e2] at hx
                   exact hx)
            · refine s_iconst (v := nI 1) hX dX11_waits_37 (by decide) ?_
              refine s_goto (tgt := 42) hX dX11_waits_38 (by decide) ?_
              refine s_istore_n hX dX11_waits_42 (Nat.le_of_ble_eq_true rfl) rfl st_4_2 ?_
              refine s_iinc_n (c := 1) hX dX11_waits_43 rfl (by decide) rfl st_4_3 ?_
              refine s_goto (tgt := 4) hX dX11_waits_46 (by decide) ?_
              have hx := ih (k + 1) (by omega)
              rw [hs] at hx
              first
                | (have e1 : wtR (pAc pr a) k = true := by revert q15; cases wtR (pAc pr a) k <;> simp
                   rw [e1, Bool.true_or] at hx
                   exact hx)
                | (have e1 : wtR (pAc pr a) k = false := by revert q15; cases wtR (pAc pr a) k <;> simp
                   have e2 : (pAc pr a k / 16 == 9) = false := by simpa using q34
                   rw [e1, e2] at hx
                   exact hx)
                | (have e1 : wtR (pAc pr a) k = false := by revert q15; cases wtR (pAc pr a) k <;> simp
                   have e2 : (pAc pr a k / 16 == 9) = true := by simpa using q34
                   rw [e1, e2] at hx
                   exact hx)
    refine s_iconst (v := nI 0) hX dX11_waits_0 (by decide) ?_
    refine s_istore_n hX dX11_waits_1 (Nat.le_of_ble_eq_true rfl) rfl st_4_2 ?_
    refine s_iconst (v := nI 0) hX dX11_waits_2 (by decide) ?_
    refine s_istore_n hX dX11_waits_3 (Nat.le_of_ble_eq_true rfl) rfl st_4_3 ?_
    exact lp m 0 (by omega)
set_option maxRecDepth 100000 in
set_option maxHeartbeats 4000000 in
theorem c_X11_rowOfLetter {σ : Sg} {pr : Pr} {v : Vc} (hp : PrM σ pr) (hk : PrOk pr) (hN : Vat σ 59 0 v) (hv : VOk pr v) (i : Nat) (hi : i < v 15) : Sm 77 mX11_rowOfLetter [.ref 53, .int (nI i)] σ (qi fun r σ2 => r = nI (rowOf pr v i) ∧ σ2 = σ) := by
  refine Sm.of mk_X11_rowOfLetter (Nat.le_of_ble_eq_true rfl) rfl (fun X hX => ?_)
  have hi8 : v 15 ≤ 8 := hv.2.2.2.2.1
  obtain ⟨g1, g2, g3, g4, g5⟩ := hv.2.2.2.2.2.1 i hi
  have hP := hk.1
  have hpv := hv.1
  have h12 := hv.2.1
  have h14 := hv.2.2.2.1
  refine s_aload_n hX dX11_rowOfLetter_0 rfl ?_
  refine s_iload_n hX dX11_rowOfLetter_1 rfl ?_
  refine s_iconst (v := nI 0) hX dX11_rowOfLetter_2 (by decide) ?_
  refine s_callVi (as := [_, _]) hX dX11_rowOfLetter_3 mk_X11_letterAt lk_X11_105 (c_X11_letterAt hN i 0 (by omega)) rfl (by omega) rfl rfl rfl ⟨rfl, rfl⟩ (Nat.le_of_ble_eq_true rfl) (Nat.le_of_ble_eq_true rfl) (Nat.le_of_ble_eq_true rfl) rfl (fun v3 σ3 p3 => ?_)
  obtain ⟨rfl, rfl⟩ := p3
  refine s_istore_n hX dX11_rowOfLetter_6 (Nat.le_of_ble_eq_true rfl) rfl st_5_2 ?_
  refine s_aload_n hX dX11_rowOfLetter_7 rfl ?_
  refine s_iload_n hX dX11_rowOfLetter_8 rfl ?_
  refine s_iconst (v := nI 2) hX dX11_rowOfLetter_9 (by decide) ?_
  refine s_callVi (as := [_, _]) hX dX11_rowOfLetter_10 mk_X11_letterAt lk_X11_105 (c_X11_letterAt hN i 2 (by omega)) rfl (by omega) rfl rfl rfl ⟨rfl, rfl⟩ (Nat.le_of_ble_eq_true rfl) (Nat.le_of_ble_eq_true rfl) (Nat.le_of_ble_eq_true rfl) rfl (fun v10 σ10 p10 => ?_)
  obtain ⟨rfl, rfl⟩ := p10
  rw [show 16 + 5 * i + 2 = 18 + 5 * i by omega]
  refine s_istore_n hX dX11_rowOfLetter_13 (Nat.le_of_ble_eq_true rfl) rfl st_5_3 ?_
  refine s_iload_n hX dX11_rowOfLetter_14 rfl ?_
  refine s_aload_n hX dX11_rowOfLetter_15 rfl ?_
  refine s_getI (x := nI (pP pr)) hX dX11_rowOfLetter_16 fl_X11_7 rfl rfl (by omega) hp.1 ?_
  refine s_icmp_ge_n (tgt := 38) hX dX11_rowOfLetter_19 (by decide) (by omega) (by omega) (fun q19 => ?_) (fun q19 => ?_)
  · refine s_aload_n hX dX11_rowOfLetter_38 rfl ?_
    refine s_getR hX dX11_rowOfLetter_39 fl_X11_30 rfl rfl (by omega) ?_
    refine s_bipush (v := nI 14) hX dX11_rowOfLetter_42 (by decide) ?_
    refine s_iald (x := nI (v _)) hX dX11_rowOfLetter_44 rfl (by omega) (by omega) (by decide) (hN.at0 _ (by omega)) ?_
    refine s_iconst (v := nI 1) hX dX11_rowOfLetter_45 (by decide) ?_
    refine s_aload_n hX dX11_rowOfLetter_46 rfl ?_
    refine s_iload_n hX dX11_rowOfLetter_47 rfl ?_
    refine s_iconst (v := nI 3) hX dX11_rowOfLetter_48 (by decide) ?_
    refine s_callVi (as := [_, _]) hX dX11_rowOfLetter_49 mk_X11_letterAt lk_X11_105 (c_X11_letterAt hN i 3 (by omega)) rfl (by omega) rfl rfl rfl ⟨rfl, rfl⟩ (Nat.le_of_ble_eq_true rfl) (Nat.le_of_ble_eq_true rfl) (Nat.le_of_ble_eq_true rfl) rfl (fun v49 σ49 p49 => ?_)
    obtain ⟨rfl, rfl⟩ := p49
    rw [show 16 + 5 * i + 3 = 19 + 5 * i by omega]
    refine s_ishl_n hX dX11_rowOfLetter_52 (by omega) (by have : 2 ^ v (19 + 5 * i) ≤ 2 ^ 4 := Nat.pow_le_pow_right (by decide) (by omega); omega) ?_
    refine s_iconst (v := -1) hX dX11_rowOfLetter_53 (by decide) ?_
    refine s_ixor hX dX11_rowOfLetter_54 ?_
    refine s_iand hX dX11_rowOfLetter_55 ?_
    refine s_istore hX dX11_rowOfLetter_56 (Nat.le_of_ble_eq_true rfl) rfl st_5_4 ?_
    refine s_sipush (v := nI 1024) hX dX11_rowOfLetter_58 (by decide) ?_
    refine s_aload_n hX dX11_rowOfLetter_61 rfl ?_
    refine s_getR hX dX11_rowOfLetter_62 fl_X11_30 rfl rfl (by omega) ?_
    refine s_bipush (v := nI 12) hX dX11_rowOfLetter_65 (by decide) ?_
    refine s_iald (x := nI (v _)) hX dX11_rowOfLetter_67 rfl (by omega) (by omega) (by decide) (hN.at0 _ (by omega)) ?_
    refine s_bipush (v := nI 64) hX dX11_rowOfLetter_68 (by decide) ?_
    refine s_imul_n hX dX11_rowOfLetter_70 ?_
    refine s_iadd_n hX dX11_rowOfLetter_71 ?_
    refine s_iconst (v := nI 2) hX dX11_rowOfLetter_72 (by decide) ?_
    refine s_iload_n hX dX11_rowOfLetter_73 rfl ?_
    refine s_imul_n hX dX11_rowOfLetter_74 ?_
    refine s_iadd_n hX dX11_rowOfLetter_75 ?_
    refine s_iload hX dX11_rowOfLetter_76 rfl ?_
    refine s_if_eq (tgt := 85) hX dX11_rowOfLetter_78 (by decide) (fun q78 => ?_) (fun q78 => ?_)
    · refine s_iconst (v := nI 0) hX dX11_rowOfLetter_85 (by decide) ?_
      refine s_iadd_n hX dX11_rowOfLetter_86 ?_
      refine s_iret hX dX11_rowOfLetter_87 rfl rfl ?_
      have e78 := q78
      refine ⟨?_, rfl⟩
      unfold rowOf othI
      rw [if_neg (by omega)]
      first
        | (rw [if_pos e78]; rfl)
        | (rw [if_neg e78]; rfl)
    · refine s_iconst (v := nI 1) hX dX11_rowOfLetter_81 (by decide) ?_
      refine s_goto (tgt := 86) hX dX11_rowOfLetter_82 (by decide) ?_
      refine s_iadd_n hX dX11_rowOfLetter_86 ?_
      refine s_iret hX dX11_rowOfLetter_87 rfl rfl ?_
      have e78 := q78
      refine ⟨?_, rfl⟩
      unfold rowOf othI
      rw [if_neg (by omega)]
      first
        | (rw [if_pos e78]; rfl)
        | (rw [if_neg e78]; rfl)
  · have hp1 := (hpv _ q19).1
    refine s_aload_n hX dX11_rowOfLetter_22 rfl ?_
    refine s_getR hX dX11_rowOfLetter_23 fl_X11_30 rfl rfl (by omega) ?_
    refine s_iconst (v := nI 3) hX dX11_rowOfLetter_26 (by decide) ?_
    refine s_iload_n hX dX11_rowOfLetter_27 rfl ?_
    refine s_imul_n hX dX11_rowOfLetter_28 ?_
    refine s_iald (x := nI (v _)) hX dX11_rowOfLetter_29 rfl (by omega) (by omega) (by decide) (hN.at0 _ (by omega)) ?_
    refine s_bipush (v := nI 64) hX dX11_rowOfLetter_30 (by decide) ?_
    refine s_imul_n hX dX11_rowOfLetter_32 ?_
    refine s_iconst (v := nI 3) hX dX11_rowOfLetter_33 (by decide) ?_
    refine s_iadd_n hX dX11_rowOfLetter_34 ?_
    refine s_iload_n hX dX11_rowOfLetter_35 rfl ?_
    refine s_iadd_n hX dX11_rowOfLetter_36 ?_
    refine s_iret hX dX11_rowOfLetter_37 rfl rfl ?_
    exact ⟨by unfold rowOf; rw [if_pos q19]; rfl, rfl⟩
end
section
def StM (σ : Sg) (l : List Sp) : Prop := (σ 53).1 16 = nI l.length ∧ ∀ (i : Nat) (s : Sp), l[i]? = some s → (σ 62).1 i = nI s.1 ∧ (σ 63).1 i = nI s.2.1 ∧ (σ 64).1 i = frI s ∧ (σ 65).1 i = ltI s
theorem StM.kept {σ σ2 : Sg} {l : List Sp} (h : StM σ l) (e : (σ2 53).1 16 = (σ 53).1 16) (e1 : σ2 62 = σ 62) (e2 : σ2 63 = σ 63) (e3 : σ2 64 = σ 64) (e4 : σ2 65 = σ 65) : StM σ2 l := ⟨e.trans h.1, by rw [e1, e2, e3, e4]; exact h.2⟩
theorem StM.fr {σ σ2 : Sg} {l : List Sp} {S K : List Nat} (h : StM σ l) (f : Fr 53 σ σ2 S K) (hk : 16 ∉ K) (h1 : 62 ∉ S) (h2 : 63 ∉ S) (h3 : 64 ∉ S) (h4 : 65 ∉ S) : StM σ2 l := h.kept (f.2.1 16 hk) (f.1 62 h1 (by decide)) (f.1 63 h2 (by decide)) (f.1 64 h3 (by decide)) (f.1 65 h4 (by decide))
theorem Fr.off53 {σ σ2 : Sg} {S K : List Nat} (h : Fr 53 σ σ2 S K) : Off σ σ2 (53 :: S) := fun a ha => h.1 a (fun q => ha (List.mem_cons_of_mem _ q)) (fun q => ha (q ▸ List.mem_cons_self))
set_option maxRecDepth 100000 in
set_option maxHeartbeats 4000000 in
theorem c_X11_addStep {σ : Sg} {l : List Sp} (hs : StM σ l) (hl : l.length < 20) (s : Sp) : Sm 77 mX11_addStep [.ref 53, .int (nI s.1), .int (nI s.2.1), .int (frI s), .int (ltI s)] σ (qv fun σ2 => StM σ2 (l ++ [s]) ∧ Fr 53 σ σ2 [62, 63, 64, 65] [16]) := by
  refine Sm.of mk_X11_addStep (Nat.le_of_ble_eq_true rfl) rfl (fun X hX => ?_)
  refine s_aload_n hX dX11_addStep_0 rfl ?_
  refine s_getR hX dX11_addStep_1 fl_X11_39 rfl rfl (by omega) ?_
  refine s_aload_n hX dX11_addStep_4 rfl ?_
  refine s_getI (x := nI (l.length)) hX dX11_addStep_5 fl_X11_109 rfl rfl (by omega) hs.1 ?_
  refine s_iload_n hX dX11_addStep_8 rfl ?_
  refine s_iast hX dX11_addStep_9 rfl (by omega) (by omega) (by decide) ?_
  refine s_aload_n hX dX11_addStep_10 rfl ?_
  refine s_getR hX dX11_addStep_11 fl_X11_42 rfl rfl (by omega) ?_
  refine s_aload_n hX dX11_addStep_14 rfl ?_
  refine s_getI (x := nI (l.length)) hX dX11_addStep_15 fl_X11_109 rfl rfl (by omega) (by rw [wI_a _ _ (by decide)]; exact hs.1) ?_
  refine s_iload_n hX dX11_addStep_18 rfl ?_
  refine s_iast hX dX11_addStep_19 rfl (by omega) (by omega) (by decide) ?_
  refine s_aload_n hX dX11_addStep_20 rfl ?_
  refine s_getR hX dX11_addStep_21 fl_X11_45 rfl rfl (by omega) ?_
  refine s_aload_n hX dX11_addStep_24 rfl ?_
  refine s_getI (x := nI (l.length)) hX dX11_addStep_25 fl_X11_109 rfl rfl (by omega) (by rw [wI_a _ _ (by decide), wI_a _ _ (by decide)]; exact hs.1) ?_
  refine s_iload_n hX dX11_addStep_28 rfl ?_
  refine s_iast hX dX11_addStep_29 rfl (by omega) (by omega) (by decide) ?_
  refine s_aload_n hX dX11_addStep_30 rfl ?_
  refine s_getR hX dX11_addStep_31 fl_X11_48 rfl rfl (by omega) ?_
  refine s_aload_n hX dX11_addStep_34 rfl ?_
  refine s_getI (x := nI (l.length)) hX dX11_addStep_35 fl_X11_109 rfl rfl (by omega) (by rw [wI_a _ _ (by decide), wI_a _ _ (by decide), wI_a _ _ (by decide)]; exact hs.1) ?_
  refine s_iload hX dX11_addStep_38 rfl ?_
  refine s_iast hX dX11_addStep_40 rfl (by omega) (by omega) (by decide) ?_
  refine s_aload_n hX dX11_addStep_41 rfl ?_
  refine s_dup hX dX11_addStep_42 rfl ?_
  refine s_getI (x := nI (l.length)) hX dX11_addStep_43 fl_X11_109 rfl rfl (by omega) (by rw [wI_a _ _ (by decide), wI_a _ _ (by decide), wI_a _ _ (by decide), wI_a _ _ (by decide)]; exact hs.1) ?_
  refine s_iconst (v := nI 1) hX dX11_addStep_46 (by decide) ?_
  refine s_iadd_n hX dX11_addStep_47 ?_
  refine s_putI hX dX11_addStep_48 fl_X11_109 rfl rfl (by omega) rfl rfl ?_
  refine s_vret hX dX11_addStep_51 rfl rfl ?_
  refine ⟨⟨by rw [wI_s, List.length_append, List.length_singleton], fun i t ht => ?_⟩, ?_⟩
  · by_cases h : i < l.length
    · rw [List.getElem?_append_left h] at ht
      have hz : i ≠ l.length := by omega
      have := hs.2 i t ht
      simpa [wI, va_up, upd, hz] using this
    · rw [List.getElem?_append_right (by omega)] at ht
      have hz : i = l.length := by
        have := (List.getElem?_eq_some_iff.mp ht).1
        simp at this; omega
      subst hz
      rw [Nat.sub_self] at ht
      cases ht
      simp [wI, va_up, upd]
  · exact (((((Fr.rf (o := 53) (σ := σ)).wI (by decide) (by decide)).wI (by decide) (by decide)).wI (by decide) (by decide)).wI (by decide) (by decide)).put (by decide)
set_option maxRecDepth 100000 in
set_option maxHeartbeats 4000000 in
theorem c_X11_compareLetters {n : Nat} {σ : Sg} {a b : Nat} (ha : a < 2 ^ 31) (hb : b < 2 ^ 31) : Sm n mX11_compareLetters [.int (nI a), .int (nI b)] σ (qi fun r σ2 => ((r < 0 ↔ a < b) ∧ (r = 0 ↔ a = b)) ∧ σ2 = σ) := by
  refine Sm.of mk_X11_compareLetters (Nat.le_of_ble_eq_true rfl) rfl (fun X hX => ?_)
  refine s_iload_n hX dX11_compareLetters_0 rfl ?_
  refine s_iload_n hX dX11_compareLetters_1 rfl ?_
  refine s_icmp_ge_n (tgt := 9) hX dX11_compareLetters_2 (by decide) (by omega) (by omega) (fun q2 => ?_) (fun q2 => ?_)
  · refine s_iload_n hX dX11_compareLetters_9 rfl ?_
    refine s_iload_n hX dX11_compareLetters_10 rfl ?_
    refine s_icmp_le_n (tgt := 18) hX dX11_compareLetters_11 (by decide) (by omega) (by omega) (fun q11 => ?_) (fun q11 => ?_)
    · refine s_iconst (v := nI 0) hX dX11_compareLetters_18 (by decide) ?_
      refine s_iret hX dX11_compareLetters_19 rfl rfl ?_
      first
        | exact ⟨⟨⟨fun h => absurd h (by decide), fun h => by omega⟩, ⟨fun h => absurd h (by decide), fun h => by omega⟩⟩, rfl⟩
        | exact ⟨⟨⟨fun h => absurd h (by decide), fun h => by omega⟩, ⟨fun h => by omega, fun h => rfl⟩⟩, rfl⟩
        | exact ⟨⟨⟨fun h => by omega, fun h => by decide⟩, ⟨fun h => absurd h (by decide), fun h => by omega⟩⟩, rfl⟩
    · refine s_iconst (v := nI 1) hX dX11_compareLetters_14 (by decide) ?_
      refine s_goto (tgt := 19) hX dX11_compareLetters_15 (by decide) ?_
      refine s_iret hX dX11_compareLetters_19 rfl rfl ?_
      first
        | exact ⟨⟨⟨fun h => absurd h (by decide), fun h => by omega⟩, ⟨fun h => absurd h (by decide), fun h => by omega⟩⟩, rfl⟩
        | exact ⟨⟨⟨fun h => absurd h (by decide), fun h => by omega⟩, ⟨fun h => by omega, fun h => rfl⟩⟩, rfl⟩
        | exact ⟨⟨⟨fun h => by omega, fun h => by decide⟩, ⟨fun h => absurd h (by decide), fun h => by omega⟩⟩, rfl⟩
  · refine s_iconst (v := -1) hX dX11_compareLetters_5 (by decide) ?_
    refine s_goto (tgt := 19) hX dX11_compareLetters_6 (by decide) ?_
    refine s_iret hX dX11_compareLetters_19 rfl rfl ?_
    first
      | exact ⟨⟨⟨fun h => absurd h (by decide), fun h => by omega⟩, ⟨fun h => absurd h (by decide), fun h => by omega⟩⟩, rfl⟩
      | exact ⟨⟨⟨fun h => absurd h (by decide), fun h => by omega⟩, ⟨fun h => by omega, fun h => rfl⟩⟩, rfl⟩
      | exact ⟨⟨⟨fun h => by omega, fun h => by decide⟩, ⟨fun h => absurd h (by decide), fun h => by omega⟩⟩, rfl⟩
set_option maxRecDepth 100000 in
set_option maxHeartbeats 4000000 in
theorem c_X11_isAhead {σ : Sg} {pr : Pr} {v : Vc} (hp : PrM σ pr) (hk : PrOk pr) (hN : Vat σ 59 0 v) {k f t u w j : Nat} (hj : j < 8) (hk0 : k < 16) (hf : f ≤ 4) (ht : t ≤ 4) (hu : u ≤ 4) (hw : w ≤ 4) (g0 : v (16 + 5 * j) < 16) (g1 : v (17 + 5 * j) ≤ 4) (g2 : v (18 + 5 * j) ≤ 4) (g3 : v (19 + 5 * j) ≤ 4) (g4 : v (20 + 5 * j) ≤ 4) : Sm 77 mX11_isAhead [.ref 53, .int (nI k), .int (nI f), .int (nI t), .int (nI u), .int (nI w), .int (nI j)] σ (qi fun r σ2 => r = bI (ahF pr v (k, f, t, u, w) j) ∧ σ2 = σ) := by
  refine Sm.of mk_X11_isAhead (Nat.le_of_ble_eq_true rfl) rfl (fun X hX => ?_)
  have hlo := hk.2.1
  have hlk := hlo k
  have hlj := hlo (v (16 + 5 * j))
  have J153 : ∀ (c : Int32) (x7 : Option Value), ((c < 0 ↔ ahF pr v (k, f, t, u, w) j = true)) → Sw 77 mX11_isAhead X (ZS 77 mX11_isAhead (qi fun r σ2 => r = bI (ahF pr v (k, f, t, u, w) j) ∧ σ2 = σ) X) 153 [some (.ref 53), some (.int (nI k)), some (.int (nI f)), some (.int (nI t)), some (.int (nI u)), some (.int (nI w)), some (.int (nI j)), x7] [.int c] σ := by
    intro c x7 hc
    refine s_istore hX dX11_isAhead_153 (Nat.le_of_ble_eq_true rfl) rfl st_8_7 ?_
    refine s_iload hX dX11_isAhead_155 rfl ?_
    refine s_if_ge (tgt := 164) hX dX11_isAhead_157 (by decide) (fun q157 => ?_) (fun q157 => ?_)
    · refine s_iconst (v := nI 0) hX dX11_isAhead_164 (by decide) ?_
      refine s_zret hX dX11_isAhead_165 rfl (by first | exact Or.inl rfl | exact Or.inr rfl) rfl ?_
      refine ⟨?_, rfl⟩
      first
        | (rw [hc.mp (by first | exact Int32.not_le.mp q157)]; rfl)
        | (cases hh : ahF pr v (k, f, t, u, w) j with
           | true => exact absurd (hc.mpr hh) (by first | exact Int32.not_lt.mpr q157)
           | false => rfl)
    · refine s_iconst (v := nI 1) hX dX11_isAhead_160 (by decide) ?_
      refine s_goto (tgt := 165) hX dX11_isAhead_161 (by decide) ?_
      refine s_zret hX dX11_isAhead_165 rfl (by first | exact Or.inl rfl | exact Or.inr rfl) rfl ?_
      refine ⟨?_, rfl⟩
      first
        | (rw [hc.mp (by first | exact Int32.not_le.mp q157)]; rfl)
        | (cases hh : ahF pr v (k, f, t, u, w) j with
           | true => exact absurd (hc.mpr hh) (by first | exact Int32.not_lt.mpr q157)
           | false => rfl)
  have J129 : ∀ (c : Int32) (x7 : Option Value), pLo pr k ≠ 0 → f = v (17 + 5 * j) → t = v (18 + 5 * j) → pLo pr k = pLo pr (v (16 + 5 * j)) → (c < 0 ↔ (k < v (16 + 5 * j) ∨ (k = v (16 + 5 * j) ∧ u < v (19 + 5 * j)))) → (c = 0 ↔ (k = v (16 + 5 * j) ∧ u = v (19 + 5 * j))) → Sw 77 mX11_isAhead X (ZS 77 mX11_isAhead (qi fun r σ2 => r = bI (ahF pr v (k, f, t, u, w) j) ∧ σ2 = σ) X) 129 [some (.ref 53), some (.int (nI k)), some (.int (nI f)), some (.int (nI t)), some (.int (nI u)), some (.int (nI w)), some (.int (nI j)), x7] [.int c] σ := by
    intro c x7 z0 z1 z2 z3 h1 h2
    have hA : ahF pr v (k, f, t, u, w) j = (if k ≠ v (16 + 5 * j) then decide (k < v (16 + 5 * j)) else if u ≠ v (19 + 5 * j) then decide (u < v (19 + 5 * j)) else decide (w < v (20 + 5 * j))) := by
      unfold ahF
      dsimp only
      rw [if_neg (by simp [z1]), if_neg (by simp [z2]), if_neg (by simp [z3]), if_neg z0]
    refine s_istore hX dX11_isAhead_129 (Nat.le_of_ble_eq_true rfl) rfl st_8_7 ?_
    refine s_iload hX dX11_isAhead_131 rfl ?_
    refine s_if_eq (tgt := 141) hX dX11_isAhead_133 (by decide) (fun q133 => ?_) (fun q133 => ?_)
    · refine s_iload hX dX11_isAhead_141 rfl ?_
      refine s_aload_n hX dX11_isAhead_143 rfl ?_
      refine s_iload hX dX11_isAhead_144 rfl ?_
      refine s_iconst (v := nI 4) hX dX11_isAhead_146 (by decide) ?_
      refine s_callVi (as := [_, _]) hX dX11_isAhead_147 mk_X11_letterAt lk_X11_105 (c_X11_letterAt hN j 4 (by omega)) rfl (by omega) rfl rfl rfl ⟨rfl, rfl⟩ (Nat.le_of_ble_eq_true rfl) (Nat.le_of_ble_eq_true rfl) (Nat.le_of_ble_eq_true rfl) rfl (fun v147 σ147 p147 => ?_)
      obtain ⟨rfl, rfl⟩ := p147
      rw [show 16 + 5 * (j) + 4 = 20 + 5 * (j) by omega]
      refine s_callSi (as := [_, _]) hX dX11_isAhead_150 mk_X11_compareLetters lk_X11_123 (c_X11_compareLetters (a := w) (b := v (20 + 5 * j)) (by omega) (by omega)) rfl ⟨rfl, rfl⟩ (Nat.le_of_ble_eq_true rfl) (Nat.le_of_ble_eq_true rfl) (Nat.le_of_ble_eq_true rfl) rfl (fun v150 σ150 p150 => ?_)
      obtain ⟨g150, rfl⟩ := p150
      first
        | (refine J153 _ _ ?_
           rw [hA]
           have hz := h2.mp q133
           rw [if_neg (by simp [hz.1]), if_neg (by simp [hz.2])]
           simp only [decide_eq_true_eq]
           exact g150.1)
        | (refine J153 _ _ ?_
           rw [hA]
           by_cases y1 : k = v (16 + 5 * j)
           · have y2 : u ≠ v (19 + 5 * j) := fun y => q133 (h2.mpr ⟨y1, y⟩)
             rw [if_neg (by simp [y1]), if_pos y2]
             simp only [decide_eq_true_eq]
             rw [h1]
             omega
           · rw [if_pos y1]
             simp only [decide_eq_true_eq]
             rw [h1]
             omega)
    · refine s_iload hX dX11_isAhead_136 rfl ?_
      refine s_goto (tgt := 153) hX dX11_isAhead_138 (by decide) ?_
      first
        | (refine J153 _ _ ?_
           rw [hA]
           have hz := h2.mp q133
           rw [if_neg (by simp [hz.1]), if_neg (by simp [hz.2])]
           simp only [decide_eq_true_eq]
           exact g150.1)
        | (refine J153 _ _ ?_
           rw [hA]
           by_cases y1 : k = v (16 + 5 * j)
           · have y2 : u ≠ v (19 + 5 * j) := fun y => q133 (h2.mpr ⟨y1, y⟩)
             rw [if_neg (by simp [y1]), if_pos y2]
             simp only [decide_eq_true_eq]
             rw [h1]
             omega
           · rw [if_pos y1]
             simp only [decide_eq_true_eq]
             rw [h1]
             omega)
  have J67 : ∀ (c : Int32) (x7 : Option Value), (c < 0 ↔ (f < v (17 + 5 * j) ∨ (f = v (17 + 5 * j) ∧ (t < v (18 + 5 * j) ∨ (t = v (18 + 5 * j) ∧ pLo pr k < pLo pr (v (16 + 5 * j))))))) → (c = 0 ↔ (f = v (17 + 5 * j) ∧ t = v (18 + 5 * j) ∧ pLo pr k = pLo pr (v (16 + 5 * j)))) → Sw 77 mX11_isAhead X (ZS 77 mX11_isAhead (qi fun r σ2 => r = bI (ahF pr v (k, f, t, u, w) j) ∧ σ2 = σ) X) 67 [some (.ref 53), some (.int (nI k)), some (.int (nI f)), some (.int (nI t)), some (.int (nI u)), some (.int (nI w)), some (.int (nI j)), x7] [.int c] σ := by
    intro c x7 h1 h2
    refine s_istore hX dX11_isAhead_67 (Nat.le_of_ble_eq_true rfl) rfl st_8_7 ?_
    refine s_iload hX dX11_isAhead_69 rfl ?_
    refine s_if_ne (tgt := 83) hX dX11_isAhead_71 (by decide) (fun q71 => ?_) (fun q71 => ?_)
    · refine s_iload hX dX11_isAhead_83 rfl ?_
      refine s_if_ge (tgt := 92) hX dX11_isAhead_85 (by decide) (fun q85 => ?_) (fun q85 => ?_)
      · refine s_iconst (v := nI 0) hX dX11_isAhead_92 (by decide) ?_
        refine s_zret hX dX11_isAhead_93 rfl (by first | exact Or.inl rfl | exact Or.inr rfl) rfl ?_
        refine ⟨?_, rfl⟩
        have hA : (c < 0 ↔ ahF pr v (k, f, t, u, w) j = true) := by
          unfold ahF
          dsimp only
          rw [h1]
          by_cases y1 : f = v (17 + 5 * j)
          · rw [if_neg (by simp [y1])]
            by_cases y2 : t = v (18 + 5 * j)
            · rw [if_neg (by simp [y2])]
              by_cases y3 : pLo pr k = pLo pr (v (16 + 5 * j))
              · rw [if_neg (by simp [y3])]
                first
                  | (rw [if_pos (by assumption)]; simp; omega)
                  | exact absurd (h2.mpr ⟨y1, y2, y3⟩) (by assumption)
              · rw [if_pos y3]; simp only [decide_eq_true_eq]; omega
            · rw [if_pos y2]; simp only [decide_eq_true_eq]; omega
          · rw [if_pos y1]; simp only [decide_eq_true_eq]; omega
        first
          | (rw [hA.mp (Int32.not_le.mp q85)]; rfl)
          | (cases hh : ahF pr v (k, f, t, u, w) j with
             | true => exact absurd (hA.mpr hh) (Int32.not_lt.mpr q85)
             | false => rfl)
      · refine s_iconst (v := nI 1) hX dX11_isAhead_88 (by decide) ?_
        refine s_goto (tgt := 93) hX dX11_isAhead_89 (by decide) ?_
        refine s_zret hX dX11_isAhead_93 rfl (by first | exact Or.inl rfl | exact Or.inr rfl) rfl ?_
        refine ⟨?_, rfl⟩
        have hA : (c < 0 ↔ ahF pr v (k, f, t, u, w) j = true) := by
          unfold ahF
          dsimp only
          rw [h1]
          by_cases y1 : f = v (17 + 5 * j)
          · rw [if_neg (by simp [y1])]
            by_cases y2 : t = v (18 + 5 * j)
            · rw [if_neg (by simp [y2])]
              by_cases y3 : pLo pr k = pLo pr (v (16 + 5 * j))
              · rw [if_neg (by simp [y3])]
                first
                  | (rw [if_pos (by assumption)]; simp; omega)
                  | exact absurd (h2.mpr ⟨y1, y2, y3⟩) (by assumption)
              · rw [if_pos y3]; simp only [decide_eq_true_eq]; omega
            · rw [if_pos y2]; simp only [decide_eq_true_eq]; omega
          · rw [if_pos y1]; simp only [decide_eq_true_eq]; omega
        first
          | (rw [hA.mp (Int32.not_le.mp q85)]; rfl)
          | (cases hh : ahF pr v (k, f, t, u, w) j with
             | true => exact absurd (hA.mpr hh) (Int32.not_lt.mpr q85)
             | false => rfl)
    · refine s_aload_n hX dX11_isAhead_74 rfl ?_
      refine s_getR hX dX11_isAhead_75 fl_X11_13 rfl rfl (by omega) ?_
      refine s_iload_n hX dX11_isAhead_78 rfl ?_
      refine s_iald (x := nI (pLo pr k)) hX dX11_isAhead_79 rfl (by omega) (by omega) (by decide) (hp.2.1 k hk0) ?_
      refine s_if_ne_n (tgt := 94) hX dX11_isAhead_80 (by decide) (by omega) (fun q80 => ?_) (fun q80 => ?_)
      · refine s_iload_n hX dX11_isAhead_94 rfl ?_
        refine s_aload_n hX dX11_isAhead_95 rfl ?_
        refine s_iload hX dX11_isAhead_96 rfl ?_
        refine s_iconst (v := nI 0) hX dX11_isAhead_98 (by decide) ?_
        refine s_callVi (as := [_, _]) hX dX11_isAhead_99 mk_X11_letterAt lk_X11_105 (c_X11_letterAt hN j 0 (by omega)) rfl (by omega) rfl rfl rfl ⟨rfl, rfl⟩ (Nat.le_of_ble_eq_true rfl) (Nat.le_of_ble_eq_true rfl) (Nat.le_of_ble_eq_true rfl) rfl (fun v99 σ99 p99 => ?_)
        obtain ⟨rfl, rfl⟩ := p99
        rw [show 16 + 5 * (j) + 0 = 16 + 5 * (j) from rfl]
        refine s_callSi (as := [_, _]) hX dX11_isAhead_102 mk_X11_compareLetters lk_X11_123 (c_X11_compareLetters (a := k) (b := v (16 + 5 * j)) (by omega) (by omega)) rfl ⟨rfl, rfl⟩ (Nat.le_of_ble_eq_true rfl) (Nat.le_of_ble_eq_true rfl) (Nat.le_of_ble_eq_true rfl) rfl (fun v102 σ102 p102 => ?_)
        obtain ⟨g102, rfl⟩ := p102
        refine s_istore hX dX11_isAhead_105 (Nat.le_of_ble_eq_true rfl) rfl st_8_7 ?_
        refine s_iload hX dX11_isAhead_107 rfl ?_
        refine s_if_eq (tgt := 117) hX dX11_isAhead_109 (by decide) (fun q109 => ?_) (fun q109 => ?_)
        · refine s_iload hX dX11_isAhead_117 rfl ?_
          refine s_aload_n hX dX11_isAhead_119 rfl ?_
          refine s_iload hX dX11_isAhead_120 rfl ?_
          refine s_iconst (v := nI 3) hX dX11_isAhead_122 (by decide) ?_
          refine s_callVi (as := [_, _]) hX dX11_isAhead_123 mk_X11_letterAt lk_X11_105 (c_X11_letterAt hN j 3 (by omega)) rfl (by omega) rfl rfl rfl ⟨rfl, rfl⟩ (Nat.le_of_ble_eq_true rfl) (Nat.le_of_ble_eq_true rfl) (Nat.le_of_ble_eq_true rfl) rfl (fun v123 σ123 p123 => ?_)
          obtain ⟨rfl, rfl⟩ := p123
          rw [show 16 + 5 * (j) + 3 = 19 + 5 * (j) by omega]
          refine s_callSi (as := [_, _]) hX dX11_isAhead_126 mk_X11_compareLetters lk_X11_123 (c_X11_compareLetters (a := u) (b := v (19 + 5 * j)) (by omega) (by omega)) rfl ⟨rfl, rfl⟩ (Nat.le_of_ble_eq_true rfl) (Nat.le_of_ble_eq_true rfl) (Nat.le_of_ble_eq_true rfl) rfl (fun v126 σ126 p126 => ?_)
          obtain ⟨g126, rfl⟩ := p126
          have hz : c = 0 := by
            by_cases y : c = 0
            · exact y
            · exact absurd y q71
          obtain ⟨y1, y2, y3⟩ := h2.mp hz
          first
            | (refine J129 _ _ q80 y1 y2 y3 ?_ ?_
               · rw [g126.1]
                 have := g102.2.mp q109
                 omega
               · rw [g126.2]
                 have := g102.2.mp q109
                 omega)
            | (refine J129 _ _ q80 y1 y2 y3 ?_ ?_
               · rw [g102.1]
                 have : ¬ (k = v (16 + 5 * j)) := fun y => q109 (g102.2.mpr y)
                 omega
               · have : ¬ (k = v (16 + 5 * j)) := fun y => q109 (g102.2.mpr y)
                 exact ⟨fun y => absurd y q109, fun y => absurd y.1 this⟩)
        · refine s_iload hX dX11_isAhead_112 rfl ?_
          refine s_goto (tgt := 129) hX dX11_isAhead_114 (by decide) ?_
          have hz : c = 0 := by
            by_cases y : c = 0
            · exact y
            · exact absurd y q71
          obtain ⟨y1, y2, y3⟩ := h2.mp hz
          first
            | (refine J129 _ _ q80 y1 y2 y3 ?_ ?_
               · rw [g126.1]
                 have := g102.2.mp q109
                 omega
               · rw [g126.2]
                 have := g102.2.mp q109
                 omega)
            | (refine J129 _ _ q80 y1 y2 y3 ?_ ?_
               · rw [g102.1]
                 have : ¬ (k = v (16 + 5 * j)) := fun y => q109 (g102.2.mpr y)
                 omega
               · have : ¬ (k = v (16 + 5 * j)) := fun y => q109 (g102.2.mpr y)
                 exact ⟨fun y => absurd y q109, fun y => absurd y.1 this⟩)
      · refine s_iload hX dX11_isAhead_83 rfl ?_
        refine s_if_ge (tgt := 92) hX dX11_isAhead_85 (by decide) (fun q85 => ?_) (fun q85 => ?_)
        · refine s_iconst (v := nI 0) hX dX11_isAhead_92 (by decide) ?_
          refine s_zret hX dX11_isAhead_93 rfl (by first | exact Or.inl rfl | exact Or.inr rfl) rfl ?_
          refine ⟨?_, rfl⟩
          have hA : (c < 0 ↔ ahF pr v (k, f, t, u, w) j = true) := by
            unfold ahF
            dsimp only
            rw [h1]
            by_cases y1 : f = v (17 + 5 * j)
            · rw [if_neg (by simp [y1])]
              by_cases y2 : t = v (18 + 5 * j)
              · rw [if_neg (by simp [y2])]
                by_cases y3 : pLo pr k = pLo pr (v (16 + 5 * j))
                · rw [if_neg (by simp [y3])]
                  first
                    | (rw [if_pos (by assumption)]; simp; omega)
                    | exact absurd (h2.mpr ⟨y1, y2, y3⟩) (by assumption)
                · rw [if_pos y3]; simp only [decide_eq_true_eq]; omega
              · rw [if_pos y2]; simp only [decide_eq_true_eq]; omega
            · rw [if_pos y1]; simp only [decide_eq_true_eq]; omega
          first
            | (rw [hA.mp (Int32.not_le.mp q85)]; rfl)
            | (cases hh : ahF pr v (k, f, t, u, w) j with
               | true => exact absurd (hA.mpr hh) (Int32.not_lt.mpr q85)
               | false => rfl)
        · refine s_iconst (v := nI 1) hX dX11_isAhead_88 (by decide) ?_
          refine s_goto (tgt := 93) hX dX11_isAhead_89 (by decide) ?_
          refine s_zret hX dX11_isAhead_93 rfl (by first | exact Or.inl rfl | exact Or.inr rfl) rfl ?_
          refine ⟨?_, rfl⟩
          have hA : (c < 0 ↔ ahF pr v (k, f, t, u, w) j = true) := by
            unfold ahF
            dsimp only
            rw [h1]
            by_cases y1 : f = v (17 + 5 * j)
            · rw [if_neg (by simp [y1])]
              by_cases y2 : t = v (18 + 5 * j)
              · rw [if_neg (by simp [y2])]
                by_cases y3 : pLo pr k = pLo pr (v (16 + 5 * j))
                · rw [if_neg (by simp [y3])]
                  first
                    | (rw [if_pos (by assumption)]; simp; omega)
                    | exact absurd (h2.mpr ⟨y1, y2, y3⟩) (by assumption)
                · rw [if_pos y3]; simp only [decide_eq_true_eq]; omega
              · rw [if_pos y2]; simp only [decide_eq_true_eq]; omega
            · rw [if_pos y1]; simp only [decide_eq_true_eq]; omega
          first
            | (rw [hA.mp (Int32.not_le.mp q85)]; rfl)
            | (cases hh : ahF pr v (k, f, t, u, w) j with
               | true => exact absurd (hA.mpr hh) (Int32.not_lt.mpr q85)
               | false => rfl)
  have J34 : ∀ (c : Int32) (x7 : Option Value), (c < 0 ↔ (f < v (17 + 5 * j) ∨ (f = v (17 + 5 * j) ∧ t < v (18 + 5 * j)))) → (c = 0 ↔ (f = v (17 + 5 * j) ∧ t = v (18 + 5 * j))) → Sw 77 mX11_isAhead X (ZS 77 mX11_isAhead (qi fun r σ2 => r = bI (ahF pr v (k, f, t, u, w) j) ∧ σ2 = σ) X) 34 [some (.ref 53), some (.int (nI k)), some (.int (nI f)), some (.int (nI t)), some (.int (nI u)), some (.int (nI w)), some (.int (nI j)), x7] [.int c] σ := by
    intro c x7 h1 h2
    refine s_istore hX dX11_isAhead_34 (Nat.le_of_ble_eq_true rfl) rfl st_8_7 ?_
    refine s_iload hX dX11_isAhead_36 rfl ?_
    refine s_if_eq (tgt := 46) hX dX11_isAhead_38 (by decide) (fun q38 => ?_) (fun q38 => ?_)
    · refine s_aload_n hX dX11_isAhead_46 rfl ?_
      refine s_getR hX dX11_isAhead_47 fl_X11_13 rfl rfl (by omega) ?_
      refine s_iload_n hX dX11_isAhead_50 rfl ?_
      refine s_iald (x := nI (pLo pr k)) hX dX11_isAhead_51 rfl (by omega) (by omega) (by decide) (hp.2.1 k hk0) ?_
      refine s_aload_n hX dX11_isAhead_52 rfl ?_
      refine s_getR hX dX11_isAhead_53 fl_X11_13 rfl rfl (by omega) ?_
      refine s_aload_n hX dX11_isAhead_56 rfl ?_
      refine s_iload hX dX11_isAhead_57 rfl ?_
      refine s_iconst (v := nI 0) hX dX11_isAhead_59 (by decide) ?_
      refine s_callVi (as := [_, _]) hX dX11_isAhead_60 mk_X11_letterAt lk_X11_105 (c_X11_letterAt hN j 0 (by omega)) rfl (by omega) rfl rfl rfl ⟨rfl, rfl⟩ (Nat.le_of_ble_eq_true rfl) (Nat.le_of_ble_eq_true rfl) (Nat.le_of_ble_eq_true rfl) rfl (fun v60 σ60 p60 => ?_)
      obtain ⟨rfl, rfl⟩ := p60
      rw [show 16 + 5 * (j) + 0 = 16 + 5 * (j) from rfl]
      refine s_iald (x := nI (pLo pr (v (16 + 5 * j)))) hX dX11_isAhead_63 rfl (by omega) (by omega) (by decide) (hp.2.1 _ g0) ?_
      refine s_callSi (as := [_, _]) hX dX11_isAhead_64 mk_X11_compareLetters lk_X11_123 (c_X11_compareLetters (a := pLo pr k) (b := pLo pr (v (16 + 5 * j))) (by omega) (by omega)) rfl ⟨rfl, rfl⟩ (Nat.le_of_ble_eq_true rfl) (Nat.le_of_ble_eq_true rfl) (Nat.le_of_ble_eq_true rfl) rfl (fun v64 σ64 p64 => ?_)
      obtain ⟨g64, rfl⟩ := p64
      first
        | (have hz := h2.mp q38
           refine J67 _ _ ?_ ?_
           · rw [g64.1]; omega
           · rw [g64.2]; omega)
        | (refine J67 _ _ ?_ ?_
           · rw [h1]
             by_cases y1 : f = v (17 + 5 * j)
             · have y2 : t ≠ v (18 + 5 * j) := fun y => q38 (h2.mpr ⟨y1, y⟩)
               omega
             · omega
           · exact ⟨fun y => absurd y q38, fun y => absurd (h2.mpr ⟨y.1, y.2.1⟩) q38⟩)
    · refine s_iload hX dX11_isAhead_41 rfl ?_
      refine s_goto (tgt := 67) hX dX11_isAhead_43 (by decide) ?_
      first
        | (have hz := h2.mp q38
           refine J67 _ _ ?_ ?_
           · rw [g64.1]; omega
           · rw [g64.2]; omega)
        | (refine J67 _ _ ?_ ?_
           · rw [h1]
             by_cases y1 : f = v (17 + 5 * j)
             · have y2 : t ≠ v (18 + 5 * j) := fun y => q38 (h2.mpr ⟨y1, y⟩)
               omega
             · omega
           · exact ⟨fun y => absurd y q38, fun y => absurd (h2.mpr ⟨y.1, y.2.1⟩) q38⟩)
  refine s_iload_n hX dX11_isAhead_0 rfl ?_
  refine s_aload_n hX dX11_isAhead_1 rfl ?_
  refine s_iload hX dX11_isAhead_2 rfl ?_
  refine s_iconst (v := nI 1) hX dX11_isAhead_4 (by decide) ?_
  refine s_callVi (as := [_, _]) hX dX11_isAhead_5 mk_X11_letterAt lk_X11_105 (c_X11_letterAt hN j 1 (by omega)) rfl (by omega) rfl rfl rfl ⟨rfl, rfl⟩ (Nat.le_of_ble_eq_true rfl) (Nat.le_of_ble_eq_true rfl) (Nat.le_of_ble_eq_true rfl) rfl (fun v5 σ5 p5 => ?_)
  obtain ⟨rfl, rfl⟩ := p5
  rw [show 16 + 5 * (j) + 1 = 17 + 5 * (j) by omega]
  refine s_callSi (as := [_, _]) hX dX11_isAhead_8 mk_X11_compareLetters lk_X11_123 (c_X11_compareLetters (a := f) (b := v (17 + 5 * j)) (by omega) (by omega)) rfl ⟨rfl, rfl⟩ (Nat.le_of_ble_eq_true rfl) (Nat.le_of_ble_eq_true rfl) (Nat.le_of_ble_eq_true rfl) rfl (fun v8 σ8 p8 => ?_)
  obtain ⟨g8, rfl⟩ := p8
  refine s_istore hX dX11_isAhead_11 (Nat.le_of_ble_eq_true rfl) rfl st_8_7 ?_
  refine s_iload hX dX11_isAhead_13 rfl ?_
  refine s_if_eq (tgt := 23) hX dX11_isAhead_15 (by decide) (fun q15 => ?_) (fun q15 => ?_)
  · refine s_iload_n hX dX11_isAhead_23 rfl ?_
    refine s_aload_n hX dX11_isAhead_24 rfl ?_
    refine s_iload hX dX11_isAhead_25 rfl ?_
    refine s_iconst (v := nI 2) hX dX11_isAhead_27 (by decide) ?_
    refine s_callVi (as := [_, _]) hX dX11_isAhead_28 mk_X11_letterAt lk_X11_105 (c_X11_letterAt hN j 2 (by omega)) rfl (by omega) rfl rfl rfl ⟨rfl, rfl⟩ (Nat.le_of_ble_eq_true rfl) (Nat.le_of_ble_eq_true rfl) (Nat.le_of_ble_eq_true rfl) rfl (fun v28 σ28 p28 => ?_)
    obtain ⟨rfl, rfl⟩ := p28
    rw [show 16 + 5 * (j) + 2 = 18 + 5 * (j) by omega]
    refine s_callSi (as := [_, _]) hX dX11_isAhead_31 mk_X11_compareLetters lk_X11_123 (c_X11_compareLetters (a := t) (b := v (18 + 5 * j)) (by omega) (by omega)) rfl ⟨rfl, rfl⟩ (Nat.le_of_ble_eq_true rfl) (Nat.le_of_ble_eq_true rfl) (Nat.le_of_ble_eq_true rfl) rfl (fun v31 σ31 p31 => ?_)
    obtain ⟨g31, rfl⟩ := p31
    first
      | (have hz := g8.2.mp q15
         refine J34 _ _ ?_ ?_
         · rw [g31.1]; omega
         · rw [g31.2]; omega)
      | (refine J34 _ _ ?_ ?_
         · rw [g8.1]
           have : ¬ (f = v (17 + 5 * j)) := fun y => q15 (g8.2.mpr y)
           omega
         · have : ¬ (f = v (17 + 5 * j)) := fun y => q15 (g8.2.mpr y)
           exact ⟨fun y => absurd y q15, fun y => absurd y.1 this⟩)
  · refine s_iload hX dX11_isAhead_18 rfl ?_
    refine s_goto (tgt := 34) hX dX11_isAhead_20 (by decide) ?_
    first
      | (have hz := g8.2.mp q15
         refine J34 _ _ ?_ ?_
         · rw [g31.1]; omega
         · rw [g31.2]; omega)
      | (refine J34 _ _ ?_ ?_
         · rw [g8.1]
           have : ¬ (f = v (17 + 5 * j)) := fun y => q15 (g8.2.mpr y)
           omega
         · have : ¬ (f = v (17 + 5 * j)) := fun y => q15 (g8.2.mpr y)
           exact ⟨fun y => absurd y q15, fun y => absurd y.1 this⟩)
end
section
theorem bI_0 {b : Bool} : bI b = 0 ↔ b = false := by cases b <;> decide
def shW (v : Vc) (a c w : Nat) : Vc := fun j => if (16 + 5 * (a + 1) ≤ j ∧ j < 16 + 5 * (c + 1)) ∨ (16 + 5 * a ≤ j ∧ j < 16 + 5 * a + w) then v (j - 5) else v j
theorem shW_lo {v : Vc} {a c w j : Nat} (h : j < 16 + 5 * a) : shW v a c w j = v j := by unfold shW; rw [if_neg (by omega)]
theorem shW_5 {v : Vc} {a c : Nat} (ha : a + 1 ≤ c) : shW v (a + 1) c 5 = shW v a c 0 := by
  funext j
  unfold shW
  by_cases h : (16 + 5 * (a + 1 + 1) ≤ j ∧ j < 16 + 5 * (c + 1)) ∨ (16 + 5 * (a + 1) ≤ j ∧ j < 16 + 5 * (a + 1) + 5)
  · rw [if_pos h, if_pos (by omega)]
  · rw [if_neg h, if_neg (by omega)]
theorem shW_c (v : Vc) (c : Nat) : shW v c c 0 = v := by
  funext j
  unfold shW
  rw [if_neg (by omega)]
theorem shW_s {v : Vc} {a c w : Nat} (ha : a + 1 ≤ c) : vset (shW v (a + 1) c w) (16 + 5 * (a + 1) + w) (v (16 + 5 * a + w)) = shW v (a + 1) c (w + 1) := by
  funext j
  by_cases h : j = 16 + 5 * (a + 1) + w
  · subst h
    rw [vset_s]
    unfold shW
    rw [if_pos (by omega)]
    congr 1
    omega
  · rw [vset_n _ _ h]
    unfold shW
    by_cases h2 : (16 + 5 * (a + 1 + 1) ≤ j ∧ j < 16 + 5 * (c + 1)) ∨ (16 + 5 * (a + 1) ≤ j ∧ j < 16 + 5 * (a + 1) + w)
    · rw [if_pos h2, if_pos (by omega)]
    · rw [if_neg h2, if_neg (by omega)]
theorem Vat.upd {σ : Sg} {a : Nat} {v : Vc} {k x : Nat} (h : Vat σ a 0 v) : Vat (wI σ a k (nI x)) a 0 (vset v k x) := fun j hj => by
  rw [Nat.zero_add]
  by_cases e : j = k
  · subst e; rw [wI_s, vset_s]
  · rw [wI_k _ _ e, vset_n _ _ e]; exact h.at0 j hj
theorem Vat.to {σ : Sg} {a b : Nat} {v v2 : Vc} (h : Vat σ a b v) (e : ∀ j, j < 56 → v j = v2 j) : Vat σ a b v2 := fun j hj => by rw [h j hj, e j hj]
theorem ins_eq {pr : Pr} {v : Vc} {a : Nat} {x : Lt} (hv : VOk pr v) (ha : a ≤ v 15) (j : Nat) : vset (vset (vset (vset (vset (vset (shW v a (v 15) 0) (16 + 5 * a) x.1) (16 + 5 * a + 1) x.2.1) (16 + 5 * a + 2) x.2.2.1) (16 + 5 * a + 3) x.2.2.2.1) (16 + 5 * a + 4) x.2.2.2.2) 15 (v 15 + 1) j = insL v a x j := by
  have h8 := hv.2.2.2.2.2.2.2
  unfold insL
  by_cases e15 : j = 15
  · subst e15; rw [vset_s]; rfl
  rw [vset_n _ _ e15]
  by_cases e0 : j < 15
  · rw [if_pos e0, vset_n _ _ (by omega), vset_n _ _ (by omega), vset_n _ _ (by omega), vset_n _ _ (by omega), vset_n _ _ (by omega), shW_lo (by omega)]
  rw [if_neg e0, if_neg e15]
  by_cases e1 : j < 16 + 5 * a
  · rw [if_pos e1, vset_n _ _ (by omega), vset_n _ _ (by omega), vset_n _ _ (by omega), vset_n _ _ (by omega), vset_n _ _ (by omega), shW_lo (by omega)]
  rw [if_neg e1]
  by_cases e2 : j < 16 + 5 * a + 5
  · rw [if_pos e2]
    obtain ⟨w, hw, rfl⟩ : ∃ w, w < 5 ∧ j = 16 + 5 * a + w := ⟨j - (16 + 5 * a), by omega, by omega⟩
    rw [show 16 + 5 * a + w - (16 + 5 * a) = w by omega]
    match w, hw with
    | 0, _ => rw [vset_n _ _ (by omega), vset_n _ _ (by omega), vset_n _ _ (by omega), vset_n _ _ (by omega)]; exact vset_s _ _ _
    | 1, _ => rw [vset_n _ _ (by omega), vset_n _ _ (by omega), vset_n _ _ (by omega)]; exact vset_s _ _ _
    | 2, _ => rw [vset_n _ _ (by omega), vset_n _ _ (by omega)]; exact vset_s _ _ _
    | 3, _ => rw [vset_n _ _ (by omega)]; exact vset_s _ _ _
    | 4, _ => exact vset_s _ _ _
  · rw [if_neg e2, vset_n _ _ (by omega), vset_n _ _ (by omega), vset_n _ _ (by omega), vset_n _ _ (by omega), vset_n _ _ (by omega)]
    unfold shW
    by_cases e3 : j < 16 + 5 * (v 15 + 1)
    · rw [if_pos (by omega)]
    · rw [if_neg (by omega), h8 j (by omega), h8 (j - 5) (by omega)]
set_option maxRecDepth 100000 in
set_option maxHeartbeats 4000000 in
theorem c_X11_send {σ : Sg} {pr : Pr} {v : Vc} (hp : PrM σ pr) (hk : PrOk pr) (hN : Vat σ 59 0 v) (hv : VOk pr v) {k f t u w : Nat} (hk0 : k < 16) (hf : f ≤ 4) (ht : t ≤ 4) (hu : u ≤ 4) (hw : w ≤ 4) : Sm 77 mX11_send [.ref 53, .int (nI k), .int (nI f), .int (nI t), .int (nI u), .int (nI w)] σ (qi fun r σ2 => r = bI (sendF pr v (k, f, t, u, w)).1 ∧ Off σ σ2 [59] ∧ Vat σ2 59 0 (sendF pr v (k, f, t, u, w)).2) := by
  refine Sm.of mk_X11_send (Nat.le_of_ble_eq_true rfl) rfl (fun X hX => ?_)
  have h15 := hv.2.2.2.2.1
  have hP := hk.1
  have hlt := hv.2.2.2.2.2.1
  have J92 : ∀ a (x7 : Option Value) σ1, a ≤ v 15 → v 15 < 8 → a = posR (ahF pr v (k, f, t, u, w)) (v 15) → Off σ σ1 [59] → Vat σ1 59 0 (shW v a (v 15) 0) → Sw 77 mX11_send X (ZS 77 mX11_send (qi fun r σ2 => r = bI (sendF pr v (k, f, t, u, w)).1 ∧ Off σ σ2 [59] ∧ Vat σ2 59 0 (sendF pr v (k, f, t, u, w)).2) X) 92 [some (.ref 53), some (.int (nI k)), some (.int (nI f)), some (.int (nI t)), some (.int (nI u)), some (.int (nI w)), some (.int (nI a)), x7] [] σ1 := by
    intro a x7 σ1 hac hc8 hpos ho hV
    refine s_bipush (v := nI 16) hX dX11_send_92 (by decide) ?_
    refine s_iconst (v := nI 5) hX dX11_send_94 (by decide) ?_
    refine s_iload hX dX11_send_95 rfl ?_
    refine s_imul_n hX dX11_send_97 ?_
    refine s_iadd_n hX dX11_send_98 ?_
    refine s_istore hX dX11_send_99 (Nat.le_of_ble_eq_true rfl) rfl st_8_7 ?_
    refine s_aload_n hX dX11_send_101 rfl ?_
    refine s_getR hX dX11_send_102 fl_X11_30 rfl rfl (by omega) ?_
    refine s_iload hX dX11_send_105 rfl ?_
    refine s_iload_n hX dX11_send_107 rfl ?_
    refine s_iast hX dX11_send_108 rfl (by omega) (by omega) (by decide) ?_
    refine s_gen (fun σ1 e1 => ?_)
    have h1 := (hV).upd (k := 16 + 5 * a) (x := k)
    have ho1 := (ho).wI (a := 59) (k := 16 + 5 * a) (x := nI (k)) (by decide)
    rw [← e1] at h1 ho1
    clear e1
    refine s_aload_n hX dX11_send_109 rfl ?_
    refine s_getR hX dX11_send_110 fl_X11_30 rfl rfl (by omega) ?_
    refine s_iload hX dX11_send_113 rfl ?_
    refine s_iconst (v := nI 1) hX dX11_send_115 (by decide) ?_
    refine s_iadd_n hX dX11_send_116 ?_
    refine s_iload_n hX dX11_send_117 rfl ?_
    refine s_iast hX dX11_send_118 rfl (by omega) (by omega) (by decide) ?_
    refine s_gen (fun σ2 e2 => ?_)
    have h2 := (h1).upd (k := 16 + 5 * a + 1) (x := f)
    have ho2 := (ho1).wI (a := 59) (k := 16 + 5 * a + 1) (x := nI (f)) (by decide)
    rw [← e2] at h2 ho2
    clear e2
    refine s_aload_n hX dX11_send_119 rfl ?_
    refine s_getR hX dX11_send_120 fl_X11_30 rfl rfl (by omega) ?_
    refine s_iload hX dX11_send_123 rfl ?_
    refine s_iconst (v := nI 2) hX dX11_send_125 (by decide) ?_
    refine s_iadd_n hX dX11_send_126 ?_
    refine s_iload_n hX dX11_send_127 rfl ?_
    refine s_iast hX dX11_send_128 rfl (by omega) (by omega) (by decide) ?_
    refine s_gen (fun σ3 e3 => ?_)
    have h3 := (h2).upd (k := 16 + 5 * a + 2) (x := t)
    have ho3 := (ho2).wI (a := 59) (k := 16 + 5 * a + 2) (x := nI (t)) (by decide)
    rw [← e3] at h3 ho3
    clear e3
    refine s_aload_n hX dX11_send_129 rfl ?_
    refine s_getR hX dX11_send_130 fl_X11_30 rfl rfl (by omega) ?_
    refine s_iload hX dX11_send_133 rfl ?_
    refine s_iconst (v := nI 3) hX dX11_send_135 (by decide) ?_
    refine s_iadd_n hX dX11_send_136 ?_
    refine s_iload hX dX11_send_137 rfl ?_
    refine s_iast hX dX11_send_139 rfl (by omega) (by omega) (by decide) ?_
    refine s_gen (fun σ4 e4 => ?_)
    have h4 := (h3).upd (k := 16 + 5 * a + 3) (x := u)
    have ho4 := (ho3).wI (a := 59) (k := 16 + 5 * a + 3) (x := nI (u)) (by decide)
    rw [← e4] at h4 ho4
    clear e4
    refine s_aload_n hX dX11_send_140 rfl ?_
    refine s_getR hX dX11_send_141 fl_X11_30 rfl rfl (by omega) ?_
    refine s_iload hX dX11_send_144 rfl ?_
    refine s_iconst (v := nI 4) hX dX11_send_146 (by decide) ?_
    refine s_iadd_n hX dX11_send_147 ?_
    refine s_iload hX dX11_send_148 rfl ?_
    refine s_iast hX dX11_send_150 rfl (by omega) (by omega) (by decide) ?_
    refine s_gen (fun σ5 e5 => ?_)
    have h5 := (h4).upd (k := 16 + 5 * a + 4) (x := w)
    have ho5 := (ho4).wI (a := 59) (k := 16 + 5 * a + 4) (x := nI (w)) (by decide)
    rw [← e5] at h5 ho5
    clear e5
    refine s_aload_n hX dX11_send_151 rfl ?_
    refine s_getR hX dX11_send_152 fl_X11_30 rfl rfl (by omega) ?_
    refine s_bipush (v := nI 15) hX dX11_send_155 (by decide) ?_
    refine s_dup2 hX dX11_send_157 rfl rfl ?_
    refine s_iald (x := nI (v 15)) hX dX11_send_158 rfl (by omega) (by omega) (by decide) (by rw [h5.at0 15 (by decide), vset_n _ _ (by omega), vset_n _ _ (by omega), vset_n _ _ (by omega), vset_n _ _ (by omega), vset_n _ _ (by omega), shW_lo (by omega)]) ?_
    refine s_iconst (v := nI 1) hX dX11_send_159 (by decide) ?_
    refine s_iadd_n hX dX11_send_160 ?_
    refine s_iast hX dX11_send_161 rfl (by omega) (by omega) (by decide) ?_
    refine s_gen (fun σ6 e6 => ?_)
    have h6 := (h5).upd (k := 15) (x := v 15 + 1)
    have ho6 := (ho5).wI (a := 59) (k := 15) (x := nI (v 15 + 1)) (by decide)
    rw [← e6] at h6 ho6
    clear e6
    refine s_iconst (v := nI 1) hX dX11_send_162 (by decide) ?_
    refine s_zret hX dX11_send_163 rfl (by first | exact Or.inl rfl | exact Or.inr rfl) rfl ?_
    have hS : sendF pr v (k, f, t, u, w) = (true, insL v a (k, f, t, u, w)) := by
      unfold sendF
      rw [if_neg (by omega), ← hpos]
    rw [hS]
    exact ⟨rfl, ho6, h6.to (fun j _ => ins_eq (x := (k, f, t, u, w)) hv hac j)⟩
  have OUT : v 15 < 8 → ∀ a, a ≤ v 15 → posR (ahF pr v (k, f, t, u, w)) a = posR (ahF pr v (k, f, t, u, w)) (v 15) → ∀ (x7 : Option Value) σ1, Off σ σ1 [59] → Vat σ1 59 0 (shW v a (v 15) 0) → Sw 77 mX11_send X (ZS 77 mX11_send (qi fun r σ2 => r = bI (sendF pr v (k, f, t, u, w)).1 ∧ Off σ σ2 [59] ∧ Vat σ2 59 0 (sendF pr v (k, f, t, u, w)).2) X) 23 [some (.ref 53), some (.int (nI k)), some (.int (nI f)), some (.int (nI t)), some (.int (nI u)), some (.int (nI w)), some (.int (nI a)), x7] [] σ1 := by
    intro hc8 a
    induction a with
    | zero =>
      intro hac hpos x7 σ1 ho hV
      refine s_iload hX dX11_send_23 rfl ?_
      refine s_if_le_n (tgt := 92) hX dX11_send_25 (by decide) (by omega) (fun q25 => ?_) (fun q25 => ?_)
      · exact J92 0 x7 σ1 hac hc8 hpos ho hV
      · omega
    | succ a ih =>
      intro hac hpos x7 σ1 ho hV
      have lo : ∀ j, j < 16 + 5 * (a + 1) → shW v (a + 1) (v 15) 0 j = v j := fun j hj => shW_lo hj
      have g := hlt a (by omega)
      have hA : ahF pr (shW v (a + 1) (v 15) 0) (k, f, t, u, w) a = ahF pr v (k, f, t, u, w) a := by
        unfold ahF
        rw [lo _ (by omega), lo _ (by omega), lo _ (by omega), lo _ (by omega), lo _ (by omega)]
      have IN : ∀ m q, q + m = 5 → ∀ σ2, Off σ σ2 [59] → Vat σ2 59 0 (shW v (a + 1) (v 15) q) → ahF pr v (k, f, t, u, w) a = true → Sw 77 mX11_send X (ZS 77 mX11_send (qi fun r σ2 => r = bI (sendF pr v (k, f, t, u, w)).1 ∧ Off σ σ2 [59] ∧ Vat σ2 59 0 (sendF pr v (k, f, t, u, w)).2) X) 49 [some (.ref 53), some (.int (nI k)), some (.int (nI f)), some (.int (nI t)), some (.int (nI u)), some (.int (nI w)), some (.int (nI (a + 1))), some (.int (nI q))] [] σ2 := by
        intro m
        induction m with
        | zero =>
          intro q hq σ2 ho2 hV2 hah
          refine s_iload hX dX11_send_49 rfl ?_
          refine s_iconst (v := nI 5) hX dX11_send_51 (by decide) ?_
          refine s_icmp_ge_n (tgt := 86) hX dX11_send_52 (by decide) (by omega) (by omega) (fun q52 => ?_) (fun q52 => ?_)
          · refine s_idec_n hX dX11_send_86 rfl (by omega) rfl st_8_6 ?_
            refine s_goto (tgt := 23) hX dX11_send_89 (by decide) ?_
            refine ih (by omega) ?_ _ σ2 ho2 ?_
            · rw [← hpos]
              show _ = posR _ (a + 1)
              unfold posR
              rw [if_pos hah]
              cases a <;> rfl
            · rw [← shW_5 (by omega), ← show q = 5 by omega]
              exact hV2
          · omega
        | succ m ihm =>
          intro q hq σ2 ho2 hV2 hah
          refine s_iload hX dX11_send_49 rfl ?_
          refine s_iconst (v := nI 5) hX dX11_send_51 (by decide) ?_
          refine s_icmp_ge_n (tgt := 86) hX dX11_send_52 (by decide) (by omega) (by omega) (fun q52 => ?_) (fun q52 => ?_)
          · omega
          · refine s_aload_n hX dX11_send_55 rfl ?_
            refine s_getR hX dX11_send_56 fl_X11_30 rfl rfl (by omega) ?_
            refine s_bipush (v := nI 16) hX dX11_send_59 (by decide) ?_
            refine s_iconst (v := nI 5) hX dX11_send_61 (by decide) ?_
            refine s_iload hX dX11_send_62 rfl ?_
            refine s_imul_n hX dX11_send_64 ?_
            refine s_iadd_n hX dX11_send_65 ?_
            refine s_iload hX dX11_send_66 rfl ?_
            refine s_iadd_n hX dX11_send_68 ?_
            refine s_aload_n hX dX11_send_69 rfl ?_
            refine s_iload hX dX11_send_70 rfl ?_
            refine s_iconst (v := nI 1) hX dX11_send_72 (by decide) ?_
            refine s_isub_n hX dX11_send_73 (by omega) ?_
            refine s_iload hX dX11_send_74 rfl ?_
            refine s_callVi (as := [_, _]) hX dX11_send_76 mk_X11_letterAt lk_X11_105 (c_X11_letterAt hV2 (a + 1 - 1) q (by omega)) rfl (by omega) rfl rfl rfl ⟨rfl, rfl⟩ (Nat.le_of_ble_eq_true rfl) (Nat.le_of_ble_eq_true rfl) (Nat.le_of_ble_eq_true rfl) rfl (fun v76 σ76 p76 => ?_)
            obtain ⟨rfl, rfl⟩ := p76
            rw [show 16 + 5 * (a + 1 - 1) + q = 16 + 5 * a + q by omega, shW_lo (by omega)]
            refine s_iast hX dX11_send_79 rfl (by omega) (by omega) (by decide) ?_
            refine s_gen (fun σ3 e3 => ?_)
            have h3 := hV2.upd (k := 16 + 5 * (a + 1) + q) (x := v (16 + 5 * a + q))
            rw [shW_s (by omega)] at h3
            have ho3 := ho2.wI (a := 59) (k := 16 + 5 * (a + 1) + q) (x := nI (v (16 + 5 * a + q))) (by decide)
            rw [← e3] at h3 ho3
            clear e3
            refine s_iinc_n (c := 1) hX dX11_send_80 rfl (by decide) rfl st_8_7 ?_
            refine s_goto (tgt := 49) hX dX11_send_83 (by decide) ?_
            exact ihm (q + 1) (by omega) σ3 ho3 h3 hah
      refine s_iload hX dX11_send_23 rfl ?_
      refine s_if_le_n (tgt := 92) hX dX11_send_25 (by decide) (by omega) (fun q25 => ?_) (fun q25 => ?_)
      · omega
      · refine s_aload_n hX dX11_send_28 rfl ?_
        refine s_iload_n hX dX11_send_29 rfl ?_
        refine s_iload_n hX dX11_send_30 rfl ?_
        refine s_iload_n hX dX11_send_31 rfl ?_
        refine s_iload hX dX11_send_32 rfl ?_
        refine s_iload hX dX11_send_34 rfl ?_
        refine s_iload hX dX11_send_36 rfl ?_
        refine s_iconst (v := nI 1) hX dX11_send_38 (by decide) ?_
        refine s_isub_n hX dX11_send_39 (by omega) ?_
        rw [show a + 1 - 1 = a by omega]
        refine s_callVi (as := [_, _, _, _, _, _]) hX dX11_send_40 mk_X11_isAhead lk_X11_126 (c_X11_isAhead (v := shW v (a + 1) (v 15) 0) (k := k) (f := f) (t := t) (u := u) (w := w) (j := a) (hp.off ho (by decide) (by decide) (by decide) (by decide) (by decide)) hk hV (by omega) hk0 hf ht hu hw (by rw [lo _ (by omega)]; omega) (by rw [lo _ (by omega)]; omega) (by rw [lo _ (by omega)]; omega) (by rw [lo _ (by omega)]; omega) (by rw [lo _ (by omega)]; omega)) rfl (by omega) rfl rfl rfl ⟨rfl, rfl⟩ (Nat.le_of_ble_eq_true rfl) (Nat.le_of_ble_eq_true rfl) (Nat.le_of_ble_eq_true rfl) rfl (fun v40 σ40 p40 => ?_)
        obtain ⟨rfl, rfl⟩ := p40
        rw [hA]
        refine s_if_eq (tgt := 92) hX dX11_send_43 (by decide) (fun q43 => ?_) (fun q43 => ?_)
        · refine J92 (a + 1) x7 _ hac hc8 ?_ ho hV
          rw [← hpos]
          unfold posR
          rw [if_neg (by rw [bI_0.mp q43]; decide)]
        · refine s_iconst (v := nI 0) hX dX11_send_46 (by decide) ?_
          refine s_istore hX dX11_send_47 (Nat.le_of_ble_eq_true rfl) rfl st_8_7 ?_
          exact IN 5 0 (by omega) _ ho hV (by cases hh : ahF pr v (k, f, t, u, w) a with
            | true => rfl
            | false => exact absurd (bI_0.mpr hh) q43)
  refine s_aload_n hX dX11_send_0 rfl ?_
  refine s_getR hX dX11_send_1 fl_X11_30 rfl rfl (by omega) ?_
  refine s_bipush (v := nI 15) hX dX11_send_4 (by decide) ?_
  refine s_iald (x := nI (v 15)) hX dX11_send_6 rfl (by omega) (by omega) (by decide) (hN.at0 15 (by decide)) ?_
  refine s_bipush (v := nI 8) hX dX11_send_7 (by decide) ?_
  refine s_icmp_ne_n (tgt := 14) hX dX11_send_9 (by decide) (by omega) (by omega) (fun q9 => ?_) (fun q9 => ?_)
  · refine s_aload_n hX dX11_send_14 rfl ?_
    refine s_getR hX dX11_send_15 fl_X11_30 rfl rfl (by omega) ?_
    refine s_bipush (v := nI 15) hX dX11_send_18 (by decide) ?_
    refine s_iald (x := nI (v 15)) hX dX11_send_20 rfl (by omega) (by omega) (by decide) (hN.at0 15 (by decide)) ?_
    refine s_istore hX dX11_send_21 (Nat.le_of_ble_eq_true rfl) rfl st_8_6 ?_
    refine OUT (by omega) (v 15) (Nat.le_refl _) rfl _ σ Off.rf ?_
    rw [shW_c]
    exact hN
  · refine s_iconst (v := nI 0) hX dX11_send_12 (by decide) ?_
    refine s_zret hX dX11_send_13 rfl (by first | exact Or.inl rfl | exact Or.inr rfl) rfl ?_
    have hS : sendF pr v (k, f, t, u, w) = (false, v) := by
      unfold sendF
      rw [if_pos q9]
    rw [hS]
    exact ⟨rfl, Off.rf, hN⟩
def tkW (v : Vc) (i j w : Nat) : Vc := fun q => if q = 15 then v 15 - 1 else if (16 + 5 * i ≤ q ∧ q < 16 + 5 * j + w) then v (q + 5) else v q
theorem tkW_s {v : Vc} {i j w : Nat} (h : i ≤ j) : vset (tkW v i j w) (16 + 5 * j + w) (v (16 + 5 * (j + 1) + w)) = tkW v i j (w + 1) := by
  funext q
  by_cases e : q = 16 + 5 * j + w
  · subst e
    rw [vset_s]
    unfold tkW
    rw [if_neg (by omega), if_pos (by omega)]
    congr 1
    omega
  · rw [vset_n _ _ e]
    unfold tkW
    by_cases e2 : q = 15
    · rw [if_pos e2, if_pos e2]
    · rw [if_neg e2, if_neg e2]
      by_cases e3 : 16 + 5 * i ≤ q ∧ q < 16 + 5 * j + w
      · rw [if_pos e3, if_pos (by omega)]
      · rw [if_neg e3, if_neg (by omega)]
theorem tkW_5 (v : Vc) (i j : Nat) : tkW v i j 5 = tkW v i (j + 1) 0 := by
  funext q
  unfold tkW
  rw [show 16 + 5 * j + 5 = 16 + 5 * (j + 1) + 0 by omega]
theorem tkW_0 (v : Vc) (i : Nat) : tkW v i i 0 = vset v 15 (v 15 - 1) := by
  funext q
  unfold tkW vset
  by_cases e : q = 15
  · rw [if_pos e, if_pos e]
  · rw [if_neg e, if_neg e, if_neg (by omega)]
theorem tkW_z {pr : Pr} {v : Vc} {i w q : Nat} (hv : VOk pr v) (hi : i < v 15) (hq : q < 56) (hw : w ≤ 5) : tkW v i (v 15 - 1) w q = if 16 + 5 * (v 15 - 1) + w ≤ q ∧ q < 16 + 5 * (v 15 - 1) + 5 then v q else takeL v i q := by
  have h8 := hv.2.2.2.2.2.2.2
  unfold tkW takeL
  by_cases e : q = 15
  · subst e; rw [if_pos rfl, if_neg (by omega), if_neg (by omega), if_pos rfl]
  · rw [if_neg e]
    by_cases e1 : 16 + 5 * (v 15 - 1) + w ≤ q ∧ q < 16 + 5 * (v 15 - 1) + 5
    · rw [if_pos e1, if_neg (by omega)]
    · rw [if_neg e1]
      by_cases e2 : 16 + 5 * i ≤ q ∧ q < 16 + 5 * (v 15 - 1) + w
      · rw [if_pos e2, if_neg (by omega), if_neg e, if_neg (by omega)]
      · rw [if_neg e2]
        by_cases e3 : q < 15
        · rw [if_pos e3]
        · rw [if_neg e3, if_neg e]
          by_cases e4 : q < 16 + 5 * i
          · rw [if_pos e4]
          · rw [if_neg e4, h8 q (by omega), h8 (q + 5) (by omega)]
set_option maxRecDepth 100000 in
set_option maxHeartbeats 4000000 in
theorem c_X11_takeLetter {σ : Sg} {pr : Pr} {v : Vc} (hN : Vat σ 59 0 v) (hv : VOk pr v) (i : Nat) (hi : i < v 15) : Sm 77 mX11_takeLetter [.ref 53, .int (nI i)] σ (qv fun σ2 => Fr 53 σ σ2 [59] [9, 10, 11] ∧ Vat σ2 59 0 (takeL v i) ∧ (σ2 53).1 10 = nI (v (19 + 5 * i)) ∧ (σ2 53).1 11 = nI (v (20 + 5 * i))) := by
  refine Sm.of mk_X11_takeLetter (Nat.le_of_ble_eq_true rfl) rfl (fun X hX => ?_)
  have h15 := hv.2.2.2.2.1
  have ZER : ∀ m w, w + m = 5 → ∀ σ1 (x3 : Option Value), Fr 53 σ σ1 [59] [9, 10, 11] → (∀ q, q < 56 → (σ1 59).1 q = nI (if 16 + 5 * (v 15 - 1) + w ≤ q ∧ q < 16 + 5 * (v 15 - 1) + 5 then tkW v i (v 15 - 1) 0 q else takeL v i q)) → (σ1 53).1 10 = nI (v (19 + 5 * i)) → (σ1 53).1 11 = nI (v (20 + 5 * i)) → Sw 77 mX11_takeLetter X (ZS 77 mX11_takeLetter (qv fun σ2 => Fr 53 σ σ2 [59] [9, 10, 11] ∧ Vat σ2 59 0 (takeL v i) ∧ (σ2 53).1 10 = nI (v (19 + 5 * i)) ∧ (σ2 53).1 11 = nI (v (20 + 5 * i))) X) 96 [some (.ref 53), some (.int (nI i)), some (.int (nI w)), x3] [] σ1 := by
    intro m
    induction m with
    | zero =>
      intro w hw σ1 x3 hf hV h10 h11
      refine s_iload_n hX dX11_takeLetter_96 rfl ?_
      refine s_iconst (v := nI 5) hX dX11_takeLetter_97 (by decide) ?_
      refine s_icmp_ge_n (tgt := 127) hX dX11_takeLetter_98 (by decide) (by omega) (by omega) (fun q98 => ?_) (fun q98 => ?_)
      · refine s_vret hX dX11_takeLetter_127 rfl rfl ?_
        refine ⟨hf, fun q hq => ?_, h10, h11⟩
        rw [Nat.zero_add, hV q hq, if_neg (by omega)]
      · omega
    | succ m ih =>
      intro w hw σ1 x3 hf hV h10 h11
      have e15 : (σ1 59).1 15 = nI (v 15 - 1) := by
        rw [hV 15 (by decide), if_neg (by omega)]
        rfl
      refine s_iload_n hX dX11_takeLetter_96 rfl ?_
      refine s_iconst (v := nI 5) hX dX11_takeLetter_97 (by decide) ?_
      refine s_icmp_ge_n (tgt := 127) hX dX11_takeLetter_98 (by decide) (by omega) (by omega) (fun q98 => ?_) (fun q98 => ?_)
      · omega
      · refine s_aload_n hX dX11_takeLetter_101 rfl ?_
        refine s_getR hX dX11_takeLetter_102 fl_X11_30 rfl rfl (by omega) ?_
        refine s_bipush (v := nI 16) hX dX11_takeLetter_105 (by decide) ?_
        refine s_iconst (v := nI 5) hX dX11_takeLetter_107 (by decide) ?_
        refine s_aload_n hX dX11_takeLetter_108 rfl ?_
        refine s_getR hX dX11_takeLetter_109 fl_X11_30 rfl rfl (by omega) ?_
        refine s_bipush (v := nI 15) hX dX11_takeLetter_112 (by decide) ?_
        refine s_iald (x := nI (v 15 - 1)) hX dX11_takeLetter_114 rfl (by omega) (by omega) (by decide) e15 ?_
        refine s_imul_n hX dX11_takeLetter_115 ?_
        refine s_iadd_n hX dX11_takeLetter_116 ?_
        refine s_iload_n hX dX11_takeLetter_117 rfl ?_
        refine s_iadd_n hX dX11_takeLetter_118 ?_
        refine s_iconst (v := nI 0) hX dX11_takeLetter_119 (by decide) ?_
        refine s_iast hX dX11_takeLetter_120 rfl (by omega) (by omega) (by decide) ?_
        refine s_iinc_n (c := 1) hX dX11_takeLetter_121 rfl (by decide) rfl st_4_2 ?_
        refine s_goto (tgt := 96) hX dX11_takeLetter_124 (by decide) ?_
        refine ih (w + 1) (by omega) _ x3 (hf.wI (by decide) (by decide)) (fun q hq => ?_) (by rw [wI_a _ _ (by decide)]; exact h10) (by rw [wI_a _ _ (by decide)]; exact h11)
        by_cases e : q = 16 + 5 * (v 15 - 1) + w
        · subst e
          rw [wI_s, if_neg (by omega)]
          unfold takeL
          rw [if_neg (by omega), if_neg (by omega), if_neg (by omega), hv.2.2.2.2.2.2.2 _ (by omega)]
        · rw [wI_k _ _ e, hV q hq]
          by_cases e2 : 16 + 5 * (v 15 - 1) + w ≤ q ∧ q < 16 + 5 * (v 15 - 1) + 5
          · rw [if_pos e2, if_pos (by omega)]
          · rw [if_neg e2, if_neg (by omega)]
  have OUT : ∀ m j, j + m = v 15 - 1 → i ≤ j → ∀ σ1 (x3 : Option Value), Fr 53 σ σ1 [59] [9, 10, 11] → Vat σ1 59 0 (tkW v i j 0) → (σ1 53).1 10 = nI (v (19 + 5 * i)) → (σ1 53).1 11 = nI (v (20 + 5 * i)) → Sw 77 mX11_takeLetter X (ZS 77 mX11_takeLetter (qv fun σ2 => Fr 53 σ σ2 [59] [9, 10, 11] ∧ Vat σ2 59 0 (takeL v i) ∧ (σ2 53).1 10 = nI (v (19 + 5 * i)) ∧ (σ2 53).1 11 = nI (v (20 + 5 * i))) X) 43 [some (.ref 53), some (.int (nI i)), some (.int (nI j)), x3] [] σ1 := by
    intro m
    induction m with
    | zero =>
      intro j hj hij σ1 x3 hf hV h10 h11
      have e15 : (σ1 59).1 15 = nI (v 15 - 1) := hV.at0 15 (by decide)
      refine s_iload_n hX dX11_takeLetter_43 rfl ?_
      refine s_aload_n hX dX11_takeLetter_44 rfl ?_
      refine s_getR hX dX11_takeLetter_45 fl_X11_30 rfl rfl (by omega) ?_
      refine s_bipush (v := nI 15) hX dX11_takeLetter_48 (by decide) ?_
      refine s_iald (x := nI (v 15 - 1)) hX dX11_takeLetter_50 rfl (by omega) (by omega) (by decide) e15 ?_
      refine s_icmp_ge_n (tgt := 94) hX dX11_takeLetter_51 (by decide) (by omega) (by omega) (fun q51 => ?_) (fun q51 => ?_)
      · refine s_iconst (v := nI 0) hX dX11_takeLetter_94 (by decide) ?_
        refine s_istore_n hX dX11_takeLetter_95 (Nat.le_of_ble_eq_true rfl) rfl st_4_2 ?_
        refine ZER 5 0 (by omega) σ1 x3 hf (fun q hq => ?_) h10 h11
        rw [hV.at0 q hq, show j = v 15 - 1 by omega]
        by_cases e2 : 16 + 5 * (v 15 - 1) + 0 ≤ q ∧ q < 16 + 5 * (v 15 - 1) + 5
        · rw [if_pos e2]
        · rw [if_neg e2, tkW_z hv hi hq (by decide), if_neg e2]
      · omega
    | succ m ih =>
      intro j hj hij σ1 x3 hf hV h10 h11
      have e15 : (σ1 59).1 15 = nI (v 15 - 1) := hV.at0 15 (by decide)
      have IN : ∀ d w, w + d = 5 → ∀ σ2, Fr 53 σ σ2 [59] [9, 10, 11] → Vat σ2 59 0 (tkW v i j w) → (σ2 53).1 10 = nI (v (19 + 5 * i)) → (σ2 53).1 11 = nI (v (20 + 5 * i)) → Sw 77 mX11_takeLetter X (ZS 77 mX11_takeLetter (qv fun σ2 => Fr 53 σ σ2 [59] [9, 10, 11] ∧ Vat σ2 59 0 (takeL v i) ∧ (σ2 53).1 10 = nI (v (19 + 5 * i)) ∧ (σ2 53).1 11 = nI (v (20 + 5 * i))) X) 56 [some (.ref 53), some (.int (nI i)), some (.int (nI j)), some (.int (nI w))] [] σ2 := by
        intro d
        induction d with
        | zero =>
          intro w hw σ2 hf2 hV2 h10 h11
          refine s_iload_n hX dX11_takeLetter_56 rfl ?_
          refine s_iconst (v := nI 5) hX dX11_takeLetter_57 (by decide) ?_
          refine s_icmp_ge_n (tgt := 88) hX dX11_takeLetter_58 (by decide) (by omega) (by omega) (fun q58 => ?_) (fun q58 => ?_)
          · refine s_iinc_n (c := 1) hX dX11_takeLetter_88 rfl (by decide) rfl st_4_2 ?_
            refine s_goto (tgt := 43) hX dX11_takeLetter_91 (by decide) ?_
            refine ih (j + 1) (by omega) (by omega) σ2 _ hf2 ?_ h10 h11
            rw [← tkW_5, ← show w = 5 by omega]
            exact hV2
          · omega
        | succ d ihd =>
          intro w hw σ2 hf2 hV2 h10 h11
          refine s_iload_n hX dX11_takeLetter_56 rfl ?_
          refine s_iconst (v := nI 5) hX dX11_takeLetter_57 (by decide) ?_
          refine s_icmp_ge_n (tgt := 88) hX dX11_takeLetter_58 (by decide) (by omega) (by omega) (fun q58 => ?_) (fun q58 => ?_)
          · omega
          · refine s_aload_n hX dX11_takeLetter_61 rfl ?_
            refine s_getR hX dX11_takeLetter_62 fl_X11_30 rfl rfl (by omega) ?_
            refine s_bipush (v := nI 16) hX dX11_takeLetter_65 (by decide) ?_
            refine s_iconst (v := nI 5) hX dX11_takeLetter_67 (by decide) ?_
            refine s_iload_n hX dX11_takeLetter_68 rfl ?_
            refine s_imul_n hX dX11_takeLetter_69 ?_
            refine s_iadd_n hX dX11_takeLetter_70 ?_
            refine s_iload_n hX dX11_takeLetter_71 rfl ?_
            refine s_iadd_n hX dX11_takeLetter_72 ?_
            refine s_aload_n hX dX11_takeLetter_73 rfl ?_
            refine s_iload_n hX dX11_takeLetter_74 rfl ?_
            refine s_iconst (v := nI 1) hX dX11_takeLetter_75 (by decide) ?_
            refine s_iadd_n hX dX11_takeLetter_76 ?_
            refine s_iload_n hX dX11_takeLetter_77 rfl ?_
            refine s_callVi (as := [_, _]) hX dX11_takeLetter_78 mk_X11_letterAt lk_X11_105 (c_X11_letterAt hV2 (j + 1) w (by omega)) rfl (by omega) rfl rfl rfl ⟨rfl, rfl⟩ (Nat.le_of_ble_eq_true rfl) (Nat.le_of_ble_eq_true rfl) (Nat.le_of_ble_eq_true rfl) rfl (fun v78 σ78 p78 => ?_)
            obtain ⟨rfl, rfl⟩ := p78
            rw [show tkW v i j w (16 + 5 * (j + 1) + w) = v (16 + 5 * (j + 1) + w) by unfold tkW; rw [if_neg (by omega), if_neg (by omega)]]
            refine s_iast hX dX11_takeLetter_81 rfl (by omega) (by omega) (by decide) ?_
            refine s_gen (fun σ3 e3 => ?_)
            have h3 := hV2.upd (k := 16 + 5 * j + w) (x := v (16 + 5 * (j + 1) + w))
            rw [tkW_s hij] at h3
            have hf3 := hf2.wI (a := 59) (k := 16 + 5 * j + w) (x := nI (v (16 + 5 * (j + 1) + w))) (by decide) (by decide)
            have e53 : σ3 53 = σ78 53 := by rw [e3]; exact wI_a _ _ (by decide)
            rw [← e3] at h3 hf3
            refine s_iinc_n (c := 1) hX dX11_takeLetter_82 rfl (by decide) rfl st_4_3 ?_
            refine s_goto (tgt := 56) hX dX11_takeLetter_85 (by decide) ?_
            exact ihd (w + 1) (by omega) σ3 hf3 h3 (by rw [e53]; exact h10) (by rw [e53]; exact h11)
      refine s_iload_n hX dX11_takeLetter_43 rfl ?_
      refine s_aload_n hX dX11_takeLetter_44 rfl ?_
      refine s_getR hX dX11_takeLetter_45 fl_X11_30 rfl rfl (by omega) ?_
      refine s_bipush (v := nI 15) hX dX11_takeLetter_48 (by decide) ?_
      refine s_iald (x := nI (v 15 - 1)) hX dX11_takeLetter_50 rfl (by omega) (by omega) (by decide) e15 ?_
      refine s_icmp_ge_n (tgt := 94) hX dX11_takeLetter_51 (by decide) (by omega) (by omega) (fun q51 => ?_) (fun q51 => ?_)
      · omega
      · refine s_iconst (v := nI 0) hX dX11_takeLetter_54 (by decide) ?_
        refine s_istore_n hX dX11_takeLetter_55 (Nat.le_of_ble_eq_true rfl) rfl st_4_3 ?_
        exact IN 5 0 (by omega) σ1 hf hV h10 h11
  refine s_aload_n hX dX11_takeLetter_0 rfl ?_
  refine s_aload_n hX dX11_takeLetter_1 rfl ?_
  refine s_iload_n hX dX11_takeLetter_2 rfl ?_
  refine s_iconst (v := nI 0) hX dX11_takeLetter_3 (by decide) ?_
  refine s_callVi (as := [_, _]) hX dX11_takeLetter_4 mk_X11_letterAt lk_X11_105 (c_X11_letterAt hN i 0 (by omega)) rfl (by omega) rfl rfl rfl ⟨rfl, rfl⟩ (Nat.le_of_ble_eq_true rfl) (Nat.le_of_ble_eq_true rfl) (Nat.le_of_ble_eq_true rfl) rfl (fun v4 σ4 p4 => ?_)
  obtain ⟨rfl, rfl⟩ := p4
  refine s_putI hX dX11_takeLetter_7 fl_X11_130 rfl rfl (by omega) rfl rfl ?_
  refine s_gen (fun σ1 e1 => ?_)
  have hf1 := (Fr.rf (o := 53) (σ := σ4) (S := [59]) (K := [9, 10, 11])).put (k := 9) (x := nI (v (16 + 5 * i + 0))) (by decide)
  have hN1 := hN.kept (σ2 := σ1) (by rw [e1]; exact wI_a _ _ (by decide))
  rw [← e1] at hf1
  clear e1
  refine s_aload_n hX dX11_takeLetter_10 rfl ?_
  refine s_aload_n hX dX11_takeLetter_11 rfl ?_
  refine s_iload_n hX dX11_takeLetter_12 rfl ?_
  refine s_iconst (v := nI 3) hX dX11_takeLetter_13 (by decide) ?_
  refine s_callVi (as := [_, _]) hX dX11_takeLetter_14 mk_X11_letterAt lk_X11_105 (c_X11_letterAt hN1 i 3 (by omega)) rfl (by omega) rfl rfl rfl ⟨rfl, rfl⟩ (Nat.le_of_ble_eq_true rfl) (Nat.le_of_ble_eq_true rfl) (Nat.le_of_ble_eq_true rfl) rfl (fun v14 σ14 p14 => ?_)
  obtain ⟨rfl, rfl⟩ := p14
  rw [show 16 + 5 * i + 3 = 19 + 5 * i by omega]
  refine s_putI hX dX11_takeLetter_17 fl_X11_133 rfl rfl (by omega) rfl rfl ?_
  refine s_gen (fun σ2 e2 => ?_)
  have hf2 := hf1.put (k := 10) (x := nI (v (19 + 5 * i))) (by decide)
  have hN2 := hN1.kept (σ2 := σ2) (by rw [e2]; exact wI_a _ _ (by decide))
  have h10 : (σ2 53).1 10 = nI (v (19 + 5 * i)) := by rw [e2, wI_s]
  rw [← e2] at hf2
  clear e2
  refine s_aload_n hX dX11_takeLetter_20 rfl ?_
  refine s_aload_n hX dX11_takeLetter_21 rfl ?_
  refine s_iload_n hX dX11_takeLetter_22 rfl ?_
  refine s_iconst (v := nI 4) hX dX11_takeLetter_23 (by decide) ?_
  refine s_callVi (as := [_, _]) hX dX11_takeLetter_24 mk_X11_letterAt lk_X11_105 (c_X11_letterAt hN2 i 4 (by omega)) rfl (by omega) rfl rfl rfl ⟨rfl, rfl⟩ (Nat.le_of_ble_eq_true rfl) (Nat.le_of_ble_eq_true rfl) (Nat.le_of_ble_eq_true rfl) rfl (fun v24 σ24 p24 => ?_)
  obtain ⟨rfl, rfl⟩ := p24
  rw [show 16 + 5 * i + 4 = 20 + 5 * i by omega]
  refine s_putI hX dX11_takeLetter_27 fl_X11_136 rfl rfl (by omega) rfl rfl ?_
  refine s_gen (fun σ3 e3 => ?_)
  have hf3 := hf2.put (k := 11) (x := nI (v (20 + 5 * i))) (by decide)
  have hN3 := hN2.kept (σ2 := σ3) (by rw [e3]; exact wI_a _ _ (by decide))
  have h11 : (σ3 53).1 11 = nI (v (20 + 5 * i)) := by rw [e3, wI_s]
  have h10 : (σ3 53).1 10 = nI (v (19 + 5 * i)) := by rw [e3, wI_k _ _ (by decide)]; exact h10
  rw [← e3] at hf3
  clear e3
  refine s_aload_n hX dX11_takeLetter_30 rfl ?_
  refine s_getR hX dX11_takeLetter_31 fl_X11_30 rfl rfl (by omega) ?_
  refine s_bipush (v := nI 15) hX dX11_takeLetter_34 (by decide) ?_
  refine s_dup2 hX dX11_takeLetter_36 rfl rfl ?_
  refine s_iald (x := nI (v 15)) hX dX11_takeLetter_37 rfl (by omega) (by omega) (by decide) (hN3.at0 15 (by decide)) ?_
  refine s_iconst (v := nI 1) hX dX11_takeLetter_38 (by decide) ?_
  refine s_isub_n hX dX11_takeLetter_39 (by omega) ?_
  refine s_iast hX dX11_takeLetter_40 rfl (by omega) (by omega) (by decide) ?_
  refine s_gen (fun σ5 e5 => ?_)
  have hV5 := hN3.upd (k := 15) (x := v 15 - 1)
  have hf5 := hf3.wI (a := 59) (k := 15) (x := nI (v 15 - 1)) (by decide) (by decide)
  have h10 : (σ5 53).1 10 = nI (v (19 + 5 * i)) := by rw [e5, wI_a _ _ (by decide)]; exact h10
  have h11 : (σ5 53).1 11 = nI (v (20 + 5 * i)) := by rw [e5, wI_a _ _ (by decide)]; exact h11
  rw [← e5] at hV5 hf5
  clear e5
  rw [← tkW_0 v i] at hV5
  refine s_iload_n hX dX11_takeLetter_41 rfl ?_
  refine s_istore_n hX dX11_takeLetter_42 (Nat.le_of_ble_eq_true rfl) rfl st_4_2 ?_
  exact OUT (v 15 - 1 - i) i (by omega) (Nat.le_refl i) σ5 _ hf5 hV5 h10 h11
end
section
theorem b3_f {b : Bool} (h : bI b = 0) : nI 3 = nI (b3 b) := by rw [bI_0.mp h]; rfl
theorem b3_t {b : Bool} (h : ¬ bI b = 0) : nI 0 = nI (b3 b) := by
  cases b with
  | true => rfl
  | false => exact absurd rfl h
def stA (v : Vc) (c p : Nat) : Vc := fun q => if q < 3 * p ∧ q % 3 = 1 then (if q / 3 = c then 1 else 0) else v q
def stB (u : Vc) (i : Nat) : Vc := fun q => if 16 ≤ q ∧ q < 16 + 5 * i ∧ (q - 16) % 5 = 4 then 0 else u q
theorem stA_s {v : Vc} {c p : Nat} : vset (stA v c p) (3 * p + 1) (if p = c then 1 else 0) = stA v c (p + 1) := by
  funext q
  by_cases e : q = 3 * p + 1
  · subst e
    rw [vset_s]
    unfold stA
    have h9 : 3 * p + 1 < 3 * (p + 1) ∧ (3 * p + 1) % 3 = 1 := by omega
    rw [if_pos h9, show (3 * p + 1) / 3 = p by omega]
  · rw [vset_n _ _ e]
    unfold stA
    by_cases e2 : q < 3 * p ∧ q % 3 = 1
    · have h9 : q < 3 * (p + 1) ∧ q % 3 = 1 := by omega
      rw [if_pos e2, if_pos h9]
    · rw [if_neg e2, if_neg (by omega)]
theorem stB_s {u : Vc} {i : Nat} : vset (stB u i) (16 + 5 * i + 4) 0 = stB u (i + 1) := by
  funext q
  by_cases e : q = 16 + 5 * i + 4
  · subst e
    rw [vset_s]
    unfold stB
    rw [if_pos (by omega)]
  · rw [vset_n _ _ e]
    unfold stB
    by_cases e2 : 16 ≤ q ∧ q < 16 + 5 * i ∧ (q - 16) % 5 = 4
    · rw [if_pos e2, if_pos (by omega)]
    · rw [if_neg e2, if_neg (by omega)]
theorem st_end {pr : Pr} {v : Vc} {c : Nat} (hv : VOk pr v) (hP : pP pr ≤ 4) (q : Nat) : stB (vset (stA v c (pP pr)) 13 0) (v 15) q = staleF pr v c q := by
  have h8 := hv.2.2.2.2.2.2.2
  unfold stB staleF
  by_cases e : q = 13
  · subst e; rw [if_neg (by omega), vset_s, if_pos rfl]
  rw [if_neg e, vset_n _ _ e]
  unfold stA
  by_cases e1 : q < 3 * pP pr ∧ q % 3 = 1
  · rw [if_neg (by omega), if_pos e1, if_pos e1]
  rw [if_neg e1, if_neg e1]
  by_cases e2 : 16 ≤ q ∧ (q - 16) % 5 = 4
  · rw [if_pos e2]
    by_cases e3 : q < 16 + 5 * v 15
    · rw [if_pos ⟨e2.1, e3, e2.2⟩]
    · rw [if_neg (by omega), h8 q (by omega)]
  · rw [if_neg e2, if_neg (by omega)]
set_option maxRecDepth 100000 in
set_option maxHeartbeats 4000000 in
theorem c_X11_stale {σ : Sg} {pr : Pr} {v : Vc} (hp : PrM σ pr) (hk : PrOk pr) (hN : Vat σ 59 0 v) (hv : VOk pr v) (c : Nat) (hc : c < 4) : Sm 77 mX11_stale [.ref 53, .int (nI c)] σ (qv fun σ2 => Fr 53 σ σ2 [59] [11] ∧ Vat σ2 59 0 (staleF pr v c) ∧ (σ2 53).1 11 = nI 0) := by
  refine Sm.of mk_X11_stale (Nat.le_of_ble_eq_true rfl) rfl (fun X hX => ?_)
  have h15 := hv.2.2.2.2.1
  have hP := hk.1
  have L2 : ∀ m i, i + m = v 15 → ∀ σ1, Fr 53 σ σ1 [59] [11] → Vat σ1 59 0 (stB (vset (stA v c (pP pr)) 13 0) i) → (σ1 53).1 11 = nI 0 → Sw 77 mX11_stale X (ZS 77 mX11_stale (qv fun σ2 => Fr 53 σ σ2 [59] [11] ∧ Vat σ2 59 0 (staleF pr v c) ∧ (σ2 53).1 11 = nI 0) X) 51 [some (.ref 53), some (.int (nI c)), some (.int (nI i))] [] σ1 := by
    intro m
    induction m with
    | zero =>
      intro i hi σ1 hf hV h11
      have e15 : (σ1 59).1 15 = nI (v 15) := by
        rw [hV.at0 15 (by decide)]
        unfold stB
        rw [if_neg (by omega), vset_n _ _ (by decide)]
        unfold stA
        rw [if_neg (by omega)]
      refine s_iload_n hX dX11_stale_51 rfl ?_
      refine s_aload_n hX dX11_stale_52 rfl ?_
      refine s_getR hX dX11_stale_53 fl_X11_30 rfl rfl (by omega) ?_
      refine s_bipush (v := nI 15) hX dX11_stale_56 (by decide) ?_
      refine s_iald (x := nI (v 15)) hX dX11_stale_58 rfl (by omega) (by omega) (by decide) e15 ?_
      refine s_icmp_ge_n (tgt := 82) hX dX11_stale_59 (by decide) (by omega) (by omega) (fun q59 => ?_) (fun q59 => ?_)
      · refine s_vret hX dX11_stale_82 rfl rfl ?_
        refine ⟨hf, hV.to (fun j _ => ?_), h11⟩
        rw [show i = v 15 by omega]
        exact st_end hv hP.2 j
      · omega
    | succ m ih =>
      intro i hi σ1 hf hV h11
      have e15 : (σ1 59).1 15 = nI (v 15) := by
        rw [hV.at0 15 (by decide)]
        unfold stB
        rw [if_neg (by omega), vset_n _ _ (by decide)]
        unfold stA
        rw [if_neg (by omega)]
      refine s_iload_n hX dX11_stale_51 rfl ?_
      refine s_aload_n hX dX11_stale_52 rfl ?_
      refine s_getR hX dX11_stale_53 fl_X11_30 rfl rfl (by omega) ?_
      refine s_bipush (v := nI 15) hX dX11_stale_56 (by decide) ?_
      refine s_iald (x := nI (v 15)) hX dX11_stale_58 rfl (by omega) (by omega) (by decide) e15 ?_
      refine s_icmp_ge_n (tgt := 82) hX dX11_stale_59 (by decide) (by omega) (by omega) (fun q59 => ?_) (fun q59 => ?_)
      · omega
      · refine s_aload_n hX dX11_stale_62 rfl ?_
        refine s_getR hX dX11_stale_63 fl_X11_30 rfl rfl (by omega) ?_
        refine s_bipush (v := nI 16) hX dX11_stale_66 (by decide) ?_
        refine s_iconst (v := nI 5) hX dX11_stale_68 (by decide) ?_
        refine s_iload_n hX dX11_stale_69 rfl ?_
        refine s_imul_n hX dX11_stale_70 ?_
        refine s_iadd_n hX dX11_stale_71 ?_
        refine s_iconst (v := nI 4) hX dX11_stale_72 (by decide) ?_
        refine s_iadd_n hX dX11_stale_73 ?_
        refine s_iconst (v := nI 0) hX dX11_stale_74 (by decide) ?_
        refine s_iast hX dX11_stale_75 rfl (by omega) (by omega) (by decide) ?_
        refine s_iinc_n (c := 1) hX dX11_stale_76 rfl (by decide) rfl st_3_2 ?_
        refine s_goto (tgt := 51) hX dX11_stale_79 (by decide) ?_
        refine ih (i + 1) (by omega) _ (hf.wI (by decide) (by decide)) ?_ (by rw [wI_a _ _ (by decide)]; exact h11)
        rw [← stB_s]
        exact hV.upd
  have L1 : ∀ m p, p + m = pP pr → ∀ σ1, Fr 53 σ σ1 [59] [11] → Vat σ1 59 0 (stA v c p) → Sw 77 mX11_stale X (ZS 77 mX11_stale (qv fun σ2 => Fr 53 σ σ2 [59] [11] ∧ Vat σ2 59 0 (staleF pr v c) ∧ (σ2 53).1 11 = nI 0) X) 2 [some (.ref 53), some (.int (nI c)), some (.int (nI p))] [] σ1 := by
    intro m
    induction m with
    | zero =>
      intro p hpm σ1 hf hV
      have e0 : (σ1 53).1 0 = nI (pP pr) := (hf.2.1 0 (by decide)).trans hp.1
      refine s_iload_n hX dX11_stale_2 rfl ?_
      refine s_aload_n hX dX11_stale_3 rfl ?_
      refine s_getI (x := nI (pP pr)) hX dX11_stale_4 fl_X11_7 rfl rfl (by omega) e0 ?_
      refine s_icmp_ge_n (tgt := 36) hX dX11_stale_7 (by decide) (by omega) (by omega) (fun q7 => ?_) (fun q7 => ?_)
      · refine s_aload_n hX dX11_stale_36 rfl ?_
        refine s_getR hX dX11_stale_37 fl_X11_30 rfl rfl (by omega) ?_
        refine s_bipush (v := nI 13) hX dX11_stale_40 (by decide) ?_
        refine s_iconst (v := nI 0) hX dX11_stale_42 (by decide) ?_
        refine s_iast hX dX11_stale_43 rfl (by omega) (by omega) (by decide) ?_
        refine s_aload_n hX dX11_stale_44 rfl ?_
        refine s_iconst (v := nI 0) hX dX11_stale_45 (by decide) ?_
        refine s_putI hX dX11_stale_46 fl_X11_136 rfl rfl (by omega) rfl rfl ?_
        refine s_iconst (v := nI 0) hX dX11_stale_49 (by decide) ?_
        refine s_istore_n hX dX11_stale_50 (Nat.le_of_ble_eq_true rfl) rfl st_3_2 ?_
        refine L2 (v 15) 0 (by omega) _ ((hf.wI (by decide) (by decide)).put (by decide)) ?_ (by rw [wI_s])
        have h0 : stB (vset (stA v c (pP pr)) 13 0) 0 = vset (stA v c (pP pr)) 13 0 := by
          funext q
          unfold stB
          rw [if_neg (by omega)]
        rw [h0, show pP pr = p by omega]
        exact (hV.upd (k := 13) (x := 0)).kept (wI_a _ _ (by decide))
      · omega
    | succ m ih =>
      intro p hpm σ1 hf hV
      have e0 : (σ1 53).1 0 = nI (pP pr) := (hf.2.1 0 (by decide)).trans hp.1
      refine s_iload_n hX dX11_stale_2 rfl ?_
      refine s_aload_n hX dX11_stale_3 rfl ?_
      refine s_getI (x := nI (pP pr)) hX dX11_stale_4 fl_X11_7 rfl rfl (by omega) e0 ?_
      refine s_icmp_ge_n (tgt := 36) hX dX11_stale_7 (by decide) (by omega) (by omega) (fun q7 => ?_) (fun q7 => ?_)
      · omega
      · refine s_aload_n hX dX11_stale_10 rfl ?_
        refine s_getR hX dX11_stale_11 fl_X11_30 rfl rfl (by omega) ?_
        refine s_iconst (v := nI 3) hX dX11_stale_14 (by decide) ?_
        refine s_iload_n hX dX11_stale_15 rfl ?_
        refine s_imul_n hX dX11_stale_16 ?_
        refine s_iconst (v := nI 1) hX dX11_stale_17 (by decide) ?_
        refine s_iadd_n hX dX11_stale_18 ?_
        refine s_iload_n hX dX11_stale_19 rfl ?_
        refine s_iload_n hX dX11_stale_20 rfl ?_
        refine s_icmp_ne_n (tgt := 28) hX dX11_stale_21 (by decide) (by omega) (by omega) (fun q21 => ?_) (fun q21 => ?_)
        · refine s_iconst (v := nI 0) hX dX11_stale_28 (by decide) ?_
          refine s_iast hX dX11_stale_29 rfl (by omega) (by omega) (by decide) ?_
          refine s_iinc_n (c := 1) hX dX11_stale_30 rfl (by decide) rfl st_3_2 ?_
          refine s_goto (tgt := 2) hX dX11_stale_33 (by decide) ?_
          refine ih (p + 1) (by omega) _ (hf.wI (by decide) (by decide)) ?_
          rw [← stA_s]
          first
            | (rw [if_neg q21]; exact hV.upd)
            | (rw [if_pos q21]; exact hV.upd)
        · refine s_iconst (v := nI 1) hX dX11_stale_24 (by decide) ?_
          refine s_goto (tgt := 29) hX dX11_stale_25 (by decide) ?_
          refine s_iast hX dX11_stale_29 rfl (by omega) (by omega) (by decide) ?_
          refine s_iinc_n (c := 1) hX dX11_stale_30 rfl (by decide) rfl st_3_2 ?_
          refine s_goto (tgt := 2) hX dX11_stale_33 (by decide) ?_
          refine ih (p + 1) (by omega) _ (hf.wI (by decide) (by decide)) ?_
          rw [← stA_s]
          first
            | (rw [if_neg q21]; exact hV.upd)
            | (rw [if_pos q21]; exact hV.upd)
  refine s_iconst (v := nI 0) hX dX11_stale_0 (by decide) ?_
  refine s_istore_n hX dX11_stale_1 (Nat.le_of_ble_eq_true rfl) rfl st_3_2 ?_
  refine L1 (pP pr) 0 (by omega) σ Fr.rf ?_
  have h0 : stA v c 0 = v := by
    funext q
    unfold stA
    rw [if_neg (by omega)]
  rw [h0]
  exact hN
set_option maxRecDepth 100000 in
set_option maxHeartbeats 4000000 in
theorem c_X11_cacheActs {σ : Sg} {pr : Pr} {v : Vc} (hp : PrM σ pr) (hk : PrOk pr) (hN : Vat σ 59 0 v) (hv : VOk pr v) {c hf op arg hd : Nat} (hc : c < pP pr) (hf0 : hf < pP pr) (ho0 : op < 16) (ha : arg < 16) (hd2 : hd < 2) (h10 : (σ 53).1 10 = nI hf) (h11 : (σ 53).1 11 = nI hd) : Sm 77 mX11_cacheActs [.ref 53, .int (nI c), .int (nI op), .int (nI arg)] σ (qi fun r σ2 => r = nI (caF pr c hf op arg v hd).1 ∧ Fr 53 σ σ2 [59] [11] ∧ Vat σ2 59 0 (caF pr c hf op arg v hd).2.1 ∧ (σ2 53).1 11 = nI (caF pr c hf op arg v hd).2.2) := by
  refine Sm.of mk_X11_cacheActs (Nat.le_of_ble_eq_true rfl) rfl (fun X hX => ?_)
  have hP := hk.1
  have hcv := hv.1 c hc
  refine s_iconst (v := nI 3) hX dX11_cacheActs_0 (by decide) ?_
  refine s_iload_n hX dX11_cacheActs_1 rfl ?_
  refine s_imul_n hX dX11_cacheActs_2 ?_
  refine s_istore hX dX11_cacheActs_3 (Nat.le_of_ble_eq_true rfl) rfl st_5_4 ?_
  refine s_iload_n hX dX11_cacheActs_5 rfl ?_
  by_cases k6_1 : op = 1
  · refine s_tableIn (off := 46) (tgt := 52) hX dX11_cacheActs_6 (by rw [k6_1]; decide) (by rw [k6_1]; decide) (by rw [k6_1]; decide) (by decide) ?_
    refine s_aload_n hX dX11_cacheActs_52 rfl ?_
    refine s_getR hX dX11_cacheActs_53 fl_X11_30 rfl rfl (by omega) ?_
    refine s_iload hX dX11_cacheActs_56 rfl ?_
    refine s_iload_n hX dX11_cacheActs_58 rfl ?_
    refine s_iast hX dX11_cacheActs_59 rfl (by omega) (by omega) (by decide) ?_
    refine s_iconst (v := nI 0) hX dX11_cacheActs_60 (by decide) ?_
    refine s_iret hX dX11_cacheActs_61 rfl rfl ?_
    have hC : caF pr c hf op arg v hd = (0, vset v (3 * c) arg, hd) := by simp [caF, k6_1]
    rw [hC]
    exact ⟨rfl, Fr.rf.wI (by decide) (by decide), hN.upd, by rw [wI_a _ _ (by decide)]; exact h11⟩
  by_cases k6_2 : op = 2
  · refine s_tableIn (off := 56) (tgt := 62) hX dX11_cacheActs_6 (by rw [k6_2]; decide) (by rw [k6_2]; decide) (by rw [k6_2]; decide) (by decide) ?_
    refine s_aload_n hX dX11_cacheActs_62 rfl ?_
    refine s_iload_n hX dX11_cacheActs_63 rfl ?_
    refine s_iload_n hX dX11_cacheActs_64 rfl ?_
    refine s_aload_n hX dX11_cacheActs_65 rfl ?_
    refine s_getI (x := nI (pP pr)) hX dX11_cacheActs_66 fl_X11_7 rfl rfl (by omega) hp.1 ?_
    refine s_iload_n hX dX11_cacheActs_69 rfl ?_
    refine s_iload_n hX dX11_cacheActs_70 rfl ?_
    refine s_iconst (v := nI 3) hX dX11_cacheActs_71 (by decide) ?_
    refine s_icmp_ne_n (tgt := 87) hX dX11_cacheActs_72 (by decide) (by omega) (by omega) (fun q72 => ?_) (fun q72 => ?_)
    · refine s_iconst (v := nI 0) hX dX11_cacheActs_87 (by decide) ?_
      refine s_callVi (as := [_, _, _, _, _]) hX dX11_cacheActs_88 mk_X11_send lk_X11_139 (c_X11_send (k := arg) (f := c) (t := pP pr) (u := c) hp hk hN hv ha (by omega) (by omega) (by omega) (by omega)) rfl (by omega) rfl rfl rfl ⟨rfl, rfl⟩ (Nat.le_of_ble_eq_true rfl) (Nat.le_of_ble_eq_true rfl) (Nat.le_of_ble_eq_true rfl) rfl (fun v88 σ88 p88 => ?_)
      obtain ⟨rfl, ho, hV⟩ := p88
      refine s_if_eq (tgt := 98) hX dX11_cacheActs_91 (by decide) (fun q91 => ?_) (fun q91 => ?_)
      · refine s_iconst (v := nI 3) hX dX11_cacheActs_98 (by decide) ?_
        refine s_iret hX dX11_cacheActs_99 rfl rfl ?_
        first
          | (exfalso; omega)
          | (have hC : caF pr c hf op arg v hd = (b3 (sendF pr v (arg, c, pP pr, c, 0)).1, (sendF pr v (arg, c, pP pr, c, 0)).2, hd) := by simp [caF, k6_2]
             rw [hC]
             exact ⟨b3_f q91, Fr.of ho (by decide), hV, by rw [ho 53 (by decide)]; exact h11⟩)
          | (have hC : caF pr c hf op arg v hd = (b3 (sendF pr v (arg, c, pP pr, c, 0)).1, (sendF pr v (arg, c, pP pr, c, 0)).2, hd) := by simp [caF, k6_2]
             rw [hC]
             exact ⟨b3_t q91, Fr.of ho (by decide), hV, by rw [ho 53 (by decide)]; exact h11⟩)
          | (have hC : caF pr c hf op arg v hd = (b3 (sendF pr v (arg, c, pP pr, c, v (3 * c + 1))).1, (sendF pr v (arg, c, pP pr, c, v (3 * c + 1))).2, hd) := by simp [caF, k6_3]
             rw [hC]
             exact ⟨b3_f q91, Fr.of ho (by decide), hV, by rw [ho 53 (by decide)]; exact h11⟩)
          | (have hC : caF pr c hf op arg v hd = (b3 (sendF pr v (arg, c, pP pr, c, v (3 * c + 1))).1, (sendF pr v (arg, c, pP pr, c, v (3 * c + 1))).2, hd) := by simp [caF, k6_3]
             rw [hC]
             exact ⟨b3_t q91, Fr.of ho (by decide), hV, by rw [ho 53 (by decide)]; exact h11⟩)
      · refine s_iconst (v := nI 0) hX dX11_cacheActs_94 (by decide) ?_
        refine s_goto (tgt := 99) hX dX11_cacheActs_95 (by decide) ?_
        refine s_iret hX dX11_cacheActs_99 rfl rfl ?_
        first
          | (exfalso; omega)
          | (have hC : caF pr c hf op arg v hd = (b3 (sendF pr v (arg, c, pP pr, c, 0)).1, (sendF pr v (arg, c, pP pr, c, 0)).2, hd) := by simp [caF, k6_2]
             rw [hC]
             exact ⟨b3_f q91, Fr.of ho (by decide), hV, by rw [ho 53 (by decide)]; exact h11⟩)
          | (have hC : caF pr c hf op arg v hd = (b3 (sendF pr v (arg, c, pP pr, c, 0)).1, (sendF pr v (arg, c, pP pr, c, 0)).2, hd) := by simp [caF, k6_2]
             rw [hC]
             exact ⟨b3_t q91, Fr.of ho (by decide), hV, by rw [ho 53 (by decide)]; exact h11⟩)
          | (have hC : caF pr c hf op arg v hd = (b3 (sendF pr v (arg, c, pP pr, c, v (3 * c + 1))).1, (sendF pr v (arg, c, pP pr, c, v (3 * c + 1))).2, hd) := by simp [caF, k6_3]
             rw [hC]
             exact ⟨b3_f q91, Fr.of ho (by decide), hV, by rw [ho 53 (by decide)]; exact h11⟩)
          | (have hC : caF pr c hf op arg v hd = (b3 (sendF pr v (arg, c, pP pr, c, v (3 * c + 1))).1, (sendF pr v (arg, c, pP pr, c, v (3 * c + 1))).2, hd) := by simp [caF, k6_3]
             rw [hC]
             exact ⟨b3_t q91, Fr.of ho (by decide), hV, by rw [ho 53 (by decide)]; exact h11⟩)
    · refine s_aload_n hX dX11_cacheActs_75 rfl ?_
      refine s_getR hX dX11_cacheActs_76 fl_X11_30 rfl rfl (by omega) ?_
      refine s_iload hX dX11_cacheActs_79 rfl ?_
      refine s_iconst (v := nI 1) hX dX11_cacheActs_81 (by decide) ?_
      refine s_iadd_n hX dX11_cacheActs_82 ?_
      refine s_iald (x := nI (v _)) hX dX11_cacheActs_83 rfl (by omega) (by omega) (by decide) (hN.at0 _ (by omega)) ?_
      refine s_goto (tgt := 88) hX dX11_cacheActs_84 (by decide) ?_
      refine s_callVi (as := [_, _, _, _, _]) hX dX11_cacheActs_88 mk_X11_send lk_X11_139 (c_X11_send (k := arg) (f := c) (t := pP pr) (u := c) hp hk hN hv ha (by omega) (by omega) (by omega) (by omega)) rfl (by omega) rfl rfl rfl ⟨rfl, rfl⟩ (Nat.le_of_ble_eq_true rfl) (Nat.le_of_ble_eq_true rfl) (Nat.le_of_ble_eq_true rfl) rfl (fun v88 σ88 p88 => ?_)
      obtain ⟨rfl, ho, hV⟩ := p88
      refine s_if_eq (tgt := 98) hX dX11_cacheActs_91 (by decide) (fun q91 => ?_) (fun q91 => ?_)
      · refine s_iconst (v := nI 3) hX dX11_cacheActs_98 (by decide) ?_
        refine s_iret hX dX11_cacheActs_99 rfl rfl ?_
        first
          | (exfalso; omega)
          | (have hC : caF pr c hf op arg v hd = (b3 (sendF pr v (arg, c, pP pr, c, 0)).1, (sendF pr v (arg, c, pP pr, c, 0)).2, hd) := by simp [caF, k6_2]
             rw [hC]
             exact ⟨b3_f q91, Fr.of ho (by decide), hV, by rw [ho 53 (by decide)]; exact h11⟩)
          | (have hC : caF pr c hf op arg v hd = (b3 (sendF pr v (arg, c, pP pr, c, 0)).1, (sendF pr v (arg, c, pP pr, c, 0)).2, hd) := by simp [caF, k6_2]
             rw [hC]
             exact ⟨b3_t q91, Fr.of ho (by decide), hV, by rw [ho 53 (by decide)]; exact h11⟩)
          | (have hC : caF pr c hf op arg v hd = (b3 (sendF pr v (arg, c, pP pr, c, v (3 * c + 1))).1, (sendF pr v (arg, c, pP pr, c, v (3 * c + 1))).2, hd) := by simp [caF, k6_3]
             rw [hC]
             exact ⟨b3_f q91, Fr.of ho (by decide), hV, by rw [ho 53 (by decide)]; exact h11⟩)
          | (have hC : caF pr c hf op arg v hd = (b3 (sendF pr v (arg, c, pP pr, c, v (3 * c + 1))).1, (sendF pr v (arg, c, pP pr, c, v (3 * c + 1))).2, hd) := by simp [caF, k6_3]
             rw [hC]
             exact ⟨b3_t q91, Fr.of ho (by decide), hV, by rw [ho 53 (by decide)]; exact h11⟩)
      · refine s_iconst (v := nI 0) hX dX11_cacheActs_94 (by decide) ?_
        refine s_goto (tgt := 99) hX dX11_cacheActs_95 (by decide) ?_
        refine s_iret hX dX11_cacheActs_99 rfl rfl ?_
        first
          | (exfalso; omega)
          | (have hC : caF pr c hf op arg v hd = (b3 (sendF pr v (arg, c, pP pr, c, 0)).1, (sendF pr v (arg, c, pP pr, c, 0)).2, hd) := by simp [caF, k6_2]
             rw [hC]
             exact ⟨b3_f q91, Fr.of ho (by decide), hV, by rw [ho 53 (by decide)]; exact h11⟩)
          | (have hC : caF pr c hf op arg v hd = (b3 (sendF pr v (arg, c, pP pr, c, 0)).1, (sendF pr v (arg, c, pP pr, c, 0)).2, hd) := by simp [caF, k6_2]
             rw [hC]
             exact ⟨b3_t q91, Fr.of ho (by decide), hV, by rw [ho 53 (by decide)]; exact h11⟩)
          | (have hC : caF pr c hf op arg v hd = (b3 (sendF pr v (arg, c, pP pr, c, v (3 * c + 1))).1, (sendF pr v (arg, c, pP pr, c, v (3 * c + 1))).2, hd) := by simp [caF, k6_3]
             rw [hC]
             exact ⟨b3_f q91, Fr.of ho (by decide), hV, by rw [ho 53 (by decide)]; exact h11⟩)
          | (have hC : caF pr c hf op arg v hd = (b3 (sendF pr v (arg, c, pP pr, c, v (3 * c + 1))).1, (sendF pr v (arg, c, pP pr, c, v (3 * c + 1))).2, hd) := by simp [caF, k6_3]
             rw [hC]
             exact ⟨b3_t q91, Fr.of ho (by decide), hV, by rw [ho 53 (by decide)]; exact h11⟩)
  by_cases k6_3 : op = 3
  · refine s_tableIn (off := 56) (tgt := 62) hX dX11_cacheActs_6 (by rw [k6_3]; decide) (by rw [k6_3]; decide) (by rw [k6_3]; decide) (by decide) ?_
    refine s_aload_n hX dX11_cacheActs_62 rfl ?_
    refine s_iload_n hX dX11_cacheActs_63 rfl ?_
    refine s_iload_n hX dX11_cacheActs_64 rfl ?_
    refine s_aload_n hX dX11_cacheActs_65 rfl ?_
    refine s_getI (x := nI (pP pr)) hX dX11_cacheActs_66 fl_X11_7 rfl rfl (by omega) hp.1 ?_
    refine s_iload_n hX dX11_cacheActs_69 rfl ?_
    refine s_iload_n hX dX11_cacheActs_70 rfl ?_
    refine s_iconst (v := nI 3) hX dX11_cacheActs_71 (by decide) ?_
    refine s_icmp_ne_n (tgt := 87) hX dX11_cacheActs_72 (by decide) (by omega) (by omega) (fun q72 => ?_) (fun q72 => ?_)
    · refine s_iconst (v := nI 0) hX dX11_cacheActs_87 (by decide) ?_
      refine s_callVi (as := [_, _, _, _, _]) hX dX11_cacheActs_88 mk_X11_send lk_X11_139 (c_X11_send (k := arg) (f := c) (t := pP pr) (u := c) hp hk hN hv ha (by omega) (by omega) (by omega) (by omega)) rfl (by omega) rfl rfl rfl ⟨rfl, rfl⟩ (Nat.le_of_ble_eq_true rfl) (Nat.le_of_ble_eq_true rfl) (Nat.le_of_ble_eq_true rfl) rfl (fun v88 σ88 p88 => ?_)
      obtain ⟨rfl, ho, hV⟩ := p88
      refine s_if_eq (tgt := 98) hX dX11_cacheActs_91 (by decide) (fun q91 => ?_) (fun q91 => ?_)
      · refine s_iconst (v := nI 3) hX dX11_cacheActs_98 (by decide) ?_
        refine s_iret hX dX11_cacheActs_99 rfl rfl ?_
        first
          | (exfalso; omega)
          | (have hC : caF pr c hf op arg v hd = (b3 (sendF pr v (arg, c, pP pr, c, 0)).1, (sendF pr v (arg, c, pP pr, c, 0)).2, hd) := by simp [caF, k6_2]
             rw [hC]
             exact ⟨b3_f q91, Fr.of ho (by decide), hV, by rw [ho 53 (by decide)]; exact h11⟩)
          | (have hC : caF pr c hf op arg v hd = (b3 (sendF pr v (arg, c, pP pr, c, 0)).1, (sendF pr v (arg, c, pP pr, c, 0)).2, hd) := by simp [caF, k6_2]
             rw [hC]
             exact ⟨b3_t q91, Fr.of ho (by decide), hV, by rw [ho 53 (by decide)]; exact h11⟩)
          | (have hC : caF pr c hf op arg v hd = (b3 (sendF pr v (arg, c, pP pr, c, v (3 * c + 1))).1, (sendF pr v (arg, c, pP pr, c, v (3 * c + 1))).2, hd) := by simp [caF, k6_3]
             rw [hC]
             exact ⟨b3_f q91, Fr.of ho (by decide), hV, by rw [ho 53 (by decide)]; exact h11⟩)
          | (have hC : caF pr c hf op arg v hd = (b3 (sendF pr v (arg, c, pP pr, c, v (3 * c + 1))).1, (sendF pr v (arg, c, pP pr, c, v (3 * c + 1))).2, hd) := by simp [caF, k6_3]
             rw [hC]
             exact ⟨b3_t q91, Fr.of ho (by decide), hV, by rw [ho 53 (by decide)]; exact h11⟩)
      · refine s_iconst (v := nI 0) hX dX11_cacheActs_94 (by decide) ?_
        refine s_goto (tgt := 99) hX dX11_cacheActs_95 (by decide) ?_
        refine s_iret hX dX11_cacheActs_99 rfl rfl ?_
        first
          | (exfalso; omega)
          | (have hC : caF pr c hf op arg v hd = (b3 (sendF pr v (arg, c, pP pr, c, 0)).1, (sendF pr v (arg, c, pP pr, c, 0)).2, hd) := by simp [caF, k6_2]
             rw [hC]
             exact ⟨b3_f q91, Fr.of ho (by decide), hV, by rw [ho 53 (by decide)]; exact h11⟩)
          | (have hC : caF pr c hf op arg v hd = (b3 (sendF pr v (arg, c, pP pr, c, 0)).1, (sendF pr v (arg, c, pP pr, c, 0)).2, hd) := by simp [caF, k6_2]
             rw [hC]
             exact ⟨b3_t q91, Fr.of ho (by decide), hV, by rw [ho 53 (by decide)]; exact h11⟩)
          | (have hC : caF pr c hf op arg v hd = (b3 (sendF pr v (arg, c, pP pr, c, v (3 * c + 1))).1, (sendF pr v (arg, c, pP pr, c, v (3 * c + 1))).2, hd) := by simp [caF, k6_3]
             rw [hC]
             exact ⟨b3_f q91, Fr.of ho (by decide), hV, by rw [ho 53 (by decide)]; exact h11⟩)
          | (have hC : caF pr c hf op arg v hd = (b3 (sendF pr v (arg, c, pP pr, c, v (3 * c + 1))).1, (sendF pr v (arg, c, pP pr, c, v (3 * c + 1))).2, hd) := by simp [caF, k6_3]
             rw [hC]
             exact ⟨b3_t q91, Fr.of ho (by decide), hV, by rw [ho 53 (by decide)]; exact h11⟩)
    · refine s_aload_n hX dX11_cacheActs_75 rfl ?_
      refine s_getR hX dX11_cacheActs_76 fl_X11_30 rfl rfl (by omega) ?_
      refine s_iload hX dX11_cacheActs_79 rfl ?_
      refine s_iconst (v := nI 1) hX dX11_cacheActs_81 (by decide) ?_
      refine s_iadd_n hX dX11_cacheActs_82 ?_
      refine s_iald (x := nI (v _)) hX dX11_cacheActs_83 rfl (by omega) (by omega) (by decide) (hN.at0 _ (by omega)) ?_
      refine s_goto (tgt := 88) hX dX11_cacheActs_84 (by decide) ?_
      refine s_callVi (as := [_, _, _, _, _]) hX dX11_cacheActs_88 mk_X11_send lk_X11_139 (c_X11_send (k := arg) (f := c) (t := pP pr) (u := c) hp hk hN hv ha (by omega) (by omega) (by omega) (by omega)) rfl (by omega) rfl rfl rfl ⟨rfl, rfl⟩ (Nat.le_of_ble_eq_true rfl) (Nat.le_of_ble_eq_true rfl) (Nat.le_of_ble_eq_true rfl) rfl (fun v88 σ88 p88 => ?_)
      obtain ⟨rfl, ho, hV⟩ := p88
      refine s_if_eq (tgt := 98) hX dX11_cacheActs_91 (by decide) (fun q91 => ?_) (fun q91 => ?_)
      · refine s_iconst (v := nI 3) hX dX11_cacheActs_98 (by decide) ?_
        refine s_iret hX dX11_cacheActs_99 rfl rfl ?_
        first
          | (exfalso; omega)
          | (have hC : caF pr c hf op arg v hd = (b3 (sendF pr v (arg, c, pP pr, c, 0)).1, (sendF pr v (arg, c, pP pr, c, 0)).2, hd) := by simp [caF, k6_2]
             rw [hC]
             exact ⟨b3_f q91, Fr.of ho (by decide), hV, by rw [ho 53 (by decide)]; exact h11⟩)
          | (have hC : caF pr c hf op arg v hd = (b3 (sendF pr v (arg, c, pP pr, c, 0)).1, (sendF pr v (arg, c, pP pr, c, 0)).2, hd) := by simp [caF, k6_2]
             rw [hC]
             exact ⟨b3_t q91, Fr.of ho (by decide), hV, by rw [ho 53 (by decide)]; exact h11⟩)
          | (have hC : caF pr c hf op arg v hd = (b3 (sendF pr v (arg, c, pP pr, c, v (3 * c + 1))).1, (sendF pr v (arg, c, pP pr, c, v (3 * c + 1))).2, hd) := by simp [caF, k6_3]
             rw [hC]
             exact ⟨b3_f q91, Fr.of ho (by decide), hV, by rw [ho 53 (by decide)]; exact h11⟩)
          | (have hC : caF pr c hf op arg v hd = (b3 (sendF pr v (arg, c, pP pr, c, v (3 * c + 1))).1, (sendF pr v (arg, c, pP pr, c, v (3 * c + 1))).2, hd) := by simp [caF, k6_3]
             rw [hC]
             exact ⟨b3_t q91, Fr.of ho (by decide), hV, by rw [ho 53 (by decide)]; exact h11⟩)
      · refine s_iconst (v := nI 0) hX dX11_cacheActs_94 (by decide) ?_
        refine s_goto (tgt := 99) hX dX11_cacheActs_95 (by decide) ?_
        refine s_iret hX dX11_cacheActs_99 rfl rfl ?_
        first
          | (exfalso; omega)
          | (have hC : caF pr c hf op arg v hd = (b3 (sendF pr v (arg, c, pP pr, c, 0)).1, (sendF pr v (arg, c, pP pr, c, 0)).2, hd) := by simp [caF, k6_2]
             rw [hC]
             exact ⟨b3_f q91, Fr.of ho (by decide), hV, by rw [ho 53 (by decide)]; exact h11⟩)
          | (have hC : caF pr c hf op arg v hd = (b3 (sendF pr v (arg, c, pP pr, c, 0)).1, (sendF pr v (arg, c, pP pr, c, 0)).2, hd) := by simp [caF, k6_2]
             rw [hC]
             exact ⟨b3_t q91, Fr.of ho (by decide), hV, by rw [ho 53 (by decide)]; exact h11⟩)
          | (have hC : caF pr c hf op arg v hd = (b3 (sendF pr v (arg, c, pP pr, c, v (3 * c + 1))).1, (sendF pr v (arg, c, pP pr, c, v (3 * c + 1))).2, hd) := by simp [caF, k6_3]
             rw [hC]
             exact ⟨b3_f q91, Fr.of ho (by decide), hV, by rw [ho 53 (by decide)]; exact h11⟩)
          | (have hC : caF pr c hf op arg v hd = (b3 (sendF pr v (arg, c, pP pr, c, v (3 * c + 1))).1, (sendF pr v (arg, c, pP pr, c, v (3 * c + 1))).2, hd) := by simp [caF, k6_3]
             rw [hC]
             exact ⟨b3_t q91, Fr.of ho (by decide), hV, by rw [ho 53 (by decide)]; exact h11⟩)
  by_cases k6_4 : op = 4
  · refine s_tableIn (off := 94) (tgt := 100) hX dX11_cacheActs_6 (by rw [k6_4]; decide) (by rw [k6_4]; decide) (by rw [k6_4]; decide) (by decide) ?_
    refine s_aload_n hX dX11_cacheActs_100 rfl ?_
    refine s_iload_n hX dX11_cacheActs_101 rfl ?_
    refine s_iload_n hX dX11_cacheActs_102 rfl ?_
    refine s_aload_n hX dX11_cacheActs_103 rfl ?_
    refine s_getI (x := nI (hf)) hX dX11_cacheActs_104 fl_X11_133 rfl rfl (by omega) h10 ?_
    refine s_aload_n hX dX11_cacheActs_107 rfl ?_
    refine s_getI (x := nI (hf)) hX dX11_cacheActs_108 fl_X11_133 rfl rfl (by omega) h10 ?_
    refine s_iload_n hX dX11_cacheActs_111 rfl ?_
    refine s_iconst (v := nI 5) hX dX11_cacheActs_112 (by decide) ?_
    refine s_icmp_ne_n (tgt := 128) hX dX11_cacheActs_113 (by decide) (by omega) (by omega) (fun q113 => ?_) (fun q113 => ?_)
    · refine s_iconst (v := nI 0) hX dX11_cacheActs_128 (by decide) ?_
      refine s_callVi (as := [_, _, _, _, _]) hX dX11_cacheActs_129 mk_X11_send lk_X11_139 (c_X11_send (k := arg) (f := c) (t := hf) (u := hf) hp hk hN hv ha (by omega) (by omega) (by omega) (by omega)) rfl (by omega) rfl rfl rfl ⟨rfl, rfl⟩ (Nat.le_of_ble_eq_true rfl) (Nat.le_of_ble_eq_true rfl) (Nat.le_of_ble_eq_true rfl) rfl (fun v129 σ129 p129 => ?_)
      obtain ⟨rfl, ho, hV⟩ := p129
      refine s_if_eq (tgt := 139) hX dX11_cacheActs_132 (by decide) (fun q132 => ?_) (fun q132 => ?_)
      · refine s_iconst (v := nI 3) hX dX11_cacheActs_139 (by decide) ?_
        refine s_iret hX dX11_cacheActs_140 rfl rfl ?_
        first
          | (exfalso; omega)
          | (have hC : caF pr c hf op arg v hd = (b3 (sendF pr v (arg, c, hf, hf, 0)).1, (sendF pr v (arg, c, hf, hf, 0)).2, hd) := by simp [caF, k6_4]
             rw [hC]
             exact ⟨b3_f q132, Fr.of ho (by decide), hV, by rw [ho 53 (by decide)]; exact h11⟩)
          | (have hC : caF pr c hf op arg v hd = (b3 (sendF pr v (arg, c, hf, hf, 0)).1, (sendF pr v (arg, c, hf, hf, 0)).2, hd) := by simp [caF, k6_4]
             rw [hC]
             exact ⟨b3_t q132, Fr.of ho (by decide), hV, by rw [ho 53 (by decide)]; exact h11⟩)
          | (have hC : caF pr c hf op arg v hd = (b3 (sendF pr v (arg, c, hf, hf, v (3 * c + 1))).1, (sendF pr v (arg, c, hf, hf, v (3 * c + 1))).2, hd) := by simp [caF, k6_5]
             rw [hC]
             exact ⟨b3_f q132, Fr.of ho (by decide), hV, by rw [ho 53 (by decide)]; exact h11⟩)
          | (have hC : caF pr c hf op arg v hd = (b3 (sendF pr v (arg, c, hf, hf, v (3 * c + 1))).1, (sendF pr v (arg, c, hf, hf, v (3 * c + 1))).2, hd) := by simp [caF, k6_5]
             rw [hC]
             exact ⟨b3_t q132, Fr.of ho (by decide), hV, by rw [ho 53 (by decide)]; exact h11⟩)
      · refine s_iconst (v := nI 0) hX dX11_cacheActs_135 (by decide) ?_
        refine s_goto (tgt := 140) hX dX11_cacheActs_136 (by decide) ?_
        refine s_iret hX dX11_cacheActs_140 rfl rfl ?_
        first
          | (exfalso; omega)
          | (have hC : caF pr c hf op arg v hd = (b3 (sendF pr v (arg, c, hf, hf, 0)).1, (sendF pr v (arg, c, hf, hf, 0)).2, hd) := by simp [caF, k6_4]
             rw [hC]
             exact ⟨b3_f q132, Fr.of ho (by decide), hV, by rw [ho 53 (by decide)]; exact h11⟩)
          | (have hC : caF pr c hf op arg v hd = (b3 (sendF pr v (arg, c, hf, hf, 0)).1, (sendF pr v (arg, c, hf, hf, 0)).2, hd) := by simp [caF, k6_4]
             rw [hC]
             exact ⟨b3_t q132, Fr.of ho (by decide), hV, by rw [ho 53 (by decide)]; exact h11⟩)
          | (have hC : caF pr c hf op arg v hd = (b3 (sendF pr v (arg, c, hf, hf, v (3 * c + 1))).1, (sendF pr v (arg, c, hf, hf, v (3 * c + 1))).2, hd) := by simp [caF, k6_5]
             rw [hC]
             exact ⟨b3_f q132, Fr.of ho (by decide), hV, by rw [ho 53 (by decide)]; exact h11⟩)
          | (have hC : caF pr c hf op arg v hd = (b3 (sendF pr v (arg, c, hf, hf, v (3 * c + 1))).1, (sendF pr v (arg, c, hf, hf, v (3 * c + 1))).2, hd) := by simp [caF, k6_5]
             rw [hC]
             exact ⟨b3_t q132, Fr.of ho (by decide), hV, by rw [ho 53 (by decide)]; exact h11⟩)
    · refine s_aload_n hX dX11_cacheActs_116 rfl ?_
      refine s_getR hX dX11_cacheActs_117 fl_X11_30 rfl rfl (by omega) ?_
      refine s_iload hX dX11_cacheActs_120 rfl ?_
      refine s_iconst (v := nI 1) hX dX11_cacheActs_122 (by decide) ?_
      refine s_iadd_n hX dX11_cacheActs_123 ?_
      refine s_iald (x := nI (v _)) hX dX11_cacheActs_124 rfl (by omega) (by omega) (by decide) (hN.at0 _ (by omega)) ?_
      refine s_goto (tgt := 129) hX dX11_cacheActs_125 (by decide) ?_
      refine s_callVi (as := [_, _, _, _, _]) hX dX11_cacheActs_129 mk_X11_send lk_X11_139 (c_X11_send (k := arg) (f := c) (t := hf) (u := hf) hp hk hN hv ha (by omega) (by omega) (by omega) (by omega)) rfl (by omega) rfl rfl rfl ⟨rfl, rfl⟩ (Nat.le_of_ble_eq_true rfl) (Nat.le_of_ble_eq_true rfl) (Nat.le_of_ble_eq_true rfl) rfl (fun v129 σ129 p129 => ?_)
      obtain ⟨rfl, ho, hV⟩ := p129
      refine s_if_eq (tgt := 139) hX dX11_cacheActs_132 (by decide) (fun q132 => ?_) (fun q132 => ?_)
      · refine s_iconst (v := nI 3) hX dX11_cacheActs_139 (by decide) ?_
        refine s_iret hX dX11_cacheActs_140 rfl rfl ?_
        first
          | (exfalso; omega)
          | (have hC : caF pr c hf op arg v hd = (b3 (sendF pr v (arg, c, hf, hf, 0)).1, (sendF pr v (arg, c, hf, hf, 0)).2, hd) := by simp [caF, k6_4]
             rw [hC]
             exact ⟨b3_f q132, Fr.of ho (by decide), hV, by rw [ho 53 (by decide)]; exact h11⟩)
          | (have hC : caF pr c hf op arg v hd = (b3 (sendF pr v (arg, c, hf, hf, 0)).1, (sendF pr v (arg, c, hf, hf, 0)).2, hd) := by simp [caF, k6_4]
             rw [hC]
             exact ⟨b3_t q132, Fr.of ho (by decide), hV, by rw [ho 53 (by decide)]; exact h11⟩)
          | (have hC : caF pr c hf op arg v hd = (b3 (sendF pr v (arg, c, hf, hf, v (3 * c + 1))).1, (sendF pr v (arg, c, hf, hf, v (3 * c + 1))).2, hd) := by simp [caF, k6_5]
             rw [hC]
             exact ⟨b3_f q132, Fr.of ho (by decide), hV, by rw [ho 53 (by decide)]; exact h11⟩)
          | (have hC : caF pr c hf op arg v hd = (b3 (sendF pr v (arg, c, hf, hf, v (3 * c + 1))).1, (sendF pr v (arg, c, hf, hf, v (3 * c + 1))).2, hd) := by simp [caF, k6_5]
             rw [hC]
             exact ⟨b3_t q132, Fr.of ho (by decide), hV, by rw [ho 53 (by decide)]; exact h11⟩)
      · refine s_iconst (v := nI 0) hX dX11_cacheActs_135 (by decide) ?_
        refine s_goto (tgt := 140) hX dX11_cacheActs_136 (by decide) ?_
        refine s_iret hX dX11_cacheActs_140 rfl rfl ?_
        first
          | (exfalso; omega)
          | (have hC : caF pr c hf op arg v hd = (b3 (sendF pr v (arg, c, hf, hf, 0)).1, (sendF pr v (arg, c, hf, hf, 0)).2, hd) := by simp [caF, k6_4]
             rw [hC]
             exact ⟨b3_f q132, Fr.of ho (by decide), hV, by rw [ho 53 (by decide)]; exact h11⟩)
          | (have hC : caF pr c hf op arg v hd = (b3 (sendF pr v (arg, c, hf, hf, 0)).1, (sendF pr v (arg, c, hf, hf, 0)).2, hd) := by simp [caF, k6_4]
             rw [hC]
             exact ⟨b3_t q132, Fr.of ho (by decide), hV, by rw [ho 53 (by decide)]; exact h11⟩)
          | (have hC : caF pr c hf op arg v hd = (b3 (sendF pr v (arg, c, hf, hf, v (3 * c + 1))).1, (sendF pr v (arg, c, hf, hf, v (3 * c + 1))).2, hd) := by simp [caF, k6_5]
             rw [hC]
             exact ⟨b3_f q132, Fr.of ho (by decide), hV, by rw [ho 53 (by decide)]; exact h11⟩)
          | (have hC : caF pr c hf op arg v hd = (b3 (sendF pr v (arg, c, hf, hf, v (3 * c + 1))).1, (sendF pr v (arg, c, hf, hf, v (3 * c + 1))).2, hd) := by simp [caF, k6_5]
             rw [hC]
             exact ⟨b3_t q132, Fr.of ho (by decide), hV, by rw [ho 53 (by decide)]; exact h11⟩)
  by_cases k6_5 : op = 5
  · refine s_tableIn (off := 94) (tgt := 100) hX dX11_cacheActs_6 (by rw [k6_5]; decide) (by rw [k6_5]; decide) (by rw [k6_5]; decide) (by decide) ?_
    refine s_aload_n hX dX11_cacheActs_100 rfl ?_
    refine s_iload_n hX dX11_cacheActs_101 rfl ?_
    refine s_iload_n hX dX11_cacheActs_102 rfl ?_
    refine s_aload_n hX dX11_cacheActs_103 rfl ?_
    refine s_getI (x := nI (hf)) hX dX11_cacheActs_104 fl_X11_133 rfl rfl (by omega) h10 ?_
    refine s_aload_n hX dX11_cacheActs_107 rfl ?_
    refine s_getI (x := nI (hf)) hX dX11_cacheActs_108 fl_X11_133 rfl rfl (by omega) h10 ?_
    refine s_iload_n hX dX11_cacheActs_111 rfl ?_
    refine s_iconst (v := nI 5) hX dX11_cacheActs_112 (by decide) ?_
    refine s_icmp_ne_n (tgt := 128) hX dX11_cacheActs_113 (by decide) (by omega) (by omega) (fun q113 => ?_) (fun q113 => ?_)
    · refine s_iconst (v := nI 0) hX dX11_cacheActs_128 (by decide) ?_
      refine s_callVi (as := [_, _, _, _, _]) hX dX11_cacheActs_129 mk_X11_send lk_X11_139 (c_X11_send (k := arg) (f := c) (t := hf) (u := hf) hp hk hN hv ha (by omega) (by omega) (by omega) (by omega)) rfl (by omega) rfl rfl rfl ⟨rfl, rfl⟩ (Nat.le_of_ble_eq_true rfl) (Nat.le_of_ble_eq_true rfl) (Nat.le_of_ble_eq_true rfl) rfl (fun v129 σ129 p129 => ?_)
      obtain ⟨rfl, ho, hV⟩ := p129
      refine s_if_eq (tgt := 139) hX dX11_cacheActs_132 (by decide) (fun q132 => ?_) (fun q132 => ?_)
      · refine s_iconst (v := nI 3) hX dX11_cacheActs_139 (by decide) ?_
        refine s_iret hX dX11_cacheActs_140 rfl rfl ?_
        first
          | (exfalso; omega)
          | (have hC : caF pr c hf op arg v hd = (b3 (sendF pr v (arg, c, hf, hf, 0)).1, (sendF pr v (arg, c, hf, hf, 0)).2, hd) := by simp [caF, k6_4]
             rw [hC]
             exact ⟨b3_f q132, Fr.of ho (by decide), hV, by rw [ho 53 (by decide)]; exact h11⟩)
          | (have hC : caF pr c hf op arg v hd = (b3 (sendF pr v (arg, c, hf, hf, 0)).1, (sendF pr v (arg, c, hf, hf, 0)).2, hd) := by simp [caF, k6_4]
             rw [hC]
             exact ⟨b3_t q132, Fr.of ho (by decide), hV, by rw [ho 53 (by decide)]; exact h11⟩)
          | (have hC : caF pr c hf op arg v hd = (b3 (sendF pr v (arg, c, hf, hf, v (3 * c + 1))).1, (sendF pr v (arg, c, hf, hf, v (3 * c + 1))).2, hd) := by simp [caF, k6_5]
             rw [hC]
             exact ⟨b3_f q132, Fr.of ho (by decide), hV, by rw [ho 53 (by decide)]; exact h11⟩)
          | (have hC : caF pr c hf op arg v hd = (b3 (sendF pr v (arg, c, hf, hf, v (3 * c + 1))).1, (sendF pr v (arg, c, hf, hf, v (3 * c + 1))).2, hd) := by simp [caF, k6_5]
             rw [hC]
             exact ⟨b3_t q132, Fr.of ho (by decide), hV, by rw [ho 53 (by decide)]; exact h11⟩)
      · refine s_iconst (v := nI 0) hX dX11_cacheActs_135 (by decide) ?_
        refine s_goto (tgt := 140) hX dX11_cacheActs_136 (by decide) ?_
        refine s_iret hX dX11_cacheActs_140 rfl rfl ?_
        first
          | (exfalso; omega)
          | (have hC : caF pr c hf op arg v hd = (b3 (sendF pr v (arg, c, hf, hf, 0)).1, (sendF pr v (arg, c, hf, hf, 0)).2, hd) := by simp [caF, k6_4]
             rw [hC]
             exact ⟨b3_f q132, Fr.of ho (by decide), hV, by rw [ho 53 (by decide)]; exact h11⟩)
          | (have hC : caF pr c hf op arg v hd = (b3 (sendF pr v (arg, c, hf, hf, 0)).1, (sendF pr v (arg, c, hf, hf, 0)).2, hd) := by simp [caF, k6_4]
             rw [hC]
             exact ⟨b3_t q132, Fr.of ho (by decide), hV, by rw [ho 53 (by decide)]; exact h11⟩)
          | (have hC : caF pr c hf op arg v hd = (b3 (sendF pr v (arg, c, hf, hf, v (3 * c + 1))).1, (sendF pr v (arg, c, hf, hf, v (3 * c + 1))).2, hd) := by simp [caF, k6_5]
             rw [hC]
             exact ⟨b3_f q132, Fr.of ho (by decide), hV, by rw [ho 53 (by decide)]; exact h11⟩)
          | (have hC : caF pr c hf op arg v hd = (b3 (sendF pr v (arg, c, hf, hf, v (3 * c + 1))).1, (sendF pr v (arg, c, hf, hf, v (3 * c + 1))).2, hd) := by simp [caF, k6_5]
             rw [hC]
             exact ⟨b3_t q132, Fr.of ho (by decide), hV, by rw [ho 53 (by decide)]; exact h11⟩)
    · refine s_aload_n hX dX11_cacheActs_116 rfl ?_
      refine s_getR hX dX11_cacheActs_117 fl_X11_30 rfl rfl (by omega) ?_
      refine s_iload hX dX11_cacheActs_120 rfl ?_
      refine s_iconst (v := nI 1) hX dX11_cacheActs_122 (by decide) ?_
      refine s_iadd_n hX dX11_cacheActs_123 ?_
      refine s_iald (x := nI (v _)) hX dX11_cacheActs_124 rfl (by omega) (by omega) (by decide) (hN.at0 _ (by omega)) ?_
      refine s_goto (tgt := 129) hX dX11_cacheActs_125 (by decide) ?_
      refine s_callVi (as := [_, _, _, _, _]) hX dX11_cacheActs_129 mk_X11_send lk_X11_139 (c_X11_send (k := arg) (f := c) (t := hf) (u := hf) hp hk hN hv ha (by omega) (by omega) (by omega) (by omega)) rfl (by omega) rfl rfl rfl ⟨rfl, rfl⟩ (Nat.le_of_ble_eq_true rfl) (Nat.le_of_ble_eq_true rfl) (Nat.le_of_ble_eq_true rfl) rfl (fun v129 σ129 p129 => ?_)
      obtain ⟨rfl, ho, hV⟩ := p129
      refine s_if_eq (tgt := 139) hX dX11_cacheActs_132 (by decide) (fun q132 => ?_) (fun q132 => ?_)
      · refine s_iconst (v := nI 3) hX dX11_cacheActs_139 (by decide) ?_
        refine s_iret hX dX11_cacheActs_140 rfl rfl ?_
        first
          | (exfalso; omega)
          | (have hC : caF pr c hf op arg v hd = (b3 (sendF pr v (arg, c, hf, hf, 0)).1, (sendF pr v (arg, c, hf, hf, 0)).2, hd) := by simp [caF, k6_4]
             rw [hC]
             exact ⟨b3_f q132, Fr.of ho (by decide), hV, by rw [ho 53 (by decide)]; exact h11⟩)
          | (have hC : caF pr c hf op arg v hd = (b3 (sendF pr v (arg, c, hf, hf, 0)).1, (sendF pr v (arg, c, hf, hf, 0)).2, hd) := by simp [caF, k6_4]
             rw [hC]
             exact ⟨b3_t q132, Fr.of ho (by decide), hV, by rw [ho 53 (by decide)]; exact h11⟩)
          | (have hC : caF pr c hf op arg v hd = (b3 (sendF pr v (arg, c, hf, hf, v (3 * c + 1))).1, (sendF pr v (arg, c, hf, hf, v (3 * c + 1))).2, hd) := by simp [caF, k6_5]
             rw [hC]
             exact ⟨b3_f q132, Fr.of ho (by decide), hV, by rw [ho 53 (by decide)]; exact h11⟩)
          | (have hC : caF pr c hf op arg v hd = (b3 (sendF pr v (arg, c, hf, hf, v (3 * c + 1))).1, (sendF pr v (arg, c, hf, hf, v (3 * c + 1))).2, hd) := by simp [caF, k6_5]
             rw [hC]
             exact ⟨b3_t q132, Fr.of ho (by decide), hV, by rw [ho 53 (by decide)]; exact h11⟩)
      · refine s_iconst (v := nI 0) hX dX11_cacheActs_135 (by decide) ?_
        refine s_goto (tgt := 140) hX dX11_cacheActs_136 (by decide) ?_
        refine s_iret hX dX11_cacheActs_140 rfl rfl ?_
        first
          | (exfalso; omega)
          | (have hC : caF pr c hf op arg v hd = (b3 (sendF pr v (arg, c, hf, hf, 0)).1, (sendF pr v (arg, c, hf, hf, 0)).2, hd) := by simp [caF, k6_4]
             rw [hC]
             exact ⟨b3_f q132, Fr.of ho (by decide), hV, by rw [ho 53 (by decide)]; exact h11⟩)
          | (have hC : caF pr c hf op arg v hd = (b3 (sendF pr v (arg, c, hf, hf, 0)).1, (sendF pr v (arg, c, hf, hf, 0)).2, hd) := by simp [caF, k6_4]
             rw [hC]
             exact ⟨b3_t q132, Fr.of ho (by decide), hV, by rw [ho 53 (by decide)]; exact h11⟩)
          | (have hC : caF pr c hf op arg v hd = (b3 (sendF pr v (arg, c, hf, hf, v (3 * c + 1))).1, (sendF pr v (arg, c, hf, hf, v (3 * c + 1))).2, hd) := by simp [caF, k6_5]
             rw [hC]
             exact ⟨b3_f q132, Fr.of ho (by decide), hV, by rw [ho 53 (by decide)]; exact h11⟩)
          | (have hC : caF pr c hf op arg v hd = (b3 (sendF pr v (arg, c, hf, hf, v (3 * c + 1))).1, (sendF pr v (arg, c, hf, hf, v (3 * c + 1))).2, hd) := by simp [caF, k6_5]
             rw [hC]
             exact ⟨b3_t q132, Fr.of ho (by decide), hV, by rw [ho 53 (by decide)]; exact h11⟩)
  by_cases k6_6 : op = 6
  · refine s_tableIn (off := 135) (tgt := 141) hX dX11_cacheActs_6 (by rw [k6_6]; decide) (by rw [k6_6]; decide) (by rw [k6_6]; decide) (by decide) ?_
    refine s_aload_n hX dX11_cacheActs_141 rfl ?_
    refine s_getR hX dX11_cacheActs_142 fl_X11_30 rfl rfl (by omega) ?_
    refine s_iload hX dX11_cacheActs_145 rfl ?_
    refine s_iconst (v := nI 1) hX dX11_cacheActs_147 (by decide) ?_
    refine s_iadd_n hX dX11_cacheActs_148 ?_
    refine s_aload_n hX dX11_cacheActs_149 rfl ?_
    refine s_getI (x := nI (hd)) hX dX11_cacheActs_150 fl_X11_136 rfl rfl (by omega) h11 ?_
    refine s_iast hX dX11_cacheActs_153 rfl (by omega) (by omega) (by decide) ?_
    refine s_iconst (v := nI 0) hX dX11_cacheActs_154 (by decide) ?_
    refine s_iret hX dX11_cacheActs_155 rfl rfl ?_
    have hC : caF pr c hf op arg v hd = (0, vset v (3 * c + 1) hd, hd) := by simp [caF, k6_6]
    rw [hC]
    exact ⟨rfl, Fr.rf.wI (by decide) (by decide), hN.upd, by rw [wI_a _ _ (by decide)]; exact h11⟩
  by_cases k6_7 : op = 7
  · refine s_tableIn (off := 150) (tgt := 156) hX dX11_cacheActs_6 (by rw [k6_7]; decide) (by rw [k6_7]; decide) (by rw [k6_7]; decide) (by decide) ?_
    refine s_aload_n hX dX11_cacheActs_156 rfl ?_
    refine s_getR hX dX11_cacheActs_157 fl_X11_30 rfl rfl (by omega) ?_
    refine s_iload hX dX11_cacheActs_160 rfl ?_
    refine s_iconst (v := nI 2) hX dX11_cacheActs_162 (by decide) ?_
    refine s_iadd_n hX dX11_cacheActs_163 ?_
    refine s_iconst (v := nI 0) hX dX11_cacheActs_164 (by decide) ?_
    refine s_iast hX dX11_cacheActs_165 rfl (by omega) (by omega) (by decide) ?_
    refine s_aload_n hX dX11_cacheActs_166 rfl ?_
    refine s_getR hX dX11_cacheActs_167 fl_X11_30 rfl rfl (by omega) ?_
    refine s_iload hX dX11_cacheActs_170 rfl ?_
    refine s_iconst (v := nI 1) hX dX11_cacheActs_172 (by decide) ?_
    refine s_iadd_n hX dX11_cacheActs_173 ?_
    refine s_iald (x := nI (v (3 * c + 1))) hX dX11_cacheActs_174 rfl (by omega) (by omega) (by decide) (by rw [(hN.upd (k := 3 * c + 2) (x := 0)).at0 _ (by omega), vset_n _ _ (by omega)]) ?_
    refine s_if_ne_n (tgt := 182) hX dX11_cacheActs_175 (by decide) (by omega) (fun q175 => ?_) (fun q175 => ?_)
    · refine s_iconst (v := nI 0) hX dX11_cacheActs_182 (by decide) ?_
      refine s_iret hX dX11_cacheActs_183 rfl rfl ?_
      have hC : caF pr c hf op arg v hd = ((if v (3 * c + 1) = 0 then 2 else 0), vset v (3 * c + 2) 0, hd) := by simp [caF, k6_7]
      rw [hC]
      first
        | exact ⟨by rw [if_neg q175], Fr.rf.wI (by decide) (by decide), hN.upd, by rw [wI_a _ _ (by decide)]; exact h11⟩
        | exact ⟨by rw [if_pos q175], Fr.rf.wI (by decide) (by decide), hN.upd, by rw [wI_a _ _ (by decide)]; exact h11⟩
    · refine s_iconst (v := nI 2) hX dX11_cacheActs_178 (by decide) ?_
      refine s_goto (tgt := 183) hX dX11_cacheActs_179 (by decide) ?_
      refine s_iret hX dX11_cacheActs_183 rfl rfl ?_
      have hC : caF pr c hf op arg v hd = ((if v (3 * c + 1) = 0 then 2 else 0), vset v (3 * c + 2) 0, hd) := by simp [caF, k6_7]
      rw [hC]
      first
        | exact ⟨by rw [if_neg q175], Fr.rf.wI (by decide) (by decide), hN.upd, by rw [wI_a _ _ (by decide)]; exact h11⟩
        | exact ⟨by rw [if_pos q175], Fr.rf.wI (by decide) (by decide), hN.upd, by rw [wI_a _ _ (by decide)]; exact h11⟩
  by_cases k6_8 : op = 8
  · refine s_tableIn (off := 178) (tgt := 184) hX dX11_cacheActs_6 (by rw [k6_8]; decide) (by rw [k6_8]; decide) (by rw [k6_8]; decide) (by decide) ?_
    refine s_aload_n hX dX11_cacheActs_184 rfl ?_
    refine s_getR hX dX11_cacheActs_185 fl_X11_30 rfl rfl (by omega) ?_
    refine s_iload hX dX11_cacheActs_188 rfl ?_
    refine s_iconst (v := nI 2) hX dX11_cacheActs_190 (by decide) ?_
    refine s_iadd_n hX dX11_cacheActs_191 ?_
    refine s_iconst (v := nI 0) hX dX11_cacheActs_192 (by decide) ?_
    refine s_iast hX dX11_cacheActs_193 rfl (by omega) (by omega) (by decide) ?_
    refine s_aload_n hX dX11_cacheActs_194 rfl ?_
    refine s_iload_n hX dX11_cacheActs_195 rfl ?_
    refine s_callVv (as := [_]) hX dX11_cacheActs_196 mk_X11_stale lk_X11_143 (c_X11_stale (v := vset v (3 * c + 2) 0) (hp.kept (by rw [wI_a _ _ (by decide)]) (wI_a _ _ (by decide)) (wI_a _ _ (by decide)) (wI_a _ _ (by decide)) (wI_a _ _ (by decide))) hk (hN.upd (k := 3 * c + 2) (x := 0)) (hv.cell hc hP.2 (Or.inr (Or.inr ⟨rfl, by decide⟩))) c (by omega)) rfl (by omega) rfl rfl rfl ⟨rfl, rfl⟩ (Nat.le_of_ble_eq_true rfl) (Nat.le_of_ble_eq_true rfl) (Nat.le_of_ble_eq_true rfl) rfl (fun σ196 p196 => ?_)
    obtain ⟨hf8, hV8, h8⟩ := p196
    refine s_iconst (v := nI 0) hX dX11_cacheActs_199 (by decide) ?_
    refine s_iret hX dX11_cacheActs_200 rfl rfl ?_
    have hC : caF pr c hf op arg v hd = (0, staleF pr (vset v (3 * c + 2) 0) c, 0) := by simp [caF, k6_8]
    rw [hC]
    exact ⟨rfl, (Fr.rf.wI (by decide) (by decide)).trans hf8, hV8, h8⟩
  refine s_tableOut (tgt := 201) hX dX11_cacheActs_6 (by rw [nI_toInt (by omega)]; omega) (by decide) ?_
  refine s_iconst (v := nI 0) hX dX11_cacheActs_201 (by decide) ?_
  refine s_iret hX dX11_cacheActs_202 rfl rfl ?_
  have hC : caF pr c hf op arg v hd = (0, v, hd) := by simp [caF, k6_1, k6_2, k6_3, k6_4, k6_5, k6_6, k6_7, k6_8]
  rw [hC]
  exact ⟨rfl, Fr.rf, hN, h11⟩
theorem mc14 {pr : Pr} {arg hf : Nat} : ∀ (p : Nat) (v : Vc), (mcF pr arg hf p v).2 14 = v 14
  | 0, v => rfl
  | p + 1, v => by
    have ih := mc14 (pr := pr) (arg := arg) (hf := hf) p v
    unfold mcF
    split
    · exact ih
    · split
      · unfold sendF
        split
        · exact ih
        · exact ih
      · exact ih
theorem mcF_stop {pr : Pr} {arg hf : Nat} {v : Vc} {p : Nat} (h : (mcF pr arg hf p v).1 = false) : ∀ d, mcF pr arg hf (p + d) v = mcF pr arg hf p v
  | 0 => rfl
  | d + 1 => by
    have ih := mcF_stop h d
    show (if (mcF pr arg hf (p + d) v).1 = false then mcF pr arg hf (p + d) v else _) = _
    rw [ih, if_pos h]
set_option maxRecDepth 100000 in
set_option maxHeartbeats 4000000 in
theorem c_X11_homeActs {σ : Sg} {pr : Pr} {v : Vc} (hp : PrM σ pr) (hk : PrOk pr) (hN : Vat σ 59 0 v) (hv : VOk pr v) {hf op arg hd : Nat} (hf0 : hf < pP pr) (ho0 : op < 16) (ha : arg < 16) (hd2 : hd < 2) (h10 : (σ 53).1 10 = nI hf) (h11 : (σ 53).1 11 = nI hd) : Sm 77 mX11_homeActs [.ref 53, .int (nI op), .int (nI arg)] σ (qi fun r σ2 => r = nI (hoF pr hf op arg v hd).1 ∧ Fr 53 σ σ2 [59] [11] ∧ Vat σ2 59 0 (hoF pr hf op arg v hd).2.1 ∧ (σ2 53).1 11 = nI (hoF pr hf op arg v hd).2.2) := by
  refine Sm.of mk_X11_homeActs (Nat.le_of_ble_eq_true rfl) rfl (fun X hX => ?_)
  have hP := hk.1
  have h13 := hv.2.2.1
  have h14 := hv.2.2.2.1
  have LP : op = 4 → ∀ m p, p + m = pP pr → ∀ σ1, Off σ σ1 [59] → Vat σ1 59 0 (mcF pr arg hf p v).2 → (mcF pr arg hf p v).1 = true → Sw 77 mX11_homeActs X (ZS 77 mX11_homeActs (qi fun r σ2 => r = nI (hoF pr hf op arg v hd).1 ∧ Fr 53 σ σ2 [59] [11] ∧ Vat σ2 59 0 (hoF pr hf op arg v hd).2.1 ∧ (σ2 53).1 11 = nI (hoF pr hf op arg v hd).2.2) X) 102 [some (.ref 53), some (.int (nI op)), some (.int (nI arg)), some (.int (nI p))] [] σ1 := by
    intro hop m
    have hC : hoF pr hf op arg v hd = (b3 (mcF pr arg hf (pP pr) v).1, (mcF pr arg hf (pP pr) v).2, hd) := by simp [hoF, hop]
    induction m with
    | zero =>
      intro p hpm σ1 ho hV hb
      have e0 : (σ1 53).1 0 = nI (pP pr) := by rw [ho 53 (by decide)]; exact hp.1
      refine s_iload_n hX dX11_homeActs_102 rfl ?_
      refine s_aload_n hX dX11_homeActs_103 rfl ?_
      refine s_getI (x := nI (pP pr)) hX dX11_homeActs_104 fl_X11_7 rfl rfl (by omega) e0 ?_
      refine s_icmp_ge_n (tgt := 159) hX dX11_homeActs_107 (by decide) (by omega) (by omega) (fun q107 => ?_) (fun q107 => ?_)
      · refine s_iconst (v := nI 0) hX dX11_homeActs_159 (by decide) ?_
        refine s_iret hX dX11_homeActs_160 rfl rfl ?_
        rw [hC, show pP pr = p by omega]
        exact ⟨by rw [hb]; rfl, Fr.of ho (by decide), hV, by rw [ho 53 (by decide)]; exact h11⟩
      · omega
    | succ m ih =>
      intro p hpm σ1 ho hV hb
      have e0 : (σ1 53).1 0 = nI (pP pr) := by rw [ho 53 (by decide)]; exact hp.1
      have e10 : (σ1 53).1 10 = nI hf := by rw [ho 53 (by decide)]; exact h10
      have e14 : (σ1 59).1 14 = nI (v 14) := by rw [hV.at0 14 (by decide), mc14]
      have ebit : v 14 / 2 ^ p &&& 1 = v 14 / 2 ^ p % 2 := am _ 1
      refine s_iload_n hX dX11_homeActs_102 rfl ?_
      refine s_aload_n hX dX11_homeActs_103 rfl ?_
      refine s_getI (x := nI (pP pr)) hX dX11_homeActs_104 fl_X11_7 rfl rfl (by omega) e0 ?_
      refine s_icmp_ge_n (tgt := 159) hX dX11_homeActs_107 (by decide) (by omega) (by omega) (fun q107 => ?_) (fun q107 => ?_)
      · omega
      · refine s_iload_n hX dX11_homeActs_110 rfl ?_
        refine s_aload_n hX dX11_homeActs_111 rfl ?_
        refine s_getI (x := nI (hf)) hX dX11_homeActs_112 fl_X11_133 rfl rfl (by omega) e10 ?_
        refine s_icmp_eq_n (tgt := 153) hX dX11_homeActs_115 (by decide) (by omega) (by omega) (fun q115 => ?_) (fun q115 => ?_)
        · refine s_iinc_n (c := 1) hX dX11_homeActs_153 rfl (by decide) rfl st_4_3 ?_
          refine s_goto (tgt := 102) hX dX11_homeActs_156 (by decide) ?_
          rw [ebit] at *
          first
            | (have hs : mcF pr arg hf (p + 1) v = mcF pr arg hf p v := by
                 show (if _ then _ else if _ then _ else _) = _
                 rw [if_neg (by rw [hb]; decide), if_neg (by rw [mc14]; omega)]
               exact ih (p + 1) (by omega) σ1 ho (by rw [hs]; exact hV) (by rw [hs]; exact hb))
            | (have hs : mcF pr arg hf (p + 1) v = sendF pr (mcF pr arg hf p v).2 (arg, pP pr, p, hf, 0) := by
                 show (if _ then _ else if _ then _ else _) = _
                 rw [if_neg (by rw [hb]; decide), if_pos ⟨q115, by rw [mc14]; exact q130⟩]
               refine ih (p + 1) (by omega) _ (ho.trans ho2) (by rw [hs]; exact hV2) ?_
               rw [hs]
               cases hh : (sendF pr (mcF pr arg hf p v).2 (arg, pP pr, p, hf, 0)).1 with
               | true => rfl
               | false => exact absurd (bI_0.mpr hh) q148)
        · refine s_aload_n hX dX11_homeActs_118 rfl ?_
          refine s_getR hX dX11_homeActs_119 fl_X11_30 rfl rfl (by omega) ?_
          refine s_bipush (v := nI 14) hX dX11_homeActs_122 (by decide) ?_
          refine s_iald (x := nI (v 14)) hX dX11_homeActs_124 rfl (by omega) (by omega) (by decide) e14 ?_
          refine s_iload_n hX dX11_homeActs_125 rfl ?_
          refine s_ishr_n hX dX11_homeActs_126 (by omega) (by omega) ?_
          refine s_iconst (v := nI 1) hX dX11_homeActs_127 (by decide) ?_
          refine s_iand_n hX dX11_homeActs_128 ?_
          refine s_iconst (v := nI 1) hX dX11_homeActs_129 (by decide) ?_
          refine s_icmp_ne_n (tgt := 153) hX dX11_homeActs_130 (by decide) (by rw [ebit]; omega) (by omega) (fun q130 => ?_) (fun q130 => ?_)
          · refine s_iinc_n (c := 1) hX dX11_homeActs_153 rfl (by decide) rfl st_4_3 ?_
            refine s_goto (tgt := 102) hX dX11_homeActs_156 (by decide) ?_
            rw [ebit] at *
            first
              | (have hs : mcF pr arg hf (p + 1) v = mcF pr arg hf p v := by
                   show (if _ then _ else if _ then _ else _) = _
                   rw [if_neg (by rw [hb]; decide), if_neg (by rw [mc14]; omega)]
                 exact ih (p + 1) (by omega) σ1 ho (by rw [hs]; exact hV) (by rw [hs]; exact hb))
              | (have hs : mcF pr arg hf (p + 1) v = sendF pr (mcF pr arg hf p v).2 (arg, pP pr, p, hf, 0) := by
                   show (if _ then _ else if _ then _ else _) = _
                   rw [if_neg (by rw [hb]; decide), if_pos ⟨q115, by rw [mc14]; exact q130⟩]
                 refine ih (p + 1) (by omega) _ (ho.trans ho2) (by rw [hs]; exact hV2) ?_
                 rw [hs]
                 cases hh : (sendF pr (mcF pr arg hf p v).2 (arg, pP pr, p, hf, 0)).1 with
                 | true => rfl
                 | false => exact absurd (bI_0.mpr hh) q148)
          · refine s_aload_n hX dX11_homeActs_133 rfl ?_
            refine s_iload_n hX dX11_homeActs_134 rfl ?_
            refine s_aload_n hX dX11_homeActs_135 rfl ?_
            refine s_getI (x := nI (pP pr)) hX dX11_homeActs_136 fl_X11_7 rfl rfl (by omega) e0 ?_
            refine s_iload_n hX dX11_homeActs_139 rfl ?_
            refine s_aload_n hX dX11_homeActs_140 rfl ?_
            refine s_getI (x := nI (hf)) hX dX11_homeActs_141 fl_X11_133 rfl rfl (by omega) e10 ?_
            refine s_iconst (v := nI 0) hX dX11_homeActs_144 (by decide) ?_
            refine s_callVi (as := [_, _, _, _, _]) hX dX11_homeActs_145 mk_X11_send lk_X11_139 (c_X11_send (v := (mcF pr arg hf p v).2) (k := arg) (f := pP pr) (t := p) (u := hf) (w := 0) (hp.off ho (by decide) (by decide) (by decide) (by decide) (by decide)) hk hV (VOk.mc ha hf0 hP.2 p (by omega) v hv) ha (by omega) (by omega) (by omega) (by omega)) rfl (by omega) rfl rfl rfl ⟨rfl, rfl⟩ (Nat.le_of_ble_eq_true rfl) (Nat.le_of_ble_eq_true rfl) (Nat.le_of_ble_eq_true rfl) rfl (fun v145 σ145 p145 => ?_)
            obtain ⟨rfl, ho2, hV2⟩ := p145
            refine s_if_ne (tgt := 153) hX dX11_homeActs_148 (by decide) (fun q148 => ?_) (fun q148 => ?_)
            · refine s_iinc_n (c := 1) hX dX11_homeActs_153 rfl (by decide) rfl st_4_3 ?_
              refine s_goto (tgt := 102) hX dX11_homeActs_156 (by decide) ?_
              rw [ebit] at *
              first
                | (have hs : mcF pr arg hf (p + 1) v = mcF pr arg hf p v := by
                     show (if _ then _ else if _ then _ else _) = _
                     rw [if_neg (by rw [hb]; decide), if_neg (by rw [mc14]; omega)]
                   exact ih (p + 1) (by omega) σ1 ho (by rw [hs]; exact hV) (by rw [hs]; exact hb))
                | (have hs : mcF pr arg hf (p + 1) v = sendF pr (mcF pr arg hf p v).2 (arg, pP pr, p, hf, 0) := by
                     show (if _ then _ else if _ then _ else _) = _
                     rw [if_neg (by rw [hb]; decide), if_pos ⟨q115, by rw [mc14]; exact q130⟩]
                   refine ih (p + 1) (by omega) _ (ho.trans ho2) (by rw [hs]; exact hV2) ?_
                   rw [hs]
                   cases hh : (sendF pr (mcF pr arg hf p v).2 (arg, pP pr, p, hf, 0)).1 with
                   | true => rfl
                   | false => exact absurd (bI_0.mpr hh) q148)
            · refine s_iconst (v := nI 3) hX dX11_homeActs_151 (by decide) ?_
              refine s_iret hX dX11_homeActs_152 rfl rfl ?_
              rw [ebit] at q130
              have hs : mcF pr arg hf (p + 1) v = sendF pr (mcF pr arg hf p v).2 (arg, pP pr, p, hf, 0) := by
                show (if _ then _ else if _ then _ else _) = _
                rw [if_neg (by rw [hb]; decide), if_pos ⟨q115, by rw [mc14]; exact q130⟩]
              have hz : (mcF pr arg hf (p + 1) v).1 = false := by rw [hs]; exact bI_0.mp (Decidable.of_not_not q148)
              have hst := mcF_stop hz m
              rw [show p + 1 + m = pP pr by omega] at hst
              rw [hC, hst, hz, hs]
              exact ⟨rfl, Fr.of (ho.trans ho2) (by decide), hV2, by rw [(ho.trans ho2) 53 (by decide)]; exact h11⟩
  refine s_iload_n hX dX11_homeActs_0 rfl ?_
  by_cases k1_1 : op = 1
  · refine s_tableIn (off := 47) (tgt := 48) hX dX11_homeActs_1 (by rw [k1_1]; decide) (by rw [k1_1]; decide) (by rw [k1_1]; decide) (by decide) ?_
    refine s_aload_n hX dX11_homeActs_48 rfl ?_
    refine s_getR hX dX11_homeActs_49 fl_X11_30 rfl rfl (by omega) ?_
    refine s_bipush (v := nI 12) hX dX11_homeActs_52 (by decide) ?_
    refine s_iload_n hX dX11_homeActs_54 rfl ?_
    refine s_iast hX dX11_homeActs_55 rfl (by omega) (by omega) (by decide) ?_
    refine s_iconst (v := nI 0) hX dX11_homeActs_56 (by decide) ?_
    refine s_iret hX dX11_homeActs_57 rfl rfl ?_
    have hC : hoF pr hf op arg v hd = (0, vset v 12 arg, hd) := by simp [hoF, k1_1]
    rw [hC]
    exact ⟨rfl, Fr.rf.wI (by decide) (by decide), hN.upd, by rw [wI_a _ _ (by decide)]; exact h11⟩
  by_cases k1_2 : op = 2
  · refine s_tableIn (off := 57) (tgt := 58) hX dX11_homeActs_1 (by rw [k1_2]; decide) (by rw [k1_2]; decide) (by rw [k1_2]; decide) (by decide) ?_
    refine s_aload_n hX dX11_homeActs_58 rfl ?_
    refine s_iload_n hX dX11_homeActs_59 rfl ?_
    refine s_aload_n hX dX11_homeActs_60 rfl ?_
    refine s_getI (x := nI (pP pr)) hX dX11_homeActs_61 fl_X11_7 rfl rfl (by omega) hp.1 ?_
    refine s_aload_n hX dX11_homeActs_64 rfl ?_
    refine s_getI (x := nI (hf)) hX dX11_homeActs_65 fl_X11_133 rfl rfl (by omega) h10 ?_
    refine s_aload_n hX dX11_homeActs_68 rfl ?_
    refine s_getI (x := nI (hf)) hX dX11_homeActs_69 fl_X11_133 rfl rfl (by omega) h10 ?_
    refine s_iload_n hX dX11_homeActs_72 rfl ?_
    refine s_iconst (v := nI 3) hX dX11_homeActs_73 (by decide) ?_
    refine s_icmp_ne_n (tgt := 87) hX dX11_homeActs_74 (by decide) (by omega) (by omega) (fun q74 => ?_) (fun q74 => ?_)
    · refine s_iconst (v := nI 0) hX dX11_homeActs_87 (by decide) ?_
      refine s_callVi (as := [_, _, _, _, _]) hX dX11_homeActs_88 mk_X11_send lk_X11_139 (c_X11_send (k := arg) (f := pP pr) (t := hf) (u := hf) hp hk hN hv ha (by omega) (by omega) (by omega) (by omega)) rfl (by omega) rfl rfl rfl ⟨rfl, rfl⟩ (Nat.le_of_ble_eq_true rfl) (Nat.le_of_ble_eq_true rfl) (Nat.le_of_ble_eq_true rfl) rfl (fun v88 σ88 p88 => ?_)
      obtain ⟨rfl, ho, hV⟩ := p88
      refine s_if_eq (tgt := 98) hX dX11_homeActs_91 (by decide) (fun q91 => ?_) (fun q91 => ?_)
      · refine s_iconst (v := nI 3) hX dX11_homeActs_98 (by decide) ?_
        refine s_iret hX dX11_homeActs_99 rfl rfl ?_
        first
          | (exfalso; omega)
          | (have hC : hoF pr hf op arg v hd = (b3 (sendF pr v (arg, pP pr, hf, hf, 0)).1, (sendF pr v (arg, pP pr, hf, hf, 0)).2, hd) := by simp [hoF, k1_2]
             rw [hC]
             exact ⟨b3_f q91, Fr.of ho (by decide), hV, by rw [ho 53 (by decide)]; exact h11⟩)
          | (have hC : hoF pr hf op arg v hd = (b3 (sendF pr v (arg, pP pr, hf, hf, 0)).1, (sendF pr v (arg, pP pr, hf, hf, 0)).2, hd) := by simp [hoF, k1_2]
             rw [hC]
             exact ⟨b3_t q91, Fr.of ho (by decide), hV, by rw [ho 53 (by decide)]; exact h11⟩)
          | (have hC : hoF pr hf op arg v hd = (b3 (sendF pr v (arg, pP pr, hf, hf, v 13)).1, (sendF pr v (arg, pP pr, hf, hf, v 13)).2, hd) := by simp [hoF, k1_3]
             rw [hC]
             exact ⟨b3_f q91, Fr.of ho (by decide), hV, by rw [ho 53 (by decide)]; exact h11⟩)
          | (have hC : hoF pr hf op arg v hd = (b3 (sendF pr v (arg, pP pr, hf, hf, v 13)).1, (sendF pr v (arg, pP pr, hf, hf, v 13)).2, hd) := by simp [hoF, k1_3]
             rw [hC]
             exact ⟨b3_t q91, Fr.of ho (by decide), hV, by rw [ho 53 (by decide)]; exact h11⟩)
      · refine s_iconst (v := nI 0) hX dX11_homeActs_94 (by decide) ?_
        refine s_goto (tgt := 99) hX dX11_homeActs_95 (by decide) ?_
        refine s_iret hX dX11_homeActs_99 rfl rfl ?_
        first
          | (exfalso; omega)
          | (have hC : hoF pr hf op arg v hd = (b3 (sendF pr v (arg, pP pr, hf, hf, 0)).1, (sendF pr v (arg, pP pr, hf, hf, 0)).2, hd) := by simp [hoF, k1_2]
             rw [hC]
             exact ⟨b3_f q91, Fr.of ho (by decide), hV, by rw [ho 53 (by decide)]; exact h11⟩)
          | (have hC : hoF pr hf op arg v hd = (b3 (sendF pr v (arg, pP pr, hf, hf, 0)).1, (sendF pr v (arg, pP pr, hf, hf, 0)).2, hd) := by simp [hoF, k1_2]
             rw [hC]
             exact ⟨b3_t q91, Fr.of ho (by decide), hV, by rw [ho 53 (by decide)]; exact h11⟩)
          | (have hC : hoF pr hf op arg v hd = (b3 (sendF pr v (arg, pP pr, hf, hf, v 13)).1, (sendF pr v (arg, pP pr, hf, hf, v 13)).2, hd) := by simp [hoF, k1_3]
             rw [hC]
             exact ⟨b3_f q91, Fr.of ho (by decide), hV, by rw [ho 53 (by decide)]; exact h11⟩)
          | (have hC : hoF pr hf op arg v hd = (b3 (sendF pr v (arg, pP pr, hf, hf, v 13)).1, (sendF pr v (arg, pP pr, hf, hf, v 13)).2, hd) := by simp [hoF, k1_3]
             rw [hC]
             exact ⟨b3_t q91, Fr.of ho (by decide), hV, by rw [ho 53 (by decide)]; exact h11⟩)
    · refine s_aload_n hX dX11_homeActs_77 rfl ?_
      refine s_getR hX dX11_homeActs_78 fl_X11_30 rfl rfl (by omega) ?_
      refine s_bipush (v := nI 13) hX dX11_homeActs_81 (by decide) ?_
      refine s_iald (x := nI (v _)) hX dX11_homeActs_83 rfl (by omega) (by omega) (by decide) (hN.at0 _ (by omega)) ?_
      refine s_goto (tgt := 88) hX dX11_homeActs_84 (by decide) ?_
      refine s_callVi (as := [_, _, _, _, _]) hX dX11_homeActs_88 mk_X11_send lk_X11_139 (c_X11_send (k := arg) (f := pP pr) (t := hf) (u := hf) hp hk hN hv ha (by omega) (by omega) (by omega) (by omega)) rfl (by omega) rfl rfl rfl ⟨rfl, rfl⟩ (Nat.le_of_ble_eq_true rfl) (Nat.le_of_ble_eq_true rfl) (Nat.le_of_ble_eq_true rfl) rfl (fun v88 σ88 p88 => ?_)
      obtain ⟨rfl, ho, hV⟩ := p88
      refine s_if_eq (tgt := 98) hX dX11_homeActs_91 (by decide) (fun q91 => ?_) (fun q91 => ?_)
      · refine s_iconst (v := nI 3) hX dX11_homeActs_98 (by decide) ?_
        refine s_iret hX dX11_homeActs_99 rfl rfl ?_
        first
          | (exfalso; omega)
          | (have hC : hoF pr hf op arg v hd = (b3 (sendF pr v (arg, pP pr, hf, hf, 0)).1, (sendF pr v (arg, pP pr, hf, hf, 0)).2, hd) := by simp [hoF, k1_2]
             rw [hC]
             exact ⟨b3_f q91, Fr.of ho (by decide), hV, by rw [ho 53 (by decide)]; exact h11⟩)
          | (have hC : hoF pr hf op arg v hd = (b3 (sendF pr v (arg, pP pr, hf, hf, 0)).1, (sendF pr v (arg, pP pr, hf, hf, 0)).2, hd) := by simp [hoF, k1_2]
             rw [hC]
             exact ⟨b3_t q91, Fr.of ho (by decide), hV, by rw [ho 53 (by decide)]; exact h11⟩)
          | (have hC : hoF pr hf op arg v hd = (b3 (sendF pr v (arg, pP pr, hf, hf, v 13)).1, (sendF pr v (arg, pP pr, hf, hf, v 13)).2, hd) := by simp [hoF, k1_3]
             rw [hC]
             exact ⟨b3_f q91, Fr.of ho (by decide), hV, by rw [ho 53 (by decide)]; exact h11⟩)
          | (have hC : hoF pr hf op arg v hd = (b3 (sendF pr v (arg, pP pr, hf, hf, v 13)).1, (sendF pr v (arg, pP pr, hf, hf, v 13)).2, hd) := by simp [hoF, k1_3]
             rw [hC]
             exact ⟨b3_t q91, Fr.of ho (by decide), hV, by rw [ho 53 (by decide)]; exact h11⟩)
      · refine s_iconst (v := nI 0) hX dX11_homeActs_94 (by decide) ?_
        refine s_goto (tgt := 99) hX dX11_homeActs_95 (by decide) ?_
        refine s_iret hX dX11_homeActs_99 rfl rfl ?_
        first
          | (exfalso; omega)
          | (have hC : hoF pr hf op arg v hd = (b3 (sendF pr v (arg, pP pr, hf, hf, 0)).1, (sendF pr v (arg, pP pr, hf, hf, 0)).2, hd) := by simp [hoF, k1_2]
             rw [hC]
             exact ⟨b3_f q91, Fr.of ho (by decide), hV, by rw [ho 53 (by decide)]; exact h11⟩)
          | (have hC : hoF pr hf op arg v hd = (b3 (sendF pr v (arg, pP pr, hf, hf, 0)).1, (sendF pr v (arg, pP pr, hf, hf, 0)).2, hd) := by simp [hoF, k1_2]
             rw [hC]
             exact ⟨b3_t q91, Fr.of ho (by decide), hV, by rw [ho 53 (by decide)]; exact h11⟩)
          | (have hC : hoF pr hf op arg v hd = (b3 (sendF pr v (arg, pP pr, hf, hf, v 13)).1, (sendF pr v (arg, pP pr, hf, hf, v 13)).2, hd) := by simp [hoF, k1_3]
             rw [hC]
             exact ⟨b3_f q91, Fr.of ho (by decide), hV, by rw [ho 53 (by decide)]; exact h11⟩)
          | (have hC : hoF pr hf op arg v hd = (b3 (sendF pr v (arg, pP pr, hf, hf, v 13)).1, (sendF pr v (arg, pP pr, hf, hf, v 13)).2, hd) := by simp [hoF, k1_3]
             rw [hC]
             exact ⟨b3_t q91, Fr.of ho (by decide), hV, by rw [ho 53 (by decide)]; exact h11⟩)
  by_cases k1_3 : op = 3
  · refine s_tableIn (off := 57) (tgt := 58) hX dX11_homeActs_1 (by rw [k1_3]; decide) (by rw [k1_3]; decide) (by rw [k1_3]; decide) (by decide) ?_
    refine s_aload_n hX dX11_homeActs_58 rfl ?_
    refine s_iload_n hX dX11_homeActs_59 rfl ?_
    refine s_aload_n hX dX11_homeActs_60 rfl ?_
    refine s_getI (x := nI (pP pr)) hX dX11_homeActs_61 fl_X11_7 rfl rfl (by omega) hp.1 ?_
    refine s_aload_n hX dX11_homeActs_64 rfl ?_
    refine s_getI (x := nI (hf)) hX dX11_homeActs_65 fl_X11_133 rfl rfl (by omega) h10 ?_
    refine s_aload_n hX dX11_homeActs_68 rfl ?_
    refine s_getI (x := nI (hf)) hX dX11_homeActs_69 fl_X11_133 rfl rfl (by omega) h10 ?_
    refine s_iload_n hX dX11_homeActs_72 rfl ?_
    refine s_iconst (v := nI 3) hX dX11_homeActs_73 (by decide) ?_
    refine s_icmp_ne_n (tgt := 87) hX dX11_homeActs_74 (by decide) (by omega) (by omega) (fun q74 => ?_) (fun q74 => ?_)
    · refine s_iconst (v := nI 0) hX dX11_homeActs_87 (by decide) ?_
      refine s_callVi (as := [_, _, _, _, _]) hX dX11_homeActs_88 mk_X11_send lk_X11_139 (c_X11_send (k := arg) (f := pP pr) (t := hf) (u := hf) hp hk hN hv ha (by omega) (by omega) (by omega) (by omega)) rfl (by omega) rfl rfl rfl ⟨rfl, rfl⟩ (Nat.le_of_ble_eq_true rfl) (Nat.le_of_ble_eq_true rfl) (Nat.le_of_ble_eq_true rfl) rfl (fun v88 σ88 p88 => ?_)
      obtain ⟨rfl, ho, hV⟩ := p88
      refine s_if_eq (tgt := 98) hX dX11_homeActs_91 (by decide) (fun q91 => ?_) (fun q91 => ?_)
      · refine s_iconst (v := nI 3) hX dX11_homeActs_98 (by decide) ?_
        refine s_iret hX dX11_homeActs_99 rfl rfl ?_
        first
          | (exfalso; omega)
          | (have hC : hoF pr hf op arg v hd = (b3 (sendF pr v (arg, pP pr, hf, hf, 0)).1, (sendF pr v (arg, pP pr, hf, hf, 0)).2, hd) := by simp [hoF, k1_2]
             rw [hC]
             exact ⟨b3_f q91, Fr.of ho (by decide), hV, by rw [ho 53 (by decide)]; exact h11⟩)
          | (have hC : hoF pr hf op arg v hd = (b3 (sendF pr v (arg, pP pr, hf, hf, 0)).1, (sendF pr v (arg, pP pr, hf, hf, 0)).2, hd) := by simp [hoF, k1_2]
             rw [hC]
             exact ⟨b3_t q91, Fr.of ho (by decide), hV, by rw [ho 53 (by decide)]; exact h11⟩)
          | (have hC : hoF pr hf op arg v hd = (b3 (sendF pr v (arg, pP pr, hf, hf, v 13)).1, (sendF pr v (arg, pP pr, hf, hf, v 13)).2, hd) := by simp [hoF, k1_3]
             rw [hC]
             exact ⟨b3_f q91, Fr.of ho (by decide), hV, by rw [ho 53 (by decide)]; exact h11⟩)
          | (have hC : hoF pr hf op arg v hd = (b3 (sendF pr v (arg, pP pr, hf, hf, v 13)).1, (sendF pr v (arg, pP pr, hf, hf, v 13)).2, hd) := by simp [hoF, k1_3]
             rw [hC]
             exact ⟨b3_t q91, Fr.of ho (by decide), hV, by rw [ho 53 (by decide)]; exact h11⟩)
      · refine s_iconst (v := nI 0) hX dX11_homeActs_94 (by decide) ?_
        refine s_goto (tgt := 99) hX dX11_homeActs_95 (by decide) ?_
        refine s_iret hX dX11_homeActs_99 rfl rfl ?_
        first
          | (exfalso; omega)
          | (have hC : hoF pr hf op arg v hd = (b3 (sendF pr v (arg, pP pr, hf, hf, 0)).1, (sendF pr v (arg, pP pr, hf, hf, 0)).2, hd) := by simp [hoF, k1_2]
             rw [hC]
             exact ⟨b3_f q91, Fr.of ho (by decide), hV, by rw [ho 53 (by decide)]; exact h11⟩)
          | (have hC : hoF pr hf op arg v hd = (b3 (sendF pr v (arg, pP pr, hf, hf, 0)).1, (sendF pr v (arg, pP pr, hf, hf, 0)).2, hd) := by simp [hoF, k1_2]
             rw [hC]
             exact ⟨b3_t q91, Fr.of ho (by decide), hV, by rw [ho 53 (by decide)]; exact h11⟩)
          | (have hC : hoF pr hf op arg v hd = (b3 (sendF pr v (arg, pP pr, hf, hf, v 13)).1, (sendF pr v (arg, pP pr, hf, hf, v 13)).2, hd) := by simp [hoF, k1_3]
             rw [hC]
             exact ⟨b3_f q91, Fr.of ho (by decide), hV, by rw [ho 53 (by decide)]; exact h11⟩)
          | (have hC : hoF pr hf op arg v hd = (b3 (sendF pr v (arg, pP pr, hf, hf, v 13)).1, (sendF pr v (arg, pP pr, hf, hf, v 13)).2, hd) := by simp [hoF, k1_3]
             rw [hC]
             exact ⟨b3_t q91, Fr.of ho (by decide), hV, by rw [ho 53 (by decide)]; exact h11⟩)
    · refine s_aload_n hX dX11_homeActs_77 rfl ?_
      refine s_getR hX dX11_homeActs_78 fl_X11_30 rfl rfl (by omega) ?_
      refine s_bipush (v := nI 13) hX dX11_homeActs_81 (by decide) ?_
      refine s_iald (x := nI (v _)) hX dX11_homeActs_83 rfl (by omega) (by omega) (by decide) (hN.at0 _ (by omega)) ?_
      refine s_goto (tgt := 88) hX dX11_homeActs_84 (by decide) ?_
      refine s_callVi (as := [_, _, _, _, _]) hX dX11_homeActs_88 mk_X11_send lk_X11_139 (c_X11_send (k := arg) (f := pP pr) (t := hf) (u := hf) hp hk hN hv ha (by omega) (by omega) (by omega) (by omega)) rfl (by omega) rfl rfl rfl ⟨rfl, rfl⟩ (Nat.le_of_ble_eq_true rfl) (Nat.le_of_ble_eq_true rfl) (Nat.le_of_ble_eq_true rfl) rfl (fun v88 σ88 p88 => ?_)
      obtain ⟨rfl, ho, hV⟩ := p88
      refine s_if_eq (tgt := 98) hX dX11_homeActs_91 (by decide) (fun q91 => ?_) (fun q91 => ?_)
      · refine s_iconst (v := nI 3) hX dX11_homeActs_98 (by decide) ?_
        refine s_iret hX dX11_homeActs_99 rfl rfl ?_
        first
          | (exfalso; omega)
          | (have hC : hoF pr hf op arg v hd = (b3 (sendF pr v (arg, pP pr, hf, hf, 0)).1, (sendF pr v (arg, pP pr, hf, hf, 0)).2, hd) := by simp [hoF, k1_2]
             rw [hC]
             exact ⟨b3_f q91, Fr.of ho (by decide), hV, by rw [ho 53 (by decide)]; exact h11⟩)
          | (have hC : hoF pr hf op arg v hd = (b3 (sendF pr v (arg, pP pr, hf, hf, 0)).1, (sendF pr v (arg, pP pr, hf, hf, 0)).2, hd) := by simp [hoF, k1_2]
             rw [hC]
             exact ⟨b3_t q91, Fr.of ho (by decide), hV, by rw [ho 53 (by decide)]; exact h11⟩)
          | (have hC : hoF pr hf op arg v hd = (b3 (sendF pr v (arg, pP pr, hf, hf, v 13)).1, (sendF pr v (arg, pP pr, hf, hf, v 13)).2, hd) := by simp [hoF, k1_3]
             rw [hC]
             exact ⟨b3_f q91, Fr.of ho (by decide), hV, by rw [ho 53 (by decide)]; exact h11⟩)
          | (have hC : hoF pr hf op arg v hd = (b3 (sendF pr v (arg, pP pr, hf, hf, v 13)).1, (sendF pr v (arg, pP pr, hf, hf, v 13)).2, hd) := by simp [hoF, k1_3]
             rw [hC]
             exact ⟨b3_t q91, Fr.of ho (by decide), hV, by rw [ho 53 (by decide)]; exact h11⟩)
      · refine s_iconst (v := nI 0) hX dX11_homeActs_94 (by decide) ?_
        refine s_goto (tgt := 99) hX dX11_homeActs_95 (by decide) ?_
        refine s_iret hX dX11_homeActs_99 rfl rfl ?_
        first
          | (exfalso; omega)
          | (have hC : hoF pr hf op arg v hd = (b3 (sendF pr v (arg, pP pr, hf, hf, 0)).1, (sendF pr v (arg, pP pr, hf, hf, 0)).2, hd) := by simp [hoF, k1_2]
             rw [hC]
             exact ⟨b3_f q91, Fr.of ho (by decide), hV, by rw [ho 53 (by decide)]; exact h11⟩)
          | (have hC : hoF pr hf op arg v hd = (b3 (sendF pr v (arg, pP pr, hf, hf, 0)).1, (sendF pr v (arg, pP pr, hf, hf, 0)).2, hd) := by simp [hoF, k1_2]
             rw [hC]
             exact ⟨b3_t q91, Fr.of ho (by decide), hV, by rw [ho 53 (by decide)]; exact h11⟩)
          | (have hC : hoF pr hf op arg v hd = (b3 (sendF pr v (arg, pP pr, hf, hf, v 13)).1, (sendF pr v (arg, pP pr, hf, hf, v 13)).2, hd) := by simp [hoF, k1_3]
             rw [hC]
             exact ⟨b3_f q91, Fr.of ho (by decide), hV, by rw [ho 53 (by decide)]; exact h11⟩)
          | (have hC : hoF pr hf op arg v hd = (b3 (sendF pr v (arg, pP pr, hf, hf, v 13)).1, (sendF pr v (arg, pP pr, hf, hf, v 13)).2, hd) := by simp [hoF, k1_3]
             rw [hC]
             exact ⟨b3_t q91, Fr.of ho (by decide), hV, by rw [ho 53 (by decide)]; exact h11⟩)
  by_cases k1_4 : op = 4
  · refine s_tableIn (off := 99) (tgt := 100) hX dX11_homeActs_1 (by rw [k1_4]; decide) (by rw [k1_4]; decide) (by rw [k1_4]; decide) (by decide) ?_
    refine s_iconst (v := nI 0) hX dX11_homeActs_100 (by decide) ?_
    refine s_istore_n hX dX11_homeActs_101 (Nat.le_of_ble_eq_true rfl) rfl st_4_3 ?_
    exact LP k1_4 (pP pr) 0 (by omega) σ Off.rf hN rfl
  by_cases k1_5 : op = 5
  · refine s_tableIn (off := 160) (tgt := 161) hX dX11_homeActs_1 (by rw [k1_5]; decide) (by rw [k1_5]; decide) (by rw [k1_5]; decide) (by decide) ?_
    refine s_aload_n hX dX11_homeActs_161 rfl ?_
    refine s_getR hX dX11_homeActs_162 fl_X11_30 rfl rfl (by omega) ?_
    refine s_bipush (v := nI 14) hX dX11_homeActs_165 (by decide) ?_
    refine s_dup2 hX dX11_homeActs_167 rfl rfl ?_
    refine s_iald (x := nI (v _)) hX dX11_homeActs_168 rfl (by omega) (by omega) (by decide) (hN.at0 _ (by omega)) ?_
    refine s_iconst (v := nI 1) hX dX11_homeActs_169 (by decide) ?_
    refine s_aload_n hX dX11_homeActs_170 rfl ?_
    refine s_getI (x := nI (hf)) hX dX11_homeActs_171 fl_X11_133 rfl rfl (by omega) h10 ?_
    refine s_ishl_n hX dX11_homeActs_174 (by omega) (by have : 2 ^ hf ≤ 2 ^ 4 := Nat.pow_le_pow_right (by decide) (by omega); omega) ?_
    refine s_ior_n hX dX11_homeActs_175 ?_
    refine s_iast hX dX11_homeActs_176 rfl (by omega) (by omega) (by decide) ?_
    refine s_iconst (v := nI 0) hX dX11_homeActs_177 (by decide) ?_
    refine s_iret hX dX11_homeActs_178 rfl rfl ?_
    have hC : hoF pr hf op arg v hd = (0, vset v 14 (v 14 ||| 1 * 2 ^ hf), hd) := by simp [hoF, k1_5]
    rw [hC]
    exact ⟨rfl, Fr.rf.wI (by decide) (by decide), hN.upd, by rw [wI_a _ _ (by decide)]; exact h11⟩
  by_cases k1_6 : op = 6
  · refine s_tableIn (off := 178) (tgt := 179) hX dX11_homeActs_1 (by rw [k1_6]; decide) (by rw [k1_6]; decide) (by rw [k1_6]; decide) (by decide) ?_
    refine s_aload_n hX dX11_homeActs_179 rfl ?_
    refine s_getR hX dX11_homeActs_180 fl_X11_30 rfl rfl (by omega) ?_
    refine s_bipush (v := nI 14) hX dX11_homeActs_183 (by decide) ?_
    refine s_dup2 hX dX11_homeActs_185 rfl rfl ?_
    refine s_iald (x := nI (v _)) hX dX11_homeActs_186 rfl (by omega) (by omega) (by decide) (hN.at0 _ (by omega)) ?_
    refine s_iconst (v := nI 1) hX dX11_homeActs_187 (by decide) ?_
    refine s_aload_n hX dX11_homeActs_188 rfl ?_
    refine s_getI (x := nI (hf)) hX dX11_homeActs_189 fl_X11_133 rfl rfl (by omega) h10 ?_
    refine s_ishl_n hX dX11_homeActs_192 (by omega) (by have : 2 ^ hf ≤ 2 ^ 4 := Nat.pow_le_pow_right (by decide) (by omega); omega) ?_
    refine s_iconst (v := -1) hX dX11_homeActs_193 (by decide) ?_
    refine s_ixor hX dX11_homeActs_194 ?_
    refine s_iand hX dX11_homeActs_195 ?_
    refine s_top (hclI _ h14 _ (by omega)) ?_
    refine s_iast hX dX11_homeActs_196 rfl (by omega) (by omega) (by decide) ?_
    refine s_iconst (v := nI 0) hX dX11_homeActs_197 (by decide) ?_
    refine s_iret hX dX11_homeActs_198 rfl rfl ?_
    have hC : hoF pr hf op arg v hd = (0, vset v 14 (hcl (v 14) hf), hd) := by simp [hoF, k1_6]
    rw [hC]
    exact ⟨rfl, Fr.rf.wI (by decide) (by decide), hN.upd, by rw [wI_a _ _ (by decide)]; exact h11⟩
  by_cases k1_7 : op = 7
  · refine s_tableIn (off := 198) (tgt := 199) hX dX11_homeActs_1 (by rw [k1_7]; decide) (by rw [k1_7]; decide) (by rw [k1_7]; decide) (by decide) ?_
    refine s_aload_n hX dX11_homeActs_199 rfl ?_
    refine s_getR hX dX11_homeActs_200 fl_X11_30 rfl rfl (by omega) ?_
    refine s_bipush (v := nI 14) hX dX11_homeActs_203 (by decide) ?_
    refine s_iconst (v := nI 0) hX dX11_homeActs_205 (by decide) ?_
    refine s_iast hX dX11_homeActs_206 rfl (by omega) (by omega) (by decide) ?_
    refine s_iconst (v := nI 0) hX dX11_homeActs_207 (by decide) ?_
    refine s_iret hX dX11_homeActs_208 rfl rfl ?_
    have hC : hoF pr hf op arg v hd = (0, vset v 14 0, hd) := by simp [hoF, k1_7]
    rw [hC]
    exact ⟨rfl, Fr.rf.wI (by decide) (by decide), hN.upd, by rw [wI_a _ _ (by decide)]; exact h11⟩
  by_cases k1_8 : op = 8
  · refine s_tableIn (off := 208) (tgt := 209) hX dX11_homeActs_1 (by rw [k1_8]; decide) (by rw [k1_8]; decide) (by rw [k1_8]; decide) (by decide) ?_
    refine s_aload_n hX dX11_homeActs_209 rfl ?_
    refine s_getR hX dX11_homeActs_210 fl_X11_30 rfl rfl (by omega) ?_
    refine s_bipush (v := nI 13) hX dX11_homeActs_213 (by decide) ?_
    refine s_aload_n hX dX11_homeActs_215 rfl ?_
    refine s_getI (x := nI (hd)) hX dX11_homeActs_216 fl_X11_136 rfl rfl (by omega) h11 ?_
    refine s_iast hX dX11_homeActs_219 rfl (by omega) (by omega) (by decide) ?_
    refine s_iconst (v := nI 0) hX dX11_homeActs_220 (by decide) ?_
    refine s_iret hX dX11_homeActs_221 rfl rfl ?_
    have hC : hoF pr hf op arg v hd = (0, vset v 13 hd, hd) := by simp [hoF, k1_8]
    rw [hC]
    exact ⟨rfl, Fr.rf.wI (by decide) (by decide), hN.upd, by rw [wI_a _ _ (by decide)]; exact h11⟩
  refine s_tableOut (tgt := 222) hX dX11_homeActs_1 (by rw [nI_toInt (by omega)]; omega) (by decide) ?_
  refine s_iconst (v := nI 0) hX dX11_homeActs_222 (by decide) ?_
  refine s_iret hX dX11_homeActs_223 rfl rfl ?_
  have hC : hoF pr hf op arg v hd = (0, v, hd) := by simp [hoF, k1_1, k1_2, k1_3, k1_4, k1_5, k1_6, k1_7, k1_8]
  rw [hC]
  exact ⟨rfl, Fr.rf, hN, h11⟩
end
section
theorem i_vc : Claimed_1_1 ∧ Claimed_1_2 := sorry
end
