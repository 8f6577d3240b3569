section
-- ===== PART A: goes FIRST, ahead of the names: the tables' words, and 'selects' of the private methods out of them =====
/-- a private method of a class that the tables say can be made, by its rows of tables_1 -/
def lw_okq (q : MethodName × Nat) : Prop := (q.1.cls ≠ "java/lang/invoke/MethodHandle" ∧ q.1.cls ≠ "java/lang/invoke/VarHandle") ∧ Cond.instantiable q.1.cls q.2 ∈ tables_1 ∧ Cond.privateMethod q.1 ∈ tables_1 ∧ Cond.instanceMethod q.1 ∈ tables_1
theorem lw_p0 : lw_okq (⟨"CohereBench$Scene", "setPart", "(III)V"⟩, 3) := ⟨⟨by decide +kernel, by decide +kernel⟩, List.mem_of_getElem? (i := 79) (by decide +kernel), List.mem_of_getElem? (i := 275) (by decide +kernel), List.mem_of_getElem? (i := 276) (by decide +kernel)⟩
theorem lw_p1 : lw_okq (⟨"CohereBench", "beginAnew", "()V"⟩, 7) := ⟨⟨by decide +kernel, by decide +kernel⟩, List.mem_of_getElem? (i := 16) (by decide +kernel), List.mem_of_getElem? (i := 310) (by decide +kernel), List.mem_of_getElem? (i := 311) (by decide +kernel)⟩
theorem lw_p2 : lw_okq (⟨"CohereBench$Protocol", "hasWait", "(I)Z"⟩, 8) := ⟨⟨by decide +kernel, by decide +kernel⟩, List.mem_of_getElem? (i := 24) (by decide +kernel), List.mem_of_getElem? (i := 349) (by decide +kernel), List.mem_of_getElem? (i := 350) (by decide +kernel)⟩
theorem lw_p3 : lw_okq (⟨"CohereBench", "countChoices", "()I"⟩, 7) := ⟨⟨by decide +kernel, by decide +kernel⟩, List.mem_of_getElem? (i := 16) (by decide +kernel), List.mem_of_getElem? (i := 377) (by decide +kernel), List.mem_of_getElem? (i := 378) (by decide +kernel)⟩
theorem lw_p4 : lw_okq (⟨"CohereBench$Scene", "part", "(II)I"⟩, 3) := ⟨⟨by decide +kernel, by decide +kernel⟩, List.mem_of_getElem? (i := 79) (by decide +kernel), List.mem_of_getElem? (i := 390) (by decide +kernel), List.mem_of_getElem? (i := 391) (by decide +kernel)⟩
theorem lw_p5 : lw_okq (⟨"CohereBench$StepList", "listOwn", "(LCohereBench$Scene;I)V"⟩, 7) := ⟨⟨by decide +kernel, by decide +kernel⟩, List.mem_of_getElem? (i := 95) (by decide +kernel), List.mem_of_getElem? (i := 394) (by decide +kernel), List.mem_of_getElem? (i := 395) (by decide +kernel)⟩
theorem lw_p6 : lw_okq (⟨"CohereBench$StepList", "add", "(IIIII)V"⟩, 7) := ⟨⟨by decide +kernel, by decide +kernel⟩, List.mem_of_getElem? (i := 95) (by decide +kernel), List.mem_of_getElem? (i := 411) (by decide +kernel), List.mem_of_getElem? (i := 412) (by decide +kernel)⟩
theorem lw_p7 : lw_okq (⟨"CohereBench$StepList", "listComing", "(LCohereBench$Scene;I)V"⟩, 7) := ⟨⟨by decide +kernel, by decide +kernel⟩, List.mem_of_getElem? (i := 95) (by decide +kernel), List.mem_of_getElem? (i := 426) (by decide +kernel), List.mem_of_getElem? (i := 427) (by decide +kernel)⟩
theorem lw_p8 : lw_okq (⟨"CohereBench$Acting", "takeUp", "(LCohereBench$Scene;LCohereBench$StepList;I)V"⟩, 4) := ⟨⟨by decide +kernel, by decide +kernel⟩, List.mem_of_getElem? (i := 60) (by decide +kernel), List.mem_of_getElem? (i := 502) (by decide +kernel), List.mem_of_getElem? (i := 503) (by decide +kernel)⟩
theorem lw_p9 : lw_okq (⟨"CohereBench$Acting", "homeAct", "(LCohereBench$Scene;II)I"⟩, 4) := ⟨⟨by decide +kernel, by decide +kernel⟩, List.mem_of_getElem? (i := 60) (by decide +kernel), List.mem_of_getElem? (i := 530) (by decide +kernel), List.mem_of_getElem? (i := 531) (by decide +kernel)⟩
theorem lw_p10 : lw_okq (⟨"CohereBench$Acting", "send", "(LCohereBench$Scene;IIII)I"⟩, 4) := ⟨⟨by decide +kernel, by decide +kernel⟩, List.mem_of_getElem? (i := 60) (by decide +kernel), List.mem_of_getElem? (i := 538) (by decide +kernel), List.mem_of_getElem? (i := 539) (by decide +kernel)⟩
theorem lw_p11 : lw_okq (⟨"CohereBench$Acting", "cacheAct", "(LCohereBench$Scene;II)I"⟩, 4) := ⟨⟨by decide +kernel, by decide +kernel⟩, List.mem_of_getElem? (i := 60) (by decide +kernel), List.mem_of_getElem? (i := 566) (by decide +kernel), List.mem_of_getElem? (i := 567) (by decide +kernel)⟩
theorem lw_p12 : lw_okq (⟨"CohereBench$Atlas", "keepTrial", "(II)I"⟩, 17) := ⟨⟨by decide +kernel, by decide +kernel⟩, List.mem_of_getElem? (i := 123) (by decide +kernel), List.mem_of_getElem? (i := 641) (by decide +kernel), List.mem_of_getElem? (i := 642) (by decide +kernel)⟩
theorem lw_p13 : lw_okq (⟨"CohereBench$Shelf", "slotOf", "(JJJ)I"⟩, 5) := ⟨⟨by decide +kernel, by decide +kernel⟩, List.mem_of_getElem? (i := 133) (by decide +kernel), List.mem_of_getElem? (i := 661) (by decide +kernel), List.mem_of_getElem? (i := 662) (by decide +kernel)⟩
theorem lw_p14 : lw_okq (⟨"CohereBench$Scene", "loadHalf", "(IJ)V"⟩, 3) := ⟨⟨by decide +kernel, by decide +kernel⟩, List.mem_of_getElem? (i := 79) (by decide +kernel), List.mem_of_getElem? (i := 695) (by decide +kernel), List.mem_of_getElem? (i := 696) (by decide +kernel)⟩
theorem lw_p15 : lw_okq (⟨"CohereBench$Atlas", "tryStep", "(II)V"⟩, 17) := ⟨⟨by decide +kernel, by decide +kernel⟩, List.mem_of_getElem? (i := 123) (by decide +kernel), List.mem_of_getElem? (i := 711) (by decide +kernel), List.mem_of_getElem? (i := 712) (by decide +kernel)⟩
def lw_privs_1 : List (MethodName × Nat) := [(⟨"CohereBench$Scene", "setPart", "(III)V"⟩, 3), (⟨"CohereBench", "beginAnew", "()V"⟩, 7), (⟨"CohereBench$Protocol", "hasWait", "(I)Z"⟩, 8), (⟨"CohereBench", "countChoices", "()I"⟩, 7), (⟨"CohereBench$Scene", "part", "(II)I"⟩, 3), (⟨"CohereBench$StepList", "listOwn", "(LCohereBench$Scene;I)V"⟩, 7), (⟨"CohereBench$StepList", "add", "(IIIII)V"⟩, 7), (⟨"CohereBench$StepList", "listComing", "(LCohereBench$Scene;I)V"⟩, 7), (⟨"CohereBench$Acting", "takeUp", "(LCohereBench$Scene;LCohereBench$StepList;I)V"⟩, 4), (⟨"CohereBench$Acting", "homeAct", "(LCohereBench$Scene;II)I"⟩, 4), (⟨"CohereBench$Acting", "send", "(LCohereBench$Scene;IIII)I"⟩, 4), (⟨"CohereBench$Acting", "cacheAct", "(LCohereBench$Scene;II)I"⟩, 4), (⟨"CohereBench$Atlas", "keepTrial", "(II)I"⟩, 17), (⟨"CohereBench$Shelf", "slotOf", "(JJJ)I"⟩, 5), (⟨"CohereBench$Scene", "loadHalf", "(IJ)V"⟩, 3), (⟨"CohereBench$Atlas", "tryStep", "(II)V"⟩, 17)]
theorem lw_r1 : ∀ q ∈ lw_privs_1, lw_okq q := List.forall_mem_cons.mpr ⟨lw_p0, List.forall_mem_cons.mpr ⟨lw_p1, List.forall_mem_cons.mpr ⟨lw_p2, List.forall_mem_cons.mpr ⟨lw_p3, List.forall_mem_cons.mpr ⟨lw_p4, List.forall_mem_cons.mpr ⟨lw_p5, List.forall_mem_cons.mpr ⟨lw_p6, List.forall_mem_cons.mpr ⟨lw_p7, List.forall_mem_cons.mpr ⟨lw_p8, List.forall_mem_cons.mpr ⟨lw_p9, List.forall_mem_cons.mpr ⟨lw_p10, List.forall_mem_cons.mpr ⟨lw_p11, List.forall_mem_cons.mpr ⟨lw_p12, List.forall_mem_cons.mpr ⟨lw_p13, List.forall_mem_cons.mpr ⟨lw_p14, List.forall_mem_cons.mpr ⟨lw_p15, fun _ h => absurd h List.not_mem_nil⟩⟩⟩⟩⟩⟩⟩⟩⟩⟩⟩⟩⟩⟩⟩⟩
theorem lw_p16 : lw_okq (⟨"CohereBench$Atlas", "markUsed", "(I)V"⟩, 17) := ⟨⟨by decide +kernel, by decide +kernel⟩, List.mem_of_getElem? (i := 123) (by decide +kernel), List.mem_of_getElem? (i := 716) (by decide +kernel), List.mem_of_getElem? (i := 717) (by decide +kernel)⟩
theorem lw_p17 : lw_okq (⟨"CohereBench$Atlas", "greatestDepth", "()I"⟩, 17) := ⟨⟨by decide +kernel, by decide +kernel⟩, List.mem_of_getElem? (i := 123) (by decide +kernel), List.mem_of_getElem? (i := 769) (by decide +kernel), List.mem_of_getElem? (i := 770) (by decide +kernel)⟩
theorem lw_p18 : lw_okq (⟨"CohereBenchModel", "first", "()V"⟩, 35) := ⟨⟨by decide +kernel, by decide +kernel⟩, List.mem_of_getElem? (i := 843) (by decide +kernel), List.mem_of_getElem? (i := 851) (by decide +kernel), List.mem_of_getElem? (i := 852) (by decide +kernel)⟩
theorem lw_p19 : lw_okq (⟨"CohereBenchModel", "changed", "()V"⟩, 35) := ⟨⟨by decide +kernel, by decide +kernel⟩, List.mem_of_getElem? (i := 843) (by decide +kernel), List.mem_of_getElem? (i := 968) (by decide +kernel), List.mem_of_getElem? (i := 969) (by decide +kernel)⟩
theorem lw_p20 : lw_okq (⟨"CohereBenchModel", "toRun", "()V"⟩, 35) := ⟨⟨by decide +kernel, by decide +kernel⟩, List.mem_of_getElem? (i := 843) (by decide +kernel), List.mem_of_getElem? (i := 999) (by decide +kernel), List.mem_of_getElem? (i := 1000) (by decide +kernel)⟩
theorem lw_p21 : lw_okq (⟨"CohereBenchModel", "findSteps", "()V"⟩, 35) := ⟨⟨by decide +kernel, by decide +kernel⟩, List.mem_of_getElem? (i := 843) (by decide +kernel), List.mem_of_getElem? (i := 1003) (by decide +kernel), List.mem_of_getElem? (i := 1004) (by decide +kernel)⟩
theorem lw_p22 : lw_okq (⟨"CohereBenchModel", "waits", "(I)Z"⟩, 35) := ⟨⟨by decide +kernel, by decide +kernel⟩, List.mem_of_getElem? (i := 843) (by decide +kernel), List.mem_of_getElem? (i := 1007) (by decide +kernel), List.mem_of_getElem? (i := 1008) (by decide +kernel)⟩
theorem lw_p23 : lw_okq (⟨"CohereBenchModel", "addStep", "(IIII)V"⟩, 35) := ⟨⟨by decide +kernel, by decide +kernel⟩, List.mem_of_getElem? (i := 843) (by decide +kernel), List.mem_of_getElem? (i := 1011) (by decide +kernel), List.mem_of_getElem? (i := 1012) (by decide +kernel)⟩
theorem lw_p24 : lw_okq (⟨"CohereBenchModel", "letterAt", "(II)I"⟩, 35) := ⟨⟨by decide +kernel, by decide +kernel⟩, List.mem_of_getElem? (i := 843) (by decide +kernel), List.mem_of_getElem? (i := 1015) (by decide +kernel), List.mem_of_getElem? (i := 1016) (by decide +kernel)⟩
theorem lw_p25 : lw_okq (⟨"CohereBenchModel", "rowOfLetter", "(I)I"⟩, 35) := ⟨⟨by decide +kernel, by decide +kernel⟩, List.mem_of_getElem? (i := 843) (by decide +kernel), List.mem_of_getElem? (i := 1019) (by decide +kernel), List.mem_of_getElem? (i := 1020) (by decide +kernel)⟩
theorem lw_p26 : lw_okq (⟨"CohereBenchModel", "doStep", "(I)I"⟩, 35) := ⟨⟨by decide +kernel, by decide +kernel⟩, List.mem_of_getElem? (i := 843) (by decide +kernel), List.mem_of_getElem? (i := 1035) (by decide +kernel), List.mem_of_getElem? (i := 1036) (by decide +kernel)⟩
theorem lw_p27 : lw_okq (⟨"CohereBenchModel", "takeLetter", "(I)V"⟩, 35) := ⟨⟨by decide +kernel, by decide +kernel⟩, List.mem_of_getElem? (i := 843) (by decide +kernel), List.mem_of_getElem? (i := 1039) (by decide +kernel), List.mem_of_getElem? (i := 1040) (by decide +kernel)⟩
theorem lw_p28 : lw_okq (⟨"CohereBenchModel", "cacheActs", "(III)I"⟩, 35) := ⟨⟨by decide +kernel, by decide +kernel⟩, List.mem_of_getElem? (i := 843) (by decide +kernel), List.mem_of_getElem? (i := 1043) (by decide +kernel), List.mem_of_getElem? (i := 1044) (by decide +kernel)⟩
theorem lw_p29 : lw_okq (⟨"CohereBenchModel", "send", "(IIIII)Z"⟩, 35) := ⟨⟨by decide +kernel, by decide +kernel⟩, List.mem_of_getElem? (i := 843) (by decide +kernel), List.mem_of_getElem? (i := 1047) (by decide +kernel), List.mem_of_getElem? (i := 1048) (by decide +kernel)⟩
theorem lw_p30 : lw_okq (⟨"CohereBenchModel", "isAhead", "(IIIIII)Z"⟩, 35) := ⟨⟨by decide +kernel, by decide +kernel⟩, List.mem_of_getElem? (i := 843) (by decide +kernel), List.mem_of_getElem? (i := 1051) (by decide +kernel), List.mem_of_getElem? (i := 1052) (by decide +kernel)⟩
theorem lw_p31 : lw_okq (⟨"CohereBenchModel", "stale", "(I)V"⟩, 35) := ⟨⟨by decide +kernel, by decide +kernel⟩, List.mem_of_getElem? (i := 843) (by decide +kernel), List.mem_of_getElem? (i := 1058) (by decide +kernel), List.mem_of_getElem? (i := 1059) (by decide +kernel)⟩
def lw_privs_2 : List (MethodName × Nat) := [(⟨"CohereBench$Atlas", "markUsed", "(I)V"⟩, 17), (⟨"CohereBench$Atlas", "greatestDepth", "()I"⟩, 17), (⟨"CohereBenchModel", "first", "()V"⟩, 35), (⟨"CohereBenchModel", "changed", "()V"⟩, 35), (⟨"CohereBenchModel", "toRun", "()V"⟩, 35), (⟨"CohereBenchModel", "findSteps", "()V"⟩, 35), (⟨"CohereBenchModel", "waits", "(I)Z"⟩, 35), (⟨"CohereBenchModel", "addStep", "(IIII)V"⟩, 35), (⟨"CohereBenchModel", "letterAt", "(II)I"⟩, 35), (⟨"CohereBenchModel", "rowOfLetter", "(I)I"⟩, 35), (⟨"CohereBenchModel", "doStep", "(I)I"⟩, 35), (⟨"CohereBenchModel", "takeLetter", "(I)V"⟩, 35), (⟨"CohereBenchModel", "cacheActs", "(III)I"⟩, 35), (⟨"CohereBenchModel", "send", "(IIIII)Z"⟩, 35), (⟨"CohereBenchModel", "isAhead", "(IIIIII)Z"⟩, 35), (⟨"CohereBenchModel", "stale", "(I)V"⟩, 35)]
theorem lw_r2 : ∀ q ∈ lw_privs_2, lw_okq q := List.forall_mem_cons.mpr ⟨lw_p16, List.forall_mem_cons.mpr ⟨lw_p17, List.forall_mem_cons.mpr ⟨lw_p18, List.forall_mem_cons.mpr ⟨lw_p19, List.forall_mem_cons.mpr ⟨lw_p20, List.forall_mem_cons.mpr ⟨lw_p21, List.forall_mem_cons.mpr ⟨lw_p22, List.forall_mem_cons.mpr ⟨lw_p23, List.forall_mem_cons.mpr ⟨lw_p24, List.forall_mem_cons.mpr ⟨lw_p25, List.forall_mem_cons.mpr ⟨lw_p26, List.forall_mem_cons.mpr ⟨lw_p27, List.forall_mem_cons.mpr ⟨lw_p28, List.forall_mem_cons.mpr ⟨lw_p29, List.forall_mem_cons.mpr ⟨lw_p30, List.forall_mem_cons.mpr ⟨lw_p31, fun _ h => absurd h List.not_mem_nil⟩⟩⟩⟩⟩⟩⟩⟩⟩⟩⟩⟩⟩⟩⟩⟩
theorem lw_p32 : lw_okq (⟨"CohereBenchModel", "homeActs", "(II)I"⟩, 35) := ⟨⟨by decide +kernel, by decide +kernel⟩, List.mem_of_getElem? (i := 843) (by decide +kernel), List.mem_of_getElem? (i := 1062) (by decide +kernel), List.mem_of_getElem? (i := 1063) (by decide +kernel)⟩
theorem lw_p33 : lw_okq (⟨"CohereBenchModel", "badNow", "()I"⟩, 35) := ⟨⟨by decide +kernel, by decide +kernel⟩, List.mem_of_getElem? (i := 843) (by decide +kernel), List.mem_of_getElem? (i := 1078) (by decide +kernel), List.mem_of_getElem? (i := 1079) (by decide +kernel)⟩
theorem lw_p34 : lw_okq (⟨"CohereBenchModel", "isQuiet", "()Z"⟩, 35) := ⟨⟨by decide +kernel, by decide +kernel⟩, List.mem_of_getElem? (i := 843) (by decide +kernel), List.mem_of_getElem? (i := 1082) (by decide +kernel), List.mem_of_getElem? (i := 1083) (by decide +kernel)⟩
theorem lw_p35 : lw_okq (⟨"CohereBenchModel", "add", "(II)I"⟩, 35) := ⟨⟨by decide +kernel, by decide +kernel⟩, List.mem_of_getElem? (i := 843) (by decide +kernel), List.mem_of_getElem? (i := 1090) (by decide +kernel), List.mem_of_getElem? (i := 1091) (by decide +kernel)⟩
theorem lw_p36 : lw_okq (⟨"CohereBenchModel", "addBad", "(III)V"⟩, 35) := ⟨⟨by decide +kernel, by decide +kernel⟩, List.mem_of_getElem? (i := 843) (by decide +kernel), List.mem_of_getElem? (i := 1098) (by decide +kernel), List.mem_of_getElem? (i := 1099) (by decide +kernel)⟩
theorem lw_p37 : lw_okq (⟨"CohereBenchModel", "from", "(II)V"⟩, 35) := ⟨⟨by decide +kernel, by decide +kernel⟩, List.mem_of_getElem? (i := 843) (by decide +kernel), List.mem_of_getElem? (i := 1102) (by decide +kernel), List.mem_of_getElem? (i := 1103) (by decide +kernel)⟩
theorem lw_p38 : lw_okq (⟨"CohereBenchModel", "numberOf", "()I"⟩, 35) := ⟨⟨by decide +kernel, by decide +kernel⟩, List.mem_of_getElem? (i := 843) (by decide +kernel), List.mem_of_getElem? (i := 1106) (by decide +kernel), List.mem_of_getElem? (i := 1107) (by decide +kernel)⟩
theorem lw_p39 : lw_okq (⟨"CohereBenchModel", "lead", "()V"⟩, 35) := ⟨⟨by decide +kernel, by decide +kernel⟩, List.mem_of_getElem? (i := 843) (by decide +kernel), List.mem_of_getElem? (i := 1110) (by decide +kernel), List.mem_of_getElem? (i := 1111) (by decide +kernel)⟩
def lw_privs_3 : List (MethodName × Nat) := [(⟨"CohereBenchModel", "homeActs", "(II)I"⟩, 35), (⟨"CohereBenchModel", "badNow", "()I"⟩, 35), (⟨"CohereBenchModel", "isQuiet", "()Z"⟩, 35), (⟨"CohereBenchModel", "add", "(II)I"⟩, 35), (⟨"CohereBenchModel", "addBad", "(III)V"⟩, 35), (⟨"CohereBenchModel", "from", "(II)V"⟩, 35), (⟨"CohereBenchModel", "numberOf", "()I"⟩, 35), (⟨"CohereBenchModel", "lead", "()V"⟩, 35)]
theorem lw_r3 : ∀ q ∈ lw_privs_3, lw_okq q := List.forall_mem_cons.mpr ⟨lw_p32, List.forall_mem_cons.mpr ⟨lw_p33, List.forall_mem_cons.mpr ⟨lw_p34, List.forall_mem_cons.mpr ⟨lw_p35, List.forall_mem_cons.mpr ⟨lw_p36, List.forall_mem_cons.mpr ⟨lw_p37, List.forall_mem_cons.mpr ⟨lw_p38, List.forall_mem_cons.mpr ⟨lw_p39, fun _ h => absurd h List.not_mem_nil⟩⟩⟩⟩⟩⟩⟩⟩
def lw_privs : List (MethodName × Nat) := lw_privs_1 ++ (lw_privs_2 ++ (lw_privs_3))
def lw_tbl : List Cond := k2_sels lw_privs ++ tables_1
theorem lw_privs_ok : ∀ q ∈ lw_privs, lw_okq q := by
  show ∀ q ∈ lw_privs_1 ++ (lw_privs_2 ++ (lw_privs_3)), lw_okq q
  exact List.forall_mem_append.mpr ⟨lw_r1, List.forall_mem_append.mpr ⟨lw_r2, lw_r3⟩⟩

def RX0 : String := "CohereBench$Acting"
def TX0 : u_T := fun k => match k with
  | 0 => ("CohereBench$Acting", "protocol", "LCohereBench$Protocol;", true)
  | 1 => ("CohereBench$Acting", "self", "I", false)
  | 2 => ("CohereBench$Acting", "handFor", "I", false)
  | _ => ("CohereBench$Acting", "handFresh", "I", false)
def tyX0 : Nat → FieldType := fun k => match k with
  | 0 => .object "CohereBench$Protocol"
  | 1 => .int
  | 2 => .int
  | _ => .int
abbrev wsX00 : List Cond := u_ws RX0 TX0 4
theorem nmX0 : ∀ a, a < 4 → ∀ b, b < 4 → a ≠ b → (TX0 a).2.1 ≠ (TX0 b).2.1 := by decide +kernel
theorem tyX0_ok : ∀ k, k < 4 → parseFieldDescriptor (TX0 k).2.2.1 = some (tyX0 k) := by decide +kernel
abbrev cX0_init : ByteArray := prog_2_method_1_code
def yX0_init : MethodName := ⟨RX0, "<init>", "(LCohereBench$Protocol;)V"⟩
abbrev cX0_perform : ByteArray := prog_2_method_2_code
def yX0_perform : MethodName := ⟨RX0, "perform", "(LCohereBench$Scene;LCohereBench$StepList;I)I"⟩
abbrev cX0_takeUp : ByteArray := prog_2_method_3_code
def yX0_takeUp : MethodName := ⟨RX0, "takeUp", "(LCohereBench$Scene;LCohereBench$StepList;I)V"⟩
abbrev cX0_cacheAct : ByteArray := prog_2_method_4_code
def yX0_cacheAct : MethodName := ⟨RX0, "cacheAct", "(LCohereBench$Scene;II)I"⟩
abbrev cX0_homeAct : ByteArray := prog_2_method_5_code
def yX0_homeAct : MethodName := ⟨RX0, "homeAct", "(LCohereBench$Scene;II)I"⟩
abbrev cX0_send : ByteArray := prog_2_method_6_code
def yX0_send : MethodName := ⟨RX0, "send", "(LCohereBench$Scene;IIII)I"⟩
def RX1 : String := "CohereBench$Atlas"
def TX1 : u_T := fun k => match k with
  | 0 => ("CohereBench$Atlas", "protocol", "LCohereBench$Protocol;", true)
  | 1 => ("CohereBench$Atlas", "acting", "LCohereBench$Acting;", true)
  | 2 => ("CohereBench$Atlas", "base", "LCohereBench$Scene;", true)
  | 3 => ("CohereBench$Atlas", "trial", "LCohereBench$Scene;", true)
  | 4 => ("CohereBench$Atlas", "choices", "LCohereBench$StepList;", true)
  | 5 => ("CohereBench$Atlas", "shelf", "LCohereBench$Shelf;", true)
  | 6 => ("CohereBench$Atlas", "bads", "LCohereBench$BadList;", true)
  | 7 => ("CohereBench$Atlas", "stuck", "LCohereBench$NumberList;", true)
  | 8 => ("CohereBench$Atlas", "lost", "LCohereBench$NumberList;", true)
  | 9 => ("CohereBench$Atlas", "backtrack", "LCohereBench$Backtrack;", true)
  | 10 => ("CohereBench$Atlas", "finders", "[I", true)
  | 11 => ("CohereBench$Atlas", "depths", "[I", true)
  | 12 => ("CohereBench$Atlas", "usedRows", "[I", true)
  | 13 => ("CohereBench$Atlas", "room", "I", false)
  | 14 => ("CohereBench$Atlas", "tried", "I", false)
  | 15 => ("CohereBench$Atlas", "quiet", "I", false)
  | _ => ("CohereBench$Atlas", "spent", "Z", false)
def tyX1 : Nat → FieldType := fun k => match k with
  | 0 => .object "CohereBench$Protocol"
  | 1 => .object "CohereBench$Acting"
  | 2 => .object "CohereBench$Scene"
  | 3 => .object "CohereBench$Scene"
  | 4 => .object "CohereBench$StepList"
  | 5 => .object "CohereBench$Shelf"
  | 6 => .object "CohereBench$BadList"
  | 7 => .object "CohereBench$NumberList"
  | 8 => .object "CohereBench$NumberList"
  | 9 => .object "CohereBench$Backtrack"
  | 10 => .array .int
  | 11 => .array .int
  | 12 => .array .int
  | 13 => .int
  | 14 => .int
  | 15 => .int
  | _ => .boolean
abbrev wsX10 : List Cond := u_ws RX1 TX1 17
theorem nmX1 : ∀ a, a < 17 → ∀ b, b < 17 → a ≠ b → (TX1 a).2.1 ≠ (TX1 b).2.1 := by decide +kernel
theorem tyX1_ok : ∀ k, k < 17 → parseFieldDescriptor (TX1 k).2.2.1 = some (tyX1 k) := by decide +kernel
abbrev cX1_init : ByteArray := prog_3_method_1_code
def yX1_init : MethodName := ⟨RX1, "<init>", "(LCohereBench$Protocol;LCohereBench$Acting;)V"⟩
abbrev cX1_begin : ByteArray := prog_3_method_2_code
def yX1_begin : MethodName := ⟨RX1, "begin", "(I)V"⟩
abbrev cX1_visit : ByteArray := prog_3_method_3_code
def yX1_visit : MethodName := ⟨RX1, "visit", "(I)V"⟩
abbrev cX1_finish : ByteArray := prog_3_method_4_code
def yX1_finish : MethodName := ⟨RX1, "finish", "()V"⟩
abbrev cX1_tryStep : ByteArray := prog_3_method_5_code
def yX1_tryStep : MethodName := ⟨RX1, "tryStep", "(II)V"⟩
abbrev cX1_markUsed : ByteArray := prog_3_method_6_code
def yX1_markUsed : MethodName := ⟨RX1, "markUsed", "(I)V"⟩
abbrev cX1_keepTrial : ByteArray := prog_3_method_7_code
def yX1_keepTrial : MethodName := ⟨RX1, "keepTrial", "(II)I"⟩
abbrev cX1_figure : ByteArray := prog_3_method_8_code
def yX1_figure : MethodName := ⟨RX1, "figure", "(I)I"⟩
abbrev cX1_greatestDepth : ByteArray := prog_3_method_9_code
def yX1_greatestDepth : MethodName := ⟨RX1, "greatestDepth", "()I"⟩
abbrev cX1_countStates : ByteArray := prog_3_method_10_code
def yX1_countStates : MethodName := ⟨RX1, "countStates", "()I"⟩
abbrev cX1_isSpent : ByteArray := prog_3_method_11_code
def yX1_isSpent : MethodName := ⟨RX1, "isSpent", "()Z"⟩
abbrev cX1_hasState : ByteArray := prog_3_method_12_code
def yX1_hasState : MethodName := ⟨RX1, "hasState", "(I)Z"⟩
abbrev cX1_badAt : ByteArray := prog_3_method_13_code
def yX1_badAt : MethodName := ⟨RX1, "badAt", "(II)I"⟩
abbrev cX1_stuckAt : ByteArray := prog_3_method_14_code
def yX1_stuckAt : MethodName := ⟨RX1, "stuckAt", "(I)I"⟩
abbrev cX1_lostAt : ByteArray := prog_3_method_15_code
def yX1_lostAt : MethodName := ⟨RX1, "lostAt", "(I)I"⟩
abbrev cX1_depthOf : ByteArray := prog_3_method_16_code
def yX1_depthOf : MethodName := ⟨RX1, "depthOf", "(I)I"⟩
abbrev cX1_stepTowards : ByteArray := prog_3_method_17_code
def yX1_stepTowards : MethodName := ⟨RX1, "stepTowards", "(II)I"⟩
abbrev cX1_load : ByteArray := prog_3_method_18_code
def yX1_load : MethodName := ⟨RX1, "load", "(ILCohereBench$Scene;)V"⟩
abbrev cX1_numberOf : ByteArray := prog_3_method_19_code
def yX1_numberOf : MethodName := ⟨RX1, "numberOf", "(LCohereBench$Scene;)I"⟩
abbrev cX1_usedAt : ByteArray := prog_3_method_20_code
def yX1_usedAt : MethodName := ⟨RX1, "usedAt", "(I)I"⟩
def RX2 : String := "CohereBench$Backtrack"
def TX2 : u_T := fun k => match k with
  | 0 => ("CohereBench$Backtrack", "latestPaths", "[I", true)
  | 1 => ("CohereBench$Backtrack", "earlierPaths", "[I", true)
  | 2 => ("CohereBench$Backtrack", "leading", "[Z", true)
  | _ => ("CohereBench$Backtrack", "reached", "LCohereBench$NumberList;", true)
def tyX2 : Nat → FieldType := fun k => match k with
  | 0 => .array .int
  | 1 => .array .int
  | 2 => .array .boolean
  | _ => .object "CohereBench$NumberList"
abbrev wsX20 : List Cond := u_ws RX2 TX2 4
theorem nmX2 : ∀ a, a < 4 → ∀ b, b < 4 → a ≠ b → (TX2 a).2.1 ≠ (TX2 b).2.1 := by decide +kernel
theorem tyX2_ok : ∀ k, k < 4 → parseFieldDescriptor (TX2 k).2.2.1 = some (tyX2 k) := by decide +kernel
abbrev cX2_init : ByteArray := prog_4_method_1_code
def yX2_init : MethodName := ⟨RX2, "<init>", "()V"⟩
abbrev cX2_clear : ByteArray := prog_4_method_2_code
def yX2_clear : MethodName := ⟨RX2, "clear", "()V"⟩
abbrev cX2_addState : ByteArray := prog_4_method_3_code
def yX2_addState : MethodName := ⟨RX2, "addState", "(I)V"⟩
abbrev cX2_addPath : ByteArray := prog_4_method_4_code
def yX2_addPath : MethodName := ⟨RX2, "addPath", "(II)V"⟩
abbrev cX2_markLeading : ByteArray := prog_4_method_5_code
def yX2_markLeading : MethodName := ⟨RX2, "markLeading", "(I)V"⟩
abbrev cX2_isLeading : ByteArray := prog_4_method_6_code
def yX2_isLeading : MethodName := ⟨RX2, "isLeading", "(I)Z"⟩
abbrev cX2_spread : ByteArray := prog_4_method_7_code
def yX2_spread : MethodName := ⟨RX2, "spread", "()V"⟩
def RX3 : String := "CohereBench$BadList"
def TX3 : u_T := fun k => match k with
  | 0 => ("CohereBench$BadList", "hows", "[I", true)
  | 1 => ("CohereBench$BadList", "states", "[I", true)
  | 2 => ("CohereBench$BadList", "steps", "[I", true)
  | _ => ("CohereBench$BadList", "count", "I", false)
def tyX3 : Nat → FieldType := fun k => match k with
  | 0 => .array .int
  | 1 => .array .int
  | 2 => .array .int
  | _ => .int
abbrev wsX30 : List Cond := u_ws RX3 TX3 4
theorem nmX3 : ∀ a, a < 4 → ∀ b, b < 4 → a ≠ b → (TX3 a).2.1 ≠ (TX3 b).2.1 := by decide +kernel
theorem tyX3_ok : ∀ k, k < 4 → parseFieldDescriptor (TX3 k).2.2.1 = some (tyX3 k) := by decide +kernel
abbrev cX3_init : ByteArray := prog_5_method_1_code
def yX3_init : MethodName := ⟨RX3, "<init>", "()V"⟩
abbrev cX3_clear : ByteArray := prog_5_method_2_code
def yX3_clear : MethodName := ⟨RX3, "clear", "()V"⟩
abbrev cX3_count : ByteArray := prog_5_method_3_code
def yX3_count : MethodName := ⟨RX3, "count", "()I"⟩
abbrev cX3_add : ByteArray := prog_5_method_4_code
def yX3_add : MethodName := ⟨RX3, "add", "(III)V"⟩
abbrev cX3_ask : ByteArray := prog_5_method_5_code
def yX3_ask : MethodName := ⟨RX3, "ask", "(II)I"⟩
def RX4 : String := "CohereBench$Letter"
def TX4 : u_T := fun k => match k with
  | _ => ("", "", "", false)
def tyX4 : Nat → FieldType := fun k => match k with
  | _ => .int
abbrev wsX40 : List Cond := u_ws RX4 TX4 0
theorem nmX4 : ∀ a, a < 0 → ∀ b, b < 0 → a ≠ b → (TX4 a).2.1 ≠ (TX4 b).2.1 := by decide +kernel
theorem tyX4_ok : ∀ k, k < 0 → parseFieldDescriptor (TX4 k).2.2.1 = some (tyX4 k) := by decide +kernel
abbrev cX4_make : ByteArray := prog_6_method_2_code
def yX4_make : MethodName := ⟨RX4, "make", "(IIIIII)I"⟩
abbrev cX4_kindOf : ByteArray := prog_6_method_3_code
def yX4_kindOf : MethodName := ⟨RX4, "kindOf", "(I)I"⟩
abbrev cX4_fromOf : ByteArray := prog_6_method_4_code
def yX4_fromOf : MethodName := ⟨RX4, "fromOf", "(I)I"⟩
abbrev cX4_toOf : ByteArray := prog_6_method_5_code
def yX4_toOf : MethodName := ⟨RX4, "toOf", "(I)I"⟩
abbrev cX4_forOf : ByteArray := prog_6_method_6_code
def yX4_forOf : MethodName := ⟨RX4, "forOf", "(I)I"⟩
abbrev cX4_freshOf : ByteArray := prog_6_method_7_code
def yX4_freshOf : MethodName := ⟨RX4, "freshOf", "(I)I"⟩
abbrev cX4_staled : ByteArray := prog_6_method_8_code
def yX4_staled : MethodName := ⟨RX4, "staled", "(I)I"⟩
abbrev cX4_shareOrder : ByteArray := prog_6_method_9_code
def yX4_shareOrder : MethodName := ⟨RX4, "shareOrder", "(II)Z"⟩
abbrev cX4_lastAhead : ByteArray := prog_6_method_10_code
def yX4_lastAhead : MethodName := ⟨RX4, "lastAhead", "(I)I"⟩
def RX5 : String := "CohereBench$NumberList"
def TX5 : u_T := fun k => match k with
  | 0 => ("CohereBench$NumberList", "numbers", "[I", true)
  | _ => ("CohereBench$NumberList", "count", "I", false)
def tyX5 : Nat → FieldType := fun k => match k with
  | 0 => .array .int
  | _ => .int
abbrev wsX50 : List Cond := u_ws RX5 TX5 2
theorem nmX5 : ∀ a, a < 2 → ∀ b, b < 2 → a ≠ b → (TX5 a).2.1 ≠ (TX5 b).2.1 := by decide +kernel
theorem tyX5_ok : ∀ k, k < 2 → parseFieldDescriptor (TX5 k).2.2.1 = some (tyX5 k) := by decide +kernel
abbrev cX5_init : ByteArray := prog_7_method_1_code
def yX5_init : MethodName := ⟨RX5, "<init>", "()V"⟩
abbrev cX5_clear : ByteArray := prog_7_method_2_code
def yX5_clear : MethodName := ⟨RX5, "clear", "()V"⟩
abbrev cX5_count : ByteArray := prog_7_method_3_code
def yX5_count : MethodName := ⟨RX5, "count", "()I"⟩
abbrev cX5_add : ByteArray := prog_7_method_4_code
def yX5_add : MethodName := ⟨RX5, "add", "(I)V"⟩
abbrev cX5_at : ByteArray := prog_7_method_5_code
def yX5_at : MethodName := ⟨RX5, "at", "(I)I"⟩
def RX6 : String := "CohereBench$Protocol"
def TX6 : u_T := fun k => match k with
  | 0 => ("CohereBench$Protocol", "home", "I", false)
  | 1 => ("CohereBench$Protocol", "loose", "[I", true)
  | 2 => ("CohereBench$Protocol", "rights", "[I", true)
  | 3 => ("CohereBench$Protocol", "lengths", "[I", true)
  | 4 => ("CohereBench$Protocol", "firstActs", "[I", true)
  | 5 => ("CohereBench$Protocol", "laterActs", "[I", true)
  | 6 => ("CohereBench$Protocol", "waits", "[Z", true)
  | _ => ("CohereBench$Protocol", "rowCounts", "[I", true)
def tyX6 : Nat → FieldType := fun k => match k with
  | 0 => .int
  | 1 => .array .int
  | 2 => .array .int
  | 3 => .array .int
  | 4 => .array .int
  | 5 => .array .int
  | 6 => .array .boolean
  | _ => .array .int
abbrev wsX60 : List Cond := u_ws RX6 TX6 8
theorem nmX6 : ∀ a, a < 8 → ∀ b, b < 8 → a ≠ b → (TX6 a).2.1 ≠ (TX6 b).2.1 := by decide +kernel
theorem tyX6_ok : ∀ k, k < 8 → parseFieldDescriptor (TX6 k).2.2.1 = some (tyX6 k) := by decide +kernel
abbrev cX6_init : ByteArray := prog_8_method_1_code
def yX6_init : MethodName := ⟨RX6, "<init>", "()V"⟩
abbrev cX6_home : ByteArray := prog_8_method_2_code
def yX6_home : MethodName := ⟨RX6, "home", "()I"⟩
abbrev cX6_setHome : ByteArray := prog_8_method_3_code
def yX6_setHome : MethodName := ⟨RX6, "setHome", "(I)I"⟩
abbrev cX6_looseOf : ByteArray := prog_8_method_4_code
def yX6_looseOf : MethodName := ⟨RX6, "looseOf", "(I)I"⟩
abbrev cX6_setLoose : ByteArray := prog_8_method_5_code
def yX6_setLoose : MethodName := ⟨RX6, "setLoose", "(II)I"⟩
abbrev cX6_setRight : ByteArray := prog_8_method_6_code
def yX6_setRight : MethodName := ⟨RX6, "setRight", "(II)I"⟩
abbrev cX6_hasRow : ByteArray := prog_8_method_7_code
def yX6_hasRow : MethodName := ⟨RX6, "hasRow", "(I)Z"⟩
abbrev cX6_lengthOf : ByteArray := prog_8_method_8_code
def yX6_lengthOf : MethodName := ⟨RX6, "lengthOf", "(I)I"⟩
abbrev cX6_waitsAt : ByteArray := prog_8_method_9_code
def yX6_waitsAt : MethodName := ⟨RX6, "waitsAt", "(I)Z"⟩
abbrev cX6_countRows : ByteArray := prog_8_method_10_code
def yX6_countRows : MethodName := ⟨RX6, "countRows", "(I)I"⟩
abbrev cX6_putRow : ByteArray := prog_8_method_11_code
def yX6_putRow : MethodName := ⟨RX6, "putRow", "(IIII)I"⟩
abbrev cX6_dropRow : ByteArray := prog_8_method_12_code
def yX6_dropRow : MethodName := ⟨RX6, "dropRow", "(I)I"⟩
abbrev cX6_actOf : ByteArray := prog_8_method_13_code
def yX6_actOf : MethodName := ⟨RX6, "actOf", "(II)I"⟩
abbrev cX6_hasWait : ByteArray := prog_8_method_14_code
def yX6_hasWait : MethodName := ⟨RX6, "hasWait", "(I)Z"⟩
abbrev cX6_cachePlace : ByteArray := prog_8_method_15_code
def yX6_cachePlace : MethodName := ⟨RX6, "cachePlace", "(II)I"⟩
abbrev cX6_letterPlace : ByteArray := prog_8_method_16_code
def yX6_letterPlace : MethodName := ⟨RX6, "letterPlace", "(LCohereBench$Scene;I)I"⟩
abbrev cX6_badnessOf : ByteArray := prog_8_method_17_code
def yX6_badnessOf : MethodName := ⟨RX6, "badnessOf", "(LCohereBench$Scene;)I"⟩
def RX7 : String := "CohereBench$Scene"
def TX7 : u_T := fun k => match k with
  | 0 => ("CohereBench$Scene", "ends", "J", false)
  | 1 => ("CohereBench$Scene", "count", "I", false)
  | _ => ("CohereBench$Scene", "letters", "[I", true)
def tyX7 : Nat → FieldType := fun k => match k with
  | 0 => .long
  | 1 => .int
  | _ => .array .int
abbrev wsX70 : List Cond := u_ws RX7 TX7 3
theorem nmX7 : ∀ a, a < 3 → ∀ b, b < 3 → a ≠ b → (TX7 a).2.1 ≠ (TX7 b).2.1 := by decide +kernel
theorem tyX7_ok : ∀ k, k < 3 → parseFieldDescriptor (TX7 k).2.2.1 = some (tyX7 k) := by decide +kernel
abbrev cX7_init : ByteArray := prog_9_method_1_code
def yX7_init : MethodName := ⟨RX7, "<init>", "()V"⟩
abbrev cX7_begin : ByteArray := prog_9_method_2_code
def yX7_begin : MethodName := ⟨RX7, "begin", "(I)V"⟩
abbrev cX7_copy : ByteArray := prog_9_method_3_code
def yX7_copy : MethodName := ⟨RX7, "copy", "(LCohereBench$Scene;)V"⟩
abbrev cX7_stateOf : ByteArray := prog_9_method_4_code
def yX7_stateOf : MethodName := ⟨RX7, "stateOf", "(I)I"⟩
abbrev cX7_freshOf : ByteArray := prog_9_method_5_code
def yX7_freshOf : MethodName := ⟨RX7, "freshOf", "(I)I"⟩
abbrev cX7_wantOf : ByteArray := prog_9_method_6_code
def yX7_wantOf : MethodName := ⟨RX7, "wantOf", "(I)I"⟩
abbrev cX7_holders : ByteArray := prog_9_method_7_code
def yX7_holders : MethodName := ⟨RX7, "holders", "()I"⟩
abbrev cX7_setState : ByteArray := prog_9_method_8_code
def yX7_setState : MethodName := ⟨RX7, "setState", "(II)V"⟩
abbrev cX7_setFresh : ByteArray := prog_9_method_9_code
def yX7_setFresh : MethodName := ⟨RX7, "setFresh", "(II)V"⟩
abbrev cX7_setWant : ByteArray := prog_9_method_10_code
def yX7_setWant : MethodName := ⟨RX7, "setWant", "(II)V"⟩
abbrev cX7_setHolders : ByteArray := prog_9_method_11_code
def yX7_setHolders : MethodName := ⟨RX7, "setHolders", "(I)V"⟩
abbrev cX7_isQuiet : ByteArray := prog_9_method_12_code
def yX7_isQuiet : MethodName := ⟨RX7, "isQuiet", "()Z"⟩
abbrev cX7_letterCount : ByteArray := prog_9_method_13_code
def yX7_letterCount : MethodName := ⟨RX7, "letterCount", "()I"⟩
abbrev cX7_letterAt : ByteArray := prog_9_method_14_code
def yX7_letterAt : MethodName := ⟨RX7, "letterAt", "(I)I"⟩
abbrev cX7_isBehindAnother : ByteArray := prog_9_method_15_code
def yX7_isBehindAnother : MethodName := ⟨RX7, "isBehindAnother", "(I)Z"⟩
abbrev cX7_add : ByteArray := prog_9_method_16_code
def yX7_add : MethodName := ⟨RX7, "add", "(I)Z"⟩
abbrev cX7_take : ByteArray := prog_9_method_17_code
def yX7_take : MethodName := ⟨RX7, "take", "(I)I"⟩
abbrev cX7_storeAt : ByteArray := prog_9_method_18_code
def yX7_storeAt : MethodName := ⟨RX7, "storeAt", "(I)V"⟩
abbrev cX7_endsWord : ByteArray := prog_9_method_19_code
def yX7_endsWord : MethodName := ⟨RX7, "endsWord", "()J"⟩
abbrev cX7_lettersWord : ByteArray := prog_9_method_20_code
def yX7_lettersWord : MethodName := ⟨RX7, "lettersWord", "(I)J"⟩
abbrev cX7_load : ByteArray := prog_9_method_21_code
def yX7_load : MethodName := ⟨RX7, "load", "(JJJ)V"⟩
abbrev cX7_loadHalf : ByteArray := prog_9_method_22_code
def yX7_loadHalf : MethodName := ⟨RX7, "loadHalf", "(IJ)V"⟩
abbrev cX7_part : ByteArray := prog_9_method_23_code
def yX7_part : MethodName := ⟨RX7, "part", "(II)I"⟩
abbrev cX7_setPart : ByteArray := prog_9_method_24_code
def yX7_setPart : MethodName := ⟨RX7, "setPart", "(III)V"⟩
def RX8 : String := "CohereBench$Shelf"
def TX8 : u_T := fun k => match k with
  | 0 => ("CohereBench$Shelf", "ends", "[J", true)
  | 1 => ("CohereBench$Shelf", "lowLetters", "[J", true)
  | 2 => ("CohereBench$Shelf", "highLetters", "[J", true)
  | 3 => ("CohereBench$Shelf", "slots", "[I", true)
  | _ => ("CohereBench$Shelf", "count", "I", false)
def tyX8 : Nat → FieldType := fun k => match k with
  | 0 => .array .long
  | 1 => .array .long
  | 2 => .array .long
  | 3 => .array .int
  | _ => .int
abbrev wsX80 : List Cond := u_ws RX8 TX8 5
theorem nmX8 : ∀ a, a < 5 → ∀ b, b < 5 → a ≠ b → (TX8 a).2.1 ≠ (TX8 b).2.1 := by decide +kernel
theorem tyX8_ok : ∀ k, k < 5 → parseFieldDescriptor (TX8 k).2.2.1 = some (tyX8 k) := by decide +kernel
abbrev cX8_init : ByteArray := prog_10_method_1_code
def yX8_init : MethodName := ⟨RX8, "<init>", "()V"⟩
abbrev cX8_clear : ByteArray := prog_10_method_2_code
def yX8_clear : MethodName := ⟨RX8, "clear", "()V"⟩
abbrev cX8_count : ByteArray := prog_10_method_3_code
def yX8_count : MethodName := ⟨RX8, "count", "()I"⟩
abbrev cX8_find : ByteArray := prog_10_method_4_code
def yX8_find : MethodName := ⟨RX8, "find", "(LCohereBench$Scene;)I"⟩
abbrev cX8_keep : ByteArray := prog_10_method_5_code
def yX8_keep : MethodName := ⟨RX8, "keep", "(LCohereBench$Scene;)I"⟩
abbrev cX8_load : ByteArray := prog_10_method_6_code
def yX8_load : MethodName := ⟨RX8, "load", "(ILCohereBench$Scene;)V"⟩
abbrev cX8_slotOf : ByteArray := prog_10_method_7_code
def yX8_slotOf : MethodName := ⟨RX8, "slotOf", "(JJJ)I"⟩
abbrev cX8_startOf : ByteArray := prog_10_method_8_code
def yX8_startOf : MethodName := ⟨RX8, "startOf", "(JJJ)I"⟩
def RX9 : String := "CohereBench$StepList"
def TX9 : u_T := fun k => match k with
  | 0 => ("CohereBench$StepList", "protocol", "LCohereBench$Protocol;", true)
  | 1 => ("CohereBench$StepList", "ends", "[I", true)
  | 2 => ("CohereBench$StepList", "events", "[I", true)
  | 3 => ("CohereBench$StepList", "senders", "[I", true)
  | 4 => ("CohereBench$StepList", "letters", "[I", true)
  | 5 => ("CohereBench$StepList", "places", "[I", true)
  | _ => ("CohereBench$StepList", "count", "I", false)
def tyX9 : Nat → FieldType := fun k => match k with
  | 0 => .object "CohereBench$Protocol"
  | 1 => .array .int
  | 2 => .array .int
  | 3 => .array .int
  | 4 => .array .int
  | 5 => .array .int
  | _ => .int
abbrev wsX90 : List Cond := u_ws RX9 TX9 7
theorem nmX9 : ∀ a, a < 7 → ∀ b, b < 7 → a ≠ b → (TX9 a).2.1 ≠ (TX9 b).2.1 := by decide +kernel
theorem tyX9_ok : ∀ k, k < 7 → parseFieldDescriptor (TX9 k).2.2.1 = some (tyX9 k) := by decide +kernel
abbrev cX9_init : ByteArray := prog_11_method_1_code
def yX9_init : MethodName := ⟨RX9, "<init>", "(LCohereBench$Protocol;)V"⟩
abbrev cX9_count : ByteArray := prog_11_method_2_code
def yX9_count : MethodName := ⟨RX9, "count", "()I"⟩
abbrev cX9_endOf : ByteArray := prog_11_method_3_code
def yX9_endOf : MethodName := ⟨RX9, "endOf", "(I)I"⟩
abbrev cX9_eventOf : ByteArray := prog_11_method_4_code
def yX9_eventOf : MethodName := ⟨RX9, "eventOf", "(I)I"⟩
abbrev cX9_senderOf : ByteArray := prog_11_method_5_code
def yX9_senderOf : MethodName := ⟨RX9, "senderOf", "(I)I"⟩
abbrev cX9_letterOf : ByteArray := prog_11_method_6_code
def yX9_letterOf : MethodName := ⟨RX9, "letterOf", "(I)I"⟩
abbrev cX9_placeAt : ByteArray := prog_11_method_7_code
def yX9_placeAt : MethodName := ⟨RX9, "placeAt", "(I)I"⟩
abbrev cX9_list : ByteArray := prog_11_method_8_code
def yX9_list : MethodName := ⟨RX9, "list", "(LCohereBench$Scene;)V"⟩
abbrev cX9_listOwn : ByteArray := prog_11_method_9_code
def yX9_listOwn : MethodName := ⟨RX9, "listOwn", "(LCohereBench$Scene;I)V"⟩
abbrev cX9_listComing : ByteArray := prog_11_method_10_code
def yX9_listComing : MethodName := ⟨RX9, "listComing", "(LCohereBench$Scene;I)V"⟩
abbrev cX9_add : ByteArray := prog_11_method_11_code
def yX9_add : MethodName := ⟨RX9, "add", "(IIIII)V"⟩
def RX10 : String := "CohereBench"
def TX10 : u_T := fun k => match k with
  | 0 => ("CohereBench", "protocol", "LCohereBench$Protocol;", true)
  | 1 => ("CohereBench", "acting", "LCohereBench$Acting;", true)
  | 2 => ("CohereBench", "run", "LCohereBench$Scene;", true)
  | 3 => ("CohereBench", "trial", "LCohereBench$Scene;", true)
  | 4 => ("CohereBench", "choices", "LCohereBench$StepList;", true)
  | 5 => ("CohereBench", "atlas", "LCohereBench$Atlas;", true)
  | _ => ("CohereBench", "atlasHolds", "Z", false)
def tyX10 : Nat → FieldType := fun k => match k with
  | 0 => .object "CohereBench$Protocol"
  | 1 => .object "CohereBench$Acting"
  | 2 => .object "CohereBench$Scene"
  | 3 => .object "CohereBench$Scene"
  | 4 => .object "CohereBench$StepList"
  | 5 => .object "CohereBench$Atlas"
  | _ => .boolean
abbrev wsX100 : List Cond := u_ws RX10 TX10 7
theorem nmX10 : ∀ a, a < 7 → ∀ b, b < 7 → a ≠ b → (TX10 a).2.1 ≠ (TX10 b).2.1 := by decide +kernel
theorem tyX10_ok : ∀ k, k < 7 → parseFieldDescriptor (TX10 k).2.2.1 = some (tyX10 k) := by decide +kernel
abbrev cX10_init : ByteArray := prog_1_method_1_code
def yX10_init : MethodName := ⟨RX10, "<init>", "()V"⟩
abbrev cX10_processors : ByteArray := prog_1_method_2_code
def yX10_processors : MethodName := ⟨RX10, "processors", "(I)I"⟩
abbrev cX10_net : ByteArray := prog_1_method_3_code
def yX10_net : MethodName := ⟨RX10, "net", "(II)I"⟩
abbrev cX10_right : ByteArray := prog_1_method_4_code
def yX10_right : MethodName := ⟨RX10, "right", "(II)I"⟩
abbrev cX10_row : ByteArray := prog_1_method_5_code
def yX10_row : MethodName := ⟨RX10, "row", "(III)I"⟩
abbrev cX10_tear : ByteArray := prog_1_method_6_code
def yX10_tear : MethodName := ⟨RX10, "tear", "(I)I"⟩
abbrev cX10_rows : ByteArray := prog_1_method_7_code
def yX10_rows : MethodName := ⟨RX10, "rows", "(I)I"⟩
abbrev cX10_reset : ByteArray := prog_1_method_8_code
def yX10_reset : MethodName := ⟨RX10, "reset", "()I"⟩
abbrev cX10_steps : ByteArray := prog_1_method_9_code
def yX10_steps : MethodName := ⟨RX10, "steps", "()I"⟩
abbrev cX10_step : ByteArray := prog_1_method_10_code
def yX10_step : MethodName := ⟨RX10, "step", "(II)I"⟩
abbrev cX10_choose : ByteArray := prog_1_method_11_code
def yX10_choose : MethodName := ⟨RX10, "choose", "(I)I"⟩
abbrev cX10_end : ByteArray := prog_1_method_12_code
def yX10_end : MethodName := ⟨RX10, "end", "(II)I"⟩
abbrev cX10_letter : ByteArray := prog_1_method_13_code
def yX10_letter : MethodName := ⟨RX10, "letter", "(II)I"⟩
abbrev cX10_now : ByteArray := prog_1_method_14_code
def yX10_now : MethodName := ⟨RX10, "now", "(I)I"⟩
abbrev cX10_walk : ByteArray := prog_1_method_15_code
def yX10_walk : MethodName := ⟨RX10, "walk", "(I)I"⟩
abbrev cX10_walked : ByteArray := prog_1_method_16_code
def yX10_walked : MethodName := ⟨RX10, "walked", "(I)I"⟩
abbrev cX10_bad : ByteArray := prog_1_method_17_code
def yX10_bad : MethodName := ⟨RX10, "bad", "(II)I"⟩
abbrev cX10_found : ByteArray := prog_1_method_18_code
def yX10_found : MethodName := ⟨RX10, "found", "(II)I"⟩
abbrev cX10_far : ByteArray := prog_1_method_19_code
def yX10_far : MethodName := ⟨RX10, "far", "(I)I"⟩
abbrev cX10_way : ByteArray := prog_1_method_20_code
def yX10_way : MethodName := ⟨RX10, "way", "(II)I"⟩
abbrev cX10_go : ByteArray := prog_1_method_21_code
def yX10_go : MethodName := ⟨RX10, "go", "(I)I"⟩
abbrev cX10_number : ByteArray := prog_1_method_22_code
def yX10_number : MethodName := ⟨RX10, "number", "()I"⟩
abbrev cX10_used : ByteArray := prog_1_method_23_code
def yX10_used : MethodName := ⟨RX10, "used", "(I)I"⟩
abbrev cX10_beginAnew : ByteArray := prog_1_method_24_code
def yX10_beginAnew : MethodName := ⟨RX10, "beginAnew", "()V"⟩
abbrev cX10_countChoices : ByteArray := prog_1_method_25_code
def yX10_countChoices : MethodName := ⟨RX10, "countChoices", "()I"⟩
abbrev cX10_placeOf : ByteArray := prog_1_method_26_code
def yX10_placeOf : MethodName := ⟨RX10, "placeOf", "(I)I"⟩
abbrev cX10_sideOf : ByteArray := prog_1_method_27_code
def yX10_sideOf : MethodName := ⟨RX10, "sideOf", "(I)I"⟩
def RX11 : String := "CohereBenchModel"
def TX11 : u_T := fun k => match k with
  | 0 => ("CohereBenchModel", "processors", "I", false)
  | 1 => ("CohereBenchModel", "loose", "[I", true)
  | 2 => ("CohereBenchModel", "right", "[I", true)
  | 3 => ("CohereBenchModel", "actMany", "[I", true)
  | 4 => ("CohereBenchModel", "acts", "[I", true)
  | 5 => ("CohereBenchModel", "isUsed", "[Z", true)
  | 6 => ("CohereBenchModel", "now", "[I", true)
  | 7 => ("CohereBenchModel", "run", "[I", true)
  | 8 => ("CohereBenchModel", "kept", "[I", true)
  | 9 => ("CohereBenchModel", "handKind", "I", false)
  | 10 => ("CohereBenchModel", "handFor", "I", false)
  | 11 => ("CohereBenchModel", "handData", "I", false)
  | 12 => ("CohereBenchModel", "stepWho", "[I", true)
  | 13 => ("CohereBenchModel", "stepEvent", "[I", true)
  | 14 => ("CohereBenchModel", "stepFrom", "[I", true)
  | 15 => ("CohereBenchModel", "stepLetter", "[I", true)
  | 16 => ("CohereBenchModel", "stepMany", "I", false)
  | 17 => ("CohereBenchModel", "states", "[I", true)
  | 18 => ("CohereBenchModel", "sums", "[J", true)
  | 19 => ("CohereBenchModel", "parent", "[I", true)
  | 20 => ("CohereBenchModel", "parentStep", "[I", true)
  | 21 => ("CohereBenchModel", "far", "[I", true)
  | 22 => ("CohereBenchModel", "next", "[I", true)
  | 23 => ("CohereBenchModel", "isStuck", "[Z", true)
  | 24 => ("CohereBenchModel", "leads", "[Z", true)
  | 25 => ("CohereBenchModel", "many", "I", false)
  | 26 => ("CohereBenchModel", "tried", "I", false)
  | 27 => ("CohereBenchModel", "bads", "I", false)
  | 28 => ("CohereBenchModel", "badHow", "[I", true)
  | 29 => ("CohereBenchModel", "badState", "[I", true)
  | 30 => ("CohereBenchModel", "badStep", "[I", true)
  | 31 => ("CohereBenchModel", "quiet", "I", false)
  | 32 => ("CohereBenchModel", "isSpent", "Z", false)
  | 33 => ("CohereBenchModel", "isChanged", "Z", false)
  | _ => ("CohereBenchModel", "usedRow", "I", false)
def tyX11 : Nat → FieldType := fun k => match k with
  | 0 => .int
  | 1 => .array .int
  | 2 => .array .int
  | 3 => .array .int
  | 4 => .array .int
  | 5 => .array .boolean
  | 6 => .array .int
  | 7 => .array .int
  | 8 => .array .int
  | 9 => .int
  | 10 => .int
  | 11 => .int
  | 12 => .array .int
  | 13 => .array .int
  | 14 => .array .int
  | 15 => .array .int
  | 16 => .int
  | 17 => .array .int
  | 18 => .array .long
  | 19 => .array .int
  | 20 => .array .int
  | 21 => .array .int
  | 22 => .array .int
  | 23 => .array .boolean
  | 24 => .array .boolean
  | 25 => .int
  | 26 => .int
  | 27 => .int
  | 28 => .array .int
  | 29 => .array .int
  | 30 => .array .int
  | 31 => .int
  | 32 => .boolean
  | 33 => .boolean
  | _ => .int
abbrev wsX110 : List Cond := u_ws RX11 TX11 35
theorem nmX11 : ∀ a, a < 35 → ∀ b, b < 35 → a ≠ b → (TX11 a).2.1 ≠ (TX11 b).2.1 := by decide +kernel
theorem tyX11_ok : ∀ k, k < 35 → parseFieldDescriptor (TX11 k).2.2.1 = some (tyX11 k) := by decide +kernel
abbrev cX11_init : ByteArray := prog_13_method_1_code
def yX11_init : MethodName := ⟨RX11, "<init>", "()V"⟩
abbrev cX11_copy : ByteArray := prog_13_method_2_code
def yX11_copy : MethodName := ⟨RX11, "copy", "([II[II)V"⟩
abbrev cX11_first : ByteArray := prog_13_method_3_code
def yX11_first : MethodName := ⟨RX11, "first", "()V"⟩
abbrev cX11_changed : ByteArray := prog_13_method_4_code
def yX11_changed : MethodName := ⟨RX11, "changed", "()V"⟩
abbrev cX11_processors : ByteArray := prog_13_method_5_code
def yX11_processors : MethodName := ⟨RX11, "processors", "(I)I"⟩
abbrev cX11_net : ByteArray := prog_13_method_6_code
def yX11_net : MethodName := ⟨RX11, "net", "(II)I"⟩
abbrev cX11_right : ByteArray := prog_13_method_7_code
def yX11_right : MethodName := ⟨RX11, "right", "(II)I"⟩
abbrev cX11_placeOf : ByteArray := prog_13_method_8_code
def yX11_placeOf : MethodName := ⟨RX11, "placeOf", "(I)I"⟩
abbrev cX11_row : ByteArray := prog_13_method_9_code
def yX11_row : MethodName := ⟨RX11, "row", "(III)I"⟩
abbrev cX11_tear : ByteArray := prog_13_method_10_code
def yX11_tear : MethodName := ⟨RX11, "tear", "(I)I"⟩
abbrev cX11_rows : ByteArray := prog_13_method_11_code
def yX11_rows : MethodName := ⟨RX11, "rows", "(I)I"⟩
abbrev cX11_letterAt : ByteArray := prog_13_method_12_code
def yX11_letterAt : MethodName := ⟨RX11, "letterAt", "(II)I"⟩
abbrev cX11_rowOfLetter : ByteArray := prog_13_method_13_code
def yX11_rowOfLetter : MethodName := ⟨RX11, "rowOfLetter", "(I)I"⟩
abbrev cX11_waits : ByteArray := prog_13_method_14_code
def yX11_waits : MethodName := ⟨RX11, "waits", "(I)Z"⟩
abbrev cX11_addStep : ByteArray := prog_13_method_15_code
def yX11_addStep : MethodName := ⟨RX11, "addStep", "(IIII)V"⟩
abbrev cX11_findSteps : ByteArray := prog_13_method_16_code
def yX11_findSteps : MethodName := ⟨RX11, "findSteps", "()V"⟩
abbrev cX11_compareLetters : ByteArray := prog_13_method_17_code
def yX11_compareLetters : MethodName := ⟨RX11, "compareLetters", "(II)I"⟩
abbrev cX11_isAhead : ByteArray := prog_13_method_18_code
def yX11_isAhead : MethodName := ⟨RX11, "isAhead", "(IIIIII)Z"⟩
abbrev cX11_send : ByteArray := prog_13_method_19_code
def yX11_send : MethodName := ⟨RX11, "send", "(IIIII)Z"⟩
abbrev cX11_takeLetter : ByteArray := prog_13_method_20_code
def yX11_takeLetter : MethodName := ⟨RX11, "takeLetter", "(I)V"⟩
abbrev cX11_stale : ByteArray := prog_13_method_21_code
def yX11_stale : MethodName := ⟨RX11, "stale", "(I)V"⟩
abbrev cX11_cacheActs : ByteArray := prog_13_method_22_code
def yX11_cacheActs : MethodName := ⟨RX11, "cacheActs", "(III)I"⟩
abbrev cX11_homeActs : ByteArray := prog_13_method_23_code
def yX11_homeActs : MethodName := ⟨RX11, "homeActs", "(II)I"⟩
abbrev cX11_doStep : ByteArray := prog_13_method_24_code
def yX11_doStep : MethodName := ⟨RX11, "doStep", "(I)I"⟩
abbrev cX11_badNow : ByteArray := prog_13_method_25_code
def yX11_badNow : MethodName := ⟨RX11, "badNow", "()I"⟩
abbrev cX11_isQuiet : ByteArray := prog_13_method_26_code
def yX11_isQuiet : MethodName := ⟨RX11, "isQuiet", "()Z"⟩
abbrev cX11_toRun : ByteArray := prog_13_method_27_code
def yX11_toRun : MethodName := ⟨RX11, "toRun", "()V"⟩
abbrev cX11_reset : ByteArray := prog_13_method_28_code
def yX11_reset : MethodName := ⟨RX11, "reset", "()I"⟩
abbrev cX11_steps : ByteArray := prog_13_method_29_code
def yX11_steps : MethodName := ⟨RX11, "steps", "()I"⟩
abbrev cX11_step : ByteArray := prog_13_method_30_code
def yX11_step : MethodName := ⟨RX11, "step", "(II)I"⟩
abbrev cX11_choose : ByteArray := prog_13_method_31_code
def yX11_choose : MethodName := ⟨RX11, "choose", "(I)I"⟩
abbrev cX11_end : ByteArray := prog_13_method_32_code
def yX11_end : MethodName := ⟨RX11, "end", "(II)I"⟩
abbrev cX11_letter : ByteArray := prog_13_method_33_code
def yX11_letter : MethodName := ⟨RX11, "letter", "(II)I"⟩
abbrev cX11_now : ByteArray := prog_13_method_34_code
def yX11_now : MethodName := ⟨RX11, "now", "(I)I"⟩
abbrev cX11_sumOf : ByteArray := prog_13_method_35_code
def yX11_sumOf : MethodName := ⟨RX11, "sumOf", "([I)J"⟩
abbrev cX11_numberOf : ByteArray := prog_13_method_36_code
def yX11_numberOf : MethodName := ⟨RX11, "numberOf", "()I"⟩
abbrev cX11_addBad : ByteArray := prog_13_method_37_code
def yX11_addBad : MethodName := ⟨RX11, "addBad", "(III)V"⟩
abbrev cX11_add : ByteArray := prog_13_method_38_code
def yX11_add : MethodName := ⟨RX11, "add", "(II)I"⟩
abbrev cX11_walk : ByteArray := prog_13_method_39_code
def yX11_walk : MethodName := ⟨RX11, "walk", "(I)I"⟩
abbrev cX11_from : ByteArray := prog_13_method_40_code
def yX11_from : MethodName := ⟨RX11, "from", "(II)V"⟩
abbrev cX11_lead : ByteArray := prog_13_method_41_code
def yX11_lead : MethodName := ⟨RX11, "lead", "()V"⟩
abbrev cX11_walked : ByteArray := prog_13_method_42_code
def yX11_walked : MethodName := ⟨RX11, "walked", "(I)I"⟩
abbrev cX11_bad : ByteArray := prog_13_method_43_code
def yX11_bad : MethodName := ⟨RX11, "bad", "(II)I"⟩
abbrev cX11_found : ByteArray := prog_13_method_44_code
def yX11_found : MethodName := ⟨RX11, "found", "(II)I"⟩
abbrev cX11_far : ByteArray := prog_13_method_45_code
def yX11_far : MethodName := ⟨RX11, "far", "(I)I"⟩
abbrev cX11_way : ByteArray := prog_13_method_46_code
def yX11_way : MethodName := ⟨RX11, "way", "(II)I"⟩
abbrev cX11_go : ByteArray := prog_13_method_47_code
def yX11_go : MethodName := ⟨RX11, "go", "(I)I"⟩
abbrev cX11_number : ByteArray := prog_13_method_48_code
def yX11_number : MethodName := ⟨RX11, "number", "()I"⟩
abbrev cX11_used : ByteArray := prog_13_method_49_code
def yX11_used : MethodName := ⟨RX11, "used", "(I)I"⟩
def RJ10 : String := "java/lang/System"
def TJ10 : u_T := fun k => match k with
  | _ => ("", "", "", false)
def tyJ10 : Nat → FieldType := fun k => match k with
  | _ => .int
abbrev wsJ100 : List Cond := u_ws RJ10 TJ10 0
theorem nmJ10 : ∀ a, a < 0 → ∀ b, b < 0 → a ≠ b → (TJ10 a).2.1 ≠ (TJ10 b).2.1 := by decide +kernel
theorem tyJ10_ok : ∀ k, k < 0 → parseFieldDescriptor (TJ10 k).2.2.1 = some (tyJ10 k) := by decide +kernel
def RJ7 : String := "java/util/Arrays"
def TJ7 : u_T := fun k => match k with
  | _ => ("", "", "", false)
def tyJ7 : Nat → FieldType := fun k => match k with
  | _ => .int
abbrev wsJ70 : List Cond := u_ws RJ7 TJ7 0
theorem nmJ7 : ∀ a, a < 0 → ∀ b, b < 0 → a ≠ b → (TJ7 a).2.1 ≠ (TJ7 b).2.1 := by decide +kernel
theorem tyJ7_ok : ∀ k, k < 0 → parseFieldDescriptor (TJ7 k).2.2.1 = some (tyJ7 k) := by decide +kernel
abbrev cJ7_fill_53178 : ByteArray := prog_15_method_103_code
def yJ7_fill_53178 : MethodName := ⟨RJ7, "fill", "([II)V"⟩
def RL : String := "CohereBenchLaw"
abbrev cL_law : ByteArray := code
def yL_law : MethodName := ⟨RL, "law", "([I)Z"⟩
/-! infos of methods, classes, links -/
abbrev MI : Type := MethodName × ByteArray × Nat × Option FieldType × Nat × Nat × Nat × Nat
abbrev mY (M : MI) : MethodName := M.1
abbrev mB (M : MI) : ByteArray := M.2.1
abbrev mL (M : MI) : Nat := M.2.2.1
abbrev mR (M : MI) : Option FieldType := M.2.2.2.1
abbrev mF (M : MI) : Nat := M.2.2.2.2.1
abbrev mO (M : MI) : Nat := M.2.2.2.2.2.1
abbrev mC (M : MI) : Nat := M.2.2.2.2.2.2.1
abbrev mS (M : MI) : Nat := M.2.2.2.2.2.2.2
abbrev mRm (M : MI) : Room := { frames := mF M, cells := mC M, slots := mS M, locals := mO M }
def tb : List Cond := lw_tbl.filter goodWord
theorem tb_at {w : Cond} (i : Nat) (h : lw_tbl[i]? = some w) (g : goodWord w = true) : w ∈ tb := List.mem_filter.mpr ⟨List.mem_of_getElem? h, g⟩
theorem tb_good {ws : List Cond} (h : ∀ w ∈ ws, w ∈ tb) : GoodIn tb ws := fun w hw => ⟨h w hw, good_of_word (List.mem_filter.mp (h w hw)).2⟩
theorem tb_in {ws : List Cond} (ps : List Nat) (hp : ws = ps.filterMap (fun i => lw_tbl[i]?)) (g : ws.all goodWord = true) : ∀ w ∈ ws, w ∈ tb := by
  intro w hw
  refine List.mem_filter.mpr ⟨?_, List.all_eq_true.mp g w hw⟩
  rw [hp] at hw
  obtain ⟨i, -, hi⟩ := List.mem_filterMap.mp hw
  exact List.mem_of_getElem? hi
abbrev vwCl : List vw_C := [(RX0, TX0, 4), (RX1, TX1, 17), (RX2, TX2, 4), (RX3, TX3, 4), (RX5, TX5, 2), (RX6, TX6, 8), (RX7, TX7, 3), (RX8, TX8, 5), (RX9, TX9, 7), (RX10, TX10, 7), (RX11, TX11, 35)]
def CiOk (ci : Nat) (C : String) (T : u_T) (N : Nat) (ty : Nat → FieldType) : Prop := vwCl[ci]? = some (C, T, N) ∧ (∀ w ∈ u_ws C T N, w ∈ tb) ∧ (∀ k, k < N → parseFieldDescriptor (T k).2.2.1 = some (ty k)) ∧ (∀ a, a < N → ∀ b, b < N → a ≠ b → (T a).2.1 ≠ (T b).2.1) ∧ Cond.instantiable C N ∈ tb ∧ Cond.initialized C ∈ tb
theorem ci_0 : CiOk 0 RX0 TX0 4 tyX0 := ⟨rfl, tb_in [109, 111, 113, 115] (by decide +kernel) (by decide +kernel), tyX0_ok, nmX0, tb_at 100 (by decide +kernel) rfl, tb_at 44 (by decide +kernel) rfl⟩
theorem ci_1 : CiOk 1 RX1 TX1 17 tyX1 := ⟨rfl, tb_in [266, 268, 270, 272, 274, 276, 278, 280, 282, 284, 286, 288, 290, 292, 294, 296, 298] (by decide +kernel) (by decide +kernel), tyX1_ok, nmX1, tb_at 163 (by decide +kernel) rfl, tb_at 47 (by decide +kernel) rfl⟩
theorem ci_2 : CiOk 2 RX2 TX2 4 tyX2 := ⟨rfl, tb_in [240, 242, 244, 246] (by decide +kernel) (by decide +kernel), tyX2_ok, nmX2, tb_at 228 (by decide +kernel) rfl, tb_at 51 (by decide +kernel) rfl⟩
theorem ci_3 : CiOk 3 RX3 TX3 4 tyX3 := ⟨rfl, tb_in [205, 207, 209, 211] (by decide +kernel) (by decide +kernel), tyX3_ok, nmX3, tb_at 196 (by decide +kernel) rfl, tb_at 49 (by decide +kernel) rfl⟩
theorem ci_4 : CiOk 4 RX5 TX5 2 tyX5 := ⟨rfl, tb_in [222, 224] (by decide +kernel) (by decide +kernel), tyX5_ok, nmX5, tb_at 215 (by decide +kernel) rfl, tb_at 50 (by decide +kernel) rfl⟩
theorem ci_5 : CiOk 5 RX6 TX6 8 tyX6 := ⟨rfl, tb_in [80, 82, 84, 86, 88, 90, 92, 94] (by decide +kernel) (by decide +kernel), tyX6_ok, nmX6, tb_at 64 (by decide +kernel) rfl, tb_at 42 (by decide +kernel) rfl⟩
theorem ci_6 : CiOk 6 RX7 TX7 3 tyX7 := ⟨rfl, tb_in [127, 129, 131] (by decide +kernel) (by decide +kernel), tyX7_ok, nmX7, tb_at 119 (by decide +kernel) rfl, tb_at 45 (by decide +kernel) rfl⟩
theorem ci_7 : CiOk 7 RX8 TX8 5 tyX8 := ⟨rfl, tb_in [183, 185, 187, 189, 191] (by decide +kernel) (by decide +kernel), tyX8_ok, nmX8, tb_at 173 (by decide +kernel) rfl, tb_at 48 (by decide +kernel) rfl⟩
theorem ci_8 : CiOk 8 RX9 TX9 7 tyX9 := ⟨rfl, tb_in [147, 149, 151, 153, 155, 157, 159] (by decide +kernel) (by decide +kernel), tyX9_ok, nmX9, tb_at 135 (by decide +kernel) rfl, tb_at 46 (by decide +kernel) rfl⟩
theorem ci_9 : CiOk 9 RX10 TX10 7 tyX10 := ⟨rfl, tb_in [326, 328, 330, 332, 334, 336, 338] (by decide +kernel) (by decide +kernel), tyX10_ok, nmX10, tb_at 56 (by decide +kernel) rfl, tb_at 41 (by decide +kernel) rfl⟩
theorem ci_10 : CiOk 10 RX11 TX11 35 tyX11 := ⟨rfl, tb_in [932, 934, 936, 938, 940, 942, 944, 946, 948, 950, 952, 954, 956, 958, 960, 962, 964, 966, 968, 970, 972, 974, 976, 978, 980, 982, 984, 986, 988, 990, 992, 994, 996, 998, 1000] (by decide +kernel) (by decide +kernel), tyX11_ok, nmX11, tb_at 883 (by decide +kernel) rfl, tb_at 52 (by decide +kernel) rfl⟩
/-- a field's link: the place of the field, its type, whether it is final -/
def Fl (own : String) (idx ci k : Nat) (ty : FieldType) (fin : Bool) : Prop := ∃ (C : String) (T : u_T) (N : Nat) (tf : Nat → FieldType), CiOk ci C T N tf ∧ k < N ∧ Cond.fieldLink own idx (T k).1 (T k).2.1 (T k).2.2.1 ∈ tb ∧ tf k = ty ∧ (T k).2.2.2 = fin ∧ (T k).1 = C
theorem fl_X10_12 : Fl RX10 12 9 0 (.object "CohereBench$Protocol") true := ⟨RX10, TX10, 7, tyX10, ci_9, by decide, tb_at 319 (by decide +kernel) rfl, rfl, rfl, rfl⟩
theorem fl_X10_21 : Fl RX10 21 9 1 (.object "CohereBench$Acting") true := ⟨RX10, TX10, 7, tyX10, ci_9, by decide, tb_at 320 (by decide +kernel) rfl, rfl, rfl, rfl⟩
theorem fl_X10_28 : Fl RX10 28 9 2 (.object "CohereBench$Scene") true := ⟨RX10, TX10, 7, tyX10, ci_9, by decide, tb_at 321 (by decide +kernel) rfl, rfl, rfl, rfl⟩
theorem fl_X10_32 : Fl RX10 32 9 3 (.object "CohereBench$Scene") true := ⟨RX10, TX10, 7, tyX10, ci_9, by decide, tb_at 322 (by decide +kernel) rfl, rfl, rfl, rfl⟩
theorem fl_X10_38 : Fl RX10 38 9 4 (.object "CohereBench$StepList") true := ⟨RX10, TX10, 7, tyX10, ci_9, by decide, tb_at 323 (by decide +kernel) rfl, rfl, rfl, rfl⟩
theorem fl_X10_47 : Fl RX10 47 9 5 (.object "CohereBench$Atlas") true := ⟨RX10, TX10, 7, tyX10, ci_9, by decide, tb_at 324 (by decide +kernel) rfl, rfl, rfl, rfl⟩
theorem fl_X10_51 : Fl RX10 51 9 6 .boolean false := ⟨RX10, TX10, 7, tyX10, ci_9, by decide, tb_at 325 (by decide +kernel) rfl, rfl, rfl, rfl⟩
theorem fl_X0_9 : Fl RX0 9 0 0 (.object "CohereBench$Protocol") true := ⟨RX0, TX0, 4, tyX0, ci_0, by decide, tb_at 105 (by decide +kernel) rfl, rfl, rfl, rfl⟩
theorem fl_X0_15 : Fl RX0 15 0 1 .int false := ⟨RX0, TX0, 4, tyX0, ci_0, by decide, tb_at 106 (by decide +kernel) rfl, rfl, rfl, rfl⟩
theorem fl_X0_19 : Fl RX0 19 0 2 .int false := ⟨RX0, TX0, 4, tyX0, ci_0, by decide, tb_at 107 (by decide +kernel) rfl, rfl, rfl, rfl⟩
theorem fl_X0_22 : Fl RX0 22 0 3 .int false := ⟨RX0, TX0, 4, tyX0, ci_0, by decide, tb_at 108 (by decide +kernel) rfl, rfl, rfl, rfl⟩
theorem fl_X1_9 : Fl RX1 9 1 0 (.object "CohereBench$Protocol") true := ⟨RX1, TX1, 17, tyX1, ci_1, by decide, tb_at 249 (by decide +kernel) rfl, rfl, rfl, rfl⟩
theorem fl_X1_15 : Fl RX1 15 1 1 (.object "CohereBench$Acting") true := ⟨RX1, TX1, 17, tyX1, ci_1, by decide, tb_at 250 (by decide +kernel) rfl, rfl, rfl, rfl⟩
theorem fl_X1_22 : Fl RX1 22 1 2 (.object "CohereBench$Scene") true := ⟨RX1, TX1, 17, tyX1, ci_1, by decide, tb_at 251 (by decide +kernel) rfl, rfl, rfl, rfl⟩
theorem fl_X1_26 : Fl RX1 26 1 3 (.object "CohereBench$Scene") true := ⟨RX1, TX1, 17, tyX1, ci_1, by decide, tb_at 252 (by decide +kernel) rfl, rfl, rfl, rfl⟩
theorem fl_X1_34 : Fl RX1 34 1 4 (.object "CohereBench$StepList") true := ⟨RX1, TX1, 17, tyX1, ci_1, by decide, tb_at 253 (by decide +kernel) rfl, rfl, rfl, rfl⟩
theorem fl_X1_41 : Fl RX1 41 1 5 (.object "CohereBench$Shelf") true := ⟨RX1, TX1, 17, tyX1, ci_1, by decide, tb_at 254 (by decide +kernel) rfl, rfl, rfl, rfl⟩
theorem fl_X1_48 : Fl RX1 48 1 6 (.object "CohereBench$BadList") true := ⟨RX1, TX1, 17, tyX1, ci_1, by decide, tb_at 255 (by decide +kernel) rfl, rfl, rfl, rfl⟩
theorem fl_X1_55 : Fl RX1 55 1 7 (.object "CohereBench$NumberList") true := ⟨RX1, TX1, 17, tyX1, ci_1, by decide, tb_at 256 (by decide +kernel) rfl, rfl, rfl, rfl⟩
theorem fl_X1_59 : Fl RX1 59 1 8 (.object "CohereBench$NumberList") true := ⟨RX1, TX1, 17, tyX1, ci_1, by decide, tb_at 257 (by decide +kernel) rfl, rfl, rfl, rfl⟩
theorem fl_X1_65 : Fl RX1 65 1 9 (.object "CohereBench$Backtrack") true := ⟨RX1, TX1, 17, tyX1, ci_1, by decide, tb_at 258 (by decide +kernel) rfl, rfl, rfl, rfl⟩
theorem fl_X1_69 : Fl RX1 69 1 10 (.array .int) true := ⟨RX1, TX1, 17, tyX1, ci_1, by decide, tb_at 259 (by decide +kernel) rfl, rfl, rfl, rfl⟩
theorem fl_X1_73 : Fl RX1 73 1 11 (.array .int) true := ⟨RX1, TX1, 17, tyX1, ci_1, by decide, tb_at 260 (by decide +kernel) rfl, rfl, rfl, rfl⟩
theorem fl_X1_76 : Fl RX1 76 1 12 (.array .int) true := ⟨RX1, TX1, 17, tyX1, ci_1, by decide, tb_at 261 (by decide +kernel) rfl, rfl, rfl, rfl⟩
theorem fl_X1_79 : Fl RX1 79 1 13 .int false := ⟨RX1, TX1, 17, tyX1, ci_1, by decide, tb_at 262 (by decide +kernel) rfl, rfl, rfl, rfl⟩
theorem fl_X1_83 : Fl RX1 83 1 14 .int false := ⟨RX1, TX1, 17, tyX1, ci_1, by decide, tb_at 263 (by decide +kernel) rfl, rfl, rfl, rfl⟩
theorem fl_X1_86 : Fl RX1 86 1 15 .int false := ⟨RX1, TX1, 17, tyX1, ci_1, by decide, tb_at 264 (by decide +kernel) rfl, rfl, rfl, rfl⟩
theorem fl_X1_89 : Fl RX1 89 1 16 .boolean false := ⟨RX1, TX1, 17, tyX1, ci_1, by decide, tb_at 265 (by decide +kernel) rfl, rfl, rfl, rfl⟩
theorem fl_X2_9 : Fl RX2 9 2 0 (.array .int) true := ⟨RX2, TX2, 4, tyX2, ci_2, by decide, tb_at 236 (by decide +kernel) rfl, rfl, rfl, rfl⟩
theorem fl_X2_16 : Fl RX2 16 2 1 (.array .int) true := ⟨RX2, TX2, 4, tyX2, ci_2, by decide, tb_at 237 (by decide +kernel) rfl, rfl, rfl, rfl⟩
theorem fl_X2_19 : Fl RX2 19 2 2 (.array .boolean) true := ⟨RX2, TX2, 4, tyX2, ci_2, by decide, tb_at 238 (by decide +kernel) rfl, rfl, rfl, rfl⟩
theorem fl_X2_26 : Fl RX2 26 2 3 (.object "CohereBench$NumberList") true := ⟨RX2, TX2, 4, tyX2, ci_2, by decide, tb_at 239 (by decide +kernel) rfl, rfl, rfl, rfl⟩
theorem fl_X3_9 : Fl RX3 9 3 0 (.array .int) true := ⟨RX3, TX3, 4, tyX3, ci_3, by decide, tb_at 201 (by decide +kernel) rfl, rfl, rfl, rfl⟩
theorem fl_X3_15 : Fl RX3 15 3 1 (.array .int) true := ⟨RX3, TX3, 4, tyX3, ci_3, by decide, tb_at 202 (by decide +kernel) rfl, rfl, rfl, rfl⟩
theorem fl_X3_18 : Fl RX3 18 3 2 (.array .int) true := ⟨RX3, TX3, 4, tyX3, ci_3, by decide, tb_at 203 (by decide +kernel) rfl, rfl, rfl, rfl⟩
theorem fl_X3_21 : Fl RX3 21 3 3 .int false := ⟨RX3, TX3, 4, tyX3, ci_3, by decide, tb_at 204 (by decide +kernel) rfl, rfl, rfl, rfl⟩
theorem fl_X5_9 : Fl RX5 9 4 0 (.array .int) true := ⟨RX5, TX5, 2, tyX5, ci_4, by decide, tb_at 220 (by decide +kernel) rfl, rfl, rfl, rfl⟩
theorem fl_X5_15 : Fl RX5 15 4 1 .int false := ⟨RX5, TX5, 2, tyX5, ci_4, by decide, tb_at 221 (by decide +kernel) rfl, rfl, rfl, rfl⟩
theorem fl_X6_9 : Fl RX6 9 5 0 .int false := ⟨RX6, TX6, 8, tyX6, ci_5, by decide, tb_at 72 (by decide +kernel) rfl, rfl, rfl, rfl⟩
theorem fl_X6_15 : Fl RX6 15 5 1 (.array .int) true := ⟨RX6, TX6, 8, tyX6, ci_5, by decide, tb_at 73 (by decide +kernel) rfl, rfl, rfl, rfl⟩
theorem fl_X6_19 : Fl RX6 19 5 2 (.array .int) true := ⟨RX6, TX6, 8, tyX6, ci_5, by decide, tb_at 74 (by decide +kernel) rfl, rfl, rfl, rfl⟩
theorem fl_X6_22 : Fl RX6 22 5 3 (.array .int) true := ⟨RX6, TX6, 8, tyX6, ci_5, by decide, tb_at 75 (by decide +kernel) rfl, rfl, rfl, rfl⟩
theorem fl_X6_25 : Fl RX6 25 5 4 (.array .int) true := ⟨RX6, TX6, 8, tyX6, ci_5, by decide, tb_at 76 (by decide +kernel) rfl, rfl, rfl, rfl⟩
theorem fl_X6_28 : Fl RX6 28 5 5 (.array .int) true := ⟨RX6, TX6, 8, tyX6, ci_5, by decide, tb_at 77 (by decide +kernel) rfl, rfl, rfl, rfl⟩
theorem fl_X6_31 : Fl RX6 31 5 6 (.array .boolean) true := ⟨RX6, TX6, 8, tyX6, ci_5, by decide, tb_at 78 (by decide +kernel) rfl, rfl, rfl, rfl⟩
theorem fl_X6_35 : Fl RX6 35 5 7 (.array .int) true := ⟨RX6, TX6, 8, tyX6, ci_5, by decide, tb_at 79 (by decide +kernel) rfl, rfl, rfl, rfl⟩
theorem fl_X7_11 : Fl RX7 11 6 0 .long false := ⟨RX7, TX7, 3, tyX7, ci_6, by decide, tb_at 124 (by decide +kernel) rfl, rfl, rfl, rfl⟩
theorem fl_X7_15 : Fl RX7 15 6 1 .int false := ⟨RX7, TX7, 3, tyX7, ci_6, by decide, tb_at 125 (by decide +kernel) rfl, rfl, rfl, rfl⟩
theorem fl_X7_19 : Fl RX7 19 6 2 (.array .int) true := ⟨RX7, TX7, 3, tyX7, ci_6, by decide, tb_at 126 (by decide +kernel) rfl, rfl, rfl, rfl⟩
theorem fl_X8_11 : Fl RX8 11 7 0 (.array .long) true := ⟨RX8, TX8, 5, tyX8, ci_7, by decide, tb_at 178 (by decide +kernel) rfl, rfl, rfl, rfl⟩
theorem fl_X8_15 : Fl RX8 15 7 1 (.array .long) true := ⟨RX8, TX8, 5, tyX8, ci_7, by decide, tb_at 179 (by decide +kernel) rfl, rfl, rfl, rfl⟩
theorem fl_X8_18 : Fl RX8 18 7 2 (.array .long) true := ⟨RX8, TX8, 5, tyX8, ci_7, by decide, tb_at 180 (by decide +kernel) rfl, rfl, rfl, rfl⟩
theorem fl_X8_21 : Fl RX8 21 7 3 (.array .int) true := ⟨RX8, TX8, 5, tyX8, ci_7, by decide, tb_at 181 (by decide +kernel) rfl, rfl, rfl, rfl⟩
theorem fl_X8_25 : Fl RX8 25 7 4 .int false := ⟨RX8, TX8, 5, tyX8, ci_7, by decide, tb_at 182 (by decide +kernel) rfl, rfl, rfl, rfl⟩
theorem fl_X9_9 : Fl RX9 9 8 0 (.object "CohereBench$Protocol") true := ⟨RX9, TX9, 7, tyX9, ci_8, by decide, tb_at 140 (by decide +kernel) rfl, rfl, rfl, rfl⟩
theorem fl_X9_15 : Fl RX9 15 8 1 (.array .int) true := ⟨RX9, TX9, 7, tyX9, ci_8, by decide, tb_at 141 (by decide +kernel) rfl, rfl, rfl, rfl⟩
theorem fl_X9_19 : Fl RX9 19 8 2 (.array .int) true := ⟨RX9, TX9, 7, tyX9, ci_8, by decide, tb_at 142 (by decide +kernel) rfl, rfl, rfl, rfl⟩
theorem fl_X9_22 : Fl RX9 22 8 3 (.array .int) true := ⟨RX9, TX9, 7, tyX9, ci_8, by decide, tb_at 143 (by decide +kernel) rfl, rfl, rfl, rfl⟩
theorem fl_X9_25 : Fl RX9 25 8 4 (.array .int) true := ⟨RX9, TX9, 7, tyX9, ci_8, by decide, tb_at 144 (by decide +kernel) rfl, rfl, rfl, rfl⟩
theorem fl_X9_28 : Fl RX9 28 8 5 (.array .int) true := ⟨RX9, TX9, 7, tyX9, ci_8, by decide, tb_at 145 (by decide +kernel) rfl, rfl, rfl, rfl⟩
theorem fl_X9_31 : Fl RX9 31 8 6 .int false := ⟨RX9, TX9, 7, tyX9, ci_8, by decide, tb_at 146 (by decide +kernel) rfl, rfl, rfl, rfl⟩
theorem fl_X11_7 : Fl RX11 7 10 0 .int false := ⟨RX11, TX11, 35, tyX11, ci_10, by decide, tb_at 897 (by decide +kernel) rfl, rfl, rfl, rfl⟩
theorem fl_X11_13 : Fl RX11 13 10 1 (.array .int) true := ⟨RX11, TX11, 35, tyX11, ci_10, by decide, tb_at 898 (by decide +kernel) rfl, rfl, rfl, rfl⟩
theorem fl_X11_17 : Fl RX11 17 10 2 (.array .int) true := ⟨RX11, TX11, 35, tyX11, ci_10, by decide, tb_at 899 (by decide +kernel) rfl, rfl, rfl, rfl⟩
theorem fl_X11_20 : Fl RX11 20 10 3 (.array .int) true := ⟨RX11, TX11, 35, tyX11, ci_10, by decide, tb_at 900 (by decide +kernel) rfl, rfl, rfl, rfl⟩
theorem fl_X11_23 : Fl RX11 23 10 4 (.array .int) true := ⟨RX11, TX11, 35, tyX11, ci_10, by decide, tb_at 901 (by decide +kernel) rfl, rfl, rfl, rfl⟩
theorem fl_X11_26 : Fl RX11 26 10 5 (.array .boolean) true := ⟨RX11, TX11, 35, tyX11, ci_10, by decide, tb_at 902 (by decide +kernel) rfl, rfl, rfl, rfl⟩
theorem fl_X11_30 : Fl RX11 30 10 6 (.array .int) true := ⟨RX11, TX11, 35, tyX11, ci_10, by decide, tb_at 903 (by decide +kernel) rfl, rfl, rfl, rfl⟩
theorem fl_X11_33 : Fl RX11 33 10 7 (.array .int) true := ⟨RX11, TX11, 35, tyX11, ci_10, by decide, tb_at 904 (by decide +kernel) rfl, rfl, rfl, rfl⟩
theorem fl_X11_36 : Fl RX11 36 10 8 (.array .int) true := ⟨RX11, TX11, 35, tyX11, ci_10, by decide, tb_at 905 (by decide +kernel) rfl, rfl, rfl, rfl⟩
theorem fl_X11_39 : Fl RX11 39 10 12 (.array .int) true := ⟨RX11, TX11, 35, tyX11, ci_10, by decide, tb_at 909 (by decide +kernel) rfl, rfl, rfl, rfl⟩
theorem fl_X11_42 : Fl RX11 42 10 13 (.array .int) true := ⟨RX11, TX11, 35, tyX11, ci_10, by decide, tb_at 910 (by decide +kernel) rfl, rfl, rfl, rfl⟩
theorem fl_X11_45 : Fl RX11 45 10 14 (.array .int) true := ⟨RX11, TX11, 35, tyX11, ci_10, by decide, tb_at 911 (by decide +kernel) rfl, rfl, rfl, rfl⟩
theorem fl_X11_48 : Fl RX11 48 10 15 (.array .int) true := ⟨RX11, TX11, 35, tyX11, ci_10, by decide, tb_at 912 (by decide +kernel) rfl, rfl, rfl, rfl⟩
theorem fl_X11_52 : Fl RX11 52 10 17 (.array .int) true := ⟨RX11, TX11, 35, tyX11, ci_10, by decide, tb_at 914 (by decide +kernel) rfl, rfl, rfl, rfl⟩
theorem fl_X11_55 : Fl RX11 55 10 18 (.array .long) true := ⟨RX11, TX11, 35, tyX11, ci_10, by decide, tb_at 915 (by decide +kernel) rfl, rfl, rfl, rfl⟩
theorem fl_X11_59 : Fl RX11 59 10 19 (.array .int) true := ⟨RX11, TX11, 35, tyX11, ci_10, by decide, tb_at 916 (by decide +kernel) rfl, rfl, rfl, rfl⟩
theorem fl_X11_62 : Fl RX11 62 10 20 (.array .int) true := ⟨RX11, TX11, 35, tyX11, ci_10, by decide, tb_at 917 (by decide +kernel) rfl, rfl, rfl, rfl⟩
theorem fl_X11_65 : Fl RX11 65 10 21 (.array .int) true := ⟨RX11, TX11, 35, tyX11, ci_10, by decide, tb_at 918 (by decide +kernel) rfl, rfl, rfl, rfl⟩
theorem fl_X11_69 : Fl RX11 69 10 22 (.array .int) true := ⟨RX11, TX11, 35, tyX11, ci_10, by decide, tb_at 919 (by decide +kernel) rfl, rfl, rfl, rfl⟩
theorem fl_X11_72 : Fl RX11 72 10 23 (.array .boolean) true := ⟨RX11, TX11, 35, tyX11, ci_10, by decide, tb_at 920 (by decide +kernel) rfl, rfl, rfl, rfl⟩
theorem fl_X11_75 : Fl RX11 75 10 24 (.array .boolean) true := ⟨RX11, TX11, 35, tyX11, ci_10, by decide, tb_at 921 (by decide +kernel) rfl, rfl, rfl, rfl⟩
theorem fl_X11_78 : Fl RX11 78 10 28 (.array .int) true := ⟨RX11, TX11, 35, tyX11, ci_10, by decide, tb_at 925 (by decide +kernel) rfl, rfl, rfl, rfl⟩
theorem fl_X11_81 : Fl RX11 81 10 29 (.array .int) true := ⟨RX11, TX11, 35, tyX11, ci_10, by decide, tb_at 926 (by decide +kernel) rfl, rfl, rfl, rfl⟩
theorem fl_X11_84 : Fl RX11 84 10 30 (.array .int) true := ⟨RX11, TX11, 35, tyX11, ci_10, by decide, tb_at 927 (by decide +kernel) rfl, rfl, rfl, rfl⟩
theorem fl_X11_87 : Fl RX11 87 10 33 .boolean false := ⟨RX11, TX11, 35, tyX11, ci_10, by decide, tb_at 930 (by decide +kernel) rfl, rfl, rfl, rfl⟩
theorem fl_X11_109 : Fl RX11 109 10 16 .int false := ⟨RX11, TX11, 35, tyX11, ci_10, by decide, tb_at 913 (by decide +kernel) rfl, rfl, rfl, rfl⟩
theorem fl_X11_130 : Fl RX11 130 10 9 .int false := ⟨RX11, TX11, 35, tyX11, ci_10, by decide, tb_at 906 (by decide +kernel) rfl, rfl, rfl, rfl⟩
theorem fl_X11_133 : Fl RX11 133 10 10 .int false := ⟨RX11, TX11, 35, tyX11, ci_10, by decide, tb_at 907 (by decide +kernel) rfl, rfl, rfl, rfl⟩
theorem fl_X11_136 : Fl RX11 136 10 11 .int false := ⟨RX11, TX11, 35, tyX11, ci_10, by decide, tb_at 908 (by decide +kernel) rfl, rfl, rfl, rfl⟩
theorem fl_X11_150 : Fl RX11 150 10 34 .int false := ⟨RX11, TX11, 35, tyX11, ci_10, by decide, tb_at 931 (by decide +kernel) rfl, rfl, rfl, rfl⟩
theorem fl_X11_183 : Fl RX11 183 10 25 .int false := ⟨RX11, TX11, 35, tyX11, ci_10, by decide, tb_at 922 (by decide +kernel) rfl, rfl, rfl, rfl⟩
theorem fl_X11_186 : Fl RX11 186 10 27 .int false := ⟨RX11, TX11, 35, tyX11, ci_10, by decide, tb_at 924 (by decide +kernel) rfl, rfl, rfl, rfl⟩
theorem fl_X11_189 : Fl RX11 189 10 31 .int false := ⟨RX11, TX11, 35, tyX11, ci_10, by decide, tb_at 928 (by decide +kernel) rfl, rfl, rfl, rfl⟩
theorem fl_X11_196 : Fl RX11 196 10 26 .int false := ⟨RX11, TX11, 35, tyX11, ci_10, by decide, tb_at 923 (by decide +kernel) rfl, rfl, rfl, rfl⟩
theorem fl_X11_199 : Fl RX11 199 10 32 .boolean false := ⟨RX11, TX11, 35, tyX11, ci_10, by decide, tb_at 929 (by decide +kernel) rfl, rfl, rfl, rfl⟩
abbrev mX0_init : MI := (yX0_init, cX0_init, 2, none, 1, 20, 0, 0)
abbrev mX0_perform : MI := (yX0_perform, cX0_perform, 10, (some .int), 4, 94, 0, 0)
abbrev mX0_takeUp : MI := (yX0_takeUp, cX0_takeUp, 5, none, 2, 45, 0, 0)
abbrev mX0_cacheAct : MI := (yX0_cacheAct, cX0_cacheAct, 4, (some .int), 3, 71, 0, 0)
abbrev mX0_homeAct : MI := (yX0_homeAct, cX0_homeAct, 4, (some .int), 3, 71, 0, 0)
abbrev mX0_send : MI := (yX0_send, cX0_send, 9, (some .int), 2, 43, 0, 0)
abbrev mX1_init : MI := (yX1_init, cX1_init, 3, none, 3, 60, 32, 130988)
abbrev mX1_begin : MI := (yX1_begin, cX1_begin, 2, none, 4, 102, 0, 0)
abbrev mX1_visit : MI := (yX1_visit, cX1_visit, 3, none, 6, 148, 0, 0)
abbrev mX1_finish : MI := (yX1_finish, cX1_finish, 2, none, 3, 65, 0, 0)
abbrev mX1_tryStep : MI := (yX1_tryStep, cX1_tryStep, 6, none, 5, 123, 0, 0)
abbrev mX1_markUsed : MI := (yX1_markUsed, cX1_markUsed, 2, none, 1, 21, 0, 0)
abbrev mX1_keepTrial : MI := (yX1_keepTrial, cX1_keepTrial, 5, (some .int), 3, 78, 0, 0)
abbrev mX1_figure : MI := (yX1_figure, cX1_figure, 2, (some .int), 2, 41, 0, 0)
abbrev mX1_greatestDepth : MI := (yX1_greatestDepth, cX1_greatestDepth, 2, (some .int), 1, 20, 0, 0)
abbrev mX1_countStates : MI := (yX1_countStates, cX1_countStates, 1, (some .int), 1, 20, 0, 0)
abbrev mX1_isSpent : MI := (yX1_isSpent, cX1_isSpent, 1, (some .boolean), 0, 0, 0, 0)
abbrev mX1_hasState : MI := (yX1_hasState, cX1_hasState, 2, (some .boolean), 1, 20, 0, 0)
abbrev mX1_badAt : MI := (yX1_badAt, cX1_badAt, 3, (some .int), 1, 22, 0, 0)
abbrev mX1_stuckAt : MI := (yX1_stuckAt, cX1_stuckAt, 2, (some .int), 1, 21, 0, 0)
abbrev mX1_lostAt : MI := (yX1_lostAt, cX1_lostAt, 2, (some .int), 1, 21, 0, 0)
abbrev mX1_depthOf : MI := (yX1_depthOf, cX1_depthOf, 2, (some .int), 0, 0, 0, 0)
abbrev mX1_stepTowards : MI := (yX1_stepTowards, cX1_stepTowards, 5, (some .int), 0, 0, 0, 0)
abbrev mX1_load : MI := (yX1_load, cX1_load, 3, none, 3, 75, 0, 0)
abbrev mX1_numberOf : MI := (yX1_numberOf, cX1_numberOf, 2, (some .int), 3, 77, 0, 0)
abbrev mX1_usedAt : MI := (yX1_usedAt, cX1_usedAt, 2, (some .int), 0, 0, 0, 0)
abbrev mX2_init : MI := (yX2_init, cX2_init, 1, none, 2, 40, 5, 92002)
abbrev mX2_clear : MI := (yX2_clear, cX2_clear, 1, none, 1, 20, 0, 0)
abbrev mX2_addState : MI := (yX2_addState, cX2_addState, 2, none, 0, 0, 0, 0)
abbrev mX2_addPath : MI := (yX2_addPath, cX2_addPath, 3, none, 0, 0, 0, 0)
abbrev mX2_markLeading : MI := (yX2_markLeading, cX2_markLeading, 2, none, 1, 21, 0, 0)
abbrev mX2_isLeading : MI := (yX2_isLeading, cX2_isLeading, 2, (some .boolean), 0, 0, 0, 0)
abbrev mX2_spread : MI := (yX2_spread, cX2_spread, 4, none, 2, 42, 0, 0)
abbrev mX3_init : MI := (yX3_init, cX3_init, 1, none, 1, 20, 3, 600)
abbrev mX3_clear : MI := (yX3_clear, cX3_clear, 1, none, 0, 0, 0, 0)
abbrev mX3_count : MI := (yX3_count, cX3_count, 1, (some .int), 0, 0, 0, 0)
abbrev mX3_add : MI := (yX3_add, cX3_add, 4, none, 0, 0, 0, 0)
abbrev mX3_ask : MI := (yX3_ask, cX3_ask, 3, (some .int), 0, 0, 0, 0)
abbrev mX4_make : MI := (yX4_make, cX4_make, 6, (some .int), 0, 0, 0, 0)
abbrev mX4_kindOf : MI := (yX4_kindOf, cX4_kindOf, 1, (some .int), 0, 0, 0, 0)
abbrev mX4_fromOf : MI := (yX4_fromOf, cX4_fromOf, 1, (some .int), 0, 0, 0, 0)
abbrev mX4_toOf : MI := (yX4_toOf, cX4_toOf, 1, (some .int), 0, 0, 0, 0)
abbrev mX4_forOf : MI := (yX4_forOf, cX4_forOf, 1, (some .int), 0, 0, 0, 0)
abbrev mX4_freshOf : MI := (yX4_freshOf, cX4_freshOf, 1, (some .int), 0, 0, 0, 0)
abbrev mX4_staled : MI := (yX4_staled, cX4_staled, 1, (some .int), 0, 0, 0, 0)
abbrev mX4_shareOrder : MI := (yX4_shareOrder, cX4_shareOrder, 2, (some .boolean), 0, 0, 0, 0)
abbrev mX4_lastAhead : MI := (yX4_lastAhead, cX4_lastAhead, 1, (some .int), 0, 0, 0, 0)
abbrev mX5_init : MI := (yX5_init, cX5_init, 1, none, 1, 20, 1, 4000)
abbrev mX5_clear : MI := (yX5_clear, cX5_clear, 1, none, 0, 0, 0, 0)
abbrev mX5_count : MI := (yX5_count, cX5_count, 1, (some .int), 0, 0, 0, 0)
abbrev mX5_add : MI := (yX5_add, cX5_add, 2, none, 0, 0, 0, 0)
abbrev mX5_at : MI := (yX5_at, cX5_at, 2, (some .int), 0, 0, 0, 0)
abbrev mX6_init : MI := (yX6_init, cX6_init, 1, none, 1, 23, 7, 8226)
abbrev mX6_home : MI := (yX6_home, cX6_home, 1, (some .int), 0, 0, 0, 0)
abbrev mX6_setHome : MI := (yX6_setHome, cX6_setHome, 3, (some .int), 0, 0, 0, 0)
abbrev mX6_looseOf : MI := (yX6_looseOf, cX6_looseOf, 2, (some .int), 0, 0, 0, 0)
abbrev mX6_setLoose : MI := (yX6_setLoose, cX6_setLoose, 4, (some .int), 0, 0, 0, 0)
abbrev mX6_setRight : MI := (yX6_setRight, cX6_setRight, 4, (some .int), 0, 0, 0, 0)
abbrev mX6_hasRow : MI := (yX6_hasRow, cX6_hasRow, 2, (some .boolean), 0, 0, 0, 0)
abbrev mX6_lengthOf : MI := (yX6_lengthOf, cX6_lengthOf, 2, (some .int), 0, 0, 0, 0)
abbrev mX6_waitsAt : MI := (yX6_waitsAt, cX6_waitsAt, 2, (some .boolean), 0, 0, 0, 0)
abbrev mX6_countRows : MI := (yX6_countRows, cX6_countRows, 2, (some .int), 0, 0, 0, 0)
abbrev mX6_putRow : MI := (yX6_putRow, cX6_putRow, 6, (some .int), 2, 45, 0, 0)
abbrev mX6_dropRow : MI := (yX6_dropRow, cX6_dropRow, 3, (some .int), 1, 21, 0, 0)
abbrev mX6_actOf : MI := (yX6_actOf, cX6_actOf, 4, (some .int), 0, 0, 0, 0)
abbrev mX6_hasWait : MI := (yX6_hasWait, cX6_hasWait, 3, (some .boolean), 1, 23, 0, 0)
abbrev mX6_cachePlace : MI := (yX6_cachePlace, cX6_cachePlace, 3, (some .int), 0, 0, 0, 0)
abbrev mX6_letterPlace : MI := (yX6_letterPlace, cX6_letterPlace, 7, (some .int), 2, 43, 0, 0)
abbrev mX6_badnessOf : MI := (yX6_badnessOf, cX6_badnessOf, 7, (some .int), 2, 43, 0, 0)
abbrev mX7_init : MI := (yX7_init, cX7_init, 1, none, 1, 20, 1, 8)
abbrev mX7_begin : MI := (yX7_begin, cX7_begin, 2, none, 2, 45, 0, 0)
abbrev mX7_copy : MI := (yX7_copy, cX7_copy, 2, none, 1, 40, 0, 0)
abbrev mX7_stateOf : MI := (yX7_stateOf, cX7_stateOf, 2, (some .int), 1, 22, 0, 0)
abbrev mX7_freshOf : MI := (yX7_freshOf, cX7_freshOf, 2, (some .int), 1, 22, 0, 0)
abbrev mX7_wantOf : MI := (yX7_wantOf, cX7_wantOf, 2, (some .int), 1, 22, 0, 0)
abbrev mX7_holders : MI := (yX7_holders, cX7_holders, 1, (some .int), 1, 22, 0, 0)
abbrev mX7_setState : MI := (yX7_setState, cX7_setState, 3, none, 1, 23, 0, 0)
abbrev mX7_setFresh : MI := (yX7_setFresh, cX7_setFresh, 3, none, 1, 23, 0, 0)
abbrev mX7_setWant : MI := (yX7_setWant, cX7_setWant, 3, none, 1, 23, 0, 0)
abbrev mX7_setHolders : MI := (yX7_setHolders, cX7_setHolders, 2, none, 1, 23, 0, 0)
abbrev mX7_isQuiet : MI := (yX7_isQuiet, cX7_isQuiet, 1, (some .boolean), 0, 0, 0, 0)
abbrev mX7_letterCount : MI := (yX7_letterCount, cX7_letterCount, 1, (some .int), 0, 0, 0, 0)
abbrev mX7_letterAt : MI := (yX7_letterAt, cX7_letterAt, 2, (some .int), 0, 0, 0, 0)
abbrev mX7_isBehindAnother : MI := (yX7_isBehindAnother, cX7_isBehindAnother, 2, (some .boolean), 1, 21, 0, 0)
abbrev mX7_add : MI := (yX7_add, cX7_add, 4, (some .boolean), 1, 20, 0, 0)
abbrev mX7_take : MI := (yX7_take, cX7_take, 4, (some .int), 0, 0, 0, 0)
abbrev mX7_storeAt : MI := (yX7_storeAt, cX7_storeAt, 3, none, 2, 45, 0, 0)
abbrev mX7_endsWord : MI := (yX7_endsWord, cX7_endsWord, 1, (some .long), 0, 0, 0, 0)
abbrev mX7_lettersWord : MI := (yX7_lettersWord, cX7_lettersWord, 5, (some .long), 0, 0, 0, 0)
abbrev mX7_load : MI := (yX7_load, cX7_load, 7, none, 1, 27, 0, 0)
abbrev mX7_loadHalf : MI := (yX7_loadHalf, cX7_loadHalf, 8, none, 0, 0, 0, 0)
abbrev mX7_part : MI := (yX7_part, cX7_part, 3, (some .int), 0, 0, 0, 0)
abbrev mX7_setPart : MI := (yX7_setPart, cX7_setPart, 4, none, 0, 0, 0, 0)
abbrev mX8_init : MI := (yX8_init, cX8_init, 1, none, 1, 20, 4, 20192)
abbrev mX8_clear : MI := (yX8_clear, cX8_clear, 1, none, 1, 23, 0, 0)
abbrev mX8_count : MI := (yX8_count, cX8_count, 1, (some .int), 0, 0, 0, 0)
abbrev mX8_find : MI := (yX8_find, cX8_find, 2, (some .int), 2, 56, 0, 0)
abbrev mX8_keep : MI := (yX8_keep, cX8_keep, 3, (some .int), 2, 56, 0, 0)
abbrev mX8_load : MI := (yX8_load, cX8_load, 3, none, 2, 53, 0, 0)
abbrev mX8_slotOf : MI := (yX8_slotOf, cX8_slotOf, 10, (some .int), 1, 27, 0, 0)
abbrev mX8_startOf : MI := (yX8_startOf, cX8_startOf, 8, (some .int), 0, 0, 0, 0)
abbrev mX9_init : MI := (yX9_init, cX9_init, 2, none, 1, 20, 5, 100)
abbrev mX9_count : MI := (yX9_count, cX9_count, 1, (some .int), 0, 0, 0, 0)
abbrev mX9_endOf : MI := (yX9_endOf, cX9_endOf, 2, (some .int), 0, 0, 0, 0)
abbrev mX9_eventOf : MI := (yX9_eventOf, cX9_eventOf, 2, (some .int), 0, 0, 0, 0)
abbrev mX9_senderOf : MI := (yX9_senderOf, cX9_senderOf, 2, (some .int), 0, 0, 0, 0)
abbrev mX9_letterOf : MI := (yX9_letterOf, cX9_letterOf, 2, (some .int), 0, 0, 0, 0)
abbrev mX9_placeAt : MI := (yX9_placeAt, cX9_placeAt, 2, (some .int), 0, 0, 0, 0)
abbrev mX9_list : MI := (yX9_list, cX9_list, 3, none, 4, 93, 0, 0)
abbrev mX9_listOwn : MI := (yX9_listOwn, cX9_listOwn, 6, none, 2, 43, 0, 0)
abbrev mX9_listComing : MI := (yX9_listComing, cX9_listComing, 5, none, 3, 69, 0, 0)
abbrev mX9_add : MI := (yX9_add, cX9_add, 6, none, 0, 0, 0, 0)
abbrev mX10_init : MI := (yX10_init, cX10_init, 1, none, 4, 82, 52, 139372)
abbrev mX10_processors : MI := (yX10_processors, cX10_processors, 3, (some .int), 4, 86, 0, 0)
abbrev mX10_net : MI := (yX10_net, cX10_net, 4, (some .int), 4, 86, 0, 0)
abbrev mX10_right : MI := (yX10_right, cX10_right, 4, (some .int), 4, 86, 0, 0)
abbrev mX10_row : MI := (yX10_row, cX10_row, 7, (some .int), 4, 86, 0, 0)
abbrev mX10_tear : MI := (yX10_tear, cX10_tear, 4, (some .int), 4, 86, 0, 0)
abbrev mX10_rows : MI := (yX10_rows, cX10_rows, 2, (some .int), 1, 21, 0, 0)
abbrev mX10_reset : MI := (yX10_reset, cX10_reset, 1, (some .int), 6, 135, 0, 0)
abbrev mX10_steps : MI := (yX10_steps, cX10_steps, 1, (some .int), 6, 135, 0, 0)
abbrev mX10_step : MI := (yX10_step, cX10_step, 3, (some .int), 6, 135, 0, 0)
abbrev mX10_choose : MI := (yX10_choose, cX10_choose, 3, (some .int), 6, 135, 0, 0)
abbrev mX10_end : MI := (yX10_end, cX10_end, 4, (some .int), 2, 43, 0, 0)
abbrev mX10_letter : MI := (yX10_letter, cX10_letter, 4, (some .int), 1, 21, 0, 0)
abbrev mX10_now : MI := (yX10_now, cX10_now, 2, (some .int), 6, 135, 0, 0)
abbrev mX10_walk : MI := (yX10_walk, cX10_walk, 3, (some .int), 7, 170, 0, 0)
abbrev mX10_walked : MI := (yX10_walked, cX10_walked, 2, (some .int), 3, 62, 0, 0)
abbrev mX10_bad : MI := (yX10_bad, cX10_bad, 3, (some .int), 2, 44, 0, 0)
abbrev mX10_found : MI := (yX10_found, cX10_found, 3, (some .int), 2, 42, 0, 0)
abbrev mX10_far : MI := (yX10_far, cX10_far, 2, (some .int), 2, 41, 0, 0)
abbrev mX10_way : MI := (yX10_way, cX10_way, 3, (some .int), 2, 41, 0, 0)
abbrev mX10_go : MI := (yX10_go, cX10_go, 2, (some .int), 6, 135, 0, 0)
abbrev mX10_number : MI := (yX10_number, cX10_number, 1, (some .int), 4, 98, 0, 0)
abbrev mX10_used : MI := (yX10_used, cX10_used, 3, (some .int), 2, 43, 0, 0)
abbrev mX10_beginAnew : MI := (yX10_beginAnew, cX10_beginAnew, 1, none, 3, 66, 0, 0)
abbrev mX10_countChoices : MI := (yX10_countChoices, cX10_countChoices, 1, (some .int), 5, 115, 0, 0)
abbrev mX10_placeOf : MI := (yX10_placeOf, cX10_placeOf, 4, (some .int), 1, 20, 0, 0)
abbrev mX10_sideOf : MI := (yX10_sideOf, cX10_sideOf, 1, (some .int), 0, 0, 0, 0)
abbrev mX11_init : MI := (yX11_init, cX11_init, 2, none, 1, 24, 23, 349360)
abbrev mX11_copy : MI := (yX11_copy, cX11_copy, 5, none, 0, 0, 0, 0)
abbrev mX11_first : MI := (yX11_first, cX11_first, 2, none, 0, 0, 0, 0)
abbrev mX11_changed : MI := (yX11_changed, cX11_changed, 1, none, 1, 24, 0, 0)
abbrev mX11_processors : MI := (yX11_processors, cX11_processors, 3, (some .int), 2, 44, 0, 0)
abbrev mX11_net : MI := (yX11_net, cX11_net, 4, (some .int), 2, 44, 0, 0)
abbrev mX11_right : MI := (yX11_right, cX11_right, 4, (some .int), 2, 44, 0, 0)
abbrev mX11_placeOf : MI := (yX11_placeOf, cX11_placeOf, 4, (some .int), 0, 0, 0, 0)
abbrev mX11_row : MI := (yX11_row, cX11_row, 9, (some .int), 2, 44, 0, 0)
abbrev mX11_tear : MI := (yX11_tear, cX11_tear, 4, (some .int), 2, 44, 0, 0)
abbrev mX11_rows : MI := (yX11_rows, cX11_rows, 4, (some .int), 0, 0, 0, 0)
abbrev mX11_letterAt : MI := (yX11_letterAt, cX11_letterAt, 3, (some .int), 0, 0, 0, 0)
abbrev mX11_rowOfLetter : MI := (yX11_rowOfLetter, cX11_rowOfLetter, 5, (some .int), 1, 22, 0, 0)
abbrev mX11_waits : MI := (yX11_waits, cX11_waits, 4, (some .boolean), 0, 0, 0, 0)
abbrev mX11_addStep : MI := (yX11_addStep, cX11_addStep, 5, none, 0, 0, 0, 0)
abbrev mX11_findSteps : MI := (yX11_findSteps, cX11_findSteps, 4, none, 2, 46, 0, 0)
abbrev mX11_compareLetters : MI := (yX11_compareLetters, cX11_compareLetters, 2, (some .int), 0, 0, 0, 0)
abbrev mX11_isAhead : MI := (yX11_isAhead, cX11_isAhead, 8, (some .boolean), 1, 22, 0, 0)
abbrev mX11_send : MI := (yX11_send, cX11_send, 8, (some .boolean), 2, 49, 0, 0)
abbrev mX11_takeLetter : MI := (yX11_takeLetter, cX11_takeLetter, 4, none, 1, 22, 0, 0)
abbrev mX11_stale : MI := (yX11_stale, cX11_stale, 3, none, 0, 0, 0, 0)
abbrev mX11_cacheActs : MI := (yX11_cacheActs, cX11_cacheActs, 5, (some .int), 3, 76, 0, 0)
abbrev mX11_homeActs : MI := (yX11_homeActs, cX11_homeActs, 4, (some .int), 3, 76, 0, 0)
abbrev mX11_doStep : MI := (yX11_doStep, cX11_doStep, 8, (some .int), 4, 100, 0, 0)
abbrev mX11_badNow : MI := (yX11_badNow, cX11_badNow, 6, (some .int), 0, 0, 0, 0)
abbrev mX11_isQuiet : MI := (yX11_isQuiet, cX11_isQuiet, 3, (some .boolean), 0, 0, 0, 0)
abbrev mX11_toRun : MI := (yX11_toRun, cX11_toRun, 1, none, 3, 69, 0, 0)
abbrev mX11_reset : MI := (yX11_reset, cX11_reset, 1, (some .int), 4, 89, 0, 0)
abbrev mX11_steps : MI := (yX11_steps, cX11_steps, 1, (some .int), 4, 89, 0, 0)
abbrev mX11_step : MI := (yX11_step, cX11_step, 3, (some .int), 4, 89, 0, 0)
abbrev mX11_choose : MI := (yX11_choose, cX11_choose, 3, (some .int), 5, 127, 0, 0)
abbrev mX11_end : MI := (yX11_end, cX11_end, 3, (some .int), 0, 0, 0, 0)
abbrev mX11_letter : MI := (yX11_letter, cX11_letter, 3, (some .int), 0, 0, 0, 0)
abbrev mX11_now : MI := (yX11_now, cX11_now, 2, (some .int), 4, 89, 0, 0)
abbrev mX11_sumOf : MI := (yX11_sumOf, cX11_sumOf, 4, (some .long), 0, 0, 0, 0)
abbrev mX11_numberOf : MI := (yX11_numberOf, cX11_numberOf, 6, (some .int), 1, 23, 0, 0)
abbrev mX11_addBad : MI := (yX11_addBad, cX11_addBad, 4, none, 0, 0, 0, 0)
abbrev mX11_add : MI := (yX11_add, cX11_add, 5, (some .int), 1, 25, 0, 0)
abbrev mX11_walk : MI := (yX11_walk, cX11_walk, 4, (some .int), 6, 153, 0, 0)
abbrev mX11_from : MI := (yX11_from, cX11_from, 7, none, 5, 127, 0, 0)
abbrev mX11_lead : MI := (yX11_lead, cX11_lead, 5, none, 1, 24, 0, 0)
abbrev mX11_walked : MI := (yX11_walked, cX11_walked, 4, (some .int), 0, 0, 0, 0)
abbrev mX11_bad : MI := (yX11_bad, cX11_bad, 3, (some .int), 0, 0, 0, 0)
abbrev mX11_found : MI := (yX11_found, cX11_found, 5, (some .int), 0, 0, 0, 0)
abbrev mX11_far : MI := (yX11_far, cX11_far, 2, (some .int), 0, 0, 0, 0)
abbrev mX11_way : MI := (yX11_way, cX11_way, 4, (some .int), 0, 0, 0, 0)
abbrev mX11_go : MI := (yX11_go, cX11_go, 2, (some .int), 4, 89, 0, 0)
abbrev mX11_number : MI := (yX11_number, cX11_number, 1, (some .int), 2, 48, 0, 0)
abbrev mX11_used : MI := (yX11_used, cX11_used, 3, (some .int), 1, 23, 0, 0)
abbrev mJ7_fill_53178 : MI := (yJ7_fill_53178, cJ7_fill_53178, 4, none, 0, 0, 0, 0)
abbrev mL_law : MI := (yL_law, cL_law, 4, ret, 10, 384, 600000, 7302250)
/-- the words of a called method: its code, and all words of the tables -/
def mW (M : MI) : List Cond := .code (mY M) (mB M) (mL M) (mR M) :: tb
def MkOk (M : MI) (n : Nat) : Prop := Cond.code (mY M) (mB M) (mL M) (mR M) ∈ tb ∧ plainName (mY M).cls = true ∧ (mY M).cls ≠ "java/lang/invoke/MethodHandle" ∧ (mY M).cls ≠ "java/lang/invoke/VarHandle" ∧ (parseMethodDescriptor (mY M).desc).map (fun d => d.parameters.length) = some n ∧ Cond.initialized (mY M).cls ∈ tb
theorem mk_X0_init : MkOk mX0_init 1 := ⟨tb_at 103 (by decide +kernel) rfl, by decide, by decide, by decide, by decide +kernel, tb_at 44 (by decide +kernel) rfl⟩
theorem mk_X0_perform : MkOk mX0_perform 3 := ⟨tb_at 535 (by decide +kernel) rfl, by decide, by decide, by decide, by decide +kernel, tb_at 44 (by decide +kernel) rfl⟩
theorem mk_X0_takeUp : MkOk mX0_takeUp 3 := ⟨tb_at 544 (by decide +kernel) rfl, by decide, by decide, by decide, by decide +kernel, tb_at 44 (by decide +kernel) rfl⟩
theorem mk_X0_cacheAct : MkOk mX0_cacheAct 3 := ⟨tb_at 608 (by decide +kernel) rfl, by decide, by decide, by decide, by decide +kernel, tb_at 44 (by decide +kernel) rfl⟩
theorem mk_X0_homeAct : MkOk mX0_homeAct 3 := ⟨tb_at 572 (by decide +kernel) rfl, by decide, by decide, by decide, by decide +kernel, tb_at 44 (by decide +kernel) rfl⟩
theorem mk_X0_send : MkOk mX0_send 5 := ⟨tb_at 580 (by decide +kernel) rfl, by decide, by decide, by decide, by decide +kernel, tb_at 44 (by decide +kernel) rfl⟩
theorem mk_X1_init : MkOk mX1_init 2 := ⟨tb_at 166 (by decide +kernel) rfl, by decide, by decide, by decide, by decide +kernel, tb_at 47 (by decide +kernel) rfl⟩
theorem mk_X1_begin : MkOk mX1_begin 1 := ⟨tb_at 658 (by decide +kernel) rfl, by decide, by decide, by decide, by decide +kernel, tb_at 47 (by decide +kernel) rfl⟩
theorem mk_X1_visit : MkOk mX1_visit 1 := ⟨tb_at 725 (by decide +kernel) rfl, by decide, by decide, by decide, by decide +kernel, tb_at 47 (by decide +kernel) rfl⟩
theorem mk_X1_finish : MkOk mX1_finish 0 := ⟨tb_at 773 (by decide +kernel) rfl, by decide, by decide, by decide, by decide +kernel, tb_at 47 (by decide +kernel) rfl⟩
theorem mk_X1_tryStep : MkOk mX1_tryStep 2 := ⟨tb_at 753 (by decide +kernel) rfl, by decide, by decide, by decide, by decide +kernel, tb_at 47 (by decide +kernel) rfl⟩
theorem mk_X1_markUsed : MkOk mX1_markUsed 1 := ⟨tb_at 758 (by decide +kernel) rfl, by decide, by decide, by decide, by decide +kernel, tb_at 47 (by decide +kernel) rfl⟩
theorem mk_X1_keepTrial : MkOk mX1_keepTrial 2 := ⟨tb_at 683 (by decide +kernel) rfl, by decide, by decide, by decide, by decide +kernel, tb_at 47 (by decide +kernel) rfl⟩
theorem mk_X1_figure : MkOk mX1_figure 1 := ⟨tb_at 802 (by decide +kernel) rfl, by decide, by decide, by decide, by decide +kernel, tb_at 47 (by decide +kernel) rfl⟩
theorem mk_X1_greatestDepth : MkOk mX1_greatestDepth 0 := ⟨tb_at 811 (by decide +kernel) rfl, by decide, by decide, by decide, by decide +kernel, tb_at 47 (by decide +kernel) rfl⟩
theorem mk_X1_countStates : MkOk mX1_countStates 0 := ⟨tb_at 721 (by decide +kernel) rfl, by decide, by decide, by decide, by decide +kernel, tb_at 47 (by decide +kernel) rfl⟩
theorem mk_X1_isSpent : MkOk mX1_isSpent 0 := ⟨tb_at 794 (by decide +kernel) rfl, by decide, by decide, by decide, by decide +kernel, tb_at 47 (by decide +kernel) rfl⟩
theorem mk_X1_hasState : MkOk mX1_hasState 1 := ⟨tb_at 844 (by decide +kernel) rfl, by decide, by decide, by decide, by decide +kernel, tb_at 47 (by decide +kernel) rfl⟩
theorem mk_X1_badAt : MkOk mX1_badAt 2 := ⟨tb_at 819 (by decide +kernel) rfl, by decide, by decide, by decide, by decide +kernel, tb_at 47 (by decide +kernel) rfl⟩
theorem mk_X1_stuckAt : MkOk mX1_stuckAt 1 := ⟨tb_at 831 (by decide +kernel) rfl, by decide, by decide, by decide, by decide +kernel, tb_at 47 (by decide +kernel) rfl⟩
theorem mk_X1_lostAt : MkOk mX1_lostAt 1 := ⟨tb_at 836 (by decide +kernel) rfl, by decide, by decide, by decide, by decide +kernel, tb_at 47 (by decide +kernel) rfl⟩
theorem mk_X1_depthOf : MkOk mX1_depthOf 1 := ⟨tb_at 848 (by decide +kernel) rfl, by decide, by decide, by decide, by decide +kernel, tb_at 47 (by decide +kernel) rfl⟩
theorem mk_X1_stepTowards : MkOk mX1_stepTowards 2 := ⟨tb_at 856 (by decide +kernel) rfl, by decide, by decide, by decide, by decide +kernel, tb_at 47 (by decide +kernel) rfl⟩
theorem mk_X1_load : MkOk mX1_load 2 := ⟨tb_at 864 (by decide +kernel) rfl, by decide, by decide, by decide, by decide +kernel, tb_at 47 (by decide +kernel) rfl⟩
theorem mk_X1_numberOf : MkOk mX1_numberOf 1 := ⟨tb_at 872 (by decide +kernel) rfl, by decide, by decide, by decide, by decide +kernel, tb_at 47 (by decide +kernel) rfl⟩
theorem mk_X1_usedAt : MkOk mX1_usedAt 1 := ⟨tb_at 881 (by decide +kernel) rfl, by decide, by decide, by decide, by decide +kernel, tb_at 47 (by decide +kernel) rfl⟩
theorem mk_X2_init : MkOk mX2_init 0 := ⟨tb_at 231 (by decide +kernel) rfl, by decide, by decide, by decide, by decide +kernel, tb_at 51 (by decide +kernel) rfl⟩
theorem mk_X2_clear : MkOk mX2_clear 0 := ⟨tb_at 675 (by decide +kernel) rfl, by decide, by decide, by decide, by decide +kernel, tb_at 51 (by decide +kernel) rfl⟩
theorem mk_X2_addState : MkOk mX2_addState 1 := ⟨tb_at 712 (by decide +kernel) rfl, by decide, by decide, by decide, by decide +kernel, tb_at 51 (by decide +kernel) rfl⟩
theorem mk_X2_addPath : MkOk mX2_addPath 2 := ⟨tb_at 769 (by decide +kernel) rfl, by decide, by decide, by decide, by decide +kernel, tb_at 51 (by decide +kernel) rfl⟩
theorem mk_X2_markLeading : MkOk mX2_markLeading 1 := ⟨tb_at 743 (by decide +kernel) rfl, by decide, by decide, by decide, by decide +kernel, tb_at 51 (by decide +kernel) rfl⟩
theorem mk_X2_isLeading : MkOk mX2_isLeading 1 := ⟨tb_at 790 (by decide +kernel) rfl, by decide, by decide, by decide, by decide +kernel, tb_at 51 (by decide +kernel) rfl⟩
theorem mk_X2_spread : MkOk mX2_spread 0 := ⟨tb_at 777 (by decide +kernel) rfl, by decide, by decide, by decide, by decide +kernel, tb_at 51 (by decide +kernel) rfl⟩
theorem mk_X3_init : MkOk mX3_init 0 := ⟨tb_at 199 (by decide +kernel) rfl, by decide, by decide, by decide, by decide +kernel, tb_at 49 (by decide +kernel) rfl⟩
theorem mk_X3_clear : MkOk mX3_clear 0 := ⟨tb_at 667 (by decide +kernel) rfl, by decide, by decide, by decide, by decide +kernel, tb_at 49 (by decide +kernel) rfl⟩
theorem mk_X3_count : MkOk mX3_count 0 := ⟨tb_at 806 (by decide +kernel) rfl, by decide, by decide, by decide, by decide +kernel, tb_at 49 (by decide +kernel) rfl⟩
theorem mk_X3_add : MkOk mX3_add 3 := ⟨tb_at 717 (by decide +kernel) rfl, by decide, by decide, by decide, by decide +kernel, tb_at 49 (by decide +kernel) rfl⟩
theorem mk_X3_ask : MkOk mX3_ask 2 := ⟨tb_at 823 (by decide +kernel) rfl, by decide, by decide, by decide, by decide +kernel, tb_at 49 (by decide +kernel) rfl⟩
theorem mk_X4_make : MkOk mX4_make 6 := ⟨tb_at 587 (by decide +kernel) rfl, by decide, by decide, by decide, by decide +kernel, tb_at 53 (by decide +kernel) rfl⟩
theorem mk_X4_kindOf : MkOk mX4_kindOf 1 := ⟨tb_at 482 (by decide +kernel) rfl, by decide, by decide, by decide, by decide +kernel, tb_at 53 (by decide +kernel) rfl⟩
theorem mk_X4_fromOf : MkOk mX4_fromOf 1 := ⟨tb_at 496 (by decide +kernel) rfl, by decide, by decide, by decide, by decide +kernel, tb_at 53 (by decide +kernel) rfl⟩
theorem mk_X4_toOf : MkOk mX4_toOf 1 := ⟨tb_at 479 (by decide +kernel) rfl, by decide, by decide, by decide, by decide +kernel, tb_at 53 (by decide +kernel) rfl⟩
theorem mk_X4_forOf : MkOk mX4_forOf 1 := ⟨tb_at 491 (by decide +kernel) rfl, by decide, by decide, by decide, by decide +kernel, tb_at 53 (by decide +kernel) rfl⟩
theorem mk_X4_freshOf : MkOk mX4_freshOf 1 := ⟨tb_at 557 (by decide +kernel) rfl, by decide, by decide, by decide, by decide +kernel, tb_at 53 (by decide +kernel) rfl⟩
theorem mk_X4_staled : MkOk mX4_staled 1 := ⟨tb_at 617 (by decide +kernel) rfl, by decide, by decide, by decide, by decide +kernel, tb_at 53 (by decide +kernel) rfl⟩
theorem mk_X4_shareOrder : MkOk mX4_shareOrder 2 := ⟨tb_at 464 (by decide +kernel) rfl, by decide, by decide, by decide, by decide +kernel, tb_at 53 (by decide +kernel) rfl⟩
theorem mk_X4_lastAhead : MkOk mX4_lastAhead 1 := ⟨tb_at 594 (by decide +kernel) rfl, by decide, by decide, by decide, by decide +kernel, tb_at 53 (by decide +kernel) rfl⟩
theorem mk_X5_init : MkOk mX5_init 0 := ⟨tb_at 218 (by decide +kernel) rfl, by decide, by decide, by decide, by decide +kernel, tb_at 50 (by decide +kernel) rfl⟩
theorem mk_X5_clear : MkOk mX5_clear 0 := ⟨tb_at 671 (by decide +kernel) rfl, by decide, by decide, by decide, by decide +kernel, tb_at 50 (by decide +kernel) rfl⟩
theorem mk_X5_count : MkOk mX5_count 0 := ⟨tb_at 781 (by decide +kernel) rfl, by decide, by decide, by decide, by decide +kernel, tb_at 50 (by decide +kernel) rfl⟩
theorem mk_X5_add : MkOk mX5_add 1 := ⟨tb_at 747 (by decide +kernel) rfl, by decide, by decide, by decide, by decide +kernel, tb_at 50 (by decide +kernel) rfl⟩
theorem mk_X5_at : MkOk mX5_at 1 := ⟨tb_at 785 (by decide +kernel) rfl, by decide, by decide, by decide, by decide +kernel, tb_at 50 (by decide +kernel) rfl⟩
theorem mk_X6_init : MkOk mX6_init 0 := ⟨tb_at 67 (by decide +kernel) rfl, by decide, by decide, by decide, by decide +kernel, tb_at 42 (by decide +kernel) rfl⟩
theorem mk_X6_home : MkOk mX6_home 0 := ⟨tb_at 304 (by decide +kernel) rfl, by decide, by decide, by decide, by decide +kernel, tb_at 42 (by decide +kernel) rfl⟩
theorem mk_X6_setHome : MkOk mX6_setHome 1 := ⟨tb_at 348 (by decide +kernel) rfl, by decide, by decide, by decide, by decide +kernel, tb_at 42 (by decide +kernel) rfl⟩
theorem mk_X6_looseOf : MkOk mX6_looseOf 1 := ⟨tb_at 584 (by decide +kernel) rfl, by decide, by decide, by decide, by decide +kernel, tb_at 42 (by decide +kernel) rfl⟩
theorem mk_X6_setLoose : MkOk mX6_setLoose 2 := ⟨tb_at 360 (by decide +kernel) rfl, by decide, by decide, by decide, by decide +kernel, tb_at 42 (by decide +kernel) rfl⟩
theorem mk_X6_setRight : MkOk mX6_setRight 2 := ⟨tb_at 368 (by decide +kernel) rfl, by decide, by decide, by decide, by decide +kernel, tb_at 42 (by decide +kernel) rfl⟩
theorem mk_X6_hasRow : MkOk mX6_hasRow 1 := ⟨tb_at 386 (by decide +kernel) rfl, by decide, by decide, by decide, by decide +kernel, tb_at 42 (by decide +kernel) rfl⟩
theorem mk_X6_lengthOf : MkOk mX6_lengthOf 1 := ⟨tb_at 567 (by decide +kernel) rfl, by decide, by decide, by decide, by decide +kernel, tb_at 42 (by decide +kernel) rfl⟩
theorem mk_X6_waitsAt : MkOk mX6_waitsAt 1 := ⟨tb_at 449 (by decide +kernel) rfl, by decide, by decide, by decide, by decide +kernel, tb_at 42 (by decide +kernel) rfl⟩
theorem mk_X6_countRows : MkOk mX6_countRows 1 := ⟨tb_at 411 (by decide +kernel) rfl, by decide, by decide, by decide, by decide +kernel, tb_at 42 (by decide +kernel) rfl⟩
theorem mk_X6_putRow : MkOk mX6_putRow 4 := ⟨tb_at 382 (by decide +kernel) rfl, by decide, by decide, by decide, by decide +kernel, tb_at 42 (by decide +kernel) rfl⟩
theorem mk_X6_dropRow : MkOk mX6_dropRow 1 := ⟨tb_at 403 (by decide +kernel) rfl, by decide, by decide, by decide, by decide +kernel, tb_at 42 (by decide +kernel) rfl⟩
theorem mk_X6_actOf : MkOk mX6_actOf 2 := ⟨tb_at 395 (by decide +kernel) rfl, by decide, by decide, by decide, by decide +kernel, tb_at 42 (by decide +kernel) rfl⟩
theorem mk_X6_hasWait : MkOk mX6_hasWait 1 := ⟨tb_at 391 (by decide +kernel) rfl, by decide, by decide, by decide, by decide +kernel, tb_at 42 (by decide +kernel) rfl⟩
theorem mk_X6_cachePlace : MkOk mX6_cachePlace 2 := ⟨tb_at 444 (by decide +kernel) rfl, by decide, by decide, by decide, by decide +kernel, tb_at 42 (by decide +kernel) rfl⟩
theorem mk_X6_letterPlace : MkOk mX6_letterPlace 2 := ⟨tb_at 476 (by decide +kernel) rfl, by decide, by decide, by decide, by decide +kernel, tb_at 42 (by decide +kernel) rfl⟩
theorem mk_X6_badnessOf : MkOk mX6_badnessOf 1 := ⟨tb_at 644 (by decide +kernel) rfl, by decide, by decide, by decide, by decide +kernel, tb_at 42 (by decide +kernel) rfl⟩
theorem mk_X7_init : MkOk mX7_init 0 := ⟨tb_at 122 (by decide +kernel) rfl, by decide, by decide, by decide, by decide +kernel, tb_at 45 (by decide +kernel) rfl⟩
theorem mk_X7_begin : MkOk mX7_begin 1 := ⟨tb_at 308 (by decide +kernel) rfl, by decide, by decide, by decide, by decide +kernel, tb_at 45 (by decide +kernel) rfl⟩
theorem mk_X7_copy : MkOk mX7_copy 1 := ⟨tb_at 528 (by decide +kernel) rfl, by decide, by decide, by decide, by decide +kernel, tb_at 45 (by decide +kernel) rfl⟩
theorem mk_X7_stateOf : MkOk mX7_stateOf 1 := ⟨tb_at 440 (by decide +kernel) rfl, by decide, by decide, by decide, by decide +kernel, tb_at 45 (by decide +kernel) rfl⟩
theorem mk_X7_freshOf : MkOk mX7_freshOf 1 := ⟨tb_at 598 (by decide +kernel) rfl, by decide, by decide, by decide, by decide +kernel, tb_at 45 (by decide +kernel) rfl⟩
theorem mk_X7_wantOf : MkOk mX7_wantOf 1 := ⟨tb_at 428 (by decide +kernel) rfl, by decide, by decide, by decide, by decide +kernel, tb_at 45 (by decide +kernel) rfl⟩
theorem mk_X7_holders : MkOk mX7_holders 0 := ⟨tb_at 488 (by decide +kernel) rfl, by decide, by decide, by decide, by decide +kernel, tb_at 45 (by decide +kernel) rfl⟩
theorem mk_X7_setState : MkOk mX7_setState 2 := ⟨tb_at 576 (by decide +kernel) rfl, by decide, by decide, by decide, by decide +kernel, tb_at 45 (by decide +kernel) rfl⟩
theorem mk_X7_setFresh : MkOk mX7_setFresh 2 := ⟨tb_at 313 (by decide +kernel) rfl, by decide, by decide, by decide, by decide +kernel, tb_at 45 (by decide +kernel) rfl⟩
theorem mk_X7_setWant : MkOk mX7_setWant 2 := ⟨tb_at 562 (by decide +kernel) rfl, by decide, by decide, by decide, by decide +kernel, tb_at 45 (by decide +kernel) rfl⟩
theorem mk_X7_setHolders : MkOk mX7_setHolders 1 := ⟨tb_at 603 (by decide +kernel) rfl, by decide, by decide, by decide, by decide +kernel, tb_at 45 (by decide +kernel) rfl⟩
theorem mk_X7_isQuiet : MkOk mX7_isQuiet 0 := ⟨tb_at 649 (by decide +kernel) rfl, by decide, by decide, by decide, by decide +kernel, tb_at 45 (by decide +kernel) rfl⟩
theorem mk_X7_letterCount : MkOk mX7_letterCount 0 := ⟨tb_at 457 (by decide +kernel) rfl, by decide, by decide, by decide, by decide +kernel, tb_at 45 (by decide +kernel) rfl⟩
theorem mk_X7_letterAt : MkOk mX7_letterAt 1 := ⟨tb_at 472 (by decide +kernel) rfl, by decide, by decide, by decide, by decide +kernel, tb_at 45 (by decide +kernel) rfl⟩
theorem mk_X7_isBehindAnother : MkOk mX7_isBehindAnother 1 := ⟨tb_at 461 (by decide +kernel) rfl, by decide, by decide, by decide, by decide +kernel, tb_at 45 (by decide +kernel) rfl⟩
theorem mk_X7_add : MkOk mX7_add 1 := ⟨tb_at 591 (by decide +kernel) rfl, by decide, by decide, by decide, by decide +kernel, tb_at 45 (by decide +kernel) rfl⟩
theorem mk_X7_take : MkOk mX7_take 1 := ⟨tb_at 553 (by decide +kernel) rfl, by decide, by decide, by decide, by decide +kernel, tb_at 45 (by decide +kernel) rfl⟩
theorem mk_X7_storeAt : MkOk mX7_storeAt 1 := ⟨tb_at 612 (by decide +kernel) rfl, by decide, by decide, by decide, by decide +kernel, tb_at 45 (by decide +kernel) rfl⟩
theorem mk_X7_endsWord : MkOk mX7_endsWord 0 := ⟨tb_at 695 (by decide +kernel) rfl, by decide, by decide, by decide, by decide +kernel, tb_at 45 (by decide +kernel) rfl⟩
theorem mk_X7_lettersWord : MkOk mX7_lettersWord 1 := ⟨tb_at 699 (by decide +kernel) rfl, by decide, by decide, by decide, by decide +kernel, tb_at 45 (by decide +kernel) rfl⟩
theorem mk_X7_load : MkOk mX7_load 3 := ⟨tb_at 733 (by decide +kernel) rfl, by decide, by decide, by decide, by decide +kernel, tb_at 45 (by decide +kernel) rfl⟩
theorem mk_X7_loadHalf : MkOk mX7_loadHalf 2 := ⟨tb_at 737 (by decide +kernel) rfl, by decide, by decide, by decide, by decide +kernel, tb_at 45 (by decide +kernel) rfl⟩
theorem mk_X7_part : MkOk mX7_part 2 := ⟨tb_at 432 (by decide +kernel) rfl, by decide, by decide, by decide, by decide +kernel, tb_at 45 (by decide +kernel) rfl⟩
theorem mk_X7_setPart : MkOk mX7_setPart 3 := ⟨tb_at 317 (by decide +kernel) rfl, by decide, by decide, by decide, by decide +kernel, tb_at 45 (by decide +kernel) rfl⟩
theorem mk_X8_init : MkOk mX8_init 0 := ⟨tb_at 176 (by decide +kernel) rfl, by decide, by decide, by decide, by decide +kernel, tb_at 48 (by decide +kernel) rfl⟩
theorem mk_X8_clear : MkOk mX8_clear 0 := ⟨tb_at 662 (by decide +kernel) rfl, by decide, by decide, by decide, by decide +kernel, tb_at 48 (by decide +kernel) rfl⟩
theorem mk_X8_count : MkOk mX8_count 0 := ⟨tb_at 687 (by decide +kernel) rfl, by decide, by decide, by decide, by decide +kernel, tb_at 48 (by decide +kernel) rfl⟩
theorem mk_X8_find : MkOk mX8_find 1 := ⟨tb_at 765 (by decide +kernel) rfl, by decide, by decide, by decide, by decide +kernel, tb_at 48 (by decide +kernel) rfl⟩
theorem mk_X8_keep : MkOk mX8_keep 1 := ⟨tb_at 691 (by decide +kernel) rfl, by decide, by decide, by decide, by decide +kernel, tb_at 48 (by decide +kernel) rfl⟩
theorem mk_X8_load : MkOk mX8_load 2 := ⟨tb_at 729 (by decide +kernel) rfl, by decide, by decide, by decide, by decide +kernel, tb_at 48 (by decide +kernel) rfl⟩
theorem mk_X8_slotOf : MkOk mX8_slotOf 3 := ⟨tb_at 703 (by decide +kernel) rfl, by decide, by decide, by decide, by decide +kernel, tb_at 48 (by decide +kernel) rfl⟩
theorem mk_X8_startOf : MkOk mX8_startOf 3 := ⟨tb_at 706 (by decide +kernel) rfl, by decide, by decide, by decide, by decide +kernel, tb_at 48 (by decide +kernel) rfl⟩
theorem mk_X9_init : MkOk mX9_init 1 := ⟨tb_at 138 (by decide +kernel) rfl, by decide, by decide, by decide, by decide +kernel, tb_at 46 (by decide +kernel) rfl⟩
theorem mk_X9_count : MkOk mX9_count 0 := ⟨tb_at 500 (by decide +kernel) rfl, by decide, by decide, by decide, by decide +kernel, tb_at 46 (by decide +kernel) rfl⟩
theorem mk_X9_endOf : MkOk mX9_endOf 1 := ⟨tb_at 512 (by decide +kernel) rfl, by decide, by decide, by decide, by decide +kernel, tb_at 46 (by decide +kernel) rfl⟩
theorem mk_X9_eventOf : MkOk mX9_eventOf 1 := ⟨tb_at 516 (by decide +kernel) rfl, by decide, by decide, by decide, by decide +kernel, tb_at 46 (by decide +kernel) rfl⟩
theorem mk_X9_senderOf : MkOk mX9_senderOf 1 := ⟨tb_at 520 (by decide +kernel) rfl, by decide, by decide, by decide, by decide +kernel, tb_at 46 (by decide +kernel) rfl⟩
theorem mk_X9_letterOf : MkOk mX9_letterOf 1 := ⟨tb_at 549 (by decide +kernel) rfl, by decide, by decide, by decide, by decide +kernel, tb_at 46 (by decide +kernel) rfl⟩
theorem mk_X9_placeAt : MkOk mX9_placeAt 1 := ⟨tb_at 539 (by decide +kernel) rfl, by decide, by decide, by decide, by decide +kernel, tb_at 46 (by decide +kernel) rfl⟩
theorem mk_X9_list : MkOk mX9_list 1 := ⟨tb_at 423 (by decide +kernel) rfl, by decide, by decide, by decide, by decide +kernel, tb_at 46 (by decide +kernel) rfl⟩
theorem mk_X9_listOwn : MkOk mX9_listOwn 2 := ⟨tb_at 436 (by decide +kernel) rfl, by decide, by decide, by decide, by decide +kernel, tb_at 46 (by decide +kernel) rfl⟩
theorem mk_X9_listComing : MkOk mX9_listComing 2 := ⟨tb_at 468 (by decide +kernel) rfl, by decide, by decide, by decide, by decide +kernel, tb_at 46 (by decide +kernel) rfl⟩
theorem mk_X9_add : MkOk mX9_add 5 := ⟨tb_at 453 (by decide +kernel) rfl, by decide, by decide, by decide, by decide +kernel, tb_at 46 (by decide +kernel) rfl⟩
theorem mk_X10_init : MkOk mX10_init 0 := ⟨tb_at 59 (by decide +kernel) rfl, by decide, by decide, by decide, by decide +kernel, tb_at 41 (by decide +kernel) rfl⟩
theorem mk_X10_processors : MkOk mX10_processors 1 := ⟨tb_at 344 (by decide +kernel) rfl, by decide, by decide, by decide, by decide +kernel, tb_at 41 (by decide +kernel) rfl⟩
theorem mk_X10_net : MkOk mX10_net 2 := ⟨tb_at 356 (by decide +kernel) rfl, by decide, by decide, by decide, by decide +kernel, tb_at 41 (by decide +kernel) rfl⟩
theorem mk_X10_right : MkOk mX10_right 2 := ⟨tb_at 364 (by decide +kernel) rfl, by decide, by decide, by decide, by decide +kernel, tb_at 41 (by decide +kernel) rfl⟩
theorem mk_X10_row : MkOk mX10_row 3 := ⟨tb_at 372 (by decide +kernel) rfl, by decide, by decide, by decide, by decide +kernel, tb_at 41 (by decide +kernel) rfl⟩
theorem mk_X10_tear : MkOk mX10_tear 1 := ⟨tb_at 399 (by decide +kernel) rfl, by decide, by decide, by decide, by decide +kernel, tb_at 41 (by decide +kernel) rfl⟩
theorem mk_X10_rows : MkOk mX10_rows 1 := ⟨tb_at 407 (by decide +kernel) rfl, by decide, by decide, by decide, by decide +kernel, tb_at 41 (by decide +kernel) rfl⟩
theorem mk_X10_reset : MkOk mX10_reset 0 := ⟨tb_at 415 (by decide +kernel) rfl, by decide, by decide, by decide, by decide +kernel, tb_at 41 (by decide +kernel) rfl⟩
theorem mk_X10_steps : MkOk mX10_steps 0 := ⟨tb_at 504 (by decide +kernel) rfl, by decide, by decide, by decide, by decide +kernel, tb_at 41 (by decide +kernel) rfl⟩
theorem mk_X10_step : MkOk mX10_step 2 := ⟨tb_at 508 (by decide +kernel) rfl, by decide, by decide, by decide, by decide +kernel, tb_at 41 (by decide +kernel) rfl⟩
theorem mk_X10_choose : MkOk mX10_choose 1 := ⟨tb_at 524 (by decide +kernel) rfl, by decide, by decide, by decide, by decide +kernel, tb_at 41 (by decide +kernel) rfl⟩
theorem mk_X10_end : MkOk mX10_end 2 := ⟨tb_at 621 (by decide +kernel) rfl, by decide, by decide, by decide, by decide +kernel, tb_at 41 (by decide +kernel) rfl⟩
theorem mk_X10_letter : MkOk mX10_letter 2 := ⟨tb_at 629 (by decide +kernel) rfl, by decide, by decide, by decide, by decide +kernel, tb_at 41 (by decide +kernel) rfl⟩
theorem mk_X10_now : MkOk mX10_now 1 := ⟨tb_at 640 (by decide +kernel) rfl, by decide, by decide, by decide, by decide +kernel, tb_at 41 (by decide +kernel) rfl⟩
theorem mk_X10_walk : MkOk mX10_walk 1 := ⟨tb_at 654 (by decide +kernel) rfl, by decide, by decide, by decide, by decide +kernel, tb_at 41 (by decide +kernel) rfl⟩
theorem mk_X10_walked : MkOk mX10_walked 1 := ⟨tb_at 798 (by decide +kernel) rfl, by decide, by decide, by decide, by decide +kernel, tb_at 41 (by decide +kernel) rfl⟩
theorem mk_X10_bad : MkOk mX10_bad 2 := ⟨tb_at 815 (by decide +kernel) rfl, by decide, by decide, by decide, by decide +kernel, tb_at 41 (by decide +kernel) rfl⟩
theorem mk_X10_found : MkOk mX10_found 2 := ⟨tb_at 827 (by decide +kernel) rfl, by decide, by decide, by decide, by decide +kernel, tb_at 41 (by decide +kernel) rfl⟩
theorem mk_X10_far : MkOk mX10_far 1 := ⟨tb_at 840 (by decide +kernel) rfl, by decide, by decide, by decide, by decide +kernel, tb_at 41 (by decide +kernel) rfl⟩
theorem mk_X10_way : MkOk mX10_way 2 := ⟨tb_at 852 (by decide +kernel) rfl, by decide, by decide, by decide, by decide +kernel, tb_at 41 (by decide +kernel) rfl⟩
theorem mk_X10_go : MkOk mX10_go 1 := ⟨tb_at 860 (by decide +kernel) rfl, by decide, by decide, by decide, by decide +kernel, tb_at 41 (by decide +kernel) rfl⟩
theorem mk_X10_number : MkOk mX10_number 0 := ⟨tb_at 868 (by decide +kernel) rfl, by decide, by decide, by decide, by decide +kernel, tb_at 41 (by decide +kernel) rfl⟩
theorem mk_X10_used : MkOk mX10_used 1 := ⟨tb_at 876 (by decide +kernel) rfl, by decide, by decide, by decide, by decide +kernel, tb_at 41 (by decide +kernel) rfl⟩
theorem mk_X10_beginAnew : MkOk mX10_beginAnew 0 := ⟨tb_at 352 (by decide +kernel) rfl, by decide, by decide, by decide, by decide +kernel, tb_at 41 (by decide +kernel) rfl⟩
theorem mk_X10_countChoices : MkOk mX10_countChoices 0 := ⟨tb_at 419 (by decide +kernel) rfl, by decide, by decide, by decide, by decide +kernel, tb_at 41 (by decide +kernel) rfl⟩
theorem mk_X10_placeOf : MkOk mX10_placeOf 1 := ⟨tb_at 375 (by decide +kernel) rfl, by decide, by decide, by decide, by decide +kernel, tb_at 41 (by decide +kernel) rfl⟩
theorem mk_X10_sideOf : MkOk mX10_sideOf 1 := ⟨tb_at 378 (by decide +kernel) rfl, by decide, by decide, by decide, by decide +kernel, tb_at 41 (by decide +kernel) rfl⟩
theorem mk_X11_init : MkOk mX11_init 0 := ⟨tb_at 886 (by decide +kernel) rfl, by decide, by decide, by decide, by decide +kernel, tb_at 52 (by decide +kernel) rfl⟩
theorem mk_X11_copy : MkOk mX11_copy 4 := ⟨tb_at 896 (by decide +kernel) rfl, by decide, by decide, by decide, by decide +kernel, tb_at 52 (by decide +kernel) rfl⟩
theorem mk_X11_first : MkOk mX11_first 0 := ⟨tb_at 893 (by decide +kernel) rfl, by decide, by decide, by decide, by decide +kernel, tb_at 52 (by decide +kernel) rfl⟩
theorem mk_X11_changed : MkOk mX11_changed 0 := ⟨tb_at 1010 (by decide +kernel) rfl, by decide, by decide, by decide, by decide +kernel, tb_at 52 (by decide +kernel) rfl⟩
theorem mk_X11_processors : MkOk mX11_processors 1 := ⟨tb_at 1006 (by decide +kernel) rfl, by decide, by decide, by decide, by decide +kernel, tb_at 52 (by decide +kernel) rfl⟩
theorem mk_X11_net : MkOk mX11_net 2 := ⟨tb_at 1014 (by decide +kernel) rfl, by decide, by decide, by decide, by decide +kernel, tb_at 52 (by decide +kernel) rfl⟩
theorem mk_X11_right : MkOk mX11_right 2 := ⟨tb_at 1018 (by decide +kernel) rfl, by decide, by decide, by decide, by decide +kernel, tb_at 52 (by decide +kernel) rfl⟩
theorem mk_X11_placeOf : MkOk mX11_placeOf 1 := ⟨tb_at 1025 (by decide +kernel) rfl, by decide, by decide, by decide, by decide +kernel, tb_at 52 (by decide +kernel) rfl⟩
theorem mk_X11_row : MkOk mX11_row 3 := ⟨tb_at 1022 (by decide +kernel) rfl, by decide, by decide, by decide, by decide +kernel, tb_at 52 (by decide +kernel) rfl⟩
theorem mk_X11_tear : MkOk mX11_tear 1 := ⟨tb_at 1029 (by decide +kernel) rfl, by decide, by decide, by decide, by decide +kernel, tb_at 52 (by decide +kernel) rfl⟩
theorem mk_X11_rows : MkOk mX11_rows 1 := ⟨tb_at 1033 (by decide +kernel) rfl, by decide, by decide, by decide, by decide +kernel, tb_at 52 (by decide +kernel) rfl⟩
theorem mk_X11_letterAt : MkOk mX11_letterAt 2 := ⟨tb_at 1057 (by decide +kernel) rfl, by decide, by decide, by decide, by decide +kernel, tb_at 52 (by decide +kernel) rfl⟩
theorem mk_X11_rowOfLetter : MkOk mX11_rowOfLetter 1 := ⟨tb_at 1061 (by decide +kernel) rfl, by decide, by decide, by decide, by decide +kernel, tb_at 52 (by decide +kernel) rfl⟩
theorem mk_X11_waits : MkOk mX11_waits 1 := ⟨tb_at 1049 (by decide +kernel) rfl, by decide, by decide, by decide, by decide +kernel, tb_at 52 (by decide +kernel) rfl⟩
theorem mk_X11_addStep : MkOk mX11_addStep 4 := ⟨tb_at 1053 (by decide +kernel) rfl, by decide, by decide, by decide, by decide +kernel, tb_at 52 (by decide +kernel) rfl⟩
theorem mk_X11_findSteps : MkOk mX11_findSteps 0 := ⟨tb_at 1045 (by decide +kernel) rfl, by decide, by decide, by decide, by decide +kernel, tb_at 52 (by decide +kernel) rfl⟩
theorem mk_X11_compareLetters : MkOk mX11_compareLetters 2 := ⟨tb_at 1096 (by decide +kernel) rfl, by decide, by decide, by decide, by decide +kernel, tb_at 52 (by decide +kernel) rfl⟩
theorem mk_X11_isAhead : MkOk mX11_isAhead 6 := ⟨tb_at 1093 (by decide +kernel) rfl, by decide, by decide, by decide, by decide +kernel, tb_at 52 (by decide +kernel) rfl⟩
theorem mk_X11_send : MkOk mX11_send 5 := ⟨tb_at 1089 (by decide +kernel) rfl, by decide, by decide, by decide, by decide +kernel, tb_at 52 (by decide +kernel) rfl⟩
theorem mk_X11_takeLetter : MkOk mX11_takeLetter 1 := ⟨tb_at 1081 (by decide +kernel) rfl, by decide, by decide, by decide, by decide +kernel, tb_at 52 (by decide +kernel) rfl⟩
theorem mk_X11_stale : MkOk mX11_stale 1 := ⟨tb_at 1100 (by decide +kernel) rfl, by decide, by decide, by decide, by decide +kernel, tb_at 52 (by decide +kernel) rfl⟩
theorem mk_X11_cacheActs : MkOk mX11_cacheActs 3 := ⟨tb_at 1085 (by decide +kernel) rfl, by decide, by decide, by decide, by decide +kernel, tb_at 52 (by decide +kernel) rfl⟩
theorem mk_X11_homeActs : MkOk mX11_homeActs 2 := ⟨tb_at 1104 (by decide +kernel) rfl, by decide, by decide, by decide, by decide +kernel, tb_at 52 (by decide +kernel) rfl⟩
theorem mk_X11_doStep : MkOk mX11_doStep 1 := ⟨tb_at 1077 (by decide +kernel) rfl, by decide, by decide, by decide, by decide +kernel, tb_at 52 (by decide +kernel) rfl⟩
theorem mk_X11_badNow : MkOk mX11_badNow 0 := ⟨tb_at 1120 (by decide +kernel) rfl, by decide, by decide, by decide, by decide +kernel, tb_at 52 (by decide +kernel) rfl⟩
theorem mk_X11_isQuiet : MkOk mX11_isQuiet 0 := ⟨tb_at 1124 (by decide +kernel) rfl, by decide, by decide, by decide, by decide +kernel, tb_at 52 (by decide +kernel) rfl⟩
theorem mk_X11_toRun : MkOk mX11_toRun 0 := ⟨tb_at 1041 (by decide +kernel) rfl, by decide, by decide, by decide, by decide +kernel, tb_at 52 (by decide +kernel) rfl⟩
theorem mk_X11_reset : MkOk mX11_reset 0 := ⟨tb_at 1037 (by decide +kernel) rfl, by decide, by decide, by decide, by decide +kernel, tb_at 52 (by decide +kernel) rfl⟩
theorem mk_X11_steps : MkOk mX11_steps 0 := ⟨tb_at 1065 (by decide +kernel) rfl, by decide, by decide, by decide, by decide +kernel, tb_at 52 (by decide +kernel) rfl⟩
theorem mk_X11_step : MkOk mX11_step 2 := ⟨tb_at 1069 (by decide +kernel) rfl, by decide, by decide, by decide, by decide +kernel, tb_at 52 (by decide +kernel) rfl⟩
theorem mk_X11_choose : MkOk mX11_choose 1 := ⟨tb_at 1073 (by decide +kernel) rfl, by decide, by decide, by decide, by decide +kernel, tb_at 52 (by decide +kernel) rfl⟩
theorem mk_X11_end : MkOk mX11_end 2 := ⟨tb_at 1108 (by decide +kernel) rfl, by decide, by decide, by decide, by decide +kernel, tb_at 52 (by decide +kernel) rfl⟩
theorem mk_X11_letter : MkOk mX11_letter 2 := ⟨tb_at 1112 (by decide +kernel) rfl, by decide, by decide, by decide, by decide +kernel, tb_at 52 (by decide +kernel) rfl⟩
theorem mk_X11_now : MkOk mX11_now 1 := ⟨tb_at 1116 (by decide +kernel) rfl, by decide, by decide, by decide, by decide +kernel, tb_at 52 (by decide +kernel) rfl⟩
theorem mk_X11_sumOf : MkOk mX11_sumOf 1 := ⟨tb_at 1135 (by decide +kernel) rfl, by decide, by decide, by decide, by decide +kernel, tb_at 52 (by decide +kernel) rfl⟩
theorem mk_X11_numberOf : MkOk mX11_numberOf 0 := ⟨tb_at 1148 (by decide +kernel) rfl, by decide, by decide, by decide, by decide +kernel, tb_at 52 (by decide +kernel) rfl⟩
theorem mk_X11_addBad : MkOk mX11_addBad 3 := ⟨tb_at 1140 (by decide +kernel) rfl, by decide, by decide, by decide, by decide +kernel, tb_at 52 (by decide +kernel) rfl⟩
theorem mk_X11_add : MkOk mX11_add 2 := ⟨tb_at 1132 (by decide +kernel) rfl, by decide, by decide, by decide, by decide +kernel, tb_at 52 (by decide +kernel) rfl⟩
theorem mk_X11_walk : MkOk mX11_walk 1 := ⟨tb_at 1128 (by decide +kernel) rfl, by decide, by decide, by decide, by decide +kernel, tb_at 52 (by decide +kernel) rfl⟩
theorem mk_X11_from : MkOk mX11_from 2 := ⟨tb_at 1144 (by decide +kernel) rfl, by decide, by decide, by decide, by decide +kernel, tb_at 52 (by decide +kernel) rfl⟩
theorem mk_X11_lead : MkOk mX11_lead 0 := ⟨tb_at 1152 (by decide +kernel) rfl, by decide, by decide, by decide, by decide +kernel, tb_at 52 (by decide +kernel) rfl⟩
theorem mk_X11_walked : MkOk mX11_walked 1 := ⟨tb_at 1156 (by decide +kernel) rfl, by decide, by decide, by decide, by decide +kernel, tb_at 52 (by decide +kernel) rfl⟩
theorem mk_X11_bad : MkOk mX11_bad 2 := ⟨tb_at 1160 (by decide +kernel) rfl, by decide, by decide, by decide, by decide +kernel, tb_at 52 (by decide +kernel) rfl⟩
theorem mk_X11_found : MkOk mX11_found 2 := ⟨tb_at 1164 (by decide +kernel) rfl, by decide, by decide, by decide, by decide +kernel, tb_at 52 (by decide +kernel) rfl⟩
theorem mk_X11_far : MkOk mX11_far 1 := ⟨tb_at 1168 (by decide +kernel) rfl, by decide, by decide, by decide, by decide +kernel, tb_at 52 (by decide +kernel) rfl⟩
theorem mk_X11_way : MkOk mX11_way 2 := ⟨tb_at 1172 (by decide +kernel) rfl, by decide, by decide, by decide, by decide +kernel, tb_at 52 (by decide +kernel) rfl⟩
theorem mk_X11_go : MkOk mX11_go 1 := ⟨tb_at 1176 (by decide +kernel) rfl, by decide, by decide, by decide, by decide +kernel, tb_at 52 (by decide +kernel) rfl⟩
theorem mk_X11_number : MkOk mX11_number 0 := ⟨tb_at 1180 (by decide +kernel) rfl, by decide, by decide, by decide, by decide +kernel, tb_at 52 (by decide +kernel) rfl⟩
theorem mk_X11_used : MkOk mX11_used 1 := ⟨tb_at 1184 (by decide +kernel) rfl, by decide, by decide, by decide, by decide +kernel, tb_at 52 (by decide +kernel) rfl⟩
theorem mk_J7_fill_53178 : MkOk mJ7_fill_53178 2 := ⟨tb_at 71 (by decide +kernel) rfl, by decide, by decide, by decide, by decide +kernel, tb_at 43 (by decide +kernel) rfl⟩
/-- a call's link -/
def LkV (own : String) (idx : Nat) (M : MI) : Prop := Cond.methodLink own idx (mY M) ∈ tb ∧ Cond.instanceMethod (mY M) ∈ tb ∧ Cond.selects (mY M).cls (mY M) (mY M) ∈ tb
def LkS (own : String) (idx : Nat) (M : MI) : Prop := Cond.methodLink own idx (mY M) ∈ tb ∧ Cond.static (mY M) ∈ tb
def LkI (own : String) (idx : Nat) (M : MI) : Prop := Cond.methodLink own idx (mY M) ∈ tb ∧ Cond.instanceMethod (mY M) ∈ tb ∧ (mY M).name = "<init>"
theorem lk_X0_25 : LkV RX0 25 mX9_placeAt := ⟨tb_at 536 (by decide +kernel) rfl, tb_at 537 (by decide +kernel) rfl, tb_at 538 (by decide +kernel) rfl⟩
theorem lk_X0_31 : LkV RX0 31 mX6_hasRow := ⟨tb_at 540 (by decide +kernel) rfl, tb_at 384 (by decide +kernel) rfl, tb_at 385 (by decide +kernel) rfl⟩
theorem lk_X0_37 : LkV RX0 37 mX0_takeUp := ⟨tb_at 541 (by decide +kernel) rfl, tb_at 543 (by decide +kernel) rfl, tb_at 8 (by decide +kernel) rfl⟩
theorem lk_X0_41 : LkV RX0 41 mX6_home := ⟨tb_at 563 (by decide +kernel) rfl, tb_at 302 (by decide +kernel) rfl, tb_at 303 (by decide +kernel) rfl⟩
theorem lk_X0_45 : LkV RX0 45 mX6_lengthOf := ⟨tb_at 564 (by decide +kernel) rfl, tb_at 565 (by decide +kernel) rfl, tb_at 566 (by decide +kernel) rfl⟩
theorem lk_X0_48 : LkV RX0 48 mX6_actOf := ⟨tb_at 568 (by decide +kernel) rfl, tb_at 393 (by decide +kernel) rfl, tb_at 394 (by decide +kernel) rfl⟩
theorem lk_X0_52 : LkV RX0 52 mX0_homeAct := ⟨tb_at 569 (by decide +kernel) rfl, tb_at 571 (by decide +kernel) rfl, tb_at 9 (by decide +kernel) rfl⟩
theorem lk_X0_56 : LkV RX0 56 mX0_cacheAct := ⟨tb_at 605 (by decide +kernel) rfl, tb_at 607 (by decide +kernel) rfl, tb_at 11 (by decide +kernel) rfl⟩
theorem lk_X0_59 : LkV RX0 59 mX9_endOf := ⟨tb_at 545 (by decide +kernel) rfl, tb_at 510 (by decide +kernel) rfl, tb_at 511 (by decide +kernel) rfl⟩
theorem lk_X0_62 : LkV RX0 62 mX9_letterOf := ⟨tb_at 546 (by decide +kernel) rfl, tb_at 547 (by decide +kernel) rfl, tb_at 548 (by decide +kernel) rfl⟩
theorem lk_X0_65 : LkV RX0 65 mX7_take := ⟨tb_at 550 (by decide +kernel) rfl, tb_at 551 (by decide +kernel) rfl, tb_at 552 (by decide +kernel) rfl⟩
theorem lk_X0_70 : LkS RX0 70 mX4_forOf := ⟨tb_at 554 (by decide +kernel) rfl, tb_at 490 (by decide +kernel) rfl⟩
theorem lk_X0_75 : LkS RX0 75 mX4_freshOf := ⟨tb_at 555 (by decide +kernel) rfl, tb_at 556 (by decide +kernel) rfl⟩
theorem lk_X0_78 : LkV RX0 78 mX9_eventOf := ⟨tb_at 558 (by decide +kernel) rfl, tb_at 514 (by decide +kernel) rfl, tb_at 515 (by decide +kernel) rfl⟩
theorem lk_X0_81 : LkV RX0 81 mX7_setWant := ⟨tb_at 559 (by decide +kernel) rfl, tb_at 560 (by decide +kernel) rfl, tb_at 561 (by decide +kernel) rfl⟩
theorem lk_X0_85 : LkV RX0 85 mX7_setState := ⟨tb_at 573 (by decide +kernel) rfl, tb_at 574 (by decide +kernel) rfl, tb_at 575 (by decide +kernel) rfl⟩
theorem lk_X0_88 : LkV RX0 88 mX0_send := ⟨tb_at 577 (by decide +kernel) rfl, tb_at 579 (by decide +kernel) rfl, tb_at 10 (by decide +kernel) rfl⟩
theorem lk_X0_92 : LkV RX0 92 mX7_freshOf := ⟨tb_at 595 (by decide +kernel) rfl, tb_at 596 (by decide +kernel) rfl, tb_at 597 (by decide +kernel) rfl⟩
theorem lk_X0_93 : LkV RX0 93 mX7_setFresh := ⟨tb_at 604 (by decide +kernel) rfl, tb_at 311 (by decide +kernel) rfl, tb_at 312 (by decide +kernel) rfl⟩
theorem lk_X0_96 : LkV RX0 96 mX7_storeAt := ⟨tb_at 609 (by decide +kernel) rfl, tb_at 610 (by decide +kernel) rfl, tb_at 611 (by decide +kernel) rfl⟩
theorem lk_X0_100 : LkV RX0 100 mX7_holders := ⟨tb_at 599 (by decide +kernel) rfl, tb_at 486 (by decide +kernel) rfl, tb_at 487 (by decide +kernel) rfl⟩
theorem lk_X0_103 : LkV RX0 103 mX7_setHolders := ⟨tb_at 600 (by decide +kernel) rfl, tb_at 601 (by decide +kernel) rfl, tb_at 602 (by decide +kernel) rfl⟩
theorem lk_X0_106 : LkV RX0 106 mX6_looseOf := ⟨tb_at 581 (by decide +kernel) rfl, tb_at 582 (by decide +kernel) rfl, tb_at 583 (by decide +kernel) rfl⟩
theorem lk_X0_109 : LkS RX0 109 mX4_make := ⟨tb_at 585 (by decide +kernel) rfl, tb_at 586 (by decide +kernel) rfl⟩
theorem lk_X0_113 : LkV RX0 113 mX7_add := ⟨tb_at 588 (by decide +kernel) rfl, tb_at 589 (by decide +kernel) rfl, tb_at 590 (by decide +kernel) rfl⟩
theorem lk_X1_21 : LkI RX1 21 mX7_init := ⟨tb_at 169 (by decide +kernel) rfl, tb_at 121 (by decide +kernel) rfl, rfl⟩
theorem lk_X1_31 : LkI RX1 31 mX9_init := ⟨tb_at 171 (by decide +kernel) rfl, tb_at 137 (by decide +kernel) rfl, rfl⟩
theorem lk_X1_40 : LkI RX1 40 mX8_init := ⟨tb_at 174 (by decide +kernel) rfl, tb_at 175 (by decide +kernel) rfl, rfl⟩
theorem lk_X1_47 : LkI RX1 47 mX3_init := ⟨tb_at 197 (by decide +kernel) rfl, tb_at 198 (by decide +kernel) rfl, rfl⟩
theorem lk_X1_54 : LkI RX1 54 mX5_init := ⟨tb_at 216 (by decide +kernel) rfl, tb_at 217 (by decide +kernel) rfl, rfl⟩
theorem lk_X1_64 : LkI RX1 64 mX2_init := ⟨tb_at 229 (by decide +kernel) rfl, tb_at 230 (by decide +kernel) rfl, rfl⟩
theorem lk_X1_93 : LkV RX1 93 mX8_clear := ⟨tb_at 659 (by decide +kernel) rfl, tb_at 660 (by decide +kernel) rfl, tb_at 661 (by decide +kernel) rfl⟩
theorem lk_X1_96 : LkV RX1 96 mX3_clear := ⟨tb_at 664 (by decide +kernel) rfl, tb_at 665 (by decide +kernel) rfl, tb_at 666 (by decide +kernel) rfl⟩
theorem lk_X1_97 : LkV RX1 97 mX5_clear := ⟨tb_at 668 (by decide +kernel) rfl, tb_at 669 (by decide +kernel) rfl, tb_at 670 (by decide +kernel) rfl⟩
theorem lk_X1_98 : LkV RX1 98 mX2_clear := ⟨tb_at 672 (by decide +kernel) rfl, tb_at 673 (by decide +kernel) rfl, tb_at 674 (by decide +kernel) rfl⟩
theorem lk_X1_99 : LkS RX1 99 mJ7_fill_53178 := ⟨tb_at 677 (by decide +kernel) rfl, tb_at 70 (by decide +kernel) rfl⟩
theorem lk_X1_105 : LkV RX1 105 mX6_home := ⟨tb_at 678 (by decide +kernel) rfl, tb_at 302 (by decide +kernel) rfl, tb_at 303 (by decide +kernel) rfl⟩
theorem lk_X1_111 : LkV RX1 111 mX7_begin := ⟨tb_at 679 (by decide +kernel) rfl, tb_at 306 (by decide +kernel) rfl, tb_at 307 (by decide +kernel) rfl⟩
theorem lk_X1_115 : LkV RX1 115 mX1_keepTrial := ⟨tb_at 680 (by decide +kernel) rfl, tb_at 682 (by decide +kernel) rfl, tb_at 12 (by decide +kernel) rfl⟩
theorem lk_X1_119 : LkV RX1 119 mX8_load := ⟨tb_at 726 (by decide +kernel) rfl, tb_at 727 (by decide +kernel) rfl, tb_at 728 (by decide +kernel) rfl⟩
theorem lk_X1_123 : LkV RX1 123 mX9_list := ⟨tb_at 738 (by decide +kernel) rfl, tb_at 421 (by decide +kernel) rfl, tb_at 422 (by decide +kernel) rfl⟩
theorem lk_X1_127 : LkV RX1 127 mX7_isQuiet := ⟨tb_at 739 (by decide +kernel) rfl, tb_at 647 (by decide +kernel) rfl, tb_at 648 (by decide +kernel) rfl⟩
theorem lk_X1_131 : LkV RX1 131 mX2_markLeading := ⟨tb_at 740 (by decide +kernel) rfl, tb_at 741 (by decide +kernel) rfl, tb_at 742 (by decide +kernel) rfl⟩
theorem lk_X1_134 : LkV RX1 134 mX9_count := ⟨tb_at 748 (by decide +kernel) rfl, tb_at 498 (by decide +kernel) rfl, tb_at 499 (by decide +kernel) rfl⟩
theorem lk_X1_137 : LkV RX1 137 mX5_add := ⟨tb_at 749 (by decide +kernel) rfl, tb_at 745 (by decide +kernel) rfl, tb_at 746 (by decide +kernel) rfl⟩
theorem lk_X1_140 : LkV RX1 140 mX1_tryStep := ⟨tb_at 750 (by decide +kernel) rfl, tb_at 752 (by decide +kernel) rfl, tb_at 15 (by decide +kernel) rfl⟩
theorem lk_X1_144 : LkV RX1 144 mX2_spread := ⟨tb_at 774 (by decide +kernel) rfl, tb_at 775 (by decide +kernel) rfl, tb_at 776 (by decide +kernel) rfl⟩
theorem lk_X1_147 : LkV RX1 147 mX8_count := ⟨tb_at 684 (by decide +kernel) rfl, tb_at 685 (by decide +kernel) rfl, tb_at 686 (by decide +kernel) rfl⟩
theorem lk_X1_148 : LkV RX1 148 mX2_isLeading := ⟨tb_at 787 (by decide +kernel) rfl, tb_at 788 (by decide +kernel) rfl, tb_at 789 (by decide +kernel) rfl⟩
theorem lk_X1_152 : LkV RX1 152 mX9_placeAt := ⟨tb_at 754 (by decide +kernel) rfl, tb_at 537 (by decide +kernel) rfl, tb_at 538 (by decide +kernel) rfl⟩
theorem lk_X1_156 : LkV RX1 156 mX1_markUsed := ⟨tb_at 755 (by decide +kernel) rfl, tb_at 757 (by decide +kernel) rfl, tb_at 16 (by decide +kernel) rfl⟩
theorem lk_X1_159 : LkV RX1 159 mX7_copy := ⟨tb_at 760 (by decide +kernel) rfl, tb_at 526 (by decide +kernel) rfl, tb_at 527 (by decide +kernel) rfl⟩
theorem lk_X1_162 : LkV RX1 162 mX0_perform := ⟨tb_at 761 (by decide +kernel) rfl, tb_at 533 (by decide +kernel) rfl, tb_at 534 (by decide +kernel) rfl⟩
theorem lk_X1_168 : LkV RX1 168 mX3_add := ⟨tb_at 714 (by decide +kernel) rfl, tb_at 715 (by decide +kernel) rfl, tb_at 716 (by decide +kernel) rfl⟩
theorem lk_X1_171 : LkV RX1 171 mX8_find := ⟨tb_at 762 (by decide +kernel) rfl, tb_at 763 (by decide +kernel) rfl, tb_at 764 (by decide +kernel) rfl⟩
theorem lk_X1_175 : LkV RX1 175 mX2_addPath := ⟨tb_at 766 (by decide +kernel) rfl, tb_at 767 (by decide +kernel) rfl, tb_at 768 (by decide +kernel) rfl⟩
theorem lk_X1_178 : LkV RX1 178 mX6_hasRow := ⟨tb_at 759 (by decide +kernel) rfl, tb_at 384 (by decide +kernel) rfl, tb_at 385 (by decide +kernel) rfl⟩
theorem lk_X1_181 : LkV RX1 181 mX8_keep := ⟨tb_at 688 (by decide +kernel) rfl, tb_at 689 (by decide +kernel) rfl, tb_at 690 (by decide +kernel) rfl⟩
theorem lk_X1_184 : LkV RX1 184 mX2_addState := ⟨tb_at 709 (by decide +kernel) rfl, tb_at 710 (by decide +kernel) rfl, tb_at 711 (by decide +kernel) rfl⟩
theorem lk_X1_187 : LkV RX1 187 mX6_badnessOf := ⟨tb_at 713 (by decide +kernel) rfl, tb_at 642 (by decide +kernel) rfl, tb_at 643 (by decide +kernel) rfl⟩
theorem lk_X1_190 : LkV RX1 190 mX3_count := ⟨tb_at 803 (by decide +kernel) rfl, tb_at 804 (by decide +kernel) rfl, tb_at 805 (by decide +kernel) rfl⟩
theorem lk_X1_191 : LkV RX1 191 mX5_count := ⟨tb_at 807 (by decide +kernel) rfl, tb_at 779 (by decide +kernel) rfl, tb_at 780 (by decide +kernel) rfl⟩
theorem lk_X1_192 : LkV RX1 192 mX1_greatestDepth := ⟨tb_at 808 (by decide +kernel) rfl, tb_at 810 (by decide +kernel) rfl, tb_at 17 (by decide +kernel) rfl⟩
theorem lk_X1_195 : LkV RX1 195 mX3_ask := ⟨tb_at 820 (by decide +kernel) rfl, tb_at 821 (by decide +kernel) rfl, tb_at 822 (by decide +kernel) rfl⟩
theorem lk_X1_198 : LkV RX1 198 mX5_at := ⟨tb_at 832 (by decide +kernel) rfl, tb_at 783 (by decide +kernel) rfl, tb_at 784 (by decide +kernel) rfl⟩
theorem lk_X2_25 : LkI RX2 25 mX5_init := ⟨tb_at 235 (by decide +kernel) rfl, tb_at 217 (by decide +kernel) rfl, rfl⟩
theorem lk_X2_30 : LkV RX2 30 mX5_clear := ⟨tb_at 676 (by decide +kernel) rfl, tb_at 669 (by decide +kernel) rfl, tb_at 670 (by decide +kernel) rfl⟩
theorem lk_X2_33 : LkV RX2 33 mX5_add := ⟨tb_at 744 (by decide +kernel) rfl, tb_at 745 (by decide +kernel) rfl, tb_at 746 (by decide +kernel) rfl⟩
theorem lk_X2_37 : LkV RX2 37 mX5_count := ⟨tb_at 778 (by decide +kernel) rfl, tb_at 779 (by decide +kernel) rfl, tb_at 780 (by decide +kernel) rfl⟩
theorem lk_X2_41 : LkV RX2 41 mX5_at := ⟨tb_at 782 (by decide +kernel) rfl, tb_at 783 (by decide +kernel) rfl, tb_at 784 (by decide +kernel) rfl⟩
theorem lk_X2_45 : LkV RX2 45 mX2_markLeading := ⟨tb_at 786 (by decide +kernel) rfl, tb_at 741 (by decide +kernel) rfl, tb_at 742 (by decide +kernel) rfl⟩
theorem lk_X6_38 : LkS RX6 38 mJ7_fill_53178 := ⟨tb_at 69 (by decide +kernel) rfl, tb_at 70 (by decide +kernel) rfl⟩
theorem lk_X6_44 : LkV RX6 44 mX6_hasRow := ⟨tb_at 383 (by decide +kernel) rfl, tb_at 384 (by decide +kernel) rfl, tb_at 385 (by decide +kernel) rfl⟩
theorem lk_X6_52 : LkV RX6 52 mX6_hasWait := ⟨tb_at 388 (by decide +kernel) rfl, tb_at 390 (by decide +kernel) rfl, tb_at 2 (by decide +kernel) rfl⟩
theorem lk_X6_55 : LkV RX6 55 mX6_actOf := ⟨tb_at 392 (by decide +kernel) rfl, tb_at 393 (by decide +kernel) rfl, tb_at 394 (by decide +kernel) rfl⟩
theorem lk_X6_59 : LkS RX6 59 mX4_toOf := ⟨tb_at 477 (by decide +kernel) rfl, tb_at 478 (by decide +kernel) rfl⟩
theorem lk_X6_64 : LkS RX6 64 mX4_kindOf := ⟨tb_at 480 (by decide +kernel) rfl, tb_at 481 (by decide +kernel) rfl⟩
theorem lk_X6_67 : LkV RX6 67 mX7_stateOf := ⟨tb_at 483 (by decide +kernel) rfl, tb_at 438 (by decide +kernel) rfl, tb_at 439 (by decide +kernel) rfl⟩
theorem lk_X6_72 : LkV RX6 72 mX6_cachePlace := ⟨tb_at 484 (by decide +kernel) rfl, tb_at 442 (by decide +kernel) rfl, tb_at 443 (by decide +kernel) rfl⟩
theorem lk_X6_75 : LkV RX6 75 mX7_holders := ⟨tb_at 485 (by decide +kernel) rfl, tb_at 486 (by decide +kernel) rfl, tb_at 487 (by decide +kernel) rfl⟩
theorem lk_X6_79 : LkS RX6 79 mX4_forOf := ⟨tb_at 489 (by decide +kernel) rfl, tb_at 490 (by decide +kernel) rfl⟩
theorem lk_X6_82 : LkV RX6 82 mX7_freshOf := ⟨tb_at 645 (by decide +kernel) rfl, tb_at 596 (by decide +kernel) rfl, tb_at 597 (by decide +kernel) rfl⟩
theorem lk_X7_23 : LkS RX7 23 mJ7_fill_53178 := ⟨tb_at 309 (by decide +kernel) rfl, tb_at 70 (by decide +kernel) rfl⟩
theorem lk_X7_29 : LkV RX7 29 mX7_setFresh := ⟨tb_at 310 (by decide +kernel) rfl, tb_at 311 (by decide +kernel) rfl, tb_at 312 (by decide +kernel) rfl⟩
theorem lk_X7_39 : LkV RX7 39 mX7_part := ⟨tb_at 429 (by decide +kernel) rfl, tb_at 431 (by decide +kernel) rfl, tb_at 4 (by decide +kernel) rfl⟩
theorem lk_X7_43 : LkV RX7 43 mX7_setPart := ⟨tb_at 314 (by decide +kernel) rfl, tb_at 316 (by decide +kernel) rfl, tb_at 0 (by decide +kernel) rfl⟩
theorem lk_X7_49 : LkS RX7 49 mX4_shareOrder := ⟨tb_at 462 (by decide +kernel) rfl, tb_at 463 (by decide +kernel) rfl⟩
theorem lk_X7_55 : LkS RX7 55 mX4_lastAhead := ⟨tb_at 592 (by decide +kernel) rfl, tb_at 593 (by decide +kernel) rfl⟩
theorem lk_X7_59 : LkV RX7 59 mX7_setWant := ⟨tb_at 613 (by decide +kernel) rfl, tb_at 560 (by decide +kernel) rfl, tb_at 561 (by decide +kernel) rfl⟩
theorem lk_X7_64 : LkS RX7 64 mX4_staled := ⟨tb_at 615 (by decide +kernel) rfl, tb_at 616 (by decide +kernel) rfl⟩
theorem lk_X7_67 : LkV RX7 67 mX7_loadHalf := ⟨tb_at 734 (by decide +kernel) rfl, tb_at 736 (by decide +kernel) rfl, tb_at 14 (by decide +kernel) rfl⟩
theorem lk_X8_29 : LkS RX8 29 mJ7_fill_53178 := ⟨tb_at 663 (by decide +kernel) rfl, tb_at 70 (by decide +kernel) rfl⟩
theorem lk_X8_35 : LkV RX8 35 mX7_endsWord := ⟨tb_at 692 (by decide +kernel) rfl, tb_at 693 (by decide +kernel) rfl, tb_at 694 (by decide +kernel) rfl⟩
theorem lk_X8_41 : LkV RX8 41 mX7_lettersWord := ⟨tb_at 696 (by decide +kernel) rfl, tb_at 697 (by decide +kernel) rfl, tb_at 698 (by decide +kernel) rfl⟩
theorem lk_X8_45 : LkV RX8 45 mX8_slotOf := ⟨tb_at 700 (by decide +kernel) rfl, tb_at 702 (by decide +kernel) rfl, tb_at 13 (by decide +kernel) rfl⟩
theorem lk_X8_49 : LkV RX8 49 mX7_load := ⟨tb_at 730 (by decide +kernel) rfl, tb_at 731 (by decide +kernel) rfl, tb_at 732 (by decide +kernel) rfl⟩
theorem lk_X8_53 : LkS RX8 53 mX8_startOf := ⟨tb_at 704 (by decide +kernel) rfl, tb_at 705 (by decide +kernel) rfl⟩
theorem lk_X9_35 : LkV RX9 35 mX6_home := ⟨tb_at 424 (by decide +kernel) rfl, tb_at 302 (by decide +kernel) rfl, tb_at 303 (by decide +kernel) rfl⟩
theorem lk_X9_41 : LkV RX9 41 mX7_wantOf := ⟨tb_at 425 (by decide +kernel) rfl, tb_at 426 (by decide +kernel) rfl, tb_at 427 (by decide +kernel) rfl⟩
theorem lk_X9_47 : LkV RX9 47 mX9_listOwn := ⟨tb_at 433 (by decide +kernel) rfl, tb_at 435 (by decide +kernel) rfl, tb_at 5 (by decide +kernel) rfl⟩
theorem lk_X9_51 : LkV RX9 51 mX7_letterCount := ⟨tb_at 454 (by decide +kernel) rfl, tb_at 455 (by decide +kernel) rfl, tb_at 456 (by decide +kernel) rfl⟩
theorem lk_X9_54 : LkV RX9 54 mX7_isBehindAnother := ⟨tb_at 458 (by decide +kernel) rfl, tb_at 459 (by decide +kernel) rfl, tb_at 460 (by decide +kernel) rfl⟩
theorem lk_X9_58 : LkV RX9 58 mX9_listComing := ⟨tb_at 465 (by decide +kernel) rfl, tb_at 467 (by decide +kernel) rfl, tb_at 7 (by decide +kernel) rfl⟩
theorem lk_X9_61 : LkV RX9 61 mX7_stateOf := ⟨tb_at 437 (by decide +kernel) rfl, tb_at 438 (by decide +kernel) rfl, tb_at 439 (by decide +kernel) rfl⟩
theorem lk_X9_64 : LkV RX9 64 mX6_cachePlace := ⟨tb_at 441 (by decide +kernel) rfl, tb_at 442 (by decide +kernel) rfl, tb_at 443 (by decide +kernel) rfl⟩
theorem lk_X9_68 : LkV RX9 68 mX6_hasRow := ⟨tb_at 445 (by decide +kernel) rfl, tb_at 384 (by decide +kernel) rfl, tb_at 385 (by decide +kernel) rfl⟩
theorem lk_X9_71 : LkV RX9 71 mX6_waitsAt := ⟨tb_at 446 (by decide +kernel) rfl, tb_at 447 (by decide +kernel) rfl, tb_at 448 (by decide +kernel) rfl⟩
theorem lk_X9_74 : LkV RX9 74 mX9_add := ⟨tb_at 450 (by decide +kernel) rfl, tb_at 452 (by decide +kernel) rfl, tb_at 6 (by decide +kernel) rfl⟩
theorem lk_X9_78 : LkV RX9 78 mX7_letterAt := ⟨tb_at 469 (by decide +kernel) rfl, tb_at 470 (by decide +kernel) rfl, tb_at 471 (by decide +kernel) rfl⟩
theorem lk_X9_81 : LkV RX9 81 mX6_letterPlace := ⟨tb_at 473 (by decide +kernel) rfl, tb_at 474 (by decide +kernel) rfl, tb_at 475 (by decide +kernel) rfl⟩
theorem lk_X9_85 : LkS RX9 85 mX4_toOf := ⟨tb_at 492 (by decide +kernel) rfl, tb_at 478 (by decide +kernel) rfl⟩
theorem lk_X9_90 : LkS RX9 90 mX4_kindOf := ⟨tb_at 493 (by decide +kernel) rfl, tb_at 481 (by decide +kernel) rfl⟩
theorem lk_X9_93 : LkS RX9 93 mX4_fromOf := ⟨tb_at 494 (by decide +kernel) rfl, tb_at 495 (by decide +kernel) rfl⟩
theorem lk_X10_11 : LkI RX10 11 mX6_init := ⟨tb_at 65 (by decide +kernel) rfl, tb_at 66 (by decide +kernel) rfl, rfl⟩
theorem lk_X10_18 : LkI RX10 18 mX0_init := ⟨tb_at 101 (by decide +kernel) rfl, tb_at 102 (by decide +kernel) rfl, rfl⟩
theorem lk_X10_27 : LkI RX10 27 mX7_init := ⟨tb_at 120 (by decide +kernel) rfl, tb_at 121 (by decide +kernel) rfl, rfl⟩
theorem lk_X10_37 : LkI RX10 37 mX9_init := ⟨tb_at 136 (by decide +kernel) rfl, tb_at 137 (by decide +kernel) rfl, rfl⟩
theorem lk_X10_44 : LkI RX10 44 mX1_init := ⟨tb_at 164 (by decide +kernel) rfl, tb_at 165 (by decide +kernel) rfl, rfl⟩
theorem lk_X10_55 : LkV RX10 55 mX6_home := ⟨tb_at 301 (by decide +kernel) rfl, tb_at 302 (by decide +kernel) rfl, tb_at 303 (by decide +kernel) rfl⟩
theorem lk_X10_59 : LkV RX10 59 mX7_begin := ⟨tb_at 305 (by decide +kernel) rfl, tb_at 306 (by decide +kernel) rfl, tb_at 307 (by decide +kernel) rfl⟩
theorem lk_X10_63 : LkV RX10 63 mX6_setHome := ⟨tb_at 345 (by decide +kernel) rfl, tb_at 346 (by decide +kernel) rfl, tb_at 347 (by decide +kernel) rfl⟩
theorem lk_X10_67 : LkV RX10 67 mX10_beginAnew := ⟨tb_at 349 (by decide +kernel) rfl, tb_at 351 (by decide +kernel) rfl, tb_at 1 (by decide +kernel) rfl⟩
theorem lk_X10_70 : LkV RX10 70 mX6_setLoose := ⟨tb_at 357 (by decide +kernel) rfl, tb_at 358 (by decide +kernel) rfl, tb_at 359 (by decide +kernel) rfl⟩
theorem lk_X10_74 : LkV RX10 74 mX6_setRight := ⟨tb_at 365 (by decide +kernel) rfl, tb_at 366 (by decide +kernel) rfl, tb_at 367 (by decide +kernel) rfl⟩
theorem lk_X10_77 : LkS RX10 77 mX10_placeOf := ⟨tb_at 373 (by decide +kernel) rfl, tb_at 374 (by decide +kernel) rfl⟩
theorem lk_X10_80 : LkV RX10 80 mX6_putRow := ⟨tb_at 379 (by decide +kernel) rfl, tb_at 380 (by decide +kernel) rfl, tb_at 381 (by decide +kernel) rfl⟩
theorem lk_X10_84 : LkV RX10 84 mX6_dropRow := ⟨tb_at 400 (by decide +kernel) rfl, tb_at 401 (by decide +kernel) rfl, tb_at 402 (by decide +kernel) rfl⟩
theorem lk_X10_87 : LkV RX10 87 mX6_countRows := ⟨tb_at 408 (by decide +kernel) rfl, tb_at 409 (by decide +kernel) rfl, tb_at 410 (by decide +kernel) rfl⟩
theorem lk_X10_90 : LkV RX10 90 mX10_countChoices := ⟨tb_at 416 (by decide +kernel) rfl, tb_at 418 (by decide +kernel) rfl, tb_at 3 (by decide +kernel) rfl⟩
theorem lk_X10_93 : LkV RX10 93 mX9_endOf := ⟨tb_at 509 (by decide +kernel) rfl, tb_at 510 (by decide +kernel) rfl, tb_at 511 (by decide +kernel) rfl⟩
theorem lk_X10_96 : LkV RX10 96 mX9_eventOf := ⟨tb_at 513 (by decide +kernel) rfl, tb_at 514 (by decide +kernel) rfl, tb_at 515 (by decide +kernel) rfl⟩
theorem lk_X10_99 : LkV RX10 99 mX9_senderOf := ⟨tb_at 517 (by decide +kernel) rfl, tb_at 518 (by decide +kernel) rfl, tb_at 519 (by decide +kernel) rfl⟩
theorem lk_X10_102 : LkV RX10 102 mX7_copy := ⟨tb_at 525 (by decide +kernel) rfl, tb_at 526 (by decide +kernel) rfl, tb_at 527 (by decide +kernel) rfl⟩
theorem lk_X10_106 : LkV RX10 106 mX0_perform := ⟨tb_at 532 (by decide +kernel) rfl, tb_at 533 (by decide +kernel) rfl, tb_at 534 (by decide +kernel) rfl⟩
theorem lk_X10_110 : LkV RX10 110 mX7_stateOf := ⟨tb_at 622 (by decide +kernel) rfl, tb_at 438 (by decide +kernel) rfl, tb_at 439 (by decide +kernel) rfl⟩
theorem lk_X10_113 : LkV RX10 113 mX7_freshOf := ⟨tb_at 623 (by decide +kernel) rfl, tb_at 596 (by decide +kernel) rfl, tb_at 597 (by decide +kernel) rfl⟩
theorem lk_X10_116 : LkV RX10 116 mX7_holders := ⟨tb_at 624 (by decide +kernel) rfl, tb_at 486 (by decide +kernel) rfl, tb_at 487 (by decide +kernel) rfl⟩
theorem lk_X10_119 : LkV RX10 119 mX7_wantOf := ⟨tb_at 625 (by decide +kernel) rfl, tb_at 426 (by decide +kernel) rfl, tb_at 427 (by decide +kernel) rfl⟩
theorem lk_X10_122 : LkV RX10 122 mX7_letterCount := ⟨tb_at 630 (by decide +kernel) rfl, tb_at 455 (by decide +kernel) rfl, tb_at 456 (by decide +kernel) rfl⟩
theorem lk_X10_125 : LkV RX10 125 mX7_letterAt := ⟨tb_at 631 (by decide +kernel) rfl, tb_at 470 (by decide +kernel) rfl, tb_at 471 (by decide +kernel) rfl⟩
theorem lk_X10_128 : LkS RX10 128 mX4_kindOf := ⟨tb_at 632 (by decide +kernel) rfl, tb_at 481 (by decide +kernel) rfl⟩
theorem lk_X10_133 : LkS RX10 133 mX4_fromOf := ⟨tb_at 633 (by decide +kernel) rfl, tb_at 495 (by decide +kernel) rfl⟩
theorem lk_X10_136 : LkS RX10 136 mX4_toOf := ⟨tb_at 634 (by decide +kernel) rfl, tb_at 478 (by decide +kernel) rfl⟩
theorem lk_X10_139 : LkS RX10 139 mX4_forOf := ⟨tb_at 635 (by decide +kernel) rfl, tb_at 490 (by decide +kernel) rfl⟩
theorem lk_X10_142 : LkS RX10 142 mX4_freshOf := ⟨tb_at 636 (by decide +kernel) rfl, tb_at 556 (by decide +kernel) rfl⟩
theorem lk_X10_143 : LkV RX10 143 mX6_badnessOf := ⟨tb_at 641 (by decide +kernel) rfl, tb_at 642 (by decide +kernel) rfl, tb_at 643 (by decide +kernel) rfl⟩
theorem lk_X10_147 : LkV RX10 147 mX7_isQuiet := ⟨tb_at 646 (by decide +kernel) rfl, tb_at 647 (by decide +kernel) rfl, tb_at 648 (by decide +kernel) rfl⟩
theorem lk_X10_151 : LkV RX10 151 mX1_begin := ⟨tb_at 655 (by decide +kernel) rfl, tb_at 656 (by decide +kernel) rfl, tb_at 657 (by decide +kernel) rfl⟩
theorem lk_X10_152 : LkV RX10 152 mX1_countStates := ⟨tb_at 718 (by decide +kernel) rfl, tb_at 719 (by decide +kernel) rfl, tb_at 720 (by decide +kernel) rfl⟩
theorem lk_X10_155 : LkV RX10 155 mX1_visit := ⟨tb_at 722 (by decide +kernel) rfl, tb_at 723 (by decide +kernel) rfl, tb_at 724 (by decide +kernel) rfl⟩
theorem lk_X10_158 : LkV RX10 158 mX1_finish := ⟨tb_at 770 (by decide +kernel) rfl, tb_at 771 (by decide +kernel) rfl, tb_at 772 (by decide +kernel) rfl⟩
theorem lk_X10_161 : LkV RX10 161 mX1_isSpent := ⟨tb_at 791 (by decide +kernel) rfl, tb_at 792 (by decide +kernel) rfl, tb_at 793 (by decide +kernel) rfl⟩
theorem lk_X10_164 : LkV RX10 164 mX1_figure := ⟨tb_at 799 (by decide +kernel) rfl, tb_at 800 (by decide +kernel) rfl, tb_at 801 (by decide +kernel) rfl⟩
theorem lk_X10_167 : LkV RX10 167 mX1_badAt := ⟨tb_at 816 (by decide +kernel) rfl, tb_at 817 (by decide +kernel) rfl, tb_at 818 (by decide +kernel) rfl⟩
theorem lk_X10_170 : LkV RX10 170 mX1_stuckAt := ⟨tb_at 828 (by decide +kernel) rfl, tb_at 829 (by decide +kernel) rfl, tb_at 830 (by decide +kernel) rfl⟩
theorem lk_X10_173 : LkV RX10 173 mX1_lostAt := ⟨tb_at 833 (by decide +kernel) rfl, tb_at 834 (by decide +kernel) rfl, tb_at 835 (by decide +kernel) rfl⟩
theorem lk_X10_176 : LkV RX10 176 mX1_hasState := ⟨tb_at 841 (by decide +kernel) rfl, tb_at 842 (by decide +kernel) rfl, tb_at 843 (by decide +kernel) rfl⟩
theorem lk_X10_180 : LkV RX10 180 mX1_depthOf := ⟨tb_at 845 (by decide +kernel) rfl, tb_at 846 (by decide +kernel) rfl, tb_at 847 (by decide +kernel) rfl⟩
theorem lk_X10_183 : LkV RX10 183 mX1_stepTowards := ⟨tb_at 853 (by decide +kernel) rfl, tb_at 854 (by decide +kernel) rfl, tb_at 855 (by decide +kernel) rfl⟩
theorem lk_X10_186 : LkV RX10 186 mX1_load := ⟨tb_at 861 (by decide +kernel) rfl, tb_at 862 (by decide +kernel) rfl, tb_at 863 (by decide +kernel) rfl⟩
theorem lk_X10_190 : LkV RX10 190 mX1_numberOf := ⟨tb_at 869 (by decide +kernel) rfl, tb_at 870 (by decide +kernel) rfl, tb_at 871 (by decide +kernel) rfl⟩
theorem lk_X10_193 : LkV RX10 193 mX6_hasRow := ⟨tb_at 877 (by decide +kernel) rfl, tb_at 384 (by decide +kernel) rfl, tb_at 385 (by decide +kernel) rfl⟩
theorem lk_X10_196 : LkV RX10 196 mX1_usedAt := ⟨tb_at 878 (by decide +kernel) rfl, tb_at 879 (by decide +kernel) rfl, tb_at 880 (by decide +kernel) rfl⟩
theorem lk_X10_199 : LkV RX10 199 mX9_list := ⟨tb_at 420 (by decide +kernel) rfl, tb_at 421 (by decide +kernel) rfl, tb_at 422 (by decide +kernel) rfl⟩
theorem lk_X10_202 : LkV RX10 202 mX9_count := ⟨tb_at 497 (by decide +kernel) rfl, tb_at 498 (by decide +kernel) rfl, tb_at 499 (by decide +kernel) rfl⟩
theorem lk_X10_205 : LkS RX10 205 mX10_sideOf := ⟨tb_at 376 (by decide +kernel) rfl, tb_at 377 (by decide +kernel) rfl⟩
theorem lk_X11_91 : LkV RX11 91 mX11_first := ⟨tb_at 890 (by decide +kernel) rfl, tb_at 892 (by decide +kernel) rfl, tb_at 18 (by decide +kernel) rfl⟩
theorem lk_X11_94 : LkS RX11 94 mX11_copy := ⟨tb_at 894 (by decide +kernel) rfl, tb_at 895 (by decide +kernel) rfl⟩
theorem lk_X11_98 : LkV RX11 98 mX11_changed := ⟨tb_at 1007 (by decide +kernel) rfl, tb_at 1009 (by decide +kernel) rfl, tb_at 19 (by decide +kernel) rfl⟩
theorem lk_X11_101 : LkS RX11 101 mX11_placeOf := ⟨tb_at 1023 (by decide +kernel) rfl, tb_at 1024 (by decide +kernel) rfl⟩
theorem lk_X11_105 : LkV RX11 105 mX11_letterAt := ⟨tb_at 1054 (by decide +kernel) rfl, tb_at 1056 (by decide +kernel) rfl, tb_at 24 (by decide +kernel) rfl⟩
theorem lk_X11_112 : LkV RX11 112 mX11_waits := ⟨tb_at 1046 (by decide +kernel) rfl, tb_at 1048 (by decide +kernel) rfl, tb_at 22 (by decide +kernel) rfl⟩
theorem lk_X11_116 : LkV RX11 116 mX11_addStep := ⟨tb_at 1050 (by decide +kernel) rfl, tb_at 1052 (by decide +kernel) rfl, tb_at 23 (by decide +kernel) rfl⟩
theorem lk_X11_120 : LkV RX11 120 mX11_rowOfLetter := ⟨tb_at 1058 (by decide +kernel) rfl, tb_at 1060 (by decide +kernel) rfl, tb_at 25 (by decide +kernel) rfl⟩
theorem lk_X11_123 : LkS RX11 123 mX11_compareLetters := ⟨tb_at 1094 (by decide +kernel) rfl, tb_at 1095 (by decide +kernel) rfl⟩
theorem lk_X11_126 : LkV RX11 126 mX11_isAhead := ⟨tb_at 1090 (by decide +kernel) rfl, tb_at 1092 (by decide +kernel) rfl, tb_at 30 (by decide +kernel) rfl⟩
theorem lk_X11_139 : LkV RX11 139 mX11_send := ⟨tb_at 1086 (by decide +kernel) rfl, tb_at 1088 (by decide +kernel) rfl, tb_at 29 (by decide +kernel) rfl⟩
theorem lk_X11_143 : LkV RX11 143 mX11_stale := ⟨tb_at 1097 (by decide +kernel) rfl, tb_at 1099 (by decide +kernel) rfl, tb_at 31 (by decide +kernel) rfl⟩
theorem lk_X11_147 : LkV RX11 147 mX11_takeLetter := ⟨tb_at 1078 (by decide +kernel) rfl, tb_at 1080 (by decide +kernel) rfl, tb_at 27 (by decide +kernel) rfl⟩
theorem lk_X11_153 : LkV RX11 153 mX11_cacheActs := ⟨tb_at 1082 (by decide +kernel) rfl, tb_at 1084 (by decide +kernel) rfl, tb_at 28 (by decide +kernel) rfl⟩
theorem lk_X11_157 : LkV RX11 157 mX11_homeActs := ⟨tb_at 1101 (by decide +kernel) rfl, tb_at 1103 (by decide +kernel) rfl, tb_at 32 (by decide +kernel) rfl⟩
theorem lk_X11_160 : LkV RX11 160 mX11_findSteps := ⟨tb_at 1042 (by decide +kernel) rfl, tb_at 1044 (by decide +kernel) rfl, tb_at 21 (by decide +kernel) rfl⟩
theorem lk_X11_163 : LkV RX11 163 mX11_toRun := ⟨tb_at 1038 (by decide +kernel) rfl, tb_at 1040 (by decide +kernel) rfl, tb_at 20 (by decide +kernel) rfl⟩
theorem lk_X11_166 : LkV RX11 166 mX11_doStep := ⟨tb_at 1074 (by decide +kernel) rfl, tb_at 1076 (by decide +kernel) rfl, tb_at 26 (by decide +kernel) rfl⟩
theorem lk_X11_169 : LkV RX11 169 mX11_badNow := ⟨tb_at 1117 (by decide +kernel) rfl, tb_at 1119 (by decide +kernel) rfl, tb_at 33 (by decide +kernel) rfl⟩
theorem lk_X11_173 : LkV RX11 173 mX11_isQuiet := ⟨tb_at 1121 (by decide +kernel) rfl, tb_at 1123 (by decide +kernel) rfl, tb_at 34 (by decide +kernel) rfl⟩
theorem lk_X11_179 : LkS RX11 179 mX11_sumOf := ⟨tb_at 1133 (by decide +kernel) rfl, tb_at 1134 (by decide +kernel) rfl⟩
theorem lk_X11_192 : LkV RX11 192 mX11_addBad := ⟨tb_at 1137 (by decide +kernel) rfl, tb_at 1139 (by decide +kernel) rfl, tb_at 36 (by decide +kernel) rfl⟩
theorem lk_X11_202 : LkV RX11 202 mX11_add := ⟨tb_at 1129 (by decide +kernel) rfl, tb_at 1131 (by decide +kernel) rfl, tb_at 35 (by decide +kernel) rfl⟩
theorem lk_X11_205 : LkV RX11 205 mX11_from := ⟨tb_at 1141 (by decide +kernel) rfl, tb_at 1143 (by decide +kernel) rfl, tb_at 37 (by decide +kernel) rfl⟩
theorem lk_X11_209 : LkV RX11 209 mX11_lead := ⟨tb_at 1149 (by decide +kernel) rfl, tb_at 1151 (by decide +kernel) rfl, tb_at 39 (by decide +kernel) rfl⟩
theorem lk_X11_212 : LkV RX11 212 mX11_numberOf := ⟨tb_at 1145 (by decide +kernel) rfl, tb_at 1147 (by decide +kernel) rfl, tb_at 38 (by decide +kernel) rfl⟩
theorem lk_L_9 : LkI RL 9 mX10_init := ⟨tb_at 57 (by decide +kernel) rfl, tb_at 58 (by decide +kernel) rfl, rfl⟩
theorem lk_L_12 : LkI RL 12 mX11_init := ⟨tb_at 884 (by decide +kernel) rfl, tb_at 885 (by decide +kernel) rfl, rfl⟩
theorem lk_L_13 : LkV RL 13 mX10_processors := ⟨tb_at 341 (by decide +kernel) rfl, tb_at 342 (by decide +kernel) rfl, tb_at 343 (by decide +kernel) rfl⟩
theorem lk_L_17 : LkV RL 17 mX11_processors := ⟨tb_at 1003 (by decide +kernel) rfl, tb_at 1004 (by decide +kernel) rfl, tb_at 1005 (by decide +kernel) rfl⟩
theorem lk_L_18 : LkV RL 18 mX10_net := ⟨tb_at 353 (by decide +kernel) rfl, tb_at 354 (by decide +kernel) rfl, tb_at 355 (by decide +kernel) rfl⟩
theorem lk_L_22 : LkV RL 22 mX11_net := ⟨tb_at 1011 (by decide +kernel) rfl, tb_at 1012 (by decide +kernel) rfl, tb_at 1013 (by decide +kernel) rfl⟩
theorem lk_L_23 : LkV RL 23 mX10_right := ⟨tb_at 361 (by decide +kernel) rfl, tb_at 362 (by decide +kernel) rfl, tb_at 363 (by decide +kernel) rfl⟩
theorem lk_L_26 : LkV RL 26 mX11_right := ⟨tb_at 1015 (by decide +kernel) rfl, tb_at 1016 (by decide +kernel) rfl, tb_at 1017 (by decide +kernel) rfl⟩
theorem lk_L_27 : LkV RL 27 mX10_row := ⟨tb_at 369 (by decide +kernel) rfl, tb_at 370 (by decide +kernel) rfl, tb_at 371 (by decide +kernel) rfl⟩
theorem lk_L_31 : LkV RL 31 mX11_row := ⟨tb_at 1019 (by decide +kernel) rfl, tb_at 1020 (by decide +kernel) rfl, tb_at 1021 (by decide +kernel) rfl⟩
theorem lk_L_32 : LkV RL 32 mX10_tear := ⟨tb_at 396 (by decide +kernel) rfl, tb_at 397 (by decide +kernel) rfl, tb_at 398 (by decide +kernel) rfl⟩
theorem lk_L_35 : LkV RL 35 mX11_tear := ⟨tb_at 1026 (by decide +kernel) rfl, tb_at 1027 (by decide +kernel) rfl, tb_at 1028 (by decide +kernel) rfl⟩
theorem lk_L_36 : LkV RL 36 mX10_rows := ⟨tb_at 404 (by decide +kernel) rfl, tb_at 405 (by decide +kernel) rfl, tb_at 406 (by decide +kernel) rfl⟩
theorem lk_L_39 : LkV RL 39 mX11_rows := ⟨tb_at 1030 (by decide +kernel) rfl, tb_at 1031 (by decide +kernel) rfl, tb_at 1032 (by decide +kernel) rfl⟩
theorem lk_L_40 : LkV RL 40 mX10_reset := ⟨tb_at 412 (by decide +kernel) rfl, tb_at 413 (by decide +kernel) rfl, tb_at 414 (by decide +kernel) rfl⟩
theorem lk_L_44 : LkV RL 44 mX11_reset := ⟨tb_at 1034 (by decide +kernel) rfl, tb_at 1035 (by decide +kernel) rfl, tb_at 1036 (by decide +kernel) rfl⟩
theorem lk_L_45 : LkV RL 45 mX10_steps := ⟨tb_at 501 (by decide +kernel) rfl, tb_at 502 (by decide +kernel) rfl, tb_at 503 (by decide +kernel) rfl⟩
theorem lk_L_48 : LkV RL 48 mX11_steps := ⟨tb_at 1062 (by decide +kernel) rfl, tb_at 1063 (by decide +kernel) rfl, tb_at 1064 (by decide +kernel) rfl⟩
theorem lk_L_49 : LkV RL 49 mX10_step := ⟨tb_at 505 (by decide +kernel) rfl, tb_at 506 (by decide +kernel) rfl, tb_at 507 (by decide +kernel) rfl⟩
theorem lk_L_52 : LkV RL 52 mX11_step := ⟨tb_at 1066 (by decide +kernel) rfl, tb_at 1067 (by decide +kernel) rfl, tb_at 1068 (by decide +kernel) rfl⟩
theorem lk_L_53 : LkV RL 53 mX10_choose := ⟨tb_at 521 (by decide +kernel) rfl, tb_at 522 (by decide +kernel) rfl, tb_at 523 (by decide +kernel) rfl⟩
theorem lk_L_56 : LkV RL 56 mX11_choose := ⟨tb_at 1070 (by decide +kernel) rfl, tb_at 1071 (by decide +kernel) rfl, tb_at 1072 (by decide +kernel) rfl⟩
theorem lk_L_57 : LkV RL 57 mX10_end := ⟨tb_at 618 (by decide +kernel) rfl, tb_at 619 (by decide +kernel) rfl, tb_at 620 (by decide +kernel) rfl⟩
theorem lk_L_60 : LkV RL 60 mX11_end := ⟨tb_at 1105 (by decide +kernel) rfl, tb_at 1106 (by decide +kernel) rfl, tb_at 1107 (by decide +kernel) rfl⟩
theorem lk_L_61 : LkV RL 61 mX10_letter := ⟨tb_at 626 (by decide +kernel) rfl, tb_at 627 (by decide +kernel) rfl, tb_at 628 (by decide +kernel) rfl⟩
theorem lk_L_64 : LkV RL 64 mX11_letter := ⟨tb_at 1109 (by decide +kernel) rfl, tb_at 1110 (by decide +kernel) rfl, tb_at 1111 (by decide +kernel) rfl⟩
theorem lk_L_65 : LkV RL 65 mX10_now := ⟨tb_at 637 (by decide +kernel) rfl, tb_at 638 (by decide +kernel) rfl, tb_at 639 (by decide +kernel) rfl⟩
theorem lk_L_68 : LkV RL 68 mX11_now := ⟨tb_at 1113 (by decide +kernel) rfl, tb_at 1114 (by decide +kernel) rfl, tb_at 1115 (by decide +kernel) rfl⟩
theorem lk_L_69 : LkV RL 69 mX10_walk := ⟨tb_at 651 (by decide +kernel) rfl, tb_at 652 (by decide +kernel) rfl, tb_at 653 (by decide +kernel) rfl⟩
theorem lk_L_72 : LkV RL 72 mX11_walk := ⟨tb_at 1125 (by decide +kernel) rfl, tb_at 1126 (by decide +kernel) rfl, tb_at 1127 (by decide +kernel) rfl⟩
theorem lk_L_73 : LkV RL 73 mX10_walked := ⟨tb_at 795 (by decide +kernel) rfl, tb_at 796 (by decide +kernel) rfl, tb_at 797 (by decide +kernel) rfl⟩
theorem lk_L_76 : LkV RL 76 mX11_walked := ⟨tb_at 1153 (by decide +kernel) rfl, tb_at 1154 (by decide +kernel) rfl, tb_at 1155 (by decide +kernel) rfl⟩
theorem lk_L_77 : LkV RL 77 mX10_bad := ⟨tb_at 812 (by decide +kernel) rfl, tb_at 813 (by decide +kernel) rfl, tb_at 814 (by decide +kernel) rfl⟩
theorem lk_L_80 : LkV RL 80 mX11_bad := ⟨tb_at 1157 (by decide +kernel) rfl, tb_at 1158 (by decide +kernel) rfl, tb_at 1159 (by decide +kernel) rfl⟩
theorem lk_L_81 : LkV RL 81 mX10_found := ⟨tb_at 824 (by decide +kernel) rfl, tb_at 825 (by decide +kernel) rfl, tb_at 826 (by decide +kernel) rfl⟩
theorem lk_L_84 : LkV RL 84 mX11_found := ⟨tb_at 1161 (by decide +kernel) rfl, tb_at 1162 (by decide +kernel) rfl, tb_at 1163 (by decide +kernel) rfl⟩
theorem lk_L_85 : LkV RL 85 mX10_far := ⟨tb_at 837 (by decide +kernel) rfl, tb_at 838 (by decide +kernel) rfl, tb_at 839 (by decide +kernel) rfl⟩
theorem lk_L_88 : LkV RL 88 mX11_far := ⟨tb_at 1165 (by decide +kernel) rfl, tb_at 1166 (by decide +kernel) rfl, tb_at 1167 (by decide +kernel) rfl⟩
theorem lk_L_89 : LkV RL 89 mX10_way := ⟨tb_at 849 (by decide +kernel) rfl, tb_at 850 (by decide +kernel) rfl, tb_at 851 (by decide +kernel) rfl⟩
theorem lk_L_92 : LkV RL 92 mX11_way := ⟨tb_at 1169 (by decide +kernel) rfl, tb_at 1170 (by decide +kernel) rfl, tb_at 1171 (by decide +kernel) rfl⟩
theorem lk_L_93 : LkV RL 93 mX10_go := ⟨tb_at 857 (by decide +kernel) rfl, tb_at 858 (by decide +kernel) rfl, tb_at 859 (by decide +kernel) rfl⟩
theorem lk_L_96 : LkV RL 96 mX11_go := ⟨tb_at 1173 (by decide +kernel) rfl, tb_at 1174 (by decide +kernel) rfl, tb_at 1175 (by decide +kernel) rfl⟩
theorem lk_L_97 : LkV RL 97 mX10_number := ⟨tb_at 865 (by decide +kernel) rfl, tb_at 866 (by decide +kernel) rfl, tb_at 867 (by decide +kernel) rfl⟩
theorem lk_L_100 : LkV RL 100 mX11_number := ⟨tb_at 1177 (by decide +kernel) rfl, tb_at 1178 (by decide +kernel) rfl, tb_at 1179 (by decide +kernel) rfl⟩
theorem lk_L_101 : LkV RL 101 mX10_used := ⟨tb_at 873 (by decide +kernel) rfl, tb_at 874 (by decide +kernel) rfl, tb_at 875 (by decide +kernel) rfl⟩
theorem lk_L_104 : LkV RL 104 mX11_used := ⟨tb_at 1181 (by decide +kernel) rfl, tb_at 1182 (by decide +kernel) rfl, tb_at 1183 (by decide +kernel) rfl⟩
end
section
theorem ar_nat : Cond.native arraycopyName ∈ tb := tb_at 531 (by decide +kernel) rfl
theorem ar_stat : Cond.static arraycopyName ∈ tb := tb_at 530 (by decide +kernel) rfl
theorem ar_ini : Cond.initialized "java/lang/System" ∈ tb := tb_at 54 (by decide +kernel) rfl
theorem ar_0 : Cond.arrayClass (newarray.typeOf .int) ∈ tb := tb_at 97 (by decide +kernel) rfl
theorem ar_1 : Cond.arrayClass (newarray.typeOf .boolean) ∈ tb := tb_at 98 (by decide +kernel) rfl
theorem ar_2 : Cond.arrayClass (newarray.typeOf .long) ∈ tb := tb_at 194 (by decide +kernel) rfl
theorem so_stat : Cond.static yX10_sideOf ∈ tb := tb_at 377 (by decide +kernel) rfl
theorem oi_inst : Cond.instanceMethod objectInit ∈ tb := tb_at 61 (by decide +kernel) rfl
theorem oi_code : Cond.code objectInit ⟨#[0xb1]⟩ 1 none ∈ tb := tb_at 62 (by decide +kernel) rfl
/-! ===== a logic of frames over an explicit heap: cell k of the list stands at address b + k ===== -/
abbrev AC : Type := (Nat × vp_A) ⊕ (Nat × List Value)
def rv (b : Nat) (v : Value) : Value := match v with
  | .ref k => .ref (b + k)
  | .int x => .int x
  | .long x => .long x
  | .float x => .float x
  | .double x => .double x
  | .null => .null
  | .retAddr x => .retAddr x
def rc (b : Nat) (dA : Nat → ClassId) (c : AC) : va_E := match c with
  | .inl a => .inl (dA a.1, a.2)
  | .inr f => .inr (f.1, f.2.map (rv b))
def rz (b : Nat) (dA : Nat → ClassId) (h : List AC) : va_W := h.mapIdx (fun k c => (b + k, rc b dA c))
theorem rv_cat (b : Nat) (v : Value) : (rv b v).category = v.category := by cases v <;> rfl
theorem rv_cats (b : Nat) (vs : List Value) : ((vs.map (rv b)).map fun v => v.category).sum = (vs.map fun v => v.category).sum := by
  rw [List.map_map]
  congr 1
  exact List.map_congr_left (fun v _ => rv_cat b v)
theorem rv_narrow {b : Nat} {ty : FieldType} {v : Value} (h : narrow ty v = v) : narrow ty (rv b v) = rv b v := by
  cases v <;> first | exact h | (cases ty <;> rfl)
theorem rv_fits {b : Nat} {ty : FieldType} {v : Value} (h : fits ty v = true) : fits ty (rv b v) = true := by
  cases v <;> first | exact h | (cases ty <;> first | exact h | rfl)
theorem rz_len (b : Nat) (dA : Nat → ClassId) (h : List AC) : (rz b dA h).length = h.length := by simp [rz]
theorem rz_at {b : Nat} {dA : Nat → ClassId} {h : List AC} {k : Nat} {c : AC} (e : h[k]? = some c) : (rz b dA h)[k]? = some (b + k, rc b dA c) := by simp [rz, List.getElem?_mapIdx, e]
theorem rz_of {b : Nat} {dA : Nat → ClassId} {h : List AC} {k : Nat} {q : Nat × va_E} (e : (rz b dA h)[k]? = some q) : ∃ c, h[k]? = some c ∧ q = (b + k, rc b dA c) := by
  simp only [rz, List.getElem?_mapIdx, Option.map_eq_some_iff] at e
  obtain ⟨c, h1, h2⟩ := e
  exact ⟨c, h1, h2.symm⟩
theorem rz_set (b : Nat) (dA : Nat → ClassId) (h : List AC) (k : Nat) (c : AC) : (rz b dA h).set k (b + k, rc b dA c) = rz b dA (h.set k c) := by
  apply List.ext_getElem?
  intro i
  by_cases hi : i = k
  · subst hi
    by_cases hl : i < h.length
    · rw [List.getElem?_set_self (by rw [rz_len]; exact hl), rz_at (List.getElem?_set_self hl)]
    · rw [List.getElem?_eq_none (by simp [rz_len]; omega), List.getElem?_eq_none (by simp [rz_len]; omega)]
  · rw [List.getElem?_set_ne (Ne.symm hi)]
    simp only [rz, List.getElem?_mapIdx]
    rw [List.getElem?_set_ne (Ne.symm hi)]
theorem rz_push (b : Nat) (dA : Nat → ClassId) (h : List AC) (c : AC) : rz b dA h ++ [(b + h.length, rc b dA c)] = rz b dA (h ++ [c]) := by
  simp [rz, List.mapIdx_append]
theorem rz_D (b : Nat) (dA : Nat → ClassId) (h : List AC) : va_D (fun q => b ≤ q) (rz b dA h) := by
  refine ⟨fun i j p q hi hj hpq => ?_, fun k q hk => ?_⟩
  · obtain ⟨c, -, rfl⟩ := rz_of hi
    obtain ⟨c', -, rfl⟩ := rz_of hj
    exact Nat.add_left_cancel hpq
  · obtain ⟨c, -, rfl⟩ := rz_of hk
    exact Nat.le_add_right b k
/-! the values of the frame, by their places -/
def LH (b : Nat) (ls : Array Slot) (L : List (Option Value)) : Prop := ls.size = L.length ∧ lv_wf ls ∧ ∀ (i : Nat) (v : Value), L[i]? = some (some v) → ls[i]? = some (.val (rv b v))
def lpr (b : Nat) (L : List (Option Value)) : List (Nat × Value) := (List.range L.length).filterMap (fun i => (L[i]?).join.map (fun v => (i, rv b v)))
theorem lpr_mem {b : Nat} {L : List (Option Value)} {q : Nat × Value} : q ∈ lpr b L ↔ ∃ v, L[q.1]? = some (some v) ∧ q.2 = rv b v := by
  constructor
  · intro hq
    obtain ⟨i, -, hi⟩ := List.mem_filterMap.mp hq
    cases hL : L[i]? with
    | none => rw [hL] at hi; cases hi
    | some x =>
      rw [hL] at hi
      cases x with
      | none => cases hi
      | some v => cases hi; exact ⟨v, hL, rfl⟩
  · rintro ⟨v, h1, h2⟩
    refine List.mem_filterMap.mpr ⟨q.1, List.mem_range.mpr (List.getElem?_eq_some_iff.mp h1).1, ?_⟩
    rw [h1]
    show some (q.1, rv b v) = some q
    rw [← h2]
theorem LH.has {b : Nat} {ls : Array Slot} {L : List (Option Value)} (h : LH b ls L) : lv_has ls L.length (lpr b L) := by
  refine ⟨h.1, h.2.1, fun q hq => ?_⟩
  obtain ⟨v, h1, h2⟩ := lpr_mem.mp hq
  rw [h.2.2 q.1 v h1, h2]
def nl (a : Option Value) : Bool := match a with
  | some v => v.category == 1
  | none => true
theorem LH.set1 {b : Nat} {ls : Array Slot} {L : List (Option Value)} {i : Nat} {v : Value} (hn : nl (L.getD (i - 1) none) = true) (h : lv_has ls L.length ((i, rv b v) :: (lpr b L).filter (fun q => !(q.1 == i) && !(q.1 + 1 == i && q.2.category == 2)))) : LH b ls (L.set i (some v)) := by
  refine ⟨by rw [List.length_set]; exact h.1, h.2.1, fun j w hj => ?_⟩
  by_cases hji : j = i
  · subst hji
    have hl : j < L.length := by have := (List.getElem?_eq_some_iff.mp hj).1; simpa using this
    rw [List.getElem?_set_self hl] at hj
    cases hj
    exact h.2.2 (j, rv b v) List.mem_cons_self
  · rw [List.getElem?_set_ne (Ne.symm hji)] at hj
    refine h.2.2 (j, rv b w) (List.mem_cons_of_mem _ (List.mem_filter.mpr ⟨lpr_mem.mpr ⟨w, hj, rfl⟩, ?_⟩))
    simp only [Bool.and_eq_true, Bool.not_eq_true', beq_eq_false_iff_ne, ne_eq, Bool.and_eq_false_iff]
    refine ⟨hji, ?_⟩
    by_cases h1 : j + 1 = i
    · refine Or.inr ?_
      rw [rv_cat]
      have e : i - 1 = j := by omega
      rw [e] at hn
      have e2 : L.getD j none = some w := by rw [List.getD_eq_getElem?_getD, hj]; rfl
      rw [e2] at hn
      have e3 : w.category = 1 := by simpa [nl] using hn
      rw [e3]; decide
    · exact Or.inl h1
theorem LH.set2 {b : Nat} {ls : Array Slot} {L : List (Option Value)} {i : Nat} {v : Value} (hn : nl (L.getD (i - 1) none) = true) (h : lv_has ls L.length ((i, rv b v) :: (lpr b L).filter (fun q => !(q.1 == i) && (!(q.1 == i + 1) && !(q.1 + 1 == i && q.2.category == 2))))) : LH b ls ((L.set i (some v)).set (i + 1) none) := by
  refine ⟨by rw [List.length_set, List.length_set]; exact h.1, h.2.1, fun j w hj => ?_⟩
  by_cases hj2 : j = i + 1
  · subst hj2
    by_cases hl : i + 1 < (L.set i (some v)).length
    · rw [List.getElem?_set_self hl] at hj
      cases hj
    · rw [List.getElem?_eq_none (by rw [List.length_set]; omega)] at hj
      cases hj
  rw [List.getElem?_set_ne (Ne.symm hj2)] at hj
  by_cases hji : j = i
  · subst hji
    have hl : j < L.length := by have := (List.getElem?_eq_some_iff.mp hj).1; simpa using this
    rw [List.getElem?_set_self hl] at hj
    cases hj
    exact h.2.2 (j, rv b v) List.mem_cons_self
  · rw [List.getElem?_set_ne (Ne.symm hji)] at hj
    refine h.2.2 (j, rv b w) (List.mem_cons_of_mem _ (List.mem_filter.mpr ⟨lpr_mem.mpr ⟨w, hj, rfl⟩, ?_⟩))
    simp only [Bool.and_eq_true, Bool.not_eq_true', beq_eq_false_iff_ne, ne_eq, Bool.and_eq_false_iff]
    refine ⟨hji, hj2, ?_⟩
    by_cases h1 : j + 1 = i
    · refine Or.inr ?_
      rw [rv_cat]
      have e : i - 1 = j := by omega
      rw [e] at hn
      have e2 : L.getD j none = some w := by rw [List.getD_eq_getElem?_getD, hj]; rfl
      rw [e2] at hn
      have e3 : w.category = 1 := by simpa [nl] using hn
      rw [e3]; decide
    · exact Or.inl h1
/-- fewer values are known -/
theorem LH.less {b : Nat} {ls : Array Slot} {L L' : List (Option Value)} (h : LH b ls L) (hn : L'.length = L.length) (hl : ∀ (i : Nat) (v : Value), L'[i]? = some (some v) → L[i]? = some (some v)) : LH b ls L' := ⟨by rw [hn]; exact h.1, h.2.1, fun i v hv => h.2.2 i v (hl i v hv)⟩
def en (vs : List Value) : List (Option Value) := vs.flatMap (fun v => if v.category = 2 then [some v, none] else [some v])
theorem en_len (b : Nat) (vs : List Value) : (lg_sl (vs.map (rv b))).length = (en vs).length := by
  induction vs with
  | nil => rfl
  | cons v vs ih =>
    simp only [lg_sl, en, List.map_cons, List.flatMap_cons, List.length_append, rv_cat] at ih ⊢
    rw [ih]
    by_cases hc : v.category = 2 <;> simp [hc]
theorem en_at (b : Nat) (vs : List Value) : ∀ (i : Nat) (v : Value), (en vs)[i]? = some (some v) → (lg_sl (vs.map (rv b)))[i]? = some (.val (rv b v)) := by
  induction vs with
  | nil => intro i v h; simp [en] at h
  | cons w vs ih =>
    intro i v h
    simp only [lg_sl, en, List.map_cons, List.flatMap_cons, rv_cat] at h ih ⊢
    by_cases hc : w.category = 2
    · rw [if_pos hc] at h ⊢
      match i, h with
      | 0, h => simp at h ⊢; rw [h]
      | 1, h => simp at h
      | i + 2, h => simp at h ⊢; exact ih i v h
    · rw [if_neg hc] at h ⊢
      match i, h with
      | 0, h => simp at h ⊢; rw [h]
      | i + 1, h => simp at h ⊢; exact ih i v h
theorem LH.entry {b : Nat} {vs : List Value} {n : Nat} {L : List (Option Value)} (hn : (en vs).length ≤ n) (hL : en vs ++ List.replicate (n - (en vs).length) none = L) : LH b ((lg_sl (vs.map (rv b)) ++ List.replicate (n - (lg_sl (vs.map (rv b))).length) Slot.unset).toArray) L := by
  have h0 := lv_entry (vs.map (rv b)) (n := n) (by rw [en_len]; exact hn)
  subst hL
  refine ⟨by rw [h0.1]; simp; omega, h0.2.1, fun i v hv => ?_⟩
  by_cases hi : i < (en vs).length
  · rw [List.getElem?_append_left hi] at hv
    have := en_at b vs i v hv
    simp only [List.getElem?_toArray]
    rw [List.getElem?_append_left (by rw [en_len]; exact hi)]
    exact this
  · rw [List.getElem?_append_right (by omega)] at hv
    have := List.eq_of_mem_replicate (List.mem_of_getElem? hv)
    cases this
/-! the context of a walk -/
abbrev CT : Type := Program × Launch × Env × Room × State × MethodId × Array Value × List Frame × Method × Code × (Nat → ClassId) × (Nat → Nat → Nat) × (Nat → ClassId) × Nat
def nsw : Cond := .methodLinkNest RX6 48 yX10_sideOf "CohereBench"
abbrev vwT (dA : Nat → ClassId) : List (ClassId × FieldType) := [(dA 0, .int), (dA 1, .boolean), (dA 2, .long)]
def Kx (dC : Nat → ClassId) (dI : Nat → Nat → Nat) (dA : Nat → ClassId) (U : State) : Prop := va_K (dC, dI) vwCl (vwT dA) U ∧ va_Nw nsw U
def Cx (M : MI) (X : CT) : Prop := match X with
  | (p, _, _, R, s, m, args, _, meth, c, dC, dI, dA, b) => p.tables.exec = Jvm.exec ∧ c.code = mB M ∧ meth.sig.returnType = mR M ∧ c.maxLocals = mL M ∧ s.vm.findClass (mY M).cls = some m.cls ∧ (∀ w ∈ tb, w.before args s = true) ∧ meth.locks = false ∧ meth.name = (mY M).name ∧ R = mRm M ∧ Kx dC dI dA s ∧ b ≤ s.heap.size
/-- the machine at a frame of M: from here it comes to a state with Z -/
def Ew (M : MI) (X : CT) (Z : State → Prop) (pc : Nat) (L : List (Option Value)) (st : List Value) (h : List AC) (cells slots : Nat) : Prop := match X with
  | (p, l, e, R, s, m, args, below, meth, c, dC, dI, dA, b) => ∀ (H : Heap) (locs : List Loc) (ls : Array Slot), LH b ls L → va_P (dC, dI) vwCl (rz b dA h) H → va_S (fun q => b ≤ q) s.heap H locs → b + h.length = s.heap.size + cells → W p l e R s m args below meth c H locs cells slots Z (F0 m pc ls (st.map (rv b)))
/-- a method's contract -/
def PcE (b : Nat) (dC : Nat → ClassId) (dI : Nat → Nat → Nat) (dA : Nat → ClassId) (args : List Value) (h : List AC) : Array Value → State → Prop := va_Pc (args.map (rv b)) (fun U => U.heap.size = b + h.length ∧ va_P (dC, dI) vwCl (rz b dA h) U.heap ∧ Kx dC dI dA U)
def QcE (b : Nat) (dC : Nat → ClassId) (dI : Nat → Nat → Nat) (dA : Nat → ClassId) (Q : Option Value → List AC → Prop) : Array Value → State → Outcome → State → Prop := fun _ st oc t => (∃ (r : Option Value) (h' : List AC), oc = .returned (r.map (rv b)) ∧ Q r h' ∧ va_P (dC, dI) vwCl (rz b dA h') t.heap) ∧ va_F (fun q => b ≤ q) st t
def Em (M : MI) (args : List Value) (h : List AC) (Q : Option Value → List AC → Prop) : Prop := ∀ (l : Launch) (dC : Nat → ClassId) (dI : Nat → Nat → Nat) (dA : Nat → ClassId) (b : Nat), Met l (mY M) (mW M) (mRm M) (PcE b dC dI dA args h) (QcE b dC dI dA (fun r h' => Q r h' ∧ h'.length = h.length + mC M)) (mC M) (mS M) (fun q => b ≤ q)
def Zm (M : MI) (n0 : Nat) (Q : Option Value → List AC → Prop) (X : CT) : State → Prop := match X with
  | (_, _, _, _, s, _, args, below, _, _, dC, dI, dA, b) => MQ below (QcE b dC dI dA (fun r h' => Q r h' ∧ h'.length = n0 + mC M)) args s (mC M) (mS M) (fun q => b ≤ q)
theorem PcE.blind {b : Nat} {dC : Nat → ClassId} {dI : Nat → Nat → Nat} {dA : Nat → ClassId} {args : List Value} {h : List AC} : FrameBlind (PcE b dC dI dA args h) := by
  intro a U g mk q
  obtain ⟨q0, q1, qP, qK, qN⟩ := q
  exact ⟨q0, q1, qP, va_K.moved (u := U) (U := U.calling g mk a) (Vm.Alike.refl U.vm) qK, va_Nw.same rfl (u := U) (U := U.calling g mk a) rfl qN⟩
theorem Kx.warm {dC : Nat → ClassId} {dI : Nat → Nat → Nat} {dA : Nat → ClassId} {s U : State} (h : Kx dC dI dA s) (hW : s.WarmedH U.vm) : Kx dC dI dA U := ⟨va_K.moved hW.alike h.1, va_Nw.warmM hW h.2⟩
/-- the heap's size, by the room on one side and the cells on the other -/
theorem sz_of {p : Program} {l : Launch} {e : Env} {R : Room} {s : State} {m : MethodId} {args : Array Value} {below : List Frame} {meth : Method} {c : Code} {T : State} {locs : List Loc} {cells slots : Nat} {D : va_G} {b : Nat} {dA : Nat → ClassId} {h : List AC} {H : Heap} (X : Stand p l e R s m args below meth c T locs cells slots) (hT : T.heap = H) (hP : va_P D vwCl (rz b dA h) H) (hb : b ≤ s.heap.size) (hz : b + h.length = s.heap.size + cells) : H.size = b + h.length := by
  have h1 := X.same.2.1
  have h2 := X.same.2.2.1
  have e1 : (T.setVm s.vm).heap = H := hT
  rw [e1] at h1 h2
  have h3 : b + h.length ≤ H.size := by
    cases hl : h.length with
    | zero => omega
    | succ n =>
      have hk : h[n]? = some (h[n]'(by omega)) := List.getElem?_eq_getElem (by omega)
      have := (hP n _ (rz_at hk)).lt
      have h4 : b + n < H.size := this
      omega
  omega
theorem Em.of {M : MI} {n : Nat} {args : List Value} {h : List AC} {Q : Option Value → List AC → Prop} (ho : MkOk M n) {L : List (Option Value)} (hn : (en args).length ≤ mL M) (hL : en args ++ List.replicate (mL M - (en args).length) none = L) (k : ∀ X : CT, Cx M X → Ew M X (Zm M h.length Q X) 0 L [] h 0 0) : Em M args h Q := by
  intro l dC dI dA b
  refine Met.ofW (cc := mB M) (maxL := mL M) (ret := mR M) ho.2.1 rfl ?_
  intro p e s m a below meth c s₁ B hml hv
  obtain ⟨rfl, hsz, hP, hK⟩ := hv
  have hts := atoms_spec (ws := mW M) B.pre
  have hown : s.vm.findClass (mY M).cls = some m.cls := findClass_of_methodNamed B.named
  have hin : meth.name = (mY M).name := (name_of_methodNamed B.named B.method).1
  rw [lg_entry_eq]
  exact k (p, l, e, (headSpec (mW M) (mRm M)).room, s, m, (args.map (rv b)).toArray, below, meth, c, dC, dI, dA, b) ⟨B.exec, B.bytes, B.returns, hml, hown, fun w hw => hts w (List.mem_cons_of_mem _ hw), B.notSynchronized, hin, rfl, hK, by omega⟩ s.heap [] _ (LH.entry hn hL) hP va_S.rf (by omega)
theorem Em.imp {M : MI} {args : List Value} {h : List AC} {Q Q' : Option Value → List AC → Prop} (hE : Em M args h Q) (hq : ∀ r h', Q r h' → Q' r h') : Em M args h Q' := by
  intro l dC dI dA b p e ha hc hk s m a below hf hap hPc hK
  obtain ⟨k, o, h1, h2, h3, ⟨⟨r, h', q1, q2, q3⟩, q4⟩, q5⟩ := hE l dC dI dA b p e ha hc hk s m a below hf hap hPc hK
  exact ⟨k, o, h1, h2, h3, ⟨⟨r, h', q1, ⟨hq r h' q2.1, q2.2⟩, q3⟩, q4⟩, q5⟩
section EL
variable {M : MI} {X : CT} {Z : State → Prop} {pc : Nat} {L : List (Option Value)} {st : List Value} {h : List AC} {cells slots : Nat}
theorem e_iconst {n : Int} {v : Int32} (hX : Cx M X) (d : decode (mB M) pc = .ok (.iconst n, 1)) (hv : Int32.ofInt n = v) (k : Ew M X Z (pc + 1) L (.int v :: st) h cells slots) : Ew M X Z pc L (st) h cells slots := by
  obtain ⟨p, l, e, R, s, m, args, below, meth, c, dC, dI, dA, b⟩ := X
  obtain ⟨hx, hb, hr, hml, hown, hts, hlk, hnm, hR, hK, hbs⟩ := hX
  intro H locs ls hl hP hS hz
  exact lv_iconst hx hb d hv (k H locs ls hl hP hS hz)
theorem e_bipush {n : Int} {v : Int32} (hX : Cx M X) (d : decode (mB M) pc = .ok (.bipush n, 2)) (hv : (Int8.ofInt n).toInt32 = v) (k : Ew M X Z (pc + 2) L (.int v :: st) h cells slots) : Ew M X Z pc L (st) h cells slots := by
  obtain ⟨p, l, e, R, s, m, args, below, meth, c, dC, dI, dA, b⟩ := X
  obtain ⟨hx, hb, hr, hml, hown, hts, hlk, hnm, hR, hK, hbs⟩ := hX
  intro H locs ls hl hP hS hz
  exact lv_bipush hx hb d hv (k H locs ls hl hP hS hz)
theorem e_sipush {n : Int} {v : Int32} (hX : Cx M X) (d : decode (mB M) pc = .ok (.sipush n, 3)) (hv : (Int16.ofInt n).toInt32 = v) (k : Ew M X Z (pc + 3) L (.int v :: st) h cells slots) : Ew M X Z pc L (st) h cells slots := by
  obtain ⟨p, l, e, R, s, m, args, below, meth, c, dC, dI, dA, b⟩ := X
  obtain ⟨hx, hb, hr, hml, hown, hts, hlk, hnm, hR, hK, hbs⟩ := hX
  intro H locs ls hl hP hS hz
  exact lv_sipush hx hb d hv (k H locs ls hl hP hS hz)
theorem e_lconst {n : Fin 2} {v : Int64} (hX : Cx M X) (d : decode (mB M) pc = .ok (.lconst n, 1)) (hv : Int64.ofNat (n : Nat) = v) (k : Ew M X Z (pc + 1) L (.long v :: st) h cells slots) : Ew M X Z pc L (st) h cells slots := by
  obtain ⟨p, l, e, R, s, m, args, below, meth, c, dC, dI, dA, b⟩ := X
  obtain ⟨hx, hb, hr, hml, hown, hts, hlk, hnm, hR, hK, hbs⟩ := hX
  intro H locs ls hl hP hS hz
  exact lv_lconst hx hb d hv (k H locs ls hl hP hS hz)
theorem e_ldc {idx : Nat} {v : Int32} (hX : Cx M X) (d : decode (mB M) pc = .ok (.ldc idx, 2)) (hc : Cond.constant (mY M).cls idx v ∈ tb) (k : Ew M X Z (pc + 2) L (.int v :: st) h cells slots) : Ew M X Z pc L (st) h cells slots := by
  obtain ⟨p, l, e, R, s, m, args, below, meth, c, dC, dI, dA, b⟩ := X
  obtain ⟨hx, hb, hr, hml, hown, hts, hlk, hnm, hR, hK, hbs⟩ := hX
  intro H locs ls hl hP hS hz
  exact lv_ldc hx hb hown (hts _ hc) d (k H locs ls hl hP hS hz)
theorem e_ldc2 {idx : Nat} {v : Int64} (hX : Cx M X) (d : decode (mB M) pc = .ok (.ldc2_w idx, 3)) (hc : Cond.constantLong (mY M).cls idx v ∈ tb) (k : Ew M X Z (pc + 3) L (.long v :: st) h cells slots) : Ew M X Z pc L (st) h cells slots := by
  obtain ⟨p, l, e, R, s, m, args, below, meth, c, dC, dI, dA, b⟩ := X
  obtain ⟨hx, hb, hr, hml, hown, hts, hlk, hnm, hR, hK, hbs⟩ := hX
  intro H locs ls hl hP hS hz
  exact lv_ldc2 hx hb hown (hts _ hc) d (k H locs ls hl hP hS hz)
theorem e_iload_n {k0 : Fin 4} {x : Int32} (hX : Cx M X) (d : decode (mB M) pc = .ok (.iload_n k0, 1)) (hv : L[(k0 : Nat)]? = some (some (.int x))) (k : Ew M X Z (pc + 1) L (.int x :: st) h cells slots) : Ew M X Z pc L (st) h cells slots := by
  obtain ⟨p, l, e, R, s, m, args, below, meth, c, dC, dI, dA, b⟩ := X
  obtain ⟨hx, hb, hr, hml, hown, hts, hlk, hnm, hR, hK, hbs⟩ := hX
  intro H locs ls hl hP hS hz
  exact lv_iload_n hx hb d rfl (hl.2.2 _ _ hv) (k H locs ls hl hP hS hz)
theorem e_iload {i : Nat} {x : Int32} (hX : Cx M X) (d : decode (mB M) pc = .ok (.iload i, 2)) (hv : L[i]? = some (some (.int x))) (k : Ew M X Z (pc + 2) L (.int x :: st) h cells slots) : Ew M X Z pc L (st) h cells slots := by
  obtain ⟨p, l, e, R, s, m, args, below, meth, c, dC, dI, dA, b⟩ := X
  obtain ⟨hx, hb, hr, hml, hown, hts, hlk, hnm, hR, hK, hbs⟩ := hX
  intro H locs ls hl hP hS hz
  exact lv_iload hx hb d (hl.2.2 _ _ hv) (k H locs ls hl hP hS hz)
theorem e_lload_n {k0 : Fin 4} {x : Int64} (hX : Cx M X) (d : decode (mB M) pc = .ok (.lload_n k0, 1)) (hv : L[(k0 : Nat)]? = some (some (.long x))) (k : Ew M X Z (pc + 1) L (.long x :: st) h cells slots) : Ew M X Z pc L (st) h cells slots := by
  obtain ⟨p, l, e, R, s, m, args, below, meth, c, dC, dI, dA, b⟩ := X
  obtain ⟨hx, hb, hr, hml, hown, hts, hlk, hnm, hR, hK, hbs⟩ := hX
  intro H locs ls hl hP hS hz
  exact lv_lload_n hx hb d rfl (hl.2.2 _ _ hv) (k H locs ls hl hP hS hz)
theorem e_lload {i : Nat} {x : Int64} (hX : Cx M X) (d : decode (mB M) pc = .ok (.lload i, 2)) (hv : L[i]? = some (some (.long x))) (k : Ew M X Z (pc + 2) L (.long x :: st) h cells slots) : Ew M X Z pc L (st) h cells slots := by
  obtain ⟨p, l, e, R, s, m, args, below, meth, c, dC, dI, dA, b⟩ := X
  obtain ⟨hx, hb, hr, hml, hown, hts, hlk, hnm, hR, hK, hbs⟩ := hX
  intro H locs ls hl hP hS hz
  exact lv_lload hx hb d (hl.2.2 _ _ hv) (k H locs ls hl hP hS hz)
theorem e_aload_n {k0 : Fin 4} {x : Nat} (hX : Cx M X) (d : decode (mB M) pc = .ok (.aload_n k0, 1)) (hv : L[(k0 : Nat)]? = some (some (.ref x))) (k : Ew M X Z (pc + 1) L (.ref x :: st) h cells slots) : Ew M X Z pc L (st) h cells slots := by
  obtain ⟨p, l, e, R, s, m, args, below, meth, c, dC, dI, dA, b⟩ := X
  obtain ⟨hx, hb, hr, hml, hown, hts, hlk, hnm, hR, hK, hbs⟩ := hX
  intro H locs ls hl hP hS hz
  exact lv_aload_n hx hb d rfl (hl.2.2 _ _ hv) (k H locs ls hl hP hS hz)
theorem e_istore_n {k0 : Fin 4} {x : Int32} {L2 : List (Option Value)} (hX : Cx M X) (d : decode (mB M) pc = .ok (.istore_n k0, 1)) (hi : (k0 : Nat) < L.length) (hn : nl (L.getD ((k0 : Nat) - 1) none) = true) (hL : L.set (k0 : Nat) (some (.int x)) = L2) (k : Ew M X Z (pc + 1) L2 (st) h cells slots) : Ew M X Z pc L (.int x :: st) h cells slots := by
  obtain ⟨p, l, e, R, s, m, args, below, meth, c, dC, dI, dA, b⟩ := X
  obtain ⟨hx, hb, hr, hml, hown, hts, hlk, hnm, hR, hK, hbs⟩ := hX
  intro H locs ls hl hP hS hz
  subst hL
  exact lv_istore_n hx hb d rfl hl.has hi rfl (fun ls2 hl2 => k H locs ls2 (LH.set1 hn hl2) hP hS hz)
theorem e_istore {i : Nat} {x : Int32} {L2 : List (Option Value)} (hX : Cx M X) (d : decode (mB M) pc = .ok (.istore i, 2)) (hi : i < L.length) (hn : nl (L.getD (i - 1) none) = true) (hL : L.set i (some (.int x)) = L2) (k : Ew M X Z (pc + 2) L2 (st) h cells slots) : Ew M X Z pc L (.int x :: st) h cells slots := by
  obtain ⟨p, l, e, R, s, m, args, below, meth, c, dC, dI, dA, b⟩ := X
  obtain ⟨hx, hb, hr, hml, hown, hts, hlk, hnm, hR, hK, hbs⟩ := hX
  intro H locs ls hl hP hS hz
  subst hL
  exact lv_istore hx hb d hl.has hi rfl (fun ls2 hl2 => k H locs ls2 (LH.set1 hn hl2) hP hS hz)
theorem e_astore_n {k0 : Fin 4} {x : Nat} {L2 : List (Option Value)} (hX : Cx M X) (d : decode (mB M) pc = .ok (.astore_n k0, 1)) (hi : (k0 : Nat) < L.length) (hn : nl (L.getD ((k0 : Nat) - 1) none) = true) (hL : L.set (k0 : Nat) (some (.ref x)) = L2) (k : Ew M X Z (pc + 1) L2 (st) h cells slots) : Ew M X Z pc L (.ref x :: st) h cells slots := by
  obtain ⟨p, l, e, R, s, m, args, below, meth, c, dC, dI, dA, b⟩ := X
  obtain ⟨hx, hb, hr, hml, hown, hts, hlk, hnm, hR, hK, hbs⟩ := hX
  intro H locs ls hl hP hS hz
  subst hL
  exact lv_astore_n hx hb d rfl hl.has hi rfl (fun ls2 hl2 => k H locs ls2 (LH.set1 hn hl2) hP hS hz)
theorem e_lstore_n {k0 : Fin 4} {x : Int64} {L2 : List (Option Value)} (hX : Cx M X) (d : decode (mB M) pc = .ok (.lstore_n k0, 1)) (hi : (k0 : Nat) + 1 < L.length) (hn : nl (L.getD ((k0 : Nat) - 1) none) = true) (hL : (L.set (k0 : Nat) (some (.long x))).set ((k0 : Nat) + 1) none = L2) (k : Ew M X Z (pc + 1) L2 (st) h cells slots) : Ew M X Z pc L (.long x :: st) h cells slots := by
  obtain ⟨p, l, e, R, s, m, args, below, meth, c, dC, dI, dA, b⟩ := X
  obtain ⟨hx, hb, hr, hml, hown, hts, hlk, hnm, hR, hK, hbs⟩ := hX
  intro H locs ls hl hP hS hz
  subst hL
  exact lv_lstore_n hx hb d rfl hl.has hi rfl (fun ls2 hl2 => k H locs ls2 (LH.set2 hn hl2) hP hS hz)
theorem e_lstore {i : Nat} {x : Int64} {L2 : List (Option Value)} (hX : Cx M X) (d : decode (mB M) pc = .ok (.lstore i, 2)) (hi : i + 1 < L.length) (hn : nl (L.getD (i - 1) none) = true) (hL : (L.set i (some (.long x))).set (i + 1) none = L2) (k : Ew M X Z (pc + 2) L2 (st) h cells slots) : Ew M X Z pc L (.long x :: st) h cells slots := by
  obtain ⟨p, l, e, R, s, m, args, below, meth, c, dC, dI, dA, b⟩ := X
  obtain ⟨hx, hb, hr, hml, hown, hts, hlk, hnm, hR, hK, hbs⟩ := hX
  intro H locs ls hl hP hS hz
  subst hL
  exact lv_lstore hx hb d hl.has hi rfl (fun ls2 hl2 => k H locs ls2 (LH.set2 hn hl2) hP hS hz)
theorem e_iinc {i : Nat} {n : Int} {x v : Int32} {L2 : List (Option Value)} (hX : Cx M X) (d : decode (mB M) pc = .ok (.iinc i n, 3)) (hv : L[i]? = some (some (.int x))) (hv2 : x + Int32.ofInt n = v) (hn : nl (L.getD (i - 1) none) = true) (hL : L.set i (some (.int v)) = L2) (k : Ew M X Z (pc + 3) L2 st h cells slots) : Ew M X Z pc L st h cells slots := by
  obtain ⟨p, l, e, R, s, m, args, below, meth, c, dC, dI, dA, b⟩ := X
  obtain ⟨hx, hb, hr, hml, hown, hts, hlk, hnm, hR, hK, hbs⟩ := hX
  intro H locs ls hl hP hS hz
  subst hL
  have hi : i < L.length := (List.getElem?_eq_some_iff.mp hv).1
  obtain ⟨j, hj⟩ := List.getElem?_of_mem (lpr_mem.mpr ⟨.int x, hv, rfl⟩ : (i, rv b (.int x)) ∈ lpr b L)
  exact lv_iinc hx hb d hl.has hj hv2 hi rfl (fun ls2 hl2 => k H locs ls2 (LH.set1 (v := .int v) hn hl2) hP hS hz)
theorem e_iadd {x y : Int32} (hX : Cx M X) (d : decode (mB M) pc = .ok (.iadd, 1)) (k : Ew M X Z (pc + 1) L (.int (x + y) :: st) h cells slots) : Ew M X Z pc L (.int y :: .int x :: st) h cells slots := by
  obtain ⟨p, l, e, R, s, m, args, below, meth, c, dC, dI, dA, b⟩ := X
  obtain ⟨hx, hb, hr, hml, hown, hts, hlk, hnm, hR, hK, hbs⟩ := hX
  intro H locs ls hl hP hS hz
  exact lv_iadd hx hb d (k H locs ls hl hP hS hz)
theorem e_isub {x y : Int32} (hX : Cx M X) (d : decode (mB M) pc = .ok (.isub, 1)) (k : Ew M X Z (pc + 1) L (.int (x - y) :: st) h cells slots) : Ew M X Z pc L (.int y :: .int x :: st) h cells slots := by
  obtain ⟨p, l, e, R, s, m, args, below, meth, c, dC, dI, dA, b⟩ := X
  obtain ⟨hx, hb, hr, hml, hown, hts, hlk, hnm, hR, hK, hbs⟩ := hX
  intro H locs ls hl hP hS hz
  exact lv_isub hx hb d (k H locs ls hl hP hS hz)
theorem e_imul {x y : Int32} (hX : Cx M X) (d : decode (mB M) pc = .ok (.imul, 1)) (k : Ew M X Z (pc + 1) L (.int (x * y) :: st) h cells slots) : Ew M X Z pc L (.int y :: .int x :: st) h cells slots := by
  obtain ⟨p, l, e, R, s, m, args, below, meth, c, dC, dI, dA, b⟩ := X
  obtain ⟨hx, hb, hr, hml, hown, hts, hlk, hnm, hR, hK, hbs⟩ := hX
  intro H locs ls hl hP hS hz
  exact lv_imul hx hb d (k H locs ls hl hP hS hz)
theorem e_iand {x y : Int32} (hX : Cx M X) (d : decode (mB M) pc = .ok (.iand, 1)) (k : Ew M X Z (pc + 1) L (.int (x &&& y) :: st) h cells slots) : Ew M X Z pc L (.int y :: .int x :: st) h cells slots := by
  obtain ⟨p, l, e, R, s, m, args, below, meth, c, dC, dI, dA, b⟩ := X
  obtain ⟨hx, hb, hr, hml, hown, hts, hlk, hnm, hR, hK, hbs⟩ := hX
  intro H locs ls hl hP hS hz
  exact lv_iand hx hb d (k H locs ls hl hP hS hz)
theorem e_ior {x y : Int32} (hX : Cx M X) (d : decode (mB M) pc = .ok (.ior, 1)) (k : Ew M X Z (pc + 1) L (.int (x ||| y) :: st) h cells slots) : Ew M X Z pc L (.int y :: .int x :: st) h cells slots := by
  obtain ⟨p, l, e, R, s, m, args, below, meth, c, dC, dI, dA, b⟩ := X
  obtain ⟨hx, hb, hr, hml, hown, hts, hlk, hnm, hR, hK, hbs⟩ := hX
  intro H locs ls hl hP hS hz
  exact lv_ior hx hb d (k H locs ls hl hP hS hz)
theorem e_ixor {x y : Int32} (hX : Cx M X) (d : decode (mB M) pc = .ok (.ixor, 1)) (k : Ew M X Z (pc + 1) L (.int (x ^^^ y) :: st) h cells slots) : Ew M X Z pc L (.int y :: .int x :: st) h cells slots := by
  obtain ⟨p, l, e, R, s, m, args, below, meth, c, dC, dI, dA, b⟩ := X
  obtain ⟨hx, hb, hr, hml, hown, hts, hlk, hnm, hR, hK, hbs⟩ := hX
  intro H locs ls hl hP hS hz
  exact lv_ixor hx hb d (k H locs ls hl hP hS hz)
theorem e_ishl {x y : Int32} (hX : Cx M X) (d : decode (mB M) pc = .ok (.ishl, 1)) (k : Ew M X Z (pc + 1) L (.int (x <<< (y &&& 31)) :: st) h cells slots) : Ew M X Z pc L (.int y :: .int x :: st) h cells slots := by
  obtain ⟨p, l, e, R, s, m, args, below, meth, c, dC, dI, dA, b⟩ := X
  obtain ⟨hx, hb, hr, hml, hown, hts, hlk, hnm, hR, hK, hbs⟩ := hX
  intro H locs ls hl hP hS hz
  exact lv_ishl hx hb d (k H locs ls hl hP hS hz)
theorem e_ishr {x y : Int32} (hX : Cx M X) (d : decode (mB M) pc = .ok (.ishr, 1)) (k : Ew M X Z (pc + 1) L (.int (x >>> (y &&& 31)) :: st) h cells slots) : Ew M X Z pc L (.int y :: .int x :: st) h cells slots := by
  obtain ⟨p, l, e, R, s, m, args, below, meth, c, dC, dI, dA, b⟩ := X
  obtain ⟨hx, hb, hr, hml, hown, hts, hlk, hnm, hR, hK, hbs⟩ := hX
  intro H locs ls hl hP hS hz
  exact lv_ishr hx hb d (k H locs ls hl hP hS hz)
theorem e_iushr {x y : Int32} (hX : Cx M X) (d : decode (mB M) pc = .ok (.iushr, 1)) (k : Ew M X Z (pc + 1) L (.int ((x.toUInt32 >>> (y.toUInt32 &&& Int32.toUInt32 31)).toInt32) :: st) h cells slots) : Ew M X Z pc L (.int y :: .int x :: st) h cells slots := by
  obtain ⟨p, l, e, R, s, m, args, below, meth, c, dC, dI, dA, b⟩ := X
  obtain ⟨hx, hb, hr, hml, hown, hts, hlk, hnm, hR, hK, hbs⟩ := hX
  intro H locs ls hl hP hS hz
  exact lv_iushr hx hb d rfl (k H locs ls hl hP hS hz)
theorem e_idiv {x y : Int32} (hX : Cx M X) (d : decode (mB M) pc = .ok (.idiv, 1)) (hne : ¬ y = 0) (k : Ew M X Z (pc + 1) L (.int (x / y) :: st) h cells slots) : Ew M X Z pc L (.int y :: .int x :: st) h cells slots := by
  obtain ⟨p, l, e, R, s, m, args, below, meth, c, dC, dI, dA, b⟩ := X
  obtain ⟨hx, hb, hr, hml, hown, hts, hlk, hnm, hR, hK, hbs⟩ := hX
  intro H locs ls hl hP hS hz
  exact lv_idiv hx hb d hne (k H locs ls hl hP hS hz)
theorem e_irem {x y : Int32} (hX : Cx M X) (d : decode (mB M) pc = .ok (.irem, 1)) (hne : ¬ y = 0) (k : Ew M X Z (pc + 1) L (.int (x - x / y * y) :: st) h cells slots) : Ew M X Z pc L (.int y :: .int x :: st) h cells slots := by
  obtain ⟨p, l, e, R, s, m, args, below, meth, c, dC, dI, dA, b⟩ := X
  obtain ⟨hx, hb, hr, hml, hown, hts, hlk, hnm, hR, hK, hbs⟩ := hX
  intro H locs ls hl hP hS hz
  exact lv_irem hx hb d hne (k H locs ls hl hP hS hz)
theorem e_ineg {x : Int32} (hX : Cx M X) (d : decode (mB M) pc = .ok (.ineg, 1)) (k : Ew M X Z (pc + 1) L (.int (-x) :: st) h cells slots) : Ew M X Z pc L (.int x :: st) h cells slots := by
  obtain ⟨p, l, e, R, s, m, args, below, meth, c, dC, dI, dA, b⟩ := X
  obtain ⟨hx, hb, hr, hml, hown, hts, hlk, hnm, hR, hK, hbs⟩ := hX
  intro H locs ls hl hP hS hz
  exact lv_ineg hx hb d (k H locs ls hl hP hS hz)
theorem e_ladd {x y : Int64} (hX : Cx M X) (d : decode (mB M) pc = .ok (.ladd, 1)) (k : Ew M X Z (pc + 1) L (.long (x + y) :: st) h cells slots) : Ew M X Z pc L (.long y :: .long x :: st) h cells slots := by
  obtain ⟨p, l, e, R, s, m, args, below, meth, c, dC, dI, dA, b⟩ := X
  obtain ⟨hx, hb, hr, hml, hown, hts, hlk, hnm, hR, hK, hbs⟩ := hX
  intro H locs ls hl hP hS hz
  exact lv_ladd hx hb d (k H locs ls hl hP hS hz)
theorem e_lmul {x y : Int64} (hX : Cx M X) (d : decode (mB M) pc = .ok (.lmul, 1)) (k : Ew M X Z (pc + 1) L (.long (x * y) :: st) h cells slots) : Ew M X Z pc L (.long y :: .long x :: st) h cells slots := by
  obtain ⟨p, l, e, R, s, m, args, below, meth, c, dC, dI, dA, b⟩ := X
  obtain ⟨hx, hb, hr, hml, hown, hts, hlk, hnm, hR, hK, hbs⟩ := hX
  intro H locs ls hl hP hS hz
  exact lv_lmul hx hb d (k H locs ls hl hP hS hz)
theorem e_land {x y : Int64} (hX : Cx M X) (d : decode (mB M) pc = .ok (.land, 1)) (k : Ew M X Z (pc + 1) L (.long (x &&& y) :: st) h cells slots) : Ew M X Z pc L (.long y :: .long x :: st) h cells slots := by
  obtain ⟨p, l, e, R, s, m, args, below, meth, c, dC, dI, dA, b⟩ := X
  obtain ⟨hx, hb, hr, hml, hown, hts, hlk, hnm, hR, hK, hbs⟩ := hX
  intro H locs ls hl hP hS hz
  exact lv_land hx hb d (k H locs ls hl hP hS hz)
theorem e_lor {x y : Int64} (hX : Cx M X) (d : decode (mB M) pc = .ok (.lor, 1)) (k : Ew M X Z (pc + 1) L (.long (x ||| y) :: st) h cells slots) : Ew M X Z pc L (.long y :: .long x :: st) h cells slots := by
  obtain ⟨p, l, e, R, s, m, args, below, meth, c, dC, dI, dA, b⟩ := X
  obtain ⟨hx, hb, hr, hml, hown, hts, hlk, hnm, hR, hK, hbs⟩ := hX
  intro H locs ls hl hP hS hz
  exact lv_lor hx hb d (k H locs ls hl hP hS hz)
theorem e_lxor {x y : Int64} (hX : Cx M X) (d : decode (mB M) pc = .ok (.lxor, 1)) (k : Ew M X Z (pc + 1) L (.long (x ^^^ y) :: st) h cells slots) : Ew M X Z pc L (.long y :: .long x :: st) h cells slots := by
  obtain ⟨p, l, e, R, s, m, args, below, meth, c, dC, dI, dA, b⟩ := X
  obtain ⟨hx, hb, hr, hml, hown, hts, hlk, hnm, hR, hK, hbs⟩ := hX
  intro H locs ls hl hP hS hz
  exact lv_lxor hx hb d (k H locs ls hl hP hS hz)
theorem e_lushr {x : Int64} {y : Int32} (hX : Cx M X) (d : decode (mB M) pc = .ok (.lushr, 1)) (k : Ew M X Z (pc + 1) L (.long ((x.toUInt64 >>> (y.toInt64.toUInt64 &&& Int64.toUInt64 63)).toInt64) :: st) h cells slots) : Ew M X Z pc L (.int y :: .long x :: st) h cells slots := by
  obtain ⟨p, l, e, R, s, m, args, below, meth, c, dC, dI, dA, b⟩ := X
  obtain ⟨hx, hb, hr, hml, hown, hts, hlk, hnm, hR, hK, hbs⟩ := hX
  intro H locs ls hl hP hS hz
  exact lv_lushr hx hb d rfl (k H locs ls hl hP hS hz)
theorem e_lshl {x : Int64} {y : Int32} (hX : Cx M X) (d : decode (mB M) pc = .ok (.lshl, 1)) (k : Ew M X Z (pc + 1) L (.long (x <<< (y.toInt64 &&& 63)) :: st) h cells slots) : Ew M X Z pc L (.int y :: .long x :: st) h cells slots := by
  obtain ⟨p, l, e, R, s, m, args, below, meth, c, dC, dI, dA, b⟩ := X
  obtain ⟨hx, hb, hr, hml, hown, hts, hlk, hnm, hR, hK, hbs⟩ := hX
  intro H locs ls hl hP hS hz
  exact lv_lshl hx hb d rfl (k H locs ls hl hP hS hz)
theorem e_i2l {x : Int32} (hX : Cx M X) (d : decode (mB M) pc = .ok (.i2l, 1)) (k : Ew M X Z (pc + 1) L (.long x.toInt64 :: st) h cells slots) : Ew M X Z pc L (.int x :: st) h cells slots := by
  obtain ⟨p, l, e, R, s, m, args, below, meth, c, dC, dI, dA, b⟩ := X
  obtain ⟨hx, hb, hr, hml, hown, hts, hlk, hnm, hR, hK, hbs⟩ := hX
  intro H locs ls hl hP hS hz
  exact lv_i2l hx hb d rfl (k H locs ls hl hP hS hz)
theorem e_l2i {x : Int64} (hX : Cx M X) (d : decode (mB M) pc = .ok (.l2i, 1)) (k : Ew M X Z (pc + 1) L (.int x.toInt32 :: st) h cells slots) : Ew M X Z pc L (.long x :: st) h cells slots := by
  obtain ⟨p, l, e, R, s, m, args, below, meth, c, dC, dI, dA, b⟩ := X
  obtain ⟨hx, hb, hr, hml, hown, hts, hlk, hnm, hR, hK, hbs⟩ := hX
  intro H locs ls hl hP hS hz
  exact lv_l2i hx hb d rfl (k H locs ls hl hP hS hz)
theorem e_lcmp {x y : Int64} (hX : Cx M X) (d : decode (mB M) pc = .ok (.lcmp, 1)) (k : Ew M X Z (pc + 1) L (.int (lg_cmp x y) :: st) h cells slots) : Ew M X Z pc L (.long y :: .long x :: st) h cells slots := by
  obtain ⟨p, l, e, R, s, m, args, below, meth, c, dC, dI, dA, b⟩ := X
  obtain ⟨hx, hb, hr, hml, hown, hts, hlk, hnm, hR, hK, hbs⟩ := hX
  intro H locs ls hl hP hS hz
  exact W.lcmp hx hb d (k H locs ls hl hP hS hz)
theorem e_dup {v : Value} (hX : Cx M X) (d : decode (mB M) pc = .ok (.dup, 1)) (hv : v.category = 1) (k : Ew M X Z (pc + 1) L (v :: v :: st) h cells slots) : Ew M X Z pc L (v :: st) h cells slots := by
  obtain ⟨p, l, e, R, s, m, args, below, meth, c, dC, dI, dA, b⟩ := X
  obtain ⟨hx, hb, hr, hml, hown, hts, hlk, hnm, hR, hK, hbs⟩ := hX
  intro H locs ls hl hP hS hz
  exact lv_dup hx hb d ((rv_cat b v).trans hv) (k H locs ls hl hP hS hz)
theorem e_pop {v : Value} (hX : Cx M X) (d : decode (mB M) pc = .ok (.pop, 1)) (hv : v.category = 1) (k : Ew M X Z (pc + 1) L (st) h cells slots) : Ew M X Z pc L (v :: st) h cells slots := by
  obtain ⟨p, l, e, R, s, m, args, below, meth, c, dC, dI, dA, b⟩ := X
  obtain ⟨hx, hb, hr, hml, hown, hts, hlk, hnm, hR, hK, hbs⟩ := hX
  intro H locs ls hl hP hS hz
  exact lv_pop hx hb d ((rv_cat b v).trans hv) (k H locs ls hl hP hS hz)
theorem e_dup2 {v w : Value} (hX : Cx M X) (d : decode (mB M) pc = .ok (.dup2, 1)) (hv : v.category = 1) (hw : w.category = 1) (k : Ew M X Z (pc + 1) L (v :: w :: v :: w :: st) h cells slots) : Ew M X Z pc L (v :: w :: st) h cells slots := by
  obtain ⟨p, l, e, R, s, m, args, below, meth, c, dC, dI, dA, b⟩ := X
  obtain ⟨hx, hb, hr, hml, hown, hts, hlk, hnm, hR, hK, hbs⟩ := hX
  intro H locs ls hl hP hS hz
  exact lv_dup2_11 hx hb d ((rv_cat b v).trans hv) ((rv_cat b w).trans hw) (k H locs ls hl hP hS hz)
theorem e_if_eq {x : Int32} {off : Int} {tgt : Nat} (hX : Cx M X) (d : decode (mB M) pc = .ok (.ifCond .eq off, 3)) (ht : (pc : Int) + off = (tgt : Int)) (kt : x = 0 → Ew M X Z tgt L st h cells slots) (kf : ¬ (x = 0) → Ew M X Z (pc + 3) L st h cells slots) : Ew M X Z pc L (.int x :: st) h cells slots := by
  obtain ⟨p, l, e, R, s, m, args, below, meth, c, dC, dI, dA, b⟩ := X
  obtain ⟨hx, hb, hr, hml, hown, hts, hlk, hnm, hR, hK, hbs⟩ := hX
  intro H locs ls hl hP hS hz
  exact lv_if_eq hx hb d ht (fun q => kt (by first | exact q | simpa using q) H locs ls hl hP hS hz) (fun q => kf (by first | exact q | simpa using q) H locs ls hl hP hS hz)
theorem e_icmp_eq {x y : Int32} {off : Int} {tgt : Nat} (hX : Cx M X) (d : decode (mB M) pc = .ok (.if_icmp .eq off, 3)) (ht : (pc : Int) + off = (tgt : Int)) (kt : x = y → Ew M X Z tgt L st h cells slots) (kf : ¬ (x = y) → Ew M X Z (pc + 3) L st h cells slots) : Ew M X Z pc L (.int y :: .int x :: st) h cells slots := by
  obtain ⟨p, l, e, R, s, m, args, below, meth, c, dC, dI, dA, b⟩ := X
  obtain ⟨hx, hb, hr, hml, hown, hts, hlk, hnm, hR, hK, hbs⟩ := hX
  intro H locs ls hl hP hS hz
  exact lv_icmp_eq hx hb d ht (fun q => kt (by first | exact q | simpa using q) H locs ls hl hP hS hz) (fun q => kf (by first | exact q | simpa using q) H locs ls hl hP hS hz)
theorem e_if_ne {x : Int32} {off : Int} {tgt : Nat} (hX : Cx M X) (d : decode (mB M) pc = .ok (.ifCond .ne off, 3)) (ht : (pc : Int) + off = (tgt : Int)) (kt : ¬ x = 0 → Ew M X Z tgt L st h cells slots) (kf : ¬ (¬ x = 0) → Ew M X Z (pc + 3) L st h cells slots) : Ew M X Z pc L (.int x :: st) h cells slots := by
  obtain ⟨p, l, e, R, s, m, args, below, meth, c, dC, dI, dA, b⟩ := X
  obtain ⟨hx, hb, hr, hml, hown, hts, hlk, hnm, hR, hK, hbs⟩ := hX
  intro H locs ls hl hP hS hz
  exact lv_if_ne hx hb d ht (fun q => kt (by first | exact q | simpa using q) H locs ls hl hP hS hz) (fun q => kf (by first | exact q | simpa using q) H locs ls hl hP hS hz)
theorem e_icmp_ne {x y : Int32} {off : Int} {tgt : Nat} (hX : Cx M X) (d : decode (mB M) pc = .ok (.if_icmp .ne off, 3)) (ht : (pc : Int) + off = (tgt : Int)) (kt : ¬ x = y → Ew M X Z tgt L st h cells slots) (kf : ¬ (¬ x = y) → Ew M X Z (pc + 3) L st h cells slots) : Ew M X Z pc L (.int y :: .int x :: st) h cells slots := by
  obtain ⟨p, l, e, R, s, m, args, below, meth, c, dC, dI, dA, b⟩ := X
  obtain ⟨hx, hb, hr, hml, hown, hts, hlk, hnm, hR, hK, hbs⟩ := hX
  intro H locs ls hl hP hS hz
  exact lv_icmp_ne hx hb d ht (fun q => kt (by first | exact q | simpa using q) H locs ls hl hP hS hz) (fun q => kf (by first | exact q | simpa using q) H locs ls hl hP hS hz)
theorem e_if_lt {x : Int32} {off : Int} {tgt : Nat} (hX : Cx M X) (d : decode (mB M) pc = .ok (.ifCond .lt off, 3)) (ht : (pc : Int) + off = (tgt : Int)) (kt : x < 0 → Ew M X Z tgt L st h cells slots) (kf : ¬ (x < 0) → Ew M X Z (pc + 3) L st h cells slots) : Ew M X Z pc L (.int x :: st) h cells slots := by
  obtain ⟨p, l, e, R, s, m, args, below, meth, c, dC, dI, dA, b⟩ := X
  obtain ⟨hx, hb, hr, hml, hown, hts, hlk, hnm, hR, hK, hbs⟩ := hX
  intro H locs ls hl hP hS hz
  exact lv_if_lt hx hb d ht (fun q => kt (by first | exact q | simpa using q) H locs ls hl hP hS hz) (fun q => kf (by first | exact q | simpa using q) H locs ls hl hP hS hz)
theorem e_icmp_lt {x y : Int32} {off : Int} {tgt : Nat} (hX : Cx M X) (d : decode (mB M) pc = .ok (.if_icmp .lt off, 3)) (ht : (pc : Int) + off = (tgt : Int)) (kt : x < y → Ew M X Z tgt L st h cells slots) (kf : ¬ (x < y) → Ew M X Z (pc + 3) L st h cells slots) : Ew M X Z pc L (.int y :: .int x :: st) h cells slots := by
  obtain ⟨p, l, e, R, s, m, args, below, meth, c, dC, dI, dA, b⟩ := X
  obtain ⟨hx, hb, hr, hml, hown, hts, hlk, hnm, hR, hK, hbs⟩ := hX
  intro H locs ls hl hP hS hz
  exact lv_icmp_lt hx hb d ht (fun q => kt (by first | exact q | simpa using q) H locs ls hl hP hS hz) (fun q => kf (by first | exact q | simpa using q) H locs ls hl hP hS hz)
theorem e_if_ge {x : Int32} {off : Int} {tgt : Nat} (hX : Cx M X) (d : decode (mB M) pc = .ok (.ifCond .ge off, 3)) (ht : (pc : Int) + off = (tgt : Int)) (kt : 0 ≤ x → Ew M X Z tgt L st h cells slots) (kf : ¬ (0 ≤ x) → Ew M X Z (pc + 3) L st h cells slots) : Ew M X Z pc L (.int x :: st) h cells slots := by
  obtain ⟨p, l, e, R, s, m, args, below, meth, c, dC, dI, dA, b⟩ := X
  obtain ⟨hx, hb, hr, hml, hown, hts, hlk, hnm, hR, hK, hbs⟩ := hX
  intro H locs ls hl hP hS hz
  exact lv_if_ge hx hb d ht (fun q => kt (by first | exact q | simpa using q) H locs ls hl hP hS hz) (fun q => kf (by first | exact q | simpa using q) H locs ls hl hP hS hz)
theorem e_icmp_ge {x y : Int32} {off : Int} {tgt : Nat} (hX : Cx M X) (d : decode (mB M) pc = .ok (.if_icmp .ge off, 3)) (ht : (pc : Int) + off = (tgt : Int)) (kt : y ≤ x → Ew M X Z tgt L st h cells slots) (kf : ¬ (y ≤ x) → Ew M X Z (pc + 3) L st h cells slots) : Ew M X Z pc L (.int y :: .int x :: st) h cells slots := by
  obtain ⟨p, l, e, R, s, m, args, below, meth, c, dC, dI, dA, b⟩ := X
  obtain ⟨hx, hb, hr, hml, hown, hts, hlk, hnm, hR, hK, hbs⟩ := hX
  intro H locs ls hl hP hS hz
  exact lv_icmp_ge hx hb d ht (fun q => kt (by first | exact q | simpa using q) H locs ls hl hP hS hz) (fun q => kf (by first | exact q | simpa using q) H locs ls hl hP hS hz)
theorem e_if_gt {x : Int32} {off : Int} {tgt : Nat} (hX : Cx M X) (d : decode (mB M) pc = .ok (.ifCond .gt off, 3)) (ht : (pc : Int) + off = (tgt : Int)) (kt : 0 < x → Ew M X Z tgt L st h cells slots) (kf : ¬ (0 < x) → Ew M X Z (pc + 3) L st h cells slots) : Ew M X Z pc L (.int x :: st) h cells slots := by
  obtain ⟨p, l, e, R, s, m, args, below, meth, c, dC, dI, dA, b⟩ := X
  obtain ⟨hx, hb, hr, hml, hown, hts, hlk, hnm, hR, hK, hbs⟩ := hX
  intro H locs ls hl hP hS hz
  exact lv_if_gt hx hb d ht (fun q => kt (by first | exact q | simpa using q) H locs ls hl hP hS hz) (fun q => kf (by first | exact q | simpa using q) H locs ls hl hP hS hz)
theorem e_icmp_gt {x y : Int32} {off : Int} {tgt : Nat} (hX : Cx M X) (d : decode (mB M) pc = .ok (.if_icmp .gt off, 3)) (ht : (pc : Int) + off = (tgt : Int)) (kt : y < x → Ew M X Z tgt L st h cells slots) (kf : ¬ (y < x) → Ew M X Z (pc + 3) L st h cells slots) : Ew M X Z pc L (.int y :: .int x :: st) h cells slots := by
  obtain ⟨p, l, e, R, s, m, args, below, meth, c, dC, dI, dA, b⟩ := X
  obtain ⟨hx, hb, hr, hml, hown, hts, hlk, hnm, hR, hK, hbs⟩ := hX
  intro H locs ls hl hP hS hz
  exact lv_icmp_gt hx hb d ht (fun q => kt (by first | exact q | simpa using q) H locs ls hl hP hS hz) (fun q => kf (by first | exact q | simpa using q) H locs ls hl hP hS hz)
theorem e_if_le {x : Int32} {off : Int} {tgt : Nat} (hX : Cx M X) (d : decode (mB M) pc = .ok (.ifCond .le off, 3)) (ht : (pc : Int) + off = (tgt : Int)) (kt : x ≤ 0 → Ew M X Z tgt L st h cells slots) (kf : ¬ (x ≤ 0) → Ew M X Z (pc + 3) L st h cells slots) : Ew M X Z pc L (.int x :: st) h cells slots := by
  obtain ⟨p, l, e, R, s, m, args, below, meth, c, dC, dI, dA, b⟩ := X
  obtain ⟨hx, hb, hr, hml, hown, hts, hlk, hnm, hR, hK, hbs⟩ := hX
  intro H locs ls hl hP hS hz
  exact lv_if_le hx hb d ht (fun q => kt (by first | exact q | simpa using q) H locs ls hl hP hS hz) (fun q => kf (by first | exact q | simpa using q) H locs ls hl hP hS hz)
theorem e_icmp_le {x y : Int32} {off : Int} {tgt : Nat} (hX : Cx M X) (d : decode (mB M) pc = .ok (.if_icmp .le off, 3)) (ht : (pc : Int) + off = (tgt : Int)) (kt : x ≤ y → Ew M X Z tgt L st h cells slots) (kf : ¬ (x ≤ y) → Ew M X Z (pc + 3) L st h cells slots) : Ew M X Z pc L (.int y :: .int x :: st) h cells slots := by
  obtain ⟨p, l, e, R, s, m, args, below, meth, c, dC, dI, dA, b⟩ := X
  obtain ⟨hx, hb, hr, hml, hown, hts, hlk, hnm, hR, hK, hbs⟩ := hX
  intro H locs ls hl hP hS hz
  exact lv_icmp_le hx hb d ht (fun q => kt (by first | exact q | simpa using q) H locs ls hl hP hS hz) (fun q => kf (by first | exact q | simpa using q) H locs ls hl hP hS hz)
theorem e_goto {off : Int} {tgt : Nat} (hX : Cx M X) (d : decode (mB M) pc = .ok (.goto off, 3)) (ht : (pc : Int) + off = (tgt : Int)) (k : Ew M X Z tgt L st h cells slots) : Ew M X Z pc L st h cells slots := by
  obtain ⟨p, l, e, R, s, m, args, below, meth, c, dC, dI, dA, b⟩ := X
  obtain ⟨hx, hb, hr, hml, hown, hts, hlk, hnm, hR, hK, hbs⟩ := hX
  intro H locs ls hl hP hS hz
  exact lv_goto hx hb d ht (k H locs ls hl hP hS hz)
theorem e_tableOut {dflt lo hi : Int} {offs : Array Int} {len : Nat} {x : Int32} {tgt : Nat} (hX : Cx M X) (d : decode (mB M) pc = .ok (.tableswitch dflt lo hi offs, len)) (h0 : x.toInt < lo ∨ hi < x.toInt) (ht : (pc : Int) + dflt = (tgt : Int)) (k : Ew M X Z tgt L st h cells slots) : Ew M X Z pc L (.int x :: st) h cells slots := by
  obtain ⟨p, l, e, R, s, m, args, below, meth, c, dC, dI, dA, b⟩ := X
  obtain ⟨hx, hb, hr, hml, hown, hts, hlk, hnm, hR, hK, hbs⟩ := hX
  intro H locs ls hl hP hS hz
  exact lv_tableOut hx hb d h0 ht (k H locs ls hl hP hS hz)
theorem e_tableIn {dflt lo hi : Int} {offs : Array Int} {len : Nat} {x : Int32} {off : Int} {tgt : Nat} (hX : Cx M X) (d : decode (mB M) pc = .ok (.tableswitch dflt lo hi offs, len)) (h1 : ¬ x.toInt < lo) (h2 : ¬ hi < x.toInt) (ho : offs[(x.toInt - lo).toNat]? = some off) (ht : (pc : Int) + off = (tgt : Int)) (k : Ew M X Z tgt L st h cells slots) : Ew M X Z pc L (.int x :: st) h cells slots := by
  obtain ⟨p, l, e, R, s, m, args, below, meth, c, dC, dI, dA, b⟩ := X
  obtain ⟨hx, hb, hr, hml, hown, hts, hlk, hnm, hR, hK, hbs⟩ := hX
  intro H locs ls hl hP hS hz
  exact lv_tableIn hx hb d h1 h2 ho ht (k H locs ls hl hP hS hz)
theorem e_lookup {dflt : Int} {ps : Array (Int × Int)} {len : Nat} {x : Int32} {off : Int} {tgt : Nat} (hX : Cx M X) (d : decode (mB M) pc = .ok (.lookupswitch dflt ps, len)) (hp : (ps.toList.zip (ps.toList.drop 1)).all (fun (a, next) => a.1 < next.1) = true) (ho : Op.lookupswitch.offset ps.toList dflt x.toInt = off) (ht : (pc : Int) + off = (tgt : Int)) (k : Ew M X Z tgt L st h cells slots) : Ew M X Z pc L (.int x :: st) h cells slots := by
  obtain ⟨p, l, e, R, s, m, args, below, meth, c, dC, dI, dA, b⟩ := X
  obtain ⟨hx, hb, hr, hml, hown, hts, hlk, hnm, hR, hK, hbs⟩ := hX
  intro H locs ls hl hP hS hz
  exact lv_lookup hx hb d hp ho ht (k H locs ls hl hP hS hz)
/-- fewer values of the frame are known -/
theorem e_less {L2 : List (Option Value)} (hn : L2.length = L.length) (hl0 : ∀ (i : Nat) (v : Value), L2[i]? = some (some v) → L[i]? = some (some v)) (k : Ew M X Z pc L2 st h cells slots) : Ew M X Z pc L st h cells slots := by
  obtain ⟨p, l, e, R, s, m, args, below, meth, c, dC, dI, dA, b⟩ := X
  intro H locs ls hl hP hS hz
  exact k H locs ls (hl.less hn hl0) hP hS hz
theorem e_get {idx ci kk o0 : Nat} {ty : FieldType} {fin : Bool} {fs : List Value} {v : Value} (hX : Cx M X) (d : decode (mB M) pc = .ok (.getfield idx, 3)) (lk : Fl (mY M).cls idx ci kk ty fin) (ho : h[o0]? = some (.inr (ci, fs))) (hv : fs[kk]? = some v) (k : Ew M X Z (pc + 3) L (v :: st) h cells slots) : Ew M X Z pc L (.ref o0 :: st) h cells slots := by
  obtain ⟨p, l, e, R, s, m, args, below, meth, c, dC, dI, dA, b⟩ := X
  obtain ⟨hx, hb, hr, hml, hown, hts, hlk, hnm, hR, hK, hbs⟩ := hX
  intro H locs ls hl hP hS hz
  obtain ⟨C, T, N, tf, hci, hkN, hlk2, hty, hfin, hC⟩ := lk
  exact va_get (D := (dC, dI)) (v := rv b v) hx hb hts hci.2.1 hown hK.1 hP o0 (rz_at ho) hci.1 kk hkN (hts _ hlk2) (fun _ h9 => h9) (by simp [hv]) d (k H locs ls hl hP hS hz)
theorem e_iald {a0 n : Nat} {f : Nat → Int32} {i : Int32} (hX : Cx M X) (d : decode (mB M) pc = .ok (.iaload, 1)) (ha : h[a0]? = some (.inl (0, n, .inl f))) (hin : vp_in i n) (k : Ew M X Z (pc + 1) L (.int (f i.toNatClampNeg) :: st) h cells slots) : Ew M X Z pc L (.int i :: .ref a0 :: st) h cells slots := by
  obtain ⟨p, l, e, R, s, m, args, below, meth, c, dC, dI, dA, b⟩ := X
  obtain ⟨hx, hb, hr, hml, hown, hts, hlk, hnm, hR, hK, hbs⟩ := hX
  intro H locs ls hl hP hS hz
  exact va_iald (D := (dC, dI)) hx hb hK.1 hP a0 0 (rz_at ha) rfl hin d (k H locs ls hl hP hS hz)
theorem e_zald {a0 n : Nat} {f : Nat → Int32} {i : Int32} (hX : Cx M X) (d : decode (mB M) pc = .ok (.baload, 1)) (ha : h[a0]? = some (.inl (1, n, .inl f))) (hin : vp_in i n) (k : Ew M X Z (pc + 1) L (.int (f i.toNatClampNeg) :: st) h cells slots) : Ew M X Z pc L (.int i :: .ref a0 :: st) h cells slots := by
  obtain ⟨p, l, e, R, s, m, args, below, meth, c, dC, dI, dA, b⟩ := X
  obtain ⟨hx, hb, hr, hml, hown, hts, hlk, hnm, hR, hK, hbs⟩ := hX
  intro H locs ls hl hP hS hz
  exact va_zald (D := (dC, dI)) hx hb hK.1 hP a0 1 (rz_at ha) rfl hin d (k H locs ls hl hP hS hz)
theorem e_lald {a0 n : Nat} {f : Nat → Int64} {i : Int32} (hX : Cx M X) (d : decode (mB M) pc = .ok (.laload, 1)) (ha : h[a0]? = some (.inl (2, n, .inr (.inl f)))) (hin : vp_in i n) (k : Ew M X Z (pc + 1) L (.long (f i.toNatClampNeg) :: st) h cells slots) : Ew M X Z pc L (.int i :: .ref a0 :: st) h cells slots := by
  obtain ⟨p, l, e, R, s, m, args, below, meth, c, dC, dI, dA, b⟩ := X
  obtain ⟨hx, hb, hr, hml, hown, hts, hlk, hnm, hR, hK, hbs⟩ := hX
  intro H locs ls hl hP hS hz
  exact va_lald (D := (dC, dI)) hx hb hK.1 hP a0 2 (rz_at ha) rfl hin d (k H locs ls hl hP hS hz)
theorem e_alen {a0 t0 : Nat} {x : vp_A} {v : Int32} (hX : Cx M X) (d : decode (mB M) pc = .ok (.arraylength, 1)) (ha : h[a0]? = some (.inl (t0, x))) (ht : t0 < 3) (hv : Int32.ofNat x.1 = v) (k : Ew M X Z (pc + 1) L (.int v :: st) h cells slots) : Ew M X Z pc L (.ref a0 :: st) h cells slots := by
  obtain ⟨p, l, e, R, s, m, args, below, meth, c, dC, dI, dA, b⟩ := X
  obtain ⟨hx, hb, hr, hml, hown, hts, hlk, hnm, hR, hK, hbs⟩ := hX
  intro H locs ls hl hP hS hz
  match t0, ht, ha with
  | 0, _, ha => exact va_alen (D := (dC, dI)) hx hb hK.1 hP a0 0 (rz_at ha) rfl hv d (k H locs ls hl hP hS hz)
  | 1, _, ha => exact va_alen (D := (dC, dI)) hx hb hK.1 hP a0 1 (rz_at ha) rfl hv d (k H locs ls hl hP hS hz)
  | 2, _, ha => exact va_alen (D := (dC, dI)) hx hb hK.1 hP a0 2 (rz_at ha) rfl hv d (k H locs ls hl hP hS hz)
theorem e_put {idx ci kk o0 : Nat} {ty : FieldType} {fs : List Value} {v : Value} (hX : Cx M X) (d : decode (mB M) pc = .ok (.putfield idx, 3)) (lk : Fl (mY M).cls idx ci kk ty false) (ho : h[o0]? = some (.inr (ci, fs))) (hl0 : kk < fs.length) (hn : narrow ty v = v) (hf : fits ty v = true) (k : Ew M X Z (pc + 3) L st (h.set o0 (.inr (ci, fs.set kk v))) cells slots) : Ew M X Z pc L (v :: .ref o0 :: st) h cells slots := by
  obtain ⟨p, l, e, R, s, m, args, below, meth, c, dC, dI, dA, b⟩ := X
  obtain ⟨hx, hb, hr, hml, hown, hts, hlk, hnm, hR, hK, hbs⟩ := hX
  intro H locs ls hl hP hS hz
  obtain ⟨C, T, N, tf, hci, hkN, hlk2, hty, hfin, hC⟩ := lk
  refine va_put (D := (dC, dI)) (v := rv b v) (ty := ty) hx hb hts hci.2.1 tf hci.2.2.1 hci.2.2.2.1 hown hK.1 hP (rz_D b dA h) hS o0 (rz_at ho) hci.1 kk hkN (hts _ hlk2) (fun _ h9 => h9) hfin (by rw [hci.2.2.1 kk hkN, hty]) (rv_narrow hn) (rv_fits hf) (by rw [List.length_map]; exact hl0) d (fun H1 locs1 hP1 _ hS1 => ?_)
  rw [← List.map_set, show (Sum.inr (ci, (fs.set kk v).map (rv b)) : va_E) = rc b dA (.inr (ci, fs.set kk v)) from rfl, rz_set] at hP1
  exact k H1 locs1 ls hl hP1 hS1 (by rw [List.length_set]; exact hz)
theorem e_putF {idx ci kk o0 : Nat} {ty : FieldType} {fs : List Value} {v : Value} (hX : Cx M X) (d : decode (mB M) pc = .ok (.putfield idx, 3)) (lk : Fl (mY M).cls idx ci kk ty true) (hi0 : (mY M).name = "<init>") (hcc : ∀ C T N, vwCl[ci]? = some (C, T, N) → C = (mY M).cls) (ho : h[o0]? = some (.inr (ci, fs))) (hl0 : kk < fs.length) (hn : narrow ty v = v) (hf : fits ty v = true) (k : Ew M X Z (pc + 3) L st (h.set o0 (.inr (ci, fs.set kk v))) cells slots) : Ew M X Z pc L (v :: .ref o0 :: st) h cells slots := by
  obtain ⟨p, l, e, R, s, m, args, below, meth, c, dC, dI, dA, b⟩ := X
  obtain ⟨hx, hb, hr, hml, hown, hts, hlk, hnm, hR, hK, hbs⟩ := hX
  intro H locs ls hl hP hS hz
  obtain ⟨C, T, N, tf, hci, hkN, hlk2, hty, hfin, hC⟩ := lk
  refine va_putF (D := (dC, dI)) (v := rv b v) (ty := ty) hx hb hts hci.2.1 tf hci.2.2.1 hci.2.2.2.1 hown hK.1 hP (rz_D b dA h) hS o0 (rz_at ho) hci.1 kk hkN (hts _ hlk2) (fun _ h9 => h9) hfin (hnm.trans hi0) (hC.trans (hcc C T N hci.1)) (by rw [hci.2.2.1 kk hkN, hty]) (rv_narrow hn) (rv_fits hf) (by rw [List.length_map]; exact hl0) d (fun H1 locs1 hP1 _ hS1 => ?_)
  rw [← List.map_set, show (Sum.inr (ci, (fs.set kk v).map (rv b)) : va_E) = rc b dA (.inr (ci, fs.set kk v)) from rfl, rz_set] at hP1
  exact k H1 locs1 ls hl hP1 hS1 (by rw [List.length_set]; exact hz)
theorem e_iast {a0 n : Nat} {f : Nat → Int32} {i : Int32} {x : Int32} (hX : Cx M X) (d : decode (mB M) pc = .ok (.iastore, 1)) (ha : h[a0]? = some (.inl (0, n, .inl f))) (hin : vp_in i n) (k : Ew M X Z (pc + 1) L st (h.set a0 (.inl (0, n, .inl (upd f i.toNatClampNeg x)))) cells slots) : Ew M X Z pc L (.int x :: .int i :: .ref a0 :: st) h cells slots := by
  obtain ⟨p, l, e, R, s, m, args, below, meth, c, dC, dI, dA, b⟩ := X
  obtain ⟨hx, hb, hr, hml, hown, hts, hlk, hnm, hR, hK, hbs⟩ := hX
  intro H locs ls hl hP hS hz
  refine va_iast (D := (dC, dI)) hx hb hK.1 hP (rz_D b dA h) hS a0 0 (rz_at ha) rfl hin d (fun H1 locs1 hP1 _ hS1 => ?_)
  rw [show (Sum.inl (dA 0, n, .inl (upd f i.toNatClampNeg x)) : va_E) = rc b dA (.inl (0, n, .inl (upd f i.toNatClampNeg x))) from rfl, rz_set] at hP1
  exact k H1 locs1 ls hl hP1 hS1 (by rw [List.length_set]; exact hz)
theorem e_zast {a0 n : Nat} {f : Nat → Int32} {i : Int32} {x : Int32} (hX : Cx M X) (d : decode (mB M) pc = .ok (.bastore, 1)) (ha : h[a0]? = some (.inl (1, n, .inl f))) (hin : vp_in i n) (k : Ew M X Z (pc + 1) L st (h.set a0 (.inl (1, n, .inl (upd f i.toNatClampNeg (vp_nar .boolean x))))) cells slots) : Ew M X Z pc L (.int x :: .int i :: .ref a0 :: st) h cells slots := by
  obtain ⟨p, l, e, R, s, m, args, below, meth, c, dC, dI, dA, b⟩ := X
  obtain ⟨hx, hb, hr, hml, hown, hts, hlk, hnm, hR, hK, hbs⟩ := hX
  intro H locs ls hl hP hS hz
  refine va_zast (D := (dC, dI)) hx hb hK.1 hP (rz_D b dA h) hS a0 1 (rz_at ha) rfl hin d (fun H1 locs1 hP1 _ hS1 => ?_)
  rw [show (Sum.inl (dA 1, n, .inl (upd f i.toNatClampNeg (vp_nar .boolean x))) : va_E) = rc b dA (.inl (1, n, .inl (upd f i.toNatClampNeg (vp_nar .boolean x)))) from rfl, rz_set] at hP1
  exact k H1 locs1 ls hl hP1 hS1 (by rw [List.length_set]; exact hz)
theorem e_last {a0 n : Nat} {f : Nat → Int64} {i : Int32} {x : Int64} (hX : Cx M X) (d : decode (mB M) pc = .ok (.lastore, 1)) (ha : h[a0]? = some (.inl (2, n, .inr (.inl f)))) (hin : vp_in i n) (k : Ew M X Z (pc + 1) L st (h.set a0 (.inl (2, n, .inr (.inl (vp_updL f i.toNatClampNeg x))))) cells slots) : Ew M X Z pc L (.long x :: .int i :: .ref a0 :: st) h cells slots := by
  obtain ⟨p, l, e, R, s, m, args, below, meth, c, dC, dI, dA, b⟩ := X
  obtain ⟨hx, hb, hr, hml, hown, hts, hlk, hnm, hR, hK, hbs⟩ := hX
  intro H locs ls hl hP hS hz
  refine va_last (D := (dC, dI)) hx hb hK.1 hP (rz_D b dA h) hS a0 2 (rz_at ha) rfl hin d (fun H1 locs1 hP1 _ hS1 => ?_)
  rw [show (Sum.inl (dA 2, n, .inr (.inl (vp_updL f i.toNatClampNeg x))) : va_E) = rc b dA (.inl (2, n, .inr (.inl (vp_updL f i.toNatClampNeg x)))) from rfl, rz_set] at hP1
  exact k H1 locs1 ls hl hP1 hS1 (by rw [List.length_set]; exact hz)
theorem e_copyi {idx a0 a1 n0 n1 : Nat} {f g : Nat → Int32} {sp dp n : Int32} (hX : Cx M X) (d : decode (mB M) pc = .ok (.invokestatic idx, 3)) (lk : Cond.methodLink (mY M).cls idx arraycopyName ∈ tb) (ha0 : h[a0]? = some (.inl (0, n0, .inl f))) (ha1 : h[a1]? = some (.inl (0, n1, .inl g))) (h1 : ¬ sp < 0) (h2 : ¬ dp < 0) (h3 : ¬ n < 0) (h4 : sp.toNatClampNeg + n.toNatClampNeg ≤ n0) (h5 : dp.toNatClampNeg + n.toNatClampNeg ≤ n1) (hfr : 1 ≤ mF M) (hlo : (st.map fun v => v.category).sum + (nativeFrameWords "java/lang/System" "arraycopy" 5 + 11) ≤ mO M) (hLl : L.length = mL M) (k : Ew M X Z (pc + 3) L st (h.set a1 (.inl (0, n1, .inl (va_cpy f g sp.toNatClampNeg dp.toNatClampNeg n.toNatClampNeg)))) cells slots) : Ew M X Z pc L (.int n :: .int dp :: .ref a1 :: .int sp :: .ref a0 :: st) h cells slots := by
  obtain ⟨p, l, e, R, s, m, args, below, meth, c, dC, dI, dA, b⟩ := X
  obtain ⟨hx, hb, hr, hml, hown, hts, hlk, hnm, hR, hK, hbs⟩ := hX
  intro H locs ls hl hP hS hz
  refine va_copyi (D := (dC, dI)) (ty := .int) hx hb (by rw [hml, hl.1, hLl]) hown (hts _ lk) (hts _ ar_nat) (hts _ ar_stat) (hts _ ar_ini) hK.1 hP (rz_D b dA h) hS a0 a1 0 0 (rz_at ha0) (rz_at ha1) rfl rfl rfl h1 h2 h3 h4 h5 (fun i _ => rfl) (by rw [hR]; exact hfr) (by rw [hR, rv_cats]; exact hlo) d (fun H1 locs1 hP1 _ hS1 => ?_)
  rw [show (Sum.inl (dA 0, n1, .inl (va_cpy f g sp.toNatClampNeg dp.toNatClampNeg n.toNatClampNeg)) : va_E) = rc b dA (.inl (0, n1, .inl (va_cpy f g sp.toNatClampNeg dp.toNatClampNeg n.toNatClampNeg))) from rfl, rz_set] at hP1
  exact k H1 locs1 ls hl hP1 hS1 (by rw [List.length_set]; exact hz)
theorem e_new {idx ci N : Nat} {C : String} {T : u_T} {tf : Nat → FieldType} {fs : List Value} (hX : Cx M X) (d : decode (mB M) pc = .ok (.new idx, 3)) (hci : CiOk ci C T N tf) (lk : Cond.classLink (mY M).cls idx C ∈ tb) (hfs : ∀ j, j < N → defaultValue (tf j) = vp_V fs j) (hrf : ∀ b : Nat, fs.map (rv b) = fs) (hc1 : cells + 1 ≤ mC M) (hs1 : slots + N ≤ mS M) (k : Ew M X Z (pc + 3) L (.ref h.length :: st) (h ++ [.inr (ci, fs)]) (cells + 1) (slots + N)) : Ew M X Z pc L st h cells slots := by
  obtain ⟨p, l, e, R, s, m, args, below, meth, c, dC, dI, dA, b⟩ := X
  obtain ⟨hx, hb, hr, hml, hown, hts, hlk, hnm, hR, hK, hbs⟩ := hX
  intro H locs ls hl hP hS hz
  intro T0 hT0 X0
  have hsz := sz_of X0 hT0 hP hbs hz
  have key : W p l e R s m args below meth c H locs cells slots Z (F0 m pc ls (st.map (rv b))) := by
    have hKn := hK.1.1 ci _ hci.1
    refine W.newcK hx hb hown (hts _ lk) (hts _ hci.2.2.2.2.1) (hts _ hci.2.2.2.2.2) rfl d (by rw [hR]; exact hc1) (by rw [hR]; exact hs1) hKn.2.1 hsz fun H1 kC hkC e1 z1 o1 => ?_
    have hk : ∀ (k : Nat) (x : Nat × va_E), (rz b dA h)[k]? = some x → H1[x.1]? = H[x.1]? := fun k x hx0 => o1 x.1 (by have := (hP k x hx0).lt; omega)
    refine k H1 locs ls hl ?_ ⟨by have := hS.1; omega, fun x h1 h2 => (o1 x (by have := hS.1; omega)).trans (hS.2.1 x h1 h2), hS.2.2⟩ (by rw [List.length_append, List.length_singleton]; omega)
    rw [← rz_push]
    refine (hP.kept hk).app (fun k x hx0 => ?_)
    have hz0 : k < 1 := (List.getElem?_eq_some_iff.mp hx0).1
    rw [show k = 0 by omega] at hx0
    cases hx0
    refine ⟨_, hci.1, ?_⟩
    show t_OB _ _ _ _ _ (vp_V (fs.map (rv b)))
    rw [hrf b]
    exact (u_born tf hts hci.2.1 hKn hkC e1 hci.2.2.1).to hfs
  exact key T0 hT0 X0
theorem e_newi {n : Int32} {N : Nat} (hX : Cx M X) (d : decode (mB M) pc = .ok (.newarray .int, 2)) (hn : ¬ n < 0) (hN : n.toNatClampNeg = N) (hby : N * componentBytes .int ≤ 536870912) (hc1 : cells + 1 ≤ mC M) (hs1 : slots + N ≤ mS M) (k : Ew M X Z (pc + 2) L (.ref h.length :: st) (h ++ [.inl (0, N, .inl (fun _ => 0))]) (cells + 1) (slots + N)) : Ew M X Z pc L (.int n :: st) h cells slots := by
  obtain ⟨p, l, e, R, s, m, args, below, meth, c, dC, dI, dA, b⟩ := X
  obtain ⟨hx, hb, hr, hml, hown, hts, hlk, hnm, hR, hK, hbs⟩ := hX
  intro H locs ls hl hP hS hz
  intro T0 hT0 X0
  have hsz := sz_of X0 hT0 hP hbs hz
  have key : W p l e R s m args below meth c H locs cells slots Z (F0 m pc ls (.int n :: st.map (rv b))) := by
    refine va_newaK hx hb (hts _ ar_0) rfl d rfl hn hN hby (by rw [hR]; exact hc1) (by rw [hR]; exact hs1) hsz fun H1 cA e1 z1 o1 hAr hNm => ?_
    have hcA : cA = dA 0 := by
      have h9 := (hK.1.2 0 _ rfl).2
      exact Option.some.inj (hNm.symm.trans h9)
    subst hcA
    have hk : ∀ (k : Nat) (x : Nat × va_E), (rz b dA h)[k]? = some x → H1[x.1]? = H[x.1]? := fun k x hx0 => o1 x.1 (by have := (hP k x hx0).lt; omega)
    refine k H1 locs ls hl ?_ ⟨by have := hS.1; omega, fun x h1 h2 => (o1 x (by have := hS.1; omega)).trans (hS.2.1 x h1 h2), hS.2.2⟩ (by rw [List.length_append, List.length_singleton]; omega)
    rw [← rz_push]
    refine (hP.kept hk).app (fun k x hx0 => ?_)
    have hz0 : k < 1 := (List.getElem?_eq_some_iff.mp hx0).1
    rw [show k = 0 by omega] at hx0
    cases hx0
    exact e1
  exact key T0 hT0 X0
theorem e_newz {n : Int32} {N : Nat} (hX : Cx M X) (d : decode (mB M) pc = .ok (.newarray .boolean, 2)) (hn : ¬ n < 0) (hN : n.toNatClampNeg = N) (hby : N * componentBytes .boolean ≤ 536870912) (hc1 : cells + 1 ≤ mC M) (hs1 : slots + N ≤ mS M) (k : Ew M X Z (pc + 2) L (.ref h.length :: st) (h ++ [.inl (1, N, .inl (fun _ => 0))]) (cells + 1) (slots + N)) : Ew M X Z pc L (.int n :: st) h cells slots := by
  obtain ⟨p, l, e, R, s, m, args, below, meth, c, dC, dI, dA, b⟩ := X
  obtain ⟨hx, hb, hr, hml, hown, hts, hlk, hnm, hR, hK, hbs⟩ := hX
  intro H locs ls hl hP hS hz
  intro T0 hT0 X0
  have hsz := sz_of X0 hT0 hP hbs hz
  have key : W p l e R s m args below meth c H locs cells slots Z (F0 m pc ls (.int n :: st.map (rv b))) := by
    refine va_newaK hx hb (hts _ ar_1) rfl d rfl hn hN hby (by rw [hR]; exact hc1) (by rw [hR]; exact hs1) hsz fun H1 cA e1 z1 o1 hAr hNm => ?_
    have hcA : cA = dA 1 := by
      have h9 := (hK.1.2 1 _ rfl).2
      exact Option.some.inj (hNm.symm.trans h9)
    subst hcA
    have hk : ∀ (k : Nat) (x : Nat × va_E), (rz b dA h)[k]? = some x → H1[x.1]? = H[x.1]? := fun k x hx0 => o1 x.1 (by have := (hP k x hx0).lt; omega)
    refine k H1 locs ls hl ?_ ⟨by have := hS.1; omega, fun x h1 h2 => (o1 x (by have := hS.1; omega)).trans (hS.2.1 x h1 h2), hS.2.2⟩ (by rw [List.length_append, List.length_singleton]; omega)
    rw [← rz_push]
    refine (hP.kept hk).app (fun k x hx0 => ?_)
    have hz0 : k < 1 := (List.getElem?_eq_some_iff.mp hx0).1
    rw [show k = 0 by omega] at hx0
    cases hx0
    exact e1
  exact key T0 hT0 X0
theorem e_newl {n : Int32} {N : Nat} (hX : Cx M X) (d : decode (mB M) pc = .ok (.newarray .long, 2)) (hn : ¬ n < 0) (hN : n.toNatClampNeg = N) (hby : N * componentBytes .long ≤ 536870912) (hc1 : cells + 1 ≤ mC M) (hs1 : slots + N ≤ mS M) (k : Ew M X Z (pc + 2) L (.ref h.length :: st) (h ++ [.inl (2, N, .inr (.inl (fun _ => 0)))]) (cells + 1) (slots + N)) : Ew M X Z pc L (.int n :: st) h cells slots := by
  obtain ⟨p, l, e, R, s, m, args, below, meth, c, dC, dI, dA, b⟩ := X
  obtain ⟨hx, hb, hr, hml, hown, hts, hlk, hnm, hR, hK, hbs⟩ := hX
  intro H locs ls hl hP hS hz
  intro T0 hT0 X0
  have hsz := sz_of X0 hT0 hP hbs hz
  have key : W p l e R s m args below meth c H locs cells slots Z (F0 m pc ls (.int n :: st.map (rv b))) := by
    refine va_newaK hx hb (hts _ ar_2) rfl d rfl hn hN hby (by rw [hR]; exact hc1) (by rw [hR]; exact hs1) hsz fun H1 cA e1 z1 o1 hAr hNm => ?_
    have hcA : cA = dA 2 := by
      have h9 := (hK.1.2 2 _ rfl).2
      exact Option.some.inj (hNm.symm.trans h9)
    subst hcA
    have hk : ∀ (k : Nat) (x : Nat × va_E), (rz b dA h)[k]? = some x → H1[x.1]? = H[x.1]? := fun k x hx0 => o1 x.1 (by have := (hP k x hx0).lt; omega)
    refine k H1 locs ls hl ?_ ⟨by have := hS.1; omega, fun x h1 h2 => (o1 x (by have := hS.1; omega)).trans (hS.2.1 x h1 h2), hS.2.2⟩ (by rw [List.length_append, List.length_singleton]; omega)
    rw [← rz_push]
    refine (hP.kept hk).app (fun k x hx0 => ?_)
    have hz0 : k < 1 := (List.getElem?_eq_some_iff.mp hx0).1
    rw [show k = 0 by omega] at hx0
    cases hx0
    exact e1
  exact key T0 hT0 X0
theorem e_iret {v : Int32} {n0 : Nat} {Q : Option Value → List AC → Prop} (hX : Cx M X) (d : decode (mB M) pc = .ok (.ireturn, 1)) (hrt : mR M = some .int) (hc : cells = mC M) (hs : slots ≤ mS M) (hl0 : h.length = n0 + mC M) (q : Q (some (.int v)) h) : Ew M X (Zm M n0 Q X) pc L ([.int v]) h cells slots := by
  obtain ⟨p, l, e, R, s, m, args, below, meth, c, dC, dI, dA, b⟩ := X
  obtain ⟨hx, hb, hr, hml, hown, hts, hlk, hnm, hR, hK, hbs⟩ := hX
  intro H locs ls hl hP hS hz
  refine W.widen (k := mC M) (n := mS M) (by omega) hs ?_
  exact W.iret (v := v) hx hb (hr.trans hrt) (fun t ht hW => ⟨⟨_, h, rfl, ⟨q, hl0⟩, by rw [ht]; exact hP⟩, hS.F ht⟩) hS.2.2 d hlk
theorem e_zret {v : Int32} {n0 : Nat} {Q : Option Value → List AC → Prop} (hX : Cx M X) (d : decode (mB M) pc = .ok (.ireturn, 1)) (hrt : mR M = some .boolean) (hn : narrow .boolean (.int v) = .int v) (hc : cells = mC M) (hs : slots ≤ mS M) (hl0 : h.length = n0 + mC M) (q : Q (some (.int v)) h) : Ew M X (Zm M n0 Q X) pc L ([.int v]) h cells slots := by
  obtain ⟨p, l, e, R, s, m, args, below, meth, c, dC, dI, dA, b⟩ := X
  obtain ⟨hx, hb, hr, hml, hown, hts, hlk, hnm, hR, hK, hbs⟩ := hX
  intro H locs ls hl hP hS hz
  refine W.widen (k := mC M) (n := mS M) (by omega) hs ?_
  exact W.zret (v := v) hx hb (hr.trans hrt) hn (fun t ht hW => ⟨⟨_, h, rfl, ⟨q, hl0⟩, by rw [ht]; exact hP⟩, hS.F ht⟩) hS.2.2 d hlk
theorem e_lret {v : Int64} {n0 : Nat} {Q : Option Value → List AC → Prop} (hX : Cx M X) (d : decode (mB M) pc = .ok (.lreturn, 1)) (hrt : mR M = some .long) (hc : cells = mC M) (hs : slots ≤ mS M) (hl0 : h.length = n0 + mC M) (q : Q (some (.long v)) h) : Ew M X (Zm M n0 Q X) pc L ([.long v]) h cells slots := by
  obtain ⟨p, l, e, R, s, m, args, below, meth, c, dC, dI, dA, b⟩ := X
  obtain ⟨hx, hb, hr, hml, hown, hts, hlk, hnm, hR, hK, hbs⟩ := hX
  intro H locs ls hl hP hS hz
  refine W.widen (k := mC M) (n := mS M) (by omega) hs ?_
  exact W.lret (v := v) hx hb (hr.trans hrt) (fun t ht hW => ⟨⟨_, h, rfl, ⟨q, hl0⟩, by rw [ht]; exact hP⟩, hS.F ht⟩) hS.2.2 d hlk
theorem e_vret {n0 : Nat} {Q : Option Value → List AC → Prop} (hX : Cx M X) (d : decode (mB M) pc = .ok (.return_, 1)) (hrt : mR M = none) (hc : cells = mC M) (hs : slots ≤ mS M) (hl0 : h.length = n0 + mC M) (q : Q (none) h) : Ew M X (Zm M n0 Q X) pc L ([]) h cells slots := by
  obtain ⟨p, l, e, R, s, m, args, below, meth, c, dC, dI, dA, b⟩ := X
  obtain ⟨hx, hb, hr, hml, hown, hts, hlk, hnm, hR, hK, hbs⟩ := hX
  intro H locs ls hl hP hS hz
  refine W.widen (k := mC M) (n := mS M) (by omega) hs ?_
  exact W.vret hx hb (hr.trans hrt) (fun t ht hW => ⟨⟨_, h, rfl, ⟨q, hl0⟩, by rw [ht]; exact hP⟩, hS.F ht⟩) hS.2.2 d hlk
def ps (as st : List Value) : List Value := as.reverse ++ st
theorem ps_map (b : Nat) (as st : List Value) : (ps as st).map (rv b) = (as.map (rv b)).reverse ++ st.map (rv b) := by simp [ps]
theorem e_run {M2 : MI} {args2 : List Value} {Q2 : Option Value → List AC → Prop} (hX : Cx M X) (hE : Em M2 args2 h Q2)
    {rest : List Value} (hrun : ∀ (p : Program) (l : Launch) (e : Env) (R : Room) (s : State) (m : MethodId) (args : Array Value) (below : List Frame) (meth : Method) (c : Code) (dC : Nat → ClassId) (dI : Nat → Nat → Nat) (dA : Nat → ClassId) (b : Nat), X = (p, l, e, R, s, m, args, below, meth, c, dC, dI, dA, b) → ∀ (H : Heap) (locs : List Loc) (ls : Array Slot), LH b ls L → va_P (dC, dI) vwCl (rz b dA h) H → H.size = b + h.length → Met l (mY M2) (mW M2) (mRm M2) (PcE b dC dI dA args2 h) (QcE b dC dI dA (fun r h' => Q2 r h' ∧ h'.length = h.length + mC M2)) (mC M2) (mS M2) (fun q => b ≤ q) →
      va_Run p l e R s m args below meth c H locs cells slots (mC M2) (mS M2) (F0 m pc ls (st.map (rv b))) (rest.map (rv b)) (QcE b dC dI dA (fun r h' => Q2 r h' ∧ h'.length = h.length + mC M2) (args2.map (rv b)).toArray) (fun q => b ≤ q))
    (k : ∀ r h', Q2 r h' → Ew M X Z (pc + 3) L (r.toList ++ rest) h' (cells + mC M2) (slots + mS M2)) : Ew M X Z pc L st h cells slots := by
  obtain ⟨p, l, e, R, s, m, args, below, meth, c, dC, dI, dA, b⟩ := X
  obtain ⟨hx, hb, hr, hml, hown, hts, hlk, hnm, hR, hK, hbs⟩ := hX
  intro H locs ls hl hP hS hz
  intro T hT X0
  have hsz := sz_of X0 hT hP hbs hz
  obtain ⟨v, st₀, t, T', L', h0, X', hL', e1, e2, ⟨⟨r, h', hv, ⟨hq, hlen⟩, hPt⟩, hzz, hk⟩, go⟩ := hrun p l e R s m args below meth c dC dI dA b rfl H locs ls hl hP hsz (hE l dC dI dA b) T hT X0
  have hv' : v = r.map (rv b) := by cases hv; rfl
  subst hv'
  rw [h0] at hzz hk
  have hfin := k r h' hq T'.heap (locs ++ L') ls hl (by rw [e1]; exact hPt) ⟨Nat.le_trans hS.1 (by rw [e1]; exact hzz), fun q h1 h2 => by rw [e1, hk q (Nat.lt_of_lt_of_le h1 hS.1) h2]; exact hS.2.1 q h1 h2, fun q hq => by
      rcases List.mem_append.mp hq with h1 | h1
      · exact hS.2.2 q h1
      · exact hL' q h1⟩ (by rw [hlen]; omega) T' rfl X'
  obtain ⟨t2, a1, b1⟩ := hfin
  refine ⟨t2, go t2 ?_, b1⟩
  have e3 : ((r.toList ++ rest).map (rv b)) = (r.map (rv b)).toList ++ rest.map (rv b) := by cases r <;> simp
  rw [e3] at a1
  exact a1
theorem e_callV {M2 : MI} {as rest : List Value} {Q2 : Option Value → List AC → Prop} {idx n ci o0 : Nat} {fs : List Value} {C2 : String} {T2 : u_T} {N2 : Nat} (hX : Cx M X) (d : decode (mB M) pc = .ok (.invokevirtual idx, 3)) (hok : MkOk M2 n) (lk : LkV (mY M).cls idx M2) (hE : Em M2 (.ref o0 :: as) h Q2) (ho : h[o0]? = some (.inr (ci, fs))) (hcl : vwCl[ci]? = some (C2, T2, N2)) (hC2 : C2 = (mY M2).cls) (hn : as.length = n) (hfr : mF M2 + 1 ≤ mF M) (hlo : 8 + (mL M2 + 11) + mO M2 ≤ mO M) (hc1 : cells + mC M2 ≤ mC M) (hs1 : slots + mS M2 ≤ mS M) (hrest : (rest.map fun v => v.category).sum ≤ 8) (hLl : L.length = mL M)
    (k : ∀ r h', Q2 r h' → Ew M X Z (pc + 3) L (r.toList ++ rest) h' (cells + mC M2) (slots + mS M2)) : Ew M X Z pc L (ps as (.ref o0 :: rest)) h cells slots := by
  refine e_run hX hE (fun p l e R s m args below meth c dC dI dA b eX H locs ls hl hP hsz hM => ?_) k
  subst eX
  obtain ⟨hx, hb, hr, hml, hown, hts, hlk, hnm, hR, hK, hbs⟩ := hX
  have hcode := hok.1
  have hG : GoodIn tb (mW M2) := tb_good (fun w hw => (List.mem_cons.mp hw).elim (fun e => e ▸ hcode) (fun hw => hw))
  have hT : GoodIn tb (wsV (mY M).cls idx C2 (mY M2) (mW M2)) := by
    intro w hw
    rcases List.mem_append.mp hw with hw | hw
    · refine tb_good (ws := [.methodLink (mY M).cls idx (mY M2), .instanceMethod (mY M2), .selects C2 (mY M2) (mY M2), .initialized C2]) ?_ w hw
      intro w hw
      simp only [List.mem_cons, List.not_mem_nil, or_false] at hw
      rcases hw with rfl | rfl | rfl | rfl
      · exact lk.1
      · exact lk.2.1
      · rw [hC2]; exact lk.2.2
      · rw [hC2]; exact hok.2.2.2.2.2
    · exact hG w hw
  rw [ps_map]
  exact va_runV (As := as.map (rv b)) (b := b + o0) (rest := rest.map (rv b)) (Ts := tb) (own := (mY M).cls) (C := C2) ⟨hx, hb, hml, hown, hts⟩ hM (cwV n hts hT rfl rfl rfl ⟨hC2.symm, hok.2.2.1, hok.2.2.2.1, hok.2.2.2.2.1⟩ (by rw [hR]; exact ⟨hfr, hlo⟩)) ⟨PcE.blind, va_recv hK.1 hP hcl (rz_at ho), fun U hU hW => ⟨rfl, by rw [hU]; exact hsz, by rw [hU]; exact hP, hK.warm hW⟩⟩ rfl (by rw [List.length_map]; exact hn) (hl.1.trans hLl) (by simp [rv]) (lv_room (by rw [rv_cats]; exact hrest)) d (by rw [hR]; exact ⟨hc1, hs1⟩)
theorem e_callS {M2 : MI} {as rest : List Value} {Q2 : Option Value → List AC → Prop} {idx n : Nat} (hX : Cx M X) (d : decode (mB M) pc = .ok (.invokestatic idx, 3)) (hok : MkOk M2 n) (lk : LkS (mY M).cls idx M2) (hE : Em M2 as h Q2) (hn : as.length = n) (hfr : mF M2 + 1 ≤ mF M) (hlo : 8 + (mL M2 + 11) + mO M2 ≤ mO M) (hc1 : cells + mC M2 ≤ mC M) (hs1 : slots + mS M2 ≤ mS M) (hrest : (rest.map fun v => v.category).sum ≤ 8) (hLl : L.length = mL M)
    (k : ∀ r h', Q2 r h' → Ew M X Z (pc + 3) L (r.toList ++ rest) h' (cells + mC M2) (slots + mS M2)) : Ew M X Z pc L (ps as rest) h cells slots := by
  refine e_run hX hE (fun p l e R s m args below meth c dC dI dA b eX H locs ls hl hP hsz hM => ?_) k
  subst eX
  obtain ⟨hx, hb, hr, hml, hown, hts, hlk, hnm, hR, hK, hbs⟩ := hX
  have hcode := hok.1
  have hG : GoodIn tb (mW M2) := tb_good (fun w hw => (List.mem_cons.mp hw).elim (fun e => e ▸ hcode) (fun hw => hw))
  rw [ps_map]
  exact va_runS (As := as.map (rv b)) (rest := rest.map (rv b)) (Ts := tb) (own := (mY M).cls) ⟨hx, hb, hml, hown, hts⟩ hM ⟨callB_of n hts hG rfl rfl rfl (hts _ hok.2.2.2.2.2) (hts _ lk.1) ⟨hok.2.2.1, hok.2.2.2.1, hok.2.2.2.2.1⟩ (by rw [hR]; exact ⟨hfr, hlo⟩), hts _ lk.2⟩ ⟨PcE.blind, fun U hU hW => ⟨rfl, by rw [hU]; exact hsz, by rw [hU]; exact hP, hK.warm hW⟩⟩ rfl (by rw [List.length_map]; exact hn) (hl.1.trans hLl) rfl (lv_room (by rw [rv_cats]; exact hrest)) d (by rw [hR]; exact ⟨hc1, hs1⟩)
theorem e_callN {as rest : List Value} {Q2 : Option Value → List AC → Prop} (hX : Cx M X) (d : decode (mB M) pc = .ok (.invokestatic 48, 3)) (hM6 : (mY M).cls = RX6) (hE : Em mX10_sideOf as h Q2) (hn : as.length = 1) (hfr : mF mX10_sideOf + 1 ≤ mF M) (hlo : 8 + (mL mX10_sideOf + 11) + mO mX10_sideOf ≤ mO M) (hc1 : cells + mC mX10_sideOf ≤ mC M) (hs1 : slots + mS mX10_sideOf ≤ mS M) (hrest : (rest.map fun v => v.category).sum ≤ 8) (hLl : L.length = mL M)
    (k : ∀ r h', Q2 r h' → Ew M X Z (pc + 3) L (r.toList ++ rest) h' (cells + mC mX10_sideOf) (slots + mS mX10_sideOf)) : Ew M X Z pc L (ps as rest) h cells slots := by
  refine e_run hX hE (fun p l e R s m args below meth c dC dI dA b eX H locs ls hl hP hsz hM => ?_) k
  subst eX
  obtain ⟨hx, hb, hr, hml, hown, hts, hlk, hnm, hR, hK, hbs⟩ := hX
  have hok := mk_X10_sideOf
  have hcode := hok.1
  have hG : GoodIn tb (mW mX10_sideOf) := tb_good (fun w hw => (List.mem_cons.mp hw).elim (fun e => e ▸ hcode) (fun hw => hw))
  rw [ps_map]
  rw [hM6] at hown
  exact va_runSN (As := as.map (rv b)) (rest := rest.map (rv b)) (Ts := tb) (own := RX6) (host := "CohereBench") ⟨hx, hb, hml, hown, hts⟩ hM ⟨va_cnB 1 hts hG rfl rfl rfl hK.2 (hts _ hok.2.2.2.2.2) ⟨hok.2.2.1, hok.2.2.2.1, hok.2.2.2.2.1⟩ (by rw [hR]; exact ⟨hfr, hlo⟩), hts _ so_stat, trivial⟩ ⟨PcE.blind, fun U hU hW => ⟨rfl, by rw [hU]; exact hsz, by rw [hU]; exact hP, hK.warm hW⟩⟩ rfl (by rw [List.length_map]; exact hn) (hl.1.trans hLl) rfl (lv_room (by rw [rv_cats]; exact hrest)) d (by rw [hR]; exact ⟨hc1, hs1⟩)
theorem e_callI {M2 : MI} {as rest : List Value} {Q2 : Option Value → List AC → Prop} {idx n o0 : Nat} (hX : Cx M X) (d : decode (mB M) pc = .ok (.invokespecial idx, 3)) (hok : MkOk M2 n) (hrn : mR M2 = none) (lk : LkI (mY M).cls idx M2) (hE : Em M2 (.ref o0 :: as) h Q2) (hn : as.length = n) (hfr : mF M2 + 1 ≤ mF M) (hlo : 8 + (mL M2 + 11) + mO M2 ≤ mO M) (hc1 : cells + mC M2 ≤ mC M) (hs1 : slots + mS M2 ≤ mS M) (hrest : (rest.map fun v => v.category).sum ≤ 8) (hLl : L.length = mL M)
    (k : ∀ r h', Q2 r h' → Ew M X Z (pc + 3) L (r.toList ++ rest) h' (cells + mC M2) (slots + mS M2)) : Ew M X Z pc L (ps as (.ref o0 :: rest)) h cells slots := by
  refine e_run hX hE (fun p l e R s m args below meth c dC dI dA b eX H locs ls hl hP hsz hM => ?_) k
  subst eX
  obtain ⟨hx, hb, hr, hml, hown, hts, hlk, hnm, hR, hK, hbs⟩ := hX
  have hcode := hok.1
  have hG : GoodIn tb (mW M2) := tb_good (fun w hw => (List.mem_cons.mp hw).elim (fun e => e ▸ hcode) (fun hw => hw))
  rw [ps_map]
  exact va_runI (As := as.map (rv b)) (b := b + o0) (rest := rest.map (rv b)) (Ts := tb) (own := (mY M).cls) ⟨hx, hb, hml, hown, hts⟩ hM (cwI n hts hG (by unfold mW; rw [hrn]) rfl rfl (hts _ hok.2.2.2.2.2) (hts _ lk.1) (hts _ lk.2.1) lk.2.2 ⟨hok.2.2.1, hok.2.2.2.1, hok.2.2.2.2.1⟩ (by rw [hR]; exact ⟨hfr, hlo⟩)) ⟨PcE.blind, fun U hU hW => ⟨rfl, by rw [hU]; exact hsz, by rw [hU]; exact hP, hK.warm hW⟩⟩ rfl (by rw [List.length_map]; exact hn) (hl.1.trans hLl) (by simp [rv]) (lv_room (by rw [rv_cats]; exact hrest)) d (by rw [hR]; exact ⟨hc1, hs1⟩)
theorem e_objInit {idx o0 : Nat} (hX : Cx M X) (d : decode (mB M) pc = .ok (.invokespecial idx, 3)) (lk : Cond.methodLink (mY M).cls idx objectInit ∈ tb) (hfr : 1 ≤ mF M) (hlo : (st.map fun v => v.category).sum + 12 ≤ mO M) (hLl : L.length = mL M) (k : Ew M X Z (pc + 3) L st h cells slots) : Ew M X Z pc L (.ref o0 :: st) h cells slots := by
  obtain ⟨p, l, e, R, s, m, args, below, meth, c, dC, dI, dA, b⟩ := X
  obtain ⟨hx, hb, hr, hml, hown, hts, hlk, hnm, hR, hK, hbs⟩ := hX
  intro H locs ls hl hP hS hz
  exact W.objInit hx hb hown (hts _ lk) (hts _ oi_inst) (hts _ oi_code) rfl (by rw [hml]; exact hl.1.trans hLl) rfl d (by rw [hR]; exact hfr) (by rw [hR]; show 2 * 0 + _ + 12 ≤ mO M; have := rv_cats b st; omega) (k H locs ls hl hP hS hz)
end EL
end
section
theorem i_vc : Claimed_1_1 ∧ Claimed_1_2 := sorry
end
