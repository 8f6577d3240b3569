/-! ===== the answers of the run by hand ===== -/
def stpF (l : List Sp) (x y : Int32) : Int32 := if x < 0 ∨ nI l.length ≤ x ∨ y < 0 ∨ nI 2 < y then -1 else match l[x.toNatClampNeg]? with
  | none => -1
  | some s => if y = nI 0 then nI s.1 else if y = nI 1 then nI s.2.1 else frI s
def endF (pr : Pr) (v : Vc) (x y : Int32) : Int32 := if x < 0 ∨ nI (pP pr) < x ∨ y < 0 ∨ nI 2 < y then -1 else if x = nI (pP pr) then nI (v (12 + y.toNatClampNeg)) else nI (v (3 * x.toNatClampNeg + y.toNatClampNeg))
def letF (v : Vc) (x y : Int32) : Int32 := if x < 0 ∨ nI (v 15) ≤ x ∨ y < 0 ∨ nI 4 < y then -1 else nI (v (16 + 5 * x.toNatClampNeg + y.toNatClampNeg))
def nowF (pr : Pr) (v : Vc) (x : Int32) : Int32 := match rg 0 3 x with
  | none => -1
  | some k => if k = 0 then nI (v 15) else if k = 1 then nI (bdF pr v) else if k = 2 then bI (quF pr v) else if (stepsF pr v).length = 0 ∧ quF pr v = false then 1 else 0
def chF (pr : Pr) (v : Vc) (x : Int32) : Int32 × Vc := if x < 0 ∨ nI (stepsF pr v).length ≤ x then (-1, v) else match (stepsF pr v)[x.toNatClampNeg]? with
  | none => (-1, v)
  | some s => (nI (doF pr v s).1, if (doF pr v s).1 = 0 then (doF pr v s).2.2 else v)
theorem ix_of {x : Int32} {m : Nat} (hm : m < 2 ^ 31) (h1 : ¬ x < 0) (h2 : ¬ nI m ≤ x) : ∃ i, i < m ∧ x = nI i := by
  obtain ⟨i, hi, rfl⟩ := nI_of h1
  rw [nx_le hm hi] at h2
  exact ⟨i, by omega, rfl⟩
theorem ixl_of {x : Int32} {m : Nat} (hm : m < 2 ^ 31) (h1 : ¬ x < 0) (h2 : ¬ nI m < x) : ∃ i, i ≤ m ∧ x = nI i := by
  obtain ⟨i, hi, rfl⟩ := nI_of h1
  rw [nx_lt hm hi] at h2
  exact ⟨i, by omega, rfl⟩
theorem FrS.ofR {σ σ2 : Sg} (h : Fr 53 σ σ2 [59, 62, 63, 64, 65] [16]) : FrS σ σ2 := h.mono (by decide) (by decide)
set_option maxRecDepth 100000 in
set_option maxHeartbeats 4000000 in
theorem c_X11_reset {σ : Sg} {pr : Pr} {v : Vc} {ch : Bool} (h : MdS σ pr v ch) (hk : PrOk pr) : Sm 77 mX11_reset [.ref 53] σ (qi fun r σ2 => r = nI (stepsF pr v0).length ∧ MdS σ2 pr v0 ch ∧ FrS σ σ2) := by
  refine Sm.of mk_X11_reset (Nat.le_of_ble_eq_true rfl) rfl (fun X hX => ?_)
  refine s_aload_n hX dX11_reset_0 rfl ?_
  refine s_callVv (as := []) hX dX11_reset_1 mk_X11_first lk_X11_91 (c_X11_first) rfl (by omega) rfl rfl rfl ⟨rfl, rfl⟩ (Nat.le_of_ble_eq_true rfl) (Nat.le_of_ble_eq_true rfl) (Nat.le_of_ble_eq_true rfl) rfl (fun σ1 p1 => ?_)
  obtain ⟨ho1, hV1⟩ := p1
  refine s_aload_n hX dX11_reset_4 rfl ?_
  refine s_getR hX dX11_reset_5 fl_X11_30 rfl rfl (by omega) ?_
  refine s_iconst (v := nI 0) hX dX11_reset_8 (by decide) ?_
  refine s_aload_n hX dX11_reset_9 rfl ?_
  refine s_getR hX dX11_reset_10 fl_X11_33 rfl rfl (by omega) ?_
  refine s_iconst (v := nI 0) hX dX11_reset_13 (by decide) ?_
  refine s_callSv (as := [_, _, _, _]) hX dX11_reset_14 mk_X11_copy lk_X11_94 (c_X11_copy (f := 59) (t := 60) (lf := 56) (lt := 56) (a := 0) (b := 0) rfl rfl (by decide) (by decide) (by decide) (by omega) (by omega) (by decide) (by decide)) rfl ⟨rfl, rfl⟩ (Nat.le_of_ble_eq_true rfl) (Nat.le_of_ble_eq_true rfl) (Nat.le_of_ble_eq_true rfl) rfl (fun σ14 p14 => ?_)
  subst p14
  refine s_gen (fun σ2 e2 => ?_)
  have hV := hV1.copy (t := 60) (b := 0)
  have hO : Off σ1 (wA σ1 60 (va_cpy (σ1 59).1 (σ1 60).1 0 0 56)) [60] := Off.rf.wA (by decide)
  rw [← e2] at hV hO
  have hO2 : Off σ σ2 [59, 60] := (ho1.mono (by decide)).trans (hO.mono (by decide))
  have h2 : MdS σ2 pr v0 ch := ⟨h.1.off hO2 (by decide) (by decide) (by decide) (by decide) (by decide), hV, by rw [hO2 53 (by decide)]; exact h.2.2⟩
  refine s_aload_n hX dX11_reset_17 rfl ?_
  refine s_callVv (as := []) hX dX11_reset_18 mk_X11_toRun lk_X11_163 (c_X11_toRun h2.1 hk h2.2.1 (VOk_v0 hk.1.2)) rfl (by omega) rfl rfl rfl ⟨rfl, rfl⟩ (Nat.le_of_ble_eq_true rfl) (Nat.le_of_ble_eq_true rfl) (Nat.le_of_ble_eq_true rfl) rfl (fun σ18 p18 => ?_)
  obtain ⟨hS, hV3, hf⟩ := p18
  refine s_aload_n hX dX11_reset_21 rfl ?_
  refine s_getI (x := nI ((stepsF pr v0).length)) hX dX11_reset_22 fl_X11_109 rfl rfl (by omega) hS.1 ?_
  refine s_iret hX dX11_reset_25 rfl rfl ?_
  exact ⟨rfl, h2.fr hf (by decide) (by decide), ((Fr.of hO2 (by decide) : Fr 53 _ _ [59, 60] []).mono (by decide) (by decide)).trans (FrS.ofR hf)⟩
set_option maxRecDepth 100000 in
set_option maxHeartbeats 4000000 in
theorem c_X11_steps {σ : Sg} {pr : Pr} {v : Vc} {ch : Bool} (h : MdS σ pr v ch) (hk : PrOk pr) (hv : VOk pr v) : Sm 77 mX11_steps [.ref 53] σ (qi fun r σ2 => r = nI (stepsF pr v).length ∧ MdS σ2 pr v ch ∧ FrS σ σ2) := by
  refine Sm.of mk_X11_steps (Nat.le_of_ble_eq_true rfl) rfl (fun X hX => ?_)
  refine s_aload_n hX dX11_steps_0 rfl ?_
  refine s_callVv (as := []) hX dX11_steps_1 mk_X11_toRun lk_X11_163 (c_X11_toRun h.1 hk h.2.1 hv) rfl (by omega) rfl rfl rfl ⟨rfl, rfl⟩ (Nat.le_of_ble_eq_true rfl) (Nat.le_of_ble_eq_true rfl) (Nat.le_of_ble_eq_true rfl) rfl (fun σ1 p1 => ?_)
  obtain ⟨hS, hV, hf⟩ := p1
  have hM := h.fr hf (by decide) (by decide)
  have hl20 := stepsF_le hk hv
  refine s_aload_n hX dX11_steps_4 rfl ?_
  refine s_getI (x := nI ((stepsF pr v).length)) hX dX11_steps_5 fl_X11_109 rfl rfl (by omega) hS.1 ?_
  refine s_iret hX dX11_steps_8 rfl rfl ?_
  exact ⟨rfl, hM, FrS.ofR hf⟩
set_option maxRecDepth 100000 in
set_option maxHeartbeats 4000000 in
theorem c_X11_step {σ : Sg} {pr : Pr} {v : Vc} {ch : Bool} (h : MdS σ pr v ch) (hk : PrOk pr) (hv : VOk pr v) (x y : Int32) : Sm 77 mX11_step [.ref 53, .int x, .int y] σ (qi fun r σ2 => r = stpF (stepsF pr v) x y ∧ MdS σ2 pr v ch ∧ FrS σ σ2) := by
  refine Sm.of mk_X11_step (Nat.le_of_ble_eq_true rfl) rfl (fun X hX => ?_)
  refine s_aload_n hX dX11_step_0 rfl ?_
  refine s_callVv (as := []) hX dX11_step_1 mk_X11_toRun lk_X11_163 (c_X11_toRun h.1 hk h.2.1 hv) rfl (by omega) rfl rfl rfl ⟨rfl, rfl⟩ (Nat.le_of_ble_eq_true rfl) (Nat.le_of_ble_eq_true rfl) (Nat.le_of_ble_eq_true rfl) rfl (fun σ1 p1 => ?_)
  obtain ⟨hS, hV, hf⟩ := p1
  have hM := h.fr hf (by decide) (by decide)
  have hl20 := stepsF_le hk hv
  refine s_iload_n hX dX11_step_4 rfl ?_
  refine s_if_lt (tgt := 25) hX dX11_step_5 (by decide) (fun q5 => ?_) (fun q5 => ?_)
  · refine s_iconst (v := -1) hX dX11_step_25 (by decide) ?_
    refine s_iret hX dX11_step_26 rfl rfl ?_
    exact ⟨by unfold stpF; rw [if_pos (by first | exact Or.inl q5 | exact Or.inr (Or.inl q13) | exact Or.inr (Or.inr (Or.inl q17)) | exact Or.inr (Or.inr (Or.inr (Int32.not_le.mp q22))))], hM, FrS.ofR hf⟩
  · refine s_iload_n hX dX11_step_8 rfl ?_
    refine s_aload_n hX dX11_step_9 rfl ?_
    refine s_getI (x := nI ((stepsF pr v).length)) hX dX11_step_10 fl_X11_109 rfl rfl (by omega) hS.1 ?_
    refine s_icmp_ge (tgt := 25) hX dX11_step_13 (by decide) (fun q13 => ?_) (fun q13 => ?_)
    · refine s_iconst (v := -1) hX dX11_step_25 (by decide) ?_
      refine s_iret hX dX11_step_26 rfl rfl ?_
      exact ⟨by unfold stpF; rw [if_pos (by first | exact Or.inl q5 | exact Or.inr (Or.inl q13) | exact Or.inr (Or.inr (Or.inl q17)) | exact Or.inr (Or.inr (Or.inr (Int32.not_le.mp q22))))], hM, FrS.ofR hf⟩
    · refine s_iload_n hX dX11_step_16 rfl ?_
      refine s_if_lt (tgt := 25) hX dX11_step_17 (by decide) (fun q17 => ?_) (fun q17 => ?_)
      · refine s_iconst (v := -1) hX dX11_step_25 (by decide) ?_
        refine s_iret hX dX11_step_26 rfl rfl ?_
        exact ⟨by unfold stpF; rw [if_pos (by first | exact Or.inl q5 | exact Or.inr (Or.inl q13) | exact Or.inr (Or.inr (Or.inl q17)) | exact Or.inr (Or.inr (Or.inr (Int32.not_le.mp q22))))], hM, FrS.ofR hf⟩
      · refine s_iload_n hX dX11_step_20 rfl ?_
        refine s_iconst (v := nI 2) hX dX11_step_21 (by decide) ?_
        refine s_icmp_le (tgt := 27) hX dX11_step_22 (by decide) (fun q22 => ?_) (fun q22 => ?_)
        · obtain ⟨i, hi, rfl⟩ := ix_of (by omega) q5 q13
          obtain ⟨k, hk2, rfl⟩ := ixl_of (by decide) q17 (Int32.not_lt.mpr q22)
          have hi20 : i < 20 := by omega
          obtain ⟨s, hs⟩ : ∃ s, (stepsF pr v)[i]? = some s := ⟨_, List.getElem?_eq_getElem hi⟩
          have hE : stpF (stepsF pr v) (nI i) (nI k) = if k = 0 then nI s.1 else if k = 1 then nI s.2.1 else frI s := by
            unfold stpF
            rw [if_neg (by rw [nx_le (by omega) (by omega), nx_lt (by decide) (by omega)]; intro q; rcases q with q | q | q | q
                           · exact nI_pos (by omega) q
                           · omega
                           · exact nI_pos (by omega) q
                           · omega), nI_clamp (by omega), hs]
            simp only [nx_ne (show k < 2 ^ 31 by omega) (show 0 < 2 ^ 31 by decide), nx_ne (show k < 2 ^ 31 by omega) (show 1 < 2 ^ 31 by decide)]
          obtain ⟨s62, s63, s64, s65⟩ := hS.2 i s hs
          refine s_iload_n hX dX11_step_27 rfl ?_
          refine s_if_ne_n (tgt := 40) hX dX11_step_28 (by decide) (by omega) (fun q28 => ?_) (fun q28 => ?_)
          · refine s_iload_n hX dX11_step_40 rfl ?_
            refine s_iconst (v := nI 1) hX dX11_step_41 (by decide) ?_
            refine s_icmp_ne_n (tgt := 54) hX dX11_step_42 (by decide) (by omega) (by omega) (fun q42 => ?_) (fun q42 => ?_)
            · refine s_aload_n hX dX11_step_54 rfl ?_
              refine s_getR hX dX11_step_55 fl_X11_45 rfl rfl (by omega) ?_
              refine s_iload_n hX dX11_step_58 rfl ?_
              refine s_iald (x := (frI s)) hX dX11_step_59 rfl (by omega) (by omega) (by decide) s64 ?_
              refine s_iret hX dX11_step_60 rfl rfl ?_
              refine ⟨?_, hM, FrS.ofR hf⟩
              rw [hE]
              first
                | rw [if_pos q28]
                | rw [if_neg q28, if_pos q42]
                | rw [if_neg q28, if_neg q42]
            · refine s_aload_n hX dX11_step_45 rfl ?_
              refine s_getR hX dX11_step_46 fl_X11_42 rfl rfl (by omega) ?_
              refine s_iload_n hX dX11_step_49 rfl ?_
              refine s_iald (x := nI (s.2.1)) hX dX11_step_50 rfl (by omega) (by omega) (by decide) s63 ?_
              refine s_goto (tgt := 60) hX dX11_step_51 (by decide) ?_
              refine s_iret hX dX11_step_60 rfl rfl ?_
              refine ⟨?_, hM, FrS.ofR hf⟩
              rw [hE]
              first
                | rw [if_pos q28]
                | rw [if_neg q28, if_pos q42]
                | rw [if_neg q28, if_neg q42]
          · refine s_aload_n hX dX11_step_31 rfl ?_
            refine s_getR hX dX11_step_32 fl_X11_39 rfl rfl (by omega) ?_
            refine s_iload_n hX dX11_step_35 rfl ?_
            refine s_iald (x := nI (s.1)) hX dX11_step_36 rfl (by omega) (by omega) (by decide) s62 ?_
            refine s_goto (tgt := 60) hX dX11_step_37 (by decide) ?_
            refine s_iret hX dX11_step_60 rfl rfl ?_
            refine ⟨?_, hM, FrS.ofR hf⟩
            rw [hE]
            first
              | rw [if_pos q28]
              | rw [if_neg q28, if_pos q42]
              | rw [if_neg q28, if_neg q42]
        · refine s_iconst (v := -1) hX dX11_step_25 (by decide) ?_
          refine s_iret hX dX11_step_26 rfl rfl ?_
          exact ⟨by unfold stpF; rw [if_pos (by first | exact Or.inl q5 | exact Or.inr (Or.inl q13) | exact Or.inr (Or.inr (Or.inl q17)) | exact Or.inr (Or.inr (Or.inr (Int32.not_le.mp q22))))], hM, FrS.ofR hf⟩
set_option maxRecDepth 100000 in
set_option maxHeartbeats 4000000 in
theorem c_X11_choose {σ : Sg} {pr : Pr} {v : Vc} {ch : Bool} (h : MdS σ pr v ch) (hk : PrOk pr) (hv : VOk pr v) (x : Int32) : Sm 77 mX11_choose [.ref 53, .int x] σ (qi fun r σ2 => r = (chF pr v x).1 ∧ MdS σ2 pr (chF pr v x).2 ch ∧ FrS σ σ2) := by
  refine Sm.of mk_X11_choose (Nat.le_of_ble_eq_true rfl) rfl (fun X hX => ?_)
  refine s_aload_n hX dX11_choose_0 rfl ?_
  refine s_callVv (as := []) hX dX11_choose_1 mk_X11_toRun lk_X11_163 (c_X11_toRun h.1 hk h.2.1 hv) rfl (by omega) rfl rfl rfl ⟨rfl, rfl⟩ (Nat.le_of_ble_eq_true rfl) (Nat.le_of_ble_eq_true rfl) (Nat.le_of_ble_eq_true rfl) rfl (fun σ1 p1 => ?_)
  obtain ⟨hS, hV, hf⟩ := p1
  have hM := h.fr hf (by decide) (by decide)
  have hl20 := stepsF_le hk hv
  refine s_iload_n hX dX11_choose_4 rfl ?_
  refine s_if_lt (tgt := 16) hX dX11_choose_5 (by decide) (fun q5 => ?_) (fun q5 => ?_)
  · refine s_iconst (v := -1) hX dX11_choose_16 (by decide) ?_
    refine s_iret hX dX11_choose_17 rfl rfl ?_
    have hE : chF pr v x = (-1, v) := by
      unfold chF
      rw [if_pos (by first | exact Or.inl q5 | exact Or.inr (Int32.not_lt.mp q13))]
    rw [hE]
    exact ⟨rfl, hM, FrS.ofR hf⟩
  · refine s_iload_n hX dX11_choose_8 rfl ?_
    refine s_aload_n hX dX11_choose_9 rfl ?_
    refine s_getI (x := nI ((stepsF pr v).length)) hX dX11_choose_10 fl_X11_109 rfl rfl (by omega) hS.1 ?_
    refine s_icmp_lt (tgt := 18) hX dX11_choose_13 (by decide) (fun q13 => ?_) (fun q13 => ?_)
    · obtain ⟨i, hi, rfl⟩ := ix_of (m := (stepsF pr v).length) (by omega) q5 (Int32.not_le.mpr q13)
      obtain ⟨s, hs⟩ : ∃ s, (stepsF pr v)[i]? = some s := ⟨_, List.getElem?_eq_getElem hi⟩
      have hso := stepsF_ok hv (List.mem_of_getElem? hs)
      have hE : chF pr v (nI i) = (nI (doF pr v s).1, if (doF pr v s).1 = 0 then (doF pr v s).2.2 else v) := by
        unfold chF
        rw [if_neg (by rw [nx_le (by omega) (by omega)]; intro q; rcases q with q | q
                       · exact nI_pos (by omega) q
                       · omega), nI_clamp (by omega), hs]
      have hle := doF_le pr v s
      refine s_aload_n hX dX11_choose_18 rfl ?_
      refine s_iload_n hX dX11_choose_19 rfl ?_
      refine s_callVi (as := [_]) hX dX11_choose_20 mk_X11_doStep lk_X11_166 (c_X11_doStep hM.1 hk hV hv hS hs (by omega) hso) rfl (by omega) rfl rfl rfl ⟨rfl, rfl⟩ (Nat.le_of_ble_eq_true rfl) (Nat.le_of_ble_eq_true rfl) (Nat.le_of_ble_eq_true rfl) rfl (fun v20 σ20 p20 => ?_)
      obtain ⟨rfl, hf2, hV2, h34⟩ := p20
      have hM2 := hM.fr hf2 (by decide) (by decide)
      have hfs := (FrS.ofR hf).trans (hf2.mono (by decide) (by decide))
      refine s_istore_n hX dX11_choose_23 (Nat.le_of_ble_eq_true rfl) rfl st_3_2 ?_
      refine s_iload_n hX dX11_choose_24 rfl ?_
      refine s_if_ne_n (tgt := 41) hX dX11_choose_25 (by decide) (by omega) (fun q25 => ?_) (fun q25 => ?_)
      · refine s_iload_n hX dX11_choose_41 rfl ?_
        refine s_iret hX dX11_choose_42 rfl rfl ?_
        rw [hE]
        first
          | (rw [if_neg q25]; exact ⟨rfl, hM2, hfs⟩)
          | (rw [if_pos q25]
             exact ⟨rfl, ⟨hM2.1.off hO (by decide) (by decide) (by decide) (by decide) (by decide), hV3, by rw [hO 53 (by decide)]; exact hM2.2.2⟩, hfs.trans ((Fr.of hO (by decide) : Fr 53 _ _ [60] []).mono (by decide) (by decide))⟩)
      · refine s_aload_n hX dX11_choose_28 rfl ?_
        refine s_getR hX dX11_choose_29 fl_X11_30 rfl rfl (by omega) ?_
        refine s_iconst (v := nI 0) hX dX11_choose_32 (by decide) ?_
        refine s_aload_n hX dX11_choose_33 rfl ?_
        refine s_getR hX dX11_choose_34 fl_X11_33 rfl rfl (by omega) ?_
        refine s_iconst (v := nI 0) hX dX11_choose_37 (by decide) ?_
        refine s_callSv (as := [_, _, _, _]) hX dX11_choose_38 mk_X11_copy lk_X11_94 (c_X11_copy (f := 59) (t := 60) (lf := 56) (lt := 56) (a := 0) (b := 0) rfl rfl (by decide) (by decide) (by decide) (by omega) (by omega) (by decide) (by decide)) rfl ⟨rfl, rfl⟩ (Nat.le_of_ble_eq_true rfl) (Nat.le_of_ble_eq_true rfl) (Nat.le_of_ble_eq_true rfl) rfl (fun σ38 p38 => ?_)
        subst p38
        have hV3 := hV2.copy (t := 60) (b := 0)
        have hO : Off σ20 (wA σ20 60 (va_cpy (σ20 59).1 (σ20 60).1 0 0 56)) [60] := Off.rf.wA (by decide)
        refine s_iload_n hX dX11_choose_41 rfl ?_
        refine s_iret hX dX11_choose_42 rfl rfl ?_
        rw [hE]
        first
          | (rw [if_neg q25]; exact ⟨rfl, hM2, hfs⟩)
          | (rw [if_pos q25]
             exact ⟨rfl, ⟨hM2.1.off hO (by decide) (by decide) (by decide) (by decide) (by decide), hV3, by rw [hO 53 (by decide)]; exact hM2.2.2⟩, hfs.trans ((Fr.of hO (by decide) : Fr 53 _ _ [60] []).mono (by decide) (by decide))⟩)
    · refine s_iconst (v := -1) hX dX11_choose_16 (by decide) ?_
      refine s_iret hX dX11_choose_17 rfl rfl ?_
      have hE : chF pr v x = (-1, v) := by
        unfold chF
        rw [if_pos (by first | exact Or.inl q5 | exact Or.inr (Int32.not_lt.mp q13))]
      rw [hE]
      exact ⟨rfl, hM, FrS.ofR hf⟩
set_option maxRecDepth 100000 in
set_option maxHeartbeats 4000000 in
theorem c_X11_end {σ : Sg} {pr : Pr} {v : Vc} {ch : Bool} (h : MdS σ pr v ch) (hk : PrOk pr) (hv : VOk pr v) (x y : Int32) : Sm 77 mX11_end [.ref 53, .int x, .int y] σ (qi fun r σ2 => r = endF pr v x y ∧ σ2 = σ) := by
  refine Sm.of mk_X11_end (Nat.le_of_ble_eq_true rfl) rfl (fun X hX => ?_)
  have hP := hk.1
  refine s_iload_n hX dX11_end_0 rfl ?_
  refine s_if_lt (tgt := 21) hX dX11_end_1 (by decide) (fun q1 => ?_) (fun q1 => ?_)
  · refine s_iconst (v := -1) hX dX11_end_21 (by decide) ?_
    refine s_iret hX dX11_end_22 rfl rfl ?_
    exact ⟨by unfold endF; rw [if_pos (by first | exact Or.inl q1 | exact Or.inr (Or.inl q9) | exact Or.inr (Or.inr (Or.inl q13)) | exact Or.inr (Or.inr (Or.inr (Int32.not_le.mp q18))))], rfl⟩
  · refine s_iload_n hX dX11_end_4 rfl ?_
    refine s_aload_n hX dX11_end_5 rfl ?_
    refine s_getI (x := nI (pP pr)) hX dX11_end_6 fl_X11_7 rfl rfl (by omega) h.1.1 ?_
    refine s_icmp_gt (tgt := 21) hX dX11_end_9 (by decide) (fun q9 => ?_) (fun q9 => ?_)
    · refine s_iconst (v := -1) hX dX11_end_21 (by decide) ?_
      refine s_iret hX dX11_end_22 rfl rfl ?_
      exact ⟨by unfold endF; rw [if_pos (by first | exact Or.inl q1 | exact Or.inr (Or.inl q9) | exact Or.inr (Or.inr (Or.inl q13)) | exact Or.inr (Or.inr (Or.inr (Int32.not_le.mp q18))))], rfl⟩
    · refine s_iload_n hX dX11_end_12 rfl ?_
      refine s_if_lt (tgt := 21) hX dX11_end_13 (by decide) (fun q13 => ?_) (fun q13 => ?_)
      · refine s_iconst (v := -1) hX dX11_end_21 (by decide) ?_
        refine s_iret hX dX11_end_22 rfl rfl ?_
        exact ⟨by unfold endF; rw [if_pos (by first | exact Or.inl q1 | exact Or.inr (Or.inl q9) | exact Or.inr (Or.inr (Or.inl q13)) | exact Or.inr (Or.inr (Or.inr (Int32.not_le.mp q18))))], rfl⟩
      · refine s_iload_n hX dX11_end_16 rfl ?_
        refine s_iconst (v := nI 2) hX dX11_end_17 (by decide) ?_
        refine s_icmp_le (tgt := 23) hX dX11_end_18 (by decide) (fun q18 => ?_) (fun q18 => ?_)
        · obtain ⟨i, hi, rfl⟩ := ixl_of (m := pP pr) (by omega) q1 q9
          obtain ⟨k, hk2, rfl⟩ := ixl_of (m := 2) (by decide) q13 (Int32.not_lt.mpr q18)
          have hE : endF pr v (nI i) (nI k) = if i = pP pr then nI (v (12 + k)) else nI (v (3 * i + k)) := by
            unfold endF
            rw [if_neg (by rw [nx_lt (by omega) (by omega), nx_lt (by decide) (by omega)]; intro q; rcases q with q | q | q | q
                           · exact nI_pos (by omega) q
                           · omega
                           · exact nI_pos (by omega) q
                           · omega), nI_clamp (by omega), nI_clamp (by omega)]
            simp only [nx_ne (show i < 2 ^ 31 by omega) (show pP pr < 2 ^ 31 by omega)]
          refine s_iload_n hX dX11_end_23 rfl ?_
          refine s_aload_n hX dX11_end_24 rfl ?_
          refine s_getI (x := nI (pP pr)) hX dX11_end_25 fl_X11_7 rfl rfl (by omega) h.1.1 ?_
          refine s_icmp_ne_n (tgt := 43) hX dX11_end_28 (by decide) (by omega) (by omega) (fun q28 => ?_) (fun q28 => ?_)
          · refine s_aload_n hX dX11_end_43 rfl ?_
            refine s_getR hX dX11_end_44 fl_X11_33 rfl rfl (by omega) ?_
            refine s_iconst (v := nI 3) hX dX11_end_47 (by decide) ?_
            refine s_iload_n hX dX11_end_48 rfl ?_
            refine s_imul_n hX dX11_end_49 ?_
            refine s_iload_n hX dX11_end_50 rfl ?_
            refine s_iadd_n hX dX11_end_51 ?_
            refine s_iald (x := nI (v _)) hX dX11_end_52 rfl (by omega) (by omega) (by decide) (h.2.1.at0 _ (by omega)) ?_
            refine s_iret hX dX11_end_53 rfl rfl ?_
            rw [hE]
            first
              | exact ⟨by rw [if_pos q28], rfl⟩
              | exact ⟨by rw [if_neg q28], rfl⟩
          · refine s_aload_n hX dX11_end_31 rfl ?_
            refine s_getR hX dX11_end_32 fl_X11_33 rfl rfl (by omega) ?_
            refine s_bipush (v := nI 12) hX dX11_end_35 (by decide) ?_
            refine s_iload_n hX dX11_end_37 rfl ?_
            refine s_iadd_n hX dX11_end_38 ?_
            refine s_iald (x := nI (v _)) hX dX11_end_39 rfl (by omega) (by omega) (by decide) (h.2.1.at0 _ (by omega)) ?_
            refine s_goto (tgt := 53) hX dX11_end_40 (by decide) ?_
            refine s_iret hX dX11_end_53 rfl rfl ?_
            rw [hE]
            first
              | exact ⟨by rw [if_pos q28], rfl⟩
              | exact ⟨by rw [if_neg q28], rfl⟩
        · refine s_iconst (v := -1) hX dX11_end_21 (by decide) ?_
          refine s_iret hX dX11_end_22 rfl rfl ?_
          exact ⟨by unfold endF; rw [if_pos (by first | exact Or.inl q1 | exact Or.inr (Or.inl q9) | exact Or.inr (Or.inr (Or.inl q13)) | exact Or.inr (Or.inr (Or.inr (Int32.not_le.mp q18))))], rfl⟩
set_option maxRecDepth 100000 in
set_option maxHeartbeats 4000000 in
theorem c_X11_letter {σ : Sg} {pr : Pr} {v : Vc} {ch : Bool} (h : MdS σ pr v ch) (hk : PrOk pr) (hv : VOk pr v) (x y : Int32) : Sm 77 mX11_letter [.ref 53, .int x, .int y] σ (qi fun r σ2 => r = letF v x y ∧ σ2 = σ) := by
  refine Sm.of mk_X11_letter (Nat.le_of_ble_eq_true rfl) rfl (fun X hX => ?_)
  have h15 := hv.2.2.2.2.1
  refine s_iload_n hX dX11_letter_0 rfl ?_
  refine s_if_lt (tgt := 24) hX dX11_letter_1 (by decide) (fun q1 => ?_) (fun q1 => ?_)
  · refine s_iconst (v := -1) hX dX11_letter_24 (by decide) ?_
    refine s_iret hX dX11_letter_25 rfl rfl ?_
    exact ⟨by unfold letF; rw [if_pos (by first | exact Or.inl q1 | exact Or.inr (Or.inl q12) | exact Or.inr (Or.inr (Or.inl q16)) | exact Or.inr (Or.inr (Or.inr (Int32.not_le.mp q21))))], rfl⟩
  · refine s_iload_n hX dX11_letter_4 rfl ?_
    refine s_aload_n hX dX11_letter_5 rfl ?_
    refine s_getR hX dX11_letter_6 fl_X11_33 rfl rfl (by omega) ?_
    refine s_bipush (v := nI 15) hX dX11_letter_9 (by decide) ?_
    refine s_iald (x := nI (v 15)) hX dX11_letter_11 rfl (by omega) (by omega) (by decide) (h.2.1.at0 _ (by omega)) ?_
    refine s_icmp_ge (tgt := 24) hX dX11_letter_12 (by decide) (fun q12 => ?_) (fun q12 => ?_)
    · refine s_iconst (v := -1) hX dX11_letter_24 (by decide) ?_
      refine s_iret hX dX11_letter_25 rfl rfl ?_
      exact ⟨by unfold letF; rw [if_pos (by first | exact Or.inl q1 | exact Or.inr (Or.inl q12) | exact Or.inr (Or.inr (Or.inl q16)) | exact Or.inr (Or.inr (Or.inr (Int32.not_le.mp q21))))], rfl⟩
    · refine s_iload_n hX dX11_letter_15 rfl ?_
      refine s_if_lt (tgt := 24) hX dX11_letter_16 (by decide) (fun q16 => ?_) (fun q16 => ?_)
      · refine s_iconst (v := -1) hX dX11_letter_24 (by decide) ?_
        refine s_iret hX dX11_letter_25 rfl rfl ?_
        exact ⟨by unfold letF; rw [if_pos (by first | exact Or.inl q1 | exact Or.inr (Or.inl q12) | exact Or.inr (Or.inr (Or.inl q16)) | exact Or.inr (Or.inr (Or.inr (Int32.not_le.mp q21))))], rfl⟩
      · refine s_iload_n hX dX11_letter_19 rfl ?_
        refine s_iconst (v := nI 4) hX dX11_letter_20 (by decide) ?_
        refine s_icmp_le (tgt := 26) hX dX11_letter_21 (by decide) (fun q21 => ?_) (fun q21 => ?_)
        · obtain ⟨i, hi, rfl⟩ := ix_of (m := v 15) (by omega) q1 q12
          obtain ⟨k, hk2, rfl⟩ := ixl_of (m := 4) (by decide) q16 (Int32.not_lt.mpr q21)
          have hE : letF v (nI i) (nI k) = nI (v (16 + 5 * i + k)) := by
            unfold letF
            rw [if_neg (by rw [nx_le (by omega) (by omega), nx_lt (by decide) (by omega)]; intro q; rcases q with q | q | q | q
                           · exact nI_pos (by omega) q
                           · omega
                           · exact nI_pos (by omega) q
                           · omega), nI_clamp (by omega), nI_clamp (by omega)]
          refine s_aload_n hX dX11_letter_26 rfl ?_
          refine s_getR hX dX11_letter_27 fl_X11_33 rfl rfl (by omega) ?_
          refine s_bipush (v := nI 16) hX dX11_letter_30 (by decide) ?_
          refine s_iconst (v := nI 5) hX dX11_letter_32 (by decide) ?_
          refine s_iload_n hX dX11_letter_33 rfl ?_
          refine s_imul_n hX dX11_letter_34 ?_
          refine s_iadd_n hX dX11_letter_35 ?_
          refine s_iload_n hX dX11_letter_36 rfl ?_
          refine s_iadd_n hX dX11_letter_37 ?_
          refine s_iald (x := nI (v _)) hX dX11_letter_38 rfl (by omega) (by omega) (by decide) (h.2.1.at0 _ (by omega)) ?_
          refine s_iret hX dX11_letter_39 rfl rfl ?_
          rw [hE]
          exact ⟨rfl, rfl⟩
        · refine s_iconst (v := -1) hX dX11_letter_24 (by decide) ?_
          refine s_iret hX dX11_letter_25 rfl rfl ?_
          exact ⟨by unfold letF; rw [if_pos (by first | exact Or.inl q1 | exact Or.inr (Or.inl q12) | exact Or.inr (Or.inr (Or.inl q16)) | exact Or.inr (Or.inr (Or.inr (Int32.not_le.mp q21))))], rfl⟩
set_option maxRecDepth 100000 in
set_option maxHeartbeats 4000000 in
theorem c_X11_now {σ : Sg} {pr : Pr} {v : Vc} {ch : Bool} (h : MdS σ pr v ch) (hk : PrOk pr) (hv : VOk pr v) (x : Int32) : Sm 77 mX11_now [.ref 53, .int x] σ (qi fun r σ2 => r = nowF pr v x ∧ MdS σ2 pr v ch ∧ FrS σ σ2) := by
  refine Sm.of mk_X11_now (Nat.le_of_ble_eq_true rfl) rfl (fun X hX => ?_)
  have h15 := hv.2.2.2.2.1
  refine s_iload_n hX dX11_now_0 rfl ?_
  refine s_if_lt (tgt := 9) hX dX11_now_1 (by decide) (fun q1 => ?_) (fun q1 => ?_)
  · refine s_iconst (v := -1) hX dX11_now_9 (by decide) ?_
    refine s_iret hX dX11_now_10 rfl rfl ?_
    exact ⟨by unfold nowF; rw [rg_no (by first | exact Or.inl q1 | exact Or.inr (Int32.not_le.mp q6))], h, Fr.rf⟩
  · refine s_iload_n hX dX11_now_4 rfl ?_
    refine s_iconst (v := nI 3) hX dX11_now_5 (by decide) ?_
    refine s_icmp_le (tgt := 11) hX dX11_now_6 (by decide) (fun q6 => ?_) (fun q6 => ?_)
    · obtain ⟨k, -, hk3, rfl, hrg⟩ := rg_of (lo := 0) (hi := 3) (by decide) (by decide) q1 (Int32.not_lt.mpr q6)
      have hE : nowF pr v (nI k) = if k = 0 then nI (v 15) else if k = 1 then nI (bdF pr v) else if k = 2 then bI (quF pr v) else if (stepsF pr v).length = 0 ∧ quF pr v = false then 1 else 0 := by
        unfold nowF
        rw [hrg]
      refine s_aload_n hX dX11_now_11 rfl ?_
      refine s_callVv (as := []) hX dX11_now_12 mk_X11_toRun lk_X11_163 (c_X11_toRun h.1 hk h.2.1 hv) rfl (by omega) rfl rfl rfl ⟨rfl, rfl⟩ (Nat.le_of_ble_eq_true rfl) (Nat.le_of_ble_eq_true rfl) (Nat.le_of_ble_eq_true rfl) rfl (fun σ12 p12 => ?_)
      obtain ⟨hS, hV, hf⟩ := p12
      have hM := h.fr hf (by decide) (by decide)
      have hl20 := stepsF_le hk hv
      refine s_iload_n hX dX11_now_15 rfl ?_
      refine s_iconst (v := nI 2) hX dX11_now_16 (by decide) ?_
      refine s_icmp_ge_n (tgt := 39) hX dX11_now_17 (by decide) (by omega) (by omega) (fun q17 => ?_) (fun q17 => ?_)
      · refine s_iload_n hX dX11_now_39 rfl ?_
        refine s_iconst (v := nI 2) hX dX11_now_40 (by decide) ?_
        refine s_icmp_ne_n (tgt := 59) hX dX11_now_41 (by decide) (by omega) (by omega) (fun q41 => ?_) (fun q41 => ?_)
        · refine s_aload_n hX dX11_now_59 rfl ?_
          refine s_getI (x := nI ((stepsF pr v).length)) hX dX11_now_60 fl_X11_109 rfl rfl (by omega) hS.1 ?_
          refine s_if_ne_n (tgt := 77) hX dX11_now_63 (by decide) (by omega) (fun q63 => ?_) (fun q63 => ?_)
          · refine s_iconst (v := nI 0) hX dX11_now_77 (by decide) ?_
            refine s_iret hX dX11_now_78 rfl rfl ?_
            refine ⟨?_, hM, FrS.ofR hf⟩
            rw [hE, if_neg (by omega), if_neg (by omega)]
            first
              | (rw [if_pos q41, bI_0.mp q48]; rfl)
              | (rw [if_pos q41, show quF pr v = true from by cases hh : quF pr v with
                  | true => rfl
                  | false => exact absurd (bI_0.mpr hh) q48]; rfl)
              | (rw [if_neg q41, if_neg (fun q => q63 q.1)]; rfl)
              | (rw [if_neg q41, if_pos ⟨q63, bI_0.mp (Decidable.of_not_not q70)⟩]; rfl)
              | (rw [if_neg q41, if_neg (fun q => q70 (bI_0.mpr q.2))]; rfl)
          · refine s_aload_n hX dX11_now_66 rfl ?_
            refine s_callVi (as := []) hX dX11_now_67 mk_X11_isQuiet lk_X11_173 (c_X11_isQuiet hM.1 hk hV hv) rfl (by omega) rfl rfl rfl ⟨rfl, rfl⟩ (Nat.le_of_ble_eq_true rfl) (Nat.le_of_ble_eq_true rfl) (Nat.le_of_ble_eq_true rfl) rfl (fun v67 σ67 p67 => ?_)
            obtain ⟨rfl, rfl⟩ := p67
            refine s_if_ne (tgt := 77) hX dX11_now_70 (by decide) (fun q70 => ?_) (fun q70 => ?_)
            · refine s_iconst (v := nI 0) hX dX11_now_77 (by decide) ?_
              refine s_iret hX dX11_now_78 rfl rfl ?_
              refine ⟨?_, hM, FrS.ofR hf⟩
              rw [hE, if_neg (by omega), if_neg (by omega)]
              first
                | (rw [if_pos q41, bI_0.mp q48]; rfl)
                | (rw [if_pos q41, show quF pr v = true from by cases hh : quF pr v with
                    | true => rfl
                    | false => exact absurd (bI_0.mpr hh) q48]; rfl)
                | (rw [if_neg q41, if_neg (fun q => q63 q.1)]; rfl)
                | (rw [if_neg q41, if_pos ⟨q63, bI_0.mp (Decidable.of_not_not q70)⟩]; rfl)
                | (rw [if_neg q41, if_neg (fun q => q70 (bI_0.mpr q.2))]; rfl)
            · refine s_iconst (v := nI 1) hX dX11_now_73 (by decide) ?_
              refine s_goto (tgt := 78) hX dX11_now_74 (by decide) ?_
              refine s_iret hX dX11_now_78 rfl rfl ?_
              refine ⟨?_, hM, FrS.ofR hf⟩
              rw [hE, if_neg (by omega), if_neg (by omega)]
              first
                | (rw [if_pos q41, bI_0.mp q48]; rfl)
                | (rw [if_pos q41, show quF pr v = true from by cases hh : quF pr v with
                    | true => rfl
                    | false => exact absurd (bI_0.mpr hh) q48]; rfl)
                | (rw [if_neg q41, if_neg (fun q => q63 q.1)]; rfl)
                | (rw [if_neg q41, if_pos ⟨q63, bI_0.mp (Decidable.of_not_not q70)⟩]; rfl)
                | (rw [if_neg q41, if_neg (fun q => q70 (bI_0.mpr q.2))]; rfl)
        · refine s_aload_n hX dX11_now_44 rfl ?_
          refine s_callVi (as := []) hX dX11_now_45 mk_X11_isQuiet lk_X11_173 (c_X11_isQuiet hM.1 hk hV hv) rfl (by omega) rfl rfl rfl ⟨rfl, rfl⟩ (Nat.le_of_ble_eq_true rfl) (Nat.le_of_ble_eq_true rfl) (Nat.le_of_ble_eq_true rfl) rfl (fun v45 σ45 p45 => ?_)
          obtain ⟨rfl, rfl⟩ := p45
          refine s_if_eq (tgt := 55) hX dX11_now_48 (by decide) (fun q48 => ?_) (fun q48 => ?_)
          · refine s_iconst (v := nI 0) hX dX11_now_55 (by decide) ?_
            refine s_goto (tgt := 78) hX dX11_now_56 (by decide) ?_
            refine s_iret hX dX11_now_78 rfl rfl ?_
            refine ⟨?_, hM, FrS.ofR hf⟩
            rw [hE, if_neg (by omega), if_neg (by omega)]
            first
              | (rw [if_pos q41, bI_0.mp q48]; rfl)
              | (rw [if_pos q41, show quF pr v = true from by cases hh : quF pr v with
                  | true => rfl
                  | false => exact absurd (bI_0.mpr hh) q48]; rfl)
              | (rw [if_neg q41, if_neg (fun q => q63 q.1)]; rfl)
              | (rw [if_neg q41, if_pos ⟨q63, bI_0.mp (Decidable.of_not_not q70)⟩]; rfl)
              | (rw [if_neg q41, if_neg (fun q => q70 (bI_0.mpr q.2))]; rfl)
          · refine s_iconst (v := nI 1) hX dX11_now_51 (by decide) ?_
            refine s_goto (tgt := 78) hX dX11_now_52 (by decide) ?_
            refine s_iret hX dX11_now_78 rfl rfl ?_
            refine ⟨?_, hM, FrS.ofR hf⟩
            rw [hE, if_neg (by omega), if_neg (by omega)]
            first
              | (rw [if_pos q41, bI_0.mp q48]; rfl)
              | (rw [if_pos q41, show quF pr v = true from by cases hh : quF pr v with
                  | true => rfl
                  | false => exact absurd (bI_0.mpr hh) q48]; rfl)
              | (rw [if_neg q41, if_neg (fun q => q63 q.1)]; rfl)
              | (rw [if_neg q41, if_pos ⟨q63, bI_0.mp (Decidable.of_not_not q70)⟩]; rfl)
              | (rw [if_neg q41, if_neg (fun q => q70 (bI_0.mpr q.2))]; rfl)
      · refine s_iload_n hX dX11_now_20 rfl ?_
        refine s_if_ne_n (tgt := 34) hX dX11_now_21 (by decide) (by omega) (fun q21 => ?_) (fun q21 => ?_)
        · refine s_aload_n hX dX11_now_34 rfl ?_
          refine s_callVi (as := []) hX dX11_now_35 mk_X11_badNow lk_X11_169 (c_X11_badNow hM.1 hk hV hv) rfl (by omega) rfl rfl rfl ⟨rfl, rfl⟩ (Nat.le_of_ble_eq_true rfl) (Nat.le_of_ble_eq_true rfl) (Nat.le_of_ble_eq_true rfl) rfl (fun v35 σ35 p35 => ?_)
          obtain ⟨rfl, rfl⟩ := p35
          refine s_iret hX dX11_now_38 rfl rfl ?_
          refine ⟨?_, hM, FrS.ofR hf⟩
          rw [hE]
          first
            | rw [if_pos q21]
            | rw [if_neg q21, if_pos (by omega)]
        · refine s_aload_n hX dX11_now_24 rfl ?_
          refine s_getR hX dX11_now_25 fl_X11_30 rfl rfl (by omega) ?_
          refine s_bipush (v := nI 15) hX dX11_now_28 (by decide) ?_
          refine s_iald (x := nI (v 15)) hX dX11_now_30 rfl (by omega) (by omega) (by decide) (hV.at0 _ (by omega)) ?_
          refine s_goto (tgt := 38) hX dX11_now_31 (by decide) ?_
          refine s_iret hX dX11_now_38 rfl rfl ?_
          refine ⟨?_, hM, FrS.ofR hf⟩
          rw [hE]
          first
            | rw [if_pos q21]
            | rw [if_neg q21, if_pos (by omega)]
    · refine s_iconst (v := -1) hX dX11_now_9 (by decide) ?_
      refine s_iret hX dX11_now_10 rfl rfl ?_
      exact ⟨by unfold nowF; rw [rg_no (by first | exact Or.inl q1 | exact Or.inr (Int32.not_le.mp q6))], h, Fr.rf⟩
