/-! ===== the class: what the run is, and the walk ===== -/
theorem sw_o2 {y : Int32} {m : Nat} (hm : m < 2 ^ 31) (h : y.toInt < 0 ∨ (m : Int) < y.toInt) : y < 0 ∨ nI m < y := h.imp (fun z => Int32.lt_iff_toInt_lt.mpr z) (fun z => Int32.lt_iff_toInt_lt.mpr (by rw [nI_toInt hm]; exact z))
set_option maxRecDepth 100000 in
set_option maxHeartbeats 4000000 in
theorem c_X10_end {n : Nat} {σ : Sg} {pr : Pr} {v : Vc} {ch : Bool} (hn : 53 ≤ n) (h : ClS σ pr v ch) (hk : PrOk pr) (hv : VOk pr v) (x y : Int32) : Sm n mX10_end [.ref 0, .int x, .int y] σ (qi fun r σ2 => r = endF pr v x y ∧ σ2 = σ) := by
  refine Sm.of mk_X10_end (Nat.le_of_ble_eq_true rfl) rfl (fun X hX => ?_)
  have hP := hk.1
  refine s_aload_n hX dX10_end_0 rfl ?_
  refine s_getR hX dX10_end_1 fl_X10_12 rfl rfl (by omega) ?_
  refine s_callVi (as := []) hX dX10_end_4 mk_X6_home lk_X10_55 (c_X6_home hn h.1) rfl (by omega) rfl rfl rfl ⟨rfl, rfl⟩ (Nat.le_of_ble_eq_true rfl) (Nat.le_of_ble_eq_true rfl) (Nat.le_of_ble_eq_true rfl) rfl (fun v4 σ4 p4 => ?_)
  obtain ⟨rfl, ep⟩ := p4
  replace ep := ep.symm
  subst ep
  refine s_istore_n hX dX10_end_7 (Nat.le_of_ble_eq_true rfl) rfl st_4_3 ?_
  refine s_iload_n hX dX10_end_8 rfl ?_
  refine s_if_lt (tgt := 17) hX dX10_end_9 (by decide) (fun q9 => ?_) (fun q9 => ?_)
  · refine s_iconst (v := -1) hX dX10_end_17 (by decide) ?_
    refine s_iret hX dX10_end_18 rfl rfl ?_
    exact ⟨by unfold endF; rw [if_pos (by first | exact Or.inl q9 | exact Or.inr (Or.inl (Int32.not_le.mp q14)))], rfl⟩
  · refine s_iload_n hX dX10_end_12 rfl ?_
    refine s_iload_n hX dX10_end_13 rfl ?_
    refine s_icmp_le (tgt := 19) hX dX10_end_14 (by decide) (fun q14 => ?_) (fun q14 => ?_)
    · obtain ⟨i, hi, rfl⟩ := ixl_of (m := pP pr) (by omega) q9 (Int32.not_lt.mpr q14)
      have hE : ∀ k, k ≤ 2 → endF pr v (nI i) (nI k) = if i = pP pr then nI (v (12 + k)) else nI (v (3 * i + k)) := fun k hk2 => by
        unfold endF
        rw [if_neg (by rw [nx_lt (by omega) (by omega), nx_lt (by decide) (by omega)]; intro q; rcases q with q | q | q | q
                       · exact nI_pos (by omega) q
                       · omega
                       · exact nI_pos (by omega) q
                       · omega), nI_clamp (by omega), nI_clamp (by omega)]
        simp only [nx_ne (show i < 2 ^ 31 by omega) (show pP pr < 2 ^ 31 by omega)]
      refine s_iload_n hX dX10_end_19 rfl ?_
      by_cases k20_0 : y = nI 0
      · refine s_tableIn (off := 28) (tgt := 48) hX dX10_end_20 (by rw [k20_0]; decide) (by rw [k20_0]; decide) (by rw [k20_0]; decide) (by decide) ?_
        refine s_aload_n hX dX10_end_48 rfl ?_
        refine s_getR hX dX10_end_49 fl_X10_28 rfl rfl (by omega) ?_
        refine s_iload_n hX dX10_end_52 rfl ?_
        refine s_callVi (as := [_]) hX dX10_end_53 mk_X7_stateOf lk_X10_110 (c_X7_stateOf (is10 hn) h.2.1 hk hv i hi) rfl (by omega) rfl rfl rfl ⟨rfl, rfl⟩ (Nat.le_of_ble_eq_true rfl) (Nat.le_of_ble_eq_true rfl) (Nat.le_of_ble_eq_true rfl) rfl (fun v53 σ53 p53 => ?_)
        obtain ⟨rfl, ep⟩ := p53
        replace ep := ep.symm
        subst ep
        refine s_iret hX dX10_end_56 rfl rfl ?_
        subst k20_0
        refine ⟨?_, rfl⟩
        rw [hE 0 (by decide)]
        by_cases c : i = pP pr
        · rw [if_pos c, c, ixP]
        · rw [if_neg c, ix0 (by omega)]; rfl
      by_cases k20_1 : y = nI 1
      · refine s_tableIn (off := 37) (tgt := 57) hX dX10_end_20 (by rw [k20_1]; decide) (by rw [k20_1]; decide) (by rw [k20_1]; decide) (by decide) ?_
        refine s_aload_n hX dX10_end_57 rfl ?_
        refine s_getR hX dX10_end_58 fl_X10_28 rfl rfl (by omega) ?_
        refine s_iload_n hX dX10_end_61 rfl ?_
        refine s_callVi (as := [_]) hX dX10_end_62 mk_X7_freshOf lk_X10_113 (c_X7_freshOf (is10 hn) h.2.1 hk hv i hi) rfl (by omega) rfl rfl rfl ⟨rfl, rfl⟩ (Nat.le_of_ble_eq_true rfl) (Nat.le_of_ble_eq_true rfl) (Nat.le_of_ble_eq_true rfl) rfl (fun v62 σ62 p62 => ?_)
        obtain ⟨rfl, ep⟩ := p62
        replace ep := ep.symm
        subst ep
        refine s_iret hX dX10_end_65 rfl rfl ?_
        subst k20_1
        refine ⟨?_, rfl⟩
        rw [hE 1 (by decide)]
        by_cases c : i = pP pr
        · rw [if_pos c, c, ixP]
        · rw [if_neg c, ix1 (by omega)]
      by_cases k20_2 : y = nI 2
      · refine s_tableIn (off := 46) (tgt := 66) hX dX10_end_20 (by rw [k20_2]; decide) (by rw [k20_2]; decide) (by rw [k20_2]; decide) (by decide) ?_
        refine s_iload_n hX dX10_end_66 rfl ?_
        refine s_iload_n hX dX10_end_67 rfl ?_
        refine s_icmp_ne_n (tgt := 81) hX dX10_end_68 (by decide) (by omega) (by omega) (fun q68 => ?_) (fun q68 => ?_)
        · refine s_aload_n hX dX10_end_81 rfl ?_
          refine s_getR hX dX10_end_82 fl_X10_28 rfl rfl (by omega) ?_
          refine s_iload_n hX dX10_end_85 rfl ?_
          refine s_callVi (as := [_]) hX dX10_end_86 mk_X7_wantOf lk_X10_119 (c_X7_wantOf (is10 hn) h.2.1 hk hv i (by omega)) rfl (by omega) rfl rfl rfl ⟨rfl, rfl⟩ (Nat.le_of_ble_eq_true rfl) (Nat.le_of_ble_eq_true rfl) (Nat.le_of_ble_eq_true rfl) rfl (fun v86 σ86 p86 => ?_)
          obtain ⟨rfl, ep⟩ := p86
          replace ep := ep.symm
          subst ep
          refine s_iret hX dX10_end_89 rfl rfl ?_
          subst k20_2
          refine ⟨?_, rfl⟩
          rw [hE 2 (by decide)]
          first
            | rw [if_pos q68]
            | rw [if_neg q68]
        · refine s_aload_n hX dX10_end_71 rfl ?_
          refine s_getR hX dX10_end_72 fl_X10_28 rfl rfl (by omega) ?_
          refine s_callVi (as := []) hX dX10_end_75 mk_X7_holders lk_X10_116 (c_X7_holders (is10 hn) h.2.1 hk hv) rfl (by omega) rfl rfl rfl ⟨rfl, rfl⟩ (Nat.le_of_ble_eq_true rfl) (Nat.le_of_ble_eq_true rfl) (Nat.le_of_ble_eq_true rfl) rfl (fun v75 σ75 p75 => ?_)
          obtain ⟨rfl, ep⟩ := p75
          replace ep := ep.symm
          subst ep
          refine s_goto (tgt := 89) hX dX10_end_78 (by decide) ?_
          refine s_iret hX dX10_end_89 rfl rfl ?_
          subst k20_2
          refine ⟨?_, rfl⟩
          rw [hE 2 (by decide)]
          first
            | rw [if_pos q68]
            | rw [if_neg q68]
      refine s_tableOut (tgt := 90) hX dX10_end_20 (by exact sw_out3 k20_0 k20_1 k20_2) (by decide) ?_
      refine s_iconst (v := -1) hX dX10_end_90 (by decide) ?_
      refine s_iret hX dX10_end_91 rfl rfl ?_
      exact ⟨by unfold endF; rw [if_pos (Or.inr (Or.inr (sw_o2 (m := 2) (by decide) (sw_out3 k20_0 k20_1 k20_2))))], rfl⟩
    · refine s_iconst (v := -1) hX dX10_end_17 (by decide) ?_
      refine s_iret hX dX10_end_18 rfl rfl ?_
      exact ⟨by unfold endF; rw [if_pos (by first | exact Or.inl q9 | exact Or.inr (Or.inl (Int32.not_le.mp q14)))], rfl⟩
set_option maxRecDepth 100000 in
set_option maxHeartbeats 4000000 in
theorem c_X10_letter {n : Nat} {σ : Sg} {pr : Pr} {v : Vc} {ch : Bool} (hn : 53 ≤ n) (h : ClS σ pr v ch) (hk : PrOk pr) (hv : VOk pr v) (x y : Int32) : Sm n mX10_letter [.ref 0, .int x, .int y] σ (qi fun r σ2 => r = letF v x y ∧ σ2 = σ) := by
  refine Sm.of mk_X10_letter (Nat.le_of_ble_eq_true rfl) rfl (fun X hX => ?_)
  have h8 := hv.2.2.2.2.1
  refine s_iload_n hX dX10_letter_0 rfl ?_
  refine s_if_lt (tgt := 15) hX dX10_letter_1 (by decide) (fun q1 => ?_) (fun q1 => ?_)
  · refine s_iconst (v := -1) hX dX10_letter_15 (by decide) ?_
    refine s_iret hX dX10_letter_16 rfl rfl ?_
    exact ⟨by unfold letF; rw [if_pos (by first | exact Or.inl q1 | exact Or.inr (Or.inl (Int32.not_lt.mp q12)))], rfl⟩
  · refine s_iload_n hX dX10_letter_4 rfl ?_
    refine s_aload_n hX dX10_letter_5 rfl ?_
    refine s_getR hX dX10_letter_6 fl_X10_28 rfl rfl (by omega) ?_
    refine s_callVi (as := []) hX dX10_letter_9 mk_X7_letterCount lk_X10_122 (c_X7_letterCount (is10 hn) h.2.1) rfl (by omega) rfl rfl rfl ⟨rfl, rfl⟩ (Nat.le_of_ble_eq_true rfl) (Nat.le_of_ble_eq_true rfl) (Nat.le_of_ble_eq_true rfl) rfl (fun v9 σ9 p9 => ?_)
    obtain ⟨rfl, ep⟩ := p9
    replace ep := ep.symm
    subst ep
    refine s_icmp_lt (tgt := 17) hX dX10_letter_12 (by decide) (fun q12 => ?_) (fun q12 => ?_)
    · obtain ⟨i, hi, rfl⟩ := ix_of (m := v 15) (by omega) q1 (Int32.not_le.mpr q12)
      have hE : ∀ k, k ≤ 4 → letF v (nI i) (nI k) = nI (v (16 + 5 * i + k)) := fun k hk2 => by
        unfold letF
        rw [if_neg (by
          intro q; rcases q with q | q | q | q
          · exact q1 q
          · exact Int32.not_le.mpr q12 q
          · exact nI_pos (by omega) q
          · rw [nx_lt (by decide) (by omega)] at q; omega), nI_clamp (by omega), nI_clamp (by omega)]
      have c9 := lcF_lt hk hv i
      obtain ⟨g1, g2, g3, g4, g5⟩ := lc_parts hk hv hi
      refine s_aload_n hX dX10_letter_17 rfl ?_
      refine s_getR hX dX10_letter_18 fl_X10_28 rfl rfl (by omega) ?_
      refine s_iload_n hX dX10_letter_21 rfl ?_
      refine s_callVi (as := [_]) hX dX10_letter_22 mk_X7_letterAt lk_X10_125 (c_X7_letterAt (is10 hn) h.2.1 i (by omega)) rfl (by omega) rfl rfl rfl ⟨rfl, rfl⟩ (Nat.le_of_ble_eq_true rfl) (Nat.le_of_ble_eq_true rfl) (Nat.le_of_ble_eq_true rfl) rfl (fun v22 σ22 p22 => ?_)
      obtain ⟨rfl, ep⟩ := p22
      replace ep := ep.symm
      subst ep
      refine s_istore_n hX dX10_letter_25 (Nat.le_of_ble_eq_true rfl) rfl st_4_3 ?_
      refine s_iload_n hX dX10_letter_26 rfl ?_
      by_cases k27_0 : y = nI 0
      · refine s_tableIn (off := 33) (tgt := 60) hX dX10_letter_27 (by rw [k27_0]; decide) (by rw [k27_0]; decide) (by rw [k27_0]; decide) (by decide) ?_
        refine s_iload_n hX dX10_letter_60 rfl ?_
        refine s_callSi (as := [_]) hX dX10_letter_61 mk_X4_kindOf lk_X10_128 (c_X4_kindOf _ (by omega)) rfl ⟨rfl, rfl⟩ (Nat.le_of_ble_eq_true rfl) (Nat.le_of_ble_eq_true rfl) (Nat.le_of_ble_eq_true rfl) rfl (fun v61 σ61 p61 => ?_)
        obtain ⟨rfl, ep⟩ := p61
        replace ep := ep.symm
        subst ep
        rw [g2]
        refine s_iret hX dX10_letter_64 rfl rfl ?_
        subst k27_0
        exact ⟨by rw [hE 0 (by decide)]; exact congrArg (fun j => nI (v j)) (by omega), rfl⟩
      by_cases k27_1 : y = nI 1
      · refine s_tableIn (off := 38) (tgt := 65) hX dX10_letter_27 (by rw [k27_1]; decide) (by rw [k27_1]; decide) (by rw [k27_1]; decide) (by decide) ?_
        refine s_iload_n hX dX10_letter_65 rfl ?_
        refine s_callSi (as := [_]) hX dX10_letter_66 mk_X4_fromOf lk_X10_133 (c_X4_fromOf _ (by omega)) rfl ⟨rfl, rfl⟩ (Nat.le_of_ble_eq_true rfl) (Nat.le_of_ble_eq_true rfl) (Nat.le_of_ble_eq_true rfl) rfl (fun v66 σ66 p66 => ?_)
        obtain ⟨rfl, ep⟩ := p66
        replace ep := ep.symm
        subst ep
        rw [g3]
        refine s_iret hX dX10_letter_69 rfl rfl ?_
        subst k27_1
        exact ⟨by rw [hE 1 (by decide)]; exact congrArg (fun j => nI (v j)) (by omega), rfl⟩
      by_cases k27_2 : y = nI 2
      · refine s_tableIn (off := 43) (tgt := 70) hX dX10_letter_27 (by rw [k27_2]; decide) (by rw [k27_2]; decide) (by rw [k27_2]; decide) (by decide) ?_
        refine s_iload_n hX dX10_letter_70 rfl ?_
        refine s_callSi (as := [_]) hX dX10_letter_71 mk_X4_toOf lk_X10_136 (c_X4_toOf _ (by omega)) rfl ⟨rfl, rfl⟩ (Nat.le_of_ble_eq_true rfl) (Nat.le_of_ble_eq_true rfl) (Nat.le_of_ble_eq_true rfl) rfl (fun v71 σ71 p71 => ?_)
        obtain ⟨rfl, ep⟩ := p71
        replace ep := ep.symm
        subst ep
        rw [g1]
        refine s_iret hX dX10_letter_74 rfl rfl ?_
        subst k27_2
        exact ⟨by rw [hE 2 (by decide)]; exact congrArg (fun j => nI (v j)) (by omega), rfl⟩
      by_cases k27_3 : y = nI 3
      · refine s_tableIn (off := 48) (tgt := 75) hX dX10_letter_27 (by rw [k27_3]; decide) (by rw [k27_3]; decide) (by rw [k27_3]; decide) (by decide) ?_
        refine s_iload_n hX dX10_letter_75 rfl ?_
        refine s_callSi (as := [_]) hX dX10_letter_76 mk_X4_forOf lk_X10_139 (c_X4_forOf _ (by omega)) rfl ⟨rfl, rfl⟩ (Nat.le_of_ble_eq_true rfl) (Nat.le_of_ble_eq_true rfl) (Nat.le_of_ble_eq_true rfl) rfl (fun v76 σ76 p76 => ?_)
        obtain ⟨rfl, ep⟩ := p76
        replace ep := ep.symm
        subst ep
        rw [g4]
        refine s_iret hX dX10_letter_79 rfl rfl ?_
        subst k27_3
        exact ⟨by rw [hE 3 (by decide)]; exact congrArg (fun j => nI (v j)) (by omega), rfl⟩
      by_cases k27_4 : y = nI 4
      · refine s_tableIn (off := 53) (tgt := 80) hX dX10_letter_27 (by rw [k27_4]; decide) (by rw [k27_4]; decide) (by rw [k27_4]; decide) (by decide) ?_
        refine s_iload_n hX dX10_letter_80 rfl ?_
        refine s_callSi (as := [_]) hX dX10_letter_81 mk_X4_freshOf lk_X10_142 (c_X4_freshOf _ (by omega)) rfl ⟨rfl, rfl⟩ (Nat.le_of_ble_eq_true rfl) (Nat.le_of_ble_eq_true rfl) (Nat.le_of_ble_eq_true rfl) rfl (fun v81 σ81 p81 => ?_)
        obtain ⟨rfl, ep⟩ := p81
        replace ep := ep.symm
        subst ep
        rw [g5]
        refine s_iret hX dX10_letter_84 rfl rfl ?_
        subst k27_4
        exact ⟨by rw [hE 4 (by decide)]; exact congrArg (fun j => nI (v j)) (by omega), rfl⟩
      refine s_tableOut (tgt := 85) hX dX10_letter_27 (by exact sw_out5 k27_0 k27_1 k27_2 k27_3 k27_4) (by decide) ?_
      refine s_iconst (v := -1) hX dX10_letter_85 (by decide) ?_
      refine s_iret hX dX10_letter_86 rfl rfl ?_
      exact ⟨by unfold letF; rw [if_pos (Or.inr (Or.inr (sw_o2 (m := 4) (by decide) (sw_out5 k27_0 k27_1 k27_2 k27_3 k27_4))))], rfl⟩
    · refine s_iconst (v := -1) hX dX10_letter_15 (by decide) ?_
      refine s_iret hX dX10_letter_16 rfl rfl ?_
      exact ⟨by unfold letF; rw [if_pos (by first | exact Or.inl q1 | exact Or.inr (Or.inl (Int32.not_lt.mp q12)))], rfl⟩
theorem now_no {pr : Pr} {v : Vc} {x : Int32} (h : x.toInt < 0 ∨ 3 < x.toInt) : nowF pr v x = -1 := by
  unfold nowF
  rw [rg_no (sw_o2 (m := 3) (by decide) h)]
set_option maxRecDepth 100000 in
set_option maxHeartbeats 4000000 in
theorem c_X10_now {n : Nat} {σ : Sg} {pr : Pr} {v : Vc} {ch : Bool} (hn : 53 ≤ n) (h : ClS σ pr v ch) (hk : PrOk pr) (hv : VOk pr v) (hr : Srt pr v) (x : Int32) : Sm n mX10_now [.ref 0, .int x] σ (qi fun r σ2 => r = nowF pr v x ∧ ClS σ2 pr v ch ∧ Off σ σ2 clL) := by
  refine Sm.of mk_X10_now (Nat.le_of_ble_eq_true rfl) rfl (fun X hX => ?_)
  have h20 := stepsF_le hk hv
  refine s_iload_n hX dX10_now_0 rfl ?_
  by_cases k1_0 : x = nI 0
  · refine s_tableIn (off := 31) (tgt := 32) hX dX10_now_1 (by rw [k1_0]; decide) (by rw [k1_0]; decide) (by rw [k1_0]; decide) (by decide) ?_
    refine s_aload_n hX dX10_now_32 rfl ?_
    refine s_getR hX dX10_now_33 fl_X10_28 rfl rfl (by omega) ?_
    refine s_callVi (as := []) hX dX10_now_36 mk_X7_letterCount lk_X10_122 (c_X7_letterCount (is10 hn) h.2.1) rfl (by omega) rfl rfl rfl ⟨rfl, rfl⟩ (Nat.le_of_ble_eq_true rfl) (Nat.le_of_ble_eq_true rfl) (Nat.le_of_ble_eq_true rfl) rfl (fun v36 σ36 p36 => ?_)
    obtain ⟨rfl, ep⟩ := p36
    replace ep := ep.symm
    subst ep
    refine s_iret hX dX10_now_39 rfl rfl ?_
    subst k1_0
    exact ⟨by unfold nowF; rw [show rg 0 3 (nI 0) = some 0 by decide]; rfl, h, Off.rf⟩
  by_cases k1_1 : x = nI 1
  · refine s_tableIn (off := 39) (tgt := 40) hX dX10_now_1 (by rw [k1_1]; decide) (by rw [k1_1]; decide) (by rw [k1_1]; decide) (by decide) ?_
    refine s_aload_n hX dX10_now_40 rfl ?_
    refine s_getR hX dX10_now_41 fl_X10_12 rfl rfl (by omega) ?_
    refine s_aload_n hX dX10_now_44 rfl ?_
    refine s_getR hX dX10_now_45 fl_X10_28 rfl rfl (by omega) ?_
    refine s_callVi (as := [_]) hX dX10_now_48 mk_X6_badnessOf lk_X10_143 (c_X6_badnessOf hn (is10 hn) h.2.1 h.1 hk hv) rfl (by omega) rfl rfl rfl ⟨rfl, rfl⟩ (Nat.le_of_ble_eq_true rfl) (Nat.le_of_ble_eq_true rfl) (Nat.le_of_ble_eq_true rfl) rfl (fun v48 σ48 p48 => ?_)
    obtain ⟨rfl, ep⟩ := p48
    replace ep := ep.symm
    subst ep
    refine s_iret hX dX10_now_51 rfl rfl ?_
    subst k1_1
    exact ⟨by unfold nowF; rw [show rg 0 3 (nI 1) = some 1 by decide]; rfl, h, Off.rf⟩
  by_cases k1_2 : x = nI 2
  · refine s_tableIn (off := 51) (tgt := 52) hX dX10_now_1 (by rw [k1_2]; decide) (by rw [k1_2]; decide) (by rw [k1_2]; decide) (by decide) ?_
    refine s_aload_n hX dX10_now_52 rfl ?_
    refine s_getR hX dX10_now_53 fl_X10_28 rfl rfl (by omega) ?_
    refine s_callVi (as := []) hX dX10_now_56 mk_X7_isQuiet lk_X10_147 (c_X7_isQuiet (is10 hn) h.2.1 hk hv) rfl (by omega) rfl rfl rfl ⟨rfl, rfl⟩ (Nat.le_of_ble_eq_true rfl) (Nat.le_of_ble_eq_true rfl) (Nat.le_of_ble_eq_true rfl) rfl (fun v56 σ56 p56 => ?_)
    obtain ⟨rfl, ep⟩ := p56
    replace ep := ep.symm
    subst ep
    unfold bI
    refine s_if_eq_n (tgt := 66) hX dX10_now_59 (by decide) (by have := Bool.toNat_le (quF pr v); omega) (fun q59 => ?_) (fun q59 => ?_)
    · refine s_iconst (v := nI 0) hX dX10_now_66 (by decide) ?_
      refine s_iret hX dX10_now_67 rfl rfl ?_
      subst k1_2
      have E : nowF pr v (nI 2) = bI (quF pr v) := by unfold nowF; rw [show rg 0 3 (nI 2) = some 2 by decide]; rfl
      rw [E]
      first
        | exact ⟨by rw [tn0 q59]; rfl, h, Off.rf⟩
        | exact ⟨by rw [tn1 q59]; rfl, h, Off.rf⟩
    · refine s_iconst (v := nI 1) hX dX10_now_62 (by decide) ?_
      refine s_goto (tgt := 67) hX dX10_now_63 (by decide) ?_
      refine s_iret hX dX10_now_67 rfl rfl ?_
      subst k1_2
      have E : nowF pr v (nI 2) = bI (quF pr v) := by unfold nowF; rw [show rg 0 3 (nI 2) = some 2 by decide]; rfl
      rw [E]
      first
        | exact ⟨by rw [tn0 q59]; rfl, h, Off.rf⟩
        | exact ⟨by rw [tn1 q59]; rfl, h, Off.rf⟩
  by_cases k1_3 : x = nI 3
  · refine s_tableIn (off := 67) (tgt := 68) hX dX10_now_1 (by rw [k1_3]; decide) (by rw [k1_3]; decide) (by rw [k1_3]; decide) (by decide) ?_
    refine s_aload_n hX dX10_now_68 rfl ?_
    refine s_callVi (as := []) hX dX10_now_69 mk_X10_countChoices lk_X10_90 (c_X10_countChoices hn h hk hv hr) rfl (by omega) rfl rfl rfl ⟨rfl, rfl⟩ (Nat.le_of_ble_eq_true rfl) (Nat.le_of_ble_eq_true rfl) (Nat.le_of_ble_eq_true rfl) rfl (fun v69 σ69 p69 => ?_)
    obtain ⟨rfl, c1, c2, c3⟩ := p69
    refine s_if_ne_n (tgt := 89) hX dX10_now_72 (by decide) (by omega) (fun q72 => ?_) (fun q72 => ?_)
    · refine s_iconst (v := nI 0) hX dX10_now_89 (by decide) ?_
      refine s_iret hX dX10_now_90 rfl rfl ?_
      subst k1_3
      have E : nowF pr v (nI 3) = if (stepsF pr v).length = 0 ∧ quF pr v = false then 1 else 0 := by unfold nowF; rw [show rg 0 3 (nI 3) = some 3 by decide]; rfl
      rw [E]
      first
        | exact ⟨by rw [if_pos ⟨q72, tn0 q82⟩]; rfl, c2, c3.mono2 (by decide)⟩
        | exact ⟨by rw [if_neg (fun z => absurd z.2 (by rw [tn1 q82]; decide))]; rfl, c2, c3.mono2 (by decide)⟩
        | exact ⟨by rw [if_neg (fun z => q72 z.1)]; rfl, c2, c3.mono2 (by decide)⟩
    · refine s_aload_n hX dX10_now_75 rfl ?_
      refine s_getR hX dX10_now_76 fl_X10_28 rfl rfl (by omega) ?_
      refine s_callVi (as := []) hX dX10_now_79 mk_X7_isQuiet lk_X10_147 (c_X7_isQuiet (is10 hn) c2.2.1 hk hv) rfl (by omega) rfl rfl rfl ⟨rfl, rfl⟩ (Nat.le_of_ble_eq_true rfl) (Nat.le_of_ble_eq_true rfl) (Nat.le_of_ble_eq_true rfl) rfl (fun v79 σ79 p79 => ?_)
      obtain ⟨rfl, ep⟩ := p79
      replace ep := ep.symm
      subst ep
      unfold bI
      refine s_if_ne_n (tgt := 89) hX dX10_now_82 (by decide) (by have := Bool.toNat_le (quF pr v); omega) (fun q82 => ?_) (fun q82 => ?_)
      · refine s_iconst (v := nI 0) hX dX10_now_89 (by decide) ?_
        refine s_iret hX dX10_now_90 rfl rfl ?_
        subst k1_3
        have E : nowF pr v (nI 3) = if (stepsF pr v).length = 0 ∧ quF pr v = false then 1 else 0 := by unfold nowF; rw [show rg 0 3 (nI 3) = some 3 by decide]; rfl
        rw [E]
        first
          | exact ⟨by rw [if_pos ⟨q72, tn0 q82⟩]; rfl, c2, c3.mono2 (by decide)⟩
          | exact ⟨by rw [if_neg (fun z => absurd z.2 (by rw [tn1 q82]; decide))]; rfl, c2, c3.mono2 (by decide)⟩
          | exact ⟨by rw [if_neg (fun z => q72 z.1)]; rfl, c2, c3.mono2 (by decide)⟩
      · refine s_iconst (v := nI 1) hX dX10_now_85 (by decide) ?_
        refine s_goto (tgt := 90) hX dX10_now_86 (by decide) ?_
        refine s_iret hX dX10_now_90 rfl rfl ?_
        subst k1_3
        have E : nowF pr v (nI 3) = if (stepsF pr v).length = 0 ∧ quF pr v = false then 1 else 0 := by unfold nowF; rw [show rg 0 3 (nI 3) = some 3 by decide]; rfl
        rw [E]
        first
          | exact ⟨by rw [if_pos ⟨q72, tn0 q82⟩]; rfl, c2, c3.mono2 (by decide)⟩
          | exact ⟨by rw [if_neg (fun z => absurd z.2 (by rw [tn1 q82]; decide))]; rfl, c2, c3.mono2 (by decide)⟩
          | exact ⟨by rw [if_neg (fun z => q72 z.1)]; rfl, c2, c3.mono2 (by decide)⟩
  refine s_tableOut (tgt := 91) hX dX10_now_1 (by exact sw_out4 k1_0 k1_1 k1_2 k1_3) (by decide) ?_
  refine s_iconst (v := -1) hX dX10_now_91 (by decide) ?_
  refine s_iret hX dX10_now_92 rfl rfl ?_
  exact ⟨(now_no (sw_out4 k1_0 k1_1 k1_2 k1_3)).symm, h, Off.rf⟩
set_option maxRecDepth 100000 in
set_option maxHeartbeats 4000000 in
theorem c_X10_walk {n : Nat} {σ : Sg} {pr : Pr} {v : Vc} {ch : Bool} (hn : 53 ≤ n) (h : ClS σ pr v ch) (hk : PrOk pr) (hv : VOk pr v) (x : Int32) : Sm n mX10_walk [.ref 0, .int x] σ (qi fun r σ2 => (match rg 1 4000 x with
    | none => r = -1 ∧ σ2 = σ
    | some most => r = waF (wkF pr most) ∧ AtE pr σ2 (wkF pr most) ∧ ClS σ2 pr v false) ∧ Off σ σ2 (0 :: atL)) := by
  refine Sm.of mk_X10_walk (Nat.le_of_ble_eq_true rfl) rfl (fun X hX => ?_)
  have LP : ∀ (most : Nat), 1 ≤ most → most ≤ 4000 → ∀ (d k : Nat) (σ1 : Sg), k + d = 4000 → AtC pr σ1 most (bfsR pr most k) k (kT (bfsR pr most k)) → k ≤ kM (bfsR pr most k) → Off σ σ1 atL → Sw n mX10_walk X (ZS n mX10_walk (qi fun r σ2 => (r = waF (wkF pr most) ∧ AtE pr σ2 (wkF pr most) ∧ ClS σ2 pr v false) ∧ Off σ σ2 (0 :: atL)) X) 24 [some (.ref 0), some (.int (nI most)), some (.int (nI k))] [] σ1 := by
    intro most hm1 hm d
    have FIN : ∀ (k : Nat) (σ1 : Sg), k ≤ 4000 → kM (bfsR pr most k) = k → AtC pr σ1 most (bfsR pr most k) k (kT (bfsR pr most k)) → Off σ σ1 atL → Sw n mX10_walk X (ZS n mX10_walk (qi fun r σ2 => (r = waF (wkF pr most) ∧ AtE pr σ2 (wkF pr most) ∧ ClS σ2 pr v false) ∧ Off σ σ2 (0 :: atL)) X) 54 [some (.ref 0), some (.int (nI most)), some (.int (nI k))] [] σ1 := by
      intro k σ1 h4 hkM hA hO
      obtain ⟨hok, hT⟩ := bfs_ok (most := most) hk hm1 k
      have hM := hok.1.2
      have eW : wkF pr most = bfsR pr most k := by
        have := bfs_stop (pr := pr) (most := most) (n := k) (by omega) (4000 - k)
        rw [show k + (4000 - k) = 4000 by omega] at this
        exact this
      rw [eW]
      have hA2 : AtC pr σ1 most (bfsR pr most k) (kM (bfsR pr most k)) (kT (bfsR pr most k)) := by rw [hkM]; exact hA
      have hok2 : WkOk pr most (kM (bfsR pr most k)) (bfsR pr most k) := by rw [hkM]; exact hok
      refine s_aload_n hX dX10_walk_54 rfl ?_
      refine s_getR hX dX10_walk_55 fl_X10_47 rfl rfl (by omega) ?_
      refine s_callVv (as := []) hX dX10_walk_58 mk_X1_finish lk_X10_158 (c_X1_finish hn hA2 hok2 hm (by omega)) rfl (by omega) rfl rfl rfl ⟨rfl, rfl⟩ (Nat.le_of_ble_eq_true rfl) (Nat.le_of_ble_eq_true rfl) (Nat.le_of_ble_eq_true rfl) rfl (fun σ58 p58 => ?_)
      obtain ⟨f1, f2⟩ := p58
      have hO2 : Off σ σ58 (0 :: atL) := (hO.mono2 (by decide)).trans (f2.mono2 (by decide))
      refine s_aload_n hX dX10_walk_61 rfl ?_
      refine s_iconst (v := nI 1) hX dX10_walk_62 (by decide) ?_
      refine s_putI hX dX10_walk_63 fl_X10_51 rfl rfl (by omega) rfl rfl ?_
      have f3 : AtE pr (wI σ58 0 6 (nI 1)) (bfsR pr most k) := f1.kept (wI_a _ _ (by decide)) (fun a q1 q2 => wI_a _ _ (by omega))
      have hO3 : Off σ (wI σ58 0 6 (nI 1)) (0 :: atL) := hO2.wI (by simp)
      have hC : ClS (wI σ58 0 6 (nI 1)) pr v false := ⟨h.1.off2 hO3 (by decide), h.2.1.kept (hO3 10 (by decide)) (hO3 11 (by decide)), by rw [wI_s]; rfl⟩
      refine s_aload_n hX dX10_walk_66 rfl ?_
      refine s_getR hX dX10_walk_67 fl_X10_47 rfl rfl (by omega) ?_
      refine s_callVi (as := []) hX dX10_walk_70 mk_X1_countStates lk_X10_152 (c_X1_countStates hn f3.1) rfl (by omega) rfl rfl rfl ⟨rfl, rfl⟩ (Nat.le_of_ble_eq_true rfl) (Nat.le_of_ble_eq_true rfl) (Nat.le_of_ble_eq_true rfl) rfl (fun v70 σ70 p70 => ?_)
      obtain ⟨rfl, ep⟩ := p70
      replace ep := ep.symm
      subst ep
      refine s_istore_n hX dX10_walk_73 (Nat.le_of_ble_eq_true rfl) rfl st_3_2 ?_
      refine s_aload_n hX dX10_walk_74 rfl ?_
      refine s_getR hX dX10_walk_75 fl_X10_47 rfl rfl (by omega) ?_
      refine s_callVi (as := []) hX dX10_walk_78 mk_X1_isSpent lk_X10_161 (c_X1_isSpent hn f3) rfl (by omega) rfl rfl rfl ⟨rfl, rfl⟩ (Nat.le_of_ble_eq_true rfl) (Nat.le_of_ble_eq_true rfl) (Nat.le_of_ble_eq_true rfl) rfl (fun v78 σ78 p78 => ?_)
      obtain ⟨rfl, ep⟩ := p78
      replace ep := ep.symm
      subst ep
      unfold bI
      refine s_if_eq_n (tgt := 91) hX dX10_walk_81 (by decide) (by have := Bool.toNat_le (kS (bfsR pr most k)); omega) (fun q81 => ?_) (fun q81 => ?_)
      · refine s_iload_n hX dX10_walk_91 rfl ?_
        refine s_iret hX dX10_walk_92 rfl rfl ?_
        unfold waF
        first
          | exact ⟨⟨by rw [if_pos (tn1 q81)], f3, hC⟩, hO3⟩
          | exact ⟨⟨by rw [if_neg (by rw [tn0 q81]; decide)], f3, hC⟩, hO3⟩
      · refine s_iload_n hX dX10_walk_84 rfl ?_
        refine s_ineg hX dX10_walk_85 ?_
        refine s_iconst (v := nI 1) hX dX10_walk_86 (by decide) ?_
        refine s_isub hX dX10_walk_87 ?_
        refine s_goto (tgt := 92) hX dX10_walk_88 (by decide) ?_
        refine s_iret hX dX10_walk_92 rfl rfl ?_
        unfold waF
        first
          | exact ⟨⟨by rw [if_pos (tn1 q81)], f3, hC⟩, hO3⟩
          | exact ⟨⟨by rw [if_neg (by rw [tn0 q81]; decide)], f3, hC⟩, hO3⟩
    induction d with
    | zero =>
      intro k σ1 hd hA hkM hO
      obtain ⟨hok, hT⟩ := bfs_ok (most := most) hk hm1 k
      have hM := hok.1.2
      refine s_iload_n hX dX10_walk_24 rfl ?_
      refine s_iload_n hX dX10_walk_25 rfl ?_
      refine s_icmp_ge_n (tgt := 54) hX dX10_walk_26 (by decide) (by omega) (by omega) (fun q26 => ?_) (fun q26 => ?_)
      · exact FIN k σ1 (by omega) (by omega) hA hO
      · omega
    | succ d ih =>
      intro k σ1 hd hA hkM hO
      obtain ⟨hok, hT⟩ := bfs_ok (most := most) hk hm1 k
      have hM := hok.1.2
      have hsr := bfs_srt (most := most) hk hm1 k
      have hst : k < kM (bfsR pr most k) → bfsR pr most (k + 1) = visF pr most k (bfsR pr most k) := fun q => by show (if _ then _ else _) = _; rw [if_pos q]
      refine s_iload_n hX dX10_walk_24 rfl ?_
      refine s_iload_n hX dX10_walk_25 rfl ?_
      refine s_icmp_ge_n (tgt := 54) hX dX10_walk_26 (by decide) (by omega) (by omega) (fun q26 => ?_) (fun q26 => ?_)
      · exact FIN k σ1 (by omega) (by omega) hA hO
      · refine s_iload_n hX dX10_walk_29 rfl ?_
        refine s_aload_n hX dX10_walk_30 rfl ?_
        refine s_getR hX dX10_walk_31 fl_X10_47 rfl rfl (by omega) ?_
        refine s_callVi (as := []) hX dX10_walk_34 mk_X1_countStates lk_X10_152 (c_X1_countStates hn hA.1) rfl (by omega) rfl rfl rfl ⟨rfl, rfl⟩ (Nat.le_of_ble_eq_true rfl) (Nat.le_of_ble_eq_true rfl) (Nat.le_of_ble_eq_true rfl) rfl (fun v34 σ34 p34 => ?_)
        obtain ⟨rfl, ep⟩ := p34
        replace ep := ep.symm
        subst ep
        refine s_icmp_ge_n (tgt := 54) hX dX10_walk_37 (by decide) (by omega) (by omega) (fun q37 => ?_) (fun q37 => ?_)
        · exact FIN k σ1 (by omega) (by omega) hA hO
        · refine s_aload_n hX dX10_walk_40 rfl ?_
          refine s_getR hX dX10_walk_41 fl_X10_47 rfl rfl (by omega) ?_
          refine s_iload_n hX dX10_walk_44 rfl ?_
          refine s_callVv (as := [_]) hX dX10_walk_45 mk_X1_visit lk_X10_155 (c_X1_visit hn (h.1.off2 hO (by decide)) hk hA hok hsr hm q37 hT) rfl (by omega) rfl rfl rfl ⟨rfl, rfl⟩ (Nat.le_of_ble_eq_true rfl) (Nat.le_of_ble_eq_true rfl) (Nat.le_of_ble_eq_true rfl) rfl (fun σ45 p45 => ?_)
          obtain ⟨v1, v2⟩ := p45
          rw [← hst q37] at v1
          refine s_iinc_n (c := 1) hX dX10_walk_48 rfl (by decide) rfl st_3_2 ?_
          refine s_goto (tgt := 24) hX dX10_walk_51 (by decide) ?_
          refine ih (k + 1) _ (by omega) v1 ?_ (hO.trans v2)
          rw [hst q37]
          have := (visR_keep pr most k (stepsF pr (kV (bfsR pr most k) k)) (bfsR pr most k) (stepsF pr (kV (bfsR pr most k) k)).length).1
          show k + 1 ≤ kM (visF _ _ _ _)
          unfold visF
          omega
  refine s_iload_n hX dX10_walk_0 rfl ?_
  refine s_iconst (v := nI 1) hX dX10_walk_1 (by decide) ?_
  refine s_icmp_lt (tgt := 12) hX dX10_walk_2 (by decide) (fun q2 => ?_) (fun q2 => ?_)
  · refine s_iconst (v := -1) hX dX10_walk_12 (by decide) ?_
    refine s_iret hX dX10_walk_13 rfl rfl ?_
    rw [rg_no (by first | exact Or.inl q2 | exact Or.inr (Int32.not_le.mp q9))]
    exact ⟨⟨rfl, rfl⟩, Off.rf⟩
  · refine s_iload_n hX dX10_walk_5 rfl ?_
    refine s_sipush (v := nI 4000) hX dX10_walk_6 (by decide) ?_
    refine s_icmp_le (tgt := 14) hX dX10_walk_9 (by decide) (fun q9 => ?_) (fun q9 => ?_)
    · obtain ⟨most, hm1, hm, rfl, hrg⟩ := rg_of (lo := 1) (hi := 4000) (by decide) (by decide) q2 (Int32.not_lt.mpr q9)
      rw [hrg]
      refine s_aload_n hX dX10_walk_14 rfl ?_
      refine s_getR hX dX10_walk_15 fl_X10_47 rfl rfl (by omega) ?_
      refine s_iload_n hX dX10_walk_18 rfl ?_
      refine s_callVv (as := [_]) hX dX10_walk_19 mk_X1_begin lk_X10_151 (c_X1_begin hn h.1 hk hm1 hm) rfl (by omega) rfl rfl rfl ⟨rfl, rfl⟩ (Nat.le_of_ble_eq_true rfl) (Nat.le_of_ble_eq_true rfl) (Nat.le_of_ble_eq_true rfl) rfl (fun σ19 p19 => ?_)
      obtain ⟨b1, b2⟩ := p19
      refine s_iconst (v := nI 0) hX dX10_walk_22 (by decide) ?_
      refine s_istore_n hX dX10_walk_23 (Nat.le_of_ble_eq_true rfl) rfl st_3_2 ?_
      exact LP most hm1 hm 4000 0 _ (by omega) (b1.mono (Nat.zero_le _)) (Nat.zero_le _) b2
    · refine s_iconst (v := -1) hX dX10_walk_12 (by decide) ?_
      refine s_iret hX dX10_walk_13 rfl rfl ?_
      rw [rg_no (by first | exact Or.inl q2 | exact Or.inr (Int32.not_le.mp q9))]
      exact ⟨⟨rfl, rfl⟩, Off.rf⟩
