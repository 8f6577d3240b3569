/-! ===== the class: what it tells of the walk ===== -/
theorem WkQ.srt {pr : Pr} {W : Wk} (h : WkQ pr W) : SrtK pr W := by
  obtain ⟨hk, h⟩ := h
  rcases h with h | ⟨most, h1, h4, h⟩
  · subst h
    intro m hm; exact absurd hm (Nat.not_lt_zero m)
  · have := bfs_srt (most := most) hk h1 4000
    have e : bfsR pr most 4000 = W := h.symm
    rw [e] at this
    exact this
theorem fd_no {pr : Pr} {W : Wk} {x y : Int32} (h0 : ¬ x = nI 0) (h1 : ¬ x = nI 1) : fdF pr W x y = -1 := by
  unfold fdF
  rw [rg_no (hi := 1) (sw_o2 (m := 1) (by decide) (by
    have e0 : x.toInt ≠ 0 := fun e => h0 (Int32.toInt_inj.mp (by rw [e]; decide))
    have e1 : x.toInt ≠ 1 := fun e => h1 (Int32.toInt_inj.mp (by rw [e]; decide))
    omega))]
set_option maxRecDepth 100000 in
set_option maxHeartbeats 4000000 in
theorem c_X10_walked {n : Nat} {σ : Sg} {prw : Pr} {W : Wk} (hn : 53 ≤ n) (hw : AtE prw σ W) (hq : WkQ prw W) (x : Int32) : Sm n mX10_walked [.ref 0, .int x] σ (qi fun r σ2 => r = wdF prw W x ∧ σ2 = σ) := by
  refine Sm.of mk_X10_walked (Nat.le_of_ble_eq_true rfl) rfl (fun X hX => ?_)
  refine s_aload_n hX dX10_walked_0 rfl ?_
  refine s_getR hX dX10_walked_1 fl_X10_47 rfl rfl (by omega) ?_
  refine s_iload_n hX dX10_walked_4 rfl ?_
  refine s_callVi (as := [_]) hX dX10_walked_5 mk_X1_figure lk_X10_164 (c_X1_figure hn hw hq x) rfl (by omega) rfl rfl rfl ⟨rfl, rfl⟩ (Nat.le_of_ble_eq_true rfl) (Nat.le_of_ble_eq_true rfl) (Nat.le_of_ble_eq_true rfl) rfl (fun v5 σ5 p5 => ?_)
  obtain ⟨rfl, ep⟩ := p5
  replace ep := ep.symm
  subst ep
  refine s_iret hX dX10_walked_8 rfl rfl ?_
  exact ⟨rfl, rfl⟩
set_option maxRecDepth 100000 in
set_option maxHeartbeats 4000000 in
theorem c_X10_bad {n : Nat} {σ : Sg} {prw : Pr} {W : Wk} (hn : 53 ≤ n) (hw : AtE prw σ W) (hq : WkQ prw W) (x y : Int32) : Sm n mX10_bad [.ref 0, .int x, .int y] σ (qi fun r σ2 => r = bdA W x y ∧ σ2 = σ) := by
  refine Sm.of mk_X10_bad (Nat.le_of_ble_eq_true rfl) rfl (fun X hX => ?_)
  refine s_aload_n hX dX10_bad_0 rfl ?_
  refine s_getR hX dX10_bad_1 fl_X10_47 rfl rfl (by omega) ?_
  refine s_iload_n hX dX10_bad_4 rfl ?_
  refine s_iload_n hX dX10_bad_5 rfl ?_
  refine s_callVi (as := [_, _]) hX dX10_bad_6 mk_X1_badAt lk_X10_167 (c_X1_badAt hn hw hq x y) rfl (by omega) rfl rfl rfl ⟨rfl, rfl⟩ (Nat.le_of_ble_eq_true rfl) (Nat.le_of_ble_eq_true rfl) (Nat.le_of_ble_eq_true rfl) rfl (fun v6 σ6 p6 => ?_)
  obtain ⟨rfl, ep⟩ := p6
  replace ep := ep.symm
  subst ep
  refine s_iret hX dX10_bad_9 rfl rfl ?_
  exact ⟨rfl, rfl⟩
set_option maxRecDepth 100000 in
set_option maxHeartbeats 4000000 in
theorem c_X10_found {n : Nat} {σ : Sg} {prw : Pr} {W : Wk} (hn : 53 ≤ n) (hw : AtE prw σ W) (hq : WkQ prw W) (x y : Int32) : Sm n mX10_found [.ref 0, .int x, .int y] σ (qi fun r σ2 => r = fdF prw W x y ∧ σ2 = σ) := by
  refine Sm.of mk_X10_found (Nat.le_of_ble_eq_true rfl) rfl (fun X hX => ?_)
  by_cases h0 : x = nI 0
  · have hE : fdF prw W x y = if y < 0 then -1 else amv (kthR (fun n => skF prw (kV W n)) y.toNatClampNeg (kM W)) := by
      unfold fdF; rw [h0, show rg 0 1 (nI 0) = some 0 by decide]; rfl
    refine s_iload_n hX dX10_found_0 rfl ?_
    refine s_lookup (off := 27) (tgt := 28) hX dX10_found_1 (by decide) ?_ (by decide) ?_
    · rw [h0]; decide
    refine s_aload_n hX dX10_found_28 rfl ?_
    refine s_getR hX dX10_found_29 fl_X10_47 rfl rfl (by omega) ?_
    refine s_iload_n hX dX10_found_32 rfl ?_
    refine s_callVi (as := [_]) hX dX10_found_33 mk_X1_stuckAt lk_X10_170 (c_X1_stuckAt hn hw hq y) rfl (by omega) rfl rfl rfl ⟨rfl, rfl⟩ (Nat.le_of_ble_eq_true rfl) (Nat.le_of_ble_eq_true rfl) (Nat.le_of_ble_eq_true rfl) rfl (fun v33 σ33 p33 => ?_)
    obtain ⟨rfl, ep⟩ := p33
    replace ep := ep.symm
    subst ep
    refine s_iret hX dX10_found_36 rfl rfl ?_
    exact ⟨hE.symm, rfl⟩
  · by_cases h1 : x = nI 1
    · have hE : fdF prw W x y = if y < 0 then -1 else amv (kthR (fun n => !ldB prw W n) y.toNatClampNeg (kM W)) := by
        unfold fdF; rw [h1, show rg 0 1 (nI 1) = some 1 by decide]; rfl
      refine s_iload_n hX dX10_found_0 rfl ?_
      refine s_lookup (off := 36) (tgt := 37) hX dX10_found_1 (by decide) ?_ (by decide) ?_
      · rw [h1]; decide
      refine s_aload_n hX dX10_found_37 rfl ?_
      refine s_getR hX dX10_found_38 fl_X10_47 rfl rfl (by omega) ?_
      refine s_iload_n hX dX10_found_41 rfl ?_
      refine s_callVi (as := [_]) hX dX10_found_42 mk_X1_lostAt lk_X10_173 (c_X1_lostAt hn hw hq y) rfl (by omega) rfl rfl rfl ⟨rfl, rfl⟩ (Nat.le_of_ble_eq_true rfl) (Nat.le_of_ble_eq_true rfl) (Nat.le_of_ble_eq_true rfl) rfl (fun v42 σ42 p42 => ?_)
      obtain ⟨rfl, ep⟩ := p42
      replace ep := ep.symm
      subst ep
      refine s_iret hX dX10_found_45 rfl rfl ?_
      exact ⟨hE.symm, rfl⟩
    · refine s_iload_n hX dX10_found_0 rfl ?_
      refine s_lookup (off := 45) (tgt := 46) hX dX10_found_1 (by decide) ?_ (by decide) ?_
      · have e0 : (0 : Int) ≠ x.toInt := fun e => h0 (Int32.toInt_inj.mp (by rw [← e]; decide))
        have e1 : (1 : Int) ≠ x.toInt := fun e => h1 (Int32.toInt_inj.mp (by rw [← e]; decide))
        show Op.lookupswitch.offset [((0 : Int), (27 : Int)), (1, 36)] 45 x.toInt = 45
        rw [Op.lookupswitch.offset_cons, if_neg e0, Op.lookupswitch.offset_cons, if_neg e1]; rfl
      refine s_iconst (v := -1) hX dX10_found_46 (by decide) ?_
      refine s_iret hX dX10_found_47 rfl rfl ?_
      exact ⟨(fd_no h0 h1).symm, rfl⟩
set_option maxRecDepth 100000 in
set_option maxHeartbeats 4000000 in
theorem c_X10_far {n : Nat} {σ : Sg} {prw : Pr} {W : Wk} (hn : 53 ≤ n) (hw : AtE prw σ W) (hq : WkQ prw W) (x : Int32) : Sm n mX10_far [.ref 0, .int x] σ (qi fun r σ2 => r = faF W x ∧ σ2 = σ) := by
  refine Sm.of mk_X10_far (Nat.le_of_ble_eq_true rfl) rfl (fun X hX => ?_)
  obtain ⟨hM4, hB30, hT8, hF, hPa, hF0, hBt⟩ := hq.all
  by_cases c : x < 0 ∨ nI (kM W) ≤ x
  · have hE : faF W x = -1 := by unfold faF; rw [if_pos c]
    refine s_aload_n hX dX10_far_0 rfl ?_
    refine s_getR hX dX10_far_1 fl_X10_47 rfl rfl (by omega) ?_
    refine s_iload_n hX dX10_far_4 rfl ?_
    refine s_callVi (as := [_]) hX dX10_far_5 mk_X1_hasState lk_X10_176 (c_X1_hasState hn hw hq _) rfl (by omega) rfl rfl rfl ⟨rfl, rfl⟩ (Nat.le_of_ble_eq_true rfl) (Nat.le_of_ble_eq_true rfl) (Nat.le_of_ble_eq_true rfl) rfl (fun v5 σ5 p5 => ?_)
    obtain ⟨rfl, ep⟩ := p5
    replace ep := ep.symm
    subst ep
    rw [if_pos c]
    refine s_if_eq_n (tgt := 22) hX dX10_far_8 (by decide) (by omega) (fun q8 => ?_) (fun q8 => ?_)
    · refine s_iconst (v := -1) hX dX10_far_22 (by decide) ?_
      refine s_iret hX dX10_far_23 rfl rfl ?_
      exact ⟨hE.symm, rfl⟩
    · exact absurd rfl q8
  · have c1 : ¬ x < 0 := fun z => c (Or.inl z)
    have c2 : ¬ nI (kM W) ≤ x := fun z => c (Or.inr z)
    obtain ⟨i, hi, rfl⟩ := ix_of (m := kM W) (by omega) c1 c2
    have hE : faF W (nI i) = nI (kF W i) := by unfold faF; rw [if_neg c, nI_clamp (by omega)]
    refine s_aload_n hX dX10_far_0 rfl ?_
    refine s_getR hX dX10_far_1 fl_X10_47 rfl rfl (by omega) ?_
    refine s_iload_n hX dX10_far_4 rfl ?_
    refine s_callVi (as := [_]) hX dX10_far_5 mk_X1_hasState lk_X10_176 (c_X1_hasState hn hw hq _) rfl (by omega) rfl rfl rfl ⟨rfl, rfl⟩ (Nat.le_of_ble_eq_true rfl) (Nat.le_of_ble_eq_true rfl) (Nat.le_of_ble_eq_true rfl) rfl (fun v5 σ5 p5 => ?_)
    obtain ⟨rfl, ep⟩ := p5
    replace ep := ep.symm
    subst ep
    rw [if_neg c]
    refine s_if_eq_n (tgt := 22) hX dX10_far_8 (by decide) (by omega) (fun q8 => ?_) (fun q8 => ?_)
    · exact absurd q8 (by decide)
    · refine s_aload_n hX dX10_far_11 rfl ?_
      refine s_getR hX dX10_far_12 fl_X10_47 rfl rfl (by omega) ?_
      refine s_iload_n hX dX10_far_15 rfl ?_
      refine s_callVi (as := [_]) hX dX10_far_16 mk_X1_depthOf lk_X10_180 (c_X1_depthOf hn hw hq i hi) rfl (by omega) rfl rfl rfl ⟨rfl, rfl⟩ (Nat.le_of_ble_eq_true rfl) (Nat.le_of_ble_eq_true rfl) (Nat.le_of_ble_eq_true rfl) rfl (fun v16 σ16 p16 => ?_)
      obtain ⟨rfl, ep⟩ := p16
      replace ep := ep.symm
      subst ep
      refine s_goto (tgt := 23) hX dX10_far_19 (by decide) ?_
      refine s_iret hX dX10_far_23 rfl rfl ?_
      exact ⟨hE.symm, rfl⟩
set_option maxRecDepth 100000 in
set_option maxHeartbeats 4000000 in
theorem c_X10_way {n : Nat} {σ : Sg} {prw : Pr} {W : Wk} (hn : 53 ≤ n) (hw : AtE prw σ W) (hq : WkQ prw W) (x y : Int32) : Sm n mX10_way [.ref 0, .int x, .int y] σ (qi fun r σ2 => r = wyF W x y ∧ σ2 = σ) := by
  refine Sm.of mk_X10_way (Nat.le_of_ble_eq_true rfl) rfl (fun X hX => ?_)
  obtain ⟨hM4, hB30, hT8, hF, hPa, hF0, hBt⟩ := hq.all
  by_cases c : x < 0 ∨ nI (kM W) ≤ x
  · have hE : wyF W x y = -1 := by unfold wyF; rw [if_pos c]
    refine s_aload_n hX dX10_way_0 rfl ?_
    refine s_getR hX dX10_way_1 fl_X10_47 rfl rfl (by omega) ?_
    refine s_iload_n hX dX10_way_4 rfl ?_
    refine s_callVi (as := [_]) hX dX10_way_5 mk_X1_hasState lk_X10_176 (c_X1_hasState hn hw hq _) rfl (by omega) rfl rfl rfl ⟨rfl, rfl⟩ (Nat.le_of_ble_eq_true rfl) (Nat.le_of_ble_eq_true rfl) (Nat.le_of_ble_eq_true rfl) rfl (fun v5 σ5 p5 => ?_)
    obtain ⟨rfl, ep⟩ := p5
    replace ep := ep.symm
    subst ep
    rw [if_pos c]
    refine s_if_eq_n (tgt := 27) hX dX10_way_8 (by decide) (by omega) (fun q8 => ?_) (fun q8 => ?_)
    · refine s_iconst (v := -1) hX dX10_way_27 (by decide) ?_
      refine s_iret hX dX10_way_28 rfl rfl ?_
      exact ⟨hE.symm, rfl⟩
    · exact absurd rfl q8
  · have c1 : ¬ x < 0 := fun z => c (Or.inl z)
    have c2 : ¬ nI (kM W) ≤ x := fun z => c (Or.inr z)
    obtain ⟨i, hi, rfl⟩ := ix_of (m := kM W) (by omega) c1 c2
    have hFi := (hF i hi).1
    have hE : wyF W (nI i) y = if y < 0 ∨ nI (kF W i) ≤ y then -1 else nI (wyR W y.toNatClampNeg 4000 i) := by unfold wyF; rw [if_neg c, nI_clamp (by omega)]
    refine s_aload_n hX dX10_way_0 rfl ?_
    refine s_getR hX dX10_way_1 fl_X10_47 rfl rfl (by omega) ?_
    refine s_iload_n hX dX10_way_4 rfl ?_
    refine s_callVi (as := [_]) hX dX10_way_5 mk_X1_hasState lk_X10_176 (c_X1_hasState hn hw hq _) rfl (by omega) rfl rfl rfl ⟨rfl, rfl⟩ (Nat.le_of_ble_eq_true rfl) (Nat.le_of_ble_eq_true rfl) (Nat.le_of_ble_eq_true rfl) rfl (fun v5 σ5 p5 => ?_)
    obtain ⟨rfl, ep⟩ := p5
    replace ep := ep.symm
    subst ep
    rw [if_neg c]
    refine s_if_eq_n (tgt := 27) hX dX10_way_8 (by decide) (by omega) (fun q8 => ?_) (fun q8 => ?_)
    · exact absurd q8 (by decide)
    · refine s_iload_n hX dX10_way_11 rfl ?_
      refine s_if_lt (tgt := 27) hX dX10_way_12 (by decide) (fun q12 => ?_) (fun q12 => ?_)
      · refine s_iconst (v := -1) hX dX10_way_27 (by decide) ?_
        refine s_iret hX dX10_way_28 rfl rfl ?_
        exact ⟨by rw [hE, if_pos (by first | exact Or.inl q12 | exact Or.inr (Int32.not_lt.mp q24))], rfl⟩
      · refine s_iload_n hX dX10_way_15 rfl ?_
        refine s_aload_n hX dX10_way_16 rfl ?_
        refine s_getR hX dX10_way_17 fl_X10_47 rfl rfl (by omega) ?_
        refine s_iload_n hX dX10_way_20 rfl ?_
        refine s_callVi (as := [_]) hX dX10_way_21 mk_X1_depthOf lk_X10_180 (c_X1_depthOf hn hw hq i hi) rfl (by omega) rfl rfl rfl ⟨rfl, rfl⟩ (Nat.le_of_ble_eq_true rfl) (Nat.le_of_ble_eq_true rfl) (Nat.le_of_ble_eq_true rfl) rfl (fun v21 σ21 p21 => ?_)
        obtain ⟨rfl, ep⟩ := p21
        replace ep := ep.symm
        subst ep
        refine s_icmp_lt (tgt := 29) hX dX10_way_24 (by decide) (fun q24 => ?_) (fun q24 => ?_)
        · obtain ⟨k, hk, rfl⟩ := ix_of (m := kF W i) (by omega) q12 (Int32.not_le.mpr q24)
          refine s_aload_n hX dX10_way_29 rfl ?_
          refine s_getR hX dX10_way_30 fl_X10_47 rfl rfl (by omega) ?_
          refine s_iload_n hX dX10_way_33 rfl ?_
          refine s_iload_n hX dX10_way_34 rfl ?_
          refine s_callVi (as := [_, _]) hX dX10_way_35 mk_X1_stepTowards lk_X10_183 (c_X1_stepTowards hn hw hq i k hi hk) rfl (by omega) rfl rfl rfl ⟨rfl, rfl⟩ (Nat.le_of_ble_eq_true rfl) (Nat.le_of_ble_eq_true rfl) (Nat.le_of_ble_eq_true rfl) rfl (fun v35 σ35 p35 => ?_)
          obtain ⟨rfl, ep⟩ := p35
          replace ep := ep.symm
          subst ep
          refine s_iret hX dX10_way_38 rfl rfl ?_
          exact ⟨by rw [hE, if_neg (fun z => z.elim q12 (Int32.not_le.mpr q24)), nI_clamp (by omega)], rfl⟩
        · refine s_iconst (v := -1) hX dX10_way_27 (by decide) ?_
          refine s_iret hX dX10_way_28 rfl rfl ?_
          exact ⟨by rw [hE, if_pos (by first | exact Or.inl q12 | exact Or.inr (Int32.not_lt.mp q24))], rfl⟩
set_option maxRecDepth 100000 in
set_option maxHeartbeats 4000000 in
theorem c_X10_go {n : Nat} {σ : Sg} {pr : Pr} {v : Vc} {ch : Bool} {prw : Pr} {W : Wk} (hn : 53 ≤ n) (h : ClS σ pr v ch) (hk : PrOk pr) (hw : AtE prw σ W) (hq : WkQ prw W) (hc : ch = false → prw = pr) (x : Int32) : Sm n mX10_go [.ref 0, .int x] σ (qi fun r σ2 => (match goF W ch x with
    | none => r = -1 ∧ ClS σ2 pr v ch
    | some m => r = nI (stepsF pr (kV W m)).length ∧ ClS σ2 pr (kV W m) ch) ∧ Off σ σ2 clL) := by
  refine Sm.of mk_X10_go (Nat.le_of_ble_eq_true rfl) rfl (fun X hX => ?_)
  obtain ⟨hM4, hB30, hT8, hF, hPa, hF0, hBt⟩ := hq.all
  cases ch with
  | true =>
    have hE : goF W true x = none := by unfold goF; rw [if_pos (Or.inr (Or.inr rfl))]
    rw [hE]
    refine s_aload_n hX dX10_go_0 rfl ?_
    refine s_getI (x := nI (0)) hX dX10_go_1 fl_X10_51 rfl rfl (by omega) h.2.2 ?_
    refine s_if_eq_n (tgt := 18) hX dX10_go_4 (by decide) (by omega) (fun q4 => ?_) (fun q4 => ?_)
    · refine s_iconst (v := -1) hX dX10_go_18 (by decide) ?_
      refine s_iret hX dX10_go_19 rfl rfl ?_
      exact ⟨⟨rfl, h⟩, Off.rf⟩
    · exact absurd rfl q4
  | false =>
    have hpr := hc rfl
    subst hpr
    by_cases c : x < 0 ∨ nI (kM W) ≤ x
    · have hE : goF W false x = none := by unfold goF; rw [if_pos (c.elim Or.inl (fun z => Or.inr (Or.inl z)))]
      rw [hE]
      refine s_aload_n hX dX10_go_0 rfl ?_
      refine s_getI (x := nI (1)) hX dX10_go_1 fl_X10_51 rfl rfl (by omega) h.2.2 ?_
      refine s_if_eq_n (tgt := 18) hX dX10_go_4 (by decide) (by omega) (fun q4 => ?_) (fun q4 => ?_)
      · exact absurd q4 (by decide)
      · refine s_aload_n hX dX10_go_7 rfl ?_
        refine s_getR hX dX10_go_8 fl_X10_47 rfl rfl (by omega) ?_
        refine s_iload_n hX dX10_go_11 rfl ?_
        refine s_callVi (as := [_]) hX dX10_go_12 mk_X1_hasState lk_X10_176 (c_X1_hasState hn hw hq _) rfl (by omega) rfl rfl rfl ⟨rfl, rfl⟩ (Nat.le_of_ble_eq_true rfl) (Nat.le_of_ble_eq_true rfl) (Nat.le_of_ble_eq_true rfl) rfl (fun v12 σ12 p12 => ?_)
        obtain ⟨rfl, ep⟩ := p12
        replace ep := ep.symm
        subst ep
        rw [if_pos c]
        refine s_if_ne_n (tgt := 20) hX dX10_go_15 (by decide) (by omega) (fun q15 => ?_) (fun q15 => ?_)
        · exact absurd rfl q15
        · refine s_iconst (v := -1) hX dX10_go_18 (by decide) ?_
          refine s_iret hX dX10_go_19 rfl rfl ?_
          exact ⟨⟨rfl, h⟩, Off.rf⟩
    · have hE : goF W false x = some x.toNatClampNeg := by unfold goF; rw [if_neg (fun z => z.elim (fun q => c (Or.inl q)) (fun z => z.elim (fun q => c (Or.inr q)) (fun q => by cases q)))]
      rw [hE]
      have c1 : ¬ x < 0 := fun z => c (Or.inl z)
      have c2 : ¬ nI (kM W) ≤ x := fun z => c (Or.inr z)
      obtain ⟨i, hi, rfl⟩ := ix_of (m := kM W) (by omega) c1 c2
      rw [nI_clamp (by omega)]
      refine s_aload_n hX dX10_go_0 rfl ?_
      refine s_getI (x := nI (1)) hX dX10_go_1 fl_X10_51 rfl rfl (by omega) h.2.2 ?_
      refine s_if_eq_n (tgt := 18) hX dX10_go_4 (by decide) (by omega) (fun q4 => ?_) (fun q4 => ?_)
      · exact absurd q4 (by decide)
      · refine s_aload_n hX dX10_go_7 rfl ?_
        refine s_getR hX dX10_go_8 fl_X10_47 rfl rfl (by omega) ?_
        refine s_iload_n hX dX10_go_11 rfl ?_
        refine s_callVi (as := [_]) hX dX10_go_12 mk_X1_hasState lk_X10_176 (c_X1_hasState hn hw hq _) rfl (by omega) rfl rfl rfl ⟨rfl, rfl⟩ (Nat.le_of_ble_eq_true rfl) (Nat.le_of_ble_eq_true rfl) (Nat.le_of_ble_eq_true rfl) rfl (fun v12 σ12 p12 => ?_)
        obtain ⟨rfl, ep⟩ := p12
        replace ep := ep.symm
        subst ep
        rw [if_neg c]
        refine s_if_ne_n (tgt := 20) hX dX10_go_15 (by decide) (by omega) (fun q15 => ?_) (fun q15 => ?_)
        · refine s_aload_n hX dX10_go_20 rfl ?_
          refine s_getR hX dX10_go_21 fl_X10_47 rfl rfl (by omega) ?_
          refine s_iload_n hX dX10_go_24 rfl ?_
          refine s_aload_n hX dX10_go_25 rfl ?_
          refine s_getR hX dX10_go_26 fl_X10_28 rfl rfl (by omega) ?_
          refine s_callVv (as := [_, _]) hX dX10_go_29 mk_X1_load lk_X10_186 (c_X1_load hn hw hq (is10 hn) i hi) rfl (by omega) rfl rfl rfl ⟨rfl, rfl⟩ (Nat.le_of_ble_eq_true rfl) (Nat.le_of_ble_eq_true rfl) (Nat.le_of_ble_eq_true rfl) rfl (fun σ29 p29 => ?_)
          obtain ⟨l1, l2⟩ := p29
          have h2 : ClS σ29 prw (kV W i) false := ⟨h.1.off2 l2 (by decide), l1, by rw [l2 0 (by decide)]; exact h.2.2⟩
          refine s_aload_n hX dX10_go_32 rfl ?_
          refine s_callVi (as := []) hX dX10_go_33 mk_X10_countChoices lk_X10_90 (c_X10_countChoices hn h2 hk (hF i hi).2 (hq.srt i hi)) rfl (by omega) rfl rfl rfl ⟨rfl, rfl⟩ (Nat.le_of_ble_eq_true rfl) (Nat.le_of_ble_eq_true rfl) (Nat.le_of_ble_eq_true rfl) rfl (fun v33 σ33 p33 => ?_)
          obtain ⟨rfl, c1, c2, c3⟩ := p33
          refine s_iret hX dX10_go_36 rfl rfl ?_
          exact ⟨⟨rfl, c2⟩, (l2.mono2 (by decide)).trans (c3.mono2 (by decide))⟩
        · omega
set_option maxRecDepth 100000 in
set_option maxHeartbeats 4000000 in
theorem c_X10_number {n : Nat} {σ : Sg} {pr : Pr} {v : Vc} {ch : Bool} {prw : Pr} {W : Wk} (hn : 53 ≤ n) (h : ClS σ pr v ch) (hk : PrOk pr) (hw : AtE prw σ W) (hv : VOk pr v) (hq : WkQ prw W) (hc : ch = false → prw = pr) : Sm n mX10_number [.ref 0] σ (qi fun r σ2 => r = (if ch = true then -1 else amv (numK W v)) ∧ σ2 = σ) := by
  refine Sm.of mk_X10_number (Nat.le_of_ble_eq_true rfl) rfl (fun X hX => ?_)
  cases ch with
  | true =>
    refine s_aload_n hX dX10_number_0 rfl ?_
    refine s_getI (x := nI (0)) hX dX10_number_1 fl_X10_51 rfl rfl (by omega) h.2.2 ?_
    refine s_if_eq_n (tgt := 21) hX dX10_number_4 (by decide) (by omega) (fun q4 => ?_) (fun q4 => ?_)
    · refine s_iconst (v := -1) hX dX10_number_21 (by decide) ?_
      refine s_iret hX dX10_number_22 rfl rfl ?_
      exact ⟨by rw [if_pos rfl], rfl⟩
    · exact absurd rfl q4
  | false =>
    have hpr := hc rfl
    subst hpr
    refine s_aload_n hX dX10_number_0 rfl ?_
    refine s_getI (x := nI (1)) hX dX10_number_1 fl_X10_51 rfl rfl (by omega) h.2.2 ?_
    refine s_if_eq_n (tgt := 21) hX dX10_number_4 (by decide) (by omega) (fun q4 => ?_) (fun q4 => ?_)
    · exact absurd q4 (by decide)
    · refine s_aload_n hX dX10_number_7 rfl ?_
      refine s_getR hX dX10_number_8 fl_X10_47 rfl rfl (by omega) ?_
      refine s_aload_n hX dX10_number_11 rfl ?_
      refine s_getR hX dX10_number_12 fl_X10_28 rfl rfl (by omega) ?_
      refine s_callVi (as := [_]) hX dX10_number_15 mk_X1_numberOf lk_X10_190 (c_X1_numberOf hn hw hq (is10 hn) h.2.1 hv) rfl (by omega) rfl rfl rfl ⟨rfl, rfl⟩ (Nat.le_of_ble_eq_true rfl) (Nat.le_of_ble_eq_true rfl) (Nat.le_of_ble_eq_true rfl) rfl (fun v15 σ15 p15 => ?_)
      obtain ⟨rfl, ep⟩ := p15
      replace ep := ep.symm
      subst ep
      refine s_goto (tgt := 22) hX dX10_number_18 (by decide) ?_
      refine s_iret hX dX10_number_22 rfl rfl ?_
      exact ⟨by rw [if_neg (by decide)], rfl⟩
set_option maxRecDepth 100000 in
set_option maxHeartbeats 4000000 in
theorem c_X10_used {n : Nat} {σ : Sg} {pr : Pr} {v : Vc} {ch : Bool} {prw : Pr} {W : Wk} (hn : 53 ≤ n) (h : ClS σ pr v ch) (hk : PrOk pr) (hw : AtE prw σ W) (x : Int32) : Sm n mX10_used [.ref 0, .int x] σ (qi fun r σ2 => r = usF pr W x ∧ σ2 = σ) := by
  refine Sm.of mk_X10_used (Nat.le_of_ble_eq_true rfl) rfl (fun X hX => ?_)
  obtain ⟨pl, hpl⟩ : ∃ q, plF x = q := ⟨_, rfl⟩
  cases pl with
  | none =>
    have hE : usF pr W x = -1 := by unfold usF; rw [hpl]
    refine s_iload_n hX dX10_used_0 rfl ?_
    refine s_callSi (as := [_]) hX dX10_used_1 mk_X10_placeOf lk_X10_77 (c_X10_placeOf x) rfl ⟨rfl, rfl⟩ (Nat.le_of_ble_eq_true rfl) (Nat.le_of_ble_eq_true rfl) (Nat.le_of_ble_eq_true rfl) rfl (fun v1 σ1 p1 => ?_)
    obtain ⟨rfl, ep⟩ := p1
    replace ep := ep.symm
    subst ep
    rw [hpl]
    rw [show amv none = -1 from rfl]
    refine s_istore_n hX dX10_used_4 (Nat.le_of_ble_eq_true rfl) rfl st_3_2 ?_
    refine s_iload_n hX dX10_used_5 rfl ?_
    refine s_iconst (v := -1) hX dX10_used_6 (by decide) ?_
    refine s_icmp_eq (tgt := 21) hX dX10_used_7 (by decide) (fun q7 => ?_) (fun q7 => ?_)
    · refine s_iconst (v := -1) hX dX10_used_21 (by decide) ?_
      refine s_iret hX dX10_used_22 rfl rfl ?_
      exact ⟨hE.symm, rfl⟩
    · exact absurd rfl q7
  | some a =>
    have ha := plF_lt hpl
    cases hmm : pAm pr a with
    | none =>
      have hE : usF pr W x = -1 := by unfold usF; rw [hpl]; dsimp only; rw [hmm]
      refine s_iload_n hX dX10_used_0 rfl ?_
      refine s_callSi (as := [_]) hX dX10_used_1 mk_X10_placeOf lk_X10_77 (c_X10_placeOf x) rfl ⟨rfl, rfl⟩ (Nat.le_of_ble_eq_true rfl) (Nat.le_of_ble_eq_true rfl) (Nat.le_of_ble_eq_true rfl) rfl (fun v1 σ1 p1 => ?_)
      obtain ⟨rfl, ep⟩ := p1
      replace ep := ep.symm
      subst ep
      rw [hpl]
      rw [show amv (some a) = nI a from rfl]
      refine s_istore_n hX dX10_used_4 (Nat.le_of_ble_eq_true rfl) rfl st_3_2 ?_
      refine s_iload_n hX dX10_used_5 rfl ?_
      refine s_iconst (v := -1) hX dX10_used_6 (by decide) ?_
      refine s_icmp_eq (tgt := 21) hX dX10_used_7 (by decide) (fun q7 => ?_) (fun q7 => ?_)
      · exact absurd q7 (nI_nm1 (by omega))
      · refine s_aload_n hX dX10_used_10 rfl ?_
        refine s_getR hX dX10_used_11 fl_X10_12 rfl rfl (by omega) ?_
        refine s_iload_n hX dX10_used_14 rfl ?_
        refine s_callVi (as := [_]) hX dX10_used_15 mk_X6_hasRow lk_X10_193 (c_X6_hasRow hn h.1 hk a ha) rfl (by omega) rfl rfl rfl ⟨rfl, rfl⟩ (Nat.le_of_ble_eq_true rfl) (Nat.le_of_ble_eq_true rfl) (Nat.le_of_ble_eq_true rfl) rfl (fun v15 σ15 p15 => ?_)
        obtain ⟨rfl, ep⟩ := p15
        replace ep := ep.symm
        subst ep
        rw [hmm]
        rw [show isN none = 0 from rfl]
        refine s_if_ne_n (tgt := 23) hX dX10_used_18 (by decide) (by omega) (fun q18 => ?_) (fun q18 => ?_)
        · exact absurd rfl q18
        · refine s_iconst (v := -1) hX dX10_used_21 (by decide) ?_
          refine s_iret hX dX10_used_22 rfl rfl ?_
          exact ⟨hE.symm, rfl⟩
    | some mm =>
      have hE : usF pr W x = bI (kU W a) := by unfold usF; rw [hpl]; dsimp only; rw [hmm]
      refine s_iload_n hX dX10_used_0 rfl ?_
      refine s_callSi (as := [_]) hX dX10_used_1 mk_X10_placeOf lk_X10_77 (c_X10_placeOf x) rfl ⟨rfl, rfl⟩ (Nat.le_of_ble_eq_true rfl) (Nat.le_of_ble_eq_true rfl) (Nat.le_of_ble_eq_true rfl) rfl (fun v1 σ1 p1 => ?_)
      obtain ⟨rfl, ep⟩ := p1
      replace ep := ep.symm
      subst ep
      rw [hpl]
      rw [show amv (some a) = nI a from rfl]
      refine s_istore_n hX dX10_used_4 (Nat.le_of_ble_eq_true rfl) rfl st_3_2 ?_
      refine s_iload_n hX dX10_used_5 rfl ?_
      refine s_iconst (v := -1) hX dX10_used_6 (by decide) ?_
      refine s_icmp_eq (tgt := 21) hX dX10_used_7 (by decide) (fun q7 => ?_) (fun q7 => ?_)
      · exact absurd q7 (nI_nm1 (by omega))
      · refine s_aload_n hX dX10_used_10 rfl ?_
        refine s_getR hX dX10_used_11 fl_X10_12 rfl rfl (by omega) ?_
        refine s_iload_n hX dX10_used_14 rfl ?_
        refine s_callVi (as := [_]) hX dX10_used_15 mk_X6_hasRow lk_X10_193 (c_X6_hasRow hn h.1 hk a ha) rfl (by omega) rfl rfl rfl ⟨rfl, rfl⟩ (Nat.le_of_ble_eq_true rfl) (Nat.le_of_ble_eq_true rfl) (Nat.le_of_ble_eq_true rfl) rfl (fun v15 σ15 p15 => ?_)
        obtain ⟨rfl, ep⟩ := p15
        replace ep := ep.symm
        subst ep
        rw [hmm]
        rw [show isN (some mm) = 1 from rfl]
        refine s_if_ne_n (tgt := 23) hX dX10_used_18 (by decide) (by omega) (fun q18 => ?_) (fun q18 => ?_)
        · refine s_aload_n hX dX10_used_23 rfl ?_
          refine s_getR hX dX10_used_24 fl_X10_47 rfl rfl (by omega) ?_
          refine s_iload_n hX dX10_used_27 rfl ?_
          refine s_callVi (as := [_]) hX dX10_used_28 mk_X1_usedAt lk_X10_196 (c_X1_usedAt hn hw a ha) rfl (by omega) rfl rfl rfl ⟨rfl, rfl⟩ (Nat.le_of_ble_eq_true rfl) (Nat.le_of_ble_eq_true rfl) (Nat.le_of_ble_eq_true rfl) rfl (fun v28 σ28 p28 => ?_)
          obtain ⟨rfl, ep⟩ := p28
          replace ep := ep.symm
          subst ep
          refine s_iret hX dX10_used_31 rfl rfl ?_
          exact ⟨hE.symm, rfl⟩
        · omega
