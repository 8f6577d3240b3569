/-! ===== the class: its tables and its run by hand ===== -/
def ClS (σ : Sg) (pr : Pr) (v : Vc) (ch : Bool) : Prop := PrC σ pr ∧ ScC pr σ 10 v ∧ (σ 0).1 6 = bI (!ch)
abbrev clL : List Nat := [0, 1, 2, 3, 4, 5, 6, 7, 8, 9, 10, 11, 12, 13, 14, 15, 16, 17, 18, 19]
theorem nx_suc {m : Nat} {x : Int32} (hm : m + 1 < 2 ^ 31) : nI m < x ↔ nI (m + 1) ≤ x := by
  rw [Int32.lt_iff_toInt_lt, Int32.le_iff_toInt_le, nI_toInt (by omega), nI_toInt hm]
  omega
set_option maxRecDepth 100000 in
set_option maxHeartbeats 4000000 in
theorem c_X10_beginAnew {n : Nat} {σ : Sg} (hn : 53 ≤ n) {pr : Pr} (hp : PrC σ pr) (hP : pP pr ≤ 4) : Sm n mX10_beginAnew [.ref 0] σ (qv fun σ2 => ClS σ2 pr v0 true ∧ Off σ σ2 [0, 10, 11]) := by
  refine Sm.of mk_X10_beginAnew (Nat.le_of_ble_eq_true rfl) rfl (fun X hX => ?_)
  refine s_aload_n hX dX10_beginAnew_0 rfl ?_
  refine s_getR hX dX10_beginAnew_1 fl_X10_28 rfl rfl (by omega) ?_
  refine s_aload_n hX dX10_beginAnew_4 rfl ?_
  refine s_getR hX dX10_beginAnew_5 fl_X10_12 rfl rfl (by omega) ?_
  refine s_callVi (as := []) hX dX10_beginAnew_8 mk_X6_home lk_X10_55 (c_X6_home hn hp) rfl (by omega) rfl rfl rfl ⟨rfl, rfl⟩ (Nat.le_of_ble_eq_true rfl) (Nat.le_of_ble_eq_true rfl) (Nat.le_of_ble_eq_true rfl) rfl (fun v8 σ8 p8 => ?_)
  obtain ⟨rfl, ep⟩ := p8
  replace ep := ep.symm
  subst ep
  refine s_callVv (as := [_]) hX dX10_beginAnew_11 mk_X7_begin lk_X10_59 (c_X7_begin (is10 hn) hP) rfl (by omega) rfl rfl rfl ⟨rfl, rfl⟩ (Nat.le_of_ble_eq_true rfl) (Nat.le_of_ble_eq_true rfl) (Nat.le_of_ble_eq_true rfl) rfl (fun σ11 p11 => ?_)
  obtain ⟨p11a, p11b⟩ := p11
  refine s_aload_n hX dX10_beginAnew_14 rfl ?_
  refine s_iconst (v := nI 0) hX dX10_beginAnew_15 (by decide) ?_
  refine s_putI hX dX10_beginAnew_16 fl_X10_51 rfl rfl (by omega) rfl rfl ?_
  refine s_vret hX dX10_beginAnew_19 rfl rfl ?_
  have hO := p11b.mono2 (S2 := [0, 10, 11]) (by decide)
  refine ⟨⟨hp.off2 (hO.wI (by simp)) (by decide), p11a.kept (wI_a _ _ (by decide)) (wI_a _ _ (by decide)), by rw [wI_s]; rfl⟩, hO.wI (by simp)⟩
set_option maxRecDepth 100000 in
set_option maxHeartbeats 4000000 in
theorem c_X10_countChoices {n : Nat} {σ : Sg} (hn : 53 ≤ n) {pr : Pr} {v : Vc} {ch : Bool} (h : ClS σ pr v ch) (hk : PrOk pr) (hv : VOk pr v) (hr : Srt pr v) : Sm n mX10_countChoices [.ref 0] σ (qi fun r σ2 => r = nI (stepsF pr v).length ∧ SlC pr v σ2 14 (stepsF pr v) ∧ ClS σ2 pr v ch ∧ Off σ σ2 (sl6 14)) := by
  refine Sm.of mk_X10_countChoices (Nat.le_of_ble_eq_true rfl) rfl (fun X hX => ?_)
  refine s_aload_n hX dX10_countChoices_0 rfl ?_
  refine s_getR hX dX10_countChoices_1 fl_X10_38 rfl rfl (by omega) ?_
  refine s_aload_n hX dX10_countChoices_4 rfl ?_
  refine s_getR hX dX10_countChoices_5 fl_X10_28 rfl rfl (by omega) ?_
  refine s_callVv (as := [_]) hX dX10_countChoices_8 mk_X9_list lk_X10_199 (c_X9_list hn (il14 hn) (is10 hn) (by decide) (by decide) h.2.1 h.1 hk hv hr) rfl (by omega) rfl rfl rfl ⟨rfl, rfl⟩ (Nat.le_of_ble_eq_true rfl) (Nat.le_of_ble_eq_true rfl) (Nat.le_of_ble_eq_true rfl) rfl (fun σ8 p8 => ?_)
  obtain ⟨p8a, p8b⟩ := p8
  refine s_aload_n hX dX10_countChoices_11 rfl ?_
  refine s_getR hX dX10_countChoices_12 fl_X10_38 rfl rfl (by omega) ?_
  refine s_callVi (as := []) hX dX10_countChoices_15 mk_X9_count lk_X10_202 (c_X9_count (il14 hn) p8a) rfl (by omega) rfl rfl rfl ⟨rfl, rfl⟩ (Nat.le_of_ble_eq_true rfl) (Nat.le_of_ble_eq_true rfl) (Nat.le_of_ble_eq_true rfl) rfl (fun v15 σ15 p15 => ?_)
  obtain ⟨rfl, ep⟩ := p15
  replace ep := ep.symm
  subst ep
  refine s_iret hX dX10_countChoices_18 rfl rfl ?_
  exact ⟨rfl, p8a, ⟨h.1.off2 p8b (by decide), h.2.1.kept (p8b 10 (by decide)) (p8b 11 (by decide)), by rw [p8b 0 (by decide)]; exact h.2.2⟩, p8b⟩
set_option maxRecDepth 100000 in
set_option maxHeartbeats 4000000 in
theorem c_X10_processors {n : Nat} {σ : Sg} {pr : Pr} {v : Vc} {ch : Bool} (hn : 53 ≤ n) (h : ClS σ pr v ch) (hk : PrOk pr) (x : Int32) : Sm n mX10_processors [.ref 0, .int x] σ (qi fun r σ2 => (match rg 1 4 x with
    | none => r = -1 ∧ ClS σ2 pr v ch
    | some p => r = nI (pP pr) ∧ ClS σ2 (p, pr.2) v0 true) ∧ Off σ σ2 clL) := by
  refine Sm.of mk_X10_processors (Nat.le_of_ble_eq_true rfl) rfl (fun X hX => ?_)
  refine s_iload_n hX dX10_processors_0 rfl ?_
  refine s_iconst (v := nI 1) hX dX10_processors_1 (by decide) ?_
  refine s_icmp_lt (tgt := 10) hX dX10_processors_2 (by decide) (fun q2 => ?_) (fun q2 => ?_)
  · refine s_iconst (v := -1) hX dX10_processors_10 (by decide) ?_
    refine s_iret hX dX10_processors_11 rfl rfl ?_
    rw [rg_no (by first | exact Or.inl q2 | exact Or.inr (Int32.not_le.mp q7))]
    exact ⟨⟨rfl, h⟩, Off.rf⟩
  · refine s_iload_n hX dX10_processors_5 rfl ?_
    refine s_iconst (v := nI 4) hX dX10_processors_6 (by decide) ?_
    refine s_icmp_le (tgt := 12) hX dX10_processors_7 (by decide) (fun q7 => ?_) (fun q7 => ?_)
    · obtain ⟨p, hp1, hp4, rfl, hr⟩ := rg_of (by decide) (by decide) q2 (Int32.not_lt.mpr q7)
      rw [hr]
      refine s_aload_n hX dX10_processors_12 rfl ?_
      refine s_getR hX dX10_processors_13 fl_X10_12 rfl rfl (by omega) ?_
      refine s_iload_n hX dX10_processors_16 rfl ?_
      refine s_callVi (as := [_]) hX dX10_processors_17 mk_X6_setHome lk_X10_63 (c_X6_setHome hn h.1 p) rfl (by omega) rfl rfl rfl ⟨rfl, rfl⟩ (Nat.le_of_ble_eq_true rfl) (Nat.le_of_ble_eq_true rfl) (Nat.le_of_ble_eq_true rfl) rfl (fun v17 σ17 p17 => ?_)
      obtain ⟨rfl, p17a, p17b⟩ := p17
      refine s_istore_n hX dX10_processors_20 (Nat.le_of_ble_eq_true rfl) rfl st_3_2 ?_
      refine s_aload_n hX dX10_processors_21 rfl ?_
      refine s_callVv (as := []) hX dX10_processors_22 mk_X10_beginAnew lk_X10_67 (c_X10_beginAnew hn p17a (by show p ≤ 4; exact hp4)) rfl (by omega) rfl rfl rfl ⟨rfl, rfl⟩ (Nat.le_of_ble_eq_true rfl) (Nat.le_of_ble_eq_true rfl) (Nat.le_of_ble_eq_true rfl) rfl (fun σ22 p22 => ?_)
      refine s_iload_n hX dX10_processors_25 rfl ?_
      refine s_iret hX dX10_processors_26 rfl rfl ?_
      exact ⟨⟨rfl, p22.1⟩, (p17b.mono2 (by decide)).trans (p22.2.mono2 (by decide))⟩
    · refine s_iconst (v := -1) hX dX10_processors_10 (by decide) ?_
      refine s_iret hX dX10_processors_11 rfl rfl ?_
      rw [rg_no (by first | exact Or.inl q2 | exact Or.inr (Int32.not_le.mp q7))]
      exact ⟨⟨rfl, h⟩, Off.rf⟩
set_option maxRecDepth 100000 in
set_option maxHeartbeats 4000000 in
theorem c_X10_net {n : Nat} {σ : Sg} {pr : Pr} {v : Vc} {ch : Bool} (hn : 53 ≤ n) (h : ClS σ pr v ch) (hk : PrOk pr) (x y : Int32) : Sm n mX10_net [.ref 0, .int x, .int y] σ (qi fun r σ2 => (match rg 0 15 x, rg 0 1 y with
    | some p, some q => r = nI (pLo pr p) ∧ ClS σ2 (pP pr, vset (pLo pr) p q, pr.2.2) v0 true
    | _, _ => r = -1 ∧ ClS σ2 pr v ch) ∧ Off σ σ2 clL) := by
  refine Sm.of mk_X10_net (Nat.le_of_ble_eq_true rfl) rfl (fun X hX => ?_)
  have no1 : (x < 0 ∨ nI 16 ≤ x) → rg 0 15 x = none := fun q => rg_no (q.imp (fun z => z) (fun z => (nx_suc (by decide)).mpr z))
  have no2 : (y < 0 ∨ nI 1 < y) → rg 0 1 y = none := fun q => rg_no q
  refine s_iload_n hX dX10_net_0 rfl ?_
  refine s_if_lt (tgt := 19) hX dX10_net_1 (by decide) (fun q1 => ?_) (fun q1 => ?_)
  · refine s_iconst (v := -1) hX dX10_net_19 (by decide) ?_
    refine s_iret hX dX10_net_20 rfl rfl ?_
    first
      | (rw [no1 (Or.inl q1)]; exact ⟨⟨rfl, h⟩, Off.rf⟩)
      | (rw [no1 (Or.inr q7)]; exact ⟨⟨rfl, h⟩, Off.rf⟩)
      | (rw [no2 (Or.inl q11)]; cases rg 0 15 x <;> exact ⟨⟨rfl, h⟩, Off.rf⟩)
      | (rw [no2 (Or.inr (Int32.not_le.mp q16))]; cases rg 0 15 x <;> exact ⟨⟨rfl, h⟩, Off.rf⟩)
  · refine s_iload_n hX dX10_net_4 rfl ?_
    refine s_bipush (v := nI 16) hX dX10_net_5 (by decide) ?_
    refine s_icmp_ge (tgt := 19) hX dX10_net_7 (by decide) (fun q7 => ?_) (fun q7 => ?_)
    · refine s_iconst (v := -1) hX dX10_net_19 (by decide) ?_
      refine s_iret hX dX10_net_20 rfl rfl ?_
      first
        | (rw [no1 (Or.inl q1)]; exact ⟨⟨rfl, h⟩, Off.rf⟩)
        | (rw [no1 (Or.inr q7)]; exact ⟨⟨rfl, h⟩, Off.rf⟩)
        | (rw [no2 (Or.inl q11)]; cases rg 0 15 x <;> exact ⟨⟨rfl, h⟩, Off.rf⟩)
        | (rw [no2 (Or.inr (Int32.not_le.mp q16))]; cases rg 0 15 x <;> exact ⟨⟨rfl, h⟩, Off.rf⟩)
    · refine s_iload_n hX dX10_net_10 rfl ?_
      refine s_if_lt (tgt := 19) hX dX10_net_11 (by decide) (fun q11 => ?_) (fun q11 => ?_)
      · refine s_iconst (v := -1) hX dX10_net_19 (by decide) ?_
        refine s_iret hX dX10_net_20 rfl rfl ?_
        first
          | (rw [no1 (Or.inl q1)]; exact ⟨⟨rfl, h⟩, Off.rf⟩)
          | (rw [no1 (Or.inr q7)]; exact ⟨⟨rfl, h⟩, Off.rf⟩)
          | (rw [no2 (Or.inl q11)]; cases rg 0 15 x <;> exact ⟨⟨rfl, h⟩, Off.rf⟩)
          | (rw [no2 (Or.inr (Int32.not_le.mp q16))]; cases rg 0 15 x <;> exact ⟨⟨rfl, h⟩, Off.rf⟩)
      · refine s_iload_n hX dX10_net_14 rfl ?_
        refine s_iconst (v := nI 1) hX dX10_net_15 (by decide) ?_
        refine s_icmp_le (tgt := 21) hX dX10_net_16 (by decide) (fun q16 => ?_) (fun q16 => ?_)
        · obtain ⟨p, hp1, hp4, rfl, hr⟩ := rg_of (lo := 0) (hi := 15) (by decide) (by decide) q1 (fun z => q7 ((nx_suc (by decide)).mp z))
          obtain ⟨q, hq1, hq4, rfl, hr2⟩ := rg_of (lo := 0) (hi := 1) (by decide) (by decide) q11 (Int32.not_lt.mpr q16)
          rw [hr, hr2]
          refine s_aload_n hX dX10_net_21 rfl ?_
          refine s_getR hX dX10_net_22 fl_X10_12 rfl rfl (by omega) ?_
          refine s_iload_n hX dX10_net_25 rfl ?_
          refine s_iload_n hX dX10_net_26 rfl ?_
          refine s_callVi (as := [_, _]) hX dX10_net_27 mk_X6_setLoose lk_X10_70 (c_X6_setLoose hn h.1 p q (by omega)) rfl (by omega) rfl rfl rfl ⟨rfl, rfl⟩ (Nat.le_of_ble_eq_true rfl) (Nat.le_of_ble_eq_true rfl) (Nat.le_of_ble_eq_true rfl) rfl (fun v27 σ27 p27 => ?_)
          obtain ⟨rfl, p27a, p27b⟩ := p27
          refine s_istore_n hX dX10_net_30 (Nat.le_of_ble_eq_true rfl) rfl st_4_3 ?_
          refine s_aload_n hX dX10_net_31 rfl ?_
          refine s_callVv (as := []) hX dX10_net_32 mk_X10_beginAnew lk_X10_67 (c_X10_beginAnew hn p27a hk.1.2) rfl (by omega) rfl rfl rfl ⟨rfl, rfl⟩ (Nat.le_of_ble_eq_true rfl) (Nat.le_of_ble_eq_true rfl) (Nat.le_of_ble_eq_true rfl) rfl (fun σ32 p32 => ?_)
          refine s_iload_n hX dX10_net_35 rfl ?_
          refine s_iret hX dX10_net_36 rfl rfl ?_
          exact ⟨⟨rfl, p32.1⟩, (p27b.mono2 (by decide)).trans (p32.2.mono2 (by decide))⟩
        · refine s_iconst (v := -1) hX dX10_net_19 (by decide) ?_
          refine s_iret hX dX10_net_20 rfl rfl ?_
          first
            | (rw [no1 (Or.inl q1)]; exact ⟨⟨rfl, h⟩, Off.rf⟩)
            | (rw [no1 (Or.inr q7)]; exact ⟨⟨rfl, h⟩, Off.rf⟩)
            | (rw [no2 (Or.inl q11)]; cases rg 0 15 x <;> exact ⟨⟨rfl, h⟩, Off.rf⟩)
            | (rw [no2 (Or.inr (Int32.not_le.mp q16))]; cases rg 0 15 x <;> exact ⟨⟨rfl, h⟩, Off.rf⟩)
set_option maxRecDepth 100000 in
set_option maxHeartbeats 4000000 in
theorem c_X10_right {n : Nat} {σ : Sg} {pr : Pr} {v : Vc} {ch : Bool} (hn : 53 ≤ n) (h : ClS σ pr v ch) (hk : PrOk pr) (x y : Int32) : Sm n mX10_right [.ref 0, .int x, .int y] σ (qi fun r σ2 => (match rg 0 15 x, rg 0 2 y with
    | some p, some q => r = nI (pRi pr p) ∧ ClS σ2 (pP pr, pLo pr, vset (pRi pr) p q, pr.2.2.2) v0 true
    | _, _ => r = -1 ∧ ClS σ2 pr v ch) ∧ Off σ σ2 clL) := by
  refine Sm.of mk_X10_right (Nat.le_of_ble_eq_true rfl) rfl (fun X hX => ?_)
  have no1 : (x < 0 ∨ nI 16 ≤ x) → rg 0 15 x = none := fun q => rg_no (q.imp (fun z => z) (fun z => (nx_suc (by decide)).mpr z))
  have no2 : (y < 0 ∨ nI 2 < y) → rg 0 2 y = none := fun q => rg_no q
  refine s_iload_n hX dX10_right_0 rfl ?_
  refine s_if_lt (tgt := 19) hX dX10_right_1 (by decide) (fun q1 => ?_) (fun q1 => ?_)
  · refine s_iconst (v := -1) hX dX10_right_19 (by decide) ?_
    refine s_iret hX dX10_right_20 rfl rfl ?_
    first
      | (rw [no1 (Or.inl q1)]; exact ⟨⟨rfl, h⟩, Off.rf⟩)
      | (rw [no1 (Or.inr q7)]; exact ⟨⟨rfl, h⟩, Off.rf⟩)
      | (rw [no2 (Or.inl q11)]; cases rg 0 15 x <;> exact ⟨⟨rfl, h⟩, Off.rf⟩)
      | (rw [no2 (Or.inr (Int32.not_le.mp q16))]; cases rg 0 15 x <;> exact ⟨⟨rfl, h⟩, Off.rf⟩)
  · refine s_iload_n hX dX10_right_4 rfl ?_
    refine s_bipush (v := nI 16) hX dX10_right_5 (by decide) ?_
    refine s_icmp_ge (tgt := 19) hX dX10_right_7 (by decide) (fun q7 => ?_) (fun q7 => ?_)
    · refine s_iconst (v := -1) hX dX10_right_19 (by decide) ?_
      refine s_iret hX dX10_right_20 rfl rfl ?_
      first
        | (rw [no1 (Or.inl q1)]; exact ⟨⟨rfl, h⟩, Off.rf⟩)
        | (rw [no1 (Or.inr q7)]; exact ⟨⟨rfl, h⟩, Off.rf⟩)
        | (rw [no2 (Or.inl q11)]; cases rg 0 15 x <;> exact ⟨⟨rfl, h⟩, Off.rf⟩)
        | (rw [no2 (Or.inr (Int32.not_le.mp q16))]; cases rg 0 15 x <;> exact ⟨⟨rfl, h⟩, Off.rf⟩)
    · refine s_iload_n hX dX10_right_10 rfl ?_
      refine s_if_lt (tgt := 19) hX dX10_right_11 (by decide) (fun q11 => ?_) (fun q11 => ?_)
      · refine s_iconst (v := -1) hX dX10_right_19 (by decide) ?_
        refine s_iret hX dX10_right_20 rfl rfl ?_
        first
          | (rw [no1 (Or.inl q1)]; exact ⟨⟨rfl, h⟩, Off.rf⟩)
          | (rw [no1 (Or.inr q7)]; exact ⟨⟨rfl, h⟩, Off.rf⟩)
          | (rw [no2 (Or.inl q11)]; cases rg 0 15 x <;> exact ⟨⟨rfl, h⟩, Off.rf⟩)
          | (rw [no2 (Or.inr (Int32.not_le.mp q16))]; cases rg 0 15 x <;> exact ⟨⟨rfl, h⟩, Off.rf⟩)
      · refine s_iload_n hX dX10_right_14 rfl ?_
        refine s_iconst (v := nI 2) hX dX10_right_15 (by decide) ?_
        refine s_icmp_le (tgt := 21) hX dX10_right_16 (by decide) (fun q16 => ?_) (fun q16 => ?_)
        · obtain ⟨p, hp1, hp4, rfl, hr⟩ := rg_of (lo := 0) (hi := 15) (by decide) (by decide) q1 (fun z => q7 ((nx_suc (by decide)).mp z))
          obtain ⟨q, hq1, hq4, rfl, hr2⟩ := rg_of (lo := 0) (hi := 2) (by decide) (by decide) q11 (Int32.not_lt.mpr q16)
          rw [hr, hr2]
          refine s_aload_n hX dX10_right_21 rfl ?_
          refine s_getR hX dX10_right_22 fl_X10_12 rfl rfl (by omega) ?_
          refine s_iload_n hX dX10_right_25 rfl ?_
          refine s_iload_n hX dX10_right_26 rfl ?_
          refine s_callVi (as := [_, _]) hX dX10_right_27 mk_X6_setRight lk_X10_74 (c_X6_setRight hn h.1 p q (by omega)) rfl (by omega) rfl rfl rfl ⟨rfl, rfl⟩ (Nat.le_of_ble_eq_true rfl) (Nat.le_of_ble_eq_true rfl) (Nat.le_of_ble_eq_true rfl) rfl (fun v27 σ27 p27 => ?_)
          obtain ⟨rfl, p27a, p27b⟩ := p27
          refine s_istore_n hX dX10_right_30 (Nat.le_of_ble_eq_true rfl) rfl st_4_3 ?_
          refine s_aload_n hX dX10_right_31 rfl ?_
          refine s_callVv (as := []) hX dX10_right_32 mk_X10_beginAnew lk_X10_67 (c_X10_beginAnew hn p27a hk.1.2) rfl (by omega) rfl rfl rfl ⟨rfl, rfl⟩ (Nat.le_of_ble_eq_true rfl) (Nat.le_of_ble_eq_true rfl) (Nat.le_of_ble_eq_true rfl) rfl (fun σ32 p32 => ?_)
          refine s_iload_n hX dX10_right_35 rfl ?_
          refine s_iret hX dX10_right_36 rfl rfl ?_
          exact ⟨⟨rfl, p32.1⟩, (p27b.mono2 (by decide)).trans (p32.2.mono2 (by decide))⟩
        · refine s_iconst (v := -1) hX dX10_right_19 (by decide) ?_
          refine s_iret hX dX10_right_20 rfl rfl ?_
          first
            | (rw [no1 (Or.inl q1)]; exact ⟨⟨rfl, h⟩, Off.rf⟩)
            | (rw [no1 (Or.inr q7)]; exact ⟨⟨rfl, h⟩, Off.rf⟩)
            | (rw [no2 (Or.inl q11)]; cases rg 0 15 x <;> exact ⟨⟨rfl, h⟩, Off.rf⟩)
            | (rw [no2 (Or.inr (Int32.not_le.mp q16))]; cases rg 0 15 x <;> exact ⟨⟨rfl, h⟩, Off.rf⟩)
theorem plF_sm {x : Int32} {a : Nat} (h : plF x = some a) : ∃ w, w < 2 ^ 31 ∧ x = nI w ∧ a < 2048 := by
  by_cases h0 : x < 0
  · unfold plF at h; rw [if_pos h0] at h; cases h
  · obtain ⟨w, hw, rfl⟩ := nI_of h0
    rw [plF_n hw] at h
    split at h
    · cases h
    · cases h
      exact ⟨w, hw, rfl, by omega⟩
set_option maxRecDepth 100000 in
set_option maxHeartbeats 4000000 in
theorem c_X10_row {n : Nat} {σ : Sg} {pr : Pr} {v : Vc} {ch : Bool} (hn : 53 ≤ n) (h : ClS σ pr v ch) (hk : PrOk pr) (x y z : Int32) : Sm n mX10_row [.ref 0, .int x, .int y, .int z] σ (qi fun r σ2 => (match plF x with
    | none => r = -1 ∧ ClS σ2 pr v ch
    | some a => if 8 < x.toNatClampNeg % 16 then r = -1 ∧ ClS σ2 pr v ch else r = nI (isN (pAm pr a)) ∧ ClS σ2 (rowF pr a (x.toNatClampNeg % 16) y z) v0 true) ∧ Off σ σ2 clL) := by
  refine Sm.of mk_X10_row (Nat.le_of_ble_eq_true rfl) rfl (fun X hX => ?_)
  obtain ⟨pl, hpl⟩ : ∃ q, plF x = q := ⟨_, rfl⟩
  cases pl with
  | none =>
    refine s_iload_n hX dX10_row_0 rfl ?_
    refine s_callSi (as := [_]) hX dX10_row_1 mk_X10_placeOf lk_X10_77 (c_X10_placeOf x) rfl ⟨rfl, rfl⟩ (Nat.le_of_ble_eq_true rfl) (Nat.le_of_ble_eq_true rfl) (Nat.le_of_ble_eq_true rfl) rfl (fun v1 σ1 p1 => ?_)
    obtain ⟨rfl, ep⟩ := p1
    replace ep := ep.symm
    subst ep
    rw [hpl]
    rw [show amv none = -1 from rfl]
    refine s_istore hX dX10_row_4 (Nat.le_of_ble_eq_true rfl) rfl st_7_4 ?_
    refine s_iload_n hX dX10_row_6 rfl ?_
    refine s_bipush (v := nI 15) hX dX10_row_7 (by decide) ?_
    refine s_iand hX dX10_row_9 ?_
    refine s_istore hX dX10_row_10 (Nat.le_of_ble_eq_true rfl) rfl st_7_5 ?_
    refine s_iload hX dX10_row_12 rfl ?_
    refine s_iconst (v := -1) hX dX10_row_14 (by decide) ?_
    refine s_icmp_eq (tgt := 25) hX dX10_row_15 (by decide) (fun q15 => ?_) (fun q15 => ?_)
    · refine s_iconst (v := -1) hX dX10_row_25 (by decide) ?_
      refine s_iret hX dX10_row_26 rfl rfl ?_
      exact ⟨⟨rfl, h⟩, Off.rf⟩
    · exact absurd rfl q15
  | some a =>
    obtain ⟨w, hw, rfl, ha⟩ := plF_sm hpl
    have e16 : w &&& 15 = w % 16 := am _ 4
    rw [hpl, nI_clamp hw]
    dsimp only
    refine s_iload_n hX dX10_row_0 rfl ?_
    refine s_callSi (as := [_]) hX dX10_row_1 mk_X10_placeOf lk_X10_77 (c_X10_placeOf _) rfl ⟨rfl, rfl⟩ (Nat.le_of_ble_eq_true rfl) (Nat.le_of_ble_eq_true rfl) (Nat.le_of_ble_eq_true rfl) rfl (fun v1 σ1 p1 => ?_)
    obtain ⟨rfl, ep⟩ := p1
    replace ep := ep.symm
    subst ep
    rw [hpl]
    rw [show amv (some a) = nI a from rfl]
    refine s_istore hX dX10_row_4 (Nat.le_of_ble_eq_true rfl) rfl st_7_4 ?_
    refine s_iload_n hX dX10_row_6 rfl ?_
    refine s_bipush (v := nI 15) hX dX10_row_7 (by decide) ?_
    refine s_iand_n hX dX10_row_9 ?_
    rw [e16]
    refine s_istore hX dX10_row_10 (Nat.le_of_ble_eq_true rfl) rfl st_7_5 ?_
    refine s_iload hX dX10_row_12 rfl ?_
    refine s_iconst (v := -1) hX dX10_row_14 (by decide) ?_
    refine s_icmp_eq (tgt := 25) hX dX10_row_15 (by decide) (fun q15 => ?_) (fun q15 => ?_)
    · exact absurd q15 (nI_nm1 (by omega))
    · refine s_iload hX dX10_row_18 rfl ?_
      refine s_bipush (v := nI 8) hX dX10_row_20 (by decide) ?_
      refine s_icmp_le_n (tgt := 27) hX dX10_row_22 (by decide) (by omega) (by omega) (fun q22 => ?_) (fun q22 => ?_)
      · refine s_aload_n hX dX10_row_27 rfl ?_
        refine s_getR hX dX10_row_28 fl_X10_12 rfl rfl (by omega) ?_
        refine s_iload hX dX10_row_31 rfl ?_
        refine s_iload hX dX10_row_33 rfl ?_
        refine s_iload_n hX dX10_row_35 rfl ?_
        refine s_iload_n hX dX10_row_36 rfl ?_
        refine s_callVi (as := [_, _, _, _]) hX dX10_row_37 mk_X6_putRow lk_X10_80 (c_X6_putRow hn h.1 hk a (w % 16) y z ha (by omega)) rfl (by omega) rfl rfl rfl ⟨rfl, rfl⟩ (Nat.le_of_ble_eq_true rfl) (Nat.le_of_ble_eq_true rfl) (Nat.le_of_ble_eq_true rfl) rfl (fun v37 σ37 p37 => ?_)
        obtain ⟨rfl, p37a, p37b⟩ := p37
        refine s_istore hX dX10_row_40 (Nat.le_of_ble_eq_true rfl) rfl st_7_6 ?_
        refine s_aload_n hX dX10_row_42 rfl ?_
        refine s_callVv (as := []) hX dX10_row_43 mk_X10_beginAnew lk_X10_67 (c_X10_beginAnew hn p37a hk.1.2) rfl (by omega) rfl rfl rfl ⟨rfl, rfl⟩ (Nat.le_of_ble_eq_true rfl) (Nat.le_of_ble_eq_true rfl) (Nat.le_of_ble_eq_true rfl) rfl (fun σ43 p43 => ?_)
        refine s_iload hX dX10_row_46 rfl ?_
        refine s_iret hX dX10_row_48 rfl rfl ?_
        rw [if_neg (by omega)]
        exact ⟨⟨rfl, p43.1⟩, (p37b.mono2 (by decide)).trans (p43.2.mono2 (by decide))⟩
      · refine s_iconst (v := -1) hX dX10_row_25 (by decide) ?_
        refine s_iret hX dX10_row_26 rfl rfl ?_
        rw [if_pos (by omega)]
        exact ⟨⟨rfl, h⟩, Off.rf⟩
set_option maxRecDepth 100000 in
set_option maxHeartbeats 4000000 in
theorem c_X10_tear {n : Nat} {σ : Sg} {pr : Pr} {v : Vc} {ch : Bool} (hn : 53 ≤ n) (h : ClS σ pr v ch) (hk : PrOk pr) (x : Int32) : Sm n mX10_tear [.ref 0, .int x] σ (qi fun r σ2 => (match plF x with
    | none => r = -1 ∧ ClS σ2 pr v ch
    | some a => r = nI (isN (pAm pr a)) ∧ ClS σ2 (tearF pr a) v0 true) ∧ Off σ σ2 clL) := by
  refine Sm.of mk_X10_tear (Nat.le_of_ble_eq_true rfl) rfl (fun X hX => ?_)
  obtain ⟨pl, hpl⟩ : ∃ q, plF x = q := ⟨_, rfl⟩
  rw [hpl]
  cases pl with
  | none =>
    refine s_iload_n hX dX10_tear_0 rfl ?_
    refine s_callSi (as := [_]) hX dX10_tear_1 mk_X10_placeOf lk_X10_77 (c_X10_placeOf x) rfl ⟨rfl, rfl⟩ (Nat.le_of_ble_eq_true rfl) (Nat.le_of_ble_eq_true rfl) (Nat.le_of_ble_eq_true rfl) rfl (fun v1 σ1 p1 => ?_)
    obtain ⟨rfl, ep⟩ := p1
    replace ep := ep.symm
    subst ep
    rw [hpl]
    rw [show amv none = -1 from rfl]
    refine s_istore_n hX dX10_tear_4 (Nat.le_of_ble_eq_true rfl) rfl st_4_2 ?_
    refine s_iload_n hX dX10_tear_5 rfl ?_
    refine s_iconst (v := -1) hX dX10_tear_6 (by decide) ?_
    refine s_icmp_ne (tgt := 12) hX dX10_tear_7 (by decide) (fun q7 => ?_) (fun q7 => ?_)
    · exact absurd rfl q7
    · refine s_iconst (v := -1) hX dX10_tear_10 (by decide) ?_
      refine s_iret hX dX10_tear_11 rfl rfl ?_
      exact ⟨⟨rfl, h⟩, Off.rf⟩
  | some a =>
    obtain ⟨w, hw, rfl, ha⟩ := plF_sm hpl
    refine s_iload_n hX dX10_tear_0 rfl ?_
    refine s_callSi (as := [_]) hX dX10_tear_1 mk_X10_placeOf lk_X10_77 (c_X10_placeOf _) rfl ⟨rfl, rfl⟩ (Nat.le_of_ble_eq_true rfl) (Nat.le_of_ble_eq_true rfl) (Nat.le_of_ble_eq_true rfl) rfl (fun v1 σ1 p1 => ?_)
    obtain ⟨rfl, ep⟩ := p1
    replace ep := ep.symm
    subst ep
    rw [hpl]
    rw [show amv (some a) = nI a from rfl]
    refine s_istore_n hX dX10_tear_4 (Nat.le_of_ble_eq_true rfl) rfl st_4_2 ?_
    refine s_iload_n hX dX10_tear_5 rfl ?_
    refine s_iconst (v := -1) hX dX10_tear_6 (by decide) ?_
    refine s_icmp_ne (tgt := 12) hX dX10_tear_7 (by decide) (fun q7 => ?_) (fun q7 => ?_)
    · refine s_aload_n hX dX10_tear_12 rfl ?_
      refine s_getR hX dX10_tear_13 fl_X10_12 rfl rfl (by omega) ?_
      refine s_iload_n hX dX10_tear_16 rfl ?_
      refine s_callVi (as := [_]) hX dX10_tear_17 mk_X6_dropRow lk_X10_84 (c_X6_dropRow hn h.1 hk a ha) rfl (by omega) rfl rfl rfl ⟨rfl, rfl⟩ (Nat.le_of_ble_eq_true rfl) (Nat.le_of_ble_eq_true rfl) (Nat.le_of_ble_eq_true rfl) rfl (fun v17 σ17 p17 => ?_)
      obtain ⟨rfl, p17a, p17b⟩ := p17
      refine s_istore_n hX dX10_tear_20 (Nat.le_of_ble_eq_true rfl) rfl st_4_3 ?_
      refine s_aload_n hX dX10_tear_21 rfl ?_
      refine s_callVv (as := []) hX dX10_tear_22 mk_X10_beginAnew lk_X10_67 (c_X10_beginAnew hn p17a hk.1.2) rfl (by omega) rfl rfl rfl ⟨rfl, rfl⟩ (Nat.le_of_ble_eq_true rfl) (Nat.le_of_ble_eq_true rfl) (Nat.le_of_ble_eq_true rfl) rfl (fun σ22 p22 => ?_)
      refine s_iload_n hX dX10_tear_25 rfl ?_
      refine s_iret hX dX10_tear_26 rfl rfl ?_
      exact ⟨⟨rfl, p22.1⟩, (p17b.mono2 (by decide)).trans (p22.2.mono2 (by decide))⟩
    · exact absurd (Classical.not_not.mp q7) (nI_nm1 (by omega))
set_option maxRecDepth 100000 in
set_option maxHeartbeats 4000000 in
theorem c_X10_rows {n : Nat} {σ : Sg} {pr : Pr} {v : Vc} {ch : Bool} (hn : 53 ≤ n) (h : ClS σ pr v ch) (hk : PrOk pr) (x : Int32) : Sm n mX10_rows [.ref 0, .int x] σ (qi fun r σ2 => r = (match rg 0 1 x with
    | none => -1
    | some s => nI (cnR (pAm pr) (1024 * s) 1024)) ∧ σ2 = σ) := by
  refine Sm.of mk_X10_rows (Nat.le_of_ble_eq_true rfl) rfl (fun X hX => ?_)
  refine s_iload_n hX dX10_rows_0 rfl ?_
  refine s_if_lt (tgt := 9) hX dX10_rows_1 (by decide) (fun q1 => ?_) (fun q1 => ?_)
  · refine s_iconst (v := -1) hX dX10_rows_9 (by decide) ?_
    refine s_iret hX dX10_rows_10 rfl rfl ?_
    rw [rg_no (by first | exact Or.inl q1 | exact Or.inr ((nx_suc (by decide)).mpr (Int32.not_lt.mp q6)))]
    exact ⟨rfl, rfl⟩
  · refine s_iload_n hX dX10_rows_4 rfl ?_
    refine s_iconst (v := nI 2) hX dX10_rows_5 (by decide) ?_
    refine s_icmp_lt (tgt := 11) hX dX10_rows_6 (by decide) (fun q6 => ?_) (fun q6 => ?_)
    · obtain ⟨p, hp1, hp4, rfl, hr⟩ := rg_of (lo := 0) (hi := 1) (by decide) (by decide) q1 (fun z => Int32.not_le.mpr q6 ((nx_suc (by decide)).mp z))
      rw [hr]
      refine s_aload_n hX dX10_rows_11 rfl ?_
      refine s_getR hX dX10_rows_12 fl_X10_12 rfl rfl (by omega) ?_
      refine s_iload_n hX dX10_rows_15 rfl ?_
      refine s_callVi (as := [_]) hX dX10_rows_16 mk_X6_countRows lk_X10_87 (c_X6_countRows hn h.1 p (by omega)) rfl (by omega) rfl rfl rfl ⟨rfl, rfl⟩ (Nat.le_of_ble_eq_true rfl) (Nat.le_of_ble_eq_true rfl) (Nat.le_of_ble_eq_true rfl) rfl (fun v16 σ16 p16 => ?_)
      obtain ⟨rfl, ep⟩ := p16
      replace ep := ep.symm
      subst ep
      refine s_iret hX dX10_rows_19 rfl rfl ?_
      exact ⟨rfl, rfl⟩
    · refine s_iconst (v := -1) hX dX10_rows_9 (by decide) ?_
      refine s_iret hX dX10_rows_10 rfl rfl ?_
      rw [rg_no (by first | exact Or.inl q1 | exact Or.inr ((nx_suc (by decide)).mpr (Int32.not_lt.mp q6)))]
      exact ⟨rfl, rfl⟩
set_option maxRecDepth 100000 in
set_option maxHeartbeats 4000000 in
theorem c_X10_reset {n : Nat} {σ : Sg} {pr : Pr} {v : Vc} {ch : Bool} (hn : 53 ≤ n) (h : ClS σ pr v ch) (hk : PrOk pr) : Sm n mX10_reset [.ref 0] σ (qi fun r σ2 => r = nI (stepsF pr v0).length ∧ ClS σ2 pr v0 ch ∧ Off σ σ2 clL) := by
  refine Sm.of mk_X10_reset (Nat.le_of_ble_eq_true rfl) rfl (fun X hX => ?_)
  refine s_aload_n hX dX10_reset_0 rfl ?_
  refine s_getR hX dX10_reset_1 fl_X10_28 rfl rfl (by omega) ?_
  refine s_aload_n hX dX10_reset_4 rfl ?_
  refine s_getR hX dX10_reset_5 fl_X10_12 rfl rfl (by omega) ?_
  refine s_callVi (as := []) hX dX10_reset_8 mk_X6_home lk_X10_55 (c_X6_home hn h.1) rfl (by omega) rfl rfl rfl ⟨rfl, rfl⟩ (Nat.le_of_ble_eq_true rfl) (Nat.le_of_ble_eq_true rfl) (Nat.le_of_ble_eq_true rfl) rfl (fun v8 σ8 p8 => ?_)
  obtain ⟨rfl, ep⟩ := p8
  replace ep := ep.symm
  subst ep
  refine s_callVv (as := [_]) hX dX10_reset_11 mk_X7_begin lk_X10_59 (c_X7_begin (is10 hn) hk.1.2) rfl (by omega) rfl rfl rfl ⟨rfl, rfl⟩ (Nat.le_of_ble_eq_true rfl) (Nat.le_of_ble_eq_true rfl) (Nat.le_of_ble_eq_true rfl) rfl (fun σ11 p11 => ?_)
  obtain ⟨p11a, p11b⟩ := p11
  have h2 : ClS σ11 pr v0 ch := ⟨h.1.off2 p11b (by decide), p11a, by rw [p11b 0 (by decide)]; exact h.2.2⟩
  refine s_aload_n hX dX10_reset_14 rfl ?_
  refine s_callVi (as := []) hX dX10_reset_15 mk_X10_countChoices lk_X10_90 (c_X10_countChoices hn h2 hk (VOk_v0 hk.1.2) (Srt_v0 pr)) rfl (by omega) rfl rfl rfl ⟨rfl, rfl⟩ (Nat.le_of_ble_eq_true rfl) (Nat.le_of_ble_eq_true rfl) (Nat.le_of_ble_eq_true rfl) rfl (fun v15 σ15 p15 => ?_)
  obtain ⟨rfl, c1, c2, c3⟩ := p15
  refine s_iret hX dX10_reset_18 rfl rfl ?_
  exact ⟨rfl, c2, (p11b.mono2 (by decide)).trans (c3.mono2 (by decide))⟩
set_option maxRecDepth 100000 in
set_option maxHeartbeats 4000000 in
theorem c_X10_steps {n : Nat} {σ : Sg} {pr : Pr} {v : Vc} {ch : Bool} (hn : 53 ≤ n) (h : ClS σ pr v ch) (hk : PrOk pr) (hv : VOk pr v) (hr : Srt pr v) : Sm n mX10_steps [.ref 0] σ (qi fun r σ2 => r = nI (stepsF pr v).length ∧ ClS σ2 pr v ch ∧ Off σ σ2 clL) := by
  refine Sm.of mk_X10_steps (Nat.le_of_ble_eq_true rfl) rfl (fun X hX => ?_)
  refine s_aload_n hX dX10_steps_0 rfl ?_
  refine s_callVi (as := []) hX dX10_steps_1 mk_X10_countChoices lk_X10_90 (c_X10_countChoices hn h hk hv hr) rfl (by omega) rfl rfl rfl ⟨rfl, rfl⟩ (Nat.le_of_ble_eq_true rfl) (Nat.le_of_ble_eq_true rfl) (Nat.le_of_ble_eq_true rfl) rfl (fun v1 σ1 p1 => ?_)
  obtain ⟨rfl, c1, c2, c3⟩ := p1
  refine s_iret hX dX10_steps_4 rfl rfl ?_
  exact ⟨rfl, c2, c3.mono2 (by decide)⟩
set_option maxRecDepth 100000 in
set_option maxHeartbeats 4000000 in
theorem c_X10_step {n : Nat} {σ : Sg} {pr : Pr} {v : Vc} {ch : Bool} (hn : 53 ≤ n) (h : ClS σ pr v ch) (hk : PrOk pr) (hv : VOk pr v) (hr : Srt pr v) (x y : Int32) : Sm n mX10_step [.ref 0, .int x, .int y] σ (qi fun r σ2 => r = stpF (stepsF pr v) x y ∧ ClS σ2 pr v ch ∧ Off σ σ2 clL) := by
  refine Sm.of mk_X10_step (Nat.le_of_ble_eq_true rfl) rfl (fun X hX => ?_)
  have h20 := stepsF_le hk hv
  refine s_iload_n hX dX10_step_0 rfl ?_
  refine s_if_lt (tgt := 12) hX dX10_step_1 (by decide) (fun q1 => ?_) (fun q1 => ?_)
  · refine s_iconst (v := -1) hX dX10_step_12 (by decide) ?_
    refine s_iret hX dX10_step_13 rfl rfl ?_
    first
      | exact ⟨by unfold stpF; rw [if_pos (Or.inl q1)], h, Off.rf⟩
      | exact ⟨by unfold stpF; rw [if_pos (Or.inr (Or.inl (Int32.not_lt.mp q9)))], c2, c3.mono2 (by decide)⟩
  · refine s_iload_n hX dX10_step_4 rfl ?_
    refine s_aload_n hX dX10_step_5 rfl ?_
    refine s_callVi (as := []) hX dX10_step_6 mk_X10_countChoices lk_X10_90 (c_X10_countChoices hn h hk hv hr) rfl (by omega) rfl rfl rfl ⟨rfl, rfl⟩ (Nat.le_of_ble_eq_true rfl) (Nat.le_of_ble_eq_true rfl) (Nat.le_of_ble_eq_true rfl) rfl (fun v6 σ6 p6 => ?_)
    obtain ⟨rfl, c1, c2, c3⟩ := p6
    refine s_icmp_lt (tgt := 14) hX dX10_step_9 (by decide) (fun q9 => ?_) (fun q9 => ?_)
    · obtain ⟨i, hi, rfl⟩ := ix_of (m := (stepsF pr v).length) (by omega) q1 (Int32.not_le.mpr q9)
      obtain ⟨s, hs⟩ : ∃ s, (stepsF pr v)[i]? = some s := ⟨_, List.getElem?_eq_getElem hi⟩
      have hE : stpF (stepsF pr v) (nI i) y = if y = nI 0 then nI s.1 else if y = nI 1 then nI s.2.1 else if y = nI 2 then frI s else -1 := by
        unfold stpF
        by_cases y0 : y < 0
        · rw [if_pos (Or.inr (Or.inr (Or.inl y0))), if_neg (fun e => by subst e; exact absurd y0 (by decide)), if_neg (fun e => by subst e; exact absurd y0 (by decide)), if_neg (fun e => by subst e; exact absurd y0 (by decide))]
        by_cases y2 : nI 2 < y
        · rw [if_pos (Or.inr (Or.inr (Or.inr y2))), if_neg (fun e => by subst e; exact absurd y2 (by decide)), if_neg (fun e => by subst e; exact absurd y2 (by decide)), if_neg (fun e => by subst e; exact absurd y2 (by decide))]
        obtain ⟨k, hk2, rfl⟩ := ixl_of (m := 2) (by decide) y0 y2
        rw [if_neg (by
          intro q; rcases q with q | q | q | q
          · exact q1 q
          · exact Int32.not_le.mpr q9 q
          · exact y0 q
          · exact y2 q), nI_clamp (by omega), hs]
        rcases (show k = 0 ∨ k = 1 ∨ k = 2 by omega) with rfl | rfl | rfl <;> rfl
      rw [hE]
      refine s_iload_n hX dX10_step_14 rfl ?_
      by_cases k15_0 : y = nI 0
      · refine s_tableIn (off := 25) (tgt := 40) hX dX10_step_15 (by rw [k15_0]; decide) (by rw [k15_0]; decide) (by rw [k15_0]; decide) (by decide) ?_
        refine s_aload_n hX dX10_step_40 rfl ?_
        refine s_getR hX dX10_step_41 fl_X10_38 rfl rfl (by omega) ?_
        refine s_iload_n hX dX10_step_44 rfl ?_
        refine s_callVi (as := [_]) hX dX10_step_45 mk_X9_endOf lk_X10_93 (c_X9_endOf (il14 hn) c1 i (by omega) s hs) rfl (by omega) rfl rfl rfl ⟨rfl, rfl⟩ (Nat.le_of_ble_eq_true rfl) (Nat.le_of_ble_eq_true rfl) (Nat.le_of_ble_eq_true rfl) rfl (fun v45 σ45 p45 => ?_)
        obtain ⟨rfl, ep⟩ := p45
        replace ep := ep.symm
        subst ep
        refine s_iret hX dX10_step_48 rfl rfl ?_
        exact ⟨by rw [if_pos k15_0], c2, c3.mono2 (by decide)⟩
      by_cases k15_1 : y = nI 1
      · refine s_tableIn (off := 34) (tgt := 49) hX dX10_step_15 (by rw [k15_1]; decide) (by rw [k15_1]; decide) (by rw [k15_1]; decide) (by decide) ?_
        refine s_aload_n hX dX10_step_49 rfl ?_
        refine s_getR hX dX10_step_50 fl_X10_38 rfl rfl (by omega) ?_
        refine s_iload_n hX dX10_step_53 rfl ?_
        refine s_callVi (as := [_]) hX dX10_step_54 mk_X9_eventOf lk_X10_96 (c_X9_eventOf (il14 hn) c1 i (by omega) s hs) rfl (by omega) rfl rfl rfl ⟨rfl, rfl⟩ (Nat.le_of_ble_eq_true rfl) (Nat.le_of_ble_eq_true rfl) (Nat.le_of_ble_eq_true rfl) rfl (fun v54 σ54 p54 => ?_)
        obtain ⟨rfl, ep⟩ := p54
        replace ep := ep.symm
        subst ep
        refine s_iret hX dX10_step_57 rfl rfl ?_
        exact ⟨by rw [if_neg k15_0, if_pos k15_1], c2, c3.mono2 (by decide)⟩
      by_cases k15_2 : y = nI 2
      · refine s_tableIn (off := 43) (tgt := 58) hX dX10_step_15 (by rw [k15_2]; decide) (by rw [k15_2]; decide) (by rw [k15_2]; decide) (by decide) ?_
        refine s_aload_n hX dX10_step_58 rfl ?_
        refine s_getR hX dX10_step_59 fl_X10_38 rfl rfl (by omega) ?_
        refine s_iload_n hX dX10_step_62 rfl ?_
        refine s_callVi (as := [_]) hX dX10_step_63 mk_X9_senderOf lk_X10_99 (c_X9_senderOf (il14 hn) c1 i (by omega) s hs) rfl (by omega) rfl rfl rfl ⟨rfl, rfl⟩ (Nat.le_of_ble_eq_true rfl) (Nat.le_of_ble_eq_true rfl) (Nat.le_of_ble_eq_true rfl) rfl (fun v63 σ63 p63 => ?_)
        obtain ⟨rfl, ep⟩ := p63
        replace ep := ep.symm
        subst ep
        refine s_iret hX dX10_step_66 rfl rfl ?_
        exact ⟨by rw [if_neg k15_0, if_neg k15_1, if_pos k15_2], c2, c3.mono2 (by decide)⟩
      refine s_tableOut (tgt := 67) hX dX10_step_15 (by exact sw_out3 k15_0 k15_1 k15_2) (by decide) ?_
      refine s_iconst (v := -1) hX dX10_step_67 (by decide) ?_
      refine s_iret hX dX10_step_68 rfl rfl ?_
      exact ⟨by rw [if_neg k15_0, if_neg k15_1, if_neg k15_2], c2, c3.mono2 (by decide)⟩
    · refine s_iconst (v := -1) hX dX10_step_12 (by decide) ?_
      refine s_iret hX dX10_step_13 rfl rfl ?_
      first
        | exact ⟨by unfold stpF; rw [if_pos (Or.inl q1)], h, Off.rf⟩
        | exact ⟨by unfold stpF; rw [if_pos (Or.inr (Or.inl (Int32.not_lt.mp q9)))], c2, c3.mono2 (by decide)⟩
set_option maxRecDepth 100000 in
set_option maxHeartbeats 4000000 in
theorem c_X10_choose {n : Nat} {σ : Sg} {pr : Pr} {v : Vc} {ch : Bool} (hn : 53 ≤ n) (h : ClS σ pr v ch) (hk : PrOk pr) (hv : VOk pr v) (hr : Srt pr v) (x : Int32) : Sm n mX10_choose [.ref 0, .int x] σ (qi fun r σ2 => r = (chF pr v x).1 ∧ ClS σ2 pr (chF pr v x).2 ch ∧ Off σ σ2 clL) := by
  refine Sm.of mk_X10_choose (Nat.le_of_ble_eq_true rfl) rfl (fun X hX => ?_)
  have h20 := stepsF_le hk hv
  refine s_iload_n hX dX10_choose_0 rfl ?_
  refine s_if_lt (tgt := 12) hX dX10_choose_1 (by decide) (fun q1 => ?_) (fun q1 => ?_)
  · refine s_iconst (v := -1) hX dX10_choose_12 (by decide) ?_
    refine s_iret hX dX10_choose_13 rfl rfl ?_
    first
      | exact ⟨by unfold chF; rw [if_pos (Or.inl q1)], by unfold chF; rw [if_pos (Or.inl q1)]; exact h, Off.rf⟩
      | exact ⟨by unfold chF; rw [if_pos (Or.inr (Int32.not_lt.mp q9))], by unfold chF; rw [if_pos (Or.inr (Int32.not_lt.mp q9))]; exact c2, c3.mono2 (by decide)⟩
  · refine s_iload_n hX dX10_choose_4 rfl ?_
    refine s_aload_n hX dX10_choose_5 rfl ?_
    refine s_callVi (as := []) hX dX10_choose_6 mk_X10_countChoices lk_X10_90 (c_X10_countChoices hn h hk hv hr) rfl (by omega) rfl rfl rfl ⟨rfl, rfl⟩ (Nat.le_of_ble_eq_true rfl) (Nat.le_of_ble_eq_true rfl) (Nat.le_of_ble_eq_true rfl) rfl (fun v6 σ6 p6 => ?_)
    obtain ⟨rfl, c1, c2, c3⟩ := p6
    refine s_icmp_lt (tgt := 14) hX dX10_choose_9 (by decide) (fun q9 => ?_) (fun q9 => ?_)
    · obtain ⟨i, hi, rfl⟩ := ix_of (m := (stepsF pr v).length) (by omega) q1 (Int32.not_le.mpr q9)
      obtain ⟨s, hs⟩ : ∃ s, (stepsF pr v)[i]? = some s := ⟨_, List.getElem?_eq_getElem hi⟩
      have hmem := List.mem_of_getElem? hs
      have hok := stepsF_ok hv hmem
      have hdl := doF_le pr v s
      have hE : chF pr v (nI i) = (nI (doF pr v s).1, if (doF pr v s).1 = 0 then (doF pr v s).2.2 else v) := by
        unfold chF
        rw [if_neg (cmp_no (by omega) hi rfl), nI_clamp (by omega), hs]
      rw [hE]
      refine s_aload_n hX dX10_choose_14 rfl ?_
      refine s_getR hX dX10_choose_15 fl_X10_32 rfl rfl (by omega) ?_
      refine s_aload_n hX dX10_choose_18 rfl ?_
      refine s_getR hX dX10_choose_19 fl_X10_28 rfl rfl (by omega) ?_
      refine s_callVv (as := [_]) hX dX10_choose_22 mk_X7_copy lk_X10_102 (c_X7_copy (is12 hn) (is10 hn) (Or.inr (by decide)) c2.2.1) rfl (by omega) rfl rfl rfl ⟨rfl, rfl⟩ (Nat.le_of_ble_eq_true rfl) (Nat.le_of_ble_eq_true rfl) (Nat.le_of_ble_eq_true rfl) rfl (fun σ22 p22 => ?_)
      obtain ⟨d1, d2⟩ := p22
      refine s_aload_n hX dX10_choose_25 rfl ?_
      refine s_getR hX dX10_choose_26 fl_X10_21 rfl rfl (by omega) ?_
      refine s_aload_n hX dX10_choose_29 rfl ?_
      refine s_getR hX dX10_choose_30 fl_X10_32 rfl rfl (by omega) ?_
      refine s_aload_n hX dX10_choose_33 rfl ?_
      refine s_getR hX dX10_choose_34 fl_X10_38 rfl rfl (by omega) ?_
      refine s_iload_n hX dX10_choose_37 rfl ?_
      refine s_callVi (as := [_, _, _]) hX dX10_choose_38 mk_X0_perform lk_X10_106 (c_X0_perform hn (is12 hn) (by decide) d1 (c2.1.off2 d2 (by decide)) hk hv hr (il14 hn) (by decide) (c1.kept (fun a q1 q2 => d2.out2 (by omega))) hs (by omega) hok (steps_want hmem)) rfl (by omega) rfl rfl rfl ⟨rfl, rfl⟩ (Nat.le_of_ble_eq_true rfl) (Nat.le_of_ble_eq_true rfl) (Nat.le_of_ble_eq_true rfl) rfl (fun v38 σ38 p38 => ?_)
      obtain ⟨rfl, e1, e2⟩ := p38
      have hO : Off σ σ38 clL := ((c3.mono2 (by decide)).trans (d2.mono2 (by decide))).trans (e2.mono2 (by decide))
      have eP : PrC σ38 pr := (c2.1.off2 d2 (by decide)).off2 e2 (by decide)
      have e0 : (σ38 0).1 6 = bI (!ch) := by rw [e2 0 (by decide), d2 0 (by decide)]; exact c2.2.2
      have e10 : ScC pr σ38 10 v := c2.2.1.kept (by rw [e2 10 (by decide), d2 10 (by decide)]) (by rw [e2 11 (by decide), d2 11 (by decide)])
      refine s_istore_n hX dX10_choose_41 (Nat.le_of_ble_eq_true rfl) rfl st_3_2 ?_
      refine s_iload_n hX dX10_choose_42 rfl ?_
      refine s_if_ne_n (tgt := 57) hX dX10_choose_43 (by decide) (by omega) (fun q43 => ?_) (fun q43 => ?_)
      · refine s_iload_n hX dX10_choose_57 rfl ?_
        refine s_iret hX dX10_choose_58 rfl rfl ?_
        first
          | exact ⟨rfl, by rw [if_neg q43]; exact ⟨eP, e10, e0⟩, hO⟩
          | exact ⟨rfl, by rw [if_pos q43]; exact ⟨eP.off2 p54.2 (by decide), p54.1, by rw [p54.2 0 (by decide)]; exact e0⟩, hO.trans (p54.2.mono2 (by decide))⟩
      · refine s_aload_n hX dX10_choose_46 rfl ?_
        refine s_getR hX dX10_choose_47 fl_X10_28 rfl rfl (by omega) ?_
        refine s_aload_n hX dX10_choose_50 rfl ?_
        refine s_getR hX dX10_choose_51 fl_X10_32 rfl rfl (by omega) ?_
        refine s_callVv (as := [_]) hX dX10_choose_54 mk_X7_copy lk_X10_102 (c_X7_copy (is10 hn) (is12 hn) (Or.inl (by decide)) (e1 q43)) rfl (by omega) rfl rfl rfl ⟨rfl, rfl⟩ (Nat.le_of_ble_eq_true rfl) (Nat.le_of_ble_eq_true rfl) (Nat.le_of_ble_eq_true rfl) rfl (fun σ54 p54 => ?_)
        refine s_iload_n hX dX10_choose_57 rfl ?_
        refine s_iret hX dX10_choose_58 rfl rfl ?_
        first
          | exact ⟨rfl, by rw [if_neg q43]; exact ⟨eP, e10, e0⟩, hO⟩
          | exact ⟨rfl, by rw [if_pos q43]; exact ⟨eP.off2 p54.2 (by decide), p54.1, by rw [p54.2 0 (by decide)]; exact e0⟩, hO.trans (p54.2.mono2 (by decide))⟩
    · refine s_iconst (v := -1) hX dX10_choose_12 (by decide) ?_
      refine s_iret hX dX10_choose_13 rfl rfl ?_
      first
        | exact ⟨by unfold chF; rw [if_pos (Or.inl q1)], by unfold chF; rw [if_pos (Or.inl q1)]; exact h, Off.rf⟩
        | exact ⟨by unfold chF; rw [if_pos (Or.inr (Int32.not_lt.mp q9))], by unfold chF; rw [if_pos (Or.inr (Int32.not_lt.mp q9))]; exact c2, c3.mono2 (by decide)⟩
