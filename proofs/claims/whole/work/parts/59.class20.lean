/-! ===== the atlas: what it tells ===== -/
theorem WkQ.mono {pr : Pr} {W : Wk} (h : WkQ pr W) : ∀ m m', m ≤ m' → m' < kM W → kF W m ≤ kF W m' := by
  obtain ⟨hk, h⟩ := h
  rcases h with h | ⟨most, h1, h4, h⟩
  · subst h
    intro m m' _ hm; exact absurd hm (Nat.not_lt_zero m')
  · obtain ⟨hok, _⟩ := bfs_ok (most := most) hk h1 4000
    have e : bfsR pr most 4000 = W := h.symm
    rw [e] at hok
    intro m m'
    induction m' using Nat.strongRecOn generalizing m with
    | ind m' ih =>
      intro hm hm2
      by_cases e : m = 0
      · rw [e, hok.2.2.2.2.2.1]; exact Nat.zero_le _
      · obtain ⟨a1, a2, a3, a4⟩ := hok.2.2.2.2.2.2.1 m (by omega) (by omega)
        obtain ⟨b1, b2, b3, b4⟩ := hok.2.2.2.2.2.2.1 m' (by omega) hm2
        have c := hok.2.2.2.2.2.2.2.1 m m' (by omega) hm hm2
        have := ih _ b1 _ c (by omega)
        omega
theorem mxR_last {f : Nat → Nat} : ∀ n, (∀ m m', m ≤ m' → m' < n + 1 → f m ≤ f m') → mxR f (n + 1) = f n
  | 0, h => by
    show (if 0 < f 0 then f 0 else 0) = f 0
    split <;> omega
  | n + 1, h => by
    have ih := mxR_last n (fun m m' a b => h m m' a (by omega))
    have := h n (n + 1) (by omega) (by omega)
    show (if mxR f (n + 1) < f (n + 1) then f (n + 1) else mxR f (n + 1)) = f (n + 1)
    rw [ih]
    split <;> omega
theorem kth_fl (p : Nat → Bool) (i : Nat) : ∀ n, kthR p i n = (flL p n)[i]?
  | 0 => rfl
  | n + 1 => by
    have ih := kth_fl p i n
    have hl := flL_len p n
    unfold kthR flL
    rw [ih]
    by_cases c : i < (flL p n).length
    · rw [List.getElem?_append_left c, List.getElem?_eq_getElem c]
    · rw [List.getElem?_eq_none (by omega), List.getElem?_append_right (by omega)]
      dsimp only
      cases hp : p n with
      | false => simp
      | true =>
        by_cases e : ctR p n = i
        · rw [if_pos ⟨rfl, e⟩, if_pos rfl, show i - (flL p n).length = 0 by omega]; rfl
        · rw [if_neg (fun z => e z.2), if_pos rfl]
          symm
          exact List.getElem?_eq_none (by rw [List.length_singleton]; omega)
theorem nl_kth {p : Nat → Bool} {n : Nat} (hn : n < 2 ^ 31) (y : Int32) : nlA (flL p n) y = if y < 0 then -1 else amv (kthR p y.toNatClampNeg n) := by
  have hl := flL_len p n
  have hc := ctR_le p n
  unfold nlA
  by_cases h0 : y < 0
  · rw [if_pos (Or.inl h0), if_pos h0]
  · rw [if_neg h0, kth_fl]
    by_cases h1 : nI (flL p n).length ≤ y
    · rw [if_pos (Or.inr h1)]
      obtain ⟨i, hi, rfl⟩ := nI_of h0
      rw [nx_le (by omega) hi] at h1
      rw [nI_clamp hi, List.getElem?_eq_none h1]; rfl
    · rw [if_neg (fun z => z.elim h0 h1)]
set_option maxRecDepth 100000 in
set_option maxHeartbeats 4000000 in
theorem c_X1_greatestDepth {n : Nat} {σ : Sg} {pr : Pr} {W : Wk} (hn : 53 ≤ n) (h : AtE pr σ W) (hq : WkQ pr W) : Sm n mX1_greatestDepth [.ref 20] σ (qi fun r σ2 => r = nI (mxR (kF W) (kM W)) ∧ σ2 = σ) := by
  refine Sm.of mk_X1_greatestDepth (Nat.le_of_ble_eq_true rfl) rfl (fun X hX => ?_)
  obtain ⟨hM4, hB30, hT8, hF, hPa, hF0, hBt⟩ := hq.all
  refine s_aload_n hX dX1_greatestDepth_0 rfl ?_
  refine s_getR hX dX1_greatestDepth_1 fl_X1_41 rfl rfl (by omega) ?_
  refine s_callVi (as := []) hX dX1_greatestDepth_4 mk_X8_count lk_X1_147 (c_X8_count hn h.1) rfl (by omega) rfl rfl rfl ⟨rfl, rfl⟩ (Nat.le_of_ble_eq_true rfl) (Nat.le_of_ble_eq_true rfl) (Nat.le_of_ble_eq_true rfl) rfl (fun v4 σ4 p4 => ?_)
  obtain ⟨rfl, ep⟩ := p4
  replace ep := ep.symm
  subst ep
  refine s_istore_n hX dX1_greatestDepth_7 (Nat.le_of_ble_eq_true rfl) rfl st_2_1 ?_
  refine s_iload_n hX dX1_greatestDepth_8 rfl ?_
  refine s_if_ne_n (tgt := 16) hX dX1_greatestDepth_9 (by decide) (by omega) (fun q9 => ?_) (fun q9 => ?_)
  · refine s_aload_n hX dX1_greatestDepth_16 rfl ?_
    refine s_getR hX dX1_greatestDepth_17 fl_X1_73 rfl rfl (by omega) ?_
    refine s_iload_n hX dX1_greatestDepth_20 rfl ?_
    refine s_iconst (v := nI 1) hX dX1_greatestDepth_21 (by decide) ?_
    refine s_isub_n hX dX1_greatestDepth_22 (by omega) ?_
    refine s_iald (x := nI (kF W (kM W - 1))) hX dX1_greatestDepth_23 rfl (by omega) (by omega) (by decide) (h.2.2.2.2.2.2.1 _ (by omega)) ?_
    refine s_iret hX dX1_greatestDepth_24 rfl rfl ?_
    first
      | exact ⟨by rw [q9]; rfl, rfl⟩
      | (refine ⟨?_, rfl⟩
         have e : kM W = (kM W - 1) + 1 := by omega
         have := mxR_last (f := kF W) (kM W - 1) (fun m m' a b => hq.mono m m' a (by omega))
         rw [← e] at this
         rw [this])
  · refine s_iconst (v := nI 0) hX dX1_greatestDepth_12 (by decide) ?_
    refine s_goto (tgt := 24) hX dX1_greatestDepth_13 (by decide) ?_
    refine s_iret hX dX1_greatestDepth_24 rfl rfl ?_
    first
      | exact ⟨by rw [q9]; rfl, rfl⟩
      | (refine ⟨?_, rfl⟩
         have e : kM W = (kM W - 1) + 1 := by omega
         have := mxR_last (f := kF W) (kM W - 1) (fun m m' a b => hq.mono m m' a (by omega))
         rw [← e] at this
         rw [this])
theorem wd_no {pr : Pr} {W : Wk} {x : Int32} (h : x.toInt < 0 ∨ 7 < x.toInt) : wdF pr W x = -1 := by
  unfold wdF
  rw [rg_no (by
    rcases h with h | h
    · exact Or.inl (Int32.lt_iff_toInt_lt.mpr h)
    · exact Or.inr (Int32.lt_iff_toInt_lt.mpr h))]
set_option maxRecDepth 100000 in
set_option maxHeartbeats 4000000 in
theorem c_X1_figure {n : Nat} {σ : Sg} {pr : Pr} {W : Wk} (hn : 53 ≤ n) (h : AtE pr σ W) (hq : WkQ pr W) (x : Int32) : Sm n mX1_figure [.ref 20, .int x] σ (qi fun r σ2 => r = wdF pr W x ∧ σ2 = σ) := by
  refine Sm.of mk_X1_figure (Nat.le_of_ble_eq_true rfl) rfl (fun X hX => ?_)
  obtain ⟨hM4, hB30, hT8, hF, hPa, hF0, hBt⟩ := hq.all
  have l3 := flL_len (fun m => skF pr (kV W m)) (kM W)
  have l4 := flL_len (fun m => !ldB pr W m) (kM W)
  refine s_iload_n hX dX1_figure_0 rfl ?_
  by_cases k1_0 : x = nI 0
  · refine s_tableIn (off := 47) (tgt := 48) hX dX1_figure_1 (by rw [k1_0]; decide) (by rw [k1_0]; decide) (by rw [k1_0]; decide) (by decide) ?_
    refine s_aload_n hX dX1_figure_48 rfl ?_
    refine s_getR hX dX1_figure_49 fl_X1_41 rfl rfl (by omega) ?_
    refine s_callVi (as := []) hX dX1_figure_52 mk_X8_count lk_X1_147 (c_X8_count hn h.1) rfl (by omega) rfl rfl rfl ⟨rfl, rfl⟩ (Nat.le_of_ble_eq_true rfl) (Nat.le_of_ble_eq_true rfl) (Nat.le_of_ble_eq_true rfl) rfl (fun v52 σ52 p52 => ?_)
    obtain ⟨rfl, ep⟩ := p52
    replace ep := ep.symm
    subst ep
    refine s_iret hX dX1_figure_55 rfl rfl ?_
    subst k1_0
    refine ⟨?_, rfl⟩
    unfold wdF
    rw [show rg 0 7 (nI 0) = some 0 by decide]
    rfl
  by_cases k1_1 : x = nI 1
  · refine s_tableIn (off := 55) (tgt := 56) hX dX1_figure_1 (by rw [k1_1]; decide) (by rw [k1_1]; decide) (by rw [k1_1]; decide) (by decide) ?_
    refine s_aload_n hX dX1_figure_56 rfl ?_
    refine s_getI (x := nI (kT W)) hX dX1_figure_57 fl_X1_83 rfl rfl (by omega) h.2.2.2.2.1.1 ?_
    refine s_iret hX dX1_figure_60 rfl rfl ?_
    subst k1_1
    refine ⟨?_, rfl⟩
    unfold wdF
    rw [show rg 0 7 (nI 1) = some 1 by decide]
    rfl
  by_cases k1_2 : x = nI 2
  · refine s_tableIn (off := 60) (tgt := 61) hX dX1_figure_1 (by rw [k1_2]; decide) (by rw [k1_2]; decide) (by rw [k1_2]; decide) (by decide) ?_
    refine s_aload_n hX dX1_figure_61 rfl ?_
    refine s_getR hX dX1_figure_62 fl_X1_48 rfl rfl (by omega) ?_
    refine s_callVi (as := []) hX dX1_figure_65 mk_X3_count lk_X1_190 (c_X3_count hn h.2.1) rfl (by omega) rfl rfl rfl ⟨rfl, rfl⟩ (Nat.le_of_ble_eq_true rfl) (Nat.le_of_ble_eq_true rfl) (Nat.le_of_ble_eq_true rfl) rfl (fun v65 σ65 p65 => ?_)
    obtain ⟨rfl, ep⟩ := p65
    replace ep := ep.symm
    subst ep
    refine s_iret hX dX1_figure_68 rfl rfl ?_
    subst k1_2
    refine ⟨?_, rfl⟩
    unfold wdF
    rw [show rg 0 7 (nI 2) = some 2 by decide]
    rfl
  by_cases k1_3 : x = nI 3
  · refine s_tableIn (off := 68) (tgt := 69) hX dX1_figure_1 (by rw [k1_3]; decide) (by rw [k1_3]; decide) (by rw [k1_3]; decide) (by decide) ?_
    refine s_aload_n hX dX1_figure_69 rfl ?_
    refine s_getR hX dX1_figure_70 fl_X1_55 rfl rfl (by omega) ?_
    refine s_callVi (as := []) hX dX1_figure_73 mk_X5_count lk_X1_191 (c_X5_count (in40 hn) h.2.2.1) rfl (by omega) rfl rfl rfl ⟨rfl, rfl⟩ (Nat.le_of_ble_eq_true rfl) (Nat.le_of_ble_eq_true rfl) (Nat.le_of_ble_eq_true rfl) rfl (fun v73 σ73 p73 => ?_)
    obtain ⟨rfl, ep⟩ := p73
    replace ep := ep.symm
    subst ep
    rw [l3]
    refine s_iret hX dX1_figure_76 rfl rfl ?_
    subst k1_3
    refine ⟨?_, rfl⟩
    unfold wdF
    rw [show rg 0 7 (nI 3) = some 3 by decide]
    rfl
  by_cases k1_4 : x = nI 4
  · refine s_tableIn (off := 76) (tgt := 77) hX dX1_figure_1 (by rw [k1_4]; decide) (by rw [k1_4]; decide) (by rw [k1_4]; decide) (by decide) ?_
    refine s_aload_n hX dX1_figure_77 rfl ?_
    refine s_getR hX dX1_figure_78 fl_X1_59 rfl rfl (by omega) ?_
    refine s_callVi (as := []) hX dX1_figure_81 mk_X5_count lk_X1_191 (c_X5_count (in42 hn) h.2.2.2.1) rfl (by omega) rfl rfl rfl ⟨rfl, rfl⟩ (Nat.le_of_ble_eq_true rfl) (Nat.le_of_ble_eq_true rfl) (Nat.le_of_ble_eq_true rfl) rfl (fun v81 σ81 p81 => ?_)
    obtain ⟨rfl, ep⟩ := p81
    replace ep := ep.symm
    subst ep
    rw [l4]
    refine s_iret hX dX1_figure_84 rfl rfl ?_
    subst k1_4
    refine ⟨?_, rfl⟩
    unfold wdF
    rw [show rg 0 7 (nI 4) = some 4 by decide]
    rfl
  by_cases k1_5 : x = nI 5
  · refine s_tableIn (off := 84) (tgt := 85) hX dX1_figure_1 (by rw [k1_5]; decide) (by rw [k1_5]; decide) (by rw [k1_5]; decide) (by decide) ?_
    refine s_aload_n hX dX1_figure_85 rfl ?_
    refine s_callVi (as := []) hX dX1_figure_86 mk_X1_greatestDepth lk_X1_192 (c_X1_greatestDepth hn h hq) rfl (by omega) rfl rfl rfl ⟨rfl, rfl⟩ (Nat.le_of_ble_eq_true rfl) (Nat.le_of_ble_eq_true rfl) (Nat.le_of_ble_eq_true rfl) rfl (fun v86 σ86 p86 => ?_)
    obtain ⟨rfl, ep⟩ := p86
    replace ep := ep.symm
    subst ep
    refine s_iret hX dX1_figure_89 rfl rfl ?_
    subst k1_5
    refine ⟨?_, rfl⟩
    unfold wdF
    rw [show rg 0 7 (nI 5) = some 5 by decide]
    rfl
  by_cases k1_6 : x = nI 6
  · refine s_tableIn (off := 89) (tgt := 90) hX dX1_figure_1 (by rw [k1_6]; decide) (by rw [k1_6]; decide) (by rw [k1_6]; decide) (by decide) ?_
    refine s_aload_n hX dX1_figure_90 rfl ?_
    refine s_getI (x := nI ((kS W).toNat)) hX dX1_figure_91 fl_X1_89 rfl rfl (by omega) h.2.2.2.2.1.2.2 ?_
    refine s_if_eq_n (tgt := 101) hX dX1_figure_94 (by decide) (by have := Bool.toNat_le (kS W); omega) (fun q94 => ?_) (fun q94 => ?_)
    · refine s_iconst (v := nI 0) hX dX1_figure_101 (by decide) ?_
      refine s_iret hX dX1_figure_102 rfl rfl ?_
      subst k1_6
      refine ⟨?_, rfl⟩
      have e6 : wdF pr W (nI 6) = bI (kS W) := by unfold wdF; rw [show rg 0 7 (nI 6) = some 6 by decide]; rfl
      rw [e6]
      first
        | (rw [tn0 q94]; rfl)
        | (rw [tn1 q94]; rfl)
    · refine s_iconst (v := nI 1) hX dX1_figure_97 (by decide) ?_
      refine s_goto (tgt := 102) hX dX1_figure_98 (by decide) ?_
      refine s_iret hX dX1_figure_102 rfl rfl ?_
      subst k1_6
      refine ⟨?_, rfl⟩
      have e6 : wdF pr W (nI 6) = bI (kS W) := by unfold wdF; rw [show rg 0 7 (nI 6) = some 6 by decide]; rfl
      rw [e6]
      first
        | (rw [tn0 q94]; rfl)
        | (rw [tn1 q94]; rfl)
  by_cases k1_7 : x = nI 7
  · refine s_tableIn (off := 102) (tgt := 103) hX dX1_figure_1 (by rw [k1_7]; decide) (by rw [k1_7]; decide) (by rw [k1_7]; decide) (by decide) ?_
    refine s_aload_n hX dX1_figure_103 rfl ?_
    refine s_getI (x := nI (qcR pr (kV W) (kM W))) hX dX1_figure_104 fl_X1_86 rfl rfl (by omega) h.2.2.2.2.1.2.1 ?_
    refine s_iret hX dX1_figure_107 rfl rfl ?_
    subst k1_7
    refine ⟨?_, rfl⟩
    unfold wdF
    rw [show rg 0 7 (nI 7) = some 7 by decide]
    rfl
  refine s_tableOut (tgt := 108) hX dX1_figure_1 (by exact sw_out8 k1_0 k1_1 k1_2 k1_3 k1_4 k1_5 k1_6 k1_7) (by decide) ?_
  refine s_iconst (v := -1) hX dX1_figure_108 (by decide) ?_
  refine s_iret hX dX1_figure_109 rfl rfl ?_
  exact ⟨(wd_no (sw_out8 k1_0 k1_1 k1_2 k1_3 k1_4 k1_5 k1_6 k1_7)).symm, rfl⟩
set_option maxRecDepth 100000 in
set_option maxHeartbeats 4000000 in
theorem c_X1_countStates {n : Nat} {σ : Sg} {pr : Pr} {M : Nat} {V : Nat → Vc} (hn : 53 ≤ n) (h : ShC pr σ M V) : Sm n mX1_countStates [.ref 20] σ (qi fun r σ2 => r = nI M ∧ σ2 = σ) := by
  refine Sm.of mk_X1_countStates (Nat.le_of_ble_eq_true rfl) rfl (fun X hX => ?_)
  refine s_aload_n hX dX1_countStates_0 rfl ?_
  refine s_getR hX dX1_countStates_1 fl_X1_41 rfl rfl (by omega) ?_
  refine s_callVi (as := []) hX dX1_countStates_4 mk_X8_count lk_X1_147 (c_X8_count hn h) rfl (by omega) rfl rfl rfl ⟨rfl, rfl⟩ (Nat.le_of_ble_eq_true rfl) (Nat.le_of_ble_eq_true rfl) (Nat.le_of_ble_eq_true rfl) rfl (fun v4 σ4 p4 => ?_)
  obtain ⟨rfl, ep⟩ := p4
  replace ep := ep.symm
  subst ep
  refine s_iret hX dX1_countStates_7 rfl rfl ?_
  exact ⟨rfl, rfl⟩
set_option maxRecDepth 100000 in
set_option maxHeartbeats 4000000 in
theorem c_X1_isSpent {n : Nat} {σ : Sg} {pr : Pr} {W : Wk} (hn : 53 ≤ n) (h : AtE pr σ W) : Sm n mX1_isSpent [.ref 20] σ (qi fun r σ2 => r = bI (kS W) ∧ σ2 = σ) := by
  refine Sm.of mk_X1_isSpent (Nat.le_of_ble_eq_true rfl) rfl (fun X hX => ?_)
  refine s_aload_n hX dX1_isSpent_0 rfl ?_
  refine s_getI (x := (bI (kS W))) hX dX1_isSpent_1 fl_X1_89 rfl rfl (by omega) h.2.2.2.2.1.2.2 ?_
  refine s_zret hX dX1_isSpent_4 rfl (bI_01 _) rfl ?_
  exact ⟨rfl, rfl⟩
set_option maxRecDepth 100000 in
set_option maxHeartbeats 4000000 in
theorem c_X1_hasState {n : Nat} {σ : Sg} {pr : Pr} {W : Wk} (hn : 53 ≤ n) (h : AtE pr σ W) (hq : WkQ pr W) (x : Int32) : Sm n mX1_hasState [.ref 20, .int x] σ (qi fun r σ2 => r = nI (if x < 0 ∨ nI (kM W) ≤ x then 0 else 1) ∧ σ2 = σ) := by
  refine Sm.of mk_X1_hasState (Nat.le_of_ble_eq_true rfl) rfl (fun X hX => ?_)
  obtain ⟨hM4, hB30, hT8, hF, hPa, hF0, hBt⟩ := hq.all
  refine s_iload_n hX dX1_hasState_0 rfl ?_
  refine s_if_lt (tgt := 19) hX dX1_hasState_1 (by decide) (fun q1 => ?_) (fun q1 => ?_)
  · refine s_iconst (v := nI 0) hX dX1_hasState_19 (by decide) ?_
    refine s_zret hX dX1_hasState_20 rfl (by first | exact Or.inl rfl | exact Or.inr rfl) rfl ?_
    first
      | exact ⟨by rw [if_pos (Or.inl q1)], rfl⟩
      | exact ⟨by rw [if_pos (Or.inr q12)], rfl⟩
      | exact ⟨by rw [if_neg (fun z => z.elim q1 q12)], rfl⟩
  · refine s_iload_n hX dX1_hasState_4 rfl ?_
    refine s_aload_n hX dX1_hasState_5 rfl ?_
    refine s_getR hX dX1_hasState_6 fl_X1_41 rfl rfl (by omega) ?_
    refine s_callVi (as := []) hX dX1_hasState_9 mk_X8_count lk_X1_147 (c_X8_count hn h.1) rfl (by omega) rfl rfl rfl ⟨rfl, rfl⟩ (Nat.le_of_ble_eq_true rfl) (Nat.le_of_ble_eq_true rfl) (Nat.le_of_ble_eq_true rfl) rfl (fun v9 σ9 p9 => ?_)
    obtain ⟨rfl, ep⟩ := p9
    replace ep := ep.symm
    subst ep
    refine s_icmp_ge (tgt := 19) hX dX1_hasState_12 (by decide) (fun q12 => ?_) (fun q12 => ?_)
    · refine s_iconst (v := nI 0) hX dX1_hasState_19 (by decide) ?_
      refine s_zret hX dX1_hasState_20 rfl (by first | exact Or.inl rfl | exact Or.inr rfl) rfl ?_
      first
        | exact ⟨by rw [if_pos (Or.inl q1)], rfl⟩
        | exact ⟨by rw [if_pos (Or.inr q12)], rfl⟩
        | exact ⟨by rw [if_neg (fun z => z.elim q1 q12)], rfl⟩
    · refine s_iconst (v := nI 1) hX dX1_hasState_15 (by decide) ?_
      refine s_goto (tgt := 20) hX dX1_hasState_16 (by decide) ?_
      refine s_zret hX dX1_hasState_20 rfl (by first | exact Or.inl rfl | exact Or.inr rfl) rfl ?_
      first
        | exact ⟨by rw [if_pos (Or.inl q1)], rfl⟩
        | exact ⟨by rw [if_pos (Or.inr q12)], rfl⟩
        | exact ⟨by rw [if_neg (fun z => z.elim q1 q12)], rfl⟩
set_option maxRecDepth 100000 in
set_option maxHeartbeats 4000000 in
theorem c_X1_badAt {n : Nat} {σ : Sg} {pr : Pr} {W : Wk} (hn : 53 ≤ n) (h : AtE pr σ W) (hq : WkQ pr W) (x y : Int32) : Sm n mX1_badAt [.ref 20, .int x, .int y] σ (qi fun r σ2 => r = bdA W x y ∧ σ2 = σ) := by
  refine Sm.of mk_X1_badAt (Nat.le_of_ble_eq_true rfl) rfl (fun X hX => ?_)
  obtain ⟨hM4, hB30, hT8, hF, hPa, hF0, hBt⟩ := hq.all
  refine s_aload_n hX dX1_badAt_0 rfl ?_
  refine s_getR hX dX1_badAt_1 fl_X1_48 rfl rfl (by omega) ?_
  refine s_iload_n hX dX1_badAt_4 rfl ?_
  refine s_iload_n hX dX1_badAt_5 rfl ?_
  refine s_callVi (as := [_, _]) hX dX1_badAt_6 mk_X3_ask lk_X1_195 (c_X3_ask hn h.2.1 hB30 x y) rfl (by omega) rfl rfl rfl ⟨rfl, rfl⟩ (Nat.le_of_ble_eq_true rfl) (Nat.le_of_ble_eq_true rfl) (Nat.le_of_ble_eq_true rfl) rfl (fun v6 σ6 p6 => ?_)
  obtain ⟨rfl, ep⟩ := p6
  replace ep := ep.symm
  subst ep
  refine s_iret hX dX1_badAt_9 rfl rfl ?_
  exact ⟨rfl, rfl⟩
set_option maxRecDepth 100000 in
set_option maxHeartbeats 4000000 in
theorem c_X1_stuckAt {n : Nat} {σ : Sg} {pr : Pr} {W : Wk} (hn : 53 ≤ n) (h : AtE pr σ W) (hq : WkQ pr W) (y : Int32) : Sm n mX1_stuckAt [.ref 20, .int y] σ (qi fun r σ2 => r = (if y < 0 then -1 else amv (kthR (fun m => skF pr (kV W m)) y.toNatClampNeg (kM W))) ∧ σ2 = σ) := by
  refine Sm.of mk_X1_stuckAt (Nat.le_of_ble_eq_true rfl) rfl (fun X hX => ?_)
  obtain ⟨hM4, hB30, hT8, hF, hPa, hF0, hBt⟩ := hq.all
  have l3 := flL_len (fun m => skF pr (kV W m)) (kM W)
  have c3 := ctR_le (fun m => skF pr (kV W m)) (kM W)
  refine s_aload_n hX dX1_stuckAt_0 rfl ?_
  refine s_getR hX dX1_stuckAt_1 fl_X1_55 rfl rfl (by omega) ?_
  refine s_iload_n hX dX1_stuckAt_4 rfl ?_
  refine s_callVi (as := [_]) hX dX1_stuckAt_5 mk_X5_at lk_X1_198 (c_X5_at (in40 hn) h.2.2.1 (by omega) y) rfl (by omega) rfl rfl rfl ⟨rfl, rfl⟩ (Nat.le_of_ble_eq_true rfl) (Nat.le_of_ble_eq_true rfl) (Nat.le_of_ble_eq_true rfl) rfl (fun v5 σ5 p5 => ?_)
  obtain ⟨rfl, ep⟩ := p5
  replace ep := ep.symm
  subst ep
  rw [nl_kth (by omega)]
  refine s_iret hX dX1_stuckAt_8 rfl rfl ?_
  exact ⟨rfl, rfl⟩
set_option maxRecDepth 100000 in
set_option maxHeartbeats 4000000 in
theorem c_X1_lostAt {n : Nat} {σ : Sg} {pr : Pr} {W : Wk} (hn : 53 ≤ n) (h : AtE pr σ W) (hq : WkQ pr W) (y : Int32) : Sm n mX1_lostAt [.ref 20, .int y] σ (qi fun r σ2 => r = (if y < 0 then -1 else amv (kthR (fun m => !ldB pr W m) y.toNatClampNeg (kM W))) ∧ σ2 = σ) := by
  refine Sm.of mk_X1_lostAt (Nat.le_of_ble_eq_true rfl) rfl (fun X hX => ?_)
  obtain ⟨hM4, hB30, hT8, hF, hPa, hF0, hBt⟩ := hq.all
  have l3 := flL_len (fun m => !ldB pr W m) (kM W)
  have c3 := ctR_le (fun m => !ldB pr W m) (kM W)
  refine s_aload_n hX dX1_lostAt_0 rfl ?_
  refine s_getR hX dX1_lostAt_1 fl_X1_59 rfl rfl (by omega) ?_
  refine s_iload_n hX dX1_lostAt_4 rfl ?_
  refine s_callVi (as := [_]) hX dX1_lostAt_5 mk_X5_at lk_X1_198 (c_X5_at (in42 hn) h.2.2.2.1 (by omega) y) rfl (by omega) rfl rfl rfl ⟨rfl, rfl⟩ (Nat.le_of_ble_eq_true rfl) (Nat.le_of_ble_eq_true rfl) (Nat.le_of_ble_eq_true rfl) rfl (fun v5 σ5 p5 => ?_)
  obtain ⟨rfl, ep⟩ := p5
  replace ep := ep.symm
  subst ep
  rw [nl_kth (by omega)]
  refine s_iret hX dX1_lostAt_8 rfl rfl ?_
  exact ⟨rfl, rfl⟩
set_option maxRecDepth 100000 in
set_option maxHeartbeats 4000000 in
theorem c_X1_depthOf {n : Nat} {σ : Sg} {pr : Pr} {W : Wk} (hn : 53 ≤ n) (h : AtE pr σ W) (hq : WkQ pr W) (m : Nat) (hm : m < kM W) : Sm n mX1_depthOf [.ref 20, .int (nI m)] σ (qi fun r σ2 => r = nI (kF W m) ∧ σ2 = σ) := by
  refine Sm.of mk_X1_depthOf (Nat.le_of_ble_eq_true rfl) rfl (fun X hX => ?_)
  obtain ⟨hM4, hB30, hT8, hF, hPa, hF0, hBt⟩ := hq.all
  refine s_aload_n hX dX1_depthOf_0 rfl ?_
  refine s_getR hX dX1_depthOf_1 fl_X1_73 rfl rfl (by omega) ?_
  refine s_iload_n hX dX1_depthOf_4 rfl ?_
  refine s_iald (x := nI (kF W m)) hX dX1_depthOf_5 rfl (by omega) (by omega) (by decide) (h.2.2.2.2.2.2.1 m hm) ?_
  refine s_iret hX dX1_depthOf_6 rfl rfl ?_
  exact ⟨rfl, rfl⟩
set_option maxRecDepth 100000 in
set_option maxHeartbeats 4000000 in
theorem c_X1_stepTowards {n : Nat} {σ : Sg} {pr : Pr} {W : Wk} (hn : 53 ≤ n) (h : AtE pr σ W) (hq : WkQ pr W) (m k : Nat) (hm : m < kM W) (hkm : k < kF W m) : Sm n mX1_stepTowards [.ref 20, .int (nI m), .int (nI k)] σ (qi fun r σ2 => r = nI (wyR W k 4000 m) ∧ σ2 = σ) := by
  refine Sm.of mk_X1_stepTowards (Nat.le_of_ble_eq_true rfl) rfl (fun X hX => ?_)
  obtain ⟨hM4, hB30, hT8, hF, hPa, hF0, hBt⟩ := hq.all
  have hFm := (hF m hm).1
  have LP : ∀ (f a : Nat), k < kF W a → kF W a ≤ f + k + 1 → a < kM W → wyR W k f a = wyR W k 4000 m → Sw n mX1_stepTowards X (ZS n mX1_stepTowards (qi fun r σ2 => r = nI (wyR W k 4000 m) ∧ σ2 = σ) X) 12 [some (.ref 20), some (.int (nI m)), some (.int (nI k)), some (.int (nI a)), some (.int (nI (kF W a - 1)))] [] σ := by
    intro f
    induction f with
    | zero =>
      intro a h1 h2 h3 h4
      have h0 : 0 < a := by
        rcases Nat.eq_zero_or_pos a with e | e
        · rw [e, hF0] at h1; omega
        · exact e
      have hFa := (hF a h3).1
      obtain ⟨g1, g2, g3⟩ := hPa a h0 h3
      refine s_iload hX dX1_stepTowards_12 rfl ?_
      refine s_iload_n hX dX1_stepTowards_14 rfl ?_
      refine s_icmp_le_n (tgt := 34) hX dX1_stepTowards_15 (by decide) (by omega) (by omega) (fun q15 => ?_) (fun q15 => ?_)
      · refine s_aload_n hX dX1_stepTowards_34 rfl ?_
        refine s_getR hX dX1_stepTowards_35 fl_X1_69 rfl rfl (by omega) ?_
        refine s_iload_n hX dX1_stepTowards_38 rfl ?_
        refine s_iald (x := nI ((kP W a).1 * 20 + (kP W a).2)) hX dX1_stepTowards_39 rfl (by omega) (by omega) (by decide) (h.2.2.2.2.2.1 a h0 h3) ?_
        refine s_bipush (v := nI 20) hX dX1_stepTowards_40 (by decide) ?_
        refine s_irem_n hX dX1_stepTowards_42 (by omega) (by decide) (by decide) ?_
        refine s_iret hX dX1_stepTowards_43 rfl rfl ?_
        rw [← h4]
        exact ⟨by show nI (((kP W a).1 * 20 + (kP W a).2) % 20) = nI (kP W a).2; congr 1; omega, rfl⟩
      · omega
    | succ f ih =>
      intro a h1 h2 h3 h4
      have h0 : 0 < a := by
        rcases Nat.eq_zero_or_pos a with e | e
        · rw [e, hF0] at h1; omega
        · exact e
      have hFa := (hF a h3).1
      obtain ⟨g1, g2, g3⟩ := hPa a h0 h3
      have w1 : k + 1 < kF W a → wyR W k (f + 1) a = wyR W k f (kP W a).1 := fun q => by show (if _ then _ else _) = _; rw [if_pos q]
      have w2 : ¬ k + 1 < kF W a → wyR W k (f + 1) a = (kP W a).2 := fun q => by show (if _ then _ else _) = _; rw [if_neg q]
      have dv : ((kP W a).1 * 20 + (kP W a).2) / 20 = (kP W a).1 := by omega
      refine s_iload hX dX1_stepTowards_12 rfl ?_
      refine s_iload_n hX dX1_stepTowards_14 rfl ?_
      refine s_icmp_le_n (tgt := 34) hX dX1_stepTowards_15 (by decide) (by omega) (by omega) (fun q15 => ?_) (fun q15 => ?_)
      · refine s_aload_n hX dX1_stepTowards_34 rfl ?_
        refine s_getR hX dX1_stepTowards_35 fl_X1_69 rfl rfl (by omega) ?_
        refine s_iload_n hX dX1_stepTowards_38 rfl ?_
        refine s_iald (x := nI ((kP W a).1 * 20 + (kP W a).2)) hX dX1_stepTowards_39 rfl (by omega) (by omega) (by decide) (h.2.2.2.2.2.1 a h0 h3) ?_
        refine s_bipush (v := nI 20) hX dX1_stepTowards_40 (by decide) ?_
        refine s_irem_n hX dX1_stepTowards_42 (by omega) (by decide) (by decide) ?_
        refine s_iret hX dX1_stepTowards_43 rfl rfl ?_
        rw [← h4, w2 (by omega)]
        exact ⟨by congr 1; omega, rfl⟩
      · refine s_aload_n hX dX1_stepTowards_18 rfl ?_
        refine s_getR hX dX1_stepTowards_19 fl_X1_69 rfl rfl (by omega) ?_
        refine s_iload_n hX dX1_stepTowards_22 rfl ?_
        refine s_iald (x := nI ((kP W a).1 * 20 + (kP W a).2)) hX dX1_stepTowards_23 rfl (by omega) (by omega) (by decide) (h.2.2.2.2.2.1 a h0 h3) ?_
        refine s_bipush (v := nI 20) hX dX1_stepTowards_24 (by decide) ?_
        refine s_idiv_n hX dX1_stepTowards_26 (by omega) (by decide) (by decide) ?_
        rw [dv]
        refine s_istore_n hX dX1_stepTowards_27 (Nat.le_of_ble_eq_true rfl) rfl st_5_3 ?_
        refine s_idec_n hX dX1_stepTowards_28 rfl (by omega) rfl st_5_4 ?_
        refine s_goto (tgt := 12) hX dX1_stepTowards_31 (by decide) ?_
        rw [show kF W a - 1 - 1 = kF W (kP W a).1 - 1 by omega]
        exact ih _ (by omega) (by omega) (by omega) (by rw [← w1 (by omega)]; exact h4)
  refine s_iload_n hX dX1_stepTowards_0 rfl ?_
  refine s_istore_n hX dX1_stepTowards_1 (Nat.le_of_ble_eq_true rfl) rfl st_5_3 ?_
  refine s_aload_n hX dX1_stepTowards_2 rfl ?_
  refine s_getR hX dX1_stepTowards_3 fl_X1_73 rfl rfl (by omega) ?_
  refine s_iload_n hX dX1_stepTowards_6 rfl ?_
  refine s_iald (x := nI (kF W m)) hX dX1_stepTowards_7 rfl (by omega) (by omega) (by decide) (h.2.2.2.2.2.2.1 m hm) ?_
  refine s_iconst (v := nI 1) hX dX1_stepTowards_8 (by decide) ?_
  refine s_isub_n hX dX1_stepTowards_9 (by omega) ?_
  refine s_istore hX dX1_stepTowards_10 (Nat.le_of_ble_eq_true rfl) rfl st_5_4 ?_
  exact LP 4000 m hkm (by omega) hm rfl
set_option maxRecDepth 100000 in
set_option maxHeartbeats 4000000 in
theorem c_X1_load {n : Nat} {σ : Sg} {pr : Pr} {W : Wk} (hn : 53 ≤ n) (h : AtE pr σ W) (hq : WkQ pr W) {o : Nat} (ho : IsSc o n) (m : Nat) (hm : m < kM W) : Sm n mX1_load [.ref 20, .int (nI m), .ref o] σ (qv fun σ2 => ScC pr σ2 o (kV W m) ∧ Off σ σ2 [o, o + 1]) := by
  refine Sm.of mk_X1_load (Nat.le_of_ble_eq_true rfl) rfl (fun X hX => ?_)
  obtain ⟨hM4, hB30, hT8, hF, hPa, hF0, hBt⟩ := hq.all
  refine s_aload_n hX dX1_load_0 rfl ?_
  refine s_getR hX dX1_load_1 fl_X1_41 rfl rfl (by omega) ?_
  refine s_iload_n hX dX1_load_4 rfl ?_
  refine s_aload_n hX dX1_load_5 rfl ?_
  refine s_callVv (as := [_, _]) hX dX1_load_6 mk_X8_load lk_X1_119 (c_X8_load hn hq.1 h.1 hM4 (fun m hm => (hF m hm).2) ho m hm) rfl (by omega) rfl rfl rfl ⟨rfl, rfl⟩ (Nat.le_of_ble_eq_true rfl) (Nat.le_of_ble_eq_true rfl) (Nat.le_of_ble_eq_true rfl) rfl (fun σ6 p6 => ?_)
  refine s_vret hX dX1_load_9 rfl rfl ?_
  exact p6
set_option maxRecDepth 100000 in
set_option maxHeartbeats 4000000 in
theorem c_X1_numberOf {n : Nat} {σ : Sg} {pr : Pr} {W : Wk} (hn : 53 ≤ n) (h : AtE pr σ W) (hq : WkQ pr W) {o : Nat} {v : Vc} (ho : IsSc o n) (hs : ScC pr σ o v) (hv : VOk pr v) : Sm n mX1_numberOf [.ref 20, .ref o] σ (qi fun r σ2 => r = amv (numK W v) ∧ σ2 = σ) := by
  refine Sm.of mk_X1_numberOf (Nat.le_of_ble_eq_true rfl) rfl (fun X hX => ?_)
  obtain ⟨hM4, hB30, hT8, hF, hPa, hF0, hBt⟩ := hq.all
  refine s_aload_n hX dX1_numberOf_0 rfl ?_
  refine s_getR hX dX1_numberOf_1 fl_X1_41 rfl rfl (by omega) ?_
  refine s_aload_n hX dX1_numberOf_4 rfl ?_
  refine s_callVi (as := [_]) hX dX1_numberOf_5 mk_X8_find lk_X1_171 (c_X8_find hn hq.1 h.1 hM4 (fun m hm => (hF m hm).2) ho hs hv) rfl (by omega) rfl rfl rfl ⟨rfl, rfl⟩ (Nat.le_of_ble_eq_true rfl) (Nat.le_of_ble_eq_true rfl) (Nat.le_of_ble_eq_true rfl) rfl (fun v5 σ5 p5 => ?_)
  obtain ⟨rfl, ep⟩ := p5
  replace ep := ep.symm
  subst ep
  refine s_iret hX dX1_numberOf_8 rfl rfl ?_
  exact ⟨rfl, rfl⟩
set_option maxRecDepth 100000 in
set_option maxHeartbeats 4000000 in
theorem c_X1_usedAt {n : Nat} {σ : Sg} {pr : Pr} {W : Wk} (hn : 53 ≤ n) (h : AtE pr σ W) (a : Nat) (ha : a < 2048) : Sm n mX1_usedAt [.ref 20, .int (nI a)] σ (qi fun r σ2 => r = bI (kU W a) ∧ σ2 = σ) := by
  refine Sm.of mk_X1_usedAt (Nat.le_of_ble_eq_true rfl) rfl (fun X hX => ?_)
  refine s_aload_n hX dX1_usedAt_0 rfl ?_
  refine s_getR hX dX1_usedAt_1 fl_X1_76 rfl rfl (by omega) ?_
  refine s_iload_n hX dX1_usedAt_4 rfl ?_
  refine s_iald (x := (bI (kU W a))) hX dX1_usedAt_5 rfl (by omega) (by omega) (by decide) (h.2.2.2.2.2.2.2 a ha) ?_
  refine s_iret hX dX1_usedAt_6 rfl rfl ?_
  exact ⟨rfl, rfl⟩
