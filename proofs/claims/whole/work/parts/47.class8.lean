/-! ===== the class: where a letter's row is, how a scene is bad, the steps ===== -/
theorem lc_parts {pr : Pr} {v : Vc} {i : Nat} (hk : PrOk pr) (hv : VOk pr v) (hi : i < v 15) : lcF pr v i / 256 % 8 = v (18 + 5 * i) ∧ lcF pr v i / 8 % 16 = v (16 + 5 * i) ∧ lcF pr v i / 2048 % 8 = v (17 + 5 * i) ∧ lcF pr v i / 2 % 4 = v (19 + 5 * i) ∧ lcF pr v i % 2 = v (20 + 5 * i) := by
  rw [lcF_in hi]
  obtain ⟨h1, h2, h3, h4, h5⟩ := lt_at hv hi
  have := hk.1.2
  have := hk.2.1 (v (16 + 5 * i))
  unfold ltA at *
  unfold lcX
  dsimp only at *
  omega
theorem ix0 {pr : Pr} {e : Nat} (h : e < pP pr) : ixS pr e 0 = 3 * e := by unfold ixS; rw [if_neg (by omega)]; rfl
theorem ix1 {pr : Pr} {e : Nat} (h : e < pP pr) : ixS pr e 1 = 3 * e + 1 := by unfold ixS; rw [if_neg (by omega)]
theorem ixP0 {pr : Pr} : ixS pr (pP pr) 0 = 12 := by unfold ixS; rw [if_pos rfl]
theorem ixP {pr : Pr} (w : Nat) : ixS pr (pP pr) w = 12 + w := by unfold ixS; rw [if_pos rfl]
set_option maxRecDepth 100000 in
set_option maxHeartbeats 4000000 in
theorem c_X6_letterPlace {n : Nat} {σ : Sg} {o : Nat} {pr : Pr} {v : Vc} (hn : 53 ≤ n) (ho : IsSc o n) (h : ScC pr σ o v) (hp : PrC σ pr) (hk : PrOk pr) (hv : VOk pr v) (i : Nat) (hi : i < v 15) : Sm n mX6_letterPlace [.ref 1, .ref o, .int (nI (lcF pr v i))] σ (qi fun r σ2 => r = nI (rowOf pr v i) ∧ σ2 = σ) := by
  refine Sm.of mk_X6_letterPlace (Nat.le_of_ble_eq_true rfl) rfl (fun X hX => ?_)
  have ho3 := ho.2.2
  have c9 := lcF_lt hk hv i
  obtain ⟨g1, g2, g3, g4, g5⟩ := lc_parts hk hv hi
  obtain ⟨l1, l2, l3, l4, l5⟩ := hv.2.2.2.2.2.1 i hi
  have hP := hk.1.2
  have h14 := hv.2.2.2.1
  refine s_iload_n hX dX6_letterPlace_0 rfl ?_
  refine s_callSi (as := [_]) hX dX6_letterPlace_1 mk_X4_toOf lk_X6_59 (c_X4_toOf _ (by omega)) rfl ⟨rfl, rfl⟩ (Nat.le_of_ble_eq_true rfl) (Nat.le_of_ble_eq_true rfl) (Nat.le_of_ble_eq_true rfl) rfl (fun v1 σ1 p1 => ?_)
  obtain ⟨rfl, ep⟩ := p1
  replace ep := ep.symm
  subst ep
  rw [g1]
  refine s_istore_n hX dX6_letterPlace_4 (Nat.le_of_ble_eq_true rfl) rfl st_7_3 ?_
  refine s_iload_n hX dX6_letterPlace_5 rfl ?_
  refine s_callSi (as := [_]) hX dX6_letterPlace_6 mk_X4_kindOf lk_X6_64 (c_X4_kindOf _ (by omega)) rfl ⟨rfl, rfl⟩ (Nat.le_of_ble_eq_true rfl) (Nat.le_of_ble_eq_true rfl) (Nat.le_of_ble_eq_true rfl) rfl (fun v6 σ6 p6 => ?_)
  obtain ⟨rfl, ep⟩ := p6
  replace ep := ep.symm
  subst ep
  rw [g2]
  refine s_istore hX dX6_letterPlace_9 (Nat.le_of_ble_eq_true rfl) rfl st_7_4 ?_
  refine s_iload_n hX dX6_letterPlace_11 rfl ?_
  refine s_aload_n hX dX6_letterPlace_12 rfl ?_
  refine s_getI (x := nI (pP pr)) hX dX6_letterPlace_13 fl_X6_9 rfl rfl (by omega) hp.1 ?_
  refine s_icmp_eq_n (tgt := 33) hX dX6_letterPlace_16 (by decide) (by omega) (by omega) (fun q16 => ?_) (fun q16 => ?_)
  · refine s_aload_n hX dX6_letterPlace_33 rfl ?_
    refine s_callVi (as := []) hX dX6_letterPlace_34 mk_X7_holders lk_X6_75 (c_X7_holders ho h hk hv) ho.1 (by omega) rfl rfl rfl ⟨rfl, rfl⟩ (Nat.le_of_ble_eq_true rfl) (Nat.le_of_ble_eq_true rfl) (Nat.le_of_ble_eq_true rfl) rfl (fun v34 σ34 p34 => ?_)
    obtain ⟨rfl, ep⟩ := p34
    replace ep := ep.symm
    subst ep
    refine s_iconst (v := nI 1) hX dX6_letterPlace_37 (by decide) ?_
    refine s_iload_n hX dX6_letterPlace_38 rfl ?_
    refine s_callSi (as := [_]) hX dX6_letterPlace_39 mk_X4_forOf lk_X6_79 (c_X4_forOf _ (by omega)) rfl ⟨rfl, rfl⟩ (Nat.le_of_ble_eq_true rfl) (Nat.le_of_ble_eq_true rfl) (Nat.le_of_ble_eq_true rfl) rfl (fun v39 σ39 p39 => ?_)
    obtain ⟨rfl, ep⟩ := p39
    replace ep := ep.symm
    subst ep
    rw [g4]
    refine s_ishl_n hX dX6_letterPlace_42 (by omega) (by have : 2 ^ v (19 + 5 * i) ≤ 2 ^ 4 := Nat.pow_le_pow_right (by decide) (by omega); omega) ?_
    refine s_iconst (v := -1) hX dX6_letterPlace_43 (by decide) ?_
    refine s_ixor hX dX6_letterPlace_44 ?_
    refine s_iand hX dX6_letterPlace_45 ?_
    refine s_istore hX dX6_letterPlace_46 (Nat.le_of_ble_eq_true rfl) rfl st_7_5 ?_
    refine s_iload hX dX6_letterPlace_48 rfl ?_
    refine s_if_ne (tgt := 60) hX dX6_letterPlace_50 (by decide) (fun q50 => ?_) (fun q50 => ?_)
    · refine s_iconst (v := nI 2) hX dX6_letterPlace_60 (by decide) ?_
      refine s_iload hX dX6_letterPlace_61 rfl ?_
      refine s_imul_n hX dX6_letterPlace_63 ?_
      refine s_iconst (v := nI 1) hX dX6_letterPlace_64 (by decide) ?_
      refine s_iadd_n hX dX6_letterPlace_65 ?_
      refine s_istore hX dX6_letterPlace_66 (Nat.le_of_ble_eq_true rfl) rfl st_7_6 ?_
      refine s_bipush (v := nI 16) hX dX6_letterPlace_68 (by decide) ?_
      refine s_aload_n hX dX6_letterPlace_70 rfl ?_
      refine s_aload_n hX dX6_letterPlace_71 rfl ?_
      refine s_getI (x := nI (pP pr)) hX dX6_letterPlace_72 fl_X6_9 rfl rfl (by omega) hp.1 ?_
      refine s_callVi (as := [_]) hX dX6_letterPlace_75 mk_X7_stateOf lk_X6_67 (c_X7_stateOf ho h hk hv _ (Nat.le_refl _)) ho.1 (by omega) rfl rfl rfl ⟨rfl, rfl⟩ (Nat.le_of_ble_eq_true rfl) (Nat.le_of_ble_eq_true rfl) (Nat.le_of_ble_eq_true rfl) rfl (fun v75 σ75 p75 => ?_)
      obtain ⟨rfl, ep⟩ := p75
      replace ep := ep.symm
      subst ep
      rw [ixP0]
      refine s_iadd_n hX dX6_letterPlace_78 ?_
      refine s_bipush (v := nI 64) hX dX6_letterPlace_79 (by decide) ?_
      refine s_imul_n hX dX6_letterPlace_81 ?_
      refine s_iload hX dX6_letterPlace_82 rfl ?_
      refine s_iadd_n hX dX6_letterPlace_84 ?_
      refine s_iret hX dX6_letterPlace_85 rfl rfl ?_
      refine ⟨?_, rfl⟩
      unfold rowOf
      rw [if_neg (by omega)]
      first
        | (rw [if_pos (show othI (v 14) (v (19 + 5 * i)) = 0 from Classical.not_not.mp q50)]; congr 1; omega)
        | (rw [if_neg (show ¬ othI (v 14) (v (19 + 5 * i)) = 0 from q50)]; congr 1; omega)
    · refine s_iconst (v := nI 2) hX dX6_letterPlace_53 (by decide) ?_
      refine s_iload hX dX6_letterPlace_54 rfl ?_
      refine s_imul_n hX dX6_letterPlace_56 ?_
      refine s_goto (tgt := 66) hX dX6_letterPlace_57 (by decide) ?_
      refine s_istore hX dX6_letterPlace_66 (Nat.le_of_ble_eq_true rfl) rfl st_7_6 ?_
      refine s_bipush (v := nI 16) hX dX6_letterPlace_68 (by decide) ?_
      refine s_aload_n hX dX6_letterPlace_70 rfl ?_
      refine s_aload_n hX dX6_letterPlace_71 rfl ?_
      refine s_getI (x := nI (pP pr)) hX dX6_letterPlace_72 fl_X6_9 rfl rfl (by omega) hp.1 ?_
      refine s_callVi (as := [_]) hX dX6_letterPlace_75 mk_X7_stateOf lk_X6_67 (c_X7_stateOf ho h hk hv _ (Nat.le_refl _)) ho.1 (by omega) rfl rfl rfl ⟨rfl, rfl⟩ (Nat.le_of_ble_eq_true rfl) (Nat.le_of_ble_eq_true rfl) (Nat.le_of_ble_eq_true rfl) rfl (fun v75 σ75 p75 => ?_)
      obtain ⟨rfl, ep⟩ := p75
      replace ep := ep.symm
      subst ep
      rw [ixP0]
      refine s_iadd_n hX dX6_letterPlace_78 ?_
      refine s_bipush (v := nI 64) hX dX6_letterPlace_79 (by decide) ?_
      refine s_imul_n hX dX6_letterPlace_81 ?_
      refine s_iload hX dX6_letterPlace_82 rfl ?_
      refine s_iadd_n hX dX6_letterPlace_84 ?_
      refine s_iret hX dX6_letterPlace_85 rfl rfl ?_
      refine ⟨?_, rfl⟩
      unfold rowOf
      rw [if_neg (by omega)]
      first
        | (rw [if_pos (show othI (v 14) (v (19 + 5 * i)) = 0 from Classical.not_not.mp q50)]; congr 1; omega)
        | (rw [if_neg (show ¬ othI (v 14) (v (19 + 5 * i)) = 0 from q50)]; congr 1; omega)
  · refine s_aload_n hX dX6_letterPlace_19 rfl ?_
    refine s_aload_n hX dX6_letterPlace_20 rfl ?_
    refine s_iload_n hX dX6_letterPlace_21 rfl ?_
    refine s_callVi (as := [_]) hX dX6_letterPlace_22 mk_X7_stateOf lk_X6_67 (c_X7_stateOf ho h hk hv _ (by omega)) ho.1 (by omega) rfl rfl rfl ⟨rfl, rfl⟩ (Nat.le_of_ble_eq_true rfl) (Nat.le_of_ble_eq_true rfl) (Nat.le_of_ble_eq_true rfl) rfl (fun v22 σ22 p22 => ?_)
    obtain ⟨rfl, ep⟩ := p22
    replace ep := ep.symm
    subst ep
    rw [ix0 (by omega)]
    refine s_iconst (v := nI 3) hX dX6_letterPlace_25 (by decide) ?_
    refine s_iload hX dX6_letterPlace_26 rfl ?_
    refine s_iadd_n hX dX6_letterPlace_28 ?_
    refine s_callVi (as := [_, _]) hX dX6_letterPlace_29 mk_X6_cachePlace lk_X6_72 (c_X6_cachePlace _ _) rfl (by omega) rfl rfl rfl ⟨rfl, rfl⟩ (Nat.le_of_ble_eq_true rfl) (Nat.le_of_ble_eq_true rfl) (Nat.le_of_ble_eq_true rfl) rfl (fun v29 σ29 p29 => ?_)
    obtain ⟨rfl, ep⟩ := p29
    replace ep := ep.symm
    subst ep
    refine s_iret hX dX6_letterPlace_32 rfl rfl ?_
    exact ⟨by
      unfold rowOf
      rw [if_pos (by omega)]
      congr 1; omega, rfl⟩
set_option maxRecDepth 100000 in
set_option maxHeartbeats 4000000 in
theorem c_X6_badnessOf {n : Nat} {σ : Sg} {o : Nat} {pr : Pr} {v : Vc} (hn : 53 ≤ n) (ho : IsSc o n) (h : ScC pr σ o v) (hp : PrC σ pr) (hk : PrOk pr) (hv : VOk pr v) : Sm n mX6_badnessOf [.ref 1, .ref o] σ (qi fun r σ2 => r = nI (bdF pr v) ∧ σ2 = σ) := by
  refine Sm.of mk_X6_badnessOf (Nat.le_of_ble_eq_true rfl) rfl (fun X hX => ?_)
  have ho3 := ho.2.2
  have hP := hk.1.2
  have LP : ∀ (d p w e s : Nat) (x6 : Option Value), p + d = pP pr → w = (bdR pr v p).1 → e = (bdR pr v p).2.1 → s = (bdR pr v p).2.2.toNat → Sw n mX6_badnessOf X (ZS n mX6_badnessOf (qi fun r σ2 => r = nI (bdF pr v) ∧ σ2 = σ) X) 10 [some (.ref 1), some (.ref o), some (.int (nI w)), some (.int (nI e)), some (.int (nI s)), some (.int (nI p)), x6] [] σ := by
    intro d
    induction d with
    | zero =>
      intro p w e s x6 hd hw he hs
      have hb := bdR_le pr v p
      have hs2 : s ≤ 1 := by rw [hs]; exact Bool.toNat_le _
      have ep : p = pP pr := by omega
      subst ep
      refine s_iload hX dX6_badnessOf_10 rfl ?_
      refine s_aload_n hX dX6_badnessOf_12 rfl ?_
      refine s_getI (x := nI (pP pr)) hX dX6_badnessOf_13 fl_X6_9 rfl rfl (by omega) hp.1 ?_
      refine s_icmp_ge_n (tgt := 91) hX dX6_badnessOf_16 (by decide) (by omega) (by omega) (fun q16 => ?_) (fun q16 => ?_)
      · refine s_iload_n hX dX6_badnessOf_91 rfl ?_
        refine s_if_le_n (tgt := 102) hX dX6_badnessOf_92 (by decide) (by omega) (fun q92 => ?_) (fun q92 => ?_)
        · refine s_iload hX dX6_badnessOf_102 rfl ?_
          refine s_if_eq_n (tgt := 111) hX dX6_badnessOf_104 (by decide) (by omega) (fun q104 => ?_) (fun q104 => ?_)
          · refine s_iconst (v := nI 0) hX dX6_badnessOf_111 (by decide) ?_
            refine s_iret hX dX6_badnessOf_112 rfl rfl ?_
            refine ⟨?_, rfl⟩
            have hb2 : (bdR pr v (pP pr)).2.2 = true ↔ s = 1 := by rw [hs]; cases (bdR pr v (pP pr)).2.2 <;> decide
            unfold bdF
            split
            · first | rfl | (exfalso; omega)
            · split
              · rename_i c9 c8
                have := hb2.mp c8
                first | rfl | (exfalso; omega)
              · rename_i c9 c8
                have : ¬ s = 1 := fun q => c8 (hb2.mpr q)
                first | rfl | (exfalso; omega)
          · refine s_iconst (v := nI 5) hX dX6_badnessOf_107 (by decide) ?_
            refine s_goto (tgt := 112) hX dX6_badnessOf_108 (by decide) ?_
            refine s_iret hX dX6_badnessOf_112 rfl rfl ?_
            refine ⟨?_, rfl⟩
            have hb2 : (bdR pr v (pP pr)).2.2 = true ↔ s = 1 := by rw [hs]; cases (bdR pr v (pP pr)).2.2 <;> decide
            unfold bdF
            split
            · first | rfl | (exfalso; omega)
            · split
              · rename_i c9 c8
                have := hb2.mp c8
                first | rfl | (exfalso; omega)
              · rename_i c9 c8
                have : ¬ s = 1 := fun q => c8 (hb2.mpr q)
                first | rfl | (exfalso; omega)
        · refine s_iload_n hX dX6_badnessOf_95 rfl ?_
          refine s_iconst (v := nI 1) hX dX6_badnessOf_96 (by decide) ?_
          refine s_icmp_le_n (tgt := 102) hX dX6_badnessOf_97 (by decide) (by omega) (by omega) (fun q97 => ?_) (fun q97 => ?_)
          · refine s_iload hX dX6_badnessOf_102 rfl ?_
            refine s_if_eq_n (tgt := 111) hX dX6_badnessOf_104 (by decide) (by omega) (fun q104 => ?_) (fun q104 => ?_)
            · refine s_iconst (v := nI 0) hX dX6_badnessOf_111 (by decide) ?_
              refine s_iret hX dX6_badnessOf_112 rfl rfl ?_
              refine ⟨?_, rfl⟩
              have hb2 : (bdR pr v (pP pr)).2.2 = true ↔ s = 1 := by rw [hs]; cases (bdR pr v (pP pr)).2.2 <;> decide
              unfold bdF
              split
              · first | rfl | (exfalso; omega)
              · split
                · rename_i c9 c8
                  have := hb2.mp c8
                  first | rfl | (exfalso; omega)
                · rename_i c9 c8
                  have : ¬ s = 1 := fun q => c8 (hb2.mpr q)
                  first | rfl | (exfalso; omega)
            · refine s_iconst (v := nI 5) hX dX6_badnessOf_107 (by decide) ?_
              refine s_goto (tgt := 112) hX dX6_badnessOf_108 (by decide) ?_
              refine s_iret hX dX6_badnessOf_112 rfl rfl ?_
              refine ⟨?_, rfl⟩
              have hb2 : (bdR pr v (pP pr)).2.2 = true ↔ s = 1 := by rw [hs]; cases (bdR pr v (pP pr)).2.2 <;> decide
              unfold bdF
              split
              · first | rfl | (exfalso; omega)
              · split
                · rename_i c9 c8
                  have := hb2.mp c8
                  first | rfl | (exfalso; omega)
                · rename_i c9 c8
                  have : ¬ s = 1 := fun q => c8 (hb2.mpr q)
                  first | rfl | (exfalso; omega)
          · refine s_iconst (v := nI 4) hX dX6_badnessOf_100 (by decide) ?_
            refine s_iret hX dX6_badnessOf_101 rfl rfl ?_
            refine ⟨?_, rfl⟩
            have hb2 : (bdR pr v (pP pr)).2.2 = true ↔ s = 1 := by rw [hs]; cases (bdR pr v (pP pr)).2.2 <;> decide
            unfold bdF
            split
            · first | rfl | (exfalso; omega)
            · split
              · rename_i c9 c8
                have := hb2.mp c8
                first | rfl | (exfalso; omega)
              · rename_i c9 c8
                have : ¬ s = 1 := fun q => c8 (hb2.mpr q)
                first | rfl | (exfalso; omega)
      · omega
    | succ d ih =>
      intro p w e s x6 hd hw he hs
      have hb := bdR_le pr v p
      have hs2 : s ≤ 1 := by rw [hs]; exact Bool.toNat_le _
      have hst := (hv.1 p (by omega)).1
      have hfr := (hv.1 p (by omega)).2.1
      have hri := hk.2.2.1 (v (3 * p))
      refine s_iload hX dX6_badnessOf_10 rfl ?_
      refine s_aload_n hX dX6_badnessOf_12 rfl ?_
      refine s_getI (x := nI (pP pr)) hX dX6_badnessOf_13 fl_X6_9 rfl rfl (by omega) hp.1 ?_
      refine s_icmp_ge_n (tgt := 91) hX dX6_badnessOf_16 (by decide) (by omega) (by omega) (fun q16 => ?_) (fun q16 => ?_)
      · omega
      · refine s_aload_n hX dX6_badnessOf_19 rfl ?_
        refine s_getR hX dX6_badnessOf_20 fl_X6_19 rfl rfl (by omega) ?_
        refine s_aload_n hX dX6_badnessOf_23 rfl ?_
        refine s_iload hX dX6_badnessOf_24 rfl ?_
        refine s_callVi (as := [_]) hX dX6_badnessOf_26 mk_X7_stateOf lk_X6_67 (c_X7_stateOf ho h hk hv _ (by omega)) ho.1 (by omega) rfl rfl rfl ⟨rfl, rfl⟩ (Nat.le_of_ble_eq_true rfl) (Nat.le_of_ble_eq_true rfl) (Nat.le_of_ble_eq_true rfl) rfl (fun v26 σ26 p26 => ?_)
        obtain ⟨rfl, ep⟩ := p26
        replace ep := ep.symm
        subst ep
        rw [ix0 (by omega)]
        refine s_iald (x := nI (pRi pr (v (3 * p)))) hX dX6_badnessOf_29 rfl (by omega) (by omega) (by decide) (hp.2.2.1 _ hst) ?_
        refine s_istore hX dX6_badnessOf_30 (Nat.le_of_ble_eq_true rfl) rfl st_7_6 ?_
        refine s_iload_n hX dX6_badnessOf_32 rfl ?_
        refine s_iload hX dX6_badnessOf_33 rfl ?_
        refine s_iconst (v := nI 2) hX dX6_badnessOf_35 (by decide) ?_
        refine s_icmp_ne_n (tgt := 43) hX dX6_badnessOf_36 (by decide) (by omega) (by omega) (fun q36 => ?_) (fun q36 => ?_)
        · refine s_iconst (v := nI 0) hX dX6_badnessOf_43 (by decide) ?_
          refine s_iadd_n hX dX6_badnessOf_44 ?_
          refine s_istore_n hX dX6_badnessOf_45 (Nat.le_of_ble_eq_true rfl) rfl st_7_2 ?_
          refine s_iload_n hX dX6_badnessOf_46 rfl ?_
          refine s_iload hX dX6_badnessOf_47 rfl ?_
          refine s_iconst (v := nI 1) hX dX6_badnessOf_49 (by decide) ?_
          refine s_icmp_lt_n (tgt := 57) hX dX6_badnessOf_50 (by decide) (by omega) (by omega) (fun q50 => ?_) (fun q50 => ?_)
          · refine s_iconst (v := nI 0) hX dX6_badnessOf_57 (by decide) ?_
            refine s_iadd_n hX dX6_badnessOf_58 ?_
            refine s_istore_n hX dX6_badnessOf_59 (Nat.le_of_ble_eq_true rfl) rfl st_7_3 ?_
            refine s_iload hX dX6_badnessOf_60 rfl ?_
            refine s_iload hX dX6_badnessOf_62 rfl ?_
            refine s_iconst (v := nI 1) hX dX6_badnessOf_64 (by decide) ?_
            refine s_icmp_lt_n (tgt := 81) hX dX6_badnessOf_65 (by decide) (by omega) (by omega) (fun q65 => ?_) (fun q65 => ?_)
            · refine s_iconst (v := nI 0) hX dX6_badnessOf_81 (by decide) ?_
              refine s_ior_n hX dX6_badnessOf_82 ?_
              refine s_istore hX dX6_badnessOf_83 (Nat.le_of_ble_eq_true rfl) rfl st_7_4 ?_
              refine s_iinc_n (c := 1) hX dX6_badnessOf_85 rfl (by decide) rfl st_7_5 ?_
              refine s_goto (tgt := 10) hX dX6_badnessOf_88 (by decide) ?_
              refine ih _ _ _ _ _ (by omega) ?_ ?_ ?_
              · show _ = (bdR pr v p).1 + _
                rw [hw]
                split <;> omega
              · show _ = (bdR pr v p).2.1 + _
                rw [he]
                split <;> omega
              · show _ = ((bdR pr v p).2.2 || decide (0 < pRi pr (v (3 * p)) ∧ v (3 * p + 1) = 0)).toNat
                rw [hs]
                by_cases c9 : 0 < pRi pr (v (3 * p)) ∧ v (3 * p + 1) = 0
                · rw [decide_eq_true c9]
                  first | (exfalso; omega) | (cases (bdR pr v p).2.2 <;> rfl)
                · rw [decide_eq_false c9]
                  first | (exfalso; omega) | (cases (bdR pr v p).2.2 <;> rfl)
            · refine s_aload_n hX dX6_badnessOf_68 rfl ?_
              refine s_iload hX dX6_badnessOf_69 rfl ?_
              refine s_callVi (as := [_]) hX dX6_badnessOf_71 mk_X7_freshOf lk_X6_82 (c_X7_freshOf ho h hk hv _ (by omega)) ho.1 (by omega) rfl rfl rfl ⟨rfl, rfl⟩ (Nat.le_of_ble_eq_true rfl) (Nat.le_of_ble_eq_true rfl) (Nat.le_of_ble_eq_true rfl) rfl (fun v71 σ71 p71 => ?_)
              obtain ⟨rfl, ep⟩ := p71
              replace ep := ep.symm
              subst ep
              rw [ix1 (by omega)]
              refine s_if_ne_n (tgt := 81) hX dX6_badnessOf_74 (by decide) (by omega) (fun q74 => ?_) (fun q74 => ?_)
              · refine s_iconst (v := nI 0) hX dX6_badnessOf_81 (by decide) ?_
                refine s_ior_n hX dX6_badnessOf_82 ?_
                refine s_istore hX dX6_badnessOf_83 (Nat.le_of_ble_eq_true rfl) rfl st_7_4 ?_
                refine s_iinc_n (c := 1) hX dX6_badnessOf_85 rfl (by decide) rfl st_7_5 ?_
                refine s_goto (tgt := 10) hX dX6_badnessOf_88 (by decide) ?_
                refine ih _ _ _ _ _ (by omega) ?_ ?_ ?_
                · show _ = (bdR pr v p).1 + _
                  rw [hw]
                  split <;> omega
                · show _ = (bdR pr v p).2.1 + _
                  rw [he]
                  split <;> omega
                · show _ = ((bdR pr v p).2.2 || decide (0 < pRi pr (v (3 * p)) ∧ v (3 * p + 1) = 0)).toNat
                  rw [hs]
                  by_cases c9 : 0 < pRi pr (v (3 * p)) ∧ v (3 * p + 1) = 0
                  · rw [decide_eq_true c9]
                    first | (exfalso; omega) | (cases (bdR pr v p).2.2 <;> rfl)
                  · rw [decide_eq_false c9]
                    first | (exfalso; omega) | (cases (bdR pr v p).2.2 <;> rfl)
              · refine s_iconst (v := nI 1) hX dX6_badnessOf_77 (by decide) ?_
                refine s_goto (tgt := 82) hX dX6_badnessOf_78 (by decide) ?_
                refine s_ior_n hX dX6_badnessOf_82 ?_
                refine s_istore hX dX6_badnessOf_83 (Nat.le_of_ble_eq_true rfl) rfl st_7_4 ?_
                refine s_iinc_n (c := 1) hX dX6_badnessOf_85 rfl (by decide) rfl st_7_5 ?_
                refine s_goto (tgt := 10) hX dX6_badnessOf_88 (by decide) ?_
                refine ih _ _ _ _ _ (by omega) ?_ ?_ ?_
                · show _ = (bdR pr v p).1 + _
                  rw [hw]
                  split <;> omega
                · show _ = (bdR pr v p).2.1 + _
                  rw [he]
                  split <;> omega
                · show _ = ((bdR pr v p).2.2 || decide (0 < pRi pr (v (3 * p)) ∧ v (3 * p + 1) = 0)).toNat
                  rw [hs]
                  by_cases c9 : 0 < pRi pr (v (3 * p)) ∧ v (3 * p + 1) = 0
                  · rw [decide_eq_true c9]
                    first | (exfalso; omega) | (cases (bdR pr v p).2.2 <;> rfl)
                  · rw [decide_eq_false c9]
                    first | (exfalso; omega) | (cases (bdR pr v p).2.2 <;> rfl)
          · refine s_iconst (v := nI 1) hX dX6_badnessOf_53 (by decide) ?_
            refine s_goto (tgt := 58) hX dX6_badnessOf_54 (by decide) ?_
            refine s_iadd_n hX dX6_badnessOf_58 ?_
            refine s_istore_n hX dX6_badnessOf_59 (Nat.le_of_ble_eq_true rfl) rfl st_7_3 ?_
            refine s_iload hX dX6_badnessOf_60 rfl ?_
            refine s_iload hX dX6_badnessOf_62 rfl ?_
            refine s_iconst (v := nI 1) hX dX6_badnessOf_64 (by decide) ?_
            refine s_icmp_lt_n (tgt := 81) hX dX6_badnessOf_65 (by decide) (by omega) (by omega) (fun q65 => ?_) (fun q65 => ?_)
            · refine s_iconst (v := nI 0) hX dX6_badnessOf_81 (by decide) ?_
              refine s_ior_n hX dX6_badnessOf_82 ?_
              refine s_istore hX dX6_badnessOf_83 (Nat.le_of_ble_eq_true rfl) rfl st_7_4 ?_
              refine s_iinc_n (c := 1) hX dX6_badnessOf_85 rfl (by decide) rfl st_7_5 ?_
              refine s_goto (tgt := 10) hX dX6_badnessOf_88 (by decide) ?_
              refine ih _ _ _ _ _ (by omega) ?_ ?_ ?_
              · show _ = (bdR pr v p).1 + _
                rw [hw]
                split <;> omega
              · show _ = (bdR pr v p).2.1 + _
                rw [he]
                split <;> omega
              · show _ = ((bdR pr v p).2.2 || decide (0 < pRi pr (v (3 * p)) ∧ v (3 * p + 1) = 0)).toNat
                rw [hs]
                by_cases c9 : 0 < pRi pr (v (3 * p)) ∧ v (3 * p + 1) = 0
                · rw [decide_eq_true c9]
                  first | (exfalso; omega) | (cases (bdR pr v p).2.2 <;> rfl)
                · rw [decide_eq_false c9]
                  first | (exfalso; omega) | (cases (bdR pr v p).2.2 <;> rfl)
            · refine s_aload_n hX dX6_badnessOf_68 rfl ?_
              refine s_iload hX dX6_badnessOf_69 rfl ?_
              refine s_callVi (as := [_]) hX dX6_badnessOf_71 mk_X7_freshOf lk_X6_82 (c_X7_freshOf ho h hk hv _ (by omega)) ho.1 (by omega) rfl rfl rfl ⟨rfl, rfl⟩ (Nat.le_of_ble_eq_true rfl) (Nat.le_of_ble_eq_true rfl) (Nat.le_of_ble_eq_true rfl) rfl (fun v71 σ71 p71 => ?_)
              obtain ⟨rfl, ep⟩ := p71
              replace ep := ep.symm
              subst ep
              rw [ix1 (by omega)]
              refine s_if_ne_n (tgt := 81) hX dX6_badnessOf_74 (by decide) (by omega) (fun q74 => ?_) (fun q74 => ?_)
              · refine s_iconst (v := nI 0) hX dX6_badnessOf_81 (by decide) ?_
                refine s_ior_n hX dX6_badnessOf_82 ?_
                refine s_istore hX dX6_badnessOf_83 (Nat.le_of_ble_eq_true rfl) rfl st_7_4 ?_
                refine s_iinc_n (c := 1) hX dX6_badnessOf_85 rfl (by decide) rfl st_7_5 ?_
                refine s_goto (tgt := 10) hX dX6_badnessOf_88 (by decide) ?_
                refine ih _ _ _ _ _ (by omega) ?_ ?_ ?_
                · show _ = (bdR pr v p).1 + _
                  rw [hw]
                  split <;> omega
                · show _ = (bdR pr v p).2.1 + _
                  rw [he]
                  split <;> omega
                · show _ = ((bdR pr v p).2.2 || decide (0 < pRi pr (v (3 * p)) ∧ v (3 * p + 1) = 0)).toNat
                  rw [hs]
                  by_cases c9 : 0 < pRi pr (v (3 * p)) ∧ v (3 * p + 1) = 0
                  · rw [decide_eq_true c9]
                    first | (exfalso; omega) | (cases (bdR pr v p).2.2 <;> rfl)
                  · rw [decide_eq_false c9]
                    first | (exfalso; omega) | (cases (bdR pr v p).2.2 <;> rfl)
              · refine s_iconst (v := nI 1) hX dX6_badnessOf_77 (by decide) ?_
                refine s_goto (tgt := 82) hX dX6_badnessOf_78 (by decide) ?_
                refine s_ior_n hX dX6_badnessOf_82 ?_
                refine s_istore hX dX6_badnessOf_83 (Nat.le_of_ble_eq_true rfl) rfl st_7_4 ?_
                refine s_iinc_n (c := 1) hX dX6_badnessOf_85 rfl (by decide) rfl st_7_5 ?_
                refine s_goto (tgt := 10) hX dX6_badnessOf_88 (by decide) ?_
                refine ih _ _ _ _ _ (by omega) ?_ ?_ ?_
                · show _ = (bdR pr v p).1 + _
                  rw [hw]
                  split <;> omega
                · show _ = (bdR pr v p).2.1 + _
                  rw [he]
                  split <;> omega
                · show _ = ((bdR pr v p).2.2 || decide (0 < pRi pr (v (3 * p)) ∧ v (3 * p + 1) = 0)).toNat
                  rw [hs]
                  by_cases c9 : 0 < pRi pr (v (3 * p)) ∧ v (3 * p + 1) = 0
                  · rw [decide_eq_true c9]
                    first | (exfalso; omega) | (cases (bdR pr v p).2.2 <;> rfl)
                  · rw [decide_eq_false c9]
                    first | (exfalso; omega) | (cases (bdR pr v p).2.2 <;> rfl)
        · refine s_iconst (v := nI 1) hX dX6_badnessOf_39 (by decide) ?_
          refine s_goto (tgt := 44) hX dX6_badnessOf_40 (by decide) ?_
          refine s_iadd_n hX dX6_badnessOf_44 ?_
          refine s_istore_n hX dX6_badnessOf_45 (Nat.le_of_ble_eq_true rfl) rfl st_7_2 ?_
          refine s_iload_n hX dX6_badnessOf_46 rfl ?_
          refine s_iload hX dX6_badnessOf_47 rfl ?_
          refine s_iconst (v := nI 1) hX dX6_badnessOf_49 (by decide) ?_
          refine s_icmp_lt_n (tgt := 57) hX dX6_badnessOf_50 (by decide) (by omega) (by omega) (fun q50 => ?_) (fun q50 => ?_)
          · refine s_iconst (v := nI 0) hX dX6_badnessOf_57 (by decide) ?_
            refine s_iadd_n hX dX6_badnessOf_58 ?_
            refine s_istore_n hX dX6_badnessOf_59 (Nat.le_of_ble_eq_true rfl) rfl st_7_3 ?_
            refine s_iload hX dX6_badnessOf_60 rfl ?_
            refine s_iload hX dX6_badnessOf_62 rfl ?_
            refine s_iconst (v := nI 1) hX dX6_badnessOf_64 (by decide) ?_
            refine s_icmp_lt_n (tgt := 81) hX dX6_badnessOf_65 (by decide) (by omega) (by omega) (fun q65 => ?_) (fun q65 => ?_)
            · refine s_iconst (v := nI 0) hX dX6_badnessOf_81 (by decide) ?_
              refine s_ior_n hX dX6_badnessOf_82 ?_
              refine s_istore hX dX6_badnessOf_83 (Nat.le_of_ble_eq_true rfl) rfl st_7_4 ?_
              refine s_iinc_n (c := 1) hX dX6_badnessOf_85 rfl (by decide) rfl st_7_5 ?_
              refine s_goto (tgt := 10) hX dX6_badnessOf_88 (by decide) ?_
              refine ih _ _ _ _ _ (by omega) ?_ ?_ ?_
              · show _ = (bdR pr v p).1 + _
                rw [hw]
                split <;> omega
              · show _ = (bdR pr v p).2.1 + _
                rw [he]
                split <;> omega
              · show _ = ((bdR pr v p).2.2 || decide (0 < pRi pr (v (3 * p)) ∧ v (3 * p + 1) = 0)).toNat
                rw [hs]
                by_cases c9 : 0 < pRi pr (v (3 * p)) ∧ v (3 * p + 1) = 0
                · rw [decide_eq_true c9]
                  first | (exfalso; omega) | (cases (bdR pr v p).2.2 <;> rfl)
                · rw [decide_eq_false c9]
                  first | (exfalso; omega) | (cases (bdR pr v p).2.2 <;> rfl)
            · refine s_aload_n hX dX6_badnessOf_68 rfl ?_
              refine s_iload hX dX6_badnessOf_69 rfl ?_
              refine s_callVi (as := [_]) hX dX6_badnessOf_71 mk_X7_freshOf lk_X6_82 (c_X7_freshOf ho h hk hv _ (by omega)) ho.1 (by omega) rfl rfl rfl ⟨rfl, rfl⟩ (Nat.le_of_ble_eq_true rfl) (Nat.le_of_ble_eq_true rfl) (Nat.le_of_ble_eq_true rfl) rfl (fun v71 σ71 p71 => ?_)
              obtain ⟨rfl, ep⟩ := p71
              replace ep := ep.symm
              subst ep
              rw [ix1 (by omega)]
              refine s_if_ne_n (tgt := 81) hX dX6_badnessOf_74 (by decide) (by omega) (fun q74 => ?_) (fun q74 => ?_)
              · refine s_iconst (v := nI 0) hX dX6_badnessOf_81 (by decide) ?_
                refine s_ior_n hX dX6_badnessOf_82 ?_
                refine s_istore hX dX6_badnessOf_83 (Nat.le_of_ble_eq_true rfl) rfl st_7_4 ?_
                refine s_iinc_n (c := 1) hX dX6_badnessOf_85 rfl (by decide) rfl st_7_5 ?_
                refine s_goto (tgt := 10) hX dX6_badnessOf_88 (by decide) ?_
                refine ih _ _ _ _ _ (by omega) ?_ ?_ ?_
                · show _ = (bdR pr v p).1 + _
                  rw [hw]
                  split <;> omega
                · show _ = (bdR pr v p).2.1 + _
                  rw [he]
                  split <;> omega
                · show _ = ((bdR pr v p).2.2 || decide (0 < pRi pr (v (3 * p)) ∧ v (3 * p + 1) = 0)).toNat
                  rw [hs]
                  by_cases c9 : 0 < pRi pr (v (3 * p)) ∧ v (3 * p + 1) = 0
                  · rw [decide_eq_true c9]
                    first | (exfalso; omega) | (cases (bdR pr v p).2.2 <;> rfl)
                  · rw [decide_eq_false c9]
                    first | (exfalso; omega) | (cases (bdR pr v p).2.2 <;> rfl)
              · refine s_iconst (v := nI 1) hX dX6_badnessOf_77 (by decide) ?_
                refine s_goto (tgt := 82) hX dX6_badnessOf_78 (by decide) ?_
                refine s_ior_n hX dX6_badnessOf_82 ?_
                refine s_istore hX dX6_badnessOf_83 (Nat.le_of_ble_eq_true rfl) rfl st_7_4 ?_
                refine s_iinc_n (c := 1) hX dX6_badnessOf_85 rfl (by decide) rfl st_7_5 ?_
                refine s_goto (tgt := 10) hX dX6_badnessOf_88 (by decide) ?_
                refine ih _ _ _ _ _ (by omega) ?_ ?_ ?_
                · show _ = (bdR pr v p).1 + _
                  rw [hw]
                  split <;> omega
                · show _ = (bdR pr v p).2.1 + _
                  rw [he]
                  split <;> omega
                · show _ = ((bdR pr v p).2.2 || decide (0 < pRi pr (v (3 * p)) ∧ v (3 * p + 1) = 0)).toNat
                  rw [hs]
                  by_cases c9 : 0 < pRi pr (v (3 * p)) ∧ v (3 * p + 1) = 0
                  · rw [decide_eq_true c9]
                    first | (exfalso; omega) | (cases (bdR pr v p).2.2 <;> rfl)
                  · rw [decide_eq_false c9]
                    first | (exfalso; omega) | (cases (bdR pr v p).2.2 <;> rfl)
          · refine s_iconst (v := nI 1) hX dX6_badnessOf_53 (by decide) ?_
            refine s_goto (tgt := 58) hX dX6_badnessOf_54 (by decide) ?_
            refine s_iadd_n hX dX6_badnessOf_58 ?_
            refine s_istore_n hX dX6_badnessOf_59 (Nat.le_of_ble_eq_true rfl) rfl st_7_3 ?_
            refine s_iload hX dX6_badnessOf_60 rfl ?_
            refine s_iload hX dX6_badnessOf_62 rfl ?_
            refine s_iconst (v := nI 1) hX dX6_badnessOf_64 (by decide) ?_
            refine s_icmp_lt_n (tgt := 81) hX dX6_badnessOf_65 (by decide) (by omega) (by omega) (fun q65 => ?_) (fun q65 => ?_)
            · refine s_iconst (v := nI 0) hX dX6_badnessOf_81 (by decide) ?_
              refine s_ior_n hX dX6_badnessOf_82 ?_
              refine s_istore hX dX6_badnessOf_83 (Nat.le_of_ble_eq_true rfl) rfl st_7_4 ?_
              refine s_iinc_n (c := 1) hX dX6_badnessOf_85 rfl (by decide) rfl st_7_5 ?_
              refine s_goto (tgt := 10) hX dX6_badnessOf_88 (by decide) ?_
              refine ih _ _ _ _ _ (by omega) ?_ ?_ ?_
              · show _ = (bdR pr v p).1 + _
                rw [hw]
                split <;> omega
              · show _ = (bdR pr v p).2.1 + _
                rw [he]
                split <;> omega
              · show _ = ((bdR pr v p).2.2 || decide (0 < pRi pr (v (3 * p)) ∧ v (3 * p + 1) = 0)).toNat
                rw [hs]
                by_cases c9 : 0 < pRi pr (v (3 * p)) ∧ v (3 * p + 1) = 0
                · rw [decide_eq_true c9]
                  first | (exfalso; omega) | (cases (bdR pr v p).2.2 <;> rfl)
                · rw [decide_eq_false c9]
                  first | (exfalso; omega) | (cases (bdR pr v p).2.2 <;> rfl)
            · refine s_aload_n hX dX6_badnessOf_68 rfl ?_
              refine s_iload hX dX6_badnessOf_69 rfl ?_
              refine s_callVi (as := [_]) hX dX6_badnessOf_71 mk_X7_freshOf lk_X6_82 (c_X7_freshOf ho h hk hv _ (by omega)) ho.1 (by omega) rfl rfl rfl ⟨rfl, rfl⟩ (Nat.le_of_ble_eq_true rfl) (Nat.le_of_ble_eq_true rfl) (Nat.le_of_ble_eq_true rfl) rfl (fun v71 σ71 p71 => ?_)
              obtain ⟨rfl, ep⟩ := p71
              replace ep := ep.symm
              subst ep
              rw [ix1 (by omega)]
              refine s_if_ne_n (tgt := 81) hX dX6_badnessOf_74 (by decide) (by omega) (fun q74 => ?_) (fun q74 => ?_)
              · refine s_iconst (v := nI 0) hX dX6_badnessOf_81 (by decide) ?_
                refine s_ior_n hX dX6_badnessOf_82 ?_
                refine s_istore hX dX6_badnessOf_83 (Nat.le_of_ble_eq_true rfl) rfl st_7_4 ?_
                refine s_iinc_n (c := 1) hX dX6_badnessOf_85 rfl (by decide) rfl st_7_5 ?_
                refine s_goto (tgt := 10) hX dX6_badnessOf_88 (by decide) ?_
                refine ih _ _ _ _ _ (by omega) ?_ ?_ ?_
                · show _ = (bdR pr v p).1 + _
                  rw [hw]
                  split <;> omega
                · show _ = (bdR pr v p).2.1 + _
                  rw [he]
                  split <;> omega
                · show _ = ((bdR pr v p).2.2 || decide (0 < pRi pr (v (3 * p)) ∧ v (3 * p + 1) = 0)).toNat
                  rw [hs]
                  by_cases c9 : 0 < pRi pr (v (3 * p)) ∧ v (3 * p + 1) = 0
                  · rw [decide_eq_true c9]
                    first | (exfalso; omega) | (cases (bdR pr v p).2.2 <;> rfl)
                  · rw [decide_eq_false c9]
                    first | (exfalso; omega) | (cases (bdR pr v p).2.2 <;> rfl)
              · refine s_iconst (v := nI 1) hX dX6_badnessOf_77 (by decide) ?_
                refine s_goto (tgt := 82) hX dX6_badnessOf_78 (by decide) ?_
                refine s_ior_n hX dX6_badnessOf_82 ?_
                refine s_istore hX dX6_badnessOf_83 (Nat.le_of_ble_eq_true rfl) rfl st_7_4 ?_
                refine s_iinc_n (c := 1) hX dX6_badnessOf_85 rfl (by decide) rfl st_7_5 ?_
                refine s_goto (tgt := 10) hX dX6_badnessOf_88 (by decide) ?_
                refine ih _ _ _ _ _ (by omega) ?_ ?_ ?_
                · show _ = (bdR pr v p).1 + _
                  rw [hw]
                  split <;> omega
                · show _ = (bdR pr v p).2.1 + _
                  rw [he]
                  split <;> omega
                · show _ = ((bdR pr v p).2.2 || decide (0 < pRi pr (v (3 * p)) ∧ v (3 * p + 1) = 0)).toNat
                  rw [hs]
                  by_cases c9 : 0 < pRi pr (v (3 * p)) ∧ v (3 * p + 1) = 0
                  · rw [decide_eq_true c9]
                    first | (exfalso; omega) | (cases (bdR pr v p).2.2 <;> rfl)
                  · rw [decide_eq_false c9]
                    first | (exfalso; omega) | (cases (bdR pr v p).2.2 <;> rfl)
  refine s_iconst (v := nI 0) hX dX6_badnessOf_0 (by decide) ?_
  refine s_istore_n hX dX6_badnessOf_1 (Nat.le_of_ble_eq_true rfl) rfl st_7_2 ?_
  refine s_iconst (v := nI 0) hX dX6_badnessOf_2 (by decide) ?_
  refine s_istore_n hX dX6_badnessOf_3 (Nat.le_of_ble_eq_true rfl) rfl st_7_3 ?_
  refine s_iconst (v := nI 0) hX dX6_badnessOf_4 (by decide) ?_
  refine s_istore hX dX6_badnessOf_5 (Nat.le_of_ble_eq_true rfl) rfl st_7_4 ?_
  refine s_iconst (v := nI 0) hX dX6_badnessOf_7 (by decide) ?_
  refine s_istore hX dX6_badnessOf_8 (Nat.le_of_ble_eq_true rfl) rfl st_7_5 ?_
  exact LP (pP pr) 0 0 0 0 _ (by omega) rfl rfl rfl
def IsSl (o n : Nat) : Prop := sh o = .inl (8, [some (some 1), some (some (o + 1)), some (some (o + 2)), some (some (o + 3)), some (some (o + 4)), some (some (o + 5)), none]) ∧ sh (o + 1) = .inr (0, 20) ∧ sh (o + 2) = .inr (0, 20) ∧ sh (o + 3) = .inr (0, 20) ∧ sh (o + 4) = .inr (0, 20) ∧ sh (o + 5) = .inr (0, 20) ∧ o + 5 < n
def SlC (pr : Pr) (v : Vc) (σ : Sg) (o : Nat) (l : List Sp) : Prop := (σ o).1 6 = nI l.length ∧ ∀ (i : Nat) (s : Sp), l[i]? = some s → (σ (o + 1)).1 i = nI s.1 ∧ (σ (o + 2)).1 i = nI s.2.1 ∧ (σ (o + 3)).1 i = frI s ∧ (σ (o + 4)).1 i = ltI s ∧ (σ (o + 5)).1 i = nI (plcF pr v s)
abbrev sl6 (o : Nat) : List Nat := [o, o + 1, o + 2, o + 3, o + 4, o + 5]
theorem SlC.kept {pr : Pr} {v : Vc} {σ σ2 : Sg} {o : Nat} {l : List Sp} (h : SlC pr v σ o l) (e : ∀ a, o ≤ a → a ≤ o + 5 → σ2 a = σ a) : SlC pr v σ2 o l := by
  refine ⟨by rw [e o (by omega) (by omega)]; exact h.1, fun i s hi => ?_⟩
  rw [e (o + 1) (by omega) (by omega), e (o + 2) (by omega) (by omega), e (o + 3) (by omega) (by omega), e (o + 4) (by omega) (by omega), e (o + 5) (by omega) (by omega)]
  exact h.2 i s hi
theorem Off.out {σ σ2 : Sg} {o a : Nat} (f : Off σ σ2 (sl6 o)) (h : a < o ∨ o + 5 < a) : σ2 a = σ a := f a (by simp only [List.mem_cons, List.not_mem_nil, or_false]; omega)
theorem Off.out2 {σ σ2 : Sg} {o a : Nat} (f : Off σ σ2 [o, o + 1]) (h : a < o ∨ o + 1 < a) : σ2 a = σ a := f a (by simp only [List.mem_cons, List.not_mem_nil, or_false]; omega)
set_option maxRecDepth 100000 in
set_option maxHeartbeats 4000000 in
theorem c_X9_count {n : Nat} {σ : Sg} {o : Nat} {pr : Pr} {v : Vc} {l : List Sp} (ho : IsSl o n) (h : SlC pr v σ o l) : Sm n mX9_count [.ref o] σ (qi fun r σ2 => r = nI l.length ∧ σ2 = σ) := by
  refine Sm.of mk_X9_count (Nat.le_of_ble_eq_true rfl) rfl (fun X hX => ?_)
  obtain ⟨ho1, ho2, ho3, ho4, ho5, ho6, ho7⟩ := ho
  refine s_aload_n hX dX9_count_0 rfl ?_
  refine s_getI (x := nI (l.length)) hX dX9_count_1 fl_X9_31 ho1 rfl (by omega) h.1 ?_
  refine s_iret hX dX9_count_4 rfl rfl ?_
  exact ⟨rfl, rfl⟩
set_option maxRecDepth 100000 in
set_option maxHeartbeats 4000000 in
theorem c_X9_endOf {n : Nat} {σ : Sg} {o : Nat} {pr : Pr} {v : Vc} {l : List Sp} (ho : IsSl o n) (h : SlC pr v σ o l) (i : Nat) (hi : i < 20) (s : Sp) (hs : l[i]? = some s) : Sm n mX9_endOf [.ref o, .int (nI i)] σ (qi fun r σ2 => r = nI s.1 ∧ σ2 = σ) := by
  refine Sm.of mk_X9_endOf (Nat.le_of_ble_eq_true rfl) rfl (fun X hX => ?_)
  obtain ⟨ho1, ho2, ho3, ho4, ho5, ho6, ho7⟩ := ho
  refine s_aload_n hX dX9_endOf_0 rfl ?_
  refine s_getR hX dX9_endOf_1 fl_X9_15 ho1 rfl (by omega) ?_
  refine s_iload_n hX dX9_endOf_4 rfl ?_
  refine s_iald (x := nI (s.1)) hX dX9_endOf_5 ho2 (by omega) (by omega) (by decide) (h.2 i s hs).1 ?_
  refine s_iret hX dX9_endOf_6 rfl rfl ?_
  exact ⟨rfl, rfl⟩
set_option maxRecDepth 100000 in
set_option maxHeartbeats 4000000 in
theorem c_X9_eventOf {n : Nat} {σ : Sg} {o : Nat} {pr : Pr} {v : Vc} {l : List Sp} (ho : IsSl o n) (h : SlC pr v σ o l) (i : Nat) (hi : i < 20) (s : Sp) (hs : l[i]? = some s) : Sm n mX9_eventOf [.ref o, .int (nI i)] σ (qi fun r σ2 => r = nI s.2.1 ∧ σ2 = σ) := by
  refine Sm.of mk_X9_eventOf (Nat.le_of_ble_eq_true rfl) rfl (fun X hX => ?_)
  obtain ⟨ho1, ho2, ho3, ho4, ho5, ho6, ho7⟩ := ho
  refine s_aload_n hX dX9_eventOf_0 rfl ?_
  refine s_getR hX dX9_eventOf_1 fl_X9_19 ho1 rfl (by omega) ?_
  refine s_iload_n hX dX9_eventOf_4 rfl ?_
  refine s_iald (x := nI (s.2.1)) hX dX9_eventOf_5 ho3 (by omega) (by omega) (by decide) (h.2 i s hs).2.1 ?_
  refine s_iret hX dX9_eventOf_6 rfl rfl ?_
  exact ⟨rfl, rfl⟩
set_option maxRecDepth 100000 in
set_option maxHeartbeats 4000000 in
theorem c_X9_senderOf {n : Nat} {σ : Sg} {o : Nat} {pr : Pr} {v : Vc} {l : List Sp} (ho : IsSl o n) (h : SlC pr v σ o l) (i : Nat) (hi : i < 20) (s : Sp) (hs : l[i]? = some s) : Sm n mX9_senderOf [.ref o, .int (nI i)] σ (qi fun r σ2 => r = frI s ∧ σ2 = σ) := by
  refine Sm.of mk_X9_senderOf (Nat.le_of_ble_eq_true rfl) rfl (fun X hX => ?_)
  obtain ⟨ho1, ho2, ho3, ho4, ho5, ho6, ho7⟩ := ho
  refine s_aload_n hX dX9_senderOf_0 rfl ?_
  refine s_getR hX dX9_senderOf_1 fl_X9_22 ho1 rfl (by omega) ?_
  refine s_iload_n hX dX9_senderOf_4 rfl ?_
  refine s_iald (x := (frI s)) hX dX9_senderOf_5 ho4 (by omega) (by omega) (by decide) (h.2 i s hs).2.2.1 ?_
  refine s_iret hX dX9_senderOf_6 rfl rfl ?_
  exact ⟨rfl, rfl⟩
set_option maxRecDepth 100000 in
set_option maxHeartbeats 4000000 in
theorem c_X9_letterOf {n : Nat} {σ : Sg} {o : Nat} {pr : Pr} {v : Vc} {l : List Sp} (ho : IsSl o n) (h : SlC pr v σ o l) (i : Nat) (hi : i < 20) (s : Sp) (hs : l[i]? = some s) : Sm n mX9_letterOf [.ref o, .int (nI i)] σ (qi fun r σ2 => r = ltI s ∧ σ2 = σ) := by
  refine Sm.of mk_X9_letterOf (Nat.le_of_ble_eq_true rfl) rfl (fun X hX => ?_)
  obtain ⟨ho1, ho2, ho3, ho4, ho5, ho6, ho7⟩ := ho
  refine s_aload_n hX dX9_letterOf_0 rfl ?_
  refine s_getR hX dX9_letterOf_1 fl_X9_25 ho1 rfl (by omega) ?_
  refine s_iload_n hX dX9_letterOf_4 rfl ?_
  refine s_iald (x := (ltI s)) hX dX9_letterOf_5 ho5 (by omega) (by omega) (by decide) (h.2 i s hs).2.2.2.1 ?_
  refine s_iret hX dX9_letterOf_6 rfl rfl ?_
  exact ⟨rfl, rfl⟩
set_option maxRecDepth 100000 in
set_option maxHeartbeats 4000000 in
theorem c_X9_placeAt {n : Nat} {σ : Sg} {o : Nat} {pr : Pr} {v : Vc} {l : List Sp} (ho : IsSl o n) (h : SlC pr v σ o l) (i : Nat) (hi : i < 20) (s : Sp) (hs : l[i]? = some s) : Sm n mX9_placeAt [.ref o, .int (nI i)] σ (qi fun r σ2 => r = nI (plcF pr v s) ∧ σ2 = σ) := by
  refine Sm.of mk_X9_placeAt (Nat.le_of_ble_eq_true rfl) rfl (fun X hX => ?_)
  obtain ⟨ho1, ho2, ho3, ho4, ho5, ho6, ho7⟩ := ho
  refine s_aload_n hX dX9_placeAt_0 rfl ?_
  refine s_getR hX dX9_placeAt_1 fl_X9_28 ho1 rfl (by omega) ?_
  refine s_iload_n hX dX9_placeAt_4 rfl ?_
  refine s_iald (x := nI (plcF pr v s)) hX dX9_placeAt_5 ho6 (by omega) (by omega) (by decide) (h.2 i s hs).2.2.2.2 ?_
  refine s_iret hX dX9_placeAt_6 rfl rfl ?_
  exact ⟨rfl, rfl⟩
set_option maxRecDepth 100000 in
set_option maxHeartbeats 4000000 in
theorem c_X9_add {n : Nat} {σ : Sg} {o : Nat} {pr : Pr} {v : Vc} {l : List Sp} (ho : IsSl o n) (h : SlC pr v σ o l) (hl : l.length < 20) (s : Sp) : Sm n mX9_add [.ref o, .int (nI s.1), .int (nI s.2.1), .int (frI s), .int (ltI s), .int (nI (plcF pr v s))] σ (qv fun σ2 => SlC pr v σ2 o (l ++ [s]) ∧ Off σ σ2 (sl6 o)) := by
  refine Sm.of mk_X9_add (Nat.le_of_ble_eq_true rfl) rfl (fun X hX => ?_)
  obtain ⟨ho1, ho2, ho3, ho4, ho5, ho6, ho7⟩ := ho
  refine s_aload_n hX dX9_add_0 rfl ?_
  refine s_getI (x := nI (l.length)) hX dX9_add_1 fl_X9_31 ho1 rfl (by omega) h.1 ?_
  refine s_bipush (v := nI 20) hX dX9_add_4 (by decide) ?_
  refine s_icmp_lt_n (tgt := 10) hX dX9_add_6 (by decide) (by omega) (by omega) (fun q6 => ?_) (fun q6 => ?_)
  · refine s_aload_n hX dX9_add_10 rfl ?_
    refine s_getR hX dX9_add_11 fl_X9_15 ho1 rfl (by omega) ?_
    refine s_aload_n hX dX9_add_14 rfl ?_
    refine s_getI (x := nI (l.length)) hX dX9_add_15 fl_X9_31 ho1 rfl (by omega) h.1 ?_
    refine s_iload_n hX dX9_add_18 rfl ?_
    refine s_iast hX dX9_add_19 ho2 (by omega) (by omega) (by decide) ?_
    refine s_aload_n hX dX9_add_20 rfl ?_
    refine s_getR hX dX9_add_21 fl_X9_19 ho1 rfl (by omega) ?_
    refine s_aload_n hX dX9_add_24 rfl ?_
    refine s_getI (x := nI (l.length)) hX dX9_add_25 fl_X9_31 ho1 rfl (by omega) (by simp only [wI_a _ _ (show o ≠ o + 1 by omega), wI_a _ _ (show o ≠ o + 2 by omega), wI_a _ _ (show o ≠ o + 3 by omega), wI_a _ _ (show o ≠ o + 4 by omega), wI_a _ _ (show o ≠ o + 5 by omega)]; exact h.1) ?_
    refine s_iload_n hX dX9_add_28 rfl ?_
    refine s_iast hX dX9_add_29 ho3 (by omega) (by omega) (by decide) ?_
    refine s_aload_n hX dX9_add_30 rfl ?_
    refine s_getR hX dX9_add_31 fl_X9_22 ho1 rfl (by omega) ?_
    refine s_aload_n hX dX9_add_34 rfl ?_
    refine s_getI (x := nI (l.length)) hX dX9_add_35 fl_X9_31 ho1 rfl (by omega) (by simp only [wI_a _ _ (show o ≠ o + 1 by omega), wI_a _ _ (show o ≠ o + 2 by omega), wI_a _ _ (show o ≠ o + 3 by omega), wI_a _ _ (show o ≠ o + 4 by omega), wI_a _ _ (show o ≠ o + 5 by omega)]; exact h.1) ?_
    refine s_iload_n hX dX9_add_38 rfl ?_
    refine s_iast hX dX9_add_39 ho4 (by omega) (by omega) (by decide) ?_
    refine s_aload_n hX dX9_add_40 rfl ?_
    refine s_getR hX dX9_add_41 fl_X9_25 ho1 rfl (by omega) ?_
    refine s_aload_n hX dX9_add_44 rfl ?_
    refine s_getI (x := nI (l.length)) hX dX9_add_45 fl_X9_31 ho1 rfl (by omega) (by simp only [wI_a _ _ (show o ≠ o + 1 by omega), wI_a _ _ (show o ≠ o + 2 by omega), wI_a _ _ (show o ≠ o + 3 by omega), wI_a _ _ (show o ≠ o + 4 by omega), wI_a _ _ (show o ≠ o + 5 by omega)]; exact h.1) ?_
    refine s_iload hX dX9_add_48 rfl ?_
    refine s_iast hX dX9_add_50 ho5 (by omega) (by omega) (by decide) ?_
    refine s_aload_n hX dX9_add_51 rfl ?_
    refine s_getR hX dX9_add_52 fl_X9_28 ho1 rfl (by omega) ?_
    refine s_aload_n hX dX9_add_55 rfl ?_
    refine s_getI (x := nI (l.length)) hX dX9_add_56 fl_X9_31 ho1 rfl (by omega) (by simp only [wI_a _ _ (show o ≠ o + 1 by omega), wI_a _ _ (show o ≠ o + 2 by omega), wI_a _ _ (show o ≠ o + 3 by omega), wI_a _ _ (show o ≠ o + 4 by omega), wI_a _ _ (show o ≠ o + 5 by omega)]; exact h.1) ?_
    refine s_iload hX dX9_add_59 rfl ?_
    refine s_iast hX dX9_add_61 ho6 (by omega) (by omega) (by decide) ?_
    refine s_aload_n hX dX9_add_62 rfl ?_
    refine s_dup hX dX9_add_63 rfl ?_
    refine s_getI (x := nI (l.length)) hX dX9_add_64 fl_X9_31 ho1 rfl (by omega) (by simp only [wI_a _ _ (show o ≠ o + 1 by omega), wI_a _ _ (show o ≠ o + 2 by omega), wI_a _ _ (show o ≠ o + 3 by omega), wI_a _ _ (show o ≠ o + 4 by omega), wI_a _ _ (show o ≠ o + 5 by omega)]; exact h.1) ?_
    refine s_iconst (v := nI 1) hX dX9_add_67 (by decide) ?_
    refine s_iadd_n hX dX9_add_68 ?_
    refine s_putI hX dX9_add_69 fl_X9_31 ho1 rfl (by omega) rfl rfl ?_
    refine s_vret hX dX9_add_72 rfl rfl ?_
    refine ⟨⟨by rw [wI_s, List.length_append, List.length_singleton], fun i u hu => ?_⟩, ?_⟩
    · have z1 : o + 1 ≠ o := by omega
      have z2 : o + 2 ≠ o := by omega
      have z3 : o + 3 ≠ o := by omega
      have z4 : o + 4 ≠ o := by omega
      have z5 : o + 5 ≠ o := by omega
      by_cases e : i < l.length
      · rw [List.getElem?_append_left e] at hu
        have hz : i ≠ l.length := by omega
        have := h.2 i u hu
        simpa [wI, va_up, upd, hz, z1, z2, z3, z4, z5] using this
      · rw [List.getElem?_append_right (by omega)] at hu
        have hz : i = l.length := by
          have := (List.getElem?_eq_some_iff.mp hu).1
          simp at this; omega
        subst hz
        rw [Nat.sub_self] at hu
        cases hu
        simp [wI, va_up, upd, z1, z2, z3, z4, z5]
    · exact (((((Off.rf.wI (by simp)).wI (by simp)).wI (by simp)).wI (by simp)).wI (by simp)).wI (by simp)
  · omega
