/-! ===== the class: the steps of a scene ===== -/
set_option maxRecDepth 100000 in
set_option maxHeartbeats 4000000 in
theorem c_X9_listOwn {n : Nat} {σ : Sg} {o o2 : Nat} {pr : Pr} {v : Vc} {l : List Sp} (hn : 53 ≤ n) (ho : IsSl o n) (hs : IsSc o2 n) (h8 : 8 < o) (hd : o2 + 1 < o) (h : SlC pr v σ o l) (hc : ScC pr σ o2 v) (hp : PrC σ pr) (hk : PrOk pr) (hv : VOk pr v) (p : Nat) (hp0 : p < pP pr) (hw : v (3 * p + 2) = 0) (hl : l.length + 3 ≤ 20) : Sm n mX9_listOwn [.ref o, .ref o2, .int (nI p)] σ (qv fun σ2 => SlC pr v σ2 o (l ++ ownR pr v p 3) ∧ Off σ σ2 (sl6 o)) := by
  refine Sm.of mk_X9_listOwn (Nat.le_of_ble_eq_true rfl) rfl (fun X hX => ?_)
  have ho7 := ho.2.2.2.2.2.2
  have hs3 := hs.2.2
  have hP := hk.1.2
  have hst := (hv.1 p hp0).1
  have LP : ∀ (d e : Nat) (σ1 : Sg) (x5 : Option Value), e + d = 3 → SlC pr v σ1 o (l ++ ownR pr v p e) → Off σ σ1 (sl6 o) → Sw n mX9_listOwn X (ZS n mX9_listOwn (qv fun σ2 => SlC pr v σ2 o (l ++ ownR pr v p 3) ∧ Off σ σ2 (sl6 o)) X) 9 [some (.ref o), some (.ref o2), some (.int (nI p)), some (.int (nI (v (3 * p)))), some (.int (nI e)), x5] [] σ1 := by
    intro d
    induction d with
    | zero =>
      intro e σ1 x5 he h1 h2
      have e3 : e = 3 := by omega
      subst e3
      refine s_iload hX dX9_listOwn_9 rfl ?_
      refine s_iconst (v := nI 3) hX dX9_listOwn_11 (by decide) ?_
      refine s_icmp_ge_n (tgt := 68) hX dX9_listOwn_12 (by decide) (by omega) (by omega) (fun q12 => ?_) (fun q12 => ?_)
      · refine s_vret hX dX9_listOwn_68 rfl rfl ?_
        exact ⟨h1, h2⟩
      · omega
    | succ d ih =>
      intro e σ1 x5 he h1 h2
      have hp1 : PrC σ1 pr := hp.kept (fun a q1 q2 => h2.out (by omega))
      have ol := ownR_le pr v p e
      have ha : v (3 * p) * 64 + e < 2048 := by omega
      have ll : (l ++ ownR pr v p e).length < 20 := by rw [List.length_append]; omega
      have E0 : ¬ ((pAm pr (v (3 * p) * 64 + e)).isSome = true ∧ wtF pr (v (3 * p) * 64 + e) = false) → ownR pr v p (e + 1) = ownR pr v p e := fun q => by
        show ownR pr v p e ++ _ = _
        rw [if_neg (fun z => q z.2), List.append_nil]
      have E1 : (pAm pr (v (3 * p) * 64 + e)).isSome = true → wtF pr (v (3 * p) * 64 + e) = false → ownR pr v p (e + 1) = ownR pr v p e ++ [(p, e, none)] := fun q1 q2 => by
        show ownR pr v p e ++ _ = _
        rw [if_pos ⟨hw, q1, q2⟩]
      refine s_iload hX dX9_listOwn_9 rfl ?_
      refine s_iconst (v := nI 3) hX dX9_listOwn_11 (by decide) ?_
      refine s_icmp_ge_n (tgt := 68) hX dX9_listOwn_12 (by decide) (by omega) (by omega) (fun q12 => ?_) (fun q12 => ?_)
      · omega
      · refine s_aload_n hX dX9_listOwn_15 rfl ?_
        refine s_getR hX dX9_listOwn_16 fl_X9_9 ho.1 rfl (by omega) ?_
        refine s_iload_n hX dX9_listOwn_19 rfl ?_
        refine s_iload hX dX9_listOwn_20 rfl ?_
        refine s_callVi (as := [_, _]) hX dX9_listOwn_22 mk_X6_cachePlace lk_X9_64 (c_X6_cachePlace _ _) rfl (by omega) rfl rfl rfl ⟨rfl, rfl⟩ (Nat.le_of_ble_eq_true rfl) (Nat.le_of_ble_eq_true rfl) (Nat.le_of_ble_eq_true rfl) rfl (fun v22 σ22 p22 => ?_)
        obtain ⟨rfl, ep⟩ := p22
        replace ep := ep.symm
        subst ep
        refine s_istore hX dX9_listOwn_25 (Nat.le_of_ble_eq_true rfl) rfl st_6_5 ?_
        refine s_aload_n hX dX9_listOwn_27 rfl ?_
        refine s_getR hX dX9_listOwn_28 fl_X9_9 ho.1 rfl (by omega) ?_
        refine s_iload hX dX9_listOwn_31 rfl ?_
        refine s_callVi (as := [_]) hX dX9_listOwn_33 mk_X6_hasRow lk_X9_68 (c_X6_hasRow hn hp1 hk _ ha) rfl (by omega) rfl rfl rfl ⟨rfl, rfl⟩ (Nat.le_of_ble_eq_true rfl) (Nat.le_of_ble_eq_true rfl) (Nat.le_of_ble_eq_true rfl) rfl (fun v33 σ33 p33 => ?_)
        obtain ⟨rfl, ep⟩ := p33
        replace ep := ep.symm
        subst ep
        refine s_if_eq_n (tgt := 62) hX dX9_listOwn_36 (by decide) (by unfold isN; split <;> decide) (fun q36 => ?_) (fun q36 => ?_)
        · have z : ¬ (pAm pr (v (3 * p) * 64 + e)).isSome = true := fun q => by unfold isN at q36; rw [if_pos q] at q36; omega
          refine s_iinc_n (c := 1) hX dX9_listOwn_62 rfl (by decide) rfl st_6_4 ?_
          refine s_goto (tgt := 9) hX dX9_listOwn_65 (by decide) ?_
          first
            | exact ih (e + 1) _ _ (by omega) (by rw [E1 z (tn0 q48), ← List.append_assoc]; exact p59.1) (h2.trans p59.2)
            | exact ih (e + 1) _ _ (by omega) (by rw [E0 (fun q => absurd q.2 (by rw [tn1 q48]; decide))]; exact h1) h2
            | exact ih (e + 1) _ _ (by omega) (by rw [E0 (fun q => z q.1)]; exact h1) h2
        · have z : (pAm pr (v (3 * p) * 64 + e)).isSome = true := Classical.byContradiction (fun q => by unfold isN at q36; rw [if_neg q] at q36; omega)
          refine s_aload_n hX dX9_listOwn_39 rfl ?_
          refine s_getR hX dX9_listOwn_40 fl_X9_9 ho.1 rfl (by omega) ?_
          refine s_iload hX dX9_listOwn_43 rfl ?_
          refine s_callVi (as := [_]) hX dX9_listOwn_45 mk_X6_waitsAt lk_X9_71 (c_X6_waitsAt hn hp1 _ ha) rfl (by omega) rfl rfl rfl ⟨rfl, rfl⟩ (Nat.le_of_ble_eq_true rfl) (Nat.le_of_ble_eq_true rfl) (Nat.le_of_ble_eq_true rfl) rfl (fun v45 σ45 p45 => ?_)
          obtain ⟨rfl, ep⟩ := p45
          replace ep := ep.symm
          subst ep
          unfold bI
          refine s_if_ne_n (tgt := 62) hX dX9_listOwn_48 (by decide) (by have := Bool.toNat_le (wtF pr (v (3 * p) * 64 + e)); omega) (fun q48 => ?_) (fun q48 => ?_)
          · refine s_iinc_n (c := 1) hX dX9_listOwn_62 rfl (by decide) rfl st_6_4 ?_
            refine s_goto (tgt := 9) hX dX9_listOwn_65 (by decide) ?_
            first
              | exact ih (e + 1) _ _ (by omega) (by rw [E1 z (tn0 q48), ← List.append_assoc]; exact p59.1) (h2.trans p59.2)
              | exact ih (e + 1) _ _ (by omega) (by rw [E0 (fun q => absurd q.2 (by rw [tn1 q48]; decide))]; exact h1) h2
              | exact ih (e + 1) _ _ (by omega) (by rw [E0 (fun q => z q.1)]; exact h1) h2
          · refine s_aload_n hX dX9_listOwn_51 rfl ?_
            refine s_iload_n hX dX9_listOwn_52 rfl ?_
            refine s_iload hX dX9_listOwn_53 rfl ?_
            refine s_iconst (v := -1) hX dX9_listOwn_55 (by decide) ?_
            refine s_iconst (v := -1) hX dX9_listOwn_56 (by decide) ?_
            refine s_iload hX dX9_listOwn_57 rfl ?_
            refine s_callVv (as := [_, _, _, _, _]) hX dX9_listOwn_59 mk_X9_add lk_X9_74 (c_X9_add ho h1 ll (p, e, none)) ho.1 (by omega) rfl rfl rfl ⟨rfl, rfl⟩ (Nat.le_of_ble_eq_true rfl) (Nat.le_of_ble_eq_true rfl) (Nat.le_of_ble_eq_true rfl) rfl (fun σ59 p59 => ?_)
            refine s_iinc_n (c := 1) hX dX9_listOwn_62 rfl (by decide) rfl st_6_4 ?_
            refine s_goto (tgt := 9) hX dX9_listOwn_65 (by decide) ?_
            first
              | exact ih (e + 1) _ _ (by omega) (by rw [E1 z (tn0 q48), ← List.append_assoc]; exact p59.1) (h2.trans p59.2)
              | exact ih (e + 1) _ _ (by omega) (by rw [E0 (fun q => absurd q.2 (by rw [tn1 q48]; decide))]; exact h1) h2
              | exact ih (e + 1) _ _ (by omega) (by rw [E0 (fun q => z q.1)]; exact h1) h2
  refine s_aload_n hX dX9_listOwn_0 rfl ?_
  refine s_iload_n hX dX9_listOwn_1 rfl ?_
  refine s_callVi (as := [_]) hX dX9_listOwn_2 mk_X7_stateOf lk_X9_61 (c_X7_stateOf hs hc hk hv p (Nat.le_of_lt hp0)) hs.1 (by omega) rfl rfl rfl ⟨rfl, rfl⟩ (Nat.le_of_ble_eq_true rfl) (Nat.le_of_ble_eq_true rfl) (Nat.le_of_ble_eq_true rfl) rfl (fun v2 σ2 p2 => ?_)
  obtain ⟨rfl, ep⟩ := p2
  replace ep := ep.symm
  subst ep
  rw [ix0 hp0]
  refine s_istore_n hX dX9_listOwn_5 (Nat.le_of_ble_eq_true rfl) rfl st_6_3 ?_
  refine s_iconst (v := nI 0) hX dX9_listOwn_6 (by decide) ?_
  refine s_istore hX dX9_listOwn_7 (Nat.le_of_ble_eq_true rfl) rfl st_6_4 ?_
  exact LP 3 0 σ _ (by omega) (by show SlC pr v σ o (l ++ []); rw [List.append_nil]; exact h) Off.rf
set_option maxRecDepth 100000 in
set_option maxHeartbeats 4000000 in
theorem c_X9_listComing {n : Nat} {σ : Sg} {o o2 : Nat} {pr : Pr} {v : Vc} {l : List Sp} (hn : 53 ≤ n) (ho : IsSl o n) (hs : IsSc o2 n) (h8 : 8 < o) (hd : o2 + 1 < o) (h : SlC pr v σ o l) (hc : ScC pr σ o2 v) (hp : PrC σ pr) (hk : PrOk pr) (hv : VOk pr v) (i : Nat) (hi : i < v 15) (hl : l.length < 20) : Sm n mX9_listComing [.ref o, .ref o2, .int (nI i)] σ (qv fun σ2 => SlC pr v σ2 o (l ++ (if wtF pr (rowOf pr v i) = false then [(v (18 + 5 * i), 3 + v (16 + 5 * i), some (v (17 + 5 * i), i))] else [])) ∧ Off σ σ2 (sl6 o)) := by
  refine Sm.of mk_X9_listComing (Nat.le_of_ble_eq_true rfl) rfl (fun X hX => ?_)
  have ho7 := ho.2.2.2.2.2.2
  have hs3 := hs.2.2
  have h15 := hv.2.2.2.2.1
  have ha := rowOf_lt hv hi
  have c9 := lcF_lt hk hv i
  obtain ⟨g1, g2, g3, g4, g5⟩ := lc_parts hk hv hi
  refine s_aload_n hX dX9_listComing_0 rfl ?_
  refine s_iload_n hX dX9_listComing_1 rfl ?_
  refine s_callVi (as := [_]) hX dX9_listComing_2 mk_X7_letterAt lk_X9_78 (c_X7_letterAt hs hc i (by omega)) hs.1 (by omega) rfl rfl rfl ⟨rfl, rfl⟩ (Nat.le_of_ble_eq_true rfl) (Nat.le_of_ble_eq_true rfl) (Nat.le_of_ble_eq_true rfl) rfl (fun v2 σ2 p2 => ?_)
  obtain ⟨rfl, ep⟩ := p2
  replace ep := ep.symm
  subst ep
  refine s_istore_n hX dX9_listComing_5 (Nat.le_of_ble_eq_true rfl) rfl st_5_3 ?_
  refine s_aload_n hX dX9_listComing_6 rfl ?_
  refine s_getR hX dX9_listComing_7 fl_X9_9 ho.1 rfl (by omega) ?_
  refine s_aload_n hX dX9_listComing_10 rfl ?_
  refine s_iload_n hX dX9_listComing_11 rfl ?_
  refine s_callVi (as := [_, _]) hX dX9_listComing_12 mk_X6_letterPlace lk_X9_81 (c_X6_letterPlace hn hs hc hp hk hv i hi) rfl (by omega) rfl rfl rfl ⟨rfl, rfl⟩ (Nat.le_of_ble_eq_true rfl) (Nat.le_of_ble_eq_true rfl) (Nat.le_of_ble_eq_true rfl) rfl (fun v12 σ12 p12 => ?_)
  obtain ⟨rfl, ep⟩ := p12
  replace ep := ep.symm
  subst ep
  refine s_istore hX dX9_listComing_15 (Nat.le_of_ble_eq_true rfl) rfl st_5_4 ?_
  refine s_aload_n hX dX9_listComing_17 rfl ?_
  refine s_getR hX dX9_listComing_18 fl_X9_9 ho.1 rfl (by omega) ?_
  refine s_iload hX dX9_listComing_21 rfl ?_
  refine s_callVi (as := [_]) hX dX9_listComing_23 mk_X6_waitsAt lk_X9_71 (c_X6_waitsAt hn hp _ ha) rfl (by omega) rfl rfl rfl ⟨rfl, rfl⟩ (Nat.le_of_ble_eq_true rfl) (Nat.le_of_ble_eq_true rfl) (Nat.le_of_ble_eq_true rfl) rfl (fun v23 σ23 p23 => ?_)
  obtain ⟨rfl, ep⟩ := p23
  replace ep := ep.symm
  subst ep
  unfold bI
  refine s_if_ne_n (tgt := 50) hX dX9_listComing_26 (by decide) (by have := Bool.toNat_le (wtF pr (rowOf pr v i)); omega) (fun q26 => ?_) (fun q26 => ?_)
  · refine s_vret hX dX9_listComing_50 rfl rfl ?_
    first
      | exact ⟨by rw [if_pos (tn0 q26)]; exact p47.1, p47.2⟩
      | exact ⟨by rw [if_neg (by rw [tn1 q26]; decide), List.append_nil]; exact h, Off.rf⟩
  · refine s_aload_n hX dX9_listComing_29 rfl ?_
    refine s_iload_n hX dX9_listComing_30 rfl ?_
    refine s_callSi (as := [_]) hX dX9_listComing_31 mk_X4_toOf lk_X9_85 (c_X4_toOf _ (by omega)) rfl ⟨rfl, rfl⟩ (Nat.le_of_ble_eq_true rfl) (Nat.le_of_ble_eq_true rfl) (Nat.le_of_ble_eq_true rfl) rfl (fun v31 σ31 p31 => ?_)
    obtain ⟨rfl, ep⟩ := p31
    replace ep := ep.symm
    subst ep
    rw [g1]
    refine s_iconst (v := nI 3) hX dX9_listComing_34 (by decide) ?_
    refine s_iload_n hX dX9_listComing_35 rfl ?_
    refine s_callSi (as := [_]) hX dX9_listComing_36 mk_X4_kindOf lk_X9_90 (c_X4_kindOf _ (by omega)) rfl ⟨rfl, rfl⟩ (Nat.le_of_ble_eq_true rfl) (Nat.le_of_ble_eq_true rfl) (Nat.le_of_ble_eq_true rfl) rfl (fun v36 σ36 p36 => ?_)
    obtain ⟨rfl, ep⟩ := p36
    replace ep := ep.symm
    subst ep
    rw [g2]
    refine s_iadd_n hX dX9_listComing_39 ?_
    refine s_iload_n hX dX9_listComing_40 rfl ?_
    refine s_callSi (as := [_]) hX dX9_listComing_41 mk_X4_fromOf lk_X9_93 (c_X4_fromOf _ (by omega)) rfl ⟨rfl, rfl⟩ (Nat.le_of_ble_eq_true rfl) (Nat.le_of_ble_eq_true rfl) (Nat.le_of_ble_eq_true rfl) rfl (fun v41 σ41 p41 => ?_)
    obtain ⟨rfl, ep⟩ := p41
    replace ep := ep.symm
    subst ep
    rw [g3]
    refine s_iload_n hX dX9_listComing_44 rfl ?_
    refine s_iload hX dX9_listComing_45 rfl ?_
    refine s_callVv (as := [_, _, _, _, _]) hX dX9_listComing_47 mk_X9_add lk_X9_74 (c_X9_add ho h hl (v (18 + 5 * i), 3 + v (16 + 5 * i), some (v (17 + 5 * i), i))) ho.1 (by omega) rfl rfl rfl ⟨rfl, rfl⟩ (Nat.le_of_ble_eq_true rfl) (Nat.le_of_ble_eq_true rfl) (Nat.le_of_ble_eq_true rfl) rfl (fun σ47 p47 => ?_)
    refine s_vret hX dX9_listComing_50 rfl rfl ?_
    first
      | exact ⟨by rw [if_pos (tn0 q26)]; exact p47.1, p47.2⟩
      | exact ⟨by rw [if_neg (by rw [tn1 q26]; decide), List.append_nil]; exact h, Off.rf⟩
set_option maxRecDepth 100000 in
set_option maxHeartbeats 4000000 in
theorem c_X9_list {n : Nat} {σ : Sg} {o o2 : Nat} {pr : Pr} {v : Vc} (hn : 53 ≤ n) (ho : IsSl o n) (hs : IsSc o2 n) (h8 : 8 < o) (hd : o2 + 1 < o) (hc : ScC pr σ o2 v) (hp : PrC σ pr) (hk : PrOk pr) (hv : VOk pr v) (hr : Srt pr v) : Sm n mX9_list [.ref o, .ref o2] σ (qv fun σ2 => SlC pr v σ2 o (stepsF pr v) ∧ Off σ σ2 (sl6 o)) := by
  refine Sm.of mk_X9_list (Nat.le_of_ble_eq_true rfl) rfl (fun X hX => ?_)
  have ho7 := ho.2.2.2.2.2.2
  have hs3 := hs.2.2
  have hP := hk.1.2
  have h15 := hv.2.2.2.2.1
  have LB : ∀ (d i : Nat) (σ1 : Sg), i + d = v 15 → SlC pr v σ1 o (ownsR pr v (pP pr) ++ comR pr v i) → Off σ σ1 (sl6 o) → Sw n mX9_list X (ZS n mX9_list (qv fun σ2 => SlC pr v σ2 o (stepsF pr v) ∧ Off σ σ2 (sl6 o)) X) 40 [some (.ref o), some (.ref o2), some (.int (nI i))] [] σ1 := by
    intro d
    induction d with
    | zero =>
      intro i σ1 he h1 h2
      have hp1 : PrC σ1 pr := hp.kept (fun a q1 q2 => h2.out (by omega))
      have hc1 : ScC pr σ1 o2 v := hc.kept (h2.out (by omega)) (h2.out (by omega))
      have e3 : i = v 15 := by omega
      subst e3
      refine s_iload_n hX dX9_list_40 rfl ?_
      refine s_aload_n hX dX9_list_41 rfl ?_
      refine s_callVi (as := []) hX dX9_list_42 mk_X7_letterCount lk_X9_51 (c_X7_letterCount hs hc1) hs.1 (by omega) rfl rfl rfl ⟨rfl, rfl⟩ (Nat.le_of_ble_eq_true rfl) (Nat.le_of_ble_eq_true rfl) (Nat.le_of_ble_eq_true rfl) rfl (fun v42 σ42 p42 => ?_)
      obtain ⟨rfl, ep⟩ := p42
      replace ep := ep.symm
      subst ep
      refine s_icmp_ge_n (tgt := 68) hX dX9_list_45 (by decide) (by omega) (by omega) (fun q45 => ?_) (fun q45 => ?_)
      · refine s_vret hX dX9_list_68 rfl rfl ?_
        exact ⟨h1, h2⟩
      · omega
    | succ d ih =>
      intro i σ1 he h1 h2
      have hp1 : PrC σ1 pr := hp.kept (fun a q1 q2 => h2.out (by omega))
      have hc1 : ScC pr σ1 o2 v := hc.kept (h2.out (by omega)) (h2.out (by omega))
      have l1 := ownsR_le pr v (pP pr)
      have l2 := comR_le pr v i
      have ll : (ownsR pr v (pP pr) ++ comR pr v i).length < 20 := by rw [List.length_append]; omega
      have E0 : bhR pr v i i = true → comR pr v (i + 1) = comR pr v i := fun q => by
        show comR pr v i ++ _ = _
        rw [if_neg (fun z => by rw [q] at z; cases z.1), List.append_nil]
      have E1 : bhR pr v i i = false → comR pr v (i + 1) = comR pr v i ++ (if wtF pr (rowOf pr v i) = false then [(v (18 + 5 * i), 3 + v (16 + 5 * i), some (v (17 + 5 * i), i))] else []) := fun q => by
        show comR pr v i ++ _ = _
        congr 1
        by_cases z : wtF pr (rowOf pr v i) = false
        · rw [if_pos z, if_pos ⟨q, z⟩]
        · rw [if_neg z, if_neg (fun y => z y.2)]
      refine s_iload_n hX dX9_list_40 rfl ?_
      refine s_aload_n hX dX9_list_41 rfl ?_
      refine s_callVi (as := []) hX dX9_list_42 mk_X7_letterCount lk_X9_51 (c_X7_letterCount hs hc1) hs.1 (by omega) rfl rfl rfl ⟨rfl, rfl⟩ (Nat.le_of_ble_eq_true rfl) (Nat.le_of_ble_eq_true rfl) (Nat.le_of_ble_eq_true rfl) rfl (fun v42 σ42 p42 => ?_)
      obtain ⟨rfl, ep⟩ := p42
      replace ep := ep.symm
      subst ep
      refine s_icmp_ge_n (tgt := 68) hX dX9_list_45 (by decide) (by omega) (by omega) (fun q45 => ?_) (fun q45 => ?_)
      · omega
      · refine s_aload_n hX dX9_list_48 rfl ?_
        refine s_iload_n hX dX9_list_49 rfl ?_
        refine s_callVi (as := [_]) hX dX9_list_50 mk_X7_isBehindAnother lk_X9_54 (c_X7_isBehindAnother hs hc1 hk hv hr i (by omega)) hs.1 (by omega) rfl rfl rfl ⟨rfl, rfl⟩ (Nat.le_of_ble_eq_true rfl) (Nat.le_of_ble_eq_true rfl) (Nat.le_of_ble_eq_true rfl) rfl (fun v50 σ50 p50 => ?_)
        obtain ⟨rfl, ep⟩ := p50
        replace ep := ep.symm
        subst ep
        unfold bI
        refine s_if_ne_n (tgt := 62) hX dX9_list_53 (by decide) (by have := Bool.toNat_le (bhR pr v i i); omega) (fun q53 => ?_) (fun q53 => ?_)
        · refine s_iinc_n (c := 1) hX dX9_list_62 rfl (by decide) rfl st_3_2 ?_
          refine s_goto (tgt := 40) hX dX9_list_65 (by decide) ?_
          first
            | exact ih (i + 1) _ (by omega) (by rw [E1 (tn0 q53), ← List.append_assoc]; exact p59.1) (h2.trans p59.2)
            | exact ih (i + 1) _ (by omega) (by rw [E0 (tn1 q53)]; exact h1) h2
        · refine s_aload_n hX dX9_list_56 rfl ?_
          refine s_aload_n hX dX9_list_57 rfl ?_
          refine s_iload_n hX dX9_list_58 rfl ?_
          refine s_callVv (as := [_, _]) hX dX9_list_59 mk_X9_listComing lk_X9_58 (c_X9_listComing hn ho hs h8 hd h1 hc1 hp1 hk hv i (by omega) ll) ho.1 (by omega) rfl rfl rfl ⟨rfl, rfl⟩ (Nat.le_of_ble_eq_true rfl) (Nat.le_of_ble_eq_true rfl) (Nat.le_of_ble_eq_true rfl) rfl (fun σ59 p59 => ?_)
          refine s_iinc_n (c := 1) hX dX9_list_62 rfl (by decide) rfl st_3_2 ?_
          refine s_goto (tgt := 40) hX dX9_list_65 (by decide) ?_
          first
            | exact ih (i + 1) _ (by omega) (by rw [E1 (tn0 q53), ← List.append_assoc]; exact p59.1) (h2.trans p59.2)
            | exact ih (i + 1) _ (by omega) (by rw [E0 (tn1 q53)]; exact h1) h2
  have LA : ∀ (d p : Nat) (σ1 : Sg), p + d = pP pr → SlC pr v σ1 o (ownsR pr v p) → Off σ σ1 (sl6 o) → Sw n mX9_list X (ZS n mX9_list (qv fun σ2 => SlC pr v σ2 o (stepsF pr v) ∧ Off σ σ2 (sl6 o)) X) 7 [some (.ref o), some (.ref o2), some (.int (nI p))] [] σ1 := by
    intro d
    induction d with
    | zero =>
      intro p σ1 he h1 h2
      have hp1 : PrC σ1 pr := hp.kept (fun a q1 q2 => h2.out (by omega))
      have hc1 : ScC pr σ1 o2 v := hc.kept (h2.out (by omega)) (h2.out (by omega))
      have e3 : p = pP pr := by omega
      subst e3
      refine s_iload_n hX dX9_list_7 rfl ?_
      refine s_aload_n hX dX9_list_8 rfl ?_
      refine s_getR hX dX9_list_9 fl_X9_9 ho.1 rfl (by omega) ?_
      refine s_callVi (as := []) hX dX9_list_12 mk_X6_home lk_X9_35 (c_X6_home hn hp1) rfl (by omega) rfl rfl rfl ⟨rfl, rfl⟩ (Nat.le_of_ble_eq_true rfl) (Nat.le_of_ble_eq_true rfl) (Nat.le_of_ble_eq_true rfl) rfl (fun v12 σ12 p12 => ?_)
      obtain ⟨rfl, ep⟩ := p12
      replace ep := ep.symm
      subst ep
      refine s_icmp_ge_n (tgt := 38) hX dX9_list_15 (by decide) (by omega) (by omega) (fun q15 => ?_) (fun q15 => ?_)
      · refine s_iconst (v := nI 0) hX dX9_list_38 (by decide) ?_
        refine s_istore_n hX dX9_list_39 (Nat.le_of_ble_eq_true rfl) rfl st_3_2 ?_
        exact LB (v 15) 0 _ (by omega) (by show SlC pr v _ o (_ ++ []); rw [List.append_nil]; exact h1) h2
      · omega
    | succ d ih =>
      intro p σ1 he h1 h2
      have hp1 : PrC σ1 pr := hp.kept (fun a q1 q2 => h2.out (by omega))
      have hc1 : ScC pr σ1 o2 v := hc.kept (h2.out (by omega)) (h2.out (by omega))
      have l1 := ownsR_le pr v p
      have hwt := (hv.1 p (by omega)).2.2
      have E0 : v (3 * p + 2) ≠ 0 → ownsR pr v (p + 1) = ownsR pr v p := fun q => by
        show ownsR pr v p ++ ownR pr v p 3 = _
        unfold ownR ownR ownR ownR
        rw [if_neg (fun z => q z.1), if_neg (fun z => q z.1), if_neg (fun z => q z.1)]
        simp
      refine s_iload_n hX dX9_list_7 rfl ?_
      refine s_aload_n hX dX9_list_8 rfl ?_
      refine s_getR hX dX9_list_9 fl_X9_9 ho.1 rfl (by omega) ?_
      refine s_callVi (as := []) hX dX9_list_12 mk_X6_home lk_X9_35 (c_X6_home hn hp1) rfl (by omega) rfl rfl rfl ⟨rfl, rfl⟩ (Nat.le_of_ble_eq_true rfl) (Nat.le_of_ble_eq_true rfl) (Nat.le_of_ble_eq_true rfl) rfl (fun v12 σ12 p12 => ?_)
      obtain ⟨rfl, ep⟩ := p12
      replace ep := ep.symm
      subst ep
      refine s_icmp_ge_n (tgt := 38) hX dX9_list_15 (by decide) (by omega) (by omega) (fun q15 => ?_) (fun q15 => ?_)
      · omega
      · refine s_aload_n hX dX9_list_18 rfl ?_
        refine s_iload_n hX dX9_list_19 rfl ?_
        refine s_callVi (as := [_]) hX dX9_list_20 mk_X7_wantOf lk_X9_41 (c_X7_wantOf hs hc1 hk hv p (by omega)) hs.1 (by omega) rfl rfl rfl ⟨rfl, rfl⟩ (Nat.le_of_ble_eq_true rfl) (Nat.le_of_ble_eq_true rfl) (Nat.le_of_ble_eq_true rfl) rfl (fun v20 σ20 p20 => ?_)
        obtain ⟨rfl, ep⟩ := p20
        replace ep := ep.symm
        subst ep
        refine s_if_ne_n (tgt := 32) hX dX9_list_23 (by decide) (by omega) (fun q23 => ?_) (fun q23 => ?_)
        · refine s_iinc_n (c := 1) hX dX9_list_32 rfl (by decide) rfl st_3_2 ?_
          refine s_goto (tgt := 7) hX dX9_list_35 (by decide) ?_
          first
            | exact ih (p + 1) _ (by omega) p29.1 (h2.trans p29.2)
            | exact ih (p + 1) _ (by omega) (by rw [E0 q23]; exact h1) h2
        · refine s_aload_n hX dX9_list_26 rfl ?_
          refine s_aload_n hX dX9_list_27 rfl ?_
          refine s_iload_n hX dX9_list_28 rfl ?_
          refine s_callVv (as := [_, _]) hX dX9_list_29 mk_X9_listOwn lk_X9_47 (c_X9_listOwn hn ho hs h8 hd h1 hc1 hp1 hk hv p (by omega) q23 (by omega)) ho.1 (by omega) rfl rfl rfl ⟨rfl, rfl⟩ (Nat.le_of_ble_eq_true rfl) (Nat.le_of_ble_eq_true rfl) (Nat.le_of_ble_eq_true rfl) rfl (fun σ29 p29 => ?_)
          refine s_iinc_n (c := 1) hX dX9_list_32 rfl (by decide) rfl st_3_2 ?_
          refine s_goto (tgt := 7) hX dX9_list_35 (by decide) ?_
          first
            | exact ih (p + 1) _ (by omega) p29.1 (h2.trans p29.2)
            | exact ih (p + 1) _ (by omega) (by rw [E0 q23]; exact h1) h2
  refine s_aload_n hX dX9_list_0 rfl ?_
  refine s_iconst (v := nI 0) hX dX9_list_1 (by decide) ?_
  refine s_putI hX dX9_list_2 fl_X9_31 ho.1 rfl (by omega) rfl rfl ?_
  refine s_iconst (v := nI 0) hX dX9_list_5 (by decide) ?_
  refine s_istore_n hX dX9_list_6 (Nat.le_of_ble_eq_true rfl) rfl st_3_2 ?_
  exact LA (pP pr) 0 _ (by omega) ⟨by rw [wI_s]; rfl, fun i s hx => by cases hx⟩ (Off.rf.wI (by simp))
