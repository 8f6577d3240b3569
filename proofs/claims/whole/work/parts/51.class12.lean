/-! ===== the class: a step is done ===== -/
theorem own_want {pr : Pr} {v : Vc} {p : Nat} : ∀ e s, s ∈ ownR pr v p e → v (3 * s.1 + 2) = 0
  | 0, s, h => by cases h
  | e + 1, s, h => by
    unfold ownR at h
    rcases List.mem_append.mp h with h | h
    · exact own_want e s h
    · split at h
      · rename_i c
        have := List.mem_singleton.mp h
        subst this
        exact c.1
      · cases h
theorem owns_want {pr : Pr} {v : Vc} : ∀ p s, s ∈ ownsR pr v p → v (3 * s.1 + 2) = 0
  | 0, s, h => by cases h
  | p + 1, s, h => by
    unfold ownsR at h
    rcases List.mem_append.mp h with h | h
    · exact owns_want p s h
    · exact own_want 3 s h
theorem com_some {pr : Pr} {v : Vc} : ∀ i s, s ∈ comR pr v i → s.2.2 ≠ none
  | 0, s, h => by cases h
  | i + 1, s, h => by
    unfold comR at h
    rcases List.mem_append.mp h with h | h
    · exact com_some i s h
    · split at h
      · have := List.mem_singleton.mp h
        subst this
        intro q; cases q
      · cases h
theorem steps_want {pr : Pr} {v : Vc} {s : Sp} (h : s ∈ stepsF pr v) (hq : s.2.2 = none) : v (3 * s.1 + 2) = 0 := by
  unfold stepsF at h
  rcases List.mem_append.mp h with h | h
  · exact owns_want _ s h
  · exact absurd hq (com_some _ s h)
theorem sp_le {pr : Pr} {v : Vc} {s : Sp} (h : SpOk pr v s) : s.1 ≤ pP pr := by
  cases hq : s.2.2 with
  | none => exact Nat.le_of_lt (h.1 hq).1
  | some q => exact (h.2 q hq).1
theorem acR_s {pr : Pr} {who hf : Nat} {f : Nat → Nat} {s : Nat × Vc × Nat} {k : Nat} (h : (acR pr who hf f k s).1 = 0) : acR pr who hf f (k + 1) s = actF pr who hf (f k) (acR pr who hf f k s).2.1 (acR pr who hf f k s).2.2 := by
  show (if (acR pr who hf f k s).1 ≠ 0 then _ else _) = _
  rw [if_neg (fun q => q h)]
set_option maxRecDepth 100000 in
set_option maxHeartbeats 4000000 in
theorem c_X0_perform {n : Nat} {σ : Sg} {o : Nat} {pr : Pr} {v : Vc} (hn : 53 ≤ n) (ho : IsSc o n) (h9 : 9 < o) (h : ScC pr σ o v) (hp : PrC σ pr) (hk : PrOk pr) (hv : VOk pr v) (hr : Srt pr v) {o3 : Nat} {l : List Sp} {s : Sp} {i : Nat} (hl : IsSl o3 n) (h13 : o + 1 < o3) (hS : SlC pr v σ o3 l) (hi : l[i]? = some s) (hi20 : i < 20) (hs : SpOk pr v s) (hw : s.2.2 = none → v (3 * s.1 + 2) = 0) : Sm n mX0_perform [.ref 9, .ref o, .ref o3, .int (nI i)] σ (qi fun r σ2 => r = nI (doF pr v s).1 ∧ ((doF pr v s).1 = 0 → ScC pr σ2 o (doF pr v s).2.2) ∧ Off σ σ2 [9, o, o + 1]) := by
  refine Sm.of mk_X0_perform (Nat.le_of_ble_eq_true rfl) rfl (fun X hX => ?_)
  have ho3 := ho.2.2
  have hl7 := hl.2.2.2.2.2.2
  have hP := hk.1.2
  have ha := plcF_lt hv hs
  have hse := sp_le hs
  obtain ⟨u1, u2, u3⟩ := hv.up hP hs
  have ur := hr.up hP hs
  have LP : ∀ (m b : Nat), pAm pr (plcF pr v s) = some m → (b = 1 ∧ s.1 = pP pr) ∨ (b = 0 ∧ s.1 < pP pr) → ∀ (d k : Nat) (σ1 : Sg) (x9 : Option Value), k + d = m → ScC pr σ1 o (acR pr s.1 (hfF v s) (pAc pr (plcF pr v s)) k (0, upF v s)).2.1 → AcC σ1 s.1 (hfF v s) (acR pr s.1 (hfF v s) (pAc pr (plcF pr v s)) k (0, upF v s)).2.2 → Off σ σ1 [9, o, o + 1] → Sw n mX0_perform X (ZS n mX0_perform (qi fun r σ2 => r = nI (doF pr v s).1 ∧ ((doF pr v s).1 = 0 → ScC pr σ2 o (doF pr v s).2.2) ∧ Off σ σ2 [9, o, o + 1]) X) 66 [some (.ref 9), some (.ref o), some (.ref o3), some (.int (nI i)), some (.int (nI (plcF pr v s))), some (.int (nI b)), some (.int (nI m)), some (.int (nI (acR pr s.1 (hfF v s) (pAc pr (plcF pr v s)) k (0, upF v s)).1)), some (.int (nI k)), x9] [] σ1 := by
    intro m b hm hb d
    have hm8 := hk.2.2.2.1 _ m hm
    have hdo : doF pr v s = ((acR pr s.1 (hfF v s) (pAc pr (plcF pr v s)) m (0, upF v s)).1, some (plcF pr v s), (acR pr s.1 (hfF v s) (pAc pr (plcF pr v s)) m (0, upF v s)).2.1) := by unfold doF; rw [hm]
    induction d with
    | zero =>
      intro k σ1 x9 he h1 h2 h3
      have ek : k = m := by omega
      subst ek
      have hle := acR_le pr s.1 (hfF v s) (pAc pr (plcF pr v s)) (0, upF v s) (by show 0 ≤ 3; decide) k
      refine s_iload hX dX0_perform_66 rfl ?_
      refine s_iload hX dX0_perform_68 rfl ?_
      refine s_icmp_ge_n (tgt := 135) hX dX0_perform_70 (by decide) (by omega) (by omega) (fun q70 => ?_) (fun q70 => ?_)
      · refine s_iload hX dX0_perform_135 rfl ?_
        refine s_iret hX dX0_perform_137 rfl rfl ?_
        rw [hdo]
        exact ⟨rfl, fun _ => h1, h3⟩
      · omega
    | succ d ih =>
      intro k σ1 x9 he h1 h2 h3
      have hle := acR_le pr s.1 (hfF v s) (pAc pr (plcF pr v s)) (0, upF v s) (by show 0 ≤ 3; decide) k
      have hvk := VOk.ac (who := s.1) (f := pAc pr (plcF pr v s)) hP u3 k (0, upF v s) u1 u2
      have hrk := Srt.ac (who := s.1) (f := pAc pr (plcF pr v s)) hk u3 k (0, upF v s) u1 u2 ur
      have hp1 : PrC σ1 pr := hp.kept (fun a q1 q2 => h3 a (by simp only [List.mem_cons, List.not_mem_nil, or_false]; omega))
      have hby := hp1.2.2.2.2.1 _ ha m hm k (by omega)
      have hac := hk.2.2.2.2 (plcF pr v s) k
      have e16 : pAc pr (plcF pr v s) k &&& 15 = pAc pr (plcF pr v s) k % 16 := am _ 4
      refine s_iload hX dX0_perform_66 rfl ?_
      refine s_iload hX dX0_perform_68 rfl ?_
      refine s_icmp_ge_n (tgt := 135) hX dX0_perform_70 (by decide) (by omega) (by omega) (fun q70 => ?_) (fun q70 => ?_)
      · omega
      · refine s_iload hX dX0_perform_73 rfl ?_
        refine s_if_ne_n (tgt := 135) hX dX0_perform_75 (by decide) (by omega) (fun q75 => ?_) (fun q75 => ?_)
        · have hst := acR_stop (f := pAc pr (plcF pr v s)) q75 (d + 1)
          rw [he] at hst
          refine s_iload hX dX0_perform_135 rfl ?_
          refine s_iret hX dX0_perform_137 rfl rfl ?_
          rw [hdo, hst]
          exact ⟨rfl, fun _ => h1, h3⟩
        · have hstep := acR_s (f := pAc pr (plcF pr v s)) q75
          refine s_aload_n hX dX0_perform_78 rfl ?_
          refine s_getR hX dX0_perform_79 fl_X0_9 rfl rfl (by omega) ?_
          refine s_iload hX dX0_perform_82 rfl ?_
          refine s_iload hX dX0_perform_84 rfl ?_
          refine s_callVi (as := [_, _]) hX dX0_perform_86 mk_X6_actOf lk_X0_48 (c_X6_actOf hn _ k ha (by omega)) rfl (by omega) rfl rfl rfl ⟨rfl, rfl⟩ (Nat.le_of_ble_eq_true rfl) (Nat.le_of_ble_eq_true rfl) (Nat.le_of_ble_eq_true rfl) rfl (fun v86 σ86 p86 => ?_)
          obtain ⟨rfl, ep⟩ := p86
          replace ep := ep.symm
          subst ep
          rw [hby]
          refine s_istore hX dX0_perform_89 (Nat.le_of_ble_eq_true rfl) rfl st_10_9 ?_
          refine s_iload hX dX0_perform_91 rfl ?_
          refine s_if_eq_n (tgt := 113) hX dX0_perform_93 (by decide) (by omega) (fun q93 => ?_) (fun q93 => ?_)
          · refine s_aload_n hX dX0_perform_113 rfl ?_
            refine s_aload_n hX dX0_perform_114 rfl ?_
            refine s_iload hX dX0_perform_115 rfl ?_
            refine s_iconst (v := nI 4) hX dX0_perform_117 (by decide) ?_
            refine s_ishr_n hX dX0_perform_118 (by decide) (by omega) ?_
            refine s_iload hX dX0_perform_119 rfl ?_
            refine s_bipush (v := nI 15) hX dX0_perform_121 (by decide) ?_
            refine s_iand_n hX dX0_perform_123 ?_
            rw [e16]
            have lP : s.1 < pP pr := by omega
            have hstep2 : acR pr s.1 (hfF v s) (pAc pr (plcF pr v s)) (k + 1) (0, upF v s) = caF pr s.1 (hfF v s) (pAc pr (plcF pr v s) k / 16) (pAc pr (plcF pr v s) k % 16) (acR pr s.1 (hfF v s) (pAc pr (plcF pr v s)) k (0, upF v s)).2.1 (acR pr s.1 (hfF v s) (pAc pr (plcF pr v s)) k (0, upF v s)).2.2 := by rw [hstep]; unfold actF; rw [if_pos lP]
            refine s_callVi (as := [_, _, _]) hX dX0_perform_124 mk_X0_cacheAct lk_X0_56 (c_X0_cacheAct hn ho h9 h1 hp1 hk hvk.1 s.1 (hfF v s) _ _ _ h2 lP u3 hvk.2 (by omega) (Nat.mod_lt _ (by decide))) rfl (by omega) rfl rfl rfl ⟨rfl, rfl⟩ (Nat.le_of_ble_eq_true rfl) (Nat.le_of_ble_eq_true rfl) (Nat.le_of_ble_eq_true rfl) rfl (fun v124 σ124 p124 => ?_)
            obtain ⟨rfl, p124b, p124c, p124d⟩ := p124
            rw [show pAc pr (plcF pr v s) k / 2 ^ 4 = pAc pr (plcF pr v s) k / 16 from rfl, ← hstep2] at p124b p124c ⊢
            refine s_istore hX dX0_perform_127 (Nat.le_of_ble_eq_true rfl) rfl st_10_7 ?_
            refine s_iinc_n (c := 1) hX dX0_perform_129 rfl (by decide) rfl st_10_8 ?_
            refine s_goto (tgt := 66) hX dX0_perform_132 (by decide) ?_
            first
              | exact ih (k + 1) _ _ (by omega) p107b p107c (h3.trans p107d)
              | exact ih (k + 1) _ _ (by omega) p124b p124c (h3.trans p124d)
          · refine s_aload_n hX dX0_perform_96 rfl ?_
            refine s_aload_n hX dX0_perform_97 rfl ?_
            refine s_iload hX dX0_perform_98 rfl ?_
            refine s_iconst (v := nI 4) hX dX0_perform_100 (by decide) ?_
            refine s_ishr_n hX dX0_perform_101 (by decide) (by omega) ?_
            refine s_iload hX dX0_perform_102 rfl ?_
            refine s_bipush (v := nI 15) hX dX0_perform_104 (by decide) ?_
            refine s_iand_n hX dX0_perform_106 ?_
            rw [e16]
            have eP : s.1 = pP pr := by omega
            have hstep2 : acR pr s.1 (hfF v s) (pAc pr (plcF pr v s)) (k + 1) (0, upF v s) = hoF pr (hfF v s) (pAc pr (plcF pr v s) k / 16) (pAc pr (plcF pr v s) k % 16) (acR pr s.1 (hfF v s) (pAc pr (plcF pr v s)) k (0, upF v s)).2.1 (acR pr s.1 (hfF v s) (pAc pr (plcF pr v s)) k (0, upF v s)).2.2 := by rw [hstep]; unfold actF; rw [if_neg (by omega)]
            refine s_callVi (as := [_, _, _]) hX dX0_perform_107 mk_X0_homeAct lk_X0_52 (c_X0_homeAct hn ho h9 h1 hp1 hk hvk.1 (hfF v s) _ _ _ hrk.2 (by rw [← eP]; exact h2) u3 hvk.2 (by omega) (Nat.mod_lt _ (by decide))) rfl (by omega) rfl rfl rfl ⟨rfl, rfl⟩ (Nat.le_of_ble_eq_true rfl) (Nat.le_of_ble_eq_true rfl) (Nat.le_of_ble_eq_true rfl) rfl (fun v107 σ107 p107 => ?_)
            obtain ⟨rfl, p107b, p107c, p107d⟩ := p107
            rw [show pAc pr (plcF pr v s) k / 2 ^ 4 = pAc pr (plcF pr v s) k / 16 from rfl, ← hstep2] at p107b p107c ⊢
            rw [← eP] at p107c
            refine s_goto (tgt := 127) hX dX0_perform_110 (by decide) ?_
            refine s_istore hX dX0_perform_127 (Nat.le_of_ble_eq_true rfl) rfl st_10_7 ?_
            refine s_iinc_n (c := 1) hX dX0_perform_129 rfl (by decide) rfl st_10_8 ?_
            refine s_goto (tgt := 66) hX dX0_perform_132 (by decide) ?_
            first
              | exact ih (k + 1) _ _ (by omega) p107b p107c (h3.trans p107d)
              | exact ih (k + 1) _ _ (by omega) p124b p124c (h3.trans p124d)
  obtain ⟨am, hm⟩ : ∃ x, pAm pr (plcF pr v s) = x := ⟨_, rfl⟩
  refine s_aload_n hX dX0_perform_0 rfl ?_
  refine s_iload_n hX dX0_perform_1 rfl ?_
  refine s_callVi (as := [_]) hX dX0_perform_2 mk_X9_placeAt lk_X0_25 (c_X9_placeAt hl hS i hi20 s hi) hl.1 (by omega) rfl rfl rfl ⟨rfl, rfl⟩ (Nat.le_of_ble_eq_true rfl) (Nat.le_of_ble_eq_true rfl) (Nat.le_of_ble_eq_true rfl) rfl (fun v2 σ2 p2 => ?_)
  obtain ⟨rfl, ep⟩ := p2
  replace ep := ep.symm
  subst ep
  refine s_istore hX dX0_perform_5 (Nat.le_of_ble_eq_true rfl) rfl st_10_4 ?_
  refine s_aload_n hX dX0_perform_7 rfl ?_
  refine s_getR hX dX0_perform_8 fl_X0_9 rfl rfl (by omega) ?_
  refine s_iload hX dX0_perform_11 rfl ?_
  refine s_callVi (as := [_]) hX dX0_perform_13 mk_X6_hasRow lk_X0_31 (c_X6_hasRow hn hp hk _ ha) rfl (by omega) rfl rfl rfl ⟨rfl, rfl⟩ (Nat.le_of_ble_eq_true rfl) (Nat.le_of_ble_eq_true rfl) (Nat.le_of_ble_eq_true rfl) rfl (fun v13 σ13 p13 => ?_)
  obtain ⟨rfl, ep⟩ := p13
  replace ep := ep.symm
  subst ep
  rw [hm]
  refine s_if_ne_n (tgt := 21) hX dX0_perform_16 (by decide) (by unfold isN; split <;> decide) (fun q16 => ?_) (fun q16 => ?_)
  · obtain ⟨m, rfl⟩ : ∃ m, am = some m := by
      cases am with
      | none => exact absurd rfl q16
      | some m => exact ⟨m, rfl⟩
    have hm8 := hk.2.2.2.1 _ m hm
    refine s_aload_n hX dX0_perform_21 rfl ?_
    refine s_aload_n hX dX0_perform_22 rfl ?_
    refine s_aload_n hX dX0_perform_23 rfl ?_
    refine s_iload_n hX dX0_perform_24 rfl ?_
    refine s_callVv (as := [_, _, _]) hX dX0_perform_25 mk_X0_takeUp lk_X0_37 (c_X0_takeUp hn ho h9 h hp hk hv hl h13 hS hi hi20 hs hw) rfl (by omega) rfl rfl rfl ⟨rfl, rfl⟩ (Nat.le_of_ble_eq_true rfl) (Nat.le_of_ble_eq_true rfl) (Nat.le_of_ble_eq_true rfl) rfl (fun σ25 p25 => ?_)
    obtain ⟨p25a, p25b, p25c⟩ := p25
    have hp1 : PrC σ25 pr := hp.kept (fun a q1 q2 => p25c a (by simp only [List.mem_cons, List.not_mem_nil, or_false]; omega))
    refine s_aload_n hX dX0_perform_28 rfl ?_
    refine s_getI (x := nI (s.1)) hX dX0_perform_29 fl_X0_15 rfl rfl (by omega) p25b.1 ?_
    refine s_aload_n hX dX0_perform_32 rfl ?_
    refine s_getR hX dX0_perform_33 fl_X0_9 rfl rfl (by omega) ?_
    refine s_callVi (as := []) hX dX0_perform_36 mk_X6_home lk_X0_41 (c_X6_home hn hp1) rfl (by omega) rfl rfl rfl ⟨rfl, rfl⟩ (Nat.le_of_ble_eq_true rfl) (Nat.le_of_ble_eq_true rfl) (Nat.le_of_ble_eq_true rfl) rfl (fun v36 σ36 p36 => ?_)
    obtain ⟨rfl, ep⟩ := p36
    replace ep := ep.symm
    subst ep
    refine s_icmp_ne_n (tgt := 46) hX dX0_perform_39 (by decide) (by omega) (by omega) (fun q39 => ?_) (fun q39 => ?_)
    · refine s_iconst (v := nI 0) hX dX0_perform_46 (by decide) ?_
      refine s_istore hX dX0_perform_47 (Nat.le_of_ble_eq_true rfl) rfl st_10_5 ?_
      refine s_aload_n hX dX0_perform_49 rfl ?_
      refine s_getR hX dX0_perform_50 fl_X0_9 rfl rfl (by omega) ?_
      refine s_iload hX dX0_perform_53 rfl ?_
      refine s_callVi (as := [_]) hX dX0_perform_55 mk_X6_lengthOf lk_X0_45 (c_X6_lengthOf hn hp1 _ ha) rfl (by omega) rfl rfl rfl ⟨rfl, rfl⟩ (Nat.le_of_ble_eq_true rfl) (Nat.le_of_ble_eq_true rfl) (Nat.le_of_ble_eq_true rfl) rfl (fun v55 σ55 p55 => ?_)
      obtain ⟨rfl, ep⟩ := p55
      replace ep := ep.symm
      subst ep
      rw [hm]
      rw [show amv (some m) = nI m from rfl]
      refine s_istore hX dX0_perform_58 (Nat.le_of_ble_eq_true rfl) rfl st_10_6 ?_
      refine s_iconst (v := nI 0) hX dX0_perform_60 (by decide) ?_
      refine s_istore hX dX0_perform_61 (Nat.le_of_ble_eq_true rfl) rfl st_10_7 ?_
      refine s_iconst (v := nI 0) hX dX0_perform_63 (by decide) ?_
      refine s_istore hX dX0_perform_64 (Nat.le_of_ble_eq_true rfl) rfl st_10_8 ?_
      first
        | exact LP m 1 hm (Or.inl ⟨rfl, q39⟩) m 0 _ _ (by omega) p25a p25b p25c
        | exact LP m 0 hm (Or.inr ⟨rfl, by omega⟩) m 0 _ _ (by omega) p25a p25b p25c
    · refine s_iconst (v := nI 1) hX dX0_perform_42 (by decide) ?_
      refine s_goto (tgt := 47) hX dX0_perform_43 (by decide) ?_
      refine s_istore hX dX0_perform_47 (Nat.le_of_ble_eq_true rfl) rfl st_10_5 ?_
      refine s_aload_n hX dX0_perform_49 rfl ?_
      refine s_getR hX dX0_perform_50 fl_X0_9 rfl rfl (by omega) ?_
      refine s_iload hX dX0_perform_53 rfl ?_
      refine s_callVi (as := [_]) hX dX0_perform_55 mk_X6_lengthOf lk_X0_45 (c_X6_lengthOf hn hp1 _ ha) rfl (by omega) rfl rfl rfl ⟨rfl, rfl⟩ (Nat.le_of_ble_eq_true rfl) (Nat.le_of_ble_eq_true rfl) (Nat.le_of_ble_eq_true rfl) rfl (fun v55 σ55 p55 => ?_)
      obtain ⟨rfl, ep⟩ := p55
      replace ep := ep.symm
      subst ep
      rw [hm]
      rw [show amv (some m) = nI m from rfl]
      refine s_istore hX dX0_perform_58 (Nat.le_of_ble_eq_true rfl) rfl st_10_6 ?_
      refine s_iconst (v := nI 0) hX dX0_perform_60 (by decide) ?_
      refine s_istore hX dX0_perform_61 (Nat.le_of_ble_eq_true rfl) rfl st_10_7 ?_
      refine s_iconst (v := nI 0) hX dX0_perform_63 (by decide) ?_
      refine s_istore hX dX0_perform_64 (Nat.le_of_ble_eq_true rfl) rfl st_10_8 ?_
      first
        | exact LP m 1 hm (Or.inl ⟨rfl, q39⟩) m 0 _ _ (by omega) p25a p25b p25c
        | exact LP m 0 hm (Or.inr ⟨rfl, by omega⟩) m 0 _ _ (by omega) p25a p25b p25c
  · have e0 : am = none := by
      cases am with
      | none => rfl
      | some m => exact absurd q16 (by show ¬ (1 = 0); decide)
    subst e0
    refine s_iconst (v := nI 1) hX dX0_perform_19 (by decide) ?_
    refine s_iret hX dX0_perform_20 rfl rfl ?_
    have hdo : doF pr v s = (1, none, (upF v s).1) := by unfold doF; rw [hm]
    rw [hdo]
    exact ⟨rfl, fun q => (by cases q), Off.rf⟩
