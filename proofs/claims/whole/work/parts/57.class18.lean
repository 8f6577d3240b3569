/-! ===== the atlas: a state is visited; the walk begins and ends ===== -/
abbrev atL : List Nat := [9, 20, 21, 22, 23, 24, 25, 26, 27, 28, 29, 30, 31, 32, 33, 34, 35, 36, 37, 38, 39, 40, 41, 42, 43, 44, 45, 46, 47, 48, 49, 50, 51, 52]
theorem try_kN {pr : Pr} {most n i : Nat} {s : Sp} {W : Wk} {a b : Nat} (h : ¬ (a = n ∧ b = i)) : kN (tryK pr most n i s W) a b = kN W a b := by
  unfold tryK
  split
  · rfl
  · cases numK W (doF pr (kV W n) s).2.2 with
    | some k => show nxt _ _ _ _ _ _ = _; unfold nxt; rw [if_neg h]; rfl
    | none =>
      dsimp only
      split
      · show nxt _ _ _ _ _ _ = _; unfold nxt; rw [if_neg h]; rfl
      · show nxt _ _ _ _ _ _ = _; unfold nxt; rw [if_neg h]; rfl
theorem visR_none {pr : Pr} {most n : Nat} {l : List Sp} {W : Wk} (h : ∀ j, kN W n j = none) : ∀ i j, i ≤ j → kN (visR pr most n l i W) n j = none
  | 0, j, _ => h j
  | i + 1, j, hj => by
    unfold visR
    cases l[i]? with
    | none => exact visR_none h i j (by omega)
    | some s => dsimp only; rw [try_kN (by omega)]; exact visR_none h i j (by omega)
theorem flL_no {p : Nat → Bool} {n : Nat} (h : p n = false) : flL p (n + 1) = flL p n := by
  show flL p n ++ _ = _
  rw [if_neg (by rw [h]; decide), List.append_nil]
theorem flL_yes {p : Nat → Bool} {n : Nat} (h : p n = true) : flL p (n + 1) = flL p n ++ [n] := by
  show flL p n ++ _ = _
  rw [if_pos h]
theorem lq_s {pr : Pr} {W : Wk} {n m : Nat} (h : m ≠ n) : lqF pr W (n + 1) m = lqF pr W n m := by
  unfold lqF
  by_cases c : m < n
  · rw [decide_eq_true c, decide_eq_true (by omega)]
  · rw [decide_eq_false c, decide_eq_false (by omega)]
theorem lq_n {pr : Pr} {W : Wk} {n : Nat} : lqF pr W (n + 1) n = quF pr (kV W n) ∧ lqF pr W n n = false := by
  unfold lqF
  rw [decide_eq_true (by omega), decide_eq_false (by omega)]
  exact ⟨rfl, rfl⟩
set_option maxRecDepth 100000 in
set_option maxHeartbeats 4000000 in
theorem c_X1_visit {n : Nat} {σ : Sg} {pr : Pr} (hn : 53 ≤ n) (hp : PrC σ pr) (hk : PrOk pr) {W : Wk} {most nn : Nat} (hA : AtC pr σ most W nn (kT W)) (hW : WkOk pr most nn W) (hr : SrtK pr W) (hm : most ≤ 4000) (hn0 : nn < kM W) (hT : kT W ≤ 20 * nn) : Sm n mX1_visit [.ref 20, .int (nI nn)] σ (qv fun σ2 => AtC pr σ2 most (visF pr most nn W) (nn + 1) (kT (visF pr most nn W)) ∧ Off σ σ2 atL) := by
  refine Sm.of mk_X1_visit (Nat.le_of_ble_eq_true rfl) rfl (fun X hX => ?_)
  have hM := hW.1.2
  have hV := hW.2.1
  have hv := hV nn hn0
  have hl20 := stepsF_le hk hv
  have hno : ∀ j, kN W nn j = none := fun j => hW.2.2.1 nn j (Nat.le_refl _)
  have LP : ∀ (d i : Nat) (σ1 : Sg), i + d = (stepsF pr (kV W nn)).length → AtC pr σ1 most (visR pr most nn (stepsF pr (kV W nn)) i W) (nn + 1) (kT (visR pr most nn (stepsF pr (kV W nn)) i W)) → ScC pr σ1 21 (kV W nn) → SlC pr (kV W nn) σ1 25 (stepsF pr (kV W nn)) → PrC σ1 pr → Off σ σ1 atL → Sw n mX1_visit X (ZS n mX1_visit (qv fun σ2 => AtC pr σ2 most (visF pr most nn W) (nn + 1) (kT (visF pr most nn W)) ∧ Off σ σ2 atL) X) 74 [some (.ref 20), some (.int (nI nn)), some (.int (nI i))] [] σ1 := by
    intro d
    induction d with
    | zero =>
      intro i σ1 hd h1 h2 h3 h4 h5
      have ei : i = (stepsF pr (kV W nn)).length := by omega
      subst ei
      refine s_iload_n hX dX1_visit_74 rfl ?_
      refine s_aload_n hX dX1_visit_75 rfl ?_
      refine s_getR hX dX1_visit_76 fl_X1_34 rfl rfl (by omega) ?_
      refine s_callVi (as := []) hX dX1_visit_79 mk_X9_count lk_X1_134 (c_X9_count (il25 hn) h3) rfl (by omega) rfl rfl rfl ⟨rfl, rfl⟩ (Nat.le_of_ble_eq_true rfl) (Nat.le_of_ble_eq_true rfl) (Nat.le_of_ble_eq_true rfl) rfl (fun v79 σ79 p79 => ?_)
      obtain ⟨rfl, ep⟩ := p79
      replace ep := ep.symm
      subst ep
      refine s_icmp_ge_n (tgt := 97) hX dX1_visit_82 (by decide) (by omega) (by omega) (fun q82 => ?_) (fun q82 => ?_)
      · refine s_vret hX dX1_visit_97 rfl rfl ?_
        exact ⟨h1, h5⟩
      · omega
    | succ d ih =>
      intro i σ1 hd h1 h2 h3 h4 h5
      have kp := visR_keep pr most nn (stepsF pr (kV W nn)) W i
      have kvn := kp.2.1 nn hn0
      have hTi := kp.2.2
      obtain ⟨s, hs⟩ : ∃ s, (stepsF pr (kV W nn))[i]? = some s := ⟨_, List.getElem?_eq_getElem (by omega)⟩
      have hstep : visR pr most nn (stepsF pr (kV W nn)) (i + 1) W = tryK pr most nn i s (visR pr most nn (stepsF pr (kV W nn)) i W) := by
        show (match (stepsF pr (kV W nn))[i]? with | none => _ | some s => _) = _
        rw [hs]
      have hkt := (try_keep pr most nn i s (visR pr most nn (stepsF pr (kV W nn)) i W)).2.2
      rw [← hstep] at hkt
      refine s_iload_n hX dX1_visit_74 rfl ?_
      refine s_aload_n hX dX1_visit_75 rfl ?_
      refine s_getR hX dX1_visit_76 fl_X1_34 rfl rfl (by omega) ?_
      refine s_callVi (as := []) hX dX1_visit_79 mk_X9_count lk_X1_134 (c_X9_count (il25 hn) h3) rfl (by omega) rfl rfl rfl ⟨rfl, rfl⟩ (Nat.le_of_ble_eq_true rfl) (Nat.le_of_ble_eq_true rfl) (Nat.le_of_ble_eq_true rfl) rfl (fun v79 σ79 p79 => ?_)
      obtain ⟨rfl, ep⟩ := p79
      replace ep := ep.symm
      subst ep
      refine s_icmp_ge_n (tgt := 97) hX dX1_visit_82 (by decide) (by omega) (by omega) (fun q82 => ?_) (fun q82 => ?_)
      · omega
      · refine s_aload_n hX dX1_visit_85 rfl ?_
        refine s_iload_n hX dX1_visit_86 rfl ?_
        refine s_iload_n hX dX1_visit_87 rfl ?_
        refine s_callVv (as := [_, _]) hX dX1_visit_88 mk_X1_tryStep lk_X1_140 (c_X1_tryStep (s := s) hn h4 hk h1 (visR_ok hk hW hn0 i) (visR_srt hk hW hr hn0 i) hm (by have := kp.1; omega) (by omega) (by rw [kvn]; exact h2) (by rw [kvn]; exact h3) (by omega) (by rw [kvn]; exact hs) (visR_none hno i i (Nat.le_refl _))) rfl (by omega) rfl rfl rfl ⟨rfl, rfl⟩ (Nat.le_of_ble_eq_true rfl) (Nat.le_of_ble_eq_true rfl) (Nat.le_of_ble_eq_true rfl) rfl (fun σ88 p88 => ?_)
        obtain ⟨p88a, p88b⟩ := p88
        rw [← hstep, ← hkt] at p88a
        refine s_iinc_n (c := 1) hX dX1_visit_91 rfl (by decide) rfl st_3_2 ?_
        refine s_goto (tgt := 74) hX dX1_visit_94 (by decide) ?_
        exact ih (i + 1) _ (by omega) p88a (h2.kept (p88b 21 (by decide)) (p88b 22 (by decide))) (h3.kept (fun a q1 q2 => p88b a (by simp only [List.mem_cons, List.not_mem_nil, or_false]; omega))) (h4.off2 p88b (by decide)) (h5.trans (p88b.mono2 (by decide)))
  refine s_aload_n hX dX1_visit_0 rfl ?_
  refine s_getR hX dX1_visit_1 fl_X1_41 rfl rfl (by omega) ?_
  refine s_iload_n hX dX1_visit_4 rfl ?_
  refine s_aload_n hX dX1_visit_5 rfl ?_
  refine s_getR hX dX1_visit_6 fl_X1_22 rfl rfl (by omega) ?_
  refine s_callVv (as := [_, _]) hX dX1_visit_9 mk_X8_load lk_X1_119 (c_X8_load hn hk hA.1 (by omega) hV (is21 hn) nn hn0) rfl (by omega) rfl rfl rfl ⟨rfl, rfl⟩ (Nat.le_of_ble_eq_true rfl) (Nat.le_of_ble_eq_true rfl) (Nat.le_of_ble_eq_true rfl) rfl (fun σ9 p9 => ?_)
  obtain ⟨p9a, p9b⟩ := p9
  have hp9 := hp.off2 p9b (by decide)
  refine s_aload_n hX dX1_visit_12 rfl ?_
  refine s_getR hX dX1_visit_13 fl_X1_34 rfl rfl (by omega) ?_
  refine s_aload_n hX dX1_visit_16 rfl ?_
  refine s_getR hX dX1_visit_17 fl_X1_22 rfl rfl (by omega) ?_
  refine s_callVv (as := [_]) hX dX1_visit_20 mk_X9_list lk_X1_123 (c_X9_list hn (il25 hn) (is21 hn) (by decide) (by decide) p9a hp9 hk hv (hr nn hn0)) rfl (by omega) rfl rfl rfl ⟨rfl, rfl⟩ (Nat.le_of_ble_eq_true rfl) (Nat.le_of_ble_eq_true rfl) (Nat.le_of_ble_eq_true rfl) rfl (fun σ20 p20 => ?_)
  obtain ⟨p20a, p20b⟩ := p20
  have hO20 : Off σ σ20 [21, 22, 25, 26, 27, 28, 29, 30] := (p9b.mono2 (by decide)).trans (p20b.mono2 (by decide))
  have h21 : ScC pr σ20 21 (kV W nn) := p9a.kept (p20b 21 (by decide)) (p20b 22 (by decide))
  have hp20 := hp.off2 hO20 (by decide)
  obtain ⟨a1, a2, a3, a4, a5, a6, a7, R, a8⟩ := hA.kept (hO20 20 (by decide)) (fun a q1 q2 => hO20 a (by simp only [List.mem_cons, List.not_mem_nil, or_false]; omega))
  have hfl := flL_len (fun m => skF pr (kV W m)) nn
  have hct := ctR_le (fun m => skF pr (kV W m)) nn
  have hqc := qcR_le pr (kV W) nn
  refine s_aload_n hX dX1_visit_23 rfl ?_
  refine s_getR hX dX1_visit_24 fl_X1_22 rfl rfl (by omega) ?_
  refine s_callVi (as := []) hX dX1_visit_27 mk_X7_isQuiet lk_X1_127 (c_X7_isQuiet (is21 hn) h21 hk hv) rfl (by omega) rfl rfl rfl ⟨rfl, rfl⟩ (Nat.le_of_ble_eq_true rfl) (Nat.le_of_ble_eq_true rfl) (Nat.le_of_ble_eq_true rfl) rfl (fun v27 σ27 p27 => ?_)
  obtain ⟨rfl, ep⟩ := p27
  replace ep := ep.symm
  subst ep
  unfold bI
  refine s_if_eq_n (tgt := 54) hX dX1_visit_30 (by decide) (by have := Bool.toNat_le (quF pr (kV W nn)); omega) (fun q30 => ?_) (fun q30 => ?_)
  · have hqu := tn0 q30
    have hq1 : qcR pr (kV W) (nn + 1) = qcR pr (kV W) nn := by show qcR pr (kV W) nn + (quF pr (kV W nn)).toNat = _; rw [hqu]; rfl
    have hl1 : ∀ m, m < kM W → lqF pr W (nn + 1) m = lqF pr W nn m := fun m _ => by
      by_cases e : m = nn
      · rw [e, lq_n.1, lq_n.2, hqu]
      · exact lq_s e
    refine s_aload_n hX dX1_visit_54 rfl ?_
    refine s_getR hX dX1_visit_55 fl_X1_34 rfl rfl (by omega) ?_
    refine s_callVi (as := []) hX dX1_visit_58 mk_X9_count lk_X1_134 (c_X9_count (il25 hn) p20a) rfl (by omega) rfl rfl rfl ⟨rfl, rfl⟩ (Nat.le_of_ble_eq_true rfl) (Nat.le_of_ble_eq_true rfl) (Nat.le_of_ble_eq_true rfl) rfl (fun v58 σ58 p58 => ?_)
    obtain ⟨rfl, ep⟩ := p58
    replace ep := ep.symm
    subst ep
    refine s_if_ne_n (tgt := 72) hX dX1_visit_61 (by decide) (by omega) (fun q61 => ?_) (fun q61 => ?_)
    · have hsk : flL (fun m => skF pr (kV W m)) (nn + 1) = flL (fun m => skF pr (kV W m)) nn := by
        have : skF pr (kV W nn) = false := by unfold skF; rw [decide_eq_false q61]; rfl
        exact flL_no this
      refine s_iconst (v := nI 0) hX dX1_visit_72 (by decide) ?_
      refine s_istore_n hX dX1_visit_73 (Nat.le_of_ble_eq_true rfl) rfl st_3_2 ?_
      first
        | (have hO : Off σ σ48 [20, 21, 22, 25, 26, 27, 28, 29, 30, 47, 48, 49] := ((hO20.mono2 (by decide)).wI (by simp)).trans (p48b.mono2 (by decide))
           have e : ∀ x, x ≠ 20 → x ≠ 47 → x ≠ 48 → x ≠ 49 → σ48 x = σ20 x := fun x b1 b2 b3 b4 => by rw [p48b x (by simp only [List.mem_cons, List.not_mem_nil, or_false]; omega), wI_a _ _ b1]
           refine LP _ 0 _ (Nat.zero_add _) ⟨a1.kept (fun a b1 b2 => e a (by omega) (by omega) (by omega) (by omega)), ?_, ?_, a4.kept (e 42 (by decide) (by decide) (by decide) (by decide)) (e 43 (by decide) (by decide) (by decide) (by decide)), ?_, ?_, a7.kept (e 45 (by decide) (by decide) (by decide) (by decide)) (e 46 (by decide) (by decide) (by decide) (by decide)), _, p48a.cong (fun m hm => ?_)⟩ (h21.kept (e 21 (by decide) (by decide) (by decide) (by decide)) (e 22 (by decide) (by decide) (by decide) (by decide))) (p20a.kept (fun a b1 b2 => e a (by omega) (by omega) (by omega) (by omega))) (hp.off2 hO (by decide)) (hO.mono2 (by decide))
           · unfold BdC; rw [e 36 (by decide) (by decide) (by decide) (by decide), e 37 (by decide) (by decide) (by decide) (by decide), e 38 (by decide) (by decide) (by decide) (by decide), e 39 (by decide) (by decide) (by decide) (by decide)]; exact a2
           · show NlC σ48 40 (flL (fun m => skF pr (kV W m)) (nn + 1))
             rw [hsk]
             exact a3.kept (e 40 (by decide) (by decide) (by decide) (by decide)) (e 41 (by decide) (by decide) (by decide) (by decide))
           · show AtN σ48 most (kT W) (qcR pr (kV W) (nn + 1)) (kS W)
             rw [hq1]
             unfold AtN
             rw [p48b 20 (by decide), wI_k _ _ (by decide), wI_k _ _ (by decide), wI_s, wI_k _ _ (by decide)]
             exact ⟨a5.1, a5.2.1, rfl, a5.2.2.2⟩
           · show AtF σ48 W
             unfold AtF; rw [e 50 (by decide) (by decide) (by decide) (by decide), e 51 (by decide) (by decide) (by decide) (by decide), e 52 (by decide) (by decide) (by decide) (by decide)]; exact a6
           · show lqF pr W (nn + 1) m = _
             by_cases c : m = nn
             · rw [c, va_up_at, lq_n.1, hqu]
             · rw [va_up_ne _ _ c, lq_s c])
        | (refine LP _ 0 _ (Nat.zero_add _) ⟨a1, a2, ?_, a4, ?_, a6, a7, R, a8.cong hl1⟩ h21 p20a hp20 (hO20.mono2 (by decide))
           · show NlC σ20 40 (flL (fun m => skF pr (kV W m)) (nn + 1))
             rw [hsk]; exact a3
           · show AtN σ20 most (kT W) (qcR pr (kV W) (nn + 1)) (kS W)
             rw [hq1]; exact a5)
        | (have e : ∀ x, x ≠ 40 → x ≠ 41 → σ69 x = σ20 x := fun x b1 b2 => p69b x (by simp only [List.mem_cons, List.not_mem_nil, or_false]; omega)
           have hO : Off σ σ69 [21, 22, 25, 26, 27, 28, 29, 30, 40, 41] := (hO20.mono2 (by decide)).trans (p69b.mono2 (by decide))
           refine LP _ 0 _ (Nat.zero_add _) ⟨a1.kept (fun a b1 b2 => e a (by omega) (by omega)), ?_, ?_, a4.kept (e 42 (by decide) (by decide)) (e 43 (by decide) (by decide)), ?_, ?_, a7.kept (e 45 (by decide) (by decide)) (e 46 (by decide) (by decide)), R, (a8.kept (e 47 (by decide) (by decide)) (e 48 (by decide) (by decide)) (e 49 (by decide) (by decide))).cong hl1⟩ (h21.kept (e 21 (by decide) (by decide)) (e 22 (by decide) (by decide))) (p20a.kept (fun a b1 b2 => e a (by omega) (by omega))) (hp.off2 hO (by decide)) (hO.mono2 (by decide))
           · unfold BdC; rw [e 36 (by decide) (by decide), e 37 (by decide) (by decide), e 38 (by decide) (by decide), e 39 (by decide) (by decide)]; exact a2
           · show NlC σ69 40 (flL (fun m => skF pr (kV W m)) (nn + 1))
             rw [hsk]; exact p69a
           · show AtN σ69 most (kT W) (qcR pr (kV W) (nn + 1)) (kS W)
             rw [hq1]
             unfold AtN; rw [e 20 (by decide) (by decide)]; exact a5
           · show AtF σ69 W
             unfold AtF; rw [e 50 (by decide) (by decide), e 51 (by decide) (by decide), e 52 (by decide) (by decide)]; exact a6)
    · have hsk : flL (fun m => skF pr (kV W m)) (nn + 1) = flL (fun m => skF pr (kV W m)) nn ++ [nn] := by
        have : skF pr (kV W nn) = true := by unfold skF; rw [decide_eq_true q61, hqu]; rfl
        exact flL_yes this
      refine s_aload_n hX dX1_visit_64 rfl ?_
      refine s_getR hX dX1_visit_65 fl_X1_55 rfl rfl (by omega) ?_
      refine s_iload_n hX dX1_visit_68 rfl ?_
      refine s_callVv (as := [_]) hX dX1_visit_69 mk_X5_add lk_X1_137 (c_X5_add (in40 hn) a3 (by omega) nn) rfl (by omega) rfl rfl rfl ⟨rfl, rfl⟩ (Nat.le_of_ble_eq_true rfl) (Nat.le_of_ble_eq_true rfl) (Nat.le_of_ble_eq_true rfl) rfl (fun σ69 p69 => ?_)
      obtain ⟨p69a, p69b⟩ := p69
      refine s_iconst (v := nI 0) hX dX1_visit_72 (by decide) ?_
      refine s_istore_n hX dX1_visit_73 (Nat.le_of_ble_eq_true rfl) rfl st_3_2 ?_
      first
        | (have hO : Off σ σ48 [20, 21, 22, 25, 26, 27, 28, 29, 30, 47, 48, 49] := ((hO20.mono2 (by decide)).wI (by simp)).trans (p48b.mono2 (by decide))
           have e : ∀ x, x ≠ 20 → x ≠ 47 → x ≠ 48 → x ≠ 49 → σ48 x = σ20 x := fun x b1 b2 b3 b4 => by rw [p48b x (by simp only [List.mem_cons, List.not_mem_nil, or_false]; omega), wI_a _ _ b1]
           refine LP _ 0 _ (Nat.zero_add _) ⟨a1.kept (fun a b1 b2 => e a (by omega) (by omega) (by omega) (by omega)), ?_, ?_, a4.kept (e 42 (by decide) (by decide) (by decide) (by decide)) (e 43 (by decide) (by decide) (by decide) (by decide)), ?_, ?_, a7.kept (e 45 (by decide) (by decide) (by decide) (by decide)) (e 46 (by decide) (by decide) (by decide) (by decide)), _, p48a.cong (fun m hm => ?_)⟩ (h21.kept (e 21 (by decide) (by decide) (by decide) (by decide)) (e 22 (by decide) (by decide) (by decide) (by decide))) (p20a.kept (fun a b1 b2 => e a (by omega) (by omega) (by omega) (by omega))) (hp.off2 hO (by decide)) (hO.mono2 (by decide))
           · unfold BdC; rw [e 36 (by decide) (by decide) (by decide) (by decide), e 37 (by decide) (by decide) (by decide) (by decide), e 38 (by decide) (by decide) (by decide) (by decide), e 39 (by decide) (by decide) (by decide) (by decide)]; exact a2
           · show NlC σ48 40 (flL (fun m => skF pr (kV W m)) (nn + 1))
             rw [hsk]
             exact a3.kept (e 40 (by decide) (by decide) (by decide) (by decide)) (e 41 (by decide) (by decide) (by decide) (by decide))
           · show AtN σ48 most (kT W) (qcR pr (kV W) (nn + 1)) (kS W)
             rw [hq1]
             unfold AtN
             rw [p48b 20 (by decide), wI_k _ _ (by decide), wI_k _ _ (by decide), wI_s, wI_k _ _ (by decide)]
             exact ⟨a5.1, a5.2.1, rfl, a5.2.2.2⟩
           · show AtF σ48 W
             unfold AtF; rw [e 50 (by decide) (by decide) (by decide) (by decide), e 51 (by decide) (by decide) (by decide) (by decide), e 52 (by decide) (by decide) (by decide) (by decide)]; exact a6
           · show lqF pr W (nn + 1) m = _
             by_cases c : m = nn
             · rw [c, va_up_at, lq_n.1, hqu]
             · rw [va_up_ne _ _ c, lq_s c])
        | (refine LP _ 0 _ (Nat.zero_add _) ⟨a1, a2, ?_, a4, ?_, a6, a7, R, a8.cong hl1⟩ h21 p20a hp20 (hO20.mono2 (by decide))
           · show NlC σ20 40 (flL (fun m => skF pr (kV W m)) (nn + 1))
             rw [hsk]; exact a3
           · show AtN σ20 most (kT W) (qcR pr (kV W) (nn + 1)) (kS W)
             rw [hq1]; exact a5)
        | (have e : ∀ x, x ≠ 40 → x ≠ 41 → σ69 x = σ20 x := fun x b1 b2 => p69b x (by simp only [List.mem_cons, List.not_mem_nil, or_false]; omega)
           have hO : Off σ σ69 [21, 22, 25, 26, 27, 28, 29, 30, 40, 41] := (hO20.mono2 (by decide)).trans (p69b.mono2 (by decide))
           refine LP _ 0 _ (Nat.zero_add _) ⟨a1.kept (fun a b1 b2 => e a (by omega) (by omega)), ?_, ?_, a4.kept (e 42 (by decide) (by decide)) (e 43 (by decide) (by decide)), ?_, ?_, a7.kept (e 45 (by decide) (by decide)) (e 46 (by decide) (by decide)), R, (a8.kept (e 47 (by decide) (by decide)) (e 48 (by decide) (by decide)) (e 49 (by decide) (by decide))).cong hl1⟩ (h21.kept (e 21 (by decide) (by decide)) (e 22 (by decide) (by decide))) (p20a.kept (fun a b1 b2 => e a (by omega) (by omega))) (hp.off2 hO (by decide)) (hO.mono2 (by decide))
           · unfold BdC; rw [e 36 (by decide) (by decide), e 37 (by decide) (by decide), e 38 (by decide) (by decide), e 39 (by decide) (by decide)]; exact a2
           · show NlC σ69 40 (flL (fun m => skF pr (kV W m)) (nn + 1))
             rw [hsk]; exact p69a
           · show AtN σ69 most (kT W) (qcR pr (kV W) (nn + 1)) (kS W)
             rw [hq1]
             unfold AtN; rw [e 20 (by decide) (by decide)]; exact a5
           · show AtF σ69 W
             unfold AtF; rw [e 50 (by decide) (by decide), e 51 (by decide) (by decide), e 52 (by decide) (by decide)]; exact a6)
  · have hqu := tn1 q30
    have hq1 : qcR pr (kV W) (nn + 1) = qcR pr (kV W) nn + 1 := by show qcR pr (kV W) nn + (quF pr (kV W nn)).toNat = _; rw [hqu]; rfl
    have hsk : flL (fun m => skF pr (kV W m)) (nn + 1) = flL (fun m => skF pr (kV W m)) nn := by
      have : skF pr (kV W nn) = false := by unfold skF; rw [hqu]; simp
      exact flL_no this
    refine s_aload_n hX dX1_visit_33 rfl ?_
    refine s_dup hX dX1_visit_34 rfl ?_
    refine s_getI (x := nI (qcR pr (kV W) nn)) hX dX1_visit_35 fl_X1_86 rfl rfl (by omega) a5.2.2.1 ?_
    refine s_iconst (v := nI 1) hX dX1_visit_38 (by decide) ?_
    refine s_iadd_n hX dX1_visit_39 ?_
    refine s_putI hX dX1_visit_40 fl_X1_86 rfl rfl (by omega) rfl rfl ?_
    refine s_aload_n hX dX1_visit_43 rfl ?_
    refine s_getR hX dX1_visit_44 fl_X1_65 rfl rfl (by omega) ?_
    refine s_iload_n hX dX1_visit_47 rfl ?_
    refine s_callVv (as := [_]) hX dX1_visit_48 mk_X2_markLeading lk_X1_131 (c_X2_markLeading hn (by omega) (a8.kept (σ2 := wI σ20 20 15 (nI (qcR pr (kV W) nn + 1))) (wI_a _ _ (by decide)) (wI_a _ _ (by decide)) (wI_a _ _ (by decide))) nn hn0) rfl (by omega) rfl rfl rfl ⟨rfl, rfl⟩ (Nat.le_of_ble_eq_true rfl) (Nat.le_of_ble_eq_true rfl) (Nat.le_of_ble_eq_true rfl) rfl (fun σ48 p48 => ?_)
    obtain ⟨p48a, p48b⟩ := p48
    refine s_goto (tgt := 72) hX dX1_visit_51 (by decide) ?_
    refine s_iconst (v := nI 0) hX dX1_visit_72 (by decide) ?_
    refine s_istore_n hX dX1_visit_73 (Nat.le_of_ble_eq_true rfl) rfl st_3_2 ?_
    first
      | (have hO : Off σ σ48 [20, 21, 22, 25, 26, 27, 28, 29, 30, 47, 48, 49] := ((hO20.mono2 (by decide)).wI (by simp)).trans (p48b.mono2 (by decide))
         have e : ∀ x, x ≠ 20 → x ≠ 47 → x ≠ 48 → x ≠ 49 → σ48 x = σ20 x := fun x b1 b2 b3 b4 => by rw [p48b x (by simp only [List.mem_cons, List.not_mem_nil, or_false]; omega), wI_a _ _ b1]
         refine LP _ 0 _ (Nat.zero_add _) ⟨a1.kept (fun a b1 b2 => e a (by omega) (by omega) (by omega) (by omega)), ?_, ?_, a4.kept (e 42 (by decide) (by decide) (by decide) (by decide)) (e 43 (by decide) (by decide) (by decide) (by decide)), ?_, ?_, a7.kept (e 45 (by decide) (by decide) (by decide) (by decide)) (e 46 (by decide) (by decide) (by decide) (by decide)), _, p48a.cong (fun m hm => ?_)⟩ (h21.kept (e 21 (by decide) (by decide) (by decide) (by decide)) (e 22 (by decide) (by decide) (by decide) (by decide))) (p20a.kept (fun a b1 b2 => e a (by omega) (by omega) (by omega) (by omega))) (hp.off2 hO (by decide)) (hO.mono2 (by decide))
         · unfold BdC; rw [e 36 (by decide) (by decide) (by decide) (by decide), e 37 (by decide) (by decide) (by decide) (by decide), e 38 (by decide) (by decide) (by decide) (by decide), e 39 (by decide) (by decide) (by decide) (by decide)]; exact a2
         · show NlC σ48 40 (flL (fun m => skF pr (kV W m)) (nn + 1))
           rw [hsk]
           exact a3.kept (e 40 (by decide) (by decide) (by decide) (by decide)) (e 41 (by decide) (by decide) (by decide) (by decide))
         · show AtN σ48 most (kT W) (qcR pr (kV W) (nn + 1)) (kS W)
           rw [hq1]
           unfold AtN
           rw [p48b 20 (by decide), wI_k _ _ (by decide), wI_k _ _ (by decide), wI_s, wI_k _ _ (by decide)]
           exact ⟨a5.1, a5.2.1, rfl, a5.2.2.2⟩
         · show AtF σ48 W
           unfold AtF; rw [e 50 (by decide) (by decide) (by decide) (by decide), e 51 (by decide) (by decide) (by decide) (by decide), e 52 (by decide) (by decide) (by decide) (by decide)]; exact a6
         · show lqF pr W (nn + 1) m = _
           by_cases c : m = nn
           · rw [c, va_up_at, lq_n.1, hqu]
           · rw [va_up_ne _ _ c, lq_s c])
      | (refine LP _ 0 _ (Nat.zero_add _) ⟨a1, a2, ?_, a4, ?_, a6, a7, R, a8.cong hl1⟩ h21 p20a hp20 (hO20.mono2 (by decide))
         · show NlC σ20 40 (flL (fun m => skF pr (kV W m)) (nn + 1))
           rw [hsk]; exact a3
         · show AtN σ20 most (kT W) (qcR pr (kV W) (nn + 1)) (kS W)
           rw [hq1]; exact a5)
      | (have e : ∀ x, x ≠ 40 → x ≠ 41 → σ69 x = σ20 x := fun x b1 b2 => p69b x (by simp only [List.mem_cons, List.not_mem_nil, or_false]; omega)
         have hO : Off σ σ69 [21, 22, 25, 26, 27, 28, 29, 30, 40, 41] := (hO20.mono2 (by decide)).trans (p69b.mono2 (by decide))
         refine LP _ 0 _ (Nat.zero_add _) ⟨a1.kept (fun a b1 b2 => e a (by omega) (by omega)), ?_, ?_, a4.kept (e 42 (by decide) (by decide)) (e 43 (by decide) (by decide)), ?_, ?_, a7.kept (e 45 (by decide) (by decide)) (e 46 (by decide) (by decide)), R, (a8.kept (e 47 (by decide) (by decide)) (e 48 (by decide) (by decide)) (e 49 (by decide) (by decide))).cong hl1⟩ (h21.kept (e 21 (by decide) (by decide)) (e 22 (by decide) (by decide))) (p20a.kept (fun a b1 b2 => e a (by omega) (by omega))) (hp.off2 hO (by decide)) (hO.mono2 (by decide))
         · unfold BdC; rw [e 36 (by decide) (by decide), e 37 (by decide) (by decide), e 38 (by decide) (by decide), e 39 (by decide) (by decide)]; exact a2
         · show NlC σ69 40 (flL (fun m => skF pr (kV W m)) (nn + 1))
           rw [hsk]; exact p69a
         · show AtN σ69 most (kT W) (qcR pr (kV W) (nn + 1)) (kS W)
           rw [hq1]
           unfold AtN; rw [e 20 (by decide) (by decide)]; exact a5
         · show AtF σ69 W
           unfold AtF; rw [e 50 (by decide) (by decide), e 51 (by decide) (by decide), e 52 (by decide) (by decide)]; exact a6)
