/-! ===== the atlas: a step is tried ===== -/
theorem AtC.nex {pr : Pr} {σ σ2 : Sg} {most vis T T2 : Nat} {W : Wk} {n i : Nat} {k : Option Nat} (h : AtC pr σ most W vis T) (f : Off σ σ2 [45, 46]) (hB : BkC σ2 (kM W) T2 (nxt (kN W) n i k)) : AtC pr σ2 most (nexK W n i k) vis T2 := by
  obtain ⟨h1, h2, h3, h4, h5, h6, h7, R, h8⟩ := h
  refine ⟨h1.kept (fun a p q => f a (by simp only [List.mem_cons, List.not_mem_nil, or_false]; omega)), h2.off f (by decide), h3.kept (f 40 (by decide)) (f 41 (by decide)), h4.kept (f 42 (by decide)) (f 43 (by decide)), ?_, ?_, hB, R, h8.kept (f 47 (by decide)) (f 48 (by decide)) (f 49 (by decide))⟩
  · unfold AtN; rw [f 20 (by decide)]; exact h5
  · unfold AtF; rw [f 50 (by decide), f 51 (by decide), f 52 (by decide)]; exact h6
theorem AtC.bad {pr : Pr} {σ σ2 : Sg} {most vis T : Nat} {W : Wk} {b n i : Nat} (h : AtC pr σ most W vis T) (f : Off σ σ2 [36, 37, 38, 39]) (hB : BdC σ2 (kB W ++ [(b, n, some i)])) : AtC pr σ2 most (badK W b n i) vis T := by
  obtain ⟨h1, h2, h3, h4, h5, h6, h7, R, h8⟩ := h
  refine ⟨h1.kept (fun a p q => f a (by simp only [List.mem_cons, List.not_mem_nil, or_false]; omega)), hB, h3.kept (f 40 (by decide)) (f 41 (by decide)), h4.kept (f 42 (by decide)) (f 43 (by decide)), ?_, ?_, h7.kept (f 45 (by decide)) (f 46 (by decide)), R, h8.kept (f 47 (by decide)) (f 48 (by decide)) (f 49 (by decide))⟩
  · unfold AtN; rw [f 20 (by decide)]; exact h5
  · unfold AtF; rw [f 50 (by decide), f 51 (by decide), f 52 (by decide)]; exact h6
theorem AtC.mono {pr : Pr} {σ : Sg} {most vis T T2 : Nat} {W : Wk} (h : AtC pr σ most W vis T) (hT : T ≤ T2) : AtC pr σ most W vis T2 := by
  obtain ⟨h1, h2, h3, h4, h5, h6, h7, h8⟩ := h
  exact ⟨h1, h2, h3, h4, h5, h6, h7.mono hT, h8⟩
theorem AtC.tri {pr : Pr} {σ σ2 : Sg} {most vis T : Nat} {W : Wk} {a : Option Nat} (h : AtC pr σ most W vis T) (f : Off (wI σ 20 14 (nI (kT W + 1))) σ2 [52]) (hU : ∀ q, q < 2048 → (σ2 52).1 q = bI (useK (kU W) a q)) : AtC pr σ2 most (triK W a) vis T := by
  obtain ⟨h1, h2, h3, h4, h5, h6, h7, R, h8⟩ := h
  have e : ∀ x, x ≠ 20 → x ≠ 52 → σ2 x = σ x := fun x p q => by rw [f x (by simp only [List.mem_cons, List.not_mem_nil, or_false]; exact q), wI_a _ _ p]
  refine ⟨h1.kept (fun a p q => e a (by omega) (by omega)), ?_, h3.kept (e 40 (by decide) (by decide)) (e 41 (by decide) (by decide)), h4.kept (e 42 (by decide) (by decide)) (e 43 (by decide) (by decide)), ?_, ⟨?_, ?_, hU⟩, h7.kept (e 45 (by decide) (by decide)) (e 46 (by decide) (by decide)), R, h8.kept (e 47 (by decide) (by decide)) (e 48 (by decide) (by decide)) (e 49 (by decide) (by decide))⟩
  · unfold BdC; rw [e 36 (by decide) (by decide), e 37 (by decide) (by decide), e 38 (by decide) (by decide), e 39 (by decide) (by decide)]; exact h2
  · unfold AtN
    rw [f 20 (by decide), wI_k _ _ (by decide), wI_s, wI_k _ _ (by decide), wI_k _ _ (by decide)]
    exact ⟨h5.1, rfl, h5.2.2.1, h5.2.2.2⟩
  · rw [e 50 (by decide) (by decide)]; exact h6.1
  · rw [e 51 (by decide) (by decide)]; exact h6.2.1
theorem do_use (pr : Pr) (v : Vc) (s : Sp) : (doF pr v s).2.1 = if (pAm pr (plcF pr v s)).isSome = true then some (plcF pr v s) else none := by
  unfold doF
  cases pAm pr (plcF pr v s) with
  | none => rfl
  | some m => rfl
theorem nxt_none {N : Nat → Nat → Option Nat} {n i : Nat} (h : N n i = none) : ∀ a b, nxt N n i none a b = N a b := fun a b => by
  unfold nxt
  split
  · rename_i e; rw [e.1, e.2, h]
  · rfl
set_option maxRecDepth 100000 in
set_option maxHeartbeats 4000000 in
theorem c_X1_tryStep {n : Nat} {σ : Sg} {pr : Pr} (hn : 53 ≤ n) (hp : PrC σ pr) (hk : PrOk pr) {W : Wk} {most nn i : Nat} {s : Sp} (hA : AtC pr σ most W (nn + 1) (kT W)) (hW : WkOk pr most (nn + 1) W) (hr : SrtK pr W) (hm : most ≤ 4000) (hn0 : nn < kM W) (hT : kT W < 80000) (h21 : ScC pr σ 21 (kV W nn)) (hS : SlC pr (kV W nn) σ 25 (stepsF pr (kV W nn))) (hi : i < 20) (hs : (stepsF pr (kV W nn))[i]? = some s) (hNi : kN W nn i = none) : Sm n mX1_tryStep [.ref 20, .int (nI nn), .int (nI i)] σ (qv fun σ2 => AtC pr σ2 most (tryK pr most nn i s W) (nn + 1) (kT W + 1) ∧ Off σ σ2 trL) := by
  refine Sm.of mk_X1_tryStep (Nat.le_of_ble_eq_true rfl) rfl (fun X hX => ?_)
  have hM := hW.1.2
  have hV := hW.2.1
  have hv := hV nn hn0
  have hNx : ∀ a b, kN W a b ≠ some (kM W) := fun a b q => by have := (hW.2.2.2.1 a b _ q).1; omega
  have hB := hW.2.2.2.2.1
  have hmem := List.mem_of_getElem? hs
  have hok := stepsF_ok hv hmem
  have hpl := plcF_lt hv hok
  have hv2 := hv.doF hk.1.2 hok
  have hdl := doF_le pr (kV W nn) s
  have hSa : SlC pr (kV W nn) (wI σ 20 14 (nI (kT W + 1))) 25 (stepsF pr (kV W nn)) := hS.kept (fun a p q => wI_a _ _ (by omega))
  have hpa : PrC (wI σ 20 14 (nI (kT W + 1))) pr := hp.kept (fun a p q => wI_a _ _ (by omega))
  refine s_aload_n hX dX1_tryStep_0 rfl ?_
  refine s_dup hX dX1_tryStep_1 rfl ?_
  refine s_getI (x := nI (kT W)) hX dX1_tryStep_2 fl_X1_83 rfl rfl (by omega) hA.2.2.2.2.1.2.1 ?_
  refine s_iconst (v := nI 1) hX dX1_tryStep_5 (by decide) ?_
  refine s_iadd_n hX dX1_tryStep_6 ?_
  refine s_putI hX dX1_tryStep_7 fl_X1_83 rfl rfl (by omega) rfl rfl ?_
  refine s_aload_n hX dX1_tryStep_10 rfl ?_
  refine s_aload_n hX dX1_tryStep_11 rfl ?_
  refine s_getR hX dX1_tryStep_12 fl_X1_34 rfl rfl (by omega) ?_
  refine s_iload_n hX dX1_tryStep_15 rfl ?_
  refine s_callVi (as := [_]) hX dX1_tryStep_16 mk_X9_placeAt lk_X1_152 (c_X9_placeAt (il25 hn) hSa i hi s hs) rfl (by omega) rfl rfl rfl ⟨rfl, rfl⟩ (Nat.le_of_ble_eq_true rfl) (Nat.le_of_ble_eq_true rfl) (Nat.le_of_ble_eq_true rfl) rfl (fun v16 σ16 p16 => ?_)
  obtain ⟨rfl, ep⟩ := p16
  replace ep := ep.symm
  subst ep
  refine s_callVv (as := [_]) hX dX1_tryStep_19 mk_X1_markUsed lk_X1_156 (c_X1_markUsed (U := kU W) hn hpa hk _ hpl (fun q hq => by rw [wI_a _ _ (by decide)]; exact hA.2.2.2.2.2.1.2.2 q hq)) rfl (by omega) rfl rfl rfl ⟨rfl, rfl⟩ (Nat.le_of_ble_eq_true rfl) (Nat.le_of_ble_eq_true rfl) (Nat.le_of_ble_eq_true rfl) rfl (fun σ19 p19 => ?_)
  obtain ⟨p19a, p19b⟩ := p19
  rw [← do_use] at p19a
  have hA19 := hA.tri p19b p19a
  have hO19 : Off σ σ19 trL := (Off.rf.wI (by simp)).trans (p19b.mono2 (by decide))
  have e19 : ∀ x, x ≠ 20 → x ≠ 52 → σ19 x = σ x := fun x p q => by rw [p19b x (by simp only [List.mem_cons, List.not_mem_nil, or_false]; exact q), wI_a _ _ p]
  have h2119 : ScC pr σ19 21 (kV W nn) := h21.kept (e19 21 (by decide) (by decide)) (e19 22 (by decide) (by decide))
  refine s_aload_n hX dX1_tryStep_22 rfl ?_
  refine s_getR hX dX1_tryStep_23 fl_X1_26 rfl rfl (by omega) ?_
  refine s_aload_n hX dX1_tryStep_26 rfl ?_
  refine s_getR hX dX1_tryStep_27 fl_X1_22 rfl rfl (by omega) ?_
  refine s_callVv (as := [_]) hX dX1_tryStep_30 mk_X7_copy lk_X1_159 (c_X7_copy (is23 hn) (is21 hn) (Or.inr (by decide)) h2119) rfl (by omega) rfl rfl rfl ⟨rfl, rfl⟩ (Nat.le_of_ble_eq_true rfl) (Nat.le_of_ble_eq_true rfl) (Nat.le_of_ble_eq_true rfl) rfl (fun σ30 p30 => ?_)
  obtain ⟨p30a, p30b⟩ := p30
  have hp30 : PrC σ30 pr := hp.kept (fun a p q => by rw [p30b.out2 (by omega), e19 a (by omega) (by omega)])
  have hS30 : SlC pr (kV W nn) σ30 25 (stepsF pr (kV W nn)) := hS.kept (fun a p q => by rw [p30b.out2 (by omega), e19 a (by omega) (by omega)])
  refine s_aload_n hX dX1_tryStep_33 rfl ?_
  refine s_getR hX dX1_tryStep_34 fl_X1_15 rfl rfl (by omega) ?_
  refine s_aload_n hX dX1_tryStep_37 rfl ?_
  refine s_getR hX dX1_tryStep_38 fl_X1_26 rfl rfl (by omega) ?_
  refine s_aload_n hX dX1_tryStep_41 rfl ?_
  refine s_getR hX dX1_tryStep_42 fl_X1_34 rfl rfl (by omega) ?_
  refine s_iload_n hX dX1_tryStep_45 rfl ?_
  refine s_callVi (as := [_, _, _]) hX dX1_tryStep_46 mk_X0_perform lk_X1_162 (c_X0_perform hn (is23 hn) (by decide) p30a hp30 hk hv (hr nn hn0) (il25 hn) (by decide) hS30 hs hi hok (steps_want hmem)) rfl (by omega) rfl rfl rfl ⟨rfl, rfl⟩ (Nat.le_of_ble_eq_true rfl) (Nat.le_of_ble_eq_true rfl) (Nat.le_of_ble_eq_true rfl) rfl (fun v46 σ46 p46 => ?_)
  obtain ⟨rfl, p46b, p46c⟩ := p46
  have hA46 := (hA19.kept (p30b.out2 (by decide)) (fun a p q => p30b.out2 (by omega))).kept (σ2 := σ46) (p46c 20 (by decide)) (fun a p q => p46c a (by simp only [List.mem_cons, List.not_mem_nil, or_false]; omega))
  have hO46 : Off σ σ46 trL := (hO19.trans (p30b.mono2 (by decide))).trans (p46c.mono2 (by decide))
  have hp46 : PrC σ46 pr := hp.off2 hO46 (by decide)
  refine s_istore_n hX dX1_tryStep_49 (Nat.le_of_ble_eq_true rfl) rfl st_6_3 ?_
  refine s_iload_n hX dX1_tryStep_50 rfl ?_
  refine s_if_eq_n (tgt := 65) hX dX1_tryStep_51 (by decide) (by omega) (fun q51 => ?_) (fun q51 => ?_)
  · have sc46 := p46b q51
    refine s_iload_n hX dX1_tryStep_65 rfl ?_
    refine s_bipush (v := nI 20) hX dX1_tryStep_66 (by decide) ?_
    refine s_imul_n hX dX1_tryStep_68 ?_
    refine s_iload_n hX dX1_tryStep_69 rfl ?_
    refine s_iadd_n hX dX1_tryStep_70 ?_
    refine s_istore hX dX1_tryStep_71 (Nat.le_of_ble_eq_true rfl) rfl st_6_4 ?_
    refine s_aload_n hX dX1_tryStep_73 rfl ?_
    refine s_getR hX dX1_tryStep_74 fl_X1_41 rfl rfl (by omega) ?_
    refine s_aload_n hX dX1_tryStep_77 rfl ?_
    refine s_getR hX dX1_tryStep_78 fl_X1_26 rfl rfl (by omega) ?_
    refine s_callVi (as := [_]) hX dX1_tryStep_81 mk_X8_find lk_X1_171 (c_X8_find hn hk hA46.1 (by show kM W ≤ 4000; omega) hV (is23 hn) sc46 hv2) rfl (by omega) rfl rfl rfl ⟨rfl, rfl⟩ (Nat.le_of_ble_eq_true rfl) (Nat.le_of_ble_eq_true rfl) (Nat.le_of_ble_eq_true rfl) rfl (fun v81 σ81 p81 => ?_)
    obtain ⟨rfl, ep⟩ := p81
    replace ep := ep.symm
    subst ep
    obtain ⟨rq, hq⟩ : ∃ x, numK W (doF pr (kV W nn) s).2.2 = x := ⟨_, rfl⟩
    rw [show fnK (kV (triK W (doF pr (kV W nn) s).2.1)) (kM (triK W (doF pr (kV W nn) s).2.1)) (doF pr (kV W nn) s).2.2 = rq from hq]
    cases rq with
    | none =>
      rw [show amv none = -1 from rfl]
      refine s_istore hX dX1_tryStep_84 (Nat.le_of_ble_eq_true rfl) rfl st_6_5 ?_
      refine s_iload hX dX1_tryStep_86 rfl ?_
      refine s_iconst (v := -1) hX dX1_tryStep_88 (by decide) ?_
      refine s_icmp_ne (tgt := 108) hX dX1_tryStep_89 (by decide) (fun q89 => ?_) (fun q89 => ?_)
      · exact absurd rfl q89
      · refine s_aload_n hX dX1_tryStep_92 rfl ?_
        refine s_iload hX dX1_tryStep_93 rfl ?_
        refine s_aload_n hX dX1_tryStep_95 rfl ?_
        refine s_getR hX dX1_tryStep_96 fl_X1_73 rfl rfl (by omega) ?_
        refine s_iload_n hX dX1_tryStep_99 rfl ?_
        refine s_iald (x := nI (kF W nn)) hX dX1_tryStep_100 rfl (by omega) (by omega) (by decide) (hA46.2.2.2.2.2.1.2.1 nn hn0) ?_
        refine s_iconst (v := nI 1) hX dX1_tryStep_101 (by decide) ?_
        refine s_iadd_n hX dX1_tryStep_102 ?_
        refine s_callVi (as := [_, _]) hX dX1_tryStep_103 mk_X1_keepTrial lk_X1_115 (c_X1_keepTrial (W := triK W (doF pr (kV W nn) s).2.1) (f := some (nn, i)) (path := nI (nn * 20 + i)) hn hp46 hk hA46 sc46 hv2 hm hM (by show nn + 1 ≤ kM W; omega) hV hNx hq (by show (kB W).length < 2 ^ 30; omega) (fun q e => by cases e; rfl) (fun e => by cases e)) rfl (by omega) rfl rfl rfl ⟨rfl, rfl⟩ (Nat.le_of_ble_eq_true rfl) (Nat.le_of_ble_eq_true rfl) (Nat.le_of_ble_eq_true rfl) rfl (fun v103 σ103 p103 => ?_)
        obtain ⟨p103a, p103b⟩ := p103
        by_cases hlt : kM W < most
        · rw [if_pos (show kM (triK W (doF pr (kV W nn) s).2.1) < most from hlt)] at p103a
          obtain ⟨rfl, p103a⟩ := p103a
          have hT2 : tryK pr most nn i s W = nexK (addK pr (triK W (doF pr (kV W nn) s).2.1) (doF pr (kV W nn) s).2.2 (some (nn, i))) nn i (some (kM W)) := by
            unfold tryK
            rw [if_neg (fun z => z q51), hq]
            dsimp only
            rw [if_pos hlt]
          refine s_istore hX dX1_tryStep_106 (Nat.le_of_ble_eq_true rfl) rfl st_6_5 ?_
          refine s_iload hX dX1_tryStep_108 rfl ?_
          refine s_iconst (v := -1) hX dX1_tryStep_110 (by decide) ?_
          refine s_icmp_eq (tgt := 125) hX dX1_tryStep_111 (by decide) (fun q111 => ?_) (fun q111 => ?_)
          · exact absurd q111 (nI_nm1 (by show kM W < 2 ^ 31; omega))
          · refine s_aload_n hX dX1_tryStep_114 rfl ?_
            refine s_getR hX dX1_tryStep_115 fl_X1_65 rfl rfl (by omega) ?_
            refine s_iload hX dX1_tryStep_118 rfl ?_
            refine s_iload hX dX1_tryStep_120 rfl ?_
            refine s_callVv (as := [_, _]) hX dX1_tryStep_122 mk_X2_addPath lk_X1_175 (c_X2_addPath hn nn i (kM W) (by show kM W + 1 ≤ 4000; omega) p103a.2.2.2.2.2.2.1 (by omega) hi (by show kM W < kM W + 1; omega) hNi) rfl (by omega) rfl rfl rfl ⟨rfl, rfl⟩ (Nat.le_of_ble_eq_true rfl) (Nat.le_of_ble_eq_true rfl) (Nat.le_of_ble_eq_true rfl) rfl (fun σ122 p122 => ?_)
            refine s_vret hX dX1_tryStep_125 rfl rfl ?_
            rw [hT2]
            exact ⟨p103a.nex p122.2 p122.1, (hO46.trans p103b).trans (p122.2.mono2 (by decide))⟩
        · rw [if_neg (show ¬ kM (triK W (doF pr (kV W nn) s).2.1) < most from hlt)] at p103a
          obtain ⟨rfl, p103a⟩ := p103a
          have hT2 : tryK pr most nn i s W = nexK (speK (triK W (doF pr (kV W nn) s).2.1)) nn i none := by
            unfold tryK
            rw [if_neg (fun z => z q51), hq]
            dsimp only
            rw [if_neg hlt]
          refine s_istore hX dX1_tryStep_106 (Nat.le_of_ble_eq_true rfl) rfl st_6_5 ?_
          refine s_iload hX dX1_tryStep_108 rfl ?_
          refine s_iconst (v := -1) hX dX1_tryStep_110 (by decide) ?_
          refine s_icmp_eq (tgt := 125) hX dX1_tryStep_111 (by decide) (fun q111 => ?_) (fun q111 => ?_)
          · refine s_vret hX dX1_tryStep_125 rfl rfl ?_
            rw [hT2]
            exact ⟨p103a.nex Off.rf ((p103a.2.2.2.2.2.2.1.mono (by omega)).cong (nxt_none hNi)), hO46.trans p103b⟩
          · exact absurd rfl q111
    | some k =>
      have hkM := numK_lt hq
      rw [show amv (some k) = nI k from rfl]
      have hT2 : tryK pr most nn i s W = nexK (triK W (doF pr (kV W nn) s).2.1) nn i (some k) := by
        unfold tryK
        rw [if_neg (fun z => z q51), hq]
      refine s_istore hX dX1_tryStep_84 (Nat.le_of_ble_eq_true rfl) rfl st_6_5 ?_
      refine s_iload hX dX1_tryStep_86 rfl ?_
      refine s_iconst (v := -1) hX dX1_tryStep_88 (by decide) ?_
      refine s_icmp_ne (tgt := 108) hX dX1_tryStep_89 (by decide) (fun q89 => ?_) (fun q89 => ?_)
      · refine s_iload hX dX1_tryStep_108 rfl ?_
        refine s_iconst (v := -1) hX dX1_tryStep_110 (by decide) ?_
        refine s_icmp_eq (tgt := 125) hX dX1_tryStep_111 (by decide) (fun q111 => ?_) (fun q111 => ?_)
        · exact absurd q111 (nI_nm1 (by omega))
        · refine s_aload_n hX dX1_tryStep_114 rfl ?_
          refine s_getR hX dX1_tryStep_115 fl_X1_65 rfl rfl (by omega) ?_
          refine s_iload hX dX1_tryStep_118 rfl ?_
          refine s_iload hX dX1_tryStep_120 rfl ?_
          refine s_callVv (as := [_, _]) hX dX1_tryStep_122 mk_X2_addPath lk_X1_175 (c_X2_addPath hn nn i k (by show kM W ≤ 4000; omega) hA46.2.2.2.2.2.2.1 (by omega) hi hkM hNi) rfl (by omega) rfl rfl rfl ⟨rfl, rfl⟩ (Nat.le_of_ble_eq_true rfl) (Nat.le_of_ble_eq_true rfl) (Nat.le_of_ble_eq_true rfl) rfl (fun σ122 p122 => ?_)
          refine s_vret hX dX1_tryStep_125 rfl rfl ?_
          rw [hT2]
          exact ⟨hA46.nex p122.2 p122.1, hO46.trans (p122.2.mono2 (by decide))⟩
      · exact absurd (Classical.not_not.mp q89) (nI_nm1 (by omega))
  · refine s_aload_n hX dX1_tryStep_54 rfl ?_
    refine s_getR hX dX1_tryStep_55 fl_X1_48 rfl rfl (by omega) ?_
    refine s_iload_n hX dX1_tryStep_58 rfl ?_
    refine s_iload_n hX dX1_tryStep_59 rfl ?_
    refine s_iload_n hX dX1_tryStep_60 rfl ?_
    refine s_callVv (as := [_, _, _]) hX dX1_tryStep_61 mk_X3_add lk_X1_168 (c_X3_add hn hA46.2.1 (by show (kB W).length < 2 ^ 30; omega) ((doF pr (kV W nn) s).1, nn, some i)) rfl (by omega) rfl rfl rfl ⟨rfl, rfl⟩ (Nat.le_of_ble_eq_true rfl) (Nat.le_of_ble_eq_true rfl) (Nat.le_of_ble_eq_true rfl) rfl (fun σ61 p61 => ?_)
    refine s_vret hX dX1_tryStep_64 rfl rfl ?_
    have hT2 : tryK pr most nn i s W = badK (triK W (doF pr (kV W nn) s).2.1) (doF pr (kV W nn) s).1 nn i := by
      unfold tryK
      rw [if_pos q51]
    rw [hT2]
    exact ⟨(hA46.bad p61.2 p61.1).mono (by omega), hO46.trans (p61.2.mono2 (by decide))⟩
