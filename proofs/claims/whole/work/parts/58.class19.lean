/-! ===== the atlas: a walk begins, ends; what it tells ===== -/
set_option maxRecDepth 100000 in
set_option maxHeartbeats 4000000 in
theorem c_X1_begin {n : Nat} {σ : Sg} {pr : Pr} (hn : 53 ≤ n) (hp : PrC σ pr) (hk : PrOk pr) {most : Nat} (hm1 : 1 ≤ most) (hm : most ≤ 4000) : Sm n mX1_begin [.ref 20, .int (nI most)] σ (qv fun σ2 => AtC pr σ2 most (bfsR pr most 0) 0 0 ∧ Off σ σ2 atL) := by
  refine Sm.of mk_X1_begin (Nat.le_of_ble_eq_true rfl) rfl (fun X hX => ?_)
  refine s_aload_n hX dX1_begin_0 rfl ?_
  refine s_getR hX dX1_begin_1 fl_X1_41 rfl rfl (by omega) ?_
  refine s_callVv (as := []) hX dX1_begin_4 mk_X8_clear lk_X1_93 (c_X8_clear (pr := pr) hn (fun _ => v0)) rfl (by omega) rfl rfl rfl ⟨rfl, rfl⟩ (Nat.le_of_ble_eq_true rfl) (Nat.le_of_ble_eq_true rfl) (Nat.le_of_ble_eq_true rfl) rfl (fun σ4 p4 => ?_)
  obtain ⟨p4a, p4b⟩ := p4
  refine s_aload_n hX dX1_begin_7 rfl ?_
  refine s_getR hX dX1_begin_8 fl_X1_48 rfl rfl (by omega) ?_
  refine s_callVv (as := []) hX dX1_begin_11 mk_X3_clear lk_X1_96 (c_X3_clear hn) rfl (by omega) rfl rfl rfl ⟨rfl, rfl⟩ (Nat.le_of_ble_eq_true rfl) (Nat.le_of_ble_eq_true rfl) (Nat.le_of_ble_eq_true rfl) rfl (fun σ11 p11 => ?_)
  obtain ⟨p11a, p11b⟩ := p11
  refine s_aload_n hX dX1_begin_14 rfl ?_
  refine s_getR hX dX1_begin_15 fl_X1_55 rfl rfl (by omega) ?_
  refine s_callVv (as := []) hX dX1_begin_18 mk_X5_clear lk_X1_97 (c_X5_clear (in40 hn)) rfl (by omega) rfl rfl rfl ⟨rfl, rfl⟩ (Nat.le_of_ble_eq_true rfl) (Nat.le_of_ble_eq_true rfl) (Nat.le_of_ble_eq_true rfl) rfl (fun σ18 p18 => ?_)
  obtain ⟨p18a, p18b⟩ := p18
  refine s_aload_n hX dX1_begin_21 rfl ?_
  refine s_getR hX dX1_begin_22 fl_X1_59 rfl rfl (by omega) ?_
  refine s_callVv (as := []) hX dX1_begin_25 mk_X5_clear lk_X1_97 (c_X5_clear (in42 hn)) rfl (by omega) rfl rfl rfl ⟨rfl, rfl⟩ (Nat.le_of_ble_eq_true rfl) (Nat.le_of_ble_eq_true rfl) (Nat.le_of_ble_eq_true rfl) rfl (fun σ25 p25 => ?_)
  obtain ⟨p25a, p25b⟩ := p25
  refine s_aload_n hX dX1_begin_28 rfl ?_
  refine s_getR hX dX1_begin_29 fl_X1_65 rfl rfl (by omega) ?_
  refine s_callVv (as := []) hX dX1_begin_32 mk_X2_clear lk_X1_98 (c_X2_clear hn) rfl (by omega) rfl rfl rfl ⟨rfl, rfl⟩ (Nat.le_of_ble_eq_true rfl) (Nat.le_of_ble_eq_true rfl) (Nat.le_of_ble_eq_true rfl) rfl (fun σ32 p32 => ?_)
  obtain ⟨p32a, p32b⟩ := p32
  refine s_aload_n hX dX1_begin_35 rfl ?_
  refine s_getR hX dX1_begin_36 fl_X1_76 rfl rfl (by omega) ?_
  refine s_iconst (v := nI 0) hX dX1_begin_39 (by decide) ?_
  refine s_callSv (as := [_, _]) hX dX1_begin_40 mk_J7_fill_53178 lk_X1_99 (c_J7_fill (a := 52) rfl (by omega) (by decide) _) rfl ⟨rfl, rfl⟩ (Nat.le_of_ble_eq_true rfl) (Nat.le_of_ble_eq_true rfl) (Nat.le_of_ble_eq_true rfl) rfl (fun σ40 p40 => ?_)
  subst p40
  have hO : Off σ (wA σ32 52 (filF (σ32 52).1 (nI 0) 2048)) [31, 35, 36, 40, 42, 48, 52] := (((((p4b.mono2 (by decide)).trans (p11b.mono2 (by decide))).trans (p18b.mono2 (by decide))).trans (p25b.mono2 (by decide))).trans (p32b.mono2 (by decide))).wA (by simp)
  obtain ⟨σa, hσa⟩ : ∃ x, x = wA σ32 52 (filF (σ32 52).1 (nI 0) 2048) := ⟨_, rfl⟩
  rw [← hσa] at hO ⊢
  have h52 : ∀ a, a < 2048 → (σa 52).1 a = bI false := fun a ha => by
    rw [hσa, wA_f]
    unfold filF
    rw [if_pos ha]; rfl
  have ea : ∀ x, x ≠ 52 → σa x = σ32 x := fun x h => by rw [hσa, wA_a _ _ h]
  refine s_aload_n hX dX1_begin_43 rfl ?_
  refine s_iload_n hX dX1_begin_44 rfl ?_
  refine s_putI hX dX1_begin_45 fl_X1_79 rfl rfl (by omega) rfl rfl ?_
  refine s_aload_n hX dX1_begin_48 rfl ?_
  refine s_iconst (v := nI 0) hX dX1_begin_49 (by decide) ?_
  refine s_putI hX dX1_begin_50 fl_X1_83 rfl rfl (by omega) rfl rfl ?_
  refine s_aload_n hX dX1_begin_53 rfl ?_
  refine s_iconst (v := nI 0) hX dX1_begin_54 (by decide) ?_
  refine s_putI hX dX1_begin_55 fl_X1_86 rfl rfl (by omega) rfl rfl ?_
  refine s_aload_n hX dX1_begin_58 rfl ?_
  refine s_iconst (v := nI 0) hX dX1_begin_59 (by decide) ?_
  refine s_putI hX dX1_begin_60 fl_X1_89 rfl rfl (by omega) rfl rfl ?_
  refine s_aload_n hX dX1_begin_63 rfl ?_
  refine s_getR hX dX1_begin_64 fl_X1_26 rfl rfl (by omega) ?_
  refine s_aload_n hX dX1_begin_67 rfl ?_
  refine s_getR hX dX1_begin_68 fl_X1_9 rfl rfl (by omega) ?_
  obtain ⟨σb, hσb⟩ : ∃ x, x = wI (wI (wI (wI σa 20 13 (nI most)) 20 14 (nI 0)) 20 15 (nI 0)) 20 16 (nI 0) := ⟨_, rfl⟩
  rw [← hσb]
  have eb : ∀ x, x ≠ 20 → σb x = σa x := fun x h => by rw [hσb, wI_a _ _ h, wI_a _ _ h, wI_a _ _ h, wI_a _ _ h]
  have hOb : Off σ σb atL := by rw [hσb]; exact ((((hO.mono2 (by decide)).wI (by simp)).wI (by simp)).wI (by simp)).wI (by simp)
  have hpb := hp.off2 hOb (by decide)
  have hAb : AtC pr σb most wk0 0 0 := by
    refine ⟨p4a.kept (fun a q1 q2 => ?_), ?_, p18a.kept ?_ ?_, p25a.kept ?_ ?_, ⟨?_, ?_, ?_, ?_⟩, ⟨fun m h0 h1 => absurd h1 (Nat.not_lt_zero m), fun m h1 => absurd h1 (Nat.not_lt_zero m), fun a ha => by rw [eb 52 (by decide)]; exact h52 a ha⟩, ⟨fun _ => [], fun to ht => absurd ht (Nat.not_lt_zero to)⟩, [], fun m h1 => absurd h1 (Nat.not_lt_zero m), p32a.kept ?_ ?_, rfl, fun m => ⟨fun q => (by cases q), fun q => absurd q.1 (Nat.not_lt_zero m)⟩⟩
    · rw [eb a (by omega), ea a (by omega), p32b a (by simp only [List.mem_cons, List.not_mem_nil, or_false]; omega), p25b a (by simp only [List.mem_cons, List.not_mem_nil, or_false]; omega), p18b a (by simp only [List.mem_cons, List.not_mem_nil, or_false]; omega), p11b a (by simp only [List.mem_cons, List.not_mem_nil, or_false]; omega)]
    · show BdC σb []
      unfold BdC
      rw [eb 36 (by decide), ea 36 (by decide), p32b 36 (by decide), p25b 36 (by decide), p18b 36 (by decide)]
      exact ⟨p11a.1, fun i t h => (by cases h)⟩
    · rw [eb 40 (by decide), ea 40 (by decide), p32b 40 (by decide), p25b 40 (by decide)]
    · rw [eb 41 (by decide), ea 41 (by decide), p32b 41 (by decide), p25b 41 (by decide)]
    · rw [eb 42 (by decide), ea 42 (by decide), p32b 42 (by decide)]
    · rw [eb 43 (by decide), ea 43 (by decide), p32b 43 (by decide)]
    · rw [hσb, wI_k _ _ (by decide), wI_k _ _ (by decide), wI_k _ _ (by decide), wI_s]
    · rw [hσb, wI_k _ _ (by decide), wI_k _ _ (by decide), wI_s]; rfl
    · rw [hσb, wI_k _ _ (by decide), wI_s]; rfl
    · rw [hσb, wI_s]; rfl
    · rw [eb 48 (by decide), ea 48 (by decide)]
    · rw [eb 49 (by decide), ea 49 (by decide)]
  refine s_callVi (as := []) hX dX1_begin_71 mk_X6_home lk_X1_105 (c_X6_home hn hpb) rfl (by omega) rfl rfl rfl ⟨rfl, rfl⟩ (Nat.le_of_ble_eq_true rfl) (Nat.le_of_ble_eq_true rfl) (Nat.le_of_ble_eq_true rfl) rfl (fun v71 σ71 p71 => ?_)
  obtain ⟨rfl, ep⟩ := p71
  replace ep := ep.symm
  subst ep
  refine s_callVv (as := [_]) hX dX1_begin_74 mk_X7_begin lk_X1_111 (c_X7_begin (is23 hn) hk.1.2) rfl (by omega) rfl rfl rfl ⟨rfl, rfl⟩ (Nat.le_of_ble_eq_true rfl) (Nat.le_of_ble_eq_true rfl) (Nat.le_of_ble_eq_true rfl) rfl (fun σ74 p74 => ?_)
  obtain ⟨p74a, p74b⟩ := p74
  have hp74 := hpb.off2 p74b (by decide)
  have hA74 : AtC pr σ74 most wk0 0 0 := hAb.kept (p74b.out2 (by decide)) (fun a q1 q2 => p74b.out2 (by omega))
  refine s_aload_n hX dX1_begin_77 rfl ?_
  refine s_iconst (v := -1) hX dX1_begin_78 (by decide) ?_
  refine s_iconst (v := nI 0) hX dX1_begin_79 (by decide) ?_
  refine s_callVi (as := [_, _]) hX dX1_begin_80 mk_X1_keepTrial lk_X1_115 (c_X1_keepTrial (W := wk0) (f := none) (path := -1) hn hp74 hk hA74 p74a (VOk_v0 hk.1.2) hm (Nat.zero_le _) (Nat.le_refl 0) (fun m h => absurd h (Nat.not_lt_zero m)) (fun a b q => by cases q) rfl (by decide) (fun q e => by cases e) (fun _ => rfl)) rfl (by omega) rfl rfl rfl ⟨rfl, rfl⟩ (Nat.le_of_ble_eq_true rfl) (Nat.le_of_ble_eq_true rfl) (Nat.le_of_ble_eq_true rfl) rfl (fun v80 σ80 p80 => ?_)
  obtain ⟨p80a, p80b⟩ := p80
  rw [if_pos (show kM wk0 < most from hm1)] at p80a
  refine s_pop hX dX1_begin_83 rfl ?_
  refine s_vret hX dX1_begin_84 rfl rfl ?_
  exact ⟨p80a.2, (hOb.trans (p74b.mono2 (by decide))).trans (p80b.mono2 (by decide))⟩
def AtE (pr : Pr) (σ : Sg) (W : Wk) : Prop := ShC pr σ (kM W) (kV W) ∧ BdC σ (kB W) ∧ NlC σ 40 (flL (fun m => skF pr (kV W m)) (kM W)) ∧ NlC σ 42 (flL (fun m => !ldB pr W m) (kM W)) ∧ ((σ 20).1 14 = nI (kT W) ∧ (σ 20).1 15 = nI (qcR pr (kV W) (kM W)) ∧ (σ 20).1 16 = bI (kS W)) ∧ AtF σ W
theorem AtE.kept {pr : Pr} {σ σ2 : Sg} {W : Wk} (h : AtE pr σ W) (e20 : σ2 20 = σ 20) (e : ∀ a, 31 ≤ a → a ≤ 52 → σ2 a = σ a) : AtE pr σ2 W := by
  obtain ⟨h1, h2, h3, h4, h5, h6⟩ := h
  refine ⟨h1.kept (fun a p q => e a p (by omega)), ?_, h3.kept (e 40 (by decide) (by decide)) (e 41 (by decide) (by decide)), h4.kept (e 42 (by decide) (by decide)) (e 43 (by decide) (by decide)), by rw [e20]; exact h5, ?_⟩
  · unfold BdC; rw [e 36 (by decide) (by decide), e 37 (by decide) (by decide), e 38 (by decide) (by decide), e 39 (by decide) (by decide)]; exact h2
  · unfold AtF; rw [e 50 (by decide) (by decide), e 51 (by decide) (by decide), e 52 (by decide) (by decide)]; exact h6
theorem le_iff {pr : Pr} {W : Wk} {most : Nat} {L2 : Nat → Bool} (hW : WkOk pr most (kM W) W) (h1 : SpP (kM W) (kN W) (lqF pr W (kM W)) L2) (h2 : ∀ to, to < kM W → L2 to = true → ∀ a i, i < 20 → kN W a i = some to → L2 a = true) : ∀ m, m < kM W → L2 m = ldB pr W m := by
  intro m hm
  have hN := hW.2.2.2.1
  have a : L2 m = true → LdP pr W m := h1.2 (fun m => LdP pr W m) (fun m hm q => by
    unfold lqF at q
    rw [decide_eq_true hm] at q
    exact LdP.quiet q) (fun a i to q s => LdP.step (hN a i to q).2 q s) m hm
  have b : LdP pr W m → L2 m = true := fun ⟨k, q⟩ => LdP.least (fun m => L2 m = true) (fun n q hn => h1.1 n hn (by unfold lqF; rw [decide_eq_true hn]; exact q)) (fun n i m _ hi q hm s => h2 m hm s n i hi q) (fun n i m q => (hN n i m q).1) k m hm q
  cases hc : L2 m with
  | true => exact (ldB_iff.mpr (a hc)).symm
  | false =>
    cases hd : ldB pr W m with
    | false => rfl
    | true => rw [b (ldB_iff.mp hd)] at hc; cases hc
set_option maxRecDepth 100000 in
set_option maxHeartbeats 4000000 in
theorem c_X1_finish {n : Nat} {σ : Sg} {pr : Pr} (hn : 53 ≤ n) {W : Wk} {most T : Nat} (hA : AtC pr σ most W (kM W) T) (hW : WkOk pr most (kM W) W) (hm : most ≤ 4000) (hT : T ≤ 80000) : Sm n mX1_finish [.ref 20] σ (qv fun σ2 => AtE pr σ2 W ∧ Off σ σ2 [42, 43, 47, 48, 49]) := by
  refine Sm.of mk_X1_finish (Nat.le_of_ble_eq_true rfl) rfl (fun X hX => ?_)
  have hM := hW.1.2
  obtain ⟨a1, a2, a3, a4, a5, a6, a7, R, a8⟩ := hA
  have hN : ∀ a i to, kN W a i = some to → a < kM W := fun a i to q => Classical.byContradiction (fun z => by rw [hW.2.2.1 a i (by omega)] at q; cases q)
  have LP : ∀ (L2 : Nat → Bool) (R2 : List Nat) (σ2 : Sg), LeR σ2 (kM W) L2 R2 → (∀ m, m < kM W → L2 m = ldB pr W m) → ShC pr σ2 (kM W) (kV W) → Off σ σ2 [47, 48, 49] → ∀ (d k : Nat) (σ1 : Sg), k + d = kM W → NlC σ1 42 (flL (fun m => !ldB pr W m) k) → Off σ2 σ1 [42, 43] → Sw n mX1_finish X (ZS n mX1_finish (qv fun σ2 => AtE pr σ2 W ∧ Off σ σ2 [42, 43, 47, 48, 49]) X) 9 [some (.ref 20), some (.int (nI k))] [] σ1 := by
    intro L2 R2 σ2 b1 b2 b3 b4 d
    induction d with
    | zero =>
      intro k σ1 hd h1 h2
      have ek : k = kM W := by omega
      subst ek
      have hO : Off σ σ1 [42, 43, 47, 48, 49] := (b4.mono2 (by decide)).trans (h2.mono2 (by decide))
      refine s_iload_n hX dX1_finish_9 rfl ?_
      refine s_aload_n hX dX1_finish_10 rfl ?_
      refine s_getR hX dX1_finish_11 fl_X1_41 rfl rfl (by omega) ?_
      refine s_callVi (as := []) hX dX1_finish_14 mk_X8_count lk_X1_147 (c_X8_count hn (b3.kept (fun a q1 q2 => h2 a (by simp only [List.mem_cons, List.not_mem_nil, or_false]; omega)))) rfl (by omega) rfl rfl rfl ⟨rfl, rfl⟩ (Nat.le_of_ble_eq_true rfl) (Nat.le_of_ble_eq_true rfl) (Nat.le_of_ble_eq_true rfl) rfl (fun v14 σ14 p14 => ?_)
      obtain ⟨rfl, ep⟩ := p14
      replace ep := ep.symm
      subst ep
      refine s_icmp_ge_n (tgt := 45) hX dX1_finish_17 (by decide) (by omega) (by omega) (fun q17 => ?_) (fun q17 => ?_)
      · refine s_vret hX dX1_finish_45 rfl rfl ?_
        refine ⟨⟨a1.kept (fun a q1 q2 => hO a (by simp only [List.mem_cons, List.not_mem_nil, or_false]; omega)), a2.off hO (by decide), a3.kept (hO 40 (by decide)) (hO 41 (by decide)), h1, ?_, ?_⟩, hO⟩
        · rw [hO 20 (by decide)]; exact a5.2
        · unfold AtF; rw [hO 50 (by decide), hO 51 (by decide), hO 52 (by decide)]; exact a6
      · omega
    | succ d ih =>
      intro k σ1 hd h1 h2
      have hlen := flL_len (fun m => !ldB pr W m) k
      have hct := ctR_le (fun m => !ldB pr W m) k
      have hbk := b2 k (by omega)
      have hle : LeR σ1 (kM W) L2 R2 := b1.kept (h2 47 (by decide)) (h2 48 (by decide)) (h2 49 (by decide))
      refine s_iload_n hX dX1_finish_9 rfl ?_
      refine s_aload_n hX dX1_finish_10 rfl ?_
      refine s_getR hX dX1_finish_11 fl_X1_41 rfl rfl (by omega) ?_
      refine s_callVi (as := []) hX dX1_finish_14 mk_X8_count lk_X1_147 (c_X8_count hn (b3.kept (fun a q1 q2 => h2 a (by simp only [List.mem_cons, List.not_mem_nil, or_false]; omega)))) rfl (by omega) rfl rfl rfl ⟨rfl, rfl⟩ (Nat.le_of_ble_eq_true rfl) (Nat.le_of_ble_eq_true rfl) (Nat.le_of_ble_eq_true rfl) rfl (fun v14 σ14 p14 => ?_)
      obtain ⟨rfl, ep⟩ := p14
      replace ep := ep.symm
      subst ep
      refine s_icmp_ge_n (tgt := 45) hX dX1_finish_17 (by decide) (by omega) (by omega) (fun q17 => ?_) (fun q17 => ?_)
      · omega
      · refine s_aload_n hX dX1_finish_20 rfl ?_
        refine s_getR hX dX1_finish_21 fl_X1_65 rfl rfl (by omega) ?_
        refine s_iload_n hX dX1_finish_24 rfl ?_
        refine s_callVi (as := [_]) hX dX1_finish_25 mk_X2_isLeading lk_X1_148 (c_X2_isLeading hn (by omega) hle k (by omega)) rfl (by omega) rfl rfl rfl ⟨rfl, rfl⟩ (Nat.le_of_ble_eq_true rfl) (Nat.le_of_ble_eq_true rfl) (Nat.le_of_ble_eq_true rfl) rfl (fun v25 σ25 p25 => ?_)
        obtain ⟨rfl, ep⟩ := p25
        replace ep := ep.symm
        subst ep
        unfold bI
        refine s_if_ne_n (tgt := 39) hX dX1_finish_28 (by decide) (by have := Bool.toNat_le (L2 k); omega) (fun q28 => ?_) (fun q28 => ?_)
        · refine s_iinc_n (c := 1) hX dX1_finish_39 rfl (by decide) rfl st_2_1 ?_
          refine s_goto (tgt := 9) hX dX1_finish_42 (by decide) ?_
          first
            | exact ih (k + 1) _ (by omega) (by rw [flL_yes (show (!ldB pr W k) = true by rw [← hbk, tn0 q28]; rfl)]; exact p36a) (h2.trans (p36b.mono2 (by decide)))
            | exact ih (k + 1) _ (by omega) (by rw [flL_no (show (!ldB pr W k) = false by rw [← hbk, tn1 q28]; rfl)]; exact h1) h2
        · refine s_aload_n hX dX1_finish_31 rfl ?_
          refine s_getR hX dX1_finish_32 fl_X1_59 rfl rfl (by omega) ?_
          refine s_iload_n hX dX1_finish_35 rfl ?_
          refine s_callVv (as := [_]) hX dX1_finish_36 mk_X5_add lk_X1_137 (c_X5_add (in42 hn) h1 (by omega) k) rfl (by omega) rfl rfl rfl ⟨rfl, rfl⟩ (Nat.le_of_ble_eq_true rfl) (Nat.le_of_ble_eq_true rfl) (Nat.le_of_ble_eq_true rfl) rfl (fun σ36 p36 => ?_)
          obtain ⟨p36a, p36b⟩ := p36
          refine s_iinc_n (c := 1) hX dX1_finish_39 rfl (by decide) rfl st_2_1 ?_
          refine s_goto (tgt := 9) hX dX1_finish_42 (by decide) ?_
          first
            | exact ih (k + 1) _ (by omega) (by rw [flL_yes (show (!ldB pr W k) = true by rw [← hbk, tn0 q28]; rfl)]; exact p36a) (h2.trans (p36b.mono2 (by decide)))
            | exact ih (k + 1) _ (by omega) (by rw [flL_no (show (!ldB pr W k) = false by rw [← hbk, tn1 q28]; rfl)]; exact h1) h2
  refine s_aload_n hX dX1_finish_0 rfl ?_
  refine s_getR hX dX1_finish_1 fl_X1_65 rfl rfl (by omega) ?_
  refine s_callVv (as := []) hX dX1_finish_4 mk_X2_spread lk_X1_144 (c_X2_spread hn (by omega) hT a7 a8 hN) rfl (by omega) rfl rfl rfl ⟨rfl, rfl⟩ (Nat.le_of_ble_eq_true rfl) (Nat.le_of_ble_eq_true rfl) (Nat.le_of_ble_eq_true rfl) rfl (fun σ4 p4 => ?_)
  obtain ⟨L2, R2, b1, b2, b3, b4⟩ := p4
  refine s_iconst (v := nI 0) hX dX1_finish_7 (by decide) ?_
  refine s_istore_n hX dX1_finish_8 (Nat.le_of_ble_eq_true rfl) rfl st_2_1 ?_
  exact LP L2 R2 σ4 b1 (le_iff hW b2 b3) (a1.kept (fun a q1 q2 => b4 a (by simp only [List.mem_cons, List.not_mem_nil, or_false]; omega))) b4 (kM W) 0 _ (by omega) (a4.kept (b4 42 (by decide)) (b4 43 (by decide))) Off.rf
