/-! ===== the class: acts and steps ===== -/
theorem Off.m3 {σ σ2 : Sg} {o : Nat} (f : Off σ σ2 [o, o + 1]) : Off σ σ2 [9, o, o + 1] := f.mono (by simp)
theorem Off.m1 {σ σ2 : Sg} {o : Nat} (f : Off σ σ2 [o]) : Off σ σ2 [9, o, o + 1] := f.mono (by simp)
theorem Off.n9 {σ σ2 : Sg} {o : Nat} (f : Off σ σ2 [o]) (h : 9 < o) : σ2 9 = σ 9 := f 9 (by simp; omega)
theorem pw16 {t : Nat} (h : t < 5) : 1 * 2 ^ t < 2 ^ 31 := by
  have : 2 ^ t ≤ 2 ^ 4 := Nat.pow_le_pow_right (by decide) (by omega)
  omega
theorem bit_p {t0 P : Nat} (h0 : t0 ≤ P) (hP : P ≤ 4) : ∀ t, 1 * 2 ^ t0 / 2 ^ t % 2 = 1 → t ≤ P := by
  intro t ht
  by_cases c : t < 5
  · have := (bit_one t0 (by omega) t c).mp ht; omega
  · exfalso
    have : 1 * 2 ^ t0 / 2 ^ t = 0 := Nat.div_eq_of_lt (by rw [Nat.one_mul]; exact Nat.pow_lt_pow_right (by decide) (by omega))
    rw [this] at ht
    cases ht
theorem ca_1 {pr : Pr} {c hf arg hd : Nat} {v : Vc} : caF pr c hf 1 arg v hd = (0, vset v (3 * c) arg, hd) := rfl
theorem ho_1 {pr : Pr} {hf arg hd : Nat} {v : Vc} : hoF pr hf 1 arg v hd = (0, vset v 12 arg, hd) := rfl
theorem ca_2 {pr : Pr} {c hf arg hd : Nat} {v : Vc} : caF pr c hf 2 arg v hd = (b3 (sendF pr v (arg, c, pP pr, c, 0)).1, (sendF pr v (arg, c, pP pr, c, 0)).2, hd) := rfl
theorem ho_2 {pr : Pr} {hf arg hd : Nat} {v : Vc} : hoF pr hf 2 arg v hd = (b3 (sendF pr v (arg, pP pr, hf, hf, 0)).1, (sendF pr v (arg, pP pr, hf, hf, 0)).2, hd) := rfl
theorem ca_3 {pr : Pr} {c hf arg hd : Nat} {v : Vc} : caF pr c hf 3 arg v hd = (b3 (sendF pr v (arg, c, pP pr, c, v (3 * c + 1))).1, (sendF pr v (arg, c, pP pr, c, v (3 * c + 1))).2, hd) := rfl
theorem ho_3 {pr : Pr} {hf arg hd : Nat} {v : Vc} : hoF pr hf 3 arg v hd = (b3 (sendF pr v (arg, pP pr, hf, hf, v 13)).1, (sendF pr v (arg, pP pr, hf, hf, v 13)).2, hd) := rfl
theorem ca_4 {pr : Pr} {c hf arg hd : Nat} {v : Vc} : caF pr c hf 4 arg v hd = (b3 (sendF pr v (arg, c, hf, hf, 0)).1, (sendF pr v (arg, c, hf, hf, 0)).2, hd) := rfl
theorem ho_4 {pr : Pr} {hf arg hd : Nat} {v : Vc} : hoF pr hf 4 arg v hd = (b3 (mcF pr arg hf (pP pr) v).1, (mcF pr arg hf (pP pr) v).2, hd) := rfl
theorem ca_5 {pr : Pr} {c hf arg hd : Nat} {v : Vc} : caF pr c hf 5 arg v hd = (b3 (sendF pr v (arg, c, hf, hf, v (3 * c + 1))).1, (sendF pr v (arg, c, hf, hf, v (3 * c + 1))).2, hd) := rfl
theorem ho_5 {pr : Pr} {hf arg hd : Nat} {v : Vc} : hoF pr hf 5 arg v hd = (0, vset v 14 (v 14 ||| 1 * 2 ^ hf), hd) := rfl
theorem ca_6 {pr : Pr} {c hf arg hd : Nat} {v : Vc} : caF pr c hf 6 arg v hd = (0, vset v (3 * c + 1) hd, hd) := rfl
theorem ho_6 {pr : Pr} {hf arg hd : Nat} {v : Vc} : hoF pr hf 6 arg v hd = (0, vset v 14 (hcl (v 14) hf), hd) := rfl
theorem ca_7 {pr : Pr} {c hf arg hd : Nat} {v : Vc} : caF pr c hf 7 arg v hd = ((if v (3 * c + 1) = 0 then 2 else 0), vset v (3 * c + 2) 0, hd) := rfl
theorem ho_7 {pr : Pr} {hf arg hd : Nat} {v : Vc} : hoF pr hf 7 arg v hd = (0, vset v 14 0, hd) := rfl
theorem ca_8 {pr : Pr} {c hf arg hd : Nat} {v : Vc} : caF pr c hf 8 arg v hd = (0, staleF pr (vset v (3 * c + 2) 0) c, 0) := rfl
theorem ho_8 {pr : Pr} {hf arg hd : Nat} {v : Vc} : hoF pr hf 8 arg v hd = (0, vset v 13 hd, hd) := rfl
set_option maxRecDepth 100000 in
set_option maxHeartbeats 4000000 in
theorem c_X0_cacheAct {n : Nat} {σ : Sg} {o : Nat} {pr : Pr} {v : Vc} (hn : 53 ≤ n) (ho : IsSc o n) (h9 : 9 < o) (h : ScC pr σ o v) (hp : PrC σ pr) (hk : PrOk pr) (hv : VOk pr v) (c hf hd op arg : Nat) (hA : AcC σ c hf hd) (hc : c < pP pr) (hf0 : hf < pP pr) (hd2 : hd < 2) (hop : op < 16) (ha : arg < 16) : Sm n mX0_cacheAct [.ref 9, .ref o, .int (nI op), .int (nI arg)] σ (qi fun r σ2 => r = nI (caF pr c hf op arg v hd).1 ∧ ScC pr σ2 o (caF pr c hf op arg v hd).2.1 ∧ AcC σ2 c hf (caF pr c hf op arg v hd).2.2 ∧ Off σ σ2 [9, o, o + 1]) := by
  refine Sm.of mk_X0_cacheAct (Nat.le_of_ble_eq_true rfl) rfl (fun X hX => ?_)
  have ho3 := ho.2.2
  have hP := hk.1.2
  have hfr := (hv.1 c hc).2.1
  have hvw := hv.cell (x := 0) hc hP (Or.inr (Or.inr ⟨rfl, by decide⟩))
  refine s_iload_n hX dX0_cacheAct_0 rfl ?_
  by_cases k1_1 : op = 1
  · refine s_tableIn (off := 47) (tgt := 48) hX dX0_cacheAct_1 (by rw [k1_1]; decide) (by rw [k1_1]; decide) (by rw [k1_1]; decide) (by decide) ?_
    refine s_aload_n hX dX0_cacheAct_48 rfl ?_
    refine s_aload_n hX dX0_cacheAct_49 rfl ?_
    refine s_getI (x := nI (c)) hX dX0_cacheAct_50 fl_X0_15 rfl rfl (by omega) hA.1 ?_
    refine s_iload_n hX dX0_cacheAct_53 rfl ?_
    refine s_callVv (as := [_, _]) hX dX0_cacheAct_54 mk_X7_setState lk_X0_85 (c_X7_setState ho h hP c (Nat.le_of_lt hc) arg (by omega)) ho.1 (by omega) rfl rfl rfl ⟨rfl, rfl⟩ (Nat.le_of_ble_eq_true rfl) (Nat.le_of_ble_eq_true rfl) (Nat.le_of_ble_eq_true rfl) rfl (fun σ54 p54 => ?_)
    rw [ix0 hc] at p54
    refine s_iconst (v := nI 0) hX dX0_cacheAct_57 (by decide) ?_
    refine s_iret hX dX0_cacheAct_58 rfl rfl ?_
    subst k1_1
    exact ⟨rfl, p54.1, hA.kept (p54.2.n9 h9), p54.2.m1⟩
  by_cases k1_2 : op = 2
  · refine s_tableIn (off := 58) (tgt := 59) hX dX0_cacheAct_1 (by rw [k1_2]; decide) (by rw [k1_2]; decide) (by rw [k1_2]; decide) (by decide) ?_
    refine s_aload_n hX dX0_cacheAct_59 rfl ?_
    refine s_aload_n hX dX0_cacheAct_60 rfl ?_
    refine s_iload_n hX dX0_cacheAct_61 rfl ?_
    refine s_iconst (v := nI 1) hX dX0_cacheAct_62 (by decide) ?_
    refine s_aload_n hX dX0_cacheAct_63 rfl ?_
    refine s_getR hX dX0_cacheAct_64 fl_X0_9 rfl rfl (by omega) ?_
    refine s_callVi (as := []) hX dX0_cacheAct_67 mk_X6_home lk_X0_41 (c_X6_home hn hp) rfl (by omega) rfl rfl rfl ⟨rfl, rfl⟩ (Nat.le_of_ble_eq_true rfl) (Nat.le_of_ble_eq_true rfl) (Nat.le_of_ble_eq_true rfl) rfl (fun v67 σ67 p67 => ?_)
    obtain ⟨rfl, ep⟩ := p67
    replace ep := ep.symm
    subst ep
    refine s_ishl_n hX dX0_cacheAct_70 (by omega) (by have := pw16 (t := pP pr) (by omega); omega) ?_
    refine s_aload_n hX dX0_cacheAct_71 rfl ?_
    refine s_getI (x := nI (c)) hX dX0_cacheAct_72 fl_X0_15 rfl rfl (by omega) hA.1 ?_
    refine s_iconst (v := nI 0) hX dX0_cacheAct_75 (by decide) ?_
    refine s_callVi (as := [_, _, _, _, _]) hX dX0_cacheAct_76 mk_X0_send lk_X0_88 (c_X0_send hn ho h9 h hp hk hv arg c c 0 (1 * 2 ^ pP pr) hA.1 ha (Nat.le_of_lt hc) hc (by omega) (bit_p (by omega) hP) (pw16 (by omega))) rfl (by omega) rfl rfl rfl ⟨rfl, rfl⟩ (Nat.le_of_ble_eq_true rfl) (Nat.le_of_ble_eq_true rfl) (Nat.le_of_ble_eq_true rfl) rfl (fun v76 σ76 p76 => ?_)
    refine s_iret hX dX0_cacheAct_79 rfl rfl ?_
    obtain ⟨rfl, pb, pc⟩ := p76
    rw [ms_one (by omega)] at pb ⊢
    subst k1_2
    exact ⟨rfl, pb, hA.kept (pc.out2 (by omega)), pc.m3⟩
  by_cases k1_3 : op = 3
  · refine s_tableIn (off := 79) (tgt := 80) hX dX0_cacheAct_1 (by rw [k1_3]; decide) (by rw [k1_3]; decide) (by rw [k1_3]; decide) (by decide) ?_
    refine s_aload_n hX dX0_cacheAct_80 rfl ?_
    refine s_aload_n hX dX0_cacheAct_81 rfl ?_
    refine s_iload_n hX dX0_cacheAct_82 rfl ?_
    refine s_iconst (v := nI 1) hX dX0_cacheAct_83 (by decide) ?_
    refine s_aload_n hX dX0_cacheAct_84 rfl ?_
    refine s_getR hX dX0_cacheAct_85 fl_X0_9 rfl rfl (by omega) ?_
    refine s_callVi (as := []) hX dX0_cacheAct_88 mk_X6_home lk_X0_41 (c_X6_home hn hp) rfl (by omega) rfl rfl rfl ⟨rfl, rfl⟩ (Nat.le_of_ble_eq_true rfl) (Nat.le_of_ble_eq_true rfl) (Nat.le_of_ble_eq_true rfl) rfl (fun v88 σ88 p88 => ?_)
    obtain ⟨rfl, ep⟩ := p88
    replace ep := ep.symm
    subst ep
    refine s_ishl_n hX dX0_cacheAct_91 (by omega) (by have := pw16 (t := pP pr) (by omega); omega) ?_
    refine s_aload_n hX dX0_cacheAct_92 rfl ?_
    refine s_getI (x := nI (c)) hX dX0_cacheAct_93 fl_X0_15 rfl rfl (by omega) hA.1 ?_
    refine s_aload_n hX dX0_cacheAct_96 rfl ?_
    refine s_aload_n hX dX0_cacheAct_97 rfl ?_
    refine s_getI (x := nI (c)) hX dX0_cacheAct_98 fl_X0_15 rfl rfl (by omega) hA.1 ?_
    refine s_callVi (as := [_]) hX dX0_cacheAct_101 mk_X7_freshOf lk_X0_92 (c_X7_freshOf ho h hk hv c (Nat.le_of_lt hc)) ho.1 (by omega) rfl rfl rfl ⟨rfl, rfl⟩ (Nat.le_of_ble_eq_true rfl) (Nat.le_of_ble_eq_true rfl) (Nat.le_of_ble_eq_true rfl) rfl (fun v101 σ101 p101 => ?_)
    obtain ⟨rfl, ep⟩ := p101
    replace ep := ep.symm
    subst ep
    rw [ix1 hc]
    refine s_callVi (as := [_, _, _, _, _]) hX dX0_cacheAct_104 mk_X0_send lk_X0_88 (c_X0_send hn ho h9 h hp hk hv arg c c (v (3 * c + 1)) (1 * 2 ^ pP pr) hA.1 ha (Nat.le_of_lt hc) hc (by omega) (bit_p (by omega) hP) (pw16 (by omega))) rfl (by omega) rfl rfl rfl ⟨rfl, rfl⟩ (Nat.le_of_ble_eq_true rfl) (Nat.le_of_ble_eq_true rfl) (Nat.le_of_ble_eq_true rfl) rfl (fun v104 σ104 p104 => ?_)
    refine s_iret hX dX0_cacheAct_107 rfl rfl ?_
    obtain ⟨rfl, pb, pc⟩ := p104
    rw [ms_one (by omega)] at pb ⊢
    subst k1_3
    exact ⟨rfl, pb, hA.kept (pc.out2 (by omega)), pc.m3⟩
  by_cases k1_4 : op = 4
  · refine s_tableIn (off := 107) (tgt := 108) hX dX0_cacheAct_1 (by rw [k1_4]; decide) (by rw [k1_4]; decide) (by rw [k1_4]; decide) (by decide) ?_
    refine s_aload_n hX dX0_cacheAct_108 rfl ?_
    refine s_aload_n hX dX0_cacheAct_109 rfl ?_
    refine s_iload_n hX dX0_cacheAct_110 rfl ?_
    refine s_iconst (v := nI 1) hX dX0_cacheAct_111 (by decide) ?_
    refine s_aload_n hX dX0_cacheAct_112 rfl ?_
    refine s_getI (x := nI (hf)) hX dX0_cacheAct_113 fl_X0_19 rfl rfl (by omega) hA.2.1 ?_
    refine s_ishl_n hX dX0_cacheAct_116 (by omega) (by have := pw16 (t := hf) (by omega); omega) ?_
    refine s_aload_n hX dX0_cacheAct_117 rfl ?_
    refine s_getI (x := nI (hf)) hX dX0_cacheAct_118 fl_X0_19 rfl rfl (by omega) hA.2.1 ?_
    refine s_iconst (v := nI 0) hX dX0_cacheAct_121 (by decide) ?_
    refine s_callVi (as := [_, _, _, _, _]) hX dX0_cacheAct_122 mk_X0_send lk_X0_88 (c_X0_send hn ho h9 h hp hk hv arg c hf 0 (1 * 2 ^ hf) hA.1 ha (Nat.le_of_lt hc) hf0 (by omega) (bit_p (by omega) hP) (pw16 (by omega))) rfl (by omega) rfl rfl rfl ⟨rfl, rfl⟩ (Nat.le_of_ble_eq_true rfl) (Nat.le_of_ble_eq_true rfl) (Nat.le_of_ble_eq_true rfl) rfl (fun v122 σ122 p122 => ?_)
    refine s_iret hX dX0_cacheAct_125 rfl rfl ?_
    obtain ⟨rfl, pb, pc⟩ := p122
    rw [ms_one (by omega)] at pb ⊢
    subst k1_4
    exact ⟨rfl, pb, hA.kept (pc.out2 (by omega)), pc.m3⟩
  by_cases k1_5 : op = 5
  · refine s_tableIn (off := 125) (tgt := 126) hX dX0_cacheAct_1 (by rw [k1_5]; decide) (by rw [k1_5]; decide) (by rw [k1_5]; decide) (by decide) ?_
    refine s_aload_n hX dX0_cacheAct_126 rfl ?_
    refine s_aload_n hX dX0_cacheAct_127 rfl ?_
    refine s_iload_n hX dX0_cacheAct_128 rfl ?_
    refine s_iconst (v := nI 1) hX dX0_cacheAct_129 (by decide) ?_
    refine s_aload_n hX dX0_cacheAct_130 rfl ?_
    refine s_getI (x := nI (hf)) hX dX0_cacheAct_131 fl_X0_19 rfl rfl (by omega) hA.2.1 ?_
    refine s_ishl_n hX dX0_cacheAct_134 (by omega) (by have := pw16 (t := hf) (by omega); omega) ?_
    refine s_aload_n hX dX0_cacheAct_135 rfl ?_
    refine s_getI (x := nI (hf)) hX dX0_cacheAct_136 fl_X0_19 rfl rfl (by omega) hA.2.1 ?_
    refine s_aload_n hX dX0_cacheAct_139 rfl ?_
    refine s_aload_n hX dX0_cacheAct_140 rfl ?_
    refine s_getI (x := nI (c)) hX dX0_cacheAct_141 fl_X0_15 rfl rfl (by omega) hA.1 ?_
    refine s_callVi (as := [_]) hX dX0_cacheAct_144 mk_X7_freshOf lk_X0_92 (c_X7_freshOf ho h hk hv c (Nat.le_of_lt hc)) ho.1 (by omega) rfl rfl rfl ⟨rfl, rfl⟩ (Nat.le_of_ble_eq_true rfl) (Nat.le_of_ble_eq_true rfl) (Nat.le_of_ble_eq_true rfl) rfl (fun v144 σ144 p144 => ?_)
    obtain ⟨rfl, ep⟩ := p144
    replace ep := ep.symm
    subst ep
    rw [ix1 hc]
    refine s_callVi (as := [_, _, _, _, _]) hX dX0_cacheAct_147 mk_X0_send lk_X0_88 (c_X0_send hn ho h9 h hp hk hv arg c hf (v (3 * c + 1)) (1 * 2 ^ hf) hA.1 ha (Nat.le_of_lt hc) hf0 (by omega) (bit_p (by omega) hP) (pw16 (by omega))) rfl (by omega) rfl rfl rfl ⟨rfl, rfl⟩ (Nat.le_of_ble_eq_true rfl) (Nat.le_of_ble_eq_true rfl) (Nat.le_of_ble_eq_true rfl) rfl (fun v147 σ147 p147 => ?_)
    refine s_iret hX dX0_cacheAct_150 rfl rfl ?_
    obtain ⟨rfl, pb, pc⟩ := p147
    rw [ms_one (by omega)] at pb ⊢
    subst k1_5
    exact ⟨rfl, pb, hA.kept (pc.out2 (by omega)), pc.m3⟩
  by_cases k1_6 : op = 6
  · refine s_tableIn (off := 150) (tgt := 151) hX dX0_cacheAct_1 (by rw [k1_6]; decide) (by rw [k1_6]; decide) (by rw [k1_6]; decide) (by decide) ?_
    refine s_aload_n hX dX0_cacheAct_151 rfl ?_
    refine s_aload_n hX dX0_cacheAct_152 rfl ?_
    refine s_getI (x := nI (c)) hX dX0_cacheAct_153 fl_X0_15 rfl rfl (by omega) hA.1 ?_
    refine s_aload_n hX dX0_cacheAct_156 rfl ?_
    refine s_getI (x := nI (hd)) hX dX0_cacheAct_157 fl_X0_22 rfl rfl (by omega) hA.2.2 ?_
    refine s_callVv (as := [_, _]) hX dX0_cacheAct_160 mk_X7_setFresh lk_X0_93 (c_X7_setFresh ho h hP c (Nat.le_of_lt hc) hd (by omega)) ho.1 (by omega) rfl rfl rfl ⟨rfl, rfl⟩ (Nat.le_of_ble_eq_true rfl) (Nat.le_of_ble_eq_true rfl) (Nat.le_of_ble_eq_true rfl) rfl (fun σ160 p160 => ?_)
    rw [ix1 hc] at p160
    refine s_iconst (v := nI 0) hX dX0_cacheAct_163 (by decide) ?_
    refine s_iret hX dX0_cacheAct_164 rfl rfl ?_
    subst k1_6
    exact ⟨rfl, p160.1, hA.kept (p160.2.n9 h9), p160.2.m1⟩
  by_cases k1_7 : op = 7
  · refine s_tableIn (off := 164) (tgt := 165) hX dX0_cacheAct_1 (by rw [k1_7]; decide) (by rw [k1_7]; decide) (by rw [k1_7]; decide) (by decide) ?_
    refine s_aload_n hX dX0_cacheAct_165 rfl ?_
    refine s_aload_n hX dX0_cacheAct_166 rfl ?_
    refine s_getI (x := nI (c)) hX dX0_cacheAct_167 fl_X0_15 rfl rfl (by omega) hA.1 ?_
    refine s_iconst (v := nI 0) hX dX0_cacheAct_170 (by decide) ?_
    refine s_callVv (as := [_, _]) hX dX0_cacheAct_171 mk_X7_setWant lk_X0_81 (c_X7_setWant ho h hP c hc 0 (by decide)) ho.1 (by omega) rfl rfl rfl ⟨rfl, rfl⟩ (Nat.le_of_ble_eq_true rfl) (Nat.le_of_ble_eq_true rfl) (Nat.le_of_ble_eq_true rfl) rfl (fun σ171 p171 => ?_)
    have hA2 := hA.kept (p171.2.n9 h9)
    refine s_aload_n hX dX0_cacheAct_174 rfl ?_
    refine s_aload_n hX dX0_cacheAct_175 rfl ?_
    refine s_getI (x := nI (c)) hX dX0_cacheAct_176 fl_X0_15 rfl rfl (by omega) hA2.1 ?_
    refine s_callVi (as := [_]) hX dX0_cacheAct_179 mk_X7_freshOf lk_X0_92 (c_X7_freshOf ho p171.1 hk hvw c (Nat.le_of_lt hc)) ho.1 (by omega) rfl rfl rfl ⟨rfl, rfl⟩ (Nat.le_of_ble_eq_true rfl) (Nat.le_of_ble_eq_true rfl) (Nat.le_of_ble_eq_true rfl) rfl (fun v179 σ179 p179 => ?_)
    obtain ⟨rfl, ep⟩ := p179
    replace ep := ep.symm
    subst ep
    rw [ix1 hc, vset_n _ _ (by omega)]
    refine s_iconst (v := nI 1) hX dX0_cacheAct_182 (by decide) ?_
    refine s_icmp_ne_n (tgt := 190) hX dX0_cacheAct_183 (by decide) (by omega) (by omega) (fun q183 => ?_) (fun q183 => ?_)
    · refine s_iconst (v := nI 2) hX dX0_cacheAct_190 (by decide) ?_
      refine s_iret hX dX0_cacheAct_191 rfl rfl ?_
      subst k1_7
      refine ⟨?_, p171.1, hA2, p171.2.m1⟩
      show _ = nI (if v (3 * c + 1) = 0 then 2 else 0)
      first
        | rw [if_pos (by omega)]
        | rw [if_neg (by omega)]
    · refine s_iconst (v := nI 0) hX dX0_cacheAct_186 (by decide) ?_
      refine s_goto (tgt := 191) hX dX0_cacheAct_187 (by decide) ?_
      refine s_iret hX dX0_cacheAct_191 rfl rfl ?_
      subst k1_7
      refine ⟨?_, p171.1, hA2, p171.2.m1⟩
      show _ = nI (if v (3 * c + 1) = 0 then 2 else 0)
      first
        | rw [if_pos (by omega)]
        | rw [if_neg (by omega)]
  by_cases k1_8 : op = 8
  · refine s_tableIn (off := 191) (tgt := 192) hX dX0_cacheAct_1 (by rw [k1_8]; decide) (by rw [k1_8]; decide) (by rw [k1_8]; decide) (by decide) ?_
    refine s_aload_n hX dX0_cacheAct_192 rfl ?_
    refine s_aload_n hX dX0_cacheAct_193 rfl ?_
    refine s_getI (x := nI (c)) hX dX0_cacheAct_194 fl_X0_15 rfl rfl (by omega) hA.1 ?_
    refine s_callVv (as := [_]) hX dX0_cacheAct_197 mk_X7_storeAt lk_X0_96 (c_X7_storeAt ho h hk hv c hc) ho.1 (by omega) rfl rfl rfl ⟨rfl, rfl⟩ (Nat.le_of_ble_eq_true rfl) (Nat.le_of_ble_eq_true rfl) (Nat.le_of_ble_eq_true rfl) rfl (fun σ197 p197 => ?_)
    refine s_aload_n hX dX0_cacheAct_200 rfl ?_
    refine s_iconst (v := nI 0) hX dX0_cacheAct_201 (by decide) ?_
    refine s_putI hX dX0_cacheAct_202 fl_X0_22 rfl rfl (by omega) rfl rfl ?_
    refine s_iconst (v := nI 0) hX dX0_cacheAct_205 (by decide) ?_
    refine s_iret hX dX0_cacheAct_206 rfl rfl ?_
    subst k1_8
    have e9 := p197.2.out2 (a := 9) (by omega)
    refine ⟨rfl, p197.1.kept (wI_a _ _ (by omega)) (wI_a _ _ (by omega)), ⟨?_, ?_, ?_⟩, (p197.2.m3).wI (by simp)⟩
    · rw [wI_k _ _ (by decide), e9]; exact hA.1
    · rw [wI_k _ _ (by decide), e9]; exact hA.2.1
    · rw [wI_s]; rfl
  refine s_tableOut (tgt := 207) hX dX0_cacheAct_1 (by rw [nI_toInt (by omega)]; omega) (by decide) ?_
  refine s_iconst (v := nI 0) hX dX0_cacheAct_207 (by decide) ?_
  refine s_iret hX dX0_cacheAct_208 rfl rfl ?_
  have E : caF pr c hf op arg v hd = (0, v, hd) := by unfold caF; rw [if_neg k1_1, if_neg k1_2, if_neg k1_3, if_neg k1_4, if_neg k1_5, if_neg k1_6, if_neg k1_7, if_neg k1_8]
  rw [E]
  exact ⟨rfl, h, hA, Off.rf⟩
set_option maxRecDepth 100000 in
set_option maxHeartbeats 4000000 in
theorem c_X0_homeAct {n : Nat} {σ : Sg} {o : Nat} {pr : Pr} {v : Vc} (hn : 53 ≤ n) (ho : IsSc o n) (h9 : 9 < o) (h : ScC pr σ o v) (hp : PrC σ pr) (hk : PrOk pr) (hv : VOk pr v) (hf hd op arg : Nat) (hr : v 14 < 2 ^ pP pr) (hA : AcC σ (pP pr) hf hd) (hf0 : hf < pP pr) (hd2 : hd < 2) (hop : op < 16) (ha : arg < 16) : Sm n mX0_homeAct [.ref 9, .ref o, .int (nI op), .int (nI arg)] σ (qi fun r σ2 => r = nI (hoF pr hf op arg v hd).1 ∧ ScC pr σ2 o (hoF pr hf op arg v hd).2.1 ∧ AcC σ2 (pP pr) hf (hoF pr hf op arg v hd).2.2 ∧ Off σ σ2 [9, o, o + 1]) := by
  refine Sm.of mk_X0_homeAct (Nat.le_of_ble_eq_true rfl) rfl (fun X hX => ?_)
  have ho3 := ho.2.2
  have hP := hk.1.2
  have h13 := hv.2.2.1
  have h14 := hv.2.2.2.1
  have hcl1 := hclI (v 14) h14 hf (by omega)
  have hle := hcl_le (v 14) hf
  refine s_iload_n hX dX0_homeAct_0 rfl ?_
  by_cases k1_1 : op = 1
  · refine s_tableIn (off := 47) (tgt := 48) hX dX0_homeAct_1 (by rw [k1_1]; decide) (by rw [k1_1]; decide) (by rw [k1_1]; decide) (by decide) ?_
    refine s_aload_n hX dX0_homeAct_48 rfl ?_
    refine s_aload_n hX dX0_homeAct_49 rfl ?_
    refine s_getI (x := nI (pP pr)) hX dX0_homeAct_50 fl_X0_15 rfl rfl (by omega) hA.1 ?_
    refine s_iload_n hX dX0_homeAct_53 rfl ?_
    refine s_callVv (as := [_, _]) hX dX0_homeAct_54 mk_X7_setState lk_X0_85 (c_X7_setState ho h hP (pP pr) (Nat.le_refl _) arg (by omega)) ho.1 (by omega) rfl rfl rfl ⟨rfl, rfl⟩ (Nat.le_of_ble_eq_true rfl) (Nat.le_of_ble_eq_true rfl) (Nat.le_of_ble_eq_true rfl) rfl (fun σ54 p54 => ?_)
    rw [ixP0] at p54
    refine s_iconst (v := nI 0) hX dX0_homeAct_57 (by decide) ?_
    refine s_iret hX dX0_homeAct_58 rfl rfl ?_
    subst k1_1
    exact ⟨rfl, p54.1, hA.kept (p54.2.n9 h9), p54.2.m1⟩
  by_cases k1_2 : op = 2
  · refine s_tableIn (off := 58) (tgt := 59) hX dX0_homeAct_1 (by rw [k1_2]; decide) (by rw [k1_2]; decide) (by rw [k1_2]; decide) (by decide) ?_
    refine s_aload_n hX dX0_homeAct_59 rfl ?_
    refine s_aload_n hX dX0_homeAct_60 rfl ?_
    refine s_iload_n hX dX0_homeAct_61 rfl ?_
    refine s_iconst (v := nI 1) hX dX0_homeAct_62 (by decide) ?_
    refine s_aload_n hX dX0_homeAct_63 rfl ?_
    refine s_getI (x := nI (hf)) hX dX0_homeAct_64 fl_X0_19 rfl rfl (by omega) hA.2.1 ?_
    refine s_ishl_n hX dX0_homeAct_67 (by omega) (by have := pw16 (t := hf) (by omega); omega) ?_
    refine s_aload_n hX dX0_homeAct_68 rfl ?_
    refine s_getI (x := nI (hf)) hX dX0_homeAct_69 fl_X0_19 rfl rfl (by omega) hA.2.1 ?_
    refine s_iconst (v := nI 0) hX dX0_homeAct_72 (by decide) ?_
    refine s_callVi (as := [_, _, _, _, _]) hX dX0_homeAct_73 mk_X0_send lk_X0_88 (c_X0_send hn ho h9 h hp hk hv arg (pP pr) hf 0 (1 * 2 ^ hf) hA.1 ha (Nat.le_refl _) hf0 (by omega) (bit_p (by omega) hP) (pw16 (by omega))) rfl (by omega) rfl rfl rfl ⟨rfl, rfl⟩ (Nat.le_of_ble_eq_true rfl) (Nat.le_of_ble_eq_true rfl) (Nat.le_of_ble_eq_true rfl) rfl (fun v73 σ73 p73 => ?_)
    refine s_iret hX dX0_homeAct_76 rfl rfl ?_
    obtain ⟨rfl, pb, pc⟩ := p73
    rw [ms_one (by omega)] at pb ⊢
    subst k1_2
    exact ⟨rfl, pb, hA.kept (pc.out2 (by omega)), pc.m3⟩
  by_cases k1_3 : op = 3
  · refine s_tableIn (off := 76) (tgt := 77) hX dX0_homeAct_1 (by rw [k1_3]; decide) (by rw [k1_3]; decide) (by rw [k1_3]; decide) (by decide) ?_
    refine s_aload_n hX dX0_homeAct_77 rfl ?_
    refine s_aload_n hX dX0_homeAct_78 rfl ?_
    refine s_iload_n hX dX0_homeAct_79 rfl ?_
    refine s_iconst (v := nI 1) hX dX0_homeAct_80 (by decide) ?_
    refine s_aload_n hX dX0_homeAct_81 rfl ?_
    refine s_getI (x := nI (hf)) hX dX0_homeAct_82 fl_X0_19 rfl rfl (by omega) hA.2.1 ?_
    refine s_ishl_n hX dX0_homeAct_85 (by omega) (by have := pw16 (t := hf) (by omega); omega) ?_
    refine s_aload_n hX dX0_homeAct_86 rfl ?_
    refine s_getI (x := nI (hf)) hX dX0_homeAct_87 fl_X0_19 rfl rfl (by omega) hA.2.1 ?_
    refine s_aload_n hX dX0_homeAct_90 rfl ?_
    refine s_aload_n hX dX0_homeAct_91 rfl ?_
    refine s_getI (x := nI (pP pr)) hX dX0_homeAct_92 fl_X0_15 rfl rfl (by omega) hA.1 ?_
    refine s_callVi (as := [_]) hX dX0_homeAct_95 mk_X7_freshOf lk_X0_92 (c_X7_freshOf ho h hk hv (pP pr) (Nat.le_refl _)) ho.1 (by omega) rfl rfl rfl ⟨rfl, rfl⟩ (Nat.le_of_ble_eq_true rfl) (Nat.le_of_ble_eq_true rfl) (Nat.le_of_ble_eq_true rfl) rfl (fun v95 σ95 p95 => ?_)
    obtain ⟨rfl, ep⟩ := p95
    replace ep := ep.symm
    subst ep
    rw [ixP]
    refine s_callVi (as := [_, _, _, _, _]) hX dX0_homeAct_98 mk_X0_send lk_X0_88 (c_X0_send hn ho h9 h hp hk hv arg (pP pr) hf (v 13) (1 * 2 ^ hf) hA.1 ha (Nat.le_refl _) hf0 (by omega) (bit_p (by omega) hP) (pw16 (by omega))) rfl (by omega) rfl rfl rfl ⟨rfl, rfl⟩ (Nat.le_of_ble_eq_true rfl) (Nat.le_of_ble_eq_true rfl) (Nat.le_of_ble_eq_true rfl) rfl (fun v98 σ98 p98 => ?_)
    refine s_iret hX dX0_homeAct_101 rfl rfl ?_
    obtain ⟨rfl, pb, pc⟩ := p98
    rw [ms_one (by omega)] at pb ⊢
    subst k1_3
    exact ⟨rfl, pb, hA.kept (pc.out2 (by omega)), pc.m3⟩
  by_cases k1_4 : op = 4
  · refine s_tableIn (off := 101) (tgt := 102) hX dX0_homeAct_1 (by rw [k1_4]; decide) (by rw [k1_4]; decide) (by rw [k1_4]; decide) (by decide) ?_
    refine s_aload_n hX dX0_homeAct_102 rfl ?_
    refine s_aload_n hX dX0_homeAct_103 rfl ?_
    refine s_iload_n hX dX0_homeAct_104 rfl ?_
    refine s_aload_n hX dX0_homeAct_105 rfl ?_
    refine s_callVi (as := []) hX dX0_homeAct_106 mk_X7_holders lk_X0_100 (c_X7_holders ho h hk hv) ho.1 (by omega) rfl rfl rfl ⟨rfl, rfl⟩ (Nat.le_of_ble_eq_true rfl) (Nat.le_of_ble_eq_true rfl) (Nat.le_of_ble_eq_true rfl) rfl (fun v106 σ106 p106 => ?_)
    obtain ⟨rfl, ep⟩ := p106
    replace ep := ep.symm
    subst ep
    refine s_iconst (v := nI 1) hX dX0_homeAct_109 (by decide) ?_
    refine s_aload_n hX dX0_homeAct_110 rfl ?_
    refine s_getI (x := nI (hf)) hX dX0_homeAct_111 fl_X0_19 rfl rfl (by omega) hA.2.1 ?_
    refine s_ishl_n hX dX0_homeAct_114 (by omega) (by have := pw16 (t := hf) (by omega); omega) ?_
    refine s_iconst (v := -1) hX dX0_homeAct_115 (by decide) ?_
    refine s_ixor hX dX0_homeAct_116 ?_
    refine s_iand hX dX0_homeAct_117 ?_
    refine s_top hcl1 ?_
    refine s_aload_n hX dX0_homeAct_118 rfl ?_
    refine s_getI (x := nI (hf)) hX dX0_homeAct_119 fl_X0_19 rfl rfl (by omega) hA.2.1 ?_
    refine s_iconst (v := nI 0) hX dX0_homeAct_122 (by decide) ?_
    refine s_callVi (as := [_, _, _, _, _]) hX dX0_homeAct_123 mk_X0_send lk_X0_88 (c_X0_send hn ho h9 h hp hk hv arg (pP pr) hf 0 (hcl (v 14) hf) hA.1 ha (Nat.le_refl _) hf0 (by omega) (fun t ht => Classical.byContradiction (fun q => by have z : hcl (v 14) hf / 2 ^ t = 0 := Nat.div_eq_of_lt (Nat.lt_of_le_of_lt hle (Nat.lt_of_lt_of_le hr (Nat.pow_le_pow_right (by decide) (by omega)))); rw [z] at ht; cases ht)) (by omega)) rfl (by omega) rfl rfl rfl ⟨rfl, rfl⟩ (Nat.le_of_ble_eq_true rfl) (Nat.le_of_ble_eq_true rfl) (Nat.le_of_ble_eq_true rfl) rfl (fun v123 σ123 p123 => ?_)
    refine s_iret hX dX0_homeAct_126 rfl rfl ?_
    obtain ⟨rfl, pb, pc⟩ := p123
    rw [ms_mc hk hf0 hr] at pb ⊢
    subst k1_4
    exact ⟨rfl, pb, hA.kept (pc.out2 (by omega)), pc.m3⟩
  by_cases k1_5 : op = 5
  · refine s_tableIn (off := 126) (tgt := 127) hX dX0_homeAct_1 (by rw [k1_5]; decide) (by rw [k1_5]; decide) (by rw [k1_5]; decide) (by decide) ?_
    refine s_aload_n hX dX0_homeAct_127 rfl ?_
    refine s_aload_n hX dX0_homeAct_128 rfl ?_
    refine s_callVi (as := []) hX dX0_homeAct_129 mk_X7_holders lk_X0_100 (c_X7_holders ho h hk hv) ho.1 (by omega) rfl rfl rfl ⟨rfl, rfl⟩ (Nat.le_of_ble_eq_true rfl) (Nat.le_of_ble_eq_true rfl) (Nat.le_of_ble_eq_true rfl) rfl (fun v129 σ129 p129 => ?_)
    obtain ⟨rfl, ep⟩ := p129
    replace ep := ep.symm
    subst ep
    refine s_iconst (v := nI 1) hX dX0_homeAct_132 (by decide) ?_
    refine s_aload_n hX dX0_homeAct_133 rfl ?_
    refine s_getI (x := nI (hf)) hX dX0_homeAct_134 fl_X0_19 rfl rfl (by omega) hA.2.1 ?_
    refine s_ishl_n hX dX0_homeAct_137 (by omega) (by have := pw16 (t := hf) (by omega); omega) ?_
    refine s_ior_n hX dX0_homeAct_138 ?_
    refine s_callVv (as := [_]) hX dX0_homeAct_139 mk_X7_setHolders lk_X0_103 (c_X7_setHolders ho h hP _ (or16 _ h14 _ (by omega))) ho.1 (by omega) rfl rfl rfl ⟨rfl, rfl⟩ (Nat.le_of_ble_eq_true rfl) (Nat.le_of_ble_eq_true rfl) (Nat.le_of_ble_eq_true rfl) rfl (fun σ139 p139 => ?_)
    refine s_iconst (v := nI 0) hX dX0_homeAct_142 (by decide) ?_
    refine s_iret hX dX0_homeAct_143 rfl rfl ?_
    subst k1_5
    exact ⟨rfl, p139.1, hA.kept (p139.2.n9 h9), p139.2.m1⟩
  by_cases k1_6 : op = 6
  · refine s_tableIn (off := 143) (tgt := 144) hX dX0_homeAct_1 (by rw [k1_6]; decide) (by rw [k1_6]; decide) (by rw [k1_6]; decide) (by decide) ?_
    refine s_aload_n hX dX0_homeAct_144 rfl ?_
    refine s_aload_n hX dX0_homeAct_145 rfl ?_
    refine s_callVi (as := []) hX dX0_homeAct_146 mk_X7_holders lk_X0_100 (c_X7_holders ho h hk hv) ho.1 (by omega) rfl rfl rfl ⟨rfl, rfl⟩ (Nat.le_of_ble_eq_true rfl) (Nat.le_of_ble_eq_true rfl) (Nat.le_of_ble_eq_true rfl) rfl (fun v146 σ146 p146 => ?_)
    obtain ⟨rfl, ep⟩ := p146
    replace ep := ep.symm
    subst ep
    refine s_iconst (v := nI 1) hX dX0_homeAct_149 (by decide) ?_
    refine s_aload_n hX dX0_homeAct_150 rfl ?_
    refine s_getI (x := nI (hf)) hX dX0_homeAct_151 fl_X0_19 rfl rfl (by omega) hA.2.1 ?_
    refine s_ishl_n hX dX0_homeAct_154 (by omega) (by have := pw16 (t := hf) (by omega); omega) ?_
    refine s_iconst (v := -1) hX dX0_homeAct_155 (by decide) ?_
    refine s_ixor hX dX0_homeAct_156 ?_
    refine s_iand hX dX0_homeAct_157 ?_
    refine s_top hcl1 ?_
    refine s_callVv (as := [_]) hX dX0_homeAct_158 mk_X7_setHolders lk_X0_103 (c_X7_setHolders ho h hP _ (hcl16 _ h14 _ (by omega))) ho.1 (by omega) rfl rfl rfl ⟨rfl, rfl⟩ (Nat.le_of_ble_eq_true rfl) (Nat.le_of_ble_eq_true rfl) (Nat.le_of_ble_eq_true rfl) rfl (fun σ158 p158 => ?_)
    refine s_iconst (v := nI 0) hX dX0_homeAct_161 (by decide) ?_
    refine s_iret hX dX0_homeAct_162 rfl rfl ?_
    subst k1_6
    exact ⟨rfl, p158.1, hA.kept (p158.2.n9 h9), p158.2.m1⟩
  by_cases k1_7 : op = 7
  · refine s_tableIn (off := 162) (tgt := 163) hX dX0_homeAct_1 (by rw [k1_7]; decide) (by rw [k1_7]; decide) (by rw [k1_7]; decide) (by decide) ?_
    refine s_aload_n hX dX0_homeAct_163 rfl ?_
    refine s_iconst (v := nI 0) hX dX0_homeAct_164 (by decide) ?_
    refine s_callVv (as := [_]) hX dX0_homeAct_165 mk_X7_setHolders lk_X0_103 (c_X7_setHolders ho h hP 0 (by decide)) ho.1 (by omega) rfl rfl rfl ⟨rfl, rfl⟩ (Nat.le_of_ble_eq_true rfl) (Nat.le_of_ble_eq_true rfl) (Nat.le_of_ble_eq_true rfl) rfl (fun σ165 p165 => ?_)
    refine s_iconst (v := nI 0) hX dX0_homeAct_168 (by decide) ?_
    refine s_iret hX dX0_homeAct_169 rfl rfl ?_
    subst k1_7
    exact ⟨rfl, p165.1, hA.kept (p165.2.n9 h9), p165.2.m1⟩
  by_cases k1_8 : op = 8
  · refine s_tableIn (off := 169) (tgt := 170) hX dX0_homeAct_1 (by rw [k1_8]; decide) (by rw [k1_8]; decide) (by rw [k1_8]; decide) (by decide) ?_
    refine s_aload_n hX dX0_homeAct_170 rfl ?_
    refine s_aload_n hX dX0_homeAct_171 rfl ?_
    refine s_getI (x := nI (pP pr)) hX dX0_homeAct_172 fl_X0_15 rfl rfl (by omega) hA.1 ?_
    refine s_aload_n hX dX0_homeAct_175 rfl ?_
    refine s_getI (x := nI (hd)) hX dX0_homeAct_176 fl_X0_22 rfl rfl (by omega) hA.2.2 ?_
    refine s_callVv (as := [_, _]) hX dX0_homeAct_179 mk_X7_setFresh lk_X0_93 (c_X7_setFresh ho h hP (pP pr) (Nat.le_refl _) hd (by omega)) ho.1 (by omega) rfl rfl rfl ⟨rfl, rfl⟩ (Nat.le_of_ble_eq_true rfl) (Nat.le_of_ble_eq_true rfl) (Nat.le_of_ble_eq_true rfl) rfl (fun σ179 p179 => ?_)
    rw [ixP] at p179
    refine s_iconst (v := nI 0) hX dX0_homeAct_182 (by decide) ?_
    refine s_iret hX dX0_homeAct_183 rfl rfl ?_
    subst k1_8
    exact ⟨rfl, p179.1, hA.kept (p179.2.n9 h9), p179.2.m1⟩
  refine s_tableOut (tgt := 184) hX dX0_homeAct_1 (by rw [nI_toInt (by omega)]; omega) (by decide) ?_
  refine s_iconst (v := nI 0) hX dX0_homeAct_184 (by decide) ?_
  refine s_iret hX dX0_homeAct_185 rfl rfl ?_
  have E : hoF pr hf op arg v hd = (0, v, hd) := by unfold hoF; rw [if_neg k1_1, if_neg k1_2, if_neg k1_3, if_neg k1_4, if_neg k1_5, if_neg k1_6, if_neg k1_7, if_neg k1_8]
  rw [E]
  exact ⟨rfl, h, hA, Off.rf⟩
theorem nI_nm1 {a : Nat} (h : a < 2 ^ 31) : ¬ nI a = -1 := fun e => by
  have := congrArg Int32.toInt e
  rw [nI_toInt h] at this
  have h2 : Int32.toInt (-1) = -1 := by decide
  omega
set_option maxRecDepth 100000 in
set_option maxHeartbeats 4000000 in
theorem c_X0_takeUp {n : Nat} {σ : Sg} {o : Nat} {pr : Pr} {v : Vc} (hn : 53 ≤ n) (ho : IsSc o n) (h9 : 9 < o) (h : ScC pr σ o v) (hp : PrC σ pr) (hk : PrOk pr) (hv : VOk pr v) {o3 : Nat} {l : List Sp} {s : Sp} {i : Nat} (hl : IsSl o3 n) (h13 : o + 1 < o3) (hS : SlC pr v σ o3 l) (hi : l[i]? = some s) (hi20 : i < 20) (hs : SpOk pr v s) (hw : s.2.2 = none → v (3 * s.1 + 2) = 0) : Sm n mX0_takeUp [.ref 9, .ref o, .ref o3, .int (nI i)] σ (qv fun σ2 => ScC pr σ2 o (upF v s).1 ∧ AcC σ2 s.1 (hfF v s) (upF v s).2 ∧ Off σ σ2 [9, o, o + 1]) := by
  refine Sm.of mk_X0_takeUp (Nat.le_of_ble_eq_true rfl) rfl (fun X hX => ?_)
  have ho3 := ho.2.2
  have hl7 := hl.2.2.2.2.2.2
  have hP := hk.1.2
  have h15 := hv.2.2.2.2.1
  cases hq : s.2.2 with
  | none =>
    obtain ⟨hs1, hs2⟩ := hs.1 hq
    have hlt : ltI s = -1 := by unfold ltI; rw [hq]
    have hf : hfF v s = s.1 := by unfold hfF; rw [hq]
    have hu : upF v s = (vset v (3 * s.1 + 2) (if s.2.1 < 2 then s.2.1 + 1 else 0), 0) := by unfold upF; rw [hq]
    have hw := hw hq
    have hsame : vset v (3 * s.1 + 2) 0 = v := by
      funext j
      unfold vset
      split
      · rename_i e; rw [e, hw]
      · rfl
    rw [hf, hu]
    have hA : ∀ σ1 : Sg, σ1 9 = (wI (wI (wI σ 9 1 (nI s.1)) 9 2 (nI s.1)) 9 3 (nI 0)) 9 → AcC σ1 s.1 s.1 0 := fun σ1 e => by
      unfold AcC
      rw [e, wI_s]
      exact ⟨by rw [wI_k _ _ (by decide), wI_k _ _ (by decide), wI_s], by rw [wI_k _ _ (by decide), wI_s], rfl⟩
    have hO : Off σ (wI (wI (wI σ 9 1 (nI s.1)) 9 2 (nI s.1)) 9 3 (nI 0)) [9, o, o + 1] := ((Off.rf.wI (by simp)).wI (by simp)).wI (by simp)
    refine s_aload_n hX dX0_takeUp_0 rfl ?_
    refine s_aload_n hX dX0_takeUp_1 rfl ?_
    refine s_iload_n hX dX0_takeUp_2 rfl ?_
    refine s_callVi (as := [_]) hX dX0_takeUp_3 mk_X9_endOf lk_X0_59 (c_X9_endOf hl hS i hi20 s hi) hl.1 (by omega) rfl rfl rfl ⟨rfl, rfl⟩ (Nat.le_of_ble_eq_true rfl) (Nat.le_of_ble_eq_true rfl) (Nat.le_of_ble_eq_true rfl) rfl (fun v3 σ3 p3 => ?_)
    obtain ⟨rfl, ep⟩ := p3
    replace ep := ep.symm
    subst ep
    refine s_putI hX dX0_takeUp_6 fl_X0_15 rfl rfl (by omega) rfl rfl ?_
    have hS2 : SlC pr v (wI σ 9 1 (nI s.1)) o3 l := hS.kept (fun a q1 q2 => wI_a _ _ (by omega))
    have h2 : ScC pr (wI σ 9 1 (nI s.1)) o v := h.kept (wI_a _ _ (by omega)) (wI_a _ _ (by omega))
    refine s_aload_n hX dX0_takeUp_9 rfl ?_
    refine s_iload_n hX dX0_takeUp_10 rfl ?_
    refine s_callVi (as := [_]) hX dX0_takeUp_11 mk_X9_letterOf lk_X0_62 (c_X9_letterOf hl hS2 i hi20 s hi) hl.1 (by omega) rfl rfl rfl ⟨rfl, rfl⟩ (Nat.le_of_ble_eq_true rfl) (Nat.le_of_ble_eq_true rfl) (Nat.le_of_ble_eq_true rfl) rfl (fun v11 σ11 p11 => ?_)
    obtain ⟨rfl, ep⟩ := p11
    replace ep := ep.symm
    subst ep
    rw [hlt]
    refine s_iconst (v := -1) hX dX0_takeUp_14 (by decide) ?_
    refine s_icmp_eq (tgt := 48) hX dX0_takeUp_15 (by decide) (fun q15 => ?_) (fun q15 => ?_)
    · refine s_aload_n hX dX0_takeUp_48 rfl ?_
      refine s_aload_n hX dX0_takeUp_49 rfl ?_
      refine s_getI (x := nI (s.1)) hX dX0_takeUp_50 fl_X0_15 rfl rfl (by omega) (wI_s _ _ _ _) ?_
      refine s_putI hX dX0_takeUp_53 fl_X0_19 rfl rfl (by omega) rfl rfl ?_
      refine s_aload_n hX dX0_takeUp_56 rfl ?_
      refine s_iconst (v := nI 0) hX dX0_takeUp_57 (by decide) ?_
      refine s_putI hX dX0_takeUp_58 fl_X0_22 rfl rfl (by omega) rfl rfl ?_
      refine s_aload_n hX dX0_takeUp_61 rfl ?_
      refine s_iload_n hX dX0_takeUp_62 rfl ?_
      refine s_callVi (as := [_]) hX dX0_takeUp_63 mk_X9_eventOf lk_X0_78 (c_X9_eventOf hl (hS2.kept (fun a q1 q2 => by rw [wI_a _ _ (by omega), wI_a _ _ (by omega)])) i hi20 s hi) hl.1 (by omega) rfl rfl rfl ⟨rfl, rfl⟩ (Nat.le_of_ble_eq_true rfl) (Nat.le_of_ble_eq_true rfl) (Nat.le_of_ble_eq_true rfl) rfl (fun v63 σ63 p63 => ?_)
      obtain ⟨rfl, ep⟩ := p63
      replace ep := ep.symm
      subst ep
      refine s_istore hX dX0_takeUp_66 (Nat.le_of_ble_eq_true rfl) rfl st_5_4 ?_
      refine s_iload hX dX0_takeUp_68 rfl ?_
      refine s_if_eq_n (tgt := 79) hX dX0_takeUp_70 (by decide) (by omega) (fun q70 => ?_) (fun q70 => ?_)
      · refine s_aload_n hX dX0_takeUp_79 rfl ?_
        refine s_aload_n hX dX0_takeUp_80 rfl ?_
        refine s_getI (x := nI (s.1)) hX dX0_takeUp_81 fl_X0_15 rfl rfl (by omega) (by rw [wI_k _ _ (by decide), wI_k _ _ (by decide), wI_s]) ?_
        refine s_iload hX dX0_takeUp_84 rfl ?_
        refine s_if_ne_n (tgt := 93) hX dX0_takeUp_86 (by decide) (by omega) (fun q86 => ?_) (fun q86 => ?_)
        · refine s_iconst (v := nI 2) hX dX0_takeUp_93 (by decide) ?_
          refine s_callVv (as := [_, _]) hX dX0_takeUp_94 mk_X7_setWant lk_X0_81 (c_X7_setWant ho (h2.kept (by rw [wI_a _ _ (by omega), wI_a _ _ (by omega)]) (by rw [wI_a _ _ (by omega), wI_a _ _ (by omega)])) hP s.1 hs1 _ (by decide)) ho.1 (by omega) rfl rfl rfl ⟨rfl, rfl⟩ (Nat.le_of_ble_eq_true rfl) (Nat.le_of_ble_eq_true rfl) (Nat.le_of_ble_eq_true rfl) rfl (fun σ94 p94 => ?_)
          refine s_vret hX dX0_takeUp_97 rfl rfl ?_
          first
            | exact ⟨by rw [if_pos (by omega), q70]; exact p94.1, hA _ (p94.2.n9 h9), hO.trans p94.2.m1⟩
            | exact ⟨by rw [if_pos (by omega), q76]; exact p94.1, hA _ (p94.2.n9 h9), hO.trans p94.2.m1⟩
            | exact ⟨by rw [if_neg (by omega), hsame]; exact h2.kept (by rw [wI_a _ _ (by omega), wI_a _ _ (by omega)]) (by rw [wI_a _ _ (by omega), wI_a _ _ (by omega)]), hA _ rfl, hO⟩
            | (exfalso; omega)
        · refine s_iconst (v := nI 1) hX dX0_takeUp_89 (by decide) ?_
          refine s_goto (tgt := 94) hX dX0_takeUp_90 (by decide) ?_
          refine s_callVv (as := [_, _]) hX dX0_takeUp_94 mk_X7_setWant lk_X0_81 (c_X7_setWant ho (h2.kept (by rw [wI_a _ _ (by omega), wI_a _ _ (by omega)]) (by rw [wI_a _ _ (by omega), wI_a _ _ (by omega)])) hP s.1 hs1 _ (by decide)) ho.1 (by omega) rfl rfl rfl ⟨rfl, rfl⟩ (Nat.le_of_ble_eq_true rfl) (Nat.le_of_ble_eq_true rfl) (Nat.le_of_ble_eq_true rfl) rfl (fun σ94 p94 => ?_)
          refine s_vret hX dX0_takeUp_97 rfl rfl ?_
          first
            | exact ⟨by rw [if_pos (by omega), q70]; exact p94.1, hA _ (p94.2.n9 h9), hO.trans p94.2.m1⟩
            | exact ⟨by rw [if_pos (by omega), q76]; exact p94.1, hA _ (p94.2.n9 h9), hO.trans p94.2.m1⟩
            | exact ⟨by rw [if_neg (by omega), hsame]; exact h2.kept (by rw [wI_a _ _ (by omega), wI_a _ _ (by omega)]) (by rw [wI_a _ _ (by omega), wI_a _ _ (by omega)]), hA _ rfl, hO⟩
            | (exfalso; omega)
      · refine s_iload hX dX0_takeUp_73 rfl ?_
        refine s_iconst (v := nI 1) hX dX0_takeUp_75 (by decide) ?_
        refine s_icmp_ne_n (tgt := 97) hX dX0_takeUp_76 (by decide) (by omega) (by omega) (fun q76 => ?_) (fun q76 => ?_)
        · refine s_vret hX dX0_takeUp_97 rfl rfl ?_
          first
            | exact ⟨by rw [if_pos (by omega), q70]; exact p94.1, hA _ (p94.2.n9 h9), hO.trans p94.2.m1⟩
            | exact ⟨by rw [if_pos (by omega), q76]; exact p94.1, hA _ (p94.2.n9 h9), hO.trans p94.2.m1⟩
            | exact ⟨by rw [if_neg (by omega), hsame]; exact h2.kept (by rw [wI_a _ _ (by omega), wI_a _ _ (by omega)]) (by rw [wI_a _ _ (by omega), wI_a _ _ (by omega)]), hA _ rfl, hO⟩
            | (exfalso; omega)
        · refine s_aload_n hX dX0_takeUp_79 rfl ?_
          refine s_aload_n hX dX0_takeUp_80 rfl ?_
          refine s_getI (x := nI (s.1)) hX dX0_takeUp_81 fl_X0_15 rfl rfl (by omega) (by rw [wI_k _ _ (by decide), wI_k _ _ (by decide), wI_s]) ?_
          refine s_iload hX dX0_takeUp_84 rfl ?_
          refine s_if_ne_n (tgt := 93) hX dX0_takeUp_86 (by decide) (by omega) (fun q86 => ?_) (fun q86 => ?_)
          · refine s_iconst (v := nI 2) hX dX0_takeUp_93 (by decide) ?_
            refine s_callVv (as := [_, _]) hX dX0_takeUp_94 mk_X7_setWant lk_X0_81 (c_X7_setWant ho (h2.kept (by rw [wI_a _ _ (by omega), wI_a _ _ (by omega)]) (by rw [wI_a _ _ (by omega), wI_a _ _ (by omega)])) hP s.1 hs1 _ (by decide)) ho.1 (by omega) rfl rfl rfl ⟨rfl, rfl⟩ (Nat.le_of_ble_eq_true rfl) (Nat.le_of_ble_eq_true rfl) (Nat.le_of_ble_eq_true rfl) rfl (fun σ94 p94 => ?_)
            refine s_vret hX dX0_takeUp_97 rfl rfl ?_
            first
              | exact ⟨by rw [if_pos (by omega), q70]; exact p94.1, hA _ (p94.2.n9 h9), hO.trans p94.2.m1⟩
              | exact ⟨by rw [if_pos (by omega), q76]; exact p94.1, hA _ (p94.2.n9 h9), hO.trans p94.2.m1⟩
              | exact ⟨by rw [if_neg (by omega), hsame]; exact h2.kept (by rw [wI_a _ _ (by omega), wI_a _ _ (by omega)]) (by rw [wI_a _ _ (by omega), wI_a _ _ (by omega)]), hA _ rfl, hO⟩
              | (exfalso; omega)
          · refine s_iconst (v := nI 1) hX dX0_takeUp_89 (by decide) ?_
            refine s_goto (tgt := 94) hX dX0_takeUp_90 (by decide) ?_
            refine s_callVv (as := [_, _]) hX dX0_takeUp_94 mk_X7_setWant lk_X0_81 (c_X7_setWant ho (h2.kept (by rw [wI_a _ _ (by omega), wI_a _ _ (by omega)]) (by rw [wI_a _ _ (by omega), wI_a _ _ (by omega)])) hP s.1 hs1 _ (by decide)) ho.1 (by omega) rfl rfl rfl ⟨rfl, rfl⟩ (Nat.le_of_ble_eq_true rfl) (Nat.le_of_ble_eq_true rfl) (Nat.le_of_ble_eq_true rfl) rfl (fun σ94 p94 => ?_)
            refine s_vret hX dX0_takeUp_97 rfl rfl ?_
            first
              | exact ⟨by rw [if_pos (by omega), q70]; exact p94.1, hA _ (p94.2.n9 h9), hO.trans p94.2.m1⟩
              | exact ⟨by rw [if_pos (by omega), q76]; exact p94.1, hA _ (p94.2.n9 h9), hO.trans p94.2.m1⟩
              | exact ⟨by rw [if_neg (by omega), hsame]; exact h2.kept (by rw [wI_a _ _ (by omega), wI_a _ _ (by omega)]) (by rw [wI_a _ _ (by omega), wI_a _ _ (by omega)]), hA _ rfl, hO⟩
              | (exfalso; omega)
    · exact absurd rfl q15
  | some q =>
    obtain ⟨hq1, hq2, hq3, hq4, hq5⟩ := hs.2 q hq
    have hlt : ltI s = nI q.2 := by unfold ltI; rw [hq]
    have hf : hfF v s = v (19 + 5 * q.2) := by unfold hfF; rw [hq]
    have hu : upF v s = (takeL v q.2, v (20 + 5 * q.2)) := by unfold upF; rw [hq]
    rw [hf, hu]
    have c9 := lcF_lt hk hv q.2
    obtain ⟨g1, g2, g3, g4, g5⟩ := lc_parts hk hv hq5
    refine s_aload_n hX dX0_takeUp_0 rfl ?_
    refine s_aload_n hX dX0_takeUp_1 rfl ?_
    refine s_iload_n hX dX0_takeUp_2 rfl ?_
    refine s_callVi (as := [_]) hX dX0_takeUp_3 mk_X9_endOf lk_X0_59 (c_X9_endOf hl hS i hi20 s hi) hl.1 (by omega) rfl rfl rfl ⟨rfl, rfl⟩ (Nat.le_of_ble_eq_true rfl) (Nat.le_of_ble_eq_true rfl) (Nat.le_of_ble_eq_true rfl) rfl (fun v3 σ3 p3 => ?_)
    obtain ⟨rfl, ep⟩ := p3
    replace ep := ep.symm
    subst ep
    refine s_putI hX dX0_takeUp_6 fl_X0_15 rfl rfl (by omega) rfl rfl ?_
    have hS2 : SlC pr v (wI σ 9 1 (nI s.1)) o3 l := hS.kept (fun a q1 q2 => wI_a _ _ (by omega))
    have h2 : ScC pr (wI σ 9 1 (nI s.1)) o v := h.kept (wI_a _ _ (by omega)) (wI_a _ _ (by omega))
    refine s_aload_n hX dX0_takeUp_9 rfl ?_
    refine s_iload_n hX dX0_takeUp_10 rfl ?_
    refine s_callVi (as := [_]) hX dX0_takeUp_11 mk_X9_letterOf lk_X0_62 (c_X9_letterOf hl hS2 i hi20 s hi) hl.1 (by omega) rfl rfl rfl ⟨rfl, rfl⟩ (Nat.le_of_ble_eq_true rfl) (Nat.le_of_ble_eq_true rfl) (Nat.le_of_ble_eq_true rfl) rfl (fun v11 σ11 p11 => ?_)
    obtain ⟨rfl, ep⟩ := p11
    replace ep := ep.symm
    subst ep
    rw [hlt]
    refine s_iconst (v := -1) hX dX0_takeUp_14 (by decide) ?_
    refine s_icmp_eq (tgt := 48) hX dX0_takeUp_15 (by decide) (fun q15 => ?_) (fun q15 => ?_)
    · exact absurd q15 (nI_nm1 (by omega))
    · refine s_aload_n hX dX0_takeUp_18 rfl ?_
      refine s_aload_n hX dX0_takeUp_19 rfl ?_
      refine s_iload_n hX dX0_takeUp_20 rfl ?_
      refine s_callVi (as := [_]) hX dX0_takeUp_21 mk_X9_letterOf lk_X0_62 (c_X9_letterOf hl hS2 i hi20 s hi) hl.1 (by omega) rfl rfl rfl ⟨rfl, rfl⟩ (Nat.le_of_ble_eq_true rfl) (Nat.le_of_ble_eq_true rfl) (Nat.le_of_ble_eq_true rfl) rfl (fun v21 σ21 p21 => ?_)
      obtain ⟨rfl, ep⟩ := p21
      replace ep := ep.symm
      subst ep
      rw [hlt]
      refine s_callVi (as := [_]) hX dX0_takeUp_24 mk_X7_take lk_X0_65 (c_X7_take ho h2 hk hv q.2 hq5) ho.1 (by omega) rfl rfl rfl ⟨rfl, rfl⟩ (Nat.le_of_ble_eq_true rfl) (Nat.le_of_ble_eq_true rfl) (Nat.le_of_ble_eq_true rfl) rfl (fun v24 σ24 p24 => ?_)
      obtain ⟨rfl, p24b, p24c⟩ := p24
      have e24 := p24c.out2 (a := 9) (by omega)
      refine s_istore hX dX0_takeUp_27 (Nat.le_of_ble_eq_true rfl) rfl st_5_4 ?_
      refine s_aload_n hX dX0_takeUp_29 rfl ?_
      refine s_iload hX dX0_takeUp_30 rfl ?_
      refine s_callSi (as := [_]) hX dX0_takeUp_32 mk_X4_forOf lk_X0_70 (c_X4_forOf _ (by omega)) rfl ⟨rfl, rfl⟩ (Nat.le_of_ble_eq_true rfl) (Nat.le_of_ble_eq_true rfl) (Nat.le_of_ble_eq_true rfl) rfl (fun v32 σ32 p32 => ?_)
      obtain ⟨rfl, ep⟩ := p32
      replace ep := ep.symm
      subst ep
      rw [g4]
      refine s_putI hX dX0_takeUp_35 fl_X0_19 rfl rfl (by omega) rfl rfl ?_
      refine s_aload_n hX dX0_takeUp_38 rfl ?_
      refine s_iload hX dX0_takeUp_39 rfl ?_
      refine s_callSi (as := [_]) hX dX0_takeUp_41 mk_X4_freshOf lk_X0_75 (c_X4_freshOf _ (by omega)) rfl ⟨rfl, rfl⟩ (Nat.le_of_ble_eq_true rfl) (Nat.le_of_ble_eq_true rfl) (Nat.le_of_ble_eq_true rfl) rfl (fun v41 σ41 p41 => ?_)
      obtain ⟨rfl, ep⟩ := p41
      replace ep := ep.symm
      subst ep
      rw [g5]
      refine s_putI hX dX0_takeUp_44 fl_X0_22 rfl rfl (by omega) rfl rfl ?_
      refine s_vret hX dX0_takeUp_47 rfl rfl ?_
      refine ⟨p24b.kept (by rw [wI_a _ _ (by omega), wI_a _ _ (by omega)]) (by rw [wI_a _ _ (by omega), wI_a _ _ (by omega)]), ⟨?_, ?_, ?_⟩, (((Off.rf.wI (by simp)).trans p24c.m3).wI (by simp)).wI (by simp)⟩
      · rw [wI_k _ _ (by decide), wI_k _ _ (by decide), e24, wI_s]
      · rw [wI_k _ _ (by decide), wI_s]
      · rw [wI_s]
