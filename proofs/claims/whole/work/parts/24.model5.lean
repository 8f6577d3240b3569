theorem b3_le (b : Bool) : b3 b ≤ 3 := by cases b <;> decide
theorem ca_le (pr : Pr) (c hf op arg : Nat) (v : Vc) (hd : Nat) : (caF pr c hf op arg v hd).1 ≤ 3 := by
  unfold caF
  repeat' split
  all_goals first | exact b3_le _ | (show _ ≤ 3; omega) | (dsimp only; split <;> decide)
theorem ho_le (pr : Pr) (hf op arg : Nat) (v : Vc) (hd : Nat) : (hoF pr hf op arg v hd).1 ≤ 3 := by
  unfold hoF
  repeat' split
  all_goals first | exact b3_le _ | (show _ ≤ 3; omega)
theorem acR_le (pr : Pr) (who hf : Nat) (f : Nat → Nat) (s : Nat × Vc × Nat) (h : s.1 ≤ 3) : ∀ k, (acR pr who hf f k s).1 ≤ 3
  | 0 => h
  | k + 1 => by
    have ih := acR_le pr who hf f s h k
    unfold acR
    split
    · exact ih
    · unfold actF
      split
      · exact ca_le _ _ _ _ _ _ _
      · exact ho_le _ _ _ _ _ _
theorem acR_stop {pr : Pr} {who hf : Nat} {f : Nat → Nat} {s : Nat × Vc × Nat} {k : Nat} (h : (acR pr who hf f k s).1 ≠ 0) : ∀ d, acR pr who hf f (k + d) s = acR pr who hf f k s
  | 0 => rfl
  | d + 1 => by
    have ih := acR_stop h d
    show (if (acR pr who hf f (k + d) s).1 ≠ 0 then acR pr who hf f (k + d) s else _) = _
    rw [ih, if_pos h]
theorem doF_le (pr : Pr) (v : Vc) (s : Sp) : (doF pr v s).1 ≤ 3 := by
  unfold doF
  split
  · show 1 ≤ 3; decide
  · exact acR_le _ _ _ _ _ (by show 0 ≤ 3; decide) _
set_option maxRecDepth 100000 in
set_option maxHeartbeats 4000000 in
theorem c_X11_doStep {σ : Sg} {pr : Pr} {v : Vc} {l : List Sp} {s : Sp} {i : Nat} (hp : PrM σ pr) (hk : PrOk pr) (hN : Vat σ 59 0 v) (hv : VOk pr v) (hS : StM σ l) (hi : l[i]? = some s) (hi20 : i < 20) (hs : SpOk pr v s) : Sm 77 mX11_doStep [.ref 53, .int (nI i)] σ (qi fun r σ2 => r = nI (doF pr v s).1 ∧ Fr 53 σ σ2 [59] [9, 10, 11, 34] ∧ Vat σ2 59 0 (doF pr v s).2.2 ∧ (σ2 53).1 34 = amv (doF pr v s).2.1) := by
  refine Sm.of mk_X11_doStep (Nat.le_of_ble_eq_true rfl) rfl (fun X hX => ?_)
  have hP := hk.1
  have hpl := plcF_lt hv hs
  obtain ⟨hup1, hup2, hup3⟩ := hv.up hP.2 hs
  obtain ⟨s62, s63, s64, s65⟩ := hS.2 i s hi
  have hac := hk.2.2.2.2 (plcF pr v s)
  have LP : ∀ m, pAm pr (plcF pr v s) = some m → ∀ d k, k + d = m → ∀ σ1 (x6 x7 : Option Value), Fr 53 σ σ1 [59] [9, 10, 11, 34] → Vat σ1 59 0 (acR pr s.1 (hfF v s) (pAc pr (plcF pr v s)) k (0, upF v s)).2.1 → (σ1 53).1 11 = nI (acR pr s.1 (hfF v s) (pAc pr (plcF pr v s)) k (0, upF v s)).2.2 → (σ1 53).1 10 = nI (hfF v s) → (σ1 53).1 34 = nI (plcF pr v s) → ∀ b, b = (acR pr s.1 (hfF v s) (pAc pr (plcF pr v s)) k (0, upF v s)).1 → Sw 77 mX11_doStep X (ZS 77 mX11_doStep (qi fun r σ2 => r = nI (doF pr v s).1 ∧ Fr 53 σ σ2 [59] [9, 10, 11, 34] ∧ Vat σ2 59 0 (doF pr v s).2.2 ∧ (σ2 53).1 34 = amv (doF pr v s).2.1) X) 134 [some (.ref 53), some (.int (nI i)), some (.int (nI s.1)), some (.int (nI (plcF pr v s))), some (.int (nI b)), some (.int (nI k)), x6, x7] [] σ1 := by
    intro m hm d
    have hm8 := hk.2.2.2.1 _ m hm
    have hD : doF pr v s = ((acR pr s.1 (hfF v s) (pAc pr (plcF pr v s)) m (0, upF v s)).1, some (plcF pr v s), (acR pr s.1 (hfF v s) (pAc pr (plcF pr v s)) m (0, upF v s)).2.1) := by
      unfold doF
      rw [hm]
    induction d with
    | zero =>
      intro k hd σ1 x6 x7 hf hV h11 h10 h34 b hb
      have hp1 := hp.fr hf (by decide) (by decide) (by decide) (by decide) (by decide)
      have e56 : (σ1 56).1 (plcF pr v s) = nI m := by rw [hp1.2.2.2.1 _ hpl, hm]; rfl
      refine s_iload hX dX11_doStep_134 rfl ?_
      refine s_aload_n hX dX11_doStep_136 rfl ?_
      refine s_getR hX dX11_doStep_137 fl_X11_20 rfl rfl (by omega) ?_
      refine s_iload_n hX dX11_doStep_140 rfl ?_
      refine s_iald (x := nI (m)) hX dX11_doStep_141 rfl (by omega) (by omega) (by decide) e56 ?_
      refine s_icmp_ge_n (tgt := 220) hX dX11_doStep_142 (by decide) (by omega) (by omega) (fun q142 => ?_) (fun q142 => ?_)
      · refine s_iload hX dX11_doStep_220 rfl ?_
        refine s_iret hX dX11_doStep_222 rfl rfl ?_
        rw [hD, ← show k = m by omega]
        exact ⟨by rw [hb], hf, hV, h34⟩
      · omega
    | succ d ih =>
      intro k hd σ1 x6 x7 hf hV h11 h10 h34 b hb
      have hp1 := hp.fr hf (by decide) (by decide) (by decide) (by decide) (by decide)
      have e56 : (σ1 56).1 (plcF pr v s) = nI m := by rw [hp1.2.2.2.1 _ hpl, hm]; rfl
      have e57 := hp1.2.2.2.2 _ hpl m hm k (by omega)
      have hle := acR_le pr s.1 (hfF v s) (pAc pr (plcF pr v s)) (0, upF v s) (by show 0 ≤ 3; decide) k
      have hack := hac k
      obtain ⟨hok1, hok2⟩ := VOk.ac (who := s.1) (f := pAc pr (plcF pr v s)) hP.2 hup3 k (0, upF v s) hup1 hup2
      subst hb
      refine s_iload hX dX11_doStep_134 rfl ?_
      refine s_aload_n hX dX11_doStep_136 rfl ?_
      refine s_getR hX dX11_doStep_137 fl_X11_20 rfl rfl (by omega) ?_
      refine s_iload_n hX dX11_doStep_140 rfl ?_
      refine s_iald (x := nI (m)) hX dX11_doStep_141 rfl (by omega) (by omega) (by decide) e56 ?_
      refine s_icmp_ge_n (tgt := 220) hX dX11_doStep_142 (by decide) (by omega) (by omega) (fun q142 => ?_) (fun q142 => ?_)
      · omega
      · refine s_iload hX dX11_doStep_145 rfl ?_
        refine s_if_ne_n (tgt := 220) hX dX11_doStep_147 (by decide) (by omega) (fun q147 => ?_) (fun q147 => ?_)
        · refine s_iload hX dX11_doStep_220 rfl ?_
          refine s_iret hX dX11_doStep_222 rfl rfl ?_
          have hst := acR_stop (f := pAc pr (plcF pr v s)) q147 (d + 1)
          rw [show k + (d + 1) = m by omega] at hst
          rw [hD, hst]
          exact ⟨rfl, hf, hV, h34⟩
        · refine s_aload_n hX dX11_doStep_150 rfl ?_
          refine s_getR hX dX11_doStep_151 fl_X11_23 rfl rfl (by omega) ?_
          refine s_bipush (v := nI 8) hX dX11_doStep_154 (by decide) ?_
          refine s_iload_n hX dX11_doStep_156 rfl ?_
          refine s_imul_n hX dX11_doStep_157 ?_
          refine s_iload hX dX11_doStep_158 rfl ?_
          refine s_iadd_n hX dX11_doStep_160 ?_
          refine s_iald (x := nI (pAc pr (plcF pr v s) k)) hX dX11_doStep_161 rfl (by omega) (by omega) (by decide) e57 ?_
          refine s_bipush (v := nI 16) hX dX11_doStep_162 (by decide) ?_
          refine s_idiv_n hX dX11_doStep_164 (by omega) (by decide) (by decide) ?_
          refine s_istore hX dX11_doStep_165 (Nat.le_of_ble_eq_true rfl) rfl st_8_6 ?_
          refine s_aload_n hX dX11_doStep_167 rfl ?_
          refine s_getR hX dX11_doStep_168 fl_X11_23 rfl rfl (by omega) ?_
          refine s_bipush (v := nI 8) hX dX11_doStep_171 (by decide) ?_
          refine s_iload_n hX dX11_doStep_173 rfl ?_
          refine s_imul_n hX dX11_doStep_174 ?_
          refine s_iload hX dX11_doStep_175 rfl ?_
          refine s_iadd_n hX dX11_doStep_177 ?_
          refine s_iald (x := nI (pAc pr (plcF pr v s) k)) hX dX11_doStep_178 rfl (by omega) (by omega) (by decide) e57 ?_
          refine s_bipush (v := nI 16) hX dX11_doStep_179 (by decide) ?_
          refine s_irem_n hX dX11_doStep_181 (by omega) (by decide) (by decide) ?_
          refine s_istore hX dX11_doStep_182 (Nat.le_of_ble_eq_true rfl) rfl st_8_7 ?_
          refine s_iload_n hX dX11_doStep_184 rfl ?_
          refine s_aload_n hX dX11_doStep_185 rfl ?_
          refine s_getI (x := nI (pP pr)) hX dX11_doStep_186 fl_X11_7 rfl rfl (by omega) hp1.1 ?_
          refine s_icmp_ge_n (tgt := 204) hX dX11_doStep_189 (by decide) (by have := hs.1; have := hs.2; cases h9 : s.2.2 with
              | none => have := (hs.1 h9).1; omega
              | some q => have := (hs.2 q h9).1; omega) (by omega) (fun q189 => ?_) (fun q189 => ?_)
          · refine s_aload_n hX dX11_doStep_204 rfl ?_
            refine s_iload hX dX11_doStep_205 rfl ?_
            refine s_iload hX dX11_doStep_207 rfl ?_
            refine s_callVi (as := [_, _]) hX dX11_doStep_209 mk_X11_homeActs lk_X11_157 (c_X11_homeActs (v := (acR pr s.1 (hfF v s) (pAc pr (plcF pr v s)) k (0, upF v s)).2.1) (hf := hfF v s) (hd := (acR pr s.1 (hfF v s) (pAc pr (plcF pr v s)) k (0, upF v s)).2.2) hp1 hk hV hok1 hup3 (by omega) (by omega) hok2 h10 h11) rfl (by omega) rfl rfl rfl ⟨rfl, rfl⟩ (Nat.le_of_ble_eq_true rfl) (Nat.le_of_ble_eq_true rfl) (Nat.le_of_ble_eq_true rfl) rfl (fun v209 σ209 p209 => ?_)
            obtain ⟨rfl, hf2, hV2, h2⟩ := p209
            refine s_istore hX dX11_doStep_212 (Nat.le_of_ble_eq_true rfl) rfl st_8_4 ?_
            refine s_iinc_n (c := 1) hX dX11_doStep_214 rfl (by decide) rfl st_8_5 ?_
            refine s_goto (tgt := 134) hX dX11_doStep_217 (by decide) ?_
            first
              | (have hs1 : acR pr s.1 (hfF v s) (pAc pr (plcF pr v s)) (k + 1) (0, upF v s) = actF pr s.1 (hfF v s) (pAc pr (plcF pr v s) k) (acR pr s.1 (hfF v s) (pAc pr (plcF pr v s)) k (0, upF v s)).2.1 (acR pr s.1 (hfF v s) (pAc pr (plcF pr v s)) k (0, upF v s)).2.2 := by
                   show (if _ then _ else _) = _
                   rw [if_neg (by rw [q147]; decide)]
                 have hs2 : actF pr s.1 (hfF v s) (pAc pr (plcF pr v s) k) (acR pr s.1 (hfF v s) (pAc pr (plcF pr v s)) k (0, upF v s)).2.1 (acR pr s.1 (hfF v s) (pAc pr (plcF pr v s)) k (0, upF v s)).2.2 = caF pr s.1 (hfF v s) (pAc pr (plcF pr v s) k / 16) (pAc pr (plcF pr v s) k % 16) (acR pr s.1 (hfF v s) (pAc pr (plcF pr v s)) k (0, upF v s)).2.1 (acR pr s.1 (hfF v s) (pAc pr (plcF pr v s)) k (0, upF v s)).2.2 := by
                   unfold actF
                   rw [if_pos q189]
                 rw [hs2] at hs1
                 refine ih (k + 1) (by omega) _ _ _ (hf.trans (hf2.mono (by decide) (by decide))) ?_ ?_ ((hf2.2.1 10 (by decide)).trans h10) ((hf2.2.1 34 (by decide)).trans h34) _ ?_
                 · rw [hs1]; exact hV2
                 · rw [hs1]; exact h2
                 · rw [hs1])
              | (have hs1 : acR pr s.1 (hfF v s) (pAc pr (plcF pr v s)) (k + 1) (0, upF v s) = actF pr s.1 (hfF v s) (pAc pr (plcF pr v s) k) (acR pr s.1 (hfF v s) (pAc pr (plcF pr v s)) k (0, upF v s)).2.1 (acR pr s.1 (hfF v s) (pAc pr (plcF pr v s)) k (0, upF v s)).2.2 := by
                   show (if _ then _ else _) = _
                   rw [if_neg (by rw [q147]; decide)]
                 have hs2 : actF pr s.1 (hfF v s) (pAc pr (plcF pr v s) k) (acR pr s.1 (hfF v s) (pAc pr (plcF pr v s)) k (0, upF v s)).2.1 (acR pr s.1 (hfF v s) (pAc pr (plcF pr v s)) k (0, upF v s)).2.2 = hoF pr (hfF v s) (pAc pr (plcF pr v s) k / 16) (pAc pr (plcF pr v s) k % 16) (acR pr s.1 (hfF v s) (pAc pr (plcF pr v s)) k (0, upF v s)).2.1 (acR pr s.1 (hfF v s) (pAc pr (plcF pr v s)) k (0, upF v s)).2.2 := by
                   unfold actF
                   rw [if_neg (by omega)]
                 rw [hs2] at hs1
                 refine ih (k + 1) (by omega) _ _ _ (hf.trans (hf2.mono (by decide) (by decide))) ?_ ?_ ((hf2.2.1 10 (by decide)).trans h10) ((hf2.2.1 34 (by decide)).trans h34) _ ?_
                 · rw [hs1]; exact hV2
                 · rw [hs1]; exact h2
                 · rw [hs1])
          · refine s_aload_n hX dX11_doStep_192 rfl ?_
            refine s_iload_n hX dX11_doStep_193 rfl ?_
            refine s_iload hX dX11_doStep_194 rfl ?_
            refine s_iload hX dX11_doStep_196 rfl ?_
            refine s_callVi (as := [_, _, _]) hX dX11_doStep_198 mk_X11_cacheActs lk_X11_153 (c_X11_cacheActs (v := (acR pr s.1 (hfF v s) (pAc pr (plcF pr v s)) k (0, upF v s)).2.1) (c := s.1) (hf := hfF v s) (hd := (acR pr s.1 (hfF v s) (pAc pr (plcF pr v s)) k (0, upF v s)).2.2) hp1 hk hV hok1 q189 hup3 (by omega) (by omega) hok2 h10 h11) rfl (by omega) rfl rfl rfl ⟨rfl, rfl⟩ (Nat.le_of_ble_eq_true rfl) (Nat.le_of_ble_eq_true rfl) (Nat.le_of_ble_eq_true rfl) rfl (fun v198 σ198 p198 => ?_)
            obtain ⟨rfl, hf2, hV2, h2⟩ := p198
            refine s_goto (tgt := 212) hX dX11_doStep_201 (by decide) ?_
            refine s_istore hX dX11_doStep_212 (Nat.le_of_ble_eq_true rfl) rfl st_8_4 ?_
            refine s_iinc_n (c := 1) hX dX11_doStep_214 rfl (by decide) rfl st_8_5 ?_
            refine s_goto (tgt := 134) hX dX11_doStep_217 (by decide) ?_
            first
              | (have hs1 : acR pr s.1 (hfF v s) (pAc pr (plcF pr v s)) (k + 1) (0, upF v s) = actF pr s.1 (hfF v s) (pAc pr (plcF pr v s) k) (acR pr s.1 (hfF v s) (pAc pr (plcF pr v s)) k (0, upF v s)).2.1 (acR pr s.1 (hfF v s) (pAc pr (plcF pr v s)) k (0, upF v s)).2.2 := by
                   show (if _ then _ else _) = _
                   rw [if_neg (by rw [q147]; decide)]
                 have hs2 : actF pr s.1 (hfF v s) (pAc pr (plcF pr v s) k) (acR pr s.1 (hfF v s) (pAc pr (plcF pr v s)) k (0, upF v s)).2.1 (acR pr s.1 (hfF v s) (pAc pr (plcF pr v s)) k (0, upF v s)).2.2 = caF pr s.1 (hfF v s) (pAc pr (plcF pr v s) k / 16) (pAc pr (plcF pr v s) k % 16) (acR pr s.1 (hfF v s) (pAc pr (plcF pr v s)) k (0, upF v s)).2.1 (acR pr s.1 (hfF v s) (pAc pr (plcF pr v s)) k (0, upF v s)).2.2 := by
                   unfold actF
                   rw [if_pos q189]
                 rw [hs2] at hs1
                 refine ih (k + 1) (by omega) _ _ _ (hf.trans (hf2.mono (by decide) (by decide))) ?_ ?_ ((hf2.2.1 10 (by decide)).trans h10) ((hf2.2.1 34 (by decide)).trans h34) _ ?_
                 · rw [hs1]; exact hV2
                 · rw [hs1]; exact h2
                 · rw [hs1])
              | (have hs1 : acR pr s.1 (hfF v s) (pAc pr (plcF pr v s)) (k + 1) (0, upF v s) = actF pr s.1 (hfF v s) (pAc pr (plcF pr v s) k) (acR pr s.1 (hfF v s) (pAc pr (plcF pr v s)) k (0, upF v s)).2.1 (acR pr s.1 (hfF v s) (pAc pr (plcF pr v s)) k (0, upF v s)).2.2 := by
                   show (if _ then _ else _) = _
                   rw [if_neg (by rw [q147]; decide)]
                 have hs2 : actF pr s.1 (hfF v s) (pAc pr (plcF pr v s) k) (acR pr s.1 (hfF v s) (pAc pr (plcF pr v s)) k (0, upF v s)).2.1 (acR pr s.1 (hfF v s) (pAc pr (plcF pr v s)) k (0, upF v s)).2.2 = hoF pr (hfF v s) (pAc pr (plcF pr v s) k / 16) (pAc pr (plcF pr v s) k % 16) (acR pr s.1 (hfF v s) (pAc pr (plcF pr v s)) k (0, upF v s)).2.1 (acR pr s.1 (hfF v s) (pAc pr (plcF pr v s)) k (0, upF v s)).2.2 := by
                   unfold actF
                   rw [if_neg (by omega)]
                 rw [hs2] at hs1
                 refine ih (k + 1) (by omega) _ _ _ (hf.trans (hf2.mono (by decide) (by decide))) ?_ ?_ ((hf2.2.1 10 (by decide)).trans h10) ((hf2.2.1 34 (by decide)).trans h34) _ ?_
                 · rw [hs1]; exact hV2
                 · rw [hs1]; exact h2
                 · rw [hs1])
  have J101 : ∀ σ1 (x4 x5 x6 x7 : Option Value), Fr 53 σ σ1 [59] [9, 10, 11] → Vat σ1 59 0 (upF v s).1 → (σ1 53).1 10 = nI (hfF v s) → (σ1 53).1 11 = nI (upF v s).2 → Sw 77 mX11_doStep X (ZS 77 mX11_doStep (qi fun r σ2 => r = nI (doF pr v s).1 ∧ Fr 53 σ σ2 [59] [9, 10, 11, 34] ∧ Vat σ2 59 0 (doF pr v s).2.2 ∧ (σ2 53).1 34 = amv (doF pr v s).2.1) X) 101 [some (.ref 53), some (.int (nI i)), some (.int (nI s.1)), some (.int (nI (plcF pr v s))), x4, x5, x6, x7] [] σ1 := by
    intro σ1 x4 x5 x6 x7 hf hV h10 h11
    have hp1 := hp.fr hf (by decide) (by decide) (by decide) (by decide) (by decide)
    have hfm : Fr 53 σ σ1 [59] [9, 10, 11, 34] := hf.mono (by decide) (by decide)
    cases hm : pAm pr (plcF pr v s) with
    | none =>
      have e56 : (σ1 56).1 (plcF pr v s) = -1 := by rw [hp1.2.2.2.1 _ hpl, hm]; rfl
      have hD : doF pr v s = (1, none, (upF v s).1) := by
        unfold doF
        rw [hm]
      refine s_aload_n hX dX11_doStep_101 rfl ?_
      refine s_aload_n hX dX11_doStep_102 rfl ?_
      refine s_getR hX dX11_doStep_103 fl_X11_20 rfl rfl (by omega) ?_
      refine s_iload_n hX dX11_doStep_106 rfl ?_
      refine s_iald (x := (-1)) hX dX11_doStep_107 rfl (by omega) (by omega) (by decide) e56 ?_
      refine s_if_ge (tgt := 115) hX dX11_doStep_108 (by decide) (fun q108 => ?_) (fun q108 => ?_)
      · exact absurd q108 (by decide)
      · refine s_iconst (v := -1) hX dX11_doStep_111 (by decide) ?_
        refine s_goto (tgt := 116) hX dX11_doStep_112 (by decide) ?_
        refine s_putI hX dX11_doStep_116 fl_X11_150 rfl rfl (by omega) rfl rfl ?_
        refine s_aload_n hX dX11_doStep_119 rfl ?_
        refine s_getI (x := (-1)) hX dX11_doStep_120 fl_X11_150 rfl rfl (by omega) (wI_s _ _ _ _) ?_
        refine s_if_ge (tgt := 128) hX dX11_doStep_123 (by decide) (fun q123 => ?_) (fun q123 => ?_)
        · exact absurd q123 (by decide)
        · refine s_iconst (v := nI 1) hX dX11_doStep_126 (by decide) ?_
          refine s_iret hX dX11_doStep_127 rfl rfl ?_
          rw [hD]
          exact ⟨rfl, hfm.put (by decide), hV.kept (wI_a _ _ (by decide)), by rw [wI_s]; rfl⟩
    | some m =>
      have e56 : (σ1 56).1 (plcF pr v s) = nI m := by rw [hp1.2.2.2.1 _ hpl, hm]; rfl
      have hm8 := hk.2.2.2.1 _ m hm
      refine s_aload_n hX dX11_doStep_101 rfl ?_
      refine s_aload_n hX dX11_doStep_102 rfl ?_
      refine s_getR hX dX11_doStep_103 fl_X11_20 rfl rfl (by omega) ?_
      refine s_iload_n hX dX11_doStep_106 rfl ?_
      refine s_iald (x := nI (m)) hX dX11_doStep_107 rfl (by omega) (by omega) (by decide) e56 ?_
      refine s_if_ge_n (tgt := 115) hX dX11_doStep_108 (by decide) (by omega) ?_
      refine s_iload_n hX dX11_doStep_115 rfl ?_
      refine s_putI hX dX11_doStep_116 fl_X11_150 rfl rfl (by omega) rfl rfl ?_
      refine s_aload_n hX dX11_doStep_119 rfl ?_
      refine s_getI (x := nI (plcF pr v s)) hX dX11_doStep_120 fl_X11_150 rfl rfl (by omega) (wI_s _ _ _ _) ?_
      refine s_if_ge_n (tgt := 128) hX dX11_doStep_123 (by decide) (by omega) ?_
      refine s_iconst (v := nI 0) hX dX11_doStep_128 (by decide) ?_
      refine s_istore hX dX11_doStep_129 (Nat.le_of_ble_eq_true rfl) rfl st_8_4 ?_
      refine s_iconst (v := nI 0) hX dX11_doStep_131 (by decide) ?_
      refine s_istore hX dX11_doStep_132 (Nat.le_of_ble_eq_true rfl) rfl st_8_5 ?_
      exact LP m hm m 0 (by omega) _ _ _ (hfm.put (by decide)) (hV.kept (wI_a _ _ (by decide))) (by rw [wI_k _ _ (by decide)]; exact h11) (by rw [wI_k _ _ (by decide)]; exact h10) (wI_s _ _ _ _) 0 rfl
  cases hq : s.2.2 with
  | none =>
    have s65' : (σ 65).1 i = -1 := by rw [s65]; unfold ltI; rw [hq]
    obtain ⟨hw1, hw2⟩ := hs.1 hq
    have hpc : plcF pr v s = v (3 * s.1) * 64 + s.2.1 := by unfold plcF; rw [hq]
    have hu : upF v s = (vset v (3 * s.1 + 2) (if s.2.1 < 2 then s.2.1 + 1 else 0), 0) := by unfold upF; rw [hq]
    have hh : hfF v s = s.1 := by unfold hfF; rw [hq]
    have hw3 := (hv.1 _ hw1).1
    refine s_aload_n hX dX11_doStep_0 rfl ?_
    refine s_getR hX dX11_doStep_1 fl_X11_39 rfl rfl (by omega) ?_
    refine s_iload_n hX dX11_doStep_4 rfl ?_
    refine s_iald (x := nI (s.1)) hX dX11_doStep_5 rfl (by omega) (by omega) (by decide) s62 ?_
    refine s_istore_n hX dX11_doStep_6 (Nat.le_of_ble_eq_true rfl) rfl st_8_2 ?_
    refine s_aload_n hX dX11_doStep_7 rfl ?_
    refine s_getR hX dX11_doStep_8 fl_X11_48 rfl rfl (by omega) ?_
    refine s_iload_n hX dX11_doStep_11 rfl ?_
    refine s_iald (x := (-1)) hX dX11_doStep_12 rfl (by omega) (by omega) (by decide) s65' ?_
    refine s_if_lt (tgt := 40) hX dX11_doStep_13 (by decide) (fun q13 => ?_) (fun q13 => ?_)
    · refine s_aload_n hX dX11_doStep_40 rfl ?_
      refine s_getR hX dX11_doStep_41 fl_X11_30 rfl rfl (by omega) ?_
      refine s_iconst (v := nI 3) hX dX11_doStep_44 (by decide) ?_
      refine s_iload_n hX dX11_doStep_45 rfl ?_
      refine s_imul_n hX dX11_doStep_46 ?_
      refine s_iald (x := nI (v _)) hX dX11_doStep_47 rfl (by omega) (by omega) (by decide) (hN.at0 _ (by omega)) ?_
      refine s_bipush (v := nI 64) hX dX11_doStep_48 (by decide) ?_
      refine s_imul_n hX dX11_doStep_50 ?_
      refine s_aload_n hX dX11_doStep_51 rfl ?_
      refine s_getR hX dX11_doStep_52 fl_X11_42 rfl rfl (by omega) ?_
      refine s_iload_n hX dX11_doStep_55 rfl ?_
      refine s_iald (x := nI (s.2.1)) hX dX11_doStep_56 rfl (by omega) (by omega) (by decide) s63 ?_
      refine s_iadd_n hX dX11_doStep_57 ?_
      refine s_istore_n hX dX11_doStep_58 (Nat.le_of_ble_eq_true rfl) rfl st_8_3 ?_
      refine s_aload_n hX dX11_doStep_59 rfl ?_
      refine s_iload_n hX dX11_doStep_60 rfl ?_
      refine s_putI hX dX11_doStep_61 fl_X11_133 rfl rfl (by omega) rfl rfl ?_
      refine s_aload_n hX dX11_doStep_64 rfl ?_
      refine s_iconst (v := nI 0) hX dX11_doStep_65 (by decide) ?_
      refine s_putI hX dX11_doStep_66 fl_X11_136 rfl rfl (by omega) rfl rfl ?_
      refine s_aload_n hX dX11_doStep_69 rfl ?_
      refine s_getR hX dX11_doStep_70 fl_X11_30 rfl rfl (by omega) ?_
      refine s_iconst (v := nI 3) hX dX11_doStep_73 (by decide) ?_
      refine s_iload_n hX dX11_doStep_74 rfl ?_
      refine s_imul_n hX dX11_doStep_75 ?_
      refine s_iconst (v := nI 2) hX dX11_doStep_76 (by decide) ?_
      refine s_iadd_n hX dX11_doStep_77 ?_
      refine s_aload_n hX dX11_doStep_78 rfl ?_
      refine s_getR hX dX11_doStep_79 fl_X11_42 rfl rfl (by omega) ?_
      refine s_iload_n hX dX11_doStep_82 rfl ?_
      refine s_iald (x := nI (s.2.1)) hX dX11_doStep_83 rfl (by omega) (by omega) (by decide) (by rw [wI_a _ _ (by decide), wI_a _ _ (by decide)]; exact s63) ?_
      refine s_iconst (v := nI 2) hX dX11_doStep_84 (by decide) ?_
      refine s_icmp_ge_n (tgt := 99) hX dX11_doStep_85 (by decide) (by omega) (by omega) (fun q85 => ?_) (fun q85 => ?_)
      · refine s_iconst (v := nI 0) hX dX11_doStep_99 (by decide) ?_
        refine s_iast hX dX11_doStep_100 rfl (by omega) (by omega) (by decide) ?_
        rw [← hpc]
        refine J101 _ _ _ _ _ (((Fr.rf.put (by decide)).put (by decide)).wI (by decide) (by decide)) ?_ (by rw [wI_a _ _ (by decide), wI_k _ _ (by decide), wI_s, hh]) (by rw [wI_a _ _ (by decide), wI_s, hu])
        rw [hu]
        first
          | (rw [if_neg (by omega)]; exact ((hN.kept (wI_a _ _ (by decide))).kept (wI_a _ _ (by decide))).upd)
          | (rw [if_pos (by omega)]; exact ((hN.kept (wI_a _ _ (by decide))).kept (wI_a _ _ (by decide))).upd)
      · refine s_aload_n hX dX11_doStep_88 rfl ?_
        refine s_getR hX dX11_doStep_89 fl_X11_42 rfl rfl (by omega) ?_
        refine s_iload_n hX dX11_doStep_92 rfl ?_
        refine s_iald (x := nI (s.2.1)) hX dX11_doStep_93 rfl (by omega) (by omega) (by decide) (by rw [wI_a _ _ (by decide), wI_a _ _ (by decide)]; exact s63) ?_
        refine s_iconst (v := nI 1) hX dX11_doStep_94 (by decide) ?_
        refine s_iadd_n hX dX11_doStep_95 ?_
        refine s_goto (tgt := 100) hX dX11_doStep_96 (by decide) ?_
        refine s_iast hX dX11_doStep_100 rfl (by omega) (by omega) (by decide) ?_
        rw [← hpc]
        refine J101 _ _ _ _ _ (((Fr.rf.put (by decide)).put (by decide)).wI (by decide) (by decide)) ?_ (by rw [wI_a _ _ (by decide), wI_k _ _ (by decide), wI_s, hh]) (by rw [wI_a _ _ (by decide), wI_s, hu])
        rw [hu]
        first
          | (rw [if_neg (by omega)]; exact ((hN.kept (wI_a _ _ (by decide))).kept (wI_a _ _ (by decide))).upd)
          | (rw [if_pos (by omega)]; exact ((hN.kept (wI_a _ _ (by decide))).kept (wI_a _ _ (by decide))).upd)
    · exact absurd (by decide) q13
  | some q =>
    have s65' : (σ 65).1 i = nI q.2 := by rw [s65]; unfold ltI; rw [hq]
    obtain ⟨hw1, hw2, hw3, hw4, hw5⟩ := hs.2 q hq
    have hpc : plcF pr v s = rowOf pr v q.2 := by unfold plcF; rw [hq]
    have hu : upF v s = (takeL v q.2, v (20 + 5 * q.2)) := by unfold upF; rw [hq]
    have hh : hfF v s = v (19 + 5 * q.2) := by unfold hfF; rw [hq]
    have hq8 : q.2 < 8 := by have := hv.2.2.2.2.1; omega
    refine s_aload_n hX dX11_doStep_0 rfl ?_
    refine s_getR hX dX11_doStep_1 fl_X11_39 rfl rfl (by omega) ?_
    refine s_iload_n hX dX11_doStep_4 rfl ?_
    refine s_iald (x := nI (s.1)) hX dX11_doStep_5 rfl (by omega) (by omega) (by decide) s62 ?_
    refine s_istore_n hX dX11_doStep_6 (Nat.le_of_ble_eq_true rfl) rfl st_8_2 ?_
    refine s_aload_n hX dX11_doStep_7 rfl ?_
    refine s_getR hX dX11_doStep_8 fl_X11_48 rfl rfl (by omega) ?_
    refine s_iload_n hX dX11_doStep_11 rfl ?_
    refine s_iald (x := nI (q.2)) hX dX11_doStep_12 rfl (by omega) (by omega) (by decide) s65' ?_
    refine s_if_lt_n (tgt := 40) hX dX11_doStep_13 (by decide) (by omega) ?_
    refine s_aload_n hX dX11_doStep_16 rfl ?_
    refine s_aload_n hX dX11_doStep_17 rfl ?_
    refine s_getR hX dX11_doStep_18 fl_X11_48 rfl rfl (by omega) ?_
    refine s_iload_n hX dX11_doStep_21 rfl ?_
    refine s_iald (x := nI (q.2)) hX dX11_doStep_22 rfl (by omega) (by omega) (by decide) s65' ?_
    refine s_callVi (as := [_]) hX dX11_doStep_23 mk_X11_rowOfLetter lk_X11_120 (c_X11_rowOfLetter hp hk hN hv q.2 hw5) rfl (by omega) rfl rfl rfl ⟨rfl, rfl⟩ (Nat.le_of_ble_eq_true rfl) (Nat.le_of_ble_eq_true rfl) (Nat.le_of_ble_eq_true rfl) rfl (fun v23 σ23 p23 => ?_)
    obtain ⟨rfl, rfl⟩ := p23
    refine s_istore_n hX dX11_doStep_26 (Nat.le_of_ble_eq_true rfl) rfl st_8_3 ?_
    refine s_aload_n hX dX11_doStep_27 rfl ?_
    refine s_aload_n hX dX11_doStep_28 rfl ?_
    refine s_getR hX dX11_doStep_29 fl_X11_48 rfl rfl (by omega) ?_
    refine s_iload_n hX dX11_doStep_32 rfl ?_
    refine s_iald (x := nI (q.2)) hX dX11_doStep_33 rfl (by omega) (by omega) (by decide) s65' ?_
    refine s_callVv (as := [_]) hX dX11_doStep_34 mk_X11_takeLetter lk_X11_147 (c_X11_takeLetter hN hv q.2 hw5) rfl (by omega) rfl rfl rfl ⟨rfl, rfl⟩ (Nat.le_of_ble_eq_true rfl) (Nat.le_of_ble_eq_true rfl) (Nat.le_of_ble_eq_true rfl) rfl (fun σ34 p34 => ?_)
    obtain ⟨hf2, hV2, h10, h11⟩ := p34
    refine s_goto (tgt := 101) hX dX11_doStep_37 (by decide) ?_
    rw [← hpc]
    exact J101 _ _ _ _ _ hf2 (by rw [hu]; exact hV2) (by rw [hh]; exact h10) (by rw [hu]; exact h11)
theorem ownR_no {pr : Pr} {v : Vc} {p : Nat} (h : v (3 * p + 2) ≠ 0) : ∀ e, ownR pr v p e = []
  | 0 => rfl
  | e + 1 => by
    unfold ownR
    rw [ownR_no h e, if_neg (by omega)]
    rfl
theorem FrN {σ σ1 : Sg} {v : Vc} (hN : Vat σ 59 0 v) (h : Fr 53 σ σ1 [62, 63, 64, 65] [16]) : Vat σ1 59 0 v := hN.fr h (by decide) (by decide)
theorem FrP {σ σ1 : Sg} {pr : Pr} (hp : PrM σ pr) (h : Fr 53 σ σ1 [62, 63, 64, 65] [16]) : PrM σ1 pr := hp.fr h (by decide) (by decide) (by decide) (by decide) (by decide)
set_option maxRecDepth 100000 in
set_option maxHeartbeats 4000000 in
theorem c_X11_findSteps {σ : Sg} {pr : Pr} {v : Vc} (hp : PrM σ pr) (hk : PrOk pr) (hN : Vat σ 59 0 v) (hv : VOk pr v) : Sm 77 mX11_findSteps [.ref 53] σ (qv fun σ2 => StM σ2 (stepsF pr v) ∧ Fr 53 σ σ2 [62, 63, 64, 65] [16]) := by
  refine Sm.of mk_X11_findSteps (Nat.le_of_ble_eq_true rfl) rfl (fun X hX => ?_)
  have hP := hk.1
  have h15 := hv.2.2.2.2.1
  have hlt := hv.2.2.2.2.2.1
  have hlo := hk.2.1
  have I88 : ∀ m i, i + m = v 15 → ∀ σ1 (x2 x3 : Option Value), Fr 53 σ σ1 [62, 63, 64, 65] [16] → StM σ1 (ownsR pr v (pP pr) ++ comR pr v i) → Sw 77 mX11_findSteps X (ZS 77 mX11_findSteps (qv fun σ2 => StM σ2 (stepsF pr v) ∧ Fr 53 σ σ2 [62, 63, 64, 65] [16]) X) 88 [some (.ref 53), some (.int (nI i)), x2, x3] [] σ1 := by
    intro m
    induction m with
    | zero =>
      intro i hi σ1 x2 x3 hf hS
      have hN1 := FrN hN hf
      refine s_iload_n hX dX11_findSteps_88 rfl ?_
      refine s_aload_n hX dX11_findSteps_89 rfl ?_
      refine s_getR hX dX11_findSteps_90 fl_X11_30 rfl rfl (by omega) ?_
      refine s_bipush (v := nI 15) hX dX11_findSteps_93 (by decide) ?_
      refine s_iald (x := nI (v _)) hX dX11_findSteps_95 rfl (by omega) (by omega) (by decide) (hN1.at0 _ (by omega)) ?_
      refine s_icmp_ge_n (tgt := 229) hX dX11_findSteps_96 (by decide) (by omega) (by omega) (fun q96 => ?_) (fun q96 => ?_)
      · refine s_vret hX dX11_findSteps_229 rfl rfl ?_
        refine ⟨?_, hf⟩
        unfold stepsF
        rw [← show i = v 15 by omega]
        exact hS
      · omega
    | succ m ih =>
      intro i hi σ1 x2 x3 hf hS
      have hN1 := FrN hN hf
      have hp1 := FrP hp hf
      have gi := hlt i (by omega)
      have hli := hlo (v (16 + 5 * i))
      have lenl : (ownsR pr v (pP pr) ++ comR pr v i).length < 20 := by
        rw [List.length_append]
        have := ownsR_le pr v (pP pr)
        have := comR_le pr v i
        omega
      have J103 : ∀ d j, j + d = i → Sw 77 mX11_findSteps X (ZS 77 mX11_findSteps (qv fun σ2 => StM σ2 (stepsF pr v) ∧ Fr 53 σ σ2 [62, 63, 64, 65] [16]) X) 103 [some (.ref 53), some (.int (nI i)), some (.int (nI (bhR pr v i j).toNat)), some (.int (nI j))] [] σ1 := by
        intro d
        induction d with
        | zero =>
          intro j hj
          have hb : (bhR pr v i j).toNat ≤ 1 := by cases bhR pr v i j <;> decide
          rw [show j = i by omega] at *
          refine s_iload_n hX dX11_findSteps_103 rfl ?_
          refine s_iload_n hX dX11_findSteps_104 rfl ?_
          refine s_icmp_ge_n (tgt := 182) hX dX11_findSteps_105 (by decide) (by omega) (by omega) (fun q105 => ?_) (fun q105 => ?_)
          · refine s_iload_n hX dX11_findSteps_182 rfl ?_
            refine s_if_ne_n (tgt := 223) hX dX11_findSteps_183 (by decide) (by omega) (fun q183 => ?_) (fun q183 => ?_)
            · refine s_iinc_n (c := 1) hX dX11_findSteps_223 rfl (by decide) rfl st_4_1 ?_
              refine s_goto (tgt := 88) hX dX11_findSteps_226 (by decide) ?_
              have hc : comR pr v (i + 1) = comR pr v i ++ (if bhR pr v i i = false ∧ wtF pr (rowOf pr v i) = false then [(v (18 + 5 * i), 3 + v (16 + 5 * i), some (v (17 + 5 * i), i))] else []) := rfl
              first
                | (have hb1 : bhR pr v i i = true := by revert q183; cases bhR pr v i i <;> simp
                   refine ih (i + 1) (by omega) _ _ _ hf ?_
                   rw [hc, if_neg (by rw [hb1]; simp), List.append_nil]
                   exact hS)
                | (have hb1 : wtF pr (rowOf pr v i) = true := by revert q195; cases wtF pr (rowOf pr v i) <;> simp [bI, nI_0]
                   refine ih (i + 1) (by omega) _ _ _ hf ?_
                   rw [hc, if_neg (by rw [hb1]; simp), List.append_nil]
                   exact hS)
                | (have hb1 : bhR pr v i i = false := by revert q183; cases bhR pr v i i <;> simp
                   have hb2 : wtF pr (rowOf pr v i) = false := bI_0.mp (Decidable.of_not_not q195)
                   refine ih (i + 1) (by omega) _ _ _ (hf.trans hf2) ?_
                   rw [hc, if_pos ⟨hb1, hb2⟩, ← List.append_assoc]
                   exact hS2)
            · refine s_aload_n hX dX11_findSteps_186 rfl ?_
              refine s_aload_n hX dX11_findSteps_187 rfl ?_
              refine s_iload_n hX dX11_findSteps_188 rfl ?_
              refine s_callVi (as := [_]) hX dX11_findSteps_189 mk_X11_rowOfLetter lk_X11_120 (c_X11_rowOfLetter hp1 hk hN1 hv i (by omega)) rfl (by omega) rfl rfl rfl ⟨rfl, rfl⟩ (Nat.le_of_ble_eq_true rfl) (Nat.le_of_ble_eq_true rfl) (Nat.le_of_ble_eq_true rfl) rfl (fun v189 σ189 p189 => ?_)
              obtain ⟨rfl, rfl⟩ := p189
              refine s_callVi (as := [_]) hX dX11_findSteps_192 mk_X11_waits lk_X11_112 (c_X11_waits hp1 hk _ (rowOf_lt hv (by omega))) rfl (by omega) rfl rfl rfl ⟨rfl, rfl⟩ (Nat.le_of_ble_eq_true rfl) (Nat.le_of_ble_eq_true rfl) (Nat.le_of_ble_eq_true rfl) rfl (fun v192 σ192 p192 => ?_)
              obtain ⟨rfl, rfl⟩ := p192
              refine s_if_ne (tgt := 223) hX dX11_findSteps_195 (by decide) (fun q195 => ?_) (fun q195 => ?_)
              · refine s_iinc_n (c := 1) hX dX11_findSteps_223 rfl (by decide) rfl st_4_1 ?_
                refine s_goto (tgt := 88) hX dX11_findSteps_226 (by decide) ?_
                have hc : comR pr v (i + 1) = comR pr v i ++ (if bhR pr v i i = false ∧ wtF pr (rowOf pr v i) = false then [(v (18 + 5 * i), 3 + v (16 + 5 * i), some (v (17 + 5 * i), i))] else []) := rfl
                first
                  | (have hb1 : bhR pr v i i = true := by revert q183; cases bhR pr v i i <;> simp
                     refine ih (i + 1) (by omega) _ _ _ hf ?_
                     rw [hc, if_neg (by rw [hb1]; simp), List.append_nil]
                     exact hS)
                  | (have hb1 : wtF pr (rowOf pr v i) = true := by revert q195; cases wtF pr (rowOf pr v i) <;> simp [bI, nI_0]
                     refine ih (i + 1) (by omega) _ _ _ hf ?_
                     rw [hc, if_neg (by rw [hb1]; simp), List.append_nil]
                     exact hS)
                  | (have hb1 : bhR pr v i i = false := by revert q183; cases bhR pr v i i <;> simp
                     have hb2 : wtF pr (rowOf pr v i) = false := bI_0.mp (Decidable.of_not_not q195)
                     refine ih (i + 1) (by omega) _ _ _ (hf.trans hf2) ?_
                     rw [hc, if_pos ⟨hb1, hb2⟩, ← List.append_assoc]
                     exact hS2)
              · refine s_aload_n hX dX11_findSteps_198 rfl ?_
                refine s_aload_n hX dX11_findSteps_199 rfl ?_
                refine s_iload_n hX dX11_findSteps_200 rfl ?_
                refine s_iconst (v := nI 2) hX dX11_findSteps_201 (by decide) ?_
                refine s_callVi (as := [_, _]) hX dX11_findSteps_202 mk_X11_letterAt lk_X11_105 (c_X11_letterAt hN1 i 2 (by omega)) rfl (by omega) rfl rfl rfl ⟨rfl, rfl⟩ (Nat.le_of_ble_eq_true rfl) (Nat.le_of_ble_eq_true rfl) (Nat.le_of_ble_eq_true rfl) rfl (fun v202 σ202 p202 => ?_)
                obtain ⟨rfl, rfl⟩ := p202
                rw [show 16 + 5 * i + 2 = 18 + 5 * i by omega]
                refine s_iconst (v := nI 3) hX dX11_findSteps_205 (by decide) ?_
                refine s_aload_n hX dX11_findSteps_206 rfl ?_
                refine s_iload_n hX dX11_findSteps_207 rfl ?_
                refine s_iconst (v := nI 0) hX dX11_findSteps_208 (by decide) ?_
                refine s_callVi (as := [_, _]) hX dX11_findSteps_209 mk_X11_letterAt lk_X11_105 (c_X11_letterAt hN1 i 0 (by omega)) rfl (by omega) rfl rfl rfl ⟨rfl, rfl⟩ (Nat.le_of_ble_eq_true rfl) (Nat.le_of_ble_eq_true rfl) (Nat.le_of_ble_eq_true rfl) rfl (fun v209 σ209 p209 => ?_)
                obtain ⟨rfl, rfl⟩ := p209
                rw [show 16 + 5 * i + 0 = 16 + 5 * i from rfl]
                refine s_iadd_n hX dX11_findSteps_212 ?_
                refine s_aload_n hX dX11_findSteps_213 rfl ?_
                refine s_iload_n hX dX11_findSteps_214 rfl ?_
                refine s_iconst (v := nI 1) hX dX11_findSteps_215 (by decide) ?_
                refine s_callVi (as := [_, _]) hX dX11_findSteps_216 mk_X11_letterAt lk_X11_105 (c_X11_letterAt hN1 i 1 (by omega)) rfl (by omega) rfl rfl rfl ⟨rfl, rfl⟩ (Nat.le_of_ble_eq_true rfl) (Nat.le_of_ble_eq_true rfl) (Nat.le_of_ble_eq_true rfl) rfl (fun v216 σ216 p216 => ?_)
                obtain ⟨rfl, rfl⟩ := p216
                rw [show 16 + 5 * i + 1 = 17 + 5 * i by omega]
                refine s_iload_n hX dX11_findSteps_219 rfl ?_
                refine s_callVv (as := [_, _, _, _]) hX dX11_findSteps_220 mk_X11_addStep lk_X11_116 (c_X11_addStep hS lenl (v (18 + 5 * i), 3 + v (16 + 5 * i), some (v (17 + 5 * i), i))) rfl (by omega) rfl rfl rfl ⟨rfl, rfl⟩ (Nat.le_of_ble_eq_true rfl) (Nat.le_of_ble_eq_true rfl) (Nat.le_of_ble_eq_true rfl) rfl (fun σ220 p220 => ?_)
                obtain ⟨hS2, hf2⟩ := p220
                refine s_iinc_n (c := 1) hX dX11_findSteps_223 rfl (by decide) rfl st_4_1 ?_
                refine s_goto (tgt := 88) hX dX11_findSteps_226 (by decide) ?_
                have hc : comR pr v (i + 1) = comR pr v i ++ (if bhR pr v i i = false ∧ wtF pr (rowOf pr v i) = false then [(v (18 + 5 * i), 3 + v (16 + 5 * i), some (v (17 + 5 * i), i))] else []) := rfl
                first
                  | (have hb1 : bhR pr v i i = true := by revert q183; cases bhR pr v i i <;> simp
                     refine ih (i + 1) (by omega) _ _ _ hf ?_
                     rw [hc, if_neg (by rw [hb1]; simp), List.append_nil]
                     exact hS)
                  | (have hb1 : wtF pr (rowOf pr v i) = true := by revert q195; cases wtF pr (rowOf pr v i) <;> simp [bI, nI_0]
                     refine ih (i + 1) (by omega) _ _ _ hf ?_
                     rw [hc, if_neg (by rw [hb1]; simp), List.append_nil]
                     exact hS)
                  | (have hb1 : bhR pr v i i = false := by revert q183; cases bhR pr v i i <;> simp
                     have hb2 : wtF pr (rowOf pr v i) = false := bI_0.mp (Decidable.of_not_not q195)
                     refine ih (i + 1) (by omega) _ _ _ (hf.trans hf2) ?_
                     rw [hc, if_pos ⟨hb1, hb2⟩, ← List.append_assoc]
                     exact hS2)
          · omega
        | succ d ihd =>
          intro j hj
          have hb : (bhR pr v i j).toNat ≤ 1 := by cases bhR pr v i j <;> decide
          have gj := hlt j (by omega)
          have hlj := hlo (v (16 + 5 * j))
          have hs : bhR pr v i (j + 1) = (bhR pr v i j || bhT pr v i j) := rfl
          refine s_iload_n hX dX11_findSteps_103 rfl ?_
          refine s_iload_n hX dX11_findSteps_104 rfl ?_
          refine s_icmp_ge_n (tgt := 182) hX dX11_findSteps_105 (by decide) (by omega) (by omega) (fun q105 => ?_) (fun q105 => ?_)
          · omega
          · refine s_iload_n hX dX11_findSteps_108 rfl ?_
            refine s_if_ne_n (tgt := 170) hX dX11_findSteps_109 (by decide) (by omega) (fun q109 => ?_) (fun q109 => ?_)
            · refine s_iconst (v := nI 1) hX dX11_findSteps_170 (by decide) ?_
              refine s_goto (tgt := 175) hX dX11_findSteps_171 (by decide) ?_
              refine s_istore_n hX dX11_findSteps_175 (Nat.le_of_ble_eq_true rfl) rfl st_4_2 ?_
              refine s_iinc_n (c := 1) hX dX11_findSteps_176 rfl (by decide) rfl st_4_3 ?_
              refine s_goto (tgt := 103) hX dX11_findSteps_179 (by decide) ?_
              have hx := ihd (j + 1) (by omega)
              rw [hs] at hx
              first
                | (have e1 : bhR pr v i j = true := by revert q109; cases bhR pr v i j <;> simp
                   rw [e1, Bool.true_or] at hx
                   exact hx)
                | (have e1 : bhR pr v i j = false := by revert q109; cases bhR pr v i j <;> simp
                   have e2 : bhT pr v i j = true := by unfold bhT; simp only [decide_eq_true_eq]; exact ⟨q123, q137, q152, q167⟩
                   rw [e1, e2] at hx
                   exact hx)
                | (have e1 : bhR pr v i j = false := by revert q109; cases bhR pr v i j <;> simp
                   have e2 : bhT pr v i j = false := by unfold bhT; simp only [decide_eq_false_iff_not]; omega
                   rw [e1, e2] at hx
                   exact hx)
            · refine s_aload_n hX dX11_findSteps_112 rfl ?_
              refine s_getR hX dX11_findSteps_113 fl_X11_13 rfl rfl (by omega) ?_
              refine s_aload_n hX dX11_findSteps_116 rfl ?_
              refine s_iload_n hX dX11_findSteps_117 rfl ?_
              refine s_iconst (v := nI 0) hX dX11_findSteps_118 (by decide) ?_
              refine s_callVi (as := [_, _]) hX dX11_findSteps_119 mk_X11_letterAt lk_X11_105 (c_X11_letterAt hN1 i 0 (by omega)) rfl (by omega) rfl rfl rfl ⟨rfl, rfl⟩ (Nat.le_of_ble_eq_true rfl) (Nat.le_of_ble_eq_true rfl) (Nat.le_of_ble_eq_true rfl) rfl (fun v119 σ119 p119 => ?_)
              obtain ⟨rfl, rfl⟩ := p119
              rw [show 16 + 5 * i + 0 = 16 + 5 * i from rfl]
              refine s_iald (x := nI (pLo pr _)) hX dX11_findSteps_122 rfl (by omega) (by omega) (by decide) (hp1.2.1 _ gi.1) ?_
              refine s_if_ne_n (tgt := 174) hX dX11_findSteps_123 (by decide) (by omega) (fun q123 => ?_) (fun q123 => ?_)
              · refine s_iconst (v := nI 0) hX dX11_findSteps_174 (by decide) ?_
                refine s_istore_n hX dX11_findSteps_175 (Nat.le_of_ble_eq_true rfl) rfl st_4_2 ?_
                refine s_iinc_n (c := 1) hX dX11_findSteps_176 rfl (by decide) rfl st_4_3 ?_
                refine s_goto (tgt := 103) hX dX11_findSteps_179 (by decide) ?_
                have hx := ihd (j + 1) (by omega)
                rw [hs] at hx
                first
                  | (have e1 : bhR pr v i j = true := by revert q109; cases bhR pr v i j <;> simp
                     rw [e1, Bool.true_or] at hx
                     exact hx)
                  | (have e1 : bhR pr v i j = false := by revert q109; cases bhR pr v i j <;> simp
                     have e2 : bhT pr v i j = true := by unfold bhT; simp only [decide_eq_true_eq]; exact ⟨q123, q137, q152, q167⟩
                     rw [e1, e2] at hx
                     exact hx)
                  | (have e1 : bhR pr v i j = false := by revert q109; cases bhR pr v i j <;> simp
                     have e2 : bhT pr v i j = false := by unfold bhT; simp only [decide_eq_false_iff_not]; omega
                     rw [e1, e2] at hx
                     exact hx)
              · refine s_aload_n hX dX11_findSteps_126 rfl ?_
                refine s_getR hX dX11_findSteps_127 fl_X11_13 rfl rfl (by omega) ?_
                refine s_aload_n hX dX11_findSteps_130 rfl ?_
                refine s_iload_n hX dX11_findSteps_131 rfl ?_
                refine s_iconst (v := nI 0) hX dX11_findSteps_132 (by decide) ?_
                refine s_callVi (as := [_, _]) hX dX11_findSteps_133 mk_X11_letterAt lk_X11_105 (c_X11_letterAt hN1 j 0 (by omega)) rfl (by omega) rfl rfl rfl ⟨rfl, rfl⟩ (Nat.le_of_ble_eq_true rfl) (Nat.le_of_ble_eq_true rfl) (Nat.le_of_ble_eq_true rfl) rfl (fun v133 σ133 p133 => ?_)
                obtain ⟨rfl, rfl⟩ := p133
                rw [show 16 + 5 * j + 0 = 16 + 5 * j from rfl]
                refine s_iald (x := nI (pLo pr _)) hX dX11_findSteps_136 rfl (by omega) (by omega) (by decide) (hp1.2.1 _ gj.1) ?_
                refine s_if_ne_n (tgt := 174) hX dX11_findSteps_137 (by decide) (by omega) (fun q137 => ?_) (fun q137 => ?_)
                · refine s_iconst (v := nI 0) hX dX11_findSteps_174 (by decide) ?_
                  refine s_istore_n hX dX11_findSteps_175 (Nat.le_of_ble_eq_true rfl) rfl st_4_2 ?_
                  refine s_iinc_n (c := 1) hX dX11_findSteps_176 rfl (by decide) rfl st_4_3 ?_
                  refine s_goto (tgt := 103) hX dX11_findSteps_179 (by decide) ?_
                  have hx := ihd (j + 1) (by omega)
                  rw [hs] at hx
                  first
                    | (have e1 : bhR pr v i j = true := by revert q109; cases bhR pr v i j <;> simp
                       rw [e1, Bool.true_or] at hx
                       exact hx)
                    | (have e1 : bhR pr v i j = false := by revert q109; cases bhR pr v i j <;> simp
                       have e2 : bhT pr v i j = true := by unfold bhT; simp only [decide_eq_true_eq]; exact ⟨q123, q137, q152, q167⟩
                       rw [e1, e2] at hx
                       exact hx)
                    | (have e1 : bhR pr v i j = false := by revert q109; cases bhR pr v i j <;> simp
                       have e2 : bhT pr v i j = false := by unfold bhT; simp only [decide_eq_false_iff_not]; omega
                       rw [e1, e2] at hx
                       exact hx)
                · refine s_aload_n hX dX11_findSteps_140 rfl ?_
                  refine s_iload_n hX dX11_findSteps_141 rfl ?_
                  refine s_iconst (v := nI 1) hX dX11_findSteps_142 (by decide) ?_
                  refine s_callVi (as := [_, _]) hX dX11_findSteps_143 mk_X11_letterAt lk_X11_105 (c_X11_letterAt hN1 i 1 (by omega)) rfl (by omega) rfl rfl rfl ⟨rfl, rfl⟩ (Nat.le_of_ble_eq_true rfl) (Nat.le_of_ble_eq_true rfl) (Nat.le_of_ble_eq_true rfl) rfl (fun v143 σ143 p143 => ?_)
                  obtain ⟨rfl, rfl⟩ := p143
                  rw [show 16 + 5 * i + 1 = 17 + 5 * i by omega]
                  refine s_aload_n hX dX11_findSteps_146 rfl ?_
                  refine s_iload_n hX dX11_findSteps_147 rfl ?_
                  refine s_iconst (v := nI 1) hX dX11_findSteps_148 (by decide) ?_
                  refine s_callVi (as := [_, _]) hX dX11_findSteps_149 mk_X11_letterAt lk_X11_105 (c_X11_letterAt hN1 j 1 (by omega)) rfl (by omega) rfl rfl rfl ⟨rfl, rfl⟩ (Nat.le_of_ble_eq_true rfl) (Nat.le_of_ble_eq_true rfl) (Nat.le_of_ble_eq_true rfl) rfl (fun v149 σ149 p149 => ?_)
                  obtain ⟨rfl, rfl⟩ := p149
                  rw [show 16 + 5 * j + 1 = 17 + 5 * j by omega]
                  refine s_icmp_ne_n (tgt := 174) hX dX11_findSteps_152 (by decide) (by omega) (by omega) (fun q152 => ?_) (fun q152 => ?_)
                  · refine s_iconst (v := nI 0) hX dX11_findSteps_174 (by decide) ?_
                    refine s_istore_n hX dX11_findSteps_175 (Nat.le_of_ble_eq_true rfl) rfl st_4_2 ?_
                    refine s_iinc_n (c := 1) hX dX11_findSteps_176 rfl (by decide) rfl st_4_3 ?_
                    refine s_goto (tgt := 103) hX dX11_findSteps_179 (by decide) ?_
                    have hx := ihd (j + 1) (by omega)
                    rw [hs] at hx
                    first
                      | (have e1 : bhR pr v i j = true := by revert q109; cases bhR pr v i j <;> simp
                         rw [e1, Bool.true_or] at hx
                         exact hx)
                      | (have e1 : bhR pr v i j = false := by revert q109; cases bhR pr v i j <;> simp
                         have e2 : bhT pr v i j = true := by unfold bhT; simp only [decide_eq_true_eq]; exact ⟨q123, q137, q152, q167⟩
                         rw [e1, e2] at hx
                         exact hx)
                      | (have e1 : bhR pr v i j = false := by revert q109; cases bhR pr v i j <;> simp
                         have e2 : bhT pr v i j = false := by unfold bhT; simp only [decide_eq_false_iff_not]; omega
                         rw [e1, e2] at hx
                         exact hx)
                  · refine s_aload_n hX dX11_findSteps_155 rfl ?_
                    refine s_iload_n hX dX11_findSteps_156 rfl ?_
                    refine s_iconst (v := nI 2) hX dX11_findSteps_157 (by decide) ?_
                    refine s_callVi (as := [_, _]) hX dX11_findSteps_158 mk_X11_letterAt lk_X11_105 (c_X11_letterAt hN1 i 2 (by omega)) rfl (by omega) rfl rfl rfl ⟨rfl, rfl⟩ (Nat.le_of_ble_eq_true rfl) (Nat.le_of_ble_eq_true rfl) (Nat.le_of_ble_eq_true rfl) rfl (fun v158 σ158 p158 => ?_)
                    obtain ⟨rfl, rfl⟩ := p158
                    rw [show 16 + 5 * i + 2 = 18 + 5 * i by omega]
                    refine s_aload_n hX dX11_findSteps_161 rfl ?_
                    refine s_iload_n hX dX11_findSteps_162 rfl ?_
                    refine s_iconst (v := nI 2) hX dX11_findSteps_163 (by decide) ?_
                    refine s_callVi (as := [_, _]) hX dX11_findSteps_164 mk_X11_letterAt lk_X11_105 (c_X11_letterAt hN1 j 2 (by omega)) rfl (by omega) rfl rfl rfl ⟨rfl, rfl⟩ (Nat.le_of_ble_eq_true rfl) (Nat.le_of_ble_eq_true rfl) (Nat.le_of_ble_eq_true rfl) rfl (fun v164 σ164 p164 => ?_)
                    obtain ⟨rfl, rfl⟩ := p164
                    rw [show 16 + 5 * j + 2 = 18 + 5 * j by omega]
                    refine s_icmp_ne_n (tgt := 174) hX dX11_findSteps_167 (by decide) (by omega) (by omega) (fun q167 => ?_) (fun q167 => ?_)
                    · refine s_iconst (v := nI 0) hX dX11_findSteps_174 (by decide) ?_
                      refine s_istore_n hX dX11_findSteps_175 (Nat.le_of_ble_eq_true rfl) rfl st_4_2 ?_
                      refine s_iinc_n (c := 1) hX dX11_findSteps_176 rfl (by decide) rfl st_4_3 ?_
                      refine s_goto (tgt := 103) hX dX11_findSteps_179 (by decide) ?_
                      have hx := ihd (j + 1) (by omega)
                      rw [hs] at hx
                      first
                        | (have e1 : bhR pr v i j = true := by revert q109; cases bhR pr v i j <;> simp
                           rw [e1, Bool.true_or] at hx
                           exact hx)
                        | (have e1 : bhR pr v i j = false := by revert q109; cases bhR pr v i j <;> simp
                           have e2 : bhT pr v i j = true := by unfold bhT; simp only [decide_eq_true_eq]; exact ⟨q123, q137, q152, q167⟩
                           rw [e1, e2] at hx
                           exact hx)
                        | (have e1 : bhR pr v i j = false := by revert q109; cases bhR pr v i j <;> simp
                           have e2 : bhT pr v i j = false := by unfold bhT; simp only [decide_eq_false_iff_not]; omega
                           rw [e1, e2] at hx
                           exact hx)
                    · refine s_iconst (v := nI 1) hX dX11_findSteps_170 (by decide) ?_
                      refine s_goto (tgt := 175) hX dX11_findSteps_171 (by decide) ?_
                      refine s_istore_n hX dX11_findSteps_175 (Nat.le_of_ble_eq_true rfl) rfl st_4_2 ?_
                      refine s_iinc_n (c := 1) hX dX11_findSteps_176 rfl (by decide) rfl st_4_3 ?_
                      refine s_goto (tgt := 103) hX dX11_findSteps_179 (by decide) ?_
                      have hx := ihd (j + 1) (by omega)
                      rw [hs] at hx
                      first
                        | (have e1 : bhR pr v i j = true := by revert q109; cases bhR pr v i j <;> simp
                           rw [e1, Bool.true_or] at hx
                           exact hx)
                        | (have e1 : bhR pr v i j = false := by revert q109; cases bhR pr v i j <;> simp
                           have e2 : bhT pr v i j = true := by unfold bhT; simp only [decide_eq_true_eq]; exact ⟨q123, q137, q152, q167⟩
                           rw [e1, e2] at hx
                           exact hx)
                        | (have e1 : bhR pr v i j = false := by revert q109; cases bhR pr v i j <;> simp
                           have e2 : bhT pr v i j = false := by unfold bhT; simp only [decide_eq_false_iff_not]; omega
                           rw [e1, e2] at hx
                           exact hx)
      refine s_iload_n hX dX11_findSteps_88 rfl ?_
      refine s_aload_n hX dX11_findSteps_89 rfl ?_
      refine s_getR hX dX11_findSteps_90 fl_X11_30 rfl rfl (by omega) ?_
      refine s_bipush (v := nI 15) hX dX11_findSteps_93 (by decide) ?_
      refine s_iald (x := nI (v _)) hX dX11_findSteps_95 rfl (by omega) (by omega) (by decide) (hN1.at0 _ (by omega)) ?_
      refine s_icmp_ge_n (tgt := 229) hX dX11_findSteps_96 (by decide) (by omega) (by omega) (fun q96 => ?_) (fun q96 => ?_)
      · omega
      · refine s_iconst (v := nI 0) hX dX11_findSteps_99 (by decide) ?_
        refine s_istore_n hX dX11_findSteps_100 (Nat.le_of_ble_eq_true rfl) rfl st_4_2 ?_
        refine s_iconst (v := nI 0) hX dX11_findSteps_101 (by decide) ?_
        refine s_istore_n hX dX11_findSteps_102 (Nat.le_of_ble_eq_true rfl) rfl st_4_3 ?_
        exact J103 i 0 (by omega)
  have I7 : ∀ m p, p + m = pP pr → ∀ σ1 (x2 x3 : Option Value), Fr 53 σ σ1 [62, 63, 64, 65] [16] → StM σ1 (ownsR pr v p) → Sw 77 mX11_findSteps X (ZS 77 mX11_findSteps (qv fun σ2 => StM σ2 (stepsF pr v) ∧ Fr 53 σ σ2 [62, 63, 64, 65] [16]) X) 7 [some (.ref 53), some (.int (nI p)), x2, x3] [] σ1 := by
    intro m
    induction m with
    | zero =>
      intro p hpm σ1 x2 x3 hf hS
      have hp1 := FrP hp hf
      refine s_iload_n hX dX11_findSteps_7 rfl ?_
      refine s_aload_n hX dX11_findSteps_8 rfl ?_
      refine s_getI (x := nI (pP pr)) hX dX11_findSteps_9 fl_X11_7 rfl rfl (by omega) hp1.1 ?_
      refine s_icmp_ge_n (tgt := 86) hX dX11_findSteps_12 (by decide) (by omega) (by omega) (fun q12 => ?_) (fun q12 => ?_)
      · refine s_iconst (v := nI 0) hX dX11_findSteps_86 (by decide) ?_
        refine s_istore_n hX dX11_findSteps_87 (Nat.le_of_ble_eq_true rfl) rfl st_4_1 ?_
        refine I88 (v 15) 0 (by omega) _ _ _ hf ?_
        rw [← show p = pP pr by omega]
        show StM σ1 (ownsR pr v p ++ [])
        rw [List.append_nil]
        exact hS
      · omega
    | succ m ih =>
      intro p hpm σ1 x2 x3 hf hS
      have hp0 := FrP hp hf
      have gp := hv.1 p (by omega)
      have E17 : ∀ d e, e + d = 3 → ∀ σ2 (x3 : Option Value), Fr 53 σ σ2 [62, 63, 64, 65] [16] → StM σ2 (ownsR pr v p ++ ownR pr v p e) → Sw 77 mX11_findSteps X (ZS 77 mX11_findSteps (qv fun σ2 => StM σ2 (stepsF pr v) ∧ Fr 53 σ σ2 [62, 63, 64, 65] [16]) X) 17 [some (.ref 53), some (.int (nI p)), some (.int (nI e)), x3] [] σ2 := by
        intro d
        induction d with
        | zero =>
          intro e he σ2 x3 hf hS
          refine s_iload_n hX dX11_findSteps_17 rfl ?_
          refine s_iconst (v := nI 3) hX dX11_findSteps_18 (by decide) ?_
          refine s_icmp_ge_n (tgt := 80) hX dX11_findSteps_19 (by decide) (by omega) (by omega) (fun q19 => ?_) (fun q19 => ?_)
          · refine s_iinc_n (c := 1) hX dX11_findSteps_80 rfl (by decide) rfl st_4_1 ?_
            refine s_goto (tgt := 7) hX dX11_findSteps_83 (by decide) ?_
            refine ih (p + 1) (by omega) _ _ _ hf ?_
            show StM σ2 (ownsR pr v p ++ ownR pr v p 3)
            rw [← show e = 3 by omega]
            exact hS
          · omega
        | succ d ihd =>
          intro e he σ2 x3 hf hS
          have hN1 := FrN hN hf
          have hp1 := FrP hp hf
          have lenl : (ownsR pr v p ++ ownR pr v p e).length < 20 := by
            rw [List.length_append]
            have := ownsR_le pr v p
            have := ownR_le pr v p e
            omega
          have hc : ownR pr v p (e + 1) = ownR pr v p e ++ (if v (3 * p + 2) = 0 ∧ (pAm pr (v (3 * p) * 64 + e)).isSome = true ∧ wtF pr (v (3 * p) * 64 + e) = false then [(p, e, none)] else []) := rfl
          have e56 := hp1.2.2.2.1 (v (3 * p) * 64 + e) (by omega)
          cases hm : pAm pr (v (3 * p) * 64 + e) with
          | none =>
            rw [hm] at e56 hc
            refine s_iload_n hX dX11_findSteps_17 rfl ?_
            refine s_iconst (v := nI 3) hX dX11_findSteps_18 (by decide) ?_
            refine s_icmp_ge_n (tgt := 80) hX dX11_findSteps_19 (by decide) (by omega) (by omega) (fun q19 => ?_) (fun q19 => ?_)
            · omega
            · refine s_aload_n hX dX11_findSteps_22 rfl ?_
              refine s_getR hX dX11_findSteps_23 fl_X11_30 rfl rfl (by omega) ?_
              refine s_iconst (v := nI 3) hX dX11_findSteps_26 (by decide) ?_
              refine s_iload_n hX dX11_findSteps_27 rfl ?_
              refine s_imul_n hX dX11_findSteps_28 ?_
              refine s_iconst (v := nI 2) hX dX11_findSteps_29 (by decide) ?_
              refine s_iadd_n hX dX11_findSteps_30 ?_
              refine s_iald (x := nI (v _)) hX dX11_findSteps_31 rfl (by omega) (by omega) (by decide) (hN1.at0 _ (by omega)) ?_
              refine s_if_ne_n (tgt := 80) hX dX11_findSteps_32 (by decide) (by omega) (fun q32 => ?_) (fun q32 => ?_)
              · refine s_iinc_n (c := 1) hX dX11_findSteps_80 rfl (by decide) rfl st_4_1 ?_
                refine s_goto (tgt := 7) hX dX11_findSteps_83 (by decide) ?_
                refine ih (p + 1) (by omega) _ _ _ hf ?_
                show StM σ2 (ownsR pr v p ++ ownR pr v p 3)
                rw [ownR_no q32] at hS ⊢
                exact hS
              · refine s_aload_n hX dX11_findSteps_35 rfl ?_
                refine s_getR hX dX11_findSteps_36 fl_X11_30 rfl rfl (by omega) ?_
                refine s_iconst (v := nI 3) hX dX11_findSteps_39 (by decide) ?_
                refine s_iload_n hX dX11_findSteps_40 rfl ?_
                refine s_imul_n hX dX11_findSteps_41 ?_
                refine s_iald (x := nI (v _)) hX dX11_findSteps_42 rfl (by omega) (by omega) (by decide) (hN1.at0 _ (by omega)) ?_
                refine s_bipush (v := nI 64) hX dX11_findSteps_43 (by decide) ?_
                refine s_imul_n hX dX11_findSteps_45 ?_
                refine s_iload_n hX dX11_findSteps_46 rfl ?_
                refine s_iadd_n hX dX11_findSteps_47 ?_
                refine s_istore_n hX dX11_findSteps_48 (Nat.le_of_ble_eq_true rfl) rfl st_4_3 ?_
                refine s_aload_n hX dX11_findSteps_49 rfl ?_
                refine s_getR hX dX11_findSteps_50 fl_X11_20 rfl rfl (by omega) ?_
                refine s_iload_n hX dX11_findSteps_53 rfl ?_
                refine s_iald (x := (-1)) hX dX11_findSteps_54 rfl (by omega) (by omega) (by decide) e56 ?_
                refine s_if_lt (tgt := 74) hX dX11_findSteps_55 (by decide) (fun q55 => ?_) (fun q55 => ?_)
                · refine s_iinc_n (c := 1) hX dX11_findSteps_74 rfl (by decide) rfl st_4_2 ?_
                  refine s_goto (tgt := 17) hX dX11_findSteps_77 (by decide) ?_
                  refine ihd (e + 1) (by omega) _ _ hf ?_
                  rw [hc, if_neg (by simp), List.append_nil]
                  exact hS
                · exact absurd (by decide) q55
          | some mm =>
            have hm8 := hk.2.2.2.1 _ mm hm
            rw [hm] at e56 hc
            refine s_iload_n hX dX11_findSteps_17 rfl ?_
            refine s_iconst (v := nI 3) hX dX11_findSteps_18 (by decide) ?_
            refine s_icmp_ge_n (tgt := 80) hX dX11_findSteps_19 (by decide) (by omega) (by omega) (fun q19 => ?_) (fun q19 => ?_)
            · omega
            · refine s_aload_n hX dX11_findSteps_22 rfl ?_
              refine s_getR hX dX11_findSteps_23 fl_X11_30 rfl rfl (by omega) ?_
              refine s_iconst (v := nI 3) hX dX11_findSteps_26 (by decide) ?_
              refine s_iload_n hX dX11_findSteps_27 rfl ?_
              refine s_imul_n hX dX11_findSteps_28 ?_
              refine s_iconst (v := nI 2) hX dX11_findSteps_29 (by decide) ?_
              refine s_iadd_n hX dX11_findSteps_30 ?_
              refine s_iald (x := nI (v _)) hX dX11_findSteps_31 rfl (by omega) (by omega) (by decide) (hN1.at0 _ (by omega)) ?_
              refine s_if_ne_n (tgt := 80) hX dX11_findSteps_32 (by decide) (by omega) (fun q32 => ?_) (fun q32 => ?_)
              · refine s_iinc_n (c := 1) hX dX11_findSteps_80 rfl (by decide) rfl st_4_1 ?_
                refine s_goto (tgt := 7) hX dX11_findSteps_83 (by decide) ?_
                refine ih (p + 1) (by omega) _ _ _ hf ?_
                show StM σ2 (ownsR pr v p ++ ownR pr v p 3)
                rw [ownR_no q32] at hS ⊢
                exact hS
              · refine s_aload_n hX dX11_findSteps_35 rfl ?_
                refine s_getR hX dX11_findSteps_36 fl_X11_30 rfl rfl (by omega) ?_
                refine s_iconst (v := nI 3) hX dX11_findSteps_39 (by decide) ?_
                refine s_iload_n hX dX11_findSteps_40 rfl ?_
                refine s_imul_n hX dX11_findSteps_41 ?_
                refine s_iald (x := nI (v _)) hX dX11_findSteps_42 rfl (by omega) (by omega) (by decide) (hN1.at0 _ (by omega)) ?_
                refine s_bipush (v := nI 64) hX dX11_findSteps_43 (by decide) ?_
                refine s_imul_n hX dX11_findSteps_45 ?_
                refine s_iload_n hX dX11_findSteps_46 rfl ?_
                refine s_iadd_n hX dX11_findSteps_47 ?_
                refine s_istore_n hX dX11_findSteps_48 (Nat.le_of_ble_eq_true rfl) rfl st_4_3 ?_
                refine s_aload_n hX dX11_findSteps_49 rfl ?_
                refine s_getR hX dX11_findSteps_50 fl_X11_20 rfl rfl (by omega) ?_
                refine s_iload_n hX dX11_findSteps_53 rfl ?_
                refine s_iald (x := nI (mm)) hX dX11_findSteps_54 rfl (by omega) (by omega) (by decide) e56 ?_
                refine s_if_lt_n (tgt := 74) hX dX11_findSteps_55 (by decide) (by omega) ?_
                refine s_aload_n hX dX11_findSteps_58 rfl ?_
                refine s_iload_n hX dX11_findSteps_59 rfl ?_
                refine s_callVi (as := [_]) hX dX11_findSteps_60 mk_X11_waits lk_X11_112 (c_X11_waits hp1 hk _ (by omega)) rfl (by omega) rfl rfl rfl ⟨rfl, rfl⟩ (Nat.le_of_ble_eq_true rfl) (Nat.le_of_ble_eq_true rfl) (Nat.le_of_ble_eq_true rfl) rfl (fun v60 σ60 p60 => ?_)
                obtain ⟨rfl, rfl⟩ := p60
                refine s_if_ne (tgt := 74) hX dX11_findSteps_63 (by decide) (fun q63 => ?_) (fun q63 => ?_)
                · refine s_iinc_n (c := 1) hX dX11_findSteps_74 rfl (by decide) rfl st_4_2 ?_
                  refine s_goto (tgt := 17) hX dX11_findSteps_77 (by decide) ?_
                  first
                    | (have hb2 : wtF pr (v (3 * p) * 64 + e) = true := by revert q63; cases wtF pr (v (3 * p) * 64 + e) <;> simp [bI, nI_0]
                       refine ihd (e + 1) (by omega) _ _ hf ?_
                       rw [hc, if_neg (by rw [hb2]; simp), List.append_nil]
                       exact hS)
                    | (have hb2 : wtF pr (v (3 * p) * 64 + e) = false := bI_0.mp (Decidable.of_not_not q63)
                       refine ihd (e + 1) (by omega) _ _ (hf.trans hf2) ?_
                       rw [hc, if_pos ⟨q32, rfl, hb2⟩, ← List.append_assoc]
                       exact hS2)
                · refine s_aload_n hX dX11_findSteps_66 rfl ?_
                  refine s_iload_n hX dX11_findSteps_67 rfl ?_
                  refine s_iload_n hX dX11_findSteps_68 rfl ?_
                  refine s_iconst (v := -1) hX dX11_findSteps_69 (by decide) ?_
                  refine s_iconst (v := -1) hX dX11_findSteps_70 (by decide) ?_
                  refine s_callVv (as := [_, _, _, _]) hX dX11_findSteps_71 mk_X11_addStep lk_X11_116 (c_X11_addStep hS lenl (p, e, none)) rfl (by omega) rfl rfl rfl ⟨rfl, rfl⟩ (Nat.le_of_ble_eq_true rfl) (Nat.le_of_ble_eq_true rfl) (Nat.le_of_ble_eq_true rfl) rfl (fun σ71 p71 => ?_)
                  obtain ⟨hS2, hf2⟩ := p71
                  refine s_iinc_n (c := 1) hX dX11_findSteps_74 rfl (by decide) rfl st_4_2 ?_
                  refine s_goto (tgt := 17) hX dX11_findSteps_77 (by decide) ?_
                  first
                    | (have hb2 : wtF pr (v (3 * p) * 64 + e) = true := by revert q63; cases wtF pr (v (3 * p) * 64 + e) <;> simp [bI, nI_0]
                       refine ihd (e + 1) (by omega) _ _ hf ?_
                       rw [hc, if_neg (by rw [hb2]; simp), List.append_nil]
                       exact hS)
                    | (have hb2 : wtF pr (v (3 * p) * 64 + e) = false := bI_0.mp (Decidable.of_not_not q63)
                       refine ihd (e + 1) (by omega) _ _ (hf.trans hf2) ?_
                       rw [hc, if_pos ⟨q32, rfl, hb2⟩, ← List.append_assoc]
                       exact hS2)
      refine s_iload_n hX dX11_findSteps_7 rfl ?_
      refine s_aload_n hX dX11_findSteps_8 rfl ?_
      refine s_getI (x := nI (pP pr)) hX dX11_findSteps_9 fl_X11_7 rfl rfl (by omega) hp0.1 ?_
      refine s_icmp_ge_n (tgt := 86) hX dX11_findSteps_12 (by decide) (by omega) (by omega) (fun q12 => ?_) (fun q12 => ?_)
      · omega
      · refine s_iconst (v := nI 0) hX dX11_findSteps_15 (by decide) ?_
        refine s_istore_n hX dX11_findSteps_16 (Nat.le_of_ble_eq_true rfl) rfl st_4_2 ?_
        refine E17 3 0 (by omega) _ _ hf ?_
        show StM σ1 (ownsR pr v p ++ [])
        rw [List.append_nil]
        exact hS
  refine s_aload_n hX dX11_findSteps_0 rfl ?_
  refine s_iconst (v := nI 0) hX dX11_findSteps_1 (by decide) ?_
  refine s_putI hX dX11_findSteps_2 fl_X11_109 rfl rfl (by omega) rfl rfl ?_
  refine s_iconst (v := nI 0) hX dX11_findSteps_5 (by decide) ?_
  refine s_istore_n hX dX11_findSteps_6 (Nat.le_of_ble_eq_true rfl) rfl st_4_1 ?_
  refine I7 (pP pr) 0 (by omega) _ _ _ (Fr.rf.put (by decide)) ⟨by rw [wI_s]; rfl, fun i s hs => by cases hs⟩
