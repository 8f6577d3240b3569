/-! ===== the class: acts ===== -/
def msF (pr : Pr) (a who wh fs R : Nat) : Nat → Vc → Bool × Vc
  | 0, v => (true, v)
  | t + 1, v => if (msF pr a who wh fs R t v).1 = false then msF pr a who wh fs R t v else if R / 2 ^ t % 2 = 1 then sendF pr (msF pr a who wh fs R t v).2 (a, who, t, wh, fs) else msF pr a who wh fs R t v
theorem ms_s {pr : Pr} {a who wh fs R t : Nat} {v : Vc} : msF pr a who wh fs R (t + 1) v = if (msF pr a who wh fs R t v).1 = false then msF pr a who wh fs R t v else if R / 2 ^ t % 2 = 1 then sendF pr (msF pr a who wh fs R t v).2 (a, who, t, wh, fs) else msF pr a who wh fs R t v := rfl
theorem ms_no {pr : Pr} {a who wh fs R t : Nat} {v : Vc} (h : R / 2 ^ t % 2 ≠ 1) : msF pr a who wh fs R (t + 1) v = msF pr a who wh fs R t v := by
  rw [ms_s, if_neg h]
  split <;> rfl
theorem ms_yes {pr : Pr} {a who wh fs R t : Nat} {v : Vc} (h : R / 2 ^ t % 2 = 1) (hm : (msF pr a who wh fs R t v).1 = true) : msF pr a who wh fs R (t + 1) v = sendF pr (msF pr a who wh fs R t v).2 (a, who, t, wh, fs) := by
  rw [ms_s, if_neg (by rw [hm]; decide), if_pos h]
theorem ms_stop {pr : Pr} {a who wh fs R t : Nat} {v : Vc} (h : (msF pr a who wh fs R t v).1 = false) : ∀ d, msF pr a who wh fs R (t + d) v = msF pr a who wh fs R t v
  | 0 => rfl
  | d + 1 => by
    have ih := ms_stop h d
    rw [show t + (d + 1) = t + d + 1 from rfl, ms_s, ih, if_pos h]
theorem ms_ok {pr : Pr} {a who wh fs R : Nat} {v : Vc} (hk : PrOk pr) (hv : VOk pr v) (ha : a < 16) (hwho : who ≤ pP pr) (hwh : wh < pP pr) (hfs : fs < 2) (hR : ∀ t, R / 2 ^ t % 2 = 1 → t ≤ pP pr) : ∀ t, VOk pr (msF pr a who wh fs R t v).2
  | 0 => hv
  | t + 1 => by
    have ih := ms_ok hk hv ha hwho hwh hfs hR t
    unfold msF
    split
    · exact ih
    · split
      · rename_i h9
        exact ih.send ha hwho (hR t h9) hwh hfs hk.1.2
      · exact ih
theorem bit_one : ∀ t0, t0 < 5 → ∀ t, t < 5 → (1 * 2 ^ t0 / 2 ^ t % 2 = 1 ↔ t = t0) := by decide
theorem ms_one {pr : Pr} {a who wh fs t0 : Nat} {v : Vc} (h0 : t0 < 5) : msF pr a who wh fs (1 * 2 ^ t0) 5 v = sendF pr v (a, who, t0, wh, fs) := by
  have lo : ∀ t, t ≤ t0 → msF pr a who wh fs (1 * 2 ^ t0) t v = (true, v) := by
    intro t
    induction t with
    | zero => intro _; rfl
    | succ t ih =>
      intro ht
      rw [ms_no (by rw [Ne, bit_one t0 h0 t (by omega)]; omega)]
      exact ih (by omega)
  have hi : ∀ d, t0 + 1 + d ≤ 5 → msF pr a who wh fs (1 * 2 ^ t0) (t0 + 1 + d) v = sendF pr v (a, who, t0, wh, fs) := by
    intro d
    induction d with
    | zero =>
      intro _
      rw [Nat.add_zero, ms_yes ((bit_one t0 h0 t0 h0).mpr rfl) (by rw [lo t0 (Nat.le_refl _)]), lo t0 (Nat.le_refl _)]
    | succ d ih =>
      intro hd
      rw [show t0 + 1 + (d + 1) = t0 + 1 + d + 1 from rfl, ms_no (by rw [Ne, bit_one t0 h0 _ (by omega)]; omega)]
      exact ih (by omega)
  have := hi (4 - t0) (by omega)
  rw [show t0 + 1 + (4 - t0) = 5 by omega] at this
  exact this
theorem bit_hcl : ∀ h, h < 16 → ∀ f, f < 4 → ∀ t, t < 5 → (hcl h f / 2 ^ t % 2 = 1 ↔ t ≠ f ∧ h / 2 ^ t % 2 = 1) := by decide
theorem send14 (pr : Pr) (v : Vc) (x : Lt) : (sendF pr v x).2 14 = v 14 := by
  unfold sendF
  split
  · rfl
  · simp [insL]
theorem mcx14 {pr : Pr} {arg hf : Nat} {v : Vc} : ∀ p, (mcF pr arg hf p v).2 14 = v 14
  | 0 => rfl
  | p + 1 => by
    have ih := mcx14 (pr := pr) (arg := arg) (hf := hf) (v := v) p
    unfold mcF
    split
    · exact ih
    · split
      · rw [send14]; exact ih
      · exact ih
theorem ms_mc {pr : Pr} {a hf : Nat} {v : Vc} (hk : PrOk pr) (hf0 : hf < pP pr) (h14 : v 14 < 2 ^ pP pr) : msF pr a (pP pr) hf 0 (hcl (v 14) hf) 5 v = mcF pr a hf (pP pr) v := by
  have hP := hk.1.2
  have h16 : v 14 < 16 := Nat.lt_of_lt_of_le h14 (show 2 ^ pP pr ≤ 2 ^ 4 from Nat.pow_le_pow_right (by decide) hP)
  have lo : ∀ t, t ≤ pP pr → msF pr a (pP pr) hf 0 (hcl (v 14) hf) t v = mcF pr a hf t v := by
    intro t
    induction t with
    | zero => intro _; rfl
    | succ t ih =>
      intro ht
      have ih := ih (by omega)
      have hb := bit_hcl _ h16 hf (by omega) t (by omega)
      show (if _ then _ else _) = (if _ then _ else _)
      rw [ih, mcx14]
      split
      · rfl
      · by_cases c : t ≠ hf ∧ v 14 / 2 ^ t % 2 = 1
        · rw [if_pos (hb.mpr c), if_pos c]
        · rw [if_neg (fun q => c (hb.mp q)), if_neg c]
  have hi : ∀ d, msF pr a (pP pr) hf 0 (hcl (v 14) hf) (pP pr + d) v = mcF pr a hf (pP pr) v := by
    intro d
    induction d with
    | zero => exact lo _ (Nat.le_refl _)
    | succ d ih =>
      rw [show pP pr + (d + 1) = pP pr + d + 1 from rfl, ms_no ?_]
      · exact ih
      · have : hcl (v 14) hf / 2 ^ (pP pr + d) = 0 := Nat.div_eq_of_lt (Nat.lt_of_le_of_lt (hcl_le _ _) (Nat.lt_of_lt_of_le h14 (Nat.pow_le_pow_right (by decide) (by omega))))
        rw [this]; decide
  have := hi (5 - pP pr)
  rw [show pP pr + (5 - pP pr) = 5 by omega] at this
  exact this
def AcC (σ : Sg) (c hf hd : Nat) : Prop := (σ 9).1 1 = nI c ∧ (σ 9).1 2 = nI hf ∧ (σ 9).1 3 = nI hd
theorem AcC.kept {σ σ2 : Sg} {c hf hd : Nat} (h : AcC σ c hf hd) (e : σ2 9 = σ 9) : AcC σ2 c hf hd := by unfold AcC; rw [e]; exact h
set_option maxRecDepth 100000 in
set_option maxHeartbeats 4000000 in
theorem c_X0_send {n : Nat} {σ : Sg} {o : Nat} {pr : Pr} {v : Vc} (hn : 53 ≤ n) (ho : IsSc o n) (h9 : 9 < o) (h : ScC pr σ o v) (hp : PrC σ pr) (hk : PrOk pr) (hv : VOk pr v) (a who wh fs R : Nat) (hse : (σ 9).1 1 = nI who) (ha : a < 16) (hwho : who ≤ pP pr) (hwh : wh < pP pr) (hfs : fs < 2) (hR : ∀ t, R / 2 ^ t % 2 = 1 → t ≤ pP pr) (hR5 : R < 2 ^ 31) : Sm n mX0_send [.ref 9, .ref o, .int (nI a), .int (nI R), .int (nI wh), .int (nI fs)] σ (qi fun r σ2 => r = nI (b3 (msF pr a who wh fs R 5 v).1) ∧ ScC pr σ2 o (msF pr a who wh fs R 5 v).2 ∧ Off σ σ2 [o, o + 1]) := by
  refine Sm.of mk_X0_send (Nat.le_of_ble_eq_true rfl) rfl (fun X hX => ?_)
  have ho3 := ho.2.2
  have hP := hk.1.2
  have hlo := hk.2.1 a
  have LP : ∀ (d t : Nat) (σ1 : Sg) (x8 : Option Value), t + d = 5 → (msF pr a who wh fs R t v).1 = true → ScC pr σ1 o (msF pr a who wh fs R t v).2 → Off σ σ1 [o, o + 1] → Sw n mX0_send X (ZS n mX0_send (qi fun r σ2 => r = nI (b3 (msF pr a who wh fs R 5 v).1) ∧ ScC pr σ2 o (msF pr a who wh fs R 5 v).2 ∧ Off σ σ2 [o, o + 1]) X) 13 [some (.ref 9), some (.ref o), some (.int (nI a)), some (.int (nI R)), some (.int (nI wh)), some (.int (nI fs)), some (.int (nI (pLo pr a))), some (.int (nI t)), x8] [] σ1 := by
    intro d
    induction d with
    | zero =>
      intro t σ1 x8 he h1 h2 h3
      have e5 : t = 5 := by omega
      subst e5
      refine s_iload hX dX0_send_13 rfl ?_
      refine s_iconst (v := nI 4) hX dX0_send_15 (by decide) ?_
      refine s_icmp_gt_n (tgt := 72) hX dX0_send_16 (by decide) (by omega) (by omega) (fun q16 => ?_) (fun q16 => ?_)
      · refine s_iconst (v := nI 0) hX dX0_send_72 (by decide) ?_
        refine s_iret hX dX0_send_73 rfl rfl ?_
        exact ⟨by rw [h1]; rfl, h2, h3⟩
      · omega
    | succ d ih =>
      intro t σ1 x8 he h1 h2 h3
      have e1 : R / 2 ^ t &&& 1 = R / 2 ^ t % 2 := Nat.and_one_is_mod _
      have hv1 := ms_ok hk hv ha hwho hwh hfs hR t
      have hR1 : R / 2 ^ t < 2 ^ 31 := Nat.lt_of_le_of_lt (Nat.div_le_self _ _) hR5
      have hs1 : (σ1 9).1 1 = nI who := by rw [h3.out2 (by omega)]; exact hse
      refine s_iload hX dX0_send_13 rfl ?_
      refine s_iconst (v := nI 4) hX dX0_send_15 (by decide) ?_
      refine s_icmp_gt_n (tgt := 72) hX dX0_send_16 (by decide) (by omega) (by omega) (fun q16 => ?_) (fun q16 => ?_)
      · omega
      · refine s_iload_n hX dX0_send_19 rfl ?_
        refine s_iload hX dX0_send_20 rfl ?_
        refine s_ishr_n hX dX0_send_22 (by omega) (by omega) ?_
        refine s_iconst (v := nI 1) hX dX0_send_23 (by decide) ?_
        refine s_iand_n hX dX0_send_24 ?_
        refine s_iconst (v := nI 1) hX dX0_send_25 (by decide) ?_
        refine s_icmp_ne_n (tgt := 33) hX dX0_send_26 (by decide) (by omega) (by omega) (fun q26 => ?_) (fun q26 => ?_)
        · refine s_iconst (v := nI 0) hX dX0_send_33 (by decide) ?_
          refine s_istore hX dX0_send_34 (Nat.le_of_ble_eq_true rfl) rfl st_9_8 ?_
          refine s_iload hX dX0_send_36 rfl ?_
          refine s_if_eq_n (tgt := 66) hX dX0_send_38 (by decide) (by omega) (fun q38 => ?_) (fun q38 => ?_)
          · refine s_iinc_n (c := 1) hX dX0_send_66 rfl (by decide) rfl st_9_7 ?_
            refine s_goto (tgt := 13) hX dX0_send_69 (by decide) ?_
            first
              | exact ih (t + 1) _ _ (by omega) (tn1 q61) p58b (h3.trans p58c)
              | (rw [← ms_no (pr := pr) (a := a) (who := who) (wh := wh) (fs := fs) (v := v) (show R / 2 ^ t % 2 ≠ 1 by omega)] at h1 h2
                 exact ih (t + 1) _ _ (by omega) h1 h2 h3)
          · refine s_aload_n hX dX0_send_41 rfl ?_
            refine s_iload_n hX dX0_send_42 rfl ?_
            refine s_iload hX dX0_send_43 rfl ?_
            refine s_aload_n hX dX0_send_45 rfl ?_
            refine s_getI (x := nI (who)) hX dX0_send_46 fl_X0_15 rfl rfl (by omega) hs1 ?_
            refine s_iload hX dX0_send_49 rfl ?_
            refine s_iload hX dX0_send_51 rfl ?_
            refine s_iload hX dX0_send_53 rfl ?_
            refine s_callSi (as := [_, _, _, _, _, _]) hX dX0_send_55 mk_X4_make lk_X0_109 (c_X4_make a (pLo pr a) who t wh fs ha (by omega) (by omega) (by omega) (by omega) hfs) rfl ⟨rfl, rfl⟩ (Nat.le_of_ble_eq_true rfl) (Nat.le_of_ble_eq_true rfl) (Nat.le_of_ble_eq_true rfl) rfl (fun v55 σ55 p55 => ?_)
            obtain ⟨rfl, ep⟩ := p55
            replace ep := ep.symm
            subst ep
            refine s_callVi (as := [_]) hX dX0_send_58 mk_X7_add lk_X0_113 (c_X7_add ho h2 hk hv1 (a, who, t, wh, fs) ⟨ha, hwho, hR t (by omega), hwh, hfs⟩) ho.1 (by omega) rfl rfl rfl ⟨rfl, rfl⟩ (Nat.le_of_ble_eq_true rfl) (Nat.le_of_ble_eq_true rfl) (Nat.le_of_ble_eq_true rfl) rfl (fun v58 σ58 p58 => ?_)
            obtain ⟨rfl, p58b, p58c⟩ := p58
            have hm := ms_yes (pr := pr) (a := a) (who := who) (wh := wh) (fs := fs) (v := v) (show R / 2 ^ t % 2 = 1 by omega) h1
            rw [← hm] at p58b ⊢
            unfold bI
            refine s_if_ne_n (tgt := 66) hX dX0_send_61 (by decide) (by have := Bool.toNat_le (msF pr a who wh fs R (t + 1) v).1; omega) (fun q61 => ?_) (fun q61 => ?_)
            · refine s_iinc_n (c := 1) hX dX0_send_66 rfl (by decide) rfl st_9_7 ?_
              refine s_goto (tgt := 13) hX dX0_send_69 (by decide) ?_
              first
                | exact ih (t + 1) _ _ (by omega) (tn1 q61) p58b (h3.trans p58c)
                | (rw [← ms_no (pr := pr) (a := a) (who := who) (wh := wh) (fs := fs) (v := v) (show R / 2 ^ t % 2 ≠ 1 by omega)] at h1 h2
                   exact ih (t + 1) _ _ (by omega) h1 h2 h3)
            · refine s_iconst (v := nI 3) hX dX0_send_64 (by decide) ?_
              refine s_iret hX dX0_send_65 rfl rfl ?_
              have hst := ms_stop (pr := pr) (a := a) (who := who) (wh := wh) (fs := fs) (v := v) (tn0 q61) d
              rw [show t + 1 + d = 5 by omega] at hst
              rw [hst, tn0 q61]
              exact ⟨rfl, p58b, h3.trans p58c⟩
        · refine s_iconst (v := nI 1) hX dX0_send_29 (by decide) ?_
          refine s_goto (tgt := 34) hX dX0_send_30 (by decide) ?_
          refine s_istore hX dX0_send_34 (Nat.le_of_ble_eq_true rfl) rfl st_9_8 ?_
          refine s_iload hX dX0_send_36 rfl ?_
          refine s_if_eq_n (tgt := 66) hX dX0_send_38 (by decide) (by omega) (fun q38 => ?_) (fun q38 => ?_)
          · refine s_iinc_n (c := 1) hX dX0_send_66 rfl (by decide) rfl st_9_7 ?_
            refine s_goto (tgt := 13) hX dX0_send_69 (by decide) ?_
            first
              | exact ih (t + 1) _ _ (by omega) (tn1 q61) p58b (h3.trans p58c)
              | (rw [← ms_no (pr := pr) (a := a) (who := who) (wh := wh) (fs := fs) (v := v) (show R / 2 ^ t % 2 ≠ 1 by omega)] at h1 h2
                 exact ih (t + 1) _ _ (by omega) h1 h2 h3)
          · refine s_aload_n hX dX0_send_41 rfl ?_
            refine s_iload_n hX dX0_send_42 rfl ?_
            refine s_iload hX dX0_send_43 rfl ?_
            refine s_aload_n hX dX0_send_45 rfl ?_
            refine s_getI (x := nI (who)) hX dX0_send_46 fl_X0_15 rfl rfl (by omega) hs1 ?_
            refine s_iload hX dX0_send_49 rfl ?_
            refine s_iload hX dX0_send_51 rfl ?_
            refine s_iload hX dX0_send_53 rfl ?_
            refine s_callSi (as := [_, _, _, _, _, _]) hX dX0_send_55 mk_X4_make lk_X0_109 (c_X4_make a (pLo pr a) who t wh fs ha (by omega) (by omega) (by omega) (by omega) hfs) rfl ⟨rfl, rfl⟩ (Nat.le_of_ble_eq_true rfl) (Nat.le_of_ble_eq_true rfl) (Nat.le_of_ble_eq_true rfl) rfl (fun v55 σ55 p55 => ?_)
            obtain ⟨rfl, ep⟩ := p55
            replace ep := ep.symm
            subst ep
            refine s_callVi (as := [_]) hX dX0_send_58 mk_X7_add lk_X0_113 (c_X7_add ho h2 hk hv1 (a, who, t, wh, fs) ⟨ha, hwho, hR t (by omega), hwh, hfs⟩) ho.1 (by omega) rfl rfl rfl ⟨rfl, rfl⟩ (Nat.le_of_ble_eq_true rfl) (Nat.le_of_ble_eq_true rfl) (Nat.le_of_ble_eq_true rfl) rfl (fun v58 σ58 p58 => ?_)
            obtain ⟨rfl, p58b, p58c⟩ := p58
            have hm := ms_yes (pr := pr) (a := a) (who := who) (wh := wh) (fs := fs) (v := v) (show R / 2 ^ t % 2 = 1 by omega) h1
            rw [← hm] at p58b ⊢
            unfold bI
            refine s_if_ne_n (tgt := 66) hX dX0_send_61 (by decide) (by have := Bool.toNat_le (msF pr a who wh fs R (t + 1) v).1; omega) (fun q61 => ?_) (fun q61 => ?_)
            · refine s_iinc_n (c := 1) hX dX0_send_66 rfl (by decide) rfl st_9_7 ?_
              refine s_goto (tgt := 13) hX dX0_send_69 (by decide) ?_
              first
                | exact ih (t + 1) _ _ (by omega) (tn1 q61) p58b (h3.trans p58c)
                | (rw [← ms_no (pr := pr) (a := a) (who := who) (wh := wh) (fs := fs) (v := v) (show R / 2 ^ t % 2 ≠ 1 by omega)] at h1 h2
                   exact ih (t + 1) _ _ (by omega) h1 h2 h3)
            · refine s_iconst (v := nI 3) hX dX0_send_64 (by decide) ?_
              refine s_iret hX dX0_send_65 rfl rfl ?_
              have hst := ms_stop (pr := pr) (a := a) (who := who) (wh := wh) (fs := fs) (v := v) (tn0 q61) d
              rw [show t + 1 + d = 5 by omega] at hst
              rw [hst, tn0 q61]
              exact ⟨rfl, p58b, h3.trans p58c⟩
  refine s_aload_n hX dX0_send_0 rfl ?_
  refine s_getR hX dX0_send_1 fl_X0_9 rfl rfl (by omega) ?_
  refine s_iload_n hX dX0_send_4 rfl ?_
  refine s_callVi (as := [_]) hX dX0_send_5 mk_X6_looseOf lk_X0_106 (c_X6_looseOf hn hp a ha) rfl (by omega) rfl rfl rfl ⟨rfl, rfl⟩ (Nat.le_of_ble_eq_true rfl) (Nat.le_of_ble_eq_true rfl) (Nat.le_of_ble_eq_true rfl) rfl (fun v5 σ5 p5 => ?_)
  obtain ⟨rfl, ep⟩ := p5
  replace ep := ep.symm
  subst ep
  refine s_istore hX dX0_send_8 (Nat.le_of_ble_eq_true rfl) rfl st_9_6 ?_
  refine s_iconst (v := nI 0) hX dX0_send_10 (by decide) ?_
  refine s_istore hX dX0_send_11 (Nat.le_of_ble_eq_true rfl) rfl st_9_7 ?_
  exact LP 5 0 _ _ (by omega) rfl h Off.rf
