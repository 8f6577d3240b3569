theorem bI_0 {b : Bool} : bI b = 0 ↔ b = false := by cases b <;> decide
def shW (v : Vc) (a c w : Nat) : Vc := fun j => if (16 + 5 * (a + 1) ≤ j ∧ j < 16 + 5 * (c + 1)) ∨ (16 + 5 * a ≤ j ∧ j < 16 + 5 * a + w) then v (j - 5) else v j
theorem shW_lo {v : Vc} {a c w j : Nat} (h : j < 16 + 5 * a) : shW v a c w j = v j := by unfold shW; rw [if_neg (by omega)]
theorem shW_5 {v : Vc} {a c : Nat} (ha : a + 1 ≤ c) : shW v (a + 1) c 5 = shW v a c 0 := by
  funext j
  unfold shW
  by_cases h : (16 + 5 * (a + 1 + 1) ≤ j ∧ j < 16 + 5 * (c + 1)) ∨ (16 + 5 * (a + 1) ≤ j ∧ j < 16 + 5 * (a + 1) + 5)
  · rw [if_pos h, if_pos (by omega)]
  · rw [if_neg h, if_neg (by omega)]
theorem shW_c (v : Vc) (c : Nat) : shW v c c 0 = v := by
  funext j
  unfold shW
  rw [if_neg (by omega)]
theorem shW_s {v : Vc} {a c w : Nat} (ha : a + 1 ≤ c) : vset (shW v (a + 1) c w) (16 + 5 * (a + 1) + w) (v (16 + 5 * a + w)) = shW v (a + 1) c (w + 1) := by
  funext j
  by_cases h : j = 16 + 5 * (a + 1) + w
  · subst h
    rw [vset_s]
    unfold shW
    rw [if_pos (by omega)]
    congr 1
    omega
  · rw [vset_n _ _ h]
    unfold shW
    by_cases h2 : (16 + 5 * (a + 1 + 1) ≤ j ∧ j < 16 + 5 * (c + 1)) ∨ (16 + 5 * (a + 1) ≤ j ∧ j < 16 + 5 * (a + 1) + w)
    · rw [if_pos h2, if_pos (by omega)]
    · rw [if_neg h2, if_neg (by omega)]
theorem Vat.upd {σ : Sg} {a : Nat} {v : Vc} {k x : Nat} (h : Vat σ a 0 v) : Vat (wI σ a k (nI x)) a 0 (vset v k x) := fun j hj => by
  rw [Nat.zero_add]
  by_cases e : j = k
  · subst e; rw [wI_s, vset_s]
  · rw [wI_k _ _ e, vset_n _ _ e]; exact h.at0 j hj
theorem Vat.to {σ : Sg} {a b : Nat} {v v2 : Vc} (h : Vat σ a b v) (e : ∀ j, j < 56 → v j = v2 j) : Vat σ a b v2 := fun j hj => by rw [h j hj, e j hj]
theorem ins_eq {pr : Pr} {v : Vc} {a : Nat} {x : Lt} (hv : VOk pr v) (ha : a ≤ v 15) (j : Nat) : vset (vset (vset (vset (vset (vset (shW v a (v 15) 0) (16 + 5 * a) x.1) (16 + 5 * a + 1) x.2.1) (16 + 5 * a + 2) x.2.2.1) (16 + 5 * a + 3) x.2.2.2.1) (16 + 5 * a + 4) x.2.2.2.2) 15 (v 15 + 1) j = insL v a x j := by
  have h8 := hv.2.2.2.2.2.2.2
  unfold insL
  by_cases e15 : j = 15
  · subst e15; rw [vset_s]; rfl
  rw [vset_n _ _ e15]
  by_cases e0 : j < 15
  · rw [if_pos e0, vset_n _ _ (by omega), vset_n _ _ (by omega), vset_n _ _ (by omega), vset_n _ _ (by omega), vset_n _ _ (by omega), shW_lo (by omega)]
  rw [if_neg e0, if_neg e15]
  by_cases e1 : j < 16 + 5 * a
  · rw [if_pos e1, vset_n _ _ (by omega), vset_n _ _ (by omega), vset_n _ _ (by omega), vset_n _ _ (by omega), vset_n _ _ (by omega), shW_lo (by omega)]
  rw [if_neg e1]
  by_cases e2 : j < 16 + 5 * a + 5
  · rw [if_pos e2]
    obtain ⟨w, hw, rfl⟩ : ∃ w, w < 5 ∧ j = 16 + 5 * a + w := ⟨j - (16 + 5 * a), by omega, by omega⟩
    rw [show 16 + 5 * a + w - (16 + 5 * a) = w by omega]
    match w, hw with
    | 0, _ => rw [vset_n _ _ (by omega), vset_n _ _ (by omega), vset_n _ _ (by omega), vset_n _ _ (by omega)]; exact vset_s _ _ _
    | 1, _ => rw [vset_n _ _ (by omega), vset_n _ _ (by omega), vset_n _ _ (by omega)]; exact vset_s _ _ _
    | 2, _ => rw [vset_n _ _ (by omega), vset_n _ _ (by omega)]; exact vset_s _ _ _
    | 3, _ => rw [vset_n _ _ (by omega)]; exact vset_s _ _ _
    | 4, _ => exact vset_s _ _ _
  · rw [if_neg e2, vset_n _ _ (by omega), vset_n _ _ (by omega), vset_n _ _ (by omega), vset_n _ _ (by omega), vset_n _ _ (by omega)]
    unfold shW
    by_cases e3 : j < 16 + 5 * (v 15 + 1)
    · rw [if_pos (by omega)]
    · rw [if_neg (by omega), h8 j (by omega), h8 (j - 5) (by omega)]
set_option maxRecDepth 100000 in
set_option maxHeartbeats 4000000 in
theorem c_X11_send {σ : Sg} {pr : Pr} {v : Vc} (hp : PrM σ pr) (hk : PrOk pr) (hN : Vat σ 59 0 v) (hv : VOk pr v) {k f t u w : Nat} (hk0 : k < 16) (hf : f ≤ 4) (ht : t ≤ 4) (hu : u ≤ 4) (hw : w ≤ 4) : Sm 77 mX11_send [.ref 53, .int (nI k), .int (nI f), .int (nI t), .int (nI u), .int (nI w)] σ (qi fun r σ2 => r = bI (sendF pr v (k, f, t, u, w)).1 ∧ Off σ σ2 [59] ∧ Vat σ2 59 0 (sendF pr v (k, f, t, u, w)).2) := by
  refine Sm.of mk_X11_send (Nat.le_of_ble_eq_true rfl) rfl (fun X hX => ?_)
  have h15 := hv.2.2.2.2.1
  have hP := hk.1
  have hlt := hv.2.2.2.2.2.1
  have J92 : ∀ a (x7 : Option Value) σ1, a ≤ v 15 → v 15 < 8 → a = posR (ahF pr v (k, f, t, u, w)) (v 15) → Off σ σ1 [59] → Vat σ1 59 0 (shW v a (v 15) 0) → Sw 77 mX11_send X (ZS 77 mX11_send (qi fun r σ2 => r = bI (sendF pr v (k, f, t, u, w)).1 ∧ Off σ σ2 [59] ∧ Vat σ2 59 0 (sendF pr v (k, f, t, u, w)).2) X) 92 [some (.ref 53), some (.int (nI k)), some (.int (nI f)), some (.int (nI t)), some (.int (nI u)), some (.int (nI w)), some (.int (nI a)), x7] [] σ1 := by
    intro a x7 σ1 hac hc8 hpos ho hV
    refine s_bipush (v := nI 16) hX dX11_send_92 (by decide) ?_
    refine s_iconst (v := nI 5) hX dX11_send_94 (by decide) ?_
    refine s_iload hX dX11_send_95 rfl ?_
    refine s_imul_n hX dX11_send_97 ?_
    refine s_iadd_n hX dX11_send_98 ?_
    refine s_istore hX dX11_send_99 (Nat.le_of_ble_eq_true rfl) rfl st_8_7 ?_
    refine s_aload_n hX dX11_send_101 rfl ?_
    refine s_getR hX dX11_send_102 fl_X11_30 rfl rfl (by omega) ?_
    refine s_iload hX dX11_send_105 rfl ?_
    refine s_iload_n hX dX11_send_107 rfl ?_
    refine s_iast hX dX11_send_108 rfl (by omega) (by omega) (by decide) ?_
    refine s_gen (fun σ1 e1 => ?_)
    have h1 := (hV).upd (k := 16 + 5 * a) (x := k)
    have ho1 := (ho).wI (a := 59) (k := 16 + 5 * a) (x := nI (k)) (by decide)
    rw [← e1] at h1 ho1
    clear e1
    refine s_aload_n hX dX11_send_109 rfl ?_
    refine s_getR hX dX11_send_110 fl_X11_30 rfl rfl (by omega) ?_
    refine s_iload hX dX11_send_113 rfl ?_
    refine s_iconst (v := nI 1) hX dX11_send_115 (by decide) ?_
    refine s_iadd_n hX dX11_send_116 ?_
    refine s_iload_n hX dX11_send_117 rfl ?_
    refine s_iast hX dX11_send_118 rfl (by omega) (by omega) (by decide) ?_
    refine s_gen (fun σ2 e2 => ?_)
    have h2 := (h1).upd (k := 16 + 5 * a + 1) (x := f)
    have ho2 := (ho1).wI (a := 59) (k := 16 + 5 * a + 1) (x := nI (f)) (by decide)
    rw [← e2] at h2 ho2
    clear e2
    refine s_aload_n hX dX11_send_119 rfl ?_
    refine s_getR hX dX11_send_120 fl_X11_30 rfl rfl (by omega) ?_
    refine s_iload hX dX11_send_123 rfl ?_
    refine s_iconst (v := nI 2) hX dX11_send_125 (by decide) ?_
    refine s_iadd_n hX dX11_send_126 ?_
    refine s_iload_n hX dX11_send_127 rfl ?_
    refine s_iast hX dX11_send_128 rfl (by omega) (by omega) (by decide) ?_
    refine s_gen (fun σ3 e3 => ?_)
    have h3 := (h2).upd (k := 16 + 5 * a + 2) (x := t)
    have ho3 := (ho2).wI (a := 59) (k := 16 + 5 * a + 2) (x := nI (t)) (by decide)
    rw [← e3] at h3 ho3
    clear e3
    refine s_aload_n hX dX11_send_129 rfl ?_
    refine s_getR hX dX11_send_130 fl_X11_30 rfl rfl (by omega) ?_
    refine s_iload hX dX11_send_133 rfl ?_
    refine s_iconst (v := nI 3) hX dX11_send_135 (by decide) ?_
    refine s_iadd_n hX dX11_send_136 ?_
    refine s_iload hX dX11_send_137 rfl ?_
    refine s_iast hX dX11_send_139 rfl (by omega) (by omega) (by decide) ?_
    refine s_gen (fun σ4 e4 => ?_)
    have h4 := (h3).upd (k := 16 + 5 * a + 3) (x := u)
    have ho4 := (ho3).wI (a := 59) (k := 16 + 5 * a + 3) (x := nI (u)) (by decide)
    rw [← e4] at h4 ho4
    clear e4
    refine s_aload_n hX dX11_send_140 rfl ?_
    refine s_getR hX dX11_send_141 fl_X11_30 rfl rfl (by omega) ?_
    refine s_iload hX dX11_send_144 rfl ?_
    refine s_iconst (v := nI 4) hX dX11_send_146 (by decide) ?_
    refine s_iadd_n hX dX11_send_147 ?_
    refine s_iload hX dX11_send_148 rfl ?_
    refine s_iast hX dX11_send_150 rfl (by omega) (by omega) (by decide) ?_
    refine s_gen (fun σ5 e5 => ?_)
    have h5 := (h4).upd (k := 16 + 5 * a + 4) (x := w)
    have ho5 := (ho4).wI (a := 59) (k := 16 + 5 * a + 4) (x := nI (w)) (by decide)
    rw [← e5] at h5 ho5
    clear e5
    refine s_aload_n hX dX11_send_151 rfl ?_
    refine s_getR hX dX11_send_152 fl_X11_30 rfl rfl (by omega) ?_
    refine s_bipush (v := nI 15) hX dX11_send_155 (by decide) ?_
    refine s_dup2 hX dX11_send_157 rfl rfl ?_
    refine s_iald (x := nI (v 15)) hX dX11_send_158 rfl (by omega) (by omega) (by decide) (by rw [h5.at0 15 (by decide), vset_n _ _ (by omega), vset_n _ _ (by omega), vset_n _ _ (by omega), vset_n _ _ (by omega), vset_n _ _ (by omega), shW_lo (by omega)]) ?_
    refine s_iconst (v := nI 1) hX dX11_send_159 (by decide) ?_
    refine s_iadd_n hX dX11_send_160 ?_
    refine s_iast hX dX11_send_161 rfl (by omega) (by omega) (by decide) ?_
    refine s_gen (fun σ6 e6 => ?_)
    have h6 := (h5).upd (k := 15) (x := v 15 + 1)
    have ho6 := (ho5).wI (a := 59) (k := 15) (x := nI (v 15 + 1)) (by decide)
    rw [← e6] at h6 ho6
    clear e6
    refine s_iconst (v := nI 1) hX dX11_send_162 (by decide) ?_
    refine s_zret hX dX11_send_163 rfl (by first | exact Or.inl rfl | exact Or.inr rfl) rfl ?_
    have hS : sendF pr v (k, f, t, u, w) = (true, insL v a (k, f, t, u, w)) := by
      unfold sendF
      rw [if_neg (by omega), ← hpos]
    rw [hS]
    exact ⟨rfl, ho6, h6.to (fun j _ => ins_eq (x := (k, f, t, u, w)) hv hac j)⟩
  have OUT : v 15 < 8 → ∀ a, a ≤ v 15 → posR (ahF pr v (k, f, t, u, w)) a = posR (ahF pr v (k, f, t, u, w)) (v 15) → ∀ (x7 : Option Value) σ1, Off σ σ1 [59] → Vat σ1 59 0 (shW v a (v 15) 0) → Sw 77 mX11_send X (ZS 77 mX11_send (qi fun r σ2 => r = bI (sendF pr v (k, f, t, u, w)).1 ∧ Off σ σ2 [59] ∧ Vat σ2 59 0 (sendF pr v (k, f, t, u, w)).2) X) 23 [some (.ref 53), some (.int (nI k)), some (.int (nI f)), some (.int (nI t)), some (.int (nI u)), some (.int (nI w)), some (.int (nI a)), x7] [] σ1 := by
    intro hc8 a
    induction a with
    | zero =>
      intro hac hpos x7 σ1 ho hV
      refine s_iload hX dX11_send_23 rfl ?_
      refine s_if_le_n (tgt := 92) hX dX11_send_25 (by decide) (by omega) (fun q25 => ?_) (fun q25 => ?_)
      · exact J92 0 x7 σ1 hac hc8 hpos ho hV
      · omega
    | succ a ih =>
      intro hac hpos x7 σ1 ho hV
      have lo : ∀ j, j < 16 + 5 * (a + 1) → shW v (a + 1) (v 15) 0 j = v j := fun j hj => shW_lo hj
      have g := hlt a (by omega)
      have hA : ahF pr (shW v (a + 1) (v 15) 0) (k, f, t, u, w) a = ahF pr v (k, f, t, u, w) a := by
        unfold ahF
        rw [lo _ (by omega), lo _ (by omega), lo _ (by omega), lo _ (by omega), lo _ (by omega)]
      have IN : ∀ m q, q + m = 5 → ∀ σ2, Off σ σ2 [59] → Vat σ2 59 0 (shW v (a + 1) (v 15) q) → ahF pr v (k, f, t, u, w) a = true → Sw 77 mX11_send X (ZS 77 mX11_send (qi fun r σ2 => r = bI (sendF pr v (k, f, t, u, w)).1 ∧ Off σ σ2 [59] ∧ Vat σ2 59 0 (sendF pr v (k, f, t, u, w)).2) X) 49 [some (.ref 53), some (.int (nI k)), some (.int (nI f)), some (.int (nI t)), some (.int (nI u)), some (.int (nI w)), some (.int (nI (a + 1))), some (.int (nI q))] [] σ2 := by
        intro m
        induction m with
        | zero =>
          intro q hq σ2 ho2 hV2 hah
          refine s_iload hX dX11_send_49 rfl ?_
          refine s_iconst (v := nI 5) hX dX11_send_51 (by decide) ?_
          refine s_icmp_ge_n (tgt := 86) hX dX11_send_52 (by decide) (by omega) (by omega) (fun q52 => ?_) (fun q52 => ?_)
          · refine s_idec_n hX dX11_send_86 rfl (by omega) rfl st_8_6 ?_
            refine s_goto (tgt := 23) hX dX11_send_89 (by decide) ?_
            refine ih (by omega) ?_ _ σ2 ho2 ?_
            · rw [← hpos]
              show _ = posR _ (a + 1)
              unfold posR
              rw [if_pos hah]
              cases a <;> rfl
            · rw [← shW_5 (by omega), ← show q = 5 by omega]
              exact hV2
          · omega
        | succ m ihm =>
          intro q hq σ2 ho2 hV2 hah
          refine s_iload hX dX11_send_49 rfl ?_
          refine s_iconst (v := nI 5) hX dX11_send_51 (by decide) ?_
          refine s_icmp_ge_n (tgt := 86) hX dX11_send_52 (by decide) (by omega) (by omega) (fun q52 => ?_) (fun q52 => ?_)
          · omega
          · refine s_aload_n hX dX11_send_55 rfl ?_
            refine s_getR hX dX11_send_56 fl_X11_30 rfl rfl (by omega) ?_
            refine s_bipush (v := nI 16) hX dX11_send_59 (by decide) ?_
            refine s_iconst (v := nI 5) hX dX11_send_61 (by decide) ?_
            refine s_iload hX dX11_send_62 rfl ?_
            refine s_imul_n hX dX11_send_64 ?_
            refine s_iadd_n hX dX11_send_65 ?_
            refine s_iload hX dX11_send_66 rfl ?_
            refine s_iadd_n hX dX11_send_68 ?_
            refine s_aload_n hX dX11_send_69 rfl ?_
            refine s_iload hX dX11_send_70 rfl ?_
            refine s_iconst (v := nI 1) hX dX11_send_72 (by decide) ?_
            refine s_isub_n hX dX11_send_73 (by omega) ?_
            refine s_iload hX dX11_send_74 rfl ?_
            refine s_callVi (as := [_, _]) hX dX11_send_76 mk_X11_letterAt lk_X11_105 (c_X11_letterAt hV2 (a + 1 - 1) q (by omega)) rfl (by omega) rfl rfl rfl ⟨rfl, rfl⟩ (Nat.le_of_ble_eq_true rfl) (Nat.le_of_ble_eq_true rfl) (Nat.le_of_ble_eq_true rfl) rfl (fun v76 σ76 p76 => ?_)
            obtain ⟨rfl, rfl⟩ := p76
            rw [show 16 + 5 * (a + 1 - 1) + q = 16 + 5 * a + q by omega, shW_lo (by omega)]
            refine s_iast hX dX11_send_79 rfl (by omega) (by omega) (by decide) ?_
            refine s_gen (fun σ3 e3 => ?_)
            have h3 := hV2.upd (k := 16 + 5 * (a + 1) + q) (x := v (16 + 5 * a + q))
            rw [shW_s (by omega)] at h3
            have ho3 := ho2.wI (a := 59) (k := 16 + 5 * (a + 1) + q) (x := nI (v (16 + 5 * a + q))) (by decide)
            rw [← e3] at h3 ho3
            clear e3
            refine s_iinc_n (c := 1) hX dX11_send_80 rfl (by decide) rfl st_8_7 ?_
            refine s_goto (tgt := 49) hX dX11_send_83 (by decide) ?_
            exact ihm (q + 1) (by omega) σ3 ho3 h3 hah
      refine s_iload hX dX11_send_23 rfl ?_
      refine s_if_le_n (tgt := 92) hX dX11_send_25 (by decide) (by omega) (fun q25 => ?_) (fun q25 => ?_)
      · omega
      · refine s_aload_n hX dX11_send_28 rfl ?_
        refine s_iload_n hX dX11_send_29 rfl ?_
        refine s_iload_n hX dX11_send_30 rfl ?_
        refine s_iload_n hX dX11_send_31 rfl ?_
        refine s_iload hX dX11_send_32 rfl ?_
        refine s_iload hX dX11_send_34 rfl ?_
        refine s_iload hX dX11_send_36 rfl ?_
        refine s_iconst (v := nI 1) hX dX11_send_38 (by decide) ?_
        refine s_isub_n hX dX11_send_39 (by omega) ?_
        rw [show a + 1 - 1 = a by omega]
        refine s_callVi (as := [_, _, _, _, _, _]) hX dX11_send_40 mk_X11_isAhead lk_X11_126 (c_X11_isAhead (v := shW v (a + 1) (v 15) 0) (k := k) (f := f) (t := t) (u := u) (w := w) (j := a) (hp.off ho (by decide) (by decide) (by decide) (by decide) (by decide)) hk hV (by omega) hk0 hf ht hu hw (by rw [lo _ (by omega)]; omega) (by rw [lo _ (by omega)]; omega) (by rw [lo _ (by omega)]; omega) (by rw [lo _ (by omega)]; omega) (by rw [lo _ (by omega)]; omega)) rfl (by omega) rfl rfl rfl ⟨rfl, rfl⟩ (Nat.le_of_ble_eq_true rfl) (Nat.le_of_ble_eq_true rfl) (Nat.le_of_ble_eq_true rfl) rfl (fun v40 σ40 p40 => ?_)
        obtain ⟨rfl, rfl⟩ := p40
        rw [hA]
        refine s_if_eq (tgt := 92) hX dX11_send_43 (by decide) (fun q43 => ?_) (fun q43 => ?_)
        · refine J92 (a + 1) x7 _ hac hc8 ?_ ho hV
          rw [← hpos]
          unfold posR
          rw [if_neg (by rw [bI_0.mp q43]; decide)]
        · refine s_iconst (v := nI 0) hX dX11_send_46 (by decide) ?_
          refine s_istore hX dX11_send_47 (Nat.le_of_ble_eq_true rfl) rfl st_8_7 ?_
          exact IN 5 0 (by omega) _ ho hV (by cases hh : ahF pr v (k, f, t, u, w) a with
            | true => rfl
            | false => exact absurd (bI_0.mpr hh) q43)
  refine s_aload_n hX dX11_send_0 rfl ?_
  refine s_getR hX dX11_send_1 fl_X11_30 rfl rfl (by omega) ?_
  refine s_bipush (v := nI 15) hX dX11_send_4 (by decide) ?_
  refine s_iald (x := nI (v 15)) hX dX11_send_6 rfl (by omega) (by omega) (by decide) (hN.at0 15 (by decide)) ?_
  refine s_bipush (v := nI 8) hX dX11_send_7 (by decide) ?_
  refine s_icmp_ne_n (tgt := 14) hX dX11_send_9 (by decide) (by omega) (by omega) (fun q9 => ?_) (fun q9 => ?_)
  · refine s_aload_n hX dX11_send_14 rfl ?_
    refine s_getR hX dX11_send_15 fl_X11_30 rfl rfl (by omega) ?_
    refine s_bipush (v := nI 15) hX dX11_send_18 (by decide) ?_
    refine s_iald (x := nI (v 15)) hX dX11_send_20 rfl (by omega) (by omega) (by decide) (hN.at0 15 (by decide)) ?_
    refine s_istore hX dX11_send_21 (Nat.le_of_ble_eq_true rfl) rfl st_8_6 ?_
    refine OUT (by omega) (v 15) (Nat.le_refl _) rfl _ σ Off.rf ?_
    rw [shW_c]
    exact hN
  · refine s_iconst (v := nI 0) hX dX11_send_12 (by decide) ?_
    refine s_zret hX dX11_send_13 rfl (by first | exact Or.inl rfl | exact Or.inr rfl) rfl ?_
    have hS : sendF pr v (k, f, t, u, w) = (false, v) := by
      unfold sendF
      rw [if_pos q9]
    rw [hS]
    exact ⟨rfl, Off.rf, hN⟩
def tkW (v : Vc) (i j w : Nat) : Vc := fun q => if q = 15 then v 15 - 1 else if (16 + 5 * i ≤ q ∧ q < 16 + 5 * j + w) then v (q + 5) else v q
theorem tkW_s {v : Vc} {i j w : Nat} (h : i ≤ j) : vset (tkW v i j w) (16 + 5 * j + w) (v (16 + 5 * (j + 1) + w)) = tkW v i j (w + 1) := by
  funext q
  by_cases e : q = 16 + 5 * j + w
  · subst e
    rw [vset_s]
    unfold tkW
    rw [if_neg (by omega), if_pos (by omega)]
    congr 1
    omega
  · rw [vset_n _ _ e]
    unfold tkW
    by_cases e2 : q = 15
    · rw [if_pos e2, if_pos e2]
    · rw [if_neg e2, if_neg e2]
      by_cases e3 : 16 + 5 * i ≤ q ∧ q < 16 + 5 * j + w
      · rw [if_pos e3, if_pos (by omega)]
      · rw [if_neg e3, if_neg (by omega)]
theorem tkW_5 (v : Vc) (i j : Nat) : tkW v i j 5 = tkW v i (j + 1) 0 := by
  funext q
  unfold tkW
  rw [show 16 + 5 * j + 5 = 16 + 5 * (j + 1) + 0 by omega]
theorem tkW_0 (v : Vc) (i : Nat) : tkW v i i 0 = vset v 15 (v 15 - 1) := by
  funext q
  unfold tkW vset
  by_cases e : q = 15
  · rw [if_pos e, if_pos e]
  · rw [if_neg e, if_neg e, if_neg (by omega)]
theorem tkW_z {pr : Pr} {v : Vc} {i w q : Nat} (hv : VOk pr v) (hi : i < v 15) (hq : q < 56) (hw : w ≤ 5) : tkW v i (v 15 - 1) w q = if 16 + 5 * (v 15 - 1) + w ≤ q ∧ q < 16 + 5 * (v 15 - 1) + 5 then v q else takeL v i q := by
  have h8 := hv.2.2.2.2.2.2.2
  unfold tkW takeL
  by_cases e : q = 15
  · subst e; rw [if_pos rfl, if_neg (by omega), if_neg (by omega), if_pos rfl]
  · rw [if_neg e]
    by_cases e1 : 16 + 5 * (v 15 - 1) + w ≤ q ∧ q < 16 + 5 * (v 15 - 1) + 5
    · rw [if_pos e1, if_neg (by omega)]
    · rw [if_neg e1]
      by_cases e2 : 16 + 5 * i ≤ q ∧ q < 16 + 5 * (v 15 - 1) + w
      · rw [if_pos e2, if_neg (by omega), if_neg e, if_neg (by omega)]
      · rw [if_neg e2]
        by_cases e3 : q < 15
        · rw [if_pos e3]
        · rw [if_neg e3, if_neg e]
          by_cases e4 : q < 16 + 5 * i
          · rw [if_pos e4]
          · rw [if_neg e4, h8 q (by omega), h8 (q + 5) (by omega)]
set_option maxRecDepth 100000 in
set_option maxHeartbeats 4000000 in
theorem c_X11_takeLetter {σ : Sg} {pr : Pr} {v : Vc} (hN : Vat σ 59 0 v) (hv : VOk pr v) (i : Nat) (hi : i < v 15) : Sm 77 mX11_takeLetter [.ref 53, .int (nI i)] σ (qv fun σ2 => Fr 53 σ σ2 [59] [9, 10, 11] ∧ Vat σ2 59 0 (takeL v i) ∧ (σ2 53).1 10 = nI (v (19 + 5 * i)) ∧ (σ2 53).1 11 = nI (v (20 + 5 * i))) := by
  refine Sm.of mk_X11_takeLetter (Nat.le_of_ble_eq_true rfl) rfl (fun X hX => ?_)
  have h15 := hv.2.2.2.2.1
  have ZER : ∀ m w, w + m = 5 → ∀ σ1 (x3 : Option Value), Fr 53 σ σ1 [59] [9, 10, 11] → (∀ q, q < 56 → (σ1 59).1 q = nI (if 16 + 5 * (v 15 - 1) + w ≤ q ∧ q < 16 + 5 * (v 15 - 1) + 5 then tkW v i (v 15 - 1) 0 q else takeL v i q)) → (σ1 53).1 10 = nI (v (19 + 5 * i)) → (σ1 53).1 11 = nI (v (20 + 5 * i)) → Sw 77 mX11_takeLetter X (ZS 77 mX11_takeLetter (qv fun σ2 => Fr 53 σ σ2 [59] [9, 10, 11] ∧ Vat σ2 59 0 (takeL v i) ∧ (σ2 53).1 10 = nI (v (19 + 5 * i)) ∧ (σ2 53).1 11 = nI (v (20 + 5 * i))) X) 96 [some (.ref 53), some (.int (nI i)), some (.int (nI w)), x3] [] σ1 := by
    intro m
    induction m with
    | zero =>
      intro w hw σ1 x3 hf hV h10 h11
      refine s_iload_n hX dX11_takeLetter_96 rfl ?_
      refine s_iconst (v := nI 5) hX dX11_takeLetter_97 (by decide) ?_
      refine s_icmp_ge_n (tgt := 127) hX dX11_takeLetter_98 (by decide) (by omega) (by omega) (fun q98 => ?_) (fun q98 => ?_)
      · refine s_vret hX dX11_takeLetter_127 rfl rfl ?_
        refine ⟨hf, fun q hq => ?_, h10, h11⟩
        rw [Nat.zero_add, hV q hq, if_neg (by omega)]
      · omega
    | succ m ih =>
      intro w hw σ1 x3 hf hV h10 h11
      have e15 : (σ1 59).1 15 = nI (v 15 - 1) := by
        rw [hV 15 (by decide), if_neg (by omega)]
        rfl
      refine s_iload_n hX dX11_takeLetter_96 rfl ?_
      refine s_iconst (v := nI 5) hX dX11_takeLetter_97 (by decide) ?_
      refine s_icmp_ge_n (tgt := 127) hX dX11_takeLetter_98 (by decide) (by omega) (by omega) (fun q98 => ?_) (fun q98 => ?_)
      · omega
      · refine s_aload_n hX dX11_takeLetter_101 rfl ?_
        refine s_getR hX dX11_takeLetter_102 fl_X11_30 rfl rfl (by omega) ?_
        refine s_bipush (v := nI 16) hX dX11_takeLetter_105 (by decide) ?_
        refine s_iconst (v := nI 5) hX dX11_takeLetter_107 (by decide) ?_
        refine s_aload_n hX dX11_takeLetter_108 rfl ?_
        refine s_getR hX dX11_takeLetter_109 fl_X11_30 rfl rfl (by omega) ?_
        refine s_bipush (v := nI 15) hX dX11_takeLetter_112 (by decide) ?_
        refine s_iald (x := nI (v 15 - 1)) hX dX11_takeLetter_114 rfl (by omega) (by omega) (by decide) e15 ?_
        refine s_imul_n hX dX11_takeLetter_115 ?_
        refine s_iadd_n hX dX11_takeLetter_116 ?_
        refine s_iload_n hX dX11_takeLetter_117 rfl ?_
        refine s_iadd_n hX dX11_takeLetter_118 ?_
        refine s_iconst (v := nI 0) hX dX11_takeLetter_119 (by decide) ?_
        refine s_iast hX dX11_takeLetter_120 rfl (by omega) (by omega) (by decide) ?_
        refine s_iinc_n (c := 1) hX dX11_takeLetter_121 rfl (by decide) rfl st_4_2 ?_
        refine s_goto (tgt := 96) hX dX11_takeLetter_124 (by decide) ?_
        refine ih (w + 1) (by omega) _ x3 (hf.wI (by decide) (by decide)) (fun q hq => ?_) (by rw [wI_a _ _ (by decide)]; exact h10) (by rw [wI_a _ _ (by decide)]; exact h11)
        by_cases e : q = 16 + 5 * (v 15 - 1) + w
        · subst e
          rw [wI_s, if_neg (by omega)]
          unfold takeL
          rw [if_neg (by omega), if_neg (by omega), if_neg (by omega), hv.2.2.2.2.2.2.2 _ (by omega)]
        · rw [wI_k _ _ e, hV q hq]
          by_cases e2 : 16 + 5 * (v 15 - 1) + w ≤ q ∧ q < 16 + 5 * (v 15 - 1) + 5
          · rw [if_pos e2, if_pos (by omega)]
          · rw [if_neg e2, if_neg (by omega)]
  have OUT : ∀ m j, j + m = v 15 - 1 → i ≤ j → ∀ σ1 (x3 : Option Value), Fr 53 σ σ1 [59] [9, 10, 11] → Vat σ1 59 0 (tkW v i j 0) → (σ1 53).1 10 = nI (v (19 + 5 * i)) → (σ1 53).1 11 = nI (v (20 + 5 * i)) → Sw 77 mX11_takeLetter X (ZS 77 mX11_takeLetter (qv fun σ2 => Fr 53 σ σ2 [59] [9, 10, 11] ∧ Vat σ2 59 0 (takeL v i) ∧ (σ2 53).1 10 = nI (v (19 + 5 * i)) ∧ (σ2 53).1 11 = nI (v (20 + 5 * i))) X) 43 [some (.ref 53), some (.int (nI i)), some (.int (nI j)), x3] [] σ1 := by
    intro m
    induction m with
    | zero =>
      intro j hj hij σ1 x3 hf hV h10 h11
      have e15 : (σ1 59).1 15 = nI (v 15 - 1) := hV.at0 15 (by decide)
      refine s_iload_n hX dX11_takeLetter_43 rfl ?_
      refine s_aload_n hX dX11_takeLetter_44 rfl ?_
      refine s_getR hX dX11_takeLetter_45 fl_X11_30 rfl rfl (by omega) ?_
      refine s_bipush (v := nI 15) hX dX11_takeLetter_48 (by decide) ?_
      refine s_iald (x := nI (v 15 - 1)) hX dX11_takeLetter_50 rfl (by omega) (by omega) (by decide) e15 ?_
      refine s_icmp_ge_n (tgt := 94) hX dX11_takeLetter_51 (by decide) (by omega) (by omega) (fun q51 => ?_) (fun q51 => ?_)
      · refine s_iconst (v := nI 0) hX dX11_takeLetter_94 (by decide) ?_
        refine s_istore_n hX dX11_takeLetter_95 (Nat.le_of_ble_eq_true rfl) rfl st_4_2 ?_
        refine ZER 5 0 (by omega) σ1 x3 hf (fun q hq => ?_) h10 h11
        rw [hV.at0 q hq, show j = v 15 - 1 by omega]
        by_cases e2 : 16 + 5 * (v 15 - 1) + 0 ≤ q ∧ q < 16 + 5 * (v 15 - 1) + 5
        · rw [if_pos e2]
        · rw [if_neg e2, tkW_z hv hi hq (by decide), if_neg e2]
      · omega
    | succ m ih =>
      intro j hj hij σ1 x3 hf hV h10 h11
      have e15 : (σ1 59).1 15 = nI (v 15 - 1) := hV.at0 15 (by decide)
      have IN : ∀ d w, w + d = 5 → ∀ σ2, Fr 53 σ σ2 [59] [9, 10, 11] → Vat σ2 59 0 (tkW v i j w) → (σ2 53).1 10 = nI (v (19 + 5 * i)) → (σ2 53).1 11 = nI (v (20 + 5 * i)) → Sw 77 mX11_takeLetter X (ZS 77 mX11_takeLetter (qv fun σ2 => Fr 53 σ σ2 [59] [9, 10, 11] ∧ Vat σ2 59 0 (takeL v i) ∧ (σ2 53).1 10 = nI (v (19 + 5 * i)) ∧ (σ2 53).1 11 = nI (v (20 + 5 * i))) X) 56 [some (.ref 53), some (.int (nI i)), some (.int (nI j)), some (.int (nI w))] [] σ2 := by
        intro d
        induction d with
        | zero =>
          intro w hw σ2 hf2 hV2 h10 h11
          refine s_iload_n hX dX11_takeLetter_56 rfl ?_
          refine s_iconst (v := nI 5) hX dX11_takeLetter_57 (by decide) ?_
          refine s_icmp_ge_n (tgt := 88) hX dX11_takeLetter_58 (by decide) (by omega) (by omega) (fun q58 => ?_) (fun q58 => ?_)
          · refine s_iinc_n (c := 1) hX dX11_takeLetter_88 rfl (by decide) rfl st_4_2 ?_
            refine s_goto (tgt := 43) hX dX11_takeLetter_91 (by decide) ?_
            refine ih (j + 1) (by omega) (by omega) σ2 _ hf2 ?_ h10 h11
            rw [← tkW_5, ← show w = 5 by omega]
            exact hV2
          · omega
        | succ d ihd =>
          intro w hw σ2 hf2 hV2 h10 h11
          refine s_iload_n hX dX11_takeLetter_56 rfl ?_
          refine s_iconst (v := nI 5) hX dX11_takeLetter_57 (by decide) ?_
          refine s_icmp_ge_n (tgt := 88) hX dX11_takeLetter_58 (by decide) (by omega) (by omega) (fun q58 => ?_) (fun q58 => ?_)
          · omega
          · refine s_aload_n hX dX11_takeLetter_61 rfl ?_
            refine s_getR hX dX11_takeLetter_62 fl_X11_30 rfl rfl (by omega) ?_
            refine s_bipush (v := nI 16) hX dX11_takeLetter_65 (by decide) ?_
            refine s_iconst (v := nI 5) hX dX11_takeLetter_67 (by decide) ?_
            refine s_iload_n hX dX11_takeLetter_68 rfl ?_
            refine s_imul_n hX dX11_takeLetter_69 ?_
            refine s_iadd_n hX dX11_takeLetter_70 ?_
            refine s_iload_n hX dX11_takeLetter_71 rfl ?_
            refine s_iadd_n hX dX11_takeLetter_72 ?_
            refine s_aload_n hX dX11_takeLetter_73 rfl ?_
            refine s_iload_n hX dX11_takeLetter_74 rfl ?_
            refine s_iconst (v := nI 1) hX dX11_takeLetter_75 (by decide) ?_
            refine s_iadd_n hX dX11_takeLetter_76 ?_
            refine s_iload_n hX dX11_takeLetter_77 rfl ?_
            refine s_callVi (as := [_, _]) hX dX11_takeLetter_78 mk_X11_letterAt lk_X11_105 (c_X11_letterAt hV2 (j + 1) w (by omega)) rfl (by omega) rfl rfl rfl ⟨rfl, rfl⟩ (Nat.le_of_ble_eq_true rfl) (Nat.le_of_ble_eq_true rfl) (Nat.le_of_ble_eq_true rfl) rfl (fun v78 σ78 p78 => ?_)
            obtain ⟨rfl, rfl⟩ := p78
            rw [show tkW v i j w (16 + 5 * (j + 1) + w) = v (16 + 5 * (j + 1) + w) by unfold tkW; rw [if_neg (by omega), if_neg (by omega)]]
            refine s_iast hX dX11_takeLetter_81 rfl (by omega) (by omega) (by decide) ?_
            refine s_gen (fun σ3 e3 => ?_)
            have h3 := hV2.upd (k := 16 + 5 * j + w) (x := v (16 + 5 * (j + 1) + w))
            rw [tkW_s hij] at h3
            have hf3 := hf2.wI (a := 59) (k := 16 + 5 * j + w) (x := nI (v (16 + 5 * (j + 1) + w))) (by decide) (by decide)
            have e53 : σ3 53 = σ78 53 := by rw [e3]; exact wI_a _ _ (by decide)
            rw [← e3] at h3 hf3
            refine s_iinc_n (c := 1) hX dX11_takeLetter_82 rfl (by decide) rfl st_4_3 ?_
            refine s_goto (tgt := 56) hX dX11_takeLetter_85 (by decide) ?_
            exact ihd (w + 1) (by omega) σ3 hf3 h3 (by rw [e53]; exact h10) (by rw [e53]; exact h11)
      refine s_iload_n hX dX11_takeLetter_43 rfl ?_
      refine s_aload_n hX dX11_takeLetter_44 rfl ?_
      refine s_getR hX dX11_takeLetter_45 fl_X11_30 rfl rfl (by omega) ?_
      refine s_bipush (v := nI 15) hX dX11_takeLetter_48 (by decide) ?_
      refine s_iald (x := nI (v 15 - 1)) hX dX11_takeLetter_50 rfl (by omega) (by omega) (by decide) e15 ?_
      refine s_icmp_ge_n (tgt := 94) hX dX11_takeLetter_51 (by decide) (by omega) (by omega) (fun q51 => ?_) (fun q51 => ?_)
      · omega
      · refine s_iconst (v := nI 0) hX dX11_takeLetter_54 (by decide) ?_
        refine s_istore_n hX dX11_takeLetter_55 (Nat.le_of_ble_eq_true rfl) rfl st_4_3 ?_
        exact IN 5 0 (by omega) σ1 hf hV h10 h11
  refine s_aload_n hX dX11_takeLetter_0 rfl ?_
  refine s_aload_n hX dX11_takeLetter_1 rfl ?_
  refine s_iload_n hX dX11_takeLetter_2 rfl ?_
  refine s_iconst (v := nI 0) hX dX11_takeLetter_3 (by decide) ?_
  refine s_callVi (as := [_, _]) hX dX11_takeLetter_4 mk_X11_letterAt lk_X11_105 (c_X11_letterAt hN i 0 (by omega)) rfl (by omega) rfl rfl rfl ⟨rfl, rfl⟩ (Nat.le_of_ble_eq_true rfl) (Nat.le_of_ble_eq_true rfl) (Nat.le_of_ble_eq_true rfl) rfl (fun v4 σ4 p4 => ?_)
  obtain ⟨rfl, rfl⟩ := p4
  refine s_putI hX dX11_takeLetter_7 fl_X11_130 rfl rfl (by omega) rfl rfl ?_
  refine s_gen (fun σ1 e1 => ?_)
  have hf1 := (Fr.rf (o := 53) (σ := σ4) (S := [59]) (K := [9, 10, 11])).put (k := 9) (x := nI (v (16 + 5 * i + 0))) (by decide)
  have hN1 := hN.kept (σ2 := σ1) (by rw [e1]; exact wI_a _ _ (by decide))
  rw [← e1] at hf1
  clear e1
  refine s_aload_n hX dX11_takeLetter_10 rfl ?_
  refine s_aload_n hX dX11_takeLetter_11 rfl ?_
  refine s_iload_n hX dX11_takeLetter_12 rfl ?_
  refine s_iconst (v := nI 3) hX dX11_takeLetter_13 (by decide) ?_
  refine s_callVi (as := [_, _]) hX dX11_takeLetter_14 mk_X11_letterAt lk_X11_105 (c_X11_letterAt hN1 i 3 (by omega)) rfl (by omega) rfl rfl rfl ⟨rfl, rfl⟩ (Nat.le_of_ble_eq_true rfl) (Nat.le_of_ble_eq_true rfl) (Nat.le_of_ble_eq_true rfl) rfl (fun v14 σ14 p14 => ?_)
  obtain ⟨rfl, rfl⟩ := p14
  rw [show 16 + 5 * i + 3 = 19 + 5 * i by omega]
  refine s_putI hX dX11_takeLetter_17 fl_X11_133 rfl rfl (by omega) rfl rfl ?_
  refine s_gen (fun σ2 e2 => ?_)
  have hf2 := hf1.put (k := 10) (x := nI (v (19 + 5 * i))) (by decide)
  have hN2 := hN1.kept (σ2 := σ2) (by rw [e2]; exact wI_a _ _ (by decide))
  have h10 : (σ2 53).1 10 = nI (v (19 + 5 * i)) := by rw [e2, wI_s]
  rw [← e2] at hf2
  clear e2
  refine s_aload_n hX dX11_takeLetter_20 rfl ?_
  refine s_aload_n hX dX11_takeLetter_21 rfl ?_
  refine s_iload_n hX dX11_takeLetter_22 rfl ?_
  refine s_iconst (v := nI 4) hX dX11_takeLetter_23 (by decide) ?_
  refine s_callVi (as := [_, _]) hX dX11_takeLetter_24 mk_X11_letterAt lk_X11_105 (c_X11_letterAt hN2 i 4 (by omega)) rfl (by omega) rfl rfl rfl ⟨rfl, rfl⟩ (Nat.le_of_ble_eq_true rfl) (Nat.le_of_ble_eq_true rfl) (Nat.le_of_ble_eq_true rfl) rfl (fun v24 σ24 p24 => ?_)
  obtain ⟨rfl, rfl⟩ := p24
  rw [show 16 + 5 * i + 4 = 20 + 5 * i by omega]
  refine s_putI hX dX11_takeLetter_27 fl_X11_136 rfl rfl (by omega) rfl rfl ?_
  refine s_gen (fun σ3 e3 => ?_)
  have hf3 := hf2.put (k := 11) (x := nI (v (20 + 5 * i))) (by decide)
  have hN3 := hN2.kept (σ2 := σ3) (by rw [e3]; exact wI_a _ _ (by decide))
  have h11 : (σ3 53).1 11 = nI (v (20 + 5 * i)) := by rw [e3, wI_s]
  have h10 : (σ3 53).1 10 = nI (v (19 + 5 * i)) := by rw [e3, wI_k _ _ (by decide)]; exact h10
  rw [← e3] at hf3
  clear e3
  refine s_aload_n hX dX11_takeLetter_30 rfl ?_
  refine s_getR hX dX11_takeLetter_31 fl_X11_30 rfl rfl (by omega) ?_
  refine s_bipush (v := nI 15) hX dX11_takeLetter_34 (by decide) ?_
  refine s_dup2 hX dX11_takeLetter_36 rfl rfl ?_
  refine s_iald (x := nI (v 15)) hX dX11_takeLetter_37 rfl (by omega) (by omega) (by decide) (hN3.at0 15 (by decide)) ?_
  refine s_iconst (v := nI 1) hX dX11_takeLetter_38 (by decide) ?_
  refine s_isub_n hX dX11_takeLetter_39 (by omega) ?_
  refine s_iast hX dX11_takeLetter_40 rfl (by omega) (by omega) (by decide) ?_
  refine s_gen (fun σ5 e5 => ?_)
  have hV5 := hN3.upd (k := 15) (x := v 15 - 1)
  have hf5 := hf3.wI (a := 59) (k := 15) (x := nI (v 15 - 1)) (by decide) (by decide)
  have h10 : (σ5 53).1 10 = nI (v (19 + 5 * i)) := by rw [e5, wI_a _ _ (by decide)]; exact h10
  have h11 : (σ5 53).1 11 = nI (v (20 + 5 * i)) := by rw [e5, wI_a _ _ (by decide)]; exact h11
  rw [← e5] at hV5 hf5
  clear e5
  rw [← tkW_0 v i] at hV5
  refine s_iload_n hX dX11_takeLetter_41 rfl ?_
  refine s_istore_n hX dX11_takeLetter_42 (Nat.le_of_ble_eq_true rfl) rfl st_4_2 ?_
  exact OUT (v 15 - 1 - i) i (by omega) (Nat.le_refl i) σ5 _ hf5 hV5 h10 h11
