def StM (σ : Sg) (l : List Sp) : Prop := (σ 53).1 16 = nI l.length ∧ ∀ (i : Nat) (s : Sp), l[i]? = some s → (σ 62).1 i = nI s.1 ∧ (σ 63).1 i = nI s.2.1 ∧ (σ 64).1 i = frI s ∧ (σ 65).1 i = ltI s
theorem StM.kept {σ σ2 : Sg} {l : List Sp} (h : StM σ l) (e : (σ2 53).1 16 = (σ 53).1 16) (e1 : σ2 62 = σ 62) (e2 : σ2 63 = σ 63) (e3 : σ2 64 = σ 64) (e4 : σ2 65 = σ 65) : StM σ2 l := ⟨e.trans h.1, by rw [e1, e2, e3, e4]; exact h.2⟩
theorem StM.fr {σ σ2 : Sg} {l : List Sp} {S K : List Nat} (h : StM σ l) (f : Fr 53 σ σ2 S K) (hk : 16 ∉ K) (h1 : 62 ∉ S) (h2 : 63 ∉ S) (h3 : 64 ∉ S) (h4 : 65 ∉ S) : StM σ2 l := h.kept (f.2.1 16 hk) (f.1 62 h1 (by decide)) (f.1 63 h2 (by decide)) (f.1 64 h3 (by decide)) (f.1 65 h4 (by decide))
theorem Fr.off53 {σ σ2 : Sg} {S K : List Nat} (h : Fr 53 σ σ2 S K) : Off σ σ2 (53 :: S) := fun a ha => h.1 a (fun q => ha (List.mem_cons_of_mem _ q)) (fun q => ha (q ▸ List.mem_cons_self))
set_option maxRecDepth 100000 in
set_option maxHeartbeats 4000000 in
theorem c_X11_addStep {σ : Sg} {l : List Sp} (hs : StM σ l) (hl : l.length < 20) (s : Sp) : Sm 77 mX11_addStep [.ref 53, .int (nI s.1), .int (nI s.2.1), .int (frI s), .int (ltI s)] σ (qv fun σ2 => StM σ2 (l ++ [s]) ∧ Fr 53 σ σ2 [62, 63, 64, 65] [16]) := by
  refine Sm.of mk_X11_addStep (Nat.le_of_ble_eq_true rfl) rfl (fun X hX => ?_)
  refine s_aload_n hX dX11_addStep_0 rfl ?_
  refine s_getR hX dX11_addStep_1 fl_X11_39 rfl rfl (by omega) ?_
  refine s_aload_n hX dX11_addStep_4 rfl ?_
  refine s_getI (x := nI (l.length)) hX dX11_addStep_5 fl_X11_109 rfl rfl (by omega) hs.1 ?_
  refine s_iload_n hX dX11_addStep_8 rfl ?_
  refine s_iast hX dX11_addStep_9 rfl (by omega) (by omega) (by decide) ?_
  refine s_aload_n hX dX11_addStep_10 rfl ?_
  refine s_getR hX dX11_addStep_11 fl_X11_42 rfl rfl (by omega) ?_
  refine s_aload_n hX dX11_addStep_14 rfl ?_
  refine s_getI (x := nI (l.length)) hX dX11_addStep_15 fl_X11_109 rfl rfl (by omega) (by rw [wI_a _ _ (by decide)]; exact hs.1) ?_
  refine s_iload_n hX dX11_addStep_18 rfl ?_
  refine s_iast hX dX11_addStep_19 rfl (by omega) (by omega) (by decide) ?_
  refine s_aload_n hX dX11_addStep_20 rfl ?_
  refine s_getR hX dX11_addStep_21 fl_X11_45 rfl rfl (by omega) ?_
  refine s_aload_n hX dX11_addStep_24 rfl ?_
  refine s_getI (x := nI (l.length)) hX dX11_addStep_25 fl_X11_109 rfl rfl (by omega) (by rw [wI_a _ _ (by decide), wI_a _ _ (by decide)]; exact hs.1) ?_
  refine s_iload_n hX dX11_addStep_28 rfl ?_
  refine s_iast hX dX11_addStep_29 rfl (by omega) (by omega) (by decide) ?_
  refine s_aload_n hX dX11_addStep_30 rfl ?_
  refine s_getR hX dX11_addStep_31 fl_X11_48 rfl rfl (by omega) ?_
  refine s_aload_n hX dX11_addStep_34 rfl ?_
  refine s_getI (x := nI (l.length)) hX dX11_addStep_35 fl_X11_109 rfl rfl (by omega) (by rw [wI_a _ _ (by decide), wI_a _ _ (by decide), wI_a _ _ (by decide)]; exact hs.1) ?_
  refine s_iload hX dX11_addStep_38 rfl ?_
  refine s_iast hX dX11_addStep_40 rfl (by omega) (by omega) (by decide) ?_
  refine s_aload_n hX dX11_addStep_41 rfl ?_
  refine s_dup hX dX11_addStep_42 rfl ?_
  refine s_getI (x := nI (l.length)) hX dX11_addStep_43 fl_X11_109 rfl rfl (by omega) (by rw [wI_a _ _ (by decide), wI_a _ _ (by decide), wI_a _ _ (by decide), wI_a _ _ (by decide)]; exact hs.1) ?_
  refine s_iconst (v := nI 1) hX dX11_addStep_46 (by decide) ?_
  refine s_iadd_n hX dX11_addStep_47 ?_
  refine s_putI hX dX11_addStep_48 fl_X11_109 rfl rfl (by omega) rfl rfl ?_
  refine s_vret hX dX11_addStep_51 rfl rfl ?_
  refine ⟨⟨by rw [wI_s, List.length_append, List.length_singleton], fun i t ht => ?_⟩, ?_⟩
  · by_cases h : i < l.length
    · rw [List.getElem?_append_left h] at ht
      have hz : i ≠ l.length := by omega
      have := hs.2 i t ht
      simpa [wI, va_up, upd, hz] using this
    · rw [List.getElem?_append_right (by omega)] at ht
      have hz : i = l.length := by
        have := (List.getElem?_eq_some_iff.mp ht).1
        simp at this; omega
      subst hz
      rw [Nat.sub_self] at ht
      cases ht
      simp [wI, va_up, upd]
  · exact (((((Fr.rf (o := 53) (σ := σ)).wI (by decide) (by decide)).wI (by decide) (by decide)).wI (by decide) (by decide)).wI (by decide) (by decide)).put (by decide)
set_option maxRecDepth 100000 in
set_option maxHeartbeats 4000000 in
theorem c_X11_compareLetters {n : Nat} {σ : Sg} {a b : Nat} (ha : a < 2 ^ 31) (hb : b < 2 ^ 31) : Sm n mX11_compareLetters [.int (nI a), .int (nI b)] σ (qi fun r σ2 => ((r < 0 ↔ a < b) ∧ (r = 0 ↔ a = b)) ∧ σ2 = σ) := by
  refine Sm.of mk_X11_compareLetters (Nat.le_of_ble_eq_true rfl) rfl (fun X hX => ?_)
  refine s_iload_n hX dX11_compareLetters_0 rfl ?_
  refine s_iload_n hX dX11_compareLetters_1 rfl ?_
  refine s_icmp_ge_n (tgt := 9) hX dX11_compareLetters_2 (by decide) (by omega) (by omega) (fun q2 => ?_) (fun q2 => ?_)
  · refine s_iload_n hX dX11_compareLetters_9 rfl ?_
    refine s_iload_n hX dX11_compareLetters_10 rfl ?_
    refine s_icmp_le_n (tgt := 18) hX dX11_compareLetters_11 (by decide) (by omega) (by omega) (fun q11 => ?_) (fun q11 => ?_)
    · refine s_iconst (v := nI 0) hX dX11_compareLetters_18 (by decide) ?_
      refine s_iret hX dX11_compareLetters_19 rfl rfl ?_
      first
        | exact ⟨⟨⟨fun h => absurd h (by decide), fun h => by omega⟩, ⟨fun h => absurd h (by decide), fun h => by omega⟩⟩, rfl⟩
        | exact ⟨⟨⟨fun h => absurd h (by decide), fun h => by omega⟩, ⟨fun h => by omega, fun h => rfl⟩⟩, rfl⟩
        | exact ⟨⟨⟨fun h => by omega, fun h => by decide⟩, ⟨fun h => absurd h (by decide), fun h => by omega⟩⟩, rfl⟩
    · refine s_iconst (v := nI 1) hX dX11_compareLetters_14 (by decide) ?_
      refine s_goto (tgt := 19) hX dX11_compareLetters_15 (by decide) ?_
      refine s_iret hX dX11_compareLetters_19 rfl rfl ?_
      first
        | exact ⟨⟨⟨fun h => absurd h (by decide), fun h => by omega⟩, ⟨fun h => absurd h (by decide), fun h => by omega⟩⟩, rfl⟩
        | exact ⟨⟨⟨fun h => absurd h (by decide), fun h => by omega⟩, ⟨fun h => by omega, fun h => rfl⟩⟩, rfl⟩
        | exact ⟨⟨⟨fun h => by omega, fun h => by decide⟩, ⟨fun h => absurd h (by decide), fun h => by omega⟩⟩, rfl⟩
  · refine s_iconst (v := -1) hX dX11_compareLetters_5 (by decide) ?_
    refine s_goto (tgt := 19) hX dX11_compareLetters_6 (by decide) ?_
    refine s_iret hX dX11_compareLetters_19 rfl rfl ?_
    first
      | exact ⟨⟨⟨fun h => absurd h (by decide), fun h => by omega⟩, ⟨fun h => absurd h (by decide), fun h => by omega⟩⟩, rfl⟩
      | exact ⟨⟨⟨fun h => absurd h (by decide), fun h => by omega⟩, ⟨fun h => by omega, fun h => rfl⟩⟩, rfl⟩
      | exact ⟨⟨⟨fun h => by omega, fun h => by decide⟩, ⟨fun h => absurd h (by decide), fun h => by omega⟩⟩, rfl⟩
set_option maxRecDepth 100000 in
set_option maxHeartbeats 4000000 in
theorem c_X11_isAhead {σ : Sg} {pr : Pr} {v : Vc} (hp : PrM σ pr) (hk : PrOk pr) (hN : Vat σ 59 0 v) {k f t u w j : Nat} (hj : j < 8) (hk0 : k < 16) (hf : f ≤ 4) (ht : t ≤ 4) (hu : u ≤ 4) (hw : w ≤ 4) (g0 : v (16 + 5 * j) < 16) (g1 : v (17 + 5 * j) ≤ 4) (g2 : v (18 + 5 * j) ≤ 4) (g3 : v (19 + 5 * j) ≤ 4) (g4 : v (20 + 5 * j) ≤ 4) : Sm 77 mX11_isAhead [.ref 53, .int (nI k), .int (nI f), .int (nI t), .int (nI u), .int (nI w), .int (nI j)] σ (qi fun r σ2 => r = bI (ahF pr v (k, f, t, u, w) j) ∧ σ2 = σ) := by
  refine Sm.of mk_X11_isAhead (Nat.le_of_ble_eq_true rfl) rfl (fun X hX => ?_)
  have hlo := hk.2.1
  have hlk := hlo k
  have hlj := hlo (v (16 + 5 * j))
  have J153 : ∀ (c : Int32) (x7 : Option Value), ((c < 0 ↔ ahF pr v (k, f, t, u, w) j = true)) → Sw 77 mX11_isAhead X (ZS 77 mX11_isAhead (qi fun r σ2 => r = bI (ahF pr v (k, f, t, u, w) j) ∧ σ2 = σ) X) 153 [some (.ref 53), some (.int (nI k)), some (.int (nI f)), some (.int (nI t)), some (.int (nI u)), some (.int (nI w)), some (.int (nI j)), x7] [.int c] σ := by
    intro c x7 hc
    refine s_istore hX dX11_isAhead_153 (Nat.le_of_ble_eq_true rfl) rfl st_8_7 ?_
    refine s_iload hX dX11_isAhead_155 rfl ?_
    refine s_if_ge (tgt := 164) hX dX11_isAhead_157 (by decide) (fun q157 => ?_) (fun q157 => ?_)
    · refine s_iconst (v := nI 0) hX dX11_isAhead_164 (by decide) ?_
      refine s_zret hX dX11_isAhead_165 rfl (by first | exact Or.inl rfl | exact Or.inr rfl) rfl ?_
      refine ⟨?_, rfl⟩
      first
        | (rw [hc.mp (by first | exact Int32.not_le.mp q157)]; rfl)
        | (cases hh : ahF pr v (k, f, t, u, w) j with
           | true => exact absurd (hc.mpr hh) (by first | exact Int32.not_lt.mpr q157)
           | false => rfl)
    · refine s_iconst (v := nI 1) hX dX11_isAhead_160 (by decide) ?_
      refine s_goto (tgt := 165) hX dX11_isAhead_161 (by decide) ?_
      refine s_zret hX dX11_isAhead_165 rfl (by first | exact Or.inl rfl | exact Or.inr rfl) rfl ?_
      refine ⟨?_, rfl⟩
      first
        | (rw [hc.mp (by first | exact Int32.not_le.mp q157)]; rfl)
        | (cases hh : ahF pr v (k, f, t, u, w) j with
           | true => exact absurd (hc.mpr hh) (by first | exact Int32.not_lt.mpr q157)
           | false => rfl)
  have J129 : ∀ (c : Int32) (x7 : Option Value), pLo pr k ≠ 0 → f = v (17 + 5 * j) → t = v (18 + 5 * j) → pLo pr k = pLo pr (v (16 + 5 * j)) → (c < 0 ↔ (k < v (16 + 5 * j) ∨ (k = v (16 + 5 * j) ∧ u < v (19 + 5 * j)))) → (c = 0 ↔ (k = v (16 + 5 * j) ∧ u = v (19 + 5 * j))) → Sw 77 mX11_isAhead X (ZS 77 mX11_isAhead (qi fun r σ2 => r = bI (ahF pr v (k, f, t, u, w) j) ∧ σ2 = σ) X) 129 [some (.ref 53), some (.int (nI k)), some (.int (nI f)), some (.int (nI t)), some (.int (nI u)), some (.int (nI w)), some (.int (nI j)), x7] [.int c] σ := by
    intro c x7 z0 z1 z2 z3 h1 h2
    have hA : ahF pr v (k, f, t, u, w) j = (if k ≠ v (16 + 5 * j) then decide (k < v (16 + 5 * j)) else if u ≠ v (19 + 5 * j) then decide (u < v (19 + 5 * j)) else decide (w < v (20 + 5 * j))) := by
      unfold ahF
      dsimp only
      rw [if_neg (by simp [z1]), if_neg (by simp [z2]), if_neg (by simp [z3]), if_neg z0]
    refine s_istore hX dX11_isAhead_129 (Nat.le_of_ble_eq_true rfl) rfl st_8_7 ?_
    refine s_iload hX dX11_isAhead_131 rfl ?_
    refine s_if_eq (tgt := 141) hX dX11_isAhead_133 (by decide) (fun q133 => ?_) (fun q133 => ?_)
    · refine s_iload hX dX11_isAhead_141 rfl ?_
      refine s_aload_n hX dX11_isAhead_143 rfl ?_
      refine s_iload hX dX11_isAhead_144 rfl ?_
      refine s_iconst (v := nI 4) hX dX11_isAhead_146 (by decide) ?_
      refine s_callVi (as := [_, _]) hX dX11_isAhead_147 mk_X11_letterAt lk_X11_105 (c_X11_letterAt hN j 4 (by omega)) rfl (by omega) rfl rfl rfl ⟨rfl, rfl⟩ (Nat.le_of_ble_eq_true rfl) (Nat.le_of_ble_eq_true rfl) (Nat.le_of_ble_eq_true rfl) rfl (fun v147 σ147 p147 => ?_)
      obtain ⟨rfl, rfl⟩ := p147
      rw [show 16 + 5 * (j) + 4 = 20 + 5 * (j) by omega]
      refine s_callSi (as := [_, _]) hX dX11_isAhead_150 mk_X11_compareLetters lk_X11_123 (c_X11_compareLetters (a := w) (b := v (20 + 5 * j)) (by omega) (by omega)) rfl ⟨rfl, rfl⟩ (Nat.le_of_ble_eq_true rfl) (Nat.le_of_ble_eq_true rfl) (Nat.le_of_ble_eq_true rfl) rfl (fun v150 σ150 p150 => ?_)
      obtain ⟨g150, rfl⟩ := p150
      first
        | (refine J153 _ _ ?_
           rw [hA]
           have hz := h2.mp q133
           rw [if_neg (by simp [hz.1]), if_neg (by simp [hz.2])]
           simp only [decide_eq_true_eq]
           exact g150.1)
        | (refine J153 _ _ ?_
           rw [hA]
           by_cases y1 : k = v (16 + 5 * j)
           · have y2 : u ≠ v (19 + 5 * j) := fun y => q133 (h2.mpr ⟨y1, y⟩)
             rw [if_neg (by simp [y1]), if_pos y2]
             simp only [decide_eq_true_eq]
             rw [h1]
             omega
           · rw [if_pos y1]
             simp only [decide_eq_true_eq]
             rw [h1]
             omega)
    · refine s_iload hX dX11_isAhead_136 rfl ?_
      refine s_goto (tgt := 153) hX dX11_isAhead_138 (by decide) ?_
      first
        | (refine J153 _ _ ?_
           rw [hA]
           have hz := h2.mp q133
           rw [if_neg (by simp [hz.1]), if_neg (by simp [hz.2])]
           simp only [decide_eq_true_eq]
           exact g150.1)
        | (refine J153 _ _ ?_
           rw [hA]
           by_cases y1 : k = v (16 + 5 * j)
           · have y2 : u ≠ v (19 + 5 * j) := fun y => q133 (h2.mpr ⟨y1, y⟩)
             rw [if_neg (by simp [y1]), if_pos y2]
             simp only [decide_eq_true_eq]
             rw [h1]
             omega
           · rw [if_pos y1]
             simp only [decide_eq_true_eq]
             rw [h1]
             omega)
  have J67 : ∀ (c : Int32) (x7 : Option Value), (c < 0 ↔ (f < v (17 + 5 * j) ∨ (f = v (17 + 5 * j) ∧ (t < v (18 + 5 * j) ∨ (t = v (18 + 5 * j) ∧ pLo pr k < pLo pr (v (16 + 5 * j))))))) → (c = 0 ↔ (f = v (17 + 5 * j) ∧ t = v (18 + 5 * j) ∧ pLo pr k = pLo pr (v (16 + 5 * j)))) → Sw 77 mX11_isAhead X (ZS 77 mX11_isAhead (qi fun r σ2 => r = bI (ahF pr v (k, f, t, u, w) j) ∧ σ2 = σ) X) 67 [some (.ref 53), some (.int (nI k)), some (.int (nI f)), some (.int (nI t)), some (.int (nI u)), some (.int (nI w)), some (.int (nI j)), x7] [.int c] σ := by
    intro c x7 h1 h2
    refine s_istore hX dX11_isAhead_67 (Nat.le_of_ble_eq_true rfl) rfl st_8_7 ?_
    refine s_iload hX dX11_isAhead_69 rfl ?_
    refine s_if_ne (tgt := 83) hX dX11_isAhead_71 (by decide) (fun q71 => ?_) (fun q71 => ?_)
    · refine s_iload hX dX11_isAhead_83 rfl ?_
      refine s_if_ge (tgt := 92) hX dX11_isAhead_85 (by decide) (fun q85 => ?_) (fun q85 => ?_)
      · refine s_iconst (v := nI 0) hX dX11_isAhead_92 (by decide) ?_
        refine s_zret hX dX11_isAhead_93 rfl (by first | exact Or.inl rfl | exact Or.inr rfl) rfl ?_
        refine ⟨?_, rfl⟩
        have hA : (c < 0 ↔ ahF pr v (k, f, t, u, w) j = true) := by
          unfold ahF
          dsimp only
          rw [h1]
          by_cases y1 : f = v (17 + 5 * j)
          · rw [if_neg (by simp [y1])]
            by_cases y2 : t = v (18 + 5 * j)
            · rw [if_neg (by simp [y2])]
              by_cases y3 : pLo pr k = pLo pr (v (16 + 5 * j))
              · rw [if_neg (by simp [y3])]
                first
                  | (rw [if_pos (by assumption)]; simp; omega)
                  | exact absurd (h2.mpr ⟨y1, y2, y3⟩) (by assumption)
              · rw [if_pos y3]; simp only [decide_eq_true_eq]; omega
            · rw [if_pos y2]; simp only [decide_eq_true_eq]; omega
          · rw [if_pos y1]; simp only [decide_eq_true_eq]; omega
        first
          | (rw [hA.mp (Int32.not_le.mp q85)]; rfl)
          | (cases hh : ahF pr v (k, f, t, u, w) j with
             | true => exact absurd (hA.mpr hh) (Int32.not_lt.mpr q85)
             | false => rfl)
      · refine s_iconst (v := nI 1) hX dX11_isAhead_88 (by decide) ?_
        refine s_goto (tgt := 93) hX dX11_isAhead_89 (by decide) ?_
        refine s_zret hX dX11_isAhead_93 rfl (by first | exact Or.inl rfl | exact Or.inr rfl) rfl ?_
        refine ⟨?_, rfl⟩
        have hA : (c < 0 ↔ ahF pr v (k, f, t, u, w) j = true) := by
          unfold ahF
          dsimp only
          rw [h1]
          by_cases y1 : f = v (17 + 5 * j)
          · rw [if_neg (by simp [y1])]
            by_cases y2 : t = v (18 + 5 * j)
            · rw [if_neg (by simp [y2])]
              by_cases y3 : pLo pr k = pLo pr (v (16 + 5 * j))
              · rw [if_neg (by simp [y3])]
                first
                  | (rw [if_pos (by assumption)]; simp; omega)
                  | exact absurd (h2.mpr ⟨y1, y2, y3⟩) (by assumption)
              · rw [if_pos y3]; simp only [decide_eq_true_eq]; omega
            · rw [if_pos y2]; simp only [decide_eq_true_eq]; omega
          · rw [if_pos y1]; simp only [decide_eq_true_eq]; omega
        first
          | (rw [hA.mp (Int32.not_le.mp q85)]; rfl)
          | (cases hh : ahF pr v (k, f, t, u, w) j with
             | true => exact absurd (hA.mpr hh) (Int32.not_lt.mpr q85)
             | false => rfl)
    · refine s_aload_n hX dX11_isAhead_74 rfl ?_
      refine s_getR hX dX11_isAhead_75 fl_X11_13 rfl rfl (by omega) ?_
      refine s_iload_n hX dX11_isAhead_78 rfl ?_
      refine s_iald (x := nI (pLo pr k)) hX dX11_isAhead_79 rfl (by omega) (by omega) (by decide) (hp.2.1 k hk0) ?_
      refine s_if_ne_n (tgt := 94) hX dX11_isAhead_80 (by decide) (by omega) (fun q80 => ?_) (fun q80 => ?_)
      · refine s_iload_n hX dX11_isAhead_94 rfl ?_
        refine s_aload_n hX dX11_isAhead_95 rfl ?_
        refine s_iload hX dX11_isAhead_96 rfl ?_
        refine s_iconst (v := nI 0) hX dX11_isAhead_98 (by decide) ?_
        refine s_callVi (as := [_, _]) hX dX11_isAhead_99 mk_X11_letterAt lk_X11_105 (c_X11_letterAt hN j 0 (by omega)) rfl (by omega) rfl rfl rfl ⟨rfl, rfl⟩ (Nat.le_of_ble_eq_true rfl) (Nat.le_of_ble_eq_true rfl) (Nat.le_of_ble_eq_true rfl) rfl (fun v99 σ99 p99 => ?_)
        obtain ⟨rfl, rfl⟩ := p99
        rw [show 16 + 5 * (j) + 0 = 16 + 5 * (j) from rfl]
        refine s_callSi (as := [_, _]) hX dX11_isAhead_102 mk_X11_compareLetters lk_X11_123 (c_X11_compareLetters (a := k) (b := v (16 + 5 * j)) (by omega) (by omega)) rfl ⟨rfl, rfl⟩ (Nat.le_of_ble_eq_true rfl) (Nat.le_of_ble_eq_true rfl) (Nat.le_of_ble_eq_true rfl) rfl (fun v102 σ102 p102 => ?_)
        obtain ⟨g102, rfl⟩ := p102
        refine s_istore hX dX11_isAhead_105 (Nat.le_of_ble_eq_true rfl) rfl st_8_7 ?_
        refine s_iload hX dX11_isAhead_107 rfl ?_
        refine s_if_eq (tgt := 117) hX dX11_isAhead_109 (by decide) (fun q109 => ?_) (fun q109 => ?_)
        · refine s_iload hX dX11_isAhead_117 rfl ?_
          refine s_aload_n hX dX11_isAhead_119 rfl ?_
          refine s_iload hX dX11_isAhead_120 rfl ?_
          refine s_iconst (v := nI 3) hX dX11_isAhead_122 (by decide) ?_
          refine s_callVi (as := [_, _]) hX dX11_isAhead_123 mk_X11_letterAt lk_X11_105 (c_X11_letterAt hN j 3 (by omega)) rfl (by omega) rfl rfl rfl ⟨rfl, rfl⟩ (Nat.le_of_ble_eq_true rfl) (Nat.le_of_ble_eq_true rfl) (Nat.le_of_ble_eq_true rfl) rfl (fun v123 σ123 p123 => ?_)
          obtain ⟨rfl, rfl⟩ := p123
          rw [show 16 + 5 * (j) + 3 = 19 + 5 * (j) by omega]
          refine s_callSi (as := [_, _]) hX dX11_isAhead_126 mk_X11_compareLetters lk_X11_123 (c_X11_compareLetters (a := u) (b := v (19 + 5 * j)) (by omega) (by omega)) rfl ⟨rfl, rfl⟩ (Nat.le_of_ble_eq_true rfl) (Nat.le_of_ble_eq_true rfl) (Nat.le_of_ble_eq_true rfl) rfl (fun v126 σ126 p126 => ?_)
          obtain ⟨g126, rfl⟩ := p126
          have hz : c = 0 := by
            by_cases y : c = 0
            · exact y
            · exact absurd y q71
          obtain ⟨y1, y2, y3⟩ := h2.mp hz
          first
            | (refine J129 _ _ q80 y1 y2 y3 ?_ ?_
               · rw [g126.1]
                 have := g102.2.mp q109
                 omega
               · rw [g126.2]
                 have := g102.2.mp q109
                 omega)
            | (refine J129 _ _ q80 y1 y2 y3 ?_ ?_
               · rw [g102.1]
                 have : ¬ (k = v (16 + 5 * j)) := fun y => q109 (g102.2.mpr y)
                 omega
               · have : ¬ (k = v (16 + 5 * j)) := fun y => q109 (g102.2.mpr y)
                 exact ⟨fun y => absurd y q109, fun y => absurd y.1 this⟩)
        · refine s_iload hX dX11_isAhead_112 rfl ?_
          refine s_goto (tgt := 129) hX dX11_isAhead_114 (by decide) ?_
          have hz : c = 0 := by
            by_cases y : c = 0
            · exact y
            · exact absurd y q71
          obtain ⟨y1, y2, y3⟩ := h2.mp hz
          first
            | (refine J129 _ _ q80 y1 y2 y3 ?_ ?_
               · rw [g126.1]
                 have := g102.2.mp q109
                 omega
               · rw [g126.2]
                 have := g102.2.mp q109
                 omega)
            | (refine J129 _ _ q80 y1 y2 y3 ?_ ?_
               · rw [g102.1]
                 have : ¬ (k = v (16 + 5 * j)) := fun y => q109 (g102.2.mpr y)
                 omega
               · have : ¬ (k = v (16 + 5 * j)) := fun y => q109 (g102.2.mpr y)
                 exact ⟨fun y => absurd y q109, fun y => absurd y.1 this⟩)
      · refine s_iload hX dX11_isAhead_83 rfl ?_
        refine s_if_ge (tgt := 92) hX dX11_isAhead_85 (by decide) (fun q85 => ?_) (fun q85 => ?_)
        · refine s_iconst (v := nI 0) hX dX11_isAhead_92 (by decide) ?_
          refine s_zret hX dX11_isAhead_93 rfl (by first | exact Or.inl rfl | exact Or.inr rfl) rfl ?_
          refine ⟨?_, rfl⟩
          have hA : (c < 0 ↔ ahF pr v (k, f, t, u, w) j = true) := by
            unfold ahF
            dsimp only
            rw [h1]
            by_cases y1 : f = v (17 + 5 * j)
            · rw [if_neg (by simp [y1])]
              by_cases y2 : t = v (18 + 5 * j)
              · rw [if_neg (by simp [y2])]
                by_cases y3 : pLo pr k = pLo pr (v (16 + 5 * j))
                · rw [if_neg (by simp [y3])]
                  first
                    | (rw [if_pos (by assumption)]; simp; omega)
                    | exact absurd (h2.mpr ⟨y1, y2, y3⟩) (by assumption)
                · rw [if_pos y3]; simp only [decide_eq_true_eq]; omega
              · rw [if_pos y2]; simp only [decide_eq_true_eq]; omega
            · rw [if_pos y1]; simp only [decide_eq_true_eq]; omega
          first
            | (rw [hA.mp (Int32.not_le.mp q85)]; rfl)
            | (cases hh : ahF pr v (k, f, t, u, w) j with
               | true => exact absurd (hA.mpr hh) (Int32.not_lt.mpr q85)
               | false => rfl)
        · refine s_iconst (v := nI 1) hX dX11_isAhead_88 (by decide) ?_
          refine s_goto (tgt := 93) hX dX11_isAhead_89 (by decide) ?_
          refine s_zret hX dX11_isAhead_93 rfl (by first | exact Or.inl rfl | exact Or.inr rfl) rfl ?_
          refine ⟨?_, rfl⟩
          have hA : (c < 0 ↔ ahF pr v (k, f, t, u, w) j = true) := by
            unfold ahF
            dsimp only
            rw [h1]
            by_cases y1 : f = v (17 + 5 * j)
            · rw [if_neg (by simp [y1])]
              by_cases y2 : t = v (18 + 5 * j)
              · rw [if_neg (by simp [y2])]
                by_cases y3 : pLo pr k = pLo pr (v (16 + 5 * j))
                · rw [if_neg (by simp [y3])]
                  first
                    | (rw [if_pos (by assumption)]; simp; omega)
                    | exact absurd (h2.mpr ⟨y1, y2, y3⟩) (by assumption)
                · rw [if_pos y3]; simp only [decide_eq_true_eq]; omega
              · rw [if_pos y2]; simp only [decide_eq_true_eq]; omega
            · rw [if_pos y1]; simp only [decide_eq_true_eq]; omega
          first
            | (rw [hA.mp (Int32.not_le.mp q85)]; rfl)
            | (cases hh : ahF pr v (k, f, t, u, w) j with
               | true => exact absurd (hA.mpr hh) (Int32.not_lt.mpr q85)
               | false => rfl)
  have J34 : ∀ (c : Int32) (x7 : Option Value), (c < 0 ↔ (f < v (17 + 5 * j) ∨ (f = v (17 + 5 * j) ∧ t < v (18 + 5 * j)))) → (c = 0 ↔ (f = v (17 + 5 * j) ∧ t = v (18 + 5 * j))) → Sw 77 mX11_isAhead X (ZS 77 mX11_isAhead (qi fun r σ2 => r = bI (ahF pr v (k, f, t, u, w) j) ∧ σ2 = σ) X) 34 [some (.ref 53), some (.int (nI k)), some (.int (nI f)), some (.int (nI t)), some (.int (nI u)), some (.int (nI w)), some (.int (nI j)), x7] [.int c] σ := by
    intro c x7 h1 h2
    refine s_istore hX dX11_isAhead_34 (Nat.le_of_ble_eq_true rfl) rfl st_8_7 ?_
    refine s_iload hX dX11_isAhead_36 rfl ?_
    refine s_if_eq (tgt := 46) hX dX11_isAhead_38 (by decide) (fun q38 => ?_) (fun q38 => ?_)
    · refine s_aload_n hX dX11_isAhead_46 rfl ?_
      refine s_getR hX dX11_isAhead_47 fl_X11_13 rfl rfl (by omega) ?_
      refine s_iload_n hX dX11_isAhead_50 rfl ?_
      refine s_iald (x := nI (pLo pr k)) hX dX11_isAhead_51 rfl (by omega) (by omega) (by decide) (hp.2.1 k hk0) ?_
      refine s_aload_n hX dX11_isAhead_52 rfl ?_
      refine s_getR hX dX11_isAhead_53 fl_X11_13 rfl rfl (by omega) ?_
      refine s_aload_n hX dX11_isAhead_56 rfl ?_
      refine s_iload hX dX11_isAhead_57 rfl ?_
      refine s_iconst (v := nI 0) hX dX11_isAhead_59 (by decide) ?_
      refine s_callVi (as := [_, _]) hX dX11_isAhead_60 mk_X11_letterAt lk_X11_105 (c_X11_letterAt hN j 0 (by omega)) rfl (by omega) rfl rfl rfl ⟨rfl, rfl⟩ (Nat.le_of_ble_eq_true rfl) (Nat.le_of_ble_eq_true rfl) (Nat.le_of_ble_eq_true rfl) rfl (fun v60 σ60 p60 => ?_)
      obtain ⟨rfl, rfl⟩ := p60
      rw [show 16 + 5 * (j) + 0 = 16 + 5 * (j) from rfl]
      refine s_iald (x := nI (pLo pr (v (16 + 5 * j)))) hX dX11_isAhead_63 rfl (by omega) (by omega) (by decide) (hp.2.1 _ g0) ?_
      refine s_callSi (as := [_, _]) hX dX11_isAhead_64 mk_X11_compareLetters lk_X11_123 (c_X11_compareLetters (a := pLo pr k) (b := pLo pr (v (16 + 5 * j))) (by omega) (by omega)) rfl ⟨rfl, rfl⟩ (Nat.le_of_ble_eq_true rfl) (Nat.le_of_ble_eq_true rfl) (Nat.le_of_ble_eq_true rfl) rfl (fun v64 σ64 p64 => ?_)
      obtain ⟨g64, rfl⟩ := p64
      first
        | (have hz := h2.mp q38
           refine J67 _ _ ?_ ?_
           · rw [g64.1]; omega
           · rw [g64.2]; omega)
        | (refine J67 _ _ ?_ ?_
           · rw [h1]
             by_cases y1 : f = v (17 + 5 * j)
             · have y2 : t ≠ v (18 + 5 * j) := fun y => q38 (h2.mpr ⟨y1, y⟩)
               omega
             · omega
           · exact ⟨fun y => absurd y q38, fun y => absurd (h2.mpr ⟨y.1, y.2.1⟩) q38⟩)
    · refine s_iload hX dX11_isAhead_41 rfl ?_
      refine s_goto (tgt := 67) hX dX11_isAhead_43 (by decide) ?_
      first
        | (have hz := h2.mp q38
           refine J67 _ _ ?_ ?_
           · rw [g64.1]; omega
           · rw [g64.2]; omega)
        | (refine J67 _ _ ?_ ?_
           · rw [h1]
             by_cases y1 : f = v (17 + 5 * j)
             · have y2 : t ≠ v (18 + 5 * j) := fun y => q38 (h2.mpr ⟨y1, y⟩)
               omega
             · omega
           · exact ⟨fun y => absurd y q38, fun y => absurd (h2.mpr ⟨y.1, y.2.1⟩) q38⟩)
  refine s_iload_n hX dX11_isAhead_0 rfl ?_
  refine s_aload_n hX dX11_isAhead_1 rfl ?_
  refine s_iload hX dX11_isAhead_2 rfl ?_
  refine s_iconst (v := nI 1) hX dX11_isAhead_4 (by decide) ?_
  refine s_callVi (as := [_, _]) hX dX11_isAhead_5 mk_X11_letterAt lk_X11_105 (c_X11_letterAt hN j 1 (by omega)) rfl (by omega) rfl rfl rfl ⟨rfl, rfl⟩ (Nat.le_of_ble_eq_true rfl) (Nat.le_of_ble_eq_true rfl) (Nat.le_of_ble_eq_true rfl) rfl (fun v5 σ5 p5 => ?_)
  obtain ⟨rfl, rfl⟩ := p5
  rw [show 16 + 5 * (j) + 1 = 17 + 5 * (j) by omega]
  refine s_callSi (as := [_, _]) hX dX11_isAhead_8 mk_X11_compareLetters lk_X11_123 (c_X11_compareLetters (a := f) (b := v (17 + 5 * j)) (by omega) (by omega)) rfl ⟨rfl, rfl⟩ (Nat.le_of_ble_eq_true rfl) (Nat.le_of_ble_eq_true rfl) (Nat.le_of_ble_eq_true rfl) rfl (fun v8 σ8 p8 => ?_)
  obtain ⟨g8, rfl⟩ := p8
  refine s_istore hX dX11_isAhead_11 (Nat.le_of_ble_eq_true rfl) rfl st_8_7 ?_
  refine s_iload hX dX11_isAhead_13 rfl ?_
  refine s_if_eq (tgt := 23) hX dX11_isAhead_15 (by decide) (fun q15 => ?_) (fun q15 => ?_)
  · refine s_iload_n hX dX11_isAhead_23 rfl ?_
    refine s_aload_n hX dX11_isAhead_24 rfl ?_
    refine s_iload hX dX11_isAhead_25 rfl ?_
    refine s_iconst (v := nI 2) hX dX11_isAhead_27 (by decide) ?_
    refine s_callVi (as := [_, _]) hX dX11_isAhead_28 mk_X11_letterAt lk_X11_105 (c_X11_letterAt hN j 2 (by omega)) rfl (by omega) rfl rfl rfl ⟨rfl, rfl⟩ (Nat.le_of_ble_eq_true rfl) (Nat.le_of_ble_eq_true rfl) (Nat.le_of_ble_eq_true rfl) rfl (fun v28 σ28 p28 => ?_)
    obtain ⟨rfl, rfl⟩ := p28
    rw [show 16 + 5 * (j) + 2 = 18 + 5 * (j) by omega]
    refine s_callSi (as := [_, _]) hX dX11_isAhead_31 mk_X11_compareLetters lk_X11_123 (c_X11_compareLetters (a := t) (b := v (18 + 5 * j)) (by omega) (by omega)) rfl ⟨rfl, rfl⟩ (Nat.le_of_ble_eq_true rfl) (Nat.le_of_ble_eq_true rfl) (Nat.le_of_ble_eq_true rfl) rfl (fun v31 σ31 p31 => ?_)
    obtain ⟨g31, rfl⟩ := p31
    first
      | (have hz := g8.2.mp q15
         refine J34 _ _ ?_ ?_
         · rw [g31.1]; omega
         · rw [g31.2]; omega)
      | (refine J34 _ _ ?_ ?_
         · rw [g8.1]
           have : ¬ (f = v (17 + 5 * j)) := fun y => q15 (g8.2.mpr y)
           omega
         · have : ¬ (f = v (17 + 5 * j)) := fun y => q15 (g8.2.mpr y)
           exact ⟨fun y => absurd y q15, fun y => absurd y.1 this⟩)
  · refine s_iload hX dX11_isAhead_18 rfl ?_
    refine s_goto (tgt := 34) hX dX11_isAhead_20 (by decide) ?_
    first
      | (have hz := g8.2.mp q15
         refine J34 _ _ ?_ ?_
         · rw [g31.1]; omega
         · rw [g31.2]; omega)
      | (refine J34 _ _ ?_ ?_
         · rw [g8.1]
           have : ¬ (f = v (17 + 5 * j)) := fun y => q15 (g8.2.mpr y)
           omega
         · have : ¬ (f = v (17 + 5 * j)) := fun y => q15 (g8.2.mpr y)
           exact ⟨fun y => absurd y q15, fun y => absurd y.1 this⟩)
