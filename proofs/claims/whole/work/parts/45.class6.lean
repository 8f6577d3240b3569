/-! ===== scenes of the class: a letter added, taken; a store; words ===== -/
def laF (c : Nat) : Nat := if c / 128 % 2 = 0 then c / 128 * 128 + 127 else c
theorem la_iff {pr : Pr} {v : Vc} {x : Lt} {j : Nat} (hk : PrOk pr) (hx : LtOk pr x) (hj : LtOk pr (ltA v j)) : laF (lcX pr x) < lcX pr (ltA v j) ↔ ahF pr v x j = true := by
  have e1 := lcX_ln hk hx
  have e2 := lcX_ln hk hj
  have e3 := lcX_lo hk hx
  obtain ⟨h1, h2, h3, h4, h5⟩ := hx
  obtain ⟨g1, g2, g3, g4, g5⟩ := hj
  have hP := hk.1.2
  have p1 := hk.2.1 x.1
  have p2 := hk.2.1 (v (16 + 5 * j))
  unfold laF
  rw [e3, e1]
  by_cases hl : pLo pr x.1 = 0
  · rw [if_pos hl]
    have : (128 + lnX pr x) * 128 + 127 < lcX pr (ltA v j) ↔ lnX pr x < lnX pr (ltA v j) := by omega
    rw [this]
    unfold ltA at *
    unfold ahF lnX
    dsimp only at *
    split
    · rw [decide_eq_true_iff]; omega
    · split
      · rw [decide_eq_true_iff]; omega
      · split
        · rw [decide_eq_true_iff]; omega
        · constructor
          · intro q; omega
          · intro q; cases q
  · rw [if_neg hl]
    unfold ltA at *
    unfold ahF lcX
    dsimp only at *
    clear e1 e2 e3
    split
    · rw [decide_eq_true_iff]; omega
    · split
      · rw [decide_eq_true_iff]; omega
      · split
        · rw [decide_eq_true_iff]; omega
        · split
          · rw [decide_eq_true_iff]; omega
          · split
            · rw [decide_eq_true_iff]; omega
            · rw [decide_eq_true_iff]; omega
theorem posR_eq {a : Nat → Bool} : ∀ {m p : Nat}, p ≤ m → (∀ j, p ≤ j → j < m → a j = true) → (0 < p → a (p - 1) = false) → posR a m = p
  | 0, p, hp, _, _ => by show 0 = p; omega
  | m + 1, p, hp, h1, h2 => by
    unfold posR
    by_cases e : p = m + 1
    · subst e
      rw [if_neg (by have := h2 (by omega); rw [Nat.add_sub_cancel] at this; rw [this]; decide)]
    · rw [if_pos (h1 m (by omega) (by omega))]
      exact posR_eq (by omega) (fun j a b => h1 j a (by omega)) h2
theorem lcF_ins {pr : Pr} {v : Vc} {p : Nat} {x : Lt} (hp : p ≤ v 15) (i : Nat) : lcF pr (insL v p x) i = if i < p then lcF pr v i else if i = p then lcX pr x else lcF pr v (i - 1) := by
  by_cases c : i < v 15 + 1
  · rw [lcF_in (by rw [ins15]; exact c), ltA_ins]
    by_cases a : i < p
    · rw [if_pos a, if_pos a, lcF_in (by omega)]
    · rw [if_neg a, if_neg a]
      by_cases b : i = p
      · rw [if_pos b, if_pos b]
      · rw [if_neg b, if_neg b, lcF_in (by omega)]
  · rw [lcF_out (by rw [ins15]; omega), if_neg (by omega), if_neg (by omega), lcF_out (by omega)]
theorem lcF_tak {pr : Pr} {v : Vc} {p : Nat} (hp : p < v 15) (i : Nat) : lcF pr (takeL v p) i = if i < p then lcF pr v i else lcF pr v (i + 1) := by
  by_cases c : i < v 15 - 1
  · rw [lcF_in (by rw [tak15]; exact c), ltA_tak]
    by_cases a : i < p
    · rw [if_pos a, if_pos a, lcF_in (by omega)]
    · rw [if_neg a, if_neg a, lcF_in (by omega)]
  · rw [lcF_out (by rw [tak15]; omega), if_neg (by omega), lcF_out (by omega)]
set_option maxRecDepth 100000 in
set_option maxHeartbeats 4000000 in
theorem c_X7_add {n : Nat} {σ : Sg} {o : Nat} {pr : Pr} {v : Vc} (ho : IsSc o n) (h : ScC pr σ o v) (hk : PrOk pr) (hv : VOk pr v) (x : Lt) (hx : LtOk pr x) : Sm n mX7_add [.ref o, .int (nI (lcX pr x))] σ (qi fun r σ2 => r = bI (sendF pr v x).1 ∧ ScC pr σ2 o (sendF pr v x).2 ∧ Off σ σ2 [o, o + 1]) := by
  refine Sm.of mk_X7_add (Nat.le_of_ble_eq_true rfl) rfl (fun X hX => ?_)
  obtain ⟨ho1, ho2, ho3⟩ := ho
  have h8 := hv.2.2.2.2.1
  have hc := lcX_lt hk hx
  have hne : o ≠ o + 1 := by omega
  have hla : laF (lcX pr x) < 2 ^ 31 := by unfold laF; split <;> omega
  have LP : ∀ (k : Nat) (g : Nat → Int32), v 15 < 8 → k ≤ v 15 → (∀ j, j < k → g j = nI (lcF pr v j)) → (∀ j, k < j → j < 8 → g j = nI (lcF pr v (j - 1))) → (∀ j, k ≤ j → j < v 15 → ahF pr v x j = true) → Sw n mX7_add X (ZS n mX7_add (qi fun r σ2 => r = bI (sendF pr v x).1 ∧ ScC pr σ2 o (sendF pr v x).2 ∧ Off σ σ2 [o, o + 1]) X) 21 [some (.ref o), some (.int (nI (lcX pr x))), some (.int (nI (laF (lcX pr x)))), some (.int (nI k))] [] (wA σ (o + 1) g) := by
    have FIN : ∀ (k : Nat) (g : Nat → Int32), v 15 < 8 → k ≤ v 15 → (∀ j, j < k → g j = nI (lcF pr v j)) → (∀ j, k < j → j < 8 → g j = nI (lcF pr v (j - 1))) → posR (ahF pr v x) (v 15) = k → Sw n mX7_add X (ZS n mX7_add (qi fun r σ2 => r = bI (sendF pr v x).1 ∧ ScC pr σ2 o (sendF pr v x).2 ∧ Off σ σ2 [o, o + 1]) X) 57 [some (.ref o), some (.int (nI (lcX pr x))), some (.int (nI (laF (lcX pr x)))), some (.int (nI k))] [] (wA σ (o + 1) g) := by
      intro k g h15 hk1 h1 h2 hp
      refine s_aload_n hX dX7_add_57 rfl ?_
      refine s_getR hX dX7_add_58 fl_X7_19 ho1 rfl (by omega) ?_
      refine s_iload_n hX dX7_add_61 rfl ?_
      refine s_iload_n hX dX7_add_62 rfl ?_
      refine s_iast hX dX7_add_63 ho2 (by omega) (by omega) (by decide) ?_
      refine s_aload_n hX dX7_add_64 rfl ?_
      refine s_dup hX dX7_add_65 rfl ?_
      refine s_getI (x := nI (v 15)) hX dX7_add_66 fl_X7_15 ho1 rfl (by omega) (by rw [wI_a _ _ hne, wA_a _ _ hne]; exact h.2.1) ?_
      refine s_iconst (v := nI 1) hX dX7_add_69 (by decide) ?_
      refine s_iadd_n hX dX7_add_70 ?_
      refine s_putI hX dX7_add_71 fl_X7_15 ho1 rfl (by omega) rfl rfl ?_
      refine s_iconst (v := nI 1) hX dX7_add_74 (by decide) ?_
      refine s_zret hX dX7_add_75 rfl (by first | exact Or.inl rfl | exact Or.inr rfl) rfl ?_
      have hsend : sendF pr v x = (true, insL v k x) := by unfold sendF; rw [if_neg (by omega), hp]
      rw [hsend]
      refine ⟨rfl, ⟨fun i hi => ?_, ?_, fun i hi => ?_⟩, ((Off.rf.wA (by simp)).wI (by simp)).wI (by simp)⟩
      · show lb _ i = bitF pr (insL v k x) i
        rw [bitF_cong (v := v) hk.1.2 (fun j hj => by simp [insL, hj]), wI_2, wI_2, wA_a _ _ hne]
        exact h.1 i hi
      · rw [wI_s]
        show _ = nI (insL v k x 15)
        rw [ins15]
      · show _ = nI (lcF pr (insL v k x) i)
        rw [lcF_ins hk1, wI_a _ _ (Ne.symm hne)]
        by_cases a : i = k
        · subst a
          rw [wI_s, if_neg (by omega), if_pos rfl]
        · rw [wI_k _ _ a, wA_f]
          by_cases b : i < k
          · rw [if_pos b]; exact h1 i b
          · rw [if_neg b, if_neg a]; exact h2 i (by omega) hi
    intro k
    induction k with
    | zero =>
      intro g h15 hk1 h1 h2 h3
      refine s_iload_n hX dX7_add_21 rfl ?_
      refine s_if_le_n (tgt := 57) hX dX7_add_22 (by decide) (by omega) (fun q22 => ?_) (fun q22 => ?_)
      · exact FIN _ g h15 hk1 h1 h2 (posR_eq hk1 h3 (fun q => by omega))
      · omega
    | succ k ih =>
      intro g h15 hk1 h1 h2 h3
      have hl := la_iff (j := k) hk hx (lt_at hv (by omega))
      have e9 : lcF pr v k = lcX pr (ltA v k) := lcF_in (by omega)
      have c9 := lcF_lt hk hv k
      have g9 : (wA σ (o + 1) g (o + 1)).1 (k + 1 - 1) = nI (lcF pr v k) := by rw [wA_f]; exact h1 k (by omega)
      refine s_iload_n hX dX7_add_21 rfl ?_
      refine s_if_le_n (tgt := 57) hX dX7_add_22 (by decide) (by omega) (fun q22 => ?_) (fun q22 => ?_)
      · omega
      · refine s_aload_n hX dX7_add_25 rfl ?_
        refine s_getR hX dX7_add_26 fl_X7_19 ho1 rfl (by omega) ?_
        refine s_iload_n hX dX7_add_29 rfl ?_
        refine s_iconst (v := nI 1) hX dX7_add_30 (by decide) ?_
        refine s_isub_n hX dX7_add_31 (by omega) ?_
        refine s_iald (x := nI (lcF pr v k)) hX dX7_add_32 ho2 (by omega) (by omega) (by decide) g9 ?_
        refine s_iload_n hX dX7_add_33 rfl ?_
        refine s_icmp_le_n (tgt := 57) hX dX7_add_34 (by decide) (by omega) (by omega) (fun q34 => ?_) (fun q34 => ?_)
        · refine FIN _ g h15 hk1 h1 h2 (posR_eq hk1 h3 (fun _ => ?_))
          rw [Nat.add_sub_cancel]
          exact Bool.eq_false_iff.mpr (fun e => by have := hl.mpr e; omega)
          
          
        · refine s_aload_n hX dX7_add_37 rfl ?_
          refine s_getR hX dX7_add_38 fl_X7_19 ho1 rfl (by omega) ?_
          refine s_iload_n hX dX7_add_41 rfl ?_
          refine s_aload_n hX dX7_add_42 rfl ?_
          refine s_getR hX dX7_add_43 fl_X7_19 ho1 rfl (by omega) ?_
          refine s_iload_n hX dX7_add_46 rfl ?_
          refine s_iconst (v := nI 1) hX dX7_add_47 (by decide) ?_
          refine s_isub_n hX dX7_add_48 (by omega) ?_
          refine s_iald (x := nI (lcF pr v k)) hX dX7_add_49 ho2 (by omega) (by omega) (by decide) g9 ?_
          refine s_iast hX dX7_add_50 ho2 (by omega) (by omega) (by decide) ?_
          refine s_eq (wI_wA _ _ _ _ _) ?_
          refine s_idec_n hX dX7_add_51 rfl (by omega) rfl st_4_3 ?_
          refine s_goto (tgt := 21) hX dX7_add_54 (by decide) ?_
          rw [Nat.add_sub_cancel]
          refine ih _ h15 (by omega) (fun j hj => ?_) (fun j hj hj8 => ?_) (fun j hj hj2 => ?_)
          · rw [pk_un (by omega)]; exact h1 j (by omega)
          · by_cases e : j = k + 1
            · subst e; rw [pk_us]; rfl
            · rw [pk_un e]; exact h2 j (by omega) hj8
          · by_cases e : j = k
            · subst e; exact hl.mp (by omega)
            · exact h3 j (by omega) hj2
  refine s_aload_n hX dX7_add_0 rfl ?_
  refine s_getI (x := nI (v 15)) hX dX7_add_1 fl_X7_15 ho1 rfl (by omega) h.2.1 ?_
  refine s_bipush (v := nI 8) hX dX7_add_4 (by decide) ?_
  refine s_icmp_lt_n (tgt := 11) hX dX7_add_6 (by decide) (by omega) (by omega) (fun q6 => ?_) (fun q6 => ?_)
  · refine s_iload_n hX dX7_add_11 rfl ?_
    refine s_callSi (as := [_]) hX dX7_add_12 mk_X4_lastAhead lk_X7_55 (c_X4_lastAhead _ (by omega)) rfl ⟨rfl, rfl⟩ (Nat.le_of_ble_eq_true rfl) (Nat.le_of_ble_eq_true rfl) (Nat.le_of_ble_eq_true rfl) rfl (fun v12 σ12 p12 => ?_)
    obtain ⟨rfl, ep⟩ := p12
    replace ep := ep.symm
    subst ep
    refine s_istore_n hX dX7_add_15 (Nat.le_of_ble_eq_true rfl) rfl st_4_2 ?_
    refine s_aload_n hX dX7_add_16 rfl ?_
    refine s_getI (x := nI (v 15)) hX dX7_add_17 fl_X7_15 ho1 rfl (by omega) h.2.1 ?_
    refine s_istore_n hX dX7_add_20 (Nat.le_of_ble_eq_true rfl) rfl st_4_3 ?_
    refine s_eq (σ2 := wA σ (o + 1) (σ (o + 1)).1) (wA_self _ _).symm ?_
    exact LP (v 15) _ (by omega) (Nat.le_refl _) (fun j hj => h.2.2 j (by omega)) (fun j hj hj8 => by rw [h.2.2 j hj8, lcF_out (by omega), lcF_out (by omega)]) (fun j a b => by omega)
  · have e8 : v 15 = 8 := by omega
    refine s_iconst (v := nI 0) hX dX7_add_9 (by decide) ?_
    refine s_zret hX dX7_add_10 rfl (by first | exact Or.inl rfl | exact Or.inr rfl) rfl ?_
    have hsend : sendF pr v x = (false, v) := by unfold sendF; rw [if_pos e8]
    rw [hsend]
    exact ⟨rfl, h, Off.rf⟩
set_option maxRecDepth 100000 in
set_option maxHeartbeats 4000000 in
theorem c_X7_take {n : Nat} {σ : Sg} {o : Nat} {pr : Pr} {v : Vc} (ho : IsSc o n) (h : ScC pr σ o v) (hk : PrOk pr) (hv : VOk pr v) (i : Nat) (hi : i < v 15) : Sm n mX7_take [.ref o, .int (nI i)] σ (qi fun r σ2 => r = nI (lcF pr v i) ∧ ScC pr σ2 o (takeL v i) ∧ Off σ σ2 [o, o + 1]) := by
  refine Sm.of mk_X7_take (Nat.le_of_ble_eq_true rfl) rfl (fun X hX => ?_)
  obtain ⟨ho1, ho2, ho3⟩ := ho
  have h8 := hv.2.2.2.2.1
  have hne : o ≠ o + 1 := by omega
  have LP : ∀ (d k : Nat) (g : Nat → Int32), k + d = v 15 - 1 → i ≤ k → (∀ j, j < i → g j = nI (lcF pr v j)) → (∀ j, i ≤ j → j < k → g j = nI (lcF pr v (j + 1))) → (∀ j, k ≤ j → j < 8 → g j = nI (lcF pr v j)) → Sw n mX7_take X (ZS n mX7_take (qi fun r σ2 => r = nI (lcF pr v i) ∧ ScC pr σ2 o (takeL v i) ∧ Off σ σ2 [o, o + 1]) X) 19 [some (.ref o), some (.int (nI i)), some (.int (nI (lcF pr v i))), some (.int (nI k))] [] (wA (wI σ o 1 (nI (v 15 - 1))) (o + 1) g) := by
    intro d
    induction d with
    | zero =>
      intro k g hd hik h1 h2 h3
      have c9 : (wA (wI σ o 1 (nI (v 15 - 1))) (o + 1) g o).1 1 = nI (v 15 - 1) := by rw [wA_a _ _ hne, wI_s]
      refine s_iload_n hX dX7_take_19 rfl ?_
      refine s_aload_n hX dX7_take_20 rfl ?_
      refine s_getI (x := nI (v 15 - 1)) hX dX7_take_21 fl_X7_15 ho1 rfl (by omega) c9 ?_
      refine s_icmp_ge_n (tgt := 47) hX dX7_take_24 (by decide) (by omega) (by omega) (fun q24 => ?_) (fun q24 => ?_)
      · refine s_aload_n hX dX7_take_47 rfl ?_
        refine s_getR hX dX7_take_48 fl_X7_19 ho1 rfl (by omega) ?_
        refine s_aload_n hX dX7_take_51 rfl ?_
        refine s_getI (x := nI (v 15 - 1)) hX dX7_take_52 fl_X7_15 ho1 rfl (by omega) c9 ?_
        refine s_iconst (v := nI 0) hX dX7_take_55 (by decide) ?_
        refine s_iast hX dX7_take_56 ho2 (by omega) (by omega) (by decide) ?_
        refine s_iload_n hX dX7_take_57 rfl ?_
        refine s_iret hX dX7_take_58 rfl rfl ?_
        refine ⟨rfl, ⟨fun j hj => ?_, ?_, fun j hj => ?_⟩, ((Off.rf.wI (by simp)).wA (by simp)).wI (by simp)⟩
        · rw [bitF_cong (v := v) hk.1.2 (fun j hj => by simp [takeL, hj]), wI_2, wA_a _ _ hne, wI_2]
          exact h.1 j hj
        · rw [wI_a _ _ hne, c9, tak15]
        · rw [lcF_tak hi]
          by_cases a : j = v 15 - 1
          · subst a
            rw [wI_s, if_neg (by omega), lcF_out (by omega)]
          · rw [wI_k _ _ a, wA_f]
            by_cases b : j < i
            · rw [if_pos b]; exact h1 j b
            · rw [if_neg b]
              by_cases c : j < k
              · exact h2 j (by omega) c
              · rw [h3 j (by omega) hj, lcF_out (by omega), lcF_out (by omega)]
      · omega
    | succ d ih =>
      intro k g hd hik h1 h2 h3
      have c9 : (wA (wI σ o 1 (nI (v 15 - 1))) (o + 1) g o).1 1 = nI (v 15 - 1) := by rw [wA_a _ _ hne, wI_s]
      refine s_iload_n hX dX7_take_19 rfl ?_
      refine s_aload_n hX dX7_take_20 rfl ?_
      refine s_getI (x := nI (v 15 - 1)) hX dX7_take_21 fl_X7_15 ho1 rfl (by omega) c9 ?_
      refine s_icmp_ge_n (tgt := 47) hX dX7_take_24 (by decide) (by omega) (by omega) (fun q24 => ?_) (fun q24 => ?_)
      · omega
      · refine s_aload_n hX dX7_take_27 rfl ?_
        refine s_getR hX dX7_take_28 fl_X7_19 ho1 rfl (by omega) ?_
        refine s_iload_n hX dX7_take_31 rfl ?_
        refine s_aload_n hX dX7_take_32 rfl ?_
        refine s_getR hX dX7_take_33 fl_X7_19 ho1 rfl (by omega) ?_
        refine s_iload_n hX dX7_take_36 rfl ?_
        refine s_iconst (v := nI 1) hX dX7_take_37 (by decide) ?_
        refine s_iadd_n hX dX7_take_38 ?_
        refine s_iald (x := nI (lcF pr v (k + 1))) hX dX7_take_39 ho2 (by omega) (by omega) (by decide) (by rw [wA_f]; exact h3 (k + 1) (by omega) (by omega)) ?_
        refine s_iast hX dX7_take_40 ho2 (by omega) (by omega) (by decide) ?_
        refine s_eq (wI_wA _ _ _ _ _) ?_
        refine s_iinc_n (c := 1) hX dX7_take_41 rfl (by decide) rfl st_4_3 ?_
        refine s_goto (tgt := 19) hX dX7_take_44 (by decide) ?_
        refine ih _ _ (by omega) (by omega) (fun j hj => ?_) (fun j hj hj2 => ?_) (fun j hj hj2 => ?_)
        · rw [pk_un (by omega)]; exact h1 j hj
        · by_cases e : j = k
          · subst e; rw [pk_us]
          · rw [pk_un e]; exact h2 j hj (by omega)
        · rw [pk_un (by omega)]; exact h3 j (by omega) hj2
  refine s_aload_n hX dX7_take_0 rfl ?_
  refine s_getR hX dX7_take_1 fl_X7_19 ho1 rfl (by omega) ?_
  refine s_iload_n hX dX7_take_4 rfl ?_
  refine s_iald (x := nI (lcF pr v i)) hX dX7_take_5 ho2 (by omega) (by omega) (by decide) (h.2.2 i (by omega)) ?_
  refine s_istore_n hX dX7_take_6 (Nat.le_of_ble_eq_true rfl) rfl st_4_2 ?_
  refine s_aload_n hX dX7_take_7 rfl ?_
  refine s_dup hX dX7_take_8 rfl ?_
  refine s_getI (x := nI (v 15)) hX dX7_take_9 fl_X7_15 ho1 rfl (by omega) h.2.1 ?_
  refine s_iconst (v := nI 1) hX dX7_take_12 (by decide) ?_
  refine s_isub_n hX dX7_take_13 (by omega) ?_
  refine s_putI hX dX7_take_14 fl_X7_15 ho1 rfl (by omega) rfl rfl ?_
  refine s_iload_n hX dX7_take_17 rfl ?_
  refine s_istore_n hX dX7_take_18 (Nat.le_of_ble_eq_true rfl) rfl st_4_3 ?_
  refine s_eq (σ2 := wA (wI σ o 1 (nI (v 15 - 1))) (o + 1) (σ (o + 1)).1) (by
    have := wA_self (wI σ o 1 (nI (v 15 - 1))) (o + 1)
    rw [wI_a _ _ (Ne.symm hne)] at this
    exact this.symm) ?_
  exact LP (v 15 - 1 - i) i _ (by omega) (Nat.le_refl _) (fun j hj => h.2.2 j (by omega)) (fun j a b => by omega) (fun j a b => h.2.2 j b)
