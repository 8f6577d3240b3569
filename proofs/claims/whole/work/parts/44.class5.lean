/-! ===== scenes of the class: begin, copy, ask, add, take ===== -/
theorem bj_lt {pr : Pr} {i : Nat} {q : Nat × Nat} (hP : pP pr ≤ 4) (h : bj pr i = some q) : q.1 < 15 := by
  unfold bj at h
  split at h
  · split at h
    · split at h
      · cases h; show ixS pr _ 0 < 15; unfold ixS; split <;> omega
      · split at h
        · cases h; show ixS pr _ 1 < 15; unfold ixS; split <;> omega
        · split at h
          · cases h; show 3 * (i / 7) + 2 < 15; omega
          · cases h
    · cases h
  · split at h
    · cases h; show 14 < 15; decide
    · cases h
theorem bitF_cong {pr : Pr} {v w : Vc} (hP : pP pr ≤ 4) (h : ∀ j, j < 15 → w j = v j) (i : Nat) : bitF pr w i = bitF pr v i := by
  unfold bitF
  cases hb : bj pr i with
  | none => rfl
  | some q => show (w q.1).testBit q.2 = (v q.1).testBit q.2; rw [h _ (bj_lt hP hb)]
theorem lcF_eq {pr : Pr} {v w : Vc} {i : Nat} (h15 : w 15 = v 15) (h : ltA w i = ltA v i) : lcF pr w i = lcF pr v i := by
  by_cases e : i < v 15
  · rw [lcF_in e, lcF_in (by omega), h]
  · rw [lcF_out (by omega), lcF_out (by omega)]
theorem ScC_z {pr : Pr} {σ : Sg} {o : Nat} (h1 : (σ o).2 0 = 0) (h2 : (σ o).1 1 = 0) (h3 : ∀ i, i < 8 → (σ (o + 1)).1 i = 0) : ScC pr σ o (fun _ => 0) := by
  refine ⟨fun i hi => ?_, h2, fun i hi => ?_⟩
  · rw [h1, lb_0]
    unfold bitF
    cases bj pr i with
    | none => rfl
    | some q => exact Nat.zero_testBit _ |>.symm
  · rw [h3 i hi, lcF_out (Nat.zero_le _)]; rfl
set_option maxRecDepth 100000 in
set_option maxHeartbeats 4000000 in
theorem c_X7_begin {n : Nat} {σ : Sg} {o : Nat} {pr : Pr} (ho : IsSc o n) (hP : pP pr ≤ 4) : Sm n mX7_begin [.ref o, .int (nI (pP pr))] σ (qv fun σ2 => ScC pr σ2 o v0 ∧ Off σ σ2 [o, o + 1]) := by
  refine Sm.of mk_X7_begin (Nat.le_of_ble_eq_true rfl) rfl (fun X hX => ?_)
  have ho0 := ho
  obtain ⟨ho1, ho2, ho3⟩ := ho
  have hne : o ≠ o + 1 := by omega
  refine s_aload_n hX dX7_begin_0 rfl ?_
  refine s_lconst (v := lN 0) hX dX7_begin_1 (by decide) ?_
  refine s_putL hX dX7_begin_2 fl_X7_11 ho1 rfl (by omega) rfl rfl ?_
  refine s_aload_n hX dX7_begin_5 rfl ?_
  refine s_iconst (v := nI 0) hX dX7_begin_6 (by decide) ?_
  refine s_putI hX dX7_begin_7 fl_X7_15 ho1 rfl (by omega) rfl rfl ?_
  refine s_aload_n hX dX7_begin_10 rfl ?_
  refine s_getR hX dX7_begin_11 fl_X7_19 ho1 rfl (by omega) ?_
  refine s_iconst (v := nI 0) hX dX7_begin_14 (by decide) ?_
  refine s_callSv (as := [_, _]) hX dX7_begin_15 mk_J7_fill_53178 lk_X7_23 (c_J7_fill ho2 ho3 (by decide) _) rfl ⟨rfl, rfl⟩ (Nat.le_of_ble_eq_true rfl) (Nat.le_of_ble_eq_true rfl) (Nat.le_of_ble_eq_true rfl) rfl (fun σ15 p15 => ?_)
  subst p15
  have hz : ScC pr (wA (wI (wL σ o 0 (lN 0)) o 1 (nI 0)) (o + 1) (filF ((wI (wL σ o 0 (lN 0)) o 1 (nI 0)) (o + 1)).1 (nI 0) 8)) o (fun _ => 0) := by
    refine ScC_z ?_ ?_ ?_
    · rw [wA_a _ _ hne, wI_2, wL_s]; rfl
    · rw [wA_a _ _ hne, wI_s]; rfl
    · intro i hi
      rw [wA_f]
      unfold filF
      rw [if_pos hi]; rfl
  refine s_aload_n hX dX7_begin_18 rfl ?_
  refine s_iload_n hX dX7_begin_19 rfl ?_
  refine s_iconst (v := nI 1) hX dX7_begin_20 (by decide) ?_
  refine s_callVv (as := [_, _]) hX dX7_begin_21 mk_X7_setFresh lk_X7_29 (c_X7_setFresh ho0 hz hP (pP pr) (Nat.le_refl _) 1 (by decide)) ho1 (by omega) rfl rfl rfl ⟨rfl, rfl⟩ (Nat.le_of_ble_eq_true rfl) (Nat.le_of_ble_eq_true rfl) (Nat.le_of_ble_eq_true rfl) rfl (fun σ21 p21 => ?_)
  refine s_vret hX dX7_begin_24 rfl rfl ?_
  refine ⟨?_, ((((Off.rf.wL (by simp)).wI (by simp)).wA (by simp)).trans (p21.2.mono (by simp)))⟩
  have e : vset (fun _ => 0) (ixS pr (pP pr) 1) 1 = v0 := by
    funext j
    unfold vset v0 ixS
    rw [if_pos rfl]
  rw [← e]
  exact p21.1
set_option maxRecDepth 100000 in
set_option maxHeartbeats 4000000 in
theorem c_X7_copy {n : Nat} {σ : Sg} {o o2 : Nat} {pr : Pr} {v : Vc} (ho : IsSc o n) (hq : IsSc o2 n) (hd : o + 1 < o2 ∨ o2 + 1 < o) (h : ScC pr σ o2 v) : Sm n mX7_copy [.ref o, .ref o2] σ (qv fun σ2 => ScC pr σ2 o v ∧ Off σ σ2 [o, o + 1]) := by
  refine Sm.of mk_X7_copy (Nat.le_of_ble_eq_true rfl) rfl (fun X hX => ?_)
  obtain ⟨ho1, ho2, ho3⟩ := ho
  obtain ⟨hq1, hq2, hq3⟩ := hq
  have e1 : o2 ≠ o := by omega
  have e2 : o2 ≠ o + 1 := by omega
  have e3 : o2 + 1 ≠ o := by omega
  have e4 : o2 + 1 ≠ o + 1 := by omega
  have e5 : o ≠ o + 1 := by omega
  refine s_aload_n hX dX7_copy_0 rfl ?_
  refine s_aload_n hX dX7_copy_1 rfl ?_
  refine s_getL hX dX7_copy_2 fl_X7_11 hq1 rfl (by omega) rfl ?_
  refine s_putL hX dX7_copy_5 fl_X7_11 ho1 rfl (by omega) rfl rfl ?_
  refine s_aload_n hX dX7_copy_8 rfl ?_
  refine s_aload_n hX dX7_copy_9 rfl ?_
  refine s_getI (x := nI (v 15)) hX dX7_copy_10 fl_X7_15 hq1 rfl (by omega) (by rw [wL_a _ _ e1]; exact h.2.1) ?_
  refine s_putI hX dX7_copy_13 fl_X7_15 ho1 rfl (by omega) rfl rfl ?_
  refine s_aload_n hX dX7_copy_16 rfl ?_
  refine s_getR hX dX7_copy_17 fl_X7_19 hq1 rfl (by omega) ?_
  refine s_iconst (v := nI 0) hX dX7_copy_20 (by decide) ?_
  refine s_aload_n hX dX7_copy_21 rfl ?_
  refine s_getR hX dX7_copy_22 fl_X7_19 ho1 rfl (by omega) ?_
  refine s_iconst (v := nI 0) hX dX7_copy_25 (by decide) ?_
  refine s_bipush (v := nI 8) hX dX7_copy_26 (by decide) ?_
  refine s_copyi (L := [some (.ref o), some (.ref o2)]) hX dX7_copy_28 (tb_at 529 (by decide +kernel) rfl) hq2 ho2 hq3 ho3 (by decide) (by decide) (by decide) (by decide) (Nat.le_of_ble_eq_true rfl) (Nat.le_of_ble_eq_true rfl) rfl ?_
  refine s_vret hX dX7_copy_31 rfl rfl ?_
  refine ⟨⟨fun i hi => ?_, ?_, fun i hi => ?_⟩, ((Off.rf.wL (by simp)).wI (by simp)).wA (by simp)⟩
  · rw [wA_a _ _ e5, wI_2, wL_s]; exact h.1 i hi
  · rw [wA_a _ _ e5, wI_s]
  · rw [wA_f, pk_cpy_in (Nat.zero_le _) (by omega), wI_a _ _ e3, wL_a _ _ e3]
    rw [show 0 + (i - 0) = i by omega]
    exact h.2.2 i hi
theorem qu_mask : ∀ i, i < 64 → lb 25972715616 i = decide (i < 35 ∧ 5 ≤ i % 7) := by decide +kernel
theorem lb_z {x : Int64} : x = 0 ↔ ∀ i, i < 64 → lb x i = false := by
  constructor
  · intro h i _; rw [h, lb_0]
  · intro h; exact lb_ext (fun i hi => by rw [h i hi, lb_0])
theorem tb_3 : ∀ x, x < 3 → x.testBit 0 = false → x.testBit 1 = false → x = 0 := by decide
theorem quR_iff {v : Vc} : ∀ p, quR v p = true ↔ v 15 = 0 ∧ ∀ e, e < p → v (3 * e + 2) = 0
  | 0 => by
    unfold quR
    rw [beq_iff_eq]
    exact ⟨fun h => ⟨h, fun e he => absurd he (Nat.not_lt_zero e)⟩, fun h => h.1⟩
  | p + 1 => by
    unfold quR
    rw [Bool.and_eq_true, quR_iff p, beq_iff_eq]
    constructor
    · intro ⟨⟨h1, h2⟩, h3⟩
      refine ⟨h1, fun e he => ?_⟩
      by_cases q : e = p
      · rw [q]; exact h3
      · exact h2 e (by omega)
    · intro ⟨h1, h2⟩
      exact ⟨⟨h1, fun e he => h2 e (by omega)⟩, h2 p (by omega)⟩
theorem qu_word {pr : Pr} {v : Vc} {x : Int64} (hk : PrOk pr) (hv : VOk pr v) (hx : ∀ i, i < 64 → lb x i = bitF pr v i) : x &&& 25972715616 = 0 ↔ ∀ e, e < pP pr → v (3 * e + 2) = 0 := by
  have hP := hk.1
  rw [lb_z]
  constructor
  · intro h e he
    have f := fd_want (pr := pr) hP.2 he
    have t : ∀ b, b < 2 → (v (3 * e + 2)).testBit b = false := fun b hb => by
      have := h (7 * e + 5 + b) (by omega)
      rw [lb_and, hx _ (by omega), bit_get f hb, qu_mask _ (by omega)] at this
      simpa [show 7 * e + 5 + b < 35 by omega, show 5 ≤ (7 * e + 5 + b) % 7 by omega] using this
    exact tb_3 _ (hv.1 e he).2.2 (t 0 (by decide)) (t 1 (by decide))
  · intro h i hi
    rw [lb_and, hx i hi, qu_mask i hi]
    by_cases c : i < 35 ∧ 5 ≤ i % 7
    · by_cases he : i / 7 < pP pr
      · have f := fd_want (pr := pr) hP.2 he
        have := bit_get (v := v) f (i := i - (7 * (i / 7) + 5)) (by omega)
        rw [show 7 * (i / 7) + 5 + (i - (7 * (i / 7) + 5)) = i by omega, h _ he, Nat.zero_testBit] at this
        rw [this]; rfl
      · have : bitF pr v i = false := by
          unfold bitF
          have : bj pr i = none := by
            unfold bj
            rw [if_pos c.1]
            split
            · rw [if_neg (by omega : ¬ i % 7 < 4)]
              split
              · omega
              · rfl
            · rfl
          rw [this]
        rw [this]; rfl
    · simp [c]
set_option maxRecDepth 100000 in
set_option maxHeartbeats 4000000 in
theorem c_X7_isQuiet {n : Nat} {σ : Sg} {o : Nat} {pr : Pr} {v : Vc} (ho : IsSc o n) (h : ScC pr σ o v) (hk : PrOk pr) (hv : VOk pr v) : Sm n mX7_isQuiet [.ref o] σ (qi fun r σ2 => r = bI (quF pr v) ∧ σ2 = σ) := by
  refine Sm.of mk_X7_isQuiet (Nat.le_of_ble_eq_true rfl) rfl (fun X hX => ?_)
  obtain ⟨ho1, ho2, ho3⟩ := ho
  have hw := qu_word hk hv h.1
  have h8 := hv.2.2.2.2.1
  refine s_aload_n hX dX7_isQuiet_0 rfl ?_
  refine s_getI (x := nI (v 15)) hX dX7_isQuiet_1 fl_X7_15 ho1 rfl (by omega) h.2.1 ?_
  refine s_if_ne_n (tgt := 24) hX dX7_isQuiet_4 (by decide) (by omega) (fun q4 => ?_) (fun q4 => ?_)
  · refine s_iconst (v := nI 0) hX dX7_isQuiet_24 (by decide) ?_
    refine s_zret hX dX7_isQuiet_25 rfl (by first | exact Or.inl rfl | exact Or.inr rfl) rfl ?_
    refine ⟨?_, rfl⟩
    first
      | (have : quF pr v = true := (quR_iff _).mpr ⟨q4, hw.mp (lgc.mp (Classical.not_not.mp q17))⟩
         rw [this]; rfl)
      | (have : quF pr v = false := Bool.eq_false_iff.mpr (fun e => q17 (lgc.mpr (hw.mpr ((quR_iff _).mp e).2)))
         rw [this]; rfl)
      | (have : quF pr v = false := Bool.eq_false_iff.mpr (fun e => q4 ((quR_iff _).mp e).1)
         rw [this]; rfl)
  · refine s_aload_n hX dX7_isQuiet_7 rfl ?_
    refine s_getL hX dX7_isQuiet_8 fl_X7_11 ho1 rfl (by omega) rfl ?_
    refine s_ldc2 (v := (25972715616)) hX dX7_isQuiet_11 (tb_at 650 (by decide +kernel) rfl) ?_
    refine s_land hX dX7_isQuiet_14 ?_
    refine s_lconst (v := lN 0) hX dX7_isQuiet_15 (by decide) ?_
    refine s_lcmp hX dX7_isQuiet_16 ?_
    refine s_if_ne (tgt := 24) hX dX7_isQuiet_17 (by decide) (fun q17 => ?_) (fun q17 => ?_)
    · refine s_iconst (v := nI 0) hX dX7_isQuiet_24 (by decide) ?_
      refine s_zret hX dX7_isQuiet_25 rfl (by first | exact Or.inl rfl | exact Or.inr rfl) rfl ?_
      refine ⟨?_, rfl⟩
      first
        | (have : quF pr v = true := (quR_iff _).mpr ⟨q4, hw.mp (lgc.mp (Classical.not_not.mp q17))⟩
           rw [this]; rfl)
        | (have : quF pr v = false := Bool.eq_false_iff.mpr (fun e => q17 (lgc.mpr (hw.mpr ((quR_iff _).mp e).2)))
           rw [this]; rfl)
        | (have : quF pr v = false := Bool.eq_false_iff.mpr (fun e => q4 ((quR_iff _).mp e).1)
           rw [this]; rfl)
    · refine s_iconst (v := nI 1) hX dX7_isQuiet_20 (by decide) ?_
      refine s_goto (tgt := 25) hX dX7_isQuiet_21 (by decide) ?_
      refine s_zret hX dX7_isQuiet_25 rfl (by first | exact Or.inl rfl | exact Or.inr rfl) rfl ?_
      refine ⟨?_, rfl⟩
      first
        | (have : quF pr v = true := (quR_iff _).mpr ⟨q4, hw.mp (lgc.mp (Classical.not_not.mp q17))⟩
           rw [this]; rfl)
        | (have : quF pr v = false := Bool.eq_false_iff.mpr (fun e => q17 (lgc.mpr (hw.mpr ((quR_iff _).mp e).2)))
           rw [this]; rfl)
        | (have : quF pr v = false := Bool.eq_false_iff.mpr (fun e => q4 ((quR_iff _).mp e).1)
           rw [this]; rfl)
theorem bhR_iff {pr : Pr} {v : Vc} {i : Nat} : ∀ m, bhR pr v i m = true ↔ ∃ j, j < m ∧ bhT pr v i j = true
  | 0 => ⟨fun h => (by cases h), fun ⟨j, h, _⟩ => absurd h (Nat.not_lt_zero j)⟩
  | m + 1 => by
    unfold bhR
    rw [Bool.or_eq_true, bhR_iff m]
    constructor
    · rintro (⟨j, h1, h2⟩ | h)
      · exact ⟨j, by omega, h2⟩
      · exact ⟨m, by omega, h⟩
    · rintro ⟨j, h1, h2⟩
      by_cases e : j = m
      · subst e; exact Or.inr h2
      · exact Or.inl ⟨j, by omega, h2⟩
theorem bh_ln {pr : Pr} {v : Vc} {i j : Nat} (hk : PrOk pr) (hi : LtOk pr (ltA v i)) (hj : LtOk pr (ltA v j)) : bhT pr v i j = true ↔ lnX pr (ltA v j) = lnX pr (ltA v i) ∧ pLo pr (v (16 + 5 * j)) = 0 := by
  unfold bhT
  rw [decide_eq_true_iff]
  obtain ⟨h1, h2, h3, h4, h5⟩ := hi
  obtain ⟨g1, g2, g3, g4, g5⟩ := hj
  have := hk.1.2
  have := hk.2.1 (v (16 + 5 * i))
  have := hk.2.1 (v (16 + 5 * j))
  unfold ltA at *
  unfold lnX
  dsimp only at *
  omega
theorem beh_iff {pr : Pr} {v : Vc} {i : Nat} (hk : PrOk pr) (hv : VOk pr v) (hs : Srt pr v) (hi : i < v 15) (h0 : 0 < i) : bhR pr v i i = true ↔ lcF pr v (i - 1) / 128 = lcF pr v i / 128 ∧ lcF pr v (i - 1) / 128 % 2 = 0 := by
  have l1 := lt_at hv hi
  have l2 := lt_at (i := i - 1) hv (by omega)
  rw [lcF_in hi, lcF_in (by omega : i - 1 < v 15), lcX_lo hk l2, lcX_ln hk l2, lcX_ln hk l1, bhR_iff]
  constructor
  · rintro ⟨j, hj, hb⟩
    have l3 := lt_at (i := j) hv (by omega)
    have := (bh_ln hk l1 l3).mp hb
    have a := hs.1 j (i - 1) (by omega) (by omega)
    have b := hs.1 (i - 1) i (by omega) hi
    have e : lnX pr (ltA v (i - 1)) = lnX pr (ltA v j) := by omega
    refine ⟨by omega, ?_⟩
    have p1 := hk.2.1 (ltA v (i - 1)).1
    have p2 := this.2
    unfold lnX at e
    have p3 : pLo pr (ltA v j).1 = 0 := p2
    omega
  · rintro ⟨e1, e2⟩
    exact ⟨i - 1, by omega, (bh_ln hk l1 l2).mpr ⟨by omega, e2⟩⟩
set_option maxRecDepth 100000 in
set_option maxHeartbeats 4000000 in
theorem c_X7_isBehindAnother {n : Nat} {σ : Sg} {o : Nat} {pr : Pr} {v : Vc} (ho : IsSc o n) (h : ScC pr σ o v) (hk : PrOk pr) (hv : VOk pr v) (hs : Srt pr v) (i : Nat) (hi : i < v 15) : Sm n mX7_isBehindAnother [.ref o, .int (nI i)] σ (qi fun r σ2 => r = bI (bhR pr v i i) ∧ σ2 = σ) := by
  refine Sm.of mk_X7_isBehindAnother (Nat.le_of_ble_eq_true rfl) rfl (fun X hX => ?_)
  obtain ⟨ho1, ho2, ho3⟩ := ho
  have h8 := hv.2.2.2.2.1
  have c1 := lcF_lt hk hv (i - 1)
  have c2 := lcF_lt hk hv i
  refine s_iload_n hX dX7_isBehindAnother_0 rfl ?_
  refine s_if_le_n (tgt := 28) hX dX7_isBehindAnother_1 (by decide) (by omega) (fun q1 => ?_) (fun q1 => ?_)
  · refine s_iconst (v := nI 0) hX dX7_isBehindAnother_28 (by decide) ?_
    refine s_zret hX dX7_isBehindAnother_29 rfl (by first | exact Or.inl rfl | exact Or.inr rfl) rfl ?_
    refine ⟨?_, rfl⟩
    first
      | (have e0 : i = 0 := by omega
         subst e0; rfl)
      | (have : bhR pr v i i = true := by
           rw [hb]
           by_cases c : lcF pr v (i - 1) / 128 = lcF pr v i / 128 ∧ lcF pr v (i - 1) / 128 % 2 = 0
           · exact c
           · exact absurd (if_neg c) q21
         rw [this]; rfl)
      | (have : bhR pr v i i = false := by
           apply Bool.eq_false_iff.mpr
           intro e
           rw [if_pos (hb.mp e)] at q21
           omega
         rw [this]; rfl)
  · refine s_aload_n hX dX7_isBehindAnother_4 rfl ?_
    refine s_getR hX dX7_isBehindAnother_5 fl_X7_19 ho1 rfl (by omega) ?_
    refine s_iload_n hX dX7_isBehindAnother_8 rfl ?_
    refine s_iconst (v := nI 1) hX dX7_isBehindAnother_9 (by decide) ?_
    refine s_isub_n hX dX7_isBehindAnother_10 (by omega) ?_
    refine s_iald (x := nI (lcF pr v (i - 1))) hX dX7_isBehindAnother_11 ho2 (by omega) (by omega) (by decide) (h.2.2 (i - 1) (by omega)) ?_
    refine s_aload_n hX dX7_isBehindAnother_12 rfl ?_
    refine s_getR hX dX7_isBehindAnother_13 fl_X7_19 ho1 rfl (by omega) ?_
    refine s_iload_n hX dX7_isBehindAnother_16 rfl ?_
    refine s_iald (x := nI (lcF pr v i)) hX dX7_isBehindAnother_17 ho2 (by omega) (by omega) (by decide) (h.2.2 i (by omega)) ?_
    refine s_callSi (as := [_, _]) hX dX7_isBehindAnother_18 mk_X4_shareOrder lk_X7_49 (c_X4_shareOrder _ _ (by omega) (by omega)) rfl ⟨rfl, rfl⟩ (Nat.le_of_ble_eq_true rfl) (Nat.le_of_ble_eq_true rfl) (Nat.le_of_ble_eq_true rfl) rfl (fun v18 σ18 p18 => ?_)
    obtain ⟨rfl, rfl⟩ := p18
    have hb := beh_iff hk hv hs hi q1
    refine s_if_eq_n (tgt := 28) hX dX7_isBehindAnother_21 (by decide) (by split <;> decide) (fun q21 => ?_) (fun q21 => ?_)
    · refine s_iconst (v := nI 0) hX dX7_isBehindAnother_28 (by decide) ?_
      refine s_zret hX dX7_isBehindAnother_29 rfl (by first | exact Or.inl rfl | exact Or.inr rfl) rfl ?_
      refine ⟨?_, rfl⟩
      first
        | (have e0 : i = 0 := by omega
           subst e0; rfl)
        | (have : bhR pr v i i = true := by
             rw [hb]
             by_cases c : lcF pr v (i - 1) / 128 = lcF pr v i / 128 ∧ lcF pr v (i - 1) / 128 % 2 = 0
             · exact c
             · exact absurd (if_neg c) q21
           rw [this]; rfl)
        | (have : bhR pr v i i = false := by
             apply Bool.eq_false_iff.mpr
             intro e
             rw [if_pos (hb.mp e)] at q21
             omega
           rw [this]; rfl)
    · refine s_iconst (v := nI 1) hX dX7_isBehindAnother_24 (by decide) ?_
      refine s_goto (tgt := 29) hX dX7_isBehindAnother_25 (by decide) ?_
      refine s_zret hX dX7_isBehindAnother_29 rfl (by first | exact Or.inl rfl | exact Or.inr rfl) rfl ?_
      refine ⟨?_, rfl⟩
      first
        | (have e0 : i = 0 := by omega
           subst e0; rfl)
        | (have : bhR pr v i i = true := by
             rw [hb]
             by_cases c : lcF pr v (i - 1) / 128 = lcF pr v i / 128 ∧ lcF pr v (i - 1) / 128 % 2 = 0
             · exact c
             · exact absurd (if_neg c) q21
           rw [this]; rfl)
        | (have : bhR pr v i i = false := by
             apply Bool.eq_false_iff.mpr
             intro e
             rw [if_pos (hb.mp e)] at q21
             omega
           rw [this]; rfl)
