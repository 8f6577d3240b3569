/-! ===== scenes of the class: a store; words ===== -/
def stz (pr : Pr) (w : Vc) : Vc := fun q => if q = 13 then 0 else if q < 3 * pP pr ∧ q % 3 = 1 then 0 else if 16 ≤ q ∧ (q - 16) % 5 = 4 then 0 else w q
theorem stz_set {pr : Pr} {w : Vc} {c : Nat} (hc : c < pP pr) (hP : pP pr ≤ 4) : vset (stz pr w) (3 * c + 1) 1 = staleF pr w c := by
  funext q
  unfold vset stz staleF
  by_cases e : q = 3 * c + 1
  · rw [if_pos e, if_neg (by omega), if_pos (by omega), if_pos (by omega)]
  · rw [if_neg e]
    by_cases a : q = 13
    · rw [if_pos a, if_pos a]
    · rw [if_neg a, if_neg a]
      by_cases b : q < 3 * pP pr ∧ q % 3 = 1
      · rw [if_pos b, if_pos b, if_neg (by omega)]
      · rw [if_neg b, if_neg b]
theorem fr_mask : ∀ i, i < 64 → lb (-4328785937) i = decide (¬ (i < 35 ∧ i % 7 = 4)) := by decide +kernel
theorem stz_bit {pr : Pr} {w : Vc} (hP : pP pr ≤ 4) (i : Nat) : bitF pr (stz pr w) i = (bitF pr w i && decide (¬ (i < 35 ∧ i % 7 = 4))) := by
  unfold bitF
  cases hb : bj pr i with
  | none => rfl
  | some q =>
    show (stz pr w q.1).testBit q.2 = ((w q.1).testBit q.2 && _)
    unfold bj at hb
    split at hb
    · rename_i c1
      split at hb
      · rename_i c2
        split at hb
        · rename_i c3
          cases hb
          have : stz pr w (ixS pr (i / 7) 0) = w (ixS pr (i / 7) 0) := by
            unfold stz ixS
            split <;> rw [if_neg (by omega), if_neg (by omega), if_neg (by omega)]
          show (stz pr w (ixS pr (i / 7) 0)).testBit _ = _
          rw [this]
          simp [show ¬ i % 7 = 4 by omega]
        · split at hb
          · rename_i c4
            cases hb
            have : stz pr w (ixS pr (i / 7) 1) = 0 := by
              unfold stz ixS
              split
              · rw [if_pos rfl]
              · rw [if_neg (by omega), if_pos (by omega)]
            show (stz pr w (ixS pr (i / 7) 1)).testBit _ = _
            rw [this]
            simp [c1, c4]
          · rename_i c4
            split at hb
            · cases hb
              have : stz pr w (3 * (i / 7) + 2) = w (3 * (i / 7) + 2) := by
                unfold stz
                rw [if_neg (by omega), if_neg (by omega), if_neg (by omega)]
              show (stz pr w (3 * (i / 7) + 2)).testBit _ = _
              rw [this]
              simp [c4]
            · cases hb
      · cases hb
    · rename_i c1
      split at hb
      · cases hb
        have : stz pr w 14 = w 14 := by
          unfold stz
          rw [if_neg (by omega), if_neg (by omega), if_neg (by omega)]
        show (stz pr w 14).testBit _ = _
        rw [this]
        simp [c1]
      · cases hb
theorem stz_15 {pr : Pr} {w : Vc} (hP : pP pr ≤ 4) : stz pr w 15 = w 15 := by unfold stz; rw [if_neg (by omega), if_neg (by omega), if_neg (by omega)]
theorem stz_lc {pr : Pr} {w : Vc} (hP : pP pr ≤ 4) (i : Nat) (hf : i < w 15 → w (20 + 5 * i) < 2) : lcF pr (stz pr w) i = 2 * (lcF pr w i / 2) := by
  by_cases c : i < w 15
  · rw [lcF_in (by rw [stz_15 hP]; exact c), lcF_in c]
    have t : ∀ k, k < 4 → stz pr w (16 + k + 5 * i) = w (16 + k + 5 * i) := fun k hk => by unfold stz; rw [if_neg (by omega), if_neg (by omega), if_neg (by omega)]
    have t4 : stz pr w (20 + 5 * i) = 0 := by unfold stz; rw [if_neg (by omega), if_neg (by omega), if_pos (by omega)]
    have := hf c
    unfold ltA lcX
    dsimp only
    rw [t4, show stz pr w (16 + 5 * i) = w (16 + 5 * i) from t 0 (by decide), show stz pr w (17 + 5 * i) = w (17 + 5 * i) from t 1 (by decide), show stz pr w (18 + 5 * i) = w (18 + 5 * i) from t 2 (by decide), show stz pr w (19 + 5 * i) = w (19 + 5 * i) from t 3 (by decide)]
    omega
  · rw [lcF_out (by rw [stz_15 hP]; omega), lcF_out (by omega)]
set_option maxRecDepth 100000 in
set_option maxHeartbeats 4000000 in
theorem c_X7_storeAt {n : Nat} {σ : Sg} {o : Nat} {pr : Pr} {v : Vc} (ho : IsSc o n) (h : ScC pr σ o v) (hk : PrOk pr) (hv : VOk pr v) (c : Nat) (hc : c < pP pr) : Sm n mX7_storeAt [.ref o, .int (nI c)] σ (qv fun σ2 => ScC pr σ2 o (staleF pr (vset v (3 * c + 2) 0) c) ∧ Off σ σ2 [o, o + 1]) := by
  refine Sm.of mk_X7_storeAt (Nat.le_of_ble_eq_true rfl) rfl (fun X hX => ?_)
  have ho0 := ho
  obtain ⟨ho1, ho2, ho3⟩ := ho
  have h8 := hv.2.2.2.2.1
  have hP := hk.1.2
  have hne : o ≠ o + 1 := by omega
  have w15 : vset v (3 * c + 2) 0 15 = v 15 := vset_n _ _ (by omega)
  have LP : ∀ (σ1 : Sg) (y : Int64) (d k : Nat) (g : Nat → Int32), ScC pr σ1 o (vset v (3 * c + 2) 0) → Off σ σ1 [o, o + 1] → y = (σ1 o).2 0 &&& (-4328785937) → k + d = v 15 → (∀ j, j < k → g j = nI (2 * (lcF pr (vset v (3 * c + 2) 0) j / 2))) → (∀ j, k ≤ j → j < 8 → g j = nI (lcF pr (vset v (3 * c + 2) 0) j)) → Sw n mX7_storeAt X (ZS n mX7_storeAt (qv fun σ2 => ScC pr σ2 o (staleF pr (vset v (3 * c + 2) 0) c) ∧ Off σ σ2 [o, o + 1]) X) 20 [some (.ref o), some (.int (nI c)), some (.int (nI k))] [] (wA (wL σ1 o 0 y) (o + 1) g) := by
    intro σ1 y d
    induction d with
    | zero =>
      intro k g hs1 ho1f hy hd h1 h2
      have c9 : (wA (wL σ1 o 0 y) (o + 1) g o).1 1 = nI (v 15) := by rw [wA_a _ _ hne, wL_1, hs1.2.1, w15]
      have hz : ScC pr (wA (wL σ1 o 0 y) (o + 1) g) o (stz pr (vset v (3 * c + 2) 0)) := by
        refine ⟨fun i hi => ?_, ?_, fun i hi => ?_⟩
        · rw [wA_a _ _ hne, wL_s, hy, lb_and, hs1.1 i hi, fr_mask i hi, stz_bit hP]
        · rw [c9, stz_15 hP, w15]
        · rw [wA_f, stz_lc hP _ (fun q => by rw [vset_n _ _ (by omega)]; exact (hv.2.2.2.2.2.1 i (by rw [w15] at q; exact q)).2.2.2.2)]
          by_cases a : i < k
          · exact h1 i a
          · rw [h2 i (by omega) hi, lcF_out (by omega)]
      refine s_iload_n hX dX7_storeAt_20 rfl ?_
      refine s_aload_n hX dX7_storeAt_21 rfl ?_
      refine s_getI (x := nI (v 15)) hX dX7_storeAt_22 fl_X7_15 ho1 rfl (by omega) c9 ?_
      refine s_icmp_ge_n (tgt := 49) hX dX7_storeAt_25 (by decide) (by omega) (by omega) (fun q25 => ?_) (fun q25 => ?_)
      · refine s_aload_n hX dX7_storeAt_49 rfl ?_
        refine s_iload_n hX dX7_storeAt_50 rfl ?_
        refine s_iconst (v := nI 1) hX dX7_storeAt_51 (by decide) ?_
        refine s_callVv (as := [_, _]) hX dX7_storeAt_52 mk_X7_setFresh lk_X7_29 (c_X7_setFresh ho0 hz hP c (Nat.le_of_lt hc) 1 (by decide)) ho1 (by omega) rfl rfl rfl ⟨rfl, rfl⟩ (Nat.le_of_ble_eq_true rfl) (Nat.le_of_ble_eq_true rfl) (Nat.le_of_ble_eq_true rfl) rfl (fun σ52 p52 => ?_)
        refine s_vret hX dX7_storeAt_55 rfl rfl ?_
        refine ⟨?_, ((ho1f.wL (by simp)).wA (by simp)).trans (p52.2.mono (by simp))⟩
        have e : ixS pr c 1 = 3 * c + 1 := by unfold ixS; rw [if_neg (by omega)]
        rw [← stz_set hc hP, ← e]
        exact p52.1
      · omega
    | succ d ih =>
      intro k g hs1 ho1f hy hd h1 h2
      have c9 : (wA (wL σ1 o 0 y) (o + 1) g o).1 1 = nI (v 15) := by rw [wA_a _ _ hne, wL_1, hs1.2.1, w15]
      refine s_iload_n hX dX7_storeAt_20 rfl ?_
      refine s_aload_n hX dX7_storeAt_21 rfl ?_
      refine s_getI (x := nI (v 15)) hX dX7_storeAt_22 fl_X7_15 ho1 rfl (by omega) c9 ?_
      refine s_icmp_ge_n (tgt := 49) hX dX7_storeAt_25 (by decide) (by omega) (by omega) (fun q25 => ?_) (fun q25 => ?_)
      · omega
      · refine s_aload_n hX dX7_storeAt_28 rfl ?_
        refine s_getR hX dX7_storeAt_29 fl_X7_19 ho1 rfl (by omega) ?_
        refine s_iload_n hX dX7_storeAt_32 rfl ?_
        refine s_aload_n hX dX7_storeAt_33 rfl ?_
        refine s_getR hX dX7_storeAt_34 fl_X7_19 ho1 rfl (by omega) ?_
        refine s_iload_n hX dX7_storeAt_37 rfl ?_
        refine s_iald (x := nI (lcF pr (vset v (3 * c + 2) 0) k)) hX dX7_storeAt_38 ho2 (by omega) (by omega) (by decide) (by rw [wA_f]; exact h2 k (Nat.le_refl _) (by omega)) ?_
        refine s_callSi (as := [_]) hX dX7_storeAt_39 mk_X4_staled lk_X7_64 (c_X4_staled _) rfl ⟨rfl, rfl⟩ (Nat.le_of_ble_eq_true rfl) (Nat.le_of_ble_eq_true rfl) (Nat.le_of_ble_eq_true rfl) rfl (fun v39 σ39 p39 => ?_)
        obtain ⟨rfl, ep⟩ := p39
        replace ep := ep.symm
        subst ep
        refine s_iast hX dX7_storeAt_42 ho2 (by omega) (by omega) (by decide) ?_
        refine s_eq (wI_wA _ _ _ _ _) ?_
        refine s_iinc_n (c := 1) hX dX7_storeAt_43 rfl (by decide) rfl st_3_2 ?_
        refine s_goto (tgt := 20) hX dX7_storeAt_46 (by decide) ?_
        refine ih _ _ hs1 ho1f hy (by omega) (fun j hj => ?_) (fun j hj hj2 => ?_)
        · by_cases e : j = k
          · subst e; rw [pk_us]
          · rw [pk_un e]; exact h1 j (by omega)
        · rw [pk_un (by omega)]; exact h2 j (by omega) hj2
  refine s_aload_n hX dX7_storeAt_0 rfl ?_
  refine s_iload_n hX dX7_storeAt_1 rfl ?_
  refine s_iconst (v := nI 0) hX dX7_storeAt_2 (by decide) ?_
  refine s_callVv (as := [_, _]) hX dX7_storeAt_3 mk_X7_setWant lk_X7_59 (c_X7_setWant ho0 h hP c hc 0 (by decide)) ho1 (by omega) rfl rfl rfl ⟨rfl, rfl⟩ (Nat.le_of_ble_eq_true rfl) (Nat.le_of_ble_eq_true rfl) (Nat.le_of_ble_eq_true rfl) rfl (fun σ3 p3 => ?_)
  obtain ⟨p3a, p3b⟩ := p3
  refine s_aload_n hX dX7_storeAt_6 rfl ?_
  refine s_dup hX dX7_storeAt_7 rfl ?_
  refine s_getL hX dX7_storeAt_8 fl_X7_11 ho1 rfl (by omega) rfl ?_
  refine s_ldc2 (v := (-4328785937)) hX dX7_storeAt_11 (tb_at 614 (by decide +kernel) rfl) ?_
  refine s_land hX dX7_storeAt_14 ?_
  refine s_putL hX dX7_storeAt_15 fl_X7_11 ho1 rfl (by omega) rfl rfl ?_
  refine s_iconst (v := nI 0) hX dX7_storeAt_18 (by decide) ?_
  refine s_istore_n hX dX7_storeAt_19 (Nat.le_of_ble_eq_true rfl) rfl st_3_2 ?_
  refine s_eq (σ2 := wA (wL σ3 o 0 ((σ3 o).2 0 &&& (-4328785937))) (o + 1) (σ3 (o + 1)).1) (by
    have := wA_self (wL σ3 o 0 ((σ3 o).2 0 &&& (-4328785937))) (o + 1)
    rw [wL_a _ _ (Ne.symm hne)] at this
    exact this.symm) ?_
  exact LP σ3 _ (v 15) 0 _ p3a (p3b.mono (by simp)) rfl (by omega) (fun j hj => by omega) (fun j hj hj2 => p3a.2.2 j hj2)
set_option maxRecDepth 100000 in
set_option maxHeartbeats 4000000 in
theorem c_X7_endsWord {n : Nat} {σ : Sg} {o : Nat} (ho : IsSc o n) : Sm n mX7_endsWord [.ref o] σ (ql fun r σ2 => r = (σ o).2 0 ∧ σ2 = σ) := by
  refine Sm.of mk_X7_endsWord (Nat.le_of_ble_eq_true rfl) rfl (fun X hX => ?_)
  obtain ⟨ho1, ho2, ho3⟩ := ho
  refine s_aload_n hX dX7_endsWord_0 rfl ?_
  refine s_getL hX dX7_endsWord_1 fl_X7_11 ho1 rfl (by omega) rfl ?_
  refine s_lret hX dX7_endsWord_4 rfl rfl ?_
  exact ⟨rfl, rfl⟩
def lwR (f : Nat → Nat) : Nat → Nat
  | 0 => 0
  | k + 1 => lwR f k * 32768 + f k
theorem lwR_lt {f : Nat → Nat} (hf : ∀ i, f i < 32768) : ∀ k, lwR f k < 32768 ^ k
  | 0 => by show 0 < 1; decide
  | k + 1 => by
    have := lwR_lt hf k
    have := hf k
    show lwR f k * 32768 + f k < 32768 ^ (k + 1)
    rw [Nat.pow_succ]
    omega
theorem lb_lNx {m : Nat} (hm : m < 2 ^ 64) (i : Nat) : lb (lN m) i = m.testBit i := by
  by_cases hi : i < 64
  · exact lb_lN hi
  · rw [Nat.testBit_lt_two_pow (Nat.lt_of_lt_of_le hm (show 2 ^ 64 ≤ 2 ^ i from Nat.pow_le_pow_right (by decide) (by omega)))]
    exact BitVec.getLsbD_of_ge _ _ (by omega)
theorem lw_push {w c : Nat} (hc : c < 32768) : lN w <<< ((nI 15).toInt64 &&& 63) ||| (nI c).toInt64 = lN (w * 32768 + c) := by
  apply lb_ext
  intro i hi
  rw [lb_or, lb_shl 15 (by decide) _ hi, lb_i2l (by omega) hi, lb_lN hi, lb_lN (by omega), show w * 32768 + c = w * 2 ^ 15 ||| c from (tb_low 15 c w hc).symm, Nat.testBit_or, Nat.testBit_mul_two_pow]
theorem lw_pop {w : Nat} (hw : w < 2 ^ 64) : ((lN w).toUInt64 >>> ((nI 15).toInt64.toUInt64 &&& Int64.toUInt64 63)).toInt64 = lN (w / 32768) := by
  apply lb_ext
  intro i hi
  rw [lb_ushr 15 (by decide), lb_lNx hw, lb_lN hi, show (32768 : Nat) = 2 ^ 15 from rfl, Nat.testBit_div_two_pow, Nat.add_comm]
theorem lw_low {w : Nat} : (lN w).toInt32 &&& nI 32767 = nI (w % 32768) := by
  rw [lN_i, nx_and, show (32767 : Nat) = 2 ^ 15 - 1 from rfl, am]
/-- the word of the letters' half -/
def lwF (pr : Pr) (v : Vc) (h : Nat) : Nat := lwR (fun i => lcF pr v (h * 4 + i)) 4
theorem lwF_lt {pr : Pr} {v : Vc} (hk : PrOk pr) (hv : VOk pr v) (h : Nat) : lwF pr v h < 2 ^ 60 := lwR_lt (fun i => lcF_lt hk hv _) 4
set_option maxRecDepth 100000 in
set_option maxHeartbeats 4000000 in
theorem c_X7_lettersWord {n : Nat} {σ : Sg} {o : Nat} {pr : Pr} {v : Vc} (ho : IsSc o n) (h : ScC pr σ o v) (hk : PrOk pr) (hv : VOk pr v) (h9 : Nat) (hh : h9 < 2) : Sm n mX7_lettersWord [.ref o, .int (nI h9)] σ (ql fun r σ2 => r = lN (lwF pr v h9) ∧ σ2 = σ) := by
  refine Sm.of mk_X7_lettersWord (Nat.le_of_ble_eq_true rfl) rfl (fun X hX => ?_)
  obtain ⟨ho1, ho2, ho3⟩ := ho
  have LP : ∀ (d k : Nat), k + d = 4 → Sw n mX7_lettersWord X (ZS n mX7_lettersWord (ql fun r σ2 => r = lN (lwF pr v h9) ∧ σ2 = σ) X) 5 [some (.ref o), some (.int (nI h9)), some (.long (lN (lwR (fun i => lcF pr v (h9 * 4 + i)) k))), none, some (.int (nI k))] [] σ := by
    intro d
    induction d with
    | zero =>
      intro k hd
      have e : k = 4 := by omega
      subst e
      refine s_iload hX dX7_lettersWord_5 rfl ?_
      refine s_iconst (v := nI 4) hX dX7_lettersWord_7 (by decide) ?_
      refine s_icmp_ge_n (tgt := 35) hX dX7_lettersWord_8 (by decide) (by omega) (by omega) (fun q8 => ?_) (fun q8 => ?_)
      · refine s_lload_n hX dX7_lettersWord_35 rfl ?_
        refine s_lret hX dX7_lettersWord_36 rfl rfl ?_
        exact ⟨rfl, rfl⟩
      · omega
    | succ d ih =>
      intro k hd
      have c9 := lcF_lt hk hv (h9 * 4 + k)
      refine s_iload hX dX7_lettersWord_5 rfl ?_
      refine s_iconst (v := nI 4) hX dX7_lettersWord_7 (by decide) ?_
      refine s_icmp_ge_n (tgt := 35) hX dX7_lettersWord_8 (by decide) (by omega) (by omega) (fun q8 => ?_) (fun q8 => ?_)
      · omega
      · refine s_lload_n hX dX7_lettersWord_11 rfl ?_
        refine s_bipush (v := nI 15) hX dX7_lettersWord_12 (by decide) ?_
        refine s_lshl hX dX7_lettersWord_14 ?_
        refine s_aload_n hX dX7_lettersWord_15 rfl ?_
        refine s_getR hX dX7_lettersWord_16 fl_X7_19 ho1 rfl (by omega) ?_
        refine s_iload_n hX dX7_lettersWord_19 rfl ?_
        refine s_iconst (v := nI 4) hX dX7_lettersWord_20 (by decide) ?_
        refine s_imul_n hX dX7_lettersWord_21 ?_
        refine s_iload hX dX7_lettersWord_22 rfl ?_
        refine s_iadd_n hX dX7_lettersWord_24 ?_
        refine s_iald (x := nI (lcF pr v (h9 * 4 + k))) hX dX7_lettersWord_25 ho2 (by omega) (by omega) (by decide) (h.2.2 _ (by omega)) ?_
        refine s_i2l hX dX7_lettersWord_26 ?_
        refine s_lor hX dX7_lettersWord_27 ?_
        refine s_topl (lw_push c9) ?_
        refine s_lstore_n hX dX7_lettersWord_28 (Nat.le_of_ble_eq_true rfl) rfl sl_5_2 ?_
        refine s_iinc_n (c := 1) hX dX7_lettersWord_29 rfl (by decide) rfl st_5_4 ?_
        refine s_goto (tgt := 5) hX dX7_lettersWord_32 (by decide) ?_
        exact ih (k + 1) (by omega)
  refine s_lconst (v := lN 0) hX dX7_lettersWord_0 (by decide) ?_
  refine s_lstore_n hX dX7_lettersWord_1 (Nat.le_of_ble_eq_true rfl) rfl sl_5_2 ?_
  refine s_iconst (v := nI 0) hX dX7_lettersWord_2 (by decide) ?_
  refine s_istore hX dX7_lettersWord_3 (Nat.le_of_ble_eq_true rfl) rfl st_5_4 ?_
  exact LP 4 0 (by omega)
def nz1 (x : Nat) : Nat := if x = 0 then 0 else 1
def nzR (f : Nat → Nat) : Nat → Nat
  | 0 => 0
  | k + 1 => nzR f k + nz1 (f k)
theorem nzR_le (f : Nat → Nat) : ∀ k, nzR f k ≤ k
  | 0 => Nat.le_refl 0
  | k + 1 => by
    have := nzR_le f k
    show nzR f k + nz1 (f k) ≤ k + 1
    unfold nz1
    split <;> omega
set_option maxRecDepth 100000 in
set_option maxHeartbeats 4000000 in
theorem c_X7_loadHalf {n : Nat} {σ : Sg} {o : Nat} (ho : IsSc o n) (h9 : Nat) (hh : h9 < 2) (f : Nat → Nat) (hf : ∀ i, f i < 32768) (c0 : Nat) (hc0 : (σ o).1 1 = nI c0) : Sm n mX7_loadHalf [.ref o, .int (nI h9), .long (lN (lwR f 4))] σ (qv fun σ2 => (σ2 o).2 = (σ o).2 ∧ (σ2 o).1 1 = nI (c0 + nzR f 4) ∧ (∀ j, j < 8 → (σ2 (o + 1)).1 j = if h9 * 4 ≤ j ∧ j < h9 * 4 + 4 then nI (f (j - h9 * 4)) else (σ (o + 1)).1 j) ∧ Off σ σ2 [o, o + 1]) := by
  refine Sm.of mk_X7_loadHalf (Nat.le_of_ble_eq_true rfl) rfl (fun X hX => ?_)
  obtain ⟨ho1, ho2, ho3⟩ := ho
  have hne : o ≠ o + 1 := by omega
  have LP : ∀ (d : Nat) (σ1 : Sg) (z : Int32) (x7 : Option Value) (m : Nat), d ≤ 4 → z = nI d + Int32.ofInt (-1) → (σ1 o).2 = (σ o).2 → (σ1 o).1 1 = nI m → m + nzR f d = c0 + nzR f 4 → (∀ j, j < 8 → (σ1 (o + 1)).1 j = if h9 * 4 + d ≤ j ∧ j < h9 * 4 + 4 then nI (f (j - h9 * 4)) else (σ (o + 1)).1 j) → Off σ σ1 [o, o + 1] → Sw n mX7_loadHalf X (ZS n mX7_loadHalf (qv fun σ2 => (σ2 o).2 = (σ o).2 ∧ (σ2 o).1 1 = nI (c0 + nzR f 4) ∧ (∀ j, j < 8 → (σ2 (o + 1)).1 j = if h9 * 4 ≤ j ∧ j < h9 * 4 + 4 then nI (f (j - h9 * 4)) else (σ (o + 1)).1 j) ∧ Off σ σ2 [o, o + 1]) X) 6 [some (.ref o), some (.int (nI h9)), some (.long (lN (lwR f 4))), none, some (.long (lN (lwR f d))), none, some (.int z), x7] [] σ1 := by
    intro d
    induction d with
    | zero =>
      intro σ1 z x7 m hd hz h1 h2 h3 h4 h5
      have hz' : z = -1 := hz
      subst hz'
      refine s_iload hX dX7_loadHalf_6 rfl ?_
      refine s_if_lt (tgt := 65) hX dX7_loadHalf_8 (by decide) (fun q8 => ?_) (fun q8 => ?_)
      · refine s_vret hX dX7_loadHalf_65 rfl rfl ?_
        refine ⟨h1, ?_, fun j hj => ?_, h5⟩
        · rw [h2]
          have : m + 0 = c0 + nzR f 4 := h3
          rw [← this]; rfl
        · rw [h4 j hj]; rfl
      · exact absurd (by decide) q8
    | succ d ih =>
      intro σ1 z x7 m hd hz h1 h2 h3 h4 h5
      have hz' : z = nI d := by rw [hz]; exact sb_m1 (by omega)
      subst hz'
      clear hz
      have lt := lwR_lt hf (d + 1)
      have lt2 : (32768 : Nat) ^ (d + 1) ≤ 32768 ^ 4 := Nat.pow_le_pow_right (by decide) (by omega)
      have hfd := hf d
      have em : lwR f (d + 1) % 32768 = f d := by show (lwR f d * 32768 + f d) % 32768 = f d; omega
      have ed : lwR f (d + 1) / 32768 = lwR f d := by show (lwR f d * 32768 + f d) / 32768 = lwR f d; omega
      have FIN : ∀ (b : Nat), b = nz1 (f d) → Sw n mX7_loadHalf X (ZS n mX7_loadHalf (qv fun σ2 => (σ2 o).2 = (σ o).2 ∧ (σ2 o).1 1 = nI (c0 + nzR f 4) ∧ (∀ j, j < 8 → (σ2 (o + 1)).1 j = if h9 * 4 ≤ j ∧ j < h9 * 4 + 4 then nI (f (j - h9 * 4)) else (σ (o + 1)).1 j) ∧ Off σ σ2 [o, o + 1]) X) 48 [some (.ref o), some (.int (nI h9)), some (.long (lN (lwR f 4))), none, some (.long (lN (lwR f (d + 1)))), none, some (.int (nI d)), some (.int (nI (f d)))] [.int (nI b), .int (nI m), .ref o] (wI σ1 (o + 1) (h9 * 4 + d) (nI (f d))) := by
        intro b hb
        refine s_iadd_n hX dX7_loadHalf_48 ?_
        refine s_putI hX dX7_loadHalf_49 fl_X7_15 ho1 rfl (by omega) rfl rfl ?_
        refine s_lload hX dX7_loadHalf_52 rfl ?_
        refine s_bipush (v := nI 15) hX dX7_loadHalf_54 (by decide) ?_
        refine s_lushr hX dX7_loadHalf_56 ?_
        refine s_topl (lw_pop (by omega)) ?_
        rw [ed]
        refine s_lstore hX dX7_loadHalf_57 (Nat.le_of_ble_eq_true rfl) rfl sl_8_4 ?_
        refine s_iinc hX dX7_loadHalf_59 rfl rfl rfl st_8_6 ?_
        refine s_goto (tgt := 6) hX dX7_loadHalf_62 (by decide) ?_
        refine ih _ _ _ (m + b) (by omega) rfl ?_ ?_ ?_ ?_ ?_
        · rw [wI_2, wI_2]; exact h1
        · rw [wI_s]
        · have : m + (nzR f d + nz1 (f d)) = c0 + nzR f 4 := h3
          omega
        · intro j hj
          rw [wI_a _ _ (Ne.symm hne)]
          by_cases e : j = h9 * 4 + d
          · subst e
            rw [wI_s, if_pos (by omega), Nat.add_sub_cancel_left]
          · rw [wI_k _ _ e, h4 j hj]
            by_cases c : h9 * 4 + (d + 1) ≤ j ∧ j < h9 * 4 + 4
            · rw [if_pos c, if_pos (by omega)]
            · rw [if_neg c, if_neg (by omega)]
        · exact (h5.wI (by simp)).wI (by simp)
      refine s_iload hX dX7_loadHalf_6 rfl ?_
      refine s_if_lt_n (tgt := 65) hX dX7_loadHalf_8 (by decide) (by omega) ?_
      refine s_lload hX dX7_loadHalf_11 rfl ?_
      refine s_l2i hX dX7_loadHalf_13 ?_
      refine s_sipush (v := nI 32767) hX dX7_loadHalf_14 (by decide) ?_
      refine s_iand hX dX7_loadHalf_17 ?_
      refine s_top (lw_low.trans (by rw [em])) ?_
      refine s_istore hX dX7_loadHalf_18 (Nat.le_of_ble_eq_true rfl) rfl st_8_7 ?_
      refine s_aload_n hX dX7_loadHalf_20 rfl ?_
      refine s_getR hX dX7_loadHalf_21 fl_X7_19 ho1 rfl (by omega) ?_
      refine s_iload_n hX dX7_loadHalf_24 rfl ?_
      refine s_iconst (v := nI 4) hX dX7_loadHalf_25 (by decide) ?_
      refine s_imul_n hX dX7_loadHalf_26 ?_
      refine s_iload hX dX7_loadHalf_27 rfl ?_
      refine s_iadd_n hX dX7_loadHalf_29 ?_
      refine s_iload hX dX7_loadHalf_30 rfl ?_
      refine s_iast hX dX7_loadHalf_32 ho2 (by omega) (by omega) (by decide) ?_
      refine s_aload_n hX dX7_loadHalf_33 rfl ?_
      refine s_dup hX dX7_loadHalf_34 rfl ?_
      refine s_getI (x := nI (m)) hX dX7_loadHalf_35 fl_X7_15 ho1 rfl (by omega) (by rw [wI_a _ _ hne]; exact h2) ?_
      refine s_iload hX dX7_loadHalf_38 rfl ?_
      refine s_if_ne_n (tgt := 47) hX dX7_loadHalf_40 (by decide) (by omega) (fun q40 => ?_) (fun q40 => ?_)
      · refine s_iconst (v := nI 1) hX dX7_loadHalf_47 (by decide) ?_
        exact FIN _ (by unfold nz1; first | rw [if_pos (by omega)] | rw [if_neg (by omega)])
      · refine s_iconst (v := nI 0) hX dX7_loadHalf_43 (by decide) ?_
        refine s_goto (tgt := 48) hX dX7_loadHalf_44 (by decide) ?_
        exact FIN _ (by unfold nz1; first | rw [if_pos (by omega)] | rw [if_neg (by omega)])
  refine s_lload_n hX dX7_loadHalf_0 rfl ?_
  refine s_lstore hX dX7_loadHalf_1 (Nat.le_of_ble_eq_true rfl) rfl sl_8_4 ?_
  refine s_iconst (v := nI 3) hX dX7_loadHalf_3 (by decide) ?_
  refine s_istore hX dX7_loadHalf_4 (Nat.le_of_ble_eq_true rfl) rfl st_8_6 ?_
  exact LP 4 σ _ _ c0 (Nat.le_refl _) (by decide) rfl hc0 rfl (fun j hj => by rw [if_neg (by omega)]) Off.rf
theorem nz_lc {pr : Pr} {v : Vc} (i : Nat) : nz1 (lcF pr v i) = if i < v 15 then 1 else 0 := by
  unfold nz1
  by_cases c : i < v 15
  · have := lcF_pos (pr := pr) c
    rw [if_neg (by omega), if_pos c]
  · rw [lcF_out (by omega), if_pos rfl, if_neg c]
theorem nz_all {pr : Pr} {v : Vc} (h8 : v 15 ≤ 8) : nzR (fun i => lcF pr v (0 * 4 + i)) 4 + nzR (fun i => lcF pr v (1 * 4 + i)) 4 = v 15 := by
  simp only [nzR, nz_lc]
  have : ∀ k, k ≤ 8 → (0 + (if 0 * 4 + 0 < k then 1 else 0) + (if 0 * 4 + 1 < k then 1 else 0) + (if 0 * 4 + 2 < k then 1 else 0) + (if 0 * 4 + 3 < k then 1 else 0)) + (0 + (if 1 * 4 + 0 < k then 1 else 0) + (if 1 * 4 + 1 < k then 1 else 0) + (if 1 * 4 + 2 < k then 1 else 0) + (if 1 * 4 + 3 < k then 1 else 0)) = k := by decide
  exact this _ h8
set_option maxRecDepth 100000 in
set_option maxHeartbeats 4000000 in
theorem c_X7_load {n : Nat} {σ : Sg} {o : Nat} {pr : Pr} {v : Vc} (ho : IsSc o n) (hk : PrOk pr) (hv : VOk pr v) (y : Int64) (hy : ∀ i, i < 64 → lb y i = bitF pr v i) : Sm n mX7_load [.ref o, .long y, .long (lN (lwF pr v 0)), .long (lN (lwF pr v 1))] σ (qv fun σ2 => ScC pr σ2 o v ∧ Off σ σ2 [o, o + 1]) := by
  refine Sm.of mk_X7_load (Nat.le_of_ble_eq_true rfl) rfl (fun X hX => ?_)
  have ho0 := ho
  obtain ⟨ho1, ho2, ho3⟩ := ho
  have hne : o ≠ o + 1 := by omega
  refine s_aload_n hX dX7_load_0 rfl ?_
  refine s_lload_n hX dX7_load_1 rfl ?_
  refine s_putL hX dX7_load_2 fl_X7_11 ho1 rfl (by omega) rfl rfl ?_
  refine s_aload_n hX dX7_load_5 rfl ?_
  refine s_iconst (v := nI 0) hX dX7_load_6 (by decide) ?_
  refine s_putI hX dX7_load_7 fl_X7_15 ho1 rfl (by omega) rfl rfl ?_
  refine s_aload_n hX dX7_load_10 rfl ?_
  refine s_iconst (v := nI 0) hX dX7_load_11 (by decide) ?_
  refine s_lload_n hX dX7_load_12 rfl ?_
  refine s_callVv (as := [_, _]) hX dX7_load_13 mk_X7_loadHalf lk_X7_67 (c_X7_loadHalf ho0 0 (by decide) _ (fun i => lcF_lt hk hv _) 0 (by rw [wI_s])) ho1 (by omega) rfl rfl rfl ⟨rfl, rfl⟩ (Nat.le_of_ble_eq_true rfl) (Nat.le_of_ble_eq_true rfl) (Nat.le_of_ble_eq_true rfl) rfl (fun σ13 p13 => ?_)
  refine s_aload_n hX dX7_load_16 rfl ?_
  refine s_iconst (v := nI 1) hX dX7_load_17 (by decide) ?_
  refine s_lload hX dX7_load_18 rfl ?_
  refine s_callVv (as := [_, _]) hX dX7_load_20 mk_X7_loadHalf lk_X7_67 (c_X7_loadHalf ho0 1 (by decide) _ (fun i => lcF_lt hk hv _) _ p13.2.1) ho1 (by omega) rfl rfl rfl ⟨rfl, rfl⟩ (Nat.le_of_ble_eq_true rfl) (Nat.le_of_ble_eq_true rfl) (Nat.le_of_ble_eq_true rfl) rfl (fun σ20 p20 => ?_)
  refine s_vret hX dX7_load_23 rfl rfl ?_
  obtain ⟨a1, a2, a3, a4⟩ := p13
  obtain ⟨b1, b2, b3, b4⟩ := p20
  refine ⟨⟨fun i hi => ?_, ?_, fun i hi => ?_⟩, (((Off.rf.wL (by simp)).wI (by simp)).trans a4).trans b4⟩
  · rw [b1, a1, wI_2, wL_s]; exact hy i hi
  · rw [b2, Nat.zero_add, nz_all hv.2.2.2.2.1]
  · rw [b3 i hi]
    by_cases c : 1 * 4 ≤ i ∧ i < 1 * 4 + 4
    · rw [if_pos c, show 1 * 4 + (i - 1 * 4) = i by omega]
    · rw [if_neg c, a3 i hi, if_pos (by omega), show 0 * 4 + (i - 0 * 4) = i by omega]
