/-! ===== the shelf: find, keep, load ===== -/
theorem cnR_none : ∀ k, cnR (fun _ => none) 0 k = 0
  | 0 => rfl
  | k + 1 => by unfold cnR; rw [cnR_none k]; rfl
set_option maxRecDepth 100000 in
set_option maxHeartbeats 4000000 in
theorem c_X8_clear {n : Nat} {σ : Sg} {pr : Pr} (hn : 53 ≤ n) (V : Nat → Vc) : Sm n mX8_clear [.ref 31] σ (qv fun σ2 => ShC pr σ2 0 V ∧ Off σ σ2 [31, 35]) := by
  refine Sm.of mk_X8_clear (Nat.le_of_ble_eq_true rfl) rfl (fun X hX => ?_)
  refine s_aload_n hX dX8_clear_0 rfl ?_
  refine s_getR hX dX8_clear_1 fl_X8_21 rfl rfl (by omega) ?_
  refine s_iconst (v := nI 0) hX dX8_clear_4 (by decide) ?_
  refine s_callSv (as := [_, _]) hX dX8_clear_5 mk_J7_fill_53178 lk_X8_29 (c_J7_fill (a := 35) rfl (by omega) (by decide) _) rfl ⟨rfl, rfl⟩ (Nat.le_of_ble_eq_true rfl) (Nat.le_of_ble_eq_true rfl) (Nat.le_of_ble_eq_true rfl) rfl (fun σ5 p5 => ?_)
  subst p5
  refine s_aload_n hX dX8_clear_8 rfl ?_
  refine s_iconst (v := nI 0) hX dX8_clear_9 (by decide) ?_
  refine s_putI hX dX8_clear_10 fl_X8_25 rfl rfl (by omega) rfl rfl ?_
  refine s_vret hX dX8_clear_13 rfl rfl ?_
  refine ⟨⟨by rw [wI_s], fun m hm => absurd hm (Nat.not_lt_zero m), fun m m' hm => absurd hm (Nat.not_lt_zero m), fun _ => none, fun k hk => ?_, fun k m hk h => (by cases h), cnR_none _, fun m hm => absurd hm (Nat.not_lt_zero m)⟩, (Off.rf.wA (by simp)).wI (by simp)⟩
  rw [wI_a _ _ (by decide), wA_f]
  unfold filF
  rw [if_pos hk]
  rfl
set_option maxRecDepth 100000 in
set_option maxHeartbeats 4000000 in
theorem c_X8_count {n : Nat} {σ : Sg} {pr : Pr} {M : Nat} {V : Nat → Vc} (hn : 53 ≤ n) (h : ShC pr σ M V) : Sm n mX8_count [.ref 31] σ (qi fun r σ2 => r = nI M ∧ σ2 = σ) := by
  refine Sm.of mk_X8_count (Nat.le_of_ble_eq_true rfl) rfl (fun X hX => ?_)
  refine s_aload_n hX dX8_count_0 rfl ?_
  refine s_getI (x := nI (M)) hX dX8_count_1 fl_X8_25 rfl rfl (by omega) h.1 ?_
  refine s_iret hX dX8_count_4 rfl rfl ?_
  exact ⟨rfl, rfl⟩
theorem sub1_some {m : Nat} : nI (m + 1) - nI 1 = nI m := by
  have := pk_sub (a := m + 1) (b := 1) (by omega)
  rw [this]; rfl
theorem slI_sub (a : Option Nat) : slI a - nI 1 = amv a := by
  cases a with
  | none => decide
  | some m => exact sub1_some
def fnK (V : Nat → Vc) (M : Nat) (v : Vc) : Option Nat := fstR (fun m => eqV (V m) v) M
theorem SlR.fn {V : Nat → Vc} {M s0 k : Nat} {t : Nat → Option Nat} {v : Vc} (hD : ∀ m m', m < M → m' < M → eqV (V m) (V m') = true → m = m') (h : SlR V M t s0 v k) : t k = fnK V M v := by
  rcases h.2 with ⟨m, h1, h2, h3⟩ | ⟨h1, h2, _⟩
  · rw [h2]
    symm
    refine fstR_some.mpr ⟨h1, h3, fun j hj => Bool.eq_false_iff.mpr (fun q => ?_)⟩
    have := hD j m (by omega) h1 (eqV_trans q (eqV_symm h3))
    omega
  · rw [h1]
    symm
    exact fstR_none.mpr h2
set_option maxRecDepth 100000 in
set_option maxHeartbeats 4000000 in
theorem c_X8_find {n : Nat} {σ : Sg} {pr : Pr} {M : Nat} {V : Nat → Vc} (hn : 53 ≤ n) (hk : PrOk pr) (h : ShC pr σ M V) (hM : M ≤ 4000) (hV : ∀ m, m < M → VOk pr (V m)) {o : Nat} {v : Vc} (ho : IsSc o n) (hs : ScC pr σ o v) (hv : VOk pr v) : Sm n mX8_find [.ref 31, .ref o] σ (qi fun r σ2 => r = amv (fnK V M v) ∧ σ2 = σ) := by
  refine Sm.of mk_X8_find (Nat.le_of_ble_eq_true rfl) rfl (fun X hX => ?_)
  have ho3 := ho.2.2
  obtain ⟨a1, a2, a3, t, a4⟩ := h
  refine s_aload_n hX dX8_find_0 rfl ?_
  refine s_getR hX dX8_find_1 fl_X8_21 rfl rfl (by omega) ?_
  refine s_aload_n hX dX8_find_4 rfl ?_
  refine s_aload_n hX dX8_find_5 rfl ?_
  refine s_callVl (as := []) hX dX8_find_6 mk_X7_endsWord lk_X8_35 (c_X7_endsWord ho) ho.1 (by omega) rfl rfl rfl ⟨rfl, rfl⟩ (Nat.le_of_ble_eq_true rfl) (Nat.le_of_ble_eq_true rfl) (Nat.le_of_ble_eq_true rfl) rfl (fun v6 σ6 p6 => ?_)
  obtain ⟨rfl, ep⟩ := p6
  replace ep := ep.symm
  subst ep
  refine s_aload_n hX dX8_find_9 rfl ?_
  refine s_iconst (v := nI 0) hX dX8_find_10 (by decide) ?_
  refine s_callVl (as := [_]) hX dX8_find_11 mk_X7_lettersWord lk_X8_41 (c_X7_lettersWord ho hs hk hv 0 (by decide)) ho.1 (by omega) rfl rfl rfl ⟨rfl, rfl⟩ (Nat.le_of_ble_eq_true rfl) (Nat.le_of_ble_eq_true rfl) (Nat.le_of_ble_eq_true rfl) rfl (fun v11 σ11 p11 => ?_)
  obtain ⟨rfl, ep⟩ := p11
  replace ep := ep.symm
  subst ep
  refine s_aload_n hX dX8_find_14 rfl ?_
  refine s_iconst (v := nI 1) hX dX8_find_15 (by decide) ?_
  refine s_callVl (as := [_]) hX dX8_find_16 mk_X7_lettersWord lk_X8_41 (c_X7_lettersWord ho hs hk hv 1 (by decide)) ho.1 (by omega) rfl rfl rfl ⟨rfl, rfl⟩ (Nat.le_of_ble_eq_true rfl) (Nat.le_of_ble_eq_true rfl) (Nat.le_of_ble_eq_true rfl) rfl (fun v16 σ16 p16 => ?_)
  obtain ⟨rfl, ep⟩ := p16
  replace ep := ep.symm
  subst ep
  refine s_callVi (as := [_, _, _]) hX dX8_find_19 mk_X8_slotOf lk_X8_45 (c_X8_slotOf hn hk a2 a4 hM hV hv _ _ _ ⟨hs.1, rfl, rfl⟩) rfl (by omega) rfl rfl rfl ⟨rfl, rfl⟩ (Nat.le_of_ble_eq_true rfl) (Nat.le_of_ble_eq_true rfl) (Nat.le_of_ble_eq_true rfl) rfl (fun v19 σ19 p19 => ?_)
  obtain ⟨⟨k, rfl, hr⟩, ep⟩ := p19
  replace ep := ep.symm
  subst ep
  have hk8 := hr.1
  refine s_iald (x := (slI (t k))) hX dX8_find_22 rfl (by omega) (by omega) (by decide) (a4.1 k hr.1) ?_
  refine s_iconst (v := nI 1) hX dX8_find_23 (by decide) ?_
  refine s_isub hX dX8_find_24 ?_
  refine s_iret hX dX8_find_25 rfl rfl ?_
  exact ⟨by rw [← hr.fn a3]; exact slI_sub _, rfl⟩
theorem wL_n (σ : Sg) {a k j : Nat} (x : Int64) (h : j ≠ k) : (wL σ a k x a).2 j = (σ a).2 j := by simp [wL, va_up, vp_updL, h]
theorem va_lt {α : Type} (f : Nat → α) {M m : Nat} (x : α) (h : m < M) : va_up f M x m = f m := va_up_ne _ _ (by omega)
set_option maxRecDepth 100000 in
set_option maxHeartbeats 4000000 in
theorem c_X8_keep {n : Nat} {σ : Sg} {pr : Pr} {M : Nat} {V : Nat → Vc} (hn : 53 ≤ n) (hk : PrOk pr) (h : ShC pr σ M V) (hM : M < 4000) (hV : ∀ m, m < M → VOk pr (V m)) {o : Nat} {v : Vc} (ho : IsSc o n) (hs : ScC pr σ o v) (hv : VOk pr v) (hf : fnK V M v = none) (ho9 : o + 1 < 31) : Sm n mX8_keep [.ref 31, .ref o] σ (qi fun r σ2 => r = nI M ∧ ShC pr σ2 (M + 1) (va_up V M v) ∧ Off σ σ2 [31, 32, 33, 34, 35]) := by
  refine Sm.of mk_X8_keep (Nat.le_of_ble_eq_true rfl) rfl (fun X hX => ?_)
  have ho3 := ho.2.2
  obtain ⟨a1, a2, a3, t, a4⟩ := h
  have sc1 : ScC pr (wL σ 32 M ((σ o).2 0)) o v := hs.kept (wL_a _ _ (by omega)) (wL_a _ _ (by omega))
  have sc2 : ScC pr (wL (wL σ 32 M ((σ o).2 0)) 33 M (lN (lwF pr v 0))) o v := sc1.kept (wL_a _ _ (by omega)) (wL_a _ _ (by omega))
  have e32 : ∀ m, m < M → ((wL (wL (wL σ 32 M ((σ o).2 0)) 33 M (lN (lwF pr v 0))) 34 M (lN (lwF pr v 1))) 32).2 m = (σ 32).2 m := fun m hm => by rw [wL_a _ _ (by decide), wL_a _ _ (by decide), wL_n _ _ (by omega)]
  have e33 : ∀ m, m < M → ((wL (wL (wL σ 32 M ((σ o).2 0)) 33 M (lN (lwF pr v 0))) 34 M (lN (lwF pr v 1))) 33).2 m = (σ 33).2 m := fun m hm => by rw [wL_a _ _ (by decide), wL_n _ _ (by omega), wL_a _ _ (by decide)]
  have e34 : ∀ m, m < M → ((wL (wL (wL σ 32 M ((σ o).2 0)) 33 M (lN (lwF pr v 0))) 34 M (lN (lwF pr v 1))) 34).2 m = (σ 34).2 m := fun m hm => by rw [wL_n _ _ (by omega), wL_a _ _ (by decide), wL_a _ _ (by decide)]
  have f32 : ((wL (wL (wL σ 32 M ((σ o).2 0)) 33 M (lN (lwF pr v 0))) 34 M (lN (lwF pr v 1))) 32).2 M = (σ o).2 0 := by rw [wL_a _ _ (by decide), wL_a _ _ (by decide), wL_s]
  have f33 : ((wL (wL (wL σ 32 M ((σ o).2 0)) 33 M (lN (lwF pr v 0))) 34 M (lN (lwF pr v 1))) 33).2 M = lN (lwF pr v 0) := by rw [wL_a _ _ (by decide), wL_s]
  have f34 : ((wL (wL (wL σ 32 M ((σ o).2 0)) 33 M (lN (lwF pr v 0))) 34 M (lN (lwF pr v 1))) 34).2 M = lN (lwF pr v 1) := by rw [wL_s]
  have hW3 : WdsC pr (wL (wL (wL σ 32 M ((σ o).2 0)) 33 M (lN (lwF pr v 0))) 34 M (lN (lwF pr v 1))) M V := fun m hm => by rw [e32 m hm, e33 m hm, e34 m hm]; exact a2 m hm
  have hT3 : HtC (wL (wL (wL σ 32 M ((σ o).2 0)) 33 M (lN (lwF pr v 0))) 34 M (lN (lwF pr v 1))) M t := by
    refine ⟨fun k hk8 => ?_, a4.2.1, a4.2.2.1, fun m hm => ?_⟩
    · rw [wL_a _ _ (by decide), wL_a _ _ (by decide), wL_a _ _ (by decide)]; exact a4.1 k hk8
    · have := a4.2.2.2 m hm
      unfold stM at *
      rw [e32 m hm, e33 m hm, e34 m hm]; exact this
  refine s_aload_n hX dX8_keep_0 rfl ?_
  refine s_getI (x := nI (M)) hX dX8_keep_1 fl_X8_25 rfl rfl (by omega) a1 ?_
  refine s_istore_n hX dX8_keep_4 (Nat.le_of_ble_eq_true rfl) rfl st_3_2 ?_
  refine s_aload_n hX dX8_keep_5 rfl ?_
  refine s_getR hX dX8_keep_6 fl_X8_11 rfl rfl (by omega) ?_
  refine s_iload_n hX dX8_keep_9 rfl ?_
  refine s_aload_n hX dX8_keep_10 rfl ?_
  refine s_callVl (as := []) hX dX8_keep_11 mk_X7_endsWord lk_X8_35 (c_X7_endsWord ho) ho.1 (by omega) rfl rfl rfl ⟨rfl, rfl⟩ (Nat.le_of_ble_eq_true rfl) (Nat.le_of_ble_eq_true rfl) (Nat.le_of_ble_eq_true rfl) rfl (fun v11 σ11 p11 => ?_)
  obtain ⟨rfl, ep⟩ := p11
  replace ep := ep.symm
  subst ep
  refine s_last hX dX8_keep_14 rfl (by omega) (by omega) (by decide) ?_
  refine s_aload_n hX dX8_keep_15 rfl ?_
  refine s_getR hX dX8_keep_16 fl_X8_15 rfl rfl (by omega) ?_
  refine s_iload_n hX dX8_keep_19 rfl ?_
  refine s_aload_n hX dX8_keep_20 rfl ?_
  refine s_iconst (v := nI 0) hX dX8_keep_21 (by decide) ?_
  refine s_callVl (as := [_]) hX dX8_keep_22 mk_X7_lettersWord lk_X8_41 (c_X7_lettersWord ho sc1 hk hv 0 (by decide)) ho.1 (by omega) rfl rfl rfl ⟨rfl, rfl⟩ (Nat.le_of_ble_eq_true rfl) (Nat.le_of_ble_eq_true rfl) (Nat.le_of_ble_eq_true rfl) rfl (fun v22 σ22 p22 => ?_)
  obtain ⟨rfl, ep⟩ := p22
  replace ep := ep.symm
  subst ep
  refine s_last hX dX8_keep_25 rfl (by omega) (by omega) (by decide) ?_
  refine s_aload_n hX dX8_keep_26 rfl ?_
  refine s_getR hX dX8_keep_27 fl_X8_18 rfl rfl (by omega) ?_
  refine s_iload_n hX dX8_keep_30 rfl ?_
  refine s_aload_n hX dX8_keep_31 rfl ?_
  refine s_iconst (v := nI 1) hX dX8_keep_32 (by decide) ?_
  refine s_callVl (as := [_]) hX dX8_keep_33 mk_X7_lettersWord lk_X8_41 (c_X7_lettersWord ho sc2 hk hv 1 (by decide)) ho.1 (by omega) rfl rfl rfl ⟨rfl, rfl⟩ (Nat.le_of_ble_eq_true rfl) (Nat.le_of_ble_eq_true rfl) (Nat.le_of_ble_eq_true rfl) rfl (fun v33 σ33 p33 => ?_)
  obtain ⟨rfl, ep⟩ := p33
  replace ep := ep.symm
  subst ep
  refine s_last hX dX8_keep_36 rfl (by omega) (by omega) (by decide) ?_
  refine s_aload_n hX dX8_keep_37 rfl ?_
  refine s_getR hX dX8_keep_38 fl_X8_21 rfl rfl (by omega) ?_
  refine s_aload_n hX dX8_keep_41 rfl ?_
  refine s_aload_n hX dX8_keep_42 rfl ?_
  refine s_getR hX dX8_keep_43 fl_X8_11 rfl rfl (by omega) ?_
  refine s_iload_n hX dX8_keep_46 rfl ?_
  refine s_lald (x := ((σ o).2 0)) hX dX8_keep_47 rfl (by omega) (by omega) (by decide) f32 ?_
  refine s_aload_n hX dX8_keep_48 rfl ?_
  refine s_getR hX dX8_keep_49 fl_X8_15 rfl rfl (by omega) ?_
  refine s_iload_n hX dX8_keep_52 rfl ?_
  refine s_lald (x := (lN (lwF pr v 0))) hX dX8_keep_53 rfl (by omega) (by omega) (by decide) f33 ?_
  refine s_aload_n hX dX8_keep_54 rfl ?_
  refine s_getR hX dX8_keep_55 fl_X8_18 rfl rfl (by omega) ?_
  refine s_iload_n hX dX8_keep_58 rfl ?_
  refine s_lald (x := (lN (lwF pr v 1))) hX dX8_keep_59 rfl (by omega) (by omega) (by decide) f34 ?_
  refine s_callVi (as := [_, _, _]) hX dX8_keep_60 mk_X8_slotOf lk_X8_45 (c_X8_slotOf hn hk hW3 hT3 (by omega) hV hv _ _ _ ⟨hs.1, rfl, rfl⟩) rfl (by omega) rfl rfl rfl ⟨rfl, rfl⟩ (Nat.le_of_ble_eq_true rfl) (Nat.le_of_ble_eq_true rfl) (Nat.le_of_ble_eq_true rfl) rfl (fun v60 σ60 p60 => ?_)
  obtain ⟨⟨k, rfl, hr⟩, ep⟩ := p60
  replace ep := ep.symm
  subst ep
  have hk8 := hr.1
  have htk := hr.fn a3
  rw [hf] at htk
  refine s_iload_n hX dX8_keep_63 rfl ?_
  refine s_iconst (v := nI 1) hX dX8_keep_64 (by decide) ?_
  refine s_iadd_n hX dX8_keep_65 ?_
  refine s_iast hX dX8_keep_66 rfl (by omega) (by omega) (by decide) ?_
  refine s_aload_n hX dX8_keep_67 rfl ?_
  refine s_dup hX dX8_keep_68 rfl ?_
  refine s_getI (x := nI (M)) hX dX8_keep_69 fl_X8_25 rfl rfl (by omega) (by rw [wI_a _ _ (by decide), wL_a _ _ (by decide), wL_a _ _ (by decide), wL_a _ _ (by decide)]; exact a1) ?_
  refine s_iconst (v := nI 1) hX dX8_keep_72 (by decide) ?_
  refine s_iadd_n hX dX8_keep_73 ?_
  refine s_putI hX dX8_keep_74 fl_X8_25 rfl rfl (by omega) rfl rfl ?_
  refine s_iload_n hX dX8_keep_77 rfl ?_
  refine s_iret hX dX8_keep_78 rfl rfl ?_
  have hno : ∀ m, m < M → eqV (V m) v = false := fstR_none.mp hf
  obtain ⟨_, hr2⟩ := hr
  rcases hr2 with ⟨m, _, q2, _⟩ | ⟨_, _, d0, d1, d2, d3⟩
  · rw [htk] at q2; cases q2
  refine ⟨rfl, ⟨by rw [wI_s], fun m hm => ?_, fun m m2 hm hm2 he => ?_, fun q => if q = k then some M else t q, fun q hq => ?_, fun q m hq hm => ?_, ?_, fun m hm => ?_⟩, ((((Off.rf.wL (by simp)).wL (by simp)).wL (by simp)).wI (by simp)).wI (by simp)⟩
  · rw [wI_2, wI_2, wI_2, wI_2, wI_2, wI_2]
    by_cases e : m = M
    · subst e
      rw [va_up_at, f32, f33, f34]
      exact ⟨hs.1, rfl, rfl⟩
    · rw [va_lt _ _ (by omega)]
      exact hW3 m (by omega)
  · by_cases e : m = M
    · by_cases e2 : m2 = M
      · omega
      · subst e
        rw [va_up_at, va_lt _ _ (by omega)] at he
        have := hno m2 (by omega)
        rw [eqV_symm he] at this; cases this
    · by_cases e2 : m2 = M
      · subst e2
        rw [va_up_at, va_lt _ _ (by omega)] at he
        have := hno m (by omega)
        rw [he] at this; cases this
      · rw [va_lt _ _ (by omega), va_lt _ _ (by omega)] at he
        exact a3 m m2 (by omega) (by omega) he
  · rw [wI_a _ _ (by decide)]
    by_cases e : q = k
    · subst e
      rw [wI_s]
      dsimp only
      rw [if_pos rfl]
      rfl
    · rw [wI_k _ _ e]
      dsimp only
      rw [if_neg e]
      exact hT3.1 q hq
  · dsimp only at hm
    split at hm
    · cases hm; omega
    · have := a4.2.1 q m hq hm; omega
  · have := cnR_set (f := fun q => if q = k then some M else t q) (g := t) (b := 0) (a := k) (Nat.zero_le _) (fun q hq => if_neg hq) 8192 (by omega)
    have h1 : isN (t k) = 0 := by rw [htk]; rfl
    have h2 : isN (if k = k then some M else t k) = 1 := by rw [if_pos rfl]; rfl
    have h3 := a4.2.2.1
    omega
  · unfold stM
    rw [wI_2, wI_2, wI_2, wI_2, wI_2, wI_2]
    by_cases e : m = M
    · subst e
      rw [f32, f33, f34]
      refine ⟨d0, d1, ?_, fun e he => ?_⟩
      · rw [← d2]; dsimp only; rw [if_pos rfl]
      · dsimp only
        split
        · rfl
        · exact d3 e he
    · obtain ⟨d, g1, g2, g3⟩ := hT3.2.2.2 m (by omega)
      unfold stM at g2 g3
      refine ⟨d, g1, ?_, fun e he => ?_⟩
      · dsimp only
        rw [if_neg (fun q => by rw [q, htk] at g2; cases g2)]
        exact g2
      · dsimp only
        split
        · rfl
        · exact g3 e he
set_option maxRecDepth 100000 in
set_option maxHeartbeats 4000000 in
theorem c_X8_load {n : Nat} {σ : Sg} {pr : Pr} {M : Nat} {V : Nat → Vc} (hn : 53 ≤ n) (hk : PrOk pr) (h : ShC pr σ M V) (hM : M ≤ 4000) (hV : ∀ m, m < M → VOk pr (V m)) {o : Nat} (ho : IsSc o n) (m : Nat) (hm : m < M) : Sm n mX8_load [.ref 31, .int (nI m), .ref o] σ (qv fun σ2 => ScC pr σ2 o (V m) ∧ Off σ σ2 [o, o + 1]) := by
  refine Sm.of mk_X8_load (Nat.le_of_ble_eq_true rfl) rfl (fun X hX => ?_)
  have ho3 := ho.2.2
  obtain ⟨b1, b2, b3⟩ := h.2.1 m hm
  refine s_aload_n hX dX8_load_0 rfl ?_
  refine s_aload_n hX dX8_load_1 rfl ?_
  refine s_getR hX dX8_load_2 fl_X8_11 rfl rfl (by omega) ?_
  refine s_iload_n hX dX8_load_5 rfl ?_
  refine s_lald hX dX8_load_6 rfl (by omega) (by omega) (by decide) rfl ?_
  refine s_aload_n hX dX8_load_7 rfl ?_
  refine s_getR hX dX8_load_8 fl_X8_15 rfl rfl (by omega) ?_
  refine s_iload_n hX dX8_load_11 rfl ?_
  refine s_lald (x := (lN (lwF pr (V m) 0))) hX dX8_load_12 rfl (by omega) (by omega) (by decide) b2 ?_
  refine s_aload_n hX dX8_load_13 rfl ?_
  refine s_getR hX dX8_load_14 fl_X8_18 rfl rfl (by omega) ?_
  refine s_iload_n hX dX8_load_17 rfl ?_
  refine s_lald (x := (lN (lwF pr (V m) 1))) hX dX8_load_18 rfl (by omega) (by omega) (by decide) b3 ?_
  refine s_callVv (as := [_, _, _]) hX dX8_load_19 mk_X7_load lk_X8_49 (c_X7_load ho hk (hV m hm) _ b1) ho.1 (by omega) rfl rfl rfl ⟨rfl, rfl⟩ (Nat.le_of_ble_eq_true rfl) (Nat.le_of_ble_eq_true rfl) (Nat.le_of_ble_eq_true rfl) rfl (fun σ19 p19 => ?_)
  refine s_vret hX dX8_load_22 rfl rfl ?_
  exact p19
