def PrC (σ : Sg) (pr : Pr) : Prop := (σ 1).1 0 = nI (pP pr) ∧ (∀ k, k < 16 → (σ 2).1 k = nI (pLo pr k)) ∧ (∀ s, s < 16 → (σ 3).1 s = nI (pRi pr s)) ∧ (∀ a, a < 2048 → (σ 4).1 a = amv (pAm pr a)) ∧ (∀ a, a < 2048 → ∀ m, pAm pr a = some m → ∀ k, k < m → byF (if k < 4 then (σ 5).1 a else (σ 6).1 a) (k % 4) = pAc pr a k) ∧ (∀ a, a < 2048 → (σ 7).1 a = bI (wtF pr a)) ∧ (∀ s, s < 2 → (σ 8).1 s = nI (cnR (pAm pr) (1024 * s) 1024))
theorem PrC.off {σ σ2 : Sg} {pr : Pr} {S : List Nat} (h : PrC σ pr) (f : Off σ σ2 S) (hs : 1 ∉ S ∧ 2 ∉ S ∧ 3 ∉ S ∧ 4 ∉ S ∧ 5 ∉ S ∧ 6 ∉ S ∧ 7 ∉ S ∧ 8 ∉ S) : PrC σ2 pr := by
  obtain ⟨s1, s2, s3, s4, s5, s6, s7, s8⟩ := hs
  unfold PrC
  rw [f 1 s1, f 2 s2, f 3 s3, f 4 s4, f 5 s5, f 6 s6, f 7 s7, f 8 s8]
  exact h
theorem PrC.kept {σ σ2 : Sg} {pr : Pr} (h : PrC σ pr) (e : ∀ a, 1 ≤ a → a ≤ 8 → σ2 a = σ a) : PrC σ2 pr := by
  unfold PrC
  rw [e 1 (by decide) (by decide), e 2 (by decide) (by decide), e 3 (by decide) (by decide), e 4 (by decide) (by decide), e 5 (by decide) (by decide), e 6 (by decide) (by decide), e 7 (by decide) (by decide), e 8 (by decide) (by decide)]
  exact h
theorem wtR_cong {f g : Nat → Nat} : ∀ m, (∀ k, k < m → f k = g k) → wtR f m = wtR g m
  | 0, _ => rfl
  | m + 1, h => by unfold wtR; rw [wtR_cong m (fun k hk => h k (by omega)), h m (by omega)]
theorem wtR_hit {f : Nat → Nat} {k : Nat} (h : f k / 16 = 9) : ∀ d, wtR f (k + 1 + d) = true
  | 0 => by show (wtR f k || f k / 16 == 9) = true; rw [h]; simp
  | d + 1 => by show (wtR f (k + 1 + d) || _) = true; rw [wtR_hit h d]; rfl
theorem cnR_out {f g : Nat → Option Nat} {b : Nat} : ∀ k, (∀ q, b ≤ q → q < b + k → f q = g q) → cnR f b k = cnR g b k
  | 0, _ => rfl
  | k + 1, h => by unfold cnR; rw [cnR_out k (fun q a c => h q a (by omega)), h (b + k) (by omega) (by omega)]
theorem cnR_set {f g : Nat → Option Nat} {b a : Nat} (hab : b ≤ a) (ho : ∀ q, q ≠ a → f q = g q) : ∀ k, a < b + k → cnR g b k + isN (f a) = cnR f b k + isN (g a)
  | 0, h => by omega
  | k + 1, h => by
    by_cases e : a = b + k
    · subst e
      unfold cnR
      rw [cnR_out (f := g) (g := f) k (fun q h1 h2 => (ho q (by omega)).symm)]
      omega
    · have ih := cnR_set hab ho k (by omega)
      unfold cnR
      rw [ho (b + k) (by omega)]
      omega
set_option maxRecDepth 100000 in
set_option maxHeartbeats 4000000 in
theorem c_X6_home {n : Nat} {σ : Sg} {pr : Pr} (hn : 53 ≤ n) (h : PrC σ pr) : Sm n mX6_home [.ref 1] σ (qi fun r σ2 => r = nI (pP pr) ∧ σ2 = σ) := by
  refine Sm.of mk_X6_home (Nat.le_of_ble_eq_true rfl) rfl (fun X hX => ?_)
  refine s_aload_n hX dX6_home_0 rfl ?_
  refine s_getI (x := nI (pP pr)) hX dX6_home_1 fl_X6_9 rfl rfl (by omega) h.1 ?_
  refine s_iret hX dX6_home_4 rfl rfl ?_
  exact ⟨rfl, rfl⟩
set_option maxRecDepth 100000 in
set_option maxHeartbeats 4000000 in
theorem c_X6_setHome {n : Nat} {σ : Sg} {pr : Pr} (hn : 53 ≤ n) (h : PrC σ pr) (p : Nat) : Sm n mX6_setHome [.ref 1, .int (nI p)] σ (qi fun r σ2 => r = nI (pP pr) ∧ PrC σ2 (p, pr.2) ∧ Off σ σ2 [1]) := by
  refine Sm.of mk_X6_setHome (Nat.le_of_ble_eq_true rfl) rfl (fun X hX => ?_)
  refine s_aload_n hX dX6_setHome_0 rfl ?_
  refine s_getI (x := nI (pP pr)) hX dX6_setHome_1 fl_X6_9 rfl rfl (by omega) h.1 ?_
  refine s_istore_n hX dX6_setHome_4 (Nat.le_of_ble_eq_true rfl) rfl st_3_2 ?_
  refine s_aload_n hX dX6_setHome_5 rfl ?_
  refine s_iload_n hX dX6_setHome_6 rfl ?_
  refine s_putI hX dX6_setHome_7 fl_X6_9 rfl rfl (by omega) rfl rfl ?_
  refine s_iload_n hX dX6_setHome_10 rfl ?_
  refine s_iret hX dX6_setHome_11 rfl rfl ?_
  refine ⟨rfl, ?_, Off.rf.wI (by decide)⟩
  refine ⟨by rw [wI_s], ?_⟩
  rw [wI_a _ _ (by decide), wI_a _ _ (by decide), wI_a _ _ (by decide), wI_a _ _ (by decide), wI_a _ _ (by decide), wI_a _ _ (by decide), wI_a _ _ (by decide)]
  exact h.2
set_option maxRecDepth 100000 in
set_option maxHeartbeats 4000000 in
theorem c_X6_looseOf {n : Nat} {σ : Sg} {pr : Pr} (hn : 53 ≤ n) (h : PrC σ pr) (k : Nat) (hk : k < 16) : Sm n mX6_looseOf [.ref 1, .int (nI k)] σ (qi fun r σ2 => r = nI (pLo pr k) ∧ σ2 = σ) := by
  refine Sm.of mk_X6_looseOf (Nat.le_of_ble_eq_true rfl) rfl (fun X hX => ?_)
  refine s_aload_n hX dX6_looseOf_0 rfl ?_
  refine s_getR hX dX6_looseOf_1 fl_X6_15 rfl rfl (by omega) ?_
  refine s_iload_n hX dX6_looseOf_4 rfl ?_
  refine s_iald (x := nI (pLo pr k)) hX dX6_looseOf_5 rfl (by omega) (by omega) (by decide) (h.2.1 k hk) ?_
  refine s_iret hX dX6_looseOf_6 rfl rfl ?_
  exact ⟨rfl, rfl⟩
set_option maxRecDepth 100000 in
set_option maxHeartbeats 4000000 in
theorem c_X6_setLoose {n : Nat} {σ : Sg} {pr : Pr} (hn : 53 ≤ n) (h : PrC σ pr) (k q : Nat) (hk : k < 16) : Sm n mX6_setLoose [.ref 1, .int (nI k), .int (nI q)] σ (qi fun r σ2 => r = nI (pLo pr k) ∧ PrC σ2 (pP pr, vset (pLo pr) k q, pr.2.2) ∧ Off σ σ2 [2]) := by
  refine Sm.of mk_X6_setLoose (Nat.le_of_ble_eq_true rfl) rfl (fun X hX => ?_)
  refine s_aload_n hX dX6_setLoose_0 rfl ?_
  refine s_getR hX dX6_setLoose_1 fl_X6_15 rfl rfl (by omega) ?_
  refine s_iload_n hX dX6_setLoose_4 rfl ?_
  refine s_iald (x := nI (pLo pr k)) hX dX6_setLoose_5 rfl (by omega) (by omega) (by decide) (h.2.1 k hk) ?_
  refine s_istore_n hX dX6_setLoose_6 (Nat.le_of_ble_eq_true rfl) rfl st_4_3 ?_
  refine s_aload_n hX dX6_setLoose_7 rfl ?_
  refine s_getR hX dX6_setLoose_8 fl_X6_15 rfl rfl (by omega) ?_
  refine s_iload_n hX dX6_setLoose_11 rfl ?_
  refine s_iload_n hX dX6_setLoose_12 rfl ?_
  refine s_iast hX dX6_setLoose_13 rfl (by omega) (by omega) (by decide) ?_
  refine s_iload_n hX dX6_setLoose_14 rfl ?_
  refine s_iret hX dX6_setLoose_15 rfl rfl ?_
  refine ⟨rfl, ?_, Off.rf.wI (by decide)⟩
  obtain ⟨h1, h2, h3, h4, h5, h6, h7⟩ := h
  refine ⟨by rw [wI_a _ _ (by decide)]; exact h1, ?_, ?_, by rw [wI_a _ _ (by decide)]; exact h4, by rw [wI_a _ _ (by decide), wI_a _ _ (by decide)]; exact h5, by rw [wI_a _ _ (by decide)]; exact h6, by rw [wI_a _ _ (by decide)]; exact h7⟩
  · intro j hj
    show _ = nI (vset (pLo pr) k q j)
    by_cases e : j = k
    · subst e; rw [wI_s, vset_s]
    · rw [wI_k _ _ e, vset_n _ _ e]; exact h2 j hj
  · rw [wI_a _ _ (by decide)]; exact h3
set_option maxRecDepth 100000 in
set_option maxHeartbeats 4000000 in
theorem c_X6_setRight {n : Nat} {σ : Sg} {pr : Pr} (hn : 53 ≤ n) (h : PrC σ pr) (k q : Nat) (hk : k < 16) : Sm n mX6_setRight [.ref 1, .int (nI k), .int (nI q)] σ (qi fun r σ2 => r = nI (pRi pr k) ∧ PrC σ2 (pP pr, pLo pr, vset (pRi pr) k q, pr.2.2.2) ∧ Off σ σ2 [3]) := by
  refine Sm.of mk_X6_setRight (Nat.le_of_ble_eq_true rfl) rfl (fun X hX => ?_)
  refine s_aload_n hX dX6_setRight_0 rfl ?_
  refine s_getR hX dX6_setRight_1 fl_X6_19 rfl rfl (by omega) ?_
  refine s_iload_n hX dX6_setRight_4 rfl ?_
  refine s_iald (x := nI (pRi pr k)) hX dX6_setRight_5 rfl (by omega) (by omega) (by decide) (h.2.2.1 k hk) ?_
  refine s_istore_n hX dX6_setRight_6 (Nat.le_of_ble_eq_true rfl) rfl st_4_3 ?_
  refine s_aload_n hX dX6_setRight_7 rfl ?_
  refine s_getR hX dX6_setRight_8 fl_X6_19 rfl rfl (by omega) ?_
  refine s_iload_n hX dX6_setRight_11 rfl ?_
  refine s_iload_n hX dX6_setRight_12 rfl ?_
  refine s_iast hX dX6_setRight_13 rfl (by omega) (by omega) (by decide) ?_
  refine s_iload_n hX dX6_setRight_14 rfl ?_
  refine s_iret hX dX6_setRight_15 rfl rfl ?_
  refine ⟨rfl, ?_, Off.rf.wI (by decide)⟩
  obtain ⟨h1, h2, h3, h4, h5, h6, h7⟩ := h
  refine ⟨by rw [wI_a _ _ (by decide)]; exact h1, ?_, ?_, by rw [wI_a _ _ (by decide)]; exact h4, by rw [wI_a _ _ (by decide), wI_a _ _ (by decide)]; exact h5, by rw [wI_a _ _ (by decide)]; exact h6, by rw [wI_a _ _ (by decide)]; exact h7⟩
  · rw [wI_a _ _ (by decide)]; exact h2
  · intro j hj
    show _ = nI (vset (pRi pr) k q j)
    by_cases e : j = k
    · subst e; rw [wI_s, vset_s]
    · rw [wI_k _ _ e, vset_n _ _ e]; exact h3 j hj
theorem amv_m1 {a : Option Nat} (h : ∀ m, a = some m → m < 2 ^ 31) : amv a = -1 ↔ a = none := by
  cases a with
  | none => exact ⟨fun _ => rfl, fun _ => rfl⟩
  | some m =>
    refine ⟨fun e => ?_, fun e => by cases e⟩
    have hm := h m rfl
    have e : nI m = -1 := e
    exact absurd (by rw [e]; decide : nI m < 0) (nI_pos hm)
set_option maxRecDepth 100000 in
set_option maxHeartbeats 4000000 in
theorem c_X6_hasRow {n : Nat} {σ : Sg} {pr : Pr} (hn : 53 ≤ n) (h : PrC σ pr) (hk : PrOk pr) (a : Nat) (ha : a < 2048) : Sm n mX6_hasRow [.ref 1, .int (nI a)] σ (qi fun r σ2 => r = nI (isN (pAm pr a)) ∧ σ2 = σ) := by
  refine Sm.of mk_X6_hasRow (Nat.le_of_ble_eq_true rfl) rfl (fun X hX => ?_)
  refine s_aload_n hX dX6_hasRow_0 rfl ?_
  refine s_getR hX dX6_hasRow_1 fl_X6_22 rfl rfl (by omega) ?_
  refine s_iload_n hX dX6_hasRow_4 rfl ?_
  refine s_iald (x := (amv (pAm pr a))) hX dX6_hasRow_5 rfl (by omega) (by omega) (by decide) (h.2.2.2.1 a ha) ?_
  refine s_iconst (v := -1) hX dX6_hasRow_6 (by decide) ?_
  refine s_icmp_eq (tgt := 14) hX dX6_hasRow_7 (by decide) (fun q7 => ?_) (fun q7 => ?_)
  · have hz := (amv_m1 (fun m hm => by have := hk.2.2.2.1 a m hm; omega)).mp q7
    refine s_iconst (v := nI 0) hX dX6_hasRow_14 (by decide) ?_
    refine s_zret hX dX6_hasRow_15 rfl (by first | exact Or.inl rfl | exact Or.inr rfl) rfl ?_
    refine ⟨?_, rfl⟩
    unfold isN
    cases hm : pAm pr a with
    | none => first | rfl | exact absurd hm hz
    | some m => first | rfl | (rw [hm] at hz; cases hz)
  · have hz : ¬ pAm pr a = none := fun e => q7 ((amv_m1 (fun m hm => by have := hk.2.2.2.1 a m hm; omega)).mpr e)
    refine s_iconst (v := nI 1) hX dX6_hasRow_10 (by decide) ?_
    refine s_goto (tgt := 15) hX dX6_hasRow_11 (by decide) ?_
    refine s_zret hX dX6_hasRow_15 rfl (by first | exact Or.inl rfl | exact Or.inr rfl) rfl ?_
    refine ⟨?_, rfl⟩
    unfold isN
    cases hm : pAm pr a with
    | none => first | rfl | exact absurd hm hz
    | some m => first | rfl | (rw [hm] at hz; cases hz)
set_option maxRecDepth 100000 in
set_option maxHeartbeats 4000000 in
theorem c_X6_lengthOf {n : Nat} {σ : Sg} {pr : Pr} (hn : 53 ≤ n) (h : PrC σ pr) (a : Nat) (ha : a < 2048) : Sm n mX6_lengthOf [.ref 1, .int (nI a)] σ (qi fun r σ2 => r = amv (pAm pr a) ∧ σ2 = σ) := by
  refine Sm.of mk_X6_lengthOf (Nat.le_of_ble_eq_true rfl) rfl (fun X hX => ?_)
  refine s_aload_n hX dX6_lengthOf_0 rfl ?_
  refine s_getR hX dX6_lengthOf_1 fl_X6_22 rfl rfl (by omega) ?_
  refine s_iload_n hX dX6_lengthOf_4 rfl ?_
  refine s_iald (x := (amv (pAm pr a))) hX dX6_lengthOf_5 rfl (by omega) (by omega) (by decide) (h.2.2.2.1 a ha) ?_
  refine s_iret hX dX6_lengthOf_6 rfl rfl ?_
  exact ⟨rfl, rfl⟩
set_option maxRecDepth 100000 in
set_option maxHeartbeats 4000000 in
theorem c_X6_waitsAt {n : Nat} {σ : Sg} {pr : Pr} (hn : 53 ≤ n) (h : PrC σ pr) (a : Nat) (ha : a < 2048) : Sm n mX6_waitsAt [.ref 1, .int (nI a)] σ (qi fun r σ2 => r = bI (wtF pr a) ∧ σ2 = σ) := by
  refine Sm.of mk_X6_waitsAt (Nat.le_of_ble_eq_true rfl) rfl (fun X hX => ?_)
  refine s_aload_n hX dX6_waitsAt_0 rfl ?_
  refine s_getR hX dX6_waitsAt_1 fl_X6_31 rfl rfl (by omega) ?_
  refine s_iload_n hX dX6_waitsAt_4 rfl ?_
  refine s_zald (x := bI (wtF pr a)) hX dX6_waitsAt_5 rfl (by omega) (by omega) (by decide) (h.2.2.2.2.2.1 a ha) ?_
  refine s_zret hX dX6_waitsAt_6 rfl (bI_01 _) rfl ?_
  exact ⟨rfl, rfl⟩
set_option maxRecDepth 100000 in
set_option maxHeartbeats 4000000 in
theorem c_X6_countRows {n : Nat} {σ : Sg} {pr : Pr} (hn : 53 ≤ n) (h : PrC σ pr) (s : Nat) (hs : s < 2) : Sm n mX6_countRows [.ref 1, .int (nI s)] σ (qi fun r σ2 => r = nI (cnR (pAm pr) (1024 * s) 1024) ∧ σ2 = σ) := by
  refine Sm.of mk_X6_countRows (Nat.le_of_ble_eq_true rfl) rfl (fun X hX => ?_)
  refine s_aload_n hX dX6_countRows_0 rfl ?_
  refine s_getR hX dX6_countRows_1 fl_X6_35 rfl rfl (by omega) ?_
  refine s_iload_n hX dX6_countRows_4 rfl ?_
  refine s_iald (x := nI (cnR (pAm pr) (1024 * s) 1024)) hX dX6_countRows_5 rfl (by omega) (by omega) (by decide) (h.2.2.2.2.2.2 s hs) ?_
  refine s_iret hX dX6_countRows_6 rfl rfl ?_
  exact ⟨rfl, rfl⟩
set_option maxRecDepth 100000 in
set_option maxHeartbeats 4000000 in
theorem c_X6_actOf {n : Nat} {σ : Sg} (hn : 53 ≤ n) (a k : Nat) (ha : a < 2048) (hk : k < 2 ^ 31) : Sm n mX6_actOf [.ref 1, .int (nI a), .int (nI k)] σ (qi fun r σ2 => r = nI (byF (if k < 4 then (σ 5).1 a else (σ 6).1 a) (k % 4)) ∧ σ2 = σ) := by
  refine Sm.of mk_X6_actOf (Nat.le_of_ble_eq_true rfl) rfl (fun X hX => ?_)
  have e3 : k &&& 3 = k % 4 := am k 2
  refine s_iload_n hX dX6_actOf_0 rfl ?_
  refine s_iconst (v := nI 4) hX dX6_actOf_1 (by decide) ?_
  refine s_icmp_ge_n (tgt := 14) hX dX6_actOf_2 (by decide) (by omega) (by omega) (fun q2 => ?_) (fun q2 => ?_)
  · refine s_aload_n hX dX6_actOf_14 rfl ?_
    refine s_getR hX dX6_actOf_15 fl_X6_28 rfl rfl (by omega) ?_
    refine s_iload_n hX dX6_actOf_18 rfl ?_
    refine s_iald hX dX6_actOf_19 rfl (by omega) (by omega) (by decide) rfl ?_
    refine s_istore_n hX dX6_actOf_20 (Nat.le_of_ble_eq_true rfl) rfl st_4_3 ?_
    refine s_iload_n hX dX6_actOf_21 rfl ?_
    refine s_bipush (v := nI 24) hX dX6_actOf_22 (by decide) ?_
    refine s_bipush (v := nI 8) hX dX6_actOf_24 (by decide) ?_
    refine s_iload_n hX dX6_actOf_26 rfl ?_
    refine s_iconst (v := nI 3) hX dX6_actOf_27 (by decide) ?_
    refine s_iand_n hX dX6_actOf_28 ?_
    refine s_imul_n hX dX6_actOf_29 ?_
    refine s_isub_n hX dX6_actOf_30 (by rw [e3]; omega) ?_
    refine s_iushr hX dX6_actOf_31 ?_
    refine s_sipush (v := nI 255) hX dX6_actOf_32 (by decide) ?_
    refine s_iand hX dX6_actOf_35 ?_
    refine s_iret hX dX6_actOf_36 rfl rfl ?_
    refine ⟨?_, rfl⟩
    rw [by_u _ _ (by omega), e3]
    first
      | (rw [if_neg (by omega)]; rfl)
      | (rw [if_pos q2]; rfl)
  · refine s_aload_n hX dX6_actOf_5 rfl ?_
    refine s_getR hX dX6_actOf_6 fl_X6_25 rfl rfl (by omega) ?_
    refine s_iload_n hX dX6_actOf_9 rfl ?_
    refine s_iald hX dX6_actOf_10 rfl (by omega) (by omega) (by decide) rfl ?_
    refine s_goto (tgt := 20) hX dX6_actOf_11 (by decide) ?_
    refine s_istore_n hX dX6_actOf_20 (Nat.le_of_ble_eq_true rfl) rfl st_4_3 ?_
    refine s_iload_n hX dX6_actOf_21 rfl ?_
    refine s_bipush (v := nI 24) hX dX6_actOf_22 (by decide) ?_
    refine s_bipush (v := nI 8) hX dX6_actOf_24 (by decide) ?_
    refine s_iload_n hX dX6_actOf_26 rfl ?_
    refine s_iconst (v := nI 3) hX dX6_actOf_27 (by decide) ?_
    refine s_iand_n hX dX6_actOf_28 ?_
    refine s_imul_n hX dX6_actOf_29 ?_
    refine s_isub_n hX dX6_actOf_30 (by rw [e3]; omega) ?_
    refine s_iushr hX dX6_actOf_31 ?_
    refine s_sipush (v := nI 255) hX dX6_actOf_32 (by decide) ?_
    refine s_iand hX dX6_actOf_35 ?_
    refine s_iret hX dX6_actOf_36 rfl rfl ?_
    refine ⟨?_, rfl⟩
    rw [by_u _ _ (by omega), e3]
    first
      | (rw [if_neg (by omega)]; rfl)
      | (rw [if_pos q2]; rfl)
set_option maxRecDepth 100000 in
set_option maxHeartbeats 4000000 in
theorem c_X6_hasWait {n : Nat} {σ : Sg} (hn : 53 ≤ n) (a m : Nat) (ha : a < 2048) (hm : m ≤ 8) (h4 : (σ 4).1 a = nI m) : Sm n mX6_hasWait [.ref 1, .int (nI a)] σ (qi fun r σ2 => r = bI (wtR (fun k => byF (if k < 4 then (σ 5).1 a else (σ 6).1 a) (k % 4)) m) ∧ σ2 = σ) := by
  refine Sm.of mk_X6_hasWait (Nat.le_of_ble_eq_true rfl) rfl (fun X hX => ?_)
  have LP : ∀ d k, k + d = m → wtR (fun k => byF (if k < 4 then (σ 5).1 a else (σ 6).1 a) (k % 4)) k = false → Sw n mX6_hasWait X (ZS n mX6_hasWait (qi fun r σ2 => r = bI (wtR (fun k => byF (if k < 4 then (σ 5).1 a else (σ 6).1 a) (k % 4)) m) ∧ σ2 = σ) X) 2 [some (.ref 1), some (.int (nI a)), some (.int (nI k))] [] σ := by
    intro d
    induction d with
    | zero =>
      intro k hd hf
      refine s_iload_n hX dX6_hasWait_2 rfl ?_
      refine s_aload_n hX dX6_hasWait_3 rfl ?_
      refine s_getR hX dX6_hasWait_4 fl_X6_22 rfl rfl (by omega) ?_
      refine s_iload_n hX dX6_hasWait_7 rfl ?_
      refine s_iald (x := nI (m)) hX dX6_hasWait_8 rfl (by omega) (by omega) (by decide) h4 ?_
      refine s_icmp_ge_n (tgt := 33) hX dX6_hasWait_9 (by decide) (by omega) (by omega) (fun q9 => ?_) (fun q9 => ?_)
      · refine s_iconst (v := nI 0) hX dX6_hasWait_33 (by decide) ?_
        refine s_zret hX dX6_hasWait_34 rfl (by first | exact Or.inl rfl | exact Or.inr rfl) rfl ?_
        rw [← show k = m by omega, hf]
        exact ⟨rfl, rfl⟩
      · omega
    | succ d ih =>
      intro k hd hf
      have hby := byF_lt (if k < 4 then (σ 5).1 a else (σ 6).1 a) (k % 4)
      refine s_iload_n hX dX6_hasWait_2 rfl ?_
      refine s_aload_n hX dX6_hasWait_3 rfl ?_
      refine s_getR hX dX6_hasWait_4 fl_X6_22 rfl rfl (by omega) ?_
      refine s_iload_n hX dX6_hasWait_7 rfl ?_
      refine s_iald (x := nI (m)) hX dX6_hasWait_8 rfl (by omega) (by omega) (by decide) h4 ?_
      refine s_icmp_ge_n (tgt := 33) hX dX6_hasWait_9 (by decide) (by omega) (by omega) (fun q9 => ?_) (fun q9 => ?_)
      · omega
      · refine s_aload_n hX dX6_hasWait_12 rfl ?_
        refine s_iload_n hX dX6_hasWait_13 rfl ?_
        refine s_iload_n hX dX6_hasWait_14 rfl ?_
        refine s_callVi (as := [_, _]) hX dX6_hasWait_15 mk_X6_actOf lk_X6_55 (c_X6_actOf hn a k ha (by omega)) rfl (by omega) rfl rfl rfl ⟨rfl, rfl⟩ (Nat.le_of_ble_eq_true rfl) (Nat.le_of_ble_eq_true rfl) (Nat.le_of_ble_eq_true rfl) rfl (fun v15 σ15 p15 => ?_)
        obtain ⟨rfl, e15⟩ := p15
        replace e15 := e15.symm
        subst e15
        refine s_iconst (v := nI 4) hX dX6_hasWait_18 (by decide) ?_
        refine s_ishr_n hX dX6_hasWait_19 (by decide) (by omega) ?_
        refine s_bipush (v := nI 9) hX dX6_hasWait_20 (by decide) ?_
        refine s_icmp_ne_n (tgt := 27) hX dX6_hasWait_22 (by decide) (by omega) (by omega) (fun q22 => ?_) (fun q22 => ?_)
        · refine s_iinc_n (c := 1) hX dX6_hasWait_27 rfl (by decide) rfl st_3_2 ?_
          refine s_goto (tgt := 2) hX dX6_hasWait_30 (by decide) ?_
          refine ih (k + 1) (by omega) ?_
          show (wtR _ k || _ == 9) = false
          rw [hf]
          simpa using q22
        · refine s_iconst (v := nI 1) hX dX6_hasWait_25 (by decide) ?_
          refine s_zret hX dX6_hasWait_26 rfl (by first | exact Or.inl rfl | exact Or.inr rfl) rfl ?_
          have := wtR_hit (f := fun k => byF (if k < 4 then (σ 5).1 a else (σ 6).1 a) (k % 4)) (k := k) q22 d
          rw [show k + 1 + d = m by omega] at this
          rw [this]
          exact ⟨rfl, rfl⟩
  refine s_iconst (v := nI 0) hX dX6_hasWait_0 (by decide) ?_
  refine s_istore_n hX dX6_hasWait_1 (Nat.le_of_ble_eq_true rfl) rfl st_3_2 ?_
  exact LP m 0 (by omega) rfl
set_option maxRecDepth 100000 in
set_option maxHeartbeats 4000000 in
theorem c_X6_cachePlace {n : Nat} {σ : Sg} (s e : Nat) : Sm n mX6_cachePlace [.ref 1, .int (nI s), .int (nI e)] σ (qi fun r σ2 => r = nI (s * 64 + e) ∧ σ2 = σ) := by
  refine Sm.of mk_X6_cachePlace (Nat.le_of_ble_eq_true rfl) rfl (fun X hX => ?_)
  refine s_iload_n hX dX6_cachePlace_0 rfl ?_
  refine s_bipush (v := nI 64) hX dX6_cachePlace_1 (by decide) ?_
  refine s_imul_n hX dX6_cachePlace_3 ?_
  refine s_iload_n hX dX6_cachePlace_4 rfl ?_
  refine s_iadd_n hX dX6_cachePlace_5 ?_
  refine s_iret hX dX6_cachePlace_6 rfl rfl ?_
  exact ⟨rfl, rfl⟩
set_option maxRecDepth 100000 in
set_option maxHeartbeats 4000000 in
theorem c_X6_putRow {n : Nat} {σ : Sg} {pr : Pr} (hn : 53 ≤ n) (h : PrC σ pr) (hk : PrOk pr) (a m : Nat) (x y : Int32) (ha : a < 2048) (hm : m ≤ 8) : Sm n mX6_putRow [.ref 1, .int (nI a), .int (nI m), .int x, .int y] σ (qi fun r σ2 => r = nI (isN (pAm pr a)) ∧ PrC σ2 (rowF pr a m x y) ∧ Off σ σ2 [4, 5, 6, 7, 8]) := by
  refine Sm.of mk_X6_putRow (Nat.le_of_ble_eq_true rfl) rfl (fun X hX => ?_)
  obtain ⟨sd, hsd⟩ : ∃ sd, sd = (if a < 1024 then 0 else 1) := ⟨_, rfl⟩
  have hsd2 : sd < 2 ∧ 1024 * sd ≤ a ∧ a < 1024 * sd + 1024 := by rw [hsd]; split <;> omega
  have h8 := h.2.2.2.2.2.2 sd hsd2.1
  have hle := cnR_le (pAm pr) (1024 * sd) 1024
  have J13 : ∀ w : Nat, w = isN (pAm pr a) → w ≤ 1 → Sw n mX6_putRow X (ZS n mX6_putRow (qi fun r σ2 => r = nI (isN (pAm pr a)) ∧ PrC σ2 (rowF pr a m x y) ∧ Off σ σ2 [4, 5, 6, 7, 8]) X) 13 [some (.ref 1), some (.int (nI a)), some (.int (nI m)), some (.int x), some (.int y), none] [.int (nI w)] σ := by
    intro w hw hw1
    refine s_istore hX dX6_putRow_13 (Nat.le_of_ble_eq_true rfl) rfl st_6_5 ?_
    refine s_aload_n hX dX6_putRow_15 rfl ?_
    refine s_getR hX dX6_putRow_16 fl_X6_35 rfl rfl (by omega) ?_
    refine s_iload_n hX dX6_putRow_19 rfl ?_
    refine s_callN (as := [_]) hX dX6_putRow_20 rfl (c_X10_sideOf a (by omega)) rfl (Nat.le_of_ble_eq_true rfl) (Nat.le_of_ble_eq_true rfl) (Nat.le_of_ble_eq_true rfl) rfl (fun r20 σ20 p20 => ?_)
    obtain ⟨v20, rfl, p20⟩ := p20
    obtain ⟨rfl, e20⟩ := p20
    replace e20 := e20.symm
    subst e20
    rw [← hsd]
    refine s_dup2 hX dX6_putRow_23 rfl rfl ?_
    refine s_iald (x := nI (cnR (pAm pr) (1024 * sd) 1024)) hX dX6_putRow_24 rfl (by omega) (by omega) (by decide) h8 ?_
    refine s_iconst (v := nI 1) hX dX6_putRow_25 (by decide) ?_
    refine s_iload hX dX6_putRow_26 rfl ?_
    refine s_isub_n hX dX6_putRow_28 (by omega) ?_
    refine s_iadd_n hX dX6_putRow_29 ?_
    refine s_iast hX dX6_putRow_30 rfl (by omega) (by omega) (by decide) ?_
    refine s_aload_n hX dX6_putRow_31 rfl ?_
    refine s_getR hX dX6_putRow_32 fl_X6_22 rfl rfl (by omega) ?_
    refine s_iload_n hX dX6_putRow_35 rfl ?_
    refine s_iload_n hX dX6_putRow_36 rfl ?_
    refine s_iast hX dX6_putRow_37 rfl (by omega) (by omega) (by decide) ?_
    refine s_aload_n hX dX6_putRow_38 rfl ?_
    refine s_getR hX dX6_putRow_39 fl_X6_25 rfl rfl (by omega) ?_
    refine s_iload_n hX dX6_putRow_42 rfl ?_
    refine s_iload_n hX dX6_putRow_43 rfl ?_
    refine s_iast hX dX6_putRow_44 rfl (by omega) (by omega) (by decide) ?_
    refine s_aload_n hX dX6_putRow_45 rfl ?_
    refine s_getR hX dX6_putRow_46 fl_X6_28 rfl rfl (by omega) ?_
    refine s_iload_n hX dX6_putRow_49 rfl ?_
    refine s_iload hX dX6_putRow_50 rfl ?_
    refine s_iast hX dX6_putRow_52 rfl (by omega) (by omega) (by decide) ?_
    refine s_gen (fun σ1 e1 => ?_)
    have t4 : (σ1 4).1 = upd (σ 4).1 a (nI m) := by rw [e1]; simp [wI, va_up]
    have t5 : (σ1 5).1 = upd (σ 5).1 a x := by rw [e1]; simp [wI, va_up]
    have t6 : (σ1 6).1 = upd (σ 6).1 a y := by rw [e1]; simp [wI, va_up]
    have t8 : (σ1 8).1 = upd (σ 8).1 sd (nI (cnR (pAm pr) (1024 * sd) 1024 + (1 - w))) := by rw [e1]; simp [wI, va_up]
    have hO : Off σ σ1 [4, 5, 6, 7, 8] := by rw [e1]; exact (((Off.rf.wI (by decide)).wI (by decide)).wI (by decide)).wI (by decide)
    have t7 : σ1 7 = σ 7 := by rw [e1]; simp [wI, va_up]
    clear e1
    have hwt : wtR (fun k => byF (if k < 4 then (σ1 5).1 a else (σ1 6).1 a) (k % 4)) m = wtF (rowF pr a m x y) a := by
      have e9 : wtF (rowF pr a m x y) a = wtR (pAc (rowF pr a m x y) a) m := by
        unfold wtF
        show (match (if a = a then some m else pAm pr a) with
          | none => false
          | some q => wtR (pAc (rowF pr a m x y) a) q) = _
        rw [if_pos rfl]
      rw [e9]
      refine wtR_cong m (fun k _ => ?_)
      show _ = (if a = a then byF (if k < 4 then x else y) (k % 4) else pAc pr a k)
      rw [if_pos rfl, t5, t6, pk_us, pk_us]
    refine s_aload_n hX dX6_putRow_53 rfl ?_
    refine s_getR hX dX6_putRow_54 fl_X6_31 rfl rfl (by omega) ?_
    refine s_iload_n hX dX6_putRow_57 rfl ?_
    refine s_aload_n hX dX6_putRow_58 rfl ?_
    refine s_iload_n hX dX6_putRow_59 rfl ?_
    refine s_callVi (as := [_]) hX dX6_putRow_60 mk_X6_hasWait lk_X6_52 (c_X6_hasWait hn a m ha hm (by rw [t4, pk_us])) rfl (by omega) rfl rfl rfl ⟨rfl, rfl⟩ (Nat.le_of_ble_eq_true rfl) (Nat.le_of_ble_eq_true rfl) (Nat.le_of_ble_eq_true rfl) rfl (fun v60 σ60 p60 => ?_)
    obtain ⟨rfl, e60⟩ := p60
    replace e60 := e60.symm
    subst e60
    rw [hwt]
    refine s_zast hX dX6_putRow_63 rfl (by omega) (by omega) (by decide) (bI_01 _) ?_
    refine s_iload hX dX6_putRow_64 rfl ?_
    refine s_iret hX dX6_putRow_66 rfl rfl ?_
    refine ⟨by rw [hw], ?_, hO.wI (by decide)⟩
    refine ⟨?_, ?_, ?_, fun b hb => ?_, fun b hb mm hmm k2 hk2 => ?_, fun b hb => ?_, fun s hs => ?_⟩
    · rw [wI_a _ _ (by decide), hO 1 (by decide)]; exact h.1
    · rw [wI_a _ _ (by decide), hO 2 (by decide)]; exact h.2.1
    · rw [wI_a _ _ (by decide), hO 3 (by decide)]; exact h.2.2.1
    · rw [wI_a _ _ (by decide), t4]
      show _ = amv (if b = a then some m else pAm pr b)
      by_cases e : b = a
      · subst e; rw [pk_us, if_pos rfl]; rfl
      · rw [pk_un e, if_neg e]; exact h.2.2.2.1 b hb
    · have hmm : (if b = a then some m else pAm pr b) = some mm := hmm
      rw [wI_a _ _ (by decide), wI_a _ _ (by decide), t5, t6]
      show _ = (if b = a then byF (if k2 < 4 then x else y) (k2 % 4) else pAc pr b k2)
      by_cases e : b = a
      · subst e; rw [pk_us, pk_us, if_pos rfl]
      · rw [pk_un e, pk_un e, if_neg e]
        rw [if_neg e] at hmm
        exact h.2.2.2.2.1 b hb mm hmm k2 hk2
    · by_cases e : b = a
      · subst e; rw [wI_s]
      · rw [wI_k _ _ e, t7, h.2.2.2.2.2.1 b hb]
        congr 1
        unfold wtF
        show _ = (match (if b = a then some m else pAm pr b) with
          | none => false
          | some q => wtR (fun k => if b = a then byF (if k < 4 then x else y) (k % 4) else pAc pr b k) q)
        rw [if_neg e]
        cases pAm pr b with
        | none => rfl
        | some q => exact wtR_cong q (fun k _ => by rw [if_neg e])
    · rw [wI_a _ _ (by decide), t8]
      have hset := cnR_set (f := pAm pr) (g := fun q => if q = a then some m else pAm pr q) hsd2.2.1 (fun q hq => by rw [if_neg hq]) 1024 hsd2.2.2
      have hs1 : isN (if a = a then some m else pAm pr a) = 1 := by rw [if_pos rfl]; rfl
      rw [hs1] at hset
      show _ = nI (cnR (fun q => if q = a then some m else pAm pr q) (1024 * s) 1024)
      by_cases e : s = sd
      · subst e
        rw [pk_us]
        congr 1
        omega
      · rw [pk_un e, h.2.2.2.2.2.2 s hs]
        congr 1
        exact cnR_out 1024 (fun q h1 h2 => by rw [if_neg (by omega)])
  refine s_aload_n hX dX6_putRow_0 rfl ?_
  refine s_iload_n hX dX6_putRow_1 rfl ?_
  refine s_callVi (as := [_]) hX dX6_putRow_2 mk_X6_hasRow lk_X6_44 (c_X6_hasRow hn h hk a ha) rfl (by omega) rfl rfl rfl ⟨rfl, rfl⟩ (Nat.le_of_ble_eq_true rfl) (Nat.le_of_ble_eq_true rfl) (Nat.le_of_ble_eq_true rfl) rfl (fun v2 σ2 p2 => ?_)
  obtain ⟨rfl, e2⟩ := p2
  replace e2 := e2.symm
  subst e2
  have hi1 := isN_le (pAm pr a)
  refine s_if_eq_n (tgt := 12) hX dX6_putRow_5 (by decide) (by omega) (fun q5 => ?_) (fun q5 => ?_)
  · refine s_iconst (v := nI 0) hX dX6_putRow_12 (by decide) ?_
    first
      | exact J13 0 q5.symm (by omega)
      | exact J13 1 (by omega) (by omega)
  · refine s_iconst (v := nI 1) hX dX6_putRow_8 (by decide) ?_
    refine s_goto (tgt := 13) hX dX6_putRow_9 (by decide) ?_
    first
      | exact J13 0 q5.symm (by omega)
      | exact J13 1 (by omega) (by omega)
set_option maxRecDepth 100000 in
set_option maxHeartbeats 4000000 in
theorem c_X6_dropRow {n : Nat} {σ : Sg} {pr : Pr} (hn : 53 ≤ n) (h : PrC σ pr) (hk : PrOk pr) (a : Nat) (ha : a < 2048) : Sm n mX6_dropRow [.ref 1, .int (nI a)] σ (qi fun r σ2 => r = nI (isN (pAm pr a)) ∧ PrC σ2 (tearF pr a) ∧ Off σ σ2 [4, 7, 8]) := by
  refine Sm.of mk_X6_dropRow (Nat.le_of_ble_eq_true rfl) rfl (fun X hX => ?_)
  obtain ⟨sd, hsd⟩ : ∃ sd, sd = (if a < 1024 then 0 else 1) := ⟨_, rfl⟩
  have hsd2 : sd < 2 ∧ 1024 * sd ≤ a ∧ a < 1024 * sd + 1024 := by rw [hsd]; split <;> omega
  have h8 := h.2.2.2.2.2.2 sd hsd2.1
  have hle := cnR_le (pAm pr) (1024 * sd) 1024
  have hset := cnR_set (f := pAm pr) (g := fun q => if q = a then none else pAm pr q) hsd2.2.1 (fun q hq => by rw [if_neg hq]) 1024 hsd2.2.2
  have hs1 : isN (if a = a then none else pAm pr a) = 0 := by rw [if_pos rfl]; rfl
  rw [hs1] at hset
  have J13 : ∀ w : Nat, w = isN (pAm pr a) → w ≤ 1 → Sw n mX6_dropRow X (ZS n mX6_dropRow (qi fun r σ2 => r = nI (isN (pAm pr a)) ∧ PrC σ2 (tearF pr a) ∧ Off σ σ2 [4, 7, 8]) X) 13 [some (.ref 1), some (.int (nI a)), none] [.int (nI w)] σ := by
    intro w hw hw1
    refine s_istore_n hX dX6_dropRow_13 (Nat.le_of_ble_eq_true rfl) rfl st_3_2 ?_
    refine s_aload_n hX dX6_dropRow_14 rfl ?_
    refine s_getR hX dX6_dropRow_15 fl_X6_35 rfl rfl (by omega) ?_
    refine s_iload_n hX dX6_dropRow_18 rfl ?_
    refine s_callN (as := [_]) hX dX6_dropRow_19 rfl (c_X10_sideOf a (by omega)) rfl (Nat.le_of_ble_eq_true rfl) (Nat.le_of_ble_eq_true rfl) (Nat.le_of_ble_eq_true rfl) rfl (fun r19 σ19 p19 => ?_)
    obtain ⟨v19, rfl, p19⟩ := p19
    obtain ⟨rfl, e20⟩ := p19
    replace e20 := e20.symm
    subst e20
    rw [← hsd]
    refine s_dup2 hX dX6_dropRow_22 rfl rfl ?_
    refine s_iald (x := nI (cnR (pAm pr) (1024 * sd) 1024)) hX dX6_dropRow_23 rfl (by omega) (by omega) (by decide) h8 ?_
    refine s_iload_n hX dX6_dropRow_24 rfl ?_
    refine s_isub_n hX dX6_dropRow_25 (by omega) ?_
    refine s_iast hX dX6_dropRow_26 rfl (by omega) (by omega) (by decide) ?_
    refine s_aload_n hX dX6_dropRow_27 rfl ?_
    refine s_getR hX dX6_dropRow_28 fl_X6_22 rfl rfl (by omega) ?_
    refine s_iload_n hX dX6_dropRow_31 rfl ?_
    refine s_iconst (v := -1) hX dX6_dropRow_32 (by decide) ?_
    refine s_iast hX dX6_dropRow_33 rfl (by omega) (by omega) (by decide) ?_
    refine s_aload_n hX dX6_dropRow_34 rfl ?_
    refine s_getR hX dX6_dropRow_35 fl_X6_31 rfl rfl (by omega) ?_
    refine s_iload_n hX dX6_dropRow_38 rfl ?_
    refine s_iconst (v := nI 0) hX dX6_dropRow_39 (by decide) ?_
    refine s_zast hX dX6_dropRow_40 rfl (by omega) (by omega) (by decide) (by first | exact Or.inl rfl | exact Or.inr rfl) ?_
    refine s_iload_n hX dX6_dropRow_41 rfl ?_
    refine s_iret hX dX6_dropRow_42 rfl rfl ?_
    refine ⟨by rw [hw], ?_, ((Off.rf.wI (by decide)).wI (by decide)).wI (by decide)⟩
    have z : ∀ b, b ≠ 8 → b ≠ 4 → b ≠ 7 → wI (wI (wI σ 8 sd (nI (cnR (pAm pr) (1024 * sd) 1024 - w))) 4 a (-1)) 7 a (nI 0) b = σ b := fun b h1 h2 h3 => by rw [wI_a _ _ h3, wI_a _ _ h2, wI_a _ _ h1]
    refine ⟨?_, ?_, ?_, fun b hb => ?_, fun b hb mm hmm k2 hk2 => ?_, fun b hb => ?_, fun s hs => ?_⟩
    · rw [z 1 (by decide) (by decide) (by decide)]; exact h.1
    · rw [z 2 (by decide) (by decide) (by decide)]; exact h.2.1
    · rw [z 3 (by decide) (by decide) (by decide)]; exact h.2.2.1
    · rw [wI_a _ _ (by decide)]
      show _ = amv (if b = a then none else pAm pr b)
      by_cases e : b = a
      · subst e; rw [wI_s, if_pos rfl]; rfl
      · rw [wI_k _ _ e, if_neg e, wI_a _ _ (by decide)]; exact h.2.2.2.1 b hb
    · have hmm : (if b = a then none else pAm pr b) = some mm := hmm
      rw [z 5 (by decide) (by decide) (by decide), z 6 (by decide) (by decide) (by decide)]
      by_cases e : b = a
      · rw [if_pos e] at hmm; cases hmm
      · rw [if_neg e] at hmm
        exact h.2.2.2.2.1 b hb mm hmm k2 hk2
    · by_cases e : b = a
      · subst e
        rw [wI_s]
        unfold wtF
        show _ = bI (match (if b = b then none else pAm pr b) with
          | none => false
          | some q => wtR (pAc pr b) q)
        rw [if_pos rfl]
        rfl
      · rw [wI_k _ _ e, wI_a _ _ (by decide), wI_a _ _ (by decide), h.2.2.2.2.2.1 b hb]
        congr 1
        unfold wtF
        show _ = (match (if b = a then none else pAm pr b) with
          | none => false
          | some q => wtR (pAc pr b) q)
        rw [if_neg e]
        all_goals rfl
    · rw [wI_a _ _ (by decide), wI_a _ _ (by decide)]
      show _ = nI (cnR (fun q => if q = a then none else pAm pr q) (1024 * s) 1024)
      by_cases e : s = sd
      · subst e
        rw [wI_s]
        congr 1
        omega
      · rw [wI_k _ _ e, h.2.2.2.2.2.2 s hs]
        congr 1
        exact cnR_out 1024 (fun q h1 h2 => by rw [if_neg (by omega)])
  refine s_aload_n hX dX6_dropRow_0 rfl ?_
  refine s_iload_n hX dX6_dropRow_1 rfl ?_
  refine s_callVi (as := [_]) hX dX6_dropRow_2 mk_X6_hasRow lk_X6_44 (c_X6_hasRow hn h hk a ha) rfl (by omega) rfl rfl rfl ⟨rfl, rfl⟩ (Nat.le_of_ble_eq_true rfl) (Nat.le_of_ble_eq_true rfl) (Nat.le_of_ble_eq_true rfl) rfl (fun v2 σ2 p2 => ?_)
  obtain ⟨rfl, e2⟩ := p2
  replace e2 := e2.symm
  subst e2
  have hi1 := isN_le (pAm pr a)
  refine s_if_eq_n (tgt := 12) hX dX6_dropRow_5 (by decide) (by omega) (fun q5 => ?_) (fun q5 => ?_)
  · refine s_iconst (v := nI 0) hX dX6_dropRow_12 (by decide) ?_
    first
      | exact J13 0 q5.symm (by omega)
      | exact J13 1 (by omega) (by omega)
  · refine s_iconst (v := nI 1) hX dX6_dropRow_8 (by decide) ?_
    refine s_goto (tgt := 13) hX dX6_dropRow_9 (by decide) ?_
    first
      | exact J13 0 q5.symm (by omega)
      | exact J13 1 (by omega) (by omega)
