/-! ===== the shelf: scenes by number, a table from words to numbers ===== -/
theorem fd_inj {pr : Pr} {v w : Vc} {k s wd : Nat} (f : FdW pr k s wd) (hs : s + wd ≤ 64) (hv : v k < 2 ^ wd) (hw : w k < 2 ^ wd) (h : ∀ i, i < 64 → bitF pr v i = bitF pr w i) : v k = w k := by
  apply Nat.eq_of_testBit_eq
  intro i
  by_cases hi : i < wd
  · rw [← bit_get (v := v) f hi, ← bit_get (v := w) f hi]
    exact h _ (by omega)
  · have h2 : 2 ^ wd ≤ 2 ^ i := Nat.pow_le_pow_right (by decide) (by omega)
    rw [Nat.testBit_lt_two_pow (Nat.lt_of_lt_of_le hv h2), Nat.testBit_lt_two_pow (Nat.lt_of_lt_of_le hw h2)]
theorem lwR_inj {f g : Nat → Nat} (hf : ∀ i, f i < 32768) (hg : ∀ i, g i < 32768) : ∀ k, lwR f k = lwR g k → ∀ i, i < k → f i = g i
  | 0, _, i, hi => absurd hi (Nat.not_lt_zero i)
  | k + 1, h, i, hi => by
    have h : lwR f k * 32768 + f k = lwR g k * 32768 + g k := h
    have := hf k
    have := hg k
    by_cases e : i = k
    · subst e; omega
    · exact lwR_inj hf hg k (by omega) i (by omega)
theorem lN_inj {a b : Nat} (ha : a < 2 ^ 64) (hb : b < 2 ^ 64) (h : lN a = lN b) : a = b := by
  apply Nat.eq_of_testBit_eq
  intro i
  rw [← lb_lNx ha, ← lb_lNx hb, h]
def Wd (pr : Pr) (x y z : Int64) (v : Vc) : Prop := (∀ i, i < 64 → lb x i = bitF pr v i) ∧ y = lN (lwF pr v 0) ∧ z = lN (lwF pr v 1)
theorem eqV_ltA {v w : Vc} (h : ∀ j, j < 56 → v j = w j) {i : Nat} (hi : i < 8) : ltA v i = ltA w i := by
  unfold ltA
  rw [h _ (by omega), h (17 + 5 * i) (by omega), h (18 + 5 * i) (by omega), h (19 + 5 * i) (by omega), h (20 + 5 * i) (by omega)]
theorem eqV_lwF {pr : Pr} {v w : Vc} (h : ∀ j, j < 56 → v j = w j) {k : Nat} (hk : k < 2) : lwF pr v k = lwF pr w k := by
  have e : ∀ i, i < 4 → lcF pr v (k * 4 + i) = lcF pr w (k * 4 + i) := fun i hi => lcF_eq (h 15 (by decide)) (eqV_ltA h (by omega))
  unfold lwF
  simp only [lwR]
  rw [e 0 (by decide), e 1 (by decide), e 2 (by decide), e 3 (by decide)]
theorem Wd_eq {pr : Pr} {x y z x2 y2 z2 : Int64} {v w : Vc} (hk : PrOk pr) (hv : VOk pr v) (hw : VOk pr w) (h : Wd pr x y z v) (h2 : Wd pr x2 y2 z2 w) : (x = x2 ∧ y = y2 ∧ z = z2) ↔ eqV v w = true := by
  have hP := hk.1
  constructor
  · rintro ⟨rfl, rfl, rfl⟩
    have hb : ∀ i, i < 64 → bitF pr v i = bitF pr w i := fun i hi => (h.1 i hi).symm.trans (h2.1 i hi)
    have a0 := lwF_lt hk hv 0
    have a1 := lwF_lt hk hv 1
    have b0 := lwF_lt hk hw 0
    have b1 := lwF_lt hk hw 1
    have l0 : lwF pr v 0 = lwF pr w 0 := lN_inj (by omega) (by omega) (h.2.1.symm.trans h2.2.1)
    have l1 : lwF pr v 1 = lwF pr w 1 := lN_inj (by omega) (by omega) (h.2.2.symm.trans h2.2.2)
    have c0 := lwR_inj (fun i => lcF_lt hk hv (0 * 4 + i)) (fun i => lcF_lt hk hw (0 * 4 + i)) 4 l0
    have c1 := lwR_inj (fun i => lcF_lt hk hv (1 * 4 + i)) (fun i => lcF_lt hk hw (1 * 4 + i)) 4 l1
    have cc : ∀ i, i < 8 → lcF pr v i = lcF pr w i := fun i hi => by
      by_cases q : i < 4
      · have := c0 i q
        rwa [show 0 * 4 + i = i by omega] at this
      · have := c1 (i - 4) (by omega)
        rwa [show 1 * 4 + (i - 4) = i by omega] at this
    have e15 : v 15 = w 15 := by
      rw [← nz_all (pr := pr) hv.2.2.2.2.1, ← nz_all (pr := pr) hw.2.2.2.2.1]
      simp only [nzR]
      rw [cc _ (by decide), cc (0 * 4 + 1) (by decide), cc (0 * 4 + 2) (by decide), cc (0 * 4 + 3) (by decide), cc (1 * 4 + 0) (by decide), cc (1 * 4 + 1) (by decide), cc (1 * 4 + 2) (by decide), cc (1 * 4 + 3) (by decide)]
    have v8 := hv.2.2.2.2.1
    rw [eqV_iff]
    intro j hj
    rcases (show j < 3 * pP pr ∨ (3 * pP pr ≤ j ∧ j < 12) ∨ j = 12 ∨ j = 13 ∨ j = 14 ∨ j = 15 ∨ 16 ≤ j by omega) with c | c | c | c | c | c | c
    · obtain ⟨e, r, he, hr, rfl⟩ : ∃ e r, e < pP pr ∧ r < 3 ∧ j = 3 * e + r := ⟨j / 3, j % 3, by omega, by omega, by omega⟩
      have p1 := hv.1 e he
      have p2 := hw.1 e he
      rcases (show r = 0 ∨ r = 1 ∨ r = 2 by omega) with rfl | rfl | rfl
      · have := fd_inj (v := v) (w := w) (fd_state hP.2 (Nat.le_of_lt he)) (by omega) (by rw [ix0 he]; omega) (by rw [ix0 he]; omega) hb
        rw [ix0 he] at this
        exact this
      · have := fd_inj (v := v) (w := w) (fd_fresh hP.2 (Nat.le_of_lt he)) (by omega) (by rw [ix1 he]; omega) (by rw [ix1 he]; omega) hb
        rw [ix1 he] at this
        exact this
      · exact fd_inj (v := v) (w := w) (fd_want hP.2 he) (by omega) (by omega) (by omega) hb
    · rw [hv.2.2.2.2.2.2.1 j c.1 c.2, hw.2.2.2.2.2.2.1 j c.1 c.2]
    · subst c
      have := fd_inj (v := v) (w := w) (fd_state (pr := pr) hP.2 (Nat.le_refl _)) (by omega) (by rw [ixP0]; exact hv.2.1) (by rw [ixP0]; exact hw.2.1) hb
      rw [ixP0] at this
      exact this
    · subst c
      have := fd_inj (v := v) (w := w) (fd_fresh (pr := pr) hP.2 (Nat.le_refl _)) (by omega) (by rw [ixP]; exact hv.2.2.1) (by rw [ixP]; exact hw.2.2.1) hb
      rw [ixP] at this
      exact this
    · subst c
      exact fd_inj (v := v) (w := w) (fd_hold hP.2) (by omega) hv.2.2.2.1 hw.2.2.2.1 hb
    · subst c; exact e15
    · obtain ⟨i, r, hr, rfl⟩ : ∃ i r, r < 5 ∧ j = 16 + r + 5 * i := ⟨(j - 16) / 5, (j - 16) % 5, by omega, by omega⟩
      by_cases q : i < v 15
      · have p1 := lc_parts hk hv q
        have p2 := lc_parts hk hw (show i < w 15 by omega)
        rw [cc i (by omega)] at p1
        rcases (show r = 0 ∨ r = 1 ∨ r = 2 ∨ r = 3 ∨ r = 4 by omega) with rfl | rfl | rfl | rfl | rfl
        · exact p1.2.1.symm.trans p2.2.1
        · exact p1.2.2.1.symm.trans p2.2.2.1
        · exact p1.1.symm.trans p2.1
        · exact p1.2.2.2.1.symm.trans p2.2.2.2.1
        · exact p1.2.2.2.2.symm.trans p2.2.2.2.2
      · rw [hv.2.2.2.2.2.2.2 _ (by omega), hw.2.2.2.2.2.2.2 _ (by omega)]
  · intro he
    have he := eqV_iff.mp he
    refine ⟨lb_ext (fun i hi => ?_), ?_, ?_⟩
    · rw [h.1 i hi, h2.1 i hi]
      exact bitF_cong hP.2 (fun j hj => he j (by omega)) i
    · rw [h.2.1, h2.2.1, eqV_lwF he (by decide)]
    · rw [h.2.2, h2.2.2, eqV_lwF he (by decide)]
theorem eqV_symm {v w : Vc} (h : eqV v w = true) : eqV w v = true := eqV_iff.mpr (fun j hj => (eqV_iff.mp h j hj).symm)
theorem eqV_trans {v w u : Vc} (h : eqV v w = true) (h2 : eqV w u = true) : eqV v u = true := eqV_iff.mpr (fun j hj => (eqV_iff.mp h j hj).trans (eqV_iff.mp h2 j hj))
theorem eqV_rf (v : Vc) : eqV v v = true := eqV_iff.mpr (fun _ _ => rfl)
def mx0 (x y z : Int64) : Int64 := (x * 31 + y) * 31 + z
def mx1 (k : Nat) (m : Int64) : Int64 := (m ^^^ (m.toUInt64 >>> ((nI k).toInt64.toUInt64 &&& Int64.toUInt64 63)).toInt64) * (-7046029254386353131)
def stF (x y z : Int64) : Nat := gpL (mx1 32 (mx1 29 (mx0 x y z))) 51 13
theorem stF_lt (x y z : Int64) : stF x y z < 8192 := gpL_lt _ 51 13
theorem top_bits (m : Int64) : ((m.toUInt64 >>> ((nI 51).toInt64.toUInt64 &&& Int64.toUInt64 63)).toInt64).toInt32 = nI (gpL m 51 13) := by
  apply bt_ext
  intro i hi
  rw [bt_l2i _ hi, lb_ushr 51 (by decide), bt_nI hi, gpL_tb]
  by_cases c : i < 13
  · simp [c]
  · have : lb m (51 + i) = false := BitVec.getLsbD_of_ge _ _ (by omega)
    rw [this]; simp
set_option maxRecDepth 100000 in
set_option maxHeartbeats 4000000 in
theorem c_X8_startOf {n : Nat} {σ : Sg} (x y z : Int64) : Sm n mX8_startOf [.long x, .long y, .long z] σ (qi fun r σ2 => r = nI (stF x y z) ∧ σ2 = σ) := by
  refine Sm.of mk_X8_startOf (Nat.le_of_ble_eq_true rfl) rfl (fun X hX => ?_)
  refine s_lload_n hX dX8_startOf_0 rfl ?_
  refine s_ldc2 (v := (31)) hX dX8_startOf_1 (tb_at 707 (by decide +kernel) rfl) ?_
  refine s_lmul hX dX8_startOf_4 ?_
  refine s_lload_n hX dX8_startOf_5 rfl ?_
  refine s_ladd hX dX8_startOf_6 ?_
  refine s_ldc2 (v := (31)) hX dX8_startOf_7 (tb_at 707 (by decide +kernel) rfl) ?_
  refine s_lmul hX dX8_startOf_10 ?_
  refine s_lload hX dX8_startOf_11 rfl ?_
  refine s_ladd hX dX8_startOf_13 ?_
  refine s_lstore hX dX8_startOf_14 (Nat.le_of_ble_eq_true rfl) rfl sl_8_6 ?_
  refine s_lload hX dX8_startOf_16 rfl ?_
  refine s_lload hX dX8_startOf_18 rfl ?_
  refine s_bipush (v := nI 29) hX dX8_startOf_20 (by decide) ?_
  refine s_lushr hX dX8_startOf_22 ?_
  refine s_lxor hX dX8_startOf_23 ?_
  refine s_ldc2 (v := (-7046029254386353131)) hX dX8_startOf_24 (tb_at 708 (by decide +kernel) rfl) ?_
  refine s_lmul hX dX8_startOf_27 ?_
  refine s_lstore hX dX8_startOf_28 (Nat.le_of_ble_eq_true rfl) rfl sl_8_6 ?_
  refine s_lload hX dX8_startOf_30 rfl ?_
  refine s_lload hX dX8_startOf_32 rfl ?_
  refine s_bipush (v := nI 32) hX dX8_startOf_34 (by decide) ?_
  refine s_lushr hX dX8_startOf_36 ?_
  refine s_lxor hX dX8_startOf_37 ?_
  refine s_ldc2 (v := (-7046029254386353131)) hX dX8_startOf_38 (tb_at 708 (by decide +kernel) rfl) ?_
  refine s_lmul hX dX8_startOf_41 ?_
  refine s_lstore hX dX8_startOf_42 (Nat.le_of_ble_eq_true rfl) rfl sl_8_6 ?_
  refine s_lload hX dX8_startOf_44 rfl ?_
  refine s_bipush (v := nI 51) hX dX8_startOf_46 (by decide) ?_
  refine s_lushr hX dX8_startOf_48 ?_
  refine s_l2i hX dX8_startOf_49 ?_
  refine s_iret hX dX8_startOf_50 rfl rfl ?_
  exact ⟨top_bits _, rfl⟩
def slI (a : Option Nat) : Int32 := match a with
  | none => nI 0
  | some m => nI (m + 1)
def stM (σ : Sg) (m : Nat) : Nat := stF ((σ 32).2 m) ((σ 33).2 m) ((σ 34).2 m)
def HtC (σ : Sg) (M : Nat) (t : Nat → Option Nat) : Prop := (∀ k, k < 8192 → (σ 35).1 k = slI (t k)) ∧ (∀ k m, k < 8192 → t k = some m → m < M) ∧ cnR t 0 8192 = M ∧ ∀ m, m < M → ∃ d, d < 8192 ∧ t ((stM σ m + d) % 8192) = some m ∧ ∀ e, e < d → (t ((stM σ m + e) % 8192)).isSome = true
def WdsC (pr : Pr) (σ : Sg) (M : Nat) (V : Nat → Vc) : Prop := ∀ m, m < M → Wd pr ((σ 32).2 m) ((σ 33).2 m) ((σ 34).2 m) (V m)
def ShC (pr : Pr) (σ : Sg) (M : Nat) (V : Nat → Vc) : Prop := (σ 31).1 4 = nI M ∧ WdsC pr σ M V ∧ (∀ m m', m < M → m' < M → eqV (V m) (V m') = true → m = m') ∧ ∃ t, HtC σ M t
theorem ShC.kept {pr : Pr} {σ σ2 : Sg} {M : Nat} {V : Nat → Vc} (h : ShC pr σ M V) (e : ∀ a, 31 ≤ a → a ≤ 35 → σ2 a = σ a) : ShC pr σ2 M V := by
  unfold ShC WdsC HtC stM at *
  rw [e 31 (by decide) (by decide), e 32 (by decide) (by decide), e 33 (by decide) (by decide), e 34 (by decide) (by decide), e 35 (by decide) (by decide)]
  exact h
theorem cnR_full {f : Nat → Option Nat} : ∀ k, (∀ q, q < k → (f q).isSome = true) → cnR f 0 k = k
  | 0, _ => rfl
  | k + 1, h => by
    have ih := cnR_full k (fun q hq => h q (by omega))
    unfold cnR
    rw [ih, Nat.zero_add]
    unfold isN
    rw [if_pos (h k (by omega))]
def SlR (V : Nat → Vc) (M : Nat) (t : Nat → Option Nat) (s0 : Nat) (v : Vc) (k : Nat) : Prop := k < 8192 ∧ ((∃ m, m < M ∧ t k = some m ∧ eqV (V m) v = true) ∨ (t k = none ∧ (∀ m, m < M → eqV (V m) v = false) ∧ ∃ d, d < 8192 ∧ k = (s0 + d) % 8192 ∧ ∀ e, e < d → (t ((s0 + e) % 8192)).isSome = true))
set_option maxRecDepth 100000 in
set_option maxHeartbeats 4000000 in
theorem c_X8_slotOf {n : Nat} {σ : Sg} {pr : Pr} {v : Vc} {M : Nat} {V : Nat → Vc} {t : Nat → Option Nat} (hn : 53 ≤ n) (hk : PrOk pr) (hW : WdsC pr σ M V) (hT : HtC σ M t) (hM : M ≤ 4000) (hV : ∀ m, m < M → VOk pr (V m)) (hv : VOk pr v) (x y z : Int64) (hx : Wd pr x y z v) : Sm n mX8_slotOf [.ref 31, .long x, .long y, .long z] σ (qi fun r σ2 => (∃ k, r = nI k ∧ SlR V M t (stF x y z) v k) ∧ σ2 = σ) := by
  refine Sm.of mk_X8_slotOf (Nat.le_of_ble_eq_true rfl) rfl (fun X hX => ?_)
  have s8 := stF_lt x y z
  obtain ⟨t1, t2, t3, t4⟩ := hT
  have LP : ∀ (D d k : Nat) (x9 : Option Value), d + D = 8192 → k = (stF x y z + d) % 8192 → (∀ e, e < d → ∃ m, m < M ∧ t ((stF x y z + e) % 8192) = some m ∧ eqV (V m) v = false) → Sw n mX8_slotOf X (ZS n mX8_slotOf (qi fun r σ2 => (∃ k, r = nI k ∧ SlR V M t (stF x y z) v k) ∧ σ2 = σ) X) 12 [some (.ref 31), some (.long x), none, some (.long y), none, some (.long z), none, some (.int (nI k)), some (.int (nI d)), x9] [] σ := by
    intro D
    induction D with
    | zero =>
      intro d k x9 hd hkk hi
      exfalso
      have full : ∀ q, q < 8192 → (t q).isSome = true := fun q hq => by
        obtain ⟨m, _, h2, _⟩ := hi ((q + 8192 - stF x y z) % 8192) (by omega)
        rw [show (stF x y z + (q + 8192 - stF x y z) % 8192) % 8192 = q by omega] at h2
        rw [h2]; rfl
      have := cnR_full 8192 full
      omega
    | succ D ih =>
      intro d k x9 hd hkk hi
      have hk8 : k < 8192 := by omega
      have hsl := t1 k hk8
      cases ht : t k with
      | none =>
        rw [ht] at hsl
        refine s_iload hX dX8_slotOf_12 rfl ?_
        refine s_sipush (v := nI 8192) hX dX8_slotOf_14 (by decide) ?_
        refine s_icmp_ge_n (tgt := 95) hX dX8_slotOf_17 (by decide) (by omega) (by omega) (fun q17 => ?_) (fun q17 => ?_)
        · omega
        · refine s_aload_n hX dX8_slotOf_20 rfl ?_
          refine s_getR hX dX8_slotOf_21 fl_X8_21 rfl rfl (by omega) ?_
          refine s_iload hX dX8_slotOf_24 rfl ?_
          refine s_iald (x := nI (0)) hX dX8_slotOf_26 rfl (by omega) (by omega) (by decide) hsl ?_
          refine s_iconst (v := nI 1) hX dX8_slotOf_27 (by decide) ?_
          refine s_isub hX dX8_slotOf_28 ?_
          refine s_istore hX dX8_slotOf_29 (Nat.le_of_ble_eq_true rfl) rfl st_10_9 ?_
          refine s_iload hX dX8_slotOf_31 rfl ?_
          refine s_if_ge (tgt := 39) hX dX8_slotOf_33 (by decide) (fun q33 => ?_) (fun q33 => ?_)
          · exact absurd q33 (by decide)
          · refine s_iload hX dX8_slotOf_36 rfl ?_
            refine s_iret hX dX8_slotOf_38 rfl rfl ?_
            refine ⟨⟨k, rfl, hk8, Or.inr ⟨ht, fun m hm => ?_, d, by omega, hkk, fun e he => ?_⟩⟩, rfl⟩
            · apply Bool.eq_false_iff.mpr
              intro he
              have hst : stM σ m = stF x y z := by
                obtain ⟨a1, a2, a3⟩ := (Wd_eq hk (hV m hm) hv (hW m hm) hx).mpr he
                unfold stM
                rw [a1, a2, a3]
              obtain ⟨dm, h1, h2, h3⟩ := t4 m hm
              rw [hst] at h2 h3
              rcases Nat.lt_trichotomy dm d with c | c | c
              · obtain ⟨m2, _, g2, g3⟩ := hi dm c
                rw [h2] at g2
                cases g2
                rw [he] at g3; cases g3
              · subst c
                rw [← hkk, ht] at h2; cases h2
              · have := h3 d c
                rw [← hkk, ht] at this; cases this
            · obtain ⟨m2, _, g2, _⟩ := hi e he
              rw [g2]; rfl
      | some m =>
        have hm := t2 k m hk8 ht
        rw [ht] at hsl
        have hwm := Wd_eq hk (hV m hm) hv (hW m hm) hx
        refine s_iload hX dX8_slotOf_12 rfl ?_
        refine s_sipush (v := nI 8192) hX dX8_slotOf_14 (by decide) ?_
        refine s_icmp_ge_n (tgt := 95) hX dX8_slotOf_17 (by decide) (by omega) (by omega) (fun q17 => ?_) (fun q17 => ?_)
        · omega
        · refine s_aload_n hX dX8_slotOf_20 rfl ?_
          refine s_getR hX dX8_slotOf_21 fl_X8_21 rfl rfl (by omega) ?_
          refine s_iload hX dX8_slotOf_24 rfl ?_
          refine s_iald (x := nI (m + 1)) hX dX8_slotOf_26 rfl (by omega) (by omega) (by decide) hsl ?_
          refine s_iconst (v := nI 1) hX dX8_slotOf_27 (by decide) ?_
          refine s_isub_n hX dX8_slotOf_28 (by omega) ?_
          refine s_istore hX dX8_slotOf_29 (Nat.le_of_ble_eq_true rfl) rfl st_10_9 ?_
          refine s_iload hX dX8_slotOf_31 rfl ?_
          refine s_if_ge_n (tgt := 39) hX dX8_slotOf_33 (by decide) (by omega) ?_
          refine s_aload_n hX dX8_slotOf_39 rfl ?_
          refine s_getR hX dX8_slotOf_40 fl_X8_11 rfl rfl (by omega) ?_
          refine s_iload hX dX8_slotOf_43 rfl ?_
          refine s_lald hX dX8_slotOf_45 rfl (by omega) (by omega) (by decide) rfl ?_
          refine s_lload_n hX dX8_slotOf_46 rfl ?_
          refine s_lcmp hX dX8_slotOf_47 ?_
          refine s_if_ne (tgt := 79) hX dX8_slotOf_48 (by decide) (fun q48 => ?_) (fun q48 => ?_)
          · refine s_iload hX dX8_slotOf_79 rfl ?_
            refine s_iconst (v := nI 1) hX dX8_slotOf_81 (by decide) ?_
            refine s_iadd_n hX dX8_slotOf_82 ?_
            refine s_sipush (v := nI 8191) hX dX8_slotOf_83 (by decide) ?_
            refine s_iand_n hX dX8_slotOf_86 ?_
            rw [show (k + 1) &&& 8191 = (k + 1) % 8192 from am _ 13]
            refine s_istore hX dX8_slotOf_87 (Nat.le_of_ble_eq_true rfl) rfl st_10_7 ?_
            refine s_iinc_n (c := 1) hX dX8_slotOf_89 rfl (by decide) rfl st_10_8 ?_
            refine s_goto (tgt := 12) hX dX8_slotOf_92 (by decide) ?_
            refine ih (d + 1) _ _ (by omega) (by omega) (fun e he => ?_)
            by_cases c : e < d
            · exact hi e c
            · have : e = d := by omega
              subst this
              rw [← hkk]
              refine ⟨m, hm, ht, Bool.eq_false_iff.mpr (fun h9 => ?_)⟩
              obtain ⟨a1, a2, a3⟩ := hwm.mpr h9
              first
                | exact q48 (lgc.mpr a1)
                | exact q60 (lgc.mpr a2)
                | exact q73 (lgc.mpr a3)
          · refine s_aload_n hX dX8_slotOf_51 rfl ?_
            refine s_getR hX dX8_slotOf_52 fl_X8_15 rfl rfl (by omega) ?_
            refine s_iload hX dX8_slotOf_55 rfl ?_
            refine s_lald hX dX8_slotOf_57 rfl (by omega) (by omega) (by decide) rfl ?_
            refine s_lload_n hX dX8_slotOf_58 rfl ?_
            refine s_lcmp hX dX8_slotOf_59 ?_
            refine s_if_ne (tgt := 79) hX dX8_slotOf_60 (by decide) (fun q60 => ?_) (fun q60 => ?_)
            · refine s_iload hX dX8_slotOf_79 rfl ?_
              refine s_iconst (v := nI 1) hX dX8_slotOf_81 (by decide) ?_
              refine s_iadd_n hX dX8_slotOf_82 ?_
              refine s_sipush (v := nI 8191) hX dX8_slotOf_83 (by decide) ?_
              refine s_iand_n hX dX8_slotOf_86 ?_
              rw [show (k + 1) &&& 8191 = (k + 1) % 8192 from am _ 13]
              refine s_istore hX dX8_slotOf_87 (Nat.le_of_ble_eq_true rfl) rfl st_10_7 ?_
              refine s_iinc_n (c := 1) hX dX8_slotOf_89 rfl (by decide) rfl st_10_8 ?_
              refine s_goto (tgt := 12) hX dX8_slotOf_92 (by decide) ?_
              refine ih (d + 1) _ _ (by omega) (by omega) (fun e he => ?_)
              by_cases c : e < d
              · exact hi e c
              · have : e = d := by omega
                subst this
                rw [← hkk]
                refine ⟨m, hm, ht, Bool.eq_false_iff.mpr (fun h9 => ?_)⟩
                obtain ⟨a1, a2, a3⟩ := hwm.mpr h9
                first
                  | exact q48 (lgc.mpr a1)
                  | exact q60 (lgc.mpr a2)
                  | exact q73 (lgc.mpr a3)
            · refine s_aload_n hX dX8_slotOf_63 rfl ?_
              refine s_getR hX dX8_slotOf_64 fl_X8_18 rfl rfl (by omega) ?_
              refine s_iload hX dX8_slotOf_67 rfl ?_
              refine s_lald hX dX8_slotOf_69 rfl (by omega) (by omega) (by decide) rfl ?_
              refine s_lload hX dX8_slotOf_70 rfl ?_
              refine s_lcmp hX dX8_slotOf_72 ?_
              refine s_if_ne (tgt := 79) hX dX8_slotOf_73 (by decide) (fun q73 => ?_) (fun q73 => ?_)
              · refine s_iload hX dX8_slotOf_79 rfl ?_
                refine s_iconst (v := nI 1) hX dX8_slotOf_81 (by decide) ?_
                refine s_iadd_n hX dX8_slotOf_82 ?_
                refine s_sipush (v := nI 8191) hX dX8_slotOf_83 (by decide) ?_
                refine s_iand_n hX dX8_slotOf_86 ?_
                rw [show (k + 1) &&& 8191 = (k + 1) % 8192 from am _ 13]
                refine s_istore hX dX8_slotOf_87 (Nat.le_of_ble_eq_true rfl) rfl st_10_7 ?_
                refine s_iinc_n (c := 1) hX dX8_slotOf_89 rfl (by decide) rfl st_10_8 ?_
                refine s_goto (tgt := 12) hX dX8_slotOf_92 (by decide) ?_
                refine ih (d + 1) _ _ (by omega) (by omega) (fun e he => ?_)
                by_cases c : e < d
                · exact hi e c
                · have : e = d := by omega
                  subst this
                  rw [← hkk]
                  refine ⟨m, hm, ht, Bool.eq_false_iff.mpr (fun h9 => ?_)⟩
                  obtain ⟨a1, a2, a3⟩ := hwm.mpr h9
                  first
                    | exact q48 (lgc.mpr a1)
                    | exact q60 (lgc.mpr a2)
                    | exact q73 (lgc.mpr a3)
              · refine s_iload hX dX8_slotOf_76 rfl ?_
                refine s_iret hX dX8_slotOf_78 rfl rfl ?_
                refine ⟨⟨k, rfl, hk8, Or.inl ⟨m, hm, ht, hwm.mp ⟨lgc.mp (Classical.not_not.mp q48), lgc.mp (Classical.not_not.mp q60), lgc.mp (Classical.not_not.mp q73)⟩⟩⟩, rfl⟩
  refine s_lload_n hX dX8_slotOf_0 rfl ?_
  refine s_lload_n hX dX8_slotOf_1 rfl ?_
  refine s_lload hX dX8_slotOf_2 rfl ?_
  refine s_callSi (as := [_, _, _]) hX dX8_slotOf_4 mk_X8_startOf lk_X8_53 (c_X8_startOf x y z) rfl ⟨rfl, rfl⟩ (Nat.le_of_ble_eq_true rfl) (Nat.le_of_ble_eq_true rfl) (Nat.le_of_ble_eq_true rfl) rfl (fun v4 σ4 p4 => ?_)
  obtain ⟨rfl, ep⟩ := p4
  replace ep := ep.symm
  subst ep
  refine s_istore hX dX8_slotOf_7 (Nat.le_of_ble_eq_true rfl) rfl st_10_7 ?_
  refine s_iconst (v := nI 0) hX dX8_slotOf_9 (by decide) ?_
  refine s_istore hX dX8_slotOf_10 (Nat.le_of_ble_eq_true rfl) rfl st_10_8 ?_
  exact LP 8192 0 _ _ (by omega) (by rw [Nat.add_zero, Nat.mod_eq_of_lt s8]) (fun e he => absurd he (Nat.not_lt_zero e))
