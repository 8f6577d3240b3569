/-! ===== the class: lists, the protocol ===== -/
def filF (f : Nat → Int32) (x : Int32) (k : Nat) : Nat → Int32 := fun j => if j < k then x else f j
theorem filF_s (f : Nat → Int32) (x : Int32) (k : Nat) : upd (filF f x k) k x = filF f x (k + 1) := by
  funext j
  by_cases h : j = k
  · subst h; rw [pk_us]; unfold filF; rw [if_pos (by omega)]
  · rw [pk_un h]
    unfold filF
    by_cases h2 : j < k
    · rw [if_pos h2, if_pos (by omega)]
    · rw [if_neg h2, if_neg (by omega)]
theorem filF_0 (f : Nat → Int32) (x : Int32) : filF f x 0 = f := by funext j; unfold filF; rw [if_neg (by omega)]
set_option maxRecDepth 100000 in
set_option maxHeartbeats 4000000 in
theorem c_J7_fill {n : Nat} {σ : Sg} {a len : Nat} (ha : sh a = .inr (0, len)) (han : a < n) (hlen : len < 2 ^ 31) (x : Int32) : Sm n mJ7_fill_53178 [.ref a, .int x] σ (qv fun σ2 => σ2 = wA σ a (filF (σ a).1 x len)) := by
  refine Sm.of mk_J7_fill_53178 (Nat.le_of_ble_eq_true rfl) rfl (fun X hX => ?_)
  have LP : ∀ d k, k + d = len → Sw n mJ7_fill_53178 X (ZS n mJ7_fill_53178 (qv fun σ2 => σ2 = wA σ a (filF (σ a).1 x len)) X) 5 [some (.ref a), some (.int x), some (.int (nI k)), some (.int (nI len))] [] (wA σ a (filF (σ a).1 x k)) := by
    intro d
    induction d with
    | zero =>
      intro k hd
      refine s_iload_n hX dJ7_fill_53178_5 rfl ?_
      refine s_iload_n hX dJ7_fill_53178_6 rfl ?_
      refine s_icmp_ge_n (tgt := 20) hX dJ7_fill_53178_7 (by decide) (by omega) (by omega) (fun q7 => ?_) (fun q7 => ?_)
      · refine s_vret hX dJ7_fill_53178_20 rfl rfl ?_
        rw [show k = len by omega]
      · omega
    | succ d ih =>
      intro k hd
      refine s_iload_n hX dJ7_fill_53178_5 rfl ?_
      refine s_iload_n hX dJ7_fill_53178_6 rfl ?_
      refine s_icmp_ge_n (tgt := 20) hX dJ7_fill_53178_7 (by decide) (by omega) (by omega) (fun q7 => ?_) (fun q7 => ?_)
      · omega
      · refine s_aload_n hX dJ7_fill_53178_10 rfl ?_
        refine s_iload_n hX dJ7_fill_53178_11 rfl ?_
        refine s_iload_n hX dJ7_fill_53178_12 rfl ?_
        refine s_iast hX dJ7_fill_53178_13 ha han (by omega) hlen ?_
        refine s_eq (wI_wA _ _ _ _ _) ?_
        rw [filF_s]
        refine s_iinc_n (c := 1) hX dJ7_fill_53178_14 rfl (by decide) rfl st_4_2 ?_
        refine s_goto (tgt := 5) hX dJ7_fill_53178_17 (by decide) ?_
        exact ih (k + 1) (by omega)
  refine s_iconst (v := nI 0) hX dJ7_fill_53178_0 (by decide) ?_
  refine s_istore_n hX dJ7_fill_53178_1 (Nat.le_of_ble_eq_true rfl) rfl st_4_2 ?_
  refine s_aload_n hX dJ7_fill_53178_2 rfl ?_
  refine s_alen hX dJ7_fill_53178_3 ha (by omega) ?_
  refine s_istore_n hX dJ7_fill_53178_4 (Nat.le_of_ble_eq_true rfl) rfl st_4_3 ?_
  refine s_eq (σ2 := wA σ a (filF (σ a).1 x 0)) (by rw [filF_0, wA_self]) ?_
  exact LP len 0 (by omega)
def IsNl (o n : Nat) : Prop := sh o = .inl (4, [some (some (o + 1)), none]) ∧ sh (o + 1) = .inr (0, 4000) ∧ o + 1 < n
def NlC (σ : Sg) (o : Nat) (l : List Nat) : Prop := (σ o).1 1 = nI l.length ∧ ∀ i x, l[i]? = some x → (σ (o + 1)).1 i = nI x
theorem NlC.kept {σ σ2 : Sg} {o : Nat} {l : List Nat} (h : NlC σ o l) (e1 : σ2 o = σ o) (e2 : σ2 (o + 1) = σ (o + 1)) : NlC σ2 o l := ⟨by rw [e1]; exact h.1, by rw [e2]; exact h.2⟩
def nlA (l : List Nat) (x : Int32) : Int32 := if x < 0 ∨ nI l.length ≤ x then -1 else amv l[x.toNatClampNeg]?
set_option maxRecDepth 100000 in
set_option maxHeartbeats 4000000 in
theorem c_X5_clear {n : Nat} {σ : Sg} {o : Nat} (ho : IsNl o n) : Sm n mX5_clear [.ref o] σ (qv fun σ2 => NlC σ2 o [] ∧ Off σ σ2 [o]) := by
  refine Sm.of mk_X5_clear (Nat.le_of_ble_eq_true rfl) rfl (fun X hX => ?_)
  obtain ⟨ho1, ho2, ho3⟩ := ho
  refine s_aload_n hX dX5_clear_0 rfl ?_
  refine s_iconst (v := nI 0) hX dX5_clear_1 (by decide) ?_
  refine s_putI hX dX5_clear_2 fl_X5_15 ho1 rfl (by omega) rfl rfl ?_
  refine s_vret hX dX5_clear_5 rfl rfl ?_
  exact ⟨⟨by rw [wI_s]; rfl, fun i x hx => by cases hx⟩, Off.rf.wI (by simp)⟩
set_option maxRecDepth 100000 in
set_option maxHeartbeats 4000000 in
theorem c_X5_count {n : Nat} {σ : Sg} {o : Nat} {l : List Nat} (ho : IsNl o n) (h : NlC σ o l) : Sm n mX5_count [.ref o] σ (qi fun r σ2 => r = nI l.length ∧ σ2 = σ) := by
  refine Sm.of mk_X5_count (Nat.le_of_ble_eq_true rfl) rfl (fun X hX => ?_)
  obtain ⟨ho1, ho2, ho3⟩ := ho
  refine s_aload_n hX dX5_count_0 rfl ?_
  refine s_getI (x := nI (l.length)) hX dX5_count_1 fl_X5_15 ho1 rfl (by omega) h.1 ?_
  refine s_iret hX dX5_count_4 rfl rfl ?_
  exact ⟨rfl, rfl⟩
set_option maxRecDepth 100000 in
set_option maxHeartbeats 4000000 in
theorem c_X5_add {n : Nat} {σ : Sg} {o : Nat} {l : List Nat} (ho : IsNl o n) (h : NlC σ o l) (hl : l.length < 4000) (x : Nat) : Sm n mX5_add [.ref o, .int (nI x)] σ (qv fun σ2 => NlC σ2 o (l ++ [x]) ∧ Off σ σ2 [o, o + 1]) := by
  refine Sm.of mk_X5_add (Nat.le_of_ble_eq_true rfl) rfl (fun X hX => ?_)
  obtain ⟨ho1, ho2, ho3⟩ := ho
  have hne : o ≠ o + 1 := by omega
  refine s_aload_n hX dX5_add_0 rfl ?_
  refine s_getI (x := nI (l.length)) hX dX5_add_1 fl_X5_15 ho1 rfl (by omega) h.1 ?_
  refine s_sipush (v := nI 4000) hX dX5_add_4 (by decide) ?_
  refine s_icmp_ge_n (tgt := 30) hX dX5_add_7 (by decide) (by omega) (by omega) (fun q7 => ?_) (fun q7 => ?_)
  · omega
  · refine s_aload_n hX dX5_add_10 rfl ?_
    refine s_getR hX dX5_add_11 fl_X5_9 ho1 rfl (by omega) ?_
    refine s_aload_n hX dX5_add_14 rfl ?_
    refine s_getI (x := nI (l.length)) hX dX5_add_15 fl_X5_15 ho1 rfl (by omega) h.1 ?_
    refine s_iload_n hX dX5_add_18 rfl ?_
    refine s_iast hX dX5_add_19 ho2 (by omega) (by omega) (by decide) ?_
    refine s_aload_n hX dX5_add_20 rfl ?_
    refine s_dup hX dX5_add_21 rfl ?_
    refine s_getI (x := nI (l.length)) hX dX5_add_22 fl_X5_15 ho1 rfl (by omega) (by rw [wI_a _ _ hne]; exact h.1) ?_
    refine s_iconst (v := nI 1) hX dX5_add_25 (by decide) ?_
    refine s_iadd_n hX dX5_add_26 ?_
    refine s_putI hX dX5_add_27 fl_X5_15 ho1 rfl (by omega) rfl rfl ?_
    refine s_vret hX dX5_add_30 rfl rfl ?_
    refine ⟨⟨by rw [wI_s, List.length_append, List.length_singleton], fun i y hy => ?_⟩, (Off.rf.wI (by simp)).wI (by simp)⟩
    rw [wI_a _ _ (Ne.symm hne)]
    by_cases e : i < l.length
    · rw [List.getElem?_append_left e] at hy
      rw [wI_k _ _ (by omega)]
      exact h.2 i y hy
    · rw [List.getElem?_append_right (by omega)] at hy
      have hz : i = l.length := by
        have := (List.getElem?_eq_some_iff.mp hy).1
        simp at this; omega
      subst hz
      rw [Nat.sub_self] at hy
      cases hy
      rw [wI_s]
set_option maxRecDepth 100000 in
set_option maxHeartbeats 4000000 in
theorem c_X5_at {n : Nat} {σ : Sg} {o : Nat} {l : List Nat} (ho : IsNl o n) (h : NlC σ o l) (hl : l.length ≤ 4000) (x : Int32) : Sm n mX5_at [.ref o, .int x] σ (qi fun r σ2 => r = nlA l x ∧ σ2 = σ) := by
  refine Sm.of mk_X5_at (Nat.le_of_ble_eq_true rfl) rfl (fun X hX => ?_)
  obtain ⟨ho1, ho2, ho3⟩ := ho
  refine s_iload_n hX dX5_at_0 rfl ?_
  refine s_if_lt (tgt := 21) hX dX5_at_1 (by decide) (fun q1 => ?_) (fun q1 => ?_)
  · refine s_iconst (v := -1) hX dX5_at_21 (by decide) ?_
    refine s_iret hX dX5_at_22 rfl rfl ?_
    refine ⟨?_, rfl⟩
    first
      | rw [hE]
      | (unfold nlA; rw [if_pos (Or.inl q1)])
      | (unfold nlA; rw [if_pos (Or.inr q9)])
  · refine s_iload_n hX dX5_at_4 rfl ?_
    refine s_aload_n hX dX5_at_5 rfl ?_
    refine s_getI (x := nI (l.length)) hX dX5_at_6 fl_X5_15 ho1 rfl (by omega) h.1 ?_
    refine s_icmp_ge (tgt := 21) hX dX5_at_9 (by decide) (fun q9 => ?_) (fun q9 => ?_)
    · refine s_iconst (v := -1) hX dX5_at_21 (by decide) ?_
      refine s_iret hX dX5_at_22 rfl rfl ?_
      refine ⟨?_, rfl⟩
      first
        | rw [hE]
        | (unfold nlA; rw [if_pos (Or.inl q1)])
        | (unfold nlA; rw [if_pos (Or.inr q9)])
    · obtain ⟨i, hi, rfl⟩ := ix_of (m := l.length) (by omega) q1 q9
      obtain ⟨y, hy⟩ : ∃ y, l[i]? = some y := ⟨_, List.getElem?_eq_getElem hi⟩
      have hE : nlA l (nI i) = nI y := by
        unfold nlA
        rw [if_neg (cmp_no (by omega) hi rfl), nI_clamp (by omega), hy]
        rfl
      refine s_aload_n hX dX5_at_12 rfl ?_
      refine s_getR hX dX5_at_13 fl_X5_9 ho1 rfl (by omega) ?_
      refine s_iload_n hX dX5_at_16 rfl ?_
      refine s_iald (x := nI (y)) hX dX5_at_17 ho2 (by omega) (by omega) (by decide) (h.2 i y hy) ?_
      refine s_goto (tgt := 22) hX dX5_at_18 (by decide) ?_
      refine s_iret hX dX5_at_22 rfl rfl ?_
      refine ⟨?_, rfl⟩
      first
        | rw [hE]
        | (unfold nlA; rw [if_pos (Or.inl q1)])
        | (unfold nlA; rw [if_pos (Or.inr q9)])
def BdC (σ : Sg) (l : List (Nat × Nat × Option Nat)) : Prop := (σ 36).1 3 = nI l.length ∧ ∀ (i : Nat) (t : Nat × Nat × Option Nat), l[i]? = some t → i < 200 → (σ 37).1 i = nI t.1 ∧ (σ 38).1 i = nI t.2.1 ∧ (σ 39).1 i = amv t.2.2
theorem BdC.off {σ σ2 : Sg} {l : List (Nat × Nat × Option Nat)} {S : List Nat} (h : BdC σ l) (f : Off σ σ2 S) (hs : 36 ∉ S ∧ 37 ∉ S ∧ 38 ∉ S ∧ 39 ∉ S) : BdC σ2 l := ⟨by rw [f 36 hs.1]; exact h.1, by rw [f 37 hs.2.1, f 38 hs.2.2.1, f 39 hs.2.2.2]; exact h.2⟩
def bdQ (B : List (Nat × Nat × Option Nat)) (x y : Int32) : Int32 := if x < 0 ∨ nI B.length ≤ x ∨ nI 200 ≤ x ∨ y < 0 ∨ nI 2 < y then -1 else match B[x.toNatClampNeg]? with
  | none => -1
  | some t => if y = nI 0 then nI t.1 else if y = nI 1 then nI t.2.1 else amv t.2.2
set_option maxRecDepth 100000 in
set_option maxHeartbeats 4000000 in
theorem c_X3_clear {n : Nat} {σ : Sg} (hn : 53 ≤ n) : Sm n mX3_clear [.ref 36] σ (qv fun σ2 => BdC σ2 [] ∧ Off σ σ2 [36]) := by
  refine Sm.of mk_X3_clear (Nat.le_of_ble_eq_true rfl) rfl (fun X hX => ?_)
  refine s_aload_n hX dX3_clear_0 rfl ?_
  refine s_iconst (v := nI 0) hX dX3_clear_1 (by decide) ?_
  refine s_putI hX dX3_clear_2 fl_X3_21 rfl rfl (by omega) rfl rfl ?_
  refine s_vret hX dX3_clear_5 rfl rfl ?_
  exact ⟨⟨by rw [wI_s]; rfl, fun i x hx => by cases hx⟩, Off.rf.wI (by decide)⟩
set_option maxRecDepth 100000 in
set_option maxHeartbeats 4000000 in
theorem c_X3_count {n : Nat} {σ : Sg} (hn : 53 ≤ n) {l : List (Nat × Nat × Option Nat)} (h : BdC σ l) : Sm n mX3_count [.ref 36] σ (qi fun r σ2 => r = nI l.length ∧ σ2 = σ) := by
  refine Sm.of mk_X3_count (Nat.le_of_ble_eq_true rfl) rfl (fun X hX => ?_)
  refine s_aload_n hX dX3_count_0 rfl ?_
  refine s_getI (x := nI (l.length)) hX dX3_count_1 fl_X3_21 rfl rfl (by omega) h.1 ?_
  refine s_iret hX dX3_count_4 rfl rfl ?_
  exact ⟨rfl, rfl⟩
set_option maxRecDepth 100000 in
set_option maxHeartbeats 4000000 in
theorem c_X3_add {n : Nat} {σ : Sg} (hn : 53 ≤ n) {l : List (Nat × Nat × Option Nat)} (hB : BdC σ l) (hl : l.length < 2 ^ 30) (t : Nat × Nat × Option Nat) : Sm n mX3_add [.ref 36, .int (nI t.1), .int (nI t.2.1), .int (amv t.2.2)] σ (qv fun σ2 => BdC σ2 (l ++ [t]) ∧ Off σ σ2 [36, 37, 38, 39]) := by
  refine Sm.of mk_X3_add (Nat.le_of_ble_eq_true rfl) rfl (fun X hX => ?_)
  refine s_aload_n hX dX3_add_0 rfl ?_
  refine s_getI (x := nI (l.length)) hX dX3_add_1 fl_X3_21 rfl rfl (by omega) hB.1 ?_
  refine s_sipush (v := nI 200) hX dX3_add_4 (by decide) ?_
  refine s_icmp_ge_n (tgt := 40) hX dX3_add_7 (by decide) (by omega) (by omega) (fun q7 => ?_) (fun q7 => ?_)
  · refine s_aload_n hX dX3_add_40 rfl ?_
    refine s_dup hX dX3_add_41 rfl ?_
    refine s_getI (x := nI (l.length)) hX dX3_add_42 fl_X3_21 rfl rfl (by omega) hB.1 ?_
    refine s_iconst (v := nI 1) hX dX3_add_45 (by decide) ?_
    refine s_iadd_n hX dX3_add_46 ?_
    refine s_putI hX dX3_add_47 fl_X3_21 rfl rfl (by omega) rfl rfl ?_
    refine s_vret hX dX3_add_50 rfl rfl ?_
    refine ⟨⟨by rw [wI_s, List.length_append, List.length_singleton], fun i u hu hi => ?_⟩, by
      first
        | exact Off.rf.wI (by decide)
        | exact (((Off.rf.wI (by decide)).wI (by decide)).wI (by decide)).wI (by decide)⟩
    by_cases h : i < l.length
    · rw [List.getElem?_append_left h] at hu
      have hz : i ≠ l.length := by omega
      have := hB.2 i u hu hi
      simpa [wI, va_up, upd, hz] using this
    · rw [List.getElem?_append_right (by omega)] at hu
      have hz : i = l.length := by
        have := (List.getElem?_eq_some_iff.mp hu).1
        simp at this; omega
      subst hz
      rw [Nat.sub_self] at hu
      cases hu
      first
        | (exfalso; omega)
        | simp [wI, va_up, upd]
  · refine s_aload_n hX dX3_add_10 rfl ?_
    refine s_getR hX dX3_add_11 fl_X3_9 rfl rfl (by omega) ?_
    refine s_aload_n hX dX3_add_14 rfl ?_
    refine s_getI (x := nI (l.length)) hX dX3_add_15 fl_X3_21 rfl rfl (by omega) hB.1 ?_
    refine s_iload_n hX dX3_add_18 rfl ?_
    refine s_iast hX dX3_add_19 rfl (by omega) (by omega) (by decide) ?_
    refine s_aload_n hX dX3_add_20 rfl ?_
    refine s_getR hX dX3_add_21 fl_X3_15 rfl rfl (by omega) ?_
    refine s_aload_n hX dX3_add_24 rfl ?_
    refine s_getI (x := nI (l.length)) hX dX3_add_25 fl_X3_21 rfl rfl (by omega) (by rw [wI_a _ _ (by decide)]; exact hB.1) ?_
    refine s_iload_n hX dX3_add_28 rfl ?_
    refine s_iast hX dX3_add_29 rfl (by omega) (by omega) (by decide) ?_
    refine s_aload_n hX dX3_add_30 rfl ?_
    refine s_getR hX dX3_add_31 fl_X3_18 rfl rfl (by omega) ?_
    refine s_aload_n hX dX3_add_34 rfl ?_
    refine s_getI (x := nI (l.length)) hX dX3_add_35 fl_X3_21 rfl rfl (by omega) (by rw [wI_a _ _ (by decide), wI_a _ _ (by decide)]; exact hB.1) ?_
    refine s_iload_n hX dX3_add_38 rfl ?_
    refine s_iast hX dX3_add_39 rfl (by omega) (by omega) (by decide) ?_
    refine s_aload_n hX dX3_add_40 rfl ?_
    refine s_dup hX dX3_add_41 rfl ?_
    refine s_getI (x := nI (l.length)) hX dX3_add_42 fl_X3_21 rfl rfl (by omega) (by rw [wI_a _ _ (by decide), wI_a _ _ (by decide), wI_a _ _ (by decide)]; exact hB.1) ?_
    refine s_iconst (v := nI 1) hX dX3_add_45 (by decide) ?_
    refine s_iadd_n hX dX3_add_46 ?_
    refine s_putI hX dX3_add_47 fl_X3_21 rfl rfl (by omega) rfl rfl ?_
    refine s_vret hX dX3_add_50 rfl rfl ?_
    refine ⟨⟨by rw [wI_s, List.length_append, List.length_singleton], fun i u hu hi => ?_⟩, by
      first
        | exact Off.rf.wI (by decide)
        | exact (((Off.rf.wI (by decide)).wI (by decide)).wI (by decide)).wI (by decide)⟩
    by_cases h : i < l.length
    · rw [List.getElem?_append_left h] at hu
      have hz : i ≠ l.length := by omega
      have := hB.2 i u hu hi
      simpa [wI, va_up, upd, hz] using this
    · rw [List.getElem?_append_right (by omega)] at hu
      have hz : i = l.length := by
        have := (List.getElem?_eq_some_iff.mp hu).1
        simp at this; omega
      subst hz
      rw [Nat.sub_self] at hu
      cases hu
      first
        | (exfalso; omega)
        | simp [wI, va_up, upd]
theorem sw_out2 {y : Int32} (h0 : ¬ y = nI 0) (h1 : ¬ y = nI 1) : y.toInt < 0 ∨ 1 < y.toInt := by
  have g0 : y.toInt ≠ 0 := fun e => h0 (Int32.toInt_inj.mp (by rw [e]; decide))
  have g1 : y.toInt ≠ 1 := fun e => h1 (Int32.toInt_inj.mp (by rw [e]; decide))
  omega
theorem sw_out3 {y : Int32} (h0 : ¬ y = nI 0) (h1 : ¬ y = nI 1) (h2 : ¬ y = nI 2) : y.toInt < 0 ∨ 2 < y.toInt := by
  have g0 : y.toInt ≠ 0 := fun e => h0 (Int32.toInt_inj.mp (by rw [e]; decide))
  have g1 : y.toInt ≠ 1 := fun e => h1 (Int32.toInt_inj.mp (by rw [e]; decide))
  have g2 : y.toInt ≠ 2 := fun e => h2 (Int32.toInt_inj.mp (by rw [e]; decide))
  omega
theorem sw_out4 {y : Int32} (h0 : ¬ y = nI 0) (h1 : ¬ y = nI 1) (h2 : ¬ y = nI 2) (h3 : ¬ y = nI 3) : y.toInt < 0 ∨ 3 < y.toInt := by
  have g0 : y.toInt ≠ 0 := fun e => h0 (Int32.toInt_inj.mp (by rw [e]; decide))
  have g1 : y.toInt ≠ 1 := fun e => h1 (Int32.toInt_inj.mp (by rw [e]; decide))
  have g2 : y.toInt ≠ 2 := fun e => h2 (Int32.toInt_inj.mp (by rw [e]; decide))
  have g3 : y.toInt ≠ 3 := fun e => h3 (Int32.toInt_inj.mp (by rw [e]; decide))
  omega
theorem sw_out5 {y : Int32} (h0 : ¬ y = nI 0) (h1 : ¬ y = nI 1) (h2 : ¬ y = nI 2) (h3 : ¬ y = nI 3) (h4 : ¬ y = nI 4) : y.toInt < 0 ∨ 4 < y.toInt := by
  have g0 : y.toInt ≠ 0 := fun e => h0 (Int32.toInt_inj.mp (by rw [e]; decide))
  have g1 : y.toInt ≠ 1 := fun e => h1 (Int32.toInt_inj.mp (by rw [e]; decide))
  have g2 : y.toInt ≠ 2 := fun e => h2 (Int32.toInt_inj.mp (by rw [e]; decide))
  have g3 : y.toInt ≠ 3 := fun e => h3 (Int32.toInt_inj.mp (by rw [e]; decide))
  have g4 : y.toInt ≠ 4 := fun e => h4 (Int32.toInt_inj.mp (by rw [e]; decide))
  omega
theorem sw_out8 {y : Int32} (h0 : ¬ y = nI 0) (h1 : ¬ y = nI 1) (h2 : ¬ y = nI 2) (h3 : ¬ y = nI 3) (h4 : ¬ y = nI 4) (h5 : ¬ y = nI 5) (h6 : ¬ y = nI 6) (h7 : ¬ y = nI 7) : y.toInt < 0 ∨ 7 < y.toInt := by
  have g0 : y.toInt ≠ 0 := fun e => h0 (Int32.toInt_inj.mp (by rw [e]; decide))
  have g1 : y.toInt ≠ 1 := fun e => h1 (Int32.toInt_inj.mp (by rw [e]; decide))
  have g2 : y.toInt ≠ 2 := fun e => h2 (Int32.toInt_inj.mp (by rw [e]; decide))
  have g3 : y.toInt ≠ 3 := fun e => h3 (Int32.toInt_inj.mp (by rw [e]; decide))
  have g4 : y.toInt ≠ 4 := fun e => h4 (Int32.toInt_inj.mp (by rw [e]; decide))
  have g5 : y.toInt ≠ 5 := fun e => h5 (Int32.toInt_inj.mp (by rw [e]; decide))
  have g6 : y.toInt ≠ 6 := fun e => h6 (Int32.toInt_inj.mp (by rw [e]; decide))
  have g7 : y.toInt ≠ 7 := fun e => h7 (Int32.toInt_inj.mp (by rw [e]; decide))
  omega
set_option maxRecDepth 100000 in
set_option maxHeartbeats 4000000 in
theorem c_X3_ask {n : Nat} {σ : Sg} (hn : 53 ≤ n) {l : List (Nat × Nat × Option Nat)} (hB : BdC σ l) (hl : l.length < 2 ^ 30) (x y : Int32) : Sm n mX3_ask [.ref 36, .int x, .int y] σ (qi fun r σ2 => r = bdQ l x y ∧ σ2 = σ) := by
  refine Sm.of mk_X3_ask (Nat.le_of_ble_eq_true rfl) rfl (fun X hX => ?_)
  refine s_iload_n hX dX3_ask_0 rfl ?_
  refine s_if_lt (tgt := 19) hX dX3_ask_1 (by decide) (fun q1 => ?_) (fun q1 => ?_)
  · refine s_iconst (v := -1) hX dX3_ask_19 (by decide) ?_
    refine s_iret hX dX3_ask_20 rfl rfl ?_
    exact ⟨by unfold bdQ; rw [if_pos (by first | exact Or.inl q1 | exact Or.inr (Or.inl q9) | exact Or.inr (Or.inr (Or.inl (Int32.not_lt.mp q16))))], rfl⟩
  · refine s_iload_n hX dX3_ask_4 rfl ?_
    refine s_aload_n hX dX3_ask_5 rfl ?_
    refine s_getI (x := nI (l.length)) hX dX3_ask_6 fl_X3_21 rfl rfl (by omega) hB.1 ?_
    refine s_icmp_ge (tgt := 19) hX dX3_ask_9 (by decide) (fun q9 => ?_) (fun q9 => ?_)
    · refine s_iconst (v := -1) hX dX3_ask_19 (by decide) ?_
      refine s_iret hX dX3_ask_20 rfl rfl ?_
      exact ⟨by unfold bdQ; rw [if_pos (by first | exact Or.inl q1 | exact Or.inr (Or.inl q9) | exact Or.inr (Or.inr (Or.inl (Int32.not_lt.mp q16))))], rfl⟩
    · refine s_iload_n hX dX3_ask_12 rfl ?_
      refine s_sipush (v := nI 200) hX dX3_ask_13 (by decide) ?_
      refine s_icmp_lt (tgt := 21) hX dX3_ask_16 (by decide) (fun q16 => ?_) (fun q16 => ?_)
      · obtain ⟨i, hi, rfl⟩ := ix_of (m := l.length) (by omega) q1 q9
        have hi2 : i < 200 := by
          rw [nx_lt (by omega) (by decide)] at q16
          omega
        obtain ⟨t, ht⟩ : ∃ t, l[i]? = some t := ⟨_, List.getElem?_eq_getElem hi⟩
        have hE : bdQ l (nI i) y = if y = nI 0 then nI t.1 else if y = nI 1 then nI t.2.1 else if y = nI 2 then amv t.2.2 else -1 := by
          unfold bdQ
          by_cases y0 : y < 0
          · rw [if_pos (Or.inr (Or.inr (Or.inr (Or.inl y0)))), if_neg (fun e => by subst e; exact absurd y0 (by decide)), if_neg (fun e => by subst e; exact absurd y0 (by decide)), if_neg (fun e => by subst e; exact absurd y0 (by decide))]
          by_cases y2 : nI 2 < y
          · rw [if_pos (Or.inr (Or.inr (Or.inr (Or.inr y2)))), if_neg (fun e => by subst e; exact absurd y2 (by decide)), if_neg (fun e => by subst e; exact absurd y2 (by decide)), if_neg (fun e => by subst e; exact absurd y2 (by decide))]
          obtain ⟨k, hk2, rfl⟩ := ixl_of (m := 2) (by decide) y0 y2
          rw [if_neg (by
            intro q; rcases q with q | q | q | q | q
            · exact q1 q
            · exact q9 q
            · exact absurd q16 (Int32.not_lt.mpr q)
            · exact y0 q
            · exact y2 q), nI_clamp (by omega), ht]
          rcases (show k = 0 ∨ k = 1 ∨ k = 2 by omega) with rfl | rfl | rfl <;> rfl
        rw [hE]
        obtain ⟨t74, t75, t76⟩ := hB.2 i t ht hi2
        refine s_iload_n hX dX3_ask_21 rfl ?_
        by_cases k22_0 : y = nI 0
        · refine s_tableIn (off := 26) (tgt := 48) hX dX3_ask_22 (by rw [k22_0]; decide) (by rw [k22_0]; decide) (by rw [k22_0]; decide) (by decide) ?_
          refine s_aload_n hX dX3_ask_48 rfl ?_
          refine s_getR hX dX3_ask_49 fl_X3_9 rfl rfl (by omega) ?_
          refine s_iload_n hX dX3_ask_52 rfl ?_
          refine s_iald (x := nI (t.1)) hX dX3_ask_53 rfl (by omega) (by omega) (by decide) t74 ?_
          refine s_iret hX dX3_ask_54 rfl rfl ?_
          exact ⟨by rw [if_pos k22_0], rfl⟩
        by_cases k22_1 : y = nI 1
        · refine s_tableIn (off := 33) (tgt := 55) hX dX3_ask_22 (by rw [k22_1]; decide) (by rw [k22_1]; decide) (by rw [k22_1]; decide) (by decide) ?_
          refine s_aload_n hX dX3_ask_55 rfl ?_
          refine s_getR hX dX3_ask_56 fl_X3_15 rfl rfl (by omega) ?_
          refine s_iload_n hX dX3_ask_59 rfl ?_
          refine s_iald (x := nI (t.2.1)) hX dX3_ask_60 rfl (by omega) (by omega) (by decide) t75 ?_
          refine s_iret hX dX3_ask_61 rfl rfl ?_
          exact ⟨by rw [if_neg k22_0, if_pos k22_1], rfl⟩
        by_cases k22_2 : y = nI 2
        · refine s_tableIn (off := 40) (tgt := 62) hX dX3_ask_22 (by rw [k22_2]; decide) (by rw [k22_2]; decide) (by rw [k22_2]; decide) (by decide) ?_
          refine s_aload_n hX dX3_ask_62 rfl ?_
          refine s_getR hX dX3_ask_63 fl_X3_18 rfl rfl (by omega) ?_
          refine s_iload_n hX dX3_ask_66 rfl ?_
          refine s_iald (x := (amv t.2.2)) hX dX3_ask_67 rfl (by omega) (by omega) (by decide) t76 ?_
          refine s_iret hX dX3_ask_68 rfl rfl ?_
          exact ⟨by rw [if_neg k22_0, if_neg k22_1, if_pos k22_2], rfl⟩
        refine s_tableOut (tgt := 69) hX dX3_ask_22 (by exact sw_out3 k22_0 k22_1 k22_2) (by decide) ?_
        refine s_iconst (v := -1) hX dX3_ask_69 (by decide) ?_
        refine s_iret hX dX3_ask_70 rfl rfl ?_
        exact ⟨by rw [if_neg k22_0, if_neg k22_1, if_neg k22_2], rfl⟩
      · refine s_iconst (v := -1) hX dX3_ask_19 (by decide) ?_
        refine s_iret hX dX3_ask_20 rfl rfl ?_
        exact ⟨by unfold bdQ; rw [if_pos (by first | exact Or.inl q1 | exact Or.inr (Or.inl q9) | exact Or.inr (Or.inr (Or.inl (Int32.not_lt.mp q16))))], rfl⟩
set_option maxRecDepth 100000 in
set_option maxHeartbeats 4000000 in
theorem c_X10_sideOf {n : Nat} {σ : Sg} (a : Nat) (ha : a < 2 ^ 31) : Sm n mX10_sideOf [.int (nI a)] σ (qi fun r σ2 => r = nI (if a < 1024 then 0 else 1) ∧ σ2 = σ) := by
  refine Sm.of mk_X10_sideOf (Nat.le_of_ble_eq_true rfl) rfl (fun X hX => ?_)
  refine s_iload_n hX dX10_sideOf_0 rfl ?_
  refine s_sipush (v := nI 1024) hX dX10_sideOf_1 (by decide) ?_
  refine s_icmp_ge_n (tgt := 11) hX dX10_sideOf_4 (by decide) (by omega) (by omega) (fun q4 => ?_) (fun q4 => ?_)
  · refine s_iconst (v := nI 1) hX dX10_sideOf_11 (by decide) ?_
    refine s_iret hX dX10_sideOf_12 rfl rfl ?_
    first
      | exact ⟨by rw [if_pos (by omega)], rfl⟩
      | exact ⟨by rw [if_neg (by omega)], rfl⟩
  · refine s_iconst (v := nI 0) hX dX10_sideOf_7 (by decide) ?_
    refine s_goto (tgt := 12) hX dX10_sideOf_8 (by decide) ?_
    refine s_iret hX dX10_sideOf_12 rfl rfl ?_
    first
      | exact ⟨by rw [if_pos (by omega)], rfl⟩
      | exact ⟨by rw [if_neg (by omega)], rfl⟩
set_option maxRecDepth 100000 in
set_option maxHeartbeats 4000000 in
theorem c_X10_placeOf {n : Nat} {σ : Sg} (w : Int32) : Sm n mX10_placeOf [.int w] σ (qi fun r σ2 => r = amv (plF w) ∧ σ2 = σ) := by
  refine Sm.of mk_X10_placeOf (Nat.le_of_ble_eq_true rfl) rfl (fun X hX => ?_)
  by_cases hw : w < 0
  · have hp : plF w = none := by unfold plF; rw [if_pos hw]
    refine s_iload_n hX dX10_placeOf_0 rfl ?_
    refine s_if_ge (tgt := 6) hX dX10_placeOf_1 (by decide) (fun q1 => ?_) (fun q1 => ?_)
    · exact absurd hw (Int32.not_lt.mpr q1)
    · refine s_iconst (v := -1) hX dX10_placeOf_4 (by decide) ?_
      refine s_iret hX dX10_placeOf_5 rfl rfl ?_
      exact ⟨by rw [hp]; rfl, rfl⟩
  · obtain ⟨a, ha, rfl⟩ := nI_of hw
    have hp := plF_n ha
    refine s_iload_n hX dX10_placeOf_0 rfl ?_
    refine s_if_ge_n (tgt := 6) hX dX10_placeOf_1 (by decide) (by omega) ?_
    refine s_iload_n hX dX10_placeOf_6 rfl ?_
    refine s_iconst (v := nI 4) hX dX10_placeOf_7 (by decide) ?_
    refine s_ishr_n hX dX10_placeOf_8 (by decide) (by omega) ?_
    refine s_istore_n hX dX10_placeOf_9 (Nat.le_of_ble_eq_true rfl) rfl st_4_1 ?_
    refine s_iload_n hX dX10_placeOf_10 rfl ?_
    refine s_sipush (v := nI 2048) hX dX10_placeOf_11 (by decide) ?_
    refine s_icmp_lt_n (tgt := 19) hX dX10_placeOf_14 (by decide) (by omega) (by omega) (fun q14 => ?_) (fun q14 => ?_)
    · refine s_iload_n hX dX10_placeOf_19 rfl ?_
      refine s_bipush (v := nI 64) hX dX10_placeOf_20 (by decide) ?_
      refine s_irem_n hX dX10_placeOf_22 (by omega) (by decide) (by decide) ?_
      refine s_istore_n hX dX10_placeOf_23 (Nat.le_of_ble_eq_true rfl) rfl st_4_2 ?_
      refine s_iload_n hX dX10_placeOf_24 rfl ?_
      refine s_callSi (as := [_]) hX dX10_placeOf_25 mk_X10_sideOf lk_X10_205 (c_X10_sideOf _ (by omega)) rfl ⟨rfl, rfl⟩ (Nat.le_of_ble_eq_true rfl) (Nat.le_of_ble_eq_true rfl) (Nat.le_of_ble_eq_true rfl) rfl (fun v25 σ25 p25 => ?_)
      obtain ⟨rfl, rfl⟩ := p25
      refine s_if_ne_n (tgt := 36) hX dX10_placeOf_28 (by decide) (by split <;> decide) (fun q28 => ?_) (fun q28 => ?_)
      · refine s_bipush (v := nI 32) hX dX10_placeOf_36 (by decide) ?_
        refine s_istore_n hX dX10_placeOf_38 (Nat.le_of_ble_eq_true rfl) rfl st_4_3 ?_
        refine s_iload_n hX dX10_placeOf_39 rfl ?_
        refine s_iload_n hX dX10_placeOf_40 rfl ?_
        refine s_icmp_ge_n (tgt := 48) hX dX10_placeOf_41 (by decide) (by omega) (by omega) (fun q41 => ?_) (fun q41 => ?_)
        · refine s_iconst (v := -1) hX dX10_placeOf_48 (by decide) ?_
          refine s_iret hX dX10_placeOf_49 rfl rfl ?_
          first
            | (have h9 : ¬ a / 2 ^ 4 < 1024 := fun h => q28 (by rw [if_pos h])
               first
                 | exact ⟨by rw [hp, if_neg (by omega)]; rfl, rfl⟩
                 | exact ⟨by rw [hp, if_pos (by omega)]; rfl, rfl⟩)
            | (have h9 : a / 2 ^ 4 < 1024 := by
                 rcases Nat.lt_or_ge (a / 2 ^ 4) 1024 with h | h
                 · exact h
                 · rw [if_neg (by omega)] at q28; cases q28
               first
                 | exact ⟨by rw [hp, if_neg (by omega)]; rfl, rfl⟩
                 | exact ⟨by rw [hp, if_pos (by omega)]; rfl, rfl⟩)
        · refine s_iload_n hX dX10_placeOf_44 rfl ?_
          refine s_goto (tgt := 49) hX dX10_placeOf_45 (by decide) ?_
          refine s_iret hX dX10_placeOf_49 rfl rfl ?_
          first
            | (have h9 : ¬ a / 2 ^ 4 < 1024 := fun h => q28 (by rw [if_pos h])
               first
                 | exact ⟨by rw [hp, if_neg (by omega)]; rfl, rfl⟩
                 | exact ⟨by rw [hp, if_pos (by omega)]; rfl, rfl⟩)
            | (have h9 : a / 2 ^ 4 < 1024 := by
                 rcases Nat.lt_or_ge (a / 2 ^ 4) 1024 with h | h
                 · exact h
                 · rw [if_neg (by omega)] at q28; cases q28
               first
                 | exact ⟨by rw [hp, if_neg (by omega)]; rfl, rfl⟩
                 | exact ⟨by rw [hp, if_pos (by omega)]; rfl, rfl⟩)
      · refine s_bipush (v := nI 19) hX dX10_placeOf_31 (by decide) ?_
        refine s_goto (tgt := 38) hX dX10_placeOf_33 (by decide) ?_
        refine s_istore_n hX dX10_placeOf_38 (Nat.le_of_ble_eq_true rfl) rfl st_4_3 ?_
        refine s_iload_n hX dX10_placeOf_39 rfl ?_
        refine s_iload_n hX dX10_placeOf_40 rfl ?_
        refine s_icmp_ge_n (tgt := 48) hX dX10_placeOf_41 (by decide) (by omega) (by omega) (fun q41 => ?_) (fun q41 => ?_)
        · refine s_iconst (v := -1) hX dX10_placeOf_48 (by decide) ?_
          refine s_iret hX dX10_placeOf_49 rfl rfl ?_
          first
            | (have h9 : ¬ a / 2 ^ 4 < 1024 := fun h => q28 (by rw [if_pos h])
               first
                 | exact ⟨by rw [hp, if_neg (by omega)]; rfl, rfl⟩
                 | exact ⟨by rw [hp, if_pos (by omega)]; rfl, rfl⟩)
            | (have h9 : a / 2 ^ 4 < 1024 := by
                 rcases Nat.lt_or_ge (a / 2 ^ 4) 1024 with h | h
                 · exact h
                 · rw [if_neg (by omega)] at q28; cases q28
               first
                 | exact ⟨by rw [hp, if_neg (by omega)]; rfl, rfl⟩
                 | exact ⟨by rw [hp, if_pos (by omega)]; rfl, rfl⟩)
        · refine s_iload_n hX dX10_placeOf_44 rfl ?_
          refine s_goto (tgt := 49) hX dX10_placeOf_45 (by decide) ?_
          refine s_iret hX dX10_placeOf_49 rfl rfl ?_
          first
            | (have h9 : ¬ a / 2 ^ 4 < 1024 := fun h => q28 (by rw [if_pos h])
               first
                 | exact ⟨by rw [hp, if_neg (by omega)]; rfl, rfl⟩
                 | exact ⟨by rw [hp, if_pos (by omega)]; rfl, rfl⟩)
            | (have h9 : a / 2 ^ 4 < 1024 := by
                 rcases Nat.lt_or_ge (a / 2 ^ 4) 1024 with h | h
                 · exact h
                 · rw [if_neg (by omega)] at q28; cases q28
               first
                 | exact ⟨by rw [hp, if_neg (by omega)]; rfl, rfl⟩
                 | exact ⟨by rw [hp, if_pos (by omega)]; rfl, rfl⟩)
    · refine s_iconst (v := -1) hX dX10_placeOf_17 (by decide) ?_
      refine s_iret hX dX10_placeOf_18 rfl rfl ?_
      exact ⟨by rw [hp, if_pos (by omega)]; rfl, rfl⟩
