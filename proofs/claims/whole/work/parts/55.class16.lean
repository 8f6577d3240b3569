/-! ===== the atlas: the walk under way ===== -/
def flL (p : Nat → Bool) : Nat → List Nat
  | 0 => []
  | n + 1 => flL p n ++ (if p n = true then [n] else [])
theorem flL_cong {p q : Nat → Bool} : ∀ n, (∀ m, m < n → p m = q m) → flL p n = flL q n
  | 0, _ => rfl
  | n + 1, h => by unfold flL; rw [flL_cong n (fun m hm => h m (by omega)), h n (by omega)]
theorem flL_len (p : Nat → Bool) : ∀ n, (flL p n).length = ctR p n
  | 0 => rfl
  | n + 1 => by
    unfold flL ctR
    rw [List.length_append, flL_len p n]
    cases p n <;> rfl
theorem Off.mono2 {σ σ2 : Sg} {S S2 : List Nat} (h : Off σ σ2 S) (hs : S.all (fun a => S2.contains a) = true) : Off σ σ2 S2 := h.mono (fun a ha => List.contains_iff_mem.mp (List.all_eq_true.mp hs a ha))
def AtN (σ : Sg) (most T Q : Nat) (S : Bool) : Prop := (σ 20).1 13 = nI most ∧ (σ 20).1 14 = nI T ∧ (σ 20).1 15 = nI Q ∧ (σ 20).1 16 = bI S
def AtF (σ : Sg) (W : Wk) : Prop := (∀ m, 0 < m → m < kM W → (σ 50).1 m = nI ((kP W m).1 * 20 + (kP W m).2)) ∧ (∀ m, m < kM W → (σ 51).1 m = nI (kF W m)) ∧ ∀ a, a < 2048 → (σ 52).1 a = bI (kU W a)
def lqF (pr : Pr) (W : Wk) (vis : Nat) (m : Nat) : Bool := decide (m < vis) && quF pr (kV W m)
def AtC (pr : Pr) (σ : Sg) (most : Nat) (W : Wk) (vis T : Nat) : Prop := ShC pr σ (kM W) (kV W) ∧ BdC σ (kB W) ∧ NlC σ 40 (flL (fun m => skF pr (kV W m)) vis) ∧ NlC σ 42 [] ∧ AtN σ most (kT W) (qcR pr (kV W) vis) (kS W) ∧ AtF σ W ∧ BkC σ (kM W) T (kN W) ∧ ∃ R, LeR σ (kM W) (lqF pr W vis) R
theorem AtC.kept {pr : Pr} {σ σ2 : Sg} {most vis T : Nat} {W : Wk} (h : AtC pr σ most W vis T) (e20 : σ2 20 = σ 20) (e : ∀ a, 31 ≤ a → a ≤ 52 → σ2 a = σ a) : AtC pr σ2 most W vis T := by
  obtain ⟨h1, h2, h3, h4, h5, h6, h7, R, h8⟩ := h
  refine ⟨h1.kept (fun a p q => e a p (by omega)), ?_, h3.kept (e 40 (by decide) (by decide)) (e 41 (by decide) (by decide)), h4.kept (e 42 (by decide) (by decide)) (e 43 (by decide) (by decide)), ?_, ?_, h7.kept (e 45 (by decide) (by decide)) (e 46 (by decide) (by decide)), R, h8.kept (e 47 (by decide) (by decide)) (e 48 (by decide) (by decide)) (e 49 (by decide) (by decide))⟩
  · unfold BdC; rw [e 36 (by decide) (by decide), e 37 (by decide) (by decide), e 38 (by decide) (by decide), e 39 (by decide) (by decide)]; exact h2
  · unfold AtN; rw [e20]; exact h5
  · unfold AtF; rw [e 50 (by decide) (by decide), e 51 (by decide) (by decide), e 52 (by decide) (by decide)]; exact h6
abbrev trL : List Nat := [9, 20, 23, 24, 31, 32, 33, 34, 35, 36, 37, 38, 39, 45, 46, 47, 48, 49, 50, 51, 52]
theorem is10 {n : Nat} (hn : 53 ≤ n) : IsSc 10 n := ⟨rfl, rfl, by omega⟩
theorem is12 {n : Nat} (hn : 53 ≤ n) : IsSc 12 n := ⟨rfl, rfl, by omega⟩
theorem is21 {n : Nat} (hn : 53 ≤ n) : IsSc 21 n := ⟨rfl, rfl, by omega⟩
theorem is23 {n : Nat} (hn : 53 ≤ n) : IsSc 23 n := ⟨rfl, rfl, by omega⟩
theorem il14 {n : Nat} (hn : 53 ≤ n) : IsSl 14 n := ⟨rfl, rfl, rfl, rfl, rfl, rfl, by omega⟩
theorem il25 {n : Nat} (hn : 53 ≤ n) : IsSl 25 n := ⟨rfl, rfl, rfl, rfl, rfl, rfl, by omega⟩
theorem in40 {n : Nat} (hn : 53 ≤ n) : IsNl 40 n := ⟨rfl, rfl, by omega⟩
theorem in42 {n : Nat} (hn : 53 ≤ n) : IsNl 42 n := ⟨rfl, rfl, by omega⟩
theorem PrC.off2 {σ σ2 : Sg} {pr : Pr} {S : List Nat} (h : PrC σ pr) (f : Off σ σ2 S) (hs : [1, 2, 3, 4, 5, 6, 7, 8].all (fun a => !S.contains a) = true) : PrC σ2 pr := h.kept (fun a h1 h2 => f a (fun q => by
  have : a ∈ [1, 2, 3, 4, 5, 6, 7, 8] := by simp only [List.mem_cons, List.not_mem_nil, or_false]; omega
  have := List.all_eq_true.mp hs a this
  rw [List.contains_iff_mem.mpr q] at this
  cases this))
set_option maxRecDepth 100000 in
set_option maxHeartbeats 4000000 in
theorem c_X1_markUsed {n : Nat} {σ : Sg} {pr : Pr} (hn : 53 ≤ n) (hp : PrC σ pr) (hk : PrOk pr) {U : Nat → Bool} (a : Nat) (ha : a < 2048) (hU : ∀ q, q < 2048 → (σ 52).1 q = bI (U q)) : Sm n mX1_markUsed [.ref 20, .int (nI a)] σ (qv fun σ2 => (∀ q, q < 2048 → (σ2 52).1 q = bI (useK U (if (pAm pr a).isSome = true then some a else none) q)) ∧ Off σ σ2 [52]) := by
  refine Sm.of mk_X1_markUsed (Nat.le_of_ble_eq_true rfl) rfl (fun X hX => ?_)
  refine s_aload_n hX dX1_markUsed_0 rfl ?_
  refine s_getR hX dX1_markUsed_1 fl_X1_9 rfl rfl (by omega) ?_
  refine s_iload_n hX dX1_markUsed_4 rfl ?_
  refine s_callVi (as := [_]) hX dX1_markUsed_5 mk_X6_hasRow lk_X1_178 (c_X6_hasRow hn hp hk a ha) rfl (by omega) rfl rfl rfl ⟨rfl, rfl⟩ (Nat.le_of_ble_eq_true rfl) (Nat.le_of_ble_eq_true rfl) (Nat.le_of_ble_eq_true rfl) rfl (fun v5 σ5 p5 => ?_)
  obtain ⟨rfl, ep⟩ := p5
  replace ep := ep.symm
  subst ep
  refine s_if_eq_n (tgt := 18) hX dX1_markUsed_8 (by decide) (by unfold isN; split <;> decide) (fun q8 => ?_) (fun q8 => ?_)
  · have z : ¬ (pAm pr a).isSome = true := fun q => by unfold isN at q8; rw [if_pos q] at q8; omega
    refine s_vret hX dX1_markUsed_18 rfl rfl ?_
    first
      | (rw [if_neg z]; exact ⟨hU, Off.rf⟩)
      | (rw [if_pos z]
         refine ⟨fun q hq => ?_, Off.rf.wI (by simp)⟩
         show _ = bI (va_up U a true q)
         by_cases e : q = a
         · rw [e, wI_s, va_up_at]; rfl
         · rw [wI_k _ _ e, va_up_ne _ _ e]; exact hU q hq)
  · have z : (pAm pr a).isSome = true := Classical.byContradiction (fun q => by unfold isN at q8; rw [if_neg q] at q8; omega)
    refine s_aload_n hX dX1_markUsed_11 rfl ?_
    refine s_getR hX dX1_markUsed_12 fl_X1_76 rfl rfl (by omega) ?_
    refine s_iload_n hX dX1_markUsed_15 rfl ?_
    refine s_iconst (v := nI 1) hX dX1_markUsed_16 (by decide) ?_
    refine s_iast hX dX1_markUsed_17 rfl (by omega) (by omega) (by decide) ?_
    refine s_vret hX dX1_markUsed_18 rfl rfl ?_
    first
      | (rw [if_neg z]; exact ⟨hU, Off.rf⟩)
      | (rw [if_pos z]
         refine ⟨fun q hq => ?_, Off.rf.wI (by simp)⟩
         show _ = bI (va_up U a true q)
         by_cases e : q = a
         · rw [e, wI_s, va_up_at]; rfl
         · rw [wI_k _ _ e, va_up_ne _ _ e]; exact hU q hq)
set_option maxRecDepth 100000 in
set_option maxHeartbeats 4000000 in
theorem c_X1_keepTrial {n : Nat} {σ : Sg} {pr : Pr} (hn : 53 ≤ n) (hp : PrC σ pr) (hk : PrOk pr) {W : Wk} {most vis T : Nat} {v : Vc} {f : Option (Nat × Nat)} {path : Int32} (hA : AtC pr σ most W vis T) (hs : ScC pr σ 23 v) (hv : VOk pr v) (hm : most ≤ 4000) (hM : kM W ≤ most) (hvis : vis ≤ kM W) (hV : ∀ m, m < kM W → VOk pr (kV W m)) (hNx : ∀ a b, kN W a b ≠ some (kM W)) (hq : numK W v = none) (hB : (kB W).length < 2 ^ 30) (hpa : ∀ q, f = some q → path = nI (q.1 * 20 + q.2)) (hf0 : f = none → kM W = 0) : Sm n mX1_keepTrial [.ref 20, .int path, .int (nI (frF W f))] σ (qi fun r σ2 => (if kM W < most then r = nI (kM W) ∧ AtC pr σ2 most (addK pr W v f) vis T else r = -1 ∧ AtC pr σ2 most (speK W) vis T) ∧ Off σ σ2 trL) := by
  refine Sm.of mk_X1_keepTrial (Nat.le_of_ble_eq_true rfl) rfl (fun X hX => ?_)
  obtain ⟨a1, a2, a3, a4, a5, a6, a7, R, a8⟩ := hA
  have hbd := bdF_le pr v
  have hu : ∀ m, m < kM W → va_up (kV W) (kM W) v m = kV W m := fun m hm => va_lt _ _ hm
  have hl0 : lqF pr W vis (kM W) = false := by unfold lqF; rw [decide_eq_false (by omega)]; rfl
  refine s_aload_n hX dX1_keepTrial_0 rfl ?_
  refine s_getR hX dX1_keepTrial_1 fl_X1_41 rfl rfl (by omega) ?_
  refine s_callVi (as := []) hX dX1_keepTrial_4 mk_X8_count lk_X1_147 (c_X8_count hn a1) rfl (by omega) rfl rfl rfl ⟨rfl, rfl⟩ (Nat.le_of_ble_eq_true rfl) (Nat.le_of_ble_eq_true rfl) (Nat.le_of_ble_eq_true rfl) rfl (fun v4 σ4 p4 => ?_)
  obtain ⟨rfl, ep⟩ := p4
  replace ep := ep.symm
  subst ep
  refine s_aload_n hX dX1_keepTrial_7 rfl ?_
  refine s_getI (x := nI (most)) hX dX1_keepTrial_8 fl_X1_79 rfl rfl (by omega) a5.1 ?_
  refine s_icmp_lt_n (tgt := 21) hX dX1_keepTrial_11 (by decide) (by omega) (by omega) (fun q11 => ?_) (fun q11 => ?_)
  · refine s_aload_n hX dX1_keepTrial_21 rfl ?_
    refine s_getR hX dX1_keepTrial_22 fl_X1_41 rfl rfl (by omega) ?_
    refine s_aload_n hX dX1_keepTrial_25 rfl ?_
    refine s_getR hX dX1_keepTrial_26 fl_X1_26 rfl rfl (by omega) ?_
    refine s_callVi (as := [_]) hX dX1_keepTrial_29 mk_X8_keep lk_X1_181 (c_X8_keep hn hk a1 (by omega) hV (is23 hn) hs hv hq (by decide)) rfl (by omega) rfl rfl rfl ⟨rfl, rfl⟩ (Nat.le_of_ble_eq_true rfl) (Nat.le_of_ble_eq_true rfl) (Nat.le_of_ble_eq_true rfl) rfl (fun v29 σ29 p29 => ?_)
    obtain ⟨rfl, p29a, p29b⟩ := p29
    have b7 : BkC (wI (wI σ29 50 (kM W) path) 51 (kM W) (nI (frF W f))) (kM W) T (kN W) := a7.kept (by rw [wI_a _ _ (by decide), wI_a _ _ (by decide), p29b 45 (by decide)]) (by rw [wI_a _ _ (by decide), wI_a _ _ (by decide), p29b 46 (by decide)])
    have b8 : LeR (wI (wI σ29 50 (kM W) path) 51 (kM W) (nI (frF W f))) (kM W) (lqF pr W vis) R := a8.kept (by rw [wI_a _ _ (by decide), wI_a _ _ (by decide), p29b 47 (by decide)]) (by rw [wI_a _ _ (by decide), wI_a _ _ (by decide), p29b 48 (by decide)]) (by rw [wI_a _ _ (by decide), wI_a _ _ (by decide), p29b 49 (by decide)])
    refine s_istore_n hX dX1_keepTrial_32 (Nat.le_of_ble_eq_true rfl) rfl st_5_3 ?_
    refine s_aload_n hX dX1_keepTrial_33 rfl ?_
    refine s_getR hX dX1_keepTrial_34 fl_X1_69 rfl rfl (by omega) ?_
    refine s_iload_n hX dX1_keepTrial_37 rfl ?_
    refine s_iload_n hX dX1_keepTrial_38 rfl ?_
    refine s_iast hX dX1_keepTrial_39 rfl (by omega) (by omega) (by decide) ?_
    refine s_aload_n hX dX1_keepTrial_40 rfl ?_
    refine s_getR hX dX1_keepTrial_41 fl_X1_73 rfl rfl (by omega) ?_
    refine s_iload_n hX dX1_keepTrial_44 rfl ?_
    refine s_iload_n hX dX1_keepTrial_45 rfl ?_
    refine s_iast hX dX1_keepTrial_46 rfl (by omega) (by omega) (by decide) ?_
    refine s_aload_n hX dX1_keepTrial_47 rfl ?_
    refine s_getR hX dX1_keepTrial_48 fl_X1_65 rfl rfl (by omega) ?_
    refine s_iload_n hX dX1_keepTrial_51 rfl ?_
    refine s_callVv (as := [_]) hX dX1_keepTrial_52 mk_X2_addState lk_X1_184 (c_X2_addState hn (by omega) b7 hNx b8 hl0) rfl (by omega) rfl rfl rfl ⟨rfl, rfl⟩ (Nat.le_of_ble_eq_true rfl) (Nat.le_of_ble_eq_true rfl) (Nat.le_of_ble_eq_true rfl) rfl (fun σ52 p52 => ?_)
    obtain ⟨p52a, p52b, p52c⟩ := p52
    have hO : Off σ σ52 [31, 32, 33, 34, 35, 45, 47, 50, 51] := ((p29b.mono2 (by decide)).wI (by simp)).wI (by simp) |>.trans (p52c.mono2 (by decide))
    have hp52 : PrC σ52 pr := hp.off2 hO (by decide)
    have hs52 : ScC pr σ52 23 v := hs.kept (hO 23 (by decide)) (hO 24 (by decide))
    have hB52 : BdC σ52 (kB W) := a2.off hO (by decide)
    have hfin : ∀ (σ3 : Sg) (B : List (Nat × Nat × Option Nat)), Off σ52 σ3 [36, 37, 38, 39] → BdC σ3 B → B = kB W ++ (if bdF pr v = 0 then [] else [(bdF pr v, kM W, none)]) → AtC pr σ3 most (addK pr W v f) vis T := by
      intro σ3 B hO3 hB3 eB
      subst eB
      refine ⟨?_, hB3, ?_, ?_, ?_, ⟨fun m h0 hm => ?_, fun m hm => ?_, fun a ha => ?_⟩, ?_, R, ?_⟩
      · exact p29a.kept (fun a q1 q2 => by
          rw [hO3 a (by simp only [List.mem_cons, List.not_mem_nil, or_false]; omega), p52c a (by simp only [List.mem_cons, List.not_mem_nil, or_false]; omega), wI_a _ _ (by omega), wI_a _ _ (by omega)])
      · have : flL (fun m => skF pr (kV (addK pr W v f) m)) vis = flL (fun m => skF pr (kV W m)) vis := flL_cong _ (fun m hm => by show skF pr (va_up (kV W) (kM W) v m) = _; rw [hu m (by omega)])
        rw [this]
        exact a3.kept (by rw [hO3 40 (by decide), hO 40 (by decide)]) (by rw [hO3 41 (by decide), hO 41 (by decide)])
      · exact a4.kept (by rw [hO3 42 (by decide), hO 42 (by decide)]) (by rw [hO3 43 (by decide), hO 43 (by decide)])
      · have : qcR pr (kV (addK pr W v f)) vis = qcR pr (kV W) vis := qcR_cong _ (fun m hm => hu m (by omega))
        rw [this]
        unfold AtN
        rw [hO3 20 (by decide), hO 20 (by decide)]
        exact a5
      · have hm : m < kM W + 1 := hm
        rw [hO3 50 (by decide), p52c 50 (by decide), wI_a _ _ (by decide)]
        show _ = nI ((va_up (kP W) (kM W) (f.getD (0, 0)) m).1 * 20 + (va_up (kP W) (kM W) (f.getD (0, 0)) m).2)
        by_cases e : m = kM W
        · rw [e, wI_s, va_up_at]
          cases hf : f with
          | none => have := hf0 hf; omega
          | some q => exact hpa q hf
        · rw [wI_k _ _ e, va_lt _ _ (by omega), p29b 50 (by decide)]
          exact a6.1 m h0 (by omega)
      · have hm : m < kM W + 1 := hm
        rw [hO3 51 (by decide), p52c 51 (by decide)]
        show _ = nI (va_up (kF W) (kM W) (frF W f) m)
        by_cases e : m = kM W
        · rw [e, wI_s, va_up_at]
        · rw [wI_k _ _ e, wI_a _ _ (by decide), va_lt _ _ (by omega), p29b 51 (by decide)]
          exact a6.2.1 m (by omega)
      · rw [hO3 52 (by decide), hO 52 (by decide)]
        exact a6.2.2 a ha
      · exact p52a.kept (hO3 45 (by decide)) (hO3 46 (by decide))
      · refine (p52b.kept (hO3 47 (by decide)) (hO3 48 (by decide)) (hO3 49 (by decide))).cong (fun m hm => ?_)
        show (decide (m < vis) && quF pr (va_up (kV W) (kM W) v m)) = (decide (m < vis) && quF pr (kV W m))
        by_cases e : m < vis
        · rw [hu m (by omega)]
        · rw [decide_eq_false e]; rfl
    refine s_aload_n hX dX1_keepTrial_55 rfl ?_
    refine s_getR hX dX1_keepTrial_56 fl_X1_9 rfl rfl (by omega) ?_
    refine s_aload_n hX dX1_keepTrial_59 rfl ?_
    refine s_getR hX dX1_keepTrial_60 fl_X1_26 rfl rfl (by omega) ?_
    refine s_callVi (as := [_]) hX dX1_keepTrial_63 mk_X6_badnessOf lk_X1_187 (c_X6_badnessOf hn (is23 hn) hs52 hp52 hk hv) rfl (by omega) rfl rfl rfl ⟨rfl, rfl⟩ (Nat.le_of_ble_eq_true rfl) (Nat.le_of_ble_eq_true rfl) (Nat.le_of_ble_eq_true rfl) rfl (fun v63 σ63 p63 => ?_)
    obtain ⟨rfl, ep⟩ := p63
    replace ep := ep.symm
    subst ep
    refine s_istore hX dX1_keepTrial_66 (Nat.le_of_ble_eq_true rfl) rfl st_5_4 ?_
    refine s_iload hX dX1_keepTrial_68 rfl ?_
    refine s_if_eq_n (tgt := 84) hX dX1_keepTrial_70 (by decide) (by omega) (fun q70 => ?_) (fun q70 => ?_)
    · refine s_iload_n hX dX1_keepTrial_84 rfl ?_
      refine s_iret hX dX1_keepTrial_85 rfl rfl ?_
      rw [if_pos (by omega)]
      first
        | exact ⟨⟨rfl, hfin _ _ Off.rf hB52 (by rw [if_pos q70, List.append_nil])⟩, hO.mono2 (by decide)⟩
        | exact ⟨⟨rfl, hfin _ _ p81.2 p81.1 (by rw [if_neg q70])⟩, (hO.mono2 (by decide)).trans (p81.2.mono2 (by decide))⟩
    · refine s_aload_n hX dX1_keepTrial_73 rfl ?_
      refine s_getR hX dX1_keepTrial_74 fl_X1_48 rfl rfl (by omega) ?_
      refine s_iload hX dX1_keepTrial_77 rfl ?_
      refine s_iload_n hX dX1_keepTrial_79 rfl ?_
      refine s_iconst (v := -1) hX dX1_keepTrial_80 (by decide) ?_
      refine s_callVv (as := [_, _, _]) hX dX1_keepTrial_81 mk_X3_add lk_X1_168 (c_X3_add hn hB52 hB (bdF pr v, kM W, none)) rfl (by omega) rfl rfl rfl ⟨rfl, rfl⟩ (Nat.le_of_ble_eq_true rfl) (Nat.le_of_ble_eq_true rfl) (Nat.le_of_ble_eq_true rfl) rfl (fun σ81 p81 => ?_)
      refine s_iload_n hX dX1_keepTrial_84 rfl ?_
      refine s_iret hX dX1_keepTrial_85 rfl rfl ?_
      rw [if_pos (by omega)]
      first
        | exact ⟨⟨rfl, hfin _ _ Off.rf hB52 (by rw [if_pos q70, List.append_nil])⟩, hO.mono2 (by decide)⟩
        | exact ⟨⟨rfl, hfin _ _ p81.2 p81.1 (by rw [if_neg q70])⟩, (hO.mono2 (by decide)).trans (p81.2.mono2 (by decide))⟩
  · refine s_aload_n hX dX1_keepTrial_14 rfl ?_
    refine s_iconst (v := nI 1) hX dX1_keepTrial_15 (by decide) ?_
    refine s_putI hX dX1_keepTrial_16 fl_X1_89 rfl rfl (by omega) rfl rfl ?_
    refine s_iconst (v := -1) hX dX1_keepTrial_19 (by decide) ?_
    refine s_iret hX dX1_keepTrial_20 rfl rfl ?_
    rw [if_neg (by omega)]
    refine ⟨⟨rfl, ?_⟩, Off.rf.wI (by simp)⟩
    refine ⟨a1.kept (fun a q1 q2 => wI_a _ _ (by omega)), a2.off (S := [20]) (Off.rf.wI (by simp)) (by decide), a3.kept (wI_a _ _ (by decide)) (wI_a _ _ (by decide)), a4.kept (wI_a _ _ (by decide)) (wI_a _ _ (by decide)), ⟨by rw [wI_k _ _ (by decide)]; exact a5.1, by rw [wI_k _ _ (by decide)]; exact a5.2.1, by rw [wI_k _ _ (by decide)]; exact a5.2.2.1, by rw [wI_s]; rfl⟩, ?_, a7.kept (wI_a _ _ (by decide)) (wI_a _ _ (by decide)), R, a8.kept (wI_a _ _ (by decide)) (wI_a _ _ (by decide)) (wI_a _ _ (by decide))⟩
    unfold AtF
    rw [wI_a _ _ (by decide), wI_a _ _ (by decide), wI_a _ _ (by decide)]
    exact a6
