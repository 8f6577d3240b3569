/-! ===== bad scenes, quiet ones ===== -/
theorem tn0 {b : Bool} (h : b.toNat = 0) : b = false := by cases b; rfl; cases h
theorem tn1 {b : Bool} (h : b.toNat ≠ 0) : b = true := by cases b; exact absurd rfl h; rfl
theorem tn2 {b : Bool} (h : b.toNat = 0) : ¬ b = true := by rw [tn0 h]; decide
def bdR (pr : Pr) (v : Vc) : Nat → Nat × Nat × Bool
  | 0 => (0, 0, false)
  | p + 1 => ((bdR pr v p).1 + (if pRi pr (v (3 * p)) = 2 then 1 else 0), (bdR pr v p).2.1 + (if 0 < pRi pr (v (3 * p)) then 1 else 0), (bdR pr v p).2.2 || decide (0 < pRi pr (v (3 * p)) ∧ v (3 * p + 1) = 0))
def bdF (pr : Pr) (v : Vc) : Nat := if 0 < (bdR pr v (pP pr)).1 ∧ 1 < (bdR pr v (pP pr)).2.1 then 4 else if (bdR pr v (pP pr)).2.2 = true then 5 else 0
theorem bdR_le (pr : Pr) (v : Vc) : ∀ p, (bdR pr v p).1 ≤ p ∧ (bdR pr v p).2.1 ≤ p
  | 0 => ⟨Nat.le_refl 0, Nat.le_refl 0⟩
  | p + 1 => by
    have ih := bdR_le pr v p
    unfold bdR
    constructor
    · show _ + _ ≤ _
      split <;> omega
    · show _ + _ ≤ _
      split <;> omega
theorem bdF_le (pr : Pr) (v : Vc) : bdF pr v ≤ 5 := by unfold bdF; split <;> (try split) <;> decide
def quR (v : Vc) : Nat → Bool
  | 0 => v 15 == 0
  | p + 1 => quR v p && v (3 * p + 2) == 0
def quF (pr : Pr) (v : Vc) : Bool := quR v (pP pr)
def rg (lo hi : Nat) (x : Int32) : Option Nat := if x < nI lo ∨ nI hi < x then none else some x.toNatClampNeg
theorem rg_no {lo hi : Nat} {x : Int32} (h : x < nI lo ∨ nI hi < x) : rg lo hi x = none := by unfold rg; rw [if_pos h]
theorem rg_of {lo hi : Nat} {x : Int32} (hh : hi < 2 ^ 31) (hl : lo ≤ hi) (h1 : ¬ x < nI lo) (h2 : ¬ nI hi < x) : ∃ p, lo ≤ p ∧ p ≤ hi ∧ x = nI p ∧ rg lo hi x = some p := by
  have h3 : nI lo ≤ x := Int32.not_lt.mp h1
  have h4 : ¬ x < 0 := fun q => h1 (by
    have h5 : (0 : Int32) ≤ nI lo := nI_pos' (by omega)
    simp only [Int32.lt_iff_toInt_lt, Int32.le_iff_toInt_le] at *
    omega)
  obtain ⟨p, hp, rfl⟩ := nI_of h4
  rw [nx_lt (by omega) hp] at h2
  rw [nx_lt hp (by omega)] at h1
  refine ⟨p, by omega, by omega, rfl, ?_⟩
  unfold rg
  rw [if_neg (by rw [nx_lt hp (by omega), nx_lt (by omega) hp]; omega), nI_clamp hp]
theorem rg_lt {lo hi p : Nat} {x : Int32} (hh : hi < 2 ^ 31) (hl : lo ≤ hi) (h : rg lo hi x = some p) : lo ≤ p ∧ p ≤ hi ∧ x = nI p := by
  by_cases h1 : x < nI lo
  · rw [rg_no (Or.inl h1)] at h; cases h
  by_cases h2 : nI hi < x
  · rw [rg_no (Or.inr h2)] at h; cases h
  obtain ⟨q, g1, g2, g3, g4⟩ := rg_of hh hl h1 h2
  rw [g4] at h
  cases h
  exact ⟨g1, g2, g3⟩
set_option maxRecDepth 100000 in
set_option maxHeartbeats 4000000 in
theorem c_X11_badNow {σ : Sg} {pr : Pr} {v : Vc} (hp : PrM σ pr) (hk : PrOk pr) (hN : Vat σ 59 0 v) (hv : VOk pr v) : Sm 77 mX11_badNow [.ref 53] σ (qi fun r σ2 => r = nI (bdF pr v) ∧ σ2 = σ) := by
  refine Sm.of mk_X11_badNow (Nat.le_of_ble_eq_true rfl) rfl (fun X hX => ?_)
  have hP := hk.1
  have LP : ∀ m p, p + m = pP pr → ∀ (x5 : Option Value) (a b : Nat), a = (bdR pr v p).1 → b = (bdR pr v p).2.1 → Sw 77 mX11_badNow X (ZS 77 mX11_badNow (qi fun r σ2 => r = nI (bdF pr v) ∧ σ2 = σ) X) 9 [some (.ref 53), some (.int (nI a)), some (.int (nI b)), some (.int (nI (bdR pr v p).2.2.toNat)), some (.int (nI p)), x5] [] σ := by
    intro m
    induction m with
    | zero =>
      intro p hpm x5 a b ha hb
      have hle := bdR_le pr v p
      have hp4 : p = pP pr := by omega
      have hb9 : (bdR pr v p).2.2.toNat ≤ 1 := by cases (bdR pr v p).2.2 <;> decide
      refine s_iload hX dX11_badNow_9 rfl ?_
      refine s_aload_n hX dX11_badNow_11 rfl ?_
      refine s_getI (x := nI (pP pr)) hX dX11_badNow_12 fl_X11_7 rfl rfl (by omega) hp.1 ?_
      refine s_icmp_ge_n (tgt := 96) hX dX11_badNow_15 (by decide) (by omega) (by omega) (fun q15 => ?_) (fun q15 => ?_)
      · refine s_iload_n hX dX11_badNow_96 rfl ?_
        refine s_if_le_n (tgt := 109) hX dX11_badNow_97 (by decide) (by omega) (fun q97 => ?_) (fun q97 => ?_)
        · refine s_iload_n hX dX11_badNow_109 rfl ?_
          refine s_if_eq_n (tgt := 117) hX dX11_badNow_110 (by decide) (by omega) (fun q110 => ?_) (fun q110 => ?_)
          · refine s_iconst (v := nI 0) hX dX11_badNow_117 (by decide) ?_
            refine s_iret hX dX11_badNow_118 rfl rfl ?_
            refine ⟨?_, rfl⟩
            unfold bdF
            rw [← hp4]
            first
              | (rw [if_pos (by omega)])
              | (rw [if_neg (by omega), if_pos (tn1 q110)])
              | (rw [if_neg (by omega), if_neg (tn2 q110)])
          · refine s_iconst (v := nI 5) hX dX11_badNow_113 (by decide) ?_
            refine s_goto (tgt := 118) hX dX11_badNow_114 (by decide) ?_
            refine s_iret hX dX11_badNow_118 rfl rfl ?_
            refine ⟨?_, rfl⟩
            unfold bdF
            rw [← hp4]
            first
              | (rw [if_pos (by omega)])
              | (rw [if_neg (by omega), if_pos (tn1 q110)])
              | (rw [if_neg (by omega), if_neg (tn2 q110)])
        · refine s_iload_n hX dX11_badNow_100 rfl ?_
          refine s_iconst (v := nI 1) hX dX11_badNow_101 (by decide) ?_
          refine s_icmp_le_n (tgt := 109) hX dX11_badNow_102 (by decide) (by omega) (by omega) (fun q102 => ?_) (fun q102 => ?_)
          · refine s_iload_n hX dX11_badNow_109 rfl ?_
            refine s_if_eq_n (tgt := 117) hX dX11_badNow_110 (by decide) (by omega) (fun q110 => ?_) (fun q110 => ?_)
            · refine s_iconst (v := nI 0) hX dX11_badNow_117 (by decide) ?_
              refine s_iret hX dX11_badNow_118 rfl rfl ?_
              refine ⟨?_, rfl⟩
              unfold bdF
              rw [← hp4]
              first
                | (rw [if_pos (by omega)])
                | (rw [if_neg (by omega), if_pos (tn1 q110)])
                | (rw [if_neg (by omega), if_neg (tn2 q110)])
            · refine s_iconst (v := nI 5) hX dX11_badNow_113 (by decide) ?_
              refine s_goto (tgt := 118) hX dX11_badNow_114 (by decide) ?_
              refine s_iret hX dX11_badNow_118 rfl rfl ?_
              refine ⟨?_, rfl⟩
              unfold bdF
              rw [← hp4]
              first
                | (rw [if_pos (by omega)])
                | (rw [if_neg (by omega), if_pos (tn1 q110)])
                | (rw [if_neg (by omega), if_neg (tn2 q110)])
          · refine s_iconst (v := nI 4) hX dX11_badNow_105 (by decide) ?_
            refine s_goto (tgt := 118) hX dX11_badNow_106 (by decide) ?_
            refine s_iret hX dX11_badNow_118 rfl rfl ?_
            refine ⟨?_, rfl⟩
            unfold bdF
            rw [← hp4]
            first
              | (rw [if_pos (by omega)])
              | (rw [if_neg (by omega), if_pos (tn1 q110)])
              | (rw [if_neg (by omega), if_neg (tn2 q110)])
      · omega
    | succ m ih =>
      intro p hpm x5 a b ha hb
      have gp := hv.1 p (by omega)
      have hr := hk.2.2.1 (v (3 * p))
      have e55 := hp.2.2.1 (v (3 * p)) (by omega)
      have hle := bdR_le pr v p
      have hb9 : (bdR pr v p).2.2.toNat ≤ 1 := by cases (bdR pr v p).2.2 <;> decide
      have hs1 : (bdR pr v (p + 1)).1 = (bdR pr v p).1 + (if pRi pr (v (3 * p)) = 2 then 1 else 0) := rfl
      have hs2 : (bdR pr v (p + 1)).2.1 = (bdR pr v p).2.1 + (if 0 < pRi pr (v (3 * p)) then 1 else 0) := rfl
      have hs3 : (bdR pr v (p + 1)).2.2 = ((bdR pr v p).2.2 || decide (0 < pRi pr (v (3 * p)) ∧ v (3 * p + 1) = 0)) := rfl
      have ea : ∀ z, (z = a + 1 ∧ pRi pr (v (3 * p)) = 2) ∨ (z = a + 0 ∧ pRi pr (v (3 * p)) ≠ 2) → z = (bdR pr v (p + 1)).1 := by intro z hz; rw [hs1]; split <;> omega
      have eb : ∀ z, (z = b + 1 ∧ 0 < pRi pr (v (3 * p))) ∨ (z = b + 0 ∧ pRi pr (v (3 * p)) = 0) → z = (bdR pr v (p + 1)).2.1 := by intro z hz; rw [hs2]; split <;> omega
      have hx : ∀ t : Bool, t = (bdR pr v (p + 1)).2.2 → ∀ (x5 : Option Value) (a b : Nat), a = (bdR pr v (p + 1)).1 → b = (bdR pr v (p + 1)).2.1 → Sw 77 mX11_badNow X (ZS 77 mX11_badNow (qi fun r σ2 => r = nI (bdF pr v) ∧ σ2 = σ) X) 9 [some (.ref 53), some (.int (nI a)), some (.int (nI b)), some (.int (nI t.toNat)), some (.int (nI (p + 1))), x5] [] σ := fun t ht x5 a b h1 h2 => by rw [ht]; exact ih (p + 1) (by omega) x5 a b h1 h2
      refine s_iload hX dX11_badNow_9 rfl ?_
      refine s_aload_n hX dX11_badNow_11 rfl ?_
      refine s_getI (x := nI (pP pr)) hX dX11_badNow_12 fl_X11_7 rfl rfl (by omega) hp.1 ?_
      refine s_icmp_ge_n (tgt := 96) hX dX11_badNow_15 (by decide) (by omega) (by omega) (fun q15 => ?_) (fun q15 => ?_)
      · omega
      · refine s_aload_n hX dX11_badNow_18 rfl ?_
        refine s_getR hX dX11_badNow_19 fl_X11_17 rfl rfl (by omega) ?_
        refine s_aload_n hX dX11_badNow_22 rfl ?_
        refine s_getR hX dX11_badNow_23 fl_X11_30 rfl rfl (by omega) ?_
        refine s_iconst (v := nI 3) hX dX11_badNow_26 (by decide) ?_
        refine s_iload hX dX11_badNow_27 rfl ?_
        refine s_imul_n hX dX11_badNow_29 ?_
        refine s_iald (x := nI (v _)) hX dX11_badNow_30 rfl (by omega) (by omega) (by decide) (hN.at0 _ (by omega)) ?_
        refine s_iald (x := nI (pRi pr (v (3 * p)))) hX dX11_badNow_31 rfl (by omega) (by omega) (by decide) e55 ?_
        refine s_istore hX dX11_badNow_32 (Nat.le_of_ble_eq_true rfl) rfl st_6_5 ?_
        refine s_iload_n hX dX11_badNow_34 rfl ?_
        refine s_iload hX dX11_badNow_35 rfl ?_
        refine s_iconst (v := nI 2) hX dX11_badNow_37 (by decide) ?_
        refine s_icmp_ne_n (tgt := 45) hX dX11_badNow_38 (by decide) (by omega) (by omega) (fun q38 => ?_) (fun q38 => ?_)
        · refine s_iconst (v := nI 0) hX dX11_badNow_45 (by decide) ?_
          refine s_iadd_n hX dX11_badNow_46 ?_
          refine s_istore_n hX dX11_badNow_47 (Nat.le_of_ble_eq_true rfl) rfl st_6_1 ?_
          refine s_iload_n hX dX11_badNow_48 rfl ?_
          refine s_iload hX dX11_badNow_49 rfl ?_
          refine s_if_le_n (tgt := 58) hX dX11_badNow_51 (by decide) (by omega) (fun q51 => ?_) (fun q51 => ?_)
          · refine s_iconst (v := nI 0) hX dX11_badNow_58 (by decide) ?_
            refine s_iadd_n hX dX11_badNow_59 ?_
            refine s_istore_n hX dX11_badNow_60 (Nat.le_of_ble_eq_true rfl) rfl st_6_2 ?_
            refine s_iload_n hX dX11_badNow_61 rfl ?_
            refine s_if_ne_n (tgt := 84) hX dX11_badNow_62 (by decide) (by omega) (fun q62 => ?_) (fun q62 => ?_)
            · refine s_iconst (v := nI 1) hX dX11_badNow_84 (by decide) ?_
              refine s_goto (tgt := 89) hX dX11_badNow_85 (by decide) ?_
              refine s_istore_n hX dX11_badNow_89 (Nat.le_of_ble_eq_true rfl) rfl st_6_3 ?_
              refine s_iinc_n (c := 1) hX dX11_badNow_90 rfl (by decide) rfl st_6_4 ?_
              refine s_goto (tgt := 9) hX dX11_badNow_93 (by decide) ?_
              first
                | exact hx true (by rw [hs3, tn1 q62, Bool.true_or]) _ _ _ (ea _ (by omega)) (eb _ (by omega))
                | exact hx true (by rw [hs3, show decide (0 < pRi pr (v (3 * p)) ∧ v (3 * p + 1) = 0) = true from decide_eq_true (by omega), Bool.or_true]) _ _ _ (ea _ (by omega)) (eb _ (by omega))
                | exact hx false (by rw [hs3, tn0 q62, show decide (0 < pRi pr (v (3 * p)) ∧ v (3 * p + 1) = 0) = false from decide_eq_false (by omega), Bool.or_false]) _ _ _ (ea _ (by omega)) (eb _ (by omega))
            · refine s_iload hX dX11_badNow_65 rfl ?_
              refine s_if_le_n (tgt := 88) hX dX11_badNow_67 (by decide) (by omega) (fun q67 => ?_) (fun q67 => ?_)
              · refine s_iconst (v := nI 0) hX dX11_badNow_88 (by decide) ?_
                refine s_istore_n hX dX11_badNow_89 (Nat.le_of_ble_eq_true rfl) rfl st_6_3 ?_
                refine s_iinc_n (c := 1) hX dX11_badNow_90 rfl (by decide) rfl st_6_4 ?_
                refine s_goto (tgt := 9) hX dX11_badNow_93 (by decide) ?_
                first
                  | exact hx true (by rw [hs3, tn1 q62, Bool.true_or]) _ _ _ (ea _ (by omega)) (eb _ (by omega))
                  | exact hx true (by rw [hs3, show decide (0 < pRi pr (v (3 * p)) ∧ v (3 * p + 1) = 0) = true from decide_eq_true (by omega), Bool.or_true]) _ _ _ (ea _ (by omega)) (eb _ (by omega))
                  | exact hx false (by rw [hs3, tn0 q62, show decide (0 < pRi pr (v (3 * p)) ∧ v (3 * p + 1) = 0) = false from decide_eq_false (by omega), Bool.or_false]) _ _ _ (ea _ (by omega)) (eb _ (by omega))
              · refine s_aload_n hX dX11_badNow_70 rfl ?_
                refine s_getR hX dX11_badNow_71 fl_X11_30 rfl rfl (by omega) ?_
                refine s_iconst (v := nI 3) hX dX11_badNow_74 (by decide) ?_
                refine s_iload hX dX11_badNow_75 rfl ?_
                refine s_imul_n hX dX11_badNow_77 ?_
                refine s_iconst (v := nI 1) hX dX11_badNow_78 (by decide) ?_
                refine s_iadd_n hX dX11_badNow_79 ?_
                refine s_iald (x := nI (v _)) hX dX11_badNow_80 rfl (by omega) (by omega) (by decide) (hN.at0 _ (by omega)) ?_
                refine s_if_ne_n (tgt := 88) hX dX11_badNow_81 (by decide) (by omega) (fun q81 => ?_) (fun q81 => ?_)
                · refine s_iconst (v := nI 0) hX dX11_badNow_88 (by decide) ?_
                  refine s_istore_n hX dX11_badNow_89 (Nat.le_of_ble_eq_true rfl) rfl st_6_3 ?_
                  refine s_iinc_n (c := 1) hX dX11_badNow_90 rfl (by decide) rfl st_6_4 ?_
                  refine s_goto (tgt := 9) hX dX11_badNow_93 (by decide) ?_
                  first
                    | exact hx true (by rw [hs3, tn1 q62, Bool.true_or]) _ _ _ (ea _ (by omega)) (eb _ (by omega))
                    | exact hx true (by rw [hs3, show decide (0 < pRi pr (v (3 * p)) ∧ v (3 * p + 1) = 0) = true from decide_eq_true (by omega), Bool.or_true]) _ _ _ (ea _ (by omega)) (eb _ (by omega))
                    | exact hx false (by rw [hs3, tn0 q62, show decide (0 < pRi pr (v (3 * p)) ∧ v (3 * p + 1) = 0) = false from decide_eq_false (by omega), Bool.or_false]) _ _ _ (ea _ (by omega)) (eb _ (by omega))
                · refine s_iconst (v := nI 1) hX dX11_badNow_84 (by decide) ?_
                  refine s_goto (tgt := 89) hX dX11_badNow_85 (by decide) ?_
                  refine s_istore_n hX dX11_badNow_89 (Nat.le_of_ble_eq_true rfl) rfl st_6_3 ?_
                  refine s_iinc_n (c := 1) hX dX11_badNow_90 rfl (by decide) rfl st_6_4 ?_
                  refine s_goto (tgt := 9) hX dX11_badNow_93 (by decide) ?_
                  first
                    | exact hx true (by rw [hs3, tn1 q62, Bool.true_or]) _ _ _ (ea _ (by omega)) (eb _ (by omega))
                    | exact hx true (by rw [hs3, show decide (0 < pRi pr (v (3 * p)) ∧ v (3 * p + 1) = 0) = true from decide_eq_true (by omega), Bool.or_true]) _ _ _ (ea _ (by omega)) (eb _ (by omega))
                    | exact hx false (by rw [hs3, tn0 q62, show decide (0 < pRi pr (v (3 * p)) ∧ v (3 * p + 1) = 0) = false from decide_eq_false (by omega), Bool.or_false]) _ _ _ (ea _ (by omega)) (eb _ (by omega))
          · refine s_iconst (v := nI 1) hX dX11_badNow_54 (by decide) ?_
            refine s_goto (tgt := 59) hX dX11_badNow_55 (by decide) ?_
            refine s_iadd_n hX dX11_badNow_59 ?_
            refine s_istore_n hX dX11_badNow_60 (Nat.le_of_ble_eq_true rfl) rfl st_6_2 ?_
            refine s_iload_n hX dX11_badNow_61 rfl ?_
            refine s_if_ne_n (tgt := 84) hX dX11_badNow_62 (by decide) (by omega) (fun q62 => ?_) (fun q62 => ?_)
            · refine s_iconst (v := nI 1) hX dX11_badNow_84 (by decide) ?_
              refine s_goto (tgt := 89) hX dX11_badNow_85 (by decide) ?_
              refine s_istore_n hX dX11_badNow_89 (Nat.le_of_ble_eq_true rfl) rfl st_6_3 ?_
              refine s_iinc_n (c := 1) hX dX11_badNow_90 rfl (by decide) rfl st_6_4 ?_
              refine s_goto (tgt := 9) hX dX11_badNow_93 (by decide) ?_
              first
                | exact hx true (by rw [hs3, tn1 q62, Bool.true_or]) _ _ _ (ea _ (by omega)) (eb _ (by omega))
                | exact hx true (by rw [hs3, show decide (0 < pRi pr (v (3 * p)) ∧ v (3 * p + 1) = 0) = true from decide_eq_true (by omega), Bool.or_true]) _ _ _ (ea _ (by omega)) (eb _ (by omega))
                | exact hx false (by rw [hs3, tn0 q62, show decide (0 < pRi pr (v (3 * p)) ∧ v (3 * p + 1) = 0) = false from decide_eq_false (by omega), Bool.or_false]) _ _ _ (ea _ (by omega)) (eb _ (by omega))
            · refine s_iload hX dX11_badNow_65 rfl ?_
              refine s_if_le_n (tgt := 88) hX dX11_badNow_67 (by decide) (by omega) (fun q67 => ?_) (fun q67 => ?_)
              · refine s_iconst (v := nI 0) hX dX11_badNow_88 (by decide) ?_
                refine s_istore_n hX dX11_badNow_89 (Nat.le_of_ble_eq_true rfl) rfl st_6_3 ?_
                refine s_iinc_n (c := 1) hX dX11_badNow_90 rfl (by decide) rfl st_6_4 ?_
                refine s_goto (tgt := 9) hX dX11_badNow_93 (by decide) ?_
                first
                  | exact hx true (by rw [hs3, tn1 q62, Bool.true_or]) _ _ _ (ea _ (by omega)) (eb _ (by omega))
                  | exact hx true (by rw [hs3, show decide (0 < pRi pr (v (3 * p)) ∧ v (3 * p + 1) = 0) = true from decide_eq_true (by omega), Bool.or_true]) _ _ _ (ea _ (by omega)) (eb _ (by omega))
                  | exact hx false (by rw [hs3, tn0 q62, show decide (0 < pRi pr (v (3 * p)) ∧ v (3 * p + 1) = 0) = false from decide_eq_false (by omega), Bool.or_false]) _ _ _ (ea _ (by omega)) (eb _ (by omega))
              · refine s_aload_n hX dX11_badNow_70 rfl ?_
                refine s_getR hX dX11_badNow_71 fl_X11_30 rfl rfl (by omega) ?_
                refine s_iconst (v := nI 3) hX dX11_badNow_74 (by decide) ?_
                refine s_iload hX dX11_badNow_75 rfl ?_
                refine s_imul_n hX dX11_badNow_77 ?_
                refine s_iconst (v := nI 1) hX dX11_badNow_78 (by decide) ?_
                refine s_iadd_n hX dX11_badNow_79 ?_
                refine s_iald (x := nI (v _)) hX dX11_badNow_80 rfl (by omega) (by omega) (by decide) (hN.at0 _ (by omega)) ?_
                refine s_if_ne_n (tgt := 88) hX dX11_badNow_81 (by decide) (by omega) (fun q81 => ?_) (fun q81 => ?_)
                · refine s_iconst (v := nI 0) hX dX11_badNow_88 (by decide) ?_
                  refine s_istore_n hX dX11_badNow_89 (Nat.le_of_ble_eq_true rfl) rfl st_6_3 ?_
                  refine s_iinc_n (c := 1) hX dX11_badNow_90 rfl (by decide) rfl st_6_4 ?_
                  refine s_goto (tgt := 9) hX dX11_badNow_93 (by decide) ?_
                  first
                    | exact hx true (by rw [hs3, tn1 q62, Bool.true_or]) _ _ _ (ea _ (by omega)) (eb _ (by omega))
                    | exact hx true (by rw [hs3, show decide (0 < pRi pr (v (3 * p)) ∧ v (3 * p + 1) = 0) = true from decide_eq_true (by omega), Bool.or_true]) _ _ _ (ea _ (by omega)) (eb _ (by omega))
                    | exact hx false (by rw [hs3, tn0 q62, show decide (0 < pRi pr (v (3 * p)) ∧ v (3 * p + 1) = 0) = false from decide_eq_false (by omega), Bool.or_false]) _ _ _ (ea _ (by omega)) (eb _ (by omega))
                · refine s_iconst (v := nI 1) hX dX11_badNow_84 (by decide) ?_
                  refine s_goto (tgt := 89) hX dX11_badNow_85 (by decide) ?_
                  refine s_istore_n hX dX11_badNow_89 (Nat.le_of_ble_eq_true rfl) rfl st_6_3 ?_
                  refine s_iinc_n (c := 1) hX dX11_badNow_90 rfl (by decide) rfl st_6_4 ?_
                  refine s_goto (tgt := 9) hX dX11_badNow_93 (by decide) ?_
                  first
                    | exact hx true (by rw [hs3, tn1 q62, Bool.true_or]) _ _ _ (ea _ (by omega)) (eb _ (by omega))
                    | exact hx true (by rw [hs3, show decide (0 < pRi pr (v (3 * p)) ∧ v (3 * p + 1) = 0) = true from decide_eq_true (by omega), Bool.or_true]) _ _ _ (ea _ (by omega)) (eb _ (by omega))
                    | exact hx false (by rw [hs3, tn0 q62, show decide (0 < pRi pr (v (3 * p)) ∧ v (3 * p + 1) = 0) = false from decide_eq_false (by omega), Bool.or_false]) _ _ _ (ea _ (by omega)) (eb _ (by omega))
        · refine s_iconst (v := nI 1) hX dX11_badNow_41 (by decide) ?_
          refine s_goto (tgt := 46) hX dX11_badNow_42 (by decide) ?_
          refine s_iadd_n hX dX11_badNow_46 ?_
          refine s_istore_n hX dX11_badNow_47 (Nat.le_of_ble_eq_true rfl) rfl st_6_1 ?_
          refine s_iload_n hX dX11_badNow_48 rfl ?_
          refine s_iload hX dX11_badNow_49 rfl ?_
          refine s_if_le_n (tgt := 58) hX dX11_badNow_51 (by decide) (by omega) (fun q51 => ?_) (fun q51 => ?_)
          · refine s_iconst (v := nI 0) hX dX11_badNow_58 (by decide) ?_
            refine s_iadd_n hX dX11_badNow_59 ?_
            refine s_istore_n hX dX11_badNow_60 (Nat.le_of_ble_eq_true rfl) rfl st_6_2 ?_
            refine s_iload_n hX dX11_badNow_61 rfl ?_
            refine s_if_ne_n (tgt := 84) hX dX11_badNow_62 (by decide) (by omega) (fun q62 => ?_) (fun q62 => ?_)
            · refine s_iconst (v := nI 1) hX dX11_badNow_84 (by decide) ?_
              refine s_goto (tgt := 89) hX dX11_badNow_85 (by decide) ?_
              refine s_istore_n hX dX11_badNow_89 (Nat.le_of_ble_eq_true rfl) rfl st_6_3 ?_
              refine s_iinc_n (c := 1) hX dX11_badNow_90 rfl (by decide) rfl st_6_4 ?_
              refine s_goto (tgt := 9) hX dX11_badNow_93 (by decide) ?_
              first
                | exact hx true (by rw [hs3, tn1 q62, Bool.true_or]) _ _ _ (ea _ (by omega)) (eb _ (by omega))
                | exact hx true (by rw [hs3, show decide (0 < pRi pr (v (3 * p)) ∧ v (3 * p + 1) = 0) = true from decide_eq_true (by omega), Bool.or_true]) _ _ _ (ea _ (by omega)) (eb _ (by omega))
                | exact hx false (by rw [hs3, tn0 q62, show decide (0 < pRi pr (v (3 * p)) ∧ v (3 * p + 1) = 0) = false from decide_eq_false (by omega), Bool.or_false]) _ _ _ (ea _ (by omega)) (eb _ (by omega))
            · refine s_iload hX dX11_badNow_65 rfl ?_
              refine s_if_le_n (tgt := 88) hX dX11_badNow_67 (by decide) (by omega) (fun q67 => ?_) (fun q67 => ?_)
              · refine s_iconst (v := nI 0) hX dX11_badNow_88 (by decide) ?_
                refine s_istore_n hX dX11_badNow_89 (Nat.le_of_ble_eq_true rfl) rfl st_6_3 ?_
                refine s_iinc_n (c := 1) hX dX11_badNow_90 rfl (by decide) rfl st_6_4 ?_
                refine s_goto (tgt := 9) hX dX11_badNow_93 (by decide) ?_
                first
                  | exact hx true (by rw [hs3, tn1 q62, Bool.true_or]) _ _ _ (ea _ (by omega)) (eb _ (by omega))
                  | exact hx true (by rw [hs3, show decide (0 < pRi pr (v (3 * p)) ∧ v (3 * p + 1) = 0) = true from decide_eq_true (by omega), Bool.or_true]) _ _ _ (ea _ (by omega)) (eb _ (by omega))
                  | exact hx false (by rw [hs3, tn0 q62, show decide (0 < pRi pr (v (3 * p)) ∧ v (3 * p + 1) = 0) = false from decide_eq_false (by omega), Bool.or_false]) _ _ _ (ea _ (by omega)) (eb _ (by omega))
              · refine s_aload_n hX dX11_badNow_70 rfl ?_
                refine s_getR hX dX11_badNow_71 fl_X11_30 rfl rfl (by omega) ?_
                refine s_iconst (v := nI 3) hX dX11_badNow_74 (by decide) ?_
                refine s_iload hX dX11_badNow_75 rfl ?_
                refine s_imul_n hX dX11_badNow_77 ?_
                refine s_iconst (v := nI 1) hX dX11_badNow_78 (by decide) ?_
                refine s_iadd_n hX dX11_badNow_79 ?_
                refine s_iald (x := nI (v _)) hX dX11_badNow_80 rfl (by omega) (by omega) (by decide) (hN.at0 _ (by omega)) ?_
                refine s_if_ne_n (tgt := 88) hX dX11_badNow_81 (by decide) (by omega) (fun q81 => ?_) (fun q81 => ?_)
                · refine s_iconst (v := nI 0) hX dX11_badNow_88 (by decide) ?_
                  refine s_istore_n hX dX11_badNow_89 (Nat.le_of_ble_eq_true rfl) rfl st_6_3 ?_
                  refine s_iinc_n (c := 1) hX dX11_badNow_90 rfl (by decide) rfl st_6_4 ?_
                  refine s_goto (tgt := 9) hX dX11_badNow_93 (by decide) ?_
                  first
                    | exact hx true (by rw [hs3, tn1 q62, Bool.true_or]) _ _ _ (ea _ (by omega)) (eb _ (by omega))
                    | exact hx true (by rw [hs3, show decide (0 < pRi pr (v (3 * p)) ∧ v (3 * p + 1) = 0) = true from decide_eq_true (by omega), Bool.or_true]) _ _ _ (ea _ (by omega)) (eb _ (by omega))
                    | exact hx false (by rw [hs3, tn0 q62, show decide (0 < pRi pr (v (3 * p)) ∧ v (3 * p + 1) = 0) = false from decide_eq_false (by omega), Bool.or_false]) _ _ _ (ea _ (by omega)) (eb _ (by omega))
                · refine s_iconst (v := nI 1) hX dX11_badNow_84 (by decide) ?_
                  refine s_goto (tgt := 89) hX dX11_badNow_85 (by decide) ?_
                  refine s_istore_n hX dX11_badNow_89 (Nat.le_of_ble_eq_true rfl) rfl st_6_3 ?_
                  refine s_iinc_n (c := 1) hX dX11_badNow_90 rfl (by decide) rfl st_6_4 ?_
                  refine s_goto (tgt := 9) hX dX11_badNow_93 (by decide) ?_
                  first
                    | exact hx true (by rw [hs3, tn1 q62, Bool.true_or]) _ _ _ (ea _ (by omega)) (eb _ (by omega))
                    | exact hx true (by rw [hs3, show decide (0 < pRi pr (v (3 * p)) ∧ v (3 * p + 1) = 0) = true from decide_eq_true (by omega), Bool.or_true]) _ _ _ (ea _ (by omega)) (eb _ (by omega))
                    | exact hx false (by rw [hs3, tn0 q62, show decide (0 < pRi pr (v (3 * p)) ∧ v (3 * p + 1) = 0) = false from decide_eq_false (by omega), Bool.or_false]) _ _ _ (ea _ (by omega)) (eb _ (by omega))
          · refine s_iconst (v := nI 1) hX dX11_badNow_54 (by decide) ?_
            refine s_goto (tgt := 59) hX dX11_badNow_55 (by decide) ?_
            refine s_iadd_n hX dX11_badNow_59 ?_
            refine s_istore_n hX dX11_badNow_60 (Nat.le_of_ble_eq_true rfl) rfl st_6_2 ?_
            refine s_iload_n hX dX11_badNow_61 rfl ?_
            refine s_if_ne_n (tgt := 84) hX dX11_badNow_62 (by decide) (by omega) (fun q62 => ?_) (fun q62 => ?_)
            · refine s_iconst (v := nI 1) hX dX11_badNow_84 (by decide) ?_
              refine s_goto (tgt := 89) hX dX11_badNow_85 (by decide) ?_
              refine s_istore_n hX dX11_badNow_89 (Nat.le_of_ble_eq_true rfl) rfl st_6_3 ?_
              refine s_iinc_n (c := 1) hX dX11_badNow_90 rfl (by decide) rfl st_6_4 ?_
              refine s_goto (tgt := 9) hX dX11_badNow_93 (by decide) ?_
              first
                | exact hx true (by rw [hs3, tn1 q62, Bool.true_or]) _ _ _ (ea _ (by omega)) (eb _ (by omega))
                | exact hx true (by rw [hs3, show decide (0 < pRi pr (v (3 * p)) ∧ v (3 * p + 1) = 0) = true from decide_eq_true (by omega), Bool.or_true]) _ _ _ (ea _ (by omega)) (eb _ (by omega))
                | exact hx false (by rw [hs3, tn0 q62, show decide (0 < pRi pr (v (3 * p)) ∧ v (3 * p + 1) = 0) = false from decide_eq_false (by omega), Bool.or_false]) _ _ _ (ea _ (by omega)) (eb _ (by omega))
            · refine s_iload hX dX11_badNow_65 rfl ?_
              refine s_if_le_n (tgt := 88) hX dX11_badNow_67 (by decide) (by omega) (fun q67 => ?_) (fun q67 => ?_)
              · refine s_iconst (v := nI 0) hX dX11_badNow_88 (by decide) ?_
                refine s_istore_n hX dX11_badNow_89 (Nat.le_of_ble_eq_true rfl) rfl st_6_3 ?_
                refine s_iinc_n (c := 1) hX dX11_badNow_90 rfl (by decide) rfl st_6_4 ?_
                refine s_goto (tgt := 9) hX dX11_badNow_93 (by decide) ?_
                first
                  | exact hx true (by rw [hs3, tn1 q62, Bool.true_or]) _ _ _ (ea _ (by omega)) (eb _ (by omega))
                  | exact hx true (by rw [hs3, show decide (0 < pRi pr (v (3 * p)) ∧ v (3 * p + 1) = 0) = true from decide_eq_true (by omega), Bool.or_true]) _ _ _ (ea _ (by omega)) (eb _ (by omega))
                  | exact hx false (by rw [hs3, tn0 q62, show decide (0 < pRi pr (v (3 * p)) ∧ v (3 * p + 1) = 0) = false from decide_eq_false (by omega), Bool.or_false]) _ _ _ (ea _ (by omega)) (eb _ (by omega))
              · refine s_aload_n hX dX11_badNow_70 rfl ?_
                refine s_getR hX dX11_badNow_71 fl_X11_30 rfl rfl (by omega) ?_
                refine s_iconst (v := nI 3) hX dX11_badNow_74 (by decide) ?_
                refine s_iload hX dX11_badNow_75 rfl ?_
                refine s_imul_n hX dX11_badNow_77 ?_
                refine s_iconst (v := nI 1) hX dX11_badNow_78 (by decide) ?_
                refine s_iadd_n hX dX11_badNow_79 ?_
                refine s_iald (x := nI (v _)) hX dX11_badNow_80 rfl (by omega) (by omega) (by decide) (hN.at0 _ (by omega)) ?_
                refine s_if_ne_n (tgt := 88) hX dX11_badNow_81 (by decide) (by omega) (fun q81 => ?_) (fun q81 => ?_)
                · refine s_iconst (v := nI 0) hX dX11_badNow_88 (by decide) ?_
                  refine s_istore_n hX dX11_badNow_89 (Nat.le_of_ble_eq_true rfl) rfl st_6_3 ?_
                  refine s_iinc_n (c := 1) hX dX11_badNow_90 rfl (by decide) rfl st_6_4 ?_
                  refine s_goto (tgt := 9) hX dX11_badNow_93 (by decide) ?_
                  first
                    | exact hx true (by rw [hs3, tn1 q62, Bool.true_or]) _ _ _ (ea _ (by omega)) (eb _ (by omega))
                    | exact hx true (by rw [hs3, show decide (0 < pRi pr (v (3 * p)) ∧ v (3 * p + 1) = 0) = true from decide_eq_true (by omega), Bool.or_true]) _ _ _ (ea _ (by omega)) (eb _ (by omega))
                    | exact hx false (by rw [hs3, tn0 q62, show decide (0 < pRi pr (v (3 * p)) ∧ v (3 * p + 1) = 0) = false from decide_eq_false (by omega), Bool.or_false]) _ _ _ (ea _ (by omega)) (eb _ (by omega))
                · refine s_iconst (v := nI 1) hX dX11_badNow_84 (by decide) ?_
                  refine s_goto (tgt := 89) hX dX11_badNow_85 (by decide) ?_
                  refine s_istore_n hX dX11_badNow_89 (Nat.le_of_ble_eq_true rfl) rfl st_6_3 ?_
                  refine s_iinc_n (c := 1) hX dX11_badNow_90 rfl (by decide) rfl st_6_4 ?_
                  refine s_goto (tgt := 9) hX dX11_badNow_93 (by decide) ?_
                  first
                    | exact hx true (by rw [hs3, tn1 q62, Bool.true_or]) _ _ _ (ea _ (by omega)) (eb _ (by omega))
                    | exact hx true (by rw [hs3, show decide (0 < pRi pr (v (3 * p)) ∧ v (3 * p + 1) = 0) = true from decide_eq_true (by omega), Bool.or_true]) _ _ _ (ea _ (by omega)) (eb _ (by omega))
                    | exact hx false (by rw [hs3, tn0 q62, show decide (0 < pRi pr (v (3 * p)) ∧ v (3 * p + 1) = 0) = false from decide_eq_false (by omega), Bool.or_false]) _ _ _ (ea _ (by omega)) (eb _ (by omega))
  refine s_iconst (v := nI 0) hX dX11_badNow_0 (by decide) ?_
  refine s_istore_n hX dX11_badNow_1 (Nat.le_of_ble_eq_true rfl) rfl st_6_1 ?_
  refine s_iconst (v := nI 0) hX dX11_badNow_2 (by decide) ?_
  refine s_istore_n hX dX11_badNow_3 (Nat.le_of_ble_eq_true rfl) rfl st_6_2 ?_
  refine s_iconst (v := nI 0) hX dX11_badNow_4 (by decide) ?_
  refine s_istore_n hX dX11_badNow_5 (Nat.le_of_ble_eq_true rfl) rfl st_6_3 ?_
  refine s_iconst (v := nI 0) hX dX11_badNow_6 (by decide) ?_
  refine s_istore hX dX11_badNow_7 (Nat.le_of_ble_eq_true rfl) rfl st_6_4 ?_
  exact LP (pP pr) 0 (by omega) _ 0 0 rfl rfl
set_option maxRecDepth 100000 in
set_option maxHeartbeats 4000000 in
theorem c_X11_isQuiet {σ : Sg} {pr : Pr} {v : Vc} (hp : PrM σ pr) (hk : PrOk pr) (hN : Vat σ 59 0 v) (hv : VOk pr v) : Sm 77 mX11_isQuiet [.ref 53] σ (qi fun r σ2 => r = bI (quF pr v) ∧ σ2 = σ) := by
  refine Sm.of mk_X11_isQuiet (Nat.le_of_ble_eq_true rfl) rfl (fun X hX => ?_)
  have hP := hk.1
  have h15 := hv.2.2.2.2.1
  have LP : ∀ m p, p + m = pP pr → Sw 77 mX11_isQuiet X (ZS 77 mX11_isQuiet (qi fun r σ2 => r = bI (quF pr v) ∧ σ2 = σ) X) 18 [some (.ref 53), some (.int (nI (quR v p).toNat)), some (.int (nI p))] [] σ := by
    intro m
    induction m with
    | zero =>
      intro p hpm
      refine s_iload_n hX dX11_isQuiet_18 rfl ?_
      refine s_aload_n hX dX11_isQuiet_19 rfl ?_
      refine s_getI (x := nI (pP pr)) hX dX11_isQuiet_20 fl_X11_7 rfl rfl (by omega) hp.1 ?_
      refine s_icmp_ge_n (tgt := 55) hX dX11_isQuiet_23 (by decide) (by omega) (by omega) (fun q23 => ?_) (fun q23 => ?_)
      · refine s_iload_n hX dX11_isQuiet_55 rfl ?_
        refine s_zret hX dX11_isQuiet_56 rfl (bI_01 _) rfl ?_
        refine ⟨?_, rfl⟩
        unfold quF
        rw [← show p = pP pr by omega]
        rfl
      · omega
    | succ m ih =>
      intro p hpm
      have gp := hv.1 p (by omega)
      have hb9 : (quR v p).toNat ≤ 1 := by cases quR v p <;> decide
      have hs : quR v (p + 1) = (quR v p && v (3 * p + 2) == 0) := rfl
      refine s_iload_n hX dX11_isQuiet_18 rfl ?_
      refine s_aload_n hX dX11_isQuiet_19 rfl ?_
      refine s_getI (x := nI (pP pr)) hX dX11_isQuiet_20 fl_X11_7 rfl rfl (by omega) hp.1 ?_
      refine s_icmp_ge_n (tgt := 55) hX dX11_isQuiet_23 (by decide) (by omega) (by omega) (fun q23 => ?_) (fun q23 => ?_)
      · omega
      · refine s_iload_n hX dX11_isQuiet_26 rfl ?_
        refine s_if_eq_n (tgt := 47) hX dX11_isQuiet_27 (by decide) (by omega) (fun q27 => ?_) (fun q27 => ?_)
        · refine s_iconst (v := nI 0) hX dX11_isQuiet_47 (by decide) ?_
          refine s_istore_n hX dX11_isQuiet_48 (Nat.le_of_ble_eq_true rfl) rfl st_3_1 ?_
          refine s_iinc_n (c := 1) hX dX11_isQuiet_49 rfl (by decide) rfl st_3_2 ?_
          refine s_goto (tgt := 18) hX dX11_isQuiet_52 (by decide) ?_
          have hx := ih (p + 1) (by omega)
          rw [hs] at hx
          first
            | (have e1 : quR v p = false := by revert q27; cases quR v p <;> simp
               rw [e1, Bool.false_and] at hx
               exact hx)
            | (have e1 : quR v p = true := by revert q27; cases quR v p <;> simp
               have e2 : (v (3 * p + 2) == 0) = true := by simpa using q40
               rw [e1, e2] at hx
               exact hx)
            | (have e1 : quR v p = true := by revert q27; cases quR v p <;> simp
               have e2 : (v (3 * p + 2) == 0) = false := by simpa using q40
               rw [e1, e2] at hx
               exact hx)
        · refine s_aload_n hX dX11_isQuiet_30 rfl ?_
          refine s_getR hX dX11_isQuiet_31 fl_X11_30 rfl rfl (by omega) ?_
          refine s_iconst (v := nI 3) hX dX11_isQuiet_34 (by decide) ?_
          refine s_iload_n hX dX11_isQuiet_35 rfl ?_
          refine s_imul_n hX dX11_isQuiet_36 ?_
          refine s_iconst (v := nI 2) hX dX11_isQuiet_37 (by decide) ?_
          refine s_iadd_n hX dX11_isQuiet_38 ?_
          refine s_iald (x := nI (v _)) hX dX11_isQuiet_39 rfl (by omega) (by omega) (by decide) (hN.at0 _ (by omega)) ?_
          refine s_if_ne_n (tgt := 47) hX dX11_isQuiet_40 (by decide) (by omega) (fun q40 => ?_) (fun q40 => ?_)
          · refine s_iconst (v := nI 0) hX dX11_isQuiet_47 (by decide) ?_
            refine s_istore_n hX dX11_isQuiet_48 (Nat.le_of_ble_eq_true rfl) rfl st_3_1 ?_
            refine s_iinc_n (c := 1) hX dX11_isQuiet_49 rfl (by decide) rfl st_3_2 ?_
            refine s_goto (tgt := 18) hX dX11_isQuiet_52 (by decide) ?_
            have hx := ih (p + 1) (by omega)
            rw [hs] at hx
            first
              | (have e1 : quR v p = false := by revert q27; cases quR v p <;> simp
                 rw [e1, Bool.false_and] at hx
                 exact hx)
              | (have e1 : quR v p = true := by revert q27; cases quR v p <;> simp
                 have e2 : (v (3 * p + 2) == 0) = true := by simpa using q40
                 rw [e1, e2] at hx
                 exact hx)
              | (have e1 : quR v p = true := by revert q27; cases quR v p <;> simp
                 have e2 : (v (3 * p + 2) == 0) = false := by simpa using q40
                 rw [e1, e2] at hx
                 exact hx)
          · refine s_iconst (v := nI 1) hX dX11_isQuiet_43 (by decide) ?_
            refine s_goto (tgt := 48) hX dX11_isQuiet_44 (by decide) ?_
            refine s_istore_n hX dX11_isQuiet_48 (Nat.le_of_ble_eq_true rfl) rfl st_3_1 ?_
            refine s_iinc_n (c := 1) hX dX11_isQuiet_49 rfl (by decide) rfl st_3_2 ?_
            refine s_goto (tgt := 18) hX dX11_isQuiet_52 (by decide) ?_
            have hx := ih (p + 1) (by omega)
            rw [hs] at hx
            first
              | (have e1 : quR v p = false := by revert q27; cases quR v p <;> simp
                 rw [e1, Bool.false_and] at hx
                 exact hx)
              | (have e1 : quR v p = true := by revert q27; cases quR v p <;> simp
                 have e2 : (v (3 * p + 2) == 0) = true := by simpa using q40
                 rw [e1, e2] at hx
                 exact hx)
              | (have e1 : quR v p = true := by revert q27; cases quR v p <;> simp
                 have e2 : (v (3 * p + 2) == 0) = false := by simpa using q40
                 rw [e1, e2] at hx
                 exact hx)
  refine s_aload_n hX dX11_isQuiet_0 rfl ?_
  refine s_getR hX dX11_isQuiet_1 fl_X11_30 rfl rfl (by omega) ?_
  refine s_bipush (v := nI 15) hX dX11_isQuiet_4 (by decide) ?_
  refine s_iald (x := nI (v _)) hX dX11_isQuiet_6 rfl (by omega) (by omega) (by decide) (hN.at0 _ (by omega)) ?_
  refine s_if_ne_n (tgt := 14) hX dX11_isQuiet_7 (by decide) (by omega) (fun q7 => ?_) (fun q7 => ?_)
  · refine s_iconst (v := nI 0) hX dX11_isQuiet_14 (by decide) ?_
    refine s_istore_n hX dX11_isQuiet_15 (Nat.le_of_ble_eq_true rfl) rfl st_3_1 ?_
    refine s_iconst (v := nI 0) hX dX11_isQuiet_16 (by decide) ?_
    refine s_istore_n hX dX11_isQuiet_17 (Nat.le_of_ble_eq_true rfl) rfl st_3_2 ?_
    have hx := LP (pP pr) 0 (by omega)
    have hs : quR v 0 = (v 15 == 0) := rfl
    rw [hs] at hx
    first
      | (rw [show (v 15 == 0) = false from by simpa using q7] at hx; exact hx)
      | (rw [show (v 15 == 0) = true from by simpa using q7] at hx; exact hx)
  · refine s_iconst (v := nI 1) hX dX11_isQuiet_10 (by decide) ?_
    refine s_goto (tgt := 15) hX dX11_isQuiet_11 (by decide) ?_
    refine s_istore_n hX dX11_isQuiet_15 (Nat.le_of_ble_eq_true rfl) rfl st_3_1 ?_
    refine s_iconst (v := nI 0) hX dX11_isQuiet_16 (by decide) ?_
    refine s_istore_n hX dX11_isQuiet_17 (Nat.le_of_ble_eq_true rfl) rfl st_3_2 ?_
    have hx := LP (pP pr) 0 (by omega)
    have hs : quR v 0 = (v 15 == 0) := rfl
    rw [hs] at hx
    first
      | (rw [show (v 15 == 0) = false from by simpa using q7] at hx; exact hx)
      | (rw [show (v 15 == 0) = true from by simpa using q7] at hx; exact hx)
theorem Vat.copy {σ : Sg} {f t a b : Nat} {v : Vc} (h : Vat σ f a v) : Vat (wA σ t (va_cpy (σ f).1 (σ t).1 a b 56)) t b v := fun j hj => by
  rw [wA_f, pk_cpy_in (by omega) (by omega), show a + (b + j - b) = a + j by omega]
  exact h j hj
set_option maxRecDepth 100000 in
set_option maxHeartbeats 4000000 in
theorem c_X11_toRun {σ : Sg} {pr : Pr} {v : Vc} (hp : PrM σ pr) (hk : PrOk pr) (hN : Vat σ 60 0 v) (hv : VOk pr v) : Sm 77 mX11_toRun [.ref 53] σ (qv fun σ2 => StM σ2 (stepsF pr v) ∧ Vat σ2 59 0 v ∧ Fr 53 σ σ2 [59, 62, 63, 64, 65] [16]) := by
  refine Sm.of mk_X11_toRun (Nat.le_of_ble_eq_true rfl) rfl (fun X hX => ?_)
  refine s_aload_n hX dX11_toRun_0 rfl ?_
  refine s_getR hX dX11_toRun_1 fl_X11_33 rfl rfl (by omega) ?_
  refine s_iconst (v := nI 0) hX dX11_toRun_4 (by decide) ?_
  refine s_aload_n hX dX11_toRun_5 rfl ?_
  refine s_getR hX dX11_toRun_6 fl_X11_30 rfl rfl (by omega) ?_
  refine s_iconst (v := nI 0) hX dX11_toRun_9 (by decide) ?_
  refine s_callSv (as := [_, _, _, _]) hX dX11_toRun_10 mk_X11_copy lk_X11_94 (c_X11_copy (f := 60) (t := 59) (lf := 56) (lt := 56) (a := 0) (b := 0) rfl rfl (by decide) (by decide) (by decide) (by omega) (by omega) (by decide) (by decide)) rfl ⟨rfl, rfl⟩ (Nat.le_of_ble_eq_true rfl) (Nat.le_of_ble_eq_true rfl) (Nat.le_of_ble_eq_true rfl) rfl (fun σ10 p10 => ?_)
  subst p10
  have hV := hN.copy (t := 59) (b := 0)
  have hO : Off σ (wA σ 59 (va_cpy (σ 60).1 (σ 59).1 0 0 56)) [59] := Off.rf.wA (by decide)
  have hp1 := hp.off hO (by decide) (by decide) (by decide) (by decide) (by decide)
  refine s_aload_n hX dX11_toRun_13 rfl ?_
  refine s_callVv (as := []) hX dX11_toRun_14 mk_X11_findSteps lk_X11_160 (c_X11_findSteps hp1 hk hV hv) rfl (by omega) rfl rfl rfl ⟨rfl, rfl⟩ (Nat.le_of_ble_eq_true rfl) (Nat.le_of_ble_eq_true rfl) (Nat.le_of_ble_eq_true rfl) rfl (fun σ14 p14 => ?_)
  obtain ⟨hS, hf⟩ := p14
  refine s_vret hX dX11_toRun_17 rfl rfl ?_
  exact ⟨hS, FrN hV hf, (Fr.of hO (by decide) : Fr 53 _ _ [59] [16]).mono (by decide) (by decide) |>.trans (hf.mono (by decide) (by decide))⟩
def MdS (σ : Sg) (pr : Pr) (v : Vc) (ch : Bool) : Prop := PrM σ pr ∧ Vat σ 60 0 v ∧ (σ 53).1 33 = bI ch
abbrev FrS (σ σ2 : Sg) : Prop := Fr 53 σ σ2 [54, 55, 56, 57, 59, 60, 61, 62, 63, 64, 65] [0, 9, 10, 11, 16, 33, 34]
theorem MdS.fr {σ σ2 : Sg} {pr : Pr} {v : Vc} {ch : Bool} {S K : List Nat} (h : MdS σ pr v ch) (f : Fr 53 σ σ2 S K) (hs : 54 ∉ S ∧ 55 ∉ S ∧ 56 ∉ S ∧ 57 ∉ S ∧ 60 ∉ S) (hk : 0 ∉ K ∧ 33 ∉ K) : MdS σ2 pr v ch := ⟨h.1.fr f hk.1 hs.1 hs.2.1 hs.2.2.1 hs.2.2.2.1, h.2.1.fr f hs.2.2.2.2 (by decide), (f.2.1 33 hk.2).trans h.2.2⟩
set_option maxRecDepth 100000 in
set_option maxHeartbeats 4000000 in
theorem c_X11_changed {σ : Sg} {pr : Pr} (hp : PrM σ pr) : Sm 77 mX11_changed [.ref 53] σ (qv fun σ2 => MdS σ2 pr v0 true ∧ FrS σ σ2) := by
  refine Sm.of mk_X11_changed (Nat.le_of_ble_eq_true rfl) rfl (fun X hX => ?_)
  refine s_aload_n hX dX11_changed_0 rfl ?_
  refine s_iconst (v := nI 1) hX dX11_changed_1 (by decide) ?_
  refine s_putI hX dX11_changed_2 fl_X11_87 rfl rfl (by omega) rfl rfl ?_
  refine s_gen (fun σ1 e1 => ?_)
  have hf1 : FrS σ σ1 := by rw [e1]; exact Fr.rf.put (by decide)
  have h33 : (σ1 53).1 33 = bI true := by rw [e1, wI_s]; rfl
  have hp1 := hp.kept (σ2 := σ1) (by rw [e1, wI_k _ _ (by decide)]) (by rw [e1]; exact wI_a _ _ (by decide)) (by rw [e1]; exact wI_a _ _ (by decide)) (by rw [e1]; exact wI_a _ _ (by decide)) (by rw [e1]; exact wI_a _ _ (by decide))
  refine s_aload_n hX dX11_changed_5 rfl ?_
  refine s_callVv (as := []) hX dX11_changed_6 mk_X11_first lk_X11_91 (c_X11_first) rfl (by omega) rfl rfl rfl ⟨rfl, rfl⟩ (Nat.le_of_ble_eq_true rfl) (Nat.le_of_ble_eq_true rfl) (Nat.le_of_ble_eq_true rfl) rfl (fun σ6 p6 => ?_)
  obtain ⟨ho6, hV6⟩ := p6
  refine s_aload_n hX dX11_changed_9 rfl ?_
  refine s_getR hX dX11_changed_10 fl_X11_30 rfl rfl (by omega) ?_
  refine s_iconst (v := nI 0) hX dX11_changed_13 (by decide) ?_
  refine s_aload_n hX dX11_changed_14 rfl ?_
  refine s_getR hX dX11_changed_15 fl_X11_33 rfl rfl (by omega) ?_
  refine s_iconst (v := nI 0) hX dX11_changed_18 (by decide) ?_
  refine s_callSv (as := [_, _, _, _]) hX dX11_changed_19 mk_X11_copy lk_X11_94 (c_X11_copy (f := 59) (t := 60) (lf := 56) (lt := 56) (a := 0) (b := 0) rfl rfl (by decide) (by decide) (by decide) (by omega) (by omega) (by decide) (by decide)) rfl ⟨rfl, rfl⟩ (Nat.le_of_ble_eq_true rfl) (Nat.le_of_ble_eq_true rfl) (Nat.le_of_ble_eq_true rfl) rfl (fun σ19 p19 => ?_)
  subst p19
  have hV := hV6.copy (t := 60) (b := 0)
  have hO : Off σ6 (wA σ6 60 (va_cpy (σ6 59).1 (σ6 60).1 0 0 56)) [60] := Off.rf.wA (by decide)
  refine s_vret hX dX11_changed_22 rfl rfl ?_
  have hO2 : Off σ1 (wA σ6 60 (va_cpy (σ6 59).1 (σ6 60).1 0 0 56)) [59, 60] := (ho6.mono (by decide)).trans (hO.mono (by decide))
  exact ⟨⟨hp1.off hO2 (by decide) (by decide) (by decide) (by decide) (by decide), hV, by rw [hO2 53 (by decide)]; exact h33⟩, hf1.trans ((Fr.of hO2 (by decide) : Fr 53 _ _ [59, 60] []).mono (by decide) (by decide))⟩
set_option maxRecDepth 100000 in
set_option maxHeartbeats 4000000 in
theorem c_X11_processors {σ : Sg} {pr : Pr} {v : Vc} {ch : Bool} (h : MdS σ pr v ch) (x : Int32) : Sm 77 mX11_processors [.ref 53, .int x] σ (qi fun r σ2 => (match rg 1 4 x with
    | none => r = -1 ∧ MdS σ2 pr v ch
    | some p => r = nI (pP pr) ∧ MdS σ2 (p, pr.2) v0 true) ∧ FrS σ σ2) := by
  refine Sm.of mk_X11_processors (Nat.le_of_ble_eq_true rfl) rfl (fun X hX => ?_)
  refine s_iload_n hX dX11_processors_0 rfl ?_
  refine s_iconst (v := nI 1) hX dX11_processors_1 (by decide) ?_
  refine s_icmp_lt (tgt := 10) hX dX11_processors_2 (by decide) (fun q2 => ?_) (fun q2 => ?_)
  · refine s_iconst (v := -1) hX dX11_processors_10 (by decide) ?_
    refine s_iret hX dX11_processors_11 rfl rfl ?_
    rw [rg_no (by first | exact Or.inl q2 | exact Or.inr (Int32.not_le.mp q7))]
    exact ⟨⟨rfl, h⟩, Fr.rf⟩
  · refine s_iload_n hX dX11_processors_5 rfl ?_
    refine s_iconst (v := nI 4) hX dX11_processors_6 (by decide) ?_
    refine s_icmp_le (tgt := 12) hX dX11_processors_7 (by decide) (fun q7 => ?_) (fun q7 => ?_)
    · obtain ⟨p, hp1, hp4, rfl, hrg⟩ := rg_of (by decide) (by decide) q2 (Int32.not_lt.mpr q7)
      refine s_aload_n hX dX11_processors_12 rfl ?_
      refine s_getI (x := nI (pP pr)) hX dX11_processors_13 fl_X11_7 rfl rfl (by omega) h.1.1 ?_
      refine s_istore_n hX dX11_processors_16 (Nat.le_of_ble_eq_true rfl) rfl st_3_2 ?_
      refine s_aload_n hX dX11_processors_17 rfl ?_
      refine s_iload_n hX dX11_processors_18 rfl ?_
      refine s_putI hX dX11_processors_19 fl_X11_7 rfl rfl (by omega) rfl rfl ?_
      refine s_gen (fun σ1 e1 => ?_)
      have hf1 : FrS σ σ1 := by rw [e1]; exact Fr.rf.put (by decide)
      have hp1 : PrM σ1 (p, pr.2) := ⟨by rw [e1, wI_s], by rw [e1, wI_a _ _ (by decide)]; exact h.1.2.1, by rw [e1, wI_a _ _ (by decide)]; exact h.1.2.2.1, by rw [e1, wI_a _ _ (by decide)]; exact h.1.2.2.2.1, by rw [e1, wI_a _ _ (by decide)]; exact h.1.2.2.2.2⟩
      refine s_aload_n hX dX11_processors_22 rfl ?_
      refine s_callVv (as := []) hX dX11_processors_23 mk_X11_changed lk_X11_98 (c_X11_changed hp1) rfl (by omega) rfl rfl rfl ⟨rfl, rfl⟩ (Nat.le_of_ble_eq_true rfl) (Nat.le_of_ble_eq_true rfl) (Nat.le_of_ble_eq_true rfl) rfl (fun σ23 p23 => ?_)
      obtain ⟨hM, hf2⟩ := p23
      refine s_iload_n hX dX11_processors_26 rfl ?_
      refine s_iret hX dX11_processors_27 rfl rfl ?_
      rw [hrg]
      exact ⟨⟨rfl, hM⟩, hf1.trans hf2⟩
    · refine s_iconst (v := -1) hX dX11_processors_10 (by decide) ?_
      refine s_iret hX dX11_processors_11 rfl rfl ?_
      rw [rg_no (by first | exact Or.inl q2 | exact Or.inr (Int32.not_le.mp q7))]
      exact ⟨⟨rfl, h⟩, Fr.rf⟩
set_option maxRecDepth 100000 in
set_option maxHeartbeats 4000000 in
theorem c_X11_net {σ : Sg} {pr : Pr} {v : Vc} {ch : Bool} (h : MdS σ pr v ch) (x y : Int32) : Sm 77 mX11_net [.ref 53, .int x, .int y] σ (qi fun r σ2 => (match rg 0 15 x, rg 0 1 y with
    | some p, some q => r = nI (pLo pr p) ∧ MdS σ2 (pP pr, vset (pLo pr) p q, pr.2.2) v0 true
    | _, _ => r = -1 ∧ MdS σ2 pr v ch) ∧ FrS σ σ2) := by
  refine Sm.of mk_X11_net (Nat.le_of_ble_eq_true rfl) rfl (fun X hX => ?_)
  refine s_iload_n hX dX11_net_0 rfl ?_
  refine s_if_lt (tgt := 19) hX dX11_net_1 (by decide) (fun q1 => ?_) (fun q1 => ?_)
  · refine s_iconst (v := -1) hX dX11_net_19 (by decide) ?_
    refine s_iret hX dX11_net_20 rfl rfl ?_
    have hz : rg 0 15 x = none ∨ rg 0 1 y = none := by
      first
        | exact Or.inl (rg_no (Or.inl q1))
        | exact Or.inl (rg_no (Or.inr q7))
        | exact Or.inr (rg_no (Or.inl q11))
        | exact Or.inr (rg_no (Or.inr (Int32.not_le.mp q16)))
    rcases hz with hz | hz
    · rw [hz]; exact ⟨⟨rfl, h⟩, Fr.rf⟩
    · rw [hz]
      cases rg 0 15 x <;> exact ⟨⟨rfl, h⟩, Fr.rf⟩
  · refine s_iload_n hX dX11_net_4 rfl ?_
    refine s_bipush (v := nI 15) hX dX11_net_5 (by decide) ?_
    refine s_icmp_gt (tgt := 19) hX dX11_net_7 (by decide) (fun q7 => ?_) (fun q7 => ?_)
    · refine s_iconst (v := -1) hX dX11_net_19 (by decide) ?_
      refine s_iret hX dX11_net_20 rfl rfl ?_
      have hz : rg 0 15 x = none ∨ rg 0 1 y = none := by
        first
          | exact Or.inl (rg_no (Or.inl q1))
          | exact Or.inl (rg_no (Or.inr q7))
          | exact Or.inr (rg_no (Or.inl q11))
          | exact Or.inr (rg_no (Or.inr (Int32.not_le.mp q16)))
      rcases hz with hz | hz
      · rw [hz]; exact ⟨⟨rfl, h⟩, Fr.rf⟩
      · rw [hz]
        cases rg 0 15 x <;> exact ⟨⟨rfl, h⟩, Fr.rf⟩
    · refine s_iload_n hX dX11_net_10 rfl ?_
      refine s_if_lt (tgt := 19) hX dX11_net_11 (by decide) (fun q11 => ?_) (fun q11 => ?_)
      · refine s_iconst (v := -1) hX dX11_net_19 (by decide) ?_
        refine s_iret hX dX11_net_20 rfl rfl ?_
        have hz : rg 0 15 x = none ∨ rg 0 1 y = none := by
          first
            | exact Or.inl (rg_no (Or.inl q1))
            | exact Or.inl (rg_no (Or.inr q7))
            | exact Or.inr (rg_no (Or.inl q11))
            | exact Or.inr (rg_no (Or.inr (Int32.not_le.mp q16)))
        rcases hz with hz | hz
        · rw [hz]; exact ⟨⟨rfl, h⟩, Fr.rf⟩
        · rw [hz]
          cases rg 0 15 x <;> exact ⟨⟨rfl, h⟩, Fr.rf⟩
      · refine s_iload_n hX dX11_net_14 rfl ?_
        refine s_iconst (v := nI 1) hX dX11_net_15 (by decide) ?_
        refine s_icmp_le (tgt := 21) hX dX11_net_16 (by decide) (fun q16 => ?_) (fun q16 => ?_)
        · obtain ⟨p, -, hp4, rfl, hrg⟩ := rg_of (lo := 0) (by decide) (by decide) q1 q7
          obtain ⟨q, -, hq4, rfl, hrh⟩ := rg_of (lo := 0) (hi := 1) (by decide) (by decide) q11 (Int32.not_lt.mpr q16)
          refine s_aload_n hX dX11_net_21 rfl ?_
          refine s_getR hX dX11_net_22 fl_X11_13 rfl rfl (by omega) ?_
          refine s_iload_n hX dX11_net_25 rfl ?_
          refine s_iald (x := nI (pLo pr p)) hX dX11_net_26 rfl (by omega) (by omega) (by decide) (h.1.2.1 p (by omega)) ?_
          refine s_istore_n hX dX11_net_27 (Nat.le_of_ble_eq_true rfl) rfl st_4_3 ?_
          refine s_aload_n hX dX11_net_28 rfl ?_
          refine s_getR hX dX11_net_29 fl_X11_13 rfl rfl (by omega) ?_
          refine s_iload_n hX dX11_net_32 rfl ?_
          refine s_iload_n hX dX11_net_33 rfl ?_
          refine s_iast hX dX11_net_34 rfl (by omega) (by omega) (by decide) ?_
          refine s_gen (fun σ1 e1 => ?_)
          have hf1 : FrS σ σ1 := by rw [e1]; exact Fr.rf.wI (by decide) (by decide)
          have hp1 : PrM σ1 (pP pr, vset (pLo pr) p q, pr.2.2) := ⟨by rw [e1, wI_a _ _ (by decide)]; exact h.1.1, fun k hk => by
      by_cases e : k = p
      · subst e; rw [e1, wI_s]; exact congrArg nI (vset_s _ _ _).symm
      · rw [e1, wI_k _ _ e, h.1.2.1 k hk]; exact congrArg nI (vset_n _ _ e).symm, by rw [e1, wI_a _ _ (by decide)]; exact h.1.2.2.1, by rw [e1, wI_a _ _ (by decide)]; exact h.1.2.2.2.1, by rw [e1, wI_a _ _ (by decide)]; exact h.1.2.2.2.2⟩
          refine s_aload_n hX dX11_net_35 rfl ?_
          refine s_callVv (as := []) hX dX11_net_36 mk_X11_changed lk_X11_98 (c_X11_changed hp1) rfl (by omega) rfl rfl rfl ⟨rfl, rfl⟩ (Nat.le_of_ble_eq_true rfl) (Nat.le_of_ble_eq_true rfl) (Nat.le_of_ble_eq_true rfl) rfl (fun σ36 p36 => ?_)
          obtain ⟨hM, hf2⟩ := p36
          refine s_iload_n hX dX11_net_39 rfl ?_
          refine s_iret hX dX11_net_40 rfl rfl ?_
          rw [hrg, hrh]
          exact ⟨⟨rfl, hM⟩, hf1.trans hf2⟩
        · refine s_iconst (v := -1) hX dX11_net_19 (by decide) ?_
          refine s_iret hX dX11_net_20 rfl rfl ?_
          have hz : rg 0 15 x = none ∨ rg 0 1 y = none := by
            first
              | exact Or.inl (rg_no (Or.inl q1))
              | exact Or.inl (rg_no (Or.inr q7))
              | exact Or.inr (rg_no (Or.inl q11))
              | exact Or.inr (rg_no (Or.inr (Int32.not_le.mp q16)))
          rcases hz with hz | hz
          · rw [hz]; exact ⟨⟨rfl, h⟩, Fr.rf⟩
          · rw [hz]
            cases rg 0 15 x <;> exact ⟨⟨rfl, h⟩, Fr.rf⟩
set_option maxRecDepth 100000 in
set_option maxHeartbeats 4000000 in
theorem c_X11_right {σ : Sg} {pr : Pr} {v : Vc} {ch : Bool} (h : MdS σ pr v ch) (x y : Int32) : Sm 77 mX11_right [.ref 53, .int x, .int y] σ (qi fun r σ2 => (match rg 0 15 x, rg 0 2 y with
    | some p, some q => r = nI (pRi pr p) ∧ MdS σ2 (pP pr, pLo pr, vset (pRi pr) p q, pr.2.2.2) v0 true
    | _, _ => r = -1 ∧ MdS σ2 pr v ch) ∧ FrS σ σ2) := by
  refine Sm.of mk_X11_right (Nat.le_of_ble_eq_true rfl) rfl (fun X hX => ?_)
  refine s_iload_n hX dX11_right_0 rfl ?_
  refine s_if_lt (tgt := 19) hX dX11_right_1 (by decide) (fun q1 => ?_) (fun q1 => ?_)
  · refine s_iconst (v := -1) hX dX11_right_19 (by decide) ?_
    refine s_iret hX dX11_right_20 rfl rfl ?_
    have hz : rg 0 15 x = none ∨ rg 0 2 y = none := by
      first
        | exact Or.inl (rg_no (Or.inl q1))
        | exact Or.inl (rg_no (Or.inr q7))
        | exact Or.inr (rg_no (Or.inl q11))
        | exact Or.inr (rg_no (Or.inr (Int32.not_le.mp q16)))
    rcases hz with hz | hz
    · rw [hz]; exact ⟨⟨rfl, h⟩, Fr.rf⟩
    · rw [hz]
      cases rg 0 15 x <;> exact ⟨⟨rfl, h⟩, Fr.rf⟩
  · refine s_iload_n hX dX11_right_4 rfl ?_
    refine s_bipush (v := nI 15) hX dX11_right_5 (by decide) ?_
    refine s_icmp_gt (tgt := 19) hX dX11_right_7 (by decide) (fun q7 => ?_) (fun q7 => ?_)
    · refine s_iconst (v := -1) hX dX11_right_19 (by decide) ?_
      refine s_iret hX dX11_right_20 rfl rfl ?_
      have hz : rg 0 15 x = none ∨ rg 0 2 y = none := by
        first
          | exact Or.inl (rg_no (Or.inl q1))
          | exact Or.inl (rg_no (Or.inr q7))
          | exact Or.inr (rg_no (Or.inl q11))
          | exact Or.inr (rg_no (Or.inr (Int32.not_le.mp q16)))
      rcases hz with hz | hz
      · rw [hz]; exact ⟨⟨rfl, h⟩, Fr.rf⟩
      · rw [hz]
        cases rg 0 15 x <;> exact ⟨⟨rfl, h⟩, Fr.rf⟩
    · refine s_iload_n hX dX11_right_10 rfl ?_
      refine s_if_lt (tgt := 19) hX dX11_right_11 (by decide) (fun q11 => ?_) (fun q11 => ?_)
      · refine s_iconst (v := -1) hX dX11_right_19 (by decide) ?_
        refine s_iret hX dX11_right_20 rfl rfl ?_
        have hz : rg 0 15 x = none ∨ rg 0 2 y = none := by
          first
            | exact Or.inl (rg_no (Or.inl q1))
            | exact Or.inl (rg_no (Or.inr q7))
            | exact Or.inr (rg_no (Or.inl q11))
            | exact Or.inr (rg_no (Or.inr (Int32.not_le.mp q16)))
        rcases hz with hz | hz
        · rw [hz]; exact ⟨⟨rfl, h⟩, Fr.rf⟩
        · rw [hz]
          cases rg 0 15 x <;> exact ⟨⟨rfl, h⟩, Fr.rf⟩
      · refine s_iload_n hX dX11_right_14 rfl ?_
        refine s_iconst (v := nI 2) hX dX11_right_15 (by decide) ?_
        refine s_icmp_le (tgt := 21) hX dX11_right_16 (by decide) (fun q16 => ?_) (fun q16 => ?_)
        · obtain ⟨p, -, hp4, rfl, hrg⟩ := rg_of (lo := 0) (by decide) (by decide) q1 q7
          obtain ⟨q, -, hq4, rfl, hrh⟩ := rg_of (lo := 0) (hi := 2) (by decide) (by decide) q11 (Int32.not_lt.mpr q16)
          refine s_aload_n hX dX11_right_21 rfl ?_
          refine s_getR hX dX11_right_22 fl_X11_17 rfl rfl (by omega) ?_
          refine s_iload_n hX dX11_right_25 rfl ?_
          refine s_iald (x := nI (pRi pr p)) hX dX11_right_26 rfl (by omega) (by omega) (by decide) (h.1.2.2.1 p (by omega)) ?_
          refine s_istore_n hX dX11_right_27 (Nat.le_of_ble_eq_true rfl) rfl st_4_3 ?_
          refine s_aload_n hX dX11_right_28 rfl ?_
          refine s_getR hX dX11_right_29 fl_X11_17 rfl rfl (by omega) ?_
          refine s_iload_n hX dX11_right_32 rfl ?_
          refine s_iload_n hX dX11_right_33 rfl ?_
          refine s_iast hX dX11_right_34 rfl (by omega) (by omega) (by decide) ?_
          refine s_gen (fun σ1 e1 => ?_)
          have hf1 : FrS σ σ1 := by rw [e1]; exact Fr.rf.wI (by decide) (by decide)
          have hp1 : PrM σ1 (pP pr, pLo pr, vset (pRi pr) p q, pr.2.2.2) := ⟨by rw [e1, wI_a _ _ (by decide)]; exact h.1.1, by rw [e1, wI_a _ _ (by decide)]; exact h.1.2.1, fun k hk => by
      by_cases e : k = p
      · subst e; rw [e1, wI_s]; exact congrArg nI (vset_s _ _ _).symm
      · rw [e1, wI_k _ _ e, h.1.2.2.1 k hk]; exact congrArg nI (vset_n _ _ e).symm, by rw [e1, wI_a _ _ (by decide)]; exact h.1.2.2.2.1, by rw [e1, wI_a _ _ (by decide)]; exact h.1.2.2.2.2⟩
          refine s_aload_n hX dX11_right_35 rfl ?_
          refine s_callVv (as := []) hX dX11_right_36 mk_X11_changed lk_X11_98 (c_X11_changed hp1) rfl (by omega) rfl rfl rfl ⟨rfl, rfl⟩ (Nat.le_of_ble_eq_true rfl) (Nat.le_of_ble_eq_true rfl) (Nat.le_of_ble_eq_true rfl) rfl (fun σ36 p36 => ?_)
          obtain ⟨hM, hf2⟩ := p36
          refine s_iload_n hX dX11_right_39 rfl ?_
          refine s_iret hX dX11_right_40 rfl rfl ?_
          rw [hrg, hrh]
          exact ⟨⟨rfl, hM⟩, hf1.trans hf2⟩
        · refine s_iconst (v := -1) hX dX11_right_19 (by decide) ?_
          refine s_iret hX dX11_right_20 rfl rfl ?_
          have hz : rg 0 15 x = none ∨ rg 0 2 y = none := by
            first
              | exact Or.inl (rg_no (Or.inl q1))
              | exact Or.inl (rg_no (Or.inr q7))
              | exact Or.inr (rg_no (Or.inl q11))
              | exact Or.inr (rg_no (Or.inr (Int32.not_le.mp q16)))
          rcases hz with hz | hz
          · rw [hz]; exact ⟨⟨rfl, h⟩, Fr.rf⟩
          · rw [hz]
            cases rg 0 15 x <;> exact ⟨⟨rfl, h⟩, Fr.rf⟩
