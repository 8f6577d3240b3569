theorem lgc {x y : Int64} : lg_cmp x y = 0 ↔ x = y := by
  unfold lg_cmp
  by_cases h : x > y
  · rw [if_pos h]
    constructor
    · intro q; exact absurd q (by decide)
    · intro q; subst q; exact absurd h (by simp [Int64.lt_iff_toInt_lt])
  · rw [if_neg h]
    by_cases e : x = y
    · rw [if_pos e]; exact ⟨fun _ => e, fun _ => rfl⟩
    · rw [if_neg e]; exact ⟨fun q => absurd q (by decide), fun q => absurd q e⟩
def BdM (σ : Sg) (l : List (Nat × Nat × Option Nat)) : Prop := (σ 53).1 27 = nI l.length ∧ ∀ (i : Nat) (t : Nat × Nat × Option Nat), l[i]? = some t → i < 200 → (σ 74).1 i = nI t.1 ∧ (σ 75).1 i = nI t.2.1 ∧ (σ 76).1 i = amv t.2.2
def WkM (σ : Sg) (pr : Pr) (W : Wk) (vis : Nat) : Prop := ((σ 53).1 25 = nI (kM W) ∧ (σ 53).1 26 = nI (kT W) ∧ (σ 53).1 31 = nI (qcR pr (kV W) (kM W)) ∧ (σ 53).1 32 = bI (kS W)) ∧ (∀ n, n < kM W → Vat σ 66 (56 * n) (kV W n) ∧ (σ 67).2 n = smR (kV W n) 56 ∧ (σ 70).1 n = nI (kF W n)) ∧ (∀ n, 0 < n → n < kM W → (σ 68).1 n = nI (kP W n).1 ∧ (σ 69).1 n = nI (kP W n).2) ∧ (∀ n i, n < vis → i < 20 → (σ 71).1 (20 * n + i) = amv (kN W n i)) ∧ (∀ n, n < vis → (σ 72).1 n = bI (skF pr (kV W n))) ∧ (∀ a, a < 2048 → (σ 58).1 a = bI (kU W a)) ∧ BdM σ (kB W)
theorem BdM.fr {σ σ2 : Sg} {l : List (Nat × Nat × Option Nat)} {S K : List Nat} (h : BdM σ l) (f : Fr 53 σ σ2 S K) (hk : 27 ∉ K) (hs : 74 ∉ S ∧ 75 ∉ S ∧ 76 ∉ S) : BdM σ2 l := ⟨(f.2.1 27 hk).trans h.1, by rw [f.1 74 hs.1 (by decide), f.1 75 hs.2.1 (by decide), f.1 76 hs.2.2 (by decide)]; exact h.2⟩
theorem WkM.fr {σ σ2 : Sg} {pr : Pr} {W : Wk} {vis : Nat} {S K : List Nat} (h : WkM σ pr W vis) (f : Fr 53 σ σ2 S K) (hk : 25 ∉ K ∧ 26 ∉ K ∧ 27 ∉ K ∧ 31 ∉ K ∧ 32 ∉ K) (hs : 58 ∉ S ∧ 66 ∉ S ∧ 67 ∉ S ∧ 68 ∉ S ∧ 69 ∉ S ∧ 70 ∉ S ∧ 71 ∉ S ∧ 72 ∉ S ∧ 74 ∉ S ∧ 75 ∉ S ∧ 76 ∉ S) : WkM σ2 pr W vis := by
  obtain ⟨⟨a1, a2, a3, a4⟩, b, c, d, e, g, i⟩ := h
  obtain ⟨s58, s66, s67, s68, s69, s70, s71, s72, s74, s75, s76⟩ := hs
  refine ⟨⟨(f.2.1 25 hk.1).trans a1, (f.2.1 26 hk.2.1).trans a2, (f.2.1 31 hk.2.2.2.1).trans a3, (f.2.1 32 hk.2.2.2.2).trans a4⟩, fun n hn => ⟨(b n hn).1.kept (f.1 66 s66 (by decide)), by rw [f.1 67 s67 (by decide)]; exact (b n hn).2.1, by rw [f.1 70 s70 (by decide)]; exact (b n hn).2.2⟩, ?_, ?_, ?_, ?_, i.fr f hk.2.2.1 ⟨s74, s75, s76⟩⟩
  · rw [f.1 68 s68 (by decide), f.1 69 s69 (by decide)]; exact c
  · rw [f.1 71 s71 (by decide)]; exact d
  · rw [f.1 72 s72 (by decide)]; exact e
  · rw [f.1 58 s58 (by decide)]; exact g
set_option maxRecDepth 100000 in
set_option maxHeartbeats 4000000 in
theorem c_X11_sumOf {σ : Sg} {v : Vc} (hN : Vat σ 59 0 v) : Sm 77 mX11_sumOf [.ref 59] σ (ql fun r σ2 => r = smR v 56 ∧ σ2 = σ) := by
  refine Sm.of mk_X11_sumOf (Nat.le_of_ble_eq_true rfl) rfl (fun X hX => ?_)
  have LP : ∀ d k, k + d = 56 → Sw 77 mX11_sumOf X (ZS 77 mX11_sumOf (ql fun r σ2 => r = smR v 56 ∧ σ2 = σ) X) 4 [some (.ref 59), some (.long (smR v k)), none, some (.int (nI k))] [] σ := by
    intro d
    induction d with
    | zero =>
      intro k hd
      refine s_iload_n hX dX11_sumOf_4 rfl ?_
      refine s_bipush (v := nI 56) hX dX11_sumOf_5 (by decide) ?_
      refine s_icmp_ge_n (tgt := 27) hX dX11_sumOf_7 (by decide) (by omega) (by omega) (fun q7 => ?_) (fun q7 => ?_)
      · refine s_lload_n hX dX11_sumOf_27 rfl ?_
        refine s_lret hX dX11_sumOf_28 rfl rfl ?_
        rw [show k = 56 by omega]
        exact ⟨rfl, rfl⟩
      · omega
    | succ d ih =>
      intro k hd
      refine s_iload_n hX dX11_sumOf_4 rfl ?_
      refine s_bipush (v := nI 56) hX dX11_sumOf_5 (by decide) ?_
      refine s_icmp_ge_n (tgt := 27) hX dX11_sumOf_7 (by decide) (by omega) (by omega) (fun q7 => ?_) (fun q7 => ?_)
      · omega
      · refine s_ldc2 (v := (31)) hX dX11_sumOf_10 (tb_at 1136 (by decide +kernel) rfl) ?_
        refine s_lload_n hX dX11_sumOf_13 rfl ?_
        refine s_lmul hX dX11_sumOf_14 ?_
        refine s_aload_n hX dX11_sumOf_15 rfl ?_
        refine s_iload_n hX dX11_sumOf_16 rfl ?_
        refine s_iald (x := nI (v _)) hX dX11_sumOf_17 rfl (by omega) (by omega) (by decide) (hN.at0 _ (by omega)) ?_
        refine s_i2l hX dX11_sumOf_18 ?_
        refine s_ladd hX dX11_sumOf_19 ?_
        refine s_lstore_n hX dX11_sumOf_20 (Nat.le_of_ble_eq_true rfl) rfl sl_4_1 ?_
        refine s_iinc_n (c := 1) hX dX11_sumOf_21 rfl (by decide) rfl st_4_3 ?_
        refine s_goto (tgt := 4) hX dX11_sumOf_24 (by decide) ?_
        exact ih (k + 1) (by omega)
  refine s_lconst (v := lN 0) hX dX11_sumOf_0 (by decide) ?_
  refine s_lstore_n hX dX11_sumOf_1 (Nat.le_of_ble_eq_true rfl) rfl sl_4_1 ?_
  refine s_iconst (v := nI 0) hX dX11_sumOf_2 (by decide) ?_
  refine s_istore_n hX dX11_sumOf_3 (Nat.le_of_ble_eq_true rfl) rfl st_4_3 ?_
  exact LP 56 0 (by omega)
set_option maxRecDepth 100000 in
set_option maxHeartbeats 4000000 in
theorem c_X11_numberOf {σ : Sg} {pr : Pr} {W : Wk} {vis : Nat} {v : Vc} (hW : WkM σ pr W vis) (hM : kM W ≤ 4000) (hN : Vat σ 59 0 v) (hb : ∀ n j, n < kM W → j < 56 → kV W n j < 2 ^ 31) (hb2 : ∀ j, j < 56 → v j < 2 ^ 31) : Sm 77 mX11_numberOf [.ref 53] σ (qi fun r σ2 => r = amv (numK W v) ∧ σ2 = σ) := by
  refine Sm.of mk_X11_numberOf (Nat.le_of_ble_eq_true rfl) rfl (fun X hX => ?_)
  have hm := hW.1.1
  have OUT : ∀ d n, n + d = kM W → (∀ m, m < n → eqV (kV W m) v = false) → ∀ (x4 x5 : Option Value), Sw 77 mX11_numberOf X (ZS 77 mX11_numberOf (qi fun r σ2 => r = amv (numK W v) ∧ σ2 = σ) X) 10 [some (.ref 53), some (.long (smR v 56)), none, some (.int (nI n)), x4, x5] [] σ := by
    intro d
    induction d with
    | zero =>
      intro n hd hno x4 x5
      refine s_iload_n hX dX11_numberOf_10 rfl ?_
      refine s_aload_n hX dX11_numberOf_11 rfl ?_
      refine s_getI (x := nI (kM W)) hX dX11_numberOf_12 fl_X11_183 rfl rfl (by omega) hm ?_
      refine s_icmp_ge_n (tgt := 98) hX dX11_numberOf_15 (by decide) (by omega) (by omega) (fun q15 => ?_) (fun q15 => ?_)
      · refine s_iconst (v := -1) hX dX11_numberOf_98 (by decide) ?_
        refine s_iret hX dX11_numberOf_99 rfl rfl ?_
        refine ⟨?_, rfl⟩
        have : numK W v = none := fstR_none.mpr (by rw [← show n = kM W by omega]; exact hno)
        rw [this]
        rfl
      · omega
    | succ d ih =>
      intro n hd hno x4 x5
      obtain ⟨g66, g67, g70⟩ := hW.2.1 n (by omega)
      have NX : eqV (kV W n) v = false → ∀ (x4 x5 : Option Value), Sw 77 mX11_numberOf X (ZS 77 mX11_numberOf (qi fun r σ2 => r = amv (numK W v) ∧ σ2 = σ) X) 10 [some (.ref 53), some (.long (smR v 56)), none, some (.int (nI (n + 1))), x4, x5] [] σ := fun he x4 x5 => ih (n + 1) (by omega) (fun m hm2 => by
        by_cases e : m = n
        · rw [e]; exact he
        · exact hno m (by omega)) x4 x5
      have IN : ∀ d2 k, k + d2 = 56 → ∀ b : Bool, (b = true → ∀ j, j < k → kV W n j = v j) → (b = false → eqV (kV W n) v = false) → Sw 77 mX11_numberOf X (ZS 77 mX11_numberOf (qi fun r σ2 => r = amv (numK W v) ∧ σ2 = σ) X) 38 [some (.ref 53), some (.long (smR v 56)), none, some (.int (nI n)), some (.int (nI b.toNat)), some (.int (nI k))] [] σ := by
        intro d2
        induction d2 with
        | zero =>
          intro k hk b h1 h2
          have hb9 : b.toNat ≤ 1 := by cases b <;> decide
          refine s_iload hX dX11_numberOf_38 rfl ?_
          refine s_bipush (v := nI 56) hX dX11_numberOf_40 (by decide) ?_
          refine s_icmp_ge_n (tgt := 85) hX dX11_numberOf_42 (by decide) (by omega) (by omega) (fun q42 => ?_) (fun q42 => ?_)
          · refine s_iload hX dX11_numberOf_85 rfl ?_
            refine s_if_eq_n (tgt := 92) hX dX11_numberOf_87 (by decide) (by omega) (fun q87 => ?_) (fun q87 => ?_)
            · refine s_iinc_n (c := 1) hX dX11_numberOf_92 rfl (by decide) rfl st_6_3 ?_
              refine s_goto (tgt := 10) hX dX11_numberOf_95 (by decide) ?_
              exact NX (h2 (tn0 q87)) _ _
            · refine s_iload_n hX dX11_numberOf_90 rfl ?_
              refine s_iret hX dX11_numberOf_91 rfl rfl ?_
              refine ⟨?_, rfl⟩
              have : numK W v = some n := fstR_some.mpr ⟨by omega, eqV_iff.mpr (fun j hj => h1 (tn1 q87) j (by omega)), hno⟩
              rw [this]
              rfl
          · omega
        | succ d2 ih2 =>
          intro k hk b h1 h2
          have hb9 : b.toNat ≤ 1 := by cases b <;> decide
          have g1 := hb n k (by omega) (by omega)
          have g2 := hb2 k (by omega)
          refine s_iload hX dX11_numberOf_38 rfl ?_
          refine s_bipush (v := nI 56) hX dX11_numberOf_40 (by decide) ?_
          refine s_icmp_ge_n (tgt := 85) hX dX11_numberOf_42 (by decide) (by omega) (by omega) (fun q42 => ?_) (fun q42 => ?_)
          · omega
          · refine s_iload hX dX11_numberOf_45 rfl ?_
            refine s_if_eq_n (tgt := 85) hX dX11_numberOf_47 (by decide) (by omega) (fun q47 => ?_) (fun q47 => ?_)
            · refine s_iload hX dX11_numberOf_85 rfl ?_
              refine s_if_eq_n (tgt := 92) hX dX11_numberOf_87 (by decide) (by omega) (fun q87 => ?_) (fun q87 => ?_)
              · refine s_iinc_n (c := 1) hX dX11_numberOf_92 rfl (by decide) rfl st_6_3 ?_
                refine s_goto (tgt := 10) hX dX11_numberOf_95 (by decide) ?_
                exact NX (h2 (tn0 q47)) _ _
              · exact absurd q47 q87
            · refine s_aload_n hX dX11_numberOf_50 rfl ?_
              refine s_getR hX dX11_numberOf_51 fl_X11_52 rfl rfl (by omega) ?_
              refine s_bipush (v := nI 56) hX dX11_numberOf_54 (by decide) ?_
              refine s_iload_n hX dX11_numberOf_56 rfl ?_
              refine s_imul_n hX dX11_numberOf_57 ?_
              refine s_iload hX dX11_numberOf_58 rfl ?_
              refine s_iadd_n hX dX11_numberOf_60 ?_
              refine s_iald (x := nI (kV W n k)) hX dX11_numberOf_61 rfl (by omega) (by omega) (by decide) (g66 k (by omega)) ?_
              refine s_aload_n hX dX11_numberOf_62 rfl ?_
              refine s_getR hX dX11_numberOf_63 fl_X11_30 rfl rfl (by omega) ?_
              refine s_iload hX dX11_numberOf_66 rfl ?_
              refine s_iald (x := nI (v _)) hX dX11_numberOf_68 rfl (by omega) (by omega) (by decide) (hN.at0 _ (by omega)) ?_
              refine s_icmp_ne_n (tgt := 76) hX dX11_numberOf_69 (by decide) (by omega) (by omega) (fun q69 => ?_) (fun q69 => ?_)
              · refine s_iconst (v := nI 0) hX dX11_numberOf_76 (by decide) ?_
                refine s_istore hX dX11_numberOf_77 (Nat.le_of_ble_eq_true rfl) rfl st_6_4 ?_
                refine s_iinc_n (c := 1) hX dX11_numberOf_79 rfl (by decide) rfl st_6_5 ?_
                refine s_goto (tgt := 38) hX dX11_numberOf_82 (by decide) ?_
                first
                  | exact ih2 (k + 1) (by omega) true (fun _ j hj => by
                      by_cases e : j = k
                      · rw [e]; exact q69
                      · exact h1 (tn1 q47) j (by omega)) (fun h => absurd h (by decide))
                  | exact ih2 (k + 1) (by omega) false (fun h => absurd h (by decide)) (fun _ => by
                      cases hh : eqV (kV W n) v with
                      | false => rfl
                      | true => exact absurd (eqV_iff.mp hh k (by omega)) q69)
              · refine s_iconst (v := nI 1) hX dX11_numberOf_72 (by decide) ?_
                refine s_goto (tgt := 77) hX dX11_numberOf_73 (by decide) ?_
                refine s_istore hX dX11_numberOf_77 (Nat.le_of_ble_eq_true rfl) rfl st_6_4 ?_
                refine s_iinc_n (c := 1) hX dX11_numberOf_79 rfl (by decide) rfl st_6_5 ?_
                refine s_goto (tgt := 38) hX dX11_numberOf_82 (by decide) ?_
                first
                  | exact ih2 (k + 1) (by omega) true (fun _ j hj => by
                      by_cases e : j = k
                      · rw [e]; exact q69
                      · exact h1 (tn1 q47) j (by omega)) (fun h => absurd h (by decide))
                  | exact ih2 (k + 1) (by omega) false (fun h => absurd h (by decide)) (fun _ => by
                      cases hh : eqV (kV W n) v with
                      | false => rfl
                      | true => exact absurd (eqV_iff.mp hh k (by omega)) q69)
      refine s_iload_n hX dX11_numberOf_10 rfl ?_
      refine s_aload_n hX dX11_numberOf_11 rfl ?_
      refine s_getI (x := nI (kM W)) hX dX11_numberOf_12 fl_X11_183 rfl rfl (by omega) hm ?_
      refine s_icmp_ge_n (tgt := 98) hX dX11_numberOf_15 (by decide) (by omega) (by omega) (fun q15 => ?_) (fun q15 => ?_)
      · omega
      · refine s_aload_n hX dX11_numberOf_18 rfl ?_
        refine s_getR hX dX11_numberOf_19 fl_X11_55 rfl rfl (by omega) ?_
        refine s_iload_n hX dX11_numberOf_22 rfl ?_
        refine s_lald (x := smR (kV W n) 56) hX dX11_numberOf_23 rfl (by omega) (by omega) (by decide) g67 ?_
        refine s_lload_n hX dX11_numberOf_24 rfl ?_
        refine s_lcmp hX dX11_numberOf_25 ?_
        refine s_if_eq (tgt := 32) hX dX11_numberOf_26 (by decide) (fun q26 => ?_) (fun q26 => ?_)
        · refine s_iconst (v := nI 1) hX dX11_numberOf_32 (by decide) ?_
          refine s_istore hX dX11_numberOf_33 (Nat.le_of_ble_eq_true rfl) rfl st_6_4 ?_
          refine s_iconst (v := nI 0) hX dX11_numberOf_35 (by decide) ?_
          refine s_istore hX dX11_numberOf_36 (Nat.le_of_ble_eq_true rfl) rfl st_6_5 ?_
          exact IN 56 0 (by omega) true (fun _ j hj => absurd hj (Nat.not_lt_zero j)) (fun h => absurd h (by decide))
        · refine s_goto (tgt := 92) hX dX11_numberOf_29 (by decide) ?_
          refine s_iinc_n (c := 1) hX dX11_numberOf_92 rfl (by decide) rfl st_6_3 ?_
          refine s_goto (tgt := 10) hX dX11_numberOf_95 (by decide) ?_
          exact NX (by
            cases hh : eqV (kV W n) v with
            | false => rfl
            | true => exact absurd (lgc.mpr (smR_cong 56 (eqV_iff.mp hh))) q26) _ _
  refine s_aload_n hX dX11_numberOf_0 rfl ?_
  refine s_getR hX dX11_numberOf_1 fl_X11_30 rfl rfl (by omega) ?_
  refine s_callSl (as := [_]) hX dX11_numberOf_4 mk_X11_sumOf lk_X11_179 (c_X11_sumOf hN) rfl ⟨rfl, rfl⟩ (Nat.le_of_ble_eq_true rfl) (Nat.le_of_ble_eq_true rfl) (Nat.le_of_ble_eq_true rfl) rfl (fun v4 σ4 p4 => ?_)
  obtain ⟨rfl, rfl⟩ := p4
  refine s_lstore_n hX dX11_numberOf_7 (Nat.le_of_ble_eq_true rfl) rfl sl_6_1 ?_
  refine s_iconst (v := nI 0) hX dX11_numberOf_8 (by decide) ?_
  refine s_istore_n hX dX11_numberOf_9 (Nat.le_of_ble_eq_true rfl) rfl st_6_3 ?_
  exact OUT (kM W) 0 (by omega) (fun m hm2 => absurd hm2 (Nat.not_lt_zero m)) _ _
set_option maxRecDepth 100000 in
set_option maxHeartbeats 4000000 in
theorem c_X11_addBad {σ : Sg} {l : List (Nat × Nat × Option Nat)} (hB : BdM σ l) (hl : l.length < 2 ^ 30) (t : Nat × Nat × Option Nat) : Sm 77 mX11_addBad [.ref 53, .int (nI t.1), .int (nI t.2.1), .int (amv t.2.2)] σ (qv fun σ2 => BdM σ2 (l ++ [t]) ∧ Fr 53 σ σ2 [74, 75, 76] [27]) := by
  refine Sm.of mk_X11_addBad (Nat.le_of_ble_eq_true rfl) rfl (fun X hX => ?_)
  refine s_aload_n hX dX11_addBad_0 rfl ?_
  refine s_getI (x := nI (l.length)) hX dX11_addBad_1 fl_X11_186 rfl rfl (by omega) hB.1 ?_
  refine s_sipush (v := nI 200) hX dX11_addBad_4 (by decide) ?_
  refine s_icmp_ge_n (tgt := 40) hX dX11_addBad_7 (by decide) (by omega) (by omega) (fun q7 => ?_) (fun q7 => ?_)
  · refine s_aload_n hX dX11_addBad_40 rfl ?_
    refine s_dup hX dX11_addBad_41 rfl ?_
    refine s_getI (x := nI (l.length)) hX dX11_addBad_42 fl_X11_186 rfl rfl (by omega) hB.1 ?_
    refine s_iconst (v := nI 1) hX dX11_addBad_45 (by decide) ?_
    refine s_iadd_n hX dX11_addBad_46 ?_
    refine s_putI hX dX11_addBad_47 fl_X11_186 rfl rfl (by omega) rfl rfl ?_
    refine s_vret hX dX11_addBad_50 rfl rfl ?_
    refine ⟨⟨by rw [wI_s, List.length_append, List.length_singleton], fun i u hu hi => ?_⟩, by
      first
        | exact Fr.rf.put (by decide)
        | exact (((Fr.rf.wI (by decide) (by decide)).wI (by decide) (by decide)).wI (by decide) (by decide)).put (by decide)⟩
    by_cases h : i < l.length
    · rw [List.getElem?_append_left h] at hu
      have hz : i ≠ l.length := by omega
      have := hB.2 i u hu hi
      simpa [wI, va_up, upd, hz] using this
    · rw [List.getElem?_append_right (by omega)] at hu
      have hz : i = l.length := by
        have := (List.getElem?_eq_some_iff.mp hu).1
        simp at this; omega
      subst hz
      rw [Nat.sub_self] at hu
      cases hu
      first
        | (exfalso; omega)
        | simp [wI, va_up, upd]
  · refine s_aload_n hX dX11_addBad_10 rfl ?_
    refine s_getR hX dX11_addBad_11 fl_X11_78 rfl rfl (by omega) ?_
    refine s_aload_n hX dX11_addBad_14 rfl ?_
    refine s_getI (x := nI (l.length)) hX dX11_addBad_15 fl_X11_186 rfl rfl (by omega) hB.1 ?_
    refine s_iload_n hX dX11_addBad_18 rfl ?_
    refine s_iast hX dX11_addBad_19 rfl (by omega) (by omega) (by decide) ?_
    refine s_aload_n hX dX11_addBad_20 rfl ?_
    refine s_getR hX dX11_addBad_21 fl_X11_81 rfl rfl (by omega) ?_
    refine s_aload_n hX dX11_addBad_24 rfl ?_
    refine s_getI (x := nI (l.length)) hX dX11_addBad_25 fl_X11_186 rfl rfl (by omega) (by rw [wI_a _ _ (by decide)]; exact hB.1) ?_
    refine s_iload_n hX dX11_addBad_28 rfl ?_
    refine s_iast hX dX11_addBad_29 rfl (by omega) (by omega) (by decide) ?_
    refine s_aload_n hX dX11_addBad_30 rfl ?_
    refine s_getR hX dX11_addBad_31 fl_X11_84 rfl rfl (by omega) ?_
    refine s_aload_n hX dX11_addBad_34 rfl ?_
    refine s_getI (x := nI (l.length)) hX dX11_addBad_35 fl_X11_186 rfl rfl (by omega) (by rw [wI_a _ _ (by decide), wI_a _ _ (by decide)]; exact hB.1) ?_
    refine s_iload_n hX dX11_addBad_38 rfl ?_
    refine s_iast hX dX11_addBad_39 rfl (by omega) (by omega) (by decide) ?_
    refine s_aload_n hX dX11_addBad_40 rfl ?_
    refine s_dup hX dX11_addBad_41 rfl ?_
    refine s_getI (x := nI (l.length)) hX dX11_addBad_42 fl_X11_186 rfl rfl (by omega) (by rw [wI_a _ _ (by decide), wI_a _ _ (by decide), wI_a _ _ (by decide)]; exact hB.1) ?_
    refine s_iconst (v := nI 1) hX dX11_addBad_45 (by decide) ?_
    refine s_iadd_n hX dX11_addBad_46 ?_
    refine s_putI hX dX11_addBad_47 fl_X11_186 rfl rfl (by omega) rfl rfl ?_
    refine s_vret hX dX11_addBad_50 rfl rfl ?_
    refine ⟨⟨by rw [wI_s, List.length_append, List.length_singleton], fun i u hu hi => ?_⟩, by
      first
        | exact Fr.rf.put (by decide)
        | exact (((Fr.rf.wI (by decide) (by decide)).wI (by decide) (by decide)).wI (by decide) (by decide)).put (by decide)⟩
    by_cases h : i < l.length
    · rw [List.getElem?_append_left h] at hu
      have hz : i ≠ l.length := by omega
      have := hB.2 i u hu hi
      simpa [wI, va_up, upd, hz] using this
    · rw [List.getElem?_append_right (by omega)] at hu
      have hz : i = l.length := by
        have := (List.getElem?_eq_some_iff.mp hu).1
        simp at this; omega
      subst hz
      rw [Nat.sub_self] at hu
      cases hu
      first
        | (exfalso; omega)
        | simp [wI, va_up, upd]
theorem add_ok {σ σ2 : Sg} {pr : Pr} {W : Wk} {vis : Nat} {v : Vc} {f : Option (Nat × Nat)} (hW : WkM σ pr W vis) (hvis : vis ≤ kM W) (h0 : f = none → kM W = 0) (hN : Vat σ 59 0 v) (hF : ∀ a, a ∉ [66, 67, 68, 69, 70, 74, 75, 76] → a ≠ 53 → σ2 a = σ a) (t66 : (σ2 66).1 = va_cpy (σ 59).1 (σ 66).1 0 (56 * kM W) 56) (t67 : (σ2 67).2 = vp_updL (σ 67).2 (kM W) (smR v 56)) (t68 : (σ2 68).1 = upd (σ 68).1 (kM W) (amv (f.map (fun q => q.1)))) (t69 : (σ2 69).1 = upd (σ 69).1 (kM W) (amv (f.map (fun q => q.2)))) (t70 : (σ2 70).1 = upd (σ 70).1 (kM W) (nI (frF W f))) (c25 : (σ2 53).1 25 = nI (kM W + 1)) (c26 : (σ2 53).1 26 = (σ 53).1 26) (c31 : (σ2 53).1 31 = nI (qcR pr (kV W) (kM W) + (quF pr v).toNat)) (c32 : (σ2 53).1 32 = (σ 53).1 32) (hB : BdM σ2 (kB W ++ (if bdF pr v = 0 then [] else [(bdF pr v, kM W, none)]))) : WkM σ2 pr (addK pr W v f) vis := by
  obtain ⟨⟨a1, a2, a3, a4⟩, b, c, d, e, g, i⟩ := hW
  have up : ∀ m, m < kM W → va_up (kV W) (kM W) v m = kV W m := fun m hm => va_up_ne _ _ (by omega)
  refine ⟨⟨c25, c26.trans a2, ?_, c32.trans a4⟩, fun n hn => ?_, fun n h1 hn => ?_, fun n j hn hj => ?_, fun n hn => ?_, fun q hq => ?_, hB⟩
  · rw [c31]
    show _ = nI (qcR pr (va_up (kV W) (kM W) v) (kM W) + (quF pr (va_up (kV W) (kM W) v (kM W))).toNat)
    rw [va_up_at, qcR_cong (kM W) up]
  · have hn : n < kM W + 1 := hn
    show Vat σ2 66 (56 * n) (va_up (kV W) (kM W) v n) ∧ (σ2 67).2 n = smR (va_up (kV W) (kM W) v n) 56 ∧ (σ2 70).1 n = nI (va_up (kF W) (kM W) (frF W f) n)
    by_cases q : n = kM W
    · subst q
      rw [va_up_at, va_up_at, t67, t70, pk_uLs, pk_us]
      refine ⟨fun j hj => ?_, rfl, rfl⟩
      rw [t66, pk_cpy_in (by omega) (by omega), show 0 + (56 * kM W + j - 56 * kM W) = j by omega]
      exact hN.at0 j hj
    · rw [up n (by omega), va_up_ne _ _ q, t67, t70, pk_uLn q, pk_un q]
      refine ⟨fun j hj => ?_, (b n (by omega)).2⟩
      rw [t66, pk_cpy_out (by omega)]
      exact (b n (by omega)).1 j hj
  · have hn : n < kM W + 1 := hn
    show (σ2 68).1 n = nI (va_up (kP W) (kM W) (f.getD (0, 0)) n).1 ∧ (σ2 69).1 n = nI (va_up (kP W) (kM W) (f.getD (0, 0)) n).2
    rw [t68, t69]
    by_cases q : n = kM W
    · subst q
      rw [va_up_at, pk_us, pk_us]
      cases f with
      | none => exact absurd (h0 rfl) (by omega)
      | some x => exact ⟨rfl, rfl⟩
    · rw [va_up_ne _ _ q, pk_un q, pk_un q]
      exact c n h1 (by omega)
  · rw [hF 71 (by decide) (by decide)]; exact d n j hn hj
  · rw [hF 72 (by decide) (by decide)]
    show _ = bI (skF pr (va_up (kV W) (kM W) v n))
    rw [up n (by omega)]
    exact e n hn
  · rw [hF 58 (by decide) (by decide)]; exact g q hq
set_option maxRecDepth 100000 in
set_option maxHeartbeats 4000000 in
theorem c_X11_add {σ : Sg} {pr : Pr} {W : Wk} {vis : Nat} {v : Vc} {f : Option (Nat × Nat)} (hp : PrM σ pr) (hk : PrOk pr) (hW : WkM σ pr W vis) (hvis : vis ≤ kM W) (hM : kM W < 4000) (hN : Vat σ 59 0 v) (hv : VOk pr v) (hl : (kB W).length < 2 ^ 30) (h0 : f = none → kM W = 0) (hq : ∀ q, f = some q → q.1 < kM W) : Sm 77 mX11_add [.ref 53, .int (amv (f.map (fun q => q.1))), .int (amv (f.map (fun q => q.2)))] σ (qi fun r σ2 => r = nI (kM W) ∧ WkM σ2 pr (addK pr W v f) vis ∧ Fr 53 σ σ2 [66, 67, 68, 69, 70, 74, 75, 76] [25, 27, 31]) := by
  refine Sm.of mk_X11_add (Nat.le_of_ble_eq_true rfl) rfl (fun X hX => ?_)
  have J70 : ∀ σ5 (x4 : Option Value), Off σ σ5 [66, 67, 68, 69, 70] → (σ5 66).1 = va_cpy (σ 59).1 (σ 66).1 0 (56 * kM W) 56 → (σ5 67).2 = vp_updL (σ 67).2 (kM W) (smR v 56) → (σ5 68).1 = upd (σ 68).1 (kM W) (amv (f.map (fun q => q.1))) → (σ5 69).1 = upd (σ 69).1 (kM W) (amv (f.map (fun q => q.2))) → (σ5 70).1 = upd (σ 70).1 (kM W) (nI (frF W f)) → Sw 77 mX11_add X (ZS 77 mX11_add (qi fun r σ2 => r = nI (kM W) ∧ WkM σ2 pr (addK pr W v f) vis ∧ Fr 53 σ σ2 [66, 67, 68, 69, 70, 74, 75, 76] [25, 27, 31]) X) 70 [some (.ref 53), some (.int (amv (f.map (fun q => q.1)))), some (.int (amv (f.map (fun q => q.2)))), some (.int (nI (kM W))), x4] [] σ5 := by
    intro σ5 x4 hO t66 t67 t68 t69 t70
    have c53 : σ5 53 = σ 53 := hO 53 (by decide)
    have JE : ∀ σ8, Fr 53 σ5 σ8 [] [25, 31] → (σ8 53).1 25 = nI (kM W + 1) → (σ8 53).1 31 = nI (qcR pr (kV W) (kM W) + (quF pr v).toNat) → ∀ σ9, BdM σ9 (kB W ++ (if bdF pr v = 0 then [] else [(bdF pr v, kM W, none)])) → Fr 53 σ8 σ9 [74, 75, 76] [27] → WkM σ9 pr (addK pr W v f) vis ∧ Fr 53 σ σ9 [66, 67, 68, 69, 70, 74, 75, 76] [25, 27, 31] := by
      intro σ8 f8 h25 h31 σ9 hB9 f9
      have ff : Fr 53 σ5 σ9 [74, 75, 76] [25, 27, 31] := (f8.mono (by decide) (by decide)).trans (f9.mono (by decide) (by decide))
      have fall : Fr 53 σ σ9 [66, 67, 68, 69, 70, 74, 75, 76] [25, 27, 31] := ((Fr.of hO (by decide) : Fr 53 _ _ [66, 67, 68, 69, 70] []).mono (by decide) (by decide)).trans (ff.mono (by decide) (by decide))
      refine ⟨add_ok hW hvis h0 hN fall.1 ?_ ?_ ?_ ?_ ?_ ((f9.2.1 25 (by decide)).trans h25) (fall.2.1 26 (by decide)) ((f9.2.1 31 (by decide)).trans h31) (fall.2.1 32 (by decide)) hB9, fall⟩
      · rw [ff.1 66 (by decide) (by decide)]; exact t66
      · rw [ff.1 67 (by decide) (by decide)]; exact t67
      · rw [ff.1 68 (by decide) (by decide)]; exact t68
      · rw [ff.1 69 (by decide) (by decide)]; exact t69
      · rw [ff.1 70 (by decide) (by decide)]; exact t70
    have J98 : ∀ z : Nat, z = qcR pr (kV W) (kM W) + (quF pr v).toNat → ∀ σ7, Fr 53 σ5 σ7 [] [25] → (σ7 53).1 25 = nI (kM W + 1) → Sw 77 mX11_add X (ZS 77 mX11_add (qi fun r σ2 => r = nI (kM W) ∧ WkM σ2 pr (addK pr W v f) vis ∧ Fr 53 σ σ2 [66, 67, 68, 69, 70, 74, 75, 76] [25, 27, 31]) X) 98 [some (.ref 53), some (.int (amv (f.map (fun q => q.1)))), some (.int (amv (f.map (fun q => q.2)))), some (.int (nI (kM W))), x4] [.int (nI z), .ref 53] σ7 := by
      intro z hz σ7 f7 h25
      subst hz
      have p5 := hp.off hO (by decide) (by decide) (by decide) (by decide) (by decide)
      refine s_putI hX dX11_add_98 fl_X11_189 rfl rfl (by omega) rfl rfl ?_
      refine s_gen (fun σ8 e8 => ?_)
      have f8 : Fr 53 σ5 σ8 [] [25, 31] := by rw [e8]; exact (f7.mono (by decide) (by decide)).put (by decide)
      have h25' : (σ8 53).1 25 = nI (kM W + 1) := by rw [e8, wI_k _ _ (by decide)]; exact h25
      have h31 : (σ8 53).1 31 = nI (qcR pr (kV W) (kM W) + (quF pr v).toNat) := by rw [e8, wI_s]
      have p8 := p5.fr f8 (by decide) (by decide) (by decide) (by decide) (by decide)
      have N8 : Vat σ8 59 0 v := (hN.off hO (by decide)).fr f8 (by decide) (by decide)
      have B8 : BdM σ8 (kB W) := (hW.2.2.2.2.2.2.fr (Fr.of hO (by decide) : Fr 53 _ _ [66, 67, 68, 69, 70] []) (by decide) (by decide)).fr f8 (by decide) (by decide)
      have hbd := bdF_le pr v
      refine s_aload_n hX dX11_add_101 rfl ?_
      refine s_callVi (as := []) hX dX11_add_102 mk_X11_badNow lk_X11_169 (c_X11_badNow p8 hk N8 hv) rfl (by omega) rfl rfl rfl ⟨rfl, rfl⟩ (Nat.le_of_ble_eq_true rfl) (Nat.le_of_ble_eq_true rfl) (Nat.le_of_ble_eq_true rfl) rfl (fun v102 σ102 p102 => ?_)
      obtain ⟨rfl, e102⟩ := p102
      subst e102
      refine s_istore hX dX11_add_105 (Nat.le_of_ble_eq_true rfl) rfl st_5_4 ?_
      refine s_iload hX dX11_add_107 rfl ?_
      refine s_if_eq_n (tgt := 120) hX dX11_add_109 (by decide) (by omega) (fun q109 => ?_) (fun q109 => ?_)
      · refine s_iload_n hX dX11_add_120 rfl ?_
        refine s_iret hX dX11_add_121 rfl rfl ?_
        first
          | (have hX9 := JE _ f8 h25' h31 _ (by rw [if_pos q109, List.append_nil]; exact B8) Fr.rf
             exact ⟨rfl, hX9⟩)
          | (have hX9 := JE _ f8 h25' h31 _ (by rw [if_neg q109]; exact hB9) f9
             exact ⟨rfl, hX9⟩)
      · refine s_aload_n hX dX11_add_112 rfl ?_
        refine s_iload hX dX11_add_113 rfl ?_
        refine s_iload_n hX dX11_add_115 rfl ?_
        refine s_iconst (v := -1) hX dX11_add_116 (by decide) ?_
        refine s_callVv (as := [_, _, _]) hX dX11_add_117 mk_X11_addBad lk_X11_192 (c_X11_addBad B8 hl (bdF pr v, kM W, none)) rfl (by omega) rfl rfl rfl ⟨rfl, rfl⟩ (Nat.le_of_ble_eq_true rfl) (Nat.le_of_ble_eq_true rfl) (Nat.le_of_ble_eq_true rfl) rfl (fun σ117 p117 => ?_)
        obtain ⟨hB9, f9⟩ := p117
        refine s_iload_n hX dX11_add_120 rfl ?_
        refine s_iret hX dX11_add_121 rfl rfl ?_
        first
          | (have hX9 := JE _ f8 h25' h31 _ (by rw [if_pos q109, List.append_nil]; exact B8) Fr.rf
             exact ⟨rfl, hX9⟩)
          | (have hX9 := JE _ f8 h25' h31 _ (by rw [if_neg q109]; exact hB9) f9
             exact ⟨rfl, hX9⟩)
    refine s_aload_n hX dX11_add_70 rfl ?_
    refine s_dup hX dX11_add_71 rfl ?_
    refine s_getI (x := nI (kM W)) hX dX11_add_72 fl_X11_183 rfl rfl (by omega) (by rw [c53]; exact hW.1.1) ?_
    refine s_iconst (v := nI 1) hX dX11_add_75 (by decide) ?_
    refine s_iadd_n hX dX11_add_76 ?_
    refine s_putI hX dX11_add_77 fl_X11_183 rfl rfl (by omega) rfl rfl ?_
    refine s_gen (fun σ7 e7 => ?_)
    have f7 : Fr 53 σ5 σ7 [] [25] := by rw [e7]; exact Fr.rf.put (by decide)
    have h25 : (σ7 53).1 25 = nI (kM W + 1) := by rw [e7, wI_s]
    have p7 := (hp.off hO (by decide) (by decide) (by decide) (by decide) (by decide)).fr f7 (by decide) (by decide) (by decide) (by decide) (by decide)
    have N7 : Vat σ7 59 0 v := (hN.off hO (by decide)).fr f7 (by decide) (by decide)
    have h31 : (σ7 53).1 31 = nI (qcR pr (kV W) (kM W)) := by rw [f7.2.1 31 (by decide), c53]; exact hW.1.2.2.1
    refine s_aload_n hX dX11_add_80 rfl ?_
    refine s_dup hX dX11_add_81 rfl ?_
    refine s_getI (x := nI (qcR pr (kV W) (kM W))) hX dX11_add_82 fl_X11_189 rfl rfl (by omega) h31 ?_
    refine s_aload_n hX dX11_add_85 rfl ?_
    refine s_callVi (as := []) hX dX11_add_86 mk_X11_isQuiet lk_X11_173 (c_X11_isQuiet p7 hk N7 hv) rfl (by omega) rfl rfl rfl ⟨rfl, rfl⟩ (Nat.le_of_ble_eq_true rfl) (Nat.le_of_ble_eq_true rfl) (Nat.le_of_ble_eq_true rfl) rfl (fun v86 σ86 p86 => ?_)
    obtain ⟨rfl, e86⟩ := p86
    subst e86
    refine s_if_eq (tgt := 96) hX dX11_add_89 (by decide) (fun q89 => ?_) (fun q89 => ?_)
    · refine s_iconst (v := nI 0) hX dX11_add_96 (by decide) ?_
      refine s_iadd_n hX dX11_add_97 ?_
      first
        | exact J98 _ (by rw [bI_0.mp q89]; rfl) _ f7 h25
        | exact J98 _ (by rw [show quF pr v = true from by cases hh : quF pr v with
            | true => rfl
            | false => exact absurd (bI_0.mpr hh) q89]; rfl) _ f7 h25
    · refine s_iconst (v := nI 1) hX dX11_add_92 (by decide) ?_
      refine s_goto (tgt := 97) hX dX11_add_93 (by decide) ?_
      refine s_iadd_n hX dX11_add_97 ?_
      first
        | exact J98 _ (by rw [bI_0.mp q89]; rfl) _ f7 h25
        | exact J98 _ (by rw [show quF pr v = true from by cases hh : quF pr v with
            | true => rfl
            | false => exact absurd (bI_0.mpr hh) q89]; rfl) _ f7 h25
  cases hf : f with
  | none =>
    subst hf
    have hf : (none : Option (Nat × Nat)) = none := rfl
    refine s_aload_n hX dX11_add_0 rfl ?_
    refine s_getI (x := nI (kM W)) hX dX11_add_1 fl_X11_183 rfl rfl (by omega) hW.1.1 ?_
    refine s_istore_n hX dX11_add_4 (Nat.le_of_ble_eq_true rfl) rfl st_5_3 ?_
    refine s_aload_n hX dX11_add_5 rfl ?_
    refine s_getR hX dX11_add_6 fl_X11_30 rfl rfl (by omega) ?_
    refine s_iconst (v := nI 0) hX dX11_add_9 (by decide) ?_
    refine s_aload_n hX dX11_add_10 rfl ?_
    refine s_getR hX dX11_add_11 fl_X11_52 rfl rfl (by omega) ?_
    refine s_bipush (v := nI 56) hX dX11_add_14 (by decide) ?_
    refine s_iload_n hX dX11_add_16 rfl ?_
    refine s_imul_n hX dX11_add_17 ?_
    refine s_callSv (as := [_, _, _, _]) hX dX11_add_18 mk_X11_copy lk_X11_94 (c_X11_copy (f := 59) (t := 66) (lf := 56) (lt := 224000) (a := 0) (b := 56 * kM W) rfl rfl (by decide) (by decide) (by decide) (by omega) (by omega) (by decide) (by decide)) rfl ⟨rfl, rfl⟩ (Nat.le_of_ble_eq_true rfl) (Nat.le_of_ble_eq_true rfl) (Nat.le_of_ble_eq_true rfl) rfl (fun σ18 p18 => ?_)
    subst p18
    refine s_aload_n hX dX11_add_21 rfl ?_
    refine s_getR hX dX11_add_22 fl_X11_55 rfl rfl (by omega) ?_
    refine s_iload_n hX dX11_add_25 rfl ?_
    refine s_aload_n hX dX11_add_26 rfl ?_
    refine s_getR hX dX11_add_27 fl_X11_30 rfl rfl (by omega) ?_
    refine s_callSl (as := [_]) hX dX11_add_30 mk_X11_sumOf lk_X11_179 (c_X11_sumOf (hN.kept (wA_a _ _ (by decide)))) rfl ⟨rfl, rfl⟩ (Nat.le_of_ble_eq_true rfl) (Nat.le_of_ble_eq_true rfl) (Nat.le_of_ble_eq_true rfl) rfl (fun v30 σ30 p30 => ?_)
    obtain ⟨rfl, e30⟩ := p30
    subst e30
    refine s_last hX dX11_add_33 rfl (by omega) (by omega) (by decide) ?_
    refine s_aload_n hX dX11_add_34 rfl ?_
    refine s_getR hX dX11_add_35 fl_X11_59 rfl rfl (by omega) ?_
    refine s_iload_n hX dX11_add_38 rfl ?_
    refine s_iload_n hX dX11_add_39 rfl ?_
    refine s_iast hX dX11_add_40 rfl (by omega) (by omega) (by decide) ?_
    refine s_aload_n hX dX11_add_41 rfl ?_
    refine s_getR hX dX11_add_42 fl_X11_62 rfl rfl (by omega) ?_
    refine s_iload_n hX dX11_add_45 rfl ?_
    refine s_iload_n hX dX11_add_46 rfl ?_
    refine s_iast hX dX11_add_47 rfl (by omega) (by omega) (by decide) ?_
    refine s_aload_n hX dX11_add_48 rfl ?_
    refine s_getR hX dX11_add_49 fl_X11_65 rfl rfl (by omega) ?_
    refine s_iload_n hX dX11_add_52 rfl ?_
    refine s_iload_n hX dX11_add_53 rfl ?_
    refine s_if_ge (tgt := 61) hX dX11_add_54 (by decide) (fun q54 => ?_) (fun q54 => ?_)
    · exact absurd q54 (by decide)
    · refine s_iconst (v := nI 0) hX dX11_add_57 (by decide) ?_
      refine s_goto (tgt := 69) hX dX11_add_58 (by decide) ?_
      refine s_iast hX dX11_add_69 rfl (by omega) (by omega) (by decide) ?_
      refine s_gen (fun σ5 e5 => ?_)
      have t66 : (σ5 66).1 = va_cpy (σ 59).1 (σ 66).1 0 (56 * kM W) 56 := by rw [e5]; simp [wI, wL, wA, va_up]
      have t67 : (σ5 67).2 = vp_updL (σ 67).2 (kM W) (smR v 56) := by rw [e5]; simp [wI, wL, wA, va_up]
      have t68 : (σ5 68).1 = upd (σ 68).1 (kM W) (amv ((none : Option (Nat × Nat)).map (fun q => q.1))) := by rw [e5]; simp [wI, wL, wA, va_up]
      have t69 : (σ5 69).1 = upd (σ 69).1 (kM W) (amv ((none : Option (Nat × Nat)).map (fun q => q.2))) := by rw [e5]; simp [wI, wL, wA, va_up]
      have t70 : (σ5 70).1 = upd (σ 70).1 (kM W) (nI (frF W none)) := by rw [e5, hf]; simp [wI, wL, wA, va_up, frF]
      have hO : Off σ σ5 [66, 67, 68, 69, 70] := by
        rw [e5]
        exact ((((Off.rf.wA (by decide)).wL (by decide)).wI (by decide)).wI (by decide)).wI (by decide)
      exact J70 σ5 _ hO t66 t67 t68 t69 t70
  | some q =>
    subst hf
    have hf : some q = some q := rfl
    have hq1 := hq q rfl
    have g70 := (hW.2.1 q.1 hq1).2.2
    refine s_aload_n hX dX11_add_0 rfl ?_
    refine s_getI (x := nI (kM W)) hX dX11_add_1 fl_X11_183 rfl rfl (by omega) hW.1.1 ?_
    refine s_istore_n hX dX11_add_4 (Nat.le_of_ble_eq_true rfl) rfl st_5_3 ?_
    refine s_aload_n hX dX11_add_5 rfl ?_
    refine s_getR hX dX11_add_6 fl_X11_30 rfl rfl (by omega) ?_
    refine s_iconst (v := nI 0) hX dX11_add_9 (by decide) ?_
    refine s_aload_n hX dX11_add_10 rfl ?_
    refine s_getR hX dX11_add_11 fl_X11_52 rfl rfl (by omega) ?_
    refine s_bipush (v := nI 56) hX dX11_add_14 (by decide) ?_
    refine s_iload_n hX dX11_add_16 rfl ?_
    refine s_imul_n hX dX11_add_17 ?_
    refine s_callSv (as := [_, _, _, _]) hX dX11_add_18 mk_X11_copy lk_X11_94 (c_X11_copy (f := 59) (t := 66) (lf := 56) (lt := 224000) (a := 0) (b := 56 * kM W) rfl rfl (by decide) (by decide) (by decide) (by omega) (by omega) (by decide) (by decide)) rfl ⟨rfl, rfl⟩ (Nat.le_of_ble_eq_true rfl) (Nat.le_of_ble_eq_true rfl) (Nat.le_of_ble_eq_true rfl) rfl (fun σ18 p18 => ?_)
    subst p18
    refine s_aload_n hX dX11_add_21 rfl ?_
    refine s_getR hX dX11_add_22 fl_X11_55 rfl rfl (by omega) ?_
    refine s_iload_n hX dX11_add_25 rfl ?_
    refine s_aload_n hX dX11_add_26 rfl ?_
    refine s_getR hX dX11_add_27 fl_X11_30 rfl rfl (by omega) ?_
    refine s_callSl (as := [_]) hX dX11_add_30 mk_X11_sumOf lk_X11_179 (c_X11_sumOf (hN.kept (wA_a _ _ (by decide)))) rfl ⟨rfl, rfl⟩ (Nat.le_of_ble_eq_true rfl) (Nat.le_of_ble_eq_true rfl) (Nat.le_of_ble_eq_true rfl) rfl (fun v30 σ30 p30 => ?_)
    obtain ⟨rfl, e30⟩ := p30
    subst e30
    refine s_last hX dX11_add_33 rfl (by omega) (by omega) (by decide) ?_
    refine s_aload_n hX dX11_add_34 rfl ?_
    refine s_getR hX dX11_add_35 fl_X11_59 rfl rfl (by omega) ?_
    refine s_iload_n hX dX11_add_38 rfl ?_
    refine s_iload_n hX dX11_add_39 rfl ?_
    refine s_iast hX dX11_add_40 rfl (by omega) (by omega) (by decide) ?_
    refine s_aload_n hX dX11_add_41 rfl ?_
    refine s_getR hX dX11_add_42 fl_X11_62 rfl rfl (by omega) ?_
    refine s_iload_n hX dX11_add_45 rfl ?_
    refine s_iload_n hX dX11_add_46 rfl ?_
    refine s_iast hX dX11_add_47 rfl (by omega) (by omega) (by decide) ?_
    refine s_aload_n hX dX11_add_48 rfl ?_
    refine s_getR hX dX11_add_49 fl_X11_65 rfl rfl (by omega) ?_
    refine s_iload_n hX dX11_add_52 rfl ?_
    refine s_iload_n (x := nI q.1) hX dX11_add_53 rfl ?_
    refine s_if_ge_n (tgt := 61) hX dX11_add_54 (by decide) (by omega) ?_
    refine s_aload_n hX dX11_add_61 rfl ?_
    refine s_getR hX dX11_add_62 fl_X11_65 rfl rfl (by omega) ?_
    refine s_iload_n (x := nI q.1) hX dX11_add_65 rfl ?_
    refine s_iald (x := nI (kF W q.1)) hX dX11_add_66 rfl (by omega) (by omega) (by decide) (by simp [wI, wL, wA, va_up]; exact g70) ?_
    refine s_iconst (v := nI 1) hX dX11_add_67 (by decide) ?_
    refine s_iadd_n hX dX11_add_68 ?_
    refine s_iast hX dX11_add_69 rfl (by omega) (by omega) (by decide) ?_
    refine s_gen (fun σ5 e5 => ?_)
    have t66 : (σ5 66).1 = va_cpy (σ 59).1 (σ 66).1 0 (56 * kM W) 56 := by rw [e5]; simp [wI, wL, wA, va_up]
    have t67 : (σ5 67).2 = vp_updL (σ 67).2 (kM W) (smR v 56) := by rw [e5]; simp [wI, wL, wA, va_up]
    have t68 : (σ5 68).1 = upd (σ 68).1 (kM W) (amv ((some q : Option (Nat × Nat)).map (fun q => q.1))) := by rw [e5]; simp [wI, wL, wA, va_up]
    have t69 : (σ5 69).1 = upd (σ 69).1 (kM W) (amv ((some q : Option (Nat × Nat)).map (fun q => q.2))) := by rw [e5]; simp [wI, wL, wA, va_up]
    have t70 : (σ5 70).1 = upd (σ 70).1 (kM W) (nI (frF W (some q))) := by rw [e5, hf]; simp [wI, wL, wA, va_up, frF]
    have hO : Off σ σ5 [66, 67, 68, 69, 70] := by
      rw [e5]
      exact ((((Off.rf.wA (by decide)).wL (by decide)).wI (by decide)).wI (by decide)).wI (by decide)
    exact J70 σ5 _ hO t66 t67 t68 t69 t70
