theorem b3_f {b : Bool} (h : bI b = 0) : nI 3 = nI (b3 b) := by rw [bI_0.mp h]; rfl
theorem b3_t {b : Bool} (h : ¬ bI b = 0) : nI 0 = nI (b3 b) := by
  cases b with
  | true => rfl
  | false => exact absurd rfl h
def stA (v : Vc) (c p : Nat) : Vc := fun q => if q < 3 * p ∧ q % 3 = 1 then (if q / 3 = c then 1 else 0) else v q
def stB (u : Vc) (i : Nat) : Vc := fun q => if 16 ≤ q ∧ q < 16 + 5 * i ∧ (q - 16) % 5 = 4 then 0 else u q
theorem stA_s {v : Vc} {c p : Nat} : vset (stA v c p) (3 * p + 1) (if p = c then 1 else 0) = stA v c (p + 1) := by
  funext q
  by_cases e : q = 3 * p + 1
  · subst e
    rw [vset_s]
    unfold stA
    have h9 : 3 * p + 1 < 3 * (p + 1) ∧ (3 * p + 1) % 3 = 1 := by omega
    rw [if_pos h9, show (3 * p + 1) / 3 = p by omega]
  · rw [vset_n _ _ e]
    unfold stA
    by_cases e2 : q < 3 * p ∧ q % 3 = 1
    · have h9 : q < 3 * (p + 1) ∧ q % 3 = 1 := by omega
      rw [if_pos e2, if_pos h9]
    · rw [if_neg e2, if_neg (by omega)]
theorem stB_s {u : Vc} {i : Nat} : vset (stB u i) (16 + 5 * i + 4) 0 = stB u (i + 1) := by
  funext q
  by_cases e : q = 16 + 5 * i + 4
  · subst e
    rw [vset_s]
    unfold stB
    rw [if_pos (by omega)]
  · rw [vset_n _ _ e]
    unfold stB
    by_cases e2 : 16 ≤ q ∧ q < 16 + 5 * i ∧ (q - 16) % 5 = 4
    · rw [if_pos e2, if_pos (by omega)]
    · rw [if_neg e2, if_neg (by omega)]
theorem st_end {pr : Pr} {v : Vc} {c : Nat} (hv : VOk pr v) (hP : pP pr ≤ 4) (q : Nat) : stB (vset (stA v c (pP pr)) 13 0) (v 15) q = staleF pr v c q := by
  have h8 := hv.2.2.2.2.2.2.2
  unfold stB staleF
  by_cases e : q = 13
  · subst e; rw [if_neg (by omega), vset_s, if_pos rfl]
  rw [if_neg e, vset_n _ _ e]
  unfold stA
  by_cases e1 : q < 3 * pP pr ∧ q % 3 = 1
  · rw [if_neg (by omega), if_pos e1, if_pos e1]
  rw [if_neg e1, if_neg e1]
  by_cases e2 : 16 ≤ q ∧ (q - 16) % 5 = 4
  · rw [if_pos e2]
    by_cases e3 : q < 16 + 5 * v 15
    · rw [if_pos ⟨e2.1, e3, e2.2⟩]
    · rw [if_neg (by omega), h8 q (by omega)]
  · rw [if_neg e2, if_neg (by omega)]
set_option maxRecDepth 100000 in
set_option maxHeartbeats 4000000 in
theorem c_X11_stale {σ : Sg} {pr : Pr} {v : Vc} (hp : PrM σ pr) (hk : PrOk pr) (hN : Vat σ 59 0 v) (hv : VOk pr v) (c : Nat) (hc : c < 4) : Sm 77 mX11_stale [.ref 53, .int (nI c)] σ (qv fun σ2 => Fr 53 σ σ2 [59] [11] ∧ Vat σ2 59 0 (staleF pr v c) ∧ (σ2 53).1 11 = nI 0) := by
  refine Sm.of mk_X11_stale (Nat.le_of_ble_eq_true rfl) rfl (fun X hX => ?_)
  have h15 := hv.2.2.2.2.1
  have hP := hk.1
  have L2 : ∀ m i, i + m = v 15 → ∀ σ1, Fr 53 σ σ1 [59] [11] → Vat σ1 59 0 (stB (vset (stA v c (pP pr)) 13 0) i) → (σ1 53).1 11 = nI 0 → Sw 77 mX11_stale X (ZS 77 mX11_stale (qv fun σ2 => Fr 53 σ σ2 [59] [11] ∧ Vat σ2 59 0 (staleF pr v c) ∧ (σ2 53).1 11 = nI 0) X) 51 [some (.ref 53), some (.int (nI c)), some (.int (nI i))] [] σ1 := by
    intro m
    induction m with
    | zero =>
      intro i hi σ1 hf hV h11
      have e15 : (σ1 59).1 15 = nI (v 15) := by
        rw [hV.at0 15 (by decide)]
        unfold stB
        rw [if_neg (by omega), vset_n _ _ (by decide)]
        unfold stA
        rw [if_neg (by omega)]
      refine s_iload_n hX dX11_stale_51 rfl ?_
      refine s_aload_n hX dX11_stale_52 rfl ?_
      refine s_getR hX dX11_stale_53 fl_X11_30 rfl rfl (by omega) ?_
      refine s_bipush (v := nI 15) hX dX11_stale_56 (by decide) ?_
      refine s_iald (x := nI (v 15)) hX dX11_stale_58 rfl (by omega) (by omega) (by decide) e15 ?_
      refine s_icmp_ge_n (tgt := 82) hX dX11_stale_59 (by decide) (by omega) (by omega) (fun q59 => ?_) (fun q59 => ?_)
      · refine s_vret hX dX11_stale_82 rfl rfl ?_
        refine ⟨hf, hV.to (fun j _ => ?_), h11⟩
        rw [show i = v 15 by omega]
        exact st_end hv hP.2 j
      · omega
    | succ m ih =>
      intro i hi σ1 hf hV h11
      have e15 : (σ1 59).1 15 = nI (v 15) := by
        rw [hV.at0 15 (by decide)]
        unfold stB
        rw [if_neg (by omega), vset_n _ _ (by decide)]
        unfold stA
        rw [if_neg (by omega)]
      refine s_iload_n hX dX11_stale_51 rfl ?_
      refine s_aload_n hX dX11_stale_52 rfl ?_
      refine s_getR hX dX11_stale_53 fl_X11_30 rfl rfl (by omega) ?_
      refine s_bipush (v := nI 15) hX dX11_stale_56 (by decide) ?_
      refine s_iald (x := nI (v 15)) hX dX11_stale_58 rfl (by omega) (by omega) (by decide) e15 ?_
      refine s_icmp_ge_n (tgt := 82) hX dX11_stale_59 (by decide) (by omega) (by omega) (fun q59 => ?_) (fun q59 => ?_)
      · omega
      · refine s_aload_n hX dX11_stale_62 rfl ?_
        refine s_getR hX dX11_stale_63 fl_X11_30 rfl rfl (by omega) ?_
        refine s_bipush (v := nI 16) hX dX11_stale_66 (by decide) ?_
        refine s_iconst (v := nI 5) hX dX11_stale_68 (by decide) ?_
        refine s_iload_n hX dX11_stale_69 rfl ?_
        refine s_imul_n hX dX11_stale_70 ?_
        refine s_iadd_n hX dX11_stale_71 ?_
        refine s_iconst (v := nI 4) hX dX11_stale_72 (by decide) ?_
        refine s_iadd_n hX dX11_stale_73 ?_
        refine s_iconst (v := nI 0) hX dX11_stale_74 (by decide) ?_
        refine s_iast hX dX11_stale_75 rfl (by omega) (by omega) (by decide) ?_
        refine s_iinc_n (c := 1) hX dX11_stale_76 rfl (by decide) rfl st_3_2 ?_
        refine s_goto (tgt := 51) hX dX11_stale_79 (by decide) ?_
        refine ih (i + 1) (by omega) _ (hf.wI (by decide) (by decide)) ?_ (by rw [wI_a _ _ (by decide)]; exact h11)
        rw [← stB_s]
        exact hV.upd
  have L1 : ∀ m p, p + m = pP pr → ∀ σ1, Fr 53 σ σ1 [59] [11] → Vat σ1 59 0 (stA v c p) → Sw 77 mX11_stale X (ZS 77 mX11_stale (qv fun σ2 => Fr 53 σ σ2 [59] [11] ∧ Vat σ2 59 0 (staleF pr v c) ∧ (σ2 53).1 11 = nI 0) X) 2 [some (.ref 53), some (.int (nI c)), some (.int (nI p))] [] σ1 := by
    intro m
    induction m with
    | zero =>
      intro p hpm σ1 hf hV
      have e0 : (σ1 53).1 0 = nI (pP pr) := (hf.2.1 0 (by decide)).trans hp.1
      refine s_iload_n hX dX11_stale_2 rfl ?_
      refine s_aload_n hX dX11_stale_3 rfl ?_
      refine s_getI (x := nI (pP pr)) hX dX11_stale_4 fl_X11_7 rfl rfl (by omega) e0 ?_
      refine s_icmp_ge_n (tgt := 36) hX dX11_stale_7 (by decide) (by omega) (by omega) (fun q7 => ?_) (fun q7 => ?_)
      · refine s_aload_n hX dX11_stale_36 rfl ?_
        refine s_getR hX dX11_stale_37 fl_X11_30 rfl rfl (by omega) ?_
        refine s_bipush (v := nI 13) hX dX11_stale_40 (by decide) ?_
        refine s_iconst (v := nI 0) hX dX11_stale_42 (by decide) ?_
        refine s_iast hX dX11_stale_43 rfl (by omega) (by omega) (by decide) ?_
        refine s_aload_n hX dX11_stale_44 rfl ?_
        refine s_iconst (v := nI 0) hX dX11_stale_45 (by decide) ?_
        refine s_putI hX dX11_stale_46 fl_X11_136 rfl rfl (by omega) rfl rfl ?_
        refine s_iconst (v := nI 0) hX dX11_stale_49 (by decide) ?_
        refine s_istore_n hX dX11_stale_50 (Nat.le_of_ble_eq_true rfl) rfl st_3_2 ?_
        refine L2 (v 15) 0 (by omega) _ ((hf.wI (by decide) (by decide)).put (by decide)) ?_ (by rw [wI_s])
        have h0 : stB (vset (stA v c (pP pr)) 13 0) 0 = vset (stA v c (pP pr)) 13 0 := by
          funext q
          unfold stB
          rw [if_neg (by omega)]
        rw [h0, show pP pr = p by omega]
        exact (hV.upd (k := 13) (x := 0)).kept (wI_a _ _ (by decide))
      · omega
    | succ m ih =>
      intro p hpm σ1 hf hV
      have e0 : (σ1 53).1 0 = nI (pP pr) := (hf.2.1 0 (by decide)).trans hp.1
      refine s_iload_n hX dX11_stale_2 rfl ?_
      refine s_aload_n hX dX11_stale_3 rfl ?_
      refine s_getI (x := nI (pP pr)) hX dX11_stale_4 fl_X11_7 rfl rfl (by omega) e0 ?_
      refine s_icmp_ge_n (tgt := 36) hX dX11_stale_7 (by decide) (by omega) (by omega) (fun q7 => ?_) (fun q7 => ?_)
      · omega
      · refine s_aload_n hX dX11_stale_10 rfl ?_
        refine s_getR hX dX11_stale_11 fl_X11_30 rfl rfl (by omega) ?_
        refine s_iconst (v := nI 3) hX dX11_stale_14 (by decide) ?_
        refine s_iload_n hX dX11_stale_15 rfl ?_
        refine s_imul_n hX dX11_stale_16 ?_
        refine s_iconst (v := nI 1) hX dX11_stale_17 (by decide) ?_
        refine s_iadd_n hX dX11_stale_18 ?_
        refine s_iload_n hX dX11_stale_19 rfl ?_
        refine s_iload_n hX dX11_stale_20 rfl ?_
        refine s_icmp_ne_n (tgt := 28) hX dX11_stale_21 (by decide) (by omega) (by omega) (fun q21 => ?_) (fun q21 => ?_)
        · refine s_iconst (v := nI 0) hX dX11_stale_28 (by decide) ?_
          refine s_iast hX dX11_stale_29 rfl (by omega) (by omega) (by decide) ?_
          refine s_iinc_n (c := 1) hX dX11_stale_30 rfl (by decide) rfl st_3_2 ?_
          refine s_goto (tgt := 2) hX dX11_stale_33 (by decide) ?_
          refine ih (p + 1) (by omega) _ (hf.wI (by decide) (by decide)) ?_
          rw [← stA_s]
          first
            | (rw [if_neg q21]; exact hV.upd)
            | (rw [if_pos q21]; exact hV.upd)
        · refine s_iconst (v := nI 1) hX dX11_stale_24 (by decide) ?_
          refine s_goto (tgt := 29) hX dX11_stale_25 (by decide) ?_
          refine s_iast hX dX11_stale_29 rfl (by omega) (by omega) (by decide) ?_
          refine s_iinc_n (c := 1) hX dX11_stale_30 rfl (by decide) rfl st_3_2 ?_
          refine s_goto (tgt := 2) hX dX11_stale_33 (by decide) ?_
          refine ih (p + 1) (by omega) _ (hf.wI (by decide) (by decide)) ?_
          rw [← stA_s]
          first
            | (rw [if_neg q21]; exact hV.upd)
            | (rw [if_pos q21]; exact hV.upd)
  refine s_iconst (v := nI 0) hX dX11_stale_0 (by decide) ?_
  refine s_istore_n hX dX11_stale_1 (Nat.le_of_ble_eq_true rfl) rfl st_3_2 ?_
  refine L1 (pP pr) 0 (by omega) σ Fr.rf ?_
  have h0 : stA v c 0 = v := by
    funext q
    unfold stA
    rw [if_neg (by omega)]
  rw [h0]
  exact hN
set_option maxRecDepth 100000 in
set_option maxHeartbeats 4000000 in
theorem c_X11_cacheActs {σ : Sg} {pr : Pr} {v : Vc} (hp : PrM σ pr) (hk : PrOk pr) (hN : Vat σ 59 0 v) (hv : VOk pr v) {c hf op arg hd : Nat} (hc : c < pP pr) (hf0 : hf < pP pr) (ho0 : op < 16) (ha : arg < 16) (hd2 : hd < 2) (h10 : (σ 53).1 10 = nI hf) (h11 : (σ 53).1 11 = nI hd) : Sm 77 mX11_cacheActs [.ref 53, .int (nI c), .int (nI op), .int (nI arg)] σ (qi fun r σ2 => r = nI (caF pr c hf op arg v hd).1 ∧ Fr 53 σ σ2 [59] [11] ∧ Vat σ2 59 0 (caF pr c hf op arg v hd).2.1 ∧ (σ2 53).1 11 = nI (caF pr c hf op arg v hd).2.2) := by
  refine Sm.of mk_X11_cacheActs (Nat.le_of_ble_eq_true rfl) rfl (fun X hX => ?_)
  have hP := hk.1
  have hcv := hv.1 c hc
  refine s_iconst (v := nI 3) hX dX11_cacheActs_0 (by decide) ?_
  refine s_iload_n hX dX11_cacheActs_1 rfl ?_
  refine s_imul_n hX dX11_cacheActs_2 ?_
  refine s_istore hX dX11_cacheActs_3 (Nat.le_of_ble_eq_true rfl) rfl st_5_4 ?_
  refine s_iload_n hX dX11_cacheActs_5 rfl ?_
  by_cases k6_1 : op = 1
  · refine s_tableIn (off := 46) (tgt := 52) hX dX11_cacheActs_6 (by rw [k6_1]; decide) (by rw [k6_1]; decide) (by rw [k6_1]; decide) (by decide) ?_
    refine s_aload_n hX dX11_cacheActs_52 rfl ?_
    refine s_getR hX dX11_cacheActs_53 fl_X11_30 rfl rfl (by omega) ?_
    refine s_iload hX dX11_cacheActs_56 rfl ?_
    refine s_iload_n hX dX11_cacheActs_58 rfl ?_
    refine s_iast hX dX11_cacheActs_59 rfl (by omega) (by omega) (by decide) ?_
    refine s_iconst (v := nI 0) hX dX11_cacheActs_60 (by decide) ?_
    refine s_iret hX dX11_cacheActs_61 rfl rfl ?_
    have hC : caF pr c hf op arg v hd = (0, vset v (3 * c) arg, hd) := by simp [caF, k6_1]
    rw [hC]
    exact ⟨rfl, Fr.rf.wI (by decide) (by decide), hN.upd, by rw [wI_a _ _ (by decide)]; exact h11⟩
  by_cases k6_2 : op = 2
  · refine s_tableIn (off := 56) (tgt := 62) hX dX11_cacheActs_6 (by rw [k6_2]; decide) (by rw [k6_2]; decide) (by rw [k6_2]; decide) (by decide) ?_
    refine s_aload_n hX dX11_cacheActs_62 rfl ?_
    refine s_iload_n hX dX11_cacheActs_63 rfl ?_
    refine s_iload_n hX dX11_cacheActs_64 rfl ?_
    refine s_aload_n hX dX11_cacheActs_65 rfl ?_
    refine s_getI (x := nI (pP pr)) hX dX11_cacheActs_66 fl_X11_7 rfl rfl (by omega) hp.1 ?_
    refine s_iload_n hX dX11_cacheActs_69 rfl ?_
    refine s_iload_n hX dX11_cacheActs_70 rfl ?_
    refine s_iconst (v := nI 3) hX dX11_cacheActs_71 (by decide) ?_
    refine s_icmp_ne_n (tgt := 87) hX dX11_cacheActs_72 (by decide) (by omega) (by omega) (fun q72 => ?_) (fun q72 => ?_)
    · refine s_iconst (v := nI 0) hX dX11_cacheActs_87 (by decide) ?_
      refine s_callVi (as := [_, _, _, _, _]) hX dX11_cacheActs_88 mk_X11_send lk_X11_139 (c_X11_send (k := arg) (f := c) (t := pP pr) (u := c) hp hk hN hv ha (by omega) (by omega) (by omega) (by omega)) rfl (by omega) rfl rfl rfl ⟨rfl, rfl⟩ (Nat.le_of_ble_eq_true rfl) (Nat.le_of_ble_eq_true rfl) (Nat.le_of_ble_eq_true rfl) rfl (fun v88 σ88 p88 => ?_)
      obtain ⟨rfl, ho, hV⟩ := p88
      refine s_if_eq (tgt := 98) hX dX11_cacheActs_91 (by decide) (fun q91 => ?_) (fun q91 => ?_)
      · refine s_iconst (v := nI 3) hX dX11_cacheActs_98 (by decide) ?_
        refine s_iret hX dX11_cacheActs_99 rfl rfl ?_
        first
          | (exfalso; omega)
          | (have hC : caF pr c hf op arg v hd = (b3 (sendF pr v (arg, c, pP pr, c, 0)).1, (sendF pr v (arg, c, pP pr, c, 0)).2, hd) := by simp [caF, k6_2]
             rw [hC]
             exact ⟨b3_f q91, Fr.of ho (by decide), hV, by rw [ho 53 (by decide)]; exact h11⟩)
          | (have hC : caF pr c hf op arg v hd = (b3 (sendF pr v (arg, c, pP pr, c, 0)).1, (sendF pr v (arg, c, pP pr, c, 0)).2, hd) := by simp [caF, k6_2]
             rw [hC]
             exact ⟨b3_t q91, Fr.of ho (by decide), hV, by rw [ho 53 (by decide)]; exact h11⟩)
          | (have hC : caF pr c hf op arg v hd = (b3 (sendF pr v (arg, c, pP pr, c, v (3 * c + 1))).1, (sendF pr v (arg, c, pP pr, c, v (3 * c + 1))).2, hd) := by simp [caF, k6_3]
             rw [hC]
             exact ⟨b3_f q91, Fr.of ho (by decide), hV, by rw [ho 53 (by decide)]; exact h11⟩)
          | (have hC : caF pr c hf op arg v hd = (b3 (sendF pr v (arg, c, pP pr, c, v (3 * c + 1))).1, (sendF pr v (arg, c, pP pr, c, v (3 * c + 1))).2, hd) := by simp [caF, k6_3]
             rw [hC]
             exact ⟨b3_t q91, Fr.of ho (by decide), hV, by rw [ho 53 (by decide)]; exact h11⟩)
      · refine s_iconst (v := nI 0) hX dX11_cacheActs_94 (by decide) ?_
        refine s_goto (tgt := 99) hX dX11_cacheActs_95 (by decide) ?_
        refine s_iret hX dX11_cacheActs_99 rfl rfl ?_
        first
          | (exfalso; omega)
          | (have hC : caF pr c hf op arg v hd = (b3 (sendF pr v (arg, c, pP pr, c, 0)).1, (sendF pr v (arg, c, pP pr, c, 0)).2, hd) := by simp [caF, k6_2]
             rw [hC]
             exact ⟨b3_f q91, Fr.of ho (by decide), hV, by rw [ho 53 (by decide)]; exact h11⟩)
          | (have hC : caF pr c hf op arg v hd = (b3 (sendF pr v (arg, c, pP pr, c, 0)).1, (sendF pr v (arg, c, pP pr, c, 0)).2, hd) := by simp [caF, k6_2]
             rw [hC]
             exact ⟨b3_t q91, Fr.of ho (by decide), hV, by rw [ho 53 (by decide)]; exact h11⟩)
          | (have hC : caF pr c hf op arg v hd = (b3 (sendF pr v (arg, c, pP pr, c, v (3 * c + 1))).1, (sendF pr v (arg, c, pP pr, c, v (3 * c + 1))).2, hd) := by simp [caF, k6_3]
             rw [hC]
             exact ⟨b3_f q91, Fr.of ho (by decide), hV, by rw [ho 53 (by decide)]; exact h11⟩)
          | (have hC : caF pr c hf op arg v hd = (b3 (sendF pr v (arg, c, pP pr, c, v (3 * c + 1))).1, (sendF pr v (arg, c, pP pr, c, v (3 * c + 1))).2, hd) := by simp [caF, k6_3]
             rw [hC]
             exact ⟨b3_t q91, Fr.of ho (by decide), hV, by rw [ho 53 (by decide)]; exact h11⟩)
    · refine s_aload_n hX dX11_cacheActs_75 rfl ?_
      refine s_getR hX dX11_cacheActs_76 fl_X11_30 rfl rfl (by omega) ?_
      refine s_iload hX dX11_cacheActs_79 rfl ?_
      refine s_iconst (v := nI 1) hX dX11_cacheActs_81 (by decide) ?_
      refine s_iadd_n hX dX11_cacheActs_82 ?_
      refine s_iald (x := nI (v _)) hX dX11_cacheActs_83 rfl (by omega) (by omega) (by decide) (hN.at0 _ (by omega)) ?_
      refine s_goto (tgt := 88) hX dX11_cacheActs_84 (by decide) ?_
      refine s_callVi (as := [_, _, _, _, _]) hX dX11_cacheActs_88 mk_X11_send lk_X11_139 (c_X11_send (k := arg) (f := c) (t := pP pr) (u := c) hp hk hN hv ha (by omega) (by omega) (by omega) (by omega)) rfl (by omega) rfl rfl rfl ⟨rfl, rfl⟩ (Nat.le_of_ble_eq_true rfl) (Nat.le_of_ble_eq_true rfl) (Nat.le_of_ble_eq_true rfl) rfl (fun v88 σ88 p88 => ?_)
      obtain ⟨rfl, ho, hV⟩ := p88
      refine s_if_eq (tgt := 98) hX dX11_cacheActs_91 (by decide) (fun q91 => ?_) (fun q91 => ?_)
      · refine s_iconst (v := nI 3) hX dX11_cacheActs_98 (by decide) ?_
        refine s_iret hX dX11_cacheActs_99 rfl rfl ?_
        first
          | (exfalso; omega)
          | (have hC : caF pr c hf op arg v hd = (b3 (sendF pr v (arg, c, pP pr, c, 0)).1, (sendF pr v (arg, c, pP pr, c, 0)).2, hd) := by simp [caF, k6_2]
             rw [hC]
             exact ⟨b3_f q91, Fr.of ho (by decide), hV, by rw [ho 53 (by decide)]; exact h11⟩)
          | (have hC : caF pr c hf op arg v hd = (b3 (sendF pr v (arg, c, pP pr, c, 0)).1, (sendF pr v (arg, c, pP pr, c, 0)).2, hd) := by simp [caF, k6_2]
             rw [hC]
             exact ⟨b3_t q91, Fr.of ho (by decide), hV, by rw [ho 53 (by decide)]; exact h11⟩)
          | (have hC : caF pr c hf op arg v hd = (b3 (sendF pr v (arg, c, pP pr, c, v (3 * c + 1))).1, (sendF pr v (arg, c, pP pr, c, v (3 * c + 1))).2, hd) := by simp [caF, k6_3]
             rw [hC]
             exact ⟨b3_f q91, Fr.of ho (by decide), hV, by rw [ho 53 (by decide)]; exact h11⟩)
          | (have hC : caF pr c hf op arg v hd = (b3 (sendF pr v (arg, c, pP pr, c, v (3 * c + 1))).1, (sendF pr v (arg, c, pP pr, c, v (3 * c + 1))).2, hd) := by simp [caF, k6_3]
             rw [hC]
             exact ⟨b3_t q91, Fr.of ho (by decide), hV, by rw [ho 53 (by decide)]; exact h11⟩)
      · refine s_iconst (v := nI 0) hX dX11_cacheActs_94 (by decide) ?_
        refine s_goto (tgt := 99) hX dX11_cacheActs_95 (by decide) ?_
        refine s_iret hX dX11_cacheActs_99 rfl rfl ?_
        first
          | (exfalso; omega)
          | (have hC : caF pr c hf op arg v hd = (b3 (sendF pr v (arg, c, pP pr, c, 0)).1, (sendF pr v (arg, c, pP pr, c, 0)).2, hd) := by simp [caF, k6_2]
             rw [hC]
             exact ⟨b3_f q91, Fr.of ho (by decide), hV, by rw [ho 53 (by decide)]; exact h11⟩)
          | (have hC : caF pr c hf op arg v hd = (b3 (sendF pr v (arg, c, pP pr, c, 0)).1, (sendF pr v (arg, c, pP pr, c, 0)).2, hd) := by simp [caF, k6_2]
             rw [hC]
             exact ⟨b3_t q91, Fr.of ho (by decide), hV, by rw [ho 53 (by decide)]; exact h11⟩)
          | (have hC : caF pr c hf op arg v hd = (b3 (sendF pr v (arg, c, pP pr, c, v (3 * c + 1))).1, (sendF pr v (arg, c, pP pr, c, v (3 * c + 1))).2, hd) := by simp [caF, k6_3]
             rw [hC]
             exact ⟨b3_f q91, Fr.of ho (by decide), hV, by rw [ho 53 (by decide)]; exact h11⟩)
          | (have hC : caF pr c hf op arg v hd = (b3 (sendF pr v (arg, c, pP pr, c, v (3 * c + 1))).1, (sendF pr v (arg, c, pP pr, c, v (3 * c + 1))).2, hd) := by simp [caF, k6_3]
             rw [hC]
             exact ⟨b3_t q91, Fr.of ho (by decide), hV, by rw [ho 53 (by decide)]; exact h11⟩)
  by_cases k6_3 : op = 3
  · refine s_tableIn (off := 56) (tgt := 62) hX dX11_cacheActs_6 (by rw [k6_3]; decide) (by rw [k6_3]; decide) (by rw [k6_3]; decide) (by decide) ?_
    refine s_aload_n hX dX11_cacheActs_62 rfl ?_
    refine s_iload_n hX dX11_cacheActs_63 rfl ?_
    refine s_iload_n hX dX11_cacheActs_64 rfl ?_
    refine s_aload_n hX dX11_cacheActs_65 rfl ?_
    refine s_getI (x := nI (pP pr)) hX dX11_cacheActs_66 fl_X11_7 rfl rfl (by omega) hp.1 ?_
    refine s_iload_n hX dX11_cacheActs_69 rfl ?_
    refine s_iload_n hX dX11_cacheActs_70 rfl ?_
    refine s_iconst (v := nI 3) hX dX11_cacheActs_71 (by decide) ?_
    refine s_icmp_ne_n (tgt := 87) hX dX11_cacheActs_72 (by decide) (by omega) (by omega) (fun q72 => ?_) (fun q72 => ?_)
    · refine s_iconst (v := nI 0) hX dX11_cacheActs_87 (by decide) ?_
      refine s_callVi (as := [_, _, _, _, _]) hX dX11_cacheActs_88 mk_X11_send lk_X11_139 (c_X11_send (k := arg) (f := c) (t := pP pr) (u := c) hp hk hN hv ha (by omega) (by omega) (by omega) (by omega)) rfl (by omega) rfl rfl rfl ⟨rfl, rfl⟩ (Nat.le_of_ble_eq_true rfl) (Nat.le_of_ble_eq_true rfl) (Nat.le_of_ble_eq_true rfl) rfl (fun v88 σ88 p88 => ?_)
      obtain ⟨rfl, ho, hV⟩ := p88
      refine s_if_eq (tgt := 98) hX dX11_cacheActs_91 (by decide) (fun q91 => ?_) (fun q91 => ?_)
      · refine s_iconst (v := nI 3) hX dX11_cacheActs_98 (by decide) ?_
        refine s_iret hX dX11_cacheActs_99 rfl rfl ?_
        first
          | (exfalso; omega)
          | (have hC : caF pr c hf op arg v hd = (b3 (sendF pr v (arg, c, pP pr, c, 0)).1, (sendF pr v (arg, c, pP pr, c, 0)).2, hd) := by simp [caF, k6_2]
             rw [hC]
             exact ⟨b3_f q91, Fr.of ho (by decide), hV, by rw [ho 53 (by decide)]; exact h11⟩)
          | (have hC : caF pr c hf op arg v hd = (b3 (sendF pr v (arg, c, pP pr, c, 0)).1, (sendF pr v (arg, c, pP pr, c, 0)).2, hd) := by simp [caF, k6_2]
             rw [hC]
             exact ⟨b3_t q91, Fr.of ho (by decide), hV, by rw [ho 53 (by decide)]; exact h11⟩)
          | (have hC : caF pr c hf op arg v hd = (b3 (sendF pr v (arg, c, pP pr, c, v (3 * c + 1))).1, (sendF pr v (arg, c, pP pr, c, v (3 * c + 1))).2, hd) := by simp [caF, k6_3]
             rw [hC]
             exact ⟨b3_f q91, Fr.of ho (by decide), hV, by rw [ho 53 (by decide)]; exact h11⟩)
          | (have hC : caF pr c hf op arg v hd = (b3 (sendF pr v (arg, c, pP pr, c, v (3 * c + 1))).1, (sendF pr v (arg, c, pP pr, c, v (3 * c + 1))).2, hd) := by simp [caF, k6_3]
             rw [hC]
             exact ⟨b3_t q91, Fr.of ho (by decide), hV, by rw [ho 53 (by decide)]; exact h11⟩)
      · refine s_iconst (v := nI 0) hX dX11_cacheActs_94 (by decide) ?_
        refine s_goto (tgt := 99) hX dX11_cacheActs_95 (by decide) ?_
        refine s_iret hX dX11_cacheActs_99 rfl rfl ?_
        first
          | (exfalso; omega)
          | (have hC : caF pr c hf op arg v hd = (b3 (sendF pr v (arg, c, pP pr, c, 0)).1, (sendF pr v (arg, c, pP pr, c, 0)).2, hd) := by simp [caF, k6_2]
             rw [hC]
             exact ⟨b3_f q91, Fr.of ho (by decide), hV, by rw [ho 53 (by decide)]; exact h11⟩)
          | (have hC : caF pr c hf op arg v hd = (b3 (sendF pr v (arg, c, pP pr, c, 0)).1, (sendF pr v (arg, c, pP pr, c, 0)).2, hd) := by simp [caF, k6_2]
             rw [hC]
             exact ⟨b3_t q91, Fr.of ho (by decide), hV, by rw [ho 53 (by decide)]; exact h11⟩)
          | (have hC : caF pr c hf op arg v hd = (b3 (sendF pr v (arg, c, pP pr, c, v (3 * c + 1))).1, (sendF pr v (arg, c, pP pr, c, v (3 * c + 1))).2, hd) := by simp [caF, k6_3]
             rw [hC]
             exact ⟨b3_f q91, Fr.of ho (by decide), hV, by rw [ho 53 (by decide)]; exact h11⟩)
          | (have hC : caF pr c hf op arg v hd = (b3 (sendF pr v (arg, c, pP pr, c, v (3 * c + 1))).1, (sendF pr v (arg, c, pP pr, c, v (3 * c + 1))).2, hd) := by simp [caF, k6_3]
             rw [hC]
             exact ⟨b3_t q91, Fr.of ho (by decide), hV, by rw [ho 53 (by decide)]; exact h11⟩)
    · refine s_aload_n hX dX11_cacheActs_75 rfl ?_
      refine s_getR hX dX11_cacheActs_76 fl_X11_30 rfl rfl (by omega) ?_
      refine s_iload hX dX11_cacheActs_79 rfl ?_
      refine s_iconst (v := nI 1) hX dX11_cacheActs_81 (by decide) ?_
      refine s_iadd_n hX dX11_cacheActs_82 ?_
      refine s_iald (x := nI (v _)) hX dX11_cacheActs_83 rfl (by omega) (by omega) (by decide) (hN.at0 _ (by omega)) ?_
      refine s_goto (tgt := 88) hX dX11_cacheActs_84 (by decide) ?_
      refine s_callVi (as := [_, _, _, _, _]) hX dX11_cacheActs_88 mk_X11_send lk_X11_139 (c_X11_send (k := arg) (f := c) (t := pP pr) (u := c) hp hk hN hv ha (by omega) (by omega) (by omega) (by omega)) rfl (by omega) rfl rfl rfl ⟨rfl, rfl⟩ (Nat.le_of_ble_eq_true rfl) (Nat.le_of_ble_eq_true rfl) (Nat.le_of_ble_eq_true rfl) rfl (fun v88 σ88 p88 => ?_)
      obtain ⟨rfl, ho, hV⟩ := p88
      refine s_if_eq (tgt := 98) hX dX11_cacheActs_91 (by decide) (fun q91 => ?_) (fun q91 => ?_)
      · refine s_iconst (v := nI 3) hX dX11_cacheActs_98 (by decide) ?_
        refine s_iret hX dX11_cacheActs_99 rfl rfl ?_
        first
          | (exfalso; omega)
          | (have hC : caF pr c hf op arg v hd = (b3 (sendF pr v (arg, c, pP pr, c, 0)).1, (sendF pr v (arg, c, pP pr, c, 0)).2, hd) := by simp [caF, k6_2]
             rw [hC]
             exact ⟨b3_f q91, Fr.of ho (by decide), hV, by rw [ho 53 (by decide)]; exact h11⟩)
          | (have hC : caF pr c hf op arg v hd = (b3 (sendF pr v (arg, c, pP pr, c, 0)).1, (sendF pr v (arg, c, pP pr, c, 0)).2, hd) := by simp [caF, k6_2]
             rw [hC]
             exact ⟨b3_t q91, Fr.of ho (by decide), hV, by rw [ho 53 (by decide)]; exact h11⟩)
          | (have hC : caF pr c hf op arg v hd = (b3 (sendF pr v (arg, c, pP pr, c, v (3 * c + 1))).1, (sendF pr v (arg, c, pP pr, c, v (3 * c + 1))).2, hd) := by simp [caF, k6_3]
             rw [hC]
             exact ⟨b3_f q91, Fr.of ho (by decide), hV, by rw [ho 53 (by decide)]; exact h11⟩)
          | (have hC : caF pr c hf op arg v hd = (b3 (sendF pr v (arg, c, pP pr, c, v (3 * c + 1))).1, (sendF pr v (arg, c, pP pr, c, v (3 * c + 1))).2, hd) := by simp [caF, k6_3]
             rw [hC]
             exact ⟨b3_t q91, Fr.of ho (by decide), hV, by rw [ho 53 (by decide)]; exact h11⟩)
      · refine s_iconst (v := nI 0) hX dX11_cacheActs_94 (by decide) ?_
        refine s_goto (tgt := 99) hX dX11_cacheActs_95 (by decide) ?_
        refine s_iret hX dX11_cacheActs_99 rfl rfl ?_
        first
          | (exfalso; omega)
          | (have hC : caF pr c hf op arg v hd = (b3 (sendF pr v (arg, c, pP pr, c, 0)).1, (sendF pr v (arg, c, pP pr, c, 0)).2, hd) := by simp [caF, k6_2]
             rw [hC]
             exact ⟨b3_f q91, Fr.of ho (by decide), hV, by rw [ho 53 (by decide)]; exact h11⟩)
          | (have hC : caF pr c hf op arg v hd = (b3 (sendF pr v (arg, c, pP pr, c, 0)).1, (sendF pr v (arg, c, pP pr, c, 0)).2, hd) := by simp [caF, k6_2]
             rw [hC]
             exact ⟨b3_t q91, Fr.of ho (by decide), hV, by rw [ho 53 (by decide)]; exact h11⟩)
          | (have hC : caF pr c hf op arg v hd = (b3 (sendF pr v (arg, c, pP pr, c, v (3 * c + 1))).1, (sendF pr v (arg, c, pP pr, c, v (3 * c + 1))).2, hd) := by simp [caF, k6_3]
             rw [hC]
             exact ⟨b3_f q91, Fr.of ho (by decide), hV, by rw [ho 53 (by decide)]; exact h11⟩)
          | (have hC : caF pr c hf op arg v hd = (b3 (sendF pr v (arg, c, pP pr, c, v (3 * c + 1))).1, (sendF pr v (arg, c, pP pr, c, v (3 * c + 1))).2, hd) := by simp [caF, k6_3]
             rw [hC]
             exact ⟨b3_t q91, Fr.of ho (by decide), hV, by rw [ho 53 (by decide)]; exact h11⟩)
  by_cases k6_4 : op = 4
  · refine s_tableIn (off := 94) (tgt := 100) hX dX11_cacheActs_6 (by rw [k6_4]; decide) (by rw [k6_4]; decide) (by rw [k6_4]; decide) (by decide) ?_
    refine s_aload_n hX dX11_cacheActs_100 rfl ?_
    refine s_iload_n hX dX11_cacheActs_101 rfl ?_
    refine s_iload_n hX dX11_cacheActs_102 rfl ?_
    refine s_aload_n hX dX11_cacheActs_103 rfl ?_
    refine s_getI (x := nI (hf)) hX dX11_cacheActs_104 fl_X11_133 rfl rfl (by omega) h10 ?_
    refine s_aload_n hX dX11_cacheActs_107 rfl ?_
    refine s_getI (x := nI (hf)) hX dX11_cacheActs_108 fl_X11_133 rfl rfl (by omega) h10 ?_
    refine s_iload_n hX dX11_cacheActs_111 rfl ?_
    refine s_iconst (v := nI 5) hX dX11_cacheActs_112 (by decide) ?_
    refine s_icmp_ne_n (tgt := 128) hX dX11_cacheActs_113 (by decide) (by omega) (by omega) (fun q113 => ?_) (fun q113 => ?_)
    · refine s_iconst (v := nI 0) hX dX11_cacheActs_128 (by decide) ?_
      refine s_callVi (as := [_, _, _, _, _]) hX dX11_cacheActs_129 mk_X11_send lk_X11_139 (c_X11_send (k := arg) (f := c) (t := hf) (u := hf) hp hk hN hv ha (by omega) (by omega) (by omega) (by omega)) rfl (by omega) rfl rfl rfl ⟨rfl, rfl⟩ (Nat.le_of_ble_eq_true rfl) (Nat.le_of_ble_eq_true rfl) (Nat.le_of_ble_eq_true rfl) rfl (fun v129 σ129 p129 => ?_)
      obtain ⟨rfl, ho, hV⟩ := p129
      refine s_if_eq (tgt := 139) hX dX11_cacheActs_132 (by decide) (fun q132 => ?_) (fun q132 => ?_)
      · refine s_iconst (v := nI 3) hX dX11_cacheActs_139 (by decide) ?_
        refine s_iret hX dX11_cacheActs_140 rfl rfl ?_
        first
          | (exfalso; omega)
          | (have hC : caF pr c hf op arg v hd = (b3 (sendF pr v (arg, c, hf, hf, 0)).1, (sendF pr v (arg, c, hf, hf, 0)).2, hd) := by simp [caF, k6_4]
             rw [hC]
             exact ⟨b3_f q132, Fr.of ho (by decide), hV, by rw [ho 53 (by decide)]; exact h11⟩)
          | (have hC : caF pr c hf op arg v hd = (b3 (sendF pr v (arg, c, hf, hf, 0)).1, (sendF pr v (arg, c, hf, hf, 0)).2, hd) := by simp [caF, k6_4]
             rw [hC]
             exact ⟨b3_t q132, Fr.of ho (by decide), hV, by rw [ho 53 (by decide)]; exact h11⟩)
          | (have hC : caF pr c hf op arg v hd = (b3 (sendF pr v (arg, c, hf, hf, v (3 * c + 1))).1, (sendF pr v (arg, c, hf, hf, v (3 * c + 1))).2, hd) := by simp [caF, k6_5]
             rw [hC]
             exact ⟨b3_f q132, Fr.of ho (by decide), hV, by rw [ho 53 (by decide)]; exact h11⟩)
          | (have hC : caF pr c hf op arg v hd = (b3 (sendF pr v (arg, c, hf, hf, v (3 * c + 1))).1, (sendF pr v (arg, c, hf, hf, v (3 * c + 1))).2, hd) := by simp [caF, k6_5]
             rw [hC]
             exact ⟨b3_t q132, Fr.of ho (by decide), hV, by rw [ho 53 (by decide)]; exact h11⟩)
      · refine s_iconst (v := nI 0) hX dX11_cacheActs_135 (by decide) ?_
        refine s_goto (tgt := 140) hX dX11_cacheActs_136 (by decide) ?_
        refine s_iret hX dX11_cacheActs_140 rfl rfl ?_
        first
          | (exfalso; omega)
          | (have hC : caF pr c hf op arg v hd = (b3 (sendF pr v (arg, c, hf, hf, 0)).1, (sendF pr v (arg, c, hf, hf, 0)).2, hd) := by simp [caF, k6_4]
             rw [hC]
             exact ⟨b3_f q132, Fr.of ho (by decide), hV, by rw [ho 53 (by decide)]; exact h11⟩)
          | (have hC : caF pr c hf op arg v hd = (b3 (sendF pr v (arg, c, hf, hf, 0)).1, (sendF pr v (arg, c, hf, hf, 0)).2, hd) := by simp [caF, k6_4]
             rw [hC]
             exact ⟨b3_t q132, Fr.of ho (by decide), hV, by rw [ho 53 (by decide)]; exact h11⟩)
          | (have hC : caF pr c hf op arg v hd = (b3 (sendF pr v (arg, c, hf, hf, v (3 * c + 1))).1, (sendF pr v (arg, c, hf, hf, v (3 * c + 1))).2, hd) := by simp [caF, k6_5]
             rw [hC]
             exact ⟨b3_f q132, Fr.of ho (by decide), hV, by rw [ho 53 (by decide)]; exact h11⟩)
          | (have hC : caF pr c hf op arg v hd = (b3 (sendF pr v (arg, c, hf, hf, v (3 * c + 1))).1, (sendF pr v (arg, c, hf, hf, v (3 * c + 1))).2, hd) := by simp [caF, k6_5]
             rw [hC]
             exact ⟨b3_t q132, Fr.of ho (by decide), hV, by rw [ho 53 (by decide)]; exact h11⟩)
    · refine s_aload_n hX dX11_cacheActs_116 rfl ?_
      refine s_getR hX dX11_cacheActs_117 fl_X11_30 rfl rfl (by omega) ?_
      refine s_iload hX dX11_cacheActs_120 rfl ?_
      refine s_iconst (v := nI 1) hX dX11_cacheActs_122 (by decide) ?_
      refine s_iadd_n hX dX11_cacheActs_123 ?_
      refine s_iald (x := nI (v _)) hX dX11_cacheActs_124 rfl (by omega) (by omega) (by decide) (hN.at0 _ (by omega)) ?_
      refine s_goto (tgt := 129) hX dX11_cacheActs_125 (by decide) ?_
      refine s_callVi (as := [_, _, _, _, _]) hX dX11_cacheActs_129 mk_X11_send lk_X11_139 (c_X11_send (k := arg) (f := c) (t := hf) (u := hf) hp hk hN hv ha (by omega) (by omega) (by omega) (by omega)) rfl (by omega) rfl rfl rfl ⟨rfl, rfl⟩ (Nat.le_of_ble_eq_true rfl) (Nat.le_of_ble_eq_true rfl) (Nat.le_of_ble_eq_true rfl) rfl (fun v129 σ129 p129 => ?_)
      obtain ⟨rfl, ho, hV⟩ := p129
      refine s_if_eq (tgt := 139) hX dX11_cacheActs_132 (by decide) (fun q132 => ?_) (fun q132 => ?_)
      · refine s_iconst (v := nI 3) hX dX11_cacheActs_139 (by decide) ?_
        refine s_iret hX dX11_cacheActs_140 rfl rfl ?_
        first
          | (exfalso; omega)
          | (have hC : caF pr c hf op arg v hd = (b3 (sendF pr v (arg, c, hf, hf, 0)).1, (sendF pr v (arg, c, hf, hf, 0)).2, hd) := by simp [caF, k6_4]
             rw [hC]
             exact ⟨b3_f q132, Fr.of ho (by decide), hV, by rw [ho 53 (by decide)]; exact h11⟩)
          | (have hC : caF pr c hf op arg v hd = (b3 (sendF pr v (arg, c, hf, hf, 0)).1, (sendF pr v (arg, c, hf, hf, 0)).2, hd) := by simp [caF, k6_4]
             rw [hC]
             exact ⟨b3_t q132, Fr.of ho (by decide), hV, by rw [ho 53 (by decide)]; exact h11⟩)
          | (have hC : caF pr c hf op arg v hd = (b3 (sendF pr v (arg, c, hf, hf, v (3 * c + 1))).1, (sendF pr v (arg, c, hf, hf, v (3 * c + 1))).2, hd) := by simp [caF, k6_5]
             rw [hC]
             exact ⟨b3_f q132, Fr.of ho (by decide), hV, by rw [ho 53 (by decide)]; exact h11⟩)
          | (have hC : caF pr c hf op arg v hd = (b3 (sendF pr v (arg, c, hf, hf, v (3 * c + 1))).1, (sendF pr v (arg, c, hf, hf, v (3 * c + 1))).2, hd) := by simp [caF, k6_5]
             rw [hC]
             exact ⟨b3_t q132, Fr.of ho (by decide), hV, by rw [ho 53 (by decide)]; exact h11⟩)
      · refine s_iconst (v := nI 0) hX dX11_cacheActs_135 (by decide) ?_
        refine s_goto (tgt := 140) hX dX11_cacheActs_136 (by decide) ?_
        refine s_iret hX dX11_cacheActs_140 rfl rfl ?_
        first
          | (exfalso; omega)
          | (have hC : caF pr c hf op arg v hd = (b3 (sendF pr v (arg, c, hf, hf, 0)).1, (sendF pr v (arg, c, hf, hf, 0)).2, hd) := by simp [caF, k6_4]
             rw [hC]
             exact ⟨b3_f q132, Fr.of ho (by decide), hV, by rw [ho 53 (by decide)]; exact h11⟩)
          | (have hC : caF pr c hf op arg v hd = (b3 (sendF pr v (arg, c, hf, hf, 0)).1, (sendF pr v (arg, c, hf, hf, 0)).2, hd) := by simp [caF, k6_4]
             rw [hC]
             exact ⟨b3_t q132, Fr.of ho (by decide), hV, by rw [ho 53 (by decide)]; exact h11⟩)
          | (have hC : caF pr c hf op arg v hd = (b3 (sendF pr v (arg, c, hf, hf, v (3 * c + 1))).1, (sendF pr v (arg, c, hf, hf, v (3 * c + 1))).2, hd) := by simp [caF, k6_5]
             rw [hC]
             exact ⟨b3_f q132, Fr.of ho (by decide), hV, by rw [ho 53 (by decide)]; exact h11⟩)
          | (have hC : caF pr c hf op arg v hd = (b3 (sendF pr v (arg, c, hf, hf, v (3 * c + 1))).1, (sendF pr v (arg, c, hf, hf, v (3 * c + 1))).2, hd) := by simp [caF, k6_5]
             rw [hC]
             exact ⟨b3_t q132, Fr.of ho (by decide), hV, by rw [ho 53 (by decide)]; exact h11⟩)
  by_cases k6_5 : op = 5
  · refine s_tableIn (off := 94) (tgt := 100) hX dX11_cacheActs_6 (by rw [k6_5]; decide) (by rw [k6_5]; decide) (by rw [k6_5]; decide) (by decide) ?_
    refine s_aload_n hX dX11_cacheActs_100 rfl ?_
    refine s_iload_n hX dX11_cacheActs_101 rfl ?_
    refine s_iload_n hX dX11_cacheActs_102 rfl ?_
    refine s_aload_n hX dX11_cacheActs_103 rfl ?_
    refine s_getI (x := nI (hf)) hX dX11_cacheActs_104 fl_X11_133 rfl rfl (by omega) h10 ?_
    refine s_aload_n hX dX11_cacheActs_107 rfl ?_
    refine s_getI (x := nI (hf)) hX dX11_cacheActs_108 fl_X11_133 rfl rfl (by omega) h10 ?_
    refine s_iload_n hX dX11_cacheActs_111 rfl ?_
    refine s_iconst (v := nI 5) hX dX11_cacheActs_112 (by decide) ?_
    refine s_icmp_ne_n (tgt := 128) hX dX11_cacheActs_113 (by decide) (by omega) (by omega) (fun q113 => ?_) (fun q113 => ?_)
    · refine s_iconst (v := nI 0) hX dX11_cacheActs_128 (by decide) ?_
      refine s_callVi (as := [_, _, _, _, _]) hX dX11_cacheActs_129 mk_X11_send lk_X11_139 (c_X11_send (k := arg) (f := c) (t := hf) (u := hf) hp hk hN hv ha (by omega) (by omega) (by omega) (by omega)) rfl (by omega) rfl rfl rfl ⟨rfl, rfl⟩ (Nat.le_of_ble_eq_true rfl) (Nat.le_of_ble_eq_true rfl) (Nat.le_of_ble_eq_true rfl) rfl (fun v129 σ129 p129 => ?_)
      obtain ⟨rfl, ho, hV⟩ := p129
      refine s_if_eq (tgt := 139) hX dX11_cacheActs_132 (by decide) (fun q132 => ?_) (fun q132 => ?_)
      · refine s_iconst (v := nI 3) hX dX11_cacheActs_139 (by decide) ?_
        refine s_iret hX dX11_cacheActs_140 rfl rfl ?_
        first
          | (exfalso; omega)
          | (have hC : caF pr c hf op arg v hd = (b3 (sendF pr v (arg, c, hf, hf, 0)).1, (sendF pr v (arg, c, hf, hf, 0)).2, hd) := by simp [caF, k6_4]
             rw [hC]
             exact ⟨b3_f q132, Fr.of ho (by decide), hV, by rw [ho 53 (by decide)]; exact h11⟩)
          | (have hC : caF pr c hf op arg v hd = (b3 (sendF pr v (arg, c, hf, hf, 0)).1, (sendF pr v (arg, c, hf, hf, 0)).2, hd) := by simp [caF, k6_4]
             rw [hC]
             exact ⟨b3_t q132, Fr.of ho (by decide), hV, by rw [ho 53 (by decide)]; exact h11⟩)
          | (have hC : caF pr c hf op arg v hd = (b3 (sendF pr v (arg, c, hf, hf, v (3 * c + 1))).1, (sendF pr v (arg, c, hf, hf, v (3 * c + 1))).2, hd) := by simp [caF, k6_5]
             rw [hC]
             exact ⟨b3_f q132, Fr.of ho (by decide), hV, by rw [ho 53 (by decide)]; exact h11⟩)
          | (have hC : caF pr c hf op arg v hd = (b3 (sendF pr v (arg, c, hf, hf, v (3 * c + 1))).1, (sendF pr v (arg, c, hf, hf, v (3 * c + 1))).2, hd) := by simp [caF, k6_5]
             rw [hC]
             exact ⟨b3_t q132, Fr.of ho (by decide), hV, by rw [ho 53 (by decide)]; exact h11⟩)
      · refine s_iconst (v := nI 0) hX dX11_cacheActs_135 (by decide) ?_
        refine s_goto (tgt := 140) hX dX11_cacheActs_136 (by decide) ?_
        refine s_iret hX dX11_cacheActs_140 rfl rfl ?_
        first
          | (exfalso; omega)
          | (have hC : caF pr c hf op arg v hd = (b3 (sendF pr v (arg, c, hf, hf, 0)).1, (sendF pr v (arg, c, hf, hf, 0)).2, hd) := by simp [caF, k6_4]
             rw [hC]
             exact ⟨b3_f q132, Fr.of ho (by decide), hV, by rw [ho 53 (by decide)]; exact h11⟩)
          | (have hC : caF pr c hf op arg v hd = (b3 (sendF pr v (arg, c, hf, hf, 0)).1, (sendF pr v (arg, c, hf, hf, 0)).2, hd) := by simp [caF, k6_4]
             rw [hC]
             exact ⟨b3_t q132, Fr.of ho (by decide), hV, by rw [ho 53 (by decide)]; exact h11⟩)
          | (have hC : caF pr c hf op arg v hd = (b3 (sendF pr v (arg, c, hf, hf, v (3 * c + 1))).1, (sendF pr v (arg, c, hf, hf, v (3 * c + 1))).2, hd) := by simp [caF, k6_5]
             rw [hC]
             exact ⟨b3_f q132, Fr.of ho (by decide), hV, by rw [ho 53 (by decide)]; exact h11⟩)
          | (have hC : caF pr c hf op arg v hd = (b3 (sendF pr v (arg, c, hf, hf, v (3 * c + 1))).1, (sendF pr v (arg, c, hf, hf, v (3 * c + 1))).2, hd) := by simp [caF, k6_5]
             rw [hC]
             exact ⟨b3_t q132, Fr.of ho (by decide), hV, by rw [ho 53 (by decide)]; exact h11⟩)
    · refine s_aload_n hX dX11_cacheActs_116 rfl ?_
      refine s_getR hX dX11_cacheActs_117 fl_X11_30 rfl rfl (by omega) ?_
      refine s_iload hX dX11_cacheActs_120 rfl ?_
      refine s_iconst (v := nI 1) hX dX11_cacheActs_122 (by decide) ?_
      refine s_iadd_n hX dX11_cacheActs_123 ?_
      refine s_iald (x := nI (v _)) hX dX11_cacheActs_124 rfl (by omega) (by omega) (by decide) (hN.at0 _ (by omega)) ?_
      refine s_goto (tgt := 129) hX dX11_cacheActs_125 (by decide) ?_
      refine s_callVi (as := [_, _, _, _, _]) hX dX11_cacheActs_129 mk_X11_send lk_X11_139 (c_X11_send (k := arg) (f := c) (t := hf) (u := hf) hp hk hN hv ha (by omega) (by omega) (by omega) (by omega)) rfl (by omega) rfl rfl rfl ⟨rfl, rfl⟩ (Nat.le_of_ble_eq_true rfl) (Nat.le_of_ble_eq_true rfl) (Nat.le_of_ble_eq_true rfl) rfl (fun v129 σ129 p129 => ?_)
      obtain ⟨rfl, ho, hV⟩ := p129
      refine s_if_eq (tgt := 139) hX dX11_cacheActs_132 (by decide) (fun q132 => ?_) (fun q132 => ?_)
      · refine s_iconst (v := nI 3) hX dX11_cacheActs_139 (by decide) ?_
        refine s_iret hX dX11_cacheActs_140 rfl rfl ?_
        first
          | (exfalso; omega)
          | (have hC : caF pr c hf op arg v hd = (b3 (sendF pr v (arg, c, hf, hf, 0)).1, (sendF pr v (arg, c, hf, hf, 0)).2, hd) := by simp [caF, k6_4]
             rw [hC]
             exact ⟨b3_f q132, Fr.of ho (by decide), hV, by rw [ho 53 (by decide)]; exact h11⟩)
          | (have hC : caF pr c hf op arg v hd = (b3 (sendF pr v (arg, c, hf, hf, 0)).1, (sendF pr v (arg, c, hf, hf, 0)).2, hd) := by simp [caF, k6_4]
             rw [hC]
             exact ⟨b3_t q132, Fr.of ho (by decide), hV, by rw [ho 53 (by decide)]; exact h11⟩)
          | (have hC : caF pr c hf op arg v hd = (b3 (sendF pr v (arg, c, hf, hf, v (3 * c + 1))).1, (sendF pr v (arg, c, hf, hf, v (3 * c + 1))).2, hd) := by simp [caF, k6_5]
             rw [hC]
             exact ⟨b3_f q132, Fr.of ho (by decide), hV, by rw [ho 53 (by decide)]; exact h11⟩)
          | (have hC : caF pr c hf op arg v hd = (b3 (sendF pr v (arg, c, hf, hf, v (3 * c + 1))).1, (sendF pr v (arg, c, hf, hf, v (3 * c + 1))).2, hd) := by simp [caF, k6_5]
             rw [hC]
             exact ⟨b3_t q132, Fr.of ho (by decide), hV, by rw [ho 53 (by decide)]; exact h11⟩)
      · refine s_iconst (v := nI 0) hX dX11_cacheActs_135 (by decide) ?_
        refine s_goto (tgt := 140) hX dX11_cacheActs_136 (by decide) ?_
        refine s_iret hX dX11_cacheActs_140 rfl rfl ?_
        first
          | (exfalso; omega)
          | (have hC : caF pr c hf op arg v hd = (b3 (sendF pr v (arg, c, hf, hf, 0)).1, (sendF pr v (arg, c, hf, hf, 0)).2, hd) := by simp [caF, k6_4]
             rw [hC]
             exact ⟨b3_f q132, Fr.of ho (by decide), hV, by rw [ho 53 (by decide)]; exact h11⟩)
          | (have hC : caF pr c hf op arg v hd = (b3 (sendF pr v (arg, c, hf, hf, 0)).1, (sendF pr v (arg, c, hf, hf, 0)).2, hd) := by simp [caF, k6_4]
             rw [hC]
             exact ⟨b3_t q132, Fr.of ho (by decide), hV, by rw [ho 53 (by decide)]; exact h11⟩)
          | (have hC : caF pr c hf op arg v hd = (b3 (sendF pr v (arg, c, hf, hf, v (3 * c + 1))).1, (sendF pr v (arg, c, hf, hf, v (3 * c + 1))).2, hd) := by simp [caF, k6_5]
             rw [hC]
             exact ⟨b3_f q132, Fr.of ho (by decide), hV, by rw [ho 53 (by decide)]; exact h11⟩)
          | (have hC : caF pr c hf op arg v hd = (b3 (sendF pr v (arg, c, hf, hf, v (3 * c + 1))).1, (sendF pr v (arg, c, hf, hf, v (3 * c + 1))).2, hd) := by simp [caF, k6_5]
             rw [hC]
             exact ⟨b3_t q132, Fr.of ho (by decide), hV, by rw [ho 53 (by decide)]; exact h11⟩)
  by_cases k6_6 : op = 6
  · refine s_tableIn (off := 135) (tgt := 141) hX dX11_cacheActs_6 (by rw [k6_6]; decide) (by rw [k6_6]; decide) (by rw [k6_6]; decide) (by decide) ?_
    refine s_aload_n hX dX11_cacheActs_141 rfl ?_
    refine s_getR hX dX11_cacheActs_142 fl_X11_30 rfl rfl (by omega) ?_
    refine s_iload hX dX11_cacheActs_145 rfl ?_
    refine s_iconst (v := nI 1) hX dX11_cacheActs_147 (by decide) ?_
    refine s_iadd_n hX dX11_cacheActs_148 ?_
    refine s_aload_n hX dX11_cacheActs_149 rfl ?_
    refine s_getI (x := nI (hd)) hX dX11_cacheActs_150 fl_X11_136 rfl rfl (by omega) h11 ?_
    refine s_iast hX dX11_cacheActs_153 rfl (by omega) (by omega) (by decide) ?_
    refine s_iconst (v := nI 0) hX dX11_cacheActs_154 (by decide) ?_
    refine s_iret hX dX11_cacheActs_155 rfl rfl ?_
    have hC : caF pr c hf op arg v hd = (0, vset v (3 * c + 1) hd, hd) := by simp [caF, k6_6]
    rw [hC]
    exact ⟨rfl, Fr.rf.wI (by decide) (by decide), hN.upd, by rw [wI_a _ _ (by decide)]; exact h11⟩
  by_cases k6_7 : op = 7
  · refine s_tableIn (off := 150) (tgt := 156) hX dX11_cacheActs_6 (by rw [k6_7]; decide) (by rw [k6_7]; decide) (by rw [k6_7]; decide) (by decide) ?_
    refine s_aload_n hX dX11_cacheActs_156 rfl ?_
    refine s_getR hX dX11_cacheActs_157 fl_X11_30 rfl rfl (by omega) ?_
    refine s_iload hX dX11_cacheActs_160 rfl ?_
    refine s_iconst (v := nI 2) hX dX11_cacheActs_162 (by decide) ?_
    refine s_iadd_n hX dX11_cacheActs_163 ?_
    refine s_iconst (v := nI 0) hX dX11_cacheActs_164 (by decide) ?_
    refine s_iast hX dX11_cacheActs_165 rfl (by omega) (by omega) (by decide) ?_
    refine s_aload_n hX dX11_cacheActs_166 rfl ?_
    refine s_getR hX dX11_cacheActs_167 fl_X11_30 rfl rfl (by omega) ?_
    refine s_iload hX dX11_cacheActs_170 rfl ?_
    refine s_iconst (v := nI 1) hX dX11_cacheActs_172 (by decide) ?_
    refine s_iadd_n hX dX11_cacheActs_173 ?_
    refine s_iald (x := nI (v (3 * c + 1))) hX dX11_cacheActs_174 rfl (by omega) (by omega) (by decide) (by rw [(hN.upd (k := 3 * c + 2) (x := 0)).at0 _ (by omega), vset_n _ _ (by omega)]) ?_
    refine s_if_ne_n (tgt := 182) hX dX11_cacheActs_175 (by decide) (by omega) (fun q175 => ?_) (fun q175 => ?_)
    · refine s_iconst (v := nI 0) hX dX11_cacheActs_182 (by decide) ?_
      refine s_iret hX dX11_cacheActs_183 rfl rfl ?_
      have hC : caF pr c hf op arg v hd = ((if v (3 * c + 1) = 0 then 2 else 0), vset v (3 * c + 2) 0, hd) := by simp [caF, k6_7]
      rw [hC]
      first
        | exact ⟨by rw [if_neg q175], Fr.rf.wI (by decide) (by decide), hN.upd, by rw [wI_a _ _ (by decide)]; exact h11⟩
        | exact ⟨by rw [if_pos q175], Fr.rf.wI (by decide) (by decide), hN.upd, by rw [wI_a _ _ (by decide)]; exact h11⟩
    · refine s_iconst (v := nI 2) hX dX11_cacheActs_178 (by decide) ?_
      refine s_goto (tgt := 183) hX dX11_cacheActs_179 (by decide) ?_
      refine s_iret hX dX11_cacheActs_183 rfl rfl ?_
      have hC : caF pr c hf op arg v hd = ((if v (3 * c + 1) = 0 then 2 else 0), vset v (3 * c + 2) 0, hd) := by simp [caF, k6_7]
      rw [hC]
      first
        | exact ⟨by rw [if_neg q175], Fr.rf.wI (by decide) (by decide), hN.upd, by rw [wI_a _ _ (by decide)]; exact h11⟩
        | exact ⟨by rw [if_pos q175], Fr.rf.wI (by decide) (by decide), hN.upd, by rw [wI_a _ _ (by decide)]; exact h11⟩
  by_cases k6_8 : op = 8
  · refine s_tableIn (off := 178) (tgt := 184) hX dX11_cacheActs_6 (by rw [k6_8]; decide) (by rw [k6_8]; decide) (by rw [k6_8]; decide) (by decide) ?_
    refine s_aload_n hX dX11_cacheActs_184 rfl ?_
    refine s_getR hX dX11_cacheActs_185 fl_X11_30 rfl rfl (by omega) ?_
    refine s_iload hX dX11_cacheActs_188 rfl ?_
    refine s_iconst (v := nI 2) hX dX11_cacheActs_190 (by decide) ?_
    refine s_iadd_n hX dX11_cacheActs_191 ?_
    refine s_iconst (v := nI 0) hX dX11_cacheActs_192 (by decide) ?_
    refine s_iast hX dX11_cacheActs_193 rfl (by omega) (by omega) (by decide) ?_
    refine s_aload_n hX dX11_cacheActs_194 rfl ?_
    refine s_iload_n hX dX11_cacheActs_195 rfl ?_
    refine s_callVv (as := [_]) hX dX11_cacheActs_196 mk_X11_stale lk_X11_143 (c_X11_stale (v := vset v (3 * c + 2) 0) (hp.kept (by rw [wI_a _ _ (by decide)]) (wI_a _ _ (by decide)) (wI_a _ _ (by decide)) (wI_a _ _ (by decide)) (wI_a _ _ (by decide))) hk (hN.upd (k := 3 * c + 2) (x := 0)) (hv.cell hc hP.2 (Or.inr (Or.inr ⟨rfl, by decide⟩))) c (by omega)) rfl (by omega) rfl rfl rfl ⟨rfl, rfl⟩ (Nat.le_of_ble_eq_true rfl) (Nat.le_of_ble_eq_true rfl) (Nat.le_of_ble_eq_true rfl) rfl (fun σ196 p196 => ?_)
    obtain ⟨hf8, hV8, h8⟩ := p196
    refine s_iconst (v := nI 0) hX dX11_cacheActs_199 (by decide) ?_
    refine s_iret hX dX11_cacheActs_200 rfl rfl ?_
    have hC : caF pr c hf op arg v hd = (0, staleF pr (vset v (3 * c + 2) 0) c, 0) := by simp [caF, k6_8]
    rw [hC]
    exact ⟨rfl, (Fr.rf.wI (by decide) (by decide)).trans hf8, hV8, h8⟩
  refine s_tableOut (tgt := 201) hX dX11_cacheActs_6 (by rw [nI_toInt (by omega)]; omega) (by decide) ?_
  refine s_iconst (v := nI 0) hX dX11_cacheActs_201 (by decide) ?_
  refine s_iret hX dX11_cacheActs_202 rfl rfl ?_
  have hC : caF pr c hf op arg v hd = (0, v, hd) := by simp [caF, k6_1, k6_2, k6_3, k6_4, k6_5, k6_6, k6_7, k6_8]
  rw [hC]
  exact ⟨rfl, Fr.rf, hN, h11⟩
theorem mc14 {pr : Pr} {arg hf : Nat} : ∀ (p : Nat) (v : Vc), (mcF pr arg hf p v).2 14 = v 14
  | 0, v => rfl
  | p + 1, v => by
    have ih := mc14 (pr := pr) (arg := arg) (hf := hf) p v
    unfold mcF
    split
    · exact ih
    · split
      · unfold sendF
        split
        · exact ih
        · exact ih
      · exact ih
theorem mcF_stop {pr : Pr} {arg hf : Nat} {v : Vc} {p : Nat} (h : (mcF pr arg hf p v).1 = false) : ∀ d, mcF pr arg hf (p + d) v = mcF pr arg hf p v
  | 0 => rfl
  | d + 1 => by
    have ih := mcF_stop h d
    show (if (mcF pr arg hf (p + d) v).1 = false then mcF pr arg hf (p + d) v else _) = _
    rw [ih, if_pos h]
set_option maxRecDepth 100000 in
set_option maxHeartbeats 4000000 in
theorem c_X11_homeActs {σ : Sg} {pr : Pr} {v : Vc} (hp : PrM σ pr) (hk : PrOk pr) (hN : Vat σ 59 0 v) (hv : VOk pr v) {hf op arg hd : Nat} (hf0 : hf < pP pr) (ho0 : op < 16) (ha : arg < 16) (hd2 : hd < 2) (h10 : (σ 53).1 10 = nI hf) (h11 : (σ 53).1 11 = nI hd) : Sm 77 mX11_homeActs [.ref 53, .int (nI op), .int (nI arg)] σ (qi fun r σ2 => r = nI (hoF pr hf op arg v hd).1 ∧ Fr 53 σ σ2 [59] [11] ∧ Vat σ2 59 0 (hoF pr hf op arg v hd).2.1 ∧ (σ2 53).1 11 = nI (hoF pr hf op arg v hd).2.2) := by
  refine Sm.of mk_X11_homeActs (Nat.le_of_ble_eq_true rfl) rfl (fun X hX => ?_)
  have hP := hk.1
  have h13 := hv.2.2.1
  have h14 := hv.2.2.2.1
  have LP : op = 4 → ∀ m p, p + m = pP pr → ∀ σ1, Off σ σ1 [59] → Vat σ1 59 0 (mcF pr arg hf p v).2 → (mcF pr arg hf p v).1 = true → Sw 77 mX11_homeActs X (ZS 77 mX11_homeActs (qi fun r σ2 => r = nI (hoF pr hf op arg v hd).1 ∧ Fr 53 σ σ2 [59] [11] ∧ Vat σ2 59 0 (hoF pr hf op arg v hd).2.1 ∧ (σ2 53).1 11 = nI (hoF pr hf op arg v hd).2.2) X) 102 [some (.ref 53), some (.int (nI op)), some (.int (nI arg)), some (.int (nI p))] [] σ1 := by
    intro hop m
    have hC : hoF pr hf op arg v hd = (b3 (mcF pr arg hf (pP pr) v).1, (mcF pr arg hf (pP pr) v).2, hd) := by simp [hoF, hop]
    induction m with
    | zero =>
      intro p hpm σ1 ho hV hb
      have e0 : (σ1 53).1 0 = nI (pP pr) := by rw [ho 53 (by decide)]; exact hp.1
      refine s_iload_n hX dX11_homeActs_102 rfl ?_
      refine s_aload_n hX dX11_homeActs_103 rfl ?_
      refine s_getI (x := nI (pP pr)) hX dX11_homeActs_104 fl_X11_7 rfl rfl (by omega) e0 ?_
      refine s_icmp_ge_n (tgt := 159) hX dX11_homeActs_107 (by decide) (by omega) (by omega) (fun q107 => ?_) (fun q107 => ?_)
      · refine s_iconst (v := nI 0) hX dX11_homeActs_159 (by decide) ?_
        refine s_iret hX dX11_homeActs_160 rfl rfl ?_
        rw [hC, show pP pr = p by omega]
        exact ⟨by rw [hb]; rfl, Fr.of ho (by decide), hV, by rw [ho 53 (by decide)]; exact h11⟩
      · omega
    | succ m ih =>
      intro p hpm σ1 ho hV hb
      have e0 : (σ1 53).1 0 = nI (pP pr) := by rw [ho 53 (by decide)]; exact hp.1
      have e10 : (σ1 53).1 10 = nI hf := by rw [ho 53 (by decide)]; exact h10
      have e14 : (σ1 59).1 14 = nI (v 14) := by rw [hV.at0 14 (by decide), mc14]
      have ebit : v 14 / 2 ^ p &&& 1 = v 14 / 2 ^ p % 2 := am _ 1
      refine s_iload_n hX dX11_homeActs_102 rfl ?_
      refine s_aload_n hX dX11_homeActs_103 rfl ?_
      refine s_getI (x := nI (pP pr)) hX dX11_homeActs_104 fl_X11_7 rfl rfl (by omega) e0 ?_
      refine s_icmp_ge_n (tgt := 159) hX dX11_homeActs_107 (by decide) (by omega) (by omega) (fun q107 => ?_) (fun q107 => ?_)
      · omega
      · refine s_iload_n hX dX11_homeActs_110 rfl ?_
        refine s_aload_n hX dX11_homeActs_111 rfl ?_
        refine s_getI (x := nI (hf)) hX dX11_homeActs_112 fl_X11_133 rfl rfl (by omega) e10 ?_
        refine s_icmp_eq_n (tgt := 153) hX dX11_homeActs_115 (by decide) (by omega) (by omega) (fun q115 => ?_) (fun q115 => ?_)
        · refine s_iinc_n (c := 1) hX dX11_homeActs_153 rfl (by decide) rfl st_4_3 ?_
          refine s_goto (tgt := 102) hX dX11_homeActs_156 (by decide) ?_
          rw [ebit] at *
          first
            | (have hs : mcF pr arg hf (p + 1) v = mcF pr arg hf p v := by
                 show (if _ then _ else if _ then _ else _) = _
                 rw [if_neg (by rw [hb]; decide), if_neg (by rw [mc14]; omega)]
               exact ih (p + 1) (by omega) σ1 ho (by rw [hs]; exact hV) (by rw [hs]; exact hb))
            | (have hs : mcF pr arg hf (p + 1) v = sendF pr (mcF pr arg hf p v).2 (arg, pP pr, p, hf, 0) := by
                 show (if _ then _ else if _ then _ else _) = _
                 rw [if_neg (by rw [hb]; decide), if_pos ⟨q115, by rw [mc14]; exact q130⟩]
               refine ih (p + 1) (by omega) _ (ho.trans ho2) (by rw [hs]; exact hV2) ?_
               rw [hs]
               cases hh : (sendF pr (mcF pr arg hf p v).2 (arg, pP pr, p, hf, 0)).1 with
               | true => rfl
               | false => exact absurd (bI_0.mpr hh) q148)
        · refine s_aload_n hX dX11_homeActs_118 rfl ?_
          refine s_getR hX dX11_homeActs_119 fl_X11_30 rfl rfl (by omega) ?_
          refine s_bipush (v := nI 14) hX dX11_homeActs_122 (by decide) ?_
          refine s_iald (x := nI (v 14)) hX dX11_homeActs_124 rfl (by omega) (by omega) (by decide) e14 ?_
          refine s_iload_n hX dX11_homeActs_125 rfl ?_
          refine s_ishr_n hX dX11_homeActs_126 (by omega) (by omega) ?_
          refine s_iconst (v := nI 1) hX dX11_homeActs_127 (by decide) ?_
          refine s_iand_n hX dX11_homeActs_128 ?_
          refine s_iconst (v := nI 1) hX dX11_homeActs_129 (by decide) ?_
          refine s_icmp_ne_n (tgt := 153) hX dX11_homeActs_130 (by decide) (by rw [ebit]; omega) (by omega) (fun q130 => ?_) (fun q130 => ?_)
          · refine s_iinc_n (c := 1) hX dX11_homeActs_153 rfl (by decide) rfl st_4_3 ?_
            refine s_goto (tgt := 102) hX dX11_homeActs_156 (by decide) ?_
            rw [ebit] at *
            first
              | (have hs : mcF pr arg hf (p + 1) v = mcF pr arg hf p v := by
                   show (if _ then _ else if _ then _ else _) = _
                   rw [if_neg (by rw [hb]; decide), if_neg (by rw [mc14]; omega)]
                 exact ih (p + 1) (by omega) σ1 ho (by rw [hs]; exact hV) (by rw [hs]; exact hb))
              | (have hs : mcF pr arg hf (p + 1) v = sendF pr (mcF pr arg hf p v).2 (arg, pP pr, p, hf, 0) := by
                   show (if _ then _ else if _ then _ else _) = _
                   rw [if_neg (by rw [hb]; decide), if_pos ⟨q115, by rw [mc14]; exact q130⟩]
                 refine ih (p + 1) (by omega) _ (ho.trans ho2) (by rw [hs]; exact hV2) ?_
                 rw [hs]
                 cases hh : (sendF pr (mcF pr arg hf p v).2 (arg, pP pr, p, hf, 0)).1 with
                 | true => rfl
                 | false => exact absurd (bI_0.mpr hh) q148)
          · refine s_aload_n hX dX11_homeActs_133 rfl ?_
            refine s_iload_n hX dX11_homeActs_134 rfl ?_
            refine s_aload_n hX dX11_homeActs_135 rfl ?_
            refine s_getI (x := nI (pP pr)) hX dX11_homeActs_136 fl_X11_7 rfl rfl (by omega) e0 ?_
            refine s_iload_n hX dX11_homeActs_139 rfl ?_
            refine s_aload_n hX dX11_homeActs_140 rfl ?_
            refine s_getI (x := nI (hf)) hX dX11_homeActs_141 fl_X11_133 rfl rfl (by omega) e10 ?_
            refine s_iconst (v := nI 0) hX dX11_homeActs_144 (by decide) ?_
            refine s_callVi (as := [_, _, _, _, _]) hX dX11_homeActs_145 mk_X11_send lk_X11_139 (c_X11_send (v := (mcF pr arg hf p v).2) (k := arg) (f := pP pr) (t := p) (u := hf) (w := 0) (hp.off ho (by decide) (by decide) (by decide) (by decide) (by decide)) hk hV (VOk.mc ha hf0 hP.2 p (by omega) v hv) ha (by omega) (by omega) (by omega) (by omega)) rfl (by omega) rfl rfl rfl ⟨rfl, rfl⟩ (Nat.le_of_ble_eq_true rfl) (Nat.le_of_ble_eq_true rfl) (Nat.le_of_ble_eq_true rfl) rfl (fun v145 σ145 p145 => ?_)
            obtain ⟨rfl, ho2, hV2⟩ := p145
            refine s_if_ne (tgt := 153) hX dX11_homeActs_148 (by decide) (fun q148 => ?_) (fun q148 => ?_)
            · refine s_iinc_n (c := 1) hX dX11_homeActs_153 rfl (by decide) rfl st_4_3 ?_
              refine s_goto (tgt := 102) hX dX11_homeActs_156 (by decide) ?_
              rw [ebit] at *
              first
                | (have hs : mcF pr arg hf (p + 1) v = mcF pr arg hf p v := by
                     show (if _ then _ else if _ then _ else _) = _
                     rw [if_neg (by rw [hb]; decide), if_neg (by rw [mc14]; omega)]
                   exact ih (p + 1) (by omega) σ1 ho (by rw [hs]; exact hV) (by rw [hs]; exact hb))
                | (have hs : mcF pr arg hf (p + 1) v = sendF pr (mcF pr arg hf p v).2 (arg, pP pr, p, hf, 0) := by
                     show (if _ then _ else if _ then _ else _) = _
                     rw [if_neg (by rw [hb]; decide), if_pos ⟨q115, by rw [mc14]; exact q130⟩]
                   refine ih (p + 1) (by omega) _ (ho.trans ho2) (by rw [hs]; exact hV2) ?_
                   rw [hs]
                   cases hh : (sendF pr (mcF pr arg hf p v).2 (arg, pP pr, p, hf, 0)).1 with
                   | true => rfl
                   | false => exact absurd (bI_0.mpr hh) q148)
            · refine s_iconst (v := nI 3) hX dX11_homeActs_151 (by decide) ?_
              refine s_iret hX dX11_homeActs_152 rfl rfl ?_
              rw [ebit] at q130
              have hs : mcF pr arg hf (p + 1) v = sendF pr (mcF pr arg hf p v).2 (arg, pP pr, p, hf, 0) := by
                show (if _ then _ else if _ then _ else _) = _
                rw [if_neg (by rw [hb]; decide), if_pos ⟨q115, by rw [mc14]; exact q130⟩]
              have hz : (mcF pr arg hf (p + 1) v).1 = false := by rw [hs]; exact bI_0.mp (Decidable.of_not_not q148)
              have hst := mcF_stop hz m
              rw [show p + 1 + m = pP pr by omega] at hst
              rw [hC, hst, hz, hs]
              exact ⟨rfl, Fr.of (ho.trans ho2) (by decide), hV2, by rw [(ho.trans ho2) 53 (by decide)]; exact h11⟩
  refine s_iload_n hX dX11_homeActs_0 rfl ?_
  by_cases k1_1 : op = 1
  · refine s_tableIn (off := 47) (tgt := 48) hX dX11_homeActs_1 (by rw [k1_1]; decide) (by rw [k1_1]; decide) (by rw [k1_1]; decide) (by decide) ?_
    refine s_aload_n hX dX11_homeActs_48 rfl ?_
    refine s_getR hX dX11_homeActs_49 fl_X11_30 rfl rfl (by omega) ?_
    refine s_bipush (v := nI 12) hX dX11_homeActs_52 (by decide) ?_
    refine s_iload_n hX dX11_homeActs_54 rfl ?_
    refine s_iast hX dX11_homeActs_55 rfl (by omega) (by omega) (by decide) ?_
    refine s_iconst (v := nI 0) hX dX11_homeActs_56 (by decide) ?_
    refine s_iret hX dX11_homeActs_57 rfl rfl ?_
    have hC : hoF pr hf op arg v hd = (0, vset v 12 arg, hd) := by simp [hoF, k1_1]
    rw [hC]
    exact ⟨rfl, Fr.rf.wI (by decide) (by decide), hN.upd, by rw [wI_a _ _ (by decide)]; exact h11⟩
  by_cases k1_2 : op = 2
  · refine s_tableIn (off := 57) (tgt := 58) hX dX11_homeActs_1 (by rw [k1_2]; decide) (by rw [k1_2]; decide) (by rw [k1_2]; decide) (by decide) ?_
    refine s_aload_n hX dX11_homeActs_58 rfl ?_
    refine s_iload_n hX dX11_homeActs_59 rfl ?_
    refine s_aload_n hX dX11_homeActs_60 rfl ?_
    refine s_getI (x := nI (pP pr)) hX dX11_homeActs_61 fl_X11_7 rfl rfl (by omega) hp.1 ?_
    refine s_aload_n hX dX11_homeActs_64 rfl ?_
    refine s_getI (x := nI (hf)) hX dX11_homeActs_65 fl_X11_133 rfl rfl (by omega) h10 ?_
    refine s_aload_n hX dX11_homeActs_68 rfl ?_
    refine s_getI (x := nI (hf)) hX dX11_homeActs_69 fl_X11_133 rfl rfl (by omega) h10 ?_
    refine s_iload_n hX dX11_homeActs_72 rfl ?_
    refine s_iconst (v := nI 3) hX dX11_homeActs_73 (by decide) ?_
    refine s_icmp_ne_n (tgt := 87) hX dX11_homeActs_74 (by decide) (by omega) (by omega) (fun q74 => ?_) (fun q74 => ?_)
    · refine s_iconst (v := nI 0) hX dX11_homeActs_87 (by decide) ?_
      refine s_callVi (as := [_, _, _, _, _]) hX dX11_homeActs_88 mk_X11_send lk_X11_139 (c_X11_send (k := arg) (f := pP pr) (t := hf) (u := hf) hp hk hN hv ha (by omega) (by omega) (by omega) (by omega)) rfl (by omega) rfl rfl rfl ⟨rfl, rfl⟩ (Nat.le_of_ble_eq_true rfl) (Nat.le_of_ble_eq_true rfl) (Nat.le_of_ble_eq_true rfl) rfl (fun v88 σ88 p88 => ?_)
      obtain ⟨rfl, ho, hV⟩ := p88
      refine s_if_eq (tgt := 98) hX dX11_homeActs_91 (by decide) (fun q91 => ?_) (fun q91 => ?_)
      · refine s_iconst (v := nI 3) hX dX11_homeActs_98 (by decide) ?_
        refine s_iret hX dX11_homeActs_99 rfl rfl ?_
        first
          | (exfalso; omega)
          | (have hC : hoF pr hf op arg v hd = (b3 (sendF pr v (arg, pP pr, hf, hf, 0)).1, (sendF pr v (arg, pP pr, hf, hf, 0)).2, hd) := by simp [hoF, k1_2]
             rw [hC]
             exact ⟨b3_f q91, Fr.of ho (by decide), hV, by rw [ho 53 (by decide)]; exact h11⟩)
          | (have hC : hoF pr hf op arg v hd = (b3 (sendF pr v (arg, pP pr, hf, hf, 0)).1, (sendF pr v (arg, pP pr, hf, hf, 0)).2, hd) := by simp [hoF, k1_2]
             rw [hC]
             exact ⟨b3_t q91, Fr.of ho (by decide), hV, by rw [ho 53 (by decide)]; exact h11⟩)
          | (have hC : hoF pr hf op arg v hd = (b3 (sendF pr v (arg, pP pr, hf, hf, v 13)).1, (sendF pr v (arg, pP pr, hf, hf, v 13)).2, hd) := by simp [hoF, k1_3]
             rw [hC]
             exact ⟨b3_f q91, Fr.of ho (by decide), hV, by rw [ho 53 (by decide)]; exact h11⟩)
          | (have hC : hoF pr hf op arg v hd = (b3 (sendF pr v (arg, pP pr, hf, hf, v 13)).1, (sendF pr v (arg, pP pr, hf, hf, v 13)).2, hd) := by simp [hoF, k1_3]
             rw [hC]
             exact ⟨b3_t q91, Fr.of ho (by decide), hV, by rw [ho 53 (by decide)]; exact h11⟩)
      · refine s_iconst (v := nI 0) hX dX11_homeActs_94 (by decide) ?_
        refine s_goto (tgt := 99) hX dX11_homeActs_95 (by decide) ?_
        refine s_iret hX dX11_homeActs_99 rfl rfl ?_
        first
          | (exfalso; omega)
          | (have hC : hoF pr hf op arg v hd = (b3 (sendF pr v (arg, pP pr, hf, hf, 0)).1, (sendF pr v (arg, pP pr, hf, hf, 0)).2, hd) := by simp [hoF, k1_2]
             rw [hC]
             exact ⟨b3_f q91, Fr.of ho (by decide), hV, by rw [ho 53 (by decide)]; exact h11⟩)
          | (have hC : hoF pr hf op arg v hd = (b3 (sendF pr v (arg, pP pr, hf, hf, 0)).1, (sendF pr v (arg, pP pr, hf, hf, 0)).2, hd) := by simp [hoF, k1_2]
             rw [hC]
             exact ⟨b3_t q91, Fr.of ho (by decide), hV, by rw [ho 53 (by decide)]; exact h11⟩)
          | (have hC : hoF pr hf op arg v hd = (b3 (sendF pr v (arg, pP pr, hf, hf, v 13)).1, (sendF pr v (arg, pP pr, hf, hf, v 13)).2, hd) := by simp [hoF, k1_3]
             rw [hC]
             exact ⟨b3_f q91, Fr.of ho (by decide), hV, by rw [ho 53 (by decide)]; exact h11⟩)
          | (have hC : hoF pr hf op arg v hd = (b3 (sendF pr v (arg, pP pr, hf, hf, v 13)).1, (sendF pr v (arg, pP pr, hf, hf, v 13)).2, hd) := by simp [hoF, k1_3]
             rw [hC]
             exact ⟨b3_t q91, Fr.of ho (by decide), hV, by rw [ho 53 (by decide)]; exact h11⟩)
    · refine s_aload_n hX dX11_homeActs_77 rfl ?_
      refine s_getR hX dX11_homeActs_78 fl_X11_30 rfl rfl (by omega) ?_
      refine s_bipush (v := nI 13) hX dX11_homeActs_81 (by decide) ?_
      refine s_iald (x := nI (v _)) hX dX11_homeActs_83 rfl (by omega) (by omega) (by decide) (hN.at0 _ (by omega)) ?_
      refine s_goto (tgt := 88) hX dX11_homeActs_84 (by decide) ?_
      refine s_callVi (as := [_, _, _, _, _]) hX dX11_homeActs_88 mk_X11_send lk_X11_139 (c_X11_send (k := arg) (f := pP pr) (t := hf) (u := hf) hp hk hN hv ha (by omega) (by omega) (by omega) (by omega)) rfl (by omega) rfl rfl rfl ⟨rfl, rfl⟩ (Nat.le_of_ble_eq_true rfl) (Nat.le_of_ble_eq_true rfl) (Nat.le_of_ble_eq_true rfl) rfl (fun v88 σ88 p88 => ?_)
      obtain ⟨rfl, ho, hV⟩ := p88
      refine s_if_eq (tgt := 98) hX dX11_homeActs_91 (by decide) (fun q91 => ?_) (fun q91 => ?_)
      · refine s_iconst (v := nI 3) hX dX11_homeActs_98 (by decide) ?_
        refine s_iret hX dX11_homeActs_99 rfl rfl ?_
        first
          | (exfalso; omega)
          | (have hC : hoF pr hf op arg v hd = (b3 (sendF pr v (arg, pP pr, hf, hf, 0)).1, (sendF pr v (arg, pP pr, hf, hf, 0)).2, hd) := by simp [hoF, k1_2]
             rw [hC]
             exact ⟨b3_f q91, Fr.of ho (by decide), hV, by rw [ho 53 (by decide)]; exact h11⟩)
          | (have hC : hoF pr hf op arg v hd = (b3 (sendF pr v (arg, pP pr, hf, hf, 0)).1, (sendF pr v (arg, pP pr, hf, hf, 0)).2, hd) := by simp [hoF, k1_2]
             rw [hC]
             exact ⟨b3_t q91, Fr.of ho (by decide), hV, by rw [ho 53 (by decide)]; exact h11⟩)
          | (have hC : hoF pr hf op arg v hd = (b3 (sendF pr v (arg, pP pr, hf, hf, v 13)).1, (sendF pr v (arg, pP pr, hf, hf, v 13)).2, hd) := by simp [hoF, k1_3]
             rw [hC]
             exact ⟨b3_f q91, Fr.of ho (by decide), hV, by rw [ho 53 (by decide)]; exact h11⟩)
          | (have hC : hoF pr hf op arg v hd = (b3 (sendF pr v (arg, pP pr, hf, hf, v 13)).1, (sendF pr v (arg, pP pr, hf, hf, v 13)).2, hd) := by simp [hoF, k1_3]
             rw [hC]
             exact ⟨b3_t q91, Fr.of ho (by decide), hV, by rw [ho 53 (by decide)]; exact h11⟩)
      · refine s_iconst (v := nI 0) hX dX11_homeActs_94 (by decide) ?_
        refine s_goto (tgt := 99) hX dX11_homeActs_95 (by decide) ?_
        refine s_iret hX dX11_homeActs_99 rfl rfl ?_
        first
          | (exfalso; omega)
          | (have hC : hoF pr hf op arg v hd = (b3 (sendF pr v (arg, pP pr, hf, hf, 0)).1, (sendF pr v (arg, pP pr, hf, hf, 0)).2, hd) := by simp [hoF, k1_2]
             rw [hC]
             exact ⟨b3_f q91, Fr.of ho (by decide), hV, by rw [ho 53 (by decide)]; exact h11⟩)
          | (have hC : hoF pr hf op arg v hd = (b3 (sendF pr v (arg, pP pr, hf, hf, 0)).1, (sendF pr v (arg, pP pr, hf, hf, 0)).2, hd) := by simp [hoF, k1_2]
             rw [hC]
             exact ⟨b3_t q91, Fr.of ho (by decide), hV, by rw [ho 53 (by decide)]; exact h11⟩)
          | (have hC : hoF pr hf op arg v hd = (b3 (sendF pr v (arg, pP pr, hf, hf, v 13)).1, (sendF pr v (arg, pP pr, hf, hf, v 13)).2, hd) := by simp [hoF, k1_3]
             rw [hC]
             exact ⟨b3_f q91, Fr.of ho (by decide), hV, by rw [ho 53 (by decide)]; exact h11⟩)
          | (have hC : hoF pr hf op arg v hd = (b3 (sendF pr v (arg, pP pr, hf, hf, v 13)).1, (sendF pr v (arg, pP pr, hf, hf, v 13)).2, hd) := by simp [hoF, k1_3]
             rw [hC]
             exact ⟨b3_t q91, Fr.of ho (by decide), hV, by rw [ho 53 (by decide)]; exact h11⟩)
  by_cases k1_3 : op = 3
  · refine s_tableIn (off := 57) (tgt := 58) hX dX11_homeActs_1 (by rw [k1_3]; decide) (by rw [k1_3]; decide) (by rw [k1_3]; decide) (by decide) ?_
    refine s_aload_n hX dX11_homeActs_58 rfl ?_
    refine s_iload_n hX dX11_homeActs_59 rfl ?_
    refine s_aload_n hX dX11_homeActs_60 rfl ?_
    refine s_getI (x := nI (pP pr)) hX dX11_homeActs_61 fl_X11_7 rfl rfl (by omega) hp.1 ?_
    refine s_aload_n hX dX11_homeActs_64 rfl ?_
    refine s_getI (x := nI (hf)) hX dX11_homeActs_65 fl_X11_133 rfl rfl (by omega) h10 ?_
    refine s_aload_n hX dX11_homeActs_68 rfl ?_
    refine s_getI (x := nI (hf)) hX dX11_homeActs_69 fl_X11_133 rfl rfl (by omega) h10 ?_
    refine s_iload_n hX dX11_homeActs_72 rfl ?_
    refine s_iconst (v := nI 3) hX dX11_homeActs_73 (by decide) ?_
    refine s_icmp_ne_n (tgt := 87) hX dX11_homeActs_74 (by decide) (by omega) (by omega) (fun q74 => ?_) (fun q74 => ?_)
    · refine s_iconst (v := nI 0) hX dX11_homeActs_87 (by decide) ?_
      refine s_callVi (as := [_, _, _, _, _]) hX dX11_homeActs_88 mk_X11_send lk_X11_139 (c_X11_send (k := arg) (f := pP pr) (t := hf) (u := hf) hp hk hN hv ha (by omega) (by omega) (by omega) (by omega)) rfl (by omega) rfl rfl rfl ⟨rfl, rfl⟩ (Nat.le_of_ble_eq_true rfl) (Nat.le_of_ble_eq_true rfl) (Nat.le_of_ble_eq_true rfl) rfl (fun v88 σ88 p88 => ?_)
      obtain ⟨rfl, ho, hV⟩ := p88
      refine s_if_eq (tgt := 98) hX dX11_homeActs_91 (by decide) (fun q91 => ?_) (fun q91 => ?_)
      · refine s_iconst (v := nI 3) hX dX11_homeActs_98 (by decide) ?_
        refine s_iret hX dX11_homeActs_99 rfl rfl ?_
        first
          | (exfalso; omega)
          | (have hC : hoF pr hf op arg v hd = (b3 (sendF pr v (arg, pP pr, hf, hf, 0)).1, (sendF pr v (arg, pP pr, hf, hf, 0)).2, hd) := by simp [hoF, k1_2]
             rw [hC]
             exact ⟨b3_f q91, Fr.of ho (by decide), hV, by rw [ho 53 (by decide)]; exact h11⟩)
          | (have hC : hoF pr hf op arg v hd = (b3 (sendF pr v (arg, pP pr, hf, hf, 0)).1, (sendF pr v (arg, pP pr, hf, hf, 0)).2, hd) := by simp [hoF, k1_2]
             rw [hC]
             exact ⟨b3_t q91, Fr.of ho (by decide), hV, by rw [ho 53 (by decide)]; exact h11⟩)
          | (have hC : hoF pr hf op arg v hd = (b3 (sendF pr v (arg, pP pr, hf, hf, v 13)).1, (sendF pr v (arg, pP pr, hf, hf, v 13)).2, hd) := by simp [hoF, k1_3]
             rw [hC]
             exact ⟨b3_f q91, Fr.of ho (by decide), hV, by rw [ho 53 (by decide)]; exact h11⟩)
          | (have hC : hoF pr hf op arg v hd = (b3 (sendF pr v (arg, pP pr, hf, hf, v 13)).1, (sendF pr v (arg, pP pr, hf, hf, v 13)).2, hd) := by simp [hoF, k1_3]
             rw [hC]
             exact ⟨b3_t q91, Fr.of ho (by decide), hV, by rw [ho 53 (by decide)]; exact h11⟩)
      · refine s_iconst (v := nI 0) hX dX11_homeActs_94 (by decide) ?_
        refine s_goto (tgt := 99) hX dX11_homeActs_95 (by decide) ?_
        refine s_iret hX dX11_homeActs_99 rfl rfl ?_
        first
          | (exfalso; omega)
          | (have hC : hoF pr hf op arg v hd = (b3 (sendF pr v (arg, pP pr, hf, hf, 0)).1, (sendF pr v (arg, pP pr, hf, hf, 0)).2, hd) := by simp [hoF, k1_2]
             rw [hC]
             exact ⟨b3_f q91, Fr.of ho (by decide), hV, by rw [ho 53 (by decide)]; exact h11⟩)
          | (have hC : hoF pr hf op arg v hd = (b3 (sendF pr v (arg, pP pr, hf, hf, 0)).1, (sendF pr v (arg, pP pr, hf, hf, 0)).2, hd) := by simp [hoF, k1_2]
             rw [hC]
             exact ⟨b3_t q91, Fr.of ho (by decide), hV, by rw [ho 53 (by decide)]; exact h11⟩)
          | (have hC : hoF pr hf op arg v hd = (b3 (sendF pr v (arg, pP pr, hf, hf, v 13)).1, (sendF pr v (arg, pP pr, hf, hf, v 13)).2, hd) := by simp [hoF, k1_3]
             rw [hC]
             exact ⟨b3_f q91, Fr.of ho (by decide), hV, by rw [ho 53 (by decide)]; exact h11⟩)
          | (have hC : hoF pr hf op arg v hd = (b3 (sendF pr v (arg, pP pr, hf, hf, v 13)).1, (sendF pr v (arg, pP pr, hf, hf, v 13)).2, hd) := by simp [hoF, k1_3]
             rw [hC]
             exact ⟨b3_t q91, Fr.of ho (by decide), hV, by rw [ho 53 (by decide)]; exact h11⟩)
    · refine s_aload_n hX dX11_homeActs_77 rfl ?_
      refine s_getR hX dX11_homeActs_78 fl_X11_30 rfl rfl (by omega) ?_
      refine s_bipush (v := nI 13) hX dX11_homeActs_81 (by decide) ?_
      refine s_iald (x := nI (v _)) hX dX11_homeActs_83 rfl (by omega) (by omega) (by decide) (hN.at0 _ (by omega)) ?_
      refine s_goto (tgt := 88) hX dX11_homeActs_84 (by decide) ?_
      refine s_callVi (as := [_, _, _, _, _]) hX dX11_homeActs_88 mk_X11_send lk_X11_139 (c_X11_send (k := arg) (f := pP pr) (t := hf) (u := hf) hp hk hN hv ha (by omega) (by omega) (by omega) (by omega)) rfl (by omega) rfl rfl rfl ⟨rfl, rfl⟩ (Nat.le_of_ble_eq_true rfl) (Nat.le_of_ble_eq_true rfl) (Nat.le_of_ble_eq_true rfl) rfl (fun v88 σ88 p88 => ?_)
      obtain ⟨rfl, ho, hV⟩ := p88
      refine s_if_eq (tgt := 98) hX dX11_homeActs_91 (by decide) (fun q91 => ?_) (fun q91 => ?_)
      · refine s_iconst (v := nI 3) hX dX11_homeActs_98 (by decide) ?_
        refine s_iret hX dX11_homeActs_99 rfl rfl ?_
        first
          | (exfalso; omega)
          | (have hC : hoF pr hf op arg v hd = (b3 (sendF pr v (arg, pP pr, hf, hf, 0)).1, (sendF pr v (arg, pP pr, hf, hf, 0)).2, hd) := by simp [hoF, k1_2]
             rw [hC]
             exact ⟨b3_f q91, Fr.of ho (by decide), hV, by rw [ho 53 (by decide)]; exact h11⟩)
          | (have hC : hoF pr hf op arg v hd = (b3 (sendF pr v (arg, pP pr, hf, hf, 0)).1, (sendF pr v (arg, pP pr, hf, hf, 0)).2, hd) := by simp [hoF, k1_2]
             rw [hC]
             exact ⟨b3_t q91, Fr.of ho (by decide), hV, by rw [ho 53 (by decide)]; exact h11⟩)
          | (have hC : hoF pr hf op arg v hd = (b3 (sendF pr v (arg, pP pr, hf, hf, v 13)).1, (sendF pr v (arg, pP pr, hf, hf, v 13)).2, hd) := by simp [hoF, k1_3]
             rw [hC]
             exact ⟨b3_f q91, Fr.of ho (by decide), hV, by rw [ho 53 (by decide)]; exact h11⟩)
          | (have hC : hoF pr hf op arg v hd = (b3 (sendF pr v (arg, pP pr, hf, hf, v 13)).1, (sendF pr v (arg, pP pr, hf, hf, v 13)).2, hd) := by simp [hoF, k1_3]
             rw [hC]
             exact ⟨b3_t q91, Fr.of ho (by decide), hV, by rw [ho 53 (by decide)]; exact h11⟩)
      · refine s_iconst (v := nI 0) hX dX11_homeActs_94 (by decide) ?_
        refine s_goto (tgt := 99) hX dX11_homeActs_95 (by decide) ?_
        refine s_iret hX dX11_homeActs_99 rfl rfl ?_
        first
          | (exfalso; omega)
          | (have hC : hoF pr hf op arg v hd = (b3 (sendF pr v (arg, pP pr, hf, hf, 0)).1, (sendF pr v (arg, pP pr, hf, hf, 0)).2, hd) := by simp [hoF, k1_2]
             rw [hC]
             exact ⟨b3_f q91, Fr.of ho (by decide), hV, by rw [ho 53 (by decide)]; exact h11⟩)
          | (have hC : hoF pr hf op arg v hd = (b3 (sendF pr v (arg, pP pr, hf, hf, 0)).1, (sendF pr v (arg, pP pr, hf, hf, 0)).2, hd) := by simp [hoF, k1_2]
             rw [hC]
             exact ⟨b3_t q91, Fr.of ho (by decide), hV, by rw [ho 53 (by decide)]; exact h11⟩)
          | (have hC : hoF pr hf op arg v hd = (b3 (sendF pr v (arg, pP pr, hf, hf, v 13)).1, (sendF pr v (arg, pP pr, hf, hf, v 13)).2, hd) := by simp [hoF, k1_3]
             rw [hC]
             exact ⟨b3_f q91, Fr.of ho (by decide), hV, by rw [ho 53 (by decide)]; exact h11⟩)
          | (have hC : hoF pr hf op arg v hd = (b3 (sendF pr v (arg, pP pr, hf, hf, v 13)).1, (sendF pr v (arg, pP pr, hf, hf, v 13)).2, hd) := by simp [hoF, k1_3]
             rw [hC]
             exact ⟨b3_t q91, Fr.of ho (by decide), hV, by rw [ho 53 (by decide)]; exact h11⟩)
  by_cases k1_4 : op = 4
  · refine s_tableIn (off := 99) (tgt := 100) hX dX11_homeActs_1 (by rw [k1_4]; decide) (by rw [k1_4]; decide) (by rw [k1_4]; decide) (by decide) ?_
    refine s_iconst (v := nI 0) hX dX11_homeActs_100 (by decide) ?_
    refine s_istore_n hX dX11_homeActs_101 (Nat.le_of_ble_eq_true rfl) rfl st_4_3 ?_
    exact LP k1_4 (pP pr) 0 (by omega) σ Off.rf hN rfl
  by_cases k1_5 : op = 5
  · refine s_tableIn (off := 160) (tgt := 161) hX dX11_homeActs_1 (by rw [k1_5]; decide) (by rw [k1_5]; decide) (by rw [k1_5]; decide) (by decide) ?_
    refine s_aload_n hX dX11_homeActs_161 rfl ?_
    refine s_getR hX dX11_homeActs_162 fl_X11_30 rfl rfl (by omega) ?_
    refine s_bipush (v := nI 14) hX dX11_homeActs_165 (by decide) ?_
    refine s_dup2 hX dX11_homeActs_167 rfl rfl ?_
    refine s_iald (x := nI (v _)) hX dX11_homeActs_168 rfl (by omega) (by omega) (by decide) (hN.at0 _ (by omega)) ?_
    refine s_iconst (v := nI 1) hX dX11_homeActs_169 (by decide) ?_
    refine s_aload_n hX dX11_homeActs_170 rfl ?_
    refine s_getI (x := nI (hf)) hX dX11_homeActs_171 fl_X11_133 rfl rfl (by omega) h10 ?_
    refine s_ishl_n hX dX11_homeActs_174 (by omega) (by have : 2 ^ hf ≤ 2 ^ 4 := Nat.pow_le_pow_right (by decide) (by omega); omega) ?_
    refine s_ior_n hX dX11_homeActs_175 ?_
    refine s_iast hX dX11_homeActs_176 rfl (by omega) (by omega) (by decide) ?_
    refine s_iconst (v := nI 0) hX dX11_homeActs_177 (by decide) ?_
    refine s_iret hX dX11_homeActs_178 rfl rfl ?_
    have hC : hoF pr hf op arg v hd = (0, vset v 14 (v 14 ||| 1 * 2 ^ hf), hd) := by simp [hoF, k1_5]
    rw [hC]
    exact ⟨rfl, Fr.rf.wI (by decide) (by decide), hN.upd, by rw [wI_a _ _ (by decide)]; exact h11⟩
  by_cases k1_6 : op = 6
  · refine s_tableIn (off := 178) (tgt := 179) hX dX11_homeActs_1 (by rw [k1_6]; decide) (by rw [k1_6]; decide) (by rw [k1_6]; decide) (by decide) ?_
    refine s_aload_n hX dX11_homeActs_179 rfl ?_
    refine s_getR hX dX11_homeActs_180 fl_X11_30 rfl rfl (by omega) ?_
    refine s_bipush (v := nI 14) hX dX11_homeActs_183 (by decide) ?_
    refine s_dup2 hX dX11_homeActs_185 rfl rfl ?_
    refine s_iald (x := nI (v _)) hX dX11_homeActs_186 rfl (by omega) (by omega) (by decide) (hN.at0 _ (by omega)) ?_
    refine s_iconst (v := nI 1) hX dX11_homeActs_187 (by decide) ?_
    refine s_aload_n hX dX11_homeActs_188 rfl ?_
    refine s_getI (x := nI (hf)) hX dX11_homeActs_189 fl_X11_133 rfl rfl (by omega) h10 ?_
    refine s_ishl_n hX dX11_homeActs_192 (by omega) (by have : 2 ^ hf ≤ 2 ^ 4 := Nat.pow_le_pow_right (by decide) (by omega); omega) ?_
    refine s_iconst (v := -1) hX dX11_homeActs_193 (by decide) ?_
    refine s_ixor hX dX11_homeActs_194 ?_
    refine s_iand hX dX11_homeActs_195 ?_
    refine s_top (hclI _ h14 _ (by omega)) ?_
    refine s_iast hX dX11_homeActs_196 rfl (by omega) (by omega) (by decide) ?_
    refine s_iconst (v := nI 0) hX dX11_homeActs_197 (by decide) ?_
    refine s_iret hX dX11_homeActs_198 rfl rfl ?_
    have hC : hoF pr hf op arg v hd = (0, vset v 14 (hcl (v 14) hf), hd) := by simp [hoF, k1_6]
    rw [hC]
    exact ⟨rfl, Fr.rf.wI (by decide) (by decide), hN.upd, by rw [wI_a _ _ (by decide)]; exact h11⟩
  by_cases k1_7 : op = 7
  · refine s_tableIn (off := 198) (tgt := 199) hX dX11_homeActs_1 (by rw [k1_7]; decide) (by rw [k1_7]; decide) (by rw [k1_7]; decide) (by decide) ?_
    refine s_aload_n hX dX11_homeActs_199 rfl ?_
    refine s_getR hX dX11_homeActs_200 fl_X11_30 rfl rfl (by omega) ?_
    refine s_bipush (v := nI 14) hX dX11_homeActs_203 (by decide) ?_
    refine s_iconst (v := nI 0) hX dX11_homeActs_205 (by decide) ?_
    refine s_iast hX dX11_homeActs_206 rfl (by omega) (by omega) (by decide) ?_
    refine s_iconst (v := nI 0) hX dX11_homeActs_207 (by decide) ?_
    refine s_iret hX dX11_homeActs_208 rfl rfl ?_
    have hC : hoF pr hf op arg v hd = (0, vset v 14 0, hd) := by simp [hoF, k1_7]
    rw [hC]
    exact ⟨rfl, Fr.rf.wI (by decide) (by decide), hN.upd, by rw [wI_a _ _ (by decide)]; exact h11⟩
  by_cases k1_8 : op = 8
  · refine s_tableIn (off := 208) (tgt := 209) hX dX11_homeActs_1 (by rw [k1_8]; decide) (by rw [k1_8]; decide) (by rw [k1_8]; decide) (by decide) ?_
    refine s_aload_n hX dX11_homeActs_209 rfl ?_
    refine s_getR hX dX11_homeActs_210 fl_X11_30 rfl rfl (by omega) ?_
    refine s_bipush (v := nI 13) hX dX11_homeActs_213 (by decide) ?_
    refine s_aload_n hX dX11_homeActs_215 rfl ?_
    refine s_getI (x := nI (hd)) hX dX11_homeActs_216 fl_X11_136 rfl rfl (by omega) h11 ?_
    refine s_iast hX dX11_homeActs_219 rfl (by omega) (by omega) (by decide) ?_
    refine s_iconst (v := nI 0) hX dX11_homeActs_220 (by decide) ?_
    refine s_iret hX dX11_homeActs_221 rfl rfl ?_
    have hC : hoF pr hf op arg v hd = (0, vset v 13 hd, hd) := by simp [hoF, k1_8]
    rw [hC]
    exact ⟨rfl, Fr.rf.wI (by decide) (by decide), hN.upd, by rw [wI_a _ _ (by decide)]; exact h11⟩
  refine s_tableOut (tgt := 222) hX dX11_homeActs_1 (by rw [nI_toInt (by omega)]; omega) (by decide) ?_
  refine s_iconst (v := nI 0) hX dX11_homeActs_222 (by decide) ?_
  refine s_iret hX dX11_homeActs_223 rfl rfl ?_
  have hC : hoF pr hf op arg v hd = (0, v, hd) := by simp [hoF, k1_1, k1_2, k1_3, k1_4, k1_5, k1_6, k1_7, k1_8]
  rw [hC]
  exact ⟨rfl, Fr.rf, hN, h11⟩
