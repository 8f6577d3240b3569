/-! ===== the reference: its cells in these words ===== -/
def PrM (σ : Sg) (pr : Pr) : Prop := (σ 53).1 0 = nI (pP pr) ∧ (∀ k, k < 16 → (σ 54).1 k = nI (pLo pr k)) ∧ (∀ s, s < 16 → (σ 55).1 s = nI (pRi pr s)) ∧ (∀ a, a < 2048 → (σ 56).1 a = amv (pAm pr a)) ∧ (∀ a, a < 2048 → ∀ m, pAm pr a = some m → ∀ k, k < m → (σ 57).1 (8 * a + k) = nI (pAc pr a k))
def Vat (σ : Sg) (a b : Nat) (v : Vc) : Prop := ∀ j, j < 56 → (σ a).1 (b + j) = nI (v j)
theorem Vat.at0 {σ : Sg} {a : Nat} {v : Vc} (h : Vat σ a 0 v) (j : Nat) (hj : j < 56) : (σ a).1 j = nI (v j) := by have := h j hj; rwa [Nat.zero_add] at this
theorem Vat.kept {σ σ2 : Sg} {a b : Nat} {v : Vc} (h : Vat σ a b v) (e : σ2 a = σ a) : Vat σ2 a b v := fun j hj => by rw [e]; exact h j hj
theorem PrM.kept {σ σ2 : Sg} {pr : Pr} (h : PrM σ pr) (e : (σ2 53).1 0 = (σ 53).1 0) (e1 : σ2 54 = σ 54) (e2 : σ2 55 = σ 55) (e3 : σ2 56 = σ 56) (e4 : σ2 57 = σ 57) : PrM σ2 pr := ⟨e.trans h.1, by rw [e1]; exact h.2.1, by rw [e2]; exact h.2.2.1, by rw [e3]; exact h.2.2.2.1, by rw [e4]; exact h.2.2.2.2⟩
theorem PrM.fr {σ σ2 : Sg} {pr : Pr} {S K : List Nat} (h : PrM σ pr) (f : Fr 53 σ σ2 S K) (hk : 0 ∉ K) (h1 : 54 ∉ S) (h2 : 55 ∉ S) (h3 : 56 ∉ S) (h4 : 57 ∉ S) : PrM σ2 pr := h.kept (f.2.1 0 hk) (f.1 54 h1 (by decide)) (f.1 55 h2 (by decide)) (f.1 56 h3 (by decide)) (f.1 57 h4 (by decide))
theorem PrM.off {σ σ2 : Sg} {pr : Pr} {S : List Nat} (h : PrM σ pr) (f : Off σ σ2 S) (h0 : 53 ∉ S) (h1 : 54 ∉ S) (h2 : 55 ∉ S) (h3 : 56 ∉ S) (h4 : 57 ∉ S) : PrM σ2 pr := h.kept (by rw [f 53 h0]) (f 54 h1) (f 55 h2) (f 56 h3) (f 57 h4)
theorem Vat.off {σ σ2 : Sg} {a b : Nat} {v : Vc} {S : List Nat} (h : Vat σ a b v) (f : Off σ σ2 S) (ha : a ∉ S) : Vat σ2 a b v := h.kept (f a ha)
theorem Vat.fr {σ σ2 : Sg} {a b : Nat} {v : Vc} {S K : List Nat} (h : Vat σ a b v) (f : Fr 53 σ σ2 S K) (ha : a ∉ S) (h0 : a ≠ 53) : Vat σ2 a b v := h.kept (f.1 a ha h0)
set_option maxRecDepth 100000 in
set_option maxHeartbeats 4000000 in
theorem c_X11_copy {n : Nat} {σ : Sg} {f t lf lt a b : Nat} (hf : sh f = .inr (0, lf)) (ht : sh t = .inr (0, lt)) (hfn : f < n) (htn : t < n) (hne : f ≠ t) (ha : a + 56 ≤ lf) (hb : b + 56 ≤ lt) (hlf : lf < 2 ^ 31) (hlt : lt < 2 ^ 31) : Sm n mX11_copy [.ref f, .int (nI a), .ref t, .int (nI b)] σ (qv fun σ2 => σ2 = wA σ t (va_cpy (σ f).1 (σ t).1 a b 56)) := by
  refine Sm.of mk_X11_copy (Nat.le_of_ble_eq_true rfl) rfl (fun X hX => ?_)
  have lp : ∀ m k, k + m = 56 → Sw n mX11_copy X (ZS n mX11_copy (qv fun σ2 => σ2 = wA σ t (va_cpy (σ f).1 (σ t).1 a b 56)) X) 3 [some (.ref f), some (.int (nI a)), some (.ref t), some (.int (nI b)), some (.int (nI k))] [] (wA σ t (va_cpy (σ f).1 (σ t).1 a b k)) := by
    intro m
    induction m with
    | zero =>
      intro k hk
      refine s_iload hX dX11_copy_3 rfl ?_
      refine s_bipush (v := nI 56) hX dX11_copy_5 (by decide) ?_
      refine s_icmp_ge_n (tgt := 28) hX dX11_copy_7 (by decide) (by omega) (by omega) (fun q7 => ?_) (fun q7 => ?_)
      · refine s_vret hX dX11_copy_28 rfl rfl ?_
        rw [show k = 56 by omega]
      · omega
    | succ m ih =>
      intro k hk
      refine s_iload hX dX11_copy_3 rfl ?_
      refine s_bipush (v := nI 56) hX dX11_copy_5 (by decide) ?_
      refine s_icmp_ge_n (tgt := 28) hX dX11_copy_7 (by decide) (by omega) (by omega) (fun q7 => ?_) (fun q7 => ?_)
      · omega
      · refine s_aload_n hX dX11_copy_10 rfl ?_
        refine s_iload_n hX dX11_copy_11 rfl ?_
        refine s_iload hX dX11_copy_12 rfl ?_
        refine s_iadd_n hX dX11_copy_14 ?_
        refine s_aload_n hX dX11_copy_15 rfl ?_
        refine s_iload_n hX dX11_copy_16 rfl ?_
        refine s_iload hX dX11_copy_17 rfl ?_
        refine s_iadd_n hX dX11_copy_19 ?_
        refine s_iald (x := (σ f).1 (a + k)) hX dX11_copy_20 hf hfn (by omega) hlf (by rw [wA_a _ _ hne]) ?_
        refine s_iast hX dX11_copy_21 ht htn (by omega) hlt ?_
        refine s_eq (wI_wA _ _ _ _ _) ?_
        rw [cpy_s]
        refine s_iinc_n (c := 1) hX dX11_copy_22 rfl (by decide) rfl st_5_4 ?_
        refine s_goto (tgt := 3) hX dX11_copy_25 (by decide) ?_
        exact ih (k + 1) (by omega)
  refine s_iconst (v := nI 0) hX dX11_copy_0 (by decide) ?_
  refine s_istore hX dX11_copy_1 (Nat.le_of_ble_eq_true rfl) rfl st_5_4 ?_
  refine s_eq (σ2 := wA σ t (va_cpy (σ f).1 (σ t).1 a b 0)) (by rw [cpy_0, wA_self]) ?_
  exact lp 56 0 (by omega)
set_option maxRecDepth 100000 in
set_option maxHeartbeats 4000000 in
theorem c_X11_first {σ : Sg} : Sm 77 mX11_first [.ref 53] σ (qv fun σ2 => Off σ σ2 [59] ∧ Vat σ2 59 0 v0) := by
  refine Sm.of mk_X11_first (Nat.le_of_ble_eq_true rfl) rfl (fun X hX => ?_)
  have lp : ∀ m k, k + m = 56 → ∀ σ1, Off σ σ1 [59] → (∀ j, j < k → (σ1 59).1 j = 0) → Sw 77 mX11_first X (ZS 77 mX11_first (qv fun σ2 => Off σ σ2 [59] ∧ Vat σ2 59 0 v0) X) 2 [some (.ref 53), some (.int (nI k))] [] σ1 := by
    intro m
    induction m with
    | zero =>
      intro k hk σ1 ho hz
      refine s_iload_n hX dX11_first_2 rfl ?_
      refine s_bipush (v := nI 56) hX dX11_first_3 (by decide) ?_
      refine s_icmp_ge_n (tgt := 21) hX dX11_first_5 (by decide) (by omega) (by omega) (fun q5 => ?_) (fun q5 => ?_)
      · refine s_aload_n hX dX11_first_21 rfl ?_
        refine s_getR hX dX11_first_22 fl_X11_30 rfl rfl (by omega) ?_
        refine s_bipush (v := nI 13) hX dX11_first_25 (by decide) ?_
        refine s_iconst (v := nI 1) hX dX11_first_27 (by decide) ?_
        refine s_iast hX dX11_first_28 rfl (by omega) (by omega) (by decide) ?_
        refine s_vret hX dX11_first_29 rfl rfl ?_
        refine ⟨ho.wI (by decide), fun j hj => ?_⟩
        rw [Nat.zero_add]
        by_cases h : j = 13
        · subst h; rw [wI_s]; rfl
        · rw [wI_k _ _ h, hz j (by omega)]
          simp [v0, h]; rfl
      · omega
    | succ m ih =>
      intro k hk σ1 ho hz
      refine s_iload_n hX dX11_first_2 rfl ?_
      refine s_bipush (v := nI 56) hX dX11_first_3 (by decide) ?_
      refine s_icmp_ge_n (tgt := 21) hX dX11_first_5 (by decide) (by omega) (by omega) (fun q5 => ?_) (fun q5 => ?_)
      · omega
      · refine s_aload_n hX dX11_first_8 rfl ?_
        refine s_getR hX dX11_first_9 fl_X11_30 rfl rfl (by omega) ?_
        refine s_iload_n hX dX11_first_12 rfl ?_
        refine s_iconst (v := nI 0) hX dX11_first_13 (by decide) ?_
        refine s_iast hX dX11_first_14 rfl (by omega) (by omega) (by decide) ?_
        refine s_iinc_n (c := 1) hX dX11_first_15 rfl (by decide) rfl st_2_1 ?_
        refine s_goto (tgt := 2) hX dX11_first_18 (by decide) ?_
        refine ih (k + 1) (by omega) _ (ho.wI (by decide)) (fun j hj => ?_)
        by_cases h : j = k
        · subst h; rw [wI_s]; rfl
        · rw [wI_k _ _ h, hz j (by omega)]
  refine s_iconst (v := nI 0) hX dX11_first_0 (by decide) ?_
  refine s_istore_n hX dX11_first_1 (Nat.le_of_ble_eq_true rfl) rfl st_2_1 ?_
  exact lp 56 0 (by omega) σ Off.rf (fun j hj => absurd hj (Nat.not_lt_zero j))
set_option maxRecDepth 100000 in
set_option maxHeartbeats 4000000 in
theorem c_X11_letterAt {σ : Sg} {v : Vc} (hN : Vat σ 59 0 v) (i w : Nat) (hi : 16 + 5 * i + w < 56) : Sm 77 mX11_letterAt [.ref 53, .int (nI i), .int (nI w)] σ (qi fun r σ2 => r = nI (v (16 + 5 * i + w)) ∧ σ2 = σ) := by
  refine Sm.of mk_X11_letterAt (Nat.le_of_ble_eq_true rfl) rfl (fun X hX => ?_)
  refine s_aload_n hX dX11_letterAt_0 rfl ?_
  refine s_getR hX dX11_letterAt_1 fl_X11_30 rfl rfl (by omega) ?_
  refine s_bipush (v := nI 16) hX dX11_letterAt_4 (by decide) ?_
  refine s_iconst (v := nI 5) hX dX11_letterAt_6 (by decide) ?_
  refine s_iload_n hX dX11_letterAt_7 rfl ?_
  refine s_imul_n hX dX11_letterAt_8 ?_
  refine s_iadd_n hX dX11_letterAt_9 ?_
  refine s_iload_n hX dX11_letterAt_10 rfl ?_
  refine s_iadd_n hX dX11_letterAt_11 ?_
  refine s_iald (x := nI (v _)) hX dX11_letterAt_12 rfl (by omega) (by omega) (by decide) (hN.at0 _ (by omega)) ?_
  refine s_iret hX dX11_letterAt_13 rfl rfl ?_
  exact ⟨rfl, rfl⟩

def plF (w : Int32) : Option Nat := if w < 0 then none else if w.toNatClampNeg / 16 / 1024 > 1 ∨ (w.toNatClampNeg / 16 / 1024 = 0 ∧ w.toNatClampNeg / 16 % 64 > 18) ∨ w.toNatClampNeg / 16 % 64 > 31 then none else some (w.toNatClampNeg / 16)
theorem plF_n {w : Nat} (h : w < 2 ^ 31) : plF (nI w) = if w / 16 / 1024 > 1 ∨ (w / 16 / 1024 = 0 ∧ w / 16 % 64 > 18) ∨ w / 16 % 64 > 31 then none else some (w / 16) := by
  unfold plF
  rw [if_neg (nI_pos h), nI_clamp h]
theorem plF_lt {w : Int32} {a : Nat} (h : plF w = some a) : a < 2048 := by
  unfold plF at h
  split at h
  · cases h
  · split at h
    · cases h
    · rename_i hq
      have := Option.some.inj h
      omega
set_option maxRecDepth 100000 in
set_option maxHeartbeats 4000000 in
theorem c_X11_placeOf {n : Nat} {σ : Sg} (w : Int32) : Sm n mX11_placeOf [.int w] σ (qi fun r σ2 => r = amv (plF w) ∧ σ2 = σ) := by
  refine Sm.of mk_X11_placeOf (Nat.le_of_ble_eq_true rfl) rfl (fun X hX => ?_)
  by_cases hw : w < 0
  · have hp : plF w = none := by unfold plF; rw [if_pos hw]
    refine s_iload_n hX dX11_placeOf_0 rfl ?_
    refine s_if_ge (tgt := 6) hX dX11_placeOf_1 (by decide) (fun q1 => ?_) (fun q1 => ?_)
    · exact absurd hw (by first | exact Int32.not_lt.mpr q1)
    · refine s_iconst (v := -1) hX dX11_placeOf_4 (by decide) ?_
      refine s_iret hX dX11_placeOf_5 rfl rfl ?_
      exact ⟨by rw [hp]; rfl, rfl⟩
  · obtain ⟨a, ha, rfl⟩ := nI_of hw
    have hp := plF_n ha
    refine s_iload_n hX dX11_placeOf_0 rfl ?_
    refine s_if_ge_n (tgt := 6) hX dX11_placeOf_1 (by decide) (by omega) ?_
    refine s_iload_n hX dX11_placeOf_6 rfl ?_
    refine s_bipush (v := nI 16) hX dX11_placeOf_7 (by decide) ?_
    refine s_idiv_n hX dX11_placeOf_9 (by omega) (by decide) (by decide) ?_
    refine s_istore_n hX dX11_placeOf_10 (Nat.le_of_ble_eq_true rfl) rfl st_4_1 ?_
    refine s_iload_n hX dX11_placeOf_11 rfl ?_
    refine s_sipush (v := nI 1024) hX dX11_placeOf_12 (by decide) ?_
    refine s_idiv_n hX dX11_placeOf_15 (by omega) (by decide) (by decide) ?_
    refine s_istore_n hX dX11_placeOf_16 (Nat.le_of_ble_eq_true rfl) rfl st_4_2 ?_
    refine s_iload_n hX dX11_placeOf_17 rfl ?_
    refine s_bipush (v := nI 64) hX dX11_placeOf_18 (by decide) ?_
    refine s_irem_n hX dX11_placeOf_20 (by omega) (by decide) (by decide) ?_
    refine s_istore_n hX dX11_placeOf_21 (Nat.le_of_ble_eq_true rfl) rfl st_4_3 ?_
    refine s_iload_n hX dX11_placeOf_22 rfl ?_
    refine s_iconst (v := nI 1) hX dX11_placeOf_23 (by decide) ?_
    refine s_icmp_gt_n (tgt := 43) hX dX11_placeOf_24 (by decide) (by omega) (by omega) (fun q24 => ?_) (fun q24 => ?_)
    · refine s_iconst (v := -1) hX dX11_placeOf_43 (by decide) ?_
      refine s_goto (tgt := 48) hX dX11_placeOf_44 (by decide) ?_
      refine s_iret hX dX11_placeOf_48 rfl rfl ?_
      first
        | exact ⟨by rw [hp, if_pos (by omega)]; rfl, rfl⟩
        | exact ⟨by rw [hp, if_neg (by omega)]; rfl, rfl⟩
    · refine s_iload_n hX dX11_placeOf_27 rfl ?_
      refine s_if_ne_n (tgt := 37) hX dX11_placeOf_28 (by decide) (by omega) (fun q28 => ?_) (fun q28 => ?_)
      · refine s_iload_n hX dX11_placeOf_37 rfl ?_
        refine s_bipush (v := nI 31) hX dX11_placeOf_38 (by decide) ?_
        refine s_icmp_le_n (tgt := 47) hX dX11_placeOf_40 (by decide) (by omega) (by omega) (fun q40 => ?_) (fun q40 => ?_)
        · refine s_iload_n hX dX11_placeOf_47 rfl ?_
          refine s_iret hX dX11_placeOf_48 rfl rfl ?_
          first
            | exact ⟨by rw [hp, if_pos (by omega)]; rfl, rfl⟩
            | exact ⟨by rw [hp, if_neg (by omega)]; rfl, rfl⟩
        · refine s_iconst (v := -1) hX dX11_placeOf_43 (by decide) ?_
          refine s_goto (tgt := 48) hX dX11_placeOf_44 (by decide) ?_
          refine s_iret hX dX11_placeOf_48 rfl rfl ?_
          first
            | exact ⟨by rw [hp, if_pos (by omega)]; rfl, rfl⟩
            | exact ⟨by rw [hp, if_neg (by omega)]; rfl, rfl⟩
      · refine s_iload_n hX dX11_placeOf_31 rfl ?_
        refine s_bipush (v := nI 18) hX dX11_placeOf_32 (by decide) ?_
        refine s_icmp_gt_n (tgt := 43) hX dX11_placeOf_34 (by decide) (by omega) (by omega) (fun q34 => ?_) (fun q34 => ?_)
        · refine s_iconst (v := -1) hX dX11_placeOf_43 (by decide) ?_
          refine s_goto (tgt := 48) hX dX11_placeOf_44 (by decide) ?_
          refine s_iret hX dX11_placeOf_48 rfl rfl ?_
          first
            | exact ⟨by rw [hp, if_pos (by omega)]; rfl, rfl⟩
            | exact ⟨by rw [hp, if_neg (by omega)]; rfl, rfl⟩
        · refine s_iload_n hX dX11_placeOf_37 rfl ?_
          refine s_bipush (v := nI 31) hX dX11_placeOf_38 (by decide) ?_
          refine s_icmp_le_n (tgt := 47) hX dX11_placeOf_40 (by decide) (by omega) (by omega) (fun q40 => ?_) (fun q40 => ?_)
          · refine s_iload_n hX dX11_placeOf_47 rfl ?_
            refine s_iret hX dX11_placeOf_48 rfl rfl ?_
            first
              | exact ⟨by rw [hp, if_pos (by omega)]; rfl, rfl⟩
              | exact ⟨by rw [hp, if_neg (by omega)]; rfl, rfl⟩
          · refine s_iconst (v := -1) hX dX11_placeOf_43 (by decide) ?_
            refine s_goto (tgt := 48) hX dX11_placeOf_44 (by decide) ?_
            refine s_iret hX dX11_placeOf_48 rfl rfl ?_
            first
              | exact ⟨by rw [hp, if_pos (by omega)]; rfl, rfl⟩
              | exact ⟨by rw [hp, if_neg (by omega)]; rfl, rfl⟩
set_option maxRecDepth 100000 in
set_option maxHeartbeats 4000000 in
theorem c_X11_waits {σ : Sg} {pr : Pr} (hp : PrM σ pr) (hk : PrOk pr) (a : Nat) (ha : a < 2048) : Sm 77 mX11_waits [.ref 53, .int (nI a)] σ (qi fun r σ2 => r = bI (wtF pr a) ∧ σ2 = σ) := by
  refine Sm.of mk_X11_waits (Nat.le_of_ble_eq_true rfl) rfl (fun X hX => ?_)
  cases hm : pAm pr a with
  | none =>
    have hw : wtF pr a = false := by unfold wtF; rw [hm]
    have h56 : (σ 56).1 a = -1 := by rw [hp.2.2.2.1 a ha, hm]; rfl
    refine s_iconst (v := nI 0) hX dX11_waits_0 (by decide) ?_
    refine s_istore_n hX dX11_waits_1 (Nat.le_of_ble_eq_true rfl) rfl st_4_2 ?_
    refine s_iconst (v := nI 0) hX dX11_waits_2 (by decide) ?_
    refine s_istore_n hX dX11_waits_3 (Nat.le_of_ble_eq_true rfl) rfl st_4_3 ?_
    refine s_iload_n hX dX11_waits_4 rfl ?_
    refine s_aload_n hX dX11_waits_5 rfl ?_
    refine s_getR hX dX11_waits_6 fl_X11_20 rfl rfl (by omega) ?_
    refine s_iload_n hX dX11_waits_9 rfl ?_
    refine s_iald (x := (-1)) hX dX11_waits_10 rfl (by omega) (by omega) (by decide) h56 ?_
    refine s_icmp_ge (tgt := 49) hX dX11_waits_11 (by decide) (fun q11 => ?_) (fun q11 => ?_)
    · refine s_iload_n hX dX11_waits_49 rfl ?_
      refine s_zret hX dX11_waits_50 rfl (Or.inl rfl) rfl ?_
      exact ⟨by rw [hw]; rfl, rfl⟩
    · exact absurd (by decide : (-1 : Int32) ≤ nI 0) q11
  | some m =>
    have hm8 := hk.2.2.2.1 a m hm
    have hw : wtF pr a = wtR (pAc pr a) m := by unfold wtF; rw [hm]
    have h56 : (σ 56).1 a = nI m := by rw [hp.2.2.2.1 a ha, hm]; rfl
    have h57 := hp.2.2.2.2 a ha m hm
    have hac := hk.2.2.2.2 a
    have lp : ∀ d k, k + d = m → Sw 77 mX11_waits X (ZS 77 mX11_waits (qi fun r σ2 => r = bI (wtF pr a) ∧ σ2 = σ) X) 4 [some (.ref 53), some (.int (nI a)), some (.int (nI (wtR (pAc pr a) k).toNat)), some (.int (nI k))] [] σ := by
      intro d
      induction d with
      | zero =>
        intro k hd
        refine s_iload_n hX dX11_waits_4 rfl ?_
        refine s_aload_n hX dX11_waits_5 rfl ?_
        refine s_getR hX dX11_waits_6 fl_X11_20 rfl rfl (by omega) ?_
        refine s_iload_n hX dX11_waits_9 rfl ?_
        refine s_iald (x := nI (m)) hX dX11_waits_10 rfl (by omega) (by omega) (by decide) h56 ?_
        refine s_icmp_ge_n (tgt := 49) hX dX11_waits_11 (by decide) (by omega) (by omega) (fun q11 => ?_) (fun q11 => ?_)
        · refine s_iload_n hX dX11_waits_49 rfl ?_
          refine s_zret hX dX11_waits_50 rfl (by exact bI_01 _) rfl ?_
          exact ⟨by rw [hw, show k = m by omega]; rfl, rfl⟩
        · omega
      | succ d ih =>
        intro k hd
        have hb : (wtR (pAc pr a) k).toNat ≤ 1 := by cases wtR (pAc pr a) k <;> decide
        have hs : wtR (pAc pr a) (k + 1) = (wtR (pAc pr a) k || pAc pr a k / 16 == 9) := rfl
        have hk8 := hac k
        refine s_iload_n hX dX11_waits_4 rfl ?_
        refine s_aload_n hX dX11_waits_5 rfl ?_
        refine s_getR hX dX11_waits_6 fl_X11_20 rfl rfl (by omega) ?_
        refine s_iload_n hX dX11_waits_9 rfl ?_
        refine s_iald (x := nI (m)) hX dX11_waits_10 rfl (by omega) (by omega) (by decide) h56 ?_
        refine s_icmp_ge_n (tgt := 49) hX dX11_waits_11 (by decide) (by omega) (by omega) (fun q11 => ?_) (fun q11 => ?_)
        · omega
        · refine s_iload_n hX dX11_waits_14 rfl ?_
          refine s_if_ne_n (tgt := 37) hX dX11_waits_15 (by decide) (by omega) (fun q15 => ?_) (fun q15 => ?_)
          · refine s_iconst (v := nI 1) hX dX11_waits_37 (by decide) ?_
            refine s_goto (tgt := 42) hX dX11_waits_38 (by decide) ?_
            refine s_istore_n hX dX11_waits_42 (Nat.le_of_ble_eq_true rfl) rfl st_4_2 ?_
            refine s_iinc_n (c := 1) hX dX11_waits_43 rfl (by decide) rfl st_4_3 ?_
            refine s_goto (tgt := 4) hX dX11_waits_46 (by decide) ?_
            have hx := ih (k + 1) (by omega)
            rw [hs] at hx
            first
              | (have e1 : wtR (pAc pr a) k = true := by revert q15; cases wtR (pAc pr a) k <;> simp
                 rw [e1, Bool.true_or] at hx
                 exact hx)
              | (have e1 : wtR (pAc pr a) k = false := by revert q15; cases wtR (pAc pr a) k <;> simp
                 have e2 : (pAc pr a k / 16 == 9) = false := by simpa using q34
                 rw [e1, e2] at hx
                 exact hx)
              | (have e1 : wtR (pAc pr a) k = false := by revert q15; cases wtR (pAc pr a) k <;> simp
                 have e2 : (pAc pr a k / 16 == 9) = true := by simpa using q34
                 rw [e1, e2] at hx
                 exact hx)
          · refine s_aload_n hX dX11_waits_18 rfl ?_
            refine s_getR hX dX11_waits_19 fl_X11_23 rfl rfl (by omega) ?_
            refine s_bipush (v := nI 8) hX dX11_waits_22 (by decide) ?_
            refine s_iload_n hX dX11_waits_24 rfl ?_
            refine s_imul_n hX dX11_waits_25 ?_
            refine s_iload_n hX dX11_waits_26 rfl ?_
            refine s_iadd_n hX dX11_waits_27 ?_
            refine s_iald (x := nI (pAc pr a k)) hX dX11_waits_28 rfl (by omega) (by omega) (by decide) (h57 k (by omega)) ?_
            refine s_bipush (v := nI 16) hX dX11_waits_29 (by decide) ?_
            refine s_idiv_n hX dX11_waits_31 (by omega) (by decide) (by decide) ?_
            refine s_bipush (v := nI 9) hX dX11_waits_32 (by decide) ?_
            refine s_icmp_ne_n (tgt := 41) hX dX11_waits_34 (by decide) (by omega) (by omega) (fun q34 => ?_) (fun q34 => ?_)
            · refine s_iconst (v := nI 0) hX dX11_waits_41 (by decide) ?_
              refine s_istore_n hX dX11_waits_42 (Nat.le_of_ble_eq_true rfl) rfl st_4_2 ?_
              refine s_iinc_n (c := 1) hX dX11_waits_43 rfl (by decide) rfl st_4_3 ?_
              refine s_goto (tgt := 4) hX dX11_waits_46 (by decide) ?_
              have hx := ih (k + 1) (by omega)
              rw [hs] at hx
              first
                | (have e1 : wtR (pAc pr a) k = true := by revert q15; cases wtR (pAc pr a) k <;> simp
                   rw [e1, Bool.true_or] at hx
                   exact hx)
                | (have e1 : wtR (pAc pr a) k = false := by revert q15; cases wtR (pAc pr a) k <;> simp
                   have e2 : (pAc pr a k / 16 == 9) = false := by simpa using q34
                   rw [e1, e2] at hx
                   exact hx)
                | (have e1 : wtR (pAc pr a) k = false := by revert q15; cases wtR (pAc pr a) k <;> simp
                   have e2 : (pAc pr a k / 16 == 9) = true := by simpa using q34
                   rw [e1, e2] at hx
                   exact hx)
            · refine s_iconst (v := nI 1) hX dX11_waits_37 (by decide) ?_
              refine s_goto (tgt := 42) hX dX11_waits_38 (by decide) ?_
              refine s_istore_n hX dX11_waits_42 (Nat.le_of_ble_eq_true rfl) rfl st_4_2 ?_
              refine s_iinc_n (c := 1) hX dX11_waits_43 rfl (by decide) rfl st_4_3 ?_
              refine s_goto (tgt := 4) hX dX11_waits_46 (by decide) ?_
              have hx := ih (k + 1) (by omega)
              rw [hs] at hx
              first
                | (have e1 : wtR (pAc pr a) k = true := by revert q15; cases wtR (pAc pr a) k <;> simp
                   rw [e1, Bool.true_or] at hx
                   exact hx)
                | (have e1 : wtR (pAc pr a) k = false := by revert q15; cases wtR (pAc pr a) k <;> simp
                   have e2 : (pAc pr a k / 16 == 9) = false := by simpa using q34
                   rw [e1, e2] at hx
                   exact hx)
                | (have e1 : wtR (pAc pr a) k = false := by revert q15; cases wtR (pAc pr a) k <;> simp
                   have e2 : (pAc pr a k / 16 == 9) = true := by simpa using q34
                   rw [e1, e2] at hx
                   exact hx)
    refine s_iconst (v := nI 0) hX dX11_waits_0 (by decide) ?_
    refine s_istore_n hX dX11_waits_1 (Nat.le_of_ble_eq_true rfl) rfl st_4_2 ?_
    refine s_iconst (v := nI 0) hX dX11_waits_2 (by decide) ?_
    refine s_istore_n hX dX11_waits_3 (Nat.le_of_ble_eq_true rfl) rfl st_4_3 ?_
    exact lp m 0 (by omega)
set_option maxRecDepth 100000 in
set_option maxHeartbeats 4000000 in
theorem c_X11_rowOfLetter {σ : Sg} {pr : Pr} {v : Vc} (hp : PrM σ pr) (hk : PrOk pr) (hN : Vat σ 59 0 v) (hv : VOk pr v) (i : Nat) (hi : i < v 15) : Sm 77 mX11_rowOfLetter [.ref 53, .int (nI i)] σ (qi fun r σ2 => r = nI (rowOf pr v i) ∧ σ2 = σ) := by
  refine Sm.of mk_X11_rowOfLetter (Nat.le_of_ble_eq_true rfl) rfl (fun X hX => ?_)
  have hi8 : v 15 ≤ 8 := hv.2.2.2.2.1
  obtain ⟨g1, g2, g3, g4, g5⟩ := hv.2.2.2.2.2.1 i hi
  have hP := hk.1
  have hpv := hv.1
  have h12 := hv.2.1
  have h14 := hv.2.2.2.1
  refine s_aload_n hX dX11_rowOfLetter_0 rfl ?_
  refine s_iload_n hX dX11_rowOfLetter_1 rfl ?_
  refine s_iconst (v := nI 0) hX dX11_rowOfLetter_2 (by decide) ?_
  refine s_callVi (as := [_, _]) hX dX11_rowOfLetter_3 mk_X11_letterAt lk_X11_105 (c_X11_letterAt hN i 0 (by omega)) rfl (by omega) rfl rfl rfl ⟨rfl, rfl⟩ (Nat.le_of_ble_eq_true rfl) (Nat.le_of_ble_eq_true rfl) (Nat.le_of_ble_eq_true rfl) rfl (fun v3 σ3 p3 => ?_)
  obtain ⟨rfl, rfl⟩ := p3
  refine s_istore_n hX dX11_rowOfLetter_6 (Nat.le_of_ble_eq_true rfl) rfl st_5_2 ?_
  refine s_aload_n hX dX11_rowOfLetter_7 rfl ?_
  refine s_iload_n hX dX11_rowOfLetter_8 rfl ?_
  refine s_iconst (v := nI 2) hX dX11_rowOfLetter_9 (by decide) ?_
  refine s_callVi (as := [_, _]) hX dX11_rowOfLetter_10 mk_X11_letterAt lk_X11_105 (c_X11_letterAt hN i 2 (by omega)) rfl (by omega) rfl rfl rfl ⟨rfl, rfl⟩ (Nat.le_of_ble_eq_true rfl) (Nat.le_of_ble_eq_true rfl) (Nat.le_of_ble_eq_true rfl) rfl (fun v10 σ10 p10 => ?_)
  obtain ⟨rfl, rfl⟩ := p10
  rw [show 16 + 5 * i + 2 = 18 + 5 * i by omega]
  refine s_istore_n hX dX11_rowOfLetter_13 (Nat.le_of_ble_eq_true rfl) rfl st_5_3 ?_
  refine s_iload_n hX dX11_rowOfLetter_14 rfl ?_
  refine s_aload_n hX dX11_rowOfLetter_15 rfl ?_
  refine s_getI (x := nI (pP pr)) hX dX11_rowOfLetter_16 fl_X11_7 rfl rfl (by omega) hp.1 ?_
  refine s_icmp_ge_n (tgt := 38) hX dX11_rowOfLetter_19 (by decide) (by omega) (by omega) (fun q19 => ?_) (fun q19 => ?_)
  · refine s_aload_n hX dX11_rowOfLetter_38 rfl ?_
    refine s_getR hX dX11_rowOfLetter_39 fl_X11_30 rfl rfl (by omega) ?_
    refine s_bipush (v := nI 14) hX dX11_rowOfLetter_42 (by decide) ?_
    refine s_iald (x := nI (v _)) hX dX11_rowOfLetter_44 rfl (by omega) (by omega) (by decide) (hN.at0 _ (by omega)) ?_
    refine s_iconst (v := nI 1) hX dX11_rowOfLetter_45 (by decide) ?_
    refine s_aload_n hX dX11_rowOfLetter_46 rfl ?_
    refine s_iload_n hX dX11_rowOfLetter_47 rfl ?_
    refine s_iconst (v := nI 3) hX dX11_rowOfLetter_48 (by decide) ?_
    refine s_callVi (as := [_, _]) hX dX11_rowOfLetter_49 mk_X11_letterAt lk_X11_105 (c_X11_letterAt hN i 3 (by omega)) rfl (by omega) rfl rfl rfl ⟨rfl, rfl⟩ (Nat.le_of_ble_eq_true rfl) (Nat.le_of_ble_eq_true rfl) (Nat.le_of_ble_eq_true rfl) rfl (fun v49 σ49 p49 => ?_)
    obtain ⟨rfl, rfl⟩ := p49
    rw [show 16 + 5 * i + 3 = 19 + 5 * i by omega]
    refine s_ishl_n hX dX11_rowOfLetter_52 (by omega) (by have : 2 ^ v (19 + 5 * i) ≤ 2 ^ 4 := Nat.pow_le_pow_right (by decide) (by omega); omega) ?_
    refine s_iconst (v := -1) hX dX11_rowOfLetter_53 (by decide) ?_
    refine s_ixor hX dX11_rowOfLetter_54 ?_
    refine s_iand hX dX11_rowOfLetter_55 ?_
    refine s_istore hX dX11_rowOfLetter_56 (Nat.le_of_ble_eq_true rfl) rfl st_5_4 ?_
    refine s_sipush (v := nI 1024) hX dX11_rowOfLetter_58 (by decide) ?_
    refine s_aload_n hX dX11_rowOfLetter_61 rfl ?_
    refine s_getR hX dX11_rowOfLetter_62 fl_X11_30 rfl rfl (by omega) ?_
    refine s_bipush (v := nI 12) hX dX11_rowOfLetter_65 (by decide) ?_
    refine s_iald (x := nI (v _)) hX dX11_rowOfLetter_67 rfl (by omega) (by omega) (by decide) (hN.at0 _ (by omega)) ?_
    refine s_bipush (v := nI 64) hX dX11_rowOfLetter_68 (by decide) ?_
    refine s_imul_n hX dX11_rowOfLetter_70 ?_
    refine s_iadd_n hX dX11_rowOfLetter_71 ?_
    refine s_iconst (v := nI 2) hX dX11_rowOfLetter_72 (by decide) ?_
    refine s_iload_n hX dX11_rowOfLetter_73 rfl ?_
    refine s_imul_n hX dX11_rowOfLetter_74 ?_
    refine s_iadd_n hX dX11_rowOfLetter_75 ?_
    refine s_iload hX dX11_rowOfLetter_76 rfl ?_
    refine s_if_eq (tgt := 85) hX dX11_rowOfLetter_78 (by decide) (fun q78 => ?_) (fun q78 => ?_)
    · refine s_iconst (v := nI 0) hX dX11_rowOfLetter_85 (by decide) ?_
      refine s_iadd_n hX dX11_rowOfLetter_86 ?_
      refine s_iret hX dX11_rowOfLetter_87 rfl rfl ?_
      have e78 := q78
      refine ⟨?_, rfl⟩
      unfold rowOf othI
      rw [if_neg (by omega)]
      first
        | (rw [if_pos e78]; rfl)
        | (rw [if_neg e78]; rfl)
    · refine s_iconst (v := nI 1) hX dX11_rowOfLetter_81 (by decide) ?_
      refine s_goto (tgt := 86) hX dX11_rowOfLetter_82 (by decide) ?_
      refine s_iadd_n hX dX11_rowOfLetter_86 ?_
      refine s_iret hX dX11_rowOfLetter_87 rfl rfl ?_
      have e78 := q78
      refine ⟨?_, rfl⟩
      unfold rowOf othI
      rw [if_neg (by omega)]
      first
        | (rw [if_pos e78]; rfl)
        | (rw [if_neg e78]; rfl)
  · have hp1 := (hpv _ q19).1
    refine s_aload_n hX dX11_rowOfLetter_22 rfl ?_
    refine s_getR hX dX11_rowOfLetter_23 fl_X11_30 rfl rfl (by omega) ?_
    refine s_iconst (v := nI 3) hX dX11_rowOfLetter_26 (by decide) ?_
    refine s_iload_n hX dX11_rowOfLetter_27 rfl ?_
    refine s_imul_n hX dX11_rowOfLetter_28 ?_
    refine s_iald (x := nI (v _)) hX dX11_rowOfLetter_29 rfl (by omega) (by omega) (by decide) (hN.at0 _ (by omega)) ?_
    refine s_bipush (v := nI 64) hX dX11_rowOfLetter_30 (by decide) ?_
    refine s_imul_n hX dX11_rowOfLetter_32 ?_
    refine s_iconst (v := nI 3) hX dX11_rowOfLetter_33 (by decide) ?_
    refine s_iadd_n hX dX11_rowOfLetter_34 ?_
    refine s_iload_n hX dX11_rowOfLetter_35 rfl ?_
    refine s_iadd_n hX dX11_rowOfLetter_36 ?_
    refine s_iret hX dX11_rowOfLetter_37 rfl rfl ?_
    exact ⟨by unfold rowOf; rw [if_pos q19]; rfl, rfl⟩
