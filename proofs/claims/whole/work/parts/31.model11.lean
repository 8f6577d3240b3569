def dcI (m : Nat) : Int32 := if m = 0 then -1 else nI (m - 1)
theorem dcI_eq (m : Nat) : nI m + Int32.ofInt (-1) = dcI m := by
  unfold dcI
  by_cases h : m = 0
  · subst h; decide
  · rw [if_neg h]; exact sb_m1 (by omega)
theorem dcI_s (m : Nat) : dcI (m + 1) = nI m := by unfold dcI; rw [if_neg (by omega)]; rfl
def fcR (L : Nat → Bool) : Nat → Nat
  | 0 => 0
  | n + 1 => fcR L n + (if L n = true then 0 else 1)
theorem fcR_le {L L2 : Nat → Bool} : ∀ n, (∀ q, q < n → L q = true → L2 q = true) → fcR L2 n ≤ fcR L n
  | 0, _ => Nat.le_refl 0
  | n + 1, h => by
    have ih := fcR_le n (fun q hq => h q (by omega))
    have h1 := h n (by omega)
    unfold fcR
    by_cases e : L n = true
    · rw [if_pos e, if_pos (h1 e)]; omega
    · rw [if_neg e]; split <;> omega
theorem fcR_lt {L L2 : Nat → Bool} : ∀ n, (∀ q, q < n → L q = true → L2 q = true) → (∃ q, q < n ∧ L q = false ∧ L2 q = true) → fcR L2 n < fcR L n
  | 0, _, h2 => by obtain ⟨q, hq, -⟩ := h2; omega
  | n + 1, h, h2 => by
    obtain ⟨q, hq, a, b⟩ := h2
    unfold fcR
    by_cases e : q = n
    · subst e
      have := fcR_le q (fun x hx => h x (by omega))
      rw [if_pos b, if_neg (by rw [a]; decide)]
      omega
    · have ih := fcR_lt n (fun x hx => h x (by omega)) ⟨q, by omega, a, b⟩
      have h1 := h n (by omega)
      by_cases e2 : L n = true
      · rw [if_pos e2, if_pos (h1 e2)]; omega
      · rw [if_neg e2]; split <;> omega
theorem fcR_n (L : Nat → Bool) : ∀ n, fcR L n ≤ n
  | 0 => Nat.le_refl 0
  | n + 1 => by
    have := fcR_n L n
    unfold fcR
    split <;> omega
def LdM (σ : Sg) (pr : Pr) (W : Wk) : Prop := ∃ L : Nat → Bool, ∀ n, n < kM W → (σ 73).1 n = bI (L n) ∧ (L n = true ↔ LdP pr W n)
set_option maxRecDepth 100000 in
set_option maxHeartbeats 4000000 in
theorem c_X11_lead {σ : Sg} {pr : Pr} {W : Wk} {most : Nat} (hp : PrM σ pr) (hk : PrOk pr) (hW : WkM σ pr W (kM W)) (hok : WkOk pr most (kM W) W) (hm4 : most ≤ 4000) : Sm 77 mX11_lead [.ref 53] σ (qv fun σ2 => LdM σ2 pr W ∧ Fr 53 σ σ2 [59, 73] []) := by
  refine Sm.of mk_X11_lead (Nat.le_of_ble_eq_true rfl) rfl (fun X hX => ?_)
  have hP := hk.1
  have hkM := hok.1.2
  have hN20 := hok.2.2.2.1
  have e25 : ∀ σ1, Fr 53 σ σ1 [59, 73] [] → (σ1 53).1 25 = nI (kM W) := fun σ1 f => (f.2.1 25 (by decide)).trans hW.1.1
  have e71 : ∀ σ1, Fr 53 σ σ1 [59, 73] [] → ∀ n i, n < kM W → i < 20 → (σ1 71).1 (20 * n + i) = amv (kN W n i) := fun σ1 f n i hn hi => by rw [f.1 71 (by decide) (by decide)]; exact hW.2.2.2.1 n i hn hi
  have E44 : ∀ (σ1 : Sg) (L : Nat → Bool) (x2 x3 x4 : Option Value), Fr 53 σ σ1 [59, 73] [] → (∀ q, q < kM W → (σ1 73).1 q = bI (L q)) → (∀ q, q < kM W → L q = true → LdP pr W q) → (∀ q, q < kM W → quF pr (kV W q) = true → L q = true) → (∀ n i m, n < kM W → i < 20 → kN W n i = some m → L m = true → L n = true) → Sw 77 mX11_lead X (ZS 77 mX11_lead (qv fun σ2 => LdM σ2 pr W ∧ Fr 53 σ σ2 [59, 73] []) X) 44 [some (.ref 53), some (.int (nI 0)), x2, x3, x4] [] σ1 := by
    intro σ1 L x2 x3 x4 hf hL hs hq hc
    refine s_iload_n hX dX11_lead_44 rfl ?_
    refine s_if_eq_n (tgt := 165) hX dX11_lead_45 (by decide) (by omega) (fun q45 => ?_) (fun q45 => ?_)
    · refine s_vret hX dX11_lead_165 rfl rfl ?_
      refine ⟨⟨L, fun n hn => ⟨hL n hn, fun h => hs n hn h, fun ⟨k, h⟩ => ?_⟩⟩, hf⟩
      exact LdP.least (fun q => L q = true) (fun q a b => hq q b a) (fun a i b ha hi hab _ hb => hc a i b ha hi hab hb) (fun a i b hab => (hN20 a i b hab).1) k n hn h
    · omega
  have WH : ∀ (N : Nat) (σ1 : Sg) (L : Nat → Bool) (x2 x3 x4 : Option Value), fcR L (kM W) < N → Fr 53 σ σ1 [59, 73] [] → (∀ q, q < kM W → (σ1 73).1 q = bI (L q)) → (∀ q, q < kM W → L q = true → LdP pr W q) → (∀ q, q < kM W → quF pr (kV W q) = true → L q = true) → Sw 77 mX11_lead X (ZS 77 mX11_lead (qv fun σ2 => LdM σ2 pr W ∧ Fr 53 σ σ2 [59, 73] []) X) 44 [some (.ref 53), some (.int (nI 1)), x2, x3, x4] [] σ1 := by
    intro N
    induction N with
    | zero => intro σ1 L x2 x3 x4 h; omega
    | succ N ihN =>
      intro σ1 L0 x2 x3 x4 hN hf0 hL0 hs0 hq0
      have P57 : ∀ m, m ≤ kM W → ∀ (σ1 : Sg) (L : Nat → Bool) (b : Bool) (x3 x4 : Option Value), Fr 53 σ σ1 [59, 73] [] → (∀ q, q < kM W → (σ1 73).1 q = bI (L q)) → (∀ q, q < kM W → L q = true → LdP pr W q) → (∀ q, q < kM W → L0 q = true → L q = true) → (b = false → (∀ q, q < kM W → L q = L0 q) ∧ ∀ n i q, m ≤ n → n < kM W → i < 20 → kN W n i = some q → L0 q = true → L0 n = true) → (b = true → ∃ q, q < kM W ∧ L0 q = false ∧ L q = true) → Sw 77 mX11_lead X (ZS 77 mX11_lead (qv fun σ2 => LdM σ2 pr W ∧ Fr 53 σ σ2 [59, 73] []) X) 57 [some (.ref 53), some (.int (nI b.toNat)), some (.int (dcI m)), x3, x4] [] σ1 := by
        intro m
        induction m with
        | zero =>
          intro hm σ1 L b x3 x4 hf hL hs hle hb0 hb1
          refine s_iload_n (x := -1) hX dX11_lead_57 rfl ?_
          refine s_if_lt (tgt := 162) hX dX11_lead_58 (by decide) (fun q58 => ?_) (fun q58 => ?_)
          · refine s_goto (tgt := 44) hX dX11_lead_162 (by decide) ?_
            cases hb : b with
            | false =>
              obtain ⟨h1, h2⟩ := hb0 hb
              exact E44 σ1 L _ _ _ hf hL hs (fun q hq h => by rw [h1 q hq]; exact hq0 q hq h) (fun n i q hn hi h3 h4 => by rw [h1 n hn]; rw [h1 q (hN20 n i q h3).1] at h4; exact h2 n i q (Nat.zero_le n) hn hi h3 h4)
            | true =>
              have := fcR_lt (kM W) hle (hb1 hb)
              exact ihN σ1 L _ _ _ (by omega) hf hL hs (fun q hq h => hle q hq (hq0 q hq h))
          · exact absurd (by decide) q58
        | succ m ihm =>
          intro hm σ1 L b x3 x4 hf hL hs hle hb0 hb1
          rw [dcI_s]
          have hb9 : b.toNat ≤ 1 := by cases b <;> decide
          have g25 := e25 σ1 hf
          have g71 := e71 σ1 hf
          have J129 : ∀ (c : Bool) (x4 : Option Value), (c = true → LdP pr W m) → (L m = true → c = true) → (c = false → ∀ j q, j < 20 → kN W m j = some q → L q = false) → Sw 77 mX11_lead X (ZS 77 mX11_lead (qv fun σ2 => LdM σ2 pr W ∧ Fr 53 σ σ2 [59, 73] []) X) 129 [some (.ref 53), some (.int (nI b.toNat)), some (.int (nI m)), some (.int (nI c.toNat)), x4] [] σ1 := by
            intro c x4 c1 c2 c3
            have hc9 : c.toNat ≤ 1 := by cases c <;> decide
            have hl9 : (L m).toNat ≤ 1 := by cases L m <;> decide
            have GO : ∀ b2 : Bool, (b2 = false → b = false ∧ c = L m) → (b2 = true → b = true ∨ c ≠ L m) → ∀ x4 : Option Value, Sw 77 mX11_lead X (ZS 77 mX11_lead (qv fun σ2 => LdM σ2 pr W ∧ Fr 53 σ σ2 [59, 73] []) X) 57 [some (.ref 53), some (.int (nI b2.toNat)), some (.int (dcI m)), some (.int (nI c.toNat)), x4] [] (wI σ1 73 m (nI c.toNat)) := by
              intro b2 h1 h2 x4
              have up : ∀ q, q ≠ m → va_up L m c q = L q := fun q hq => va_up_ne _ _ hq
              refine ihm (by omega) _ (va_up L m c) b2 _ x4 (hf.wI (by decide) (by decide)) (fun q hq => ?_) (fun q hq h => ?_) (fun q hq h => ?_) (fun hb => ?_) (fun hb => ?_)
              · by_cases e : q = m
                · subst e; rw [wI_s, va_up_at]; rfl
                · rw [wI_k _ _ e, up q e]; exact hL q hq
              · by_cases e : q = m
                · subst e; rw [va_up_at] at h; exact c1 h
                · rw [up q e] at h; exact hs q hq h
              · by_cases e : q = m
                · subst e; rw [va_up_at]; exact c2 (hle q hq h)
                · rw [up q e]; exact hle q hq h
              · obtain ⟨hb, hc⟩ := h1 hb
                obtain ⟨h3, h4⟩ := hb0 hb
                refine ⟨fun q hq => ?_, fun n i q hn hn2 hi h5 h6 => ?_⟩
                · by_cases e : q = m
                  · subst e; rw [va_up_at, hc]; exact h3 q hq
                  · rw [up q e]; exact h3 q hq
                · by_cases e : n = m
                  · subst e
                    cases hcc : c with
                    | true => rw [← h3 n (by omega), ← hc, hcc]
                    | false =>
                      have := c3 hcc i q hi h5
                      rw [h3 q (hN20 n i q h5).1, h6] at this
                      cases this
                  · exact h4 n i q (by omega) hn2 hi h5 h6
              · rcases h2 hb with hb | hc
                · obtain ⟨q, h3, h4, h5⟩ := hb1 hb
                  refine ⟨q, h3, h4, ?_⟩
                  by_cases e : q = m
                  · subst e; rw [va_up_at]; exact c2 h5
                  · rw [up q e]; exact h5
                · refine ⟨m, by omega, ?_, ?_⟩
                  · cases hh : L0 m with
                    | false => rfl
                    | true => have := hle m (by omega) hh; exact absurd ((c2 this).trans this.symm) hc
                  · rw [va_up_at]
                    cases hcc : c with
                    | true => rfl
                    | false =>
                      cases hh : L m with
                      | false => exact absurd (hcc.trans hh.symm) hc
                      | true => have := c2 hh; rw [hcc] at this; cases this
            refine s_iload_n hX dX11_lead_129 rfl ?_
            refine s_if_ne_n (tgt := 143) hX dX11_lead_130 (by decide) (by omega) (fun q130 => ?_) (fun q130 => ?_)
            · refine s_iconst (v := nI 1) hX dX11_lead_143 (by decide) ?_
              refine s_goto (tgt := 148) hX dX11_lead_144 (by decide) ?_
              refine s_istore_n hX dX11_lead_148 (Nat.le_of_ble_eq_true rfl) rfl st_5_1 ?_
              refine s_aload_n hX dX11_lead_149 rfl ?_
              refine s_getR hX dX11_lead_150 fl_X11_75 rfl rfl (by omega) ?_
              refine s_iload_n hX dX11_lead_153 rfl ?_
              refine s_iload_n hX dX11_lead_154 rfl ?_
              refine s_zast hX dX11_lead_155 rfl (by omega) (by omega) (by decide) (bI_01 c) ?_
              refine s_iinc (v := dcI m) hX dX11_lead_156 rfl (dcI_eq m) rfl st_5_2 ?_
              refine s_goto (tgt := 57) hX dX11_lead_159 (by decide) ?_
              first
                | exact GO true (fun h => by cases h) (fun _ => Or.inl (tn1 q130)) _
                | exact GO false (fun _ => ⟨tn0 q130, by revert q140; cases c <;> cases L m <;> simp <;> done⟩) (fun h => by cases h) _
                | exact GO true (fun h => by cases h) (fun _ => Or.inr (fun e => q140 (by rw [e]))) _
            · refine s_iload_n hX dX11_lead_133 rfl ?_
              refine s_aload_n hX dX11_lead_134 rfl ?_
              refine s_getR hX dX11_lead_135 fl_X11_75 rfl rfl (by omega) ?_
              refine s_iload_n hX dX11_lead_138 rfl ?_
              refine s_zald (x := nI ((L m).toNat)) hX dX11_lead_139 rfl (by omega) (by omega) (by decide) (hL m (by omega)) ?_
              refine s_icmp_eq_n (tgt := 147) hX dX11_lead_140 (by decide) (by omega) (by omega) (fun q140 => ?_) (fun q140 => ?_)
              · refine s_iconst (v := nI 0) hX dX11_lead_147 (by decide) ?_
                refine s_istore_n hX dX11_lead_148 (Nat.le_of_ble_eq_true rfl) rfl st_5_1 ?_
                refine s_aload_n hX dX11_lead_149 rfl ?_
                refine s_getR hX dX11_lead_150 fl_X11_75 rfl rfl (by omega) ?_
                refine s_iload_n hX dX11_lead_153 rfl ?_
                refine s_iload_n hX dX11_lead_154 rfl ?_
                refine s_zast hX dX11_lead_155 rfl (by omega) (by omega) (by decide) (bI_01 c) ?_
                refine s_iinc (v := dcI m) hX dX11_lead_156 rfl (dcI_eq m) rfl st_5_2 ?_
                refine s_goto (tgt := 57) hX dX11_lead_159 (by decide) ?_
                first
                  | exact GO true (fun h => by cases h) (fun _ => Or.inl (tn1 q130)) _
                  | exact GO false (fun _ => ⟨tn0 q130, by revert q140; cases c <;> cases L m <;> simp <;> done⟩) (fun h => by cases h) _
                  | exact GO true (fun h => by cases h) (fun _ => Or.inr (fun e => q140 (by rw [e]))) _
              · refine s_iconst (v := nI 1) hX dX11_lead_143 (by decide) ?_
                refine s_goto (tgt := 148) hX dX11_lead_144 (by decide) ?_
                refine s_istore_n hX dX11_lead_148 (Nat.le_of_ble_eq_true rfl) rfl st_5_1 ?_
                refine s_aload_n hX dX11_lead_149 rfl ?_
                refine s_getR hX dX11_lead_150 fl_X11_75 rfl rfl (by omega) ?_
                refine s_iload_n hX dX11_lead_153 rfl ?_
                refine s_iload_n hX dX11_lead_154 rfl ?_
                refine s_zast hX dX11_lead_155 rfl (by omega) (by omega) (by decide) (bI_01 c) ?_
                refine s_iinc (v := dcI m) hX dX11_lead_156 rfl (dcI_eq m) rfl st_5_2 ?_
                refine s_goto (tgt := 57) hX dX11_lead_159 (by decide) ?_
                first
                  | exact GO true (fun h => by cases h) (fun _ => Or.inl (tn1 q130)) _
                  | exact GO false (fun _ => ⟨tn0 q130, by revert q140; cases c <;> cases L m <;> simp <;> done⟩) (fun h => by cases h) _
                  | exact GO true (fun h => by cases h) (fun _ => Or.inr (fun e => q140 (by rw [e]))) _
          have P71 : ∀ d i, i + d = 20 → ∀ c : Bool, (c = true → LdP pr W m) → (L m = true → c = true) → (c = false → ∀ j q, j < i → kN W m j = some q → L q = false) → Sw 77 mX11_lead X (ZS 77 mX11_lead (qv fun σ2 => LdM σ2 pr W ∧ Fr 53 σ σ2 [59, 73] []) X) 71 [some (.ref 53), some (.int (nI b.toNat)), some (.int (nI m)), some (.int (nI c.toNat)), some (.int (nI i))] [] σ1 := by
            intro d
            induction d with
            | zero =>
              intro i hi c c1 c2 c3
              refine s_iload hX dX11_lead_71 rfl ?_
              refine s_bipush (v := nI 20) hX dX11_lead_73 (by decide) ?_
              refine s_icmp_ge_n (tgt := 129) hX dX11_lead_75 (by decide) (by omega) (by omega) (fun q75 => ?_) (fun q75 => ?_)
              · exact J129 c _ c1 c2 (fun h j q hj => c3 h j q (by omega))
              · omega
            | succ d ihd =>
              intro i hi c c1 c2 c3
              have hc9 : c.toNat ≤ 1 := by cases c <;> decide
              have h71 := g71 m i (by omega) (by omega)
              cases hq : kN W m i with
              | none =>
                rw [hq] at h71
                refine s_iload hX dX11_lead_71 rfl ?_
                refine s_bipush (v := nI 20) hX dX11_lead_73 (by decide) ?_
                refine s_icmp_ge_n (tgt := 129) hX dX11_lead_75 (by decide) (by omega) (by omega) (fun q75 => ?_) (fun q75 => ?_)
                · omega
                · refine s_iload_n hX dX11_lead_78 rfl ?_
                  refine s_if_ne_n (tgt := 129) hX dX11_lead_79 (by decide) (by omega) (fun q79 => ?_) (fun q79 => ?_)
                  · exact J129 c _ c1 c2 (fun h j q hj => absurd (tn1 q79) (by rw [h]; decide))
                  · refine s_aload_n hX dX11_lead_82 rfl ?_
                    refine s_getR hX dX11_lead_83 fl_X11_69 rfl rfl (by omega) ?_
                    refine s_bipush (v := nI 20) hX dX11_lead_86 (by decide) ?_
                    refine s_iload_n hX dX11_lead_88 rfl ?_
                    refine s_imul_n hX dX11_lead_89 ?_
                    refine s_iload hX dX11_lead_90 rfl ?_
                    refine s_iadd_n hX dX11_lead_92 ?_
                    refine s_iald (x := (-1)) hX dX11_lead_93 rfl (by omega) (by omega) (by decide) h71 ?_
                    refine s_if_lt (tgt := 121) hX dX11_lead_94 (by decide) (fun q94 => ?_) (fun q94 => ?_)
                    · refine s_iconst (v := nI 0) hX dX11_lead_121 (by decide) ?_
                      refine s_istore_n hX dX11_lead_122 (Nat.le_of_ble_eq_true rfl) rfl st_5_3 ?_
                      refine s_iinc_n (c := 1) hX dX11_lead_123 rfl (by decide) rfl st_5_4 ?_
                      refine s_goto (tgt := 71) hX dX11_lead_126 (by decide) ?_
                      refine ihd (i + 1) (by omega) false (fun h => by cases h) (fun h => by have := c2 h; rw [tn0 q79] at this; cases this) (fun _ j q hj h5 => ?_)
                      by_cases e : j = i
                      · subst e; rw [hq] at h5; cases h5
                      · exact c3 (tn0 q79) j q (by omega) h5
                    · exact absurd (by decide) q94
              | some k =>
                have hk4 := (hN20 m i k hq).1
                have hlk : (L k).toNat ≤ 1 := by cases L k <;> decide
                rw [hq] at h71
                refine s_iload hX dX11_lead_71 rfl ?_
                refine s_bipush (v := nI 20) hX dX11_lead_73 (by decide) ?_
                refine s_icmp_ge_n (tgt := 129) hX dX11_lead_75 (by decide) (by omega) (by omega) (fun q75 => ?_) (fun q75 => ?_)
                · omega
                · refine s_iload_n hX dX11_lead_78 rfl ?_
                  refine s_if_ne_n (tgt := 129) hX dX11_lead_79 (by decide) (by omega) (fun q79 => ?_) (fun q79 => ?_)
                  · exact J129 c _ c1 c2 (fun h j q hj => absurd (tn1 q79) (by rw [h]; decide))
                  · refine s_aload_n hX dX11_lead_82 rfl ?_
                    refine s_getR hX dX11_lead_83 fl_X11_69 rfl rfl (by omega) ?_
                    refine s_bipush (v := nI 20) hX dX11_lead_86 (by decide) ?_
                    refine s_iload_n hX dX11_lead_88 rfl ?_
                    refine s_imul_n hX dX11_lead_89 ?_
                    refine s_iload hX dX11_lead_90 rfl ?_
                    refine s_iadd_n hX dX11_lead_92 ?_
                    refine s_iald (x := nI (k)) hX dX11_lead_93 rfl (by omega) (by omega) (by decide) h71 ?_
                    refine s_if_lt_n (tgt := 121) hX dX11_lead_94 (by decide) (by omega) ?_
                    refine s_aload_n hX dX11_lead_97 rfl ?_
                    refine s_getR hX dX11_lead_98 fl_X11_75 rfl rfl (by omega) ?_
                    refine s_aload_n hX dX11_lead_101 rfl ?_
                    refine s_getR hX dX11_lead_102 fl_X11_69 rfl rfl (by omega) ?_
                    refine s_bipush (v := nI 20) hX dX11_lead_105 (by decide) ?_
                    refine s_iload_n hX dX11_lead_107 rfl ?_
                    refine s_imul_n hX dX11_lead_108 ?_
                    refine s_iload hX dX11_lead_109 rfl ?_
                    refine s_iadd_n hX dX11_lead_111 ?_
                    refine s_iald (x := nI (k)) hX dX11_lead_112 rfl (by omega) (by omega) (by decide) h71 ?_
                    refine s_zald (x := nI ((L k).toNat)) hX dX11_lead_113 rfl (by omega) (by omega) (by decide) (hL k hk4) ?_
                    refine s_if_eq_n (tgt := 121) hX dX11_lead_114 (by decide) (by omega) (fun q114 => ?_) (fun q114 => ?_)
                    · refine s_iconst (v := nI 0) hX dX11_lead_121 (by decide) ?_
                      refine s_istore_n hX dX11_lead_122 (Nat.le_of_ble_eq_true rfl) rfl st_5_3 ?_
                      refine s_iinc_n (c := 1) hX dX11_lead_123 rfl (by decide) rfl st_5_4 ?_
                      refine s_goto (tgt := 71) hX dX11_lead_126 (by decide) ?_
                      first
                        | (refine ihd (i + 1) (by omega) false (fun h => by cases h) (fun h => by have := c2 h; rw [tn0 q79] at this; cases this) (fun _ j q hj h5 => ?_)
                           by_cases e : j = i
                           · subst e; rw [hq] at h5; cases h5; exact tn0 q114
                           · exact c3 (tn0 q79) j q (by omega) h5)
                        | exact ihd (i + 1) (by omega) true (fun _ => LdP.step (by omega) hq (hs k hk4 (tn1 q114))) (fun _ => rfl) (fun h => by cases h)
                    · refine s_iconst (v := nI 1) hX dX11_lead_117 (by decide) ?_
                      refine s_goto (tgt := 122) hX dX11_lead_118 (by decide) ?_
                      refine s_istore_n hX dX11_lead_122 (Nat.le_of_ble_eq_true rfl) rfl st_5_3 ?_
                      refine s_iinc_n (c := 1) hX dX11_lead_123 rfl (by decide) rfl st_5_4 ?_
                      refine s_goto (tgt := 71) hX dX11_lead_126 (by decide) ?_
                      first
                        | (refine ihd (i + 1) (by omega) false (fun h => by cases h) (fun h => by have := c2 h; rw [tn0 q79] at this; cases this) (fun _ j q hj h5 => ?_)
                           by_cases e : j = i
                           · subst e; rw [hq] at h5; cases h5; exact tn0 q114
                           · exact c3 (tn0 q79) j q (by omega) h5)
                        | exact ihd (i + 1) (by omega) true (fun _ => LdP.step (by omega) hq (hs k hk4 (tn1 q114))) (fun _ => rfl) (fun h => by cases h)
          refine s_iload_n hX dX11_lead_57 rfl ?_
          refine s_if_lt_n (tgt := 162) hX dX11_lead_58 (by decide) (by omega) ?_
          refine s_aload_n hX dX11_lead_61 rfl ?_
          refine s_getR hX dX11_lead_62 fl_X11_75 rfl rfl (by omega) ?_
          refine s_iload_n hX dX11_lead_65 rfl ?_
          refine s_zald (x := nI ((L m).toNat)) hX dX11_lead_66 rfl (by omega) (by omega) (by decide) (hL m (by omega)) ?_
          refine s_istore_n hX dX11_lead_67 (Nat.le_of_ble_eq_true rfl) rfl st_5_3 ?_
          refine s_iconst (v := nI 0) hX dX11_lead_68 (by decide) ?_
          refine s_istore hX dX11_lead_69 (Nat.le_of_ble_eq_true rfl) rfl st_5_4 ?_
          exact P71 20 0 (by omega) (L m) (fun h => hs m (by omega) h) (fun h => h) (fun _ j q hj => absurd hj (Nat.not_lt_zero j))
      refine s_iload_n hX dX11_lead_44 rfl ?_
      refine s_if_eq_n (tgt := 165) hX dX11_lead_45 (by decide) (by omega) (fun q45 => ?_) (fun q45 => ?_)
      · omega
      · refine s_iconst (v := nI 0) hX dX11_lead_48 (by decide) ?_
        refine s_istore_n hX dX11_lead_49 (Nat.le_of_ble_eq_true rfl) rfl st_5_1 ?_
        refine s_aload_n hX dX11_lead_50 rfl ?_
        refine s_getI (x := nI (kM W)) hX dX11_lead_51 fl_X11_183 rfl rfl (by omega) (e25 _ hf0) ?_
        refine s_iconst (v := nI 1) hX dX11_lead_54 (by decide) ?_
        refine s_isub hX dX11_lead_55 ?_
        refine s_top (y := dcI (kM W)) (by obtain ⟨k9, hk9⟩ : ∃ k, kM W = k + 1 := ⟨kM W - 1, by have := hok.1.1; omega⟩; rw [hk9, dcI_s]; exact nI_pred _) ?_
        refine s_istore_n hX dX11_lead_56 (Nat.le_of_ble_eq_true rfl) rfl st_5_2 ?_
        exact P57 (kM W) (Nat.le_refl _) σ1 L0 false _ _ hf0 hL0 hs0 (fun _ _ h => h) (fun _ => ⟨fun _ _ => rfl, fun n i q h1 h2 => by omega⟩) (fun h => by cases h)
  have I2 : ∀ d n, n + d = kM W → ∀ σ1 (x2 x3 x4 : Option Value), Fr 53 σ σ1 [59, 73] [] → (∀ q, q < n → (σ1 73).1 q = bI (quF pr (kV W q))) → Sw 77 mX11_lead X (ZS 77 mX11_lead (qv fun σ2 => LdM σ2 pr W ∧ Fr 53 σ σ2 [59, 73] []) X) 2 [some (.ref 53), some (.int (nI n)), x2, x3, x4] [] σ1 := by
    intro d
    induction d with
    | zero =>
      intro n hd σ1 x2 x3 x4 hf hq
      refine s_iload_n hX dX11_lead_2 rfl ?_
      refine s_aload_n hX dX11_lead_3 rfl ?_
      refine s_getI (x := nI (kM W)) hX dX11_lead_4 fl_X11_183 rfl rfl (by omega) (e25 _ hf) ?_
      refine s_icmp_ge_n (tgt := 42) hX dX11_lead_7 (by decide) (by omega) (by omega) (fun q7 => ?_) (fun q7 => ?_)
      · refine s_iconst (v := nI 1) hX dX11_lead_42 (by decide) ?_
        refine s_istore_n hX dX11_lead_43 (Nat.le_of_ble_eq_true rfl) rfl st_5_1 ?_
        exact WH (kM W + 1) σ1 (fun q => quF pr (kV W q)) _ _ _ (by have := fcR_n (fun q => quF pr (kV W q)) (kM W); omega) hf (fun q h => hq q (by omega)) (fun q _ h => LdP.quiet h) (fun q _ h => h)
      · omega
    | succ d ih =>
      intro n hd σ1 x2 x3 x4 hf hq
      have hvn := hok.2.1 n (by omega)
      have g66 : Vat σ1 66 (56 * n) (kV W n) := (hW.2.1 n (by omega)).1.fr hf (by decide) (by decide)
      have hp1 := hp.fr hf (by decide) (by decide) (by decide) (by decide) (by decide)
      refine s_iload_n hX dX11_lead_2 rfl ?_
      refine s_aload_n hX dX11_lead_3 rfl ?_
      refine s_getI (x := nI (kM W)) hX dX11_lead_4 fl_X11_183 rfl rfl (by omega) (e25 _ hf) ?_
      refine s_icmp_ge_n (tgt := 42) hX dX11_lead_7 (by decide) (by omega) (by omega) (fun q7 => ?_) (fun q7 => ?_)
      · omega
      · refine s_aload_n hX dX11_lead_10 rfl ?_
        refine s_getR hX dX11_lead_11 fl_X11_52 rfl rfl (by omega) ?_
        refine s_bipush (v := nI 56) hX dX11_lead_14 (by decide) ?_
        refine s_iload_n hX dX11_lead_16 rfl ?_
        refine s_imul_n hX dX11_lead_17 ?_
        refine s_aload_n hX dX11_lead_18 rfl ?_
        refine s_getR hX dX11_lead_19 fl_X11_30 rfl rfl (by omega) ?_
        refine s_iconst (v := nI 0) hX dX11_lead_22 (by decide) ?_
        refine s_callSv (as := [_, _, _, _]) hX dX11_lead_23 mk_X11_copy lk_X11_94 (c_X11_copy (f := 66) (t := 59) (lf := 224000) (lt := 56) (a := 56 * n) (b := 0) rfl rfl (by decide) (by decide) (by decide) (by omega) (by omega) (by decide) (by decide)) rfl ⟨rfl, rfl⟩ (Nat.le_of_ble_eq_true rfl) (Nat.le_of_ble_eq_true rfl) (Nat.le_of_ble_eq_true rfl) rfl (fun σ23 p23 => ?_)
        subst p23
        refine s_gen (fun σ2 e2 => ?_)
        have hV2 := g66.copy (t := 59) (b := 0)
        have hO2 : Off σ1 (wA σ1 59 (va_cpy (σ1 66).1 (σ1 59).1 (56 * n) 0 56)) [59] := Off.rf.wA (by decide)
        rw [← e2] at hV2 hO2
        clear e2
        have hp2 := hp1.off hO2 (by decide) (by decide) (by decide) (by decide) (by decide)
        have hf2 : Fr 53 σ σ2 [59, 73] [] := hf.trans ((Fr.of hO2 (by decide) : Fr 53 _ _ [59] []).mono (by decide) (by decide))
        refine s_aload_n hX dX11_lead_26 rfl ?_
        refine s_getR hX dX11_lead_27 fl_X11_75 rfl rfl (by omega) ?_
        refine s_iload_n hX dX11_lead_30 rfl ?_
        refine s_aload_n hX dX11_lead_31 rfl ?_
        refine s_callVi (as := []) hX dX11_lead_32 mk_X11_isQuiet lk_X11_173 (c_X11_isQuiet hp2 hk hV2 hvn) rfl (by omega) rfl rfl rfl ⟨rfl, rfl⟩ (Nat.le_of_ble_eq_true rfl) (Nat.le_of_ble_eq_true rfl) (Nat.le_of_ble_eq_true rfl) rfl (fun v32 σ32 p32 => ?_)
        obtain ⟨rfl, e32⟩ := p32
        subst e32
        refine s_zast hX dX11_lead_35 rfl (by omega) (by omega) (by decide) (bI_01 _) ?_
        refine s_iinc_n (c := 1) hX dX11_lead_36 rfl (by decide) rfl st_5_1 ?_
        refine s_goto (tgt := 2) hX dX11_lead_39 (by decide) ?_
        refine ih (n + 1) (by omega) _ _ _ _ (hf2.wI (by decide) (by decide)) (fun q h => ?_)
        by_cases e : q = n
        · subst e; rw [wI_s]
        · rw [wI_k _ _ e, hO2 73 (by decide)]; exact hq q (by omega)
  refine s_iconst (v := nI 0) hX dX11_lead_0 (by decide) ?_
  refine s_istore_n hX dX11_lead_1 (Nat.le_of_ble_eq_true rfl) rfl st_5_1 ?_
  exact I2 (kM W) 0 (by omega) σ _ _ _ Fr.rf (fun q h => absurd h (Nat.not_lt_zero q))
def WkE (σ : Sg) (pr : Pr) (W : Wk) : Prop := WkM σ pr W (kM W) ∧ LdM σ pr W
def waF (W : Wk) : Int32 := if kS W = true then -(nI (kM W)) - nI 1 else nI (kM W)
set_option maxRecDepth 100000 in
set_option maxHeartbeats 4000000 in
theorem c_X11_walk {σ : Sg} {pr : Pr} (hp : PrM σ pr) (hk : PrOk pr) (x : Int32) : Sm 77 mX11_walk [.ref 53, .int x] σ (qi fun r σ2 => (match rg 1 4000 x with
    | none => r = -1 ∧ σ2 = σ
    | some most => r = waF (wkF pr most) ∧ WkE σ2 pr (wkF pr most) ∧ (σ2 53).1 33 = bI false) ∧ Fr 53 σ σ2 [58, 59, 62, 63, 64, 65, 66, 67, 68, 69, 70, 71, 72, 73, 74, 75, 76] [9, 10, 11, 16, 25, 26, 27, 31, 32, 33, 34]) := by
  refine Sm.of mk_X11_walk (Nat.le_of_ble_eq_true rfl) rfl (fun X hX => ?_)
  have I79 : ∀ most, 1 ≤ most → most ≤ 4000 → ∀ d n, n + d = 4000 → ∀ σ1 (z2 : Int32), Fr 53 σ σ1 [58, 59, 62, 63, 64, 65, 66, 67, 68, 69, 70, 71, 72, 73, 74, 75, 76] [9, 10, 11, 16, 25, 26, 27, 31, 32, 33, 34] → WkM σ1 pr (bfsR pr most n) n → n ≤ kM (bfsR pr most n) → (σ1 53).1 33 = bI false → Sw 77 mX11_walk X (ZS 77 mX11_walk (qi fun r σ2 => (r = waF (wkF pr most) ∧ WkE σ2 pr (wkF pr most) ∧ (σ2 53).1 33 = bI false) ∧ Fr 53 σ σ2 [58, 59, 62, 63, 64, 65, 66, 67, 68, 69, 70, 71, 72, 73, 74, 75, 76] [9, 10, 11, 16, 25, 26, 27, 31, 32, 33, 34]) X) 79 [some (.ref 53), some (.int (nI most)), some (.int z2), some (.int (nI n))] [] σ1 := by
    intro most hm1 hm4 d
    have EXIT : ∀ n σ1 (z2 : Int32), kM (bfsR pr most n) = n → n ≤ 4000 → Fr 53 σ σ1 [58, 59, 62, 63, 64, 65, 66, 67, 68, 69, 70, 71, 72, 73, 74, 75, 76] [9, 10, 11, 16, 25, 26, 27, 31, 32, 33, 34] → WkM σ1 pr (bfsR pr most n) n → (σ1 53).1 33 = bI false → Sw 77 mX11_walk X (ZS 77 mX11_walk (qi fun r σ2 => (r = waF (wkF pr most) ∧ WkE σ2 pr (wkF pr most) ∧ (σ2 53).1 33 = bI false) ∧ Fr 53 σ σ2 [58, 59, 62, 63, 64, 65, 66, 67, 68, 69, 70, 71, 72, 73, 74, 75, 76] [9, 10, 11, 16, 25, 26, 27, 31, 32, 33, 34]) X) 99 [some (.ref 53), some (.int (nI most)), some (.int z2), some (.int (nI n))] [] σ1 := by
      intro n σ1 z2 hkn hn4 hf hW h33
      have hwk : wkF pr most = bfsR pr most n := by
        unfold wkF
        have := bfs_stop (pr := pr) (most := most) (n := n) (by omega) (4000 - n)
        rw [show n + (4000 - n) = 4000 by omega] at this
        exact this
      have hokn := (bfs_ok (most := most) hk hm1 n).1
      have hp1 := hp.fr hf (by decide) (by decide) (by decide) (by decide) (by decide)
      have hW' : WkM σ1 pr (bfsR pr most n) (kM (bfsR pr most n)) := by rw [hkn]; exact hW
      have hok' : WkOk pr most (kM (bfsR pr most n)) (bfsR pr most n) := by rw [hkn]; exact hokn
      refine s_aload_n hX dX11_walk_99 rfl ?_
      refine s_callVv (as := []) hX dX11_walk_100 mk_X11_lead lk_X11_209 (c_X11_lead hp1 hk hW' hok' hm4) rfl (by omega) rfl rfl rfl ⟨rfl, rfl⟩ (Nat.le_of_ble_eq_true rfl) (Nat.le_of_ble_eq_true rfl) (Nat.le_of_ble_eq_true rfl) rfl (fun σ100 p100 => ?_)
      obtain ⟨hL, f2⟩ := p100
      have hW2 := hW'.fr f2 (by decide) (by decide)
      have hff := hf.trans (f2.mono (by decide) (by decide))
      have h33' := (f2.2.1 33 (by decide)).trans h33
      refine s_aload_n hX dX11_walk_103 rfl ?_
      refine s_getI (x := bI (kS (bfsR pr most n))) hX dX11_walk_104 fl_X11_199 rfl rfl (by omega) hW2.1.2.2.2 ?_
      refine s_if_eq (tgt := 120) hX dX11_walk_107 (by decide) (fun q107 => ?_) (fun q107 => ?_)
      · refine s_aload_n hX dX11_walk_120 rfl ?_
        refine s_getI (x := nI (kM (bfsR pr most n))) hX dX11_walk_121 fl_X11_183 rfl rfl (by omega) hW2.1.1 ?_
        refine s_iret hX dX11_walk_124 rfl rfl ?_
        rw [hwk]
        unfold waF
        first
          | exact ⟨⟨by rw [if_neg (by rw [bI_0.mp q107]; decide)], ⟨hW2, hL⟩, h33'⟩, hff⟩
          | (have hks : kS (bfsR pr most n) = true := by
               cases hh : kS (bfsR pr most n) with
               | true => rfl
               | false => exact absurd (bI_0.mpr hh) q107
             exact ⟨⟨by rw [if_pos hks], ⟨hW2, hL⟩, h33'⟩, hff⟩)
      · refine s_aload_n hX dX11_walk_110 rfl ?_
        refine s_getI (x := nI (kM (bfsR pr most n))) hX dX11_walk_111 fl_X11_183 rfl rfl (by omega) hW2.1.1 ?_
        refine s_ineg hX dX11_walk_114 ?_
        refine s_iconst (v := nI 1) hX dX11_walk_115 (by decide) ?_
        refine s_isub hX dX11_walk_116 ?_
        refine s_goto (tgt := 124) hX dX11_walk_117 (by decide) ?_
        refine s_iret hX dX11_walk_124 rfl rfl ?_
        rw [hwk]
        unfold waF
        first
          | exact ⟨⟨by rw [if_neg (by rw [bI_0.mp q107]; decide)], ⟨hW2, hL⟩, h33'⟩, hff⟩
          | (have hks : kS (bfsR pr most n) = true := by
               cases hh : kS (bfsR pr most n) with
               | true => rfl
               | false => exact absurd (bI_0.mpr hh) q107
             exact ⟨⟨by rw [if_pos hks], ⟨hW2, hL⟩, h33'⟩, hff⟩)
    induction d with
    | zero =>
      intro n hd σ1 z2 hf hW hnk h33
      have hokn := (bfs_ok (most := most) hk hm1 n).1
      have := hokn.1.2
      refine s_iload_n hX dX11_walk_79 rfl ?_
      refine s_aload_n hX dX11_walk_80 rfl ?_
      refine s_getI (x := nI (kM (bfsR pr most n))) hX dX11_walk_81 fl_X11_183 rfl rfl (by omega) hW.1.1 ?_
      refine s_icmp_ge_n (tgt := 99) hX dX11_walk_84 (by decide) (by omega) (by omega) (fun q84 => ?_) (fun q84 => ?_)
      · exact EXIT n σ1 z2 (by omega) (by omega) hf hW h33
      · omega
    | succ d ih =>
      intro n hd σ1 z2 hf hW hnk h33
      obtain ⟨hokn, hTn⟩ := bfs_ok (most := most) hk hm1 n
      have hkm4 := hokn.1.2
      have hp1 := hp.fr hf (by decide) (by decide) (by decide) (by decide) (by decide)
      refine s_iload_n hX dX11_walk_79 rfl ?_
      refine s_aload_n hX dX11_walk_80 rfl ?_
      refine s_getI (x := nI (kM (bfsR pr most n))) hX dX11_walk_81 fl_X11_183 rfl rfl (by omega) hW.1.1 ?_
      refine s_icmp_ge_n (tgt := 99) hX dX11_walk_84 (by decide) (by omega) (by omega) (fun q84 => ?_) (fun q84 => ?_)
      · exact EXIT n σ1 z2 (by omega) (by omega) hf hW h33
      · refine s_aload_n hX dX11_walk_87 rfl ?_
        refine s_iload_n hX dX11_walk_88 rfl ?_
        refine s_iload_n hX dX11_walk_89 rfl ?_
        refine s_callVv (as := [_, _]) hX dX11_walk_90 mk_X11_from lk_X11_205 (c_X11_from hp1 hk hW hokn q84 hm4 (by omega)) rfl (by omega) rfl rfl rfl ⟨rfl, rfl⟩ (Nat.le_of_ble_eq_true rfl) (Nat.le_of_ble_eq_true rfl) (Nat.le_of_ble_eq_true rfl) rfl (fun σ90 p90 => ?_)
        obtain ⟨hW2, f2⟩ := p90
        have hb : bfsR pr most (n + 1) = visF pr most n (bfsR pr most n) := by
          show (if n < kM (bfsR pr most n) then visF pr most n (bfsR pr most n) else bfsR pr most n) = _
          rw [if_pos q84]
        rw [← hb] at hW2
        have hkk : n + 1 ≤ kM (bfsR pr most (n + 1)) := by
          rw [hb]
          have := (visR_keep pr most n (stepsF pr (kV (bfsR pr most n) n)) (bfsR pr most n) (stepsF pr (kV (bfsR pr most n) n)).length).1
          show n + 1 ≤ kM (visR _ _ _ _ _ _)
          omega
        refine s_iinc_n (c := 1) hX dX11_walk_93 rfl (by decide) rfl st_4_3 ?_
        refine s_goto (tgt := 79) hX dX11_walk_96 (by decide) ?_
        exact ih (n + 1) (by omega) _ z2 (hf.trans (f2.mono (by decide) (by decide))) hW2 hkk ((f2.2.1 33 (by decide)).trans h33)
  have I46 : ∀ most, 1 ≤ most → most ≤ 4000 → ∀ d k, k + d = 2048 → ∀ σ1 (x3 : Option Value), Fr 53 σ σ1 [58, 59, 62, 63, 64, 65, 66, 67, 68, 69, 70, 71, 72, 73, 74, 75, 76] [9, 10, 11, 16, 25, 26, 27, 31, 32, 33, 34] → ((σ1 53).1 25 = nI 0 ∧ (σ1 53).1 26 = nI 0 ∧ (σ1 53).1 27 = nI 0 ∧ (σ1 53).1 31 = nI 0 ∧ (σ1 53).1 32 = nI 0 ∧ (σ1 53).1 33 = nI 0) → (∀ q, q < k → (σ1 58).1 q = nI 0) → Sw 77 mX11_walk X (ZS 77 mX11_walk (qi fun r σ2 => (r = waF (wkF pr most) ∧ WkE σ2 pr (wkF pr most) ∧ (σ2 53).1 33 = bI false) ∧ Fr 53 σ σ2 [58, 59, 62, 63, 64, 65, 66, 67, 68, 69, 70, 71, 72, 73, 74, 75, 76] [9, 10, 11, 16, 25, 26, 27, 31, 32, 33, 34]) X) 46 [some (.ref 53), some (.int (nI most)), some (.int (nI k)), x3] [] σ1 := by
    intro most hm1 hm4 d
    induction d with
    | zero =>
      intro k hd σ1 x3 hf hc hu
      refine s_iload_n hX dX11_walk_46 rfl ?_
      refine s_sipush (v := nI 2048) hX dX11_walk_47 (by decide) ?_
      refine s_icmp_ge_n (tgt := 66) hX dX11_walk_50 (by decide) (by omega) (by omega) (fun q50 => ?_) (fun q50 => ?_)
      · refine s_aload_n hX dX11_walk_66 rfl ?_
        refine s_callVv (as := []) hX dX11_walk_67 mk_X11_first lk_X11_91 (c_X11_first) rfl (by omega) rfl rfl rfl ⟨rfl, rfl⟩ (Nat.le_of_ble_eq_true rfl) (Nat.le_of_ble_eq_true rfl) (Nat.le_of_ble_eq_true rfl) rfl (fun σ67 p67 => ?_)
        obtain ⟨hO, hV⟩ := p67
        have hf6 := hf.trans ((Fr.of hO (by decide) : Fr 53 _ _ [59] []).mono (by decide) (by decide) : Fr 53 σ1 σ67 [58, 59, 62, 63, 64, 65, 66, 67, 68, 69, 70, 71, 72, 73, 74, 75, 76] [9, 10, 11, 16, 25, 26, 27, 31, 32, 33, 34])
        have hp6 := hp.fr hf6 (by decide) (by decide) (by decide) (by decide) (by decide)
        have z53 := hO 53 (by decide)
        have hW0 : WkM σ67 pr wk0 0 := ⟨⟨by rw [z53]; exact hc.1, by rw [z53]; exact hc.2.1, by rw [z53]; exact hc.2.2.2.1, by rw [z53]; exact hc.2.2.2.2.1⟩, fun n hn => absurd hn (Nat.not_lt_zero n), fun n _ hn => absurd hn (Nat.not_lt_zero n), fun n i hn => absurd hn (Nat.not_lt_zero n), fun n hn => absurd hn (Nat.not_lt_zero n), fun a ha => by rw [hO 58 (by decide)]; exact hu a (by omega), ⟨by rw [z53]; exact hc.2.2.1, fun i t ht => by cases ht⟩⟩
        refine s_aload_n hX dX11_walk_70 rfl ?_
        refine s_iconst (v := -1) hX dX11_walk_71 (by decide) ?_
        refine s_iconst (v := -1) hX dX11_walk_72 (by decide) ?_
        refine s_callVi (as := [_, _]) hX dX11_walk_73 mk_X11_add lk_X11_202 (c_X11_add (f := none) hp6 hk hW0 (Nat.le_refl 0) (by decide) hV (VOk_v0 hk.1.2) (by decide) (fun _ => rfl) (fun q e => by cases e)) rfl (by omega) rfl rfl rfl ⟨rfl, rfl⟩ (Nat.le_of_ble_eq_true rfl) (Nat.le_of_ble_eq_true rfl) (Nat.le_of_ble_eq_true rfl) rfl (fun v73 σ73 p73 => ?_)
        obtain ⟨rfl, hW1, f7⟩ := p73
        refine s_istore_n hX dX11_walk_76 (Nat.le_of_ble_eq_true rfl) rfl st_4_2 ?_
        refine s_iconst (v := nI 0) hX dX11_walk_77 (by decide) ?_
        refine s_istore_n hX dX11_walk_78 (Nat.le_of_ble_eq_true rfl) rfl st_4_3 ?_
        exact I79 most hm1 hm4 4000 0 (by omega) _ _ (hf6.trans (f7.mono (by decide) (by decide))) hW1 (Nat.zero_le _) (by rw [f7.2.1 33 (by decide), z53]; exact hc.2.2.2.2.2)
      · omega
    | succ d ih =>
      intro k hd σ1 x3 hf hc hu
      refine s_iload_n hX dX11_walk_46 rfl ?_
      refine s_sipush (v := nI 2048) hX dX11_walk_47 (by decide) ?_
      refine s_icmp_ge_n (tgt := 66) hX dX11_walk_50 (by decide) (by omega) (by omega) (fun q50 => ?_) (fun q50 => ?_)
      · omega
      · refine s_aload_n hX dX11_walk_53 rfl ?_
        refine s_getR hX dX11_walk_54 fl_X11_26 rfl rfl (by omega) ?_
        refine s_iload_n hX dX11_walk_57 rfl ?_
        refine s_iconst (v := nI 0) hX dX11_walk_58 (by decide) ?_
        refine s_zast hX dX11_walk_59 rfl (by omega) (by omega) (by decide) (by first | exact Or.inl rfl | exact Or.inr rfl) ?_
        refine s_iinc_n (c := 1) hX dX11_walk_60 rfl (by decide) rfl st_4_2 ?_
        refine s_goto (tgt := 46) hX dX11_walk_63 (by decide) ?_
        refine ih (k + 1) (by omega) _ _ (hf.wI (by decide) (by decide)) (by rw [wI_a _ _ (by decide)]; exact hc) (fun q hq => ?_)
        by_cases e : q = k
        · subst e; rw [wI_s]
        · rw [wI_k _ _ e]; exact hu q (by omega)
  refine s_iload_n hX dX11_walk_0 rfl ?_
  refine s_iconst (v := nI 1) hX dX11_walk_1 (by decide) ?_
  refine s_icmp_lt (tgt := 12) hX dX11_walk_2 (by decide) (fun q2 => ?_) (fun q2 => ?_)
  · refine s_iconst (v := -1) hX dX11_walk_12 (by decide) ?_
    refine s_iret hX dX11_walk_13 rfl rfl ?_
    rw [rg_no (by first | exact Or.inl q2 | exact Or.inr (Int32.not_le.mp q9))]
    exact ⟨⟨rfl, rfl⟩, Fr.rf⟩
  · refine s_iload_n hX dX11_walk_5 rfl ?_
    refine s_sipush (v := nI 4000) hX dX11_walk_6 (by decide) ?_
    refine s_icmp_le (tgt := 14) hX dX11_walk_9 (by decide) (fun q9 => ?_) (fun q9 => ?_)
    · obtain ⟨most, hm1, hm4, rfl, hrg⟩ := rg_of (by decide) (by decide) q2 (Int32.not_lt.mpr q9)
      rw [hrg]
      refine s_aload_n hX dX11_walk_14 rfl ?_
      refine s_iconst (v := nI 0) hX dX11_walk_15 (by decide) ?_
      refine s_putI hX dX11_walk_16 fl_X11_183 rfl rfl (by omega) rfl rfl ?_
      refine s_aload_n hX dX11_walk_19 rfl ?_
      refine s_iconst (v := nI 0) hX dX11_walk_20 (by decide) ?_
      refine s_putI hX dX11_walk_21 fl_X11_196 rfl rfl (by omega) rfl rfl ?_
      refine s_aload_n hX dX11_walk_24 rfl ?_
      refine s_iconst (v := nI 0) hX dX11_walk_25 (by decide) ?_
      refine s_putI hX dX11_walk_26 fl_X11_186 rfl rfl (by omega) rfl rfl ?_
      refine s_aload_n hX dX11_walk_29 rfl ?_
      refine s_iconst (v := nI 0) hX dX11_walk_30 (by decide) ?_
      refine s_putI hX dX11_walk_31 fl_X11_189 rfl rfl (by omega) rfl rfl ?_
      refine s_aload_n hX dX11_walk_34 rfl ?_
      refine s_iconst (v := nI 0) hX dX11_walk_35 (by decide) ?_
      refine s_putI hX dX11_walk_36 fl_X11_199 rfl rfl (by omega) rfl rfl ?_
      refine s_aload_n hX dX11_walk_39 rfl ?_
      refine s_iconst (v := nI 0) hX dX11_walk_40 (by decide) ?_
      refine s_putI hX dX11_walk_41 fl_X11_87 rfl rfl (by omega) rfl rfl ?_
      refine s_gen (fun σ1 e1 => ?_)
      have hf1 : Fr 53 σ σ1 [58, 59, 62, 63, 64, 65, 66, 67, 68, 69, 70, 71, 72, 73, 74, 75, 76] [9, 10, 11, 16, 25, 26, 27, 31, 32, 33, 34] := by rw [e1]; exact (((((Fr.rf.put (by decide)).put (by decide)).put (by decide)).put (by decide)).put (by decide)).put (by decide)
      have c25 : (σ1 53).1 25 = nI 0 := by rw [e1]; simp [wI, va_up, upd]
      have c26 : (σ1 53).1 26 = nI 0 := by rw [e1]; simp [wI, va_up, upd]
      have c27 : (σ1 53).1 27 = nI 0 := by rw [e1]; simp [wI, va_up, upd]
      have c31 : (σ1 53).1 31 = nI 0 := by rw [e1]; simp [wI, va_up, upd]
      have c32 : (σ1 53).1 32 = nI 0 := by rw [e1]; simp [wI, va_up, upd]
      have c33 : (σ1 53).1 33 = nI 0 := by rw [e1]; simp [wI, va_up, upd]
      clear e1
      refine s_iconst (v := nI 0) hX dX11_walk_44 (by decide) ?_
      refine s_istore_n hX dX11_walk_45 (Nat.le_of_ble_eq_true rfl) rfl st_4_2 ?_
      exact I46 most hm1 hm4 2048 0 (by omega) σ1 _ hf1 ⟨c25, c26, c27, c31, c32, c33⟩ (fun q h => absurd h (Nat.not_lt_zero q))
    · refine s_iconst (v := -1) hX dX11_walk_12 (by decide) ?_
      refine s_iret hX dX11_walk_13 rfl rfl ?_
      rw [rg_no (by first | exact Or.inl q2 | exact Or.inr (Int32.not_le.mp q9))]
      exact ⟨⟨rfl, rfl⟩, Fr.rf⟩
