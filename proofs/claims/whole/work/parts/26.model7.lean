/-! ===== bytes of a word ===== -/
def bt (x : Int32) (i : Nat) : Bool := x.toBitVec.getLsbD i
theorem bt_ext {x y : Int32} (h : ∀ i, i < 32 → bt x i = bt y i) : x = y := Int32.toBitVec_inj.mp (BitVec.eq_of_getLsbD_eq (fun i hi => h i hi))
theorem bt_and (x y : Int32) (i : Nat) : bt (x &&& y) i = (bt x i && bt y i) := by unfold bt; rw [Int32.toBitVec_and, BitVec.getLsbD_and]
theorem bt_nI {m i : Nat} (hi : i < 32) : bt (nI m) i = m.testBit i := by
  show (BitVec.ofNat 32 m).getLsbD i = _
  rw [BitVec.getLsbD_ofNat]
  simp [hi]
theorem bt_nat (x : Int32) (i : Nat) : bt x i = x.toBitVec.toNat.testBit i := rfl
theorem bt_sshr (n : Nat) (hn : n < 32) (x : Int32) {i : Nat} (hi : i < 32) : bt (x >>> (nI n &&& 31)) i = if n + i < 32 then bt x (n + i) else bt x 31 := by
  unfold bt
  rw [Int32.toBitVec_shiftRight]
  show (x.toBitVec.sshiftRight ((nI n &&& 31).toBitVec.smod 32).toNat).getLsbD i = _
  rw [nx_sl n hn, BitVec.getLsbD_sshiftRight, BitVec.msb_eq_getLsbD_last]
  simp [hi]
theorem bt_ushr (n : Nat) (hn : n < 32) (x : Int32) (i : Nat) : bt ((x.toUInt32 >>> ((nI n).toUInt32 &&& Int32.toUInt32 31)).toInt32) i = bt x (n + i) := by
  show (x.toUInt32 >>> ((nI n).toUInt32 &&& Int32.toUInt32 31)).toBitVec.getLsbD i = x.toUInt32.toBitVec.getLsbD (n + i)
  rw [UInt32.toBitVec_shiftRight]
  show (x.toUInt32.toBitVec >>> (((nI n).toUInt32 &&& Int32.toUInt32 31).toBitVec % 32).toNat).getLsbD i = _
  rw [nx_su n hn, BitVec.getLsbD_ushiftRight]
def byF (x : Int32) (j : Nat) : Nat := x.toBitVec.toNat / 2 ^ (24 - 8 * j) % 256
theorem byF_lt (x : Int32) (j : Nat) : byF x j < 256 := Nat.mod_lt _ (by decide)
theorem by_tb (x : Int32) (s i : Nat) : (x.toBitVec.toNat / 2 ^ s % 256).testBit i = (decide (i < 8) && bt x (s + i)) := by
  rw [show (256 : Nat) = 2 ^ 8 from rfl, Nat.testBit_mod_two_pow, Nat.testBit_div_two_pow, bt_nat, Nat.add_comm]
theorem by_s (x : Int32) (s : Nat) (hs : s ≤ 24) : x >>> (nI s &&& 31) &&& nI 255 = nI (x.toBitVec.toNat / 2 ^ s % 256) := by
  apply bt_ext
  intro i hi
  rw [bt_and, bt_sshr s (by omega) x hi, bt_nI hi, bt_nI hi, by_tb, show (255 : Nat) = 2 ^ 8 - 1 from rfl, Nat.testBit_two_pow_sub_one]
  by_cases h8 : i < 8
  · rw [if_pos (by omega)]; simp [h8]
  · simp [h8]
theorem by_u (x : Int32) (s : Nat) (hs : s ≤ 24) : (x.toUInt32 >>> ((nI s).toUInt32 &&& Int32.toUInt32 31)).toInt32 &&& nI 255 = nI (x.toBitVec.toNat / 2 ^ s % 256) := by
  apply bt_ext
  intro i hi
  rw [bt_and, bt_ushr s (by omega) x i, bt_nI hi, bt_nI hi, by_tb, show (255 : Nat) = 2 ^ 8 - 1 from rfl, Nat.testBit_two_pow_sub_one]
  exact Bool.and_comm _ _
def rowF (pr : Pr) (a m : Nat) (x y : Int32) : Pr := (pP pr, pLo pr, pRi pr, (fun q => if q = a then some m else pAm pr q), (fun q k => if q = a then byF (if k < 4 then x else y) (k % 4) else pAc pr q k))
def tearF (pr : Pr) (a : Nat) : Pr := (pP pr, pLo pr, pRi pr, (fun q => if q = a then none else pAm pr q), pAc pr)
theorem PrOk.row {pr : Pr} {a m : Nat} {x y : Int32} (h : PrOk pr) (hm : m ≤ 8) : PrOk (rowF pr a m x y) := by
  obtain ⟨h1, h2, h3, h4, h5⟩ := h
  refine ⟨h1, h2, h3, fun q n hq => ?_, fun q k => ?_⟩
  · have hq : (if q = a then some m else pAm pr q) = some n := hq
    split at hq
    · cases hq; exact hm
    · exact h4 q n hq
  · show (if q = a then byF (if k < 4 then x else y) (k % 4) else pAc pr q k) < 256
    split
    · exact byF_lt _ _
    · exact h5 q k
theorem PrOk.tear {pr : Pr} {a : Nat} (h : PrOk pr) : PrOk (tearF pr a) := by
  obtain ⟨h1, h2, h3, h4, h5⟩ := h
  refine ⟨h1, h2, h3, fun q n hq => ?_, h5⟩
  have hq : (if q = a then none else pAm pr q) = some n := hq
  split at hq
  · cases hq
  · exact h4 q n hq
theorem PrOk.lo {pr : Pr} {p q : Nat} (h : PrOk pr) (hq : q ≤ 1) : PrOk (pP pr, vset (pLo pr) p q, pr.2.2) := by
  obtain ⟨h1, h2, h3, h4, h5⟩ := h
  refine ⟨h1, fun k => ?_, h3, h4, h5⟩
  show vset (pLo pr) p q k ≤ 1
  unfold vset
  split
  · exact hq
  · exact h2 k
theorem PrOk.ri {pr : Pr} {p q : Nat} (h : PrOk pr) (hq : q ≤ 2) : PrOk (pP pr, pLo pr, vset (pRi pr) p q, pr.2.2.2) := by
  obtain ⟨h1, h2, h3, h4, h5⟩ := h
  refine ⟨h1, h2, fun k => ?_, h4, h5⟩
  show vset (pRi pr) p q k ≤ 2
  unfold vset
  split
  · exact hq
  · exact h3 k
theorem PrOk.pp {pr : Pr} {p : Nat} (h : PrOk pr) (h1 : 1 ≤ p) (h4 : p ≤ 4) : PrOk (p, pr.2) := ⟨⟨h1, h4⟩, h.2⟩
def isN (a : Option Nat) : Nat := if a.isSome = true then 1 else 0
theorem plF_some {w : Int32} {a : Nat} (h : plF w = some a) : ∃ m, m < 2 ^ 31 ∧ w = nI m ∧ a = m / 16 := by
  by_cases hw : w < 0
  · unfold plF at h; rw [if_pos hw] at h; cases h
  · obtain ⟨m, hm, rfl⟩ := nI_of hw
    rw [plF_n hm] at h
    split at h
    · cases h
    · exact ⟨m, hm, rfl, (Option.some.inj h).symm⟩
set_option maxRecDepth 100000 in
set_option maxHeartbeats 4000000 in
theorem c_X11_row {σ : Sg} {pr : Pr} {v : Vc} {ch : Bool} (h : MdS σ pr v ch) (hk : PrOk pr) (x y z : Int32) : Sm 77 mX11_row [.ref 53, .int x, .int y, .int z] σ (qi fun r σ2 => (match plF x with
    | none => r = -1 ∧ MdS σ2 pr v ch
    | some a => if 8 < x.toNatClampNeg % 16 then r = -1 ∧ MdS σ2 pr v ch else r = nI (isN (pAm pr a)) ∧ MdS σ2 (rowF pr a (x.toNatClampNeg % 16) y z) v0 true) ∧ FrS σ σ2) := by
  cases hpl : plF x with
  | none =>
    refine Sm.of mk_X11_row (Nat.le_of_ble_eq_true rfl) rfl (fun X hX => ?_)
    refine s_iload_n hX dX11_row_0 rfl ?_
    refine s_callSi (as := [_]) hX dX11_row_1 mk_X11_placeOf lk_X11_101 (c_X11_placeOf _) rfl ⟨rfl, rfl⟩ (Nat.le_of_ble_eq_true rfl) (Nat.le_of_ble_eq_true rfl) (Nat.le_of_ble_eq_true rfl) rfl (fun v1 σ1 p1 => ?_)
    obtain ⟨rfl, rfl⟩ := p1
    rw [hpl]
    refine s_top (y := -1) rfl ?_
    refine s_istore hX dX11_row_4 (Nat.le_of_ble_eq_true rfl) rfl st_9_4 ?_
    refine s_iload_n hX dX11_row_6 rfl ?_
    refine s_bipush (v := nI 16) hX dX11_row_7 (by decide) ?_
    refine s_irem hX dX11_row_9 (by decide) ?_
    refine s_istore hX dX11_row_10 (Nat.le_of_ble_eq_true rfl) rfl st_9_5 ?_
    refine s_iload hX dX11_row_12 rfl ?_
    refine s_if_lt (tgt := 24) hX dX11_row_14 (by decide) (fun q14 => ?_) (fun q14 => ?_)
    · refine s_iconst (v := -1) hX dX11_row_24 (by decide) ?_
      refine s_iret hX dX11_row_25 rfl rfl ?_
      exact ⟨⟨rfl, h⟩, Fr.rf⟩
    · exact absurd (by decide) q14
  | some a =>
    have ha := plF_lt hpl
    obtain ⟨m, hm31, rfl, rfl⟩ := plF_some hpl
    rw [nI_clamp hm31]
    by_cases h8 : 8 < m % 16
    · refine Sm.imp (Q := qi fun r σ2 => r = -1 ∧ σ2 = σ) ?_ (fun r σ2 ⟨w, e, q⟩ => ⟨w, e, by simp only [h8, if_true]; exact ⟨⟨q.1, q.2 ▸ h⟩, q.2 ▸ Fr.rf⟩⟩)
      refine Sm.of mk_X11_row (Nat.le_of_ble_eq_true rfl) rfl (fun X hX => ?_)
      refine s_iload_n hX dX11_row_0 rfl ?_
      refine s_callSi (as := [_]) hX dX11_row_1 mk_X11_placeOf lk_X11_101 (c_X11_placeOf _) rfl ⟨rfl, rfl⟩ (Nat.le_of_ble_eq_true rfl) (Nat.le_of_ble_eq_true rfl) (Nat.le_of_ble_eq_true rfl) rfl (fun v1 σ1 p1 => ?_)
      obtain ⟨rfl, rfl⟩ := p1
      rw [hpl]
      refine s_top (y := nI (m / 16)) rfl ?_
      refine s_istore hX dX11_row_4 (Nat.le_of_ble_eq_true rfl) rfl st_9_4 ?_
      refine s_iload_n hX dX11_row_6 rfl ?_
      refine s_bipush (v := nI 16) hX dX11_row_7 (by decide) ?_
      refine s_irem_n hX dX11_row_9 (by omega) (by decide) (by decide) ?_
      refine s_istore hX dX11_row_10 (Nat.le_of_ble_eq_true rfl) rfl st_9_5 ?_
      refine s_iload hX dX11_row_12 rfl ?_
      refine s_if_lt_n (tgt := 24) hX dX11_row_14 (by decide) (by omega) ?_
      refine s_iload hX dX11_row_17 rfl ?_
      refine s_bipush (v := nI 8) hX dX11_row_19 (by decide) ?_
      refine s_icmp_le_n (tgt := 26) hX dX11_row_21 (by decide) (by omega) (by omega) (fun q21 => ?_) (fun q21 => ?_)
      · omega
      · refine s_iconst (v := -1) hX dX11_row_24 (by decide) ?_
        refine s_iret hX dX11_row_25 rfl rfl ?_
        exact ⟨rfl, rfl⟩
    · refine Sm.imp (Q := qi fun r σ2 => (r = nI (isN (pAm pr (m / 16))) ∧ MdS σ2 (rowF pr (m / 16) (m % 16) y z) v0 true) ∧ FrS σ σ2) ?_ (fun r σ2 ⟨w, e, q⟩ => ⟨w, e, by simp only [h8, if_false]; exact q⟩)
      refine Sm.of mk_X11_row (Nat.le_of_ble_eq_true rfl) rfl (fun X hX => ?_)
      have LP : ∀ d k, k + d = m % 16 → ∀ (w : Nat) (x8 : Option Value) (σ0 σ1 : Sg), (σ0 = wI σ 56 (m / 16) (nI (m % 16))) → (∀ b, b ≠ 57 → σ1 b = σ0 b) → (∀ i, (i < 8 * (m / 16) ∨ 8 * (m / 16) + 8 ≤ i) → (σ1 57).1 i = (σ0 57).1 i) → (∀ i, i < k → (σ1 57).1 (8 * (m / 16) + i) = nI (byF (if i < 4 then y else z) (i % 4))) → w = isN (pAm pr (m / 16)) → Sw 77 mX11_row X (ZS 77 mX11_row (qi fun r σ2 => (r = nI (isN (pAm pr (m / 16))) ∧ MdS σ2 (rowF pr (m / 16) (m % 16) y z) v0 true) ∧ FrS σ σ2) X) 55 [some (.ref 53), some (.int (nI m)), some (.int y), some (.int z), some (.int (nI (m / 16))), some (.int (nI (m % 16))), some (.int (nI w)), some (.int (nI k)), x8] [] σ1 := by
        intro d
        induction d with
        | zero =>
          intro k hd w x8 σ0 σ1 e0 hb hi1 hi2 hw
          have hf0 : FrS σ σ1 := ⟨fun b h1 h2 => by
            have n57 : b ≠ 57 := fun e => h1 (by rw [e]; decide)
            have n56 : b ≠ 56 := fun e => h1 (by rw [e]; decide)
            rw [hb b n57, e0, wI_a _ _ n56], fun k _ => by rw [hb 53 (by decide), e0, wI_a _ _ (by decide)], by rw [hb 53 (by decide), e0, wI_a _ _ (by decide)]⟩
          have hp1 : PrM σ1 (rowF pr (m / 16) (m % 16) y z) := by
            refine ⟨?_, ?_, ?_, fun b hb2 => ?_, fun b hb2 mm hmm k2 hk2 => ?_⟩
            · rw [hb 53 (by decide), e0, wI_a _ _ (by decide)]; exact h.1.1
            · rw [hb 54 (by decide), e0, wI_a _ _ (by decide)]; exact h.1.2.1
            · rw [hb 55 (by decide), e0, wI_a _ _ (by decide)]; exact h.1.2.2.1
            · rw [hb 56 (by decide), e0]
              show _ = amv (if b = m / 16 then some (m % 16) else pAm pr b)
              by_cases e : b = m / 16
              · subst e; rw [wI_s, if_pos rfl]; rfl
              · rw [wI_k _ _ e, if_neg e]; exact h.1.2.2.2.1 b hb2
            · have hmm : (if b = m / 16 then some (m % 16) else pAm pr b) = some mm := hmm
              show _ = nI (if b = m / 16 then byF (if k2 < 4 then y else z) (k2 % 4) else pAc pr b k2)
              by_cases e : b = m / 16
              · subst e
                rw [if_pos rfl] at hmm ⊢
                cases hmm
                exact hi2 k2 (by omega)
              · rw [if_neg e] at hmm ⊢
                have := hk.2.2.2.1 b mm hmm
                rw [hi1 _ (by omega), e0, wI_a _ _ (by decide)]
                exact h.1.2.2.2.2 b hb2 mm hmm k2 hk2
          refine s_iload hX dX11_row_55 rfl ?_
          refine s_iload hX dX11_row_57 rfl ?_
          refine s_icmp_ge_n (tgt := 111) hX dX11_row_59 (by decide) (by omega) (by omega) (fun q59 => ?_) (fun q59 => ?_)
          · refine s_aload_n hX dX11_row_111 rfl ?_
            refine s_callVv (as := []) hX dX11_row_112 mk_X11_changed lk_X11_98 (c_X11_changed hp1) rfl (by omega) rfl rfl rfl ⟨rfl, rfl⟩ (Nat.le_of_ble_eq_true rfl) (Nat.le_of_ble_eq_true rfl) (Nat.le_of_ble_eq_true rfl) rfl (fun σ112 p112 => ?_)
            obtain ⟨hM, hf2⟩ := p112
            refine s_iload hX dX11_row_115 rfl ?_
            refine s_iret hX dX11_row_117 rfl rfl ?_
            exact ⟨⟨by rw [hw], hM⟩, hf0.trans hf2⟩
          · omega
        | succ d ih =>
          intro k hd w x8 σ0 σ1 e0 hb hi1 hi2 hw
          refine s_iload hX dX11_row_55 rfl ?_
          refine s_iload hX dX11_row_57 rfl ?_
          refine s_icmp_ge_n (tgt := 111) hX dX11_row_59 (by decide) (by omega) (by omega) (fun q59 => ?_) (fun q59 => ?_)
          · omega
          · refine s_iload hX dX11_row_62 rfl ?_
            refine s_iconst (v := nI 4) hX dX11_row_64 (by decide) ?_
            refine s_icmp_ge_n (tgt := 72) hX dX11_row_65 (by decide) (by omega) (by omega) (fun q65 => ?_) (fun q65 => ?_)
            · refine s_iload_n hX dX11_row_72 rfl ?_
              refine s_istore hX dX11_row_73 (Nat.le_of_ble_eq_true rfl) rfl st_9_8 ?_
              refine s_aload_n hX dX11_row_75 rfl ?_
              refine s_getR hX dX11_row_76 fl_X11_23 rfl rfl (by omega) ?_
              refine s_bipush (v := nI 8) hX dX11_row_79 (by decide) ?_
              refine s_iload hX dX11_row_81 rfl ?_
              refine s_imul_n hX dX11_row_83 ?_
              refine s_iload hX dX11_row_84 rfl ?_
              refine s_iadd_n hX dX11_row_86 ?_
              refine s_iload hX dX11_row_87 rfl ?_
              refine s_bipush (v := nI 24) hX dX11_row_89 (by decide) ?_
              refine s_bipush (v := nI 8) hX dX11_row_91 (by decide) ?_
              refine s_iload hX dX11_row_93 rfl ?_
              refine s_iconst (v := nI 4) hX dX11_row_95 (by decide) ?_
              refine s_irem_n hX dX11_row_96 (by omega) (by decide) (by decide) ?_
              refine s_imul_n hX dX11_row_97 ?_
              refine s_isub_n hX dX11_row_98 (by omega) ?_
              refine s_ishr hX dX11_row_99 ?_
              refine s_sipush (v := nI 255) hX dX11_row_100 (by decide) ?_
              refine s_iand hX dX11_row_103 ?_
              first
                | refine s_top (y := nI (byF y (k % 4))) (by rw [by_s _ _ (by omega)]; rfl) ?_
                | refine s_top (y := nI (byF z (k % 4))) (by rw [by_s _ _ (by omega)]; rfl) ?_
              refine s_iast hX dX11_row_104 rfl (by omega) (by omega) (by decide) ?_
              refine s_iinc_n (c := 1) hX dX11_row_105 rfl (by decide) rfl st_9_7 ?_
              refine s_goto (tgt := 55) hX dX11_row_108 (by decide) ?_
              refine ih (k + 1) (by omega) w _ σ0 _ e0 (fun b h1 => by rw [wI_a _ _ h1]; exact hb b h1) (fun i h1 => by rw [wI_k _ _ (by omega)]; exact hi1 i h1) (fun i h1 => ?_) hw
              by_cases e : i = k
              · subst e
                rw [wI_s]
                first
                  | rw [if_pos q65]
                  | rw [if_neg (by omega)]
              · rw [wI_k _ _ (by omega)]
                exact hi2 i (by omega)
            · refine s_iload_n hX dX11_row_68 rfl ?_
              refine s_goto (tgt := 73) hX dX11_row_69 (by decide) ?_
              refine s_istore hX dX11_row_73 (Nat.le_of_ble_eq_true rfl) rfl st_9_8 ?_
              refine s_aload_n hX dX11_row_75 rfl ?_
              refine s_getR hX dX11_row_76 fl_X11_23 rfl rfl (by omega) ?_
              refine s_bipush (v := nI 8) hX dX11_row_79 (by decide) ?_
              refine s_iload hX dX11_row_81 rfl ?_
              refine s_imul_n hX dX11_row_83 ?_
              refine s_iload hX dX11_row_84 rfl ?_
              refine s_iadd_n hX dX11_row_86 ?_
              refine s_iload hX dX11_row_87 rfl ?_
              refine s_bipush (v := nI 24) hX dX11_row_89 (by decide) ?_
              refine s_bipush (v := nI 8) hX dX11_row_91 (by decide) ?_
              refine s_iload hX dX11_row_93 rfl ?_
              refine s_iconst (v := nI 4) hX dX11_row_95 (by decide) ?_
              refine s_irem_n hX dX11_row_96 (by omega) (by decide) (by decide) ?_
              refine s_imul_n hX dX11_row_97 ?_
              refine s_isub_n hX dX11_row_98 (by omega) ?_
              refine s_ishr hX dX11_row_99 ?_
              refine s_sipush (v := nI 255) hX dX11_row_100 (by decide) ?_
              refine s_iand hX dX11_row_103 ?_
              first
                | refine s_top (y := nI (byF y (k % 4))) (by rw [by_s _ _ (by omega)]; rfl) ?_
                | refine s_top (y := nI (byF z (k % 4))) (by rw [by_s _ _ (by omega)]; rfl) ?_
              refine s_iast hX dX11_row_104 rfl (by omega) (by omega) (by decide) ?_
              refine s_iinc_n (c := 1) hX dX11_row_105 rfl (by decide) rfl st_9_7 ?_
              refine s_goto (tgt := 55) hX dX11_row_108 (by decide) ?_
              refine ih (k + 1) (by omega) w _ σ0 _ e0 (fun b h1 => by rw [wI_a _ _ h1]; exact hb b h1) (fun i h1 => by rw [wI_k _ _ (by omega)]; exact hi1 i h1) (fun i h1 => ?_) hw
              by_cases e : i = k
              · subst e
                rw [wI_s]
                first
                  | rw [if_pos q65]
                  | rw [if_neg (by omega)]
              · rw [wI_k _ _ (by omega)]
                exact hi2 i (by omega)
      have h56 := h.1.2.2.2.1 (m / 16) ha
      obtain ⟨pm, hm⟩ : ∃ pm, pAm pr (m / 16) = pm := ⟨_, rfl⟩
      cases pm with
      | none =>
        have e56 : (σ 56).1 (m / 16) = -1 := by rw [h56, hm]; rfl
        refine s_iload_n hX dX11_row_0 rfl ?_
        refine s_callSi (as := [_]) hX dX11_row_1 mk_X11_placeOf lk_X11_101 (c_X11_placeOf _) rfl ⟨rfl, rfl⟩ (Nat.le_of_ble_eq_true rfl) (Nat.le_of_ble_eq_true rfl) (Nat.le_of_ble_eq_true rfl) rfl (fun v1 σ1 p1 => ?_)
        obtain ⟨rfl, rfl⟩ := p1
        rw [hpl]
        refine s_top (y := nI (m / 16)) rfl ?_
        refine s_istore hX dX11_row_4 (Nat.le_of_ble_eq_true rfl) rfl st_9_4 ?_
        refine s_iload_n hX dX11_row_6 rfl ?_
        refine s_bipush (v := nI 16) hX dX11_row_7 (by decide) ?_
        refine s_irem_n hX dX11_row_9 (by omega) (by decide) (by decide) ?_
        refine s_istore hX dX11_row_10 (Nat.le_of_ble_eq_true rfl) rfl st_9_5 ?_
        refine s_iload hX dX11_row_12 rfl ?_
        refine s_if_lt_n (tgt := 24) hX dX11_row_14 (by decide) (by omega) ?_
        refine s_iload hX dX11_row_17 rfl ?_
        refine s_bipush (v := nI 8) hX dX11_row_19 (by decide) ?_
        refine s_icmp_le_n (tgt := 26) hX dX11_row_21 (by decide) (by omega) (by omega) (fun q21 => ?_) (fun q21 => ?_)
        · refine s_aload_n hX dX11_row_26 rfl ?_
          refine s_getR hX dX11_row_27 fl_X11_20 rfl rfl (by omega) ?_
          refine s_iload hX dX11_row_30 rfl ?_
          refine s_iald (x := (-1)) hX dX11_row_32 rfl (by omega) (by omega) (by decide) e56 ?_
          refine s_if_lt (tgt := 40) hX dX11_row_33 (by decide) (fun q33 => ?_) (fun q33 => ?_)
          · refine s_iconst (v := nI 0) hX dX11_row_40 (by decide) ?_
            refine s_istore hX dX11_row_41 (Nat.le_of_ble_eq_true rfl) rfl st_9_6 ?_
            refine s_aload_n hX dX11_row_43 rfl ?_
            refine s_getR hX dX11_row_44 fl_X11_20 rfl rfl (by omega) ?_
            refine s_iload hX dX11_row_47 rfl ?_
            refine s_iload hX dX11_row_49 rfl ?_
            refine s_iast hX dX11_row_51 rfl (by omega) (by omega) (by decide) ?_
            refine s_gen (fun σ0 e0 => ?_)
            refine s_iconst (v := nI 0) hX dX11_row_52 (by decide) ?_
            refine s_istore hX dX11_row_53 (Nat.le_of_ble_eq_true rfl) rfl st_9_7 ?_
            exact LP (m % 16) 0 (by omega) 0 _ σ0 σ0 e0 (fun _ _ => rfl) (fun i _ => rfl) (fun i hi => absurd hi (Nat.not_lt_zero i)) (by rw [hm]; rfl)
          · exact absurd (by decide) q33
        · omega
      | some mm =>
        have hm8 := hk.2.2.2.1 _ mm hm
        have e56 : (σ 56).1 (m / 16) = nI mm := by rw [h56, hm]; rfl
        refine s_iload_n hX dX11_row_0 rfl ?_
        refine s_callSi (as := [_]) hX dX11_row_1 mk_X11_placeOf lk_X11_101 (c_X11_placeOf _) rfl ⟨rfl, rfl⟩ (Nat.le_of_ble_eq_true rfl) (Nat.le_of_ble_eq_true rfl) (Nat.le_of_ble_eq_true rfl) rfl (fun v1 σ1 p1 => ?_)
        obtain ⟨rfl, rfl⟩ := p1
        rw [hpl]
        refine s_top (y := nI (m / 16)) rfl ?_
        refine s_istore hX dX11_row_4 (Nat.le_of_ble_eq_true rfl) rfl st_9_4 ?_
        refine s_iload_n hX dX11_row_6 rfl ?_
        refine s_bipush (v := nI 16) hX dX11_row_7 (by decide) ?_
        refine s_irem_n hX dX11_row_9 (by omega) (by decide) (by decide) ?_
        refine s_istore hX dX11_row_10 (Nat.le_of_ble_eq_true rfl) rfl st_9_5 ?_
        refine s_iload hX dX11_row_12 rfl ?_
        refine s_if_lt_n (tgt := 24) hX dX11_row_14 (by decide) (by omega) ?_
        refine s_iload hX dX11_row_17 rfl ?_
        refine s_bipush (v := nI 8) hX dX11_row_19 (by decide) ?_
        refine s_icmp_le_n (tgt := 26) hX dX11_row_21 (by decide) (by omega) (by omega) (fun q21 => ?_) (fun q21 => ?_)
        · refine s_aload_n hX dX11_row_26 rfl ?_
          refine s_getR hX dX11_row_27 fl_X11_20 rfl rfl (by omega) ?_
          refine s_iload hX dX11_row_30 rfl ?_
          refine s_iald (x := nI (mm)) hX dX11_row_32 rfl (by omega) (by omega) (by decide) e56 ?_
          refine s_if_lt_n (tgt := 40) hX dX11_row_33 (by decide) (by omega) ?_
          refine s_iconst (v := nI 1) hX dX11_row_36 (by decide) ?_
          refine s_goto (tgt := 41) hX dX11_row_37 (by decide) ?_
          refine s_istore hX dX11_row_41 (Nat.le_of_ble_eq_true rfl) rfl st_9_6 ?_
          refine s_aload_n hX dX11_row_43 rfl ?_
          refine s_getR hX dX11_row_44 fl_X11_20 rfl rfl (by omega) ?_
          refine s_iload hX dX11_row_47 rfl ?_
          refine s_iload hX dX11_row_49 rfl ?_
          refine s_iast hX dX11_row_51 rfl (by omega) (by omega) (by decide) ?_
          refine s_gen (fun σ0 e0 => ?_)
          refine s_iconst (v := nI 0) hX dX11_row_52 (by decide) ?_
          refine s_istore hX dX11_row_53 (Nat.le_of_ble_eq_true rfl) rfl st_9_7 ?_
          exact LP (m % 16) 0 (by omega) 1 _ σ0 σ0 e0 (fun _ _ => rfl) (fun i _ => rfl) (fun i hi => absurd hi (Nat.not_lt_zero i)) (by rw [hm]; rfl)
        · omega
set_option maxRecDepth 100000 in
set_option maxHeartbeats 4000000 in
theorem c_X11_tear {σ : Sg} {pr : Pr} {v : Vc} {ch : Bool} (h : MdS σ pr v ch) (hk : PrOk pr) (x : Int32) : Sm 77 mX11_tear [.ref 53, .int x] σ (qi fun r σ2 => (match plF x with
    | none => r = -1 ∧ MdS σ2 pr v ch
    | some a => r = nI (isN (pAm pr a)) ∧ MdS σ2 (tearF pr a) v0 true) ∧ FrS σ σ2) := by
  refine Sm.of mk_X11_tear (Nat.le_of_ble_eq_true rfl) rfl (fun X hX => ?_)
  cases hpl : plF x with
  | none =>
    refine s_iload_n hX dX11_tear_0 rfl ?_
    refine s_callSi (as := [_]) hX dX11_tear_1 mk_X11_placeOf lk_X11_101 (c_X11_placeOf _) rfl ⟨rfl, rfl⟩ (Nat.le_of_ble_eq_true rfl) (Nat.le_of_ble_eq_true rfl) (Nat.le_of_ble_eq_true rfl) rfl (fun v1 σ1 p1 => ?_)
    obtain ⟨rfl, rfl⟩ := p1
    rw [hpl]
    refine s_top (y := -1) rfl ?_
    refine s_istore_n hX dX11_tear_4 (Nat.le_of_ble_eq_true rfl) rfl st_4_2 ?_
    refine s_iload_n hX dX11_tear_5 rfl ?_
    refine s_if_ge (tgt := 11) hX dX11_tear_6 (by decide) (fun q6 => ?_) (fun q6 => ?_)
    · exact absurd q6 (by decide)
    · refine s_iconst (v := -1) hX dX11_tear_9 (by decide) ?_
      refine s_iret hX dX11_tear_10 rfl rfl ?_
      exact ⟨⟨rfl, h⟩, Fr.rf⟩
  | some a =>
    have ha := plF_lt hpl
    have h56 := h.1.2.2.2.1 a ha
    cases hm : pAm pr a with
    | none =>
      have e56 : (σ 56).1 a = -1 := by rw [h56, hm]; rfl
      refine s_iload_n hX dX11_tear_0 rfl ?_
      refine s_callSi (as := [_]) hX dX11_tear_1 mk_X11_placeOf lk_X11_101 (c_X11_placeOf _) rfl ⟨rfl, rfl⟩ (Nat.le_of_ble_eq_true rfl) (Nat.le_of_ble_eq_true rfl) (Nat.le_of_ble_eq_true rfl) rfl (fun v1 σ1 p1 => ?_)
      obtain ⟨rfl, rfl⟩ := p1
      rw [hpl]
      refine s_top (y := nI a) rfl ?_
      refine s_istore_n hX dX11_tear_4 (Nat.le_of_ble_eq_true rfl) rfl st_4_2 ?_
      refine s_iload_n hX dX11_tear_5 rfl ?_
      refine s_if_ge_n (tgt := 11) hX dX11_tear_6 (by decide) (by omega) ?_
      refine s_aload_n hX dX11_tear_11 rfl ?_
      refine s_getR hX dX11_tear_12 fl_X11_20 rfl rfl (by omega) ?_
      refine s_iload_n hX dX11_tear_15 rfl ?_
      refine s_iald (x := (-1)) hX dX11_tear_16 rfl (by omega) (by omega) (by decide) e56 ?_
      refine s_if_lt (tgt := 24) hX dX11_tear_17 (by decide) (fun q17 => ?_) (fun q17 => ?_)
      · refine s_iconst (v := nI 0) hX dX11_tear_24 (by decide) ?_
        refine s_istore_n hX dX11_tear_25 (Nat.le_of_ble_eq_true rfl) rfl st_4_3 ?_
        refine s_aload_n hX dX11_tear_26 rfl ?_
        refine s_getR hX dX11_tear_27 fl_X11_20 rfl rfl (by omega) ?_
        refine s_iload_n hX dX11_tear_30 rfl ?_
        refine s_iconst (v := -1) hX dX11_tear_31 (by decide) ?_
        refine s_iast hX dX11_tear_32 rfl (by omega) (by omega) (by decide) ?_
        refine s_gen (fun σ0 e0 => ?_)
        have hf1 : FrS σ1 σ0 := by rw [e0]; exact Fr.rf.wI (by decide) (by decide)
        have hp1 : PrM σ0 (tearF pr a) := by
          refine ⟨?_, ?_, ?_, fun b hb2 => ?_, fun b hb2 mm hmm k2 hk2 => ?_⟩
          · rw [e0, wI_a _ _ (by decide)]; exact h.1.1
          · rw [e0, wI_a _ _ (by decide)]; exact h.1.2.1
          · rw [e0, wI_a _ _ (by decide)]; exact h.1.2.2.1
          · rw [e0]
            show _ = amv (if b = a then none else pAm pr b)
            by_cases e : b = a
            · subst e; rw [wI_s, if_pos rfl]; rfl
            · rw [wI_k _ _ e, if_neg e]; exact h.1.2.2.2.1 b hb2
          · have hmm : (if b = a then none else pAm pr b) = some mm := hmm
            by_cases e : b = a
            · rw [if_pos e] at hmm; cases hmm
            · rw [if_neg e] at hmm
              rw [e0, wI_a _ _ (by decide)]
              exact h.1.2.2.2.2 b hb2 mm hmm k2 hk2
        refine s_aload_n hX dX11_tear_33 rfl ?_
        refine s_callVv (as := []) hX dX11_tear_34 mk_X11_changed lk_X11_98 (c_X11_changed hp1) rfl (by omega) rfl rfl rfl ⟨rfl, rfl⟩ (Nat.le_of_ble_eq_true rfl) (Nat.le_of_ble_eq_true rfl) (Nat.le_of_ble_eq_true rfl) rfl (fun σ34 p34 => ?_)
        obtain ⟨hM, hf2⟩ := p34
        refine s_iload_n hX dX11_tear_37 rfl ?_
        refine s_iret hX dX11_tear_38 rfl rfl ?_
        exact ⟨⟨by rw [hm]; rfl, hM⟩, hf1.trans hf2⟩
      · exact absurd (by decide) q17
    | some mm =>
      have hm8 := hk.2.2.2.1 _ mm hm
      have e56 : (σ 56).1 a = nI mm := by rw [h56, hm]; rfl
      refine s_iload_n hX dX11_tear_0 rfl ?_
      refine s_callSi (as := [_]) hX dX11_tear_1 mk_X11_placeOf lk_X11_101 (c_X11_placeOf _) rfl ⟨rfl, rfl⟩ (Nat.le_of_ble_eq_true rfl) (Nat.le_of_ble_eq_true rfl) (Nat.le_of_ble_eq_true rfl) rfl (fun v1 σ1 p1 => ?_)
      obtain ⟨rfl, rfl⟩ := p1
      rw [hpl]
      refine s_top (y := nI a) rfl ?_
      refine s_istore_n hX dX11_tear_4 (Nat.le_of_ble_eq_true rfl) rfl st_4_2 ?_
      refine s_iload_n hX dX11_tear_5 rfl ?_
      refine s_if_ge_n (tgt := 11) hX dX11_tear_6 (by decide) (by omega) ?_
      refine s_aload_n hX dX11_tear_11 rfl ?_
      refine s_getR hX dX11_tear_12 fl_X11_20 rfl rfl (by omega) ?_
      refine s_iload_n hX dX11_tear_15 rfl ?_
      refine s_iald (x := nI (mm)) hX dX11_tear_16 rfl (by omega) (by omega) (by decide) e56 ?_
      refine s_if_lt_n (tgt := 24) hX dX11_tear_17 (by decide) (by omega) ?_
      refine s_iconst (v := nI 1) hX dX11_tear_20 (by decide) ?_
      refine s_goto (tgt := 25) hX dX11_tear_21 (by decide) ?_
      refine s_istore_n hX dX11_tear_25 (Nat.le_of_ble_eq_true rfl) rfl st_4_3 ?_
      refine s_aload_n hX dX11_tear_26 rfl ?_
      refine s_getR hX dX11_tear_27 fl_X11_20 rfl rfl (by omega) ?_
      refine s_iload_n hX dX11_tear_30 rfl ?_
      refine s_iconst (v := -1) hX dX11_tear_31 (by decide) ?_
      refine s_iast hX dX11_tear_32 rfl (by omega) (by omega) (by decide) ?_
      refine s_gen (fun σ0 e0 => ?_)
      have hf1 : FrS σ1 σ0 := by rw [e0]; exact Fr.rf.wI (by decide) (by decide)
      have hp1 : PrM σ0 (tearF pr a) := by
        refine ⟨?_, ?_, ?_, fun b hb2 => ?_, fun b hb2 mm hmm k2 hk2 => ?_⟩
        · rw [e0, wI_a _ _ (by decide)]; exact h.1.1
        · rw [e0, wI_a _ _ (by decide)]; exact h.1.2.1
        · rw [e0, wI_a _ _ (by decide)]; exact h.1.2.2.1
        · rw [e0]
          show _ = amv (if b = a then none else pAm pr b)
          by_cases e : b = a
          · subst e; rw [wI_s, if_pos rfl]; rfl
          · rw [wI_k _ _ e, if_neg e]; exact h.1.2.2.2.1 b hb2
        · have hmm : (if b = a then none else pAm pr b) = some mm := hmm
          by_cases e : b = a
          · rw [if_pos e] at hmm; cases hmm
          · rw [if_neg e] at hmm
            rw [e0, wI_a _ _ (by decide)]
            exact h.1.2.2.2.2 b hb2 mm hmm k2 hk2
      refine s_aload_n hX dX11_tear_33 rfl ?_
      refine s_callVv (as := []) hX dX11_tear_34 mk_X11_changed lk_X11_98 (c_X11_changed hp1) rfl (by omega) rfl rfl rfl ⟨rfl, rfl⟩ (Nat.le_of_ble_eq_true rfl) (Nat.le_of_ble_eq_true rfl) (Nat.le_of_ble_eq_true rfl) rfl (fun σ34 p34 => ?_)
      obtain ⟨hM, hf2⟩ := p34
      refine s_iload_n hX dX11_tear_37 rfl ?_
      refine s_iret hX dX11_tear_38 rfl rfl ?_
      exact ⟨⟨by rw [hm]; rfl, hM⟩, hf1.trans hf2⟩
def cnR (f : Nat → Option Nat) (b : Nat) : Nat → Nat
  | 0 => 0
  | k + 1 => cnR f b k + isN (f (b + k))
theorem isN_le (a : Option Nat) : isN a ≤ 1 := by unfold isN; split <;> decide
theorem cnR_le (f : Nat → Option Nat) (b : Nat) : ∀ k, cnR f b k ≤ k
  | 0 => Nat.le_refl 0
  | k + 1 => by
    have := cnR_le f b k
    have := isN_le (f (b + k))
    unfold cnR
    omega
set_option maxRecDepth 100000 in
set_option maxHeartbeats 4000000 in
theorem c_X11_rows {σ : Sg} {pr : Pr} (hp : PrM σ pr) (hk : PrOk pr) (x : Int32) : Sm 77 mX11_rows [.ref 53, .int x] σ (qi fun r σ2 => r = (match rg 0 1 x with
    | none => -1
    | some s => nI (cnR (pAm pr) (1024 * s) 1024)) ∧ σ2 = σ) := by
  refine Sm.of mk_X11_rows (Nat.le_of_ble_eq_true rfl) rfl (fun X hX => ?_)
  have LP : ∀ s, s ≤ 1 → ∀ d k, k + d = 1024 → Sw 77 mX11_rows X (ZS 77 mX11_rows (qi fun r σ2 => r = nI (cnR (pAm pr) (1024 * s) 1024) ∧ σ2 = σ) X) 15 [some (.ref 53), some (.int (nI s)), some (.int (nI (cnR (pAm pr) (1024 * s) k))), some (.int (nI k))] [] σ := by
    intro s hs d
    induction d with
    | zero =>
      intro k hd
      refine s_iload_n hX dX11_rows_15 rfl ?_
      refine s_sipush (v := nI 1024) hX dX11_rows_16 (by decide) ?_
      refine s_icmp_ge_n (tgt := 51) hX dX11_rows_19 (by decide) (by omega) (by omega) (fun q19 => ?_) (fun q19 => ?_)
      · refine s_iload_n hX dX11_rows_51 rfl ?_
        refine s_iret hX dX11_rows_52 rfl rfl ?_
        rw [show k = 1024 by omega]
        exact ⟨rfl, rfl⟩
      · omega
    | succ d ih =>
      intro k hd
      have h56 := hp.2.2.2.1 (1024 * s + k) (by omega)
      cases hm : pAm pr (1024 * s + k) with
      | none =>
        have e56 : (σ 56).1 (1024 * s + k) = -1 := by rw [h56, hm]; rfl
        refine s_iload_n hX dX11_rows_15 rfl ?_
        refine s_sipush (v := nI 1024) hX dX11_rows_16 (by decide) ?_
        refine s_icmp_ge_n (tgt := 51) hX dX11_rows_19 (by decide) (by omega) (by omega) (fun q19 => ?_) (fun q19 => ?_)
        · omega
        · refine s_iload_n hX dX11_rows_22 rfl ?_
          refine s_aload_n hX dX11_rows_23 rfl ?_
          refine s_getR hX dX11_rows_24 fl_X11_20 rfl rfl (by omega) ?_
          refine s_sipush (v := nI 1024) hX dX11_rows_27 (by decide) ?_
          refine s_iload_n hX dX11_rows_30 rfl ?_
          refine s_imul_n hX dX11_rows_31 ?_
          refine s_iload_n hX dX11_rows_32 rfl ?_
          refine s_iadd_n hX dX11_rows_33 ?_
          refine s_iald (x := (-1)) hX dX11_rows_34 rfl (by omega) (by omega) (by decide) e56 ?_
          refine s_if_lt (tgt := 42) hX dX11_rows_35 (by decide) (fun q35 => ?_) (fun q35 => ?_)
          · refine s_iconst (v := nI 0) hX dX11_rows_42 (by decide) ?_
            refine s_iadd_n hX dX11_rows_43 ?_
            refine s_istore_n hX dX11_rows_44 (Nat.le_of_ble_eq_true rfl) rfl st_4_2 ?_
            refine s_iinc_n (c := 1) hX dX11_rows_45 rfl (by decide) rfl st_4_3 ?_
            refine s_goto (tgt := 15) hX dX11_rows_48 (by decide) ?_
            have hx := ih (k + 1) (by omega)
            rw [show cnR (pAm pr) (1024 * s) (k + 1) = cnR (pAm pr) (1024 * s) k + 0 by unfold cnR; rw [hm]; cases k <;> rfl] at hx
            exact hx
          · exact absurd (by decide) q35
      | some mm =>
        have hm8 := hk.2.2.2.1 _ mm hm
        have e56 : (σ 56).1 (1024 * s + k) = nI mm := by rw [h56, hm]; rfl
        refine s_iload_n hX dX11_rows_15 rfl ?_
        refine s_sipush (v := nI 1024) hX dX11_rows_16 (by decide) ?_
        refine s_icmp_ge_n (tgt := 51) hX dX11_rows_19 (by decide) (by omega) (by omega) (fun q19 => ?_) (fun q19 => ?_)
        · omega
        · refine s_iload_n hX dX11_rows_22 rfl ?_
          refine s_aload_n hX dX11_rows_23 rfl ?_
          refine s_getR hX dX11_rows_24 fl_X11_20 rfl rfl (by omega) ?_
          refine s_sipush (v := nI 1024) hX dX11_rows_27 (by decide) ?_
          refine s_iload_n hX dX11_rows_30 rfl ?_
          refine s_imul_n hX dX11_rows_31 ?_
          refine s_iload_n hX dX11_rows_32 rfl ?_
          refine s_iadd_n hX dX11_rows_33 ?_
          refine s_iald (x := nI (mm)) hX dX11_rows_34 rfl (by omega) (by omega) (by decide) e56 ?_
          refine s_if_lt_n (tgt := 42) hX dX11_rows_35 (by decide) (by omega) ?_
          refine s_iconst (v := nI 1) hX dX11_rows_38 (by decide) ?_
          refine s_goto (tgt := 43) hX dX11_rows_39 (by decide) ?_
          refine s_iadd_n hX dX11_rows_43 ?_
          refine s_istore_n hX dX11_rows_44 (Nat.le_of_ble_eq_true rfl) rfl st_4_2 ?_
          refine s_iinc_n (c := 1) hX dX11_rows_45 rfl (by decide) rfl st_4_3 ?_
          refine s_goto (tgt := 15) hX dX11_rows_48 (by decide) ?_
          have hx := ih (k + 1) (by omega)
          rw [show cnR (pAm pr) (1024 * s) (k + 1) = cnR (pAm pr) (1024 * s) k + 1 by unfold cnR; rw [hm]; cases k <;> rfl] at hx
          exact hx
  refine s_iload_n hX dX11_rows_0 rfl ?_
  refine s_if_lt (tgt := 9) hX dX11_rows_1 (by decide) (fun q1 => ?_) (fun q1 => ?_)
  · refine s_iconst (v := -1) hX dX11_rows_9 (by decide) ?_
    refine s_iret hX dX11_rows_10 rfl rfl ?_
    rw [rg_no (by first | exact Or.inl q1 | exact Or.inr (Int32.not_le.mp q6))]
    exact ⟨rfl, rfl⟩
  · refine s_iload_n hX dX11_rows_4 rfl ?_
    refine s_iconst (v := nI 1) hX dX11_rows_5 (by decide) ?_
    refine s_icmp_le (tgt := 11) hX dX11_rows_6 (by decide) (fun q6 => ?_) (fun q6 => ?_)
    · obtain ⟨s, -, hs1, rfl, hrg⟩ := rg_of (lo := 0) (hi := 1) (by decide) (by decide) q1 (Int32.not_lt.mpr q6)
      rw [hrg]
      refine s_iconst (v := nI 0) hX dX11_rows_11 (by decide) ?_
      refine s_istore_n hX dX11_rows_12 (Nat.le_of_ble_eq_true rfl) rfl st_4_2 ?_
      refine s_iconst (v := nI 0) hX dX11_rows_13 (by decide) ?_
      refine s_istore_n hX dX11_rows_14 (Nat.le_of_ble_eq_true rfl) rfl st_4_3 ?_
      exact LP s hs1 1024 0 (by omega)
    · refine s_iconst (v := -1) hX dX11_rows_9 (by decide) ?_
      refine s_iret hX dX11_rows_10 rfl rfl ?_
      rw [rg_no (by first | exact Or.inl q1 | exact Or.inr (Int32.not_le.mp q6))]
      exact ⟨rfl, rfl⟩
