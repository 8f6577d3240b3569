/-! ===== what a walk answers ===== -/
noncomputable def ldB (pr : Pr) (W : Wk) (n : Nat) : Bool := @decide (LdP pr W n) (Classical.propDecidable _)
theorem ldB_iff {pr : Pr} {W : Wk} {n : Nat} : ldB pr W n = true ↔ LdP pr W n := by
  unfold ldB
  exact @decide_eq_true_iff (LdP pr W n) (Classical.propDecidable _)
theorem LdM.b {σ : Sg} {pr : Pr} {W : Wk} (h : LdM σ pr W) : ∀ n, n < kM W → (σ 73).1 n = bI (ldB pr W n) := by
  obtain ⟨L, hL⟩ := h
  intro n hn
  rw [(hL n hn).1]
  congr 1
  cases h1 : L n with
  | true => exact (ldB_iff.mpr ((hL n hn).2.mp h1)).symm
  | false =>
    cases h2 : ldB pr W n with
    | false => rfl
    | true => rw [(hL n hn).2.mpr (ldB_iff.mp h2)] at h1; cases h1
def ctR (p : Nat → Bool) : Nat → Nat
  | 0 => 0
  | n + 1 => ctR p n + (p n).toNat
theorem ctR_le (p : Nat → Bool) : ∀ n, ctR p n ≤ n
  | 0 => Nat.le_refl 0
  | n + 1 => by
    have := ctR_le p n
    have h1 : (p n).toNat ≤ 1 := by cases p n <;> decide
    unfold ctR
    omega
def mxR (f : Nat → Nat) : Nat → Nat
  | 0 => 0
  | n + 1 => if mxR f n < f n then f n else mxR f n
def kthR (p : Nat → Bool) (i : Nat) : Nat → Option Nat
  | 0 => none
  | n + 1 => match kthR p i n with
    | some k => some k
    | none => if p n = true ∧ ctR p n = i then some n else none
def wyR (W : Wk) (k : Nat) : Nat → Nat → Nat
  | 0, n => (kP W n).2
  | d + 1, n => if k + 1 < kF W n then wyR W k d (kP W n).1 else (kP W n).2
/-- the last walk: none yet, or the walk of a protocol -/
def WkQ (pr : Pr) (W : Wk) : Prop := PrOk pr ∧ (W = wk0 ∨ ∃ most, 1 ≤ most ∧ most ≤ 4000 ∧ W = wkF pr most)
theorem far_le {pr : Pr} {most vis : Nat} {W : Wk} (h : WkOk pr most vis W) : ∀ n, n < kM W → kF W n ≤ n := by
  intro n
  induction n using Nat.strongRecOn with
  | ind n ih =>
    intro hn
    by_cases e : n = 0
    · subst e; rw [h.2.2.2.2.2.1]; exact Nat.le_refl 0
    · obtain ⟨h1, h2, h3, h4⟩ := h.2.2.2.2.2.2.1 n (by omega) hn
      have := ih _ h1 (by omega)
      omega
theorem WkQ.all {pr : Pr} {W : Wk} (h : WkQ pr W) : kM W ≤ 4000 ∧ (kB W).length < 2 ^ 30 ∧ kT W ≤ 80000 ∧ (∀ n, n < kM W → kF W n ≤ n ∧ VOk pr (kV W n)) ∧ (∀ n, 0 < n → n < kM W → (kP W n).1 < n ∧ kF W n = kF W (kP W n).1 + 1 ∧ (kP W n).2 < 20) ∧ kF W 0 = 0 ∧ (∀ t, t ∈ kB W → t.1 ≤ 5 ∧ t.2.1 < 4000 ∧ ∀ i, t.2.2 = some i → i < 20) := by
  obtain ⟨hk, h⟩ := h
  rcases h with h | ⟨most, h1, h4, h⟩
  · subst h
    exact ⟨by decide, by decide, by decide, fun n hn => absurd hn (Nat.not_lt_zero n), fun n _ hn => absurd hn (Nat.not_lt_zero n), rfl, fun t ht => by cases ht⟩
  · obtain ⟨hok, hT⟩ := bfs_ok (most := most) hk h1 4000
    have e : bfsR pr most 4000 = W := h.symm
    rw [e] at hok hT
    have hB := hok.2.2.2.2.1
    have hm := hok.1.2
    exact ⟨by omega, by omega, by omega, fun n hn => ⟨far_le hok n hn, hok.2.1 n hn⟩, fun n h0 hn => ⟨(hok.2.2.2.2.2.2.1 n h0 hn).1, (hok.2.2.2.2.2.2.1 n h0 hn).2.2.2, (hok.2.2.2.2.2.2.1 n h0 hn).2.2.1⟩, hok.2.2.2.2.2.1, fun t ht => ⟨(hok.2.2.2.2.2.2.2.2 t ht).1, by have := (hok.2.2.2.2.2.2.2.2 t ht).2.1; omega, (hok.2.2.2.2.2.2.2.2 t ht).2.2⟩⟩
noncomputable def wdF (pr : Pr) (W : Wk) (x : Int32) : Int32 := match rg 0 7 x with
  | none => -1
  | some k => if k = 0 then nI (kM W) else if k = 1 then nI (kT W) else if k = 2 then nI (kB W).length else if k = 3 then nI (ctR (fun n => skF pr (kV W n)) (kM W)) else if k = 4 then nI (ctR (fun n => !ldB pr W n) (kM W)) else if k = 5 then nI (mxR (kF W) (kM W)) else if k = 6 then bI (kS W) else nI (qcR pr (kV W) (kM W))
def bdA (W : Wk) (x y : Int32) : Int32 := if x < 0 ∨ nI (kB W).length ≤ x ∨ nI 200 ≤ x ∨ y < 0 ∨ nI 2 < y then -1 else match (kB W)[x.toNatClampNeg]? with
  | none => -1
  | some t => if y = nI 0 then nI t.1 else if y = nI 1 then nI t.2.1 else amv t.2.2
noncomputable def fdF (pr : Pr) (W : Wk) (x y : Int32) : Int32 := match rg 0 1 x with
  | none => -1
  | some k => if y < 0 then -1 else amv (kthR (if k = 0 then (fun n => skF pr (kV W n)) else (fun n => !ldB pr W n)) y.toNatClampNeg (kM W))
def faF (W : Wk) (x : Int32) : Int32 := if x < 0 ∨ nI (kM W) ≤ x then -1 else nI (kF W x.toNatClampNeg)
def wyF (W : Wk) (x y : Int32) : Int32 := if x < 0 ∨ nI (kM W) ≤ x then -1 else if y < 0 ∨ nI (kF W x.toNatClampNeg) ≤ y then -1 else nI (wyR W y.toNatClampNeg 4000 x.toNatClampNeg)
def goF (W : Wk) (ch : Bool) (x : Int32) : Option Nat := if x < 0 ∨ nI (kM W) ≤ x ∨ ch = true then none else some x.toNatClampNeg
def usF (pr : Pr) (W : Wk) (x : Int32) : Int32 := match plF x with
  | none => -1
  | some a => match pAm pr a with
    | none => -1
    | some _ => bI (kU W a)
theorem cmp_no {x : Int32} {m : Nat} (hm : m < 2 ^ 31) {i : Nat} (hi : i < m) (e : x = nI i) : ¬ (x < 0 ∨ nI m ≤ x) := by
  subst e
  intro q
  rcases q with q | q
  · exact nI_pos (by omega) q
  · rw [nx_le hm (by omega)] at q; omega
theorem mxR_le {f : Nat → Nat} {N : Nat} : ∀ n, (∀ m, m < n → f m ≤ N) → mxR f n ≤ N
  | 0, _ => Nat.zero_le N
  | n + 1, h => by
    have := mxR_le n (fun m hm => h m (by omega))
    have := h n (by omega)
    unfold mxR
    split <;> omega
set_option maxRecDepth 100000 in
set_option maxHeartbeats 4000000 in
theorem c_X11_walked {σ : Sg} {pr : Pr} {W : Wk} (h : WkE σ pr W) (hq : WkQ pr W) (x : Int32) : Sm 77 mX11_walked [.ref 53, .int x] σ (qi fun r σ2 => r = wdF pr W x ∧ σ2 = σ) := by
  refine Sm.of mk_X11_walked (Nat.le_of_ble_eq_true rfl) rfl (fun X hX => ?_)
  obtain ⟨hM4, hB30, hT8, hF, hPa, hF0, hBt⟩ := hq.all
  have hld := h.2.b
  have L3 : ∀ d n, n + d = kM W → Sw 77 mX11_walked X (ZS 77 mX11_walked (qi fun r σ2 => r = nI ((ctR (fun n => skF pr (kV W n))) (kM W)) ∧ σ2 = σ) X) 95 [some (.ref 53), some (.int (nI 3)), some (.int (nI ((ctR (fun n => skF pr (kV W n))) n))), some (.int (nI n))] [] σ := by
    intro d
    induction d with
    | zero =>
      intro n hd
      refine s_iload_n hX dX11_walked_95 rfl ?_
      refine s_aload_n hX dX11_walked_96 rfl ?_
      refine s_getI (x := nI (kM W)) hX dX11_walked_97 fl_X11_183 rfl rfl (by omega) h.1.1.1 ?_
      refine s_icmp_ge_n (tgt := 176) hX dX11_walked_100 (by decide) (by omega) (by omega) (fun q100 => ?_) (fun q100 => ?_)
      · refine s_iload_n hX dX11_walked_176 rfl ?_
        refine s_iret hX dX11_walked_177 rfl rfl ?_
        rw [← show n = kM W by omega]
        exact ⟨rfl, rfl⟩
      · omega
    | succ d ih =>
      intro n hd
      
      refine s_iload_n hX dX11_walked_95 rfl ?_
      refine s_aload_n hX dX11_walked_96 rfl ?_
      refine s_getI (x := nI (kM W)) hX dX11_walked_97 fl_X11_183 rfl rfl (by omega) h.1.1.1 ?_
      refine s_icmp_ge_n (tgt := 176) hX dX11_walked_100 (by decide) (by omega) (by omega) (fun q100 => ?_) (fun q100 => ?_)
      · omega
      · refine s_iload_n hX dX11_walked_103 rfl ?_
        refine s_iconst (v := nI 5) hX dX11_walked_104 (by decide) ?_
        refine s_icmp_ne_n (tgt := 131) hX dX11_walked_105 (by decide) (by omega) (by omega) (fun q105 => ?_) (fun q105 => ?_)
        · refine s_iload_n hX dX11_walked_131 rfl ?_
          refine s_iload_n hX dX11_walked_132 rfl ?_
          refine s_iconst (v := nI 3) hX dX11_walked_133 (by decide) ?_
          refine s_icmp_ne_n (tgt := 154) hX dX11_walked_134 (by decide) (by omega) (by omega) (fun q134 => ?_) (fun q134 => ?_)
          · exact absurd rfl q134
          · refine s_aload_n hX dX11_walked_137 rfl ?_
            refine s_getR hX dX11_walked_138 fl_X11_72 rfl rfl (by omega) ?_
            refine s_iload_n hX dX11_walked_141 rfl ?_
            refine s_zald (x := bI (skF pr (kV W n))) hX dX11_walked_142 rfl (by omega) (by omega) (by decide) (h.1.2.2.2.2.1 n (by omega)) ?_
            refine s_if_eq (tgt := 150) hX dX11_walked_143 (by decide) (fun q143 => ?_) (fun q143 => ?_)
            · refine s_iconst (v := nI 0) hX dX11_walked_150 (by decide) ?_
              refine s_goto (tgt := 168) hX dX11_walked_151 (by decide) ?_
              refine s_iadd_n hX dX11_walked_168 ?_
              refine s_istore_n hX dX11_walked_169 (Nat.le_of_ble_eq_true rfl) rfl st_4_2 ?_
              refine s_iinc_n (c := 1) hX dX11_walked_170 rfl (by decide) rfl st_4_3 ?_
              refine s_goto (tgt := 95) hX dX11_walked_173 (by decide) ?_
              have hx := ih (n + 1) (by omega)
              rw [show ctR (fun n => skF pr (kV W n)) (n + 1) = ctR (fun n => skF pr (kV W n)) n + (skF pr (kV W n)).toNat from rfl] at hx
              first
                | (rw [bI_0.mp q143] at hx; exact hx)
                | (rw [show skF pr (kV W n) = true from by cases hh : skF pr (kV W n) with
                    | true => rfl
                    | false => exact absurd (bI_0.mpr hh) q143] at hx; exact hx)
            · refine s_iconst (v := nI 1) hX dX11_walked_146 (by decide) ?_
              refine s_goto (tgt := 168) hX dX11_walked_147 (by decide) ?_
              refine s_iadd_n hX dX11_walked_168 ?_
              refine s_istore_n hX dX11_walked_169 (Nat.le_of_ble_eq_true rfl) rfl st_4_2 ?_
              refine s_iinc_n (c := 1) hX dX11_walked_170 rfl (by decide) rfl st_4_3 ?_
              refine s_goto (tgt := 95) hX dX11_walked_173 (by decide) ?_
              have hx := ih (n + 1) (by omega)
              rw [show ctR (fun n => skF pr (kV W n)) (n + 1) = ctR (fun n => skF pr (kV W n)) n + (skF pr (kV W n)).toNat from rfl] at hx
              first
                | (rw [bI_0.mp q143] at hx; exact hx)
                | (rw [show skF pr (kV W n) = true from by cases hh : skF pr (kV W n) with
                    | true => rfl
                    | false => exact absurd (bI_0.mpr hh) q143] at hx; exact hx)
        · exact absurd q105 (by decide)
  have L4 : ∀ d n, n + d = kM W → Sw 77 mX11_walked X (ZS 77 mX11_walked (qi fun r σ2 => r = nI ((ctR (fun n => !ldB pr W n)) (kM W)) ∧ σ2 = σ) X) 95 [some (.ref 53), some (.int (nI 4)), some (.int (nI ((ctR (fun n => !ldB pr W n)) n))), some (.int (nI n))] [] σ := by
    intro d
    induction d with
    | zero =>
      intro n hd
      refine s_iload_n hX dX11_walked_95 rfl ?_
      refine s_aload_n hX dX11_walked_96 rfl ?_
      refine s_getI (x := nI (kM W)) hX dX11_walked_97 fl_X11_183 rfl rfl (by omega) h.1.1.1 ?_
      refine s_icmp_ge_n (tgt := 176) hX dX11_walked_100 (by decide) (by omega) (by omega) (fun q100 => ?_) (fun q100 => ?_)
      · refine s_iload_n hX dX11_walked_176 rfl ?_
        refine s_iret hX dX11_walked_177 rfl rfl ?_
        rw [← show n = kM W by omega]
        exact ⟨rfl, rfl⟩
      · omega
    | succ d ih =>
      intro n hd
      
      refine s_iload_n hX dX11_walked_95 rfl ?_
      refine s_aload_n hX dX11_walked_96 rfl ?_
      refine s_getI (x := nI (kM W)) hX dX11_walked_97 fl_X11_183 rfl rfl (by omega) h.1.1.1 ?_
      refine s_icmp_ge_n (tgt := 176) hX dX11_walked_100 (by decide) (by omega) (by omega) (fun q100 => ?_) (fun q100 => ?_)
      · omega
      · refine s_iload_n hX dX11_walked_103 rfl ?_
        refine s_iconst (v := nI 5) hX dX11_walked_104 (by decide) ?_
        refine s_icmp_ne_n (tgt := 131) hX dX11_walked_105 (by decide) (by omega) (by omega) (fun q105 => ?_) (fun q105 => ?_)
        · refine s_iload_n hX dX11_walked_131 rfl ?_
          refine s_iload_n hX dX11_walked_132 rfl ?_
          refine s_iconst (v := nI 3) hX dX11_walked_133 (by decide) ?_
          refine s_icmp_ne_n (tgt := 154) hX dX11_walked_134 (by decide) (by omega) (by omega) (fun q134 => ?_) (fun q134 => ?_)
          · refine s_aload_n hX dX11_walked_154 rfl ?_
            refine s_getR hX dX11_walked_155 fl_X11_75 rfl rfl (by omega) ?_
            refine s_iload_n hX dX11_walked_158 rfl ?_
            refine s_zald (x := bI (ldB pr W n)) hX dX11_walked_159 rfl (by omega) (by omega) (by decide) (hld n (by omega)) ?_
            refine s_if_eq (tgt := 167) hX dX11_walked_160 (by decide) (fun q160 => ?_) (fun q160 => ?_)
            · refine s_iconst (v := nI 1) hX dX11_walked_167 (by decide) ?_
              refine s_iadd_n hX dX11_walked_168 ?_
              refine s_istore_n hX dX11_walked_169 (Nat.le_of_ble_eq_true rfl) rfl st_4_2 ?_
              refine s_iinc_n (c := 1) hX dX11_walked_170 rfl (by decide) rfl st_4_3 ?_
              refine s_goto (tgt := 95) hX dX11_walked_173 (by decide) ?_
              have hx := ih (n + 1) (by omega)
              rw [show ctR (fun n => !ldB pr W n) (n + 1) = ctR (fun n => !ldB pr W n) n + (!ldB pr W n).toNat from rfl] at hx
              first
                | (rw [bI_0.mp q160] at hx; exact hx)
                | (rw [show ldB pr W n = true from by cases hh : ldB pr W n with
                    | true => rfl
                    | false => exact absurd (bI_0.mpr hh) q160] at hx; exact hx)
            · refine s_iconst (v := nI 0) hX dX11_walked_163 (by decide) ?_
              refine s_goto (tgt := 168) hX dX11_walked_164 (by decide) ?_
              refine s_iadd_n hX dX11_walked_168 ?_
              refine s_istore_n hX dX11_walked_169 (Nat.le_of_ble_eq_true rfl) rfl st_4_2 ?_
              refine s_iinc_n (c := 1) hX dX11_walked_170 rfl (by decide) rfl st_4_3 ?_
              refine s_goto (tgt := 95) hX dX11_walked_173 (by decide) ?_
              have hx := ih (n + 1) (by omega)
              rw [show ctR (fun n => !ldB pr W n) (n + 1) = ctR (fun n => !ldB pr W n) n + (!ldB pr W n).toNat from rfl] at hx
              first
                | (rw [bI_0.mp q160] at hx; exact hx)
                | (rw [show ldB pr W n = true from by cases hh : ldB pr W n with
                    | true => rfl
                    | false => exact absurd (bI_0.mpr hh) q160] at hx; exact hx)
          · exact absurd q134 (by decide)
        · exact absurd q105 (by decide)
  have L5 : ∀ d n, n + d = kM W → Sw 77 mX11_walked X (ZS 77 mX11_walked (qi fun r σ2 => r = nI ((mxR (kF W)) (kM W)) ∧ σ2 = σ) X) 95 [some (.ref 53), some (.int (nI 5)), some (.int (nI ((mxR (kF W)) n))), some (.int (nI n))] [] σ := by
    intro d
    induction d with
    | zero =>
      intro n hd
      refine s_iload_n hX dX11_walked_95 rfl ?_
      refine s_aload_n hX dX11_walked_96 rfl ?_
      refine s_getI (x := nI (kM W)) hX dX11_walked_97 fl_X11_183 rfl rfl (by omega) h.1.1.1 ?_
      refine s_icmp_ge_n (tgt := 176) hX dX11_walked_100 (by decide) (by omega) (by omega) (fun q100 => ?_) (fun q100 => ?_)
      · refine s_iload_n hX dX11_walked_176 rfl ?_
        refine s_iret hX dX11_walked_177 rfl rfl ?_
        rw [← show n = kM W by omega]
        exact ⟨rfl, rfl⟩
      · omega
    | succ d ih =>
      intro n hd
      have gF := (h.1.2.1 n (by omega)).2.2
      have hFn := (hF n (by omega)).1
      have hmx : mxR (kF W) n ≤ 4000 := mxR_le n (fun m hm => by have := (hF m (by omega)).1; omega)
      refine s_iload_n hX dX11_walked_95 rfl ?_
      refine s_aload_n hX dX11_walked_96 rfl ?_
      refine s_getI (x := nI (kM W)) hX dX11_walked_97 fl_X11_183 rfl rfl (by omega) h.1.1.1 ?_
      refine s_icmp_ge_n (tgt := 176) hX dX11_walked_100 (by decide) (by omega) (by omega) (fun q100 => ?_) (fun q100 => ?_)
      · omega
      · refine s_iload_n hX dX11_walked_103 rfl ?_
        refine s_iconst (v := nI 5) hX dX11_walked_104 (by decide) ?_
        refine s_icmp_ne_n (tgt := 131) hX dX11_walked_105 (by decide) (by omega) (by omega) (fun q105 => ?_) (fun q105 => ?_)
        · exact absurd rfl q105
        · refine s_aload_n hX dX11_walked_108 rfl ?_
          refine s_getR hX dX11_walked_109 fl_X11_65 rfl rfl (by omega) ?_
          refine s_iload_n hX dX11_walked_112 rfl ?_
          refine s_iald (x := nI (kF W n)) hX dX11_walked_113 rfl (by omega) (by omega) (by decide) gF ?_
          refine s_iload_n hX dX11_walked_114 rfl ?_
          refine s_icmp_le_n (tgt := 127) hX dX11_walked_115 (by decide) (by omega) (by omega) (fun q115 => ?_) (fun q115 => ?_)
          · refine s_iload_n hX dX11_walked_127 rfl ?_
            refine s_goto (tgt := 169) hX dX11_walked_128 (by decide) ?_
            refine s_istore_n hX dX11_walked_169 (Nat.le_of_ble_eq_true rfl) rfl st_4_2 ?_
            refine s_iinc_n (c := 1) hX dX11_walked_170 rfl (by decide) rfl st_4_3 ?_
            refine s_goto (tgt := 95) hX dX11_walked_173 (by decide) ?_
            have hx := ih (n + 1) (by omega)
            rw [show mxR (kF W) (n + 1) = if mxR (kF W) n < kF W n then kF W n else mxR (kF W) n from rfl] at hx
            first
              | (rw [if_neg (by omega)] at hx; exact hx)
              | (rw [if_pos (by omega)] at hx; exact hx)
          · refine s_aload_n hX dX11_walked_118 rfl ?_
            refine s_getR hX dX11_walked_119 fl_X11_65 rfl rfl (by omega) ?_
            refine s_iload_n hX dX11_walked_122 rfl ?_
            refine s_iald (x := nI (kF W n)) hX dX11_walked_123 rfl (by omega) (by omega) (by decide) gF ?_
            refine s_goto (tgt := 169) hX dX11_walked_124 (by decide) ?_
            refine s_istore_n hX dX11_walked_169 (Nat.le_of_ble_eq_true rfl) rfl st_4_2 ?_
            refine s_iinc_n (c := 1) hX dX11_walked_170 rfl (by decide) rfl st_4_3 ?_
            refine s_goto (tgt := 95) hX dX11_walked_173 (by decide) ?_
            have hx := ih (n + 1) (by omega)
            rw [show mxR (kF W) (n + 1) = if mxR (kF W) n < kF W n then kF W n else mxR (kF W) n from rfl] at hx
            first
              | (rw [if_neg (by omega)] at hx; exact hx)
              | (rw [if_pos (by omega)] at hx; exact hx)
  refine s_iload_n hX dX11_walked_0 rfl ?_
  refine s_if_lt (tgt := 10) hX dX11_walked_1 (by decide) (fun q1 => ?_) (fun q1 => ?_)
  · refine s_iconst (v := -1) hX dX11_walked_10 (by decide) ?_
    refine s_iret hX dX11_walked_11 rfl rfl ?_
    exact ⟨by unfold wdF; rw [rg_no (by first | exact Or.inl q1 | exact Or.inr (Int32.not_le.mp q7))], rfl⟩
  · refine s_iload_n hX dX11_walked_4 rfl ?_
    refine s_bipush (v := nI 7) hX dX11_walked_5 (by decide) ?_
    refine s_icmp_le (tgt := 12) hX dX11_walked_7 (by decide) (fun q7 => ?_) (fun q7 => ?_)
    · obtain ⟨k, -, hk7, rfl, hrg⟩ := rg_of (lo := 0) (hi := 7) (by decide) (by decide) q1 (Int32.not_lt.mpr q7)
      unfold wdF
      rw [hrg]
      refine s_iconst (v := nI 0) hX dX11_walked_12 (by decide) ?_
      refine s_istore_n hX dX11_walked_13 (Nat.le_of_ble_eq_true rfl) rfl st_4_2 ?_
      refine s_iload_n hX dX11_walked_14 rfl ?_
      by_cases k15_0 : k = 0
      · refine s_tableIn (off := 45) (tgt := 60) hX dX11_walked_15 (by rw [k15_0]; decide) (by rw [k15_0]; decide) (by rw [k15_0]; decide) (by decide) ?_
        refine s_aload_n hX dX11_walked_60 rfl ?_
        refine s_getI (x := nI (kM W)) hX dX11_walked_61 fl_X11_183 rfl rfl (by omega) h.1.1.1 ?_
        refine s_iret hX dX11_walked_64 rfl rfl ?_
        subst k15_0
        exact ⟨rfl, rfl⟩
      by_cases k15_1 : k = 1
      · refine s_tableIn (off := 50) (tgt := 65) hX dX11_walked_15 (by rw [k15_1]; decide) (by rw [k15_1]; decide) (by rw [k15_1]; decide) (by decide) ?_
        refine s_aload_n hX dX11_walked_65 rfl ?_
        refine s_getI (x := nI (kT W)) hX dX11_walked_66 fl_X11_196 rfl rfl (by omega) h.1.1.2.1 ?_
        refine s_iret hX dX11_walked_69 rfl rfl ?_
        subst k15_1
        exact ⟨rfl, rfl⟩
      by_cases k15_2 : k = 2
      · refine s_tableIn (off := 55) (tgt := 70) hX dX11_walked_15 (by rw [k15_2]; decide) (by rw [k15_2]; decide) (by rw [k15_2]; decide) (by decide) ?_
        refine s_aload_n hX dX11_walked_70 rfl ?_
        refine s_getI (x := nI ((kB W).length)) hX dX11_walked_71 fl_X11_186 rfl rfl (by omega) h.1.2.2.2.2.2.2.1 ?_
        refine s_iret hX dX11_walked_74 rfl rfl ?_
        subst k15_2
        exact ⟨rfl, rfl⟩
      by_cases k15_6 : k = 6
      · refine s_tableIn (off := 60) (tgt := 75) hX dX11_walked_15 (by rw [k15_6]; decide) (by rw [k15_6]; decide) (by rw [k15_6]; decide) (by decide) ?_
        refine s_aload_n hX dX11_walked_75 rfl ?_
        refine s_getI (x := bI (kS W)) hX dX11_walked_76 fl_X11_199 rfl rfl (by omega) h.1.1.2.2.2 ?_
        refine s_if_eq (tgt := 86) hX dX11_walked_79 (by decide) (fun q79 => ?_) (fun q79 => ?_)
        · refine s_iconst (v := nI 0) hX dX11_walked_86 (by decide) ?_
          refine s_iret hX dX11_walked_87 rfl rfl ?_
          subst k15_6
          refine ⟨?_, rfl⟩
          show _ = bI (kS W)
          first
            | (rw [bI_0.mp q79]; rfl)
            | (rw [show kS W = true from by cases hh : kS W with
                | true => rfl
                | false => exact absurd (bI_0.mpr hh) q79]; rfl)
        · refine s_iconst (v := nI 1) hX dX11_walked_82 (by decide) ?_
          refine s_goto (tgt := 87) hX dX11_walked_83 (by decide) ?_
          refine s_iret hX dX11_walked_87 rfl rfl ?_
          subst k15_6
          refine ⟨?_, rfl⟩
          show _ = bI (kS W)
          first
            | (rw [bI_0.mp q79]; rfl)
            | (rw [show kS W = true from by cases hh : kS W with
                | true => rfl
                | false => exact absurd (bI_0.mpr hh) q79]; rfl)
      by_cases k15_7 : k = 7
      · refine s_tableIn (off := 73) (tgt := 88) hX dX11_walked_15 (by rw [k15_7]; decide) (by rw [k15_7]; decide) (by rw [k15_7]; decide) (by decide) ?_
        refine s_aload_n hX dX11_walked_88 rfl ?_
        refine s_getI (x := nI (qcR pr (kV W) (kM W))) hX dX11_walked_89 fl_X11_189 rfl rfl (by omega) h.1.1.2.2.1 ?_
        refine s_iret hX dX11_walked_92 rfl rfl ?_
        subst k15_7
        exact ⟨rfl, rfl⟩
      by_cases k15_3 : k = 3
      · refine s_tableIn (off := 78) (tgt := 93) hX dX11_walked_15 (by rw [k15_3]; decide) (by rw [k15_3]; decide) (by rw [k15_3]; decide) (by decide) ?_
        refine s_iconst (v := nI 0) hX dX11_walked_93 (by decide) ?_
        refine s_istore_n hX dX11_walked_94 (Nat.le_of_ble_eq_true rfl) rfl st_4_3 ?_
        first
          | (subst k15_3; exact L3 (kM W) 0 (by omega))
          | (subst k15_4; exact L4 (kM W) 0 (by omega))
          | (subst k15_5; exact L5 (kM W) 0 (by omega))
      by_cases k15_4 : k = 4
      · refine s_tableIn (off := 78) (tgt := 93) hX dX11_walked_15 (by rw [k15_4]; decide) (by rw [k15_4]; decide) (by rw [k15_4]; decide) (by decide) ?_
        refine s_iconst (v := nI 0) hX dX11_walked_93 (by decide) ?_
        refine s_istore_n hX dX11_walked_94 (Nat.le_of_ble_eq_true rfl) rfl st_4_3 ?_
        first
          | (subst k15_3; exact L3 (kM W) 0 (by omega))
          | (subst k15_4; exact L4 (kM W) 0 (by omega))
          | (subst k15_5; exact L5 (kM W) 0 (by omega))
      by_cases k15_5 : k = 5
      · refine s_tableIn (off := 78) (tgt := 93) hX dX11_walked_15 (by rw [k15_5]; decide) (by rw [k15_5]; decide) (by rw [k15_5]; decide) (by decide) ?_
        refine s_iconst (v := nI 0) hX dX11_walked_93 (by decide) ?_
        refine s_istore_n hX dX11_walked_94 (Nat.le_of_ble_eq_true rfl) rfl st_4_3 ?_
        first
          | (subst k15_3; exact L3 (kM W) 0 (by omega))
          | (subst k15_4; exact L4 (kM W) 0 (by omega))
          | (subst k15_5; exact L5 (kM W) 0 (by omega))
      omega
    · refine s_iconst (v := -1) hX dX11_walked_10 (by decide) ?_
      refine s_iret hX dX11_walked_11 rfl rfl ?_
      exact ⟨by unfold wdF; rw [rg_no (by first | exact Or.inl q1 | exact Or.inr (Int32.not_le.mp q7))], rfl⟩
set_option maxRecDepth 100000 in
set_option maxHeartbeats 4000000 in
theorem c_X11_bad {σ : Sg} {pr : Pr} {W : Wk} (h : WkE σ pr W) (hq : WkQ pr W) (x y : Int32) : Sm 77 mX11_bad [.ref 53, .int x, .int y] σ (qi fun r σ2 => r = bdA W x y ∧ σ2 = σ) := by
  refine Sm.of mk_X11_bad (Nat.le_of_ble_eq_true rfl) rfl (fun X hX => ?_)
  obtain ⟨hM4, hB30, hT8, hF, hPa, hF0, hBt⟩ := hq.all
  refine s_iload_n hX dX11_bad_0 rfl ?_
  refine s_if_lt (tgt := 28) hX dX11_bad_1 (by decide) (fun q1 => ?_) (fun q1 => ?_)
  · refine s_iconst (v := -1) hX dX11_bad_28 (by decide) ?_
    refine s_iret hX dX11_bad_29 rfl rfl ?_
    exact ⟨by unfold bdA; rw [if_pos (by first | exact Or.inl q1 | exact Or.inr (Or.inl q9) | exact Or.inr (Or.inr (Or.inl q16)) | exact Or.inr (Or.inr (Or.inr (Or.inl q20))) | exact Or.inr (Or.inr (Or.inr (Or.inr (Int32.not_le.mp q25)))))], rfl⟩
  · refine s_iload_n hX dX11_bad_4 rfl ?_
    refine s_aload_n hX dX11_bad_5 rfl ?_
    refine s_getI (x := nI ((kB W).length)) hX dX11_bad_6 fl_X11_186 rfl rfl (by omega) h.1.2.2.2.2.2.2.1 ?_
    refine s_icmp_ge (tgt := 28) hX dX11_bad_9 (by decide) (fun q9 => ?_) (fun q9 => ?_)
    · refine s_iconst (v := -1) hX dX11_bad_28 (by decide) ?_
      refine s_iret hX dX11_bad_29 rfl rfl ?_
      exact ⟨by unfold bdA; rw [if_pos (by first | exact Or.inl q1 | exact Or.inr (Or.inl q9) | exact Or.inr (Or.inr (Or.inl q16)) | exact Or.inr (Or.inr (Or.inr (Or.inl q20))) | exact Or.inr (Or.inr (Or.inr (Or.inr (Int32.not_le.mp q25)))))], rfl⟩
    · refine s_iload_n hX dX11_bad_12 rfl ?_
      refine s_sipush (v := nI 200) hX dX11_bad_13 (by decide) ?_
      refine s_icmp_ge (tgt := 28) hX dX11_bad_16 (by decide) (fun q16 => ?_) (fun q16 => ?_)
      · refine s_iconst (v := -1) hX dX11_bad_28 (by decide) ?_
        refine s_iret hX dX11_bad_29 rfl rfl ?_
        exact ⟨by unfold bdA; rw [if_pos (by first | exact Or.inl q1 | exact Or.inr (Or.inl q9) | exact Or.inr (Or.inr (Or.inl q16)) | exact Or.inr (Or.inr (Or.inr (Or.inl q20))) | exact Or.inr (Or.inr (Or.inr (Or.inr (Int32.not_le.mp q25)))))], rfl⟩
      · refine s_iload_n hX dX11_bad_19 rfl ?_
        refine s_if_lt (tgt := 28) hX dX11_bad_20 (by decide) (fun q20 => ?_) (fun q20 => ?_)
        · refine s_iconst (v := -1) hX dX11_bad_28 (by decide) ?_
          refine s_iret hX dX11_bad_29 rfl rfl ?_
          exact ⟨by unfold bdA; rw [if_pos (by first | exact Or.inl q1 | exact Or.inr (Or.inl q9) | exact Or.inr (Or.inr (Or.inl q16)) | exact Or.inr (Or.inr (Or.inr (Or.inl q20))) | exact Or.inr (Or.inr (Or.inr (Or.inr (Int32.not_le.mp q25)))))], rfl⟩
        · refine s_iload_n hX dX11_bad_23 rfl ?_
          refine s_iconst (v := nI 2) hX dX11_bad_24 (by decide) ?_
          refine s_icmp_le (tgt := 30) hX dX11_bad_25 (by decide) (fun q25 => ?_) (fun q25 => ?_)
          · obtain ⟨i, hi, rfl⟩ := ix_of (m := (kB W).length) (by omega) q1 q9
            obtain ⟨k, hk2, rfl⟩ := ixl_of (m := 2) (by decide) q20 (Int32.not_lt.mpr q25)
            have hi2 : i < 200 := by
              rw [nx_le (by decide) (by omega)] at q16
              omega
            obtain ⟨t, ht⟩ : ∃ t, (kB W)[i]? = some t := ⟨_, List.getElem?_eq_getElem hi⟩
            have hE : bdA W (nI i) (nI k) = if k = 0 then nI t.1 else if k = 1 then nI t.2.1 else amv t.2.2 := by
              unfold bdA
              rw [if_neg (by
                intro q; rcases q with q | q | q | q | q
                · exact nI_pos (by omega) q
                · exact q9 q
                · exact q16 q
                · exact nI_pos (by omega) q
                · exact absurd q25 (Int32.not_le.mpr q)), nI_clamp (by omega), ht]
              simp only [nx_ne (show k < 2 ^ 31 by omega) (show 0 < 2 ^ 31 by decide), nx_ne (show k < 2 ^ 31 by omega) (show 1 < 2 ^ 31 by decide)]
            obtain ⟨t74, t75, t76⟩ := h.1.2.2.2.2.2.2.2 i t ht hi2
            refine s_iload_n hX dX11_bad_30 rfl ?_
            refine s_if_ne_n (tgt := 43) hX dX11_bad_31 (by decide) (by omega) (fun q31 => ?_) (fun q31 => ?_)
            · refine s_iload_n hX dX11_bad_43 rfl ?_
              refine s_iconst (v := nI 1) hX dX11_bad_44 (by decide) ?_
              refine s_icmp_ne_n (tgt := 57) hX dX11_bad_45 (by decide) (by omega) (by omega) (fun q45 => ?_) (fun q45 => ?_)
              · refine s_aload_n hX dX11_bad_57 rfl ?_
                refine s_getR hX dX11_bad_58 fl_X11_84 rfl rfl (by omega) ?_
                refine s_iload_n hX dX11_bad_61 rfl ?_
                refine s_iald (x := (amv t.2.2)) hX dX11_bad_62 rfl (by omega) (by omega) (by decide) t76 ?_
                refine s_iret hX dX11_bad_63 rfl rfl ?_
                refine ⟨?_, rfl⟩
                rw [hE]
                first
                  | rw [if_pos q31]
                  | rw [if_neg q31, if_pos q45]
                  | rw [if_neg q31, if_neg q45]
              · refine s_aload_n hX dX11_bad_48 rfl ?_
                refine s_getR hX dX11_bad_49 fl_X11_81 rfl rfl (by omega) ?_
                refine s_iload_n hX dX11_bad_52 rfl ?_
                refine s_iald (x := nI (t.2.1)) hX dX11_bad_53 rfl (by omega) (by omega) (by decide) t75 ?_
                refine s_goto (tgt := 63) hX dX11_bad_54 (by decide) ?_
                refine s_iret hX dX11_bad_63 rfl rfl ?_
                refine ⟨?_, rfl⟩
                rw [hE]
                first
                  | rw [if_pos q31]
                  | rw [if_neg q31, if_pos q45]
                  | rw [if_neg q31, if_neg q45]
            · refine s_aload_n hX dX11_bad_34 rfl ?_
              refine s_getR hX dX11_bad_35 fl_X11_78 rfl rfl (by omega) ?_
              refine s_iload_n hX dX11_bad_38 rfl ?_
              refine s_iald (x := nI (t.1)) hX dX11_bad_39 rfl (by omega) (by omega) (by decide) t74 ?_
              refine s_goto (tgt := 63) hX dX11_bad_40 (by decide) ?_
              refine s_iret hX dX11_bad_63 rfl rfl ?_
              refine ⟨?_, rfl⟩
              rw [hE]
              first
                | rw [if_pos q31]
                | rw [if_neg q31, if_pos q45]
                | rw [if_neg q31, if_neg q45]
          · refine s_iconst (v := -1) hX dX11_bad_28 (by decide) ?_
            refine s_iret hX dX11_bad_29 rfl rfl ?_
            exact ⟨by unfold bdA; rw [if_pos (by first | exact Or.inl q1 | exact Or.inr (Or.inl q9) | exact Or.inr (Or.inr (Or.inl q16)) | exact Or.inr (Or.inr (Or.inr (Or.inl q20))) | exact Or.inr (Or.inr (Or.inr (Or.inr (Int32.not_le.mp q25)))))], rfl⟩
set_option maxRecDepth 100000 in
set_option maxHeartbeats 4000000 in
theorem c_X11_found {σ : Sg} {pr : Pr} {W : Wk} (h : WkE σ pr W) (hq : WkQ pr W) (x y : Int32) : Sm 77 mX11_found [.ref 53, .int x, .int y] σ (qi fun r σ2 => r = fdF pr W x y ∧ σ2 = σ) := by
  refine Sm.of mk_X11_found (Nat.le_of_ble_eq_true rfl) rfl (fun X hX => ?_)
  obtain ⟨hM4, hB30, hT8, hF, hPa, hF0, hBt⟩ := hq.all
  have hld := h.2.b
  obtain ⟨P0, hP0⟩ : ∃ P : Nat → Bool, P = (fun n => skF pr (kV W n)) := ⟨_, rfl⟩
  have L0 : ∀ i, i < 2 ^ 31 → ∀ d n, n + d = kM W → kthR (P0) i n = none → ctR (P0) n ≤ i → Sw 77 mX11_found X (ZS 77 mX11_found (qi fun r σ2 => r = amv (kthR (P0) i (kM W)) ∧ σ2 = σ) X) 20 [some (.ref 53), some (.int (nI 0)), some (.int (nI i)), some (.int (nI (i - ctR (P0) n))), some (.int (nI n))] [] σ := by
    intro i hi31 d
    induction d with
    | zero =>
      intro n hd hno hle
      refine s_iload hX dX11_found_20 rfl ?_
      refine s_aload_n hX dX11_found_22 rfl ?_
      refine s_getI (x := nI (kM W)) hX dX11_found_23 fl_X11_183 rfl rfl (by omega) h.1.1.1 ?_
      refine s_icmp_ge_n (tgt := 72) hX dX11_found_26 (by decide) (by omega) (by omega) (fun q26 => ?_) (fun q26 => ?_)
      · refine s_iconst (v := -1) hX dX11_found_72 (by decide) ?_
        refine s_iret hX dX11_found_73 rfl rfl ?_
        rw [← show n = kM W by omega, hno]
        exact ⟨rfl, rfl⟩
      · omega
    | succ d ih =>
      intro n hd hno hle
      have hs : kthR P0 i (n + 1) = (if P0 n = true ∧ ctR P0 n = i then some n else none) := by
        show (match kthR P0 i n with
          | some k => some k
          | none => if P0 n = true ∧ ctR P0 n = i then some n else none) = _
        rw [hno]
      have hc : ctR P0 (n + 1) = ctR P0 n + (P0 n).toNat := rfl
      have kst : ∀ e, n + 1 + e = kM W → kthR P0 i (n + 1) = some n → kthR P0 i (kM W) = some n := by
        have key : ∀ e, kthR P0 i (n + 1) = some n → kthR P0 i (n + 1 + e) = some n := by
          intro e h0
          induction e with
          | zero => exact h0
          | succ e ihe =>
            show (match kthR P0 i (n + 1 + e) with
              | some k => some k
              | none => _) = _
            rw [ihe]
        intro e he h0
        rw [← he]
        exact key e h0
      have YES : P0 n = true → Sw 77 mX11_found X (ZS 77 mX11_found (qi fun r σ2 => r = amv (kthR P0 i (kM W)) ∧ σ2 = σ) X) 56 [some (.ref 53), some (.int (nI 0)), some (.int (nI i)), some (.int (nI (i - ctR P0 n))), some (.int (nI n))] [] σ := by
        intro hy
        refine s_iload_n hX dX11_found_56 rfl ?_
        refine s_if_ne_n (tgt := 63) hX dX11_found_57 (by decide) (by omega) (fun q57 => ?_) (fun q57 => ?_)
        · refine s_idec_n hX dX11_found_63 rfl (by omega) rfl st_5_3 ?_
          refine s_iinc_n (c := 1) hX dX11_found_66 rfl (by decide) rfl st_5_4 ?_
          refine s_goto (tgt := 20) hX dX11_found_69 (by decide) ?_
          have hx := ih (n + 1) (by omega) (by rw [hs, if_neg (fun q => q57 (by omega))]) (by rw [hc, hy]; show _ + 1 ≤ i; omega)
          rw [hc, hy, show i - (ctR P0 n + true.toNat) = i - ctR P0 n - 1 by show i - (ctR P0 n + 1) = _; omega] at hx
          exact hx
        · refine s_iload hX dX11_found_60 rfl ?_
          refine s_iret hX dX11_found_62 rfl rfl ?_
          rw [kst d (by omega) (by rw [hs, if_pos ⟨hy, by omega⟩])]
          exact ⟨rfl, rfl⟩
      refine s_iload hX dX11_found_20 rfl ?_
      refine s_aload_n hX dX11_found_22 rfl ?_
      refine s_getI (x := nI (kM W)) hX dX11_found_23 fl_X11_183 rfl rfl (by omega) h.1.1.1 ?_
      refine s_icmp_ge_n (tgt := 72) hX dX11_found_26 (by decide) (by omega) (by omega) (fun q26 => ?_) (fun q26 => ?_)
      · omega
      · refine s_iload_n hX dX11_found_29 rfl ?_
        refine s_if_ne_n (tgt := 46) hX dX11_found_30 (by decide) (by omega) (fun q30 => ?_) (fun q30 => ?_)
        · exact absurd rfl q30
        · refine s_aload_n hX dX11_found_33 rfl ?_
          refine s_getR hX dX11_found_34 fl_X11_72 rfl rfl (by omega) ?_
          refine s_iload hX dX11_found_37 rfl ?_
          refine s_zald (x := bI (skF pr (kV W n))) hX dX11_found_39 rfl (by omega) (by omega) (by decide) (h.1.2.2.2.2.1 n (by omega)) ?_
          refine s_if_eq (tgt := 66) hX dX11_found_40 (by decide) (fun q40 => ?_) (fun q40 => ?_)
          · refine s_iinc_n (c := 1) hX dX11_found_66 rfl (by decide) rfl st_5_4 ?_
            refine s_goto (tgt := 20) hX dX11_found_69 (by decide) ?_
            have hnp : P0 n = false := by rw [hP0]; exact bI_0.mp q40
            have hx := ih (n + 1) (by omega) (by rw [hs, if_neg (fun q => by rw [hnp] at q; exact absurd q.1 (by decide))]) (by rw [hc, hnp]; exact hle)
            rw [hc, hnp, show ctR P0 n + false.toNat = ctR P0 n from rfl] at hx
            exact hx
          · refine s_goto (tgt := 56) hX dX11_found_43 (by decide) ?_
            exact YES (by
              rw [hP0]
              cases hh : skF pr (kV W n) with
              | true => exact hh
              | false => exact absurd (bI_0.mpr hh) q40)
  obtain ⟨P1, hP1⟩ : ∃ P : Nat → Bool, P = (fun n => !ldB pr W n) := ⟨_, rfl⟩
  have L1 : ∀ i, i < 2 ^ 31 → ∀ d n, n + d = kM W → kthR (P1) i n = none → ctR (P1) n ≤ i → Sw 77 mX11_found X (ZS 77 mX11_found (qi fun r σ2 => r = amv (kthR (P1) i (kM W)) ∧ σ2 = σ) X) 20 [some (.ref 53), some (.int (nI 1)), some (.int (nI i)), some (.int (nI (i - ctR (P1) n))), some (.int (nI n))] [] σ := by
    intro i hi31 d
    induction d with
    | zero =>
      intro n hd hno hle
      refine s_iload hX dX11_found_20 rfl ?_
      refine s_aload_n hX dX11_found_22 rfl ?_
      refine s_getI (x := nI (kM W)) hX dX11_found_23 fl_X11_183 rfl rfl (by omega) h.1.1.1 ?_
      refine s_icmp_ge_n (tgt := 72) hX dX11_found_26 (by decide) (by omega) (by omega) (fun q26 => ?_) (fun q26 => ?_)
      · refine s_iconst (v := -1) hX dX11_found_72 (by decide) ?_
        refine s_iret hX dX11_found_73 rfl rfl ?_
        rw [← show n = kM W by omega, hno]
        exact ⟨rfl, rfl⟩
      · omega
    | succ d ih =>
      intro n hd hno hle
      have hs : kthR P1 i (n + 1) = (if P1 n = true ∧ ctR P1 n = i then some n else none) := by
        show (match kthR P1 i n with
          | some k => some k
          | none => if P1 n = true ∧ ctR P1 n = i then some n else none) = _
        rw [hno]
      have hc : ctR P1 (n + 1) = ctR P1 n + (P1 n).toNat := rfl
      have kst : ∀ e, n + 1 + e = kM W → kthR P1 i (n + 1) = some n → kthR P1 i (kM W) = some n := by
        have key : ∀ e, kthR P1 i (n + 1) = some n → kthR P1 i (n + 1 + e) = some n := by
          intro e h0
          induction e with
          | zero => exact h0
          | succ e ihe =>
            show (match kthR P1 i (n + 1 + e) with
              | some k => some k
              | none => _) = _
            rw [ihe]
        intro e he h0
        rw [← he]
        exact key e h0
      have YES : P1 n = true → Sw 77 mX11_found X (ZS 77 mX11_found (qi fun r σ2 => r = amv (kthR P1 i (kM W)) ∧ σ2 = σ) X) 56 [some (.ref 53), some (.int (nI 1)), some (.int (nI i)), some (.int (nI (i - ctR P1 n))), some (.int (nI n))] [] σ := by
        intro hy
        refine s_iload_n hX dX11_found_56 rfl ?_
        refine s_if_ne_n (tgt := 63) hX dX11_found_57 (by decide) (by omega) (fun q57 => ?_) (fun q57 => ?_)
        · refine s_idec_n hX dX11_found_63 rfl (by omega) rfl st_5_3 ?_
          refine s_iinc_n (c := 1) hX dX11_found_66 rfl (by decide) rfl st_5_4 ?_
          refine s_goto (tgt := 20) hX dX11_found_69 (by decide) ?_
          have hx := ih (n + 1) (by omega) (by rw [hs, if_neg (fun q => q57 (by omega))]) (by rw [hc, hy]; show _ + 1 ≤ i; omega)
          rw [hc, hy, show i - (ctR P1 n + true.toNat) = i - ctR P1 n - 1 by show i - (ctR P1 n + 1) = _; omega] at hx
          exact hx
        · refine s_iload hX dX11_found_60 rfl ?_
          refine s_iret hX dX11_found_62 rfl rfl ?_
          rw [kst d (by omega) (by rw [hs, if_pos ⟨hy, by omega⟩])]
          exact ⟨rfl, rfl⟩
      refine s_iload hX dX11_found_20 rfl ?_
      refine s_aload_n hX dX11_found_22 rfl ?_
      refine s_getI (x := nI (kM W)) hX dX11_found_23 fl_X11_183 rfl rfl (by omega) h.1.1.1 ?_
      refine s_icmp_ge_n (tgt := 72) hX dX11_found_26 (by decide) (by omega) (by omega) (fun q26 => ?_) (fun q26 => ?_)
      · omega
      · refine s_iload_n hX dX11_found_29 rfl ?_
        refine s_if_ne_n (tgt := 46) hX dX11_found_30 (by decide) (by omega) (fun q30 => ?_) (fun q30 => ?_)
        · refine s_aload_n hX dX11_found_46 rfl ?_
          refine s_getR hX dX11_found_47 fl_X11_75 rfl rfl (by omega) ?_
          refine s_iload hX dX11_found_50 rfl ?_
          refine s_zald (x := bI (ldB pr W n)) hX dX11_found_52 rfl (by omega) (by omega) (by decide) (hld n (by omega)) ?_
          refine s_if_ne (tgt := 66) hX dX11_found_53 (by decide) (fun q53 => ?_) (fun q53 => ?_)
          · refine s_iinc_n (c := 1) hX dX11_found_66 rfl (by decide) rfl st_5_4 ?_
            refine s_goto (tgt := 20) hX dX11_found_69 (by decide) ?_
            have hnp : P1 n = false := by
              rw [hP1]
              show (!ldB pr W n) = false
              cases hh : ldB pr W n with
              | true => rfl
              | false => exact absurd (bI_0.mpr hh) q53
            have hx := ih (n + 1) (by omega) (by rw [hs, if_neg (fun q => by rw [hnp] at q; exact absurd q.1 (by decide))]) (by rw [hc, hnp]; exact hle)
            rw [hc, hnp, show ctR P1 n + false.toNat = ctR P1 n from rfl] at hx
            exact hx
          · exact YES (by
              rw [hP1]
              show (!ldB pr W n) = true
              rw [bI_0.mp (Decidable.of_not_not q53)]
              rfl)
        · exact absurd q30 (by decide)
  refine s_iload_n hX dX11_found_0 rfl ?_
  refine s_if_lt (tgt := 13) hX dX11_found_1 (by decide) (fun q1 => ?_) (fun q1 => ?_)
  · refine s_iconst (v := -1) hX dX11_found_13 (by decide) ?_
    refine s_iret hX dX11_found_14 rfl rfl ?_
    refine ⟨?_, rfl⟩
    unfold fdF
    first
      | rw [rg_no (Or.inl q1)]
      | rw [rg_no (Or.inr q6)]
      | (cases rg 0 1 x with
         | none => rfl
         | some k => exact (if_pos (Int32.not_le.mp q10)).symm)
  · refine s_iload_n hX dX11_found_4 rfl ?_
    refine s_iconst (v := nI 1) hX dX11_found_5 (by decide) ?_
    refine s_icmp_gt (tgt := 13) hX dX11_found_6 (by decide) (fun q6 => ?_) (fun q6 => ?_)
    · refine s_iconst (v := -1) hX dX11_found_13 (by decide) ?_
      refine s_iret hX dX11_found_14 rfl rfl ?_
      refine ⟨?_, rfl⟩
      unfold fdF
      first
        | rw [rg_no (Or.inl q1)]
        | rw [rg_no (Or.inr q6)]
        | (cases rg 0 1 x with
           | none => rfl
           | some k => exact (if_pos (Int32.not_le.mp q10)).symm)
    · refine s_iload_n hX dX11_found_9 rfl ?_
      refine s_if_ge (tgt := 15) hX dX11_found_10 (by decide) (fun q10 => ?_) (fun q10 => ?_)
      · obtain ⟨k, -, hk1, rfl, hrg⟩ := rg_of (lo := 0) (hi := 1) (by decide) (by decide) q1 q6
        obtain ⟨i, hi31, rfl⟩ := nI_of (Int32.not_lt.mpr q10)
        have hE : fdF pr W (nI k) (nI i) = amv (kthR (if k = 0 then (fun n => skF pr (kV W n)) else (fun n => !ldB pr W n)) i (kM W)) := by
          unfold fdF
          rw [hrg]
          show (if nI i < 0 then _ else _) = _
          rw [if_neg (nI_pos hi31), nI_clamp hi31]
        rw [hE]
        refine s_iload_n hX dX11_found_15 rfl ?_
        refine s_istore_n hX dX11_found_16 (Nat.le_of_ble_eq_true rfl) rfl st_5_3 ?_
        refine s_iconst (v := nI 0) hX dX11_found_17 (by decide) ?_
        refine s_istore hX dX11_found_18 (Nat.le_of_ble_eq_true rfl) rfl st_5_4 ?_
        rcases (show k = 0 ∨ k = 1 by omega) with rfl | rfl
        · have hx := L0 i hi31 (kM W) 0 (by omega) rfl (Nat.zero_le _)
          rw [hP0] at hx
          exact hx
        · have hx := L1 i hi31 (kM W) 0 (by omega) rfl (Nat.zero_le _)
          rw [hP1] at hx
          exact hx
      · refine s_iconst (v := -1) hX dX11_found_13 (by decide) ?_
        refine s_iret hX dX11_found_14 rfl rfl ?_
        refine ⟨?_, rfl⟩
        unfold fdF
        first
          | rw [rg_no (Or.inl q1)]
          | rw [rg_no (Or.inr q6)]
          | (cases rg 0 1 x with
             | none => rfl
             | some k => exact (if_pos (Int32.not_le.mp q10)).symm)
set_option maxRecDepth 100000 in
set_option maxHeartbeats 4000000 in
theorem c_X11_far {σ : Sg} {pr : Pr} {W : Wk} (h : WkE σ pr W) (hq : WkQ pr W) (x : Int32) : Sm 77 mX11_far [.ref 53, .int x] σ (qi fun r σ2 => r = faF W x ∧ σ2 = σ) := by
  refine Sm.of mk_X11_far (Nat.le_of_ble_eq_true rfl) rfl (fun X hX => ?_)
  obtain ⟨hM4, hB30, hT8, hF, hPa, hF0, hBt⟩ := hq.all
  refine s_iload_n hX dX11_far_0 rfl ?_
  refine s_if_lt (tgt := 12) hX dX11_far_1 (by decide) (fun q1 => ?_) (fun q1 => ?_)
  · refine s_iconst (v := -1) hX dX11_far_12 (by decide) ?_
    refine s_goto (tgt := 22) hX dX11_far_13 (by decide) ?_
    refine s_iret hX dX11_far_22 rfl rfl ?_
    refine ⟨?_, rfl⟩
    unfold faF
    first
      | rw [if_pos (Or.inl q1)]
      | rw [if_neg (cmp_no (by omega) hi rfl), nI_clamp (by omega)]
      | rw [if_pos (Or.inr (Int32.not_lt.mp q9))]
  · refine s_iload_n hX dX11_far_4 rfl ?_
    refine s_aload_n hX dX11_far_5 rfl ?_
    refine s_getI (x := nI (kM W)) hX dX11_far_6 fl_X11_183 rfl rfl (by omega) h.1.1.1 ?_
    refine s_icmp_lt (tgt := 16) hX dX11_far_9 (by decide) (fun q9 => ?_) (fun q9 => ?_)
    · obtain ⟨i, hi, rfl⟩ := ix_of (m := kM W) (by omega) q1 (Int32.not_le.mpr q9)
      refine s_aload_n hX dX11_far_16 rfl ?_
      refine s_getR hX dX11_far_17 fl_X11_65 rfl rfl (by omega) ?_
      refine s_iload_n hX dX11_far_20 rfl ?_
      refine s_iald (x := nI (kF W i)) hX dX11_far_21 rfl (by omega) (by omega) (by decide) (h.1.2.1 i hi).2.2 ?_
      refine s_iret hX dX11_far_22 rfl rfl ?_
      refine ⟨?_, rfl⟩
      unfold faF
      first
        | rw [if_pos (Or.inl q1)]
        | rw [if_neg (cmp_no (by omega) hi rfl), nI_clamp (by omega)]
        | rw [if_pos (Or.inr (Int32.not_lt.mp q9))]
    · refine s_iconst (v := -1) hX dX11_far_12 (by decide) ?_
      refine s_goto (tgt := 22) hX dX11_far_13 (by decide) ?_
      refine s_iret hX dX11_far_22 rfl rfl ?_
      refine ⟨?_, rfl⟩
      unfold faF
      first
        | rw [if_pos (Or.inl q1)]
        | rw [if_neg (cmp_no (by omega) hi rfl), nI_clamp (by omega)]
        | rw [if_pos (Or.inr (Int32.not_lt.mp q9))]
set_option maxRecDepth 100000 in
set_option maxHeartbeats 4000000 in
theorem c_X11_way {σ : Sg} {pr : Pr} {W : Wk} (h : WkE σ pr W) (hq : WkQ pr W) (x y : Int32) : Sm 77 mX11_way [.ref 53, .int x, .int y] σ (qi fun r σ2 => r = wyF W x y ∧ σ2 = σ) := by
  refine Sm.of mk_X11_way (Nat.le_of_ble_eq_true rfl) rfl (fun X hX => ?_)
  obtain ⟨hM4, hB30, hT8, hF, hPa, hF0, hBt⟩ := hq.all
  have LP : ∀ i k, k < 4000 → i < kM W → ∀ d n, n ≤ d → n < kM W → k < kF W n → wyR W k d n = wyR W k 4000 i → Sw 77 mX11_way X (ZS 77 mX11_way (qi fun r σ2 => r = nI (wyR W k 4000 i) ∧ σ2 = σ) X) 30 [some (.ref 53), some (.int (nI i)), some (.int (nI k)), some (.int (nI n))] [] σ := by
    intro i k hk4 hi d
    induction d with
    | zero =>
      intro n hn hnM hkf hw
      have : n = 0 := by omega
      subst this
      rw [hF0] at hkf
      omega
    | succ d ih =>
      intro n hn hnM hkf hw
      have gF := (h.1.2.1 n hnM).2.2
      have hFn := (hF n hnM).1
      have hn0 : 0 < n := by
        rcases Nat.eq_zero_or_pos n with e | e
        · subst e; rw [hF0] at hkf; omega
        · exact e
      obtain ⟨p1, p2, p3⟩ := hPa n hn0 hnM
      obtain ⟨g68, g69⟩ := h.1.2.2.1 n hn0 hnM
      have hs : wyR W k (d + 1) n = if k + 1 < kF W n then wyR W k d (kP W n).1 else (kP W n).2 := rfl
      refine s_aload_n hX dX11_way_30 rfl ?_
      refine s_getR hX dX11_way_31 fl_X11_65 rfl rfl (by omega) ?_
      refine s_iload_n hX dX11_way_34 rfl ?_
      refine s_iald (x := nI (kF W n)) hX dX11_way_35 rfl (by omega) (by omega) (by decide) gF ?_
      refine s_iload_n hX dX11_way_36 rfl ?_
      refine s_iconst (v := nI 1) hX dX11_way_37 (by decide) ?_
      refine s_iadd_n hX dX11_way_38 ?_
      refine s_icmp_le_n (tgt := 52) hX dX11_way_39 (by decide) (by omega) (by omega) (fun q39 => ?_) (fun q39 => ?_)
      · refine s_aload_n hX dX11_way_52 rfl ?_
        refine s_getR hX dX11_way_53 fl_X11_62 rfl rfl (by omega) ?_
        refine s_iload_n hX dX11_way_56 rfl ?_
        refine s_iald (x := nI ((kP W n).2)) hX dX11_way_57 rfl (by omega) (by omega) (by decide) g69 ?_
        refine s_iret hX dX11_way_58 rfl rfl ?_
        rw [hs, if_neg (by omega)] at hw
        exact ⟨by rw [hw], rfl⟩
      · refine s_aload_n hX dX11_way_42 rfl ?_
        refine s_getR hX dX11_way_43 fl_X11_59 rfl rfl (by omega) ?_
        refine s_iload_n hX dX11_way_46 rfl ?_
        refine s_iald (x := nI ((kP W n).1)) hX dX11_way_47 rfl (by omega) (by omega) (by decide) g68 ?_
        refine s_istore_n hX dX11_way_48 (Nat.le_of_ble_eq_true rfl) rfl st_4_3 ?_
        refine s_goto (tgt := 30) hX dX11_way_49 (by decide) ?_
        rw [hs, if_pos (by omega)] at hw
        exact ih (kP W n).1 (by omega) (by omega) (by omega) hw
  refine s_iload_n hX dX11_way_0 rfl ?_
  refine s_if_lt (tgt := 26) hX dX11_way_1 (by decide) (fun q1 => ?_) (fun q1 => ?_)
  · refine s_iconst (v := -1) hX dX11_way_26 (by decide) ?_
    refine s_iret hX dX11_way_27 rfl rfl ?_
    refine ⟨?_, rfl⟩
    unfold wyF
    first
      | rw [if_pos (Or.inl q1)]
      | rw [if_pos (Or.inr q9)]
      | rw [if_neg (cmp_no (by omega) hi rfl), nI_clamp (by omega), if_pos (Or.inl q13)]
      | rw [if_neg (cmp_no (by omega) hi rfl), nI_clamp (by omega), if_pos (Or.inr (Int32.not_lt.mp q23))]
  · refine s_iload_n hX dX11_way_4 rfl ?_
    refine s_aload_n hX dX11_way_5 rfl ?_
    refine s_getI (x := nI (kM W)) hX dX11_way_6 fl_X11_183 rfl rfl (by omega) h.1.1.1 ?_
    refine s_icmp_ge (tgt := 26) hX dX11_way_9 (by decide) (fun q9 => ?_) (fun q9 => ?_)
    · refine s_iconst (v := -1) hX dX11_way_26 (by decide) ?_
      refine s_iret hX dX11_way_27 rfl rfl ?_
      refine ⟨?_, rfl⟩
      unfold wyF
      first
        | rw [if_pos (Or.inl q1)]
        | rw [if_pos (Or.inr q9)]
        | rw [if_neg (cmp_no (by omega) hi rfl), nI_clamp (by omega), if_pos (Or.inl q13)]
        | rw [if_neg (cmp_no (by omega) hi rfl), nI_clamp (by omega), if_pos (Or.inr (Int32.not_lt.mp q23))]
    · obtain ⟨i, hi, rfl⟩ := ix_of (m := kM W) (by omega) q1 q9
      have hFi := (hF i hi).1
      refine s_iload_n hX dX11_way_12 rfl ?_
      refine s_if_lt (tgt := 26) hX dX11_way_13 (by decide) (fun q13 => ?_) (fun q13 => ?_)
      · refine s_iconst (v := -1) hX dX11_way_26 (by decide) ?_
        refine s_iret hX dX11_way_27 rfl rfl ?_
        refine ⟨?_, rfl⟩
        unfold wyF
        first
          | rw [if_pos (Or.inl q1)]
          | rw [if_pos (Or.inr q9)]
          | rw [if_neg (cmp_no (by omega) hi rfl), nI_clamp (by omega), if_pos (Or.inl q13)]
          | rw [if_neg (cmp_no (by omega) hi rfl), nI_clamp (by omega), if_pos (Or.inr (Int32.not_lt.mp q23))]
      · refine s_iload_n hX dX11_way_16 rfl ?_
        refine s_aload_n hX dX11_way_17 rfl ?_
        refine s_getR hX dX11_way_18 fl_X11_65 rfl rfl (by omega) ?_
        refine s_iload_n (x := nI i) hX dX11_way_21 rfl ?_
        refine s_iald (x := nI (kF W i)) hX dX11_way_22 rfl (by omega) (by omega) (by decide) (h.1.2.1 i hi).2.2 ?_
        refine s_icmp_lt (tgt := 28) hX dX11_way_23 (by decide) (fun q23 => ?_) (fun q23 => ?_)
        · obtain ⟨k, hk, rfl⟩ := ix_of (m := kF W i) (by omega) q13 (Int32.not_le.mpr q23)
          have hE : wyF W (nI i) (nI k) = nI (wyR W k 4000 i) := by
            unfold wyF
            rw [if_neg (cmp_no (by omega) hi rfl), nI_clamp (by omega), if_neg (cmp_no (by omega) hk rfl), nI_clamp (by omega)]
          rw [hE]
          refine s_iload_n hX dX11_way_28 rfl ?_
          refine s_istore_n hX dX11_way_29 (Nat.le_of_ble_eq_true rfl) rfl st_4_3 ?_
          exact LP i k (by omega) hi 4000 i (by omega) hi hk rfl
        · refine s_iconst (v := -1) hX dX11_way_26 (by decide) ?_
          refine s_iret hX dX11_way_27 rfl rfl ?_
          refine ⟨?_, rfl⟩
          unfold wyF
          first
            | rw [if_pos (Or.inl q1)]
            | rw [if_pos (Or.inr q9)]
            | rw [if_neg (cmp_no (by omega) hi rfl), nI_clamp (by omega), if_pos (Or.inl q13)]
            | rw [if_neg (cmp_no (by omega) hi rfl), nI_clamp (by omega), if_pos (Or.inr (Int32.not_lt.mp q23))]
set_option maxRecDepth 100000 in
set_option maxHeartbeats 4000000 in
theorem c_X11_go {σ : Sg} {pr : Pr} {v : Vc} {ch : Bool} {prw : Pr} {W : Wk} (hm : MdS σ pr v ch) (hk : PrOk pr) (h : WkE σ prw W) (hq : WkQ prw W) (hc : ch = false → prw = pr) (x : Int32) : Sm 77 mX11_go [.ref 53, .int x] σ (qi fun r σ2 => (match goF W ch x with
    | none => r = -1 ∧ MdS σ2 pr v ch
    | some n => r = nI (stepsF pr (kV W n)).length ∧ MdS σ2 pr (kV W n) ch) ∧ FrS σ σ2) := by
  refine Sm.of mk_X11_go (Nat.le_of_ble_eq_true rfl) rfl (fun X hX => ?_)
  obtain ⟨hM4, hB30, hT8, hF, hPa, hF0, hBt⟩ := hq.all
  refine s_iload_n hX dX11_go_0 rfl ?_
  refine s_if_lt (tgt := 19) hX dX11_go_1 (by decide) (fun q1 => ?_) (fun q1 => ?_)
  · refine s_iconst (v := -1) hX dX11_go_19 (by decide) ?_
    refine s_iret hX dX11_go_20 rfl rfl ?_
    have hE : goF W ch x = none := by
      unfold goF
      rw [if_pos (by first | exact Or.inl q1 | exact Or.inr (Or.inl q9) | exact Or.inr (Or.inr (by cases hh : ch with
        | true => rfl
        | false => exact absurd (bI_0.mpr hh) q16)))]
    rw [hE]
    exact ⟨⟨rfl, hm⟩, Fr.rf⟩
  · refine s_iload_n hX dX11_go_4 rfl ?_
    refine s_aload_n hX dX11_go_5 rfl ?_
    refine s_getI (x := nI (kM W)) hX dX11_go_6 fl_X11_183 rfl rfl (by omega) h.1.1.1 ?_
    refine s_icmp_ge (tgt := 19) hX dX11_go_9 (by decide) (fun q9 => ?_) (fun q9 => ?_)
    · refine s_iconst (v := -1) hX dX11_go_19 (by decide) ?_
      refine s_iret hX dX11_go_20 rfl rfl ?_
      have hE : goF W ch x = none := by
        unfold goF
        rw [if_pos (by first | exact Or.inl q1 | exact Or.inr (Or.inl q9) | exact Or.inr (Or.inr (by cases hh : ch with
          | true => rfl
          | false => exact absurd (bI_0.mpr hh) q16)))]
      rw [hE]
      exact ⟨⟨rfl, hm⟩, Fr.rf⟩
    · refine s_aload_n hX dX11_go_12 rfl ?_
      refine s_getI (x := bI ch) hX dX11_go_13 fl_X11_87 rfl rfl (by omega) hm.2.2 ?_
      refine s_if_eq (tgt := 21) hX dX11_go_16 (by decide) (fun q16 => ?_) (fun q16 => ?_)
      · obtain ⟨i, hi, rfl⟩ := ix_of (m := kM W) (by omega) q1 q9
        have hch := bI_0.mp q16
        have hE : goF W ch (nI i) = some i := by
          unfold goF
          rw [if_neg (by
            intro q; rcases q with q | q | q
            · exact q1 q
            · exact q9 q
            · rw [hch] at q; cases q), nI_clamp (by omega)]
        rw [hE]
        have hvi := (hF i hi).2
        rw [hc hch] at hvi
        have g66 := (h.1.2.1 i hi).1
        refine s_aload_n hX dX11_go_21 rfl ?_
        refine s_getR hX dX11_go_22 fl_X11_52 rfl rfl (by omega) ?_
        refine s_bipush (v := nI 56) hX dX11_go_25 (by decide) ?_
        refine s_iload_n hX dX11_go_27 rfl ?_
        refine s_imul_n hX dX11_go_28 ?_
        refine s_aload_n hX dX11_go_29 rfl ?_
        refine s_getR hX dX11_go_30 fl_X11_33 rfl rfl (by omega) ?_
        refine s_iconst (v := nI 0) hX dX11_go_33 (by decide) ?_
        refine s_callSv (as := [_, _, _, _]) hX dX11_go_34 mk_X11_copy lk_X11_94 (c_X11_copy (f := 66) (t := 60) (lf := 224000) (lt := 56) (a := 56 * i) (b := 0) rfl rfl (by decide) (by decide) (by decide) (by omega) (by omega) (by decide) (by decide)) rfl ⟨rfl, rfl⟩ (Nat.le_of_ble_eq_true rfl) (Nat.le_of_ble_eq_true rfl) (Nat.le_of_ble_eq_true rfl) rfl (fun σ34 p34 => ?_)
        subst p34
        refine s_gen (fun σ2 e2 => ?_)
        have hV2 := g66.copy (t := 60) (b := 0)
        have hO2 : Off σ (wA σ 60 (va_cpy (σ 66).1 (σ 60).1 (56 * i) 0 56)) [60] := Off.rf.wA (by decide)
        rw [← e2] at hV2 hO2
        clear e2
        have h2 : MdS σ2 pr (kV W i) ch := ⟨hm.1.off hO2 (by decide) (by decide) (by decide) (by decide) (by decide), hV2, by rw [hO2 53 (by decide)]; exact hm.2.2⟩
        refine s_aload_n hX dX11_go_37 rfl ?_
        refine s_callVv (as := []) hX dX11_go_38 mk_X11_toRun lk_X11_163 (c_X11_toRun h2.1 hk h2.2.1 hvi) rfl (by omega) rfl rfl rfl ⟨rfl, rfl⟩ (Nat.le_of_ble_eq_true rfl) (Nat.le_of_ble_eq_true rfl) (Nat.le_of_ble_eq_true rfl) rfl (fun σ38 p38 => ?_)
        obtain ⟨hS, hV3, hf⟩ := p38
        refine s_aload_n hX dX11_go_41 rfl ?_
        refine s_getI (x := nI ((stepsF pr (kV W i)).length)) hX dX11_go_42 fl_X11_109 rfl rfl (by omega) hS.1 ?_
        refine s_iret hX dX11_go_45 rfl rfl ?_
        exact ⟨⟨rfl, h2.fr hf (by decide) (by decide)⟩, ((Fr.of hO2 (by decide) : Fr 53 _ _ [60] []).mono (by decide) (by decide)).trans (FrS.ofR hf)⟩
      · refine s_iconst (v := -1) hX dX11_go_19 (by decide) ?_
        refine s_iret hX dX11_go_20 rfl rfl ?_
        have hE : goF W ch x = none := by
          unfold goF
          rw [if_pos (by first | exact Or.inl q1 | exact Or.inr (Or.inl q9) | exact Or.inr (Or.inr (by cases hh : ch with
            | true => rfl
            | false => exact absurd (bI_0.mpr hh) q16)))]
        rw [hE]
        exact ⟨⟨rfl, hm⟩, Fr.rf⟩
set_option maxRecDepth 100000 in
set_option maxHeartbeats 4000000 in
theorem c_X11_number {σ : Sg} {pr : Pr} {v : Vc} {ch : Bool} {prw : Pr} {W : Wk} (hm : MdS σ pr v ch) (hk : PrOk pr) (hv : VOk pr v) (h : WkE σ prw W) (hq : WkQ prw W) : Sm 77 mX11_number [.ref 53] σ (qi fun r σ2 => r = (if ch = true then -1 else amv (numK W v)) ∧ MdS σ2 pr v ch ∧ FrS σ σ2) := by
  refine Sm.of mk_X11_number (Nat.le_of_ble_eq_true rfl) rfl (fun X hX => ?_)
  obtain ⟨hM4, hB30, hT8, hF, hPa, hF0, hBt⟩ := hq.all
  have hP4 : pP prw ≤ 4 := hq.1.1.2
  refine s_aload_n hX dX11_number_0 rfl ?_
  refine s_getI (x := bI ch) hX dX11_number_1 fl_X11_87 rfl rfl (by omega) hm.2.2 ?_
  refine s_if_eq (tgt := 9) hX dX11_number_4 (by decide) (fun q4 => ?_) (fun q4 => ?_)
  · refine s_aload_n hX dX11_number_9 rfl ?_
    refine s_getR hX dX11_number_10 fl_X11_33 rfl rfl (by omega) ?_
    refine s_iconst (v := nI 0) hX dX11_number_13 (by decide) ?_
    refine s_aload_n hX dX11_number_14 rfl ?_
    refine s_getR hX dX11_number_15 fl_X11_30 rfl rfl (by omega) ?_
    refine s_iconst (v := nI 0) hX dX11_number_18 (by decide) ?_
    refine s_callSv (as := [_, _, _, _]) hX dX11_number_19 mk_X11_copy lk_X11_94 (c_X11_copy (f := 60) (t := 59) (lf := 56) (lt := 56) (a := 0) (b := 0) rfl rfl (by decide) (by decide) (by decide) (by omega) (by omega) (by decide) (by decide)) rfl ⟨rfl, rfl⟩ (Nat.le_of_ble_eq_true rfl) (Nat.le_of_ble_eq_true rfl) (Nat.le_of_ble_eq_true rfl) rfl (fun σ19 p19 => ?_)
    subst p19
    refine s_gen (fun σ2 e2 => ?_)
    have hV2 := hm.2.1.copy (t := 59) (b := 0)
    have hO2 : Off σ (wA σ 59 (va_cpy (σ 60).1 (σ 59).1 0 0 56)) [59] := Off.rf.wA (by decide)
    rw [← e2] at hV2 hO2
    clear e2
    have f2 : Fr 53 σ σ2 [59] [] := Fr.of hO2 (by decide)
    have hW2 := h.1.fr f2 (by decide) (by decide)
    refine s_aload_n hX dX11_number_22 rfl ?_
    refine s_callVi (as := []) hX dX11_number_23 mk_X11_numberOf lk_X11_212 (c_X11_numberOf hW2 hM4 hV2 (fun n j hn hj => ((hF n hn).2).lt31 hP4 j) (fun j hj => hv.lt31 hk.1.2 j)) rfl (by omega) rfl rfl rfl ⟨rfl, rfl⟩ (Nat.le_of_ble_eq_true rfl) (Nat.le_of_ble_eq_true rfl) (Nat.le_of_ble_eq_true rfl) rfl (fun v23 σ23 p23 => ?_)
    obtain ⟨rfl, e23⟩ := p23
    subst e23
    refine s_iret hX dX11_number_26 rfl rfl ?_
    refine ⟨?_, hm.fr f2 (by decide) (by decide), f2.mono (by decide) (by decide)⟩
    rw [if_neg (by rw [bI_0.mp q4]; decide)]
  · refine s_iconst (v := -1) hX dX11_number_7 (by decide) ?_
    refine s_iret hX dX11_number_8 rfl rfl ?_
    refine ⟨?_, hm, Fr.rf⟩
    rw [if_pos (by cases hh : ch with
      | true => rfl
      | false => exact absurd (bI_0.mpr hh) q4)]
set_option maxRecDepth 100000 in
set_option maxHeartbeats 4000000 in
theorem c_X11_used {σ : Sg} {pr : Pr} {v : Vc} {ch : Bool} {prw : Pr} {W : Wk} (hm : MdS σ pr v ch) (hk : PrOk pr) (h : WkE σ prw W) (x : Int32) : Sm 77 mX11_used [.ref 53, .int x] σ (qi fun r σ2 => r = usF pr W x ∧ σ2 = σ) := by
  refine Sm.of mk_X11_used (Nat.le_of_ble_eq_true rfl) rfl (fun X hX => ?_)
  cases hpl : plF x with
  | none =>
    have hE : usF pr W x = -1 := by unfold usF; rw [hpl]
    refine s_iload_n hX dX11_used_0 rfl ?_
    refine s_callSi (as := [_]) hX dX11_used_1 mk_X11_placeOf lk_X11_101 (c_X11_placeOf _) rfl ⟨rfl, rfl⟩ (Nat.le_of_ble_eq_true rfl) (Nat.le_of_ble_eq_true rfl) (Nat.le_of_ble_eq_true rfl) rfl (fun v1 σ1 p1 => ?_)
    obtain ⟨rfl, rfl⟩ := p1
    rw [hpl]
    refine s_top (y := -1) rfl ?_
    refine s_istore_n hX dX11_used_4 (Nat.le_of_ble_eq_true rfl) rfl st_3_2 ?_
    refine s_iload_n hX dX11_used_5 rfl ?_
    refine s_if_lt (tgt := 18) hX dX11_used_6 (by decide) (fun q6 => ?_) (fun q6 => ?_)
    · refine s_iconst (v := -1) hX dX11_used_18 (by decide) ?_
      refine s_goto (tgt := 36) hX dX11_used_19 (by decide) ?_
      refine s_iret hX dX11_used_36 rfl rfl ?_
      exact ⟨hE.symm, rfl⟩
    · exact absurd (by decide) q6
  | some a =>
    have ha := plF_lt hpl
    have h56 := hm.1.2.2.2.1 a ha
    cases hmm : pAm pr a with
    | none =>
      have hE : usF pr W x = -1 := by unfold usF; rw [hpl]; dsimp only; rw [hmm]
      have e56 : (σ 56).1 a = -1 := by rw [h56, hmm]; rfl
      refine s_iload_n hX dX11_used_0 rfl ?_
      refine s_callSi (as := [_]) hX dX11_used_1 mk_X11_placeOf lk_X11_101 (c_X11_placeOf _) rfl ⟨rfl, rfl⟩ (Nat.le_of_ble_eq_true rfl) (Nat.le_of_ble_eq_true rfl) (Nat.le_of_ble_eq_true rfl) rfl (fun v1 σ1 p1 => ?_)
      obtain ⟨rfl, rfl⟩ := p1
      rw [hpl]
      refine s_top (y := nI a) rfl ?_
      refine s_istore_n hX dX11_used_4 (Nat.le_of_ble_eq_true rfl) rfl st_3_2 ?_
      refine s_iload_n hX dX11_used_5 rfl ?_
      refine s_if_lt_n (tgt := 18) hX dX11_used_6 (by decide) (by omega) ?_
      refine s_aload_n hX dX11_used_9 rfl ?_
      refine s_getR hX dX11_used_10 fl_X11_20 rfl rfl (by omega) ?_
      refine s_iload_n hX dX11_used_13 rfl ?_
      refine s_iald (x := (-1)) hX dX11_used_14 rfl (by omega) (by omega) (by decide) e56 ?_
      refine s_if_ge (tgt := 22) hX dX11_used_15 (by decide) (fun q15 => ?_) (fun q15 => ?_)
      · exact absurd q15 (by decide)
      · refine s_iconst (v := -1) hX dX11_used_18 (by decide) ?_
        refine s_goto (tgt := 36) hX dX11_used_19 (by decide) ?_
        refine s_iret hX dX11_used_36 rfl rfl ?_
        exact ⟨hE.symm, rfl⟩
    | some mm =>
      have hm8 := hk.2.2.2.1 _ mm hmm
      have hE : usF pr W x = bI (kU W a) := by unfold usF; rw [hpl]; dsimp only; rw [hmm]
      have e56 : (σ 56).1 a = nI mm := by rw [h56, hmm]; rfl
      refine s_iload_n hX dX11_used_0 rfl ?_
      refine s_callSi (as := [_]) hX dX11_used_1 mk_X11_placeOf lk_X11_101 (c_X11_placeOf _) rfl ⟨rfl, rfl⟩ (Nat.le_of_ble_eq_true rfl) (Nat.le_of_ble_eq_true rfl) (Nat.le_of_ble_eq_true rfl) rfl (fun v1 σ1 p1 => ?_)
      obtain ⟨rfl, rfl⟩ := p1
      rw [hpl]
      refine s_top (y := nI a) rfl ?_
      refine s_istore_n hX dX11_used_4 (Nat.le_of_ble_eq_true rfl) rfl st_3_2 ?_
      refine s_iload_n hX dX11_used_5 rfl ?_
      refine s_if_lt_n (tgt := 18) hX dX11_used_6 (by decide) (by omega) ?_
      refine s_aload_n hX dX11_used_9 rfl ?_
      refine s_getR hX dX11_used_10 fl_X11_20 rfl rfl (by omega) ?_
      refine s_iload_n hX dX11_used_13 rfl ?_
      refine s_iald (x := nI (mm)) hX dX11_used_14 rfl (by omega) (by omega) (by decide) e56 ?_
      refine s_if_ge_n (tgt := 22) hX dX11_used_15 (by decide) (by omega) ?_
      refine s_aload_n hX dX11_used_22 rfl ?_
      refine s_getR hX dX11_used_23 fl_X11_26 rfl rfl (by omega) ?_
      refine s_iload_n hX dX11_used_26 rfl ?_
      refine s_zald (x := bI (kU W a)) hX dX11_used_27 rfl (by omega) (by omega) (by decide) (h.1.2.2.2.2.2.1 a ha) ?_
      refine s_if_eq (tgt := 35) hX dX11_used_28 (by decide) (fun q28 => ?_) (fun q28 => ?_)
      · refine s_iconst (v := nI 0) hX dX11_used_35 (by decide) ?_
        refine s_iret hX dX11_used_36 rfl rfl ?_
        refine ⟨?_, rfl⟩
        rw [hE]
        first
          | (rw [bI_0.mp q28]; rfl)
          | (rw [show kU W a = true from by cases hh : kU W a with
              | true => rfl
              | false => exact absurd (bI_0.mpr hh) q28]; rfl)
      · refine s_iconst (v := nI 1) hX dX11_used_31 (by decide) ?_
        refine s_goto (tgt := 36) hX dX11_used_32 (by decide) ?_
        refine s_iret hX dX11_used_36 rfl rfl ?_
        refine ⟨?_, rfl⟩
        rw [hE]
        first
          | (rw [bI_0.mp q28]; rfl)
          | (rw [show kU W a = true from by cases hh : kU W a with
              | true => rfl
              | false => exact absurd (bI_0.mpr hh) q28]; rfl)
