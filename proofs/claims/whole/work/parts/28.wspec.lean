/-! ===== the walk: what it finds, as a function of the protocol ===== -/
def eqV (v w : Vc) : Bool := (List.range 56).all (fun j => v j == w j)
theorem eqV_iff {v w : Vc} : eqV v w = true ↔ ∀ j, j < 56 → v j = w j := by
  unfold eqV
  rw [List.all_eq_true]
  constructor
  · intro h j hj
    exact beq_iff_eq.mp (h j (List.mem_range.mpr hj))
  · intro h j hj
    exact beq_iff_eq.mpr (h j (List.mem_range.mp hj))
def fstR (p : Nat → Bool) : Nat → Option Nat
  | 0 => none
  | n + 1 => match fstR p n with
    | some k => some k
    | none => if p n = true then some n else none
theorem fstR_none {p : Nat → Bool} : ∀ {n : Nat}, fstR p n = none ↔ ∀ k, k < n → p k = false
  | 0 => ⟨fun _ k h => absurd h (Nat.not_lt_zero k), fun _ => rfl⟩
  | n + 1 => by
    have ih := fstR_none (p := p) (n := n)
    constructor
    · intro h
      unfold fstR at h
      cases hf : fstR p n with
      | some k => rw [hf] at h; cases h
      | none =>
        rw [hf] at h
        have hp : p n = false := by
          cases hh : p n with
          | true => simp [hh] at h
          | false => rfl
        intro k hk
        by_cases e : k = n
        · rw [e]; exact hp
        · exact ih.mp hf k (by omega)
    · intro h
      unfold fstR
      rw [ih.mpr (fun k hk => h k (by omega))]
      simp [h n (by omega)]
theorem fstR_some {p : Nat → Bool} : ∀ {n k : Nat}, fstR p n = some k ↔ k < n ∧ p k = true ∧ ∀ j, j < k → p j = false
  | 0, k => ⟨fun h => (by cases h), fun h => absurd h.1 (Nat.not_lt_zero k)⟩
  | n + 1, k => by
    have ih := fstR_some (p := p) (n := n) (k := k)
    unfold fstR
    cases hf : fstR p n with
    | some q =>
      have ihq := (fstR_some (p := p) (n := n) (k := q)).mp hf
      constructor
      · intro h
        cases h
        exact ⟨by omega, ihq.2⟩
      · intro h
        show some q = some k
        congr 1
        rcases Nat.lt_trichotomy q k with e | e | e
        · have := h.2.2 q e; rw [ihq.2.1] at this; cases this
        · exact e
        · have := ihq.2.2 k e; rw [h.2.1] at this; cases this
    | none =>
      have hn := fstR_none.mp hf
      constructor
      · intro h
        have h : (if p n = true then some n else none) = some k := h
        split at h
        · cases h
          rename_i hp
          exact ⟨by omega, hp, hn⟩
        · cases h
      · intro h
        show (if p n = true then some n else none) = some k
        have e : k = n := by
          by_cases e : k = n
          · exact e
          · have := hn k (by omega); rw [h.2.1] at this; cases this
        subst e
        rw [if_pos h.2.1]
abbrev Wk : Type := Nat × (Nat → Vc) × (Nat → Nat × Nat) × (Nat → Nat) × (Nat → Nat → Option Nat) × Nat × List (Nat × Nat × Option Nat) × (Nat → Bool) × Bool
abbrev kM (W : Wk) : Nat := W.1
abbrev kV (W : Wk) : Nat → Vc := W.2.1
abbrev kP (W : Wk) : Nat → Nat × Nat := W.2.2.1
abbrev kF (W : Wk) : Nat → Nat := W.2.2.2.1
abbrev kN (W : Wk) : Nat → Nat → Option Nat := W.2.2.2.2.1
abbrev kT (W : Wk) : Nat := W.2.2.2.2.2.1
abbrev kB (W : Wk) : List (Nat × Nat × Option Nat) := W.2.2.2.2.2.2.1
abbrev kU (W : Wk) : Nat → Bool := W.2.2.2.2.2.2.2.1
abbrev kS (W : Wk) : Bool := W.2.2.2.2.2.2.2.2
def wk0 : Wk := (0, (fun _ => v0), (fun _ => (0, 0)), (fun _ => 0), (fun _ _ => none), 0, [], (fun _ => false), false)
def frF (W : Wk) (f : Option (Nat × Nat)) : Nat := match f with
  | none => 0
  | some q => kF W q.1 + 1
def addK (pr : Pr) (W : Wk) (v : Vc) (f : Option (Nat × Nat)) : Wk := (kM W + 1, va_up (kV W) (kM W) v, va_up (kP W) (kM W) (f.getD (0, 0)), va_up (kF W) (kM W) (frF W f), kN W, kT W, kB W ++ (if bdF pr v = 0 then [] else [(bdF pr v, kM W, none)]), kU W, kS W)
def nxt (N : Nat → Nat → Option Nat) (n i : Nat) (k : Option Nat) : Nat → Nat → Option Nat := fun a b => if a = n ∧ b = i then k else N a b
def useK (U : Nat → Bool) (a : Option Nat) : Nat → Bool := match a with
  | none => U
  | some a => va_up U a true
/-- the step is tried and its row used -/
def triK (W : Wk) (a : Option Nat) : Wk := (kM W, kV W, kP W, kF W, kN W, kT W + 1, kB W, useK (kU W) a, kS W)
def badK (W : Wk) (b n i : Nat) : Wk := (kM W, kV W, kP W, kF W, kN W, kT W, kB W ++ [(b, n, some i)], kU W, kS W)
def nexK (W : Wk) (n i : Nat) (k : Option Nat) : Wk := (kM W, kV W, kP W, kF W, nxt (kN W) n i k, kT W, kB W, kU W, kS W)
def speK (W : Wk) : Wk := (kM W, kV W, kP W, kF W, kN W, kT W, kB W, kU W, true)
def numK (W : Wk) (v : Vc) : Option Nat := fstR (fun m => eqV (kV W m) v) (kM W)
def tryK (pr : Pr) (most n i : Nat) (s : Sp) (W : Wk) : Wk :=
  if (doF pr (kV W n) s).1 ≠ 0 then badK (triK W (doF pr (kV W n) s).2.1) (doF pr (kV W n) s).1 n i else
  match numK W (doF pr (kV W n) s).2.2 with
  | some k => nexK (triK W (doF pr (kV W n) s).2.1) n i (some k)
  | none => if kM W < most then nexK (addK pr (triK W (doF pr (kV W n) s).2.1) (doF pr (kV W n) s).2.2 (some (n, i))) n i (some (kM W)) else nexK (speK (triK W (doF pr (kV W n) s).2.1)) n i none
def visR (pr : Pr) (most n : Nat) (l : List Sp) : Nat → Wk → Wk
  | 0, W => W
  | i + 1, W => match l[i]? with
    | none => visR pr most n l i W
    | some s => tryK pr most n i s (visR pr most n l i W)
def visF (pr : Pr) (most n : Nat) (W : Wk) : Wk := visR pr most n (stepsF pr (kV W n)) (stepsF pr (kV W n)).length W
def bfsR (pr : Pr) (most : Nat) : Nat → Wk
  | 0 => addK pr wk0 v0 none
  | n + 1 => if n < kM (bfsR pr most n) then visF pr most n (bfsR pr most n) else bfsR pr most n
def wkF (pr : Pr) (most : Nat) : Wk := bfsR pr most 4000
/-- what holds of a walk under way, with 'vis' states gone from -/
def WkOk (pr : Pr) (most vis : Nat) (W : Wk) : Prop := (1 ≤ kM W ∧ kM W ≤ most) ∧ (∀ m, m < kM W → VOk pr (kV W m)) ∧ (∀ m i, vis ≤ m → kN W m i = none) ∧ (∀ m i k, kN W m i = some k → k < kM W ∧ i < 20) ∧ (kB W).length ≤ kT W + 1 ∧ kF W 0 = 0 ∧ (∀ m, 0 < m → m < kM W → (kP W m).1 < m ∧ (kP W m).1 < vis ∧ (kP W m).2 < 20 ∧ kF W m = kF W (kP W m).1 + 1) ∧ (∀ m m', 0 < m → m ≤ m' → m' < kM W → (kP W m).1 ≤ (kP W m').1) ∧ (∀ t, t ∈ kB W → t.1 ≤ 5 ∧ t.2.1 < kM W ∧ ∀ i, t.2.2 = some i → i < 20)
theorem WkOk.mono {pr : Pr} {most vis vis2 : Nat} {W : Wk} (h : WkOk pr most vis W) (hv : vis ≤ vis2) : WkOk pr most vis2 W := by
  obtain ⟨h1, h2, h3, h4, h5, h6, h7, h8, h9⟩ := h
  exact ⟨h1, h2, fun m i hm => h3 m i (by omega), h4, h5, h6, fun m a b => ⟨(h7 m a b).1, by have := (h7 m a b).2.1; omega, (h7 m a b).2.2⟩, h8, h9⟩
theorem WkOk.tri {pr : Pr} {most vis : Nat} {W : Wk} {a : Option Nat} (h : WkOk pr most vis W) : WkOk pr most vis (triK W a) := by
  obtain ⟨h1, h2, h3, h4, h5, h6, h7, h8, h9⟩ := h
  exact ⟨h1, h2, h3, h4, by show (kB W).length ≤ kT W + 1 + 1; omega, h6, h7, h8, h9⟩
theorem WkOk.nex {pr : Pr} {most vis n i : Nat} {W : Wk} {k : Option Nat} (h : WkOk pr most vis W) (hn : n < vis) (hi : i < 20) (hk : ∀ q, k = some q → q < kM W) : WkOk pr most vis (nexK W n i k) := by
  obtain ⟨h1, h2, h3, h4, h5, h6, h7, h8, h9⟩ := h
  refine ⟨h1, h2, fun m j hm => ?_, fun m j q hq => ?_, h5, h6, h7, h8, h9⟩
  · show nxt (kN W) n i k m j = none
    unfold nxt
    rw [if_neg (by omega)]
    exact h3 m j hm
  · have hq : nxt (kN W) n i k m j = some q := hq
    unfold nxt at hq
    split at hq
    · rename_i e
      exact ⟨hk q hq, by omega⟩
    · exact h4 m j q hq
theorem WkOk.spe {pr : Pr} {most vis : Nat} {W : Wk} (h : WkOk pr most vis W) : WkOk pr most vis (speK W) := h
theorem WkOk.add {pr : Pr} {most n i : Nat} {W : Wk} {v : Vc} (h : WkOk pr most (n + 1) W) (hn : n < kM W) (hi : i < 20) (hv : VOk pr v) (hm : kM W < most) (hB : (kB W).length + 1 ≤ kT W + 1) : WkOk pr most (n + 1) (addK pr W v (some (n, i))) := by
  obtain ⟨h1, h2, h3, h4, h5, h6, h7, h8, h9⟩ := h
  have up : ∀ {α : Type} (f : Nat → α) (x : α) (m : Nat), m < kM W → va_up f (kM W) x m = f m := fun f x m hm => va_up_ne _ _ (by omega)
  refine ⟨⟨by show 1 ≤ kM W + 1; omega, hm⟩, fun m hm2 => ?_, h3, fun m j q hq => ⟨by have := (h4 m j q hq).1; show q < kM W + 1; omega, (h4 m j q hq).2⟩, ?_, ?_, fun m a b => ?_, fun m m' a b c => ?_, fun t ht => ?_⟩
  · show VOk pr (va_up (kV W) (kM W) v m)
    by_cases e : m = kM W
    · rw [e, va_up_at]; exact hv
    · rw [up _ _ _ (by have : m < kM W + 1 := hm2; omega)]; exact h2 m (by have : m < kM W + 1 := hm2; omega)
  · show (kB W ++ _).length ≤ kT W + 1
    rw [List.length_append]
    split <;> simp <;> omega
  · show va_up (kF W) (kM W) _ 0 = 0
    rw [up _ _ 0 (by omega)]; exact h6
  · have b : m < kM W + 1 := b
    show (va_up (kP W) (kM W) (n, i) m).1 < m ∧ (va_up (kP W) (kM W) (n, i) m).1 < n + 1 ∧ (va_up (kP W) (kM W) (n, i) m).2 < 20 ∧ va_up (kF W) (kM W) (kF W n + 1) m = va_up (kF W) (kM W) (kF W n + 1) (va_up (kP W) (kM W) (n, i) m).1 + 1
    by_cases e : m = kM W
    · subst e
      rw [va_up_at, va_up_at, up _ _ n hn]
      exact ⟨hn, by show n < n + 1; omega, hi, rfl⟩
    · have q := h7 m a (by omega)
      rw [up _ _ m (by omega), up _ _ m (by omega), up _ _ _ (by omega)]
      exact q
  · have c : m' < kM W + 1 := c
    show (va_up (kP W) (kM W) (n, i) m).1 ≤ (va_up (kP W) (kM W) (n, i) m').1
    by_cases e : m' = kM W
    · subst e
      rw [va_up_at]
      by_cases e2 : m = kM W
      · subst e2; rw [va_up_at]; exact Nat.le_refl _
      · rw [up _ _ m (by omega)]
        have := (h7 m a (by omega)).2.1
        show _ ≤ n
        omega
    · rw [up _ _ m' (by omega), up _ _ m (by omega)]
      exact h8 m m' a b (by omega)
  · rcases List.mem_append.mp ht with ht | ht
    · have := h9 t ht
      exact ⟨this.1, by show t.2.1 < kM W + 1; omega, this.2.2⟩
    · split at ht
      · cases ht
      · have := List.mem_singleton.mp ht
        subst this
        exact ⟨bdF_le pr v, by show kM W < kM W + 1; omega, fun i hi => by cases hi⟩
theorem WkOk.bad {pr : Pr} {most vis n i b : Nat} {W : Wk} (h : WkOk pr most vis W) (hB : (kB W).length + 1 ≤ kT W + 1) (hb : b ≤ 5) (hn : n < kM W) (hi : i < 20) : WkOk pr most vis (badK W b n i) := by
  obtain ⟨h1, h2, h3, h4, h5, h6, h7, h8, h9⟩ := h
  refine ⟨h1, h2, h3, h4, ?_, h6, h7, h8, fun t ht => ?_⟩
  · show (kB W ++ _).length ≤ kT W + 1
    rw [List.length_append]
    simp; omega
  · rcases List.mem_append.mp ht with ht | ht
    · exact h9 t ht
    · have := List.mem_singleton.mp ht
      subst this
      exact ⟨hb, hn, fun j hj => by cases hj; exact hi⟩
theorem numK_lt {W : Wk} {v : Vc} {k : Nat} (h : numK W v = some k) : k < kM W := (fstR_some.mp h).1
theorem WkOk.try {pr : Pr} {most n i : Nat} {s : Sp} {W : Wk} (h : WkOk pr most (n + 1) W) (hP : pP pr ≤ 4) (hn : n < kM W) (hi : i < 20) (hs : SpOk pr (kV W n) s) : WkOk pr most (n + 1) (tryK pr most n i s W) := by
  have hv := (h.2.1 n hn).doF hP hs
  have hB := h.2.2.2.2.1
  have hd := doF_le pr (kV W n) s
  have ht : ∀ a, (kB (triK W a)).length + 1 ≤ kT (triK W a) + 1 := fun a => by show (kB W).length + 1 ≤ kT W + 1 + 1; omega
  unfold tryK
  split
  · exact h.tri.bad (ht _) (by omega) hn hi
  · cases hq : numK W (doF pr (kV W n) s).2.2 with
    | some k => exact h.tri.nex (by omega) hi (fun q e => by cases e; exact numK_lt hq)
    | none =>
      dsimp only
      split
      · rename_i hm
        exact (h.tri.add hn hi hv hm (ht _)).nex (by omega) hi (fun q e => by cases e; show kM W < kM W + 1; omega)
      · exact (h.tri.spe).nex (by omega) hi (fun q e => by cases e)
theorem try_keep (pr : Pr) (most n i : Nat) (s : Sp) (W : Wk) : kM W ≤ kM (tryK pr most n i s W) ∧ (∀ m, m < kM W → kV (tryK pr most n i s W) m = kV W m) ∧ kT (tryK pr most n i s W) = kT W + 1 := by
  unfold tryK
  split
  · exact ⟨Nat.le_refl _, fun _ _ => rfl, rfl⟩
  · cases numK W (doF pr (kV W n) s).2.2 with
    | some k => exact ⟨Nat.le_refl _, fun _ _ => rfl, rfl⟩
    | none =>
      dsimp only
      split
      · exact ⟨Nat.le_succ _, fun m hm => va_up_ne _ _ (by show m ≠ kM W; omega), rfl⟩
      · exact ⟨Nat.le_refl _, fun _ _ => rfl, rfl⟩
theorem visR_keep (pr : Pr) (most n : Nat) (l : List Sp) (W : Wk) : ∀ i, kM W ≤ kM (visR pr most n l i W) ∧ (∀ m, m < kM W → kV (visR pr most n l i W) m = kV W m) ∧ kT (visR pr most n l i W) ≤ kT W + i
  | 0 => ⟨Nat.le_refl _, fun _ _ => rfl, Nat.le_refl _⟩
  | i + 1 => by
    have ih := visR_keep pr most n l W i
    unfold visR
    cases l[i]? with
    | none => exact ⟨ih.1, ih.2.1, by have := ih.2.2; show kT (visR pr most n l i W) ≤ _; omega⟩
    | some s =>
      have t := try_keep pr most n i s (visR pr most n l i W)
      exact ⟨Nat.le_trans ih.1 t.1, fun m hm => (t.2.1 m (by have := ih.1; omega)).trans (ih.2.1 m hm), by have := t.2.2; have := ih.2.2; show kT (tryK pr most n i s (visR pr most n l i W)) ≤ _; omega⟩
theorem visR_ok {pr : Pr} {most n : Nat} {W : Wk} (hk : PrOk pr) (h : WkOk pr most n W) (hn : n < kM W) : ∀ i, WkOk pr most (n + 1) (visR pr most n (stepsF pr (kV W n)) i W)
  | 0 => h.mono (by omega)
  | i + 1 => by
    have ih := visR_ok hk h hn i
    have kp := visR_keep pr most n (stepsF pr (kV W n)) W i
    unfold visR
    cases hl : (stepsF pr (kV W n))[i]? with
    | none => exact ih
    | some s =>
      have hv := h.2.1 n hn
      have hi : i < (stepsF pr (kV W n)).length := (List.getElem?_eq_some_iff.mp hl).1
      have h20 := stepsF_le hk hv
      exact ih.try hk.1.2 (by have := kp.1; omega) (by omega) (by rw [kp.2.1 n hn]; exact stepsF_ok hv (List.mem_of_getElem? hl))
theorem bfs_ok {pr : Pr} {most : Nat} (hk : PrOk pr) (hm : 1 ≤ most) : ∀ n, WkOk pr most n (bfsR pr most n) ∧ kT (bfsR pr most n) ≤ 20 * n
  | 0 => by
    refine ⟨⟨⟨by show 1 ≤ 0 + 1; decide, hm⟩, fun m hm2 => ?_, fun m i _ => rfl, fun m i k hk => (by cases hk), ?_, rfl, fun m a b => by have : m < 0 + 1 := b; omega, fun m m' a b c => by have : m' < 0 + 1 := c; omega, fun t ht => ?_⟩, Nat.le_refl 0⟩
    · have : m = 0 := by have : m < 0 + 1 := hm2; omega
      subst this
      exact VOk_v0 hk.1.2
    · show ([] ++ _ : List _).length ≤ 0 + 1
      split <;> simp
    · have ht : t ∈ [] ++ (if bdF pr v0 = 0 then [] else [(bdF pr v0, 0, none)]) := ht
      rw [List.nil_append] at ht
      split at ht
      · cases ht
      · have := List.mem_singleton.mp ht
        subst this
        exact ⟨bdF_le pr v0, by show 0 < 0 + 1; decide, fun i hi => by cases hi⟩
  | n + 1 => by
    obtain ⟨ih, ht⟩ := bfs_ok hk hm n
    unfold bfsR
    split
    · rename_i hn
      have h20 := stepsF_le hk (ih.2.1 n hn)
      exact ⟨visR_ok hk ih hn _, by have := (visR_keep pr most n (stepsF pr (kV (bfsR pr most n) n)) (bfsR pr most n) (stepsF pr (kV (bfsR pr most n) n)).length).2.2; show kT (visF _ _ _ _) ≤ _; unfold visF; omega⟩
    · exact ⟨ih.mono (by omega), by omega⟩
theorem bfs_stop {pr : Pr} {most n : Nat} (h : kM (bfsR pr most n) ≤ n) : ∀ d, bfsR pr most (n + d) = bfsR pr most n
  | 0 => rfl
  | d + 1 => by
    have ih := bfs_stop h d
    show (if n + d < kM (bfsR pr most (n + d)) then _ else bfsR pr most (n + d)) = _
    rw [ih, if_neg (by omega)]
/-! the way to quiet states -/
def ldS (W : Wk) (L : Nat → Bool) (n : Nat) : Bool := (List.range 20).any (fun i => match kN W n i with
  | none => false
  | some m => L m)
def ldR (pr : Pr) (W : Wk) : Nat → Nat → Bool
  | 0, n => quF pr (kV W n)
  | k + 1, n => ldR pr W k n || ldS W (ldR pr W k) n
def LdP (pr : Pr) (W : Wk) (n : Nat) : Prop := ∃ k, ldR pr W k n = true
theorem ldS_iff {W : Wk} {L : Nat → Bool} {n : Nat} : ldS W L n = true ↔ ∃ i m, i < 20 ∧ kN W n i = some m ∧ L m = true := by
  unfold ldS
  rw [List.any_eq_true]
  constructor
  · rintro ⟨i, hi, h⟩
    cases hq : kN W n i with
    | none => rw [hq] at h; cases h
    | some m => rw [hq] at h; exact ⟨i, m, List.mem_range.mp hi, hq, h⟩
  · rintro ⟨i, m, hi, hq, h⟩
    exact ⟨i, List.mem_range.mpr hi, by rw [hq]; exact h⟩
theorem LdP.quiet {pr : Pr} {W : Wk} {n : Nat} (h : quF pr (kV W n) = true) : LdP pr W n := ⟨0, h⟩
theorem LdP.step {pr : Pr} {W : Wk} {n i m : Nat} (hi : i < 20) (hq : kN W n i = some m) (h : LdP pr W m) : LdP pr W n := by
  obtain ⟨k, hk⟩ := h
  refine ⟨k + 1, ?_⟩
  unfold ldR
  rw [ldS_iff.mpr ⟨i, m, hi, hq, hk⟩, Bool.or_true]
theorem LdP.least {pr : Pr} {W : Wk} (S : Nat → Prop) (h0 : ∀ n, quF pr (kV W n) = true → n < kM W → S n) (h1 : ∀ n i m, n < kM W → i < 20 → kN W n i = some m → m < kM W → S m → S n) (hN : ∀ n i m, kN W n i = some m → m < kM W) : ∀ (k n : Nat), n < kM W → ldR pr W k n = true → S n
  | 0, n, hn, h => h0 n h hn
  | k + 1, n, hn, h => by
    unfold ldR at h
    rcases Bool.or_eq_true _ _ |>.mp h with h | h
    · exact LdP.least S h0 h1 hN k n hn h
    · obtain ⟨i, m, hi, hq, hL⟩ := ldS_iff.mp h
      exact h1 n i m hn hi hq (hN n i m hq) (LdP.least S h0 h1 hN k m (hN n i m hq) hL)
/-! counts -/
def qcR (pr : Pr) (V : Nat → Vc) : Nat → Nat
  | 0 => 0
  | n + 1 => qcR pr V n + (quF pr (V n)).toNat
def skF (pr : Pr) (v : Vc) : Bool := decide ((stepsF pr v).length = 0) && !quF pr v
def smR (v : Vc) : Nat → Int64
  | 0 => 0
  | k + 1 => 31 * smR v k + (nI (v k)).toInt64
theorem smR_cong {v w : Vc} : ∀ k, (∀ j, j < k → v j = w j) → smR v k = smR w k
  | 0, _ => rfl
  | k + 1, h => by unfold smR; rw [smR_cong k (fun j hj => h j (by omega)), h k (by omega)]
theorem qcR_cong {pr : Pr} {V V2 : Nat → Vc} : ∀ n, (∀ m, m < n → V m = V2 m) → qcR pr V n = qcR pr V2 n
  | 0, _ => rfl
  | n + 1, h => by unfold qcR; rw [qcR_cong n (fun m hm => h m (by omega)), h n (by omega)]
theorem qcR_le (pr : Pr) (V : Nat → Vc) : ∀ n, qcR pr V n ≤ n
  | 0 => Nat.le_refl 0
  | n + 1 => by
    have := qcR_le pr V n
    have h1 : (quF pr (V n)).toNat ≤ 1 := by cases quF pr (V n) <;> decide
    unfold qcR
    omega
