/-! ===== what a step is, and what it does ===== -/
abbrev Lt : Type := Nat × Nat × Nat × Nat × Nat
/-- a new letter stands ahead of the letter at place j -/
def ahF (pr : Pr) (v : Vc) (x : Lt) (j : Nat) : Bool :=
  if x.2.1 ≠ v (17 + 5 * j) then decide (x.2.1 < v (17 + 5 * j)) else
  if x.2.2.1 ≠ v (18 + 5 * j) then decide (x.2.2.1 < v (18 + 5 * j)) else
  if pLo pr x.1 ≠ pLo pr (v (16 + 5 * j)) then decide (pLo pr x.1 < pLo pr (v (16 + 5 * j))) else
  if pLo pr x.1 = 0 then false else
  if x.1 ≠ v (16 + 5 * j) then decide (x.1 < v (16 + 5 * j)) else
  if x.2.2.2.1 ≠ v (19 + 5 * j) then decide (x.2.2.2.1 < v (19 + 5 * j)) else decide (x.2.2.2.2 < v (20 + 5 * j))
def posR (a : Nat → Bool) : Nat → Nat
  | 0 => 0
  | k + 1 => if a k then posR a k else k + 1
theorem posR_le (a : Nat → Bool) : ∀ k, posR a k ≤ k
  | 0 => Nat.le_refl 0
  | k + 1 => by
    unfold posR
    split
    · exact Nat.le_succ_of_le (posR_le a k)
    · exact Nat.le_refl _
def ltw (x : Lt) (w : Nat) : Nat := if w = 0 then x.1 else if w = 1 then x.2.1 else if w = 2 then x.2.2.1 else if w = 3 then x.2.2.2.1 else x.2.2.2.2
def insL (v : Vc) (p : Nat) (x : Lt) : Vc := fun j => if j < 15 then v j else if j = 15 then v 15 + 1 else if j < 16 + 5 * p then v j else if j < 16 + 5 * p + 5 then ltw x (j - (16 + 5 * p)) else v (j - 5)
def sendF (pr : Pr) (v : Vc) (x : Lt) : Bool × Vc := if v 15 = 8 then (false, v) else (true, insL v (posR (ahF pr v x) (v 15)) x)
def takeL (v : Vc) (i : Nat) : Vc := fun q => if q < 15 then v q else if q = 15 then v 15 - 1 else if q < 16 + 5 * i then v q else v (q + 5)
def staleF (pr : Pr) (v : Vc) (c : Nat) : Vc := fun q => if q = 13 then 0 else if q < 3 * pP pr ∧ q % 3 = 1 then (if q / 3 = c then 1 else 0) else if 16 ≤ q ∧ (q - 16) % 5 = 4 then 0 else v q
def mcF (pr : Pr) (arg hf : Nat) : Nat → Vc → Bool × Vc
  | 0, v => (true, v)
  | p + 1, v => if (mcF pr arg hf p v).1 = false then mcF pr arg hf p v else if p ≠ hf ∧ (mcF pr arg hf p v).2 14 / 2 ^ p % 2 = 1 then sendF pr (mcF pr arg hf p v).2 (arg, pP pr, p, hf, 0) else mcF pr arg hf p v
def b3 (b : Bool) : Nat := if b then 0 else 3
def hcl (h f : Nat) : Nat := if h / 2 ^ f % 2 = 1 then h - 2 ^ f else h
/-- an act of a cache, of the home: how it is bad, the scene, the data at hand -/
def caF (pr : Pr) (c hf op arg : Nat) (v : Vc) (hd : Nat) : Nat × Vc × Nat :=
  if op = 1 then (0, vset v (3 * c) arg, hd) else
  if op = 2 then (b3 (sendF pr v (arg, c, pP pr, c, 0)).1, (sendF pr v (arg, c, pP pr, c, 0)).2, hd) else
  if op = 3 then (b3 (sendF pr v (arg, c, pP pr, c, v (3 * c + 1))).1, (sendF pr v (arg, c, pP pr, c, v (3 * c + 1))).2, hd) else
  if op = 4 then (b3 (sendF pr v (arg, c, hf, hf, 0)).1, (sendF pr v (arg, c, hf, hf, 0)).2, hd) else
  if op = 5 then (b3 (sendF pr v (arg, c, hf, hf, v (3 * c + 1))).1, (sendF pr v (arg, c, hf, hf, v (3 * c + 1))).2, hd) else
  if op = 6 then (0, vset v (3 * c + 1) hd, hd) else
  if op = 7 then ((if v (3 * c + 1) = 0 then 2 else 0), vset v (3 * c + 2) 0, hd) else
  if op = 8 then (0, staleF pr (vset v (3 * c + 2) 0) c, 0) else (0, v, hd)
def hoF (pr : Pr) (hf op arg : Nat) (v : Vc) (hd : Nat) : Nat × Vc × Nat :=
  if op = 1 then (0, vset v 12 arg, hd) else
  if op = 2 then (b3 (sendF pr v (arg, pP pr, hf, hf, 0)).1, (sendF pr v (arg, pP pr, hf, hf, 0)).2, hd) else
  if op = 3 then (b3 (sendF pr v (arg, pP pr, hf, hf, v 13)).1, (sendF pr v (arg, pP pr, hf, hf, v 13)).2, hd) else
  if op = 4 then (b3 (mcF pr arg hf (pP pr) v).1, (mcF pr arg hf (pP pr) v).2, hd) else
  if op = 5 then (0, vset v 14 (v 14 ||| 1 * 2 ^ hf), hd) else
  if op = 6 then (0, vset v 14 (hcl (v 14) hf), hd) else
  if op = 7 then (0, vset v 14 0, hd) else
  if op = 8 then (0, vset v 13 hd, hd) else (0, v, hd)
def actF (pr : Pr) (who hf b : Nat) (v : Vc) (hd : Nat) : Nat × Vc × Nat := if who < pP pr then caF pr who hf (b / 16) (b % 16) v hd else hoF pr hf (b / 16) (b % 16) v hd
def acR (pr : Pr) (who hf : Nat) (f : Nat → Nat) : Nat → Nat × Vc × Nat → Nat × Vc × Nat
  | 0, s => s
  | k + 1, s => if (acR pr who hf f k s).1 ≠ 0 then acR pr who hf f k s else actF pr who hf (f k) (acR pr who hf f k s).2.1 (acR pr who hf f k s).2.2
/-- who, event, sender and place of the letter -/
abbrev Sp : Type := Nat × Nat × Option (Nat × Nat)
def frI (s : Sp) : Int32 := match s.2.2 with
  | none => -1
  | some q => nI q.1
def ltI (s : Sp) : Int32 := match s.2.2 with
  | none => -1
  | some q => nI q.2
def plcF (pr : Pr) (v : Vc) (s : Sp) : Nat := match s.2.2 with
  | none => v (3 * s.1) * 64 + s.2.1
  | some q => rowOf pr v q.2
def hfF (v : Vc) (s : Sp) : Nat := match s.2.2 with
  | none => s.1
  | some q => v (19 + 5 * q.2)
def upF (v : Vc) (s : Sp) : Vc × Nat := match s.2.2 with
  | none => (vset v (3 * s.1 + 2) (if s.2.1 < 2 then s.2.1 + 1 else 0), 0)
  | some q => (takeL v q.2, v (20 + 5 * q.2))
/-- a step: how it is bad, the row that is used, the scene behind it -/
def doF (pr : Pr) (v : Vc) (s : Sp) : Nat × Option Nat × Vc := match pAm pr (plcF pr v s) with
  | none => (1, none, (upF v s).1)
  | some m => ((acR pr s.1 (hfF v s) (pAc pr (plcF pr v s)) m (0, upF v s)).1, some (plcF pr v s), (acR pr s.1 (hfF v s) (pAc pr (plcF pr v s)) m (0, upF v s)).2.1)
/-! the steps of a scene -/
def ownR (pr : Pr) (v : Vc) (p : Nat) : Nat → List Sp
  | 0 => []
  | e + 1 => ownR pr v p e ++ (if v (3 * p + 2) = 0 ∧ (pAm pr (v (3 * p) * 64 + e)).isSome = true ∧ wtF pr (v (3 * p) * 64 + e) = false then [(p, e, none)] else [])
def ownsR (pr : Pr) (v : Vc) : Nat → List Sp
  | 0 => []
  | p + 1 => ownsR pr v p ++ ownR pr v p 3
def bhT (pr : Pr) (v : Vc) (i j : Nat) : Bool := decide (pLo pr (v (16 + 5 * i)) = 0 ∧ pLo pr (v (16 + 5 * j)) = 0 ∧ v (17 + 5 * i) = v (17 + 5 * j) ∧ v (18 + 5 * i) = v (18 + 5 * j))
def bhR (pr : Pr) (v : Vc) (i : Nat) : Nat → Bool
  | 0 => false
  | j + 1 => bhR pr v i j || bhT pr v i j
def comR (pr : Pr) (v : Vc) : Nat → List Sp
  | 0 => []
  | i + 1 => comR pr v i ++ (if bhR pr v i i = false ∧ wtF pr (rowOf pr v i) = false then [(v (18 + 5 * i), 3 + v (16 + 5 * i), some (v (17 + 5 * i), i))] else [])
def stepsF (pr : Pr) (v : Vc) : List Sp := ownsR pr v (pP pr) ++ comR pr v (v 15)
theorem ownR_le (pr : Pr) (v : Vc) (p : Nat) : ∀ e, (ownR pr v p e).length ≤ e
  | 0 => Nat.le_refl 0
  | e + 1 => by
    unfold ownR
    rw [List.length_append]
    have := ownR_le pr v p e
    split <;> simp <;> omega
theorem ownsR_le (pr : Pr) (v : Vc) : ∀ p, (ownsR pr v p).length ≤ 3 * p
  | 0 => Nat.le_refl 0
  | p + 1 => by
    unfold ownsR
    rw [List.length_append]
    have := ownsR_le pr v p
    have := ownR_le pr v p 3
    omega
theorem comR_le (pr : Pr) (v : Vc) : ∀ i, (comR pr v i).length ≤ i
  | 0 => Nat.le_refl 0
  | i + 1 => by
    unfold comR
    rw [List.length_append]
    have := comR_le pr v i
    split <;> simp <;> omega
theorem stepsF_le {pr : Pr} {v : Vc} (hk : PrOk pr) (hv : VOk pr v) : (stepsF pr v).length ≤ 20 := by
  unfold stepsF
  rw [List.length_append]
  have := ownsR_le pr v (pP pr)
  have := comR_le pr v (v 15)
  have := hk.1
  have := hv.2.2.2.2.1
  omega
/-- a step of a scene is one of these -/
def SpOk (pr : Pr) (v : Vc) (s : Sp) : Prop := (s.2.2 = none → s.1 < pP pr ∧ s.2.1 < 3) ∧ (∀ q, s.2.2 = some q → s.1 ≤ pP pr ∧ s.1 = v (18 + 5 * q.2) ∧ s.2.1 = 3 + v (16 + 5 * q.2) ∧ q.1 = v (17 + 5 * q.2) ∧ q.2 < v 15)
theorem ownR_ok {pr : Pr} {v : Vc} {p : Nat} (hp : p < pP pr) : ∀ e, e ≤ 3 → ∀ s, s ∈ ownR pr v p e → SpOk pr v s
  | 0, _, s, h => by cases h
  | e + 1, he, s, h => by
    unfold ownR at h
    rcases List.mem_append.mp h with h | h
    · exact ownR_ok hp e (by omega) s h
    · split at h
      · have := List.mem_singleton.mp h
        subst this
        exact ⟨fun _ => ⟨hp, by show e < 3; omega⟩, fun q hq => by cases hq⟩
      · cases h
theorem ownsR_ok {pr : Pr} {v : Vc} : ∀ p, p ≤ pP pr → ∀ s, s ∈ ownsR pr v p → SpOk pr v s
  | 0, _, s, h => by cases h
  | p + 1, hp, s, h => by
    unfold ownsR at h
    rcases List.mem_append.mp h with h | h
    · exact ownsR_ok p (by omega) s h
    · exact ownR_ok (by omega) 3 (Nat.le_refl 3) s h
theorem comR_ok {pr : Pr} {v : Vc} (hv : VOk pr v) : ∀ i, i ≤ v 15 → ∀ s, s ∈ comR pr v i → SpOk pr v s
  | 0, _, s, h => by cases h
  | i + 1, hi, s, h => by
    unfold comR at h
    rcases List.mem_append.mp h with h | h
    · exact comR_ok hv i (by omega) s h
    · split at h
      · have := List.mem_singleton.mp h
        subst this
        refine ⟨fun q => (by cases q), fun q hq => ?_⟩
        cases hq
        exact ⟨(hv.2.2.2.2.2.1 i (by omega)).2.2.1, rfl, rfl, rfl, by show i < _; omega⟩
      · cases h
theorem stepsF_ok {pr : Pr} {v : Vc} (hv : VOk pr v) {s : Sp} (h : s ∈ stepsF pr v) : SpOk pr v s := by
  unfold stepsF at h
  rcases List.mem_append.mp h with h | h
  · exact ownsR_ok _ (Nat.le_refl _) s h
  · exact comR_ok hv _ (Nat.le_refl _) s h
theorem plcF_lt {pr : Pr} {v : Vc} (hv : VOk pr v) {s : Sp} (h : SpOk pr v s) : plcF pr v s < 2048 := by
  unfold plcF
  cases hs : s.2.2 with
  | none =>
    obtain ⟨h1, h2⟩ := h.1 hs
    have := (hv.1 _ h1).1
    show v (3 * s.1) * 64 + s.2.1 < 2048
    omega
  | some q => exact rowOf_lt hv (h.2 q hs).2.2.2.2
/-! what holds of a scene goes on to hold -/
theorem VOk.send {pr : Pr} {v : Vc} {x : Lt} (hv : VOk pr v) (h1 : x.1 < 16) (h2 : x.2.1 ≤ pP pr) (h3 : x.2.2.1 ≤ pP pr) (h4 : x.2.2.2.1 < pP pr) (h5 : x.2.2.2.2 < 2) (hP : pP pr ≤ 4) : VOk pr (sendF pr v x).2 := by
  unfold sendF
  by_cases hc : v 15 = 8
  · rw [if_pos hc]; exact hv
  rw [if_neg hc]
  have hp := posR_le (ahF pr v x) (v 15)
  show VOk pr (insL v (posR (ahF pr v x) (v 15)) x)
  generalize posR (ahF pr v x) (v 15) = p at hp
  obtain ⟨a1, a2, a3, a4, a5, a6, a7, a8⟩ := hv
  have low : ∀ j, j < 15 → insL v p x j = v j := fun j hj => by simp [insL, hj]
  have e15 : insL v p x 15 = v 15 + 1 := by simp [insL]
  refine ⟨fun q hq => ?_, by rw [low 12 (by decide)]; exact a2, by rw [low 13 (by decide)]; exact a3, by rw [low 14 (by decide)]; exact a4, by rw [e15]; omega, fun i hi => ?_, fun j h1 h2 => by rw [low j (by omega)]; exact a7 j h1 h2, fun j hj => ?_⟩
  · rw [low _ (by omega), low _ (by omega), low _ (by omega)]
    exact a1 q hq
  · rw [e15] at hi
    rcases Nat.lt_trichotomy i p with h | h | h
    · have g := a6 i (by omega)
      have t : ∀ w, w < 5 → insL v p x (16 + w + 5 * i) = v (16 + w + 5 * i) := fun w hw => by unfold insL; rw [if_neg (by omega), if_neg (by omega), if_pos (by omega)]
      rw [t 0 (by decide), t 1 (by decide), t 2 (by decide), t 3 (by decide), t 4 (by decide)]
      exact g
    · subst h
      have t : ∀ w, w < 5 → insL v i x (16 + w + 5 * i) = ltw x w := fun w hw => by
        unfold insL; rw [if_neg (by omega), if_neg (by omega), if_neg (by omega), if_pos (by omega)]
        congr 1; omega
      rw [t 0 (by decide), t 1 (by decide), t 2 (by decide), t 3 (by decide), t 4 (by decide)]
      exact ⟨h1, h2, h3, h4, h5⟩
    · have g := a6 (i - 1) (by omega)
      have t : ∀ w, w < 5 → insL v p x (16 + w + 5 * i) = v (16 + w + 5 * (i - 1)) := fun w hw => by
        unfold insL; rw [if_neg (by omega), if_neg (by omega), if_neg (by omega), if_neg (by omega)]
        congr 1; omega
      rw [t 0 (by decide), t 1 (by decide), t 2 (by decide), t 3 (by decide), t 4 (by decide)]
      exact g
  · rw [e15] at hj
    unfold insL
    rw [if_neg (by omega), if_neg (by omega), if_neg (by omega), if_neg (by omega)]
    exact a8 _ (by omega)
theorem VOk.take {pr : Pr} {v : Vc} {i : Nat} (hv : VOk pr v) (hi : i < v 15) (hP : pP pr ≤ 4) : VOk pr (takeL v i) := by
  obtain ⟨a1, a2, a3, a4, a5, a6, a7, a8⟩ := hv
  have low : ∀ j, j < 15 → takeL v i j = v j := fun j hj => by simp [takeL, hj]
  have e15 : takeL v i 15 = v 15 - 1 := by simp [takeL]
  refine ⟨fun q hq => ?_, by rw [low 12 (by decide)]; exact a2, by rw [low 13 (by decide)]; exact a3, by rw [low 14 (by decide)]; exact a4, by rw [e15]; omega, fun j hj => ?_, fun j h1 h2 => by rw [low j (by omega)]; exact a7 j h1 h2, fun j hj => ?_⟩
  · rw [low _ (by omega), low _ (by omega), low _ (by omega)]
    exact a1 q hq
  · rw [e15] at hj
    by_cases h : j < i
    · have t : ∀ w, w < 5 → takeL v i (16 + w + 5 * j) = v (16 + w + 5 * j) := fun w hw => by unfold takeL; rw [if_neg (by omega), if_neg (by omega), if_pos (by omega)]
      rw [t 0 (by decide), t 1 (by decide), t 2 (by decide), t 3 (by decide), t 4 (by decide)]
      exact a6 j (by omega)
    · have t : ∀ w, w < 5 → takeL v i (16 + w + 5 * j) = v (16 + w + 5 * (j + 1)) := fun w hw => by
        unfold takeL; rw [if_neg (by omega), if_neg (by omega), if_neg (by omega)]
        congr 1
      rw [t 0 (by decide), t 1 (by decide), t 2 (by decide), t 3 (by decide), t 4 (by decide)]
      exact a6 (j + 1) (by omega)
  · rw [e15] at hj
    unfold takeL
    rw [if_neg (by omega), if_neg (by omega)]
    split
    · omega
    · exact a8 _ (by omega)
theorem VOk.cell {pr : Pr} {v : Vc} {p w x : Nat} (hv : VOk pr v) (hp : p < pP pr) (hP : pP pr ≤ 4) (hw : (w = 0 ∧ x < 16) ∨ (w = 1 ∧ x < 2) ∨ (w = 2 ∧ x < 3)) : VOk pr (vset v (3 * p + w) x) := by
  obtain ⟨a1, a2, a3, a4, a5, a6, a7, a8⟩ := hv
  have far : ∀ j, j ≠ 3 * p + w → vset v (3 * p + w) x j = v j := fun j hj => vset_n v x hj
  have e15 : vset v (3 * p + w) x 15 = v 15 := far 15 (by omega)
  refine ⟨fun q hq => ?_, by rw [far 12 (by omega)]; exact a2, by rw [far 13 (by omega)]; exact a3, by rw [far 14 (by omega)]; exact a4, by rw [e15]; exact a5, fun i hi => ?_, fun j h1 h2 => by rw [far j (by omega)]; exact a7 j h1 h2, fun j hj => ?_⟩
  · have := a1 q hq
    by_cases h : q = p
    · subst h
      rcases hw with ⟨rfl, hx⟩ | ⟨rfl, hx⟩ | ⟨rfl, hx⟩
      · rw [Nat.add_zero, vset_s, vset_n _ _ (by omega), vset_n _ _ (by omega)]; exact ⟨hx, this.2⟩
      · rw [vset_s, vset_n _ _ (by omega), vset_n _ _ (by omega)]; exact ⟨this.1, hx, this.2.2⟩
      · rw [vset_s, vset_n _ _ (by omega), vset_n _ _ (by omega)]; exact ⟨this.1, this.2.1, hx⟩
    · rw [far _ (by omega), far _ (by omega), far _ (by omega)]; exact this
  · rw [e15] at hi
    rw [far _ (by omega), far _ (by omega), far _ (by omega), far _ (by omega), far _ (by omega)]
    exact a6 i hi
  · rw [e15] at hj
    rw [far _ (by omega)]
    exact a8 j hj
theorem VOk.home {pr : Pr} {v : Vc} {w x : Nat} (hv : VOk pr v) (hP : pP pr ≤ 4) (hw : (w = 12 ∧ x < 16) ∨ (w = 13 ∧ x < 2) ∨ (w = 14 ∧ x < 16)) : VOk pr (vset v w x) := by
  obtain ⟨a1, a2, a3, a4, a5, a6, a7, a8⟩ := hv
  have far : ∀ j, j ≠ w → vset v w x j = v j := fun j hj => vset_n v x hj
  have e15 : vset v w x 15 = v 15 := far 15 (by omega)
  refine ⟨fun q hq => ?_, ?_, ?_, ?_, by rw [e15]; exact a5, fun i hi => ?_, fun j h1 h2 => by rw [far j (by omega)]; exact a7 j h1 h2, fun j hj => ?_⟩
  · rw [far _ (by omega), far _ (by omega), far _ (by omega)]; exact a1 q hq
  · by_cases h : w = 12
    · subst h; rw [vset_s]; omega
    · rw [far 12 (Ne.symm h)]; exact a2
  · by_cases h : w = 13
    · subst h; rw [vset_s]; omega
    · rw [far 13 (Ne.symm h)]; exact a3
  · by_cases h : w = 14
    · subst h; rw [vset_s]; omega
    · rw [far 14 (Ne.symm h)]; exact a4
  · rw [e15] at hi
    rw [far _ (by omega), far _ (by omega), far _ (by omega), far _ (by omega), far _ (by omega)]
    exact a6 i hi
  · rw [e15] at hj
    rw [far _ (by omega)]
    exact a8 j hj
theorem VOk.stale {pr : Pr} {v : Vc} {c : Nat} (hv : VOk pr v) (hP : pP pr ≤ 4) : VOk pr (staleF pr v c) := by
  obtain ⟨a1, a2, a3, a4, a5, a6, a7, a8⟩ := hv
  have e15 : staleF pr v c 15 = v 15 := by unfold staleF; rw [if_neg (by decide), if_neg (by omega), if_neg (by omega)]
  have le2 : ∀ q, q < 3 * pP pr → q % 3 = 1 → staleF pr v c q < 2 := fun q h1 h2 => by
    unfold staleF; rw [if_neg (by omega), if_pos ⟨h1, h2⟩]; split <;> omega
  refine ⟨fun q hq => ⟨?_, le2 _ (by omega) (by omega), ?_⟩, ?_, ?_, ?_, by rw [e15]; exact a5, fun i hi => ?_, fun j h1 h2 => ?_, fun j hj => ?_⟩
  · unfold staleF; rw [if_neg (by omega), if_neg (by omega), if_neg (by omega)]; exact (a1 q hq).1
  · unfold staleF; rw [if_neg (by omega), if_neg (by omega), if_neg (by omega)]; exact (a1 q hq).2.2
  · unfold staleF; rw [if_neg (by omega), if_neg (by omega), if_neg (by omega)]; exact a2
  · unfold staleF; rw [if_pos rfl]; decide
  · unfold staleF; rw [if_neg (by omega), if_neg (by omega), if_neg (by omega)]; exact a4
  · rw [e15] at hi
    have t : ∀ w, w < 4 → staleF pr v c (16 + w + 5 * i) = v (16 + w + 5 * i) := fun w hw => by unfold staleF; rw [if_neg (by omega), if_neg (by omega), if_neg (by omega)]
    rw [t 0 (by decide), t 1 (by decide), t 2 (by decide), t 3 (by decide)]
    refine ⟨(a6 i hi).1, (a6 i hi).2.1, (a6 i hi).2.2.1, (a6 i hi).2.2.2.1, ?_⟩
    unfold staleF; rw [if_neg (by omega), if_neg (by omega), if_pos (by omega)]; decide
  · unfold staleF
    rw [if_neg (by omega), if_neg (by omega), if_neg (by omega)]; exact a7 j h1 h2
  · rw [e15] at hj
    unfold staleF
    rw [if_neg (by omega), if_neg (by omega)]
    split
    · rfl
    · exact a8 j hj
theorem VOk.mc {pr : Pr} {arg hf : Nat} (ha : arg < 16) (hf0 : hf < pP pr) (hP : pP pr ≤ 4) : ∀ (p : Nat), p ≤ pP pr → ∀ v, VOk pr v → VOk pr (mcF pr arg hf p v).2
  | 0, _, v, hv => hv
  | p + 1, hp, v, hv => by
    have ih := VOk.mc ha hf0 hP p (by omega) v hv
    unfold mcF
    split
    · exact ih
    · split
      · exact ih.send ha (Nat.le_refl _) (by show p ≤ _; omega) hf0 (by show 0 < 2; decide) hP
      · exact ih
theorem or16 : ∀ h, h < 16 → ∀ f, f < 4 → h ||| 1 * 2 ^ f < 16 := by decide
theorem hcl16 : ∀ h, h < 16 → ∀ f, f < 4 → hcl h f < 16 := by decide
theorem hclI : ∀ h, h < 16 → ∀ f, f < 4 → othI h f = nI (hcl h f) := by decide
theorem VOk.ca {pr : Pr} {c hf op arg : Nat} {v : Vc} {hd : Nat} (hv : VOk pr v) (hP : pP pr ≤ 4) (hc : c < pP pr) (hf0 : hf < pP pr) (ha : arg < 16) (hd2 : hd < 2) : VOk pr (caF pr c hf op arg v hd).2.1 ∧ (caF pr c hf op arg v hd).2.2 < 2 := by
  have hc1 := (hv.1 c hc).2.1
  unfold caF
  split
  · exact ⟨hv.cell (w := 0) hc hP (Or.inl ⟨rfl, ha⟩), hd2⟩
  split
  · exact ⟨hv.send ha (Nat.le_of_lt hc) (Nat.le_refl _) hc (by show 0 < 2; decide) hP, hd2⟩
  split
  · exact ⟨hv.send ha (Nat.le_of_lt hc) (Nat.le_refl _) hc hc1 hP, hd2⟩
  split
  · exact ⟨hv.send ha (Nat.le_of_lt hc) (Nat.le_of_lt hf0) hf0 (by show 0 < 2; decide) hP, hd2⟩
  split
  · exact ⟨hv.send ha (Nat.le_of_lt hc) (Nat.le_of_lt hf0) hf0 hc1 hP, hd2⟩
  split
  · exact ⟨hv.cell hc hP (Or.inr (Or.inl ⟨rfl, hd2⟩)), hd2⟩
  split
  · exact ⟨hv.cell hc hP (Or.inr (Or.inr ⟨rfl, by decide⟩)), hd2⟩
  split
  · exact ⟨(hv.cell hc hP (Or.inr (Or.inr ⟨rfl, by decide⟩))).stale hP, by show 0 < 2; decide⟩
  · exact ⟨hv, hd2⟩
theorem VOk.ho {pr : Pr} {hf op arg : Nat} {v : Vc} {hd : Nat} (hv : VOk pr v) (hP : pP pr ≤ 4) (hf0 : hf < pP pr) (ha : arg < 16) (hd2 : hd < 2) : VOk pr (hoF pr hf op arg v hd).2.1 ∧ (hoF pr hf op arg v hd).2.2 < 2 := by
  have h13 := hv.2.2.1
  have h14 := hv.2.2.2.1
  unfold hoF
  split
  · exact ⟨hv.home hP (Or.inl ⟨rfl, ha⟩), hd2⟩
  split
  · exact ⟨hv.send ha (Nat.le_refl _) (Nat.le_of_lt hf0) hf0 (by show 0 < 2; decide) hP, hd2⟩
  split
  · exact ⟨hv.send ha (Nat.le_refl _) (Nat.le_of_lt hf0) hf0 h13 hP, hd2⟩
  split
  · exact ⟨VOk.mc ha hf0 hP _ (Nat.le_refl _) v hv, hd2⟩
  split
  · exact ⟨hv.home hP (Or.inr (Or.inr ⟨rfl, or16 _ h14 _ (by omega)⟩)), hd2⟩
  split
  · exact ⟨hv.home hP (Or.inr (Or.inr ⟨rfl, hcl16 _ h14 _ (by omega)⟩)), hd2⟩
  split
  · exact ⟨hv.home hP (Or.inr (Or.inr ⟨rfl, by decide⟩)), hd2⟩
  split
  · exact ⟨hv.home hP (Or.inr (Or.inl ⟨rfl, hd2⟩)), hd2⟩
  · exact ⟨hv, hd2⟩
theorem VOk.ac {pr : Pr} {who hf : Nat} {f : Nat → Nat} (hP : pP pr ≤ 4) (hf0 : hf < pP pr) : ∀ (k : Nat) (s : Nat × Vc × Nat), VOk pr s.2.1 → s.2.2 < 2 → VOk pr (acR pr who hf f k s).2.1 ∧ (acR pr who hf f k s).2.2 < 2
  | 0, s, hv, h2 => ⟨hv, h2⟩
  | k + 1, s, hv, h2 => by
    have ih := VOk.ac (who := who) (f := f) hP hf0 k s hv h2
    unfold acR
    split
    · exact ih
    · unfold actF
      split
      · rename_i hw
        exact ih.1.ca hP hw hf0 (Nat.mod_lt _ (by decide)) ih.2
      · exact ih.1.ho hP hf0 (Nat.mod_lt _ (by decide)) ih.2
theorem VOk.up {pr : Pr} {v : Vc} {s : Sp} (hv : VOk pr v) (hP : pP pr ≤ 4) (hs : SpOk pr v s) : VOk pr (upF v s).1 ∧ (upF v s).2 < 2 ∧ hfF v s < pP pr := by
  unfold upF hfF
  cases h : s.2.2 with
  | none =>
    obtain ⟨h1, h2⟩ := hs.1 h
    exact ⟨hv.cell h1 hP (Or.inr (Or.inr ⟨rfl, by split <;> omega⟩)), by show 0 < 2; decide, h1⟩
  | some q =>
    obtain ⟨h1, h2, h3, h4, h5⟩ := hs.2 q h
    have := hv.2.2.2.2.2.1 q.2 h5
    exact ⟨hv.take h5 hP, this.2.2.2.2, this.2.2.2.1⟩
theorem VOk.doF {pr : Pr} {v : Vc} {s : Sp} (hv : VOk pr v) (hP : pP pr ≤ 4) (hs : SpOk pr v s) : VOk pr (doF pr v s).2.2 := by
  obtain ⟨h1, h2, h3⟩ := hv.up hP hs
  unfold _root_.Jvm.Pilot.CCohereBenchLaw_law_r9828_5e64c7.doF
  split
  · exact h1
  · exact (VOk.ac hP h3 _ (0, upF v s) h1 h2).1
theorem VOk_v0 {pr : Pr} (hP : pP pr ≤ 4) : VOk pr v0 := by
  have z : ∀ j, j ≠ 13 → v0 j = 0 := fun j h => by simp [v0, h]
  refine ⟨fun p hp => ?_, by decide, by decide, by decide, by decide, fun i hi => ?_, fun j h1 h2 => z j (by omega), fun j hj => z j (by omega)⟩
  · rw [z _ (by omega), z _ (by omega), z _ (by omega)]; decide
  · rw [z 15 (by decide)] at hi; omega
