/-! ===== the words in which both sides are told: a scene is 56 numbers, a protocol its tables ===== -/
abbrev Vc : Type := Nat → Nat
def vset (v : Vc) (k x : Nat) : Vc := fun j => if j = k then x else v j
theorem vset_s (v : Vc) (k x : Nat) : vset v k x k = x := by simp [vset]
theorem vset_n (v : Vc) {k j : Nat} (x : Nat) (h : j ≠ k) : vset v k x j = v j := by simp [vset, h]
def v0 : Vc := fun j => if j = 13 then 1 else 0
abbrev Pr : Type := Nat × (Nat → Nat) × (Nat → Nat) × (Nat → Option Nat) × (Nat → Nat → Nat)
abbrev pP (pr : Pr) : Nat := pr.1
abbrev pLo (pr : Pr) : Nat → Nat := pr.2.1
abbrev pRi (pr : Pr) : Nat → Nat := pr.2.2.1
abbrev pAm (pr : Pr) : Nat → Option Nat := pr.2.2.2.1
abbrev pAc (pr : Pr) : Nat → Nat → Nat := pr.2.2.2.2
def amv (a : Option Nat) : Int32 := match a with
  | none => -1
  | some n => nI n
def PrOk (pr : Pr) : Prop := (1 ≤ pP pr ∧ pP pr ≤ 4) ∧ (∀ k, pLo pr k ≤ 1) ∧ (∀ s, pRi pr s ≤ 2) ∧ (∀ a n, pAm pr a = some n → n ≤ 8) ∧ (∀ a k, pAc pr a k < 256)
def VOk (pr : Pr) (v : Vc) : Prop := (∀ p, p < pP pr → v (3 * p) < 16 ∧ v (3 * p + 1) < 2 ∧ v (3 * p + 2) < 3) ∧ v 12 < 16 ∧ v 13 < 2 ∧ v 14 < 16 ∧ v 15 ≤ 8 ∧ (∀ i, i < v 15 → v (16 + 5 * i) < 16 ∧ v (17 + 5 * i) ≤ pP pr ∧ v (18 + 5 * i) ≤ pP pr ∧ v (19 + 5 * i) < pP pr ∧ v (20 + 5 * i) < 2) ∧ (∀ j, 3 * pP pr ≤ j → j < 12 → v j = 0) ∧ (∀ j, 16 + 5 * v 15 ≤ j → v j = 0)
/-- does one of the first acts say 'wait' -/
def wtR (f : Nat → Nat) : Nat → Bool
  | 0 => false
  | k + 1 => wtR f k || f k / 16 == 9
def wtF (pr : Pr) (a : Nat) : Bool := match pAm pr a with
  | none => false
  | some n => wtR (pAc pr a) n
def othI (h f : Nat) : Int32 := nI h &&& (nI (1 * 2 ^ f) ^^^ (-1))
def rowOf (pr : Pr) (v : Vc) (i : Nat) : Nat := if v (18 + 5 * i) < pP pr then v (3 * v (18 + 5 * i)) * 64 + 3 + v (16 + 5 * i) else 1024 + v 12 * 64 + 2 * v (16 + 5 * i) + (if othI (v 14) (v (19 + 5 * i)) = 0 then 0 else 1)
theorem rowOf_lt {pr : Pr} {v : Vc} {i : Nat} (hv : VOk pr v) (hi : i < v 15) : rowOf pr v i < 2048 := by
  obtain ⟨h1, h2, h3, h4, h5, h6, h7, h8⟩ := hv
  obtain ⟨g1, g2, g3, g4, g5⟩ := h6 i hi
  unfold rowOf
  split
  · rename_i hq
    have := (h1 _ hq).1
    omega
  · split <;> omega
/-- what a part of the state keeps -/
def Off (σ σ2 : Sg) (S : List Nat) : Prop := ∀ a, a ∉ S → σ2 a = σ a
theorem Off.rf {σ : Sg} {S : List Nat} : Off σ σ S := fun _ _ => rfl
theorem Off.trans {σ σ2 σ3 : Sg} {S : List Nat} (h : Off σ σ2 S) (h2 : Off σ2 σ3 S) : Off σ σ3 S := fun a ha => (h2 a ha).trans (h a ha)
theorem Off.mono {σ σ2 : Sg} {S S2 : List Nat} (h : Off σ σ2 S) (hs : ∀ a, a ∈ S → a ∈ S2) : Off σ σ2 S2 := fun a ha => h a (fun q => ha (hs a q))
theorem Off.up {σ : Sg} {S : List Nat} {a : Nat} {c : (Nat → Int32) × (Nat → Int64)} (ha : a ∈ S) : Off σ (va_up σ a c) S := fun q hq => by
  have : q ≠ a := fun e => hq (e ▸ ha)
  simp [va_up, this]
theorem Off.wI {σ σ1 : Sg} {S : List Nat} {a k : Nat} {x : Int32} (h : Off σ σ1 S) (ha : a ∈ S) : Off σ (wI σ1 a k x) S := h.trans (Off.up ha)
theorem Off.wA {σ σ1 : Sg} {S : List Nat} {a : Nat} {f : Nat → Int32} (h : Off σ σ1 S) (ha : a ∈ S) : Off σ (wA σ1 a f) S := h.trans (Off.up ha)
theorem Off.wL {σ σ1 : Sg} {S : List Nat} {a k : Nat} {x : Int64} (h : Off σ σ1 S) (ha : a ∈ S) : Off σ (wL σ1 a k x) S := h.trans (Off.up ha)
/-- the fields of one object that are kept, and all other cells but those of S -/
def Fr (o : Nat) (σ σ2 : Sg) (S K : List Nat) : Prop := (∀ a, a ∉ S → a ≠ o → σ2 a = σ a) ∧ (∀ k, k ∉ K → (σ2 o).1 k = (σ o).1 k) ∧ (σ2 o).2 = (σ o).2
theorem Fr.rf {o : Nat} {σ : Sg} {S K : List Nat} : Fr o σ σ S K := ⟨fun _ _ _ => rfl, fun _ _ => rfl, rfl⟩
theorem Fr.trans {o : Nat} {σ σ2 σ3 : Sg} {S K : List Nat} (h : Fr o σ σ2 S K) (h2 : Fr o σ2 σ3 S K) : Fr o σ σ3 S K := ⟨fun a ha hb => (h2.1 a ha hb).trans (h.1 a ha hb), fun k hk => (h2.2.1 k hk).trans (h.2.1 k hk), h2.2.2.trans h.2.2⟩
theorem Fr.mono {o : Nat} {σ σ2 : Sg} {S K S2 K2 : List Nat} (h : Fr o σ σ2 S K) (hs : ∀ a, a ∈ S → a ∈ S2) (hk : ∀ a, a ∈ K → a ∈ K2) : Fr o σ σ2 S2 K2 := ⟨fun a ha hb => h.1 a (fun q => ha (hs a q)) hb, fun k q => h.2.1 k (fun z => q (hk k z)), h.2.2⟩
theorem Fr.of {o : Nat} {σ σ2 : Sg} {S K : List Nat} (h : Off σ σ2 S) (ho : o ∉ S) : Fr o σ σ2 S K := ⟨fun a ha _ => h a ha, fun k _ => by rw [h o ho], by rw [h o ho]⟩
theorem Fr.wI {o : Nat} {σ σ1 : Sg} {S K : List Nat} {a k : Nat} {x : Int32} (h : Fr o σ σ1 S K) (ha : a ∈ S) (ho : a ≠ o) : Fr o σ (wI σ1 a k x) S K := h.trans ⟨fun q hq _ => Off.up (σ := σ1) ha q hq, fun k _ => by simp [_root_.Jvm.Pilot.CCohereBenchLaw_law_r9828_5e64c7.wI, va_up, Ne.symm ho], by simp [_root_.Jvm.Pilot.CCohereBenchLaw_law_r9828_5e64c7.wI, va_up, Ne.symm ho]⟩
theorem Fr.put {o : Nat} {σ σ1 : Sg} {S K : List Nat} {k : Nat} {x : Int32} (h : Fr o σ σ1 S K) (hk : k ∈ K) : Fr o σ (_root_.Jvm.Pilot.CCohereBenchLaw_law_r9828_5e64c7.wI σ1 o k x) S K := h.trans ⟨fun q _ hq => by simp [_root_.Jvm.Pilot.CCohereBenchLaw_law_r9828_5e64c7.wI, va_up, hq], fun j hj => by
  have : j ≠ k := fun e => hj (e ▸ hk)
  simp [_root_.Jvm.Pilot.CCohereBenchLaw_law_r9828_5e64c7.wI, va_up, upd, this], by simp [_root_.Jvm.Pilot.CCohereBenchLaw_law_r9828_5e64c7.wI, va_up]⟩
theorem wI_s (σ : Sg) (a k : Nat) (x : Int32) : (wI σ a k x a).1 k = x := by simp [wI, va_up, upd]
theorem wI_k (σ : Sg) {a k j : Nat} (x : Int32) (h : j ≠ k) : (wI σ a k x a).1 j = (σ a).1 j := by simp [wI, va_up, upd, h]
theorem wI_a (σ : Sg) {a b k : Nat} (x : Int32) (h : b ≠ a) : wI σ a k x b = σ b := by simp [wI, va_up, h]
theorem wI_2 (σ : Sg) (a k b : Nat) (x : Int32) : (wI σ a k x b).2 = (σ b).2 := by
  by_cases h : b = a
  · subst h; simp [wI, va_up]
  · simp [wI, va_up, h]
theorem wI_f (σ : Sg) (a k : Nat) (x : Int32) : (wI σ a k x a).1 = upd (σ a).1 k x := by simp [wI, va_up]
theorem wA_f (σ : Sg) (a : Nat) (f : Nat → Int32) : (wA σ a f a).1 = f := by simp [wA, va_up]
theorem wA_a (σ : Sg) {a b : Nat} (f : Nat → Int32) (h : b ≠ a) : wA σ a f b = σ b := by simp [wA, va_up, h]
theorem wI_wA (σ : Sg) (a k : Nat) (f : Nat → Int32) (x : Int32) : wI (wA σ a f) a k x = wA σ a (upd f k x) := by
  funext q
  by_cases h : q = a
  · subst h; simp [wI, wA, va_up]
  · simp [wI, wA, va_up, h]
theorem wA_self (σ : Sg) (a : Nat) : wA σ a (σ a).1 = σ := by
  funext q
  by_cases h : q = a
  · subst h; simp [wA, va_up]
  · simp [wA, va_up, h]
theorem wI_eq (σ : Sg) (a k : Nat) (x : Int32) : wI σ a k x = wA σ a (upd (σ a).1 k x) := rfl
theorem cpy_0 (f g : Nat → Int32) (a b : Nat) : va_cpy f g a b 0 = g := by
  funext j
  simp [va_cpy]
  intro h1 h2
  omega
theorem cpy_s (f g : Nat → Int32) (a b k : Nat) : upd (va_cpy f g a b k) (b + k) (f (a + k)) = va_cpy f g a b (k + 1) := by
  funext j
  by_cases h : j = b + k
  · subst h
    rw [pk_us, pk_cpy_in (by omega) (by omega)]
    congr 1
    omega
  · rw [pk_un h]
    by_cases h2 : b ≤ j ∧ j < b + k
    · rw [pk_cpy_in h2.1 h2.2, pk_cpy_in (by omega) (by omega)]
    · rw [pk_cpy_out (by omega), pk_cpy_out (by omega)]
theorem s_gen {n : Nat} {M : MI} {X : CT} {Z : State → Prop} {pc : Nat} {L : List (Option Value)} {st : List Value} {σ : Sg} (k : ∀ σ2, σ2 = σ → Sw n M X Z pc L st σ2) : Sw n M X Z pc L st σ := k σ rfl
def bI (b : Bool) : Int32 := nI b.toNat
theorem bI_01 (b : Bool) : bI b = 0 ∨ bI b = 1 := by cases b <;> decide
