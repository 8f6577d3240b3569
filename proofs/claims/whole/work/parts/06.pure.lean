/-! ===== the pure state: what the cells hold, by their addresses ===== -/
abbrev Sg : Type := Nat → (Nat → Int32) × (Nat → Int64)
abbrev Kd : Type := Option (Option Nat)
abbrev Sh : Type := (Nat × List Kd) ⊕ (Nat × Nat)
def shl : List Sh := [.inl (9, [some (some 1), some (some 9), some (some 10), some (some 12), some (some 14), some (some 20), none]),
  .inl (5, [none, some (some 2), some (some 3), some (some 4), some (some 5), some (some 6), some (some 7), some (some 8)]),
  .inr (0, 16),
  .inr (0, 16),
  .inr (0, 2048),
  .inr (0, 2048),
  .inr (0, 2048),
  .inr (1, 2048),
  .inr (0, 2),
  .inl (0, [some (some 1), none, none, none]),
  .inl (6, [some none, none, some (some 11)]),
  .inr (0, 8),
  .inl (6, [some none, none, some (some 13)]),
  .inr (0, 8),
  .inl (8, [some (some 1), some (some 15), some (some 16), some (some 17), some (some 18), some (some 19), none]),
  .inr (0, 20),
  .inr (0, 20),
  .inr (0, 20),
  .inr (0, 20),
  .inr (0, 20),
  .inl (1, [some (some 1), some (some 9), some (some 21), some (some 23), some (some 25), some (some 31), some (some 36), some (some 40), some (some 42), some (some 44), some (some 50), some (some 51), some (some 52), none, none, none, none]),
  .inl (6, [some none, none, some (some 22)]),
  .inr (0, 8),
  .inl (6, [some none, none, some (some 24)]),
  .inr (0, 8),
  .inl (8, [some (some 1), some (some 26), some (some 27), some (some 28), some (some 29), some (some 30), none]),
  .inr (0, 20),
  .inr (0, 20),
  .inr (0, 20),
  .inr (0, 20),
  .inr (0, 20),
  .inl (7, [some (some 32), some (some 33), some (some 34), some (some 35), none]),
  .inr (2, 4000),
  .inr (2, 4000),
  .inr (2, 4000),
  .inr (0, 8192),
  .inl (3, [some (some 37), some (some 38), some (some 39), none]),
  .inr (0, 200),
  .inr (0, 200),
  .inr (0, 200),
  .inl (4, [some (some 41), none]),
  .inr (0, 4000),
  .inl (4, [some (some 43), none]),
  .inr (0, 4000),
  .inl (2, [some (some 45), some (some 46), some (some 47), some (some 48)]),
  .inr (0, 4000),
  .inr (0, 80000),
  .inr (1, 4000),
  .inl (4, [some (some 49), none]),
  .inr (0, 4000),
  .inr (0, 4000),
  .inr (0, 4000),
  .inr (0, 2048),
  .inl (10, [none, some (some 54), some (some 55), some (some 56), some (some 57), some (some 58), some (some 59), some (some 60), some (some 61), none, none, none, some (some 62), some (some 63), some (some 64), some (some 65), none, some (some 66), some (some 67), some (some 68), some (some 69), some (some 70), some (some 71), some (some 72), some (some 73), none, none, none, some (some 74), some (some 75), some (some 76), none, none, none, none]),
  .inr (0, 16),
  .inr (0, 16),
  .inr (0, 2048),
  .inr (0, 16384),
  .inr (1, 2048),
  .inr (0, 56),
  .inr (0, 56),
  .inr (0, 56),
  .inr (0, 20),
  .inr (0, 20),
  .inr (0, 20),
  .inr (0, 20),
  .inr (0, 224000),
  .inr (2, 4000),
  .inr (0, 4000),
  .inr (0, 4000),
  .inr (0, 4000),
  .inr (0, 80000),
  .inr (1, 4000),
  .inr (1, 4000),
  .inr (0, 200),
  .inr (0, 200),
  .inr (0, 200)]
def sh (a : Nat) : Sh := shl.getD a (.inr (0, 0))
def kdv (c : (Nat → Int32) × (Nat → Int64)) (k : Nat) (q : Kd) : Value := match q with
  | none => .int (c.1 k)
  | some none => .long (c.2 k)
  | some (some r) => .ref r
def cel (σ : Sg) (a : Nat) : AC := match sh a with
  | .inl x => .inr (x.1, x.2.mapIdx (fun k q => kdv (σ a) k q))
  | .inr x => if x.1 = 2 then .inl (2, x.2, .inr (.inl (σ a).2)) else .inl (x.1, x.2, .inl (σ a).1)
def St (n : Nat) (σ : Sg) (h : List AC) : Prop := h.length = n ∧ ∀ a, a < n → h[a]? = some (cel σ a)
def wI (σ : Sg) (a k : Nat) (x : Int32) : Sg := va_up σ a (upd (σ a).1 k x, (σ a).2)
def wL (σ : Sg) (a k : Nat) (x : Int64) : Sg := va_up σ a ((σ a).1, vp_updL (σ a).2 k x)
def wA (σ : Sg) (a : Nat) (f : Nat → Int32) : Sg := va_up σ a (f, (σ a).2)
theorem cel_up {σ : Sg} {a a' : Nat} {c : (Nat → Int32) × (Nat → Int64)} (h : a' ≠ a) : cel (va_up σ a c) a' = cel σ a' := by
  have e : va_up σ a c a' = σ a' := by simp [va_up, h]
  unfold cel
  rw [e]
theorem St.up {n : Nat} {σ : Sg} {h : List AC} {a : Nat} {c : (Nat → Int32) × (Nat → Int64)} {x : AC} (hs : St n σ h) (ha : a < n) (hx : cel (va_up σ a c) a = x) : St n (va_up σ a c) (h.set a x) := by
  refine ⟨by rw [List.length_set]; exact hs.1, fun q hq => ?_⟩
  by_cases e : q = a
  · subst e
    rw [List.getElem?_set_self (by rw [hs.1]; exact hq), hx]
  · rw [List.getElem?_set_ne (Ne.symm e), hs.2 q hq, cel_up e]
theorem cel_obj {σ : Sg} {a ci : Nat} {ks : List Kd} (e : sh a = .inl (ci, ks)) : cel σ a = .inr (ci, ks.mapIdx (fun k q => kdv (σ a) k q)) := by unfold cel; rw [e]
theorem cel_ai {σ : Sg} {a t n : Nat} (e : sh a = .inr (t, n)) (ht : t ≠ 2) : cel σ a = .inl (t, n, .inl (σ a).1) := by unfold cel; rw [e]; simp [ht]
theorem cel_al {σ : Sg} {a n : Nat} (e : sh a = .inr (2, n)) : cel σ a = .inl (2, n, .inr (.inl (σ a).2)) := by unfold cel; rw [e]; rfl
theorem va_up_at {α : Type} (f : Nat → α) (k : Nat) (v : α) : va_up f k v k = v := by simp [va_up]
def Sw (n : Nat) (M : MI) (X : CT) (Z : State → Prop) (pc : Nat) (L : List (Option Value)) (st : List Value) (σ : Sg) : Prop := ∀ h, St n σ h → Ew M X Z pc L st h 0 0
def Sm (n : Nat) (M : MI) (args : List Value) (σ : Sg) (Q : Option Value → Sg → Prop) : Prop := ∀ h, St n σ h → Em M args h (fun r h' => ∃ σ', Q r σ' ∧ St n σ' h')
def ZS (n : Nat) (M : MI) (Q : Option Value → Sg → Prop) (X : CT) : State → Prop := Zm M n (fun r h' => ∃ σ', Q r σ' ∧ St n σ' h') X
def qi (P : Int32 → Sg → Prop) : Option Value → Sg → Prop := fun r σ => ∃ v, r = some (.int v) ∧ P v σ
def ql (P : Int64 → Sg → Prop) : Option Value → Sg → Prop := fun r σ => ∃ v, r = some (.long v) ∧ P v σ
def qv (P : Sg → Prop) : Option Value → Sg → Prop := fun r σ => r = none ∧ P σ
theorem Sm.of {n : Nat} {M : MI} {np : Nat} {args : List Value} {σ : Sg} {Q : Option Value → Sg → Prop} (ho : MkOk M np) {L : List (Option Value)} (hn : (en args).length ≤ mL M) (hL : en args ++ List.replicate (mL M - (en args).length) none = L) (k : ∀ X : CT, Cx M X → Sw n M X (ZS n M Q X) 0 L [] σ) : Sm n M args σ Q := by
  intro h hs
  refine Em.of ho hn hL (fun X hX => ?_)
  rw [hs.1]
  exact k X hX h hs
theorem Sm.imp {n : Nat} {M : MI} {args : List Value} {σ : Sg} {Q Q' : Option Value → Sg → Prop} (h : Sm n M args σ Q) (hq : ∀ r σ', Q r σ' → Q' r σ') : Sm n M args σ Q' := fun h0 hs => (h h0 hs).imp (fun r h' ⟨σ', q, s⟩ => ⟨σ', hq r σ' q, s⟩)
theorem Sm.impI {n : Nat} {M : MI} {args : List Value} {σ : Sg} {Q Q' : Int32 → Sg → Prop} (h : Sm n M args σ (qi Q)) (hq : ∀ r σ', Q r σ' → Q' r σ') : Sm n M args σ (qi Q') := h.imp (fun _ σ' ⟨v, e, q⟩ => ⟨v, e, hq v σ' q⟩)
theorem Sm.impV {n : Nat} {M : MI} {args : List Value} {σ : Sg} {Q Q' : Sg → Prop} (h : Sm n M args σ (qv Q)) (hq : ∀ σ', Q σ' → Q' σ') : Sm n M args σ (qv Q') := h.imp (fun _ σ' ⟨e, q⟩ => ⟨e, hq σ' q⟩)
/-! numbers -/
theorem nx_and (a b : Nat) : nI a &&& nI b = nI (a &&& b) := by
  apply Int32.toBitVec_inj.mp
  show (BitVec.ofNat 32 a &&& BitVec.ofNat 32 b) = BitVec.ofNat 32 (a &&& b)
  rw [BitVec.ofNat_and]
theorem nx_or (a b : Nat) : nI a ||| nI b = nI (a ||| b) := by
  apply Int32.toBitVec_inj.mp
  show (BitVec.ofNat 32 a ||| BitVec.ofNat 32 b) = BitVec.ofNat 32 (a ||| b)
  rw [BitVec.ofNat_or]
theorem nx_sl : ∀ n, n < 32 → ((nI n &&& 31).toBitVec.smod 32).toNat = n := by decide
theorem nx_su : ∀ n, n < 32 → (((nI n).toUInt32 &&& Int32.toUInt32 31).toBitVec % 32).toNat = n := by decide
theorem nx_shl {a k : Nat} (hk : k < 32) (h : a * 2 ^ k < 2 ^ 32) : nI a <<< (nI k &&& 31) = nI (a * 2 ^ k) := pk_shlN _ k (nx_sl k hk) h
theorem nx_shr {a k : Nat} (hk : k < 32) (h : a < 2 ^ 31) : nI a >>> (nI k &&& 31) = nI (a / 2 ^ k) := pk_shrN h _ k (nx_sl k hk)
theorem nx_ushr {a k : Nat} (hk : k < 32) (h : a < 2 ^ 32) : ((nI a).toUInt32 >>> ((nI k).toUInt32 &&& Int32.toUInt32 31)).toInt32 = nI (a / 2 ^ k) := pk_ushrN h _ k (nx_su k hk)
theorem nx_ne {a b : Nat} (ha : a < 2 ^ 31) (hb : b < 2 ^ 31) : (nI a = nI b) = (a = b) := propext (nI_eq ha hb)
theorem nx_lt {a b : Nat} (ha : a < 2 ^ 31) (hb : b < 2 ^ 31) : (nI a < nI b) = (a < b) := propext (nI_ltI ha hb)
theorem nx_le {a b : Nat} (ha : a < 2 ^ 31) (hb : b < 2 ^ 31) : (nI a ≤ nI b) = (a ≤ b) := propext (nI_leI ha hb)
theorem nx_lit (n : Nat) : (OfNat.ofNat n : Int32) = nI n := rfl
section SL
variable {n : Nat} {M : MI} {X : CT} {Z : State → Prop} {pc : Nat} {L : List (Option Value)} {st : List Value} {σ : Sg}
theorem s_iconst {i : Int} {v : Int32} (hX : Cx M X) (d : decode (mB M) pc = .ok (.iconst i, 1)) (hv : Int32.ofInt i = v) (k : Sw n M X Z (pc + 1) L (.int v :: st) σ) : Sw n M X Z pc L (st) σ := fun h hs => e_iconst hX d hv (k h hs)
theorem s_bipush {i : Int} {v : Int32} (hX : Cx M X) (d : decode (mB M) pc = .ok (.bipush i, 2)) (hv : (Int8.ofInt i).toInt32 = v) (k : Sw n M X Z (pc + 2) L (.int v :: st) σ) : Sw n M X Z pc L (st) σ := fun h hs => e_bipush hX d hv (k h hs)
theorem s_sipush {i : Int} {v : Int32} (hX : Cx M X) (d : decode (mB M) pc = .ok (.sipush i, 3)) (hv : (Int16.ofInt i).toInt32 = v) (k : Sw n M X Z (pc + 3) L (.int v :: st) σ) : Sw n M X Z pc L (st) σ := fun h hs => e_sipush hX d hv (k h hs)
theorem s_lconst {i : Fin 2} {v : Int64} (hX : Cx M X) (d : decode (mB M) pc = .ok (.lconst i, 1)) (hv : Int64.ofNat (i : Nat) = v) (k : Sw n M X Z (pc + 1) L (.long v :: st) σ) : Sw n M X Z pc L (st) σ := fun h hs => e_lconst hX d hv (k h hs)
theorem s_ldc {idx : Nat} {v : Int32} (hX : Cx M X) (d : decode (mB M) pc = .ok (.ldc idx, 2)) (hc : Cond.constant (mY M).cls idx v ∈ tb) (k : Sw n M X Z (pc + 2) L (.int v :: st) σ) : Sw n M X Z pc L (st) σ := fun h hs => e_ldc hX d hc (k h hs)
theorem s_ldc2 {idx : Nat} {v : Int64} (hX : Cx M X) (d : decode (mB M) pc = .ok (.ldc2_w idx, 3)) (hc : Cond.constantLong (mY M).cls idx v ∈ tb) (k : Sw n M X Z (pc + 3) L (.long v :: st) σ) : Sw n M X Z pc L (st) σ := fun h hs => e_ldc2 hX d hc (k h hs)
theorem s_iload_n {k0 : Fin 4} {x : Int32} (hX : Cx M X) (d : decode (mB M) pc = .ok (.iload_n k0, 1)) (hv : L[(k0 : Nat)]? = some (some (.int x))) (k : Sw n M X Z (pc + 1) L (.int x :: st) σ) : Sw n M X Z pc L (st) σ := fun h hs => e_iload_n hX d hv (k h hs)
theorem s_iload {i : Nat} {x : Int32} (hX : Cx M X) (d : decode (mB M) pc = .ok (.iload i, 2)) (hv : L[i]? = some (some (.int x))) (k : Sw n M X Z (pc + 2) L (.int x :: st) σ) : Sw n M X Z pc L (st) σ := fun h hs => e_iload hX d hv (k h hs)
theorem s_lload_n {k0 : Fin 4} {x : Int64} (hX : Cx M X) (d : decode (mB M) pc = .ok (.lload_n k0, 1)) (hv : L[(k0 : Nat)]? = some (some (.long x))) (k : Sw n M X Z (pc + 1) L (.long x :: st) σ) : Sw n M X Z pc L (st) σ := fun h hs => e_lload_n hX d hv (k h hs)
theorem s_lload {i : Nat} {x : Int64} (hX : Cx M X) (d : decode (mB M) pc = .ok (.lload i, 2)) (hv : L[i]? = some (some (.long x))) (k : Sw n M X Z (pc + 2) L (.long x :: st) σ) : Sw n M X Z pc L (st) σ := fun h hs => e_lload hX d hv (k h hs)
theorem s_aload_n {k0 : Fin 4} {x : Nat} (hX : Cx M X) (d : decode (mB M) pc = .ok (.aload_n k0, 1)) (hv : L[(k0 : Nat)]? = some (some (.ref x))) (k : Sw n M X Z (pc + 1) L (.ref x :: st) σ) : Sw n M X Z pc L (st) σ := fun h hs => e_aload_n hX d hv (k h hs)
theorem s_istore_n {k0 : Fin 4} {x : Int32} {L2 : List (Option Value)} (hX : Cx M X) (d : decode (mB M) pc = .ok (.istore_n k0, 1)) (hi : (k0 : Nat) < L.length) (hn : nl (L.getD ((k0 : Nat) - 1) none) = true) (hL : L.set (k0 : Nat) (some (.int x)) = L2) (k : Sw n M X Z (pc + 1) L2 (st) σ) : Sw n M X Z pc L (.int x :: st) σ := fun h hs => e_istore_n hX d hi hn hL (k h hs)
theorem s_istore {i : Nat} {x : Int32} {L2 : List (Option Value)} (hX : Cx M X) (d : decode (mB M) pc = .ok (.istore i, 2)) (hi : i < L.length) (hn : nl (L.getD (i - 1) none) = true) (hL : L.set i (some (.int x)) = L2) (k : Sw n M X Z (pc + 2) L2 (st) σ) : Sw n M X Z pc L (.int x :: st) σ := fun h hs => e_istore hX d hi hn hL (k h hs)
theorem s_astore_n {k0 : Fin 4} {x : Nat} {L2 : List (Option Value)} (hX : Cx M X) (d : decode (mB M) pc = .ok (.astore_n k0, 1)) (hi : (k0 : Nat) < L.length) (hn : nl (L.getD ((k0 : Nat) - 1) none) = true) (hL : L.set (k0 : Nat) (some (.ref x)) = L2) (k : Sw n M X Z (pc + 1) L2 (st) σ) : Sw n M X Z pc L (.ref x :: st) σ := fun h hs => e_astore_n hX d hi hn hL (k h hs)
theorem s_lstore_n {k0 : Fin 4} {x : Int64} {L2 : List (Option Value)} (hX : Cx M X) (d : decode (mB M) pc = .ok (.lstore_n k0, 1)) (hi : (k0 : Nat) + 1 < L.length) (hn : nl (L.getD ((k0 : Nat) - 1) none) = true) (hL : (L.set (k0 : Nat) (some (.long x))).set ((k0 : Nat) + 1) none = L2) (k : Sw n M X Z (pc + 1) L2 (st) σ) : Sw n M X Z pc L (.long x :: st) σ := fun h hs => e_lstore_n hX d hi hn hL (k h hs)
theorem s_lstore {i : Nat} {x : Int64} {L2 : List (Option Value)} (hX : Cx M X) (d : decode (mB M) pc = .ok (.lstore i, 2)) (hi : i + 1 < L.length) (hn : nl (L.getD (i - 1) none) = true) (hL : (L.set i (some (.long x))).set (i + 1) none = L2) (k : Sw n M X Z (pc + 2) L2 (st) σ) : Sw n M X Z pc L (.long x :: st) σ := fun h hs => e_lstore hX d hi hn hL (k h hs)
theorem s_iinc {i : Nat} {z : Int} {x v : Int32} {L2 : List (Option Value)} (hX : Cx M X) (d : decode (mB M) pc = .ok (.iinc i z, 3)) (hv : L[i]? = some (some (.int x))) (hv2 : x + Int32.ofInt z = v) (hn : nl (L.getD (i - 1) none) = true) (hL : L.set i (some (.int v)) = L2) (k : Sw n M X Z (pc + 3) L2 st σ) : Sw n M X Z pc L st σ := fun h hs => e_iinc hX d hv hv2 hn hL (k h hs)
theorem s_iadd {x y : Int32} (hX : Cx M X) (d : decode (mB M) pc = .ok (.iadd, 1)) (k : Sw n M X Z (pc + 1) L (.int (x + y) :: st) σ) : Sw n M X Z pc L (.int y :: .int x :: st) σ := fun h hs => e_iadd hX d (k h hs)
theorem s_isub {x y : Int32} (hX : Cx M X) (d : decode (mB M) pc = .ok (.isub, 1)) (k : Sw n M X Z (pc + 1) L (.int (x - y) :: st) σ) : Sw n M X Z pc L (.int y :: .int x :: st) σ := fun h hs => e_isub hX d (k h hs)
theorem s_imul {x y : Int32} (hX : Cx M X) (d : decode (mB M) pc = .ok (.imul, 1)) (k : Sw n M X Z (pc + 1) L (.int (x * y) :: st) σ) : Sw n M X Z pc L (.int y :: .int x :: st) σ := fun h hs => e_imul hX d (k h hs)
theorem s_iand {x y : Int32} (hX : Cx M X) (d : decode (mB M) pc = .ok (.iand, 1)) (k : Sw n M X Z (pc + 1) L (.int (x &&& y) :: st) σ) : Sw n M X Z pc L (.int y :: .int x :: st) σ := fun h hs => e_iand hX d (k h hs)
theorem s_ior {x y : Int32} (hX : Cx M X) (d : decode (mB M) pc = .ok (.ior, 1)) (k : Sw n M X Z (pc + 1) L (.int (x ||| y) :: st) σ) : Sw n M X Z pc L (.int y :: .int x :: st) σ := fun h hs => e_ior hX d (k h hs)
theorem s_ixor {x y : Int32} (hX : Cx M X) (d : decode (mB M) pc = .ok (.ixor, 1)) (k : Sw n M X Z (pc + 1) L (.int (x ^^^ y) :: st) σ) : Sw n M X Z pc L (.int y :: .int x :: st) σ := fun h hs => e_ixor hX d (k h hs)
theorem s_ishl {x y : Int32} (hX : Cx M X) (d : decode (mB M) pc = .ok (.ishl, 1)) (k : Sw n M X Z (pc + 1) L (.int (x <<< (y &&& 31)) :: st) σ) : Sw n M X Z pc L (.int y :: .int x :: st) σ := fun h hs => e_ishl hX d (k h hs)
theorem s_ishr {x y : Int32} (hX : Cx M X) (d : decode (mB M) pc = .ok (.ishr, 1)) (k : Sw n M X Z (pc + 1) L (.int (x >>> (y &&& 31)) :: st) σ) : Sw n M X Z pc L (.int y :: .int x :: st) σ := fun h hs => e_ishr hX d (k h hs)
theorem s_iushr {x y : Int32} (hX : Cx M X) (d : decode (mB M) pc = .ok (.iushr, 1)) (k : Sw n M X Z (pc + 1) L (.int ((x.toUInt32 >>> (y.toUInt32 &&& Int32.toUInt32 31)).toInt32) :: st) σ) : Sw n M X Z pc L (.int y :: .int x :: st) σ := fun h hs => e_iushr hX d (k h hs)
theorem s_idiv {x y : Int32} (hX : Cx M X) (d : decode (mB M) pc = .ok (.idiv, 1)) (hne : ¬ y = 0) (k : Sw n M X Z (pc + 1) L (.int (x / y) :: st) σ) : Sw n M X Z pc L (.int y :: .int x :: st) σ := fun h hs => e_idiv hX d hne (k h hs)
theorem s_irem {x y : Int32} (hX : Cx M X) (d : decode (mB M) pc = .ok (.irem, 1)) (hne : ¬ y = 0) (k : Sw n M X Z (pc + 1) L (.int (x - x / y * y) :: st) σ) : Sw n M X Z pc L (.int y :: .int x :: st) σ := fun h hs => e_irem hX d hne (k h hs)
theorem s_ineg {x : Int32} (hX : Cx M X) (d : decode (mB M) pc = .ok (.ineg, 1)) (k : Sw n M X Z (pc + 1) L (.int (-x) :: st) σ) : Sw n M X Z pc L (.int x :: st) σ := fun h hs => e_ineg hX d (k h hs)
theorem s_ladd {x y : Int64} (hX : Cx M X) (d : decode (mB M) pc = .ok (.ladd, 1)) (k : Sw n M X Z (pc + 1) L (.long (x + y) :: st) σ) : Sw n M X Z pc L (.long y :: .long x :: st) σ := fun h hs => e_ladd hX d (k h hs)
theorem s_lmul {x y : Int64} (hX : Cx M X) (d : decode (mB M) pc = .ok (.lmul, 1)) (k : Sw n M X Z (pc + 1) L (.long (x * y) :: st) σ) : Sw n M X Z pc L (.long y :: .long x :: st) σ := fun h hs => e_lmul hX d (k h hs)
theorem s_land {x y : Int64} (hX : Cx M X) (d : decode (mB M) pc = .ok (.land, 1)) (k : Sw n M X Z (pc + 1) L (.long (x &&& y) :: st) σ) : Sw n M X Z pc L (.long y :: .long x :: st) σ := fun h hs => e_land hX d (k h hs)
theorem s_lor {x y : Int64} (hX : Cx M X) (d : decode (mB M) pc = .ok (.lor, 1)) (k : Sw n M X Z (pc + 1) L (.long (x ||| y) :: st) σ) : Sw n M X Z pc L (.long y :: .long x :: st) σ := fun h hs => e_lor hX d (k h hs)
theorem s_lxor {x y : Int64} (hX : Cx M X) (d : decode (mB M) pc = .ok (.lxor, 1)) (k : Sw n M X Z (pc + 1) L (.long (x ^^^ y) :: st) σ) : Sw n M X Z pc L (.long y :: .long x :: st) σ := fun h hs => e_lxor hX d (k h hs)
theorem s_lushr {x : Int64} {y : Int32} (hX : Cx M X) (d : decode (mB M) pc = .ok (.lushr, 1)) (k : Sw n M X Z (pc + 1) L (.long ((x.toUInt64 >>> (y.toInt64.toUInt64 &&& Int64.toUInt64 63)).toInt64) :: st) σ) : Sw n M X Z pc L (.int y :: .long x :: st) σ := fun h hs => e_lushr hX d (k h hs)
theorem s_lshl {x : Int64} {y : Int32} (hX : Cx M X) (d : decode (mB M) pc = .ok (.lshl, 1)) (k : Sw n M X Z (pc + 1) L (.long (x <<< (y.toInt64 &&& 63)) :: st) σ) : Sw n M X Z pc L (.int y :: .long x :: st) σ := fun h hs => e_lshl hX d (k h hs)
theorem s_i2l {x : Int32} (hX : Cx M X) (d : decode (mB M) pc = .ok (.i2l, 1)) (k : Sw n M X Z (pc + 1) L (.long x.toInt64 :: st) σ) : Sw n M X Z pc L (.int x :: st) σ := fun h hs => e_i2l hX d (k h hs)
theorem s_l2i {x : Int64} (hX : Cx M X) (d : decode (mB M) pc = .ok (.l2i, 1)) (k : Sw n M X Z (pc + 1) L (.int x.toInt32 :: st) σ) : Sw n M X Z pc L (.long x :: st) σ := fun h hs => e_l2i hX d (k h hs)
theorem s_lcmp {x y : Int64} (hX : Cx M X) (d : decode (mB M) pc = .ok (.lcmp, 1)) (k : Sw n M X Z (pc + 1) L (.int (lg_cmp x y) :: st) σ) : Sw n M X Z pc L (.long y :: .long x :: st) σ := fun h hs => e_lcmp hX d (k h hs)
theorem s_dup {v : Value} (hX : Cx M X) (d : decode (mB M) pc = .ok (.dup, 1)) (hv : v.category = 1) (k : Sw n M X Z (pc + 1) L (v :: v :: st) σ) : Sw n M X Z pc L (v :: st) σ := fun h hs => e_dup hX d hv (k h hs)
theorem s_pop {v : Value} (hX : Cx M X) (d : decode (mB M) pc = .ok (.pop, 1)) (hv : v.category = 1) (k : Sw n M X Z (pc + 1) L (st) σ) : Sw n M X Z pc L (v :: st) σ := fun h hs => e_pop hX d hv (k h hs)
theorem s_dup2 {v w : Value} (hX : Cx M X) (d : decode (mB M) pc = .ok (.dup2, 1)) (hv : v.category = 1) (hw : w.category = 1) (k : Sw n M X Z (pc + 1) L (v :: w :: v :: w :: st) σ) : Sw n M X Z pc L (v :: w :: st) σ := fun h hs => e_dup2 hX d hv hw (k h hs)
theorem s_if_eq {x : Int32} {off : Int} {tgt : Nat} (hX : Cx M X) (d : decode (mB M) pc = .ok (.ifCond .eq off, 3)) (ht : (pc : Int) + off = (tgt : Int)) (kt : x = 0 → Sw n M X Z tgt L st σ) (kf : ¬ (x = 0) → Sw n M X Z (pc + 3) L st σ) : Sw n M X Z pc L (.int x :: st) σ := fun h hs => e_if_eq hX d ht (fun q => kt q h hs) (fun q => kf q h hs)
theorem s_icmp_eq {x y : Int32} {off : Int} {tgt : Nat} (hX : Cx M X) (d : decode (mB M) pc = .ok (.if_icmp .eq off, 3)) (ht : (pc : Int) + off = (tgt : Int)) (kt : x = y → Sw n M X Z tgt L st σ) (kf : ¬ (x = y) → Sw n M X Z (pc + 3) L st σ) : Sw n M X Z pc L (.int y :: .int x :: st) σ := fun h hs => e_icmp_eq hX d ht (fun q => kt q h hs) (fun q => kf q h hs)
theorem s_if_ne {x : Int32} {off : Int} {tgt : Nat} (hX : Cx M X) (d : decode (mB M) pc = .ok (.ifCond .ne off, 3)) (ht : (pc : Int) + off = (tgt : Int)) (kt : ¬ x = 0 → Sw n M X Z tgt L st σ) (kf : ¬ (¬ x = 0) → Sw n M X Z (pc + 3) L st σ) : Sw n M X Z pc L (.int x :: st) σ := fun h hs => e_if_ne hX d ht (fun q => kt q h hs) (fun q => kf q h hs)
theorem s_icmp_ne {x y : Int32} {off : Int} {tgt : Nat} (hX : Cx M X) (d : decode (mB M) pc = .ok (.if_icmp .ne off, 3)) (ht : (pc : Int) + off = (tgt : Int)) (kt : ¬ x = y → Sw n M X Z tgt L st σ) (kf : ¬ (¬ x = y) → Sw n M X Z (pc + 3) L st σ) : Sw n M X Z pc L (.int y :: .int x :: st) σ := fun h hs => e_icmp_ne hX d ht (fun q => kt q h hs) (fun q => kf q h hs)
theorem s_if_lt {x : Int32} {off : Int} {tgt : Nat} (hX : Cx M X) (d : decode (mB M) pc = .ok (.ifCond .lt off, 3)) (ht : (pc : Int) + off = (tgt : Int)) (kt : x < 0 → Sw n M X Z tgt L st σ) (kf : ¬ (x < 0) → Sw n M X Z (pc + 3) L st σ) : Sw n M X Z pc L (.int x :: st) σ := fun h hs => e_if_lt hX d ht (fun q => kt q h hs) (fun q => kf q h hs)
theorem s_icmp_lt {x y : Int32} {off : Int} {tgt : Nat} (hX : Cx M X) (d : decode (mB M) pc = .ok (.if_icmp .lt off, 3)) (ht : (pc : Int) + off = (tgt : Int)) (kt : x < y → Sw n M X Z tgt L st σ) (kf : ¬ (x < y) → Sw n M X Z (pc + 3) L st σ) : Sw n M X Z pc L (.int y :: .int x :: st) σ := fun h hs => e_icmp_lt hX d ht (fun q => kt q h hs) (fun q => kf q h hs)
theorem s_if_ge {x : Int32} {off : Int} {tgt : Nat} (hX : Cx M X) (d : decode (mB M) pc = .ok (.ifCond .ge off, 3)) (ht : (pc : Int) + off = (tgt : Int)) (kt : 0 ≤ x → Sw n M X Z tgt L st σ) (kf : ¬ (0 ≤ x) → Sw n M X Z (pc + 3) L st σ) : Sw n M X Z pc L (.int x :: st) σ := fun h hs => e_if_ge hX d ht (fun q => kt q h hs) (fun q => kf q h hs)
theorem s_icmp_ge {x y : Int32} {off : Int} {tgt : Nat} (hX : Cx M X) (d : decode (mB M) pc = .ok (.if_icmp .ge off, 3)) (ht : (pc : Int) + off = (tgt : Int)) (kt : y ≤ x → Sw n M X Z tgt L st σ) (kf : ¬ (y ≤ x) → Sw n M X Z (pc + 3) L st σ) : Sw n M X Z pc L (.int y :: .int x :: st) σ := fun h hs => e_icmp_ge hX d ht (fun q => kt q h hs) (fun q => kf q h hs)
theorem s_if_gt {x : Int32} {off : Int} {tgt : Nat} (hX : Cx M X) (d : decode (mB M) pc = .ok (.ifCond .gt off, 3)) (ht : (pc : Int) + off = (tgt : Int)) (kt : 0 < x → Sw n M X Z tgt L st σ) (kf : ¬ (0 < x) → Sw n M X Z (pc + 3) L st σ) : Sw n M X Z pc L (.int x :: st) σ := fun h hs => e_if_gt hX d ht (fun q => kt q h hs) (fun q => kf q h hs)
theorem s_icmp_gt {x y : Int32} {off : Int} {tgt : Nat} (hX : Cx M X) (d : decode (mB M) pc = .ok (.if_icmp .gt off, 3)) (ht : (pc : Int) + off = (tgt : Int)) (kt : y < x → Sw n M X Z tgt L st σ) (kf : ¬ (y < x) → Sw n M X Z (pc + 3) L st σ) : Sw n M X Z pc L (.int y :: .int x :: st) σ := fun h hs => e_icmp_gt hX d ht (fun q => kt q h hs) (fun q => kf q h hs)
theorem s_if_le {x : Int32} {off : Int} {tgt : Nat} (hX : Cx M X) (d : decode (mB M) pc = .ok (.ifCond .le off, 3)) (ht : (pc : Int) + off = (tgt : Int)) (kt : x ≤ 0 → Sw n M X Z tgt L st σ) (kf : ¬ (x ≤ 0) → Sw n M X Z (pc + 3) L st σ) : Sw n M X Z pc L (.int x :: st) σ := fun h hs => e_if_le hX d ht (fun q => kt q h hs) (fun q => kf q h hs)
theorem s_icmp_le {x y : Int32} {off : Int} {tgt : Nat} (hX : Cx M X) (d : decode (mB M) pc = .ok (.if_icmp .le off, 3)) (ht : (pc : Int) + off = (tgt : Int)) (kt : x ≤ y → Sw n M X Z tgt L st σ) (kf : ¬ (x ≤ y) → Sw n M X Z (pc + 3) L st σ) : Sw n M X Z pc L (.int y :: .int x :: st) σ := fun h hs => e_icmp_le hX d ht (fun q => kt q h hs) (fun q => kf q h hs)
theorem s_goto {off : Int} {tgt : Nat} (hX : Cx M X) (d : decode (mB M) pc = .ok (.goto off, 3)) (ht : (pc : Int) + off = (tgt : Int)) (k : Sw n M X Z tgt L st σ) : Sw n M X Z pc L st σ := fun h hs => e_goto hX d ht (k h hs)
theorem s_tableOut {dflt lo hi : Int} {offs : Array Int} {len : Nat} {x : Int32} {tgt : Nat} (hX : Cx M X) (d : decode (mB M) pc = .ok (.tableswitch dflt lo hi offs, len)) (h0 : x.toInt < lo ∨ hi < x.toInt) (ht : (pc : Int) + dflt = (tgt : Int)) (k : Sw n M X Z tgt L st σ) : Sw n M X Z pc L (.int x :: st) σ := fun h hs => e_tableOut hX d h0 ht (k h hs)
theorem s_tableIn {dflt lo hi : Int} {offs : Array Int} {len : Nat} {x : Int32} {off : Int} {tgt : Nat} (hX : Cx M X) (d : decode (mB M) pc = .ok (.tableswitch dflt lo hi offs, len)) (h1 : ¬ x.toInt < lo) (h2 : ¬ hi < x.toInt) (ho : offs[(x.toInt - lo).toNat]? = some off) (ht : (pc : Int) + off = (tgt : Int)) (k : Sw n M X Z tgt L st σ) : Sw n M X Z pc L (.int x :: st) σ := fun h hs => e_tableIn hX d h1 h2 ho ht (k h hs)
theorem s_lookup {dflt : Int} {ps : Array (Int × Int)} {len : Nat} {x : Int32} {off : Int} {tgt : Nat} (hX : Cx M X) (d : decode (mB M) pc = .ok (.lookupswitch dflt ps, len)) (hp : (ps.toList.zip (ps.toList.drop 1)).all (fun (a, next) => a.1 < next.1) = true) (ho : Op.lookupswitch.offset ps.toList dflt x.toInt = off) (ht : (pc : Int) + off = (tgt : Int)) (k : Sw n M X Z tgt L st σ) : Sw n M X Z pc L (.int x :: st) σ := fun h hs => e_lookup hX d hp ho ht (k h hs)
theorem s_less {L2 : List (Option Value)} (hn : L2.length = L.length) (hl0 : ∀ (i : Nat) (v : Value), L2[i]? = some (some v) → L[i]? = some (some v)) (k : Sw n M X Z pc L2 st σ) : Sw n M X Z pc L st σ := fun h hs => e_less hn hl0 (k h hs)
theorem s_eq {σ2 : Sg} (e : σ = σ2) (k : Sw n M X Z pc L st σ2) : Sw n M X Z pc L st σ := e ▸ k
theorem s_top {x y : Int32} (e : x = y) (k : Sw n M X Z pc L (.int y :: st) σ) : Sw n M X Z pc L (.int x :: st) σ := e ▸ k
theorem s_topl {x y : Int64} (e : x = y) (k : Sw n M X Z pc L (.long y :: st) σ) : Sw n M X Z pc L (.long x :: st) σ := e ▸ k
theorem s_get {idx ci kk o0 : Nat} {ty : FieldType} {fin : Bool} {ks : List Kd} {q : Kd} (hX : Cx M X) (d : decode (mB M) pc = .ok (.getfield idx, 3)) (lk : Fl (mY M).cls idx ci kk ty fin) (ho : sh o0 = .inl (ci, ks)) (hq : ks[kk]? = some q) (ha : o0 < n) (k : Sw n M X Z (pc + 3) L (kdv (σ o0) kk q :: st) σ) : Sw n M X Z pc L (.ref o0 :: st) σ := fun h hs => e_get hX d lk ((hs.2 o0 ha).trans (by rw [cel_obj ho])) (by simp [List.getElem?_mapIdx, hq]) (k h hs)
theorem s_getI {idx ci kk o0 : Nat} {ty : FieldType} {fin : Bool} {ks : List Kd} {x : Int32} (hX : Cx M X) (d : decode (mB M) pc = .ok (.getfield idx, 3)) (lk : Fl (mY M).cls idx ci kk ty fin) (ho : sh o0 = .inl (ci, ks)) (hq : ks[kk]? = some none) (ha : o0 < n) (hv : (σ o0).1 kk = x) (k : Sw n M X Z (pc + 3) L (.int x :: st) σ) : Sw n M X Z pc L (.ref o0 :: st) σ := s_get hX d lk ho hq ha (by subst hv; exact k)
theorem s_getL {idx ci kk o0 : Nat} {ty : FieldType} {fin : Bool} {ks : List Kd} {x : Int64} (hX : Cx M X) (d : decode (mB M) pc = .ok (.getfield idx, 3)) (lk : Fl (mY M).cls idx ci kk ty fin) (ho : sh o0 = .inl (ci, ks)) (hq : ks[kk]? = some (some none)) (ha : o0 < n) (hv : (σ o0).2 kk = x) (k : Sw n M X Z (pc + 3) L (.long x :: st) σ) : Sw n M X Z pc L (.ref o0 :: st) σ := s_get hX d lk ho hq ha (by subst hv; exact k)
theorem s_getR {idx ci kk o0 r : Nat} {ty : FieldType} {fin : Bool} {ks : List Kd} (hX : Cx M X) (d : decode (mB M) pc = .ok (.getfield idx, 3)) (lk : Fl (mY M).cls idx ci kk ty fin) (ho : sh o0 = .inl (ci, ks)) (hq : ks[kk]? = some (some (some r))) (ha : o0 < n) (k : Sw n M X Z (pc + 3) L (.ref r :: st) σ) : Sw n M X Z pc L (.ref o0 :: st) σ := s_get hX d lk ho hq ha k
theorem mapIdx_set {σ : Sg} {o0 kk : Nat} {ks : List Kd} {c : (Nat → Int32) × (Nat → Int64)} {q : Kd} (hq : ks[kk]? = some q) (hc : ∀ k r, k ≠ kk → kdv c k r = kdv (σ o0) k r) : (ks.mapIdx (fun k q => kdv (σ o0) k q)).set kk (kdv c kk q) = ks.mapIdx (fun k q => kdv c k q) := by
  apply List.ext_getElem?
  intro i
  by_cases hi : i = kk
  · subst hi
    have hl : i < ks.length := (List.getElem?_eq_some_iff.mp hq).1
    rw [List.getElem?_set_self (by simpa using hl), List.getElem?_mapIdx, hq]
    rfl
  · rw [List.getElem?_set_ne (Ne.symm hi), List.getElem?_mapIdx, List.getElem?_mapIdx]
    cases ks[i]? with
    | none => rfl
    | some r => exact congrArg some (hc i r hi).symm
theorem s_putI {idx ci kk o0 : Nat} {ty : FieldType} {ks : List Kd} {x : Int32} (hX : Cx M X) (d : decode (mB M) pc = .ok (.putfield idx, 3)) (lk : Fl (mY M).cls idx ci kk ty false) (ho : sh o0 = .inl (ci, ks)) (hq : ks[kk]? = some none) (ha : o0 < n) (hn : narrow ty (.int x) = .int x) (hf : fits ty (.int x) = true) (k : Sw n M X Z (pc + 3) L st (wI σ o0 kk x)) : Sw n M X Z pc L (.int x :: .ref o0 :: st) σ := fun h hs => by
  have hl : kk < ks.length := (List.getElem?_eq_some_iff.mp hq).1
  refine e_put hX d lk ((hs.2 o0 ha).trans (by rw [cel_obj ho])) (by simpa using hl) hn hf (k _ (hs.up ha ?_))
  rw [cel_obj ho, va_up_at, ← mapIdx_set (σ := σ) (o0 := o0) (kk := kk) hq]
  · show _ = Sum.inr (ci, List.set _ kk _)
    congr 3
    show Value.int (upd (σ o0).1 kk x kk) = _
    rw [pk_us]
  · intro k r hk
    cases r with
    | none => show Value.int (upd (σ o0).1 kk x k) = _; rw [pk_un hk]; rfl
    | some r => cases r <;> rfl
theorem s_putL {idx ci kk o0 : Nat} {ty : FieldType} {ks : List Kd} {x : Int64} (hX : Cx M X) (d : decode (mB M) pc = .ok (.putfield idx, 3)) (lk : Fl (mY M).cls idx ci kk ty false) (ho : sh o0 = .inl (ci, ks)) (hq : ks[kk]? = some (some none)) (ha : o0 < n) (hn : narrow ty (.long x) = .long x) (hf : fits ty (.long x) = true) (k : Sw n M X Z (pc + 3) L st (wL σ o0 kk x)) : Sw n M X Z pc L (.long x :: .ref o0 :: st) σ := fun h hs => by
  have hl : kk < ks.length := (List.getElem?_eq_some_iff.mp hq).1
  refine e_put hX d lk ((hs.2 o0 ha).trans (by rw [cel_obj ho])) (by simpa using hl) hn hf (k _ (hs.up ha ?_))
  rw [cel_obj ho, va_up_at, ← mapIdx_set (σ := σ) (o0 := o0) (kk := kk) hq]
  · show _ = Sum.inr (ci, List.set _ kk _)
    congr 3
    show Value.long (vp_updL (σ o0).2 kk x kk) = _
    rw [pk_uLs]
  · intro k r hk
    cases r with
    | none => rfl
    | some r => cases r with
      | none => show Value.long (vp_updL (σ o0).2 kk x k) = _; rw [pk_uLn hk]; rfl
      | some r => rfl
theorem s_iald {a0 len i : Nat} {x : Int32} (hX : Cx M X) (d : decode (mB M) pc = .ok (.iaload, 1)) (ho : sh a0 = .inr (0, len)) (ha : a0 < n) (hi : i < len) (hlen : len < 2 ^ 31) (hv : (σ a0).1 i = x) (k : Sw n M X Z (pc + 1) L (.int x :: st) σ) : Sw n M X Z pc L (.int (nI i) :: .ref a0 :: st) σ := fun h hs => by
  subst hv
  refine e_iald hX d ((hs.2 a0 ha).trans (by rw [cel_ai ho (by decide)])) (vp_in_nI hi hlen) ?_
  rw [nI_clamp (by omega)]
  exact k h hs
theorem s_zald {a0 len i : Nat} {x : Int32} (hX : Cx M X) (d : decode (mB M) pc = .ok (.baload, 1)) (ho : sh a0 = .inr (1, len)) (ha : a0 < n) (hi : i < len) (hlen : len < 2 ^ 31) (hv : (σ a0).1 i = x) (k : Sw n M X Z (pc + 1) L (.int x :: st) σ) : Sw n M X Z pc L (.int (nI i) :: .ref a0 :: st) σ := fun h hs => by
  subst hv
  refine e_zald hX d ((hs.2 a0 ha).trans (by rw [cel_ai ho (by decide)])) (vp_in_nI hi hlen) ?_
  rw [nI_clamp (by omega)]
  exact k h hs
theorem s_lald {a0 len i : Nat} {x : Int64} (hX : Cx M X) (d : decode (mB M) pc = .ok (.laload, 1)) (ho : sh a0 = .inr (2, len)) (ha : a0 < n) (hi : i < len) (hlen : len < 2 ^ 31) (hv : (σ a0).2 i = x) (k : Sw n M X Z (pc + 1) L (.long x :: st) σ) : Sw n M X Z pc L (.int (nI i) :: .ref a0 :: st) σ := fun h hs => by
  subst hv
  refine e_lald hX d ((hs.2 a0 ha).trans (by rw [cel_al ho])) (vp_in_nI hi hlen) ?_
  rw [nI_clamp (by omega)]
  exact k h hs
theorem s_iast {a0 len i : Nat} {x : Int32} (hX : Cx M X) (d : decode (mB M) pc = .ok (.iastore, 1)) (ho : sh a0 = .inr (0, len)) (ha : a0 < n) (hi : i < len) (hlen : len < 2 ^ 31) (k : Sw n M X Z (pc + 1) L st (wI σ a0 i x)) : Sw n M X Z pc L (.int x :: .int (nI i) :: .ref a0 :: st) σ := fun h hs => by
  refine e_iast hX d ((hs.2 a0 ha).trans (by rw [cel_ai ho (by decide)])) (vp_in_nI hi hlen) ?_
  rw [nI_clamp (by omega)]
  exact k _ (hs.up ha (by rw [cel_ai ho (by decide), va_up_at]))
theorem s_zast {a0 len i : Nat} {x : Int32} (hX : Cx M X) (d : decode (mB M) pc = .ok (.bastore, 1)) (ho : sh a0 = .inr (1, len)) (ha : a0 < n) (hi : i < len) (hlen : len < 2 ^ 31) (hb : x = 0 ∨ x = 1) (k : Sw n M X Z (pc + 1) L st (wI σ a0 i x)) : Sw n M X Z pc L (.int x :: .int (nI i) :: .ref a0 :: st) σ := fun h hs => by
  refine e_zast hX d ((hs.2 a0 ha).trans (by rw [cel_ai ho (by decide)])) (vp_in_nI hi hlen) ?_
  rw [nI_clamp (by omega), show vp_nar .boolean x = x by rcases hb with rfl | rfl <;> rfl]
  exact k _ (hs.up ha (by rw [cel_ai ho (by decide), va_up_at]))
theorem s_last {a0 len i : Nat} {x : Int64} (hX : Cx M X) (d : decode (mB M) pc = .ok (.lastore, 1)) (ho : sh a0 = .inr (2, len)) (ha : a0 < n) (hi : i < len) (hlen : len < 2 ^ 31) (k : Sw n M X Z (pc + 1) L st (wL σ a0 i x)) : Sw n M X Z pc L (.long x :: .int (nI i) :: .ref a0 :: st) σ := fun h hs => by
  refine e_last hX d ((hs.2 a0 ha).trans (by rw [cel_al ho])) (vp_in_nI hi hlen) ?_
  rw [nI_clamp (by omega)]
  exact k _ (hs.up ha (by rw [cel_al ho, va_up_at]))
theorem s_alen {a0 len : Nat} (hX : Cx M X) (d : decode (mB M) pc = .ok (.arraylength, 1)) (ho : sh a0 = .inr (0, len)) (ha : a0 < n) (k : Sw n M X Z (pc + 1) L (.int (nI len) :: st) σ) : Sw n M X Z pc L (.ref a0 :: st) σ := fun h hs => e_alen (x := (len, .inl (σ a0).1)) hX d ((hs.2 a0 ha).trans (by rw [cel_ai ho (by decide)])) (by decide) rfl (k h hs)
theorem s_copyi {idx a0 a1 n0 n1 sp dp nn : Nat} (hX : Cx M X) (d : decode (mB M) pc = .ok (.invokestatic idx, 3)) (lk : Cond.methodLink (mY M).cls idx arraycopyName ∈ tb) (ho0 : sh a0 = .inr (0, n0)) (ho1 : sh a1 = .inr (0, n1)) (hb0 : a0 < n) (hb1 : a1 < n) (h4 : sp + nn ≤ n0) (h5 : dp + nn ≤ n1) (hl0 : n0 < 2 ^ 31) (hl1 : n1 < 2 ^ 31) (hfr : 1 ≤ mF M) (hlo : (st.map fun v => v.category).sum + (nativeFrameWords "java/lang/System" "arraycopy" 5 + 11) ≤ mO M) (hLl : L.length = mL M) (k : Sw n M X Z (pc + 3) L st (wA σ a1 (va_cpy (σ a0).1 (σ a1).1 sp dp nn))) : Sw n M X Z pc L (.int (nI nn) :: .int (nI dp) :: .ref a1 :: .int (nI sp) :: .ref a0 :: st) σ := fun h hs => by
  refine e_copyi hX d lk ((hs.2 a0 hb0).trans (by rw [cel_ai ho0 (by decide)])) ((hs.2 a1 hb1).trans (by rw [cel_ai ho1 (by decide)])) (nI_pos (by omega)) (nI_pos (by omega)) (nI_pos (by omega)) (by rw [nI_clamp (by omega), nI_clamp (by omega)]; exact h4) (by rw [nI_clamp (by omega), nI_clamp (by omega)]; exact h5) hfr hlo hLl ?_
  rw [nI_clamp (by omega), nI_clamp (by omega), nI_clamp (by omega)]
  exact k _ (hs.up hb1 (by rw [cel_ai ho1 (by decide), va_up_at]))
theorem s_iret {v : Int32} {P : Int32 → Sg → Prop} (hX : Cx M X) (d : decode (mB M) pc = .ok (.ireturn, 1)) (hrt : mR M = some .int) (hm : mC M = 0) (q : P v σ) : Sw n M X (ZS n M (qi P) X) pc L [.int v] σ := fun h hs => e_iret hX d hrt hm.symm (Nat.zero_le _) (by rw [hs.1, hm]; rfl) ⟨σ, ⟨v, rfl, q⟩, hs⟩
theorem s_zret {v : Int32} {P : Int32 → Sg → Prop} (hX : Cx M X) (d : decode (mB M) pc = .ok (.ireturn, 1)) (hrt : mR M = some .boolean) (hb : v = 0 ∨ v = 1) (hm : mC M = 0) (q : P v σ) : Sw n M X (ZS n M (qi P) X) pc L [.int v] σ := fun h hs => e_zret hX d hrt (by rcases hb with rfl | rfl <;> rfl) hm.symm (Nat.zero_le _) (by rw [hs.1, hm]; rfl) ⟨σ, ⟨v, rfl, q⟩, hs⟩
theorem s_lret {v : Int64} {P : Int64 → Sg → Prop} (hX : Cx M X) (d : decode (mB M) pc = .ok (.lreturn, 1)) (hrt : mR M = some .long) (hm : mC M = 0) (q : P v σ) : Sw n M X (ZS n M (ql P) X) pc L [.long v] σ := fun h hs => e_lret hX d hrt hm.symm (Nat.zero_le _) (by rw [hs.1, hm]; rfl) ⟨σ, ⟨v, rfl, q⟩, hs⟩
theorem s_vret {P : Sg → Prop} (hX : Cx M X) (d : decode (mB M) pc = .ok (.return_, 1)) (hrt : mR M = none) (hm : mC M = 0) (q : P σ) : Sw n M X (ZS n M (qv P) X) pc L [] σ := fun h hs => e_vret hX d hrt hm.symm (Nat.zero_le _) (by rw [hs.1, hm]; rfl) ⟨σ, ⟨rfl, q⟩, hs⟩
theorem s_callV {M2 : MI} {as rest : List Value} {Q2 : Option Value → Sg → Prop} {idx np ci o0 : Nat} {ks : List Kd} {C2 : String} {T2 : u_T} {N2 : Nat} (hX : Cx M X) (d : decode (mB M) pc = .ok (.invokevirtual idx, 3)) (hok : MkOk M2 np) (lk : LkV (mY M).cls idx M2) (hE : Sm n M2 (.ref o0 :: as) σ Q2) (ho : sh o0 = .inl (ci, ks)) (ha : o0 < n) (hcl : vwCl[ci]? = some (C2, T2, N2)) (hC2 : C2 = (mY M2).cls) (hn : as.length = np) (hm : mC M2 = 0 ∧ mS M2 = 0) (hfr : mF M2 + 1 ≤ mF M) (hlo : 8 + (mL M2 + 11) + mO M2 ≤ mO M) (hrest : (rest.map fun v => v.category).sum ≤ 8) (hLl : L.length = mL M) (k : ∀ r σ2, Q2 r σ2 → Sw n M X Z (pc + 3) L (r.toList ++ rest) σ2) : Sw n M X Z pc L (ps as (.ref o0 :: rest)) σ := fun h hs => e_callV hX d hok lk (hE h hs) ((hs.2 o0 ha).trans (by rw [cel_obj ho])) hcl hC2 hn hfr hlo (by omega) (by omega) hrest hLl (fun r h2 ⟨σ2, q, s2⟩ => by rw [hm.1, hm.2]; exact k r σ2 q h2 s2)
theorem s_callS {M2 : MI} {as rest : List Value} {Q2 : Option Value → Sg → Prop} {idx np : Nat} (hX : Cx M X) (d : decode (mB M) pc = .ok (.invokestatic idx, 3)) (hok : MkOk M2 np) (lk : LkS (mY M).cls idx M2) (hE : Sm n M2 as σ Q2) (hn : as.length = np) (hm : mC M2 = 0 ∧ mS M2 = 0) (hfr : mF M2 + 1 ≤ mF M) (hlo : 8 + (mL M2 + 11) + mO M2 ≤ mO M) (hrest : (rest.map fun v => v.category).sum ≤ 8) (hLl : L.length = mL M) (k : ∀ r σ2, Q2 r σ2 → Sw n M X Z (pc + 3) L (r.toList ++ rest) σ2) : Sw n M X Z pc L (ps as rest) σ := fun h hs => e_callS hX d hok lk (hE h hs) hn hfr hlo (by omega) (by omega) hrest hLl (fun r h2 ⟨σ2, q, s2⟩ => by rw [hm.1, hm.2]; exact k r σ2 q h2 s2)
theorem s_callN {as rest : List Value} {Q2 : Option Value → Sg → Prop} (hX : Cx M X) (d : decode (mB M) pc = .ok (.invokestatic 48, 3)) (hM6 : (mY M).cls = RX6) (hE : Sm n mX10_sideOf as σ Q2) (hn : as.length = 1) (hfr : 1 ≤ mF M) (hlo : 20 ≤ mO M) (hrest : (rest.map fun v => v.category).sum ≤ 8) (hLl : L.length = mL M) (k : ∀ r σ2, Q2 r σ2 → Sw n M X Z (pc + 3) L (r.toList ++ rest) σ2) : Sw n M X Z pc L (ps as rest) σ := fun h hs => e_callN hX d hM6 (hE h hs) hn hfr hlo (Nat.zero_le _) (Nat.zero_le _) hrest hLl (fun r h2 ⟨σ2, q, s2⟩ => k r σ2 q h2 s2)
theorem s_callVi {M2 : MI} {as rest : List Value} {P : Int32 → Sg → Prop} {idx np ci o0 : Nat} {ks : List Kd} {C2 : String} {T2 : u_T} {N2 : Nat} (hX : Cx M X) (d : decode (mB M) pc = .ok (.invokevirtual idx, 3)) (hok : MkOk M2 np) (lk : LkV (mY M).cls idx M2) (hE : Sm n M2 (.ref o0 :: as) σ (qi P)) (ho : sh o0 = .inl (ci, ks)) (ha : o0 < n) (hcl : vwCl[ci]? = some (C2, T2, N2)) (hC2 : C2 = (mY M2).cls) (hn : as.length = np) (hm : mC M2 = 0 ∧ mS M2 = 0) (hfr : mF M2 + 1 ≤ mF M) (hlo : 8 + (mL M2 + 11) + mO M2 ≤ mO M) (hrest : (rest.map fun v => v.category).sum ≤ 8) (hLl : L.length = mL M) (k : ∀ v σ2, P v σ2 → Sw n M X Z (pc + 3) L (.int v :: rest) σ2) : Sw n M X Z pc L (ps as (.ref o0 :: rest)) σ := s_callV hX d hok lk hE ho ha hcl hC2 hn hm hfr hlo hrest hLl (fun r σ2 ⟨v, e, q⟩ => by subst e; exact k v σ2 q)
theorem s_callSi {M2 : MI} {as rest : List Value} {P : Int32 → Sg → Prop} {idx np : Nat} (hX : Cx M X) (d : decode (mB M) pc = .ok (.invokestatic idx, 3)) (hok : MkOk M2 np) (lk : LkS (mY M).cls idx M2) (hE : Sm n M2 as σ (qi P)) (hn : as.length = np) (hm : mC M2 = 0 ∧ mS M2 = 0) (hfr : mF M2 + 1 ≤ mF M) (hlo : 8 + (mL M2 + 11) + mO M2 ≤ mO M) (hrest : (rest.map fun v => v.category).sum ≤ 8) (hLl : L.length = mL M) (k : ∀ v σ2, P v σ2 → Sw n M X Z (pc + 3) L (.int v :: rest) σ2) : Sw n M X Z pc L (ps as rest) σ := s_callS hX d hok lk hE hn hm hfr hlo hrest hLl (fun r σ2 ⟨v, e, q⟩ => by subst e; exact k v σ2 q)
theorem s_callVl {M2 : MI} {as rest : List Value} {P : Int64 → Sg → Prop} {idx np ci o0 : Nat} {ks : List Kd} {C2 : String} {T2 : u_T} {N2 : Nat} (hX : Cx M X) (d : decode (mB M) pc = .ok (.invokevirtual idx, 3)) (hok : MkOk M2 np) (lk : LkV (mY M).cls idx M2) (hE : Sm n M2 (.ref o0 :: as) σ (ql P)) (ho : sh o0 = .inl (ci, ks)) (ha : o0 < n) (hcl : vwCl[ci]? = some (C2, T2, N2)) (hC2 : C2 = (mY M2).cls) (hn : as.length = np) (hm : mC M2 = 0 ∧ mS M2 = 0) (hfr : mF M2 + 1 ≤ mF M) (hlo : 8 + (mL M2 + 11) + mO M2 ≤ mO M) (hrest : (rest.map fun v => v.category).sum ≤ 8) (hLl : L.length = mL M) (k : ∀ v σ2, P v σ2 → Sw n M X Z (pc + 3) L (.long v :: rest) σ2) : Sw n M X Z pc L (ps as (.ref o0 :: rest)) σ := s_callV hX d hok lk hE ho ha hcl hC2 hn hm hfr hlo hrest hLl (fun r σ2 ⟨v, e, q⟩ => by subst e; exact k v σ2 q)
theorem s_callSl {M2 : MI} {as rest : List Value} {P : Int64 → Sg → Prop} {idx np : Nat} (hX : Cx M X) (d : decode (mB M) pc = .ok (.invokestatic idx, 3)) (hok : MkOk M2 np) (lk : LkS (mY M).cls idx M2) (hE : Sm n M2 as σ (ql P)) (hn : as.length = np) (hm : mC M2 = 0 ∧ mS M2 = 0) (hfr : mF M2 + 1 ≤ mF M) (hlo : 8 + (mL M2 + 11) + mO M2 ≤ mO M) (hrest : (rest.map fun v => v.category).sum ≤ 8) (hLl : L.length = mL M) (k : ∀ v σ2, P v σ2 → Sw n M X Z (pc + 3) L (.long v :: rest) σ2) : Sw n M X Z pc L (ps as rest) σ := s_callS hX d hok lk hE hn hm hfr hlo hrest hLl (fun r σ2 ⟨v, e, q⟩ => by subst e; exact k v σ2 q)
theorem s_callVv {M2 : MI} {as rest : List Value} {P : Sg → Prop} {idx np ci o0 : Nat} {ks : List Kd} {C2 : String} {T2 : u_T} {N2 : Nat} (hX : Cx M X) (d : decode (mB M) pc = .ok (.invokevirtual idx, 3)) (hok : MkOk M2 np) (lk : LkV (mY M).cls idx M2) (hE : Sm n M2 (.ref o0 :: as) σ (qv P)) (ho : sh o0 = .inl (ci, ks)) (ha : o0 < n) (hcl : vwCl[ci]? = some (C2, T2, N2)) (hC2 : C2 = (mY M2).cls) (hn : as.length = np) (hm : mC M2 = 0 ∧ mS M2 = 0) (hfr : mF M2 + 1 ≤ mF M) (hlo : 8 + (mL M2 + 11) + mO M2 ≤ mO M) (hrest : (rest.map fun v => v.category).sum ≤ 8) (hLl : L.length = mL M) (k : ∀ σ2, P σ2 → Sw n M X Z (pc + 3) L rest σ2) : Sw n M X Z pc L (ps as (.ref o0 :: rest)) σ := s_callV hX d hok lk hE ho ha hcl hC2 hn hm hfr hlo hrest hLl (fun r σ2 ⟨e, q⟩ => by subst e; exact k σ2 q)
theorem s_callSv {M2 : MI} {as rest : List Value} {P : Sg → Prop} {idx np : Nat} (hX : Cx M X) (d : decode (mB M) pc = .ok (.invokestatic idx, 3)) (hok : MkOk M2 np) (lk : LkS (mY M).cls idx M2) (hE : Sm n M2 as σ (qv P)) (hn : as.length = np) (hm : mC M2 = 0 ∧ mS M2 = 0) (hfr : mF M2 + 1 ≤ mF M) (hlo : 8 + (mL M2 + 11) + mO M2 ≤ mO M) (hrest : (rest.map fun v => v.category).sum ≤ 8) (hLl : L.length = mL M) (k : ∀ σ2, P σ2 → Sw n M X Z (pc + 3) L rest σ2) : Sw n M X Z pc L (ps as rest) σ := s_callS hX d hok lk hE hn hm hfr hlo hrest hLl (fun r σ2 ⟨e, q⟩ => by subst e; exact k σ2 q)
theorem s_iadd_n {a b : Nat} (hX : Cx M X) (d : decode (mB M) pc = .ok (.iadd, 1)) (k : Sw n M X Z (pc + 1) L (.int (nI (a + b)) :: st) σ) : Sw n M X Z pc L (.int (nI b) :: .int (nI a) :: st) σ := s_iadd hX d (s_top (nI_add a b) k)
theorem s_imul_n {a b : Nat} (hX : Cx M X) (d : decode (mB M) pc = .ok (.imul, 1)) (k : Sw n M X Z (pc + 1) L (.int (nI (a * b)) :: st) σ) : Sw n M X Z pc L (.int (nI b) :: .int (nI a) :: st) σ := s_imul hX d (s_top (pk_mul a b) k)
theorem s_isub_n {a b : Nat} (hX : Cx M X) (d : decode (mB M) pc = .ok (.isub, 1)) (hab : b ≤ a) (k : Sw n M X Z (pc + 1) L (.int (nI (a - b)) :: st) σ) : Sw n M X Z pc L (.int (nI b) :: .int (nI a) :: st) σ := s_isub hX d (s_top (pk_sub hab) k)
theorem s_idiv_n {a b : Nat} (hX : Cx M X) (d : decode (mB M) pc = .ok (.idiv, 1)) (ha : a < 2 ^ 31) (hb0 : 0 < b) (hb : b < 2 ^ 31) (k : Sw n M X Z (pc + 1) L (.int (nI (a / b)) :: st) σ) : Sw n M X Z pc L (.int (nI b) :: .int (nI a) :: st) σ := s_idiv hX d (nI_ne0 hb0 hb) (s_top (pk_div ha hb0 hb) k)
theorem s_irem_n {a b : Nat} (hX : Cx M X) (d : decode (mB M) pc = .ok (.irem, 1)) (ha : a < 2 ^ 31) (hb0 : 0 < b) (hb : b < 2 ^ 31) (k : Sw n M X Z (pc + 1) L (.int (nI (a % b)) :: st) σ) : Sw n M X Z pc L (.int (nI b) :: .int (nI a) :: st) σ := s_irem hX d (nI_ne0 hb0 hb) (s_top (pk_rem ha hb0 hb) k)
theorem s_iand_n {a b : Nat} (hX : Cx M X) (d : decode (mB M) pc = .ok (.iand, 1)) (k : Sw n M X Z (pc + 1) L (.int (nI (a &&& b)) :: st) σ) : Sw n M X Z pc L (.int (nI b) :: .int (nI a) :: st) σ := s_iand hX d (s_top (nx_and a b) k)
theorem s_ior_n {a b : Nat} (hX : Cx M X) (d : decode (mB M) pc = .ok (.ior, 1)) (k : Sw n M X Z (pc + 1) L (.int (nI (a ||| b)) :: st) σ) : Sw n M X Z pc L (.int (nI b) :: .int (nI a) :: st) σ := s_ior hX d (s_top (nx_or a b) k)
theorem s_ishl_n {a b : Nat} (hX : Cx M X) (d : decode (mB M) pc = .ok (.ishl, 1)) (hb : b < 32) (hab : a * 2 ^ b < 2 ^ 32) (k : Sw n M X Z (pc + 1) L (.int (nI (a * 2 ^ b)) :: st) σ) : Sw n M X Z pc L (.int (nI b) :: .int (nI a) :: st) σ := s_ishl hX d (s_top (nx_shl hb hab) k)
theorem s_ishr_n {a b : Nat} (hX : Cx M X) (d : decode (mB M) pc = .ok (.ishr, 1)) (hb : b < 32) (ha : a < 2 ^ 31) (k : Sw n M X Z (pc + 1) L (.int (nI (a / 2 ^ b)) :: st) σ) : Sw n M X Z pc L (.int (nI b) :: .int (nI a) :: st) σ := s_ishr hX d (s_top (nx_shr hb ha) k)
theorem s_iushr_n {a b : Nat} (hX : Cx M X) (d : decode (mB M) pc = .ok (.iushr, 1)) (hb : b < 32) (ha : a < 2 ^ 32) (k : Sw n M X Z (pc + 1) L (.int (nI (a / 2 ^ b)) :: st) σ) : Sw n M X Z pc L (.int (nI b) :: .int (nI a) :: st) σ := s_iushr hX d (s_top (nx_ushr hb ha) k)
theorem s_iinc_n {i a c : Nat} {z : Int} {L2 : List (Option Value)} (hX : Cx M X) (d : decode (mB M) pc = .ok (.iinc i z, 3)) (hv : L[i]? = some (some (.int (nI a)))) (hz : Int32.ofInt z = nI c) (hn : nl (L.getD (i - 1) none) = true) (hL : L.set i (some (.int (nI (a + c)))) = L2) (k : Sw n M X Z (pc + 3) L2 st σ) : Sw n M X Z pc L st σ := s_iinc hX d hv (by rw [hz, nI_add]) hn hL k
theorem s_idec_n {i a : Nat} {L2 : List (Option Value)} (hX : Cx M X) (d : decode (mB M) pc = .ok (.iinc i (-1), 3)) (hv : L[i]? = some (some (.int (nI a)))) (ha : 0 < a) (hn : nl (L.getD (i - 1) none) = true) (hL : L.set i (some (.int (nI (a - 1)))) = L2) (k : Sw n M X Z (pc + 3) L2 st σ) : Sw n M X Z pc L st σ := s_iinc hX d hv (sb_m1 ha) hn hL k
theorem s_icmp_eq_n {a b : Nat} {off : Int} {tgt : Nat} (hX : Cx M X) (d : decode (mB M) pc = .ok (.if_icmp .eq off, 3)) (ht : (pc : Int) + off = (tgt : Int)) (ha : a < 2 ^ 31) (hb : b < 2 ^ 31) (kt : a = b → Sw n M X Z tgt L st σ) (kf : a ≠ b → Sw n M X Z (pc + 3) L st σ) : Sw n M X Z pc L (.int (nI b) :: .int (nI a) :: st) σ := s_icmp_eq hX d ht (fun q => kt (by rw [nx_ne ha hb] at q; omega)) (fun q => kf (by rw [nx_ne ha hb] at q; omega))
theorem s_icmp_ne_n {a b : Nat} {off : Int} {tgt : Nat} (hX : Cx M X) (d : decode (mB M) pc = .ok (.if_icmp .ne off, 3)) (ht : (pc : Int) + off = (tgt : Int)) (ha : a < 2 ^ 31) (hb : b < 2 ^ 31) (kt : a ≠ b → Sw n M X Z tgt L st σ) (kf : a = b → Sw n M X Z (pc + 3) L st σ) : Sw n M X Z pc L (.int (nI b) :: .int (nI a) :: st) σ := s_icmp_ne hX d ht (fun q => kt (by rw [nx_ne ha hb] at q; omega)) (fun q => kf (by rw [nx_ne ha hb] at q; omega))
theorem s_icmp_lt_n {a b : Nat} {off : Int} {tgt : Nat} (hX : Cx M X) (d : decode (mB M) pc = .ok (.if_icmp .lt off, 3)) (ht : (pc : Int) + off = (tgt : Int)) (ha : a < 2 ^ 31) (hb : b < 2 ^ 31) (kt : a < b → Sw n M X Z tgt L st σ) (kf : b ≤ a → Sw n M X Z (pc + 3) L st σ) : Sw n M X Z pc L (.int (nI b) :: .int (nI a) :: st) σ := s_icmp_lt hX d ht (fun q => kt (by rw [nx_lt ha hb] at q; omega)) (fun q => kf (by rw [nx_lt ha hb] at q; omega))
theorem s_icmp_ge_n {a b : Nat} {off : Int} {tgt : Nat} (hX : Cx M X) (d : decode (mB M) pc = .ok (.if_icmp .ge off, 3)) (ht : (pc : Int) + off = (tgt : Int)) (ha : a < 2 ^ 31) (hb : b < 2 ^ 31) (kt : b ≤ a → Sw n M X Z tgt L st σ) (kf : a < b → Sw n M X Z (pc + 3) L st σ) : Sw n M X Z pc L (.int (nI b) :: .int (nI a) :: st) σ := s_icmp_ge hX d ht (fun q => kt (by rw [nx_le hb ha] at q; omega)) (fun q => kf (by rw [nx_le hb ha] at q; omega))
theorem s_icmp_gt_n {a b : Nat} {off : Int} {tgt : Nat} (hX : Cx M X) (d : decode (mB M) pc = .ok (.if_icmp .gt off, 3)) (ht : (pc : Int) + off = (tgt : Int)) (ha : a < 2 ^ 31) (hb : b < 2 ^ 31) (kt : b < a → Sw n M X Z tgt L st σ) (kf : a ≤ b → Sw n M X Z (pc + 3) L st σ) : Sw n M X Z pc L (.int (nI b) :: .int (nI a) :: st) σ := s_icmp_gt hX d ht (fun q => kt (by rw [nx_lt hb ha] at q; omega)) (fun q => kf (by rw [nx_lt hb ha] at q; omega))
theorem s_icmp_le_n {a b : Nat} {off : Int} {tgt : Nat} (hX : Cx M X) (d : decode (mB M) pc = .ok (.if_icmp .le off, 3)) (ht : (pc : Int) + off = (tgt : Int)) (ha : a < 2 ^ 31) (hb : b < 2 ^ 31) (kt : a ≤ b → Sw n M X Z tgt L st σ) (kf : b < a → Sw n M X Z (pc + 3) L st σ) : Sw n M X Z pc L (.int (nI b) :: .int (nI a) :: st) σ := s_icmp_le hX d ht (fun q => kt (by rw [nx_le ha hb] at q; omega)) (fun q => kf (by rw [nx_le ha hb] at q; omega))
theorem s_if_eq_n {a : Nat} {off : Int} {tgt : Nat} (hX : Cx M X) (d : decode (mB M) pc = .ok (.ifCond .eq off, 3)) (ht : (pc : Int) + off = (tgt : Int)) (ha : a < 2 ^ 31) (kt : a = 0 → Sw n M X Z tgt L st σ) (kf : a ≠ 0 → Sw n M X Z (pc + 3) L st σ) : Sw n M X Z pc L (.int (nI a) :: st) σ := s_if_eq hX d ht (fun q => kt (by rw [← nI_0, nx_ne ha (by decide : 0 < 2 ^ 31)] at q; omega)) (fun q => kf (by rw [← nI_0, nx_ne ha (by decide : 0 < 2 ^ 31)] at q; omega))
theorem s_if_ne_n {a : Nat} {off : Int} {tgt : Nat} (hX : Cx M X) (d : decode (mB M) pc = .ok (.ifCond .ne off, 3)) (ht : (pc : Int) + off = (tgt : Int)) (ha : a < 2 ^ 31) (kt : a ≠ 0 → Sw n M X Z tgt L st σ) (kf : a = 0 → Sw n M X Z (pc + 3) L st σ) : Sw n M X Z pc L (.int (nI a) :: st) σ := s_if_ne hX d ht (fun q => kt (by rw [← nI_0, nx_ne ha (by decide : 0 < 2 ^ 31)] at q; omega)) (fun q => kf (by rw [← nI_0, nx_ne ha (by decide : 0 < 2 ^ 31)] at q; omega))
theorem s_if_gt_n {a : Nat} {off : Int} {tgt : Nat} (hX : Cx M X) (d : decode (mB M) pc = .ok (.ifCond .gt off, 3)) (ht : (pc : Int) + off = (tgt : Int)) (ha : a < 2 ^ 31) (kt : 0 < a → Sw n M X Z tgt L st σ) (kf : a = 0 → Sw n M X Z (pc + 3) L st σ) : Sw n M X Z pc L (.int (nI a) :: st) σ := s_if_gt hX d ht (fun q => kt (by rw [← nI_0, nx_lt (by decide : 0 < 2 ^ 31) ha] at q; omega)) (fun q => kf (by rw [← nI_0, nx_lt (by decide : 0 < 2 ^ 31) ha] at q; omega))
theorem s_if_le_n {a : Nat} {off : Int} {tgt : Nat} (hX : Cx M X) (d : decode (mB M) pc = .ok (.ifCond .le off, 3)) (ht : (pc : Int) + off = (tgt : Int)) (ha : a < 2 ^ 31) (kt : a = 0 → Sw n M X Z tgt L st σ) (kf : 0 < a → Sw n M X Z (pc + 3) L st σ) : Sw n M X Z pc L (.int (nI a) :: st) σ := s_if_le hX d ht (fun q => kt (by rw [← nI_0, nx_le ha (by decide : 0 < 2 ^ 31)] at q; omega)) (fun q => kf (by rw [← nI_0, nx_le ha (by decide : 0 < 2 ^ 31)] at q; omega))
theorem s_if_lt_n {a : Nat} {off : Int} (hX : Cx M X) (d : decode (mB M) pc = .ok (.ifCond .lt off, 3)) {tgt : Nat} (ht : (pc : Int) + off = (tgt : Int)) (ha : a < 2 ^ 31) (k : Sw n M X Z (pc + 3) L st σ) : Sw n M X Z pc L (.int (nI a) :: st) σ := s_if_lt hX d ht (fun q => absurd q (nI_pos ha)) (fun _ => k)
theorem s_if_ge_n {a : Nat} {off : Int} (hX : Cx M X) (d : decode (mB M) pc = .ok (.ifCond .ge off, 3)) {tgt : Nat} (ht : (pc : Int) + off = (tgt : Int)) (ha : a < 2 ^ 31) (k : Sw n M X Z tgt L st σ) : Sw n M X Z pc L (.int (nI a) :: st) σ := s_if_ge hX d ht (fun _ => k) (fun q => absurd (nI_pos' ha) q)
end SL
theorem st_1_0 {a0 v : Option Value} : [a0].set 0 v = [v] := rfl
theorem st_2_0 {a0 a1 v : Option Value} : [a0, a1].set 0 v = [v, a1] := rfl
theorem sl_2_0 {a0 a1 v : Option Value} : ([a0, a1].set 0 v).set (0 + 1) none = [v, none] := rfl
theorem st_2_1 {a0 a1 v : Option Value} : [a0, a1].set 1 v = [a0, v] := rfl
theorem st_3_0 {a0 a1 a2 v : Option Value} : [a0, a1, a2].set 0 v = [v, a1, a2] := rfl
theorem sl_3_0 {a0 a1 a2 v : Option Value} : ([a0, a1, a2].set 0 v).set (0 + 1) none = [v, none, a2] := rfl
theorem st_3_1 {a0 a1 a2 v : Option Value} : [a0, a1, a2].set 1 v = [a0, v, a2] := rfl
theorem sl_3_1 {a0 a1 a2 v : Option Value} : ([a0, a1, a2].set 1 v).set (1 + 1) none = [a0, v, none] := rfl
theorem st_3_2 {a0 a1 a2 v : Option Value} : [a0, a1, a2].set 2 v = [a0, a1, v] := rfl
theorem st_4_0 {a0 a1 a2 a3 v : Option Value} : [a0, a1, a2, a3].set 0 v = [v, a1, a2, a3] := rfl
theorem sl_4_0 {a0 a1 a2 a3 v : Option Value} : ([a0, a1, a2, a3].set 0 v).set (0 + 1) none = [v, none, a2, a3] := rfl
theorem st_4_1 {a0 a1 a2 a3 v : Option Value} : [a0, a1, a2, a3].set 1 v = [a0, v, a2, a3] := rfl
theorem sl_4_1 {a0 a1 a2 a3 v : Option Value} : ([a0, a1, a2, a3].set 1 v).set (1 + 1) none = [a0, v, none, a3] := rfl
theorem st_4_2 {a0 a1 a2 a3 v : Option Value} : [a0, a1, a2, a3].set 2 v = [a0, a1, v, a3] := rfl
theorem sl_4_2 {a0 a1 a2 a3 v : Option Value} : ([a0, a1, a2, a3].set 2 v).set (2 + 1) none = [a0, a1, v, none] := rfl
theorem st_4_3 {a0 a1 a2 a3 v : Option Value} : [a0, a1, a2, a3].set 3 v = [a0, a1, a2, v] := rfl
theorem st_5_0 {a0 a1 a2 a3 a4 v : Option Value} : [a0, a1, a2, a3, a4].set 0 v = [v, a1, a2, a3, a4] := rfl
theorem sl_5_0 {a0 a1 a2 a3 a4 v : Option Value} : ([a0, a1, a2, a3, a4].set 0 v).set (0 + 1) none = [v, none, a2, a3, a4] := rfl
theorem st_5_1 {a0 a1 a2 a3 a4 v : Option Value} : [a0, a1, a2, a3, a4].set 1 v = [a0, v, a2, a3, a4] := rfl
theorem sl_5_1 {a0 a1 a2 a3 a4 v : Option Value} : ([a0, a1, a2, a3, a4].set 1 v).set (1 + 1) none = [a0, v, none, a3, a4] := rfl
theorem st_5_2 {a0 a1 a2 a3 a4 v : Option Value} : [a0, a1, a2, a3, a4].set 2 v = [a0, a1, v, a3, a4] := rfl
theorem sl_5_2 {a0 a1 a2 a3 a4 v : Option Value} : ([a0, a1, a2, a3, a4].set 2 v).set (2 + 1) none = [a0, a1, v, none, a4] := rfl
theorem st_5_3 {a0 a1 a2 a3 a4 v : Option Value} : [a0, a1, a2, a3, a4].set 3 v = [a0, a1, a2, v, a4] := rfl
theorem sl_5_3 {a0 a1 a2 a3 a4 v : Option Value} : ([a0, a1, a2, a3, a4].set 3 v).set (3 + 1) none = [a0, a1, a2, v, none] := rfl
theorem st_5_4 {a0 a1 a2 a3 a4 v : Option Value} : [a0, a1, a2, a3, a4].set 4 v = [a0, a1, a2, a3, v] := rfl
theorem st_6_0 {a0 a1 a2 a3 a4 a5 v : Option Value} : [a0, a1, a2, a3, a4, a5].set 0 v = [v, a1, a2, a3, a4, a5] := rfl
theorem sl_6_0 {a0 a1 a2 a3 a4 a5 v : Option Value} : ([a0, a1, a2, a3, a4, a5].set 0 v).set (0 + 1) none = [v, none, a2, a3, a4, a5] := rfl
theorem st_6_1 {a0 a1 a2 a3 a4 a5 v : Option Value} : [a0, a1, a2, a3, a4, a5].set 1 v = [a0, v, a2, a3, a4, a5] := rfl
theorem sl_6_1 {a0 a1 a2 a3 a4 a5 v : Option Value} : ([a0, a1, a2, a3, a4, a5].set 1 v).set (1 + 1) none = [a0, v, none, a3, a4, a5] := rfl
theorem st_6_2 {a0 a1 a2 a3 a4 a5 v : Option Value} : [a0, a1, a2, a3, a4, a5].set 2 v = [a0, a1, v, a3, a4, a5] := rfl
theorem sl_6_2 {a0 a1 a2 a3 a4 a5 v : Option Value} : ([a0, a1, a2, a3, a4, a5].set 2 v).set (2 + 1) none = [a0, a1, v, none, a4, a5] := rfl
theorem st_6_3 {a0 a1 a2 a3 a4 a5 v : Option Value} : [a0, a1, a2, a3, a4, a5].set 3 v = [a0, a1, a2, v, a4, a5] := rfl
theorem sl_6_3 {a0 a1 a2 a3 a4 a5 v : Option Value} : ([a0, a1, a2, a3, a4, a5].set 3 v).set (3 + 1) none = [a0, a1, a2, v, none, a5] := rfl
theorem st_6_4 {a0 a1 a2 a3 a4 a5 v : Option Value} : [a0, a1, a2, a3, a4, a5].set 4 v = [a0, a1, a2, a3, v, a5] := rfl
theorem sl_6_4 {a0 a1 a2 a3 a4 a5 v : Option Value} : ([a0, a1, a2, a3, a4, a5].set 4 v).set (4 + 1) none = [a0, a1, a2, a3, v, none] := rfl
theorem st_6_5 {a0 a1 a2 a3 a4 a5 v : Option Value} : [a0, a1, a2, a3, a4, a5].set 5 v = [a0, a1, a2, a3, a4, v] := rfl
theorem st_7_0 {a0 a1 a2 a3 a4 a5 a6 v : Option Value} : [a0, a1, a2, a3, a4, a5, a6].set 0 v = [v, a1, a2, a3, a4, a5, a6] := rfl
theorem sl_7_0 {a0 a1 a2 a3 a4 a5 a6 v : Option Value} : ([a0, a1, a2, a3, a4, a5, a6].set 0 v).set (0 + 1) none = [v, none, a2, a3, a4, a5, a6] := rfl
theorem st_7_1 {a0 a1 a2 a3 a4 a5 a6 v : Option Value} : [a0, a1, a2, a3, a4, a5, a6].set 1 v = [a0, v, a2, a3, a4, a5, a6] := rfl
theorem sl_7_1 {a0 a1 a2 a3 a4 a5 a6 v : Option Value} : ([a0, a1, a2, a3, a4, a5, a6].set 1 v).set (1 + 1) none = [a0, v, none, a3, a4, a5, a6] := rfl
theorem st_7_2 {a0 a1 a2 a3 a4 a5 a6 v : Option Value} : [a0, a1, a2, a3, a4, a5, a6].set 2 v = [a0, a1, v, a3, a4, a5, a6] := rfl
theorem sl_7_2 {a0 a1 a2 a3 a4 a5 a6 v : Option Value} : ([a0, a1, a2, a3, a4, a5, a6].set 2 v).set (2 + 1) none = [a0, a1, v, none, a4, a5, a6] := rfl
theorem st_7_3 {a0 a1 a2 a3 a4 a5 a6 v : Option Value} : [a0, a1, a2, a3, a4, a5, a6].set 3 v = [a0, a1, a2, v, a4, a5, a6] := rfl
theorem sl_7_3 {a0 a1 a2 a3 a4 a5 a6 v : Option Value} : ([a0, a1, a2, a3, a4, a5, a6].set 3 v).set (3 + 1) none = [a0, a1, a2, v, none, a5, a6] := rfl
theorem st_7_4 {a0 a1 a2 a3 a4 a5 a6 v : Option Value} : [a0, a1, a2, a3, a4, a5, a6].set 4 v = [a0, a1, a2, a3, v, a5, a6] := rfl
theorem sl_7_4 {a0 a1 a2 a3 a4 a5 a6 v : Option Value} : ([a0, a1, a2, a3, a4, a5, a6].set 4 v).set (4 + 1) none = [a0, a1, a2, a3, v, none, a6] := rfl
theorem st_7_5 {a0 a1 a2 a3 a4 a5 a6 v : Option Value} : [a0, a1, a2, a3, a4, a5, a6].set 5 v = [a0, a1, a2, a3, a4, v, a6] := rfl
theorem sl_7_5 {a0 a1 a2 a3 a4 a5 a6 v : Option Value} : ([a0, a1, a2, a3, a4, a5, a6].set 5 v).set (5 + 1) none = [a0, a1, a2, a3, a4, v, none] := rfl
theorem st_7_6 {a0 a1 a2 a3 a4 a5 a6 v : Option Value} : [a0, a1, a2, a3, a4, a5, a6].set 6 v = [a0, a1, a2, a3, a4, a5, v] := rfl
theorem st_8_0 {a0 a1 a2 a3 a4 a5 a6 a7 v : Option Value} : [a0, a1, a2, a3, a4, a5, a6, a7].set 0 v = [v, a1, a2, a3, a4, a5, a6, a7] := rfl
theorem sl_8_0 {a0 a1 a2 a3 a4 a5 a6 a7 v : Option Value} : ([a0, a1, a2, a3, a4, a5, a6, a7].set 0 v).set (0 + 1) none = [v, none, a2, a3, a4, a5, a6, a7] := rfl
theorem st_8_1 {a0 a1 a2 a3 a4 a5 a6 a7 v : Option Value} : [a0, a1, a2, a3, a4, a5, a6, a7].set 1 v = [a0, v, a2, a3, a4, a5, a6, a7] := rfl
theorem sl_8_1 {a0 a1 a2 a3 a4 a5 a6 a7 v : Option Value} : ([a0, a1, a2, a3, a4, a5, a6, a7].set 1 v).set (1 + 1) none = [a0, v, none, a3, a4, a5, a6, a7] := rfl
theorem st_8_2 {a0 a1 a2 a3 a4 a5 a6 a7 v : Option Value} : [a0, a1, a2, a3, a4, a5, a6, a7].set 2 v = [a0, a1, v, a3, a4, a5, a6, a7] := rfl
theorem sl_8_2 {a0 a1 a2 a3 a4 a5 a6 a7 v : Option Value} : ([a0, a1, a2, a3, a4, a5, a6, a7].set 2 v).set (2 + 1) none = [a0, a1, v, none, a4, a5, a6, a7] := rfl
theorem st_8_3 {a0 a1 a2 a3 a4 a5 a6 a7 v : Option Value} : [a0, a1, a2, a3, a4, a5, a6, a7].set 3 v = [a0, a1, a2, v, a4, a5, a6, a7] := rfl
theorem sl_8_3 {a0 a1 a2 a3 a4 a5 a6 a7 v : Option Value} : ([a0, a1, a2, a3, a4, a5, a6, a7].set 3 v).set (3 + 1) none = [a0, a1, a2, v, none, a5, a6, a7] := rfl
theorem st_8_4 {a0 a1 a2 a3 a4 a5 a6 a7 v : Option Value} : [a0, a1, a2, a3, a4, a5, a6, a7].set 4 v = [a0, a1, a2, a3, v, a5, a6, a7] := rfl
theorem sl_8_4 {a0 a1 a2 a3 a4 a5 a6 a7 v : Option Value} : ([a0, a1, a2, a3, a4, a5, a6, a7].set 4 v).set (4 + 1) none = [a0, a1, a2, a3, v, none, a6, a7] := rfl
theorem st_8_5 {a0 a1 a2 a3 a4 a5 a6 a7 v : Option Value} : [a0, a1, a2, a3, a4, a5, a6, a7].set 5 v = [a0, a1, a2, a3, a4, v, a6, a7] := rfl
theorem sl_8_5 {a0 a1 a2 a3 a4 a5 a6 a7 v : Option Value} : ([a0, a1, a2, a3, a4, a5, a6, a7].set 5 v).set (5 + 1) none = [a0, a1, a2, a3, a4, v, none, a7] := rfl
theorem st_8_6 {a0 a1 a2 a3 a4 a5 a6 a7 v : Option Value} : [a0, a1, a2, a3, a4, a5, a6, a7].set 6 v = [a0, a1, a2, a3, a4, a5, v, a7] := rfl
theorem sl_8_6 {a0 a1 a2 a3 a4 a5 a6 a7 v : Option Value} : ([a0, a1, a2, a3, a4, a5, a6, a7].set 6 v).set (6 + 1) none = [a0, a1, a2, a3, a4, a5, v, none] := rfl
theorem st_8_7 {a0 a1 a2 a3 a4 a5 a6 a7 v : Option Value} : [a0, a1, a2, a3, a4, a5, a6, a7].set 7 v = [a0, a1, a2, a3, a4, a5, a6, v] := rfl
theorem st_9_0 {a0 a1 a2 a3 a4 a5 a6 a7 a8 v : Option Value} : [a0, a1, a2, a3, a4, a5, a6, a7, a8].set 0 v = [v, a1, a2, a3, a4, a5, a6, a7, a8] := rfl
theorem sl_9_0 {a0 a1 a2 a3 a4 a5 a6 a7 a8 v : Option Value} : ([a0, a1, a2, a3, a4, a5, a6, a7, a8].set 0 v).set (0 + 1) none = [v, none, a2, a3, a4, a5, a6, a7, a8] := rfl
theorem st_9_1 {a0 a1 a2 a3 a4 a5 a6 a7 a8 v : Option Value} : [a0, a1, a2, a3, a4, a5, a6, a7, a8].set 1 v = [a0, v, a2, a3, a4, a5, a6, a7, a8] := rfl
theorem sl_9_1 {a0 a1 a2 a3 a4 a5 a6 a7 a8 v : Option Value} : ([a0, a1, a2, a3, a4, a5, a6, a7, a8].set 1 v).set (1 + 1) none = [a0, v, none, a3, a4, a5, a6, a7, a8] := rfl
theorem st_9_2 {a0 a1 a2 a3 a4 a5 a6 a7 a8 v : Option Value} : [a0, a1, a2, a3, a4, a5, a6, a7, a8].set 2 v = [a0, a1, v, a3, a4, a5, a6, a7, a8] := rfl
theorem sl_9_2 {a0 a1 a2 a3 a4 a5 a6 a7 a8 v : Option Value} : ([a0, a1, a2, a3, a4, a5, a6, a7, a8].set 2 v).set (2 + 1) none = [a0, a1, v, none, a4, a5, a6, a7, a8] := rfl
theorem st_9_3 {a0 a1 a2 a3 a4 a5 a6 a7 a8 v : Option Value} : [a0, a1, a2, a3, a4, a5, a6, a7, a8].set 3 v = [a0, a1, a2, v, a4, a5, a6, a7, a8] := rfl
theorem sl_9_3 {a0 a1 a2 a3 a4 a5 a6 a7 a8 v : Option Value} : ([a0, a1, a2, a3, a4, a5, a6, a7, a8].set 3 v).set (3 + 1) none = [a0, a1, a2, v, none, a5, a6, a7, a8] := rfl
theorem st_9_4 {a0 a1 a2 a3 a4 a5 a6 a7 a8 v : Option Value} : [a0, a1, a2, a3, a4, a5, a6, a7, a8].set 4 v = [a0, a1, a2, a3, v, a5, a6, a7, a8] := rfl
theorem sl_9_4 {a0 a1 a2 a3 a4 a5 a6 a7 a8 v : Option Value} : ([a0, a1, a2, a3, a4, a5, a6, a7, a8].set 4 v).set (4 + 1) none = [a0, a1, a2, a3, v, none, a6, a7, a8] := rfl
theorem st_9_5 {a0 a1 a2 a3 a4 a5 a6 a7 a8 v : Option Value} : [a0, a1, a2, a3, a4, a5, a6, a7, a8].set 5 v = [a0, a1, a2, a3, a4, v, a6, a7, a8] := rfl
theorem sl_9_5 {a0 a1 a2 a3 a4 a5 a6 a7 a8 v : Option Value} : ([a0, a1, a2, a3, a4, a5, a6, a7, a8].set 5 v).set (5 + 1) none = [a0, a1, a2, a3, a4, v, none, a7, a8] := rfl
theorem st_9_6 {a0 a1 a2 a3 a4 a5 a6 a7 a8 v : Option Value} : [a0, a1, a2, a3, a4, a5, a6, a7, a8].set 6 v = [a0, a1, a2, a3, a4, a5, v, a7, a8] := rfl
theorem sl_9_6 {a0 a1 a2 a3 a4 a5 a6 a7 a8 v : Option Value} : ([a0, a1, a2, a3, a4, a5, a6, a7, a8].set 6 v).set (6 + 1) none = [a0, a1, a2, a3, a4, a5, v, none, a8] := rfl
theorem st_9_7 {a0 a1 a2 a3 a4 a5 a6 a7 a8 v : Option Value} : [a0, a1, a2, a3, a4, a5, a6, a7, a8].set 7 v = [a0, a1, a2, a3, a4, a5, a6, v, a8] := rfl
theorem sl_9_7 {a0 a1 a2 a3 a4 a5 a6 a7 a8 v : Option Value} : ([a0, a1, a2, a3, a4, a5, a6, a7, a8].set 7 v).set (7 + 1) none = [a0, a1, a2, a3, a4, a5, a6, v, none] := rfl
theorem st_9_8 {a0 a1 a2 a3 a4 a5 a6 a7 a8 v : Option Value} : [a0, a1, a2, a3, a4, a5, a6, a7, a8].set 8 v = [a0, a1, a2, a3, a4, a5, a6, a7, v] := rfl
theorem st_10_0 {a0 a1 a2 a3 a4 a5 a6 a7 a8 a9 v : Option Value} : [a0, a1, a2, a3, a4, a5, a6, a7, a8, a9].set 0 v = [v, a1, a2, a3, a4, a5, a6, a7, a8, a9] := rfl
theorem sl_10_0 {a0 a1 a2 a3 a4 a5 a6 a7 a8 a9 v : Option Value} : ([a0, a1, a2, a3, a4, a5, a6, a7, a8, a9].set 0 v).set (0 + 1) none = [v, none, a2, a3, a4, a5, a6, a7, a8, a9] := rfl
theorem st_10_1 {a0 a1 a2 a3 a4 a5 a6 a7 a8 a9 v : Option Value} : [a0, a1, a2, a3, a4, a5, a6, a7, a8, a9].set 1 v = [a0, v, a2, a3, a4, a5, a6, a7, a8, a9] := rfl
theorem sl_10_1 {a0 a1 a2 a3 a4 a5 a6 a7 a8 a9 v : Option Value} : ([a0, a1, a2, a3, a4, a5, a6, a7, a8, a9].set 1 v).set (1 + 1) none = [a0, v, none, a3, a4, a5, a6, a7, a8, a9] := rfl
theorem st_10_2 {a0 a1 a2 a3 a4 a5 a6 a7 a8 a9 v : Option Value} : [a0, a1, a2, a3, a4, a5, a6, a7, a8, a9].set 2 v = [a0, a1, v, a3, a4, a5, a6, a7, a8, a9] := rfl
theorem sl_10_2 {a0 a1 a2 a3 a4 a5 a6 a7 a8 a9 v : Option Value} : ([a0, a1, a2, a3, a4, a5, a6, a7, a8, a9].set 2 v).set (2 + 1) none = [a0, a1, v, none, a4, a5, a6, a7, a8, a9] := rfl
theorem st_10_3 {a0 a1 a2 a3 a4 a5 a6 a7 a8 a9 v : Option Value} : [a0, a1, a2, a3, a4, a5, a6, a7, a8, a9].set 3 v = [a0, a1, a2, v, a4, a5, a6, a7, a8, a9] := rfl
theorem sl_10_3 {a0 a1 a2 a3 a4 a5 a6 a7 a8 a9 v : Option Value} : ([a0, a1, a2, a3, a4, a5, a6, a7, a8, a9].set 3 v).set (3 + 1) none = [a0, a1, a2, v, none, a5, a6, a7, a8, a9] := rfl
theorem st_10_4 {a0 a1 a2 a3 a4 a5 a6 a7 a8 a9 v : Option Value} : [a0, a1, a2, a3, a4, a5, a6, a7, a8, a9].set 4 v = [a0, a1, a2, a3, v, a5, a6, a7, a8, a9] := rfl
theorem sl_10_4 {a0 a1 a2 a3 a4 a5 a6 a7 a8 a9 v : Option Value} : ([a0, a1, a2, a3, a4, a5, a6, a7, a8, a9].set 4 v).set (4 + 1) none = [a0, a1, a2, a3, v, none, a6, a7, a8, a9] := rfl
theorem st_10_5 {a0 a1 a2 a3 a4 a5 a6 a7 a8 a9 v : Option Value} : [a0, a1, a2, a3, a4, a5, a6, a7, a8, a9].set 5 v = [a0, a1, a2, a3, a4, v, a6, a7, a8, a9] := rfl
theorem sl_10_5 {a0 a1 a2 a3 a4 a5 a6 a7 a8 a9 v : Option Value} : ([a0, a1, a2, a3, a4, a5, a6, a7, a8, a9].set 5 v).set (5 + 1) none = [a0, a1, a2, a3, a4, v, none, a7, a8, a9] := rfl
theorem st_10_6 {a0 a1 a2 a3 a4 a5 a6 a7 a8 a9 v : Option Value} : [a0, a1, a2, a3, a4, a5, a6, a7, a8, a9].set 6 v = [a0, a1, a2, a3, a4, a5, v, a7, a8, a9] := rfl
theorem sl_10_6 {a0 a1 a2 a3 a4 a5 a6 a7 a8 a9 v : Option Value} : ([a0, a1, a2, a3, a4, a5, a6, a7, a8, a9].set 6 v).set (6 + 1) none = [a0, a1, a2, a3, a4, a5, v, none, a8, a9] := rfl
theorem st_10_7 {a0 a1 a2 a3 a4 a5 a6 a7 a8 a9 v : Option Value} : [a0, a1, a2, a3, a4, a5, a6, a7, a8, a9].set 7 v = [a0, a1, a2, a3, a4, a5, a6, v, a8, a9] := rfl
theorem sl_10_7 {a0 a1 a2 a3 a4 a5 a6 a7 a8 a9 v : Option Value} : ([a0, a1, a2, a3, a4, a5, a6, a7, a8, a9].set 7 v).set (7 + 1) none = [a0, a1, a2, a3, a4, a5, a6, v, none, a9] := rfl
theorem st_10_8 {a0 a1 a2 a3 a4 a5 a6 a7 a8 a9 v : Option Value} : [a0, a1, a2, a3, a4, a5, a6, a7, a8, a9].set 8 v = [a0, a1, a2, a3, a4, a5, a6, a7, v, a9] := rfl
theorem sl_10_8 {a0 a1 a2 a3 a4 a5 a6 a7 a8 a9 v : Option Value} : ([a0, a1, a2, a3, a4, a5, a6, a7, a8, a9].set 8 v).set (8 + 1) none = [a0, a1, a2, a3, a4, a5, a6, a7, v, none] := rfl
theorem st_10_9 {a0 a1 a2 a3 a4 a5 a6 a7 a8 a9 v : Option Value} : [a0, a1, a2, a3, a4, a5, a6, a7, a8, a9].set 9 v = [a0, a1, a2, a3, a4, a5, a6, a7, a8, v] := rfl
