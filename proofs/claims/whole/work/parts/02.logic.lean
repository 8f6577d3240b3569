theorem ar_nat : Cond.native arraycopyName ∈ tb := tb_at 531 (by decide +kernel) rfl
theorem ar_stat : Cond.static arraycopyName ∈ tb := tb_at 530 (by decide +kernel) rfl
theorem ar_ini : Cond.initialized "java/lang/System" ∈ tb := tb_at 54 (by decide +kernel) rfl
theorem ar_0 : Cond.arrayClass (newarray.typeOf .int) ∈ tb := tb_at 97 (by decide +kernel) rfl
theorem ar_1 : Cond.arrayClass (newarray.typeOf .boolean) ∈ tb := tb_at 98 (by decide +kernel) rfl
theorem ar_2 : Cond.arrayClass (newarray.typeOf .long) ∈ tb := tb_at 194 (by decide +kernel) rfl
theorem so_stat : Cond.static yX10_sideOf ∈ tb := tb_at 377 (by decide +kernel) rfl
theorem oi_inst : Cond.instanceMethod objectInit ∈ tb := tb_at 61 (by decide +kernel) rfl
theorem oi_code : Cond.code objectInit ⟨#[0xb1]⟩ 1 none ∈ tb := tb_at 62 (by decide +kernel) rfl
/-! ===== a logic of frames over an explicit heap: cell k of the list stands at address b + k ===== -/
abbrev AC : Type := (Nat × vp_A) ⊕ (Nat × List Value)
def rv (b : Nat) (v : Value) : Value := match v with
  | .ref k => .ref (b + k)
  | .int x => .int x
  | .long x => .long x
  | .float x => .float x
  | .double x => .double x
  | .null => .null
  | .retAddr x => .retAddr x
def rc (b : Nat) (dA : Nat → ClassId) (c : AC) : va_E := match c with
  | .inl a => .inl (dA a.1, a.2)
  | .inr f => .inr (f.1, f.2.map (rv b))
def rz (b : Nat) (dA : Nat → ClassId) (h : List AC) : va_W := h.mapIdx (fun k c => (b + k, rc b dA c))
theorem rv_cat (b : Nat) (v : Value) : (rv b v).category = v.category := by cases v <;> rfl
theorem rv_cats (b : Nat) (vs : List Value) : ((vs.map (rv b)).map fun v => v.category).sum = (vs.map fun v => v.category).sum := by
  rw [List.map_map]
  congr 1
  exact List.map_congr_left (fun v _ => rv_cat b v)
theorem rv_narrow {b : Nat} {ty : FieldType} {v : Value} (h : narrow ty v = v) : narrow ty (rv b v) = rv b v := by
  cases v <;> first | exact h | (cases ty <;> rfl)
theorem rv_fits {b : Nat} {ty : FieldType} {v : Value} (h : fits ty v = true) : fits ty (rv b v) = true := by
  cases v <;> first | exact h | (cases ty <;> first | exact h | rfl)
theorem rz_len (b : Nat) (dA : Nat → ClassId) (h : List AC) : (rz b dA h).length = h.length := by simp [rz]
theorem rz_at {b : Nat} {dA : Nat → ClassId} {h : List AC} {k : Nat} {c : AC} (e : h[k]? = some c) : (rz b dA h)[k]? = some (b + k, rc b dA c) := by simp [rz, List.getElem?_mapIdx, e]
theorem rz_of {b : Nat} {dA : Nat → ClassId} {h : List AC} {k : Nat} {q : Nat × va_E} (e : (rz b dA h)[k]? = some q) : ∃ c, h[k]? = some c ∧ q = (b + k, rc b dA c) := by
  simp only [rz, List.getElem?_mapIdx, Option.map_eq_some_iff] at e
  obtain ⟨c, h1, h2⟩ := e
  exact ⟨c, h1, h2.symm⟩
theorem rz_set (b : Nat) (dA : Nat → ClassId) (h : List AC) (k : Nat) (c : AC) : (rz b dA h).set k (b + k, rc b dA c) = rz b dA (h.set k c) := by
  apply List.ext_getElem?
  intro i
  by_cases hi : i = k
  · subst hi
    by_cases hl : i < h.length
    · rw [List.getElem?_set_self (by rw [rz_len]; exact hl), rz_at (List.getElem?_set_self hl)]
    · rw [List.getElem?_eq_none (by simp [rz_len]; omega), List.getElem?_eq_none (by simp [rz_len]; omega)]
  · rw [List.getElem?_set_ne (Ne.symm hi)]
    simp only [rz, List.getElem?_mapIdx]
    rw [List.getElem?_set_ne (Ne.symm hi)]
theorem rz_push (b : Nat) (dA : Nat → ClassId) (h : List AC) (c : AC) : rz b dA h ++ [(b + h.length, rc b dA c)] = rz b dA (h ++ [c]) := by
  simp [rz, List.mapIdx_append]
theorem rz_D (b : Nat) (dA : Nat → ClassId) (h : List AC) : va_D (fun q => b ≤ q) (rz b dA h) := by
  refine ⟨fun i j p q hi hj hpq => ?_, fun k q hk => ?_⟩
  · obtain ⟨c, -, rfl⟩ := rz_of hi
    obtain ⟨c', -, rfl⟩ := rz_of hj
    exact Nat.add_left_cancel hpq
  · obtain ⟨c, -, rfl⟩ := rz_of hk
    exact Nat.le_add_right b k
/-! the values of the frame, by their places -/
def LH (b : Nat) (ls : Array Slot) (L : List (Option Value)) : Prop := ls.size = L.length ∧ lv_wf ls ∧ ∀ (i : Nat) (v : Value), L[i]? = some (some v) → ls[i]? = some (.val (rv b v))
def lpr (b : Nat) (L : List (Option Value)) : List (Nat × Value) := (List.range L.length).filterMap (fun i => (L[i]?).join.map (fun v => (i, rv b v)))
theorem lpr_mem {b : Nat} {L : List (Option Value)} {q : Nat × Value} : q ∈ lpr b L ↔ ∃ v, L[q.1]? = some (some v) ∧ q.2 = rv b v := by
  constructor
  · intro hq
    obtain ⟨i, -, hi⟩ := List.mem_filterMap.mp hq
    cases hL : L[i]? with
    | none => rw [hL] at hi; cases hi
    | some x =>
      rw [hL] at hi
      cases x with
      | none => cases hi
      | some v => cases hi; exact ⟨v, hL, rfl⟩
  · rintro ⟨v, h1, h2⟩
    refine List.mem_filterMap.mpr ⟨q.1, List.mem_range.mpr (List.getElem?_eq_some_iff.mp h1).1, ?_⟩
    rw [h1]
    show some (q.1, rv b v) = some q
    rw [← h2]
theorem LH.has {b : Nat} {ls : Array Slot} {L : List (Option Value)} (h : LH b ls L) : lv_has ls L.length (lpr b L) := by
  refine ⟨h.1, h.2.1, fun q hq => ?_⟩
  obtain ⟨v, h1, h2⟩ := lpr_mem.mp hq
  rw [h.2.2 q.1 v h1, h2]
def nl (a : Option Value) : Bool := match a with
  | some v => v.category == 1
  | none => true
theorem LH.set1 {b : Nat} {ls : Array Slot} {L : List (Option Value)} {i : Nat} {v : Value} (hn : nl (L.getD (i - 1) none) = true) (h : lv_has ls L.length ((i, rv b v) :: (lpr b L).filter (fun q => !(q.1 == i) && !(q.1 + 1 == i && q.2.category == 2)))) : LH b ls (L.set i (some v)) := by
  refine ⟨by rw [List.length_set]; exact h.1, h.2.1, fun j w hj => ?_⟩
  by_cases hji : j = i
  · subst hji
    have hl : j < L.length := by have := (List.getElem?_eq_some_iff.mp hj).1; simpa using this
    rw [List.getElem?_set_self hl] at hj
    cases hj
    exact h.2.2 (j, rv b v) List.mem_cons_self
  · rw [List.getElem?_set_ne (Ne.symm hji)] at hj
    refine h.2.2 (j, rv b w) (List.mem_cons_of_mem _ (List.mem_filter.mpr ⟨lpr_mem.mpr ⟨w, hj, rfl⟩, ?_⟩))
    simp only [Bool.and_eq_true, Bool.not_eq_true', beq_eq_false_iff_ne, ne_eq, Bool.and_eq_false_iff]
    refine ⟨hji, ?_⟩
    by_cases h1 : j + 1 = i
    · refine Or.inr ?_
      rw [rv_cat]
      have e : i - 1 = j := by omega
      rw [e] at hn
      have e2 : L.getD j none = some w := by rw [List.getD_eq_getElem?_getD, hj]; rfl
      rw [e2] at hn
      have e3 : w.category = 1 := by simpa [nl] using hn
      rw [e3]; decide
    · exact Or.inl h1
theorem LH.set2 {b : Nat} {ls : Array Slot} {L : List (Option Value)} {i : Nat} {v : Value} (hn : nl (L.getD (i - 1) none) = true) (h : lv_has ls L.length ((i, rv b v) :: (lpr b L).filter (fun q => !(q.1 == i) && (!(q.1 == i + 1) && !(q.1 + 1 == i && q.2.category == 2))))) : LH b ls ((L.set i (some v)).set (i + 1) none) := by
  refine ⟨by rw [List.length_set, List.length_set]; exact h.1, h.2.1, fun j w hj => ?_⟩
  by_cases hj2 : j = i + 1
  · subst hj2
    by_cases hl : i + 1 < (L.set i (some v)).length
    · rw [List.getElem?_set_self hl] at hj
      cases hj
    · rw [List.getElem?_eq_none (by rw [List.length_set]; omega)] at hj
      cases hj
  rw [List.getElem?_set_ne (Ne.symm hj2)] at hj
  by_cases hji : j = i
  · subst hji
    have hl : j < L.length := by have := (List.getElem?_eq_some_iff.mp hj).1; simpa using this
    rw [List.getElem?_set_self hl] at hj
    cases hj
    exact h.2.2 (j, rv b v) List.mem_cons_self
  · rw [List.getElem?_set_ne (Ne.symm hji)] at hj
    refine h.2.2 (j, rv b w) (List.mem_cons_of_mem _ (List.mem_filter.mpr ⟨lpr_mem.mpr ⟨w, hj, rfl⟩, ?_⟩))
    simp only [Bool.and_eq_true, Bool.not_eq_true', beq_eq_false_iff_ne, ne_eq, Bool.and_eq_false_iff]
    refine ⟨hji, hj2, ?_⟩
    by_cases h1 : j + 1 = i
    · refine Or.inr ?_
      rw [rv_cat]
      have e : i - 1 = j := by omega
      rw [e] at hn
      have e2 : L.getD j none = some w := by rw [List.getD_eq_getElem?_getD, hj]; rfl
      rw [e2] at hn
      have e3 : w.category = 1 := by simpa [nl] using hn
      rw [e3]; decide
    · exact Or.inl h1
/-- fewer values are known -/
theorem LH.less {b : Nat} {ls : Array Slot} {L L' : List (Option Value)} (h : LH b ls L) (hn : L'.length = L.length) (hl : ∀ (i : Nat) (v : Value), L'[i]? = some (some v) → L[i]? = some (some v)) : LH b ls L' := ⟨by rw [hn]; exact h.1, h.2.1, fun i v hv => h.2.2 i v (hl i v hv)⟩
def en (vs : List Value) : List (Option Value) := vs.flatMap (fun v => if v.category = 2 then [some v, none] else [some v])
theorem en_len (b : Nat) (vs : List Value) : (lg_sl (vs.map (rv b))).length = (en vs).length := by
  induction vs with
  | nil => rfl
  | cons v vs ih =>
    simp only [lg_sl, en, List.map_cons, List.flatMap_cons, List.length_append, rv_cat] at ih ⊢
    rw [ih]
    by_cases hc : v.category = 2 <;> simp [hc]
theorem en_at (b : Nat) (vs : List Value) : ∀ (i : Nat) (v : Value), (en vs)[i]? = some (some v) → (lg_sl (vs.map (rv b)))[i]? = some (.val (rv b v)) := by
  induction vs with
  | nil => intro i v h; simp [en] at h
  | cons w vs ih =>
    intro i v h
    simp only [lg_sl, en, List.map_cons, List.flatMap_cons, rv_cat] at h ih ⊢
    by_cases hc : w.category = 2
    · rw [if_pos hc] at h ⊢
      match i, h with
      | 0, h => simp at h ⊢; rw [h]
      | 1, h => simp at h
      | i + 2, h => simp at h ⊢; exact ih i v h
    · rw [if_neg hc] at h ⊢
      match i, h with
      | 0, h => simp at h ⊢; rw [h]
      | i + 1, h => simp at h ⊢; exact ih i v h
theorem LH.entry {b : Nat} {vs : List Value} {n : Nat} {L : List (Option Value)} (hn : (en vs).length ≤ n) (hL : en vs ++ List.replicate (n - (en vs).length) none = L) : LH b ((lg_sl (vs.map (rv b)) ++ List.replicate (n - (lg_sl (vs.map (rv b))).length) Slot.unset).toArray) L := by
  have h0 := lv_entry (vs.map (rv b)) (n := n) (by rw [en_len]; exact hn)
  subst hL
  refine ⟨by rw [h0.1]; simp; omega, h0.2.1, fun i v hv => ?_⟩
  by_cases hi : i < (en vs).length
  · rw [List.getElem?_append_left hi] at hv
    have := en_at b vs i v hv
    simp only [List.getElem?_toArray]
    rw [List.getElem?_append_left (by rw [en_len]; exact hi)]
    exact this
  · rw [List.getElem?_append_right (by omega)] at hv
    have := List.eq_of_mem_replicate (List.mem_of_getElem? hv)
    cases this
/-! the context of a walk -/
abbrev CT : Type := Program × Launch × Env × Room × State × MethodId × Array Value × List Frame × Method × Code × (Nat → ClassId) × (Nat → Nat → Nat) × (Nat → ClassId) × Nat
def nsw : Cond := .methodLinkNest RX6 48 yX10_sideOf "CohereBench"
abbrev vwT (dA : Nat → ClassId) : List (ClassId × FieldType) := [(dA 0, .int), (dA 1, .boolean), (dA 2, .long)]
def Kx (dC : Nat → ClassId) (dI : Nat → Nat → Nat) (dA : Nat → ClassId) (U : State) : Prop := va_K (dC, dI) vwCl (vwT dA) U ∧ va_Nw nsw U
def Cx (M : MI) (X : CT) : Prop := match X with
  | (p, _, _, R, s, m, args, _, meth, c, dC, dI, dA, b) => p.tables.exec = Jvm.exec ∧ c.code = mB M ∧ meth.sig.returnType = mR M ∧ c.maxLocals = mL M ∧ s.vm.findClass (mY M).cls = some m.cls ∧ (∀ w ∈ tb, w.before args s = true) ∧ meth.locks = false ∧ meth.name = (mY M).name ∧ R = mRm M ∧ Kx dC dI dA s ∧ b ≤ s.heap.size
/-- the machine at a frame of M: from here it comes to a state with Z -/
def Ew (M : MI) (X : CT) (Z : State → Prop) (pc : Nat) (L : List (Option Value)) (st : List Value) (h : List AC) (cells slots : Nat) : Prop := match X with
  | (p, l, e, R, s, m, args, below, meth, c, dC, dI, dA, b) => ∀ (H : Heap) (locs : List Loc) (ls : Array Slot), LH b ls L → va_P (dC, dI) vwCl (rz b dA h) H → va_S (fun q => b ≤ q) s.heap H locs → b + h.length = s.heap.size + cells → W p l e R s m args below meth c H locs cells slots Z (F0 m pc ls (st.map (rv b)))
/-- a method's contract -/
def PcE (b : Nat) (dC : Nat → ClassId) (dI : Nat → Nat → Nat) (dA : Nat → ClassId) (args : List Value) (h : List AC) : Array Value → State → Prop := va_Pc (args.map (rv b)) (fun U => U.heap.size = b + h.length ∧ va_P (dC, dI) vwCl (rz b dA h) U.heap ∧ Kx dC dI dA U)
def QcE (b : Nat) (dC : Nat → ClassId) (dI : Nat → Nat → Nat) (dA : Nat → ClassId) (Q : Option Value → List AC → Prop) : Array Value → State → Outcome → State → Prop := fun _ st oc t => (∃ (r : Option Value) (h' : List AC), oc = .returned (r.map (rv b)) ∧ Q r h' ∧ va_P (dC, dI) vwCl (rz b dA h') t.heap) ∧ va_F (fun q => b ≤ q) st t
def Em (M : MI) (args : List Value) (h : List AC) (Q : Option Value → List AC → Prop) : Prop := ∀ (l : Launch) (dC : Nat → ClassId) (dI : Nat → Nat → Nat) (dA : Nat → ClassId) (b : Nat), Met l (mY M) (mW M) (mRm M) (PcE b dC dI dA args h) (QcE b dC dI dA (fun r h' => Q r h' ∧ h'.length = h.length + mC M)) (mC M) (mS M) (fun q => b ≤ q)
def Zm (M : MI) (n0 : Nat) (Q : Option Value → List AC → Prop) (X : CT) : State → Prop := match X with
  | (_, _, _, _, s, _, args, below, _, _, dC, dI, dA, b) => MQ below (QcE b dC dI dA (fun r h' => Q r h' ∧ h'.length = n0 + mC M)) args s (mC M) (mS M) (fun q => b ≤ q)
theorem PcE.blind {b : Nat} {dC : Nat → ClassId} {dI : Nat → Nat → Nat} {dA : Nat → ClassId} {args : List Value} {h : List AC} : FrameBlind (PcE b dC dI dA args h) := by
  intro a U g mk q
  obtain ⟨q0, q1, qP, qK, qN⟩ := q
  exact ⟨q0, q1, qP, va_K.moved (u := U) (U := U.calling g mk a) (Vm.Alike.refl U.vm) qK, va_Nw.same rfl (u := U) (U := U.calling g mk a) rfl qN⟩
theorem Kx.warm {dC : Nat → ClassId} {dI : Nat → Nat → Nat} {dA : Nat → ClassId} {s U : State} (h : Kx dC dI dA s) (hW : s.WarmedH U.vm) : Kx dC dI dA U := ⟨va_K.moved hW.alike h.1, va_Nw.warmM hW h.2⟩
/-- the heap's size, by the room on one side and the cells on the other -/
theorem sz_of {p : Program} {l : Launch} {e : Env} {R : Room} {s : State} {m : MethodId} {args : Array Value} {below : List Frame} {meth : Method} {c : Code} {T : State} {locs : List Loc} {cells slots : Nat} {D : va_G} {b : Nat} {dA : Nat → ClassId} {h : List AC} {H : Heap} (X : Stand p l e R s m args below meth c T locs cells slots) (hT : T.heap = H) (hP : va_P D vwCl (rz b dA h) H) (hb : b ≤ s.heap.size) (hz : b + h.length = s.heap.size + cells) : H.size = b + h.length := by
  have h1 := X.same.2.1
  have h2 := X.same.2.2.1
  have e1 : (T.setVm s.vm).heap = H := hT
  rw [e1] at h1 h2
  have h3 : b + h.length ≤ H.size := by
    cases hl : h.length with
    | zero => omega
    | succ n =>
      have hk : h[n]? = some (h[n]'(by omega)) := List.getElem?_eq_getElem (by omega)
      have := (hP n _ (rz_at hk)).lt
      have h4 : b + n < H.size := this
      omega
  omega
theorem Em.of {M : MI} {n : Nat} {args : List Value} {h : List AC} {Q : Option Value → List AC → Prop} (ho : MkOk M n) {L : List (Option Value)} (hn : (en args).length ≤ mL M) (hL : en args ++ List.replicate (mL M - (en args).length) none = L) (k : ∀ X : CT, Cx M X → Ew M X (Zm M h.length Q X) 0 L [] h 0 0) : Em M args h Q := by
  intro l dC dI dA b
  refine Met.ofW (cc := mB M) (maxL := mL M) (ret := mR M) ho.2.1 rfl ?_
  intro p e s m a below meth c s₁ B hml hv
  obtain ⟨rfl, hsz, hP, hK⟩ := hv
  have hts := atoms_spec (ws := mW M) B.pre
  have hown : s.vm.findClass (mY M).cls = some m.cls := findClass_of_methodNamed B.named
  have hin : meth.name = (mY M).name := (name_of_methodNamed B.named B.method).1
  rw [lg_entry_eq]
  exact k (p, l, e, (headSpec (mW M) (mRm M)).room, s, m, (args.map (rv b)).toArray, below, meth, c, dC, dI, dA, b) ⟨B.exec, B.bytes, B.returns, hml, hown, fun w hw => hts w (List.mem_cons_of_mem _ hw), B.notSynchronized, hin, rfl, hK, by omega⟩ s.heap [] _ (LH.entry hn hL) hP va_S.rf (by omega)
theorem Em.imp {M : MI} {args : List Value} {h : List AC} {Q Q' : Option Value → List AC → Prop} (hE : Em M args h Q) (hq : ∀ r h', Q r h' → Q' r h') : Em M args h Q' := by
  intro l dC dI dA b p e ha hc hk s m a below hf hap hPc hK
  obtain ⟨k, o, h1, h2, h3, ⟨⟨r, h', q1, q2, q3⟩, q4⟩, q5⟩ := hE l dC dI dA b p e ha hc hk s m a below hf hap hPc hK
  exact ⟨k, o, h1, h2, h3, ⟨⟨r, h', q1, ⟨hq r h' q2.1, q2.2⟩, q3⟩, q4⟩, q5⟩
section EL
variable {M : MI} {X : CT} {Z : State → Prop} {pc : Nat} {L : List (Option Value)} {st : List Value} {h : List AC} {cells slots : Nat}
theorem e_iconst {n : Int} {v : Int32} (hX : Cx M X) (d : decode (mB M) pc = .ok (.iconst n, 1)) (hv : Int32.ofInt n = v) (k : Ew M X Z (pc + 1) L (.int v :: st) h cells slots) : Ew M X Z pc L (st) h cells slots := by
  obtain ⟨p, l, e, R, s, m, args, below, meth, c, dC, dI, dA, b⟩ := X
  obtain ⟨hx, hb, hr, hml, hown, hts, hlk, hnm, hR, hK, hbs⟩ := hX
  intro H locs ls hl hP hS hz
  exact lv_iconst hx hb d hv (k H locs ls hl hP hS hz)
theorem e_bipush {n : Int} {v : Int32} (hX : Cx M X) (d : decode (mB M) pc = .ok (.bipush n, 2)) (hv : (Int8.ofInt n).toInt32 = v) (k : Ew M X Z (pc + 2) L (.int v :: st) h cells slots) : Ew M X Z pc L (st) h cells slots := by
  obtain ⟨p, l, e, R, s, m, args, below, meth, c, dC, dI, dA, b⟩ := X
  obtain ⟨hx, hb, hr, hml, hown, hts, hlk, hnm, hR, hK, hbs⟩ := hX
  intro H locs ls hl hP hS hz
  exact lv_bipush hx hb d hv (k H locs ls hl hP hS hz)
theorem e_sipush {n : Int} {v : Int32} (hX : Cx M X) (d : decode (mB M) pc = .ok (.sipush n, 3)) (hv : (Int16.ofInt n).toInt32 = v) (k : Ew M X Z (pc + 3) L (.int v :: st) h cells slots) : Ew M X Z pc L (st) h cells slots := by
  obtain ⟨p, l, e, R, s, m, args, below, meth, c, dC, dI, dA, b⟩ := X
  obtain ⟨hx, hb, hr, hml, hown, hts, hlk, hnm, hR, hK, hbs⟩ := hX
  intro H locs ls hl hP hS hz
  exact lv_sipush hx hb d hv (k H locs ls hl hP hS hz)
theorem e_lconst {n : Fin 2} {v : Int64} (hX : Cx M X) (d : decode (mB M) pc = .ok (.lconst n, 1)) (hv : Int64.ofNat (n : Nat) = v) (k : Ew M X Z (pc + 1) L (.long v :: st) h cells slots) : Ew M X Z pc L (st) h cells slots := by
  obtain ⟨p, l, e, R, s, m, args, below, meth, c, dC, dI, dA, b⟩ := X
  obtain ⟨hx, hb, hr, hml, hown, hts, hlk, hnm, hR, hK, hbs⟩ := hX
  intro H locs ls hl hP hS hz
  exact lv_lconst hx hb d hv (k H locs ls hl hP hS hz)
theorem e_ldc {idx : Nat} {v : Int32} (hX : Cx M X) (d : decode (mB M) pc = .ok (.ldc idx, 2)) (hc : Cond.constant (mY M).cls idx v ∈ tb) (k : Ew M X Z (pc + 2) L (.int v :: st) h cells slots) : Ew M X Z pc L (st) h cells slots := by
  obtain ⟨p, l, e, R, s, m, args, below, meth, c, dC, dI, dA, b⟩ := X
  obtain ⟨hx, hb, hr, hml, hown, hts, hlk, hnm, hR, hK, hbs⟩ := hX
  intro H locs ls hl hP hS hz
  exact lv_ldc hx hb hown (hts _ hc) d (k H locs ls hl hP hS hz)
theorem e_ldc2 {idx : Nat} {v : Int64} (hX : Cx M X) (d : decode (mB M) pc = .ok (.ldc2_w idx, 3)) (hc : Cond.constantLong (mY M).cls idx v ∈ tb) (k : Ew M X Z (pc + 3) L (.long v :: st) h cells slots) : Ew M X Z pc L (st) h cells slots := by
  obtain ⟨p, l, e, R, s, m, args, below, meth, c, dC, dI, dA, b⟩ := X
  obtain ⟨hx, hb, hr, hml, hown, hts, hlk, hnm, hR, hK, hbs⟩ := hX
  intro H locs ls hl hP hS hz
  exact lv_ldc2 hx hb hown (hts _ hc) d (k H locs ls hl hP hS hz)
theorem e_iload_n {k0 : Fin 4} {x : Int32} (hX : Cx M X) (d : decode (mB M) pc = .ok (.iload_n k0, 1)) (hv : L[(k0 : Nat)]? = some (some (.int x))) (k : Ew M X Z (pc + 1) L (.int x :: st) h cells slots) : Ew M X Z pc L (st) h cells slots := by
  obtain ⟨p, l, e, R, s, m, args, below, meth, c, dC, dI, dA, b⟩ := X
  obtain ⟨hx, hb, hr, hml, hown, hts, hlk, hnm, hR, hK, hbs⟩ := hX
  intro H locs ls hl hP hS hz
  exact lv_iload_n hx hb d rfl (hl.2.2 _ _ hv) (k H locs ls hl hP hS hz)
theorem e_iload {i : Nat} {x : Int32} (hX : Cx M X) (d : decode (mB M) pc = .ok (.iload i, 2)) (hv : L[i]? = some (some (.int x))) (k : Ew M X Z (pc + 2) L (.int x :: st) h cells slots) : Ew M X Z pc L (st) h cells slots := by
  obtain ⟨p, l, e, R, s, m, args, below, meth, c, dC, dI, dA, b⟩ := X
  obtain ⟨hx, hb, hr, hml, hown, hts, hlk, hnm, hR, hK, hbs⟩ := hX
  intro H locs ls hl hP hS hz
  exact lv_iload hx hb d (hl.2.2 _ _ hv) (k H locs ls hl hP hS hz)
theorem e_lload_n {k0 : Fin 4} {x : Int64} (hX : Cx M X) (d : decode (mB M) pc = .ok (.lload_n k0, 1)) (hv : L[(k0 : Nat)]? = some (some (.long x))) (k : Ew M X Z (pc + 1) L (.long x :: st) h cells slots) : Ew M X Z pc L (st) h cells slots := by
  obtain ⟨p, l, e, R, s, m, args, below, meth, c, dC, dI, dA, b⟩ := X
  obtain ⟨hx, hb, hr, hml, hown, hts, hlk, hnm, hR, hK, hbs⟩ := hX
  intro H locs ls hl hP hS hz
  exact lv_lload_n hx hb d rfl (hl.2.2 _ _ hv) (k H locs ls hl hP hS hz)
theorem e_lload {i : Nat} {x : Int64} (hX : Cx M X) (d : decode (mB M) pc = .ok (.lload i, 2)) (hv : L[i]? = some (some (.long x))) (k : Ew M X Z (pc + 2) L (.long x :: st) h cells slots) : Ew M X Z pc L (st) h cells slots := by
  obtain ⟨p, l, e, R, s, m, args, below, meth, c, dC, dI, dA, b⟩ := X
  obtain ⟨hx, hb, hr, hml, hown, hts, hlk, hnm, hR, hK, hbs⟩ := hX
  intro H locs ls hl hP hS hz
  exact lv_lload hx hb d (hl.2.2 _ _ hv) (k H locs ls hl hP hS hz)
theorem e_aload_n {k0 : Fin 4} {x : Nat} (hX : Cx M X) (d : decode (mB M) pc = .ok (.aload_n k0, 1)) (hv : L[(k0 : Nat)]? = some (some (.ref x))) (k : Ew M X Z (pc + 1) L (.ref x :: st) h cells slots) : Ew M X Z pc L (st) h cells slots := by
  obtain ⟨p, l, e, R, s, m, args, below, meth, c, dC, dI, dA, b⟩ := X
  obtain ⟨hx, hb, hr, hml, hown, hts, hlk, hnm, hR, hK, hbs⟩ := hX
  intro H locs ls hl hP hS hz
  exact lv_aload_n hx hb d rfl (hl.2.2 _ _ hv) (k H locs ls hl hP hS hz)
theorem e_istore_n {k0 : Fin 4} {x : Int32} {L2 : List (Option Value)} (hX : Cx M X) (d : decode (mB M) pc = .ok (.istore_n k0, 1)) (hi : (k0 : Nat) < L.length) (hn : nl (L.getD ((k0 : Nat) - 1) none) = true) (hL : L.set (k0 : Nat) (some (.int x)) = L2) (k : Ew M X Z (pc + 1) L2 (st) h cells slots) : Ew M X Z pc L (.int x :: st) h cells slots := by
  obtain ⟨p, l, e, R, s, m, args, below, meth, c, dC, dI, dA, b⟩ := X
  obtain ⟨hx, hb, hr, hml, hown, hts, hlk, hnm, hR, hK, hbs⟩ := hX
  intro H locs ls hl hP hS hz
  subst hL
  exact lv_istore_n hx hb d rfl hl.has hi rfl (fun ls2 hl2 => k H locs ls2 (LH.set1 hn hl2) hP hS hz)
theorem e_istore {i : Nat} {x : Int32} {L2 : List (Option Value)} (hX : Cx M X) (d : decode (mB M) pc = .ok (.istore i, 2)) (hi : i < L.length) (hn : nl (L.getD (i - 1) none) = true) (hL : L.set i (some (.int x)) = L2) (k : Ew M X Z (pc + 2) L2 (st) h cells slots) : Ew M X Z pc L (.int x :: st) h cells slots := by
  obtain ⟨p, l, e, R, s, m, args, below, meth, c, dC, dI, dA, b⟩ := X
  obtain ⟨hx, hb, hr, hml, hown, hts, hlk, hnm, hR, hK, hbs⟩ := hX
  intro H locs ls hl hP hS hz
  subst hL
  exact lv_istore hx hb d hl.has hi rfl (fun ls2 hl2 => k H locs ls2 (LH.set1 hn hl2) hP hS hz)
theorem e_astore_n {k0 : Fin 4} {x : Nat} {L2 : List (Option Value)} (hX : Cx M X) (d : decode (mB M) pc = .ok (.astore_n k0, 1)) (hi : (k0 : Nat) < L.length) (hn : nl (L.getD ((k0 : Nat) - 1) none) = true) (hL : L.set (k0 : Nat) (some (.ref x)) = L2) (k : Ew M X Z (pc + 1) L2 (st) h cells slots) : Ew M X Z pc L (.ref x :: st) h cells slots := by
  obtain ⟨p, l, e, R, s, m, args, below, meth, c, dC, dI, dA, b⟩ := X
  obtain ⟨hx, hb, hr, hml, hown, hts, hlk, hnm, hR, hK, hbs⟩ := hX
  intro H locs ls hl hP hS hz
  subst hL
  exact lv_astore_n hx hb d rfl hl.has hi rfl (fun ls2 hl2 => k H locs ls2 (LH.set1 hn hl2) hP hS hz)
theorem e_lstore_n {k0 : Fin 4} {x : Int64} {L2 : List (Option Value)} (hX : Cx M X) (d : decode (mB M) pc = .ok (.lstore_n k0, 1)) (hi : (k0 : Nat) + 1 < L.length) (hn : nl (L.getD ((k0 : Nat) - 1) none) = true) (hL : (L.set (k0 : Nat) (some (.long x))).set ((k0 : Nat) + 1) none = L2) (k : Ew M X Z (pc + 1) L2 (st) h cells slots) : Ew M X Z pc L (.long x :: st) h cells slots := by
  obtain ⟨p, l, e, R, s, m, args, below, meth, c, dC, dI, dA, b⟩ := X
  obtain ⟨hx, hb, hr, hml, hown, hts, hlk, hnm, hR, hK, hbs⟩ := hX
  intro H locs ls hl hP hS hz
  subst hL
  exact lv_lstore_n hx hb d rfl hl.has hi rfl (fun ls2 hl2 => k H locs ls2 (LH.set2 hn hl2) hP hS hz)
theorem e_lstore {i : Nat} {x : Int64} {L2 : List (Option Value)} (hX : Cx M X) (d : decode (mB M) pc = .ok (.lstore i, 2)) (hi : i + 1 < L.length) (hn : nl (L.getD (i - 1) none) = true) (hL : (L.set i (some (.long x))).set (i + 1) none = L2) (k : Ew M X Z (pc + 2) L2 (st) h cells slots) : Ew M X Z pc L (.long x :: st) h cells slots := by
  obtain ⟨p, l, e, R, s, m, args, below, meth, c, dC, dI, dA, b⟩ := X
  obtain ⟨hx, hb, hr, hml, hown, hts, hlk, hnm, hR, hK, hbs⟩ := hX
  intro H locs ls hl hP hS hz
  subst hL
  exact lv_lstore hx hb d hl.has hi rfl (fun ls2 hl2 => k H locs ls2 (LH.set2 hn hl2) hP hS hz)
theorem e_iinc {i : Nat} {n : Int} {x v : Int32} {L2 : List (Option Value)} (hX : Cx M X) (d : decode (mB M) pc = .ok (.iinc i n, 3)) (hv : L[i]? = some (some (.int x))) (hv2 : x + Int32.ofInt n = v) (hn : nl (L.getD (i - 1) none) = true) (hL : L.set i (some (.int v)) = L2) (k : Ew M X Z (pc + 3) L2 st h cells slots) : Ew M X Z pc L st h cells slots := by
  obtain ⟨p, l, e, R, s, m, args, below, meth, c, dC, dI, dA, b⟩ := X
  obtain ⟨hx, hb, hr, hml, hown, hts, hlk, hnm, hR, hK, hbs⟩ := hX
  intro H locs ls hl hP hS hz
  subst hL
  have hi : i < L.length := (List.getElem?_eq_some_iff.mp hv).1
  obtain ⟨j, hj⟩ := List.getElem?_of_mem (lpr_mem.mpr ⟨.int x, hv, rfl⟩ : (i, rv b (.int x)) ∈ lpr b L)
  exact lv_iinc hx hb d hl.has hj hv2 hi rfl (fun ls2 hl2 => k H locs ls2 (LH.set1 (v := .int v) hn hl2) hP hS hz)
theorem e_iadd {x y : Int32} (hX : Cx M X) (d : decode (mB M) pc = .ok (.iadd, 1)) (k : Ew M X Z (pc + 1) L (.int (x + y) :: st) h cells slots) : Ew M X Z pc L (.int y :: .int x :: st) h cells slots := by
  obtain ⟨p, l, e, R, s, m, args, below, meth, c, dC, dI, dA, b⟩ := X
  obtain ⟨hx, hb, hr, hml, hown, hts, hlk, hnm, hR, hK, hbs⟩ := hX
  intro H locs ls hl hP hS hz
  exact lv_iadd hx hb d (k H locs ls hl hP hS hz)
theorem e_isub {x y : Int32} (hX : Cx M X) (d : decode (mB M) pc = .ok (.isub, 1)) (k : Ew M X Z (pc + 1) L (.int (x - y) :: st) h cells slots) : Ew M X Z pc L (.int y :: .int x :: st) h cells slots := by
  obtain ⟨p, l, e, R, s, m, args, below, meth, c, dC, dI, dA, b⟩ := X
  obtain ⟨hx, hb, hr, hml, hown, hts, hlk, hnm, hR, hK, hbs⟩ := hX
  intro H locs ls hl hP hS hz
  exact lv_isub hx hb d (k H locs ls hl hP hS hz)
theorem e_imul {x y : Int32} (hX : Cx M X) (d : decode (mB M) pc = .ok (.imul, 1)) (k : Ew M X Z (pc + 1) L (.int (x * y) :: st) h cells slots) : Ew M X Z pc L (.int y :: .int x :: st) h cells slots := by
  obtain ⟨p, l, e, R, s, m, args, below, meth, c, dC, dI, dA, b⟩ := X
  obtain ⟨hx, hb, hr, hml, hown, hts, hlk, hnm, hR, hK, hbs⟩ := hX
  intro H locs ls hl hP hS hz
  exact lv_imul hx hb d (k H locs ls hl hP hS hz)
theorem e_iand {x y : Int32} (hX : Cx M X) (d : decode (mB M) pc = .ok (.iand, 1)) (k : Ew M X Z (pc + 1) L (.int (x &&& y) :: st) h cells slots) : Ew M X Z pc L (.int y :: .int x :: st) h cells slots := by
  obtain ⟨p, l, e, R, s, m, args, below, meth, c, dC, dI, dA, b⟩ := X
  obtain ⟨hx, hb, hr, hml, hown, hts, hlk, hnm, hR, hK, hbs⟩ := hX
  intro H locs ls hl hP hS hz
  exact lv_iand hx hb d (k H locs ls hl hP hS hz)
theorem e_ior {x y : Int32} (hX : Cx M X) (d : decode (mB M) pc = .ok (.ior, 1)) (k : Ew M X Z (pc + 1) L (.int (x ||| y) :: st) h cells slots) : Ew M X Z pc L (.int y :: .int x :: st) h cells slots := by
  obtain ⟨p, l, e, R, s, m, args, below, meth, c, dC, dI, dA, b⟩ := X
  obtain ⟨hx, hb, hr, hml, hown, hts, hlk, hnm, hR, hK, hbs⟩ := hX
  intro H locs ls hl hP hS hz
  exact lv_ior hx hb d (k H locs ls hl hP hS hz)
theorem e_ixor {x y : Int32} (hX : Cx M X) (d : decode (mB M) pc = .ok (.ixor, 1)) (k : Ew M X Z (pc + 1) L (.int (x ^^^ y) :: st) h cells slots) : Ew M X Z pc L (.int y :: .int x :: st) h cells slots := by
  obtain ⟨p, l, e, R, s, m, args, below, meth, c, dC, dI, dA, b⟩ := X
  obtain ⟨hx, hb, hr, hml, hown, hts, hlk, hnm, hR, hK, hbs⟩ := hX
  intro H locs ls hl hP hS hz
  exact lv_ixor hx hb d (k H locs ls hl hP hS hz)
theorem e_ishl {x y : Int32} (hX : Cx M X) (d : decode (mB M) pc = .ok (.ishl, 1)) (k : Ew M X Z (pc + 1) L (.int (x <<< (y &&& 31)) :: st) h cells slots) : Ew M X Z pc L (.int y :: .int x :: st) h cells slots := by
  obtain ⟨p, l, e, R, s, m, args, below, meth, c, dC, dI, dA, b⟩ := X
  obtain ⟨hx, hb, hr, hml, hown, hts, hlk, hnm, hR, hK, hbs⟩ := hX
  intro H locs ls hl hP hS hz
  exact lv_ishl hx hb d (k H locs ls hl hP hS hz)
theorem e_ishr {x y : Int32} (hX : Cx M X) (d : decode (mB M) pc = .ok (.ishr, 1)) (k : Ew M X Z (pc + 1) L (.int (x >>> (y &&& 31)) :: st) h cells slots) : Ew M X Z pc L (.int y :: .int x :: st) h cells slots := by
  obtain ⟨p, l, e, R, s, m, args, below, meth, c, dC, dI, dA, b⟩ := X
  obtain ⟨hx, hb, hr, hml, hown, hts, hlk, hnm, hR, hK, hbs⟩ := hX
  intro H locs ls hl hP hS hz
  exact lv_ishr hx hb d (k H locs ls hl hP hS hz)
theorem e_iushr {x y : Int32} (hX : Cx M X) (d : decode (mB M) pc = .ok (.iushr, 1)) (k : Ew M X Z (pc + 1) L (.int ((x.toUInt32 >>> (y.toUInt32 &&& Int32.toUInt32 31)).toInt32) :: st) h cells slots) : Ew M X Z pc L (.int y :: .int x :: st) h cells slots := by
  obtain ⟨p, l, e, R, s, m, args, below, meth, c, dC, dI, dA, b⟩ := X
  obtain ⟨hx, hb, hr, hml, hown, hts, hlk, hnm, hR, hK, hbs⟩ := hX
  intro H locs ls hl hP hS hz
  exact lv_iushr hx hb d rfl (k H locs ls hl hP hS hz)
theorem e_idiv {x y : Int32} (hX : Cx M X) (d : decode (mB M) pc = .ok (.idiv, 1)) (hne : ¬ y = 0) (k : Ew M X Z (pc + 1) L (.int (x / y) :: st) h cells slots) : Ew M X Z pc L (.int y :: .int x :: st) h cells slots := by
  obtain ⟨p, l, e, R, s, m, args, below, meth, c, dC, dI, dA, b⟩ := X
  obtain ⟨hx, hb, hr, hml, hown, hts, hlk, hnm, hR, hK, hbs⟩ := hX
  intro H locs ls hl hP hS hz
  exact lv_idiv hx hb d hne (k H locs ls hl hP hS hz)
theorem e_irem {x y : Int32} (hX : Cx M X) (d : decode (mB M) pc = .ok (.irem, 1)) (hne : ¬ y = 0) (k : Ew M X Z (pc + 1) L (.int (x - x / y * y) :: st) h cells slots) : Ew M X Z pc L (.int y :: .int x :: st) h cells slots := by
  obtain ⟨p, l, e, R, s, m, args, below, meth, c, dC, dI, dA, b⟩ := X
  obtain ⟨hx, hb, hr, hml, hown, hts, hlk, hnm, hR, hK, hbs⟩ := hX
  intro H locs ls hl hP hS hz
  exact lv_irem hx hb d hne (k H locs ls hl hP hS hz)
theorem e_ineg {x : Int32} (hX : Cx M X) (d : decode (mB M) pc = .ok (.ineg, 1)) (k : Ew M X Z (pc + 1) L (.int (-x) :: st) h cells slots) : Ew M X Z pc L (.int x :: st) h cells slots := by
  obtain ⟨p, l, e, R, s, m, args, below, meth, c, dC, dI, dA, b⟩ := X
  obtain ⟨hx, hb, hr, hml, hown, hts, hlk, hnm, hR, hK, hbs⟩ := hX
  intro H locs ls hl hP hS hz
  exact lv_ineg hx hb d (k H locs ls hl hP hS hz)
theorem e_ladd {x y : Int64} (hX : Cx M X) (d : decode (mB M) pc = .ok (.ladd, 1)) (k : Ew M X Z (pc + 1) L (.long (x + y) :: st) h cells slots) : Ew M X Z pc L (.long y :: .long x :: st) h cells slots := by
  obtain ⟨p, l, e, R, s, m, args, below, meth, c, dC, dI, dA, b⟩ := X
  obtain ⟨hx, hb, hr, hml, hown, hts, hlk, hnm, hR, hK, hbs⟩ := hX
  intro H locs ls hl hP hS hz
  exact lv_ladd hx hb d (k H locs ls hl hP hS hz)
theorem e_lmul {x y : Int64} (hX : Cx M X) (d : decode (mB M) pc = .ok (.lmul, 1)) (k : Ew M X Z (pc + 1) L (.long (x * y) :: st) h cells slots) : Ew M X Z pc L (.long y :: .long x :: st) h cells slots := by
  obtain ⟨p, l, e, R, s, m, args, below, meth, c, dC, dI, dA, b⟩ := X
  obtain ⟨hx, hb, hr, hml, hown, hts, hlk, hnm, hR, hK, hbs⟩ := hX
  intro H locs ls hl hP hS hz
  exact lv_lmul hx hb d (k H locs ls hl hP hS hz)
theorem e_land {x y : Int64} (hX : Cx M X) (d : decode (mB M) pc = .ok (.land, 1)) (k : Ew M X Z (pc + 1) L (.long (x &&& y) :: st) h cells slots) : Ew M X Z pc L (.long y :: .long x :: st) h cells slots := by
  obtain ⟨p, l, e, R, s, m, args, below, meth, c, dC, dI, dA, b⟩ := X
  obtain ⟨hx, hb, hr, hml, hown, hts, hlk, hnm, hR, hK, hbs⟩ := hX
  intro H locs ls hl hP hS hz
  exact lv_land hx hb d (k H locs ls hl hP hS hz)
theorem e_lor {x y : Int64} (hX : Cx M X) (d : decode (mB M) pc = .ok (.lor, 1)) (k : Ew M X Z (pc + 1) L (.long (x ||| y) :: st) h cells slots) : Ew M X Z pc L (.long y :: .long x :: st) h cells slots := by
  obtain ⟨p, l, e, R, s, m, args, below, meth, c, dC, dI, dA, b⟩ := X
  obtain ⟨hx, hb, hr, hml, hown, hts, hlk, hnm, hR, hK, hbs⟩ := hX
  intro H locs ls hl hP hS hz
  exact lv_lor hx hb d (k H locs ls hl hP hS hz)
theorem e_lxor {x y : Int64} (hX : Cx M X) (d : decode (mB M) pc = .ok (.lxor, 1)) (k : Ew M X Z (pc + 1) L (.long (x ^^^ y) :: st) h cells slots) : Ew M X Z pc L (.long y :: .long x :: st) h cells slots := by
  obtain ⟨p, l, e, R, s, m, args, below, meth, c, dC, dI, dA, b⟩ := X
  obtain ⟨hx, hb, hr, hml, hown, hts, hlk, hnm, hR, hK, hbs⟩ := hX
  intro H locs ls hl hP hS hz
  exact lv_lxor hx hb d (k H locs ls hl hP hS hz)
theorem e_lushr {x : Int64} {y : Int32} (hX : Cx M X) (d : decode (mB M) pc = .ok (.lushr, 1)) (k : Ew M X Z (pc + 1) L (.long ((x.toUInt64 >>> (y.toInt64.toUInt64 &&& Int64.toUInt64 63)).toInt64) :: st) h cells slots) : Ew M X Z pc L (.int y :: .long x :: st) h cells slots := by
  obtain ⟨p, l, e, R, s, m, args, below, meth, c, dC, dI, dA, b⟩ := X
  obtain ⟨hx, hb, hr, hml, hown, hts, hlk, hnm, hR, hK, hbs⟩ := hX
  intro H locs ls hl hP hS hz
  exact lv_lushr hx hb d rfl (k H locs ls hl hP hS hz)
theorem e_lshl {x : Int64} {y : Int32} (hX : Cx M X) (d : decode (mB M) pc = .ok (.lshl, 1)) (k : Ew M X Z (pc + 1) L (.long (x <<< (y.toInt64 &&& 63)) :: st) h cells slots) : Ew M X Z pc L (.int y :: .long x :: st) h cells slots := by
  obtain ⟨p, l, e, R, s, m, args, below, meth, c, dC, dI, dA, b⟩ := X
  obtain ⟨hx, hb, hr, hml, hown, hts, hlk, hnm, hR, hK, hbs⟩ := hX
  intro H locs ls hl hP hS hz
  exact lv_lshl hx hb d rfl (k H locs ls hl hP hS hz)
theorem e_i2l {x : Int32} (hX : Cx M X) (d : decode (mB M) pc = .ok (.i2l, 1)) (k : Ew M X Z (pc + 1) L (.long x.toInt64 :: st) h cells slots) : Ew M X Z pc L (.int x :: st) h cells slots := by
  obtain ⟨p, l, e, R, s, m, args, below, meth, c, dC, dI, dA, b⟩ := X
  obtain ⟨hx, hb, hr, hml, hown, hts, hlk, hnm, hR, hK, hbs⟩ := hX
  intro H locs ls hl hP hS hz
  exact lv_i2l hx hb d rfl (k H locs ls hl hP hS hz)
theorem e_l2i {x : Int64} (hX : Cx M X) (d : decode (mB M) pc = .ok (.l2i, 1)) (k : Ew M X Z (pc + 1) L (.int x.toInt32 :: st) h cells slots) : Ew M X Z pc L (.long x :: st) h cells slots := by
  obtain ⟨p, l, e, R, s, m, args, below, meth, c, dC, dI, dA, b⟩ := X
  obtain ⟨hx, hb, hr, hml, hown, hts, hlk, hnm, hR, hK, hbs⟩ := hX
  intro H locs ls hl hP hS hz
  exact lv_l2i hx hb d rfl (k H locs ls hl hP hS hz)
theorem e_lcmp {x y : Int64} (hX : Cx M X) (d : decode (mB M) pc = .ok (.lcmp, 1)) (k : Ew M X Z (pc + 1) L (.int (lg_cmp x y) :: st) h cells slots) : Ew M X Z pc L (.long y :: .long x :: st) h cells slots := by
  obtain ⟨p, l, e, R, s, m, args, below, meth, c, dC, dI, dA, b⟩ := X
  obtain ⟨hx, hb, hr, hml, hown, hts, hlk, hnm, hR, hK, hbs⟩ := hX
  intro H locs ls hl hP hS hz
  exact W.lcmp hx hb d (k H locs ls hl hP hS hz)
theorem e_dup {v : Value} (hX : Cx M X) (d : decode (mB M) pc = .ok (.dup, 1)) (hv : v.category = 1) (k : Ew M X Z (pc + 1) L (v :: v :: st) h cells slots) : Ew M X Z pc L (v :: st) h cells slots := by
  obtain ⟨p, l, e, R, s, m, args, below, meth, c, dC, dI, dA, b⟩ := X
  obtain ⟨hx, hb, hr, hml, hown, hts, hlk, hnm, hR, hK, hbs⟩ := hX
  intro H locs ls hl hP hS hz
  exact lv_dup hx hb d ((rv_cat b v).trans hv) (k H locs ls hl hP hS hz)
theorem e_pop {v : Value} (hX : Cx M X) (d : decode (mB M) pc = .ok (.pop, 1)) (hv : v.category = 1) (k : Ew M X Z (pc + 1) L (st) h cells slots) : Ew M X Z pc L (v :: st) h cells slots := by
  obtain ⟨p, l, e, R, s, m, args, below, meth, c, dC, dI, dA, b⟩ := X
  obtain ⟨hx, hb, hr, hml, hown, hts, hlk, hnm, hR, hK, hbs⟩ := hX
  intro H locs ls hl hP hS hz
  exact lv_pop hx hb d ((rv_cat b v).trans hv) (k H locs ls hl hP hS hz)
theorem e_dup2 {v w : Value} (hX : Cx M X) (d : decode (mB M) pc = .ok (.dup2, 1)) (hv : v.category = 1) (hw : w.category = 1) (k : Ew M X Z (pc + 1) L (v :: w :: v :: w :: st) h cells slots) : Ew M X Z pc L (v :: w :: st) h cells slots := by
  obtain ⟨p, l, e, R, s, m, args, below, meth, c, dC, dI, dA, b⟩ := X
  obtain ⟨hx, hb, hr, hml, hown, hts, hlk, hnm, hR, hK, hbs⟩ := hX
  intro H locs ls hl hP hS hz
  exact lv_dup2_11 hx hb d ((rv_cat b v).trans hv) ((rv_cat b w).trans hw) (k H locs ls hl hP hS hz)
theorem e_if_eq {x : Int32} {off : Int} {tgt : Nat} (hX : Cx M X) (d : decode (mB M) pc = .ok (.ifCond .eq off, 3)) (ht : (pc : Int) + off = (tgt : Int)) (kt : x = 0 → Ew M X Z tgt L st h cells slots) (kf : ¬ (x = 0) → Ew M X Z (pc + 3) L st h cells slots) : Ew M X Z pc L (.int x :: st) h cells slots := by
  obtain ⟨p, l, e, R, s, m, args, below, meth, c, dC, dI, dA, b⟩ := X
  obtain ⟨hx, hb, hr, hml, hown, hts, hlk, hnm, hR, hK, hbs⟩ := hX
  intro H locs ls hl hP hS hz
  exact lv_if_eq hx hb d ht (fun q => kt (by first | exact q | simpa using q) H locs ls hl hP hS hz) (fun q => kf (by first | exact q | simpa using q) H locs ls hl hP hS hz)
theorem e_icmp_eq {x y : Int32} {off : Int} {tgt : Nat} (hX : Cx M X) (d : decode (mB M) pc = .ok (.if_icmp .eq off, 3)) (ht : (pc : Int) + off = (tgt : Int)) (kt : x = y → Ew M X Z tgt L st h cells slots) (kf : ¬ (x = y) → Ew M X Z (pc + 3) L st h cells slots) : Ew M X Z pc L (.int y :: .int x :: st) h cells slots := by
  obtain ⟨p, l, e, R, s, m, args, below, meth, c, dC, dI, dA, b⟩ := X
  obtain ⟨hx, hb, hr, hml, hown, hts, hlk, hnm, hR, hK, hbs⟩ := hX
  intro H locs ls hl hP hS hz
  exact lv_icmp_eq hx hb d ht (fun q => kt (by first | exact q | simpa using q) H locs ls hl hP hS hz) (fun q => kf (by first | exact q | simpa using q) H locs ls hl hP hS hz)
theorem e_if_ne {x : Int32} {off : Int} {tgt : Nat} (hX : Cx M X) (d : decode (mB M) pc = .ok (.ifCond .ne off, 3)) (ht : (pc : Int) + off = (tgt : Int)) (kt : ¬ x = 0 → Ew M X Z tgt L st h cells slots) (kf : ¬ (¬ x = 0) → Ew M X Z (pc + 3) L st h cells slots) : Ew M X Z pc L (.int x :: st) h cells slots := by
  obtain ⟨p, l, e, R, s, m, args, below, meth, c, dC, dI, dA, b⟩ := X
  obtain ⟨hx, hb, hr, hml, hown, hts, hlk, hnm, hR, hK, hbs⟩ := hX
  intro H locs ls hl hP hS hz
  exact lv_if_ne hx hb d ht (fun q => kt (by first | exact q | simpa using q) H locs ls hl hP hS hz) (fun q => kf (by first | exact q | simpa using q) H locs ls hl hP hS hz)
theorem e_icmp_ne {x y : Int32} {off : Int} {tgt : Nat} (hX : Cx M X) (d : decode (mB M) pc = .ok (.if_icmp .ne off, 3)) (ht : (pc : Int) + off = (tgt : Int)) (kt : ¬ x = y → Ew M X Z tgt L st h cells slots) (kf : ¬ (¬ x = y) → Ew M X Z (pc + 3) L st h cells slots) : Ew M X Z pc L (.int y :: .int x :: st) h cells slots := by
  obtain ⟨p, l, e, R, s, m, args, below, meth, c, dC, dI, dA, b⟩ := X
  obtain ⟨hx, hb, hr, hml, hown, hts, hlk, hnm, hR, hK, hbs⟩ := hX
  intro H locs ls hl hP hS hz
  exact lv_icmp_ne hx hb d ht (fun q => kt (by first | exact q | simpa using q) H locs ls hl hP hS hz) (fun q => kf (by first | exact q | simpa using q) H locs ls hl hP hS hz)
theorem e_if_lt {x : Int32} {off : Int} {tgt : Nat} (hX : Cx M X) (d : decode (mB M) pc = .ok (.ifCond .lt off, 3)) (ht : (pc : Int) + off = (tgt : Int)) (kt : x < 0 → Ew M X Z tgt L st h cells slots) (kf : ¬ (x < 0) → Ew M X Z (pc + 3) L st h cells slots) : Ew M X Z pc L (.int x :: st) h cells slots := by
  obtain ⟨p, l, e, R, s, m, args, below, meth, c, dC, dI, dA, b⟩ := X
  obtain ⟨hx, hb, hr, hml, hown, hts, hlk, hnm, hR, hK, hbs⟩ := hX
  intro H locs ls hl hP hS hz
  exact lv_if_lt hx hb d ht (fun q => kt (by first | exact q | simpa using q) H locs ls hl hP hS hz) (fun q => kf (by first | exact q | simpa using q) H locs ls hl hP hS hz)
theorem e_icmp_lt {x y : Int32} {off : Int} {tgt : Nat} (hX : Cx M X) (d : decode (mB M) pc = .ok (.if_icmp .lt off, 3)) (ht : (pc : Int) + off = (tgt : Int)) (kt : x < y → Ew M X Z tgt L st h cells slots) (kf : ¬ (x < y) → Ew M X Z (pc + 3) L st h cells slots) : Ew M X Z pc L (.int y :: .int x :: st) h cells slots := by
  obtain ⟨p, l, e, R, s, m, args, below, meth, c, dC, dI, dA, b⟩ := X
  obtain ⟨hx, hb, hr, hml, hown, hts, hlk, hnm, hR, hK, hbs⟩ := hX
  intro H locs ls hl hP hS hz
  exact lv_icmp_lt hx hb d ht (fun q => kt (by first | exact q | simpa using q) H locs ls hl hP hS hz) (fun q => kf (by first | exact q | simpa using q) H locs ls hl hP hS hz)
theorem e_if_ge {x : Int32} {off : Int} {tgt : Nat} (hX : Cx M X) (d : decode (mB M) pc = .ok (.ifCond .ge off, 3)) (ht : (pc : Int) + off = (tgt : Int)) (kt : 0 ≤ x → Ew M X Z tgt L st h cells slots) (kf : ¬ (0 ≤ x) → Ew M X Z (pc + 3) L st h cells slots) : Ew M X Z pc L (.int x :: st) h cells slots := by
  obtain ⟨p, l, e, R, s, m, args, below, meth, c, dC, dI, dA, b⟩ := X
  obtain ⟨hx, hb, hr, hml, hown, hts, hlk, hnm, hR, hK, hbs⟩ := hX
  intro H locs ls hl hP hS hz
  exact lv_if_ge hx hb d ht (fun q => kt (by first | exact q | simpa using q) H locs ls hl hP hS hz) (fun q => kf (by first | exact q | simpa using q) H locs ls hl hP hS hz)
theorem e_icmp_ge {x y : Int32} {off : Int} {tgt : Nat} (hX : Cx M X) (d : decode (mB M) pc = .ok (.if_icmp .ge off, 3)) (ht : (pc : Int) + off = (tgt : Int)) (kt : y ≤ x → Ew M X Z tgt L st h cells slots) (kf : ¬ (y ≤ x) → Ew M X Z (pc + 3) L st h cells slots) : Ew M X Z pc L (.int y :: .int x :: st) h cells slots := by
  obtain ⟨p, l, e, R, s, m, args, below, meth, c, dC, dI, dA, b⟩ := X
  obtain ⟨hx, hb, hr, hml, hown, hts, hlk, hnm, hR, hK, hbs⟩ := hX
  intro H locs ls hl hP hS hz
  exact lv_icmp_ge hx hb d ht (fun q => kt (by first | exact q | simpa using q) H locs ls hl hP hS hz) (fun q => kf (by first | exact q | simpa using q) H locs ls hl hP hS hz)
theorem e_if_gt {x : Int32} {off : Int} {tgt : Nat} (hX : Cx M X) (d : decode (mB M) pc = .ok (.ifCond .gt off, 3)) (ht : (pc : Int) + off = (tgt : Int)) (kt : 0 < x → Ew M X Z tgt L st h cells slots) (kf : ¬ (0 < x) → Ew M X Z (pc + 3) L st h cells slots) : Ew M X Z pc L (.int x :: st) h cells slots := by
  obtain ⟨p, l, e, R, s, m, args, below, meth, c, dC, dI, dA, b⟩ := X
  obtain ⟨hx, hb, hr, hml, hown, hts, hlk, hnm, hR, hK, hbs⟩ := hX
  intro H locs ls hl hP hS hz
  exact lv_if_gt hx hb d ht (fun q => kt (by first | exact q | simpa using q) H locs ls hl hP hS hz) (fun q => kf (by first | exact q | simpa using q) H locs ls hl hP hS hz)
theorem e_icmp_gt {x y : Int32} {off : Int} {tgt : Nat} (hX : Cx M X) (d : decode (mB M) pc = .ok (.if_icmp .gt off, 3)) (ht : (pc : Int) + off = (tgt : Int)) (kt : y < x → Ew M X Z tgt L st h cells slots) (kf : ¬ (y < x) → Ew M X Z (pc + 3) L st h cells slots) : Ew M X Z pc L (.int y :: .int x :: st) h cells slots := by
  obtain ⟨p, l, e, R, s, m, args, below, meth, c, dC, dI, dA, b⟩ := X
  obtain ⟨hx, hb, hr, hml, hown, hts, hlk, hnm, hR, hK, hbs⟩ := hX
  intro H locs ls hl hP hS hz
  exact lv_icmp_gt hx hb d ht (fun q => kt (by first | exact q | simpa using q) H locs ls hl hP hS hz) (fun q => kf (by first | exact q | simpa using q) H locs ls hl hP hS hz)
theorem e_if_le {x : Int32} {off : Int} {tgt : Nat} (hX : Cx M X) (d : decode (mB M) pc = .ok (.ifCond .le off, 3)) (ht : (pc : Int) + off = (tgt : Int)) (kt : x ≤ 0 → Ew M X Z tgt L st h cells slots) (kf : ¬ (x ≤ 0) → Ew M X Z (pc + 3) L st h cells slots) : Ew M X Z pc L (.int x :: st) h cells slots := by
  obtain ⟨p, l, e, R, s, m, args, below, meth, c, dC, dI, dA, b⟩ := X
  obtain ⟨hx, hb, hr, hml, hown, hts, hlk, hnm, hR, hK, hbs⟩ := hX
  intro H locs ls hl hP hS hz
  exact lv_if_le hx hb d ht (fun q => kt (by first | exact q | simpa using q) H locs ls hl hP hS hz) (fun q => kf (by first | exact q | simpa using q) H locs ls hl hP hS hz)
theorem e_icmp_le {x y : Int32} {off : Int} {tgt : Nat} (hX : Cx M X) (d : decode (mB M) pc = .ok (.if_icmp .le off, 3)) (ht : (pc : Int) + off = (tgt : Int)) (kt : x ≤ y → Ew M X Z tgt L st h cells slots) (kf : ¬ (x ≤ y) → Ew M X Z (pc + 3) L st h cells slots) : Ew M X Z pc L (.int y :: .int x :: st) h cells slots := by
  obtain ⟨p, l, e, R, s, m, args, below, meth, c, dC, dI, dA, b⟩ := X
  obtain ⟨hx, hb, hr, hml, hown, hts, hlk, hnm, hR, hK, hbs⟩ := hX
  intro H locs ls hl hP hS hz
  exact lv_icmp_le hx hb d ht (fun q => kt (by first | exact q | simpa using q) H locs ls hl hP hS hz) (fun q => kf (by first | exact q | simpa using q) H locs ls hl hP hS hz)
theorem e_goto {off : Int} {tgt : Nat} (hX : Cx M X) (d : decode (mB M) pc = .ok (.goto off, 3)) (ht : (pc : Int) + off = (tgt : Int)) (k : Ew M X Z tgt L st h cells slots) : Ew M X Z pc L st h cells slots := by
  obtain ⟨p, l, e, R, s, m, args, below, meth, c, dC, dI, dA, b⟩ := X
  obtain ⟨hx, hb, hr, hml, hown, hts, hlk, hnm, hR, hK, hbs⟩ := hX
  intro H locs ls hl hP hS hz
  exact lv_goto hx hb d ht (k H locs ls hl hP hS hz)
theorem e_tableOut {dflt lo hi : Int} {offs : Array Int} {len : Nat} {x : Int32} {tgt : Nat} (hX : Cx M X) (d : decode (mB M) pc = .ok (.tableswitch dflt lo hi offs, len)) (h0 : x.toInt < lo ∨ hi < x.toInt) (ht : (pc : Int) + dflt = (tgt : Int)) (k : Ew M X Z tgt L st h cells slots) : Ew M X Z pc L (.int x :: st) h cells slots := by
  obtain ⟨p, l, e, R, s, m, args, below, meth, c, dC, dI, dA, b⟩ := X
  obtain ⟨hx, hb, hr, hml, hown, hts, hlk, hnm, hR, hK, hbs⟩ := hX
  intro H locs ls hl hP hS hz
  exact lv_tableOut hx hb d h0 ht (k H locs ls hl hP hS hz)
theorem e_tableIn {dflt lo hi : Int} {offs : Array Int} {len : Nat} {x : Int32} {off : Int} {tgt : Nat} (hX : Cx M X) (d : decode (mB M) pc = .ok (.tableswitch dflt lo hi offs, len)) (h1 : ¬ x.toInt < lo) (h2 : ¬ hi < x.toInt) (ho : offs[(x.toInt - lo).toNat]? = some off) (ht : (pc : Int) + off = (tgt : Int)) (k : Ew M X Z tgt L st h cells slots) : Ew M X Z pc L (.int x :: st) h cells slots := by
  obtain ⟨p, l, e, R, s, m, args, below, meth, c, dC, dI, dA, b⟩ := X
  obtain ⟨hx, hb, hr, hml, hown, hts, hlk, hnm, hR, hK, hbs⟩ := hX
  intro H locs ls hl hP hS hz
  exact lv_tableIn hx hb d h1 h2 ho ht (k H locs ls hl hP hS hz)
theorem e_lookup {dflt : Int} {ps : Array (Int × Int)} {len : Nat} {x : Int32} {off : Int} {tgt : Nat} (hX : Cx M X) (d : decode (mB M) pc = .ok (.lookupswitch dflt ps, len)) (hp : (ps.toList.zip (ps.toList.drop 1)).all (fun (a, next) => a.1 < next.1) = true) (ho : Op.lookupswitch.offset ps.toList dflt x.toInt = off) (ht : (pc : Int) + off = (tgt : Int)) (k : Ew M X Z tgt L st h cells slots) : Ew M X Z pc L (.int x :: st) h cells slots := by
  obtain ⟨p, l, e, R, s, m, args, below, meth, c, dC, dI, dA, b⟩ := X
  obtain ⟨hx, hb, hr, hml, hown, hts, hlk, hnm, hR, hK, hbs⟩ := hX
  intro H locs ls hl hP hS hz
  exact lv_lookup hx hb d hp ho ht (k H locs ls hl hP hS hz)
/-- fewer values of the frame are known -/
theorem e_less {L2 : List (Option Value)} (hn : L2.length = L.length) (hl0 : ∀ (i : Nat) (v : Value), L2[i]? = some (some v) → L[i]? = some (some v)) (k : Ew M X Z pc L2 st h cells slots) : Ew M X Z pc L st h cells slots := by
  obtain ⟨p, l, e, R, s, m, args, below, meth, c, dC, dI, dA, b⟩ := X
  intro H locs ls hl hP hS hz
  exact k H locs ls (hl.less hn hl0) hP hS hz
theorem e_get {idx ci kk o0 : Nat} {ty : FieldType} {fin : Bool} {fs : List Value} {v : Value} (hX : Cx M X) (d : decode (mB M) pc = .ok (.getfield idx, 3)) (lk : Fl (mY M).cls idx ci kk ty fin) (ho : h[o0]? = some (.inr (ci, fs))) (hv : fs[kk]? = some v) (k : Ew M X Z (pc + 3) L (v :: st) h cells slots) : Ew M X Z pc L (.ref o0 :: st) h cells slots := by
  obtain ⟨p, l, e, R, s, m, args, below, meth, c, dC, dI, dA, b⟩ := X
  obtain ⟨hx, hb, hr, hml, hown, hts, hlk, hnm, hR, hK, hbs⟩ := hX
  intro H locs ls hl hP hS hz
  obtain ⟨C, T, N, tf, hci, hkN, hlk2, hty, hfin, hC⟩ := lk
  exact va_get (D := (dC, dI)) (v := rv b v) hx hb hts hci.2.1 hown hK.1 hP o0 (rz_at ho) hci.1 kk hkN (hts _ hlk2) (fun _ h9 => h9) (by simp [hv]) d (k H locs ls hl hP hS hz)
theorem e_iald {a0 n : Nat} {f : Nat → Int32} {i : Int32} (hX : Cx M X) (d : decode (mB M) pc = .ok (.iaload, 1)) (ha : h[a0]? = some (.inl (0, n, .inl f))) (hin : vp_in i n) (k : Ew M X Z (pc + 1) L (.int (f i.toNatClampNeg) :: st) h cells slots) : Ew M X Z pc L (.int i :: .ref a0 :: st) h cells slots := by
  obtain ⟨p, l, e, R, s, m, args, below, meth, c, dC, dI, dA, b⟩ := X
  obtain ⟨hx, hb, hr, hml, hown, hts, hlk, hnm, hR, hK, hbs⟩ := hX
  intro H locs ls hl hP hS hz
  exact va_iald (D := (dC, dI)) hx hb hK.1 hP a0 0 (rz_at ha) rfl hin d (k H locs ls hl hP hS hz)
theorem e_zald {a0 n : Nat} {f : Nat → Int32} {i : Int32} (hX : Cx M X) (d : decode (mB M) pc = .ok (.baload, 1)) (ha : h[a0]? = some (.inl (1, n, .inl f))) (hin : vp_in i n) (k : Ew M X Z (pc + 1) L (.int (f i.toNatClampNeg) :: st) h cells slots) : Ew M X Z pc L (.int i :: .ref a0 :: st) h cells slots := by
  obtain ⟨p, l, e, R, s, m, args, below, meth, c, dC, dI, dA, b⟩ := X
  obtain ⟨hx, hb, hr, hml, hown, hts, hlk, hnm, hR, hK, hbs⟩ := hX
  intro H locs ls hl hP hS hz
  exact va_zald (D := (dC, dI)) hx hb hK.1 hP a0 1 (rz_at ha) rfl hin d (k H locs ls hl hP hS hz)
theorem e_lald {a0 n : Nat} {f : Nat → Int64} {i : Int32} (hX : Cx M X) (d : decode (mB M) pc = .ok (.laload, 1)) (ha : h[a0]? = some (.inl (2, n, .inr (.inl f)))) (hin : vp_in i n) (k : Ew M X Z (pc + 1) L (.long (f i.toNatClampNeg) :: st) h cells slots) : Ew M X Z pc L (.int i :: .ref a0 :: st) h cells slots := by
  obtain ⟨p, l, e, R, s, m, args, below, meth, c, dC, dI, dA, b⟩ := X
  obtain ⟨hx, hb, hr, hml, hown, hts, hlk, hnm, hR, hK, hbs⟩ := hX
  intro H locs ls hl hP hS hz
  exact va_lald (D := (dC, dI)) hx hb hK.1 hP a0 2 (rz_at ha) rfl hin d (k H locs ls hl hP hS hz)
theorem e_alen {a0 t0 : Nat} {x : vp_A} {v : Int32} (hX : Cx M X) (d : decode (mB M) pc = .ok (.arraylength, 1)) (ha : h[a0]? = some (.inl (t0, x))) (ht : t0 < 3) (hv : Int32.ofNat x.1 = v) (k : Ew M X Z (pc + 1) L (.int v :: st) h cells slots) : Ew M X Z pc L (.ref a0 :: st) h cells slots := by
  obtain ⟨p, l, e, R, s, m, args, below, meth, c, dC, dI, dA, b⟩ := X
  obtain ⟨hx, hb, hr, hml, hown, hts, hlk, hnm, hR, hK, hbs⟩ := hX
  intro H locs ls hl hP hS hz
  match t0, ht, ha with
  | 0, _, ha => exact va_alen (D := (dC, dI)) hx hb hK.1 hP a0 0 (rz_at ha) rfl hv d (k H locs ls hl hP hS hz)
  | 1, _, ha => exact va_alen (D := (dC, dI)) hx hb hK.1 hP a0 1 (rz_at ha) rfl hv d (k H locs ls hl hP hS hz)
  | 2, _, ha => exact va_alen (D := (dC, dI)) hx hb hK.1 hP a0 2 (rz_at ha) rfl hv d (k H locs ls hl hP hS hz)
theorem e_put {idx ci kk o0 : Nat} {ty : FieldType} {fs : List Value} {v : Value} (hX : Cx M X) (d : decode (mB M) pc = .ok (.putfield idx, 3)) (lk : Fl (mY M).cls idx ci kk ty false) (ho : h[o0]? = some (.inr (ci, fs))) (hl0 : kk < fs.length) (hn : narrow ty v = v) (hf : fits ty v = true) (k : Ew M X Z (pc + 3) L st (h.set o0 (.inr (ci, fs.set kk v))) cells slots) : Ew M X Z pc L (v :: .ref o0 :: st) h cells slots := by
  obtain ⟨p, l, e, R, s, m, args, below, meth, c, dC, dI, dA, b⟩ := X
  obtain ⟨hx, hb, hr, hml, hown, hts, hlk, hnm, hR, hK, hbs⟩ := hX
  intro H locs ls hl hP hS hz
  obtain ⟨C, T, N, tf, hci, hkN, hlk2, hty, hfin, hC⟩ := lk
  refine va_put (D := (dC, dI)) (v := rv b v) (ty := ty) hx hb hts hci.2.1 tf hci.2.2.1 hci.2.2.2.1 hown hK.1 hP (rz_D b dA h) hS o0 (rz_at ho) hci.1 kk hkN (hts _ hlk2) (fun _ h9 => h9) hfin (by rw [hci.2.2.1 kk hkN, hty]) (rv_narrow hn) (rv_fits hf) (by rw [List.length_map]; exact hl0) d (fun H1 locs1 hP1 _ hS1 => ?_)
  rw [← List.map_set, show (Sum.inr (ci, (fs.set kk v).map (rv b)) : va_E) = rc b dA (.inr (ci, fs.set kk v)) from rfl, rz_set] at hP1
  exact k H1 locs1 ls hl hP1 hS1 (by rw [List.length_set]; exact hz)
theorem e_putF {idx ci kk o0 : Nat} {ty : FieldType} {fs : List Value} {v : Value} (hX : Cx M X) (d : decode (mB M) pc = .ok (.putfield idx, 3)) (lk : Fl (mY M).cls idx ci kk ty true) (hi0 : (mY M).name = "<init>") (hcc : ∀ C T N, vwCl[ci]? = some (C, T, N) → C = (mY M).cls) (ho : h[o0]? = some (.inr (ci, fs))) (hl0 : kk < fs.length) (hn : narrow ty v = v) (hf : fits ty v = true) (k : Ew M X Z (pc + 3) L st (h.set o0 (.inr (ci, fs.set kk v))) cells slots) : Ew M X Z pc L (v :: .ref o0 :: st) h cells slots := by
  obtain ⟨p, l, e, R, s, m, args, below, meth, c, dC, dI, dA, b⟩ := X
  obtain ⟨hx, hb, hr, hml, hown, hts, hlk, hnm, hR, hK, hbs⟩ := hX
  intro H locs ls hl hP hS hz
  obtain ⟨C, T, N, tf, hci, hkN, hlk2, hty, hfin, hC⟩ := lk
  refine va_putF (D := (dC, dI)) (v := rv b v) (ty := ty) hx hb hts hci.2.1 tf hci.2.2.1 hci.2.2.2.1 hown hK.1 hP (rz_D b dA h) hS o0 (rz_at ho) hci.1 kk hkN (hts _ hlk2) (fun _ h9 => h9) hfin (hnm.trans hi0) (hC.trans (hcc C T N hci.1)) (by rw [hci.2.2.1 kk hkN, hty]) (rv_narrow hn) (rv_fits hf) (by rw [List.length_map]; exact hl0) d (fun H1 locs1 hP1 _ hS1 => ?_)
  rw [← List.map_set, show (Sum.inr (ci, (fs.set kk v).map (rv b)) : va_E) = rc b dA (.inr (ci, fs.set kk v)) from rfl, rz_set] at hP1
  exact k H1 locs1 ls hl hP1 hS1 (by rw [List.length_set]; exact hz)
theorem e_iast {a0 n : Nat} {f : Nat → Int32} {i : Int32} {x : Int32} (hX : Cx M X) (d : decode (mB M) pc = .ok (.iastore, 1)) (ha : h[a0]? = some (.inl (0, n, .inl f))) (hin : vp_in i n) (k : Ew M X Z (pc + 1) L st (h.set a0 (.inl (0, n, .inl (upd f i.toNatClampNeg x)))) cells slots) : Ew M X Z pc L (.int x :: .int i :: .ref a0 :: st) h cells slots := by
  obtain ⟨p, l, e, R, s, m, args, below, meth, c, dC, dI, dA, b⟩ := X
  obtain ⟨hx, hb, hr, hml, hown, hts, hlk, hnm, hR, hK, hbs⟩ := hX
  intro H locs ls hl hP hS hz
  refine va_iast (D := (dC, dI)) hx hb hK.1 hP (rz_D b dA h) hS a0 0 (rz_at ha) rfl hin d (fun H1 locs1 hP1 _ hS1 => ?_)
  rw [show (Sum.inl (dA 0, n, .inl (upd f i.toNatClampNeg x)) : va_E) = rc b dA (.inl (0, n, .inl (upd f i.toNatClampNeg x))) from rfl, rz_set] at hP1
  exact k H1 locs1 ls hl hP1 hS1 (by rw [List.length_set]; exact hz)
theorem e_zast {a0 n : Nat} {f : Nat → Int32} {i : Int32} {x : Int32} (hX : Cx M X) (d : decode (mB M) pc = .ok (.bastore, 1)) (ha : h[a0]? = some (.inl (1, n, .inl f))) (hin : vp_in i n) (k : Ew M X Z (pc + 1) L st (h.set a0 (.inl (1, n, .inl (upd f i.toNatClampNeg (vp_nar .boolean x))))) cells slots) : Ew M X Z pc L (.int x :: .int i :: .ref a0 :: st) h cells slots := by
  obtain ⟨p, l, e, R, s, m, args, below, meth, c, dC, dI, dA, b⟩ := X
  obtain ⟨hx, hb, hr, hml, hown, hts, hlk, hnm, hR, hK, hbs⟩ := hX
  intro H locs ls hl hP hS hz
  refine va_zast (D := (dC, dI)) hx hb hK.1 hP (rz_D b dA h) hS a0 1 (rz_at ha) rfl hin d (fun H1 locs1 hP1 _ hS1 => ?_)
  rw [show (Sum.inl (dA 1, n, .inl (upd f i.toNatClampNeg (vp_nar .boolean x))) : va_E) = rc b dA (.inl (1, n, .inl (upd f i.toNatClampNeg (vp_nar .boolean x)))) from rfl, rz_set] at hP1
  exact k H1 locs1 ls hl hP1 hS1 (by rw [List.length_set]; exact hz)
theorem e_last {a0 n : Nat} {f : Nat → Int64} {i : Int32} {x : Int64} (hX : Cx M X) (d : decode (mB M) pc = .ok (.lastore, 1)) (ha : h[a0]? = some (.inl (2, n, .inr (.inl f)))) (hin : vp_in i n) (k : Ew M X Z (pc + 1) L st (h.set a0 (.inl (2, n, .inr (.inl (vp_updL f i.toNatClampNeg x))))) cells slots) : Ew M X Z pc L (.long x :: .int i :: .ref a0 :: st) h cells slots := by
  obtain ⟨p, l, e, R, s, m, args, below, meth, c, dC, dI, dA, b⟩ := X
  obtain ⟨hx, hb, hr, hml, hown, hts, hlk, hnm, hR, hK, hbs⟩ := hX
  intro H locs ls hl hP hS hz
  refine va_last (D := (dC, dI)) hx hb hK.1 hP (rz_D b dA h) hS a0 2 (rz_at ha) rfl hin d (fun H1 locs1 hP1 _ hS1 => ?_)
  rw [show (Sum.inl (dA 2, n, .inr (.inl (vp_updL f i.toNatClampNeg x))) : va_E) = rc b dA (.inl (2, n, .inr (.inl (vp_updL f i.toNatClampNeg x)))) from rfl, rz_set] at hP1
  exact k H1 locs1 ls hl hP1 hS1 (by rw [List.length_set]; exact hz)
theorem e_copyi {idx a0 a1 n0 n1 : Nat} {f g : Nat → Int32} {sp dp n : Int32} (hX : Cx M X) (d : decode (mB M) pc = .ok (.invokestatic idx, 3)) (lk : Cond.methodLink (mY M).cls idx arraycopyName ∈ tb) (ha0 : h[a0]? = some (.inl (0, n0, .inl f))) (ha1 : h[a1]? = some (.inl (0, n1, .inl g))) (h1 : ¬ sp < 0) (h2 : ¬ dp < 0) (h3 : ¬ n < 0) (h4 : sp.toNatClampNeg + n.toNatClampNeg ≤ n0) (h5 : dp.toNatClampNeg + n.toNatClampNeg ≤ n1) (hfr : 1 ≤ mF M) (hlo : (st.map fun v => v.category).sum + (nativeFrameWords "java/lang/System" "arraycopy" 5 + 11) ≤ mO M) (hLl : L.length = mL M) (k : Ew M X Z (pc + 3) L st (h.set a1 (.inl (0, n1, .inl (va_cpy f g sp.toNatClampNeg dp.toNatClampNeg n.toNatClampNeg)))) cells slots) : Ew M X Z pc L (.int n :: .int dp :: .ref a1 :: .int sp :: .ref a0 :: st) h cells slots := by
  obtain ⟨p, l, e, R, s, m, args, below, meth, c, dC, dI, dA, b⟩ := X
  obtain ⟨hx, hb, hr, hml, hown, hts, hlk, hnm, hR, hK, hbs⟩ := hX
  intro H locs ls hl hP hS hz
  refine va_copyi (D := (dC, dI)) (ty := .int) hx hb (by rw [hml, hl.1, hLl]) hown (hts _ lk) (hts _ ar_nat) (hts _ ar_stat) (hts _ ar_ini) hK.1 hP (rz_D b dA h) hS a0 a1 0 0 (rz_at ha0) (rz_at ha1) rfl rfl rfl h1 h2 h3 h4 h5 (fun i _ => rfl) (by rw [hR]; exact hfr) (by rw [hR, rv_cats]; exact hlo) d (fun H1 locs1 hP1 _ hS1 => ?_)
  rw [show (Sum.inl (dA 0, n1, .inl (va_cpy f g sp.toNatClampNeg dp.toNatClampNeg n.toNatClampNeg)) : va_E) = rc b dA (.inl (0, n1, .inl (va_cpy f g sp.toNatClampNeg dp.toNatClampNeg n.toNatClampNeg))) from rfl, rz_set] at hP1
  exact k H1 locs1 ls hl hP1 hS1 (by rw [List.length_set]; exact hz)
theorem e_new {idx ci N : Nat} {C : String} {T : u_T} {tf : Nat → FieldType} {fs : List Value} (hX : Cx M X) (d : decode (mB M) pc = .ok (.new idx, 3)) (hci : CiOk ci C T N tf) (lk : Cond.classLink (mY M).cls idx C ∈ tb) (hfs : ∀ j, j < N → defaultValue (tf j) = vp_V fs j) (hrf : ∀ b : Nat, fs.map (rv b) = fs) (hc1 : cells + 1 ≤ mC M) (hs1 : slots + N ≤ mS M) (k : Ew M X Z (pc + 3) L (.ref h.length :: st) (h ++ [.inr (ci, fs)]) (cells + 1) (slots + N)) : Ew M X Z pc L st h cells slots := by
  obtain ⟨p, l, e, R, s, m, args, below, meth, c, dC, dI, dA, b⟩ := X
  obtain ⟨hx, hb, hr, hml, hown, hts, hlk, hnm, hR, hK, hbs⟩ := hX
  intro H locs ls hl hP hS hz
  intro T0 hT0 X0
  have hsz := sz_of X0 hT0 hP hbs hz
  have key : W p l e R s m args below meth c H locs cells slots Z (F0 m pc ls (st.map (rv b))) := by
    have hKn := hK.1.1 ci _ hci.1
    refine W.newcK hx hb hown (hts _ lk) (hts _ hci.2.2.2.2.1) (hts _ hci.2.2.2.2.2) rfl d (by rw [hR]; exact hc1) (by rw [hR]; exact hs1) hKn.2.1 hsz fun H1 kC hkC e1 z1 o1 => ?_
    have hk : ∀ (k : Nat) (x : Nat × va_E), (rz b dA h)[k]? = some x → H1[x.1]? = H[x.1]? := fun k x hx0 => o1 x.1 (by have := (hP k x hx0).lt; omega)
    refine k H1 locs ls hl ?_ ⟨by have := hS.1; omega, fun x h1 h2 => (o1 x (by have := hS.1; omega)).trans (hS.2.1 x h1 h2), hS.2.2⟩ (by rw [List.length_append, List.length_singleton]; omega)
    rw [← rz_push]
    refine (hP.kept hk).app (fun k x hx0 => ?_)
    have hz0 : k < 1 := (List.getElem?_eq_some_iff.mp hx0).1
    rw [show k = 0 by omega] at hx0
    cases hx0
    refine ⟨_, hci.1, ?_⟩
    show t_OB _ _ _ _ _ (vp_V (fs.map (rv b)))
    rw [hrf b]
    exact (u_born tf hts hci.2.1 hKn hkC e1 hci.2.2.1).to hfs
  exact key T0 hT0 X0
theorem e_newi {n : Int32} {N : Nat} (hX : Cx M X) (d : decode (mB M) pc = .ok (.newarray .int, 2)) (hn : ¬ n < 0) (hN : n.toNatClampNeg = N) (hby : N * componentBytes .int ≤ 536870912) (hc1 : cells + 1 ≤ mC M) (hs1 : slots + N ≤ mS M) (k : Ew M X Z (pc + 2) L (.ref h.length :: st) (h ++ [.inl (0, N, .inl (fun _ => 0))]) (cells + 1) (slots + N)) : Ew M X Z pc L (.int n :: st) h cells slots := by
  obtain ⟨p, l, e, R, s, m, args, below, meth, c, dC, dI, dA, b⟩ := X
  obtain ⟨hx, hb, hr, hml, hown, hts, hlk, hnm, hR, hK, hbs⟩ := hX
  intro H locs ls hl hP hS hz
  intro T0 hT0 X0
  have hsz := sz_of X0 hT0 hP hbs hz
  have key : W p l e R s m args below meth c H locs cells slots Z (F0 m pc ls (.int n :: st.map (rv b))) := by
    refine va_newaK hx hb (hts _ ar_0) rfl d rfl hn hN hby (by rw [hR]; exact hc1) (by rw [hR]; exact hs1) hsz fun H1 cA e1 z1 o1 hAr hNm => ?_
    have hcA : cA = dA 0 := by
      have h9 := (hK.1.2 0 _ rfl).2
      exact Option.some.inj (hNm.symm.trans h9)
    subst hcA
    have hk : ∀ (k : Nat) (x : Nat × va_E), (rz b dA h)[k]? = some x → H1[x.1]? = H[x.1]? := fun k x hx0 => o1 x.1 (by have := (hP k x hx0).lt; omega)
    refine k H1 locs ls hl ?_ ⟨by have := hS.1; omega, fun x h1 h2 => (o1 x (by have := hS.1; omega)).trans (hS.2.1 x h1 h2), hS.2.2⟩ (by rw [List.length_append, List.length_singleton]; omega)
    rw [← rz_push]
    refine (hP.kept hk).app (fun k x hx0 => ?_)
    have hz0 : k < 1 := (List.getElem?_eq_some_iff.mp hx0).1
    rw [show k = 0 by omega] at hx0
    cases hx0
    exact e1
  exact key T0 hT0 X0
theorem e_newz {n : Int32} {N : Nat} (hX : Cx M X) (d : decode (mB M) pc = .ok (.newarray .boolean, 2)) (hn : ¬ n < 0) (hN : n.toNatClampNeg = N) (hby : N * componentBytes .boolean ≤ 536870912) (hc1 : cells + 1 ≤ mC M) (hs1 : slots + N ≤ mS M) (k : Ew M X Z (pc + 2) L (.ref h.length :: st) (h ++ [.inl (1, N, .inl (fun _ => 0))]) (cells + 1) (slots + N)) : Ew M X Z pc L (.int n :: st) h cells slots := by
  obtain ⟨p, l, e, R, s, m, args, below, meth, c, dC, dI, dA, b⟩ := X
  obtain ⟨hx, hb, hr, hml, hown, hts, hlk, hnm, hR, hK, hbs⟩ := hX
  intro H locs ls hl hP hS hz
  intro T0 hT0 X0
  have hsz := sz_of X0 hT0 hP hbs hz
  have key : W p l e R s m args below meth c H locs cells slots Z (F0 m pc ls (.int n :: st.map (rv b))) := by
    refine va_newaK hx hb (hts _ ar_1) rfl d rfl hn hN hby (by rw [hR]; exact hc1) (by rw [hR]; exact hs1) hsz fun H1 cA e1 z1 o1 hAr hNm => ?_
    have hcA : cA = dA 1 := by
      have h9 := (hK.1.2 1 _ rfl).2
      exact Option.some.inj (hNm.symm.trans h9)
    subst hcA
    have hk : ∀ (k : Nat) (x : Nat × va_E), (rz b dA h)[k]? = some x → H1[x.1]? = H[x.1]? := fun k x hx0 => o1 x.1 (by have := (hP k x hx0).lt; omega)
    refine k H1 locs ls hl ?_ ⟨by have := hS.1; omega, fun x h1 h2 => (o1 x (by have := hS.1; omega)).trans (hS.2.1 x h1 h2), hS.2.2⟩ (by rw [List.length_append, List.length_singleton]; omega)
    rw [← rz_push]
    refine (hP.kept hk).app (fun k x hx0 => ?_)
    have hz0 : k < 1 := (List.getElem?_eq_some_iff.mp hx0).1
    rw [show k = 0 by omega] at hx0
    cases hx0
    exact e1
  exact key T0 hT0 X0
theorem e_newl {n : Int32} {N : Nat} (hX : Cx M X) (d : decode (mB M) pc = .ok (.newarray .long, 2)) (hn : ¬ n < 0) (hN : n.toNatClampNeg = N) (hby : N * componentBytes .long ≤ 536870912) (hc1 : cells + 1 ≤ mC M) (hs1 : slots + N ≤ mS M) (k : Ew M X Z (pc + 2) L (.ref h.length :: st) (h ++ [.inl (2, N, .inr (.inl (fun _ => 0)))]) (cells + 1) (slots + N)) : Ew M X Z pc L (.int n :: st) h cells slots := by
  obtain ⟨p, l, e, R, s, m, args, below, meth, c, dC, dI, dA, b⟩ := X
  obtain ⟨hx, hb, hr, hml, hown, hts, hlk, hnm, hR, hK, hbs⟩ := hX
  intro H locs ls hl hP hS hz
  intro T0 hT0 X0
  have hsz := sz_of X0 hT0 hP hbs hz
  have key : W p l e R s m args below meth c H locs cells slots Z (F0 m pc ls (.int n :: st.map (rv b))) := by
    refine va_newaK hx hb (hts _ ar_2) rfl d rfl hn hN hby (by rw [hR]; exact hc1) (by rw [hR]; exact hs1) hsz fun H1 cA e1 z1 o1 hAr hNm => ?_
    have hcA : cA = dA 2 := by
      have h9 := (hK.1.2 2 _ rfl).2
      exact Option.some.inj (hNm.symm.trans h9)
    subst hcA
    have hk : ∀ (k : Nat) (x : Nat × va_E), (rz b dA h)[k]? = some x → H1[x.1]? = H[x.1]? := fun k x hx0 => o1 x.1 (by have := (hP k x hx0).lt; omega)
    refine k H1 locs ls hl ?_ ⟨by have := hS.1; omega, fun x h1 h2 => (o1 x (by have := hS.1; omega)).trans (hS.2.1 x h1 h2), hS.2.2⟩ (by rw [List.length_append, List.length_singleton]; omega)
    rw [← rz_push]
    refine (hP.kept hk).app (fun k x hx0 => ?_)
    have hz0 : k < 1 := (List.getElem?_eq_some_iff.mp hx0).1
    rw [show k = 0 by omega] at hx0
    cases hx0
    exact e1
  exact key T0 hT0 X0
theorem e_iret {v : Int32} {n0 : Nat} {Q : Option Value → List AC → Prop} (hX : Cx M X) (d : decode (mB M) pc = .ok (.ireturn, 1)) (hrt : mR M = some .int) (hc : cells = mC M) (hs : slots ≤ mS M) (hl0 : h.length = n0 + mC M) (q : Q (some (.int v)) h) : Ew M X (Zm M n0 Q X) pc L ([.int v]) h cells slots := by
  obtain ⟨p, l, e, R, s, m, args, below, meth, c, dC, dI, dA, b⟩ := X
  obtain ⟨hx, hb, hr, hml, hown, hts, hlk, hnm, hR, hK, hbs⟩ := hX
  intro H locs ls hl hP hS hz
  refine W.widen (k := mC M) (n := mS M) (by omega) hs ?_
  exact W.iret (v := v) hx hb (hr.trans hrt) (fun t ht hW => ⟨⟨_, h, rfl, ⟨q, hl0⟩, by rw [ht]; exact hP⟩, hS.F ht⟩) hS.2.2 d hlk
theorem e_zret {v : Int32} {n0 : Nat} {Q : Option Value → List AC → Prop} (hX : Cx M X) (d : decode (mB M) pc = .ok (.ireturn, 1)) (hrt : mR M = some .boolean) (hn : narrow .boolean (.int v) = .int v) (hc : cells = mC M) (hs : slots ≤ mS M) (hl0 : h.length = n0 + mC M) (q : Q (some (.int v)) h) : Ew M X (Zm M n0 Q X) pc L ([.int v]) h cells slots := by
  obtain ⟨p, l, e, R, s, m, args, below, meth, c, dC, dI, dA, b⟩ := X
  obtain ⟨hx, hb, hr, hml, hown, hts, hlk, hnm, hR, hK, hbs⟩ := hX
  intro H locs ls hl hP hS hz
  refine W.widen (k := mC M) (n := mS M) (by omega) hs ?_
  exact W.zret (v := v) hx hb (hr.trans hrt) hn (fun t ht hW => ⟨⟨_, h, rfl, ⟨q, hl0⟩, by rw [ht]; exact hP⟩, hS.F ht⟩) hS.2.2 d hlk
theorem e_lret {v : Int64} {n0 : Nat} {Q : Option Value → List AC → Prop} (hX : Cx M X) (d : decode (mB M) pc = .ok (.lreturn, 1)) (hrt : mR M = some .long) (hc : cells = mC M) (hs : slots ≤ mS M) (hl0 : h.length = n0 + mC M) (q : Q (some (.long v)) h) : Ew M X (Zm M n0 Q X) pc L ([.long v]) h cells slots := by
  obtain ⟨p, l, e, R, s, m, args, below, meth, c, dC, dI, dA, b⟩ := X
  obtain ⟨hx, hb, hr, hml, hown, hts, hlk, hnm, hR, hK, hbs⟩ := hX
  intro H locs ls hl hP hS hz
  refine W.widen (k := mC M) (n := mS M) (by omega) hs ?_
  exact W.lret (v := v) hx hb (hr.trans hrt) (fun t ht hW => ⟨⟨_, h, rfl, ⟨q, hl0⟩, by rw [ht]; exact hP⟩, hS.F ht⟩) hS.2.2 d hlk
theorem e_vret {n0 : Nat} {Q : Option Value → List AC → Prop} (hX : Cx M X) (d : decode (mB M) pc = .ok (.return_, 1)) (hrt : mR M = none) (hc : cells = mC M) (hs : slots ≤ mS M) (hl0 : h.length = n0 + mC M) (q : Q (none) h) : Ew M X (Zm M n0 Q X) pc L ([]) h cells slots := by
  obtain ⟨p, l, e, R, s, m, args, below, meth, c, dC, dI, dA, b⟩ := X
  obtain ⟨hx, hb, hr, hml, hown, hts, hlk, hnm, hR, hK, hbs⟩ := hX
  intro H locs ls hl hP hS hz
  refine W.widen (k := mC M) (n := mS M) (by omega) hs ?_
  exact W.vret hx hb (hr.trans hrt) (fun t ht hW => ⟨⟨_, h, rfl, ⟨q, hl0⟩, by rw [ht]; exact hP⟩, hS.F ht⟩) hS.2.2 d hlk
def ps (as st : List Value) : List Value := as.reverse ++ st
theorem ps_map (b : Nat) (as st : List Value) : (ps as st).map (rv b) = (as.map (rv b)).reverse ++ st.map (rv b) := by simp [ps]
theorem e_run {M2 : MI} {args2 : List Value} {Q2 : Option Value → List AC → Prop} (hX : Cx M X) (hE : Em M2 args2 h Q2)
    {rest : List Value} (hrun : ∀ (p : Program) (l : Launch) (e : Env) (R : Room) (s : State) (m : MethodId) (args : Array Value) (below : List Frame) (meth : Method) (c : Code) (dC : Nat → ClassId) (dI : Nat → Nat → Nat) (dA : Nat → ClassId) (b : Nat), X = (p, l, e, R, s, m, args, below, meth, c, dC, dI, dA, b) → ∀ (H : Heap) (locs : List Loc) (ls : Array Slot), LH b ls L → va_P (dC, dI) vwCl (rz b dA h) H → H.size = b + h.length → Met l (mY M2) (mW M2) (mRm M2) (PcE b dC dI dA args2 h) (QcE b dC dI dA (fun r h' => Q2 r h' ∧ h'.length = h.length + mC M2)) (mC M2) (mS M2) (fun q => b ≤ q) →
      va_Run p l e R s m args below meth c H locs cells slots (mC M2) (mS M2) (F0 m pc ls (st.map (rv b))) (rest.map (rv b)) (QcE b dC dI dA (fun r h' => Q2 r h' ∧ h'.length = h.length + mC M2) (args2.map (rv b)).toArray) (fun q => b ≤ q))
    (k : ∀ r h', Q2 r h' → Ew M X Z (pc + 3) L (r.toList ++ rest) h' (cells + mC M2) (slots + mS M2)) : Ew M X Z pc L st h cells slots := by
  obtain ⟨p, l, e, R, s, m, args, below, meth, c, dC, dI, dA, b⟩ := X
  obtain ⟨hx, hb, hr, hml, hown, hts, hlk, hnm, hR, hK, hbs⟩ := hX
  intro H locs ls hl hP hS hz
  intro T hT X0
  have hsz := sz_of X0 hT hP hbs hz
  obtain ⟨v, st₀, t, T', L', h0, X', hL', e1, e2, ⟨⟨r, h', hv, ⟨hq, hlen⟩, hPt⟩, hzz, hk⟩, go⟩ := hrun p l e R s m args below meth c dC dI dA b rfl H locs ls hl hP hsz (hE l dC dI dA b) T hT X0
  have hv' : v = r.map (rv b) := by cases hv; rfl
  subst hv'
  rw [h0] at hzz hk
  have hfin := k r h' hq T'.heap (locs ++ L') ls hl (by rw [e1]; exact hPt) ⟨Nat.le_trans hS.1 (by rw [e1]; exact hzz), fun q h1 h2 => by rw [e1, hk q (Nat.lt_of_lt_of_le h1 hS.1) h2]; exact hS.2.1 q h1 h2, fun q hq => by
      rcases List.mem_append.mp hq with h1 | h1
      · exact hS.2.2 q h1
      · exact hL' q h1⟩ (by rw [hlen]; omega) T' rfl X'
  obtain ⟨t2, a1, b1⟩ := hfin
  refine ⟨t2, go t2 ?_, b1⟩
  have e3 : ((r.toList ++ rest).map (rv b)) = (r.map (rv b)).toList ++ rest.map (rv b) := by cases r <;> simp
  rw [e3] at a1
  exact a1
theorem e_callV {M2 : MI} {as rest : List Value} {Q2 : Option Value → List AC → Prop} {idx n ci o0 : Nat} {fs : List Value} {C2 : String} {T2 : u_T} {N2 : Nat} (hX : Cx M X) (d : decode (mB M) pc = .ok (.invokevirtual idx, 3)) (hok : MkOk M2 n) (lk : LkV (mY M).cls idx M2) (hE : Em M2 (.ref o0 :: as) h Q2) (ho : h[o0]? = some (.inr (ci, fs))) (hcl : vwCl[ci]? = some (C2, T2, N2)) (hC2 : C2 = (mY M2).cls) (hn : as.length = n) (hfr : mF M2 + 1 ≤ mF M) (hlo : 8 + (mL M2 + 11) + mO M2 ≤ mO M) (hc1 : cells + mC M2 ≤ mC M) (hs1 : slots + mS M2 ≤ mS M) (hrest : (rest.map fun v => v.category).sum ≤ 8) (hLl : L.length = mL M)
    (k : ∀ r h', Q2 r h' → Ew M X Z (pc + 3) L (r.toList ++ rest) h' (cells + mC M2) (slots + mS M2)) : Ew M X Z pc L (ps as (.ref o0 :: rest)) h cells slots := by
  refine e_run hX hE (fun p l e R s m args below meth c dC dI dA b eX H locs ls hl hP hsz hM => ?_) k
  subst eX
  obtain ⟨hx, hb, hr, hml, hown, hts, hlk, hnm, hR, hK, hbs⟩ := hX
  have hcode := hok.1
  have hG : GoodIn tb (mW M2) := tb_good (fun w hw => (List.mem_cons.mp hw).elim (fun e => e ▸ hcode) (fun hw => hw))
  have hT : GoodIn tb (wsV (mY M).cls idx C2 (mY M2) (mW M2)) := by
    intro w hw
    rcases List.mem_append.mp hw with hw | hw
    · refine tb_good (ws := [.methodLink (mY M).cls idx (mY M2), .instanceMethod (mY M2), .selects C2 (mY M2) (mY M2), .initialized C2]) ?_ w hw
      intro w hw
      simp only [List.mem_cons, List.not_mem_nil, or_false] at hw
      rcases hw with rfl | rfl | rfl | rfl
      · exact lk.1
      · exact lk.2.1
      · rw [hC2]; exact lk.2.2
      · rw [hC2]; exact hok.2.2.2.2.2
    · exact hG w hw
  rw [ps_map]
  exact va_runV (As := as.map (rv b)) (b := b + o0) (rest := rest.map (rv b)) (Ts := tb) (own := (mY M).cls) (C := C2) ⟨hx, hb, hml, hown, hts⟩ hM (cwV n hts hT rfl rfl rfl ⟨hC2.symm, hok.2.2.1, hok.2.2.2.1, hok.2.2.2.2.1⟩ (by rw [hR]; exact ⟨hfr, hlo⟩)) ⟨PcE.blind, va_recv hK.1 hP hcl (rz_at ho), fun U hU hW => ⟨rfl, by rw [hU]; exact hsz, by rw [hU]; exact hP, hK.warm hW⟩⟩ rfl (by rw [List.length_map]; exact hn) (hl.1.trans hLl) (by simp [rv]) (lv_room (by rw [rv_cats]; exact hrest)) d (by rw [hR]; exact ⟨hc1, hs1⟩)
theorem e_callS {M2 : MI} {as rest : List Value} {Q2 : Option Value → List AC → Prop} {idx n : Nat} (hX : Cx M X) (d : decode (mB M) pc = .ok (.invokestatic idx, 3)) (hok : MkOk M2 n) (lk : LkS (mY M).cls idx M2) (hE : Em M2 as h Q2) (hn : as.length = n) (hfr : mF M2 + 1 ≤ mF M) (hlo : 8 + (mL M2 + 11) + mO M2 ≤ mO M) (hc1 : cells + mC M2 ≤ mC M) (hs1 : slots + mS M2 ≤ mS M) (hrest : (rest.map fun v => v.category).sum ≤ 8) (hLl : L.length = mL M)
    (k : ∀ r h', Q2 r h' → Ew M X Z (pc + 3) L (r.toList ++ rest) h' (cells + mC M2) (slots + mS M2)) : Ew M X Z pc L (ps as rest) h cells slots := by
  refine e_run hX hE (fun p l e R s m args below meth c dC dI dA b eX H locs ls hl hP hsz hM => ?_) k
  subst eX
  obtain ⟨hx, hb, hr, hml, hown, hts, hlk, hnm, hR, hK, hbs⟩ := hX
  have hcode := hok.1
  have hG : GoodIn tb (mW M2) := tb_good (fun w hw => (List.mem_cons.mp hw).elim (fun e => e ▸ hcode) (fun hw => hw))
  rw [ps_map]
  exact va_runS (As := as.map (rv b)) (rest := rest.map (rv b)) (Ts := tb) (own := (mY M).cls) ⟨hx, hb, hml, hown, hts⟩ hM ⟨callB_of n hts hG rfl rfl rfl (hts _ hok.2.2.2.2.2) (hts _ lk.1) ⟨hok.2.2.1, hok.2.2.2.1, hok.2.2.2.2.1⟩ (by rw [hR]; exact ⟨hfr, hlo⟩), hts _ lk.2⟩ ⟨PcE.blind, fun U hU hW => ⟨rfl, by rw [hU]; exact hsz, by rw [hU]; exact hP, hK.warm hW⟩⟩ rfl (by rw [List.length_map]; exact hn) (hl.1.trans hLl) rfl (lv_room (by rw [rv_cats]; exact hrest)) d (by rw [hR]; exact ⟨hc1, hs1⟩)
theorem e_callN {as rest : List Value} {Q2 : Option Value → List AC → Prop} (hX : Cx M X) (d : decode (mB M) pc = .ok (.invokestatic 48, 3)) (hM6 : (mY M).cls = RX6) (hE : Em mX10_sideOf as h Q2) (hn : as.length = 1) (hfr : mF mX10_sideOf + 1 ≤ mF M) (hlo : 8 + (mL mX10_sideOf + 11) + mO mX10_sideOf ≤ mO M) (hc1 : cells + mC mX10_sideOf ≤ mC M) (hs1 : slots + mS mX10_sideOf ≤ mS M) (hrest : (rest.map fun v => v.category).sum ≤ 8) (hLl : L.length = mL M)
    (k : ∀ r h', Q2 r h' → Ew M X Z (pc + 3) L (r.toList ++ rest) h' (cells + mC mX10_sideOf) (slots + mS mX10_sideOf)) : Ew M X Z pc L (ps as rest) h cells slots := by
  refine e_run hX hE (fun p l e R s m args below meth c dC dI dA b eX H locs ls hl hP hsz hM => ?_) k
  subst eX
  obtain ⟨hx, hb, hr, hml, hown, hts, hlk, hnm, hR, hK, hbs⟩ := hX
  have hok := mk_X10_sideOf
  have hcode := hok.1
  have hG : GoodIn tb (mW mX10_sideOf) := tb_good (fun w hw => (List.mem_cons.mp hw).elim (fun e => e ▸ hcode) (fun hw => hw))
  rw [ps_map]
  rw [hM6] at hown
  exact va_runSN (As := as.map (rv b)) (rest := rest.map (rv b)) (Ts := tb) (own := RX6) (host := "CohereBench") ⟨hx, hb, hml, hown, hts⟩ hM ⟨va_cnB 1 hts hG rfl rfl rfl hK.2 (hts _ hok.2.2.2.2.2) ⟨hok.2.2.1, hok.2.2.2.1, hok.2.2.2.2.1⟩ (by rw [hR]; exact ⟨hfr, hlo⟩), hts _ so_stat, trivial⟩ ⟨PcE.blind, fun U hU hW => ⟨rfl, by rw [hU]; exact hsz, by rw [hU]; exact hP, hK.warm hW⟩⟩ rfl (by rw [List.length_map]; exact hn) (hl.1.trans hLl) rfl (lv_room (by rw [rv_cats]; exact hrest)) d (by rw [hR]; exact ⟨hc1, hs1⟩)
theorem e_callI {M2 : MI} {as rest : List Value} {Q2 : Option Value → List AC → Prop} {idx n o0 : Nat} (hX : Cx M X) (d : decode (mB M) pc = .ok (.invokespecial idx, 3)) (hok : MkOk M2 n) (hrn : mR M2 = none) (lk : LkI (mY M).cls idx M2) (hE : Em M2 (.ref o0 :: as) h Q2) (hn : as.length = n) (hfr : mF M2 + 1 ≤ mF M) (hlo : 8 + (mL M2 + 11) + mO M2 ≤ mO M) (hc1 : cells + mC M2 ≤ mC M) (hs1 : slots + mS M2 ≤ mS M) (hrest : (rest.map fun v => v.category).sum ≤ 8) (hLl : L.length = mL M)
    (k : ∀ r h', Q2 r h' → Ew M X Z (pc + 3) L (r.toList ++ rest) h' (cells + mC M2) (slots + mS M2)) : Ew M X Z pc L (ps as (.ref o0 :: rest)) h cells slots := by
  refine e_run hX hE (fun p l e R s m args below meth c dC dI dA b eX H locs ls hl hP hsz hM => ?_) k
  subst eX
  obtain ⟨hx, hb, hr, hml, hown, hts, hlk, hnm, hR, hK, hbs⟩ := hX
  have hcode := hok.1
  have hG : GoodIn tb (mW M2) := tb_good (fun w hw => (List.mem_cons.mp hw).elim (fun e => e ▸ hcode) (fun hw => hw))
  rw [ps_map]
  exact va_runI (As := as.map (rv b)) (b := b + o0) (rest := rest.map (rv b)) (Ts := tb) (own := (mY M).cls) ⟨hx, hb, hml, hown, hts⟩ hM (cwI n hts hG (by unfold mW; rw [hrn]) rfl rfl (hts _ hok.2.2.2.2.2) (hts _ lk.1) (hts _ lk.2.1) lk.2.2 ⟨hok.2.2.1, hok.2.2.2.1, hok.2.2.2.2.1⟩ (by rw [hR]; exact ⟨hfr, hlo⟩)) ⟨PcE.blind, fun U hU hW => ⟨rfl, by rw [hU]; exact hsz, by rw [hU]; exact hP, hK.warm hW⟩⟩ rfl (by rw [List.length_map]; exact hn) (hl.1.trans hLl) (by simp [rv]) (lv_room (by rw [rv_cats]; exact hrest)) d (by rw [hR]; exact ⟨hc1, hs1⟩)
theorem e_objInit {idx o0 : Nat} (hX : Cx M X) (d : decode (mB M) pc = .ok (.invokespecial idx, 3)) (lk : Cond.methodLink (mY M).cls idx objectInit ∈ tb) (hfr : 1 ≤ mF M) (hlo : (st.map fun v => v.category).sum + 12 ≤ mO M) (hLl : L.length = mL M) (k : Ew M X Z (pc + 3) L st h cells slots) : Ew M X Z pc L (.ref o0 :: st) h cells slots := by
  obtain ⟨p, l, e, R, s, m, args, below, meth, c, dC, dI, dA, b⟩ := X
  obtain ⟨hx, hb, hr, hml, hown, hts, hlk, hnm, hR, hK, hbs⟩ := hX
  intro H locs ls hl hP hS hz
  exact W.objInit hx hb hown (hts _ lk) (hts _ oi_inst) (hts _ oi_code) rfl (by rw [hml]; exact hl.1.trans hLl) rfl d (by rw [hR]; exact hfr) (by rw [hR]; show 2 * 0 + _ + 12 ≤ mO M; have := rv_cats b st; omega) (k H locs ls hl hP hS hz)
end EL
