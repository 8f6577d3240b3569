/-! THE CLAIM OUT OF ONE WALK OF THE LAW'S BODY. Your part is whole_start (and what it stands on); all else here is the same for every law, but numbers. -/
def R_law : String := "CohereBenchLaw"
def lw_P (b : Addr) (xs : List Int32) (args : Array Value) (s : State) : Prop := args = #[.ref b] ∧ s.IntsAt b xs ∧ xs.length ≤ 2048 ∧ (Jvm.Cond.and given_1 narrow_1).before args s = true
def lw_Q (_ : Array Value) (s : State) (o : Outcome) (t : State) : Prop := o = .returned (some (.int 1)) ∧ Framed s o t [] 600000 7302250
def lw_Z (below : List Frame) (a : Array Value) (s : State) : State → Prop := fun t => ∃ o, t.status = .running ∧ Ended t below o ∧ lw_Q a s o t
/-- the law's own end, with 1 on the stack, nothing written that was there before, its room as the claim has it -/
theorem lw_ret {p : Program} {l : Launch} {e : Env} {s : State} {m : MethodId} {below : List Frame} {meth : Method} {c : Code} {b : Nat} (hx : p.tables.exec = Jvm.exec) (hb : c.code = code) (hr : meth.sig.returnType = ret) (hlocks : meth.locks = false) {pc : Nat} {H : Heap} {ls : Array Slot} (hdg : decode code pc = .ok (.ireturn, 1)) : W p l e room_1 s m #[Value.ref b] below meth c H [] 600000 7302250 (lw_Z below #[Value.ref b] s) (F0 m pc ls [.int 1]) := by
  intro T hT X
  obtain ⟨fs, hret, hrun, hended, hW, hframe⟩ := X.leave (v := some (.int 1)) (hlocks := hlocks) (fun h => by rw [hr] at h; cases h)
  have hmeth' : T.vm.method? m = some meth := X.method'
  refine ⟨T.setFrames fs, ?_, .returned (some (.int 1)), hrun, hended, rfl, ⟨_, rfl⟩, hW, hframe⟩
  jvm_step X.here [X.here.top, hx, hb, hdg, hmeth', hr, ret, narrow_b1]
  (try refine ⟨rfl, ?_⟩); (try refine ⟨rfl, ?_⟩)
  first | (intro acts; rw [hret _ acts rfl rfl rfl]) | rw [hret _ _ rfl rfl rfl]
  exact Steps.refl _
/-- what holds at the law's entry: the machine, the code, the tables' words (any of lw_tbl by 'hts w (by decide +kernel)'), the script of L ints xs at the cell b, what the Statement gives of the start (any of its parts by flat_of_before) -/
def lw_At (p : Program) (s : State) (m : MethodId) (meth : Method) (c : Code) (b L : Nat) (xs : Nat → Int32) : Prop :=
  p.tables.exec = Jvm.exec ∧ c.code = code ∧ meth.sig.returnType = ret ∧ c.maxLocals = 4 ∧ s.vm.findClass R_law = some m.cls ∧ (∀ w ∈ lw_tbl, w.before #[Value.ref b] s = true) ∧ va_X b L xs s s.heap ∧ b < s.heap.size ∧ meth.locks = false ∧ (Jvm.Cond.and given_1 narrow_1).before #[Value.ref b] s = true
/-! ===== the law's own frame ===== -/
abbrev LX : Type := Program × Launch × Env × State × MethodId × List Frame × Method × Code × Nat × Nat × (Nat → Int32) × (Nat → ClassId) × (Nat → Nat → Nat) × (Nat → ClassId)
abbrev lxB (X : LX) : Nat := X.2.2.2.1.heap.size
abbrev lxR (X : LX) : Nat := X.2.2.2.2.2.2.2.2.1
abbrev lxN (X : LX) : Nat := X.2.2.2.2.2.2.2.2.2.1
abbrev lxS (X : LX) : Nat → Int32 := X.2.2.2.2.2.2.2.2.2.2.1
def Lc (X : LX) : Prop := match X with
  | (p, _, _, s, m, _, meth, c, scr, n0, xs, dC, dI, dA) => lw_At p s m meth c scr n0 xs ∧ Kx dC dI dA s ∧ n0 ≤ 2048
def Lg (X : LX) (lv : List (Nat × Value)) (pc : Nat) (st : List Value) (h : List AC) (cells slots : Nat) : Prop := match X with
  | (p, l, e, s, m, below, meth, c, scr, _, _, dC, dI, dA) => ∀ (H : Heap) (locs : List Loc) (ls : Array Slot), lv_has ls 4 lv → va_P (dC, dI) vwCl (rz s.heap.size dA h) H → va_S (fun q => s.heap.size ≤ q) s.heap H locs → s.heap.size + h.length = s.heap.size + cells → W p l e room_1 s m #[Value.ref scr] below meth c H locs cells slots (lw_Z below #[Value.ref scr] s) (F0 m pc ls (st.map (rv s.heap.size)))
section LG
variable {X : LX} {lv : List (Nat × Value)} {pc : Nat} {st : List Value} {h : List AC} {cells slots : Nat}
theorem lw_hts {s : State} {A : Array Value} (hts : ∀ w ∈ lw_tbl, w.before A s = true) : ∀ w ∈ tb, w.before A s = true := fun w hw => hts w (List.mem_filter.mp hw).1
theorem g_run {M2 : MI} {args2 : List Value} {Q2 : Option Value → List AC → Prop} (C : Lc X) (hE : Em M2 args2 h Q2)
    {rest : List Value} (hrun : ∀ (p : Program) (l : Launch) (e : Env) (s : State) (m : MethodId) (below : List Frame) (meth : Method) (c : Code) (scr n0 : Nat) (xs : Nat → Int32) (dC : Nat → ClassId) (dI : Nat → Nat → Nat) (dA : Nat → ClassId), X = (p, l, e, s, m, below, meth, c, scr, n0, xs, dC, dI, dA) → ∀ (H : Heap) (locs : List Loc) (ls : Array Slot), lv_has ls 4 lv → va_P (dC, dI) vwCl (rz s.heap.size dA h) H → H.size = s.heap.size + h.length → Met l (mY M2) (mW M2) (mRm M2) (PcE s.heap.size dC dI dA args2 h) (QcE s.heap.size dC dI dA (fun r h' => Q2 r h' ∧ h'.length = h.length + mC M2)) (mC M2) (mS M2) (fun q => s.heap.size ≤ q) →
      va_Run p l e room_1 s m #[Value.ref scr] below meth c H locs cells slots (mC M2) (mS M2) (F0 m pc ls (st.map (rv s.heap.size))) (rest.map (rv s.heap.size)) (QcE s.heap.size dC dI dA (fun r h' => Q2 r h' ∧ h'.length = h.length + mC M2) (args2.map (rv s.heap.size)).toArray) (fun q => s.heap.size ≤ q))
    (k : ∀ r h', Q2 r h' → Lg X lv (pc + 3) (r.toList ++ rest) h' (cells + mC M2) (slots + mS M2)) : Lg X lv pc st h cells slots := by
  obtain ⟨p, l, e, s, m, below, meth, c, scr, n0, xs, dC, dI, dA⟩ := X
  obtain ⟨⟨hx, hb, hr, hml, hown, hts, hX, hbl, hlocks, hgv⟩, hK, hn0⟩ := C
  intro H locs ls hl hP hS hz
  intro T hT X0
  have hsz := sz_of X0 hT hP (Nat.le_refl _) hz
  obtain ⟨v, st₀, t, T', L', h0, X', hL', e1, e2, ⟨⟨r, h', hv, ⟨hq, hlen⟩, hPt⟩, hzz, hk⟩, go⟩ := hrun p l e s m below meth c scr n0 xs dC dI dA rfl H locs ls hl hP hsz (hE l dC dI dA s.heap.size) T hT X0
  have hv' : v = r.map (rv s.heap.size) := by cases hv; rfl
  subst hv'
  rw [h0] at hzz hk
  have hfin := k r h' hq T'.heap (locs ++ L') ls hl (by rw [e1]; exact hPt) ⟨Nat.le_trans hS.1 (by rw [e1]; exact hzz), fun q h1 h2 => by rw [e1, hk q (Nat.lt_of_lt_of_le h1 hS.1) h2]; exact hS.2.1 q h1 h2, fun q hq => by
      rcases List.mem_append.mp hq with h1 | h1
      · exact hS.2.2 q h1
      · exact hL' q h1⟩ (by rw [hlen]; omega) T' rfl X'
  obtain ⟨t2, a1, b1⟩ := hfin
  refine ⟨t2, go t2 ?_, b1⟩
  have e3 : ((r.toList ++ rest).map (rv s.heap.size)) = (r.map (rv s.heap.size)).toList ++ rest.map (rv s.heap.size) := by cases r <;> simp
  rw [e3] at a1
  exact a1
theorem g_callV {M2 : MI} {as rest : List Value} {Q2 : Option Value → List AC → Prop} {idx n ci o0 : Nat} {fs : List Value} {C2 : String} {T2 : u_T} {N2 : Nat} (C : Lc X) (d : decode code pc = .ok (.invokevirtual idx, 3)) (hok : MkOk M2 n) (lk : LkV RL idx M2) (hE : Em M2 (.ref o0 :: as) h Q2) (ho : h[o0]? = some (.inr (ci, fs))) (hcl : vwCl[ci]? = some (C2, T2, N2)) (hC2 : C2 = (mY M2).cls) (hn : as.length = n) (hfr : mF M2 + 1 ≤ 10) (hlo : 8 + (mL M2 + 11) + mO M2 ≤ 384) (hc1 : cells + mC M2 ≤ 600000) (hs1 : slots + mS M2 ≤ 7302250) (hrest : (rest.map fun v => v.category).sum ≤ 8)
    (k : ∀ r h', Q2 r h' → Lg X lv (pc + 3) (r.toList ++ rest) h' (cells + mC M2) (slots + mS M2)) : Lg X lv pc (ps as (.ref o0 :: rest)) h cells slots := by
  refine g_run C hE (fun p l e s m below meth c scr n0 xs dC dI dA eX H locs ls hl hP hsz hM => ?_) k
  subst eX
  obtain ⟨⟨hx, hb, hr, hml, hown, hts0, hX, hbl, hlocks, hgv⟩, hK, hn0⟩ := C
  have hts := lw_hts hts0
  have hcode := hok.1
  have hG : GoodIn tb (mW M2) := tb_good (fun w hw => (List.mem_cons.mp hw).elim (fun e => e ▸ hcode) (fun hw => hw))
  have hT : GoodIn tb (wsV RL idx C2 (mY M2) (mW M2)) := by
    intro w hw
    rcases List.mem_append.mp hw with hw | hw
    · refine tb_good (ws := [.methodLink RL idx (mY M2), .instanceMethod (mY M2), .selects C2 (mY M2) (mY M2), .initialized C2]) ?_ w hw
      intro w hw
      simp only [List.mem_cons, List.not_mem_nil, or_false] at hw
      rcases hw with rfl | rfl | rfl | rfl
      · exact lk.1
      · exact lk.2.1
      · rw [hC2]; exact lk.2.2
      · rw [hC2]; exact hok.2.2.2.2.2
    · exact hG w hw
  rw [ps_map]
  exact va_runV (As := as.map (rv s.heap.size)) (b := s.heap.size + o0) (rest := rest.map (rv s.heap.size)) (Ts := tb) (own := RL) (C := C2) ⟨hx, hb, hml, hown, hts⟩ hM (cwV n hts hT rfl rfl rfl ⟨hC2.symm, hok.2.2.1, hok.2.2.2.1, hok.2.2.2.2.1⟩ ⟨hfr, hlo⟩) ⟨PcE.blind, va_recv hK.1 hP hcl (rz_at ho), fun U hU hW => ⟨rfl, by rw [hU]; exact hsz, by rw [hU]; exact hP, hK.warm hW⟩⟩ rfl (by rw [List.length_map]; exact hn) hl.1 (by simp [rv]) (lv_room (by rw [rv_cats]; exact hrest)) d ⟨hc1, hs1⟩
theorem g_callI {M2 : MI} {as rest : List Value} {Q2 : Option Value → List AC → Prop} {idx n o0 : Nat} (C : Lc X) (d : decode code pc = .ok (.invokespecial idx, 3)) (hok : MkOk M2 n) (hrn : mR M2 = none) (lk : LkI RL idx M2) (hE : Em M2 (.ref o0 :: as) h Q2) (hn : as.length = n) (hfr : mF M2 + 1 ≤ 10) (hlo : 8 + (mL M2 + 11) + mO M2 ≤ 384) (hc1 : cells + mC M2 ≤ 600000) (hs1 : slots + mS M2 ≤ 7302250) (hrest : (rest.map fun v => v.category).sum ≤ 8)
    (k : ∀ r h', Q2 r h' → Lg X lv (pc + 3) (r.toList ++ rest) h' (cells + mC M2) (slots + mS M2)) : Lg X lv pc (ps as (.ref o0 :: rest)) h cells slots := by
  refine g_run C hE (fun p l e s m below meth c scr n0 xs dC dI dA eX H locs ls hl hP hsz hM => ?_) k
  subst eX
  obtain ⟨⟨hx, hb, hr, hml, hown, hts0, hX, hbl, hlocks, hgv⟩, hK, hn0⟩ := C
  have hts := lw_hts hts0
  have hcode := hok.1
  have hG : GoodIn tb (mW M2) := tb_good (fun w hw => (List.mem_cons.mp hw).elim (fun e => e ▸ hcode) (fun hw => hw))
  rw [ps_map]
  exact va_runI (As := as.map (rv s.heap.size)) (b := s.heap.size + o0) (rest := rest.map (rv s.heap.size)) (Ts := tb) (own := RL) ⟨hx, hb, hml, hown, hts⟩ hM (cwI n hts hG (by unfold mW; rw [hrn]) rfl rfl (hts _ hok.2.2.2.2.2) (hts _ lk.1) (hts _ lk.2.1) lk.2.2 ⟨hok.2.2.1, hok.2.2.2.1, hok.2.2.2.2.1⟩ ⟨hfr, hlo⟩) ⟨PcE.blind, fun U hU hW => ⟨rfl, by rw [hU]; exact hsz, by rw [hU]; exact hP, hK.warm hW⟩⟩ rfl (by rw [List.length_map]; exact hn) hl.1 (by simp [rv]) (lv_room (by rw [rv_cats]; exact hrest)) d ⟨hc1, hs1⟩
theorem g_new {idx ci N : Nat} {C0 : String} {T : u_T} {tf : Nat → FieldType} {fs : List Value} (C : Lc X) (d : decode code pc = .ok (.new idx, 3)) (hci : CiOk ci C0 T N tf) (lk : Cond.classLink RL idx C0 ∈ tb) (hfs : ∀ j, j < N → defaultValue (tf j) = vp_V fs j) (hrf : ∀ b : Nat, fs.map (rv b) = fs) (hc1 : cells + 1 ≤ 600000) (hs1 : slots + N ≤ 7302250) (k : Lg X lv (pc + 3) (.ref h.length :: st) (h ++ [.inr (ci, fs)]) (cells + 1) (slots + N)) : Lg X lv pc st h cells slots := by
  obtain ⟨p, l, e, s, m, below, meth, c, scr, n0, xs, dC, dI, dA⟩ := X
  obtain ⟨⟨hx, hb, hr, hml, hown, hts0, hX, hbl, hlocks, hgv⟩, hK, hn0⟩ := C
  have hts := lw_hts hts0
  intro H locs ls hl hP hS hz
  intro T0 hT0 X0
  have hsz := sz_of X0 hT0 hP (Nat.le_refl _) hz
  have key : W p l e room_1 s m #[Value.ref scr] below meth c H locs cells slots (lw_Z below #[Value.ref scr] s) (F0 m pc ls (st.map (rv s.heap.size))) := by
    have hKn := hK.1.1 ci _ hci.1
    refine W.newcK hx hb hown (hts _ lk) (hts _ hci.2.2.2.2.1) (hts _ hci.2.2.2.2.2) rfl d hc1 hs1 hKn.2.1 hsz fun H1 kC hkC e1 z1 o1 => ?_
    have hk : ∀ (k : Nat) (x : Nat × va_E), (rz s.heap.size dA h)[k]? = some x → H1[x.1]? = H[x.1]? := fun k x hx0 => o1 x.1 (by have := (hP k x hx0).lt; omega)
    refine k H1 locs ls hl ?_ ⟨by have := hS.1; omega, fun x h1 h2 => (o1 x (by have := hS.1; omega)).trans (hS.2.1 x h1 h2), hS.2.2⟩ (by rw [List.length_append, List.length_singleton]; omega)
    rw [← rz_push]
    refine (hP.kept hk).app (fun k x hx0 => ?_)
    have hz0 : k < 1 := (List.getElem?_eq_some_iff.mp hx0).1
    rw [show k = 0 by omega] at hx0
    cases hx0
    refine ⟨_, hci.1, ?_⟩
    show t_OB _ _ _ _ _ (vp_V (fs.map (rv s.heap.size)))
    rw [hrf s.heap.size]
    exact (u_born tf hts hci.2.1 hKn hkC e1 hci.2.2.1).to hfs
  exact key T0 hT0 X0
theorem g_dup {v : Value} (C : Lc X) (d : decode code pc = .ok (.dup, 1)) (hv : v.category = 1) (k : Lg X lv (pc + 1) (v :: v :: st) h cells slots) : Lg X lv pc (v :: st) h cells slots := by
  obtain ⟨p, l, e, s, m, below, meth, c, scr, n0, xs, dC, dI, dA⟩ := X
  obtain ⟨⟨hx, hb, hr, hml, hown, hts, hX, hbl, hlocks, hgv⟩, hK, hn0⟩ := C
  intro H locs ls hl hP hS hz
  exact lv_dup hx hb d (by rw [rv_cat]; exact hv) (k H locs ls hl hP hS hz)
theorem g_iconst {n : Int} {v : Int32} (C : Lc X) (d : decode code pc = .ok (.iconst n, 1)) (hv : Int32.ofInt n = v) (k : Lg X lv (pc + 1) (.int v :: st) h cells slots) : Lg X lv pc st h cells slots := by
  obtain ⟨p, l, e, s, m, below, meth, c, scr, n0, xs, dC, dI, dA⟩ := X
  obtain ⟨⟨hx, hb, hr, hml, hown, hts, hX, hbl, hlocks, hgv⟩, hK, hn0⟩ := C
  intro H locs ls hl hP hS hz
  exact lv_iconst hx hb d hv (k H locs ls hl hP hS hz)
theorem g_astore {k0 : Fin 4} {x i : Nat} {lv2 : List (Nat × Value)} (C : Lc X) (d : decode code pc = .ok (.astore_n k0, 1)) (hi : (k0 : Nat) = i) (hn : i < 4) (hl2 : (i, Value.ref (lxB X + x)) :: lv.filter (fun q => !(q.1 == i) && !(q.1 + 1 == i && q.2.category == 2)) = lv2) (k : Lg X lv2 (pc + 1) st h cells slots) : Lg X lv pc (.ref x :: st) h cells slots := by
  obtain ⟨p, l, e, s, m, below, meth, c, scr, n0, xs, dC, dI, dA⟩ := X
  obtain ⟨⟨hx, hb, hr, hml, hown, hts, hX, hbl, hlocks, hgv⟩, hK, hn0⟩ := C
  intro H locs ls hl hP hS hz
  exact lv_astore_n hx hb d hi hl hn hl2 (fun ls2 h2 => k H locs ls2 h2 hP hS hz)
theorem g_istore {k0 : Fin 4} {x : Int32} {i : Nat} {lv2 : List (Nat × Value)} (C : Lc X) (d : decode code pc = .ok (.istore_n k0, 1)) (hi : (k0 : Nat) = i) (hn : i < 4) (hl2 : (i, Value.int x) :: lv.filter (fun q => !(q.1 == i) && !(q.1 + 1 == i && q.2.category == 2)) = lv2) (k : Lg X lv2 (pc + 1) st h cells slots) : Lg X lv pc (.int x :: st) h cells slots := by
  obtain ⟨p, l, e, s, m, below, meth, c, scr, n0, xs, dC, dI, dA⟩ := X
  obtain ⟨⟨hx, hb, hr, hml, hown, hts, hX, hbl, hlocks, hgv⟩, hK, hn0⟩ := C
  intro H locs ls hl hP hS hz
  exact lv_istore_n hx hb d hi hl hn hl2 (fun ls2 h2 => k H locs ls2 h2 hP hS hz)
theorem g_sub {lv2 : List (Nat × Value)} (ks : List Nat) (he : lv_pick lv ks = lv2) (k : Lg X lv2 pc st h cells slots) : Lg X lv pc st h cells slots := by
  obtain ⟨p, l, e, s, m, below, meth, c, scr, n0, xs, dC, dI, dA⟩ := X
  intro H locs ls hl hP hS hz
  exact k H locs ls (lv_sub hl ks he) hP hS hz
end LG
/-! at the loop: the two objects stand, the place of the script is i -/
def Ls (X : LX) (i pc : Nat) (st : List Value) (σ : Sg) : Prop := ∀ h, St 77 σ h → Lg X [(3, .int (nI i)), (2, .ref (lxB X + 53)), (1, .ref (lxB X + 0)), (0, .ref (lxR X))] pc st h 77 488774
section LS
variable {X : LX} {i pc : Nat} {st : List Value} {σ : Sg}
theorem l_x (C : Lc X) (d : decode code pc = .ok (.aload_n 1, 1)) (k : Ls X i (pc + 1) (.ref 0 :: st) σ) : Ls X i pc st σ := by
  obtain ⟨p, l, e, s, m, below, meth, c, scr, n0, xs, dC, dI, dA⟩ := X
  obtain ⟨⟨hx, hb, hr, hml, hown, hts, hX, hbl, hlocks, hgv⟩, hK, hn0⟩ := C
  intro h hs H locs ls hl hP hS hz
  exact lv_aload_n hx hb d rfl (lv_at hl 2 rfl) (k h hs H locs ls hl hP hS hz)
theorem l_m (C : Lc X) (d : decode code pc = .ok (.aload_n 2, 1)) (k : Ls X i (pc + 1) (.ref 53 :: st) σ) : Ls X i pc st σ := by
  obtain ⟨p, l, e, s, m, below, meth, c, scr, n0, xs, dC, dI, dA⟩ := X
  obtain ⟨⟨hx, hb, hr, hml, hown, hts, hX, hbl, hlocks, hgv⟩, hK, hn0⟩ := C
  intro h hs H locs ls hl hP hS hz
  exact lv_aload_n hx hb d rfl (lv_at hl 1 rfl) (k h hs H locs ls hl hP hS hz)
theorem l_arg {a : Nat} {n : Int} (C : Lc X) (d0 : decode code pc = .ok (.aload_n 0, 1)) (d1 : decode code (pc + 1) = .ok (.iload_n 3, 1)) (d2 : decode code (pc + 2) = .ok (.iconst n, 1)) (d3 : decode code (pc + 3) = .ok (.iadd, 1)) (d4 : decode code (pc + 4) = .ok (.iaload, 1)) (hn : Int32.ofInt n = nI a) (hi : i + a < lxN X) (k : Ls X i (pc + 5) (.int (lxS X (i + a)) :: st) σ) : Ls X i pc st σ := by
  obtain ⟨p, l, e, s, m, below, meth, c, scr, n0, xs, dC, dI, dA⟩ := X
  obtain ⟨⟨hx, hb, hr, hml, hown, hts, hX, hbl, hlocks, hgv⟩, hK, hn0⟩ := C
  intro h hs H locs ls hl hP hS hz
  have hi2 : i + a < n0 := hi
  refine lv_aload_n hx hb d0 rfl (lv_at hl 3 rfl) ?_
  refine lv_iload_n hx hb d1 rfl (lv_at hl 0 rfl) ?_
  refine lv_iconst hx hb d2 hn ?_
  refine lv_iadd hx hb d3 ?_
  rw [nI_add]
  refine va_sld hx hb hX hbl (Nat.not_le.mpr hbl) hS (vp_in_nI hi2 (by omega)) d4 ?_
  rw [nI_clamp (by omega)]
  exact k h hs H locs ls hl hP hS hz
theorem l_call {M2 : MI} {as rest : List Value} {P : Int32 → Sg → Prop} {idx np ci o0 : Nat} {ks : List Kd} {C2 : String} {T2 : u_T} {N2 : Nat} (C : Lc X) (d : decode code pc = .ok (.invokevirtual idx, 3)) (hok : MkOk M2 np) (lk : LkV RL idx M2) (hE : Sm 77 M2 (.ref o0 :: as) σ (qi P)) (ho : sh o0 = .inl (ci, ks)) (ha : o0 < 77) (hcl : vwCl[ci]? = some (C2, T2, N2)) (hC2 : C2 = (mY M2).cls) (hn : as.length = np) (hm : mC M2 = 0 ∧ mS M2 = 0) (hfr : mF M2 + 1 ≤ 10) (hlo : 8 + (mL M2 + 11) + mO M2 ≤ 384) (hrest : (rest.map fun v => v.category).sum ≤ 8) (k : ∀ v σ2, P v σ2 → Ls X i (pc + 3) (.int v :: rest) σ2) : Ls X i pc (ps as (.ref o0 :: rest)) σ := by
  intro h hs
  refine g_callV C d hok lk (hE h hs) ((hs.2 o0 ha).trans (by rw [cel_obj ho])) hcl hC2 hn hfr hlo (by rw [hm.1]; decide) (by rw [hm.2]; decide) hrest (fun r h2 hq => ?_)
  obtain ⟨σ2, ⟨v, rfl, q⟩, s2⟩ := hq
  rw [hm.1, hm.2]
  exact k v σ2 q h2 s2
theorem l_eq {off : Int} {tgt : Nat} {x y : Int32} (C : Lc X) (d : decode code pc = .ok (.if_icmp .eq off, 3)) (ht : (pc : Int) + off = (tgt : Int)) (he : x = y) (k : Ls X i tgt st σ) : Ls X i pc (.int y :: .int x :: st) σ := by
  obtain ⟨p, l, e, s, m, below, meth, c, scr, n0, xs, dC, dI, dA⟩ := X
  obtain ⟨⟨hx, hb, hr, hml, hown, hts, hX, hbl, hlocks, hgv⟩, hK, hn0⟩ := C
  intro h hs H locs ls hl hP hS hz
  exact lv_icmp_eq hx hb d ht (fun _ => k h hs H locs ls hl hP hS hz) (fun q => absurd he q)
end LS
