/-! ===== the law, from its entry ===== -/
theorem kn_of {s : State} {A : Array Value} {ci : Nat} {C : String} {T : u_T} {N : Nat} {tf : Nat → FieldType} (hts : ∀ w ∈ tb, w.before A s = true) (h : CiOk ci C T N tf) : ∃ (cC : ClassId) (iS : Nat → Nat), ∀ q : vw_C, vwCl[ci]? = some q → u_Kn s q.1 q.2.1 q.2.2 cC iS := by
  obtain ⟨cC, iS, hk⟩ := u_known hts h.2.1 (hts _ h.2.2.2.2.1)
  refine ⟨cC, iS, fun q hq => ?_⟩
  have e := Option.some.inj (hq.symm.trans h.1)
  subst e
  exact hk
theorem ar_of {s : State} {A : Array Value} {ty : FieldType} (h : (Cond.arrayClass ty).before A s = true) : ∃ cA : ClassId, ArrOfT s cA ty ∧ s.vm.findClass ("[" ++ ty.toString) = some cA := by
  obtain ⟨cA, kA, comp, h1, h2, h3⟩ := Cond.arrayClass_spec h
  exact ⟨cA, fun n z => ⟨fun k h => (by cases h), kA, h2, comp, h3⟩, h1⟩
theorem start_K {s : State} {A : Array Value} (hts0 : ∀ w ∈ lw_tbl, w.before A s = true) : ∃ (dC : Nat → ClassId) (dI : Nat → Nat → Nat) (dA : Nat → ClassId), Kx dC dI dA s := by
  have hts := lw_hts hts0
  obtain ⟨a0, r0, f0⟩ := ar_of (hts _ ar_0)
  obtain ⟨a1, r1, f1⟩ := ar_of (hts _ ar_1)
  obtain ⟨a2, r2, f2⟩ := ar_of (hts _ ar_2)
  have hk : ∀ k : Nat, ∃ (cC : ClassId) (iS : Nat → Nat), ∀ q : vw_C, vwCl[k]? = some q → u_Kn s q.1 q.2.1 q.2.2 cC iS := fun k => match k with
    | 0 => kn_of hts ci_0
    | 1 => kn_of hts ci_1
    | 2 => kn_of hts ci_2
    | 3 => kn_of hts ci_3
    | 4 => kn_of hts ci_4
    | 5 => kn_of hts ci_5
    | 6 => kn_of hts ci_6
    | 7 => kn_of hts ci_7
    | 8 => kn_of hts ci_8
    | 9 => kn_of hts ci_9
    | 10 => kn_of hts ci_10
    | k + 11 => ⟨a0, fun _ => 0, fun q hq => by cases hq⟩
  refine ⟨fun k => Classical.choose (hk k), fun k => Classical.choose (Classical.choose_spec (hk k)), fun k => if k = 0 then a0 else if k = 1 then a1 else a2, ⟨fun k q hq => Classical.choose_spec (Classical.choose_spec (hk k)) q hq, fun k q hq => ?_⟩, va_Nw.of rfl (hts0 _ (List.mem_of_getElem? (i := 387) (show lw_tbl[387]? = some (.methodLinkNest RX6 48 yX10_sideOf "CohereBench") by decide +kernel)))⟩
  match k, hq with
  | 0, hq => cases hq; exact ⟨r0, f0⟩
  | 1, hq => cases hq; exact ⟨r1, f1⟩
  | 2, hq => cases hq; exact ⟨r2, f2⟩
  | k + 3, hq => cases hq
set_option maxRecDepth 100000 in
set_option maxHeartbeats 4000000 in
theorem whole_start {p : Program} {e : Env} {s : State} {m : MethodId} {below : List Frame} {meth : Method} {c : Code} (l : Launch) {b L : Nat} {xs : Nat → Int32} (hL : L ≤ 2048) (C0 : lw_At p s m meth c b L xs) : W p l e room_1 s m #[Value.ref b] below meth c s.heap [] 0 0 (lw_Z below #[Value.ref b] s) (entryFrame m ([Value.ref b] : List Value).toArray 4) := by
  obtain ⟨dC, dI, dA, hK⟩ := start_K C0.2.2.2.2.2.1
  have C : Lc (p, l, e, s, m, below, meth, c, b, L, xs, dC, dI, dA) := ⟨C0, hK, hL⟩
  have G : Lg (p, l, e, s, m, below, meth, c, b, L, xs, dC, dI, dA) [(0, .ref b)] 0 [] [] 0 0 := by
    refine g_new (fs := [.null, .null, .null, .null, .null, .null, .int 0]) C dL_law_0 ci_9 (tb_at 55 (by decide +kernel) rfl) df_X10 (fun _ => rfl) (Nat.le_of_ble_eq_true rfl) (Nat.le_of_ble_eq_true rfl) ?_
    refine g_dup C dL_law_3 rfl ?_
    refine g_callI (as := []) (o0 := 0) (rest := [.ref 0]) C dL_law_4 mk_X10_init rfl lk_L_9 (n_X10_init rfl rfl) rfl (Nat.le_of_ble_eq_true rfl) (Nat.le_of_ble_eq_true rfl) (Nat.le_of_ble_eq_true rfl) (Nat.le_of_ble_eq_true rfl) (Nat.le_of_ble_eq_true rfl) (fun r h1 hq => ?_)
    obtain ⟨rfl, σ, hs, hC, hA⟩ := hq
    refine g_astore (x := 0) (lv2 := [(1, .ref (s.heap.size + 0)), (0, .ref b)]) C dL_law_7 rfl (by decide) rfl ?_
    refine g_new (fs := [.int 0, .null, .null, .null, .null, .null, .null, .null, .null, .int 0, .int 0, .int 0, .null, .null, .null, .null, .int 0, .null, .null, .null, .null, .null, .null, .null, .null, .int 0, .int 0, .int 0, .null, .null, .null, .int 0, .int 0, .int 0, .int 0]) C dL_law_8 ci_10 (tb_at 882 (by decide +kernel) rfl) df_X11 (fun _ => rfl) (Nat.le_of_ble_eq_true rfl) (Nat.le_of_ble_eq_true rfl) ?_
    rw [hs.1]
    refine g_dup C dL_law_11 rfl ?_
    refine g_callI (as := []) (o0 := 53) (rest := [.ref 53]) C dL_law_12 mk_X11_init rfl lk_L_12 (n_X11_init (σ := σ) (by rw [List.length_append, hs.1]; rfl) (by rw [List.getElem?_append_right (by rw [hs.1]; decide), hs.1]; rfl) (fun a ha => by rw [List.getElem?_append_left (by rw [hs.1]; exact ha)]; exact hs.2 a ha)) rfl (Nat.le_of_ble_eq_true rfl) (Nat.le_of_ble_eq_true rfl) (Nat.le_of_ble_eq_true rfl) (Nat.le_of_ble_eq_true rfl) (Nat.le_of_ble_eq_true rfl) (fun r h2 hq => ?_)
    obtain ⟨rfl, σ2, hs2, hlo, hM, hW⟩ := hq
    refine g_astore (x := 53) (lv2 := [(2, .ref (s.heap.size + 53)), (1, .ref (s.heap.size + 0)), (0, .ref b)]) C dL_law_15 rfl (by decide) rfl ?_
    refine g_iconst (v := nI 0) C dL_law_16 (by decide) ?_
    refine g_istore (lv2 := [(3, .int (nI 0)), (2, .ref (s.heap.size + 53)), (1, .ref (s.heap.size + 0)), (0, .ref b)]) C dL_law_17 rfl (by decide) rfl ?_
    exact law_loop C 512 0 (by show L + 4 ≤ _; omega) (by decide) σ2 pr0 v0 true pr0 wk0 ⟨⟨pr0_ok, VOk_v0 (by decide), Srt_v0 pr0, ⟨pr0_ok, Or.inl rfl⟩, fun _ => rfl⟩, ⟨hC.lo hlo, hA.lo hlo⟩, hM, hW⟩ _ hs2
  have hl := lv_entry ([.ref b]) (n := 4) (Nat.le_of_ble_eq_true rfl)
  rw [lg_entry_eq]
  exact G s.heap [] _ hl (fun k q h => by simp [rz] at h) va_S.rf rfl
