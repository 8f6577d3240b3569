/-! ===== the two objects, new ===== -/
def pr0 : Pr := (2, fun _ => 0, fun _ => 0, fun _ => none, fun _ _ => 0)
def s0C : Sg := fun a => if a = 1 then (fun k => if k = 0 then nI 2 else 0, fun _ => 0) else if a = 4 then (filF (fun _ => 0) (-1) 2048, fun _ => 0) else (fun _ => 0, fun _ => 0)
theorem cnR_none2 (b : Nat) : ∀ k, cnR (fun _ => none) b k = 0
  | 0 => rfl
  | k + 1 => by
    unfold cnR
    rw [cnR_none2 b k]
    rfl
theorem mapIdx_is {f : Nat → Kd → Value} {ks : List Kd} {l : List Value} (h : ∀ i, (ks[i]?).map (f i) = l[i]?) : ks.mapIdx f = l := by
  apply List.ext_getElem?
  intro i
  rw [List.getElem?_mapIdx]
  exact h i
theorem e_getR {M : MI} {X : CT} {Z : State → Prop} {pc : Nat} {L : List (Option Value)} {st : List Value} {h : List AC} {cells slots n : Nat} {σ : Sg} {idx ci kk o0 r : Nat} {ty : FieldType} {fin : Bool} {ks : List Kd} (hX : Cx M X) (d : decode (mB M) pc = .ok (.getfield idx, 3)) (lk : Fl (mY M).cls idx ci kk ty fin) (hS : St n σ h) (ho : sh o0 = .inl (ci, ks)) (hq : ks[kk]? = some (some (some r))) (ha : o0 < n) (k : Ew M X Z (pc + 3) L (.ref r :: st) h cells slots) : Ew M X Z pc L (.ref o0 :: st) h cells slots := e_get hX d lk ((hS.2 o0 ha).trans (by rw [cel_obj ho])) (by rw [List.getElem?_mapIdx, hq]; rfl) k
theorem s0_PrC : PrC s0C pr0 := by
  refine ⟨rfl, fun _ _ => rfl, fun _ _ => rfl, fun a ha => ?_, fun a _ m hm => (by cases hm), fun _ _ => rfl, fun s hs => ?_⟩
  · show filF (fun _ => 0) (-1) 2048 a = -1
    unfold filF
    rw [if_pos ha]
  · show (0 : Int32) = nI (cnR (fun _ => none) (1024 * s) 1024)
    rw [cnR_none2]
    rfl
theorem s0_AtE : AtE pr0 s0C wk0 := by
  refine ⟨⟨rfl, fun m hm => absurd hm (Nat.not_lt_zero m), fun m _ hm => absurd hm (Nat.not_lt_zero m), fun _ => none, fun _ _ => rfl, fun k m _ hm => (by cases hm), cnR_none2 0 8192, fun m hm => absurd hm (Nat.not_lt_zero m)⟩, ⟨rfl, fun i t ht => (by cases ht)⟩, ⟨rfl, fun i x hx => (by cases hx)⟩, ⟨rfl, fun i x hx => (by cases hx)⟩, ⟨rfl, rfl, rfl⟩, fun m _ hm => absurd hm (Nat.not_lt_zero m), fun m hm => absurd hm (Nat.not_lt_zero m), fun _ _ => rfl⟩
theorem pr0_ok : PrOk pr0 := ⟨⟨by decide, by decide⟩, fun _ => Nat.zero_le _, fun _ => Nat.zero_le _, fun a n h => (by cases h), fun _ _ => Nat.zero_lt_succ _⟩
theorem hk_old {h : List AC} {o a : Nat} {c : AC} {cs : List AC} (ha : a < h.length) (hne : a ≠ o) : (h.set o c ++ cs)[a]? = h[a]? := by
  rw [List.getElem?_append_left (by rw [List.length_set]; exact ha), List.getElem?_set_ne (Ne.symm hne)]
def G10 : List AC := [.inr (5, [.int (nI 2), .ref 2, .ref 3, .ref 4, .ref 5, .ref 6, .ref 7, .ref 8]), .inl (0, 16, .inl (fun _ => 0)), .inl (0, 16, .inl (fun _ => 0)), .inl (0, 2048, .inl (filF (fun _ => 0) (-1) 2048)), .inl (0, 2048, .inl (fun _ => 0)), .inl (0, 2048, .inl (fun _ => 0)), .inl (1, 2048, .inl (fun _ => 0)), .inl (0, 2, .inl (fun _ => 0)), .inr (0, [.ref 1, .int (0), .int (0), .int (0)]), .inr (6, [.long 0, .int (0), .ref 11]), .inl (0, 8, .inl (fun _ => 0)), .inr (6, [.long 0, .int (0), .ref 13]), .inl (0, 8, .inl (fun _ => 0)), .inr (8, [.ref 1, .ref 15, .ref 16, .ref 17, .ref 18, .ref 19, .int (0)]), .inl (0, 20, .inl (fun _ => 0)), .inl (0, 20, .inl (fun _ => 0)), .inl (0, 20, .inl (fun _ => 0)), .inl (0, 20, .inl (fun _ => 0)), .inl (0, 20, .inl (fun _ => 0)), .inr (1, [.ref 1, .ref 9, .ref 21, .ref 23, .ref 25, .ref 31, .ref 36, .ref 40, .ref 42, .ref 44, .ref 50, .ref 51, .ref 52, .int (0), .int (0), .int (0), .int (0)]), .inr (6, [.long 0, .int (0), .ref 22]), .inl (0, 8, .inl (fun _ => 0)), .inr (6, [.long 0, .int (0), .ref 24]), .inl (0, 8, .inl (fun _ => 0)), .inr (8, [.ref 1, .ref 26, .ref 27, .ref 28, .ref 29, .ref 30, .int (0)]), .inl (0, 20, .inl (fun _ => 0)), .inl (0, 20, .inl (fun _ => 0)), .inl (0, 20, .inl (fun _ => 0)), .inl (0, 20, .inl (fun _ => 0)), .inl (0, 20, .inl (fun _ => 0)), .inr (7, [.ref 32, .ref 33, .ref 34, .ref 35, .int (0)]), .inl (2, 4000, .inr (.inl (fun _ => 0))), .inl (2, 4000, .inr (.inl (fun _ => 0))), .inl (2, 4000, .inr (.inl (fun _ => 0))), .inl (0, 8192, .inl (fun _ => 0)), .inr (3, [.ref 37, .ref 38, .ref 39, .int (0)]), .inl (0, 200, .inl (fun _ => 0)), .inl (0, 200, .inl (fun _ => 0)), .inl (0, 200, .inl (fun _ => 0)), .inr (4, [.ref 41, .int (0)]), .inl (0, 4000, .inl (fun _ => 0)), .inr (4, [.ref 43, .int (0)]), .inl (0, 4000, .inl (fun _ => 0)), .inr (2, [.ref 45, .ref 46, .ref 47, .ref 48]), .inl (0, 4000, .inl (fun _ => 0)), .inl (0, 80000, .inl (fun _ => 0)), .inl (1, 4000, .inl (fun _ => 0)), .inr (4, [.ref 49, .int (0)]), .inl (0, 4000, .inl (fun _ => 0)), .inl (0, 4000, .inl (fun _ => 0)), .inl (0, 4000, .inl (fun _ => 0)), .inl (0, 2048, .inl (fun _ => 0))]
theorem G10_at : ∀ a, a < 52 → G10[a]? = some (cel s0C (a + 1)) := fun a ha => match a, ha with
  | 0, _ => rfl
  | 1, _ => rfl
  | 2, _ => rfl
  | 3, _ => rfl
  | 4, _ => rfl
  | 5, _ => rfl
  | 6, _ => rfl
  | 7, _ => rfl
  | 8, _ => rfl
  | 9, _ => rfl
  | 10, _ => rfl
  | 11, _ => rfl
  | 12, _ => rfl
  | 13, _ => rfl
  | 14, _ => rfl
  | 15, _ => rfl
  | 16, _ => rfl
  | 17, _ => rfl
  | 18, _ => rfl
  | 19, _ => rfl
  | 20, _ => rfl
  | 21, _ => rfl
  | 22, _ => rfl
  | 23, _ => rfl
  | 24, _ => rfl
  | 25, _ => rfl
  | 26, _ => rfl
  | 27, _ => rfl
  | 28, _ => rfl
  | 29, _ => rfl
  | 30, _ => rfl
  | 31, _ => rfl
  | 32, _ => rfl
  | 33, _ => rfl
  | 34, _ => rfl
  | 35, _ => rfl
  | 36, _ => rfl
  | 37, _ => rfl
  | 38, _ => rfl
  | 39, _ => rfl
  | 40, _ => rfl
  | 41, _ => rfl
  | 42, _ => rfl
  | 43, _ => rfl
  | 44, _ => rfl
  | 45, _ => rfl
  | 46, _ => rfl
  | 47, _ => rfl
  | 48, _ => rfl
  | 49, _ => rfl
  | 50, _ => rfl
  | 51, _ => rfl
  | a + 52, ha => absurd ha (by omega)
set_option maxRecDepth 100000 in
set_option maxHeartbeats 4000000 in
theorem n_X10_init {h : List AC} (hN : h.length = 1) (hg : h[0]? = some (.inr (9, [.null, .null, .null, .null, .null, .null, .int 0]))) : Em mX10_init [.ref 0] h (fun r h' => r = none ∧ ∃ σ, St 53 σ h' ∧ ClS σ pr0 v0 true ∧ AtE pr0 σ wk0) := by
  have ho : 0 < h.length := (List.getElem?_eq_some_iff.mp hg).1
  refine Em.of mk_X10_init (Nat.le_of_ble_eq_true rfl) rfl (fun X hX => ?_)
  refine e_aload_n hX dX10_init_0 rfl ?_
  refine e_objInit hX dX10_init_1 (tb_at 60 (by decide +kernel) rfl) (Nat.le_of_ble_eq_true rfl) (Nat.le_of_ble_eq_true rfl) rfl ?_
  refine k_begin hg ?_
  refine e_aload_n hX dX10_init_4 rfl ?_
  refine k_new (fs := [.int 0, .null, .null, .null, .null, .null, .null, .null]) (r := 1) (cs2 := [.inr (5, [.int 0, .null, .null, .null, .null, .null, .null, .null])]) (c2 := 1) (s2 := 8) hX dX10_init_5 ci_5 (tb_at 63 (by decide +kernel) rfl) df_X6 (fun _ => rfl) (Nat.le_of_ble_eq_true rfl) (Nat.le_of_ble_eq_true rfl) (by rw [hN] <;> rfl) rfl rfl rfl ?_
  refine e_dup hX dX10_init_8 rfl ?_
  refine k_callI (as := []) (r := 1) (j := 0) (cs2 := [.inr (5, [.int (nI 2), .ref 2, .ref 3, .ref 4, .ref 5, .ref 6, .ref 7, .ref 8]), .inl (0, 16, .inl (fun _ => 0)), .inl (0, 16, .inl (fun _ => 0)), .inl (0, 2048, .inl (filF (fun _ => 0) (-1) 2048)), .inl (0, 2048, .inl (fun _ => 0)), .inl (0, 2048, .inl (fun _ => 0)), .inl (1, 2048, .inl (fun _ => 0)), .inl (0, 2, .inl (fun _ => 0))]) (c2 := 8) (s2 := 8234) hX dX10_init_9 mk_X6_init rfl lk_X10_11 (n_X6_init (o := 1) (N := 2) (by rw [List.length_append, List.length_set, hN] <;> rfl) (hk_at2 (j := 0) hN rfl rfl)) (by rw [hN] <;> rfl) (Nat.le_of_ble_eq_true rfl) rfl (Nat.le_of_ble_eq_true rfl) (Nat.le_of_ble_eq_true rfl) (Nat.le_of_ble_eq_true rfl) (Nat.le_of_ble_eq_true rfl) rfl rfl rfl rfl rfl ?_
  refine k_putF (fs2 := [.ref 1, .null, .null, .null, .null, .null, .int 0]) hX dX10_init_12 fl_X10_12 rfl (fun C T N e => congrArg Prod.fst (Option.some.inj (e.symm.trans ci_9.1))) ho (Nat.le_of_ble_eq_true rfl) rfl rfl rfl ?_
  refine e_aload_n hX dX10_init_15 rfl ?_
  refine k_new (fs := [.null, .int 0, .int 0, .int 0]) (r := 9) (cs2 := [.inr (5, [.int (nI 2), .ref 2, .ref 3, .ref 4, .ref 5, .ref 6, .ref 7, .ref 8]), .inl (0, 16, .inl (fun _ => 0)), .inl (0, 16, .inl (fun _ => 0)), .inl (0, 2048, .inl (filF (fun _ => 0) (-1) 2048)), .inl (0, 2048, .inl (fun _ => 0)), .inl (0, 2048, .inl (fun _ => 0)), .inl (1, 2048, .inl (fun _ => 0)), .inl (0, 2, .inl (fun _ => 0)), .inr (0, [.null, .int 0, .int 0, .int 0])]) (c2 := 9) (s2 := 8238) hX dX10_init_16 ci_0 (tb_at 99 (by decide +kernel) rfl) df_X0 (fun _ => rfl) (Nat.le_of_ble_eq_true rfl) (Nat.le_of_ble_eq_true rfl) (by rw [hN] <;> rfl) rfl rfl rfl ?_
  refine e_dup hX dX10_init_19 rfl ?_
  refine e_aload_n hX dX10_init_20 rfl ?_
  refine k_get (v := .ref 1) hX dX10_init_21 fl_X10_12 ho rfl ?_
  refine k_callI (as := [.ref 1]) (r := 9) (j := 8) (cs2 := [.inr (5, [.int (nI 2), .ref 2, .ref 3, .ref 4, .ref 5, .ref 6, .ref 7, .ref 8]), .inl (0, 16, .inl (fun _ => 0)), .inl (0, 16, .inl (fun _ => 0)), .inl (0, 2048, .inl (filF (fun _ => 0) (-1) 2048)), .inl (0, 2048, .inl (fun _ => 0)), .inl (0, 2048, .inl (fun _ => 0)), .inl (1, 2048, .inl (fun _ => 0)), .inl (0, 2, .inl (fun _ => 0)), .inr (0, [.ref 1, .int (0), .int (0), .int (0)])]) (c2 := 9) (s2 := 8238) hX dX10_init_24 mk_X0_init rfl lk_X10_18 (n_X0_init (o := 9) (N := 10) (by rw [List.length_append, List.length_set, hN] <;> rfl) (hk_at2 (j := 8) hN rfl rfl)) (by rw [hN] <;> rfl) (Nat.le_of_ble_eq_true rfl) rfl (Nat.le_of_ble_eq_true rfl) (Nat.le_of_ble_eq_true rfl) (Nat.le_of_ble_eq_true rfl) (Nat.le_of_ble_eq_true rfl) rfl rfl rfl rfl rfl ?_
  refine k_putF (fs2 := [.ref 1, .ref 9, .null, .null, .null, .null, .int 0]) hX dX10_init_27 fl_X10_21 rfl (fun C T N e => congrArg Prod.fst (Option.some.inj (e.symm.trans ci_9.1))) ho (Nat.le_of_ble_eq_true rfl) rfl rfl rfl ?_
  refine e_aload_n hX dX10_init_30 rfl ?_
  refine k_new (fs := [.long 0, .int 0, .null]) (r := 10) (cs2 := [.inr (5, [.int (nI 2), .ref 2, .ref 3, .ref 4, .ref 5, .ref 6, .ref 7, .ref 8]), .inl (0, 16, .inl (fun _ => 0)), .inl (0, 16, .inl (fun _ => 0)), .inl (0, 2048, .inl (filF (fun _ => 0) (-1) 2048)), .inl (0, 2048, .inl (fun _ => 0)), .inl (0, 2048, .inl (fun _ => 0)), .inl (1, 2048, .inl (fun _ => 0)), .inl (0, 2, .inl (fun _ => 0)), .inr (0, [.ref 1, .int (0), .int (0), .int (0)]), .inr (6, [.long 0, .int 0, .null])]) (c2 := 10) (s2 := 8241) hX dX10_init_31 ci_6 (tb_at 118 (by decide +kernel) rfl) df_X7 (fun _ => rfl) (Nat.le_of_ble_eq_true rfl) (Nat.le_of_ble_eq_true rfl) (by rw [hN] <;> rfl) rfl rfl rfl ?_
  refine e_dup hX dX10_init_34 rfl ?_
  refine k_callI (as := []) (r := 10) (j := 9) (cs2 := [.inr (5, [.int (nI 2), .ref 2, .ref 3, .ref 4, .ref 5, .ref 6, .ref 7, .ref 8]), .inl (0, 16, .inl (fun _ => 0)), .inl (0, 16, .inl (fun _ => 0)), .inl (0, 2048, .inl (filF (fun _ => 0) (-1) 2048)), .inl (0, 2048, .inl (fun _ => 0)), .inl (0, 2048, .inl (fun _ => 0)), .inl (1, 2048, .inl (fun _ => 0)), .inl (0, 2, .inl (fun _ => 0)), .inr (0, [.ref 1, .int (0), .int (0), .int (0)]), .inr (6, [.long 0, .int (0), .ref 11]), .inl (0, 8, .inl (fun _ => 0))]) (c2 := 11) (s2 := 8249) hX dX10_init_35 mk_X7_init rfl lk_X10_27 (n_X7_init (o := 10) (N := 11) (by rw [List.length_append, List.length_set, hN] <;> rfl) (hk_at2 (j := 9) hN rfl rfl)) (by rw [hN] <;> rfl) (Nat.le_of_ble_eq_true rfl) rfl (Nat.le_of_ble_eq_true rfl) (Nat.le_of_ble_eq_true rfl) (Nat.le_of_ble_eq_true rfl) (Nat.le_of_ble_eq_true rfl) rfl rfl rfl rfl rfl ?_
  refine k_putF (fs2 := [.ref 1, .ref 9, .ref 10, .null, .null, .null, .int 0]) hX dX10_init_38 fl_X10_28 rfl (fun C T N e => congrArg Prod.fst (Option.some.inj (e.symm.trans ci_9.1))) ho (Nat.le_of_ble_eq_true rfl) rfl rfl rfl ?_
  refine e_aload_n hX dX10_init_41 rfl ?_
  refine k_new (fs := [.long 0, .int 0, .null]) (r := 12) (cs2 := [.inr (5, [.int (nI 2), .ref 2, .ref 3, .ref 4, .ref 5, .ref 6, .ref 7, .ref 8]), .inl (0, 16, .inl (fun _ => 0)), .inl (0, 16, .inl (fun _ => 0)), .inl (0, 2048, .inl (filF (fun _ => 0) (-1) 2048)), .inl (0, 2048, .inl (fun _ => 0)), .inl (0, 2048, .inl (fun _ => 0)), .inl (1, 2048, .inl (fun _ => 0)), .inl (0, 2, .inl (fun _ => 0)), .inr (0, [.ref 1, .int (0), .int (0), .int (0)]), .inr (6, [.long 0, .int (0), .ref 11]), .inl (0, 8, .inl (fun _ => 0)), .inr (6, [.long 0, .int 0, .null])]) (c2 := 12) (s2 := 8252) hX dX10_init_42 ci_6 (tb_at 118 (by decide +kernel) rfl) df_X7 (fun _ => rfl) (Nat.le_of_ble_eq_true rfl) (Nat.le_of_ble_eq_true rfl) (by rw [hN] <;> rfl) rfl rfl rfl ?_
  refine e_dup hX dX10_init_45 rfl ?_
  refine k_callI (as := []) (r := 12) (j := 11) (cs2 := [.inr (5, [.int (nI 2), .ref 2, .ref 3, .ref 4, .ref 5, .ref 6, .ref 7, .ref 8]), .inl (0, 16, .inl (fun _ => 0)), .inl (0, 16, .inl (fun _ => 0)), .inl (0, 2048, .inl (filF (fun _ => 0) (-1) 2048)), .inl (0, 2048, .inl (fun _ => 0)), .inl (0, 2048, .inl (fun _ => 0)), .inl (1, 2048, .inl (fun _ => 0)), .inl (0, 2, .inl (fun _ => 0)), .inr (0, [.ref 1, .int (0), .int (0), .int (0)]), .inr (6, [.long 0, .int (0), .ref 11]), .inl (0, 8, .inl (fun _ => 0)), .inr (6, [.long 0, .int (0), .ref 13]), .inl (0, 8, .inl (fun _ => 0))]) (c2 := 13) (s2 := 8260) hX dX10_init_46 mk_X7_init rfl lk_X10_27 (n_X7_init (o := 12) (N := 13) (by rw [List.length_append, List.length_set, hN] <;> rfl) (hk_at2 (j := 11) hN rfl rfl)) (by rw [hN] <;> rfl) (Nat.le_of_ble_eq_true rfl) rfl (Nat.le_of_ble_eq_true rfl) (Nat.le_of_ble_eq_true rfl) (Nat.le_of_ble_eq_true rfl) (Nat.le_of_ble_eq_true rfl) rfl rfl rfl rfl rfl ?_
  refine k_putF (fs2 := [.ref 1, .ref 9, .ref 10, .ref 12, .null, .null, .int 0]) hX dX10_init_49 fl_X10_32 rfl (fun C T N e => congrArg Prod.fst (Option.some.inj (e.symm.trans ci_9.1))) ho (Nat.le_of_ble_eq_true rfl) rfl rfl rfl ?_
  refine e_aload_n hX dX10_init_52 rfl ?_
  refine k_new (fs := [.null, .null, .null, .null, .null, .null, .int 0]) (r := 14) (cs2 := [.inr (5, [.int (nI 2), .ref 2, .ref 3, .ref 4, .ref 5, .ref 6, .ref 7, .ref 8]), .inl (0, 16, .inl (fun _ => 0)), .inl (0, 16, .inl (fun _ => 0)), .inl (0, 2048, .inl (filF (fun _ => 0) (-1) 2048)), .inl (0, 2048, .inl (fun _ => 0)), .inl (0, 2048, .inl (fun _ => 0)), .inl (1, 2048, .inl (fun _ => 0)), .inl (0, 2, .inl (fun _ => 0)), .inr (0, [.ref 1, .int (0), .int (0), .int (0)]), .inr (6, [.long 0, .int (0), .ref 11]), .inl (0, 8, .inl (fun _ => 0)), .inr (6, [.long 0, .int (0), .ref 13]), .inl (0, 8, .inl (fun _ => 0)), .inr (8, [.null, .null, .null, .null, .null, .null, .int 0])]) (c2 := 14) (s2 := 8267) hX dX10_init_53 ci_8 (tb_at 134 (by decide +kernel) rfl) df_X9 (fun _ => rfl) (Nat.le_of_ble_eq_true rfl) (Nat.le_of_ble_eq_true rfl) (by rw [hN] <;> rfl) rfl rfl rfl ?_
  refine e_dup hX dX10_init_56 rfl ?_
  refine e_aload_n hX dX10_init_57 rfl ?_
  refine k_get (v := .ref 1) hX dX10_init_58 fl_X10_12 ho rfl ?_
  refine k_callI (as := [.ref 1]) (r := 14) (j := 13) (cs2 := [.inr (5, [.int (nI 2), .ref 2, .ref 3, .ref 4, .ref 5, .ref 6, .ref 7, .ref 8]), .inl (0, 16, .inl (fun _ => 0)), .inl (0, 16, .inl (fun _ => 0)), .inl (0, 2048, .inl (filF (fun _ => 0) (-1) 2048)), .inl (0, 2048, .inl (fun _ => 0)), .inl (0, 2048, .inl (fun _ => 0)), .inl (1, 2048, .inl (fun _ => 0)), .inl (0, 2, .inl (fun _ => 0)), .inr (0, [.ref 1, .int (0), .int (0), .int (0)]), .inr (6, [.long 0, .int (0), .ref 11]), .inl (0, 8, .inl (fun _ => 0)), .inr (6, [.long 0, .int (0), .ref 13]), .inl (0, 8, .inl (fun _ => 0)), .inr (8, [.ref 1, .ref 15, .ref 16, .ref 17, .ref 18, .ref 19, .int (0)]), .inl (0, 20, .inl (fun _ => 0)), .inl (0, 20, .inl (fun _ => 0)), .inl (0, 20, .inl (fun _ => 0)), .inl (0, 20, .inl (fun _ => 0)), .inl (0, 20, .inl (fun _ => 0))]) (c2 := 19) (s2 := 8367) hX dX10_init_61 mk_X9_init rfl lk_X10_37 (n_X9_init (o := 14) (N := 15) (by rw [List.length_append, List.length_set, hN] <;> rfl) (hk_at2 (j := 13) hN rfl rfl)) (by rw [hN] <;> rfl) (Nat.le_of_ble_eq_true rfl) rfl (Nat.le_of_ble_eq_true rfl) (Nat.le_of_ble_eq_true rfl) (Nat.le_of_ble_eq_true rfl) (Nat.le_of_ble_eq_true rfl) rfl rfl rfl rfl rfl ?_
  refine k_putF (fs2 := [.ref 1, .ref 9, .ref 10, .ref 12, .ref 14, .null, .int 0]) hX dX10_init_64 fl_X10_38 rfl (fun C T N e => congrArg Prod.fst (Option.some.inj (e.symm.trans ci_9.1))) ho (Nat.le_of_ble_eq_true rfl) rfl rfl rfl ?_
  refine e_aload_n hX dX10_init_67 rfl ?_
  refine k_new (fs := [.null, .null, .null, .null, .null, .null, .null, .null, .null, .null, .null, .null, .null, .int 0, .int 0, .int 0, .int 0]) (r := 20) (cs2 := [.inr (5, [.int (nI 2), .ref 2, .ref 3, .ref 4, .ref 5, .ref 6, .ref 7, .ref 8]), .inl (0, 16, .inl (fun _ => 0)), .inl (0, 16, .inl (fun _ => 0)), .inl (0, 2048, .inl (filF (fun _ => 0) (-1) 2048)), .inl (0, 2048, .inl (fun _ => 0)), .inl (0, 2048, .inl (fun _ => 0)), .inl (1, 2048, .inl (fun _ => 0)), .inl (0, 2, .inl (fun _ => 0)), .inr (0, [.ref 1, .int (0), .int (0), .int (0)]), .inr (6, [.long 0, .int (0), .ref 11]), .inl (0, 8, .inl (fun _ => 0)), .inr (6, [.long 0, .int (0), .ref 13]), .inl (0, 8, .inl (fun _ => 0)), .inr (8, [.ref 1, .ref 15, .ref 16, .ref 17, .ref 18, .ref 19, .int (0)]), .inl (0, 20, .inl (fun _ => 0)), .inl (0, 20, .inl (fun _ => 0)), .inl (0, 20, .inl (fun _ => 0)), .inl (0, 20, .inl (fun _ => 0)), .inl (0, 20, .inl (fun _ => 0)), .inr (1, [.null, .null, .null, .null, .null, .null, .null, .null, .null, .null, .null, .null, .null, .int 0, .int 0, .int 0, .int 0])]) (c2 := 20) (s2 := 8384) hX dX10_init_68 ci_1 (tb_at 162 (by decide +kernel) rfl) df_X1 (fun _ => rfl) (Nat.le_of_ble_eq_true rfl) (Nat.le_of_ble_eq_true rfl) (by rw [hN] <;> rfl) rfl rfl rfl ?_
  refine e_dup hX dX10_init_71 rfl ?_
  refine e_aload_n hX dX10_init_72 rfl ?_
  refine k_get (v := .ref 1) hX dX10_init_73 fl_X10_12 ho rfl ?_
  refine e_aload_n hX dX10_init_76 rfl ?_
  refine k_get (v := .ref 9) hX dX10_init_77 fl_X10_21 ho rfl ?_
  refine k_callI (as := [.ref 1, .ref 9]) (r := 20) (j := 19) (cs2 := G10) (c2 := 52) (s2 := 139372) hX dX10_init_80 mk_X1_init rfl lk_X10_44 (n_X1_init (by rw [List.length_append, List.length_set, hN] <;> rfl) (hk_at2 (j := 19) hN rfl rfl)) (by rw [hN] <;> rfl) (Nat.le_of_ble_eq_true rfl) rfl (Nat.le_of_ble_eq_true rfl) (Nat.le_of_ble_eq_true rfl) (Nat.le_of_ble_eq_true rfl) (Nat.le_of_ble_eq_true rfl) rfl rfl rfl rfl rfl ?_
  refine k_putF (fs2 := [.ref 1, .ref 9, .ref 10, .ref 12, .ref 14, .ref 20, .int 0]) hX dX10_init_83 fl_X10_47 rfl (fun C T N e => congrArg Prod.fst (Option.some.inj (e.symm.trans ci_9.1))) ho (Nat.le_of_ble_eq_true rfl) rfl rfl rfl ?_
  refine e_aload_n hX dX10_init_86 rfl ?_
  refine e_iconst (v := (0)) hX dX10_init_87 (by decide) ?_
  refine k_put (fs2 := [.ref 1, .ref 9, .ref 10, .ref 12, .ref 14, .ref 20, .int (0)]) hX dX10_init_88 fl_X10_51 ho (Nat.le_of_ble_eq_true rfl) rfl rfl rfl ?_
  have hS : St 53 s0C (h.set 0 (.inr (9, [.ref 1, .ref 9, .ref 10, .ref 12, .ref 14, .ref 20, .int (0)])) ++ G10) :=
    ⟨by rw [hk_len, hN] <;> rfl, fun a ha => by
      by_cases e : a = 0
      · subst e; exact hk_at (ho := ho)
      · have := G10_at (a - 1) (by omega)
        rw [show a - 1 + 1 = a by omega] at this
        exact hk_at2 (j := a - 1) hN (by omega) this⟩
  generalize (h.set 0 (.inr (9, [.ref 1, .ref 9, .ref 10, .ref 12, .ref 14, .ref 20, .int (0)])) ++ G10) = h1 at hS ⊢
  have g : ∀ {σ h2}, St 53 σ h2 → h2[0]? = some (.inr (9, [.ref 1, .ref 9, .ref 10, .ref 12, .ref 14, .ref 20, .int ((σ 0).1 6)])) := fun s => s.2 0 (by decide)
  refine e_aload_n hX dX10_init_91 rfl ?_
  refine e_get (v := .ref 10) hX dX10_init_92 fl_X10_28 (g hS) rfl ?_
  refine e_aload_n hX dX10_init_95 rfl ?_
  refine e_get (v := .ref 1) hX dX10_init_96 fl_X10_12 (g hS) rfl ?_
  refine e_callV (as := []) (rest := [.ref 10]) hX dX10_init_99 mk_X6_home lk_X10_55 (c_X6_home (Nat.le_refl 53) s0_PrC _ hS) (hS.2 1 (by decide)) rfl rfl rfl (Nat.le_of_ble_eq_true rfl) (Nat.le_of_ble_eq_true rfl) (Nat.le_of_ble_eq_true rfl) (Nat.le_of_ble_eq_true rfl) (Nat.le_of_ble_eq_true rfl) rfl (fun r h2 hq => ?_)
  obtain ⟨σ2, ⟨v, rfl, rfl, e2⟩, hs2⟩ := hq
  rw [e2] at hs2
  refine e_callV (as := [.int (nI 2)]) (rest := []) hX dX10_init_102 mk_X7_begin lk_X10_59 (c_X7_begin (pr := pr0) (is10 (Nat.le_refl 53)) (by decide) _ hs2) (hs2.2 10 (by decide)) rfl rfl rfl (Nat.le_of_ble_eq_true rfl) (Nat.le_of_ble_eq_true rfl) (Nat.le_of_ble_eq_true rfl) (Nat.le_of_ble_eq_true rfl) (Nat.le_of_ble_eq_true rfl) rfl (fun r h3 hq => ?_)
  obtain ⟨σ3, ⟨rfl, p1, p2⟩, hs3⟩ := hq
  refine e_vret hX dX10_init_105 rfl rfl (Nat.le_of_ble_eq_true rfl) (by rw [hs3.1, hN] <;> rfl) ⟨rfl, σ3, hs3, ⟨s0_PrC.off2 p2 (by decide), p1, by rw [p2 0 (by decide)]; rfl⟩, s0_AtE.kept (p2 20 (by decide)) (fun a h1 h2 => p2 a (by simp; omega))⟩
def G11 : List AC := [.inl (0, 16, .inl (fun _ => 0)), .inl (0, 16, .inl (fun _ => 0)), .inl (0, 2048, .inl (fun _ => 0)), .inl (0, 16384, .inl (fun _ => 0)), .inl (1, 2048, .inl (fun _ => 0)), .inl (0, 56, .inl (fun _ => 0)), .inl (0, 56, .inl (fun _ => 0)), .inl (0, 56, .inl (fun _ => 0)), .inl (0, 20, .inl (fun _ => 0)), .inl (0, 20, .inl (fun _ => 0)), .inl (0, 20, .inl (fun _ => 0)), .inl (0, 20, .inl (fun _ => 0)), .inl (0, 224000, .inl (fun _ => 0)), .inl (2, 4000, .inr (.inl (fun _ => 0))), .inl (0, 4000, .inl (fun _ => 0)), .inl (0, 4000, .inl (fun _ => 0)), .inl (0, 4000, .inl (fun _ => 0)), .inl (0, 80000, .inl (fun _ => 0)), .inl (1, 4000, .inl (fun _ => 0)), .inl (1, 4000, .inl (fun _ => 0)), .inl (0, 200, .inl (fun _ => 0)), .inl (0, 200, .inl (fun _ => 0)), .inl (0, 200, .inl (fun _ => 0))]
def s0M (σ : Sg) : Sg := fun a => if a < 53 then σ a else if a = 53 then (fun k => if k = 0 then nI 2 else if k = 33 then nI 1 else 0, fun _ => 0) else (fun _ => 0, fun _ => 0)
theorem s0M_old {σ : Sg} {a : Nat} (h : a < 53) : s0M σ a = σ a := by unfold s0M; rw [if_pos h]
theorem G11_at (σ : Sg) : ∀ a, a < 23 → G11[a]? = some (cel (s0M σ) (54 + a)) := fun a ha => match a, ha with
  | 0, _ => rfl
  | 1, _ => rfl
  | 2, _ => rfl
  | 3, _ => rfl
  | 4, _ => rfl
  | 5, _ => rfl
  | 6, _ => rfl
  | 7, _ => rfl
  | 8, _ => rfl
  | 9, _ => rfl
  | 10, _ => rfl
  | 11, _ => rfl
  | 12, _ => rfl
  | 13, _ => rfl
  | 14, _ => rfl
  | 15, _ => rfl
  | 16, _ => rfl
  | 17, _ => rfl
  | 18, _ => rfl
  | 19, _ => rfl
  | 20, _ => rfl
  | 21, _ => rfl
  | 22, _ => rfl
  | a + 23, ha => absurd ha (by omega)
theorem c53 (σ : Sg) : cel (s0M σ) 53 = .inr (10, [.int (nI 2), .ref 54, .ref 55, .ref 56, .ref 57, .ref 58, .ref 59, .ref 60, .ref 61, .int 0, .int 0, .int 0, .ref 62, .ref 63, .ref 64, .ref 65, .int 0, .ref 66, .ref 67, .ref 68, .ref 69, .ref 70, .ref 71, .ref 72, .ref 73, .int 0, .int 0, .int 0, .ref 74, .ref 75, .ref 76, .int 0, .int 0, .int (nI 1), .int 0]) := (cel_obj rfl).trans (congrArg (fun l => Sum.inr (10, l)) (mapIdx_is (fun i => match i with
  | 0 => rfl
  | 1 => rfl
  | 2 => rfl
  | 3 => rfl
  | 4 => rfl
  | 5 => rfl
  | 6 => rfl
  | 7 => rfl
  | 8 => rfl
  | 9 => rfl
  | 10 => rfl
  | 11 => rfl
  | 12 => rfl
  | 13 => rfl
  | 14 => rfl
  | 15 => rfl
  | 16 => rfl
  | 17 => rfl
  | 18 => rfl
  | 19 => rfl
  | 20 => rfl
  | 21 => rfl
  | 22 => rfl
  | 23 => rfl
  | 24 => rfl
  | 25 => rfl
  | 26 => rfl
  | 27 => rfl
  | 28 => rfl
  | 29 => rfl
  | 30 => rfl
  | 31 => rfl
  | 32 => rfl
  | 33 => rfl
  | 34 => rfl
  | i + 35 => rfl)))
theorem cel_eq {σ σ2 : Sg} {a : Nat} (h : σ2 a = σ a) : cel σ2 a = cel σ a := by unfold cel; rw [h]
theorem s0_PrM {σ σ2 : Sg} (ho : Off (s0M σ) σ2 [56]) (h56 : ∀ i, i < 2048 → (σ2 56).1 i = -1) : PrM σ2 pr0 :=
  ⟨by rw [ho 53 (by decide)]; rfl, fun k _ => by rw [ho 54 (by decide)]; rfl, fun k _ => by rw [ho 55 (by decide)]; rfl, fun a ha => h56 a ha, fun a _ m hm => by cases hm⟩
theorem s0_WkE {σ σ2 : Sg} (ho : ∀ a, 53 ≤ a → a ≠ 56 → a ≠ 59 → a ≠ 60 → σ2 a = s0M σ a) : WkE σ2 pr0 wk0 := by
  have e := ho 53 (by decide) (by decide) (by decide) (by decide)
  refine ⟨⟨⟨by rw [e]; rfl, by rw [e]; rfl, by rw [e]; rfl, by rw [e]; rfl⟩, fun n hn => absurd hn (Nat.not_lt_zero n), fun n _ hn => absurd hn (Nat.not_lt_zero n), fun n _ hn => absurd hn (Nat.not_lt_zero n), fun n hn => absurd hn (Nat.not_lt_zero n), fun a _ => by rw [ho 58 (by decide) (by decide) (by decide) (by decide)]; rfl, by rw [e]; rfl, fun i t ht => (by cases ht)⟩, fun _ => false, fun n hn => absurd hn (Nat.not_lt_zero n)⟩
set_option maxRecDepth 100000 in
set_option maxHeartbeats 4000000 in
theorem n_X11_init {h : List AC} {σ : Sg} (hN : h.length = 54) (hg : h[53]? = some (.inr (10, [.int 0, .null, .null, .null, .null, .null, .null, .null, .null, .int 0, .int 0, .int 0, .null, .null, .null, .null, .int 0, .null, .null, .null, .null, .null, .null, .null, .null, .int 0, .int 0, .int 0, .null, .null, .null, .int 0, .int 0, .int 0, .int 0]))) (hO : ∀ a, a < 53 → h[a]? = some (cel σ a)) : Em mX11_init [.ref 53] h (fun r h' => r = none ∧ ∃ σ2, St 77 σ2 h' ∧ (∀ a, a < 53 → σ2 a = σ a) ∧ MdS σ2 pr0 v0 true ∧ WkE σ2 pr0 wk0) := by
  have ho : 53 < h.length := (List.getElem?_eq_some_iff.mp hg).1
  refine Em.of mk_X11_init (Nat.le_of_ble_eq_true rfl) rfl (fun X hX => ?_)
  have FIN : ∀ σ1 h1 (x1 : Option Value), St 77 σ1 h1 → Off (s0M σ) σ1 [56] → (∀ i, i < 2048 → (σ1 56).1 i = -1) → Ew mX11_init X (Zm mX11_init h.length (fun r h' => r = none ∧ ∃ σ2, St 77 σ2 h' ∧ (∀ a, a < 53 → σ2 a = σ a) ∧ MdS σ2 pr0 v0 true ∧ WkE σ2 pr0 wk0) X) 232 [some (.ref 53), x1] [] h1 23 349360 := by
    intro σ1 h1 x1 hS hO1 h56
    refine e_aload_n hX dX11_init_232 rfl ?_
    refine e_callV (as := []) (rest := []) hX dX11_init_233 mk_X11_first lk_X11_91 (c_X11_first _ hS) ((hS.2 53 (by decide)).trans (congrArg some (cel_obj rfl))) rfl rfl rfl (Nat.le_of_ble_eq_true rfl) (Nat.le_of_ble_eq_true rfl) (Nat.le_of_ble_eq_true rfl) (Nat.le_of_ble_eq_true rfl) (Nat.le_of_ble_eq_true rfl) rfl (fun r h2 hq => ?_)
    obtain ⟨σ2, ⟨rfl, p1, p2⟩, hs2⟩ := hq
    refine e_aload_n hX dX11_init_236 rfl ?_
    refine e_getR hX dX11_init_237 fl_X11_30 hs2 rfl rfl (by decide) ?_
    refine e_iconst (v := nI 0) hX dX11_init_240 (by decide) ?_
    refine e_aload_n hX dX11_init_241 rfl ?_
    refine e_getR hX dX11_init_242 fl_X11_33 hs2 rfl rfl (by decide) ?_
    refine e_iconst (v := nI 0) hX dX11_init_245 (by decide) ?_
    refine e_callS (as := [.ref 59, .int (nI 0), .ref 60, .int (nI 0)]) (rest := []) hX dX11_init_246 mk_X11_copy lk_X11_94 (c_X11_copy (f := 59) (t := 60) (lf := 56) (lt := 56) (a := 0) (b := 0) rfl rfl (by decide) (by decide) (by decide) (by omega) (by omega) (by decide) (by decide) _ hs2) rfl (Nat.le_of_ble_eq_true rfl) (Nat.le_of_ble_eq_true rfl) (Nat.le_of_ble_eq_true rfl) (Nat.le_of_ble_eq_true rfl) (Nat.le_of_ble_eq_true rfl) rfl (fun r h3 hq => ?_)
    obtain ⟨σ3, ⟨rfl, e3⟩, hs3⟩ := hq
    have hV := p2.copy (t := 60) (b := 0)
    have hO3 : Off σ2 (wA σ2 60 (va_cpy (σ2 59).1 (σ2 60).1 0 0 56)) [60] := Off.rf.wA (by decide)
    rw [← e3] at hV hO3
    have hO4 : Off σ1 σ3 [59, 60] := (p1.mono2 (by decide)).trans (hO3.mono2 (by decide))
    have hp : PrM σ1 pr0 := s0_PrM hO1 h56
    refine e_vret hX dX11_init_249 rfl rfl (Nat.le_of_ble_eq_true rfl) (by rw [hs3.1, hN] <;> rfl) ⟨rfl, σ3, hs3, fun a ha => ?_, ⟨hp.off hO4 (by decide) (by decide) (by decide) (by decide) (by decide), hV, ?_⟩, s0_WkE (σ := σ) (fun a h1 h2 h3 h4 => ?_)⟩
    · rw [hO4 a (by simp; omega), hO1 a (by simp; omega), s0M_old ha]
    · rw [hO4 53 (by decide), hO1 53 (by decide)]; rfl
    · rw [hO4 a (by simp; omega), hO1 a (by simp; omega)]
  have LP : ∀ d k, k + d = 2048 → ∀ σ1 h1, St 77 σ1 h1 → Off (s0M σ) σ1 [56] → (∀ i, i < k → (σ1 56).1 i = -1) → Ew mX11_init X (Zm mX11_init h.length (fun r h' => r = none ∧ ∃ σ2, St 77 σ2 h' ∧ (∀ a, a < 53 → σ2 a = σ a) ∧ MdS σ2 pr0 v0 true ∧ WkE σ2 pr0 wk0) X) 212 [some (.ref 53), some (.int (nI k))] [] h1 23 349360 := by
    intro d
    induction d with
    | zero =>
      intro k hk σ1 h1 hS hO1 h56
      obtain rfl : k = 2048 := by omega
      refine e_iload_n hX dX11_init_212 rfl ?_
      refine e_sipush (v := nI 2048) hX dX11_init_213 (by decide) ?_
      exact e_icmp_ge (tgt := 232) hX dX11_init_216 (by decide) (fun q => FIN σ1 h1 _ hS hO1 h56) (fun q => absurd (Int32.le_refl _) q)
    | succ d ih =>
      intro k hk σ1 h1 hS hO1 h56
      refine e_iload_n hX dX11_init_212 rfl ?_
      refine e_sipush (v := nI 2048) hX dX11_init_213 (by decide) ?_
      refine e_icmp_ge (tgt := 232) hX dX11_init_216 (by decide) (fun q => by rw [nx_le (by omega) (by omega)] at q; omega) (fun q => ?_)
      refine e_aload_n hX dX11_init_219 rfl ?_
      refine e_getR hX dX11_init_220 fl_X11_20 hS rfl rfl (by decide) ?_
      refine e_iload_n hX dX11_init_223 rfl ?_
      refine e_iconst (v := -1) hX dX11_init_224 (by decide) ?_
      refine e_iast (n := 2048) (f := (σ1 56).1) hX dX11_init_225 ((hS.2 56 (by decide)).trans (congrArg some (cel_ai rfl (by decide)))) (vp_in_nI (by omega) (by omega)) ?_
      refine e_iinc (v := nI (k + 1)) hX dX11_init_226 rfl (nI_add k 1) rfl rfl ?_
      refine e_goto (tgt := 212) hX dX11_init_229 (by decide) ?_
      rw [nI_clamp (by omega)]
      refine ih (k + 1) (by omega) (wI σ1 56 k (-1)) _ ?_ (hO1.wI (by decide)) (fun i hi => ?_)
      · refine hS.up (by decide) ?_
        rw [cel_ai rfl (by decide), va_up_at]
      · by_cases e : i = k
        · rw [e, wI_s]
        · rw [wI_k _ _ e]; exact h56 i (by omega)
  refine e_aload_n hX dX11_init_0 rfl ?_
  refine e_objInit hX dX11_init_1 (tb_at 887 (by decide +kernel) rfl) (Nat.le_of_ble_eq_true rfl) (Nat.le_of_ble_eq_true rfl) rfl ?_
  refine k_begin hg ?_
  refine e_aload_n hX dX11_init_4 rfl ?_
  refine e_iconst (v := nI 2) hX dX11_init_5 (by decide) ?_
  refine k_put (fs2 := [.int (nI 2), .null, .null, .null, .null, .null, .null, .null, .null, .int 0, .int 0, .int 0, .null, .null, .null, .null, .int 0, .null, .null, .null, .null, .null, .null, .null, .null, .int 0, .int 0, .int 0, .null, .null, .null, .int 0, .int 0, .int 0, .int 0]) hX dX11_init_6 fl_X11_7 ho (Nat.le_of_ble_eq_true rfl) rfl rfl rfl ?_
  refine e_aload_n hX dX11_init_9 rfl ?_
  refine e_bipush (v := nI 16) hX dX11_init_10 (by decide) ?_
  refine k_newi (N := 16) (r := 54) (cs2 := [.inl (0, 16, .inl (fun _ => 0))]) (c2 := 1) (s2 := 16) hX dX11_init_12 (by decide) (by decide) (by decide) (Nat.le_of_ble_eq_true rfl) (Nat.le_of_ble_eq_true rfl) (by rw [hN] <;> rfl) rfl rfl rfl ?_
  refine k_putF (fs2 := [.int (nI 2), .ref 54, .null, .null, .null, .null, .null, .null, .null, .int 0, .int 0, .int 0, .null, .null, .null, .null, .int 0, .null, .null, .null, .null, .null, .null, .null, .null, .int 0, .int 0, .int 0, .null, .null, .null, .int 0, .int 0, .int 0, .int 0]) hX dX11_init_14 fl_X11_13 rfl (fun C T N e => congrArg Prod.fst (Option.some.inj (e.symm.trans ci_10.1))) ho (Nat.le_of_ble_eq_true rfl) rfl rfl rfl ?_
  refine e_aload_n hX dX11_init_17 rfl ?_
  refine e_bipush (v := nI 16) hX dX11_init_18 (by decide) ?_
  refine k_newi (N := 16) (r := 55) (cs2 := [.inl (0, 16, .inl (fun _ => 0)), .inl (0, 16, .inl (fun _ => 0))]) (c2 := 2) (s2 := 32) hX dX11_init_20 (by decide) (by decide) (by decide) (Nat.le_of_ble_eq_true rfl) (Nat.le_of_ble_eq_true rfl) (by rw [hN] <;> rfl) rfl rfl rfl ?_
  refine k_putF (fs2 := [.int (nI 2), .ref 54, .ref 55, .null, .null, .null, .null, .null, .null, .int 0, .int 0, .int 0, .null, .null, .null, .null, .int 0, .null, .null, .null, .null, .null, .null, .null, .null, .int 0, .int 0, .int 0, .null, .null, .null, .int 0, .int 0, .int 0, .int 0]) hX dX11_init_22 fl_X11_17 rfl (fun C T N e => congrArg Prod.fst (Option.some.inj (e.symm.trans ci_10.1))) ho (Nat.le_of_ble_eq_true rfl) rfl rfl rfl ?_
  refine e_aload_n hX dX11_init_25 rfl ?_
  refine e_sipush (v := nI 2048) hX dX11_init_26 (by decide) ?_
  refine k_newi (N := 2048) (r := 56) (cs2 := [.inl (0, 16, .inl (fun _ => 0)), .inl (0, 16, .inl (fun _ => 0)), .inl (0, 2048, .inl (fun _ => 0))]) (c2 := 3) (s2 := 2080) hX dX11_init_29 (by decide) (by decide) (by decide) (Nat.le_of_ble_eq_true rfl) (Nat.le_of_ble_eq_true rfl) (by rw [hN] <;> rfl) rfl rfl rfl ?_
  refine k_putF (fs2 := [.int (nI 2), .ref 54, .ref 55, .ref 56, .null, .null, .null, .null, .null, .int 0, .int 0, .int 0, .null, .null, .null, .null, .int 0, .null, .null, .null, .null, .null, .null, .null, .null, .int 0, .int 0, .int 0, .null, .null, .null, .int 0, .int 0, .int 0, .int 0]) hX dX11_init_31 fl_X11_20 rfl (fun C T N e => congrArg Prod.fst (Option.some.inj (e.symm.trans ci_10.1))) ho (Nat.le_of_ble_eq_true rfl) rfl rfl rfl ?_
  refine e_aload_n hX dX11_init_34 rfl ?_
  refine e_sipush (v := nI 16384) hX dX11_init_35 (by decide) ?_
  refine k_newi (N := 16384) (r := 57) (cs2 := [.inl (0, 16, .inl (fun _ => 0)), .inl (0, 16, .inl (fun _ => 0)), .inl (0, 2048, .inl (fun _ => 0)), .inl (0, 16384, .inl (fun _ => 0))]) (c2 := 4) (s2 := 18464) hX dX11_init_38 (by decide) (by decide) (by decide) (Nat.le_of_ble_eq_true rfl) (Nat.le_of_ble_eq_true rfl) (by rw [hN] <;> rfl) rfl rfl rfl ?_
  refine k_putF (fs2 := [.int (nI 2), .ref 54, .ref 55, .ref 56, .ref 57, .null, .null, .null, .null, .int 0, .int 0, .int 0, .null, .null, .null, .null, .int 0, .null, .null, .null, .null, .null, .null, .null, .null, .int 0, .int 0, .int 0, .null, .null, .null, .int 0, .int 0, .int 0, .int 0]) hX dX11_init_40 fl_X11_23 rfl (fun C T N e => congrArg Prod.fst (Option.some.inj (e.symm.trans ci_10.1))) ho (Nat.le_of_ble_eq_true rfl) rfl rfl rfl ?_
  refine e_aload_n hX dX11_init_43 rfl ?_
  refine e_sipush (v := nI 2048) hX dX11_init_44 (by decide) ?_
  refine k_newz (N := 2048) (r := 58) (cs2 := [.inl (0, 16, .inl (fun _ => 0)), .inl (0, 16, .inl (fun _ => 0)), .inl (0, 2048, .inl (fun _ => 0)), .inl (0, 16384, .inl (fun _ => 0)), .inl (1, 2048, .inl (fun _ => 0))]) (c2 := 5) (s2 := 20512) hX dX11_init_47 (by decide) (by decide) (by decide) (Nat.le_of_ble_eq_true rfl) (Nat.le_of_ble_eq_true rfl) (by rw [hN] <;> rfl) rfl rfl rfl ?_
  refine k_putF (fs2 := [.int (nI 2), .ref 54, .ref 55, .ref 56, .ref 57, .ref 58, .null, .null, .null, .int 0, .int 0, .int 0, .null, .null, .null, .null, .int 0, .null, .null, .null, .null, .null, .null, .null, .null, .int 0, .int 0, .int 0, .null, .null, .null, .int 0, .int 0, .int 0, .int 0]) hX dX11_init_49 fl_X11_26 rfl (fun C T N e => congrArg Prod.fst (Option.some.inj (e.symm.trans ci_10.1))) ho (Nat.le_of_ble_eq_true rfl) rfl rfl rfl ?_
  refine e_aload_n hX dX11_init_52 rfl ?_
  refine e_bipush (v := nI 56) hX dX11_init_53 (by decide) ?_
  refine k_newi (N := 56) (r := 59) (cs2 := [.inl (0, 16, .inl (fun _ => 0)), .inl (0, 16, .inl (fun _ => 0)), .inl (0, 2048, .inl (fun _ => 0)), .inl (0, 16384, .inl (fun _ => 0)), .inl (1, 2048, .inl (fun _ => 0)), .inl (0, 56, .inl (fun _ => 0))]) (c2 := 6) (s2 := 20568) hX dX11_init_55 (by decide) (by decide) (by decide) (Nat.le_of_ble_eq_true rfl) (Nat.le_of_ble_eq_true rfl) (by rw [hN] <;> rfl) rfl rfl rfl ?_
  refine k_putF (fs2 := [.int (nI 2), .ref 54, .ref 55, .ref 56, .ref 57, .ref 58, .ref 59, .null, .null, .int 0, .int 0, .int 0, .null, .null, .null, .null, .int 0, .null, .null, .null, .null, .null, .null, .null, .null, .int 0, .int 0, .int 0, .null, .null, .null, .int 0, .int 0, .int 0, .int 0]) hX dX11_init_57 fl_X11_30 rfl (fun C T N e => congrArg Prod.fst (Option.some.inj (e.symm.trans ci_10.1))) ho (Nat.le_of_ble_eq_true rfl) rfl rfl rfl ?_
  refine e_aload_n hX dX11_init_60 rfl ?_
  refine e_bipush (v := nI 56) hX dX11_init_61 (by decide) ?_
  refine k_newi (N := 56) (r := 60) (cs2 := [.inl (0, 16, .inl (fun _ => 0)), .inl (0, 16, .inl (fun _ => 0)), .inl (0, 2048, .inl (fun _ => 0)), .inl (0, 16384, .inl (fun _ => 0)), .inl (1, 2048, .inl (fun _ => 0)), .inl (0, 56, .inl (fun _ => 0)), .inl (0, 56, .inl (fun _ => 0))]) (c2 := 7) (s2 := 20624) hX dX11_init_63 (by decide) (by decide) (by decide) (Nat.le_of_ble_eq_true rfl) (Nat.le_of_ble_eq_true rfl) (by rw [hN] <;> rfl) rfl rfl rfl ?_
  refine k_putF (fs2 := [.int (nI 2), .ref 54, .ref 55, .ref 56, .ref 57, .ref 58, .ref 59, .ref 60, .null, .int 0, .int 0, .int 0, .null, .null, .null, .null, .int 0, .null, .null, .null, .null, .null, .null, .null, .null, .int 0, .int 0, .int 0, .null, .null, .null, .int 0, .int 0, .int 0, .int 0]) hX dX11_init_65 fl_X11_33 rfl (fun C T N e => congrArg Prod.fst (Option.some.inj (e.symm.trans ci_10.1))) ho (Nat.le_of_ble_eq_true rfl) rfl rfl rfl ?_
  refine e_aload_n hX dX11_init_68 rfl ?_
  refine e_bipush (v := nI 56) hX dX11_init_69 (by decide) ?_
  refine k_newi (N := 56) (r := 61) (cs2 := [.inl (0, 16, .inl (fun _ => 0)), .inl (0, 16, .inl (fun _ => 0)), .inl (0, 2048, .inl (fun _ => 0)), .inl (0, 16384, .inl (fun _ => 0)), .inl (1, 2048, .inl (fun _ => 0)), .inl (0, 56, .inl (fun _ => 0)), .inl (0, 56, .inl (fun _ => 0)), .inl (0, 56, .inl (fun _ => 0))]) (c2 := 8) (s2 := 20680) hX dX11_init_71 (by decide) (by decide) (by decide) (Nat.le_of_ble_eq_true rfl) (Nat.le_of_ble_eq_true rfl) (by rw [hN] <;> rfl) rfl rfl rfl ?_
  refine k_putF (fs2 := [.int (nI 2), .ref 54, .ref 55, .ref 56, .ref 57, .ref 58, .ref 59, .ref 60, .ref 61, .int 0, .int 0, .int 0, .null, .null, .null, .null, .int 0, .null, .null, .null, .null, .null, .null, .null, .null, .int 0, .int 0, .int 0, .null, .null, .null, .int 0, .int 0, .int 0, .int 0]) hX dX11_init_73 fl_X11_36 rfl (fun C T N e => congrArg Prod.fst (Option.some.inj (e.symm.trans ci_10.1))) ho (Nat.le_of_ble_eq_true rfl) rfl rfl rfl ?_
  refine e_aload_n hX dX11_init_76 rfl ?_
  refine e_bipush (v := nI 20) hX dX11_init_77 (by decide) ?_
  refine k_newi (N := 20) (r := 62) (cs2 := [.inl (0, 16, .inl (fun _ => 0)), .inl (0, 16, .inl (fun _ => 0)), .inl (0, 2048, .inl (fun _ => 0)), .inl (0, 16384, .inl (fun _ => 0)), .inl (1, 2048, .inl (fun _ => 0)), .inl (0, 56, .inl (fun _ => 0)), .inl (0, 56, .inl (fun _ => 0)), .inl (0, 56, .inl (fun _ => 0)), .inl (0, 20, .inl (fun _ => 0))]) (c2 := 9) (s2 := 20700) hX dX11_init_79 (by decide) (by decide) (by decide) (Nat.le_of_ble_eq_true rfl) (Nat.le_of_ble_eq_true rfl) (by rw [hN] <;> rfl) rfl rfl rfl ?_
  refine k_putF (fs2 := [.int (nI 2), .ref 54, .ref 55, .ref 56, .ref 57, .ref 58, .ref 59, .ref 60, .ref 61, .int 0, .int 0, .int 0, .ref 62, .null, .null, .null, .int 0, .null, .null, .null, .null, .null, .null, .null, .null, .int 0, .int 0, .int 0, .null, .null, .null, .int 0, .int 0, .int 0, .int 0]) hX dX11_init_81 fl_X11_39 rfl (fun C T N e => congrArg Prod.fst (Option.some.inj (e.symm.trans ci_10.1))) ho (Nat.le_of_ble_eq_true rfl) rfl rfl rfl ?_
  refine e_aload_n hX dX11_init_84 rfl ?_
  refine e_bipush (v := nI 20) hX dX11_init_85 (by decide) ?_
  refine k_newi (N := 20) (r := 63) (cs2 := [.inl (0, 16, .inl (fun _ => 0)), .inl (0, 16, .inl (fun _ => 0)), .inl (0, 2048, .inl (fun _ => 0)), .inl (0, 16384, .inl (fun _ => 0)), .inl (1, 2048, .inl (fun _ => 0)), .inl (0, 56, .inl (fun _ => 0)), .inl (0, 56, .inl (fun _ => 0)), .inl (0, 56, .inl (fun _ => 0)), .inl (0, 20, .inl (fun _ => 0)), .inl (0, 20, .inl (fun _ => 0))]) (c2 := 10) (s2 := 20720) hX dX11_init_87 (by decide) (by decide) (by decide) (Nat.le_of_ble_eq_true rfl) (Nat.le_of_ble_eq_true rfl) (by rw [hN] <;> rfl) rfl rfl rfl ?_
  refine k_putF (fs2 := [.int (nI 2), .ref 54, .ref 55, .ref 56, .ref 57, .ref 58, .ref 59, .ref 60, .ref 61, .int 0, .int 0, .int 0, .ref 62, .ref 63, .null, .null, .int 0, .null, .null, .null, .null, .null, .null, .null, .null, .int 0, .int 0, .int 0, .null, .null, .null, .int 0, .int 0, .int 0, .int 0]) hX dX11_init_89 fl_X11_42 rfl (fun C T N e => congrArg Prod.fst (Option.some.inj (e.symm.trans ci_10.1))) ho (Nat.le_of_ble_eq_true rfl) rfl rfl rfl ?_
  refine e_aload_n hX dX11_init_92 rfl ?_
  refine e_bipush (v := nI 20) hX dX11_init_93 (by decide) ?_
  refine k_newi (N := 20) (r := 64) (cs2 := [.inl (0, 16, .inl (fun _ => 0)), .inl (0, 16, .inl (fun _ => 0)), .inl (0, 2048, .inl (fun _ => 0)), .inl (0, 16384, .inl (fun _ => 0)), .inl (1, 2048, .inl (fun _ => 0)), .inl (0, 56, .inl (fun _ => 0)), .inl (0, 56, .inl (fun _ => 0)), .inl (0, 56, .inl (fun _ => 0)), .inl (0, 20, .inl (fun _ => 0)), .inl (0, 20, .inl (fun _ => 0)), .inl (0, 20, .inl (fun _ => 0))]) (c2 := 11) (s2 := 20740) hX dX11_init_95 (by decide) (by decide) (by decide) (Nat.le_of_ble_eq_true rfl) (Nat.le_of_ble_eq_true rfl) (by rw [hN] <;> rfl) rfl rfl rfl ?_
  refine k_putF (fs2 := [.int (nI 2), .ref 54, .ref 55, .ref 56, .ref 57, .ref 58, .ref 59, .ref 60, .ref 61, .int 0, .int 0, .int 0, .ref 62, .ref 63, .ref 64, .null, .int 0, .null, .null, .null, .null, .null, .null, .null, .null, .int 0, .int 0, .int 0, .null, .null, .null, .int 0, .int 0, .int 0, .int 0]) hX dX11_init_97 fl_X11_45 rfl (fun C T N e => congrArg Prod.fst (Option.some.inj (e.symm.trans ci_10.1))) ho (Nat.le_of_ble_eq_true rfl) rfl rfl rfl ?_
  refine e_aload_n hX dX11_init_100 rfl ?_
  refine e_bipush (v := nI 20) hX dX11_init_101 (by decide) ?_
  refine k_newi (N := 20) (r := 65) (cs2 := [.inl (0, 16, .inl (fun _ => 0)), .inl (0, 16, .inl (fun _ => 0)), .inl (0, 2048, .inl (fun _ => 0)), .inl (0, 16384, .inl (fun _ => 0)), .inl (1, 2048, .inl (fun _ => 0)), .inl (0, 56, .inl (fun _ => 0)), .inl (0, 56, .inl (fun _ => 0)), .inl (0, 56, .inl (fun _ => 0)), .inl (0, 20, .inl (fun _ => 0)), .inl (0, 20, .inl (fun _ => 0)), .inl (0, 20, .inl (fun _ => 0)), .inl (0, 20, .inl (fun _ => 0))]) (c2 := 12) (s2 := 20760) hX dX11_init_103 (by decide) (by decide) (by decide) (Nat.le_of_ble_eq_true rfl) (Nat.le_of_ble_eq_true rfl) (by rw [hN] <;> rfl) rfl rfl rfl ?_
  refine k_putF (fs2 := [.int (nI 2), .ref 54, .ref 55, .ref 56, .ref 57, .ref 58, .ref 59, .ref 60, .ref 61, .int 0, .int 0, .int 0, .ref 62, .ref 63, .ref 64, .ref 65, .int 0, .null, .null, .null, .null, .null, .null, .null, .null, .int 0, .int 0, .int 0, .null, .null, .null, .int 0, .int 0, .int 0, .int 0]) hX dX11_init_105 fl_X11_48 rfl (fun C T N e => congrArg Prod.fst (Option.some.inj (e.symm.trans ci_10.1))) ho (Nat.le_of_ble_eq_true rfl) rfl rfl rfl ?_
  refine e_aload_n hX dX11_init_108 rfl ?_
  refine e_ldc (v := nI 224000) hX dX11_init_109 (tb_at 888 (by decide +kernel) rfl) ?_
  refine k_newi (N := 224000) (r := 66) (cs2 := [.inl (0, 16, .inl (fun _ => 0)), .inl (0, 16, .inl (fun _ => 0)), .inl (0, 2048, .inl (fun _ => 0)), .inl (0, 16384, .inl (fun _ => 0)), .inl (1, 2048, .inl (fun _ => 0)), .inl (0, 56, .inl (fun _ => 0)), .inl (0, 56, .inl (fun _ => 0)), .inl (0, 56, .inl (fun _ => 0)), .inl (0, 20, .inl (fun _ => 0)), .inl (0, 20, .inl (fun _ => 0)), .inl (0, 20, .inl (fun _ => 0)), .inl (0, 20, .inl (fun _ => 0)), .inl (0, 224000, .inl (fun _ => 0))]) (c2 := 13) (s2 := 244760) hX dX11_init_111 (by decide) (by decide) (by decide) (Nat.le_of_ble_eq_true rfl) (Nat.le_of_ble_eq_true rfl) (by rw [hN] <;> rfl) rfl rfl rfl ?_
  refine k_putF (fs2 := [.int (nI 2), .ref 54, .ref 55, .ref 56, .ref 57, .ref 58, .ref 59, .ref 60, .ref 61, .int 0, .int 0, .int 0, .ref 62, .ref 63, .ref 64, .ref 65, .int 0, .ref 66, .null, .null, .null, .null, .null, .null, .null, .int 0, .int 0, .int 0, .null, .null, .null, .int 0, .int 0, .int 0, .int 0]) hX dX11_init_113 fl_X11_52 rfl (fun C T N e => congrArg Prod.fst (Option.some.inj (e.symm.trans ci_10.1))) ho (Nat.le_of_ble_eq_true rfl) rfl rfl rfl ?_
  refine e_aload_n hX dX11_init_116 rfl ?_
  refine e_sipush (v := nI 4000) hX dX11_init_117 (by decide) ?_
  refine k_newl (N := 4000) (r := 67) (cs2 := [.inl (0, 16, .inl (fun _ => 0)), .inl (0, 16, .inl (fun _ => 0)), .inl (0, 2048, .inl (fun _ => 0)), .inl (0, 16384, .inl (fun _ => 0)), .inl (1, 2048, .inl (fun _ => 0)), .inl (0, 56, .inl (fun _ => 0)), .inl (0, 56, .inl (fun _ => 0)), .inl (0, 56, .inl (fun _ => 0)), .inl (0, 20, .inl (fun _ => 0)), .inl (0, 20, .inl (fun _ => 0)), .inl (0, 20, .inl (fun _ => 0)), .inl (0, 20, .inl (fun _ => 0)), .inl (0, 224000, .inl (fun _ => 0)), .inl (2, 4000, .inr (.inl (fun _ => 0)))]) (c2 := 14) (s2 := 248760) hX dX11_init_120 (by decide) (by decide) (by decide) (Nat.le_of_ble_eq_true rfl) (Nat.le_of_ble_eq_true rfl) (by rw [hN] <;> rfl) rfl rfl rfl ?_
  refine k_putF (fs2 := [.int (nI 2), .ref 54, .ref 55, .ref 56, .ref 57, .ref 58, .ref 59, .ref 60, .ref 61, .int 0, .int 0, .int 0, .ref 62, .ref 63, .ref 64, .ref 65, .int 0, .ref 66, .ref 67, .null, .null, .null, .null, .null, .null, .int 0, .int 0, .int 0, .null, .null, .null, .int 0, .int 0, .int 0, .int 0]) hX dX11_init_122 fl_X11_55 rfl (fun C T N e => congrArg Prod.fst (Option.some.inj (e.symm.trans ci_10.1))) ho (Nat.le_of_ble_eq_true rfl) rfl rfl rfl ?_
  refine e_aload_n hX dX11_init_125 rfl ?_
  refine e_sipush (v := nI 4000) hX dX11_init_126 (by decide) ?_
  refine k_newi (N := 4000) (r := 68) (cs2 := [.inl (0, 16, .inl (fun _ => 0)), .inl (0, 16, .inl (fun _ => 0)), .inl (0, 2048, .inl (fun _ => 0)), .inl (0, 16384, .inl (fun _ => 0)), .inl (1, 2048, .inl (fun _ => 0)), .inl (0, 56, .inl (fun _ => 0)), .inl (0, 56, .inl (fun _ => 0)), .inl (0, 56, .inl (fun _ => 0)), .inl (0, 20, .inl (fun _ => 0)), .inl (0, 20, .inl (fun _ => 0)), .inl (0, 20, .inl (fun _ => 0)), .inl (0, 20, .inl (fun _ => 0)), .inl (0, 224000, .inl (fun _ => 0)), .inl (2, 4000, .inr (.inl (fun _ => 0))), .inl (0, 4000, .inl (fun _ => 0))]) (c2 := 15) (s2 := 252760) hX dX11_init_129 (by decide) (by decide) (by decide) (Nat.le_of_ble_eq_true rfl) (Nat.le_of_ble_eq_true rfl) (by rw [hN] <;> rfl) rfl rfl rfl ?_
  refine k_putF (fs2 := [.int (nI 2), .ref 54, .ref 55, .ref 56, .ref 57, .ref 58, .ref 59, .ref 60, .ref 61, .int 0, .int 0, .int 0, .ref 62, .ref 63, .ref 64, .ref 65, .int 0, .ref 66, .ref 67, .ref 68, .null, .null, .null, .null, .null, .int 0, .int 0, .int 0, .null, .null, .null, .int 0, .int 0, .int 0, .int 0]) hX dX11_init_131 fl_X11_59 rfl (fun C T N e => congrArg Prod.fst (Option.some.inj (e.symm.trans ci_10.1))) ho (Nat.le_of_ble_eq_true rfl) rfl rfl rfl ?_
  refine e_aload_n hX dX11_init_134 rfl ?_
  refine e_sipush (v := nI 4000) hX dX11_init_135 (by decide) ?_
  refine k_newi (N := 4000) (r := 69) (cs2 := [.inl (0, 16, .inl (fun _ => 0)), .inl (0, 16, .inl (fun _ => 0)), .inl (0, 2048, .inl (fun _ => 0)), .inl (0, 16384, .inl (fun _ => 0)), .inl (1, 2048, .inl (fun _ => 0)), .inl (0, 56, .inl (fun _ => 0)), .inl (0, 56, .inl (fun _ => 0)), .inl (0, 56, .inl (fun _ => 0)), .inl (0, 20, .inl (fun _ => 0)), .inl (0, 20, .inl (fun _ => 0)), .inl (0, 20, .inl (fun _ => 0)), .inl (0, 20, .inl (fun _ => 0)), .inl (0, 224000, .inl (fun _ => 0)), .inl (2, 4000, .inr (.inl (fun _ => 0))), .inl (0, 4000, .inl (fun _ => 0)), .inl (0, 4000, .inl (fun _ => 0))]) (c2 := 16) (s2 := 256760) hX dX11_init_138 (by decide) (by decide) (by decide) (Nat.le_of_ble_eq_true rfl) (Nat.le_of_ble_eq_true rfl) (by rw [hN] <;> rfl) rfl rfl rfl ?_
  refine k_putF (fs2 := [.int (nI 2), .ref 54, .ref 55, .ref 56, .ref 57, .ref 58, .ref 59, .ref 60, .ref 61, .int 0, .int 0, .int 0, .ref 62, .ref 63, .ref 64, .ref 65, .int 0, .ref 66, .ref 67, .ref 68, .ref 69, .null, .null, .null, .null, .int 0, .int 0, .int 0, .null, .null, .null, .int 0, .int 0, .int 0, .int 0]) hX dX11_init_140 fl_X11_62 rfl (fun C T N e => congrArg Prod.fst (Option.some.inj (e.symm.trans ci_10.1))) ho (Nat.le_of_ble_eq_true rfl) rfl rfl rfl ?_
  refine e_aload_n hX dX11_init_143 rfl ?_
  refine e_sipush (v := nI 4000) hX dX11_init_144 (by decide) ?_
  refine k_newi (N := 4000) (r := 70) (cs2 := [.inl (0, 16, .inl (fun _ => 0)), .inl (0, 16, .inl (fun _ => 0)), .inl (0, 2048, .inl (fun _ => 0)), .inl (0, 16384, .inl (fun _ => 0)), .inl (1, 2048, .inl (fun _ => 0)), .inl (0, 56, .inl (fun _ => 0)), .inl (0, 56, .inl (fun _ => 0)), .inl (0, 56, .inl (fun _ => 0)), .inl (0, 20, .inl (fun _ => 0)), .inl (0, 20, .inl (fun _ => 0)), .inl (0, 20, .inl (fun _ => 0)), .inl (0, 20, .inl (fun _ => 0)), .inl (0, 224000, .inl (fun _ => 0)), .inl (2, 4000, .inr (.inl (fun _ => 0))), .inl (0, 4000, .inl (fun _ => 0)), .inl (0, 4000, .inl (fun _ => 0)), .inl (0, 4000, .inl (fun _ => 0))]) (c2 := 17) (s2 := 260760) hX dX11_init_147 (by decide) (by decide) (by decide) (Nat.le_of_ble_eq_true rfl) (Nat.le_of_ble_eq_true rfl) (by rw [hN] <;> rfl) rfl rfl rfl ?_
  refine k_putF (fs2 := [.int (nI 2), .ref 54, .ref 55, .ref 56, .ref 57, .ref 58, .ref 59, .ref 60, .ref 61, .int 0, .int 0, .int 0, .ref 62, .ref 63, .ref 64, .ref 65, .int 0, .ref 66, .ref 67, .ref 68, .ref 69, .ref 70, .null, .null, .null, .int 0, .int 0, .int 0, .null, .null, .null, .int 0, .int 0, .int 0, .int 0]) hX dX11_init_149 fl_X11_65 rfl (fun C T N e => congrArg Prod.fst (Option.some.inj (e.symm.trans ci_10.1))) ho (Nat.le_of_ble_eq_true rfl) rfl rfl rfl ?_
  refine e_aload_n hX dX11_init_152 rfl ?_
  refine e_ldc (v := nI 80000) hX dX11_init_153 (tb_at 889 (by decide +kernel) rfl) ?_
  refine k_newi (N := 80000) (r := 71) (cs2 := [.inl (0, 16, .inl (fun _ => 0)), .inl (0, 16, .inl (fun _ => 0)), .inl (0, 2048, .inl (fun _ => 0)), .inl (0, 16384, .inl (fun _ => 0)), .inl (1, 2048, .inl (fun _ => 0)), .inl (0, 56, .inl (fun _ => 0)), .inl (0, 56, .inl (fun _ => 0)), .inl (0, 56, .inl (fun _ => 0)), .inl (0, 20, .inl (fun _ => 0)), .inl (0, 20, .inl (fun _ => 0)), .inl (0, 20, .inl (fun _ => 0)), .inl (0, 20, .inl (fun _ => 0)), .inl (0, 224000, .inl (fun _ => 0)), .inl (2, 4000, .inr (.inl (fun _ => 0))), .inl (0, 4000, .inl (fun _ => 0)), .inl (0, 4000, .inl (fun _ => 0)), .inl (0, 4000, .inl (fun _ => 0)), .inl (0, 80000, .inl (fun _ => 0))]) (c2 := 18) (s2 := 340760) hX dX11_init_155 (by decide) (by decide) (by decide) (Nat.le_of_ble_eq_true rfl) (Nat.le_of_ble_eq_true rfl) (by rw [hN] <;> rfl) rfl rfl rfl ?_
  refine k_putF (fs2 := [.int (nI 2), .ref 54, .ref 55, .ref 56, .ref 57, .ref 58, .ref 59, .ref 60, .ref 61, .int 0, .int 0, .int 0, .ref 62, .ref 63, .ref 64, .ref 65, .int 0, .ref 66, .ref 67, .ref 68, .ref 69, .ref 70, .ref 71, .null, .null, .int 0, .int 0, .int 0, .null, .null, .null, .int 0, .int 0, .int 0, .int 0]) hX dX11_init_157 fl_X11_69 rfl (fun C T N e => congrArg Prod.fst (Option.some.inj (e.symm.trans ci_10.1))) ho (Nat.le_of_ble_eq_true rfl) rfl rfl rfl ?_
  refine e_aload_n hX dX11_init_160 rfl ?_
  refine e_sipush (v := nI 4000) hX dX11_init_161 (by decide) ?_
  refine k_newz (N := 4000) (r := 72) (cs2 := [.inl (0, 16, .inl (fun _ => 0)), .inl (0, 16, .inl (fun _ => 0)), .inl (0, 2048, .inl (fun _ => 0)), .inl (0, 16384, .inl (fun _ => 0)), .inl (1, 2048, .inl (fun _ => 0)), .inl (0, 56, .inl (fun _ => 0)), .inl (0, 56, .inl (fun _ => 0)), .inl (0, 56, .inl (fun _ => 0)), .inl (0, 20, .inl (fun _ => 0)), .inl (0, 20, .inl (fun _ => 0)), .inl (0, 20, .inl (fun _ => 0)), .inl (0, 20, .inl (fun _ => 0)), .inl (0, 224000, .inl (fun _ => 0)), .inl (2, 4000, .inr (.inl (fun _ => 0))), .inl (0, 4000, .inl (fun _ => 0)), .inl (0, 4000, .inl (fun _ => 0)), .inl (0, 4000, .inl (fun _ => 0)), .inl (0, 80000, .inl (fun _ => 0)), .inl (1, 4000, .inl (fun _ => 0))]) (c2 := 19) (s2 := 344760) hX dX11_init_164 (by decide) (by decide) (by decide) (Nat.le_of_ble_eq_true rfl) (Nat.le_of_ble_eq_true rfl) (by rw [hN] <;> rfl) rfl rfl rfl ?_
  refine k_putF (fs2 := [.int (nI 2), .ref 54, .ref 55, .ref 56, .ref 57, .ref 58, .ref 59, .ref 60, .ref 61, .int 0, .int 0, .int 0, .ref 62, .ref 63, .ref 64, .ref 65, .int 0, .ref 66, .ref 67, .ref 68, .ref 69, .ref 70, .ref 71, .ref 72, .null, .int 0, .int 0, .int 0, .null, .null, .null, .int 0, .int 0, .int 0, .int 0]) hX dX11_init_166 fl_X11_72 rfl (fun C T N e => congrArg Prod.fst (Option.some.inj (e.symm.trans ci_10.1))) ho (Nat.le_of_ble_eq_true rfl) rfl rfl rfl ?_
  refine e_aload_n hX dX11_init_169 rfl ?_
  refine e_sipush (v := nI 4000) hX dX11_init_170 (by decide) ?_
  refine k_newz (N := 4000) (r := 73) (cs2 := [.inl (0, 16, .inl (fun _ => 0)), .inl (0, 16, .inl (fun _ => 0)), .inl (0, 2048, .inl (fun _ => 0)), .inl (0, 16384, .inl (fun _ => 0)), .inl (1, 2048, .inl (fun _ => 0)), .inl (0, 56, .inl (fun _ => 0)), .inl (0, 56, .inl (fun _ => 0)), .inl (0, 56, .inl (fun _ => 0)), .inl (0, 20, .inl (fun _ => 0)), .inl (0, 20, .inl (fun _ => 0)), .inl (0, 20, .inl (fun _ => 0)), .inl (0, 20, .inl (fun _ => 0)), .inl (0, 224000, .inl (fun _ => 0)), .inl (2, 4000, .inr (.inl (fun _ => 0))), .inl (0, 4000, .inl (fun _ => 0)), .inl (0, 4000, .inl (fun _ => 0)), .inl (0, 4000, .inl (fun _ => 0)), .inl (0, 80000, .inl (fun _ => 0)), .inl (1, 4000, .inl (fun _ => 0)), .inl (1, 4000, .inl (fun _ => 0))]) (c2 := 20) (s2 := 348760) hX dX11_init_173 (by decide) (by decide) (by decide) (Nat.le_of_ble_eq_true rfl) (Nat.le_of_ble_eq_true rfl) (by rw [hN] <;> rfl) rfl rfl rfl ?_
  refine k_putF (fs2 := [.int (nI 2), .ref 54, .ref 55, .ref 56, .ref 57, .ref 58, .ref 59, .ref 60, .ref 61, .int 0, .int 0, .int 0, .ref 62, .ref 63, .ref 64, .ref 65, .int 0, .ref 66, .ref 67, .ref 68, .ref 69, .ref 70, .ref 71, .ref 72, .ref 73, .int 0, .int 0, .int 0, .null, .null, .null, .int 0, .int 0, .int 0, .int 0]) hX dX11_init_175 fl_X11_75 rfl (fun C T N e => congrArg Prod.fst (Option.some.inj (e.symm.trans ci_10.1))) ho (Nat.le_of_ble_eq_true rfl) rfl rfl rfl ?_
  refine e_aload_n hX dX11_init_178 rfl ?_
  refine e_sipush (v := nI 200) hX dX11_init_179 (by decide) ?_
  refine k_newi (N := 200) (r := 74) (cs2 := [.inl (0, 16, .inl (fun _ => 0)), .inl (0, 16, .inl (fun _ => 0)), .inl (0, 2048, .inl (fun _ => 0)), .inl (0, 16384, .inl (fun _ => 0)), .inl (1, 2048, .inl (fun _ => 0)), .inl (0, 56, .inl (fun _ => 0)), .inl (0, 56, .inl (fun _ => 0)), .inl (0, 56, .inl (fun _ => 0)), .inl (0, 20, .inl (fun _ => 0)), .inl (0, 20, .inl (fun _ => 0)), .inl (0, 20, .inl (fun _ => 0)), .inl (0, 20, .inl (fun _ => 0)), .inl (0, 224000, .inl (fun _ => 0)), .inl (2, 4000, .inr (.inl (fun _ => 0))), .inl (0, 4000, .inl (fun _ => 0)), .inl (0, 4000, .inl (fun _ => 0)), .inl (0, 4000, .inl (fun _ => 0)), .inl (0, 80000, .inl (fun _ => 0)), .inl (1, 4000, .inl (fun _ => 0)), .inl (1, 4000, .inl (fun _ => 0)), .inl (0, 200, .inl (fun _ => 0))]) (c2 := 21) (s2 := 348960) hX dX11_init_182 (by decide) (by decide) (by decide) (Nat.le_of_ble_eq_true rfl) (Nat.le_of_ble_eq_true rfl) (by rw [hN] <;> rfl) rfl rfl rfl ?_
  refine k_putF (fs2 := [.int (nI 2), .ref 54, .ref 55, .ref 56, .ref 57, .ref 58, .ref 59, .ref 60, .ref 61, .int 0, .int 0, .int 0, .ref 62, .ref 63, .ref 64, .ref 65, .int 0, .ref 66, .ref 67, .ref 68, .ref 69, .ref 70, .ref 71, .ref 72, .ref 73, .int 0, .int 0, .int 0, .ref 74, .null, .null, .int 0, .int 0, .int 0, .int 0]) hX dX11_init_184 fl_X11_78 rfl (fun C T N e => congrArg Prod.fst (Option.some.inj (e.symm.trans ci_10.1))) ho (Nat.le_of_ble_eq_true rfl) rfl rfl rfl ?_
  refine e_aload_n hX dX11_init_187 rfl ?_
  refine e_sipush (v := nI 200) hX dX11_init_188 (by decide) ?_
  refine k_newi (N := 200) (r := 75) (cs2 := [.inl (0, 16, .inl (fun _ => 0)), .inl (0, 16, .inl (fun _ => 0)), .inl (0, 2048, .inl (fun _ => 0)), .inl (0, 16384, .inl (fun _ => 0)), .inl (1, 2048, .inl (fun _ => 0)), .inl (0, 56, .inl (fun _ => 0)), .inl (0, 56, .inl (fun _ => 0)), .inl (0, 56, .inl (fun _ => 0)), .inl (0, 20, .inl (fun _ => 0)), .inl (0, 20, .inl (fun _ => 0)), .inl (0, 20, .inl (fun _ => 0)), .inl (0, 20, .inl (fun _ => 0)), .inl (0, 224000, .inl (fun _ => 0)), .inl (2, 4000, .inr (.inl (fun _ => 0))), .inl (0, 4000, .inl (fun _ => 0)), .inl (0, 4000, .inl (fun _ => 0)), .inl (0, 4000, .inl (fun _ => 0)), .inl (0, 80000, .inl (fun _ => 0)), .inl (1, 4000, .inl (fun _ => 0)), .inl (1, 4000, .inl (fun _ => 0)), .inl (0, 200, .inl (fun _ => 0)), .inl (0, 200, .inl (fun _ => 0))]) (c2 := 22) (s2 := 349160) hX dX11_init_191 (by decide) (by decide) (by decide) (Nat.le_of_ble_eq_true rfl) (Nat.le_of_ble_eq_true rfl) (by rw [hN] <;> rfl) rfl rfl rfl ?_
  refine k_putF (fs2 := [.int (nI 2), .ref 54, .ref 55, .ref 56, .ref 57, .ref 58, .ref 59, .ref 60, .ref 61, .int 0, .int 0, .int 0, .ref 62, .ref 63, .ref 64, .ref 65, .int 0, .ref 66, .ref 67, .ref 68, .ref 69, .ref 70, .ref 71, .ref 72, .ref 73, .int 0, .int 0, .int 0, .ref 74, .ref 75, .null, .int 0, .int 0, .int 0, .int 0]) hX dX11_init_193 fl_X11_81 rfl (fun C T N e => congrArg Prod.fst (Option.some.inj (e.symm.trans ci_10.1))) ho (Nat.le_of_ble_eq_true rfl) rfl rfl rfl ?_
  refine e_aload_n hX dX11_init_196 rfl ?_
  refine e_sipush (v := nI 200) hX dX11_init_197 (by decide) ?_
  refine k_newi (N := 200) (r := 76) (cs2 := G11) (c2 := 23) (s2 := 349360) hX dX11_init_200 (by decide) (by decide) (by decide) (Nat.le_of_ble_eq_true rfl) (Nat.le_of_ble_eq_true rfl) (by rw [hN] <;> rfl) rfl rfl rfl ?_
  refine k_putF (fs2 := [.int (nI 2), .ref 54, .ref 55, .ref 56, .ref 57, .ref 58, .ref 59, .ref 60, .ref 61, .int 0, .int 0, .int 0, .ref 62, .ref 63, .ref 64, .ref 65, .int 0, .ref 66, .ref 67, .ref 68, .ref 69, .ref 70, .ref 71, .ref 72, .ref 73, .int 0, .int 0, .int 0, .ref 74, .ref 75, .ref 76, .int 0, .int 0, .int 0, .int 0]) hX dX11_init_202 fl_X11_84 rfl (fun C T N e => congrArg Prod.fst (Option.some.inj (e.symm.trans ci_10.1))) ho (Nat.le_of_ble_eq_true rfl) rfl rfl rfl ?_
  refine e_aload_n hX dX11_init_205 rfl ?_
  refine e_iconst (v := nI 1) hX dX11_init_206 (by decide) ?_
  refine k_put (fs2 := [.int (nI 2), .ref 54, .ref 55, .ref 56, .ref 57, .ref 58, .ref 59, .ref 60, .ref 61, .int 0, .int 0, .int 0, .ref 62, .ref 63, .ref 64, .ref 65, .int 0, .ref 66, .ref 67, .ref 68, .ref 69, .ref 70, .ref 71, .ref 72, .ref 73, .int 0, .int 0, .int 0, .ref 74, .ref 75, .ref 76, .int 0, .int 0, .int (nI 1), .int 0]) hX dX11_init_207 fl_X11_87 ho (Nat.le_of_ble_eq_true rfl) rfl rfl rfl ?_
  have hS : St 77 (s0M σ) (h.set 53 (.inr (10, [.int (nI 2), .ref 54, .ref 55, .ref 56, .ref 57, .ref 58, .ref 59, .ref 60, .ref 61, .int 0, .int 0, .int 0, .ref 62, .ref 63, .ref 64, .ref 65, .int 0, .ref 66, .ref 67, .ref 68, .ref 69, .ref 70, .ref 71, .ref 72, .ref 73, .int 0, .int 0, .int 0, .ref 74, .ref 75, .ref 76, .int 0, .int 0, .int (nI 1), .int 0])) ++ G11) :=
    ⟨by rw [hk_len, hN] <;> rfl, fun a ha => by
    by_cases h53 : a < 53
    · rw [hk_old (by omega) (by omega), hO a h53, cel_eq (s0M_old h53)]
    · by_cases e : a = 53
      · subst e; exact (hk_at (ho := ho)).trans (congrArg some (c53 σ).symm)
      · have := G11_at σ (a - 54) (by omega)
        rw [show 54 + (a - 54) = a by omega] at this
        exact hk_at2 (j := a - 54) hN (by omega) this⟩
  generalize (h.set 53 (.inr (10, [.int (nI 2), .ref 54, .ref 55, .ref 56, .ref 57, .ref 58, .ref 59, .ref 60, .ref 61, .int 0, .int 0, .int 0, .ref 62, .ref 63, .ref 64, .ref 65, .int 0, .ref 66, .ref 67, .ref 68, .ref 69, .ref 70, .ref 71, .ref 72, .ref 73, .int 0, .int 0, .int 0, .ref 74, .ref 75, .ref 76, .int 0, .int 0, .int (nI 1), .int 0])) ++ G11) = h1 at hS ⊢
  refine e_iconst (v := nI 0) hX dX11_init_210 (by decide) ?_
  refine e_istore_n hX dX11_init_211 (Nat.le_of_ble_eq_true rfl) rfl rfl ?_
  exact LP 2048 0 (by omega) _ _ hS Off.rf (fun i hi => absurd hi (Nat.not_lt_zero i))
