/-! ===== constructors: the heap is the one at the entry, with the object's own cell changed, and new cells behind it ===== -/
section KC
variable {M : MI} {X : CT} {Z : State → Prop} {pc : Nat} {L : List (Option Value)} {st : List Value} {h : List AC} {cells slots : Nat} {o : Nat} {c : AC} {cs : List AC}
theorem hk_at {ho : o < h.length} : (h.set o c ++ cs)[o]? = some c := by
  rw [List.getElem?_append_left (by rw [List.length_set]; exact ho), List.getElem?_set_self ho]
theorem hk_set {c2 : AC} (ho : o < h.length) : (h.set o c ++ cs).set o c2 = h.set o c2 ++ cs := by
  rw [List.set_append_left _ _ (by rw [List.length_set]; exact ho), List.set_set]
theorem hk_at2 {N j r : Nat} {x : AC} (hN : h.length = N) (hr : N + j = r) (e : cs[j]? = some x) : (h.set o c ++ cs)[r]? = some x := by
  rw [List.getElem?_append_right (by rw [List.length_set]; omega), List.length_set, show r - h.length = j by omega]
  exact e
theorem hk_set2 {j r : Nat} {x : AC} (hr : h.length + j = r) : (h.set o c ++ cs).set r x = h.set o c ++ cs.set j x := by
  rw [List.set_append_right _ _ (by rw [List.length_set]; omega), List.length_set, show r - h.length = j by omega]
theorem hk_len : (h.set o c ++ cs).length = h.length + cs.length := by rw [List.length_append, List.length_set]
theorem k_begin (hg : h[o]? = some c) (k : Ew M X Z pc L st (h.set o c ++ []) cells slots) : Ew M X Z pc L st h cells slots := by
  have e : h.set o c ++ [] = h := by
    rw [List.append_nil]
    obtain ⟨h1, h2⟩ := List.getElem?_eq_some_iff.mp hg
    rw [← h2]
    exact List.set_getElem_self h1
  rw [e] at k
  exact k
theorem k_put {idx ci kk : Nat} {ty : FieldType} {fs fs2 : List Value} {v : Value} (hX : Cx M X) (d : decode (mB M) pc = .ok (.putfield idx, 3)) (lk : Fl (mY M).cls idx ci kk ty false) (ho : o < h.length) (hl0 : kk < fs.length) (hn : narrow ty v = v) (hf : fits ty v = true) (e : fs.set kk v = fs2) (k : Ew M X Z (pc + 3) L st (h.set o (.inr (ci, fs2)) ++ cs) cells slots) : Ew M X Z pc L (v :: .ref o :: st) (h.set o (.inr (ci, fs)) ++ cs) cells slots := by
  refine e_put hX d lk (hk_at (ho := ho)) hl0 hn hf ?_
  rw [hk_set ho, e]
  exact k
theorem k_putF {idx ci kk : Nat} {ty : FieldType} {fs fs2 : List Value} {v : Value} (hX : Cx M X) (d : decode (mB M) pc = .ok (.putfield idx, 3)) (lk : Fl (mY M).cls idx ci kk ty true) (hi0 : (mY M).name = "<init>") (hcc : ∀ C T N, vwCl[ci]? = some (C, T, N) → C = (mY M).cls) (ho : o < h.length) (hl0 : kk < fs.length) (hn : narrow ty v = v) (hf : fits ty v = true) (e : fs.set kk v = fs2) (k : Ew M X Z (pc + 3) L st (h.set o (.inr (ci, fs2)) ++ cs) cells slots) : Ew M X Z pc L (v :: .ref o :: st) (h.set o (.inr (ci, fs)) ++ cs) cells slots := by
  refine e_putF hX d lk hi0 hcc (hk_at (ho := ho)) hl0 hn hf ?_
  rw [hk_set ho, e]
  exact k
theorem k_get {idx ci kk : Nat} {ty : FieldType} {fin : Bool} {fs : List Value} {v : Value} (hX : Cx M X) (d : decode (mB M) pc = .ok (.getfield idx, 3)) (lk : Fl (mY M).cls idx ci kk ty fin) (ho : o < h.length) (hv : fs[kk]? = some v) (k : Ew M X Z (pc + 3) L (v :: st) (h.set o (.inr (ci, fs)) ++ cs) cells slots) : Ew M X Z pc L (.ref o :: st) (h.set o (.inr (ci, fs)) ++ cs) cells slots := e_get hX d lk (hk_at (ho := ho)) hv k
theorem k_newi {n : Int32} {N r c2 s2 : Nat} {cs2 : List AC} (hX : Cx M X) (d : decode (mB M) pc = .ok (.newarray .int, 2)) (hn : ¬ n < 0) (hN : n.toNatClampNeg = N) (hby : N * componentBytes .int ≤ 536870912) (hc1 : cells + 1 ≤ mC M) (hs1 : slots + N ≤ mS M) (hr : h.length + cs.length = r) (e : cs ++ [.inl (0, N, .inl (fun _ => 0))] = cs2) (hc : cells + 1 = c2) (hs : slots + N = s2) (k : Ew M X Z (pc + 2) L (.ref r :: st) (h.set o c ++ cs2) c2 s2) : Ew M X Z pc L (.int n :: st) (h.set o c ++ cs) cells slots := by
  refine e_newi hX d hn hN hby hc1 hs1 ?_
  rw [hk_len, hr, List.append_assoc, e, hc, hs]
  exact k
theorem k_newz {n : Int32} {N r c2 s2 : Nat} {cs2 : List AC} (hX : Cx M X) (d : decode (mB M) pc = .ok (.newarray .boolean, 2)) (hn : ¬ n < 0) (hN : n.toNatClampNeg = N) (hby : N * componentBytes .boolean ≤ 536870912) (hc1 : cells + 1 ≤ mC M) (hs1 : slots + N ≤ mS M) (hr : h.length + cs.length = r) (e : cs ++ [.inl (1, N, .inl (fun _ => 0))] = cs2) (hc : cells + 1 = c2) (hs : slots + N = s2) (k : Ew M X Z (pc + 2) L (.ref r :: st) (h.set o c ++ cs2) c2 s2) : Ew M X Z pc L (.int n :: st) (h.set o c ++ cs) cells slots := by
  refine e_newz hX d hn hN hby hc1 hs1 ?_
  rw [hk_len, hr, List.append_assoc, e, hc, hs]
  exact k
theorem k_newl {n : Int32} {N r c2 s2 : Nat} {cs2 : List AC} (hX : Cx M X) (d : decode (mB M) pc = .ok (.newarray .long, 2)) (hn : ¬ n < 0) (hN : n.toNatClampNeg = N) (hby : N * componentBytes .long ≤ 536870912) (hc1 : cells + 1 ≤ mC M) (hs1 : slots + N ≤ mS M) (hr : h.length + cs.length = r) (e : cs ++ [.inl (2, N, .inr (.inl (fun _ => 0)))] = cs2) (hc : cells + 1 = c2) (hs : slots + N = s2) (k : Ew M X Z (pc + 2) L (.ref r :: st) (h.set o c ++ cs2) c2 s2) : Ew M X Z pc L (.int n :: st) (h.set o c ++ cs) cells slots := by
  refine e_newl hX d hn hN hby hc1 hs1 ?_
  rw [hk_len, hr, List.append_assoc, e, hc, hs]
  exact k
theorem k_new {idx ci N r c2 s2 : Nat} {C : String} {T : u_T} {tf : Nat → FieldType} {fs : List Value} {cs2 : List AC} (hX : Cx M X) (d : decode (mB M) pc = .ok (.new idx, 3)) (hci : CiOk ci C T N tf) (lk : Cond.classLink (mY M).cls idx C ∈ tb) (hfs : ∀ j, j < N → defaultValue (tf j) = vp_V fs j) (hrf : ∀ b : Nat, fs.map (rv b) = fs) (hc1 : cells + 1 ≤ mC M) (hs1 : slots + N ≤ mS M) (hr : h.length + cs.length = r) (e : cs ++ [.inr (ci, fs)] = cs2) (hc : cells + 1 = c2) (hs : slots + N = s2) (k : Ew M X Z (pc + 3) L (.ref r :: st) (h.set o c ++ cs2) c2 s2) : Ew M X Z pc L st (h.set o c ++ cs) cells slots := by
  refine e_new hX d hci lk hfs hrf hc1 hs1 ?_
  rw [hk_len, hr, List.append_assoc, e, hc, hs]
  exact k
theorem k_callI {M2 : MI} {as rest : List Value} {idx n r j c2 s2 : Nat} {c' : AC} {cs' cs2 : List AC} (hX : Cx M X) (d : decode (mB M) pc = .ok (.invokespecial idx, 3)) (hok : MkOk M2 n) (hrn : mR M2 = none) (lk : LkI (mY M).cls idx M2) (hE : Em M2 (.ref r :: as) (h.set o c ++ cs) (fun q h' => q = none ∧ h' = (h.set o c ++ cs).set r c' ++ cs')) (hr : h.length + j = r) (hj : j < cs.length) (hn : as.length = n) (hfr : mF M2 + 1 ≤ mF M) (hlo : 8 + (mL M2 + 11) + mO M2 ≤ mO M) (hc1 : cells + mC M2 ≤ mC M) (hs1 : slots + mS M2 ≤ mS M) (hrest : decide ((rest.map fun v => v.category).sum ≤ 8) = true) (hLl : L.length = mL M) (e2 : cs.set j c' ++ cs' = cs2) (hc : cells + mC M2 = c2) (hs : slots + mS M2 = s2) (k : Ew M X Z (pc + 3) L rest (h.set o c ++ cs2) c2 s2) : Ew M X Z pc L (ps as (.ref r :: rest)) (h.set o c ++ cs) cells slots := by
  refine e_callI hX d hok hrn lk hE hn hfr hlo hc1 hs1 (of_decide_eq_true hrest) hLl (fun q h' hq => ?_)
  obtain ⟨rfl, rfl⟩ := hq
  rw [hk_set2 hr, List.append_assoc, e2, hc, hs]
  exact k
theorem k_fill {rest : List Value} {idx r j len : Nat} {x : Int32} {f : Nat → Int32} {cs2 : List AC} (hX : Cx M X) (d : decode (mB M) pc = .ok (.invokestatic idx, 3)) (lk : LkS (mY M).cls idx mJ7_fill_53178) (hE : Em mJ7_fill_53178 [.ref r, .int x] (h.set o c ++ cs) (fun q h' => q = none ∧ h' = (h.set o c ++ cs).set r (.inl (0, len, .inl (filF f x len))))) (hr : h.length + j = r) (hfr : mF mJ7_fill_53178 + 1 ≤ mF M) (hlo : 8 + (mL mJ7_fill_53178 + 11) + mO mJ7_fill_53178 ≤ mO M) (hc1 : cells + mC mJ7_fill_53178 ≤ mC M) (hs1 : slots + mS mJ7_fill_53178 ≤ mS M) (hrest : (rest.map fun v => v.category).sum ≤ 8) (hLl : L.length = mL M) (e2 : cs.set j (.inl (0, len, .inl (filF f x len))) = cs2) (k : Ew M X Z (pc + 3) L rest (h.set o c ++ cs2) cells slots) : Ew M X Z pc L (.int x :: .ref r :: rest) (h.set o c ++ cs) cells slots := by
  refine e_callS (as := [.ref r, .int x]) hX d mk_J7_fill_53178 lk hE rfl hfr hlo hc1 hs1 hrest hLl (fun q h' hq => ?_)
  obtain ⟨rfl, rfl⟩ := hq
  rw [hk_set2 hr, e2]
  exact k
end KC
theorem df_X0 : ∀ j, j < 4 → defaultValue (tyX0 j) = vp_V [.null, .int 0, .int 0, .int 0] j := fun j hj => match j, hj with
  | 0, _ => rfl
  | 1, _ => rfl
  | 2, _ => rfl
  | 3, _ => rfl
  | j + 4, hj => absurd hj (by omega)
theorem df_X1 : ∀ j, j < 17 → defaultValue (tyX1 j) = vp_V [.null, .null, .null, .null, .null, .null, .null, .null, .null, .null, .null, .null, .null, .int 0, .int 0, .int 0, .int 0] j := fun j hj => match j, hj with
  | 0, _ => rfl
  | 1, _ => rfl
  | 2, _ => rfl
  | 3, _ => rfl
  | 4, _ => rfl
  | 5, _ => rfl
  | 6, _ => rfl
  | 7, _ => rfl
  | 8, _ => rfl
  | 9, _ => rfl
  | 10, _ => rfl
  | 11, _ => rfl
  | 12, _ => rfl
  | 13, _ => rfl
  | 14, _ => rfl
  | 15, _ => rfl
  | 16, _ => rfl
  | j + 17, hj => absurd hj (by omega)
theorem df_X2 : ∀ j, j < 4 → defaultValue (tyX2 j) = vp_V [.null, .null, .null, .null] j := fun j hj => match j, hj with
  | 0, _ => rfl
  | 1, _ => rfl
  | 2, _ => rfl
  | 3, _ => rfl
  | j + 4, hj => absurd hj (by omega)
theorem df_X3 : ∀ j, j < 4 → defaultValue (tyX3 j) = vp_V [.null, .null, .null, .int 0] j := fun j hj => match j, hj with
  | 0, _ => rfl
  | 1, _ => rfl
  | 2, _ => rfl
  | 3, _ => rfl
  | j + 4, hj => absurd hj (by omega)
theorem df_X5 : ∀ j, j < 2 → defaultValue (tyX5 j) = vp_V [.null, .int 0] j := fun j hj => match j, hj with
  | 0, _ => rfl
  | 1, _ => rfl
  | j + 2, hj => absurd hj (by omega)
theorem df_X6 : ∀ j, j < 8 → defaultValue (tyX6 j) = vp_V [.int 0, .null, .null, .null, .null, .null, .null, .null] j := fun j hj => match j, hj with
  | 0, _ => rfl
  | 1, _ => rfl
  | 2, _ => rfl
  | 3, _ => rfl
  | 4, _ => rfl
  | 5, _ => rfl
  | 6, _ => rfl
  | 7, _ => rfl
  | j + 8, hj => absurd hj (by omega)
theorem df_X7 : ∀ j, j < 3 → defaultValue (tyX7 j) = vp_V [.long 0, .int 0, .null] j := fun j hj => match j, hj with
  | 0, _ => rfl
  | 1, _ => rfl
  | 2, _ => rfl
  | j + 3, hj => absurd hj (by omega)
theorem df_X8 : ∀ j, j < 5 → defaultValue (tyX8 j) = vp_V [.null, .null, .null, .null, .int 0] j := fun j hj => match j, hj with
  | 0, _ => rfl
  | 1, _ => rfl
  | 2, _ => rfl
  | 3, _ => rfl
  | 4, _ => rfl
  | j + 5, hj => absurd hj (by omega)
theorem df_X9 : ∀ j, j < 7 → defaultValue (tyX9 j) = vp_V [.null, .null, .null, .null, .null, .null, .int 0] j := fun j hj => match j, hj with
  | 0, _ => rfl
  | 1, _ => rfl
  | 2, _ => rfl
  | 3, _ => rfl
  | 4, _ => rfl
  | 5, _ => rfl
  | 6, _ => rfl
  | j + 7, hj => absurd hj (by omega)
theorem df_X10 : ∀ j, j < 7 → defaultValue (tyX10 j) = vp_V [.null, .null, .null, .null, .null, .null, .int 0] j := fun j hj => match j, hj with
  | 0, _ => rfl
  | 1, _ => rfl
  | 2, _ => rfl
  | 3, _ => rfl
  | 4, _ => rfl
  | 5, _ => rfl
  | 6, _ => rfl
  | j + 7, hj => absurd hj (by omega)
theorem df_X11 : ∀ j, j < 35 → defaultValue (tyX11 j) = vp_V [.int 0, .null, .null, .null, .null, .null, .null, .null, .null, .int 0, .int 0, .int 0, .null, .null, .null, .null, .int 0, .null, .null, .null, .null, .null, .null, .null, .null, .int 0, .int 0, .int 0, .null, .null, .null, .int 0, .int 0, .int 0, .int 0] j := fun j hj => match j, hj with
  | 0, _ => rfl
  | 1, _ => rfl
  | 2, _ => rfl
  | 3, _ => rfl
  | 4, _ => rfl
  | 5, _ => rfl
  | 6, _ => rfl
  | 7, _ => rfl
  | 8, _ => rfl
  | 9, _ => rfl
  | 10, _ => rfl
  | 11, _ => rfl
  | 12, _ => rfl
  | 13, _ => rfl
  | 14, _ => rfl
  | 15, _ => rfl
  | 16, _ => rfl
  | 17, _ => rfl
  | 18, _ => rfl
  | 19, _ => rfl
  | 20, _ => rfl
  | 21, _ => rfl
  | 22, _ => rfl
  | 23, _ => rfl
  | 24, _ => rfl
  | 25, _ => rfl
  | 26, _ => rfl
  | 27, _ => rfl
  | 28, _ => rfl
  | 29, _ => rfl
  | 30, _ => rfl
  | 31, _ => rfl
  | 32, _ => rfl
  | 33, _ => rfl
  | 34, _ => rfl
  | j + 35, hj => absurd hj (by omega)
set_option maxRecDepth 100000 in
set_option maxHeartbeats 4000000 in
theorem n_fill {h : List AC} {a len : Nat} {f : Nat → Int32} (ha : h[a]? = some (.inl (0, len, .inl f))) (hl : len < 2 ^ 31) (x : Int32) : Em mJ7_fill_53178 [.ref a, .int x] h (fun r h' => r = none ∧ h' = h.set a (.inl (0, len, .inl (filF f x len)))) := by
  have hal : a < h.length := (List.getElem?_eq_some_iff.mp ha).1
  refine Em.of mk_J7_fill_53178 (Nat.le_of_ble_eq_true rfl) rfl (fun X hX => ?_)
  have LP : ∀ d k, k + d = len → Ew mJ7_fill_53178 X (Zm mJ7_fill_53178 h.length (fun r h' => r = none ∧ h' = h.set a (.inl (0, len, .inl (filF f x len)))) X) 5 [some (.ref a), some (.int x), some (.int (nI k)), some (.int (nI len))] [] (h.set a (.inl (0, len, .inl (filF f x k)))) 0 0 := by
    intro d
    induction d with
    | zero =>
      intro k hk
      obtain rfl : k = len := by omega
      refine e_iload_n hX dJ7_fill_53178_5 rfl ?_
      refine e_iload_n hX dJ7_fill_53178_6 rfl ?_
      refine e_icmp_ge (tgt := 20) hX dJ7_fill_53178_7 (by decide) (fun q => ?_) (fun q => absurd (Int32.le_refl _) q)
      exact e_vret hX dJ7_fill_53178_20 rfl rfl (Nat.le_of_ble_eq_true rfl) (by rw [List.length_set] <;> rfl) ⟨rfl, rfl⟩
    | succ d ih =>
      intro k hk
      refine e_iload_n hX dJ7_fill_53178_5 rfl ?_
      refine e_iload_n hX dJ7_fill_53178_6 rfl ?_
      refine e_icmp_ge (tgt := 20) hX dJ7_fill_53178_7 (by decide) (fun q => by rw [nx_le (by omega) (by omega)] at q; omega) (fun q => ?_)
      refine e_aload_n hX dJ7_fill_53178_10 rfl ?_
      refine e_iload_n hX dJ7_fill_53178_11 rfl ?_
      refine e_iload_n hX dJ7_fill_53178_12 rfl ?_
      refine e_iast (n := len) (f := filF f x k) hX dJ7_fill_53178_13 (List.getElem?_set_self hal) (vp_in_nI (by omega) (by omega)) ?_
      refine e_iinc (v := nI (k + 1)) hX dJ7_fill_53178_14 rfl (nI_add k 1) rfl st_4_2 ?_
      refine e_goto (tgt := 5) hX dJ7_fill_53178_17 (by decide) ?_
      have e : upd (filF f x k) (nI k).toNatClampNeg x = filF f x (k + 1) := by
        rw [nI_clamp (by omega)]
        funext j
        unfold upd filF
        by_cases c : j = k
        · rw [if_pos c, if_pos (by omega)]
        · rw [if_neg c]
          by_cases c2 : j < k
          · rw [if_pos c2, if_pos (by omega)]
          · rw [if_neg c2, if_neg (by omega)]
      rw [List.set_set, e]
      exact ih (k + 1) (by omega)
  refine e_iconst (v := nI 0) hX dJ7_fill_53178_0 (by decide) ?_
  refine e_istore_n hX dJ7_fill_53178_1 (Nat.le_of_ble_eq_true rfl) rfl st_4_2 ?_
  refine e_aload_n hX dJ7_fill_53178_2 rfl ?_
  refine e_alen (v := nI len) hX dJ7_fill_53178_3 ha (by decide) rfl ?_
  refine e_istore_n hX dJ7_fill_53178_4 (Nat.le_of_ble_eq_true rfl) rfl st_4_3 ?_
  have e0 : filF f x 0 = f := by funext j; unfold filF; rw [if_neg (Nat.not_lt_zero j)]
  have := LP len 0 (by omega)
  rw [e0, show h.set a (.inl (0, len, .inl f)) = h from by obtain ⟨h1, h2⟩ := List.getElem?_eq_some_iff.mp ha; rw [← h2]; exact List.set_getElem_self h1] at this
  exact this
set_option maxRecDepth 100000 in
set_option maxHeartbeats 4000000 in
theorem n_X0_init {h : List AC} {o N p : Nat} (hN : h.length = N) (hg : h[o]? = some (.inr (0, [.null, .int 0, .int 0, .int 0]))) : Em mX0_init [.ref o, .ref p] h (fun r h' => r = none ∧ h' = h.set o (.inr (0, [.ref p, .int (0), .int (0), .int (0)])) ++ []) := by
  have ho : o < h.length := (List.getElem?_eq_some_iff.mp hg).1
  refine Em.of mk_X0_init (Nat.le_of_ble_eq_true rfl) rfl (fun X hX => ?_)
  refine e_aload_n hX dX0_init_0 rfl ?_
  refine e_objInit hX dX0_init_1 (tb_at 104 (by decide +kernel) rfl) (Nat.le_of_ble_eq_true rfl) (Nat.le_of_ble_eq_true rfl) rfl ?_
  refine k_begin hg ?_
  refine e_aload_n hX dX0_init_4 rfl ?_
  refine e_aload_n hX dX0_init_5 rfl ?_
  refine k_putF (fs2 := [.ref p, .int 0, .int 0, .int 0]) hX dX0_init_6 fl_X0_9 rfl (fun C T N e => congrArg Prod.fst (Option.some.inj (e.symm.trans ci_0.1))) ho (Nat.le_of_ble_eq_true rfl) rfl rfl rfl ?_
  refine e_aload_n hX dX0_init_9 rfl ?_
  refine e_iconst (v := (0)) hX dX0_init_10 (by decide) ?_
  refine k_put (fs2 := [.ref p, .int (0), .int 0, .int 0]) hX dX0_init_11 fl_X0_15 ho (Nat.le_of_ble_eq_true rfl) rfl rfl rfl ?_
  refine e_aload_n hX dX0_init_14 rfl ?_
  refine e_iconst (v := (0)) hX dX0_init_15 (by decide) ?_
  refine k_put (fs2 := [.ref p, .int (0), .int (0), .int 0]) hX dX0_init_16 fl_X0_19 ho (Nat.le_of_ble_eq_true rfl) rfl rfl rfl ?_
  refine e_aload_n hX dX0_init_19 rfl ?_
  refine e_iconst (v := (0)) hX dX0_init_20 (by decide) ?_
  refine k_put (fs2 := [.ref p, .int (0), .int (0), .int (0)]) hX dX0_init_21 fl_X0_22 ho (Nat.le_of_ble_eq_true rfl) rfl rfl rfl ?_
  exact e_vret hX dX0_init_24 rfl rfl (Nat.le_of_ble_eq_true rfl) (by rw [List.length_append, List.length_set] <;> rfl) ⟨rfl, rfl⟩
set_option maxRecDepth 100000 in
set_option maxHeartbeats 4000000 in
theorem n_X3_init {h : List AC} {o N : Nat} (hN : h.length = N) (hg : h[o]? = some (.inr (3, [.null, .null, .null, .int 0]))) : Em mX3_init [.ref o] h (fun r h' => r = none ∧ h' = h.set o (.inr (3, [.ref N, .ref (N + 1), .ref (N + 2), .int (0)])) ++ [.inl (0, 200, .inl (fun _ => 0)), .inl (0, 200, .inl (fun _ => 0)), .inl (0, 200, .inl (fun _ => 0))]) := by
  have ho : o < h.length := (List.getElem?_eq_some_iff.mp hg).1
  refine Em.of mk_X3_init (Nat.le_of_ble_eq_true rfl) rfl (fun X hX => ?_)
  refine e_aload_n hX dX3_init_0 rfl ?_
  refine e_objInit hX dX3_init_1 (tb_at 200 (by decide +kernel) rfl) (Nat.le_of_ble_eq_true rfl) (Nat.le_of_ble_eq_true rfl) rfl ?_
  refine k_begin hg ?_
  refine e_aload_n hX dX3_init_4 rfl ?_
  refine e_sipush (v := nI 200) hX dX3_init_5 (by decide) ?_
  refine k_newi (N := 200) (r := N) (cs2 := [.inl (0, 200, .inl (fun _ => 0))]) (c2 := 1) (s2 := 200) hX dX3_init_8 (by decide) (by decide) (by decide) (Nat.le_of_ble_eq_true rfl) (Nat.le_of_ble_eq_true rfl) (by rw [hN] <;> rfl) rfl rfl rfl ?_
  refine k_putF (fs2 := [.ref N, .null, .null, .int 0]) hX dX3_init_10 fl_X3_9 rfl (fun C T N e => congrArg Prod.fst (Option.some.inj (e.symm.trans ci_3.1))) ho (Nat.le_of_ble_eq_true rfl) rfl rfl rfl ?_
  refine e_aload_n hX dX3_init_13 rfl ?_
  refine e_sipush (v := nI 200) hX dX3_init_14 (by decide) ?_
  refine k_newi (N := 200) (r := (N + 1)) (cs2 := [.inl (0, 200, .inl (fun _ => 0)), .inl (0, 200, .inl (fun _ => 0))]) (c2 := 2) (s2 := 400) hX dX3_init_17 (by decide) (by decide) (by decide) (Nat.le_of_ble_eq_true rfl) (Nat.le_of_ble_eq_true rfl) (by rw [hN] <;> rfl) rfl rfl rfl ?_
  refine k_putF (fs2 := [.ref N, .ref (N + 1), .null, .int 0]) hX dX3_init_19 fl_X3_15 rfl (fun C T N e => congrArg Prod.fst (Option.some.inj (e.symm.trans ci_3.1))) ho (Nat.le_of_ble_eq_true rfl) rfl rfl rfl ?_
  refine e_aload_n hX dX3_init_22 rfl ?_
  refine e_sipush (v := nI 200) hX dX3_init_23 (by decide) ?_
  refine k_newi (N := 200) (r := (N + 2)) (cs2 := [.inl (0, 200, .inl (fun _ => 0)), .inl (0, 200, .inl (fun _ => 0)), .inl (0, 200, .inl (fun _ => 0))]) (c2 := 3) (s2 := 600) hX dX3_init_26 (by decide) (by decide) (by decide) (Nat.le_of_ble_eq_true rfl) (Nat.le_of_ble_eq_true rfl) (by rw [hN] <;> rfl) rfl rfl rfl ?_
  refine k_putF (fs2 := [.ref N, .ref (N + 1), .ref (N + 2), .int 0]) hX dX3_init_28 fl_X3_18 rfl (fun C T N e => congrArg Prod.fst (Option.some.inj (e.symm.trans ci_3.1))) ho (Nat.le_of_ble_eq_true rfl) rfl rfl rfl ?_
  refine e_aload_n hX dX3_init_31 rfl ?_
  refine e_iconst (v := (0)) hX dX3_init_32 (by decide) ?_
  refine k_put (fs2 := [.ref N, .ref (N + 1), .ref (N + 2), .int (0)]) hX dX3_init_33 fl_X3_21 ho (Nat.le_of_ble_eq_true rfl) rfl rfl rfl ?_
  exact e_vret hX dX3_init_36 rfl rfl (Nat.le_of_ble_eq_true rfl) (by rw [List.length_append, List.length_set] <;> rfl) ⟨rfl, rfl⟩
set_option maxRecDepth 100000 in
set_option maxHeartbeats 4000000 in
theorem n_X5_init {h : List AC} {o N : Nat} (hN : h.length = N) (hg : h[o]? = some (.inr (4, [.null, .int 0]))) : Em mX5_init [.ref o] h (fun r h' => r = none ∧ h' = h.set o (.inr (4, [.ref N, .int (0)])) ++ [.inl (0, 4000, .inl (fun _ => 0))]) := by
  have ho : o < h.length := (List.getElem?_eq_some_iff.mp hg).1
  refine Em.of mk_X5_init (Nat.le_of_ble_eq_true rfl) rfl (fun X hX => ?_)
  refine e_aload_n hX dX5_init_0 rfl ?_
  refine e_objInit hX dX5_init_1 (tb_at 219 (by decide +kernel) rfl) (Nat.le_of_ble_eq_true rfl) (Nat.le_of_ble_eq_true rfl) rfl ?_
  refine k_begin hg ?_
  refine e_aload_n hX dX5_init_4 rfl ?_
  refine e_sipush (v := nI 4000) hX dX5_init_5 (by decide) ?_
  refine k_newi (N := 4000) (r := N) (cs2 := [.inl (0, 4000, .inl (fun _ => 0))]) (c2 := 1) (s2 := 4000) hX dX5_init_8 (by decide) (by decide) (by decide) (Nat.le_of_ble_eq_true rfl) (Nat.le_of_ble_eq_true rfl) (by rw [hN] <;> rfl) rfl rfl rfl ?_
  refine k_putF (fs2 := [.ref N, .int 0]) hX dX5_init_10 fl_X5_9 rfl (fun C T N e => congrArg Prod.fst (Option.some.inj (e.symm.trans ci_4.1))) ho (Nat.le_of_ble_eq_true rfl) rfl rfl rfl ?_
  refine e_aload_n hX dX5_init_13 rfl ?_
  refine e_iconst (v := (0)) hX dX5_init_14 (by decide) ?_
  refine k_put (fs2 := [.ref N, .int (0)]) hX dX5_init_15 fl_X5_15 ho (Nat.le_of_ble_eq_true rfl) rfl rfl rfl ?_
  exact e_vret hX dX5_init_18 rfl rfl (Nat.le_of_ble_eq_true rfl) (by rw [List.length_append, List.length_set] <;> rfl) ⟨rfl, rfl⟩
set_option maxRecDepth 100000 in
set_option maxHeartbeats 4000000 in
theorem n_X6_init {h : List AC} {o N : Nat} (hN : h.length = N) (hg : h[o]? = some (.inr (5, [.int 0, .null, .null, .null, .null, .null, .null, .null]))) : Em mX6_init [.ref o] h (fun r h' => r = none ∧ h' = h.set o (.inr (5, [.int (nI 2), .ref N, .ref (N + 1), .ref (N + 2), .ref (N + 3), .ref (N + 4), .ref (N + 5), .ref (N + 6)])) ++ [.inl (0, 16, .inl (fun _ => 0)), .inl (0, 16, .inl (fun _ => 0)), .inl (0, 2048, .inl (filF (fun _ => 0) (-1) 2048)), .inl (0, 2048, .inl (fun _ => 0)), .inl (0, 2048, .inl (fun _ => 0)), .inl (1, 2048, .inl (fun _ => 0)), .inl (0, 2, .inl (fun _ => 0))]) := by
  have ho : o < h.length := (List.getElem?_eq_some_iff.mp hg).1
  refine Em.of mk_X6_init (Nat.le_of_ble_eq_true rfl) rfl (fun X hX => ?_)
  refine e_aload_n hX dX6_init_0 rfl ?_
  refine e_objInit hX dX6_init_1 (tb_at 68 (by decide +kernel) rfl) (Nat.le_of_ble_eq_true rfl) (Nat.le_of_ble_eq_true rfl) rfl ?_
  refine k_begin hg ?_
  refine e_aload_n hX dX6_init_4 rfl ?_
  refine e_iconst (v := nI 2) hX dX6_init_5 (by decide) ?_
  refine k_put (fs2 := [.int (nI 2), .null, .null, .null, .null, .null, .null, .null]) hX dX6_init_6 fl_X6_9 ho (Nat.le_of_ble_eq_true rfl) rfl rfl rfl ?_
  refine e_aload_n hX dX6_init_9 rfl ?_
  refine e_bipush (v := nI 16) hX dX6_init_10 (by decide) ?_
  refine k_newi (N := 16) (r := N) (cs2 := [.inl (0, 16, .inl (fun _ => 0))]) (c2 := 1) (s2 := 16) hX dX6_init_12 (by decide) (by decide) (by decide) (Nat.le_of_ble_eq_true rfl) (Nat.le_of_ble_eq_true rfl) (by rw [hN] <;> rfl) rfl rfl rfl ?_
  refine k_putF (fs2 := [.int (nI 2), .ref N, .null, .null, .null, .null, .null, .null]) hX dX6_init_14 fl_X6_15 rfl (fun C T N e => congrArg Prod.fst (Option.some.inj (e.symm.trans ci_5.1))) ho (Nat.le_of_ble_eq_true rfl) rfl rfl rfl ?_
  refine e_aload_n hX dX6_init_17 rfl ?_
  refine e_bipush (v := nI 16) hX dX6_init_18 (by decide) ?_
  refine k_newi (N := 16) (r := (N + 1)) (cs2 := [.inl (0, 16, .inl (fun _ => 0)), .inl (0, 16, .inl (fun _ => 0))]) (c2 := 2) (s2 := 32) hX dX6_init_20 (by decide) (by decide) (by decide) (Nat.le_of_ble_eq_true rfl) (Nat.le_of_ble_eq_true rfl) (by rw [hN] <;> rfl) rfl rfl rfl ?_
  refine k_putF (fs2 := [.int (nI 2), .ref N, .ref (N + 1), .null, .null, .null, .null, .null]) hX dX6_init_22 fl_X6_19 rfl (fun C T N e => congrArg Prod.fst (Option.some.inj (e.symm.trans ci_5.1))) ho (Nat.le_of_ble_eq_true rfl) rfl rfl rfl ?_
  refine e_aload_n hX dX6_init_25 rfl ?_
  refine e_sipush (v := nI 2048) hX dX6_init_26 (by decide) ?_
  refine k_newi (N := 2048) (r := (N + 2)) (cs2 := [.inl (0, 16, .inl (fun _ => 0)), .inl (0, 16, .inl (fun _ => 0)), .inl (0, 2048, .inl (fun _ => 0))]) (c2 := 3) (s2 := 2080) hX dX6_init_29 (by decide) (by decide) (by decide) (Nat.le_of_ble_eq_true rfl) (Nat.le_of_ble_eq_true rfl) (by rw [hN] <;> rfl) rfl rfl rfl ?_
  refine k_putF (fs2 := [.int (nI 2), .ref N, .ref (N + 1), .ref (N + 2), .null, .null, .null, .null]) hX dX6_init_31 fl_X6_22 rfl (fun C T N e => congrArg Prod.fst (Option.some.inj (e.symm.trans ci_5.1))) ho (Nat.le_of_ble_eq_true rfl) rfl rfl rfl ?_
  refine e_aload_n hX dX6_init_34 rfl ?_
  refine e_sipush (v := nI 2048) hX dX6_init_35 (by decide) ?_
  refine k_newi (N := 2048) (r := (N + 3)) (cs2 := [.inl (0, 16, .inl (fun _ => 0)), .inl (0, 16, .inl (fun _ => 0)), .inl (0, 2048, .inl (fun _ => 0)), .inl (0, 2048, .inl (fun _ => 0))]) (c2 := 4) (s2 := 4128) hX dX6_init_38 (by decide) (by decide) (by decide) (Nat.le_of_ble_eq_true rfl) (Nat.le_of_ble_eq_true rfl) (by rw [hN] <;> rfl) rfl rfl rfl ?_
  refine k_putF (fs2 := [.int (nI 2), .ref N, .ref (N + 1), .ref (N + 2), .ref (N + 3), .null, .null, .null]) hX dX6_init_40 fl_X6_25 rfl (fun C T N e => congrArg Prod.fst (Option.some.inj (e.symm.trans ci_5.1))) ho (Nat.le_of_ble_eq_true rfl) rfl rfl rfl ?_
  refine e_aload_n hX dX6_init_43 rfl ?_
  refine e_sipush (v := nI 2048) hX dX6_init_44 (by decide) ?_
  refine k_newi (N := 2048) (r := (N + 4)) (cs2 := [.inl (0, 16, .inl (fun _ => 0)), .inl (0, 16, .inl (fun _ => 0)), .inl (0, 2048, .inl (fun _ => 0)), .inl (0, 2048, .inl (fun _ => 0)), .inl (0, 2048, .inl (fun _ => 0))]) (c2 := 5) (s2 := 6176) hX dX6_init_47 (by decide) (by decide) (by decide) (Nat.le_of_ble_eq_true rfl) (Nat.le_of_ble_eq_true rfl) (by rw [hN] <;> rfl) rfl rfl rfl ?_
  refine k_putF (fs2 := [.int (nI 2), .ref N, .ref (N + 1), .ref (N + 2), .ref (N + 3), .ref (N + 4), .null, .null]) hX dX6_init_49 fl_X6_28 rfl (fun C T N e => congrArg Prod.fst (Option.some.inj (e.symm.trans ci_5.1))) ho (Nat.le_of_ble_eq_true rfl) rfl rfl rfl ?_
  refine e_aload_n hX dX6_init_52 rfl ?_
  refine e_sipush (v := nI 2048) hX dX6_init_53 (by decide) ?_
  refine k_newz (N := 2048) (r := (N + 5)) (cs2 := [.inl (0, 16, .inl (fun _ => 0)), .inl (0, 16, .inl (fun _ => 0)), .inl (0, 2048, .inl (fun _ => 0)), .inl (0, 2048, .inl (fun _ => 0)), .inl (0, 2048, .inl (fun _ => 0)), .inl (1, 2048, .inl (fun _ => 0))]) (c2 := 6) (s2 := 8224) hX dX6_init_56 (by decide) (by decide) (by decide) (Nat.le_of_ble_eq_true rfl) (Nat.le_of_ble_eq_true rfl) (by rw [hN] <;> rfl) rfl rfl rfl ?_
  refine k_putF (fs2 := [.int (nI 2), .ref N, .ref (N + 1), .ref (N + 2), .ref (N + 3), .ref (N + 4), .ref (N + 5), .null]) hX dX6_init_58 fl_X6_31 rfl (fun C T N e => congrArg Prod.fst (Option.some.inj (e.symm.trans ci_5.1))) ho (Nat.le_of_ble_eq_true rfl) rfl rfl rfl ?_
  refine e_aload_n hX dX6_init_61 rfl ?_
  refine e_iconst (v := nI 2) hX dX6_init_62 (by decide) ?_
  refine k_newi (N := 2) (r := (N + 6)) (cs2 := [.inl (0, 16, .inl (fun _ => 0)), .inl (0, 16, .inl (fun _ => 0)), .inl (0, 2048, .inl (fun _ => 0)), .inl (0, 2048, .inl (fun _ => 0)), .inl (0, 2048, .inl (fun _ => 0)), .inl (1, 2048, .inl (fun _ => 0)), .inl (0, 2, .inl (fun _ => 0))]) (c2 := 7) (s2 := 8226) hX dX6_init_63 (by decide) (by decide) (by decide) (Nat.le_of_ble_eq_true rfl) (Nat.le_of_ble_eq_true rfl) (by rw [hN] <;> rfl) rfl rfl rfl ?_
  refine k_putF (fs2 := [.int (nI 2), .ref N, .ref (N + 1), .ref (N + 2), .ref (N + 3), .ref (N + 4), .ref (N + 5), .ref (N + 6)]) hX dX6_init_65 fl_X6_35 rfl (fun C T N e => congrArg Prod.fst (Option.some.inj (e.symm.trans ci_5.1))) ho (Nat.le_of_ble_eq_true rfl) rfl rfl rfl ?_
  refine e_aload_n hX dX6_init_68 rfl ?_
  refine k_get (v := .ref (N + 2)) hX dX6_init_69 fl_X6_22 ho rfl ?_
  refine e_iconst (v := (-1)) hX dX6_init_72 (by decide) ?_
  refine k_fill (j := 2) (r := (N + 2)) (cs2 := [.inl (0, 16, .inl (fun _ => 0)), .inl (0, 16, .inl (fun _ => 0)), .inl (0, 2048, .inl (filF (fun _ => 0) (-1) 2048)), .inl (0, 2048, .inl (fun _ => 0)), .inl (0, 2048, .inl (fun _ => 0)), .inl (1, 2048, .inl (fun _ => 0)), .inl (0, 2, .inl (fun _ => 0))]) hX dX6_init_73 lk_X6_38 (n_fill (len := 2048) (hk_at2 (j := 2) hN rfl rfl) (by decide) (-1)) (by rw [hN] <;> rfl) (Nat.le_of_ble_eq_true rfl) (Nat.le_of_ble_eq_true rfl) (Nat.le_of_ble_eq_true rfl) (Nat.le_of_ble_eq_true rfl) (Nat.le_of_ble_eq_true rfl) rfl rfl ?_
  exact e_vret hX dX6_init_76 rfl rfl (Nat.le_of_ble_eq_true rfl) (by rw [List.length_append, List.length_set] <;> rfl) ⟨rfl, rfl⟩
set_option maxRecDepth 100000 in
set_option maxHeartbeats 4000000 in
theorem n_X7_init {h : List AC} {o N : Nat} (hN : h.length = N) (hg : h[o]? = some (.inr (6, [.long 0, .int 0, .null]))) : Em mX7_init [.ref o] h (fun r h' => r = none ∧ h' = h.set o (.inr (6, [.long 0, .int (0), .ref N])) ++ [.inl (0, 8, .inl (fun _ => 0))]) := by
  have ho : o < h.length := (List.getElem?_eq_some_iff.mp hg).1
  refine Em.of mk_X7_init (Nat.le_of_ble_eq_true rfl) rfl (fun X hX => ?_)
  refine e_aload_n hX dX7_init_0 rfl ?_
  refine e_objInit hX dX7_init_1 (tb_at 123 (by decide +kernel) rfl) (Nat.le_of_ble_eq_true rfl) (Nat.le_of_ble_eq_true rfl) rfl ?_
  refine k_begin hg ?_
  refine e_aload_n hX dX7_init_4 rfl ?_
  refine e_lconst (v := 0) hX dX7_init_5 (by decide) ?_
  refine k_put (fs2 := [.long 0, .int 0, .null]) hX dX7_init_6 fl_X7_11 ho (Nat.le_of_ble_eq_true rfl) rfl rfl rfl ?_
  refine e_aload_n hX dX7_init_9 rfl ?_
  refine e_iconst (v := (0)) hX dX7_init_10 (by decide) ?_
  refine k_put (fs2 := [.long 0, .int (0), .null]) hX dX7_init_11 fl_X7_15 ho (Nat.le_of_ble_eq_true rfl) rfl rfl rfl ?_
  refine e_aload_n hX dX7_init_14 rfl ?_
  refine e_bipush (v := nI 8) hX dX7_init_15 (by decide) ?_
  refine k_newi (N := 8) (r := N) (cs2 := [.inl (0, 8, .inl (fun _ => 0))]) (c2 := 1) (s2 := 8) hX dX7_init_17 (by decide) (by decide) (by decide) (Nat.le_of_ble_eq_true rfl) (Nat.le_of_ble_eq_true rfl) (by rw [hN] <;> rfl) rfl rfl rfl ?_
  refine k_putF (fs2 := [.long 0, .int (0), .ref N]) hX dX7_init_19 fl_X7_19 rfl (fun C T N e => congrArg Prod.fst (Option.some.inj (e.symm.trans ci_6.1))) ho (Nat.le_of_ble_eq_true rfl) rfl rfl rfl ?_
  exact e_vret hX dX7_init_22 rfl rfl (Nat.le_of_ble_eq_true rfl) (by rw [List.length_append, List.length_set] <;> rfl) ⟨rfl, rfl⟩
set_option maxRecDepth 100000 in
set_option maxHeartbeats 4000000 in
theorem n_X8_init {h : List AC} {o N : Nat} (hN : h.length = N) (hg : h[o]? = some (.inr (7, [.null, .null, .null, .null, .int 0]))) : Em mX8_init [.ref o] h (fun r h' => r = none ∧ h' = h.set o (.inr (7, [.ref N, .ref (N + 1), .ref (N + 2), .ref (N + 3), .int (0)])) ++ [.inl (2, 4000, .inr (.inl (fun _ => 0))), .inl (2, 4000, .inr (.inl (fun _ => 0))), .inl (2, 4000, .inr (.inl (fun _ => 0))), .inl (0, 8192, .inl (fun _ => 0))]) := by
  have ho : o < h.length := (List.getElem?_eq_some_iff.mp hg).1
  refine Em.of mk_X8_init (Nat.le_of_ble_eq_true rfl) rfl (fun X hX => ?_)
  refine e_aload_n hX dX8_init_0 rfl ?_
  refine e_objInit hX dX8_init_1 (tb_at 177 (by decide +kernel) rfl) (Nat.le_of_ble_eq_true rfl) (Nat.le_of_ble_eq_true rfl) rfl ?_
  refine k_begin hg ?_
  refine e_aload_n hX dX8_init_4 rfl ?_
  refine e_sipush (v := nI 4000) hX dX8_init_5 (by decide) ?_
  refine k_newl (N := 4000) (r := N) (cs2 := [.inl (2, 4000, .inr (.inl (fun _ => 0)))]) (c2 := 1) (s2 := 4000) hX dX8_init_8 (by decide) (by decide) (by decide) (Nat.le_of_ble_eq_true rfl) (Nat.le_of_ble_eq_true rfl) (by rw [hN] <;> rfl) rfl rfl rfl ?_
  refine k_putF (fs2 := [.ref N, .null, .null, .null, .int 0]) hX dX8_init_10 fl_X8_11 rfl (fun C T N e => congrArg Prod.fst (Option.some.inj (e.symm.trans ci_7.1))) ho (Nat.le_of_ble_eq_true rfl) rfl rfl rfl ?_
  refine e_aload_n hX dX8_init_13 rfl ?_
  refine e_sipush (v := nI 4000) hX dX8_init_14 (by decide) ?_
  refine k_newl (N := 4000) (r := (N + 1)) (cs2 := [.inl (2, 4000, .inr (.inl (fun _ => 0))), .inl (2, 4000, .inr (.inl (fun _ => 0)))]) (c2 := 2) (s2 := 8000) hX dX8_init_17 (by decide) (by decide) (by decide) (Nat.le_of_ble_eq_true rfl) (Nat.le_of_ble_eq_true rfl) (by rw [hN] <;> rfl) rfl rfl rfl ?_
  refine k_putF (fs2 := [.ref N, .ref (N + 1), .null, .null, .int 0]) hX dX8_init_19 fl_X8_15 rfl (fun C T N e => congrArg Prod.fst (Option.some.inj (e.symm.trans ci_7.1))) ho (Nat.le_of_ble_eq_true rfl) rfl rfl rfl ?_
  refine e_aload_n hX dX8_init_22 rfl ?_
  refine e_sipush (v := nI 4000) hX dX8_init_23 (by decide) ?_
  refine k_newl (N := 4000) (r := (N + 2)) (cs2 := [.inl (2, 4000, .inr (.inl (fun _ => 0))), .inl (2, 4000, .inr (.inl (fun _ => 0))), .inl (2, 4000, .inr (.inl (fun _ => 0)))]) (c2 := 3) (s2 := 12000) hX dX8_init_26 (by decide) (by decide) (by decide) (Nat.le_of_ble_eq_true rfl) (Nat.le_of_ble_eq_true rfl) (by rw [hN] <;> rfl) rfl rfl rfl ?_
  refine k_putF (fs2 := [.ref N, .ref (N + 1), .ref (N + 2), .null, .int 0]) hX dX8_init_28 fl_X8_18 rfl (fun C T N e => congrArg Prod.fst (Option.some.inj (e.symm.trans ci_7.1))) ho (Nat.le_of_ble_eq_true rfl) rfl rfl rfl ?_
  refine e_aload_n hX dX8_init_31 rfl ?_
  refine e_sipush (v := nI 8192) hX dX8_init_32 (by decide) ?_
  refine k_newi (N := 8192) (r := (N + 3)) (cs2 := [.inl (2, 4000, .inr (.inl (fun _ => 0))), .inl (2, 4000, .inr (.inl (fun _ => 0))), .inl (2, 4000, .inr (.inl (fun _ => 0))), .inl (0, 8192, .inl (fun _ => 0))]) (c2 := 4) (s2 := 20192) hX dX8_init_35 (by decide) (by decide) (by decide) (Nat.le_of_ble_eq_true rfl) (Nat.le_of_ble_eq_true rfl) (by rw [hN] <;> rfl) rfl rfl rfl ?_
  refine k_putF (fs2 := [.ref N, .ref (N + 1), .ref (N + 2), .ref (N + 3), .int 0]) hX dX8_init_37 fl_X8_21 rfl (fun C T N e => congrArg Prod.fst (Option.some.inj (e.symm.trans ci_7.1))) ho (Nat.le_of_ble_eq_true rfl) rfl rfl rfl ?_
  refine e_aload_n hX dX8_init_40 rfl ?_
  refine e_iconst (v := (0)) hX dX8_init_41 (by decide) ?_
  refine k_put (fs2 := [.ref N, .ref (N + 1), .ref (N + 2), .ref (N + 3), .int (0)]) hX dX8_init_42 fl_X8_25 ho (Nat.le_of_ble_eq_true rfl) rfl rfl rfl ?_
  exact e_vret hX dX8_init_45 rfl rfl (Nat.le_of_ble_eq_true rfl) (by rw [List.length_append, List.length_set] <;> rfl) ⟨rfl, rfl⟩
set_option maxRecDepth 100000 in
set_option maxHeartbeats 4000000 in
theorem n_X9_init {h : List AC} {o N p : Nat} (hN : h.length = N) (hg : h[o]? = some (.inr (8, [.null, .null, .null, .null, .null, .null, .int 0]))) : Em mX9_init [.ref o, .ref p] h (fun r h' => r = none ∧ h' = h.set o (.inr (8, [.ref p, .ref N, .ref (N + 1), .ref (N + 2), .ref (N + 3), .ref (N + 4), .int (0)])) ++ [.inl (0, 20, .inl (fun _ => 0)), .inl (0, 20, .inl (fun _ => 0)), .inl (0, 20, .inl (fun _ => 0)), .inl (0, 20, .inl (fun _ => 0)), .inl (0, 20, .inl (fun _ => 0))]) := by
  have ho : o < h.length := (List.getElem?_eq_some_iff.mp hg).1
  refine Em.of mk_X9_init (Nat.le_of_ble_eq_true rfl) rfl (fun X hX => ?_)
  refine e_aload_n hX dX9_init_0 rfl ?_
  refine e_objInit hX dX9_init_1 (tb_at 139 (by decide +kernel) rfl) (Nat.le_of_ble_eq_true rfl) (Nat.le_of_ble_eq_true rfl) rfl ?_
  refine k_begin hg ?_
  refine e_aload_n hX dX9_init_4 rfl ?_
  refine e_aload_n hX dX9_init_5 rfl ?_
  refine k_putF (fs2 := [.ref p, .null, .null, .null, .null, .null, .int 0]) hX dX9_init_6 fl_X9_9 rfl (fun C T N e => congrArg Prod.fst (Option.some.inj (e.symm.trans ci_8.1))) ho (Nat.le_of_ble_eq_true rfl) rfl rfl rfl ?_
  refine e_aload_n hX dX9_init_9 rfl ?_
  refine e_bipush (v := nI 20) hX dX9_init_10 (by decide) ?_
  refine k_newi (N := 20) (r := N) (cs2 := [.inl (0, 20, .inl (fun _ => 0))]) (c2 := 1) (s2 := 20) hX dX9_init_12 (by decide) (by decide) (by decide) (Nat.le_of_ble_eq_true rfl) (Nat.le_of_ble_eq_true rfl) (by rw [hN] <;> rfl) rfl rfl rfl ?_
  refine k_putF (fs2 := [.ref p, .ref N, .null, .null, .null, .null, .int 0]) hX dX9_init_14 fl_X9_15 rfl (fun C T N e => congrArg Prod.fst (Option.some.inj (e.symm.trans ci_8.1))) ho (Nat.le_of_ble_eq_true rfl) rfl rfl rfl ?_
  refine e_aload_n hX dX9_init_17 rfl ?_
  refine e_bipush (v := nI 20) hX dX9_init_18 (by decide) ?_
  refine k_newi (N := 20) (r := (N + 1)) (cs2 := [.inl (0, 20, .inl (fun _ => 0)), .inl (0, 20, .inl (fun _ => 0))]) (c2 := 2) (s2 := 40) hX dX9_init_20 (by decide) (by decide) (by decide) (Nat.le_of_ble_eq_true rfl) (Nat.le_of_ble_eq_true rfl) (by rw [hN] <;> rfl) rfl rfl rfl ?_
  refine k_putF (fs2 := [.ref p, .ref N, .ref (N + 1), .null, .null, .null, .int 0]) hX dX9_init_22 fl_X9_19 rfl (fun C T N e => congrArg Prod.fst (Option.some.inj (e.symm.trans ci_8.1))) ho (Nat.le_of_ble_eq_true rfl) rfl rfl rfl ?_
  refine e_aload_n hX dX9_init_25 rfl ?_
  refine e_bipush (v := nI 20) hX dX9_init_26 (by decide) ?_
  refine k_newi (N := 20) (r := (N + 2)) (cs2 := [.inl (0, 20, .inl (fun _ => 0)), .inl (0, 20, .inl (fun _ => 0)), .inl (0, 20, .inl (fun _ => 0))]) (c2 := 3) (s2 := 60) hX dX9_init_28 (by decide) (by decide) (by decide) (Nat.le_of_ble_eq_true rfl) (Nat.le_of_ble_eq_true rfl) (by rw [hN] <;> rfl) rfl rfl rfl ?_
  refine k_putF (fs2 := [.ref p, .ref N, .ref (N + 1), .ref (N + 2), .null, .null, .int 0]) hX dX9_init_30 fl_X9_22 rfl (fun C T N e => congrArg Prod.fst (Option.some.inj (e.symm.trans ci_8.1))) ho (Nat.le_of_ble_eq_true rfl) rfl rfl rfl ?_
  refine e_aload_n hX dX9_init_33 rfl ?_
  refine e_bipush (v := nI 20) hX dX9_init_34 (by decide) ?_
  refine k_newi (N := 20) (r := (N + 3)) (cs2 := [.inl (0, 20, .inl (fun _ => 0)), .inl (0, 20, .inl (fun _ => 0)), .inl (0, 20, .inl (fun _ => 0)), .inl (0, 20, .inl (fun _ => 0))]) (c2 := 4) (s2 := 80) hX dX9_init_36 (by decide) (by decide) (by decide) (Nat.le_of_ble_eq_true rfl) (Nat.le_of_ble_eq_true rfl) (by rw [hN] <;> rfl) rfl rfl rfl ?_
  refine k_putF (fs2 := [.ref p, .ref N, .ref (N + 1), .ref (N + 2), .ref (N + 3), .null, .int 0]) hX dX9_init_38 fl_X9_25 rfl (fun C T N e => congrArg Prod.fst (Option.some.inj (e.symm.trans ci_8.1))) ho (Nat.le_of_ble_eq_true rfl) rfl rfl rfl ?_
  refine e_aload_n hX dX9_init_41 rfl ?_
  refine e_bipush (v := nI 20) hX dX9_init_42 (by decide) ?_
  refine k_newi (N := 20) (r := (N + 4)) (cs2 := [.inl (0, 20, .inl (fun _ => 0)), .inl (0, 20, .inl (fun _ => 0)), .inl (0, 20, .inl (fun _ => 0)), .inl (0, 20, .inl (fun _ => 0)), .inl (0, 20, .inl (fun _ => 0))]) (c2 := 5) (s2 := 100) hX dX9_init_44 (by decide) (by decide) (by decide) (Nat.le_of_ble_eq_true rfl) (Nat.le_of_ble_eq_true rfl) (by rw [hN] <;> rfl) rfl rfl rfl ?_
  refine k_putF (fs2 := [.ref p, .ref N, .ref (N + 1), .ref (N + 2), .ref (N + 3), .ref (N + 4), .int 0]) hX dX9_init_46 fl_X9_28 rfl (fun C T N e => congrArg Prod.fst (Option.some.inj (e.symm.trans ci_8.1))) ho (Nat.le_of_ble_eq_true rfl) rfl rfl rfl ?_
  refine e_aload_n hX dX9_init_49 rfl ?_
  refine e_iconst (v := (0)) hX dX9_init_50 (by decide) ?_
  refine k_put (fs2 := [.ref p, .ref N, .ref (N + 1), .ref (N + 2), .ref (N + 3), .ref (N + 4), .int (0)]) hX dX9_init_51 fl_X9_31 ho (Nat.le_of_ble_eq_true rfl) rfl rfl rfl ?_
  exact e_vret hX dX9_init_54 rfl rfl (Nat.le_of_ble_eq_true rfl) (by rw [List.length_append, List.length_set] <;> rfl) ⟨rfl, rfl⟩
set_option maxRecDepth 100000 in
set_option maxHeartbeats 4000000 in
theorem n_X2_init {h : List AC} (hN : h.length = 45) (hg : h[44]? = some (.inr (2, [.null, .null, .null, .null]))) : Em mX2_init [.ref 44] h (fun r h' => r = none ∧ h' = h.set 44 (.inr (2, [.ref 45, .ref 46, .ref 47, .ref 48])) ++ [.inl (0, 4000, .inl (fun _ => 0)), .inl (0, 80000, .inl (fun _ => 0)), .inl (1, 4000, .inl (fun _ => 0)), .inr (4, [.ref 49, .int (0)]), .inl (0, 4000, .inl (fun _ => 0))]) := by
  have ho : 44 < h.length := (List.getElem?_eq_some_iff.mp hg).1
  refine Em.of mk_X2_init (Nat.le_of_ble_eq_true rfl) rfl (fun X hX => ?_)
  refine e_aload_n hX dX2_init_0 rfl ?_
  refine e_objInit hX dX2_init_1 (tb_at 232 (by decide +kernel) rfl) (Nat.le_of_ble_eq_true rfl) (Nat.le_of_ble_eq_true rfl) rfl ?_
  refine k_begin hg ?_
  refine e_aload_n hX dX2_init_4 rfl ?_
  refine e_sipush (v := nI 4000) hX dX2_init_5 (by decide) ?_
  refine k_newi (N := 4000) (r := 45) (cs2 := [.inl (0, 4000, .inl (fun _ => 0))]) (c2 := 1) (s2 := 4000) hX dX2_init_8 (by decide) (by decide) (by decide) (Nat.le_of_ble_eq_true rfl) (Nat.le_of_ble_eq_true rfl) (by rw [hN] <;> rfl) rfl rfl rfl ?_
  refine k_putF (fs2 := [.ref 45, .null, .null, .null]) hX dX2_init_10 fl_X2_9 rfl (fun C T N e => congrArg Prod.fst (Option.some.inj (e.symm.trans ci_2.1))) ho (Nat.le_of_ble_eq_true rfl) rfl rfl rfl ?_
  refine e_aload_n hX dX2_init_13 rfl ?_
  refine e_ldc (v := nI 80000) hX dX2_init_14 (tb_at 233 (by decide +kernel) rfl) ?_
  refine k_newi (N := 80000) (r := 46) (cs2 := [.inl (0, 4000, .inl (fun _ => 0)), .inl (0, 80000, .inl (fun _ => 0))]) (c2 := 2) (s2 := 84000) hX dX2_init_16 (by decide) (by decide) (by decide) (Nat.le_of_ble_eq_true rfl) (Nat.le_of_ble_eq_true rfl) (by rw [hN] <;> rfl) rfl rfl rfl ?_
  refine k_putF (fs2 := [.ref 45, .ref 46, .null, .null]) hX dX2_init_18 fl_X2_16 rfl (fun C T N e => congrArg Prod.fst (Option.some.inj (e.symm.trans ci_2.1))) ho (Nat.le_of_ble_eq_true rfl) rfl rfl rfl ?_
  refine e_aload_n hX dX2_init_21 rfl ?_
  refine e_sipush (v := nI 4000) hX dX2_init_22 (by decide) ?_
  refine k_newz (N := 4000) (r := 47) (cs2 := [.inl (0, 4000, .inl (fun _ => 0)), .inl (0, 80000, .inl (fun _ => 0)), .inl (1, 4000, .inl (fun _ => 0))]) (c2 := 3) (s2 := 88000) hX dX2_init_25 (by decide) (by decide) (by decide) (Nat.le_of_ble_eq_true rfl) (Nat.le_of_ble_eq_true rfl) (by rw [hN] <;> rfl) rfl rfl rfl ?_
  refine k_putF (fs2 := [.ref 45, .ref 46, .ref 47, .null]) hX dX2_init_27 fl_X2_19 rfl (fun C T N e => congrArg Prod.fst (Option.some.inj (e.symm.trans ci_2.1))) ho (Nat.le_of_ble_eq_true rfl) rfl rfl rfl ?_
  refine e_aload_n hX dX2_init_30 rfl ?_
  refine k_new (fs := [.null, .int 0]) (r := 48) (cs2 := [.inl (0, 4000, .inl (fun _ => 0)), .inl (0, 80000, .inl (fun _ => 0)), .inl (1, 4000, .inl (fun _ => 0)), .inr (4, [.null, .int 0])]) (c2 := 4) (s2 := 88002) hX dX2_init_31 ci_4 (tb_at 234 (by decide +kernel) rfl) df_X5 (fun _ => rfl) (Nat.le_of_ble_eq_true rfl) (Nat.le_of_ble_eq_true rfl) (by rw [hN] <;> rfl) rfl rfl rfl ?_
  refine e_dup hX dX2_init_34 rfl ?_
  refine k_callI (as := []) (r := 48) (j := 3) (cs2 := [.inl (0, 4000, .inl (fun _ => 0)), .inl (0, 80000, .inl (fun _ => 0)), .inl (1, 4000, .inl (fun _ => 0)), .inr (4, [.ref 49, .int (0)]), .inl (0, 4000, .inl (fun _ => 0))]) (c2 := 5) (s2 := 92002) hX dX2_init_35 mk_X5_init rfl lk_X2_25 (n_X5_init (o := 48) (N := 49) (by rw [List.length_append, List.length_set, hN] <;> rfl) (hk_at2 (j := 3) hN rfl rfl)) (by rw [hN] <;> rfl) (Nat.le_of_ble_eq_true rfl) rfl (Nat.le_of_ble_eq_true rfl) (Nat.le_of_ble_eq_true rfl) (Nat.le_of_ble_eq_true rfl) (Nat.le_of_ble_eq_true rfl) rfl rfl rfl rfl rfl ?_
  refine k_putF (fs2 := [.ref 45, .ref 46, .ref 47, .ref 48]) hX dX2_init_38 fl_X2_26 rfl (fun C T N e => congrArg Prod.fst (Option.some.inj (e.symm.trans ci_2.1))) ho (Nat.le_of_ble_eq_true rfl) rfl rfl rfl ?_
  exact e_vret hX dX2_init_41 rfl rfl (Nat.le_of_ble_eq_true rfl) (by rw [List.length_append, List.length_set] <;> rfl) ⟨rfl, rfl⟩
set_option maxRecDepth 100000 in
set_option maxHeartbeats 4000000 in
theorem n_X1_init {h : List AC} (hN : h.length = 21) (hg : h[20]? = some (.inr (1, [.null, .null, .null, .null, .null, .null, .null, .null, .null, .null, .null, .null, .null, .int 0, .int 0, .int 0, .int 0]))) : Em mX1_init [.ref 20, .ref 1, .ref 9] h (fun r h' => r = none ∧ h' = h.set 20 (.inr (1, [.ref 1, .ref 9, .ref 21, .ref 23, .ref 25, .ref 31, .ref 36, .ref 40, .ref 42, .ref 44, .ref 50, .ref 51, .ref 52, .int (0), .int (0), .int (0), .int (0)])) ++ [.inr (6, [.long 0, .int (0), .ref 22]), .inl (0, 8, .inl (fun _ => 0)), .inr (6, [.long 0, .int (0), .ref 24]), .inl (0, 8, .inl (fun _ => 0)), .inr (8, [.ref 1, .ref 26, .ref 27, .ref 28, .ref 29, .ref 30, .int (0)]), .inl (0, 20, .inl (fun _ => 0)), .inl (0, 20, .inl (fun _ => 0)), .inl (0, 20, .inl (fun _ => 0)), .inl (0, 20, .inl (fun _ => 0)), .inl (0, 20, .inl (fun _ => 0)), .inr (7, [.ref 32, .ref 33, .ref 34, .ref 35, .int (0)]), .inl (2, 4000, .inr (.inl (fun _ => 0))), .inl (2, 4000, .inr (.inl (fun _ => 0))), .inl (2, 4000, .inr (.inl (fun _ => 0))), .inl (0, 8192, .inl (fun _ => 0)), .inr (3, [.ref 37, .ref 38, .ref 39, .int (0)]), .inl (0, 200, .inl (fun _ => 0)), .inl (0, 200, .inl (fun _ => 0)), .inl (0, 200, .inl (fun _ => 0)), .inr (4, [.ref 41, .int (0)]), .inl (0, 4000, .inl (fun _ => 0)), .inr (4, [.ref 43, .int (0)]), .inl (0, 4000, .inl (fun _ => 0)), .inr (2, [.ref 45, .ref 46, .ref 47, .ref 48]), .inl (0, 4000, .inl (fun _ => 0)), .inl (0, 80000, .inl (fun _ => 0)), .inl (1, 4000, .inl (fun _ => 0)), .inr (4, [.ref 49, .int (0)]), .inl (0, 4000, .inl (fun _ => 0)), .inl (0, 4000, .inl (fun _ => 0)), .inl (0, 4000, .inl (fun _ => 0)), .inl (0, 2048, .inl (fun _ => 0))]) := by
  have ho : 20 < h.length := (List.getElem?_eq_some_iff.mp hg).1
  refine Em.of mk_X1_init (Nat.le_of_ble_eq_true rfl) rfl (fun X hX => ?_)
  refine e_aload_n hX dX1_init_0 rfl ?_
  refine e_objInit hX dX1_init_1 (tb_at 167 (by decide +kernel) rfl) (Nat.le_of_ble_eq_true rfl) (Nat.le_of_ble_eq_true rfl) rfl ?_
  refine k_begin hg ?_
  refine e_aload_n hX dX1_init_4 rfl ?_
  refine e_aload_n hX dX1_init_5 rfl ?_
  refine k_putF (fs2 := [.ref 1, .null, .null, .null, .null, .null, .null, .null, .null, .null, .null, .null, .null, .int 0, .int 0, .int 0, .int 0]) hX dX1_init_6 fl_X1_9 rfl (fun C T N e => congrArg Prod.fst (Option.some.inj (e.symm.trans ci_1.1))) ho (Nat.le_of_ble_eq_true rfl) rfl rfl rfl ?_
  refine e_aload_n hX dX1_init_9 rfl ?_
  refine e_aload_n hX dX1_init_10 rfl ?_
  refine k_putF (fs2 := [.ref 1, .ref 9, .null, .null, .null, .null, .null, .null, .null, .null, .null, .null, .null, .int 0, .int 0, .int 0, .int 0]) hX dX1_init_11 fl_X1_15 rfl (fun C T N e => congrArg Prod.fst (Option.some.inj (e.symm.trans ci_1.1))) ho (Nat.le_of_ble_eq_true rfl) rfl rfl rfl ?_
  refine e_aload_n hX dX1_init_14 rfl ?_
  refine k_new (fs := [.long 0, .int 0, .null]) (r := 21) (cs2 := [.inr (6, [.long 0, .int 0, .null])]) (c2 := 1) (s2 := 3) hX dX1_init_15 ci_6 (tb_at 168 (by decide +kernel) rfl) df_X7 (fun _ => rfl) (Nat.le_of_ble_eq_true rfl) (Nat.le_of_ble_eq_true rfl) (by rw [hN] <;> rfl) rfl rfl rfl ?_
  refine e_dup hX dX1_init_18 rfl ?_
  refine k_callI (as := []) (r := 21) (j := 0) (cs2 := [.inr (6, [.long 0, .int (0), .ref 22]), .inl (0, 8, .inl (fun _ => 0))]) (c2 := 2) (s2 := 11) hX dX1_init_19 mk_X7_init rfl lk_X1_21 (n_X7_init (o := 21) (N := 22) (by rw [List.length_append, List.length_set, hN] <;> rfl) (hk_at2 (j := 0) hN rfl rfl)) (by rw [hN] <;> rfl) (Nat.le_of_ble_eq_true rfl) rfl (Nat.le_of_ble_eq_true rfl) (Nat.le_of_ble_eq_true rfl) (Nat.le_of_ble_eq_true rfl) (Nat.le_of_ble_eq_true rfl) rfl rfl rfl rfl rfl ?_
  refine k_putF (fs2 := [.ref 1, .ref 9, .ref 21, .null, .null, .null, .null, .null, .null, .null, .null, .null, .null, .int 0, .int 0, .int 0, .int 0]) hX dX1_init_22 fl_X1_22 rfl (fun C T N e => congrArg Prod.fst (Option.some.inj (e.symm.trans ci_1.1))) ho (Nat.le_of_ble_eq_true rfl) rfl rfl rfl ?_
  refine e_aload_n hX dX1_init_25 rfl ?_
  refine k_new (fs := [.long 0, .int 0, .null]) (r := 23) (cs2 := [.inr (6, [.long 0, .int (0), .ref 22]), .inl (0, 8, .inl (fun _ => 0)), .inr (6, [.long 0, .int 0, .null])]) (c2 := 3) (s2 := 14) hX dX1_init_26 ci_6 (tb_at 168 (by decide +kernel) rfl) df_X7 (fun _ => rfl) (Nat.le_of_ble_eq_true rfl) (Nat.le_of_ble_eq_true rfl) (by rw [hN] <;> rfl) rfl rfl rfl ?_
  refine e_dup hX dX1_init_29 rfl ?_
  refine k_callI (as := []) (r := 23) (j := 2) (cs2 := [.inr (6, [.long 0, .int (0), .ref 22]), .inl (0, 8, .inl (fun _ => 0)), .inr (6, [.long 0, .int (0), .ref 24]), .inl (0, 8, .inl (fun _ => 0))]) (c2 := 4) (s2 := 22) hX dX1_init_30 mk_X7_init rfl lk_X1_21 (n_X7_init (o := 23) (N := 24) (by rw [List.length_append, List.length_set, hN] <;> rfl) (hk_at2 (j := 2) hN rfl rfl)) (by rw [hN] <;> rfl) (Nat.le_of_ble_eq_true rfl) rfl (Nat.le_of_ble_eq_true rfl) (Nat.le_of_ble_eq_true rfl) (Nat.le_of_ble_eq_true rfl) (Nat.le_of_ble_eq_true rfl) rfl rfl rfl rfl rfl ?_
  refine k_putF (fs2 := [.ref 1, .ref 9, .ref 21, .ref 23, .null, .null, .null, .null, .null, .null, .null, .null, .null, .int 0, .int 0, .int 0, .int 0]) hX dX1_init_33 fl_X1_26 rfl (fun C T N e => congrArg Prod.fst (Option.some.inj (e.symm.trans ci_1.1))) ho (Nat.le_of_ble_eq_true rfl) rfl rfl rfl ?_
  refine e_aload_n hX dX1_init_36 rfl ?_
  refine k_new (fs := [.null, .null, .null, .null, .null, .null, .int 0]) (r := 25) (cs2 := [.inr (6, [.long 0, .int (0), .ref 22]), .inl (0, 8, .inl (fun _ => 0)), .inr (6, [.long 0, .int (0), .ref 24]), .inl (0, 8, .inl (fun _ => 0)), .inr (8, [.null, .null, .null, .null, .null, .null, .int 0])]) (c2 := 5) (s2 := 29) hX dX1_init_37 ci_8 (tb_at 170 (by decide +kernel) rfl) df_X9 (fun _ => rfl) (Nat.le_of_ble_eq_true rfl) (Nat.le_of_ble_eq_true rfl) (by rw [hN] <;> rfl) rfl rfl rfl ?_
  refine e_dup hX dX1_init_40 rfl ?_
  refine e_aload_n hX dX1_init_41 rfl ?_
  refine k_callI (as := [.ref 1]) (r := 25) (j := 4) (cs2 := [.inr (6, [.long 0, .int (0), .ref 22]), .inl (0, 8, .inl (fun _ => 0)), .inr (6, [.long 0, .int (0), .ref 24]), .inl (0, 8, .inl (fun _ => 0)), .inr (8, [.ref 1, .ref 26, .ref 27, .ref 28, .ref 29, .ref 30, .int (0)]), .inl (0, 20, .inl (fun _ => 0)), .inl (0, 20, .inl (fun _ => 0)), .inl (0, 20, .inl (fun _ => 0)), .inl (0, 20, .inl (fun _ => 0)), .inl (0, 20, .inl (fun _ => 0))]) (c2 := 10) (s2 := 129) hX dX1_init_42 mk_X9_init rfl lk_X1_31 (n_X9_init (o := 25) (N := 26) (by rw [List.length_append, List.length_set, hN] <;> rfl) (hk_at2 (j := 4) hN rfl rfl)) (by rw [hN] <;> rfl) (Nat.le_of_ble_eq_true rfl) rfl (Nat.le_of_ble_eq_true rfl) (Nat.le_of_ble_eq_true rfl) (Nat.le_of_ble_eq_true rfl) (Nat.le_of_ble_eq_true rfl) rfl rfl rfl rfl rfl ?_
  refine k_putF (fs2 := [.ref 1, .ref 9, .ref 21, .ref 23, .ref 25, .null, .null, .null, .null, .null, .null, .null, .null, .int 0, .int 0, .int 0, .int 0]) hX dX1_init_45 fl_X1_34 rfl (fun C T N e => congrArg Prod.fst (Option.some.inj (e.symm.trans ci_1.1))) ho (Nat.le_of_ble_eq_true rfl) rfl rfl rfl ?_
  refine e_aload_n hX dX1_init_48 rfl ?_
  refine k_new (fs := [.null, .null, .null, .null, .int 0]) (r := 31) (cs2 := [.inr (6, [.long 0, .int (0), .ref 22]), .inl (0, 8, .inl (fun _ => 0)), .inr (6, [.long 0, .int (0), .ref 24]), .inl (0, 8, .inl (fun _ => 0)), .inr (8, [.ref 1, .ref 26, .ref 27, .ref 28, .ref 29, .ref 30, .int (0)]), .inl (0, 20, .inl (fun _ => 0)), .inl (0, 20, .inl (fun _ => 0)), .inl (0, 20, .inl (fun _ => 0)), .inl (0, 20, .inl (fun _ => 0)), .inl (0, 20, .inl (fun _ => 0)), .inr (7, [.null, .null, .null, .null, .int 0])]) (c2 := 11) (s2 := 134) hX dX1_init_49 ci_7 (tb_at 172 (by decide +kernel) rfl) df_X8 (fun _ => rfl) (Nat.le_of_ble_eq_true rfl) (Nat.le_of_ble_eq_true rfl) (by rw [hN] <;> rfl) rfl rfl rfl ?_
  refine e_dup hX dX1_init_52 rfl ?_
  refine k_callI (as := []) (r := 31) (j := 10) (cs2 := [.inr (6, [.long 0, .int (0), .ref 22]), .inl (0, 8, .inl (fun _ => 0)), .inr (6, [.long 0, .int (0), .ref 24]), .inl (0, 8, .inl (fun _ => 0)), .inr (8, [.ref 1, .ref 26, .ref 27, .ref 28, .ref 29, .ref 30, .int (0)]), .inl (0, 20, .inl (fun _ => 0)), .inl (0, 20, .inl (fun _ => 0)), .inl (0, 20, .inl (fun _ => 0)), .inl (0, 20, .inl (fun _ => 0)), .inl (0, 20, .inl (fun _ => 0)), .inr (7, [.ref 32, .ref 33, .ref 34, .ref 35, .int (0)]), .inl (2, 4000, .inr (.inl (fun _ => 0))), .inl (2, 4000, .inr (.inl (fun _ => 0))), .inl (2, 4000, .inr (.inl (fun _ => 0))), .inl (0, 8192, .inl (fun _ => 0))]) (c2 := 15) (s2 := 20326) hX dX1_init_53 mk_X8_init rfl lk_X1_40 (n_X8_init (o := 31) (N := 32) (by rw [List.length_append, List.length_set, hN] <;> rfl) (hk_at2 (j := 10) hN rfl rfl)) (by rw [hN] <;> rfl) (Nat.le_of_ble_eq_true rfl) rfl (Nat.le_of_ble_eq_true rfl) (Nat.le_of_ble_eq_true rfl) (Nat.le_of_ble_eq_true rfl) (Nat.le_of_ble_eq_true rfl) rfl rfl rfl rfl rfl ?_
  refine k_putF (fs2 := [.ref 1, .ref 9, .ref 21, .ref 23, .ref 25, .ref 31, .null, .null, .null, .null, .null, .null, .null, .int 0, .int 0, .int 0, .int 0]) hX dX1_init_56 fl_X1_41 rfl (fun C T N e => congrArg Prod.fst (Option.some.inj (e.symm.trans ci_1.1))) ho (Nat.le_of_ble_eq_true rfl) rfl rfl rfl ?_
  refine e_aload_n hX dX1_init_59 rfl ?_
  refine k_new (fs := [.null, .null, .null, .int 0]) (r := 36) (cs2 := [.inr (6, [.long 0, .int (0), .ref 22]), .inl (0, 8, .inl (fun _ => 0)), .inr (6, [.long 0, .int (0), .ref 24]), .inl (0, 8, .inl (fun _ => 0)), .inr (8, [.ref 1, .ref 26, .ref 27, .ref 28, .ref 29, .ref 30, .int (0)]), .inl (0, 20, .inl (fun _ => 0)), .inl (0, 20, .inl (fun _ => 0)), .inl (0, 20, .inl (fun _ => 0)), .inl (0, 20, .inl (fun _ => 0)), .inl (0, 20, .inl (fun _ => 0)), .inr (7, [.ref 32, .ref 33, .ref 34, .ref 35, .int (0)]), .inl (2, 4000, .inr (.inl (fun _ => 0))), .inl (2, 4000, .inr (.inl (fun _ => 0))), .inl (2, 4000, .inr (.inl (fun _ => 0))), .inl (0, 8192, .inl (fun _ => 0)), .inr (3, [.null, .null, .null, .int 0])]) (c2 := 16) (s2 := 20330) hX dX1_init_60 ci_3 (tb_at 195 (by decide +kernel) rfl) df_X3 (fun _ => rfl) (Nat.le_of_ble_eq_true rfl) (Nat.le_of_ble_eq_true rfl) (by rw [hN] <;> rfl) rfl rfl rfl ?_
  refine e_dup hX dX1_init_63 rfl ?_
  refine k_callI (as := []) (r := 36) (j := 15) (cs2 := [.inr (6, [.long 0, .int (0), .ref 22]), .inl (0, 8, .inl (fun _ => 0)), .inr (6, [.long 0, .int (0), .ref 24]), .inl (0, 8, .inl (fun _ => 0)), .inr (8, [.ref 1, .ref 26, .ref 27, .ref 28, .ref 29, .ref 30, .int (0)]), .inl (0, 20, .inl (fun _ => 0)), .inl (0, 20, .inl (fun _ => 0)), .inl (0, 20, .inl (fun _ => 0)), .inl (0, 20, .inl (fun _ => 0)), .inl (0, 20, .inl (fun _ => 0)), .inr (7, [.ref 32, .ref 33, .ref 34, .ref 35, .int (0)]), .inl (2, 4000, .inr (.inl (fun _ => 0))), .inl (2, 4000, .inr (.inl (fun _ => 0))), .inl (2, 4000, .inr (.inl (fun _ => 0))), .inl (0, 8192, .inl (fun _ => 0)), .inr (3, [.ref 37, .ref 38, .ref 39, .int (0)]), .inl (0, 200, .inl (fun _ => 0)), .inl (0, 200, .inl (fun _ => 0)), .inl (0, 200, .inl (fun _ => 0))]) (c2 := 19) (s2 := 20930) hX dX1_init_64 mk_X3_init rfl lk_X1_47 (n_X3_init (o := 36) (N := 37) (by rw [List.length_append, List.length_set, hN] <;> rfl) (hk_at2 (j := 15) hN rfl rfl)) (by rw [hN] <;> rfl) (Nat.le_of_ble_eq_true rfl) rfl (Nat.le_of_ble_eq_true rfl) (Nat.le_of_ble_eq_true rfl) (Nat.le_of_ble_eq_true rfl) (Nat.le_of_ble_eq_true rfl) rfl rfl rfl rfl rfl ?_
  refine k_putF (fs2 := [.ref 1, .ref 9, .ref 21, .ref 23, .ref 25, .ref 31, .ref 36, .null, .null, .null, .null, .null, .null, .int 0, .int 0, .int 0, .int 0]) hX dX1_init_67 fl_X1_48 rfl (fun C T N e => congrArg Prod.fst (Option.some.inj (e.symm.trans ci_1.1))) ho (Nat.le_of_ble_eq_true rfl) rfl rfl rfl ?_
  refine e_aload_n hX dX1_init_70 rfl ?_
  refine k_new (fs := [.null, .int 0]) (r := 40) (cs2 := [.inr (6, [.long 0, .int (0), .ref 22]), .inl (0, 8, .inl (fun _ => 0)), .inr (6, [.long 0, .int (0), .ref 24]), .inl (0, 8, .inl (fun _ => 0)), .inr (8, [.ref 1, .ref 26, .ref 27, .ref 28, .ref 29, .ref 30, .int (0)]), .inl (0, 20, .inl (fun _ => 0)), .inl (0, 20, .inl (fun _ => 0)), .inl (0, 20, .inl (fun _ => 0)), .inl (0, 20, .inl (fun _ => 0)), .inl (0, 20, .inl (fun _ => 0)), .inr (7, [.ref 32, .ref 33, .ref 34, .ref 35, .int (0)]), .inl (2, 4000, .inr (.inl (fun _ => 0))), .inl (2, 4000, .inr (.inl (fun _ => 0))), .inl (2, 4000, .inr (.inl (fun _ => 0))), .inl (0, 8192, .inl (fun _ => 0)), .inr (3, [.ref 37, .ref 38, .ref 39, .int (0)]), .inl (0, 200, .inl (fun _ => 0)), .inl (0, 200, .inl (fun _ => 0)), .inl (0, 200, .inl (fun _ => 0)), .inr (4, [.null, .int 0])]) (c2 := 20) (s2 := 20932) hX dX1_init_71 ci_4 (tb_at 214 (by decide +kernel) rfl) df_X5 (fun _ => rfl) (Nat.le_of_ble_eq_true rfl) (Nat.le_of_ble_eq_true rfl) (by rw [hN] <;> rfl) rfl rfl rfl ?_
  refine e_dup hX dX1_init_74 rfl ?_
  refine k_callI (as := []) (r := 40) (j := 19) (cs2 := [.inr (6, [.long 0, .int (0), .ref 22]), .inl (0, 8, .inl (fun _ => 0)), .inr (6, [.long 0, .int (0), .ref 24]), .inl (0, 8, .inl (fun _ => 0)), .inr (8, [.ref 1, .ref 26, .ref 27, .ref 28, .ref 29, .ref 30, .int (0)]), .inl (0, 20, .inl (fun _ => 0)), .inl (0, 20, .inl (fun _ => 0)), .inl (0, 20, .inl (fun _ => 0)), .inl (0, 20, .inl (fun _ => 0)), .inl (0, 20, .inl (fun _ => 0)), .inr (7, [.ref 32, .ref 33, .ref 34, .ref 35, .int (0)]), .inl (2, 4000, .inr (.inl (fun _ => 0))), .inl (2, 4000, .inr (.inl (fun _ => 0))), .inl (2, 4000, .inr (.inl (fun _ => 0))), .inl (0, 8192, .inl (fun _ => 0)), .inr (3, [.ref 37, .ref 38, .ref 39, .int (0)]), .inl (0, 200, .inl (fun _ => 0)), .inl (0, 200, .inl (fun _ => 0)), .inl (0, 200, .inl (fun _ => 0)), .inr (4, [.ref 41, .int (0)]), .inl (0, 4000, .inl (fun _ => 0))]) (c2 := 21) (s2 := 24932) hX dX1_init_75 mk_X5_init rfl lk_X1_54 (n_X5_init (o := 40) (N := 41) (by rw [List.length_append, List.length_set, hN] <;> rfl) (hk_at2 (j := 19) hN rfl rfl)) (by rw [hN] <;> rfl) (Nat.le_of_ble_eq_true rfl) rfl (Nat.le_of_ble_eq_true rfl) (Nat.le_of_ble_eq_true rfl) (Nat.le_of_ble_eq_true rfl) (Nat.le_of_ble_eq_true rfl) rfl rfl rfl rfl rfl ?_
  refine k_putF (fs2 := [.ref 1, .ref 9, .ref 21, .ref 23, .ref 25, .ref 31, .ref 36, .ref 40, .null, .null, .null, .null, .null, .int 0, .int 0, .int 0, .int 0]) hX dX1_init_78 fl_X1_55 rfl (fun C T N e => congrArg Prod.fst (Option.some.inj (e.symm.trans ci_1.1))) ho (Nat.le_of_ble_eq_true rfl) rfl rfl rfl ?_
  refine e_aload_n hX dX1_init_81 rfl ?_
  refine k_new (fs := [.null, .int 0]) (r := 42) (cs2 := [.inr (6, [.long 0, .int (0), .ref 22]), .inl (0, 8, .inl (fun _ => 0)), .inr (6, [.long 0, .int (0), .ref 24]), .inl (0, 8, .inl (fun _ => 0)), .inr (8, [.ref 1, .ref 26, .ref 27, .ref 28, .ref 29, .ref 30, .int (0)]), .inl (0, 20, .inl (fun _ => 0)), .inl (0, 20, .inl (fun _ => 0)), .inl (0, 20, .inl (fun _ => 0)), .inl (0, 20, .inl (fun _ => 0)), .inl (0, 20, .inl (fun _ => 0)), .inr (7, [.ref 32, .ref 33, .ref 34, .ref 35, .int (0)]), .inl (2, 4000, .inr (.inl (fun _ => 0))), .inl (2, 4000, .inr (.inl (fun _ => 0))), .inl (2, 4000, .inr (.inl (fun _ => 0))), .inl (0, 8192, .inl (fun _ => 0)), .inr (3, [.ref 37, .ref 38, .ref 39, .int (0)]), .inl (0, 200, .inl (fun _ => 0)), .inl (0, 200, .inl (fun _ => 0)), .inl (0, 200, .inl (fun _ => 0)), .inr (4, [.ref 41, .int (0)]), .inl (0, 4000, .inl (fun _ => 0)), .inr (4, [.null, .int 0])]) (c2 := 22) (s2 := 24934) hX dX1_init_82 ci_4 (tb_at 214 (by decide +kernel) rfl) df_X5 (fun _ => rfl) (Nat.le_of_ble_eq_true rfl) (Nat.le_of_ble_eq_true rfl) (by rw [hN] <;> rfl) rfl rfl rfl ?_
  refine e_dup hX dX1_init_85 rfl ?_
  refine k_callI (as := []) (r := 42) (j := 21) (cs2 := [.inr (6, [.long 0, .int (0), .ref 22]), .inl (0, 8, .inl (fun _ => 0)), .inr (6, [.long 0, .int (0), .ref 24]), .inl (0, 8, .inl (fun _ => 0)), .inr (8, [.ref 1, .ref 26, .ref 27, .ref 28, .ref 29, .ref 30, .int (0)]), .inl (0, 20, .inl (fun _ => 0)), .inl (0, 20, .inl (fun _ => 0)), .inl (0, 20, .inl (fun _ => 0)), .inl (0, 20, .inl (fun _ => 0)), .inl (0, 20, .inl (fun _ => 0)), .inr (7, [.ref 32, .ref 33, .ref 34, .ref 35, .int (0)]), .inl (2, 4000, .inr (.inl (fun _ => 0))), .inl (2, 4000, .inr (.inl (fun _ => 0))), .inl (2, 4000, .inr (.inl (fun _ => 0))), .inl (0, 8192, .inl (fun _ => 0)), .inr (3, [.ref 37, .ref 38, .ref 39, .int (0)]), .inl (0, 200, .inl (fun _ => 0)), .inl (0, 200, .inl (fun _ => 0)), .inl (0, 200, .inl (fun _ => 0)), .inr (4, [.ref 41, .int (0)]), .inl (0, 4000, .inl (fun _ => 0)), .inr (4, [.ref 43, .int (0)]), .inl (0, 4000, .inl (fun _ => 0))]) (c2 := 23) (s2 := 28934) hX dX1_init_86 mk_X5_init rfl lk_X1_54 (n_X5_init (o := 42) (N := 43) (by rw [List.length_append, List.length_set, hN] <;> rfl) (hk_at2 (j := 21) hN rfl rfl)) (by rw [hN] <;> rfl) (Nat.le_of_ble_eq_true rfl) rfl (Nat.le_of_ble_eq_true rfl) (Nat.le_of_ble_eq_true rfl) (Nat.le_of_ble_eq_true rfl) (Nat.le_of_ble_eq_true rfl) rfl rfl rfl rfl rfl ?_
  refine k_putF (fs2 := [.ref 1, .ref 9, .ref 21, .ref 23, .ref 25, .ref 31, .ref 36, .ref 40, .ref 42, .null, .null, .null, .null, .int 0, .int 0, .int 0, .int 0]) hX dX1_init_89 fl_X1_59 rfl (fun C T N e => congrArg Prod.fst (Option.some.inj (e.symm.trans ci_1.1))) ho (Nat.le_of_ble_eq_true rfl) rfl rfl rfl ?_
  refine e_aload_n hX dX1_init_92 rfl ?_
  refine k_new (fs := [.null, .null, .null, .null]) (r := 44) (cs2 := [.inr (6, [.long 0, .int (0), .ref 22]), .inl (0, 8, .inl (fun _ => 0)), .inr (6, [.long 0, .int (0), .ref 24]), .inl (0, 8, .inl (fun _ => 0)), .inr (8, [.ref 1, .ref 26, .ref 27, .ref 28, .ref 29, .ref 30, .int (0)]), .inl (0, 20, .inl (fun _ => 0)), .inl (0, 20, .inl (fun _ => 0)), .inl (0, 20, .inl (fun _ => 0)), .inl (0, 20, .inl (fun _ => 0)), .inl (0, 20, .inl (fun _ => 0)), .inr (7, [.ref 32, .ref 33, .ref 34, .ref 35, .int (0)]), .inl (2, 4000, .inr (.inl (fun _ => 0))), .inl (2, 4000, .inr (.inl (fun _ => 0))), .inl (2, 4000, .inr (.inl (fun _ => 0))), .inl (0, 8192, .inl (fun _ => 0)), .inr (3, [.ref 37, .ref 38, .ref 39, .int (0)]), .inl (0, 200, .inl (fun _ => 0)), .inl (0, 200, .inl (fun _ => 0)), .inl (0, 200, .inl (fun _ => 0)), .inr (4, [.ref 41, .int (0)]), .inl (0, 4000, .inl (fun _ => 0)), .inr (4, [.ref 43, .int (0)]), .inl (0, 4000, .inl (fun _ => 0)), .inr (2, [.null, .null, .null, .null])]) (c2 := 24) (s2 := 28938) hX dX1_init_93 ci_2 (tb_at 227 (by decide +kernel) rfl) df_X2 (fun _ => rfl) (Nat.le_of_ble_eq_true rfl) (Nat.le_of_ble_eq_true rfl) (by rw [hN] <;> rfl) rfl rfl rfl ?_
  refine e_dup hX dX1_init_96 rfl ?_
  refine k_callI (as := []) (r := 44) (j := 23) (cs2 := [.inr (6, [.long 0, .int (0), .ref 22]), .inl (0, 8, .inl (fun _ => 0)), .inr (6, [.long 0, .int (0), .ref 24]), .inl (0, 8, .inl (fun _ => 0)), .inr (8, [.ref 1, .ref 26, .ref 27, .ref 28, .ref 29, .ref 30, .int (0)]), .inl (0, 20, .inl (fun _ => 0)), .inl (0, 20, .inl (fun _ => 0)), .inl (0, 20, .inl (fun _ => 0)), .inl (0, 20, .inl (fun _ => 0)), .inl (0, 20, .inl (fun _ => 0)), .inr (7, [.ref 32, .ref 33, .ref 34, .ref 35, .int (0)]), .inl (2, 4000, .inr (.inl (fun _ => 0))), .inl (2, 4000, .inr (.inl (fun _ => 0))), .inl (2, 4000, .inr (.inl (fun _ => 0))), .inl (0, 8192, .inl (fun _ => 0)), .inr (3, [.ref 37, .ref 38, .ref 39, .int (0)]), .inl (0, 200, .inl (fun _ => 0)), .inl (0, 200, .inl (fun _ => 0)), .inl (0, 200, .inl (fun _ => 0)), .inr (4, [.ref 41, .int (0)]), .inl (0, 4000, .inl (fun _ => 0)), .inr (4, [.ref 43, .int (0)]), .inl (0, 4000, .inl (fun _ => 0)), .inr (2, [.ref 45, .ref 46, .ref 47, .ref 48]), .inl (0, 4000, .inl (fun _ => 0)), .inl (0, 80000, .inl (fun _ => 0)), .inl (1, 4000, .inl (fun _ => 0)), .inr (4, [.ref 49, .int (0)]), .inl (0, 4000, .inl (fun _ => 0))]) (c2 := 29) (s2 := 120940) hX dX1_init_97 mk_X2_init rfl lk_X1_64 (n_X2_init (by rw [List.length_append, List.length_set, hN] <;> rfl) (hk_at2 (j := 23) hN rfl rfl)) (by rw [hN] <;> rfl) (Nat.le_of_ble_eq_true rfl) rfl (Nat.le_of_ble_eq_true rfl) (Nat.le_of_ble_eq_true rfl) (Nat.le_of_ble_eq_true rfl) (Nat.le_of_ble_eq_true rfl) rfl rfl rfl rfl rfl ?_
  refine k_putF (fs2 := [.ref 1, .ref 9, .ref 21, .ref 23, .ref 25, .ref 31, .ref 36, .ref 40, .ref 42, .ref 44, .null, .null, .null, .int 0, .int 0, .int 0, .int 0]) hX dX1_init_100 fl_X1_65 rfl (fun C T N e => congrArg Prod.fst (Option.some.inj (e.symm.trans ci_1.1))) ho (Nat.le_of_ble_eq_true rfl) rfl rfl rfl ?_
  refine e_aload_n hX dX1_init_103 rfl ?_
  refine e_sipush (v := nI 4000) hX dX1_init_104 (by decide) ?_
  refine k_newi (N := 4000) (r := 50) (cs2 := [.inr (6, [.long 0, .int (0), .ref 22]), .inl (0, 8, .inl (fun _ => 0)), .inr (6, [.long 0, .int (0), .ref 24]), .inl (0, 8, .inl (fun _ => 0)), .inr (8, [.ref 1, .ref 26, .ref 27, .ref 28, .ref 29, .ref 30, .int (0)]), .inl (0, 20, .inl (fun _ => 0)), .inl (0, 20, .inl (fun _ => 0)), .inl (0, 20, .inl (fun _ => 0)), .inl (0, 20, .inl (fun _ => 0)), .inl (0, 20, .inl (fun _ => 0)), .inr (7, [.ref 32, .ref 33, .ref 34, .ref 35, .int (0)]), .inl (2, 4000, .inr (.inl (fun _ => 0))), .inl (2, 4000, .inr (.inl (fun _ => 0))), .inl (2, 4000, .inr (.inl (fun _ => 0))), .inl (0, 8192, .inl (fun _ => 0)), .inr (3, [.ref 37, .ref 38, .ref 39, .int (0)]), .inl (0, 200, .inl (fun _ => 0)), .inl (0, 200, .inl (fun _ => 0)), .inl (0, 200, .inl (fun _ => 0)), .inr (4, [.ref 41, .int (0)]), .inl (0, 4000, .inl (fun _ => 0)), .inr (4, [.ref 43, .int (0)]), .inl (0, 4000, .inl (fun _ => 0)), .inr (2, [.ref 45, .ref 46, .ref 47, .ref 48]), .inl (0, 4000, .inl (fun _ => 0)), .inl (0, 80000, .inl (fun _ => 0)), .inl (1, 4000, .inl (fun _ => 0)), .inr (4, [.ref 49, .int (0)]), .inl (0, 4000, .inl (fun _ => 0)), .inl (0, 4000, .inl (fun _ => 0))]) (c2 := 30) (s2 := 124940) hX dX1_init_107 (by decide) (by decide) (by decide) (Nat.le_of_ble_eq_true rfl) (Nat.le_of_ble_eq_true rfl) (by rw [hN] <;> rfl) rfl rfl rfl ?_
  refine k_putF (fs2 := [.ref 1, .ref 9, .ref 21, .ref 23, .ref 25, .ref 31, .ref 36, .ref 40, .ref 42, .ref 44, .ref 50, .null, .null, .int 0, .int 0, .int 0, .int 0]) hX dX1_init_109 fl_X1_69 rfl (fun C T N e => congrArg Prod.fst (Option.some.inj (e.symm.trans ci_1.1))) ho (Nat.le_of_ble_eq_true rfl) rfl rfl rfl ?_
  refine e_aload_n hX dX1_init_112 rfl ?_
  refine e_sipush (v := nI 4000) hX dX1_init_113 (by decide) ?_
  refine k_newi (N := 4000) (r := 51) (cs2 := [.inr (6, [.long 0, .int (0), .ref 22]), .inl (0, 8, .inl (fun _ => 0)), .inr (6, [.long 0, .int (0), .ref 24]), .inl (0, 8, .inl (fun _ => 0)), .inr (8, [.ref 1, .ref 26, .ref 27, .ref 28, .ref 29, .ref 30, .int (0)]), .inl (0, 20, .inl (fun _ => 0)), .inl (0, 20, .inl (fun _ => 0)), .inl (0, 20, .inl (fun _ => 0)), .inl (0, 20, .inl (fun _ => 0)), .inl (0, 20, .inl (fun _ => 0)), .inr (7, [.ref 32, .ref 33, .ref 34, .ref 35, .int (0)]), .inl (2, 4000, .inr (.inl (fun _ => 0))), .inl (2, 4000, .inr (.inl (fun _ => 0))), .inl (2, 4000, .inr (.inl (fun _ => 0))), .inl (0, 8192, .inl (fun _ => 0)), .inr (3, [.ref 37, .ref 38, .ref 39, .int (0)]), .inl (0, 200, .inl (fun _ => 0)), .inl (0, 200, .inl (fun _ => 0)), .inl (0, 200, .inl (fun _ => 0)), .inr (4, [.ref 41, .int (0)]), .inl (0, 4000, .inl (fun _ => 0)), .inr (4, [.ref 43, .int (0)]), .inl (0, 4000, .inl (fun _ => 0)), .inr (2, [.ref 45, .ref 46, .ref 47, .ref 48]), .inl (0, 4000, .inl (fun _ => 0)), .inl (0, 80000, .inl (fun _ => 0)), .inl (1, 4000, .inl (fun _ => 0)), .inr (4, [.ref 49, .int (0)]), .inl (0, 4000, .inl (fun _ => 0)), .inl (0, 4000, .inl (fun _ => 0)), .inl (0, 4000, .inl (fun _ => 0))]) (c2 := 31) (s2 := 128940) hX dX1_init_116 (by decide) (by decide) (by decide) (Nat.le_of_ble_eq_true rfl) (Nat.le_of_ble_eq_true rfl) (by rw [hN] <;> rfl) rfl rfl rfl ?_
  refine k_putF (fs2 := [.ref 1, .ref 9, .ref 21, .ref 23, .ref 25, .ref 31, .ref 36, .ref 40, .ref 42, .ref 44, .ref 50, .ref 51, .null, .int 0, .int 0, .int 0, .int 0]) hX dX1_init_118 fl_X1_73 rfl (fun C T N e => congrArg Prod.fst (Option.some.inj (e.symm.trans ci_1.1))) ho (Nat.le_of_ble_eq_true rfl) rfl rfl rfl ?_
  refine e_aload_n hX dX1_init_121 rfl ?_
  refine e_sipush (v := nI 2048) hX dX1_init_122 (by decide) ?_
  refine k_newi (N := 2048) (r := 52) (cs2 := [.inr (6, [.long 0, .int (0), .ref 22]), .inl (0, 8, .inl (fun _ => 0)), .inr (6, [.long 0, .int (0), .ref 24]), .inl (0, 8, .inl (fun _ => 0)), .inr (8, [.ref 1, .ref 26, .ref 27, .ref 28, .ref 29, .ref 30, .int (0)]), .inl (0, 20, .inl (fun _ => 0)), .inl (0, 20, .inl (fun _ => 0)), .inl (0, 20, .inl (fun _ => 0)), .inl (0, 20, .inl (fun _ => 0)), .inl (0, 20, .inl (fun _ => 0)), .inr (7, [.ref 32, .ref 33, .ref 34, .ref 35, .int (0)]), .inl (2, 4000, .inr (.inl (fun _ => 0))), .inl (2, 4000, .inr (.inl (fun _ => 0))), .inl (2, 4000, .inr (.inl (fun _ => 0))), .inl (0, 8192, .inl (fun _ => 0)), .inr (3, [.ref 37, .ref 38, .ref 39, .int (0)]), .inl (0, 200, .inl (fun _ => 0)), .inl (0, 200, .inl (fun _ => 0)), .inl (0, 200, .inl (fun _ => 0)), .inr (4, [.ref 41, .int (0)]), .inl (0, 4000, .inl (fun _ => 0)), .inr (4, [.ref 43, .int (0)]), .inl (0, 4000, .inl (fun _ => 0)), .inr (2, [.ref 45, .ref 46, .ref 47, .ref 48]), .inl (0, 4000, .inl (fun _ => 0)), .inl (0, 80000, .inl (fun _ => 0)), .inl (1, 4000, .inl (fun _ => 0)), .inr (4, [.ref 49, .int (0)]), .inl (0, 4000, .inl (fun _ => 0)), .inl (0, 4000, .inl (fun _ => 0)), .inl (0, 4000, .inl (fun _ => 0)), .inl (0, 2048, .inl (fun _ => 0))]) (c2 := 32) (s2 := 130988) hX dX1_init_125 (by decide) (by decide) (by decide) (Nat.le_of_ble_eq_true rfl) (Nat.le_of_ble_eq_true rfl) (by rw [hN] <;> rfl) rfl rfl rfl ?_
  refine k_putF (fs2 := [.ref 1, .ref 9, .ref 21, .ref 23, .ref 25, .ref 31, .ref 36, .ref 40, .ref 42, .ref 44, .ref 50, .ref 51, .ref 52, .int 0, .int 0, .int 0, .int 0]) hX dX1_init_127 fl_X1_76 rfl (fun C T N e => congrArg Prod.fst (Option.some.inj (e.symm.trans ci_1.1))) ho (Nat.le_of_ble_eq_true rfl) rfl rfl rfl ?_
  refine e_aload_n hX dX1_init_130 rfl ?_
  refine e_iconst (v := (0)) hX dX1_init_131 (by decide) ?_
  refine k_put (fs2 := [.ref 1, .ref 9, .ref 21, .ref 23, .ref 25, .ref 31, .ref 36, .ref 40, .ref 42, .ref 44, .ref 50, .ref 51, .ref 52, .int (0), .int 0, .int 0, .int 0]) hX dX1_init_132 fl_X1_79 ho (Nat.le_of_ble_eq_true rfl) rfl rfl rfl ?_
  refine e_aload_n hX dX1_init_135 rfl ?_
  refine e_iconst (v := (0)) hX dX1_init_136 (by decide) ?_
  refine k_put (fs2 := [.ref 1, .ref 9, .ref 21, .ref 23, .ref 25, .ref 31, .ref 36, .ref 40, .ref 42, .ref 44, .ref 50, .ref 51, .ref 52, .int (0), .int (0), .int 0, .int 0]) hX dX1_init_137 fl_X1_83 ho (Nat.le_of_ble_eq_true rfl) rfl rfl rfl ?_
  refine e_aload_n hX dX1_init_140 rfl ?_
  refine e_iconst (v := (0)) hX dX1_init_141 (by decide) ?_
  refine k_put (fs2 := [.ref 1, .ref 9, .ref 21, .ref 23, .ref 25, .ref 31, .ref 36, .ref 40, .ref 42, .ref 44, .ref 50, .ref 51, .ref 52, .int (0), .int (0), .int (0), .int 0]) hX dX1_init_142 fl_X1_86 ho (Nat.le_of_ble_eq_true rfl) rfl rfl rfl ?_
  refine e_aload_n hX dX1_init_145 rfl ?_
  refine e_iconst (v := (0)) hX dX1_init_146 (by decide) ?_
  refine k_put (fs2 := [.ref 1, .ref 9, .ref 21, .ref 23, .ref 25, .ref 31, .ref 36, .ref 40, .ref 42, .ref 44, .ref 50, .ref 51, .ref 52, .int (0), .int (0), .int (0), .int (0)]) hX dX1_init_147 fl_X1_89 ho (Nat.le_of_ble_eq_true rfl) rfl rfl rfl ?_
  exact e_vret hX dX1_init_150 rfl rfl (Nat.le_of_ble_eq_true rfl) (by rw [List.length_append, List.length_set] <;> rfl) ⟨rfl, rfl⟩
