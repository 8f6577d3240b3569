/-! ===== a scene of the class: the ends in one long, a number a letter ===== -/
def lb (x : Int64) (i : Nat) : Bool := x.toBitVec.getLsbD i
theorem lb_ext {x y : Int64} (h : ∀ i, i < 64 → lb x i = lb y i) : x = y := Int64.toBitVec_inj.mp (BitVec.eq_of_getLsbD_eq (fun i hi => h i hi))
theorem lb_or (x y : Int64) (i : Nat) : lb (x ||| y) i = (lb x i || lb y i) := by unfold lb; rw [Int64.toBitVec_or, BitVec.getLsbD_or]
theorem lb_and (x y : Int64) (i : Nat) : lb (x &&& y) i = (lb x i && lb y i) := by unfold lb; rw [Int64.toBitVec_and, BitVec.getLsbD_and]
theorem lb_xor (x y : Int64) (i : Nat) : lb (x ^^^ y) i = (lb x i ^^ lb y i) := by unfold lb; rw [Int64.toBitVec_xor, BitVec.getLsbD_xor]
theorem lb_m1 : ∀ i, i < 64 → lb (-1) i = true := by decide +kernel
theorem lb_0 (i : Nat) : lb 0 i = false := BitVec.getLsbD_zero
theorem lx_sl : ∀ n, n < 64 → (((nI n).toInt64 &&& 63).toBitVec.smod 64).toNat = n := by decide +kernel
theorem lx_su : ∀ n, n < 64 → (((nI n).toInt64.toUInt64 &&& Int64.toUInt64 63).toBitVec % 64).toNat = n := by decide +kernel
theorem lb_shl (n : Nat) (hn : n < 64) (x : Int64) {i : Nat} (hi : i < 64) : lb (x <<< ((nI n).toInt64 &&& 63)) i = (decide (n ≤ i) && lb x (i - n)) := by
  unfold lb
  rw [Int64.toBitVec_shiftLeft]
  show (x.toBitVec <<< (((nI n).toInt64 &&& 63).toBitVec.smod 64).toNat).getLsbD i = _
  rw [lx_sl n hn, BitVec.getLsbD_shiftLeft]
  rcases Nat.lt_or_ge i n with h | h
  · simp [h, Nat.not_le.mpr h]
  · simp [hi, h, Nat.not_lt.mpr h]
theorem lb_ushr (n : Nat) (hn : n < 64) (x : Int64) (i : Nat) : lb ((x.toUInt64 >>> ((nI n).toInt64.toUInt64 &&& Int64.toUInt64 63)).toInt64) i = lb x (n + i) := by
  show (x.toUInt64 >>> ((nI n).toInt64.toUInt64 &&& Int64.toUInt64 63)).toBitVec.getLsbD i = x.toUInt64.toBitVec.getLsbD (n + i)
  rw [UInt64.toBitVec_shiftRight]
  show (x.toUInt64.toBitVec >>> (((nI n).toInt64.toUInt64 &&& Int64.toUInt64 63).toBitVec % 64).toNat).getLsbD i = _
  rw [lx_su n hn, BitVec.getLsbD_ushiftRight]
theorem lb_lN {m i : Nat} (hi : i < 64) : lb (lN m) i = m.testBit i := by
  show (BitVec.ofNat 64 m).getLsbD i = _
  rw [BitVec.getLsbD_ofNat]
  simp [hi]
theorem lb_i2l {m i : Nat} (hm : m < 2 ^ 31) (hi : i < 64) : lb (nI m).toInt64 i = m.testBit i := by rw [nI_l hm]; exact lb_lN hi
theorem bt_l2i (x : Int64) {i : Nat} (hi : i < 32) : bt x.toInt32 i = lb x i := by
  show (x.toBitVec.signExtend 32).getLsbD i = x.toBitVec.getLsbD i
  rw [BitVec.getLsbD_signExtend]
  simp [hi, show i < 64 by omega]
def gpL (x : Int64) (s w : Nat) : Nat := x.toBitVec.toNat / 2 ^ s % 2 ^ w
theorem gpL_tb (x : Int64) (s w i : Nat) : (gpL x s w).testBit i = (decide (i < w) && lb x (s + i)) := by
  unfold gpL
  rw [Nat.testBit_mod_two_pow, Nat.testBit_div_two_pow, Nat.add_comm i s]
  rfl
theorem gpL_lt (x : Int64) (s w : Nat) : gpL x s w < 2 ^ w := Nat.mod_lt _ (Nat.two_pow_pos w)
theorem gpL_of {x : Int64} {s w m : Nat} (hm : m < 2 ^ w) (h : ∀ i, i < w → lb x (s + i) = m.testBit i) : gpL x s w = m := by
  apply Nat.eq_of_testBit_eq
  intro i
  rw [gpL_tb]
  by_cases hi : i < w
  · simp [hi, h i hi]
  · simp [hi]
    exact (Nat.testBit_lt_two_pow (Nat.lt_of_lt_of_le hm (show 2 ^ w ≤ 2 ^ i from Nat.pow_le_pow_right (by decide) (by omega))))
/-! where each bit of the word comes from -/
def ixS (pr : Pr) (e w : Nat) : Nat := if e = pP pr then 12 + w else 3 * e + w
def bj (pr : Pr) (i : Nat) : Option (Nat × Nat) := if i < 35 then (if i / 7 ≤ pP pr then (if i % 7 < 4 then some (ixS pr (i / 7) 0, i % 7) else if i % 7 = 4 then some (ixS pr (i / 7) 1, 0) else if i / 7 < pP pr then some (3 * (i / 7) + 2, i % 7 - 5) else none) else none) else if i < 39 then some (14, i - 35) else none
def bitF (pr : Pr) (v : Vc) (i : Nat) : Bool := match bj pr i with
  | none => false
  | some q => (v q.1).testBit q.2
/-- the field k of the scene stands at the bits s .. s + w - 1, and nowhere else -/
def FdW (pr : Pr) (k s w : Nat) : Prop := (∀ i, i < w → bj pr (s + i) = some (k, i)) ∧ ∀ i b, bj pr i = some (k, b) → s ≤ i ∧ i < s + w ∧ b = i - s
theorem fd_state {pr : Pr} {e : Nat} (hP : pP pr ≤ 4) (he : e ≤ pP pr) : FdW pr (ixS pr e 0) (7 * e) 4 := by
  constructor
  · intro i hi
    unfold bj
    rw [if_pos (by omega), if_pos (by omega), if_pos (by omega), show (7 * e + i) / 7 = e by omega, show (7 * e + i) % 7 = i by omega]
  · intro i b h
    unfold bj at h
    split at h
    · split at h
      · split at h
        · cases h9 : (some (ixS pr (i / 7) 0, i % 7) : Option (Nat × Nat)) with
          | none => cases h9
          | some q =>
            rw [h9] at h
            have h1 := Option.some.inj (h9.trans h)
            have h2 : ixS pr (i / 7) 0 = ixS pr e 0 := congrArg Prod.fst h1
            have h3 : i % 7 = b := congrArg Prod.snd h1
            unfold ixS at h2
            split at h2 <;> split at h2 <;> omega
        · split at h
          · have h2 : ixS pr (i / 7) 1 = ixS pr e 0 := congrArg Prod.fst (Option.some.inj h)
            unfold ixS at h2
            split at h2 <;> split at h2 <;> omega
          · split at h
            · have h2 : 3 * (i / 7) + 2 = ixS pr e 0 := congrArg Prod.fst (Option.some.inj h)
              unfold ixS at h2
              split at h2 <;> omega
            · cases h
      · cases h
    · split at h
      · have h2 : 14 = ixS pr e 0 := congrArg Prod.fst (Option.some.inj h)
        unfold ixS at h2
        split at h2 <;> omega
      · cases h
theorem fd_fresh {pr : Pr} {e : Nat} (hP : pP pr ≤ 4) (he : e ≤ pP pr) : FdW pr (ixS pr e 1) (7 * e + 4) 1 := by
  constructor
  · intro i hi
    unfold bj
    rw [if_pos (by omega), if_pos (by omega), if_neg (by omega), if_pos (by omega), show (7 * e + 4 + i) / 7 = e by omega, show i = 0 by omega]
  · intro i b h
    unfold bj at h
    split at h
    · split at h
      · split at h
        · have h2 : ixS pr (i / 7) 0 = ixS pr e 1 := congrArg Prod.fst (Option.some.inj h)
          unfold ixS at h2
          split at h2 <;> split at h2 <;> omega
        · split at h
          · have h1 := Option.some.inj h
            have h2 : ixS pr (i / 7) 1 = ixS pr e 1 := congrArg Prod.fst h1
            have h3 : 0 = b := congrArg Prod.snd h1
            unfold ixS at h2
            split at h2 <;> split at h2 <;> omega
          · split at h
            · have h2 : 3 * (i / 7) + 2 = ixS pr e 1 := congrArg Prod.fst (Option.some.inj h)
              unfold ixS at h2
              split at h2 <;> omega
            · cases h
      · cases h
    · split at h
      · have h2 : 14 = ixS pr e 1 := congrArg Prod.fst (Option.some.inj h)
        unfold ixS at h2
        split at h2 <;> omega
      · cases h
theorem fd_want {pr : Pr} {e : Nat} (hP : pP pr ≤ 4) (he : e < pP pr) : FdW pr (3 * e + 2) (7 * e + 5) 2 := by
  constructor
  · intro i hi
    unfold bj
    rw [if_pos (by omega), if_pos (by omega), if_neg (by omega), if_neg (by omega), if_pos (by omega), show (7 * e + 5 + i) / 7 = e by omega, show (7 * e + 5 + i) % 7 - 5 = i by omega]
  · intro i b h
    unfold bj at h
    split at h
    · split at h
      · split at h
        · have h2 : ixS pr (i / 7) 0 = 3 * e + 2 := congrArg Prod.fst (Option.some.inj h)
          unfold ixS at h2
          split at h2 <;> omega
        · split at h
          · have h2 : ixS pr (i / 7) 1 = 3 * e + 2 := congrArg Prod.fst (Option.some.inj h)
            unfold ixS at h2
            split at h2 <;> omega
          · split at h
            · have h1 := Option.some.inj h
              have h2 : 3 * (i / 7) + 2 = 3 * e + 2 := congrArg Prod.fst h1
              have h3 : i % 7 - 5 = b := congrArg Prod.snd h1
              omega
            · cases h
      · cases h
    · split at h
      · have h2 : 14 = 3 * e + 2 := congrArg Prod.fst (Option.some.inj h)
        omega
      · cases h
theorem fd_hold {pr : Pr} (hP : pP pr ≤ 4) : FdW pr 14 35 4 := by
  constructor
  · intro i hi
    unfold bj
    rw [if_neg (by omega), if_pos (by omega), show 35 + i - 35 = i by omega]
  · intro i b h
    unfold bj at h
    split at h
    · split at h
      · split at h
        · have h2 : ixS pr (i / 7) 0 = 14 := congrArg Prod.fst (Option.some.inj h)
          unfold ixS at h2
          split at h2 <;> omega
        · split at h
          · have h2 : ixS pr (i / 7) 1 = 14 := congrArg Prod.fst (Option.some.inj h)
            unfold ixS at h2
            split at h2 <;> omega
          · split at h
            · have h2 : 3 * (i / 7) + 2 = 14 := congrArg Prod.fst (Option.some.inj h)
              omega
            · cases h
      · cases h
    · split at h
      · have h3 : i - 35 = b := congrArg Prod.snd (Option.some.inj h)
        omega
      · cases h
theorem bit_get {pr : Pr} {v : Vc} {k s w i : Nat} (h : FdW pr k s w) (hi : i < w) : bitF pr v (s + i) = (v k).testBit i := by unfold bitF; rw [h.1 i hi]
theorem bit_set {pr : Pr} {v : Vc} {k s w x : Nat} (h : FdW pr k s w) (i : Nat) : bitF pr (vset v k x) i = if s ≤ i ∧ i < s + w then x.testBit (i - s) else bitF pr v i := by
  by_cases hi : s ≤ i ∧ i < s + w
  · rw [if_pos hi]
    have := h.1 (i - s) (by omega)
    rw [show s + (i - s) = i by omega] at this
    unfold bitF
    rw [this]
    show (vset v k x k).testBit (i - s) = _
    rw [vset_s]
  · rw [if_neg hi]
    unfold bitF
    cases hb : bj pr i with
    | none => rfl
    | some q =>
      have hk : q.1 ≠ k := fun e => by
        have := h.2 i q.2 (by rw [hb, ← e])
        omega
      show (vset v k x q.1).testBit q.2 = _
      rw [vset_n _ _ hk]
def lcF (pr : Pr) (v : Vc) (i : Nat) : Nat := if i < v 15 then 16384 + v (17 + 5 * i) * 2048 + v (18 + 5 * i) * 256 + pLo pr (v (16 + 5 * i)) * 128 + v (16 + 5 * i) * 8 + v (19 + 5 * i) * 2 + v (20 + 5 * i) else 0
def ScC (pr : Pr) (σ : Sg) (o : Nat) (v : Vc) : Prop := (∀ i, i < 64 → lb ((σ o).2 0) i = bitF pr v i) ∧ (σ o).1 1 = nI (v 15) ∧ ∀ i, i < 8 → (σ (o + 1)).1 i = nI (lcF pr v i)
theorem ScC.kept {pr : Pr} {σ σ2 : Sg} {o : Nat} {v : Vc} (h : ScC pr σ o v) (e1 : σ2 o = σ o) (e2 : σ2 (o + 1) = σ (o + 1)) : ScC pr σ2 o v := by
  unfold ScC
  rw [e1, e2]
  exact h
def IsSc (o n : Nat) : Prop := sh o = .inl (6, [some none, none, some (some (o + 1))]) ∧ sh (o + 1) = .inr (0, 8) ∧ o + 1 < n
theorem ScC.get {pr : Pr} {σ : Sg} {o : Nat} {v : Vc} {k s w : Nat} (h : ScC pr σ o v) (f : FdW pr k s w) (hs : s + w ≤ 64) (hv : v k < 2 ^ w) : gpL ((σ o).2 0) s w = v k := gpL_of hv (fun i hi => by rw [h.1 _ (by omega)]; exact bit_get f hi)
theorem wL_s (σ : Sg) (a k : Nat) (x : Int64) : (wL σ a k x a).2 k = x := by simp [wL, va_up, vp_updL]
theorem wL_1 (σ : Sg) (a k b : Nat) (x : Int64) : (wL σ a k x b).1 = (σ b).1 := by
  by_cases h : b = a
  · subst h; simp [wL, va_up]
  · simp [wL, va_up, h]
theorem wL_a (σ : Sg) {a b k : Nat} (x : Int64) (h : b ≠ a) : wL σ a k x b = σ b := by simp [wL, va_up, h]
theorem lcF_set {pr : Pr} {v : Vc} {k x : Nat} (hk : k < 15) (i : Nat) : lcF pr (vset v k x) i = lcF pr v i := by
  unfold lcF
  rw [vset_n _ _ (by omega), vset_n _ _ (by omega), vset_n _ _ (by omega), vset_n _ _ (by omega), vset_n _ _ (by omega), vset_n _ _ (by omega)]
theorem ScC.set {pr : Pr} {σ : Sg} {o : Nat} {v : Vc} {k s w x : Nat} {y : Int64} (h : ScC pr σ o v) (f : FdW pr k s w) (hk : k < 15) (hy : ∀ i, i < 64 → lb y i = if s ≤ i ∧ i < s + w then x.testBit (i - s) else lb ((σ o).2 0) i) : ScC pr (wL σ o 0 y) o (vset v k x) := by
  refine ⟨fun i hi => ?_, ?_, fun i hi => ?_⟩
  · rw [wL_s, hy i hi, bit_set f]
    split
    · rfl
    · exact h.1 i hi
  · rw [wL_1, vset_n _ _ (by omega)]; exact h.2.1
  · rw [wL_1, lcF_set hk]; exact h.2.2 i hi
set_option maxRecDepth 100000 in
set_option maxHeartbeats 4000000 in
theorem c_X7_part {n : Nat} {σ : Sg} {o : Nat} (ho : IsSc o n) (s w : Nat) (hs : s + w ≤ 64) (hs2 : s < 64) (hw : w ≤ 15) (mk : Nat) (hmk : mk = 2 ^ w - 1) : Sm n mX7_part [.ref o, .int (nI s), .int (nI mk)] σ (qi fun r σ2 => r = nI (gpL ((σ o).2 0) s w) ∧ σ2 = σ) := by
  refine Sm.of mk_X7_part (Nat.le_of_ble_eq_true rfl) rfl (fun X hX => ?_)
  obtain ⟨ho1, ho2, ho3⟩ := ho
  refine s_aload_n hX dX7_part_0 rfl ?_
  refine s_getL hX dX7_part_1 fl_X7_11 ho1 rfl (by omega) rfl ?_
  refine s_iload_n hX dX7_part_4 rfl ?_
  refine s_lushr hX dX7_part_5 ?_
  refine s_l2i hX dX7_part_6 ?_
  refine s_iload_n hX dX7_part_7 rfl ?_
  refine s_iand hX dX7_part_8 ?_
  refine s_iret hX dX7_part_9 rfl rfl ?_
  refine ⟨?_, rfl⟩
  apply bt_ext
  intro i hi
  rw [bt_and, bt_l2i _ hi, lb_ushr s hs2, bt_nI hi, bt_nI hi, gpL_tb, hmk, Nat.testBit_two_pow_sub_one]
  exact Bool.and_comm _ _
set_option maxRecDepth 100000 in
set_option maxHeartbeats 4000000 in
theorem c_X7_setPart {n : Nat} {σ : Sg} {o : Nat} (ho : IsSc o n) (s w x : Nat) (hs : s + w ≤ 64) (hs2 : s < 64) (hw : w ≤ 15) (mk : Nat) (hmk : mk = 2 ^ w - 1) (hx : x < 2 ^ w) : Sm n mX7_setPart [.ref o, .int (nI s), .int (nI mk), .int (nI x)] σ (qv fun σ2 => ∃ y, σ2 = wL σ o 0 y ∧ ∀ i, i < 64 → lb y i = if s ≤ i ∧ i < s + w then x.testBit (i - s) else lb ((σ o).2 0) i) := by
  refine Sm.of mk_X7_setPart (Nat.le_of_ble_eq_true rfl) rfl (fun X hX => ?_)
  obtain ⟨ho1, ho2, ho3⟩ := ho
  have h15 : 2 ^ w ≤ 2 ^ 15 := Nat.pow_le_pow_right (by decide) hw
  have hxm : x &&& mk = x := by rw [hmk, am]; exact Nat.mod_eq_of_lt hx
  refine s_aload_n hX dX7_setPart_0 rfl ?_
  refine s_aload_n hX dX7_setPart_1 rfl ?_
  refine s_getL hX dX7_setPart_2 fl_X7_11 ho1 rfl (by omega) rfl ?_
  refine s_iload_n hX dX7_setPart_5 rfl ?_
  refine s_i2l hX dX7_setPart_6 ?_
  refine s_iload_n hX dX7_setPart_7 rfl ?_
  refine s_lshl hX dX7_setPart_8 ?_
  refine s_ldc2 (v := (-1)) hX dX7_setPart_9 (tb_at 318 (by decide +kernel) rfl) ?_
  refine s_lxor hX dX7_setPart_12 ?_
  refine s_land hX dX7_setPart_13 ?_
  refine s_iload_n hX dX7_setPart_14 rfl ?_
  refine s_iload_n hX dX7_setPart_15 rfl ?_
  refine s_iand_n hX dX7_setPart_16 ?_
  refine s_i2l hX dX7_setPart_17 ?_
  refine s_iload_n hX dX7_setPart_18 rfl ?_
  refine s_lshl hX dX7_setPart_19 ?_
  refine s_lor hX dX7_setPart_20 ?_
  refine s_putL hX dX7_setPart_21 fl_X7_11 ho1 rfl (by omega) rfl rfl ?_
  refine s_vret hX dX7_setPart_24 rfl rfl ?_
  refine ⟨_, rfl, fun i hi => ?_⟩
  rw [hxm, lb_or, lb_and, lb_xor, lb_m1 i hi, lb_shl s hs2 _ hi, lb_shl s hs2 _ hi, lb_i2l (by omega) (by omega), lb_i2l (by omega) (by omega), hmk, Nat.testBit_two_pow_sub_one]
  by_cases h1 : s ≤ i
  · by_cases h2 : i < s + w
    · rw [if_pos ⟨h1, h2⟩]
      simp [h1, show i - s < w by omega]
    · rw [if_neg (by omega)]
      have : x.testBit (i - s) = false := Nat.testBit_lt_two_pow (Nat.lt_of_lt_of_le hx (Nat.pow_le_pow_right (by decide) (by omega)))
      simp [h1, show ¬ i - s < w by omega, this]
  · rw [if_neg (by omega)]
    simp [h1]
set_option maxRecDepth 100000 in
set_option maxHeartbeats 4000000 in
theorem c_X7_stateOf {n : Nat} {σ : Sg} {o : Nat} {pr : Pr} {v : Vc} (ho : IsSc o n) (h : ScC pr σ o v) (hk : PrOk pr) (hv : VOk pr v) (e : Nat) (he : e ≤ pP pr) : Sm n mX7_stateOf [.ref o, .int (nI e)] σ (qi fun r σ2 => r = nI (v (ixS pr e 0)) ∧ σ2 = σ) := by
  refine Sm.of mk_X7_stateOf (Nat.le_of_ble_eq_true rfl) rfl (fun X hX => ?_)
  have ho0 := ho
  obtain ⟨ho1, ho2, ho3⟩ := ho
  have hP := hk.1
  have hb : v (ixS pr e 0) < 2 ^ 4 := by
    have hvv := hv.2.1
    have hv3 := hv.2.2.1
    unfold ixS
    split
    · exact (by omega)
    · have := hv.1 e (by omega)
      first | exact (show v (3 * e) < _ by omega) | omega
  refine s_aload_n hX dX7_stateOf_0 rfl ?_
  refine s_bipush (v := nI 7) hX dX7_stateOf_1 (by decide) ?_
  refine s_iload_n hX dX7_stateOf_3 rfl ?_
  refine s_imul_n hX dX7_stateOf_4 ?_
  refine s_bipush (v := nI 15) hX dX7_stateOf_5 (by decide) ?_
  refine s_callVi (as := [_, _]) hX dX7_stateOf_7 mk_X7_part lk_X7_39 (c_X7_part ho0 (7 * e) 4 (by omega) (by omega) (by decide) 15 (by decide)) ho1 (by omega) rfl rfl rfl ⟨rfl, rfl⟩ (Nat.le_of_ble_eq_true rfl) (Nat.le_of_ble_eq_true rfl) (Nat.le_of_ble_eq_true rfl) rfl (fun v7 σ7 p7 => ?_)
  obtain ⟨rfl, ep⟩ := p7
  replace ep := ep.symm
  subst ep
  rw [h.get (fd_state hP.2 he) (by omega) hb]
  refine s_iret hX dX7_stateOf_10 rfl rfl ?_
  exact ⟨rfl, rfl⟩
set_option maxRecDepth 100000 in
set_option maxHeartbeats 4000000 in
theorem c_X7_freshOf {n : Nat} {σ : Sg} {o : Nat} {pr : Pr} {v : Vc} (ho : IsSc o n) (h : ScC pr σ o v) (hk : PrOk pr) (hv : VOk pr v) (e : Nat) (he : e ≤ pP pr) : Sm n mX7_freshOf [.ref o, .int (nI e)] σ (qi fun r σ2 => r = nI (v (ixS pr e 1)) ∧ σ2 = σ) := by
  refine Sm.of mk_X7_freshOf (Nat.le_of_ble_eq_true rfl) rfl (fun X hX => ?_)
  have ho0 := ho
  obtain ⟨ho1, ho2, ho3⟩ := ho
  have hP := hk.1
  have hb : v (ixS pr e 1) < 2 ^ 1 := by
    have hvv := hv.2.1
    have hv3 := hv.2.2.1
    unfold ixS
    split
    · exact (by omega)
    · have := hv.1 e (by omega)
      first | exact (show v (3 * e) < _ by omega) | omega
  refine s_aload_n hX dX7_freshOf_0 rfl ?_
  refine s_bipush (v := nI 7) hX dX7_freshOf_1 (by decide) ?_
  refine s_iload_n hX dX7_freshOf_3 rfl ?_
  refine s_imul_n hX dX7_freshOf_4 ?_
  refine s_iconst (v := nI 4) hX dX7_freshOf_5 (by decide) ?_
  refine s_iadd_n hX dX7_freshOf_6 ?_
  refine s_iconst (v := nI 1) hX dX7_freshOf_7 (by decide) ?_
  refine s_callVi (as := [_, _]) hX dX7_freshOf_8 mk_X7_part lk_X7_39 (c_X7_part ho0 (7 * e + 4) 1 (by omega) (by omega) (by decide) 1 (by decide)) ho1 (by omega) rfl rfl rfl ⟨rfl, rfl⟩ (Nat.le_of_ble_eq_true rfl) (Nat.le_of_ble_eq_true rfl) (Nat.le_of_ble_eq_true rfl) rfl (fun v8 σ8 p8 => ?_)
  obtain ⟨rfl, ep⟩ := p8
  replace ep := ep.symm
  subst ep
  rw [h.get (fd_fresh hP.2 he) (by omega) hb]
  refine s_iret hX dX7_freshOf_11 rfl rfl ?_
  exact ⟨rfl, rfl⟩
set_option maxRecDepth 100000 in
set_option maxHeartbeats 4000000 in
theorem c_X7_wantOf {n : Nat} {σ : Sg} {o : Nat} {pr : Pr} {v : Vc} (ho : IsSc o n) (h : ScC pr σ o v) (hk : PrOk pr) (hv : VOk pr v) (e : Nat) (he : e < pP pr) : Sm n mX7_wantOf [.ref o, .int (nI e)] σ (qi fun r σ2 => r = nI (v (3 * e + 2)) ∧ σ2 = σ) := by
  refine Sm.of mk_X7_wantOf (Nat.le_of_ble_eq_true rfl) rfl (fun X hX => ?_)
  have ho0 := ho
  obtain ⟨ho1, ho2, ho3⟩ := ho
  have hP := hk.1
  have hb : v (3 * e + 2) < 2 ^ 2 := by
    have := hv.1 e he
    omega
  refine s_aload_n hX dX7_wantOf_0 rfl ?_
  refine s_bipush (v := nI 7) hX dX7_wantOf_1 (by decide) ?_
  refine s_iload_n hX dX7_wantOf_3 rfl ?_
  refine s_imul_n hX dX7_wantOf_4 ?_
  refine s_iconst (v := nI 5) hX dX7_wantOf_5 (by decide) ?_
  refine s_iadd_n hX dX7_wantOf_6 ?_
  refine s_iconst (v := nI 3) hX dX7_wantOf_7 (by decide) ?_
  refine s_callVi (as := [_, _]) hX dX7_wantOf_8 mk_X7_part lk_X7_39 (c_X7_part ho0 (7 * e + 5) 2 (by omega) (by omega) (by decide) 3 (by decide)) ho1 (by omega) rfl rfl rfl ⟨rfl, rfl⟩ (Nat.le_of_ble_eq_true rfl) (Nat.le_of_ble_eq_true rfl) (Nat.le_of_ble_eq_true rfl) rfl (fun v8 σ8 p8 => ?_)
  obtain ⟨rfl, ep⟩ := p8
  replace ep := ep.symm
  subst ep
  rw [h.get (fd_want hP.2 he) (by omega) hb]
  refine s_iret hX dX7_wantOf_11 rfl rfl ?_
  exact ⟨rfl, rfl⟩
set_option maxRecDepth 100000 in
set_option maxHeartbeats 4000000 in
theorem c_X7_holders {n : Nat} {σ : Sg} {o : Nat} {pr : Pr} {v : Vc} (ho : IsSc o n) (h : ScC pr σ o v) (hk : PrOk pr) (hv : VOk pr v) : Sm n mX7_holders [.ref o] σ (qi fun r σ2 => r = nI (v 14) ∧ σ2 = σ) := by
  refine Sm.of mk_X7_holders (Nat.le_of_ble_eq_true rfl) rfl (fun X hX => ?_)
  have ho0 := ho
  obtain ⟨ho1, ho2, ho3⟩ := ho
  have hP := hk.1
  have hb : v 14 < 2 ^ 4 := by
    exact hv.2.2.2.1
  refine s_aload_n hX dX7_holders_0 rfl ?_
  refine s_bipush (v := nI 35) hX dX7_holders_1 (by decide) ?_
  refine s_bipush (v := nI 15) hX dX7_holders_3 (by decide) ?_
  refine s_callVi (as := [_, _]) hX dX7_holders_5 mk_X7_part lk_X7_39 (c_X7_part ho0 (35) 4 (by omega) (by omega) (by decide) 15 (by decide)) ho1 (by omega) rfl rfl rfl ⟨rfl, rfl⟩ (Nat.le_of_ble_eq_true rfl) (Nat.le_of_ble_eq_true rfl) (Nat.le_of_ble_eq_true rfl) rfl (fun v5 σ5 p5 => ?_)
  obtain ⟨rfl, ep⟩ := p5
  replace ep := ep.symm
  subst ep
  rw [h.get (fd_hold hP.2) (by omega) hb]
  refine s_iret hX dX7_holders_8 rfl rfl ?_
  exact ⟨rfl, rfl⟩
set_option maxRecDepth 100000 in
set_option maxHeartbeats 4000000 in
theorem c_X7_setState {n : Nat} {σ : Sg} {o : Nat} {pr : Pr} {v : Vc} (ho : IsSc o n) (h : ScC pr σ o v) (hP : pP pr ≤ 4) (e : Nat) (he : e ≤ pP pr) (x : Nat) (hx : x < 2 ^ 4) : Sm n mX7_setState [.ref o, .int (nI e), .int (nI x)] σ (qv fun σ2 => ScC pr σ2 o (vset v (ixS pr e 0) x) ∧ Off σ σ2 [o]) := by
  refine Sm.of mk_X7_setState (Nat.le_of_ble_eq_true rfl) rfl (fun X hX => ?_)
  have ho0 := ho
  obtain ⟨ho1, ho2, ho3⟩ := ho
  have hk15 : ixS pr e 0 < 15 := by
    unfold ixS
    split <;> omega
  refine s_aload_n hX dX7_setState_0 rfl ?_
  refine s_bipush (v := nI 7) hX dX7_setState_1 (by decide) ?_
  refine s_iload_n hX dX7_setState_3 rfl ?_
  refine s_imul_n hX dX7_setState_4 ?_
  refine s_bipush (v := nI 15) hX dX7_setState_5 (by decide) ?_
  refine s_iload_n hX dX7_setState_7 rfl ?_
  refine s_callVv (as := [_, _, _]) hX dX7_setState_8 mk_X7_setPart lk_X7_43 (c_X7_setPart ho0 (7 * e) 4 x (by omega) (by omega) (by decide) 15 (by decide) hx) ho1 (by omega) rfl rfl rfl ⟨rfl, rfl⟩ (Nat.le_of_ble_eq_true rfl) (Nat.le_of_ble_eq_true rfl) (Nat.le_of_ble_eq_true rfl) rfl (fun σ8 p8 => ?_)
  obtain ⟨y, rfl, hy⟩ := p8
  refine s_vret hX dX7_setState_11 rfl rfl ?_
  exact ⟨h.set (fd_state hP he) hk15 hy, Off.rf.wL (by simp)⟩
set_option maxRecDepth 100000 in
set_option maxHeartbeats 4000000 in
theorem c_X7_setFresh {n : Nat} {σ : Sg} {o : Nat} {pr : Pr} {v : Vc} (ho : IsSc o n) (h : ScC pr σ o v) (hP : pP pr ≤ 4) (e : Nat) (he : e ≤ pP pr) (x : Nat) (hx : x < 2 ^ 1) : Sm n mX7_setFresh [.ref o, .int (nI e), .int (nI x)] σ (qv fun σ2 => ScC pr σ2 o (vset v (ixS pr e 1) x) ∧ Off σ σ2 [o]) := by
  refine Sm.of mk_X7_setFresh (Nat.le_of_ble_eq_true rfl) rfl (fun X hX => ?_)
  have ho0 := ho
  obtain ⟨ho1, ho2, ho3⟩ := ho
  have hk15 : ixS pr e 1 < 15 := by
    unfold ixS
    split <;> omega
  refine s_aload_n hX dX7_setFresh_0 rfl ?_
  refine s_bipush (v := nI 7) hX dX7_setFresh_1 (by decide) ?_
  refine s_iload_n hX dX7_setFresh_3 rfl ?_
  refine s_imul_n hX dX7_setFresh_4 ?_
  refine s_iconst (v := nI 4) hX dX7_setFresh_5 (by decide) ?_
  refine s_iadd_n hX dX7_setFresh_6 ?_
  refine s_iconst (v := nI 1) hX dX7_setFresh_7 (by decide) ?_
  refine s_iload_n hX dX7_setFresh_8 rfl ?_
  refine s_callVv (as := [_, _, _]) hX dX7_setFresh_9 mk_X7_setPart lk_X7_43 (c_X7_setPart ho0 (7 * e + 4) 1 x (by omega) (by omega) (by decide) 1 (by decide) hx) ho1 (by omega) rfl rfl rfl ⟨rfl, rfl⟩ (Nat.le_of_ble_eq_true rfl) (Nat.le_of_ble_eq_true rfl) (Nat.le_of_ble_eq_true rfl) rfl (fun σ9 p9 => ?_)
  obtain ⟨y, rfl, hy⟩ := p9
  refine s_vret hX dX7_setFresh_12 rfl rfl ?_
  exact ⟨h.set (fd_fresh hP he) hk15 hy, Off.rf.wL (by simp)⟩
set_option maxRecDepth 100000 in
set_option maxHeartbeats 4000000 in
theorem c_X7_setWant {n : Nat} {σ : Sg} {o : Nat} {pr : Pr} {v : Vc} (ho : IsSc o n) (h : ScC pr σ o v) (hP : pP pr ≤ 4) (e : Nat) (he : e < pP pr) (x : Nat) (hx : x < 2 ^ 2) : Sm n mX7_setWant [.ref o, .int (nI e), .int (nI x)] σ (qv fun σ2 => ScC pr σ2 o (vset v (3 * e + 2) x) ∧ Off σ σ2 [o]) := by
  refine Sm.of mk_X7_setWant (Nat.le_of_ble_eq_true rfl) rfl (fun X hX => ?_)
  have ho0 := ho
  obtain ⟨ho1, ho2, ho3⟩ := ho
  have hk15 : 3 * e + 2 < 15 := by
    omega
  refine s_aload_n hX dX7_setWant_0 rfl ?_
  refine s_bipush (v := nI 7) hX dX7_setWant_1 (by decide) ?_
  refine s_iload_n hX dX7_setWant_3 rfl ?_
  refine s_imul_n hX dX7_setWant_4 ?_
  refine s_iconst (v := nI 5) hX dX7_setWant_5 (by decide) ?_
  refine s_iadd_n hX dX7_setWant_6 ?_
  refine s_iconst (v := nI 3) hX dX7_setWant_7 (by decide) ?_
  refine s_iload_n hX dX7_setWant_8 rfl ?_
  refine s_callVv (as := [_, _, _]) hX dX7_setWant_9 mk_X7_setPart lk_X7_43 (c_X7_setPart ho0 (7 * e + 5) 2 x (by omega) (by omega) (by decide) 3 (by decide) hx) ho1 (by omega) rfl rfl rfl ⟨rfl, rfl⟩ (Nat.le_of_ble_eq_true rfl) (Nat.le_of_ble_eq_true rfl) (Nat.le_of_ble_eq_true rfl) rfl (fun σ9 p9 => ?_)
  obtain ⟨y, rfl, hy⟩ := p9
  refine s_vret hX dX7_setWant_12 rfl rfl ?_
  exact ⟨h.set (fd_want hP he) hk15 hy, Off.rf.wL (by simp)⟩
set_option maxRecDepth 100000 in
set_option maxHeartbeats 4000000 in
theorem c_X7_setHolders {n : Nat} {σ : Sg} {o : Nat} {pr : Pr} {v : Vc} (ho : IsSc o n) (h : ScC pr σ o v) (hP : pP pr ≤ 4) (x : Nat) (hx : x < 2 ^ 4) : Sm n mX7_setHolders [.ref o, .int (nI x)] σ (qv fun σ2 => ScC pr σ2 o (vset v (14) x) ∧ Off σ σ2 [o]) := by
  refine Sm.of mk_X7_setHolders (Nat.le_of_ble_eq_true rfl) rfl (fun X hX => ?_)
  have ho0 := ho
  obtain ⟨ho1, ho2, ho3⟩ := ho
  have hk15 : 14 < 15 := by
    decide
  refine s_aload_n hX dX7_setHolders_0 rfl ?_
  refine s_bipush (v := nI 35) hX dX7_setHolders_1 (by decide) ?_
  refine s_bipush (v := nI 15) hX dX7_setHolders_3 (by decide) ?_
  refine s_iload_n hX dX7_setHolders_5 rfl ?_
  refine s_callVv (as := [_, _, _]) hX dX7_setHolders_6 mk_X7_setPart lk_X7_43 (c_X7_setPart ho0 (35) 4 x (by omega) (by omega) (by decide) 15 (by decide) hx) ho1 (by omega) rfl rfl rfl ⟨rfl, rfl⟩ (Nat.le_of_ble_eq_true rfl) (Nat.le_of_ble_eq_true rfl) (Nat.le_of_ble_eq_true rfl) rfl (fun σ6 p6 => ?_)
  obtain ⟨y, rfl, hy⟩ := p6
  refine s_vret hX dX7_setHolders_9 rfl rfl ?_
  exact ⟨h.set (fd_hold hP) hk15 hy, Off.rf.wL (by simp)⟩
set_option maxRecDepth 100000 in
set_option maxHeartbeats 4000000 in
theorem c_X7_letterCount {n : Nat} {σ : Sg} {o : Nat} {pr : Pr} {v : Vc} (ho : IsSc o n) (h : ScC pr σ o v) : Sm n mX7_letterCount [.ref o] σ (qi fun r σ2 => r = nI (v 15) ∧ σ2 = σ) := by
  refine Sm.of mk_X7_letterCount (Nat.le_of_ble_eq_true rfl) rfl (fun X hX => ?_)
  obtain ⟨ho1, ho2, ho3⟩ := ho
  refine s_aload_n hX dX7_letterCount_0 rfl ?_
  refine s_getI (x := nI (v 15)) hX dX7_letterCount_1 fl_X7_15 ho1 rfl (by omega) h.2.1 ?_
  refine s_iret hX dX7_letterCount_4 rfl rfl ?_
  exact ⟨rfl, rfl⟩
set_option maxRecDepth 100000 in
set_option maxHeartbeats 4000000 in
theorem c_X7_letterAt {n : Nat} {σ : Sg} {o : Nat} {pr : Pr} {v : Vc} (ho : IsSc o n) (h : ScC pr σ o v) (i : Nat) (hi : i < 8) : Sm n mX7_letterAt [.ref o, .int (nI i)] σ (qi fun r σ2 => r = nI (lcF pr v i) ∧ σ2 = σ) := by
  refine Sm.of mk_X7_letterAt (Nat.le_of_ble_eq_true rfl) rfl (fun X hX => ?_)
  obtain ⟨ho1, ho2, ho3⟩ := ho
  refine s_aload_n hX dX7_letterAt_0 rfl ?_
  refine s_getR hX dX7_letterAt_1 fl_X7_19 ho1 rfl (by omega) ?_
  refine s_iload_n hX dX7_letterAt_4 rfl ?_
  refine s_iald (x := nI (lcF pr v i)) hX dX7_letterAt_5 ho2 (by omega) (by omega) (by decide) (h.2.2 i hi) ?_
  refine s_iret hX dX7_letterAt_6 rfl rfl ?_
  exact ⟨rfl, rfl⟩
