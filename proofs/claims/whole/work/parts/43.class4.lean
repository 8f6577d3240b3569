/-! ===== letters as numbers; their order ===== -/
theorem tb_dvd {k a b : Nat} (h : b < 2 ^ k) (ha : 2 ^ k ∣ a) : a ||| b = a + b := by
  obtain ⟨c, rfl⟩ := ha
  rw [Nat.mul_comm]
  exact tb_low k b c h
def lcX (pr : Pr) (x : Lt) : Nat := 16384 + x.2.1 * 2048 + x.2.2.1 * 256 + pLo pr x.1 * 128 + x.1 * 8 + x.2.2.2.1 * 2 + x.2.2.2.2
def ltA (v : Vc) (i : Nat) : Lt := (v (16 + 5 * i), v (17 + 5 * i), v (18 + 5 * i), v (19 + 5 * i), v (20 + 5 * i))
theorem lcF_in {pr : Pr} {v : Vc} {i : Nat} (h : i < v 15) : lcF pr v i = lcX pr (ltA v i) := by unfold lcF; rw [if_pos h]; rfl
theorem lcF_out {pr : Pr} {v : Vc} {i : Nat} (h : v 15 ≤ i) : lcF pr v i = 0 := by unfold lcF; rw [if_neg (by omega)]
/-- a letter as it may be -/
def LtOk (pr : Pr) (x : Lt) : Prop := x.1 < 16 ∧ x.2.1 ≤ pP pr ∧ x.2.2.1 ≤ pP pr ∧ x.2.2.2.1 < pP pr ∧ x.2.2.2.2 < 2
theorem lt_at {pr : Pr} {v : Vc} {i : Nat} (hv : VOk pr v) (hi : i < v 15) : LtOk pr (ltA v i) := hv.2.2.2.2.2.1 i hi
theorem lcX_lt {pr : Pr} {x : Lt} (hk : PrOk pr) (hx : LtOk pr x) : lcX pr x < 32768 := by
  obtain ⟨h1, h2, h3, h4, h5⟩ := hx
  have := hk.1.2
  have := hk.2.1 x.1
  unfold lcX
  omega
theorem lcF_lt {pr : Pr} {v : Vc} (hk : PrOk pr) (hv : VOk pr v) (i : Nat) : lcF pr v i < 32768 := by
  by_cases h : i < v 15
  · rw [lcF_in h]; exact lcX_lt hk (lt_at hv h)
  · rw [lcF_out (by omega)]; decide
theorem lcF_pos {pr : Pr} {v : Vc} {i : Nat} (h : i < v 15) : 0 < lcF pr v i := by rw [lcF_in h]; unfold lcX; omega
def lnX (pr : Pr) (x : Lt) : Nat := x.2.1 * 16 + x.2.2.1 * 2 + pLo pr x.1
theorem lcX_ln {pr : Pr} {x : Lt} (hk : PrOk pr) (hx : LtOk pr x) : lcX pr x / 128 = 128 + lnX pr x := by
  obtain ⟨h1, h2, h3, h4, h5⟩ := hx
  have := hk.1.2
  have := hk.2.1 x.1
  unfold lcX lnX
  omega
theorem lcX_lo {pr : Pr} {x : Lt} (hk : PrOk pr) (hx : LtOk pr x) : lcX pr x / 128 % 2 = pLo pr x.1 := by
  rw [lcX_ln hk hx]
  have := hk.2.1 x.1
  unfold lnX
  omega
/-- the letters stand in the order of their lanes -/
def Srt (pr : Pr) (v : Vc) : Prop := (∀ i j, i ≤ j → j < v 15 → lnX pr (ltA v i) ≤ lnX pr (ltA v j)) ∧ v 14 < 2 ^ pP pr
theorem ah_ln {pr : Pr} {v : Vc} {x : Lt} {j : Nat} (hk : PrOk pr) (hx : LtOk pr x) (hj : LtOk pr (ltA v j)) : (ahF pr v x j = true → lnX pr x ≤ lnX pr (ltA v j)) ∧ (ahF pr v x j = false → lnX pr (ltA v j) ≤ lnX pr x) := by
  obtain ⟨h1, h2, h3, h4, h5⟩ := hx
  obtain ⟨g1, g2, g3, g4, g5⟩ := hj
  have := hk.1.2
  have := hk.2.1 x.1
  have := hk.2.1 (v (16 + 5 * j))
  unfold ltA at *
  unfold ahF lnX
  dsimp only at *
  constructor <;> intro q <;> split at q
  · have := of_decide_eq_true q; omega
  · split at q
    · have := of_decide_eq_true q; omega
    · split at q
      · have := of_decide_eq_true q; omega
      · omega
  · have := of_decide_eq_false q; omega
  · split at q
    · have := of_decide_eq_false q; omega
    · split at q
      · have := of_decide_eq_false q; omega
      · omega
theorem posR_sp (a : Nat → Bool) : ∀ k, (∀ j, posR a k ≤ j → j < k → a j = true) ∧ (0 < posR a k → a (posR a k - 1) = false)
  | 0 => ⟨fun j h1 h2 => absurd h2 (Nat.not_lt_zero j), fun h => absurd h (Nat.lt_irrefl 0)⟩
  | k + 1 => by
    have ih := posR_sp a k
    unfold posR
    by_cases h : a k = true
    · rw [if_pos h]
      refine ⟨fun j h1 h2 => ?_, ih.2⟩
      by_cases e : j = k
      · rw [e]; exact h
      · exact ih.1 j h1 (by omega)
    · rw [if_neg h]
      refine ⟨fun j h1 h2 => by omega, fun _ => ?_⟩
      rw [Nat.add_sub_cancel]
      exact Bool.eq_false_iff.mpr h
theorem ltA_ins {v : Vc} {p : Nat} {x : Lt} (i : Nat) : ltA (insL v p x) i = if i < p then ltA v i else if i = p then x else ltA v (i - 1) := by
  unfold ltA insL
  by_cases h : i < p
  · rw [if_pos h, if_neg (by omega), if_neg (by omega), if_pos (by omega), if_neg (by omega), if_neg (by omega), if_pos (by omega), if_neg (by omega), if_neg (by omega), if_pos (by omega), if_neg (by omega), if_neg (by omega), if_pos (by omega), if_neg (by omega), if_neg (by omega), if_pos (by omega)]
  · rw [if_neg h]
    by_cases e : i = p
    · subst e
      rw [if_pos rfl, if_neg (by omega), if_neg (by omega), if_neg (by omega), if_pos (by omega), if_neg (by omega), if_neg (by omega), if_neg (by omega), if_pos (by omega), if_neg (by omega), if_neg (by omega), if_neg (by omega), if_pos (by omega), if_neg (by omega), if_neg (by omega), if_neg (by omega), if_pos (by omega), if_neg (by omega), if_neg (by omega), if_neg (by omega), if_pos (by omega)]
      rw [show 16 + 5 * i - (16 + 5 * i) = 0 by omega, show 17 + 5 * i - (16 + 5 * i) = 1 by omega, show 18 + 5 * i - (16 + 5 * i) = 2 by omega, show 19 + 5 * i - (16 + 5 * i) = 3 by omega, show 20 + 5 * i - (16 + 5 * i) = 4 by omega]
      rfl
    · rw [if_neg e, if_neg (by omega), if_neg (by omega), if_neg (by omega), if_neg (by omega), if_neg (by omega), if_neg (by omega), if_neg (by omega), if_neg (by omega), if_neg (by omega), if_neg (by omega), if_neg (by omega), if_neg (by omega), if_neg (by omega), if_neg (by omega), if_neg (by omega), if_neg (by omega), if_neg (by omega), if_neg (by omega), if_neg (by omega), if_neg (by omega)]
      rw [show 16 + 5 * (i - 1) = 16 + 5 * i - 5 by omega, show 17 + 5 * (i - 1) = 17 + 5 * i - 5 by omega, show 18 + 5 * (i - 1) = 18 + 5 * i - 5 by omega, show 19 + 5 * (i - 1) = 19 + 5 * i - 5 by omega, show 20 + 5 * (i - 1) = 20 + 5 * i - 5 by omega]
theorem ins15 (v : Vc) (p : Nat) (x : Lt) : insL v p x 15 = v 15 + 1 := by simp [insL]
theorem tak15 (v : Vc) (i : Nat) : takeL v i 15 = v 15 - 1 := by simp [takeL]
theorem ltA_tak {v : Vc} {p : Nat} (i : Nat) : ltA (takeL v p) i = if i < p then ltA v i else ltA v (i + 1) := by
  unfold ltA takeL
  by_cases h : i < p
  · rw [if_pos h, if_neg (by omega), if_neg (by omega), if_pos (by omega), if_neg (by omega), if_neg (by omega), if_pos (by omega), if_neg (by omega), if_neg (by omega), if_pos (by omega), if_neg (by omega), if_neg (by omega), if_pos (by omega), if_neg (by omega), if_neg (by omega), if_pos (by omega)]
  · rw [if_neg h, if_neg (by omega), if_neg (by omega), if_neg (by omega), if_neg (by omega), if_neg (by omega), if_neg (by omega), if_neg (by omega), if_neg (by omega), if_neg (by omega), if_neg (by omega), if_neg (by omega), if_neg (by omega), if_neg (by omega), if_neg (by omega), if_neg (by omega)]
    rfl
theorem Srt.send {pr : Pr} {v : Vc} {x : Lt} (h : Srt pr v) (hk : PrOk pr) (hv : VOk pr v) (hx : LtOk pr x) : Srt pr (sendF pr v x).2 := by
  unfold sendF
  split
  · exact h
  have hp := posR_le (ahF pr v x) (v 15)
  obtain ⟨s1, s2⟩ := posR_sp (ahF pr v x) (v 15)
  show Srt pr (insL v (posR (ahF pr v x) (v 15)) x)
  generalize posR (ahF pr v x) (v 15) = p at *
  have lo : ∀ i, i < p → lnX pr (ltA v i) ≤ lnX pr x := fun i hi => Nat.le_trans (h.1 i (p - 1) (by omega) (by omega)) ((ah_ln hk hx (lt_at hv (by omega))).2 (s2 (by omega)))
  have hi : ∀ j, p ≤ j → j < v 15 → lnX pr x ≤ lnX pr (ltA v j) := fun j h1 h2 => (ah_ln hk hx (lt_at hv h2)).1 (s1 j h1 h2)
  refine ⟨fun i j hij hj => ?_, by simp only [insL, show (14 : Nat) < 15 by decide, if_true]; exact h.2⟩
  rw [ins15] at hj
  rw [ltA_ins, ltA_ins]
  by_cases a : i < p
  · rw [if_pos a]
    by_cases b : j < p
    · rw [if_pos b]; exact h.1 i j hij (by omega)
    · rw [if_neg b]
      by_cases c : j = p
      · rw [if_pos c]; exact lo i a
      · rw [if_neg c]; exact h.1 i (j - 1) (by omega) (by omega)
  · rw [if_neg a, if_neg (by omega : ¬ j < p)]
    by_cases c : i = p
    · rw [if_pos c]
      by_cases d : j = p
      · rw [if_pos d]; exact Nat.le_refl _
      · rw [if_neg d]; exact hi (j - 1) (by omega) (by omega)
    · rw [if_neg c, if_neg (by omega)]
      exact h.1 (i - 1) (j - 1) (by omega) (by omega)
theorem Srt.take {pr : Pr} {v : Vc} {p : Nat} (h : Srt pr v) : Srt pr (takeL v p) := by
  refine ⟨fun i j hij hj => ?_, by simp only [takeL, show (14 : Nat) < 15 by decide, if_true]; exact h.2⟩
  rw [tak15] at hj
  rw [ltA_tak, ltA_tak]
  by_cases a : i < p
  · rw [if_pos a]
    by_cases b : j < p
    · rw [if_pos b]; exact h.1 i j hij (by omega)
    · rw [if_neg b]; exact h.1 i (j + 1) (by omega) (by omega)
  · rw [if_neg a, if_neg (by omega)]
    exact h.1 (i + 1) (j + 1) (by omega) (by omega)
theorem Srt.same {pr : Pr} {v w : Vc} (h : Srt pr v) (e14 : w 14 < 2 ^ pP pr) (e15 : w 15 = v 15) (e : ∀ i, w (16 + 5 * i) = v (16 + 5 * i) ∧ w (17 + 5 * i) = v (17 + 5 * i) ∧ w (18 + 5 * i) = v (18 + 5 * i)) : Srt pr w := by
  refine ⟨fun i j hij hj => ?_, e14⟩
  rw [e15] at hj
  have := h.1 i j hij hj
  unfold lnX ltA at *
  dsimp only at *
  rw [(e i).1, (e i).2.1, (e i).2.2, (e j).1, (e j).2.1, (e j).2.2]
  exact this
theorem Srt.set {pr : Pr} {v : Vc} {k x : Nat} (h : Srt pr v) (hk : k < 14) : Srt pr (vset v k x) := h.same (by rw [vset_n _ _ (by omega)]; exact h.2) (vset_n _ _ (by omega)) (fun i => ⟨vset_n _ _ (by omega), vset_n _ _ (by omega), vset_n _ _ (by omega)⟩)
theorem Srt.hold {pr : Pr} {v : Vc} {x : Nat} (h : Srt pr v) (hx : x < 2 ^ pP pr) : Srt pr (vset v 14 x) := h.same (by rw [vset_s]; exact hx) (vset_n _ _ (by omega)) (fun i => ⟨vset_n _ _ (by omega), vset_n _ _ (by omega), vset_n _ _ (by omega)⟩)
theorem Srt.stale {pr : Pr} {v : Vc} {c : Nat} (h : Srt pr v) (hP : pP pr ≤ 4) : Srt pr (staleF pr v c) := h.same (by unfold staleF; rw [if_neg (by omega), if_neg (by omega), if_neg (by omega)]; exact h.2) (by unfold staleF; rw [if_neg (by omega), if_neg (by omega), if_neg (by omega)]) (fun i => by
  unfold staleF
  refine ⟨?_, ?_, ?_⟩ <;> rw [if_neg (by omega), if_neg (by omega), if_neg (by omega)])
theorem Srt_v0 (pr : Pr) : Srt pr v0 := ⟨fun i j _ hj => by
  have : v0 15 = 0 := rfl
  omega, Nat.two_pow_pos _⟩
theorem Srt.mc {pr : Pr} {arg hf : Nat} (hk : PrOk pr) (ha : arg < 16) (hf0 : hf < pP pr) : ∀ (p : Nat), p ≤ pP pr → ∀ v, VOk pr v → Srt pr v → Srt pr (mcF pr arg hf p v).2
  | 0, _, v, hv, h => h
  | p + 1, hp, v, hv, h => by
    have ih := Srt.mc hk ha hf0 p (by omega) v hv h
    have iv := VOk.mc ha hf0 hk.1.2 p (by omega) v hv
    unfold mcF
    split
    · exact ih
    · split
      · exact ih.send hk iv ⟨ha, Nat.le_refl _, by show p ≤ _; omega, hf0, by show 0 < 2; decide⟩
      · exact ih
theorem Srt.ca {pr : Pr} {c hf op arg : Nat} {v : Vc} {hd : Nat} (h : Srt pr v) (hv : VOk pr v) (hk : PrOk pr) (hc : c < pP pr) (hf0 : hf < pP pr) (ha : arg < 16) : Srt pr (caF pr c hf op arg v hd).2.1 := by
  have hc1 := (hv.1 c hc).2.1
  have hP := hk.1.2
  unfold caF
  split
  · exact h.set (by omega)
  split
  · exact h.send hk hv ⟨ha, Nat.le_of_lt hc, Nat.le_refl _, hc, by show 0 < 2; decide⟩
  split
  · exact h.send hk hv ⟨ha, Nat.le_of_lt hc, Nat.le_refl _, hc, hc1⟩
  split
  · exact h.send hk hv ⟨ha, Nat.le_of_lt hc, Nat.le_of_lt hf0, hf0, by show 0 < 2; decide⟩
  split
  · exact h.send hk hv ⟨ha, Nat.le_of_lt hc, Nat.le_of_lt hf0, hf0, hc1⟩
  split
  · exact h.set (by omega)
  split
  · exact h.set (by omega)
  split
  · exact (h.set (by omega)).stale hP
  · exact h
theorem hcl_le (h f : Nat) : hcl h f ≤ h := by
  unfold hcl
  split
  · exact Nat.sub_le _ _
  · exact Nat.le_refl _
theorem Srt.ho {pr : Pr} {hf op arg : Nat} {v : Vc} {hd : Nat} (h : Srt pr v) (hv : VOk pr v) (hk : PrOk pr) (hf0 : hf < pP pr) (ha : arg < 16) : Srt pr (hoF pr hf op arg v hd).2.1 := by
  have h13 := hv.2.2.1
  unfold hoF
  split
  · exact h.set (by omega)
  split
  · exact h.send hk hv ⟨ha, Nat.le_refl _, Nat.le_of_lt hf0, hf0, by show 0 < 2; decide⟩
  split
  · exact h.send hk hv ⟨ha, Nat.le_refl _, Nat.le_of_lt hf0, hf0, h13⟩
  split
  · exact Srt.mc hk ha hf0 _ (Nat.le_refl _) v hv h
  split
  · exact h.hold (Nat.or_lt_two_pow h.2 (by rw [Nat.one_mul]; exact Nat.pow_lt_pow_right (by decide) hf0))
  split
  · exact h.hold (Nat.lt_of_le_of_lt (hcl_le _ _) h.2)
  split
  · exact h.hold (Nat.two_pow_pos _)
  split
  · exact h.set (by omega)
  · exact h
theorem Srt.ac {pr : Pr} {who hf : Nat} {f : Nat → Nat} (hk : PrOk pr) (hf0 : hf < pP pr) : ∀ (k : Nat) (s : Nat × Vc × Nat), VOk pr s.2.1 → s.2.2 < 2 → Srt pr s.2.1 → Srt pr (acR pr who hf f k s).2.1
  | 0, s, hv, h2, h => h
  | k + 1, s, hv, h2, h => by
    have ih := Srt.ac (who := who) (f := f) hk hf0 k s hv h2 h
    have iv := VOk.ac (who := who) (f := f) hk.1.2 hf0 k s hv h2
    unfold acR
    split
    · exact ih
    · unfold actF
      split
      · rename_i hw
        exact ih.ca iv.1 hk hw hf0 (Nat.mod_lt _ (by decide))
      · exact ih.ho iv.1 hk hf0 (Nat.mod_lt _ (by decide))
theorem Srt.up {pr : Pr} {v : Vc} {s : Sp} (h : Srt pr v) (hP : pP pr ≤ 4) (hs : SpOk pr v s) : Srt pr (upF v s).1 := by
  unfold upF
  cases e : s.2.2 with
  | none => exact h.set (by have := (hs.1 e).1; omega)
  | some q => exact h.take
theorem Srt.doF {pr : Pr} {v : Vc} {s : Sp} (h : Srt pr v) (hv : VOk pr v) (hk : PrOk pr) (hs : SpOk pr v s) : Srt pr (doF pr v s).2.2 := by
  obtain ⟨h1, h2, h3⟩ := hv.up hk.1.2 hs
  unfold _root_.Jvm.Pilot.CCohereBenchLaw_law_r9828_5e64c7.doF
  split
  · exact h.up hk.1.2 hs
  · exact Srt.ac hk h3 _ (0, upF v s) h1 h2 (h.up hk.1.2 hs)
def SrtK (pr : Pr) (W : Wk) : Prop := ∀ m, m < kM W → Srt pr (kV W m)
theorem SrtK.try {pr : Pr} {most n i : Nat} {s : Sp} {W : Wk} (h : SrtK pr W) (hw : WkOk pr most (n + 1) W) (hk : PrOk pr) (hn : n < kM W) (hs : SpOk pr (kV W n) s) : SrtK pr (tryK pr most n i s W) := by
  have hd := (h n hn).doF (hw.2.1 n hn) hk hs
  unfold tryK
  split
  · exact h
  · cases hq : numK W (doF pr (kV W n) s).2.2 with
    | some k => exact h
    | none =>
      dsimp only
      split
      · intro m hm
        have hm : m < kM W + 1 := hm
        show Srt pr (va_up (kV W) (kM W) (doF pr (kV W n) s).2.2 m)
        by_cases e : m = kM W
        · rw [e, va_up_at]; exact hd
        · rw [va_up_ne _ _ e]; exact h m (by omega)
      · exact h
theorem visR_srt {pr : Pr} {most n : Nat} {W : Wk} (hk : PrOk pr) (h : WkOk pr most n W) (hr : SrtK pr W) (hn : n < kM W) : ∀ i, SrtK pr (visR pr most n (stepsF pr (kV W n)) i W)
  | 0 => hr
  | i + 1 => by
    have ih := visR_srt hk h hr hn i
    have iw := visR_ok hk h hn i
    have kp := visR_keep pr most n (stepsF pr (kV W n)) W i
    unfold visR
    cases hl : (stepsF pr (kV W n))[i]? with
    | none => exact ih
    | some s => exact ih.try iw hk (by have := kp.1; omega) (by rw [kp.2.1 n hn]; exact stepsF_ok (h.2.1 n hn) (List.mem_of_getElem? hl))
theorem bfs_srt {pr : Pr} {most : Nat} (hk : PrOk pr) (hm : 1 ≤ most) : ∀ n, SrtK pr (bfsR pr most n)
  | 0 => fun m hm2 => by
    have : m = 0 := by have : m < 0 + 1 := hm2; omega
    subst this
    exact Srt_v0 pr
  | n + 1 => by
    have ih := bfs_srt hk hm n
    have iw := (bfs_ok hk hm n).1
    unfold bfsR
    split
    · rename_i hn
      exact visR_srt hk iw ih hn _
    · exact ih
set_option maxRecDepth 100000 in
set_option maxHeartbeats 4000000 in
theorem c_X4_make {n : Nat} {σ : Sg} (k lo fr to wh fs : Nat) (h1 : k < 16) (h2 : lo < 2) (h3 : fr < 8) (h4 : to < 8) (h5 : wh < 4) (h6 : fs < 2) : Sm n mX4_make [.int (nI k), .int (nI lo), .int (nI fr), .int (nI to), .int (nI wh), .int (nI fs)] σ (qi fun r σ2 => r = nI (16384 + fr * 2048 + to * 256 + lo * 128 + k * 8 + wh * 2 + fs) ∧ σ2 = σ) := by
  refine Sm.of mk_X4_make (Nat.le_of_ble_eq_true rfl) rfl (fun X hX => ?_)
  refine s_sipush (v := nI 16384) hX dX4_make_0 (by decide) ?_
  refine s_iload_n hX dX4_make_3 rfl ?_
  refine s_bipush (v := nI 11) hX dX4_make_4 (by decide) ?_
  refine s_ishl_n hX dX4_make_6 (by decide) (by omega) ?_
  refine s_ior_n hX dX4_make_7 ?_
  refine s_iload_n hX dX4_make_8 rfl ?_
  refine s_bipush (v := nI 8) hX dX4_make_9 (by decide) ?_
  refine s_ishl_n hX dX4_make_11 (by decide) (by omega) ?_
  refine s_ior_n hX dX4_make_12 ?_
  refine s_iload_n hX dX4_make_13 rfl ?_
  refine s_bipush (v := nI 7) hX dX4_make_14 (by decide) ?_
  refine s_ishl_n hX dX4_make_16 (by decide) (by omega) ?_
  refine s_ior_n hX dX4_make_17 ?_
  refine s_iload_n hX dX4_make_18 rfl ?_
  refine s_iconst (v := nI 3) hX dX4_make_19 (by decide) ?_
  refine s_ishl_n hX dX4_make_20 (by decide) (by omega) ?_
  refine s_ior_n hX dX4_make_21 ?_
  refine s_iload hX dX4_make_22 rfl ?_
  refine s_iconst (v := nI 1) hX dX4_make_24 (by decide) ?_
  refine s_ishl_n hX dX4_make_25 (by decide) (by omega) ?_
  refine s_ior_n hX dX4_make_26 ?_
  refine s_iload hX dX4_make_27 rfl ?_
  refine s_ior_n hX dX4_make_29 ?_
  refine s_iret hX dX4_make_30 rfl rfl ?_
  refine ⟨?_, rfl⟩
  rw [tb_dvd (k := 14) (a := 16384) (by omega) (by omega), tb_dvd (k := 11) (b := to * 2 ^ 8) (by omega) (by omega), tb_dvd (k := 8) (b := lo * 2 ^ 7) (by omega) (by omega), tb_dvd (k := 7) (b := k * 2 ^ 3) (by omega) (by omega), tb_dvd (k := 3) (b := wh * 2 ^ 1) (by omega) (by omega), tb_dvd (k := 1) (b := fs) (by omega) (by omega)]
theorem bt_m2 : ∀ i, i < 32 → bt (-2) i = decide (0 < i) := by decide
theorem and_m2 {c : Nat} : nI c &&& (-2) = nI (2 * (c / 2)) := by
  apply bt_ext
  intro i hi
  rw [bt_and, bt_nI hi, bt_m2 i hi, bt_nI hi]
  cases i with
  | zero => simp [Nat.testBit_zero]
  | succ i => simp [Nat.testBit_succ]
theorem and_128 {c : Nat} : c &&& 128 = c / 128 % 2 * 128 := by
  rw [show (128 : Nat) = 2 ^ 7 from rfl]
  apply Nat.eq_of_testBit_eq
  intro i
  rw [Nat.testBit_and, Nat.testBit_two_pow, Nat.testBit_eq_decide_div_mod_eq]
  rcases (show c / 2 ^ 7 % 2 = 0 ∨ c / 2 ^ 7 % 2 = 1 by omega) with h | h
  · by_cases e : 7 = i
    · subst e; rw [h]; simp
    · rw [h]; simp [e]
  · by_cases e : 7 = i
    · subst e; rw [h, Nat.one_mul, Nat.testBit_two_pow]; simp
    · rw [h, Nat.one_mul, Nat.testBit_two_pow]; simp [e]
theorem or_127 {c : Nat} : c ||| 127 = c / 128 * 128 + 127 := by
  have h : c = c / 128 * 2 ^ 7 ||| c % 128 := by rw [tb_low 7 _ _ (by omega)]; omega
  have h2 : ∀ r, r < 128 → r ||| 127 = 127 := by decide
  have h3 : c ||| 127 = c / 128 * 2 ^ 7 ||| 127 := by
    have e : c ||| 127 = (c / 128 * 2 ^ 7 ||| c % 128) ||| 127 := by rw [← h]
    rw [e, Nat.or_assoc, h2 _ (by omega)]
  rw [h3, tb_low 7 _ _ (by omega)]
set_option maxRecDepth 100000 in
set_option maxHeartbeats 4000000 in
theorem c_X4_staled {n : Nat} {σ : Sg} (c : Nat) : Sm n mX4_staled [.int (nI c)] σ (qi fun r σ2 => r = nI (2 * (c / 2)) ∧ σ2 = σ) := by
  refine Sm.of mk_X4_staled (Nat.le_of_ble_eq_true rfl) rfl (fun X hX => ?_)
  refine s_iload_n hX dX4_staled_0 rfl ?_
  refine s_bipush (v := -2) hX dX4_staled_1 (by decide) ?_
  refine s_iand hX dX4_staled_3 ?_
  refine s_iret hX dX4_staled_4 rfl rfl ?_
  exact ⟨and_m2, rfl⟩
set_option maxRecDepth 100000 in
set_option maxHeartbeats 4000000 in
theorem c_X4_shareOrder {n : Nat} {σ : Sg} (c d : Nat) (hc : c < 2 ^ 31) (hd : d < 2 ^ 31) : Sm n mX4_shareOrder [.int (nI c), .int (nI d)] σ (qi fun r σ2 => r = nI (if c / 128 = d / 128 ∧ c / 128 % 2 = 0 then 1 else 0) ∧ σ2 = σ) := by
  refine Sm.of mk_X4_shareOrder (Nat.le_of_ble_eq_true rfl) rfl (fun X hX => ?_)
  have ha := and_128 (c := c)
  refine s_iload_n hX dX4_shareOrder_0 rfl ?_
  refine s_bipush (v := nI 7) hX dX4_shareOrder_1 (by decide) ?_
  refine s_ishr_n hX dX4_shareOrder_3 (by decide) (by omega) ?_
  refine s_iload_n hX dX4_shareOrder_4 rfl ?_
  refine s_bipush (v := nI 7) hX dX4_shareOrder_5 (by decide) ?_
  refine s_ishr_n hX dX4_shareOrder_7 (by decide) (by omega) ?_
  refine s_icmp_ne_n (tgt := 23) hX dX4_shareOrder_8 (by decide) (by omega) (by omega) (fun q8 => ?_) (fun q8 => ?_)
  · refine s_iconst (v := nI 0) hX dX4_shareOrder_23 (by decide) ?_
    refine s_zret hX dX4_shareOrder_24 rfl (by first | exact Or.inl rfl | exact Or.inr rfl) rfl ?_
    first
      | exact ⟨by rw [if_pos (by omega)], rfl⟩
      | exact ⟨by rw [if_neg (by omega)], rfl⟩
  · refine s_iload_n hX dX4_shareOrder_11 rfl ?_
    refine s_sipush (v := nI 128) hX dX4_shareOrder_12 (by decide) ?_
    refine s_iand_n hX dX4_shareOrder_15 ?_
    refine s_if_ne_n (tgt := 23) hX dX4_shareOrder_16 (by decide) (by omega) (fun q16 => ?_) (fun q16 => ?_)
    · refine s_iconst (v := nI 0) hX dX4_shareOrder_23 (by decide) ?_
      refine s_zret hX dX4_shareOrder_24 rfl (by first | exact Or.inl rfl | exact Or.inr rfl) rfl ?_
      first
        | exact ⟨by rw [if_pos (by omega)], rfl⟩
        | exact ⟨by rw [if_neg (by omega)], rfl⟩
    · refine s_iconst (v := nI 1) hX dX4_shareOrder_19 (by decide) ?_
      refine s_goto (tgt := 24) hX dX4_shareOrder_20 (by decide) ?_
      refine s_zret hX dX4_shareOrder_24 rfl (by first | exact Or.inl rfl | exact Or.inr rfl) rfl ?_
      first
        | exact ⟨by rw [if_pos (by omega)], rfl⟩
        | exact ⟨by rw [if_neg (by omega)], rfl⟩
set_option maxRecDepth 100000 in
set_option maxHeartbeats 4000000 in
theorem c_X4_lastAhead {n : Nat} {σ : Sg} (c : Nat) (hc : c < 2 ^ 31) : Sm n mX4_lastAhead [.int (nI c)] σ (qi fun r σ2 => r = nI (if c / 128 % 2 = 0 then c / 128 * 128 + 127 else c) ∧ σ2 = σ) := by
  refine Sm.of mk_X4_lastAhead (Nat.le_of_ble_eq_true rfl) rfl (fun X hX => ?_)
  have ha := and_128 (c := c)
  refine s_iload_n hX dX4_lastAhead_0 rfl ?_
  refine s_sipush (v := nI 128) hX dX4_lastAhead_1 (by decide) ?_
  refine s_iand_n hX dX4_lastAhead_4 ?_
  refine s_if_ne_n (tgt := 15) hX dX4_lastAhead_5 (by decide) (by omega) (fun q5 => ?_) (fun q5 => ?_)
  · refine s_iload_n hX dX4_lastAhead_15 rfl ?_
    refine s_iret hX dX4_lastAhead_16 rfl rfl ?_
    first
      | exact ⟨by rw [if_pos (by omega), or_127], rfl⟩
      | exact ⟨by rw [if_neg (by omega)], rfl⟩
  · refine s_iload_n hX dX4_lastAhead_8 rfl ?_
    refine s_bipush (v := nI 127) hX dX4_lastAhead_9 (by decide) ?_
    refine s_ior_n hX dX4_lastAhead_11 ?_
    refine s_goto (tgt := 16) hX dX4_lastAhead_12 (by decide) ?_
    refine s_iret hX dX4_lastAhead_16 rfl rfl ?_
    first
      | exact ⟨by rw [if_pos (by omega), or_127], rfl⟩
      | exact ⟨by rw [if_neg (by omega)], rfl⟩
