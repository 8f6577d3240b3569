/-! ===== the law's loop: both objects hold the same protocol, the same run and the same walk ===== -/
theorem rg_some {lo hi p : Nat} {x : Int32} (hh : hi < 2 ^ 31) (hl : lo ≤ hi) (h : rg lo hi x = some p) : lo ≤ p ∧ p ≤ hi := by
  by_cases c : x < nI lo ∨ nI hi < x
  · rw [rg_no c] at h; cases h
  · obtain ⟨q, h1, h2, _, h4⟩ := rg_of hh hl (fun z => c (Or.inl z)) (fun z => c (Or.inr z))
    rw [h] at h4
    cases h4
    exact ⟨h1, h2⟩
theorem Fr.lo {σ σ2 : Sg} {S K : List Nat} (f : Fr 53 σ σ2 S K) (hS : S.all (fun a => decide (53 ≤ a)) = true) : ∀ a, a < 53 → σ2 a = σ a := fun a ha => f.1 a (fun q => by
  have := List.all_eq_true.mp hS a q
  have := of_decide_eq_true this
  omega) (by omega)
theorem WkE.fr {σ σ2 : Sg} {pr : Pr} {W : Wk} {S K : List Nat} (h : WkE σ pr W) (f : Fr 53 σ σ2 S K) (hk : 25 ∉ K ∧ 26 ∉ K ∧ 27 ∉ K ∧ 31 ∉ K ∧ 32 ∉ K) (hs : 58 ∉ S ∧ 66 ∉ S ∧ 67 ∉ S ∧ 68 ∉ S ∧ 69 ∉ S ∧ 70 ∉ S ∧ 71 ∉ S ∧ 72 ∉ S ∧ 74 ∉ S ∧ 75 ∉ S ∧ 76 ∉ S) (h73 : 73 ∉ S) : WkE σ2 pr W := by
  refine ⟨h.1.fr f hk hs, ?_⟩
  obtain ⟨L, hL⟩ := h.2
  exact ⟨L, fun n hn => by rw [f.1 73 h73 (by decide)]; exact hL n hn⟩
theorem ClS.lo {σ σ2 : Sg} {pr : Pr} {v : Vc} {ch : Bool} (h : ClS σ pr v ch) (e : ∀ a, a < 53 → σ2 a = σ a) : ClS σ2 pr v ch := ⟨h.1.kept (fun a _ h2 => e a (by omega)), h.2.1.kept (e 10 (by decide)) (e 11 (by decide)), by rw [e 0 (by decide)]; exact h.2.2⟩
theorem AtE.lo {σ σ2 : Sg} {pr : Pr} {W : Wk} (h : AtE pr σ W) (e : ∀ a, a < 53 → σ2 a = σ a) : AtE pr σ2 W := h.kept (e 20 (by decide)) (fun a _ h2 => e a (by omega))
def Iv (σ : Sg) (pr : Pr) (v : Vc) (ch : Bool) (prw : Pr) (W : Wk) : Prop := (PrOk pr ∧ VOk pr v ∧ Srt pr v ∧ WkQ prw W ∧ (ch = false → prw = pr)) ∧ (ClS σ pr v ch ∧ AtE prw σ W) ∧ MdS σ pr v ch ∧ WkE σ prw W
theorem Iv.mid {σ σ2 : Sg} {pr : Pr} {v : Vc} {ch : Bool} {prw : Pr} {W : Wk} (I : Iv σ pr v ch prw W) (f : Off σ σ2 clL) : AtE prw σ2 W ∧ MdS σ2 pr v ch ∧ WkE σ2 prw W := by
  have f2 : Fr 53 σ σ2 clL [] := Fr.of f (by decide)
  exact ⟨I.2.1.2.kept (f 20 (by decide)) (fun a h1 h2 => f a (by simp; omega)), I.2.2.1.fr f2 (by decide) (by decide), I.2.2.2.fr f2 (by decide) (by decide) (by decide)⟩
theorem Iv.fin {σ σ2 : Sg} {pr : Pr} {v : Vc} {ch : Bool} {prw : Pr} {W : Wk} (hc : ClS σ pr v ch) (ha : AtE prw σ W) (hw : WkE σ prw W) (hm : MdS σ2 pr v ch) (f : FrS σ σ2) (h : PrOk pr ∧ VOk pr v ∧ Srt pr v ∧ WkQ prw W ∧ (ch = false → prw = pr)) : Iv σ2 pr v ch prw W := by
  have e := f.lo (by decide)
  exact ⟨h, ⟨hc.lo e, ha.lo e⟩, hm, hw.fr f (by decide) (by decide) (by decide)⟩
theorem ch_ok {pr : Pr} {v : Vc} {x : Int32} (hk : PrOk pr) (hv : VOk pr v) (hr : Srt pr v) : VOk pr (chF pr v x).2 ∧ Srt pr (chF pr v x).2 := by
  unfold chF
  split
  · exact ⟨hv, hr⟩
  · split
    · exact ⟨hv, hr⟩
    · rename_i s hs
      have ok := stepsF_ok hv (List.mem_of_getElem? hs)
      dsimp only
      split
      · exact ⟨hv.doF hk.1.2 ok, hr.doF hv hk ok⟩
      · exact ⟨hv, hr⟩
theorem new_ok {pr pr2 : Pr} {prw : Pr} {W : Wk} (h : PrOk pr2) (hq : WkQ prw W) : PrOk pr2 ∧ VOk pr2 v0 ∧ Srt pr2 v0 ∧ WkQ prw W ∧ (true = false → prw = pr2) := ⟨h, VOk_v0 h.1.2, Srt_v0 pr2, hq, fun q => by cases q⟩
section LT
variable {X : LX} {i pc : Nat} {st : List Value} {σ : Sg}
theorem l_in {dflt lo hi : Int} {offs : Array Int} {len : Nat} {x : Int32} {off : Int} {tgt : Nat} (C : Lc X) (d : decode code pc = .ok (.tableswitch dflt lo hi offs, len)) (h1 : ¬ x.toInt < lo) (h2 : ¬ hi < x.toInt) (ho : offs[(x.toInt - lo).toNat]? = some off) (ht : (pc : Int) + off = (tgt : Int)) (k : Ls X i tgt st σ) : Ls X i pc (.int x :: st) σ := by
  obtain ⟨p, l, e, s, m, below, meth, c, scr, n0, xs, dC, dI, dA⟩ := X
  obtain ⟨⟨hx, hb, hr, hml, hown, hts, hX, hbl, hlocks, hgv⟩, hK, hn0⟩ := C
  intro h hs H locs ls hl hP hS hz
  exact lv_tableIn hx hb d h1 h2 ho ht (k h hs H locs ls hl hP hS hz)
theorem l_out {dflt lo hi : Int} {offs : Array Int} {len : Nat} {x : Int32} {tgt : Nat} (C : Lc X) (d : decode code pc = .ok (.tableswitch dflt lo hi offs, len)) (h0 : x.toInt < lo ∨ hi < x.toInt) (ht : (pc : Int) + dflt = (tgt : Int)) (k : Ls X i tgt st σ) : Ls X i pc (.int x :: st) σ := by
  obtain ⟨p, l, e, s, m, below, meth, c, scr, n0, xs, dC, dI, dA⟩ := X
  obtain ⟨⟨hx, hb, hr, hml, hown, hts, hX, hbl, hlocks, hgv⟩, hK, hn0⟩ := C
  intro h hs H locs ls hl hP hS hz
  exact lv_tableOut hx hb d h0 ht (k h hs H locs ls hl hP hS hz)
theorem len_gt {n i : Nat} (hn : n ≤ 2048) (hi : i ≤ 2052) (h : ¬ nI n - nI 4 < nI i) : i + 4 ≤ n := by
  by_cases c : 4 ≤ n
  · rw [pk_sub c, nx_lt (by omega) (by omega)] at h
    omega
  · exfalso
    apply h
    have h0 : (0 : Int32) ≤ nI i := Int32.not_lt.mp (nI_pos (by omega))
    have h1 : nI n - nI 4 < 0 := by
      rcases (show n = 0 ∨ n = 1 ∨ n = 2 ∨ n = 3 by omega) with rfl | rfl | rfl | rfl <;> decide
    exact Int32.lt_of_lt_of_le h1 h0
/-- the loop's head -/
theorem l_head (C : Lc X) (hi : i ≤ 2052) (k : i + 4 ≤ lxN X → Ls X i 32 [.int (lxS X i &&& nI 31)] σ) : Ls X i 18 [] σ := by
  obtain ⟨p, l, e, s, m, below, meth, c, scr, n0, xs, dC, dI, dA⟩ := X
  obtain ⟨⟨hx, hb, hr, hml, hown, hts, hX, hbl, hlocks, hgv⟩, hK, hn0⟩ := C
  intro h hs H locs ls hl hP hS hz
  refine lv_iload_n hx hb dL_law_18 rfl (lv_at hl 0 rfl) ?_
  refine lv_aload_n hx hb dL_law_19 rfl (lv_at hl 3 rfl) ?_
  refine va_slen hx hb hX hbl (Nat.not_le.mpr hbl) hS dL_law_20 ?_
  refine lv_iconst (v := nI 4) hx hb dL_law_21 (by decide) ?_
  refine lv_isub hx hb dL_law_22 ?_
  refine lv_icmp_gt (tgt := 718) hx hb dL_law_23 (by decide) (fun _ => ?_) (fun q => ?_)
  · refine lv_iconst (v := 1) hx hb dL_law_718 (by decide) ?_
    refine va_forget (fun q hq => hS.2.2 q hq) ?_
    refine W.widen (k := 600000) (n := 7302250) (by omega) (by omega) ?_
    exact lw_ret hx hb hr hlocks dL_law_719
  · have h4 : i + 4 ≤ n0 := len_gt hn0 hi q
    refine lv_aload_n hx hb dL_law_26 rfl (lv_at hl 3 rfl) ?_
    refine lv_iload_n hx hb dL_law_27 rfl (lv_at hl 0 rfl) ?_
    refine va_sld hx hb hX hbl (Nat.not_le.mpr hbl) hS (vp_in_nI (show i < n0 by omega) (by omega)) dL_law_28 ?_
    rw [nI_clamp (by omega)]
    refine lv_bipush (v := nI 31) hx hb dL_law_29 (by decide) ?_
    refine lv_iand hx hb dL_law_31 ?_
    exact k h4 h hs H locs ls hl hP hS hz
theorem l_next (C : Lc X) (k : Ls X (i + 4) 18 [] σ) : Ls X i 712 [] σ := by
  obtain ⟨p, l, e, s, m, below, meth, c, scr, n0, xs, dC, dI, dA⟩ := X
  obtain ⟨⟨hx, hb, hr, hml, hown, hts, hX, hbl, hlocks, hgv⟩, hK, hn0⟩ := C
  intro h hs H locs ls hl hP hS hz
  refine lv_iinc (v := nI (i + 4)) (lv' := [(3, .int (nI (i + 4))), (2, .ref (s.heap.size + 53)), (1, .ref (s.heap.size + 0)), (0, .ref scr)]) hx hb dL_law_712 hl (k := 0) rfl (nI_add i 4) (by decide) rfl (fun ls hl => ?_)
  refine lv_goto (tgt := 18) hx hb dL_law_715 (by decide) ?_
  exact k h hs H locs ls hl hP hS hz
end LT
set_option maxRecDepth 100000 in
set_option maxHeartbeats 4000000 in
theorem o_processors {X : LX} {i : Nat} {σ : Sg} {pr : Pr} {v : Vc} {ch : Bool} {prw : Pr} {W : Wk} (C : Lc X) (hi : i + 4 ≤ lxN X) (I : Iv σ pr v ch prw W) (NX : ∀ σ2 pr2 v2 ch2 prw2 W2, Iv σ2 pr2 v2 ch2 prw2 W2 → Ls X i 712 [] σ2) : Ls X i 136 [] σ := by
  obtain ⟨⟨hk, hv, hr, hq, hc⟩, ⟨hC, hA⟩, hM, hW⟩ := id I
  refine l_x C dL_law_136 ?_
  refine l_arg (a := 1) C dL_law_137 dL_law_138 dL_law_139 dL_law_140 dL_law_141 (by decide) (by omega) ?_
  refine l_call (as := [_]) C dL_law_142 mk_X10_processors lk_L_13 (c_X10_processors (by decide) hC hk _) rfl (by decide) rfl rfl rfl ⟨rfl, rfl⟩ (Nat.le_of_ble_eq_true rfl) (Nat.le_of_ble_eq_true rfl) (Nat.le_of_ble_eq_true rfl) (fun r1 σ1 q1 => ?_)
  obtain ⟨q1, f1⟩ := q1
  obtain ⟨a1, m1, w1⟩ := I.mid f1
  refine l_m C dL_law_145 ?_
  refine l_arg (a := 1) C dL_law_146 dL_law_147 dL_law_148 dL_law_149 dL_law_150 (by decide) (by omega) ?_
  refine l_call (as := [_]) C dL_law_151 mk_X11_processors lk_L_17 (c_X11_processors m1 _) rfl (by decide) rfl rfl rfl ⟨rfl, rfl⟩ (Nat.le_of_ble_eq_true rfl) (Nat.le_of_ble_eq_true rfl) (Nat.le_of_ble_eq_true rfl) (fun r2 σ2 q2 => ?_)
  obtain ⟨q2, f2⟩ := q2
  cases hg : rg 1 4 (lxS X (i + 1)) with
  | none =>
    rw [hg] at q1 q2
    exact l_eq (tgt := 712) C dL_law_154 (by decide) (q1.1.trans q2.1.symm) (NX _ _ _ _ _ _ (Iv.fin q1.2 a1 w1 q2.2 f2 I.1))
  | some p =>
    rw [hg] at q1 q2
    have hp := rg_some (by decide) (by decide) hg
    exact l_eq (tgt := 712) C dL_law_154 (by decide) (q1.1.trans q2.1.symm) (NX _ _ _ _ _ _ (Iv.fin q1.2 a1 w1 q2.2 f2 (new_ok (pr := pr) ⟨hp, hk.2⟩ hq)))
set_option maxRecDepth 100000 in
set_option maxHeartbeats 4000000 in
theorem o_net {X : LX} {i : Nat} {σ : Sg} {pr : Pr} {v : Vc} {ch : Bool} {prw : Pr} {W : Wk} (C : Lc X) (hi : i + 4 ≤ lxN X) (I : Iv σ pr v ch prw W) (NX : ∀ σ2 pr2 v2 ch2 prw2 W2, Iv σ2 pr2 v2 ch2 prw2 W2 → Ls X i 712 [] σ2) : Ls X i 159 [] σ := by
  obtain ⟨⟨hk, hv, hr, hq, hc⟩, ⟨hC, hA⟩, hM, hW⟩ := id I
  refine l_x C dL_law_159 ?_
  refine l_arg (a := 1) C dL_law_160 dL_law_161 dL_law_162 dL_law_163 dL_law_164 (by decide) (by omega) ?_
  refine l_arg (a := 2) C dL_law_165 dL_law_166 dL_law_167 dL_law_168 dL_law_169 (by decide) (by omega) ?_
  refine l_call (as := [_, _]) C dL_law_170 mk_X10_net lk_L_18 (c_X10_net (by decide) hC hk _ _) rfl (by decide) rfl rfl rfl ⟨rfl, rfl⟩ (Nat.le_of_ble_eq_true rfl) (Nat.le_of_ble_eq_true rfl) (Nat.le_of_ble_eq_true rfl) (fun r1 σ1 q1 => ?_)
  obtain ⟨q1, f1⟩ := q1
  obtain ⟨a1, m1, w1⟩ := I.mid f1
  refine l_m C dL_law_173 ?_
  refine l_arg (a := 1) C dL_law_174 dL_law_175 dL_law_176 dL_law_177 dL_law_178 (by decide) (by omega) ?_
  refine l_arg (a := 2) C dL_law_179 dL_law_180 dL_law_181 dL_law_182 dL_law_183 (by decide) (by omega) ?_
  refine l_call (as := [_, _]) C dL_law_184 mk_X11_net lk_L_22 (c_X11_net m1 _ _) rfl (by decide) rfl rfl rfl ⟨rfl, rfl⟩ (Nat.le_of_ble_eq_true rfl) (Nat.le_of_ble_eq_true rfl) (Nat.le_of_ble_eq_true rfl) (fun r2 σ2 q2 => ?_)
  obtain ⟨q2, f2⟩ := q2
  cases hg1 : rg 0 15 (lxS X (i + 1)) with
  | none =>
    rw [hg1] at q1 q2
    exact l_eq (tgt := 712) C dL_law_187 (by decide) (q1.1.trans q2.1.symm) (NX _ _ _ _ _ _ (Iv.fin q1.2 a1 w1 q2.2 f2 I.1))
  | some p =>
    rw [hg1] at q1 q2
    cases hg2 : rg 0 1 (lxS X (i + 2)) with
    | none =>
      rw [hg2] at q1 q2
      exact l_eq (tgt := 712) C dL_law_187 (by decide) (q1.1.trans q2.1.symm) (NX _ _ _ _ _ _ (Iv.fin q1.2 a1 w1 q2.2 f2 I.1))
    | some q =>
      rw [hg2] at q1 q2
      have h2 := rg_some (by decide) (by decide) hg2
      exact l_eq (tgt := 712) C dL_law_187 (by decide) (q1.1.trans q2.1.symm) (NX _ _ _ _ _ _ (Iv.fin q1.2 a1 w1 q2.2 f2 (new_ok (pr := pr) ⟨hk.1, fun k => (by show vset (pLo pr) p q k ≤ 1; unfold vset; split; exact h2.2; exact hk.2.1 k), hk.2.2⟩ hq)))
set_option maxRecDepth 100000 in
set_option maxHeartbeats 4000000 in
theorem o_right {X : LX} {i : Nat} {σ : Sg} {pr : Pr} {v : Vc} {ch : Bool} {prw : Pr} {W : Wk} (C : Lc X) (hi : i + 4 ≤ lxN X) (I : Iv σ pr v ch prw W) (NX : ∀ σ2 pr2 v2 ch2 prw2 W2, Iv σ2 pr2 v2 ch2 prw2 W2 → Ls X i 712 [] σ2) : Ls X i 192 [] σ := by
  obtain ⟨⟨hk, hv, hr, hq, hc⟩, ⟨hC, hA⟩, hM, hW⟩ := id I
  refine l_x C dL_law_192 ?_
  refine l_arg (a := 1) C dL_law_193 dL_law_194 dL_law_195 dL_law_196 dL_law_197 (by decide) (by omega) ?_
  refine l_arg (a := 2) C dL_law_198 dL_law_199 dL_law_200 dL_law_201 dL_law_202 (by decide) (by omega) ?_
  refine l_call (as := [_, _]) C dL_law_203 mk_X10_right lk_L_23 (c_X10_right (by decide) hC hk _ _) rfl (by decide) rfl rfl rfl ⟨rfl, rfl⟩ (Nat.le_of_ble_eq_true rfl) (Nat.le_of_ble_eq_true rfl) (Nat.le_of_ble_eq_true rfl) (fun r1 σ1 q1 => ?_)
  obtain ⟨q1, f1⟩ := q1
  obtain ⟨a1, m1, w1⟩ := I.mid f1
  refine l_m C dL_law_206 ?_
  refine l_arg (a := 1) C dL_law_207 dL_law_208 dL_law_209 dL_law_210 dL_law_211 (by decide) (by omega) ?_
  refine l_arg (a := 2) C dL_law_212 dL_law_213 dL_law_214 dL_law_215 dL_law_216 (by decide) (by omega) ?_
  refine l_call (as := [_, _]) C dL_law_217 mk_X11_right lk_L_26 (c_X11_right m1 _ _) rfl (by decide) rfl rfl rfl ⟨rfl, rfl⟩ (Nat.le_of_ble_eq_true rfl) (Nat.le_of_ble_eq_true rfl) (Nat.le_of_ble_eq_true rfl) (fun r2 σ2 q2 => ?_)
  obtain ⟨q2, f2⟩ := q2
  cases hg1 : rg 0 15 (lxS X (i + 1)) with
  | none =>
    rw [hg1] at q1 q2
    exact l_eq (tgt := 712) C dL_law_220 (by decide) (q1.1.trans q2.1.symm) (NX _ _ _ _ _ _ (Iv.fin q1.2 a1 w1 q2.2 f2 I.1))
  | some p =>
    rw [hg1] at q1 q2
    cases hg2 : rg 0 2 (lxS X (i + 2)) with
    | none =>
      rw [hg2] at q1 q2
      exact l_eq (tgt := 712) C dL_law_220 (by decide) (q1.1.trans q2.1.symm) (NX _ _ _ _ _ _ (Iv.fin q1.2 a1 w1 q2.2 f2 I.1))
    | some q =>
      rw [hg2] at q1 q2
      have h2 := rg_some (by decide) (by decide) hg2
      exact l_eq (tgt := 712) C dL_law_220 (by decide) (q1.1.trans q2.1.symm) (NX _ _ _ _ _ _ (Iv.fin q1.2 a1 w1 q2.2 f2 (new_ok (pr := pr) ⟨hk.1, hk.2.1, fun k => (by show vset (pRi pr) p q k ≤ 2; unfold vset; split; exact h2.2; exact hk.2.2.1 k), hk.2.2.2⟩ hq)))
set_option maxRecDepth 100000 in
set_option maxHeartbeats 4000000 in
theorem o_row {X : LX} {i : Nat} {σ : Sg} {pr : Pr} {v : Vc} {ch : Bool} {prw : Pr} {W : Wk} (C : Lc X) (hi : i + 4 ≤ lxN X) (I : Iv σ pr v ch prw W) (NX : ∀ σ2 pr2 v2 ch2 prw2 W2, Iv σ2 pr2 v2 ch2 prw2 W2 → Ls X i 712 [] σ2) : Ls X i 225 [] σ := by
  obtain ⟨⟨hk, hv, hr, hq, hc⟩, ⟨hC, hA⟩, hM, hW⟩ := id I
  refine l_x C dL_law_225 ?_
  refine l_arg (a := 1) C dL_law_226 dL_law_227 dL_law_228 dL_law_229 dL_law_230 (by decide) (by omega) ?_
  refine l_arg (a := 2) C dL_law_231 dL_law_232 dL_law_233 dL_law_234 dL_law_235 (by decide) (by omega) ?_
  refine l_arg (a := 3) C dL_law_236 dL_law_237 dL_law_238 dL_law_239 dL_law_240 (by decide) (by omega) ?_
  refine l_call (as := [_, _, _]) C dL_law_241 mk_X10_row lk_L_27 (c_X10_row (by decide) hC hk _ _ _) rfl (by decide) rfl rfl rfl ⟨rfl, rfl⟩ (Nat.le_of_ble_eq_true rfl) (Nat.le_of_ble_eq_true rfl) (Nat.le_of_ble_eq_true rfl) (fun r1 σ1 q1 => ?_)
  obtain ⟨q1, f1⟩ := q1
  obtain ⟨a1, m1, w1⟩ := I.mid f1
  refine l_m C dL_law_244 ?_
  refine l_arg (a := 1) C dL_law_245 dL_law_246 dL_law_247 dL_law_248 dL_law_249 (by decide) (by omega) ?_
  refine l_arg (a := 2) C dL_law_250 dL_law_251 dL_law_252 dL_law_253 dL_law_254 (by decide) (by omega) ?_
  refine l_arg (a := 3) C dL_law_255 dL_law_256 dL_law_257 dL_law_258 dL_law_259 (by decide) (by omega) ?_
  refine l_call (as := [_, _, _]) C dL_law_260 mk_X11_row lk_L_31 (c_X11_row m1 hk _ _ _) rfl (by decide) rfl rfl rfl ⟨rfl, rfl⟩ (Nat.le_of_ble_eq_true rfl) (Nat.le_of_ble_eq_true rfl) (Nat.le_of_ble_eq_true rfl) (fun r2 σ2 q2 => ?_)
  obtain ⟨q2, f2⟩ := q2
  cases hg : plF (lxS X (i + 1)) with
  | none =>
    rw [hg] at q1 q2
    exact l_eq (tgt := 712) C dL_law_263 (by decide) (q1.1.trans q2.1.symm) (NX _ _ _ _ _ _ (Iv.fin q1.2 a1 w1 q2.2 f2 I.1))
  | some a =>
    rw [hg] at q1 q2
    dsimp only at q1 q2
    by_cases h8 : 8 < (lxS X (i + 1)).toNatClampNeg % 16
    · rw [if_pos h8] at q1 q2
      exact l_eq (tgt := 712) C dL_law_263 (by decide) (q1.1.trans q2.1.symm) (NX _ _ _ _ _ _ (Iv.fin q1.2 a1 w1 q2.2 f2 I.1))
    · rw [if_neg h8] at q1 q2
      exact l_eq (tgt := 712) C dL_law_263 (by decide) (q1.1.trans q2.1.symm) (NX _ _ _ _ _ _ (Iv.fin q1.2 a1 w1 q2.2 f2 (new_ok (pr := pr) (hk.row (by omega)) hq)))
set_option maxRecDepth 100000 in
set_option maxHeartbeats 4000000 in
theorem o_tear {X : LX} {i : Nat} {σ : Sg} {pr : Pr} {v : Vc} {ch : Bool} {prw : Pr} {W : Wk} (C : Lc X) (hi : i + 4 ≤ lxN X) (I : Iv σ pr v ch prw W) (NX : ∀ σ2 pr2 v2 ch2 prw2 W2, Iv σ2 pr2 v2 ch2 prw2 W2 → Ls X i 712 [] σ2) : Ls X i 268 [] σ := by
  obtain ⟨⟨hk, hv, hr, hq, hc⟩, ⟨hC, hA⟩, hM, hW⟩ := id I
  refine l_x C dL_law_268 ?_
  refine l_arg (a := 1) C dL_law_269 dL_law_270 dL_law_271 dL_law_272 dL_law_273 (by decide) (by omega) ?_
  refine l_call (as := [_]) C dL_law_274 mk_X10_tear lk_L_32 (c_X10_tear (by decide) hC hk _) rfl (by decide) rfl rfl rfl ⟨rfl, rfl⟩ (Nat.le_of_ble_eq_true rfl) (Nat.le_of_ble_eq_true rfl) (Nat.le_of_ble_eq_true rfl) (fun r1 σ1 q1 => ?_)
  obtain ⟨q1, f1⟩ := q1
  obtain ⟨a1, m1, w1⟩ := I.mid f1
  refine l_m C dL_law_277 ?_
  refine l_arg (a := 1) C dL_law_278 dL_law_279 dL_law_280 dL_law_281 dL_law_282 (by decide) (by omega) ?_
  refine l_call (as := [_]) C dL_law_283 mk_X11_tear lk_L_35 (c_X11_tear m1 hk _) rfl (by decide) rfl rfl rfl ⟨rfl, rfl⟩ (Nat.le_of_ble_eq_true rfl) (Nat.le_of_ble_eq_true rfl) (Nat.le_of_ble_eq_true rfl) (fun r2 σ2 q2 => ?_)
  obtain ⟨q2, f2⟩ := q2
  cases hg : plF (lxS X (i + 1)) with
  | none =>
    rw [hg] at q1 q2
    exact l_eq (tgt := 712) C dL_law_286 (by decide) (q1.1.trans q2.1.symm) (NX _ _ _ _ _ _ (Iv.fin q1.2 a1 w1 q2.2 f2 I.1))
  | some a =>
    rw [hg] at q1 q2
    exact l_eq (tgt := 712) C dL_law_286 (by decide) (q1.1.trans q2.1.symm) (NX _ _ _ _ _ _ (Iv.fin q1.2 a1 w1 q2.2 f2 (new_ok (pr := pr) hk.tear hq)))
set_option maxRecDepth 100000 in
set_option maxHeartbeats 4000000 in
theorem o_rows {X : LX} {i : Nat} {σ : Sg} {pr : Pr} {v : Vc} {ch : Bool} {prw : Pr} {W : Wk} (C : Lc X) (hi : i + 4 ≤ lxN X) (I : Iv σ pr v ch prw W) (NX : ∀ σ2 pr2 v2 ch2 prw2 W2, Iv σ2 pr2 v2 ch2 prw2 W2 → Ls X i 712 [] σ2) : Ls X i 291 [] σ := by
  obtain ⟨⟨hk, hv, hr, hq, hc⟩, ⟨hC, hA⟩, hM, hW⟩ := id I
  refine l_x C dL_law_291 ?_
  refine l_arg (a := 1) C dL_law_292 dL_law_293 dL_law_294 dL_law_295 dL_law_296 (by decide) (by omega) ?_
  refine l_call (as := [_]) C dL_law_297 mk_X10_rows lk_L_36 (c_X10_rows (by decide) hC hk _) rfl (by decide) rfl rfl rfl ⟨rfl, rfl⟩ (Nat.le_of_ble_eq_true rfl) (Nat.le_of_ble_eq_true rfl) (Nat.le_of_ble_eq_true rfl) (fun r1 σ1 q1 => ?_)
  obtain ⟨e1, ep⟩ := q1
  replace ep := ep.symm
  subst ep
  refine l_m C dL_law_300 ?_
  refine l_arg (a := 1) C dL_law_301 dL_law_302 dL_law_303 dL_law_304 dL_law_305 (by decide) (by omega) ?_
  refine l_call (as := [_]) C dL_law_306 mk_X11_rows lk_L_39 (c_X11_rows hM.1 hk _) rfl (by decide) rfl rfl rfl ⟨rfl, rfl⟩ (Nat.le_of_ble_eq_true rfl) (Nat.le_of_ble_eq_true rfl) (Nat.le_of_ble_eq_true rfl) (fun r2 σ2 q2 => ?_)
  obtain ⟨e2, ep⟩ := q2
  replace ep := ep.symm
  subst ep
  exact l_eq (tgt := 712) C dL_law_309 (by decide) (e1.trans e2.symm) (NX _ _ _ _ _ _ I)
set_option maxRecDepth 100000 in
set_option maxHeartbeats 4000000 in
theorem o_reset {X : LX} {i : Nat} {σ : Sg} {pr : Pr} {v : Vc} {ch : Bool} {prw : Pr} {W : Wk} (C : Lc X) (hi : i + 4 ≤ lxN X) (I : Iv σ pr v ch prw W) (NX : ∀ σ2 pr2 v2 ch2 prw2 W2, Iv σ2 pr2 v2 ch2 prw2 W2 → Ls X i 712 [] σ2) : Ls X i 314 [] σ := by
  obtain ⟨⟨hk, hv, hr, hq, hc⟩, ⟨hC, hA⟩, hM, hW⟩ := id I
  refine l_x C dL_law_314 ?_
  refine l_call (as := []) C dL_law_315 mk_X10_reset lk_L_40 (c_X10_reset (by decide) hC hk) rfl (by decide) rfl rfl rfl ⟨rfl, rfl⟩ (Nat.le_of_ble_eq_true rfl) (Nat.le_of_ble_eq_true rfl) (Nat.le_of_ble_eq_true rfl) (fun r1 σ1 q1 => ?_)
  obtain ⟨e1, c1, f1⟩ := q1
  obtain ⟨a1, m1, w1⟩ := I.mid f1
  refine l_m C dL_law_318 ?_
  refine l_call (as := []) C dL_law_319 mk_X11_reset lk_L_44 (c_X11_reset m1 hk) rfl (by decide) rfl rfl rfl ⟨rfl, rfl⟩ (Nat.le_of_ble_eq_true rfl) (Nat.le_of_ble_eq_true rfl) (Nat.le_of_ble_eq_true rfl) (fun r2 σ2 q2 => ?_)
  obtain ⟨e2, m2, f2⟩ := q2
  exact l_eq (tgt := 712) C dL_law_322 (by decide) (e1.trans e2.symm) (NX _ _ _ _ _ _ (Iv.fin c1 a1 w1 m2 f2 ⟨hk, VOk_v0 hk.1.2, Srt_v0 pr, hq, hc⟩))
set_option maxRecDepth 100000 in
set_option maxHeartbeats 4000000 in
theorem o_steps {X : LX} {i : Nat} {σ : Sg} {pr : Pr} {v : Vc} {ch : Bool} {prw : Pr} {W : Wk} (C : Lc X) (hi : i + 4 ≤ lxN X) (I : Iv σ pr v ch prw W) (NX : ∀ σ2 pr2 v2 ch2 prw2 W2, Iv σ2 pr2 v2 ch2 prw2 W2 → Ls X i 712 [] σ2) : Ls X i 327 [] σ := by
  obtain ⟨⟨hk, hv, hr, hq, hc⟩, ⟨hC, hA⟩, hM, hW⟩ := id I
  refine l_x C dL_law_327 ?_
  refine l_call (as := []) C dL_law_328 mk_X10_steps lk_L_45 (c_X10_steps (by decide) hC hk hv hr) rfl (by decide) rfl rfl rfl ⟨rfl, rfl⟩ (Nat.le_of_ble_eq_true rfl) (Nat.le_of_ble_eq_true rfl) (Nat.le_of_ble_eq_true rfl) (fun r1 σ1 q1 => ?_)
  obtain ⟨e1, c1, f1⟩ := q1
  obtain ⟨a1, m1, w1⟩ := I.mid f1
  refine l_m C dL_law_331 ?_
  refine l_call (as := []) C dL_law_332 mk_X11_steps lk_L_48 (c_X11_steps m1 hk hv) rfl (by decide) rfl rfl rfl ⟨rfl, rfl⟩ (Nat.le_of_ble_eq_true rfl) (Nat.le_of_ble_eq_true rfl) (Nat.le_of_ble_eq_true rfl) (fun r2 σ2 q2 => ?_)
  obtain ⟨e2, m2, f2⟩ := q2
  exact l_eq (tgt := 712) C dL_law_335 (by decide) (e1.trans e2.symm) (NX _ _ _ _ _ _ (Iv.fin c1 a1 w1 m2 f2 I.1))
set_option maxRecDepth 100000 in
set_option maxHeartbeats 4000000 in
theorem o_step {X : LX} {i : Nat} {σ : Sg} {pr : Pr} {v : Vc} {ch : Bool} {prw : Pr} {W : Wk} (C : Lc X) (hi : i + 4 ≤ lxN X) (I : Iv σ pr v ch prw W) (NX : ∀ σ2 pr2 v2 ch2 prw2 W2, Iv σ2 pr2 v2 ch2 prw2 W2 → Ls X i 712 [] σ2) : Ls X i 340 [] σ := by
  obtain ⟨⟨hk, hv, hr, hq, hc⟩, ⟨hC, hA⟩, hM, hW⟩ := id I
  refine l_x C dL_law_340 ?_
  refine l_arg (a := 1) C dL_law_341 dL_law_342 dL_law_343 dL_law_344 dL_law_345 (by decide) (by omega) ?_
  refine l_arg (a := 2) C dL_law_346 dL_law_347 dL_law_348 dL_law_349 dL_law_350 (by decide) (by omega) ?_
  refine l_call (as := [_, _]) C dL_law_351 mk_X10_step lk_L_49 (c_X10_step (by decide) hC hk hv hr _ _) rfl (by decide) rfl rfl rfl ⟨rfl, rfl⟩ (Nat.le_of_ble_eq_true rfl) (Nat.le_of_ble_eq_true rfl) (Nat.le_of_ble_eq_true rfl) (fun r1 σ1 q1 => ?_)
  obtain ⟨e1, c1, f1⟩ := q1
  obtain ⟨a1, m1, w1⟩ := I.mid f1
  refine l_m C dL_law_354 ?_
  refine l_arg (a := 1) C dL_law_355 dL_law_356 dL_law_357 dL_law_358 dL_law_359 (by decide) (by omega) ?_
  refine l_arg (a := 2) C dL_law_360 dL_law_361 dL_law_362 dL_law_363 dL_law_364 (by decide) (by omega) ?_
  refine l_call (as := [_, _]) C dL_law_365 mk_X11_step lk_L_52 (c_X11_step m1 hk hv _ _) rfl (by decide) rfl rfl rfl ⟨rfl, rfl⟩ (Nat.le_of_ble_eq_true rfl) (Nat.le_of_ble_eq_true rfl) (Nat.le_of_ble_eq_true rfl) (fun r2 σ2 q2 => ?_)
  obtain ⟨e2, m2, f2⟩ := q2
  exact l_eq (tgt := 712) C dL_law_368 (by decide) (e1.trans e2.symm) (NX _ _ _ _ _ _ (Iv.fin c1 a1 w1 m2 f2 I.1))
set_option maxRecDepth 100000 in
set_option maxHeartbeats 4000000 in
theorem o_choose {X : LX} {i : Nat} {σ : Sg} {pr : Pr} {v : Vc} {ch : Bool} {prw : Pr} {W : Wk} (C : Lc X) (hi : i + 4 ≤ lxN X) (I : Iv σ pr v ch prw W) (NX : ∀ σ2 pr2 v2 ch2 prw2 W2, Iv σ2 pr2 v2 ch2 prw2 W2 → Ls X i 712 [] σ2) : Ls X i 373 [] σ := by
  obtain ⟨⟨hk, hv, hr, hq, hc⟩, ⟨hC, hA⟩, hM, hW⟩ := id I
  refine l_x C dL_law_373 ?_
  refine l_arg (a := 1) C dL_law_374 dL_law_375 dL_law_376 dL_law_377 dL_law_378 (by decide) (by omega) ?_
  refine l_call (as := [_]) C dL_law_379 mk_X10_choose lk_L_53 (c_X10_choose (by decide) hC hk hv hr _) rfl (by decide) rfl rfl rfl ⟨rfl, rfl⟩ (Nat.le_of_ble_eq_true rfl) (Nat.le_of_ble_eq_true rfl) (Nat.le_of_ble_eq_true rfl) (fun r1 σ1 q1 => ?_)
  obtain ⟨e1, c1, f1⟩ := q1
  obtain ⟨a1, m1, w1⟩ := I.mid f1
  refine l_m C dL_law_382 ?_
  refine l_arg (a := 1) C dL_law_383 dL_law_384 dL_law_385 dL_law_386 dL_law_387 (by decide) (by omega) ?_
  refine l_call (as := [_]) C dL_law_388 mk_X11_choose lk_L_56 (c_X11_choose m1 hk hv _) rfl (by decide) rfl rfl rfl ⟨rfl, rfl⟩ (Nat.le_of_ble_eq_true rfl) (Nat.le_of_ble_eq_true rfl) (Nat.le_of_ble_eq_true rfl) (fun r2 σ2 q2 => ?_)
  obtain ⟨e2, m2, f2⟩ := q2
  exact l_eq (tgt := 712) C dL_law_391 (by decide) (e1.trans e2.symm) (NX _ _ _ _ _ _ (Iv.fin c1 a1 w1 m2 f2 ⟨hk, (ch_ok hk hv hr).1, (ch_ok hk hv hr).2, hq, hc⟩))
set_option maxRecDepth 100000 in
set_option maxHeartbeats 4000000 in
theorem o_end {X : LX} {i : Nat} {σ : Sg} {pr : Pr} {v : Vc} {ch : Bool} {prw : Pr} {W : Wk} (C : Lc X) (hi : i + 4 ≤ lxN X) (I : Iv σ pr v ch prw W) (NX : ∀ σ2 pr2 v2 ch2 prw2 W2, Iv σ2 pr2 v2 ch2 prw2 W2 → Ls X i 712 [] σ2) : Ls X i 396 [] σ := by
  obtain ⟨⟨hk, hv, hr, hq, hc⟩, ⟨hC, hA⟩, hM, hW⟩ := id I
  refine l_x C dL_law_396 ?_
  refine l_arg (a := 1) C dL_law_397 dL_law_398 dL_law_399 dL_law_400 dL_law_401 (by decide) (by omega) ?_
  refine l_arg (a := 2) C dL_law_402 dL_law_403 dL_law_404 dL_law_405 dL_law_406 (by decide) (by omega) ?_
  refine l_call (as := [_, _]) C dL_law_407 mk_X10_end lk_L_57 (c_X10_end (by decide) hC hk hv _ _) rfl (by decide) rfl rfl rfl ⟨rfl, rfl⟩ (Nat.le_of_ble_eq_true rfl) (Nat.le_of_ble_eq_true rfl) (Nat.le_of_ble_eq_true rfl) (fun r1 σ1 q1 => ?_)
  obtain ⟨e1, ep⟩ := q1
  replace ep := ep.symm
  subst ep
  refine l_m C dL_law_410 ?_
  refine l_arg (a := 1) C dL_law_411 dL_law_412 dL_law_413 dL_law_414 dL_law_415 (by decide) (by omega) ?_
  refine l_arg (a := 2) C dL_law_416 dL_law_417 dL_law_418 dL_law_419 dL_law_420 (by decide) (by omega) ?_
  refine l_call (as := [_, _]) C dL_law_421 mk_X11_end lk_L_60 (c_X11_end hM hk hv _ _) rfl (by decide) rfl rfl rfl ⟨rfl, rfl⟩ (Nat.le_of_ble_eq_true rfl) (Nat.le_of_ble_eq_true rfl) (Nat.le_of_ble_eq_true rfl) (fun r2 σ2 q2 => ?_)
  obtain ⟨e2, ep⟩ := q2
  replace ep := ep.symm
  subst ep
  exact l_eq (tgt := 712) C dL_law_424 (by decide) (e1.trans e2.symm) (NX _ _ _ _ _ _ I)
set_option maxRecDepth 100000 in
set_option maxHeartbeats 4000000 in
theorem o_letter {X : LX} {i : Nat} {σ : Sg} {pr : Pr} {v : Vc} {ch : Bool} {prw : Pr} {W : Wk} (C : Lc X) (hi : i + 4 ≤ lxN X) (I : Iv σ pr v ch prw W) (NX : ∀ σ2 pr2 v2 ch2 prw2 W2, Iv σ2 pr2 v2 ch2 prw2 W2 → Ls X i 712 [] σ2) : Ls X i 429 [] σ := by
  obtain ⟨⟨hk, hv, hr, hq, hc⟩, ⟨hC, hA⟩, hM, hW⟩ := id I
  refine l_x C dL_law_429 ?_
  refine l_arg (a := 1) C dL_law_430 dL_law_431 dL_law_432 dL_law_433 dL_law_434 (by decide) (by omega) ?_
  refine l_arg (a := 2) C dL_law_435 dL_law_436 dL_law_437 dL_law_438 dL_law_439 (by decide) (by omega) ?_
  refine l_call (as := [_, _]) C dL_law_440 mk_X10_letter lk_L_61 (c_X10_letter (by decide) hC hk hv _ _) rfl (by decide) rfl rfl rfl ⟨rfl, rfl⟩ (Nat.le_of_ble_eq_true rfl) (Nat.le_of_ble_eq_true rfl) (Nat.le_of_ble_eq_true rfl) (fun r1 σ1 q1 => ?_)
  obtain ⟨e1, ep⟩ := q1
  replace ep := ep.symm
  subst ep
  refine l_m C dL_law_443 ?_
  refine l_arg (a := 1) C dL_law_444 dL_law_445 dL_law_446 dL_law_447 dL_law_448 (by decide) (by omega) ?_
  refine l_arg (a := 2) C dL_law_449 dL_law_450 dL_law_451 dL_law_452 dL_law_453 (by decide) (by omega) ?_
  refine l_call (as := [_, _]) C dL_law_454 mk_X11_letter lk_L_64 (c_X11_letter hM hk hv _ _) rfl (by decide) rfl rfl rfl ⟨rfl, rfl⟩ (Nat.le_of_ble_eq_true rfl) (Nat.le_of_ble_eq_true rfl) (Nat.le_of_ble_eq_true rfl) (fun r2 σ2 q2 => ?_)
  obtain ⟨e2, ep⟩ := q2
  replace ep := ep.symm
  subst ep
  exact l_eq (tgt := 712) C dL_law_457 (by decide) (e1.trans e2.symm) (NX _ _ _ _ _ _ I)
set_option maxRecDepth 100000 in
set_option maxHeartbeats 4000000 in
theorem o_now {X : LX} {i : Nat} {σ : Sg} {pr : Pr} {v : Vc} {ch : Bool} {prw : Pr} {W : Wk} (C : Lc X) (hi : i + 4 ≤ lxN X) (I : Iv σ pr v ch prw W) (NX : ∀ σ2 pr2 v2 ch2 prw2 W2, Iv σ2 pr2 v2 ch2 prw2 W2 → Ls X i 712 [] σ2) : Ls X i 462 [] σ := by
  obtain ⟨⟨hk, hv, hr, hq, hc⟩, ⟨hC, hA⟩, hM, hW⟩ := id I
  refine l_x C dL_law_462 ?_
  refine l_arg (a := 1) C dL_law_463 dL_law_464 dL_law_465 dL_law_466 dL_law_467 (by decide) (by omega) ?_
  refine l_call (as := [_]) C dL_law_468 mk_X10_now lk_L_65 (c_X10_now (by decide) hC hk hv hr _) rfl (by decide) rfl rfl rfl ⟨rfl, rfl⟩ (Nat.le_of_ble_eq_true rfl) (Nat.le_of_ble_eq_true rfl) (Nat.le_of_ble_eq_true rfl) (fun r1 σ1 q1 => ?_)
  obtain ⟨e1, c1, f1⟩ := q1
  obtain ⟨a1, m1, w1⟩ := I.mid f1
  refine l_m C dL_law_471 ?_
  refine l_arg (a := 1) C dL_law_472 dL_law_473 dL_law_474 dL_law_475 dL_law_476 (by decide) (by omega) ?_
  refine l_call (as := [_]) C dL_law_477 mk_X11_now lk_L_68 (c_X11_now m1 hk hv _) rfl (by decide) rfl rfl rfl ⟨rfl, rfl⟩ (Nat.le_of_ble_eq_true rfl) (Nat.le_of_ble_eq_true rfl) (Nat.le_of_ble_eq_true rfl) (fun r2 σ2 q2 => ?_)
  obtain ⟨e2, m2, f2⟩ := q2
  exact l_eq (tgt := 712) C dL_law_480 (by decide) (e1.trans e2.symm) (NX _ _ _ _ _ _ (Iv.fin c1 a1 w1 m2 f2 I.1))
set_option maxRecDepth 100000 in
set_option maxHeartbeats 4000000 in
theorem o_walk {X : LX} {i : Nat} {σ : Sg} {pr : Pr} {v : Vc} {ch : Bool} {prw : Pr} {W : Wk} (C : Lc X) (hi : i + 4 ≤ lxN X) (I : Iv σ pr v ch prw W) (NX : ∀ σ2 pr2 v2 ch2 prw2 W2, Iv σ2 pr2 v2 ch2 prw2 W2 → Ls X i 712 [] σ2) : Ls X i 485 [] σ := by
  obtain ⟨⟨hk, hv, hr, hq, hc⟩, ⟨hC, hA⟩, hM, hW⟩ := id I
  refine l_x C dL_law_485 ?_
  refine l_arg (a := 1) C dL_law_486 dL_law_487 dL_law_488 dL_law_489 dL_law_490 (by decide) (by omega) ?_
  refine l_call (as := [_]) C dL_law_491 mk_X10_walk lk_L_69 (c_X10_walk (by decide) hC hk hv _) rfl (by decide) rfl rfl rfl ⟨rfl, rfl⟩ (Nat.le_of_ble_eq_true rfl) (Nat.le_of_ble_eq_true rfl) (Nat.le_of_ble_eq_true rfl) (fun r1 σ1 q1 => ?_)
  obtain ⟨q1, f1⟩ := q1
  have g1 : Fr 53 σ σ1 (0 :: atL) [] := Fr.of f1 (by decide)
  have m1 : MdS σ1 pr v ch := hM.fr g1 (by decide) (by decide)
  refine l_m C dL_law_494 ?_
  refine l_arg (a := 1) C dL_law_495 dL_law_496 dL_law_497 dL_law_498 dL_law_499 (by decide) (by omega) ?_
  refine l_call (as := [_]) C dL_law_500 mk_X11_walk lk_L_72 (c_X11_walk m1.1 hk _) rfl (by decide) rfl rfl rfl ⟨rfl, rfl⟩ (Nat.le_of_ble_eq_true rfl) (Nat.le_of_ble_eq_true rfl) (Nat.le_of_ble_eq_true rfl) (fun r2 σ2 q2 => ?_)
  obtain ⟨q2, f2⟩ := q2
  have e := f2.lo (by decide)
  cases hg : rg 1 4000 (lxS X (i + 1)) with
  | none =>
    rw [hg] at q1 q2
    obtain ⟨e1, ep⟩ := q1
    obtain ⟨e2, ep2⟩ := q2
    rw [ep2, ep]
    exact l_eq (tgt := 712) C dL_law_503 (by decide) (e1.trans e2.symm) (NX _ _ _ _ _ _ I)
  | some most =>
    rw [hg] at q1 q2
    have hp := rg_some (by decide) (by decide) hg
    exact l_eq (tgt := 712) C dL_law_503 (by decide) (q1.1.trans q2.1.symm) (NX _ _ _ _ _ _ ⟨⟨hk, hv, hr, ⟨hk, Or.inr ⟨most, hp.1, hp.2, rfl⟩⟩, fun _ => rfl⟩, ⟨q1.2.2.lo e, q1.2.1.lo e⟩, ⟨m1.1.fr f2 (by decide) (by decide) (by decide) (by decide) (by decide), m1.2.1.fr f2 (by decide) (by decide), q2.2.2⟩, q2.2.1⟩)
set_option maxRecDepth 100000 in
set_option maxHeartbeats 4000000 in
theorem o_walked {X : LX} {i : Nat} {σ : Sg} {pr : Pr} {v : Vc} {ch : Bool} {prw : Pr} {W : Wk} (C : Lc X) (hi : i + 4 ≤ lxN X) (I : Iv σ pr v ch prw W) (NX : ∀ σ2 pr2 v2 ch2 prw2 W2, Iv σ2 pr2 v2 ch2 prw2 W2 → Ls X i 712 [] σ2) : Ls X i 508 [] σ := by
  obtain ⟨⟨hk, hv, hr, hq, hc⟩, ⟨hC, hA⟩, hM, hW⟩ := id I
  refine l_x C dL_law_508 ?_
  refine l_arg (a := 1) C dL_law_509 dL_law_510 dL_law_511 dL_law_512 dL_law_513 (by decide) (by omega) ?_
  refine l_call (as := [_]) C dL_law_514 mk_X10_walked lk_L_73 (c_X10_walked (by decide) hA hq _) rfl (by decide) rfl rfl rfl ⟨rfl, rfl⟩ (Nat.le_of_ble_eq_true rfl) (Nat.le_of_ble_eq_true rfl) (Nat.le_of_ble_eq_true rfl) (fun r1 σ1 q1 => ?_)
  obtain ⟨e1, ep⟩ := q1
  replace ep := ep.symm
  subst ep
  refine l_m C dL_law_517 ?_
  refine l_arg (a := 1) C dL_law_518 dL_law_519 dL_law_520 dL_law_521 dL_law_522 (by decide) (by omega) ?_
  refine l_call (as := [_]) C dL_law_523 mk_X11_walked lk_L_76 (c_X11_walked hW hq _) rfl (by decide) rfl rfl rfl ⟨rfl, rfl⟩ (Nat.le_of_ble_eq_true rfl) (Nat.le_of_ble_eq_true rfl) (Nat.le_of_ble_eq_true rfl) (fun r2 σ2 q2 => ?_)
  obtain ⟨e2, ep⟩ := q2
  replace ep := ep.symm
  subst ep
  exact l_eq (tgt := 712) C dL_law_526 (by decide) (e1.trans e2.symm) (NX _ _ _ _ _ _ I)
set_option maxRecDepth 100000 in
set_option maxHeartbeats 4000000 in
theorem o_bad {X : LX} {i : Nat} {σ : Sg} {pr : Pr} {v : Vc} {ch : Bool} {prw : Pr} {W : Wk} (C : Lc X) (hi : i + 4 ≤ lxN X) (I : Iv σ pr v ch prw W) (NX : ∀ σ2 pr2 v2 ch2 prw2 W2, Iv σ2 pr2 v2 ch2 prw2 W2 → Ls X i 712 [] σ2) : Ls X i 531 [] σ := by
  obtain ⟨⟨hk, hv, hr, hq, hc⟩, ⟨hC, hA⟩, hM, hW⟩ := id I
  refine l_x C dL_law_531 ?_
  refine l_arg (a := 1) C dL_law_532 dL_law_533 dL_law_534 dL_law_535 dL_law_536 (by decide) (by omega) ?_
  refine l_arg (a := 2) C dL_law_537 dL_law_538 dL_law_539 dL_law_540 dL_law_541 (by decide) (by omega) ?_
  refine l_call (as := [_, _]) C dL_law_542 mk_X10_bad lk_L_77 (c_X10_bad (by decide) hA hq _ _) rfl (by decide) rfl rfl rfl ⟨rfl, rfl⟩ (Nat.le_of_ble_eq_true rfl) (Nat.le_of_ble_eq_true rfl) (Nat.le_of_ble_eq_true rfl) (fun r1 σ1 q1 => ?_)
  obtain ⟨e1, ep⟩ := q1
  replace ep := ep.symm
  subst ep
  refine l_m C dL_law_545 ?_
  refine l_arg (a := 1) C dL_law_546 dL_law_547 dL_law_548 dL_law_549 dL_law_550 (by decide) (by omega) ?_
  refine l_arg (a := 2) C dL_law_551 dL_law_552 dL_law_553 dL_law_554 dL_law_555 (by decide) (by omega) ?_
  refine l_call (as := [_, _]) C dL_law_556 mk_X11_bad lk_L_80 (c_X11_bad hW hq _ _) rfl (by decide) rfl rfl rfl ⟨rfl, rfl⟩ (Nat.le_of_ble_eq_true rfl) (Nat.le_of_ble_eq_true rfl) (Nat.le_of_ble_eq_true rfl) (fun r2 σ2 q2 => ?_)
  obtain ⟨e2, ep⟩ := q2
  replace ep := ep.symm
  subst ep
  exact l_eq (tgt := 712) C dL_law_559 (by decide) (e1.trans e2.symm) (NX _ _ _ _ _ _ I)
set_option maxRecDepth 100000 in
set_option maxHeartbeats 4000000 in
theorem o_found {X : LX} {i : Nat} {σ : Sg} {pr : Pr} {v : Vc} {ch : Bool} {prw : Pr} {W : Wk} (C : Lc X) (hi : i + 4 ≤ lxN X) (I : Iv σ pr v ch prw W) (NX : ∀ σ2 pr2 v2 ch2 prw2 W2, Iv σ2 pr2 v2 ch2 prw2 W2 → Ls X i 712 [] σ2) : Ls X i 564 [] σ := by
  obtain ⟨⟨hk, hv, hr, hq, hc⟩, ⟨hC, hA⟩, hM, hW⟩ := id I
  refine l_x C dL_law_564 ?_
  refine l_arg (a := 1) C dL_law_565 dL_law_566 dL_law_567 dL_law_568 dL_law_569 (by decide) (by omega) ?_
  refine l_arg (a := 2) C dL_law_570 dL_law_571 dL_law_572 dL_law_573 dL_law_574 (by decide) (by omega) ?_
  refine l_call (as := [_, _]) C dL_law_575 mk_X10_found lk_L_81 (c_X10_found (by decide) hA hq _ _) rfl (by decide) rfl rfl rfl ⟨rfl, rfl⟩ (Nat.le_of_ble_eq_true rfl) (Nat.le_of_ble_eq_true rfl) (Nat.le_of_ble_eq_true rfl) (fun r1 σ1 q1 => ?_)
  obtain ⟨e1, ep⟩ := q1
  replace ep := ep.symm
  subst ep
  refine l_m C dL_law_578 ?_
  refine l_arg (a := 1) C dL_law_579 dL_law_580 dL_law_581 dL_law_582 dL_law_583 (by decide) (by omega) ?_
  refine l_arg (a := 2) C dL_law_584 dL_law_585 dL_law_586 dL_law_587 dL_law_588 (by decide) (by omega) ?_
  refine l_call (as := [_, _]) C dL_law_589 mk_X11_found lk_L_84 (c_X11_found hW hq _ _) rfl (by decide) rfl rfl rfl ⟨rfl, rfl⟩ (Nat.le_of_ble_eq_true rfl) (Nat.le_of_ble_eq_true rfl) (Nat.le_of_ble_eq_true rfl) (fun r2 σ2 q2 => ?_)
  obtain ⟨e2, ep⟩ := q2
  replace ep := ep.symm
  subst ep
  exact l_eq (tgt := 712) C dL_law_592 (by decide) (e1.trans e2.symm) (NX _ _ _ _ _ _ I)
set_option maxRecDepth 100000 in
set_option maxHeartbeats 4000000 in
theorem o_far {X : LX} {i : Nat} {σ : Sg} {pr : Pr} {v : Vc} {ch : Bool} {prw : Pr} {W : Wk} (C : Lc X) (hi : i + 4 ≤ lxN X) (I : Iv σ pr v ch prw W) (NX : ∀ σ2 pr2 v2 ch2 prw2 W2, Iv σ2 pr2 v2 ch2 prw2 W2 → Ls X i 712 [] σ2) : Ls X i 597 [] σ := by
  obtain ⟨⟨hk, hv, hr, hq, hc⟩, ⟨hC, hA⟩, hM, hW⟩ := id I
  refine l_x C dL_law_597 ?_
  refine l_arg (a := 1) C dL_law_598 dL_law_599 dL_law_600 dL_law_601 dL_law_602 (by decide) (by omega) ?_
  refine l_call (as := [_]) C dL_law_603 mk_X10_far lk_L_85 (c_X10_far (by decide) hA hq _) rfl (by decide) rfl rfl rfl ⟨rfl, rfl⟩ (Nat.le_of_ble_eq_true rfl) (Nat.le_of_ble_eq_true rfl) (Nat.le_of_ble_eq_true rfl) (fun r1 σ1 q1 => ?_)
  obtain ⟨e1, ep⟩ := q1
  replace ep := ep.symm
  subst ep
  refine l_m C dL_law_606 ?_
  refine l_arg (a := 1) C dL_law_607 dL_law_608 dL_law_609 dL_law_610 dL_law_611 (by decide) (by omega) ?_
  refine l_call (as := [_]) C dL_law_612 mk_X11_far lk_L_88 (c_X11_far hW hq _) rfl (by decide) rfl rfl rfl ⟨rfl, rfl⟩ (Nat.le_of_ble_eq_true rfl) (Nat.le_of_ble_eq_true rfl) (Nat.le_of_ble_eq_true rfl) (fun r2 σ2 q2 => ?_)
  obtain ⟨e2, ep⟩ := q2
  replace ep := ep.symm
  subst ep
  exact l_eq (tgt := 712) C dL_law_615 (by decide) (e1.trans e2.symm) (NX _ _ _ _ _ _ I)
set_option maxRecDepth 100000 in
set_option maxHeartbeats 4000000 in
theorem o_way {X : LX} {i : Nat} {σ : Sg} {pr : Pr} {v : Vc} {ch : Bool} {prw : Pr} {W : Wk} (C : Lc X) (hi : i + 4 ≤ lxN X) (I : Iv σ pr v ch prw W) (NX : ∀ σ2 pr2 v2 ch2 prw2 W2, Iv σ2 pr2 v2 ch2 prw2 W2 → Ls X i 712 [] σ2) : Ls X i 620 [] σ := by
  obtain ⟨⟨hk, hv, hr, hq, hc⟩, ⟨hC, hA⟩, hM, hW⟩ := id I
  refine l_x C dL_law_620 ?_
  refine l_arg (a := 1) C dL_law_621 dL_law_622 dL_law_623 dL_law_624 dL_law_625 (by decide) (by omega) ?_
  refine l_arg (a := 2) C dL_law_626 dL_law_627 dL_law_628 dL_law_629 dL_law_630 (by decide) (by omega) ?_
  refine l_call (as := [_, _]) C dL_law_631 mk_X10_way lk_L_89 (c_X10_way (by decide) hA hq _ _) rfl (by decide) rfl rfl rfl ⟨rfl, rfl⟩ (Nat.le_of_ble_eq_true rfl) (Nat.le_of_ble_eq_true rfl) (Nat.le_of_ble_eq_true rfl) (fun r1 σ1 q1 => ?_)
  obtain ⟨e1, ep⟩ := q1
  replace ep := ep.symm
  subst ep
  refine l_m C dL_law_634 ?_
  refine l_arg (a := 1) C dL_law_635 dL_law_636 dL_law_637 dL_law_638 dL_law_639 (by decide) (by omega) ?_
  refine l_arg (a := 2) C dL_law_640 dL_law_641 dL_law_642 dL_law_643 dL_law_644 (by decide) (by omega) ?_
  refine l_call (as := [_, _]) C dL_law_645 mk_X11_way lk_L_92 (c_X11_way hW hq _ _) rfl (by decide) rfl rfl rfl ⟨rfl, rfl⟩ (Nat.le_of_ble_eq_true rfl) (Nat.le_of_ble_eq_true rfl) (Nat.le_of_ble_eq_true rfl) (fun r2 σ2 q2 => ?_)
  obtain ⟨e2, ep⟩ := q2
  replace ep := ep.symm
  subst ep
  exact l_eq (tgt := 712) C dL_law_648 (by decide) (e1.trans e2.symm) (NX _ _ _ _ _ _ I)
set_option maxRecDepth 100000 in
set_option maxHeartbeats 4000000 in
theorem o_go {X : LX} {i : Nat} {σ : Sg} {pr : Pr} {v : Vc} {ch : Bool} {prw : Pr} {W : Wk} (C : Lc X) (hi : i + 4 ≤ lxN X) (I : Iv σ pr v ch prw W) (NX : ∀ σ2 pr2 v2 ch2 prw2 W2, Iv σ2 pr2 v2 ch2 prw2 W2 → Ls X i 712 [] σ2) : Ls X i 653 [] σ := by
  obtain ⟨⟨hk, hv, hr, hq, hc⟩, ⟨hC, hA⟩, hM, hW⟩ := id I
  refine l_x C dL_law_653 ?_
  refine l_arg (a := 1) C dL_law_654 dL_law_655 dL_law_656 dL_law_657 dL_law_658 (by decide) (by omega) ?_
  refine l_call (as := [_]) C dL_law_659 mk_X10_go lk_L_93 (c_X10_go (by decide) hC hk hA hq hc _) rfl (by decide) rfl rfl rfl ⟨rfl, rfl⟩ (Nat.le_of_ble_eq_true rfl) (Nat.le_of_ble_eq_true rfl) (Nat.le_of_ble_eq_true rfl) (fun r1 σ1 q1 => ?_)
  obtain ⟨q1, f1⟩ := q1
  obtain ⟨a1, m1, w1⟩ := I.mid f1
  refine l_m C dL_law_662 ?_
  refine l_arg (a := 1) C dL_law_663 dL_law_664 dL_law_665 dL_law_666 dL_law_667 (by decide) (by omega) ?_
  refine l_call (as := [_]) C dL_law_668 mk_X11_go lk_L_96 (c_X11_go m1 hk w1 hq hc _) rfl (by decide) rfl rfl rfl ⟨rfl, rfl⟩ (Nat.le_of_ble_eq_true rfl) (Nat.le_of_ble_eq_true rfl) (Nat.le_of_ble_eq_true rfl) (fun r2 σ2 q2 => ?_)
  obtain ⟨q2, f2⟩ := q2
  cases hg : goF W ch (lxS X (i + 1)) with
  | none =>
    rw [hg] at q1 q2
    exact l_eq (tgt := 712) C dL_law_671 (by decide) (q1.1.trans q2.1.symm) (NX _ _ _ _ _ _ (Iv.fin q1.2 a1 w1 q2.2 f2 I.1))
  | some a =>
    rw [hg] at q1 q2
    have hg2 : ch = false ∧ a < kM W := by
      unfold goF at hg
      split at hg
      · cases hg
      · rename_i c
        cases hg
        refine ⟨?_, ?_⟩
        · cases hh : ch with
          | true => exact absurd (Or.inr (Or.inr hh)) c
          | false => rfl
        · have hM4 := hq.all.1
          obtain ⟨j, hj, ej⟩ := ix_of (m := kM W) (by omega) (fun z => c (Or.inl z)) (fun z => c (Or.inr (Or.inl z)))
          rw [ej, nI_clamp (by omega)]
          exact hj
    have hpr := hc hg2.1
    subst hpr
    exact l_eq (tgt := 712) C dL_law_671 (by decide) (q1.1.trans q2.1.symm) (NX _ _ _ _ _ _ (Iv.fin q1.2 a1 w1 q2.2 f2 ⟨hk, (hq.all.2.2.2.1 a hg2.2).2, hq.srt a hg2.2, hq, hc⟩))
set_option maxRecDepth 100000 in
set_option maxHeartbeats 4000000 in
theorem o_number {X : LX} {i : Nat} {σ : Sg} {pr : Pr} {v : Vc} {ch : Bool} {prw : Pr} {W : Wk} (C : Lc X) (hi : i + 4 ≤ lxN X) (I : Iv σ pr v ch prw W) (NX : ∀ σ2 pr2 v2 ch2 prw2 W2, Iv σ2 pr2 v2 ch2 prw2 W2 → Ls X i 712 [] σ2) : Ls X i 676 [] σ := by
  obtain ⟨⟨hk, hv, hr, hq, hc⟩, ⟨hC, hA⟩, hM, hW⟩ := id I
  refine l_x C dL_law_676 ?_
  refine l_call (as := []) C dL_law_677 mk_X10_number lk_L_97 (c_X10_number (by decide) hC hk hA hv hq hc) rfl (by decide) rfl rfl rfl ⟨rfl, rfl⟩ (Nat.le_of_ble_eq_true rfl) (Nat.le_of_ble_eq_true rfl) (Nat.le_of_ble_eq_true rfl) (fun r1 σ1 q1 => ?_)
  obtain ⟨e1, ep⟩ := q1
  replace ep := ep.symm
  subst ep
  refine l_m C dL_law_680 ?_
  refine l_call (as := []) C dL_law_681 mk_X11_number lk_L_100 (c_X11_number hM hk hv hW hq) rfl (by decide) rfl rfl rfl ⟨rfl, rfl⟩ (Nat.le_of_ble_eq_true rfl) (Nat.le_of_ble_eq_true rfl) (Nat.le_of_ble_eq_true rfl) (fun r2 σ2 q2 => ?_)
  obtain ⟨e2, m2, f2⟩ := q2
  exact l_eq (tgt := 712) C dL_law_684 (by decide) (e1.trans e2.symm) (NX _ _ _ _ _ _ (Iv.fin hC hA hW m2 f2 I.1))
set_option maxRecDepth 100000 in
set_option maxHeartbeats 4000000 in
theorem o_used {X : LX} {i : Nat} {σ : Sg} {pr : Pr} {v : Vc} {ch : Bool} {prw : Pr} {W : Wk} (C : Lc X) (hi : i + 4 ≤ lxN X) (I : Iv σ pr v ch prw W) (NX : ∀ σ2 pr2 v2 ch2 prw2 W2, Iv σ2 pr2 v2 ch2 prw2 W2 → Ls X i 712 [] σ2) : Ls X i 689 [] σ := by
  obtain ⟨⟨hk, hv, hr, hq, hc⟩, ⟨hC, hA⟩, hM, hW⟩ := id I
  refine l_x C dL_law_689 ?_
  refine l_arg (a := 1) C dL_law_690 dL_law_691 dL_law_692 dL_law_693 dL_law_694 (by decide) (by omega) ?_
  refine l_call (as := [_]) C dL_law_695 mk_X10_used lk_L_101 (c_X10_used (by decide) hC hk hA _) rfl (by decide) rfl rfl rfl ⟨rfl, rfl⟩ (Nat.le_of_ble_eq_true rfl) (Nat.le_of_ble_eq_true rfl) (Nat.le_of_ble_eq_true rfl) (fun r1 σ1 q1 => ?_)
  obtain ⟨e1, ep⟩ := q1
  replace ep := ep.symm
  subst ep
  refine l_m C dL_law_698 ?_
  refine l_arg (a := 1) C dL_law_699 dL_law_700 dL_law_701 dL_law_702 dL_law_703 (by decide) (by omega) ?_
  refine l_call (as := [_]) C dL_law_704 mk_X11_used lk_L_104 (c_X11_used hM hk hW _) rfl (by decide) rfl rfl rfl ⟨rfl, rfl⟩ (Nat.le_of_ble_eq_true rfl) (Nat.le_of_ble_eq_true rfl) (Nat.le_of_ble_eq_true rfl) (fun r2 σ2 q2 => ?_)
  obtain ⟨e2, ep⟩ := q2
  replace ep := ep.symm
  subst ep
  exact l_eq (tgt := 712) C dL_law_707 (by decide) (e1.trans e2.symm) (NX _ _ _ _ _ _ I)
set_option maxRecDepth 100000 in
set_option maxHeartbeats 4000000 in
theorem o_all {X : LX} {i : Nat} {σ : Sg} {pr : Pr} {v : Vc} {ch : Bool} {prw : Pr} {W : Wk} (C : Lc X) (hi : i + 4 ≤ lxN X) (I : Iv σ pr v ch prw W) (NX : ∀ σ2 pr2 v2 ch2 prw2 W2, Iv σ2 pr2 v2 ch2 prw2 W2 → Ls X i 712 [] σ2) {x : Int32} : Ls X i 32 [.int x] σ := by
  have out : (x.toInt < 0 ∨ 21 < x.toInt) → Ls X i 32 [.int x] σ := fun h => l_out (tgt := 712) C dL_law_32 h (by decide) (NX _ _ _ _ _ _ I)
  by_cases h0 : x < 0
  · exact out (Or.inl (Int32.lt_iff_toInt_lt.mp h0))
  · obtain ⟨k, hk, rfl⟩ := nI_of h0
    by_cases h21 : 21 < k
    · exact out (Or.inr (by rw [nI_toInt hk]; omega))
    · have hk22 : k < 22 := by omega
      clear out h0 hk h21
      match k, hk22 with
      | 0, _ => exact l_in (off := 104) (tgt := 136) C dL_law_32 (by decide) (by decide) (by decide) (by decide) (o_processors C hi I NX)
      | 1, _ => exact l_in (off := 127) (tgt := 159) C dL_law_32 (by decide) (by decide) (by decide) (by decide) (o_net C hi I NX)
      | 2, _ => exact l_in (off := 160) (tgt := 192) C dL_law_32 (by decide) (by decide) (by decide) (by decide) (o_right C hi I NX)
      | 3, _ => exact l_in (off := 193) (tgt := 225) C dL_law_32 (by decide) (by decide) (by decide) (by decide) (o_row C hi I NX)
      | 4, _ => exact l_in (off := 236) (tgt := 268) C dL_law_32 (by decide) (by decide) (by decide) (by decide) (o_tear C hi I NX)
      | 5, _ => exact l_in (off := 259) (tgt := 291) C dL_law_32 (by decide) (by decide) (by decide) (by decide) (o_rows C hi I NX)
      | 6, _ => exact l_in (off := 282) (tgt := 314) C dL_law_32 (by decide) (by decide) (by decide) (by decide) (o_reset C hi I NX)
      | 7, _ => exact l_in (off := 295) (tgt := 327) C dL_law_32 (by decide) (by decide) (by decide) (by decide) (o_steps C hi I NX)
      | 8, _ => exact l_in (off := 308) (tgt := 340) C dL_law_32 (by decide) (by decide) (by decide) (by decide) (o_step C hi I NX)
      | 9, _ => exact l_in (off := 341) (tgt := 373) C dL_law_32 (by decide) (by decide) (by decide) (by decide) (o_choose C hi I NX)
      | 10, _ => exact l_in (off := 364) (tgt := 396) C dL_law_32 (by decide) (by decide) (by decide) (by decide) (o_end C hi I NX)
      | 11, _ => exact l_in (off := 397) (tgt := 429) C dL_law_32 (by decide) (by decide) (by decide) (by decide) (o_letter C hi I NX)
      | 12, _ => exact l_in (off := 430) (tgt := 462) C dL_law_32 (by decide) (by decide) (by decide) (by decide) (o_now C hi I NX)
      | 13, _ => exact l_in (off := 453) (tgt := 485) C dL_law_32 (by decide) (by decide) (by decide) (by decide) (o_walk C hi I NX)
      | 14, _ => exact l_in (off := 476) (tgt := 508) C dL_law_32 (by decide) (by decide) (by decide) (by decide) (o_walked C hi I NX)
      | 15, _ => exact l_in (off := 499) (tgt := 531) C dL_law_32 (by decide) (by decide) (by decide) (by decide) (o_bad C hi I NX)
      | 16, _ => exact l_in (off := 532) (tgt := 564) C dL_law_32 (by decide) (by decide) (by decide) (by decide) (o_found C hi I NX)
      | 17, _ => exact l_in (off := 565) (tgt := 597) C dL_law_32 (by decide) (by decide) (by decide) (by decide) (o_far C hi I NX)
      | 18, _ => exact l_in (off := 588) (tgt := 620) C dL_law_32 (by decide) (by decide) (by decide) (by decide) (o_way C hi I NX)
      | 19, _ => exact l_in (off := 621) (tgt := 653) C dL_law_32 (by decide) (by decide) (by decide) (by decide) (o_go C hi I NX)
      | 20, _ => exact l_in (off := 644) (tgt := 676) C dL_law_32 (by decide) (by decide) (by decide) (by decide) (o_number C hi I NX)
      | 21, _ => exact l_in (off := 657) (tgt := 689) C dL_law_32 (by decide) (by decide) (by decide) (by decide) (o_used C hi I NX)
      | k + 22, h => exact absurd h (by omega)
theorem law_loop {X : LX} (C : Lc X) : ∀ (d i : Nat), lxN X + 4 ≤ i + 4 * d + 4 → i ≤ 2052 → ∀ (σ : Sg) (pr : Pr) (v : Vc) (ch : Bool) (prw : Pr) (W : Wk), Iv σ pr v ch prw W → Ls X i 18 [] σ := by
  intro d
  have hN : lxN X ≤ 2048 := C.2.2
  induction d with
  | zero =>
    intro i hd hi σ pr v ch prw W I
    exact l_head C hi (fun h => absurd h (by omega))
  | succ d ih =>
    intro i hd hi σ pr v ch prw W I
    exact l_head C hi (fun h => o_all C h I (fun σ2 pr2 v2 ch2 prw2 W2 I2 => l_next C (ih (i + 4) (by omega) (by omega) σ2 pr2 v2 ch2 prw2 W2 I2)))
