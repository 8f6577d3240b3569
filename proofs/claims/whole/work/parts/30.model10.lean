theorem WkM.tri {σ σ2 : Sg} {pr : Pr} {W : Wk} {vis : Nat} {a : Option Nat} (h : WkM σ pr W vis) (f : Fr 53 σ σ2 [58, 59] [9, 10, 11, 26, 34]) (c26 : (σ2 53).1 26 = nI (kT W + 1)) (c58 : ∀ q, q < 2048 → (σ2 58).1 q = bI (useK (kU W) a q)) : WkM σ2 pr (triK W a) vis := by
  obtain ⟨⟨a1, a2, a3, a4⟩, b, c, d, e, g, i⟩ := h
  refine ⟨⟨(f.2.1 25 (by decide)).trans a1, c26, (f.2.1 31 (by decide)).trans a3, (f.2.1 32 (by decide)).trans a4⟩, fun n hn => ⟨(b n hn).1.kept (f.1 66 (by decide) (by decide)), by rw [f.1 67 (by decide) (by decide)]; exact (b n hn).2.1, by rw [f.1 70 (by decide) (by decide)]; exact (b n hn).2.2⟩, ?_, ?_, ?_, c58, i.fr f (by decide) (by decide)⟩
  · rw [f.1 68 (by decide) (by decide), f.1 69 (by decide) (by decide)]; exact c
  · rw [f.1 71 (by decide) (by decide)]; exact d
  · rw [f.1 72 (by decide) (by decide)]; exact e
theorem WkM.bad {σ σ2 : Sg} {pr : Pr} {W : Wk} {vis b n i : Nat} (h : WkM σ pr W vis) (f : Fr 53 σ σ2 [74, 75, 76] [27]) (hB : BdM σ2 (kB W ++ [(b, n, some i)])) : WkM σ2 pr (badK W b n i) vis := by
  obtain ⟨⟨a1, a2, a3, a4⟩, b, c, d, e, g, i⟩ := h
  refine ⟨⟨(f.2.1 25 (by decide)).trans a1, (f.2.1 26 (by decide)).trans a2, (f.2.1 31 (by decide)).trans a3, (f.2.1 32 (by decide)).trans a4⟩, fun n hn => ⟨(b n hn).1.kept (f.1 66 (by decide) (by decide)), by rw [f.1 67 (by decide) (by decide)]; exact (b n hn).2.1, by rw [f.1 70 (by decide) (by decide)]; exact (b n hn).2.2⟩, ?_, ?_, ?_, ?_, hB⟩
  · rw [f.1 68 (by decide) (by decide), f.1 69 (by decide) (by decide)]; exact c
  · rw [f.1 71 (by decide) (by decide)]; exact d
  · rw [f.1 72 (by decide) (by decide)]; exact e
  · rw [f.1 58 (by decide) (by decide)]; exact g
theorem WkM.nex {σ : Sg} {pr : Pr} {W : Wk} {vis n i : Nat} {k : Option Nat} (h : WkM σ pr W vis) (hi : i < 20) : WkM (wI σ 71 (20 * n + i) (amv k)) pr (nexK W n i k) vis := by
  obtain ⟨⟨a1, a2, a3, a4⟩, b, c, d, e, g, j⟩ := h
  have z : ∀ a, a ≠ 71 → wI σ 71 (20 * n + i) (amv k) a = σ a := fun a ha => wI_a _ _ ha
  refine ⟨⟨by rw [z 53 (by decide)]; exact a1, by rw [z 53 (by decide)]; exact a2, by rw [z 53 (by decide)]; exact a3, by rw [z 53 (by decide)]; exact a4⟩, fun m hm => ⟨(b m hm).1.kept (z 66 (by decide)), by rw [z 67 (by decide)]; exact (b m hm).2.1, by rw [z 70 (by decide)]; exact (b m hm).2.2⟩, by rw [z 68 (by decide), z 69 (by decide)]; exact c, fun m q hm hq => ?_, by rw [z 72 (by decide)]; exact e, by rw [z 58 (by decide)]; exact g, ⟨by rw [z 53 (by decide)]; exact j.1, by rw [z 74 (by decide), z 75 (by decide), z 76 (by decide)]; exact j.2⟩⟩
  show _ = amv (nxt (kN W) n i k m q)
  unfold nxt
  by_cases e2 : m = n ∧ q = i
  · rw [if_pos e2, e2.1, e2.2, wI_s]
  · rw [if_neg e2, wI_k _ _ (by omega)]
    exact d m q hm hq
theorem WkM.spe {σ : Sg} {pr : Pr} {W : Wk} {vis : Nat} (h : WkM σ pr W vis) : WkM (wI σ 53 32 (nI 1)) pr (speK W) vis := by
  obtain ⟨⟨a1, a2, a3, a4⟩, b, c, d, e, g, j⟩ := h
  have z : ∀ a, a ≠ 53 → wI σ 53 32 (nI 1) a = σ a := fun a ha => wI_a _ _ ha
  refine ⟨⟨by rw [wI_k _ _ (by decide)]; exact a1, by rw [wI_k _ _ (by decide)]; exact a2, by rw [wI_k _ _ (by decide)]; exact a3, by rw [wI_s]; rfl⟩, fun m hm => ⟨(b m hm).1.kept (z 66 (by decide)), by rw [z 67 (by decide)]; exact (b m hm).2.1, by rw [z 70 (by decide)]; exact (b m hm).2.2⟩, by rw [z 68 (by decide), z 69 (by decide)]; exact c, by rw [z 71 (by decide)]; exact d, by rw [z 72 (by decide)]; exact e, by rw [z 58 (by decide)]; exact g, ⟨by rw [wI_k _ _ (by decide)]; exact j.1, by rw [z 74 (by decide), z 75 (by decide), z 76 (by decide)]; exact j.2⟩⟩
theorem VOk.lt31 {pr : Pr} {v : Vc} (h : VOk pr v) (hP : pP pr ≤ 4) (j : Nat) : v j < 2 ^ 31 := by
  obtain ⟨h1, h2, h3, h4, h5, h6, h7, h8⟩ := h
  by_cases e1 : j < 3 * pP pr
  · have := h1 (j / 3) (by omega)
    rcases (show j = 3 * (j / 3) ∨ j = 3 * (j / 3) + 1 ∨ j = 3 * (j / 3) + 2 by omega) with e | e | e <;> rw [e] <;> omega
  by_cases e2 : j < 12
  · rw [h7 j (by omega) e2]; decide
  by_cases e3 : 16 + 5 * v 15 ≤ j
  · rw [h8 j e3]; decide
  by_cases e4 : j < 16
  · rcases (show j = 12 ∨ j = 13 ∨ j = 14 ∨ j = 15 by omega) with e | e | e | e <;> rw [e] <;> omega
  · have := h6 ((j - 16) / 5) (by omega)
    rcases (show j = 16 + 5 * ((j - 16) / 5) ∨ j = 17 + 5 * ((j - 16) / 5) ∨ j = 18 + 5 * ((j - 16) / 5) ∨ j = 19 + 5 * ((j - 16) / 5) ∨ j = 20 + 5 * ((j - 16) / 5) by omega) with e | e | e | e | e <;> rw [e] <;> omega
set_option maxRecDepth 100000 in
set_option maxHeartbeats 4000000 in
theorem c_X11_from {σ : Sg} {pr : Pr} {W : Wk} {n most : Nat} (hp : PrM σ pr) (hk : PrOk pr) (hW : WkM σ pr W n) (hok : WkOk pr most n W) (hn : n < kM W) (hm4 : most ≤ 4000) (hT : kT W ≤ 80000) : Sm 77 mX11_from [.ref 53, .int (nI n), .int (nI most)] σ (qv fun σ2 => WkM σ2 pr (visF pr most n W) (n + 1) ∧ Fr 53 σ σ2 [58, 59, 62, 63, 64, 65, 66, 67, 68, 69, 70, 71, 72, 74, 75, 76] [9, 10, 11, 16, 25, 26, 27, 31, 32, 34]) := by
  refine Sm.of mk_X11_from (Nat.le_of_ble_eq_true rfl) rfl (fun X hX => ?_)
  have hP := hk.1
  have hkM := hok.1.2
  have hvn := hok.2.1 n hn
  obtain ⟨l, hl⟩ : ∃ l, l = stepsF pr (kV W n) := ⟨_, rfl⟩
  have hl20 : l.length ≤ 20 := by rw [hl]; exact stepsF_le hk hvn
  have hvF : visF pr most n W = visR pr most n l l.length W := by unfold visF; rw [← hl]
  have I82 : ∀ d i, i + d = l.length → ∀ σ1 (x5 x6 : Option Value), Fr 53 σ σ1 [58, 59, 62, 63, 64, 65, 66, 67, 68, 69, 70, 71, 72, 74, 75, 76] [9, 10, 11, 16, 25, 26, 27, 31, 32, 34] → StM σ1 l → WkM σ1 pr (visR pr most n l i W) (n + 1) → Sw 77 mX11_from X (ZS 77 mX11_from (qv fun σ2 => WkM σ2 pr (visF pr most n W) (n + 1) ∧ Fr 53 σ σ2 [58, 59, 62, 63, 64, 65, 66, 67, 68, 69, 70, 71, 72, 74, 75, 76] [9, 10, 11, 16, 25, 26, 27, 31, 32, 34]) X) 82 [some (.ref 53), some (.int (nI n)), some (.int (nI most)), some (.int (nI l.length)), some (.int (nI i)), x5, x6] [] σ1 := by
    intro d
    induction d with
    | zero =>
      intro i hd σ1 x5 x6 hf hS hW1
      refine s_iload hX dX11_from_82 rfl ?_
      refine s_iload_n hX dX11_from_84 rfl ?_
      refine s_icmp_ge_n (tgt := 217) hX dX11_from_85 (by decide) (by omega) (by omega) (fun q85 => ?_) (fun q85 => ?_)
      · refine s_vret hX dX11_from_217 rfl rfl ?_
        rw [hvF, ← show i = l.length by omega]
        exact ⟨hW1, hf⟩
      · omega
    | succ d ih =>
      intro i hd σ1 x5 x6 hf hS hW1
      have kp := visR_keep pr most n l W i
      have hok1 : WkOk pr most (n + 1) (visR pr most n l i W) := by rw [hl]; exact visR_ok hk hok hn i
      obtain ⟨W1, eW1⟩ : ∃ W1, W1 = (visR pr most n l i W) := ⟨_, rfl⟩
      rw [← eW1] at hW1 hok1 kp
      have hvn1 : kV W1 n = kV W n := kp.2.1 n hn
      have hn1 : n < kM W1 := by have := kp.1; omega
      obtain ⟨s, hs⟩ : ∃ s, l[i]? = some s := ⟨_, List.getElem?_eq_getElem (by omega)⟩
      have hso : SpOk pr (kV W n) s := stepsF_ok hvn (by rw [← hl]; exact List.mem_of_getElem? hs)
      have hvis : visR pr most n l (i + 1) W = tryK pr most n i s W1 := by
        show (match l[i]? with
          | none => visR pr most n l i W
          | some s => tryK pr most n i s (visR pr most n l i W)) = _
        rw [hs, eW1]
      have hp1 := hp.fr hf (by decide) (by decide) (by decide) (by decide) (by decide)
      have g66 := (hW1.2.1 n hn1).1
      rw [hvn1] at g66
      have hkM1 := hok1.1.2
      have hT1 : kT W1 ≤ 80020 := by have := kp.2.2; omega
      have hB1 := hok1.2.2.2.2.1
      obtain ⟨R, hR⟩ : ∃ R, R = doF pr (kV W n) s := ⟨_, rfl⟩
      have hle : R.1 ≤ 3 := by rw [hR]; exact doF_le _ _ _
      have hvR : VOk pr R.2.2 := by rw [hR]; exact hvn.doF hP.2 hso
      have htry : tryK pr most n i s W1 = (if R.1 ≠ 0 then badK (triK W1 R.2.1) R.1 n i else match numK W1 R.2.2 with
          | some k => nexK (triK W1 R.2.1) n i (some k)
          | none => if kM W1 < most then nexK (addK pr (triK W1 R.2.1) R.2.2 (some (n, i))) n i (some (kM W1)) else nexK (speK (triK W1 R.2.1)) n i none) := by
        unfold tryK
        rw [hvn1, ← hR]
        all_goals rfl
      have DONE : ∀ W2 σ2 (x5 x6 : Option Value), tryK pr most n i s W1 = W2 → WkM σ2 pr W2 (n + 1) → Fr 53 σ1 σ2 [58, 59, 66, 67, 68, 69, 70, 71, 74, 75, 76] [9, 10, 11, 25, 26, 27, 31, 32, 34] → Sw 77 mX11_from X (ZS 77 mX11_from (qv fun σ2 => WkM σ2 pr (visF pr most n W) (n + 1) ∧ Fr 53 σ σ2 [58, 59, 62, 63, 64, 65, 66, 67, 68, 69, 70, 71, 72, 74, 75, 76] [9, 10, 11, 16, 25, 26, 27, 31, 32, 34]) X) 82 [some (.ref 53), some (.int (nI n)), some (.int (nI most)), some (.int (nI l.length)), some (.int (nI (i + 1))), x5, x6] [] σ2 := by
        intro W2 σ2 x5 x6 e2 h2 f2
        exact ih (i + 1) (by omega) σ2 x5 x6 (hf.trans (f2.mono (by decide) (by decide))) (hS.fr f2 (by decide) (by decide) (by decide) (by decide) (by decide)) (by rw [hvis, e2]; exact h2)
      have J139 : ∀ σ2 (x6 : Option Value), WkM σ2 pr (triK W1 R.2.1) (n + 1) → Vat σ2 59 0 R.2.2 → Fr 53 σ1 σ2 [58, 59] [9, 10, 11, 26, 34] → Sw 77 mX11_from X (ZS 77 mX11_from (qv fun σ2 => WkM σ2 pr (visF pr most n W) (n + 1) ∧ Fr 53 σ σ2 [58, 59, 62, 63, 64, 65, 66, 67, 68, 69, 70, 71, 72, 74, 75, 76] [9, 10, 11, 16, 25, 26, 27, 31, 32, 34]) X) 139 [some (.ref 53), some (.int (nI n)), some (.int (nI most)), some (.int (nI l.length)), some (.int (nI i)), some (.int (nI R.1)), x6] [] σ2 := by
        intro σ2 x6 h2 hV2 f2
        have hp2 := hp1.fr f2 (by decide) (by decide) (by decide) (by decide) (by decide)
        have hvis1 : n + 1 ≤ kM W1 := hn1
        cases hq : numK W1 R.2.2 with
        | some k =>
          have hk4 := numK_lt hq
          rw [hq] at htry
          refine s_iload hX dX11_from_139 rfl ?_
          refine s_if_eq_n (tgt := 156) hX dX11_from_141 (by decide) (by omega) (fun q141 => ?_) (fun q141 => ?_)
          · refine s_aload_n hX dX11_from_156 rfl ?_
            refine s_callVi (as := []) hX dX11_from_157 mk_X11_numberOf lk_X11_212 (c_X11_numberOf (v := R.2.2) h2 (by show kM W1 ≤ 4000; omega) hV2 (fun m j hm hj => (hok1.2.1 m hm).lt31 hP.2 j) (fun j hj => hvR.lt31 hP.2 j)) rfl (by omega) rfl rfl rfl ⟨rfl, rfl⟩ (Nat.le_of_ble_eq_true rfl) (Nat.le_of_ble_eq_true rfl) (Nat.le_of_ble_eq_true rfl) rfl (fun v157 σ157 p157 => ?_)
            obtain ⟨rfl, e157⟩ := p157
            subst e157
            refine s_top (y := nI k) (by rw [show numK (triK W1 R.2.1) R.2.2 = numK W1 R.2.2 from rfl, hq]; rfl) ?_
            refine s_istore hX dX11_from_160 (Nat.le_of_ble_eq_true rfl) rfl st_7_6 ?_
            refine s_iload hX dX11_from_162 rfl ?_
            refine s_if_ge_n (tgt := 187) hX dX11_from_164 (by decide) (by omega) ?_
            refine s_iload hX dX11_from_187 rfl ?_
            refine s_if_ge_n (tgt := 197) hX dX11_from_189 (by decide) (by omega) ?_
            refine s_aload_n hX dX11_from_197 rfl ?_
            refine s_getR hX dX11_from_198 fl_X11_69 rfl rfl (by omega) ?_
            refine s_bipush (v := nI 20) hX dX11_from_201 (by decide) ?_
            refine s_iload_n hX dX11_from_203 rfl ?_
            refine s_imul_n hX dX11_from_204 ?_
            refine s_iload hX dX11_from_205 rfl ?_
            refine s_iadd_n hX dX11_from_207 ?_
            refine s_iload hX dX11_from_208 rfl ?_
            refine s_iast hX dX11_from_210 rfl (by omega) (by omega) (by decide) ?_
            refine s_iinc_n (c := 1) hX dX11_from_211 rfl (by decide) rfl st_7_4 ?_
            refine s_goto (tgt := 82) hX dX11_from_214 (by decide) ?_
            first
              | (rw [if_pos q141] at htry
                 exact DONE _ _ _ _ htry (h2.bad f3 hB) ((f2.mono (by decide) (by decide)).trans (f3.mono (by decide) (by decide))))
              | (rw [if_neg (by omega)] at htry
                 exact DONE _ _ _ _ htry (h2.nex (by omega)) ((f2.mono (by decide) (by decide)).wI (by decide) (by decide)))
          · refine s_aload_n hX dX11_from_144 rfl ?_
            refine s_iload hX dX11_from_145 rfl ?_
            refine s_iload_n hX dX11_from_147 rfl ?_
            refine s_iload hX dX11_from_148 rfl ?_
            refine s_callVv (as := [_, _, _]) hX dX11_from_150 mk_X11_addBad lk_X11_192 (c_X11_addBad h2.2.2.2.2.2.2 (by show (kB W1).length < 2 ^ 30; omega) (R.1, n, some i)) rfl (by omega) rfl rfl rfl ⟨rfl, rfl⟩ (Nat.le_of_ble_eq_true rfl) (Nat.le_of_ble_eq_true rfl) (Nat.le_of_ble_eq_true rfl) rfl (fun σ150 p150 => ?_)
            obtain ⟨hB, f3⟩ := p150
            refine s_goto (tgt := 211) hX dX11_from_153 (by decide) ?_
            refine s_iinc_n (c := 1) hX dX11_from_211 rfl (by decide) rfl st_7_4 ?_
            refine s_goto (tgt := 82) hX dX11_from_214 (by decide) ?_
            first
              | (rw [if_pos q141] at htry
                 exact DONE _ _ _ _ htry (h2.bad f3 hB) ((f2.mono (by decide) (by decide)).trans (f3.mono (by decide) (by decide))))
              | (rw [if_neg (by omega)] at htry
                 exact DONE _ _ _ _ htry (h2.nex (by omega)) ((f2.mono (by decide) (by decide)).wI (by decide) (by decide)))
        | none =>
          rw [hq] at htry
          refine s_iload hX dX11_from_139 rfl ?_
          refine s_if_eq_n (tgt := 156) hX dX11_from_141 (by decide) (by omega) (fun q141 => ?_) (fun q141 => ?_)
          · refine s_aload_n hX dX11_from_156 rfl ?_
            refine s_callVi (as := []) hX dX11_from_157 mk_X11_numberOf lk_X11_212 (c_X11_numberOf (v := R.2.2) h2 (by show kM W1 ≤ 4000; omega) hV2 (fun m j hm hj => (hok1.2.1 m hm).lt31 hP.2 j) (fun j hj => hvR.lt31 hP.2 j)) rfl (by omega) rfl rfl rfl ⟨rfl, rfl⟩ (Nat.le_of_ble_eq_true rfl) (Nat.le_of_ble_eq_true rfl) (Nat.le_of_ble_eq_true rfl) rfl (fun v157 σ157 p157 => ?_)
            obtain ⟨rfl, e157⟩ := p157
            subst e157
            refine s_top (y := -1) (by rw [show numK (triK W1 R.2.1) R.2.2 = numK W1 R.2.2 from rfl, hq]; rfl) ?_
            refine s_istore hX dX11_from_160 (Nat.le_of_ble_eq_true rfl) rfl st_7_6 ?_
            refine s_iload hX dX11_from_162 rfl ?_
            refine s_if_ge (tgt := 187) hX dX11_from_164 (by decide) (fun q164 => ?_) (fun q164 => ?_)
            · exact absurd q164 (by decide)
            · refine s_aload_n hX dX11_from_167 rfl ?_
              refine s_getI (x := nI (kM W1)) hX dX11_from_168 fl_X11_183 rfl rfl (by omega) h2.1.1 ?_
              refine s_iload_n hX dX11_from_171 rfl ?_
              refine s_icmp_ge_n (tgt := 187) hX dX11_from_172 (by decide) (by omega) (by omega) (fun q172 => ?_) (fun q172 => ?_)
              · refine s_iload hX dX11_from_187 rfl ?_
                refine s_if_ge (tgt := 197) hX dX11_from_189 (by decide) (fun q189 => ?_) (fun q189 => ?_)
                · exact absurd q189 (by decide)
                · refine s_aload_n hX dX11_from_192 rfl ?_
                  refine s_iconst (v := nI 1) hX dX11_from_193 (by decide) ?_
                  refine s_putI hX dX11_from_194 fl_X11_199 rfl rfl (by omega) rfl rfl ?_
                  refine s_aload_n hX dX11_from_197 rfl ?_
                  refine s_getR hX dX11_from_198 fl_X11_69 rfl rfl (by omega) ?_
                  refine s_bipush (v := nI 20) hX dX11_from_201 (by decide) ?_
                  refine s_iload_n hX dX11_from_203 rfl ?_
                  refine s_imul_n hX dX11_from_204 ?_
                  refine s_iload hX dX11_from_205 rfl ?_
                  refine s_iadd_n hX dX11_from_207 ?_
                  refine s_iload hX dX11_from_208 rfl ?_
                  refine s_iast hX dX11_from_210 rfl (by omega) (by omega) (by decide) ?_
                  refine s_iinc_n (c := 1) hX dX11_from_211 rfl (by decide) rfl st_7_4 ?_
                  refine s_goto (tgt := 82) hX dX11_from_214 (by decide) ?_
                  first
                    | (rw [if_pos q141] at htry
                       exact DONE _ _ _ _ htry (h2.bad f3 hB) ((f2.mono (by decide) (by decide)).trans (f3.mono (by decide) (by decide))))
                    | (rw [if_neg (by omega)] at htry
                       have htry2 : tryK pr most n i s W1 = nexK (addK pr (triK W1 R.2.1) R.2.2 (some (n, i))) n i (some (kM W1)) := by rw [htry]; show (if kM W1 < most then _ else _) = _; rw [if_pos (by omega)]
                       exact DONE _ _ _ _ htry2 (h3.nex (k := some (kM W1)) (by omega)) (((f2.mono (by decide) (by decide)).trans (f3.mono (by decide) (by decide))).wI (by decide) (by decide)))
                    | (rw [if_neg (by omega)] at htry
                       have htry2 : tryK pr most n i s W1 = nexK (speK (triK W1 R.2.1)) n i none := by rw [htry]; show (if kM W1 < most then _ else _) = _; rw [if_neg (by omega)]
                       exact DONE _ _ _ _ htry2 (h2.spe.nex (k := none) (by omega)) (((f2.mono (by decide) (by decide)).put (by decide)).wI (by decide) (by decide)))
              · refine s_aload_n hX dX11_from_175 rfl ?_
                refine s_iload_n hX dX11_from_176 rfl ?_
                refine s_iload hX dX11_from_177 rfl ?_
                refine s_callVi (as := [_, _]) hX dX11_from_179 mk_X11_add lk_X11_202 (c_X11_add (W := triK W1 R.2.1) (v := R.2.2) (f := some (n, i)) hp2 hk h2 hvis1 (by show kM W1 < 4000; omega) hV2 hvR (by show (kB W1).length < 2 ^ 30; omega) (fun e => by cases e) (fun q e => by cases e; exact hn1)) rfl (by omega) rfl rfl rfl ⟨rfl, rfl⟩ (Nat.le_of_ble_eq_true rfl) (Nat.le_of_ble_eq_true rfl) (Nat.le_of_ble_eq_true rfl) rfl (fun v179 σ179 p179 => ?_)
                obtain ⟨rfl, h3, f3⟩ := p179
                refine s_istore hX dX11_from_182 (Nat.le_of_ble_eq_true rfl) rfl st_7_6 ?_
                refine s_goto (tgt := 197) hX dX11_from_184 (by decide) ?_
                refine s_aload_n hX dX11_from_197 rfl ?_
                refine s_getR hX dX11_from_198 fl_X11_69 rfl rfl (by omega) ?_
                refine s_bipush (v := nI 20) hX dX11_from_201 (by decide) ?_
                refine s_iload_n hX dX11_from_203 rfl ?_
                refine s_imul_n hX dX11_from_204 ?_
                refine s_iload hX dX11_from_205 rfl ?_
                refine s_iadd_n hX dX11_from_207 ?_
                refine s_iload hX dX11_from_208 rfl ?_
                refine s_iast hX dX11_from_210 rfl (by omega) (by omega) (by decide) ?_
                refine s_iinc_n (c := 1) hX dX11_from_211 rfl (by decide) rfl st_7_4 ?_
                refine s_goto (tgt := 82) hX dX11_from_214 (by decide) ?_
                first
                  | (rw [if_pos q141] at htry
                     exact DONE _ _ _ _ htry (h2.bad f3 hB) ((f2.mono (by decide) (by decide)).trans (f3.mono (by decide) (by decide))))
                  | (rw [if_neg (by omega)] at htry
                     have htry2 : tryK pr most n i s W1 = nexK (addK pr (triK W1 R.2.1) R.2.2 (some (n, i))) n i (some (kM W1)) := by rw [htry]; show (if kM W1 < most then _ else _) = _; rw [if_pos (by omega)]
                     exact DONE _ _ _ _ htry2 (h3.nex (k := some (kM W1)) (by omega)) (((f2.mono (by decide) (by decide)).trans (f3.mono (by decide) (by decide))).wI (by decide) (by decide)))
                  | (rw [if_neg (by omega)] at htry
                     have htry2 : tryK pr most n i s W1 = nexK (speK (triK W1 R.2.1)) n i none := by rw [htry]; show (if kM W1 < most then _ else _) = _; rw [if_neg (by omega)]
                     exact DONE _ _ _ _ htry2 (h2.spe.nex (k := none) (by omega)) (((f2.mono (by decide) (by decide)).put (by decide)).wI (by decide) (by decide)))
          · refine s_aload_n hX dX11_from_144 rfl ?_
            refine s_iload hX dX11_from_145 rfl ?_
            refine s_iload_n hX dX11_from_147 rfl ?_
            refine s_iload hX dX11_from_148 rfl ?_
            refine s_callVv (as := [_, _, _]) hX dX11_from_150 mk_X11_addBad lk_X11_192 (c_X11_addBad h2.2.2.2.2.2.2 (by show (kB W1).length < 2 ^ 30; omega) (R.1, n, some i)) rfl (by omega) rfl rfl rfl ⟨rfl, rfl⟩ (Nat.le_of_ble_eq_true rfl) (Nat.le_of_ble_eq_true rfl) (Nat.le_of_ble_eq_true rfl) rfl (fun σ150 p150 => ?_)
            obtain ⟨hB, f3⟩ := p150
            refine s_goto (tgt := 211) hX dX11_from_153 (by decide) ?_
            refine s_iinc_n (c := 1) hX dX11_from_211 rfl (by decide) rfl st_7_4 ?_
            refine s_goto (tgt := 82) hX dX11_from_214 (by decide) ?_
            first
              | (rw [if_pos q141] at htry
                 exact DONE _ _ _ _ htry (h2.bad f3 hB) ((f2.mono (by decide) (by decide)).trans (f3.mono (by decide) (by decide))))
              | (rw [if_neg (by omega)] at htry
                 have htry2 : tryK pr most n i s W1 = nexK (addK pr (triK W1 R.2.1) R.2.2 (some (n, i))) n i (some (kM W1)) := by rw [htry]; show (if kM W1 < most then _ else _) = _; rw [if_pos (by omega)]
                 exact DONE _ _ _ _ htry2 (h3.nex (k := some (kM W1)) (by omega)) (((f2.mono (by decide) (by decide)).trans (f3.mono (by decide) (by decide))).wI (by decide) (by decide)))
              | (rw [if_neg (by omega)] at htry
                 have htry2 : tryK pr most n i s W1 = nexK (speK (triK W1 R.2.1)) n i none := by rw [htry]; show (if kM W1 < most then _ else _) = _; rw [if_neg (by omega)]
                 exact DONE _ _ _ _ htry2 (h2.spe.nex (k := none) (by omega)) (((f2.mono (by decide) (by decide)).put (by decide)).wI (by decide) (by decide)))
      have J122 : ∀ σ4 (x6 : Option Value), Fr 53 σ1 σ4 [58, 59] [9, 10, 11, 26, 34] → (σ4 53).1 26 = nI (kT W1 + 1) → (σ4 53).1 34 = amv R.2.1 → σ4 58 = σ1 58 → Vat σ4 59 0 R.2.2 → (∀ a, R.2.1 = some a → a < 2048) → Sw 77 mX11_from X (ZS 77 mX11_from (qv fun σ2 => WkM σ2 pr (visF pr most n W) (n + 1) ∧ Fr 53 σ σ2 [58, 59, 62, 63, 64, 65, 66, 67, 68, 69, 70, 71, 72, 74, 75, 76] [9, 10, 11, 16, 25, 26, 27, 31, 32, 34]) X) 122 [some (.ref 53), some (.int (nI n)), some (.int (nI most)), some (.int (nI l.length)), some (.int (nI i)), some (.int (nI R.1)), x6] [] σ4 := by
        intro σ4 x6 f14 u26 u34 u58 hV4 hrow
        have d58 := hW1.2.2.2.2.2.1
        obtain ⟨ro, hro⟩ : ∃ ro, R.2.1 = ro := ⟨_, rfl⟩
        cases ro with
        | none =>
          have u34' : (σ4 53).1 34 = -1 := by rw [u34, hro]; rfl
          refine s_aload_n hX dX11_from_122 rfl ?_
          refine s_getI (x := (-1)) hX dX11_from_123 fl_X11_150 rfl rfl (by omega) u34' ?_
          refine s_if_lt (tgt := 139) hX dX11_from_126 (by decide) (fun q126 => ?_) (fun q126 => ?_)
          · exact J139 σ4 x6 (hW1.tri f14 u26 (fun q hq => by rw [u58, hro]; exact d58 q hq)) hV4 f14
          · exact absurd (by decide) q126
        | some a =>
          have ha := hrow a hro
          have u34' : (σ4 53).1 34 = nI a := by rw [u34, hro]; rfl
          refine s_aload_n hX dX11_from_122 rfl ?_
          refine s_getI (x := nI (a)) hX dX11_from_123 fl_X11_150 rfl rfl (by omega) u34' ?_
          refine s_if_lt_n (tgt := 139) hX dX11_from_126 (by decide) (by omega) ?_
          refine s_aload_n hX dX11_from_129 rfl ?_
          refine s_getR hX dX11_from_130 fl_X11_26 rfl rfl (by omega) ?_
          refine s_aload_n hX dX11_from_133 rfl ?_
          refine s_getI (x := nI (a)) hX dX11_from_134 fl_X11_150 rfl rfl (by omega) u34' ?_
          refine s_iconst (v := nI 1) hX dX11_from_137 (by decide) ?_
          refine s_zast hX dX11_from_138 rfl (by omega) (by omega) (by decide) (by first | exact Or.inl rfl | exact Or.inr rfl) ?_
          refine J139 _ x6 (hW1.tri (f14.wI (by decide) (by decide)) (by rw [wI_a _ _ (by decide)]; exact u26) (fun q hq => ?_)) (hV4.kept (wI_a _ _ (by decide))) (f14.wI (by decide) (by decide))
          rw [hro]
          show _ = bI (va_up (kU W1) a true q)
          by_cases e : q = a
          · subst e; rw [wI_s, va_up_at]; rfl
          · rw [wI_k _ _ e, va_up_ne _ _ e, u58]; exact d58 q hq
      refine s_iload hX dX11_from_82 rfl ?_
      refine s_iload_n hX dX11_from_84 rfl ?_
      refine s_icmp_ge_n (tgt := 217) hX dX11_from_85 (by decide) (by omega) (by omega) (fun q85 => ?_) (fun q85 => ?_)
      · omega
      · refine s_aload_n hX dX11_from_88 rfl ?_
        refine s_getR hX dX11_from_89 fl_X11_52 rfl rfl (by omega) ?_
        refine s_bipush (v := nI 56) hX dX11_from_92 (by decide) ?_
        refine s_iload_n hX dX11_from_94 rfl ?_
        refine s_imul_n hX dX11_from_95 ?_
        refine s_aload_n hX dX11_from_96 rfl ?_
        refine s_getR hX dX11_from_97 fl_X11_30 rfl rfl (by omega) ?_
        refine s_iconst (v := nI 0) hX dX11_from_100 (by decide) ?_
        refine s_callSv (as := [_, _, _, _]) hX dX11_from_101 mk_X11_copy lk_X11_94 (c_X11_copy (f := 66) (t := 59) (lf := 224000) (lt := 56) (a := 56 * n) (b := 0) rfl rfl (by decide) (by decide) (by decide) (by omega) (by omega) (by decide) (by decide)) rfl ⟨rfl, rfl⟩ (Nat.le_of_ble_eq_true rfl) (Nat.le_of_ble_eq_true rfl) (Nat.le_of_ble_eq_true rfl) rfl (fun σ101 p101 => ?_)
        subst p101
        refine s_gen (fun σ2 e2 => ?_)
        have hV2 := g66.copy (t := 59) (b := 0)
        have hO2 : Off σ1 (wA σ1 59 (va_cpy (σ1 66).1 (σ1 59).1 (56 * n) 0 56)) [59] := Off.rf.wA (by decide)
        rw [← e2] at hV2 hO2
        clear e2
        have hp2 := hp1.off hO2 (by decide) (by decide) (by decide) (by decide) (by decide)
        have f2 : Fr 53 σ1 σ2 [58, 59] [9, 10, 11, 26, 34] := (Fr.of hO2 (by decide) : Fr 53 _ _ [59] []).mono (by decide) (by decide)
        have hS2 := hS.fr f2 (by decide) (by decide) (by decide) (by decide) (by decide)
        refine s_aload_n hX dX11_from_104 rfl ?_
        refine s_iload hX dX11_from_105 rfl ?_
        refine s_callVi (as := [_]) hX dX11_from_107 mk_X11_doStep lk_X11_166 (c_X11_doStep hp2 hk hV2 hvn hS2 hs (by omega) hso) rfl (by omega) rfl rfl rfl ⟨rfl, rfl⟩ (Nat.le_of_ble_eq_true rfl) (Nat.le_of_ble_eq_true rfl) (Nat.le_of_ble_eq_true rfl) rfl (fun v107 σ107 p107 => ?_)
        obtain ⟨rfl, f3, hV3, h34⟩ := p107
        rw [← hR] at hV3 h34 ⊢
        have f13 := f2.trans (f3.mono (by decide) (by decide))
        have t26 : (σ107 53).1 26 = nI (kT W1) := by rw [f3.2.1 26 (by decide), hO2 53 (by decide)]; exact hW1.1.2.1
        have t58 : σ107 58 = σ1 58 := by rw [f3.1 58 (by decide) (by decide), hO2 58 (by decide)]
        have hrow : ∀ a, R.2.1 = some a → a < 2048 := fun a ha => by
          rw [hR] at ha
          unfold doF at ha
          split at ha
          · cases ha
          · cases ha; exact plcF_lt hvn hso
        refine s_istore hX dX11_from_110 (Nat.le_of_ble_eq_true rfl) rfl st_7_5 ?_
        refine s_aload_n hX dX11_from_112 rfl ?_
        refine s_dup hX dX11_from_113 rfl ?_
        refine s_getI (x := nI (kT W1)) hX dX11_from_114 fl_X11_196 rfl rfl (by omega) t26 ?_
        refine s_iconst (v := nI 1) hX dX11_from_117 (by decide) ?_
        refine s_iadd_n hX dX11_from_118 ?_
        refine s_putI hX dX11_from_119 fl_X11_196 rfl rfl (by omega) rfl rfl ?_
        refine s_gen (fun σ4 e4 => ?_)
        have f14 : Fr 53 σ1 σ4 [58, 59] [9, 10, 11, 26, 34] := by rw [e4]; exact f13.put (by decide)
        have u26 : (σ4 53).1 26 = nI (kT W1 + 1) := by rw [e4, wI_s]
        have u34 : (σ4 53).1 34 = amv R.2.1 := by rw [e4, wI_k _ _ (by decide)]; exact h34
        have u58 : σ4 58 = σ1 58 := by rw [e4, wI_a _ _ (by decide)]; exact t58
        have hV4 : Vat σ4 59 0 R.2.2 := hV3.kept (by rw [e4]; exact wI_a _ _ (by decide))
        clear e4
        exact J122 σ4 _ f14 u26 u34 u58 hV4 hrow
  have I53 : ∀ d i, i + d = 20 → ∀ σ1 (x5 x6 : Option Value), Fr 53 σ σ1 [58, 59, 62, 63, 64, 65, 66, 67, 68, 69, 70, 71, 72, 74, 75, 76] [9, 10, 11, 16, 25, 26, 27, 31, 32, 34] → StM σ1 l → (∀ m j, m < n → j < 20 → (σ1 71).1 (20 * m + j) = amv (kN W m j)) → (∀ j, j < i → (σ1 71).1 (20 * n + j) = -1) → (∀ s2, (∀ a, a ≠ 71 → s2 a = σ1 a) → (∀ m j, m < n + 1 → j < 20 → (s2 71).1 (20 * m + j) = amv (kN W m j)) → WkM s2 pr W (n + 1)) → Sw 77 mX11_from X (ZS 77 mX11_from (qv fun σ2 => WkM σ2 pr (visF pr most n W) (n + 1) ∧ Fr 53 σ σ2 [58, 59, 62, 63, 64, 65, 66, 67, 68, 69, 70, 71, 72, 74, 75, 76] [9, 10, 11, 16, 25, 26, 27, 31, 32, 34]) X) 53 [some (.ref 53), some (.int (nI n)), some (.int (nI most)), some (.int (nI l.length)), some (.int (nI i)), x5, x6] [] σ1 := by
    intro d
    induction d with
    | zero =>
      intro i hd σ1 x5 x6 hf hS h71 h72 hw
      refine s_iload hX dX11_from_53 rfl ?_
      refine s_bipush (v := nI 20) hX dX11_from_55 (by decide) ?_
      refine s_icmp_ge_n (tgt := 79) hX dX11_from_57 (by decide) (by omega) (by omega) (fun q57 => ?_) (fun q57 => ?_)
      · refine s_iconst (v := nI 0) hX dX11_from_79 (by decide) ?_
        refine s_istore hX dX11_from_80 (Nat.le_of_ble_eq_true rfl) rfl st_7_4 ?_
        refine I82 l.length 0 (by omega) σ1 _ _ hf hS (hw σ1 (fun _ _ => rfl) (fun m j hm hj => ?_))
        by_cases e : m = n
        · subst e; rw [h72 j (by omega), hok.2.2.1 m j (Nat.le_refl m)]; rfl
        · exact h71 m j (by omega) hj
      · omega
    | succ d ih =>
      intro i hd σ1 x5 x6 hf hS h71 h72 hw
      refine s_iload hX dX11_from_53 rfl ?_
      refine s_bipush (v := nI 20) hX dX11_from_55 (by decide) ?_
      refine s_icmp_ge_n (tgt := 79) hX dX11_from_57 (by decide) (by omega) (by omega) (fun q57 => ?_) (fun q57 => ?_)
      · omega
      · refine s_aload_n hX dX11_from_60 rfl ?_
        refine s_getR hX dX11_from_61 fl_X11_69 rfl rfl (by omega) ?_
        refine s_bipush (v := nI 20) hX dX11_from_64 (by decide) ?_
        refine s_iload_n hX dX11_from_66 rfl ?_
        refine s_imul_n hX dX11_from_67 ?_
        refine s_iload hX dX11_from_68 rfl ?_
        refine s_iadd_n hX dX11_from_70 ?_
        refine s_iconst (v := -1) hX dX11_from_71 (by decide) ?_
        refine s_iast hX dX11_from_72 rfl (by omega) (by omega) (by decide) ?_
        refine s_iinc_n (c := 1) hX dX11_from_73 rfl (by decide) rfl st_7_4 ?_
        refine s_goto (tgt := 53) hX dX11_from_76 (by decide) ?_
        refine ih (i + 1) (by omega) _ _ _ (hf.wI (by decide) (by decide)) (hS.kept (by rw [wI_a _ _ (by decide)]) (wI_a _ _ (by decide)) (wI_a _ _ (by decide)) (wI_a _ _ (by decide)) (wI_a _ _ (by decide))) (fun m j hm hj => ?_) (fun j hj => ?_) (fun s2 h1 h2 => hw s2 (fun a ha => (h1 a ha).trans (wI_a _ _ ha)) h2)
        · rw [wI_k _ _ (by omega)]; exact h71 m j hm hj
        · by_cases e : j = i
          · subst e; rw [wI_s]
          · rw [wI_k _ _ (by omega)]; exact h72 j (by omega)
  have J45 : ∀ σ1 (x3 x4 x5 x6 : Option Value), Fr 53 σ σ1 [59, 62, 63, 64, 65] [16] → StM σ1 l → Sw 77 mX11_from X (ZS 77 mX11_from (qv fun σ2 => WkM σ2 pr (visF pr most n W) (n + 1) ∧ Fr 53 σ σ2 [58, 59, 62, 63, 64, 65, 66, 67, 68, 69, 70, 71, 72, 74, 75, 76] [9, 10, 11, 16, 25, 26, 27, 31, 32, 34]) X) 45 [some (.ref 53), some (.int (nI n)), some (.int (nI most)), x3, x4, x5, x6] [] (wI σ1 72 n (bI (skF pr (kV W n)))) := by
    intro σ1 x3 x4 x5 x6 hf hS
    have hW1 := hW.fr hf (by decide) (by decide)
    have hS1 : StM (wI σ1 72 n (bI (skF pr (kV W n)))) l := hS.kept (by rw [wI_a _ _ (by decide)]) (wI_a _ _ (by decide)) (wI_a _ _ (by decide)) (wI_a _ _ (by decide)) (wI_a _ _ (by decide))
    refine s_aload_n hX dX11_from_45 rfl ?_
    refine s_getI (x := nI (l.length)) hX dX11_from_46 fl_X11_109 rfl rfl (by omega) hS1.1 ?_
    refine s_istore_n hX dX11_from_49 (Nat.le_of_ble_eq_true rfl) rfl st_7_3 ?_
    refine s_iconst (v := nI 0) hX dX11_from_50 (by decide) ?_
    refine s_istore hX dX11_from_51 (Nat.le_of_ble_eq_true rfl) rfl st_7_4 ?_
    refine I53 20 0 (by omega) _ _ _ ((hf.mono (by decide) (by decide)).wI (by decide) (by decide)) hS1 (fun m j hm hj => ?_) (fun j hj => absurd hj (Nat.not_lt_zero j)) (fun s2 h1 h2 => ?_)
    · rw [wI_a _ _ (by decide)]; exact hW1.2.2.2.1 m j hm hj
    · obtain ⟨⟨a1, a2, a3, a4⟩, b, c, d, e, g, j⟩ := hW1
      have z : ∀ a, a ≠ 71 → a ≠ 72 → s2 a = σ1 a := fun a ha hb => (h1 a ha).trans (wI_a _ _ hb)
      refine ⟨⟨by rw [z 53 (by decide) (by decide)]; exact a1, by rw [z 53 (by decide) (by decide)]; exact a2, by rw [z 53 (by decide) (by decide)]; exact a3, by rw [z 53 (by decide) (by decide)]; exact a4⟩, fun m hm => ⟨(b m hm).1.kept (z 66 (by decide) (by decide)), by rw [z 67 (by decide) (by decide)]; exact (b m hm).2.1, by rw [z 70 (by decide) (by decide)]; exact (b m hm).2.2⟩, by rw [z 68 (by decide) (by decide), z 69 (by decide) (by decide)]; exact c, h2, fun m hm => ?_, by rw [z 58 (by decide) (by decide)]; exact g, ⟨by rw [z 53 (by decide) (by decide)]; exact j.1, by rw [z 74 (by decide) (by decide), z 75 (by decide) (by decide), z 76 (by decide) (by decide)]; exact j.2⟩⟩
      rw [h1 72 (by decide)]
      by_cases e2 : m = n
      · subst e2; rw [wI_s]
      · rw [wI_k _ _ e2]; exact e m (by omega)
  have g66 := (hW.2.1 n hn).1
  refine s_aload_n hX dX11_from_0 rfl ?_
  refine s_getR hX dX11_from_1 fl_X11_52 rfl rfl (by omega) ?_
  refine s_bipush (v := nI 56) hX dX11_from_4 (by decide) ?_
  refine s_iload_n hX dX11_from_6 rfl ?_
  refine s_imul_n hX dX11_from_7 ?_
  refine s_aload_n hX dX11_from_8 rfl ?_
  refine s_getR hX dX11_from_9 fl_X11_30 rfl rfl (by omega) ?_
  refine s_iconst (v := nI 0) hX dX11_from_12 (by decide) ?_
  refine s_callSv (as := [_, _, _, _]) hX dX11_from_13 mk_X11_copy lk_X11_94 (c_X11_copy (f := 66) (t := 59) (lf := 224000) (lt := 56) (a := 56 * n) (b := 0) rfl rfl (by decide) (by decide) (by decide) (by omega) (by omega) (by decide) (by decide)) rfl ⟨rfl, rfl⟩ (Nat.le_of_ble_eq_true rfl) (Nat.le_of_ble_eq_true rfl) (Nat.le_of_ble_eq_true rfl) rfl (fun σ13 p13 => ?_)
  subst p13
  refine s_gen (fun σ2 e2 => ?_)
  have hV2 := g66.copy (t := 59) (b := 0)
  have hO2 : Off σ (wA σ 59 (va_cpy (σ 66).1 (σ 59).1 (56 * n) 0 56)) [59] := Off.rf.wA (by decide)
  rw [← e2] at hV2 hO2
  clear e2
  have hp2 := hp.off hO2 (by decide) (by decide) (by decide) (by decide) (by decide)
  refine s_aload_n hX dX11_from_16 rfl ?_
  refine s_callVv (as := []) hX dX11_from_17 mk_X11_findSteps lk_X11_160 (c_X11_findSteps hp2 hk hV2 hvn) rfl (by omega) rfl rfl rfl ⟨rfl, rfl⟩ (Nat.le_of_ble_eq_true rfl) (Nat.le_of_ble_eq_true rfl) (Nat.le_of_ble_eq_true rfl) rfl (fun σ17 p17 => ?_)
  obtain ⟨hS3, f3⟩ := p17
  rw [← hl] at hS3
  have hf3 : Fr 53 σ σ17 [59, 62, 63, 64, 65] [16] := ((Fr.of hO2 (by decide) : Fr 53 _ _ [59] []).mono (by decide) (by decide)).trans (f3.mono (by decide) (by decide))
  have hp3 := FrP hp2 f3
  have hV3 := FrN hV2 f3
  refine s_aload_n hX dX11_from_20 rfl ?_
  refine s_getR hX dX11_from_21 fl_X11_72 rfl rfl (by omega) ?_
  refine s_iload_n hX dX11_from_24 rfl ?_
  refine s_aload_n hX dX11_from_25 rfl ?_
  refine s_getI (x := nI (l.length)) hX dX11_from_26 fl_X11_109 rfl rfl (by omega) hS3.1 ?_
  refine s_if_ne_n (tgt := 43) hX dX11_from_29 (by decide) (by omega) (fun q29 => ?_) (fun q29 => ?_)
  · refine s_iconst (v := nI 0) hX dX11_from_43 (by decide) ?_
    refine s_zast hX dX11_from_44 rfl (by omega) (by omega) (by decide) (by first | exact Or.inl rfl | exact Or.inr rfl) ?_
    first
      | (have hsk : skF pr (kV W n) = false := by unfold skF; rw [← hl, decide_eq_false q29]; rfl
         have hx := J45 _ none none none none hf3 hS3
         rw [hsk] at hx
         exact hx)
      | (have hsk : skF pr (kV W n) = true := by unfold skF; rw [← hl, decide_eq_true q29, bI_0.mp (Decidable.of_not_not q36)]; rfl
         have hx := J45 _ none none none none hf3 hS3
         rw [hsk] at hx
         exact hx)
      | (have hsk : skF pr (kV W n) = false := by
           unfold skF
           cases hh : quF pr (kV W n) with
           | true => exact Bool.and_false _
           | false => exact absurd (bI_0.mpr hh) q36
         have hx := J45 _ none none none none hf3 hS3
         rw [hsk] at hx
         exact hx)
  · refine s_aload_n hX dX11_from_32 rfl ?_
    refine s_callVi (as := []) hX dX11_from_33 mk_X11_isQuiet lk_X11_173 (c_X11_isQuiet hp3 hk hV3 hvn) rfl (by omega) rfl rfl rfl ⟨rfl, rfl⟩ (Nat.le_of_ble_eq_true rfl) (Nat.le_of_ble_eq_true rfl) (Nat.le_of_ble_eq_true rfl) rfl (fun v33 σ33 p33 => ?_)
    obtain ⟨rfl, e33⟩ := p33
    subst e33
    refine s_if_ne (tgt := 43) hX dX11_from_36 (by decide) (fun q36 => ?_) (fun q36 => ?_)
    · refine s_iconst (v := nI 0) hX dX11_from_43 (by decide) ?_
      refine s_zast hX dX11_from_44 rfl (by omega) (by omega) (by decide) (by first | exact Or.inl rfl | exact Or.inr rfl) ?_
      first
        | (have hsk : skF pr (kV W n) = false := by unfold skF; rw [← hl, decide_eq_false q29]; rfl
           have hx := J45 _ none none none none hf3 hS3
           rw [hsk] at hx
           exact hx)
        | (have hsk : skF pr (kV W n) = true := by unfold skF; rw [← hl, decide_eq_true q29, bI_0.mp (Decidable.of_not_not q36)]; rfl
           have hx := J45 _ none none none none hf3 hS3
           rw [hsk] at hx
           exact hx)
        | (have hsk : skF pr (kV W n) = false := by
             unfold skF
             cases hh : quF pr (kV W n) with
             | true => exact Bool.and_false _
             | false => exact absurd (bI_0.mpr hh) q36
           have hx := J45 _ none none none none hf3 hS3
           rw [hsk] at hx
           exact hx)
    · refine s_iconst (v := nI 1) hX dX11_from_39 (by decide) ?_
      refine s_goto (tgt := 44) hX dX11_from_40 (by decide) ?_
      refine s_zast hX dX11_from_44 rfl (by omega) (by omega) (by decide) (by first | exact Or.inl rfl | exact Or.inr rfl) ?_
      first
        | (have hsk : skF pr (kV W n) = false := by unfold skF; rw [← hl, decide_eq_false q29]; rfl
           have hx := J45 _ none none none none hf3 hS3
           rw [hsk] at hx
           exact hx)
        | (have hsk : skF pr (kV W n) = true := by unfold skF; rw [← hl, decide_eq_true q29, bI_0.mp (Decidable.of_not_not q36)]; rfl
           have hx := J45 _ none none none none hf3 hS3
           rw [hsk] at hx
           exact hx)
        | (have hsk : skF pr (kV W n) = false := by
             unfold skF
             cases hh : quF pr (kV W n) with
             | true => exact Bool.and_false _
             | false => exact absurd (bI_0.mpr hh) q36
           have hx := J45 _ none none none none hf3 hS3
           rw [hsk] at hx
           exact hx)
