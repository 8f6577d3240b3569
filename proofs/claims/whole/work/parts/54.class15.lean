/-! ===== which states lead to quiet ones: chains of paths ===== -/
def hdI : List Nat → Int32
  | [] => -1
  | p :: _ => nI p
def Chn (g : Nat → Int32) : List Nat → Prop
  | [] => True
  | p :: r => g p = hdI r ∧ Chn g r
theorem Chn.upd {g : Nat → Int32} {p : Nat} {x : Int32} : ∀ {l : List Nat}, Chn g l → p ∉ l → Chn (upd g p x) l
  | [], _, _ => trivial
  | q :: r, h, hp => ⟨by rw [pk_un (fun e => hp (by rw [e]; exact List.mem_cons_self))]; exact h.1, Chn.upd h.2 (fun e => hp (List.mem_cons_of_mem _ e))⟩
def BkC (σ : Sg) (M T : Nat) (N : Nat → Nat → Option Nat) : Prop := ∃ E : Nat → List Nat, ∀ to, to < M → (σ 45).1 to = hdI (E to) ∧ Chn (σ 46).1 (E to) ∧ (E to).length ≤ T ∧ ∀ p, p ∈ E to ↔ (p < 80000 ∧ N (p / 20) (p % 20) = some to)
theorem BkC.kept {σ σ2 : Sg} {M T : Nat} {N : Nat → Nat → Option Nat} (h : BkC σ M T N) (e1 : σ2 45 = σ 45) (e2 : σ2 46 = σ 46) : BkC σ2 M T N := by
  unfold BkC
  rw [e1, e2]
  exact h
theorem BkC.mono {σ : Sg} {M T T2 : Nat} {N : Nat → Nat → Option Nat} (h : BkC σ M T N) (hT : T ≤ T2) : BkC σ M T2 N := by
  obtain ⟨E, h⟩ := h
  exact ⟨E, fun to ht => ⟨(h to ht).1, (h to ht).2.1, Nat.le_trans (h to ht).2.2.1 hT, (h to ht).2.2.2⟩⟩
theorem BkC.cong {σ : Sg} {M T : Nat} {N N2 : Nat → Nat → Option Nat} (h : BkC σ M T N) (e : ∀ a b, N2 a b = N a b) : BkC σ M T N2 := by
  have : N2 = N := funext (fun a => funext (fun b => e a b))
  rw [this]; exact h
def LeR (σ : Sg) (M : Nat) (L : Nat → Bool) (R : List Nat) : Prop := (∀ m, m < M → (σ 47).1 m = bI (L m)) ∧ NlC σ 48 R ∧ R.length = ctR L M ∧ ∀ m, m ∈ R ↔ m < M ∧ L m = true
theorem LeR.kept {σ σ2 : Sg} {M : Nat} {L : Nat → Bool} {R : List Nat} (h : LeR σ M L R) (e1 : σ2 47 = σ 47) (e2 : σ2 48 = σ 48) (e3 : σ2 49 = σ 49) : LeR σ2 M L R := ⟨by rw [e1]; exact h.1, h.2.1.kept e2 e3, h.2.2⟩
theorem ctR_cong {p q : Nat → Bool} : ∀ n, (∀ m, m < n → p m = q m) → ctR p n = ctR q n
  | 0, _ => rfl
  | n + 1, h => by unfold ctR; rw [ctR_cong n (fun m hm => h m (by omega)), h n (by omega)]
theorem ctR_set {L : Nat → Bool} {m : Nat} (hm : L m = false) : ∀ n, m < n → ctR (va_up L m true) n = ctR L n + 1
  | 0, h => absurd h (Nat.not_lt_zero m)
  | n + 1, h => by
    unfold ctR
    by_cases e : m = n
    · subst e
      rw [va_up_at, hm, ctR_cong (q := L) m (fun q hq => va_up_ne _ _ (by omega))]
      rfl
    · rw [ctR_set hm n (by omega), va_up_ne _ _ (Ne.symm e)]
      omega
theorem ctR_lt {L : Nat → Bool} {m : Nat} (hm : L m = false) {n : Nat} (h : m < n) : ctR L n < n := by
  have := ctR_set hm n h
  have := ctR_le (va_up L m true) n
  omega
theorem LeR.cong {σ : Sg} {M : Nat} {L L2 : Nat → Bool} {R : List Nat} (h : LeR σ M L R) (e : ∀ m, m < M → L2 m = L m) : LeR σ M L2 R := ⟨fun m hm => by rw [e m hm]; exact h.1 m hm, h.2.1, by rw [ctR_cong M e]; exact h.2.2.1, fun m => by
  rw [h.2.2.2 m]
  constructor
  · intro ⟨a, b⟩; exact ⟨a, by rw [e m a]; exact b⟩
  · intro ⟨a, b⟩; exact ⟨a, by rw [← e m a]; exact b⟩⟩
set_option maxRecDepth 100000 in
set_option maxHeartbeats 4000000 in
theorem c_X2_clear {n : Nat} {σ : Sg} (hn : 53 ≤ n) : Sm n mX2_clear [.ref 44] σ (qv fun σ2 => NlC σ2 48 [] ∧ Off σ σ2 [48]) := by
  refine Sm.of mk_X2_clear (Nat.le_of_ble_eq_true rfl) rfl (fun X hX => ?_)
  refine s_aload_n hX dX2_clear_0 rfl ?_
  refine s_getR hX dX2_clear_1 fl_X2_26 rfl rfl (by omega) ?_
  refine s_callVv (as := []) hX dX2_clear_4 mk_X5_clear lk_X2_30 (c_X5_clear (show IsNl 48 n from ⟨rfl, rfl, by omega⟩)) rfl (by omega) rfl rfl rfl ⟨rfl, rfl⟩ (Nat.le_of_ble_eq_true rfl) (Nat.le_of_ble_eq_true rfl) (Nat.le_of_ble_eq_true rfl) rfl (fun σ4 p4 => ?_)
  refine s_vret hX dX2_clear_7 rfl rfl ?_
  exact p4
set_option maxRecDepth 100000 in
set_option maxHeartbeats 4000000 in
theorem c_X2_addState {n : Nat} {σ : Sg} (hn : 53 ≤ n) {M T : Nat} {Nx : Nat → Nat → Option Nat} {L : Nat → Bool} {R : List Nat} (hM : M < 4000) (hB : BkC σ M T Nx) (hN : ∀ a b, Nx a b ≠ some M) (hL : LeR σ M L R) (hLM : L M = false) : Sm n mX2_addState [.ref 44, .int (nI M)] σ (qv fun σ2 => BkC σ2 (M + 1) T Nx ∧ LeR σ2 (M + 1) L R ∧ Off σ σ2 [45, 47]) := by
  refine Sm.of mk_X2_addState (Nat.le_of_ble_eq_true rfl) rfl (fun X hX => ?_)
  refine s_aload_n hX dX2_addState_0 rfl ?_
  refine s_getR hX dX2_addState_1 fl_X2_9 rfl rfl (by omega) ?_
  refine s_iload_n hX dX2_addState_4 rfl ?_
  refine s_iconst (v := -1) hX dX2_addState_5 (by decide) ?_
  refine s_iast hX dX2_addState_6 rfl (by omega) (by omega) (by decide) ?_
  refine s_aload_n hX dX2_addState_7 rfl ?_
  refine s_getR hX dX2_addState_8 fl_X2_19 rfl rfl (by omega) ?_
  refine s_iload_n hX dX2_addState_11 rfl ?_
  refine s_iconst (v := nI 0) hX dX2_addState_12 (by decide) ?_
  refine s_zast hX dX2_addState_13 rfl (by omega) (by omega) (by decide) (by first | exact Or.inl rfl | exact Or.inr rfl) ?_
  refine s_vret hX dX2_addState_14 rfl rfl ?_
  obtain ⟨E, hE⟩ := hB
  refine ⟨⟨fun to => if to = M then [] else E to, fun to ht => ?_⟩, ⟨fun m hm => ?_, ?_, ?_, fun m => ?_⟩, (Off.rf.wI (by simp)).wI (by simp)⟩
  · by_cases e : to = M
    · subst e
      dsimp only
      rw [if_pos rfl, wI_a _ _ (by decide), wI_s]
      refine ⟨rfl, trivial, Nat.zero_le _, fun p => ⟨fun q => (by cases q), fun q => absurd q.2 (hN _ _)⟩⟩
    · dsimp only
      rw [if_neg e, wI_a _ _ (by decide), wI_k _ _ e, wI_a _ _ (by decide), wI_a _ _ (by decide)]
      exact hE to (by omega)
  · by_cases e : m = M
    · subst e
      rw [wI_s, hLM]; rfl
    · rw [wI_k _ _ e, wI_a _ _ (by decide)]
      exact hL.1 m (by omega)
  · exact hL.2.1.kept (by rw [wI_a _ _ (by decide), wI_a _ _ (by decide)]) (by rw [wI_a _ _ (by decide), wI_a _ _ (by decide)])
  · rw [hL.2.2.1]
    show _ = ctR L M + (L M).toNat
    rw [hLM]; rfl
  · rw [hL.2.2.2 m]
    constructor
    · intro ⟨a, b⟩; exact ⟨by omega, b⟩
    · intro ⟨a, b⟩
      by_cases e : m = M
      · subst e; rw [hLM] at b; cases b
      · exact ⟨by omega, b⟩
set_option maxRecDepth 100000 in
set_option maxHeartbeats 4000000 in
theorem c_X2_addPath {n : Nat} {σ : Sg} (hn : 53 ≤ n) {M T : Nat} {Nx : Nat → Nat → Option Nat} (a i to : Nat) (hM : M ≤ 4000) (hB : BkC σ M T Nx) (ha : a < 4000) (hi : i < 20) (hto : to < M) (hN : Nx a i = none) : Sm n mX2_addPath [.ref 44, .int (nI (a * 20 + i)), .int (nI to)] σ (qv fun σ2 => BkC σ2 M (T + 1) (nxt Nx a i (some to)) ∧ Off σ σ2 [45, 46]) := by
  refine Sm.of mk_X2_addPath (Nat.le_of_ble_eq_true rfl) rfl (fun X hX => ?_)
  obtain ⟨E, hE⟩ := hB
  have hno : ∀ t, t < M → a * 20 + i ∉ E t := fun t ht q => by
    have := ((hE t ht).2.2.2 _).mp q
    rw [show (a * 20 + i) / 20 = a by omega, show (a * 20 + i) % 20 = i by omega, hN] at this
    cases this.2
  refine s_aload_n hX dX2_addPath_0 rfl ?_
  refine s_getR hX dX2_addPath_1 fl_X2_16 rfl rfl (by omega) ?_
  refine s_iload_n hX dX2_addPath_4 rfl ?_
  refine s_aload_n hX dX2_addPath_5 rfl ?_
  refine s_getR hX dX2_addPath_6 fl_X2_9 rfl rfl (by omega) ?_
  refine s_iload_n hX dX2_addPath_9 rfl ?_
  refine s_iald (x := (hdI (E to))) hX dX2_addPath_10 rfl (by omega) (by omega) (by decide) (hE to hto).1 ?_
  refine s_iast hX dX2_addPath_11 rfl (by omega) (by omega) (by decide) ?_
  refine s_aload_n hX dX2_addPath_12 rfl ?_
  refine s_getR hX dX2_addPath_13 fl_X2_9 rfl rfl (by omega) ?_
  refine s_iload_n hX dX2_addPath_16 rfl ?_
  refine s_iload_n hX dX2_addPath_17 rfl ?_
  refine s_iast hX dX2_addPath_18 rfl (by omega) (by omega) (by decide) ?_
  refine s_vret hX dX2_addPath_19 rfl rfl ?_
  refine ⟨⟨fun t => if t = to then (a * 20 + i) :: E to else E t, fun t ht => ?_⟩, (Off.rf.wI (by simp)).wI (by simp)⟩
  obtain ⟨h1, h2, h3, h4⟩ := hE t ht
  have hnx : ∀ p, p ≠ a * 20 + i → nxt Nx a i (some to) (p / 20) (p % 20) = Nx (p / 20) (p % 20) := fun p hp => by unfold nxt; rw [if_neg (by omega)]
  have hnx2 : nxt Nx a i (some to) ((a * 20 + i) / 20) ((a * 20 + i) % 20) = some to := by unfold nxt; rw [if_pos (by omega)]
  by_cases e : t = to
  · subst e
    dsimp only
    rw [if_pos rfl, wI_s, wI_a _ _ (by decide)]
    refine ⟨rfl, ⟨?_, ?_⟩, by rw [List.length_cons]; omega, fun p => ?_⟩
    · rw [wI_s]
    · rw [wI_f]; exact h2.upd (hno t ht)
    · rw [List.mem_cons]
      by_cases e2 : p = a * 20 + i
      · subst e2
        rw [hnx2]
        exact ⟨fun _ => ⟨by omega, rfl⟩, fun _ => Or.inl rfl⟩
      · rw [hnx p e2, ← h4 p]
        exact ⟨fun q => q.resolve_left e2, fun q => Or.inr q⟩
  · dsimp only
    rw [if_neg e, wI_k _ _ e, wI_a _ _ (by decide), wI_a _ _ (by decide), wI_f]
    refine ⟨h1, h2.upd (hno t ht), by omega, fun p => ?_⟩
    by_cases e2 : p = a * 20 + i
    · subst e2
      rw [hnx2]
      exact ⟨fun q => absurd q (hno t ht), fun q => absurd (Option.some.inj q.2).symm e⟩
    · rw [hnx p e2]; exact h4 p
set_option maxRecDepth 100000 in
set_option maxHeartbeats 4000000 in
theorem c_X2_markLeading {n : Nat} {σ : Sg} (hn : 53 ≤ n) {M : Nat} {L : Nat → Bool} {R : List Nat} (hM : M ≤ 4000) (hL : LeR σ M L R) (m : Nat) (hm : m < M) : Sm n mX2_markLeading [.ref 44, .int (nI m)] σ (qv fun σ2 => LeR σ2 M (va_up L m true) (if L m = true then R else R ++ [m]) ∧ Off σ σ2 [47, 48, 49]) := by
  refine Sm.of mk_X2_markLeading (Nat.le_of_ble_eq_true rfl) rfl (fun X hX => ?_)
  have hup : ∀ q, q ≠ m → va_up L m true q = L q := fun q e => va_up_ne _ _ e
  obtain ⟨b, hb⟩ : ∃ b, L m = b := ⟨_, rfl⟩
  have h47 := hL.1 m hm
  rw [hb] at h47
  have h01 : b.toNat ≤ 1 := Bool.toNat_le b
  refine s_aload_n hX dX2_markLeading_0 rfl ?_
  refine s_getR hX dX2_markLeading_1 fl_X2_19 rfl rfl (by omega) ?_
  refine s_iload_n hX dX2_markLeading_4 rfl ?_
  refine s_zald (x := nI (b.toNat)) hX dX2_markLeading_5 rfl (by omega) (by omega) (by decide) h47 ?_
  refine s_if_ne_n (tgt := 24) hX dX2_markLeading_6 (by decide) (by omega) (fun q6 => ?_) (fun q6 => ?_)
  · refine s_vret hX dX2_markLeading_24 rfl rfl ?_
    first
      | (have hb1 : L m = true := by rw [hb]; exact tn1 q6
         rw [if_pos hb1]
         refine ⟨hL.cong (fun q _ => ?_), Off.rf⟩
         by_cases e : q = m
         · rw [e, va_up_at, hb1]
         · exact hup q e)
      | (rw [if_neg (by rw [hb0]; decide)]
         refine ⟨⟨fun q hq => ?_, p21.1, ?_, fun q => ?_⟩, (Off.rf.wI (by simp)).trans (p21.2.mono (by simp))⟩
         · rw [p21.2 47 (by simp)]
           by_cases e : q = m
           · rw [e, wI_s, va_up_at]; rfl
           · rw [wI_k _ _ e, hup q e]; exact hL.1 q hq
         · rw [List.length_append, List.length_singleton, hL.2.2.1, ctR_set hb0 M hm]
         · rw [List.mem_append, List.mem_singleton, hL.2.2.2 q]
           by_cases e : q = m
           · rw [e, va_up_at]
             exact ⟨fun _ => ⟨hm, rfl⟩, fun _ => Or.inr rfl⟩
           · rw [hup q e]
             exact ⟨fun z => z.resolve_right e, fun z => Or.inl z⟩)
  · have hb0 : L m = false := by rw [hb]; exact tn0 q6
    have hlt := ctR_lt hb0 hm
    refine s_aload_n hX dX2_markLeading_9 rfl ?_
    refine s_getR hX dX2_markLeading_10 fl_X2_19 rfl rfl (by omega) ?_
    refine s_iload_n hX dX2_markLeading_13 rfl ?_
    refine s_iconst (v := nI 1) hX dX2_markLeading_14 (by decide) ?_
    refine s_zast hX dX2_markLeading_15 rfl (by omega) (by omega) (by decide) (by first | exact Or.inl rfl | exact Or.inr rfl) ?_
    refine s_aload_n hX dX2_markLeading_16 rfl ?_
    refine s_getR hX dX2_markLeading_17 fl_X2_26 rfl rfl (by omega) ?_
    refine s_iload_n hX dX2_markLeading_20 rfl ?_
    refine s_callVv (as := [_]) hX dX2_markLeading_21 mk_X5_add lk_X2_33 (c_X5_add (show IsNl 48 n from ⟨rfl, rfl, by omega⟩) (hL.2.1.kept (wI_a _ _ (by decide)) (wI_a _ _ (by decide))) (by rw [hL.2.2.1]; omega) m) rfl (by omega) rfl rfl rfl ⟨rfl, rfl⟩ (Nat.le_of_ble_eq_true rfl) (Nat.le_of_ble_eq_true rfl) (Nat.le_of_ble_eq_true rfl) rfl (fun σ21 p21 => ?_)
    refine s_vret hX dX2_markLeading_24 rfl rfl ?_
    first
      | (have hb1 : L m = true := by rw [hb]; exact tn1 q6
         rw [if_pos hb1]
         refine ⟨hL.cong (fun q _ => ?_), Off.rf⟩
         by_cases e : q = m
         · rw [e, va_up_at, hb1]
         · exact hup q e)
      | (rw [if_neg (by rw [hb0]; decide)]
         refine ⟨⟨fun q hq => ?_, p21.1, ?_, fun q => ?_⟩, (Off.rf.wI (by simp)).trans (p21.2.mono (by simp))⟩
         · rw [p21.2 47 (by simp)]
           by_cases e : q = m
           · rw [e, wI_s, va_up_at]; rfl
           · rw [wI_k _ _ e, hup q e]; exact hL.1 q hq
         · rw [List.length_append, List.length_singleton, hL.2.2.1, ctR_set hb0 M hm]
         · rw [List.mem_append, List.mem_singleton, hL.2.2.2 q]
           by_cases e : q = m
           · rw [e, va_up_at]
             exact ⟨fun _ => ⟨hm, rfl⟩, fun _ => Or.inr rfl⟩
           · rw [hup q e]
             exact ⟨fun z => z.resolve_right e, fun z => Or.inl z⟩)
set_option maxRecDepth 100000 in
set_option maxHeartbeats 4000000 in
theorem c_X2_isLeading {n : Nat} {σ : Sg} (hn : 53 ≤ n) {M : Nat} {L : Nat → Bool} {R : List Nat} (hM : M ≤ 4000) (hL : LeR σ M L R) (m : Nat) (hm : m < M) : Sm n mX2_isLeading [.ref 44, .int (nI m)] σ (qi fun r σ2 => r = bI (L m) ∧ σ2 = σ) := by
  refine Sm.of mk_X2_isLeading (Nat.le_of_ble_eq_true rfl) rfl (fun X hX => ?_)
  refine s_aload_n hX dX2_isLeading_0 rfl ?_
  refine s_getR hX dX2_isLeading_1 fl_X2_19 rfl rfl (by omega) ?_
  refine s_iload_n hX dX2_isLeading_4 rfl ?_
  refine s_zald (x := (bI (L m))) hX dX2_isLeading_5 rfl (by omega) (by omega) (by decide) (hL.1 m hm) ?_
  refine s_zret hX dX2_isLeading_6 rfl (bI_01 _) rfl ?_
  exact ⟨rfl, rfl⟩
/-- L2 holds L, and nothing but what leads to it -/
def SpP (M : Nat) (Nx : Nat → Nat → Option Nat) (L L2 : Nat → Bool) : Prop := (∀ m, m < M → L m = true → L2 m = true) ∧ ∀ S : Nat → Prop, (∀ m, m < M → L m = true → S m) → (∀ a i to, Nx a i = some to → S to → S a) → ∀ m, m < M → L2 m = true → S m
theorem SpP.rf (M : Nat) (Nx : Nat → Nat → Option Nat) (L : Nat → Bool) : SpP M Nx L L := ⟨fun _ _ h => h, fun S h0 _ m hm h => h0 m hm h⟩
theorem SpP.mark {M : Nat} {Nx : Nat → Nat → Option Nat} {L L2 : Nat → Bool} {a i to : Nat} (h : SpP M Nx L L2) (hN : Nx a i = some to) (hto : to < M) (ht : L2 to = true) : SpP M Nx L (va_up L2 a true) := by
  constructor
  · intro m hm hl
    by_cases e : m = a
    · rw [e, va_up_at]
    · rw [va_up_ne _ _ e]; exact h.1 m hm hl
  · intro S h0 h1 m hm hl
    by_cases e : m = a
    · rw [e]; exact h1 a i to hN (h.2 S h0 h1 to hto ht)
    · rw [va_up_ne _ _ e] at hl; exact h.2 S h0 h1 m hm hl
set_option maxRecDepth 100000 in
set_option maxHeartbeats 4000000 in
theorem c_X2_spread {n : Nat} {σ : Sg} (hn : 53 ≤ n) {M T : Nat} {Nx : Nat → Nat → Option Nat} {L : Nat → Bool} {R : List Nat} (hM : M ≤ 4000) (hT : T ≤ 80000) (hB : BkC σ M T Nx) (hL : LeR σ M L R) (hN : ∀ a i to, Nx a i = some to → a < M) : Sm n mX2_spread [.ref 44] σ (qv fun σ2 => ∃ L2 R2, LeR σ2 M L2 R2 ∧ SpP M Nx L L2 ∧ (∀ to, to < M → L2 to = true → ∀ a i, i < 20 → Nx a i = some to → L2 a = true) ∧ Off σ σ2 [47, 48, 49]) := by
  refine Sm.of mk_X2_spread (Nat.le_of_ble_eq_true rfl) rfl (fun X hX => ?_)
  obtain ⟨E, hE⟩ := hB
  have LP : ∀ (d k : Nat) (σ1 : Sg) (L1 : Nat → Bool) (R1 : List Nat) (y2 y3 : Int32) (b2 b3 : Bool), k + d = 4000 → LeR σ1 M L1 R1 → SpP M Nx L L1 → (∀ j to, j < k → R1[j]? = some to → ∀ a i, i < 20 → Nx a i = some to → L1 a = true) → Off σ σ1 [47, 48, 49] → Sw n mX2_spread X (ZS n mX2_spread (qv fun σ2 => ∃ L2 R2, LeR σ2 M L2 R2 ∧ SpP M Nx L L2 ∧ (∀ to, to < M → L2 to = true → ∀ a i, i < 20 → Nx a i = some to → L2 a = true) ∧ Off σ σ2 [47, 48, 49]) X) 2 [some (.ref 44), some (.int (nI k)), bif b2 then some (.int y2) else none, bif b3 then some (.int y3) else none] [] σ1 := by
    intro d
    induction d with
    | zero =>
      intro k σ1 L1 R1 y2 y3 b2 b3 hd h1 h2 h3 h4
      have hle := ctR_le L1 M
      have hlen := h1.2.2.1
      refine s_iload_n hX dX2_spread_2 rfl ?_
      refine s_sipush (v := nI 4000) hX dX2_spread_3 (by decide) ?_
      refine s_icmp_ge_n (tgt := 74) hX dX2_spread_6 (by decide) (by omega) (by omega) (fun q6 => ?_) (fun q6 => ?_)
      · refine s_vret hX dX2_spread_74 rfl rfl ?_
        refine ⟨L1, R1, h1, h2, fun to ht hl a i hi hq => ?_, h4⟩
        obtain ⟨j, hj⟩ := List.mem_iff_getElem?.mp ((h1.2.2.2 to).mpr ⟨ht, hl⟩)
        have := (List.getElem?_eq_some_iff.mp hj).1
        exact h3 j to (by omega) hj a i hi hq
      · omega
    | succ d ih =>
      intro k σ1 L1 R1 y2 y3 b2 b3 hd h1 h2 h3 h4
      have hle := ctR_le L1 M
      have hlen := h1.2.2.1
      have IN : ∀ (to : Nat), to < M → ∀ (rest : List Nat) (σ3 : Sg) (L3 : Nat → Bool) (R3 : List Nat) (g : Nat) (done : List Nat), E to = done ++ rest → g = done.length → LeR σ3 M L3 R3 → SpP M Nx L L3 → R3[k]? = some to → (∀ j t, j < k → R3[j]? = some t → ∀ a i, i < 20 → Nx a i = some t → L3 a = true) → (∀ p, p ∈ done → L3 (p / 20) = true) → Off σ σ3 [47, 48, 49] → Sw n mX2_spread X (ZS n mX2_spread (qv fun σ2 => ∃ L2 R2, LeR σ2 M L2 R2 ∧ SpP M Nx L L2 ∧ (∀ to, to < M → L2 to = true → ∀ a i, i < 20 → Nx a i = some to → L2 a = true) ∧ Off σ σ2 [47, 48, 49]) X) 36 [some (.ref 44), some (.int (nI k)), some (.int (hdI rest)), some (.int (nI g))] [] σ3 := by
        intro to hto rest
        have FIN : ∀ (σ3 : Sg) (L3 : Nat → Bool) (R3 : List Nat) (z z2 : Int32), LeR σ3 M L3 R3 → SpP M Nx L L3 → R3[k]? = some to → (∀ j t, j < k → R3[j]? = some t → ∀ a i, i < 20 → Nx a i = some t → L3 a = true) → (∀ p, p ∈ E to → L3 (p / 20) = true) → Off σ σ3 [47, 48, 49] → Sw n mX2_spread X (ZS n mX2_spread (qv fun σ2 => ∃ L2 R2, LeR σ2 M L2 R2 ∧ SpP M Nx L L2 ∧ (∀ to, to < M → L2 to = true → ∀ a i, i < 20 → Nx a i = some to → L2 a = true) ∧ Off σ σ2 [47, 48, 49]) X) 68 [some (.ref 44), some (.int (nI k)), some (.int z), some (.int z2)] [] σ3 := by
          intro σ3 L3 R3 z z2 g1 g2 g3 g4 g5 g6
          refine s_iinc_n (c := 1) hX dX2_spread_68 rfl (by decide) rfl st_4_1 ?_
          refine s_goto (tgt := 2) hX dX2_spread_71 (by decide) ?_
          refine ih (k + 1) _ L3 R3 z z2 true true (by omega) g1 g2 (fun j t hj hq a i hi hx => ?_) g6
          by_cases e : j < k
          · exact g4 j t e hq a i hi hx
          · have : j = k := by omega
            subst this
            rw [g3] at hq
            cases hq
            have ha := hN a i to hx
            have := g5 (a * 20 + i) (((hE to hto).2.2.2 _).mpr ⟨by omega, by rw [show (a * 20 + i) / 20 = a by omega, show (a * 20 + i) % 20 = i by omega]; exact hx⟩)
            rw [show (a * 20 + i) / 20 = a by omega] at this
            exact this
        induction rest with
        | nil =>
          intro σ3 L3 R3 g done e1 e2 g1 g2 g3 g4 g5 g6
          have hlg := (hE to hto).2.2.1
          rw [e1, List.length_append] at hlg
          have g5' : ∀ p, p ∈ E to → L3 (p / 20) = true := fun p hp => g5 p (by rw [e1, List.append_nil] at hp; exact hp)
          show Sw n mX2_spread X (ZS n mX2_spread (qv fun σ2 => ∃ L2 R2, LeR σ2 M L2 R2 ∧ SpP M Nx L L2 ∧ (∀ to, to < M → L2 to = true → ∀ a i, i < 20 → Nx a i = some to → L2 a = true) ∧ Off σ σ2 [47, 48, 49]) X) 36 [some (.ref 44), some (.int (nI k)), some (.int (-1)), some (.int (nI g))] [] σ3
          refine s_iload_n hX dX2_spread_36 rfl ?_
          refine s_ldc (v := nI 80000) hX dX2_spread_37 (tb_at 233 (by decide +kernel) rfl) ?_
          refine s_icmp_ge_n (tgt := 68) hX dX2_spread_39 (by decide) (by omega) (by omega) (fun q39 => ?_) (fun q39 => ?_)
          · exact FIN _ L3 R3 _ _ g1 g2 g3 g4 g5' g6
          · refine s_iload_n hX dX2_spread_42 rfl ?_
            refine s_iconst (v := -1) hX dX2_spread_43 (by decide) ?_
            refine s_icmp_eq (tgt := 68) hX dX2_spread_44 (by decide) (fun q44 => ?_) (fun q44 => ?_)
            · exact FIN _ L3 R3 _ _ g1 g2 g3 g4 g5' g6
            · exact absurd rfl q44
        | cons p rest ih2 =>
          intro σ3 L3 R3 g done e1 e2 g1 g2 g3 g4 g5 g6
          have hlg := (hE to hto).2.2.1
          rw [e1, List.length_append, List.length_cons] at hlg
          have hp := ((hE to hto).2.2.2 p).mp (by rw [e1]; exact List.mem_append_right _ List.mem_cons_self)
          have hpa := hN _ _ _ hp.2
          have hch : (σ 46).1 p = hdI rest := by
            have := (hE to hto).2.1
            rw [e1] at this
            have sk : ∀ l, Chn (σ 46).1 (l ++ p :: rest) → (σ 46).1 p = hdI rest := fun l => by
              induction l with
              | nil => intro q; exact q.1
              | cons a l ihl => intro q; exact ihl q.2
            exact sk _ this
          have hlt : L3 to = true := ((g1.2.2.2 to).mp (List.mem_of_getElem? g3)).2
          show Sw n mX2_spread X (ZS n mX2_spread (qv fun σ2 => ∃ L2 R2, LeR σ2 M L2 R2 ∧ SpP M Nx L L2 ∧ (∀ to, to < M → L2 to = true → ∀ a i, i < 20 → Nx a i = some to → L2 a = true) ∧ Off σ σ2 [47, 48, 49]) X) 36 [some (.ref 44), some (.int (nI k)), some (.int (nI p)), some (.int (nI g))] [] σ3
          refine s_iload_n hX dX2_spread_36 rfl ?_
          refine s_ldc (v := nI 80000) hX dX2_spread_37 (tb_at 233 (by decide +kernel) rfl) ?_
          refine s_icmp_ge_n (tgt := 68) hX dX2_spread_39 (by decide) (by omega) (by omega) (fun q39 => ?_) (fun q39 => ?_)
          · omega
          · refine s_iload_n hX dX2_spread_42 rfl ?_
            refine s_iconst (v := -1) hX dX2_spread_43 (by decide) ?_
            refine s_icmp_eq (tgt := 68) hX dX2_spread_44 (by decide) (fun q44 => ?_) (fun q44 => ?_)
            · exact absurd q44 (nI_nm1 (by omega))
            · refine s_aload_n hX dX2_spread_47 rfl ?_
              refine s_iload_n hX dX2_spread_48 rfl ?_
              refine s_bipush (v := nI 20) hX dX2_spread_49 (by decide) ?_
              refine s_idiv_n hX dX2_spread_51 (by omega) (by decide) (by decide) ?_
              refine s_callVv (as := [_]) hX dX2_spread_52 mk_X2_markLeading lk_X2_45 (c_X2_markLeading hn hM g1 (p / 20) hpa) rfl (by omega) rfl rfl rfl ⟨rfl, rfl⟩ (Nat.le_of_ble_eq_true rfl) (Nat.le_of_ble_eq_true rfl) (Nat.le_of_ble_eq_true rfl) rfl (fun σ52 p52 => ?_)
              obtain ⟨p52a, p52b⟩ := p52
              refine s_aload_n hX dX2_spread_55 rfl ?_
              refine s_getR hX dX2_spread_56 fl_X2_16 rfl rfl (by omega) ?_
              refine s_iload_n hX dX2_spread_59 rfl ?_
              refine s_iald (x := (hdI rest)) hX dX2_spread_60 rfl (by omega) (by omega) (by decide) (by rw [p52b 46 (by simp), g6 46 (by simp)]; exact hch) ?_
              refine s_istore_n hX dX2_spread_61 (Nat.le_of_ble_eq_true rfl) rfl st_4_2 ?_
              refine s_iinc_n (c := 1) hX dX2_spread_62 rfl (by decide) rfl st_4_3 ?_
              refine s_goto (tgt := 36) hX dX2_spread_65 (by decide) ?_
              have keep : ∀ j t, R3[j]? = some t → (if L3 (p / 20) = true then R3 else R3 ++ [p / 20])[j]? = some t := fun j t hj => by
                split
                · exact hj
                · rw [List.getElem?_append_left (List.getElem?_eq_some_iff.mp hj).1]; exact hj
              have k3 := (List.getElem?_eq_some_iff.mp g3).1
              have keep2 : ∀ j t, j < k → (if L3 (p / 20) = true then R3 else R3 ++ [p / 20])[j]? = some t → R3[j]? = some t := fun j t hj hq => by
                split at hq
                · exact hq
                · rw [List.getElem?_append_left (by omega)] at hq; exact hq
              have up : ∀ q, L3 q = true → va_up L3 (p / 20) true q = true := fun q hq => by
                by_cases e : q = p / 20
                · rw [e, va_up_at]
                · rw [va_up_ne _ _ e]; exact hq
              refine ih2 _ _ _ (g + 1) (done ++ [p]) (by rw [e1, List.append_assoc]; rfl) (by rw [List.length_append, List.length_singleton, e2]) p52a (g2.mark hp.2 hto hlt) (keep k to g3) (fun j t hj hq a i hi hx => up _ (g4 j t hj (keep2 j t hj hq) a i hi hx)) (fun q hq => ?_) (g6.trans p52b)
              rcases List.mem_append.mp hq with hq | hq
              · exact up _ (g5 q hq)
              · have := List.mem_singleton.mp hq
                subst this
                rw [va_up_at]
      refine s_iload_n hX dX2_spread_2 rfl ?_
      refine s_sipush (v := nI 4000) hX dX2_spread_3 (by decide) ?_
      refine s_icmp_ge_n (tgt := 74) hX dX2_spread_6 (by decide) (by omega) (by omega) (fun q6 => ?_) (fun q6 => ?_)
      · omega
      · refine s_iload_n hX dX2_spread_9 rfl ?_
        refine s_aload_n hX dX2_spread_10 rfl ?_
        refine s_getR hX dX2_spread_11 fl_X2_26 rfl rfl (by omega) ?_
        refine s_callVi (as := []) hX dX2_spread_14 mk_X5_count lk_X2_37 (c_X5_count (show IsNl 48 n from ⟨rfl, rfl, by omega⟩) h1.2.1) rfl (by omega) rfl rfl rfl ⟨rfl, rfl⟩ (Nat.le_of_ble_eq_true rfl) (Nat.le_of_ble_eq_true rfl) (Nat.le_of_ble_eq_true rfl) rfl (fun v14 σ14 p14 => ?_)
        obtain ⟨rfl, ep⟩ := p14
        replace ep := ep.symm
        subst ep
        refine s_icmp_ge_n (tgt := 74) hX dX2_spread_17 (by decide) (by omega) (by omega) (fun q17 => ?_) (fun q17 => ?_)
        · refine s_vret hX dX2_spread_74 rfl rfl ?_
          refine ⟨L1, R1, h1, h2, fun to ht hl a i hi hq => ?_, h4⟩
          obtain ⟨j, hj⟩ := List.mem_iff_getElem?.mp ((h1.2.2.2 to).mpr ⟨ht, hl⟩)
          have := (List.getElem?_eq_some_iff.mp hj).1
          exact h3 j to (by omega) hj a i hi hq
        · obtain ⟨to, hto⟩ : ∃ x, R1[k]? = some x := ⟨_, List.getElem?_eq_getElem q17⟩
          have htM := ((h1.2.2.2 to).mp (List.mem_of_getElem? hto)).1
          refine s_aload_n hX dX2_spread_20 rfl ?_
          refine s_getR hX dX2_spread_21 fl_X2_9 rfl rfl (by omega) ?_
          refine s_aload_n hX dX2_spread_24 rfl ?_
          refine s_getR hX dX2_spread_25 fl_X2_26 rfl rfl (by omega) ?_
          refine s_iload_n hX dX2_spread_28 rfl ?_
          refine s_callVi (as := [_]) hX dX2_spread_29 mk_X5_at lk_X2_41 (c_X5_at (show IsNl 48 n from ⟨rfl, rfl, by omega⟩) h1.2.1 (by omega) _) rfl (by omega) rfl rfl rfl ⟨rfl, rfl⟩ (Nat.le_of_ble_eq_true rfl) (Nat.le_of_ble_eq_true rfl) (Nat.le_of_ble_eq_true rfl) rfl (fun v29 σ29 p29 => ?_)
          obtain ⟨rfl, ep⟩ := p29
          replace ep := ep.symm
          subst ep
          rw [show nlA R1 (nI k) = nI to by unfold nlA; rw [if_neg (cmp_no (by omega) q17 rfl), nI_clamp (by omega), hto]; rfl]
          refine s_iald (x := (hdI (E to))) hX dX2_spread_32 rfl (by omega) (by omega) (by decide) (by rw [h4 45 (by simp)]; exact (hE to htM).1) ?_
          refine s_istore_n hX dX2_spread_33 (Nat.le_of_ble_eq_true rfl) rfl (by first | exact st_4_2 | (cases b2 <;> exact st_4_2)) ?_
          refine s_iconst (v := nI 0) hX dX2_spread_34 (by decide) ?_
          refine s_istore_n hX dX2_spread_35 (Nat.le_of_ble_eq_true rfl) rfl st_4_3 ?_
          exact IN to htM (E to) σ1 L1 R1 0 [] rfl rfl h1 h2 hto h3 (fun p hp => by cases hp) h4
  refine s_iconst (v := nI 0) hX dX2_spread_0 (by decide) ?_
  refine s_istore_n hX dX2_spread_1 (Nat.le_of_ble_eq_true rfl) rfl st_4_1 ?_
  exact LP 4000 0 σ L R 0 0 false false (by omega) hL (SpP.rf _ _ _) (fun j t hj => absurd hj (Nat.not_lt_zero j)) Off.rf
