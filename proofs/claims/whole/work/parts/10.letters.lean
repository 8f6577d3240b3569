/-! ===== letters: numbers that hold six parts ===== -/
theorem am (a k : Nat) : a &&& (2 ^ k - 1) = a % 2 ^ k := Nat.and_two_pow_sub_one_eq_mod a k
theorem tb_low (k : Nat) (a b : Nat) (h : a < 2 ^ k) : b * 2 ^ k ||| a = b * 2 ^ k + a := by
  rw [Nat.mul_comm]; exact (Nat.two_pow_add_eq_or_of_lt h b).symm
set_option maxRecDepth 100000 in
set_option maxHeartbeats 4000000 in
theorem c_X4_kindOf {n : Nat} {σ : Sg} (c : Nat) (hc : c < 2 ^ 31) : Sm n mX4_kindOf [.int (nI c)] σ (qi fun r σ2 => r = nI (c / 8 % 16) ∧ σ2 = σ) := by
  refine Sm.of mk_X4_kindOf (Nat.le_of_ble_eq_true rfl) rfl (fun X hX => ?_)
  refine s_iload_n hX dX4_kindOf_0 rfl ?_
  refine s_iconst (v := nI 3) hX dX4_kindOf_1 (by decide) ?_
  refine s_ishr_n hX dX4_kindOf_2 (by decide) (by omega) ?_
  refine s_bipush (v := nI 15) hX dX4_kindOf_3 (by decide) ?_
  refine s_iand_n hX dX4_kindOf_5 ?_
  refine s_iret hX dX4_kindOf_6 rfl rfl ?_
  exact ⟨by rw [show (15 : Nat) = 2 ^ 4 - 1 from rfl, am], rfl⟩

set_option maxRecDepth 100000 in
set_option maxHeartbeats 4000000 in
theorem c_X4_fromOf {n : Nat} {σ : Sg} (c : Nat) (hc : c < 2 ^ 31) : Sm n mX4_fromOf [.int (nI c)] σ (qi fun r σ2 => r = nI (c / 2048 % 8) ∧ σ2 = σ) := by
  refine Sm.of mk_X4_fromOf (Nat.le_of_ble_eq_true rfl) rfl (fun X hX => ?_)
  refine s_iload_n hX dX4_fromOf_0 rfl ?_
  refine s_bipush (v := nI 11) hX dX4_fromOf_1 (by decide) ?_
  refine s_ishr_n hX dX4_fromOf_3 (by decide) (by omega) ?_
  refine s_bipush (v := nI 7) hX dX4_fromOf_4 (by decide) ?_
  refine s_iand_n hX dX4_fromOf_6 ?_
  refine s_iret hX dX4_fromOf_7 rfl rfl ?_
  exact ⟨by rw [show (7 : Nat) = 2 ^ 3 - 1 from rfl, am], rfl⟩

set_option maxRecDepth 100000 in
set_option maxHeartbeats 4000000 in
theorem c_X4_toOf {n : Nat} {σ : Sg} (c : Nat) (hc : c < 2 ^ 31) : Sm n mX4_toOf [.int (nI c)] σ (qi fun r σ2 => r = nI (c / 256 % 8) ∧ σ2 = σ) := by
  refine Sm.of mk_X4_toOf (Nat.le_of_ble_eq_true rfl) rfl (fun X hX => ?_)
  refine s_iload_n hX dX4_toOf_0 rfl ?_
  refine s_bipush (v := nI 8) hX dX4_toOf_1 (by decide) ?_
  refine s_ishr_n hX dX4_toOf_3 (by decide) (by omega) ?_
  refine s_bipush (v := nI 7) hX dX4_toOf_4 (by decide) ?_
  refine s_iand_n hX dX4_toOf_6 ?_
  refine s_iret hX dX4_toOf_7 rfl rfl ?_
  exact ⟨by rw [show (7 : Nat) = 2 ^ 3 - 1 from rfl, am], rfl⟩

set_option maxRecDepth 100000 in
set_option maxHeartbeats 4000000 in
theorem c_X4_forOf {n : Nat} {σ : Sg} (c : Nat) (hc : c < 2 ^ 31) : Sm n mX4_forOf [.int (nI c)] σ (qi fun r σ2 => r = nI (c / 2 % 4) ∧ σ2 = σ) := by
  refine Sm.of mk_X4_forOf (Nat.le_of_ble_eq_true rfl) rfl (fun X hX => ?_)
  refine s_iload_n hX dX4_forOf_0 rfl ?_
  refine s_iconst (v := nI 1) hX dX4_forOf_1 (by decide) ?_
  refine s_ishr_n hX dX4_forOf_2 (by decide) (by omega) ?_
  refine s_iconst (v := nI 3) hX dX4_forOf_3 (by decide) ?_
  refine s_iand_n hX dX4_forOf_4 ?_
  refine s_iret hX dX4_forOf_5 rfl rfl ?_
  exact ⟨by rw [show (3 : Nat) = 2 ^ 2 - 1 from rfl, am], rfl⟩

set_option maxRecDepth 100000 in
set_option maxHeartbeats 4000000 in
theorem c_X4_freshOf {n : Nat} {σ : Sg} (c : Nat) (hc : c < 2 ^ 31) : Sm n mX4_freshOf [.int (nI c)] σ (qi fun r σ2 => r = nI (c % 2) ∧ σ2 = σ) := by
  refine Sm.of mk_X4_freshOf (Nat.le_of_ble_eq_true rfl) rfl (fun X hX => ?_)
  refine s_iload_n hX dX4_freshOf_0 rfl ?_
  refine s_iconst (v := nI 1) hX dX4_freshOf_1 (by decide) ?_
  refine s_iand_n hX dX4_freshOf_2 ?_
  refine s_iret hX dX4_freshOf_3 rfl rfl ?_
  exact ⟨by rw [show (1 : Nat) = 2 ^ 1 - 1 from rfl, am], rfl⟩

