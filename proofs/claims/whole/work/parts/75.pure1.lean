/-! what the class makes of an effect is what the reference makes of it -/
set_option maxHeartbeats 4000000 in
theorem eaE_eq (P : Pst) (k a b c : Int32) : eaE P k a b c = a_R_effect P k a b c := by
  unfold eaE wfC a_R_effect
  by_cases h0 : a_R_in k 0 25 = 0
  · simp [h0]
  by_cases n0 : a_R_needs k ≤ 0 <;> by_cases n1 : a_R_needs k ≤ 1 <;> by_cases n2 : a_R_needs k ≤ 2 <;> by_cases ia : a_R_isEffect P a = 0 <;> by_cases ib : a_R_isEffect P b = 0 <;> by_cases ic : a_R_isEffect P c = 0 <;> by_cases hp : a_R_in k 19 24 = 0 <;> by_cases hq : a_R_in a 0 3 = 0 <;> simp [h0, n0, n1, n2, ia, ib, ic, hp, hq]
set_option maxHeartbeats 4000000 in
theorem epE_eq (P : Pst) (k a b c : Int32) : epE P k a b c = p_R_effect P k a b c := by
  unfold epE wfC p_R_effect efP
  by_cases h0 : a_R_in k 0 25 = 0
  · simp [h0]
  by_cases n0 : a_R_needs k ≤ 0 <;> by_cases n1 : a_R_needs k ≤ 1 <;> by_cases n2 : a_R_needs k ≤ 2 <;> by_cases ia : a_R_isEffect P a = 0 <;> by_cases ib : a_R_isEffect P b = 0 <;> by_cases ic : a_R_isEffect P c = 0 <;> by_cases hp : a_R_in k 19 24 = 0 <;> by_cases hq : a_R_in a 0 3 = 0 <;> simp [h0, n0, n1, n2, ia, ib, ic, hp, hq]
theorem moP_asc (P : Pst) (i : Nat) : ∀ d, moP P i d = if asc P i d = 0 then P 10 i else P 31 (16 * i + (asc P i d - 1))
  | 0 => rfl
  | d + 1 => by
    show (if P 23 (16 * i + d) = 8 then P 31 (16 * i + d) else moP P i d) = if (if P 23 (16 * i + d) = 8 then d + 1 else asc P i d) = 0 then P 10 i else P 31 (16 * i + ((if P 23 (16 * i + d) = 8 then d + 1 else asc P i d) - 1))
    by_cases h : P 23 (16 * i + d) = 8
    · rw [if_pos h, if_pos h, if_neg (Nat.succ_ne_zero d), Nat.add_sub_cancel]
    · rw [if_neg h, if_neg h]
      exact moP_asc P i d
/-! a frame begun as the reference begins it -/
theorem asc_neg {P : Pst} (hw : WB P) (i : Nat) : nI (asc P i (tn (P 22 i))) - 1 < 0 ↔ asc P i (tn (P 22 i)) = 0 := by
  have hle := asc_le P i (tn (P 22 i))
  have h16 : tn (P 22 i) ≤ 16 := (hw 22 i).2
  constructor
  · intro h
    rcases Nat.eq_zero_or_pos (asc P i (tn (P 22 i))) with q | q
    · exact q
    · rw [show nI (asc P i (tn (P 22 i))) - 1 = nI (asc P i (tn (P 22 i)) - 1) from ix_sub (y := 1) rfl (b := 1) rfl q] at h
      exact absurd h (nI_pos (by omega))
  · intro h
    rw [h]; decide
