/-! what the class makes of an effect is what the reference makes of it -/
set_option maxHeartbeats 4000000 in
theorem eaE_eq (P : Pst) (k a b c : Int32) : eaE P k a b c = a_R_effect P k a b c := by
  unfold eaE wfC a_R_effect
  by_cases h0 : a_R_in k 0 25 = 0
  · simp [h0]
  by_cases n0 : a_R_needs k ≤ 0 <;> by_cases n1 : a_R_needs k ≤ 1 <;> by_cases n2 : a_R_needs k ≤ 2 <;> by_cases ia : a_R_isEffect P a = 0 <;> by_cases ib : a_R_isEffect P b = 0 <;> by_cases ic : a_R_isEffect P c = 0 <;> by_cases hp : a_R_in k 19 24 = 0 <;> by_cases hq : a_R_in a 0 3 = 0 <;> simp [h0, n0, n1, n2, ia, ib, ic, hp, hq]
set_option maxHeartbeats 4000000 in
theorem epE_eq (P : Pst) (k a b c : Int32) : epE P k a b c = p_R_effect P k a b c := by
  unfold epE wfC p_R_effect efP
  by_cases h0 : a_R_in k 0 25 = 0
  · simp [h0]
  by_cases n0 : a_R_needs k ≤ 0 <;> by_cases n1 : a_R_needs k ≤ 1 <;> by_cases n2 : a_R_needs k ≤ 2 <;> by_cases ia : a_R_isEffect P a = 0 <;> by_cases ib : a_R_isEffect P b = 0 <;> by_cases ic : a_R_isEffect P c = 0 <;> by_cases hp : a_R_in k 19 24 = 0 <;> by_cases hq : a_R_in a 0 3 = 0 <;> simp [h0, n0, n1, n2, ia, ib, ic, hp, hq]
theorem moP_asc (P : Pst) (i : Nat) : ∀ d, moP P i d = if asc P i d = 0 then P 10 i else P 31 (16 * i + (asc P i d - 1))
  | 0 => rfl
  | d + 1 => by
    show (if P 23 (16 * i + d) = 8 then P 31 (16 * i + d) else moP P i d) = if (if P 23 (16 * i + d) = 8 then d + 1 else asc P i d) = 0 then P 10 i else P 31 (16 * i + ((if P 23 (16 * i + d) = 8 then d + 1 else asc P i d) - 1))
    by_cases h : P 23 (16 * i + d) = 8
    · rw [if_pos h, if_pos h, if_neg (Nat.succ_ne_zero d), Nat.add_sub_cancel]
    · rw [if_neg h, if_neg h]
      exact moP_asc P i d
/-! a frame begun as the reference begins it -/
theorem asc_neg {P : Pst} (hw : WB P) (i : Nat) : nI (asc P i (tn (P 22 i))) - 1 < 0 ↔ asc P i (tn (P 22 i)) = 0 := by
  have hle := asc_le P i (tn (P 22 i))
  have h16 : tn (P 22 i) ≤ 16 := (hw 22 i).2
  constructor
  · intro h
    rcases Nat.eq_zero_or_pos (asc P i (tn (P 22 i))) with q | q
    · exact q
    · rw [show nI (asc P i (tn (P 22 i))) - 1 = nI (asc P i (tn (P 22 i)) - 1) from ix_sub (y := 1) rfl (b := 1) rfl q] at h
      exact absurd h (nI_pos (by omega))
  · intro h
    rw [h]; decide
theorem wc_nI (P : Pst) (w m : Int32) : ∀ j, wc P w m j = nI ((List.range j).filter (fun x => decide (P 5 x = 1 ∧ P 15 x = w ∧ P 16 x = m))).length
  | 0 => rfl
  | j + 1 => by
    rw [List.range_succ, List.filter_append, List.length_append]
    show (if P 5 j = 1 then (if P 15 j = w then (if P 16 j = m then wc P w m j + 1 else wc P w m j) else wc P w m j) else wc P w m j) = _
    rw [wc_nI P w m j]
    by_cases h : P 5 j = 1 ∧ P 15 j = w ∧ P 16 j = m
    · rw [if_pos h.1, if_pos h.2.1, if_pos h.2.2, List.filter_cons_of_pos (by simpa using h), nI_1]
      rfl
    · rw [List.filter_cons_of_neg (by simpa using h)]
      by_cases a : P 5 j = 1
      · rw [if_pos a]
        by_cases b : P 15 j = w
        · rw [if_pos b, if_neg (fun c => h ⟨a, b, c⟩)]; rfl
        · rw [if_neg b]; rfl
      · rw [if_neg a]; rfl
