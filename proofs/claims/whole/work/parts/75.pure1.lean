/-! what the class makes of an effect is what the reference makes of it -/
set_option maxHeartbeats 4000000 in
theorem eaE_eq (P : Pst) (k a b c : Int32) : eaE P k a b c = a_R_effect P k a b c := by
  unfold eaE wfC a_R_effect
  by_cases h0 : a_R_in k 0 25 = 0
  · simp [h0]
  by_cases n0 : a_R_needs k ≤ 0 <;> by_cases n1 : a_R_needs k ≤ 1 <;> by_cases n2 : a_R_needs k ≤ 2 <;> by_cases ia : a_R_isEffect P a = 0 <;> by_cases ib : a_R_isEffect P b = 0 <;> by_cases ic : a_R_isEffect P c = 0 <;> by_cases hp : a_R_in k 19 24 = 0 <;> by_cases hq : a_R_in a 0 3 = 0 <;> simp [h0, n0, n1, n2, ia, ib, ic, hp, hq]
set_option maxHeartbeats 4000000 in
theorem epE_eq (P : Pst) (k a b c : Int32) : epE P k a b c = p_R_effect P k a b c := by
  unfold epE wfC p_R_effect efP
  by_cases h0 : a_R_in k 0 25 = 0
  · simp [h0]
  by_cases n0 : a_R_needs k ≤ 0 <;> by_cases n1 : a_R_needs k ≤ 1 <;> by_cases n2 : a_R_needs k ≤ 2 <;> by_cases ia : a_R_isEffect P a = 0 <;> by_cases ib : a_R_isEffect P b = 0 <;> by_cases ic : a_R_isEffect P c = 0 <;> by_cases hp : a_R_in k 19 24 = 0 <;> by_cases hq : a_R_in a 0 3 = 0 <;> simp [h0, n0, n1, n2, ia, ib, ic, hp, hq]
theorem moP_asc (P : Pst) (i : Nat) : ∀ d, moP P i d = if asc P i d = 0 then P 10 i else P 31 (16 * i + (asc P i d - 1))
  | 0 => rfl
  | d + 1 => by
    show (if P 23 (16 * i + d) = 8 then P 31 (16 * i + d) else moP P i d) = if (if P 23 (16 * i + d) = 8 then d + 1 else asc P i d) = 0 then P 10 i else P 31 (16 * i + ((if P 23 (16 * i + d) = 8 then d + 1 else asc P i d) - 1))
    by_cases h : P 23 (16 * i + d) = 8
    · rw [if_pos h, if_pos h, if_neg (Nat.succ_ne_zero d), Nat.add_sub_cancel]
    · rw [if_neg h, if_neg h]
      exact moP_asc P i d
/-! a frame begun as the reference begins it -/
theorem asc_neg {P : Pst} (hw : WB P) (i : Nat) : nI (asc P i (tn (P 22 i))) - 1 < 0 ↔ asc P i (tn (P 22 i)) = 0 := by
  have hle := asc_le P i (tn (P 22 i))
  have h16 : tn (P 22 i) ≤ 16 := (hw 22 i).2
  constructor
  · intro h
    rcases Nat.eq_zero_or_pos (asc P i (tn (P 22 i))) with q | q
    · exact q
    · rw [show nI (asc P i (tn (P 22 i))) - 1 = nI (asc P i (tn (P 22 i)) - 1) from ix_sub (y := 1) rfl (b := 1) rfl q] at h
      exact absurd h (nI_pos (by omega))
  · intro h
    rw [h]; decide
theorem wc_nI (P : Pst) (w m : Int32) : ∀ j, wc P w m j = nI ((List.range j).filter (fun x => decide (P 5 x = 1 ∧ P 15 x = w ∧ P 16 x = m))).length
  | 0 => rfl
  | j + 1 => by
    rw [List.range_succ, List.filter_append, List.length_append]
    show (if P 5 j = 1 then (if P 15 j = w then (if P 16 j = m then wc P w m j + 1 else wc P w m j) else wc P w m j) else wc P w m j) = _
    rw [wc_nI P w m j]
    by_cases h : P 5 j = 1 ∧ P 15 j = w ∧ P 16 j = m
    · rw [if_pos h.1, if_pos h.2.1, if_pos h.2.2, List.filter_cons_of_pos (by simpa using h), nI_1]
      rfl
    · rw [List.filter_cons_of_neg (by simpa using h)]
      by_cases a : P 5 j = 1
      · rw [if_pos a]
        by_cases b : P 15 j = w
        · rw [if_pos b, if_neg (fun c => h ⟨a, b, c⟩)]; rfl
        · rw [if_neg b]; rfl
      · rw [if_neg a]; rfl
/-- what bs answers: none waits, or the one that came first -/
theorem bs_sp (P : Pst) (w m : Int32) : ∀ j, j ≤ 10 → (bs P w m j < 0 ∧ ∀ x, x < j → ¬ (P 5 x = 1 ∧ P 15 x = w ∧ P 16 x = m)) ∨ (∃ y, y < j ∧ bs P w m j = nI y ∧ (P 5 y = 1 ∧ P 15 y = w ∧ P 16 y = m) ∧ ∀ x, x < j → P 5 x = 1 ∧ P 15 x = w ∧ P 16 x = m → P 18 y ≤ P 18 x)
  | 0, _ => Or.inl ⟨show (-1 : Int32) < 0 by decide, fun x hx => absurd hx (Nat.not_lt_zero _)⟩
  | j + 1, hj => by
    have ih := bs_sp P w m j (by omega)
    have e : bs P w m (j + 1) = if P 5 j = 1 then (if P 15 j = w then (if P 16 j = m then (if bs P w m j < 0 then nI j else if P 18 (tn (bs P w m j)) ≤ P 18 j then bs P w m j else nI j) else bs P w m j) else bs P w m j) else bs P w m j := rfl
    by_cases h : P 5 j = 1 ∧ P 15 j = w ∧ P 16 j = m
    · rw [if_pos h.1, if_pos h.2.1, if_pos h.2.2] at e
      rcases ih with ⟨i1, i2⟩ | ⟨y, y1, y2, y3, y4⟩
      · rw [if_pos i1] at e
        refine Or.inr ⟨j, Nat.lt_succ_self _, e, h, fun x hx hc => ?_⟩
        by_cases q : x = j
        · rw [q]; exact Int32.le_refl _
        · exact absurd hc (i2 x (by omega))
      · have ty : tn (bs P w m j) = y := by rw [y2, tn_nI (by omega)]
        rw [if_neg (by rw [y2]; exact nI_pos (by omega)), ty] at e
        by_cases hle : P 18 y ≤ P 18 j
        · rw [if_pos hle] at e
          refine Or.inr ⟨y, by omega, e.trans y2, y3, fun x hx hc => ?_⟩
          by_cases q : x = j
          · rw [q]; exact hle
          · exact y4 x (by omega) hc
        · rw [if_neg hle] at e
          refine Or.inr ⟨j, Nat.lt_succ_self _, e, h, fun x hx hc => ?_⟩
          by_cases q : x = j
          · rw [q]; exact Int32.le_refl _
          · exact Int32.le_trans (Int32.le_of_lt (Int32.not_le.mp hle)) (y4 x (by omega) hc)
    · have e2 : bs P w m (j + 1) = bs P w m j := by
        rw [e]
        by_cases a : P 5 j = 1
        · rw [if_pos a]
          by_cases b : P 15 j = w
          · rw [if_pos b, if_neg (fun c => h ⟨a, b, c⟩)]
          · rw [if_neg b]
        · rw [if_neg a]
      rcases ih with ⟨i1, i2⟩ | ⟨y, y1, y2, y3, y4⟩
      · refine Or.inl ⟨by rw [e2]; exact i1, fun x hx => ?_⟩
        by_cases q : x = j
        · rw [q]; exact h
        · exact i2 x (by omega)
      · refine Or.inr ⟨y, by omega, e2.trans y2, y3, fun x hx hc => ?_⟩
        by_cases q : x = j
        · rw [q] at hc; exact absurd hc h
        · exact y4 x (by omega) hc
