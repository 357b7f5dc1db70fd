/-! beginning an effect: the class's way is the reference's -/
theorem kd26 {x : Int32} (h : ∃ k, k ≤ 25 ∧ x = nI k) : x = 0 ∨ x = 1 ∨ x = 2 ∨ x = 3 ∨ x = 4 ∨ x = 5 ∨ x = 6 ∨ x = 7 ∨ x = 8 ∨ x = 9 ∨ x = 10 ∨ x = 11 ∨ x = 12 ∨ x = 13 ∨ x = 14 ∨ x = 15 ∨ x = 16 ∨ x = 17 ∨ x = 18 ∨ x = 19 ∨ x = 20 ∨ x = 21 ∨ x = 22 ∨ x = 23 ∨ x = 24 ∨ x = 25 := by
  obtain ⟨k, hk, e⟩ := h
  have : k = 0 ∨ k = 1 ∨ k = 2 ∨ k = 3 ∨ k = 4 ∨ k = 5 ∨ k = 6 ∨ k = 7 ∨ k = 8 ∨ k = 9 ∨ k = 10 ∨ k = 11 ∨ k = 12 ∨ k = 13 ∨ k = 14 ∨ k = 15 ∨ k = 16 ∨ k = 17 ∨ k = 18 ∨ k = 19 ∨ k = 20 ∨ k = 21 ∨ k = 22 ∨ k = 23 ∨ k = 24 ∨ k = 25 := by omega
  rcases this with q | q | q | q | q | q | q | q | q | q | q | q | q | q | q | q | q | q | q | q | q | q | q | q | q | q
  · exact Or.inl (e.trans (by rw [q]; rfl))
  · exact Or.inr (Or.inl (e.trans (by rw [q]; rfl)))
  · exact Or.inr (Or.inr (Or.inl (e.trans (by rw [q]; rfl))))
  · exact Or.inr (Or.inr (Or.inr (Or.inl (e.trans (by rw [q]; rfl)))))
  · exact Or.inr (Or.inr (Or.inr (Or.inr (Or.inl (e.trans (by rw [q]; rfl))))))
  · exact Or.inr (Or.inr (Or.inr (Or.inr (Or.inr (Or.inl (e.trans (by rw [q]; rfl)))))))
  · exact Or.inr (Or.inr (Or.inr (Or.inr (Or.inr (Or.inr (Or.inl (e.trans (by rw [q]; rfl))))))))
  · exact Or.inr (Or.inr (Or.inr (Or.inr (Or.inr (Or.inr (Or.inr (Or.inl (e.trans (by rw [q]; rfl)))))))))
  · exact Or.inr (Or.inr (Or.inr (Or.inr (Or.inr (Or.inr (Or.inr (Or.inr (Or.inl (e.trans (by rw [q]; rfl))))))))))
  · exact Or.inr (Or.inr (Or.inr (Or.inr (Or.inr (Or.inr (Or.inr (Or.inr (Or.inr (Or.inl (e.trans (by rw [q]; rfl)))))))))))
  · exact Or.inr (Or.inr (Or.inr (Or.inr (Or.inr (Or.inr (Or.inr (Or.inr (Or.inr (Or.inr (Or.inl (e.trans (by rw [q]; rfl))))))))))))
  · exact Or.inr (Or.inr (Or.inr (Or.inr (Or.inr (Or.inr (Or.inr (Or.inr (Or.inr (Or.inr (Or.inr (Or.inl (e.trans (by rw [q]; rfl)))))))))))))
  · exact Or.inr (Or.inr (Or.inr (Or.inr (Or.inr (Or.inr (Or.inr (Or.inr (Or.inr (Or.inr (Or.inr (Or.inr (Or.inl (e.trans (by rw [q]; rfl))))))))))))))
  · exact Or.inr (Or.inr (Or.inr (Or.inr (Or.inr (Or.inr (Or.inr (Or.inr (Or.inr (Or.inr (Or.inr (Or.inr (Or.inr (Or.inl (e.trans (by rw [q]; rfl)))))))))))))))
  · exact Or.inr (Or.inr (Or.inr (Or.inr (Or.inr (Or.inr (Or.inr (Or.inr (Or.inr (Or.inr (Or.inr (Or.inr (Or.inr (Or.inr (Or.inl (e.trans (by rw [q]; rfl))))))))))))))))
  · exact Or.inr (Or.inr (Or.inr (Or.inr (Or.inr (Or.inr (Or.inr (Or.inr (Or.inr (Or.inr (Or.inr (Or.inr (Or.inr (Or.inr (Or.inr (Or.inl (e.trans (by rw [q]; rfl)))))))))))))))))
  · exact Or.inr (Or.inr (Or.inr (Or.inr (Or.inr (Or.inr (Or.inr (Or.inr (Or.inr (Or.inr (Or.inr (Or.inr (Or.inr (Or.inr (Or.inr (Or.inr (Or.inl (e.trans (by rw [q]; rfl))))))))))))))))))
  · exact Or.inr (Or.inr (Or.inr (Or.inr (Or.inr (Or.inr (Or.inr (Or.inr (Or.inr (Or.inr (Or.inr (Or.inr (Or.inr (Or.inr (Or.inr (Or.inr (Or.inr (Or.inl (e.trans (by rw [q]; rfl)))))))))))))))))))
  · exact Or.inr (Or.inr (Or.inr (Or.inr (Or.inr (Or.inr (Or.inr (Or.inr (Or.inr (Or.inr (Or.inr (Or.inr (Or.inr (Or.inr (Or.inr (Or.inr (Or.inr (Or.inr (Or.inl (e.trans (by rw [q]; rfl))))))))))))))))))))
  · exact Or.inr (Or.inr (Or.inr (Or.inr (Or.inr (Or.inr (Or.inr (Or.inr (Or.inr (Or.inr (Or.inr (Or.inr (Or.inr (Or.inr (Or.inr (Or.inr (Or.inr (Or.inr (Or.inr (Or.inl (e.trans (by rw [q]; rfl)))))))))))))))))))))
  · exact Or.inr (Or.inr (Or.inr (Or.inr (Or.inr (Or.inr (Or.inr (Or.inr (Or.inr (Or.inr (Or.inr (Or.inr (Or.inr (Or.inr (Or.inr (Or.inr (Or.inr (Or.inr (Or.inr (Or.inr (Or.inl (e.trans (by rw [q]; rfl))))))))))))))))))))))
  · exact Or.inr (Or.inr (Or.inr (Or.inr (Or.inr (Or.inr (Or.inr (Or.inr (Or.inr (Or.inr (Or.inr (Or.inr (Or.inr (Or.inr (Or.inr (Or.inr (Or.inr (Or.inr (Or.inr (Or.inr (Or.inr (Or.inl (e.trans (by rw [q]; rfl)))))))))))))))))))))))
  · exact Or.inr (Or.inr (Or.inr (Or.inr (Or.inr (Or.inr (Or.inr (Or.inr (Or.inr (Or.inr (Or.inr (Or.inr (Or.inr (Or.inr (Or.inr (Or.inr (Or.inr (Or.inr (Or.inr (Or.inr (Or.inr (Or.inr (Or.inl (e.trans (by rw [q]; rfl))))))))))))))))))))))))
  · exact Or.inr (Or.inr (Or.inr (Or.inr (Or.inr (Or.inr (Or.inr (Or.inr (Or.inr (Or.inr (Or.inr (Or.inr (Or.inr (Or.inr (Or.inr (Or.inr (Or.inr (Or.inr (Or.inr (Or.inr (Or.inr (Or.inr (Or.inr (Or.inl (e.trans (by rw [q]; rfl)))))))))))))))))))))))))
  · exact Or.inr (Or.inr (Or.inr (Or.inr (Or.inr (Or.inr (Or.inr (Or.inr (Or.inr (Or.inr (Or.inr (Or.inr (Or.inr (Or.inr (Or.inr (Or.inr (Or.inr (Or.inr (Or.inr (Or.inr (Or.inr (Or.inr (Or.inr (Or.inr (Or.inl (e.trans (by rw [q]; rfl))))))))))))))))))))))))))
  · exact Or.inr (Or.inr (Or.inr (Or.inr (Or.inr (Or.inr (Or.inr (Or.inr (Or.inr (Or.inr (Or.inr (Or.inr (Or.inr (Or.inr (Or.inr (Or.inr (Or.inr (Or.inr (Or.inr (Or.inr (Or.inr (Or.inr (Or.inr (Or.inr (Or.inr (e.trans (by rw [q]; rfl))))))))))))))))))))))))))
theorem shP_eq {P : Pst} {LL : Lls} {i n : Nat} (h10 : nfb P ≤ 10) (h5 : LI P 5 (nI n) (LL (1 + n))) (h6 : LI P 6 (nI n) (LL (5 + n))) (k v : Int32) : shP P LL i k n v = p_R_shared P i k n v := by
  have e22 : p_R_give (kpP (p_R_give P i v) LL n v) i (if P 41 n = 0 then 1 else 0) = if a_R_keeps (p_R_give P i v) n v = 0 then p_R_give (p_R_keeps (p_R_give P i v) n v) i 0 else p_R_give (p_R_keeps (p_R_give P i v) n v) i 1 := by
    rw [kpP_eq (P := p_R_give P i v) (LL := LL) h10 (h5.give i v)]
    have e : a_R_keeps (p_R_give P i v) n v = if P 41 n = 0 then 1 else 0 := by
      unfold a_R_keeps
      rw [give_fr _ _ _ (by decide)]
    rw [e]
    by_cases q : P 41 n = 0
    · rw [if_pos q, if_neg (by decide)]
    · rw [if_neg q, if_pos rfl]
  have e24 : lgP (p_R_give P i v) LL n = if 0 ≤ a_R_firstFor (p_R_give P i v) 6 (nI n) then p_R_wake (p_R_give (p_R_give P i v) (tn (a_R_firstFor (p_R_give P i v) 6 (nI n))) (P 17 (tn (a_R_firstFor (p_R_give P i v) 6 (nI n))))) (tn (a_R_firstFor (p_R_give P i v) 6 (nI n))) else up (p_R_give P i v) 39 n ((P 39 n) + 1) := by
    have hg := h6.give i v
    unfold lgP
    cases hl : LL (5 + n) with
    | nil =>
      rw [hl] at hg
      rw [if_neg (Int32.not_le.mpr (hg.ff0 h10)), give_fr _ _ _ (by decide)]
    | cons x l =>
      rw [hl] at hg
      have hx := ((hg.1 x).mp List.mem_cons_self).1
      have hx' : x < 10 := Nat.lt_of_lt_of_le hx h10
      show p_R_wake (p_R_give (p_R_give P i v) x (p_R_give P i v 17 x)) x = _
      rw [hg.ff1 h10, if_pos (nI_pos' (by omega)), tn_nI (by omega), give_fr _ _ _ (h := 17) (by decide)]
  unfold shP p_R_shared
  rw [e22, e24]
theorem act_eq {P : Pst} {LL : Lls} {i e : Nat} (wb : WB P) (hE : EfOK P e) (hL : LIs P LL) (v : Int32) : actC P LL i e v = p_R_act P i e v := by
  have h10 : nfb P ≤ 10 := n10 wb
  have hf := frR_eq wb i e v
  have hs : ∀ k, ¬ P 0 e < 19 → ¬ P 0 e = 25 → shP P LL i k (tn (P 1 e)) v = p_R_shared P i k (tn (P 1 e)) v := fun k q1 q2 => by
    obtain ⟨n, hn, en⟩ := hE.2.2.1 q1 q2
    rw [en, tn_nI (by omega)]
    exact shP_eq h10 (hL n hn).1 (hL n hn).2 k v
  rcases kd26 hE.2.2.2 with h | h | h | h | h | h | h | h | h | h | h | h | h | h | h | h | h | h | h | h | h | h | h | h | h | h
  · simp (decide := true) only [p_R_act, actC, h, ↓reduceIte]
  · simp (decide := true) only [p_R_act, actC, h, ↓reduceIte]
  · simp (decide := true) only [p_R_act, actC, h, ↓reduceIte]
  · simp (decide := true) only [p_R_act, actC, h, ↓reduceIte]
  · simp (decide := true) only [p_R_act, actC, frP, h, ↓reduceIte, hf, frR, false_or, or_false, or_self]
  · simp (decide := true) only [p_R_act, actC, frP, h, ↓reduceIte, hf, frR, false_or, or_false, or_self]
  · simp (decide := true) only [p_R_act, actC, frP, h, ↓reduceIte, hf, frR, false_or, or_false, or_self]
  · simp (decide := true) only [p_R_act, actC, frP, h, ↓reduceIte, hf, frR, true_or, or_true, false_or, or_false, or_self]
  · simp (decide := true) only [p_R_act, actC, frP, h, ↓reduceIte, hf, frR, true_or, or_true, false_or, or_false, or_self]
  · simp (decide := true) only [p_R_act, actC, frP, h, ↓reduceIte, hf, frR, true_or, or_true, false_or, or_false, or_self]
  · simp (decide := true) only [p_R_act, actC, frP, h, ↓reduceIte, hf, frR, false_or, or_false, or_self]
  · simp (decide := true) only [p_R_act, actC, p_R_others, a_R_make, h, ↓reduceIte]
  · simp (decide := true) only [p_R_act, actC, p_R_others, a_R_make, h, ↓reduceIte]
  · simp (decide := true) only [p_R_act, actC, p_R_others, jnP, hlP, h, ↓reduceIte]
  · simp (decide := true) only [p_R_act, actC, p_R_others, jnP, hlP, h, ↓reduceIte]
  · simp (decide := true) only [p_R_act, actC, p_R_others, a_R_make, h, ↓reduceIte]
  · simp (decide := true) only [p_R_act, actC, slP, h, ↓reduceIte]
    by_cases q : P 1 e ≤ 0
    · rw [if_pos q, if_pos q]
    · rw [if_neg q, if_neg q]
      by_cases q2 : P 1 e ≤ 1000
      · rw [if_pos q2, if_pos q2]
      · rw [if_neg q2, if_neg q2]
  · simp (decide := true) only [p_R_act, actC, h, ↓reduceIte]
  · simp (decide := true) only [p_R_act, actC, p_put, h, ↓reduceIte, give_fr P i v (h := 46) (i := 0) (by decide)]
  · simp (decide := true) only [p_R_act, actC, h, ↓reduceIte]
    exact hs _ (by rw [h]; decide) (by rw [h]; decide)
  · simp (decide := true) only [p_R_act, actC, h, ↓reduceIte]
    exact hs _ (by rw [h]; decide) (by rw [h]; decide)
  · simp (decide := true) only [p_R_act, actC, h, ↓reduceIte]
    exact hs _ (by rw [h]; decide) (by rw [h]; decide)
  · simp (decide := true) only [p_R_act, actC, h, ↓reduceIte]
    exact hs _ (by rw [h]; decide) (by rw [h]; decide)
  · simp (decide := true) only [p_R_act, actC, h, ↓reduceIte]
    exact hs _ (by rw [h]; decide) (by rw [h]; decide)
  · simp (decide := true) only [p_R_act, actC, h, ↓reduceIte]
    exact hs _ (by rw [h]; decide) (by rw [h]; decide)
  · simp (decide := true) only [p_R_act, actC, h, ↓reduceIte]
