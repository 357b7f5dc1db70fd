/-! all that hear of an end, one after the other -/
section Hears
variable {P Q : Pst} {LL L : Lls} {c f j i N : Nat}
theorem Core.e1ok (h : Core c f j Q L) (ha : AtW N Q f) (hf : Q 5 f = 2) (hj : j < nfb Q) : E1ok Q j f := by
  refine ⟨hf, (h.2.1 j hj).1.2.1, h.r10 ha.2.1 (h.nq48 ha.1), fun h15 => ?_⟩
  obtain ⟨a, a1, a2, a3, a4, a5, a6, a7, a8, a9⟩ := h.2.2.1 j hj h15
  have st : ∀ x, x < nfb Q → StOK Q x := fun x hx => ⟨(h.2.1 x hx).1.2.2.1, (h.2.1 x hx).1.2.1, (h.2.1 x hx).1.2.2.2.1⟩
  refine ⟨a, a1, a2, a3, a4, a5, st a (by omega), st (a + 1) a3, fun e => ?_, fun e => ?_⟩
  · exact ⟨fun w z => (a8 ⟨w, by omega⟩).1 z, fun w z => (a8 ⟨w, by omega⟩).2 z⟩
  · exact ⟨fun w z => (a7 ⟨w, by omega⟩).1 z, fun w z => (a7 ⟨w, by omega⟩).2 z⟩
theorem Core.hears (h : Core c f j Q L) (ha : AtW N Q f) (hf : Q 5 f = 2) (hj : j < nfb Q) : Core c f (j + 1) (if Q 5 j = 1 then p_R_hears Q j f else Q) (hrL Q L j f) ∧ (if Q 5 j = 1 then p_R_hears Q j f else Q) 5 f = 2 := by
  have h10 := n10 h.1.1
  have hf10 : f < 10 := by have := ha.2.1; omega
  have s15 := (h.2.1 j hj).1.2.1
  by_cases h5 : Q 5 j = 1
  · rw [if_pos h5]
    have h52 : ¬ Q 5 j = 2 := by rw [h5]; decide
    have hjf : ¬ f = j := fun e => by rw [e, h5] at hf; exact absurd hf (by decide)
    have hjf' : ¬ j = f := fun e => hjf e.symm
    have h48 : ¬ Q 48 0 = nI j := by rw [ha.1]; intro e; exact hjf ((nI_eq (by omega) (by omega)).mp e)
    by_cases q1 : Q 15 j = 1
    · have n3 : ¬ Q 15 j = 3 := by rw [q1]; decide
      have n2 : ¬ Q 15 j = 2 := by rw [q1]; decide
      unfold p_R_hears hrL
      rw [if_pos q1, if_pos q1]
      by_cases e : Q 16 j = nI f
      · rw [if_pos e, if_pos e]
        have e1 : ∀ x y, x ≠ 34 ∧ x ≠ 35 ∧ x ≠ 33 ∧ x ≠ 14 ∧ x ≠ 13 ∧ x ≠ 11 → p_R_hand Q j f x y = Q x y := fun x y q => hand_fr _ _ _ q
        have n1 : nfb (p_R_hand Q j f) = nfb Q := by unfold nfb; rw [e1 42 0 (by decide)]
        refine ⟨(h.hand hj h52 hjf').woken (by rw [n1]; exact hj) (by rw [e1 5 j (by decide)]; exact h5) (by rw [e1 48 0 (by decide)]; exact h48) (by rw [e1 15 j (by decide), q1]; decide) (by rw [e1 15 j (by decide), q1]; decide), ?_⟩
        rw [wk_5, if_neg hjf, e1 5 f (by decide)]; exact hf
      · rw [if_neg e, if_neg e, if_neg n2, if_neg n3]
        exact ⟨h.nx (fun q => absurd q n3), hf⟩
    by_cases q2 : Q 15 j = 2
    · have n3 : ¬ Q 15 j = 3 := by rw [q2]; decide
      unfold p_R_hears hrL
      rw [if_neg q1, if_neg q1, if_pos q2, if_pos q2]
      by_cases e : Q 16 j = nI f
      · rw [if_pos e, if_pos e]
        have e1 : ∀ x y, x ≠ 11 ∧ x ≠ 14 ∧ x ≠ 13 → p_R_give Q j 0 x y = Q x y := fun x y q => give_fr _ _ _ q
        refine ⟨(h.give hj h52 0).woken hj (by rw [e1 5 j (by decide)]; exact h5) (by rw [e1 48 0 (by decide)]; exact h48) (by rw [e1 15 j (by decide), q2]; decide) (by rw [e1 15 j (by decide), q2]; decide), ?_⟩
        rw [wk_5, if_neg hjf, e1 5 f (by decide)]; exact hf
      · rw [if_neg e, if_neg e, if_neg n3]
        exact ⟨h.nx (fun q => absurd q n3), hf⟩
    by_cases q3 : Q 15 j = 3
    · obtain ⟨a, hY⟩ := h.2.2.1 j hj q3
      have hY' := hY
      obtain ⟨a1, a2, a3, a4, a5, -⟩ := hY
      have t19 : tn (Q 19 j) = a := by rw [a1, tn_nI (by omega)]
      have t20 : tn (Q 20 j) = a + 1 := by rw [a2, tn_nI (by omega)]
      have fin : ∀ o, (f = a ∧ o = a + 1) ∨ (f = a + 1 ∧ o = a) → Core c f (j + 1) (p_h124 Q j f o) (rcL2 (x21 Q j f) L j f o) ∧ p_h124 Q j f o 5 f = 2 := fun o ho => by
        rw [h124_x]
        unfold rcL2
        by_cases q : x21 Q j f 5 o = 2
        · rw [if_pos q]
          have e : p_h149 (x21 Q j f) j f o = p_h175 (x21 Q j f) j f o := by
            unfold p_h149
            rw [if_pos q]
          rw [e]
          exact race_over h hf hj hf10 h5 h48 q3 a1 (by omega) a4 o
        · rw [if_neg q]
          exact race_on h hf hj hf10 ha.1 hY' (by omega) ho q
      unfold p_R_hears hrL
      rw [if_neg q1, if_neg q1, if_neg q2, if_neg q2, if_pos q3, if_pos q3]
      by_cases e1 : Q 19 j = nI f
      · rw [if_pos e1, if_pos e1, t20]
        exact fin (a + 1) (Or.inl ⟨(nI_eq (by omega) (by omega)).mp (e1.symm.trans a1), rfl⟩)
      rw [if_neg e1, if_neg e1]
      by_cases e2 : Q 20 j = nI f
      · rw [if_pos e2, if_pos e2, t19]
        exact fin a (Or.inr ⟨(nI_eq (by omega) (by omega)).mp (e2.symm.trans a2), rfl⟩)
      rw [if_neg e2, if_neg e2]
      refine ⟨h.nx (fun _ => ⟨a, ?_⟩), hf⟩
      have ex : ∀ y, ¬ y = f → (Ex f (j + 1) Q j y ↔ Ex f j Q j y) := fun y hy => and_congr_right (fun _ => ⟨fun _ z => hy z.1, fun _ z => hy z.1⟩)
      unfold RcY at hY' ⊢
      rw [ex a (fun z => e1 (by rw [a1, z])), ex (a + 1) (fun z => e2 (by rw [a2, z]))]
      exact hY'
    · unfold p_R_hears hrL
      rw [if_neg q1, if_neg q1, if_neg q2, if_neg q2, if_neg q3, if_neg q3]
      exact ⟨h.nx (fun q => absurd q q3), hf⟩
  · rw [if_neg h5]
    have z15 : Q 15 j = 0 := Decidable.byContradiction (fun q => h5 (s15.mpr q))
    unfold hrL
    rw [if_neg (by rw [z15]; decide), if_neg (by rw [z15]; decide), if_neg (by rw [z15]; decide)]
    exact ⟨h.nx (fun q => by rw [z15] at q; exact absurd q (by decide)), hf⟩
theorem AtW.e1 (h : AtW N P i) (f : Nat) : ∀ j, AtW N (it_e1 f P j) i
  | 0 => h
  | j + 1 => by
    have ih := AtW.e1 h f j
    show AtW N (if it_e1 f P j 5 j = 1 then p_R_hears (it_e1 f P j) j f else it_e1 f P j) i
    split
    · refine ih.ag0 (fun g hg => hears_fr ?_ _ _ _)
      unfold hh; omega
    · exact ih
theorem AtW.e2 (h : AtW N P i) (f : Nat) : ∀ j, AtW N (it_e2 f P j) i
  | 0 => h
  | j + 1 => by
    have ih := AtW.e2 h f j
    show AtW N (if it_e2 f P j 8 j = nI f then p_R_strike (it_e2 f P j) j (nI f) else it_e2 f P j) i
    split
    · exact ih.strike j (nI f)
    · exact ih
theorem Core.e1 (h : Core c f 0 P LL) (ha : AtW N P f) (hf : P 5 f = 2) : ∀ j, j ≤ nfb P → Core c f j (it_e1 f P j) (it_e1L f P LL j) ∧ it_e1 f P j 5 f = 2
  | 0, _ => ⟨h, hf⟩
  | j + 1, hj => by
    obtain ⟨h1, h2⟩ := Core.e1 h ha hf j (by omega)
    have hn : nfb (it_e1 f P j) = nfb P := by unfold nfb; rw [e1_42]
    exact h1.hears (ha.e1 f j) h2 (by rw [hn]; omega)
theorem Core.e2 {J : Nat} (h : Core c f J P LL) (ha : AtW N P f) (hf : P 5 f = 2) : ∀ j, j ≤ nfb P → Core c f J (it_e2 f P j) (it_e2L f P LL j) ∧ it_e2 f P j 5 f = 2
  | 0, _ => ⟨h, hf⟩
  | j + 1, hj => by
    obtain ⟨h1, h2⟩ := Core.e2 h ha hf j (by omega)
    have a1 := ha.e2 f j
    have hn : nfb (it_e2 f P j) = nfb P := by unfold nfb; rw [e2_42]
    have w := a1.w48 h1.1.1 (by rw [h2]; decide)
    show Core c f J (if it_e2 f P j 8 j = nI f then p_R_strike (it_e2 f P j) j (nI f) else it_e2 f P j) (if it_e2 f P j 8 j = nI f then skL (it_e2 f P j) (it_e2L f P LL j) j else it_e2L f P LL j) ∧ (if it_e2 f P j 8 j = nI f then p_R_strike (it_e2 f P j) j (nI f) else it_e2 f P j) 5 f = 2
    by_cases q : it_e2 f P j 8 j = nI f
    · rw [if_pos q, if_pos q]
      refine ⟨h1.strike (by rw [hn]; omega) (w j (by rw [hn]; omega)) _, ?_⟩
      rw [st_52]; exact h2
    · rw [if_neg q, if_neg q]
      exact ⟨h1, h2⟩
theorem Core.ends {f0 : Nat} (h : Core c f0 10 P LL) (ha : AtW N P i) (h5 : P 5 i = 0) (hd : tn (P 22 i) = 0) : EnOK P i ∧ EndsOK P i ∧ Core c i 10 (p_R_ends P i) (enL P LL i) ∧ AtW N (p_R_ends P i) i := by
  have hi := ha.2.1
  have hm : P 10 i = 0 := by
    have := (h.2.1 i hi).2.1.1
    unfold mkv at this
    rw [hd, if_pos rfl] at this
    exact this
  have h0 := h.dies hi h5 (h.nq48 ha.1) hm
  have a0 : AtW N (up (up P 5 i 2) 10 i 0) i := (ha.up (g := 5) (by decide)).up (by decide)
  have f0' : up (up P 5 i 2) 10 i 0 5 i = 2 := by rw [up_f (by decide), up_s]
  have n0 : nfb (up (up P 5 i 2) 10 i 0) = nfb P := rfl
  have h10 := n10 h.1.1
  have s1 := h0.e1 a0 f0'
  have b1 := s1 (nfb P) (Nat.le_refl _)
  have a1 := a0.e1 i (nfb P)
  have n1 : ∀ j, nfb (it_e1 i (up (up P 5 i 2) 10 i 0) j) = nfb P := fun j => by unfold nfb; rw [e1_42]; rfl
  have s2 := b1.1.e2 a1 b1.2
  have n2 : ∀ j, nfb (it_e2 i (it_e1 i (up (up P 5 i 2) 10 i 0) (nfb P)) j) = nfb P := fun j => by
    have := n1 (nfb P)
    unfold nfb at this ⊢
    rw [e2_42, this]
  have b2 := s2 (nfb P) (by rw [n1]; exact Nat.le_refl _)
  have k1 : ∀ j, j < nfb P → E1ok (it_e1 i (up (up P 5 i 2) 10 i 0) j) j i := fun j hj => (s1 j (by rw [n0]; omega)).1.e1ok (a0.e1 i j) (s1 j (by rw [n0]; omega)).2 (by rw [n1]; exact hj)
  have k2 : ∀ j, j < nfb P → E2ok (it_e2 i (it_e1 i (up (up P 5 i 2) 10 i 0) (nfb P)) j) j := fun j hj => by
    have r := s2 j (by rw [n1]; omega)
    have g := r.1.2.1 j (by rw [n2]; exact hj)
    have a2 := a1.e2 i j
    exact ⟨⟨g.1.2.2.1, g.1.2.1, g.1.2.2.2.1⟩, r.1.r10 a2.2.1 (r.1.nq48 a2.1)⟩
  refine ⟨⟨hm, k1, k2⟩, ⟨fun j hj _ => (k1 j hj).2.2.1, fun j hj _ _ => (k2 j hj).2⟩, ?_, a1.e2 i (nfb P)⟩
  exact b2.1.any (by rw [n2]; exact Nat.le_refl _) (by rw [n2]; exact h10)
end Hears
