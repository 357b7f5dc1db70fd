/-! each kind of effect, begun, keeps the invariant -/
section Kinds
variable {P : Pst} {LL : Lls} {c f j i N : Nat}
theorem Core.f15 (h : Core c f j P LL) (hi : i < nfb P) (h5 : P 5 i = 0) : P 15 i = 0 := Decidable.byContradiction (fun q => absurd ((h.2.1 i hi).1.2.1.mpr q) (by rw [h5]; decide))
theorem st_n (P : Pst) (g : Nat) (w : Int32) : nfb (p_R_strike P g w) = nfb P := by
  unfold nfb
  rw [strike_fr _ _ _ (by decide)]
theorem st_5 (P : Pst) (g : Nat) (w : Int32) {y : Nat} (h : P 5 y = 0) : p_R_strike P g w 5 y = 0 := by
  have e : (up (up P 6 g 1) 7 g w) 5 y = 0 := by rw [up_f (by decide), up_f (by decide)]; exact h
  unfold p_R_strike
  split
  · exact h
  split
  · split
    · split
      · rw [wk_5]
        split
        · rfl
        · exact e
      · exact e
    · exact e
  · exact h
theorem st_52 (P : Pst) (g : Nat) (w : Int32) (y : Nat) : (p_R_strike P g w 5 y = 2 ↔ P 5 y = 2) := by
  have e : (up (up P 6 g 1) 7 g w) 5 y = P 5 y := by rw [up_f (by decide), up_f (by decide)]
  unfold p_R_strike
  split
  · exact Iff.rfl
  split
  · split
    · rename_i q
      split
      · rw [wk_5]
        by_cases w : y = g
        · rw [if_pos w, w, q]; decide
        · rw [if_neg w, e]
      · rw [e]
    · rw [e]
  · exact Iff.rfl
theorem k_fork (h : Core c f j P LL) (ha : AtW N P i) (h5 : P 5 i = 0) {x : Int32} (hx : sm x 39) (v : Int32) : Core c f j (if P 42 0 = 10 then p_R_fail P i 2 (-1) else p_R_give (p_R_make P x v (nI i)) i (P 42 0)) (if P 42 0 = 10 then LL else upL LL 0 (LL 0 ++ [nfb P])) ∧ AtW N (if P 42 0 = 10 then p_R_fail P i 2 (-1) else p_R_give (p_R_make P x v (nI i)) i (P 42 0)) i := by
  have wb := h.1.1
  have hi := ha.2.1
  have h52 : ¬ P 5 i = 2 := by rw [h5]; decide
  by_cases q : P 42 0 = 10
  · rw [if_pos q, if_pos q]
    exact ⟨h.fail hi h52 _ _, ha.fail i _ _⟩
  · rw [if_neg q, if_neg q]
    have hn : nfb P < 10 := ne_lt (wb 42 0) rfl q
    have h1 := h.make (Or.inr hx) hn (by rw [ha.1]; intro e; have := (nI_eq (by omega) (by omega)).mp e; omega) v (nI i)
    have a1 := ha.make wb hn x v (nI i)
    have e5 : p_R_make P x v (nI i) 5 i = P 5 i := mk_P _ _ _ _ _ _ (by omega)
    exact ⟨h1.give a1.2.1 (by rw [e5]; exact h52) _, a1.give i _⟩
theorem k_join (h : Core c f j P LL) (hc : c < 2 ^ 20) (ha : AtW N P i) (h5 : P 5 i = 0) (v : Int32) : Core (c + 1) f j (jnP P i v) LL ∧ AtW N (jnP P i v) i := by
  have wb := h.1.1
  have hi := ha.2.1
  have h52 : ¬ P 5 i = 2 := by rw [h5]; decide
  unfold jnP
  by_cases q : a_R_in v 0 (P 42 0 - 1) = 0
  · rw [if_pos q]
    exact ⟨(h.fail hi h52 _ _).more (Nat.le_succ c), ha.fail i _ _⟩
  rw [if_neg q]
  by_cases q2 : P 5 (tn v) = 2
  · rw [if_pos q2]
    exact ⟨(h.hand hi h52 (fun e => h52 (by rw [e]; exact q2))).more (Nat.le_succ c), ha.hand i _⟩
  · rw [if_neg q2]
    exact ⟨h.rest 0 hc hi h5 (h.nq48 ha.1) (by decide) (fun w => absurd w (by decide)) (fun w => absurd w (by decide)) (fun w => absurd w (by decide)) rfl (h.2.2.2.2.1.rest0 h5 (by decide) (by decide) v 0), ha.rest i _ _ _⟩
theorem k_halt (h : Core c f j P LL) (hc : c < 2 ^ 20) (ha : AtW N P i) (h5 : P 5 i = 0) (v : Int32) : Core (c + 1) f j (hlP P i v) (hlL P LL v) ∧ AtW N (hlP P i v) i := by
  have wb := h.1.1
  have hi := ha.2.1
  have h52 : ¬ P 5 i = 2 := by rw [h5]; decide
  unfold hlP hlL
  by_cases q : a_R_in v 0 (P 42 0 - 1) = 0
  · rw [if_pos q, if_pos q]
    exact ⟨(h.fail hi h52 _ _).more (Nat.le_succ c), ha.fail i _ _⟩
  rw [if_neg q, if_neg q]
  by_cases q2 : P 5 (tn v) = 2
  · rw [if_pos q2, if_pos q2]
    exact ⟨(h.give hi h52 _).more (Nat.le_succ c), ha.give i _⟩
  rw [if_neg q2, if_neg q2]
  have hv := in_nat1 q (nf_nI wb) (by have := n10 wb; omega)
  have h1 := h.strike (g := tn v) hv.2 (ha.w48 wb (by rw [h5]; decide) _ hv.2) (nI i)
  have a1 := ha.strike (tn v) (nI i)
  have e5 := st_5 P (tn v) (nI i) h5
  have h2 := h1.give (i := i) a1.2.1 (by rw [e5]; decide) 0
  have a2 := a1.give i 0
  by_cases q3 : v = nI i
  · rw [if_pos q3]
    exact ⟨h2.more (Nat.le_succ c), a2⟩
  · rw [if_neg q3]
    have e5' : p_R_give (p_R_strike P (tn v) (nI i)) i 0 5 i = 0 := by rw [give_fr _ _ _ (by decide)]; exact e5
    exact ⟨h2.rest 0 hc a2.2.1 e5' (h2.nq48 a2.1) (by decide) (fun w => absurd w (by decide)) (fun w => absurd w (by decide)) (fun w => absurd w (by decide)) rfl (h2.2.2.2.2.1.rest0 e5' (by decide) (by decide) v 0), a2.rest i _ _ _⟩
theorem k_race (h : Core c f 10 P LL) (hc : c < 2 ^ 20) (ha : AtW N P i) (h5 : P 5 i = 0) {x y : Int32} (hx : sm x 39) (hy : sm y 39) (v : Int32) : Core (c + 1) f 10 (if P 42 0 ≤ 8 then p_R_rest (up (up (p_R_make (up (p_R_make P x v (nI i)) 19 i (a_R_make P x v (nI i))) y v (nI i)) 20 i (a_R_make (up (p_R_make P x v (nI i)) 19 i (a_R_make P x v (nI i))) y v (nI i))) 21 i (-1)) i 3 0 0 else p_R_fail P i 2 (-1)) (if P 42 0 ≤ 8 then upL LL 0 (LL 0 ++ [nfb P] ++ [nfb P + 1]) else LL) ∧ AtW N (if P 42 0 ≤ 8 then p_R_rest (up (up (p_R_make (up (p_R_make P x v (nI i)) 19 i (a_R_make P x v (nI i))) y v (nI i)) 20 i (a_R_make (up (p_R_make P x v (nI i)) 19 i (a_R_make P x v (nI i))) y v (nI i))) 21 i (-1)) i 3 0 0 else p_R_fail P i 2 (-1)) i := by
  have wb := h.1.1
  have hi := ha.2.1
  have h52 : ¬ P 5 i = 2 := by rw [h5]; decide
  by_cases q : P 42 0 ≤ 8
  · rw [if_pos q, if_pos q]
    have hn8 : nfb P ≤ 8 := ix_le_of (nf_nI wb) (rfl : (8 : Int32) = nI 8) (by have := n10 wb; omega) (by decide) q
    have h1 := h.make (Or.inr hx) (by omega) (by rw [ha.1]; intro e; have := (nI_eq (by omega) (by omega)).mp e; omega) v (nI i)
    have a1 := ha.make wb (by omega) x v (nI i)
    have n1 : nfb (p_R_make P x v (nI i)) = nfb P + 1 := mk_tn wb (by unfold nfb at hn8; omega) x v (nI i)
    have o1 : ∀ a z, ¬ z = nfb P → ¬ a = 42 → ¬ a = 36 → ¬ a = 43 → p_R_make P x v (nI i) a z = P a z := fun a z h1 h2 h3 h4 => mk_P _ _ _ _ _ _ (by omega)
    have m1 : a_R_make P x v (nI i) = nI (nfb P) := nf_nI wb
    rw [m1]
    have h2 : Core c f 10 (up (p_R_make P x v (nI i)) 19 i (nI (nfb P))) (upL LL 0 (LL 0 ++ [nfb P])) := h1.s19 (i := i) (by rw [o1 15 i (by omega) (by decide) (by decide) (by decide), h.f15 hi h5]; decide) (Or.inl rfl) (sm_nI (by omega) (by decide))
    have a2 : AtW N (up (p_R_make P x v (nI i)) 19 i (nI (nfb P))) i := a1.up (by decide)
    generalize hP2 : up (p_R_make P x v (nI i)) 19 i (nI (nfb P)) = P2
    rw [hP2] at h2 a2
    have n2 : nfb P2 = nfb P + 1 := by rw [← hP2]; exact n1
    have o2 : ∀ a z, ¬ z = nfb P → ¬ a = 42 → ¬ a = 36 → ¬ a = 43 → ¬ a = 19 → P2 a z = P a z := fun a z h1 h2 h3 h4 h5 => by rw [← hP2, up_f h5]; exact o1 a z h1 h2 h3 h4
    have e19 : P2 19 i = nI (nfb P) := by rw [← hP2, up_s]
    have z5 : P2 5 (nfb P) = 0 := by rw [← hP2, up_f (by decide)]; exact mkn (by decide)
    have wb2 := h2.1.1
    have h3 := h2.make (e := y) (Or.inr hy) (by omega) (by rw [a2.1, n2]; intro e; have := (nI_eq (by omega) (by omega)).mp e; omega) v (nI i)
    have a3 := a2.make wb2 (by omega) y v (nI i)
    have n3 : nfb (p_R_make P2 y v (nI i)) = nfb P2 + 1 := mk_tn wb2 (by unfold nfb at n2 hn8; omega) y v (nI i)
    have o3 : ∀ a z, ¬ z = nfb P2 → ¬ a = 42 → ¬ a = 36 → ¬ a = 43 → p_R_make P2 y v (nI i) a z = P2 a z := fun a z h1 h2 h3 h4 => mk_P _ _ _ _ _ _ (by omega)
    have m2 : a_R_make P2 y v (nI i) = nI (nfb P + 1) := by rw [← n2]; exact nf_nI wb2
    rw [m2]
    have t5 : p_R_make P2 y v (nI i) 15 i = 0 := by rw [o3 15 i (by omega) (by decide) (by decide) (by decide), o2 15 i (by omega) (by decide) (by decide) (by decide) (by decide), h.f15 hi h5]
    have h4 : Core c f 10 (up (p_R_make P2 y v (nI i)) 20 i (nI (nfb P + 1))) _ := h3.s19 (i := i) (by rw [t5]; decide) (Or.inr (Or.inl rfl)) (sm_nI (by omega) (by decide))
    have a4 : AtW N (up (p_R_make P2 y v (nI i)) 20 i (nI (nfb P + 1))) i := a3.up (by decide)
    have h6 : Core c f 10 (up (up (p_R_make P2 y v (nI i)) 20 i (nI (nfb P + 1))) 21 i (-1)) _ := h4.s19 (i := i) (by rw [up_f (by decide), t5]; decide) (Or.inr (Or.inr rfl)) (Or.inl rfl)
    have a6 : AtW N (up (up (p_R_make P2 y v (nI i)) 20 i (nI (nfb P + 1))) 21 i (-1)) i := a4.up (by decide)
    generalize hP6 : up (up (p_R_make P2 y v (nI i)) 20 i (nI (nfb P + 1))) 21 i (-1) = P6
    rw [hP6] at h6 a6
    have n6 : nfb P6 = nfb P + 2 := by
      rw [← hP6]
      show nfb (p_R_make P2 y v (nI i)) = _
      rw [n3, n2]
    have o6 : ∀ a z, ¬ a = 20 → ¬ a = 21 → P6 a z = p_R_make P2 y v (nI i) a z := fun a z h1 h2 => by rw [← hP6, up_f h2, up_f h1]
    have e5 : P6 5 i = 0 := by rw [o6 5 i (by decide) (by decide), o3 5 i (by omega) (by decide) (by decide) (by decide), o2 5 i (by omega) (by decide) (by decide) (by decide) (by decide), h5]
    have z6 : P6 5 (nfb P) = 0 := by rw [o6 5 _ (by decide) (by decide), o3 5 _ (by omega) (by decide) (by decide) (by decide), z5]
    have z7 : P6 5 (nfb P + 1) = 0 := by rw [o6 5 _ (by decide) (by decide), ← n2]; exact mkn (by decide)
    have eL : upL (upL LL 0 (LL 0 ++ [nfb P])) 0 (upL LL 0 (LL 0 ++ [nfb P]) 0 ++ [nfb P2]) = upL LL 0 (LL 0 ++ [nfb P] ++ [nfb P + 1]) := by rw [upL_upL, upL_s, n2]
    rw [eL] at h6
    have c21 : P6 21 i = -1 := by rw [← hP6, up_s]
    have x1 : ¬ Ex f 10 P6 i (nfb P) := fun w => by rw [Ex, z6] at w; exact absurd w.1 (by decide)
    have x2 : ¬ Ex f 10 P6 i (nfb P + 1) := fun w => by rw [Ex, z7] at w; exact absurd w.1 (by decide)
    refine ⟨h6.rest 0 hc a6.2.1 e5 (h6.nq48 a6.1) (by decide) (fun w => absurd w (by decide)) (fun w => absurd w (by decide)) (fun _ => ⟨nfb P, ?_, ?_, by omega, by omega, by omega, fun w => x1 w.1, fun w => absurd w x1, fun w => absurd w x2, fun _ _ => by rw [c21]; decide⟩) rfl (h6.2.2.2.2.1.rest0 e5 (by decide) (by decide) 0 0), a6.rest i _ _ _⟩
    · rw [o6 19 i (by decide) (by decide), o3 19 i (by omega) (by decide) (by decide) (by decide), e19]
    · rw [← hP6, up_f (by decide), up_s]
  · rw [if_neg q, if_neg q]
    exact ⟨(h.fail hi h52 _ _).more (Nat.le_succ c), ha.fail i _ _⟩
theorem k_sleep (h : Core c f j P LL) (hc : c < 2 ^ 20) (ha : AtW N P i) (h5 : P 5 i = 0) (n v : Int32) : Core (c + 1) f j (slP P i n v) LL ∧ AtW N (slP P i n v) i := by
  have wb := h.1.1
  have hi := ha.2.1
  have h52 : ¬ P 5 i = 2 := by rw [h5]; decide
  unfold slP
  have h1 := h.give hi h52 v
  have a1 := ha.give i v
  by_cases q : n ≤ 0
  · rw [if_pos q]
    exact ⟨h1.more (Nat.le_succ c), a1⟩
  · rw [if_neg q]
    obtain ⟨t, t1, t2⟩ := h.2.2.2.2.2.2.2.1
    have hn : n = nI (tn n) := tn_of (fun w => q (Int32.le_of_lt w))
    have hm : ∃ m, m ≤ 1000 ∧ (if n ≤ 1000 then n else 1000) = nI m := by
      by_cases w : n ≤ 1000
      · rw [if_pos w]
        exact ⟨tn n, ix_le_of hn (rfl : (1000 : Int32) = nI 1000) (tn_lt n) (by decide) w, hn⟩
      · rw [if_neg w]
        exact ⟨1000, Nat.le_refl _, rfl⟩
    obtain ⟨m, m1, m2⟩ := hm
    rw [m2, t2, nI_add]
    have e5 : p_R_give P i v 5 i = 0 := by rw [give_fr _ _ _ (by decide)]; exact h5
    exact ⟨h1.rest v hc a1.2.1 e5 (h1.nq48 a1.1) (by decide) (fun w => absurd w (by decide)) (fun _ => ⟨t + m, by omega, rfl⟩) (fun w => absurd w (by decide)) rfl (h1.2.2.2.2.1.rest0 e5 (by decide) (by decide) _ v), a1.rest i _ _ _⟩
theorem k_put (h : Core c f j P LL) (hc : c < 2 ^ 20) (ha : AtW N P i) (h5 : P 5 i = 0) (v : Int32) : Core (c + 1) f j (p_put P v) LL ∧ AtW N (p_put P v) i := by
  have hi := ha.2.1
  have h52 : ¬ P 5 i = 2 := by rw [h5]; decide
  obtain ⟨t, t1, t2⟩ := h.2.2.2.2.2.2.2.1
  obtain ⟨s, s1, s2⟩ := h.2.2.2.2.2.2.2.2
  have key : ∀ Q : Pst, Core c f j Q LL → Q 46 0 = P 46 0 → Q 44 0 = P 44 0 → Core (c + 1) f j (up Q 46 0 (P 46 0 + 1)) LL := fun Q hQ h46 h44 => by
    refine hQ.ct (fun a y h1 h2 h3 h4 => up_f h2 _ _ _ _) (fun y => Or.inl (up_f (by decide) _ _ _ _)) (hQ.1.1.up (f := 46) trivial) (Nat.le_succ c) ⟨t, by omega, ?_⟩ ⟨s + 1, by omega, ?_⟩
    · rw [up_f (by decide), h44, t2]
    · rw [up_s, s2, nI_1]
  unfold p_put
  split
  · exact ⟨key P h rfl rfl, ha.up (by decide)⟩
  · exact ⟨key _ (h.quiet (i := i) (g := 40) hi h52 (by unfold dU; omega) trivial) rfl rfl, (ha.up (g := 40) (by decide)).up (by decide)⟩
theorem k_shared (h : Core c f j P LL) (hc : c < 2 ^ 20) (ha : AtW N P i) (h5 : P 5 i = 0) {n : Nat} (hn : n < 4) (k v : Int32) : Core (c + 1) f j (shP P LL i k n v) (shL P LL i k n) ∧ AtW N (shP P LL i k n v) i := by
  have wb := h.1.1
  have hi := ha.2.1
  have h52 : ¬ P 5 i = 2 := by rw [h5]; decide
  have h1 := h.give hi h52 v
  have a1 := ha.give i v
  have e5 : p_R_give P i v 5 i = 0 := by rw [give_fr _ _ _ (by decide)]; exact h5
  have e52 : ¬ p_R_give P i v 5 i = 2 := by rw [e5]; decide
  have w1 := a1.w48 h1.1.1 (by rw [e5]; decide)
  have le := Nat.le_succ c
  unfold shP shL
  by_cases k19 : k = 19
  · rw [if_pos k19, if_pos k19]
    exact ⟨(h1.give a1.2.1 e52 _).more le, a1.give i _⟩
  rw [if_neg k19, if_neg k19]
  by_cases k20 : k = 20
  · rw [if_pos k20, if_pos k20]
    exact ⟨(h1.quiet (i := i) (g := 37) a1.2.1 e52 (by unfold dU; omega) trivial).more le, a1.up (by decide)⟩
  rw [if_neg k20, if_neg k20]
  by_cases k21 : k = 21
  · rw [if_pos k21, if_pos k21]
    by_cases q : P 41 n = 0
    · rw [if_pos q, if_pos q]
      exact ⟨h1.rest 0 hc a1.2.1 e5 (h1.nq48 a1.1) (by decide) (fun _ => ⟨n, hn, rfl⟩) (fun w => absurd w (by decide)) (fun w => absurd w (by decide)) (upL_n _ (by omega) _) (h1.2.2.2.2.1.rest5 a1.2.1 e5 hn h1.2.2.2.2.2.1 0), a1.rest i _ _ _⟩
    · rw [if_neg q, if_neg q]
      exact ⟨(h1.give a1.2.1 e52 _).more le, a1.give i _⟩
  rw [if_neg k21, if_neg k21]
  by_cases k22 : k = 22
  · rw [if_pos k22, if_pos k22]
    have h2 := h1.keep (i := i) hn w1 a1.2.1 e52 v
    have eL : kpL (p_R_give P i v) LL n = kpL P LL n := by
      unfold kpL
      rw [give_fr _ _ _ (by decide)]
    rw [eL] at h2
    have a2 : AtW N (kpP (p_R_give P i v) LL n v) i := a1.ag0 (fun g hg => kpP_o _ _ _ _ (by omega))
    exact ⟨(h2.give a2.2.1 (by rw [kpP_50 (P := p_R_give P i v) LL n v e5]; decide) _).more le, a2.give i _⟩
  rw [if_neg k22, if_neg k22]
  by_cases k23 : k = 23
  · rw [if_pos k23, if_pos k23]
    by_cases q : P 39 n ≤ 0
    · rw [if_pos q, if_pos q]
      exact ⟨h1.rest v hc a1.2.1 e5 (h1.nq48 a1.1) (by decide) (fun _ => ⟨n, hn, rfl⟩) (fun w => absurd w (by decide)) (fun w => absurd w (by decide)) (upL_n _ (by omega) _) (h1.2.2.2.2.1.rest6 a1.2.1 e5 hn h1.2.2.2.2.2.1 v), a1.rest i _ _ _⟩
    · rw [if_neg q, if_neg q]
      exact ⟨(h1.quiet (i := i) (g := 39) a1.2.1 e52 (by unfold dU; omega) trivial).more le, a1.up (by decide)⟩
  rw [if_neg k23, if_neg k23]
  exact ⟨(h1.leave (i := i) hn w1 a1.2.1 e52).more le, a1.ag0 (fun g hg => lgP_o _ _ _ (by omega))⟩
end Kinds
theorem Core.act {P : Pst} {LL : Lls} {c f i N : Nat} (h : Core c f 10 P LL) (hc : c < 2 ^ 20) (ha : AtW N P i) (h5 : P 5 i = 0) {e : Nat} (he : e < 40) (v : Int32) : Core (c + 1) f 10 (actC P LL i e v) (actL P LL i e v) ∧ AtW N (actC P LL i e v) i := by
  have hi := ha.2.1
  have h52 : ¬ P 5 i = 2 := by rw [h5]; decide
  have hE := (h.1.2.2 e).1
  have le := Nat.le_succ c
  have hs : ∀ k, ¬ P 0 e < 19 → ¬ P 0 e = 25 → Core (c + 1) f 10 (shP P LL i k (tn (P 1 e)) v) (shL P LL i k (tn (P 1 e))) ∧ AtW N (shP P LL i k (tn (P 1 e)) v) i := fun k q1 q2 => by
    obtain ⟨n, hn, en⟩ := hE.2.2.1 q1 q2
    rw [en, tn_nI (by omega)]
    exact k_shared h hc ha h5 hn k v
  rcases kd26 hE.2.2.2 with q | q | q | q | q | q | q | q | q | q | q | q | q | q | q | q | q | q | q | q | q | q | q | q | q | q
  · simp (decide := true) only [actC, actL, q, ↓reduceIte]
    exact ⟨(h.give hi h52 _).more le, ha.give i _⟩
  · simp (decide := true) only [actC, actL, q, ↓reduceIte]
    exact ⟨(h.give hi h52 _).more le, ha.give i _⟩
  · simp (decide := true) only [actC, actL, q, ↓reduceIte]
    exact ⟨(h.fail hi h52 _ _).more le, ha.fail i _ _⟩
  · simp (decide := true) only [actC, actL, q, ↓reduceIte]
    exact ⟨(h.fail hi h52 _ _).more le, ha.fail i _ _⟩
  · simp (decide := true) only [actC, actL, q, ↓reduceIte]
    exact ⟨(h.framed hi h52 he (by rw [q]; decide) v).more le, ha.framed e v⟩
  · simp (decide := true) only [actC, actL, q, ↓reduceIte]
    exact ⟨(h.framed hi h52 he (by rw [q]; decide) v).more le, ha.framed e v⟩
  · simp (decide := true) only [actC, actL, q, ↓reduceIte]
    exact ⟨(h.framed hi h52 he (by rw [q]; decide) v).more le, ha.framed e v⟩
  · simp (decide := true) only [actC, actL, q, ↓reduceIte]
    exact ⟨(h.framed hi h52 he (by rw [q]; decide) v).more le, ha.framed e v⟩
  · simp (decide := true) only [actC, actL, q, ↓reduceIte]
    exact ⟨(h.framed hi h52 he (by rw [q]; decide) v).more le, ha.framed e v⟩
  · simp (decide := true) only [actC, actL, q, ↓reduceIte]
    exact ⟨(h.framed hi h52 he (by rw [q]; decide) v).more le, ha.framed e v⟩
  · simp (decide := true) only [actC, actL, q, ↓reduceIte]
    exact ⟨(h.framed hi h52 he (by rw [q]; decide) v).more le, ha.framed e v⟩
  · simp (decide := true) only [actC, actL, q, ↓reduceIte]
    exact ⟨(h.register hi h52 (hE.1 (by rw [q]; decide)) v).more le, ha.register i _ v⟩
  · simp (decide := true) only [actC, actL, q, ↓reduceIte]
    have r := k_fork h ha h5 (x := P 1 e) (hE.1 (by rw [q]; decide)) v
    exact ⟨r.1.more le, r.2⟩
  · simp (decide := true) only [actC, actL, q, ↓reduceIte]
    exact k_join h hc ha h5 v
  · simp (decide := true) only [actC, actL, q, ↓reduceIte]
    exact k_halt h hc ha h5 v
  · simp (decide := true) only [actC, actL, q, ↓reduceIte]
    exact k_race h hc ha h5 (hE.1 (by rw [q]; decide)) (hE.2.1 (by rw [q]; decide)) v
  · simp (decide := true) only [actC, actL, q, ↓reduceIte]
    exact k_sleep h hc ha h5 (P 1 e) v
  · simp (decide := true) only [actC, actL, q, ↓reduceIte]
    have a1 := ha.give i v
    refine ⟨((h.give hi h52 v).quiet (i := i) (g := 49) hi h52 (by unfold dU; omega) trivial).more le, ?_⟩
    exact ⟨a1.1, a1.2.1, ⟨5, Nat.le_refl _, up_s _ _ _ _⟩, a1.2.2.2⟩
  · simp (decide := true) only [actC, actL, q, ↓reduceIte]
    exact k_put (h.give hi h52 v) hc (ha.give i v) (by rw [give_fr _ _ _ (by decide)]; exact h5) v
  · simp (decide := true) only [actC, actL, q, ↓reduceIte]
    exact hs _ (by rw [q]; decide) (by rw [q]; decide)
  · simp (decide := true) only [actC, actL, q, ↓reduceIte]
    exact hs _ (by rw [q]; decide) (by rw [q]; decide)
  · simp (decide := true) only [actC, actL, q, ↓reduceIte]
    exact hs _ (by rw [q]; decide) (by rw [q]; decide)
  · simp (decide := true) only [actC, actL, q, ↓reduceIte]
    exact hs _ (by rw [q]; decide) (by rw [q]; decide)
  · simp (decide := true) only [actC, actL, q, ↓reduceIte]
    exact hs _ (by rw [q]; decide) (by rw [q]; decide)
  · simp (decide := true) only [actC, actL, q, ↓reduceIte]
    exact hs _ (by rw [q]; decide) (by rw [q]; decide)
  · simp (decide := true) only [actC, actL, q, ↓reduceIte]
    split
    · exact ⟨(h.does hi h52 (Or.inr (hE.2.1 (by rw [q]; decide))) v).more le, ha.does i _ _⟩
    · exact ⟨(h.does hi h52 (Or.inr (hE.1 (by rw [q]; decide))) v).more le, ha.does i _ _⟩
