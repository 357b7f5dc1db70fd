/-! frames keep the invariant -/
section Frames
variable {P P' : Pst} {LL : Lls} {c f j i p : Nat}
theorem FbF.pop (h : FbF P i) (hp : tn (P 22 i) = p + 1) (hd : tn (P' 22 i) = p) (h10 : P' 10 i = mkv P i p) (h0 : ∀ e, P' 0 e = P 0 e) (eF : ∀ g q, g = 23 ∨ g = 24 ∨ g = 25 ∨ g = 31 → q < p → P' g (16 * i + q) = P g (16 * i + q)) : FbF P' i := by
  have em : ∀ q, q ≤ p → mkv P' i q = mkv P i q := fun q hq => by
    by_cases w : q = p
    · rw [w, ← h10]
      unfold mkv
      rw [hd, if_pos rfl]
    · unfold mkv
      rw [hd, hp, if_neg w, if_neg (by omega), eF 31 q (by decide) (by omega)]
  refine ⟨⟨(em 0 (Nat.zero_le _)).trans h.1.1, fun q hq hk => ?_⟩, fun q hq => ?_⟩
  · rw [hd] at hq
    rw [eF 23 q (by decide) hq] at hk
    rw [em _ (by omega), em _ (by omega)]
    exact h.1.2 q (by omega) hk
  · rw [hd] at hq
    exact (h.2 q (by omega)).ag h0 (eF 23 q (by decide) hq) (eF 24 q (by decide) hq) (fun w => by rw [← eF 25 q (by decide) hq]; exact w)
theorem FbF.top (h : FbF P i) (hp : tn (P 22 i) = p + 1) (hd : P' 22 i = P 22 i) (hk : P 23 (16 * i + p) = 6 ∨ P 23 (16 * i + p) = 7 ∨ P 23 (16 * i + p) = 10) (h0 : ∀ e, P' 0 e = P 0 e) (eF : ∀ g q, g = 23 ∨ g = 24 ∨ g = 31 → q ≤ p → P' g (16 * i + q) = P g (16 * i + q)) (e25 : ∀ q, q < p → P' 25 (16 * i + q) = P 25 (16 * i + q)) : FbF P' i := by
  have em : ∀ q, q ≤ p → mkv P' i q = mkv P i q := fun q hq => by
    unfold mkv
    rw [hd, hp, if_neg (by omega), if_neg (by omega), eF 31 q (by decide) hq]
  refine ⟨⟨(em 0 (Nat.zero_le _)).trans h.1.1, fun q hq hk' => ?_⟩, fun q hq => ?_⟩
  · rw [hd, hp] at hq
    rw [eF 23 q (by decide) (by omega)] at hk'
    by_cases w : q = p
    · rw [w] at hk'
      rcases hk with e | e | e <;> rw [e] at hk' <;> exact absurd hk' (by decide)
    · rw [em _ (by omega), em _ (by omega)]
      exact h.1.2 q (by omega) hk'
  · rw [hd, hp] at hq
    obtain ⟨a, b, d⟩ := h.2 q (by omega)
    unfold FrOK KdOK
    rw [h0, eF 23 q (by decide) (by omega), eF 24 q (by decide) (by omega)]
    refine ⟨a, b, fun w => ?_⟩
    by_cases e : q = p
    · rw [e]; exact hk
    · rw [e25 q (by omega)] at w
      exact d w
theorem FbF.push (h : FbF P i) (hp : tn (P 22 i) = p) (hd : tn (P' 22 i) = p + 1) {e : Nat} (hk : P 0 e = 4 ∨ P 0 e = 5 ∨ P 0 e = 6 ∨ P 0 e = 7 ∨ P 0 e = 8 ∨ P 0 e = 9 ∨ P 0 e = 10) (h0 : ∀ e, P' 0 e = P 0 e) (h23 : P' 23 (16 * i + p) = P 0 e) (h24 : tn (P' 24 (16 * i + p)) = e) (h25 : P' 25 (16 * i + p) = 0) (h31 : P' 31 (16 * i + p) = P 10 i) (hm : P 0 e = 4 ∨ P 0 e = 5 → P' 10 i = P 10 i) (eF : ∀ g q, g = 23 ∨ g = 24 ∨ g = 25 ∨ g = 31 → q < p → P' g (16 * i + q) = P g (16 * i + q)) : FbF P' i := by
  have em : ∀ q, q ≤ p → mkv P' i q = mkv P i q := fun q hq => by
    unfold mkv
    rw [hd, hp, if_neg (by omega)]
    by_cases w : q = p
    · rw [if_pos w, w, h31]
    · rw [if_neg w, eF 31 q (by decide) (by omega)]
  refine ⟨⟨(em 0 (Nat.zero_le _)).trans h.1.1, fun q hq hk' => ?_⟩, fun q hq => ?_⟩
  · rw [hd] at hq
    by_cases w : q = p
    · rw [w, h23] at hk'
      rw [w, em p (Nat.le_refl _)]
      unfold mkv
      rw [hd, hp, if_pos rfl, if_pos rfl, hm hk']
    · rw [eF 23 q (by decide) (by omega)] at hk'
      rw [em _ (by omega), em _ (by omega)]
      exact h.1.2 q (by omega) hk'
  · rw [hd] at hq
    by_cases w : q = p
    · rw [w]
      unfold FrOK KdOK
      rw [h0, h23, h24, h25]
      exact ⟨hk, rfl, fun q => absurd q (by decide)⟩
    · exact (h.2 q (by omega)).ag h0 (eF 23 q (by decide) (by omega)) (eF 24 q (by decide) (by omega)) (fun w => by rw [← eF 25 q (by decide) (by omega)]; exact w)
theorem dec22 (wb : WB P) (hp : tn (P 22 i) = p + 1) : tn (P 22 i - 1) = p ∧ sm (P 22 i - 1) 16 := by
  have h16 : tn (P 22 i) ≤ 16 := (wb 22 i).2
  have := tn_dec (wb 22 i).1 (by omega) (by omega)
  refine ⟨by omega, ?_⟩
  rw [this.1]
  exact sm_nI (by omega) (by decide)
theorem wb_dec22 (wb : WB P) (hp : tn (P 22 i) = p + 1) : WB (up P 22 i (P 22 i - 1)) := wb.up (f := 22) (dec22 wb hp).2
/-- a frame falls, the mask being what it was below -/
theorem Core.pop1 (h : Core c f j P LL) (hi : i < nfb P) (h5 : ¬ P 5 i = 2) (hp : tn (P 22 i) = p + 1) (hk : P 23 (16 * i + p) = 4 ∨ P 23 (16 * i + p) = 5) : Core c f j (up P 22 i (P 22 i - 1)) LL := by
  refine h.tame h5 ((Ag.refl _ P).up (by unfold dT; omega) _) (wb_dec22 h.1.1 hp) ?_
  have hF := (h.2.1 i hi).2
  refine hF.pop hp (by rw [up_s]; exact (dec22 h.1.1 hp).1) ?_ (fun e => by rw [up_f (by decide)]) (fun g q hg _ => by rw [up_f (by omega)])
  rw [up_f (by decide), ← hF.1.2 p (by omega) hk]
  unfold mkv
  rw [hp, if_pos rfl]
theorem mk31 (hp : tn (P 22 i) = p + 1) : P 31 (16 * i + p) = mkv P i p := by
  unfold mkv
  rw [hp, if_neg (by omega)]
theorem Core.pop2 (h : Core c f j P LL) (hi : i < nfb P) (h5 : ¬ P 5 i = 2) (hp : tn (P 22 i) = p + 1) : Core c f j (up (up P 22 i (P 22 i - 1)) 10 i (P 31 (16 * i + p))) LL := by
  refine h.tame h5 (((Ag.refl _ P).up (by unfold dT; omega) _).up (by unfold dT; omega) _) ((wb_dec22 h.1.1 hp).up (f := 10) (h.1.1 31 _)) ?_
  refine (h.2.1 i hi).2.pop hp ?_ ?_ (fun e => by rw [up_f (by decide), up_f (by decide)]) (fun g q hg _ => by rw [up_f (by omega), up_f (by omega)])
  · rw [up_f (by decide), up_s]; exact (dec22 h.1.1 hp).1
  · rw [up_s]; exact mk31 hp
theorem Core.mask (h : Core c f j P LL) (hi : i < nfb P) (h5 : ¬ P 5 i = 2) (hp : tn (P 22 i) = p + 1) (hk : P 23 (16 * i + p) = 6 ∨ P 23 (16 * i + p) = 7 ∨ P 23 (16 * i + p) = 10) {x : Int32} (hx : x = 0 ∨ x = 1) : Core c f j (up P 10 i x) LL := by
  refine h.tame h5 ((Ag.refl _ P).up (by unfold dT; omega) _) (h.1.1.up (f := 10) hx) ?_
  exact (h.2.1 i hi).2.top hp (up_f (by decide) _ _ _ _) hk (fun e => up_f (by decide) _ _ _ _) (fun g q hg _ => up_f (by omega) _ _ _ _) (fun q _ => up_f (by decide) _ _ _ _)
theorem Core.s25 (h : Core c f j P LL) (hi : i < nfb P) (h5 : ¬ P 5 i = 2) (hp : tn (P 22 i) = p + 1) (hk : P 23 (16 * i + p) = 6 ∨ P 23 (16 * i + p) = 7 ∨ P 23 (16 * i + p) = 10) (x : Int32) : Core c f j (up P 25 (16 * i + p) x) LL := by
  have h16 : tn (P 22 i) ≤ 16 := (h.1.1 22 i).2
  refine h.tame h5 ((Ag.refl _ P).up (by unfold dT; omega) _) (h.1.1.up (f := 25) trivial) ?_
  exact (h.2.1 i hi).2.top hp (up_f (by decide) _ _ _ _) hk (fun e => up_f (by decide) _ _ _ _) (fun g q hg _ => up_f (by omega) _ _ _ _) (fun q _ => up_j (by omega) _ _ _ _)
theorem Core.quiet (h : Core c f j P LL) (hi : i < nfb P) (h5 : ¬ P 5 i = 2) {g y : Nat} {x : Int32} (hg : dU i g y) (hx : rg g x) : Core c f j (up P g y x) LL := h.still hi h5 ((Ag.refl _ P).up hg _) (h.1.1.up hx)
theorem Core.close (h : Core c f j P LL) (hi : i < nfb P) (h5 : ¬ P 5 i = 2) (hp : tn (P 22 i) = p + 1) (hk : P 23 (16 * i + p) = 6 ∨ P 23 (16 * i + p) = 7 ∨ P 23 (16 * i + p) = 10) : Core c f j (p_R_close P i (16 * i + p)) LL := by
  unfold p_R_close
  have wb := h.1.1
  by_cases h28 : P 28 (16 * i + p) ≤ 0
  · rw [if_pos h28]
    have h1 := (((h.pop2 hi h5 hp).give hi h5 (P 27 (16 * i + p))).quiet (g := 14) (y := i) hi h5 (x := P 32 (16 * i + p)) (by unfold dU; omega) (wb 32 _))
    by_cases h32 : P 32 (16 * i + p) = 0
    · rw [if_pos h32]; exact h1
    · rw [if_neg h32]
      exact h1.still hi h5 (copy_dU _ i _ _) (wb_copy h1.1.1 _ _)
  · rw [if_neg h28]
    have h4 : sm (P 28 (16 * i + p)) 4 := wb 28 _
    have h41 := tn_dec h4.1 (ix_gt0 h4.1 h28) (by have := h4.2; omega)
    have h1 : Core c f j (up P 28 (16 * i + p) (P 28 (16 * i + p) - 1)) LL := h.quiet hi h5 (by unfold dU; omega) (by rw [h41.1]; exact sm_nI (by have := h4.2; omega) (by decide))
    have h2 : Core c f j (up (up P 28 (16 * i + p) (P 28 (16 * i + p) - 1)) 10 i 1) LL := h1.mask hi h5 hp hk (Or.inr rfl)
    exact h2.does hi h5 (Or.inr (wb 29 _)) _
theorem Core.closes (h : Core c f j P LL) (hi : i < nfb P) (h5 : ¬ P 5 i = 2) (hp : tn (P 22 i) = p + 1) (hk : P 23 (16 * i + p) = 6 ∨ P 23 (16 * i + p) = 7 ∨ P 23 (16 * i + p) = 10) : Core c f j (p_R_closes P i (16 * i + p)) LL := by
  unfold p_R_closes
  have wb := h.1.1
  have h1 : Core c f j (up P 25 (16 * i + p) 9) LL := h.s25 hi h5 hp hk 9
  have h2 : Core c f j (up (up P 25 (16 * i + p) 9) 32 (16 * i + p) (P 14 i)) LL := h1.quiet hi h5 (by unfold dU; omega) (wb 14 _)
  have h3 : Core c f j (up (up (up P 25 (16 * i + p) 9) 32 (16 * i + p) (P 14 i)) 27 (16 * i + p) (P 13 i)) LL := h2.quiet hi h5 (by unfold dU; omega) trivial
  by_cases h14 : P 14 i = 0
  · rw [if_pos h14]
    exact h3.close hi h5 hp hk
  · rw [if_neg h14]
    have h4 := h3.still hi h5 (copy_dU _ i i (10 + (16 * i + p))) (wb_copy h3.1.1 _ _)
    refine h4.close hi ?_ ?_ ?_
    · rw [copy_fr _ _ _ (by decide)]; exact h5
    · rw [copy_fr _ _ _ (by decide)]; exact hp
    · rw [copy_fr _ _ _ (by decide)]; exact hk
theorem Core.closes1 (h : Core c f j P LL) (hi : i < nfb P) (h5 : ¬ P 5 i = 2) (hp : tn (P 22 i) = p + 1) (hk : P 23 (16 * i + p) = 6 ∨ P 23 (16 * i + p) = 7 ∨ P 23 (16 * i + p) = 10) {x y : Int32} (hx : sm x 39) : Core c f j (p_R_closes (up (up (up P 29 (4 * (16 * i + p)) x) 30 (4 * (16 * i + p)) y) 28 (16 * i + p) 1) i (16 * i + p)) LL := by
  have h1 : Core c f j (up P 29 (4 * (16 * i + p)) x) LL := h.quiet hi h5 (by unfold dU; omega) hx
  have h2 : Core c f j (up (up P 29 (4 * (16 * i + p)) x) 30 (4 * (16 * i + p)) y) LL := h1.quiet hi h5 (by unfold dU; omega) trivial
  have h3 : Core c f j (up (up (up P 29 (4 * (16 * i + p)) x) 30 (4 * (16 * i + p)) y) 28 (16 * i + p) 1) LL := h2.quiet hi h5 (by unfold dU; omega) (show sm 1 4 from sm_nI (n := 1) (by decide) (by decide))
  exact h3.closes hi h5 hp hk
theorem need_2 {P : Pst} {e : Nat} (h : EfX P e) (hk : P 0 e = 4 ∨ P 0 e = 5 ∨ P 0 e = 6 ∨ P 0 e = 7) : sm (P 2 e) 39 := by
  refine h.1.2.1 ?_
  rcases hk with q | q | q | q <;> rw [q] <;> decide
theorem need_3 {P : Pst} {e : Nat} (h : EfX P e) (hk : P 0 e = 5 ∨ P 0 e = 7) : sm (P 3 e) 39 := by
  refine h.2.1 ?_
  rcases hk with q | q <;> rw [q] <;> decide
theorem Core.comes (h : Core c f j P LL) (hi : i < nfb P) (h5 : ¬ P 5 i = 2) (hp : tn (P 22 i) = p + 1) : Core c f j (p_R_comes P i (16 * i + p)) LL := by
  obtain ⟨kd, k0, k9⟩ := (h.2.1 i hi).2.2 p (by omega)
  have wb := h.1.1
  have hef := h.1.2.2 (tn (P 24 (16 * i + p)))
  have s2 : P 23 (16 * i + p) = 4 ∨ P 23 (16 * i + p) = 5 ∨ P 23 (16 * i + p) = 6 ∨ P 23 (16 * i + p) = 7 → sm (P 2 (tn (P 24 (16 * i + p)))) 39 := fun q => need_2 hef (by rw [k0]; exact q)
  have s3 : P 23 (16 * i + p) = 5 ∨ P 23 (16 * i + p) = 7 → sm (P 3 (tn (P 24 (16 * i + p)))) 39 := fun q => need_3 hef (by rw [k0]; exact q)
  by_cases h9 : P 25 (16 * i + p) = 9
  · have hk := k9 h9
    by_cases h14 : P 14 i = 0
    · rw [cm_v9 h14 h9]
      have h1 : Core c f j (up P 32 (16 * i + p) (P 32 (16 * i + p) ||| 0)) LL := h.quiet hi h5 (by unfold dU; omega) (or0_01 (wb 32 _))
      exact h1.close hi h5 hp hk
    · by_cases h32 : P 32 (16 * i + p) = 0
      · rw [cm_c90 h14 h9 h32]
        have h1 := h.still hi h5 (copy_dU P i i (10 + (16 * i + p))) (wb_copy wb _ _)
        have e : ∀ a y, a ≠ 34 ∧ a ≠ 35 ∧ a ≠ 33 → p_R_copy P i (10 + (16 * i + p)) a y = P a y := fun a y q => copy_fr _ _ _ q
        have e42 : nfb (p_R_copy P i (10 + (16 * i + p))) = nfb P := by unfold nfb; rw [e 42 0 (by decide)]
        have h2 : Core c f j (up (p_R_copy P i (10 + (16 * i + p))) 32 (16 * i + p) (p_R_copy P i (10 + (16 * i + p)) 32 (16 * i + p) ||| 1)) LL := h1.quiet (i := i) (by rw [e42]; exact hi) (by rw [e 5 i (by decide)]; exact h5) (by unfold dU; omega) (or1_01 (h1.1.1 32 _))
        refine h2.close (i := i) (p := p) (by show i < nfb (p_R_copy P i (10 + (16 * i + p))); rw [e42]; exact hi) ?_ ?_ ?_
        · rw [up_f (by decide), e 5 i (by decide)]; exact h5
        · rw [up_f (by decide), e 22 i (by decide)]; exact hp
        · rw [up_f (by decide), e 23 _ (by decide)]; exact hk
      · rw [cm_c91 h14 h9 h32]
        have h1 := h.still hi h5 (join_dU P i (10 + (16 * i + p)) i 4) (wb_join wb _ _ _)
        have e : ∀ a y, a ≠ 34 ∧ a ≠ 35 ∧ a ≠ 33 → p_R_join P (10 + (16 * i + p)) i 4 a y = P a y := fun a y q => join_fr _ _ _ _ q
        have e42 : nfb (p_R_join P (10 + (16 * i + p)) i 4) = nfb P := by unfold nfb; rw [e 42 0 (by decide)]
        have h2 : Core c f j (up (p_R_join P (10 + (16 * i + p)) i 4) 32 (16 * i + p) (p_R_join P (10 + (16 * i + p)) i 4 32 (16 * i + p) ||| 1)) LL := h1.quiet (i := i) (by rw [e42]; exact hi) (by rw [e 5 i (by decide)]; exact h5) (by unfold dU; omega) (or1_01 (h1.1.1 32 _))
        refine h2.close (i := i) (p := p) (by show i < nfb (p_R_join P (10 + (16 * i + p)) i 4); rw [e42]; exact hi) ?_ ?_ ?_
        · rw [up_f (by decide), e 5 i (by decide)]; exact h5
        · rw [up_f (by decide), e 22 i (by decide)]; exact hp
        · rw [up_f (by decide), e 23 _ (by decide)]; exact hk
  · rcases kd with k | k | k | k | k | k | k
    · have h1 := h.pop1 hi h5 hp (Or.inl k)
      by_cases h14 : P 14 i = 0
      · rw [cm_v4 h14 h9 k]
        exact h1.does hi h5 (Or.inr (s2 (Or.inl k))) _
      · rw [cm_c4 h14 h9 k]; exact h1
    · have h1 := h.pop1 hi h5 hp (Or.inr k)
      by_cases h14 : P 14 i = 0
      · rw [cm_v5 h14 h9 k]
        exact h1.does hi h5 (Or.inr (s2 (Or.inr (Or.inl k)))) _
      · rw [cm_c5 h14 h9 k]
        split
        · exact h1.does hi h5 (Or.inr (s3 (Or.inl k))) _
        · exact h1
    · have e : p_R_comes P i (16 * i + p) = p_R_closes (up (up (up P 29 (4 * (16 * i + p)) (P 2 (tn (P 24 (16 * i + p))))) 30 (4 * (16 * i + p)) (P 26 (16 * i + p))) 28 (16 * i + p) 1) i (16 * i + p) := by
        by_cases h14 : P 14 i = 0
        · exact cm_v6 h14 h9 k
        · exact cm_c6 h14 h9 k
      rw [e]
      exact h.closes1 hi h5 hp (Or.inl k) (s2 (Or.inr (Or.inr (Or.inl k))))
    · by_cases h0 : P 25 (16 * i + p) = 0
      · by_cases h14 : P 14 i = 0
        · rw [cm_v70 h14 h9 k h0]
          have h1 : Core c f j (up P 10 i (P 31 (16 * i + p))) LL := h.mask hi h5 hp (Or.inr (Or.inl k)) (wb 31 _)
          have h2 : Core c f j (up (up P 10 i (P 31 (16 * i + p))) 25 (16 * i + p) 1) LL := h1.s25 hi h5 hp (Or.inr (Or.inl k)) 1
          have h3 : Core c f j (up (up (up P 10 i (P 31 (16 * i + p))) 25 (16 * i + p) 1) 26 (16 * i + p) (P 13 i)) LL := h2.quiet hi h5 (by unfold dU; omega) trivial
          exact h3.does hi h5 (Or.inr (s2 (Or.inr (Or.inr (Or.inr k))))) _
        · rw [cm_c70 h14 h9 k h0, up_up P (f := 10) (i := i) (g := 22) (j := i) (by omega)]
          exact h.pop2 hi h5 hp
      · have e : p_R_comes P i (16 * i + p) = p_R_closes (up (up (up P 29 (4 * (16 * i + p)) (P 3 (tn (P 24 (16 * i + p))))) 30 (4 * (16 * i + p)) (P 26 (16 * i + p))) 28 (16 * i + p) 1) i (16 * i + p) := by
          by_cases h14 : P 14 i = 0
          · exact cm_v71 h14 h9 k h0
          · exact cm_c71 h14 h9 k h0
        rw [e]
        exact h.closes1 hi h5 hp (Or.inr (Or.inl k)) (s3 (Or.inr k))
    · have e : p_R_comes P i (16 * i + p) = up (up P 22 i (P 22 i - 1)) 10 i (P 31 (16 * i + p)) := by
        by_cases h14 : P 14 i = 0
        · exact cm_v8 h14 h9 k
        · exact cm_c8 h14 h9 k
      rw [e]
      exact h.pop2 hi h5 hp
    · have e : p_R_comes P i (16 * i + p) = up (up P 22 i (P 22 i - 1)) 10 i (P 31 (16 * i + p)) := by
        by_cases h14 : P 14 i = 0
        · exact cm_v9k h14 h9 k
        · exact cm_c9k h14 h9 k
      rw [e]
      exact h.pop2 hi h5 hp
    · have e : p_R_comes P i (16 * i + p) = p_R_closes P i (16 * i + p) := by
        by_cases h14 : P 14 i = 0
        · exact cm_v10 h14 h9 k
        · exact cm_c10 h14 h9 k
      rw [e]
      exact h.closes hi h5 hp (Or.inr (Or.inr k))
end Frames
