/-! what is done in a turn keeps the invariant -/
def AtW (N : Nat) (P : Pst) (i : Nat) : Prop := P 48 0 = nI i ∧ i < nfb P ∧ (∃ t, t ≤ 5 ∧ P 49 0 = nI t) ∧ ¬ P 51 0 = 0 ∧ N ≤ nfb P
theorem AtW.ag {P P' : Pst} {N i : Nat} (h : AtW N P i) (e : ∀ g, g = 48 ∨ g = 49 ∨ g = 51 → P' g 0 = P g 0) (hn : nfb P ≤ nfb P') : AtW N P' i := by
  obtain ⟨a, b, d, k, m⟩ := h
  unfold AtW
  rw [e 48 (by decide), e 49 (by decide), e 51 (by decide)]
  exact ⟨a, Nat.lt_of_lt_of_le b hn, d, k, Nat.le_trans m hn⟩
theorem AtW.ag0 {P P' : Pst} {N i : Nat} (h : AtW N P i) (e : ∀ g, g = 42 ∨ g = 48 ∨ g = 49 ∨ g = 51 → P' g 0 = P g 0) : AtW N P' i :=
  h.ag (fun g hg => e g (by omega)) (by unfold nfb; rw [e 42 (by decide)]; exact Nat.le_refl _)
theorem fail_fr (P : Pst) (i : Nat) (t d : Int32) {h y : Nat} (q : h ≠ 11 ∧ h ≠ 14 ∧ h ≠ 33 ∧ h ≠ 34 ∧ h ≠ 35) : p_R_fail P i t d h y = P h y := by
  unfold p_R_fail p_R_single
  simp only [up_e]
  rw [if_neg (by omega), if_neg (by omega), if_neg (by omega), if_neg (by omega), if_neg (by omega)]
theorem does_fr (P : Pst) (i : Nat) (e v : Int32) {h y : Nat} (q : h ≠ 11 ∧ h ≠ 12) : p_R_does P i e v h y = P h y := by
  unfold p_R_does
  simp only [up_e]
  rw [if_neg (by omega), if_neg (by omega)]
theorem fr_o (P : Pst) (i e : Nat) (v : Int32) {h y : Nat} (q : h ≠ 22 ∧ h ≠ 23 ∧ h ≠ 24 ∧ h ≠ 25 ∧ h ≠ 26 ∧ h ≠ 31 ∧ h ≠ 28) : p_R_frame P i e v h y = P h y := by
  unfold p_R_frame
  simp only [up_e]
  rw [if_neg (by omega), if_neg (by omega), if_neg (by omega), if_neg (by omega), if_neg (by omega), if_neg (by omega), if_neg (by omega)]
section Acts
variable {P : Pst} {LL : Lls} {c f j i N : Nat}
theorem AtW.give (h : AtW N P i) (x : Nat) (v : Int32) : AtW N (p_R_give P x v) i := h.ag0 (fun g hg => give_fr _ _ _ (by omega))
theorem AtW.fail (h : AtW N P i) (x : Nat) (t d : Int32) : AtW N (p_R_fail P x t d) i := h.ag0 (fun g hg => fail_fr _ _ _ _ (by omega))
theorem AtW.does (h : AtW N P i) (x : Nat) (e v : Int32) : AtW N (p_R_does P x e v) i := h.ag0 (fun g hg => does_fr _ _ _ _ (by omega))
theorem AtW.hand (h : AtW N P i) (x y : Nat) : AtW N (p_R_hand P x y) i := h.ag0 (fun g hg => hand_fr _ _ _ (by omega))
theorem AtW.rest (h : AtW N P i) (x : Nat) (w v t : Int32) : AtW N (p_R_rest P x w v t) i := h.ag0 (fun g hg => rs_o _ _ _ _ _ (by omega))
theorem AtW.wake (h : AtW N P i) (x : Nat) : AtW N (p_R_wake P x) i := h.ag0 (fun g hg => wake_fr _ _ (by omega))
theorem AtW.strike (h : AtW N P i) (x : Nat) (w : Int32) : AtW N (p_R_strike P x w) i := h.ag0 (fun g hg => strike_fr _ _ _ (by omega))
theorem AtW.up (h : AtW N P i) {g y : Nat} {x : Int32} (hg : ¬ g = 42 ∧ ¬ g = 48 ∧ ¬ g = 49 ∧ ¬ g = 51) : AtW N (up P g y x) i := h.ag0 (fun g' hg' => by rw [up_e, if_neg (by omega)])
theorem AtW.make (h : AtW N P i) (wb : WB P) (hn : nfb P < 10) (e v b : Int32) : AtW N (p_R_make P e v b) i :=
  h.ag (fun g hg => mk_P _ _ _ _ _ _ (by omega)) (by rw [show nfb (p_R_make P e v b) = nfb P + 1 from mk_tn wb hn e v b]; omega)
/-! a frame -/
theorem Core.framed (h : Core c f j P LL) (hi : i < nfb P) (h5 : ¬ P 5 i = 2) {e : Nat} (he : e < 40) (hk : P 0 e = 4 ∨ P 0 e = 5 ∨ P 0 e = 6 ∨ P 0 e = 7 ∨ P 0 e = 8 ∨ P 0 e = 9 ∨ P 0 e = 10) (v : Int32) : Core c f j (frP P i e v) LL := by
  unfold frP
  by_cases h16 : P 22 i = 16
  · rw [if_pos h16]; exact h.fail hi h5 _ _
  rw [if_neg h16]
  have wb := h.1.1
  have hp : tn (P 22 i) < 16 := ne_lt (wb 22 i) rfl h16
  have hw := (wb_frame wb i e v he hp).up (f := 10) (j := i) (mkM_01 wb i e)
  have e22 : (up (p_R_frame P i e v) 10 i (mkM P i e)) 22 i = P 22 i + 1 := by
    rw [up_f (by decide)]
    unfold p_R_frame
    simp [up_e]
  have hs1 : sm (P 1 e) 39 := by
    refine (h.1.2.2 e).1.1 ?_
    rcases hk with q | q | q | q | q | q | q <;> rw [q] <;> decide
  have h1 : Core c f j (up (p_R_frame P i e v) 10 i (mkM P i e)) LL := by
    refine h.tame h5 ?_ hw ?_
    · unfold p_R_frame
      refine Ag.up (Ag.up (Ag.up (Ag.up (Ag.up (Ag.up (Ag.up (Ag.up (Ag.refl _ P) ?_ _) ?_ _) ?_ _) ?_ _) ?_ _) ?_ _) ?_ _) ?_ _
      all_goals (unfold dT dU; omega)
    · refine (h.2.1 i hi).2.push (p := tn (P 22 i)) rfl ?_ hk ?_ ?_ ?_ ?_ ?_ ?_ ?_
      · rw [e22]; exact tn_inc (wb 22 i).1 (by omega)
      · intro x; rw [up_f (by decide), fr_o _ _ _ _ (by decide)]
      · rw [up_f (by decide)]; unfold p_R_frame; simp [up_e]
      · have e24 : (up (p_R_frame P i e v) 10 i (mkM P i e)) 24 (16 * i + tn (P 22 i)) = nI e := by
          rw [up_f (by decide)]; unfold p_R_frame; simp [up_e]
        rw [e24, tn_nI (by omega)]
      · rw [up_f (by decide)]; unfold p_R_frame; simp [up_e]
      · rw [up_f (by decide)]; unfold p_R_frame; simp [up_e]
      · intro q
        rw [up_s]
        unfold mkM
        rw [if_neg (by rintro (w | w) <;> rw [w] at q <;> exact absurd q (by decide)), if_neg (by intro w; rw [w] at q; exact absurd q (by decide))]
      · intro g q hg hq
        rw [up_f (by omega)]
        unfold p_R_frame
        simp only [up_e]
        rw [if_neg (by omega), if_neg (by omega), if_neg (by omega), if_neg (by omega), if_neg (by omega), if_neg (by omega), if_neg (by omega)]
  refine h1.does (i := i) ?_ ?_ (Or.inr hs1) v
  · unfold nfb; rw [up_f (by decide), fr_o _ _ _ _ (by decide)]; exact hi
  · rw [up_f (by decide), fr_o _ _ _ _ (by decide)]; exact h5
theorem AtW.framed (h : AtW N P i) (e : Nat) (v : Int32) : AtW N (frP P i e v) i := by
  unfold frP
  split
  · exact h.fail i _ _
  · refine h.ag0 (fun g hg => ?_)
    rw [does_fr _ _ _ _ (by omega), up_f (by omega), fr_o _ _ _ _ (by omega)]
/-! a closer -/
theorem Core.register (h : Core c f j P LL) (hi : i < nfb P) (h5 : ¬ P 5 i = 2) {e : Int32} (he : sm e 39) (v : Int32) : Core c f j (p_R_register P i e v) LL := by
  unfold p_R_register
  split
  · exact h.fail hi h5 _ _
  split
  · exact h.fail hi h5 _ _
  · rename_i q
    have h1 := h.quiet (i := i) (g := 29) (y := 4 * (16 * i + (rsc P i (tn (P 22 i)) - 1)) + tn (P 28 (16 * i + (rsc P i (tn (P 22 i)) - 1)))) (x := e) hi h5 (by unfold dU; omega) he
    have h2 := h1.quiet (i := i) (g := 30) (y := 4 * (16 * i + (rsc P i (tn (P 22 i)) - 1)) + tn (P 28 (16 * i + (rsc P i (tn (P 22 i)) - 1)))) (x := v) hi h5 (by unfold dU; omega) trivial
    have h3 := h2.quiet (i := i) (g := 28) (y := 16 * i + (rsc P i (tn (P 22 i)) - 1)) (x := P 28 (16 * i + (rsc P i (tn (P 22 i)) - 1)) + 1) hi h5 (by unfold dU; omega) (reg_4s (h.1.1 28 _) q)
    exact h3.give hi h5 v
theorem AtW.register (h : AtW N P i) (x : Nat) (e v : Int32) : AtW N (p_R_register P x e v) i := by
  unfold p_R_register
  split
  · exact h.fail x _ _
  split
  · exact h.fail x _ _
  · exact (((h.up (g := 29) (by decide)).up (g := 30) (by decide)).up (g := 28) (by decide)).give x v
/-! a promise kept, a gate left -/
theorem kp_L {v : Int32} {P : Pst} {LL : Lls} {n x : Nat} {l : List Nat} (hn : n < 4) (h : LI P 5 (nI n) (x :: l)) (h10 : nfb P ≤ 10) (hl : LL (1 + n) = x :: l) : lvL (p_R_give P x v) LL x = upL LL (1 + n) l := by
  have hw := ((h.1 x).mp List.mem_cons_self).2
  unfold lvL
  rw [give_fr _ _ _ (by decide), give_fr _ _ _ (by decide), if_pos hw.2.1, hw.2.2, tn_nI (by omega), hl, rmF_cons (fun y hy e => ?_)]
  have hx := ((h.1 x).mp List.mem_cons_self).1
  have hy' := ((h.1 y).mp (List.mem_cons_of_mem _ hy)).1
  have := (nI_eq (by omega) (by omega)).mp e
  rw [this] at hy
  exact (List.nodup_cons.mp h.nd).1 hy
theorem Core.foldK (v : Int32) {n : Nat} (hn : n < 4) : ∀ (l : List Nat) (P : Pst) (LL : Lls), Core c f j P LL → LL (1 + n) = l → (∀ x, x ∈ l → ¬ P 48 0 = nI x) → Core c f j (foldK v l P) (upL (upL LL 0 (LL 0 ++ l)) (1 + n) [])
  | [], P, LL, h, hl, _ => by
    rw [List.append_nil, upL_same (rfl : LL 0 = LL 0), upL_same hl]
    exact h
  | x :: l, P, LL, h, hl, h48 => by
    have hL := (h.2.2.2.2.1 n hn).1
    rw [hl] at hL
    have hx := (hL.1 x).mp List.mem_cons_self
    have h10 := n10 h.1.1
    have h1 := h.give hx.1 (by rw [hx.2.1]; decide) v
    have h2 := h1.wake (g := x) hx.1 hx.2.1 (h48 x List.mem_cons_self)
    rw [kp_L hn hL h10 hl] at h2
    have h3 := Core.foldK v hn l _ _ h2 (by rw [upL_n _ (by omega : 1 + n ≠ 0), upL_s]) (fun y hy => by rw [wake_fr _ _ (by decide), give_fr _ _ _ (by decide)]; exact h48 y (List.mem_cons_of_mem _ hy))
    have e : upL (upL (upL (upL LL (1 + n) l) 0 (LL 0 ++ [x])) 0 ((upL (upL LL (1 + n) l) 0 (LL 0 ++ [x])) 0 ++ l)) (1 + n) [] = upL (upL LL 0 (LL 0 ++ x :: l)) (1 + n) [] := by
      rw [upL_s, upL_upL, List.append_assoc]
      funext t
      unfold upL
      by_cases e1 : t = 1 + n
      · rw [if_pos e1, if_pos e1]
      · rw [if_neg e1, if_neg e1]
        by_cases e0 : t = 0
        · simp only [if_pos e0, if_neg e1]; rfl
        · simp only [if_neg e0, if_neg e1]
    rw [e] at h3
    exact h3
theorem fk_o (v : Int32) {a y : Nat} (ha : a ≠ 5 ∧ a ≠ 15 ∧ a ≠ 43 ∧ a ≠ 36 ∧ a ≠ 11 ∧ a ≠ 14 ∧ a ≠ 13) : ∀ (l : List Nat) (P : Pst), _root_.Jvm.Pilot.CFiberDeskLaw_law_r2789_ad6031.foldK v l P a y = P a y
  | [], _ => rfl
  | x :: l, P => (fk_o v ha l _).trans (kp_o P x v ha)
theorem Core.keep (h : Core c f j P LL) {n : Nat} (hn : n < 4) (h48 : ∀ x, x < nfb P → P 5 x = 1 → ¬ P 48 0 = nI x) (hi : i < nfb P) (h5 : ¬ P 5 i = 2) (v : Int32) : Core c f j (kpP P LL n v) (kpL P LL n) := by
  unfold kpP kpL
  by_cases q : P 41 n = 0
  · rw [if_pos q, if_pos q]
    have h1 := h.quiet (i := i) (g := 41) (y := n) (x := 1) hi h5 (by unfold dU; omega) (Or.inr rfl)
    have h2 := h1.quiet (i := i) (g := 38) (y := n) (x := v) hi h5 (by unfold dU; omega) trivial
    refine h2.foldK v hn _ _ _ rfl (fun x hx => ?_)
    have hw := ((h.2.2.2.2.1 n hn).1.1 x).mp hx
    exact h48 x hw.1 hw.2.1
  · rw [if_neg q, if_neg q]; exact h
theorem kpP_o (P : Pst) (LL : Lls) (n : Nat) (v : Int32) {a y : Nat} (ha : a ≠ 5 ∧ a ≠ 15 ∧ a ≠ 43 ∧ a ≠ 36 ∧ a ≠ 11 ∧ a ≠ 14 ∧ a ≠ 13 ∧ a ≠ 41 ∧ a ≠ 38) : kpP P LL n v a y = P a y := by
  unfold kpP
  split
  · rw [fk_o v ⟨ha.1, ha.2.1, ha.2.2.1, ha.2.2.2.1, ha.2.2.2.2.1, ha.2.2.2.2.2.1, ha.2.2.2.2.2.2.1⟩, up_f ha.2.2.2.2.2.2.2.2, up_f ha.2.2.2.2.2.2.2.1]
  · rfl
theorem fk_5 (v : Int32) {y : Nat} (hy : P 5 y = 0) : ∀ (l : List Nat) (Q : Pst), Q 5 y = 0 → _root_.Jvm.Pilot.CFiberDeskLaw_law_r2789_ad6031.foldK v l Q 5 y = 0
  | [], _, h => h
  | x :: l, Q, h => fk_5 v hy l _ (by rw [kp_5, h]; exact ite_self _)
theorem kpP_50 (LL : Lls) (n : Nat) (v : Int32) {y : Nat} (hy : P 5 y = 0) : kpP P LL n v 5 y = 0 := by
  unfold kpP
  split
  · exact fk_5 v hy _ _ hy
  · exact hy
theorem Core.leave (h : Core c f j P LL) {n : Nat} (hn : n < 4) (h48 : ∀ x, x < nfb P → P 5 x = 1 → ¬ P 48 0 = nI x) (hi : i < nfb P) (h5 : ¬ P 5 i = 2) : Core c f j (lgP P LL n) (lgL LL n) := by
  unfold lgP lgL
  have hL := (h.2.2.2.2.1 n hn).2
  cases hl : LL (5 + n) with
  | nil => exact h.quiet (i := i) hi h5 (by unfold dU; omega) trivial
  | cons x l =>
    rw [hl] at hL
    have hx := (hL.1 x).mp List.mem_cons_self
    have h1 := h.give hx.1 (by rw [hx.2.1]; decide) (P 17 x)
    have h2 := h1.wake (g := x) hx.1 hx.2.1 (h48 x hx.1 hx.2.1)
    have e : lvL (p_R_give P x (P 17 x)) LL x = upL LL (5 + n) (rmF (nI x) (LL (5 + n))) := by
      unfold lvL
      rw [give_fr _ _ _ (by decide), give_fr _ _ _ (by decide), hx.2.2.1, hx.2.2.2, tn_nI (by omega), if_neg (by decide), if_pos rfl]
    rw [e, hl] at h2
    exact h2
theorem lgP_o (P : Pst) (LL : Lls) (n : Nat) {a y : Nat} (ha : a ≠ 5 ∧ a ≠ 15 ∧ a ≠ 43 ∧ a ≠ 36 ∧ a ≠ 11 ∧ a ≠ 14 ∧ a ≠ 13 ∧ a ≠ 39) : lgP P LL n a y = P a y := by
  unfold lgP
  cases hl : LL (5 + n) with
  | nil => exact up_f ha.2.2.2.2.2.2.2 _ _ _ _
  | cons x l => exact kp_o P x _ ⟨ha.1, ha.2.1, ha.2.2.1, ha.2.2.2.1, ha.2.2.2.2.1, ha.2.2.2.2.2.1, ha.2.2.2.2.2.2.1⟩
/-! the pair of a race -/
theorem Core.s19 (h : Core c f j P LL) (h15 : ¬ P 15 i = 3) {g : Nat} {x : Int32} (hg : g = 19 ∨ g = 20 ∨ g = 21) (hx : rg g x) : Core c f j (up P g i x) LL := by
  obtain ⟨⟨w, l, ef⟩, fb, rc, q, li, ct⟩ := h
  have a : ∀ g' y, ¬ (g' = 19 ∨ g' = 20 ∨ g' = 21) → up P g i x g' y = P g' y := fun g' y h' => up_f (by omega) _ _ _ _
  have n42 : nfb (up P g i x) = nfb P := by unfold nfb; rw [a 42 0 (by decide)]
  refine ⟨⟨w.up hx, by rw [a 43 0 (by decide)]; exact l, fun e => (ef e).ag (fun g y hg => a g y (by omega))⟩, fun y hy => ?_, fun y hy h' => ?_, ?_, ?_, ?_⟩
  · rw [n42] at hy
    exact ⟨(fb y hy).1.ag (Nat.le_refl _) (fun g hg => a g y (by omega)) (Or.inl (a 6 y (by decide))), (fb y hy).2.ag (w 22 y).2 (fun e => a 0 e (by decide)) (a 10 y (by decide)) (a 22 y (by decide)) (fun g p hg hp => a g _ (by omega))⟩
  · rw [n42] at hy
    rw [a 15 y (by decide)] at h'
    have hne : y ≠ i := fun e => h15 (by rw [← e]; exact h')
    exact (rc y hy h').ag (Nat.le_of_eq n42.symm) (up_j hne _ _ _ _) (up_j hne _ _ _ _) (up_j hne _ _ _ _) (fun z _ => ⟨by rw [a 5 z (by decide)], fun _ => a 14 z (by decide)⟩)
  · exact q.ag rfl (Nat.le_of_eq n42.symm) (fun j _ => a 36 j (by decide)) (fun x _ => a 5 x (by decide)) (a 48 0 (by decide))
  · exact li.ag (fun _ _ => rfl) n42 (fun x _ => ⟨a 5 x (by decide), a 15 x (by decide), a 16 x (by decide), a 18 x (by decide)⟩)
  · exact ct.ag (Nat.le_refl _) n42 (fun x _ q => ⟨by rw [← a 5 x (by decide)]; exact q, a 18 x (by decide)⟩) (a 50 0 (by decide)) (a 44 0 (by decide)) (a 46 0 (by decide))
theorem AtW.w48 (h : AtW N P i) (wb : WB P) (h5 : ¬ P 5 i = 1) : ∀ x, x < nfb P → P 5 x = 1 → ¬ P 48 0 = nI x := fun x hx hq e => by
  have h10 := n10 wb
  have hi := h.2.1
  rw [h.1] at e
  have := (nI_eq (by omega) (by omega)).mp e
  rw [← this] at hq
  exact h5 hq
end Acts
