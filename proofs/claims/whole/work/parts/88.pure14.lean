/-! each call keeps the invariant; its answers are the reference's -/
section Calls
variable {P P' : Pst} {LL L : Lls} {c f j i : Nat}
def dV0 (g : Nat) : Prop := g = 37 ∨ g = 38 ∨ g = 39 ∨ g = 40 ∨ g = 41
theorem Core.free (h : Core c f j P LL) (hA : ∀ g y, ¬ dV0 g → P' g y = P g y) (hw : WB P') : Core c f j P' LL := by
  obtain ⟨⟨w, l, ef⟩, fb, rc, q, li, ct⟩ := h
  have a : ∀ g y, (g < 37 ∨ 42 ≤ g) → P' g y = P g y := fun g y hg => hA g y (by unfold dV0; omega)
  have n42 : nfb P' = nfb P := by unfold nfb; rw [a 42 0 (by decide)]
  refine ⟨⟨hw, by rw [a 43 0 (by decide)]; exact l, fun e => (ef e).ag (fun g y hg => a g y (by omega))⟩, fun x hx => ?_, fun g hg h15 => ?_, ?_, ?_, ?_⟩
  · rw [n42] at hx
    exact ⟨(fb x hx).1.ag (Nat.le_refl _) (fun g hg => a g x (by omega)) (Or.inl (a 6 x (by decide))), (fb x hx).2.ag (w 22 x).2 (fun e => a 0 e (by decide)) (a 10 x (by decide)) (a 22 x (by decide)) (fun g p hg hp => a g _ (by omega))⟩
  · rw [n42] at hg
    rw [a 15 g (by decide)] at h15
    exact (rc g hg h15).ag (Nat.le_of_eq n42.symm) (a 19 g (by decide)) (a 20 g (by decide)) (a 21 g (by decide)) (fun x _ => ⟨by rw [a 5 x (by decide)], fun _ => a 14 x (by decide)⟩)
  · exact q.ag rfl (Nat.le_of_eq n42.symm) (fun j _ => a 36 j (by decide)) (fun x _ => a 5 x (by decide)) (a 48 0 (by decide))
  · exact li.ag (fun _ _ => rfl) n42 (fun x _ => ⟨a 5 x (by decide), a 15 x (by decide), a 16 x (by decide), a 18 x (by decide)⟩)
  · exact ct.ag (Nat.le_refl _) n42 (fun x _ q => ⟨by rw [← a 5 x (by decide)]; exact q, a 18 x (by decide)⟩) (a 50 0 (by decide)) (a 44 0 (by decide)) (a 46 0 (by decide))
theorem Inv.w48 (h : Inv c P LL) : ∀ x, x < nfb P → P 5 x = 1 → ¬ P 48 0 = nI x := fun x hx hq e => by
  have h10 := n10 h.1.1.1
  rcases h.2.2 with w | ⟨i, hi, w, h5, -⟩
  · have h2 : (-1 : Int32) < 0 := by decide
    rw [← w, e] at h2
    exact absurd h2 (nI_pos (by omega))
  · rw [w] at e
    have := (nI_eq (by omega) (by omega)).mp e
    rw [← this, h5] at hq
    exact absurd hq (by decide)
/-! interrupt -/
theorem Inv.interrupt (h : Inv c P LL) (x : Int32) : Inv c (p_R_interrupt P x) (itL P LL x) := by
  unfold p_R_interrupt itL
  by_cases q1 : P 51 0 = 0
  · rw [if_pos q1, if_pos q1]; exact h
  rw [if_neg q1, if_neg q1]
  by_cases q2 : a_R_in x 0 (P 42 0 - 1) = 0
  · rw [if_pos q2, if_pos q2]; exact h
  rw [if_neg q2, if_neg q2]
  by_cases q3 : P 5 (tn x) = 2
  · rw [if_pos q3, if_pos q3]; exact h
  rw [if_neg q3, if_neg q3]
  have hx := in_nat1 q2 (nf_nI h.1.1.1) (by have := n10 h.1.1.1; omega)
  have e : ∀ g y, g ≠ 5 ∧ g ≠ 6 ∧ g ≠ 7 ∧ g ≠ 15 ∧ g ≠ 36 ∧ g ≠ 43 → p_R_strike P (tn x) (-1) g y = P g y := fun g y q => strike_fr _ _ _ q
  refine ⟨h.1.strike hx.2 (h.w48 _ hx.2) (-1), ?_, ?_⟩
  · rw [e 51 0 (by decide), st_n]; exact h.2.1
  · rw [e 48 0 (by decide), st_n, e 49 0 (by decide)]
    rcases h.2.2 with w | ⟨i, hi, w, h5, t⟩
    · exact Or.inl w
    · exact Or.inr ⟨i, hi, w, st_5 P (tn x) (-1) h5, t⟩
/-! keep -/
theorem Inv.kp (h : Inv c P LL) {n : Nat} (hn : n < 4) (v : Int32) : Inv c (kpP P LL n v) (kpL P LL n) := by
  have e : ∀ g y, g ≠ 5 ∧ g ≠ 15 ∧ g ≠ 43 ∧ g ≠ 36 ∧ g ≠ 11 ∧ g ≠ 14 ∧ g ≠ 13 ∧ g ≠ 41 ∧ g ≠ 38 → kpP P LL n v g y = P g y := fun g y q => kpP_o _ _ _ _ q
  have n42 : nfb (kpP P LL n v) = nfb P := by unfold nfb; rw [e 42 0 (by decide)]
  refine ⟨?_, by rw [e 51 0 (by decide), n42]; exact h.2.1, ?_⟩
  · unfold kpP kpL
    by_cases q : P 41 n = 0
    · rw [if_pos q, if_pos q]
      have h1 : Core c 0 10 (up (up P 41 n 1) 38 n v) LL := h.1.free (fun g y hg => by unfold dV0 at hg; rw [up_f (by omega), up_f (by omega)]) ((h.1.1.1.up (f := 41) (Or.inr rfl)).up (f := 38) trivial)
      refine h1.foldK v hn _ _ _ rfl (fun x hx => ?_)
      have hw := ((h.1.2.2.2.2.1 n hn).1.1 x).mp hx
      exact h.w48 x hw.1 hw.2.1
    · rw [if_neg q, if_neg q]; exact h.1
  · rw [e 48 0 (by decide), n42, e 49 0 (by decide)]
    rcases h.2.2 with w | ⟨i, hi, w, h5, t⟩
    · exact Or.inl w
    · exact Or.inr ⟨i, hi, w, kpP_50 (P := P) LL n v h5, t⟩
theorem Inv.keep (h : Inv c P LL) (x v : Int32) : ekP P LL x v = p_R_keep P x v ∧ Inv c (p_R_keep P x v) (ekL P LL x) ∧ okk (tn x) v 10 (up (up P 41 (tn x) 1) 38 (tn x) v) := by
  have wb := h.1.1.1
  have hok : okk (tn x) v 10 (up (up P 41 (tn x) 1) 38 (tn x) v) := by
    by_cases q : tn x < 4
    · exact okk_keeps wb (h.1.2.2.2.2.1 (tn x) q).1 (h.1.ln1 q).2.2 v
    · have hl : LI P 5 (nI (tn x)) [] := by
        refine ⟨fun y => ⟨fun w => absurd w List.not_mem_nil, fun w => ?_⟩, List.Pairwise.nil⟩
        obtain ⟨n, hn, en⟩ := (h.1.2.1 y w.1).1.2.2.2.1 (Or.inl w.2.2.1)
        have := (nI_eq (by omega) (tn_lt x)).mp (en.symm.trans w.2.2.2)
        omega
      exact okk_of (tn x) v 10 [] (up (up P 41 (tn x) 1) 38 (tn x) v) (show nfb P ≤ 10 from n10 wb) ((hl.up (f := 41) (by decide)).up (f := 38) (by decide)) (Nat.zero_le _) (wb 43 0).1 (wb 43 0).2
  unfold ekP p_R_keep ekL
  by_cases q1 : P 51 0 = 0
  · rw [if_pos q1, if_pos q1, if_pos q1]; exact ⟨rfl, h, hok⟩
  rw [if_neg q1, if_neg q1, if_neg q1]
  by_cases q2 : a_R_in x 0 3 = 0
  · rw [if_pos q2, if_pos q2, if_pos q2]; exact ⟨rfl, h, hok⟩
  rw [if_neg q2, if_neg q2, if_neg q2]
  have hx := in_nat (m := 3) q2 rfl (by decide)
  have hx4 : tn x < 4 := by omega
  have hl := (h.1.2.2.2.2.1 (tn x) hx4).1
  rw [ite_self, kpP_eq (n10 h.1.1.1) hl v]
  refine ⟨rfl, ?_, hok⟩
  have := h.kp hx4 v
  rw [kpP_eq (n10 h.1.1.1) hl v] at this
  exact this
/-! effect -/
theorem FbF.agE (h : FbF P i) (h0 : ∀ e, ¬ P 0 e = 0 → P' 0 e = P 0 e) (ha : ∀ g y, g = 10 ∨ g = 22 ∨ g = 23 ∨ g = 24 ∨ g = 25 ∨ g = 31 → P' g y = P g y) : FbF P' i := by
  have em : ∀ q, mkv P' i q = mkv P i q := fun q => by
    unfold mkv
    rw [ha 22 i (by decide), ha 10 i (by decide), ha 31 _ (by decide)]
  refine ⟨⟨(em 0).trans h.1.1, fun p hp hk => ?_⟩, fun p hp => ?_⟩
  · rw [ha 22 i (by decide)] at hp
    rw [ha 23 _ (by decide)] at hk
    rw [em, em]
    exact h.1.2 p hp hk
  · rw [ha 22 i (by decide)] at hp
    obtain ⟨a, b, d⟩ := h.2 p hp
    have hne : ¬ P 0 (tn (P 24 (16 * i + p))) = 0 := by
      rw [b]
      rcases a with q | q | q | q | q | q | q <;> rw [q] <;> decide
    unfold FrOK KdOK
    rw [ha 23 _ (by decide), ha 24 _ (by decide), ha 25 _ (by decide), h0 _ hne]
    exact ⟨a, b, d⟩
theorem in_sm {x : Int32} (wb : WB P) (h : ¬ a_R_isEffect P x = 0) : sm x 39 := by
  have h4 : sm (P 4 0) 40 := wb 4 0
  have := in_nat1 h h4.1 (by have := h4.2; omega)
  have h5 := h4.2
  exact ⟨this.1, by omega⟩
theorem Inv.efP (h : Inv c P LL) {k a b d : Int32} (hwf : ¬ wfC P k a b d = 0) (h40 : ¬ P 4 0 = 40) : Inv c (efP P k a b d) LL := by
  have wb := h.1.1.1
  have hn : nef P < 40 := ne_lt (wb 4 0) rfl h40
  have kk : a_R_in k 0 25 ≠ 0 ∧ (¬ a_R_needs k ≤ 0 → sm a 39) ∧ (¬ a_R_needs k ≤ 1 → sm b 39) ∧ (¬ a_R_needs k ≤ 2 → sm d 39) ∧ (¬ a_R_in k 19 24 = 0 → ¬ a_R_in a 0 3 = 0) := by
    unfold wfC at hwf
    by_cases q0 : a_R_in k 0 25 = 0
    · rw [if_pos q0] at hwf; exact absurd rfl hwf
    rw [if_neg q0] at hwf
    by_cases q1 : ¬ a_R_needs k ≤ 0 ∧ a_R_isEffect P a = 0
    · rw [if_pos q1] at hwf; exact absurd rfl hwf
    rw [if_neg q1] at hwf
    by_cases q2 : ¬ a_R_needs k ≤ 1 ∧ a_R_isEffect P b = 0
    · rw [if_pos q2] at hwf; exact absurd rfl hwf
    rw [if_neg q2] at hwf
    by_cases q3 : ¬ a_R_needs k ≤ 2 ∧ a_R_isEffect P d = 0
    · rw [if_pos q3] at hwf; exact absurd rfl hwf
    rw [if_neg q3] at hwf
    by_cases q4 : ¬ a_R_in k 19 24 = 0 ∧ a_R_in a 0 3 = 0
    · rw [if_pos q4] at hwf; exact absurd rfl hwf
    exact ⟨q0, fun w => in_sm wb (fun z => q1 ⟨w, z⟩), fun w => in_sm wb (fun z => q2 ⟨w, z⟩), fun w => in_sm wb (fun z => q3 ⟨w, z⟩), fun w z => q4 ⟨w, z⟩⟩
  obtain ⟨k0, k1, k2, k3, k4⟩ := kk
  have hk25 := in_nat (m := 25) k0 rfl (by decide)
  have o : ∀ g y, ¬ (g < 5) → _root_.Jvm.Pilot.CFiberDeskLaw_law_r2789_ad6031.efP P k a b d g y = P g y := fun g y hg => by
    unfold _root_.Jvm.Pilot.CFiberDeskLaw_law_r2789_ad6031.efP
    rw [up_f (by omega), up_f (by omega), up_f (by omega), up_f (by omega), up_f (by omega)]
  have o1 : ∀ g y, g < 4 → ¬ y = nef P → _root_.Jvm.Pilot.CFiberDeskLaw_law_r2789_ad6031.efP P k a b d g y = P g y := fun g y hg hy => by
    unfold _root_.Jvm.Pilot.CFiberDeskLaw_law_r2789_ad6031.efP
    have hy' : ¬ y = tn (P 4 0) := hy
    rw [up_f (by omega), up_j hy', up_j hy', up_j hy', up_j hy']
  have v0 : _root_.Jvm.Pilot.CFiberDeskLaw_law_r2789_ad6031.efP P k a b d 0 (nef P) = k := by
    unfold _root_.Jvm.Pilot.CFiberDeskLaw_law_r2789_ad6031.efP nef
    simp [up_e]
  have v1 : _root_.Jvm.Pilot.CFiberDeskLaw_law_r2789_ad6031.efP P k a b d 1 (nef P) = a := by
    unfold _root_.Jvm.Pilot.CFiberDeskLaw_law_r2789_ad6031.efP nef
    simp [up_e]
  have v2 : _root_.Jvm.Pilot.CFiberDeskLaw_law_r2789_ad6031.efP P k a b d 2 (nef P) = b := by
    unfold _root_.Jvm.Pilot.CFiberDeskLaw_law_r2789_ad6031.efP nef
    simp [up_e]
  have v3 : _root_.Jvm.Pilot.CFiberDeskLaw_law_r2789_ad6031.efP P k a b d 3 (nef P) = d := by
    unfold _root_.Jvm.Pilot.CFiberDeskLaw_law_r2789_ad6031.efP nef
    simp [up_e]
  have v4 : _root_.Jvm.Pilot.CFiberDeskLaw_law_r2789_ad6031.efP P k a b d 4 0 = P 4 0 + 1 := by
    unfold _root_.Jvm.Pilot.CFiberDeskLaw_law_r2789_ad6031.efP
    rw [up_s]
  have hwb : WB (_root_.Jvm.Pilot.CFiberDeskLaw_law_r2789_ad6031.efP P k a b d) := ((((wb.up (f := 0) trivial).up (f := 1) trivial).up (f := 2) trivial).up (f := 3) trivial).up (f := 4) (sm_inc' (wb 4 0).1 hn (by decide))
  generalize _root_.Jvm.Pilot.CFiberDeskLaw_law_r2789_ad6031.efP P k a b d = P' at o o1 v0 v1 v2 v3 v4 hwb ⊢
  have n4 : nef P' = nef P + 1 := by
    unfold nef
    rw [v4, tn_inc (wb 4 0).1 (by unfold nef at hn; omega)]
  have n42 : nfb P' = nfb P := by unfold nfb; rw [o 42 0 (by decide)]
  obtain ⟨⟨⟨w, l, ef⟩, fb, rc, q, li, ct⟩, hs, h48⟩ := h
  refine ⟨⟨⟨?_, by rw [o 43 0 (by decide)]; exact l, fun e => ?_⟩, fun x hx => ?_, fun g hg h15 => ?_, ?_, ?_, ?_⟩, by rw [o 51 0 (by decide), n42]; exact hs, ?_⟩
  · exact hwb
  · by_cases e1 : e = nef P
    · rw [e1]
      unfold EfX EfOK
      rw [v0, v1, v2, v3, n4]
      refine ⟨⟨k1, k2, fun w1 w2 => ?_, ⟨tn k, hk25.2, hk25.1⟩⟩, k3, fun w => by omega⟩
      have : ¬ a_R_in k 19 24 = 0 := by
        unfold a_R_in
        rw [if_neg w1]
        have h26 : ¬ (24 : Int32) < k := fun z => by
          rw [hk25.1] at z w2
          have h1 := (nI_ltI (a := 24) (b := tn k) (by decide) (by have := hk25.2; omega)).mp z
          have h2 : tn k = 25 := by have := hk25.2; omega
          rw [h2] at w2
          exact w2 rfl
        rw [if_neg h26]
        decide
      have hx := in_nat (m := 3) (k4 this) rfl (by decide)
      exact ⟨tn a, by omega, hx.1⟩
    · have := ef e
      unfold EfX EfOK at this ⊢
      rw [o1 0 e (by decide) e1, o1 1 e (by decide) e1, o1 2 e (by decide) e1, o1 3 e (by decide) e1, n4]
      exact ⟨this.1, this.2.1, fun w => this.2.2 (by omega)⟩
  · rw [n42] at hx
    refine ⟨(fb x hx).1.ag (Nat.le_refl _) (fun g hg => o g x (by omega)) (Or.inl (o 6 x (by decide))), (fb x hx).2.agE (fun e he => o1 0 e (by decide) (fun e1 => he ((ef e).2.2 (by omega)))) (fun g y hg => o g y (by omega))⟩
  · rw [n42] at hg
    rw [o 15 g (by decide)] at h15
    exact (rc g hg h15).ag (Nat.le_of_eq n42.symm) (o 19 g (by decide)) (o 20 g (by decide)) (o 21 g (by decide)) (fun x _ => ⟨by rw [o 5 x (by decide)], fun _ => o 14 x (by decide)⟩)
  · exact q.ag rfl (Nat.le_of_eq n42.symm) (fun j _ => o 36 j (by decide)) (fun x _ => o 5 x (by decide)) (o 48 0 (by decide))
  · exact li.ag (fun _ _ => rfl) n42 (fun x _ => ⟨o 5 x (by decide), o 15 x (by decide), o 16 x (by decide), o 18 x (by decide)⟩)
  · exact ct.ag (Nat.le_refl _) n42 (fun x _ q => ⟨by rw [← o 5 x (by decide)]; exact q, o 18 x (by decide)⟩) (o 50 0 (by decide)) (o 44 0 (by decide)) (o 46 0 (by decide))
  · rw [o 48 0 (by decide), n42, o 49 0 (by decide)]
    rcases h48 with w | ⟨i, hi, w, h5, t⟩
    · exact Or.inl w
    · exact Or.inr ⟨i, hi, w, by rw [o 5 i (by decide)]; exact h5, t⟩
theorem Inv.effect (h : Inv c P LL) (k a b d : Int32) : Inv c (p_R_effect P k a b d) LL := by
  rw [← epE_eq]
  unfold epE
  by_cases q : wfC P k a b d = 0
  · rw [if_pos q]; exact h
  rw [if_neg q]
  by_cases q2 : P 4 0 = 40
  · rw [if_pos q2]; exact h
  rw [if_neg q2]
  exact h.efP q q2
/-! start -/
theorem st_o (P : Pst) {g y : Nat} (hg : g < 37 ∨ (42 < g ∧ ¬ g = 43 ∧ ¬ g = 44 ∧ ¬ g = 45 ∧ ¬ g = 46 ∧ ¬ g = 47 ∧ ¬ g = 48 ∧ ¬ g = 51)) : stP P g y = P g y := by
  have hi : ∀ (Q : Pst) n, it_start Q n g y = Q g y := fun Q n => by
    induction n with
    | zero => rfl
    | succ n ih =>
      show up (up (up (up (it_start Q n) 37 n 0) 38 n 0) 41 n 0) 39 n 1 g y = _
      rw [up_f (by omega), up_f (by omega), up_f (by omega), up_f (by omega), ih]
  unfold stP
  rw [hi, up_f (by omega), up_f (by omega), up_f (by omega), up_f (by omega), up_f (by omega), up_f (by omega), up_f (by omega), up_f (by omega)]
theorem st_v (P : Pst) {g y : Nat} (hg : 42 ≤ g) : stP P g y = (up (up (up (up (up (up (up (up P 51 0 1) 42 0 0) 43 0 0) 44 0 0) 45 0 0) 46 0 0) 47 0 0) 48 0 (-1)) g y := by
  have hi : ∀ (Q : Pst) n, it_start Q n g y = Q g y := fun Q n => by
    induction n with
    | zero => rfl
    | succ n ih =>
      show up (up (up (up (it_start Q n) 37 n 0) 38 n 0) 41 n 0) 39 n 1 g y = _
      rw [up_f (by omega), up_f (by omega), up_f (by omega), up_f (by omega), ih]
  unfold stP
  rw [hi]
theorem Core.st (h : Core c f j P LL) : Core c f j (stP P) (clL LL) := by
  have v42 : stP P 42 0 = 0 := by rw [st_v P (by decide)]; simp [up_e]
  have v43 : stP P 43 0 = 0 := by rw [st_v P (by decide)]; simp [up_e]
  have v44 : stP P 44 0 = 0 := by rw [st_v P (by decide)]; simp [up_e]
  have v46 : stP P 46 0 = 0 := by rw [st_v P (by decide)]; simp [up_e]
  have v50 : stP P 50 0 = P 50 0 := st_o P (by decide)
  have n0 : nfb (stP P) = 0 := by unfold nfb; rw [v42]; rfl
  have l0 : ∀ t, t < 9 → clL LL t = [] := fun t ht => if_pos ht
  have no : ∀ x, ¬ x < nfb (stP P) := fun x hx => by rw [n0] at hx; exact absurd hx (Nat.not_lt_zero _)
  have hli : ∀ w m, LI (stP P) w m [] := fun w m => ⟨fun x => ⟨fun q => absurd q List.not_mem_nil, fun q => absurd q.1 (no x)⟩, List.Pairwise.nil⟩
  obtain ⟨t, t1, t2⟩ := h.2.2.2.2.2.2.1
  refine ⟨⟨wb_stP h.1.1, by rw [v43, l0 0 (by decide)]; rfl, fun e => (h.1.2.2 e).ag (fun g y hg => st_o P (by omega))⟩, fun x hx => absurd hx (no x), fun x hx => absurd hx (no x), ?_, fun n hn => ?_, ⟨fun x hx => absurd hx (no x), ⟨t, t1, v50.trans t2⟩, ⟨0, by omega, v44⟩, ⟨0, by omega, v46⟩⟩⟩
  · unfold QI
    rw [l0 0 (by decide)]
    exact ⟨fun j hj => absurd hj (Nat.not_lt_zero _), List.nodup_nil, fun x hx => absurd hx List.not_mem_nil⟩
  · rw [l0 (1 + n) (by omega), l0 (5 + n) (by omega)]
    exact ⟨hli _ _, hli _ _⟩
theorem Inv.start (h : Inv c P LL) (e v : Int32) : Inv c (p_R_start P e v) (slL P LL e) := by
  unfold p_R_start slL
  by_cases q : a_R_isEffect P e = 0
  · rw [if_pos q, if_pos q]; exact h
  rw [if_neg q, if_neg q]
  have wb := h.1.1.1
  have h1 := h.1.st
  have v42 : stP P 42 0 = 0 := by rw [st_v P (by decide)]; simp [up_e]
  have v48 : stP P 48 0 = -1 := by rw [st_v P (by decide)]; simp [up_e]
  have v51 : stP P 51 0 = 1 := by rw [st_v P (by decide)]; simp [up_e]
  have n0 : nfb (stP P) = 0 := by unfold nfb; rw [v42]; rfl
  have h2 := h1.make (e := e) (Or.inr (in_sm wb q)) (by rw [n0]; decide) (by rw [v48, n0]; decide) v (-1)
  have n1 : nfb (p_R_make (stP P) e v (-1)) = 1 := by
    have : nfb (p_R_make (stP P) e v (-1)) = nfb (stP P) + 1 := mk_tn h1.1.1 (by unfold nfb at n0; rw [n0]; decide) e v (-1)
    rw [this, n0]
  refine ⟨h2, ?_, Or.inl ?_⟩
  · show p_R_make (stP P) e v (-1) 51 0 = 0 ↔ nfb (p_R_make (stP P) e v (-1)) = 0
    rw [mk_P _ _ _ _ _ _ (by omega), v51, n1]
    decide
  · show p_R_make (stP P) e v (-1) 48 0 = -1
    rw [mk_P _ _ _ _ _ _ (by omega), v48]
/-! the beginning -/
theorem wb_00 : WB P00 := by
  have h0 : ∀ f, rg f 0 := fun f => by
    unfold rg
    split
    all_goals first | exact trivial | exact Or.inl rfl | exact sm_nI (n := 0) (Nat.zero_le _) (by decide) | exact Or.inr (sm_nI (n := 0) (Nat.zero_le _) (by decide))
  intro g y
  unfold P00
  rw [up_e]
  by_cases q : g = 48 ∧ y = 0
  · rw [if_pos q, q.1]; exact Or.inl rfl
  · rw [if_neg q]; exact h0 g
theorem inv_00 : Inv 0 P00 (fun _ => []) := by
  have z : ∀ g y, ¬ g = 48 → P00 g y = 0 := fun g y hg => by
    unfold P00
    rw [up_f hg]
  have n0 : nfb P00 = 0 := by unfold nfb; rw [z 42 0 (by decide)]; rfl
  have no : ∀ x, ¬ x < nfb P00 := fun x hx => by rw [n0] at hx; exact absurd hx (Nat.not_lt_zero _)
  have hli : ∀ w m, LI P00 w m [] := fun w m => ⟨fun x => ⟨fun q => absurd q List.not_mem_nil, fun q => absurd q.1 (no x)⟩, List.Pairwise.nil⟩
  refine ⟨⟨⟨wb_00, by rw [z 43 0 (by decide)]; rfl, fun e => ?_⟩, fun x hx => absurd hx (no x), fun x hx => absurd hx (no x), ⟨fun j hj => absurd hj (Nat.not_lt_zero _), List.nodup_nil, fun x hx => absurd hx List.not_mem_nil⟩, fun n hn => ⟨hli _ _, hli _ _⟩, ⟨fun x hx => absurd hx (no x), ⟨0, Nat.le_refl _, z 50 0 (by decide)⟩, ⟨0, by decide, z 44 0 (by decide)⟩, ⟨0, Nat.le_refl _, z 46 0 (by decide)⟩⟩⟩, ?_, Or.inl ?_⟩
  · unfold EfX EfOK
    rw [z 0 e (by decide)]
    exact ⟨⟨fun w => absurd (by decide) w, fun w => absurd (by decide) w, fun w => absurd (by decide) w, ⟨0, by decide, rfl⟩⟩, fun w => absurd (by decide) w, fun _ => rfl⟩
  · rw [z 51 0 (by decide), n0]; decide
  · unfold P00
    rw [up_s]
/-! run -/
theorem Inv.run (h : Inv c P LL) (hc : c + 20 ≤ 2 ^ 20) (x : Int32) : (¬ a_R_in x 1 20 = 0 → ¬ P 51 0 = 0 → COK (tn x) P LL) ∧ eaR P LL x = a_R_run P x ∧ erP P LL x = p_R_run P x ∧ (¬ a_R_in x 1 20 = 0 → ¬ P 51 0 = 0 → ∀ j, j < tn x → RunOK (it_r P j)) ∧ (¬ a_R_in x 1 20 = 0 → ¬ P 51 0 = 0 → WB (it_r P (tn x))) ∧ Inv (c + 20) (p_R_run P x) (erL P LL x) := by
  have more : ∀ {c' : Nat} {Q : Pst} {L : Lls}, Inv c' Q L → c' ≤ c + 20 → Inv (c + 20) Q L := fun hQ hle => ⟨hQ.1.more hle, hQ.2⟩
  unfold eaR a_R_run erP p_R_run erL
  by_cases q1 : a_R_in x 1 20 = 0
  · rw [if_pos q1, if_pos q1, if_pos q1, if_pos q1, if_pos q1]
    exact ⟨fun w => absurd q1 w, rfl, rfl, fun w => absurd q1 w, fun w => absurd q1 w, more h (by omega)⟩
  rw [if_neg q1, if_neg q1, if_neg q1, if_neg q1, if_neg q1]
  by_cases q2 : P 51 0 = 0
  · rw [if_pos q2, if_pos q2, if_pos q2, if_pos q2, if_pos q2]
    exact ⟨fun _ w => absurd q2 w, rfl, rfl, fun _ w => absurd q2 w, fun _ w => absurd q2 w, more h (by omega)⟩
  rw [if_neg q2, if_neg q2, if_neg q2, if_neg q2, if_neg q2]
  have hx := in_nat20 q1
  obtain ⟨r1, r2, r3, r4⟩ := run_ok (tn x) c P LL h q2 (by omega)
  rw [r2] at r4
  refine ⟨fun _ _ => r1, by rw [r2], r2, fun _ _ => r3, fun _ _ => r4.1.1.1, more r4 (by omega)⟩
/-! what the readers want -/
theorem Inv.sta (h : Inv c P LL) : StA P := h.1.sta
theorem Inv.qs (h : Inv c P LL) : ¬ LL 0 = [] → ¬ P 51 0 = 0 := fun hne q => by
  cases hl : LL 0 with
  | nil => exact hne hl
  | cons x l =>
    have := (h.1.2.2.2.1.2.2 x (by rw [hl]; exact List.mem_cons_self)).1
    rw [h.2.1.mp q] at this
    exact absurd this (Nat.not_lt_zero _)
theorem Inv.q36 (h : Inv c P LL) : ∀ j, j < (LL 0).length → P 36 j = nI ((LL 0).getD j 0) := h.1.2.2.2.1.1
theorem Inv.w4 (h : Inv c P LL) : ∀ n, n < 4 → a_R_waiting P 5 (nI n) = nI (LL (1 + n)).length := fun n hn => (h.1.2.2.2.2.1 n hn).1.cnt
theorem Inv.w5 (h : Inv c P LL) : ∀ n, n < 4 → a_R_waiting P 6 (nI n) = nI (LL (5 + n)).length := fun n hn => (h.1.2.2.2.2.1 n hn).2.cnt
theorem Inv.q5 (h : Inv c P LL) : ∀ j, j < nfb P → P 5 j = 1 → tn (P 43 0) < 10 := fun j hj w => h.1.r10 hj (h.1.nq5 (by rw [w]; decide))
theorem Inv.ln (h : Inv c P LL) : ∀ n, n < 4 → (∀ x, x ∈ LL (1 + n) → x < nfb P ∧ P 5 x = 1 ∧ P 15 x = 5) ∧ (LL (1 + n)).Nodup ∧ tn (P 43 0) + (LL (1 + n)).length ≤ 10 := fun n hn => h.1.ln1 hn
theorem Inv.ea (h : Inv c P LL) : EA P := fun e _ => by
  obtain ⟨⟨a, b, d, k⟩, g, -⟩ := h.1.1.2.2 e
  refine ⟨fun q => a (Int32.not_le.mpr q), fun q => b (Int32.not_le.mpr q), fun q => g (Int32.not_le.mpr q), fun q => ?_⟩
  have h1 : ¬ P 0 e < 19 := fun w => q (by unfold a_R_in; rw [if_pos w])
  have h2 : ¬ P 0 e = 25 := fun w => q (by rw [w]; decide)
  obtain ⟨n, hn, en⟩ := d h1 h2
  rw [en]
  exact sm_nI (by omega) (by decide)
end Calls
