/-! one step -/
section Step
variable {P Q R : Pst} {LL L : Lls} {c f j i N k : Nat}
theorem close_fr (P : Pst) (i k : Nat) {h y : Nat} (hh : 36 ≤ h) : p_R_close P i k h y = P h y := by
  unfold p_R_close
  split
  · split
    · rw [up_f (by omega), give_fr _ _ _ (by omega), up_f (by omega), up_f (by omega)]
    · rw [copy_fr _ _ _ (by omega), up_f (by omega), give_fr _ _ _ (by omega), up_f (by omega), up_f (by omega)]
  · rw [does_fr _ _ _ _ (by omega), up_f (by omega), up_f (by omega)]
theorem closes_fr (P : Pst) (i k : Nat) {h y : Nat} (hh : 36 ≤ h) : p_R_closes P i k h y = P h y := by
  unfold p_R_closes
  split
  · rw [close_fr _ _ _ hh, up_f (by omega), up_f (by omega), up_f (by omega)]
  · rw [close_fr _ _ _ hh, copy_fr _ _ _ (by omega), up_f (by omega), up_f (by omega), up_f (by omega)]
theorem comes_fr (kd : KdOK P k) (i : Nat) {h y : Nat} (hh : 36 ≤ h) : p_R_comes P i k h y = P h y := by
  have c1 : ∀ x z : Int32, p_R_closes (up (up (up P 29 (4 * k) x) 30 (4 * k) z) 28 k 1) i k h y = P h y := fun x z => by
    rw [closes_fr _ _ _ hh, up_f (by omega), up_f (by omega), up_f (by omega)]
  have c2 : ∀ x : Int32, up P 22 i x h y = P h y := fun x => up_f (by omega) _ _ _ _
  have c3 : ∀ x z : Int32, up (up P 22 i x) 10 i z h y = P h y := fun x z => by rw [up_f (by omega), up_f (by omega)]
  by_cases h9 : P 25 k = 9
  · by_cases h14 : P 14 i = 0
    · rw [cm_v9 h14 h9, close_fr _ _ _ hh, up_f (by omega)]
    · by_cases h32 : P 32 k = 0
      · rw [cm_c90 h14 h9 h32, close_fr _ _ _ hh, up_f (by omega), copy_fr _ _ _ (by omega)]
      · rw [cm_c91 h14 h9 h32, close_fr _ _ _ hh, up_f (by omega), join_fr _ _ _ _ (by omega)]
  by_cases h14 : P 14 i = 0
  · rcases kd with q | q | q | q | q | q | q
    · rw [cm_v4 h14 h9 q, does_fr _ _ _ _ (by omega), c2]
    · rw [cm_v5 h14 h9 q, does_fr _ _ _ _ (by omega), c2]
    · rw [cm_v6 h14 h9 q, c1]
    · by_cases h0 : P 25 k = 0
      · rw [cm_v70 h14 h9 q h0, does_fr _ _ _ _ (by omega), up_f (by omega), up_f (by omega), up_f (by omega)]
      · rw [cm_v71 h14 h9 q h0, c1]
    · rw [cm_v8 h14 h9 q, c3]
    · rw [cm_v9k h14 h9 q, c3]
    · rw [cm_v10 h14 h9 q, closes_fr _ _ _ hh]
  · rcases kd with q | q | q | q | q | q | q
    · rw [cm_c4 h14 h9 q, c2]
    · rw [cm_c5 h14 h9 q]
      split
      · rw [does_fr _ _ _ _ (by omega), c2]
      · rw [c2]
    · rw [cm_c6 h14 h9 q, c1]
    · by_cases h0 : P 25 k = 0
      · rw [cm_c70 h14 h9 q h0, up_f (by omega), up_f (by omega)]
      · rw [cm_c71 h14 h9 q h0, c1]
    · rw [cm_c8 h14 h9 q, c3]
    · rw [cm_c9k h14 h9 q, c3]
    · rw [cm_c10 h14 h9 q, closes_fr _ _ _ hh]
theorem Core.s62 (h : Core c f j P LL) (g : Nat) : Core c f j (up P 6 g 2) LL := by
  obtain ⟨t, t1, t2⟩ := h.2.2.2.2.2.2.2.1
  obtain ⟨s, s1, s2⟩ := h.2.2.2.2.2.2.2.2
  refine h.ct (fun a y h1 h2 h3 h4 => up_f h3 _ _ _ _) (fun y => ?_) (h.1.1.up (f := 6) trivial) (Nat.le_refl c) ⟨t, t1, t2⟩ ⟨s, s1, s2⟩
  rw [up_e]
  by_cases e : y = g
  · rw [if_pos ⟨rfl, e⟩]; exact Or.inr (Or.inr rfl)
  · rw [if_neg (fun q => e q.2)]; exact Or.inl rfl
theorem in_o (P : Pst) (i : Nat) {g y : Nat} (hg : ¬ g = 45 ∧ ¬ g = 9 ∧ ¬ g = 49) : inP P i g y = P g y := by
  unfold inP
  rw [up_f hg.2.2, up_f hg.2.1, up_f hg.1]
theorem Core.in1 (h : Core c f j P LL) (hi : i < nfb P) (h5 : P 5 i = 0) : Core c f j (inP P i) LL := by
  have h52 : ¬ P 5 i = 2 := by rw [h5]; decide
  unfold inP
  exact ((h.quiet (i := i) (g := 45) (y := 0) hi h52 (by unfold dU; omega) trivial).quiet (i := i) (g := 9) (y := i) hi h52 (by unfold dU; omega) trivial).quiet (i := i) (g := 49) (y := 0) hi h52 (by unfold dU; omega) trivial
theorem in_at (hi : i < nfb P) (h48 : P 48 0 = nI i) (h49 : ∃ t, t ≤ 4 ∧ P 49 0 = nI t) (h51 : ¬ P 51 0 = 0) : AtW (nfb P) (inP P i) i := by
  obtain ⟨t, t1, t2⟩ := h49
  have n42 : nfb (inP P i) = nfb P := by unfold nfb; rw [in_o _ _ (by decide)]
  refine ⟨by rw [in_o _ _ (by decide)]; exact h48, by rw [n42]; exact hi, ⟨t + 1, by omega, ?_⟩, by rw [in_o _ _ (by decide)]; exact h51, by rw [n42]; exact Nat.le_refl _⟩
  unfold inP
  rw [up_s, t2, nI_1]
/-- what a step makes keeps the invariant -/
theorem Core.sa (h : Core c 0 10 Q LL) (hc : c < 2 ^ 20) (ha : AtW N Q i) (h5 : Q 5 i = 0) : Core (c + 1) 0 10 (saP Q LL i) (saL Q LL i) ∧ AtW N (saP Q LL i) i := by
  have hi := ha.2.1
  have h52 : ¬ Q 5 i = 2 := by rw [h5]; decide
  have le := Nat.le_succ c
  have wb := h.1.1
  have h10 := n10 wb
  unfold saP saL
  by_cases q : Q 6 i = 1 ∧ Q 10 i = 0
  · rw [if_pos q, if_pos q]
    exact ⟨((h.s62 i).fail hi h52 3 (Q 7 i)).more le, (ha.up (g := 6) (by decide)).fail i _ _⟩
  rw [if_neg q, if_neg q]
  by_cases q11 : Q 11 i < 0
  · rw [if_pos q11, if_pos q11]
    by_cases qd : tn (Q 22 i) = 0
    · rw [if_pos qd, if_pos qd]
      obtain ⟨-, -, r1, r2⟩ := h.ends ha h5 qd
      have n' : nfb (p_R_ends Q i) ≤ 10 := n10 r1.1.1
      exact ⟨(r1.any n' n').more le, r2⟩
    · rw [if_neg qd, if_neg qd]
      obtain ⟨p, hp⟩ : ∃ p, tn (Q 22 i) = p + 1 := ⟨tn (Q 22 i) - 1, by omega⟩
      rw [hp, Nat.add_sub_cancel]
      refine ⟨(h.comes hi h52 hp).more le, ha.ag0 (fun g hg => comes_fr ?_ i (by omega))⟩
      exact ((h.2.1 i hi).2.2 p (by omega)).1
  · rw [if_neg q11, if_neg q11]
    have h11 : Q 11 i = -1 ∨ sm (Q 11 i) 39 := wb 11 i
    have he : tn (Q 11 i) < 40 := by
      rcases h11 with e | e
      · exact absurd (by rw [e]; decide) q11
      · have := e.2; omega
    exact h.act hc ha h5 he _
theorem le0_tn {x : Int32} {N : Nat} (h : sm x N) (hN : N < 2 ^ 30) : x ≤ 0 ↔ tn x = 0 := by
  constructor
  · intro q
    have := ix_le_of (b := 0) h.1 rfl (tn_lt x) (by decide) q
    omega
  · intro q
    rw [h.1, q]
    decide
theorem sa_eq (h : Core c 0 10 P LL) (hi : i < nfb P) (h48 : P 48 0 = nI i) (h5 : P 5 i = 0) : saP (inP P i) LL i = p_sA P := by
  have h10 := n10 h.1.1
  have t48 : tn (P 48 0) = i := by rw [h48, tn_nI (by omega)]
  have hQ : up (up (up P 45 0 (P 45 0 + 1)) 9 i (P 9 i + 1)) 49 0 (P 49 0 + 1) = inP P i := rfl
  have h1 := h.in1 hi h5
  have h22 := le0_tn (h.1.1 22 i) (by decide)
  have o : ∀ g y, ¬ g = 45 ∧ ¬ g = 9 ∧ ¬ g = 49 → inP P i g y = P g y := fun g y q => in_o P i q
  have ea : ∀ v, ¬ P 11 i < 0 → actC (inP P i) LL i (tn (P 11 i)) v = p_R_act (inP P i) i (tn (P 11 i)) v := fun v _ => act_eq h1.1.1 (h1.1.2.2 _).1 h1.2.2.2.2.1 v
  unfold p_sA saP
  rw [t48, hQ, o 6 i (by decide), o 10 i (by decide), o 11 i (by decide), o 22 i (by decide), o 12 i (by decide), o 7 i (by decide)]
  have e11 : ∀ A : Pst, (if P 11 i < 0 then (if tn (P 22 i) = 0 then p_R_ends (inP P i) i else p_R_comes (inP P i) i (16 * i + (tn (P 22 i) - 1))) else actC (inP P i) LL i (tn (P 11 i)) (P 12 i)) = (if P 11 i < 0 then (if P 22 i ≤ 0 then p_R_ends (inP P i) i else p_R_comes (inP P i) i (16 * i + tn (P 22 i) - 1)) else p_R_act (inP P i) i (tn (P 11 i)) (P 12 i)) := fun _ => by
    by_cases q11 : P 11 i < 0
    · rw [if_pos q11, if_pos q11]
      by_cases qd : tn (P 22 i) = 0
      · rw [if_pos qd, if_pos (h22.mpr qd)]
      · rw [if_neg qd, if_neg (fun w => qd (h22.mp w)), show 16 * i + (tn (P 22 i) - 1) = 16 * i + tn (P 22 i) - 1 by omega]
    · rw [if_neg q11, if_neg q11, ea _ q11]
  rw [e11 P]
  by_cases h6 : P 6 i = 1
  · rw [if_pos h6]
    by_cases hm : P 10 i = 0
    · rw [if_pos ⟨h6, hm⟩, if_pos hm]
    · rw [if_neg (fun w => hm w.2), if_neg hm]
  · rw [if_neg (fun w => h6 w.1), if_neg h6]
theorem Core.tlok (h : Core c f j R L) (ha : AtW N R i) : TlOK R i :=
  ⟨ha.2.1, ha.1, (h.2.1 i ha.2.1).1.1, (h.2.1 i ha.2.1).1.2.1, ha.2.2.1, fun _ => h.r10 ha.2.1 (h.nq48 ha.1)⟩
theorem Core.ln1 (h : Core c f j P LL) {n : Nat} (hn : n < 4) : (∀ x, x ∈ LL (1 + n) → x < nfb P ∧ P 5 x = 1 ∧ P 15 x = 5) ∧ (LL (1 + n)).Nodup ∧ tn (P 43 0) + (LL (1 + n)).length ≤ 10 := by
  have hl := (h.2.2.2.2.1 n hn).1
  refine ⟨fun x hx => ?_, hl.nd, ?_⟩
  · have := (hl.1 x).mp hx
    exact ⟨this.1, this.2.1, this.2.2.1⟩
  · rw [h.1.2.1, ← List.length_append]
    refine Nat.le_trans (nd_lt (n := nfb P) ?_ ?_) (n10 h.1.1)
    · refine List.pairwise_append.mpr ⟨h.2.2.2.1.2.1, hl.nd, fun a ha b hb e => ?_⟩
      have h0 := (h.2.2.2.1.2.2 a ha).2.1
      have h1 := ((hl.1 b).mp hb).2.1
      rw [e, h1] at h0
      exact absurd h0 (by decide)
    · intro x hx
      rcases List.mem_append.mp hx with q | q
      · exact (h.2.2.2.1.2.2 x q).1
      · exact ((hl.1 x).mp q).1
theorem Core.lnok (h : Core c f j P LL) (hi : i < nfb P) (h5 : P 5 i = 0) {n : Nat} (hn : n < 4) : LnOK P LL n := by
  obtain ⟨a, b, d⟩ := h.ln1 hn
  have h10 := n10 h.1.1
  have ni : ∀ w m l, LI P w m l → l.length < 10 := fun w m l hl => by
    have := nd_lt1 hl.nd (fun x hx => ((hl.1 x).mp hx).1) hi (fun q => by have := ((hl.1 i).mp q).2.1; rw [h5] at this; exact absurd this (by decide))
    omega
  refine ⟨ni _ _ _ (h.2.2.2.2.1 n hn).1, ni _ _ _ (h.2.2.2.2.1 n hn).2, a, b, d, fun x hx => ?_⟩
  have := ((h.2.2.2.2.1 n hn).2.1 x).mp hx
  exact ⟨this.1, this.2.1, this.2.2.1⟩
theorem Core.stok (h : Core c f j P LL) : ∀ j, j < nfb P → StOK P j := fun j hj => ⟨(h.2.1 j hj).1.2.2.1, (h.2.1 j hj).1.2.1, (h.2.1 j hj).1.2.2.2.1⟩
theorem Core.cmok (h : Core c f j P LL) (hi : i < nfb P) {p : Nat} (hp : tn (P 22 i) = p + 1) : CmOK P (16 * i + p) := by
  obtain ⟨kd, k0, k9⟩ := (h.2.1 i hi).2.2 p (by omega)
  have hef := h.1.2.2 (tn (P 24 (16 * i + p)))
  exact ⟨kd, k9, fun q => need_2 hef (by rw [k0]; exact q), fun q => need_3 hef (by rw [k0]; exact q)⟩
theorem Core.wkok (h : Core c 0 10 Q LL) (hc : c < 2 ^ 20) (ha : AtW N Q i) (h5 : Q 5 i = 0) : WkOK Q LL i := by
  have hi := ha.2.1
  obtain ⟨s, s1, s2⟩ := h.2.2.2.2.2.2.2.2
  refine ⟨h5, h.f15 hi h5, ha.2.2.2.1, fun n hn => h.lnok hi h5 hn, h.room hi (h.nq48 ha.1), fun p hp => ((h.2.1 i hi).2.2 p hp).2.1, h.stok, ?_, fun _ => (h.1.2.2 _).1, fun p hp => h.cmok hi hp, fun hd _ _ => (h.ends ha h5 hd).1, (h.sa hc ha h5).1.tlok (h.sa hc ha h5).2⟩
  rw [s2]
  exact nI_pos (by omega)
theorem Core.stepok (h : Core c 0 10 P LL) (hc : c < 2 ^ 20) (hi : i < nfb P) (h48 : P 48 0 = nI i) (h5 : P 5 i = 0) (h49 : ∃ t, t ≤ 4 ∧ P 49 0 = nI t) (h51 : ¬ P 51 0 = 0) : StepOK P := by
  have h10 := n10 h.1.1
  have t48 : tn (P 48 0) = i := by rw [h48, tn_nI (by omega)]
  have hQ : up (up (up P 45 0 (P 45 0 + 1)) 9 i (P 9 i + 1)) 49 0 (P 49 0 + 1) = inP P i := rfl
  have h1 := h.in1 hi h5
  have a1 := in_at hi h48 h49 h51
  have h5' : inP P i 5 i = 0 := by rw [in_o _ _ (by decide)]; exact h5
  have o : ∀ g y, ¬ g = 45 ∧ ¬ g = 9 ∧ ¬ g = 49 → inP P i g y = P g y := fun g y q => in_o P i q
  have r := h1.sa hc a1 h5'
  rw [sa_eq h hi h48 h5] at r
  obtain ⟨s, s1, s2⟩ := h1.2.2.2.2.2.2.2.2
  have wb1 := h1.1.1
  unfold StepOK
  rw [t48, hQ]
  refine ⟨h48, by omega, fun q11 => ?_, fun q22 => ?_, fun q22 => ?_, r.1.1.1, fun _ => r.1.r10 r.2.2.1 (r.1.nq48 r.2.1)⟩
  · have h11 : P 11 i = -1 ∨ sm (P 11 i) 39 := h.1.1 11 i
    have he : tn (P 11 i) < 40 := by
      rcases h11 with e | e
      · exact absurd (by rw [e]; decide) q11
      · have := e.2; omega
    have hE := (h1.1.2.2 (tn (P 11 i))).1
    refine ⟨he, h1.room a1.2.1 (h1.nq48 a1.1), fun q => hE.1 (by rw [q]; decide), fun w1 w2 => ?_, fun q => ?_, by rw [s2]; exact nI_pos (by omega)⟩
    · obtain ⟨n, hn, en⟩ := hE.2.2.1 w1 w2
      rw [en]
      exact sm_nI (by omega) (by decide)
    · obtain ⟨n, hn, en⟩ := hE.2.2.1 (by rw [q]; decide) (by rw [q]; decide)
      rw [en, tn_nI (by omega)]
      have hg := h1.give a1.2.1 (by rw [h5']; decide) (P 12 i)
      exact okk_keeps hg.1.1 (hg.2.2.2.2.1 n hn).1 (hg.ln1 hn).2.2 _
  · have hw : tn (P 22 i) ≤ 16 := (h.1.1 22 i).2
    have h22 := le0_tn (h.1.1 22 i) (by decide)
    obtain ⟨p, hp⟩ : ∃ p, tn (P 22 i) = p + 1 := ⟨tn (P 22 i) - 1, by have : ¬ tn (P 22 i) = 0 := fun w => q22 (h22.mpr w); omega⟩
    have hp' : tn (inP P i 22 i) = p + 1 := by rw [o 22 i (by decide)]; exact hp
    have hcm := h1.cmok a1.2.1 hp'
    rw [hp, show 16 * i + (p + 1) - 1 = 16 * i + p by omega]
    exact ⟨by omega, by omega, fun q => hcm.2.2.1 (Or.inr (Or.inr (Or.inl q))), fun q => hcm.2.2.2 (Or.inr q)⟩
  · exact (h1.ends a1 h5' (by rw [o 22 i (by decide)]; exact (le0_tn (h.1.1 22 i) (by decide)).mp q22)).2.1
/-! the end of the step -/
theorem Core.s48 (h : Core c f j R L) {x : Int32} (hx : rg 48 x) (hn : ∀ y, y ∈ L 0 → ¬ x = nI y) : Core c f j (up R 48 0 x) L := by
  obtain ⟨⟨w, l, ef⟩, fb, rc, q, li, ct⟩ := h
  have a : ∀ g y, ¬ g = 48 → up R 48 0 x g y = R g y := fun g y hg => up_f hg _ _ _ _
  refine ⟨⟨w.up (f := 48) hx, l, fun e => (ef e).ag (fun g y hg => a g y (by omega))⟩, fun y hy => ?_, fun g hg h15 => ?_, ?_, ?_, ?_⟩
  · exact ⟨(fb y hy).1.ag (Nat.le_refl c) (fun g hg => a g y (by omega)) (Or.inl (a 6 y (by decide))), (fb y hy).2.ag (w 22 y).2 (fun e => a 0 e (by decide)) (a 10 y (by decide)) (a 22 y (by decide)) (fun g p hg hp => a g _ (by omega))⟩
  · exact (rc g hg h15).ag (Nat.le_refl _) (a 19 g (by decide)) (a 20 g (by decide)) (a 21 g (by decide)) (fun z _ => ⟨by rw [a 5 z (by decide)], fun _ => a 14 z (by decide)⟩)
  · exact ⟨fun j hj => (a 36 j (by decide)).trans (q.1 j hj), q.2.1, fun y hy => ⟨(q.2.2 y hy).1, (a 5 y (by decide)).trans (q.2.2 y hy).2.1, by rw [up_s]; exact hn y hy⟩⟩
  · exact li.ag (fun _ _ => rfl) rfl (fun x _ => ⟨a 5 x (by decide), a 15 x (by decide), a 16 x (by decide), a 18 x (by decide)⟩)
  · exact ct.ag (Nat.le_refl _) rfl (fun x _ q => ⟨by rw [← a 5 x (by decide)]; exact q, a 18 x (by decide)⟩) (a 50 0 (by decide)) (a 44 0 (by decide)) (a 46 0 (by decide))
theorem Core.enq (h : Core c f j R L) (hi : i < nfb R) (h5 : R 5 i = 0) (hq : ¬ i ∈ L 0) (h48 : ¬ R 48 0 = nI i) : Core c f j (up (up R 43 0 (R 43 0 + 1)) 36 (tn (R 43 0)) (nI i)) (upL L 0 (L 0 ++ [i])) := by
  have hr := h.r10 hi hq
  obtain ⟨⟨w, l, ef⟩, fb, rc, q, li, ct⟩ := h
  have h10 := n10 w
  have a : ∀ g y, ¬ g = 43 → ¬ g = 36 → up (up R 43 0 (R 43 0 + 1)) 36 (tn (R 43 0)) (nI i) g y = R g y := fun g y h1 h2 => by rw [up_f h2, up_f h1]
  have n42 : nfb (up (up R 43 0 (R 43 0 + 1)) 36 (tn (R 43 0)) (nI i)) = nfb R := by unfold nfb; rw [a 42 0 (by decide) (by decide)]
  refine ⟨⟨(w.up (f := 43) (sm_inc' (w 43 0).1 hr (by decide))).up (f := 36) (sm_nI (by omega) (by decide)), ?_, fun e => (ef e).ag (fun g y hg => a g y (by omega) (by omega))⟩, fun y hy => ?_, fun g hg h15 => ?_, ?_, ?_, ?_⟩
  · rw [up_f (by decide), up_s, upL_s, tn_inc (w 43 0).1 (by omega), l, List.length_append]; rfl
  · rw [n42] at hy
    exact ⟨(fb y hy).1.ag (Nat.le_refl c) (fun g hg => a g y (by omega) (by omega)) (Or.inl (a 6 y (by decide) (by decide))), (fb y hy).2.ag (w 22 y).2 (fun e => a 0 e (by decide) (by decide)) (a 10 y (by decide) (by decide)) (a 22 y (by decide) (by decide)) (fun g p hg hp => a g _ (by omega) (by omega))⟩
  · rw [n42] at hg
    rw [a 15 g (by decide) (by decide)] at h15
    exact (rc g hg h15).ag (Nat.le_of_eq n42.symm) (a 19 g (by decide) (by decide)) (a 20 g (by decide) (by decide)) (a 21 g (by decide) (by decide)) (fun z _ => ⟨by rw [a 5 z (by decide) (by decide)], fun _ => a 14 z (by decide) (by decide)⟩)
  · unfold QI
    rw [upL_s, n42, a 48 0 (by decide) (by decide)]
    refine ⟨q_snoc q.1 (fun j => ?_), nd_snoc q.2.1 hq, fun y hy => ?_⟩
    · rw [up_e, ← l]
      by_cases e : j = tn (R 43 0)
      · rw [if_pos ⟨rfl, e⟩, if_pos e]
      · rw [if_neg (fun w => e w.2), if_neg e, up_f (by decide)]
    · rw [a 5 y (by decide) (by decide)]
      rcases List.mem_append.mp hy with e | e
      · exact q.2.2 y e
      · rw [List.mem_singleton.mp e]; exact ⟨hi, h5, h48⟩
  · exact li.ag (fun t ht => upL_n _ (by omega) _) n42 (fun x _ => ⟨a 5 x (by decide) (by decide), a 15 x (by decide) (by decide), a 16 x (by decide) (by decide), a 18 x (by decide) (by decide)⟩)
  · exact ct.ag (Nat.le_refl _) n42 (fun x _ q => ⟨by rw [← a 5 x (by decide) (by decide)]; exact q, a 18 x (by decide) (by decide)⟩) (a 50 0 (by decide) (by decide)) (a 44 0 (by decide) (by decide)) (a 46 0 (by decide) (by decide))
/-- THE INVARIANT between two calls -/
def Inv (c : Nat) (P : Pst) (LL : Lls) : Prop := Core c 0 10 P LL ∧ (P 51 0 = 0 ↔ nfb P = 0) ∧ (P 48 0 = -1 ∨ ∃ i, i < nfb P ∧ P 48 0 = nI i ∧ P 5 i = 0 ∧ ∃ t, t ≤ 4 ∧ P 49 0 = nI t)
theorem Core.tail (h : Core c 0 10 R L) (ha : AtW N R i) : Inv c (p_s140 R i (nI i)) (wkL R L i) ∧ N ≤ nfb (p_s140 R i (nI i)) := by
  have hi := ha.2.1
  have h10 := n10 h.1.1
  have hs : R 51 0 = 0 ↔ nfb R = 0 := ⟨fun w => absurd w ha.2.2.2.1, fun w => by omega⟩
  have hneg : ∀ y, y ∈ L 0 → ¬ (-1 : Int32) = nI y := fun y hy e => by
    have := (h.2.2.2.1.2.2 y hy).1
    have h2 : (-1 : Int32) < 0 := by decide
    rw [e] at h2
    exact absurd h2 (nI_pos (by omega))
  have hnegi : ¬ (-1 : Int32) = nI i := fun e => by
    have h2 : (-1 : Int32) < 0 := by decide
    rw [e] at h2
    exact absurd h2 (nI_pos (by omega))
  have h48 := h.s48 (x := -1) (Or.inl rfl) hneg
  unfold p_s140 wkL
  by_cases h5 : R 5 i = 0
  · rw [if_pos h5, if_pos h5]
    by_cases q : 5 ≤ R 49 0
    · rw [if_pos q, if_pos q]
      have r := h48.enq (i := i) hi h5 (h.nq48 ha.1) (by rw [up_s]; exact hnegi)
      exact ⟨⟨r, hs, Or.inl (by rw [up_f (by decide), up_f (by decide), up_s])⟩, ha.2.2.2.2⟩
    · rw [if_neg q, if_neg q]
      obtain ⟨t, t1, t2⟩ := ha.2.2.1
      refine ⟨⟨h, hs, Or.inr ⟨i, hi, ha.1, h5, t, ?_, t2⟩⟩, ha.2.2.2.2⟩
      rcases Nat.lt_or_ge t 5 with w | w
      · omega
      · exact absurd (by rw [t2]; exact nI_le (a := 5) w (by omega)) q
  · rw [if_neg h5, if_neg h5]
    exact ⟨⟨h48, hs, Or.inl (up_s _ _ _ _)⟩, ha.2.2.2.2⟩
end Step
