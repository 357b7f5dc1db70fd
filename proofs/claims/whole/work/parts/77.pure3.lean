/-! THE INVARIANT: what every state between two steps keeps -/
def mkv (P : Pst) (i q : Nat) : Int32 := if q = tn (P 22 i) then P 10 i else P 31 (16 * i + q)
def MkOK (P : Pst) (i : Nat) : Prop := mkv P i 0 = 0 ∧ ∀ p, p < tn (P 22 i) → P 23 (16 * i + p) = 4 ∨ P 23 (16 * i + p) = 5 → mkv P i (p + 1) = mkv P i p
def FrOK (P : Pst) (k : Nat) : Prop := KdOK P k ∧ P 0 (tn (P 24 k)) = P 23 k ∧ (P 25 k = 9 → P 23 k = 6 ∨ P 23 k = 7 ∨ P 23 k = 10)
def FbS (c : Nat) (P : Pst) (i : Nat) : Prop := (P 5 i = 0 ∨ P 5 i = 1 ∨ P 5 i = 2) ∧ (P 5 i = 1 ↔ ¬ P 15 i = 0) ∧ (P 6 i = 0 ∨ P 6 i = 1 ∨ P 6 i = 2) ∧ (P 15 i = 5 ∨ P 15 i = 6 → ∃ n, n < 4 ∧ P 16 i = nI n) ∧ (P 15 i = 4 → ∃ t, t ≤ 1000 * c ∧ P 16 i = nI t)
def FbF (P : Pst) (i : Nat) : Prop := MkOK P i ∧ ∀ p, p < tn (P 22 i) → FrOK P (16 * i + p)
def EfX (P : Pst) (e : Nat) : Prop := EfOK P e ∧ (¬ a_R_needs (P 0 e) ≤ 2 → sm (P 3 e) 39) ∧ (nef P ≤ e → P 0 e = 0)
def Ex (f j : Nat) (P : Pst) (g x : Nat) : Prop := P 5 x = 2 ∧ ¬ (x = f ∧ j ≤ g)
def RcY (f j : Nat) (P : Pst) (g a : Nat) : Prop := P 19 g = nI a ∧ P 20 g = nI (a + 1) ∧ a + 1 < nfb P ∧ ¬ g = a ∧ ¬ g = a + 1 ∧ ¬ (Ex f j P g a ∧ Ex f j P g (a + 1)) ∧ (Ex f j P g a → (P 14 a = 0 → P 21 g = nI a) ∧ (¬ P 14 a = 0 → P 21 g < 0)) ∧ (Ex f j P g (a + 1) → (P 14 (a + 1) = 0 → P 21 g = nI (a + 1)) ∧ (¬ P 14 (a + 1) = 0 → P 21 g < 0)) ∧ (¬ Ex f j P g a → ¬ Ex f j P g (a + 1) → P 21 g < 0)
def RcX (f j : Nat) (P : Pst) (g : Nat) : Prop := ∃ a, RcY f j P g a
def QI (P : Pst) (LL : Lls) : Prop := (∀ j, j < (LL 0).length → P 36 j = nI ((LL 0).getD j 0)) ∧ (LL 0).Nodup ∧ ∀ x, x ∈ LL 0 → x < nfb P ∧ P 5 x = 0 ∧ ¬ P 48 0 = nI x
def LIs (P : Pst) (LL : Lls) : Prop := ∀ n, n < 4 → LI P 5 (nI n) (LL (1 + n)) ∧ LI P 6 (nI n) (LL (5 + n))
def CtI (c : Nat) (P : Pst) : Prop := (∀ x, x < nfb P → P 5 x = 1 → P 18 x < P 50 0) ∧ (∃ t, t ≤ c ∧ P 50 0 = nI t) ∧ (∃ t, t ≤ 1000 * c ∧ P 44 0 = nI t) ∧ ∃ t, t ≤ c ∧ P 46 0 = nI t
def Core (c f j : Nat) (P : Pst) (LL : Lls) : Prop := (WB P ∧ tn (P 43 0) = (LL 0).length ∧ ∀ e, EfX P e) ∧ (∀ i, i < nfb P → FbS c P i ∧ FbF P i) ∧ (∀ g, g < nfb P → P 15 g = 3 → RcX f j P g) ∧ QI P LL ∧ LIs P LL ∧ CtI c P
section Transfer
variable {P P' : Pst} {LL LL' : Lls} {c c' f j i g k : Nat}
theorem FbS.ag (h : FbS c P i) (hc : c ≤ c') (e : ∀ g, g = 5 ∨ g = 15 ∨ g = 16 → P' g i = P g i) (h6 : P' 6 i = P 6 i ∨ P' 6 i = 1 ∨ P' 6 i = 2) : FbS c' P' i := by
  obtain ⟨a, b, d, e1, e2⟩ := h
  unfold FbS
  rw [e 5 (by decide), e 15 (by decide), e 16 (by decide)]
  have d' : P' 6 i = 0 ∨ P' 6 i = 1 ∨ P' 6 i = 2 := by
    rcases h6 with q | q
    · rw [q]; exact d
    · exact Or.inr q
  refine ⟨a, b, d', e1, fun q => ?_⟩
  obtain ⟨t, t1, t2⟩ := e2 q
  exact ⟨t, Nat.le_trans t1 (Nat.mul_le_mul_left _ hc), t2⟩
theorem FrOK.ag (h : FrOK P k) (h0 : ∀ e, P' 0 e = P 0 e) (h23 : P' 23 k = P 23 k) (h24 : P' 24 k = P 24 k) (h25 : P' 25 k = 9 → P 25 k = 9) : FrOK P' k := by
  obtain ⟨a, b, d⟩ := h
  unfold FrOK KdOK
  rw [h0, h23, h24]
  exact ⟨a, b, fun q => d (h25 q)⟩
theorem FbF.ag (h : FbF P i) (hd : tn (P 22 i) ≤ 16) (h0 : ∀ e, P' 0 e = P 0 e) (e10 : P' 10 i = P 10 i) (e22 : P' 22 i = P 22 i) (eF : ∀ g p, g = 23 ∨ g = 24 ∨ g = 25 ∨ g = 31 → p < 16 → P' g (16 * i + p) = P g (16 * i + p)) : FbF P' i := by
  have em : ∀ q, q ≤ tn (P 22 i) → mkv P' i q = mkv P i q := fun q hq => by
    unfold mkv
    rw [e22, e10]
    by_cases w : q = tn (P 22 i)
    · rw [if_pos w, if_pos w]
    · rw [if_neg w, if_neg w, eF 31 q (by decide) (by omega)]
  refine ⟨⟨(em 0 (Nat.zero_le _)).trans h.1.1, fun p hp hk => ?_⟩, fun p hp => ?_⟩
  · rw [e22] at hp
    rw [eF 23 p (by decide) (by omega)] at hk
    rw [em _ (by omega), em _ (by omega)]
    exact h.1.2 p hp hk
  · rw [e22] at hp
    exact (h.2 p hp).ag h0 (eF 23 p (by decide) (by omega)) (eF 24 p (by decide) (by omega)) (fun q => by rw [← eF 25 p (by decide) (by omega)]; exact q)
theorem RcY.ag {a : Nat} (h : RcY f j P g a) (hn : nfb P ≤ nfb P') (h19 : P' 19 g = P 19 g) (h20 : P' 20 g = P 20 g) (h21 : P' 21 g = P 21 g) (h5 : ∀ x, x < nfb P → (P' 5 x = 2 ↔ P 5 x = 2) ∧ (P 5 x = 2 → P' 14 x = P 14 x)) : RcY f j P' g a := by
  obtain ⟨a1, a2, a3, a4, a5, a6, a7, a8, a9⟩ := h
  have ea : ∀ x, x < nfb P → (Ex f j P' g x ↔ Ex f j P g x) := fun x hx => and_congr_left (fun _ => (h5 x hx).1)
  have e1 := ea a (by omega)
  have e2 := ea (a + 1) a3
  unfold RcY
  rw [e1, e2, h19, h20, h21]
  refine ⟨a1, a2, by omega, a4, a5, a6, fun q => ?_, fun q => ?_, a9⟩
  · rw [(h5 a (by omega)).2 q.1]; exact a7 q
  · rw [(h5 (a + 1) a3).2 q.1]; exact a8 q
theorem RcX.ag (h : RcX f j P g) (hn : nfb P ≤ nfb P') (h19 : P' 19 g = P 19 g) (h20 : P' 20 g = P 20 g) (h21 : P' 21 g = P 21 g) (h5 : ∀ x, x < nfb P → (P' 5 x = 2 ↔ P 5 x = 2) ∧ (P 5 x = 2 → P' 14 x = P 14 x)) : RcX f j P' g := by
  obtain ⟨a, ha⟩ := h
  exact ⟨a, ha.ag hn h19 h20 h21 h5⟩
theorem QI.ag (h : QI P LL) (hl : LL' 0 = LL 0) (hn : nfb P ≤ nfb P') (h36 : ∀ j, j < (LL 0).length → P' 36 j = P 36 j) (h5 : ∀ x, x ∈ LL 0 → P' 5 x = P 5 x) (h48 : P' 48 0 = P 48 0) : QI P' LL' := by
  unfold QI
  rw [hl, h48]
  refine ⟨fun j hj => (h36 j hj).trans (h.1 j hj), h.2.1, fun x hx => ?_⟩
  obtain ⟨a, b, d⟩ := h.2.2 x hx
  exact ⟨by omega, (h5 x hx).trans b, d⟩
theorem LIs.ag (h : LIs P LL) (hl : ∀ t, 1 ≤ t → LL' t = LL t) (hn : nfb P' = nfb P) (hW : ∀ x, x < nfb P → P' 5 x = P 5 x ∧ P' 15 x = P 15 x ∧ P' 16 x = P 16 x ∧ P' 18 x = P 18 x) : LIs P' LL' := by
  intro n hn4
  rw [hl (1 + n) (by omega), hl (5 + n) (by omega)]
  have hw : ∀ w m, ∀ x, x < nfb P → (Wt P' w m x ↔ Wt P w m x) := fun w m x hx => by
    unfold Wt
    rw [(hW x hx).1, (hW x hx).2.1, (hW x hx).2.2.1]
  exact ⟨(h n hn4).1.ag hn (hw _ _) (fun x hx => (hW x (((h n hn4).1.1 x).mp hx).1).2.2.2), (h n hn4).2.ag hn (hw _ _) (fun x hx => (hW x (((h n hn4).2.1 x).mp hx).1).2.2.2)⟩
theorem CtI.ag (h : CtI c P) (hc : c ≤ c') (hn : nfb P' = nfb P) (h5 : ∀ x, x < nfb P → P' 5 x = 1 → P 5 x = 1 ∧ P' 18 x = P 18 x) (h50 : P' 50 0 = P 50 0) (h44 : P' 44 0 = P 44 0) (h46 : P' 46 0 = P 46 0) : CtI c' P' := by
  obtain ⟨a, ⟨t1, b1, b2⟩, ⟨t2, d1, d2⟩, ⟨t3, e1, e2⟩⟩ := h
  unfold CtI
  rw [hn, h50, h44, h46]
  refine ⟨fun x hx hq => ?_, ⟨t1, by omega, b2⟩, ⟨t2, by omega, d2⟩, ⟨t3, by omega, e2⟩⟩
  rw [(h5 x hx hq).2]
  exact a x hx (h5 x hx hq).1
end Transfer
theorem EfX.ag {P P' : Pst} {e : Nat} (h : EfX P e) (h0 : ∀ g y, g < 5 → P' g y = P g y) : EfX P' e := by
  unfold EfX EfOK nef
  rw [h0 0 e (by decide), h0 1 e (by decide), h0 2 e (by decide), h0 3 e (by decide), h0 4 0 (by decide)]
  exact h
/-- what a tame change at fiber i may touch -/
def dU (i g y : Nat) : Prop := g = 7 ∨ g = 8 ∨ g = 9 ∨ g = 11 ∨ g = 12 ∨ g = 13 ∨ g = 17 ∨ (26 ≤ g ∧ g ≤ 30) ∨ (32 ≤ g ∧ g ≤ 35) ∨ (37 ≤ g ∧ g ≤ 41) ∨ g = 45 ∨ g = 47 ∨ g = 49 ∨ (g = 14 ∧ y = i)
def dT (i g y : Nat) : Prop := dU i g y ∨ ((g = 10 ∨ g = 22) ∧ y = i) ∨ ((g = 23 ∨ g = 24 ∨ g = 25 ∨ g = 31) ∧ y / 16 = i)
theorem Core.tame {P P' : Pst} {LL : Lls} {c f j i : Nat} (h : Core c f j P LL) (h5 : ¬ P 5 i = 2) (hA : Ag (dT i) P P') (hw : WB P') (hF : FbF P' i) : Core c f j P' LL := by
  obtain ⟨⟨w, l, ef⟩, fb, rc, q, li, ct⟩ := h
  have a : ∀ g y, (g < 7 ∨ g = 15 ∨ g = 16 ∨ g = 18 ∨ g = 19 ∨ g = 20 ∨ g = 21 ∨ g = 36 ∨ g = 42 ∨ g = 43 ∨ g = 44 ∨ g = 46 ∨ g = 48 ∨ g = 50 ∨ g = 51) → P' g y = P g y := fun g y hg => hA g y (by unfold dT dU; omega)
  have n42 : nfb P' = nfb P := by unfold nfb; rw [a 42 0 (by decide)]
  refine ⟨⟨hw, by rw [a 43 0 (by decide)]; exact l, fun e => (ef e).ag (fun g y hg => a g y (by omega))⟩, fun x hx => ?_, fun g hg h15 => ?_, ?_, ?_, ?_⟩
  · rw [n42] at hx
    refine ⟨(fb x hx).1.ag (Nat.le_refl _) (fun g hg => a g x (by omega)) (Or.inl (a 6 x (by decide))), ?_⟩
    by_cases e : x = i
    · rw [e]; exact hF
    · exact (fb x hx).2.ag (w 22 x).2 (fun e => a 0 e (by decide)) (hA 10 x (by unfold dT dU; omega)) (hA 22 x (by unfold dT dU; omega)) (fun g p hg hp => hA g _ (by unfold dT dU; omega))
  · rw [n42] at hg
    rw [a 15 g (by decide)] at h15
    refine (rc g hg h15).ag (Nat.le_of_eq n42.symm) (a 19 g (by decide)) (a 20 g (by decide)) (a 21 g (by decide)) (fun x _ => ⟨by rw [a 5 x (by decide)], fun q => hA 14 x ?_⟩)
    have : ¬ x = i := fun e => h5 (by rw [← e]; exact q)
    unfold dT dU; omega
  · exact q.ag rfl (Nat.le_of_eq n42.symm) (fun j _ => a 36 j (by decide)) (fun x _ => a 5 x (by decide)) (a 48 0 (by decide))
  · exact li.ag (fun _ _ => rfl) n42 (fun x _ => ⟨a 5 x (by decide), a 15 x (by decide), a 16 x (by decide), a 18 x (by decide)⟩)
  · exact ct.ag (Nat.le_refl _) n42 (fun x _ q => ⟨by rw [← a 5 x (by decide)]; exact q, a 18 x (by decide)⟩) (a 50 0 (by decide)) (a 44 0 (by decide)) (a 46 0 (by decide))
theorem Core.still {P P' : Pst} {LL : Lls} {c f j i : Nat} (h : Core c f j P LL) (hi : i < nfb P) (h5 : ¬ P 5 i = 2) (hA : Ag (dU i) P P') (hw : WB P') : Core c f j P' LL := by
  refine h.tame h5 (fun g y q => hA g y (fun d => q (Or.inl d))) hw ?_
  refine (h.2.1 i hi).2.ag (h.1.1 22 i).2 (fun e => hA 0 e (by unfold dU; omega)) (hA 10 i (by unfold dU; omega)) (hA 22 i (by unfold dU; omega)) (fun g p hg hp => hA g _ (by unfold dU; omega))
theorem Core.ct {P P' : Pst} {LL : Lls} {c c' f j : Nat} (h : Core c f j P LL) (hA : ∀ g y, g ≠ 44 → g ≠ 46 → g ≠ 6 → g ≠ 7 → P' g y = P g y) (h6 : ∀ y, P' 6 y = P 6 y ∨ P' 6 y = 1 ∨ P' 6 y = 2) (hw : WB P') (hc : c ≤ c') (h44 : ∃ t, t ≤ 1000 * c' ∧ P' 44 0 = nI t) (h46 : ∃ t, t ≤ c' ∧ P' 46 0 = nI t) : Core c' f j P' LL := by
  obtain ⟨⟨w, l, ef⟩, fb, rc, q, li, ct⟩ := h
  have a : ∀ g y, (g ≤ 5 ∨ (8 ≤ g ∧ g ≤ 43) ∨ g = 48 ∨ g = 50 ∨ g = 51) → P' g y = P g y := fun g y hg => hA g y (by omega) (by omega) (by omega) (by omega)
  have n42 : nfb P' = nfb P := by unfold nfb; rw [a 42 0 (by decide)]
  refine ⟨⟨hw, by rw [a 43 0 (by decide)]; exact l, fun e => (ef e).ag (fun g y hg => a g y (by omega))⟩, fun x hx => ?_, fun g hg h15 => ?_, ?_, ?_, ?_⟩
  · rw [n42] at hx
    exact ⟨(fb x hx).1.ag hc (fun g hg => a g x (by omega)) (h6 x), (fb x hx).2.ag (w 22 x).2 (fun e => a 0 e (by decide)) (a 10 x (by decide)) (a 22 x (by decide)) (fun g p hg hp => a g _ (by omega))⟩
  · rw [n42] at hg
    rw [a 15 g (by decide)] at h15
    exact (rc g hg h15).ag (Nat.le_of_eq n42.symm) (a 19 g (by decide)) (a 20 g (by decide)) (a 21 g (by decide)) (fun x _ => ⟨by rw [a 5 x (by decide)], fun _ => a 14 x (by decide)⟩)
  · exact q.ag rfl (Nat.le_of_eq n42.symm) (fun j _ => a 36 j (by decide)) (fun x _ => a 5 x (by decide)) (a 48 0 (by decide))
  · exact li.ag (fun _ _ => rfl) n42 (fun x _ => ⟨a 5 x (by decide), a 15 x (by decide), a 16 x (by decide), a 18 x (by decide)⟩)
  · obtain ⟨b1, ⟨t, t1, t2⟩, -, -⟩ := ct
    refine ⟨fun x hx hq => ?_, ⟨t, by omega, (a 50 0 (by decide)).trans t2⟩, h44, h46⟩
    rw [n42] at hx
    rw [a 5 x (by decide)] at hq
    rw [a 18 x (by decide), a 50 0 (by decide)]
    exact b1 x hx hq
theorem Core.more {P : Pst} {LL : Lls} {c c' f j : Nat} (h : Core c f j P LL) (hc : c ≤ c') : Core c' f j P LL := by
  obtain ⟨t, t1, t2⟩ := h.2.2.2.2.2.2.2.1
  obtain ⟨s, s1, s2⟩ := h.2.2.2.2.2.2.2.2
  exact h.ct (fun _ _ _ _ _ _ => rfl) (fun _ => Or.inl rfl) h.1.1 hc ⟨t, by omega, t2⟩ ⟨s, by omega, s2⟩
/-! room in the queue -/
theorem Core.room {P : Pst} {LL : Lls} {c f j i : Nat} (h : Core c f j P LL) (hi : i < nfb P) (hn : ¬ i ∈ LL 0) : tn (P 43 0) + 1 ≤ nfb P := by
  rw [h.1.2.1]
  exact nd_lt1 h.2.2.2.1.2.1 (fun x hx => (h.2.2.2.1.2.2 x hx).1) hi hn
theorem Core.nq5 {P : Pst} {LL : Lls} {c f j i : Nat} (h : Core c f j P LL) (h5 : ¬ P 5 i = 0) : ¬ i ∈ LL 0 := fun q => h5 (h.2.2.2.1.2.2 i q).2.1
theorem Core.nq48 {P : Pst} {LL : Lls} {c f j i : Nat} (h : Core c f j P LL) (h48 : P 48 0 = nI i) : ¬ i ∈ LL 0 := fun q => (h.2.2.2.1.2.2 i q).2.2 h48
theorem Core.r10 {P : Pst} {LL : Lls} {c f j i : Nat} (h : Core c f j P LL) (hi : i < nfb P) (hn : ¬ i ∈ LL 0) : tn (P 43 0) < 10 := by
  have := h.room hi hn
  have := n10 h.1.1
  omega
