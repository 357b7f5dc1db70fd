/-! the end of a fiber keeps the invariant -/
section Ends
variable {P Q : Pst} {LL L : Lls} {c f j i N : Nat}
theorem Core.nx (h : Core c f j Q L) (hr : Q 15 j = 3 → RcX f (j + 1) Q j) : Core c f (j + 1) Q L := by
  obtain ⟨a, b, rc, d⟩ := h
  refine ⟨a, b, fun g hg h15 => ?_, d⟩
  by_cases e : g = j
  · rw [e] at h15 ⊢
    exact hr h15
  · obtain ⟨x, hx⟩ := rc g hg h15
    refine ⟨x, ?_⟩
    have ex : ∀ y, Ex f (j + 1) Q g y ↔ Ex f j Q g y := fun y => and_congr_right (fun _ => by
      constructor
      · exact fun w q => w ⟨q.1, by omega⟩
      · exact fun w q => w ⟨q.1, by omega⟩)
    unfold RcY at hx ⊢
    rw [ex, ex]
    exact hx
theorem Core.any {f' j' : Nat} (h : Core c f j Q L) (hj : nfb Q ≤ j) (hj' : nfb Q ≤ j') : Core c f' j' Q L := by
  obtain ⟨a, b, rc, d⟩ := h
  refine ⟨a, b, fun g hg h15 => ?_, d⟩
  obtain ⟨x, hx⟩ := rc g hg h15
  refine ⟨x, ?_⟩
  have ex : ∀ y, Ex f' j' Q g y ↔ Ex f j Q g y := fun y => and_congr_right (fun _ => by
    constructor
    · exact fun w q => by omega
    · exact fun w q => by omega)
  unfold RcY at hx ⊢
  rw [ex, ex]
  exact hx
theorem Core.dies (h : Core c f 10 P LL) (hi : i < nfb P) (h5 : P 5 i = 0) (hq : ¬ i ∈ LL 0) (h10 : P 10 i = 0) : Core c i 0 (up (up P 5 i 2) 10 i 0) LL := by
  have e10 : up (up P 5 i 2) 10 i 0 = up P 5 i 2 := by
    have := up_same (up P 5 i 2) 10 i
    rw [up_f (by decide), h10] at this
    exact this
  rw [e10]
  have f15 := h.f15 hi h5
  obtain ⟨⟨w, l, ef⟩, fb, rc, q, li, ct⟩ := h
  have a : ∀ g y, ¬ g = 5 → up P 5 i 2 g y = P g y := fun g y hg => up_f hg _ _ _ _
  have a5 : ∀ y, ¬ y = i → up P 5 i 2 5 y = P 5 y := fun y hy => up_j hy _ _ _ _
  have n42 : nfb (up P 5 i 2) = nfb P := by unfold nfb; rw [a 42 0 (by decide)]
  have h10' := n10 w
  refine ⟨⟨w.up (f := 5) trivial, by rw [a 43 0 (by decide)]; exact l, fun e => (ef e).ag (fun g y hg => a g y (by omega))⟩, fun y hy => ?_, fun g hg h15 => ?_, ?_, fun n hn => ?_, ?_⟩
  · rw [n42] at hy
    refine ⟨?_, (fb y hy).2.ag (w 22 y).2 (fun e => a 0 e (by decide)) (a 10 y (by decide)) (a 22 y (by decide)) (fun g p hg hp => a g _ (by omega))⟩
    by_cases e : y = i
    · have := (fb y hy).1
      rw [e] at this ⊢
      unfold FbS
      rw [up_s, a 15 i (by decide), a 6 i (by decide), a 16 i (by decide), f15]
      exact ⟨Or.inr (Or.inr rfl), ⟨fun q => absurd q (by decide), fun q => absurd rfl q⟩, this.2.2.1, fun q => absurd q (by decide), fun q => absurd q (by decide)⟩
    · refine (fb y hy).1.ag (Nat.le_refl c) (fun g hg => ?_) (Or.inl (a 6 y (by decide)))
      rcases hg with rfl | rfl | rfl
      · exact a5 y e
      · exact a 15 y (by decide)
      · exact a 16 y (by decide)
  · rw [n42] at hg
    rw [a 15 g (by decide)] at h15
    obtain ⟨x, hx⟩ := rc g hg h15
    refine ⟨x, ?_⟩
    have ex : ∀ y, Ex i 0 (up P 5 i 2) g y ↔ Ex f 10 P g y := fun y => by
      unfold Ex
      by_cases e : y = i
      · rw [e, h5]
        exact ⟨fun q => absurd ⟨rfl, Nat.zero_le _⟩ q.2, fun q => absurd q.1 (by decide)⟩
      · rw [a5 y e]
        exact ⟨fun q => ⟨q.1, by omega⟩, fun q => ⟨q.1, fun z => e z.1⟩⟩
    unfold RcY at hx ⊢
    rw [ex, ex, n42, a 19 g (by decide), a 20 g (by decide), a 21 g (by decide), a 14 _ (by decide), a 14 _ (by decide)]
    exact hx
  · exact q.ag rfl (Nat.le_of_eq n42.symm) (fun j _ => a 36 j (by decide)) (fun x hx => a5 x (fun e => hq (by rw [← e]; exact hx))) (a 48 0 (by decide))
  · have hw : ∀ w m y, Wt (up P 5 i 2) w m y ↔ Wt P w m y := fun w m y => by
      unfold Wt
      rw [a 15 y (by decide), a 16 y (by decide)]
      by_cases e : y = i
      · rw [e, up_s, h5]
        exact ⟨fun q => absurd q.1 (by decide), fun q => absurd q.1 (by decide)⟩
      · rw [a5 y e]
    exact ⟨(li n hn).1.ag n42 (fun y _ => hw _ _ y) (fun y _ => a 18 y (by decide)), (li n hn).2.ag n42 (fun y _ => hw _ _ y) (fun y _ => a 18 y (by decide))⟩
  · refine ct.ag (Nat.le_refl _) n42 (fun x _ q => ?_) (a 50 0 (by decide)) (a 44 0 (by decide)) (a 46 0 (by decide))
    by_cases e : x = i
    · rw [e, up_s] at q; exact absurd q (by decide)
    · rw [a5 x e] at q
      exact ⟨q, a 18 x (by decide)⟩
theorem lv_n {L : Lls} (h5 : ¬ P 15 j = 5) (h6 : ¬ P 15 j = 6) : lvL P L j = L := by
  unfold lvL
  rw [if_neg h5, if_neg h6]
/-- a waiter that is no race's, woken with what R holds -/
theorem Core.woken {R : Pst} (h : Core c f j R L) (hj : j < nfb R) (h5 : R 5 j = 1) (h48 : ¬ R 48 0 = nI j) (n5 : ¬ R 15 j = 5) (n6 : ¬ R 15 j = 6) : Core c f (j + 1) (p_R_wake R j) (upL L 0 (L 0 ++ [j])) := by
  have h1 := h.wake hj h5 h48
  rw [lv_n n5 n6] at h1
  exact h1.nx (fun q => by rw [wk_15, if_pos rfl] at q; exact absurd q (by decide))
theorem give_up (P : Pst) {g y x : Nat} (hg : ¬ g = 11 ∧ ¬ g = 14 ∧ ¬ g = 13) (z v : Int32) : p_R_give (up P g y z) x v = up (p_R_give P x v) g y z := by
  unfold p_R_give
  rw [up_up P (f := g) (i := y) (g := 11) (j := x) (by omega), up_up _ (f := g) (i := y) (g := 14) (j := x) (by omega), up_up _ (f := g) (i := y) (g := 13) (j := x) (by omega)]
theorem x21_cases (Q : Pst) (g f : Nat) : (x21 Q g f = Q ∧ (Q 14 f = 0 → 0 ≤ Q 21 g)) ∨ (x21 Q g f = up Q 21 g (nI f) ∧ Q 14 f = 0 ∧ ¬ 0 ≤ Q 21 g) := by
  unfold x21
  by_cases a : Q 14 f = 0
  · rw [if_pos a]
    by_cases b : 0 ≤ Q 21 g
    · rw [if_pos b]; exact Or.inl ⟨rfl, fun _ => b⟩
    · rw [if_neg b]; exact Or.inr ⟨rfl, a, b⟩
  · rw [if_neg a]; exact Or.inl ⟨rfl, fun q => absurd q a⟩
/-- the two of a race have ended: its waiter goes on -/
theorem race_over (h : Core c f j Q L) (hf : Q 5 f = 2) (hj : j < nfb Q) (hf10 : f < 10) (h5 : Q 5 j = 1) (h48 : ¬ Q 48 0 = nI j) (h15 : Q 15 j = 3) {a : Nat} (h19 : Q 19 j = nI a) (ha : a < 10) (hja : ¬ j = a) (o : Nat) : Core c f (j + 1) (p_h175 (x21 Q j f) j f o) (upL L 0 (L 0 ++ [j])) ∧ p_h175 (x21 Q j f) j f o 5 f = 2 := by
  have hjf : ¬ f = j := fun e => by rw [e, h5] at hf; exact absurd hf (by decide)
  have h52 : ¬ Q 5 j = 2 := by rw [h5]; decide
  have g5 : ∀ w : Int32, ∀ y, p_R_give Q j w 5 y = Q 5 y := fun w y => give_fr _ _ _ (by decide)
  have gv : ∀ w : Int32, Core c f (j + 1) (p_R_wake (p_R_give Q j w) j) (upL L 0 (L 0 ++ [j])) := fun w =>
    (h.give hj h52 w).woken hj (by rw [g5]; exact h5) (by rw [give_fr _ _ _ (by decide)]; exact h48) (by rw [give_fr _ _ _ (by decide), h15]; decide) (by rw [give_fr _ _ _ (by decide), h15]; decide)
  have gw : ∀ w : Int32, p_R_wake (p_R_give Q j w) j 5 f = 2 := fun w => by rw [wk_5, if_neg hjf, g5, hf]
  rcases x21_cases Q j f with ⟨ex, -⟩ | ⟨ex, -, -⟩
  · rw [ex]
    unfold p_h175 p_h226
    by_cases q : Q 21 j < 0
    · rw [if_pos q]
      have t19 : tn (Q 19 j) = a := by rw [h19, tn_nI (by omega)]
      rw [t19]
      have h1 := h.hand hj h52 (g := a) hja
      have e1 : ∀ x y, x ≠ 34 ∧ x ≠ 35 ∧ x ≠ 33 ∧ x ≠ 14 ∧ x ≠ 13 ∧ x ≠ 11 → p_R_hand Q j a x y = Q x y := fun x y q => hand_fr _ _ _ q
      have n1 : nfb (p_R_hand Q j a) = nfb Q := by unfold nfb; rw [e1 42 0 (by decide)]
      have h2 := h1.join (i := j) (by rw [n1]; exact hj) (by rw [e1 5 j (by decide)]; exact h52) j (tn (p_R_hand Q j a 20 j)) 5
      generalize tn (p_R_hand Q j a 20 j) = b at h2 ⊢
      have e2 : ∀ x y, x ≠ 34 ∧ x ≠ 35 ∧ x ≠ 33 ∧ x ≠ 14 ∧ x ≠ 13 ∧ x ≠ 11 → p_R_join (p_R_hand Q j a) j b 5 x y = Q x y := fun x y q => by rw [join_fr _ _ _ _ ⟨q.1, q.2.1, q.2.2.1⟩]; exact e1 x y q
      have n2 : nfb (p_R_join (p_R_hand Q j a) j b 5) = nfb Q := by unfold nfb; rw [e2 42 0 (by decide)]
      refine ⟨h2.woken (by rw [n2]; exact hj) (by rw [e2 5 j (by decide)]; exact h5) (by rw [e2 48 0 (by decide)]; exact h48) (by rw [e2 15 j (by decide), h15]; decide) (by rw [e2 15 j (by decide), h15]; decide), ?_⟩
      rw [wk_5, if_neg hjf, e2 5 f (by decide)]; exact hf
    · rw [if_neg q]
      exact ⟨gv _, gw _⟩
  · rw [ex]
    unfold p_h175 p_h226
    have e21 : up Q 21 j (nI f) 21 j = nI f := up_s _ _ _ _
    rw [if_neg (by rw [e21]; exact nI_pos (by omega)), e21, tn_nI (by omega), up_f (by decide), give_up _ (by decide), wake_up _ _ (by decide) (by decide) (by decide) (by decide)]
    refine ⟨(gv _).s19 (i := j) (by rw [wk_15, if_pos rfl]; decide) (Or.inr (Or.inr rfl)) (Or.inr (sm_nI (by omega) (by decide))), ?_⟩
    rw [up_f (by decide)]
    exact gw _
/-- one of a race's two has ended, the other not -/
theorem race_on (h : Core c f j Q L) (hf : Q 5 f = 2) (hj : j < nfb Q) (hf10 : f < 10) (h48 : Q 48 0 = nI f) {a : Nat} (hY : RcY f j Q j a) (hfa : f = a ∨ f = a + 1) {o : Nat} (ho : (f = a ∧ o = a + 1) ∨ (f = a + 1 ∧ o = a)) (h5o : ¬ x21 Q j f 5 o = 2) : Core c f (j + 1) (p_h149 (x21 Q j f) j f o) (if x21 Q j f 14 f = 0 then skL (x21 Q j f) L o else L) ∧ p_h149 (x21 Q j f) j f o 5 f = 2 := by
  obtain ⟨a1, a2, a3, a4, a5, a6, a7, a8, a9⟩ := hY
  have exj : ∀ y, Ex f j Q j y ↔ Q 5 y = 2 ∧ ¬ y = f := fun y => and_congr_right (fun _ => ⟨fun w e => w ⟨e, Nat.le_refl _⟩, fun w q => w q.1⟩)
  have x5 : ∀ y, x21 Q j f 5 y = Q 5 y := fun y => by
    rcases x21_cases Q j f with ⟨ex, -⟩ | ⟨ex, -, -⟩
    · rw [ex]
    · rw [ex, up_f (by decide)]
  rw [x5] at h5o
  have q21 : Q 21 j < 0 := by
    refine a9 (fun w => ?_) (fun w => ?_)
    · have := (exj _).mp w
      rcases ho with ⟨e1, e2⟩ | ⟨e1, e2⟩
      · exact this.2 e1.symm
      · rw [e2] at h5o; exact h5o this.1
    · have := (exj _).mp w
      rcases ho with ⟨e1, e2⟩ | ⟨e1, e2⟩
      · rw [e2] at h5o; exact h5o this.1
      · exact this.2 e1.symm
  have exk : ∀ (R : Pst) y, Ex f (j + 1) R j y ↔ R 5 y = 2 := fun R y => ⟨fun w => w.1, fun w => ⟨w, by omega⟩⟩
  have hX : Core c f (j + 1) (x21 Q j f) L := by
    rcases x21_cases Q j f with ⟨ex, hx⟩ | ⟨ex, h14, hx⟩
    · rw [ex]
      refine h.nx (fun _ => ⟨a, a1, a2, a3, a4, a5, ?_, ?_, ?_, fun _ _ => q21⟩)
      · rw [exk, exk]
        rintro ⟨w1, w2⟩
        rcases ho with ⟨e1, e2⟩ | ⟨e1, e2⟩
        · rw [e2] at h5o; exact h5o w2
        · rw [e2] at h5o; exact h5o w1
      · rw [exk]
        intro w
        refine ⟨fun z => ?_, fun _ => q21⟩
        rcases ho with ⟨e1, e2⟩ | ⟨e1, e2⟩
        · rw [← e1] at z
          exact absurd (hx z) (Int32.not_le.mpr q21)
        · rw [e2] at h5o; exact absurd w h5o
      · rw [exk]
        intro w
        refine ⟨fun z => ?_, fun _ => q21⟩
        rcases ho with ⟨e1, e2⟩ | ⟨e1, e2⟩
        · rw [e2] at h5o; exact absurd w h5o
        · rw [← e1] at z
          exact absurd (hx z) (Int32.not_le.mpr q21)
    · rw [ex]
      have u : ∀ g y, ¬ g = 21 → up Q 21 j (nI f) g y = Q g y := fun g y hg => up_f hg _ _ _ _
      have hR : RcX f (j + 1) (up Q 21 j (nI f)) j := by
        refine ⟨a, by rw [u 19 j (by decide)]; exact a1, by rw [u 20 j (by decide)]; exact a2, a3, a4, a5, ?_, ?_, ?_, fun w1 w2 => ?_⟩
        · rw [exk, exk, u 5 _ (by decide), u 5 _ (by decide)]
          rintro ⟨w1, w2⟩
          rcases ho with ⟨e1, e2⟩ | ⟨e1, e2⟩
          · rw [e2] at h5o; exact h5o w2
          · rw [e2] at h5o; exact h5o w1
        · rw [exk, u 5 _ (by decide), u 14 _ (by decide), up_s]
          intro w
          rcases ho with ⟨e1, e2⟩ | ⟨e1, e2⟩
          · rw [← e1]
            exact ⟨fun _ => rfl, fun z => absurd h14 z⟩
          · rw [e2] at h5o; exact absurd w h5o
        · rw [exk, u 5 _ (by decide), u 14 _ (by decide), up_s]
          intro w
          rcases ho with ⟨e1, e2⟩ | ⟨e1, e2⟩
          · rw [e2] at h5o; exact absurd w h5o
          · rw [← e1]
            exact ⟨fun _ => rfl, fun z => absurd h14 z⟩
        · rw [exk, u 5 _ (by decide)] at w1 w2
          rcases ho with ⟨e1, e2⟩ | ⟨e1, e2⟩
          · rw [← e1] at w1; exact absurd hf w1
          · rw [← e1] at w2; exact absurd hf w2
      obtain ⟨⟨wb, l, ef⟩, fb, rc, q, li, ct⟩ := h
      have n42 : nfb (up Q 21 j (nI f)) = nfb Q := rfl
      refine ⟨⟨wb.up (f := 21) (Or.inr (sm_nI (by omega) (by decide))), l, fun e => (ef e).ag (fun g y hg => u g y (by omega))⟩, fun y hy => ?_, fun g hg h15 => ?_, ?_, ?_, ?_⟩
      · exact ⟨(fb y hy).1.ag (Nat.le_refl c) (fun g hg => u g y (by omega)) (Or.inl (u 6 y (by decide))), (fb y hy).2.ag (wb 22 y).2 (fun e => u 0 e (by decide)) (u 10 y (by decide)) (u 22 y (by decide)) (fun g p hg hp => u g _ (by omega))⟩
      · by_cases e : g = j
        · rw [e]; exact hR
        · rw [u 15 g (by decide)] at h15
          obtain ⟨x, hx'⟩ := rc g hg h15
          refine ⟨x, ?_⟩
          have hxx := hx'.ag (P' := up Q 21 j (nI f)) (Nat.le_refl _) (u 19 g (by decide)) (u 20 g (by decide)) (up_j e _ _ _ _) (fun z _ => ⟨by rw [u 5 z (by decide)], fun _ => u 14 z (by decide)⟩)
          have ex' : ∀ y, Ex f (j + 1) (up Q 21 j (nI f)) g y ↔ Ex f j (up Q 21 j (nI f)) g y := fun y => and_congr_right (fun _ => by
            constructor
            · exact fun w q => w ⟨q.1, by omega⟩
            · exact fun w q => w ⟨q.1, by omega⟩)
          unfold RcY at hxx ⊢
          rw [ex', ex']
          exact hxx
      · exact q.ag rfl (Nat.le_refl _) (fun _ _ => u 36 _ (by decide)) (fun x _ => u 5 x (by decide)) (u 48 0 (by decide))
      · exact li.ag (fun _ _ => rfl) n42 (fun x _ => ⟨u 5 x (by decide), u 15 x (by decide), u 16 x (by decide), u 18 x (by decide)⟩)
      · exact ct.ag (Nat.le_refl _) n42 (fun x _ q => ⟨by rw [← u 5 x (by decide)]; exact q, u 18 x (by decide)⟩) (u 50 0 (by decide)) (u 44 0 (by decide)) (u 46 0 (by decide))
  unfold p_h149
  rw [x5, if_neg h5o]
  have hfo : ¬ f = o := by omega
  have nX : nfb (x21 Q j f) = nfb Q := by
    rcases x21_cases Q j f with ⟨ex, -⟩ | ⟨ex, -, -⟩
    · rw [ex]
    · rw [ex]; rfl
  have X48 : x21 Q j f 48 0 = Q 48 0 := by
    rcases x21_cases Q j f with ⟨ex, -⟩ | ⟨ex, -, -⟩
    · rw [ex]
    · rw [ex]; exact up_f (by decide) _ _ _ _
  have hn := n10 h.1.1
  by_cases q : x21 Q j f 14 f = 0
  · rw [if_pos q, if_pos q]
    refine ⟨hX.strike (g := o) (by rw [nX]; omega) (fun _ => by rw [X48, h48]; intro e; exact hfo ((nI_eq (by omega) (by omega)).mp e)) (nI j), ?_⟩
    rw [st_52, x5]; exact hf
  · rw [if_neg q, if_neg q]
    exact ⟨hX, by rw [x5]; exact hf⟩
end Ends
