/-! a turn begins -/
section Turn
variable {P Q : Pst} {LL L : Lls} {c i : Nat}
theorem q_36 (P : Pst) : ∀ j y, it_q P j 36 y = if y < j then P 36 (y + 1) else P 36 y
  | 0, y => by rw [if_neg (Nat.not_lt_zero _)]; rfl
  | j + 1, y => by
    show up (it_q P j) 36 j (it_q P j 36 (j + 1)) 36 y = _
    rw [up_e, q_36 P j (j + 1), q_36 P j y, if_neg (by omega : ¬ j + 1 < j)]
    by_cases e : y = j
    · rw [if_pos ⟨rfl, e⟩, if_pos (by omega), e]
    · rw [if_neg (fun w => e w.2)]
      by_cases w : y < j
      · rw [if_pos w, if_pos (by omega)]
      · rw [if_neg w, if_neg (by omega)]
theorem b141_48 (P : Pst) : p_b141 P 48 0 = P 36 0 := by
  unfold p_b141
  rw [up_f (by decide), up_f (by decide), q_fr _ (by decide), up_f (by decide), up_s]
theorem b141_43 (P : Pst) : p_b141 P 43 0 = P 43 0 - 1 := by
  unfold p_b141
  rw [up_f (by decide), up_f (by decide), q_fr _ (by decide), up_s]
theorem b141_49 (P : Pst) : p_b141 P 49 0 = 0 := by
  unfold p_b141
  rw [up_f (by decide), up_s]
theorem b141_36 (P : Pst) (y : Nat) : p_b141 P 36 y = if y < tn (P 43 0) - 1 then P 36 (y + 1) else P 36 y := by
  unfold p_b141
  rw [up_f (by decide), up_f (by decide), q_36, up_f (by decide), up_f (by decide), up_f (by decide), up_f (by decide)]
theorem Core.take {x : Nat} {l : List Nat} (h : Core c 0 10 P LL) (hl : LL 0 = x :: l) : Core c 0 10 (p_b141 P) (upL LL 0 l) ∧ x < nfb (p_b141 P) ∧ p_b141 P 48 0 = nI x ∧ p_b141 P 5 x = 0 := by
  obtain ⟨⟨w, ll, ef⟩, fb, rc, q, li, ct⟩ := h
  have h10 := n10 w
  have o : ∀ g y, ¬ g = 48 ∧ ¬ g = 43 ∧ ¬ g = 36 ∧ ¬ g = 49 ∧ ¬ g = 47 → p_b141 P g y = P g y := fun g y hg => b141_o P (by omega)
  have n42 : nfb (p_b141 P) = nfb P := by unfold nfb; rw [o 42 0 (by decide)]
  obtain ⟨q1, q2, q3⟩ := q
  rw [hl] at q1 q2 q3 ll
  rw [List.length_cons] at ll
  have hx := q3 x List.mem_cons_self
  have e48 : p_b141 P 48 0 = nI x := by
    rw [b141_48, q1 0 (by rw [List.length_cons]; omega)]; rfl
  have hll : l.length ≤ 10 := by
    have := (w 43 0).2
    omega
  refine ⟨⟨⟨wb_b141 w (by omega), ?_, fun e => (ef e).ag (fun g y hg => o g y (by omega))⟩, fun y hy => ?_, fun g hg h15 => ?_, ?_, ?_, ?_⟩, by rw [n42]; exact hx.1, e48, by rw [o 5 x (by decide)]; exact hx.2.1⟩
  · rw [upL_s, b141_43, (tn_dec (w 43 0).1 (by omega) (by omega)).2, ll, Nat.add_sub_cancel]
  · rw [n42] at hy
    exact ⟨(fb y hy).1.ag (Nat.le_refl c) (fun g hg => o g y (by omega)) (Or.inl (o 6 y (by decide))), (fb y hy).2.ag (w 22 y).2 (fun e => o 0 e (by decide)) (o 10 y (by decide)) (o 22 y (by decide)) (fun g p hg hp => o g _ (by omega))⟩
  · rw [n42] at hg
    rw [o 15 g (by decide)] at h15
    exact (rc g hg h15).ag (Nat.le_of_eq n42.symm) (o 19 g (by decide)) (o 20 g (by decide)) (o 21 g (by decide)) (fun z _ => ⟨by rw [o 5 z (by decide)], fun _ => o 14 z (by decide)⟩)
  · unfold QI
    rw [upL_s, e48, n42]
    refine ⟨fun j hj => ?_, (List.nodup_cons.mp q2).2, fun y hy => ?_⟩
    · rw [b141_36, if_pos (by omega), q1 (j + 1) (by rw [List.length_cons]; omega)]; rfl
    · have hy' := q3 y (List.mem_cons_of_mem _ hy)
      refine ⟨hy'.1, by rw [o 5 y (by decide)]; exact hy'.2.1, fun e => ?_⟩
      have := (nI_eq (by omega) (by omega)).mp e
      rw [this] at q2
      exact (List.nodup_cons.mp q2).1 hy
  · exact li.ag (fun t ht => upL_n _ (by omega) _) n42 (fun x _ => ⟨o 5 x (by decide), o 15 x (by decide), o 16 x (by decide), o 18 x (by decide)⟩)
  · exact ct.ag (Nat.le_refl _) n42 (fun x _ q => ⟨by rw [← o 5 x (by decide)]; exact q, o 18 x (by decide)⟩) (o 50 0 (by decide)) (o 44 0 (by decide)) (o 46 0 (by decide))
/-! the sleepers -/
theorem b_o (lst : Int32) (P : Pst) {g y : Nat} (hg : g ≠ 5 ∧ g ≠ 15 ∧ g ≠ 43 ∧ g ≠ 36 ∧ g ≠ 11 ∧ g ≠ 14 ∧ g ≠ 13) : ∀ j, it_b lst P j g y = P g y
  | 0 => rfl
  | j + 1 => by
    have ih := b_o lst P (y := y) hg j
    show (if it_b lst P j 5 j = 1 then (if it_b lst P j 15 j = 4 then (if it_b lst P j 16 j = lst then p_R_wake (p_R_give (it_b lst P j) j (it_b lst P j 17 j)) j else it_b lst P j) else it_b lst P j) else it_b lst P j) g y = _
    split
    · split
      · split
        · rw [kp_o _ _ _ hg]; exact ih
        · exact ih
      · exact ih
    · exact ih
theorem b_5 (lst : Int32) (P : Pst) {y : Nat} : ∀ j, j ≤ y → it_b lst P j 5 y = P 5 y ∧ it_b lst P j 15 y = P 15 y
  | 0, _ => ⟨rfl, rfl⟩
  | j + 1, hj => by
    have ih := b_5 lst P (y := y) j (by omega)
    show (if it_b lst P j 5 j = 1 then (if it_b lst P j 15 j = 4 then (if it_b lst P j 16 j = lst then p_R_wake (p_R_give (it_b lst P j) j (it_b lst P j 17 j)) j else it_b lst P j) else it_b lst P j) else it_b lst P j) 5 y = _ ∧ (if it_b lst P j 5 j = 1 then (if it_b lst P j 15 j = 4 then (if it_b lst P j 16 j = lst then p_R_wake (p_R_give (it_b lst P j) j (it_b lst P j 17 j)) j else it_b lst P j) else it_b lst P j) else it_b lst P j) 15 y = _
    split
    · split
      · split
        · rw [kp_5, kp_15, if_neg (by omega), if_neg (by omega)]; exact ih
        · exact ih
      · exact ih
    · exact ih
theorem Core.b (lst : Int32) (h : Core c 0 10 P LL) (h48 : P 48 0 = -1) : ∀ j, j ≤ nfb P → Core c 0 10 (it_b lst P j) (it_bL lst P LL j)
  | 0, _ => h
  | j + 1, hj => by
    have ih := Core.b lst h h48 j (by omega)
    have h10 := n10 h.1.1
    have hn : nfb (it_b lst P j) = nfb P := by unfold nfb; rw [b_42]
    have h48' : ¬ it_b lst P j 48 0 = nI j := by
      rw [b_o _ _ (by decide), h48]
      intro e
      have h2 : (-1 : Int32) < 0 := by decide
      rw [e] at h2
      exact absurd h2 (nI_pos (by omega))
    show Core c 0 10 (if it_b lst P j 5 j = 1 then (if it_b lst P j 15 j = 4 then (if it_b lst P j 16 j = lst then p_R_wake (p_R_give (it_b lst P j) j (it_b lst P j 17 j)) j else it_b lst P j) else it_b lst P j) else it_b lst P j) (if it_b lst P j 5 j = 1 ∧ it_b lst P j 15 j = 4 ∧ it_b lst P j 16 j = lst then upL (it_bL lst P LL j) 0 (it_bL lst P LL j 0 ++ [j]) else it_bL lst P LL j)
    by_cases q1 : it_b lst P j 5 j = 1
    · rw [if_pos q1]
      by_cases q2 : it_b lst P j 15 j = 4
      · rw [if_pos q2]
        by_cases q3 : it_b lst P j 16 j = lst
        · rw [if_pos q3, if_pos ⟨q1, q2, q3⟩]
          have hj' : j < nfb (it_b lst P j) := by rw [hn]; omega
          have h1 := ih.give hj' (by rw [q1]; decide) (it_b lst P j 17 j)
          have h2 := h1.wake (g := j) hj' (by rw [give_fr _ _ _ (by decide)]; exact q1) (by rw [give_fr _ _ _ (by decide)]; exact h48')
          rw [lv_n (by rw [give_fr _ _ _ (by decide), q2]; decide) (by rw [give_fr _ _ _ (by decide), q2]; decide)] at h2
          exact h2
        · rw [if_neg q3, if_neg (fun w => q3 w.2.2)]; exact ih
      · rw [if_neg q2, if_neg (fun w => q2 w.2.1)]; exact ih
    · rw [if_neg q1, if_neg (fun w => q1 w.1)]; exact ih
theorem bL_ne {lst : Int32} {y : Nat} (hy : P 5 y = 1 ∧ P 15 y = 4 ∧ P 16 y = lst) : ∀ j, y < j → ¬ it_bL lst P LL j 0 = []
  | 0, h => absurd h (Nat.not_lt_zero _)
  | j + 1, h => by
    show ¬ (if it_b lst P j 5 j = 1 ∧ it_b lst P j 15 j = 4 ∧ it_b lst P j 16 j = lst then upL (it_bL lst P LL j) 0 (it_bL lst P LL j 0 ++ [j]) else it_bL lst P LL j) 0 = []
    by_cases q : it_b lst P j 5 j = 1 ∧ it_b lst P j 15 j = 4 ∧ it_b lst P j 16 j = lst
    · rw [if_pos q, upL_s]
      intro e
      have := congrArg List.length e
      rw [List.length_append] at this
      exact absurd this (by show ¬ _ + 1 = 0; omega)
    · rw [if_neg q]
      by_cases e : y = j
      · rw [e] at hy
        exact absurd ⟨(b_5 lst P j (Nat.le_refl j)).1.trans hy.1, (b_5 lst P j (Nat.le_refl j)).2.trans hy.2.1, (b_o lst P (by decide) j).trans hy.2.2⟩ q
      · exact bL_ne hy j (by omega)
theorem ls_sp (P : Pst) : ∀ j, (ls P j = -1) ∨ ∃ y, y < j ∧ P 5 y = 1 ∧ P 15 y = 4 ∧ ls P j = P 16 y
  | 0 => Or.inl rfl
  | j + 1 => by
    have ih := ls_sp P j
    have lift : (ls P (j + 1) = ls P j) → ((ls P (j + 1) = -1) ∨ ∃ y, y < j + 1 ∧ P 5 y = 1 ∧ P 15 y = 4 ∧ ls P (j + 1) = P 16 y) := fun e => by
      rw [e]
      rcases ih with w | ⟨y, y1, y2⟩
      · exact Or.inl w
      · exact Or.inr ⟨y, by omega, y2⟩
    have e : ls P (j + 1) = if P 5 j = 1 then (if P 15 j = 4 then (if ls P j < 0 then P 16 j else if ls P j ≤ P 16 j then ls P j else P 16 j) else ls P j) else ls P j := rfl
    by_cases q1 : P 5 j = 1
    · rw [if_pos q1] at e
      by_cases q2 : P 15 j = 4
      · rw [if_pos q2] at e
        by_cases q3 : ls P j < 0
        · rw [if_pos q3] at e
          exact Or.inr ⟨j, Nat.lt_succ_self j, q1, q2, e⟩
        · rw [if_neg q3] at e
          by_cases q4 : ls P j ≤ P 16 j
          · rw [if_pos q4] at e; exact lift e
          · rw [if_neg q4] at e
            exact Or.inr ⟨j, Nat.lt_succ_self j, q1, q2, e⟩
      · rw [if_neg q2] at e; exact lift e
    · rw [if_neg q1] at e; exact lift e
theorem QI.qok (h : QI P LL) (h10 : nfb P ≤ 10) : QOK P LL := fun x l hl => by
  obtain ⟨q1, q2, q3⟩ := h
  rw [hl] at q1 q2 q3
  refine ⟨q1 0 (by rw [List.length_cons]; omega), (q3 x List.mem_cons_self).1, fun y hy e => ?_⟩
  have h1 := (q3 x List.mem_cons_self).1
  have h2 := (q3 y (List.mem_cons_of_mem _ hy)).1
  have := (nI_eq (by omega) (by omega)).mp e
  rw [this] at hy
  exact (List.nodup_cons.mp q2).1 hy
theorem Inv.turn (h : Inv c P LL) (hc : c < 2 ^ 20) (h51 : ¬ P 51 0 = 0) : HtOK P LL ∧ (P 48 0 < 0 → BeginOK P) ∧ Inv c (rnB P) (rnL P LL) ∧ nfb (rnB P) = nfb P ∧ (rnB P 48 0 < 0 → rnB P = P) ∧ ¬ rnB P 51 0 = 0 := by
  obtain ⟨hC, hs, hw⟩ := h
  have wb := hC.1.1
  have h10 := n10 wb
  by_cases q : P 48 0 < 0
  · have h48 : P 48 0 = -1 := by
      rcases hw with e | ⟨i, hi, e, -⟩
      · exact e
      · rw [e] at q
        exact absurd q (nI_pos (by omega))
    have hq0 : QOK P LL := hC.2.2.2.1.qok h10
    have fin : ∀ (Q : Pst) (L : Lls), Core c 0 10 Q L → nfb Q = nfb P → Q 51 0 = P 51 0 → ¬ L 0 = [] → Inv c (p_b141 Q) (upL L 0 (L 0).tail) ∧ nfb (p_b141 Q) = nfb P ∧ ¬ p_b141 Q 48 0 < 0 ∧ ¬ p_b141 Q 51 0 = 0 := fun Q L hQ hn h51' hne => by
      cases hl : L 0 with
      | nil => exact absurd hl hne
      | cons x l =>
        obtain ⟨r1, r2, r3, r4⟩ := hQ.take hl
        have n42 : nfb (p_b141 Q) = nfb P := by rw [← hn]; unfold nfb; rw [b141_o _ (by decide)]
        have e51 : ¬ p_b141 Q 51 0 = 0 := by rw [b141_o _ (by decide), h51']; exact h51
        refine ⟨⟨r1, ⟨fun w => absurd w e51, fun w => by omega⟩, Or.inr ⟨x, r2, r3, r4, 0, by decide, b141_49 Q⟩⟩, n42, ?_, e51⟩
        rw [r3]
        exact nI_pos (by omega)
    by_cases q43 : P 43 0 = 0
    · have s4 : ∀ j, j < nfb P → P 15 j = 4 → ¬ P 16 j < 0 := fun j hj e => by
        obtain ⟨t, t1, t2⟩ := (hC.2.1 j hj).1.2.2.2.2 e
        rw [t2]
        exact nI_pos (by omega)
      have s5 : ∀ j, j < nfb P → (P 5 j = 1 ↔ ¬ P 15 j = 0) := fun j hj => (hC.2.1 j hj).1.2.1
      by_cases ql : ls P (nfb P) < 0
      · have e1 : rnB P = P := by
          unfold rnB p_R_begin
          rw [if_pos q, if_pos q43]
          exact if_neg (Int32.not_le.mpr ql)
        have e2 : rnL P LL = LL := by
          unfold rnL
          rw [if_pos q, if_pos q43, if_pos ql]
        rw [e1, e2]
        exact ⟨fun _ => ⟨hq0, fun _ => ⟨s4, s5, fun w => absurd ql w⟩⟩, fun _ => ⟨fun _ w => absurd w (Int32.not_le.mpr ql), fun _ w => absurd w (Int32.not_le.mpr ql)⟩, ⟨hC, hs, hw⟩, rfl, fun _ => rfl, h51⟩
      · have hl0 : 0 ≤ ls P (nfb P) := Int32.not_lt.mp ql
        obtain ⟨y, y1, y2, y3, y4⟩ : ∃ y, y < nfb P ∧ P 5 y = 1 ∧ P 15 y = 4 ∧ ls P (nfb P) = P 16 y := by
          rcases ls_sp P (nfb P) with w | w
          · exact absurd (by rw [w]; decide) ql
          · exact w
        obtain ⟨t, t1, t2⟩ := (hC.2.1 y y1).1.2.2.2.2 y3
        obtain ⟨s, s1, s2⟩ := hC.2.2.2.2.2.2.2.2
        have h1 : Core c 0 10 (up P 44 0 (ls P (nfb P))) LL := hC.ct (fun a z g1 g2 g3 g4 => up_f g1 _ _ _ _) (fun z => Or.inl (up_f (by decide) _ _ _ _)) (wb.up (f := 44) trivial) (Nat.le_refl c) ⟨t, t1, by rw [up_s, y4, t2]⟩ ⟨s, s1, by rw [up_f (by decide)]; exact s2⟩
        have hb := h1.b (ls P (nfb P)) (by rw [up_f (by decide)]; exact h48)
        have nb : ∀ j, nfb (it_b (ls P (nfb P)) (up P 44 0 (ls P (nfb P))) j) = nfb P := fun j => by unfold nfb; rw [b_42]; rfl
        have hB : Core c 0 10 (b2P P) (b2L P LL) := hb (nfb P) (Nat.le_refl _)
        have hne : ¬ b2L P LL 0 = [] := bL_ne (P := up P 44 0 (ls P (nfb P))) (y := y) ⟨y2, y3, y4.symm⟩ (nfb P) y1
        have hr : ∀ j, j < nfb P → it_b (ls P (nfb P)) (up P 44 0 (ls P (nfb P))) j 5 j = 1 → tn (it_b (ls P (nfb P)) (up P 44 0 (ls P (nfb P))) j 43 0) < 10 := fun j hj w => (hb j (by show j ≤ nfb P; omega)).r10 (i := j) (by rw [nb]; exact hj) ((hb j (by show j ≤ nfb P; omega)).nq5 (by rw [w]; decide))
        have e1 : rnB P = p_b141 (b2P P) := by
          unfold rnB p_R_begin
          rw [if_pos q, if_pos q43]
          exact if_pos hl0
        have e2 : rnL P LL = upL (b2L P LL) 0 (b2L P LL 0).tail := by
          unfold rnL
          rw [if_pos q, if_pos q43, if_neg ql]
        obtain ⟨f1, f2, f3, f4⟩ := fin (b2P P) (b2L P LL) hB (nb _) (b_o _ _ (by decide) _) hne
        rw [e1, e2]
        refine ⟨fun _ => ⟨hq0, fun _ => ⟨s4, s5, fun _ => ⟨fun j hj => ⟨((hb j (by show j ≤ nfb P; omega)).2.1 j (by rw [nb]; exact hj)).1.2.1, hr j hj⟩, hB.2.2.2.1.qok (by rw [show nfb (b2P P) = nfb P from nb _]; exact h10), hne⟩⟩⟩, fun _ => ⟨fun _ _ => hr, fun _ _ => ?_⟩, f1, f2, fun w => absurd w f3, f4⟩
        have := hB.1.2.1
        have h0 : 0 < (b2L P LL 0).length := List.length_pos_iff.mpr hne
        show 1 ≤ tn (b2P P 43 0)
        omega
    · have hne : ¬ LL 0 = [] := fun e => by
        have := hC.1.2.1
        rw [e] at this
        apply q43
        rw [(wb 43 0).1, this]; rfl
      have e1 : rnB P = p_b141 P := by
        unfold rnB p_R_begin
        rw [if_pos q, if_neg q43]
      have e2 : rnL P LL = upL LL 0 (LL 0).tail := by
        unfold rnL
        rw [if_pos q, if_neg q43]
      obtain ⟨f1, f2, f3, f4⟩ := fin P LL hC rfl rfl hne
      rw [e1, e2]
      exact ⟨fun _ => ⟨hq0, fun w => absurd w q43⟩, fun _ => ⟨fun w => absurd w q43, fun w => absurd w q43⟩, f1, f2, fun w => absurd w f3, f4⟩
  · have e1 : rnB P = P := by unfold rnB; rw [if_neg q]
    have e2 : rnL P LL = LL := by unfold rnL; rw [if_neg q]
    rw [e1, e2]
    exact ⟨fun w => absurd w q, fun w => absurd w q, ⟨hC, hs, hw⟩, rfl, fun _ => rfl, h51⟩
/-! the run of some steps -/
theorem it_r_shift (P : Pst) : ∀ n, it_r P (n + 1) = it_r (rn P) n
  | 0 => rfl
  | n + 1 => by
    show rn (it_r P (n + 1)) = rn (it_r (rn P) n)
    rw [it_r_shift P n]
theorem it_r_fix (h : rn P = P) : ∀ n, it_r P n = P
  | 0 => rfl
  | n + 1 => by
    show rn (it_r P n) = P
    rw [it_r_fix h n, h]
theorem Core.sta {f j : Nat} (h : Core c f j P LL) : StA P := fun j hj => ⟨(h.2.1 j hj).1.1, (h.2.1 j hj).1.2.1⟩
theorem run_ok : ∀ (n c : Nat) (P : Pst) (LL : Lls), Inv c P LL → ¬ P 51 0 = 0 → c + n ≤ 2 ^ 20 → COK n P LL ∧ ciP n P LL = it_r P n ∧ (∀ j, j < n → RunOK (it_r P j)) ∧ Inv (c + n) (ciP n P LL) (ciL n P LL)
  | 0, c, P, LL, h, _, _ => ⟨h.1.sta, rfl, fun j hj => absurd hj (Nat.not_lt_zero _), h⟩
  | n + 1, c, P, LL, h, h51, hc => by
    obtain ⟨t1, t2, t3, t4, t5, t6⟩ := h.turn (by omega) h51
    have h10 := n10 h.1.1.1
    by_cases q : rnB P 48 0 < 0
    · have eB := t5 q
      have er : rn P = P := by
        unfold rn
        rw [if_pos q, eB]
      have e1 : ciP (n + 1) P LL = P := by
        show (if rnB P 48 0 < 0 then rnB P else ciP n (crP P LL) (crL P LL)) = P
        rw [if_pos q, eB]
      have e2 : ciL (n + 1) P LL = rnL P LL := by
        show (if rnB P 48 0 < 0 then rnL P LL else ciL n (crP P LL) (crL P LL)) = _
        rw [if_pos q]
      rw [e1, e2]
      refine ⟨⟨t1, fun _ => t3.1.sta, fun w => absurd q w⟩, (it_r_fix er _).symm, fun j _ => ?_, ?_⟩
      · rw [it_r_fix er]
        exact ⟨h.1.1.1, t2, fun w => absurd q w⟩
      · rw [eB] at t3
        exact ⟨t3.1.more (by omega), t3.2⟩
    · rcases t3.2.2 with w | ⟨i, hi, h48, h5, h49⟩
      · exact absurd (by rw [w]; decide) q
      have hi10 : i < 10 := by omega
      have ti : tn (rnB P 48 0) = i := by rw [h48, tn_nI (by omega)]
      have hA := in_at hi h48 h49 t6
      have h1 := t3.1.in1 hi h5
      have h5' : inP (rnB P) i 5 i = 0 := by rw [in_o _ _ (by decide)]; exact h5
      have hsa := h1.sa (by omega) hA h5'
      have hT := hsa.1.tail hsa.2
      have ecr : crP P LL = p_s140 (saP (inP (rnB P) i) (rnL P LL) i) i (nI i) := by unfold crP; rw [ti]
      have ecl : crL P LL = wkL (saP (inP (rnB P) i) (rnL P LL) i) (saL (inP (rnB P) i) (rnL P LL) i) i := by unfold crL; rw [ti]
      have eS : crP P LL = rn P := by
        unfold rn p_R_step
        rw [if_neg q, ecr, sa_eq t3.1 hi h48 h5, ti, h48]
      have hst := t3.1.stepok (by omega) hi h48 h5 h49 t6
      have h51' : ¬ crP P LL 51 0 = 0 := by
        rw [ecr]
        unfold p_s140
        split
        · split
          · rw [up_f (by decide), up_f (by decide), up_f (by decide)]; exact hsa.2.2.2.2.1
          · exact hsa.2.2.2.2.1
        · rw [up_f (by decide)]; exact hsa.2.2.2.2.1
      have hT1 : Inv (c + 1) (crP P LL) (crL P LL) := by rw [ecr, ecl]; exact hT.1
      have hN : nfb P ≤ nfb (crP P LL) := by rw [ecr, ← t4]; exact hT.2
      obtain ⟨i1, i2, i3, i4⟩ := run_ok n (c + 1) (crP P LL) (crL P LL) hT1 h51' (by omega)
      have e1 : ciP (n + 1) P LL = ciP n (crP P LL) (crL P LL) := by
        show (if rnB P 48 0 < 0 then rnB P else ciP n (crP P LL) (crL P LL)) = _
        rw [if_neg q]
      have e2 : ciL (n + 1) P LL = ciL n (crP P LL) (crL P LL) := by
        show (if rnB P 48 0 < 0 then rnL P LL else ciL n (crP P LL) (crL P LL)) = _
        rw [if_neg q]
      rw [e1, e2]
      refine ⟨⟨t1, fun w => absurd w q, fun _ => ⟨by rw [ti]; exact hi, by rw [ti]; exact h48, by rw [ti]; exact h1.wkok (by omega) hA h5', hN, i1⟩⟩, ?_, fun j hj => ?_, ?_⟩
      · rw [i2, eS, it_r_shift]
      · cases j with
        | zero => exact ⟨h.1.1.1, t2, fun _ => ⟨t3.1.1.1, hst⟩⟩
        | succ j =>
          rw [it_r_shift, ← eS]
          exact i3 j (by omega)
      · rw [show c + (n + 1) = c + 1 + n by omega]
        exact i4
end Turn
