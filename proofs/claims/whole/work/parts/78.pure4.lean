/-! each small step keeps the invariant -/
theorem give_dU (P : Pst) (i : Nat) (v : Int32) : Ag (dU i) P (p_R_give P i v) := ag_give (Ag.refl _ P) (by unfold dU; omega) (by unfold dU; omega) (by unfold dU; omega) v
theorem fail_dU (P : Pst) (i : Nat) (t c : Int32) : Ag (dU i) P (p_R_fail P i t c) := ag_fail (Ag.refl _ P) (by unfold dU; omega) (by unfold dU; omega) (by unfold dU; omega) (by unfold dU; omega) (by unfold dU; omega) t c
theorem does_dU (P : Pst) (i : Nat) (e v : Int32) : Ag (dU i) P (p_R_does P i e v) := ((Ag.refl _ P).up (by unfold dU; omega) _).up (by unfold dU; omega) _
theorem hand_dU (P : Pst) {i g : Nat} (hg : ¬ i = g) : Ag (dU i) P (p_R_hand P i g) := fun h y d => by
  by_cases q : h = 14
  · exact hand_ag P hg h y (by unfold dU at d; unfold dFi; omega)
  · exact hand_fr P i g (by unfold dU at d; omega)
theorem join_dU (P : Pst) (i r o : Nat) (t : Int32) : Ag (dU i) P (p_R_join P r o t) := fun h y d => join_fr P r o t (by unfold dU at d; omega)
theorem copy_dU (P : Pst) (i a b : Nat) : Ag (dU i) P (p_R_copy P a b) := fun h y d => copy_fr P a b (by unfold dU at d; omega)
section Small
variable {P : Pst} {LL LL' : Lls} {c f j i g : Nat}
theorem Core.give (h : Core c f j P LL) (hi : i < nfb P) (h5 : ¬ P 5 i = 2) (v : Int32) : Core c f j (p_R_give P i v) LL := h.still hi h5 (give_dU P i v) (wb_give h.1.1 i v)
theorem Core.fail (h : Core c f j P LL) (hi : i < nfb P) (h5 : ¬ P 5 i = 2) (t d : Int32) : Core c f j (p_R_fail P i t d) LL := h.still hi h5 (fail_dU P i t d) (wb_fail h.1.1 i t d)
theorem Core.does (h : Core c f j P LL) (hi : i < nfb P) (h5 : ¬ P 5 i = 2) {e : Int32} (he : e = -1 ∨ sm e 39) (v : Int32) : Core c f j (p_R_does P i e v) LL := h.still hi h5 (does_dU P i e v) (wb_does h.1.1 i he)
theorem Core.hand (h : Core c f j P LL) (hi : i < nfb P) (h5 : ¬ P 5 i = 2) {g : Nat} (hg : ¬ i = g) : Core c f j (p_R_hand P i g) LL := h.still hi h5 (hand_dU P hg) (wb_hand h.1.1 i g)
theorem Core.join (h : Core c f j P LL) (hi : i < nfb P) (h5 : ¬ P 5 i = 2) (r o : Nat) (t : Int32) : Core c f j (p_R_join P r o t) LL := h.still hi h5 (join_dU P i r o t) (wb_join h.1.1 r o t)
/-! resting -/
theorem rs_5 (P : Pst) (i : Nat) (w v t : Int32) (y : Nat) : p_R_rest P i w v t 5 y = if y = i then 1 else P 5 y := by
  unfold p_R_rest
  simp [up_e]
theorem rs_15 (P : Pst) (i : Nat) (w v t : Int32) (y : Nat) : p_R_rest P i w v t 15 y = if y = i then w else P 15 y := by
  unfold p_R_rest
  simp [up_e]
theorem rs_16 (P : Pst) (i : Nat) (w v t : Int32) (y : Nat) : p_R_rest P i w v t 16 y = if y = i then v else P 16 y := by
  unfold p_R_rest
  simp [up_e]
theorem rs_18 (P : Pst) (i : Nat) (w v t : Int32) (y : Nat) : p_R_rest P i w v t 18 y = if y = i then P 50 0 else P 18 y := by
  unfold p_R_rest
  simp [up_e]
theorem rs_50 (P : Pst) (i : Nat) (w v t : Int32) : p_R_rest P i w v t 50 0 = P 50 0 + 1 := by
  unfold p_R_rest
  simp [up_e]
theorem rs_o (P : Pst) (i : Nat) (w v t : Int32) {h y : Nat} (q : h ≠ 5 ∧ h ≠ 15 ∧ h ≠ 16 ∧ h ≠ 17 ∧ h ≠ 18 ∧ h ≠ 50) : p_R_rest P i w v t h y = P h y := by
  unfold p_R_rest
  simp only [up_e]
  rw [if_neg (by omega), if_neg (by omega), if_neg (by omega), if_neg (by omega), if_neg (by omega), if_neg (by omega)]
theorem rs_n (P : Pst) (i : Nat) (w v t : Int32) : nfb (p_R_rest P i w v t) = nfb P := by
  unfold nfb
  rw [rs_o _ _ _ _ _ (by decide)]
theorem LI.rest_o {w m w' v : Int32} {l : List Nat} (h : LI P w m l) (h5 : P 5 i = 0) (hne : ¬ (w' = w ∧ v = m)) (th : Int32) : LI (p_R_rest P i w' v th) w m l := by
  refine h.ag (rs_n _ _ _ _ _) (fun y _ => ?_) (fun y hy => ?_)
  · unfold Wt
    rw [rs_5, rs_15, rs_16]
    by_cases q : y = i
    · rw [if_pos q, if_pos q, if_pos q, q, h5]
      exact ⟨fun e => absurd e.2 hne, fun e => absurd e.1 (by decide)⟩
    · rw [if_neg q, if_neg q, if_neg q]
  · rw [rs_18, if_neg]
    intro e
    have := ((h.1 y).mp hy).2.1
    rw [e, h5] at this
    exact absurd this (by decide)
theorem LI.rest_s {w m : Int32} {l : List Nat} (h : LI P w m l) (hi : i < nfb P) (h5 : P 5 i = 0) (hc : ∀ y, y ∈ l → P 18 y < P 50 0) (th : Int32) : LI (p_R_rest P i w m th) w m (l ++ [i]) := by
  have hne : ∀ y, y ∈ l → ¬ y = i := fun y hy e => by
    have := ((h.1 y).mp hy).2.1
    rw [e, h5] at this
    exact absurd this (by decide)
  refine h.add hi (rs_n _ _ _ _ _) (fun y _ => ?_) (fun y hy => ?_) (fun y hy => ?_)
  · unfold Wt
    rw [rs_5, rs_15, rs_16]
    by_cases q : y = i
    · rw [if_pos q, if_pos q, if_pos q]
      exact ⟨fun _ => Or.inr q, fun _ => ⟨rfl, rfl, rfl⟩⟩
    · rw [if_neg q, if_neg q, if_neg q]
      exact ⟨Or.inl, fun e => e.elim id (fun e => absurd e q)⟩
  · rw [rs_18, if_neg (hne y hy)]
  · rw [rs_18, if_pos rfl]; exact hc y hy
theorem LIs.rest0 (h : LIs P LL) (h5 : P 5 i = 0) {w : Int32} (h1 : ¬ w = 5) (h2 : ¬ w = 6) (v th : Int32) : LIs (p_R_rest P i w v th) LL := fun n hn => ⟨(h n hn).1.rest_o h5 (fun q => h1 q.1) th, (h n hn).2.rest_o h5 (fun q => h2 q.1) th⟩
theorem LIs.rest5 (h : LIs P LL) (hi : i < nfb P) (h5 : P 5 i = 0) {n : Nat} (hn : n < 4) (hc : ∀ y, y < nfb P → P 5 y = 1 → P 18 y < P 50 0) (th : Int32) : LIs (p_R_rest P i 5 (nI n) th) (upL LL (1 + n) (LL (1 + n) ++ [i])) := fun m hm => by
  rw [upL_n _ (by omega : 5 + m ≠ 1 + n)]
  refine ⟨?_, (h m hm).2.rest_o h5 (fun q => absurd q.1 (by decide)) th⟩
  by_cases e : m = n
  · rw [e, upL_s]
    exact (h n hn).1.rest_s hi h5 (fun y hy => hc y (((h n hn).1.1 y).mp hy).1 (((h n hn).1.1 y).mp hy).2.1) th
  · rw [upL_n _ (by omega : 1 + m ≠ 1 + n)]
    exact (h m hm).1.rest_o h5 (fun q => e ((nI_eq (by omega) (by omega)).mp q.2).symm) th
theorem LIs.rest6 (h : LIs P LL) (hi : i < nfb P) (h5 : P 5 i = 0) {n : Nat} (hn : n < 4) (hc : ∀ y, y < nfb P → P 5 y = 1 → P 18 y < P 50 0) (th : Int32) : LIs (p_R_rest P i 6 (nI n) th) (upL LL (5 + n) (LL (5 + n) ++ [i])) := fun m hm => by
  rw [upL_n _ (by omega : 1 + m ≠ 5 + n)]
  refine ⟨(h m hm).1.rest_o h5 (fun q => absurd q.1 (by decide)) th, ?_⟩
  by_cases e : m = n
  · rw [e, upL_s]
    exact (h n hn).2.rest_s hi h5 (fun y hy => hc y (((h n hn).2.1 y).mp hy).1 (((h n hn).2.1 y).mp hy).2.1) th
  · rw [upL_n _ (by omega : 5 + m ≠ 5 + n)]
    exact (h m hm).2.rest_o h5 (fun q => e ((nI_eq (by omega) (by omega)).mp q.2).symm) th
theorem Core.rest {w v : Int32} (th : Int32) (h : Core c f j P LL) (hc : c < 2 ^ 20) (hi : i < nfb P) (h5 : P 5 i = 0) (hq : ¬ i ∈ LL 0) (hw0 : ¬ w = 0) (h56 : w = 5 ∨ w = 6 → ∃ n, n < 4 ∧ v = nI n) (h4 : w = 4 → ∃ t, t ≤ 1000 * (c + 1) ∧ v = nI t) (h3 : w = 3 → RcX f j P i) (h0 : LL' 0 = LL 0) (hL : LIs (p_R_rest P i w v th) LL') : Core (c + 1) f j (p_R_rest P i w v th) LL' := by
  obtain ⟨⟨wb, l, ef⟩, fb, rc, q, li, ct⟩ := h
  have n42 : nfb (p_R_rest P i w v th) = nfb P := rs_n _ _ _ _ _
  have e5 : ∀ x, (p_R_rest P i w v th 5 x = 2 ↔ P 5 x = 2) ∧ (P 5 x = 2 → p_R_rest P i w v th 14 x = P 14 x) := fun x => by
    rw [rs_5, rs_o _ _ _ _ _ (by decide)]
    refine ⟨?_, fun _ => rfl⟩
    by_cases e : x = i
    · rw [if_pos e, e, h5]; decide
    · rw [if_neg e]
  refine ⟨⟨wb_rest wb i w v th, by rw [rs_o _ _ _ _ _ (by decide), h0]; exact l, fun e => (ef e).ag (fun g y hg => rs_o _ _ _ _ _ (by omega))⟩, fun x hx => ?_, fun g hg h15 => ?_, ?_, hL, ?_⟩
  · rw [n42] at hx
    refine ⟨?_, (fb x hx).2.ag (wb 22 x).2 (fun e => rs_o _ _ _ _ _ (by decide)) (rs_o _ _ _ _ _ (by decide)) (rs_o _ _ _ _ _ (by decide)) (fun g p hg hp => rs_o _ _ _ _ _ (by omega))⟩
    by_cases e : x = i
    · unfold FbS
      rw [rs_5, rs_15, rs_16, rs_o _ _ _ _ _ (by decide), if_pos e, if_pos e, if_pos e]
      exact ⟨Or.inr (Or.inl rfl), ⟨fun _ => hw0, fun _ => rfl⟩, (fb x hx).1.2.2.1, h56, h4⟩
    · refine (fb x hx).1.ag (Nat.le_succ c) (fun g hg => ?_) (Or.inl (rs_o _ _ _ _ _ (by decide)))
      rcases hg with rfl | rfl | rfl
      · rw [rs_5, if_neg e]
      · rw [rs_15, if_neg e]
      · rw [rs_16, if_neg e]
  · rw [n42] at hg
    have hr : RcX f j P g := by
      by_cases e : g = i
      · rw [e, rs_15, if_pos rfl] at h15
        rw [e]; exact h3 h15
      · rw [rs_15, if_neg e] at h15
        exact rc g hg h15
    exact hr.ag (Nat.le_of_eq n42.symm) (rs_o _ _ _ _ _ (by decide)) (rs_o _ _ _ _ _ (by decide)) (rs_o _ _ _ _ _ (by decide)) (fun x _ => e5 x)
  · exact q.ag h0 (Nat.le_of_eq n42.symm) (fun j _ => rs_o _ _ _ _ _ (by decide)) (fun x hx => by rw [rs_5, if_neg (fun e => hq (by rw [← e]; exact hx))]) (rs_o _ _ _ _ _ (by decide))
  · obtain ⟨a, ⟨t1, b1, b2⟩, ⟨t2, d1, d2⟩, ⟨t3, e1, e2⟩⟩ := ct
    unfold CtI
    rw [n42, rs_50, rs_o _ _ _ _ _ (by decide), rs_o _ _ _ _ _ (by decide)]
    have b3 : P 50 0 + 1 = nI (t1 + 1) := by rw [b2, nI_1]
    have b4 : P 50 0 < P 50 0 + 1 := by
      rw [b3, b2]
      exact nI_lt (by omega) (by omega)
    refine ⟨fun x hx hq => ?_, ⟨t1 + 1, by omega, b3⟩, ⟨t2, by omega, d2⟩, ⟨t3, by omega, e2⟩⟩
    rw [rs_18]
    rw [rs_5] at hq
    by_cases e : x = i
    · rw [if_pos e]; exact b4
    · rw [if_neg e]
      rw [if_neg e] at hq
      exact Int32.lt_trans (a x hx hq) b4
/-! waking -/
theorem wk_n (P : Pst) (g : Nat) : nfb (p_R_wake P g) = nfb P := by
  unfold nfb
  rw [wake_fr _ _ (by decide)]
theorem wk_wt (P : Pst) (x : Nat) (w m : Int32) (y : Nat) : Wt (p_R_wake P x) w m y ↔ Wt P w m y ∧ ¬ y = x := by
  unfold Wt
  rw [wk_5, wk_15, wake_fr _ _ (by decide)]
  by_cases q : y = x
  · rw [if_pos q]
    exact ⟨fun e => absurd e.1 (by decide), fun e => absurd q e.2⟩
  · rw [if_neg q, if_neg q]
    exact ⟨fun e => ⟨e, q⟩, fun e => e.1⟩
theorem LI.wake_o {w m : Int32} {l : List Nat} (h : LI P w m l) (hne : ¬ Wt P w m g) : LI (p_R_wake P g) w m l :=
  h.ag (wk_n P g) (fun y _ => by
    rw [wk_wt]
    exact ⟨fun q => q.1, fun q => ⟨q, fun e => hne (by rw [← e]; exact q)⟩⟩) (fun y _ => wake_fr _ _ (by decide))
theorem LI.wake_s {w m : Int32} {l : List Nat} (h : LI P w m l) (h10 : nfb P ≤ 10) (hg : g < 10) : LI (p_R_wake P g) w m (rmF (nI g) l) :=
  h.rm h10 hg (wk_n P g) (fun y _ => wk_wt P g w m y) (fun y => wake_fr _ _ (by decide))
theorem LIs.wake (h : LIs P LL) (h10 : nfb P ≤ 10) (hg : g < nfb P) (h5 : P 5 g = 1) (h16 : P 15 g = 5 ∨ P 15 g = 6 → ∃ n, n < 4 ∧ P 16 g = nI n) : LIs (p_R_wake P g) (lvL P LL g) := fun m hm => by
  unfold lvL
  by_cases e5 : P 15 g = 5
  · obtain ⟨n, hn, en⟩ := h16 (Or.inl e5)
    rw [if_pos e5, en, tn_nI (by omega), upL_n _ (by omega : 5 + m ≠ 1 + n)]
    refine ⟨?_, (h m hm).2.wake_o (fun q => by rw [q.2.1] at e5; exact absurd e5 (by decide))⟩
    by_cases e : m = n
    · rw [e, upL_s]
      exact (h n hn).1.wake_s h10 (by omega)
    · rw [upL_n _ (by omega : 1 + m ≠ 1 + n)]
      exact (h m hm).1.wake_o (fun q => e ((nI_eq (by omega) (by omega)).mp (en.symm.trans q.2.2)).symm)
  rw [if_neg e5]
  by_cases e6 : P 15 g = 6
  · obtain ⟨n, hn, en⟩ := h16 (Or.inr e6)
    rw [if_pos e6, en, tn_nI (by omega), upL_n _ (by omega : 1 + m ≠ 5 + n)]
    refine ⟨(h m hm).1.wake_o (fun q => e5 q.2.1), ?_⟩
    by_cases e : m = n
    · rw [e, upL_s]
      exact (h n hn).2.wake_s h10 (by omega)
    · rw [upL_n _ (by omega : 5 + m ≠ 5 + n)]
      exact (h m hm).2.wake_o (fun q => e ((nI_eq (by omega) (by omega)).mp (en.symm.trans q.2.2)).symm)
  rw [if_neg e6]
  exact ⟨(h m hm).1.wake_o (fun q => e5 q.2.1), (h m hm).2.wake_o (fun q => e6 q.2.1)⟩
theorem q_snoc {Q : Pst} {l : List Nat} {y : Nat} (h : ∀ j, j < l.length → P 36 j = nI (l.getD j 0)) (hq : ∀ j, Q 36 j = if j = l.length then nI y else P 36 j) : ∀ j, j < (l ++ [y]).length → Q 36 j = nI ((l ++ [y]).getD j 0) := fun j hj => by
  rw [List.length_append] at hj
  rw [hq]
  by_cases e : j = l.length
  · rw [if_pos e, e, getD_snoc]
  · have hj' : j < l.length := by
      have : [y].length = 1 := rfl
      omega
    rw [if_neg e, getD_snoc_lt _ hj', h j hj']
theorem nd_snoc {l : List Nat} {y : Nat} (h : l.Nodup) (hy : ¬ y ∈ l) : (l ++ [y]).Nodup := by
  refine List.pairwise_append.mpr ⟨h, List.pairwise_singleton _ _, fun a ha b hb => ?_⟩
  rw [List.mem_singleton.mp hb]
  intro e
  rw [e] at ha
  exact hy ha
theorem Core.wake (h : Core c f j P LL) (hg : g < nfb P) (h5 : P 5 g = 1) (h48 : ¬ P 48 0 = nI g) : Core c f j (p_R_wake P g) (upL (lvL P LL g) 0 (LL 0 ++ [g])) := by
  have hnq : ¬ g ∈ LL 0 := h.nq5 (by rw [h5]; decide)
  have hr := h.r10 hg hnq
  obtain ⟨⟨wb, l, ef⟩, fb, rc, q, li, ct⟩ := h
  have h10 := n10 wb
  have n42 : nfb (p_R_wake P g) = nfb P := wk_n _ _
  refine ⟨⟨wb_wake wb (by omega) hr, ?_, fun e => (ef e).ag (fun g y hg => wake_fr _ _ (by omega))⟩, fun x hx => ?_, fun x hx h15 => ?_, ?_, ?_, ?_⟩
  · rw [upL_s, wk_43, tn_inc (wb 43 0).1 (by omega), l, List.length_append]; rfl
  · rw [n42] at hx
    refine ⟨?_, (fb x hx).2.ag (wb 22 x).2 (fun e => wake_fr _ _ (by decide)) (wake_fr _ _ (by decide)) (wake_fr _ _ (by decide)) (fun g p hg hp => wake_fr _ _ (by omega))⟩
    by_cases e : x = g
    · unfold FbS
      rw [wk_5, wk_15, wake_fr _ _ (by decide), wake_fr _ _ (by decide), if_pos e, if_pos e]
      exact ⟨Or.inl rfl, ⟨fun q => absurd q (by decide), fun q => absurd rfl q⟩, (fb x hx).1.2.2.1, fun q => absurd q (by decide), fun q => absurd q (by decide)⟩
    · refine (fb x hx).1.ag (Nat.le_refl c) (fun g' hg' => ?_) (Or.inl (wake_fr _ _ (by decide)))
      rcases hg' with rfl | rfl | rfl
      · rw [wk_5, if_neg e]
      · rw [wk_15, if_neg e]
      · rw [wake_fr _ _ (by decide)]
  · rw [n42] at hx
    rw [wk_15] at h15
    by_cases e : x = g
    · rw [if_pos e] at h15
      exact absurd h15 (by decide)
    · rw [if_neg e] at h15
      refine (rc x hx h15).ag (Nat.le_of_eq n42.symm) (wake_fr _ _ (by decide)) (wake_fr _ _ (by decide)) (wake_fr _ _ (by decide)) (fun y _ => ⟨?_, fun _ => wake_fr _ _ (by decide)⟩)
      rw [wk_5]
      by_cases e : y = g
      · rw [if_pos e, e, h5]; decide
      · rw [if_neg e]
  · unfold QI
    rw [upL_s, n42, wake_fr _ _ (by decide)]
    refine ⟨q_snoc q.1 (fun j => by rw [wk_36, l]), nd_snoc q.2.1 hnq, fun x hx => ?_⟩
    rw [wk_5]
    rcases List.mem_append.mp hx with e | e
    · have := q.2.2 x e
      refine ⟨this.1, ?_, this.2.2⟩
      rw [this.2.1]
      exact ite_self _
    · rw [List.mem_singleton.mp e]
      exact ⟨hg, if_pos rfl, h48⟩
  · have hl := li.wake h10 hg h5 (fb g hg).1.2.2.2.1
    intro n hn
    rw [upL_n _ (by omega : 1 + n ≠ 0), upL_n _ (by omega : 5 + n ≠ 0)]
    exact hl n hn
  · refine ct.ag (Nat.le_refl _) n42 (fun x _ q => ?_) (wake_fr _ _ (by decide)) (wake_fr _ _ (by decide)) (wake_fr _ _ (by decide))
    rw [wk_5] at q
    by_cases e : x = g
    · rw [if_pos e] at q; exact absurd q (by decide)
    · rw [if_neg e] at q
      exact ⟨q, wake_fr _ _ (by decide)⟩
/-! striking -/
theorem Core.s67 (h : Core c f j P LL) (g : Nat) (w : Int32) : Core c f j (up (up P 6 g 1) 7 g w) LL := by
  obtain ⟨t, t1, t2⟩ := h.2.2.2.2.2.2.2.1
  obtain ⟨s, s1, s2⟩ := h.2.2.2.2.2.2.2.2
  refine h.ct (fun a y h1 h2 h3 h4 => ?_) (fun y => ?_) ((h.1.1.up (f := 6) trivial).up (f := 7) trivial) (Nat.le_refl c) ⟨t, t1, t2⟩ ⟨s, s1, s2⟩
  · rw [up_e, up_e, if_neg (fun q => h4 q.1), if_neg (fun q => h3 q.1)]
  · rw [up_e, up_e, if_neg (fun q => absurd q.1 (by decide))]
    by_cases e : y = g
    · rw [if_pos ⟨rfl, e⟩]; exact Or.inr (Or.inl rfl)
    · rw [if_neg (fun q => e q.2)]; exact Or.inl rfl
theorem six_le {x : Int32} (h : x = 0 ∨ x = 1 ∨ x = 2) : x ≤ 0 ↔ x = 0 := by
  rcases h with e | e | e <;> rw [e] <;> decide
theorem Core.strike (h : Core c f j P LL) (hg : g < nfb P) (h48 : P 5 g = 1 → ¬ P 48 0 = nI g) (w : Int32) : Core c f j (p_R_strike P g w) (skL P LL g) := by
  have hs := six_le (h.2.1 g hg).1.2.2.1
  unfold p_R_strike skL
  by_cases h2 : P 5 g = 2
  · rw [if_pos h2, if_neg (fun q => by rw [q.1] at h2; exact absurd h2 (by decide))]; exact h
  rw [if_neg h2]
  by_cases h6 : P 6 g ≤ 0
  · rw [if_pos h6]
    by_cases h5 : P 5 g = 1
    · rw [if_pos h5]
      by_cases hm : P 10 g = 0
      · rw [if_pos hm, if_pos ⟨h5, hs.mp h6, hm⟩]
        exact (h.s67 g w).wake hg h5 (h48 h5)
      · rw [if_neg hm, if_neg (fun q => hm q.2.2)]
        exact h.s67 g w
    · rw [if_neg h5, if_neg (fun q => h5 q.1)]
      exact h.s67 g w
  · rw [if_neg h6, if_neg (fun q => h6 (hs.mpr q.2.1))]
    exact h
/-! making a fiber -/
theorem mkn {e v b : Int32} {a : Nat} (ha : a = 5 ∨ a = 6 ∨ a = 10 ∨ a = 15 ∨ a = 22) : p_R_make P e v b a (nfb P) = 0 := by
  unfold p_R_make nfb
  rcases ha with rfl | rfl | rfl | rfl | rfl <;> simp [up_e]
theorem mk_36 (e v b : Int32) (y : Nat) : p_R_make P e v b 36 y = if y = tn (P 43 0) then P 42 0 else P 36 y := by
  unfold p_R_make
  simp [up_e]
theorem LI.make {w m : Int32} {l : List Nat} (h : LI P w m l) (wb : WB P) (hn : nfb P < 10) (e v b : Int32) : LI (p_R_make P e v b) w m l := by
  have n1 : nfb (p_R_make P e v b) = nfb P + 1 := mk_tn wb hn e v b
  have o : ∀ a y, y < nfb P → 5 ≤ a → a ≤ 22 → p_R_make P e v b a y = P a y := fun a y hy h1 h2 => mk_P _ _ _ _ _ _ (by omega)
  refine ⟨fun x => ?_, h.2.imp_of_mem (fun {a b} ha hb q => ?_)⟩
  · rw [n1, h.1 x]
    by_cases ex : x < nfb P
    · unfold Wt
      rw [o 5 x ex (by decide) (by decide), o 15 x ex (by decide) (by decide), o 16 x ex (by decide) (by decide)]
      exact ⟨fun q => ⟨by omega, q.2⟩, fun q => ⟨ex, q.2⟩⟩
    · refine ⟨fun q => absurd q.1 ex, fun q => ?_⟩
      have e1 : x = nfb P := by omega
      have := q.2.1
      rw [e1, mkn (by decide)] at this
      exact absurd this (by decide)
  · rw [o 18 a ((h.1 a).mp ha).1 (by decide) (by decide), o 18 b ((h.1 b).mp hb).1 (by decide) (by decide)]
    exact q
theorem Core.make (h : Core c f j P LL) {e : Int32} (he : e = -1 ∨ sm e 39) (hn : nfb P < 10) (h48 : ¬ P 48 0 = nI (nfb P)) (v b : Int32) : Core c f j (p_R_make P e v b) (upL LL 0 (LL 0 ++ [nfb P])) := by
  obtain ⟨⟨wb, l, ef⟩, fb, rc, q, li, ct⟩ := h
  have hnq : ¬ nfb P ∈ LL 0 := fun w => Nat.lt_irrefl _ (q.2.2 _ w).1
  have hr : tn (P 43 0) < 10 := by
    rw [l]
    exact Nat.lt_of_le_of_lt (nd_lt q.2.1 (fun x hx => (q.2.2 x hx).1)) hn
  have n1 : nfb (p_R_make P e v b) = nfb P + 1 := mk_tn wb hn e v b
  have o : ∀ a y, ¬ y = nfb P → ¬ a = 42 → ¬ a = 36 → ¬ a = 43 → p_R_make P e v b a y = P a y := fun a y h1 h2 h3 h4 => mk_P _ _ _ _ _ _ (by omega)
  have o2 : ∀ a y, ¬ (5 ≤ a ∧ a ≤ 22) → ¬ a = 42 → ¬ a = 36 → ¬ a = 43 → p_R_make P e v b a y = P a y := fun a y h1 h2 h3 h4 => mk_P _ _ _ _ _ _ (by omega)
  refine ⟨⟨wb_make wb he hn hr, ?_, fun x => (ef x).ag (fun a y ha => o2 a y (by omega) (by omega) (by omega) (by omega))⟩, fun x hx => ?_, fun x hx h15 => ?_, ?_, fun n hn4 => ?_, ?_⟩
  · rw [upL_s, mk_tq wb hr, l, List.length_append]; rfl
  · rw [n1] at hx
    by_cases ex : x = nfb P
    · rw [ex]
      refine ⟨?_, ?_⟩
      · unfold FbS
        rw [mkn (a := 5) (by decide), mkn (a := 15) (by decide), mkn (a := 6) (by decide)]
        exact ⟨Or.inl rfl, ⟨fun q => absurd q (by decide), fun q => absurd rfl q⟩, Or.inl rfl, fun q => absurd q (by decide), fun q => absurd q (by decide)⟩
      · have t0 : tn (p_R_make P e v b 22 (nfb P)) = 0 := by rw [mkn (a := 22) (by decide)]; rfl
        refine ⟨⟨?_, fun p hp => by rw [t0] at hp; exact absurd hp (Nat.not_lt_zero _)⟩, fun p hp => by rw [t0] at hp; exact absurd hp (Nat.not_lt_zero _)⟩
        unfold mkv
        rw [t0, if_pos rfl, mkn (a := 10) (by decide)]
    · have hx' : x < nfb P := by omega
      exact ⟨(fb x hx').1.ag (Nat.le_refl c) (fun a ha => o a x ex (by omega) (by omega) (by omega)) (Or.inl (o 6 x ex (by decide) (by decide) (by decide))), (fb x hx').2.ag (wb 22 x).2 (fun e => o2 0 e (by decide) (by decide) (by decide) (by decide)) (o 10 x ex (by decide) (by decide) (by decide)) (o 22 x ex (by decide) (by decide) (by decide)) (fun a p ha hp => o2 a _ (by omega) (by omega) (by omega) (by omega))⟩
  · rw [n1] at hx
    by_cases ex : x = nfb P
    · rw [ex, mkn (a := 15) (by decide)] at h15
      exact absurd h15 (by decide)
    · rw [o 15 x ex (by decide) (by decide) (by decide)] at h15
      exact (rc x (by omega) h15).ag (by omega) (o 19 x ex (by decide) (by decide) (by decide)) (o 20 x ex (by decide) (by decide) (by decide)) (o 21 x ex (by decide) (by decide) (by decide)) (fun y hy => ⟨by rw [o 5 y (by omega) (by decide) (by decide) (by decide)], fun _ => o 14 y (by omega) (by decide) (by decide) (by decide)⟩)
  · unfold QI
    rw [upL_s, n1, o2 48 0 (by decide) (by decide) (by decide) (by decide)]
    refine ⟨q_snoc q.1 (fun j => by rw [mk_36, l, ← nf_nI wb]), nd_snoc q.2.1 hnq, fun x hx => ?_⟩
    rcases List.mem_append.mp hx with w | w
    · have := q.2.2 x w
      exact ⟨by omega, by rw [o 5 x (by omega) (by decide) (by decide) (by decide)]; exact this.2.1, this.2.2⟩
    · rw [List.mem_singleton.mp w]
      exact ⟨by omega, mkn (by decide), h48⟩
  · rw [upL_n _ (by omega : 1 + n ≠ 0), upL_n _ (by omega : 5 + n ≠ 0)]
    exact ⟨(li n hn4).1.make wb hn e v b, (li n hn4).2.make wb hn e v b⟩
  · obtain ⟨a, b1, b2, b3⟩ := ct
    unfold CtI
    rw [n1, o2 50 0 (by decide) (by decide) (by decide) (by decide), o2 44 0 (by decide) (by decide) (by decide) (by decide), o2 46 0 (by decide) (by decide) (by decide) (by decide)]
    refine ⟨fun x hx hq => ?_, b1, b2, b3⟩
    by_cases ex : x = nfb P
    · rw [ex, mkn (a := 5) (by decide)] at hq
      exact absurd hq (by decide)
    · rw [o 5 x ex (by decide) (by decide) (by decide)] at hq
      rw [o 18 x ex (by decide) (by decide) (by decide)]
      exact a x (by omega) hq
end Small
