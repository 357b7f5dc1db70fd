/-! pure steps that pass each other; rows of causes -/
theorem make_up (P : Pst) (e v b : Int32) {f i : Nat} (h42 : ¬ f = 42) (h43 : ¬ f = 43) (h36 : ¬ f = 36) (h2 : ¬ (5 ≤ f ∧ f ≤ 22 ∧ i = nfb P)) (x : Int32) : p_R_make (up P f i x) e v b = up (p_R_make P e v b) f i x := by
  funext g j
  have e42 : up P f i x 42 0 = P 42 0 := by rw [up_e, if_neg (by omega)]
  have e43 : up P f i x 43 0 = P 43 0 := by rw [up_e, if_neg (by omega)]
  have en : nfb (up P f i x) = nfb P := by unfold nfb; rw [e42]
  by_cases q : g = f ∧ j = i
  · obtain ⟨rfl, rfl⟩ := q
    rw [up_s, mk_P _ _ _ _ _ _ (by rw [en]; omega), up_s]
  · rw [up_e (p_R_make P e v b), if_neg q]
    unfold p_R_make
    rw [e42, e43]
    simp only [up_e]
    rw [if_neg q]
theorem make_give (P : Pst) (e v b : Int32) {i : Nat} (hi : i < nfb P) (x : Int32) : p_R_make (p_R_give P i x) e v b = p_R_give (p_R_make P e v b) i x := by
  unfold p_R_give
  have n1 : nfb (up P 11 i (-1)) = nfb P := rfl
  have n2 : nfb (up (up P 11 i (-1)) 14 i 0) = nfb P := rfl
  rw [make_up _ _ _ _ (by decide) (by decide) (by decide) (by rw [n2]; omega), make_up _ _ _ _ (by decide) (by decide) (by decide) (by rw [n1]; omega), make_up _ _ _ _ (by decide) (by decide) (by decide) (by omega)]
theorem wake_up (P : Pst) (g : Nat) {f i : Nat} (h5 : ¬ f = 5) (h15 : ¬ f = 15) (h43 : ¬ f = 43) (h36 : ¬ f = 36) (x : Int32) : p_R_wake (up P f i x) g = up (p_R_wake P g) f i x := by
  funext h j
  have e43 : up P f i x 43 0 = P 43 0 := by rw [up_e, if_neg (by omega)]
  unfold p_R_wake
  rw [e43]
  simp only [up_e]
  by_cases q : h = f ∧ j = i
  · rw [if_pos q, if_neg (by omega), if_neg (by omega), if_neg (by omega), if_neg (by omega), if_pos q]
  · rw [if_neg q, if_neg q]
theorem up_up (P : Pst) {f i g j : Nat} (h : ¬ (f = g ∧ i = j)) (x y : Int32) : up (up P f i x) g j y = up (up P g j y) f i x := by
  funext k l
  simp only [up_e]
  by_cases q : k = g ∧ l = j
  · rw [if_pos q, if_neg (by omega), if_pos q]
  · rw [if_neg q, if_neg q]
theorem strike_up (P : Pst) (g : Nat) (w : Int32) {f i : Nat} (h5 : ¬ f = 5) (h6 : ¬ f = 6) (h7 : ¬ f = 7) (h10 : ¬ f = 10) (h15 : ¬ f = 15) (h43 : ¬ f = 43) (h36 : ¬ f = 36) (x : Int32) : p_R_strike (up P f i x) g w = up (p_R_strike P g w) f i x := by
  unfold p_R_strike
  have e : ∀ k, ¬ f = k → up P f i x k g = P k g := fun k hk => by rw [up_e, if_neg (by omega)]
  have e67 : up (up (up P f i x) 6 g 1) 7 g w = up (up (up P 6 g 1) 7 g w) f i x := by rw [up_up P (f := f) (i := i) (g := 6) (j := g) (by omega), up_up _ (f := f) (i := i) (g := 7) (j := g) (by omega)]
  rw [e 5 h5, e 6 h6, e 10 h10, e67, wake_up _ _ h5 h15 h43 h36]
  split
  · rfl
  split
  · split
    · split
      · rfl
      · rfl
    · rfl
  · rfl
theorem strike_give (P : Pst) (g : Nat) (w : Int32) (i : Nat) (x : Int32) : p_R_strike (p_R_give P i x) g w = p_R_give (p_R_strike P g w) i x := by
  unfold p_R_give
  rw [strike_up _ _ _ (by decide) (by decide) (by decide) (by decide) (by decide) (by decide) (by decide), strike_up _ _ _ (by decide) (by decide) (by decide) (by decide) (by decide) (by decide) (by decide), strike_up _ _ _ (by decide) (by decide) (by decide) (by decide) (by decide) (by decide) (by decide)]
/-! rows -/
theorem it_copy_e (P : Pst) {a b : Nat} (hab : a ≠ b) : ∀ j, j ≤ 9 → ∀ g x, it_copy P a b j g x = if (g = 34 ∨ g = 35) ∧ 9 * b ≤ x ∧ x < 9 * b + j then P g (9 * a + (x - 9 * b)) else P g x
  | 0, _, g, x => by rw [if_neg (by omega)]; rfl
  | j + 1, hj, g, x => by
    have ih := it_copy_e P hab j (by omega)
    show up (up (it_copy P a b j) 34 (9 * b + j) (it_copy P a b j 34 (9 * a + j))) 35 (9 * b + j) (it_copy P a b j 35 (9 * a + j)) g x = _
    have a1 : it_copy P a b j 34 (9 * a + j) = P 34 (9 * a + j) := by rw [ih, if_neg (by omega)]
    have a2 : it_copy P a b j 35 (9 * a + j) = P 35 (9 * a + j) := by rw [ih, if_neg (by omega)]
    rw [up_e, up_e, a1, a2, ih g x]
    by_cases e5 : g = 35 ∧ x = 9 * b + j
    · obtain ⟨rfl, rfl⟩ := e5
      rw [if_pos ⟨rfl, rfl⟩, if_pos (by omega), show 9 * b + j - 9 * b = j by omega]
    · rw [if_neg e5]
      by_cases e4 : g = 34 ∧ x = 9 * b + j
      · obtain ⟨rfl, rfl⟩ := e4
        rw [if_pos ⟨rfl, rfl⟩, if_pos (by omega), show 9 * b + j - 9 * b = j by omega]
      · rw [if_neg e4]
        by_cases q : (g = 34 ∨ g = 35) ∧ 9 * b ≤ x ∧ x < 9 * b + j
        · rw [if_pos q, if_pos (by omega)]
        · rw [if_neg q, if_neg (by omega)]
theorem copy_e (P : Pst) {a b : Nat} (hab : a ≠ b) (g x : Nat) : p_R_copy P a b g x = if (g = 34 ∨ g = 35) ∧ 9 * b ≤ x ∧ x < 9 * b + 9 then P g (9 * a + (x - 9 * b)) else if g = 33 ∧ x = b then P 33 a else P g x := by
  unfold p_R_copy
  rw [it_copy_e _ hab 9 (by decide)]
  by_cases q : (g = 34 ∨ g = 35) ∧ 9 * b ≤ x ∧ x < 9 * b + 9
  · rw [if_pos q, if_pos q, up_e, if_neg (by omega)]
  · rw [if_neg q, if_neg q, up_e]
theorem copy_o (P : Pst) {a b : Nat} (hab : a ≠ b) {g x : Nat} (h : ¬ ((g = 34 ∨ g = 35) ∧ 9 * b ≤ x ∧ x < 9 * b + 9) ∧ ¬ (g = 33 ∧ x = b)) : p_R_copy P a b g x = P g x := by
  rw [copy_e P hab, if_neg h.1, if_neg h.2]
theorem rowL_copy {P : Pst} (hw : WB P) {a b : Nat} (hab : a ≠ b) : rowL (p_R_copy P a b) b = rowL P a := by
  unfold rowL
  rw [copy_e P hab 33 b, if_neg (by omega), if_pos ⟨rfl, rfl⟩]
  refine List.map_congr_left (fun j hj => ?_)
  have h9 : tn (P 33 a) ≤ 9 := (hw 33 a).2
  have hj := List.mem_range.mp hj
  rw [copy_e P hab 34, copy_e P hab 35, if_pos (by omega), if_pos (by omega), show 9 * b + j - 9 * b = j by omega]
theorem rowL_len (P : Pst) (r : Nat) : (rowL P r).length = tn (P 33 r) := by
  unfold rowL
  rw [List.length_map, List.length_range]
theorem rowL_9 {P : Pst} (hw : WB P) (r : Nat) : (rowL P r).length ≤ 9 := by rw [rowL_len]; exact (hw 33 r).2
theorem rowL_el (P : Pst) (r j : Nat) (h : j < (rowL P r).length) : (rowL P r)[j] = (P 34 (9 * r + j), P 35 (9 * r + j)) := by simp [rowL]
theorem rowL_get (P : Pst) (r j : Nat) (h : j < tn (P 33 r)) : (rowL P r).getD j (0, 0) = (P 34 (9 * r + j), P 35 (9 * r + j)) := by
  have hl : j < (rowL P r).length := by rw [rowL_len]; exact h
  rw [List.getD_eq_getElem?_getD, List.getElem?_eq_getElem hl, Option.getD_some]
  simp [rowL]
theorem dn_join_e (r : Nat) : ∀ (k : Nat) (P : Pst) (g x : Nat), dn_join r k P g x = if (g = 34 ∨ g = 35) ∧ 9 * r + 1 ≤ x ∧ x ≤ 9 * r + k then P g (x - 1) else P g x
  | 0, P, g, x => by rw [if_neg (by omega)]; rfl
  | k + 1, P, g, x => by
    show dn_join r k (up (up P 34 (9 * r + (k + 1)) (P 34 (9 * r + (k + 1) - 1))) 35 (9 * r + (k + 1)) (P 35 (9 * r + (k + 1) - 1))) g x = _
    rw [dn_join_e r k]
    simp only [up_e]
    by_cases q : (g = 34 ∨ g = 35) ∧ 9 * r + 1 ≤ x ∧ x ≤ 9 * r + k
    · rw [if_pos q, if_neg (by omega), if_neg (by omega), if_pos (by omega)]
    · rw [if_neg q]
      by_cases e5 : g = 35 ∧ x = 9 * r + (k + 1)
      · obtain ⟨rfl, rfl⟩ := e5
        rw [if_pos ⟨rfl, rfl⟩, if_pos (by omega)]
      · rw [if_neg e5]
        by_cases e4 : g = 34 ∧ x = 9 * r + (k + 1)
        · obtain ⟨rfl, rfl⟩ := e4
          rw [if_pos ⟨rfl, rfl⟩, if_pos (by omega)]
        · rw [if_neg e4, if_neg (by omega)]
theorem it_join_e (P : Pst) {r o nn : Nat} (hro : r ≠ o) : ∀ j, nn + 1 + j ≤ 9 → ∀ g x, it_join P r nn o j g x = if (g = 34 ∨ g = 35) ∧ 9 * r + nn + 1 ≤ x ∧ x < 9 * r + nn + 1 + j then P g (9 * o + (x - (9 * r + nn + 1))) else P g x
  | 0, _, g, x => by rw [if_neg (by omega)]; rfl
  | j + 1, hj, g, x => by
    have ih := it_join_e P hro (nn := nn) j (by omega)
    show up (up (it_join P r nn o j) 34 (9 * r + nn + 1 + j) (it_join P r nn o j 34 (9 * o + j))) 35 (9 * r + nn + 1 + j) (it_join P r nn o j 35 (9 * o + j)) g x = _
    have a1 : it_join P r nn o j 34 (9 * o + j) = P 34 (9 * o + j) := by rw [ih, if_neg (by omega)]
    have a2 : it_join P r nn o j 35 (9 * o + j) = P 35 (9 * o + j) := by rw [ih, if_neg (by omega)]
    rw [up_e, up_e, a1, a2, ih g x]
    by_cases e5 : g = 35 ∧ x = 9 * r + nn + 1 + j
    · obtain ⟨rfl, rfl⟩ := e5
      rw [if_pos ⟨rfl, rfl⟩, if_pos (by omega), show 9 * r + nn + 1 + j - (9 * r + nn + 1) = j by omega]
    · rw [if_neg e5]
      by_cases e4 : g = 34 ∧ x = 9 * r + nn + 1 + j
      · obtain ⟨rfl, rfl⟩ := e4
        rw [if_pos ⟨rfl, rfl⟩, if_pos (by omega), show 9 * r + nn + 1 + j - (9 * r + nn + 1) = j by omega]
      · rw [if_neg e4]
        by_cases q : (g = 34 ∨ g = 35) ∧ 9 * r + nn + 1 ≤ x ∧ x < 9 * r + nn + 1 + j
        · rw [if_pos q, if_pos (by omega)]
        · rw [if_neg q, if_neg (by omega)]
/-- a row of causes joined with another -/
def jnL (t : Int32) (l1 l2 : List (Int32 × Int32)) : List (Int32 × Int32) := if 1 + l1.length + l2.length ≤ 9 then (t, 0) :: (l1 ++ l2) else l1
theorem join_c {P : Pst} (hw : WB P) (r o : Nat) : P 33 r + P 33 o + 1 ≤ 9 ↔ tn (P 33 r) + tn (P 33 o) + 1 ≤ 9 := by
  have h1 := hw 33 r
  have h2 := hw 33 o
  have a : tn (P 33 r) ≤ 9 := h1.2
  have b : tn (P 33 o) ≤ 9 := h2.2
  have e : P 33 r + P 33 o + 1 = nI (tn (P 33 r) + tn (P 33 o) + 1) := ix_add (ix_add h1.1 h2.1) rfl
  exact ⟨fun h => ix_le_of (b := 9) e rfl (by omega) (by decide) h, fun h => ix_le (b := 9) e rfl h (by decide)⟩
theorem join_e {P : Pst} {r o : Nat} (hro : r ≠ o) (t : Int32) (hc : tn (P 33 r) + tn (P 33 o) + 1 ≤ 9) (g x : Nat) : up (it_join (up (up (dn_join r (tn (P 33 r)) P) 34 (9 * r) t) 35 (9 * r) 0) r (tn (P 33 r)) o (tn (P 33 o))) 33 r (P 33 r + P 33 o + 1) g x = if g = 33 ∧ x = r then P 33 r + P 33 o + 1 else if (g = 34 ∨ g = 35) ∧ 9 * r + tn (P 33 r) + 1 ≤ x ∧ x < 9 * r + tn (P 33 r) + 1 + tn (P 33 o) then P g (9 * o + (x - (9 * r + tn (P 33 r) + 1))) else if g = 34 ∧ x = 9 * r then t else if g = 35 ∧ x = 9 * r then 0 else if (g = 34 ∨ g = 35) ∧ 9 * r + 1 ≤ x ∧ x ≤ 9 * r + tn (P 33 r) then P g (x - 1) else P g x := by
  rw [up_e]
  by_cases q0 : g = 33 ∧ x = r
  · rw [if_pos q0, if_pos q0]
  rw [if_neg q0, if_neg q0, it_join_e _ hro _ (by omega)]
  by_cases q1 : (g = 34 ∨ g = 35) ∧ 9 * r + tn (P 33 r) + 1 ≤ x ∧ x < 9 * r + tn (P 33 r) + 1 + tn (P 33 o)
  · rw [if_pos q1, if_pos q1, up_e, if_neg (by omega), up_e, if_neg (by omega), dn_join_e, if_neg (by omega)]
  rw [if_neg q1, if_neg q1, up_e, up_e, dn_join_e]
  by_cases q2 : g = 34 ∧ x = 9 * r
  · rw [if_neg (by omega), if_pos q2, if_pos q2]
  · rw [if_neg q2, if_neg q2]
theorem rowL_join {P : Pst} (hw : WB P) {r o : Nat} (hro : r ≠ o) (t : Int32) : rowL (p_R_join P r o t) r = jnL t (rowL P r) (rowL P o) := by
  unfold p_R_join jnL
  rw [rowL_len, rowL_len]
  by_cases hc : tn (P 33 r) + tn (P 33 o) + 1 ≤ 9
  · rw [if_pos ((join_c hw r o).mpr hc), if_pos (by omega)]
    have E := join_e (t := t) hro hc
    have el : tn (P 33 r + P 33 o + 1) = tn (P 33 r) + tn (P 33 o) + 1 := by
      rw [show P 33 r + P 33 o + 1 = nI (tn (P 33 r) + tn (P 33 o) + 1) from ix_add (ix_add (hw 33 r).1 (hw 33 o).1) rfl, tn_nI (by omega)]
    refine List.ext_getElem ?_ (fun j h1 h2 => ?_)
    · rw [rowL_len, List.length_cons, List.length_append, rowL_len, rowL_len, E 33 r, if_pos ⟨rfl, rfl⟩, el]
    · rw [rowL_len, E 33 r, if_pos ⟨rfl, rfl⟩, el] at h1
      rw [rowL_el, E 34, E 35]
      rcases Nat.eq_zero_or_pos j with e | e
      · subst e
        rw [if_neg (by omega), if_neg (by omega), if_pos (by omega), if_neg (by omega), if_neg (by omega), if_neg (by omega), if_pos (by omega)]
        rfl
      · obtain ⟨k, rfl⟩ : ∃ k, j = k + 1 := ⟨j - 1, by omega⟩
        rw [List.getElem_cons_succ]
        by_cases hk : k < tn (P 33 r)
        · rw [List.getElem_append_left (by rw [rowL_len]; exact hk), rowL_el, if_neg (by omega), if_neg (by omega), if_neg (by omega), if_neg (by omega), if_pos (by omega), if_neg (by omega), if_neg (by omega), if_neg (by omega), if_neg (by omega), if_pos (by omega)]
          rfl
        · rw [List.getElem_append_right (by rw [rowL_len]; omega), rowL_el, if_neg (by omega), if_pos (by omega), if_neg (by omega), if_pos (by omega)]
          rw [show 9 * r + (k + 1) - (9 * r + tn (P 33 r) + 1) = k - (rowL P r).length by rw [rowL_len]; omega]
  · rw [if_neg (fun q => hc ((join_c hw r o).mp q)), if_neg (by omega)]
theorem join_o {P : Pst} (hw : WB P) {r o : Nat} (hro : r ≠ o) (t : Int32) {g x : Nat} (h : ¬ ((g = 34 ∨ g = 35) ∧ 9 * r ≤ x ∧ x < 9 * r + 9) ∧ ¬ (g = 33 ∧ x = r)) : p_R_join P r o t g x = P g x := by
  unfold p_R_join
  by_cases hc : tn (P 33 r) + tn (P 33 o) + 1 ≤ 9
  · rw [if_pos ((join_c hw r o).mpr hc), join_e hro t hc, if_neg h.2, if_neg (by omega), if_neg (by omega), if_neg (by omega), if_neg (by omega)]
  · rw [if_neg (fun q => hc ((join_c hw r o).mp q))]
/-! what a fiber hands on -/
theorem hand_e (P : Pst) (f g : Nat) (hfg : ¬ f = g) : p_R_hand P f g = if P 14 g = 0 then up (p_R_give P f (P 13 g)) 14 f (P 14 g) else p_R_copy (up (p_R_give P f (P 13 g)) 14 f (P 14 g)) g f := by
  unfold p_R_hand
  rw [show p_R_give P f (P 13 g) 14 g = P 14 g by simp [p_R_give, up_e, Ne.symm hfg]]
theorem hand_ag (P : Pst) {f g : Nat} (hfg : ¬ f = g) : Ag (dFi f) P (p_R_hand P f g) := by
  rw [hand_e P f g hfg]
  have h0 : Ag (dFi f) P (up (p_R_give P f (P 13 g)) 14 f (P 14 g)) := (give_ag P f _).up (by unfold dFi; omega) _
  split
  · exact h0
  · intro h j d
    rw [copy_o _ (Ne.symm hfg) (by unfold dFi at d; omega)]
    exact h0 h j d
theorem hand_same (P : Pst) {f g : Nat} (hfg : ¬ f = g) : sameF f P (p_R_hand P f g) := by
  intro h h1 h2 a b c d
  have h0 : up (p_R_give P f (P 13 g)) 14 f (P 14 g) h f = P h f := by rw [up_e, if_neg (by omega)]; exact give_same P f _ h h1 h2 a b c d
  rw [hand_e P f g hfg]
  split
  · exact h0
  · rw [copy_o _ (Ne.symm hfg) (by omega)]
    exact h0
theorem hand_11 (P : Pst) {f g : Nat} (hfg : ¬ f = g) : p_R_hand P f g 11 f = -1 := by
  rw [hand_e P f g hfg]
  split
  · simp [p_R_give, up_e]
  · rw [copy_o _ (Ne.symm hfg) (by omega)]; simp [p_R_give, up_e]
theorem hand_14 (P : Pst) {f g : Nat} (hfg : ¬ f = g) : p_R_hand P f g 14 f = P 14 g ∧ p_R_hand P f g 13 f = P 13 g := by
  rw [hand_e P f g hfg]
  split
  · constructor <;> simp [p_R_give, up_e]
  · rw [copy_o _ (Ne.symm hfg) (by omega), copy_o _ (Ne.symm hfg) (by omega)]; constructor <;> simp [p_R_give, up_e]
theorem hand_row {P : Pst} (hw : WB P) {f g : Nat} (hfg : ¬ f = g) (h14 : ¬ P 14 g = 0) : rowL (p_R_hand P f g) f = rowL P g := by
  rw [hand_e P f g hfg, if_neg h14, rowL_copy (WB.up (wb_give hw f _) (hw 14 g)) (Ne.symm hfg)]
  exact rowL_ne (fun j => by simp [p_R_give, up_e]) (fun j => by simp [p_R_give, up_e]) (fun j => by simp [p_R_give, up_e])
/-- fiber f is handed what g's exit is -/
theorem Sim.hand {P : Pst} {LL : Lls} {S : Gs} (h : Sim P LL S) (hw : WB P) {f g : Nat} (hf : f < nfb P) (hfg : ¬ f = g) (hx : ExitR P S g) (hn : P 5 f = 1 → ¬ (P 15 f = 2 ∨ P 15 f = 4 ∨ P 15 f = 6)) : Sim (p_R_hand P f g) LL (exS S f (vi S 260 g) (vr S 261 g)) ∧ ActR (p_R_hand P f g) (exS S f (vi S 260 g) (vr S 261 g)) f := by
  refine h.exit hw hf (hand_ag P hfg) (hand_same P hfg) (hand_11 P hfg) _ _ hn ?_
  unfold ExitR
  rw [exS_261, exS_260, (hand_14 P hfg).1, (hand_14 P hfg).2, exS_kc]
  refine ⟨fun q => hx.1 q, fun q => ?_⟩
  rw [hand_row hw hfg q]
  exact hx.2 q
