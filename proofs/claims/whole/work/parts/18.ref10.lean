/-! the reference's methods, further (by program: wip/tools/gen_ref10.py) -/
theorem wb_ite {c : Prop} [Decidable c] {A B : Pst} (ha : c → WB A) (hb : ¬ c → WB B) : WB (if c then A else B) := by
  by_cases h : c
  · rw [if_pos h]; exact ha h
  · rw [if_neg h]; exact hb h
/-- field h, place i is as it was -/
def kp (h i : Nat) (P P' : Pst) : Prop := P' h i = P h i
theorem kp_ite {h i : Nat} {P : Pst} {c : Prop} [Decidable c] {A B : Pst} (ha : c → kp h i P A) (hb : ¬ c → kp h i P B) : kp h i P (if c then A else B) := by
  by_cases h : c
  · rw [if_pos h]; exact ha h
  · rw [if_neg h]; exact hb h
theorem strike_fr (P : Pst) (f : Nat) (w : Int32) {h i : Nat} (hh : h ≠ 5 ∧ h ≠ 6 ∧ h ≠ 7 ∧ h ≠ 15 ∧ h ≠ 36 ∧ h ≠ 43) : p_R_strike P f w h i = P h i := by
  obtain ⟨h1, h2, h3, h4, h5, h6⟩ := hh
  have e : up (up P 6 f 1) 7 f w h i = P h i := by rw [up_f h3, up_f h2]
  unfold p_R_strike
  repeat' split
  all_goals first | rfl | exact e | (unfold p_R_wake; rw [up_f h5, up_f h6, up_f h4, up_f h1]; exact e)
theorem give_fr (P : Pst) (f : Nat) (v : Int32) {h i : Nat} (hh : h ≠ 11 ∧ h ≠ 14 ∧ h ≠ 13) : p_R_give P f v h i = P h i := by
  unfold p_R_give
  rw [up_f hh.2.2, up_f hh.2.1, up_f hh.1]
theorem wake_fr (P : Pst) (f : Nat) {h i : Nat} (hh : h ≠ 5 ∧ h ≠ 15 ∧ h ≠ 43 ∧ h ≠ 36) : p_R_wake P f h i = P h i := by
  unfold p_R_wake
  rw [up_f hh.2.2.2, up_f hh.2.2.1, up_f hh.2.1, up_f hh.1]
section HearsLaws
variable {P : Pst}
def hh (h : Nat) : Prop := h ≠ 34 ∧ h ≠ 35 ∧ h ≠ 33 ∧ h ≠ 14 ∧ h ≠ 13 ∧ h ≠ 11 ∧ h ≠ 5 ∧ h ≠ 6 ∧ h ≠ 7 ∧ h ≠ 15 ∧ h ≠ 36 ∧ h ≠ 43 ∧ h ≠ 21
theorem h_wake {h i : Nat} (q : hh h) (X : Pst) (y : Nat) : p_R_wake X y h i = X h i := wake_fr X y ⟨q.2.2.2.2.2.2.1, q.2.2.2.2.2.2.2.2.2.1, q.2.2.2.2.2.2.2.2.2.2.2.1, q.2.2.2.2.2.2.2.2.2.2.1⟩
theorem h_hand {h i : Nat} (q : hh h) (X : Pst) (y z : Nat) : p_R_hand X y z h i = X h i := hand_fr X y z ⟨q.1, q.2.1, q.2.2.1, q.2.2.2.1, q.2.2.2.2.1, q.2.2.2.2.2.1⟩
theorem h_give {h i : Nat} (q : hh h) (X : Pst) (y : Nat) (z : Int32) : p_R_give X y z h i = X h i := give_fr X y z ⟨q.2.2.2.2.2.1, q.2.2.2.1, q.2.2.2.2.1⟩
theorem h_strike {h i : Nat} (q : hh h) (X : Pst) (y : Nat) (z : Int32) : p_R_strike X y z h i = X h i := strike_fr X y z ⟨q.2.2.2.2.2.2.1, q.2.2.2.2.2.2.2.1, q.2.2.2.2.2.2.2.2.1, q.2.2.2.2.2.2.2.2.2.1, q.2.2.2.2.2.2.2.2.2.2.1, q.2.2.2.2.2.2.2.2.2.2.2.1⟩
theorem h_join {h i : Nat} (q : hh h) (X : Pst) (y z : Nat) (t : Int32) : p_R_join X y z t h i = X h i := join_fr X y z t ⟨q.1, q.2.1, q.2.2.1⟩
theorem h226_fr {h i : Nat} (q : hh h) (P : Pst) (g f o : Nat) : p_h226 P g f o h i = P h i := h_wake q _ _
theorem h175_fr {h i : Nat} (q : hh h) (P : Pst) (g f o : Nat) : p_h175 P g f o h i = P h i := by
  unfold p_h175
  split
  · rw [h226_fr q, h_join q, h_hand q]
  · rw [h226_fr q, h_give q]
theorem h149_fr {h i : Nat} (q : hh h) (P : Pst) (g f o : Nat) : p_h149 P g f o h i = P h i := by
  unfold p_h149
  repeat' split
  all_goals first | with_reducible exact h175_fr q P g f o | with_reducible exact h_strike q P o _ | with_reducible rfl
theorem h124_fr {h i : Nat} (q : hh h) (P : Pst) (g f o : Nat) : p_h124 P g f o h i = P h i := by
  have e : ∀ x, up P 21 g x h i = P h i := fun x => up_f q.2.2.2.2.2.2.2.2.2.2.2.2 P g i x
  unfold p_h124
  repeat' split
  all_goals (rw [h149_fr q]; try exact e _)
theorem hears_fr {h i : Nat} (q : hh h) (P : Pst) (g f : Nat) : p_R_hears P g f h i = P h i := by
  unfold p_R_hears
  repeat' split
  all_goals first | with_reducible rfl | (rw [h124_fr q]; done) | (rw [h_wake q, h_hand q]; done) | (rw [h_wake q, h_give q]; done)
theorem wb_h226 (h : WB P) {g f o : Nat} (hg : g < 10) (hq : tn (P 43 0) < 10) : WB (p_h226 P g f o) := wb_wake h hg hq
theorem wb_h175 (h : WB P) {g f o : Nat} (hg : g < 10) (hq : tn (P 43 0) < 10) : WB (p_h175 P g f o) := by
  unfold p_h175
  split
  · exact wb_h226 (wb_join (wb_hand h _ _) _ _ _) hg (by rw [join_fr _ _ _ _ (by decide), hand_fr _ _ _ (by decide)]; exact hq)
  · exact wb_h226 (wb_give h _ _) hg hq
theorem wb_h149 (h : WB P) {g f o : Nat} (hg : g < 10) (ho : o < 10) (hq : tn (P 43 0) < 10) : WB (p_h149 P g f o) := by
  unfold p_h149
  repeat' split
  all_goals first | with_reducible exact wb_h175 h hg hq | with_reducible exact wb_strike h ho (fun _ => hq) _ | with_reducible exact h
theorem wb_h124 (h : WB P) {g f o : Nat} (hg : g < 10) (hf : f < 10) (ho : o < 10) (hq : tn (P 43 0) < 10) : WB (p_h124 P g f o) := by
  have hu : WB (up P 21 g (nI f)) := WB.up (f := 21) h (Or.inr (sm_nI (n := f) (N := 9) (by omega) (by decide)))
  unfold p_h124
  repeat' split
  all_goals first | with_reducible exact wb_h149 h hg ho hq | ((with_reducible refine wb_h149 hu hg ho ?_); exact hq)
theorem wb_hears (h : WB P) {g f : Nat} (hg : g < 10) (hf : f < 10) (hq : tn (P 43 0) < 10) : WB (p_R_hears P g f) := by
  have h19 : tn (P 19 g) < 10 := Nat.lt_of_le_of_lt (show sm (P 19 g) 9 from h 19 g).2 (by decide)
  have h20 : tn (P 20 g) < 10 := Nat.lt_of_le_of_lt (show sm (P 20 g) 9 from h 20 g).2 (by decide)
  have w1 : WB (p_R_wake (p_R_hand P g f) g) := wb_wake (wb_hand h _ _) hg (by rw [hand_fr _ _ _ (by decide)]; exact hq)
  have w2 : WB (p_R_wake (p_R_give P g 0) g) := wb_wake (wb_give h _ _) hg hq
  unfold p_R_hears
  repeat' split
  all_goals first | with_reducible exact h | with_reducible exact w1 | with_reducible exact w2 | with_reducible exact wb_h124 h hg hf h20 hq | with_reducible exact wb_h124 h hg hf h19 hq
end HearsLaws
def it_e1 (f : Nat) (P : Pst) : Nat → Pst
  | 0 => P
  | j + 1 => if it_e1 f P j 5 j = 1 then p_R_hears (it_e1 f P j) j f else it_e1 f P j
def it_e2 (f : Nat) (P : Pst) : Nat → Pst
  | 0 => P
  | j + 1 => if it_e2 f P j 8 j = nI f then p_R_strike (it_e2 f P j) j (nI f) else it_e2 f P j
theorem e1_42 (f : Nat) (P : Pst) : ∀ j, it_e1 f P j 42 0 = P 42 0
  | 0 => rfl
  | j + 1 => by
    show (if it_e1 f P j 5 j = 1 then p_R_hears (it_e1 f P j) j f else it_e1 f P j) 42 0 = _
    split
    · rw [hears_fr (by unfold hh; decide)]; exact e1_42 f P j
    · exact e1_42 f P j
theorem e2_42 (f : Nat) (P : Pst) : ∀ j, it_e2 f P j 42 0 = P 42 0
  | 0 => rfl
  | j + 1 => by
    show (if it_e2 f P j 8 j = nI f then p_R_strike (it_e2 f P j) j (nI f) else it_e2 f P j) 42 0 = _
    split
    · rw [strike_fr _ _ _ (by decide)]; exact e2_42 f P j
    · exact e2_42 f P j
theorem wb_e1 {f : Nat} (hf : f < 10) {P : Pst} (h : WB P) {N : Nat} (hN : N ≤ 10) (ok : ∀ j, j < N → it_e1 f P j 5 j = 1 → tn (it_e1 f P j 43 0) < 10) : ∀ j, j ≤ N → WB (it_e1 f P j)
  | 0, _ => h
  | j + 1, hj => by
    have ih := wb_e1 hf h hN ok j (by omega)
    show WB (if it_e1 f P j 5 j = 1 then p_R_hears (it_e1 f P j) j f else it_e1 f P j)
    split
    · rename_i c
      exact wb_hears ih (by omega) hf (ok j (by omega) c)
    · exact ih
theorem wb_e2 {f : Nat} {P : Pst} (h : WB P) {N : Nat} (hN : N ≤ 10) (ok : ∀ j, j < N → it_e2 f P j 8 j = nI f → it_e2 f P j 5 j = 1 → tn (it_e2 f P j 43 0) < 10) : ∀ j, j ≤ N → WB (it_e2 f P j)
  | 0, _ => h
  | j + 1, hj => by
    have ih := wb_e2 h hN ok j (by omega)
    show WB (if it_e2 f P j 8 j = nI f then p_R_strike (it_e2 f P j) j (nI f) else it_e2 f P j)
    split
    · rename_i c
      exact wb_strike ih (by omega) (ok j (by omega) c) _
    · exact ih
set_option maxHeartbeats 4000000 in
set_option maxRecDepth 100000 in
theorem lo_e1 {γ : Rg} (f : Nat) (hf : f < 10) (P : Pst) (hW : WB P) (nf : Nat) (hb : P 42 0 = nI nf) (hb9 : nf ≤ 10) (ok : ∀ j, j < nf → it_e1 f P j 5 j = 1 → tn (it_e1 f P j 43 0) < 10) {M0 : Mm} {Q : Option Value → Mm → Prop} {dep k n : Nat} (hdep : 3 ≤ dep) : ∀ (r j : Nat) (M : Mm), j + r = nf → RR γ (it_e1 f P j) M → (∀ M, RR γ (it_e1 f P nf) M → G m_R_ends ownR M0 Q dep k n M 46 [some (va_rf (some γ.1)), some (.int (nI f)), some (.int (nI nf))] []) → G m_R_ends ownR M0 Q dep k n M 16 [some (va_rf (some γ.1)), some (.int (nI f)), some (.int (nI j))] [] := by
  intro r
  induction r with
  | zero =>
    intro j M hj hR kk
    refine g_iload_n d_R_ends_16 rfl ?_
    refine g_aload_n d_R_ends_17 rfl ?_
    refine r_geti 42 hR (by decide) rfl fl_R_153 rfl d_R_ends_18 ?_
    refine g_icmp_ge 46 d_R_ends_21 (by decide) (fun c_21 => ?_) (fun c_21 => ?_)
    · skip
      obtain rfl : j = nf := by omega
      exact kk M hR
    · exact absurd (ix_le (a := nf) ((e1_42 f P j).trans hb) rfl (by omega) (by omega)) c_21
  | succ r ih =>
    intro j M hj hR kk
    refine g_iload_n d_R_ends_16 rfl ?_
    refine g_aload_n d_R_ends_17 rfl ?_
    refine r_geti 42 hR (by decide) rfl fl_R_153 rfl d_R_ends_18 ?_
    refine g_icmp_ge 46 d_R_ends_21 (by decide) (fun c_21 => ?_) (fun c_21 => ?_)
    · exact absurd c_21 (ix_nle (a := nf) ((e1_42 f P j).trans hb) rfl (by omega) (by omega))
    · skip
      refine g_aload_n d_R_ends_24 rfl ?_
      refine r_arr 5 hR (by decide) (by decide) fl_R_22 rfl d_R_ends_25 ?_
      refine g_iload_n d_R_ends_28 rfl ?_
      refine r_iald 5 j hR (by decide) rfl d_R_ends_29 rfl (by show j < 10; omega) ?_
      refine g_iconst (v := 1) d_R_ends_30 (by decide) ?_
      refine g_icmp_ne 40 d_R_ends_31 (by decide) (fun c_31 => ?_) (fun c_31 => ?_)
      · skip
        refine g_iinc (v := nI (j + 1)) d_R_ends_40 rfl (nI_1 _) (by decide) ?_
        refine g_goto 16 d_R_ends_43 (by decide) ?_
        refine ih (j + 1) M (by omega) ?_ kk
        show RR γ (if it_e1 f P j 5 j = 1 then p_R_hears (it_e1 f P j) j f else it_e1 f P j) M
        rw [if_neg (show ¬ ((it_e1 f P j) 5 j = 1) from c_31)]
        exact hR
      · skip
        refine g_aload_n d_R_ends_34 rfl ?_
        refine g_iload_n d_R_ends_35 rfl ?_
        refine g_iload_n d_R_ends_36 rfl ?_
        refine r_call [.int (nI j), .int (nI f)] hR cw_R_264 cv_R_hears d_R_ends_37 rfl rfl ⟨by simp, by simp⟩ (by omega) (c_R_hears _ j f (wb_e1 hf hW hb9 ok j (by omega)) (by omega) (by omega) (ok j (by omega) c_31)) (fun M hR => ?_)
        refine g_iinc (v := nI (j + 1)) d_R_ends_40 rfl (nI_1 _) (by decide) ?_
        refine g_goto 16 d_R_ends_43 (by decide) ?_
        refine ih (j + 1) M (by omega) ?_ kk
        show RR γ (if it_e1 f P j 5 j = 1 then p_R_hears (it_e1 f P j) j f else it_e1 f P j) M
        rw [if_pos (show ((it_e1 f P j) 5 j = 1) from c_31)]
        exact hR
set_option maxHeartbeats 4000000 in
set_option maxRecDepth 100000 in
theorem lo_e2 {γ : Rg} (f : Nat) (hf : f < 10) (P : Pst) (hW : WB P) (nf : Nat) (hb : P 42 0 = nI nf) (hb9 : nf ≤ 10) (ok : ∀ j, j < nf → it_e2 f P j 8 j = nI f → it_e2 f P j 5 j = 1 → tn (it_e2 f P j 43 0) < 10) {M0 : Mm} {Q : Option Value → Mm → Prop} {dep k n : Nat} (hdep : 2 ≤ dep) : ∀ (r j : Nat) (M : Mm), j + r = nf → RR γ (it_e2 f P j) M → (∀ M, RR γ (it_e2 f P nf) M → G m_R_ends ownR M0 Q dep k n M 78 [some (va_rf (some γ.1)), some (.int (nI f)), some (.int (nI nf))] []) → G m_R_ends ownR M0 Q dep k n M 48 [some (va_rf (some γ.1)), some (.int (nI f)), some (.int (nI j))] [] := by
  intro r
  induction r with
  | zero =>
    intro j M hj hR kk
    refine g_iload_n d_R_ends_48 rfl ?_
    refine g_aload_n d_R_ends_49 rfl ?_
    refine r_geti 42 hR (by decide) rfl fl_R_153 rfl d_R_ends_50 ?_
    refine g_icmp_ge 78 d_R_ends_53 (by decide) (fun c_53 => ?_) (fun c_53 => ?_)
    · skip
      obtain rfl : j = nf := by omega
      exact kk M hR
    · exact absurd (ix_le (a := nf) ((e2_42 f P j).trans hb) rfl (by omega) (by omega)) c_53
  | succ r ih =>
    intro j M hj hR kk
    refine g_iload_n d_R_ends_48 rfl ?_
    refine g_aload_n d_R_ends_49 rfl ?_
    refine r_geti 42 hR (by decide) rfl fl_R_153 rfl d_R_ends_50 ?_
    refine g_icmp_ge 78 d_R_ends_53 (by decide) (fun c_53 => ?_) (fun c_53 => ?_)
    · exact absurd c_53 (ix_nle (a := nf) ((e2_42 f P j).trans hb) rfl (by omega) (by omega))
    · skip
      refine g_aload_n d_R_ends_56 rfl ?_
      refine r_arr 8 hR (by decide) (by decide) fl_R_31 rfl d_R_ends_57 ?_
      refine g_iload_n d_R_ends_60 rfl ?_
      refine r_iald 8 j hR (by decide) rfl d_R_ends_61 rfl (by show j < 10; omega) ?_
      refine g_iload_n d_R_ends_62 rfl ?_
      refine g_icmp_ne 72 d_R_ends_63 (by decide) (fun c_63 => ?_) (fun c_63 => ?_)
      · skip
        refine g_iinc (v := nI (j + 1)) d_R_ends_72 rfl (nI_1 _) (by decide) ?_
        refine g_goto 48 d_R_ends_75 (by decide) ?_
        refine ih (j + 1) M (by omega) ?_ kk
        show RR γ (if it_e2 f P j 8 j = nI f then p_R_strike (it_e2 f P j) j (nI f) else it_e2 f P j) M
        rw [if_neg (show ¬ ((it_e2 f P j) 8 j = nI f) from c_63)]
        exact hR
      · skip
        refine g_aload_n d_R_ends_66 rfl ?_
        refine g_iload_n d_R_ends_67 rfl ?_
        refine g_iload_n d_R_ends_68 rfl ?_
        refine r_call [.int (nI j), .int (nI f)] hR cw_R_190 cv_R_strike d_R_ends_69 rfl rfl ⟨by simp, by simp⟩ (by omega) (c_R_strike _ j (nI f) (by omega) (show sm _ 10 from (wb_e2 hW hb9 ok j (by omega)) 43 0).1 (ok j (by omega) c_63)) (fun M hR => ?_)
        refine g_iinc (v := nI (j + 1)) d_R_ends_72 rfl (nI_1 _) (by decide) ?_
        refine g_goto 48 d_R_ends_75 (by decide) ?_
        refine ih (j + 1) M (by omega) ?_ kk
        show RR γ (if it_e2 f P j 8 j = nI f then p_R_strike (it_e2 f P j) j (nI f) else it_e2 f P j) M
        rw [if_pos (show ((it_e2 f P j) 8 j = nI f) from c_63)]
        exact hR
def p_R_ends (P : Pst) (f : Nat) : Pst := it_e2 f (it_e1 f (up (up P 5 f 2) 10 f 0) (tn (P 42 0))) (tn (P 42 0))
set_option maxHeartbeats 4000000 in
set_option maxRecDepth 100000 in
theorem c_R_ends (P : Pst) (f : Nat) (hW : WB P) (hf : f < 10) (ok1 : ∀ j, j < tn (P 42 0) → it_e1 f (up (up P 5 f 2) 10 f 0) j 5 j = 1 → tn (it_e1 f (up (up P 5 f 2) 10 f 0) j 43 0) < 10) (ok2 : ∀ j, j < tn (P 42 0) → it_e2 f (it_e1 f (up (up P 5 f 2) 10 f 0) (tn (P 42 0))) j 8 j = nI f → it_e2 f (it_e1 f (up (up P 5 f 2) 10 f 0) (tn (P 42 0))) j 5 j = 1 → tn (it_e2 f (it_e1 f (up (up P 5 f 2) 10 f 0) (tn (P 42 0))) j 43 0) < 10) : RC m_R_ends 3 [.int (nI f)] P none (p_R_ends P f) := by
  intro γ M hR
  refine Run.ofG (by decide) (by simp [cat_int, cat_rf]) (Nat.le_of_ble_eq_true rfl) ?_
  refine g_aload_n d_R_ends_0 rfl ?_
  refine r_arr 5 hR (by decide) (by decide) fl_R_22 rfl d_R_ends_1 ?_
  refine g_iload_n d_R_ends_4 rfl ?_
  refine g_iconst (v := 2) d_R_ends_5 (by decide) ?_
  refine r_iast 5 f hR (by decide) rfl d_R_ends_6 rfl (by show f < 10; omega) (fun M hR => ?_)
  refine g_aload_n d_R_ends_7 rfl ?_
  refine r_arr 10 hR (by decide) (by decide) fl_R_37 rfl d_R_ends_8 ?_
  refine g_iload_n d_R_ends_11 rfl ?_
  refine g_iconst (v := 0) d_R_ends_12 (by decide) ?_
  refine r_zast 10 f hR (by decide) rfl (by first | exact Or.inl rfl | exact Or.inr rfl | assumption | (simp_all; done)) d_R_ends_13 rfl (by show f < 10; omega) (fun M hR => ?_)
  refine g_iconst (v := 0) d_R_ends_14 (by decide) ?_
  refine g_istore_n d_R_ends_15 (by decide) ?_
  refine lo_e1 f hf (up (up P 5 f 2) 10 f 0) (WB.up (f := 10) (j := f) (x := 0) (WB.up (f := 5) (j := f) (x := 2) hW (by first | exact trivial | exact Or.inl rfl | exact Or.inr rfl)) (by first | exact trivial | exact Or.inl rfl | exact Or.inr rfl)) (tn (P 42 0)) (show sm (P 42 0) 10 from hW 42 0).1 (show sm (P 42 0) 10 from hW 42 0).2 ok1 (by decide) (tn (P 42 0)) 0 M (by omega) hR (fun M hR => ?_)
  refine g_iconst (v := 0) d_R_ends_46 (by decide) ?_
  refine g_istore_n d_R_ends_47 (by decide) ?_
  refine lo_e2 f hf (it_e1 f (up (up P 5 f 2) 10 f 0) (tn (P 42 0))) (wb_e1 hf (WB.up (f := 10) (j := f) (x := 0) (WB.up (f := 5) (j := f) (x := 2) hW (by first | exact trivial | exact Or.inl rfl | exact Or.inr rfl)) (by first | exact trivial | exact Or.inl rfl | exact Or.inr rfl)) (show sm (P 42 0) 10 from hW 42 0).2 ok1 (tn (P 42 0)) (Nat.le_refl _)) (tn (P 42 0)) ((e1_42 _ _ _).trans (show sm (P 42 0) 10 from hW 42 0).1) (show sm (P 42 0) 10 from hW 42 0).2 ok2 (by decide) (tn (P 42 0)) 0 M (by omega) hR (fun M hR => ?_)
  exact g_return d_R_ends_78 rfl ⟨rfl, hR⟩

theorem wb_ends {P : Pst} (h : WB P) {f : Nat} (hf : f < 10) (ok1 : ∀ j, j < tn (P 42 0) → it_e1 f (up (up P 5 f 2) 10 f 0) j 5 j = 1 → tn (it_e1 f (up (up P 5 f 2) 10 f 0) j 43 0) < 10) (ok2 : ∀ j, j < tn (P 42 0) → it_e2 f (it_e1 f (up (up P 5 f 2) 10 f 0) (tn (P 42 0))) j 8 j = nI f → it_e2 f (it_e1 f (up (up P 5 f 2) 10 f 0) (tn (P 42 0))) j 5 j = 1 → tn (it_e2 f (it_e1 f (up (up P 5 f 2) 10 f 0) (tn (P 42 0))) j 43 0) < 10) : WB (p_R_ends P f) := by
  have hb : sm (P 42 0) 10 := h 42 0
  exact wb_e2 (wb_e1 hf (WB.up (f := 10) (WB.up (f := 5) h trivial) (Or.inl rfl)) hb.2 ok1 _ (Nat.le_refl _)) hb.2 ok2 _ (Nat.le_refl _)
