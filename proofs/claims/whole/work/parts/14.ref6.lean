/-! the reference's methods, further (by program: wip/tools/gen_ref6.py) -/
/-- what keeping does to the first that waits, and to all -/
def kp1 (m : Nat) (v : Int32) (P : Pst) : Pst := p_R_wake (p_R_give P (tn (a_R_firstFor P 5 (nI m))) v) (tn (a_R_firstFor P 5 (nI m)))
def kpf (m : Nat) (v : Int32) : Nat → Pst → Pst
  | 0, P => P
  | n + 1, P => if a_R_firstFor P 5 (nI m) < 0 then P else kpf m v n (kp1 m v P)
def okk (m : Nat) (v : Int32) : Nat → Pst → Prop
  | 0, P => a_R_firstFor P 5 (nI m) < 0
  | n + 1, P => a_R_firstFor P 5 (nI m) < 0 ∨ (tn (P 43 0) < 10 ∧ okk m v n (kp1 m v P))
theorem ff_lt {P : Pst} (h : WB P) {w m : Int32} (c : ¬ a_R_firstFor P w m < 0) : a_R_firstFor P w m = nI (tn (a_R_firstFor P w m)) ∧ tn (a_R_firstFor P w m) < tn (P 42 0) ∧ tn (P 42 0) ≤ 10 := by
  have h2 : sm (P 42 0) 10 := h 42 0
  exact ⟨tn_of c, bs_lt P w m _ h2.2 c, h2.2⟩
theorem wb_kp1 {P : Pst} (h : WB P) (m : Nat) (v : Int32) (c : ¬ a_R_firstFor P 5 (nI m) < 0) (hq : tn (P 43 0) < 10) : WB (kp1 m v P) := by
  have := ff_lt h c
  exact wb_wake (wb_give h _ _) (by omega) hq
theorem wb_kpf (m : Nat) (v : Int32) : ∀ (n : Nat) (P : Pst), WB P → okk m v n P → WB (kpf m v n P)
  | 0, _, h, _ => h
  | n + 1, P, h, hk => by
    show WB (if a_R_firstFor P 5 (nI m) < 0 then P else kpf m v n (kp1 m v P))
    split
    · exact h
    · rename_i c
      rcases hk with hk | hk
      · exact absurd hk c
      · exact wb_kpf m v n _ (wb_kp1 h m v c hk.1) hk.2
set_option maxHeartbeats 4000000 in
set_option maxRecDepth 100000 in
theorem lo_keeps {γ : Rg} (m : Nat) (v : Int32) {M0 : Mm} {Q : Option Value → Mm → Prop} {k n : Nat} : ∀ (c : Nat) (P : Pst) (M : Mm), okk m v c P → WB P → RR γ P M → (∀ (x : Int32) M, RR γ (kpf m v c P) M → G m_R_keeps ownR M0 Q 1 k n M 57 [some (va_rf (some γ.1)), some (.int (nI m)), some (.int (v)), some (.int (x))] []) → G m_R_keeps ownR M0 Q 1 k n M 32 [some (va_rf (some γ.1)), some (.int (nI m)), some (.int (v)), some (.int (a_R_firstFor P 5 (nI m)))] [] := by
  intro c
  induction c with
  | zero =>
    intro P M hk hW hR kk
    refine g_iload_n d_R_keeps_32 rfl ?_
    refine g_if_lt 57 d_R_keeps_33 (by decide) (fun c_33 => ?_) (fun c_33 => ?_)
    · skip
      exact kk _ M hR
    · exact absurd hk c_33
  | succ c ih =>
    intro P M hk hW hR kk
    refine g_iload_n d_R_keeps_32 rfl ?_
    refine g_if_lt 57 d_R_keeps_33 (by decide) (fun c_33 => ?_) (fun c_33 => ?_)
    · skip
      exact kk _ M (by show RR γ (if a_R_firstFor P 5 (nI m) < 0 then P else kpf m v c (kp1 m v P)) M; rw [if_pos c_33]; exact hR)
    · have hx_ := ff_lt hW c_33; have hk_ := hk.resolve_left c_33
      refine g_aload_n d_R_keeps_36 rfl ?_
      refine g_iload_n d_R_keeps_37 rfl ?_
      refine g_iload_n d_R_keeps_38 rfl ?_
      refine r_call [.int (nI (tn (a_R_firstFor P 5 (nI m)))), .int (v)] hR cw_R_198 cv_R_give d_R_keeps_39 rfl (by rw [← (show (a_R_firstFor P 5 (nI m) : Int32) = nI (tn (a_R_firstFor P 5 (nI m))) from hx_.1)]; try rfl) ⟨by simp, by simp⟩ (by decide) (c_R_give _ (tn (a_R_firstFor P 5 (nI m))) v (by omega)) (fun M hR => ?_)
      refine g_aload_n d_R_keeps_42 rfl ?_
      refine g_iload_n d_R_keeps_43 rfl ?_
      refine r_call [.int (nI (tn (a_R_firstFor P 5 (nI m))))] hR cw_R_186 cv_R_wake d_R_keeps_44 rfl (by rw [← (show (a_R_firstFor P 5 (nI m) : Int32) = nI (tn (a_R_firstFor P 5 (nI m))) from hx_.1)]; try rfl) ⟨by simp, by simp⟩ (by decide) (c_R_wake _ (tn (a_R_firstFor P 5 (nI m))) (by omega) (show sm _ 10 from hW 43 0).1 hk_.1) (fun M hR => ?_)
      refine g_aload_n d_R_keeps_47 rfl ?_
      refine g_iconst (v := 5) d_R_keeps_48 (by decide) ?_
      refine g_iload_n d_R_keeps_49 rfl ?_
      refine r_call [.int (5), .int (nI m)] hR cw_R_194 cv_R_firstFor d_R_keeps_50 rfl rfl ⟨by simp, by simp⟩ (by decide) (c_R_firstFor _ 5 (nI m) (show sm _ 10 from hW 42 0).1 (show sm _ 10 from hW 42 0).2) (fun M hR => ?_)
      refine g_istore_n d_R_keeps_53 (by decide) ?_
      refine g_goto 32 d_R_keeps_54 (by decide) ?_
      refine ih (kp1 m v P) M hk_.2 (wb_kp1 hW m v c_33 hk_.1) hR (fun x M hR => kk x M ?_)
      show RR γ (if a_R_firstFor P 5 (nI m) < 0 then P else kpf m v c (kp1 m v P)) M
      rw [if_neg c_33]
      exact hR
def a_R_keeps (P : Pst) (m : Nat) (v : Int32) : Int32 := if P 41 m = 0 then 1 else 0
def p_R_keeps (P : Pst) (m : Nat) (v : Int32) : Pst := if P 41 m = 0 then kpf m v 10 (up (up P 41 m 1) 38 m v) else P
set_option maxHeartbeats 4000000 in
set_option maxRecDepth 100000 in
theorem c_R_keeps (P : Pst) (m : Nat) (v : Int32) (hW : WB P) (hm : m < 4) (hok : okk m v 10 (up (up P 41 m 1) 38 m v)) : RC m_R_keeps 1 [.int (nI m), .int v] P (some (.int (a_R_keeps P m v))) (p_R_keeps P m v) := by
  intro γ M hR
  refine Run.ofG (by decide) (by simp [cat_int, cat_rf]) (Nat.le_of_ble_eq_true rfl) ?_
  refine g_aload_n d_R_keeps_0 rfl ?_
  refine r_arr 41 hR (by decide) (by decide) fl_R_131 rfl d_R_keeps_1 ?_
  refine g_iload_n d_R_keeps_4 rfl ?_
  refine r_zald 41 m hR (by decide) rfl d_R_keeps_5 rfl (by show m < 4; omega) ?_
  refine g_if_eq 11 d_R_keeps_6 (by decide) (fun c_6 => ?_) (fun c_6 => ?_)
  · skip
    refine g_aload_n d_R_keeps_11 rfl ?_
    refine r_arr 41 hR (by decide) (by decide) fl_R_131 rfl d_R_keeps_12 ?_
    refine g_iload_n d_R_keeps_15 rfl ?_
    refine g_iconst (v := 1) d_R_keeps_16 (by decide) ?_
    refine r_zast 41 m hR (by decide) rfl (by first | exact Or.inl rfl | exact Or.inr rfl | assumption | (simp_all; done)) d_R_keeps_17 rfl (by show m < 4; omega) (fun M hR => ?_)
    refine g_aload_n d_R_keeps_18 rfl ?_
    refine r_arr 38 hR (by decide) (by decide) fl_R_122 rfl d_R_keeps_19 ?_
    refine g_iload_n d_R_keeps_22 rfl ?_
    refine g_iload_n d_R_keeps_23 rfl ?_
    refine r_iast 38 m hR (by decide) rfl d_R_keeps_24 rfl (by show m < 4; omega) (fun M hR => ?_)
    refine g_aload_n d_R_keeps_25 rfl ?_
    refine g_iconst (v := 5) d_R_keeps_26 (by decide) ?_
    refine g_iload_n d_R_keeps_27 rfl ?_
    refine r_call [.int (5), .int (nI m)] hR cw_R_194 cv_R_firstFor d_R_keeps_28 rfl rfl ⟨by simp, by simp⟩ (by decide) (c_R_firstFor _ 5 (nI m) (show sm _ 10 from hW 42 0).1 (show sm _ 10 from hW 42 0).2) (fun M hR => ?_)
    refine g_istore_n d_R_keeps_31 (by decide) ?_
    refine lo_keeps m v 10 _ M hok (WB.up (f := 38) (j := m) (x := v) (WB.up (f := 41) (j := m) (x := 1) hW (by first | exact trivial | exact Or.inl rfl | exact Or.inr rfl)) (by first | exact trivial | exact Or.inl rfl | exact Or.inr rfl)) hR (fun x M hR => ?_)
    refine g_iconst (v := 1) d_R_keeps_57 (by decide) ?_
    exact g_zreturn d_R_keeps_58 rfl (by first | exact Or.inl rfl | exact Or.inr rfl | assumption | (simp_all; done)) ⟨by unfold a_R_keeps; rw [if_pos (show P 41 m = 0 from c_6)]; try rfl, by unfold p_R_keeps; rw [if_pos (show P 41 m = 0 from c_6)]; exact hR⟩
  · skip
    refine g_iconst (v := 0) d_R_keeps_9 (by decide) ?_
    exact g_zreturn d_R_keeps_10 rfl (by first | exact Or.inl rfl | exact Or.inr rfl | assumption | (simp_all; done)) ⟨by unfold a_R_keeps; rw [if_neg (show ¬ (P 41 m = 0) from c_6)]; try rfl, by unfold p_R_keeps; rw [if_neg (show ¬ (P 41 m = 0) from c_6)]; exact hR⟩

theorem wb_keeps {P : Pst} (h : WB P) (m : Nat) (v : Int32) (hok : okk m v 10 (up (up P 41 m 1) 38 m v)) : WB (p_R_keeps P m v) := by
  unfold p_R_keeps
  split
  · exact wb_kpf m v 10 _ (WB.up (f := 38) (WB.up (f := 41) h (Or.inr rfl)) trivial) hok
  · exact h
theorem keeps_01 (P : Pst) (m : Nat) (v : Int32) : a_R_keeps P m v = 0 ∨ a_R_keeps P m v = 1 := by
  unfold a_R_keeps
  split
  · exact Or.inr rfl
  · exact Or.inl rfl
def a_R_keep (P : Pst) (x : Int32) (v : Int32) : Int32 := if P 51 0 = 0 then 0 else if a_R_in x 0 3 = 0 then 0 else if a_R_keeps P (tn x) v = 0 then 0 else 1
def p_R_keep (P : Pst) (x : Int32) (v : Int32) : Pst := if P 51 0 = 0 then P else if a_R_in x 0 3 = 0 then P else if a_R_keeps P (tn x) v = 0 then p_R_keeps P (tn x) v else p_R_keeps P (tn x) v
set_option maxHeartbeats 4000000 in
set_option maxRecDepth 100000 in
theorem c_R_keep (P : Pst) (x : Int32) (v : Int32) (hW : WB P) (hok : okk (tn x) v 10 (up (up P 41 (tn x) 1) 38 (tn x) v)) : RC m_R_keep 2 [.int x, .int v] P (some (.int (a_R_keep P x v))) (p_R_keep P x v) := by
  intro γ M hR
  refine Run.ofG (by decide) (by simp [cat_int, cat_rf]) (Nat.le_of_ble_eq_true rfl) ?_
  refine g_aload_n d_R_keep_0 rfl ?_
  refine r_geti 51 hR (by decide) rfl fl_R_159 rfl d_R_keep_1 ?_
  refine g_if_eq 29 d_R_keep_4 (by decide) (fun c_4 => ?_) (fun c_4 => ?_)
  · skip
    refine g_iconst (v := 0) d_R_keep_29 (by decide) ?_
    exact g_zreturn d_R_keep_30 rfl (by first | exact Or.inl rfl | exact Or.inr rfl | assumption | (simp_all; done)) ⟨by unfold a_R_keep; rw [if_pos (show P 51 0 = 0 from c_4)]; try rfl, by unfold p_R_keep; rw [if_pos (show P 51 0 = 0 from c_4)]; exact hR⟩
  · skip
    refine g_iload_n d_R_keep_7 rfl ?_
    refine g_iconst (v := 0) d_R_keep_8 (by decide) ?_
    refine g_iconst (v := 3) d_R_keep_9 (by decide) ?_
    refine g_callS [.int (x), .int (0), .int (3)] cw_R_141 cs_R_in d_R_keep_10 rfl rfl ⟨by simp, by simp⟩ (by decide) (Nat.le_refl _) (Nat.le_refl _) (fun _ _ h => h) (c_R_in x 0 3 _ _) (fun r_ M_ h_ _ => ?_)
    obtain ⟨rfl, rfl⟩ := h_
    refine g_if_eq 29 d_R_keep_13 (by decide) (fun c_13 => ?_) (fun c_13 => ?_)
    · skip
      refine g_iconst (v := 0) d_R_keep_29 (by decide) ?_
      exact g_zreturn d_R_keep_30 rfl (by first | exact Or.inl rfl | exact Or.inr rfl | assumption | (simp_all; done)) ⟨by unfold a_R_keep; rw [if_neg (show ¬ (P 51 0 = 0) from c_4), if_pos (show a_R_in x 0 3 = 0 from c_13)]; try rfl, by unfold p_R_keep; rw [if_neg (show ¬ (P 51 0 = 0) from c_4), if_pos (show a_R_in x 0 3 = 0 from c_13)]; exact hR⟩
    · have h1_ := (in_nat c_13 (m := 3) rfl (by decide)).2
      refine g_aload_n d_R_keep_16 rfl ?_
      refine g_iload_n d_R_keep_17 rfl ?_
      refine g_iload_n d_R_keep_18 rfl ?_
      refine r_call [.int (nI (tn x)), .int (v)] hR cw_R_201 cv_R_keeps d_R_keep_19 rfl (by rw [← (show (x : Int32) = nI (tn x) from (in_nat c_13 (m := 3) rfl (by decide)).1)]; try rfl) ⟨by simp, by simp⟩ (by decide) (c_R_keeps _ (tn x) v hW (by omega) hok) (fun M hR => ?_)
      refine g_if_eq 29 d_R_keep_22 (by decide) (fun c_22 => ?_) (fun c_22 => ?_)
      · skip
        refine g_iconst (v := 0) d_R_keep_29 (by decide) ?_
        exact g_zreturn d_R_keep_30 rfl (by first | exact Or.inl rfl | exact Or.inr rfl | assumption | (simp_all; done)) ⟨by unfold a_R_keep; rw [if_neg (show ¬ (P 51 0 = 0) from c_4), if_neg (show ¬ (a_R_in x 0 3 = 0) from c_13), if_pos (show a_R_keeps P (tn x) v = 0 from c_22)]; try rfl, by unfold p_R_keep; rw [if_neg (show ¬ (P 51 0 = 0) from c_4), if_neg (show ¬ (a_R_in x 0 3 = 0) from c_13), if_pos (show a_R_keeps P (tn x) v = 0 from c_22)]; exact hR⟩
      · skip
        refine g_iconst (v := 1) d_R_keep_25 (by decide) ?_
        refine g_goto 30 d_R_keep_26 (by decide) ?_
        exact g_zreturn d_R_keep_30 rfl (by first | exact Or.inl rfl | exact Or.inr rfl | assumption | (simp_all; done)) ⟨by unfold a_R_keep; rw [if_neg (show ¬ (P 51 0 = 0) from c_4), if_neg (show ¬ (a_R_in x 0 3 = 0) from c_13), if_neg (show ¬ (a_R_keeps P (tn x) v = 0) from c_22)]; try rfl, by unfold p_R_keep; rw [if_neg (show ¬ (P 51 0 = 0) from c_4), if_neg (show ¬ (a_R_in x 0 3 = 0) from c_13), if_neg (show ¬ (a_R_keeps P (tn x) v = 0) from c_22)]; exact hR⟩

