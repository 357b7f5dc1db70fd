/-! the reference's run (by program: wip/tools/gen_ref13.py) -/
def StepOK (P : Pst) : Prop := P 48 0 = nI (tn (P 48 0)) ∧ tn (P 48 0) < 10 ∧ (¬ P 11 (tn (P 48 0)) < 0 → ActOK (up (up (up P 45 0 ((P 45 0) + 1)) 9 (tn (P 48 0)) ((P 9 (tn (P 48 0))) + 1)) 49 0 ((P 49 0) + 1)) (tn (P 48 0)) (tn (P 11 (tn (P 48 0)))) (P 12 (tn (P 48 0)))) ∧ (¬ P 22 (tn (P 48 0)) ≤ 0 → ComesOK (up (up (up P 45 0 ((P 45 0) + 1)) 9 (tn (P 48 0)) ((P 9 (tn (P 48 0))) + 1)) 49 0 ((P 49 0) + 1)) (tn (P 48 0)) (((16 * (tn (P 48 0))) + (tn (P 22 (tn (P 48 0))))) - 1)) ∧ (P 22 (tn (P 48 0)) ≤ 0 → EndsOK (up (up (up P 45 0 ((P 45 0) + 1)) 9 (tn (P 48 0)) ((P 9 (tn (P 48 0))) + 1)) 49 0 ((P 49 0) + 1)) (tn (P 48 0))) ∧ WB (p_sA P) ∧ (p_sA P 5 (tn (P 48 0)) = 0 → tn (p_sA P 43 0) < 10)
def BeginOK (P : Pst) : Prop := (P 43 0 = 0 → 0 ≤ ls P (tn (P 42 0)) → ∀ j, j < tn (P 42 0) → it_b (ls P (tn (P 42 0))) (up P 44 0 (ls P (tn (P 42 0)))) j 5 j = 1 → tn (it_b (ls P (tn (P 42 0))) (up P 44 0 (ls P (tn (P 42 0)))) j 43 0) < 10) ∧ (P 43 0 = 0 → 0 ≤ ls P (tn (P 42 0)) → 1 ≤ tn (it_b (ls P (tn (P 42 0))) (up P 44 0 (ls P (tn (P 42 0)))) (tn (P 42 0)) 43 0))
def rnB (P : Pst) : Pst := if P 48 0 < 0 then p_R_begin P else P
def rn (P : Pst) : Pst := if rnB P 48 0 < 0 then rnB P else p_R_step (rnB P)
def it_r (P : Pst) : Nat → Pst
  | 0 => P
  | j + 1 => rn (it_r P j)
def RunOK (P : Pst) : Prop := WB P ∧ (P 48 0 < 0 → BeginOK P) ∧ (¬ rnB P 48 0 < 0 → WB (rnB P) ∧ StepOK (rnB P))
set_option maxHeartbeats 4000000 in
set_option maxRecDepth 100000 in
theorem lo_run {γ : Rg} (P : Pst) (x : Int32) (N : Nat) (hx : x = nI N) (hN : N ≤ 20) (ok : ∀ j, j < N → RunOK (it_r P j)) {M0 : Mm} {Q : Option Value → Mm → Prop} {k n : Nat} : ∀ (r j : Nat) (M : Mm), j + r = N → RR γ (it_r P j) M → (∀ M, RR γ (it_r P N) M → G m_R_run ownR M0 Q 6 k n M 54 [some (va_rf (some γ.1)), some (.int (x)), some (.int (nI N))] []) → G m_R_run ownR M0 Q 6 k n M 21 [some (va_rf (some γ.1)), some (.int (x)), some (.int (nI j))] [] := by
  intro r
  induction r with
  | zero =>
    intro j M hj hR kk
    refine g_iload_n d_R_run_21 rfl ?_
    refine g_iload_n d_R_run_22 rfl ?_
    refine g_icmp_ge 54 d_R_run_23 (by decide) (fun c_23 => ?_) (fun c_23 => ?_)
    · skip
      obtain rfl : j = N := by omega
      exact kk M hR
    · exact absurd (ix_le (a := N) hx rfl (by omega) (by omega)) c_23
  | succ r ih =>
    intro j M hj hR kk
    have hO := ok j (by omega)
    refine g_iload_n d_R_run_21 rfl ?_
    refine g_iload_n d_R_run_22 rfl ?_
    refine g_icmp_ge 54 d_R_run_23 (by decide) (fun c_23 => ?_) (fun c_23 => ?_)
    · exact absurd c_23 (ix_nle (a := N) hx rfl (by omega) (by omega))
    · skip
      refine g_aload_n d_R_run_26 rfl ?_
      refine r_geti 48 hR (by decide) rfl fl_R_134 rfl d_R_run_27 ?_
      refine g_if_ge 37 d_R_run_30 (by decide) (fun c_30 => ?_) (fun c_30 => ?_)
      · skip
        have eB_ : rnB (it_r P j) = it_r P j := by unfold rnB; rw [if_neg (nlt_of c_30)]
        replace hR : RR γ (rnB (it_r P j)) M := by rw [eB_]; exact hR
        refine g_aload_n d_R_run_37 rfl ?_
        refine r_geti 48 hR (by decide) rfl fl_R_134 rfl d_R_run_38 ?_
        refine g_if_lt 48 d_R_run_41 (by decide) (fun c_41 => ?_) (fun c_41 => ?_)
        · skip
          refine g_iinc (v := nI (j + 1)) d_R_run_48 rfl (nI_1 _) (by decide) ?_
          refine g_goto 21 d_R_run_51 (by decide) ?_
          refine ih (j + 1) M (by omega) ?_ kk
          show RR γ (rn (it_r P j)) M
          unfold rn
          rw [if_pos c_41]
          exact hR
        · skip
          refine g_aload_n d_R_run_44 rfl ?_
          refine r_call [] hR cw_R_208 cv_R_step d_R_run_45 rfl rfl ⟨by simp, by simp⟩ (by decide) (c_R_step _ (hO.2.2 c_41).1 (hO.2.2 c_41).2.1 (hO.2.2 c_41).2.2.1 (hO.2.2 c_41).2.2.2.1 (hO.2.2 c_41).2.2.2.2.1 (hO.2.2 c_41).2.2.2.2.2.1 (hO.2.2 c_41).2.2.2.2.2.2.1 (hO.2.2 c_41).2.2.2.2.2.2.2) (fun M hR => ?_)
          refine g_iinc (v := nI (j + 1)) d_R_run_48 rfl (nI_1 _) (by decide) ?_
          refine g_goto 21 d_R_run_51 (by decide) ?_
          refine ih (j + 1) M (by omega) ?_ kk
          show RR γ (rn (it_r P j)) M
          unfold rn
          rw [if_neg c_41]
          exact hR
      · skip
        refine g_aload_n d_R_run_33 rfl ?_
        refine r_call [] hR cw_R_205 cv_R_begin d_R_run_34 rfl rfl ⟨by simp, by simp⟩ (by decide) (c_R_begin _ hO.1 (hO.2.1 (Int32.not_le.mp c_30)).1 (hO.2.1 (Int32.not_le.mp c_30)).2) (fun M hR => ?_)
        have eB_ : rnB (it_r P j) = p_R_begin (it_r P j) := by unfold rnB; rw [if_pos (Int32.not_le.mp c_30)]
        replace hR : RR γ (rnB (it_r P j)) M := by rw [eB_]; exact hR
        refine g_aload_n d_R_run_37 rfl ?_
        refine r_geti 48 hR (by decide) rfl fl_R_134 rfl d_R_run_38 ?_
        refine g_if_lt 48 d_R_run_41 (by decide) (fun c_41 => ?_) (fun c_41 => ?_)
        · skip
          refine g_iinc (v := nI (j + 1)) d_R_run_48 rfl (nI_1 _) (by decide) ?_
          refine g_goto 21 d_R_run_51 (by decide) ?_
          refine ih (j + 1) M (by omega) ?_ kk
          show RR γ (rn (it_r P j)) M
          unfold rn
          rw [if_pos c_41]
          exact hR
        · skip
          refine g_aload_n d_R_run_44 rfl ?_
          refine r_call [] hR cw_R_208 cv_R_step d_R_run_45 rfl rfl ⟨by simp, by simp⟩ (by decide) (c_R_step _ (hO.2.2 c_41).1 (hO.2.2 c_41).2.1 (hO.2.2 c_41).2.2.1 (hO.2.2 c_41).2.2.2.1 (hO.2.2 c_41).2.2.2.2.1 (hO.2.2 c_41).2.2.2.2.2.1 (hO.2.2 c_41).2.2.2.2.2.2.1 (hO.2.2 c_41).2.2.2.2.2.2.2) (fun M hR => ?_)
          refine g_iinc (v := nI (j + 1)) d_R_run_48 rfl (nI_1 _) (by decide) ?_
          refine g_goto 21 d_R_run_51 (by decide) ?_
          refine ih (j + 1) M (by omega) ?_ kk
          show RR γ (rn (it_r P j)) M
          unfold rn
          rw [if_neg c_41]
          exact hR
theorem in_nat20 {v : Int32} (h : ¬ a_R_in v 1 20 = 0) : v = nI (tn v) ∧ tn v ≤ 20 := by
  unfold a_R_in at h
  by_cases c1 : v < 1
  · rw [if_pos c1] at h; exact absurd rfl h
  · rw [if_neg c1] at h
    by_cases c2 : 20 < v
    · rw [if_pos c2] at h; exact absurd rfl h
    · have c0 : ¬ v < 0 := fun q => c1 (Int32.lt_trans q (by decide))
      refine ⟨tn_of c0, ?_⟩
      obtain ⟨j, hj, e⟩ := nI_of c0
      rw [e, tn_nI hj]
      rw [e] at c2
      rcases Nat.lt_or_ge 20 j with q | q
      · exact absurd (nI_lt q hj) c2
      · exact q
def a_R_run (P : Pst) (x : Int32) : Int32 := if a_R_in x 1 20 = 0 then -1 else if P 51 0 = 0 then -1 else a_R_stands (it_r P (tn x))
def p_R_run (P : Pst) (x : Int32) : Pst := if a_R_in x 1 20 = 0 then P else if P 51 0 = 0 then P else it_r P (tn x)
set_option maxHeartbeats 4000000 in
set_option maxRecDepth 100000 in
theorem c_R_run (P : Pst) (x : Int32) (ok : ¬ a_R_in x 1 20 = 0 → ¬ P 51 0 = 0 → ∀ j, j < tn x → RunOK (it_r P j)) (okE : ¬ a_R_in x 1 20 = 0 → ¬ P 51 0 = 0 → WB (it_r P (tn x))) : RC m_R_run 6 [.int x] P (some (.int (a_R_run P x))) (p_R_run P x) := by
  intro γ M hR
  refine Run.ofG (by decide) (by simp [cat_int, cat_rf]) (Nat.le_of_ble_eq_true rfl) ?_
  refine g_iload_n d_R_run_0 rfl ?_
  refine g_iconst (v := 1) d_R_run_1 (by decide) ?_
  refine g_bipush (v := 20) d_R_run_2 (by decide) ?_
  refine g_callS [.int (x), .int (1), .int (20)] cw_R_141 cs_R_in d_R_run_4 rfl rfl ⟨by simp, by simp⟩ (by decide) (Nat.le_refl _) (Nat.le_refl _) (fun _ _ h => h) (c_R_in x 1 20 _ _) (fun r_ M_ h_ _ => ?_)
  obtain ⟨rfl, rfl⟩ := h_
  refine g_if_eq 17 d_R_run_7 (by decide) (fun c_7 => ?_) (fun c_7 => ?_)
  · skip
    refine g_iconst (v := -1) d_R_run_17 (by decide) ?_
    exact g_ireturn d_R_run_18 rfl ⟨by unfold a_R_run; rw [if_pos (show a_R_in x 1 20 = 0 from c_7)]; try rfl, by unfold p_R_run; rw [if_pos (show a_R_in x 1 20 = 0 from c_7)]; exact hR⟩
  · have hx_ := in_nat20 c_7
    refine g_aload_n d_R_run_10 rfl ?_
    refine r_geti 51 hR (by decide) rfl fl_R_159 rfl d_R_run_11 ?_
    refine g_if_ne 19 d_R_run_14 (by decide) (fun c_14 => ?_) (fun c_14 => ?_)
    · skip
      refine g_iconst (v := 0) d_R_run_19 (by decide) ?_
      refine g_istore_n d_R_run_20 (by decide) ?_
      refine lo_run P x (tn x) hx_.1 hx_.2 (ok c_7 c_14) (tn x) 0 _ (by omega) hR (fun M hR => ?_)
      refine g_aload_n d_R_run_54 rfl ?_
      refine r_call [] hR cw_R_211 cv_R_stands d_R_run_55 rfl rfl ⟨by simp, by simp⟩ (by decide) (c_R_stands _ (show sm _ 10 from (okE c_7 c_14) 42 0).1 (show sm _ 10 from (okE c_7 c_14) 42 0).2) (fun M hR => ?_)
      exact g_ireturn d_R_run_58 rfl ⟨by unfold a_R_run; rw [if_neg (show ¬ (a_R_in x 1 20 = 0) from c_7), if_neg (show ¬ (P 51 0 = 0) from c_14)]; try rfl, by unfold p_R_run; rw [if_neg (show ¬ (a_R_in x 1 20 = 0) from c_7), if_neg (show ¬ (P 51 0 = 0) from c_14)]; exact hR⟩
    · skip
      refine g_iconst (v := -1) d_R_run_17 (by decide) ?_
      exact g_ireturn d_R_run_18 rfl ⟨by unfold a_R_run; rw [if_neg (show ¬ (a_R_in x 1 20 = 0) from c_7), if_pos (show P 51 0 = 0 from c_14)]; try rfl, by unfold p_R_run; rw [if_neg (show ¬ (a_R_in x 1 20 = 0) from c_7), if_pos (show P 51 0 = 0 from c_14)]; exact hR⟩

