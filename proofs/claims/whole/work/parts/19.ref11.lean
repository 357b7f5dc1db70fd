/-! the reference's methods, further (by program: wip/tools/gen_ref11.py) -/
def ls (P : Pst) : Nat → Int32
  | 0 => -1
  | j + 1 => if P 5 j = 1 then (if P 15 j = 4 then (if ls P j < 0 then P 16 j else if ls P j ≤ P 16 j then ls P j else P 16 j) else ls P j) else ls P j
def it_b (lst : Int32) (P : Pst) : Nat → Pst
  | 0 => P
  | j + 1 => if it_b lst P j 5 j = 1 then (if it_b lst P j 15 j = 4 then (if it_b lst P j 16 j = lst then p_R_wake (p_R_give (it_b lst P j) j (it_b lst P j 17 j)) j else it_b lst P j) else it_b lst P j) else it_b lst P j
def it_q (P : Pst) : Nat → Pst
  | 0 => P
  | j + 1 => up (it_q P j) 36 j (it_q P j 36 (j + 1))
theorem b_42 (lst : Int32) (P : Pst) : ∀ j, it_b lst P j 42 0 = P 42 0
  | 0 => rfl
  | j + 1 => by
    show (if it_b lst P j 5 j = 1 then (if it_b lst P j 15 j = 4 then (if it_b lst P j 16 j = lst then p_R_wake (p_R_give (it_b lst P j) j (it_b lst P j 17 j)) j else it_b lst P j) else it_b lst P j) else it_b lst P j) 42 0 = _
    repeat' split
    all_goals first | exact b_42 lst P j | (rw [wake_fr _ _ (by decide), give_fr _ _ _ (by decide)]; exact b_42 lst P j)
theorem wb_b {lst : Int32} {P : Pst} (h : WB P) {N : Nat} (hN : N ≤ 10) (ok : ∀ j, j < N → it_b lst P j 5 j = 1 → tn (it_b lst P j 43 0) < 10) : ∀ j, j ≤ N → WB (it_b lst P j)
  | 0, _ => h
  | j + 1, hj => by
    have ih := wb_b h hN ok j (by omega)
    show WB (if it_b lst P j 5 j = 1 then (if it_b lst P j 15 j = 4 then (if it_b lst P j 16 j = lst then p_R_wake (p_R_give (it_b lst P j) j (it_b lst P j 17 j)) j else it_b lst P j) else it_b lst P j) else it_b lst P j)
    by_cases c : it_b lst P j 5 j = 1
    · rw [if_pos c]
      have hr := ok j (by omega) c
      repeat' split
      all_goals first | with_reducible exact ih | exact wb_wake (wb_give ih _ _) (by omega) hr
    · rw [if_neg c]; exact ih
theorem q_fr (P : Pst) {h i : Nat} (hh : h ≠ 36) : ∀ j, it_q P j h i = P h i
  | 0 => rfl
  | j + 1 => by
    show up (it_q P j) 36 j _ h i = _
    rw [up_f hh]; exact q_fr P hh j
theorem wb_q {P : Pst} (h : WB P) : ∀ j, WB (it_q P j)
  | 0 => h
  | j + 1 => WB.up (f := 36) (wb_q h j) (wb_q h j 36 (j + 1))
set_option maxHeartbeats 4000000 in
set_option maxRecDepth 100000 in
theorem lo_b1 {γ : Rg} (P : Pst) (nf : Nat) (hb : P 42 0 = nI nf) (hb9 : nf ≤ 10) {M0 : Mm} {Q : Option Value → Mm → Prop} {dep k n : Nat} (hdep : 0 ≤ dep) : ∀ (r j : Nat) (M : Mm), j + r = nf → RR γ P M → (∀ M, RR γ P M → G m_R_begin ownR M0 Q dep k n M 66 [some (va_rf (some γ.1)), some (.int (ls P nf)), some (.int (nI nf))] []) → G m_R_begin ownR M0 Q dep k n M 11 [some (va_rf (some γ.1)), some (.int (ls P j)), some (.int (nI j))] [] := by
  intro r
  induction r with
  | zero =>
    intro j M hj hR kk
    refine g_iload_n d_R_begin_11 rfl ?_
    refine g_aload_n d_R_begin_12 rfl ?_
    refine r_geti 42 hR (by decide) rfl fl_R_153 rfl d_R_begin_13 ?_
    refine g_icmp_ge 66 d_R_begin_16 (by decide) (fun c_16 => ?_) (fun c_16 => ?_)
    · skip
      obtain rfl : j = nf := by omega
      exact kk M hR
    · exact absurd (ix_le (a := nf) hb rfl (by omega) (by omega)) c_16
  | succ r ih =>
    intro j M hj hR kk
    refine g_iload_n d_R_begin_11 rfl ?_
    refine g_aload_n d_R_begin_12 rfl ?_
    refine r_geti 42 hR (by decide) rfl fl_R_153 rfl d_R_begin_13 ?_
    refine g_icmp_ge 66 d_R_begin_16 (by decide) (fun c_16 => ?_) (fun c_16 => ?_)
    · exact absurd c_16 (ix_nle (a := nf) hb rfl (by omega) (by omega))
    · skip
      refine g_aload_n d_R_begin_19 rfl ?_
      refine r_arr 5 hR (by decide) (by decide) fl_R_22 rfl d_R_begin_20 ?_
      refine g_iload_n d_R_begin_23 rfl ?_
      refine r_iald 5 j hR (by decide) rfl d_R_begin_24 rfl (by show j < 10; omega) ?_
      refine g_iconst (v := 1) d_R_begin_25 (by decide) ?_
      refine g_icmp_ne 60 d_R_begin_26 (by decide) (fun c_26 => ?_) (fun c_26 => ?_)
      · skip
        refine g_iinc (v := nI (j + 1)) d_R_begin_60 rfl (nI_1 _) (by decide) ?_
        refine g_goto 11 d_R_begin_63 (by decide) ?_
        have e_ : ls P (j + 1) = ls P j := by
          show (if P 5 j = 1 then (if P 15 j = 4 then (if ls P j < 0 then P 16 j else if ls P j ≤ P 16 j then ls P j else P 16 j) else ls P j) else ls P j) = _
          rw [if_neg (show ¬ (P 5 j = 1) from c_26)]
        have h_ := ih (j + 1) M (by omega) hR kk
        rw [e_] at h_
        exact h_
      · skip
        refine g_aload_n d_R_begin_29 rfl ?_
        refine r_arr 15 hR (by decide) (by decide) fl_R_53 rfl d_R_begin_30 ?_
        refine g_iload_n d_R_begin_33 rfl ?_
        refine r_iald 15 j hR (by decide) rfl d_R_begin_34 rfl (by show j < 10; omega) ?_
        refine g_iconst (v := 4) d_R_begin_35 (by decide) ?_
        refine g_icmp_ne 60 d_R_begin_36 (by decide) (fun c_36 => ?_) (fun c_36 => ?_)
        · skip
          refine g_iinc (v := nI (j + 1)) d_R_begin_60 rfl (nI_1 _) (by decide) ?_
          refine g_goto 11 d_R_begin_63 (by decide) ?_
          have e_ : ls P (j + 1) = ls P j := by
            show (if P 5 j = 1 then (if P 15 j = 4 then (if ls P j < 0 then P 16 j else if ls P j ≤ P 16 j then ls P j else P 16 j) else ls P j) else ls P j) = _
            rw [if_pos (show P 5 j = 1 from c_26), if_neg (show ¬ (P 15 j = 4) from c_36)]
          have h_ := ih (j + 1) M (by omega) hR kk
          rw [e_] at h_
          exact h_
        · skip
          refine g_iload_n d_R_begin_39 rfl ?_
          refine g_if_lt 53 d_R_begin_40 (by decide) (fun c_40 => ?_) (fun c_40 => ?_)
          · skip
            refine g_aload_n d_R_begin_53 rfl ?_
            refine r_arr 16 hR (by decide) (by decide) fl_R_56 rfl d_R_begin_54 ?_
            refine g_iload_n d_R_begin_57 rfl ?_
            refine r_iald 16 j hR (by decide) rfl d_R_begin_58 rfl (by show j < 10; omega) ?_
            refine g_istore_n d_R_begin_59 (by decide) ?_
            refine g_iinc (v := nI (j + 1)) d_R_begin_60 rfl (nI_1 _) (by decide) ?_
            refine g_goto 11 d_R_begin_63 (by decide) ?_
            have e_ : ls P (j + 1) = P 16 j := by
              show (if P 5 j = 1 then (if P 15 j = 4 then (if ls P j < 0 then P 16 j else if ls P j ≤ P 16 j then ls P j else P 16 j) else ls P j) else ls P j) = _
              rw [if_pos (show P 5 j = 1 from c_26), if_pos (show P 15 j = 4 from c_36), if_pos (show ls P j < 0 from c_40)]
            have h_ := ih (j + 1) M (by omega) hR kk
            rw [e_] at h_
            exact h_
          · skip
            refine g_aload_n d_R_begin_43 rfl ?_
            refine r_arr 16 hR (by decide) (by decide) fl_R_56 rfl d_R_begin_44 ?_
            refine g_iload_n d_R_begin_47 rfl ?_
            refine r_iald 16 j hR (by decide) rfl d_R_begin_48 rfl (by show j < 10; omega) ?_
            refine g_iload_n d_R_begin_49 rfl ?_
            refine g_icmp_ge 60 d_R_begin_50 (by decide) (fun c_50 => ?_) (fun c_50 => ?_)
            · skip
              refine g_iinc (v := nI (j + 1)) d_R_begin_60 rfl (nI_1 _) (by decide) ?_
              refine g_goto 11 d_R_begin_63 (by decide) ?_
              have e_ : ls P (j + 1) = ls P j := by
                show (if P 5 j = 1 then (if P 15 j = 4 then (if ls P j < 0 then P 16 j else if ls P j ≤ P 16 j then ls P j else P 16 j) else ls P j) else ls P j) = _
                rw [if_pos (show P 5 j = 1 from c_26), if_pos (show P 15 j = 4 from c_36), if_neg (show ¬ (ls P j < 0) from c_40), if_pos (show ls P j ≤ P 16 j from c_50)]
              have h_ := ih (j + 1) M (by omega) hR kk
              rw [e_] at h_
              exact h_
            · skip
              refine g_aload_n d_R_begin_53 rfl ?_
              refine r_arr 16 hR (by decide) (by decide) fl_R_56 rfl d_R_begin_54 ?_
              refine g_iload_n d_R_begin_57 rfl ?_
              refine r_iald 16 j hR (by decide) rfl d_R_begin_58 rfl (by show j < 10; omega) ?_
              refine g_istore_n d_R_begin_59 (by decide) ?_
              refine g_iinc (v := nI (j + 1)) d_R_begin_60 rfl (nI_1 _) (by decide) ?_
              refine g_goto 11 d_R_begin_63 (by decide) ?_
              have e_ : ls P (j + 1) = P 16 j := by
                show (if P 5 j = 1 then (if P 15 j = 4 then (if ls P j < 0 then P 16 j else if ls P j ≤ P 16 j then ls P j else P 16 j) else ls P j) else ls P j) = _
                rw [if_pos (show P 5 j = 1 from c_26), if_pos (show P 15 j = 4 from c_36), if_neg (show ¬ (ls P j < 0) from c_40), if_neg (show ¬ (ls P j ≤ P 16 j) from c_50)]
              have h_ := ih (j + 1) M (by omega) hR kk
              rw [e_] at h_
              exact h_
set_option maxHeartbeats 4000000 in
set_option maxRecDepth 100000 in
theorem lo_b2 {γ : Rg} (lst : Int32) (P : Pst) (hW : WB P) (nf : Nat) (hb : P 42 0 = nI nf) (hb9 : nf ≤ 10) (ok : ∀ j, j < nf → it_b lst P j 5 j = 1 → tn (it_b lst P j 43 0) < 10) {M0 : Mm} {Q : Option Value → Mm → Prop} {dep k n : Nat} (hdep : 1 ≤ dep) : ∀ (r j : Nat) (M : Mm), j + r = nf → RR γ (it_b lst P j) M → (∀ M, RR γ (it_b lst P nf) M → G m_R_begin ownR M0 Q dep k n M 141 [some (va_rf (some γ.1)), some (.int (lst)), some (.int (nI nf))] []) → G m_R_begin ownR M0 Q dep k n M 78 [some (va_rf (some γ.1)), some (.int (lst)), some (.int (nI j))] [] := by
  intro r
  induction r with
  | zero =>
    intro j M hj hR kk
    refine g_iload_n d_R_begin_78 rfl ?_
    refine g_aload_n d_R_begin_79 rfl ?_
    refine r_geti 42 hR (by decide) rfl fl_R_153 rfl d_R_begin_80 ?_
    refine g_icmp_ge 141 d_R_begin_83 (by decide) (fun c_83 => ?_) (fun c_83 => ?_)
    · skip
      obtain rfl : j = nf := by omega
      exact kk M hR
    · exact absurd (ix_le (a := nf) ((b_42 lst P j).trans hb) rfl (by omega) (by omega)) c_83
  | succ r ih =>
    intro j M hj hR kk
    refine g_iload_n d_R_begin_78 rfl ?_
    refine g_aload_n d_R_begin_79 rfl ?_
    refine r_geti 42 hR (by decide) rfl fl_R_153 rfl d_R_begin_80 ?_
    refine g_icmp_ge 141 d_R_begin_83 (by decide) (fun c_83 => ?_) (fun c_83 => ?_)
    · exact absurd c_83 (ix_nle (a := nf) ((b_42 lst P j).trans hb) rfl (by omega) (by omega))
    · skip
      refine g_aload_n d_R_begin_86 rfl ?_
      refine r_arr 5 hR (by decide) (by decide) fl_R_22 rfl d_R_begin_87 ?_
      refine g_iload_n d_R_begin_90 rfl ?_
      refine r_iald 5 j hR (by decide) rfl d_R_begin_91 rfl (by show j < 10; omega) ?_
      refine g_iconst (v := 1) d_R_begin_92 (by decide) ?_
      refine g_icmp_ne 135 d_R_begin_93 (by decide) (fun c_93 => ?_) (fun c_93 => ?_)
      · skip
        refine g_iinc (v := nI (j + 1)) d_R_begin_135 rfl (nI_1 _) (by decide) ?_
        refine g_goto 78 d_R_begin_138 (by decide) ?_
        refine ih (j + 1) M (by omega) ?_ kk
        show RR γ (if it_b lst P j 5 j = 1 then (if it_b lst P j 15 j = 4 then (if it_b lst P j 16 j = lst then p_R_wake (p_R_give (it_b lst P j) j (it_b lst P j 17 j)) j else it_b lst P j) else it_b lst P j) else it_b lst P j) M
        rw [if_neg (show ¬ ((it_b lst P j) 5 j = 1) from c_93)]
        exact hR
      · skip
        refine g_aload_n d_R_begin_96 rfl ?_
        refine r_arr 15 hR (by decide) (by decide) fl_R_53 rfl d_R_begin_97 ?_
        refine g_iload_n d_R_begin_100 rfl ?_
        refine r_iald 15 j hR (by decide) rfl d_R_begin_101 rfl (by show j < 10; omega) ?_
        refine g_iconst (v := 4) d_R_begin_102 (by decide) ?_
        refine g_icmp_ne 135 d_R_begin_103 (by decide) (fun c_103 => ?_) (fun c_103 => ?_)
        · skip
          refine g_iinc (v := nI (j + 1)) d_R_begin_135 rfl (nI_1 _) (by decide) ?_
          refine g_goto 78 d_R_begin_138 (by decide) ?_
          refine ih (j + 1) M (by omega) ?_ kk
          show RR γ (if it_b lst P j 5 j = 1 then (if it_b lst P j 15 j = 4 then (if it_b lst P j 16 j = lst then p_R_wake (p_R_give (it_b lst P j) j (it_b lst P j 17 j)) j else it_b lst P j) else it_b lst P j) else it_b lst P j) M
          rw [if_pos (show (it_b lst P j) 5 j = 1 from c_93), if_neg (show ¬ ((it_b lst P j) 15 j = 4) from c_103)]
          exact hR
        · skip
          refine g_aload_n d_R_begin_106 rfl ?_
          refine r_arr 16 hR (by decide) (by decide) fl_R_56 rfl d_R_begin_107 ?_
          refine g_iload_n d_R_begin_110 rfl ?_
          refine r_iald 16 j hR (by decide) rfl d_R_begin_111 rfl (by show j < 10; omega) ?_
          refine g_iload_n d_R_begin_112 rfl ?_
          refine g_icmp_eq 119 d_R_begin_113 (by decide) (fun c_113 => ?_) (fun c_113 => ?_)
          · skip
            refine g_aload_n d_R_begin_119 rfl ?_
            refine g_iload_n d_R_begin_120 rfl ?_
            refine g_aload_n d_R_begin_121 rfl ?_
            refine r_arr 17 hR (by decide) (by decide) fl_R_59 rfl d_R_begin_122 ?_
            refine g_iload_n d_R_begin_125 rfl ?_
            refine r_iald 17 j hR (by decide) rfl d_R_begin_126 rfl (by show j < 10; omega) ?_
            refine r_call [.int (nI j), .int ((it_b lst P j) 17 j)] hR cw_R_198 cv_R_give d_R_begin_127 rfl rfl ⟨by simp, by simp⟩ (by omega) (c_R_give _ j ((it_b lst P j) 17 j) (by omega)) (fun M hR => ?_)
            refine g_aload_n d_R_begin_130 rfl ?_
            refine g_iload_n d_R_begin_131 rfl ?_
            refine r_call [.int (nI j)] hR cw_R_186 cv_R_wake d_R_begin_132 rfl rfl ⟨by simp, by simp⟩ (by omega) (c_R_wake _ j (by omega) (show sm _ 10 from (wb_b hW hb9 ok j (by omega)) 43 0).1 (ok j (by omega) c_93)) (fun M hR => ?_)
            refine g_iinc (v := nI (j + 1)) d_R_begin_135 rfl (nI_1 _) (by decide) ?_
            refine g_goto 78 d_R_begin_138 (by decide) ?_
            refine ih (j + 1) M (by omega) ?_ kk
            show RR γ (if it_b lst P j 5 j = 1 then (if it_b lst P j 15 j = 4 then (if it_b lst P j 16 j = lst then p_R_wake (p_R_give (it_b lst P j) j (it_b lst P j 17 j)) j else it_b lst P j) else it_b lst P j) else it_b lst P j) M
            rw [if_pos (show (it_b lst P j) 5 j = 1 from c_93), if_pos (show (it_b lst P j) 15 j = 4 from c_103), if_pos (show (it_b lst P j) 16 j = lst from c_113)]
            exact hR
          · skip
            refine g_goto 135 d_R_begin_116 (by decide) ?_
            refine g_iinc (v := nI (j + 1)) d_R_begin_135 rfl (nI_1 _) (by decide) ?_
            refine g_goto 78 d_R_begin_138 (by decide) ?_
            refine ih (j + 1) M (by omega) ?_ kk
            show RR γ (if it_b lst P j 5 j = 1 then (if it_b lst P j 15 j = 4 then (if it_b lst P j 16 j = lst then p_R_wake (p_R_give (it_b lst P j) j (it_b lst P j 17 j)) j else it_b lst P j) else it_b lst P j) else it_b lst P j) M
            rw [if_pos (show (it_b lst P j) 5 j = 1 from c_93), if_pos (show (it_b lst P j) 15 j = 4 from c_103), if_neg (show ¬ ((it_b lst P j) 16 j = lst) from c_113)]
            exact hR
set_option maxHeartbeats 4000000 in
set_option maxRecDepth 100000 in
theorem lo_b3 {γ : Rg} (P : Pst) (z : Option Value) (nq : Nat) (hb : P 43 0 = nI nq) (hb9 : nq ≤ 9) {M0 : Mm} {Q : Option Value → Mm → Prop} {dep k n : Nat} (hdep : 0 ≤ dep) : ∀ (r j : Nat) (M : Mm), j + r = nq → RR γ (it_q P j) M → (∀ M, RR γ (it_q P nq) M → G m_R_begin ownR M0 Q dep k n M 191 [some (va_rf (some γ.1)), some (.int (nI nq)), z] []) → G m_R_begin ownR M0 Q dep k n M 163 [some (va_rf (some γ.1)), some (.int (nI j)), z] [] := by
  intro r
  induction r with
  | zero =>
    intro j M hj hR kk
    refine g_iload_n d_R_begin_163 rfl ?_
    refine g_aload_n d_R_begin_164 rfl ?_
    refine r_geti 43 hR (by decide) rfl fl_R_156 rfl d_R_begin_165 ?_
    refine g_icmp_ge 191 d_R_begin_168 (by decide) (fun c_168 => ?_) (fun c_168 => ?_)
    · skip
      obtain rfl : j = nq := by omega
      exact kk M hR
    · exact absurd (ix_le (a := nq) ((q_fr P (by decide) j).trans hb) rfl (by omega) (by omega)) c_168
  | succ r ih =>
    intro j M hj hR kk
    refine g_iload_n d_R_begin_163 rfl ?_
    refine g_aload_n d_R_begin_164 rfl ?_
    refine r_geti 43 hR (by decide) rfl fl_R_156 rfl d_R_begin_165 ?_
    refine g_icmp_ge 191 d_R_begin_168 (by decide) (fun c_168 => ?_) (fun c_168 => ?_)
    · exact absurd c_168 (ix_nle (a := nq) ((q_fr P (by decide) j).trans hb) rfl (by omega) (by omega))
    · skip
      refine g_aload_n d_R_begin_171 rfl ?_
      refine r_arr 36 hR (by decide) (by decide) fl_R_116 rfl d_R_begin_172 ?_
      refine g_iload_n d_R_begin_175 rfl ?_
      refine g_aload_n d_R_begin_176 rfl ?_
      refine r_arr 36 hR (by decide) (by decide) fl_R_116 rfl d_R_begin_177 ?_
      refine g_iload_n d_R_begin_180 rfl ?_
      refine g_iconst (v := 1) d_R_begin_181 (by decide) ?_
      refine g_iadd d_R_begin_182 ?_
      refine r_iald 36 (j + 1) hR (by decide) rfl d_R_begin_183 (ix_add rfl rfl) (by show j + 1 < 10; omega) ?_
      refine r_iast 36 j hR (by decide) rfl d_R_begin_184 rfl (by show j < 10; omega) (fun M hR => ?_)
      refine g_iinc (v := nI (j + 1)) d_R_begin_185 rfl (nI_1 _) (by decide) ?_
      refine g_goto 163 d_R_begin_188 (by decide) ?_
      exact ih (j + 1) M (by omega) hR kk
def p_b141 (P : Pst)  : Pst := up (up (it_q (up (up P 48 0 (P 36 0)) 43 0 ((P 43 0) - 1)) (tn (P 43 0) - 1)) 49 0 0) 47 0 (((it_q (up (up P 48 0 (P 36 0)) 43 0 ((P 43 0) - 1)) (tn (P 43 0) - 1)) 47 0) + 1)
set_option maxHeartbeats 4000000 in
set_option maxRecDepth 100000 in
theorem t_b141 (P : Pst)  (hW : WB P) {y z : Option Value} (hq1 : 1 ≤ tn (P 43 0)) {γ : Rg} {M0 : Mm} {Q : Option Value → Mm → Prop} {dep k n : Nat} (hdep : 0 ≤ dep) (M : Mm) (hR : RR γ P M) (hQ : ∀ M, RR γ (p_b141 P ) M → Q none M) : G m_R_begin ownR M0 Q dep k n M 141 [some (va_rf (some γ.1)), y, z] [] := by
  have hqs_ : sm (P 43 0) 10 := hW 43 0
  have hqb_ := hqs_.2
  refine g_aload_n d_R_begin_141 rfl ?_
  refine g_aload_n d_R_begin_142 rfl ?_
  refine r_arr 36 hR (by decide) (by decide) fl_R_116 rfl d_R_begin_143 ?_
  refine g_iconst (v := 0) d_R_begin_146 (by decide) ?_
  refine r_iald 36 0 hR (by decide) rfl d_R_begin_147 rfl (by show 0 < 10; omega) ?_
  have w_1 : sm (P 36 0) 9 := hW 36 0
  have w_1b := w_1.2
  refine r_puti 48 hR (by decide) rfl fl_R_134 (Or.inr (fun r h => by cases h; rfl)) rfl d_R_begin_148 (fun M hR => ?_)
  refine g_aload_n d_R_begin_151 rfl ?_
  refine g_dup d_R_begin_152 ?_
  have w_2 : sm (P 43 0) 10 := hW 43 0
  have w_2b := w_2.2
  refine r_geti 43 hR (by decide) rfl fl_R_156 rfl d_R_begin_153 ?_
  refine g_iconst (v := 1) d_R_begin_156 (by decide) ?_
  refine g_isub d_R_begin_157 ?_
  refine r_puti 43 hR (by decide) rfl fl_R_156 (Or.inr (fun r h => by cases h; rfl)) rfl d_R_begin_158 (fun M hR => ?_)
  refine g_iconst (v := 0) d_R_begin_161 (by decide) ?_
  refine g_istore_n d_R_begin_162 (by decide) ?_
  refine lo_b3 (up (up P 48 0 (P 36 0)) 43 0 ((P 43 0) - 1)) z (tn (P 43 0) - 1) (ix_sub (b := 1) (show sm (P 43 0) 10 from hW 43 0).1 rfl hq1) (by omega) (Nat.zero_le _) (tn (P 43 0) - 1) 0 M (by omega) hR (fun M hR => ?_)
  refine g_aload_n d_R_begin_191 rfl ?_
  refine g_iconst (v := 0) d_R_begin_192 (by decide) ?_
  refine r_puti 49 hR (by decide) rfl fl_R_215 (Or.inr (fun r h => by cases h; rfl)) rfl d_R_begin_193 (fun M hR => ?_)
  refine g_aload_n d_R_begin_196 rfl ?_
  refine g_dup d_R_begin_197 ?_
  refine r_geti 47 hR (by decide) rfl fl_R_172 rfl d_R_begin_198 ?_
  refine g_iconst (v := 1) d_R_begin_201 (by decide) ?_
  refine g_iadd d_R_begin_202 ?_
  refine r_puti 47 hR (by decide) rfl fl_R_172 (Or.inr (fun r h => by cases h; rfl)) rfl d_R_begin_203 (fun M hR => ?_)
  exact g_return d_R_begin_206 rfl (hQ M (hR))
theorem begin_q1 {x : Int32} {N : Nat} (h : sm x N) (c : ¬ x = 0) : 1 ≤ tn x := by
  rcases Nat.eq_zero_or_pos (tn x) with e | e
  · exact absurd (by rw [h.1, e]; rfl) c
  · exact e
def p_R_begin (P : Pst)  : Pst := if P 43 0 = 0 then if 0 ≤ ls P (tn (P 42 0)) then p_b141 (it_b (ls P (tn (P 42 0))) (up P 44 0 (ls P (tn (P 42 0)))) (tn (P 42 0)))  else P else p_b141 P 
set_option maxHeartbeats 4000000 in
set_option maxRecDepth 100000 in
theorem c_R_begin (P : Pst)  (hW : WB P) (okb : P 43 0 = 0 → 0 ≤ ls P (tn (P 42 0)) → ∀ j, j < tn (P 42 0) → it_b (ls P (tn (P 42 0))) (up P 44 0 (ls P (tn (P 42 0)))) j 5 j = 1 → tn (it_b (ls P (tn (P 42 0))) (up P 44 0 (ls P (tn (P 42 0)))) j 43 0) < 10) (okb1 : P 43 0 = 0 → 0 ≤ ls P (tn (P 42 0)) → 1 ≤ tn (it_b (ls P (tn (P 42 0))) (up P 44 0 (ls P (tn (P 42 0)))) (tn (P 42 0)) 43 0)) : RC m_R_begin 1 [] P none (p_R_begin P ) := by
  intro γ M hR
  refine Run.ofG (by decide) (by simp [cat_int, cat_rf]) (Nat.le_of_ble_eq_true rfl) ?_
  refine g_aload_n d_R_begin_0 rfl ?_
  have w_1 : sm (P 43 0) 10 := hW 43 0
  have w_1b := w_1.2
  refine r_geti 43 hR (by decide) rfl fl_R_156 rfl d_R_begin_1 ?_
  refine g_if_ne 141 d_R_begin_4 (by decide) (fun c_4 => ?_) (fun c_4 => ?_)
  · skip
    exact t_b141 P  hW (begin_q1 (show sm (P 43 0) 10 from hW 43 0) c_4) (by decide) _ hR (fun M_ h_ => ⟨rfl, by unfold p_R_begin; rw [if_neg (show ¬ (P 43 0 = 0) from c_4)]; exact h_⟩)
  · skip
    refine g_iconst (v := -1) d_R_begin_7 (by decide) ?_
    refine g_istore_n d_R_begin_8 (by decide) ?_
    refine g_iconst (v := 0) d_R_begin_9 (by decide) ?_
    refine g_istore_n d_R_begin_10 (by decide) ?_
    refine lo_b1 P (tn (P 42 0)) (show sm (P 42 0) 10 from hW 42 0).1 (show sm (P 42 0) 10 from hW 42 0).2 (Nat.zero_le _) (tn (P 42 0)) 0 M (by omega) hR (fun M hR => ?_)
    refine g_iload_n d_R_begin_66 rfl ?_
    refine g_if_ge 71 d_R_begin_67 (by decide) (fun c_67 => ?_) (fun c_67 => ?_)
    · skip
      refine g_aload_n d_R_begin_71 rfl ?_
      refine g_iload_n d_R_begin_72 rfl ?_
      refine r_puti 44 hR (by decide) rfl fl_R_163 (Or.inr (fun r h => by cases h; rfl)) rfl d_R_begin_73 (fun M hR => ?_)
      refine g_iconst (v := 0) d_R_begin_76 (by decide) ?_
      refine g_istore_n d_R_begin_77 (by decide) ?_
      refine lo_b2 (ls P (tn (P 42 0))) (up P 44 0 (ls P (tn (P 42 0)))) (WB.up (f := 44) (j := 0) (x := ls P (tn (P 42 0))) hW (by first | exact trivial | exact Or.inl rfl | exact Or.inr rfl)) (tn (P 42 0)) (show sm (P 42 0) 10 from hW 42 0).1 (show sm (P 42 0) 10 from hW 42 0).2 (okb c_4 c_67) (by decide) (tn (P 42 0)) 0 M (by omega) hR (fun M hR => ?_)
      exact t_b141 (it_b (ls P (tn (P 42 0))) (up P 44 0 (ls P (tn (P 42 0)))) (tn (P 42 0)))  (wb_b (WB.up (f := 44) (j := 0) (x := ls P (tn (P 42 0))) hW (by first | exact trivial | exact Or.inl rfl | exact Or.inr rfl)) (show sm (P 42 0) 10 from hW 42 0).2 (okb c_4 c_67) (tn (P 42 0)) (Nat.le_refl _)) (okb1 c_4 c_67) (by decide) _ hR (fun M_ h_ => ⟨rfl, by unfold p_R_begin; rw [if_pos (show P 43 0 = 0 from c_4), if_pos (show 0 ≤ ls P (tn (P 42 0)) from c_67)]; exact h_⟩)
    · skip
      exact g_return d_R_begin_70 rfl ⟨rfl, by unfold p_R_begin; rw [if_pos (show P 43 0 = 0 from c_4), if_neg (show ¬ (0 ≤ ls P (tn (P 42 0))) from c_67)]; exact hR⟩

theorem wb_b141 {P : Pst} (h : WB P) (hq1 : 1 ≤ tn (P 43 0)) : WB (p_b141 P) :=
  WB.up (f := 47) (WB.up (f := 49) (wb_q (WB.up (f := 43) (WB.up (f := 48) h (Or.inr (h 36 0))) (sm_dec (h 43 0) hq1 (by decide))) _) trivial) trivial
theorem wb_begin {P : Pst} (h : WB P) (okb : P 43 0 = 0 → 0 ≤ ls P (tn (P 42 0)) → ∀ j, j < tn (P 42 0) → it_b (ls P (tn (P 42 0))) (up P 44 0 (ls P (tn (P 42 0)))) j 5 j = 1 → tn (it_b (ls P (tn (P 42 0))) (up P 44 0 (ls P (tn (P 42 0)))) j 43 0) < 10) (okb1 : P 43 0 = 0 → 0 ≤ ls P (tn (P 42 0)) → 1 ≤ tn (it_b (ls P (tn (P 42 0))) (up P 44 0 (ls P (tn (P 42 0)))) (tn (P 42 0)) 43 0)) : WB (p_R_begin P) := by
  have hb : sm (P 42 0) 10 := h 42 0
  unfold p_R_begin
  by_cases c : P 43 0 = 0
  · rw [if_pos c]
    split
    · rename_i q
      exact wb_b141 (wb_b (WB.up (f := 44) h trivial) hb.2 (okb c q) _ (Nat.le_refl _)) (okb1 c q)
    · exact h
  · rw [if_neg c]
    exact wb_b141 h (begin_q1 (show sm (P 43 0) 10 from h 43 0) c)
