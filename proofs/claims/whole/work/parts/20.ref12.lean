/-! the reference's step and run (by program: wip/tools/gen_ref12.py) -/
/-- what act, comes and ends need of the state (beside the ranges) -/
def ActOK (P : Pst) (f e : Nat) (v : Int32) : Prop := e < 40 ∧ tn (P 43 0) + 1 ≤ tn (P 42 0) ∧ (P 0 e = 15 → sm (P 1 e) 39) ∧ (¬ P 0 e < 19 → ¬ P 0 e = 25 → sm (P 1 e) 3) ∧ (P 0 e = 22 → okk (tn (P 1 e)) v 10 (up (up (p_R_give P f v) 41 (tn (P 1 e)) 1) 38 (tn (P 1 e)) v)) ∧ ¬ P 46 0 < 0
def ComesOK (P : Pst) (f q : Nat) : Prop := q < 160 ∧ 1 ≤ tn (P 22 f) ∧ (P 23 q = 6 → sm (P 2 (tn (P 24 q))) 39) ∧ (P 23 q = 7 → sm (P 3 (tn (P 24 q))) 39)
def EndsOK (P : Pst) (f : Nat) : Prop := (∀ j, j < tn (P 42 0) → it_e1 f (up (up P 5 f 2) 10 f 0) j 5 j = 1 → tn (it_e1 f (up (up P 5 f 2) 10 f 0) j 43 0) < 10) ∧ (∀ j, j < tn (P 42 0) → it_e2 f (it_e1 f (up (up P 5 f 2) 10 f 0) (tn (P 42 0))) j 8 j = nI f → it_e2 f (it_e1 f (up (up P 5 f 2) 10 f 0) (tn (P 42 0))) j 5 j = 1 → tn (it_e2 f (it_e1 f (up (up P 5 f 2) 10 f 0) (tn (P 42 0))) j 43 0) < 10)
def p_s140 (P : Pst) (f : Nat) (x : Int32) : Pst := if P 5 f = 0 then if 5 ≤ P 49 0 then up (up (up P 48 0 (-1)) 43 0 ((P 43 0) + 1)) 36 (tn (P 43 0)) x else P else up P 48 0 (-1)
set_option maxHeartbeats 4000000 in
set_option maxRecDepth 100000 in
theorem t_s140 (P : Pst) (f : Nat) (x : Int32) (hW : WB P) (hx : x = nI f) (hf : f < 10) (hroom : P 5 f = 0 → tn (P 43 0) < 10) {γ : Rg} {M0 : Mm} {Q : Option Value → Mm → Prop} {dep k n : Nat} (hdep : 0 ≤ dep) (M : Mm) (hR : RR γ P M) (hQ : ∀ M, RR γ (p_s140 P f x) M → Q none M) : G m_R_step ownR M0 Q dep k n M 140 [some (va_rf (some γ.1)), some (.int (x))] [] := by
  refine g_aload_n d_R_step_140 rfl ?_
  refine r_arr 5 hR (by decide) (by decide) fl_R_22 rfl d_R_step_141 ?_
  refine g_iload_n d_R_step_144 rfl ?_
  refine r_iald 5 f hR (by decide) rfl d_R_step_145 hx (by show f < 10; first | omega | (have h9_ := hroom (by assumption); omega)) ?_
  refine g_if_ne 158 d_R_step_146 (by decide) (fun c_146 => ?_) (fun c_146 => ?_)
  · skip
    refine g_aload_n d_R_step_158 rfl ?_
    refine g_iconst (v := -1) d_R_step_159 (by decide) ?_
    refine r_puti 48 hR (by decide) rfl fl_R_134 (Or.inr (fun r h => by cases h; rfl)) rfl d_R_step_160 (fun M hR => ?_)
    refine g_aload_n d_R_step_163 rfl ?_
    refine r_arr 5 hR (by decide) (by decide) fl_R_22 rfl d_R_step_164 ?_
    refine g_iload_n d_R_step_167 rfl ?_
    refine r_iald 5 f hR (by decide) rfl d_R_step_168 hx (by show f < 10; first | omega | (have h9_ := hroom (by assumption); omega)) ?_
    refine g_if_ne 189 d_R_step_169 (by decide) (fun c_169 => ?_) (fun c_169 => ?_)
    · skip
      exact g_return d_R_step_189 rfl (hQ M (by unfold p_s140; rw [if_neg (show ¬ (P 5 f = 0) from c_146)]; exact hR))
    · exact absurd (show P 5 f = 0 from c_169) c_146
  · skip
    refine g_aload_n d_R_step_149 rfl ?_
    refine r_geti 49 hR (by decide) rfl fl_R_215 rfl d_R_step_150 ?_
    refine g_iconst (v := 5) d_R_step_153 (by decide) ?_
    refine g_icmp_ge 158 d_R_step_154 (by decide) (fun c_154 => ?_) (fun c_154 => ?_)
    · skip
      refine g_aload_n d_R_step_158 rfl ?_
      refine g_iconst (v := -1) d_R_step_159 (by decide) ?_
      refine r_puti 48 hR (by decide) rfl fl_R_134 (Or.inr (fun r h => by cases h; rfl)) rfl d_R_step_160 (fun M hR => ?_)
      refine g_aload_n d_R_step_163 rfl ?_
      refine r_arr 5 hR (by decide) (by decide) fl_R_22 rfl d_R_step_164 ?_
      refine g_iload_n d_R_step_167 rfl ?_
      refine r_iald 5 f hR (by decide) rfl d_R_step_168 hx (by show f < 10; first | omega | (have h9_ := hroom (by assumption); omega)) ?_
      refine g_if_ne 189 d_R_step_169 (by decide) (fun c_169 => ?_) (fun c_169 => ?_)
      · exact absurd (show P 5 f = 0 from c_146) c_169
      · skip
        refine g_aload_n d_R_step_172 rfl ?_
        refine r_arr 36 hR (by decide) (by decide) fl_R_116 rfl d_R_step_173 ?_
        refine g_aload_n d_R_step_176 rfl ?_
        refine g_dup d_R_step_177 ?_
        have w_1 : sm (P 43 0) 10 := hW 43 0
        have w_1b := w_1.2
        refine r_geti 43 hR (by decide) rfl fl_R_156 rfl d_R_step_178 ?_
        refine g_dup_x1 d_R_step_181 rfl (cat_rf _) ?_
        refine g_iconst (v := 1) d_R_step_182 (by decide) ?_
        refine g_iadd d_R_step_183 ?_
        refine r_puti 43 hR (by decide) rfl fl_R_156 (Or.inr (fun r h => by cases h; rfl)) rfl d_R_step_184 (fun M hR => ?_)
        refine g_iload_n d_R_step_187 rfl ?_
        refine r_iast 36 (tn (P 43 0)) hR (by decide) rfl d_R_step_188 w_1.1 (by show tn (P 43 0) < 10; first | omega | (have h9_ := hroom (by assumption); omega)) (fun M hR => ?_)
        exact g_return d_R_step_189 rfl (hQ M (by unfold p_s140; rw [if_pos (show P 5 f = 0 from c_146), if_pos (show 5 ≤ P 49 0 from c_154)]; exact hR))
    · skip
      exact g_return d_R_step_157 rfl (hQ M (by unfold p_s140; rw [if_pos (show P 5 f = 0 from c_146), if_neg (show ¬ (5 ≤ P 49 0) from c_154)]; exact hR))
def p_sA (P : Pst) : Pst := if P 6 (tn (P 48 0)) = 1 then if P 10 (tn (P 48 0)) = 0 then p_R_fail (up (up (up (up P 45 0 ((P 45 0) + 1)) 9 (tn (P 48 0)) ((P 9 (tn (P 48 0))) + 1)) 49 0 ((P 49 0) + 1)) 6 (tn (P 48 0)) 2) (tn (P 48 0)) 3 (P 7 (tn (P 48 0))) else if P 11 (tn (P 48 0)) < 0 then if P 22 (tn (P 48 0)) ≤ 0 then p_R_ends (up (up (up P 45 0 ((P 45 0) + 1)) 9 (tn (P 48 0)) ((P 9 (tn (P 48 0))) + 1)) 49 0 ((P 49 0) + 1)) (tn (P 48 0)) else p_R_comes (up (up (up P 45 0 ((P 45 0) + 1)) 9 (tn (P 48 0)) ((P 9 (tn (P 48 0))) + 1)) 49 0 ((P 49 0) + 1)) (tn (P 48 0)) (((16 * (tn (P 48 0))) + (tn (P 22 (tn (P 48 0))))) - 1) else p_R_act (up (up (up P 45 0 ((P 45 0) + 1)) 9 (tn (P 48 0)) ((P 9 (tn (P 48 0))) + 1)) 49 0 ((P 49 0) + 1)) (tn (P 48 0)) (tn (P 11 (tn (P 48 0)))) (P 12 (tn (P 48 0))) else if P 11 (tn (P 48 0)) < 0 then if P 22 (tn (P 48 0)) ≤ 0 then p_R_ends (up (up (up P 45 0 ((P 45 0) + 1)) 9 (tn (P 48 0)) ((P 9 (tn (P 48 0))) + 1)) 49 0 ((P 49 0) + 1)) (tn (P 48 0)) else p_R_comes (up (up (up P 45 0 ((P 45 0) + 1)) 9 (tn (P 48 0)) ((P 9 (tn (P 48 0))) + 1)) 49 0 ((P 49 0) + 1)) (tn (P 48 0)) (((16 * (tn (P 48 0))) + (tn (P 22 (tn (P 48 0))))) - 1) else p_R_act (up (up (up P 45 0 ((P 45 0) + 1)) 9 (tn (P 48 0)) ((P 9 (tn (P 48 0))) + 1)) 49 0 ((P 49 0) + 1)) (tn (P 48 0)) (tn (P 11 (tn (P 48 0)))) (P 12 (tn (P 48 0)))
def p_R_step (P : Pst) : Pst := p_s140 (p_sA P) (tn (P 48 0)) (P 48 0)
set_option maxHeartbeats 4000000 in
set_option maxRecDepth 100000 in
theorem c_R_step (P : Pst) (hW : WB P) (hw : P 48 0 = nI (tn (P 48 0))) (hf : tn (P 48 0) < 10) (hA : ¬ P 11 (tn (P 48 0)) < 0 → ActOK (up (up (up P 45 0 ((P 45 0) + 1)) 9 (tn (P 48 0)) ((P 9 (tn (P 48 0))) + 1)) 49 0 ((P 49 0) + 1)) (tn (P 48 0)) (tn (P 11 (tn (P 48 0)))) (P 12 (tn (P 48 0)))) (hC : ¬ P 22 (tn (P 48 0)) ≤ 0 → ComesOK (up (up (up P 45 0 ((P 45 0) + 1)) 9 (tn (P 48 0)) ((P 9 (tn (P 48 0))) + 1)) 49 0 ((P 49 0) + 1)) (tn (P 48 0)) (((16 * (tn (P 48 0))) + (tn (P 22 (tn (P 48 0))))) - 1)) (hE : P 22 (tn (P 48 0)) ≤ 0 → EndsOK (up (up (up P 45 0 ((P 45 0) + 1)) 9 (tn (P 48 0)) ((P 9 (tn (P 48 0))) + 1)) 49 0 ((P 49 0) + 1)) (tn (P 48 0))) (hWm : WB (p_sA P)) (hroom : p_sA P 5 (tn (P 48 0)) = 0 → tn (p_sA P 43 0) < 10) : RC m_R_step 5 [] P none (p_R_step P) := by
  intro γ M hR
  refine Run.ofG (by decide) (by simp [cat_int, cat_rf]) (Nat.le_of_ble_eq_true rfl) ?_
  refine g_aload_n d_R_step_0 rfl ?_
  refine r_geti 48 hR (by decide) rfl fl_R_134 rfl d_R_step_1 ?_
  refine g_istore_n d_R_step_4 (by decide) ?_
  refine g_aload_n d_R_step_5 rfl ?_
  refine g_dup d_R_step_6 ?_
  refine r_geti 45 hR (by decide) rfl fl_R_166 rfl d_R_step_7 ?_
  refine g_iconst (v := 1) d_R_step_10 (by decide) ?_
  refine g_iadd d_R_step_11 ?_
  refine r_puti 45 hR (by decide) rfl fl_R_166 (Or.inr (fun r h => by cases h; rfl)) rfl d_R_step_12 (fun M hR => ?_)
  refine g_aload_n d_R_step_15 rfl ?_
  refine r_arr 9 hR (by decide) (by decide) fl_R_34 rfl d_R_step_16 ?_
  refine g_iload_n d_R_step_19 rfl ?_
  refine g_dup2 d_R_step_20 rfl (cat_rf _) ?_
  refine r_iald 9 (tn (P 48 0)) hR (by decide) rfl d_R_step_21 hw (by show tn (P 48 0) < 10; omega) ?_
  refine g_iconst (v := 1) d_R_step_22 (by decide) ?_
  refine g_iadd d_R_step_23 ?_
  refine r_iast 9 (tn (P 48 0)) hR (by decide) rfl d_R_step_24 hw (by show tn (P 48 0) < 10; omega) (fun M hR => ?_)
  refine g_aload_n d_R_step_25 rfl ?_
  refine g_dup d_R_step_26 ?_
  refine r_geti 49 hR (by decide) rfl fl_R_215 rfl d_R_step_27 ?_
  refine g_iconst (v := 1) d_R_step_30 (by decide) ?_
  refine g_iadd d_R_step_31 ?_
  refine r_puti 49 hR (by decide) rfl fl_R_215 (Or.inr (fun r h => by cases h; rfl)) rfl d_R_step_32 (fun M hR => ?_)
  refine g_aload_n d_R_step_35 rfl ?_
  refine r_arr 6 hR (by decide) (by decide) fl_R_25 rfl d_R_step_36 ?_
  refine g_iload_n d_R_step_39 rfl ?_
  refine r_iald 6 (tn (P 48 0)) hR (by decide) rfl d_R_step_40 hw (by show tn (P 48 0) < 10; omega) ?_
  refine g_iconst (v := 1) d_R_step_41 (by decide) ?_
  refine g_icmp_ne 76 d_R_step_42 (by decide) (fun c_42 => ?_) (fun c_42 => ?_)
  · skip
    refine g_aload_n d_R_step_76 rfl ?_
    refine r_arr 11 hR (by decide) (by decide) fl_R_41 rfl d_R_step_77 ?_
    refine g_iload_n d_R_step_80 rfl ?_
    refine r_iald 11 (tn (P 48 0)) hR (by decide) rfl d_R_step_81 hw (by show tn (P 48 0) < 10; omega) ?_
    refine g_if_lt 105 d_R_step_82 (by decide) (fun c_82 => ?_) (fun c_82 => ?_)
    · skip
      refine g_aload_n d_R_step_105 rfl ?_
      refine r_arr 22 hR (by decide) (by decide) fl_R_74 rfl d_R_step_106 ?_
      refine g_iload_n d_R_step_109 rfl ?_
      refine r_iald 22 (tn (P 48 0)) hR (by decide) rfl d_R_step_110 hw (by show tn (P 48 0) < 10; omega) ?_
      have w_1 : sm (P 22 (tn (P 48 0))) 16 := hW 22 (tn (P 48 0))
      have w_1b := w_1.2
      refine g_if_le 135 d_R_step_111 (by decide) (fun c_111 => ?_) (fun c_111 => ?_)
      · skip
        refine g_aload_n d_R_step_135 rfl ?_
        refine g_iload_n d_R_step_136 rfl ?_
        refine r_call [.int (nI (tn (P 48 0)))] hR cw_R_227 cv_R_ends d_R_step_137 rfl (by rw [← (show (P 48 0 : Int32) = nI (tn (P 48 0)) from hw)]; try rfl) ⟨by simp, by simp⟩ (by decide) (c_R_ends _ (tn (P 48 0)) (WB.up (f := 49) (j := 0) (x := (P 49 0) + 1) (WB.up (f := 9) (j := tn (P 48 0)) (x := (P 9 (tn (P 48 0))) + 1) (WB.up (f := 45) (j := 0) (x := (P 45 0) + 1) hW (by first | exact trivial | exact Or.inl rfl | exact Or.inr rfl)) (by first | exact trivial | exact Or.inl rfl | exact Or.inr rfl)) (by first | exact trivial | exact Or.inl rfl | exact Or.inr rfl)) hf (hE c_111).1 (hE c_111).2) (fun M hR => ?_)
        have e_ : p_sA P = p_R_ends (up (up (up P 45 0 ((P 45 0) + 1)) 9 (tn (P 48 0)) ((P 9 (tn (P 48 0))) + 1)) 49 0 ((P 49 0) + 1)) (tn (P 48 0)) := by unfold p_sA; rw [if_neg (show ¬ (P 6 (tn (P 48 0)) = 1) from c_42), if_pos (show P 11 (tn (P 48 0)) < 0 from c_82), if_pos (show P 22 (tn (P 48 0)) ≤ 0 from c_111)]
        exact t_s140 (p_sA P) (tn (P 48 0)) (P 48 0) hWm hw hf hroom (by decide) _ (by rw [e_]; exact hR) (fun M_ h_ => ⟨rfl, h_⟩)
      · have h1_ := ix_gt0 (show sm (P 22 (tn (P 48 0))) 16 from hW 22 (tn (P 48 0))).1 c_111
        refine g_aload_n d_R_step_114 rfl ?_
        refine g_iload_n d_R_step_115 rfl ?_
        refine g_bipush (v := 16) d_R_step_116 (by decide) ?_
        refine g_iload_n d_R_step_118 rfl ?_
        refine g_imul d_R_step_119 ?_
        refine g_aload_n d_R_step_120 rfl ?_
        refine r_arr 22 hR (by decide) (by decide) fl_R_74 rfl d_R_step_121 ?_
        refine g_iload_n d_R_step_124 rfl ?_
        refine r_iald 22 (tn (P 48 0)) hR (by decide) rfl d_R_step_125 hw (by show tn (P 48 0) < 10; omega) ?_
        have w_2 : sm (P 22 (tn (P 48 0))) 16 := hW 22 (tn (P 48 0))
        have w_2b := w_2.2
        refine g_iadd d_R_step_126 ?_
        refine g_iconst (v := 1) d_R_step_127 (by decide) ?_
        refine g_isub d_R_step_128 ?_
        refine r_call [.int (nI (tn (P 48 0))), .int (nI (((16 * (tn (P 48 0))) + (tn (P 22 (tn (P 48 0))))) - 1))] hR cw_R_224 cv_R_comes d_R_step_129 rfl (by rw [← (show (P 48 0 : Int32) = nI (tn (P 48 0)) from hw), ← (show (((16 * (P 48 0)) + (P 22 (tn (P 48 0)))) - 1 : Int32) = nI (((16 * (tn (P 48 0))) + (tn (P 22 (tn (P 48 0))))) - 1) from ix_sub (ix_add (ix_mul rfl hw) w_2.1) rfl (by omega))]; try rfl) ⟨by simp, by simp⟩ (by decide) (c_R_comes _ (tn (P 48 0)) (((16 * (tn (P 48 0))) + (tn (P 22 (tn (P 48 0))))) - 1) (WB.up (f := 49) (j := 0) (x := (P 49 0) + 1) (WB.up (f := 9) (j := tn (P 48 0)) (x := (P 9 (tn (P 48 0))) + 1) (WB.up (f := 45) (j := 0) (x := (P 45 0) + 1) hW (by first | exact trivial | exact Or.inl rfl | exact Or.inr rfl)) (by first | exact trivial | exact Or.inl rfl | exact Or.inr rfl)) (by first | exact trivial | exact Or.inl rfl | exact Or.inr rfl)) hf (hC c_111).1 (hC c_111).2.1 (hC c_111).2.2.1 (hC c_111).2.2.2) (fun M hR => ?_)
        refine g_goto 140 d_R_step_132 (by decide) ?_
        have e_ : p_sA P = p_R_comes (up (up (up P 45 0 ((P 45 0) + 1)) 9 (tn (P 48 0)) ((P 9 (tn (P 48 0))) + 1)) 49 0 ((P 49 0) + 1)) (tn (P 48 0)) (((16 * (tn (P 48 0))) + (tn (P 22 (tn (P 48 0))))) - 1) := by unfold p_sA; rw [if_neg (show ¬ (P 6 (tn (P 48 0)) = 1) from c_42), if_pos (show P 11 (tn (P 48 0)) < 0 from c_82), if_neg (show ¬ (P 22 (tn (P 48 0)) ≤ 0) from c_111)]
        exact t_s140 (p_sA P) (tn (P 48 0)) (P 48 0) hWm hw hf hroom (by decide) _ (by rw [e_]; exact hR) (fun M_ h_ => ⟨rfl, h_⟩)
    · skip
      refine g_aload_n d_R_step_85 rfl ?_
      refine g_iload_n d_R_step_86 rfl ?_
      refine g_aload_n d_R_step_87 rfl ?_
      refine r_arr 11 hR (by decide) (by decide) fl_R_41 rfl d_R_step_88 ?_
      refine g_iload_n d_R_step_91 rfl ?_
      refine r_iald 11 (tn (P 48 0)) hR (by decide) rfl d_R_step_92 hw (by show tn (P 48 0) < 10; omega) ?_
      refine g_aload_n d_R_step_93 rfl ?_
      refine r_arr 12 hR (by decide) (by decide) fl_R_44 rfl d_R_step_94 ?_
      refine g_iload_n d_R_step_97 rfl ?_
      refine r_iald 12 (tn (P 48 0)) hR (by decide) rfl d_R_step_98 hw (by show tn (P 48 0) < 10; omega) ?_
      refine r_call [.int (nI (tn (P 48 0))), .int (nI (tn (P 11 (tn (P 48 0))))), .int (P 12 (tn (P 48 0)))] hR cw_R_221 cv_R_act d_R_step_99 rfl (by rw [← (show (P 48 0 : Int32) = nI (tn (P 48 0)) from hw), ← (show (P 11 (tn (P 48 0)) : Int32) = nI (tn (P 11 (tn (P 48 0)))) from (tn_of c_82))]; try rfl) ⟨by simp, by simp⟩ (by decide) (c_R_act _ (tn (P 48 0)) (tn (P 11 (tn (P 48 0)))) (P 12 (tn (P 48 0))) (WB.up (f := 49) (j := 0) (x := (P 49 0) + 1) (WB.up (f := 9) (j := tn (P 48 0)) (x := (P 9 (tn (P 48 0))) + 1) (WB.up (f := 45) (j := 0) (x := (P 45 0) + 1) hW (by first | exact trivial | exact Or.inl rfl | exact Or.inr rfl)) (by first | exact trivial | exact Or.inl rfl | exact Or.inr rfl)) (by first | exact trivial | exact Or.inl rfl | exact Or.inr rfl)) hf (hA c_82).1 (hA c_82).2.1 (hA c_82).2.2.1 (hA c_82).2.2.2.1 (hA c_82).2.2.2.2.1 (hA c_82).2.2.2.2.2) (fun M hR => ?_)
      refine g_goto 140 d_R_step_102 (by decide) ?_
      have e_ : p_sA P = p_R_act (up (up (up P 45 0 ((P 45 0) + 1)) 9 (tn (P 48 0)) ((P 9 (tn (P 48 0))) + 1)) 49 0 ((P 49 0) + 1)) (tn (P 48 0)) (tn (P 11 (tn (P 48 0)))) (P 12 (tn (P 48 0))) := by unfold p_sA; rw [if_neg (show ¬ (P 6 (tn (P 48 0)) = 1) from c_42), if_neg (show ¬ (P 11 (tn (P 48 0)) < 0) from c_82)]
      exact t_s140 (p_sA P) (tn (P 48 0)) (P 48 0) hWm hw hf hroom (by decide) _ (by rw [e_]; exact hR) (fun M_ h_ => ⟨rfl, h_⟩)
  · skip
    refine g_aload_n d_R_step_45 rfl ?_
    refine r_arr 10 hR (by decide) (by decide) fl_R_37 rfl d_R_step_46 ?_
    refine g_iload_n d_R_step_49 rfl ?_
    refine r_zald 10 (tn (P 48 0)) hR (by decide) rfl d_R_step_50 hw (by show tn (P 48 0) < 10; omega) ?_
    refine g_if_ne 76 d_R_step_51 (by decide) (fun c_51 => ?_) (fun c_51 => ?_)
    · skip
      refine g_aload_n d_R_step_76 rfl ?_
      refine r_arr 11 hR (by decide) (by decide) fl_R_41 rfl d_R_step_77 ?_
      refine g_iload_n d_R_step_80 rfl ?_
      refine r_iald 11 (tn (P 48 0)) hR (by decide) rfl d_R_step_81 hw (by show tn (P 48 0) < 10; omega) ?_
      refine g_if_lt 105 d_R_step_82 (by decide) (fun c_82 => ?_) (fun c_82 => ?_)
      · skip
        refine g_aload_n d_R_step_105 rfl ?_
        refine r_arr 22 hR (by decide) (by decide) fl_R_74 rfl d_R_step_106 ?_
        refine g_iload_n d_R_step_109 rfl ?_
        refine r_iald 22 (tn (P 48 0)) hR (by decide) rfl d_R_step_110 hw (by show tn (P 48 0) < 10; omega) ?_
        have w_3 : sm (P 22 (tn (P 48 0))) 16 := hW 22 (tn (P 48 0))
        have w_3b := w_3.2
        refine g_if_le 135 d_R_step_111 (by decide) (fun c_111 => ?_) (fun c_111 => ?_)
        · skip
          refine g_aload_n d_R_step_135 rfl ?_
          refine g_iload_n d_R_step_136 rfl ?_
          refine r_call [.int (nI (tn (P 48 0)))] hR cw_R_227 cv_R_ends d_R_step_137 rfl (by rw [← (show (P 48 0 : Int32) = nI (tn (P 48 0)) from hw)]; try rfl) ⟨by simp, by simp⟩ (by decide) (c_R_ends _ (tn (P 48 0)) (WB.up (f := 49) (j := 0) (x := (P 49 0) + 1) (WB.up (f := 9) (j := tn (P 48 0)) (x := (P 9 (tn (P 48 0))) + 1) (WB.up (f := 45) (j := 0) (x := (P 45 0) + 1) hW (by first | exact trivial | exact Or.inl rfl | exact Or.inr rfl)) (by first | exact trivial | exact Or.inl rfl | exact Or.inr rfl)) (by first | exact trivial | exact Or.inl rfl | exact Or.inr rfl)) hf (hE c_111).1 (hE c_111).2) (fun M hR => ?_)
          have e_ : p_sA P = p_R_ends (up (up (up P 45 0 ((P 45 0) + 1)) 9 (tn (P 48 0)) ((P 9 (tn (P 48 0))) + 1)) 49 0 ((P 49 0) + 1)) (tn (P 48 0)) := by unfold p_sA; rw [if_pos (show P 6 (tn (P 48 0)) = 1 from c_42), if_neg (show ¬ (P 10 (tn (P 48 0)) = 0) from c_51), if_pos (show P 11 (tn (P 48 0)) < 0 from c_82), if_pos (show P 22 (tn (P 48 0)) ≤ 0 from c_111)]
          exact t_s140 (p_sA P) (tn (P 48 0)) (P 48 0) hWm hw hf hroom (by decide) _ (by rw [e_]; exact hR) (fun M_ h_ => ⟨rfl, h_⟩)
        · have h1_ := ix_gt0 (show sm (P 22 (tn (P 48 0))) 16 from hW 22 (tn (P 48 0))).1 c_111
          refine g_aload_n d_R_step_114 rfl ?_
          refine g_iload_n d_R_step_115 rfl ?_
          refine g_bipush (v := 16) d_R_step_116 (by decide) ?_
          refine g_iload_n d_R_step_118 rfl ?_
          refine g_imul d_R_step_119 ?_
          refine g_aload_n d_R_step_120 rfl ?_
          refine r_arr 22 hR (by decide) (by decide) fl_R_74 rfl d_R_step_121 ?_
          refine g_iload_n d_R_step_124 rfl ?_
          refine r_iald 22 (tn (P 48 0)) hR (by decide) rfl d_R_step_125 hw (by show tn (P 48 0) < 10; omega) ?_
          have w_4 : sm (P 22 (tn (P 48 0))) 16 := hW 22 (tn (P 48 0))
          have w_4b := w_4.2
          refine g_iadd d_R_step_126 ?_
          refine g_iconst (v := 1) d_R_step_127 (by decide) ?_
          refine g_isub d_R_step_128 ?_
          refine r_call [.int (nI (tn (P 48 0))), .int (nI (((16 * (tn (P 48 0))) + (tn (P 22 (tn (P 48 0))))) - 1))] hR cw_R_224 cv_R_comes d_R_step_129 rfl (by rw [← (show (P 48 0 : Int32) = nI (tn (P 48 0)) from hw), ← (show (((16 * (P 48 0)) + (P 22 (tn (P 48 0)))) - 1 : Int32) = nI (((16 * (tn (P 48 0))) + (tn (P 22 (tn (P 48 0))))) - 1) from ix_sub (ix_add (ix_mul rfl hw) w_4.1) rfl (by omega))]; try rfl) ⟨by simp, by simp⟩ (by decide) (c_R_comes _ (tn (P 48 0)) (((16 * (tn (P 48 0))) + (tn (P 22 (tn (P 48 0))))) - 1) (WB.up (f := 49) (j := 0) (x := (P 49 0) + 1) (WB.up (f := 9) (j := tn (P 48 0)) (x := (P 9 (tn (P 48 0))) + 1) (WB.up (f := 45) (j := 0) (x := (P 45 0) + 1) hW (by first | exact trivial | exact Or.inl rfl | exact Or.inr rfl)) (by first | exact trivial | exact Or.inl rfl | exact Or.inr rfl)) (by first | exact trivial | exact Or.inl rfl | exact Or.inr rfl)) hf (hC c_111).1 (hC c_111).2.1 (hC c_111).2.2.1 (hC c_111).2.2.2) (fun M hR => ?_)
          refine g_goto 140 d_R_step_132 (by decide) ?_
          have e_ : p_sA P = p_R_comes (up (up (up P 45 0 ((P 45 0) + 1)) 9 (tn (P 48 0)) ((P 9 (tn (P 48 0))) + 1)) 49 0 ((P 49 0) + 1)) (tn (P 48 0)) (((16 * (tn (P 48 0))) + (tn (P 22 (tn (P 48 0))))) - 1) := by unfold p_sA; rw [if_pos (show P 6 (tn (P 48 0)) = 1 from c_42), if_neg (show ¬ (P 10 (tn (P 48 0)) = 0) from c_51), if_pos (show P 11 (tn (P 48 0)) < 0 from c_82), if_neg (show ¬ (P 22 (tn (P 48 0)) ≤ 0) from c_111)]
          exact t_s140 (p_sA P) (tn (P 48 0)) (P 48 0) hWm hw hf hroom (by decide) _ (by rw [e_]; exact hR) (fun M_ h_ => ⟨rfl, h_⟩)
      · skip
        refine g_aload_n d_R_step_85 rfl ?_
        refine g_iload_n d_R_step_86 rfl ?_
        refine g_aload_n d_R_step_87 rfl ?_
        refine r_arr 11 hR (by decide) (by decide) fl_R_41 rfl d_R_step_88 ?_
        refine g_iload_n d_R_step_91 rfl ?_
        refine r_iald 11 (tn (P 48 0)) hR (by decide) rfl d_R_step_92 hw (by show tn (P 48 0) < 10; omega) ?_
        refine g_aload_n d_R_step_93 rfl ?_
        refine r_arr 12 hR (by decide) (by decide) fl_R_44 rfl d_R_step_94 ?_
        refine g_iload_n d_R_step_97 rfl ?_
        refine r_iald 12 (tn (P 48 0)) hR (by decide) rfl d_R_step_98 hw (by show tn (P 48 0) < 10; omega) ?_
        refine r_call [.int (nI (tn (P 48 0))), .int (nI (tn (P 11 (tn (P 48 0))))), .int (P 12 (tn (P 48 0)))] hR cw_R_221 cv_R_act d_R_step_99 rfl (by rw [← (show (P 48 0 : Int32) = nI (tn (P 48 0)) from hw), ← (show (P 11 (tn (P 48 0)) : Int32) = nI (tn (P 11 (tn (P 48 0)))) from (tn_of c_82))]; try rfl) ⟨by simp, by simp⟩ (by decide) (c_R_act _ (tn (P 48 0)) (tn (P 11 (tn (P 48 0)))) (P 12 (tn (P 48 0))) (WB.up (f := 49) (j := 0) (x := (P 49 0) + 1) (WB.up (f := 9) (j := tn (P 48 0)) (x := (P 9 (tn (P 48 0))) + 1) (WB.up (f := 45) (j := 0) (x := (P 45 0) + 1) hW (by first | exact trivial | exact Or.inl rfl | exact Or.inr rfl)) (by first | exact trivial | exact Or.inl rfl | exact Or.inr rfl)) (by first | exact trivial | exact Or.inl rfl | exact Or.inr rfl)) hf (hA c_82).1 (hA c_82).2.1 (hA c_82).2.2.1 (hA c_82).2.2.2.1 (hA c_82).2.2.2.2.1 (hA c_82).2.2.2.2.2) (fun M hR => ?_)
        refine g_goto 140 d_R_step_102 (by decide) ?_
        have e_ : p_sA P = p_R_act (up (up (up P 45 0 ((P 45 0) + 1)) 9 (tn (P 48 0)) ((P 9 (tn (P 48 0))) + 1)) 49 0 ((P 49 0) + 1)) (tn (P 48 0)) (tn (P 11 (tn (P 48 0)))) (P 12 (tn (P 48 0))) := by unfold p_sA; rw [if_pos (show P 6 (tn (P 48 0)) = 1 from c_42), if_neg (show ¬ (P 10 (tn (P 48 0)) = 0) from c_51), if_neg (show ¬ (P 11 (tn (P 48 0)) < 0) from c_82)]
        exact t_s140 (p_sA P) (tn (P 48 0)) (P 48 0) hWm hw hf hroom (by decide) _ (by rw [e_]; exact hR) (fun M_ h_ => ⟨rfl, h_⟩)
    · skip
      refine g_aload_n d_R_step_54 rfl ?_
      refine r_arr 6 hR (by decide) (by decide) fl_R_25 rfl d_R_step_55 ?_
      refine g_iload_n d_R_step_58 rfl ?_
      refine g_iconst (v := 2) d_R_step_59 (by decide) ?_
      refine r_iast 6 (tn (P 48 0)) hR (by decide) rfl d_R_step_60 hw (by show tn (P 48 0) < 10; omega) (fun M hR => ?_)
      refine g_aload_n d_R_step_61 rfl ?_
      refine g_iload_n d_R_step_62 rfl ?_
      refine g_iconst (v := 3) d_R_step_63 (by decide) ?_
      refine g_aload_n d_R_step_64 rfl ?_
      refine r_arr 7 hR (by decide) (by decide) fl_R_28 rfl d_R_step_65 ?_
      refine g_iload_n d_R_step_68 rfl ?_
      refine r_iald 7 (tn (P 48 0)) hR (by decide) rfl d_R_step_69 hw (by show tn (P 48 0) < 10; omega) ?_
      refine r_call [.int (nI (tn (P 48 0))), .int (3), .int (P 7 (tn (P 48 0)))] hR cw_R_218 cv_R_fail d_R_step_70 rfl (by rw [← (show (P 48 0 : Int32) = nI (tn (P 48 0)) from hw)]; try rfl) ⟨by simp, by simp⟩ (by decide) (c_R_fail _ (tn (P 48 0)) 3 (P 7 (tn (P 48 0))) (by omega)) (fun M hR => ?_)
      refine g_goto 140 d_R_step_73 (by decide) ?_
      have e_ : p_sA P = p_R_fail (up (up (up (up P 45 0 ((P 45 0) + 1)) 9 (tn (P 48 0)) ((P 9 (tn (P 48 0))) + 1)) 49 0 ((P 49 0) + 1)) 6 (tn (P 48 0)) 2) (tn (P 48 0)) 3 (P 7 (tn (P 48 0))) := by unfold p_sA; rw [if_pos (show P 6 (tn (P 48 0)) = 1 from c_42), if_pos (show P 10 (tn (P 48 0)) = 0 from c_51)]
      exact t_s140 (p_sA P) (tn (P 48 0)) (P 48 0) hWm hw hf hroom (by decide) _ (by rw [e_]; exact hR) (fun M_ h_ => ⟨rfl, h_⟩)
