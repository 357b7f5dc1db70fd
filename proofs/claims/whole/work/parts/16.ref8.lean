/-! the reference's methods, further (by program: wip/tools/gen_ref8.py) -/
theorem mk_tn {P : Pst} (h : WB P) (c : tn (P 42 0) < 10) (e v b : Int32) : tn ((p_R_make P e v b) 42 0) = tn (P 42 0) + 1 := tn_inc (show sm (P 42 0) 10 from h 42 0).1 (by omega)
theorem mk_tq {P : Pst} (h : WB P) (c : tn (P 43 0) < 10) (e v b : Int32) : tn ((p_R_make P e v b) 43 0) = tn (P 43 0) + 1 := tn_inc (show sm (P 43 0) 10 from h 43 0).1 (by omega)
def p_R_others (P : Pst) (f : Nat) (kd_ : Int32) (e : Nat) (v : Int32) : Pst := if kd_ = 11 then p_R_register P f (P 1 e) v else if kd_ = 12 then if P 42 0 = 10 then p_R_fail P f 2 (-1) else p_R_give (p_R_make P (P 1 e) v (nI f)) f (a_R_make P (P 1 e) v (nI f)) else if kd_ = 15 then if P 42 0 ≤ 8 then p_R_rest (up (up (p_R_make (up (p_R_make P (P 1 e) v (nI f)) 19 f (a_R_make P (P 1 e) v (nI f))) (P 2 e) v (nI f)) 20 f (a_R_make (up (p_R_make P (P 1 e) v (nI f)) 19 f (a_R_make P (P 1 e) v (nI f))) (P 2 e) v (nI f))) 21 f (-1)) f 3 0 0 else p_R_fail P f 2 (-1) else if a_R_in v 0 ((P 42 0) - 1) = 0 then p_R_fail P f 2 (-2) else if P 5 (tn v) = 2 then if kd_ = 13 then p_R_hand P f (tn v) else p_R_give P f 0 else if kd_ = 13 then p_R_rest P f 1 v 0 else if v = nI f then p_R_give (p_R_strike P (tn v) (nI f)) f 0 else p_R_rest (p_R_give (p_R_strike P (tn v) (nI f)) f 0) f 2 v 0
set_option maxHeartbeats 4000000 in
set_option maxRecDepth 100000 in
theorem c_R_others (P : Pst) (f : Nat) (kd_ : Int32) (e : Nat) (v : Int32) (hW : WB P) (hf : f < 10) (he : e < 40) (hq1 : tn (P 43 0) + 1 ≤ tn (P 42 0)) (he1 : kd_ = 15 → sm (P 1 e) 39) : RC m_R_others 3 [.int (nI f), .int kd_, .int (nI e), .int v] P none (p_R_others P f kd_ e v) := by
  intro γ M hR
  have hb_ : sm (P 42 0) 10 := hW 42 0
  have hbb := hb_.2
  refine Run.ofG (by decide) (by simp [cat_int, cat_rf]) (Nat.le_of_ble_eq_true rfl) ?_
  refine g_iload d_R_others_0 rfl ?_
  refine g_iconst (v := 0) d_R_others_2 (by decide) ?_
  refine g_aload_n d_R_others_3 rfl ?_
  have w_1 : sm (P 42 0) 10 := hW 42 0
  have w_1b := w_1.2
  refine r_geti 42 hR (by decide) rfl fl_R_153 rfl d_R_others_4 ?_
  refine g_iconst (v := 1) d_R_others_7 (by decide) ?_
  refine g_isub d_R_others_8 ?_
  refine g_callS [.int (v), .int (0), .int ((P 42 0) - 1)] cw_R_141 cs_R_in d_R_others_9 rfl rfl ⟨by simp, by simp⟩ (by decide) (Nat.le_refl _) (Nat.le_refl _) (fun _ _ h => h) (c_R_in v 0 ((P 42 0) - 1) _ _) (fun r_ M_ h_ _ => ?_)
  obtain ⟨rfl, rfl⟩ := h_
  refine g_istore d_R_others_12 (by decide) ?_
  refine g_iload_n d_R_others_14 rfl ?_
  refine g_bipush (v := 11) d_R_others_15 (by decide) ?_
  refine g_icmp_ne 36 d_R_others_17 (by decide) (fun c_17 => ?_) (fun c_17 => ?_)
  · skip
    refine g_iload_n d_R_others_36 rfl ?_
    refine g_bipush (v := 12) d_R_others_37 (by decide) ?_
    refine g_icmp_ne 86 d_R_others_39 (by decide) (fun c_39 => ?_) (fun c_39 => ?_)
    · skip
      refine g_iload_n d_R_others_86 rfl ?_
      refine g_bipush (v := 15) d_R_others_87 (by decide) ?_
      refine g_icmp_ne 165 d_R_others_89 (by decide) (fun c_89 => ?_) (fun c_89 => ?_)
      · skip
        refine g_iload d_R_others_165 rfl ?_
        refine g_if_ne 181 d_R_others_167 (by decide) (fun c_167 => ?_) (fun c_167 => ?_)
        · have h1_ := (in_nat1 c_167 (show sm (P 42 0) 10 from hW 42 0).1 (by omega)).2
          refine g_aload_n d_R_others_181 rfl ?_
          refine r_arr 5 hR (by decide) (by decide) fl_R_22 rfl d_R_others_182 ?_
          refine g_iload d_R_others_185 rfl ?_
          refine r_iald 5 (tn v) hR (by decide) rfl d_R_others_187 ((in_nat1 c_167 (show sm (P 42 0) 10 from hW 42 0).1 (by omega)).1) (by show tn v < 10; omega) ?_
          refine g_iconst (v := 2) d_R_others_188 (by decide) ?_
          refine g_icmp_ne 217 d_R_others_189 (by decide) (fun c_189 => ?_) (fun c_189 => ?_)
          · skip
            refine g_iload_n d_R_others_217 rfl ?_
            refine g_bipush (v := 13) d_R_others_218 (by decide) ?_
            refine g_icmp_ne 235 d_R_others_220 (by decide) (fun c_220 => ?_) (fun c_220 => ?_)
            · skip
              refine g_aload_n d_R_others_235 rfl ?_
              refine g_iload d_R_others_236 rfl ?_
              refine g_iload_n d_R_others_238 rfl ?_
              refine r_call [.int (nI (tn v)), .int (nI f)] hR cw_R_190 cv_R_strike d_R_others_239 rfl (by rw [← (show (v : Int32) = nI (tn v) from (in_nat1 c_167 (show sm (P 42 0) 10 from hW 42 0).1 (by omega)).1)]; try rfl) ⟨by simp, by simp⟩ (by decide) (c_R_strike _ (tn v) (nI f) (by omega) (show sm _ 10 from hW 43 0).1 (fun _ => by omega)) (fun M hR => ?_)
              refine g_aload_n d_R_others_242 rfl ?_
              refine g_iload_n d_R_others_243 rfl ?_
              refine g_iconst (v := 0) d_R_others_244 (by decide) ?_
              refine r_call [.int (nI f), .int (0)] hR cw_R_198 cv_R_give d_R_others_245 rfl rfl ⟨by simp, by simp⟩ (by decide) (c_R_give _ f 0 (by omega)) (fun M hR => ?_)
              refine g_iload d_R_others_248 rfl ?_
              refine g_iload_n d_R_others_250 rfl ?_
              refine g_icmp_eq 263 d_R_others_251 (by decide) (fun c_251 => ?_) (fun c_251 => ?_)
              · skip
                exact g_return d_R_others_263 rfl ⟨rfl, by unfold p_R_others; rw [if_neg (show ¬ (kd_ = 11) from c_17), if_neg (show ¬ (kd_ = 12) from c_39), if_neg (show ¬ (kd_ = 15) from c_89), if_neg (show ¬ (a_R_in v 0 ((P 42 0) - 1) = 0) from c_167), if_neg (show ¬ (P 5 (tn v) = 2) from c_189), if_neg (show ¬ (kd_ = 13) from c_220), if_pos (show v = nI f from c_251)]; exact hR⟩
              · skip
                refine g_aload_n d_R_others_254 rfl ?_
                refine g_iload_n d_R_others_255 rfl ?_
                refine g_iconst (v := 2) d_R_others_256 (by decide) ?_
                refine g_iload d_R_others_257 rfl ?_
                refine g_iconst (v := 0) d_R_others_259 (by decide) ?_
                refine r_call [.int (nI f), .int (2), .int (v), .int (0)] hR cw_R_240 cv_R_rest d_R_others_260 rfl rfl ⟨by simp, by simp⟩ (by decide) (c_R_rest _ f 2 v 0 (by omega)) (fun M hR => ?_)
                exact g_return d_R_others_263 rfl ⟨rfl, by unfold p_R_others; rw [if_neg (show ¬ (kd_ = 11) from c_17), if_neg (show ¬ (kd_ = 12) from c_39), if_neg (show ¬ (kd_ = 15) from c_89), if_neg (show ¬ (a_R_in v 0 ((P 42 0) - 1) = 0) from c_167), if_neg (show ¬ (P 5 (tn v) = 2) from c_189), if_neg (show ¬ (kd_ = 13) from c_220), if_neg (show ¬ (v = nI f) from c_251)]; exact hR⟩
            · skip
              refine g_aload_n d_R_others_223 rfl ?_
              refine g_iload_n d_R_others_224 rfl ?_
              refine g_iconst (v := 1) d_R_others_225 (by decide) ?_
              refine g_iload d_R_others_226 rfl ?_
              refine g_iconst (v := 0) d_R_others_228 (by decide) ?_
              refine r_call [.int (nI f), .int (1), .int (v), .int (0)] hR cw_R_240 cv_R_rest d_R_others_229 rfl rfl ⟨by simp, by simp⟩ (by decide) (c_R_rest _ f 1 v 0 (by omega)) (fun M hR => ?_)
              refine g_goto 263 d_R_others_232 (by decide) ?_
              exact g_return d_R_others_263 rfl ⟨rfl, by unfold p_R_others; rw [if_neg (show ¬ (kd_ = 11) from c_17), if_neg (show ¬ (kd_ = 12) from c_39), if_neg (show ¬ (kd_ = 15) from c_89), if_neg (show ¬ (a_R_in v 0 ((P 42 0) - 1) = 0) from c_167), if_neg (show ¬ (P 5 (tn v) = 2) from c_189), if_pos (show kd_ = 13 from c_220)]; exact hR⟩
          · skip
            refine g_iload_n d_R_others_192 rfl ?_
            refine g_bipush (v := 13) d_R_others_193 (by decide) ?_
            refine g_icmp_ne 208 d_R_others_195 (by decide) (fun c_195 => ?_) (fun c_195 => ?_)
            · skip
              refine g_aload_n d_R_others_208 rfl ?_
              refine g_iload_n d_R_others_209 rfl ?_
              refine g_iconst (v := 0) d_R_others_210 (by decide) ?_
              refine r_call [.int (nI f), .int (0)] hR cw_R_198 cv_R_give d_R_others_211 rfl rfl ⟨by simp, by simp⟩ (by decide) (c_R_give _ f 0 (by omega)) (fun M hR => ?_)
              refine g_goto 263 d_R_others_214 (by decide) ?_
              exact g_return d_R_others_263 rfl ⟨rfl, by unfold p_R_others; rw [if_neg (show ¬ (kd_ = 11) from c_17), if_neg (show ¬ (kd_ = 12) from c_39), if_neg (show ¬ (kd_ = 15) from c_89), if_neg (show ¬ (a_R_in v 0 ((P 42 0) - 1) = 0) from c_167), if_pos (show P 5 (tn v) = 2 from c_189), if_neg (show ¬ (kd_ = 13) from c_195)]; exact hR⟩
            · skip
              refine g_aload_n d_R_others_198 rfl ?_
              refine g_iload_n d_R_others_199 rfl ?_
              refine g_iload d_R_others_200 rfl ?_
              refine r_call [.int (nI f), .int (nI (tn v))] hR cw_R_249 cv_R_hand d_R_others_202 rfl (by rw [← (show (v : Int32) = nI (tn v) from (in_nat1 c_167 (show sm (P 42 0) 10 from hW 42 0).1 (by omega)).1)]; try rfl) ⟨by simp, by simp⟩ (by decide) (c_R_hand _ f (tn v) hW (by omega) (by omega)) (fun M hR => ?_)
              refine g_goto 263 d_R_others_205 (by decide) ?_
              exact g_return d_R_others_263 rfl ⟨rfl, by unfold p_R_others; rw [if_neg (show ¬ (kd_ = 11) from c_17), if_neg (show ¬ (kd_ = 12) from c_39), if_neg (show ¬ (kd_ = 15) from c_89), if_neg (show ¬ (a_R_in v 0 ((P 42 0) - 1) = 0) from c_167), if_pos (show P 5 (tn v) = 2 from c_189), if_pos (show kd_ = 13 from c_195)]; exact hR⟩
        · skip
          refine g_aload_n d_R_others_170 rfl ?_
          refine g_iload_n d_R_others_171 rfl ?_
          refine g_iconst (v := 2) d_R_others_172 (by decide) ?_
          refine g_bipush (v := -2) d_R_others_173 (by decide) ?_
          refine r_call [.int (nI f), .int (2), .int (-2)] hR cw_R_218 cv_R_fail d_R_others_175 rfl rfl ⟨by simp, by simp⟩ (by decide) (c_R_fail _ f 2 (-2) (by omega)) (fun M hR => ?_)
          refine g_goto 263 d_R_others_178 (by decide) ?_
          exact g_return d_R_others_263 rfl ⟨rfl, by unfold p_R_others; rw [if_neg (show ¬ (kd_ = 11) from c_17), if_neg (show ¬ (kd_ = 12) from c_39), if_neg (show ¬ (kd_ = 15) from c_89), if_pos (show a_R_in v 0 ((P 42 0) - 1) = 0 from c_167)]; exact hR⟩
      · skip
        refine g_aload_n d_R_others_92 rfl ?_
        have w_2 : sm (P 42 0) 10 := hW 42 0
        have w_2b := w_2.2
        refine r_geti 42 hR (by decide) rfl fl_R_153 rfl d_R_others_93 ?_
        refine g_bipush (v := 8) d_R_others_96 (by decide) ?_
        refine g_icmp_le 109 d_R_others_98 (by decide) (fun c_98 => ?_) (fun c_98 => ?_)
        · have h8_ : tn (P 42 0) ≤ 8 := ix_le_of (b := 8) hb_.1 rfl (by omega) (by omega) c_98; have h7_ : tn (P 42 0) < 10 := (by omega); have h6_ : tn (P 43 0) < 10 := (by omega)
          refine g_aload_n d_R_others_109 rfl ?_
          refine r_arr 19 hR (by decide) (by decide) fl_R_65 rfl d_R_others_110 ?_
          refine g_iload_n d_R_others_113 rfl ?_
          refine g_aload_n d_R_others_114 rfl ?_
          refine g_aload_n d_R_others_115 rfl ?_
          refine r_arr 1 hR (by decide) (by decide) fl_R_13 rfl d_R_others_116 ?_
          refine g_iload_n d_R_others_119 rfl ?_
          refine r_iald 1 e hR (by decide) rfl d_R_others_120 rfl (by show e < 40; omega) ?_
          refine g_iload d_R_others_121 rfl ?_
          refine g_iload_n d_R_others_123 rfl ?_
          refine r_call [.int (P 1 e), .int (v), .int (nI f)] hR cw_R_175 cv_R_make d_R_others_124 rfl rfl ⟨by simp [cat_rf, cat_int], by simp⟩ (by decide) (c_R_make _ (P 1 e) v (nI f) (show sm _ 10 from hW 42 0).1 h7_ (show sm _ 10 from hW 43 0).1 h6_) (fun M hR => ?_)
          refine r_iast 19 f hR (by decide) rfl d_R_others_127 rfl (by show f < 10; omega) (fun M hR => ?_)
          refine g_aload_n d_R_others_128 rfl ?_
          refine r_arr 20 hR (by decide) (by decide) fl_R_68 rfl d_R_others_129 ?_
          refine g_iload_n d_R_others_132 rfl ?_
          refine g_aload_n d_R_others_133 rfl ?_
          refine g_aload_n d_R_others_134 rfl ?_
          refine r_arr 2 hR (by decide) (by decide) fl_R_16 rfl d_R_others_135 ?_
          refine g_iload_n d_R_others_138 rfl ?_
          refine r_iald 2 e hR (by decide) rfl d_R_others_139 rfl (by show e < 40; omega) ?_
          refine g_iload d_R_others_140 rfl ?_
          refine g_iload_n d_R_others_142 rfl ?_
          refine r_call [.int (P 2 e), .int (v), .int (nI f)] hR cw_R_175 cv_R_make d_R_others_143 rfl rfl ⟨by simp [cat_rf, cat_int], by simp⟩ (by decide) (c_R_make _ (P 2 e) v (nI f) (show sm _ 10 from (wb_make (e := P 1 e) (v := v) (b := nI f) hW (Or.inr (he1 c_89)) h7_ h6_) 42 0).1 (by show tn ((p_R_make P (P 1 e) v (nI f)) 42 0) < 10; rw [mk_tn hW h7_]; omega) (show sm _ 10 from (wb_make (e := P 1 e) (v := v) (b := nI f) hW (Or.inr (he1 c_89)) h7_ h6_) 43 0).1 (by show tn ((p_R_make P (P 1 e) v (nI f)) 43 0) < 10; rw [mk_tq hW h6_]; omega)) (fun M hR => ?_)
          refine r_iast 20 f hR (by decide) rfl d_R_others_146 rfl (by show f < 10; omega) (fun M hR => ?_)
          refine g_aload_n d_R_others_147 rfl ?_
          refine r_arr 21 hR (by decide) (by decide) fl_R_71 rfl d_R_others_148 ?_
          refine g_iload_n d_R_others_151 rfl ?_
          refine g_iconst (v := -1) d_R_others_152 (by decide) ?_
          refine r_iast 21 f hR (by decide) rfl d_R_others_153 rfl (by show f < 10; omega) (fun M hR => ?_)
          refine g_aload_n d_R_others_154 rfl ?_
          refine g_iload_n d_R_others_155 rfl ?_
          refine g_iconst (v := 3) d_R_others_156 (by decide) ?_
          refine g_iconst (v := 0) d_R_others_157 (by decide) ?_
          refine g_iconst (v := 0) d_R_others_158 (by decide) ?_
          refine r_call [.int (nI f), .int (3), .int (0), .int (0)] hR cw_R_240 cv_R_rest d_R_others_159 rfl rfl ⟨by simp, by simp⟩ (by decide) (c_R_rest _ f 3 0 0 (by omega)) (fun M hR => ?_)
          refine g_goto 263 d_R_others_162 (by decide) ?_
          exact g_return d_R_others_263 rfl ⟨rfl, by unfold p_R_others; rw [if_neg (show ¬ (kd_ = 11) from c_17), if_neg (show ¬ (kd_ = 12) from c_39), if_pos (show kd_ = 15 from c_89), if_pos (show P 42 0 ≤ 8 from c_98)]; exact hR⟩
        · skip
          refine g_aload_n d_R_others_101 rfl ?_
          refine g_iload_n d_R_others_102 rfl ?_
          refine g_iconst (v := 2) d_R_others_103 (by decide) ?_
          refine g_iconst (v := -1) d_R_others_104 (by decide) ?_
          refine r_call [.int (nI f), .int (2), .int (-1)] hR cw_R_218 cv_R_fail d_R_others_105 rfl rfl ⟨by simp, by simp⟩ (by decide) (c_R_fail _ f 2 (-1) (by omega)) (fun M hR => ?_)
          exact g_return d_R_others_108 rfl ⟨rfl, by unfold p_R_others; rw [if_neg (show ¬ (kd_ = 11) from c_17), if_neg (show ¬ (kd_ = 12) from c_39), if_pos (show kd_ = 15 from c_89), if_neg (show ¬ (P 42 0 ≤ 8) from c_98)]; exact hR⟩
    · skip
      refine g_aload_n d_R_others_42 rfl ?_
      have w_3 : sm (P 42 0) 10 := hW 42 0
      have w_3b := w_3.2
      refine r_geti 42 hR (by decide) rfl fl_R_153 rfl d_R_others_43 ?_
      refine g_bipush (v := 10) d_R_others_46 (by decide) ?_
      refine g_icmp_ne 61 d_R_others_48 (by decide) (fun c_48 => ?_) (fun c_48 => ?_)
      · have h8_ : tn (P 42 0) < 10 := ne_lt hb_ (rfl : (10 : Int32) = nI 10) c_48
        refine g_aload_n d_R_others_61 rfl ?_
        refine g_aload_n d_R_others_62 rfl ?_
        refine r_arr 1 hR (by decide) (by decide) fl_R_13 rfl d_R_others_63 ?_
        refine g_iload_n d_R_others_66 rfl ?_
        refine r_iald 1 e hR (by decide) rfl d_R_others_67 rfl (by show e < 40; omega) ?_
        refine g_iload d_R_others_68 rfl ?_
        refine g_iload_n d_R_others_70 rfl ?_
        refine r_call [.int (P 1 e), .int (v), .int (nI f)] hR cw_R_175 cv_R_make d_R_others_71 rfl rfl ⟨by simp, by simp⟩ (by decide) (c_R_make _ (P 1 e) v (nI f) (show sm _ 10 from hW 42 0).1 (by omega) (show sm _ 10 from hW 43 0).1 (by omega)) (fun M hR => ?_)
        refine g_istore d_R_others_74 (by decide) ?_
        refine g_aload_n d_R_others_76 rfl ?_
        refine g_iload_n d_R_others_77 rfl ?_
        refine g_iload d_R_others_78 rfl ?_
        refine r_call [.int (nI f), .int (a_R_make P (P 1 e) v (nI f))] hR cw_R_198 cv_R_give d_R_others_80 rfl rfl ⟨by simp, by simp⟩ (by decide) (c_R_give _ f (a_R_make P (P 1 e) v (nI f)) (by omega)) (fun M hR => ?_)
        refine g_goto 263 d_R_others_83 (by decide) ?_
        exact g_return d_R_others_263 rfl ⟨rfl, by unfold p_R_others; rw [if_neg (show ¬ (kd_ = 11) from c_17), if_pos (show kd_ = 12 from c_39), if_neg (show ¬ (P 42 0 = 10) from c_48)]; exact hR⟩
      · skip
        refine g_aload_n d_R_others_51 rfl ?_
        refine g_iload_n d_R_others_52 rfl ?_
        refine g_iconst (v := 2) d_R_others_53 (by decide) ?_
        refine g_iconst (v := -1) d_R_others_54 (by decide) ?_
        refine r_call [.int (nI f), .int (2), .int (-1)] hR cw_R_218 cv_R_fail d_R_others_55 rfl rfl ⟨by simp, by simp⟩ (by decide) (c_R_fail _ f 2 (-1) (by omega)) (fun M hR => ?_)
        refine g_goto 263 d_R_others_58 (by decide) ?_
        exact g_return d_R_others_263 rfl ⟨rfl, by unfold p_R_others; rw [if_neg (show ¬ (kd_ = 11) from c_17), if_pos (show kd_ = 12 from c_39), if_pos (show P 42 0 = 10 from c_48)]; exact hR⟩
  · skip
    refine g_aload_n d_R_others_20 rfl ?_
    refine g_iload_n d_R_others_21 rfl ?_
    refine g_aload_n d_R_others_22 rfl ?_
    refine r_arr 1 hR (by decide) (by decide) fl_R_13 rfl d_R_others_23 ?_
    refine g_iload_n d_R_others_26 rfl ?_
    refine r_iald 1 e hR (by decide) rfl d_R_others_27 rfl (by show e < 40; omega) ?_
    refine g_iload d_R_others_28 rfl ?_
    refine r_call [.int (nI f), .int (P 1 e), .int (v)] hR cw_R_246 cv_R_register d_R_others_30 rfl rfl ⟨by simp, by simp⟩ (by decide) (c_R_register _ f (P 1 e) v hW (by omega)) (fun M hR => ?_)
    refine g_goto 263 d_R_others_33 (by decide) ?_
    exact g_return d_R_others_263 rfl ⟨rfl, by unfold p_R_others; rw [if_pos (show kd_ = 11 from c_17)]; exact hR⟩

def p_R_comes (P : Pst) (f : Nat) (q : Nat) : Pst := if P 14 f = 0 then if P 25 q = 9 then p_R_close (up P 32 q ((P 32 q) ||| 0)) f q else if P 23 q = 4 then p_R_does (up P 22 f ((P 22 f) - 1)) f (P 2 (tn (P 24 q))) (P 13 f) else if P 23 q = 5 then p_R_does (up P 22 f ((P 22 f) - 1)) f (P 2 (tn (P 24 q))) (P 13 f) else if P 23 q = 6 then p_R_closes (up (up (up P 29 (4 * q) (P 2 (tn (P 24 q)))) 30 (4 * q) (P 26 q)) 28 q 1) f q else if P 23 q = 7 then if P 25 q = 0 then p_R_does (up (up (up P 10 f (P 31 q)) 25 q 1) 26 q (P 13 f)) f (P 2 (tn (P 24 q))) (P 13 f) else p_R_closes (up (up (up P 29 (4 * q) (P 3 (tn (P 24 q)))) 30 (4 * q) (P 26 q)) 28 q 1) f q else if P 23 q = 8 then up (up P 22 f ((P 22 f) - 1)) 10 f (P 31 q) else if P 23 q = 9 then up (up P 22 f ((P 22 f) - 1)) 10 f (P 31 q) else p_R_closes P f q else if P 33 f = 1 then if P 34 (9 * f) = 1 then if P 25 q = 9 then if P 32 q = 0 then p_R_close (up (p_R_copy P f (10 + q)) 32 q (((p_R_copy P f (10 + q)) 32 q) ||| 1)) f q else p_R_close (up (p_R_join P (10 + q) f 4) 32 q (((p_R_join P (10 + q) f 4) 32 q) ||| 1)) f q else if P 23 q = 4 then if P 23 q = 5 then p_R_does (up P 22 f ((P 22 f) - 1)) f (P 3 (tn (P 24 q))) (P 35 (9 * f)) else up P 22 f ((P 22 f) - 1) else if P 23 q = 5 then p_R_does (up P 22 f ((P 22 f) - 1)) f (P 3 (tn (P 24 q))) (P 35 (9 * f)) else if P 23 q = 6 then p_R_closes (up (up (up P 29 (4 * q) (P 2 (tn (P 24 q)))) 30 (4 * q) (P 26 q)) 28 q 1) f q else if P 23 q = 7 then if P 25 q = 0 then up (up P 10 f (P 31 q)) 22 f ((P 22 f) - 1) else p_R_closes (up (up (up P 29 (4 * q) (P 3 (tn (P 24 q)))) 30 (4 * q) (P 26 q)) 28 q 1) f q else if P 23 q = 8 then up (up P 22 f ((P 22 f) - 1)) 10 f (P 31 q) else if P 23 q = 9 then up (up P 22 f ((P 22 f) - 1)) 10 f (P 31 q) else p_R_closes P f q else if P 25 q = 9 then if P 32 q = 0 then p_R_close (up (p_R_copy P f (10 + q)) 32 q (((p_R_copy P f (10 + q)) 32 q) ||| 1)) f q else p_R_close (up (p_R_join P (10 + q) f 4) 32 q (((p_R_join P (10 + q) f 4) 32 q) ||| 1)) f q else if P 23 q = 4 then if P 23 q = 5 then up P 22 f ((P 22 f) - 1) else up P 22 f ((P 22 f) - 1) else if P 23 q = 5 then up P 22 f ((P 22 f) - 1) else if P 23 q = 6 then p_R_closes (up (up (up P 29 (4 * q) (P 2 (tn (P 24 q)))) 30 (4 * q) (P 26 q)) 28 q 1) f q else if P 23 q = 7 then if P 25 q = 0 then up (up P 10 f (P 31 q)) 22 f ((P 22 f) - 1) else p_R_closes (up (up (up P 29 (4 * q) (P 3 (tn (P 24 q)))) 30 (4 * q) (P 26 q)) 28 q 1) f q else if P 23 q = 8 then up (up P 22 f ((P 22 f) - 1)) 10 f (P 31 q) else if P 23 q = 9 then up (up P 22 f ((P 22 f) - 1)) 10 f (P 31 q) else p_R_closes P f q else if P 25 q = 9 then if P 32 q = 0 then p_R_close (up (p_R_copy P f (10 + q)) 32 q (((p_R_copy P f (10 + q)) 32 q) ||| 1)) f q else p_R_close (up (p_R_join P (10 + q) f 4) 32 q (((p_R_join P (10 + q) f 4) 32 q) ||| 1)) f q else if P 23 q = 4 then if P 23 q = 5 then up P 22 f ((P 22 f) - 1) else up P 22 f ((P 22 f) - 1) else if P 23 q = 5 then up P 22 f ((P 22 f) - 1) else if P 23 q = 6 then p_R_closes (up (up (up P 29 (4 * q) (P 2 (tn (P 24 q)))) 30 (4 * q) (P 26 q)) 28 q 1) f q else if P 23 q = 7 then if P 25 q = 0 then up (up P 10 f (P 31 q)) 22 f ((P 22 f) - 1) else p_R_closes (up (up (up P 29 (4 * q) (P 3 (tn (P 24 q)))) 30 (4 * q) (P 26 q)) 28 q 1) f q else if P 23 q = 8 then up (up P 22 f ((P 22 f) - 1)) 10 f (P 31 q) else if P 23 q = 9 then up (up P 22 f ((P 22 f) - 1)) 10 f (P 31 q) else p_R_closes P f q
set_option maxHeartbeats 4000000 in
set_option maxRecDepth 100000 in
theorem c_R_comes (P : Pst) (f : Nat) (q : Nat) (hW : WB P) (hf : f < 10) (hk : q < 160) (hd1 : 1 ≤ tn (P 22 f)) (he2 : P 23 q = 6 → sm (P 2 (tn (P 24 q))) 39) (he3 : P 23 q = 7 → sm (P 3 (tn (P 24 q))) 39) : RC m_R_comes 3 [.int (nI f), .int (nI q)] P none (p_R_comes P f q) := by
  intro γ M hR
  refine Run.ofG (by decide) (by simp [cat_int, cat_rf]) (Nat.le_of_ble_eq_true rfl) ?_
  refine g_aload_n d_R_comes_0 rfl ?_
  refine r_arr 14 hR (by decide) (by decide) fl_R_50 rfl d_R_comes_1 ?_
  refine g_iload_n d_R_comes_4 rfl ?_
  refine r_zald 14 f hR (by decide) rfl d_R_comes_5 rfl (by show f < 10; omega) ?_
  refine g_if_ne 13 d_R_comes_6 (by decide) (fun c_6 => ?_) (fun c_6 => ?_)
  · skip
    refine g_iconst (v := 0) d_R_comes_13 (by decide) ?_
    refine g_istore_n d_R_comes_14 (by decide) ?_
    refine g_aload_n d_R_comes_15 rfl ?_
    refine r_arr 14 hR (by decide) (by decide) fl_R_50 rfl d_R_comes_16 ?_
    refine g_iload_n d_R_comes_19 rfl ?_
    refine r_zald 14 f hR (by decide) rfl d_R_comes_20 rfl (by show f < 10; omega) ?_
    refine g_if_eq 51 d_R_comes_21 (by decide) (fun c_21 => ?_) (fun c_21 => ?_)
    · exact absurd (show P 14 f = 0 from c_21) c_6
    · skip
      refine g_aload_n d_R_comes_24 rfl ?_
      refine r_arr 33 hR (by decide) (by decide) fl_R_107 rfl d_R_comes_25 ?_
      refine g_iload_n d_R_comes_28 rfl ?_
      refine r_iald 33 f hR (by decide) rfl d_R_comes_29 rfl (by show f < 171; omega) ?_
      have w_1 : sm (P 33 f) 9 := hW 33 f
      have w_1b := w_1.2
      refine g_iconst (v := 1) d_R_comes_30 (by decide) ?_
      refine g_icmp_ne 51 d_R_comes_31 (by decide) (fun c_31 => ?_) (fun c_31 => ?_)
      · skip
        refine g_iconst (v := 0) d_R_comes_51 (by decide) ?_
        refine g_istore d_R_comes_52 (by decide) ?_
        refine g_aload_n d_R_comes_54 rfl ?_
        refine r_arr 24 hR (by decide) (by decide) fl_R_80 rfl d_R_comes_55 ?_
        refine g_iload_n d_R_comes_58 rfl ?_
        refine r_iald 24 q hR (by decide) rfl d_R_comes_59 rfl (by show q < 160; omega) ?_
        have w_2 : sm (P 24 q) 39 := hW 24 q
        have w_2b := w_2.2
        refine g_istore d_R_comes_60 (by decide) ?_
        refine g_aload_n d_R_comes_62 rfl ?_
        refine r_arr 25 hR (by decide) (by decide) fl_R_83 rfl d_R_comes_63 ?_
        refine g_iload_n d_R_comes_66 rfl ?_
        refine r_iald 25 q hR (by decide) rfl d_R_comes_67 rfl (by show q < 160; omega) ?_
        refine g_bipush (v := 9) d_R_comes_68 (by decide) ?_
        refine g_icmp_ne 137 d_R_comes_70 (by decide) (fun c_70 => ?_) (fun c_70 => ?_)
        · skip
          refine g_aload_n d_R_comes_137 rfl ?_
          refine r_arr 23 hR (by decide) (by decide) fl_R_77 rfl d_R_comes_138 ?_
          refine g_iload_n d_R_comes_141 rfl ?_
          refine r_iald 23 q hR (by decide) rfl d_R_comes_142 rfl (by show q < 160; omega) ?_
          by_cases c_143_4 : P 23 q = 4
          · refine g_tableIn 180 d_R_comes_143 (by show ¬ (P 23 q).toInt < 4; rw [c_143_4]; decide) (by show ¬ 9 < (P 23 q).toInt; rw [c_143_4]; decide) (by show _[((P 23 q).toInt - 4).toNat]? = _; rw [c_143_4]; rfl) (by decide) ?_
            refine g_aload_n d_R_comes_180 rfl ?_
            refine r_arr 22 hR (by decide) (by decide) fl_R_74 rfl d_R_comes_181 ?_
            refine g_iload_n d_R_comes_184 rfl ?_
            refine g_dup2 d_R_comes_185 rfl (cat_rf _) ?_
            refine r_iald 22 f hR (by decide) rfl d_R_comes_186 rfl (by show f < 10; omega) ?_
            have w_3 : sm (P 22 f) 16 := hW 22 f
            have w_3b := w_3.2
            refine g_iconst (v := 1) d_R_comes_187 (by decide) ?_
            refine g_isub d_R_comes_188 ?_
            refine r_iast 22 f hR (by decide) rfl d_R_comes_189 rfl (by show f < 10; omega) (fun M hR => ?_)
            refine g_iload_n d_R_comes_190 rfl ?_
            refine g_if_eq 215 d_R_comes_191 (by decide) (fun c_191 => ?_) (fun c_191 => ?_)
            · skip
              refine g_aload_n d_R_comes_215 rfl ?_
              refine r_arr 23 hR (by decide) (by decide) fl_R_77 rfl d_R_comes_216 ?_
              refine g_iload_n d_R_comes_219 rfl ?_
              refine r_iald 23 q hR (by decide) rfl d_R_comes_220 rfl (by show q < 160; omega) ?_
              refine g_iconst (v := 5) d_R_comes_221 (by decide) ?_
              refine g_icmp_ne 455 d_R_comes_222 (by decide) (fun c_222 => ?_) (fun c_222 => ?_)
              · skip
                exact g_return d_R_comes_455 rfl ⟨rfl, by unfold p_R_comes; rw [if_neg (show ¬ (P 14 f = 0) from c_6), if_neg (show ¬ (P 33 f = 1) from c_31), if_neg (show ¬ (P 25 q = 9) from c_70), if_pos (show P 23 q = 4 from c_143_4), if_neg (show ¬ (P 23 q = 5) from c_222)]; exact hR⟩
              · skip
                refine g_iload d_R_comes_225 rfl ?_
                refine g_if_eq 455 d_R_comes_227 (by decide) (fun c_227 => ?_) (fun c_227 => ?_)
                · skip
                  exact g_return d_R_comes_455 rfl ⟨rfl, by unfold p_R_comes; rw [if_neg (show ¬ (P 14 f = 0) from c_6), if_neg (show ¬ (P 33 f = 1) from c_31), if_neg (show ¬ (P 25 q = 9) from c_70), if_pos (show P 23 q = 4 from c_143_4), if_pos (show P 23 q = 5 from c_222)]; exact hR⟩
                · exact absurd c_227 (by first | decide | simp_all)
            · exact absurd c_191 (by first | decide | simp_all)
          by_cases c_143_5 : P 23 q = 5
          · refine g_tableIn 180 d_R_comes_143 (by show ¬ (P 23 q).toInt < 4; rw [c_143_5]; decide) (by show ¬ 9 < (P 23 q).toInt; rw [c_143_5]; decide) (by show _[((P 23 q).toInt - 4).toNat]? = _; rw [c_143_5]; rfl) (by decide) ?_
            refine g_aload_n d_R_comes_180 rfl ?_
            refine r_arr 22 hR (by decide) (by decide) fl_R_74 rfl d_R_comes_181 ?_
            refine g_iload_n d_R_comes_184 rfl ?_
            refine g_dup2 d_R_comes_185 rfl (cat_rf _) ?_
            refine r_iald 22 f hR (by decide) rfl d_R_comes_186 rfl (by show f < 10; omega) ?_
            have w_4 : sm (P 22 f) 16 := hW 22 f
            have w_4b := w_4.2
            refine g_iconst (v := 1) d_R_comes_187 (by decide) ?_
            refine g_isub d_R_comes_188 ?_
            refine r_iast 22 f hR (by decide) rfl d_R_comes_189 rfl (by show f < 10; omega) (fun M hR => ?_)
            refine g_iload_n d_R_comes_190 rfl ?_
            refine g_if_eq 215 d_R_comes_191 (by decide) (fun c_191 => ?_) (fun c_191 => ?_)
            · skip
              refine g_aload_n d_R_comes_215 rfl ?_
              refine r_arr 23 hR (by decide) (by decide) fl_R_77 rfl d_R_comes_216 ?_
              refine g_iload_n d_R_comes_219 rfl ?_
              refine r_iald 23 q hR (by decide) rfl d_R_comes_220 rfl (by show q < 160; omega) ?_
              refine g_iconst (v := 5) d_R_comes_221 (by decide) ?_
              refine g_icmp_ne 455 d_R_comes_222 (by decide) (fun c_222 => ?_) (fun c_222 => ?_)
              · exact absurd (show P 23 q = 5 from c_143_5) c_222
              · skip
                refine g_iload d_R_comes_225 rfl ?_
                refine g_if_eq 455 d_R_comes_227 (by decide) (fun c_227 => ?_) (fun c_227 => ?_)
                · skip
                  exact g_return d_R_comes_455 rfl ⟨rfl, by unfold p_R_comes; rw [if_neg (show ¬ (P 14 f = 0) from c_6), if_neg (show ¬ (P 33 f = 1) from c_31), if_neg (show ¬ (P 25 q = 9) from c_70), if_neg (show ¬ (P 23 q = 4) from c_143_4), if_pos (show P 23 q = 5 from c_143_5)]; exact hR⟩
                · exact absurd c_227 (by first | decide | simp_all)
            · exact absurd c_191 (by first | decide | simp_all)
          by_cases c_143_6 : P 23 q = 6
          · refine g_tableIn 402 d_R_comes_143 (by show ¬ (P 23 q).toInt < 4; rw [c_143_6]; decide) (by show ¬ 9 < (P 23 q).toInt; rw [c_143_6]; decide) (by show _[((P 23 q).toInt - 4).toNat]? = _; rw [c_143_6]; rfl) (by decide) ?_
            refine g_aload_n d_R_comes_402 rfl ?_
            refine r_arr 23 hR (by decide) (by decide) fl_R_77 rfl d_R_comes_403 ?_
            refine g_iload_n d_R_comes_406 rfl ?_
            refine r_iald 23 q hR (by decide) rfl d_R_comes_407 rfl (by show q < 160; omega) ?_
            refine g_bipush (v := 6) d_R_comes_408 (by decide) ?_
            refine g_icmp_ne 449 d_R_comes_410 (by decide) (fun c_410 => ?_) (fun c_410 => ?_)
            · exact absurd (show P 23 q = 6 from c_143_6) c_410
            · skip
              refine g_aload_n d_R_comes_413 rfl ?_
              refine r_arr 29 hR (by decide) (by decide) fl_R_95 rfl d_R_comes_414 ?_
              refine g_iconst (v := 4) d_R_comes_417 (by decide) ?_
              refine g_iload_n d_R_comes_418 rfl ?_
              refine g_imul d_R_comes_419 ?_
              refine g_aload_n d_R_comes_420 rfl ?_
              refine r_arr 2 hR (by decide) (by decide) fl_R_16 rfl d_R_comes_421 ?_
              refine g_iload d_R_comes_424 rfl ?_
              refine r_iald 2 (tn (P 24 q)) hR (by decide) rfl d_R_comes_426 w_2.1 (by show tn (P 24 q) < 40; omega) ?_
              refine r_iast 29 (4 * q) hR (by decide) rfl d_R_comes_427 (ix_mul rfl rfl) (by show 4 * q < 640; omega) (fun M hR => ?_)
              refine g_aload_n d_R_comes_428 rfl ?_
              refine r_arr 30 hR (by decide) (by decide) fl_R_98 rfl d_R_comes_429 ?_
              refine g_iconst (v := 4) d_R_comes_432 (by decide) ?_
              refine g_iload_n d_R_comes_433 rfl ?_
              refine g_imul d_R_comes_434 ?_
              refine g_aload_n d_R_comes_435 rfl ?_
              refine r_arr 26 hR (by decide) (by decide) fl_R_86 rfl d_R_comes_436 ?_
              refine g_iload_n d_R_comes_439 rfl ?_
              refine r_iald 26 q hR (by decide) rfl d_R_comes_440 rfl (by show q < 160; omega) ?_
              refine r_iast 30 (4 * q) hR (by decide) rfl d_R_comes_441 (ix_mul rfl rfl) (by show 4 * q < 640; omega) (fun M hR => ?_)
              refine g_aload_n d_R_comes_442 rfl ?_
              refine r_arr 28 hR (by decide) (by decide) fl_R_92 rfl d_R_comes_443 ?_
              refine g_iload_n d_R_comes_446 rfl ?_
              refine g_iconst (v := 1) d_R_comes_447 (by decide) ?_
              refine r_iast 28 q hR (by decide) rfl d_R_comes_448 rfl (by show q < 160; omega) (fun M hR => ?_)
              refine g_aload_n d_R_comes_449 rfl ?_
              refine g_iload_n d_R_comes_450 rfl ?_
              refine g_iload_n d_R_comes_451 rfl ?_
              refine r_call [.int (nI f), .int (nI q)] hR cw_R_261 cv_R_closes d_R_comes_452 rfl rfl ⟨by simp, by simp⟩ (by decide) (c_R_closes _ f q (WB.up (f := 28) (j := q) (x := 1) (WB.up (f := 30) (j := 4 * q) (x := P 26 q) (WB.up (f := 29) (j := 4 * q) (x := P 2 (tn (P 24 q))) hW (he2 c_410)) (by first | exact trivial | exact Or.inl rfl | exact Or.inr rfl)) (sm_nI (n := 1) (N := 4) (by decide) (by decide))) (by omega) (by omega) hd1) (fun M hR => ?_)
              exact g_return d_R_comes_455 rfl ⟨rfl, by unfold p_R_comes; rw [if_neg (show ¬ (P 14 f = 0) from c_6), if_neg (show ¬ (P 33 f = 1) from c_31), if_neg (show ¬ (P 25 q = 9) from c_70), if_neg (show ¬ (P 23 q = 4) from c_143_4), if_neg (show ¬ (P 23 q = 5) from c_143_5), if_pos (show P 23 q = 6 from c_143_6)]; exact hR⟩
          by_cases c_143_7 : P 23 q = 7
          · refine g_tableIn 279 d_R_comes_143 (by show ¬ (P 23 q).toInt < 4; rw [c_143_7]; decide) (by show ¬ 9 < (P 23 q).toInt; rw [c_143_7]; decide) (by show _[((P 23 q).toInt - 4).toNat]? = _; rw [c_143_7]; rfl) (by decide) ?_
            refine g_aload_n d_R_comes_279 rfl ?_
            refine r_arr 25 hR (by decide) (by decide) fl_R_83 rfl d_R_comes_280 ?_
            refine g_iload_n d_R_comes_283 rfl ?_
            refine r_iald 25 q hR (by decide) rfl d_R_comes_284 rfl (by show q < 160; omega) ?_
            refine g_if_ne 357 d_R_comes_285 (by decide) (fun c_285 => ?_) (fun c_285 => ?_)
            · skip
              refine g_aload_n d_R_comes_357 rfl ?_
              refine r_arr 29 hR (by decide) (by decide) fl_R_95 rfl d_R_comes_358 ?_
              refine g_iconst (v := 4) d_R_comes_361 (by decide) ?_
              refine g_iload_n d_R_comes_362 rfl ?_
              refine g_imul d_R_comes_363 ?_
              refine g_aload_n d_R_comes_364 rfl ?_
              refine r_arr 3 hR (by decide) (by decide) fl_R_19 rfl d_R_comes_365 ?_
              refine g_iload d_R_comes_368 rfl ?_
              refine r_iald 3 (tn (P 24 q)) hR (by decide) rfl d_R_comes_370 w_2.1 (by show tn (P 24 q) < 40; omega) ?_
              refine r_iast 29 (4 * q) hR (by decide) rfl d_R_comes_371 (ix_mul rfl rfl) (by show 4 * q < 640; omega) (fun M hR => ?_)
              refine g_aload_n d_R_comes_372 rfl ?_
              refine r_arr 30 hR (by decide) (by decide) fl_R_98 rfl d_R_comes_373 ?_
              refine g_iconst (v := 4) d_R_comes_376 (by decide) ?_
              refine g_iload_n d_R_comes_377 rfl ?_
              refine g_imul d_R_comes_378 ?_
              refine g_aload_n d_R_comes_379 rfl ?_
              refine r_arr 26 hR (by decide) (by decide) fl_R_86 rfl d_R_comes_380 ?_
              refine g_iload_n d_R_comes_383 rfl ?_
              refine r_iald 26 q hR (by decide) rfl d_R_comes_384 rfl (by show q < 160; omega) ?_
              refine r_iast 30 (4 * q) hR (by decide) rfl d_R_comes_385 (ix_mul rfl rfl) (by show 4 * q < 640; omega) (fun M hR => ?_)
              refine g_aload_n d_R_comes_386 rfl ?_
              refine r_arr 28 hR (by decide) (by decide) fl_R_92 rfl d_R_comes_387 ?_
              refine g_iload_n d_R_comes_390 rfl ?_
              refine g_iconst (v := 1) d_R_comes_391 (by decide) ?_
              refine r_iast 28 q hR (by decide) rfl d_R_comes_392 rfl (by show q < 160; omega) (fun M hR => ?_)
              refine g_aload_n d_R_comes_393 rfl ?_
              refine g_iload_n d_R_comes_394 rfl ?_
              refine g_iload_n d_R_comes_395 rfl ?_
              refine r_call [.int (nI f), .int (nI q)] hR cw_R_261 cv_R_closes d_R_comes_396 rfl rfl ⟨by simp, by simp⟩ (by decide) (c_R_closes _ f q (WB.up (f := 28) (j := q) (x := 1) (WB.up (f := 30) (j := 4 * q) (x := P 26 q) (WB.up (f := 29) (j := 4 * q) (x := P 3 (tn (P 24 q))) hW (he3 c_143_7)) (by first | exact trivial | exact Or.inl rfl | exact Or.inr rfl)) (sm_nI (n := 1) (N := 4) (by decide) (by decide))) (by omega) (by omega) hd1) (fun M hR => ?_)
              refine g_goto 455 d_R_comes_399 (by decide) ?_
              exact g_return d_R_comes_455 rfl ⟨rfl, by unfold p_R_comes; rw [if_neg (show ¬ (P 14 f = 0) from c_6), if_neg (show ¬ (P 33 f = 1) from c_31), if_neg (show ¬ (P 25 q = 9) from c_70), if_neg (show ¬ (P 23 q = 4) from c_143_4), if_neg (show ¬ (P 23 q = 5) from c_143_5), if_neg (show ¬ (P 23 q = 6) from c_143_6), if_pos (show P 23 q = 7 from c_143_7), if_neg (show ¬ (P 25 q = 0) from c_285)]; exact hR⟩
            · skip
              refine g_aload_n d_R_comes_288 rfl ?_
              refine r_arr 10 hR (by decide) (by decide) fl_R_37 rfl d_R_comes_289 ?_
              refine g_iload_n d_R_comes_292 rfl ?_
              refine g_aload_n d_R_comes_293 rfl ?_
              refine r_arr 31 hR (by decide) (by decide) fl_R_101 rfl d_R_comes_294 ?_
              refine g_iload_n d_R_comes_297 rfl ?_
              refine r_zald 31 q hR (by decide) rfl d_R_comes_298 rfl (by show q < 160; omega) ?_
              refine r_zast 10 f hR (by decide) rfl (hW 31 q) d_R_comes_299 rfl (by show f < 10; omega) (fun M hR => ?_)
              refine g_iload_n d_R_comes_300 rfl ?_
              refine g_if_ne 317 d_R_comes_301 (by decide) (fun c_301 => ?_) (fun c_301 => ?_)
              · exact absurd c_301 (by first | decide | simp_all)
              · skip
                refine g_aload_n d_R_comes_304 rfl ?_
                refine r_arr 22 hR (by decide) (by decide) fl_R_74 rfl d_R_comes_305 ?_
                refine g_iload_n d_R_comes_308 rfl ?_
                refine g_dup2 d_R_comes_309 rfl (cat_rf _) ?_
                refine r_iald 22 f hR (by decide) rfl d_R_comes_310 rfl (by show f < 10; omega) ?_
                have w_5 : sm (P 22 f) 16 := hW 22 f
                have w_5b := w_5.2
                refine g_iconst (v := 1) d_R_comes_311 (by decide) ?_
                refine g_isub d_R_comes_312 ?_
                refine r_iast 22 f hR (by decide) rfl d_R_comes_313 rfl (by show f < 10; omega) (fun M hR => ?_)
                refine g_goto 455 d_R_comes_314 (by decide) ?_
                exact g_return d_R_comes_455 rfl ⟨rfl, by unfold p_R_comes; rw [if_neg (show ¬ (P 14 f = 0) from c_6), if_neg (show ¬ (P 33 f = 1) from c_31), if_neg (show ¬ (P 25 q = 9) from c_70), if_neg (show ¬ (P 23 q = 4) from c_143_4), if_neg (show ¬ (P 23 q = 5) from c_143_5), if_neg (show ¬ (P 23 q = 6) from c_143_6), if_pos (show P 23 q = 7 from c_143_7), if_pos (show P 25 q = 0 from c_285)]; exact hR⟩
          by_cases c_143_8 : P 23 q = 8
          · refine g_tableIn 254 d_R_comes_143 (by show ¬ (P 23 q).toInt < 4; rw [c_143_8]; decide) (by show ¬ 9 < (P 23 q).toInt; rw [c_143_8]; decide) (by show _[((P 23 q).toInt - 4).toNat]? = _; rw [c_143_8]; rfl) (by decide) ?_
            refine g_aload_n d_R_comes_254 rfl ?_
            refine r_arr 22 hR (by decide) (by decide) fl_R_74 rfl d_R_comes_255 ?_
            refine g_iload_n d_R_comes_258 rfl ?_
            refine g_dup2 d_R_comes_259 rfl (cat_rf _) ?_
            refine r_iald 22 f hR (by decide) rfl d_R_comes_260 rfl (by show f < 10; omega) ?_
            have w_6 : sm (P 22 f) 16 := hW 22 f
            have w_6b := w_6.2
            refine g_iconst (v := 1) d_R_comes_261 (by decide) ?_
            refine g_isub d_R_comes_262 ?_
            refine r_iast 22 f hR (by decide) rfl d_R_comes_263 rfl (by show f < 10; omega) (fun M hR => ?_)
            refine g_aload_n d_R_comes_264 rfl ?_
            refine r_arr 10 hR (by decide) (by decide) fl_R_37 rfl d_R_comes_265 ?_
            refine g_iload_n d_R_comes_268 rfl ?_
            refine g_aload_n d_R_comes_269 rfl ?_
            refine r_arr 31 hR (by decide) (by decide) fl_R_101 rfl d_R_comes_270 ?_
            refine g_iload_n d_R_comes_273 rfl ?_
            refine r_zald 31 q hR (by decide) rfl d_R_comes_274 rfl (by show q < 160; omega) ?_
            refine r_zast 10 f hR (by decide) rfl (hW 31 q) d_R_comes_275 rfl (by show f < 10; omega) (fun M hR => ?_)
            refine g_goto 455 d_R_comes_276 (by decide) ?_
            exact g_return d_R_comes_455 rfl ⟨rfl, by unfold p_R_comes; rw [if_neg (show ¬ (P 14 f = 0) from c_6), if_neg (show ¬ (P 33 f = 1) from c_31), if_neg (show ¬ (P 25 q = 9) from c_70), if_neg (show ¬ (P 23 q = 4) from c_143_4), if_neg (show ¬ (P 23 q = 5) from c_143_5), if_neg (show ¬ (P 23 q = 6) from c_143_6), if_neg (show ¬ (P 23 q = 7) from c_143_7), if_pos (show P 23 q = 8 from c_143_8)]; exact hR⟩
          by_cases c_143_9 : P 23 q = 9
          · refine g_tableIn 254 d_R_comes_143 (by show ¬ (P 23 q).toInt < 4; rw [c_143_9]; decide) (by show ¬ 9 < (P 23 q).toInt; rw [c_143_9]; decide) (by show _[((P 23 q).toInt - 4).toNat]? = _; rw [c_143_9]; rfl) (by decide) ?_
            refine g_aload_n d_R_comes_254 rfl ?_
            refine r_arr 22 hR (by decide) (by decide) fl_R_74 rfl d_R_comes_255 ?_
            refine g_iload_n d_R_comes_258 rfl ?_
            refine g_dup2 d_R_comes_259 rfl (cat_rf _) ?_
            refine r_iald 22 f hR (by decide) rfl d_R_comes_260 rfl (by show f < 10; omega) ?_
            have w_7 : sm (P 22 f) 16 := hW 22 f
            have w_7b := w_7.2
            refine g_iconst (v := 1) d_R_comes_261 (by decide) ?_
            refine g_isub d_R_comes_262 ?_
            refine r_iast 22 f hR (by decide) rfl d_R_comes_263 rfl (by show f < 10; omega) (fun M hR => ?_)
            refine g_aload_n d_R_comes_264 rfl ?_
            refine r_arr 10 hR (by decide) (by decide) fl_R_37 rfl d_R_comes_265 ?_
            refine g_iload_n d_R_comes_268 rfl ?_
            refine g_aload_n d_R_comes_269 rfl ?_
            refine r_arr 31 hR (by decide) (by decide) fl_R_101 rfl d_R_comes_270 ?_
            refine g_iload_n d_R_comes_273 rfl ?_
            refine r_zald 31 q hR (by decide) rfl d_R_comes_274 rfl (by show q < 160; omega) ?_
            refine r_zast 10 f hR (by decide) rfl (hW 31 q) d_R_comes_275 rfl (by show f < 10; omega) (fun M hR => ?_)
            refine g_goto 455 d_R_comes_276 (by decide) ?_
            exact g_return d_R_comes_455 rfl ⟨rfl, by unfold p_R_comes; rw [if_neg (show ¬ (P 14 f = 0) from c_6), if_neg (show ¬ (P 33 f = 1) from c_31), if_neg (show ¬ (P 25 q = 9) from c_70), if_neg (show ¬ (P 23 q = 4) from c_143_4), if_neg (show ¬ (P 23 q = 5) from c_143_5), if_neg (show ¬ (P 23 q = 6) from c_143_6), if_neg (show ¬ (P 23 q = 7) from c_143_7), if_neg (show ¬ (P 23 q = 8) from c_143_8), if_pos (show P 23 q = 9 from c_143_9)]; exact hR⟩
          refine g_tableOut 402 d_R_comes_143 (sw_4_9 c_143_4 c_143_5 c_143_6 c_143_7 c_143_8 c_143_9) (by decide) ?_
          refine g_aload_n d_R_comes_402 rfl ?_
          refine r_arr 23 hR (by decide) (by decide) fl_R_77 rfl d_R_comes_403 ?_
          refine g_iload_n d_R_comes_406 rfl ?_
          refine r_iald 23 q hR (by decide) rfl d_R_comes_407 rfl (by show q < 160; omega) ?_
          refine g_bipush (v := 6) d_R_comes_408 (by decide) ?_
          refine g_icmp_ne 449 d_R_comes_410 (by decide) (fun c_410 => ?_) (fun c_410 => ?_)
          · skip
            refine g_aload_n d_R_comes_449 rfl ?_
            refine g_iload_n d_R_comes_450 rfl ?_
            refine g_iload_n d_R_comes_451 rfl ?_
            refine r_call [.int (nI f), .int (nI q)] hR cw_R_261 cv_R_closes d_R_comes_452 rfl rfl ⟨by simp, by simp⟩ (by decide) (c_R_closes _ f q hW (by omega) (by omega) hd1) (fun M hR => ?_)
            exact g_return d_R_comes_455 rfl ⟨rfl, by unfold p_R_comes; rw [if_neg (show ¬ (P 14 f = 0) from c_6), if_neg (show ¬ (P 33 f = 1) from c_31), if_neg (show ¬ (P 25 q = 9) from c_70), if_neg (show ¬ (P 23 q = 4) from c_143_4), if_neg (show ¬ (P 23 q = 5) from c_143_5), if_neg (show ¬ (P 23 q = 6) from c_143_6), if_neg (show ¬ (P 23 q = 7) from c_143_7), if_neg (show ¬ (P 23 q = 8) from c_143_8), if_neg (show ¬ (P 23 q = 9) from c_143_9)]; exact hR⟩
          · exact absurd (show P 23 q = 6 from c_410) c_143_6
        · skip
          refine g_iload_n d_R_comes_73 rfl ?_
          refine g_if_ne 99 d_R_comes_74 (by decide) (fun c_74 => ?_) (fun c_74 => ?_)
          · exact absurd c_74 (by first | decide | simp_all)
          · skip
            refine g_aload_n d_R_comes_77 rfl ?_
            refine r_arr 32 hR (by decide) (by decide) fl_R_104 rfl d_R_comes_78 ?_
            refine g_iload_n d_R_comes_81 rfl ?_
            refine r_zald 32 q hR (by decide) rfl d_R_comes_82 rfl (by show q < 160; omega) ?_
            refine g_if_eq 99 d_R_comes_83 (by decide) (fun c_83 => ?_) (fun c_83 => ?_)
            · skip
              refine g_iload_n d_R_comes_99 rfl ?_
              refine g_if_ne 112 d_R_comes_100 (by decide) (fun c_100 => ?_) (fun c_100 => ?_)
              · exact absurd c_100 (by first | decide | simp_all)
              · skip
                refine g_aload_n d_R_comes_103 rfl ?_
                refine g_iload_n d_R_comes_104 rfl ?_
                refine g_bipush (v := 10) d_R_comes_105 (by decide) ?_
                refine g_iload_n d_R_comes_107 rfl ?_
                refine g_iadd d_R_comes_108 ?_
                refine r_call [.int (nI f), .int (nI (10 + q))] hR cw_R_252 cv_R_copy d_R_comes_109 rfl (by rw [← (show (10 + (nI q) : Int32) = nI (10 + q) from ix_add rfl rfl)]; try rfl) ⟨by simp, by simp⟩ (by decide) (c_R_copy _ f (10 + q) (by omega) (by omega)) (fun M hR => ?_)
                refine g_aload_n d_R_comes_112 rfl ?_
                refine r_arr 32 hR (by decide) (by decide) fl_R_104 rfl d_R_comes_113 ?_
                refine g_iload_n d_R_comes_116 rfl ?_
                refine g_dup2 d_R_comes_117 rfl (cat_rf _) ?_
                refine r_zald 32 q hR (by decide) rfl d_R_comes_118 rfl (by show q < 160; omega) ?_
                refine g_iload_n d_R_comes_119 rfl ?_
                refine g_if_ne 127 d_R_comes_120 (by decide) (fun c_120 => ?_) (fun c_120 => ?_)
                · exact absurd c_120 (by first | decide | simp_all)
                · skip
                  refine g_iconst (v := 1) d_R_comes_123 (by decide) ?_
                  refine g_goto 128 d_R_comes_124 (by decide) ?_
                  refine g_ior d_R_comes_128 ?_
                  refine r_zast 32 q hR (by decide) rfl (or1_01 ((wb_copy hW _ _) 32 q)) d_R_comes_129 rfl (by show q < 160; omega) (fun M hR => ?_)
                  refine g_aload_n d_R_comes_130 rfl ?_
                  refine g_iload_n d_R_comes_131 rfl ?_
                  refine g_iload_n d_R_comes_132 rfl ?_
                  refine r_call [.int (nI f), .int (nI q)] hR cw_R_258 cv_R_close d_R_comes_133 rfl rfl ⟨by simp, by simp⟩ (by decide) (c_R_close _ f q (WB.up (f := 32) (j := q) (x := ((p_R_copy P f (10 + q)) 32 q) ||| 1) (wb_copy hW _ _) (or1_01 ((wb_copy hW _ _) 32 q))) (by omega) (by omega) (by show 1 ≤ tn ((p_R_copy P f (10 + q)) 22 f); rw [copy_fr _ _ _ (by decide)]; exact hd1)) (fun M hR => ?_)
                  exact g_return d_R_comes_136 rfl ⟨rfl, by unfold p_R_comes; rw [if_neg (show ¬ (P 14 f = 0) from c_6), if_neg (show ¬ (P 33 f = 1) from c_31), if_pos (show P 25 q = 9 from c_70), if_pos (show P 32 q = 0 from c_83)]; exact hR⟩
            · skip
              refine g_aload_n d_R_comes_86 rfl ?_
              refine g_bipush (v := 10) d_R_comes_87 (by decide) ?_
              refine g_iload_n d_R_comes_89 rfl ?_
              refine g_iadd d_R_comes_90 ?_
              refine g_iload_n d_R_comes_91 rfl ?_
              refine g_iconst (v := 4) d_R_comes_92 (by decide) ?_
              refine r_call [.int (nI (10 + q)), .int (nI f), .int (4)] hR cw_R_255 cv_R_join d_R_comes_93 rfl (by rw [← (show (10 + (nI q) : Int32) = nI (10 + q) from ix_add rfl rfl)]; try rfl) ⟨by simp, by simp⟩ (by decide) (c_R_join _ (10 + q) f 4 (by omega) (by omega) (show sm _ 9 from hW 33 _).1 (show sm _ 9 from hW 33 _).2 (show sm _ 9 from hW 33 _).1 (show sm _ 9 from hW 33 _).2) (fun M hR => ?_)
              refine g_goto 112 d_R_comes_96 (by decide) ?_
              refine g_aload_n d_R_comes_112 rfl ?_
              refine r_arr 32 hR (by decide) (by decide) fl_R_104 rfl d_R_comes_113 ?_
              refine g_iload_n d_R_comes_116 rfl ?_
              refine g_dup2 d_R_comes_117 rfl (cat_rf _) ?_
              refine r_zald 32 q hR (by decide) rfl d_R_comes_118 rfl (by show q < 160; omega) ?_
              refine g_iload_n d_R_comes_119 rfl ?_
              refine g_if_ne 127 d_R_comes_120 (by decide) (fun c_120 => ?_) (fun c_120 => ?_)
              · exact absurd c_120 (by first | decide | simp_all)
              · skip
                refine g_iconst (v := 1) d_R_comes_123 (by decide) ?_
                refine g_goto 128 d_R_comes_124 (by decide) ?_
                refine g_ior d_R_comes_128 ?_
                refine r_zast 32 q hR (by decide) rfl (or1_01 ((wb_join hW _ _ _) 32 q)) d_R_comes_129 rfl (by show q < 160; omega) (fun M hR => ?_)
                refine g_aload_n d_R_comes_130 rfl ?_
                refine g_iload_n d_R_comes_131 rfl ?_
                refine g_iload_n d_R_comes_132 rfl ?_
                refine r_call [.int (nI f), .int (nI q)] hR cw_R_258 cv_R_close d_R_comes_133 rfl rfl ⟨by simp, by simp⟩ (by decide) (c_R_close _ f q (WB.up (f := 32) (j := q) (x := ((p_R_join P (10 + q) f 4) 32 q) ||| 1) (wb_join hW _ _ _) (or1_01 ((wb_join hW _ _ _) 32 q))) (by omega) (by omega) (by show 1 ≤ tn ((p_R_join P (10 + q) f 4) 22 f); rw [join_fr _ _ _ _ (by decide)]; exact hd1)) (fun M hR => ?_)
                exact g_return d_R_comes_136 rfl ⟨rfl, by unfold p_R_comes; rw [if_neg (show ¬ (P 14 f = 0) from c_6), if_neg (show ¬ (P 33 f = 1) from c_31), if_pos (show P 25 q = 9 from c_70), if_neg (show ¬ (P 32 q = 0) from c_83)]; exact hR⟩
      · skip
        refine g_aload_n d_R_comes_34 rfl ?_
        refine r_arr 34 hR (by decide) (by decide) fl_R_110 rfl d_R_comes_35 ?_
        refine g_bipush (v := 9) d_R_comes_38 (by decide) ?_
        refine g_iload_n d_R_comes_40 rfl ?_
        refine g_imul d_R_comes_41 ?_
        refine r_iald 34 (9 * f) hR (by decide) rfl d_R_comes_42 (ix_mul rfl rfl) (by show 9 * f < 1539; omega) ?_
        refine g_iconst (v := 1) d_R_comes_43 (by decide) ?_
        refine g_icmp_ne 51 d_R_comes_44 (by decide) (fun c_44 => ?_) (fun c_44 => ?_)
        · skip
          refine g_iconst (v := 0) d_R_comes_51 (by decide) ?_
          refine g_istore d_R_comes_52 (by decide) ?_
          refine g_aload_n d_R_comes_54 rfl ?_
          refine r_arr 24 hR (by decide) (by decide) fl_R_80 rfl d_R_comes_55 ?_
          refine g_iload_n d_R_comes_58 rfl ?_
          refine r_iald 24 q hR (by decide) rfl d_R_comes_59 rfl (by show q < 160; omega) ?_
          have w_8 : sm (P 24 q) 39 := hW 24 q
          have w_8b := w_8.2
          refine g_istore d_R_comes_60 (by decide) ?_
          refine g_aload_n d_R_comes_62 rfl ?_
          refine r_arr 25 hR (by decide) (by decide) fl_R_83 rfl d_R_comes_63 ?_
          refine g_iload_n d_R_comes_66 rfl ?_
          refine r_iald 25 q hR (by decide) rfl d_R_comes_67 rfl (by show q < 160; omega) ?_
          refine g_bipush (v := 9) d_R_comes_68 (by decide) ?_
          refine g_icmp_ne 137 d_R_comes_70 (by decide) (fun c_70 => ?_) (fun c_70 => ?_)
          · skip
            refine g_aload_n d_R_comes_137 rfl ?_
            refine r_arr 23 hR (by decide) (by decide) fl_R_77 rfl d_R_comes_138 ?_
            refine g_iload_n d_R_comes_141 rfl ?_
            refine r_iald 23 q hR (by decide) rfl d_R_comes_142 rfl (by show q < 160; omega) ?_
            by_cases c_143_4 : P 23 q = 4
            · refine g_tableIn 180 d_R_comes_143 (by show ¬ (P 23 q).toInt < 4; rw [c_143_4]; decide) (by show ¬ 9 < (P 23 q).toInt; rw [c_143_4]; decide) (by show _[((P 23 q).toInt - 4).toNat]? = _; rw [c_143_4]; rfl) (by decide) ?_
              refine g_aload_n d_R_comes_180 rfl ?_
              refine r_arr 22 hR (by decide) (by decide) fl_R_74 rfl d_R_comes_181 ?_
              refine g_iload_n d_R_comes_184 rfl ?_
              refine g_dup2 d_R_comes_185 rfl (cat_rf _) ?_
              refine r_iald 22 f hR (by decide) rfl d_R_comes_186 rfl (by show f < 10; omega) ?_
              have w_9 : sm (P 22 f) 16 := hW 22 f
              have w_9b := w_9.2
              refine g_iconst (v := 1) d_R_comes_187 (by decide) ?_
              refine g_isub d_R_comes_188 ?_
              refine r_iast 22 f hR (by decide) rfl d_R_comes_189 rfl (by show f < 10; omega) (fun M hR => ?_)
              refine g_iload_n d_R_comes_190 rfl ?_
              refine g_if_eq 215 d_R_comes_191 (by decide) (fun c_191 => ?_) (fun c_191 => ?_)
              · skip
                refine g_aload_n d_R_comes_215 rfl ?_
                refine r_arr 23 hR (by decide) (by decide) fl_R_77 rfl d_R_comes_216 ?_
                refine g_iload_n d_R_comes_219 rfl ?_
                refine r_iald 23 q hR (by decide) rfl d_R_comes_220 rfl (by show q < 160; omega) ?_
                refine g_iconst (v := 5) d_R_comes_221 (by decide) ?_
                refine g_icmp_ne 455 d_R_comes_222 (by decide) (fun c_222 => ?_) (fun c_222 => ?_)
                · skip
                  exact g_return d_R_comes_455 rfl ⟨rfl, by unfold p_R_comes; rw [if_neg (show ¬ (P 14 f = 0) from c_6), if_pos (show P 33 f = 1 from c_31), if_neg (show ¬ (P 34 (9 * f) = 1) from c_44), if_neg (show ¬ (P 25 q = 9) from c_70), if_pos (show P 23 q = 4 from c_143_4), if_neg (show ¬ (P 23 q = 5) from c_222)]; exact hR⟩
                · skip
                  refine g_iload d_R_comes_225 rfl ?_
                  refine g_if_eq 455 d_R_comes_227 (by decide) (fun c_227 => ?_) (fun c_227 => ?_)
                  · skip
                    exact g_return d_R_comes_455 rfl ⟨rfl, by unfold p_R_comes; rw [if_neg (show ¬ (P 14 f = 0) from c_6), if_pos (show P 33 f = 1 from c_31), if_neg (show ¬ (P 34 (9 * f) = 1) from c_44), if_neg (show ¬ (P 25 q = 9) from c_70), if_pos (show P 23 q = 4 from c_143_4), if_pos (show P 23 q = 5 from c_222)]; exact hR⟩
                  · exact absurd c_227 (by first | decide | simp_all)
              · exact absurd c_191 (by first | decide | simp_all)
            by_cases c_143_5 : P 23 q = 5
            · refine g_tableIn 180 d_R_comes_143 (by show ¬ (P 23 q).toInt < 4; rw [c_143_5]; decide) (by show ¬ 9 < (P 23 q).toInt; rw [c_143_5]; decide) (by show _[((P 23 q).toInt - 4).toNat]? = _; rw [c_143_5]; rfl) (by decide) ?_
              refine g_aload_n d_R_comes_180 rfl ?_
              refine r_arr 22 hR (by decide) (by decide) fl_R_74 rfl d_R_comes_181 ?_
              refine g_iload_n d_R_comes_184 rfl ?_
              refine g_dup2 d_R_comes_185 rfl (cat_rf _) ?_
              refine r_iald 22 f hR (by decide) rfl d_R_comes_186 rfl (by show f < 10; omega) ?_
              have w_10 : sm (P 22 f) 16 := hW 22 f
              have w_10b := w_10.2
              refine g_iconst (v := 1) d_R_comes_187 (by decide) ?_
              refine g_isub d_R_comes_188 ?_
              refine r_iast 22 f hR (by decide) rfl d_R_comes_189 rfl (by show f < 10; omega) (fun M hR => ?_)
              refine g_iload_n d_R_comes_190 rfl ?_
              refine g_if_eq 215 d_R_comes_191 (by decide) (fun c_191 => ?_) (fun c_191 => ?_)
              · skip
                refine g_aload_n d_R_comes_215 rfl ?_
                refine r_arr 23 hR (by decide) (by decide) fl_R_77 rfl d_R_comes_216 ?_
                refine g_iload_n d_R_comes_219 rfl ?_
                refine r_iald 23 q hR (by decide) rfl d_R_comes_220 rfl (by show q < 160; omega) ?_
                refine g_iconst (v := 5) d_R_comes_221 (by decide) ?_
                refine g_icmp_ne 455 d_R_comes_222 (by decide) (fun c_222 => ?_) (fun c_222 => ?_)
                · exact absurd (show P 23 q = 5 from c_143_5) c_222
                · skip
                  refine g_iload d_R_comes_225 rfl ?_
                  refine g_if_eq 455 d_R_comes_227 (by decide) (fun c_227 => ?_) (fun c_227 => ?_)
                  · skip
                    exact g_return d_R_comes_455 rfl ⟨rfl, by unfold p_R_comes; rw [if_neg (show ¬ (P 14 f = 0) from c_6), if_pos (show P 33 f = 1 from c_31), if_neg (show ¬ (P 34 (9 * f) = 1) from c_44), if_neg (show ¬ (P 25 q = 9) from c_70), if_neg (show ¬ (P 23 q = 4) from c_143_4), if_pos (show P 23 q = 5 from c_143_5)]; exact hR⟩
                  · exact absurd c_227 (by first | decide | simp_all)
              · exact absurd c_191 (by first | decide | simp_all)
            by_cases c_143_6 : P 23 q = 6
            · refine g_tableIn 402 d_R_comes_143 (by show ¬ (P 23 q).toInt < 4; rw [c_143_6]; decide) (by show ¬ 9 < (P 23 q).toInt; rw [c_143_6]; decide) (by show _[((P 23 q).toInt - 4).toNat]? = _; rw [c_143_6]; rfl) (by decide) ?_
              refine g_aload_n d_R_comes_402 rfl ?_
              refine r_arr 23 hR (by decide) (by decide) fl_R_77 rfl d_R_comes_403 ?_
              refine g_iload_n d_R_comes_406 rfl ?_
              refine r_iald 23 q hR (by decide) rfl d_R_comes_407 rfl (by show q < 160; omega) ?_
              refine g_bipush (v := 6) d_R_comes_408 (by decide) ?_
              refine g_icmp_ne 449 d_R_comes_410 (by decide) (fun c_410 => ?_) (fun c_410 => ?_)
              · exact absurd (show P 23 q = 6 from c_143_6) c_410
              · skip
                refine g_aload_n d_R_comes_413 rfl ?_
                refine r_arr 29 hR (by decide) (by decide) fl_R_95 rfl d_R_comes_414 ?_
                refine g_iconst (v := 4) d_R_comes_417 (by decide) ?_
                refine g_iload_n d_R_comes_418 rfl ?_
                refine g_imul d_R_comes_419 ?_
                refine g_aload_n d_R_comes_420 rfl ?_
                refine r_arr 2 hR (by decide) (by decide) fl_R_16 rfl d_R_comes_421 ?_
                refine g_iload d_R_comes_424 rfl ?_
                refine r_iald 2 (tn (P 24 q)) hR (by decide) rfl d_R_comes_426 w_8.1 (by show tn (P 24 q) < 40; omega) ?_
                refine r_iast 29 (4 * q) hR (by decide) rfl d_R_comes_427 (ix_mul rfl rfl) (by show 4 * q < 640; omega) (fun M hR => ?_)
                refine g_aload_n d_R_comes_428 rfl ?_
                refine r_arr 30 hR (by decide) (by decide) fl_R_98 rfl d_R_comes_429 ?_
                refine g_iconst (v := 4) d_R_comes_432 (by decide) ?_
                refine g_iload_n d_R_comes_433 rfl ?_
                refine g_imul d_R_comes_434 ?_
                refine g_aload_n d_R_comes_435 rfl ?_
                refine r_arr 26 hR (by decide) (by decide) fl_R_86 rfl d_R_comes_436 ?_
                refine g_iload_n d_R_comes_439 rfl ?_
                refine r_iald 26 q hR (by decide) rfl d_R_comes_440 rfl (by show q < 160; omega) ?_
                refine r_iast 30 (4 * q) hR (by decide) rfl d_R_comes_441 (ix_mul rfl rfl) (by show 4 * q < 640; omega) (fun M hR => ?_)
                refine g_aload_n d_R_comes_442 rfl ?_
                refine r_arr 28 hR (by decide) (by decide) fl_R_92 rfl d_R_comes_443 ?_
                refine g_iload_n d_R_comes_446 rfl ?_
                refine g_iconst (v := 1) d_R_comes_447 (by decide) ?_
                refine r_iast 28 q hR (by decide) rfl d_R_comes_448 rfl (by show q < 160; omega) (fun M hR => ?_)
                refine g_aload_n d_R_comes_449 rfl ?_
                refine g_iload_n d_R_comes_450 rfl ?_
                refine g_iload_n d_R_comes_451 rfl ?_
                refine r_call [.int (nI f), .int (nI q)] hR cw_R_261 cv_R_closes d_R_comes_452 rfl rfl ⟨by simp, by simp⟩ (by decide) (c_R_closes _ f q (WB.up (f := 28) (j := q) (x := 1) (WB.up (f := 30) (j := 4 * q) (x := P 26 q) (WB.up (f := 29) (j := 4 * q) (x := P 2 (tn (P 24 q))) hW (he2 c_410)) (by first | exact trivial | exact Or.inl rfl | exact Or.inr rfl)) (sm_nI (n := 1) (N := 4) (by decide) (by decide))) (by omega) (by omega) hd1) (fun M hR => ?_)
                exact g_return d_R_comes_455 rfl ⟨rfl, by unfold p_R_comes; rw [if_neg (show ¬ (P 14 f = 0) from c_6), if_pos (show P 33 f = 1 from c_31), if_neg (show ¬ (P 34 (9 * f) = 1) from c_44), if_neg (show ¬ (P 25 q = 9) from c_70), if_neg (show ¬ (P 23 q = 4) from c_143_4), if_neg (show ¬ (P 23 q = 5) from c_143_5), if_pos (show P 23 q = 6 from c_143_6)]; exact hR⟩
            by_cases c_143_7 : P 23 q = 7
            · refine g_tableIn 279 d_R_comes_143 (by show ¬ (P 23 q).toInt < 4; rw [c_143_7]; decide) (by show ¬ 9 < (P 23 q).toInt; rw [c_143_7]; decide) (by show _[((P 23 q).toInt - 4).toNat]? = _; rw [c_143_7]; rfl) (by decide) ?_
              refine g_aload_n d_R_comes_279 rfl ?_
              refine r_arr 25 hR (by decide) (by decide) fl_R_83 rfl d_R_comes_280 ?_
              refine g_iload_n d_R_comes_283 rfl ?_
              refine r_iald 25 q hR (by decide) rfl d_R_comes_284 rfl (by show q < 160; omega) ?_
              refine g_if_ne 357 d_R_comes_285 (by decide) (fun c_285 => ?_) (fun c_285 => ?_)
              · skip
                refine g_aload_n d_R_comes_357 rfl ?_
                refine r_arr 29 hR (by decide) (by decide) fl_R_95 rfl d_R_comes_358 ?_
                refine g_iconst (v := 4) d_R_comes_361 (by decide) ?_
                refine g_iload_n d_R_comes_362 rfl ?_
                refine g_imul d_R_comes_363 ?_
                refine g_aload_n d_R_comes_364 rfl ?_
                refine r_arr 3 hR (by decide) (by decide) fl_R_19 rfl d_R_comes_365 ?_
                refine g_iload d_R_comes_368 rfl ?_
                refine r_iald 3 (tn (P 24 q)) hR (by decide) rfl d_R_comes_370 w_8.1 (by show tn (P 24 q) < 40; omega) ?_
                refine r_iast 29 (4 * q) hR (by decide) rfl d_R_comes_371 (ix_mul rfl rfl) (by show 4 * q < 640; omega) (fun M hR => ?_)
                refine g_aload_n d_R_comes_372 rfl ?_
                refine r_arr 30 hR (by decide) (by decide) fl_R_98 rfl d_R_comes_373 ?_
                refine g_iconst (v := 4) d_R_comes_376 (by decide) ?_
                refine g_iload_n d_R_comes_377 rfl ?_
                refine g_imul d_R_comes_378 ?_
                refine g_aload_n d_R_comes_379 rfl ?_
                refine r_arr 26 hR (by decide) (by decide) fl_R_86 rfl d_R_comes_380 ?_
                refine g_iload_n d_R_comes_383 rfl ?_
                refine r_iald 26 q hR (by decide) rfl d_R_comes_384 rfl (by show q < 160; omega) ?_
                refine r_iast 30 (4 * q) hR (by decide) rfl d_R_comes_385 (ix_mul rfl rfl) (by show 4 * q < 640; omega) (fun M hR => ?_)
                refine g_aload_n d_R_comes_386 rfl ?_
                refine r_arr 28 hR (by decide) (by decide) fl_R_92 rfl d_R_comes_387 ?_
                refine g_iload_n d_R_comes_390 rfl ?_
                refine g_iconst (v := 1) d_R_comes_391 (by decide) ?_
                refine r_iast 28 q hR (by decide) rfl d_R_comes_392 rfl (by show q < 160; omega) (fun M hR => ?_)
                refine g_aload_n d_R_comes_393 rfl ?_
                refine g_iload_n d_R_comes_394 rfl ?_
                refine g_iload_n d_R_comes_395 rfl ?_
                refine r_call [.int (nI f), .int (nI q)] hR cw_R_261 cv_R_closes d_R_comes_396 rfl rfl ⟨by simp, by simp⟩ (by decide) (c_R_closes _ f q (WB.up (f := 28) (j := q) (x := 1) (WB.up (f := 30) (j := 4 * q) (x := P 26 q) (WB.up (f := 29) (j := 4 * q) (x := P 3 (tn (P 24 q))) hW (he3 c_143_7)) (by first | exact trivial | exact Or.inl rfl | exact Or.inr rfl)) (sm_nI (n := 1) (N := 4) (by decide) (by decide))) (by omega) (by omega) hd1) (fun M hR => ?_)
                refine g_goto 455 d_R_comes_399 (by decide) ?_
                exact g_return d_R_comes_455 rfl ⟨rfl, by unfold p_R_comes; rw [if_neg (show ¬ (P 14 f = 0) from c_6), if_pos (show P 33 f = 1 from c_31), if_neg (show ¬ (P 34 (9 * f) = 1) from c_44), if_neg (show ¬ (P 25 q = 9) from c_70), if_neg (show ¬ (P 23 q = 4) from c_143_4), if_neg (show ¬ (P 23 q = 5) from c_143_5), if_neg (show ¬ (P 23 q = 6) from c_143_6), if_pos (show P 23 q = 7 from c_143_7), if_neg (show ¬ (P 25 q = 0) from c_285)]; exact hR⟩
              · skip
                refine g_aload_n d_R_comes_288 rfl ?_
                refine r_arr 10 hR (by decide) (by decide) fl_R_37 rfl d_R_comes_289 ?_
                refine g_iload_n d_R_comes_292 rfl ?_
                refine g_aload_n d_R_comes_293 rfl ?_
                refine r_arr 31 hR (by decide) (by decide) fl_R_101 rfl d_R_comes_294 ?_
                refine g_iload_n d_R_comes_297 rfl ?_
                refine r_zald 31 q hR (by decide) rfl d_R_comes_298 rfl (by show q < 160; omega) ?_
                refine r_zast 10 f hR (by decide) rfl (hW 31 q) d_R_comes_299 rfl (by show f < 10; omega) (fun M hR => ?_)
                refine g_iload_n d_R_comes_300 rfl ?_
                refine g_if_ne 317 d_R_comes_301 (by decide) (fun c_301 => ?_) (fun c_301 => ?_)
                · exact absurd c_301 (by first | decide | simp_all)
                · skip
                  refine g_aload_n d_R_comes_304 rfl ?_
                  refine r_arr 22 hR (by decide) (by decide) fl_R_74 rfl d_R_comes_305 ?_
                  refine g_iload_n d_R_comes_308 rfl ?_
                  refine g_dup2 d_R_comes_309 rfl (cat_rf _) ?_
                  refine r_iald 22 f hR (by decide) rfl d_R_comes_310 rfl (by show f < 10; omega) ?_
                  have w_11 : sm (P 22 f) 16 := hW 22 f
                  have w_11b := w_11.2
                  refine g_iconst (v := 1) d_R_comes_311 (by decide) ?_
                  refine g_isub d_R_comes_312 ?_
                  refine r_iast 22 f hR (by decide) rfl d_R_comes_313 rfl (by show f < 10; omega) (fun M hR => ?_)
                  refine g_goto 455 d_R_comes_314 (by decide) ?_
                  exact g_return d_R_comes_455 rfl ⟨rfl, by unfold p_R_comes; rw [if_neg (show ¬ (P 14 f = 0) from c_6), if_pos (show P 33 f = 1 from c_31), if_neg (show ¬ (P 34 (9 * f) = 1) from c_44), if_neg (show ¬ (P 25 q = 9) from c_70), if_neg (show ¬ (P 23 q = 4) from c_143_4), if_neg (show ¬ (P 23 q = 5) from c_143_5), if_neg (show ¬ (P 23 q = 6) from c_143_6), if_pos (show P 23 q = 7 from c_143_7), if_pos (show P 25 q = 0 from c_285)]; exact hR⟩
            by_cases c_143_8 : P 23 q = 8
            · refine g_tableIn 254 d_R_comes_143 (by show ¬ (P 23 q).toInt < 4; rw [c_143_8]; decide) (by show ¬ 9 < (P 23 q).toInt; rw [c_143_8]; decide) (by show _[((P 23 q).toInt - 4).toNat]? = _; rw [c_143_8]; rfl) (by decide) ?_
              refine g_aload_n d_R_comes_254 rfl ?_
              refine r_arr 22 hR (by decide) (by decide) fl_R_74 rfl d_R_comes_255 ?_
              refine g_iload_n d_R_comes_258 rfl ?_
              refine g_dup2 d_R_comes_259 rfl (cat_rf _) ?_
              refine r_iald 22 f hR (by decide) rfl d_R_comes_260 rfl (by show f < 10; omega) ?_
              have w_12 : sm (P 22 f) 16 := hW 22 f
              have w_12b := w_12.2
              refine g_iconst (v := 1) d_R_comes_261 (by decide) ?_
              refine g_isub d_R_comes_262 ?_
              refine r_iast 22 f hR (by decide) rfl d_R_comes_263 rfl (by show f < 10; omega) (fun M hR => ?_)
              refine g_aload_n d_R_comes_264 rfl ?_
              refine r_arr 10 hR (by decide) (by decide) fl_R_37 rfl d_R_comes_265 ?_
              refine g_iload_n d_R_comes_268 rfl ?_
              refine g_aload_n d_R_comes_269 rfl ?_
              refine r_arr 31 hR (by decide) (by decide) fl_R_101 rfl d_R_comes_270 ?_
              refine g_iload_n d_R_comes_273 rfl ?_
              refine r_zald 31 q hR (by decide) rfl d_R_comes_274 rfl (by show q < 160; omega) ?_
              refine r_zast 10 f hR (by decide) rfl (hW 31 q) d_R_comes_275 rfl (by show f < 10; omega) (fun M hR => ?_)
              refine g_goto 455 d_R_comes_276 (by decide) ?_
              exact g_return d_R_comes_455 rfl ⟨rfl, by unfold p_R_comes; rw [if_neg (show ¬ (P 14 f = 0) from c_6), if_pos (show P 33 f = 1 from c_31), if_neg (show ¬ (P 34 (9 * f) = 1) from c_44), if_neg (show ¬ (P 25 q = 9) from c_70), if_neg (show ¬ (P 23 q = 4) from c_143_4), if_neg (show ¬ (P 23 q = 5) from c_143_5), if_neg (show ¬ (P 23 q = 6) from c_143_6), if_neg (show ¬ (P 23 q = 7) from c_143_7), if_pos (show P 23 q = 8 from c_143_8)]; exact hR⟩
            by_cases c_143_9 : P 23 q = 9
            · refine g_tableIn 254 d_R_comes_143 (by show ¬ (P 23 q).toInt < 4; rw [c_143_9]; decide) (by show ¬ 9 < (P 23 q).toInt; rw [c_143_9]; decide) (by show _[((P 23 q).toInt - 4).toNat]? = _; rw [c_143_9]; rfl) (by decide) ?_
              refine g_aload_n d_R_comes_254 rfl ?_
              refine r_arr 22 hR (by decide) (by decide) fl_R_74 rfl d_R_comes_255 ?_
              refine g_iload_n d_R_comes_258 rfl ?_
              refine g_dup2 d_R_comes_259 rfl (cat_rf _) ?_
              refine r_iald 22 f hR (by decide) rfl d_R_comes_260 rfl (by show f < 10; omega) ?_
              have w_13 : sm (P 22 f) 16 := hW 22 f
              have w_13b := w_13.2
              refine g_iconst (v := 1) d_R_comes_261 (by decide) ?_
              refine g_isub d_R_comes_262 ?_
              refine r_iast 22 f hR (by decide) rfl d_R_comes_263 rfl (by show f < 10; omega) (fun M hR => ?_)
              refine g_aload_n d_R_comes_264 rfl ?_
              refine r_arr 10 hR (by decide) (by decide) fl_R_37 rfl d_R_comes_265 ?_
              refine g_iload_n d_R_comes_268 rfl ?_
              refine g_aload_n d_R_comes_269 rfl ?_
              refine r_arr 31 hR (by decide) (by decide) fl_R_101 rfl d_R_comes_270 ?_
              refine g_iload_n d_R_comes_273 rfl ?_
              refine r_zald 31 q hR (by decide) rfl d_R_comes_274 rfl (by show q < 160; omega) ?_
              refine r_zast 10 f hR (by decide) rfl (hW 31 q) d_R_comes_275 rfl (by show f < 10; omega) (fun M hR => ?_)
              refine g_goto 455 d_R_comes_276 (by decide) ?_
              exact g_return d_R_comes_455 rfl ⟨rfl, by unfold p_R_comes; rw [if_neg (show ¬ (P 14 f = 0) from c_6), if_pos (show P 33 f = 1 from c_31), if_neg (show ¬ (P 34 (9 * f) = 1) from c_44), if_neg (show ¬ (P 25 q = 9) from c_70), if_neg (show ¬ (P 23 q = 4) from c_143_4), if_neg (show ¬ (P 23 q = 5) from c_143_5), if_neg (show ¬ (P 23 q = 6) from c_143_6), if_neg (show ¬ (P 23 q = 7) from c_143_7), if_neg (show ¬ (P 23 q = 8) from c_143_8), if_pos (show P 23 q = 9 from c_143_9)]; exact hR⟩
            refine g_tableOut 402 d_R_comes_143 (sw_4_9 c_143_4 c_143_5 c_143_6 c_143_7 c_143_8 c_143_9) (by decide) ?_
            refine g_aload_n d_R_comes_402 rfl ?_
            refine r_arr 23 hR (by decide) (by decide) fl_R_77 rfl d_R_comes_403 ?_
            refine g_iload_n d_R_comes_406 rfl ?_
            refine r_iald 23 q hR (by decide) rfl d_R_comes_407 rfl (by show q < 160; omega) ?_
            refine g_bipush (v := 6) d_R_comes_408 (by decide) ?_
            refine g_icmp_ne 449 d_R_comes_410 (by decide) (fun c_410 => ?_) (fun c_410 => ?_)
            · skip
              refine g_aload_n d_R_comes_449 rfl ?_
              refine g_iload_n d_R_comes_450 rfl ?_
              refine g_iload_n d_R_comes_451 rfl ?_
              refine r_call [.int (nI f), .int (nI q)] hR cw_R_261 cv_R_closes d_R_comes_452 rfl rfl ⟨by simp, by simp⟩ (by decide) (c_R_closes _ f q hW (by omega) (by omega) hd1) (fun M hR => ?_)
              exact g_return d_R_comes_455 rfl ⟨rfl, by unfold p_R_comes; rw [if_neg (show ¬ (P 14 f = 0) from c_6), if_pos (show P 33 f = 1 from c_31), if_neg (show ¬ (P 34 (9 * f) = 1) from c_44), if_neg (show ¬ (P 25 q = 9) from c_70), if_neg (show ¬ (P 23 q = 4) from c_143_4), if_neg (show ¬ (P 23 q = 5) from c_143_5), if_neg (show ¬ (P 23 q = 6) from c_143_6), if_neg (show ¬ (P 23 q = 7) from c_143_7), if_neg (show ¬ (P 23 q = 8) from c_143_8), if_neg (show ¬ (P 23 q = 9) from c_143_9)]; exact hR⟩
            · exact absurd (show P 23 q = 6 from c_410) c_143_6
          · skip
            refine g_iload_n d_R_comes_73 rfl ?_
            refine g_if_ne 99 d_R_comes_74 (by decide) (fun c_74 => ?_) (fun c_74 => ?_)
            · exact absurd c_74 (by first | decide | simp_all)
            · skip
              refine g_aload_n d_R_comes_77 rfl ?_
              refine r_arr 32 hR (by decide) (by decide) fl_R_104 rfl d_R_comes_78 ?_
              refine g_iload_n d_R_comes_81 rfl ?_
              refine r_zald 32 q hR (by decide) rfl d_R_comes_82 rfl (by show q < 160; omega) ?_
              refine g_if_eq 99 d_R_comes_83 (by decide) (fun c_83 => ?_) (fun c_83 => ?_)
              · skip
                refine g_iload_n d_R_comes_99 rfl ?_
                refine g_if_ne 112 d_R_comes_100 (by decide) (fun c_100 => ?_) (fun c_100 => ?_)
                · exact absurd c_100 (by first | decide | simp_all)
                · skip
                  refine g_aload_n d_R_comes_103 rfl ?_
                  refine g_iload_n d_R_comes_104 rfl ?_
                  refine g_bipush (v := 10) d_R_comes_105 (by decide) ?_
                  refine g_iload_n d_R_comes_107 rfl ?_
                  refine g_iadd d_R_comes_108 ?_
                  refine r_call [.int (nI f), .int (nI (10 + q))] hR cw_R_252 cv_R_copy d_R_comes_109 rfl (by rw [← (show (10 + (nI q) : Int32) = nI (10 + q) from ix_add rfl rfl)]; try rfl) ⟨by simp, by simp⟩ (by decide) (c_R_copy _ f (10 + q) (by omega) (by omega)) (fun M hR => ?_)
                  refine g_aload_n d_R_comes_112 rfl ?_
                  refine r_arr 32 hR (by decide) (by decide) fl_R_104 rfl d_R_comes_113 ?_
                  refine g_iload_n d_R_comes_116 rfl ?_
                  refine g_dup2 d_R_comes_117 rfl (cat_rf _) ?_
                  refine r_zald 32 q hR (by decide) rfl d_R_comes_118 rfl (by show q < 160; omega) ?_
                  refine g_iload_n d_R_comes_119 rfl ?_
                  refine g_if_ne 127 d_R_comes_120 (by decide) (fun c_120 => ?_) (fun c_120 => ?_)
                  · exact absurd c_120 (by first | decide | simp_all)
                  · skip
                    refine g_iconst (v := 1) d_R_comes_123 (by decide) ?_
                    refine g_goto 128 d_R_comes_124 (by decide) ?_
                    refine g_ior d_R_comes_128 ?_
                    refine r_zast 32 q hR (by decide) rfl (or1_01 ((wb_copy hW _ _) 32 q)) d_R_comes_129 rfl (by show q < 160; omega) (fun M hR => ?_)
                    refine g_aload_n d_R_comes_130 rfl ?_
                    refine g_iload_n d_R_comes_131 rfl ?_
                    refine g_iload_n d_R_comes_132 rfl ?_
                    refine r_call [.int (nI f), .int (nI q)] hR cw_R_258 cv_R_close d_R_comes_133 rfl rfl ⟨by simp, by simp⟩ (by decide) (c_R_close _ f q (WB.up (f := 32) (j := q) (x := ((p_R_copy P f (10 + q)) 32 q) ||| 1) (wb_copy hW _ _) (or1_01 ((wb_copy hW _ _) 32 q))) (by omega) (by omega) (by show 1 ≤ tn ((p_R_copy P f (10 + q)) 22 f); rw [copy_fr _ _ _ (by decide)]; exact hd1)) (fun M hR => ?_)
                    exact g_return d_R_comes_136 rfl ⟨rfl, by unfold p_R_comes; rw [if_neg (show ¬ (P 14 f = 0) from c_6), if_pos (show P 33 f = 1 from c_31), if_neg (show ¬ (P 34 (9 * f) = 1) from c_44), if_pos (show P 25 q = 9 from c_70), if_pos (show P 32 q = 0 from c_83)]; exact hR⟩
              · skip
                refine g_aload_n d_R_comes_86 rfl ?_
                refine g_bipush (v := 10) d_R_comes_87 (by decide) ?_
                refine g_iload_n d_R_comes_89 rfl ?_
                refine g_iadd d_R_comes_90 ?_
                refine g_iload_n d_R_comes_91 rfl ?_
                refine g_iconst (v := 4) d_R_comes_92 (by decide) ?_
                refine r_call [.int (nI (10 + q)), .int (nI f), .int (4)] hR cw_R_255 cv_R_join d_R_comes_93 rfl (by rw [← (show (10 + (nI q) : Int32) = nI (10 + q) from ix_add rfl rfl)]; try rfl) ⟨by simp, by simp⟩ (by decide) (c_R_join _ (10 + q) f 4 (by omega) (by omega) (show sm _ 9 from hW 33 _).1 (show sm _ 9 from hW 33 _).2 (show sm _ 9 from hW 33 _).1 (show sm _ 9 from hW 33 _).2) (fun M hR => ?_)
                refine g_goto 112 d_R_comes_96 (by decide) ?_
                refine g_aload_n d_R_comes_112 rfl ?_
                refine r_arr 32 hR (by decide) (by decide) fl_R_104 rfl d_R_comes_113 ?_
                refine g_iload_n d_R_comes_116 rfl ?_
                refine g_dup2 d_R_comes_117 rfl (cat_rf _) ?_
                refine r_zald 32 q hR (by decide) rfl d_R_comes_118 rfl (by show q < 160; omega) ?_
                refine g_iload_n d_R_comes_119 rfl ?_
                refine g_if_ne 127 d_R_comes_120 (by decide) (fun c_120 => ?_) (fun c_120 => ?_)
                · exact absurd c_120 (by first | decide | simp_all)
                · skip
                  refine g_iconst (v := 1) d_R_comes_123 (by decide) ?_
                  refine g_goto 128 d_R_comes_124 (by decide) ?_
                  refine g_ior d_R_comes_128 ?_
                  refine r_zast 32 q hR (by decide) rfl (or1_01 ((wb_join hW _ _ _) 32 q)) d_R_comes_129 rfl (by show q < 160; omega) (fun M hR => ?_)
                  refine g_aload_n d_R_comes_130 rfl ?_
                  refine g_iload_n d_R_comes_131 rfl ?_
                  refine g_iload_n d_R_comes_132 rfl ?_
                  refine r_call [.int (nI f), .int (nI q)] hR cw_R_258 cv_R_close d_R_comes_133 rfl rfl ⟨by simp, by simp⟩ (by decide) (c_R_close _ f q (WB.up (f := 32) (j := q) (x := ((p_R_join P (10 + q) f 4) 32 q) ||| 1) (wb_join hW _ _ _) (or1_01 ((wb_join hW _ _ _) 32 q))) (by omega) (by omega) (by show 1 ≤ tn ((p_R_join P (10 + q) f 4) 22 f); rw [join_fr _ _ _ _ (by decide)]; exact hd1)) (fun M hR => ?_)
                  exact g_return d_R_comes_136 rfl ⟨rfl, by unfold p_R_comes; rw [if_neg (show ¬ (P 14 f = 0) from c_6), if_pos (show P 33 f = 1 from c_31), if_neg (show ¬ (P 34 (9 * f) = 1) from c_44), if_pos (show P 25 q = 9 from c_70), if_neg (show ¬ (P 32 q = 0) from c_83)]; exact hR⟩
        · skip
          refine g_iconst (v := 1) d_R_comes_47 (by decide) ?_
          refine g_goto 52 d_R_comes_48 (by decide) ?_
          refine g_istore d_R_comes_52 (by decide) ?_
          refine g_aload_n d_R_comes_54 rfl ?_
          refine r_arr 24 hR (by decide) (by decide) fl_R_80 rfl d_R_comes_55 ?_
          refine g_iload_n d_R_comes_58 rfl ?_
          refine r_iald 24 q hR (by decide) rfl d_R_comes_59 rfl (by show q < 160; omega) ?_
          have w_14 : sm (P 24 q) 39 := hW 24 q
          have w_14b := w_14.2
          refine g_istore d_R_comes_60 (by decide) ?_
          refine g_aload_n d_R_comes_62 rfl ?_
          refine r_arr 25 hR (by decide) (by decide) fl_R_83 rfl d_R_comes_63 ?_
          refine g_iload_n d_R_comes_66 rfl ?_
          refine r_iald 25 q hR (by decide) rfl d_R_comes_67 rfl (by show q < 160; omega) ?_
          refine g_bipush (v := 9) d_R_comes_68 (by decide) ?_
          refine g_icmp_ne 137 d_R_comes_70 (by decide) (fun c_70 => ?_) (fun c_70 => ?_)
          · skip
            refine g_aload_n d_R_comes_137 rfl ?_
            refine r_arr 23 hR (by decide) (by decide) fl_R_77 rfl d_R_comes_138 ?_
            refine g_iload_n d_R_comes_141 rfl ?_
            refine r_iald 23 q hR (by decide) rfl d_R_comes_142 rfl (by show q < 160; omega) ?_
            by_cases c_143_4 : P 23 q = 4
            · refine g_tableIn 180 d_R_comes_143 (by show ¬ (P 23 q).toInt < 4; rw [c_143_4]; decide) (by show ¬ 9 < (P 23 q).toInt; rw [c_143_4]; decide) (by show _[((P 23 q).toInt - 4).toNat]? = _; rw [c_143_4]; rfl) (by decide) ?_
              refine g_aload_n d_R_comes_180 rfl ?_
              refine r_arr 22 hR (by decide) (by decide) fl_R_74 rfl d_R_comes_181 ?_
              refine g_iload_n d_R_comes_184 rfl ?_
              refine g_dup2 d_R_comes_185 rfl (cat_rf _) ?_
              refine r_iald 22 f hR (by decide) rfl d_R_comes_186 rfl (by show f < 10; omega) ?_
              have w_15 : sm (P 22 f) 16 := hW 22 f
              have w_15b := w_15.2
              refine g_iconst (v := 1) d_R_comes_187 (by decide) ?_
              refine g_isub d_R_comes_188 ?_
              refine r_iast 22 f hR (by decide) rfl d_R_comes_189 rfl (by show f < 10; omega) (fun M hR => ?_)
              refine g_iload_n d_R_comes_190 rfl ?_
              refine g_if_eq 215 d_R_comes_191 (by decide) (fun c_191 => ?_) (fun c_191 => ?_)
              · skip
                refine g_aload_n d_R_comes_215 rfl ?_
                refine r_arr 23 hR (by decide) (by decide) fl_R_77 rfl d_R_comes_216 ?_
                refine g_iload_n d_R_comes_219 rfl ?_
                refine r_iald 23 q hR (by decide) rfl d_R_comes_220 rfl (by show q < 160; omega) ?_
                refine g_iconst (v := 5) d_R_comes_221 (by decide) ?_
                refine g_icmp_ne 455 d_R_comes_222 (by decide) (fun c_222 => ?_) (fun c_222 => ?_)
                · skip
                  exact g_return d_R_comes_455 rfl ⟨rfl, by unfold p_R_comes; rw [if_neg (show ¬ (P 14 f = 0) from c_6), if_pos (show P 33 f = 1 from c_31), if_pos (show P 34 (9 * f) = 1 from c_44), if_neg (show ¬ (P 25 q = 9) from c_70), if_pos (show P 23 q = 4 from c_143_4), if_neg (show ¬ (P 23 q = 5) from c_222)]; exact hR⟩
                · skip
                  refine g_iload d_R_comes_225 rfl ?_
                  refine g_if_eq 455 d_R_comes_227 (by decide) (fun c_227 => ?_) (fun c_227 => ?_)
                  · exact absurd c_227 (by first | decide | simp_all)
                  · skip
                    refine g_aload_n d_R_comes_230 rfl ?_
                    refine g_iload_n d_R_comes_231 rfl ?_
                    refine g_aload_n d_R_comes_232 rfl ?_
                    refine r_arr 3 hR (by decide) (by decide) fl_R_19 rfl d_R_comes_233 ?_
                    refine g_iload d_R_comes_236 rfl ?_
                    refine r_iald 3 (tn (P 24 q)) hR (by decide) rfl d_R_comes_238 w_14.1 (by show tn (P 24 q) < 40; omega) ?_
                    refine g_aload_n d_R_comes_239 rfl ?_
                    refine r_arr 35 hR (by decide) (by decide) fl_R_113 rfl d_R_comes_240 ?_
                    refine g_bipush (v := 9) d_R_comes_243 (by decide) ?_
                    refine g_iload_n d_R_comes_245 rfl ?_
                    refine g_imul d_R_comes_246 ?_
                    refine r_iald 35 (9 * f) hR (by decide) rfl d_R_comes_247 (ix_mul rfl rfl) (by show 9 * f < 1539; omega) ?_
                    refine r_call [.int (nI f), .int (P 3 (tn (P 24 q))), .int (P 35 (9 * f))] hR cw_R_233 cv_R_does d_R_comes_248 rfl rfl ⟨by simp, by simp⟩ (by decide) (c_R_does _ f (P 3 (tn (P 24 q))) (P 35 (9 * f)) (by omega)) (fun M hR => ?_)
                    refine g_goto 455 d_R_comes_251 (by decide) ?_
                    exact g_return d_R_comes_455 rfl ⟨rfl, by unfold p_R_comes; rw [if_neg (show ¬ (P 14 f = 0) from c_6), if_pos (show P 33 f = 1 from c_31), if_pos (show P 34 (9 * f) = 1 from c_44), if_neg (show ¬ (P 25 q = 9) from c_70), if_pos (show P 23 q = 4 from c_143_4), if_pos (show P 23 q = 5 from c_222)]; exact hR⟩
              · exact absurd c_191 (by first | decide | simp_all)
            by_cases c_143_5 : P 23 q = 5
            · refine g_tableIn 180 d_R_comes_143 (by show ¬ (P 23 q).toInt < 4; rw [c_143_5]; decide) (by show ¬ 9 < (P 23 q).toInt; rw [c_143_5]; decide) (by show _[((P 23 q).toInt - 4).toNat]? = _; rw [c_143_5]; rfl) (by decide) ?_
              refine g_aload_n d_R_comes_180 rfl ?_
              refine r_arr 22 hR (by decide) (by decide) fl_R_74 rfl d_R_comes_181 ?_
              refine g_iload_n d_R_comes_184 rfl ?_
              refine g_dup2 d_R_comes_185 rfl (cat_rf _) ?_
              refine r_iald 22 f hR (by decide) rfl d_R_comes_186 rfl (by show f < 10; omega) ?_
              have w_16 : sm (P 22 f) 16 := hW 22 f
              have w_16b := w_16.2
              refine g_iconst (v := 1) d_R_comes_187 (by decide) ?_
              refine g_isub d_R_comes_188 ?_
              refine r_iast 22 f hR (by decide) rfl d_R_comes_189 rfl (by show f < 10; omega) (fun M hR => ?_)
              refine g_iload_n d_R_comes_190 rfl ?_
              refine g_if_eq 215 d_R_comes_191 (by decide) (fun c_191 => ?_) (fun c_191 => ?_)
              · skip
                refine g_aload_n d_R_comes_215 rfl ?_
                refine r_arr 23 hR (by decide) (by decide) fl_R_77 rfl d_R_comes_216 ?_
                refine g_iload_n d_R_comes_219 rfl ?_
                refine r_iald 23 q hR (by decide) rfl d_R_comes_220 rfl (by show q < 160; omega) ?_
                refine g_iconst (v := 5) d_R_comes_221 (by decide) ?_
                refine g_icmp_ne 455 d_R_comes_222 (by decide) (fun c_222 => ?_) (fun c_222 => ?_)
                · exact absurd (show P 23 q = 5 from c_143_5) c_222
                · skip
                  refine g_iload d_R_comes_225 rfl ?_
                  refine g_if_eq 455 d_R_comes_227 (by decide) (fun c_227 => ?_) (fun c_227 => ?_)
                  · exact absurd c_227 (by first | decide | simp_all)
                  · skip
                    refine g_aload_n d_R_comes_230 rfl ?_
                    refine g_iload_n d_R_comes_231 rfl ?_
                    refine g_aload_n d_R_comes_232 rfl ?_
                    refine r_arr 3 hR (by decide) (by decide) fl_R_19 rfl d_R_comes_233 ?_
                    refine g_iload d_R_comes_236 rfl ?_
                    refine r_iald 3 (tn (P 24 q)) hR (by decide) rfl d_R_comes_238 w_14.1 (by show tn (P 24 q) < 40; omega) ?_
                    refine g_aload_n d_R_comes_239 rfl ?_
                    refine r_arr 35 hR (by decide) (by decide) fl_R_113 rfl d_R_comes_240 ?_
                    refine g_bipush (v := 9) d_R_comes_243 (by decide) ?_
                    refine g_iload_n d_R_comes_245 rfl ?_
                    refine g_imul d_R_comes_246 ?_
                    refine r_iald 35 (9 * f) hR (by decide) rfl d_R_comes_247 (ix_mul rfl rfl) (by show 9 * f < 1539; omega) ?_
                    refine r_call [.int (nI f), .int (P 3 (tn (P 24 q))), .int (P 35 (9 * f))] hR cw_R_233 cv_R_does d_R_comes_248 rfl rfl ⟨by simp, by simp⟩ (by decide) (c_R_does _ f (P 3 (tn (P 24 q))) (P 35 (9 * f)) (by omega)) (fun M hR => ?_)
                    refine g_goto 455 d_R_comes_251 (by decide) ?_
                    exact g_return d_R_comes_455 rfl ⟨rfl, by unfold p_R_comes; rw [if_neg (show ¬ (P 14 f = 0) from c_6), if_pos (show P 33 f = 1 from c_31), if_pos (show P 34 (9 * f) = 1 from c_44), if_neg (show ¬ (P 25 q = 9) from c_70), if_neg (show ¬ (P 23 q = 4) from c_143_4), if_pos (show P 23 q = 5 from c_143_5)]; exact hR⟩
              · exact absurd c_191 (by first | decide | simp_all)
            by_cases c_143_6 : P 23 q = 6
            · refine g_tableIn 402 d_R_comes_143 (by show ¬ (P 23 q).toInt < 4; rw [c_143_6]; decide) (by show ¬ 9 < (P 23 q).toInt; rw [c_143_6]; decide) (by show _[((P 23 q).toInt - 4).toNat]? = _; rw [c_143_6]; rfl) (by decide) ?_
              refine g_aload_n d_R_comes_402 rfl ?_
              refine r_arr 23 hR (by decide) (by decide) fl_R_77 rfl d_R_comes_403 ?_
              refine g_iload_n d_R_comes_406 rfl ?_
              refine r_iald 23 q hR (by decide) rfl d_R_comes_407 rfl (by show q < 160; omega) ?_
              refine g_bipush (v := 6) d_R_comes_408 (by decide) ?_
              refine g_icmp_ne 449 d_R_comes_410 (by decide) (fun c_410 => ?_) (fun c_410 => ?_)
              · exact absurd (show P 23 q = 6 from c_143_6) c_410
              · skip
                refine g_aload_n d_R_comes_413 rfl ?_
                refine r_arr 29 hR (by decide) (by decide) fl_R_95 rfl d_R_comes_414 ?_
                refine g_iconst (v := 4) d_R_comes_417 (by decide) ?_
                refine g_iload_n d_R_comes_418 rfl ?_
                refine g_imul d_R_comes_419 ?_
                refine g_aload_n d_R_comes_420 rfl ?_
                refine r_arr 2 hR (by decide) (by decide) fl_R_16 rfl d_R_comes_421 ?_
                refine g_iload d_R_comes_424 rfl ?_
                refine r_iald 2 (tn (P 24 q)) hR (by decide) rfl d_R_comes_426 w_14.1 (by show tn (P 24 q) < 40; omega) ?_
                refine r_iast 29 (4 * q) hR (by decide) rfl d_R_comes_427 (ix_mul rfl rfl) (by show 4 * q < 640; omega) (fun M hR => ?_)
                refine g_aload_n d_R_comes_428 rfl ?_
                refine r_arr 30 hR (by decide) (by decide) fl_R_98 rfl d_R_comes_429 ?_
                refine g_iconst (v := 4) d_R_comes_432 (by decide) ?_
                refine g_iload_n d_R_comes_433 rfl ?_
                refine g_imul d_R_comes_434 ?_
                refine g_aload_n d_R_comes_435 rfl ?_
                refine r_arr 26 hR (by decide) (by decide) fl_R_86 rfl d_R_comes_436 ?_
                refine g_iload_n d_R_comes_439 rfl ?_
                refine r_iald 26 q hR (by decide) rfl d_R_comes_440 rfl (by show q < 160; omega) ?_
                refine r_iast 30 (4 * q) hR (by decide) rfl d_R_comes_441 (ix_mul rfl rfl) (by show 4 * q < 640; omega) (fun M hR => ?_)
                refine g_aload_n d_R_comes_442 rfl ?_
                refine r_arr 28 hR (by decide) (by decide) fl_R_92 rfl d_R_comes_443 ?_
                refine g_iload_n d_R_comes_446 rfl ?_
                refine g_iconst (v := 1) d_R_comes_447 (by decide) ?_
                refine r_iast 28 q hR (by decide) rfl d_R_comes_448 rfl (by show q < 160; omega) (fun M hR => ?_)
                refine g_aload_n d_R_comes_449 rfl ?_
                refine g_iload_n d_R_comes_450 rfl ?_
                refine g_iload_n d_R_comes_451 rfl ?_
                refine r_call [.int (nI f), .int (nI q)] hR cw_R_261 cv_R_closes d_R_comes_452 rfl rfl ⟨by simp, by simp⟩ (by decide) (c_R_closes _ f q (WB.up (f := 28) (j := q) (x := 1) (WB.up (f := 30) (j := 4 * q) (x := P 26 q) (WB.up (f := 29) (j := 4 * q) (x := P 2 (tn (P 24 q))) hW (he2 c_410)) (by first | exact trivial | exact Or.inl rfl | exact Or.inr rfl)) (sm_nI (n := 1) (N := 4) (by decide) (by decide))) (by omega) (by omega) hd1) (fun M hR => ?_)
                exact g_return d_R_comes_455 rfl ⟨rfl, by unfold p_R_comes; rw [if_neg (show ¬ (P 14 f = 0) from c_6), if_pos (show P 33 f = 1 from c_31), if_pos (show P 34 (9 * f) = 1 from c_44), if_neg (show ¬ (P 25 q = 9) from c_70), if_neg (show ¬ (P 23 q = 4) from c_143_4), if_neg (show ¬ (P 23 q = 5) from c_143_5), if_pos (show P 23 q = 6 from c_143_6)]; exact hR⟩
            by_cases c_143_7 : P 23 q = 7
            · refine g_tableIn 279 d_R_comes_143 (by show ¬ (P 23 q).toInt < 4; rw [c_143_7]; decide) (by show ¬ 9 < (P 23 q).toInt; rw [c_143_7]; decide) (by show _[((P 23 q).toInt - 4).toNat]? = _; rw [c_143_7]; rfl) (by decide) ?_
              refine g_aload_n d_R_comes_279 rfl ?_
              refine r_arr 25 hR (by decide) (by decide) fl_R_83 rfl d_R_comes_280 ?_
              refine g_iload_n d_R_comes_283 rfl ?_
              refine r_iald 25 q hR (by decide) rfl d_R_comes_284 rfl (by show q < 160; omega) ?_
              refine g_if_ne 357 d_R_comes_285 (by decide) (fun c_285 => ?_) (fun c_285 => ?_)
              · skip
                refine g_aload_n d_R_comes_357 rfl ?_
                refine r_arr 29 hR (by decide) (by decide) fl_R_95 rfl d_R_comes_358 ?_
                refine g_iconst (v := 4) d_R_comes_361 (by decide) ?_
                refine g_iload_n d_R_comes_362 rfl ?_
                refine g_imul d_R_comes_363 ?_
                refine g_aload_n d_R_comes_364 rfl ?_
                refine r_arr 3 hR (by decide) (by decide) fl_R_19 rfl d_R_comes_365 ?_
                refine g_iload d_R_comes_368 rfl ?_
                refine r_iald 3 (tn (P 24 q)) hR (by decide) rfl d_R_comes_370 w_14.1 (by show tn (P 24 q) < 40; omega) ?_
                refine r_iast 29 (4 * q) hR (by decide) rfl d_R_comes_371 (ix_mul rfl rfl) (by show 4 * q < 640; omega) (fun M hR => ?_)
                refine g_aload_n d_R_comes_372 rfl ?_
                refine r_arr 30 hR (by decide) (by decide) fl_R_98 rfl d_R_comes_373 ?_
                refine g_iconst (v := 4) d_R_comes_376 (by decide) ?_
                refine g_iload_n d_R_comes_377 rfl ?_
                refine g_imul d_R_comes_378 ?_
                refine g_aload_n d_R_comes_379 rfl ?_
                refine r_arr 26 hR (by decide) (by decide) fl_R_86 rfl d_R_comes_380 ?_
                refine g_iload_n d_R_comes_383 rfl ?_
                refine r_iald 26 q hR (by decide) rfl d_R_comes_384 rfl (by show q < 160; omega) ?_
                refine r_iast 30 (4 * q) hR (by decide) rfl d_R_comes_385 (ix_mul rfl rfl) (by show 4 * q < 640; omega) (fun M hR => ?_)
                refine g_aload_n d_R_comes_386 rfl ?_
                refine r_arr 28 hR (by decide) (by decide) fl_R_92 rfl d_R_comes_387 ?_
                refine g_iload_n d_R_comes_390 rfl ?_
                refine g_iconst (v := 1) d_R_comes_391 (by decide) ?_
                refine r_iast 28 q hR (by decide) rfl d_R_comes_392 rfl (by show q < 160; omega) (fun M hR => ?_)
                refine g_aload_n d_R_comes_393 rfl ?_
                refine g_iload_n d_R_comes_394 rfl ?_
                refine g_iload_n d_R_comes_395 rfl ?_
                refine r_call [.int (nI f), .int (nI q)] hR cw_R_261 cv_R_closes d_R_comes_396 rfl rfl ⟨by simp, by simp⟩ (by decide) (c_R_closes _ f q (WB.up (f := 28) (j := q) (x := 1) (WB.up (f := 30) (j := 4 * q) (x := P 26 q) (WB.up (f := 29) (j := 4 * q) (x := P 3 (tn (P 24 q))) hW (he3 c_143_7)) (by first | exact trivial | exact Or.inl rfl | exact Or.inr rfl)) (sm_nI (n := 1) (N := 4) (by decide) (by decide))) (by omega) (by omega) hd1) (fun M hR => ?_)
                refine g_goto 455 d_R_comes_399 (by decide) ?_
                exact g_return d_R_comes_455 rfl ⟨rfl, by unfold p_R_comes; rw [if_neg (show ¬ (P 14 f = 0) from c_6), if_pos (show P 33 f = 1 from c_31), if_pos (show P 34 (9 * f) = 1 from c_44), if_neg (show ¬ (P 25 q = 9) from c_70), if_neg (show ¬ (P 23 q = 4) from c_143_4), if_neg (show ¬ (P 23 q = 5) from c_143_5), if_neg (show ¬ (P 23 q = 6) from c_143_6), if_pos (show P 23 q = 7 from c_143_7), if_neg (show ¬ (P 25 q = 0) from c_285)]; exact hR⟩
              · skip
                refine g_aload_n d_R_comes_288 rfl ?_
                refine r_arr 10 hR (by decide) (by decide) fl_R_37 rfl d_R_comes_289 ?_
                refine g_iload_n d_R_comes_292 rfl ?_
                refine g_aload_n d_R_comes_293 rfl ?_
                refine r_arr 31 hR (by decide) (by decide) fl_R_101 rfl d_R_comes_294 ?_
                refine g_iload_n d_R_comes_297 rfl ?_
                refine r_zald 31 q hR (by decide) rfl d_R_comes_298 rfl (by show q < 160; omega) ?_
                refine r_zast 10 f hR (by decide) rfl (hW 31 q) d_R_comes_299 rfl (by show f < 10; omega) (fun M hR => ?_)
                refine g_iload_n d_R_comes_300 rfl ?_
                refine g_if_ne 317 d_R_comes_301 (by decide) (fun c_301 => ?_) (fun c_301 => ?_)
                · exact absurd c_301 (by first | decide | simp_all)
                · skip
                  refine g_aload_n d_R_comes_304 rfl ?_
                  refine r_arr 22 hR (by decide) (by decide) fl_R_74 rfl d_R_comes_305 ?_
                  refine g_iload_n d_R_comes_308 rfl ?_
                  refine g_dup2 d_R_comes_309 rfl (cat_rf _) ?_
                  refine r_iald 22 f hR (by decide) rfl d_R_comes_310 rfl (by show f < 10; omega) ?_
                  have w_17 : sm (P 22 f) 16 := hW 22 f
                  have w_17b := w_17.2
                  refine g_iconst (v := 1) d_R_comes_311 (by decide) ?_
                  refine g_isub d_R_comes_312 ?_
                  refine r_iast 22 f hR (by decide) rfl d_R_comes_313 rfl (by show f < 10; omega) (fun M hR => ?_)
                  refine g_goto 455 d_R_comes_314 (by decide) ?_
                  exact g_return d_R_comes_455 rfl ⟨rfl, by unfold p_R_comes; rw [if_neg (show ¬ (P 14 f = 0) from c_6), if_pos (show P 33 f = 1 from c_31), if_pos (show P 34 (9 * f) = 1 from c_44), if_neg (show ¬ (P 25 q = 9) from c_70), if_neg (show ¬ (P 23 q = 4) from c_143_4), if_neg (show ¬ (P 23 q = 5) from c_143_5), if_neg (show ¬ (P 23 q = 6) from c_143_6), if_pos (show P 23 q = 7 from c_143_7), if_pos (show P 25 q = 0 from c_285)]; exact hR⟩
            by_cases c_143_8 : P 23 q = 8
            · refine g_tableIn 254 d_R_comes_143 (by show ¬ (P 23 q).toInt < 4; rw [c_143_8]; decide) (by show ¬ 9 < (P 23 q).toInt; rw [c_143_8]; decide) (by show _[((P 23 q).toInt - 4).toNat]? = _; rw [c_143_8]; rfl) (by decide) ?_
              refine g_aload_n d_R_comes_254 rfl ?_
              refine r_arr 22 hR (by decide) (by decide) fl_R_74 rfl d_R_comes_255 ?_
              refine g_iload_n d_R_comes_258 rfl ?_
              refine g_dup2 d_R_comes_259 rfl (cat_rf _) ?_
              refine r_iald 22 f hR (by decide) rfl d_R_comes_260 rfl (by show f < 10; omega) ?_
              have w_18 : sm (P 22 f) 16 := hW 22 f
              have w_18b := w_18.2
              refine g_iconst (v := 1) d_R_comes_261 (by decide) ?_
              refine g_isub d_R_comes_262 ?_
              refine r_iast 22 f hR (by decide) rfl d_R_comes_263 rfl (by show f < 10; omega) (fun M hR => ?_)
              refine g_aload_n d_R_comes_264 rfl ?_
              refine r_arr 10 hR (by decide) (by decide) fl_R_37 rfl d_R_comes_265 ?_
              refine g_iload_n d_R_comes_268 rfl ?_
              refine g_aload_n d_R_comes_269 rfl ?_
              refine r_arr 31 hR (by decide) (by decide) fl_R_101 rfl d_R_comes_270 ?_
              refine g_iload_n d_R_comes_273 rfl ?_
              refine r_zald 31 q hR (by decide) rfl d_R_comes_274 rfl (by show q < 160; omega) ?_
              refine r_zast 10 f hR (by decide) rfl (hW 31 q) d_R_comes_275 rfl (by show f < 10; omega) (fun M hR => ?_)
              refine g_goto 455 d_R_comes_276 (by decide) ?_
              exact g_return d_R_comes_455 rfl ⟨rfl, by unfold p_R_comes; rw [if_neg (show ¬ (P 14 f = 0) from c_6), if_pos (show P 33 f = 1 from c_31), if_pos (show P 34 (9 * f) = 1 from c_44), if_neg (show ¬ (P 25 q = 9) from c_70), if_neg (show ¬ (P 23 q = 4) from c_143_4), if_neg (show ¬ (P 23 q = 5) from c_143_5), if_neg (show ¬ (P 23 q = 6) from c_143_6), if_neg (show ¬ (P 23 q = 7) from c_143_7), if_pos (show P 23 q = 8 from c_143_8)]; exact hR⟩
            by_cases c_143_9 : P 23 q = 9
            · refine g_tableIn 254 d_R_comes_143 (by show ¬ (P 23 q).toInt < 4; rw [c_143_9]; decide) (by show ¬ 9 < (P 23 q).toInt; rw [c_143_9]; decide) (by show _[((P 23 q).toInt - 4).toNat]? = _; rw [c_143_9]; rfl) (by decide) ?_
              refine g_aload_n d_R_comes_254 rfl ?_
              refine r_arr 22 hR (by decide) (by decide) fl_R_74 rfl d_R_comes_255 ?_
              refine g_iload_n d_R_comes_258 rfl ?_
              refine g_dup2 d_R_comes_259 rfl (cat_rf _) ?_
              refine r_iald 22 f hR (by decide) rfl d_R_comes_260 rfl (by show f < 10; omega) ?_
              have w_19 : sm (P 22 f) 16 := hW 22 f
              have w_19b := w_19.2
              refine g_iconst (v := 1) d_R_comes_261 (by decide) ?_
              refine g_isub d_R_comes_262 ?_
              refine r_iast 22 f hR (by decide) rfl d_R_comes_263 rfl (by show f < 10; omega) (fun M hR => ?_)
              refine g_aload_n d_R_comes_264 rfl ?_
              refine r_arr 10 hR (by decide) (by decide) fl_R_37 rfl d_R_comes_265 ?_
              refine g_iload_n d_R_comes_268 rfl ?_
              refine g_aload_n d_R_comes_269 rfl ?_
              refine r_arr 31 hR (by decide) (by decide) fl_R_101 rfl d_R_comes_270 ?_
              refine g_iload_n d_R_comes_273 rfl ?_
              refine r_zald 31 q hR (by decide) rfl d_R_comes_274 rfl (by show q < 160; omega) ?_
              refine r_zast 10 f hR (by decide) rfl (hW 31 q) d_R_comes_275 rfl (by show f < 10; omega) (fun M hR => ?_)
              refine g_goto 455 d_R_comes_276 (by decide) ?_
              exact g_return d_R_comes_455 rfl ⟨rfl, by unfold p_R_comes; rw [if_neg (show ¬ (P 14 f = 0) from c_6), if_pos (show P 33 f = 1 from c_31), if_pos (show P 34 (9 * f) = 1 from c_44), if_neg (show ¬ (P 25 q = 9) from c_70), if_neg (show ¬ (P 23 q = 4) from c_143_4), if_neg (show ¬ (P 23 q = 5) from c_143_5), if_neg (show ¬ (P 23 q = 6) from c_143_6), if_neg (show ¬ (P 23 q = 7) from c_143_7), if_neg (show ¬ (P 23 q = 8) from c_143_8), if_pos (show P 23 q = 9 from c_143_9)]; exact hR⟩
            refine g_tableOut 402 d_R_comes_143 (sw_4_9 c_143_4 c_143_5 c_143_6 c_143_7 c_143_8 c_143_9) (by decide) ?_
            refine g_aload_n d_R_comes_402 rfl ?_
            refine r_arr 23 hR (by decide) (by decide) fl_R_77 rfl d_R_comes_403 ?_
            refine g_iload_n d_R_comes_406 rfl ?_
            refine r_iald 23 q hR (by decide) rfl d_R_comes_407 rfl (by show q < 160; omega) ?_
            refine g_bipush (v := 6) d_R_comes_408 (by decide) ?_
            refine g_icmp_ne 449 d_R_comes_410 (by decide) (fun c_410 => ?_) (fun c_410 => ?_)
            · skip
              refine g_aload_n d_R_comes_449 rfl ?_
              refine g_iload_n d_R_comes_450 rfl ?_
              refine g_iload_n d_R_comes_451 rfl ?_
              refine r_call [.int (nI f), .int (nI q)] hR cw_R_261 cv_R_closes d_R_comes_452 rfl rfl ⟨by simp, by simp⟩ (by decide) (c_R_closes _ f q hW (by omega) (by omega) hd1) (fun M hR => ?_)
              exact g_return d_R_comes_455 rfl ⟨rfl, by unfold p_R_comes; rw [if_neg (show ¬ (P 14 f = 0) from c_6), if_pos (show P 33 f = 1 from c_31), if_pos (show P 34 (9 * f) = 1 from c_44), if_neg (show ¬ (P 25 q = 9) from c_70), if_neg (show ¬ (P 23 q = 4) from c_143_4), if_neg (show ¬ (P 23 q = 5) from c_143_5), if_neg (show ¬ (P 23 q = 6) from c_143_6), if_neg (show ¬ (P 23 q = 7) from c_143_7), if_neg (show ¬ (P 23 q = 8) from c_143_8), if_neg (show ¬ (P 23 q = 9) from c_143_9)]; exact hR⟩
            · exact absurd (show P 23 q = 6 from c_410) c_143_6
          · skip
            refine g_iload_n d_R_comes_73 rfl ?_
            refine g_if_ne 99 d_R_comes_74 (by decide) (fun c_74 => ?_) (fun c_74 => ?_)
            · exact absurd c_74 (by first | decide | simp_all)
            · skip
              refine g_aload_n d_R_comes_77 rfl ?_
              refine r_arr 32 hR (by decide) (by decide) fl_R_104 rfl d_R_comes_78 ?_
              refine g_iload_n d_R_comes_81 rfl ?_
              refine r_zald 32 q hR (by decide) rfl d_R_comes_82 rfl (by show q < 160; omega) ?_
              refine g_if_eq 99 d_R_comes_83 (by decide) (fun c_83 => ?_) (fun c_83 => ?_)
              · skip
                refine g_iload_n d_R_comes_99 rfl ?_
                refine g_if_ne 112 d_R_comes_100 (by decide) (fun c_100 => ?_) (fun c_100 => ?_)
                · exact absurd c_100 (by first | decide | simp_all)
                · skip
                  refine g_aload_n d_R_comes_103 rfl ?_
                  refine g_iload_n d_R_comes_104 rfl ?_
                  refine g_bipush (v := 10) d_R_comes_105 (by decide) ?_
                  refine g_iload_n d_R_comes_107 rfl ?_
                  refine g_iadd d_R_comes_108 ?_
                  refine r_call [.int (nI f), .int (nI (10 + q))] hR cw_R_252 cv_R_copy d_R_comes_109 rfl (by rw [← (show (10 + (nI q) : Int32) = nI (10 + q) from ix_add rfl rfl)]; try rfl) ⟨by simp, by simp⟩ (by decide) (c_R_copy _ f (10 + q) (by omega) (by omega)) (fun M hR => ?_)
                  refine g_aload_n d_R_comes_112 rfl ?_
                  refine r_arr 32 hR (by decide) (by decide) fl_R_104 rfl d_R_comes_113 ?_
                  refine g_iload_n d_R_comes_116 rfl ?_
                  refine g_dup2 d_R_comes_117 rfl (cat_rf _) ?_
                  refine r_zald 32 q hR (by decide) rfl d_R_comes_118 rfl (by show q < 160; omega) ?_
                  refine g_iload_n d_R_comes_119 rfl ?_
                  refine g_if_ne 127 d_R_comes_120 (by decide) (fun c_120 => ?_) (fun c_120 => ?_)
                  · exact absurd c_120 (by first | decide | simp_all)
                  · skip
                    refine g_iconst (v := 1) d_R_comes_123 (by decide) ?_
                    refine g_goto 128 d_R_comes_124 (by decide) ?_
                    refine g_ior d_R_comes_128 ?_
                    refine r_zast 32 q hR (by decide) rfl (or1_01 ((wb_copy hW _ _) 32 q)) d_R_comes_129 rfl (by show q < 160; omega) (fun M hR => ?_)
                    refine g_aload_n d_R_comes_130 rfl ?_
                    refine g_iload_n d_R_comes_131 rfl ?_
                    refine g_iload_n d_R_comes_132 rfl ?_
                    refine r_call [.int (nI f), .int (nI q)] hR cw_R_258 cv_R_close d_R_comes_133 rfl rfl ⟨by simp, by simp⟩ (by decide) (c_R_close _ f q (WB.up (f := 32) (j := q) (x := ((p_R_copy P f (10 + q)) 32 q) ||| 1) (wb_copy hW _ _) (or1_01 ((wb_copy hW _ _) 32 q))) (by omega) (by omega) (by show 1 ≤ tn ((p_R_copy P f (10 + q)) 22 f); rw [copy_fr _ _ _ (by decide)]; exact hd1)) (fun M hR => ?_)
                    exact g_return d_R_comes_136 rfl ⟨rfl, by unfold p_R_comes; rw [if_neg (show ¬ (P 14 f = 0) from c_6), if_pos (show P 33 f = 1 from c_31), if_pos (show P 34 (9 * f) = 1 from c_44), if_pos (show P 25 q = 9 from c_70), if_pos (show P 32 q = 0 from c_83)]; exact hR⟩
              · skip
                refine g_aload_n d_R_comes_86 rfl ?_
                refine g_bipush (v := 10) d_R_comes_87 (by decide) ?_
                refine g_iload_n d_R_comes_89 rfl ?_
                refine g_iadd d_R_comes_90 ?_
                refine g_iload_n d_R_comes_91 rfl ?_
                refine g_iconst (v := 4) d_R_comes_92 (by decide) ?_
                refine r_call [.int (nI (10 + q)), .int (nI f), .int (4)] hR cw_R_255 cv_R_join d_R_comes_93 rfl (by rw [← (show (10 + (nI q) : Int32) = nI (10 + q) from ix_add rfl rfl)]; try rfl) ⟨by simp, by simp⟩ (by decide) (c_R_join _ (10 + q) f 4 (by omega) (by omega) (show sm _ 9 from hW 33 _).1 (show sm _ 9 from hW 33 _).2 (show sm _ 9 from hW 33 _).1 (show sm _ 9 from hW 33 _).2) (fun M hR => ?_)
                refine g_goto 112 d_R_comes_96 (by decide) ?_
                refine g_aload_n d_R_comes_112 rfl ?_
                refine r_arr 32 hR (by decide) (by decide) fl_R_104 rfl d_R_comes_113 ?_
                refine g_iload_n d_R_comes_116 rfl ?_
                refine g_dup2 d_R_comes_117 rfl (cat_rf _) ?_
                refine r_zald 32 q hR (by decide) rfl d_R_comes_118 rfl (by show q < 160; omega) ?_
                refine g_iload_n d_R_comes_119 rfl ?_
                refine g_if_ne 127 d_R_comes_120 (by decide) (fun c_120 => ?_) (fun c_120 => ?_)
                · exact absurd c_120 (by first | decide | simp_all)
                · skip
                  refine g_iconst (v := 1) d_R_comes_123 (by decide) ?_
                  refine g_goto 128 d_R_comes_124 (by decide) ?_
                  refine g_ior d_R_comes_128 ?_
                  refine r_zast 32 q hR (by decide) rfl (or1_01 ((wb_join hW _ _ _) 32 q)) d_R_comes_129 rfl (by show q < 160; omega) (fun M hR => ?_)
                  refine g_aload_n d_R_comes_130 rfl ?_
                  refine g_iload_n d_R_comes_131 rfl ?_
                  refine g_iload_n d_R_comes_132 rfl ?_
                  refine r_call [.int (nI f), .int (nI q)] hR cw_R_258 cv_R_close d_R_comes_133 rfl rfl ⟨by simp, by simp⟩ (by decide) (c_R_close _ f q (WB.up (f := 32) (j := q) (x := ((p_R_join P (10 + q) f 4) 32 q) ||| 1) (wb_join hW _ _ _) (or1_01 ((wb_join hW _ _ _) 32 q))) (by omega) (by omega) (by show 1 ≤ tn ((p_R_join P (10 + q) f 4) 22 f); rw [join_fr _ _ _ _ (by decide)]; exact hd1)) (fun M hR => ?_)
                  exact g_return d_R_comes_136 rfl ⟨rfl, by unfold p_R_comes; rw [if_neg (show ¬ (P 14 f = 0) from c_6), if_pos (show P 33 f = 1 from c_31), if_pos (show P 34 (9 * f) = 1 from c_44), if_pos (show P 25 q = 9 from c_70), if_neg (show ¬ (P 32 q = 0) from c_83)]; exact hR⟩
  · skip
    refine g_iconst (v := 1) d_R_comes_9 (by decide) ?_
    refine g_goto 14 d_R_comes_10 (by decide) ?_
    refine g_istore_n d_R_comes_14 (by decide) ?_
    refine g_aload_n d_R_comes_15 rfl ?_
    refine r_arr 14 hR (by decide) (by decide) fl_R_50 rfl d_R_comes_16 ?_
    refine g_iload_n d_R_comes_19 rfl ?_
    refine r_zald 14 f hR (by decide) rfl d_R_comes_20 rfl (by show f < 10; omega) ?_
    refine g_if_eq 51 d_R_comes_21 (by decide) (fun c_21 => ?_) (fun c_21 => ?_)
    · skip
      refine g_iconst (v := 0) d_R_comes_51 (by decide) ?_
      refine g_istore d_R_comes_52 (by decide) ?_
      refine g_aload_n d_R_comes_54 rfl ?_
      refine r_arr 24 hR (by decide) (by decide) fl_R_80 rfl d_R_comes_55 ?_
      refine g_iload_n d_R_comes_58 rfl ?_
      refine r_iald 24 q hR (by decide) rfl d_R_comes_59 rfl (by show q < 160; omega) ?_
      have w_20 : sm (P 24 q) 39 := hW 24 q
      have w_20b := w_20.2
      refine g_istore d_R_comes_60 (by decide) ?_
      refine g_aload_n d_R_comes_62 rfl ?_
      refine r_arr 25 hR (by decide) (by decide) fl_R_83 rfl d_R_comes_63 ?_
      refine g_iload_n d_R_comes_66 rfl ?_
      refine r_iald 25 q hR (by decide) rfl d_R_comes_67 rfl (by show q < 160; omega) ?_
      refine g_bipush (v := 9) d_R_comes_68 (by decide) ?_
      refine g_icmp_ne 137 d_R_comes_70 (by decide) (fun c_70 => ?_) (fun c_70 => ?_)
      · skip
        refine g_aload_n d_R_comes_137 rfl ?_
        refine r_arr 23 hR (by decide) (by decide) fl_R_77 rfl d_R_comes_138 ?_
        refine g_iload_n d_R_comes_141 rfl ?_
        refine r_iald 23 q hR (by decide) rfl d_R_comes_142 rfl (by show q < 160; omega) ?_
        by_cases c_143_4 : P 23 q = 4
        · refine g_tableIn 180 d_R_comes_143 (by show ¬ (P 23 q).toInt < 4; rw [c_143_4]; decide) (by show ¬ 9 < (P 23 q).toInt; rw [c_143_4]; decide) (by show _[((P 23 q).toInt - 4).toNat]? = _; rw [c_143_4]; rfl) (by decide) ?_
          refine g_aload_n d_R_comes_180 rfl ?_
          refine r_arr 22 hR (by decide) (by decide) fl_R_74 rfl d_R_comes_181 ?_
          refine g_iload_n d_R_comes_184 rfl ?_
          refine g_dup2 d_R_comes_185 rfl (cat_rf _) ?_
          refine r_iald 22 f hR (by decide) rfl d_R_comes_186 rfl (by show f < 10; omega) ?_
          have w_21 : sm (P 22 f) 16 := hW 22 f
          have w_21b := w_21.2
          refine g_iconst (v := 1) d_R_comes_187 (by decide) ?_
          refine g_isub d_R_comes_188 ?_
          refine r_iast 22 f hR (by decide) rfl d_R_comes_189 rfl (by show f < 10; omega) (fun M hR => ?_)
          refine g_iload_n d_R_comes_190 rfl ?_
          refine g_if_eq 215 d_R_comes_191 (by decide) (fun c_191 => ?_) (fun c_191 => ?_)
          · exact absurd c_191 (by first | decide | simp_all)
          · skip
            refine g_aload_n d_R_comes_194 rfl ?_
            refine g_iload_n d_R_comes_195 rfl ?_
            refine g_aload_n d_R_comes_196 rfl ?_
            refine r_arr 2 hR (by decide) (by decide) fl_R_16 rfl d_R_comes_197 ?_
            refine g_iload d_R_comes_200 rfl ?_
            refine r_iald 2 (tn (P 24 q)) hR (by decide) rfl d_R_comes_202 w_20.1 (by show tn (P 24 q) < 40; omega) ?_
            refine g_aload_n d_R_comes_203 rfl ?_
            refine r_arr 13 hR (by decide) (by decide) fl_R_47 rfl d_R_comes_204 ?_
            refine g_iload_n d_R_comes_207 rfl ?_
            refine r_iald 13 f hR (by decide) rfl d_R_comes_208 rfl (by show f < 10; omega) ?_
            refine r_call [.int (nI f), .int (P 2 (tn (P 24 q))), .int (P 13 f)] hR cw_R_233 cv_R_does d_R_comes_209 rfl rfl ⟨by simp, by simp⟩ (by decide) (c_R_does _ f (P 2 (tn (P 24 q))) (P 13 f) (by omega)) (fun M hR => ?_)
            refine g_goto 455 d_R_comes_212 (by decide) ?_
            exact g_return d_R_comes_455 rfl ⟨rfl, by unfold p_R_comes; rw [if_pos (show P 14 f = 0 from c_6), if_neg (show ¬ (P 25 q = 9) from c_70), if_pos (show P 23 q = 4 from c_143_4)]; exact hR⟩
        by_cases c_143_5 : P 23 q = 5
        · refine g_tableIn 180 d_R_comes_143 (by show ¬ (P 23 q).toInt < 4; rw [c_143_5]; decide) (by show ¬ 9 < (P 23 q).toInt; rw [c_143_5]; decide) (by show _[((P 23 q).toInt - 4).toNat]? = _; rw [c_143_5]; rfl) (by decide) ?_
          refine g_aload_n d_R_comes_180 rfl ?_
          refine r_arr 22 hR (by decide) (by decide) fl_R_74 rfl d_R_comes_181 ?_
          refine g_iload_n d_R_comes_184 rfl ?_
          refine g_dup2 d_R_comes_185 rfl (cat_rf _) ?_
          refine r_iald 22 f hR (by decide) rfl d_R_comes_186 rfl (by show f < 10; omega) ?_
          have w_22 : sm (P 22 f) 16 := hW 22 f
          have w_22b := w_22.2
          refine g_iconst (v := 1) d_R_comes_187 (by decide) ?_
          refine g_isub d_R_comes_188 ?_
          refine r_iast 22 f hR (by decide) rfl d_R_comes_189 rfl (by show f < 10; omega) (fun M hR => ?_)
          refine g_iload_n d_R_comes_190 rfl ?_
          refine g_if_eq 215 d_R_comes_191 (by decide) (fun c_191 => ?_) (fun c_191 => ?_)
          · exact absurd c_191 (by first | decide | simp_all)
          · skip
            refine g_aload_n d_R_comes_194 rfl ?_
            refine g_iload_n d_R_comes_195 rfl ?_
            refine g_aload_n d_R_comes_196 rfl ?_
            refine r_arr 2 hR (by decide) (by decide) fl_R_16 rfl d_R_comes_197 ?_
            refine g_iload d_R_comes_200 rfl ?_
            refine r_iald 2 (tn (P 24 q)) hR (by decide) rfl d_R_comes_202 w_20.1 (by show tn (P 24 q) < 40; omega) ?_
            refine g_aload_n d_R_comes_203 rfl ?_
            refine r_arr 13 hR (by decide) (by decide) fl_R_47 rfl d_R_comes_204 ?_
            refine g_iload_n d_R_comes_207 rfl ?_
            refine r_iald 13 f hR (by decide) rfl d_R_comes_208 rfl (by show f < 10; omega) ?_
            refine r_call [.int (nI f), .int (P 2 (tn (P 24 q))), .int (P 13 f)] hR cw_R_233 cv_R_does d_R_comes_209 rfl rfl ⟨by simp, by simp⟩ (by decide) (c_R_does _ f (P 2 (tn (P 24 q))) (P 13 f) (by omega)) (fun M hR => ?_)
            refine g_goto 455 d_R_comes_212 (by decide) ?_
            exact g_return d_R_comes_455 rfl ⟨rfl, by unfold p_R_comes; rw [if_pos (show P 14 f = 0 from c_6), if_neg (show ¬ (P 25 q = 9) from c_70), if_neg (show ¬ (P 23 q = 4) from c_143_4), if_pos (show P 23 q = 5 from c_143_5)]; exact hR⟩
        by_cases c_143_6 : P 23 q = 6
        · refine g_tableIn 402 d_R_comes_143 (by show ¬ (P 23 q).toInt < 4; rw [c_143_6]; decide) (by show ¬ 9 < (P 23 q).toInt; rw [c_143_6]; decide) (by show _[((P 23 q).toInt - 4).toNat]? = _; rw [c_143_6]; rfl) (by decide) ?_
          refine g_aload_n d_R_comes_402 rfl ?_
          refine r_arr 23 hR (by decide) (by decide) fl_R_77 rfl d_R_comes_403 ?_
          refine g_iload_n d_R_comes_406 rfl ?_
          refine r_iald 23 q hR (by decide) rfl d_R_comes_407 rfl (by show q < 160; omega) ?_
          refine g_bipush (v := 6) d_R_comes_408 (by decide) ?_
          refine g_icmp_ne 449 d_R_comes_410 (by decide) (fun c_410 => ?_) (fun c_410 => ?_)
          · exact absurd (show P 23 q = 6 from c_143_6) c_410
          · skip
            refine g_aload_n d_R_comes_413 rfl ?_
            refine r_arr 29 hR (by decide) (by decide) fl_R_95 rfl d_R_comes_414 ?_
            refine g_iconst (v := 4) d_R_comes_417 (by decide) ?_
            refine g_iload_n d_R_comes_418 rfl ?_
            refine g_imul d_R_comes_419 ?_
            refine g_aload_n d_R_comes_420 rfl ?_
            refine r_arr 2 hR (by decide) (by decide) fl_R_16 rfl d_R_comes_421 ?_
            refine g_iload d_R_comes_424 rfl ?_
            refine r_iald 2 (tn (P 24 q)) hR (by decide) rfl d_R_comes_426 w_20.1 (by show tn (P 24 q) < 40; omega) ?_
            refine r_iast 29 (4 * q) hR (by decide) rfl d_R_comes_427 (ix_mul rfl rfl) (by show 4 * q < 640; omega) (fun M hR => ?_)
            refine g_aload_n d_R_comes_428 rfl ?_
            refine r_arr 30 hR (by decide) (by decide) fl_R_98 rfl d_R_comes_429 ?_
            refine g_iconst (v := 4) d_R_comes_432 (by decide) ?_
            refine g_iload_n d_R_comes_433 rfl ?_
            refine g_imul d_R_comes_434 ?_
            refine g_aload_n d_R_comes_435 rfl ?_
            refine r_arr 26 hR (by decide) (by decide) fl_R_86 rfl d_R_comes_436 ?_
            refine g_iload_n d_R_comes_439 rfl ?_
            refine r_iald 26 q hR (by decide) rfl d_R_comes_440 rfl (by show q < 160; omega) ?_
            refine r_iast 30 (4 * q) hR (by decide) rfl d_R_comes_441 (ix_mul rfl rfl) (by show 4 * q < 640; omega) (fun M hR => ?_)
            refine g_aload_n d_R_comes_442 rfl ?_
            refine r_arr 28 hR (by decide) (by decide) fl_R_92 rfl d_R_comes_443 ?_
            refine g_iload_n d_R_comes_446 rfl ?_
            refine g_iconst (v := 1) d_R_comes_447 (by decide) ?_
            refine r_iast 28 q hR (by decide) rfl d_R_comes_448 rfl (by show q < 160; omega) (fun M hR => ?_)
            refine g_aload_n d_R_comes_449 rfl ?_
            refine g_iload_n d_R_comes_450 rfl ?_
            refine g_iload_n d_R_comes_451 rfl ?_
            refine r_call [.int (nI f), .int (nI q)] hR cw_R_261 cv_R_closes d_R_comes_452 rfl rfl ⟨by simp, by simp⟩ (by decide) (c_R_closes _ f q (WB.up (f := 28) (j := q) (x := 1) (WB.up (f := 30) (j := 4 * q) (x := P 26 q) (WB.up (f := 29) (j := 4 * q) (x := P 2 (tn (P 24 q))) hW (he2 c_410)) (by first | exact trivial | exact Or.inl rfl | exact Or.inr rfl)) (sm_nI (n := 1) (N := 4) (by decide) (by decide))) (by omega) (by omega) hd1) (fun M hR => ?_)
            exact g_return d_R_comes_455 rfl ⟨rfl, by unfold p_R_comes; rw [if_pos (show P 14 f = 0 from c_6), if_neg (show ¬ (P 25 q = 9) from c_70), if_neg (show ¬ (P 23 q = 4) from c_143_4), if_neg (show ¬ (P 23 q = 5) from c_143_5), if_pos (show P 23 q = 6 from c_143_6)]; exact hR⟩
        by_cases c_143_7 : P 23 q = 7
        · refine g_tableIn 279 d_R_comes_143 (by show ¬ (P 23 q).toInt < 4; rw [c_143_7]; decide) (by show ¬ 9 < (P 23 q).toInt; rw [c_143_7]; decide) (by show _[((P 23 q).toInt - 4).toNat]? = _; rw [c_143_7]; rfl) (by decide) ?_
          refine g_aload_n d_R_comes_279 rfl ?_
          refine r_arr 25 hR (by decide) (by decide) fl_R_83 rfl d_R_comes_280 ?_
          refine g_iload_n d_R_comes_283 rfl ?_
          refine r_iald 25 q hR (by decide) rfl d_R_comes_284 rfl (by show q < 160; omega) ?_
          refine g_if_ne 357 d_R_comes_285 (by decide) (fun c_285 => ?_) (fun c_285 => ?_)
          · skip
            refine g_aload_n d_R_comes_357 rfl ?_
            refine r_arr 29 hR (by decide) (by decide) fl_R_95 rfl d_R_comes_358 ?_
            refine g_iconst (v := 4) d_R_comes_361 (by decide) ?_
            refine g_iload_n d_R_comes_362 rfl ?_
            refine g_imul d_R_comes_363 ?_
            refine g_aload_n d_R_comes_364 rfl ?_
            refine r_arr 3 hR (by decide) (by decide) fl_R_19 rfl d_R_comes_365 ?_
            refine g_iload d_R_comes_368 rfl ?_
            refine r_iald 3 (tn (P 24 q)) hR (by decide) rfl d_R_comes_370 w_20.1 (by show tn (P 24 q) < 40; omega) ?_
            refine r_iast 29 (4 * q) hR (by decide) rfl d_R_comes_371 (ix_mul rfl rfl) (by show 4 * q < 640; omega) (fun M hR => ?_)
            refine g_aload_n d_R_comes_372 rfl ?_
            refine r_arr 30 hR (by decide) (by decide) fl_R_98 rfl d_R_comes_373 ?_
            refine g_iconst (v := 4) d_R_comes_376 (by decide) ?_
            refine g_iload_n d_R_comes_377 rfl ?_
            refine g_imul d_R_comes_378 ?_
            refine g_aload_n d_R_comes_379 rfl ?_
            refine r_arr 26 hR (by decide) (by decide) fl_R_86 rfl d_R_comes_380 ?_
            refine g_iload_n d_R_comes_383 rfl ?_
            refine r_iald 26 q hR (by decide) rfl d_R_comes_384 rfl (by show q < 160; omega) ?_
            refine r_iast 30 (4 * q) hR (by decide) rfl d_R_comes_385 (ix_mul rfl rfl) (by show 4 * q < 640; omega) (fun M hR => ?_)
            refine g_aload_n d_R_comes_386 rfl ?_
            refine r_arr 28 hR (by decide) (by decide) fl_R_92 rfl d_R_comes_387 ?_
            refine g_iload_n d_R_comes_390 rfl ?_
            refine g_iconst (v := 1) d_R_comes_391 (by decide) ?_
            refine r_iast 28 q hR (by decide) rfl d_R_comes_392 rfl (by show q < 160; omega) (fun M hR => ?_)
            refine g_aload_n d_R_comes_393 rfl ?_
            refine g_iload_n d_R_comes_394 rfl ?_
            refine g_iload_n d_R_comes_395 rfl ?_
            refine r_call [.int (nI f), .int (nI q)] hR cw_R_261 cv_R_closes d_R_comes_396 rfl rfl ⟨by simp, by simp⟩ (by decide) (c_R_closes _ f q (WB.up (f := 28) (j := q) (x := 1) (WB.up (f := 30) (j := 4 * q) (x := P 26 q) (WB.up (f := 29) (j := 4 * q) (x := P 3 (tn (P 24 q))) hW (he3 c_143_7)) (by first | exact trivial | exact Or.inl rfl | exact Or.inr rfl)) (sm_nI (n := 1) (N := 4) (by decide) (by decide))) (by omega) (by omega) hd1) (fun M hR => ?_)
            refine g_goto 455 d_R_comes_399 (by decide) ?_
            exact g_return d_R_comes_455 rfl ⟨rfl, by unfold p_R_comes; rw [if_pos (show P 14 f = 0 from c_6), if_neg (show ¬ (P 25 q = 9) from c_70), if_neg (show ¬ (P 23 q = 4) from c_143_4), if_neg (show ¬ (P 23 q = 5) from c_143_5), if_neg (show ¬ (P 23 q = 6) from c_143_6), if_pos (show P 23 q = 7 from c_143_7), if_neg (show ¬ (P 25 q = 0) from c_285)]; exact hR⟩
          · skip
            refine g_aload_n d_R_comes_288 rfl ?_
            refine r_arr 10 hR (by decide) (by decide) fl_R_37 rfl d_R_comes_289 ?_
            refine g_iload_n d_R_comes_292 rfl ?_
            refine g_aload_n d_R_comes_293 rfl ?_
            refine r_arr 31 hR (by decide) (by decide) fl_R_101 rfl d_R_comes_294 ?_
            refine g_iload_n d_R_comes_297 rfl ?_
            refine r_zald 31 q hR (by decide) rfl d_R_comes_298 rfl (by show q < 160; omega) ?_
            refine r_zast 10 f hR (by decide) rfl (hW 31 q) d_R_comes_299 rfl (by show f < 10; omega) (fun M hR => ?_)
            refine g_iload_n d_R_comes_300 rfl ?_
            refine g_if_ne 317 d_R_comes_301 (by decide) (fun c_301 => ?_) (fun c_301 => ?_)
            · skip
              refine g_aload_n d_R_comes_317 rfl ?_
              refine r_arr 25 hR (by decide) (by decide) fl_R_83 rfl d_R_comes_318 ?_
              refine g_iload_n d_R_comes_321 rfl ?_
              refine g_iconst (v := 1) d_R_comes_322 (by decide) ?_
              refine r_iast 25 q hR (by decide) rfl d_R_comes_323 rfl (by show q < 160; omega) (fun M hR => ?_)
              refine g_aload_n d_R_comes_324 rfl ?_
              refine r_arr 26 hR (by decide) (by decide) fl_R_86 rfl d_R_comes_325 ?_
              refine g_iload_n d_R_comes_328 rfl ?_
              refine g_aload_n d_R_comes_329 rfl ?_
              refine r_arr 13 hR (by decide) (by decide) fl_R_47 rfl d_R_comes_330 ?_
              refine g_iload_n d_R_comes_333 rfl ?_
              refine r_iald 13 f hR (by decide) rfl d_R_comes_334 rfl (by show f < 10; omega) ?_
              refine r_iast 26 q hR (by decide) rfl d_R_comes_335 rfl (by show q < 160; omega) (fun M hR => ?_)
              refine g_aload_n d_R_comes_336 rfl ?_
              refine g_iload_n d_R_comes_337 rfl ?_
              refine g_aload_n d_R_comes_338 rfl ?_
              refine r_arr 2 hR (by decide) (by decide) fl_R_16 rfl d_R_comes_339 ?_
              refine g_iload d_R_comes_342 rfl ?_
              refine r_iald 2 (tn (P 24 q)) hR (by decide) rfl d_R_comes_344 w_20.1 (by show tn (P 24 q) < 40; omega) ?_
              refine g_aload_n d_R_comes_345 rfl ?_
              refine r_arr 13 hR (by decide) (by decide) fl_R_47 rfl d_R_comes_346 ?_
              refine g_iload_n d_R_comes_349 rfl ?_
              refine r_iald 13 f hR (by decide) rfl d_R_comes_350 rfl (by show f < 10; omega) ?_
              refine r_call [.int (nI f), .int (P 2 (tn (P 24 q))), .int (P 13 f)] hR cw_R_233 cv_R_does d_R_comes_351 rfl rfl ⟨by simp, by simp⟩ (by decide) (c_R_does _ f (P 2 (tn (P 24 q))) (P 13 f) (by omega)) (fun M hR => ?_)
              refine g_goto 455 d_R_comes_354 (by decide) ?_
              exact g_return d_R_comes_455 rfl ⟨rfl, by unfold p_R_comes; rw [if_pos (show P 14 f = 0 from c_6), if_neg (show ¬ (P 25 q = 9) from c_70), if_neg (show ¬ (P 23 q = 4) from c_143_4), if_neg (show ¬ (P 23 q = 5) from c_143_5), if_neg (show ¬ (P 23 q = 6) from c_143_6), if_pos (show P 23 q = 7 from c_143_7), if_pos (show P 25 q = 0 from c_285)]; exact hR⟩
            · exact absurd c_301 (by first | decide | simp_all)
        by_cases c_143_8 : P 23 q = 8
        · refine g_tableIn 254 d_R_comes_143 (by show ¬ (P 23 q).toInt < 4; rw [c_143_8]; decide) (by show ¬ 9 < (P 23 q).toInt; rw [c_143_8]; decide) (by show _[((P 23 q).toInt - 4).toNat]? = _; rw [c_143_8]; rfl) (by decide) ?_
          refine g_aload_n d_R_comes_254 rfl ?_
          refine r_arr 22 hR (by decide) (by decide) fl_R_74 rfl d_R_comes_255 ?_
          refine g_iload_n d_R_comes_258 rfl ?_
          refine g_dup2 d_R_comes_259 rfl (cat_rf _) ?_
          refine r_iald 22 f hR (by decide) rfl d_R_comes_260 rfl (by show f < 10; omega) ?_
          have w_23 : sm (P 22 f) 16 := hW 22 f
          have w_23b := w_23.2
          refine g_iconst (v := 1) d_R_comes_261 (by decide) ?_
          refine g_isub d_R_comes_262 ?_
          refine r_iast 22 f hR (by decide) rfl d_R_comes_263 rfl (by show f < 10; omega) (fun M hR => ?_)
          refine g_aload_n d_R_comes_264 rfl ?_
          refine r_arr 10 hR (by decide) (by decide) fl_R_37 rfl d_R_comes_265 ?_
          refine g_iload_n d_R_comes_268 rfl ?_
          refine g_aload_n d_R_comes_269 rfl ?_
          refine r_arr 31 hR (by decide) (by decide) fl_R_101 rfl d_R_comes_270 ?_
          refine g_iload_n d_R_comes_273 rfl ?_
          refine r_zald 31 q hR (by decide) rfl d_R_comes_274 rfl (by show q < 160; omega) ?_
          refine r_zast 10 f hR (by decide) rfl (hW 31 q) d_R_comes_275 rfl (by show f < 10; omega) (fun M hR => ?_)
          refine g_goto 455 d_R_comes_276 (by decide) ?_
          exact g_return d_R_comes_455 rfl ⟨rfl, by unfold p_R_comes; rw [if_pos (show P 14 f = 0 from c_6), if_neg (show ¬ (P 25 q = 9) from c_70), if_neg (show ¬ (P 23 q = 4) from c_143_4), if_neg (show ¬ (P 23 q = 5) from c_143_5), if_neg (show ¬ (P 23 q = 6) from c_143_6), if_neg (show ¬ (P 23 q = 7) from c_143_7), if_pos (show P 23 q = 8 from c_143_8)]; exact hR⟩
        by_cases c_143_9 : P 23 q = 9
        · refine g_tableIn 254 d_R_comes_143 (by show ¬ (P 23 q).toInt < 4; rw [c_143_9]; decide) (by show ¬ 9 < (P 23 q).toInt; rw [c_143_9]; decide) (by show _[((P 23 q).toInt - 4).toNat]? = _; rw [c_143_9]; rfl) (by decide) ?_
          refine g_aload_n d_R_comes_254 rfl ?_
          refine r_arr 22 hR (by decide) (by decide) fl_R_74 rfl d_R_comes_255 ?_
          refine g_iload_n d_R_comes_258 rfl ?_
          refine g_dup2 d_R_comes_259 rfl (cat_rf _) ?_
          refine r_iald 22 f hR (by decide) rfl d_R_comes_260 rfl (by show f < 10; omega) ?_
          have w_24 : sm (P 22 f) 16 := hW 22 f
          have w_24b := w_24.2
          refine g_iconst (v := 1) d_R_comes_261 (by decide) ?_
          refine g_isub d_R_comes_262 ?_
          refine r_iast 22 f hR (by decide) rfl d_R_comes_263 rfl (by show f < 10; omega) (fun M hR => ?_)
          refine g_aload_n d_R_comes_264 rfl ?_
          refine r_arr 10 hR (by decide) (by decide) fl_R_37 rfl d_R_comes_265 ?_
          refine g_iload_n d_R_comes_268 rfl ?_
          refine g_aload_n d_R_comes_269 rfl ?_
          refine r_arr 31 hR (by decide) (by decide) fl_R_101 rfl d_R_comes_270 ?_
          refine g_iload_n d_R_comes_273 rfl ?_
          refine r_zald 31 q hR (by decide) rfl d_R_comes_274 rfl (by show q < 160; omega) ?_
          refine r_zast 10 f hR (by decide) rfl (hW 31 q) d_R_comes_275 rfl (by show f < 10; omega) (fun M hR => ?_)
          refine g_goto 455 d_R_comes_276 (by decide) ?_
          exact g_return d_R_comes_455 rfl ⟨rfl, by unfold p_R_comes; rw [if_pos (show P 14 f = 0 from c_6), if_neg (show ¬ (P 25 q = 9) from c_70), if_neg (show ¬ (P 23 q = 4) from c_143_4), if_neg (show ¬ (P 23 q = 5) from c_143_5), if_neg (show ¬ (P 23 q = 6) from c_143_6), if_neg (show ¬ (P 23 q = 7) from c_143_7), if_neg (show ¬ (P 23 q = 8) from c_143_8), if_pos (show P 23 q = 9 from c_143_9)]; exact hR⟩
        refine g_tableOut 402 d_R_comes_143 (sw_4_9 c_143_4 c_143_5 c_143_6 c_143_7 c_143_8 c_143_9) (by decide) ?_
        refine g_aload_n d_R_comes_402 rfl ?_
        refine r_arr 23 hR (by decide) (by decide) fl_R_77 rfl d_R_comes_403 ?_
        refine g_iload_n d_R_comes_406 rfl ?_
        refine r_iald 23 q hR (by decide) rfl d_R_comes_407 rfl (by show q < 160; omega) ?_
        refine g_bipush (v := 6) d_R_comes_408 (by decide) ?_
        refine g_icmp_ne 449 d_R_comes_410 (by decide) (fun c_410 => ?_) (fun c_410 => ?_)
        · skip
          refine g_aload_n d_R_comes_449 rfl ?_
          refine g_iload_n d_R_comes_450 rfl ?_
          refine g_iload_n d_R_comes_451 rfl ?_
          refine r_call [.int (nI f), .int (nI q)] hR cw_R_261 cv_R_closes d_R_comes_452 rfl rfl ⟨by simp, by simp⟩ (by decide) (c_R_closes _ f q hW (by omega) (by omega) hd1) (fun M hR => ?_)
          exact g_return d_R_comes_455 rfl ⟨rfl, by unfold p_R_comes; rw [if_pos (show P 14 f = 0 from c_6), if_neg (show ¬ (P 25 q = 9) from c_70), if_neg (show ¬ (P 23 q = 4) from c_143_4), if_neg (show ¬ (P 23 q = 5) from c_143_5), if_neg (show ¬ (P 23 q = 6) from c_143_6), if_neg (show ¬ (P 23 q = 7) from c_143_7), if_neg (show ¬ (P 23 q = 8) from c_143_8), if_neg (show ¬ (P 23 q = 9) from c_143_9)]; exact hR⟩
        · exact absurd (show P 23 q = 6 from c_410) c_143_6
      · skip
        refine g_iload_n d_R_comes_73 rfl ?_
        refine g_if_ne 99 d_R_comes_74 (by decide) (fun c_74 => ?_) (fun c_74 => ?_)
        · skip
          refine g_iload_n d_R_comes_99 rfl ?_
          refine g_if_ne 112 d_R_comes_100 (by decide) (fun c_100 => ?_) (fun c_100 => ?_)
          · skip
            refine g_aload_n d_R_comes_112 rfl ?_
            refine r_arr 32 hR (by decide) (by decide) fl_R_104 rfl d_R_comes_113 ?_
            refine g_iload_n d_R_comes_116 rfl ?_
            refine g_dup2 d_R_comes_117 rfl (cat_rf _) ?_
            refine r_zald 32 q hR (by decide) rfl d_R_comes_118 rfl (by show q < 160; omega) ?_
            refine g_iload_n d_R_comes_119 rfl ?_
            refine g_if_ne 127 d_R_comes_120 (by decide) (fun c_120 => ?_) (fun c_120 => ?_)
            · skip
              refine g_iconst (v := 0) d_R_comes_127 (by decide) ?_
              refine g_ior d_R_comes_128 ?_
              refine r_zast 32 q hR (by decide) rfl (or0_01 (hW 32 q)) d_R_comes_129 rfl (by show q < 160; omega) (fun M hR => ?_)
              refine g_aload_n d_R_comes_130 rfl ?_
              refine g_iload_n d_R_comes_131 rfl ?_
              refine g_iload_n d_R_comes_132 rfl ?_
              refine r_call [.int (nI f), .int (nI q)] hR cw_R_258 cv_R_close d_R_comes_133 rfl rfl ⟨by simp, by simp⟩ (by decide) (c_R_close _ f q (WB.up (f := 32) (j := q) (x := (P 32 q) ||| 0) hW (or0_01 (hW 32 q))) (by omega) (by omega) hd1) (fun M hR => ?_)
              exact g_return d_R_comes_136 rfl ⟨rfl, by unfold p_R_comes; rw [if_pos (show P 14 f = 0 from c_6), if_pos (show P 25 q = 9 from c_70)]; exact hR⟩
            · exact absurd c_120 (by first | decide | simp_all)
          · exact absurd c_100 (by first | decide | simp_all)
        · exact absurd c_74 (by first | decide | simp_all)
    · exact absurd (show P 14 f = 0 from c_6) c_21

