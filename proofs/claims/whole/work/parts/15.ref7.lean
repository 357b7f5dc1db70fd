/-! the reference's methods, further (by program: wip/tools/gen_ref7.py) -/
theorem nlt_of {x : Int32} (h : 0 ≤ x) : ¬ x < 0 := Int32.not_lt.mpr h
theorem ge_of {x : Int32} (h : ¬ x < 0) : 0 ≤ x := Int32.not_lt.mp h
def p_R_shared (P : Pst) (f : Nat) (kd_ : Int32) (m : Nat) (v : Int32) : Pst := if kd_ = 19 then p_R_give (p_R_give P f v) f (P 37 m) else if kd_ = 20 then up (p_R_give P f v) 37 m v else if kd_ = 21 then if P 41 m = 0 then p_R_rest (p_R_give P f v) f 5 (nI m) 0 else p_R_give (p_R_give P f v) f (P 38 m) else if kd_ = 22 then if a_R_keeps (p_R_give P f v) m v = 0 then p_R_give (p_R_keeps (p_R_give P f v) m v) f 0 else p_R_give (p_R_keeps (p_R_give P f v) m v) f 1 else if kd_ = 23 then if P 39 m ≤ 0 then p_R_rest (p_R_give P f v) f 6 (nI m) v else up (p_R_give P f v) 39 m ((P 39 m) - 1) else if 0 ≤ a_R_firstFor (p_R_give P f v) 6 (nI m) then p_R_wake (p_R_give (p_R_give P f v) (tn (a_R_firstFor (p_R_give P f v) 6 (nI m))) (P 17 (tn (a_R_firstFor (p_R_give P f v) 6 (nI m))))) (tn (a_R_firstFor (p_R_give P f v) 6 (nI m))) else up (p_R_give P f v) 39 m ((P 39 m) + 1)
set_option maxHeartbeats 4000000 in
set_option maxRecDepth 100000 in
theorem c_R_shared (P : Pst) (f : Nat) (kd_ : Int32) (m : Nat) (v : Int32) (hW : WB P) (hf : f < 10) (hm : m < 4) (hok : kd_ = 22 → okk m v 10 (up (up (p_R_give P f v) 41 m 1) 38 m v)) (hq9 : tn (P 43 0) < 10) : RC m_R_shared 2 [.int (nI f), .int kd_, .int (nI m), .int v] P none (p_R_shared P f kd_ m v) := by
  intro γ M hR
  refine Run.ofG (by decide) (by simp [cat_int, cat_rf]) (Nat.le_of_ble_eq_true rfl) ?_
  refine g_aload_n d_R_shared_0 rfl ?_
  refine g_iload_n d_R_shared_1 rfl ?_
  refine g_iload d_R_shared_2 rfl ?_
  refine r_call [.int (nI f), .int (v)] hR cw_R_198 cv_R_give d_R_shared_4 rfl rfl ⟨by simp, by simp⟩ (by decide) (c_R_give _ f v (by omega)) (fun M hR => ?_)
  refine g_iload_n d_R_shared_7 rfl ?_
  by_cases c_8_19 : kd_ = 19
  · refine g_tableIn 44 d_R_shared_8 (by show ¬ kd_.toInt < 19; rw [c_8_19]; decide) (by show ¬ 23 < kd_.toInt; rw [c_8_19]; decide) (by show _[(kd_.toInt - 19).toNat]? = _; rw [c_8_19]; rfl) (by decide) ?_
    refine g_aload_n d_R_shared_44 rfl ?_
    refine g_iload_n d_R_shared_45 rfl ?_
    refine g_aload_n d_R_shared_46 rfl ?_
    refine r_arr 37 hR (by decide) (by decide) fl_R_119 rfl d_R_shared_47 ?_
    refine g_iload_n d_R_shared_50 rfl ?_
    refine r_iald 37 m hR (by decide) rfl d_R_shared_51 rfl (by show m < 4; omega) ?_
    refine r_call [.int (nI f), .int (P 37 m)] hR cw_R_198 cv_R_give d_R_shared_52 rfl rfl ⟨by simp, by simp⟩ (by decide) (c_R_give _ f (P 37 m) (by omega)) (fun M hR => ?_)
    refine g_goto 211 d_R_shared_55 (by decide) ?_
    exact g_return d_R_shared_211 rfl ⟨rfl, by unfold p_R_shared; rw [if_pos (show kd_ = 19 from c_8_19)]; exact hR⟩
  by_cases c_8_20 : kd_ = 20
  · refine g_tableIn 58 d_R_shared_8 (by show ¬ kd_.toInt < 19; rw [c_8_20]; decide) (by show ¬ 23 < kd_.toInt; rw [c_8_20]; decide) (by show _[(kd_.toInt - 19).toNat]? = _; rw [c_8_20]; rfl) (by decide) ?_
    refine g_aload_n d_R_shared_58 rfl ?_
    refine r_arr 37 hR (by decide) (by decide) fl_R_119 rfl d_R_shared_59 ?_
    refine g_iload_n d_R_shared_62 rfl ?_
    refine g_iload d_R_shared_63 rfl ?_
    refine r_iast 37 m hR (by decide) rfl d_R_shared_65 rfl (by show m < 4; omega) (fun M hR => ?_)
    refine g_goto 211 d_R_shared_66 (by decide) ?_
    exact g_return d_R_shared_211 rfl ⟨rfl, by unfold p_R_shared; rw [if_neg (show ¬ (kd_ = 19) from c_8_19), if_pos (show kd_ = 20 from c_8_20)]; exact hR⟩
  by_cases c_8_21 : kd_ = 21
  · refine g_tableIn 69 d_R_shared_8 (by show ¬ kd_.toInt < 19; rw [c_8_21]; decide) (by show ¬ 23 < kd_.toInt; rw [c_8_21]; decide) (by show _[(kd_.toInt - 19).toNat]? = _; rw [c_8_21]; rfl) (by decide) ?_
    refine g_aload_n d_R_shared_69 rfl ?_
    refine r_arr 41 hR (by decide) (by decide) fl_R_131 rfl d_R_shared_70 ?_
    refine g_iload_n d_R_shared_73 rfl ?_
    refine r_zald 41 m hR (by decide) rfl d_R_shared_74 rfl (by show m < 4; omega) ?_
    refine g_if_eq 92 d_R_shared_75 (by decide) (fun c_75 => ?_) (fun c_75 => ?_)
    · skip
      refine g_aload_n d_R_shared_92 rfl ?_
      refine g_iload_n d_R_shared_93 rfl ?_
      refine g_iconst (v := 5) d_R_shared_94 (by decide) ?_
      refine g_iload_n d_R_shared_95 rfl ?_
      refine g_iconst (v := 0) d_R_shared_96 (by decide) ?_
      refine r_call [.int (nI f), .int (5), .int (nI m), .int (0)] hR cw_R_240 cv_R_rest d_R_shared_97 rfl rfl ⟨by simp, by simp⟩ (by decide) (c_R_rest _ f 5 (nI m) 0 (by omega)) (fun M hR => ?_)
      refine g_goto 211 d_R_shared_100 (by decide) ?_
      exact g_return d_R_shared_211 rfl ⟨rfl, by unfold p_R_shared; rw [if_neg (show ¬ (kd_ = 19) from c_8_19), if_neg (show ¬ (kd_ = 20) from c_8_20), if_pos (show kd_ = 21 from c_8_21), if_pos (show P 41 m = 0 from c_75)]; exact hR⟩
    · skip
      refine g_aload_n d_R_shared_78 rfl ?_
      refine g_iload_n d_R_shared_79 rfl ?_
      refine g_aload_n d_R_shared_80 rfl ?_
      refine r_arr 38 hR (by decide) (by decide) fl_R_122 rfl d_R_shared_81 ?_
      refine g_iload_n d_R_shared_84 rfl ?_
      refine r_iald 38 m hR (by decide) rfl d_R_shared_85 rfl (by show m < 4; omega) ?_
      refine r_call [.int (nI f), .int (P 38 m)] hR cw_R_198 cv_R_give d_R_shared_86 rfl rfl ⟨by simp, by simp⟩ (by decide) (c_R_give _ f (P 38 m) (by omega)) (fun M hR => ?_)
      refine g_goto 211 d_R_shared_89 (by decide) ?_
      exact g_return d_R_shared_211 rfl ⟨rfl, by unfold p_R_shared; rw [if_neg (show ¬ (kd_ = 19) from c_8_19), if_neg (show ¬ (kd_ = 20) from c_8_20), if_pos (show kd_ = 21 from c_8_21), if_neg (show ¬ (P 41 m = 0) from c_75)]; exact hR⟩
  by_cases c_8_22 : kd_ = 22
  · refine g_tableIn 103 d_R_shared_8 (by show ¬ kd_.toInt < 19; rw [c_8_22]; decide) (by show ¬ 23 < kd_.toInt; rw [c_8_22]; decide) (by show _[(kd_.toInt - 19).toNat]? = _; rw [c_8_22]; rfl) (by decide) ?_
    refine g_aload_n d_R_shared_103 rfl ?_
    refine g_iload_n d_R_shared_104 rfl ?_
    refine g_iload d_R_shared_105 rfl ?_
    refine r_call [.int (nI m), .int (v)] hR cw_R_201 cv_R_keeps d_R_shared_107 rfl rfl ⟨by simp, by simp⟩ (by decide) (c_R_keeps _ m v (wb_give hW _ _) (by omega) (hok c_8_22)) (fun M hR => ?_)
    refine g_istore d_R_shared_110 (by decide) ?_
    refine g_aload_n d_R_shared_112 rfl ?_
    refine g_iload_n d_R_shared_113 rfl ?_
    refine g_iload d_R_shared_114 rfl ?_
    refine g_if_eq 123 d_R_shared_116 (by decide) (fun c_116 => ?_) (fun c_116 => ?_)
    · skip
      refine g_iconst (v := 0) d_R_shared_123 (by decide) ?_
      refine r_call [.int (nI f), .int (0)] hR cw_R_198 cv_R_give d_R_shared_124 rfl rfl ⟨by simp, by simp⟩ (by decide) (c_R_give _ f 0 (by omega)) (fun M hR => ?_)
      refine g_goto 211 d_R_shared_127 (by decide) ?_
      exact g_return d_R_shared_211 rfl ⟨rfl, by unfold p_R_shared; rw [if_neg (show ¬ (kd_ = 19) from c_8_19), if_neg (show ¬ (kd_ = 20) from c_8_20), if_neg (show ¬ (kd_ = 21) from c_8_21), if_pos (show kd_ = 22 from c_8_22), if_pos (show a_R_keeps (p_R_give P f v) m v = 0 from c_116)]; exact hR⟩
    · skip
      refine g_iconst (v := 1) d_R_shared_119 (by decide) ?_
      refine g_goto 124 d_R_shared_120 (by decide) ?_
      refine r_call [.int (nI f), .int (1)] hR cw_R_198 cv_R_give d_R_shared_124 rfl rfl ⟨by simp, by simp⟩ (by decide) (c_R_give _ f 1 (by omega)) (fun M hR => ?_)
      refine g_goto 211 d_R_shared_127 (by decide) ?_
      exact g_return d_R_shared_211 rfl ⟨rfl, by unfold p_R_shared; rw [if_neg (show ¬ (kd_ = 19) from c_8_19), if_neg (show ¬ (kd_ = 20) from c_8_20), if_neg (show ¬ (kd_ = 21) from c_8_21), if_pos (show kd_ = 22 from c_8_22), if_neg (show ¬ (a_R_keeps (p_R_give P f v) m v = 0) from c_116)]; exact hR⟩
  by_cases c_8_23 : kd_ = 23
  · refine g_tableIn 130 d_R_shared_8 (by show ¬ kd_.toInt < 19; rw [c_8_23]; decide) (by show ¬ 23 < kd_.toInt; rw [c_8_23]; decide) (by show _[(kd_.toInt - 19).toNat]? = _; rw [c_8_23]; rfl) (by decide) ?_
    refine g_aload_n d_R_shared_130 rfl ?_
    refine r_arr 39 hR (by decide) (by decide) fl_R_125 rfl d_R_shared_131 ?_
    refine g_iload_n d_R_shared_134 rfl ?_
    refine r_iald 39 m hR (by decide) rfl d_R_shared_135 rfl (by show m < 4; omega) ?_
    refine g_if_le 152 d_R_shared_136 (by decide) (fun c_136 => ?_) (fun c_136 => ?_)
    · skip
      refine g_aload_n d_R_shared_152 rfl ?_
      refine g_iload_n d_R_shared_153 rfl ?_
      refine g_bipush (v := 6) d_R_shared_154 (by decide) ?_
      refine g_iload_n d_R_shared_156 rfl ?_
      refine g_iload d_R_shared_157 rfl ?_
      refine r_call [.int (nI f), .int (6), .int (nI m), .int (v)] hR cw_R_240 cv_R_rest d_R_shared_159 rfl rfl ⟨by simp, by simp⟩ (by decide) (c_R_rest _ f 6 (nI m) v (by omega)) (fun M hR => ?_)
      refine g_goto 211 d_R_shared_162 (by decide) ?_
      exact g_return d_R_shared_211 rfl ⟨rfl, by unfold p_R_shared; rw [if_neg (show ¬ (kd_ = 19) from c_8_19), if_neg (show ¬ (kd_ = 20) from c_8_20), if_neg (show ¬ (kd_ = 21) from c_8_21), if_neg (show ¬ (kd_ = 22) from c_8_22), if_pos (show kd_ = 23 from c_8_23), if_pos (show P 39 m ≤ 0 from c_136)]; exact hR⟩
    · skip
      refine g_aload_n d_R_shared_139 rfl ?_
      refine r_arr 39 hR (by decide) (by decide) fl_R_125 rfl d_R_shared_140 ?_
      refine g_iload_n d_R_shared_143 rfl ?_
      refine g_dup2 d_R_shared_144 rfl (cat_rf _) ?_
      refine r_iald 39 m hR (by decide) rfl d_R_shared_145 rfl (by show m < 4; omega) ?_
      refine g_iconst (v := 1) d_R_shared_146 (by decide) ?_
      refine g_isub d_R_shared_147 ?_
      refine r_iast 39 m hR (by decide) rfl d_R_shared_148 rfl (by show m < 4; omega) (fun M hR => ?_)
      refine g_goto 211 d_R_shared_149 (by decide) ?_
      exact g_return d_R_shared_211 rfl ⟨rfl, by unfold p_R_shared; rw [if_neg (show ¬ (kd_ = 19) from c_8_19), if_neg (show ¬ (kd_ = 20) from c_8_20), if_neg (show ¬ (kd_ = 21) from c_8_21), if_neg (show ¬ (kd_ = 22) from c_8_22), if_pos (show kd_ = 23 from c_8_23), if_neg (show ¬ (P 39 m ≤ 0) from c_136)]; exact hR⟩
  refine g_tableOut 165 d_R_shared_8 (sw_19_23 c_8_19 c_8_20 c_8_21 c_8_22 c_8_23) (by decide) ?_
  refine g_aload_n d_R_shared_165 rfl ?_
  refine g_bipush (v := 6) d_R_shared_166 (by decide) ?_
  refine g_iload_n d_R_shared_168 rfl ?_
  refine r_call [.int (6), .int (nI m)] hR cw_R_194 cv_R_firstFor d_R_shared_169 rfl rfl ⟨by simp, by simp⟩ (by decide) (c_R_firstFor _ 6 (nI m) (show sm _ 10 from hW 42 0).1 (show sm _ 10 from hW 42 0).2) (fun M hR => ?_)
  refine g_istore d_R_shared_172 (by decide) ?_
  refine g_iload d_R_shared_174 rfl ?_
  refine g_if_ge 192 d_R_shared_176 (by decide) (fun c_176 => ?_) (fun c_176 => ?_)
  · have hx_ := ff_lt (wb_give hW f v) (nlt_of c_176); have hx2_ := hx_.2.1; have hx3_ := hx_.2.2
    refine g_aload_n d_R_shared_192 rfl ?_
    refine g_iload d_R_shared_193 rfl ?_
    refine g_aload_n d_R_shared_195 rfl ?_
    refine r_arr 17 hR (by decide) (by decide) fl_R_59 rfl d_R_shared_196 ?_
    refine g_iload d_R_shared_199 rfl ?_
    refine r_iald 17 (tn (a_R_firstFor (p_R_give P f v) 6 (nI m))) hR (by decide) rfl d_R_shared_201 hx_.1 (by show tn (a_R_firstFor (p_R_give P f v) 6 (nI m)) < 10; omega) ?_
    refine r_call [.int (nI (tn (a_R_firstFor (p_R_give P f v) 6 (nI m)))), .int (P 17 (tn (a_R_firstFor (p_R_give P f v) 6 (nI m))))] hR cw_R_198 cv_R_give d_R_shared_202 rfl (by rw [← (show (a_R_firstFor (p_R_give P f v) 6 (nI m) : Int32) = nI (tn (a_R_firstFor (p_R_give P f v) 6 (nI m))) from hx_.1)]; try rfl) ⟨by simp, by simp⟩ (by decide) (c_R_give _ (tn (a_R_firstFor (p_R_give P f v) 6 (nI m))) (P 17 (tn (a_R_firstFor (p_R_give P f v) 6 (nI m)))) (by omega)) (fun M hR => ?_)
    refine g_aload_n d_R_shared_205 rfl ?_
    refine g_iload d_R_shared_206 rfl ?_
    refine r_call [.int (nI (tn (a_R_firstFor (p_R_give P f v) 6 (nI m))))] hR cw_R_186 cv_R_wake d_R_shared_208 rfl (by rw [← (show (a_R_firstFor (p_R_give P f v) 6 (nI m) : Int32) = nI (tn (a_R_firstFor (p_R_give P f v) 6 (nI m))) from hx_.1)]; try rfl) ⟨by simp, by simp⟩ (by decide) (c_R_wake _ (tn (a_R_firstFor (p_R_give P f v) 6 (nI m))) (by omega) (show sm _ 10 from hW 43 0).1 hq9) (fun M hR => ?_)
    exact g_return d_R_shared_211 rfl ⟨rfl, by unfold p_R_shared; rw [if_neg (show ¬ (kd_ = 19) from c_8_19), if_neg (show ¬ (kd_ = 20) from c_8_20), if_neg (show ¬ (kd_ = 21) from c_8_21), if_neg (show ¬ (kd_ = 22) from c_8_22), if_neg (show ¬ (kd_ = 23) from c_8_23), if_pos (show 0 ≤ a_R_firstFor (p_R_give P f v) 6 (nI m) from c_176)]; exact hR⟩
  · skip
    refine g_aload_n d_R_shared_179 rfl ?_
    refine r_arr 39 hR (by decide) (by decide) fl_R_125 rfl d_R_shared_180 ?_
    refine g_iload_n d_R_shared_183 rfl ?_
    refine g_dup2 d_R_shared_184 rfl (cat_rf _) ?_
    refine r_iald 39 m hR (by decide) rfl d_R_shared_185 rfl (by show m < 4; omega) ?_
    refine g_iconst (v := 1) d_R_shared_186 (by decide) ?_
    refine g_iadd d_R_shared_187 ?_
    refine r_iast 39 m hR (by decide) rfl d_R_shared_188 rfl (by show m < 4; omega) (fun M hR => ?_)
    refine g_goto 211 d_R_shared_189 (by decide) ?_
    exact g_return d_R_shared_211 rfl ⟨rfl, by unfold p_R_shared; rw [if_neg (show ¬ (kd_ = 19) from c_8_19), if_neg (show ¬ (kd_ = 20) from c_8_20), if_neg (show ¬ (kd_ = 21) from c_8_21), if_neg (show ¬ (kd_ = 22) from c_8_22), if_neg (show ¬ (kd_ = 23) from c_8_23), if_neg (show ¬ (0 ≤ a_R_firstFor (p_R_give P f v) 6 (nI m)) from c_176)]; exact hR⟩

theorem win_nat {x : Int32} (h : x = -1 ∨ sm x 9) (c : ¬ x < 0) : sm x 9 := h.elim (fun e => absurd (by rw [e]; decide) c) id
theorem ne_lt {x : Int32} {N : Nat} {y : Int32} (h : sm x N) (hy : y = nI N) (c : ¬ x = y) : tn x < N := by
  have h2 := h.2
  rcases Nat.lt_or_ge (tn x) N with q | q
  · exact q
  · exact absurd (by rw [h.1, hy, show tn x = N by omega]) c
theorem itcopy_fr (P : Pst) (a b : Nat) {h : Nat} (hh : h ≠ 34 ∧ h ≠ 35) (i : Nat) : ∀ j, it_copy P a b j h i = P h i
  | 0 => rfl
  | j + 1 => by
    show up (up (it_copy P a b j) 34 _ _) 35 _ _ h i = _
    rw [up_f hh.2, up_f hh.1]
    exact itcopy_fr P a b hh i j
theorem copy_fr (P : Pst) (a b : Nat) {h i : Nat} (hh : h ≠ 34 ∧ h ≠ 35 ∧ h ≠ 33) : p_R_copy P a b h i = P h i := by
  unfold p_R_copy
  rw [itcopy_fr _ a b ⟨hh.1, hh.2.1⟩, up_f hh.2.2]
theorem hand_fr (P : Pst) (f g : Nat) {h i : Nat} (hh : h ≠ 34 ∧ h ≠ 35 ∧ h ≠ 33 ∧ h ≠ 14 ∧ h ≠ 13 ∧ h ≠ 11) : p_R_hand P f g h i = P h i := by
  have e : ∀ x, up (p_R_give P f (P 13 g)) 14 f x h i = P h i := by
    intro x
    unfold p_R_give
    rw [up_f hh.2.2.2.1, up_f hh.2.2.2.2.1, up_f hh.2.2.2.1, up_f hh.2.2.2.2.2]
  unfold p_R_hand
  split
  · exact e _
  · rw [copy_fr _ _ _ ⟨hh.1, hh.2.1, hh.2.2.1⟩]
    exact e _
theorem dnjoin_fr (r : Nat) {h : Nat} (hh : h ≠ 34 ∧ h ≠ 35) (i : Nat) : ∀ (k : Nat) (P : Pst), dn_join r k P h i = P h i
  | 0, _ => rfl
  | k + 1, P => by
    show dn_join r k (up (up P 34 _ _) 35 _ _) h i = _
    rw [dnjoin_fr r hh i k, up_f hh.2, up_f hh.1]
theorem itjoin_fr (P : Pst) (r n o : Nat) {h : Nat} (hh : h ≠ 34 ∧ h ≠ 35) (i : Nat) : ∀ j, it_join P r n o j h i = P h i
  | 0 => rfl
  | j + 1 => by
    show up (up (it_join P r n o j) 34 _ _) 35 _ _ h i = _
    rw [up_f hh.2, up_f hh.1]
    exact itjoin_fr P r n o hh i j
theorem join_fr (P : Pst) (r o : Nat) (t : Int32) {h i : Nat} (hh : h ≠ 34 ∧ h ≠ 35 ∧ h ≠ 33) : p_R_join P r o t h i = P h i := by
  unfold p_R_join
  split
  · rw [up_f hh.2.2, itjoin_fr _ r _ o ⟨hh.1, hh.2.1⟩, up_f hh.2.1, up_f hh.1, dnjoin_fr r ⟨hh.1, hh.2.1⟩]
  · rfl
def p_h226 (P : Pst) (g : Nat) (f : Nat) (o : Nat) : Pst := p_R_wake P g
set_option maxHeartbeats 4000000 in
set_option maxRecDepth 100000 in
theorem t_h226 (P : Pst) (g : Nat) (f : Nat) (o : Nat) (hW : WB P) (hg : g < 10) (hq9 : tn (P 43 0) < 10) {γ : Rg} {M0 : Mm} {Q : Option Value → Mm → Prop} {dep k n : Nat} (hdep : 1 ≤ dep) (M : Mm) (hR : RR γ P M) (hQ : ∀ M, RR γ (p_h226 P g f o) M → Q none M) : G m_R_hears ownR M0 Q dep k n M 226 [some (va_rf (some γ.1)), some (.int (nI g)), some (.int (nI f)), some (.int (nI o))] [] := by
  refine g_aload_n d_R_hears_226 rfl ?_
  refine g_iload_n d_R_hears_227 rfl ?_
  refine r_call [.int (nI g)] hR cw_R_186 cv_R_wake d_R_hears_228 rfl rfl ⟨by simp, by simp⟩ (by omega) (c_R_wake _ g (by omega) (show sm _ 10 from hW 43 0).1 hq9) (fun M hR => ?_)
  exact g_return d_R_hears_231 rfl (hQ M (hR))
def p_h175 (P : Pst) (g : Nat) (f : Nat) (o : Nat) : Pst := if P 21 g < 0 then p_h226 (p_R_join (p_R_hand P g (tn (P 19 g))) g (tn ((p_R_hand P g (tn (P 19 g))) 20 g)) 5) g f o else p_h226 (p_R_give P g (P 13 (tn (P 21 g)))) g f o
set_option maxHeartbeats 4000000 in
set_option maxRecDepth 100000 in
theorem t_h175 (P : Pst) (g : Nat) (f : Nat) (o : Nat) (hW : WB P) (hg : g < 10) (hq9 : tn (P 43 0) < 10) {γ : Rg} {M0 : Mm} {Q : Option Value → Mm → Prop} {dep k n : Nat} (hdep : 2 ≤ dep) (M : Mm) (hR : RR γ P M) (hQ : ∀ M, RR γ (p_h175 P g f o) M → Q none M) : G m_R_hears ownR M0 Q dep k n M 175 [some (va_rf (some γ.1)), some (.int (nI g)), some (.int (nI f)), some (.int (nI o))] [] := by
  refine g_aload_n d_R_hears_175 rfl ?_
  refine r_arr 21 hR (by decide) (by decide) fl_R_71 rfl d_R_hears_176 ?_
  refine g_iload_n d_R_hears_179 rfl ?_
  refine r_iald 21 g hR (by decide) rfl d_R_hears_180 rfl (by show g < 10; first | omega | (have h5_ := (win_nat (hW 21 g) c_181).2; omega)) ?_
  refine g_if_lt 203 d_R_hears_181 (by decide) (fun c_181 => ?_) (fun c_181 => ?_)
  · skip
    refine g_aload_n d_R_hears_203 rfl ?_
    refine g_iload_n d_R_hears_204 rfl ?_
    refine g_aload_n d_R_hears_205 rfl ?_
    refine r_arr 19 hR (by decide) (by decide) fl_R_65 rfl d_R_hears_206 ?_
    refine g_iload_n d_R_hears_209 rfl ?_
    refine r_iald 19 g hR (by decide) rfl d_R_hears_210 rfl (by show g < 10; first | omega | (have h5_ := (win_nat (hW 21 g) c_181).2; omega)) ?_
    have w_1 : sm (P 19 g) 9 := hW 19 g
    have w_1b := w_1.2
    refine r_call [.int (nI g), .int (nI (tn (P 19 g)))] hR cw_R_249 cv_R_hand d_R_hears_211 rfl (by rw [← (show (P 19 g : Int32) = nI (tn (P 19 g)) from w_1.1)]; try rfl) ⟨by simp, by simp⟩ (by omega) (c_R_hand _ g (tn (P 19 g)) hW (by omega) (by omega)) (fun M hR => ?_)
    refine g_aload_n d_R_hears_214 rfl ?_
    refine g_iload_n d_R_hears_215 rfl ?_
    refine g_aload_n d_R_hears_216 rfl ?_
    refine r_arr 20 hR (by decide) (by decide) fl_R_68 rfl d_R_hears_217 ?_
    refine g_iload_n d_R_hears_220 rfl ?_
    refine r_iald 20 g hR (by decide) rfl d_R_hears_221 rfl (by show g < 10; first | omega | (have h5_ := (win_nat (hW 21 g) c_181).2; omega)) ?_
    have w_2 : sm ((p_R_hand P g (tn (P 19 g))) 20 g) 9 := (wb_hand hW _ _) 20 g
    have w_2b := w_2.2
    refine g_iconst (v := 5) d_R_hears_222 (by decide) ?_
    refine r_call [.int (nI g), .int (nI (tn ((p_R_hand P g (tn (P 19 g))) 20 g))), .int (5)] hR cw_R_255 cv_R_join d_R_hears_223 rfl (by rw [← (show ((p_R_hand P g (tn (P 19 g))) 20 g : Int32) = nI (tn ((p_R_hand P g (tn (P 19 g))) 20 g)) from w_2.1)]; try rfl) ⟨by simp, by simp⟩ (by omega) (c_R_join _ g (tn ((p_R_hand P g (tn (P 19 g))) 20 g)) 5 (by omega) (by omega) (show sm _ 9 from (wb_hand hW _ _) 33 _).1 (show sm _ 9 from (wb_hand hW _ _) 33 _).2 (show sm _ 9 from (wb_hand hW _ _) 33 _).1 (show sm _ 9 from (wb_hand hW _ _) 33 _).2) (fun M hR => ?_)
    exact t_h226 (p_R_join (p_R_hand P g (tn (P 19 g))) g (tn ((p_R_hand P g (tn (P 19 g))) 20 g)) 5) g f o (wb_join (wb_hand hW _ _) _ _ _) hg (by rw [join_fr _ _ _ _ (by decide), hand_fr _ _ _ (by decide)]; exact hq9) (by omega) _ hR (fun M_ h_ => hQ M_ (by unfold p_h175; rw [if_pos (show P 21 g < 0 from c_181)]; exact h_))
  · skip
    refine g_aload_n d_R_hears_184 rfl ?_
    refine g_iload_n d_R_hears_185 rfl ?_
    refine g_aload_n d_R_hears_186 rfl ?_
    refine r_arr 13 hR (by decide) (by decide) fl_R_47 rfl d_R_hears_187 ?_
    refine g_aload_n d_R_hears_190 rfl ?_
    refine r_arr 21 hR (by decide) (by decide) fl_R_71 rfl d_R_hears_191 ?_
    refine g_iload_n d_R_hears_194 rfl ?_
    refine r_iald 21 g hR (by decide) rfl d_R_hears_195 rfl (by show g < 10; first | omega | (have h5_ := (win_nat (hW 21 g) c_181).2; omega)) ?_
    refine r_iald 13 (tn (P 21 g)) hR (by decide) rfl d_R_hears_196 ((win_nat (hW 21 g) c_181).1) (by show tn (P 21 g) < 10; first | omega | (have h5_ := (win_nat (hW 21 g) c_181).2; omega)) ?_
    refine r_call [.int (nI g), .int (P 13 (tn (P 21 g)))] hR cw_R_198 cv_R_give d_R_hears_197 rfl rfl ⟨by simp, by simp⟩ (by omega) (c_R_give _ g (P 13 (tn (P 21 g))) (by omega)) (fun M hR => ?_)
    refine g_goto 226 d_R_hears_200 (by decide) ?_
    exact t_h226 (p_R_give P g (P 13 (tn (P 21 g)))) g f o (wb_give hW _ _) hg hq9 (by omega) _ hR (fun M_ h_ => hQ M_ (by unfold p_h175; rw [if_neg (show ¬ (P 21 g < 0) from c_181)]; exact h_))
def p_h149 (P : Pst) (g : Nat) (f : Nat) (o : Nat) : Pst := if P 5 o = 2 then p_h175 P g f o else if P 14 f = 0 then p_R_strike P o (nI g) else P
set_option maxHeartbeats 4000000 in
set_option maxRecDepth 100000 in
theorem t_h149 (P : Pst) (g : Nat) (f : Nat) (o : Nat) (hW : WB P) (hg : g < 10) (hf : f < 10) (ho : o < 10) (hq9 : tn (P 43 0) < 10) {γ : Rg} {M0 : Mm} {Q : Option Value → Mm → Prop} {dep k n : Nat} (hdep : 2 ≤ dep) (M : Mm) (hR : RR γ P M) (hQ : ∀ M, RR γ (p_h149 P g f o) M → Q none M) : G m_R_hears ownR M0 Q dep k n M 149 [some (va_rf (some γ.1)), some (.int (nI g)), some (.int (nI f)), some (.int (nI o))] [] := by
  refine g_aload_n d_R_hears_149 rfl ?_
  refine r_arr 5 hR (by decide) (by decide) fl_R_22 rfl d_R_hears_150 ?_
  refine g_iload_n d_R_hears_153 rfl ?_
  refine r_iald 5 o hR (by decide) rfl d_R_hears_154 rfl (by show o < 10; omega) ?_
  refine g_iconst (v := 2) d_R_hears_155 (by decide) ?_
  refine g_icmp_eq 175 d_R_hears_156 (by decide) (fun c_156 => ?_) (fun c_156 => ?_)
  · skip
    exact t_h175 P g f o hW hg hq9 (by omega) _ hR (fun M_ h_ => hQ M_ (by unfold p_h149; rw [if_pos (show P 5 o = 2 from c_156)]; exact h_))
  · skip
    refine g_aload_n d_R_hears_159 rfl ?_
    refine r_arr 14 hR (by decide) (by decide) fl_R_50 rfl d_R_hears_160 ?_
    refine g_iload_n d_R_hears_163 rfl ?_
    refine r_zald 14 f hR (by decide) rfl d_R_hears_164 rfl (by show f < 10; omega) ?_
    refine g_if_ne 174 d_R_hears_165 (by decide) (fun c_165 => ?_) (fun c_165 => ?_)
    · skip
      exact g_return d_R_hears_174 rfl (hQ M (by unfold p_h149; rw [if_neg (show ¬ (P 5 o = 2) from c_156), if_neg (show ¬ (P 14 f = 0) from c_165)]; exact hR))
    · skip
      refine g_aload_n d_R_hears_168 rfl ?_
      refine g_iload_n d_R_hears_169 rfl ?_
      refine g_iload_n d_R_hears_170 rfl ?_
      refine r_call [.int (nI o), .int (nI g)] hR cw_R_190 cv_R_strike d_R_hears_171 rfl rfl ⟨by simp, by simp⟩ (by omega) (c_R_strike _ o (nI g) (by omega) (show sm _ 10 from hW 43 0).1 (fun _ => hq9)) (fun M hR => ?_)
      exact g_return d_R_hears_174 rfl (hQ M (by unfold p_h149; rw [if_neg (show ¬ (P 5 o = 2) from c_156), if_pos (show P 14 f = 0 from c_165)]; exact hR))
def p_h124 (P : Pst) (g : Nat) (f : Nat) (o : Nat) : Pst := if P 14 f = 0 then if 0 ≤ P 21 g then p_h149 P g f o else p_h149 (up P 21 g (nI f)) g f o else p_h149 P g f o
set_option maxHeartbeats 4000000 in
set_option maxRecDepth 100000 in
theorem t_h124 (P : Pst) (g : Nat) (f : Nat) (o : Nat) (hW : WB P) (hg : g < 10) (hf : f < 10) (ho : o < 10) (hq9 : tn (P 43 0) < 10) {γ : Rg} {M0 : Mm} {Q : Option Value → Mm → Prop} {dep k n : Nat} (hdep : 2 ≤ dep) (M : Mm) (hR : RR γ P M) (hQ : ∀ M, RR γ (p_h124 P g f o) M → Q none M) : G m_R_hears ownR M0 Q dep k n M 124 [some (va_rf (some γ.1)), some (.int (nI g)), some (.int (nI f)), some (.int (nI o))] [] := by
  refine g_aload_n d_R_hears_124 rfl ?_
  refine r_arr 14 hR (by decide) (by decide) fl_R_50 rfl d_R_hears_125 ?_
  refine g_iload_n d_R_hears_128 rfl ?_
  refine r_zald 14 f hR (by decide) rfl d_R_hears_129 rfl (by show f < 10; omega) ?_
  refine g_if_ne 149 d_R_hears_130 (by decide) (fun c_130 => ?_) (fun c_130 => ?_)
  · skip
    exact t_h149 P g f o hW hg hf ho hq9 (by omega) _ hR (fun M_ h_ => hQ M_ (by unfold p_h124; rw [if_neg (show ¬ (P 14 f = 0) from c_130)]; exact h_))
  · skip
    refine g_aload_n d_R_hears_133 rfl ?_
    refine r_arr 21 hR (by decide) (by decide) fl_R_71 rfl d_R_hears_134 ?_
    refine g_iload_n d_R_hears_137 rfl ?_
    refine r_iald 21 g hR (by decide) rfl d_R_hears_138 rfl (by show g < 10; omega) ?_
    refine g_if_ge 149 d_R_hears_139 (by decide) (fun c_139 => ?_) (fun c_139 => ?_)
    · skip
      exact t_h149 P g f o hW hg hf ho hq9 (by omega) _ hR (fun M_ h_ => hQ M_ (by unfold p_h124; rw [if_pos (show P 14 f = 0 from c_130), if_pos (show 0 ≤ P 21 g from c_139)]; exact h_))
    · skip
      refine g_aload_n d_R_hears_142 rfl ?_
      refine r_arr 21 hR (by decide) (by decide) fl_R_71 rfl d_R_hears_143 ?_
      refine g_iload_n d_R_hears_146 rfl ?_
      refine g_iload_n d_R_hears_147 rfl ?_
      refine r_iast 21 g hR (by decide) rfl d_R_hears_148 rfl (by show g < 10; omega) (fun M hR => ?_)
      exact t_h149 (up P 21 g (nI f)) g f o (WB.up (f := 21) (j := g) (x := nI f) hW (Or.inr (sm_nI (n := f) (N := 9) (by omega) (by decide)))) hg hf ho hq9 (by omega) _ hR (fun M_ h_ => hQ M_ (by unfold p_h124; rw [if_pos (show P 14 f = 0 from c_130), if_neg (show ¬ (0 ≤ P 21 g) from c_139)]; exact h_))
def p_R_hears (P : Pst) (g : Nat) (f : Nat) : Pst := if P 15 g = 1 then if P 16 g = nI f then p_R_wake (p_R_hand P g f) g else if P 15 g = 2 then if P 15 g = 3 then if P 19 g = nI f then p_h124 P g f (tn (P 20 g)) else if P 20 g = nI f then p_h124 P g f (tn (P 19 g)) else P else P else if P 15 g = 3 then if P 19 g = nI f then p_h124 P g f (tn (P 20 g)) else if P 20 g = nI f then p_h124 P g f (tn (P 19 g)) else P else P else if P 15 g = 2 then if P 16 g = nI f then p_R_wake (p_R_give P g 0) g else if P 15 g = 3 then if P 19 g = nI f then p_h124 P g f (tn (P 20 g)) else if P 20 g = nI f then p_h124 P g f (tn (P 19 g)) else P else P else if P 15 g = 3 then if P 19 g = nI f then p_h124 P g f (tn (P 20 g)) else if P 20 g = nI f then p_h124 P g f (tn (P 19 g)) else P else P
set_option maxHeartbeats 4000000 in
set_option maxRecDepth 100000 in
theorem c_R_hears (P : Pst) (g : Nat) (f : Nat) (hW : WB P) (hg : g < 10) (hf : f < 10) (hq9 : tn (P 43 0) < 10) : RC m_R_hears 2 [.int (nI g), .int (nI f)] P none (p_R_hears P g f) := by
  intro γ M hR
  refine Run.ofG (by decide) (by simp [cat_int, cat_rf]) (Nat.le_of_ble_eq_true rfl) ?_
  refine g_aload_n d_R_hears_0 rfl ?_
  refine r_arr 15 hR (by decide) (by decide) fl_R_53 rfl d_R_hears_1 ?_
  refine g_iload_n d_R_hears_4 rfl ?_
  refine r_iald 15 g hR (by decide) rfl d_R_hears_5 rfl (by show g < 10; omega) ?_
  refine g_iconst (v := 1) d_R_hears_6 (by decide) ?_
  refine g_icmp_ne 34 d_R_hears_7 (by decide) (fun c_7 => ?_) (fun c_7 => ?_)
  · skip
    refine g_aload_n d_R_hears_34 rfl ?_
    refine r_arr 15 hR (by decide) (by decide) fl_R_53 rfl d_R_hears_35 ?_
    refine g_iload_n d_R_hears_38 rfl ?_
    refine r_iald 15 g hR (by decide) rfl d_R_hears_39 rfl (by show g < 10; omega) ?_
    refine g_iconst (v := 2) d_R_hears_40 (by decide) ?_
    refine g_icmp_ne 68 d_R_hears_41 (by decide) (fun c_41 => ?_) (fun c_41 => ?_)
    · skip
      refine g_aload_n d_R_hears_68 rfl ?_
      refine r_arr 15 hR (by decide) (by decide) fl_R_53 rfl d_R_hears_69 ?_
      refine g_iload_n d_R_hears_72 rfl ?_
      refine r_iald 15 g hR (by decide) rfl d_R_hears_73 rfl (by show g < 10; omega) ?_
      refine g_iconst (v := 3) d_R_hears_74 (by decide) ?_
      refine g_icmp_ne 231 d_R_hears_75 (by decide) (fun c_75 => ?_) (fun c_75 => ?_)
      · skip
        exact g_return d_R_hears_231 rfl ⟨rfl, by unfold p_R_hears; rw [if_neg (show ¬ (P 15 g = 1) from c_7), if_neg (show ¬ (P 15 g = 2) from c_41), if_neg (show ¬ (P 15 g = 3) from c_75)]; exact hR⟩
      · skip
        refine g_aload_n d_R_hears_78 rfl ?_
        refine r_arr 19 hR (by decide) (by decide) fl_R_65 rfl d_R_hears_79 ?_
        refine g_iload_n d_R_hears_82 rfl ?_
        refine r_iald 19 g hR (by decide) rfl d_R_hears_83 rfl (by show g < 10; omega) ?_
        have w_1 : sm (P 19 g) 9 := hW 19 g
        have w_1b := w_1.2
        refine g_iload_n d_R_hears_84 rfl ?_
        refine g_icmp_eq 98 d_R_hears_85 (by decide) (fun c_85 => ?_) (fun c_85 => ?_)
        · skip
          refine g_aload_n d_R_hears_98 rfl ?_
          refine r_arr 19 hR (by decide) (by decide) fl_R_65 rfl d_R_hears_99 ?_
          refine g_iload_n d_R_hears_102 rfl ?_
          refine r_iald 19 g hR (by decide) rfl d_R_hears_103 rfl (by show g < 10; omega) ?_
          have w_2 : sm (P 19 g) 9 := hW 19 g
          have w_2b := w_2.2
          refine g_iload_n d_R_hears_104 rfl ?_
          refine g_icmp_ne 117 d_R_hears_105 (by decide) (fun c_105 => ?_) (fun c_105 => ?_)
          · exact absurd (show P 19 g = nI f from c_85) c_105
          · skip
            refine g_aload_n d_R_hears_108 rfl ?_
            refine r_arr 20 hR (by decide) (by decide) fl_R_68 rfl d_R_hears_109 ?_
            refine g_iload_n d_R_hears_112 rfl ?_
            refine r_iald 20 g hR (by decide) rfl d_R_hears_113 rfl (by show g < 10; omega) ?_
            have w_3 : sm (P 20 g) 9 := hW 20 g
            have w_3b := w_3.2
            refine g_goto 123 d_R_hears_114 (by decide) ?_
            rw [w_3.1]
            refine g_istore_n d_R_hears_123 (by decide) ?_
            exact t_h124 P g f (tn (P 20 g)) hW hg hf (by omega) hq9 (by decide) _ hR (fun M_ h_ => ⟨rfl, by unfold p_R_hears; rw [if_neg (show ¬ (P 15 g = 1) from c_7), if_neg (show ¬ (P 15 g = 2) from c_41), if_pos (show P 15 g = 3 from c_75), if_pos (show P 19 g = nI f from c_85)]; exact h_⟩)
        · skip
          refine g_aload_n d_R_hears_88 rfl ?_
          refine r_arr 20 hR (by decide) (by decide) fl_R_68 rfl d_R_hears_89 ?_
          refine g_iload_n d_R_hears_92 rfl ?_
          refine r_iald 20 g hR (by decide) rfl d_R_hears_93 rfl (by show g < 10; omega) ?_
          have w_4 : sm (P 20 g) 9 := hW 20 g
          have w_4b := w_4.2
          refine g_iload_n d_R_hears_94 rfl ?_
          refine g_icmp_ne 231 d_R_hears_95 (by decide) (fun c_95 => ?_) (fun c_95 => ?_)
          · skip
            exact g_return d_R_hears_231 rfl ⟨rfl, by unfold p_R_hears; rw [if_neg (show ¬ (P 15 g = 1) from c_7), if_neg (show ¬ (P 15 g = 2) from c_41), if_pos (show P 15 g = 3 from c_75), if_neg (show ¬ (P 19 g = nI f) from c_85), if_neg (show ¬ (P 20 g = nI f) from c_95)]; exact hR⟩
          · skip
            refine g_aload_n d_R_hears_98 rfl ?_
            refine r_arr 19 hR (by decide) (by decide) fl_R_65 rfl d_R_hears_99 ?_
            refine g_iload_n d_R_hears_102 rfl ?_
            refine r_iald 19 g hR (by decide) rfl d_R_hears_103 rfl (by show g < 10; omega) ?_
            have w_5 : sm (P 19 g) 9 := hW 19 g
            have w_5b := w_5.2
            refine g_iload_n d_R_hears_104 rfl ?_
            refine g_icmp_ne 117 d_R_hears_105 (by decide) (fun c_105 => ?_) (fun c_105 => ?_)
            · skip
              refine g_aload_n d_R_hears_117 rfl ?_
              refine r_arr 19 hR (by decide) (by decide) fl_R_65 rfl d_R_hears_118 ?_
              refine g_iload_n d_R_hears_121 rfl ?_
              refine r_iald 19 g hR (by decide) rfl d_R_hears_122 rfl (by show g < 10; omega) ?_
              have w_6 : sm (P 19 g) 9 := hW 19 g
              have w_6b := w_6.2
              rw [w_6.1]
              refine g_istore_n d_R_hears_123 (by decide) ?_
              exact t_h124 P g f (tn (P 19 g)) hW hg hf (by omega) hq9 (by decide) _ hR (fun M_ h_ => ⟨rfl, by unfold p_R_hears; rw [if_neg (show ¬ (P 15 g = 1) from c_7), if_neg (show ¬ (P 15 g = 2) from c_41), if_pos (show P 15 g = 3 from c_75), if_neg (show ¬ (P 19 g = nI f) from c_85), if_pos (show P 20 g = nI f from c_95)]; exact h_⟩)
            · exact absurd (show P 19 g = nI f from c_105) c_85
    · skip
      refine g_aload_n d_R_hears_44 rfl ?_
      refine r_arr 16 hR (by decide) (by decide) fl_R_56 rfl d_R_hears_45 ?_
      refine g_iload_n d_R_hears_48 rfl ?_
      refine r_iald 16 g hR (by decide) rfl d_R_hears_49 rfl (by show g < 10; omega) ?_
      refine g_iload_n d_R_hears_50 rfl ?_
      refine g_icmp_ne 68 d_R_hears_51 (by decide) (fun c_51 => ?_) (fun c_51 => ?_)
      · skip
        refine g_aload_n d_R_hears_68 rfl ?_
        refine r_arr 15 hR (by decide) (by decide) fl_R_53 rfl d_R_hears_69 ?_
        refine g_iload_n d_R_hears_72 rfl ?_
        refine r_iald 15 g hR (by decide) rfl d_R_hears_73 rfl (by show g < 10; omega) ?_
        refine g_iconst (v := 3) d_R_hears_74 (by decide) ?_
        refine g_icmp_ne 231 d_R_hears_75 (by decide) (fun c_75 => ?_) (fun c_75 => ?_)
        · skip
          exact g_return d_R_hears_231 rfl ⟨rfl, by unfold p_R_hears; rw [if_neg (show ¬ (P 15 g = 1) from c_7), if_pos (show P 15 g = 2 from c_41), if_neg (show ¬ (P 16 g = nI f) from c_51), if_neg (show ¬ (P 15 g = 3) from c_75)]; exact hR⟩
        · skip
          refine g_aload_n d_R_hears_78 rfl ?_
          refine r_arr 19 hR (by decide) (by decide) fl_R_65 rfl d_R_hears_79 ?_
          refine g_iload_n d_R_hears_82 rfl ?_
          refine r_iald 19 g hR (by decide) rfl d_R_hears_83 rfl (by show g < 10; omega) ?_
          have w_7 : sm (P 19 g) 9 := hW 19 g
          have w_7b := w_7.2
          refine g_iload_n d_R_hears_84 rfl ?_
          refine g_icmp_eq 98 d_R_hears_85 (by decide) (fun c_85 => ?_) (fun c_85 => ?_)
          · skip
            refine g_aload_n d_R_hears_98 rfl ?_
            refine r_arr 19 hR (by decide) (by decide) fl_R_65 rfl d_R_hears_99 ?_
            refine g_iload_n d_R_hears_102 rfl ?_
            refine r_iald 19 g hR (by decide) rfl d_R_hears_103 rfl (by show g < 10; omega) ?_
            have w_8 : sm (P 19 g) 9 := hW 19 g
            have w_8b := w_8.2
            refine g_iload_n d_R_hears_104 rfl ?_
            refine g_icmp_ne 117 d_R_hears_105 (by decide) (fun c_105 => ?_) (fun c_105 => ?_)
            · exact absurd (show P 19 g = nI f from c_85) c_105
            · skip
              refine g_aload_n d_R_hears_108 rfl ?_
              refine r_arr 20 hR (by decide) (by decide) fl_R_68 rfl d_R_hears_109 ?_
              refine g_iload_n d_R_hears_112 rfl ?_
              refine r_iald 20 g hR (by decide) rfl d_R_hears_113 rfl (by show g < 10; omega) ?_
              have w_9 : sm (P 20 g) 9 := hW 20 g
              have w_9b := w_9.2
              refine g_goto 123 d_R_hears_114 (by decide) ?_
              rw [w_9.1]
              refine g_istore_n d_R_hears_123 (by decide) ?_
              exact t_h124 P g f (tn (P 20 g)) hW hg hf (by omega) hq9 (by decide) _ hR (fun M_ h_ => ⟨rfl, by unfold p_R_hears; rw [if_neg (show ¬ (P 15 g = 1) from c_7), if_pos (show P 15 g = 2 from c_41), if_neg (show ¬ (P 16 g = nI f) from c_51), if_pos (show P 15 g = 3 from c_75), if_pos (show P 19 g = nI f from c_85)]; exact h_⟩)
          · skip
            refine g_aload_n d_R_hears_88 rfl ?_
            refine r_arr 20 hR (by decide) (by decide) fl_R_68 rfl d_R_hears_89 ?_
            refine g_iload_n d_R_hears_92 rfl ?_
            refine r_iald 20 g hR (by decide) rfl d_R_hears_93 rfl (by show g < 10; omega) ?_
            have w_10 : sm (P 20 g) 9 := hW 20 g
            have w_10b := w_10.2
            refine g_iload_n d_R_hears_94 rfl ?_
            refine g_icmp_ne 231 d_R_hears_95 (by decide) (fun c_95 => ?_) (fun c_95 => ?_)
            · skip
              exact g_return d_R_hears_231 rfl ⟨rfl, by unfold p_R_hears; rw [if_neg (show ¬ (P 15 g = 1) from c_7), if_pos (show P 15 g = 2 from c_41), if_neg (show ¬ (P 16 g = nI f) from c_51), if_pos (show P 15 g = 3 from c_75), if_neg (show ¬ (P 19 g = nI f) from c_85), if_neg (show ¬ (P 20 g = nI f) from c_95)]; exact hR⟩
            · skip
              refine g_aload_n d_R_hears_98 rfl ?_
              refine r_arr 19 hR (by decide) (by decide) fl_R_65 rfl d_R_hears_99 ?_
              refine g_iload_n d_R_hears_102 rfl ?_
              refine r_iald 19 g hR (by decide) rfl d_R_hears_103 rfl (by show g < 10; omega) ?_
              have w_11 : sm (P 19 g) 9 := hW 19 g
              have w_11b := w_11.2
              refine g_iload_n d_R_hears_104 rfl ?_
              refine g_icmp_ne 117 d_R_hears_105 (by decide) (fun c_105 => ?_) (fun c_105 => ?_)
              · skip
                refine g_aload_n d_R_hears_117 rfl ?_
                refine r_arr 19 hR (by decide) (by decide) fl_R_65 rfl d_R_hears_118 ?_
                refine g_iload_n d_R_hears_121 rfl ?_
                refine r_iald 19 g hR (by decide) rfl d_R_hears_122 rfl (by show g < 10; omega) ?_
                have w_12 : sm (P 19 g) 9 := hW 19 g
                have w_12b := w_12.2
                rw [w_12.1]
                refine g_istore_n d_R_hears_123 (by decide) ?_
                exact t_h124 P g f (tn (P 19 g)) hW hg hf (by omega) hq9 (by decide) _ hR (fun M_ h_ => ⟨rfl, by unfold p_R_hears; rw [if_neg (show ¬ (P 15 g = 1) from c_7), if_pos (show P 15 g = 2 from c_41), if_neg (show ¬ (P 16 g = nI f) from c_51), if_pos (show P 15 g = 3 from c_75), if_neg (show ¬ (P 19 g = nI f) from c_85), if_pos (show P 20 g = nI f from c_95)]; exact h_⟩)
              · exact absurd (show P 19 g = nI f from c_105) c_85
      · skip
        refine g_aload_n d_R_hears_54 rfl ?_
        refine g_iload_n d_R_hears_55 rfl ?_
        refine g_iconst (v := 0) d_R_hears_56 (by decide) ?_
        refine r_call [.int (nI g), .int (0)] hR cw_R_198 cv_R_give d_R_hears_57 rfl rfl ⟨by simp, by simp⟩ (by decide) (c_R_give _ g 0 (by omega)) (fun M hR => ?_)
        refine g_aload_n d_R_hears_60 rfl ?_
        refine g_iload_n d_R_hears_61 rfl ?_
        refine r_call [.int (nI g)] hR cw_R_186 cv_R_wake d_R_hears_62 rfl rfl ⟨by simp, by simp⟩ (by decide) (c_R_wake _ g (by omega) (show sm _ 10 from hW 43 0).1 hq9) (fun M hR => ?_)
        refine g_goto 231 d_R_hears_65 (by decide) ?_
        exact g_return d_R_hears_231 rfl ⟨rfl, by unfold p_R_hears; rw [if_neg (show ¬ (P 15 g = 1) from c_7), if_pos (show P 15 g = 2 from c_41), if_pos (show P 16 g = nI f from c_51)]; exact hR⟩
  · skip
    refine g_aload_n d_R_hears_10 rfl ?_
    refine r_arr 16 hR (by decide) (by decide) fl_R_56 rfl d_R_hears_11 ?_
    refine g_iload_n d_R_hears_14 rfl ?_
    refine r_iald 16 g hR (by decide) rfl d_R_hears_15 rfl (by show g < 10; omega) ?_
    refine g_iload_n d_R_hears_16 rfl ?_
    refine g_icmp_ne 34 d_R_hears_17 (by decide) (fun c_17 => ?_) (fun c_17 => ?_)
    · skip
      refine g_aload_n d_R_hears_34 rfl ?_
      refine r_arr 15 hR (by decide) (by decide) fl_R_53 rfl d_R_hears_35 ?_
      refine g_iload_n d_R_hears_38 rfl ?_
      refine r_iald 15 g hR (by decide) rfl d_R_hears_39 rfl (by show g < 10; omega) ?_
      refine g_iconst (v := 2) d_R_hears_40 (by decide) ?_
      refine g_icmp_ne 68 d_R_hears_41 (by decide) (fun c_41 => ?_) (fun c_41 => ?_)
      · skip
        refine g_aload_n d_R_hears_68 rfl ?_
        refine r_arr 15 hR (by decide) (by decide) fl_R_53 rfl d_R_hears_69 ?_
        refine g_iload_n d_R_hears_72 rfl ?_
        refine r_iald 15 g hR (by decide) rfl d_R_hears_73 rfl (by show g < 10; omega) ?_
        refine g_iconst (v := 3) d_R_hears_74 (by decide) ?_
        refine g_icmp_ne 231 d_R_hears_75 (by decide) (fun c_75 => ?_) (fun c_75 => ?_)
        · skip
          exact g_return d_R_hears_231 rfl ⟨rfl, by unfold p_R_hears; rw [if_pos (show P 15 g = 1 from c_7), if_neg (show ¬ (P 16 g = nI f) from c_17), if_neg (show ¬ (P 15 g = 2) from c_41), if_neg (show ¬ (P 15 g = 3) from c_75)]; exact hR⟩
        · skip
          refine g_aload_n d_R_hears_78 rfl ?_
          refine r_arr 19 hR (by decide) (by decide) fl_R_65 rfl d_R_hears_79 ?_
          refine g_iload_n d_R_hears_82 rfl ?_
          refine r_iald 19 g hR (by decide) rfl d_R_hears_83 rfl (by show g < 10; omega) ?_
          have w_13 : sm (P 19 g) 9 := hW 19 g
          have w_13b := w_13.2
          refine g_iload_n d_R_hears_84 rfl ?_
          refine g_icmp_eq 98 d_R_hears_85 (by decide) (fun c_85 => ?_) (fun c_85 => ?_)
          · skip
            refine g_aload_n d_R_hears_98 rfl ?_
            refine r_arr 19 hR (by decide) (by decide) fl_R_65 rfl d_R_hears_99 ?_
            refine g_iload_n d_R_hears_102 rfl ?_
            refine r_iald 19 g hR (by decide) rfl d_R_hears_103 rfl (by show g < 10; omega) ?_
            have w_14 : sm (P 19 g) 9 := hW 19 g
            have w_14b := w_14.2
            refine g_iload_n d_R_hears_104 rfl ?_
            refine g_icmp_ne 117 d_R_hears_105 (by decide) (fun c_105 => ?_) (fun c_105 => ?_)
            · exact absurd (show P 19 g = nI f from c_85) c_105
            · skip
              refine g_aload_n d_R_hears_108 rfl ?_
              refine r_arr 20 hR (by decide) (by decide) fl_R_68 rfl d_R_hears_109 ?_
              refine g_iload_n d_R_hears_112 rfl ?_
              refine r_iald 20 g hR (by decide) rfl d_R_hears_113 rfl (by show g < 10; omega) ?_
              have w_15 : sm (P 20 g) 9 := hW 20 g
              have w_15b := w_15.2
              refine g_goto 123 d_R_hears_114 (by decide) ?_
              rw [w_15.1]
              refine g_istore_n d_R_hears_123 (by decide) ?_
              exact t_h124 P g f (tn (P 20 g)) hW hg hf (by omega) hq9 (by decide) _ hR (fun M_ h_ => ⟨rfl, by unfold p_R_hears; rw [if_pos (show P 15 g = 1 from c_7), if_neg (show ¬ (P 16 g = nI f) from c_17), if_neg (show ¬ (P 15 g = 2) from c_41), if_pos (show P 15 g = 3 from c_75), if_pos (show P 19 g = nI f from c_85)]; exact h_⟩)
          · skip
            refine g_aload_n d_R_hears_88 rfl ?_
            refine r_arr 20 hR (by decide) (by decide) fl_R_68 rfl d_R_hears_89 ?_
            refine g_iload_n d_R_hears_92 rfl ?_
            refine r_iald 20 g hR (by decide) rfl d_R_hears_93 rfl (by show g < 10; omega) ?_
            have w_16 : sm (P 20 g) 9 := hW 20 g
            have w_16b := w_16.2
            refine g_iload_n d_R_hears_94 rfl ?_
            refine g_icmp_ne 231 d_R_hears_95 (by decide) (fun c_95 => ?_) (fun c_95 => ?_)
            · skip
              exact g_return d_R_hears_231 rfl ⟨rfl, by unfold p_R_hears; rw [if_pos (show P 15 g = 1 from c_7), if_neg (show ¬ (P 16 g = nI f) from c_17), if_neg (show ¬ (P 15 g = 2) from c_41), if_pos (show P 15 g = 3 from c_75), if_neg (show ¬ (P 19 g = nI f) from c_85), if_neg (show ¬ (P 20 g = nI f) from c_95)]; exact hR⟩
            · skip
              refine g_aload_n d_R_hears_98 rfl ?_
              refine r_arr 19 hR (by decide) (by decide) fl_R_65 rfl d_R_hears_99 ?_
              refine g_iload_n d_R_hears_102 rfl ?_
              refine r_iald 19 g hR (by decide) rfl d_R_hears_103 rfl (by show g < 10; omega) ?_
              have w_17 : sm (P 19 g) 9 := hW 19 g
              have w_17b := w_17.2
              refine g_iload_n d_R_hears_104 rfl ?_
              refine g_icmp_ne 117 d_R_hears_105 (by decide) (fun c_105 => ?_) (fun c_105 => ?_)
              · skip
                refine g_aload_n d_R_hears_117 rfl ?_
                refine r_arr 19 hR (by decide) (by decide) fl_R_65 rfl d_R_hears_118 ?_
                refine g_iload_n d_R_hears_121 rfl ?_
                refine r_iald 19 g hR (by decide) rfl d_R_hears_122 rfl (by show g < 10; omega) ?_
                have w_18 : sm (P 19 g) 9 := hW 19 g
                have w_18b := w_18.2
                rw [w_18.1]
                refine g_istore_n d_R_hears_123 (by decide) ?_
                exact t_h124 P g f (tn (P 19 g)) hW hg hf (by omega) hq9 (by decide) _ hR (fun M_ h_ => ⟨rfl, by unfold p_R_hears; rw [if_pos (show P 15 g = 1 from c_7), if_neg (show ¬ (P 16 g = nI f) from c_17), if_neg (show ¬ (P 15 g = 2) from c_41), if_pos (show P 15 g = 3 from c_75), if_neg (show ¬ (P 19 g = nI f) from c_85), if_pos (show P 20 g = nI f from c_95)]; exact h_⟩)
              · exact absurd (show P 19 g = nI f from c_105) c_85
      · skip
        refine g_aload_n d_R_hears_44 rfl ?_
        refine r_arr 16 hR (by decide) (by decide) fl_R_56 rfl d_R_hears_45 ?_
        refine g_iload_n d_R_hears_48 rfl ?_
        refine r_iald 16 g hR (by decide) rfl d_R_hears_49 rfl (by show g < 10; omega) ?_
        refine g_iload_n d_R_hears_50 rfl ?_
        refine g_icmp_ne 68 d_R_hears_51 (by decide) (fun c_51 => ?_) (fun c_51 => ?_)
        · skip
          refine g_aload_n d_R_hears_68 rfl ?_
          refine r_arr 15 hR (by decide) (by decide) fl_R_53 rfl d_R_hears_69 ?_
          refine g_iload_n d_R_hears_72 rfl ?_
          refine r_iald 15 g hR (by decide) rfl d_R_hears_73 rfl (by show g < 10; omega) ?_
          refine g_iconst (v := 3) d_R_hears_74 (by decide) ?_
          refine g_icmp_ne 231 d_R_hears_75 (by decide) (fun c_75 => ?_) (fun c_75 => ?_)
          · skip
            exact g_return d_R_hears_231 rfl ⟨rfl, by unfold p_R_hears; rw [if_pos (show P 15 g = 1 from c_7), if_neg (show ¬ (P 16 g = nI f) from c_17), if_pos (show P 15 g = 2 from c_41), if_neg (show ¬ (P 15 g = 3) from c_75)]; exact hR⟩
          · skip
            refine g_aload_n d_R_hears_78 rfl ?_
            refine r_arr 19 hR (by decide) (by decide) fl_R_65 rfl d_R_hears_79 ?_
            refine g_iload_n d_R_hears_82 rfl ?_
            refine r_iald 19 g hR (by decide) rfl d_R_hears_83 rfl (by show g < 10; omega) ?_
            have w_19 : sm (P 19 g) 9 := hW 19 g
            have w_19b := w_19.2
            refine g_iload_n d_R_hears_84 rfl ?_
            refine g_icmp_eq 98 d_R_hears_85 (by decide) (fun c_85 => ?_) (fun c_85 => ?_)
            · skip
              refine g_aload_n d_R_hears_98 rfl ?_
              refine r_arr 19 hR (by decide) (by decide) fl_R_65 rfl d_R_hears_99 ?_
              refine g_iload_n d_R_hears_102 rfl ?_
              refine r_iald 19 g hR (by decide) rfl d_R_hears_103 rfl (by show g < 10; omega) ?_
              have w_20 : sm (P 19 g) 9 := hW 19 g
              have w_20b := w_20.2
              refine g_iload_n d_R_hears_104 rfl ?_
              refine g_icmp_ne 117 d_R_hears_105 (by decide) (fun c_105 => ?_) (fun c_105 => ?_)
              · exact absurd (show P 19 g = nI f from c_85) c_105
              · skip
                refine g_aload_n d_R_hears_108 rfl ?_
                refine r_arr 20 hR (by decide) (by decide) fl_R_68 rfl d_R_hears_109 ?_
                refine g_iload_n d_R_hears_112 rfl ?_
                refine r_iald 20 g hR (by decide) rfl d_R_hears_113 rfl (by show g < 10; omega) ?_
                have w_21 : sm (P 20 g) 9 := hW 20 g
                have w_21b := w_21.2
                refine g_goto 123 d_R_hears_114 (by decide) ?_
                rw [w_21.1]
                refine g_istore_n d_R_hears_123 (by decide) ?_
                exact t_h124 P g f (tn (P 20 g)) hW hg hf (by omega) hq9 (by decide) _ hR (fun M_ h_ => ⟨rfl, by unfold p_R_hears; rw [if_pos (show P 15 g = 1 from c_7), if_neg (show ¬ (P 16 g = nI f) from c_17), if_pos (show P 15 g = 2 from c_41), if_pos (show P 15 g = 3 from c_75), if_pos (show P 19 g = nI f from c_85)]; exact h_⟩)
            · skip
              refine g_aload_n d_R_hears_88 rfl ?_
              refine r_arr 20 hR (by decide) (by decide) fl_R_68 rfl d_R_hears_89 ?_
              refine g_iload_n d_R_hears_92 rfl ?_
              refine r_iald 20 g hR (by decide) rfl d_R_hears_93 rfl (by show g < 10; omega) ?_
              have w_22 : sm (P 20 g) 9 := hW 20 g
              have w_22b := w_22.2
              refine g_iload_n d_R_hears_94 rfl ?_
              refine g_icmp_ne 231 d_R_hears_95 (by decide) (fun c_95 => ?_) (fun c_95 => ?_)
              · skip
                exact g_return d_R_hears_231 rfl ⟨rfl, by unfold p_R_hears; rw [if_pos (show P 15 g = 1 from c_7), if_neg (show ¬ (P 16 g = nI f) from c_17), if_pos (show P 15 g = 2 from c_41), if_pos (show P 15 g = 3 from c_75), if_neg (show ¬ (P 19 g = nI f) from c_85), if_neg (show ¬ (P 20 g = nI f) from c_95)]; exact hR⟩
              · skip
                refine g_aload_n d_R_hears_98 rfl ?_
                refine r_arr 19 hR (by decide) (by decide) fl_R_65 rfl d_R_hears_99 ?_
                refine g_iload_n d_R_hears_102 rfl ?_
                refine r_iald 19 g hR (by decide) rfl d_R_hears_103 rfl (by show g < 10; omega) ?_
                have w_23 : sm (P 19 g) 9 := hW 19 g
                have w_23b := w_23.2
                refine g_iload_n d_R_hears_104 rfl ?_
                refine g_icmp_ne 117 d_R_hears_105 (by decide) (fun c_105 => ?_) (fun c_105 => ?_)
                · skip
                  refine g_aload_n d_R_hears_117 rfl ?_
                  refine r_arr 19 hR (by decide) (by decide) fl_R_65 rfl d_R_hears_118 ?_
                  refine g_iload_n d_R_hears_121 rfl ?_
                  refine r_iald 19 g hR (by decide) rfl d_R_hears_122 rfl (by show g < 10; omega) ?_
                  have w_24 : sm (P 19 g) 9 := hW 19 g
                  have w_24b := w_24.2
                  rw [w_24.1]
                  refine g_istore_n d_R_hears_123 (by decide) ?_
                  exact t_h124 P g f (tn (P 19 g)) hW hg hf (by omega) hq9 (by decide) _ hR (fun M_ h_ => ⟨rfl, by unfold p_R_hears; rw [if_pos (show P 15 g = 1 from c_7), if_neg (show ¬ (P 16 g = nI f) from c_17), if_pos (show P 15 g = 2 from c_41), if_pos (show P 15 g = 3 from c_75), if_neg (show ¬ (P 19 g = nI f) from c_85), if_pos (show P 20 g = nI f from c_95)]; exact h_⟩)
                · exact absurd (show P 19 g = nI f from c_105) c_85
        · exact absurd (show P 16 g = nI f from c_51) c_17
    · skip
      refine g_aload_n d_R_hears_20 rfl ?_
      refine g_iload_n d_R_hears_21 rfl ?_
      refine g_iload_n d_R_hears_22 rfl ?_
      refine r_call [.int (nI g), .int (nI f)] hR cw_R_249 cv_R_hand d_R_hears_23 rfl rfl ⟨by simp, by simp⟩ (by decide) (c_R_hand _ g f hW (by omega) (by omega)) (fun M hR => ?_)
      refine g_aload_n d_R_hears_26 rfl ?_
      refine g_iload_n d_R_hears_27 rfl ?_
      refine r_call [.int (nI g)] hR cw_R_186 cv_R_wake d_R_hears_28 rfl rfl ⟨by simp, by simp⟩ (by decide) (c_R_wake _ g (by omega) (show sm _ 10 from (wb_hand hW _ _) 43 0).1 (by rw [hand_fr _ _ _ (by decide)]; exact hq9)) (fun M hR => ?_)
      refine g_goto 231 d_R_hears_31 (by decide) ?_
      exact g_return d_R_hears_231 rfl ⟨rfl, by unfold p_R_hears; rw [if_pos (show P 15 g = 1 from c_7), if_pos (show P 16 g = nI f from c_17)]; exact hR⟩

