/-! the reference's methods, further (by program: wip/tools/gen_ref3.py) -/
section RefRules2
variable {mi : MI} {γ : Rg} {P : Pst} {M0 : Mm} {Q : Option Value → Mm → Prop} {dep k n : Nat} {M : Mm} {pc : Nat} {L : List (Option Value)} {st : List Value}
theorem r_ialdv {own : Nat → Nat → Bool} {i v : Int32} (f j : Nat) (hR : RR γ P M) (hv : P f j = v) (hf : f < 52) (hb : rbool f = false) (hd : decode mi.2.1 pc = .ok (.iaload, 1)) (hi : i = nI j) (hj : j < rlen f) (kk : G mi own M0 Q dep k n M (pc + 1) L (.int v :: st)) : G mi own M0 Q dep k n M pc L (.int i :: va_rf (some (γ.2 f)) :: st) := r_iald f j hR hf hb hd hi hj (by rw [hv]; exact kk)
theorem r_zaldv {own : Nat → Nat → Bool} {i v : Int32} (f j : Nat) (hR : RR γ P M) (hv : P f j = v) (hf : f < 52) (hb : rbool f = true) (hd : decode mi.2.1 pc = .ok (.baload, 1)) (hi : i = nI j) (hj : j < rlen f) (kk : G mi own M0 Q dep k n M (pc + 1) L (.int v :: st)) : G mi own M0 Q dep k n M pc L (.int i :: va_rf (some (γ.2 f)) :: st) := r_zald f j hR hf hb hd hi hj (by rw [hv]; exact kk)
theorem r_getiv {own : Nat → Nat → Bool} {idx : Nat} {v : Int32} (f : Nat) (hR : RR γ P M) (hv : P f 0 = v) (hf : f < 52) (lf : rlen f = 0) (hl : fl mi.1.cls idx 8 f) (ht : kInt (kTy 8 f) = true) (hd : decode mi.2.1 pc = .ok (.getfield idx, 3)) (kk : G mi own M0 Q dep k n M (pc + 3) L (.int v :: st)) : G mi own M0 Q dep k n M pc L (va_rf (some γ.1) :: st) := r_geti f hR hf lf hl ht hd (by rw [hv]; exact kk)
end RefRules2
theorem sm_dec {x : Int32} {N : Nat} (h : sm x N) (h1 : 1 ≤ tn x) (hN : N < 2 ^ 30) : sm (x - 1) N := by
  have := h.2
  rw [(tn_dec h.1 h1 (by omega)).1]
  exact sm_nI (by omega) (by omega)
theorem ix_gt0 {x : Int32} {a : Nat} (hx : x = nI a) (h : ¬ x ≤ 0) : 1 ≤ a := by
  rcases Nat.eq_zero_or_pos a with e | e
  · rw [hx, e] at h; exact absurd (by decide) h
  · exact e
def p_R_hand (P : Pst) (f : Nat) (g : Nat) : Pst := if (p_R_give P f (P 13 g)) 14 g = 0 then up (p_R_give P f (P 13 g)) 14 f ((p_R_give P f (P 13 g)) 14 g) else p_R_copy (up (p_R_give P f (P 13 g)) 14 f ((p_R_give P f (P 13 g)) 14 g)) g f
set_option maxHeartbeats 4000000 in
set_option maxRecDepth 100000 in
theorem c_R_hand (P : Pst) (f : Nat) (g : Nat) (hW : WB P) (hf : f < 10) (hg : g < 10) : RC m_R_hand 1 [.int (nI f), .int (nI g)] P none (p_R_hand P f g) := by
  intro γ M hR
  refine Run.ofG (by decide) (by simp [cat_int, cat_rf]) (Nat.le_of_ble_eq_true rfl) ?_
  refine g_aload_n d_R_hand_0 rfl ?_
  refine g_iload_n d_R_hand_1 rfl ?_
  refine g_aload_n d_R_hand_2 rfl ?_
  refine r_arr 13 hR (by decide) (by decide) fl_R_47 rfl d_R_hand_3 ?_
  refine g_iload_n d_R_hand_6 rfl ?_
  refine r_iald 13 g hR (by decide) rfl d_R_hand_7 rfl (by show g < 10; omega) ?_
  refine r_call [.int (nI f), .int (P 13 g)] hR cw_R_198 cv_R_give d_R_hand_8 rfl rfl ⟨by simp, by simp⟩ (by decide) (c_R_give _ f (P 13 g) (by omega)) (fun M hR => ?_)
  refine g_aload_n d_R_hand_11 rfl ?_
  refine r_arr 14 hR (by decide) (by decide) fl_R_50 rfl d_R_hand_12 ?_
  refine g_iload_n d_R_hand_15 rfl ?_
  refine g_aload_n d_R_hand_16 rfl ?_
  refine r_arr 14 hR (by decide) (by decide) fl_R_50 rfl d_R_hand_17 ?_
  refine g_iload_n d_R_hand_20 rfl ?_
  refine r_zald 14 g hR (by decide) rfl d_R_hand_21 rfl (by show g < 10; omega) ?_
  refine r_zast 14 f hR (by decide) rfl ((wb_give hW _ _) 14 g) d_R_hand_22 rfl (by show f < 10; omega) (fun M hR => ?_)
  refine g_aload_n d_R_hand_23 rfl ?_
  refine r_arr 14 hR (by decide) (by decide) fl_R_50 rfl d_R_hand_24 ?_
  refine g_iload_n d_R_hand_27 rfl ?_
  refine r_zaldv 14 f hR (up_s (p_R_give P f (P 13 g)) 14 f ((p_R_give P f (P 13 g)) 14 g)) (by decide) rfl d_R_hand_28 rfl (by show f < 10; omega) ?_
  refine g_if_eq 38 d_R_hand_29 (by decide) (fun c_29 => ?_) (fun c_29 => ?_)
  · skip
    exact g_return d_R_hand_38 rfl ⟨rfl, by unfold p_R_hand; rw [if_pos (show (p_R_give P f (P 13 g)) 14 g = 0 from c_29)]; exact hR⟩
  · skip
    refine g_aload_n d_R_hand_32 rfl ?_
    refine g_iload_n d_R_hand_33 rfl ?_
    refine g_iload_n d_R_hand_34 rfl ?_
    refine r_call [.int (nI g), .int (nI f)] hR cw_R_252 cv_R_copy d_R_hand_35 rfl rfl ⟨by simp, by simp⟩ (by decide) (c_R_copy _ g f (by omega) (by omega)) (fun M hR => ?_)
    exact g_return d_R_hand_38 rfl ⟨rfl, by unfold p_R_hand; rw [if_neg (show ¬ ((p_R_give P f (P 13 g)) 14 g = 0) from c_29)]; exact hR⟩

theorem wb_hand {P : Pst} (h : WB P) (f g : Nat) : WB (p_R_hand P f g) := by
  have h2 : WB (up (p_R_give P f (P 13 g)) 14 f ((p_R_give P f (P 13 g)) 14 g)) := WB.up (f := 14) (wb_give h _ _) ((wb_give h _ _) 14 g)
  unfold p_R_hand
  split
  · exact h2
  · exact wb_copy h2 _ _
def p_R_close (P : Pst) (f : Nat) (q : Nat) : Pst := if P 28 q ≤ 0 then if P 32 q = 0 then up (p_R_give (up (up P 22 f ((P 22 f) - 1)) 10 f (P 31 q)) f (P 27 q)) 14 f (P 32 q) else p_R_copy (up (p_R_give (up (up P 22 f ((P 22 f) - 1)) 10 f (P 31 q)) f (P 27 q)) 14 f (P 32 q)) (10 + q) f else p_R_does (up (up P 28 q ((P 28 q) - 1)) 10 f 1) f (P 29 ((4 * q) + ((tn (P 28 q)) - 1))) (P 30 ((4 * q) + ((tn (P 28 q)) - 1)))
set_option maxHeartbeats 4000000 in
set_option maxRecDepth 100000 in
theorem c_R_close (P : Pst) (f : Nat) (q : Nat) (hW : WB P) (hf : f < 10) (hk : q < 160) (hd1 : 1 ≤ tn (P 22 f)) : RC m_R_close 1 [.int (nI f), .int (nI q)] P none (p_R_close P f q) := by
  intro γ M hR
  refine Run.ofG (by decide) (by simp [cat_int, cat_rf]) (Nat.le_of_ble_eq_true rfl) ?_
  refine g_aload_n d_R_close_0 rfl ?_
  refine r_arr 28 hR (by decide) (by decide) fl_R_92 rfl d_R_close_1 ?_
  refine g_iload_n d_R_close_4 rfl ?_
  refine r_iald 28 q hR (by decide) rfl d_R_close_5 rfl (by show q < 160; omega) ?_
  have w_1 : sm (P 28 q) 4 := hW 28 q
  have w_1b := w_1.2
  refine g_if_le 50 d_R_close_6 (by decide) (fun c_6 => ?_) (fun c_6 => ?_)
  · skip
    refine g_aload_n d_R_close_50 rfl ?_
    refine r_arr 22 hR (by decide) (by decide) fl_R_74 rfl d_R_close_51 ?_
    refine g_iload_n d_R_close_54 rfl ?_
    refine g_dup2 d_R_close_55 rfl (cat_rf _) ?_
    refine r_iald 22 f hR (by decide) rfl d_R_close_56 rfl (by show f < 10; omega) ?_
    have w_2 : sm (P 22 f) 16 := hW 22 f
    have w_2b := w_2.2
    refine g_iconst (v := 1) d_R_close_57 (by decide) ?_
    refine g_isub d_R_close_58 ?_
    refine r_iast 22 f hR (by decide) rfl d_R_close_59 rfl (by show f < 10; omega) (fun M hR => ?_)
    refine g_aload_n d_R_close_60 rfl ?_
    refine r_arr 10 hR (by decide) (by decide) fl_R_37 rfl d_R_close_61 ?_
    refine g_iload_n d_R_close_64 rfl ?_
    refine g_aload_n d_R_close_65 rfl ?_
    refine r_arr 31 hR (by decide) (by decide) fl_R_101 rfl d_R_close_66 ?_
    refine g_iload_n d_R_close_69 rfl ?_
    refine r_zald 31 q hR (by decide) rfl d_R_close_70 rfl (by show q < 160; omega) ?_
    refine r_zast 10 f hR (by decide) rfl (hW 31 q) d_R_close_71 rfl (by show f < 10; omega) (fun M hR => ?_)
    refine g_aload_n d_R_close_72 rfl ?_
    refine g_iload_n d_R_close_73 rfl ?_
    refine g_aload_n d_R_close_74 rfl ?_
    refine r_arr 27 hR (by decide) (by decide) fl_R_89 rfl d_R_close_75 ?_
    refine g_iload_n d_R_close_78 rfl ?_
    refine r_iald 27 q hR (by decide) rfl d_R_close_79 rfl (by show q < 160; omega) ?_
    refine r_call [.int (nI f), .int (P 27 q)] hR cw_R_198 cv_R_give d_R_close_80 rfl rfl ⟨by simp, by simp⟩ (by decide) (c_R_give _ f (P 27 q) (by omega)) (fun M hR => ?_)
    refine g_aload_n d_R_close_83 rfl ?_
    refine r_arr 14 hR (by decide) (by decide) fl_R_50 rfl d_R_close_84 ?_
    refine g_iload_n d_R_close_87 rfl ?_
    refine g_aload_n d_R_close_88 rfl ?_
    refine r_arr 32 hR (by decide) (by decide) fl_R_104 rfl d_R_close_89 ?_
    refine g_iload_n d_R_close_92 rfl ?_
    refine r_zald 32 q hR (by decide) rfl d_R_close_93 rfl (by show q < 160; omega) ?_
    refine r_zast 14 f hR (by decide) rfl (hW 32 q) d_R_close_94 rfl (by show f < 10; omega) (fun M hR => ?_)
    refine g_aload_n d_R_close_95 rfl ?_
    refine r_arr 32 hR (by decide) (by decide) fl_R_104 rfl d_R_close_96 ?_
    refine g_iload_n d_R_close_99 rfl ?_
    refine r_zald 32 q hR (by decide) rfl d_R_close_100 rfl (by show q < 160; omega) ?_
    refine g_if_eq 113 d_R_close_101 (by decide) (fun c_101 => ?_) (fun c_101 => ?_)
    · skip
      exact g_return d_R_close_113 rfl ⟨rfl, by unfold p_R_close; rw [if_pos (show P 28 q ≤ 0 from c_6), if_pos (show P 32 q = 0 from c_101)]; exact hR⟩
    · skip
      refine g_aload_n d_R_close_104 rfl ?_
      refine g_bipush (v := 10) d_R_close_105 (by decide) ?_
      refine g_iload_n d_R_close_107 rfl ?_
      refine g_iadd d_R_close_108 ?_
      refine g_iload_n d_R_close_109 rfl ?_
      refine r_call [.int (nI (10 + q)), .int (nI f)] hR cw_R_252 cv_R_copy d_R_close_110 rfl (by rw [← (show (10 + (nI q) : Int32) = nI (10 + q) from ix_add rfl rfl)]; try rfl) ⟨by simp, by simp⟩ (by decide) (c_R_copy _ (10 + q) f (by omega) (by omega)) (fun M hR => ?_)
      exact g_return d_R_close_113 rfl ⟨rfl, by unfold p_R_close; rw [if_pos (show P 28 q ≤ 0 from c_6), if_neg (show ¬ (P 32 q = 0) from c_101)]; exact hR⟩
  · have h1_ := ix_gt0 w_1.1 c_6
    refine g_iconst (v := 4) d_R_close_9 (by decide) ?_
    refine g_iload_n d_R_close_10 rfl ?_
    refine g_imul d_R_close_11 ?_
    refine g_aload_n d_R_close_12 rfl ?_
    refine r_arr 28 hR (by decide) (by decide) fl_R_92 rfl d_R_close_13 ?_
    refine g_iload_n d_R_close_16 rfl ?_
    refine g_dup2 d_R_close_17 rfl (cat_rf _) ?_
    refine r_iald 28 q hR (by decide) rfl d_R_close_18 rfl (by show q < 160; omega) ?_
    have w_3 : sm (P 28 q) 4 := hW 28 q
    have w_3b := w_3.2
    refine g_iconst (v := 1) d_R_close_19 (by decide) ?_
    refine g_isub d_R_close_20 ?_
    refine g_dup_x2 d_R_close_21 rfl rfl (cat_rf _) ?_
    refine r_iast 28 q hR (by decide) rfl d_R_close_22 rfl (by show q < 160; omega) (fun M hR => ?_)
    refine g_iadd d_R_close_23 ?_
    refine g_istore_n d_R_close_24 (by decide) ?_
    refine g_aload_n d_R_close_25 rfl ?_
    refine r_arr 10 hR (by decide) (by decide) fl_R_37 rfl d_R_close_26 ?_
    refine g_iload_n d_R_close_29 rfl ?_
    refine g_iconst (v := 1) d_R_close_30 (by decide) ?_
    refine r_zast 10 f hR (by decide) rfl (by first | exact Or.inl rfl | exact Or.inr rfl | assumption | (simp_all; done)) d_R_close_31 rfl (by show f < 10; omega) (fun M hR => ?_)
    refine g_aload_n d_R_close_32 rfl ?_
    refine g_iload_n d_R_close_33 rfl ?_
    refine g_aload_n d_R_close_34 rfl ?_
    refine r_arr 29 hR (by decide) (by decide) fl_R_95 rfl d_R_close_35 ?_
    refine g_iload_n d_R_close_38 rfl ?_
    refine r_iald 29 ((4 * q) + ((tn (P 28 q)) - 1)) hR (by decide) rfl d_R_close_39 (ix_add (ix_mul rfl rfl) (ix_sub w_3.1 rfl h1_)) (by show (4 * q) + ((tn (P 28 q)) - 1) < 640; omega) ?_
    have w_4 : sm (P 29 ((4 * q) + ((tn (P 28 q)) - 1))) 39 := hW 29 ((4 * q) + ((tn (P 28 q)) - 1))
    have w_4b := w_4.2
    refine g_aload_n d_R_close_40 rfl ?_
    refine r_arr 30 hR (by decide) (by decide) fl_R_98 rfl d_R_close_41 ?_
    refine g_iload_n d_R_close_44 rfl ?_
    refine r_iald 30 ((4 * q) + ((tn (P 28 q)) - 1)) hR (by decide) rfl d_R_close_45 (ix_add (ix_mul rfl rfl) (ix_sub w_3.1 rfl h1_)) (by show (4 * q) + ((tn (P 28 q)) - 1) < 640; omega) ?_
    refine r_call [.int (nI f), .int (P 29 ((4 * q) + ((tn (P 28 q)) - 1))), .int (P 30 ((4 * q) + ((tn (P 28 q)) - 1)))] hR cw_R_233 cv_R_does d_R_close_46 rfl rfl ⟨by simp, by simp⟩ (by decide) (c_R_does _ f (P 29 ((4 * q) + ((tn (P 28 q)) - 1))) (P 30 ((4 * q) + ((tn (P 28 q)) - 1))) (by omega)) (fun M hR => ?_)
    exact g_return d_R_close_49 rfl ⟨rfl, by unfold p_R_close; rw [if_neg (show ¬ (P 28 q ≤ 0) from c_6)]; exact hR⟩

theorem wb_close {P : Pst} (h : WB P) (f q : Nat) (hd1 : 1 ≤ tn (P 22 f)) : WB (p_R_close P f q) := by
  unfold p_R_close
  repeat' split
  · refine WB.up (f := 14) (wb_give (WB.up (f := 10) (WB.up (f := 22) h (sm_dec (h 22 f) hd1 (by decide))) (h 31 q)) _ _) (h 32 q)
  · refine wb_copy (WB.up (f := 14) (wb_give (WB.up (f := 10) (WB.up (f := 22) h (sm_dec (h 22 f) hd1 (by decide))) (h 31 q)) _ _) (h 32 q)) _ _
  · rename_i c
    exact wb_does (WB.up (f := 10) (WB.up (f := 28) h (sm_dec (h 28 q) (ix_gt0 (show sm _ 4 from h 28 q).1 c) (by decide))) (Or.inr rfl)) _ (Or.inr (h 29 _))
def p_R_closes (P : Pst) (f : Nat) (q : Nat) : Pst := if P 14 f = 0 then p_R_close (up (up (up P 25 q 9) 32 q (P 14 f)) 27 q (P 13 f)) f q else p_R_close (p_R_copy (up (up (up P 25 q 9) 32 q (P 14 f)) 27 q (P 13 f)) f (10 + q)) f q
set_option maxHeartbeats 4000000 in
set_option maxRecDepth 100000 in
theorem c_R_closes (P : Pst) (f : Nat) (q : Nat) (hW : WB P) (hf : f < 10) (hk : q < 160) (hd1 : 1 ≤ tn (P 22 f)) : RC m_R_closes 2 [.int (nI f), .int (nI q)] P none (p_R_closes P f q) := by
  intro γ M hR
  refine Run.ofG (by decide) (by simp [cat_int, cat_rf]) (Nat.le_of_ble_eq_true rfl) ?_
  refine g_aload_n d_R_closes_0 rfl ?_
  refine r_arr 25 hR (by decide) (by decide) fl_R_83 rfl d_R_closes_1 ?_
  refine g_iload_n d_R_closes_4 rfl ?_
  refine g_bipush (v := 9) d_R_closes_5 (by decide) ?_
  refine r_iast 25 q hR (by decide) rfl d_R_closes_7 rfl (by show q < 160; omega) (fun M hR => ?_)
  refine g_aload_n d_R_closes_8 rfl ?_
  refine r_arr 32 hR (by decide) (by decide) fl_R_104 rfl d_R_closes_9 ?_
  refine g_iload_n d_R_closes_12 rfl ?_
  refine g_aload_n d_R_closes_13 rfl ?_
  refine r_arr 14 hR (by decide) (by decide) fl_R_50 rfl d_R_closes_14 ?_
  refine g_iload_n d_R_closes_17 rfl ?_
  refine r_zald 14 f hR (by decide) rfl d_R_closes_18 rfl (by show f < 10; omega) ?_
  refine r_zast 32 q hR (by decide) rfl (hW 14 f) d_R_closes_19 rfl (by show q < 160; omega) (fun M hR => ?_)
  refine g_aload_n d_R_closes_20 rfl ?_
  refine r_arr 27 hR (by decide) (by decide) fl_R_89 rfl d_R_closes_21 ?_
  refine g_iload_n d_R_closes_24 rfl ?_
  refine g_aload_n d_R_closes_25 rfl ?_
  refine r_arr 13 hR (by decide) (by decide) fl_R_47 rfl d_R_closes_26 ?_
  refine g_iload_n d_R_closes_29 rfl ?_
  refine r_iald 13 f hR (by decide) rfl d_R_closes_30 rfl (by show f < 10; omega) ?_
  refine r_iast 27 q hR (by decide) rfl d_R_closes_31 rfl (by show q < 160; omega) (fun M hR => ?_)
  refine g_aload_n d_R_closes_32 rfl ?_
  refine r_arr 14 hR (by decide) (by decide) fl_R_50 rfl d_R_closes_33 ?_
  refine g_iload_n d_R_closes_36 rfl ?_
  refine r_zald 14 f hR (by decide) rfl d_R_closes_37 rfl (by show f < 10; omega) ?_
  refine g_if_eq 50 d_R_closes_38 (by decide) (fun c_38 => ?_) (fun c_38 => ?_)
  · skip
    refine g_aload_n d_R_closes_50 rfl ?_
    refine g_iload_n d_R_closes_51 rfl ?_
    refine g_iload_n d_R_closes_52 rfl ?_
    refine r_call [.int (nI f), .int (nI q)] hR cw_R_258 cv_R_close d_R_closes_53 rfl rfl ⟨by simp, by simp⟩ (by decide) (c_R_close _ f q (WB.up (f := 27) (j := q) (x := P 13 f) (WB.up (f := 32) (j := q) (x := P 14 f) (WB.up (f := 25) (j := q) (x := 9) hW (by first | exact trivial | exact Or.inl rfl | exact Or.inr rfl)) (hW 14 f)) (by first | exact trivial | exact Or.inl rfl | exact Or.inr rfl)) (by omega) (by omega) hd1) (fun M hR => ?_)
    exact g_return d_R_closes_56 rfl ⟨rfl, by unfold p_R_closes; rw [if_pos (show P 14 f = 0 from c_38)]; exact hR⟩
  · skip
    refine g_aload_n d_R_closes_41 rfl ?_
    refine g_iload_n d_R_closes_42 rfl ?_
    refine g_bipush (v := 10) d_R_closes_43 (by decide) ?_
    refine g_iload_n d_R_closes_45 rfl ?_
    refine g_iadd d_R_closes_46 ?_
    refine r_call [.int (nI f), .int (nI (10 + q))] hR cw_R_252 cv_R_copy d_R_closes_47 rfl (by rw [← (show (10 + (nI q) : Int32) = nI (10 + q) from ix_add rfl rfl)]; try rfl) ⟨by simp, by simp⟩ (by decide) (c_R_copy _ f (10 + q) (by omega) (by omega)) (fun M hR => ?_)
    refine g_aload_n d_R_closes_50 rfl ?_
    refine g_iload_n d_R_closes_51 rfl ?_
    refine g_iload_n d_R_closes_52 rfl ?_
    refine r_call [.int (nI f), .int (nI q)] hR cw_R_258 cv_R_close d_R_closes_53 rfl rfl ⟨by simp, by simp⟩ (by decide) (c_R_close _ f q (wb_copy (WB.up (f := 27) (j := q) (x := P 13 f) (WB.up (f := 32) (j := q) (x := P 14 f) (WB.up (f := 25) (j := q) (x := 9) hW (by first | exact trivial | exact Or.inl rfl | exact Or.inr rfl)) (hW 14 f)) (by first | exact trivial | exact Or.inl rfl | exact Or.inr rfl)) _ _) (by omega) (by omega) hd1) (fun M hR => ?_)
    exact g_return d_R_closes_56 rfl ⟨rfl, by unfold p_R_closes; rw [if_neg (show ¬ (P 14 f = 0) from c_38)]; exact hR⟩

theorem wb_closes {P : Pst} (h : WB P) (f q : Nat) (hd1 : 1 ≤ tn (P 22 f)) : WB (p_R_closes P f q) := by
  have h1 : WB (up (up (up P 25 q 9) 32 q (P 14 f)) 27 q (P 13 f)) := WB.up (f := 27) (WB.up (f := 32) (WB.up (f := 25) h trivial) (h 14 f)) trivial
  unfold p_R_closes
  split
  · exact wb_close h1 _ _ hd1
  · exact wb_close (wb_copy h1 _ _) _ _ hd1
