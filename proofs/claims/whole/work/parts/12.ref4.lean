/-! the reference's methods, further (by program: wip/tools/gen_ref4.py) -/
theorem or1_01 {x : Int32} (h : x = 0 ∨ x = 1) : x ||| 1 = 0 ∨ x ||| 1 = 1 := by rcases h with rfl | rfl <;> exact Or.inr (by decide)
theorem or0_01 {x : Int32} (h : x = 0 ∨ x = 1) : x ||| 0 = 0 ∨ x ||| 0 = 1 := by
  rcases h with rfl | rfl
  · exact Or.inl (by decide)
  · exact Or.inr (by decide)
theorem in_nat {v hi : Int32} {m : Nat} (h : ¬ a_R_in v 0 hi = 0) (hm : hi = nI m) (hb : m < 2 ^ 30) : v = nI (tn v) ∧ tn v ≤ m := by
  unfold a_R_in at h
  by_cases c1 : v < 0
  · rw [if_pos c1] at h; exact absurd rfl h
  · rw [if_neg c1] at h
    by_cases c2 : hi < v
    · rw [if_pos c2] at h; exact absurd rfl h
    · refine ⟨tn_of c1, ?_⟩
      obtain ⟨j, hj, e⟩ := nI_of c1
      rw [e, tn_nI hj]
      rw [e, hm] at c2
      rcases Nat.lt_or_ge m j with q | q
      · exact absurd (nI_lt q hj) c2
      · exact q
theorem in_nat1 {v x : Int32} {m : Nat} (h : ¬ a_R_in v 0 (x - 1) = 0) (hx : x = nI m) (hb : m < 2 ^ 30) : v = nI (tn v) ∧ tn v < m := by
  rcases Nat.eq_zero_or_pos m with e | e
  · rw [hx, e] at h
    have h' : ¬ a_R_in v 0 (-1) = 0 := h
    unfold a_R_in at h'
    by_cases c1 : v < 0
    · rw [if_pos c1] at h'; exact absurd rfl h'
    · rw [if_neg c1] at h'
      rw [if_pos (by rw [Int32.lt_iff_toInt_lt] at c1 ⊢; have : ((-1 : Int32)).toInt = -1 := by decide
                     have h0 : ((0 : Int32)).toInt = 0 := by decide
                     omega)] at h'
      exact absurd rfl h'
  · have := in_nat h (ix_sub (b := 1) hx rfl e) (by omega)
    exact ⟨this.1, by have := this.2; omega⟩
theorem sw_0_7 {x : Int32} (h0 : ¬ x = 0) (h1 : ¬ x = 1) (h2 : ¬ x = 2) (h3 : ¬ x = 3) (h4 : ¬ x = 4) (h5 : ¬ x = 5) (h6 : ¬ x = 6) (h7 : ¬ x = 7) : x.toInt < 0 ∨ 7 < x.toInt := by
  have g0 : ¬ x.toInt = 0 := fun q => h0 (Int32.toInt_inj.mp (by rw [q]; decide))
  have g1 : ¬ x.toInt = 1 := fun q => h1 (Int32.toInt_inj.mp (by rw [q]; decide))
  have g2 : ¬ x.toInt = 2 := fun q => h2 (Int32.toInt_inj.mp (by rw [q]; decide))
  have g3 : ¬ x.toInt = 3 := fun q => h3 (Int32.toInt_inj.mp (by rw [q]; decide))
  have g4 : ¬ x.toInt = 4 := fun q => h4 (Int32.toInt_inj.mp (by rw [q]; decide))
  have g5 : ¬ x.toInt = 5 := fun q => h5 (Int32.toInt_inj.mp (by rw [q]; decide))
  have g6 : ¬ x.toInt = 6 := fun q => h6 (Int32.toInt_inj.mp (by rw [q]; decide))
  have g7 : ¬ x.toInt = 7 := fun q => h7 (Int32.toInt_inj.mp (by rw [q]; decide))
  omega
theorem sw_0_5 {x : Int32} (h0 : ¬ x = 0) (h1 : ¬ x = 1) (h2 : ¬ x = 2) (h3 : ¬ x = 3) (h4 : ¬ x = 4) (h5 : ¬ x = 5) : x.toInt < 0 ∨ 5 < x.toInt := by
  have g0 : ¬ x.toInt = 0 := fun q => h0 (Int32.toInt_inj.mp (by rw [q]; decide))
  have g1 : ¬ x.toInt = 1 := fun q => h1 (Int32.toInt_inj.mp (by rw [q]; decide))
  have g2 : ¬ x.toInt = 2 := fun q => h2 (Int32.toInt_inj.mp (by rw [q]; decide))
  have g3 : ¬ x.toInt = 3 := fun q => h3 (Int32.toInt_inj.mp (by rw [q]; decide))
  have g4 : ¬ x.toInt = 4 := fun q => h4 (Int32.toInt_inj.mp (by rw [q]; decide))
  have g5 : ¬ x.toInt = 5 := fun q => h5 (Int32.toInt_inj.mp (by rw [q]; decide))
  omega
theorem sw_4_9 {x : Int32} (h4 : ¬ x = 4) (h5 : ¬ x = 5) (h6 : ¬ x = 6) (h7 : ¬ x = 7) (h8 : ¬ x = 8) (h9 : ¬ x = 9) : x.toInt < 4 ∨ 9 < x.toInt := by
  have g4 : ¬ x.toInt = 4 := fun q => h4 (Int32.toInt_inj.mp (by rw [q]; decide))
  have g5 : ¬ x.toInt = 5 := fun q => h5 (Int32.toInt_inj.mp (by rw [q]; decide))
  have g6 : ¬ x.toInt = 6 := fun q => h6 (Int32.toInt_inj.mp (by rw [q]; decide))
  have g7 : ¬ x.toInt = 7 := fun q => h7 (Int32.toInt_inj.mp (by rw [q]; decide))
  have g8 : ¬ x.toInt = 8 := fun q => h8 (Int32.toInt_inj.mp (by rw [q]; decide))
  have g9 : ¬ x.toInt = 9 := fun q => h9 (Int32.toInt_inj.mp (by rw [q]; decide))
  omega
theorem sw_19_23 {x : Int32} (h19 : ¬ x = 19) (h20 : ¬ x = 20) (h21 : ¬ x = 21) (h22 : ¬ x = 22) (h23 : ¬ x = 23) : x.toInt < 19 ∨ 23 < x.toInt := by
  have g19 : ¬ x.toInt = 19 := fun q => h19 (Int32.toInt_inj.mp (by rw [q]; decide))
  have g20 : ¬ x.toInt = 20 := fun q => h20 (Int32.toInt_inj.mp (by rw [q]; decide))
  have g21 : ¬ x.toInt = 21 := fun q => h21 (Int32.toInt_inj.mp (by rw [q]; decide))
  have g22 : ¬ x.toInt = 22 := fun q => h22 (Int32.toInt_inj.mp (by rw [q]; decide))
  have g23 : ¬ x.toInt = 23 := fun q => h23 (Int32.toInt_inj.mp (by rw [q]; decide))
  omega
def a_R_queued (P : Pst) (x : Int32) : Int32 := if P 51 0 = 0 then -1 else if a_R_in x 0 ((P 43 0) - 1) = 0 then -1 else P 36 (tn x)
def p_R_queued (P : Pst) (x : Int32) : Pst := P
set_option maxHeartbeats 4000000 in
set_option maxRecDepth 100000 in
theorem c_R_queued (P : Pst) (x : Int32) (hW : WB P) : RC m_R_queued 1 [.int x] P (some (.int (a_R_queued P x))) (p_R_queued P x) := by
  intro γ M hR
  refine Run.ofG (by decide) (by simp [cat_int, cat_rf]) (Nat.le_of_ble_eq_true rfl) ?_
  refine g_aload_n d_R_queued_0 rfl ?_
  refine r_geti 51 hR (by decide) rfl fl_R_159 rfl d_R_queued_1 ?_
  refine g_if_eq 30 d_R_queued_4 (by decide) (fun c_4 => ?_) (fun c_4 => ?_)
  · skip
    refine g_iconst (v := -1) d_R_queued_30 (by decide) ?_
    exact g_ireturn d_R_queued_31 rfl ⟨by unfold a_R_queued; rw [if_pos (show P 51 0 = 0 from c_4)]; try rfl, hR⟩
  · skip
    refine g_iload_n d_R_queued_7 rfl ?_
    refine g_iconst (v := 0) d_R_queued_8 (by decide) ?_
    refine g_aload_n d_R_queued_9 rfl ?_
    have w_1 : sm (P 43 0) 10 := hW 43 0
    have w_1b := w_1.2
    refine r_geti 43 hR (by decide) rfl fl_R_156 rfl d_R_queued_10 ?_
    refine g_iconst (v := 1) d_R_queued_13 (by decide) ?_
    refine g_isub d_R_queued_14 ?_
    refine g_callS [.int (x), .int (0), .int ((P 43 0) - 1)] cw_R_141 cs_R_in d_R_queued_15 rfl rfl ⟨by simp, by simp⟩ (by decide) (Nat.le_refl _) (Nat.le_refl _) (fun _ _ h => h) (c_R_in x 0 ((P 43 0) - 1) _ _) (fun r_ M_ h_ _ => ?_)
    obtain ⟨rfl, rfl⟩ := h_
    refine g_if_eq 30 d_R_queued_18 (by decide) (fun c_18 => ?_) (fun c_18 => ?_)
    · skip
      refine g_iconst (v := -1) d_R_queued_30 (by decide) ?_
      exact g_ireturn d_R_queued_31 rfl ⟨by unfold a_R_queued; rw [if_neg (show ¬ (P 51 0 = 0) from c_4), if_pos (show a_R_in x 0 ((P 43 0) - 1) = 0 from c_18)]; try rfl, hR⟩
    · have h1_ := (in_nat1 c_18 (show sm (P 43 0) 10 from hW 43 0).1 (Nat.lt_of_le_of_lt (show sm (P 43 0) 10 from hW 43 0).2 (by decide))).2; have h2_ := (show sm (P 43 0) 10 from hW 43 0).2
      refine g_aload_n d_R_queued_21 rfl ?_
      refine r_arr 36 hR (by decide) (by decide) fl_R_116 rfl d_R_queued_22 ?_
      refine g_iload_n d_R_queued_25 rfl ?_
      refine r_iald 36 (tn x) hR (by decide) rfl d_R_queued_26 ((in_nat1 c_18 (show sm (P 43 0) 10 from hW 43 0).1 (Nat.lt_of_le_of_lt (show sm (P 43 0) 10 from hW 43 0).2 (by decide))).1) (by show tn x < 10; omega) ?_
      have w_2 : sm (P 36 (tn x)) 9 := hW 36 (tn x)
      have w_2b := w_2.2
      refine g_goto 31 d_R_queued_27 (by decide) ?_
      exact g_ireturn d_R_queued_31 rfl ⟨by unfold a_R_queued; rw [if_neg (show ¬ (P 51 0 = 0) from c_4), if_neg (show ¬ (a_R_in x 0 ((P 43 0) - 1) = 0) from c_18)]; try rfl, hR⟩

def a_R_printed (P : Pst) (x : Int32) : Int32 := if a_R_in x 0 23 = 0 then 0 else if P 46 0 ≤ x then 0 else P 40 (tn x)
def p_R_printed (P : Pst) (x : Int32) : Pst := P
set_option maxHeartbeats 4000000 in
set_option maxRecDepth 100000 in
theorem c_R_printed (P : Pst) (x : Int32) (hW : WB P) : RC m_R_printed 1 [.int x] P (some (.int (a_R_printed P x))) (p_R_printed P x) := by
  intro γ M hR
  refine Run.ofG (by decide) (by simp [cat_int, cat_rf]) (Nat.le_of_ble_eq_true rfl) ?_
  refine g_iload_n d_R_printed_0 rfl ?_
  refine g_iconst (v := 0) d_R_printed_1 (by decide) ?_
  refine g_bipush (v := 23) d_R_printed_2 (by decide) ?_
  refine g_callS [.int (x), .int (0), .int (23)] cw_R_141 cs_R_in d_R_printed_4 rfl rfl ⟨by simp, by simp⟩ (by decide) (Nat.le_refl _) (Nat.le_refl _) (fun _ _ h => h) (c_R_in x 0 23 _ _) (fun r_ M_ h_ _ => ?_)
  obtain ⟨rfl, rfl⟩ := h_
  refine g_if_eq 27 d_R_printed_7 (by decide) (fun c_7 => ?_) (fun c_7 => ?_)
  · skip
    refine g_iconst (v := 0) d_R_printed_27 (by decide) ?_
    exact g_ireturn d_R_printed_28 rfl ⟨by unfold a_R_printed; rw [if_pos (show a_R_in x 0 23 = 0 from c_7)]; try rfl, hR⟩
  · have h1_ := (in_nat c_7 (m := 23) rfl (by decide)).2
    refine g_iload_n d_R_printed_10 rfl ?_
    refine g_aload_n d_R_printed_11 rfl ?_
    refine r_geti 46 hR (by decide) rfl fl_R_169 rfl d_R_printed_12 ?_
    refine g_icmp_ge 27 d_R_printed_15 (by decide) (fun c_15 => ?_) (fun c_15 => ?_)
    · skip
      refine g_iconst (v := 0) d_R_printed_27 (by decide) ?_
      exact g_ireturn d_R_printed_28 rfl ⟨by unfold a_R_printed; rw [if_neg (show ¬ (a_R_in x 0 23 = 0) from c_7), if_pos (show P 46 0 ≤ x from c_15)]; try rfl, hR⟩
    · skip
      refine g_aload_n d_R_printed_18 rfl ?_
      refine r_arr 40 hR (by decide) (by decide) fl_R_128 rfl d_R_printed_19 ?_
      refine g_iload_n d_R_printed_22 rfl ?_
      refine r_iald 40 (tn x) hR (by decide) rfl d_R_printed_23 ((in_nat c_7 (m := 23) rfl (by decide)).1) (by show tn x < 24; omega) ?_
      refine g_goto 28 d_R_printed_24 (by decide) ?_
      exact g_ireturn d_R_printed_28 rfl ⟨by unfold a_R_printed; rw [if_neg (show ¬ (a_R_in x 0 23 = 0) from c_7), if_neg (show ¬ (P 46 0 ≤ x) from c_15)]; try rfl, hR⟩

def a_R_fiber (P : Pst) (x : Int32) (wh : Int32) : Int32 := if P 51 0 = 0 then -1 else if a_R_in x 0 ((P 42 0) - 1) = 0 then -1 else if P 5 (tn x) = 2 then if wh = 0 then if P 14 (tn x) = 0 then P 5 (tn x) else 3 else if wh = 1 then if P 10 (tn x) = 0 then 0 else 1 else if wh = 2 then P 22 (tn x) else if wh = 3 then P 6 (tn x) else if wh = 4 then P 8 (tn x) else if wh = 5 then if P 14 (tn x) = 0 then P 13 (tn x) else 0 else if wh = 6 then P 9 (tn x) else if wh = 7 then P 15 (tn x) else -1 else if wh = 0 then P 5 (tn x) else if wh = 1 then if P 10 (tn x) = 0 then 0 else 1 else if wh = 2 then P 22 (tn x) else if wh = 3 then P 6 (tn x) else if wh = 4 then P 8 (tn x) else if wh = 5 then 0 else if wh = 6 then P 9 (tn x) else if wh = 7 then P 15 (tn x) else -1
def p_R_fiber (P : Pst) (x : Int32) (wh : Int32) : Pst := P
set_option maxHeartbeats 4000000 in
set_option maxRecDepth 100000 in
theorem c_R_fiber (P : Pst) (x : Int32) (wh : Int32) (hW : WB P) : RC m_R_fiber 1 [.int x, .int wh] P (some (.int (a_R_fiber P x wh))) (p_R_fiber P x wh) := by
  intro γ M hR
  refine Run.ofG (by decide) (by simp [cat_int, cat_rf]) (Nat.le_of_ble_eq_true rfl) ?_
  refine g_aload_n d_R_fiber_0 rfl ?_
  refine r_geti 51 hR (by decide) rfl fl_R_159 rfl d_R_fiber_1 ?_
  refine g_if_eq 21 d_R_fiber_4 (by decide) (fun c_4 => ?_) (fun c_4 => ?_)
  · skip
    refine g_iconst (v := -1) d_R_fiber_21 (by decide) ?_
    exact g_ireturn d_R_fiber_22 rfl ⟨by unfold a_R_fiber; rw [if_pos (show P 51 0 = 0 from c_4)]; try rfl, hR⟩
  · skip
    refine g_iload_n d_R_fiber_7 rfl ?_
    refine g_iconst (v := 0) d_R_fiber_8 (by decide) ?_
    refine g_aload_n d_R_fiber_9 rfl ?_
    have w_1 : sm (P 42 0) 10 := hW 42 0
    have w_1b := w_1.2
    refine r_geti 42 hR (by decide) rfl fl_R_153 rfl d_R_fiber_10 ?_
    refine g_iconst (v := 1) d_R_fiber_13 (by decide) ?_
    refine g_isub d_R_fiber_14 ?_
    refine g_callS [.int (x), .int (0), .int ((P 42 0) - 1)] cw_R_141 cs_R_in d_R_fiber_15 rfl rfl ⟨by simp, by simp⟩ (by decide) (Nat.le_refl _) (Nat.le_refl _) (fun _ _ h => h) (c_R_in x 0 ((P 42 0) - 1) _ _) (fun r_ M_ h_ _ => ?_)
    obtain ⟨rfl, rfl⟩ := h_
    refine g_if_ne 23 d_R_fiber_18 (by decide) (fun c_18 => ?_) (fun c_18 => ?_)
    · have h1_ := (in_nat1 c_18 (show sm (P 42 0) 10 from hW 42 0).1 (Nat.lt_of_le_of_lt (show sm (P 42 0) 10 from hW 42 0).2 (by decide))).2; have h2_ := (show sm (P 42 0) 10 from hW 42 0).2
      refine g_aload_n d_R_fiber_23 rfl ?_
      refine r_arr 5 hR (by decide) (by decide) fl_R_22 rfl d_R_fiber_24 ?_
      refine g_iload_n d_R_fiber_27 rfl ?_
      refine r_iald 5 (tn x) hR (by decide) rfl d_R_fiber_28 ((in_nat1 c_18 (show sm (P 42 0) 10 from hW 42 0).1 (Nat.lt_of_le_of_lt (show sm (P 42 0) 10 from hW 42 0).2 (by decide))).1) (by show tn x < 10; omega) ?_
      refine g_iconst (v := 2) d_R_fiber_29 (by decide) ?_
      refine g_icmp_ne 37 d_R_fiber_30 (by decide) (fun c_30 => ?_) (fun c_30 => ?_)
      · skip
        refine g_iconst (v := 0) d_R_fiber_37 (by decide) ?_
        refine g_istore_n d_R_fiber_38 (by decide) ?_
        refine g_iload_n d_R_fiber_39 rfl ?_
        by_cases c_40_0 : wh = 0
        · refine g_tableIn 88 d_R_fiber_40 (by show ¬ wh.toInt < 0; rw [c_40_0]; decide) (by show ¬ 7 < wh.toInt; rw [c_40_0]; decide) (by show _[(wh.toInt - 0).toNat]? = _; rw [c_40_0]; rfl) (by decide) ?_
          refine g_iload_n d_R_fiber_88 rfl ?_
          refine g_if_eq 105 d_R_fiber_89 (by decide) (fun c_89 => ?_) (fun c_89 => ?_)
          · skip
            refine g_aload_n d_R_fiber_105 rfl ?_
            refine r_arr 5 hR (by decide) (by decide) fl_R_22 rfl d_R_fiber_106 ?_
            refine g_iload_n d_R_fiber_109 rfl ?_
            refine r_iald 5 (tn x) hR (by decide) rfl d_R_fiber_110 ((in_nat1 c_18 (show sm (P 42 0) 10 from hW 42 0).1 (Nat.lt_of_le_of_lt (show sm (P 42 0) 10 from hW 42 0).2 (by decide))).1) (by show tn x < 10; omega) ?_
            exact g_ireturn d_R_fiber_111 rfl ⟨by unfold a_R_fiber; rw [if_neg (show ¬ (P 51 0 = 0) from c_4), if_neg (show ¬ (a_R_in x 0 ((P 42 0) - 1) = 0) from c_18), if_neg (show ¬ (P 5 (tn x) = 2) from c_30), if_pos (show wh = 0 from c_40_0)]; try rfl, hR⟩
          · exact absurd c_89 (by first | decide | simp_all)
        by_cases c_40_1 : wh = 1
        · refine g_tableIn 112 d_R_fiber_40 (by show ¬ wh.toInt < 0; rw [c_40_1]; decide) (by show ¬ 7 < wh.toInt; rw [c_40_1]; decide) (by show _[(wh.toInt - 0).toNat]? = _; rw [c_40_1]; rfl) (by decide) ?_
          refine g_aload_n d_R_fiber_112 rfl ?_
          refine r_arr 10 hR (by decide) (by decide) fl_R_37 rfl d_R_fiber_113 ?_
          refine g_iload_n d_R_fiber_116 rfl ?_
          refine r_zald 10 (tn x) hR (by decide) rfl d_R_fiber_117 ((in_nat1 c_18 (show sm (P 42 0) 10 from hW 42 0).1 (Nat.lt_of_le_of_lt (show sm (P 42 0) 10 from hW 42 0).2 (by decide))).1) (by show tn x < 10; omega) ?_
          refine g_if_eq 125 d_R_fiber_118 (by decide) (fun c_118 => ?_) (fun c_118 => ?_)
          · skip
            refine g_iconst (v := 0) d_R_fiber_125 (by decide) ?_
            exact g_ireturn d_R_fiber_126 rfl ⟨by unfold a_R_fiber; rw [if_neg (show ¬ (P 51 0 = 0) from c_4), if_neg (show ¬ (a_R_in x 0 ((P 42 0) - 1) = 0) from c_18), if_neg (show ¬ (P 5 (tn x) = 2) from c_30), if_neg (show ¬ (wh = 0) from c_40_0), if_pos (show wh = 1 from c_40_1), if_pos (show P 10 (tn x) = 0 from c_118)]; try rfl, hR⟩
          · skip
            refine g_iconst (v := 1) d_R_fiber_121 (by decide) ?_
            refine g_goto 126 d_R_fiber_122 (by decide) ?_
            exact g_ireturn d_R_fiber_126 rfl ⟨by unfold a_R_fiber; rw [if_neg (show ¬ (P 51 0 = 0) from c_4), if_neg (show ¬ (a_R_in x 0 ((P 42 0) - 1) = 0) from c_18), if_neg (show ¬ (P 5 (tn x) = 2) from c_30), if_neg (show ¬ (wh = 0) from c_40_0), if_pos (show wh = 1 from c_40_1), if_neg (show ¬ (P 10 (tn x) = 0) from c_118)]; try rfl, hR⟩
        by_cases c_40_2 : wh = 2
        · refine g_tableIn 127 d_R_fiber_40 (by show ¬ wh.toInt < 0; rw [c_40_2]; decide) (by show ¬ 7 < wh.toInt; rw [c_40_2]; decide) (by show _[(wh.toInt - 0).toNat]? = _; rw [c_40_2]; rfl) (by decide) ?_
          refine g_aload_n d_R_fiber_127 rfl ?_
          refine r_arr 22 hR (by decide) (by decide) fl_R_74 rfl d_R_fiber_128 ?_
          refine g_iload_n d_R_fiber_131 rfl ?_
          refine r_iald 22 (tn x) hR (by decide) rfl d_R_fiber_132 ((in_nat1 c_18 (show sm (P 42 0) 10 from hW 42 0).1 (Nat.lt_of_le_of_lt (show sm (P 42 0) 10 from hW 42 0).2 (by decide))).1) (by show tn x < 10; omega) ?_
          have w_2 : sm (P 22 (tn x)) 16 := hW 22 (tn x)
          have w_2b := w_2.2
          exact g_ireturn d_R_fiber_133 rfl ⟨by unfold a_R_fiber; rw [if_neg (show ¬ (P 51 0 = 0) from c_4), if_neg (show ¬ (a_R_in x 0 ((P 42 0) - 1) = 0) from c_18), if_neg (show ¬ (P 5 (tn x) = 2) from c_30), if_neg (show ¬ (wh = 0) from c_40_0), if_neg (show ¬ (wh = 1) from c_40_1), if_pos (show wh = 2 from c_40_2)]; try rfl, hR⟩
        by_cases c_40_3 : wh = 3
        · refine g_tableIn 134 d_R_fiber_40 (by show ¬ wh.toInt < 0; rw [c_40_3]; decide) (by show ¬ 7 < wh.toInt; rw [c_40_3]; decide) (by show _[(wh.toInt - 0).toNat]? = _; rw [c_40_3]; rfl) (by decide) ?_
          refine g_aload_n d_R_fiber_134 rfl ?_
          refine r_arr 6 hR (by decide) (by decide) fl_R_25 rfl d_R_fiber_135 ?_
          refine g_iload_n d_R_fiber_138 rfl ?_
          refine r_iald 6 (tn x) hR (by decide) rfl d_R_fiber_139 ((in_nat1 c_18 (show sm (P 42 0) 10 from hW 42 0).1 (Nat.lt_of_le_of_lt (show sm (P 42 0) 10 from hW 42 0).2 (by decide))).1) (by show tn x < 10; omega) ?_
          exact g_ireturn d_R_fiber_140 rfl ⟨by unfold a_R_fiber; rw [if_neg (show ¬ (P 51 0 = 0) from c_4), if_neg (show ¬ (a_R_in x 0 ((P 42 0) - 1) = 0) from c_18), if_neg (show ¬ (P 5 (tn x) = 2) from c_30), if_neg (show ¬ (wh = 0) from c_40_0), if_neg (show ¬ (wh = 1) from c_40_1), if_neg (show ¬ (wh = 2) from c_40_2), if_pos (show wh = 3 from c_40_3)]; try rfl, hR⟩
        by_cases c_40_4 : wh = 4
        · refine g_tableIn 141 d_R_fiber_40 (by show ¬ wh.toInt < 0; rw [c_40_4]; decide) (by show ¬ 7 < wh.toInt; rw [c_40_4]; decide) (by show _[(wh.toInt - 0).toNat]? = _; rw [c_40_4]; rfl) (by decide) ?_
          refine g_aload_n d_R_fiber_141 rfl ?_
          refine r_arr 8 hR (by decide) (by decide) fl_R_31 rfl d_R_fiber_142 ?_
          refine g_iload_n d_R_fiber_145 rfl ?_
          refine r_iald 8 (tn x) hR (by decide) rfl d_R_fiber_146 ((in_nat1 c_18 (show sm (P 42 0) 10 from hW 42 0).1 (Nat.lt_of_le_of_lt (show sm (P 42 0) 10 from hW 42 0).2 (by decide))).1) (by show tn x < 10; omega) ?_
          exact g_ireturn d_R_fiber_147 rfl ⟨by unfold a_R_fiber; rw [if_neg (show ¬ (P 51 0 = 0) from c_4), if_neg (show ¬ (a_R_in x 0 ((P 42 0) - 1) = 0) from c_18), if_neg (show ¬ (P 5 (tn x) = 2) from c_30), if_neg (show ¬ (wh = 0) from c_40_0), if_neg (show ¬ (wh = 1) from c_40_1), if_neg (show ¬ (wh = 2) from c_40_2), if_neg (show ¬ (wh = 3) from c_40_3), if_pos (show wh = 4 from c_40_4)]; try rfl, hR⟩
        by_cases c_40_5 : wh = 5
        · refine g_tableIn 148 d_R_fiber_40 (by show ¬ wh.toInt < 0; rw [c_40_5]; decide) (by show ¬ 7 < wh.toInt; rw [c_40_5]; decide) (by show _[(wh.toInt - 0).toNat]? = _; rw [c_40_5]; rfl) (by decide) ?_
          refine g_iload_n d_R_fiber_148 rfl ?_
          refine g_if_eq 170 d_R_fiber_149 (by decide) (fun c_149 => ?_) (fun c_149 => ?_)
          · skip
            refine g_iconst (v := 0) d_R_fiber_170 (by decide) ?_
            exact g_ireturn d_R_fiber_171 rfl ⟨by unfold a_R_fiber; rw [if_neg (show ¬ (P 51 0 = 0) from c_4), if_neg (show ¬ (a_R_in x 0 ((P 42 0) - 1) = 0) from c_18), if_neg (show ¬ (P 5 (tn x) = 2) from c_30), if_neg (show ¬ (wh = 0) from c_40_0), if_neg (show ¬ (wh = 1) from c_40_1), if_neg (show ¬ (wh = 2) from c_40_2), if_neg (show ¬ (wh = 3) from c_40_3), if_neg (show ¬ (wh = 4) from c_40_4), if_pos (show wh = 5 from c_40_5)]; try rfl, hR⟩
          · exact absurd c_149 (by first | decide | simp_all)
        by_cases c_40_6 : wh = 6
        · refine g_tableIn 172 d_R_fiber_40 (by show ¬ wh.toInt < 0; rw [c_40_6]; decide) (by show ¬ 7 < wh.toInt; rw [c_40_6]; decide) (by show _[(wh.toInt - 0).toNat]? = _; rw [c_40_6]; rfl) (by decide) ?_
          refine g_aload_n d_R_fiber_172 rfl ?_
          refine r_arr 9 hR (by decide) (by decide) fl_R_34 rfl d_R_fiber_173 ?_
          refine g_iload_n d_R_fiber_176 rfl ?_
          refine r_iald 9 (tn x) hR (by decide) rfl d_R_fiber_177 ((in_nat1 c_18 (show sm (P 42 0) 10 from hW 42 0).1 (Nat.lt_of_le_of_lt (show sm (P 42 0) 10 from hW 42 0).2 (by decide))).1) (by show tn x < 10; omega) ?_
          exact g_ireturn d_R_fiber_178 rfl ⟨by unfold a_R_fiber; rw [if_neg (show ¬ (P 51 0 = 0) from c_4), if_neg (show ¬ (a_R_in x 0 ((P 42 0) - 1) = 0) from c_18), if_neg (show ¬ (P 5 (tn x) = 2) from c_30), if_neg (show ¬ (wh = 0) from c_40_0), if_neg (show ¬ (wh = 1) from c_40_1), if_neg (show ¬ (wh = 2) from c_40_2), if_neg (show ¬ (wh = 3) from c_40_3), if_neg (show ¬ (wh = 4) from c_40_4), if_neg (show ¬ (wh = 5) from c_40_5), if_pos (show wh = 6 from c_40_6)]; try rfl, hR⟩
        by_cases c_40_7 : wh = 7
        · refine g_tableIn 179 d_R_fiber_40 (by show ¬ wh.toInt < 0; rw [c_40_7]; decide) (by show ¬ 7 < wh.toInt; rw [c_40_7]; decide) (by show _[(wh.toInt - 0).toNat]? = _; rw [c_40_7]; rfl) (by decide) ?_
          refine g_aload_n d_R_fiber_179 rfl ?_
          refine r_arr 15 hR (by decide) (by decide) fl_R_53 rfl d_R_fiber_180 ?_
          refine g_iload_n d_R_fiber_183 rfl ?_
          refine r_iald 15 (tn x) hR (by decide) rfl d_R_fiber_184 ((in_nat1 c_18 (show sm (P 42 0) 10 from hW 42 0).1 (Nat.lt_of_le_of_lt (show sm (P 42 0) 10 from hW 42 0).2 (by decide))).1) (by show tn x < 10; omega) ?_
          exact g_ireturn d_R_fiber_185 rfl ⟨by unfold a_R_fiber; rw [if_neg (show ¬ (P 51 0 = 0) from c_4), if_neg (show ¬ (a_R_in x 0 ((P 42 0) - 1) = 0) from c_18), if_neg (show ¬ (P 5 (tn x) = 2) from c_30), if_neg (show ¬ (wh = 0) from c_40_0), if_neg (show ¬ (wh = 1) from c_40_1), if_neg (show ¬ (wh = 2) from c_40_2), if_neg (show ¬ (wh = 3) from c_40_3), if_neg (show ¬ (wh = 4) from c_40_4), if_neg (show ¬ (wh = 5) from c_40_5), if_neg (show ¬ (wh = 6) from c_40_6), if_pos (show wh = 7 from c_40_7)]; try rfl, hR⟩
        refine g_tableOut 186 d_R_fiber_40 (sw_0_7 c_40_0 c_40_1 c_40_2 c_40_3 c_40_4 c_40_5 c_40_6 c_40_7) (by decide) ?_
        refine g_iconst (v := -1) d_R_fiber_186 (by decide) ?_
        exact g_ireturn d_R_fiber_187 rfl ⟨by unfold a_R_fiber; rw [if_neg (show ¬ (P 51 0 = 0) from c_4), if_neg (show ¬ (a_R_in x 0 ((P 42 0) - 1) = 0) from c_18), if_neg (show ¬ (P 5 (tn x) = 2) from c_30), if_neg (show ¬ (wh = 0) from c_40_0), if_neg (show ¬ (wh = 1) from c_40_1), if_neg (show ¬ (wh = 2) from c_40_2), if_neg (show ¬ (wh = 3) from c_40_3), if_neg (show ¬ (wh = 4) from c_40_4), if_neg (show ¬ (wh = 5) from c_40_5), if_neg (show ¬ (wh = 6) from c_40_6), if_neg (show ¬ (wh = 7) from c_40_7)]; try rfl, hR⟩
      · skip
        refine g_iconst (v := 1) d_R_fiber_33 (by decide) ?_
        refine g_goto 38 d_R_fiber_34 (by decide) ?_
        refine g_istore_n d_R_fiber_38 (by decide) ?_
        refine g_iload_n d_R_fiber_39 rfl ?_
        by_cases c_40_0 : wh = 0
        · refine g_tableIn 88 d_R_fiber_40 (by show ¬ wh.toInt < 0; rw [c_40_0]; decide) (by show ¬ 7 < wh.toInt; rw [c_40_0]; decide) (by show _[(wh.toInt - 0).toNat]? = _; rw [c_40_0]; rfl) (by decide) ?_
          refine g_iload_n d_R_fiber_88 rfl ?_
          refine g_if_eq 105 d_R_fiber_89 (by decide) (fun c_89 => ?_) (fun c_89 => ?_)
          · exact absurd c_89 (by first | decide | simp_all)
          · skip
            refine g_aload_n d_R_fiber_92 rfl ?_
            refine r_arr 14 hR (by decide) (by decide) fl_R_50 rfl d_R_fiber_93 ?_
            refine g_iload_n d_R_fiber_96 rfl ?_
            refine r_zald 14 (tn x) hR (by decide) rfl d_R_fiber_97 ((in_nat1 c_18 (show sm (P 42 0) 10 from hW 42 0).1 (Nat.lt_of_le_of_lt (show sm (P 42 0) 10 from hW 42 0).2 (by decide))).1) (by show tn x < 10; omega) ?_
            refine g_if_eq 105 d_R_fiber_98 (by decide) (fun c_98 => ?_) (fun c_98 => ?_)
            · skip
              refine g_aload_n d_R_fiber_105 rfl ?_
              refine r_arr 5 hR (by decide) (by decide) fl_R_22 rfl d_R_fiber_106 ?_
              refine g_iload_n d_R_fiber_109 rfl ?_
              refine r_iald 5 (tn x) hR (by decide) rfl d_R_fiber_110 ((in_nat1 c_18 (show sm (P 42 0) 10 from hW 42 0).1 (Nat.lt_of_le_of_lt (show sm (P 42 0) 10 from hW 42 0).2 (by decide))).1) (by show tn x < 10; omega) ?_
              exact g_ireturn d_R_fiber_111 rfl ⟨by unfold a_R_fiber; rw [if_neg (show ¬ (P 51 0 = 0) from c_4), if_neg (show ¬ (a_R_in x 0 ((P 42 0) - 1) = 0) from c_18), if_pos (show P 5 (tn x) = 2 from c_30), if_pos (show wh = 0 from c_40_0), if_pos (show P 14 (tn x) = 0 from c_98)]; try rfl, hR⟩
            · skip
              refine g_iconst (v := 3) d_R_fiber_101 (by decide) ?_
              refine g_goto 111 d_R_fiber_102 (by decide) ?_
              exact g_ireturn d_R_fiber_111 rfl ⟨by unfold a_R_fiber; rw [if_neg (show ¬ (P 51 0 = 0) from c_4), if_neg (show ¬ (a_R_in x 0 ((P 42 0) - 1) = 0) from c_18), if_pos (show P 5 (tn x) = 2 from c_30), if_pos (show wh = 0 from c_40_0), if_neg (show ¬ (P 14 (tn x) = 0) from c_98)]; try rfl, hR⟩
        by_cases c_40_1 : wh = 1
        · refine g_tableIn 112 d_R_fiber_40 (by show ¬ wh.toInt < 0; rw [c_40_1]; decide) (by show ¬ 7 < wh.toInt; rw [c_40_1]; decide) (by show _[(wh.toInt - 0).toNat]? = _; rw [c_40_1]; rfl) (by decide) ?_
          refine g_aload_n d_R_fiber_112 rfl ?_
          refine r_arr 10 hR (by decide) (by decide) fl_R_37 rfl d_R_fiber_113 ?_
          refine g_iload_n d_R_fiber_116 rfl ?_
          refine r_zald 10 (tn x) hR (by decide) rfl d_R_fiber_117 ((in_nat1 c_18 (show sm (P 42 0) 10 from hW 42 0).1 (Nat.lt_of_le_of_lt (show sm (P 42 0) 10 from hW 42 0).2 (by decide))).1) (by show tn x < 10; omega) ?_
          refine g_if_eq 125 d_R_fiber_118 (by decide) (fun c_118 => ?_) (fun c_118 => ?_)
          · skip
            refine g_iconst (v := 0) d_R_fiber_125 (by decide) ?_
            exact g_ireturn d_R_fiber_126 rfl ⟨by unfold a_R_fiber; rw [if_neg (show ¬ (P 51 0 = 0) from c_4), if_neg (show ¬ (a_R_in x 0 ((P 42 0) - 1) = 0) from c_18), if_pos (show P 5 (tn x) = 2 from c_30), if_neg (show ¬ (wh = 0) from c_40_0), if_pos (show wh = 1 from c_40_1), if_pos (show P 10 (tn x) = 0 from c_118)]; try rfl, hR⟩
          · skip
            refine g_iconst (v := 1) d_R_fiber_121 (by decide) ?_
            refine g_goto 126 d_R_fiber_122 (by decide) ?_
            exact g_ireturn d_R_fiber_126 rfl ⟨by unfold a_R_fiber; rw [if_neg (show ¬ (P 51 0 = 0) from c_4), if_neg (show ¬ (a_R_in x 0 ((P 42 0) - 1) = 0) from c_18), if_pos (show P 5 (tn x) = 2 from c_30), if_neg (show ¬ (wh = 0) from c_40_0), if_pos (show wh = 1 from c_40_1), if_neg (show ¬ (P 10 (tn x) = 0) from c_118)]; try rfl, hR⟩
        by_cases c_40_2 : wh = 2
        · refine g_tableIn 127 d_R_fiber_40 (by show ¬ wh.toInt < 0; rw [c_40_2]; decide) (by show ¬ 7 < wh.toInt; rw [c_40_2]; decide) (by show _[(wh.toInt - 0).toNat]? = _; rw [c_40_2]; rfl) (by decide) ?_
          refine g_aload_n d_R_fiber_127 rfl ?_
          refine r_arr 22 hR (by decide) (by decide) fl_R_74 rfl d_R_fiber_128 ?_
          refine g_iload_n d_R_fiber_131 rfl ?_
          refine r_iald 22 (tn x) hR (by decide) rfl d_R_fiber_132 ((in_nat1 c_18 (show sm (P 42 0) 10 from hW 42 0).1 (Nat.lt_of_le_of_lt (show sm (P 42 0) 10 from hW 42 0).2 (by decide))).1) (by show tn x < 10; omega) ?_
          have w_3 : sm (P 22 (tn x)) 16 := hW 22 (tn x)
          have w_3b := w_3.2
          exact g_ireturn d_R_fiber_133 rfl ⟨by unfold a_R_fiber; rw [if_neg (show ¬ (P 51 0 = 0) from c_4), if_neg (show ¬ (a_R_in x 0 ((P 42 0) - 1) = 0) from c_18), if_pos (show P 5 (tn x) = 2 from c_30), if_neg (show ¬ (wh = 0) from c_40_0), if_neg (show ¬ (wh = 1) from c_40_1), if_pos (show wh = 2 from c_40_2)]; try rfl, hR⟩
        by_cases c_40_3 : wh = 3
        · refine g_tableIn 134 d_R_fiber_40 (by show ¬ wh.toInt < 0; rw [c_40_3]; decide) (by show ¬ 7 < wh.toInt; rw [c_40_3]; decide) (by show _[(wh.toInt - 0).toNat]? = _; rw [c_40_3]; rfl) (by decide) ?_
          refine g_aload_n d_R_fiber_134 rfl ?_
          refine r_arr 6 hR (by decide) (by decide) fl_R_25 rfl d_R_fiber_135 ?_
          refine g_iload_n d_R_fiber_138 rfl ?_
          refine r_iald 6 (tn x) hR (by decide) rfl d_R_fiber_139 ((in_nat1 c_18 (show sm (P 42 0) 10 from hW 42 0).1 (Nat.lt_of_le_of_lt (show sm (P 42 0) 10 from hW 42 0).2 (by decide))).1) (by show tn x < 10; omega) ?_
          exact g_ireturn d_R_fiber_140 rfl ⟨by unfold a_R_fiber; rw [if_neg (show ¬ (P 51 0 = 0) from c_4), if_neg (show ¬ (a_R_in x 0 ((P 42 0) - 1) = 0) from c_18), if_pos (show P 5 (tn x) = 2 from c_30), if_neg (show ¬ (wh = 0) from c_40_0), if_neg (show ¬ (wh = 1) from c_40_1), if_neg (show ¬ (wh = 2) from c_40_2), if_pos (show wh = 3 from c_40_3)]; try rfl, hR⟩
        by_cases c_40_4 : wh = 4
        · refine g_tableIn 141 d_R_fiber_40 (by show ¬ wh.toInt < 0; rw [c_40_4]; decide) (by show ¬ 7 < wh.toInt; rw [c_40_4]; decide) (by show _[(wh.toInt - 0).toNat]? = _; rw [c_40_4]; rfl) (by decide) ?_
          refine g_aload_n d_R_fiber_141 rfl ?_
          refine r_arr 8 hR (by decide) (by decide) fl_R_31 rfl d_R_fiber_142 ?_
          refine g_iload_n d_R_fiber_145 rfl ?_
          refine r_iald 8 (tn x) hR (by decide) rfl d_R_fiber_146 ((in_nat1 c_18 (show sm (P 42 0) 10 from hW 42 0).1 (Nat.lt_of_le_of_lt (show sm (P 42 0) 10 from hW 42 0).2 (by decide))).1) (by show tn x < 10; omega) ?_
          exact g_ireturn d_R_fiber_147 rfl ⟨by unfold a_R_fiber; rw [if_neg (show ¬ (P 51 0 = 0) from c_4), if_neg (show ¬ (a_R_in x 0 ((P 42 0) - 1) = 0) from c_18), if_pos (show P 5 (tn x) = 2 from c_30), if_neg (show ¬ (wh = 0) from c_40_0), if_neg (show ¬ (wh = 1) from c_40_1), if_neg (show ¬ (wh = 2) from c_40_2), if_neg (show ¬ (wh = 3) from c_40_3), if_pos (show wh = 4 from c_40_4)]; try rfl, hR⟩
        by_cases c_40_5 : wh = 5
        · refine g_tableIn 148 d_R_fiber_40 (by show ¬ wh.toInt < 0; rw [c_40_5]; decide) (by show ¬ 7 < wh.toInt; rw [c_40_5]; decide) (by show _[(wh.toInt - 0).toNat]? = _; rw [c_40_5]; rfl) (by decide) ?_
          refine g_iload_n d_R_fiber_148 rfl ?_
          refine g_if_eq 170 d_R_fiber_149 (by decide) (fun c_149 => ?_) (fun c_149 => ?_)
          · exact absurd c_149 (by first | decide | simp_all)
          · skip
            refine g_aload_n d_R_fiber_152 rfl ?_
            refine r_arr 14 hR (by decide) (by decide) fl_R_50 rfl d_R_fiber_153 ?_
            refine g_iload_n d_R_fiber_156 rfl ?_
            refine r_zald 14 (tn x) hR (by decide) rfl d_R_fiber_157 ((in_nat1 c_18 (show sm (P 42 0) 10 from hW 42 0).1 (Nat.lt_of_le_of_lt (show sm (P 42 0) 10 from hW 42 0).2 (by decide))).1) (by show tn x < 10; omega) ?_
            refine g_if_ne 170 d_R_fiber_158 (by decide) (fun c_158 => ?_) (fun c_158 => ?_)
            · skip
              refine g_iconst (v := 0) d_R_fiber_170 (by decide) ?_
              exact g_ireturn d_R_fiber_171 rfl ⟨by unfold a_R_fiber; rw [if_neg (show ¬ (P 51 0 = 0) from c_4), if_neg (show ¬ (a_R_in x 0 ((P 42 0) - 1) = 0) from c_18), if_pos (show P 5 (tn x) = 2 from c_30), if_neg (show ¬ (wh = 0) from c_40_0), if_neg (show ¬ (wh = 1) from c_40_1), if_neg (show ¬ (wh = 2) from c_40_2), if_neg (show ¬ (wh = 3) from c_40_3), if_neg (show ¬ (wh = 4) from c_40_4), if_pos (show wh = 5 from c_40_5), if_neg (show ¬ (P 14 (tn x) = 0) from c_158)]; try rfl, hR⟩
            · skip
              refine g_aload_n d_R_fiber_161 rfl ?_
              refine r_arr 13 hR (by decide) (by decide) fl_R_47 rfl d_R_fiber_162 ?_
              refine g_iload_n d_R_fiber_165 rfl ?_
              refine r_iald 13 (tn x) hR (by decide) rfl d_R_fiber_166 ((in_nat1 c_18 (show sm (P 42 0) 10 from hW 42 0).1 (Nat.lt_of_le_of_lt (show sm (P 42 0) 10 from hW 42 0).2 (by decide))).1) (by show tn x < 10; omega) ?_
              refine g_goto 171 d_R_fiber_167 (by decide) ?_
              exact g_ireturn d_R_fiber_171 rfl ⟨by unfold a_R_fiber; rw [if_neg (show ¬ (P 51 0 = 0) from c_4), if_neg (show ¬ (a_R_in x 0 ((P 42 0) - 1) = 0) from c_18), if_pos (show P 5 (tn x) = 2 from c_30), if_neg (show ¬ (wh = 0) from c_40_0), if_neg (show ¬ (wh = 1) from c_40_1), if_neg (show ¬ (wh = 2) from c_40_2), if_neg (show ¬ (wh = 3) from c_40_3), if_neg (show ¬ (wh = 4) from c_40_4), if_pos (show wh = 5 from c_40_5), if_pos (show P 14 (tn x) = 0 from c_158)]; try rfl, hR⟩
        by_cases c_40_6 : wh = 6
        · refine g_tableIn 172 d_R_fiber_40 (by show ¬ wh.toInt < 0; rw [c_40_6]; decide) (by show ¬ 7 < wh.toInt; rw [c_40_6]; decide) (by show _[(wh.toInt - 0).toNat]? = _; rw [c_40_6]; rfl) (by decide) ?_
          refine g_aload_n d_R_fiber_172 rfl ?_
          refine r_arr 9 hR (by decide) (by decide) fl_R_34 rfl d_R_fiber_173 ?_
          refine g_iload_n d_R_fiber_176 rfl ?_
          refine r_iald 9 (tn x) hR (by decide) rfl d_R_fiber_177 ((in_nat1 c_18 (show sm (P 42 0) 10 from hW 42 0).1 (Nat.lt_of_le_of_lt (show sm (P 42 0) 10 from hW 42 0).2 (by decide))).1) (by show tn x < 10; omega) ?_
          exact g_ireturn d_R_fiber_178 rfl ⟨by unfold a_R_fiber; rw [if_neg (show ¬ (P 51 0 = 0) from c_4), if_neg (show ¬ (a_R_in x 0 ((P 42 0) - 1) = 0) from c_18), if_pos (show P 5 (tn x) = 2 from c_30), if_neg (show ¬ (wh = 0) from c_40_0), if_neg (show ¬ (wh = 1) from c_40_1), if_neg (show ¬ (wh = 2) from c_40_2), if_neg (show ¬ (wh = 3) from c_40_3), if_neg (show ¬ (wh = 4) from c_40_4), if_neg (show ¬ (wh = 5) from c_40_5), if_pos (show wh = 6 from c_40_6)]; try rfl, hR⟩
        by_cases c_40_7 : wh = 7
        · refine g_tableIn 179 d_R_fiber_40 (by show ¬ wh.toInt < 0; rw [c_40_7]; decide) (by show ¬ 7 < wh.toInt; rw [c_40_7]; decide) (by show _[(wh.toInt - 0).toNat]? = _; rw [c_40_7]; rfl) (by decide) ?_
          refine g_aload_n d_R_fiber_179 rfl ?_
          refine r_arr 15 hR (by decide) (by decide) fl_R_53 rfl d_R_fiber_180 ?_
          refine g_iload_n d_R_fiber_183 rfl ?_
          refine r_iald 15 (tn x) hR (by decide) rfl d_R_fiber_184 ((in_nat1 c_18 (show sm (P 42 0) 10 from hW 42 0).1 (Nat.lt_of_le_of_lt (show sm (P 42 0) 10 from hW 42 0).2 (by decide))).1) (by show tn x < 10; omega) ?_
          exact g_ireturn d_R_fiber_185 rfl ⟨by unfold a_R_fiber; rw [if_neg (show ¬ (P 51 0 = 0) from c_4), if_neg (show ¬ (a_R_in x 0 ((P 42 0) - 1) = 0) from c_18), if_pos (show P 5 (tn x) = 2 from c_30), if_neg (show ¬ (wh = 0) from c_40_0), if_neg (show ¬ (wh = 1) from c_40_1), if_neg (show ¬ (wh = 2) from c_40_2), if_neg (show ¬ (wh = 3) from c_40_3), if_neg (show ¬ (wh = 4) from c_40_4), if_neg (show ¬ (wh = 5) from c_40_5), if_neg (show ¬ (wh = 6) from c_40_6), if_pos (show wh = 7 from c_40_7)]; try rfl, hR⟩
        refine g_tableOut 186 d_R_fiber_40 (sw_0_7 c_40_0 c_40_1 c_40_2 c_40_3 c_40_4 c_40_5 c_40_6 c_40_7) (by decide) ?_
        refine g_iconst (v := -1) d_R_fiber_186 (by decide) ?_
        exact g_ireturn d_R_fiber_187 rfl ⟨by unfold a_R_fiber; rw [if_neg (show ¬ (P 51 0 = 0) from c_4), if_neg (show ¬ (a_R_in x 0 ((P 42 0) - 1) = 0) from c_18), if_pos (show P 5 (tn x) = 2 from c_30), if_neg (show ¬ (wh = 0) from c_40_0), if_neg (show ¬ (wh = 1) from c_40_1), if_neg (show ¬ (wh = 2) from c_40_2), if_neg (show ¬ (wh = 3) from c_40_3), if_neg (show ¬ (wh = 4) from c_40_4), if_neg (show ¬ (wh = 5) from c_40_5), if_neg (show ¬ (wh = 6) from c_40_6), if_neg (show ¬ (wh = 7) from c_40_7)]; try rfl, hR⟩
    · skip
      refine g_iconst (v := -1) d_R_fiber_21 (by decide) ?_
      exact g_ireturn d_R_fiber_22 rfl ⟨by unfold a_R_fiber; rw [if_neg (show ¬ (P 51 0 = 0) from c_4), if_pos (show a_R_in x 0 ((P 42 0) - 1) = 0 from c_18)]; try rfl, hR⟩

def a_R_count (P : Pst) (wh : Int32) : Int32 := if wh = 0 then P 4 0 else if wh = 1 then P 42 0 else if wh = 2 then P 44 0 else if wh = 3 then P 45 0 else if wh = 4 then P 46 0 else if wh = 5 then P 47 0 else if wh = 6 then P 48 0 else if wh = 7 then if P 51 0 = 0 then -1 else a_R_stands P else -1
def p_R_count (P : Pst) (wh : Int32) : Pst := P
set_option maxHeartbeats 4000000 in
set_option maxRecDepth 100000 in
theorem c_R_count (P : Pst) (wh : Int32) (hW : WB P) : RC m_R_count 1 [.int wh] P (some (.int (a_R_count P wh))) (p_R_count P wh) := by
  intro γ M hR
  refine Run.ofG (by decide) (by simp [cat_int, cat_rf]) (Nat.le_of_ble_eq_true rfl) ?_
  refine g_iload_n d_R_count_0 rfl ?_
  by_cases c_1_0 : wh = 0
  · refine g_tableIn 48 d_R_count_1 (by show ¬ wh.toInt < 0; rw [c_1_0]; decide) (by show ¬ 7 < wh.toInt; rw [c_1_0]; decide) (by show _[(wh.toInt - 0).toNat]? = _; rw [c_1_0]; rfl) (by decide) ?_
    refine g_aload_n d_R_count_48 rfl ?_
    have w_1 : sm (P 4 0) 40 := hW 4 0
    have w_1b := w_1.2
    refine r_geti 4 hR (by decide) rfl fl_R_138 rfl d_R_count_49 ?_
    exact g_ireturn d_R_count_52 rfl ⟨by unfold a_R_count; rw [if_pos (show wh = 0 from c_1_0)]; try rfl, hR⟩
  by_cases c_1_1 : wh = 1
  · refine g_tableIn 53 d_R_count_1 (by show ¬ wh.toInt < 0; rw [c_1_1]; decide) (by show ¬ 7 < wh.toInt; rw [c_1_1]; decide) (by show _[(wh.toInt - 0).toNat]? = _; rw [c_1_1]; rfl) (by decide) ?_
    refine g_aload_n d_R_count_53 rfl ?_
    have w_2 : sm (P 42 0) 10 := hW 42 0
    have w_2b := w_2.2
    refine r_geti 42 hR (by decide) rfl fl_R_153 rfl d_R_count_54 ?_
    exact g_ireturn d_R_count_57 rfl ⟨by unfold a_R_count; rw [if_neg (show ¬ (wh = 0) from c_1_0), if_pos (show wh = 1 from c_1_1)]; try rfl, hR⟩
  by_cases c_1_2 : wh = 2
  · refine g_tableIn 58 d_R_count_1 (by show ¬ wh.toInt < 0; rw [c_1_2]; decide) (by show ¬ 7 < wh.toInt; rw [c_1_2]; decide) (by show _[(wh.toInt - 0).toNat]? = _; rw [c_1_2]; rfl) (by decide) ?_
    refine g_aload_n d_R_count_58 rfl ?_
    refine r_geti 44 hR (by decide) rfl fl_R_163 rfl d_R_count_59 ?_
    exact g_ireturn d_R_count_62 rfl ⟨by unfold a_R_count; rw [if_neg (show ¬ (wh = 0) from c_1_0), if_neg (show ¬ (wh = 1) from c_1_1), if_pos (show wh = 2 from c_1_2)]; try rfl, hR⟩
  by_cases c_1_3 : wh = 3
  · refine g_tableIn 63 d_R_count_1 (by show ¬ wh.toInt < 0; rw [c_1_3]; decide) (by show ¬ 7 < wh.toInt; rw [c_1_3]; decide) (by show _[(wh.toInt - 0).toNat]? = _; rw [c_1_3]; rfl) (by decide) ?_
    refine g_aload_n d_R_count_63 rfl ?_
    refine r_geti 45 hR (by decide) rfl fl_R_166 rfl d_R_count_64 ?_
    exact g_ireturn d_R_count_67 rfl ⟨by unfold a_R_count; rw [if_neg (show ¬ (wh = 0) from c_1_0), if_neg (show ¬ (wh = 1) from c_1_1), if_neg (show ¬ (wh = 2) from c_1_2), if_pos (show wh = 3 from c_1_3)]; try rfl, hR⟩
  by_cases c_1_4 : wh = 4
  · refine g_tableIn 68 d_R_count_1 (by show ¬ wh.toInt < 0; rw [c_1_4]; decide) (by show ¬ 7 < wh.toInt; rw [c_1_4]; decide) (by show _[(wh.toInt - 0).toNat]? = _; rw [c_1_4]; rfl) (by decide) ?_
    refine g_aload_n d_R_count_68 rfl ?_
    refine r_geti 46 hR (by decide) rfl fl_R_169 rfl d_R_count_69 ?_
    exact g_ireturn d_R_count_72 rfl ⟨by unfold a_R_count; rw [if_neg (show ¬ (wh = 0) from c_1_0), if_neg (show ¬ (wh = 1) from c_1_1), if_neg (show ¬ (wh = 2) from c_1_2), if_neg (show ¬ (wh = 3) from c_1_3), if_pos (show wh = 4 from c_1_4)]; try rfl, hR⟩
  by_cases c_1_5 : wh = 5
  · refine g_tableIn 73 d_R_count_1 (by show ¬ wh.toInt < 0; rw [c_1_5]; decide) (by show ¬ 7 < wh.toInt; rw [c_1_5]; decide) (by show _[(wh.toInt - 0).toNat]? = _; rw [c_1_5]; rfl) (by decide) ?_
    refine g_aload_n d_R_count_73 rfl ?_
    refine r_geti 47 hR (by decide) rfl fl_R_172 rfl d_R_count_74 ?_
    exact g_ireturn d_R_count_77 rfl ⟨by unfold a_R_count; rw [if_neg (show ¬ (wh = 0) from c_1_0), if_neg (show ¬ (wh = 1) from c_1_1), if_neg (show ¬ (wh = 2) from c_1_2), if_neg (show ¬ (wh = 3) from c_1_3), if_neg (show ¬ (wh = 4) from c_1_4), if_pos (show wh = 5 from c_1_5)]; try rfl, hR⟩
  by_cases c_1_6 : wh = 6
  · refine g_tableIn 78 d_R_count_1 (by show ¬ wh.toInt < 0; rw [c_1_6]; decide) (by show ¬ 7 < wh.toInt; rw [c_1_6]; decide) (by show _[(wh.toInt - 0).toNat]? = _; rw [c_1_6]; rfl) (by decide) ?_
    refine g_aload_n d_R_count_78 rfl ?_
    refine r_geti 48 hR (by decide) rfl fl_R_134 rfl d_R_count_79 ?_
    exact g_ireturn d_R_count_82 rfl ⟨by unfold a_R_count; rw [if_neg (show ¬ (wh = 0) from c_1_0), if_neg (show ¬ (wh = 1) from c_1_1), if_neg (show ¬ (wh = 2) from c_1_2), if_neg (show ¬ (wh = 3) from c_1_3), if_neg (show ¬ (wh = 4) from c_1_4), if_neg (show ¬ (wh = 5) from c_1_5), if_pos (show wh = 6 from c_1_6)]; try rfl, hR⟩
  by_cases c_1_7 : wh = 7
  · refine g_tableIn 83 d_R_count_1 (by show ¬ wh.toInt < 0; rw [c_1_7]; decide) (by show ¬ 7 < wh.toInt; rw [c_1_7]; decide) (by show _[(wh.toInt - 0).toNat]? = _; rw [c_1_7]; rfl) (by decide) ?_
    refine g_aload_n d_R_count_83 rfl ?_
    refine r_geti 51 hR (by decide) rfl fl_R_159 rfl d_R_count_84 ?_
    refine g_if_eq 97 d_R_count_87 (by decide) (fun c_87 => ?_) (fun c_87 => ?_)
    · skip
      refine g_iconst (v := -1) d_R_count_97 (by decide) ?_
      exact g_ireturn d_R_count_98 rfl ⟨by unfold a_R_count; rw [if_neg (show ¬ (wh = 0) from c_1_0), if_neg (show ¬ (wh = 1) from c_1_1), if_neg (show ¬ (wh = 2) from c_1_2), if_neg (show ¬ (wh = 3) from c_1_3), if_neg (show ¬ (wh = 4) from c_1_4), if_neg (show ¬ (wh = 5) from c_1_5), if_neg (show ¬ (wh = 6) from c_1_6), if_pos (show wh = 7 from c_1_7), if_pos (show P 51 0 = 0 from c_87)]; try rfl, hR⟩
    · skip
      refine g_aload_n d_R_count_90 rfl ?_
      refine r_call [] hR cw_R_211 cv_R_stands d_R_count_91 rfl rfl ⟨by simp, by simp⟩ (by decide) (c_R_stands _ (show sm _ 10 from hW 42 0).1 (show sm _ 10 from hW 42 0).2) (fun M hR => ?_)
      refine g_goto 98 d_R_count_94 (by decide) ?_
      exact g_ireturn d_R_count_98 rfl ⟨by unfold a_R_count; rw [if_neg (show ¬ (wh = 0) from c_1_0), if_neg (show ¬ (wh = 1) from c_1_1), if_neg (show ¬ (wh = 2) from c_1_2), if_neg (show ¬ (wh = 3) from c_1_3), if_neg (show ¬ (wh = 4) from c_1_4), if_neg (show ¬ (wh = 5) from c_1_5), if_neg (show ¬ (wh = 6) from c_1_6), if_pos (show wh = 7 from c_1_7), if_neg (show ¬ (P 51 0 = 0) from c_87)]; try rfl, hR⟩
  refine g_tableOut 99 d_R_count_1 (sw_0_7 c_1_0 c_1_1 c_1_2 c_1_3 c_1_4 c_1_5 c_1_6 c_1_7) (by decide) ?_
  refine g_iconst (v := -1) d_R_count_99 (by decide) ?_
  exact g_ireturn d_R_count_100 rfl ⟨by unfold a_R_count; rw [if_neg (show ¬ (wh = 0) from c_1_0), if_neg (show ¬ (wh = 1) from c_1_1), if_neg (show ¬ (wh = 2) from c_1_2), if_neg (show ¬ (wh = 3) from c_1_3), if_neg (show ¬ (wh = 4) from c_1_4), if_neg (show ¬ (wh = 5) from c_1_5), if_neg (show ¬ (wh = 6) from c_1_6), if_neg (show ¬ (wh = 7) from c_1_7)]; try rfl, hR⟩

def a_R_cell (P : Pst) (x : Int32) (wh : Int32) : Int32 := if P 51 0 = 0 then -1 else if a_R_in x 0 3 = 0 then -1 else if wh = 0 then P 37 (tn x) else if wh = 1 then if P 41 (tn x) = 0 then 0 else 1 else if wh = 2 then P 38 (tn x) else if wh = 3 then P 39 (tn x) else if wh = 4 then a_R_waiting P 5 x else if wh = 5 then a_R_waiting P 6 x else -1
def p_R_cell (P : Pst) (x : Int32) (wh : Int32) : Pst := P
set_option maxHeartbeats 4000000 in
set_option maxRecDepth 100000 in
theorem c_R_cell (P : Pst) (x : Int32) (wh : Int32) (hW : WB P) : RC m_R_cell 1 [.int x, .int wh] P (some (.int (a_R_cell P x wh))) (p_R_cell P x wh) := by
  intro γ M hR
  refine Run.ofG (by decide) (by simp [cat_int, cat_rf]) (Nat.le_of_ble_eq_true rfl) ?_
  refine g_aload_n d_R_cell_0 rfl ?_
  refine r_geti 51 hR (by decide) rfl fl_R_159 rfl d_R_cell_1 ?_
  refine g_if_eq 16 d_R_cell_4 (by decide) (fun c_4 => ?_) (fun c_4 => ?_)
  · skip
    refine g_iconst (v := -1) d_R_cell_16 (by decide) ?_
    exact g_ireturn d_R_cell_17 rfl ⟨by unfold a_R_cell; rw [if_pos (show P 51 0 = 0 from c_4)]; try rfl, hR⟩
  · skip
    refine g_iload_n d_R_cell_7 rfl ?_
    refine g_iconst (v := 0) d_R_cell_8 (by decide) ?_
    refine g_iconst (v := 3) d_R_cell_9 (by decide) ?_
    refine g_callS [.int (x), .int (0), .int (3)] cw_R_141 cs_R_in d_R_cell_10 rfl rfl ⟨by simp, by simp⟩ (by decide) (Nat.le_refl _) (Nat.le_refl _) (fun _ _ h => h) (c_R_in x 0 3 _ _) (fun r_ M_ h_ _ => ?_)
    obtain ⟨rfl, rfl⟩ := h_
    refine g_if_ne 18 d_R_cell_13 (by decide) (fun c_13 => ?_) (fun c_13 => ?_)
    · have h1_ := (in_nat c_13 (m := 3) rfl (by decide)).2
      refine g_iload_n d_R_cell_18 rfl ?_
      by_cases c_19_0 : wh = 0
      · refine g_tableIn 56 d_R_cell_19 (by show ¬ wh.toInt < 0; rw [c_19_0]; decide) (by show ¬ 5 < wh.toInt; rw [c_19_0]; decide) (by show _[(wh.toInt - 0).toNat]? = _; rw [c_19_0]; rfl) (by decide) ?_
        refine g_aload_n d_R_cell_56 rfl ?_
        refine r_arr 37 hR (by decide) (by decide) fl_R_119 rfl d_R_cell_57 ?_
        refine g_iload_n d_R_cell_60 rfl ?_
        refine r_iald 37 (tn x) hR (by decide) rfl d_R_cell_61 ((in_nat c_13 (m := 3) rfl (by decide)).1) (by show tn x < 4; omega) ?_
        exact g_ireturn d_R_cell_62 rfl ⟨by unfold a_R_cell; rw [if_neg (show ¬ (P 51 0 = 0) from c_4), if_neg (show ¬ (a_R_in x 0 3 = 0) from c_13), if_pos (show wh = 0 from c_19_0)]; try rfl, hR⟩
      by_cases c_19_1 : wh = 1
      · refine g_tableIn 63 d_R_cell_19 (by show ¬ wh.toInt < 0; rw [c_19_1]; decide) (by show ¬ 5 < wh.toInt; rw [c_19_1]; decide) (by show _[(wh.toInt - 0).toNat]? = _; rw [c_19_1]; rfl) (by decide) ?_
        refine g_aload_n d_R_cell_63 rfl ?_
        refine r_arr 41 hR (by decide) (by decide) fl_R_131 rfl d_R_cell_64 ?_
        refine g_iload_n d_R_cell_67 rfl ?_
        refine r_zald 41 (tn x) hR (by decide) rfl d_R_cell_68 ((in_nat c_13 (m := 3) rfl (by decide)).1) (by show tn x < 4; omega) ?_
        refine g_if_eq 76 d_R_cell_69 (by decide) (fun c_69 => ?_) (fun c_69 => ?_)
        · skip
          refine g_iconst (v := 0) d_R_cell_76 (by decide) ?_
          exact g_ireturn d_R_cell_77 rfl ⟨by unfold a_R_cell; rw [if_neg (show ¬ (P 51 0 = 0) from c_4), if_neg (show ¬ (a_R_in x 0 3 = 0) from c_13), if_neg (show ¬ (wh = 0) from c_19_0), if_pos (show wh = 1 from c_19_1), if_pos (show P 41 (tn x) = 0 from c_69)]; try rfl, hR⟩
        · skip
          refine g_iconst (v := 1) d_R_cell_72 (by decide) ?_
          refine g_goto 77 d_R_cell_73 (by decide) ?_
          exact g_ireturn d_R_cell_77 rfl ⟨by unfold a_R_cell; rw [if_neg (show ¬ (P 51 0 = 0) from c_4), if_neg (show ¬ (a_R_in x 0 3 = 0) from c_13), if_neg (show ¬ (wh = 0) from c_19_0), if_pos (show wh = 1 from c_19_1), if_neg (show ¬ (P 41 (tn x) = 0) from c_69)]; try rfl, hR⟩
      by_cases c_19_2 : wh = 2
      · refine g_tableIn 78 d_R_cell_19 (by show ¬ wh.toInt < 0; rw [c_19_2]; decide) (by show ¬ 5 < wh.toInt; rw [c_19_2]; decide) (by show _[(wh.toInt - 0).toNat]? = _; rw [c_19_2]; rfl) (by decide) ?_
        refine g_aload_n d_R_cell_78 rfl ?_
        refine r_arr 38 hR (by decide) (by decide) fl_R_122 rfl d_R_cell_79 ?_
        refine g_iload_n d_R_cell_82 rfl ?_
        refine r_iald 38 (tn x) hR (by decide) rfl d_R_cell_83 ((in_nat c_13 (m := 3) rfl (by decide)).1) (by show tn x < 4; omega) ?_
        exact g_ireturn d_R_cell_84 rfl ⟨by unfold a_R_cell; rw [if_neg (show ¬ (P 51 0 = 0) from c_4), if_neg (show ¬ (a_R_in x 0 3 = 0) from c_13), if_neg (show ¬ (wh = 0) from c_19_0), if_neg (show ¬ (wh = 1) from c_19_1), if_pos (show wh = 2 from c_19_2)]; try rfl, hR⟩
      by_cases c_19_3 : wh = 3
      · refine g_tableIn 85 d_R_cell_19 (by show ¬ wh.toInt < 0; rw [c_19_3]; decide) (by show ¬ 5 < wh.toInt; rw [c_19_3]; decide) (by show _[(wh.toInt - 0).toNat]? = _; rw [c_19_3]; rfl) (by decide) ?_
        refine g_aload_n d_R_cell_85 rfl ?_
        refine r_arr 39 hR (by decide) (by decide) fl_R_125 rfl d_R_cell_86 ?_
        refine g_iload_n d_R_cell_89 rfl ?_
        refine r_iald 39 (tn x) hR (by decide) rfl d_R_cell_90 ((in_nat c_13 (m := 3) rfl (by decide)).1) (by show tn x < 4; omega) ?_
        exact g_ireturn d_R_cell_91 rfl ⟨by unfold a_R_cell; rw [if_neg (show ¬ (P 51 0 = 0) from c_4), if_neg (show ¬ (a_R_in x 0 3 = 0) from c_13), if_neg (show ¬ (wh = 0) from c_19_0), if_neg (show ¬ (wh = 1) from c_19_1), if_neg (show ¬ (wh = 2) from c_19_2), if_pos (show wh = 3 from c_19_3)]; try rfl, hR⟩
      by_cases c_19_4 : wh = 4
      · refine g_tableIn 92 d_R_cell_19 (by show ¬ wh.toInt < 0; rw [c_19_4]; decide) (by show ¬ 5 < wh.toInt; rw [c_19_4]; decide) (by show _[(wh.toInt - 0).toNat]? = _; rw [c_19_4]; rfl) (by decide) ?_
        refine g_aload_n d_R_cell_92 rfl ?_
        refine g_iconst (v := 5) d_R_cell_93 (by decide) ?_
        refine g_iload_n d_R_cell_94 rfl ?_
        refine r_call [.int (5), .int (x)] hR cw_R_267 cv_R_waiting d_R_cell_95 rfl rfl ⟨by simp, by simp⟩ (by decide) (c_R_waiting _ 5 x (show sm _ 10 from hW 42 0).1 (show sm _ 10 from hW 42 0).2) (fun M hR => ?_)
        exact g_ireturn d_R_cell_98 rfl ⟨by unfold a_R_cell; rw [if_neg (show ¬ (P 51 0 = 0) from c_4), if_neg (show ¬ (a_R_in x 0 3 = 0) from c_13), if_neg (show ¬ (wh = 0) from c_19_0), if_neg (show ¬ (wh = 1) from c_19_1), if_neg (show ¬ (wh = 2) from c_19_2), if_neg (show ¬ (wh = 3) from c_19_3), if_pos (show wh = 4 from c_19_4)]; try rfl, hR⟩
      by_cases c_19_5 : wh = 5
      · refine g_tableIn 99 d_R_cell_19 (by show ¬ wh.toInt < 0; rw [c_19_5]; decide) (by show ¬ 5 < wh.toInt; rw [c_19_5]; decide) (by show _[(wh.toInt - 0).toNat]? = _; rw [c_19_5]; rfl) (by decide) ?_
        refine g_aload_n d_R_cell_99 rfl ?_
        refine g_bipush (v := 6) d_R_cell_100 (by decide) ?_
        refine g_iload_n d_R_cell_102 rfl ?_
        refine r_call [.int (6), .int (x)] hR cw_R_267 cv_R_waiting d_R_cell_103 rfl rfl ⟨by simp, by simp⟩ (by decide) (c_R_waiting _ 6 x (show sm _ 10 from hW 42 0).1 (show sm _ 10 from hW 42 0).2) (fun M hR => ?_)
        exact g_ireturn d_R_cell_106 rfl ⟨by unfold a_R_cell; rw [if_neg (show ¬ (P 51 0 = 0) from c_4), if_neg (show ¬ (a_R_in x 0 3 = 0) from c_13), if_neg (show ¬ (wh = 0) from c_19_0), if_neg (show ¬ (wh = 1) from c_19_1), if_neg (show ¬ (wh = 2) from c_19_2), if_neg (show ¬ (wh = 3) from c_19_3), if_neg (show ¬ (wh = 4) from c_19_4), if_pos (show wh = 5 from c_19_5)]; try rfl, hR⟩
      refine g_tableOut 107 d_R_cell_19 (sw_0_5 c_19_0 c_19_1 c_19_2 c_19_3 c_19_4 c_19_5) (by decide) ?_
      refine g_iconst (v := -1) d_R_cell_107 (by decide) ?_
      exact g_ireturn d_R_cell_108 rfl ⟨by unfold a_R_cell; rw [if_neg (show ¬ (P 51 0 = 0) from c_4), if_neg (show ¬ (a_R_in x 0 3 = 0) from c_13), if_neg (show ¬ (wh = 0) from c_19_0), if_neg (show ¬ (wh = 1) from c_19_1), if_neg (show ¬ (wh = 2) from c_19_2), if_neg (show ¬ (wh = 3) from c_19_3), if_neg (show ¬ (wh = 4) from c_19_4), if_neg (show ¬ (wh = 5) from c_19_5)]; try rfl, hR⟩
    · skip
      refine g_iconst (v := -1) d_R_cell_16 (by decide) ?_
      exact g_ireturn d_R_cell_17 rfl ⟨by unfold a_R_cell; rw [if_neg (show ¬ (P 51 0 = 0) from c_4), if_pos (show a_R_in x 0 3 = 0 from c_13)]; try rfl, hR⟩

