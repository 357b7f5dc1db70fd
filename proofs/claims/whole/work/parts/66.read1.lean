/-! what the desk answers (by program: wip/tools/gen_s23.py) -/
theorem sw8 (x : Int32) : x = 0 ∨ x = 1 ∨ x = 2 ∨ x = 3 ∨ x = 4 ∨ x = 5 ∨ x = 6 ∨ x = 7 ∨ ((x.toInt < 0 ∨ 7 < x.toInt) ∧ ¬ x = 0 ∧ ¬ x = 1 ∧ ¬ x = 2 ∧ ¬ x = 3 ∧ ¬ x = 4 ∧ ¬ x = 5 ∧ ¬ x = 6 ∧ ¬ x = 7) := by
  by_cases h0 : x = 0
  · exact Or.inl h0
  by_cases h1 : x = 1
  · exact Or.inr (Or.inl h1)
  by_cases h2 : x = 2
  · exact Or.inr (Or.inr (Or.inl h2))
  by_cases h3 : x = 3
  · exact Or.inr (Or.inr (Or.inr (Or.inl h3)))
  by_cases h4 : x = 4
  · exact Or.inr (Or.inr (Or.inr (Or.inr (Or.inl h4))))
  by_cases h5 : x = 5
  · exact Or.inr (Or.inr (Or.inr (Or.inr (Or.inr (Or.inl h5)))))
  by_cases h6 : x = 6
  · exact Or.inr (Or.inr (Or.inr (Or.inr (Or.inr (Or.inr (Or.inl h6))))))
  by_cases h7 : x = 7
  · exact Or.inr (Or.inr (Or.inr (Or.inr (Or.inr (Or.inr (Or.inr (Or.inl h7)))))))
  exact Or.inr (Or.inr (Or.inr (Or.inr (Or.inr (Or.inr (Or.inr (Or.inr (⟨sw_0_7 h0 h1 h2 h3 h4 h5 h6 h7, h0, h1, h2, h3, h4, h5, h6, h7⟩))))))))
theorem sw6 (x : Int32) : x = 0 ∨ x = 1 ∨ x = 2 ∨ x = 3 ∨ x = 4 ∨ x = 5 ∨ ((x.toInt < 0 ∨ 5 < x.toInt) ∧ ¬ x = 0 ∧ ¬ x = 1 ∧ ¬ x = 2 ∧ ¬ x = 3 ∧ ¬ x = 4 ∧ ¬ x = 5) := by
  by_cases h0 : x = 0
  · exact Or.inl h0
  by_cases h1 : x = 1
  · exact Or.inr (Or.inl h1)
  by_cases h2 : x = 2
  · exact Or.inr (Or.inr (Or.inl h2))
  by_cases h3 : x = 3
  · exact Or.inr (Or.inr (Or.inr (Or.inl h3)))
  by_cases h4 : x = 4
  · exact Or.inr (Or.inr (Or.inr (Or.inr (Or.inl h4))))
  by_cases h5 : x = 5
  · exact Or.inr (Or.inr (Or.inr (Or.inr (Or.inr (Or.inl h5)))))
  exact Or.inr (Or.inr (Or.inr (Or.inr (Or.inr (Or.inr (⟨sw_0_5 h0 h1 h2 h3 h4 h5, h0, h1, h2, h3, h4, h5⟩))))))
theorem stv {P : Pst} {LL : Lls} {S : Gs} (h : Sim P LL S) (hA : StA P) {i : Nat} (hi : i < nfb P) : (if vi S 262 i = 0 then if vi S 269 i = 0 then 0 else 1 else if (vr S 261 i : Option Nat) = none then 2 else 3) = (if P 5 i = 2 then (if P 14 i = 0 then 2 else 3) else P 5 i : Int32) := by
  have e := sf_262 h hi
  obtain ⟨c5, c15⟩ := hA i hi
  rcases c5 with w | w | w
  · rw [if_pos (show vi S 262 i = 0 by rw [e]; unfold endI; rw [if_neg (by rw [w]; decide)]), if_pos (show vi S 269 i = 0 by rw [sf_269 h hi]; exact Classical.byContradiction (fun q => by have := c15.mpr q; rw [w] at this; exact absurd this (by decide))), if_neg (by rw [w]; decide), w]
  · rw [if_pos (show vi S 262 i = 0 by rw [e]; unfold endI; rw [if_neg (by rw [w]; decide)]), if_neg (show ¬ vi S 269 i = 0 by rw [sf_269 h hi]; exact c15.mp w), if_neg (by rw [w]; decide), w]
  · rw [if_neg (show ¬ vi S 262 i = 0 by rw [e, w]; decide), if_pos w]
    by_cases h14 : P 14 i = 0
    · rw [if_pos ((sf_exit h hi w).1 h14).1, if_pos h14]
    · obtain ⟨a, ea, -⟩ := (sf_exit h hi w).2 h14
      rw [if_neg (by rw [ea]; simp), if_neg h14]
theorem fb_start {P : Pst} (hst : P 51 0 = 0 ↔ nfb P = 0) {i : Nat} (hi : i < nfb P) : ¬ P 51 0 = 0 := fun q => by have := hst.mp q; omega
set_option maxHeartbeats 1000000 in
set_option maxRecDepth 100000 in
theorem s_D_fiber {P : Pst} {LL : Lls} {S : Gs} {M : Mm} (hZ : Zt P LL S M) (hst : P 51 0 = 0 ↔ nfb P = 0) (hA : StA P) (x wh : Int32) : Run m_D_fiber ownC 1 0 0 [va_rf (some (ad S 0 0)), .int x, .int wh] M (fun r M' => r = some (.int (a_R_fiber P x wh)) ∧ VM S M') := by
  have hV := hZ.1
  refine Run.ofG (by decide) (by simp [cat_int, cat_rf]) (Nat.le_of_ble_eq_true rfl) ?_
  have h10_ := n10 hZ.2.2.1
  rcases fb_cases hZ.2.2.1 x with ho | ⟨i, hi, rfl⟩
  · have e0 := fb_in0 hZ.2.2.1 ho
    have ea : a_R_fiber P x wh = -1 := by unfold a_R_fiber; rw [if_pos e0]; split <;> rfl
    rw [ea]
    refine g_aload_n d_D_fiber_0 rfl ?_
    refine g_iload_n d_D_fiber_1 rfl ?_
    refine g_callV (k1 := 0) (n1 := 0) [.int (x)] cw_D_94 cv_D_fiberAt d_D_fiber_2 rfl (hV.kdo (sl_0 hZ.2.1) (by decide)) rfl rfl ⟨by simp, by simp⟩ (by first | decide | omega) (by first | decide | omega) (by first | decide | omega) (fun _ _ h => h) (s_fiberOut ⟨hV, hZ.2⟩ ho) (fun r_ M h_ hfr_ => ?_)
    obtain ⟨rfl, hV⟩ := h_
    refine g_astore_n d_D_fiber_5 (by decide) ?_
    refine g_aload_n d_D_fiber_6 rfl ?_
    refine g_ifnonnull 12 d_D_fiber_7 (by decide) (fun a_7 c_7 => ?_) (fun c_7 => ?_)
    · exact absurd c_7 (by simp)
    · skip
      refine g_iconst (v := -1) d_D_fiber_10 (by decide) ?_
      exact g_ireturn d_D_fiber_11 rfl ⟨rfl, hV⟩
  have hs := fb_start hst hi
  have hin := fb_in1 hZ.2.2.1 hi
  have hti : tn (nI i) = i := tn_nI (by omega)
  rcases sw8 wh with rfl | rfl | rfl | rfl | rfl | rfl | rfl | rfl | ⟨hout, n0, n1, n2, n3, n4, n5, n6, n7⟩
  · skip
    refine g_aload_n d_D_fiber_0 rfl ?_
    refine g_iload_n d_D_fiber_1 rfl ?_
    refine g_callV (k1 := 0) (n1 := 0) [.int (nI i)] cw_D_94 cv_D_fiberAt d_D_fiber_2 rfl (hV.kdo (sl_0 hZ.2.1) (by decide)) rfl rfl ⟨by simp, by simp⟩ (by first | decide | omega) (by first | decide | omega) (by first | decide | omega) (fun _ _ h => h) (s_fiberInx ⟨hV, hZ.2⟩ hi rfl) (fun r_ M h_ hfr_ => ?_)
    obtain ⟨rfl, hV⟩ := h_
    refine g_astore_n d_D_fiber_5 (by decide) ?_
    refine g_aload_n d_D_fiber_6 rfl ?_
    refine g_ifnonnull 12 d_D_fiber_7 (by decide) (fun a_7 c_7 => ?_) (fun c_7 => ?_)
    · skip
      refine g_iload_n d_D_fiber_12 rfl ?_
      refine g_tableIn 60 d_D_fiber_13 (by decide) (by decide) rfl (by decide) ?_
      refine g_aload_n d_D_fiber_60 rfl ?_
      refine g_callV (k1 := 0) (n1 := 0) [] cw_D_114 cv_F_state d_D_fiber_61 rfl (hV.kdo (sl_4 hZ.2.1 hi) (by decide)) rfl rfl ⟨by simp, by simp⟩ (by first | decide | omega) (by first | decide | omega) (by first | decide | omega) (fun _ _ h => h) (v_F_state hV (sl_4 hZ.2.1 hi)) (fun r_ M h_ hfr_ => ?_)
      obtain ⟨rfl, hV⟩ := h_
      rw [stv hZ.2.1 hA hi]
      refine g_ireturn d_D_fiber_64 rfl ⟨congrArg some (congrArg Value.int (Eq.symm ?_)), hV⟩
      unfold a_R_fiber; rw [if_neg hs, if_neg hin, hti]; by_cases h2 : P 5 i = 2; (rw [if_pos h2, if_pos h2, if_pos (show (0 : Int32) = 0 from rfl), h2]); (rw [if_neg h2, if_neg h2, if_pos (show (0 : Int32) = 0 from rfl)])
    · exact absurd (Eq.trans (Eq.symm (rfl : some (ad S 4 i) = some _)) c_7) (by simp)
  · skip
    refine g_aload_n d_D_fiber_0 rfl ?_
    refine g_iload_n d_D_fiber_1 rfl ?_
    refine g_callV (k1 := 0) (n1 := 0) [.int (nI i)] cw_D_94 cv_D_fiberAt d_D_fiber_2 rfl (hV.kdo (sl_0 hZ.2.1) (by decide)) rfl rfl ⟨by simp, by simp⟩ (by first | decide | omega) (by first | decide | omega) (by first | decide | omega) (fun _ _ h => h) (s_fiberInx ⟨hV, hZ.2⟩ hi rfl) (fun r_ M h_ hfr_ => ?_)
    obtain ⟨rfl, hV⟩ := h_
    refine g_astore_n d_D_fiber_5 (by decide) ?_
    refine g_aload_n d_D_fiber_6 rfl ?_
    refine g_ifnonnull 12 d_D_fiber_7 (by decide) (fun a_7 c_7 => ?_) (fun c_7 => ?_)
    · skip
      refine g_iload_n d_D_fiber_12 rfl ?_
      refine g_tableIn 65 d_D_fiber_13 (by decide) (by decide) rfl (by decide) ?_
      refine g_aload_n d_D_fiber_65 rfl ?_
      refine v_geti (v := P 10 i) (τ := i) 265 rfl hV (sl_4 hZ.2.1 hi) (by decide) (by decide) fl_D_117 rfl d_D_fiber_66 rfl (sf_265 hZ.2.1 hi) ?_
      refine g_if_eq 76 d_D_fiber_69 (by decide) (fun c_69 => ?_) (fun c_69 => ?_)
      · skip
        refine g_iconst (v := 0) d_D_fiber_76 (by decide) ?_
        refine g_ireturn d_D_fiber_77 rfl ⟨congrArg some (congrArg Value.int (Eq.symm ?_)), hV⟩
        unfold a_R_fiber; rw [if_neg hs, if_neg hin, hti]; by_cases h2 : P 5 i = 2; (rw [if_pos h2, if_neg (show ¬ ((1 : Int32) = 0) by decide), if_pos (show (1 : Int32) = 1 from rfl), if_pos c_69]); (rw [if_neg h2, if_neg (show ¬ ((1 : Int32) = 0) by decide), if_pos (show (1 : Int32) = 1 from rfl), if_pos c_69])
      · skip
        refine g_iconst (v := 1) d_D_fiber_72 (by decide) ?_
        refine g_goto 77 d_D_fiber_73 (by decide) ?_
        refine g_ireturn d_D_fiber_77 rfl ⟨congrArg some (congrArg Value.int (Eq.symm ?_)), hV⟩
        unfold a_R_fiber; rw [if_neg hs, if_neg hin, hti]; by_cases h2 : P 5 i = 2; (rw [if_pos h2, if_neg (show ¬ ((1 : Int32) = 0) by decide), if_pos (show (1 : Int32) = 1 from rfl), if_neg c_69]); (rw [if_neg h2, if_neg (show ¬ ((1 : Int32) = 0) by decide), if_pos (show (1 : Int32) = 1 from rfl), if_neg c_69])
    · exact absurd (Eq.trans (Eq.symm (rfl : some (ad S 4 i) = some _)) c_7) (by simp)
  · skip
    refine g_aload_n d_D_fiber_0 rfl ?_
    refine g_iload_n d_D_fiber_1 rfl ?_
    refine g_callV (k1 := 0) (n1 := 0) [.int (nI i)] cw_D_94 cv_D_fiberAt d_D_fiber_2 rfl (hV.kdo (sl_0 hZ.2.1) (by decide)) rfl rfl ⟨by simp, by simp⟩ (by first | decide | omega) (by first | decide | omega) (by first | decide | omega) (fun _ _ h => h) (s_fiberInx ⟨hV, hZ.2⟩ hi rfl) (fun r_ M h_ hfr_ => ?_)
    obtain ⟨rfl, hV⟩ := h_
    refine g_astore_n d_D_fiber_5 (by decide) ?_
    refine g_aload_n d_D_fiber_6 rfl ?_
    refine g_ifnonnull 12 d_D_fiber_7 (by decide) (fun a_7 c_7 => ?_) (fun c_7 => ?_)
    · skip
      refine g_iload_n d_D_fiber_12 rfl ?_
      refine g_tableIn 78 d_D_fiber_13 (by decide) (by decide) rfl (by decide) ?_
      refine g_aload_n d_D_fiber_78 rfl ?_
      refine v_geti (v := P 22 i) (τ := i) 264 rfl hV (sl_4 hZ.2.1 hi) (by decide) (by decide) fl_D_120 rfl d_D_fiber_79 rfl (sf_264 hZ.2.1 hi) ?_
      refine g_ireturn d_D_fiber_82 rfl ⟨congrArg some (congrArg Value.int (Eq.symm ?_)), hV⟩
      unfold a_R_fiber; rw [if_neg hs, if_neg hin, hti]; by_cases h2 : P 5 i = 2; (rw [if_pos h2, if_neg (show ¬ ((2 : Int32) = 0) by decide), if_neg (show ¬ ((2 : Int32) = 1) by decide), if_pos (show (2 : Int32) = 2 from rfl)]); (rw [if_neg h2, if_neg (show ¬ ((2 : Int32) = 0) by decide), if_neg (show ¬ ((2 : Int32) = 1) by decide), if_pos (show (2 : Int32) = 2 from rfl)])
    · exact absurd (Eq.trans (Eq.symm (rfl : some (ad S 4 i) = some _)) c_7) (by simp)
  · skip
    refine g_aload_n d_D_fiber_0 rfl ?_
    refine g_iload_n d_D_fiber_1 rfl ?_
    refine g_callV (k1 := 0) (n1 := 0) [.int (nI i)] cw_D_94 cv_D_fiberAt d_D_fiber_2 rfl (hV.kdo (sl_0 hZ.2.1) (by decide)) rfl rfl ⟨by simp, by simp⟩ (by first | decide | omega) (by first | decide | omega) (by first | decide | omega) (fun _ _ h => h) (s_fiberInx ⟨hV, hZ.2⟩ hi rfl) (fun r_ M h_ hfr_ => ?_)
    obtain ⟨rfl, hV⟩ := h_
    refine g_astore_n d_D_fiber_5 (by decide) ?_
    refine g_aload_n d_D_fiber_6 rfl ?_
    refine g_ifnonnull 12 d_D_fiber_7 (by decide) (fun a_7 c_7 => ?_) (fun c_7 => ?_)
    · skip
      refine g_iload_n d_D_fiber_12 rfl ?_
      refine g_tableIn 83 d_D_fiber_13 (by decide) (by decide) rfl (by decide) ?_
      refine g_aload_n d_D_fiber_83 rfl ?_
      refine v_geti (v := P 6 i) (τ := i) 266 rfl hV (sl_4 hZ.2.1 hi) (by decide) (by decide) fl_D_123 rfl d_D_fiber_84 rfl (sf_266 hZ.2.1 hi) ?_
      refine g_ireturn d_D_fiber_87 rfl ⟨congrArg some (congrArg Value.int (Eq.symm ?_)), hV⟩
      unfold a_R_fiber; rw [if_neg hs, if_neg hin, hti]; by_cases h2 : P 5 i = 2; (rw [if_pos h2, if_neg (show ¬ ((3 : Int32) = 0) by decide), if_neg (show ¬ ((3 : Int32) = 1) by decide), if_neg (show ¬ ((3 : Int32) = 2) by decide), if_pos (show (3 : Int32) = 3 from rfl)]); (rw [if_neg h2, if_neg (show ¬ ((3 : Int32) = 0) by decide), if_neg (show ¬ ((3 : Int32) = 1) by decide), if_neg (show ¬ ((3 : Int32) = 2) by decide), if_pos (show (3 : Int32) = 3 from rfl)])
    · exact absurd (Eq.trans (Eq.symm (rfl : some (ad S 4 i) = some _)) c_7) (by simp)
  · skip
    refine g_aload_n d_D_fiber_0 rfl ?_
    refine g_iload_n d_D_fiber_1 rfl ?_
    refine g_callV (k1 := 0) (n1 := 0) [.int (nI i)] cw_D_94 cv_D_fiberAt d_D_fiber_2 rfl (hV.kdo (sl_0 hZ.2.1) (by decide)) rfl rfl ⟨by simp, by simp⟩ (by first | decide | omega) (by first | decide | omega) (by first | decide | omega) (fun _ _ h => h) (s_fiberInx ⟨hV, hZ.2⟩ hi rfl) (fun r_ M h_ hfr_ => ?_)
    obtain ⟨rfl, hV⟩ := h_
    refine g_astore_n d_D_fiber_5 (by decide) ?_
    refine g_aload_n d_D_fiber_6 rfl ?_
    refine g_ifnonnull 12 d_D_fiber_7 (by decide) (fun a_7 c_7 => ?_) (fun c_7 => ?_)
    · skip
      refine g_iload_n d_D_fiber_12 rfl ?_
      refine g_tableIn 88 d_D_fiber_13 (by decide) (by decide) rfl (by decide) ?_
      refine g_aload_n d_D_fiber_88 rfl ?_
      refine v_geti (v := P 8 i) (τ := i) 257 rfl hV (sl_4 hZ.2.1 hi) (by decide) (by decide) fl_D_126 rfl d_D_fiber_89 rfl (sf_257 hZ.2.1 hi) ?_
      refine g_ireturn d_D_fiber_92 rfl ⟨congrArg some (congrArg Value.int (Eq.symm ?_)), hV⟩
      unfold a_R_fiber; rw [if_neg hs, if_neg hin, hti]; by_cases h2 : P 5 i = 2; (rw [if_pos h2, if_neg (show ¬ ((4 : Int32) = 0) by decide), if_neg (show ¬ ((4 : Int32) = 1) by decide), if_neg (show ¬ ((4 : Int32) = 2) by decide), if_neg (show ¬ ((4 : Int32) = 3) by decide), if_pos (show (4 : Int32) = 4 from rfl)]); (rw [if_neg h2, if_neg (show ¬ ((4 : Int32) = 0) by decide), if_neg (show ¬ ((4 : Int32) = 1) by decide), if_neg (show ¬ ((4 : Int32) = 2) by decide), if_neg (show ¬ ((4 : Int32) = 3) by decide), if_pos (show (4 : Int32) = 4 from rfl)])
    · exact absurd (Eq.trans (Eq.symm (rfl : some (ad S 4 i) = some _)) c_7) (by simp)
  · have hs2 : (if P 5 i = 2 then (if P 14 i = 0 then 2 else 3) else P 5 i : Int32) = 2 → P 5 i = 2 := fun q => Classical.byContradiction (fun w => by rw [if_neg w] at q; exact w q)
    have hs14 : (if P 5 i = 2 then (if P 14 i = 0 then 2 else 3) else P 5 i : Int32) = 2 → P 14 i = 0 := fun q => Classical.byContradiction (fun w => by rw [if_pos (hs2 q), if_neg w] at q; exact absurd q (by decide))
    refine g_aload_n d_D_fiber_0 rfl ?_
    refine g_iload_n d_D_fiber_1 rfl ?_
    refine g_callV (k1 := 0) (n1 := 0) [.int (nI i)] cw_D_94 cv_D_fiberAt d_D_fiber_2 rfl (hV.kdo (sl_0 hZ.2.1) (by decide)) rfl rfl ⟨by simp, by simp⟩ (by first | decide | omega) (by first | decide | omega) (by first | decide | omega) (fun _ _ h => h) (s_fiberInx ⟨hV, hZ.2⟩ hi rfl) (fun r_ M h_ hfr_ => ?_)
    obtain ⟨rfl, hV⟩ := h_
    refine g_astore_n d_D_fiber_5 (by decide) ?_
    refine g_aload_n d_D_fiber_6 rfl ?_
    refine g_ifnonnull 12 d_D_fiber_7 (by decide) (fun a_7 c_7 => ?_) (fun c_7 => ?_)
    · skip
      refine g_iload_n d_D_fiber_12 rfl ?_
      refine g_tableIn 93 d_D_fiber_13 (by decide) (by decide) rfl (by decide) ?_
      refine g_aload_n d_D_fiber_93 rfl ?_
      refine g_callV (k1 := 0) (n1 := 0) [] cw_D_114 cv_F_state d_D_fiber_94 rfl (hV.kdo (sl_4 hZ.2.1 hi) (by decide)) rfl rfl ⟨by simp, by simp⟩ (by first | decide | omega) (by first | decide | omega) (by first | decide | omega) (fun _ _ h => h) (v_F_state hV (sl_4 hZ.2.1 hi)) (fun r_ M h_ hfr_ => ?_)
      obtain ⟨rfl, hV⟩ := h_
      rw [stv hZ.2.1 hA hi]
      refine g_iconst (v := 2) d_D_fiber_97 (by decide) ?_
      refine g_icmp_ne 108 d_D_fiber_98 (by decide) (fun c_98 => ?_) (fun c_98 => ?_)
      · skip
        refine g_iconst (v := 0) d_D_fiber_108 (by decide) ?_
        refine g_ireturn d_D_fiber_109 rfl ⟨congrArg some (congrArg Value.int (Eq.symm ?_)), hV⟩
        unfold a_R_fiber; rw [if_neg hs, if_neg hin, hti]; by_cases h2 : P 5 i = 2; (rw [if_pos h2, if_neg (show ¬ ((5 : Int32) = 0) by decide), if_neg (show ¬ ((5 : Int32) = 1) by decide), if_neg (show ¬ ((5 : Int32) = 2) by decide), if_neg (show ¬ ((5 : Int32) = 3) by decide), if_neg (show ¬ ((5 : Int32) = 4) by decide), if_pos (show (5 : Int32) = 5 from rfl), if_neg (fun q => c_98 (by rw [if_pos h2, if_pos q]))]); (rw [if_neg h2, if_neg (show ¬ ((5 : Int32) = 0) by decide), if_neg (show ¬ ((5 : Int32) = 1) by decide), if_neg (show ¬ ((5 : Int32) = 2) by decide), if_neg (show ¬ ((5 : Int32) = 3) by decide), if_neg (show ¬ ((5 : Int32) = 4) by decide), if_pos (show (5 : Int32) = 5 from rfl)])
      · skip
        refine g_aload_n d_D_fiber_101 rfl ?_
        refine v_geti (v := vi S 260 i) (τ := i) 260 rfl hV (sl_4 hZ.2.1 hi) (by decide) (by decide) fl_D_129 rfl d_D_fiber_102 rfl rfl ?_
        refine g_goto 109 d_D_fiber_105 (by decide) ?_
        have h2 : P 5 i = 2 := hs2 c_98
        refine g_ireturn d_D_fiber_109 rfl ⟨congrArg some (congrArg Value.int ?_), hV⟩
        rw [((sf_exit hZ.2.1 hi h2).1 (hs14 c_98)).2]; symm; unfold a_R_fiber; rw [if_neg hs, if_neg hin, hti, if_pos h2, if_neg (show ¬ ((5 : Int32) = 0) by decide), if_neg (show ¬ ((5 : Int32) = 1) by decide), if_neg (show ¬ ((5 : Int32) = 2) by decide), if_neg (show ¬ ((5 : Int32) = 3) by decide), if_neg (show ¬ ((5 : Int32) = 4) by decide), if_pos (show (5 : Int32) = 5 from rfl), if_pos (hs14 c_98)]
    · exact absurd (Eq.trans (Eq.symm (rfl : some (ad S 4 i) = some _)) c_7) (by simp)
  · skip
    refine g_aload_n d_D_fiber_0 rfl ?_
    refine g_iload_n d_D_fiber_1 rfl ?_
    refine g_callV (k1 := 0) (n1 := 0) [.int (nI i)] cw_D_94 cv_D_fiberAt d_D_fiber_2 rfl (hV.kdo (sl_0 hZ.2.1) (by decide)) rfl rfl ⟨by simp, by simp⟩ (by first | decide | omega) (by first | decide | omega) (by first | decide | omega) (fun _ _ h => h) (s_fiberInx ⟨hV, hZ.2⟩ hi rfl) (fun r_ M h_ hfr_ => ?_)
    obtain ⟨rfl, hV⟩ := h_
    refine g_astore_n d_D_fiber_5 (by decide) ?_
    refine g_aload_n d_D_fiber_6 rfl ?_
    refine g_ifnonnull 12 d_D_fiber_7 (by decide) (fun a_7 c_7 => ?_) (fun c_7 => ?_)
    · skip
      refine g_iload_n d_D_fiber_12 rfl ?_
      refine g_tableIn 110 d_D_fiber_13 (by decide) (by decide) rfl (by decide) ?_
      refine g_aload_n d_D_fiber_110 rfl ?_
      refine v_geti (v := P 9 i) (τ := i) 268 rfl hV (sl_4 hZ.2.1 hi) (by decide) (by decide) fl_D_132 rfl d_D_fiber_111 rfl (sf_268 hZ.2.1 hi) ?_
      refine g_ireturn d_D_fiber_114 rfl ⟨congrArg some (congrArg Value.int (Eq.symm ?_)), hV⟩
      unfold a_R_fiber; rw [if_neg hs, if_neg hin, hti]; by_cases h2 : P 5 i = 2; (rw [if_pos h2, if_neg (show ¬ ((6 : Int32) = 0) by decide), if_neg (show ¬ ((6 : Int32) = 1) by decide), if_neg (show ¬ ((6 : Int32) = 2) by decide), if_neg (show ¬ ((6 : Int32) = 3) by decide), if_neg (show ¬ ((6 : Int32) = 4) by decide), if_neg (show ¬ ((6 : Int32) = 5) by decide), if_pos (show (6 : Int32) = 6 from rfl)]); (rw [if_neg h2, if_neg (show ¬ ((6 : Int32) = 0) by decide), if_neg (show ¬ ((6 : Int32) = 1) by decide), if_neg (show ¬ ((6 : Int32) = 2) by decide), if_neg (show ¬ ((6 : Int32) = 3) by decide), if_neg (show ¬ ((6 : Int32) = 4) by decide), if_neg (show ¬ ((6 : Int32) = 5) by decide), if_pos (show (6 : Int32) = 6 from rfl)])
    · exact absurd (Eq.trans (Eq.symm (rfl : some (ad S 4 i) = some _)) c_7) (by simp)
  · skip
    refine g_aload_n d_D_fiber_0 rfl ?_
    refine g_iload_n d_D_fiber_1 rfl ?_
    refine g_callV (k1 := 0) (n1 := 0) [.int (nI i)] cw_D_94 cv_D_fiberAt d_D_fiber_2 rfl (hV.kdo (sl_0 hZ.2.1) (by decide)) rfl rfl ⟨by simp, by simp⟩ (by first | decide | omega) (by first | decide | omega) (by first | decide | omega) (fun _ _ h => h) (s_fiberInx ⟨hV, hZ.2⟩ hi rfl) (fun r_ M h_ hfr_ => ?_)
    obtain ⟨rfl, hV⟩ := h_
    refine g_astore_n d_D_fiber_5 (by decide) ?_
    refine g_aload_n d_D_fiber_6 rfl ?_
    refine g_ifnonnull 12 d_D_fiber_7 (by decide) (fun a_7 c_7 => ?_) (fun c_7 => ?_)
    · skip
      refine g_iload_n d_D_fiber_12 rfl ?_
      refine g_tableIn 115 d_D_fiber_13 (by decide) (by decide) rfl (by decide) ?_
      refine g_aload_n d_D_fiber_115 rfl ?_
      refine v_geti (v := P 15 i) (τ := i) 269 rfl hV (sl_4 hZ.2.1 hi) (by decide) (by decide) fl_D_133 rfl d_D_fiber_116 rfl (sf_269 hZ.2.1 hi) ?_
      refine g_ireturn d_D_fiber_119 rfl ⟨congrArg some (congrArg Value.int (Eq.symm ?_)), hV⟩
      unfold a_R_fiber; rw [if_neg hs, if_neg hin, hti]; by_cases h2 : P 5 i = 2; (rw [if_pos h2, if_neg (show ¬ ((7 : Int32) = 0) by decide), if_neg (show ¬ ((7 : Int32) = 1) by decide), if_neg (show ¬ ((7 : Int32) = 2) by decide), if_neg (show ¬ ((7 : Int32) = 3) by decide), if_neg (show ¬ ((7 : Int32) = 4) by decide), if_neg (show ¬ ((7 : Int32) = 5) by decide), if_neg (show ¬ ((7 : Int32) = 6) by decide), if_pos (show (7 : Int32) = 7 from rfl)]); (rw [if_neg h2, if_neg (show ¬ ((7 : Int32) = 0) by decide), if_neg (show ¬ ((7 : Int32) = 1) by decide), if_neg (show ¬ ((7 : Int32) = 2) by decide), if_neg (show ¬ ((7 : Int32) = 3) by decide), if_neg (show ¬ ((7 : Int32) = 4) by decide), if_neg (show ¬ ((7 : Int32) = 5) by decide), if_neg (show ¬ ((7 : Int32) = 6) by decide), if_pos (show (7 : Int32) = 7 from rfl)])
    · exact absurd (Eq.trans (Eq.symm (rfl : some (ad S 4 i) = some _)) c_7) (by simp)
  · skip
    refine g_aload_n d_D_fiber_0 rfl ?_
    refine g_iload_n d_D_fiber_1 rfl ?_
    refine g_callV (k1 := 0) (n1 := 0) [.int (nI i)] cw_D_94 cv_D_fiberAt d_D_fiber_2 rfl (hV.kdo (sl_0 hZ.2.1) (by decide)) rfl rfl ⟨by simp, by simp⟩ (by first | decide | omega) (by first | decide | omega) (by first | decide | omega) (fun _ _ h => h) (s_fiberInx ⟨hV, hZ.2⟩ hi rfl) (fun r_ M h_ hfr_ => ?_)
    obtain ⟨rfl, hV⟩ := h_
    refine g_astore_n d_D_fiber_5 (by decide) ?_
    refine g_aload_n d_D_fiber_6 rfl ?_
    refine g_ifnonnull 12 d_D_fiber_7 (by decide) (fun a_7 c_7 => ?_) (fun c_7 => ?_)
    · skip
      refine g_iload_n d_D_fiber_12 rfl ?_
      refine g_tableOut 120 d_D_fiber_13 hout (by decide) ?_
      refine g_iconst (v := -1) d_D_fiber_120 (by decide) ?_
      refine g_ireturn d_D_fiber_121 rfl ⟨congrArg some (congrArg Value.int (Eq.symm ?_)), hV⟩
      unfold a_R_fiber; rw [if_neg hs, if_neg hin, hti]; by_cases h2 : P 5 i = 2; (rw [if_pos h2, if_neg n0, if_neg n1, if_neg n2, if_neg n3, if_neg n4, if_neg n5, if_neg n6, if_neg n7]); (rw [if_neg h2, if_neg n0, if_neg n1, if_neg n2, if_neg n3, if_neg n4, if_neg n5, if_neg n6, if_neg n7])
    · exact absurd (Eq.trans (Eq.symm (rfl : some (ad S 4 i) = some _)) c_7) (by simp)
