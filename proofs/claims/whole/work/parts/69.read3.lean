/-! causes as answers (by program: wip/tools/gen_s26.py) -/
set_option maxHeartbeats 1000000 in
set_option maxRecDepth 100000 in
theorem s_D_cause {P : Pst} {LL : Lls} {S : Gs} {M : Mm} (hZ : Zt P LL S M) (hst : P 51 0 = 0 ↔ nfb P = 0) (x y wh : Int32) : Run m_D_cause ownC 1 0 0 [va_rf (some (ad S 0 0)), .int x, .int y, .int wh] M (fun r M' => r = some (.int (a_R_cause P x y wh)) ∧ VM S M') := by
  have hV := hZ.1
  refine Run.ofG (by decide) (by simp [cat_int, cat_rf]) (Nat.le_of_ble_eq_true rfl) ?_
  have h10_ := n10 hZ.2.2.1
  rcases fb_cases hZ.2.2.1 x with ho | ⟨i, hi, rfl⟩
  · have e0 := fb_in0 hZ.2.2.1 ho
    have ea : a_R_cause P x y wh = -1 := by unfold a_R_cause; rw [if_pos e0]; split <;> rfl
    rw [ea]
    refine g_aload_n d_D_cause_0 rfl ?_
    refine g_iload_n d_D_cause_1 rfl ?_
    refine g_callV (k1 := 0) (n1 := 0) [.int (x)] cw_D_94 cv_D_fiberAt d_D_cause_2 rfl (hV.kdo (sl_0 hZ.2.1) (by decide)) rfl rfl ⟨by simp, by simp⟩ (by first | decide | omega) (by first | decide | omega) (by first | decide | omega) (fun _ _ h => h) (s_fiberOut ⟨hV, hZ.2⟩ ho) (fun r_ M h_ hfr_ => ?_)
    obtain ⟨rfl, hV⟩ := h_
    refine g_astore d_D_cause_5 (by decide) ?_
    refine g_aload d_D_cause_7 rfl ?_
    refine g_ifnull 45 d_D_cause_9 (by decide) (fun c_9 => ?_) (fun a_9 c_9 => ?_)
    · skip
      refine g_iconst (v := -1) d_D_cause_45 (by decide) ?_
      exact g_ireturn d_D_cause_46 rfl ⟨rfl, hV⟩
    · exact absurd c_9 (by simp)
  have hs := fb_start hst hi
  have hin := fb_in1 hZ.2.2.1 hi
  have hti : tn (nI i) = i := tn_nI (by omega)
  by_cases h2 : P 5 i = 2
  rotate_left
  · have ea : a_R_cause P (nI i) y wh = -1 := by unfold a_R_cause; rw [if_neg hs, if_neg hin, hti, if_neg h2]
    rw [ea]
    refine g_aload_n d_D_cause_0 rfl ?_
    refine g_iload_n d_D_cause_1 rfl ?_
    refine g_callV (k1 := 0) (n1 := 0) [.int (nI i)] cw_D_94 cv_D_fiberAt d_D_cause_2 rfl (hV.kdo (sl_0 hZ.2.1) (by decide)) rfl rfl ⟨by simp, by simp⟩ (by first | decide | omega) (by first | decide | omega) (by first | decide | omega) (fun _ _ h => h) (s_fiberInx ⟨hV, hZ.2⟩ hi rfl) (fun r_ M h_ hfr_ => ?_)
    obtain ⟨rfl, hV⟩ := h_
    refine g_astore d_D_cause_5 (by decide) ?_
    refine g_aload d_D_cause_7 rfl ?_
    refine g_ifnull 45 d_D_cause_9 (by decide) (fun c_9 => ?_) (fun a_9 c_9 => ?_)
    · exact absurd (Eq.trans (Eq.symm (rfl : some (ad S 4 i) = some _)) c_9) (by simp)
    · skip
      refine g_aload d_D_cause_12 rfl ?_
      refine v_geti (v := 0) (τ := i) 262 rfl hV (sl_4 hZ.2.1 hi) (by decide) (by decide) fl_D_98 rfl d_D_cause_14 rfl ((sf_262 hZ.2.1 hi).trans (by unfold endI; rw [if_neg h2])) ?_
      refine g_if_eq 45 d_D_cause_17 (by decide) (fun c_17 => ?_) (fun c_17 => ?_)
      · skip
        refine g_iconst (v := -1) d_D_cause_45 (by decide) ?_
        exact g_ireturn d_D_cause_46 rfl ⟨rfl, hV⟩
      · exact absurd c_17 (by decide)
  by_cases h14 : P 14 i = 0
  · have ea : a_R_cause P (nI i) y wh = -1 := by unfold a_R_cause; rw [if_neg hs, if_neg hin, hti, if_pos h2, if_pos h14]
    rw [ea]
    refine g_aload_n d_D_cause_0 rfl ?_
    refine g_iload_n d_D_cause_1 rfl ?_
    refine g_callV (k1 := 0) (n1 := 0) [.int (nI i)] cw_D_94 cv_D_fiberAt d_D_cause_2 rfl (hV.kdo (sl_0 hZ.2.1) (by decide)) rfl rfl ⟨by simp, by simp⟩ (by first | decide | omega) (by first | decide | omega) (by first | decide | omega) (fun _ _ h => h) (s_fiberInx ⟨hV, hZ.2⟩ hi rfl) (fun r_ M h_ hfr_ => ?_)
    obtain ⟨rfl, hV⟩ := h_
    refine g_astore d_D_cause_5 (by decide) ?_
    refine g_aload d_D_cause_7 rfl ?_
    refine g_ifnull 45 d_D_cause_9 (by decide) (fun c_9 => ?_) (fun a_9 c_9 => ?_)
    · exact absurd (Eq.trans (Eq.symm (rfl : some (ad S 4 i) = some _)) c_9) (by simp)
    · skip
      refine g_aload d_D_cause_12 rfl ?_
      refine v_geti (v := 1) (τ := i) 262 rfl hV (sl_4 hZ.2.1 hi) (by decide) (by decide) fl_D_98 rfl d_D_cause_14 rfl ((sf_262 hZ.2.1 hi).trans (by rw [h2]; rfl)) ?_
      refine g_if_eq 45 d_D_cause_17 (by decide) (fun c_17 => ?_) (fun c_17 => ?_)
      · exact absurd c_17 (by decide)
      · skip
        refine g_aload d_D_cause_20 rfl ?_
        refine v_getr (v := none) (τ := i) 261 rfl hV (sl_4 hZ.2.1 hi) (by decide) (by decide) fl_D_136 rfl d_D_cause_22 rfl ((sf_exit hZ.2.1 hi h2).1 h14).1 ?_
        refine g_ifnull 45 d_D_cause_25 (by decide) (fun c_25 => ?_) (fun a_25 c_25 => ?_)
        · skip
          refine g_iconst (v := -1) d_D_cause_45 (by decide) ?_
          exact g_ireturn d_D_cause_46 rfl ⟨rfl, hV⟩
        · exact absurd c_25 (by simp)
  obtain ⟨a, ea, ka⟩ := (sf_exit hZ.2.1 hi h2).2 h14
  have h9 := rowL_9 hZ.2.2.1 i
  have hlen := rowL_len P i
  have op : ∀ z, a_R_cause P (nI i) y wh = z ↔ (if a_R_in y 0 (P 33 i - 1) = 0 then -1 else if a_R_in wh 0 1 = 0 then -1 else if wh = 0 then P 34 (9 * i + tn y) else P 35 (9 * i + tn y)) = z := fun z => by unfold a_R_cause; rw [if_neg hs, if_neg hin, hti, if_pos h2, if_neg h14]
  have hyin := qd_in (P := fun _ _ => P 33 i) (n := (rowL P i).length) (by rw [hlen]; exact (hZ.2.2.1 33 i).1) (by omega) y
  by_cases hy : y < 0
  · have er : a_R_cause P (nI i) y wh = -1 := (op _).mpr (if_pos (hyin.mpr (Or.inl hy)))
    rw [er]
    refine g_aload_n d_D_cause_0 rfl ?_
    refine g_iload_n d_D_cause_1 rfl ?_
    refine g_callV (k1 := 0) (n1 := 0) [.int (nI i)] cw_D_94 cv_D_fiberAt d_D_cause_2 rfl (hV.kdo (sl_0 hZ.2.1) (by decide)) rfl rfl ⟨by simp, by simp⟩ (by first | decide | omega) (by first | decide | omega) (by first | decide | omega) (fun _ _ h => h) (s_fiberInx ⟨hV, hZ.2⟩ hi rfl) (fun r_ M h_ hfr_ => ?_)
    obtain ⟨rfl, hV⟩ := h_
    refine g_astore d_D_cause_5 (by decide) ?_
    refine g_aload d_D_cause_7 rfl ?_
    refine g_ifnull 45 d_D_cause_9 (by decide) (fun c_9 => ?_) (fun a_9 c_9 => ?_)
    · exact absurd (Eq.trans (Eq.symm (rfl : some (ad S 4 i) = some _)) c_9) (by simp)
    · skip
      refine g_aload d_D_cause_12 rfl ?_
      refine v_geti (v := 1) (τ := i) 262 rfl hV (sl_4 hZ.2.1 hi) (by decide) (by decide) fl_D_98 rfl d_D_cause_14 rfl ((sf_262 hZ.2.1 hi).trans (by rw [h2]; rfl)) ?_
      refine g_if_eq 45 d_D_cause_17 (by decide) (fun c_17 => ?_) (fun c_17 => ?_)
      · exact absurd c_17 (by decide)
      · skip
        refine g_aload d_D_cause_20 rfl ?_
        refine v_getr (v := some a) (τ := i) 261 rfl hV (sl_4 hZ.2.1 hi) (by decide) (by decide) fl_D_136 rfl d_D_cause_22 rfl ea ?_
        refine g_ifnull 45 d_D_cause_25 (by decide) (fun c_25 => ?_) (fun a_25 c_25 => ?_)
        · exact absurd (Eq.trans (Eq.symm (rfl : some a = some _)) c_25) (by simp)
        · skip
          refine g_iload_n d_D_cause_28 rfl ?_
          refine g_if_lt 45 d_D_cause_29 (by decide) (fun c_29 => ?_) (fun c_29 => ?_)
          · skip
            refine g_iconst (v := -1) d_D_cause_45 (by decide) ?_
            exact g_ireturn d_D_cause_46 rfl ⟨rfl, hV⟩
          · exact absurd (show y < 0 from hy) c_29
  by_cases hyl : y < nI (rowL P i).length
  rotate_left
  · have er : a_R_cause P (nI i) y wh = -1 := (op _).mpr (if_pos (hyin.mpr (Or.inr (Int32.not_lt.mp hyl))))
    rw [er]
    refine g_aload_n d_D_cause_0 rfl ?_
    refine g_iload_n d_D_cause_1 rfl ?_
    refine g_callV (k1 := 0) (n1 := 0) [.int (nI i)] cw_D_94 cv_D_fiberAt d_D_cause_2 rfl (hV.kdo (sl_0 hZ.2.1) (by decide)) rfl rfl ⟨by simp, by simp⟩ (by first | decide | omega) (by first | decide | omega) (by first | decide | omega) (fun _ _ h => h) (s_fiberInx ⟨hV, hZ.2⟩ hi rfl) (fun r_ M h_ hfr_ => ?_)
    obtain ⟨rfl, hV⟩ := h_
    refine g_astore d_D_cause_5 (by decide) ?_
    refine g_aload d_D_cause_7 rfl ?_
    refine g_ifnull 45 d_D_cause_9 (by decide) (fun c_9 => ?_) (fun a_9 c_9 => ?_)
    · exact absurd (Eq.trans (Eq.symm (rfl : some (ad S 4 i) = some _)) c_9) (by simp)
    · skip
      refine g_aload d_D_cause_12 rfl ?_
      refine v_geti (v := 1) (τ := i) 262 rfl hV (sl_4 hZ.2.1 hi) (by decide) (by decide) fl_D_98 rfl d_D_cause_14 rfl ((sf_262 hZ.2.1 hi).trans (by rw [h2]; rfl)) ?_
      refine g_if_eq 45 d_D_cause_17 (by decide) (fun c_17 => ?_) (fun c_17 => ?_)
      · exact absurd c_17 (by decide)
      · skip
        refine g_aload d_D_cause_20 rfl ?_
        refine v_getr (v := some a) (τ := i) 261 rfl hV (sl_4 hZ.2.1 hi) (by decide) (by decide) fl_D_136 rfl d_D_cause_22 rfl ea ?_
        refine g_ifnull 45 d_D_cause_25 (by decide) (fun c_25 => ?_) (fun a_25 c_25 => ?_)
        · exact absurd (Eq.trans (Eq.symm (rfl : some a = some _)) c_25) (by simp)
        · skip
          refine g_iload_n d_D_cause_28 rfl ?_
          refine g_if_lt 45 d_D_cause_29 (by decide) (fun c_29 => ?_) (fun c_29 => ?_)
          · exact absurd (show y < 0 from c_29) hy
          · skip
            refine g_iload_n d_D_cause_32 rfl ?_
            refine g_aload d_D_cause_33 rfl ?_
            refine v_getr (v := some a) (τ := i) 261 rfl hV (sl_4 hZ.2.1 hi) (by decide) (by decide) fl_D_136 rfl d_D_cause_35 rfl ea ?_
            refine v_ckind hV ka fl_D_140 d_D_cause_38 rfl (fun a_38 ha_38 => ?_)
            refine v_clen ha_38 d_D_cause_41 ?_
            refine g_icmp_lt 47 d_D_cause_42 (by decide) (fun c_42 => ?_) (fun c_42 => ?_)
            · exact absurd (show y < nI (rowL P i).length from c_42) hyl
            · skip
              refine g_iconst (v := -1) d_D_cause_45 (by decide) ?_
              exact g_ireturn d_D_cause_46 rfl ⟨rfl, hV⟩
  have hyj : tn y < (rowL P i).length := ix_lt_of (tn_of hy) rfl (by omega) (Int32.not_le.mpr hyl)
  have hny : ¬ a_R_in y 0 (P 33 i - 1) = 0 := fun q => by rcases hyin.mp q with w | w; exact hy w; exact absurd hyl (Int32.not_lt.mpr w)
  have hg := rowL_get P i (tn y) (by rw [← hlen]; exact hyj)
  by_cases hw0 : wh = 0
  · subst hw0
    have er : a_R_cause P (nI i) y 0 = P 34 (9 * i + tn y) := (op _).mpr (by rw [if_neg hny, if_neg (by decide), if_pos rfl])
    rw [er]
    refine g_aload_n d_D_cause_0 rfl ?_
    refine g_iload_n d_D_cause_1 rfl ?_
    refine g_callV (k1 := 0) (n1 := 0) [.int (nI i)] cw_D_94 cv_D_fiberAt d_D_cause_2 rfl (hV.kdo (sl_0 hZ.2.1) (by decide)) rfl rfl ⟨by simp, by simp⟩ (by first | decide | omega) (by first | decide | omega) (by first | decide | omega) (fun _ _ h => h) (s_fiberInx ⟨hV, hZ.2⟩ hi rfl) (fun r_ M h_ hfr_ => ?_)
    obtain ⟨rfl, hV⟩ := h_
    refine g_astore d_D_cause_5 (by decide) ?_
    refine g_aload d_D_cause_7 rfl ?_
    refine g_ifnull 45 d_D_cause_9 (by decide) (fun c_9 => ?_) (fun a_9 c_9 => ?_)
    · exact absurd (Eq.trans (Eq.symm (rfl : some (ad S 4 i) = some _)) c_9) (by simp)
    · skip
      refine g_aload d_D_cause_12 rfl ?_
      refine v_geti (v := 1) (τ := i) 262 rfl hV (sl_4 hZ.2.1 hi) (by decide) (by decide) fl_D_98 rfl d_D_cause_14 rfl ((sf_262 hZ.2.1 hi).trans (by rw [h2]; rfl)) ?_
      refine g_if_eq 45 d_D_cause_17 (by decide) (fun c_17 => ?_) (fun c_17 => ?_)
      · exact absurd c_17 (by decide)
      · skip
        refine g_aload d_D_cause_20 rfl ?_
        refine v_getr (v := some a) (τ := i) 261 rfl hV (sl_4 hZ.2.1 hi) (by decide) (by decide) fl_D_136 rfl d_D_cause_22 rfl ea ?_
        refine g_ifnull 45 d_D_cause_25 (by decide) (fun c_25 => ?_) (fun a_25 c_25 => ?_)
        · exact absurd (Eq.trans (Eq.symm (rfl : some a = some _)) c_25) (by simp)
        · skip
          refine g_iload_n d_D_cause_28 rfl ?_
          refine g_if_lt 45 d_D_cause_29 (by decide) (fun c_29 => ?_) (fun c_29 => ?_)
          · exact absurd (show y < 0 from c_29) hy
          · skip
            refine g_iload_n d_D_cause_32 rfl ?_
            refine g_aload d_D_cause_33 rfl ?_
            refine v_getr (v := some a) (τ := i) 261 rfl hV (sl_4 hZ.2.1 hi) (by decide) (by decide) fl_D_136 rfl d_D_cause_35 rfl ea ?_
            refine v_ckind hV ka fl_D_140 d_D_cause_38 rfl (fun a_38 ha_38 => ?_)
            refine v_clen ha_38 d_D_cause_41 ?_
            refine g_icmp_lt 47 d_D_cause_42 (by decide) (fun c_42 => ?_) (fun c_42 => ?_)
            · skip
              refine g_iload_n d_D_cause_47 rfl ?_
              refine g_lookup (off := 28) 76 d_D_cause_48 (by decide) rfl (by decide) ?_
              refine g_aload d_D_cause_76 rfl ?_
              refine v_getr (v := some a) (τ := i) 261 rfl hV (sl_4 hZ.2.1 hi) (by decide) (by decide) fl_D_136 rfl d_D_cause_78 rfl ea ?_
              refine v_ckind hV ka fl_D_140 d_D_cause_81 rfl (fun a_81 ha_81 => ?_)
              refine g_iload_n d_D_cause_84 rfl ?_
              refine v_cld (j := (tn y)) ha_81 d_D_cause_85 (tn_of hy) hyj h9 ?_
              exact g_ireturn d_D_cause_86 rfl ⟨by rw [hg], hV⟩
            · exact absurd (show y < nI (rowL P i).length from hyl) c_42
  by_cases hw1 : wh = 1
  · subst hw1
    have er : a_R_cause P (nI i) y 1 = P 35 (9 * i + tn y) := (op _).mpr (by rw [if_neg hny, if_neg (by decide), if_neg (by decide)])
    rw [er]
    refine g_aload_n d_D_cause_0 rfl ?_
    refine g_iload_n d_D_cause_1 rfl ?_
    refine g_callV (k1 := 0) (n1 := 0) [.int (nI i)] cw_D_94 cv_D_fiberAt d_D_cause_2 rfl (hV.kdo (sl_0 hZ.2.1) (by decide)) rfl rfl ⟨by simp, by simp⟩ (by first | decide | omega) (by first | decide | omega) (by first | decide | omega) (fun _ _ h => h) (s_fiberInx ⟨hV, hZ.2⟩ hi rfl) (fun r_ M h_ hfr_ => ?_)
    obtain ⟨rfl, hV⟩ := h_
    refine g_astore d_D_cause_5 (by decide) ?_
    refine g_aload d_D_cause_7 rfl ?_
    refine g_ifnull 45 d_D_cause_9 (by decide) (fun c_9 => ?_) (fun a_9 c_9 => ?_)
    · exact absurd (Eq.trans (Eq.symm (rfl : some (ad S 4 i) = some _)) c_9) (by simp)
    · skip
      refine g_aload d_D_cause_12 rfl ?_
      refine v_geti (v := 1) (τ := i) 262 rfl hV (sl_4 hZ.2.1 hi) (by decide) (by decide) fl_D_98 rfl d_D_cause_14 rfl ((sf_262 hZ.2.1 hi).trans (by rw [h2]; rfl)) ?_
      refine g_if_eq 45 d_D_cause_17 (by decide) (fun c_17 => ?_) (fun c_17 => ?_)
      · exact absurd c_17 (by decide)
      · skip
        refine g_aload d_D_cause_20 rfl ?_
        refine v_getr (v := some a) (τ := i) 261 rfl hV (sl_4 hZ.2.1 hi) (by decide) (by decide) fl_D_136 rfl d_D_cause_22 rfl ea ?_
        refine g_ifnull 45 d_D_cause_25 (by decide) (fun c_25 => ?_) (fun a_25 c_25 => ?_)
        · exact absurd (Eq.trans (Eq.symm (rfl : some a = some _)) c_25) (by simp)
        · skip
          refine g_iload_n d_D_cause_28 rfl ?_
          refine g_if_lt 45 d_D_cause_29 (by decide) (fun c_29 => ?_) (fun c_29 => ?_)
          · exact absurd (show y < 0 from c_29) hy
          · skip
            refine g_iload_n d_D_cause_32 rfl ?_
            refine g_aload d_D_cause_33 rfl ?_
            refine v_getr (v := some a) (τ := i) 261 rfl hV (sl_4 hZ.2.1 hi) (by decide) (by decide) fl_D_136 rfl d_D_cause_35 rfl ea ?_
            refine v_ckind hV ka fl_D_140 d_D_cause_38 rfl (fun a_38 ha_38 => ?_)
            refine v_clen ha_38 d_D_cause_41 ?_
            refine g_icmp_lt 47 d_D_cause_42 (by decide) (fun c_42 => ?_) (fun c_42 => ?_)
            · skip
              refine g_iload_n d_D_cause_47 rfl ?_
              refine g_lookup (off := 39) 87 d_D_cause_48 (by decide) rfl (by decide) ?_
              refine g_aload d_D_cause_87 rfl ?_
              refine v_getr (v := some a) (τ := i) 261 rfl hV (sl_4 hZ.2.1 hi) (by decide) (by decide) fl_D_136 rfl d_D_cause_89 rfl ea ?_
              refine v_cnum hV ka fl_D_145 d_D_cause_92 rfl (fun a_92 ha_92 => ?_)
              refine g_iload_n d_D_cause_95 rfl ?_
              refine v_cld (j := (tn y)) ha_92 d_D_cause_96 (tn_of hy) hyj h9 ?_
              exact g_ireturn d_D_cause_97 rfl ⟨by rw [hg], hV⟩
            · exact absurd (show y < nI (rowL P i).length from hyl) c_42
  have t0 : ¬ wh.toInt = 0 := fun q => hw0 (Int32.toInt_inj.mp (by rw [q]; decide))
  have t1 : ¬ wh.toInt = 1 := fun q => hw1 (Int32.toInt_inj.mp (by rw [q]; decide))
  have hwn : a_R_in wh 0 1 = 0 := by
    unfold a_R_in
    by_cases a : wh < 0
    · rw [if_pos a]
    · rw [if_neg a, if_pos]
      rw [Int32.lt_iff_toInt_lt] at a ⊢
      have e0 : (0 : Int32).toInt = 0 := rfl
      have e1 : (1 : Int32).toInt = 1 := rfl
      omega
  have er : a_R_cause P (nI i) y wh = -1 := (op _).mpr (by rw [if_neg hny, if_pos hwn])
  rw [er]
  have hoff : Op.lookupswitch.offset (#[((0 : Int), (28 : Int)), (1, 39)].toList) 50 wh.toInt = 50 := by
    show Op.lookupswitch.offset [((0 : Int), (28 : Int)), (1, 39)] 50 wh.toInt = 50
    rw [Op.lookupswitch.offset_cons, Op.lookupswitch.offset_cons, if_neg (Ne.symm t0), if_neg (Ne.symm t1)]
    rfl
  refine g_aload_n d_D_cause_0 rfl ?_
  refine g_iload_n d_D_cause_1 rfl ?_
  refine g_callV (k1 := 0) (n1 := 0) [.int (nI i)] cw_D_94 cv_D_fiberAt d_D_cause_2 rfl (hV.kdo (sl_0 hZ.2.1) (by decide)) rfl rfl ⟨by simp, by simp⟩ (by first | decide | omega) (by first | decide | omega) (by first | decide | omega) (fun _ _ h => h) (s_fiberInx ⟨hV, hZ.2⟩ hi rfl) (fun r_ M h_ hfr_ => ?_)
  obtain ⟨rfl, hV⟩ := h_
  refine g_astore d_D_cause_5 (by decide) ?_
  refine g_aload d_D_cause_7 rfl ?_
  refine g_ifnull 45 d_D_cause_9 (by decide) (fun c_9 => ?_) (fun a_9 c_9 => ?_)
  · exact absurd (Eq.trans (Eq.symm (rfl : some (ad S 4 i) = some _)) c_9) (by simp)
  · skip
    refine g_aload d_D_cause_12 rfl ?_
    refine v_geti (v := 1) (τ := i) 262 rfl hV (sl_4 hZ.2.1 hi) (by decide) (by decide) fl_D_98 rfl d_D_cause_14 rfl ((sf_262 hZ.2.1 hi).trans (by rw [h2]; rfl)) ?_
    refine g_if_eq 45 d_D_cause_17 (by decide) (fun c_17 => ?_) (fun c_17 => ?_)
    · exact absurd c_17 (by decide)
    · skip
      refine g_aload d_D_cause_20 rfl ?_
      refine v_getr (v := some a) (τ := i) 261 rfl hV (sl_4 hZ.2.1 hi) (by decide) (by decide) fl_D_136 rfl d_D_cause_22 rfl ea ?_
      refine g_ifnull 45 d_D_cause_25 (by decide) (fun c_25 => ?_) (fun a_25 c_25 => ?_)
      · exact absurd (Eq.trans (Eq.symm (rfl : some a = some _)) c_25) (by simp)
      · skip
        refine g_iload_n d_D_cause_28 rfl ?_
        refine g_if_lt 45 d_D_cause_29 (by decide) (fun c_29 => ?_) (fun c_29 => ?_)
        · exact absurd (show y < 0 from c_29) hy
        · skip
          refine g_iload_n d_D_cause_32 rfl ?_
          refine g_aload d_D_cause_33 rfl ?_
          refine v_getr (v := some a) (τ := i) 261 rfl hV (sl_4 hZ.2.1 hi) (by decide) (by decide) fl_D_136 rfl d_D_cause_35 rfl ea ?_
          refine v_ckind hV ka fl_D_140 d_D_cause_38 rfl (fun a_38 ha_38 => ?_)
          refine v_clen ha_38 d_D_cause_41 ?_
          refine g_icmp_lt 47 d_D_cause_42 (by decide) (fun c_42 => ?_) (fun c_42 => ?_)
          · skip
            refine g_iload_n d_D_cause_47 rfl ?_
            refine g_lookup (off := 50) 98 d_D_cause_48 (by decide) hoff (by decide) ?_
            refine g_iconst (v := -1) d_D_cause_98 (by decide) ?_
            exact g_ireturn d_D_cause_99 rfl ⟨rfl, hV⟩
          · exact absurd (show y < nI (rowL P i).length from hyl) c_42
