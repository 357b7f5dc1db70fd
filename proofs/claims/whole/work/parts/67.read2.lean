/-! what the desk answers, 2 (by program: wip/tools/gen_s24.py) -/
theorem lnAt_in {l : List Nat} {x : Int32} (h : ¬ x < 0) (h2 : ¬ nI l.length ≤ x) : lnAt l x = nI (l.getD (tn x) 0) := by
  unfold lnAt
  rw [if_neg h, if_neg h2]
theorem qd_in {P : Pst} {n : Nat} (h43 : P 43 0 = nI n) (hn : n ≤ 10) (x : Int32) : a_R_in x 0 (P 43 0 - 1) = 0 ↔ (x < 0 ∨ nI n ≤ x) := by
  constructor
  · intro h
    by_cases hx : x < 0
    · exact Or.inl hx
    · refine Or.inr (Classical.byContradiction (fun q => ?_))
      have hlt : tn x < n := ix_lt_of (tn_of hx) rfl (by omega) q
      unfold a_R_in at h
      rw [if_neg hx, if_neg (ix_nlt (a := n - 1) (b := tn x) (ix_sub (y := 1) h43 (b := 1) rfl (by omega)) (tn_of hx) (by omega) (by omega))] at h
      exact absurd h (by decide)
  · intro h
    by_cases q : a_R_in x 0 (P 43 0 - 1) = 0
    · exact q
    · obtain ⟨e, l⟩ := in_nat1 (m := n) q h43 (by omega)
      rcases h with h | h
      · rw [e] at h; exact absurd h (nI_pos (by omega))
      · exact absurd h (ix_nle rfl e l (by omega))
set_option maxHeartbeats 1000000 in
set_option maxRecDepth 100000 in
theorem s_D_queued {P : Pst} {LL : Lls} {S : Gs} {M : Mm} (hZ : Zt P LL S M) (hs : ¬ LL 0 = [] → ¬ P 51 0 = 0) (hq : ∀ j, j < (LL 0).length → P 36 j = nI ((LL 0).getD j 0)) (x : Int32) : Run m_D_queued ownC 1 0 0 [va_rf (some (ad S 0 0)), .int x] M (fun r M' => r = some (.int (a_R_queued P x)) ∧ VM S M') := by
  have hl10 : (LL 0).length ≤ 10 := (ln hZ.2.1 (t := 0) (by decide)).2.2.2.2.1
  have hin := qd_in (P := P) (n := (LL 0).length) (by rw [← hZ.2.2.2]; exact (hZ.2.2.1 43 0).1) hl10 x
  have hV := hZ.1
  refine Run.ofG (by decide) (by simp [cat_int, cat_rf]) (Nat.le_of_ble_eq_true rfl) ?_
  refine g_iload_n d_D_queued_0 rfl ?_
  refine g_if_lt 26 d_D_queued_1 (by decide) (fun c_1 => ?_) (fun c_1 => ?_)
  · skip
    refine g_iconst (v := -1) d_D_queued_26 (by decide) ?_
    refine g_ireturn d_D_queued_27 rfl ⟨congrArg some (congrArg Value.int (Eq.symm ?_)), hV⟩
    unfold a_R_queued; rw [if_pos (hin.mpr (Or.inl c_1))]; split <;> rfl
  · skip
    refine g_iload_n d_D_queued_4 rfl ?_
    refine g_aload_n d_D_queued_5 rfl ?_
    refine v_getr (v := some (ad S 1 0)) (τ := 0) 4 rfl hV (sl_0 hZ.2.1) (by decide) (by decide) fl_D_31 rfl d_D_queued_6 rfl (sd_4 hZ.2.1) ?_
    refine v_geti (v := nI (LL 0).length) (τ := 0) 65 rfl hV (sl_1 hZ.2.1 (by decide)) (by decide) (by decide) fl_D_148 rfl d_D_queued_9 rfl (ln hZ.2.1 (by decide)).2.2.2.1 ?_
    refine g_icmp_ge 26 d_D_queued_12 (by decide) (fun c_12 => ?_) (fun c_12 => ?_)
    · skip
      refine g_iconst (v := -1) d_D_queued_26 (by decide) ?_
      refine g_ireturn d_D_queued_27 rfl ⟨congrArg some (congrArg Value.int (Eq.symm ?_)), hV⟩
      unfold a_R_queued; rw [if_pos (hin.mpr (Or.inr c_12))]; split <;> rfl
    · skip
      refine g_aload_n d_D_queued_15 rfl ?_
      refine v_getr (v := some (ad S 1 0)) (τ := 0) 4 rfl hV (sl_0 hZ.2.1) (by decide) (by decide) fl_D_31 rfl d_D_queued_16 rfl (sd_4 hZ.2.1) ?_
      refine g_iload_n d_D_queued_19 rfl ?_
      refine g_callV (k1 := 0) (n1 := 0) [.int (x)] cw_D_151 cv_L_at d_D_queued_20 rfl (hV.kdo (sl_1 hZ.2.1 (by decide)) (by decide)) rfl rfl ⟨by simp, by simp⟩ (by first | decide | omega) (by first | decide | omega) (by first | decide | omega) (fun _ _ h => h) (v_L_at hV (ln hZ.2.1 (t := 0) (by decide)) _) (fun r_ M h_ hfr_ => ?_)
      obtain ⟨rfl, hV⟩ := h_
      refine g_goto 27 d_D_queued_23 (by decide) ?_
      refine g_ireturn d_D_queued_27 rfl ⟨congrArg some (congrArg Value.int (Eq.symm ?_)), hV⟩
      rw [lnAt_in c_1 c_12]; unfold a_R_queued; rw [if_neg (hs (fun q => c_12 (by rw [q]; exact Int32.not_lt.mp c_1))), if_neg (fun q => by rcases hin.mp q with w | w; exact c_1 w; exact c_12 w)]; exact hq (tn x) (ix_lt_of (tn_of c_1) rfl (by omega) c_12)
set_option maxHeartbeats 1000000 in
set_option maxRecDepth 100000 in
theorem s_D_printed {P : Pst} {LL : Lls} {S : Gs} {M : Mm} (hZ : Zt P LL S M) (x : Int32) : Run m_D_printed ownC 0 0 0 [va_rf (some (ad S 0 0)), .int x] M (fun r M' => r = some (.int (a_R_printed P x)) ∧ VM S M') := by
  have hV := hZ.1
  refine Run.ofG (by decide) (by simp [cat_int, cat_rf]) (Nat.le_of_ble_eq_true rfl) ?_
  refine g_iload_n d_D_printed_0 rfl ?_
  refine g_if_lt 27 d_D_printed_1 (by decide) (fun c_1 => ?_) (fun c_1 => ?_)
  · skip
    refine g_iconst (v := 0) d_D_printed_27 (by decide) ?_
    refine g_ireturn d_D_printed_28 rfl ⟨congrArg some (congrArg Value.int (Eq.symm ?_)), hV⟩
    unfold a_R_printed a_R_in; rw [if_pos (show (if x < 0 then (0 : Int32) else if 23 < x then 0 else 1) = 0 by rw [if_pos c_1])]
  · skip
    refine g_iload_n d_D_printed_4 rfl ?_
    refine g_aload_n d_D_printed_5 rfl ?_
    refine v_geti (v := P 46 0) (τ := 0) 7 rfl hV (sl_0 hZ.2.1) (by decide) (by decide) fl_D_45 rfl d_D_printed_6 rfl (sd_7 hZ.2.1) ?_
    refine g_icmp_ge 27 d_D_printed_9 (by decide) (fun c_9 => ?_) (fun c_9 => ?_)
    · skip
      refine g_iconst (v := 0) d_D_printed_27 (by decide) ?_
      refine g_ireturn d_D_printed_28 rfl ⟨congrArg some (congrArg Value.int (Eq.symm ?_)), hV⟩
      unfold a_R_printed; rw [if_pos c_9]; split <;> rfl
    · skip
      refine g_iload_n d_D_printed_12 rfl ?_
      refine g_bipush (v := 24) d_D_printed_13 (by decide) ?_
      refine g_icmp_ge 27 d_D_printed_15 (by decide) (fun c_15 => ?_) (fun c_15 => ?_)
      · skip
        refine g_iconst (v := 0) d_D_printed_27 (by decide) ?_
        refine g_ireturn d_D_printed_28 rfl ⟨congrArg some (congrArg Value.int (Eq.symm ?_)), hV⟩
        unfold a_R_printed a_R_in; rw [if_pos (show (if x < 0 then (0 : Int32) else if 23 < x then 0 else 1) = 0 by rw [if_neg c_1, if_pos (show (23 : Int32) < x from Int32.not_le.mp (fun q => absurd (ix_le_of (a := 24) (b := 23) rfl rfl (by decide) (by decide) (Int32.le_trans c_15 q)) (by decide)))])]
      · have h24_ : tn x < 24 := ix_lt_of (b := 24) (tn_of c_1) rfl (by decide) c_15
        refine g_aload_n d_D_printed_18 rfl ?_
        refine v_getr (v := some (ad S 21 0)) (τ := 0) 6 rfl hV (sl_0 hZ.2.1) (by decide) (by decide) fl_D_41 rfl d_D_printed_19 rfl (sd_6 hZ.2.1) ?_
        refine g_iload_n d_D_printed_22 rfl ?_
        refine v_iald (v := P 40 (tn x)) (j := (tn x)) (τ := 0) (1344 + (tn x)) rfl hV (sl_21 hZ.2.1) (by decide) d_D_printed_23 rfl (tn_of c_1) (by show _ < _; simp [ck]; omega) (spr_at hZ.2.1 h24_) ?_
        refine g_goto 28 d_D_printed_24 (by decide) ?_
        have h24 : tn x < 24 := ix_lt_of (b := 24) (tn_of c_1) rfl (by decide) c_15
        refine g_ireturn d_D_printed_28 rfl ⟨congrArg some (congrArg Value.int (Eq.symm ?_)), hV⟩
        unfold a_R_printed a_R_in; rw [if_neg (show ¬ (if x < 0 then (0 : Int32) else if 23 < x then 0 else 1) = 0 by rw [if_neg c_1, if_neg (show ¬ (23 : Int32) < x from ix_nlt (a := 23) (b := tn x) rfl (tn_of c_1) (by omega) (by decide))]; decide), if_neg c_9]
set_option maxHeartbeats 1000000 in
set_option maxRecDepth 100000 in
theorem s_D_count {P : Pst} {LL : Lls} {S : Gs} {M : Mm} (hZ : Zt P LL S M) (hst : P 51 0 = 0 ↔ nfb P = 0) (hA : StA P) (wh : Int32) : Run m_D_count ownC 2 0 0 [va_rf (some (ad S 0 0)), .int wh] M (fun r M' => r = some (.int (a_R_count P wh)) ∧ VM S M') := by
  have hV := hZ.1
  refine Run.ofG (by decide) (by simp [cat_int, cat_rf]) (Nat.le_of_ble_eq_true rfl) ?_
  rcases sw8 wh with rfl | rfl | rfl | rfl | rfl | rfl | rfl | rfl | ⟨hout, n0, n1, n2, n3, n4, n5, n6, n7⟩
  · skip
    refine g_iload_n d_D_count_0 rfl ?_
    refine g_tableIn 48 d_D_count_1 (by decide) (by decide) rfl (by decide) ?_
    refine g_aload_n d_D_count_48 rfl ?_
    refine v_geti (v := P 4 0) (τ := 0) 1 rfl hV (sl_0 hZ.2.1) (by decide) (by decide) fl_D_15 rfl d_D_count_49 rfl (sd_1 hZ.2.1) ?_
    exact g_ireturn d_D_count_52 rfl ⟨rfl, hV⟩
  · skip
    refine g_iload_n d_D_count_0 rfl ?_
    refine g_tableIn 53 d_D_count_1 (by decide) (by decide) rfl (by decide) ?_
    refine g_aload_n d_D_count_53 rfl ?_
    refine v_geti (v := P 42 0) (τ := 0) 3 rfl hV (sl_0 hZ.2.1) (by decide) (by decide) fl_D_25 rfl d_D_count_54 rfl (sd_3 hZ.2.1) ?_
    exact g_ireturn d_D_count_57 rfl ⟨rfl, hV⟩
  · skip
    refine g_iload_n d_D_count_0 rfl ?_
    refine g_tableIn 58 d_D_count_1 (by decide) (by decide) rfl (by decide) ?_
    refine g_aload_n d_D_count_58 rfl ?_
    refine v_geti (v := P 44 0) (τ := 0) 8 rfl hV (sl_0 hZ.2.1) (by decide) (by decide) fl_D_48 rfl d_D_count_59 rfl (sd_8 hZ.2.1) ?_
    exact g_ireturn d_D_count_62 rfl ⟨rfl, hV⟩
  · skip
    refine g_iload_n d_D_count_0 rfl ?_
    refine g_tableIn 63 d_D_count_1 (by decide) (by decide) rfl (by decide) ?_
    refine g_aload_n d_D_count_63 rfl ?_
    refine v_geti (v := P 45 0) (τ := 0) 9 rfl hV (sl_0 hZ.2.1) (by decide) (by decide) fl_D_51 rfl d_D_count_64 rfl (sd_9 hZ.2.1) ?_
    exact g_ireturn d_D_count_67 rfl ⟨rfl, hV⟩
  · skip
    refine g_iload_n d_D_count_0 rfl ?_
    refine g_tableIn 68 d_D_count_1 (by decide) (by decide) rfl (by decide) ?_
    refine g_aload_n d_D_count_68 rfl ?_
    refine v_geti (v := P 46 0) (τ := 0) 7 rfl hV (sl_0 hZ.2.1) (by decide) (by decide) fl_D_45 rfl d_D_count_69 rfl (sd_7 hZ.2.1) ?_
    exact g_ireturn d_D_count_72 rfl ⟨rfl, hV⟩
  · skip
    refine g_iload_n d_D_count_0 rfl ?_
    refine g_tableIn 73 d_D_count_1 (by decide) (by decide) rfl (by decide) ?_
    refine g_aload_n d_D_count_73 rfl ?_
    refine v_geti (v := P 47 0) (τ := 0) 10 rfl hV (sl_0 hZ.2.1) (by decide) (by decide) fl_D_54 rfl d_D_count_74 rfl (sd_10 hZ.2.1) ?_
    exact g_ireturn d_D_count_77 rfl ⟨rfl, hV⟩
  · have h10_ := n10 hZ.2.2.1
    rcases hZ.2.2.1 48 0 with h48 | h48
    · skip
      refine g_iload_n d_D_count_0 rfl ?_
      refine g_tableIn 78 d_D_count_1 (by decide) (by decide) rfl (by decide) ?_
      refine g_aload_n d_D_count_78 rfl ?_
      refine v_getr (v := none) (τ := 0) 11 rfl hV (sl_0 hZ.2.1) (by decide) (by decide) fl_D_57 rfl d_D_count_79 rfl ((sd_11 hZ.2.1).trans (if_pos (by rw [h48]; decide))) ?_
      refine g_ifnonnull 89 d_D_count_82 (by decide) (fun a_82 c_82 => ?_) (fun c_82 => ?_)
      · exact absurd c_82 (by simp)
      · skip
        refine g_iconst (v := -1) d_D_count_85 (by decide) ?_
        refine g_goto 96 d_D_count_86 (by decide) ?_
        exact g_ireturn d_D_count_96 rfl ⟨by show _ = some (Value.int (P 48 0)); rw [h48], hV⟩
    · have n48 : ¬ P 48 0 < 0 := sm_n0 h48 (by decide)
      have hi := (sd_12 hZ.2.1 n48).1
      refine g_iload_n d_D_count_0 rfl ?_
      refine g_tableIn 78 d_D_count_1 (by decide) (by decide) rfl (by decide) ?_
      refine g_aload_n d_D_count_78 rfl ?_
      refine v_getr (v := some (ad S 4 (tn (P 48 0)))) (τ := 0) 11 rfl hV (sl_0 hZ.2.1) (by decide) (by decide) fl_D_57 rfl d_D_count_79 rfl ((sd_11 hZ.2.1).trans (if_neg n48)) ?_
      refine g_ifnonnull 89 d_D_count_82 (by decide) (fun a_82 c_82 => ?_) (fun c_82 => ?_)
      · skip
        refine g_aload_n d_D_count_89 rfl ?_
        refine v_getr (v := some (ad S 4 (tn (P 48 0)))) (τ := 0) 11 rfl hV (sl_0 hZ.2.1) (by decide) (by decide) fl_D_57 rfl d_D_count_90 rfl ((sd_11 hZ.2.1).trans (if_neg n48)) ?_
        refine v_geti (v := nI (tn (P 48 0))) (τ := (tn (P 48 0))) 256 rfl hV (sl_4 hZ.2.1 hi) (by decide) (by decide) fl_D_173 rfl d_D_count_93 rfl (sf_256 hZ.2.1 hi) ?_
        exact g_ireturn d_D_count_96 rfl ⟨by show _ = some (Value.int (P 48 0)); exact congrArg some (congrArg Value.int h48.1.symm), hV⟩
      · exact absurd (Eq.trans (Eq.symm (rfl : some (ad S 4 (tn (P 48 0))) = some _)) c_82) (by simp)
  · skip
    refine g_iload_n d_D_count_0 rfl ?_
    refine g_tableIn 97 d_D_count_1 (by decide) (by decide) rfl (by decide) ?_
    refine g_aload_n d_D_count_97 rfl ?_
    refine v_geti (v := P 42 0) (τ := 0) 3 rfl hV (sl_0 hZ.2.1) (by decide) (by decide) fl_D_25 rfl d_D_count_98 rfl (sd_3 hZ.2.1) ?_
    refine g_if_ne 108 d_D_count_101 (by decide) (fun c_101 => ?_) (fun c_101 => ?_)
    · skip
      refine g_aload_n d_D_count_108 rfl ?_
      refine g_callV (k1 := 0) (n1 := 0) [] cw_D_90 cv_D_standing d_D_count_109 rfl (hV.kdo (sl_0 hZ.2.1) (by decide)) rfl rfl ⟨by simp, by simp⟩ (by first | decide | omega) (by first | decide | omega) (by first | decide | omega) (fun _ _ h => h) (s_D_standing hZ hA) (fun r_ M h_ hfr_ => ?_)
      obtain ⟨rfl, hV⟩ := h_
      exact g_ireturn d_D_count_112 rfl ⟨by show _ = some (Value.int (if P 51 0 = 0 then -1 else a_R_stands P)); rw [if_neg (fun q => c_101 (by rw [nf_nI hZ.2.2.1, hst.mp q]; rfl))], hV⟩
    · skip
      refine g_iconst (v := -1) d_D_count_104 (by decide) ?_
      refine g_goto 112 d_D_count_105 (by decide) ?_
      exact g_ireturn d_D_count_112 rfl ⟨by show _ = some (Value.int (if P 51 0 = 0 then -1 else a_R_stands P)); rw [if_pos (hst.mpr (by show tn (P 42 0) = 0; rw [c_101]; rfl))], hV⟩
  · skip
    refine g_iload_n d_D_count_0 rfl ?_
    refine g_tableOut 113 d_D_count_1 hout (by decide) ?_
    refine g_iconst (v := -1) d_D_count_113 (by decide) ?_
    exact g_ireturn d_D_count_114 rfl ⟨by unfold a_R_count; rw [if_neg n0, if_neg n1, if_neg n2, if_neg n3, if_neg n4, if_neg n5, if_neg n6, if_neg n7], hV⟩
set_option maxHeartbeats 1000000 in
set_option maxRecDepth 100000 in
theorem s_D_cell {P : Pst} {LL : Lls} {S : Gs} {M : Mm} (hZ : Zt P LL S M) (hst : P 51 0 = 0 ↔ nfb P = 0) (hw4 : ∀ n, n < 4 → a_R_waiting P 5 (nI n) = nI (LL (1 + n)).length) (hw5 : ∀ n, n < 4 → a_R_waiting P 6 (nI n) = nI (LL (5 + n)).length) (x wh : Int32) : Run m_D_cell ownC 1 0 0 [va_rf (some (ad S 0 0)), .int x, .int wh] M (fun r M' => r = some (.int (a_R_cell P x wh)) ∧ VM S M') := by
  have hV := hZ.1
  refine Run.ofG (by decide) (by simp [cat_int, cat_rf]) (Nat.le_of_ble_eq_true rfl) ?_
  rcases pl_cases x with ho | ⟨n, hn, rfl⟩
  · have e0 : a_R_in x 0 3 = 0 := by
      unfold a_R_in
      rcases ho with h | h
      · rw [if_pos h]
      · rw [if_neg h.1, if_pos (show (3 : Int32) < x from Int32.not_le.mp (fun q => absurd (ix_le_of (a := 4) (b := 3) rfl rfl (by decide) (by decide) (Int32.le_trans h.2 q)) (by decide)))]
    have ea : a_R_cell P x wh = -1 := by unfold a_R_cell; rw [if_pos e0]; split <;> rfl
    rw [ea]
    have hpo : plAt S x = none := by unfold plAt; rcases ho with h | h; (rw [if_pos h]); (rw [if_neg h.1, if_pos h.2])
    refine g_aload_n d_D_cell_0 rfl ?_
    refine g_iload_n d_D_cell_1 rfl ?_
    refine g_callV (k1 := 0) (n1 := 0) [.int (x)] cw_D_106 cv_D_placeAt d_D_cell_2 rfl (hV.kdo (sl_0 hZ.2.1) (by decide)) rfl rfl ⟨by simp, by simp⟩ (by first | decide | omega) (by first | decide | omega) (by first | decide | omega) (fun _ _ h => h) (s_D_placeAt ⟨hV, hZ.2⟩ _) (fun r_ M h_ hfr_ => ?_)
    obtain ⟨rfl, hV⟩ := h_
    rw [hpo]
    refine g_astore_n d_D_cell_5 (by decide) ?_
    refine g_aload_n d_D_cell_6 rfl ?_
    refine g_ifnull 17 d_D_cell_7 (by decide) (fun c_7 => ?_) (fun a_7 c_7 => ?_)
    · skip
      refine g_iconst (v := -1) d_D_cell_17 (by decide) ?_
      exact g_ireturn d_D_cell_18 rfl ⟨rfl, hV⟩
    · exact absurd c_7 (by simp)
  have hin : ¬ a_R_in (nI n) 0 3 = 0 := by unfold a_R_in; rw [if_neg (nI_pos (by omega)), if_neg (show ¬ (3 : Int32) < nI n from ix_nlt (a := 3) (b := n) rfl rfl (by omega) (by decide))]; decide
  have htn : tn (nI n) = n := tn_nI (by omega)
  by_cases h42 : P 42 0 = 0
  · have hs0 : P 51 0 = 0 := hst.mpr (by show tn (P 42 0) = 0; rw [h42]; rfl)
    have ea : a_R_cell P (nI n) wh = -1 := by unfold a_R_cell; rw [if_pos hs0]
    rw [ea]
    refine g_aload_n d_D_cell_0 rfl ?_
    refine g_iload_n d_D_cell_1 rfl ?_
    refine g_callV (k1 := 0) (n1 := 0) [.int (nI n)] cw_D_106 cv_D_placeAt d_D_cell_2 rfl (hV.kdo (sl_0 hZ.2.1) (by decide)) rfl rfl ⟨by simp, by simp⟩ (by first | decide | omega) (by first | decide | omega) (by first | decide | omega) (fun _ _ h => h) (s_placeIn ⟨hV, hZ.2⟩ hn) (fun r_ M h_ hfr_ => ?_)
    obtain ⟨rfl, hV⟩ := h_
    refine g_astore_n d_D_cell_5 (by decide) ?_
    refine g_aload_n d_D_cell_6 rfl ?_
    refine g_ifnull 17 d_D_cell_7 (by decide) (fun c_7 => ?_) (fun a_7 c_7 => ?_)
    · exact absurd (Eq.trans (Eq.symm (rfl : some (ad S 2 n) = some _)) c_7) (by simp)
    · skip
      refine g_aload_n d_D_cell_10 rfl ?_
      refine v_geti (v := P 42 0) (τ := 0) 3 rfl hV (sl_0 hZ.2.1) (by decide) (by decide) fl_D_25 rfl d_D_cell_11 rfl (sd_3 hZ.2.1) ?_
      refine g_if_ne 19 d_D_cell_14 (by decide) (fun c_14 => ?_) (fun c_14 => ?_)
      · exact absurd (show P 42 0 = 0 from h42) c_14
      · skip
        refine g_iconst (v := -1) d_D_cell_17 (by decide) ?_
        exact g_ireturn d_D_cell_18 rfl ⟨rfl, hV⟩
  have hs : ¬ P 51 0 = 0 := fun q => h42 (by rw [nf_nI hZ.2.2.1, hst.mp q]; rfl)
  rcases sw6 wh with rfl | rfl | rfl | rfl | rfl | rfl | ⟨hout, n0, n1, n2, n3, n4, n5⟩
  · skip
    refine g_aload_n d_D_cell_0 rfl ?_
    refine g_iload_n d_D_cell_1 rfl ?_
    refine g_callV (k1 := 0) (n1 := 0) [.int (nI n)] cw_D_106 cv_D_placeAt d_D_cell_2 rfl (hV.kdo (sl_0 hZ.2.1) (by decide)) rfl rfl ⟨by simp, by simp⟩ (by first | decide | omega) (by first | decide | omega) (by first | decide | omega) (fun _ _ h => h) (s_placeIn ⟨hV, hZ.2⟩ hn) (fun r_ M h_ hfr_ => ?_)
    obtain ⟨rfl, hV⟩ := h_
    refine g_astore_n d_D_cell_5 (by decide) ?_
    refine g_aload_n d_D_cell_6 rfl ?_
    refine g_ifnull 17 d_D_cell_7 (by decide) (fun c_7 => ?_) (fun a_7 c_7 => ?_)
    · exact absurd (Eq.trans (Eq.symm (rfl : some (ad S 2 n) = some _)) c_7) (by simp)
    · skip
      refine g_aload_n d_D_cell_10 rfl ?_
      refine v_geti (v := P 42 0) (τ := 0) 3 rfl hV (sl_0 hZ.2.1) (by decide) (by decide) fl_D_25 rfl d_D_cell_11 rfl (sd_3 hZ.2.1) ?_
      refine g_if_ne 19 d_D_cell_14 (by decide) (fun c_14 => ?_) (fun c_14 => ?_)
      · skip
        refine g_iload_n d_D_cell_19 rfl ?_
        refine g_tableIn 60 d_D_cell_20 (by decide) (by decide) rfl (by decide) ?_
        refine g_aload_n d_D_cell_60 rfl ?_
        refine v_geti (v := P 37 n) (τ := n) 128 rfl hV (sl_2 hZ.2.1 hn) (by decide) (by decide) fl_D_155 rfl d_D_cell_61 rfl (sp_128 hZ.2.1 hn hs) ?_
        refine g_ireturn d_D_cell_64 rfl ⟨congrArg some (congrArg Value.int (Eq.symm ?_)), hV⟩
        unfold a_R_cell; rw [if_neg hs, if_neg hin, htn, if_pos (show (0 : Int32) = 0 from rfl)]
      · exact absurd (show P 42 0 = 0 from c_14) h42
  · skip
    refine g_aload_n d_D_cell_0 rfl ?_
    refine g_iload_n d_D_cell_1 rfl ?_
    refine g_callV (k1 := 0) (n1 := 0) [.int (nI n)] cw_D_106 cv_D_placeAt d_D_cell_2 rfl (hV.kdo (sl_0 hZ.2.1) (by decide)) rfl rfl ⟨by simp, by simp⟩ (by first | decide | omega) (by first | decide | omega) (by first | decide | omega) (fun _ _ h => h) (s_placeIn ⟨hV, hZ.2⟩ hn) (fun r_ M h_ hfr_ => ?_)
    obtain ⟨rfl, hV⟩ := h_
    refine g_astore_n d_D_cell_5 (by decide) ?_
    refine g_aload_n d_D_cell_6 rfl ?_
    refine g_ifnull 17 d_D_cell_7 (by decide) (fun c_7 => ?_) (fun a_7 c_7 => ?_)
    · exact absurd (Eq.trans (Eq.symm (rfl : some (ad S 2 n) = some _)) c_7) (by simp)
    · skip
      refine g_aload_n d_D_cell_10 rfl ?_
      refine v_geti (v := P 42 0) (τ := 0) 3 rfl hV (sl_0 hZ.2.1) (by decide) (by decide) fl_D_25 rfl d_D_cell_11 rfl (sd_3 hZ.2.1) ?_
      refine g_if_ne 19 d_D_cell_14 (by decide) (fun c_14 => ?_) (fun c_14 => ?_)
      · skip
        refine g_iload_n d_D_cell_19 rfl ?_
        refine g_tableIn 65 d_D_cell_20 (by decide) (by decide) rfl (by decide) ?_
        refine g_aload_n d_D_cell_65 rfl ?_
        refine v_geti (v := P 41 n) (τ := n) 129 rfl hV (sl_2 hZ.2.1 hn) (by decide) (by decide) fl_D_158 rfl d_D_cell_66 rfl (sp_129 hZ.2.1 hn hs) ?_
        refine g_if_eq 76 d_D_cell_69 (by decide) (fun c_69 => ?_) (fun c_69 => ?_)
        · skip
          refine g_iconst (v := 0) d_D_cell_76 (by decide) ?_
          refine g_ireturn d_D_cell_77 rfl ⟨congrArg some (congrArg Value.int (Eq.symm ?_)), hV⟩
          unfold a_R_cell; rw [if_neg hs, if_neg hin, htn, if_neg (show ¬ ((1 : Int32) = 0) by decide), if_pos (show (1 : Int32) = 1 from rfl), if_pos c_69]
        · skip
          refine g_iconst (v := 1) d_D_cell_72 (by decide) ?_
          refine g_goto 77 d_D_cell_73 (by decide) ?_
          refine g_ireturn d_D_cell_77 rfl ⟨congrArg some (congrArg Value.int (Eq.symm ?_)), hV⟩
          unfold a_R_cell; rw [if_neg hs, if_neg hin, htn, if_neg (show ¬ ((1 : Int32) = 0) by decide), if_pos (show (1 : Int32) = 1 from rfl), if_neg c_69]
      · exact absurd (show P 42 0 = 0 from c_14) h42
  · skip
    refine g_aload_n d_D_cell_0 rfl ?_
    refine g_iload_n d_D_cell_1 rfl ?_
    refine g_callV (k1 := 0) (n1 := 0) [.int (nI n)] cw_D_106 cv_D_placeAt d_D_cell_2 rfl (hV.kdo (sl_0 hZ.2.1) (by decide)) rfl rfl ⟨by simp, by simp⟩ (by first | decide | omega) (by first | decide | omega) (by first | decide | omega) (fun _ _ h => h) (s_placeIn ⟨hV, hZ.2⟩ hn) (fun r_ M h_ hfr_ => ?_)
    obtain ⟨rfl, hV⟩ := h_
    refine g_astore_n d_D_cell_5 (by decide) ?_
    refine g_aload_n d_D_cell_6 rfl ?_
    refine g_ifnull 17 d_D_cell_7 (by decide) (fun c_7 => ?_) (fun a_7 c_7 => ?_)
    · exact absurd (Eq.trans (Eq.symm (rfl : some (ad S 2 n) = some _)) c_7) (by simp)
    · skip
      refine g_aload_n d_D_cell_10 rfl ?_
      refine v_geti (v := P 42 0) (τ := 0) 3 rfl hV (sl_0 hZ.2.1) (by decide) (by decide) fl_D_25 rfl d_D_cell_11 rfl (sd_3 hZ.2.1) ?_
      refine g_if_ne 19 d_D_cell_14 (by decide) (fun c_14 => ?_) (fun c_14 => ?_)
      · skip
        refine g_iload_n d_D_cell_19 rfl ?_
        refine g_tableIn 78 d_D_cell_20 (by decide) (by decide) rfl (by decide) ?_
        refine g_aload_n d_D_cell_78 rfl ?_
        refine v_geti (v := P 38 n) (τ := n) 130 rfl hV (sl_2 hZ.2.1 hn) (by decide) (by decide) fl_D_161 rfl d_D_cell_79 rfl (sp_130 hZ.2.1 hn hs) ?_
        refine g_ireturn d_D_cell_82 rfl ⟨congrArg some (congrArg Value.int (Eq.symm ?_)), hV⟩
        unfold a_R_cell; rw [if_neg hs, if_neg hin, htn, if_neg (show ¬ ((2 : Int32) = 0) by decide), if_neg (show ¬ ((2 : Int32) = 1) by decide), if_pos (show (2 : Int32) = 2 from rfl)]
      · exact absurd (show P 42 0 = 0 from c_14) h42
  · skip
    refine g_aload_n d_D_cell_0 rfl ?_
    refine g_iload_n d_D_cell_1 rfl ?_
    refine g_callV (k1 := 0) (n1 := 0) [.int (nI n)] cw_D_106 cv_D_placeAt d_D_cell_2 rfl (hV.kdo (sl_0 hZ.2.1) (by decide)) rfl rfl ⟨by simp, by simp⟩ (by first | decide | omega) (by first | decide | omega) (by first | decide | omega) (fun _ _ h => h) (s_placeIn ⟨hV, hZ.2⟩ hn) (fun r_ M h_ hfr_ => ?_)
    obtain ⟨rfl, hV⟩ := h_
    refine g_astore_n d_D_cell_5 (by decide) ?_
    refine g_aload_n d_D_cell_6 rfl ?_
    refine g_ifnull 17 d_D_cell_7 (by decide) (fun c_7 => ?_) (fun a_7 c_7 => ?_)
    · exact absurd (Eq.trans (Eq.symm (rfl : some (ad S 2 n) = some _)) c_7) (by simp)
    · skip
      refine g_aload_n d_D_cell_10 rfl ?_
      refine v_geti (v := P 42 0) (τ := 0) 3 rfl hV (sl_0 hZ.2.1) (by decide) (by decide) fl_D_25 rfl d_D_cell_11 rfl (sd_3 hZ.2.1) ?_
      refine g_if_ne 19 d_D_cell_14 (by decide) (fun c_14 => ?_) (fun c_14 => ?_)
      · skip
        refine g_iload_n d_D_cell_19 rfl ?_
        refine g_tableIn 83 d_D_cell_20 (by decide) (by decide) rfl (by decide) ?_
        refine g_aload_n d_D_cell_83 rfl ?_
        refine v_geti (v := P 39 n) (τ := n) 131 rfl hV (sl_2 hZ.2.1 hn) (by decide) (by decide) fl_D_164 rfl d_D_cell_84 rfl (sp_131 hZ.2.1 hn hs) ?_
        refine g_ireturn d_D_cell_87 rfl ⟨congrArg some (congrArg Value.int (Eq.symm ?_)), hV⟩
        unfold a_R_cell; rw [if_neg hs, if_neg hin, htn, if_neg (show ¬ ((3 : Int32) = 0) by decide), if_neg (show ¬ ((3 : Int32) = 1) by decide), if_neg (show ¬ ((3 : Int32) = 2) by decide), if_pos (show (3 : Int32) = 3 from rfl)]
      · exact absurd (show P 42 0 = 0 from c_14) h42
  · skip
    refine g_aload_n d_D_cell_0 rfl ?_
    refine g_iload_n d_D_cell_1 rfl ?_
    refine g_callV (k1 := 0) (n1 := 0) [.int (nI n)] cw_D_106 cv_D_placeAt d_D_cell_2 rfl (hV.kdo (sl_0 hZ.2.1) (by decide)) rfl rfl ⟨by simp, by simp⟩ (by first | decide | omega) (by first | decide | omega) (by first | decide | omega) (fun _ _ h => h) (s_placeIn ⟨hV, hZ.2⟩ hn) (fun r_ M h_ hfr_ => ?_)
    obtain ⟨rfl, hV⟩ := h_
    refine g_astore_n d_D_cell_5 (by decide) ?_
    refine g_aload_n d_D_cell_6 rfl ?_
    refine g_ifnull 17 d_D_cell_7 (by decide) (fun c_7 => ?_) (fun a_7 c_7 => ?_)
    · exact absurd (Eq.trans (Eq.symm (rfl : some (ad S 2 n) = some _)) c_7) (by simp)
    · skip
      refine g_aload_n d_D_cell_10 rfl ?_
      refine v_geti (v := P 42 0) (τ := 0) 3 rfl hV (sl_0 hZ.2.1) (by decide) (by decide) fl_D_25 rfl d_D_cell_11 rfl (sd_3 hZ.2.1) ?_
      refine g_if_ne 19 d_D_cell_14 (by decide) (fun c_14 => ?_) (fun c_14 => ?_)
      · skip
        refine g_iload_n d_D_cell_19 rfl ?_
        refine g_tableIn 88 d_D_cell_20 (by decide) (by decide) rfl (by decide) ?_
        refine g_aload_n d_D_cell_88 rfl ?_
        refine v_getr (v := some (ad S 1 (1 + n))) (τ := n) 132 rfl hV (sl_2 hZ.2.1 hn) (by decide) (by decide) fl_D_167 rfl d_D_cell_89 rfl (sp_132 hZ.2.1 hn) ?_
        refine v_geti (v := nI (LL (1 + n)).length) (τ := (1 + n)) 65 rfl hV (sl_1 hZ.2.1 (by omega)) (by decide) (by decide) fl_D_148 rfl d_D_cell_92 rfl (ln hZ.2.1 (by omega)).2.2.2.1 ?_
        refine g_ireturn d_D_cell_95 rfl ⟨congrArg some (congrArg Value.int (Eq.symm ?_)), hV⟩
        unfold a_R_cell; rw [if_neg hs, if_neg hin, htn, if_neg (show ¬ ((4 : Int32) = 0) by decide), if_neg (show ¬ ((4 : Int32) = 1) by decide), if_neg (show ¬ ((4 : Int32) = 2) by decide), if_neg (show ¬ ((4 : Int32) = 3) by decide), if_pos (show (4 : Int32) = 4 from rfl), hw4 n hn]
      · exact absurd (show P 42 0 = 0 from c_14) h42
  · skip
    refine g_aload_n d_D_cell_0 rfl ?_
    refine g_iload_n d_D_cell_1 rfl ?_
    refine g_callV (k1 := 0) (n1 := 0) [.int (nI n)] cw_D_106 cv_D_placeAt d_D_cell_2 rfl (hV.kdo (sl_0 hZ.2.1) (by decide)) rfl rfl ⟨by simp, by simp⟩ (by first | decide | omega) (by first | decide | omega) (by first | decide | omega) (fun _ _ h => h) (s_placeIn ⟨hV, hZ.2⟩ hn) (fun r_ M h_ hfr_ => ?_)
    obtain ⟨rfl, hV⟩ := h_
    refine g_astore_n d_D_cell_5 (by decide) ?_
    refine g_aload_n d_D_cell_6 rfl ?_
    refine g_ifnull 17 d_D_cell_7 (by decide) (fun c_7 => ?_) (fun a_7 c_7 => ?_)
    · exact absurd (Eq.trans (Eq.symm (rfl : some (ad S 2 n) = some _)) c_7) (by simp)
    · skip
      refine g_aload_n d_D_cell_10 rfl ?_
      refine v_geti (v := P 42 0) (τ := 0) 3 rfl hV (sl_0 hZ.2.1) (by decide) (by decide) fl_D_25 rfl d_D_cell_11 rfl (sd_3 hZ.2.1) ?_
      refine g_if_ne 19 d_D_cell_14 (by decide) (fun c_14 => ?_) (fun c_14 => ?_)
      · skip
        refine g_iload_n d_D_cell_19 rfl ?_
        refine g_tableIn 96 d_D_cell_20 (by decide) (by decide) rfl (by decide) ?_
        refine g_aload_n d_D_cell_96 rfl ?_
        refine v_getr (v := some (ad S 1 (5 + n))) (τ := n) 133 rfl hV (sl_2 hZ.2.1 hn) (by decide) (by decide) fl_D_170 rfl d_D_cell_97 rfl (sp_133 hZ.2.1 hn) ?_
        refine v_geti (v := nI (LL (5 + n)).length) (τ := (5 + n)) 65 rfl hV (sl_1 hZ.2.1 (by omega)) (by decide) (by decide) fl_D_148 rfl d_D_cell_100 rfl (ln hZ.2.1 (by omega)).2.2.2.1 ?_
        refine g_ireturn d_D_cell_103 rfl ⟨congrArg some (congrArg Value.int (Eq.symm ?_)), hV⟩
        unfold a_R_cell; rw [if_neg hs, if_neg hin, htn, if_neg (show ¬ ((5 : Int32) = 0) by decide), if_neg (show ¬ ((5 : Int32) = 1) by decide), if_neg (show ¬ ((5 : Int32) = 2) by decide), if_neg (show ¬ ((5 : Int32) = 3) by decide), if_neg (show ¬ ((5 : Int32) = 4) by decide), if_pos (show (5 : Int32) = 5 from rfl), hw5 n hn]
      · exact absurd (show P 42 0 = 0 from c_14) h42
  · skip
    refine g_aload_n d_D_cell_0 rfl ?_
    refine g_iload_n d_D_cell_1 rfl ?_
    refine g_callV (k1 := 0) (n1 := 0) [.int (nI n)] cw_D_106 cv_D_placeAt d_D_cell_2 rfl (hV.kdo (sl_0 hZ.2.1) (by decide)) rfl rfl ⟨by simp, by simp⟩ (by first | decide | omega) (by first | decide | omega) (by first | decide | omega) (fun _ _ h => h) (s_placeIn ⟨hV, hZ.2⟩ hn) (fun r_ M h_ hfr_ => ?_)
    obtain ⟨rfl, hV⟩ := h_
    refine g_astore_n d_D_cell_5 (by decide) ?_
    refine g_aload_n d_D_cell_6 rfl ?_
    refine g_ifnull 17 d_D_cell_7 (by decide) (fun c_7 => ?_) (fun a_7 c_7 => ?_)
    · exact absurd (Eq.trans (Eq.symm (rfl : some (ad S 2 n) = some _)) c_7) (by simp)
    · skip
      refine g_aload_n d_D_cell_10 rfl ?_
      refine v_geti (v := P 42 0) (τ := 0) 3 rfl hV (sl_0 hZ.2.1) (by decide) (by decide) fl_D_25 rfl d_D_cell_11 rfl (sd_3 hZ.2.1) ?_
      refine g_if_ne 19 d_D_cell_14 (by decide) (fun c_14 => ?_) (fun c_14 => ?_)
      · skip
        refine g_iload_n d_D_cell_19 rfl ?_
        refine g_tableOut 104 d_D_cell_20 hout (by decide) ?_
        refine g_iconst (v := -1) d_D_cell_104 (by decide) ?_
        refine g_ireturn d_D_cell_105 rfl ⟨congrArg some (congrArg Value.int (Eq.symm ?_)), hV⟩
        unfold a_R_cell; rw [if_neg hs, if_neg hin, htn, if_neg n0, if_neg n1, if_neg n2, if_neg n3, if_neg n4, if_neg n5]
      · exact absurd (show P 42 0 = 0 from c_14) h42
