/-! clearing all, the walks (by program: wip/tools/gen_s30.py) -/
set_option maxHeartbeats 1000000 in
set_option maxRecDepth 100000 in
theorem v_P_clear {S : Gs} {M : Mm} (hV : VM S M) {n : Nat} (h2 : lv S 2 n = true) (h1 : lv S 1 (1 + n) = true) (h5 : lv S 1 (5 + n) = true) (r1 : vr S 132 n = some (ad S 1 (1 + n))) (r5 : vr S 133 n = some (ad S 1 (5 + n))) : Run m_P_clear ownC 1 0 0 [va_rf (some (ad S 2 n))] M (fun r M' => r = none ∧ VM (plS S n) M') := by
  refine Run.ofG (by decide) (by simp [cat_int, cat_rf]) (Nat.le_of_ble_eq_true rfl) ?_
  refine g_aload_n d_P_clear_0 rfl ?_
  refine g_iconst (v := 0) d_P_clear_1 (by decide) ?_
  refine v_puti (τ := n) 128 rfl hV h2 (by decide) (by decide) fl_P_7 (Or.inr (fun r h => by cases h; rfl)) rfl d_P_clear_2 rfl (fun M hV => ?_)
  refine g_aload_n d_P_clear_5 rfl ?_
  refine g_iconst (v := 0) d_P_clear_6 (by decide) ?_
  refine v_putz (τ := n) 129 rfl hV (lv_i h2) (by decide) (by decide) fl_P_13 (Or.inr (fun r h => by cases h; rfl)) rfl (Or.inl rfl) d_P_clear_7 (ad_i rfl) (fun M hV => ?_)
  refine g_aload_n d_P_clear_10 rfl ?_
  refine g_iconst (v := 0) d_P_clear_11 (by decide) ?_
  refine v_puti (τ := n) 130 rfl hV (lv_i (lv_i h2)) (by decide) (by decide) fl_P_17 (Or.inr (fun r h => by cases h; rfl)) rfl d_P_clear_12 (ad_i (ad_i rfl)) (fun M hV => ?_)
  refine g_aload_n d_P_clear_15 rfl ?_
  refine g_iconst (v := 1) d_P_clear_16 (by decide) ?_
  refine v_puti (τ := n) 131 rfl hV (lv_i (lv_i (lv_i h2))) (by decide) (by decide) fl_P_20 (Or.inr (fun r h => by cases h; rfl)) rfl d_P_clear_17 (ad_i (ad_i (ad_i rfl))) (fun M hV => ?_)
  refine g_aload_n d_P_clear_20 rfl ?_
  refine v_getr (v := some (ad S 1 (1 + n))) (τ := n) 132 rfl hV (lv_i (lv_i (lv_i (lv_i h2)))) (by decide) (by decide) fl_P_26 rfl d_P_clear_21 (ad_i (ad_i (ad_i (ad_i rfl)))) ((vr_ui _ _ _ _ _ _).trans ((vr_ui _ _ _ _ _ _).trans ((vr_ui _ _ _ _ _ _).trans ((vr_ui _ _ _ _ _ _).trans r1)))) ?_
  refine g_callV (k1 := 0) (n1 := 0) [] cw_P_33 cv_L_clear d_P_clear_24 (ad_i (ad_i (ad_i (ad_i rfl)))) (hV.kdo (lv_i (lv_i (lv_i (lv_i h1)))) (by decide)) rfl rfl ⟨by simp, by simp⟩ (by first | decide | omega) (by first | decide | omega) (by first | decide | omega) (fun _ _ h => h) (v_L_clear hV (lv_i (lv_i (lv_i (lv_i h1))))) (fun r_ M h_ hfr_ => ?_)
  obtain ⟨rfl, hV⟩ := h_
  refine g_aload_n d_P_clear_27 rfl ?_
  refine v_getr (v := some (ad S 1 (5 + n))) (τ := n) 133 rfl hV (lv_i (lv_i (lv_i (lv_i (lv_i h2))))) (by decide) (by decide) fl_P_30 rfl d_P_clear_28 (ad_i (ad_i (ad_i (ad_i (ad_i rfl))))) ((vr_ui _ _ _ _ _ _).trans ((vr_ui _ _ _ _ _ _).trans ((vr_ui _ _ _ _ _ _).trans ((vr_ui _ _ _ _ _ _).trans ((vr_ui _ _ _ _ _ _).trans r5))))) ?_
  refine g_callV (k1 := 0) (n1 := 0) [] cw_P_33 cv_L_clear d_P_clear_31 (ad_i (ad_i (ad_i (ad_i (ad_i rfl))))) (hV.kdo (lv_i (lv_i (lv_i (lv_i (lv_i h5))))) (by decide)) rfl rfl ⟨by simp, by simp⟩ (by first | decide | omega) (by first | decide | omega) (by first | decide | omega) (fun _ _ h => h) (v_L_clear hV (lv_i (lv_i (lv_i (lv_i (lv_i h5)))))) (fun r_ M h_ hfr_ => ?_)
  obtain ⟨rfl, hV⟩ := h_
  exact g_return d_P_clear_34 rfl ⟨rfl, hV⟩
set_option maxHeartbeats 1000000 in
set_option maxRecDepth 100000 in
theorem v_D_placeAt {S : Gs} {M : Mm} (hV : VM S M) {n : Nat} (hn : n < 4) (h0 : lv S 0 0 = true) (h24 : lv S 24 0 = true) (r5 : vr S 5 0 = some (ad S 24 0)) (rn : vr S (1536 + n) 0 = some (ad S 2 n)) : Run m_D_placeAt ownC 0 0 0 [va_rf (some (ad S 0 0)), .int (nI n)] M (fun r M' => r = some (va_rf (some (ad S 2 n))) ∧ VM S M') := by
  refine Run.ofG (by decide) (by simp [cat_int, cat_rf]) (Nat.le_of_ble_eq_true rfl) ?_
  refine g_iload_n d_D_placeAt_0 rfl ?_
  refine g_if_lt 18 d_D_placeAt_1 (by decide) (fun c_1 => ?_) (fun c_1 => ?_)
  · exact absurd c_1 (nI_pos (by omega))
  · skip
    refine g_iload_n d_D_placeAt_4 rfl ?_
    refine g_iconst (v := 4) d_D_placeAt_5 (by decide) ?_
    refine g_icmp_ge 18 d_D_placeAt_6 (by decide) (fun c_6 => ?_) (fun c_6 => ?_)
    · exact absurd c_6 (ix_nle (a := 4) (b := n) rfl rfl hn (by decide))
    · skip
      refine g_aload_n d_D_placeAt_9 rfl ?_
      refine v_getr (v := some (ad S 24 0)) (τ := 0) 5 rfl hV h0 (by decide) (by decide) fl_D_37 rfl d_D_placeAt_10 rfl r5 ?_
      refine g_iload_n d_D_placeAt_13 rfl ?_
      refine v_aald (v := some (ad S 2 n)) (j := n) (τ := 0) (1536 + n) rfl hV h24 (by decide) d_D_placeAt_14 rfl rfl (by show _ < _; simp [ck]; omega) rn ?_
      refine g_goto 19 d_D_placeAt_15 (by decide) ?_
      exact g_areturn d_D_placeAt_19 rfl ⟨rfl, hV⟩
set_option maxHeartbeats 1000000 in
set_option maxRecDepth 100000 in
theorem l_clr {P : Pst} {LL : Lls} {S : Gs} {M M0 : Mm} (hZ : Zt P LL S M) : ∀ (r j : Nat) (M : Mm) (X : Option Value) (kb nb : Nat), j + r = 4 → VM (clS S j) M → G m_D_clearAll ownC M0 (fun r M' => r = none ∧ VM (alS S) M') 2 kb nb M 2 [some (va_rf (some (ad S 0 0))), some (.int (nI j)), X] []
  | 0, j, M, X, kb, nb, hr, hV => by
    have e := clS_ad S j
    have ej : j = 4 := by omega
    refine g_iload_n d_D_clearAll_2 rfl ?_
    refine g_iconst (v := 4) d_D_clearAll_3 (by decide) ?_
    refine g_icmp_ge 27 d_D_clearAll_4 (by decide) (fun c_4 => ?_) (fun c_4 => ?_)
    · skip
      refine g_aload_n d_D_clearAll_27 rfl ?_
      refine g_iconst (v := 0) d_D_clearAll_28 (by decide) ?_
      refine v_puti (τ := 0) 3 rfl hV (by rw [e.2.1]; exact sl_0 hZ.2.1) (by decide) (by decide) fl_D_25 (Or.inr (fun r h => by cases h; rfl)) rfl d_D_clearAll_29 (ad_e e.1) (fun M hV => ?_)
      refine g_aload_n d_D_clearAll_32 rfl ?_
      refine v_getr (v := some (ad S 1 0)) (τ := 0) 4 rfl hV (lv_i (by rw [e.2.1]; exact sl_0 hZ.2.1)) (by decide) (by decide) fl_D_31 rfl d_D_clearAll_33 (ad_i (ad_e e.1)) ((vr_ui _ _ _ _ _ _).trans (by rw [e.2.2.1]; exact sd_4 hZ.2.1)) ?_
      refine g_callV (k1 := 0) (n1 := 0) [] cw_D_186 cv_L_clear d_D_clearAll_36 (ad_i (ad_e e.1)) (hV.kdo (lv_i (by rw [e.2.1]; exact sl_1 hZ.2.1 (by decide))) (by decide)) rfl rfl ⟨by simp, by simp⟩ (by first | decide | omega) (by first | decide | omega) (by first | decide | omega) (fun _ _ h => h) (v_L_clear hV (lv_i (by rw [e.2.1]; exact sl_1 hZ.2.1 (by decide)))) (fun r_ M h_ hfr_ => ?_)
      obtain ⟨rfl, hV⟩ := h_
      refine g_aload_n d_D_clearAll_39 rfl ?_
      refine g_iconst (v := 0) d_D_clearAll_40 (by decide) ?_
      refine v_puti (τ := 0) 7 rfl hV (lv_i (lv_i (by rw [e.2.1]; exact sl_0 hZ.2.1))) (by decide) (by decide) fl_D_45 (Or.inr (fun r h => by cases h; rfl)) rfl d_D_clearAll_41 (ad_i (ad_i (ad_e e.1))) (fun M hV => ?_)
      refine g_aload_n d_D_clearAll_44 rfl ?_
      refine g_iconst (v := 0) d_D_clearAll_45 (by decide) ?_
      refine v_puti (τ := 0) 8 rfl hV (lv_i (lv_i (lv_i (by rw [e.2.1]; exact sl_0 hZ.2.1)))) (by decide) (by decide) fl_D_48 (Or.inr (fun r h => by cases h; rfl)) rfl d_D_clearAll_46 (ad_i (ad_i (ad_i (ad_e e.1)))) (fun M hV => ?_)
      refine g_aload_n d_D_clearAll_49 rfl ?_
      refine g_iconst (v := 0) d_D_clearAll_50 (by decide) ?_
      refine v_puti (τ := 0) 9 rfl hV (lv_i (lv_i (lv_i (lv_i (by rw [e.2.1]; exact sl_0 hZ.2.1))))) (by decide) (by decide) fl_D_51 (Or.inr (fun r h => by cases h; rfl)) rfl d_D_clearAll_51 (ad_i (ad_i (ad_i (ad_i (ad_e e.1))))) (fun M hV => ?_)
      refine g_aload_n d_D_clearAll_54 rfl ?_
      refine g_iconst (v := 0) d_D_clearAll_55 (by decide) ?_
      refine v_puti (τ := 0) 10 rfl hV (lv_i (lv_i (lv_i (lv_i (lv_i (by rw [e.2.1]; exact sl_0 hZ.2.1)))))) (by decide) (by decide) fl_D_54 (Or.inr (fun r h => by cases h; rfl)) rfl d_D_clearAll_56 (ad_i (ad_i (ad_i (ad_i (ad_i (ad_e e.1)))))) (fun M hV => ?_)
      refine g_aload_n d_D_clearAll_59 rfl ?_
      refine g_null d_D_clearAll_60 ?_
      refine v_putr (τ := 0) 11 rfl hV (lv_i (lv_i (lv_i (lv_i (lv_i (lv_i (by rw [e.2.1]; exact sl_0 hZ.2.1))))))) (by decide) (by decide) fl_D_57 (Or.inr (fun r h => by cases h; rfl)) rfl d_D_clearAll_61 (ad_i (ad_i (ad_i (ad_i (ad_i (ad_i (ad_e e.1))))))) (fun M hV => ?_)
      exact g_return d_D_clearAll_64 rfl ⟨rfl, by rw [ej] at hV; exact hV⟩
    · exact absurd c_4 (fun h => h (by rw [ej]; decide))
  | r + 1, j, M, X, kb, nb, hr, hV => by
    have e := clS_ad S j
    have hj4 : j < 4 := by omega
    refine g_iload_n d_D_clearAll_2 rfl ?_
    refine g_iconst (v := 4) d_D_clearAll_3 (by decide) ?_
    refine g_icmp_ge 27 d_D_clearAll_4 (by decide) (fun c_4 => ?_) (fun c_4 => ?_)
    · exact absurd c_4 (ix_nle (a := 4) (b := j) rfl rfl hj4 (by decide))
    · skip
      refine g_aload_n d_D_clearAll_7 rfl ?_
      refine g_iload_n d_D_clearAll_8 rfl ?_
      refine g_callV (k1 := kb) (n1 := nb) [.int (nI j)] cw_D_106 cv_D_placeAt d_D_clearAll_9 (ad_e e.1) (hV.kdo (by rw [e.2.1]; exact sl_0 hZ.2.1) (by decide)) rfl rfl ⟨by simp, by simp⟩ (by first | decide | omega) (by first | decide | omega) (by first | decide | omega) (fun _ _ h => h) (v_D_placeAt hV hj4 (by rw [e.2.1]; exact sl_0 hZ.2.1) (by rw [e.2.1]; exact sl_24 hZ.2.1) (by rw [e.2.2.1, e.1]; exact sd_5 hZ.2.1) (by rw [e.2.2.1, e.1]; exact sp_at hZ.2.1 hj4)) (fun r_ M h_ hfr_ => ?_)
      obtain ⟨rfl, hV⟩ := h_
      refine g_astore_n d_D_clearAll_12 (by decide) ?_
      refine g_aload_n d_D_clearAll_13 rfl ?_
      refine g_ifnull 21 d_D_clearAll_14 (by decide) (fun c_14 => ?_) (fun a_14 c_14 => ?_)
      · exact absurd (Eq.trans (Eq.symm (rfl : some (ad (clS S j) 2 j) = some _)) c_14) (by simp)
      · skip
        refine g_aload_n d_D_clearAll_17 rfl ?_
        refine g_callV (k1 := kb) (n1 := nb) [] cw_D_183 cv_P_clear d_D_clearAll_18 rfl (hV.kdo (by rw [e.2.1]; exact sl_2 hZ.2.1 hj4) (by decide)) rfl rfl ⟨by simp, by simp⟩ (by first | decide | omega) (by first | decide | omega) (by first | decide | omega) (fun _ _ h => h) (v_P_clear hV (by rw [e.2.1]; exact sl_2 hZ.2.1 hj4) (by rw [e.2.1]; exact sl_1 hZ.2.1 (by omega)) (by rw [e.2.1]; exact sl_1 hZ.2.1 (by omega)) (by rw [e.2.2.1, e.1]; exact sp_132 hZ.2.1 hj4) (by rw [e.2.2.1, e.1]; exact sp_133 hZ.2.1 hj4)) (fun r_ M h_ hfr_ => ?_)
        obtain ⟨rfl, hV⟩ := h_
        refine g_iinc (v := nI (j + 1)) d_D_clearAll_21 rfl (nI_1 _) (by decide) ?_
        refine g_goto 2 d_D_clearAll_24 (by decide) ?_
        exact l_clr hZ r (j + 1) M _ kb nb (by omega) hV
set_option maxHeartbeats 1000000 in
set_option maxRecDepth 100000 in
theorem s_D_clearAll {P : Pst} {LL : Lls} {S : Gs} {M : Mm} (hZ : Zt P LL S M) : Run m_D_clearAll ownC 2 0 0 [va_rf (some (ad S 0 0))] M (fun r M' => r = none ∧ Zt (stP P) (clL LL) (alS S) M') := by
  have hV := hZ.1
  refine Run.weak (Q := fun r M' => r = none ∧ VM (alS S) M') ?_ (fun r M' h _ => ⟨h.1, hZ.clear h.2⟩)
  refine Run.ofG (by decide) (by simp [cat_int, cat_rf]) (Nat.le_of_ble_eq_true rfl) ?_
  refine g_iconst (v := 0) d_D_clearAll_0 (by decide) ?_
  refine g_istore_n d_D_clearAll_1 (by decide) ?_
  exact l_clr hZ 4 0 M _ _ _ rfl hV
