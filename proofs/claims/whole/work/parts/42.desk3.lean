/-! dying, putting out, making fibers (by program: wip/tools/gen_s3.py) -/
theorem isK_ext {M : Mm} {q : Nat} (hq : kd M q = none) (e : Option Nat) (v : Int32) (z : Option Nat) : Ext (fun _ => False) M (sr (si (sr (nw M q 6 0 3) q 384 e) q 385 v) q 386 z) := Ext_new hq (((Ext.sr (Ext.si (Ext.sr (Ext.refl (fun b => b = q) _) (Or.inl rfl) _ _) (Or.inl rfl) _ _) (Or.inl rfl) _ _)))
theorem isK_init (M : Mm) (q : Nat) (e : Option Nat) (v : Int32) (z : Option Nat) : IsK (sr (si (sr (nw M q 6 0 3) q 384 e) q 385 v) q 386 z) q (e, v, z) := by
  refine ⟨0, ?_, ?_, ?_, ?_⟩
  · rw [kd_sr, kd_si, kd_sr, kd_nw_s]
  · rw [gr_sr_f (by decide), gr_si, gr_sr_s]
  · rw [gi_sr, gi_si_s]
  · rw [gr_sr_s]
theorem Zt.fail {P : Pst} {LL : Lls} {S : Gs} {M M' : Mm} (hZ : Zt P LL S M) {i : Nat} (hi : i < nfb P) (t c : Int32) {a : Nat} (ha : kc S a = none) (hn : P 5 i = 1 → ¬ (P 15 i = 2 ∨ P 15 i = 4 ∨ P 15 i = 6)) (hV : VM (exS (ukc S a [(t, c)]) i 0 (some a)) M') : Zt (p_R_fail P i t c) LL (exS (ukc S a [(t, c)]) i 0 (some a)) M' := by
  refine ⟨hV, (hZ.2.1.cause hZ.2.2.1 ha [(t, c)]).fail hZ.2.2.1 hi t c (by rw [kc_ukc, if_pos rfl]) hn, wb_fail hZ.2.2.1 i t c, ?_⟩
  simpa [p_R_fail, p_R_single, up_e] using hZ.2.2.2
set_option maxHeartbeats 4000000 in
set_option maxRecDepth 100000 in
theorem s_F_die {P : Pst} {LL : Lls} {S : Gs} {M : Mm} (hZ : Zt P LL S M) {i : Nat} (hi : i < nfb P) (x : Int32) (hn : P 5 i = 1 → ¬ (P 15 i = 2 ∨ P 15 i = 4 ∨ P 15 i = 6)) : Run m_F_die ownC 2 3 4 [va_rf (some (ad S 4 i)), .int x] M (fun r M' => r = none ∧ ∃ S', Zt (p_R_fail P i 2 x) (LL) S' M' ∧ ad S' = ad S ∧ lv S' = lv S) := by
  have hV := hZ.1
  refine Run.ofG (by decide) (by simp [cat_int, cat_rf]) (Nat.le_of_ble_eq_true rfl) ?_
  refine g_aload_n d_F_die_0 rfl ?_
  refine g_new (k' := 2) (n' := 2) 0 cl_F_68 d_F_die_1 (by first | decide | omega) (by first | decide | omega) (fun q1 hq_q1 => ?_)
  have hn_q1 := hV.newc hq_q1
  have hV0_q1 := hV
  have hV := hV.ext (Ext.nw (Ext.refl _ M) hq_q1 7 0 2)
  refine g_dup d_F_die_4 ?_
  refine g_iconst (v := 2) d_F_die_5 (by decide) ?_
  refine g_iload_n d_F_die_6 rfl ?_
  refine g_callI (k1 := 0) (n1 := 0) [.int (2), .int (x)] cw_F_70 ci_C_one d_F_die_7 rfl rfl rfl ⟨by simp [cat_rf, cat_int], by simp⟩ (by first | decide | omega) (by first | decide | omega) (by first | decide | omega) (fun _ _ h => h) (c_C_one _ q1 0 (kd_nw_s _ _ _ _ _) _ _) (fun r_ M h_ hfr_ => ?_)
  obtain ⟨rfl, hc_, hE_⟩ := h_
  have hV := VM.kc (hV0_q1.ext (Ext_new hq_q1 hE_)) hc_
  refine g_callV (k1 := 0) (n1 := 0) [va_rf (some q1)] cw_F_73 cv_F_giveCause d_F_die_10 (ad_c rfl) (hV.kdo (lv_c (sl_4 hZ.2.1 hi)) (by decide)) rfl rfl ⟨by simp, by simp⟩ (by first | decide | omega) (by first | decide | omega) (by first | decide | omega) (fun _ _ h => h) (v_F_giveCause hV (lv_c (sl_4 hZ.2.1 hi)) _) (fun r_ M h_ hfr_ => ?_)
  obtain ⟨rfl, hV⟩ := h_
  exact g_return d_F_die_13 rfl ⟨rfl, exS (ukc S q1 [(2, x)]) i 0 (some q1), hZ.fail hi 2 x hn_q1.1 hn hV, rfl, rfl⟩
def p_put (P : Pst) (v : Int32) : Pst := if 24 ≤ P 46 0 then up P 46 0 (P 46 0 + 1) else up (up P 40 (tn (P 46 0)) v) 46 0 (P 46 0 + 1)
theorem Zt.put1 {P : Pst} {LL : Lls} {S : Gs} {M M' : Mm} (hZ : Zt P LL S M) (x : Int32) (hV : VM (ui S 7 0 x) M') : Zt (up P 46 0 x) LL (ui S 7 0 x) M' := by
  refine ⟨hV, hZ.2.1.desk hZ.2.2.1 ((Sx.refl _ S).ui (by omega) _) ((Ag.refl _ P).up (by omega) _) ?_ ?_, WB.up hZ.2.2.1 trivial, by simpa [up_e] using hZ.2.2.2⟩
  · obtain ⟨ll, d1, d2, d3, d4, d5, d6, d7, d8, d9, d10, d11, d12, d13⟩ := hZ.2.1.1
    exact ⟨ll, by simpa [up_e, vi_ui_e, vr_ui, ad_ui_e, nfb] using d1, by simpa [up_e, vi_ui_e, vr_ui, ad_ui_e, nfb] using d2, by simpa [up_e, vi_ui_e, vr_ui, ad_ui_e, nfb] using d3, by simpa [up_e, vi_ui_e, vr_ui, ad_ui_e, nfb] using d4, by simpa [up_e, vi_ui_e, vr_ui, ad_ui_e, nfb] using d5, by simpa [up_e, vi_ui_e, vr_ui, ad_ui_e, nfb] using d6, by simpa [up_e, vi_ui_e, vr_ui, ad_ui_e, nfb] using d7, by simp [up_e, vi_ui_e], by simpa [up_e, vi_ui_e, vr_ui, ad_ui_e, nfb] using d9, by simpa [up_e, vi_ui_e, vr_ui, ad_ui_e, nfb] using d10, by simpa [up_e, vi_ui_e, vr_ui, ad_ui_e, nfb] using d11, by simpa [up_e, vi_ui_e, vr_ui, ad_ui_e, nfb] using d12, by simpa [up_e, vi_ui_e, vr_ui, ad_ui_e, nfb] using d13⟩
  · intro j hj
    have h := hZ.2.1.2.2.2.2.2.2 j hj
    simpa [up_e, vi_ui_e, show ¬ 1344 + j = 7 by omega] using h
theorem Zt.put0 {P : Pst} {LL : Lls} {S : Gs} {M M' : Mm} (hZ : Zt P LL S M) {j : Nat} (hj : j < 24) (x : Int32) (hV : VM (ui S (1344 + j) 0 x) M') : Zt (up P 40 j x) LL (ui S (1344 + j) 0 x) M' := by
  refine ⟨hV, hZ.2.1.desk hZ.2.2.1 ((Sx.refl _ S).ui (by omega) _) ((Ag.refl _ P).up (by omega) _) ?_ ?_, WB.up hZ.2.2.1 trivial, by simpa [up_e] using hZ.2.2.2⟩
  · have h := hZ.2.1.1
    unfold SD at h ⊢
    have e : ∀ f, f < 64 → ∀ t, vi (ui S (1344 + j) 0 x) f t = vi S f t := fun f hf t => vi_ui_f (by omega) _ _ _ _
    rw [e 1 (by decide), e 3 (by decide), e 7 (by decide), e 8 (by decide), e 9 (by decide), e 10 (by decide), e 12 (by decide)]
    simpa [up_e, vr_ui, ad_ui_e, lv_ui_e, nfb] using h
  · intro m hm
    have h := hZ.2.1.2.2.2.2.2.2 m hm
    by_cases e : m = j
    · subst e; rw [vi_ui_s, up_s]
    · rw [vi_ui_f (by omega), up_j e]; exact h
set_option maxHeartbeats 4000000 in
set_option maxRecDepth 100000 in
theorem s_D_put {P : Pst} {LL : Lls} {S : Gs} {M : Mm} (hZ : Zt P LL S M) (v : Int32) (hp : ¬ P 46 0 < 0) : Run m_D_put ownC 0 0 0 [va_rf (some (ad S 0 0)), .int v] M (fun r M' => r = none ∧ ∃ S', Zt (p_put P v) (LL) S' M' ∧ ad S' = ad S ∧ lv S' = lv S) := by
  have hV := hZ.1
  refine Run.ofG (by decide) (by simp [cat_int, cat_rf]) (Nat.le_of_ble_eq_true rfl) ?_
  refine g_aload_n d_D_put_0 rfl ?_
  refine v_geti (v := P 46 0) (τ := 0) 7 rfl hV (sl_0 hZ.2.1) (by decide) (by decide) fl_D_45 rfl d_D_put_1 rfl (sd_7 hZ.2.1) ?_
  refine g_bipush (v := 24) d_D_put_4 (by decide) ?_
  refine g_icmp_ge 19 d_D_put_6 (by decide) (fun c_6 => ?_) (fun c_6 => ?_)
  · skip
    refine g_aload_n d_D_put_19 rfl ?_
    refine g_dup d_D_put_20 ?_
    refine v_geti (v := P 46 0) (τ := 0) 7 rfl hV (sl_0 hZ.2.1) (by decide) (by decide) fl_D_45 rfl d_D_put_21 rfl (sd_7 hZ.2.1) ?_
    refine g_iconst (v := 1) d_D_put_24 (by decide) ?_
    refine g_iadd d_D_put_25 ?_
    refine v_puti (τ := 0) 7 rfl hV (sl_0 hZ.2.1) (by decide) (by decide) fl_D_45 (Or.inr (fun r h => by cases h; rfl)) rfl d_D_put_26 rfl (fun M hV => ?_)
    refine g_return d_D_put_29 rfl ⟨rfl, ui S 7 0 ((P 46 0) + 1), ?_, rfl, rfl⟩
    unfold p_put; rw [if_pos c_6]; exact hZ.put1 _ hV
  · have hj_ : tn (P 46 0) < 24 := ix_lt_of (b := 24) (tn_of hp) rfl (by decide) c_6
    refine g_aload_n d_D_put_9 rfl ?_
    refine v_getr (v := some (ad S 21 0)) (τ := 0) 6 rfl hV (sl_0 hZ.2.1) (by decide) (by decide) fl_D_41 rfl d_D_put_10 rfl (sd_6 hZ.2.1) ?_
    refine g_aload_n d_D_put_13 rfl ?_
    refine v_geti (v := P 46 0) (τ := 0) 7 rfl hV (sl_0 hZ.2.1) (by decide) (by decide) fl_D_45 rfl d_D_put_14 rfl (sd_7 hZ.2.1) ?_
    refine g_iload_n d_D_put_17 rfl ?_
    refine v_iast (j := (tn (P 46 0))) (τ := 0) (1344 + (tn (P 46 0))) rfl hV (sl_21 hZ.2.1) (by decide) (by omega) d_D_put_18 rfl (tn_of hp) (by show _ < _; simp [ck]; omega) (fun M hV => ?_)
    have hZ := hZ.put0 hj_ v hV
    refine g_aload_n d_D_put_19 rfl ?_
    refine g_dup d_D_put_20 ?_
    refine v_geti (v := (up P 40 (tn (P 46 0)) v) 46 0) (τ := 0) 7 rfl hV (sl_0 hZ.2.1) (by decide) (by decide) fl_D_45 rfl d_D_put_21 (ad_i rfl) (sd_7 hZ.2.1) ?_
    refine g_iconst (v := 1) d_D_put_24 (by decide) ?_
    refine g_iadd d_D_put_25 ?_
    refine v_puti (τ := 0) 7 rfl hV (sl_0 hZ.2.1) (by decide) (by decide) fl_D_45 (Or.inr (fun r h => by cases h; rfl)) rfl d_D_put_26 (ad_i rfl) (fun M hV => ?_)
    refine g_return d_D_put_29 rfl ⟨rfl, ui (ui S (1344 + (tn (P 46 0))) 0 v) 7 0 (((up P 40 (tn (P 46 0)) v) 46 0) + 1), ?_, rfl, rfl⟩
    unfold p_put; rw [if_neg c_6]; exact hZ.put1 _ hV
