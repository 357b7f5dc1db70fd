/-! beginning an effect (by program: wip/tools/gen_s16.py) -/
def enL (P : Pst) (LL : Lls) (f : Nat) : Lls := it_e2L f (it_e1 f (up (up P 5 f 2) 10 f 0) (tn (P 42 0))) (it_e1L f (up (up P 5 f 2) 10 f 0) LL (tn (P 42 0))) (tn (P 42 0))
def atP (k : Int32) : Int32 := if k < 19 then 0 else if 24 < k then 0 else 1
def LnOK (P : Pst) (LL : Lls) (n : Nat) : Prop := (LL (1 + n)).length < 10 ∧ (LL (5 + n)).length < 10 ∧ (∀ x, x ∈ LL (1 + n) → x < nfb P ∧ P 5 x = 1 ∧ P 15 x = 5) ∧ (LL (1 + n)).Nodup ∧ tn (P 43 0) + (LL (1 + n)).length ≤ 10 ∧ (∀ x, x ∈ LL (5 + n) → x < nfb P ∧ P 5 x = 1 ∧ P 15 x = 6)
theorem Zt.turn {P : Pst} {LL : Lls} {S : Gs} {M M' : Mm} (hZ : Zt P LL S M) {x y : Int32} (hx : x = 5 - y) (hV : VM (ui S 12 0 x) M') : Zt (up P 49 0 y) LL (ui S 12 0 x) M' := by
  refine ⟨hV, hZ.2.1.desk hZ.2.2.1 ((Sx.refl _ S).ui (by omega) _) ((Ag.refl _ P).up (by omega) _) ?_ ?_, WB.up (f := 49) hZ.2.2.1 trivial, by simpa [up_e] using hZ.2.2.2⟩
  · obtain ⟨ll, d1, d2, d3, d4, d5, d6, d7, d8, d9, d10, d11, d12, d13⟩ := hZ.2.1.1
    exact ⟨ll, by simpa [up_e, vi_ui_e, vr_ui, ad_ui_e, nfb] using d1, by simpa [up_e, vi_ui_e, vr_ui, ad_ui_e, nfb] using d2, by simpa [up_e, vi_ui_e, vr_ui, ad_ui_e, nfb] using d3, by simpa [up_e, vi_ui_e, vr_ui, ad_ui_e, nfb] using d4, by simpa [up_e, vi_ui_e, vr_ui, ad_ui_e, nfb] using d5, by simpa [up_e, vi_ui_e, vr_ui, ad_ui_e, nfb] using d6, by simpa [up_e, vi_ui_e, vr_ui, ad_ui_e, nfb] using d7, by simpa [up_e, vi_ui_e, vr_ui, ad_ui_e, nfb] using d8, by simpa [up_e, vi_ui_e, vr_ui, ad_ui_e, nfb] using d9, by simpa [up_e, vi_ui_e, vr_ui, ad_ui_e, nfb] using d10, by simpa [up_e, vi_ui_e, vr_ui, ad_ui_e, nfb] using d11, by simpa [up_e, vi_ui_e, vr_ui, ad_ui_e, nfb] using d12, fun q => ⟨(d13 q).1, by rw [vi_ui_s, up_s]; exact hx⟩⟩
  · intro j hj
    have h := hZ.2.1.2.2.2.2.2.2 j hj
    simpa [up_e, vi_ui_e, show ¬ 1344 + j = 12 by omega] using h
set_option maxHeartbeats 1000000 in
set_option maxRecDepth 100000 in
theorem s_D_end {P : Pst} {LL : Lls} {S : Gs} {M : Mm} (hZ : Zt P LL S M) {f : Nat} (hf : f < nfb P) (h5 : P 5 f = 0) (h15 : P 15 f = 0) (hA : ¬ (P 6 f = 1 ∧ P 10 f = 0)) (h11 : P 11 f < 0) (h10 : P 10 f = 0) (hE1 : ∀ j, j < nfb P → E1ok (it_e1 f (up (up P 5 f 2) 10 f 0) j) j f) (hE2 : ∀ j, j < nfb P → E2ok (it_e2 f (it_e1 f (up (up P 5 f 2) 10 f 0) (nfb P)) j) j) : Run m_D_end ownC 5 30 200 [va_rf (some (ad S 0 0)), va_rf (some (ad S 4 f))] M (fun r M' => r = none ∧ ∃ S', Zt (p_R_ends P f) (enL P LL f) S' M' ∧ ad S' = ad S ∧ lv S' = lv S) := by
  have hV := hZ.1
  refine Run.ofG (by decide) (by simp [cat_int, cat_rf]) (Nat.le_of_ble_eq_true rfl) ?_
  refine g_aload_n d_D_end_0 rfl ?_
  refine g_iconst (v := 1) d_D_end_1 (by decide) ?_
  refine v_putz (τ := f) 262 rfl hV (sl_4 hZ.2.1 hf) (by decide) (by decide) fl_D_98 (Or.inr (fun r h => by cases h; rfl)) rfl (Or.inr rfl) d_D_end_2 rfl (fun M hV => ?_)
  refine g_iconst (v := 0) d_D_end_5 (by decide) ?_
  refine g_istore_n d_D_end_6 (by decide) ?_
  have hZ0 : Zt (up P 5 f 2) LL (ui S 262 f 1) M := hZ.ended hf h15 (hZ.exit hf h5 hA h11).2 hV
  have e0 : up (up P 5 f 2) 10 f 0 = up P 5 f 2 := by rw [← h10]; exact up_same (up P 5 f 2) 10 f
  have h10n := n10 hZ.2.2.1
  unfold p_R_ends enL
  rw [e0] at hE1 hE2 ⊢
  exact l_e1 (P0 := up P 5 f 2) (S := S) h10n hf hE1 hE2 (nfb P) 0 (ui S 262 f 1) M _ 30 200 (by rw [Nat.zero_add]; rfl) (by omega) (by omega) hZ0 rfl rfl
set_option maxHeartbeats 1000000 in
set_option maxRecDepth 100000 in
theorem s_D_isAtPlace {S : Gs} {M : Mm} (hV : VM S M) (x : Int32) : Run m_D_isAtPlace ownC 0 0 0 [.int x] M (fun r M' => r = some (.int (atP x)) ∧ VM S M') := by
  refine Run.ofG (by decide) (by simp [cat_int, cat_rf]) (Nat.le_of_ble_eq_true rfl) ?_
  refine g_iload_n d_D_isAtPlace_0 rfl ?_
  refine g_bipush (v := 19) d_D_isAtPlace_1 (by decide) ?_
  refine g_icmp_lt 16 d_D_isAtPlace_3 (by decide) (fun c_3 => ?_) (fun c_3 => ?_)
  · skip
    refine g_iconst (v := 0) d_D_isAtPlace_16 (by decide) ?_
    exact g_zreturn d_D_isAtPlace_17 rfl (Or.inl rfl) ⟨by unfold atP; rw [if_pos (c_3)], hV⟩
  · skip
    refine g_iload_n d_D_isAtPlace_6 rfl ?_
    refine g_bipush (v := 24) d_D_isAtPlace_7 (by decide) ?_
    refine g_icmp_gt 16 d_D_isAtPlace_9 (by decide) (fun c_9 => ?_) (fun c_9 => ?_)
    · skip
      refine g_iconst (v := 0) d_D_isAtPlace_16 (by decide) ?_
      exact g_zreturn d_D_isAtPlace_17 rfl (Or.inl rfl) ⟨by unfold atP; rw [if_neg (c_3), if_pos (c_9)], hV⟩
    · skip
      refine g_iconst (v := 1) d_D_isAtPlace_12 (by decide) ?_
      refine g_goto 17 d_D_isAtPlace_13 (by decide) ?_
      exact g_zreturn d_D_isAtPlace_17 rfl (Or.inr rfl) ⟨by unfold atP; rw [if_neg (c_3), if_neg (c_9)], hV⟩
set_option maxHeartbeats 1000000 in
set_option maxRecDepth 100000 in
theorem s_D_begin_0 {P : Pst} {LL : Lls} {S : Gs} {M : Mm} (hZ : Zt P LL S M) {i e : Nat} (hi : i < nfb P) (h5 : P 5 i = 0) (h15 : P 15 i = 0) (hA : ¬ (P 6 i = 1 ∧ P 10 i = 0)) (hst : ¬ P 51 0 = 0) (he : lv S 3 e = true) (he40 : e < 40) (hx : ¬ a_R_needs (P 0 e) ≤ 0 → sm (P 1 e) 39) (hy : ¬ a_R_needs (P 0 e) ≤ 1 → sm (P 2 e) 39) (hpl : ¬ P 0 e < 19 → ¬ P 0 e = 25 → ∃ n, n < 4 ∧ P 1 e = nI n) (hL : ∀ n, n < 4 → LnOK P LL n) (hq : tn (P 43 0) + 1 ≤ nfb P) (hF : ∀ p, p < tn (P 22 i) → P 0 (tn (P 24 (16 * i + p))) = P 23 (16 * i + p)) (hS : ∀ j, j < nfb P → StOK P j) (hp : ¬ P 46 0 < 0) (v : Int32) (hk : P 0 e = 0) : Run m_D_begin ownC 4 3 32 [va_rf (some (ad S 0 0)), va_rf (some (ad S 4 i)), va_rf (some (ad S 3 e)), .int v] M (fun r M' => r = none ∧ ∃ S', Zt (p_R_give P i (P 1 e)) (LL) S' M' ∧ Kp P S S') := by
  have h10_ := n10 hZ.2.2.1
  have hq10 : tn (P 43 0) < 10 := by omega
  have hV := hZ.1
  refine Run.ofG (by decide) (by simp [cat_int, cat_rf]) (Nat.le_of_ble_eq_true rfl) ?_
  refine g_aload_n d_D_begin_0 rfl ?_
  refine v_geti (v := 0) (τ := e) 192 rfl hV he (by decide) (by decide) fl_D_236 rfl d_D_begin_1 rfl ((se_192 hZ.2.1 he).trans hk) ?_
  refine g_tableIn 124 d_D_begin_4 (by decide) (by decide) rfl (by decide) ?_
  refine g_aload_n d_D_begin_124 rfl ?_
  refine g_aload_n d_D_begin_125 rfl ?_
  refine v_geti (v := P 1 e) (τ := e) 193 rfl hV he (by decide) (by decide) fl_D_239 rfl d_D_begin_126 rfl (se_193 hZ.2.1 he) ?_
  refine g_callV (k1 := 3) (n1 := 32) [.int (P 1 e)] cw_D_242 cv_F_giveValue d_D_begin_129 rfl (hV.kdo (sl_4 hZ.2.1 hi) (by decide)) rfl rfl ⟨by simp, by simp⟩ (by first | decide | omega) (by first | decide | omega) (by first | decide | omega) (fun _ _ h => h) (v_F_giveValue hV (sl_4 hZ.2.1 hi) _) (fun r_ M h_ hfr_ => ?_)
  obtain ⟨rfl, hV⟩ := h_
  refine g_goto 316 d_D_begin_132 (by decide) ?_
  exact g_return d_D_begin_316 rfl ⟨rfl, exS S i (P 1 e) none, hZ.give hi _ (fun h => absurd (h5.symm.trans h) (by decide)) hV, Kp.of rfl rfl⟩
set_option maxHeartbeats 1000000 in
set_option maxRecDepth 100000 in
theorem s_D_begin_1 {P : Pst} {LL : Lls} {S : Gs} {M : Mm} (hZ : Zt P LL S M) {i e : Nat} (hi : i < nfb P) (h5 : P 5 i = 0) (h15 : P 15 i = 0) (hA : ¬ (P 6 i = 1 ∧ P 10 i = 0)) (hst : ¬ P 51 0 = 0) (he : lv S 3 e = true) (he40 : e < 40) (hx : ¬ a_R_needs (P 0 e) ≤ 0 → sm (P 1 e) 39) (hy : ¬ a_R_needs (P 0 e) ≤ 1 → sm (P 2 e) 39) (hpl : ¬ P 0 e < 19 → ¬ P 0 e = 25 → ∃ n, n < 4 ∧ P 1 e = nI n) (hL : ∀ n, n < 4 → LnOK P LL n) (hq : tn (P 43 0) + 1 ≤ nfb P) (hF : ∀ p, p < tn (P 22 i) → P 0 (tn (P 24 (16 * i + p))) = P 23 (16 * i + p)) (hS : ∀ j, j < nfb P → StOK P j) (hp : ¬ P 46 0 < 0) (v : Int32) (hk : P 0 e = 1) : Run m_D_begin ownC 4 3 32 [va_rf (some (ad S 0 0)), va_rf (some (ad S 4 i)), va_rf (some (ad S 3 e)), .int v] M (fun r M' => r = none ∧ ∃ S', Zt (p_R_give P i (v + P 1 e)) (LL) S' M' ∧ Kp P S S') := by
  have h10_ := n10 hZ.2.2.1
  have hq10 : tn (P 43 0) < 10 := by omega
  have hV := hZ.1
  refine Run.ofG (by decide) (by simp [cat_int, cat_rf]) (Nat.le_of_ble_eq_true rfl) ?_
  refine g_aload_n d_D_begin_0 rfl ?_
  refine v_geti (v := 1) (τ := e) 192 rfl hV he (by decide) (by decide) fl_D_236 rfl d_D_begin_1 rfl ((se_192 hZ.2.1 he).trans hk) ?_
  refine g_tableIn 135 d_D_begin_4 (by decide) (by decide) rfl (by decide) ?_
  refine g_aload_n d_D_begin_135 rfl ?_
  refine g_iload_n d_D_begin_136 rfl ?_
  refine g_aload_n d_D_begin_137 rfl ?_
  refine v_geti (v := P 1 e) (τ := e) 193 rfl hV he (by decide) (by decide) fl_D_239 rfl d_D_begin_138 rfl (se_193 hZ.2.1 he) ?_
  refine g_iadd d_D_begin_141 ?_
  refine g_callV (k1 := 3) (n1 := 32) [.int (v + (P 1 e))] cw_D_242 cv_F_giveValue d_D_begin_142 rfl (hV.kdo (sl_4 hZ.2.1 hi) (by decide)) rfl rfl ⟨by simp, by simp⟩ (by first | decide | omega) (by first | decide | omega) (by first | decide | omega) (fun _ _ h => h) (v_F_giveValue hV (sl_4 hZ.2.1 hi) _) (fun r_ M h_ hfr_ => ?_)
  obtain ⟨rfl, hV⟩ := h_
  refine g_goto 316 d_D_begin_145 (by decide) ?_
  exact g_return d_D_begin_316 rfl ⟨rfl, exS S i (v + P 1 e) none, hZ.give hi _ (fun h => absurd (h5.symm.trans h) (by decide)) hV, Kp.of rfl rfl⟩
set_option maxHeartbeats 1000000 in
set_option maxRecDepth 100000 in
theorem s_D_begin_2 {P : Pst} {LL : Lls} {S : Gs} {M : Mm} (hZ : Zt P LL S M) {i e : Nat} (hi : i < nfb P) (h5 : P 5 i = 0) (h15 : P 15 i = 0) (hA : ¬ (P 6 i = 1 ∧ P 10 i = 0)) (hst : ¬ P 51 0 = 0) (he : lv S 3 e = true) (he40 : e < 40) (hx : ¬ a_R_needs (P 0 e) ≤ 0 → sm (P 1 e) 39) (hy : ¬ a_R_needs (P 0 e) ≤ 1 → sm (P 2 e) 39) (hpl : ¬ P 0 e < 19 → ¬ P 0 e = 25 → ∃ n, n < 4 ∧ P 1 e = nI n) (hL : ∀ n, n < 4 → LnOK P LL n) (hq : tn (P 43 0) + 1 ≤ nfb P) (hF : ∀ p, p < tn (P 22 i) → P 0 (tn (P 24 (16 * i + p))) = P 23 (16 * i + p)) (hS : ∀ j, j < nfb P → StOK P j) (hp : ¬ P 46 0 < 0) (v : Int32) (hk : P 0 e = 2) : Run m_D_begin ownC 4 3 32 [va_rf (some (ad S 0 0)), va_rf (some (ad S 4 i)), va_rf (some (ad S 3 e)), .int v] M (fun r M' => r = none ∧ ∃ S', Zt (p_R_fail P i 1 (P 1 e)) (LL) S' M' ∧ Kp P S S') := by
  have h10_ := n10 hZ.2.2.1
  have hq10 : tn (P 43 0) < 10 := by omega
  have hV := hZ.1
  refine Run.ofG (by decide) (by simp [cat_int, cat_rf]) (Nat.le_of_ble_eq_true rfl) ?_
  refine g_aload_n d_D_begin_0 rfl ?_
  refine v_geti (v := 2) (τ := e) 192 rfl hV he (by decide) (by decide) fl_D_236 rfl d_D_begin_1 rfl ((se_192 hZ.2.1 he).trans hk) ?_
  refine g_tableIn 148 d_D_begin_4 (by decide) (by decide) rfl (by decide) ?_
  refine g_aload_n d_D_begin_148 rfl ?_
  refine g_new (k' := 2) (n' := 30) 0 cl_D_141 d_D_begin_149 (by first | decide | omega) (by first | decide | omega) (fun q149 hq_q149 => ?_)
  have hn_q149 := hV.newc hq_q149
  have hV0_q149 := hV
  have hV := hV.ext (Ext.nw (Ext.refl _ M) hq_q149 7 0 2)
  refine g_dup d_D_begin_152 ?_
  refine g_iconst (v := 1) d_D_begin_153 (by decide) ?_
  refine g_aload_n d_D_begin_154 rfl ?_
  refine v_geti (v := P 1 e) (τ := e) 193 rfl hV he (by decide) (by decide) fl_D_239 rfl d_D_begin_155 rfl (se_193 hZ.2.1 he) ?_
  refine g_callI (k1 := 0) (n1 := 28) [.int (1), .int (P 1 e)] cw_D_196 ci_C_one d_D_begin_158 rfl rfl rfl ⟨by simp [cat_rf, cat_int], by simp⟩ (by first | decide | omega) (by first | decide | omega) (by first | decide | omega) (fun _ _ h => h) (c_C_one _ q149 0 (kd_nw_s _ _ _ _ _) _ _) (fun r_ M h_ hfr_ => ?_)
  obtain ⟨rfl, hc_, hE_⟩ := h_
  have hV := VM.kc (hV0_q149.ext (Ext_new hq_q149 hE_)) hc_
  refine g_callV (k1 := 0) (n1 := 28) [va_rf (some q149)] cw_D_199 cv_F_giveCause d_D_begin_161 (ad_c rfl) (hV.kdo (lv_c (sl_4 hZ.2.1 hi)) (by decide)) rfl rfl ⟨by simp, by simp⟩ (by first | decide | omega) (by first | decide | omega) (by first | decide | omega) (fun _ _ h => h) (v_F_giveCause hV (lv_c (sl_4 hZ.2.1 hi)) _) (fun r_ M h_ hfr_ => ?_)
  obtain ⟨rfl, hV⟩ := h_
  refine g_goto 316 d_D_begin_164 (by decide) ?_
  exact g_return d_D_begin_316 rfl ⟨rfl, exS (ukc S q149 [(1, P 1 e)]) i 0 (some q149), hZ.fail hi 1 (P 1 e) hn_q149.1 (fun h => absurd (h5.symm.trans h) (by decide)) hV, Kp.of rfl rfl⟩
set_option maxHeartbeats 1000000 in
set_option maxRecDepth 100000 in
theorem s_D_begin_3 {P : Pst} {LL : Lls} {S : Gs} {M : Mm} (hZ : Zt P LL S M) {i e : Nat} (hi : i < nfb P) (h5 : P 5 i = 0) (h15 : P 15 i = 0) (hA : ¬ (P 6 i = 1 ∧ P 10 i = 0)) (hst : ¬ P 51 0 = 0) (he : lv S 3 e = true) (he40 : e < 40) (hx : ¬ a_R_needs (P 0 e) ≤ 0 → sm (P 1 e) 39) (hy : ¬ a_R_needs (P 0 e) ≤ 1 → sm (P 2 e) 39) (hpl : ¬ P 0 e < 19 → ¬ P 0 e = 25 → ∃ n, n < 4 ∧ P 1 e = nI n) (hL : ∀ n, n < 4 → LnOK P LL n) (hq : tn (P 43 0) + 1 ≤ nfb P) (hF : ∀ p, p < tn (P 22 i) → P 0 (tn (P 24 (16 * i + p))) = P 23 (16 * i + p)) (hS : ∀ j, j < nfb P → StOK P j) (hp : ¬ P 46 0 < 0) (v : Int32) (hk : P 0 e = 3) : Run m_D_begin ownC 4 3 32 [va_rf (some (ad S 0 0)), va_rf (some (ad S 4 i)), va_rf (some (ad S 3 e)), .int v] M (fun r M' => r = none ∧ ∃ S', Zt (p_R_fail P i 2 (P 1 e)) (LL) S' M' ∧ Kp P S S') := by
  have h10_ := n10 hZ.2.2.1
  have hq10 : tn (P 43 0) < 10 := by omega
  have hV := hZ.1
  refine Run.ofG (by decide) (by simp [cat_int, cat_rf]) (Nat.le_of_ble_eq_true rfl) ?_
  refine g_aload_n d_D_begin_0 rfl ?_
  refine v_geti (v := 3) (τ := e) 192 rfl hV he (by decide) (by decide) fl_D_236 rfl d_D_begin_1 rfl ((se_192 hZ.2.1 he).trans hk) ?_
  refine g_tableIn 167 d_D_begin_4 (by decide) (by decide) rfl (by decide) ?_
  refine g_aload_n d_D_begin_167 rfl ?_
  refine g_aload_n d_D_begin_168 rfl ?_
  refine v_geti (v := P 1 e) (τ := e) 193 rfl hV he (by decide) (by decide) fl_D_239 rfl d_D_begin_169 rfl (se_193 hZ.2.1 he) ?_
  refine g_callV (k1 := 0) (n1 := 28) [.int (P 1 e)] cw_D_245 cv_F_die d_D_begin_172 rfl (hV.kdo (sl_4 hZ.2.1 hi) (by decide)) rfl rfl ⟨by simp, by simp⟩ (by first | decide | omega) (by first | decide | omega) (by first | decide | omega) (fun _ _ h => h) (s_F_die hZ hi _ (fun h => absurd (h5.symm.trans h) (by decide))) (fun r_ M h_ hfr_ => ?_)
  obtain ⟨rfl, S1, hZ1, ha1, hb1⟩ := h_
  have hk1 : Kp P S S1 := Kp.of ha1 hb1
  refine g_goto 316 d_D_begin_175 (by decide) ?_
  exact g_return d_D_begin_316 rfl ⟨rfl, S1, hZ1, hk1⟩
set_option maxHeartbeats 1000000 in
set_option maxRecDepth 100000 in
theorem s_D_begin_4 {P : Pst} {LL : Lls} {S : Gs} {M : Mm} (hZ : Zt P LL S M) {i e : Nat} (hi : i < nfb P) (h5 : P 5 i = 0) (h15 : P 15 i = 0) (hA : ¬ (P 6 i = 1 ∧ P 10 i = 0)) (hst : ¬ P 51 0 = 0) (he : lv S 3 e = true) (he40 : e < 40) (hx : ¬ a_R_needs (P 0 e) ≤ 0 → sm (P 1 e) 39) (hy : ¬ a_R_needs (P 0 e) ≤ 1 → sm (P 2 e) 39) (hpl : ¬ P 0 e < 19 → ¬ P 0 e = 25 → ∃ n, n < 4 ∧ P 1 e = nI n) (hL : ∀ n, n < 4 → LnOK P LL n) (hq : tn (P 43 0) + 1 ≤ nfb P) (hF : ∀ p, p < tn (P 22 i) → P 0 (tn (P 24 (16 * i + p))) = P 23 (16 * i + p)) (hS : ∀ j, j < nfb P → StOK P j) (hp : ¬ P 46 0 < 0) (v : Int32) (hk : P 0 e = 4) : Run m_D_begin ownC 4 3 32 [va_rf (some (ad S 0 0)), va_rf (some (ad S 4 i)), va_rf (some (ad S 3 e)), .int v] M (fun r M' => r = none ∧ ∃ S', Zt (frP P i e v) (LL) S' M' ∧ Kp P S S') := by
  have h10_ := n10 hZ.2.2.1
  have hq10 : tn (P 43 0) < 10 := by omega
  have hn0 : ¬ a_R_needs (P 0 e) ≤ 0 := by rw [hk]; decide
  have hn1 : ¬ a_R_needs (P 0 e) ≤ 1 := by rw [hk]; decide
  have hV := hZ.1
  refine Run.ofG (by decide) (by simp [cat_int, cat_rf]) (Nat.le_of_ble_eq_true rfl) ?_
  refine g_aload_n d_D_begin_0 rfl ?_
  refine v_geti (v := 4) (τ := e) 192 rfl hV he (by decide) (by decide) fl_D_236 rfl d_D_begin_1 rfl ((se_192 hZ.2.1 he).trans hk) ?_
  refine g_tableIn 290 d_D_begin_4 (by decide) (by decide) rfl (by decide) ?_
  refine g_aload_n d_D_begin_290 rfl ?_
  refine v_geti (v := 4) (τ := e) 192 rfl hV he (by decide) (by decide) fl_D_236 rfl d_D_begin_291 rfl ((se_192 hZ.2.1 he).trans hk) ?_
  refine g_callS (k1 := 3) (n1 := 32) [.int (4)] cw_D_179 cs_D_isAtPlace d_D_begin_294 rfl rfl ⟨by simp, by simp⟩ (by first | decide | omega) (by first | decide | omega) (by first | decide | omega) (fun _ _ h => h) (s_D_isAtPlace hV _) (fun r_ M h_ hfr_ => ?_)
  obtain ⟨rfl, hV⟩ := h_
  refine g_if_eq 310 d_D_begin_297 (by decide) (fun c_297 => ?_) (fun c_297 => ?_)
  · skip
    refine g_aload_n d_D_begin_310 rfl ?_
    refine g_aload_n d_D_begin_311 rfl ?_
    refine g_iload_n d_D_begin_312 rfl ?_
    refine g_callV (k1 := 0) (n1 := 21) [va_rf (some (ad S 3 e)), .int (v)] cw_D_283 cv_F_beginFramed d_D_begin_313 rfl (hV.kdo (sl_4 hZ.2.1 hi) (by decide)) rfl rfl ⟨by simp, by simp⟩ (by first | decide | omega) (by first | decide | omega) (by first | decide | omega) (fun _ _ h => h) (s_F_beginFramed_4 ⟨hV, hZ.2⟩ hi h5 h15 hA hF he he40 (hx hn0) v hk) (fun r_ M h_ hfr_ => ?_)
    obtain ⟨rfl, S1, hZ1, hk1⟩ := h_
    exact g_return d_D_begin_316 rfl ⟨rfl, S1, hZ1, hk1⟩
  · exact absurd c_297 (by decide)
set_option maxHeartbeats 1000000 in
set_option maxRecDepth 100000 in
theorem s_D_begin_5 {P : Pst} {LL : Lls} {S : Gs} {M : Mm} (hZ : Zt P LL S M) {i e : Nat} (hi : i < nfb P) (h5 : P 5 i = 0) (h15 : P 15 i = 0) (hA : ¬ (P 6 i = 1 ∧ P 10 i = 0)) (hst : ¬ P 51 0 = 0) (he : lv S 3 e = true) (he40 : e < 40) (hx : ¬ a_R_needs (P 0 e) ≤ 0 → sm (P 1 e) 39) (hy : ¬ a_R_needs (P 0 e) ≤ 1 → sm (P 2 e) 39) (hpl : ¬ P 0 e < 19 → ¬ P 0 e = 25 → ∃ n, n < 4 ∧ P 1 e = nI n) (hL : ∀ n, n < 4 → LnOK P LL n) (hq : tn (P 43 0) + 1 ≤ nfb P) (hF : ∀ p, p < tn (P 22 i) → P 0 (tn (P 24 (16 * i + p))) = P 23 (16 * i + p)) (hS : ∀ j, j < nfb P → StOK P j) (hp : ¬ P 46 0 < 0) (v : Int32) (hk : P 0 e = 5) : Run m_D_begin ownC 4 3 32 [va_rf (some (ad S 0 0)), va_rf (some (ad S 4 i)), va_rf (some (ad S 3 e)), .int v] M (fun r M' => r = none ∧ ∃ S', Zt (frP P i e v) (LL) S' M' ∧ Kp P S S') := by
  have h10_ := n10 hZ.2.2.1
  have hq10 : tn (P 43 0) < 10 := by omega
  have hn0 : ¬ a_R_needs (P 0 e) ≤ 0 := by rw [hk]; decide
  have hn1 : ¬ a_R_needs (P 0 e) ≤ 1 := by rw [hk]; decide
  have hV := hZ.1
  refine Run.ofG (by decide) (by simp [cat_int, cat_rf]) (Nat.le_of_ble_eq_true rfl) ?_
  refine g_aload_n d_D_begin_0 rfl ?_
  refine v_geti (v := 5) (τ := e) 192 rfl hV he (by decide) (by decide) fl_D_236 rfl d_D_begin_1 rfl ((se_192 hZ.2.1 he).trans hk) ?_
  refine g_tableIn 290 d_D_begin_4 (by decide) (by decide) rfl (by decide) ?_
  refine g_aload_n d_D_begin_290 rfl ?_
  refine v_geti (v := 5) (τ := e) 192 rfl hV he (by decide) (by decide) fl_D_236 rfl d_D_begin_291 rfl ((se_192 hZ.2.1 he).trans hk) ?_
  refine g_callS (k1 := 3) (n1 := 32) [.int (5)] cw_D_179 cs_D_isAtPlace d_D_begin_294 rfl rfl ⟨by simp, by simp⟩ (by first | decide | omega) (by first | decide | omega) (by first | decide | omega) (fun _ _ h => h) (s_D_isAtPlace hV _) (fun r_ M h_ hfr_ => ?_)
  obtain ⟨rfl, hV⟩ := h_
  refine g_if_eq 310 d_D_begin_297 (by decide) (fun c_297 => ?_) (fun c_297 => ?_)
  · skip
    refine g_aload_n d_D_begin_310 rfl ?_
    refine g_aload_n d_D_begin_311 rfl ?_
    refine g_iload_n d_D_begin_312 rfl ?_
    refine g_callV (k1 := 0) (n1 := 21) [va_rf (some (ad S 3 e)), .int (v)] cw_D_283 cv_F_beginFramed d_D_begin_313 rfl (hV.kdo (sl_4 hZ.2.1 hi) (by decide)) rfl rfl ⟨by simp, by simp⟩ (by first | decide | omega) (by first | decide | omega) (by first | decide | omega) (fun _ _ h => h) (s_F_beginFramed_5 ⟨hV, hZ.2⟩ hi h5 h15 hA hF he he40 (hx hn0) v hk) (fun r_ M h_ hfr_ => ?_)
    obtain ⟨rfl, S1, hZ1, hk1⟩ := h_
    exact g_return d_D_begin_316 rfl ⟨rfl, S1, hZ1, hk1⟩
  · exact absurd c_297 (by decide)
set_option maxHeartbeats 1000000 in
set_option maxRecDepth 100000 in
theorem s_D_begin_6 {P : Pst} {LL : Lls} {S : Gs} {M : Mm} (hZ : Zt P LL S M) {i e : Nat} (hi : i < nfb P) (h5 : P 5 i = 0) (h15 : P 15 i = 0) (hA : ¬ (P 6 i = 1 ∧ P 10 i = 0)) (hst : ¬ P 51 0 = 0) (he : lv S 3 e = true) (he40 : e < 40) (hx : ¬ a_R_needs (P 0 e) ≤ 0 → sm (P 1 e) 39) (hy : ¬ a_R_needs (P 0 e) ≤ 1 → sm (P 2 e) 39) (hpl : ¬ P 0 e < 19 → ¬ P 0 e = 25 → ∃ n, n < 4 ∧ P 1 e = nI n) (hL : ∀ n, n < 4 → LnOK P LL n) (hq : tn (P 43 0) + 1 ≤ nfb P) (hF : ∀ p, p < tn (P 22 i) → P 0 (tn (P 24 (16 * i + p))) = P 23 (16 * i + p)) (hS : ∀ j, j < nfb P → StOK P j) (hp : ¬ P 46 0 < 0) (v : Int32) (hk : P 0 e = 6) : Run m_D_begin ownC 4 3 32 [va_rf (some (ad S 0 0)), va_rf (some (ad S 4 i)), va_rf (some (ad S 3 e)), .int v] M (fun r M' => r = none ∧ ∃ S', Zt (frP P i e v) (LL) S' M' ∧ Kp P S S') := by
  have h10_ := n10 hZ.2.2.1
  have hq10 : tn (P 43 0) < 10 := by omega
  have hn0 : ¬ a_R_needs (P 0 e) ≤ 0 := by rw [hk]; decide
  have hn1 : ¬ a_R_needs (P 0 e) ≤ 1 := by rw [hk]; decide
  have hV := hZ.1
  refine Run.ofG (by decide) (by simp [cat_int, cat_rf]) (Nat.le_of_ble_eq_true rfl) ?_
  refine g_aload_n d_D_begin_0 rfl ?_
  refine v_geti (v := 6) (τ := e) 192 rfl hV he (by decide) (by decide) fl_D_236 rfl d_D_begin_1 rfl ((se_192 hZ.2.1 he).trans hk) ?_
  refine g_tableIn 290 d_D_begin_4 (by decide) (by decide) rfl (by decide) ?_
  refine g_aload_n d_D_begin_290 rfl ?_
  refine v_geti (v := 6) (τ := e) 192 rfl hV he (by decide) (by decide) fl_D_236 rfl d_D_begin_291 rfl ((se_192 hZ.2.1 he).trans hk) ?_
  refine g_callS (k1 := 3) (n1 := 32) [.int (6)] cw_D_179 cs_D_isAtPlace d_D_begin_294 rfl rfl ⟨by simp, by simp⟩ (by first | decide | omega) (by first | decide | omega) (by first | decide | omega) (fun _ _ h => h) (s_D_isAtPlace hV _) (fun r_ M h_ hfr_ => ?_)
  obtain ⟨rfl, hV⟩ := h_
  refine g_if_eq 310 d_D_begin_297 (by decide) (fun c_297 => ?_) (fun c_297 => ?_)
  · skip
    refine g_aload_n d_D_begin_310 rfl ?_
    refine g_aload_n d_D_begin_311 rfl ?_
    refine g_iload_n d_D_begin_312 rfl ?_
    refine g_callV (k1 := 0) (n1 := 21) [va_rf (some (ad S 3 e)), .int (v)] cw_D_283 cv_F_beginFramed d_D_begin_313 rfl (hV.kdo (sl_4 hZ.2.1 hi) (by decide)) rfl rfl ⟨by simp, by simp⟩ (by first | decide | omega) (by first | decide | omega) (by first | decide | omega) (fun _ _ h => h) (s_F_beginFramed_6 ⟨hV, hZ.2⟩ hi h5 h15 hA hF he he40 (hx hn0) v hk) (fun r_ M h_ hfr_ => ?_)
    obtain ⟨rfl, S1, hZ1, hk1⟩ := h_
    exact g_return d_D_begin_316 rfl ⟨rfl, S1, hZ1, hk1⟩
  · exact absurd c_297 (by decide)
set_option maxHeartbeats 1000000 in
set_option maxRecDepth 100000 in
theorem s_D_begin_7 {P : Pst} {LL : Lls} {S : Gs} {M : Mm} (hZ : Zt P LL S M) {i e : Nat} (hi : i < nfb P) (h5 : P 5 i = 0) (h15 : P 15 i = 0) (hA : ¬ (P 6 i = 1 ∧ P 10 i = 0)) (hst : ¬ P 51 0 = 0) (he : lv S 3 e = true) (he40 : e < 40) (hx : ¬ a_R_needs (P 0 e) ≤ 0 → sm (P 1 e) 39) (hy : ¬ a_R_needs (P 0 e) ≤ 1 → sm (P 2 e) 39) (hpl : ¬ P 0 e < 19 → ¬ P 0 e = 25 → ∃ n, n < 4 ∧ P 1 e = nI n) (hL : ∀ n, n < 4 → LnOK P LL n) (hq : tn (P 43 0) + 1 ≤ nfb P) (hF : ∀ p, p < tn (P 22 i) → P 0 (tn (P 24 (16 * i + p))) = P 23 (16 * i + p)) (hS : ∀ j, j < nfb P → StOK P j) (hp : ¬ P 46 0 < 0) (v : Int32) (hk : P 0 e = 7) : Run m_D_begin ownC 4 3 32 [va_rf (some (ad S 0 0)), va_rf (some (ad S 4 i)), va_rf (some (ad S 3 e)), .int v] M (fun r M' => r = none ∧ ∃ S', Zt (frP P i e v) (LL) S' M' ∧ Kp P S S') := by
  have h10_ := n10 hZ.2.2.1
  have hq10 : tn (P 43 0) < 10 := by omega
  have hn0 : ¬ a_R_needs (P 0 e) ≤ 0 := by rw [hk]; decide
  have hn1 : ¬ a_R_needs (P 0 e) ≤ 1 := by rw [hk]; decide
  have hV := hZ.1
  refine Run.ofG (by decide) (by simp [cat_int, cat_rf]) (Nat.le_of_ble_eq_true rfl) ?_
  refine g_aload_n d_D_begin_0 rfl ?_
  refine v_geti (v := 7) (τ := e) 192 rfl hV he (by decide) (by decide) fl_D_236 rfl d_D_begin_1 rfl ((se_192 hZ.2.1 he).trans hk) ?_
  refine g_tableIn 290 d_D_begin_4 (by decide) (by decide) rfl (by decide) ?_
  refine g_aload_n d_D_begin_290 rfl ?_
  refine v_geti (v := 7) (τ := e) 192 rfl hV he (by decide) (by decide) fl_D_236 rfl d_D_begin_291 rfl ((se_192 hZ.2.1 he).trans hk) ?_
  refine g_callS (k1 := 3) (n1 := 32) [.int (7)] cw_D_179 cs_D_isAtPlace d_D_begin_294 rfl rfl ⟨by simp, by simp⟩ (by first | decide | omega) (by first | decide | omega) (by first | decide | omega) (fun _ _ h => h) (s_D_isAtPlace hV _) (fun r_ M h_ hfr_ => ?_)
  obtain ⟨rfl, hV⟩ := h_
  refine g_if_eq 310 d_D_begin_297 (by decide) (fun c_297 => ?_) (fun c_297 => ?_)
  · skip
    refine g_aload_n d_D_begin_310 rfl ?_
    refine g_aload_n d_D_begin_311 rfl ?_
    refine g_iload_n d_D_begin_312 rfl ?_
    refine g_callV (k1 := 0) (n1 := 21) [va_rf (some (ad S 3 e)), .int (v)] cw_D_283 cv_F_beginFramed d_D_begin_313 rfl (hV.kdo (sl_4 hZ.2.1 hi) (by decide)) rfl rfl ⟨by simp, by simp⟩ (by first | decide | omega) (by first | decide | omega) (by first | decide | omega) (fun _ _ h => h) (s_F_beginFramed_7 ⟨hV, hZ.2⟩ hi h5 h15 hA hF he he40 (hx hn0) v hk) (fun r_ M h_ hfr_ => ?_)
    obtain ⟨rfl, S1, hZ1, hk1⟩ := h_
    exact g_return d_D_begin_316 rfl ⟨rfl, S1, hZ1, hk1⟩
  · exact absurd c_297 (by decide)
set_option maxHeartbeats 1000000 in
set_option maxRecDepth 100000 in
theorem s_D_begin_8 {P : Pst} {LL : Lls} {S : Gs} {M : Mm} (hZ : Zt P LL S M) {i e : Nat} (hi : i < nfb P) (h5 : P 5 i = 0) (h15 : P 15 i = 0) (hA : ¬ (P 6 i = 1 ∧ P 10 i = 0)) (hst : ¬ P 51 0 = 0) (he : lv S 3 e = true) (he40 : e < 40) (hx : ¬ a_R_needs (P 0 e) ≤ 0 → sm (P 1 e) 39) (hy : ¬ a_R_needs (P 0 e) ≤ 1 → sm (P 2 e) 39) (hpl : ¬ P 0 e < 19 → ¬ P 0 e = 25 → ∃ n, n < 4 ∧ P 1 e = nI n) (hL : ∀ n, n < 4 → LnOK P LL n) (hq : tn (P 43 0) + 1 ≤ nfb P) (hF : ∀ p, p < tn (P 22 i) → P 0 (tn (P 24 (16 * i + p))) = P 23 (16 * i + p)) (hS : ∀ j, j < nfb P → StOK P j) (hp : ¬ P 46 0 < 0) (v : Int32) (hk : P 0 e = 8) : Run m_D_begin ownC 4 3 32 [va_rf (some (ad S 0 0)), va_rf (some (ad S 4 i)), va_rf (some (ad S 3 e)), .int v] M (fun r M' => r = none ∧ ∃ S', Zt (frP P i e v) (LL) S' M' ∧ Kp P S S') := by
  have h10_ := n10 hZ.2.2.1
  have hq10 : tn (P 43 0) < 10 := by omega
  have hn0 : ¬ a_R_needs (P 0 e) ≤ 0 := by rw [hk]; decide
  have hV := hZ.1
  refine Run.ofG (by decide) (by simp [cat_int, cat_rf]) (Nat.le_of_ble_eq_true rfl) ?_
  refine g_aload_n d_D_begin_0 rfl ?_
  refine v_geti (v := 8) (τ := e) 192 rfl hV he (by decide) (by decide) fl_D_236 rfl d_D_begin_1 rfl ((se_192 hZ.2.1 he).trans hk) ?_
  refine g_tableIn 290 d_D_begin_4 (by decide) (by decide) rfl (by decide) ?_
  refine g_aload_n d_D_begin_290 rfl ?_
  refine v_geti (v := 8) (τ := e) 192 rfl hV he (by decide) (by decide) fl_D_236 rfl d_D_begin_291 rfl ((se_192 hZ.2.1 he).trans hk) ?_
  refine g_callS (k1 := 3) (n1 := 32) [.int (8)] cw_D_179 cs_D_isAtPlace d_D_begin_294 rfl rfl ⟨by simp, by simp⟩ (by first | decide | omega) (by first | decide | omega) (by first | decide | omega) (fun _ _ h => h) (s_D_isAtPlace hV _) (fun r_ M h_ hfr_ => ?_)
  obtain ⟨rfl, hV⟩ := h_
  refine g_if_eq 310 d_D_begin_297 (by decide) (fun c_297 => ?_) (fun c_297 => ?_)
  · skip
    refine g_aload_n d_D_begin_310 rfl ?_
    refine g_aload_n d_D_begin_311 rfl ?_
    refine g_iload_n d_D_begin_312 rfl ?_
    refine g_callV (k1 := 0) (n1 := 21) [va_rf (some (ad S 3 e)), .int (v)] cw_D_283 cv_F_beginFramed d_D_begin_313 rfl (hV.kdo (sl_4 hZ.2.1 hi) (by decide)) rfl rfl ⟨by simp, by simp⟩ (by first | decide | omega) (by first | decide | omega) (by first | decide | omega) (fun _ _ h => h) (s_F_beginFramed_8 ⟨hV, hZ.2⟩ hi h5 h15 hA hF he he40 (hx hn0) v hk) (fun r_ M h_ hfr_ => ?_)
    obtain ⟨rfl, S1, hZ1, hk1⟩ := h_
    exact g_return d_D_begin_316 rfl ⟨rfl, S1, hZ1, hk1⟩
  · exact absurd c_297 (by decide)
set_option maxHeartbeats 1000000 in
set_option maxRecDepth 100000 in
theorem s_D_begin_9 {P : Pst} {LL : Lls} {S : Gs} {M : Mm} (hZ : Zt P LL S M) {i e : Nat} (hi : i < nfb P) (h5 : P 5 i = 0) (h15 : P 15 i = 0) (hA : ¬ (P 6 i = 1 ∧ P 10 i = 0)) (hst : ¬ P 51 0 = 0) (he : lv S 3 e = true) (he40 : e < 40) (hx : ¬ a_R_needs (P 0 e) ≤ 0 → sm (P 1 e) 39) (hy : ¬ a_R_needs (P 0 e) ≤ 1 → sm (P 2 e) 39) (hpl : ¬ P 0 e < 19 → ¬ P 0 e = 25 → ∃ n, n < 4 ∧ P 1 e = nI n) (hL : ∀ n, n < 4 → LnOK P LL n) (hq : tn (P 43 0) + 1 ≤ nfb P) (hF : ∀ p, p < tn (P 22 i) → P 0 (tn (P 24 (16 * i + p))) = P 23 (16 * i + p)) (hS : ∀ j, j < nfb P → StOK P j) (hp : ¬ P 46 0 < 0) (v : Int32) (hk : P 0 e = 9) : Run m_D_begin ownC 4 3 32 [va_rf (some (ad S 0 0)), va_rf (some (ad S 4 i)), va_rf (some (ad S 3 e)), .int v] M (fun r M' => r = none ∧ ∃ S', Zt (frP P i e v) (LL) S' M' ∧ Kp P S S') := by
  have h10_ := n10 hZ.2.2.1
  have hq10 : tn (P 43 0) < 10 := by omega
  have hn0 : ¬ a_R_needs (P 0 e) ≤ 0 := by rw [hk]; decide
  have hV := hZ.1
  refine Run.ofG (by decide) (by simp [cat_int, cat_rf]) (Nat.le_of_ble_eq_true rfl) ?_
  refine g_aload_n d_D_begin_0 rfl ?_
  refine v_geti (v := 9) (τ := e) 192 rfl hV he (by decide) (by decide) fl_D_236 rfl d_D_begin_1 rfl ((se_192 hZ.2.1 he).trans hk) ?_
  refine g_tableIn 290 d_D_begin_4 (by decide) (by decide) rfl (by decide) ?_
  refine g_aload_n d_D_begin_290 rfl ?_
  refine v_geti (v := 9) (τ := e) 192 rfl hV he (by decide) (by decide) fl_D_236 rfl d_D_begin_291 rfl ((se_192 hZ.2.1 he).trans hk) ?_
  refine g_callS (k1 := 3) (n1 := 32) [.int (9)] cw_D_179 cs_D_isAtPlace d_D_begin_294 rfl rfl ⟨by simp, by simp⟩ (by first | decide | omega) (by first | decide | omega) (by first | decide | omega) (fun _ _ h => h) (s_D_isAtPlace hV _) (fun r_ M h_ hfr_ => ?_)
  obtain ⟨rfl, hV⟩ := h_
  refine g_if_eq 310 d_D_begin_297 (by decide) (fun c_297 => ?_) (fun c_297 => ?_)
  · skip
    refine g_aload_n d_D_begin_310 rfl ?_
    refine g_aload_n d_D_begin_311 rfl ?_
    refine g_iload_n d_D_begin_312 rfl ?_
    refine g_callV (k1 := 0) (n1 := 21) [va_rf (some (ad S 3 e)), .int (v)] cw_D_283 cv_F_beginFramed d_D_begin_313 rfl (hV.kdo (sl_4 hZ.2.1 hi) (by decide)) rfl rfl ⟨by simp, by simp⟩ (by first | decide | omega) (by first | decide | omega) (by first | decide | omega) (fun _ _ h => h) (s_F_beginFramed_9 ⟨hV, hZ.2⟩ hi h5 h15 hA hF he he40 (hx hn0) v hk) (fun r_ M h_ hfr_ => ?_)
    obtain ⟨rfl, S1, hZ1, hk1⟩ := h_
    exact g_return d_D_begin_316 rfl ⟨rfl, S1, hZ1, hk1⟩
  · exact absurd c_297 (by decide)
set_option maxHeartbeats 1000000 in
set_option maxRecDepth 100000 in
theorem s_D_begin_10 {P : Pst} {LL : Lls} {S : Gs} {M : Mm} (hZ : Zt P LL S M) {i e : Nat} (hi : i < nfb P) (h5 : P 5 i = 0) (h15 : P 15 i = 0) (hA : ¬ (P 6 i = 1 ∧ P 10 i = 0)) (hst : ¬ P 51 0 = 0) (he : lv S 3 e = true) (he40 : e < 40) (hx : ¬ a_R_needs (P 0 e) ≤ 0 → sm (P 1 e) 39) (hy : ¬ a_R_needs (P 0 e) ≤ 1 → sm (P 2 e) 39) (hpl : ¬ P 0 e < 19 → ¬ P 0 e = 25 → ∃ n, n < 4 ∧ P 1 e = nI n) (hL : ∀ n, n < 4 → LnOK P LL n) (hq : tn (P 43 0) + 1 ≤ nfb P) (hF : ∀ p, p < tn (P 22 i) → P 0 (tn (P 24 (16 * i + p))) = P 23 (16 * i + p)) (hS : ∀ j, j < nfb P → StOK P j) (hp : ¬ P 46 0 < 0) (v : Int32) (hk : P 0 e = 10) : Run m_D_begin ownC 4 3 32 [va_rf (some (ad S 0 0)), va_rf (some (ad S 4 i)), va_rf (some (ad S 3 e)), .int v] M (fun r M' => r = none ∧ ∃ S', Zt (frP P i e v) (LL) S' M' ∧ Kp P S S') := by
  have h10_ := n10 hZ.2.2.1
  have hq10 : tn (P 43 0) < 10 := by omega
  have hn0 : ¬ a_R_needs (P 0 e) ≤ 0 := by rw [hk]; decide
  have hV := hZ.1
  refine Run.ofG (by decide) (by simp [cat_int, cat_rf]) (Nat.le_of_ble_eq_true rfl) ?_
  refine g_aload_n d_D_begin_0 rfl ?_
  refine v_geti (v := 10) (τ := e) 192 rfl hV he (by decide) (by decide) fl_D_236 rfl d_D_begin_1 rfl ((se_192 hZ.2.1 he).trans hk) ?_
  refine g_tableIn 290 d_D_begin_4 (by decide) (by decide) rfl (by decide) ?_
  refine g_aload_n d_D_begin_290 rfl ?_
  refine v_geti (v := 10) (τ := e) 192 rfl hV he (by decide) (by decide) fl_D_236 rfl d_D_begin_291 rfl ((se_192 hZ.2.1 he).trans hk) ?_
  refine g_callS (k1 := 3) (n1 := 32) [.int (10)] cw_D_179 cs_D_isAtPlace d_D_begin_294 rfl rfl ⟨by simp, by simp⟩ (by first | decide | omega) (by first | decide | omega) (by first | decide | omega) (fun _ _ h => h) (s_D_isAtPlace hV _) (fun r_ M h_ hfr_ => ?_)
  obtain ⟨rfl, hV⟩ := h_
  refine g_if_eq 310 d_D_begin_297 (by decide) (fun c_297 => ?_) (fun c_297 => ?_)
  · skip
    refine g_aload_n d_D_begin_310 rfl ?_
    refine g_aload_n d_D_begin_311 rfl ?_
    refine g_iload_n d_D_begin_312 rfl ?_
    refine g_callV (k1 := 0) (n1 := 21) [va_rf (some (ad S 3 e)), .int (v)] cw_D_283 cv_F_beginFramed d_D_begin_313 rfl (hV.kdo (sl_4 hZ.2.1 hi) (by decide)) rfl rfl ⟨by simp, by simp⟩ (by first | decide | omega) (by first | decide | omega) (by first | decide | omega) (fun _ _ h => h) (s_F_beginFramed_10 ⟨hV, hZ.2⟩ hi h5 h15 hA hF he he40 (hx hn0) v hk) (fun r_ M h_ hfr_ => ?_)
    obtain ⟨rfl, S1, hZ1, hk1⟩ := h_
    exact g_return d_D_begin_316 rfl ⟨rfl, S1, hZ1, hk1⟩
  · exact absurd c_297 (by decide)
set_option maxHeartbeats 1000000 in
set_option maxRecDepth 100000 in
theorem s_D_begin_11 {P : Pst} {LL : Lls} {S : Gs} {M : Mm} (hZ : Zt P LL S M) {i e : Nat} (hi : i < nfb P) (h5 : P 5 i = 0) (h15 : P 15 i = 0) (hA : ¬ (P 6 i = 1 ∧ P 10 i = 0)) (hst : ¬ P 51 0 = 0) (he : lv S 3 e = true) (he40 : e < 40) (hx : ¬ a_R_needs (P 0 e) ≤ 0 → sm (P 1 e) 39) (hy : ¬ a_R_needs (P 0 e) ≤ 1 → sm (P 2 e) 39) (hpl : ¬ P 0 e < 19 → ¬ P 0 e = 25 → ∃ n, n < 4 ∧ P 1 e = nI n) (hL : ∀ n, n < 4 → LnOK P LL n) (hq : tn (P 43 0) + 1 ≤ nfb P) (hF : ∀ p, p < tn (P 22 i) → P 0 (tn (P 24 (16 * i + p))) = P 23 (16 * i + p)) (hS : ∀ j, j < nfb P → StOK P j) (hp : ¬ P 46 0 < 0) (v : Int32) (hk : P 0 e = 11) : Run m_D_begin ownC 4 3 32 [va_rf (some (ad S 0 0)), va_rf (some (ad S 4 i)), va_rf (some (ad S 3 e)), .int v] M (fun r M' => r = none ∧ ∃ S', Zt (p_R_register P i (P 1 e) v) (LL) S' M' ∧ Kp P S S') := by
  have h10_ := n10 hZ.2.2.1
  have hq10 : tn (P 43 0) < 10 := by omega
  have hn0 : ¬ a_R_needs (P 0 e) ≤ 0 := by rw [hk]; decide
  have hV := hZ.1
  refine Run.ofG (by decide) (by simp [cat_int, cat_rf]) (Nat.le_of_ble_eq_true rfl) ?_
  refine g_aload_n d_D_begin_0 rfl ?_
  refine v_geti (v := 11) (τ := e) 192 rfl hV he (by decide) (by decide) fl_D_236 rfl d_D_begin_1 rfl ((se_192 hZ.2.1 he).trans hk) ?_
  refine g_tableIn 178 d_D_begin_4 (by decide) (by decide) rfl (by decide) ?_
  refine g_aload_n d_D_begin_178 rfl ?_
  refine g_aload_n d_D_begin_179 rfl ?_
  refine v_getr (v := some (ad S 3 (tn (P 1 e)))) (τ := e) 194 rfl hV he (by decide) (by decide) fl_D_248 rfl d_D_begin_180 rfl (se_194 hZ.2.1 he hn0) ?_
  refine g_iload_n d_D_begin_183 rfl ?_
  refine g_callV (k1 := 0) (n1 := 28) [va_rf (some (ad S 3 (tn (P 1 e)))), .int (v)] cw_D_251 cv_F_register d_D_begin_184 rfl (hV.kdo (sl_4 hZ.2.1 hi) (by decide)) rfl rfl ⟨by simp, by simp⟩ (by first | decide | omega) (by first | decide | omega) (by first | decide | omega) (fun _ _ h => h) (s_F_register hZ hi h5 hF (hx hn0) (sl_x hZ.2.1 he hn0) v) (fun r_ M h_ hfr_ => ?_)
  obtain ⟨rfl, S1, hZ1, hk1⟩ := h_
  refine g_goto 316 d_D_begin_187 (by decide) ?_
  exact g_return d_D_begin_316 rfl ⟨rfl, S1, hZ1, hk1⟩
set_option maxHeartbeats 1000000 in
set_option maxRecDepth 100000 in
theorem s_D_begin_12 {P : Pst} {LL : Lls} {S : Gs} {M : Mm} (hZ : Zt P LL S M) {i e : Nat} (hi : i < nfb P) (h5 : P 5 i = 0) (h15 : P 15 i = 0) (hA : ¬ (P 6 i = 1 ∧ P 10 i = 0)) (hst : ¬ P 51 0 = 0) (he : lv S 3 e = true) (he40 : e < 40) (hx : ¬ a_R_needs (P 0 e) ≤ 0 → sm (P 1 e) 39) (hy : ¬ a_R_needs (P 0 e) ≤ 1 → sm (P 2 e) 39) (hpl : ¬ P 0 e < 19 → ¬ P 0 e = 25 → ∃ n, n < 4 ∧ P 1 e = nI n) (hL : ∀ n, n < 4 → LnOK P LL n) (hq : tn (P 43 0) + 1 ≤ nfb P) (hF : ∀ p, p < tn (P 22 i) → P 0 (tn (P 24 (16 * i + p))) = P 23 (16 * i + p)) (hS : ∀ j, j < nfb P → StOK P j) (hp : ¬ P 46 0 < 0) (v : Int32) (hk : P 0 e = 12) : Run m_D_begin ownC 4 3 32 [va_rf (some (ad S 0 0)), va_rf (some (ad S 4 i)), va_rf (some (ad S 3 e)), .int v] M (fun r M' => r = none ∧ ∃ S', Zt (if P 42 0 = 10 then p_R_fail P i 2 (-1) else p_R_give (p_R_make P (P 1 e) v (nI i)) i (P 42 0)) (if P 42 0 = 10 then LL else upL LL 0 (LL 0 ++ [nfb P])) S' M' ∧ Kp P S S') := by
  have h10_ := n10 hZ.2.2.1
  have hq10 : tn (P 43 0) < 10 := by omega
  have hn0 : ¬ a_R_needs (P 0 e) ≤ 0 := by rw [hk]; decide
  have hV := hZ.1
  refine Run.ofG (by decide) (by simp [cat_int, cat_rf]) (Nat.le_of_ble_eq_true rfl) ?_
  refine g_aload_n d_D_begin_0 rfl ?_
  refine v_geti (v := 12) (τ := e) 192 rfl hV he (by decide) (by decide) fl_D_236 rfl d_D_begin_1 rfl ((se_192 hZ.2.1 he).trans hk) ?_
  refine g_tableIn 190 d_D_begin_4 (by decide) (by decide) rfl (by decide) ?_
  refine g_aload_n d_D_begin_190 rfl ?_
  refine g_aload_n d_D_begin_191 rfl ?_
  refine g_aload_n d_D_begin_192 rfl ?_
  refine g_iload_n d_D_begin_193 rfl ?_
  refine g_callV (k1 := 0) (n1 := 16) [va_rf (some (ad S 4 i)), va_rf (some (ad S 3 e)), .int (v)] cw_D_255 cv_D_beginFork d_D_begin_194 rfl (hV.kdo (sl_0 hZ.2.1) (by decide)) rfl rfl ⟨by simp, by simp⟩ (by first | decide | omega) (by first | decide | omega) (by first | decide | omega) (fun _ _ h => h) (s_D_beginFork hZ hi h5 he hk (hx hn0) v hq10) (fun r_ M h_ hfr_ => ?_)
  obtain ⟨rfl, S1, hZ1, hk1⟩ := h_
  refine g_goto 316 d_D_begin_197 (by decide) ?_
  exact g_return d_D_begin_316 rfl ⟨rfl, S1, hZ1, hk1⟩
set_option maxHeartbeats 1000000 in
set_option maxRecDepth 100000 in
theorem s_D_begin_13 {P : Pst} {LL : Lls} {S : Gs} {M : Mm} (hZ : Zt P LL S M) {i e : Nat} (hi : i < nfb P) (h5 : P 5 i = 0) (h15 : P 15 i = 0) (hA : ¬ (P 6 i = 1 ∧ P 10 i = 0)) (hst : ¬ P 51 0 = 0) (he : lv S 3 e = true) (he40 : e < 40) (hx : ¬ a_R_needs (P 0 e) ≤ 0 → sm (P 1 e) 39) (hy : ¬ a_R_needs (P 0 e) ≤ 1 → sm (P 2 e) 39) (hpl : ¬ P 0 e < 19 → ¬ P 0 e = 25 → ∃ n, n < 4 ∧ P 1 e = nI n) (hL : ∀ n, n < 4 → LnOK P LL n) (hq : tn (P 43 0) + 1 ≤ nfb P) (hF : ∀ p, p < tn (P 22 i) → P 0 (tn (P 24 (16 * i + p))) = P 23 (16 * i + p)) (hS : ∀ j, j < nfb P → StOK P j) (hp : ¬ P 46 0 < 0) (v : Int32) (hk : P 0 e = 13) : Run m_D_begin ownC 4 3 32 [va_rf (some (ad S 0 0)), va_rf (some (ad S 4 i)), va_rf (some (ad S 3 e)), .int v] M (fun r M' => r = none ∧ ∃ S', Zt (jnP P i v) (LL) S' M' ∧ Kp P S S') := by
  have h10_ := n10 hZ.2.2.1
  have hq10 : tn (P 43 0) < 10 := by omega
  have hV := hZ.1
  refine Run.ofG (by decide) (by simp [cat_int, cat_rf]) (Nat.le_of_ble_eq_true rfl) ?_
  refine g_aload_n d_D_begin_0 rfl ?_
  refine v_geti (v := 13) (τ := e) 192 rfl hV he (by decide) (by decide) fl_D_236 rfl d_D_begin_1 rfl ((se_192 hZ.2.1 he).trans hk) ?_
  refine g_tableIn 200 d_D_begin_4 (by decide) (by decide) rfl (by decide) ?_
  refine g_aload_n d_D_begin_200 rfl ?_
  refine g_aload_n d_D_begin_201 rfl ?_
  refine g_iload_n d_D_begin_202 rfl ?_
  refine g_callV (k1 := 0) (n1 := 28) [va_rf (some (ad S 4 i)), .int (v)] cw_D_258 cv_D_beginJoin d_D_begin_203 rfl (hV.kdo (sl_0 hZ.2.1) (by decide)) rfl rfl ⟨by simp, by simp⟩ (by first | decide | omega) (by first | decide | omega) (by first | decide | omega) (fun _ _ h => h) (s_D_beginJoin hZ hi h5 v) (fun r_ M h_ hfr_ => ?_)
  obtain ⟨rfl, S1, hZ1, hk1⟩ := h_
  refine g_goto 316 d_D_begin_206 (by decide) ?_
  exact g_return d_D_begin_316 rfl ⟨rfl, S1, hZ1, hk1⟩
set_option maxHeartbeats 1000000 in
set_option maxRecDepth 100000 in
theorem s_D_begin_14 {P : Pst} {LL : Lls} {S : Gs} {M : Mm} (hZ : Zt P LL S M) {i e : Nat} (hi : i < nfb P) (h5 : P 5 i = 0) (h15 : P 15 i = 0) (hA : ¬ (P 6 i = 1 ∧ P 10 i = 0)) (hst : ¬ P 51 0 = 0) (he : lv S 3 e = true) (he40 : e < 40) (hx : ¬ a_R_needs (P 0 e) ≤ 0 → sm (P 1 e) 39) (hy : ¬ a_R_needs (P 0 e) ≤ 1 → sm (P 2 e) 39) (hpl : ¬ P 0 e < 19 → ¬ P 0 e = 25 → ∃ n, n < 4 ∧ P 1 e = nI n) (hL : ∀ n, n < 4 → LnOK P LL n) (hq : tn (P 43 0) + 1 ≤ nfb P) (hF : ∀ p, p < tn (P 22 i) → P 0 (tn (P 24 (16 * i + p))) = P 23 (16 * i + p)) (hS : ∀ j, j < nfb P → StOK P j) (hp : ¬ P 46 0 < 0) (v : Int32) (hk : P 0 e = 14) : Run m_D_begin ownC 4 3 32 [va_rf (some (ad S 0 0)), va_rf (some (ad S 4 i)), va_rf (some (ad S 3 e)), .int v] M (fun r M' => r = none ∧ ∃ S', Zt (hlP P i v) (hlL P LL v) S' M' ∧ Kp P S S') := by
  have h10_ := n10 hZ.2.2.1
  have hq10 : tn (P 43 0) < 10 := by omega
  have hV := hZ.1
  refine Run.ofG (by decide) (by simp [cat_int, cat_rf]) (Nat.le_of_ble_eq_true rfl) ?_
  refine g_aload_n d_D_begin_0 rfl ?_
  refine v_geti (v := 14) (τ := e) 192 rfl hV he (by decide) (by decide) fl_D_236 rfl d_D_begin_1 rfl ((se_192 hZ.2.1 he).trans hk) ?_
  refine g_tableIn 209 d_D_begin_4 (by decide) (by decide) rfl (by decide) ?_
  refine g_aload_n d_D_begin_209 rfl ?_
  refine g_aload_n d_D_begin_210 rfl ?_
  refine g_iload_n d_D_begin_211 rfl ?_
  refine g_callV (k1 := 0) (n1 := 28) [va_rf (some (ad S 4 i)), .int (v)] cw_D_261 cv_D_beginHalt d_D_begin_212 rfl (hV.kdo (sl_0 hZ.2.1) (by decide)) rfl rfl ⟨by simp, by simp⟩ (by first | decide | omega) (by first | decide | omega) (by first | decide | omega) (fun _ _ h => h) (s_D_beginHalt hZ hi h5 hA (fun j hj => (hS j hj).1) (fun j hj => (hS j hj).2.1) (fun j hj => (hS j hj).2.2) hq10 v) (fun r_ M h_ hfr_ => ?_)
  obtain ⟨rfl, S1, hZ1, hk1⟩ := h_
  refine g_goto 316 d_D_begin_215 (by decide) ?_
  exact g_return d_D_begin_316 rfl ⟨rfl, S1, hZ1, hk1⟩
set_option maxHeartbeats 1000000 in
set_option maxRecDepth 100000 in
theorem s_D_begin_15 {P : Pst} {LL : Lls} {S : Gs} {M : Mm} (hZ : Zt P LL S M) {i e : Nat} (hi : i < nfb P) (h5 : P 5 i = 0) (h15 : P 15 i = 0) (hA : ¬ (P 6 i = 1 ∧ P 10 i = 0)) (hst : ¬ P 51 0 = 0) (he : lv S 3 e = true) (he40 : e < 40) (hx : ¬ a_R_needs (P 0 e) ≤ 0 → sm (P 1 e) 39) (hy : ¬ a_R_needs (P 0 e) ≤ 1 → sm (P 2 e) 39) (hpl : ¬ P 0 e < 19 → ¬ P 0 e = 25 → ∃ n, n < 4 ∧ P 1 e = nI n) (hL : ∀ n, n < 4 → LnOK P LL n) (hq : tn (P 43 0) + 1 ≤ nfb P) (hF : ∀ p, p < tn (P 22 i) → P 0 (tn (P 24 (16 * i + p))) = P 23 (16 * i + p)) (hS : ∀ j, j < nfb P → StOK P j) (hp : ¬ P 46 0 < 0) (v : Int32) (hk : P 0 e = 15) : Run m_D_begin ownC 4 3 32 [va_rf (some (ad S 0 0)), va_rf (some (ad S 4 i)), va_rf (some (ad S 3 e)), .int v] M (fun r M' => r = none ∧ ∃ S', Zt (if P 42 0 ≤ 8 then p_R_rest (up (up (p_R_make (up (p_R_make P (P 1 e) v (nI i)) 19 i (a_R_make P (P 1 e) v (nI i))) (P 2 e) v (nI i)) 20 i (a_R_make (up (p_R_make P (P 1 e) v (nI i)) 19 i (a_R_make P (P 1 e) v (nI i))) (P 2 e) v (nI i))) 21 i (-1)) i 3 0 0 else p_R_fail P i 2 (-1)) (if P 42 0 ≤ 8 then upL LL 0 (LL 0 ++ [nfb P] ++ [nfb P + 1]) else LL) S' M' ∧ Kp P S S') := by
  have h10_ := n10 hZ.2.2.1
  have hq10 : tn (P 43 0) < 10 := by omega
  have hn0 : ¬ a_R_needs (P 0 e) ≤ 0 := by rw [hk]; decide
  have hn1 : ¬ a_R_needs (P 0 e) ≤ 1 := by rw [hk]; decide
  have hV := hZ.1
  refine Run.ofG (by decide) (by simp [cat_int, cat_rf]) (Nat.le_of_ble_eq_true rfl) ?_
  refine g_aload_n d_D_begin_0 rfl ?_
  refine v_geti (v := 15) (τ := e) 192 rfl hV he (by decide) (by decide) fl_D_236 rfl d_D_begin_1 rfl ((se_192 hZ.2.1 he).trans hk) ?_
  refine g_tableIn 218 d_D_begin_4 (by decide) (by decide) rfl (by decide) ?_
  refine g_aload_n d_D_begin_218 rfl ?_
  refine g_aload_n d_D_begin_219 rfl ?_
  refine g_aload_n d_D_begin_220 rfl ?_
  refine g_iload_n d_D_begin_221 rfl ?_
  refine g_callV (k1 := 0) (n1 := 0) [va_rf (some (ad S 4 i)), va_rf (some (ad S 3 e)), .int (v)] cw_D_264 cv_D_beginRace d_D_begin_222 rfl (hV.kdo (sl_0 hZ.2.1) (by decide)) rfl rfl ⟨by simp, by simp⟩ (by first | decide | omega) (by first | decide | omega) (by first | decide | omega) (fun _ _ h => h) (s_D_beginRace hZ hi h5 h15 he hk (hx hn0) (hy hn1) v hq) (fun r_ M h_ hfr_ => ?_)
  obtain ⟨rfl, S1, hZ1, hk1⟩ := h_
  refine g_goto 316 d_D_begin_225 (by decide) ?_
  exact g_return d_D_begin_316 rfl ⟨rfl, S1, hZ1, hk1⟩
set_option maxHeartbeats 1000000 in
set_option maxRecDepth 100000 in
theorem s_D_begin_16 {P : Pst} {LL : Lls} {S : Gs} {M : Mm} (hZ : Zt P LL S M) {i e : Nat} (hi : i < nfb P) (h5 : P 5 i = 0) (h15 : P 15 i = 0) (hA : ¬ (P 6 i = 1 ∧ P 10 i = 0)) (hst : ¬ P 51 0 = 0) (he : lv S 3 e = true) (he40 : e < 40) (hx : ¬ a_R_needs (P 0 e) ≤ 0 → sm (P 1 e) 39) (hy : ¬ a_R_needs (P 0 e) ≤ 1 → sm (P 2 e) 39) (hpl : ¬ P 0 e < 19 → ¬ P 0 e = 25 → ∃ n, n < 4 ∧ P 1 e = nI n) (hL : ∀ n, n < 4 → LnOK P LL n) (hq : tn (P 43 0) + 1 ≤ nfb P) (hF : ∀ p, p < tn (P 22 i) → P 0 (tn (P 24 (16 * i + p))) = P 23 (16 * i + p)) (hS : ∀ j, j < nfb P → StOK P j) (hp : ¬ P 46 0 < 0) (v : Int32) (hk : P 0 e = 16) : Run m_D_begin ownC 4 3 32 [va_rf (some (ad S 0 0)), va_rf (some (ad S 4 i)), va_rf (some (ad S 3 e)), .int v] M (fun r M' => r = none ∧ ∃ S', Zt (slP P i (P 1 e) v) (LL) S' M' ∧ Kp P S S') := by
  have h10_ := n10 hZ.2.2.1
  have hq10 : tn (P 43 0) < 10 := by omega
  have hV := hZ.1
  refine Run.ofG (by decide) (by simp [cat_int, cat_rf]) (Nat.le_of_ble_eq_true rfl) ?_
  refine g_aload_n d_D_begin_0 rfl ?_
  refine v_geti (v := 16) (τ := e) 192 rfl hV he (by decide) (by decide) fl_D_236 rfl d_D_begin_1 rfl ((se_192 hZ.2.1 he).trans hk) ?_
  refine g_tableIn 228 d_D_begin_4 (by decide) (by decide) rfl (by decide) ?_
  refine g_aload_n d_D_begin_228 rfl ?_
  refine g_aload_n d_D_begin_229 rfl ?_
  refine g_aload_n d_D_begin_230 rfl ?_
  refine v_geti (v := P 1 e) (τ := e) 193 rfl hV he (by decide) (by decide) fl_D_239 rfl d_D_begin_231 rfl (se_193 hZ.2.1 he) ?_
  refine g_iload_n d_D_begin_234 rfl ?_
  refine g_callV (k1 := 3) (n1 := 32) [va_rf (some (ad S 4 i)), .int (P 1 e), .int (v)] cw_D_267 cv_D_beginSleep d_D_begin_235 rfl (hV.kdo (sl_0 hZ.2.1) (by decide)) rfl rfl ⟨by simp, by simp⟩ (by first | decide | omega) (by first | decide | omega) (by first | decide | omega) (fun _ _ h => h) (s_D_beginSleep hZ hi h5 h15 (P 1 e) v) (fun r_ M h_ hfr_ => ?_)
  obtain ⟨rfl, S1, hZ1, hk1⟩ := h_
  refine g_goto 316 d_D_begin_238 (by decide) ?_
  exact g_return d_D_begin_316 rfl ⟨rfl, S1, hZ1, hk1⟩
set_option maxHeartbeats 1000000 in
set_option maxRecDepth 100000 in
theorem s_D_begin_17 {P : Pst} {LL : Lls} {S : Gs} {M : Mm} (hZ : Zt P LL S M) {i e : Nat} (hi : i < nfb P) (h5 : P 5 i = 0) (h15 : P 15 i = 0) (hA : ¬ (P 6 i = 1 ∧ P 10 i = 0)) (hst : ¬ P 51 0 = 0) (he : lv S 3 e = true) (he40 : e < 40) (hx : ¬ a_R_needs (P 0 e) ≤ 0 → sm (P 1 e) 39) (hy : ¬ a_R_needs (P 0 e) ≤ 1 → sm (P 2 e) 39) (hpl : ¬ P 0 e < 19 → ¬ P 0 e = 25 → ∃ n, n < 4 ∧ P 1 e = nI n) (hL : ∀ n, n < 4 → LnOK P LL n) (hq : tn (P 43 0) + 1 ≤ nfb P) (hF : ∀ p, p < tn (P 22 i) → P 0 (tn (P 24 (16 * i + p))) = P 23 (16 * i + p)) (hS : ∀ j, j < nfb P → StOK P j) (hp : ¬ P 46 0 < 0) (v : Int32) (hk : P 0 e = 17) : Run m_D_begin ownC 4 3 32 [va_rf (some (ad S 0 0)), va_rf (some (ad S 4 i)), va_rf (some (ad S 3 e)), .int v] M (fun r M' => r = none ∧ ∃ S', Zt (up (p_R_give P i v) 49 0 5) (LL) S' M' ∧ Kp P S S') := by
  have h10_ := n10 hZ.2.2.1
  have hq10 : tn (P 43 0) < 10 := by omega
  have hV := hZ.1
  refine Run.ofG (by decide) (by simp [cat_int, cat_rf]) (Nat.le_of_ble_eq_true rfl) ?_
  refine g_aload_n d_D_begin_0 rfl ?_
  refine v_geti (v := 17) (τ := e) 192 rfl hV he (by decide) (by decide) fl_D_236 rfl d_D_begin_1 rfl ((se_192 hZ.2.1 he).trans hk) ?_
  refine g_tableIn 241 d_D_begin_4 (by decide) (by decide) rfl (by decide) ?_
  refine g_aload_n d_D_begin_241 rfl ?_
  refine g_iload_n d_D_begin_242 rfl ?_
  refine g_callV (k1 := 3) (n1 := 32) [.int (v)] cw_D_242 cv_F_giveValue d_D_begin_243 rfl (hV.kdo (sl_4 hZ.2.1 hi) (by decide)) rfl rfl ⟨by simp, by simp⟩ (by first | decide | omega) (by first | decide | omega) (by first | decide | omega) (fun _ _ h => h) (v_F_giveValue hV (sl_4 hZ.2.1 hi) _) (fun r_ M h_ hfr_ => ?_)
  obtain ⟨rfl, hV⟩ := h_
  have hZ0 := hZ.give hi v (fun h => absurd (h5.symm.trans h) (by decide)) hV
  have hle0 : nfb P ≤ nfb (p_R_give P i v) := (Nat.le_refl _)
  have hK0 : Kp P S (exS S i v none) := Kp.trans (Kp.refl P S) (Kp.of rfl rfl) (Nat.le_refl _)
  have hi0_0 : i < nfb (p_R_give P i v) := Nat.lt_of_lt_of_le hi hle0
  have hl0_0 : lv (exS S i v none) 3 e = true := hK0.2.2 3 _ he
  have hV := hZ0.1
  refine g_aload_n d_D_begin_246 rfl ?_
  refine g_iconst (v := 0) d_D_begin_247 (by decide) ?_
  refine v_puti (τ := 0) 12 rfl hV (sl_0 hZ0.2.1) (by decide) (by decide) fl_D_61 (Or.inr (fun r h => by cases h; rfl)) rfl d_D_begin_248 (ad_r (ad_i (ad_r rfl))) (fun M hV => ?_)
  refine g_goto 316 d_D_begin_251 (by decide) ?_
  exact g_return d_D_begin_316 rfl ⟨rfl, ui (exS S i v none) 12 0 0, hZ0.turn (by decide) hV, Kp.of rfl rfl⟩
set_option maxHeartbeats 1000000 in
set_option maxRecDepth 100000 in
theorem s_D_begin_18 {P : Pst} {LL : Lls} {S : Gs} {M : Mm} (hZ : Zt P LL S M) {i e : Nat} (hi : i < nfb P) (h5 : P 5 i = 0) (h15 : P 15 i = 0) (hA : ¬ (P 6 i = 1 ∧ P 10 i = 0)) (hst : ¬ P 51 0 = 0) (he : lv S 3 e = true) (he40 : e < 40) (hx : ¬ a_R_needs (P 0 e) ≤ 0 → sm (P 1 e) 39) (hy : ¬ a_R_needs (P 0 e) ≤ 1 → sm (P 2 e) 39) (hpl : ¬ P 0 e < 19 → ¬ P 0 e = 25 → ∃ n, n < 4 ∧ P 1 e = nI n) (hL : ∀ n, n < 4 → LnOK P LL n) (hq : tn (P 43 0) + 1 ≤ nfb P) (hF : ∀ p, p < tn (P 22 i) → P 0 (tn (P 24 (16 * i + p))) = P 23 (16 * i + p)) (hS : ∀ j, j < nfb P → StOK P j) (hp : ¬ P 46 0 < 0) (v : Int32) (hk : P 0 e = 18) : Run m_D_begin ownC 4 3 32 [va_rf (some (ad S 0 0)), va_rf (some (ad S 4 i)), va_rf (some (ad S 3 e)), .int v] M (fun r M' => r = none ∧ ∃ S', Zt (p_put (p_R_give P i v) v) (LL) S' M' ∧ Kp P S S') := by
  have h10_ := n10 hZ.2.2.1
  have hq10 : tn (P 43 0) < 10 := by omega
  have hV := hZ.1
  refine Run.ofG (by decide) (by simp [cat_int, cat_rf]) (Nat.le_of_ble_eq_true rfl) ?_
  refine g_aload_n d_D_begin_0 rfl ?_
  refine v_geti (v := 18) (τ := e) 192 rfl hV he (by decide) (by decide) fl_D_236 rfl d_D_begin_1 rfl ((se_192 hZ.2.1 he).trans hk) ?_
  refine g_tableIn 254 d_D_begin_4 (by decide) (by decide) rfl (by decide) ?_
  refine g_aload_n d_D_begin_254 rfl ?_
  refine g_iload_n d_D_begin_255 rfl ?_
  refine g_callV (k1 := 3) (n1 := 32) [.int (v)] cw_D_242 cv_F_giveValue d_D_begin_256 rfl (hV.kdo (sl_4 hZ.2.1 hi) (by decide)) rfl rfl ⟨by simp, by simp⟩ (by first | decide | omega) (by first | decide | omega) (by first | decide | omega) (fun _ _ h => h) (v_F_giveValue hV (sl_4 hZ.2.1 hi) _) (fun r_ M h_ hfr_ => ?_)
  obtain ⟨rfl, hV⟩ := h_
  have hZ0 := hZ.give hi v (fun h => absurd (h5.symm.trans h) (by decide)) hV
  have hle0 : nfb P ≤ nfb (p_R_give P i v) := (Nat.le_refl _)
  have hK0 : Kp P S (exS S i v none) := Kp.trans (Kp.refl P S) (Kp.of rfl rfl) (Nat.le_refl _)
  have hi0_0 : i < nfb (p_R_give P i v) := Nat.lt_of_lt_of_le hi hle0
  have hl0_0 : lv (exS S i v none) 3 e = true := hK0.2.2 3 _ he
  have hV := hZ0.1
  refine g_aload_n d_D_begin_259 rfl ?_
  refine g_iload_n d_D_begin_260 rfl ?_
  refine g_callV (k1 := 3) (n1 := 32) [.int (v)] cw_D_271 cv_D_put d_D_begin_261 (ad_r (ad_i (ad_r rfl))) (hV.kdo (sl_0 hZ0.2.1) (by decide)) rfl rfl ⟨by simp, by simp⟩ (by first | decide | omega) (by first | decide | omega) (by first | decide | omega) (fun _ _ h => h) (s_D_put hZ0 v hp) (fun r_ M h_ hfr_ => ?_)
  obtain ⟨rfl, S1, hZ1, ha1, hb1⟩ := h_
  have hk1 : Kp P S S1 := Kp.trans hK0 (Kp.of ha1 hb1) (Nat.le_refl _)
  refine g_goto 316 d_D_begin_264 (by decide) ?_
  exact g_return d_D_begin_316 rfl ⟨rfl, S1, hZ1, hk1⟩
set_option maxHeartbeats 1000000 in
set_option maxRecDepth 100000 in
theorem s_D_begin_19 {P : Pst} {LL : Lls} {S : Gs} {M : Mm} (hZ : Zt P LL S M) {i e : Nat} (hi : i < nfb P) (h5 : P 5 i = 0) (h15 : P 15 i = 0) (hA : ¬ (P 6 i = 1 ∧ P 10 i = 0)) (hst : ¬ P 51 0 = 0) (he : lv S 3 e = true) (he40 : e < 40) (hx : ¬ a_R_needs (P 0 e) ≤ 0 → sm (P 1 e) 39) (hy : ¬ a_R_needs (P 0 e) ≤ 1 → sm (P 2 e) 39) (hpl : ¬ P 0 e < 19 → ¬ P 0 e = 25 → ∃ n, n < 4 ∧ P 1 e = nI n) (hL : ∀ n, n < 4 → LnOK P LL n) (hq : tn (P 43 0) + 1 ≤ nfb P) (hF : ∀ p, p < tn (P 22 i) → P 0 (tn (P 24 (16 * i + p))) = P 23 (16 * i + p)) (hS : ∀ j, j < nfb P → StOK P j) (hp : ¬ P 46 0 < 0) (v : Int32) (hk : P 0 e = 19) : Run m_D_begin ownC 4 3 32 [va_rf (some (ad S 0 0)), va_rf (some (ad S 4 i)), va_rf (some (ad S 3 e)), .int v] M (fun r M' => r = none ∧ ∃ S', Zt (shP P LL i 19 (tn (P 1 e)) v) (shL P LL i 19 (tn (P 1 e))) S' M' ∧ Kp P S S') := by
  have h10_ := n10 hZ.2.2.1
  have hq10 : tn (P 43 0) < 10 := by omega
  obtain ⟨n, hn4, en⟩ := hpl (by rw [hk]; decide) (by rw [hk]; decide)
  obtain ⟨hl1, hl5, hW5, hnd, hq5, hW6⟩ := hL n hn4
  rw [show tn (P 1 e) = n by rw [en, tn_nI (by omega)]]
  have hV := hZ.1
  refine Run.ofG (by decide) (by simp [cat_int, cat_rf]) (Nat.le_of_ble_eq_true rfl) ?_
  refine g_aload_n d_D_begin_0 rfl ?_
  refine v_geti (v := 19) (τ := e) 192 rfl hV he (by decide) (by decide) fl_D_236 rfl d_D_begin_1 rfl ((se_192 hZ.2.1 he).trans hk) ?_
  refine g_tableIn 290 d_D_begin_4 (by decide) (by decide) rfl (by decide) ?_
  refine g_aload_n d_D_begin_290 rfl ?_
  refine v_geti (v := 19) (τ := e) 192 rfl hV he (by decide) (by decide) fl_D_236 rfl d_D_begin_291 rfl ((se_192 hZ.2.1 he).trans hk) ?_
  refine g_callS (k1 := 3) (n1 := 32) [.int (19)] cw_D_179 cs_D_isAtPlace d_D_begin_294 rfl rfl ⟨by simp, by simp⟩ (by first | decide | omega) (by first | decide | omega) (by first | decide | omega) (fun _ _ h => h) (s_D_isAtPlace hV _) (fun r_ M h_ hfr_ => ?_)
  obtain ⟨rfl, hV⟩ := h_
  refine g_if_eq 310 d_D_begin_297 (by decide) (fun c_297 => ?_) (fun c_297 => ?_)
  · exact absurd c_297 (by decide)
  · skip
    refine g_aload_n d_D_begin_300 rfl ?_
    refine g_aload_n d_D_begin_301 rfl ?_
    refine g_aload_n d_D_begin_302 rfl ?_
    refine g_iload_n d_D_begin_303 rfl ?_
    refine g_callV (k1 := 3) (n1 := 32) [va_rf (some (ad S 4 i)), va_rf (some (ad S 3 e)), .int (v)] cw_D_280 cv_D_beginAtPlace d_D_begin_304 rfl (hV.kdo (sl_0 hZ.2.1) (by decide)) rfl rfl ⟨by simp, by simp⟩ (by first | decide | omega) (by first | decide | omega) (by first | decide | omega) (fun _ _ h => h) (s_D_beginAtPlace_19 ⟨hV, hZ.2⟩ hi h5 hst he hn4 en v hl1 hl5 hW5 hnd hq5 hW6 hq10 hk) (fun r_ M h_ hfr_ => ?_)
    obtain ⟨rfl, S1, hZ1, hk1⟩ := h_
    refine g_goto 316 d_D_begin_307 (by decide) ?_
    exact g_return d_D_begin_316 rfl ⟨rfl, S1, hZ1, hk1⟩
set_option maxHeartbeats 1000000 in
set_option maxRecDepth 100000 in
theorem s_D_begin_20 {P : Pst} {LL : Lls} {S : Gs} {M : Mm} (hZ : Zt P LL S M) {i e : Nat} (hi : i < nfb P) (h5 : P 5 i = 0) (h15 : P 15 i = 0) (hA : ¬ (P 6 i = 1 ∧ P 10 i = 0)) (hst : ¬ P 51 0 = 0) (he : lv S 3 e = true) (he40 : e < 40) (hx : ¬ a_R_needs (P 0 e) ≤ 0 → sm (P 1 e) 39) (hy : ¬ a_R_needs (P 0 e) ≤ 1 → sm (P 2 e) 39) (hpl : ¬ P 0 e < 19 → ¬ P 0 e = 25 → ∃ n, n < 4 ∧ P 1 e = nI n) (hL : ∀ n, n < 4 → LnOK P LL n) (hq : tn (P 43 0) + 1 ≤ nfb P) (hF : ∀ p, p < tn (P 22 i) → P 0 (tn (P 24 (16 * i + p))) = P 23 (16 * i + p)) (hS : ∀ j, j < nfb P → StOK P j) (hp : ¬ P 46 0 < 0) (v : Int32) (hk : P 0 e = 20) : Run m_D_begin ownC 4 3 32 [va_rf (some (ad S 0 0)), va_rf (some (ad S 4 i)), va_rf (some (ad S 3 e)), .int v] M (fun r M' => r = none ∧ ∃ S', Zt (shP P LL i 20 (tn (P 1 e)) v) (shL P LL i 20 (tn (P 1 e))) S' M' ∧ Kp P S S') := by
  have h10_ := n10 hZ.2.2.1
  have hq10 : tn (P 43 0) < 10 := by omega
  obtain ⟨n, hn4, en⟩ := hpl (by rw [hk]; decide) (by rw [hk]; decide)
  obtain ⟨hl1, hl5, hW5, hnd, hq5, hW6⟩ := hL n hn4
  rw [show tn (P 1 e) = n by rw [en, tn_nI (by omega)]]
  have hV := hZ.1
  refine Run.ofG (by decide) (by simp [cat_int, cat_rf]) (Nat.le_of_ble_eq_true rfl) ?_
  refine g_aload_n d_D_begin_0 rfl ?_
  refine v_geti (v := 20) (τ := e) 192 rfl hV he (by decide) (by decide) fl_D_236 rfl d_D_begin_1 rfl ((se_192 hZ.2.1 he).trans hk) ?_
  refine g_tableIn 290 d_D_begin_4 (by decide) (by decide) rfl (by decide) ?_
  refine g_aload_n d_D_begin_290 rfl ?_
  refine v_geti (v := 20) (τ := e) 192 rfl hV he (by decide) (by decide) fl_D_236 rfl d_D_begin_291 rfl ((se_192 hZ.2.1 he).trans hk) ?_
  refine g_callS (k1 := 3) (n1 := 32) [.int (20)] cw_D_179 cs_D_isAtPlace d_D_begin_294 rfl rfl ⟨by simp, by simp⟩ (by first | decide | omega) (by first | decide | omega) (by first | decide | omega) (fun _ _ h => h) (s_D_isAtPlace hV _) (fun r_ M h_ hfr_ => ?_)
  obtain ⟨rfl, hV⟩ := h_
  refine g_if_eq 310 d_D_begin_297 (by decide) (fun c_297 => ?_) (fun c_297 => ?_)
  · exact absurd c_297 (by decide)
  · skip
    refine g_aload_n d_D_begin_300 rfl ?_
    refine g_aload_n d_D_begin_301 rfl ?_
    refine g_aload_n d_D_begin_302 rfl ?_
    refine g_iload_n d_D_begin_303 rfl ?_
    refine g_callV (k1 := 3) (n1 := 32) [va_rf (some (ad S 4 i)), va_rf (some (ad S 3 e)), .int (v)] cw_D_280 cv_D_beginAtPlace d_D_begin_304 rfl (hV.kdo (sl_0 hZ.2.1) (by decide)) rfl rfl ⟨by simp, by simp⟩ (by first | decide | omega) (by first | decide | omega) (by first | decide | omega) (fun _ _ h => h) (s_D_beginAtPlace_20 ⟨hV, hZ.2⟩ hi h5 hst he hn4 en v hl1 hl5 hW5 hnd hq5 hW6 hq10 hk) (fun r_ M h_ hfr_ => ?_)
    obtain ⟨rfl, S1, hZ1, hk1⟩ := h_
    refine g_goto 316 d_D_begin_307 (by decide) ?_
    exact g_return d_D_begin_316 rfl ⟨rfl, S1, hZ1, hk1⟩
set_option maxHeartbeats 1000000 in
set_option maxRecDepth 100000 in
theorem s_D_begin_21 {P : Pst} {LL : Lls} {S : Gs} {M : Mm} (hZ : Zt P LL S M) {i e : Nat} (hi : i < nfb P) (h5 : P 5 i = 0) (h15 : P 15 i = 0) (hA : ¬ (P 6 i = 1 ∧ P 10 i = 0)) (hst : ¬ P 51 0 = 0) (he : lv S 3 e = true) (he40 : e < 40) (hx : ¬ a_R_needs (P 0 e) ≤ 0 → sm (P 1 e) 39) (hy : ¬ a_R_needs (P 0 e) ≤ 1 → sm (P 2 e) 39) (hpl : ¬ P 0 e < 19 → ¬ P 0 e = 25 → ∃ n, n < 4 ∧ P 1 e = nI n) (hL : ∀ n, n < 4 → LnOK P LL n) (hq : tn (P 43 0) + 1 ≤ nfb P) (hF : ∀ p, p < tn (P 22 i) → P 0 (tn (P 24 (16 * i + p))) = P 23 (16 * i + p)) (hS : ∀ j, j < nfb P → StOK P j) (hp : ¬ P 46 0 < 0) (v : Int32) (hk : P 0 e = 21) : Run m_D_begin ownC 4 3 32 [va_rf (some (ad S 0 0)), va_rf (some (ad S 4 i)), va_rf (some (ad S 3 e)), .int v] M (fun r M' => r = none ∧ ∃ S', Zt (shP P LL i 21 (tn (P 1 e)) v) (shL P LL i 21 (tn (P 1 e))) S' M' ∧ Kp P S S') := by
  have h10_ := n10 hZ.2.2.1
  have hq10 : tn (P 43 0) < 10 := by omega
  obtain ⟨n, hn4, en⟩ := hpl (by rw [hk]; decide) (by rw [hk]; decide)
  obtain ⟨hl1, hl5, hW5, hnd, hq5, hW6⟩ := hL n hn4
  rw [show tn (P 1 e) = n by rw [en, tn_nI (by omega)]]
  have hV := hZ.1
  refine Run.ofG (by decide) (by simp [cat_int, cat_rf]) (Nat.le_of_ble_eq_true rfl) ?_
  refine g_aload_n d_D_begin_0 rfl ?_
  refine v_geti (v := 21) (τ := e) 192 rfl hV he (by decide) (by decide) fl_D_236 rfl d_D_begin_1 rfl ((se_192 hZ.2.1 he).trans hk) ?_
  refine g_tableIn 290 d_D_begin_4 (by decide) (by decide) rfl (by decide) ?_
  refine g_aload_n d_D_begin_290 rfl ?_
  refine v_geti (v := 21) (τ := e) 192 rfl hV he (by decide) (by decide) fl_D_236 rfl d_D_begin_291 rfl ((se_192 hZ.2.1 he).trans hk) ?_
  refine g_callS (k1 := 3) (n1 := 32) [.int (21)] cw_D_179 cs_D_isAtPlace d_D_begin_294 rfl rfl ⟨by simp, by simp⟩ (by first | decide | omega) (by first | decide | omega) (by first | decide | omega) (fun _ _ h => h) (s_D_isAtPlace hV _) (fun r_ M h_ hfr_ => ?_)
  obtain ⟨rfl, hV⟩ := h_
  refine g_if_eq 310 d_D_begin_297 (by decide) (fun c_297 => ?_) (fun c_297 => ?_)
  · exact absurd c_297 (by decide)
  · skip
    refine g_aload_n d_D_begin_300 rfl ?_
    refine g_aload_n d_D_begin_301 rfl ?_
    refine g_aload_n d_D_begin_302 rfl ?_
    refine g_iload_n d_D_begin_303 rfl ?_
    refine g_callV (k1 := 3) (n1 := 32) [va_rf (some (ad S 4 i)), va_rf (some (ad S 3 e)), .int (v)] cw_D_280 cv_D_beginAtPlace d_D_begin_304 rfl (hV.kdo (sl_0 hZ.2.1) (by decide)) rfl rfl ⟨by simp, by simp⟩ (by first | decide | omega) (by first | decide | omega) (by first | decide | omega) (fun _ _ h => h) (s_D_beginAtPlace_21 ⟨hV, hZ.2⟩ hi h5 hst he hn4 en v hl1 hl5 hW5 hnd hq5 hW6 hq10 hk) (fun r_ M h_ hfr_ => ?_)
    obtain ⟨rfl, S1, hZ1, hk1⟩ := h_
    refine g_goto 316 d_D_begin_307 (by decide) ?_
    exact g_return d_D_begin_316 rfl ⟨rfl, S1, hZ1, hk1⟩
set_option maxHeartbeats 1000000 in
set_option maxRecDepth 100000 in
theorem s_D_begin_22 {P : Pst} {LL : Lls} {S : Gs} {M : Mm} (hZ : Zt P LL S M) {i e : Nat} (hi : i < nfb P) (h5 : P 5 i = 0) (h15 : P 15 i = 0) (hA : ¬ (P 6 i = 1 ∧ P 10 i = 0)) (hst : ¬ P 51 0 = 0) (he : lv S 3 e = true) (he40 : e < 40) (hx : ¬ a_R_needs (P 0 e) ≤ 0 → sm (P 1 e) 39) (hy : ¬ a_R_needs (P 0 e) ≤ 1 → sm (P 2 e) 39) (hpl : ¬ P 0 e < 19 → ¬ P 0 e = 25 → ∃ n, n < 4 ∧ P 1 e = nI n) (hL : ∀ n, n < 4 → LnOK P LL n) (hq : tn (P 43 0) + 1 ≤ nfb P) (hF : ∀ p, p < tn (P 22 i) → P 0 (tn (P 24 (16 * i + p))) = P 23 (16 * i + p)) (hS : ∀ j, j < nfb P → StOK P j) (hp : ¬ P 46 0 < 0) (v : Int32) (hk : P 0 e = 22) : Run m_D_begin ownC 4 3 32 [va_rf (some (ad S 0 0)), va_rf (some (ad S 4 i)), va_rf (some (ad S 3 e)), .int v] M (fun r M' => r = none ∧ ∃ S', Zt (shP P LL i 22 (tn (P 1 e)) v) (shL P LL i 22 (tn (P 1 e))) S' M' ∧ Kp P S S') := by
  have h10_ := n10 hZ.2.2.1
  have hq10 : tn (P 43 0) < 10 := by omega
  obtain ⟨n, hn4, en⟩ := hpl (by rw [hk]; decide) (by rw [hk]; decide)
  obtain ⟨hl1, hl5, hW5, hnd, hq5, hW6⟩ := hL n hn4
  rw [show tn (P 1 e) = n by rw [en, tn_nI (by omega)]]
  have hV := hZ.1
  refine Run.ofG (by decide) (by simp [cat_int, cat_rf]) (Nat.le_of_ble_eq_true rfl) ?_
  refine g_aload_n d_D_begin_0 rfl ?_
  refine v_geti (v := 22) (τ := e) 192 rfl hV he (by decide) (by decide) fl_D_236 rfl d_D_begin_1 rfl ((se_192 hZ.2.1 he).trans hk) ?_
  refine g_tableIn 290 d_D_begin_4 (by decide) (by decide) rfl (by decide) ?_
  refine g_aload_n d_D_begin_290 rfl ?_
  refine v_geti (v := 22) (τ := e) 192 rfl hV he (by decide) (by decide) fl_D_236 rfl d_D_begin_291 rfl ((se_192 hZ.2.1 he).trans hk) ?_
  refine g_callS (k1 := 3) (n1 := 32) [.int (22)] cw_D_179 cs_D_isAtPlace d_D_begin_294 rfl rfl ⟨by simp, by simp⟩ (by first | decide | omega) (by first | decide | omega) (by first | decide | omega) (fun _ _ h => h) (s_D_isAtPlace hV _) (fun r_ M h_ hfr_ => ?_)
  obtain ⟨rfl, hV⟩ := h_
  refine g_if_eq 310 d_D_begin_297 (by decide) (fun c_297 => ?_) (fun c_297 => ?_)
  · exact absurd c_297 (by decide)
  · skip
    refine g_aload_n d_D_begin_300 rfl ?_
    refine g_aload_n d_D_begin_301 rfl ?_
    refine g_aload_n d_D_begin_302 rfl ?_
    refine g_iload_n d_D_begin_303 rfl ?_
    refine g_callV (k1 := 3) (n1 := 32) [va_rf (some (ad S 4 i)), va_rf (some (ad S 3 e)), .int (v)] cw_D_280 cv_D_beginAtPlace d_D_begin_304 rfl (hV.kdo (sl_0 hZ.2.1) (by decide)) rfl rfl ⟨by simp, by simp⟩ (by first | decide | omega) (by first | decide | omega) (by first | decide | omega) (fun _ _ h => h) (s_D_beginAtPlace_22 ⟨hV, hZ.2⟩ hi h5 hst he hn4 en v hl1 hl5 hW5 hnd hq5 hW6 hq10 hk) (fun r_ M h_ hfr_ => ?_)
    obtain ⟨rfl, S1, hZ1, hk1⟩ := h_
    refine g_goto 316 d_D_begin_307 (by decide) ?_
    exact g_return d_D_begin_316 rfl ⟨rfl, S1, hZ1, hk1⟩
set_option maxHeartbeats 1000000 in
set_option maxRecDepth 100000 in
theorem s_D_begin_23 {P : Pst} {LL : Lls} {S : Gs} {M : Mm} (hZ : Zt P LL S M) {i e : Nat} (hi : i < nfb P) (h5 : P 5 i = 0) (h15 : P 15 i = 0) (hA : ¬ (P 6 i = 1 ∧ P 10 i = 0)) (hst : ¬ P 51 0 = 0) (he : lv S 3 e = true) (he40 : e < 40) (hx : ¬ a_R_needs (P 0 e) ≤ 0 → sm (P 1 e) 39) (hy : ¬ a_R_needs (P 0 e) ≤ 1 → sm (P 2 e) 39) (hpl : ¬ P 0 e < 19 → ¬ P 0 e = 25 → ∃ n, n < 4 ∧ P 1 e = nI n) (hL : ∀ n, n < 4 → LnOK P LL n) (hq : tn (P 43 0) + 1 ≤ nfb P) (hF : ∀ p, p < tn (P 22 i) → P 0 (tn (P 24 (16 * i + p))) = P 23 (16 * i + p)) (hS : ∀ j, j < nfb P → StOK P j) (hp : ¬ P 46 0 < 0) (v : Int32) (hk : P 0 e = 23) : Run m_D_begin ownC 4 3 32 [va_rf (some (ad S 0 0)), va_rf (some (ad S 4 i)), va_rf (some (ad S 3 e)), .int v] M (fun r M' => r = none ∧ ∃ S', Zt (shP P LL i 23 (tn (P 1 e)) v) (shL P LL i 23 (tn (P 1 e))) S' M' ∧ Kp P S S') := by
  have h10_ := n10 hZ.2.2.1
  have hq10 : tn (P 43 0) < 10 := by omega
  obtain ⟨n, hn4, en⟩ := hpl (by rw [hk]; decide) (by rw [hk]; decide)
  obtain ⟨hl1, hl5, hW5, hnd, hq5, hW6⟩ := hL n hn4
  rw [show tn (P 1 e) = n by rw [en, tn_nI (by omega)]]
  have hV := hZ.1
  refine Run.ofG (by decide) (by simp [cat_int, cat_rf]) (Nat.le_of_ble_eq_true rfl) ?_
  refine g_aload_n d_D_begin_0 rfl ?_
  refine v_geti (v := 23) (τ := e) 192 rfl hV he (by decide) (by decide) fl_D_236 rfl d_D_begin_1 rfl ((se_192 hZ.2.1 he).trans hk) ?_
  refine g_tableIn 290 d_D_begin_4 (by decide) (by decide) rfl (by decide) ?_
  refine g_aload_n d_D_begin_290 rfl ?_
  refine v_geti (v := 23) (τ := e) 192 rfl hV he (by decide) (by decide) fl_D_236 rfl d_D_begin_291 rfl ((se_192 hZ.2.1 he).trans hk) ?_
  refine g_callS (k1 := 3) (n1 := 32) [.int (23)] cw_D_179 cs_D_isAtPlace d_D_begin_294 rfl rfl ⟨by simp, by simp⟩ (by first | decide | omega) (by first | decide | omega) (by first | decide | omega) (fun _ _ h => h) (s_D_isAtPlace hV _) (fun r_ M h_ hfr_ => ?_)
  obtain ⟨rfl, hV⟩ := h_
  refine g_if_eq 310 d_D_begin_297 (by decide) (fun c_297 => ?_) (fun c_297 => ?_)
  · exact absurd c_297 (by decide)
  · skip
    refine g_aload_n d_D_begin_300 rfl ?_
    refine g_aload_n d_D_begin_301 rfl ?_
    refine g_aload_n d_D_begin_302 rfl ?_
    refine g_iload_n d_D_begin_303 rfl ?_
    refine g_callV (k1 := 3) (n1 := 32) [va_rf (some (ad S 4 i)), va_rf (some (ad S 3 e)), .int (v)] cw_D_280 cv_D_beginAtPlace d_D_begin_304 rfl (hV.kdo (sl_0 hZ.2.1) (by decide)) rfl rfl ⟨by simp, by simp⟩ (by first | decide | omega) (by first | decide | omega) (by first | decide | omega) (fun _ _ h => h) (s_D_beginAtPlace_23 ⟨hV, hZ.2⟩ hi h5 hst he hn4 en v hl1 hl5 hW5 hnd hq5 hW6 hq10 hk) (fun r_ M h_ hfr_ => ?_)
    obtain ⟨rfl, S1, hZ1, hk1⟩ := h_
    refine g_goto 316 d_D_begin_307 (by decide) ?_
    exact g_return d_D_begin_316 rfl ⟨rfl, S1, hZ1, hk1⟩
set_option maxHeartbeats 1000000 in
set_option maxRecDepth 100000 in
theorem s_D_begin_24 {P : Pst} {LL : Lls} {S : Gs} {M : Mm} (hZ : Zt P LL S M) {i e : Nat} (hi : i < nfb P) (h5 : P 5 i = 0) (h15 : P 15 i = 0) (hA : ¬ (P 6 i = 1 ∧ P 10 i = 0)) (hst : ¬ P 51 0 = 0) (he : lv S 3 e = true) (he40 : e < 40) (hx : ¬ a_R_needs (P 0 e) ≤ 0 → sm (P 1 e) 39) (hy : ¬ a_R_needs (P 0 e) ≤ 1 → sm (P 2 e) 39) (hpl : ¬ P 0 e < 19 → ¬ P 0 e = 25 → ∃ n, n < 4 ∧ P 1 e = nI n) (hL : ∀ n, n < 4 → LnOK P LL n) (hq : tn (P 43 0) + 1 ≤ nfb P) (hF : ∀ p, p < tn (P 22 i) → P 0 (tn (P 24 (16 * i + p))) = P 23 (16 * i + p)) (hS : ∀ j, j < nfb P → StOK P j) (hp : ¬ P 46 0 < 0) (v : Int32) (hk : P 0 e = 24) : Run m_D_begin ownC 4 3 32 [va_rf (some (ad S 0 0)), va_rf (some (ad S 4 i)), va_rf (some (ad S 3 e)), .int v] M (fun r M' => r = none ∧ ∃ S', Zt (shP P LL i 24 (tn (P 1 e)) v) (shL P LL i 24 (tn (P 1 e))) S' M' ∧ Kp P S S') := by
  have h10_ := n10 hZ.2.2.1
  have hq10 : tn (P 43 0) < 10 := by omega
  obtain ⟨n, hn4, en⟩ := hpl (by rw [hk]; decide) (by rw [hk]; decide)
  obtain ⟨hl1, hl5, hW5, hnd, hq5, hW6⟩ := hL n hn4
  rw [show tn (P 1 e) = n by rw [en, tn_nI (by omega)]]
  have hV := hZ.1
  refine Run.ofG (by decide) (by simp [cat_int, cat_rf]) (Nat.le_of_ble_eq_true rfl) ?_
  refine g_aload_n d_D_begin_0 rfl ?_
  refine v_geti (v := 24) (τ := e) 192 rfl hV he (by decide) (by decide) fl_D_236 rfl d_D_begin_1 rfl ((se_192 hZ.2.1 he).trans hk) ?_
  refine g_tableIn 290 d_D_begin_4 (by decide) (by decide) rfl (by decide) ?_
  refine g_aload_n d_D_begin_290 rfl ?_
  refine v_geti (v := 24) (τ := e) 192 rfl hV he (by decide) (by decide) fl_D_236 rfl d_D_begin_291 rfl ((se_192 hZ.2.1 he).trans hk) ?_
  refine g_callS (k1 := 3) (n1 := 32) [.int (24)] cw_D_179 cs_D_isAtPlace d_D_begin_294 rfl rfl ⟨by simp, by simp⟩ (by first | decide | omega) (by first | decide | omega) (by first | decide | omega) (fun _ _ h => h) (s_D_isAtPlace hV _) (fun r_ M h_ hfr_ => ?_)
  obtain ⟨rfl, hV⟩ := h_
  refine g_if_eq 310 d_D_begin_297 (by decide) (fun c_297 => ?_) (fun c_297 => ?_)
  · exact absurd c_297 (by decide)
  · skip
    refine g_aload_n d_D_begin_300 rfl ?_
    refine g_aload_n d_D_begin_301 rfl ?_
    refine g_aload_n d_D_begin_302 rfl ?_
    refine g_iload_n d_D_begin_303 rfl ?_
    refine g_callV (k1 := 3) (n1 := 32) [va_rf (some (ad S 4 i)), va_rf (some (ad S 3 e)), .int (v)] cw_D_280 cv_D_beginAtPlace d_D_begin_304 rfl (hV.kdo (sl_0 hZ.2.1) (by decide)) rfl rfl ⟨by simp, by simp⟩ (by first | decide | omega) (by first | decide | omega) (by first | decide | omega) (fun _ _ h => h) (s_D_beginAtPlace_24 ⟨hV, hZ.2⟩ hi h5 hst he hn4 en v hl1 hl5 hW5 hnd hq5 hW6 hq10 hk) (fun r_ M h_ hfr_ => ?_)
    obtain ⟨rfl, S1, hZ1, hk1⟩ := h_
    refine g_goto 316 d_D_begin_307 (by decide) ?_
    exact g_return d_D_begin_316 rfl ⟨rfl, S1, hZ1, hk1⟩
set_option maxHeartbeats 1000000 in
set_option maxRecDepth 100000 in
theorem s_D_begin_25 {P : Pst} {LL : Lls} {S : Gs} {M : Mm} (hZ : Zt P LL S M) {i e : Nat} (hi : i < nfb P) (h5 : P 5 i = 0) (h15 : P 15 i = 0) (hA : ¬ (P 6 i = 1 ∧ P 10 i = 0)) (hst : ¬ P 51 0 = 0) (he : lv S 3 e = true) (he40 : e < 40) (hx : ¬ a_R_needs (P 0 e) ≤ 0 → sm (P 1 e) 39) (hy : ¬ a_R_needs (P 0 e) ≤ 1 → sm (P 2 e) 39) (hpl : ¬ P 0 e < 19 → ¬ P 0 e = 25 → ∃ n, n < 4 ∧ P 1 e = nI n) (hL : ∀ n, n < 4 → LnOK P LL n) (hq : tn (P 43 0) + 1 ≤ nfb P) (hF : ∀ p, p < tn (P 22 i) → P 0 (tn (P 24 (16 * i + p))) = P 23 (16 * i + p)) (hS : ∀ j, j < nfb P → StOK P j) (hp : ¬ P 46 0 < 0) (v : Int32) (hk : P 0 e = 25) : Run m_D_begin ownC 4 3 32 [va_rf (some (ad S 0 0)), va_rf (some (ad S 4 i)), va_rf (some (ad S 3 e)), .int v] M (fun r M' => r = none ∧ ∃ S', Zt (if v = 0 then p_R_does P i (P 2 e) v else p_R_does P i (P 1 e) v) (LL) S' M' ∧ Kp P S S') := by
  have h10_ := n10 hZ.2.2.1
  have hq10 : tn (P 43 0) < 10 := by omega
  have hn0 : ¬ a_R_needs (P 0 e) ≤ 0 := by rw [hk]; decide
  have hn1 : ¬ a_R_needs (P 0 e) ≤ 1 := by rw [hk]; decide
  have hV := hZ.1
  refine Run.ofG (by decide) (by simp [cat_int, cat_rf]) (Nat.le_of_ble_eq_true rfl) ?_
  refine g_aload_n d_D_begin_0 rfl ?_
  refine v_geti (v := 25) (τ := e) 192 rfl hV he (by decide) (by decide) fl_D_236 rfl d_D_begin_1 rfl ((se_192 hZ.2.1 he).trans hk) ?_
  refine g_tableIn 267 d_D_begin_4 (by decide) (by decide) rfl (by decide) ?_
  refine g_aload_n d_D_begin_267 rfl ?_
  refine g_iload_n d_D_begin_268 rfl ?_
  refine g_if_eq 279 d_D_begin_269 (by decide) (fun c_269 => ?_) (fun c_269 => ?_)
  · skip
    refine g_aload_n d_D_begin_279 rfl ?_
    refine v_getr (v := some (ad S 3 (tn (P 2 e)))) (τ := e) 195 rfl hV he (by decide) (by decide) fl_D_274 rfl d_D_begin_280 rfl (se_195 hZ.2.1 he hn1) ?_
    refine g_iload_n d_D_begin_283 rfl ?_
    refine g_callV (k1 := 3) (n1 := 32) [va_rf (some (ad S 3 (tn (P 2 e)))), .int (v)] cw_D_277 cv_F_perform d_D_begin_284 rfl (hV.kdo (sl_4 hZ.2.1 hi) (by decide)) rfl rfl ⟨by simp, by simp⟩ (by first | decide | omega) (by first | decide | omega) (by first | decide | omega) (fun _ _ h => h) (v_F_perform hV (sl_4 hZ.2.1 hi) _ _) (fun r_ M h_ hfr_ => ?_)
    obtain ⟨rfl, hV⟩ := h_
    refine g_goto 316 d_D_begin_287 (by decide) ?_
    refine g_return d_D_begin_316 rfl ⟨rfl, doS S i (tn (P 2 e)) v, ?_, Kp.of rfl rfl⟩
    rw [if_pos c_269]
    exact hZ.does hi v (hy hn1) (sl_y hZ.2.1 he hn1) h5 hV
  · skip
    refine g_aload_n d_D_begin_272 rfl ?_
    refine v_getr (v := some (ad S 3 (tn (P 1 e)))) (τ := e) 194 rfl hV he (by decide) (by decide) fl_D_248 rfl d_D_begin_273 rfl (se_194 hZ.2.1 he hn0) ?_
    refine g_goto 283 d_D_begin_276 (by decide) ?_
    refine g_iload_n d_D_begin_283 rfl ?_
    refine g_callV (k1 := 3) (n1 := 32) [va_rf (some (ad S 3 (tn (P 1 e)))), .int (v)] cw_D_277 cv_F_perform d_D_begin_284 rfl (hV.kdo (sl_4 hZ.2.1 hi) (by decide)) rfl rfl ⟨by simp, by simp⟩ (by first | decide | omega) (by first | decide | omega) (by first | decide | omega) (fun _ _ h => h) (v_F_perform hV (sl_4 hZ.2.1 hi) _ _) (fun r_ M h_ hfr_ => ?_)
    obtain ⟨rfl, hV⟩ := h_
    refine g_goto 316 d_D_begin_287 (by decide) ?_
    refine g_return d_D_begin_316 rfl ⟨rfl, doS S i (tn (P 1 e)) v, ?_, Kp.of rfl rfl⟩
    rw [if_neg c_269]
    exact hZ.does hi v (hx hn0) (sl_x hZ.2.1 he hn0) h5 hV
