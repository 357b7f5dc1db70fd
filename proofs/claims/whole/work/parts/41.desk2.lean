/-! waking, interrupting (by program: wip/tools/gen_s2.py) -/
theorem plAt_in {S : Gs} {n : Nat} (hn : n < 4) : plAt S (nI n) = some (ad S 2 n) := by
  unfold plAt
  rw [if_neg (nI_pos (by omega)), if_neg (show ¬ (4 : Int32) ≤ nI n from ix_nle (a := 4) (b := n) rfl rfl hn (by decide)), tn_nI (by omega)]
theorem fbAt_in {P : Pst} {S : Gs} (hw : WB P) {i : Nat} (hi : i < nfb P) : fbAt P S (nI i) = some (ad S 4 i) := by
  have h10 := n10 hw
  unfold fbAt
  rw [if_neg (nI_pos (by omega)), if_neg (ix_nle (nf_nI hw) rfl hi (by omega)), tn_nI (by omega)]
theorem fbAt_out {P : Pst} {S : Gs} {x : Int32} (h : x < 0 ∨ (¬ x < 0 ∧ P 42 0 ≤ x)) : fbAt P S x = none := by
  unfold fbAt
  rcases h with h | ⟨h, h2⟩
  · rw [if_pos h]
  · rw [if_neg h, if_pos h2]
theorem efAt_in {P : Pst} {S : Gs} (hw : WB P) {e : Nat} (he : e < nef P) : efAt P S (nI e) = some (ad S 3 e) := by
  have h10 : nef P ≤ 40 := (hw 4 0).2
  unfold efAt
  rw [if_neg (nI_pos (by omega)), if_neg (ix_nle (hw 4 0).1 rfl he (by show nef P < _; omega)), tn_nI (by omega)]
theorem s_placeIn {P : Pst} {LL : Lls} {S : Gs} {M : Mm} (hZ : Zt P LL S M) {n : Nat} (hn : n < 4) : Run m_D_placeAt ownC 0 0 0 [va_rf (some (ad S 0 0)), .int (nI n)] M (fun r M' => r = some (va_rf (some (ad S 2 n))) ∧ VM S M') := (s_D_placeAt hZ (nI n)).weak (fun r M' h _ => by rw [plAt_in hn] at h; exact h)
theorem s_fiberIn {P : Pst} {LL : Lls} {S : Gs} {M : Mm} (hZ : Zt P LL S M) {i : Nat} (hi : i < nfb P) : Run m_D_fiberAt ownC 0 0 0 [va_rf (some (ad S 0 0)), .int (nI i)] M (fun r M' => r = some (va_rf (some (ad S 4 i))) ∧ VM S M') := (s_D_fiberAt hZ (nI i)).weak (fun r M' h _ => by rw [fbAt_in hZ.2.2.1 hi] at h; exact h)
theorem s_fiberOut {P : Pst} {LL : Lls} {S : Gs} {M : Mm} (hZ : Zt P LL S M) {x : Int32} (hx : x < 0 ∨ (¬ x < 0 ∧ P 42 0 ≤ x)) : Run m_D_fiberAt ownC 0 0 0 [va_rf (some (ad S 0 0)), .int x] M (fun r M' => r = some (va_rf none) ∧ VM S M') := (s_D_fiberAt hZ x).weak (fun r M' h _ => by rw [fbAt_out hx] at h; exact h)
def lvL (P : Pst) (LL : Lls) (i : Nat) : Lls := if P 15 i = 5 then upL LL (1 + tn (P 16 i)) (rmF (nI i) (LL (1 + tn (P 16 i)))) else if P 15 i = 6 then upL LL (5 + tn (P 16 i)) (rmF (nI i) (LL (5 + tn (P 16 i)))) else LL
theorem Zt.rm {P : Pst} {LL : Lls} {S : Gs} {M M' : Mm} (hZ : Zt P LL S M) {t : Nat} (ht : ¬ t = 0) {I : Pst} {l : List Nat} (hV : VM (sI S I) M') (hL : Ln (sI S I) t l) (hA : Ag (dL t) (vi S) I) : Zt P (upL LL t l) (sI S I) M' := ⟨hV, hZ.2.1.line hZ.2.2.1 hL hA, hZ.2.2.1, by rw [upL_n _ (Ne.symm ht)]; exact hZ.2.2.2⟩
set_option maxHeartbeats 4000000 in
set_option maxRecDepth 100000 in
theorem s_D_leaveLine {P : Pst} {LL : Lls} {S : Gs} {M : Mm} (hZ : Zt P LL S M) {i : Nat} (hi : i < nfb P) (h15 : P 15 i = 5 ∨ P 15 i = 6 → ∃ n, n < 4 ∧ P 16 i = nI n) {o : Option Nat} (ho : o = some (ad S 4 i)) : Run m_D_leaveLine ownC 1 0 0 [va_rf (some (ad S 0 0)), va_rf o] M (fun r M' => r = none ∧ ∃ S', Zt (P) (lvL P LL i) S' M' ∧ ad S' = ad S ∧ lv S' = lv S) := by
  subst ho
  have hV := hZ.1
  refine Run.ofG (by decide) (by simp [cat_int, cat_rf]) (Nat.le_of_ble_eq_true rfl) ?_
  by_cases h5 : P 15 i = 5
  · obtain ⟨n, hn, e16⟩ := h15 (Or.inl h5)
    refine g_aload_n d_D_leaveLine_0 rfl ?_
    refine g_aload_n d_D_leaveLine_1 rfl ?_
    refine v_geti (v := nI n) (τ := i) 270 rfl hV (sl_4 hZ.2.1 hi) (by decide) (by decide) fl_D_314 rfl d_D_leaveLine_2 rfl ((sf_270 hZ.2.1 hi (Or.inr (Or.inr (Or.inl h5)))).trans e16) ?_
    refine g_callV (k1 := 0) (n1 := 0) [.int (nI n)] cw_D_106 cv_D_placeAt d_D_leaveLine_5 rfl (hV.kdo (sl_0 hZ.2.1) (by decide)) rfl rfl ⟨by simp, by simp⟩ (by first | decide | omega) (by first | decide | omega) (by first | decide | omega) (fun _ _ h => h) (s_placeIn ⟨hV, hZ.2⟩ hn) (fun r_ M h_ hfr_ => ?_)
    obtain ⟨rfl, hV⟩ := h_
    refine g_astore_n d_D_leaveLine_8 (by decide) ?_
    refine g_aload_n d_D_leaveLine_9 rfl ?_
    refine g_ifnonnull 14 d_D_leaveLine_10 (by decide) (fun a_10 c_10 => ?_) (fun c_10 => ?_)
    · skip
      refine g_aload_n d_D_leaveLine_14 rfl ?_
      refine v_geti (v := 5) (τ := i) 269 rfl hV (sl_4 hZ.2.1 hi) (by decide) (by decide) fl_D_133 rfl d_D_leaveLine_15 rfl ((sf_269 hZ.2.1 hi).trans h5) ?_
      refine g_iconst (v := 5) d_D_leaveLine_18 (by decide) ?_
      refine g_icmp_ne 36 d_D_leaveLine_19 (by decide) (fun c_19 => ?_) (fun c_19 => ?_)
      · exact absurd c_19 (by decide)
      · skip
        refine g_aload_n d_D_leaveLine_22 rfl ?_
        refine v_getr (v := some (ad S 1 (1 + n))) (τ := n) 132 rfl hV (sl_2 hZ.2.1 hn) (by decide) (by decide) fl_D_167 rfl d_D_leaveLine_23 rfl (sp_132 hZ.2.1 hn) ?_
        refine g_aload_n d_D_leaveLine_26 rfl ?_
        refine v_geti (v := nI i) (τ := i) 256 rfl hV (sl_4 hZ.2.1 hi) (by decide) (by decide) fl_D_173 rfl d_D_leaveLine_27 rfl (sf_256 hZ.2.1 hi) ?_
        refine g_callV (k1 := 0) (n1 := 0) [.int (nI i)] cw_D_317 cv_L_remove d_D_leaveLine_30 rfl (hV.kdo (sl_1 hZ.2.1 (by omega)) (by decide)) rfl rfl ⟨by simp, by simp⟩ (by first | decide | omega) (by first | decide | omega) (by first | decide | omega) (fun _ _ h => h) (v_L_remove hV (ln hZ.2.1 (by omega)) (by omega) _) (fun r_ M h_ hfr_ => ?_)
        obtain ⟨rfl, I1, hV, hL1, hA1⟩ := h_
        refine g_goto 56 d_D_leaveLine_33 (by decide) ?_
        refine g_return d_D_leaveLine_56 rfl ⟨rfl, sI S I1, ?_, rfl, rfl⟩
        unfold lvL; rw [if_pos h5, e16, tn_nI (by omega)]; exact hZ.rm (by omega) hV hL1 hA1
    · exact absurd (Eq.trans (Eq.symm (rfl : some (ad S 2 n) = some _)) c_10) (by simp)
  by_cases h6 : P 15 i = 6
  · obtain ⟨n, hn, e16⟩ := h15 (Or.inr h6)
    refine g_aload_n d_D_leaveLine_0 rfl ?_
    refine g_aload_n d_D_leaveLine_1 rfl ?_
    refine v_geti (v := nI n) (τ := i) 270 rfl hV (sl_4 hZ.2.1 hi) (by decide) (by decide) fl_D_314 rfl d_D_leaveLine_2 rfl ((sf_270 hZ.2.1 hi (Or.inr (Or.inr (Or.inr h6)))).trans e16) ?_
    refine g_callV (k1 := 0) (n1 := 0) [.int (nI n)] cw_D_106 cv_D_placeAt d_D_leaveLine_5 rfl (hV.kdo (sl_0 hZ.2.1) (by decide)) rfl rfl ⟨by simp, by simp⟩ (by first | decide | omega) (by first | decide | omega) (by first | decide | omega) (fun _ _ h => h) (s_placeIn ⟨hV, hZ.2⟩ hn) (fun r_ M h_ hfr_ => ?_)
    obtain ⟨rfl, hV⟩ := h_
    refine g_astore_n d_D_leaveLine_8 (by decide) ?_
    refine g_aload_n d_D_leaveLine_9 rfl ?_
    refine g_ifnonnull 14 d_D_leaveLine_10 (by decide) (fun a_10 c_10 => ?_) (fun c_10 => ?_)
    · skip
      refine g_aload_n d_D_leaveLine_14 rfl ?_
      refine v_geti (v := 6) (τ := i) 269 rfl hV (sl_4 hZ.2.1 hi) (by decide) (by decide) fl_D_133 rfl d_D_leaveLine_15 rfl ((sf_269 hZ.2.1 hi).trans h6) ?_
      refine g_iconst (v := 5) d_D_leaveLine_18 (by decide) ?_
      refine g_icmp_ne 36 d_D_leaveLine_19 (by decide) (fun c_19 => ?_) (fun c_19 => ?_)
      · skip
        refine g_aload_n d_D_leaveLine_36 rfl ?_
        refine v_geti (v := 6) (τ := i) 269 rfl hV (sl_4 hZ.2.1 hi) (by decide) (by decide) fl_D_133 rfl d_D_leaveLine_37 rfl ((sf_269 hZ.2.1 hi).trans h6) ?_
        refine g_bipush (v := 6) d_D_leaveLine_40 (by decide) ?_
        refine g_icmp_ne 56 d_D_leaveLine_42 (by decide) (fun c_42 => ?_) (fun c_42 => ?_)
        · exact absurd c_42 (by decide)
        · skip
          refine g_aload_n d_D_leaveLine_45 rfl ?_
          refine v_getr (v := some (ad S 1 (5 + n))) (τ := n) 133 rfl hV (sl_2 hZ.2.1 hn) (by decide) (by decide) fl_D_170 rfl d_D_leaveLine_46 rfl (sp_133 hZ.2.1 hn) ?_
          refine g_aload_n d_D_leaveLine_49 rfl ?_
          refine v_geti (v := nI i) (τ := i) 256 rfl hV (sl_4 hZ.2.1 hi) (by decide) (by decide) fl_D_173 rfl d_D_leaveLine_50 rfl (sf_256 hZ.2.1 hi) ?_
          refine g_callV (k1 := 0) (n1 := 0) [.int (nI i)] cw_D_317 cv_L_remove d_D_leaveLine_53 rfl (hV.kdo (sl_1 hZ.2.1 (by omega)) (by decide)) rfl rfl ⟨by simp, by simp⟩ (by first | decide | omega) (by first | decide | omega) (by first | decide | omega) (fun _ _ h => h) (v_L_remove hV (ln hZ.2.1 (by omega)) (by omega) _) (fun r_ M h_ hfr_ => ?_)
          obtain ⟨rfl, I1, hV, hL1, hA1⟩ := h_
          refine g_return d_D_leaveLine_56 rfl ⟨rfl, sI S I1, ?_, rfl, rfl⟩
          unfold lvL; rw [if_neg h5, if_pos h6, e16, tn_nI (by omega)]; exact hZ.rm (by omega) hV hL1 hA1
      · exact absurd c_19 (by decide)
    · exact absurd (Eq.trans (Eq.symm (rfl : some (ad S 2 n) = some _)) c_10) (by simp)
  refine g_aload_n d_D_leaveLine_0 rfl ?_
  refine g_aload_n d_D_leaveLine_1 rfl ?_
  refine v_geti (v := vi S 270 i) (τ := i) 270 rfl hV (sl_4 hZ.2.1 hi) (by decide) (by decide) fl_D_314 rfl d_D_leaveLine_2 rfl rfl ?_
  refine g_callV (k1 := 0) (n1 := 0) [.int (vi S 270 i)] cw_D_106 cv_D_placeAt d_D_leaveLine_5 rfl (hV.kdo (sl_0 hZ.2.1) (by decide)) rfl rfl ⟨by simp, by simp⟩ (by first | decide | omega) (by first | decide | omega) (by first | decide | omega) (fun _ _ h => h) (s_D_placeAt ⟨hV, hZ.2⟩ _) (fun r_ M h_ hfr_ => ?_)
  obtain ⟨rfl, hV⟩ := h_
  refine g_astore_n d_D_leaveLine_8 (by decide) ?_
  refine g_aload_n d_D_leaveLine_9 rfl ?_
  refine g_ifnonnull 14 d_D_leaveLine_10 (by decide) (fun a_10 c_10 => ?_) (fun c_10 => ?_)
  · skip
    refine g_aload_n d_D_leaveLine_14 rfl ?_
    refine v_geti (v := P 15 i) (τ := i) 269 rfl hV (sl_4 hZ.2.1 hi) (by decide) (by decide) fl_D_133 rfl d_D_leaveLine_15 rfl (sf_269 hZ.2.1 hi) ?_
    refine g_iconst (v := 5) d_D_leaveLine_18 (by decide) ?_
    refine g_icmp_ne 36 d_D_leaveLine_19 (by decide) (fun c_19 => ?_) (fun c_19 => ?_)
    · skip
      refine g_aload_n d_D_leaveLine_36 rfl ?_
      refine v_geti (v := P 15 i) (τ := i) 269 rfl hV (sl_4 hZ.2.1 hi) (by decide) (by decide) fl_D_133 rfl d_D_leaveLine_37 rfl (sf_269 hZ.2.1 hi) ?_
      refine g_bipush (v := 6) d_D_leaveLine_40 (by decide) ?_
      refine g_icmp_ne 56 d_D_leaveLine_42 (by decide) (fun c_42 => ?_) (fun c_42 => ?_)
      · skip
        exact g_return d_D_leaveLine_56 rfl ⟨rfl, S, by unfold lvL; rw [if_neg h5, if_neg h6]; exact ⟨hV, hZ.2⟩, rfl, rfl⟩
      · exact absurd (show P 15 i = 6 from c_42) h6
    · exact absurd (show P 15 i = 5 from c_19) h5
  · skip
    exact g_return d_D_leaveLine_13 rfl ⟨rfl, S, by unfold lvL; rw [if_neg h5, if_neg h6]; exact ⟨hV, hZ.2⟩, rfl, rfl⟩
/-- the lines behind an interrupt -/
def skL (P : Pst) (LL : Lls) (i : Nat) : Lls := if P 5 i = 1 ∧ P 6 i = 0 ∧ P 10 i = 0 then upL (lvL P LL i) 0 (LL 0 ++ [i]) else LL
theorem lvL_0 {P : Pst} (LL : Lls) (i : Nat) : lvL P LL i 0 = LL 0 := by
  unfold lvL
  split
  · rw [upL_n _ (by omega)]
  · split
    · rw [upL_n _ (by omega)]
    · rfl
theorem lvL_told (P : Pst) (LL : Lls) (i : Nat) (w : Int32) : lvL (up (up P 6 i 1) 7 i w) LL i = lvL P LL i := by
  unfold lvL
  simp [up_e]
theorem Zt.told {P : Pst} {LL : Lls} {S : Gs} {M M' : Mm} (hZ : Zt P LL S M) {i : Nat} (hi : i < nfb P) (who : Int32) (hV : VM (ui (ui S 266 i 1) 267 i who) M') : Zt (up (up P 6 i 1) 7 i who) LL (ui (ui S 266 i 1) 267 i who) M' := by
  refine ⟨hV, hZ.2.1.told hZ.2.2.1 hi who, WB.up (WB.up hZ.2.2.1 ?_) ?_, by simpa [up_e] using hZ.2.2.2⟩
  all_goals exact trivial
set_option maxHeartbeats 4000000 in
set_option maxRecDepth 100000 in
theorem s_D_sendInterrupt {P : Pst} {LL : Lls} {S : Gs} {M : Mm} (hZ : Zt P LL S M) {i : Nat} (hi : i < nfb P) (who : Int32) (h6 : P 6 i = 0 ∨ P 6 i = 1 ∨ P 6 i = 2) (h15 : P 5 i = 1 ↔ ¬ P 15 i = 0) (h16 : P 15 i = 5 ∨ P 15 i = 6 → ∃ n, n < 4 ∧ P 16 i = nI n) (hq : P 5 i = 1 → tn (P 43 0) < 10) {o : Option Nat} (ho : o = some (ad S 4 i)) : Run m_D_sendInterrupt ownC 2 0 0 [va_rf (some (ad S 0 0)), va_rf o, .int who] M (fun r M' => r = none ∧ ∃ S', Zt (p_R_strike P i who) (skL P LL i) S' M' ∧ ad S' = ad S ∧ lv S' = lv S) := by
  subst ho
  have hV := hZ.1
  refine Run.ofG (by decide) (by simp [cat_int, cat_rf]) (Nat.le_of_ble_eq_true rfl) ?_
  by_cases h5 : P 5 i = 2
  · skip
    refine g_aload_n d_D_sendInterrupt_0 rfl ?_
    refine v_geti (v := 1) (τ := i) 262 rfl hV (sl_4 hZ.2.1 hi) (by decide) (by decide) fl_D_98 rfl d_D_sendInterrupt_1 rfl ((sf_262 hZ.2.1 hi).trans (by rw [h5]; rfl)) ?_
    refine g_if_ne 14 d_D_sendInterrupt_4 (by decide) (fun c_4 => ?_) (fun c_4 => ?_)
    · skip
      exact g_return d_D_sendInterrupt_14 rfl ⟨rfl, S, by rw [show p_R_strike P i who = P by unfold p_R_strike; rw [if_pos h5], show skL P LL i = LL by unfold skL; rw [if_neg (fun q => by rw [q.1] at h5; exact absurd h5 (by decide))]]; exact ⟨hV, hZ.2⟩, rfl, rfl⟩
    · exact absurd c_4 (by decide)
  by_cases h60 : P 6 i = 0
  rotate_left
  · have hle : ¬ P 6 i ≤ 0 := by rcases h6 with q | q | q; exact absurd q h60; all_goals (rw [q]; decide)
    refine g_aload_n d_D_sendInterrupt_0 rfl ?_
    refine v_geti (v := 0) (τ := i) 262 rfl hV (sl_4 hZ.2.1 hi) (by decide) (by decide) fl_D_98 rfl d_D_sendInterrupt_1 rfl ((sf_262 hZ.2.1 hi).trans (by unfold endI; rw [if_neg h5])) ?_
    refine g_if_ne 14 d_D_sendInterrupt_4 (by decide) (fun c_4 => ?_) (fun c_4 => ?_)
    · exact absurd c_4 (by decide)
    · skip
      refine g_aload_n d_D_sendInterrupt_7 rfl ?_
      refine v_geti (v := P 6 i) (τ := i) 266 rfl hV (sl_4 hZ.2.1 hi) (by decide) (by decide) fl_D_123 rfl d_D_sendInterrupt_8 rfl (sf_266 hZ.2.1 hi) ?_
      refine g_if_eq 15 d_D_sendInterrupt_11 (by decide) (fun c_11 => ?_) (fun c_11 => ?_)
      · exact absurd (show P 6 i = 0 from c_11) h60
      · skip
        exact g_return d_D_sendInterrupt_14 rfl ⟨rfl, S, by rw [show p_R_strike P i who = P by unfold p_R_strike; rw [if_neg h5, if_neg hle], show skL P LL i = LL by unfold skL; rw [if_neg (fun q => h60 q.2.1)]]; exact ⟨hV, hZ.2⟩, rfl, rfl⟩
  have hle : P 6 i ≤ 0 := by rw [h60]; decide
  by_cases hc : P 5 i = 1 ∧ P 10 i = 0
  · have h15n : ¬ P 15 i = 0 := h15.mp hc.1
    refine g_aload_n d_D_sendInterrupt_0 rfl ?_
    refine v_geti (v := 0) (τ := i) 262 rfl hV (sl_4 hZ.2.1 hi) (by decide) (by decide) fl_D_98 rfl d_D_sendInterrupt_1 rfl ((sf_262 hZ.2.1 hi).trans (by unfold endI; rw [if_neg h5])) ?_
    refine g_if_ne 14 d_D_sendInterrupt_4 (by decide) (fun c_4 => ?_) (fun c_4 => ?_)
    · exact absurd c_4 (by decide)
    · skip
      refine g_aload_n d_D_sendInterrupt_7 rfl ?_
      refine v_geti (v := 0) (τ := i) 266 rfl hV (sl_4 hZ.2.1 hi) (by decide) (by decide) fl_D_123 rfl d_D_sendInterrupt_8 rfl ((sf_266 hZ.2.1 hi).trans h60) ?_
      refine g_if_eq 15 d_D_sendInterrupt_11 (by decide) (fun c_11 => ?_) (fun c_11 => ?_)
      · skip
        refine g_aload_n d_D_sendInterrupt_15 rfl ?_
        refine g_iconst (v := 1) d_D_sendInterrupt_16 (by decide) ?_
        refine v_puti (τ := i) 266 rfl hV (sl_4 hZ.2.1 hi) (by decide) (by decide) fl_D_123 (Or.inr (fun r h => by cases h; rfl)) rfl d_D_sendInterrupt_17 rfl (fun M hV => ?_)
        refine g_aload_n d_D_sendInterrupt_20 rfl ?_
        refine g_iload_n d_D_sendInterrupt_21 rfl ?_
        refine v_puti (τ := i) 267 rfl hV (lv_i (sl_4 hZ.2.1 hi)) (by decide) (by decide) fl_D_193 (Or.inr (fun r h => by cases h; rfl)) rfl d_D_sendInterrupt_22 (ad_i rfl) (fun M hV => ?_)
        refine g_aload_n d_D_sendInterrupt_25 rfl ?_
        refine v_geti (v := P 15 i) (τ := i) 269 rfl hV (lv_i (lv_i (sl_4 hZ.2.1 hi))) (by decide) (by decide) fl_D_133 rfl d_D_sendInterrupt_26 (ad_i (ad_i rfl)) ((vi_ui_f (by decide) _ _ _ _).trans ((vi_ui_f (by decide) _ _ _ _).trans (sf_269 hZ.2.1 hi))) ?_
        refine g_if_eq 49 d_D_sendInterrupt_29 (by decide) (fun c_29 => ?_) (fun c_29 => ?_)
        · exact absurd (show P 15 i = 0 from c_29) h15n
        · skip
          refine g_aload_n d_D_sendInterrupt_32 rfl ?_
          refine v_geti (v := 0) (τ := i) 265 rfl hV (lv_i (lv_i (sl_4 hZ.2.1 hi))) (by decide) (by decide) fl_D_117 rfl d_D_sendInterrupt_33 (ad_i (ad_i rfl)) ((vi_ui_f (by decide) _ _ _ _).trans ((vi_ui_f (by decide) _ _ _ _).trans ((sf_265 hZ.2.1 hi).trans hc.2))) ?_
          refine g_if_ne 49 d_D_sendInterrupt_36 (by decide) (fun c_36 => ?_) (fun c_36 => ?_)
          · exact absurd c_36 (by decide)
          · skip
            have hZ1 := hZ.told hi who hV
            have hi1 : i < nfb (up (up P 6 i 1) 7 i who) := hi
            refine g_aload_n d_D_sendInterrupt_39 rfl ?_
            refine g_aload_n d_D_sendInterrupt_40 rfl ?_
            refine g_callV (k1 := 0) (n1 := 0) [va_rf (some (ad S 4 i))] cw_D_311 cv_D_leaveLine d_D_sendInterrupt_41 (ad_i (ad_i rfl)) (hV.kdo (sl_0 hZ1.2.1) (by decide)) rfl rfl ⟨by simp, by simp⟩ (by first | decide | omega) (by first | decide | omega) (by first | decide | omega) (fun _ _ h => h) (s_D_leaveLine hZ1 hi1 (by simpa [up_e] using h16) (ad_i (ad_i rfl))) (fun r_ M h_ hfr_ => ?_)
            obtain ⟨rfl, S2, hZ2, ha2, hl2⟩ := h_
            have hV := hZ2.1
            have hk2 : Kp (up (up P 6 i 1) 7 i who) (ui (ui S 266 i 1) 267 i who) S2 := Kp.of ha2 hl2
            refine g_aload_n d_D_sendInterrupt_44 rfl ?_
            refine g_aload_n d_D_sendInterrupt_45 rfl ?_
            refine g_callV (k1 := 0) (n1 := 0) [va_rf (some (ad S 4 i))] cw_D_233 cv_D_goOn d_D_sendInterrupt_46 (ad_k (ad_i (ad_i rfl)) (hk2.1 0 0 (by decide) (by decide) (sl_0 hZ1.2.1))) (hV.kdo (sl_0 hZ2.2.1) (by decide)) rfl rfl ⟨by simp, by simp⟩ (by first | decide | omega) (by first | decide | omega) (by first | decide | omega) (fun _ _ h => h) (s_D_goOn hZ2 hi1 (by simpa [up_e] using hc.1) (Or.inl ⟨by simp [up_e], by simpa [up_e] using hc.2⟩) (by simpa [up_e] using hq hc.1) (ad_k (ad_i (ad_i rfl)) (hk2.2.1 i hi1))) (fun r_ M h_ hfr_ => ?_)
            obtain ⟨rfl, S3, hZ3, ha3, hl3⟩ := h_
            refine g_return d_D_sendInterrupt_49 rfl ⟨rfl, S3, ?_, ha3.trans ha2, hl3.trans hl2⟩
            rw [show p_R_strike P i who = p_R_wake (up (up P 6 i 1) 7 i who) i by unfold p_R_strike; rw [if_neg h5, if_pos hle, if_pos hc.1, if_pos hc.2], show skL P LL i = upL (lvL (up (up P 6 i 1) 7 i who) LL i) 0 (lvL (up (up P 6 i 1) 7 i who) LL i 0 ++ [i]) by unfold skL; rw [if_pos ⟨hc.1, h60, hc.2⟩, lvL_told, lvL_0]]
            exact hZ3
      · exact absurd c_11 (by decide)
  · skip
    refine g_aload_n d_D_sendInterrupt_0 rfl ?_
    refine v_geti (v := 0) (τ := i) 262 rfl hV (sl_4 hZ.2.1 hi) (by decide) (by decide) fl_D_98 rfl d_D_sendInterrupt_1 rfl ((sf_262 hZ.2.1 hi).trans (by unfold endI; rw [if_neg h5])) ?_
    refine g_if_ne 14 d_D_sendInterrupt_4 (by decide) (fun c_4 => ?_) (fun c_4 => ?_)
    · exact absurd c_4 (by decide)
    · skip
      refine g_aload_n d_D_sendInterrupt_7 rfl ?_
      refine v_geti (v := 0) (τ := i) 266 rfl hV (sl_4 hZ.2.1 hi) (by decide) (by decide) fl_D_123 rfl d_D_sendInterrupt_8 rfl ((sf_266 hZ.2.1 hi).trans h60) ?_
      refine g_if_eq 15 d_D_sendInterrupt_11 (by decide) (fun c_11 => ?_) (fun c_11 => ?_)
      · skip
        refine g_aload_n d_D_sendInterrupt_15 rfl ?_
        refine g_iconst (v := 1) d_D_sendInterrupt_16 (by decide) ?_
        refine v_puti (τ := i) 266 rfl hV (sl_4 hZ.2.1 hi) (by decide) (by decide) fl_D_123 (Or.inr (fun r h => by cases h; rfl)) rfl d_D_sendInterrupt_17 rfl (fun M hV => ?_)
        refine g_aload_n d_D_sendInterrupt_20 rfl ?_
        refine g_iload_n d_D_sendInterrupt_21 rfl ?_
        refine v_puti (τ := i) 267 rfl hV (lv_i (sl_4 hZ.2.1 hi)) (by decide) (by decide) fl_D_193 (Or.inr (fun r h => by cases h; rfl)) rfl d_D_sendInterrupt_22 (ad_i rfl) (fun M hV => ?_)
        refine g_aload_n d_D_sendInterrupt_25 rfl ?_
        refine v_geti (v := P 15 i) (τ := i) 269 rfl hV (lv_i (lv_i (sl_4 hZ.2.1 hi))) (by decide) (by decide) fl_D_133 rfl d_D_sendInterrupt_26 (ad_i (ad_i rfl)) ((vi_ui_f (by decide) _ _ _ _).trans ((vi_ui_f (by decide) _ _ _ _).trans (sf_269 hZ.2.1 hi))) ?_
        refine g_if_eq 49 d_D_sendInterrupt_29 (by decide) (fun c_29 => ?_) (fun c_29 => ?_)
        · skip
          refine g_return d_D_sendInterrupt_49 rfl ⟨rfl, ui (ui S 266 i 1) 267 i who, ?_, rfl, rfl⟩
          rw [show p_R_strike P i who = up (up P 6 i 1) 7 i who by unfold p_R_strike; rw [if_neg h5, if_pos hle]; (by_cases q : P 5 i = 1); (rw [if_pos q, if_neg (fun w => hc ⟨q, w⟩)]); (rw [if_neg q]), show skL P LL i = LL by unfold skL; rw [if_neg (fun q => hc ⟨q.1, q.2.2⟩)]]
          exact hZ.told hi who hV
        · skip
          refine g_aload_n d_D_sendInterrupt_32 rfl ?_
          refine v_geti (v := P 10 i) (τ := i) 265 rfl hV (lv_i (lv_i (sl_4 hZ.2.1 hi))) (by decide) (by decide) fl_D_117 rfl d_D_sendInterrupt_33 (ad_i (ad_i rfl)) ((vi_ui_f (by decide) _ _ _ _).trans ((vi_ui_f (by decide) _ _ _ _).trans (sf_265 hZ.2.1 hi))) ?_
          refine g_if_ne 49 d_D_sendInterrupt_36 (by decide) (fun c_36 => ?_) (fun c_36 => ?_)
          · skip
            refine g_return d_D_sendInterrupt_49 rfl ⟨rfl, ui (ui S 266 i 1) 267 i who, ?_, rfl, rfl⟩
            rw [show p_R_strike P i who = up (up P 6 i 1) 7 i who by unfold p_R_strike; rw [if_neg h5, if_pos hle]; (by_cases q : P 5 i = 1); (rw [if_pos q, if_neg (fun w => hc ⟨q, w⟩)]); (rw [if_neg q]), show skL P LL i = LL by unfold skL; rw [if_neg (fun q => hc ⟨q.1, q.2.2⟩)]]
            exact hZ.told hi who hV
          · skip
            exact absurd ⟨h15.mpr c_29, c_36⟩ hc
      · exact absurd c_11 (by decide)
