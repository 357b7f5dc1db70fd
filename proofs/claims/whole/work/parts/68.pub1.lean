/-! interrupting, keeping, running from outside (by program: wip/tools/gen_s25.py) -/
def itL (P : Pst) (LL : Lls) (x : Int32) : Lls := if P 51 0 = 0 then LL else if a_R_in x 0 (P 42 0 - 1) = 0 then LL else if P 5 (tn x) = 2 then LL else skL P LL (tn x)
set_option maxHeartbeats 1000000 in
set_option maxRecDepth 100000 in
theorem s_D_interrupt {P : Pst} {LL : Lls} {S : Gs} {M : Mm} (hZ : Zt P LL S M) (hst : P 51 0 = 0 ↔ nfb P = 0) (hS : ∀ j, j < nfb P → StOK P j) (hq : ∀ j, j < nfb P → P 5 j = 1 → tn (P 43 0) < 10) (x : Int32) : Run m_D_interrupt ownC 3 0 0 [va_rf (some (ad S 0 0)), .int x] M (fun r M' => r = some (.int (a_R_interrupt P x)) ∧ ∃ S', Zt (p_R_interrupt P x) (itL P LL x) S' M' ∧ Kp P S S') := by
  have hV := hZ.1
  refine Run.ofG (by decide) (by simp [cat_int, cat_rf]) (Nat.le_of_ble_eq_true rfl) ?_
  have h10_ := n10 hZ.2.2.1
  rcases fb_cases hZ.2.2.1 x with ho | ⟨i, hi, rfl⟩
  · have e0 := fb_in0 hZ.2.2.1 ho
    have ea : a_R_interrupt P x = 0 := by unfold a_R_interrupt; rw [if_pos e0]; split <;> rfl
    have ep : p_R_interrupt P x = P := by unfold p_R_interrupt; rw [if_pos e0]; split <;> rfl
    have el : itL P LL x = LL := by unfold itL; rw [if_pos e0]; split <;> rfl
    rw [ea, ep, el]
    refine g_aload_n d_D_interrupt_0 rfl ?_
    refine g_iload_n d_D_interrupt_1 rfl ?_
    refine g_callV (k1 := 0) (n1 := 0) [.int (x)] cw_D_94 cv_D_fiberAt d_D_interrupt_2 rfl (hV.kdo (sl_0 hZ.2.1) (by decide)) rfl rfl ⟨by simp, by simp⟩ (by first | decide | omega) (by first | decide | omega) (by first | decide | omega) (fun _ _ h => h) (s_fiberOut ⟨hV, hZ.2⟩ ho) (fun r_ M h_ hfr_ => ?_)
    obtain ⟨rfl, hV⟩ := h_
    refine g_astore_n d_D_interrupt_5 (by decide) ?_
    refine g_aload_n d_D_interrupt_6 rfl ?_
    refine g_ifnull 17 d_D_interrupt_7 (by decide) (fun c_7 => ?_) (fun a_7 c_7 => ?_)
    · skip
      refine g_iconst (v := 0) d_D_interrupt_17 (by decide) ?_
      exact g_zreturn d_D_interrupt_18 rfl (Or.inl rfl) ⟨rfl, S, ⟨hV, hZ.2⟩, Kp.refl _ _⟩
    · exact absurd c_7 (by simp)
  have hs := fb_start hst hi
  have hin := fb_in1 hZ.2.2.1 hi
  have hti : tn (nI i) = i := tn_nI (by omega)
  by_cases h2 : P 5 i = 2
  · have ea : a_R_interrupt P (nI i) = 0 := by unfold a_R_interrupt; rw [if_neg hs, if_neg hin, hti, if_pos h2]
    have ep : p_R_interrupt P (nI i) = P := by unfold p_R_interrupt; rw [if_neg hs, if_neg hin, hti, if_pos h2]
    have el : itL P LL (nI i) = LL := by unfold itL; rw [if_neg hs, if_neg hin, hti, if_pos h2]
    rw [ea, ep, el]
    refine g_aload_n d_D_interrupt_0 rfl ?_
    refine g_iload_n d_D_interrupt_1 rfl ?_
    refine g_callV (k1 := 0) (n1 := 0) [.int (nI i)] cw_D_94 cv_D_fiberAt d_D_interrupt_2 rfl (hV.kdo (sl_0 hZ.2.1) (by decide)) rfl rfl ⟨by simp, by simp⟩ (by first | decide | omega) (by first | decide | omega) (by first | decide | omega) (fun _ _ h => h) (s_fiberInx ⟨hV, hZ.2⟩ hi rfl) (fun r_ M h_ hfr_ => ?_)
    obtain ⟨rfl, hV⟩ := h_
    refine g_astore_n d_D_interrupt_5 (by decide) ?_
    refine g_aload_n d_D_interrupt_6 rfl ?_
    refine g_ifnull 17 d_D_interrupt_7 (by decide) (fun c_7 => ?_) (fun a_7 c_7 => ?_)
    · exact absurd (Eq.trans (Eq.symm (rfl : some (ad S 4 i) = some _)) c_7) (by simp)
    · skip
      refine g_aload_n d_D_interrupt_10 rfl ?_
      refine v_geti (v := 1) (τ := i) 262 rfl hV (sl_4 hZ.2.1 hi) (by decide) (by decide) fl_D_98 rfl d_D_interrupt_11 rfl ((sf_262 hZ.2.1 hi).trans (by rw [h2]; rfl)) ?_
      refine g_if_eq 19 d_D_interrupt_14 (by decide) (fun c_14 => ?_) (fun c_14 => ?_)
      · exact absurd c_14 (by decide)
      · skip
        refine g_iconst (v := 0) d_D_interrupt_17 (by decide) ?_
        exact g_zreturn d_D_interrupt_18 rfl (Or.inl rfl) ⟨rfl, S, ⟨hV, hZ.2⟩, Kp.refl _ _⟩
  · have ea : a_R_interrupt P (nI i) = 1 := by unfold a_R_interrupt; rw [if_neg hs, if_neg hin, hti, if_neg h2]
    have ep : p_R_interrupt P (nI i) = p_R_strike P i (-1) := by unfold p_R_interrupt; rw [if_neg hs, if_neg hin, hti, if_neg h2]
    have el : itL P LL (nI i) = skL P LL i := by unfold itL; rw [if_neg hs, if_neg hin, hti, if_neg h2]
    rw [ea, ep, el]
    refine g_aload_n d_D_interrupt_0 rfl ?_
    refine g_iload_n d_D_interrupt_1 rfl ?_
    refine g_callV (k1 := 0) (n1 := 0) [.int (nI i)] cw_D_94 cv_D_fiberAt d_D_interrupt_2 rfl (hV.kdo (sl_0 hZ.2.1) (by decide)) rfl rfl ⟨by simp, by simp⟩ (by first | decide | omega) (by first | decide | omega) (by first | decide | omega) (fun _ _ h => h) (s_fiberInx ⟨hV, hZ.2⟩ hi rfl) (fun r_ M h_ hfr_ => ?_)
    obtain ⟨rfl, hV⟩ := h_
    refine g_astore_n d_D_interrupt_5 (by decide) ?_
    refine g_aload_n d_D_interrupt_6 rfl ?_
    refine g_ifnull 17 d_D_interrupt_7 (by decide) (fun c_7 => ?_) (fun a_7 c_7 => ?_)
    · exact absurd (Eq.trans (Eq.symm (rfl : some (ad S 4 i) = some _)) c_7) (by simp)
    · skip
      refine g_aload_n d_D_interrupt_10 rfl ?_
      refine v_geti (v := 0) (τ := i) 262 rfl hV (sl_4 hZ.2.1 hi) (by decide) (by decide) fl_D_98 rfl d_D_interrupt_11 rfl ((sf_262 hZ.2.1 hi).trans (by unfold endI; rw [if_neg h2])) ?_
      refine g_if_eq 19 d_D_interrupt_14 (by decide) (fun c_14 => ?_) (fun c_14 => ?_)
      · skip
        refine g_aload_n d_D_interrupt_19 rfl ?_
        refine g_aload_n d_D_interrupt_20 rfl ?_
        refine g_iconst (v := -1) d_D_interrupt_21 (by decide) ?_
        refine g_callV (k1 := 0) (n1 := 0) [va_rf (some (ad S 4 i)), .int (-1)] cw_D_102 cv_D_sendInterrupt d_D_interrupt_22 rfl (hV.kdo (sl_0 hZ.2.1) (by decide)) rfl rfl ⟨by simp, by simp⟩ (by first | decide | omega) (by first | decide | omega) (by first | decide | omega) (fun _ _ h => h) (s_D_sendInterrupt ⟨hV, hZ.2⟩ hi (-1) (hS i hi).1 (hS i hi).2.1 (hS i hi).2.2 (hq i hi) rfl) (fun r_ M h_ hfr_ => ?_)
        obtain ⟨rfl, S1, hZ1, ha1, hb1⟩ := h_
        refine g_iconst (v := 1) d_D_interrupt_25 (by decide) ?_
        exact g_zreturn d_D_interrupt_26 rfl (Or.inr rfl) ⟨rfl, S1, hZ1, Kp.of ha1 hb1⟩
      · exact absurd c_14 (by decide)
def ekP (P : Pst) (LL : Lls) (x v : Int32) : Pst := if P 51 0 = 0 then P else if a_R_in x 0 3 = 0 then P else kpP P LL (tn x) v
def ekL (P : Pst) (LL : Lls) (x : Int32) : Lls := if P 51 0 = 0 then LL else if a_R_in x 0 3 = 0 then LL else kpL P LL (tn x)
set_option maxHeartbeats 1000000 in
set_option maxRecDepth 100000 in
theorem s_D_keep {P : Pst} {LL : Lls} {S : Gs} {M : Mm} (hZ : Zt P LL S M) (hst : P 51 0 = 0 ↔ nfb P = 0) (hL : ∀ n, n < 4 → (∀ x, x ∈ LL (1 + n) → x < nfb P ∧ P 5 x = 1 ∧ P 15 x = 5) ∧ (LL (1 + n)).Nodup ∧ tn (P 43 0) + (LL (1 + n)).length ≤ 10) (x v : Int32) : Run m_D_keep ownC 3 0 0 [va_rf (some (ad S 0 0)), .int x, .int v] M (fun r M' => r = some (.int (a_R_keep P x v)) ∧ ∃ S', Zt (ekP P LL x v) (ekL P LL x) S' M' ∧ Kp P S S') := by
  have hV := hZ.1
  refine Run.ofG (by decide) (by simp [cat_int, cat_rf]) (Nat.le_of_ble_eq_true rfl) ?_
  have hpos : P 42 0 ≤ 0 ↔ nfb P = 0 := by
    rw [nf_nI hZ.2.2.1]
    have h10_ := n10 hZ.2.2.1
    constructor
    · intro q; have := ix_le_of (b := 0) rfl rfl (by omega) (by decide) q; omega
    · intro q; rw [q]; decide
  rcases pl_cases x with ho | ⟨n, hn, rfl⟩
  · have e0 : a_R_in x 0 3 = 0 := by
      unfold a_R_in
      rcases ho with h | h
      · rw [if_pos h]
      · rw [if_neg h.1, if_pos (show (3 : Int32) < x from Int32.not_le.mp (fun q => absurd (ix_le_of (a := 4) (b := 3) rfl rfl (by decide) (by decide) (Int32.le_trans h.2 q)) (by decide)))]
    have ea : a_R_keep P x v = 0 := by unfold a_R_keep; rw [if_pos e0]; split <;> rfl
    have ep : ekP P LL x v = P := by unfold ekP; rw [if_pos e0]; split <;> rfl
    have el : ekL P LL x = LL := by unfold ekL; rw [if_pos e0]; split <;> rfl
    have hpo : plAt S x = none := by unfold plAt; rcases ho with h | h; (rw [if_pos h]); (rw [if_neg h.1, if_pos h.2])
    rw [ea, ep, el]
    refine g_aload_n d_D_keep_0 rfl ?_
    refine g_iload_n d_D_keep_1 rfl ?_
    refine g_callV (k1 := 0) (n1 := 0) [.int (x)] cw_D_106 cv_D_placeAt d_D_keep_2 rfl (hV.kdo (sl_0 hZ.2.1) (by decide)) rfl rfl ⟨by simp, by simp⟩ (by first | decide | omega) (by first | decide | omega) (by first | decide | omega) (fun _ _ h => h) (s_D_placeAt ⟨hV, hZ.2⟩ _) (fun r_ M h_ hfr_ => ?_)
    obtain ⟨rfl, hV⟩ := h_
    rw [hpo]
    refine g_astore_n d_D_keep_5 (by decide) ?_
    refine g_aload_n d_D_keep_6 rfl ?_
    refine v_geti (v := P 42 0) (τ := 0) 3 rfl hV (sl_0 hZ.2.1) (by decide) (by decide) fl_D_25 rfl d_D_keep_7 rfl (sd_3 hZ.2.1) ?_
    refine g_if_le 30 d_D_keep_10 (by decide) (fun c_10 => ?_) (fun c_10 => ?_)
    · skip
      refine g_iconst (v := 0) d_D_keep_30 (by decide) ?_
      exact g_zreturn d_D_keep_31 rfl (Or.inl rfl) ⟨rfl, S, ⟨hV, hZ.2⟩, Kp.refl _ _⟩
    · skip
      refine g_aload_n d_D_keep_13 rfl ?_
      refine g_ifnull 30 d_D_keep_14 (by decide) (fun c_14 => ?_) (fun a_14 c_14 => ?_)
      · skip
        refine g_iconst (v := 0) d_D_keep_30 (by decide) ?_
        exact g_zreturn d_D_keep_31 rfl (Or.inl rfl) ⟨rfl, S, ⟨hV, hZ.2⟩, Kp.refl _ _⟩
      · exact absurd c_14 (by simp)
  have hin : ¬ a_R_in (nI n) 0 3 = 0 := by unfold a_R_in; rw [if_neg (nI_pos (by omega)), if_neg (show ¬ (3 : Int32) < nI n from ix_nlt (a := 3) (b := n) rfl rfl (by omega) (by decide))]; decide
  have htn : tn (nI n) = n := tn_nI (by omega)
  by_cases h42 : P 42 0 ≤ 0
  · have hs0 : P 51 0 = 0 := hst.mpr (hpos.mp h42)
    have ea : a_R_keep P (nI n) v = 0 := by unfold a_R_keep; rw [if_pos hs0]
    have ep : ekP P LL (nI n) v = P := by unfold ekP; rw [if_pos hs0]
    have el : ekL P LL (nI n) = LL := by unfold ekL; rw [if_pos hs0]
    rw [ea, ep, el]
    refine g_aload_n d_D_keep_0 rfl ?_
    refine g_iload_n d_D_keep_1 rfl ?_
    refine g_callV (k1 := 0) (n1 := 0) [.int (nI n)] cw_D_106 cv_D_placeAt d_D_keep_2 rfl (hV.kdo (sl_0 hZ.2.1) (by decide)) rfl rfl ⟨by simp, by simp⟩ (by first | decide | omega) (by first | decide | omega) (by first | decide | omega) (fun _ _ h => h) (s_placeIn ⟨hV, hZ.2⟩ hn) (fun r_ M h_ hfr_ => ?_)
    obtain ⟨rfl, hV⟩ := h_
    refine g_astore_n d_D_keep_5 (by decide) ?_
    refine g_aload_n d_D_keep_6 rfl ?_
    refine v_geti (v := P 42 0) (τ := 0) 3 rfl hV (sl_0 hZ.2.1) (by decide) (by decide) fl_D_25 rfl d_D_keep_7 rfl (sd_3 hZ.2.1) ?_
    refine g_if_le 30 d_D_keep_10 (by decide) (fun c_10 => ?_) (fun c_10 => ?_)
    · skip
      refine g_iconst (v := 0) d_D_keep_30 (by decide) ?_
      exact g_zreturn d_D_keep_31 rfl (Or.inl rfl) ⟨rfl, S, ⟨hV, hZ.2⟩, Kp.refl _ _⟩
    · exact absurd (show P 42 0 ≤ 0 from h42) c_10
  have hs : ¬ P 51 0 = 0 := fun q => h42 (hpos.mpr (hst.mp q))
  obtain ⟨hW5, hnd, hq5⟩ := hL n hn
  have ep : ekP P LL (nI n) v = kpP P LL n v := by unfold ekP; rw [if_neg hs, if_neg hin, htn]
  have el : ekL P LL (nI n) = kpL P LL n := by unfold ekL; rw [if_neg hs, if_neg hin, htn]
  rw [ep, el]
  refine g_aload_n d_D_keep_0 rfl ?_
  refine g_iload_n d_D_keep_1 rfl ?_
  refine g_callV (k1 := 0) (n1 := 0) [.int (nI n)] cw_D_106 cv_D_placeAt d_D_keep_2 rfl (hV.kdo (sl_0 hZ.2.1) (by decide)) rfl rfl ⟨by simp, by simp⟩ (by first | decide | omega) (by first | decide | omega) (by first | decide | omega) (fun _ _ h => h) (s_placeIn ⟨hV, hZ.2⟩ hn) (fun r_ M h_ hfr_ => ?_)
  obtain ⟨rfl, hV⟩ := h_
  refine g_astore_n d_D_keep_5 (by decide) ?_
  refine g_aload_n d_D_keep_6 rfl ?_
  refine v_geti (v := P 42 0) (τ := 0) 3 rfl hV (sl_0 hZ.2.1) (by decide) (by decide) fl_D_25 rfl d_D_keep_7 rfl (sd_3 hZ.2.1) ?_
  refine g_if_le 30 d_D_keep_10 (by decide) (fun c_10 => ?_) (fun c_10 => ?_)
  · exact absurd (show P 42 0 ≤ 0 from c_10) h42
  · skip
    refine g_aload_n d_D_keep_13 rfl ?_
    refine g_ifnull 30 d_D_keep_14 (by decide) (fun c_14 => ?_) (fun a_14 c_14 => ?_)
    · exact absurd (Eq.trans (Eq.symm (rfl : some (ad S 2 n) = some _)) c_14) (by simp)
    · skip
      refine g_aload_n d_D_keep_17 rfl ?_
      refine g_aload_n d_D_keep_18 rfl ?_
      refine g_iload_n d_D_keep_19 rfl ?_
      refine g_callV (k1 := 0) (n1 := 0) [va_rf (some (ad S 2 n)), .int (v)] cw_D_110 cv_D_keepPromise d_D_keep_20 rfl (hV.kdo (sl_0 hZ.2.1) (by decide)) rfl rfl ⟨by simp, by simp⟩ (by first | decide | omega) (by first | decide | omega) (by first | decide | omega) (fun _ _ h => h) (s_D_keepPromise ⟨hV, hZ.2⟩ hn hs v hW5 hnd hq5) (fun r_ M h_ hfr_ => ?_)
      obtain ⟨rfl, S1, hZ1, hk1⟩ := h_
      refine g_if_eq 30 d_D_keep_23 (by decide) (fun c_23 => ?_) (fun c_23 => ?_)
      · skip
        refine g_iconst (v := 0) d_D_keep_30 (by decide) ?_
        have h41 : ¬ P 41 n = 0 := fun q => by rw [if_pos q] at c_23; exact absurd c_23 (by decide)
        exact g_zreturn d_D_keep_31 rfl (Or.inl rfl) ⟨by unfold a_R_keep a_R_keeps; rw [if_neg hs, if_neg hin, htn, if_neg h41, if_pos rfl], S1, hZ1, hk1⟩
      · skip
        refine g_iconst (v := 1) d_D_keep_26 (by decide) ?_
        refine g_goto 31 d_D_keep_27 (by decide) ?_
        have h41 : P 41 n = 0 := Classical.byContradiction (fun q => by rw [if_neg q] at c_23; exact c_23 rfl)
        exact g_zreturn d_D_keep_31 rfl (Or.inr rfl) ⟨by unfold a_R_keep a_R_keeps; rw [if_neg hs, if_neg hin, htn, if_pos h41, if_neg (show ¬ (1 : Int32) = 0 by decide)], S1, hZ1, hk1⟩
def eaR (P : Pst) (LL : Lls) (x : Int32) : Int32 := if a_R_in x 1 20 = 0 then -1 else if P 51 0 = 0 then -1 else a_R_stands (ciP (tn x) P LL)
def erP (P : Pst) (LL : Lls) (x : Int32) : Pst := if a_R_in x 1 20 = 0 then P else if P 51 0 = 0 then P else ciP (tn x) P LL
def erL (P : Pst) (LL : Lls) (x : Int32) : Lls := if a_R_in x 1 20 = 0 then LL else if P 51 0 = 0 then LL else ciL (tn x) P LL
theorem in20 (x : Int32) : a_R_in x 1 20 = 0 ↔ (x < 1 ∨ 20 < x) := by
  unfold a_R_in
  by_cases a : x < 1
  · rw [if_pos a]; exact ⟨fun _ => Or.inl a, fun _ => rfl⟩
  · rw [if_neg a]
    by_cases b : 20 < x
    · rw [if_pos b]; exact ⟨fun _ => Or.inr b, fun _ => rfl⟩
    · rw [if_neg b]; exact ⟨fun q => absurd q (by decide), fun q => by rcases q with q | q; exact absurd q a; exact absurd q b⟩
set_option maxHeartbeats 1000000 in
set_option maxRecDepth 100000 in
theorem s_D_run {P : Pst} {LL : Lls} {S : Gs} {M : Mm} (hZ : Zt P LL S M) (hst : P 51 0 = 0 ↔ nfb P = 0) (x : Int32) (hC : ¬ a_R_in x 1 20 = 0 → ¬ P 51 0 = 0 → COK (tn x) P LL) : Run m_D_run ownC 7 600 4000 [va_rf (some (ad S 0 0)), .int x] M (fun r M' => r = some (.int (eaR P LL x)) ∧ ∃ S', Zt (erP P LL x) (erL P LL x) S' M' ∧ Kp P S S') := by
  have hV := hZ.1
  refine Run.ofG (by decide) (by simp [cat_int, cat_rf]) (Nat.le_of_ble_eq_true rfl) ?_
  refine g_iload_n d_D_run_0 rfl ?_
  refine g_iconst (v := 1) d_D_run_1 (by decide) ?_
  refine g_icmp_lt 18 d_D_run_2 (by decide) (fun c_2 => ?_) (fun c_2 => ?_)
  · skip
    refine g_iconst (v := -1) d_D_run_18 (by decide) ?_
    exact g_ireturn d_D_run_19 rfl ⟨by unfold eaR; rw [if_pos ((in20 x).mpr (Or.inl c_2))], S, by unfold erP erL; rw [if_pos ((in20 x).mpr (Or.inl c_2)), if_pos ((in20 x).mpr (Or.inl c_2))]; exact ⟨hV, hZ.2⟩, Kp.refl _ _⟩
  · skip
    refine g_iload_n d_D_run_5 rfl ?_
    refine g_bipush (v := 20) d_D_run_6 (by decide) ?_
    refine g_icmp_gt 18 d_D_run_8 (by decide) (fun c_8 => ?_) (fun c_8 => ?_)
    · skip
      refine g_iconst (v := -1) d_D_run_18 (by decide) ?_
      exact g_ireturn d_D_run_19 rfl ⟨by unfold eaR; rw [if_pos ((in20 x).mpr (Or.inr c_8))], S, by unfold erP erL; rw [if_pos ((in20 x).mpr (Or.inr c_8)), if_pos ((in20 x).mpr (Or.inr c_8))]; exact ⟨hV, hZ.2⟩, Kp.refl _ _⟩
    · skip
      refine g_aload_n d_D_run_11 rfl ?_
      refine v_geti (v := P 42 0) (τ := 0) 3 rfl hV (sl_0 hZ.2.1) (by decide) (by decide) fl_D_25 rfl d_D_run_12 rfl (sd_3 hZ.2.1) ?_
      refine g_if_ne 20 d_D_run_15 (by decide) (fun c_15 => ?_) (fun c_15 => ?_)
      · skip
        refine g_iconst (v := 0) d_D_run_20 (by decide) ?_
        refine g_istore_n d_D_run_21 (by decide) ?_
        have hn_ : ¬ a_R_in x 1 20 = 0 := (fun q => by rcases (in20 x).mp q with w | w; exact c_2 w; exact c_8 w)
        have h51 : ¬ P 51 0 = 0 := fun q => c_15 (by rw [nf_nI hZ.2.2.1, hst.mp q]; rfl)
        obtain ⟨ex, hx20⟩ := in_nat20 hn_
        have ea : eaR P LL x = a_R_stands (ciP (tn x) P LL) := by unfold eaR; rw [if_neg hn_, if_neg h51]
        have ep : erP P LL x = ciP (tn x) P LL := by unfold erP; rw [if_neg hn_, if_neg h51]
        have el : erL P LL x = ciL (tn x) P LL := by unfold erL; rw [if_neg hn_, if_neg h51]
        rw [ea, ep, el]
        have h := l_run (P0 := P) (S0 := S) (M0 := M) (n := tn x) (sl_0 hZ.2.1) hx20 (tn x) 0 P LL S M 600 4000 (Nat.zero_add _) (by omega) (by omega) hZ (Kp.refl _ _) (Nat.le_refl _) (hC hn_ h51)
        rw [← ex] at h
        exact h
      · skip
        refine g_iconst (v := -1) d_D_run_18 (by decide) ?_
        have hn_ : ¬ a_R_in x 1 20 = 0 := (fun q => by rcases (in20 x).mp q with w | w; exact c_2 w; exact c_8 w)
        have h51 : P 51 0 = 0 := hst.mpr (by show tn (P 42 0) = 0; rw [c_15]; rfl)
        exact g_ireturn d_D_run_19 rfl ⟨by unfold eaR; rw [if_neg hn_, if_pos h51], S, by unfold erP erL; rw [if_neg hn_, if_neg hn_, if_pos h51, if_pos h51]; exact ⟨hV, hZ.2⟩, Kp.refl _ _⟩
