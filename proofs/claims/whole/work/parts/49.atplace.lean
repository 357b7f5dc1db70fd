/-! beginning an effect at a place (by program: wip/tools/gen_s8.py) -/
def shP (P : Pst) (LL : Lls) (i : Nat) (k : Int32) (n : Nat) (v : Int32) : Pst := if k = 19 then p_R_give (p_R_give P i v) i (P 37 n) else if k = 20 then up (p_R_give P i v) 37 n v else if k = 21 then (if P 41 n = 0 then p_R_rest (p_R_give P i v) i 5 (nI n) 0 else p_R_give (p_R_give P i v) i (P 38 n)) else if k = 22 then p_R_give (kpP (p_R_give P i v) LL n v) i (if P 41 n = 0 then 1 else 0) else if k = 23 then (if P 39 n ≤ 0 then p_R_rest (p_R_give P i v) i 6 (nI n) v else up (p_R_give P i v) 39 n (P 39 n - 1)) else lgP (p_R_give P i v) LL n
def shL (P : Pst) (LL : Lls) (i : Nat) (k : Int32) (n : Nat) : Lls := if k = 19 then LL else if k = 20 then LL else if k = 21 then (if P 41 n = 0 then upL LL (1 + n) (LL (1 + n) ++ [i]) else LL) else if k = 22 then kpL P LL n else if k = 23 then (if P 39 n ≤ 0 then upL LL (5 + n) (LL (5 + n) ++ [i]) else LL) else lgL LL n
theorem kpP_5 {P : Pst} {LL : Lls} {n i : Nat} {v : Int32} (h5 : P 5 i = 0) (hW : ∀ x, x ∈ LL (1 + n) → x < nfb P ∧ P 5 x = 1 ∧ P 15 x = 5) : kpP P LL n v 5 i = 0 := by
  unfold kpP
  split
  · rw [foldK_o v _ _ (fun q => by have := (hW i q).2.1; rw [h5] at this; exact absurd this (by decide)) (by decide) (by decide)]
    exact h5
  · exact h5
theorem nfb_kpP (P : Pst) (LL : Lls) (n : Nat) (v : Int32) : nfb (kpP P LL n v) = nfb P := by
  unfold kpP
  split
  · rw [nfb_foldK]; rfl
  · rfl
theorem s_beginAwaitO {P : Pst} {LL : Lls} {S : Gs} {M : Mm} (hZ : Zt P LL S M) {i n : Nat} (hi : i < nfb P) (hn : n < 4) (h5 : P 5 i = 0) (hst : ¬ P 51 0 = 0) (hl : (LL (1 + n)).length < 10) {o : Option Nat} (ho : o = some (ad S 4 i)) {u : Option Nat} (hu : u = some (ad S 2 n)) : Run m_D_beginAwait ownC 2 0 0 [va_rf (some (ad S 0 0)), va_rf o, va_rf u, .int (nI n)] M (fun r M' => r = none ∧ ∃ S', Zt (if P 41 n = 0 then p_R_rest P i 5 (nI n) 0 else p_R_give P i (P 38 n)) (if P 41 n = 0 then upL LL (1 + n) (LL (1 + n) ++ [i]) else LL) S' M' ∧ Kp P S S') := by
  subst ho
  subst hu
  exact s_D_beginAwait hZ hi hn h5 hst hl
theorem s_beginTakeO {P : Pst} {LL : Lls} {S : Gs} {M : Mm} (hZ : Zt P LL S M) {i n : Nat} (hi : i < nfb P) (hn : n < 4) (h5 : P 5 i = 0) (hst : ¬ P 51 0 = 0) (hl : (LL (5 + n)).length < 10) {v : Int32} (hx1 : vr S 261 i = none) (hx2 : vi S 260 i = v) {o : Option Nat} (ho : o = some (ad S 4 i)) {u : Option Nat} (hu : u = some (ad S 2 n)) : Run m_D_beginTake ownC 2 0 0 [va_rf (some (ad S 0 0)), va_rf o, va_rf u, .int (nI n)] M (fun r M' => r = none ∧ ∃ S', Zt (if P 39 n ≤ 0 then p_R_rest P i 6 (nI n) v else up P 39 n (P 39 n - 1)) (if P 39 n ≤ 0 then upL LL (5 + n) (LL (5 + n) ++ [i]) else LL) S' M' ∧ Kp P S S') := by
  subst ho
  subst hu
  exact s_D_beginTake hZ hi hn h5 hst hl hx1 hx2
theorem s_leaveGateO {P : Pst} {LL : Lls} {S : Gs} {M : Mm} (hZ : Zt P LL S M) {n : Nat} (hn : n < 4) (hst : ¬ P 51 0 = 0) (hW : ∀ x, x ∈ LL (5 + n) → x < nfb P ∧ P 5 x = 1 ∧ P 15 x = 6) (hq : tn (P 43 0) < 10) {u : Option Nat} (hu : u = some (ad S 2 n)) : Run m_D_leaveGate ownC 2 0 0 [va_rf (some (ad S 0 0)), va_rf u] M (fun r M' => r = none ∧ ∃ S', Zt (lgP P LL n) (lgL LL n) S' M' ∧ Kp P S S') := by
  subst hu
  exact s_D_leaveGate hZ hn hst hW hq
theorem s_keepPromiseO {P : Pst} {LL : Lls} {S : Gs} {M : Mm} (hZ : Zt P LL S M) {n : Nat} (hn : n < 4) (hst : ¬ P 51 0 = 0) (v : Int32) (hW : ∀ x, x ∈ LL (1 + n) → x < nfb P ∧ P 5 x = 1 ∧ P 15 x = 5) (hnd : (LL (1 + n)).Nodup) (hq : tn (P 43 0) + (LL (1 + n)).length ≤ 10) {u : Option Nat} (hu : u = some (ad S 2 n)) : Run m_D_keepPromise ownC 2 0 0 [va_rf (some (ad S 0 0)), va_rf u, .int v] M (fun r M' => r = some (.int (if P 41 n = 0 then 1 else 0)) ∧ ∃ S', Zt (kpP P LL n v) (kpL P LL n) S' M' ∧ Kp P S S') := by
  subst hu
  exact s_D_keepPromise hZ hn hst v hW hnd hq
set_option maxHeartbeats 1000000 in
set_option maxRecDepth 100000 in
theorem s_D_beginAtPlace_19 {P : Pst} {LL : Lls} {S : Gs} {M : Mm} (hZ : Zt P LL S M) {i e n : Nat} (hi : i < nfb P) (h5 : P 5 i = 0) (hst : ¬ P 51 0 = 0) (he : lv S 3 e = true) (hn : n < 4) (hn1 : P 1 e = nI n) (v : Int32) (hl1 : (LL (1 + n)).length < 10) (hl5 : (LL (5 + n)).length < 10) (hW5 : ∀ x, x ∈ LL (1 + n) → x < nfb P ∧ P 5 x = 1 ∧ P 15 x = 5) (hnd : (LL (1 + n)).Nodup) (hq5 : tn (P 43 0) + (LL (1 + n)).length ≤ 10) (hW6 : ∀ x, x ∈ LL (5 + n) → x < nfb P ∧ P 5 x = 1 ∧ P 15 x = 6) (hq : tn (P 43 0) < 10) (hk : P 0 e = 19) : Run m_D_beginAtPlace ownC 3 0 0 [va_rf (some (ad S 0 0)), va_rf (some (ad S 4 i)), va_rf (some (ad S 3 e)), .int v] M (fun r M' => r = none ∧ ∃ S', Zt (shP P LL i 19 n v) (shL P LL i 19 n) S' M' ∧ Kp P S S') := by
  have hV := hZ.1
  refine Run.ofG (by decide) (by simp [cat_int, cat_rf]) (Nat.le_of_ble_eq_true rfl) ?_
  refine g_aload_n d_D_beginAtPlace_0 rfl ?_
  refine g_aload_n d_D_beginAtPlace_1 rfl ?_
  refine v_geti (v := nI n) (τ := e) 193 rfl hV he (by decide) (by decide) fl_D_239 rfl d_D_beginAtPlace_2 rfl ((se_193 hZ.2.1 he).trans hn1) ?_
  refine g_callV (k1 := 0) (n1 := 0) [.int (nI n)] cw_D_106 cv_D_placeAt d_D_beginAtPlace_5 rfl (hV.kdo (sl_0 hZ.2.1) (by decide)) rfl rfl ⟨by simp, by simp⟩ (by first | decide | omega) (by first | decide | omega) (by first | decide | omega) (fun _ _ h => h) (s_placeIn ⟨hV, hZ.2⟩ hn) (fun r_ M h_ hfr_ => ?_)
  obtain ⟨rfl, hV⟩ := h_
  refine g_astore d_D_beginAtPlace_8 (by decide) ?_
  refine g_aload d_D_beginAtPlace_10 rfl ?_
  refine g_ifnonnull 16 d_D_beginAtPlace_12 (by decide) (fun a_12 c_12 => ?_) (fun c_12 => ?_)
  · skip
    refine g_aload_n d_D_beginAtPlace_16 rfl ?_
    refine g_iload_n d_D_beginAtPlace_17 rfl ?_
    refine g_callV (k1 := 0) (n1 := 0) [.int (v)] cw_D_242 cv_F_giveValue d_D_beginAtPlace_18 rfl (hV.kdo (sl_4 hZ.2.1 hi) (by decide)) rfl rfl ⟨by simp, by simp⟩ (by first | decide | omega) (by first | decide | omega) (by first | decide | omega) (fun _ _ h => h) (v_F_giveValue hV (sl_4 hZ.2.1 hi) _) (fun r_ M h_ hfr_ => ?_)
    obtain ⟨rfl, hV⟩ := h_
    have hZ1 := hZ.give hi v (fun h => absurd (h5.symm.trans h) (by decide)) hV
    have hle1 : nfb P ≤ nfb (p_R_give P i v) := (Nat.le_refl _)
    have hK1 : Kp P S (exS S i v none) := Kp.trans (Kp.refl P S) (Kp.of rfl rfl) (Nat.le_refl _)
    have hi1_0 : i < nfb (p_R_give P i v) := Nat.lt_of_lt_of_le hi hle1
    have hl1_0 : lv (exS S i v none) 3 e = true := hK1.2.2 3 _ he
    have hV := hZ1.1
    refine g_aload_n d_D_beginAtPlace_21 rfl ?_
    refine v_geti (v := 19) (τ := e) 192 rfl hV hl1_0 (by decide) (by decide) fl_D_236 rfl d_D_beginAtPlace_22 (ad_r (ad_i (ad_r rfl))) ((se_192 hZ1.2.1 hl1_0 :).trans hk) ?_
    refine g_tableIn 60 d_D_beginAtPlace_25 (by decide) (by decide) rfl (by decide) ?_
    refine g_aload_n d_D_beginAtPlace_60 rfl ?_
    refine g_aload d_D_beginAtPlace_61 rfl ?_
    refine v_geti (v := (p_R_give P i v) 37 n) (τ := n) 128 rfl hV (sl_2 hZ1.2.1 hn) (by decide) (by decide) fl_D_155 rfl d_D_beginAtPlace_63 (ad_r (ad_i (ad_r rfl))) (sp_128 hZ1.2.1 hn hst) ?_
    refine g_callV (k1 := 0) (n1 := 0) [.int ((p_R_give P i v) 37 n)] cw_D_242 cv_F_giveValue d_D_beginAtPlace_66 (ad_r (ad_i (ad_r rfl))) (hV.kdo (sl_4 hZ1.2.1 hi1_0) (by decide)) rfl rfl ⟨by simp, by simp⟩ (by first | decide | omega) (by first | decide | omega) (by first | decide | omega) (fun _ _ h => h) (v_F_giveValue hV (sl_4 hZ1.2.1 hi1_0) _) (fun r_ M h_ hfr_ => ?_)
    obtain ⟨rfl, hV⟩ := h_
    refine g_goto 137 d_D_beginAtPlace_69 (by decide) ?_
    refine g_return d_D_beginAtPlace_137 rfl ⟨rfl, exS (exS S i v none) i (P 37 n) none, ?_, Kp.of rfl rfl⟩
    unfold shP shL; rw [if_pos (show (19 : Int32) = 19 from rfl), if_pos (show (19 : Int32) = 19 from rfl)]
    exact hZ1.give hi (P 37 n) (fun h => absurd (h5.symm.trans h) (by decide)) hV
  · exact absurd (Eq.trans (Eq.symm (rfl : some (ad S 2 n) = some _)) c_12) (by simp)
set_option maxHeartbeats 1000000 in
set_option maxRecDepth 100000 in
theorem s_D_beginAtPlace_20 {P : Pst} {LL : Lls} {S : Gs} {M : Mm} (hZ : Zt P LL S M) {i e n : Nat} (hi : i < nfb P) (h5 : P 5 i = 0) (hst : ¬ P 51 0 = 0) (he : lv S 3 e = true) (hn : n < 4) (hn1 : P 1 e = nI n) (v : Int32) (hl1 : (LL (1 + n)).length < 10) (hl5 : (LL (5 + n)).length < 10) (hW5 : ∀ x, x ∈ LL (1 + n) → x < nfb P ∧ P 5 x = 1 ∧ P 15 x = 5) (hnd : (LL (1 + n)).Nodup) (hq5 : tn (P 43 0) + (LL (1 + n)).length ≤ 10) (hW6 : ∀ x, x ∈ LL (5 + n) → x < nfb P ∧ P 5 x = 1 ∧ P 15 x = 6) (hq : tn (P 43 0) < 10) (hk : P 0 e = 20) : Run m_D_beginAtPlace ownC 3 0 0 [va_rf (some (ad S 0 0)), va_rf (some (ad S 4 i)), va_rf (some (ad S 3 e)), .int v] M (fun r M' => r = none ∧ ∃ S', Zt (shP P LL i 20 n v) (shL P LL i 20 n) S' M' ∧ Kp P S S') := by
  have hV := hZ.1
  refine Run.ofG (by decide) (by simp [cat_int, cat_rf]) (Nat.le_of_ble_eq_true rfl) ?_
  refine g_aload_n d_D_beginAtPlace_0 rfl ?_
  refine g_aload_n d_D_beginAtPlace_1 rfl ?_
  refine v_geti (v := nI n) (τ := e) 193 rfl hV he (by decide) (by decide) fl_D_239 rfl d_D_beginAtPlace_2 rfl ((se_193 hZ.2.1 he).trans hn1) ?_
  refine g_callV (k1 := 0) (n1 := 0) [.int (nI n)] cw_D_106 cv_D_placeAt d_D_beginAtPlace_5 rfl (hV.kdo (sl_0 hZ.2.1) (by decide)) rfl rfl ⟨by simp, by simp⟩ (by first | decide | omega) (by first | decide | omega) (by first | decide | omega) (fun _ _ h => h) (s_placeIn ⟨hV, hZ.2⟩ hn) (fun r_ M h_ hfr_ => ?_)
  obtain ⟨rfl, hV⟩ := h_
  refine g_astore d_D_beginAtPlace_8 (by decide) ?_
  refine g_aload d_D_beginAtPlace_10 rfl ?_
  refine g_ifnonnull 16 d_D_beginAtPlace_12 (by decide) (fun a_12 c_12 => ?_) (fun c_12 => ?_)
  · skip
    refine g_aload_n d_D_beginAtPlace_16 rfl ?_
    refine g_iload_n d_D_beginAtPlace_17 rfl ?_
    refine g_callV (k1 := 0) (n1 := 0) [.int (v)] cw_D_242 cv_F_giveValue d_D_beginAtPlace_18 rfl (hV.kdo (sl_4 hZ.2.1 hi) (by decide)) rfl rfl ⟨by simp, by simp⟩ (by first | decide | omega) (by first | decide | omega) (by first | decide | omega) (fun _ _ h => h) (v_F_giveValue hV (sl_4 hZ.2.1 hi) _) (fun r_ M h_ hfr_ => ?_)
    obtain ⟨rfl, hV⟩ := h_
    have hZ1 := hZ.give hi v (fun h => absurd (h5.symm.trans h) (by decide)) hV
    have hle1 : nfb P ≤ nfb (p_R_give P i v) := (Nat.le_refl _)
    have hK1 : Kp P S (exS S i v none) := Kp.trans (Kp.refl P S) (Kp.of rfl rfl) (Nat.le_refl _)
    have hi1_0 : i < nfb (p_R_give P i v) := Nat.lt_of_lt_of_le hi hle1
    have hl1_0 : lv (exS S i v none) 3 e = true := hK1.2.2 3 _ he
    have hV := hZ1.1
    refine g_aload_n d_D_beginAtPlace_21 rfl ?_
    refine v_geti (v := 20) (τ := e) 192 rfl hV hl1_0 (by decide) (by decide) fl_D_236 rfl d_D_beginAtPlace_22 (ad_r (ad_i (ad_r rfl))) ((se_192 hZ1.2.1 hl1_0 :).trans hk) ?_
    refine g_tableIn 72 d_D_beginAtPlace_25 (by decide) (by decide) rfl (by decide) ?_
    refine g_aload d_D_beginAtPlace_72 rfl ?_
    refine g_iload_n d_D_beginAtPlace_74 rfl ?_
    refine v_puti (τ := n) 128 rfl hV (sl_2 hZ1.2.1 hn) (by decide) (by decide) fl_D_155 (Or.inr (fun r h => by cases h; rfl)) rfl d_D_beginAtPlace_75 (ad_r (ad_i (ad_r rfl))) (fun M hV => ?_)
    refine g_goto 137 d_D_beginAtPlace_78 (by decide) ?_
    refine g_return d_D_beginAtPlace_137 rfl ⟨rfl, ui (exS S i v none) 128 n v, ?_, Kp.of rfl rfl⟩
    unfold shP shL; rw [if_neg (show ¬ ((20 : Int32) = 19) by decide), if_pos (show (20 : Int32) = 20 from rfl), if_neg (show ¬ ((20 : Int32) = 19) by decide), if_pos (show (20 : Int32) = 20 from rfl)]
    exact hZ1.pl hn (Or.inl ⟨rfl, rfl⟩) v (fun q => absurd q (by decide)) hV
  · exact absurd (Eq.trans (Eq.symm (rfl : some (ad S 2 n) = some _)) c_12) (by simp)
set_option maxHeartbeats 1000000 in
set_option maxRecDepth 100000 in
theorem s_D_beginAtPlace_21 {P : Pst} {LL : Lls} {S : Gs} {M : Mm} (hZ : Zt P LL S M) {i e n : Nat} (hi : i < nfb P) (h5 : P 5 i = 0) (hst : ¬ P 51 0 = 0) (he : lv S 3 e = true) (hn : n < 4) (hn1 : P 1 e = nI n) (v : Int32) (hl1 : (LL (1 + n)).length < 10) (hl5 : (LL (5 + n)).length < 10) (hW5 : ∀ x, x ∈ LL (1 + n) → x < nfb P ∧ P 5 x = 1 ∧ P 15 x = 5) (hnd : (LL (1 + n)).Nodup) (hq5 : tn (P 43 0) + (LL (1 + n)).length ≤ 10) (hW6 : ∀ x, x ∈ LL (5 + n) → x < nfb P ∧ P 5 x = 1 ∧ P 15 x = 6) (hq : tn (P 43 0) < 10) (hk : P 0 e = 21) : Run m_D_beginAtPlace ownC 3 0 0 [va_rf (some (ad S 0 0)), va_rf (some (ad S 4 i)), va_rf (some (ad S 3 e)), .int v] M (fun r M' => r = none ∧ ∃ S', Zt (shP P LL i 21 n v) (shL P LL i 21 n) S' M' ∧ Kp P S S') := by
  have hV := hZ.1
  refine Run.ofG (by decide) (by simp [cat_int, cat_rf]) (Nat.le_of_ble_eq_true rfl) ?_
  refine g_aload_n d_D_beginAtPlace_0 rfl ?_
  refine g_aload_n d_D_beginAtPlace_1 rfl ?_
  refine v_geti (v := nI n) (τ := e) 193 rfl hV he (by decide) (by decide) fl_D_239 rfl d_D_beginAtPlace_2 rfl ((se_193 hZ.2.1 he).trans hn1) ?_
  refine g_callV (k1 := 0) (n1 := 0) [.int (nI n)] cw_D_106 cv_D_placeAt d_D_beginAtPlace_5 rfl (hV.kdo (sl_0 hZ.2.1) (by decide)) rfl rfl ⟨by simp, by simp⟩ (by first | decide | omega) (by first | decide | omega) (by first | decide | omega) (fun _ _ h => h) (s_placeIn ⟨hV, hZ.2⟩ hn) (fun r_ M h_ hfr_ => ?_)
  obtain ⟨rfl, hV⟩ := h_
  refine g_astore d_D_beginAtPlace_8 (by decide) ?_
  refine g_aload d_D_beginAtPlace_10 rfl ?_
  refine g_ifnonnull 16 d_D_beginAtPlace_12 (by decide) (fun a_12 c_12 => ?_) (fun c_12 => ?_)
  · skip
    refine g_aload_n d_D_beginAtPlace_16 rfl ?_
    refine g_iload_n d_D_beginAtPlace_17 rfl ?_
    refine g_callV (k1 := 0) (n1 := 0) [.int (v)] cw_D_242 cv_F_giveValue d_D_beginAtPlace_18 rfl (hV.kdo (sl_4 hZ.2.1 hi) (by decide)) rfl rfl ⟨by simp, by simp⟩ (by first | decide | omega) (by first | decide | omega) (by first | decide | omega) (fun _ _ h => h) (v_F_giveValue hV (sl_4 hZ.2.1 hi) _) (fun r_ M h_ hfr_ => ?_)
    obtain ⟨rfl, hV⟩ := h_
    have hZ1 := hZ.give hi v (fun h => absurd (h5.symm.trans h) (by decide)) hV
    have hle1 : nfb P ≤ nfb (p_R_give P i v) := (Nat.le_refl _)
    have hK1 : Kp P S (exS S i v none) := Kp.trans (Kp.refl P S) (Kp.of rfl rfl) (Nat.le_refl _)
    have hi1_0 : i < nfb (p_R_give P i v) := Nat.lt_of_lt_of_le hi hle1
    have hl1_0 : lv (exS S i v none) 3 e = true := hK1.2.2 3 _ he
    have hV := hZ1.1
    refine g_aload_n d_D_beginAtPlace_21 rfl ?_
    refine v_geti (v := 21) (τ := e) 192 rfl hV hl1_0 (by decide) (by decide) fl_D_236 rfl d_D_beginAtPlace_22 (ad_r (ad_i (ad_r rfl))) ((se_192 hZ1.2.1 hl1_0 :).trans hk) ?_
    refine g_tableIn 81 d_D_beginAtPlace_25 (by decide) (by decide) rfl (by decide) ?_
    refine g_aload_n d_D_beginAtPlace_81 rfl ?_
    refine g_aload_n d_D_beginAtPlace_82 rfl ?_
    refine g_aload d_D_beginAtPlace_83 rfl ?_
    refine g_aload_n d_D_beginAtPlace_85 rfl ?_
    refine v_geti (v := nI n) (τ := e) 193 rfl hV hl1_0 (by decide) (by decide) fl_D_239 rfl d_D_beginAtPlace_86 (ad_r (ad_i (ad_r rfl))) ((se_193 hZ1.2.1 hl1_0 :).trans hn1) ?_
    refine g_callV (k1 := 0) (n1 := 0) [va_rf (some (ad S 4 i)), va_rf (some (ad S 2 n)), .int (nI n)] cw_D_300 cv_D_beginAwait d_D_beginAtPlace_89 (ad_r (ad_i (ad_r rfl))) (hV.kdo (sl_0 hZ1.2.1) (by decide)) rfl rfl ⟨by simp, by simp⟩ (by first | decide | omega) (by first | decide | omega) (by first | decide | omega) (fun _ _ h => h) (s_beginAwaitO hZ1 hi hn h5 hst hl1 (ad_r (ad_i (ad_r rfl))) (ad_r (ad_i (ad_r rfl)))) (fun r_ M h_ hfr_ => ?_)
    obtain ⟨rfl, S2, hZ2, hk2⟩ := h_
    have hK2 : Kp P S S2 := Kp.trans hK1 hk2 hle1
    have hV := hZ2.1
    refine g_goto 137 d_D_beginAtPlace_92 (by decide) ?_
    refine g_return d_D_beginAtPlace_137 rfl ⟨rfl, S2, ?_, hK2⟩
    unfold shP shL; rw [if_neg (show ¬ ((21 : Int32) = 19) by decide), if_neg (show ¬ ((21 : Int32) = 20) by decide), if_pos (show (21 : Int32) = 21 from rfl), if_neg (show ¬ ((21 : Int32) = 19) by decide), if_neg (show ¬ ((21 : Int32) = 20) by decide), if_pos (show (21 : Int32) = 21 from rfl)]
    exact hZ2
  · exact absurd (Eq.trans (Eq.symm (rfl : some (ad S 2 n) = some _)) c_12) (by simp)
set_option maxHeartbeats 1000000 in
set_option maxRecDepth 100000 in
theorem s_D_beginAtPlace_22 {P : Pst} {LL : Lls} {S : Gs} {M : Mm} (hZ : Zt P LL S M) {i e n : Nat} (hi : i < nfb P) (h5 : P 5 i = 0) (hst : ¬ P 51 0 = 0) (he : lv S 3 e = true) (hn : n < 4) (hn1 : P 1 e = nI n) (v : Int32) (hl1 : (LL (1 + n)).length < 10) (hl5 : (LL (5 + n)).length < 10) (hW5 : ∀ x, x ∈ LL (1 + n) → x < nfb P ∧ P 5 x = 1 ∧ P 15 x = 5) (hnd : (LL (1 + n)).Nodup) (hq5 : tn (P 43 0) + (LL (1 + n)).length ≤ 10) (hW6 : ∀ x, x ∈ LL (5 + n) → x < nfb P ∧ P 5 x = 1 ∧ P 15 x = 6) (hq : tn (P 43 0) < 10) (hk : P 0 e = 22) : Run m_D_beginAtPlace ownC 3 0 0 [va_rf (some (ad S 0 0)), va_rf (some (ad S 4 i)), va_rf (some (ad S 3 e)), .int v] M (fun r M' => r = none ∧ ∃ S', Zt (shP P LL i 22 n v) (shL P LL i 22 n) S' M' ∧ Kp P S S') := by
  have hV := hZ.1
  refine Run.ofG (by decide) (by simp [cat_int, cat_rf]) (Nat.le_of_ble_eq_true rfl) ?_
  refine g_aload_n d_D_beginAtPlace_0 rfl ?_
  refine g_aload_n d_D_beginAtPlace_1 rfl ?_
  refine v_geti (v := nI n) (τ := e) 193 rfl hV he (by decide) (by decide) fl_D_239 rfl d_D_beginAtPlace_2 rfl ((se_193 hZ.2.1 he).trans hn1) ?_
  refine g_callV (k1 := 0) (n1 := 0) [.int (nI n)] cw_D_106 cv_D_placeAt d_D_beginAtPlace_5 rfl (hV.kdo (sl_0 hZ.2.1) (by decide)) rfl rfl ⟨by simp, by simp⟩ (by first | decide | omega) (by first | decide | omega) (by first | decide | omega) (fun _ _ h => h) (s_placeIn ⟨hV, hZ.2⟩ hn) (fun r_ M h_ hfr_ => ?_)
  obtain ⟨rfl, hV⟩ := h_
  refine g_astore d_D_beginAtPlace_8 (by decide) ?_
  refine g_aload d_D_beginAtPlace_10 rfl ?_
  refine g_ifnonnull 16 d_D_beginAtPlace_12 (by decide) (fun a_12 c_12 => ?_) (fun c_12 => ?_)
  · skip
    refine g_aload_n d_D_beginAtPlace_16 rfl ?_
    refine g_iload_n d_D_beginAtPlace_17 rfl ?_
    refine g_callV (k1 := 0) (n1 := 0) [.int (v)] cw_D_242 cv_F_giveValue d_D_beginAtPlace_18 rfl (hV.kdo (sl_4 hZ.2.1 hi) (by decide)) rfl rfl ⟨by simp, by simp⟩ (by first | decide | omega) (by first | decide | omega) (by first | decide | omega) (fun _ _ h => h) (v_F_giveValue hV (sl_4 hZ.2.1 hi) _) (fun r_ M h_ hfr_ => ?_)
    obtain ⟨rfl, hV⟩ := h_
    have hZ1 := hZ.give hi v (fun h => absurd (h5.symm.trans h) (by decide)) hV
    have hle1 : nfb P ≤ nfb (p_R_give P i v) := (Nat.le_refl _)
    have hK1 : Kp P S (exS S i v none) := Kp.trans (Kp.refl P S) (Kp.of rfl rfl) (Nat.le_refl _)
    have hi1_0 : i < nfb (p_R_give P i v) := Nat.lt_of_lt_of_le hi hle1
    have hl1_0 : lv (exS S i v none) 3 e = true := hK1.2.2 3 _ he
    have hV := hZ1.1
    refine g_aload_n d_D_beginAtPlace_21 rfl ?_
    refine v_geti (v := 22) (τ := e) 192 rfl hV hl1_0 (by decide) (by decide) fl_D_236 rfl d_D_beginAtPlace_22 (ad_r (ad_i (ad_r rfl))) ((se_192 hZ1.2.1 hl1_0 :).trans hk) ?_
    refine g_tableIn 95 d_D_beginAtPlace_25 (by decide) (by decide) rfl (by decide) ?_
    refine g_aload_n d_D_beginAtPlace_95 rfl ?_
    refine g_aload_n d_D_beginAtPlace_96 rfl ?_
    refine g_aload d_D_beginAtPlace_97 rfl ?_
    refine g_iload_n d_D_beginAtPlace_99 rfl ?_
    refine g_callV (k1 := 0) (n1 := 0) [va_rf (some (ad S 2 n)), .int (v)] cw_D_110 cv_D_keepPromise d_D_beginAtPlace_100 (ad_r (ad_i (ad_r rfl))) (hV.kdo (sl_0 hZ1.2.1) (by decide)) rfl rfl ⟨by simp [cat_rf, cat_int], by simp⟩ (by first | decide | omega) (by first | decide | omega) (by first | decide | omega) (fun _ _ h => h) (s_keepPromiseO hZ1 hn hst v hW5 hnd hq5 (ad_r (ad_i (ad_r rfl)))) (fun r_ M h_ hfr_ => ?_)
    obtain ⟨rfl, S2, hZ2, hk2⟩ := h_
    have hle2 : nfb P ≤ nfb (kpP (p_R_give P i v) LL n v) := (by rw [nfb_kpP]; exact hle1)
    have hK2 : Kp P S S2 := Kp.trans hK1 hk2 hle1
    have hi2_0 : i < nfb (kpP (p_R_give P i v) LL n v) := Nat.lt_of_lt_of_le hi hle2
    have hl2_0 : lv S2 3 e = true := hK2.2.2 3 _ he
    have hV := hZ2.1
    have g5 : kpP (p_R_give P i v) LL n v 5 i = 0 := kpP_5 (P := p_R_give P i v) h5 hW5
    refine g_if_eq 110 d_D_beginAtPlace_103 (by decide) (fun c_103 => ?_) (fun c_103 => ?_)
    · skip
      refine g_iconst (v := 0) d_D_beginAtPlace_110 (by decide) ?_
      refine g_callV (k1 := 0) (n1 := 0) [.int (0)] cw_D_242 cv_F_giveValue d_D_beginAtPlace_111 (ad_k (ad_r (ad_i (ad_r rfl))) (hk2.2.1 i hi1_0)) (hV.kdo (sl_4 hZ2.2.1 hi2_0) (by decide)) rfl rfl ⟨by simp, by simp⟩ (by first | decide | omega) (by first | decide | omega) (by first | decide | omega) (fun _ _ h => h) (v_F_giveValue hV (sl_4 hZ2.2.1 hi2_0) _) (fun r_ M h_ hfr_ => ?_)
      obtain ⟨rfl, hV⟩ := h_
      refine g_goto 137 d_D_beginAtPlace_114 (by decide) ?_
      refine g_return d_D_beginAtPlace_137 rfl ⟨rfl, exS S2 i 0 none, ?_, Kp.trans hK2 (Kp.of (P := P) rfl rfl) (Nat.le_refl _)⟩
      unfold shP shL; rw [if_neg (show ¬ ((22 : Int32) = 19) by decide), if_neg (show ¬ ((22 : Int32) = 20) by decide), if_neg (show ¬ ((22 : Int32) = 21) by decide), if_pos (show (22 : Int32) = 22 from rfl), if_neg (show ¬ ((22 : Int32) = 19) by decide), if_neg (show ¬ ((22 : Int32) = 20) by decide), if_neg (show ¬ ((22 : Int32) = 21) by decide), if_pos (show (22 : Int32) = 22 from rfl), if_neg (show ¬ P 41 n = 0 from fun q => by have c := c_103; rw [if_pos (show p_R_give P i v 41 n = 0 from q)] at c; exact absurd c (by decide))]
      exact hZ2.give hi2_0 0 (fun h => by rw [g5] at h; exact absurd h (by decide)) hV
    · skip
      refine g_iconst (v := 1) d_D_beginAtPlace_106 (by decide) ?_
      refine g_goto 111 d_D_beginAtPlace_107 (by decide) ?_
      refine g_callV (k1 := 0) (n1 := 0) [.int (1)] cw_D_242 cv_F_giveValue d_D_beginAtPlace_111 (ad_k (ad_r (ad_i (ad_r rfl))) (hk2.2.1 i hi1_0)) (hV.kdo (sl_4 hZ2.2.1 hi2_0) (by decide)) rfl rfl ⟨by simp, by simp⟩ (by first | decide | omega) (by first | decide | omega) (by first | decide | omega) (fun _ _ h => h) (v_F_giveValue hV (sl_4 hZ2.2.1 hi2_0) _) (fun r_ M h_ hfr_ => ?_)
      obtain ⟨rfl, hV⟩ := h_
      refine g_goto 137 d_D_beginAtPlace_114 (by decide) ?_
      refine g_return d_D_beginAtPlace_137 rfl ⟨rfl, exS S2 i 1 none, ?_, Kp.trans hK2 (Kp.of (P := P) rfl rfl) (Nat.le_refl _)⟩
      unfold shP shL; rw [if_neg (show ¬ ((22 : Int32) = 19) by decide), if_neg (show ¬ ((22 : Int32) = 20) by decide), if_neg (show ¬ ((22 : Int32) = 21) by decide), if_pos (show (22 : Int32) = 22 from rfl), if_neg (show ¬ ((22 : Int32) = 19) by decide), if_neg (show ¬ ((22 : Int32) = 20) by decide), if_neg (show ¬ ((22 : Int32) = 21) by decide), if_pos (show (22 : Int32) = 22 from rfl), if_pos (show P 41 n = 0 by rcases Classical.em (P 41 n = 0) with q | q; exact q; have c := c_103; rw [if_neg (show ¬ p_R_give P i v 41 n = 0 from q)] at c; exact absurd rfl c)]
      exact hZ2.give hi2_0 1 (fun h => by rw [g5] at h; exact absurd h (by decide)) hV
  · exact absurd (Eq.trans (Eq.symm (rfl : some (ad S 2 n) = some _)) c_12) (by simp)
set_option maxHeartbeats 1000000 in
set_option maxRecDepth 100000 in
theorem s_D_beginAtPlace_23 {P : Pst} {LL : Lls} {S : Gs} {M : Mm} (hZ : Zt P LL S M) {i e n : Nat} (hi : i < nfb P) (h5 : P 5 i = 0) (hst : ¬ P 51 0 = 0) (he : lv S 3 e = true) (hn : n < 4) (hn1 : P 1 e = nI n) (v : Int32) (hl1 : (LL (1 + n)).length < 10) (hl5 : (LL (5 + n)).length < 10) (hW5 : ∀ x, x ∈ LL (1 + n) → x < nfb P ∧ P 5 x = 1 ∧ P 15 x = 5) (hnd : (LL (1 + n)).Nodup) (hq5 : tn (P 43 0) + (LL (1 + n)).length ≤ 10) (hW6 : ∀ x, x ∈ LL (5 + n) → x < nfb P ∧ P 5 x = 1 ∧ P 15 x = 6) (hq : tn (P 43 0) < 10) (hk : P 0 e = 23) : Run m_D_beginAtPlace ownC 3 0 0 [va_rf (some (ad S 0 0)), va_rf (some (ad S 4 i)), va_rf (some (ad S 3 e)), .int v] M (fun r M' => r = none ∧ ∃ S', Zt (shP P LL i 23 n v) (shL P LL i 23 n) S' M' ∧ Kp P S S') := by
  have hV := hZ.1
  refine Run.ofG (by decide) (by simp [cat_int, cat_rf]) (Nat.le_of_ble_eq_true rfl) ?_
  refine g_aload_n d_D_beginAtPlace_0 rfl ?_
  refine g_aload_n d_D_beginAtPlace_1 rfl ?_
  refine v_geti (v := nI n) (τ := e) 193 rfl hV he (by decide) (by decide) fl_D_239 rfl d_D_beginAtPlace_2 rfl ((se_193 hZ.2.1 he).trans hn1) ?_
  refine g_callV (k1 := 0) (n1 := 0) [.int (nI n)] cw_D_106 cv_D_placeAt d_D_beginAtPlace_5 rfl (hV.kdo (sl_0 hZ.2.1) (by decide)) rfl rfl ⟨by simp, by simp⟩ (by first | decide | omega) (by first | decide | omega) (by first | decide | omega) (fun _ _ h => h) (s_placeIn ⟨hV, hZ.2⟩ hn) (fun r_ M h_ hfr_ => ?_)
  obtain ⟨rfl, hV⟩ := h_
  refine g_astore d_D_beginAtPlace_8 (by decide) ?_
  refine g_aload d_D_beginAtPlace_10 rfl ?_
  refine g_ifnonnull 16 d_D_beginAtPlace_12 (by decide) (fun a_12 c_12 => ?_) (fun c_12 => ?_)
  · skip
    refine g_aload_n d_D_beginAtPlace_16 rfl ?_
    refine g_iload_n d_D_beginAtPlace_17 rfl ?_
    refine g_callV (k1 := 0) (n1 := 0) [.int (v)] cw_D_242 cv_F_giveValue d_D_beginAtPlace_18 rfl (hV.kdo (sl_4 hZ.2.1 hi) (by decide)) rfl rfl ⟨by simp, by simp⟩ (by first | decide | omega) (by first | decide | omega) (by first | decide | omega) (fun _ _ h => h) (v_F_giveValue hV (sl_4 hZ.2.1 hi) _) (fun r_ M h_ hfr_ => ?_)
    obtain ⟨rfl, hV⟩ := h_
    have hZ1 := hZ.give hi v (fun h => absurd (h5.symm.trans h) (by decide)) hV
    have hle1 : nfb P ≤ nfb (p_R_give P i v) := (Nat.le_refl _)
    have hK1 : Kp P S (exS S i v none) := Kp.trans (Kp.refl P S) (Kp.of rfl rfl) (Nat.le_refl _)
    have hi1_0 : i < nfb (p_R_give P i v) := Nat.lt_of_lt_of_le hi hle1
    have hl1_0 : lv (exS S i v none) 3 e = true := hK1.2.2 3 _ he
    have hV := hZ1.1
    refine g_aload_n d_D_beginAtPlace_21 rfl ?_
    refine v_geti (v := 23) (τ := e) 192 rfl hV hl1_0 (by decide) (by decide) fl_D_236 rfl d_D_beginAtPlace_22 (ad_r (ad_i (ad_r rfl))) ((se_192 hZ1.2.1 hl1_0 :).trans hk) ?_
    refine g_tableIn 117 d_D_beginAtPlace_25 (by decide) (by decide) rfl (by decide) ?_
    refine g_aload_n d_D_beginAtPlace_117 rfl ?_
    refine g_aload_n d_D_beginAtPlace_118 rfl ?_
    refine g_aload d_D_beginAtPlace_119 rfl ?_
    refine g_aload_n d_D_beginAtPlace_121 rfl ?_
    refine v_geti (v := nI n) (τ := e) 193 rfl hV hl1_0 (by decide) (by decide) fl_D_239 rfl d_D_beginAtPlace_122 (ad_r (ad_i (ad_r rfl))) ((se_193 hZ1.2.1 hl1_0 :).trans hn1) ?_
    refine g_callV (k1 := 0) (n1 := 0) [va_rf (some (ad S 4 i)), va_rf (some (ad S 2 n)), .int (nI n)] cw_D_304 cv_D_beginTake d_D_beginAtPlace_125 (ad_r (ad_i (ad_r rfl))) (hV.kdo (sl_0 hZ1.2.1) (by decide)) rfl rfl ⟨by simp, by simp⟩ (by first | decide | omega) (by first | decide | omega) (by first | decide | omega) (fun _ _ h => h) (s_beginTakeO hZ1 hi hn h5 hst hl5 (exS_261 _ _ _ _) (exS_260 _ _ _ _) (ad_r (ad_i (ad_r rfl))) (ad_r (ad_i (ad_r rfl)))) (fun r_ M h_ hfr_ => ?_)
    obtain ⟨rfl, S2, hZ2, hk2⟩ := h_
    have hK2 : Kp P S S2 := Kp.trans hK1 hk2 hle1
    have hV := hZ2.1
    refine g_goto 137 d_D_beginAtPlace_128 (by decide) ?_
    refine g_return d_D_beginAtPlace_137 rfl ⟨rfl, S2, ?_, hK2⟩
    unfold shP shL; rw [if_neg (show ¬ ((23 : Int32) = 19) by decide), if_neg (show ¬ ((23 : Int32) = 20) by decide), if_neg (show ¬ ((23 : Int32) = 21) by decide), if_neg (show ¬ ((23 : Int32) = 22) by decide), if_pos (show (23 : Int32) = 23 from rfl), if_neg (show ¬ ((23 : Int32) = 19) by decide), if_neg (show ¬ ((23 : Int32) = 20) by decide), if_neg (show ¬ ((23 : Int32) = 21) by decide), if_neg (show ¬ ((23 : Int32) = 22) by decide), if_pos (show (23 : Int32) = 23 from rfl)]
    exact hZ2
  · exact absurd (Eq.trans (Eq.symm (rfl : some (ad S 2 n) = some _)) c_12) (by simp)
set_option maxHeartbeats 1000000 in
set_option maxRecDepth 100000 in
theorem s_D_beginAtPlace_24 {P : Pst} {LL : Lls} {S : Gs} {M : Mm} (hZ : Zt P LL S M) {i e n : Nat} (hi : i < nfb P) (h5 : P 5 i = 0) (hst : ¬ P 51 0 = 0) (he : lv S 3 e = true) (hn : n < 4) (hn1 : P 1 e = nI n) (v : Int32) (hl1 : (LL (1 + n)).length < 10) (hl5 : (LL (5 + n)).length < 10) (hW5 : ∀ x, x ∈ LL (1 + n) → x < nfb P ∧ P 5 x = 1 ∧ P 15 x = 5) (hnd : (LL (1 + n)).Nodup) (hq5 : tn (P 43 0) + (LL (1 + n)).length ≤ 10) (hW6 : ∀ x, x ∈ LL (5 + n) → x < nfb P ∧ P 5 x = 1 ∧ P 15 x = 6) (hq : tn (P 43 0) < 10) (hk : P 0 e = 24) : Run m_D_beginAtPlace ownC 3 0 0 [va_rf (some (ad S 0 0)), va_rf (some (ad S 4 i)), va_rf (some (ad S 3 e)), .int v] M (fun r M' => r = none ∧ ∃ S', Zt (shP P LL i 24 n v) (shL P LL i 24 n) S' M' ∧ Kp P S S') := by
  have hV := hZ.1
  refine Run.ofG (by decide) (by simp [cat_int, cat_rf]) (Nat.le_of_ble_eq_true rfl) ?_
  refine g_aload_n d_D_beginAtPlace_0 rfl ?_
  refine g_aload_n d_D_beginAtPlace_1 rfl ?_
  refine v_geti (v := nI n) (τ := e) 193 rfl hV he (by decide) (by decide) fl_D_239 rfl d_D_beginAtPlace_2 rfl ((se_193 hZ.2.1 he).trans hn1) ?_
  refine g_callV (k1 := 0) (n1 := 0) [.int (nI n)] cw_D_106 cv_D_placeAt d_D_beginAtPlace_5 rfl (hV.kdo (sl_0 hZ.2.1) (by decide)) rfl rfl ⟨by simp, by simp⟩ (by first | decide | omega) (by first | decide | omega) (by first | decide | omega) (fun _ _ h => h) (s_placeIn ⟨hV, hZ.2⟩ hn) (fun r_ M h_ hfr_ => ?_)
  obtain ⟨rfl, hV⟩ := h_
  refine g_astore d_D_beginAtPlace_8 (by decide) ?_
  refine g_aload d_D_beginAtPlace_10 rfl ?_
  refine g_ifnonnull 16 d_D_beginAtPlace_12 (by decide) (fun a_12 c_12 => ?_) (fun c_12 => ?_)
  · skip
    refine g_aload_n d_D_beginAtPlace_16 rfl ?_
    refine g_iload_n d_D_beginAtPlace_17 rfl ?_
    refine g_callV (k1 := 0) (n1 := 0) [.int (v)] cw_D_242 cv_F_giveValue d_D_beginAtPlace_18 rfl (hV.kdo (sl_4 hZ.2.1 hi) (by decide)) rfl rfl ⟨by simp, by simp⟩ (by first | decide | omega) (by first | decide | omega) (by first | decide | omega) (fun _ _ h => h) (v_F_giveValue hV (sl_4 hZ.2.1 hi) _) (fun r_ M h_ hfr_ => ?_)
    obtain ⟨rfl, hV⟩ := h_
    have hZ1 := hZ.give hi v (fun h => absurd (h5.symm.trans h) (by decide)) hV
    have hle1 : nfb P ≤ nfb (p_R_give P i v) := (Nat.le_refl _)
    have hK1 : Kp P S (exS S i v none) := Kp.trans (Kp.refl P S) (Kp.of rfl rfl) (Nat.le_refl _)
    have hi1_0 : i < nfb (p_R_give P i v) := Nat.lt_of_lt_of_le hi hle1
    have hl1_0 : lv (exS S i v none) 3 e = true := hK1.2.2 3 _ he
    have hV := hZ1.1
    refine g_aload_n d_D_beginAtPlace_21 rfl ?_
    refine v_geti (v := 24) (τ := e) 192 rfl hV hl1_0 (by decide) (by decide) fl_D_236 rfl d_D_beginAtPlace_22 (ad_r (ad_i (ad_r rfl))) ((se_192 hZ1.2.1 hl1_0 :).trans hk) ?_
    refine g_tableOut 131 d_D_beginAtPlace_25 (by decide) (by decide) ?_
    refine g_aload_n d_D_beginAtPlace_131 rfl ?_
    refine g_aload d_D_beginAtPlace_132 rfl ?_
    refine g_callV (k1 := 0) (n1 := 0) [va_rf (some (ad S 2 n))] cw_D_307 cv_D_leaveGate d_D_beginAtPlace_134 (ad_r (ad_i (ad_r rfl))) (hV.kdo (sl_0 hZ1.2.1) (by decide)) rfl rfl ⟨by simp, by simp⟩ (by first | decide | omega) (by first | decide | omega) (by first | decide | omega) (fun _ _ h => h) (s_leaveGateO hZ1 hn hst hW6 hq (ad_r (ad_i (ad_r rfl)))) (fun r_ M h_ hfr_ => ?_)
    obtain ⟨rfl, S2, hZ2, hk2⟩ := h_
    have hK2 : Kp P S S2 := Kp.trans hK1 hk2 hle1
    have hV := hZ2.1
    refine g_return d_D_beginAtPlace_137 rfl ⟨rfl, S2, ?_, hK2⟩
    unfold shP shL; rw [if_neg (show ¬ ((24 : Int32) = 19) by decide), if_neg (show ¬ ((24 : Int32) = 20) by decide), if_neg (show ¬ ((24 : Int32) = 21) by decide), if_neg (show ¬ ((24 : Int32) = 22) by decide), if_neg (show ¬ ((24 : Int32) = 23) by decide), if_neg (show ¬ ((24 : Int32) = 19) by decide), if_neg (show ¬ ((24 : Int32) = 20) by decide), if_neg (show ¬ ((24 : Int32) = 21) by decide), if_neg (show ¬ ((24 : Int32) = 22) by decide), if_neg (show ¬ ((24 : Int32) = 23) by decide)]
    exact hZ2
  · exact absurd (Eq.trans (Eq.symm (rfl : some (ad S 2 n) = some _)) c_12) (by simp)
