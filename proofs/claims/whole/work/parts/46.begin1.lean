/-! beginning effects that concern fibers (by program: wip/tools/gen_s5.py) -/
theorem Zt.give {P : Pst} {LL : Lls} {S : Gs} {M M' : Mm} (hZ : Zt P LL S M) {i : Nat} (hi : i < nfb P) (v : Int32) (hn : P 5 i = 1 → ¬ (P 15 i = 2 ∨ P 15 i = 4 ∨ P 15 i = 6)) (hV : VM (exS S i v none) M') : Zt (p_R_give P i v) LL (exS S i v none) M' := ⟨hV, (hZ.2.1.give hZ.2.2.1 hi v hn).1, wb_give hZ.2.2.1 i v, hZ.2.2.2⟩
theorem hand_43 (P : Pst) {f g : Nat} (hfg : ¬ f = g) : p_R_hand P f g 43 0 = P 43 0 := by
  rw [hand_e P f g hfg]
  split
  · simp [p_R_give, up_e]
  · rw [copy_o _ (Ne.symm hfg) (by omega)]; simp [p_R_give, up_e]
theorem Zt.hand {P : Pst} {LL : Lls} {S : Gs} {M M' : Mm} (hZ : Zt P LL S M) {f g : Nat} (hf : f < nfb P) (hfg : ¬ f = g) (hx : ExitR P S g) (hn : P 5 f = 1 → ¬ (P 15 f = 2 ∨ P 15 f = 4 ∨ P 15 f = 6)) (hV : VM (exS S f (vi S 260 g) (vr S 261 g)) M') : Zt (p_R_hand P f g) LL (exS S f (vi S 260 g) (vr S 261 g)) M' := ⟨hV, (hZ.2.1.hand hZ.2.2.1 hf hfg hx hn).1, wb_hand hZ.2.2.1 f g, by rw [hand_43 P hfg]; exact hZ.2.2.2⟩
theorem Zt.rest {P : Pst} {LL : Lls} {S : Gs} {M M' : Mm} (hZ : Zt P LL S M) {i : Nat} (hi : i < nfb P) (w v t o : Int32) (h5 : P 5 i = 0) (ho : w = 1 ∨ w = 2 ∨ w = 5 ∨ w = 6 → o = v) (h3 : w = 3 → o = P 19 i) (h4 : w = 4 → vi S 271 i = v) (hx : w = 2 ∨ w = 4 ∨ w = 6 → vr S 261 i = none ∧ vi S 260 i = if w = 2 then 0 else t) (hV : VM (waS S i w o) M') : Zt (p_R_rest P i w v t) LL (waS S i w o) M' := ⟨hV, hZ.2.1.rest hZ.2.2.1 hi w v t o h5 ho h3 h4 hx, wb_rest hZ.2.2.1 i w v t, hZ.2.2.2⟩
theorem nfb_strike (P : Pst) (g : Nat) (w : Int32) : nfb (p_R_strike P g w) = nfb P := by
  unfold p_R_strike
  repeat' split
  all_goals rfl
theorem nfb_make {P : Pst} (hw : WB P) (hn : nfb P < 10) (e v b : Int32) : nfb (p_R_make P e v b) = nfb P + 1 := by
  have e42 : p_R_make P e v b 42 0 = P 42 0 + 1 := by simp [p_R_make, up_e]
  show tn (p_R_make P e v b 42 0) = tn (P 42 0) + 1
  rw [e42]
  exact tn_inc (hw 42 0).1 (by have : nfb P < 10 := hn; unfold nfb at this; omega)
theorem nf_lt {P : Pst} (hw : WB P) (h : P 42 0 < 10) : nfb P < 10 ∧ ¬ P 42 0 = 10 := by
  have h1 : nfb P < 10 := by
    rcases Nat.lt_or_ge (nfb P) 10 with q | q
    · exact q
    · exact absurd h (ix_nlt (nf_nI hw) (b := 10) rfl q (by have := n10 hw; omega))
  exact ⟨h1, fun q => by unfold nfb at h1; rw [q] at h1; exact absurd h1 (by decide)⟩
theorem nf_ge {P : Pst} (hw : WB P) (h : ¬ P 42 0 < 10) : P 42 0 = 10 := by
  have h10 := n10 hw
  rcases Nat.lt_or_ge (nfb P) 10 with q | q
  · exact absurd (Int32.not_le.mp (ix_nle (a := 10) rfl (nf_nI hw) q (by decide))) h
  · rw [nf_nI hw, show nfb P = 10 by omega]; rfl
theorem sm_n0 {x : Int32} {N : Nat} (h : sm x N) (hN : N < 2 ^ 31) : ¬ x < 0 := by rw [h.1]; exact nI_pos (by have := h.2; omega)
set_option maxHeartbeats 1000000 in
set_option maxRecDepth 100000 in
theorem s_D_beginFork {P : Pst} {LL : Lls} {S : Gs} {M : Mm} (hZ : Zt P LL S M) {i e : Nat} (hi : i < nfb P) (h5 : P 5 i = 0) (he : lv S 3 e = true) (hk : P 0 e = 12) (hx1 : sm (P 1 e) 39) (v : Int32) (hq : tn (P 43 0) < 10) : Run m_D_beginFork ownC 3 3 16 [va_rf (some (ad S 0 0)), va_rf (some (ad S 4 i)), va_rf (some (ad S 3 e)), .int v] M (fun r M' => r = none ∧ ∃ S', Zt (if P 42 0 = 10 then p_R_fail P i 2 (-1) else p_R_give (p_R_make P (P 1 e) v (nI i)) i (P 42 0)) (if P 42 0 = 10 then LL else upL LL 0 (LL 0 ++ [nfb P])) S' M' ∧ Kp P S S') := by
  have hx0 : ¬ a_R_needs (P 0 e) ≤ 0 := by rw [hk]; decide
  have hV := hZ.1
  refine Run.ofG (by decide) (by simp [cat_int, cat_rf]) (Nat.le_of_ble_eq_true rfl) ?_
  refine g_aload_n d_D_beginFork_0 rfl ?_
  refine v_geti (v := P 42 0) (τ := 0) 3 rfl hV (sl_0 hZ.2.1) (by decide) (by decide) fl_D_25 rfl d_D_beginFork_1 rfl (sd_3 hZ.2.1) ?_
  refine g_bipush (v := 10) d_D_beginFork_4 (by decide) ?_
  refine g_icmp_lt 15 d_D_beginFork_6 (by decide) (fun c_6 => ?_) (fun c_6 => ?_)
  · obtain ⟨hn10, e10⟩ := nf_lt hZ.2.2.1 c_6
    refine g_aload_n d_D_beginFork_15 rfl ?_
    refine g_aload_n d_D_beginFork_16 rfl ?_
    refine v_geti (v := P 42 0) (τ := 0) 3 rfl hV (sl_0 hZ.2.1) (by decide) (by decide) fl_D_25 rfl d_D_beginFork_17 rfl (sd_3 hZ.2.1) ?_
    refine g_callV (k1 := 3) (n1 := 16) [.int (P 42 0)] cw_D_242 cv_F_giveValue d_D_beginFork_20 rfl (hV.kdo (sl_4 hZ.2.1 hi) (by decide)) rfl rfl ⟨by simp, by simp⟩ (by first | decide | omega) (by first | decide | omega) (by first | decide | omega) (fun _ _ h => h) (v_F_giveValue hV (sl_4 hZ.2.1 hi) _) (fun r_ M h_ hfr_ => ?_)
    obtain ⟨rfl, hV⟩ := h_
    have hZ1 := hZ.give hi (P 42 0) (fun h => by rw [h5] at h; exact absurd h (by decide)) hV
    have hle1 : nfb P ≤ nfb (p_R_give P i (P 42 0)) := (Nat.le_refl _)
    have hK1 : Kp P S (exS S i (P 42 0) none) := Kp.trans (Kp.refl P S) (Kp.of rfl rfl) (Nat.le_refl _)
    have hi1_0 : i < nfb (p_R_give P i (P 42 0)) := Nat.lt_of_lt_of_le hi hle1
    have hl1_0 : lv (exS S i (P 42 0) none) 3 e = true := hK1.2.2 3 _ he
    have hl1_1 : lv (exS S i (P 42 0) none) 3 (tn (P 1 e)) = true := hK1.2.2 3 _ (sl_x hZ.2.1 he hx0)
    have hV := hZ1.1
    refine g_aload_n d_D_beginFork_23 rfl ?_
    refine g_aload_n d_D_beginFork_24 rfl ?_
    refine v_getr (v := some (ad (exS S i (P 42 0) none) 3 (tn (P 1 e)))) (τ := e) 194 rfl hV hl1_0 (by decide) (by decide) fl_D_248 rfl d_D_beginFork_25 (ad_r (ad_i (ad_r rfl))) (se_194 hZ1.2.1 hl1_0 hx0) ?_
    refine g_iload_n d_D_beginFork_28 rfl ?_
    refine g_aload_n d_D_beginFork_29 rfl ?_
    refine v_geti (v := nI i) (τ := i) 256 rfl hV (sl_4 hZ1.2.1 hi1_0) (by decide) (by decide) fl_D_173 rfl d_D_beginFork_30 (ad_r (ad_i (ad_r rfl))) (sf_256 hZ1.2.1 hi1_0) ?_
    refine g_callV (k1 := 2) (n1 := 0) [va_rf (some (ad (exS S i (P 42 0) none) 3 (tn (P 1 e)))), .int (v), .int (nI i)] cw_D_79 cv_D_makeFiber d_D_beginFork_33 (ad_r (ad_i (ad_r rfl))) (hV.kdo (sl_0 hZ1.2.1) (by decide)) rfl rfl ⟨by simp, by simp⟩ (by first | decide | omega) (by first | decide | omega) (by first | decide | omega) (fun _ _ h => h) (s_D_makeFiber hZ1 (P 1 e) v (nI i) (sm_n0 hx1 (by decide)) hx1.2 hl1_1 hn10 hq rfl) (fun r_ M h_ hfr_ => ?_)
    obtain ⟨rfl, S2, hZ2, hk2⟩ := h_
    have hle2 : nfb P ≤ nfb (p_R_make (p_R_give P i (P 42 0)) (P 1 e) v (nI i)) := (by rw [nfb_make hZ1.2.2.1 hn10]; exact Nat.le_succ _)
    have hK2 : Kp P S S2 := Kp.trans hK1 hk2 hle1
    have hi2_0 : i < nfb (p_R_make (p_R_give P i (P 42 0)) (P 1 e) v (nI i)) := Nat.lt_of_lt_of_le hi hle2
    have hl2_0 : lv S2 3 e = true := hK2.2.2 3 _ he
    have hl2_1 : lv S2 3 (tn (P 1 e)) = true := hK2.2.2 3 _ (sl_x hZ.2.1 he hx0)
    have hV := hZ2.1
    refine g_return d_D_beginFork_36 rfl ⟨rfl, S2, ?_, hK2⟩
    rw [if_neg e10, if_neg e10, ← make_give _ _ _ _ hi]
    exact hZ2
  · have e10 := nf_ge hZ.2.2.1 c_6
    refine g_aload_n d_D_beginFork_9 rfl ?_
    refine g_iconst (v := -1) d_D_beginFork_10 (by decide) ?_
    refine g_callV (k1 := 0) (n1 := 12) [.int (-1)] cw_D_245 cv_F_die d_D_beginFork_11 rfl (hV.kdo (sl_4 hZ.2.1 hi) (by decide)) rfl rfl ⟨by simp, by simp⟩ (by first | decide | omega) (by first | decide | omega) (by first | decide | omega) (fun _ _ h => h) (s_F_die ⟨hV, hZ.2⟩ hi _ (fun h => by rw [h5] at h; exact absurd h (by decide))) (fun r_ M h_ hfr_ => ?_)
    obtain ⟨rfl, S1, hZ1, ha1, hb1⟩ := h_
    have hk1 : Kp P S S1 := Kp.of ha1 hb1
    have hle1 : nfb P ≤ nfb (p_R_fail P i 2 (-1)) := (Nat.le_refl _)
    have hK1 : Kp P S S1 := Kp.trans (Kp.refl P S) hk1 (Nat.le_refl _)
    have hi1_0 : i < nfb (p_R_fail P i 2 (-1)) := Nat.lt_of_lt_of_le hi hle1
    have hl1_0 : lv S1 3 e = true := hK1.2.2 3 _ he
    have hl1_1 : lv S1 3 (tn (P 1 e)) = true := hK1.2.2 3 _ (sl_x hZ.2.1 he hx0)
    have hV := hZ1.1
    exact g_return d_D_beginFork_14 rfl ⟨rfl, S1, by rw [if_pos e10, if_pos e10]; exact hZ1, hK1⟩
