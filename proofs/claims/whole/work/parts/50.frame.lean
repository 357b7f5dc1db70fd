/-! frames (by program: wip/tools/gen_s9.py) -/
/-- what a step of a running fiber and its frame k may change -/
def dR (i k : Nat) (f j : Nat) : Prop := (((10 ≤ f ∧ f ≤ 14) ∨ f = 22) ∧ j = i) ∨ (f = 33 ∧ (j = i ∨ j = 10 + k)) ∨ ((f = 34 ∨ f = 35) ∧ (j / 9 = i ∨ j / 9 = 10 + k)) ∨ (23 ≤ f ∧ f ≤ 32 ∧ ¬ f = 29 ∧ ¬ f = 30 ∧ j = k) ∨ ((f = 29 ∨ f = 30) ∧ j / 4 = k)
def dW (i k : Nat) (f τ : Nat) : Prop := (((258 ≤ f ∧ f ≤ 261) ∨ (263 ≤ f ∧ f ≤ 265)) ∧ τ = i) ∨ (320 ≤ f ∧ f < 384 ∧ τ = k)
theorem SF.run {P P' : Pst} {S S' : Gs} {i : Nat} (h : SF P S i) (h5 : P 5 i = 0) (h15 : P 15 i = 0) (hp : ∀ f, (5 ≤ f ∧ f ≤ 9) ∨ f = 15 → P' f i = P f i) (hl : lv S' 4 i = true) (ha : ad S' 4 i = ad S 4 i) (hr : vr S' (1472 + i) 0 = vr S (1472 + i) 0) (hv : ∀ f, f = 256 ∨ f = 257 ∨ f = 262 ∨ (266 ≤ f ∧ f ≤ 269) → vi S' f i = vi S f i) (h263 : vr S' 263 i = topR S' i (tn (P' 22 i))) (h264 : vi S' 264 i = P' 22 i) (h265 : vi S' 265 i = P' 10 i) (hA : ActR P' S' i) : SF P' S' i := by
  obtain ⟨⟨a1, a2, a3, a4, a5, a6, a7, a8, a9, a10, a11⟩, ⟨b1, b2, b3, b4⟩, c1, c2, c3⟩ := h
  unfold SF
  rw [h263, h264, h265, hp 5 (by omega), hp 6 (by omega), hp 7 (by omega), hp 8 (by omega), hp 9 (by omega), hp 15 (by omega), hr, ha, hv 256 (by omega), hv 257 (by omega), hv 262 (by omega), hv 266 (by omega), hv 267 (by omega), hv 268 (by omega), hv 269 (by omega)]
  refine ⟨⟨hl, a2, a3, a4, a5, rfl, rfl, rfl, a9, a10, a11⟩, ⟨b1, ?_, ?_, ?_⟩, fun _ _ => hA, ?_, ?_⟩
  · rw [h15]; intro q; exact absurd q (by decide)
  · rw [h15]; intro q; exact absurd q (by decide)
  · rw [h15]; intro q; exact absurd q (by decide)
  · rw [h5]; intro q; exact absurd q (by decide)
  · rw [h5]; intro q; exact absurd q (by decide)
/-- a step of a running fiber on the memory as it is -/
theorem Sim.run {P P' : Pst} {LL : Lls} {S S' : Gs} {i p : Nat} (h : Sim P LL S) (hw : WB P) (hi : i < nfb P) (h5 : P 5 i = 0) (h15 : P 15 i = 0) (hp : p < 16) (hs : Sx (dW i (16 * i + p)) S S') (hP : Ag (dR i (16 * i + p)) P P') (hd : tn (P' 22 i) ≤ tn (P 22 i)) (h263 : vr S' 263 i = topR S' i (tn (P' 22 i))) (h264 : vi S' 264 i = P' 22 i) (h265 : vi S' 265 i = P' 10 i) (hA : ActR P' S' i) (hQ : p < tn (P' 22 i) → SQ P' S' i p) : Sim P' LL S' := by
  have hn10 : nfb P ≤ 10 := (hw 42 0).2
  refine h.chg (p := p) hw hi hp hs.gx (fun g j d => hP g j (fun q => d (by unfold dR at q; unfold dF; omega))) (fun f τ d => hs.2.2.2.2 f τ (fun q => d (by unfold dW at q; unfold dV; omega))) (fun c τ _ => by rw [hs.2.1]) (fun τ q => by rw [hs.2.1]; exact q) (fun c τ _ => by rw [hs.1]) (fun τ _ => by rw [hs.1]) (fun q hq => Or.inr (by omega)) ?_ hQ
  have s := h.2.2.2.2.1 i hi
  exact s.run h5 h15 (fun f hf => hP f i (by unfold dR; omega)) (by rw [hs.2.1]; exact s.1.1) (by rw [hs.1]) (hs.2.2.2.2 _ _ (by unfold dW; omega)).2 (fun f hf => (hs.2.2.2.2 f i (by unfold dW; omega)).1) h263 h264 h265 hA
/-- a step at one frame alone -/
theorem Sim.frm {P P' : Pst} {LL : Lls} {S S' : Gs} {i p : Nat} (h : Sim P LL S) (hw : WB P) (hi : i < nfb P) (hp : p < tn (P 22 i)) (hs : Sx (fun f τ => 320 ≤ f ∧ f < 384 ∧ τ = 16 * i + p) S S') (hP : Ag (fun f j => (f = 33 ∧ j = 10 + (16 * i + p)) ∨ ((f = 34 ∨ f = 35) ∧ j / 9 = 10 + (16 * i + p)) ∨ (23 ≤ f ∧ f ≤ 32 ∧ ¬ f = 29 ∧ ¬ f = 30 ∧ j = 16 * i + p) ∨ ((f = 29 ∨ f = 30) ∧ j / 4 = 16 * i + p)) P P') (hQ : SQ P' S' i p) : Sim P' LL S' := by
  have hn10 : nfb P ≤ 10 := (hw 42 0).2
  have hd16 : tn (P 22 i) ≤ 16 := (hw 22 i).2
  have s := h.2.2.2.2.1 i hi
  refine h.chg (p := p) hw hi (by omega) hs.gx (fun g j d => hP g j (fun q => d (by unfold dF; omega))) (fun f τ d => hs.2.2.2.2 f τ (fun q => d (by unfold dV; omega))) (fun c τ _ => by rw [hs.2.1]) (fun τ q => by rw [hs.2.1]; exact q) (fun c τ _ => by rw [hs.1]) (fun τ _ => by rw [hs.1]) (fun q hq => Or.inr (by rw [hP 22 i (by omega)] at hq; exact hq)) ?_ (fun _ => hQ)
  refine s.ag hs.gx (fun f f1 f2 => hP f i (by omega)) (rowL_ag (hP 33 i (by omega)) (hw 33 i).2 (fun j hj => ⟨hP 34 _ (by omega), hP 35 _ (by omega)⟩)) (fun f f1 f2 => hs.2.2.2.2 f i (by omega)) (by rw [hs.2.1]; exact s.1.1) (by rw [hs.1]) (hs.2.2.2.2 _ _ (by omega)).2 (topR_ad hs.1 _ _)
theorem topR_s (S : Gs) (i p : Nat) : topR S i (p + 1) = some (ad S 5 (16 * i + p)) := by
  unfold topR
  rw [if_neg (by omega), Nat.add_sub_cancel]
theorem topR_0 (S : Gs) (i : Nat) : topR S i 0 = none := by
  unfold topR
  rw [if_pos rfl]
/-- masked outside of the latest MASK -/
def moP (P : Pst) (i : Nat) : Nat → Int32
  | 0 => P 10 i
  | p + 1 => if P 23 (16 * i + p) = 8 then P 31 (16 * i + p) else moP P i p
theorem moP_b {P : Pst} (hw : WB P) (i : Nat) : ∀ p, moP P i p = 0 ∨ moP P i p = 1
  | 0 => hw 10 i
  | p + 1 => by
    unfold moP
    split
    · exact hw 31 _
    · exact moP_b hw i p
theorem clo_0 {x : Int32} : cloI x = 0 ↔ ¬ x = 9 := by
  unfold cloI
  split
  · rename_i h; constructor
    · intro q; exact absurd q (by decide)
    · intro q; exact absurd h q
  · rename_i h; exact ⟨fun _ => h, fun _ => rfl⟩
set_option maxHeartbeats 1000000 in
set_option maxRecDepth 100000 in
theorem l_mo {P : Pst} {LL : Lls} {S : Gs} {M M0 : Mm} (hZ : Zt P LL S M) {i : Nat} (hi : i < nfb P) (hF : ∀ p, p < tn (P 22 i) → P 0 (tn (P 24 (16 * i + p))) = P 23 (16 * i + p)) {X : Int32} : ∀ (p : Nat), p ≤ tn (P 22 i) → X = moP P i p → G m_F_maskedOutsideMask ownC M0 (fun r M' => r = some (.int X) ∧ VM S M') 0 0 0 M 5 [some (va_rf (some (ad S 4 i))), some (va_rf (topR S i p))] []
  | 0, _, hX => by
    have hV := hZ.1
    rw [topR_0]
    refine g_aload_n d_F_maskedOutsideMask_5 rfl ?_
    refine g_ifnull 34 d_F_maskedOutsideMask_6 (by decide) (fun c_6 => ?_) (fun a_6 c_6 => ?_)
    · skip
      refine g_aload_n d_F_maskedOutsideMask_34 rfl ?_
      refine v_geti (v := P 10 i) (τ := i) 265 rfl hV (sl_4 hZ.2.1 hi) (by decide) (by decide) fl_F_37 rfl d_F_maskedOutsideMask_35 rfl (sf_265 hZ.2.1 hi) ?_
      exact g_zreturn d_F_maskedOutsideMask_38 rfl (hZ.2.2.1 10 i) ⟨by rw [hX]; rfl, hV⟩
    · exact absurd c_6 (by simp)
  | p + 1, hp1, hX => by
    have hV := hZ.1
    have hp : p < tn (P 22 i) := hp1
    have ih := l_mo hZ (M0 := M0) (X := X) hi hF p (Nat.le_of_succ_le hp1)
    rw [topR_s]
    refine g_aload_n d_F_maskedOutsideMask_5 rfl ?_
    refine g_ifnull 34 d_F_maskedOutsideMask_6 (by decide) (fun c_6 => ?_) (fun a_6 c_6 => ?_)
    · exact absurd (Eq.trans (Eq.symm (rfl : some (ad S 5 (16 * i + p)) = some _)) c_6) (by simp)
    · skip
      refine g_aload_n d_F_maskedOutsideMask_9 rfl ?_
      refine v_getr (v := some (ad S 3 (tn (P 24 (16 * i + p))))) (τ := (16 * i + p)) 320 rfl hV (sl_5 hZ.2.1 hi hp) (by decide) (by decide) fl_F_108 rfl d_F_maskedOutsideMask_10 rfl (sq_320 hZ.2.1 hi hp) ?_
      refine v_geti (v := P 23 (16 * i + p)) (τ := (tn (P 24 (16 * i + p)))) 192 rfl hV (sq_e hZ.2.1 hi hp) (by decide) (by decide) fl_F_81 rfl d_F_maskedOutsideMask_13 rfl ((se_192 hZ.2.1 (sq_e hZ.2.1 hi hp)).trans (hF p hp)) ?_
      refine g_bipush (v := 8) d_F_maskedOutsideMask_16 (by decide) ?_
      refine g_icmp_ne 26 d_F_maskedOutsideMask_18 (by decide) (fun c_18 => ?_) (fun c_18 => ?_)
      · skip
        refine g_aload_n d_F_maskedOutsideMask_26 rfl ?_
        refine v_getr (v := topR S i p) (τ := (16 * i + p)) 322 rfl hV (sl_5 hZ.2.1 hi hp) (by decide) (by decide) fl_F_114 rfl d_F_maskedOutsideMask_27 rfl (sq_322 hZ.2.1 hi hp) ?_
        refine g_astore_n d_F_maskedOutsideMask_30 (by decide) ?_
        refine g_goto 5 d_F_maskedOutsideMask_31 (by decide) ?_
        exact ih (by rw [hX]; unfold moP; rw [if_neg c_18]; cases p <;> rfl)
      · skip
        refine g_aload_n d_F_maskedOutsideMask_21 rfl ?_
        refine v_geti (v := P 31 (16 * i + p)) (τ := (16 * i + p)) 321 rfl hV (sl_5 hZ.2.1 hi hp) (by decide) (by decide) fl_F_111 rfl d_F_maskedOutsideMask_22 rfl (sq_321 hZ.2.1 hi hp) ?_
        exact g_zreturn d_F_maskedOutsideMask_25 rfl (hZ.2.2.1 31 _) ⟨by rw [hX]; unfold moP; rw [if_pos c_18], hV⟩
set_option maxHeartbeats 1000000 in
set_option maxRecDepth 100000 in
theorem s_F_maskedOutsideMask {P : Pst} {LL : Lls} {S : Gs} {M : Mm} (hZ : Zt P LL S M) {i : Nat} (hi : i < nfb P) (hF : ∀ p, p < tn (P 22 i) → P 0 (tn (P 24 (16 * i + p))) = P 23 (16 * i + p)) : Run m_F_maskedOutsideMask ownC 0 0 0 [va_rf (some (ad S 4 i))] M (fun r M' => r = some (.int (moP P i (tn (P 22 i)))) ∧ VM S M') := by
  have hV := hZ.1
  refine Run.ofG (by decide) (by simp [cat_int, cat_rf]) (Nat.le_of_ble_eq_true rfl) ?_
  refine g_aload_n d_F_maskedOutsideMask_0 rfl ?_
  refine v_getr (v := topR S i (tn (P 22 i))) (τ := i) 263 rfl hV (sl_4 hZ.2.1 hi) (by decide) (by decide) fl_F_30 rfl d_F_maskedOutsideMask_1 rfl (sf_263 hZ.2.1 hi) ?_
  refine g_astore_n d_F_maskedOutsideMask_4 (by decide) ?_
  exact l_mo hZ hi hF (tn (P 22 i)) (Nat.le_refl _) rfl
theorem rsc_a {P : Pst} {f p : Nat} (h : P 23 (16 * f + p) = 10) (h2 : P 25 (16 * f + p) = 9) : rsc P f (p + 1) = rsc P f p := by
  show (if P 23 (16 * f + p) = 10 then (if P 25 (16 * f + p) = 9 then rsc P f p else p + 1) else rsc P f p) = _
  rw [if_pos h, if_pos h2]
theorem rsc_b {P : Pst} {f p : Nat} (h : ¬ P 23 (16 * f + p) = 10) : rsc P f (p + 1) = rsc P f p := by
  show (if P 23 (16 * f + p) = 10 then (if P 25 (16 * f + p) = 9 then rsc P f p else p + 1) else rsc P f p) = _
  rw [if_neg h]
set_option maxHeartbeats 1000000 in
set_option maxRecDepth 100000 in
theorem l_os {P : Pst} {LL : Lls} {S : Gs} {M M0 : Mm} (hZ : Zt P LL S M) {i : Nat} (hi : i < nfb P) (hF : ∀ p, p < tn (P 22 i) → P 0 (tn (P 24 (16 * i + p))) = P 23 (16 * i + p)) {X : Option Nat} : ∀ (p : Nat), p ≤ tn (P 22 i) → X = topR S i (rsc P i p) → G m_F_openScope ownC M0 (fun r M' => r = some (va_rf X) ∧ VM S M') 0 0 0 M 5 [some (va_rf (some (ad S 4 i))), some (va_rf (topR S i p))] []
  | 0, _, hX => by
    have hV := hZ.1
    rw [topR_0]
    refine g_aload_n d_F_openScope_5 rfl ?_
    refine g_ifnull 38 d_F_openScope_6 (by decide) (fun c_6 => ?_) (fun a_6 c_6 => ?_)
    · skip
      refine g_null d_F_openScope_38 ?_
      exact g_areturn d_F_openScope_39 rfl ⟨by rw [hX]; unfold rsc; rw [topR_0], hV⟩
    · exact absurd c_6 (by simp)
  | p + 1, hp1, hX => by
    have hV := hZ.1
    have hp : p < tn (P 22 i) := hp1
    have ih := l_os hZ (M0 := M0) (X := X) hi hF p (Nat.le_of_succ_le hp1)
    rw [topR_s]
    refine g_aload_n d_F_openScope_5 rfl ?_
    refine g_ifnull 38 d_F_openScope_6 (by decide) (fun c_6 => ?_) (fun a_6 c_6 => ?_)
    · exact absurd (Eq.trans (Eq.symm (rfl : some (ad S 5 (16 * i + p)) = some _)) c_6) (by simp)
    · skip
      refine g_aload_n d_F_openScope_9 rfl ?_
      refine v_getr (v := some (ad S 3 (tn (P 24 (16 * i + p))))) (τ := (16 * i + p)) 320 rfl hV (sl_5 hZ.2.1 hi hp) (by decide) (by decide) fl_F_108 rfl d_F_openScope_10 rfl (sq_320 hZ.2.1 hi hp) ?_
      refine v_geti (v := P 23 (16 * i + p)) (τ := (tn (P 24 (16 * i + p)))) 192 rfl hV (sq_e hZ.2.1 hi hp) (by decide) (by decide) fl_F_81 rfl d_F_openScope_13 rfl ((se_192 hZ.2.1 (sq_e hZ.2.1 hi hp)).trans (hF p hp)) ?_
      refine g_bipush (v := 10) d_F_openScope_16 (by decide) ?_
      refine g_icmp_ne 30 d_F_openScope_18 (by decide) (fun c_18 => ?_) (fun c_18 => ?_)
      · skip
        refine g_aload_n d_F_openScope_30 rfl ?_
        refine v_getr (v := topR S i p) (τ := (16 * i + p)) 322 rfl hV (sl_5 hZ.2.1 hi hp) (by decide) (by decide) fl_F_114 rfl d_F_openScope_31 rfl (sq_322 hZ.2.1 hi hp) ?_
        refine g_astore_n d_F_openScope_34 (by decide) ?_
        refine g_goto 5 d_F_openScope_35 (by decide) ?_
        exact ih (by rw [hX]; exact congrArg (topR S i) (rsc_b c_18))
      · skip
        refine g_aload_n d_F_openScope_21 rfl ?_
        refine v_geti (v := cloI (P 25 (16 * i + p))) (τ := (16 * i + p)) 325 rfl hV (sl_5 hZ.2.1 hi hp) (by decide) (by decide) fl_F_127 rfl d_F_openScope_22 rfl (sq_325 hZ.2.1 hi hp) ?_
        refine g_if_ne 30 d_F_openScope_25 (by decide) (fun c_25 => ?_) (fun c_25 => ?_)
        · skip
          refine g_aload_n d_F_openScope_30 rfl ?_
          refine v_getr (v := topR S i p) (τ := (16 * i + p)) 322 rfl hV (sl_5 hZ.2.1 hi hp) (by decide) (by decide) fl_F_114 rfl d_F_openScope_31 rfl (sq_322 hZ.2.1 hi hp) ?_
          refine g_astore_n d_F_openScope_34 (by decide) ?_
          refine g_goto 5 d_F_openScope_35 (by decide) ?_
          exact ih (by rw [hX]; exact congrArg (topR S i) (rsc_a c_18 (Classical.byContradiction (fun q => c_25 (clo_0.mpr q)))))
        · skip
          refine g_aload_n d_F_openScope_28 rfl ?_
          exact g_areturn d_F_openScope_29 rfl ⟨by rw [hX]; unfold rsc; rw [if_pos c_18, if_neg (clo_0.mp c_25), topR_s], hV⟩
set_option maxHeartbeats 1000000 in
set_option maxRecDepth 100000 in
theorem s_F_openScope {P : Pst} {LL : Lls} {S : Gs} {M : Mm} (hZ : Zt P LL S M) {i : Nat} (hi : i < nfb P) (hF : ∀ p, p < tn (P 22 i) → P 0 (tn (P 24 (16 * i + p))) = P 23 (16 * i + p)) : Run m_F_openScope ownC 0 0 0 [va_rf (some (ad S 4 i))] M (fun r M' => r = some (va_rf (topR S i (rsc P i (tn (P 22 i))))) ∧ VM S M') := by
  have hV := hZ.1
  refine Run.ofG (by decide) (by simp [cat_int, cat_rf]) (Nat.le_of_ble_eq_true rfl) ?_
  refine g_aload_n d_F_openScope_0 rfl ?_
  refine v_getr (v := topR S i (tn (P 22 i))) (τ := i) 263 rfl hV (sl_4 hZ.2.1 hi) (by decide) (by decide) fl_F_30 rfl d_F_openScope_1 rfl (sf_263 hZ.2.1 hi) ?_
  refine g_astore_n d_F_openScope_4 (by decide) ?_
  exact l_os hZ hi hF (tn (P 22 i)) (Nat.le_refl _) rfl
set_option maxHeartbeats 1000000 in
set_option maxRecDepth 100000 in
theorem s_Q_hold {S : Gs} {M : Mm} (hV : VM S M) {k : Nat} (hk : lv S 5 k = true) (o : Option Nat) (v : Int32) : Run m_Q_hold ownC 2 1 3 [va_rf (some (ad S 5 k)), va_rf o, .int v] M (fun r M' => r = none ∧ ∃ q, kl S q = none ∧ VM (ui (ur (ukl S q (o, v, vr S 323 k)) 323 k (some q)) 324 k (vi S 324 k + 1)) M') := by
  refine Run.ofG (by decide) (by simp [cat_int, cat_rf]) (Nat.le_of_ble_eq_true rfl) ?_
  refine g_aload_n d_Q_hold_0 rfl ?_
  refine g_new (k' := 0) (n' := 0) 0 cl_Q_39 d_Q_hold_1 (by first | decide | omega) (by first | decide | omega) (fun q1 hq_q1 => ?_)
  have hn_q1 := hV.newc hq_q1
  have hV0_q1 := hV
  have hV := hV.ext (Ext.nw (Ext.refl _ M) hq_q1 6 0 3)
  refine g_dup d_Q_hold_4 ?_
  refine g_aload_n d_Q_hold_5 rfl ?_
  refine g_iload_n d_Q_hold_6 rfl ?_
  refine g_aload_n d_Q_hold_7 rfl ?_
  refine v_getr (v := vr S 323 k) (τ := k) 323 rfl hV hk (by decide) (by decide) fl_Q_7 rfl d_Q_hold_8 rfl rfl ?_
  refine g_callI (k1 := 0) (n1 := 0) [va_rf (o), .int (v), va_rf (vr S 323 k)] cw_Q_41 ci_K_init d_Q_hold_11 rfl rfl rfl ⟨by simp [cat_rf, cat_int], by simp⟩ (by first | decide | omega) (by first | decide | omega) (by first | decide | omega) (fun _ _ h => h) (c_K_init _ q1 0 (kd_nw_s _ _ _ _ _) _ _ _) (fun r_ M h_ hfr_ => ?_)
  obtain ⟨rfl, rfl⟩ := h_
  have hV := VM.kl (q := (o, v, vr S 323 k)) (hV0_q1.ext (isK_ext hq_q1 _ _ _)) (isK_init _ q1 _ _ _)
  refine v_putr (τ := k) 323 rfl hV (lv_l hk) (by decide) (by decide) fl_Q_7 (Or.inr (fun r h => by cases h; rfl)) rfl d_Q_hold_14 (ad_l rfl) (fun M hV => ?_)
  refine g_aload_n d_Q_hold_17 rfl ?_
  refine g_dup d_Q_hold_18 ?_
  refine v_geti (v := vi S 324 k) (τ := k) 324 rfl hV (lv_r (lv_l hk)) (by decide) (by decide) fl_Q_13 rfl d_Q_hold_19 (ad_r (ad_l rfl)) (vi_ur _ _ _ _ _ _) ?_
  refine g_iconst (v := 1) d_Q_hold_22 (by decide) ?_
  refine g_iadd d_Q_hold_23 ?_
  refine v_puti (τ := k) 324 rfl hV (lv_r (lv_l hk)) (by decide) (by decide) fl_Q_13 (Or.inr (fun r h => by cases h; rfl)) rfl d_Q_hold_24 (ad_r (ad_l rfl)) (fun M hV => ?_)
  exact g_return d_Q_hold_27 rfl ⟨rfl, q1, hn_q1.2, hV⟩
