/-! an exit comes to a frame (by program: wip/tools/gen_s12.py) -/
theorem vi_ukl (S : Gs) (a : Nat) (q : Option Nat × Int32 × Option Nat) (f t : Nat) : vi (ukl S a q) f t = vi S f t := rfl
theorem vr_ukl (S : Gs) (a : Nat) (q : Option Nat × Int32 × Option Nat) (f t : Nat) : vr (ukl S a q) f t = vr S f t := rfl
theorem vi_ukc (S : Gs) (a : Nat) (q : List (Int32 × Int32)) (f t : Nat) : vi (ukc S a q) f t = vi S f t := rfl
theorem vr_ukc (S : Gs) (a : Nat) (q : List (Int32 × Int32)) (f t : Nat) : vr (ukc S a q) f t = vr S f t := rfl
theorem Zt.pop {P : Pst} {LL : Lls} {S S' : Gs} {M M' : Mm} (hZ : Zt P LL S M) {i p : Nat} (hi : i < nfb P) (h5 : P 5 i = 0) (h15 : P 15 i = 0) (hd : tn (P 22 i) = p + 1) {m : Int32} (hm : m = 0 ∨ m = 1) (hs : Sx (fun f τ => (263 ≤ f ∧ f ≤ 265) ∧ τ = i) S S') (h263 : vr S' 263 i = topR S i p) (h264 : vi S' 264 i = P 22 i - 1) (h265 : vi S' 265 i = m) (hAct : ActR P S i) (hV : VM S' M') : Zt (up (up P 22 i (P 22 i - 1)) 10 i m) LL S' M' := by
  have hw := hZ.2.2.1
  have hd16 : tn (P 22 i) ≤ 16 := (hw 22 i).2
  have e22 : P 22 i - 1 = nI p := (tn_dec (hw 22 i).1 (by omega) (by omega)).1.trans (congrArg nI (by omega))
  have t22 : tn (P 22 i - 1) = p := by rw [e22, tn_nI (by omega)]
  have E : ∀ f j, ¬ f = 10 → ¬ f = 22 → up (up P 22 i (P 22 i - 1)) 10 i m f j = P f j := fun f j a b => by rw [up_f a, up_f b]
  have f22 : up (up P 22 i (P 22 i - 1)) 10 i m 22 i = P 22 i - 1 := by rw [up_f (by decide), up_s]
  have hv := hs.2.2.2.2
  refine hZ.run hi h5 h15 (p := p) (by omega) ⟨hs.1, hs.2.1, hs.2.2.1, hs.2.2.2.1, fun f τ d => hv f τ (fun q => d (by unfold dW; omega))⟩ (((Ag.refl _ P).up (by unfold dR; omega) _).up (by unfold dR; omega) _) (WB.up (f := 10) (WB.up (f := 22) hw (sm_of (N := 16) e22 (by omega) (by decide))) hm) (by rw [f22, t22]; omega) ?_ ?_ ?_ ?_ (fun q => by rw [f22, t22] at q; omega) hV
  · rw [f22, t22, topR_ad hs.1]; exact h263
  · rw [f22]; exact h264
  · rw [up_s]; exact h265
  · exact hAct.ag2 hs.gx (E _ _ (by decide) (by decide)) (E _ _ (by decide) (by decide)) (E _ _ (by decide) (by decide)) (E _ _ (by decide) (by decide)) (rowL_ne (fun j => E _ _ (by decide) (by decide)) (fun j => E _ _ (by decide) (by decide)) (fun j => E _ _ (by decide) (by decide))) (hv _ _ (by omega)).2 (hv _ _ (by omega)).1 (hv _ _ (by omega)).1 (hv _ _ (by omega)).2
theorem Zt.drop {P : Pst} {LL : Lls} {S S' : Gs} {M M' : Mm} (hZ : Zt P LL S M) {i p : Nat} (hi : i < nfb P) (h5 : P 5 i = 0) (h15 : P 15 i = 0) (hd : tn (P 22 i) = p + 1) (hs : Sx (fun f τ => (263 ≤ f ∧ f ≤ 265) ∧ τ = i) S S') (h263 : vr S' 263 i = topR S i p) (h264 : vi S' 264 i = P 22 i - 1) (h265 : vi S' 265 i = P 10 i) (hAct : ActR P S i) (hV : VM S' M') : Zt (up P 22 i (P 22 i - 1)) LL S' M' := by
  have h := hZ.pop hi h5 h15 hd (hZ.2.2.1 10 i) hs h263 h264 h265 hAct hV
  rw [show up (up P 22 i (P 22 i - 1)) 10 i (P 10 i) = up P 22 i (P 22 i - 1) from up_same (up P 22 i (P 22 i - 1)) 10 i] at h
  exact h
theorem Zt.brk {P : Pst} {LL : Lls} {S S' : Gs} {M M' : Mm} (hZ : Zt P LL S M) {i p : Nat} (hi : i < nfb P) (h5 : P 5 i = 0) (h15 : P 15 i = 0) (hd : tn (P 22 i) = p + 1) (h23 : P 23 (16 * i + p) = 7) (h25 : P 25 (16 * i + p) = 0) (hs : Sx (fun f τ => ((f = 258 ∨ f = 259 ∨ f = 265) ∧ τ = i) ∨ ((f = 323 ∨ f = 324) ∧ τ = 16 * i + p)) S S') (hy : sm (P 2 (tn (P 24 (16 * i + p)))) 39) (hl : lv S 3 (tn (P 2 (tn (P 24 (16 * i + p))))) = true) (h258 : vr S' 258 i = some (ad S 3 (tn (P 2 (tn (P 24 (16 * i + p))))))) (h259 : vi S' 259 i = P 13 i) (h265 : vi S' 265 i = P 31 (16 * i + p)) (hC : CLs S' (vr S' 323 (16 * i + p)) [(P 3 (tn (P 24 (16 * i + p))), P 13 i)]) (h324 : ¬ vi S' 324 (16 * i + p) = 0) (hV : VM S' M') : Zt (p_R_does (up (up (up P 10 i (P 31 (16 * i + p))) 25 (16 * i + p) 1) 26 (16 * i + p) (P 13 i)) i (P 2 (tn (P 24 (16 * i + p)))) (P 13 i)) LL S' M' := by
  have hw := hZ.2.2.1
  have hd16 : tn (P 22 i) ≤ 16 := (hw 22 i).2
  have hWB : WB (p_R_does (up (up (up P 10 i (P 31 (16 * i + p))) 25 (16 * i + p) 1) 26 (16 * i + p) (P 13 i)) i (P 2 (tn (P 24 (16 * i + p)))) (P 13 i)) := wb_does (WB.up (f := 26) (WB.up (f := 25) (WB.up (f := 10) hw (hw 31 _)) trivial) trivial) i (Or.inr hy)
  have E : ∀ f j, ¬ f = 10 → ¬ f = 11 → ¬ f = 12 → ¬ f = 25 → ¬ f = 26 → p_R_does (up (up (up P 10 i (P 31 (16 * i + p))) 25 (16 * i + p) 1) 26 (16 * i + p) (P 13 i)) i (P 2 (tn (P 24 (16 * i + p)))) (P 13 i) f j = P f j := fun f j a b c d e => by simp [p_R_does, up_e, a, b, c, d, e]
  have e10 : p_R_does (up (up (up P 10 i (P 31 (16 * i + p))) 25 (16 * i + p) 1) 26 (16 * i + p) (P 13 i)) i (P 2 (tn (P 24 (16 * i + p)))) (P 13 i) 10 i = P 31 (16 * i + p) := by simp [p_R_does, up_e]
  have e11 : p_R_does (up (up (up P 10 i (P 31 (16 * i + p))) 25 (16 * i + p) 1) 26 (16 * i + p) (P 13 i)) i (P 2 (tn (P 24 (16 * i + p)))) (P 13 i) 11 i = P 2 (tn (P 24 (16 * i + p))) := by simp [p_R_does, up_e]
  have e12 : p_R_does (up (up (up P 10 i (P 31 (16 * i + p))) 25 (16 * i + p) 1) 26 (16 * i + p) (P 13 i)) i (P 2 (tn (P 24 (16 * i + p)))) (P 13 i) 12 i = P 13 i := by simp [p_R_does, up_e]
  have e25 : p_R_does (up (up (up P 10 i (P 31 (16 * i + p))) 25 (16 * i + p) 1) 26 (16 * i + p) (P 13 i)) i (P 2 (tn (P 24 (16 * i + p)))) (P 13 i) 25 (16 * i + p) = 1 := by simp [p_R_does, up_e]
  have e26 : p_R_does (up (up (up P 10 i (P 31 (16 * i + p))) 25 (16 * i + p) 1) 26 (16 * i + p) (P 13 i)) i (P 2 (tn (P 24 (16 * i + p)))) (P 13 i) 26 (16 * i + p) = P 13 i := by simp [p_R_does, up_e]
  have hAg : Ag (dR i (16 * i + p)) P (p_R_does (up (up (up P 10 i (P 31 (16 * i + p))) 25 (16 * i + p) 1) 26 (16 * i + p) (P 13 i)) i (P 2 (tn (P 24 (16 * i + p)))) (P 13 i)) := by
    unfold p_R_does
    exact (((((Ag.refl _ P).up (by unfold dR; omega) _).up (by unfold dR; omega) _).up (by unfold dR; omega) _).up (by unfold dR; omega) _).up (by unfold dR; omega) _
  generalize p_R_does (up (up (up P 10 i (P 31 (16 * i + p))) 25 (16 * i + p) 1) 26 (16 * i + p) (P 13 i)) i (P 2 (tn (P 24 (16 * i + p)))) (P 13 i) = X at *
  have hv := hs.2.2.2.2
  refine hZ.run hi h5 h15 (p := p) (by omega) ⟨hs.1, hs.2.1, hs.2.2.1, hs.2.2.2.1, fun f τ d => hv f τ (fun q => d (by unfold dW; omega))⟩ hAg hWB (by rw [E 22 i (by decide) (by decide) (by decide) (by decide) (by decide)]; exact Nat.le_refl _) ?_ ?_ ?_ ?_ (fun _ => ?_) hV
  · rw [E 22 i (by decide) (by decide) (by decide) (by decide) (by decide), topR_ad hs.1, (hv 263 i (by omega)).2]; exact sf_263 hZ.2.1 hi
  · rw [E 22 i (by decide) (by decide) (by decide) (by decide) (by decide), (hv 264 i (by omega)).1]; exact sf_264 hZ.2.1 hi
  · rw [e10]; exact h265
  · unfold ActR
    rw [e11, e12, hs.1, hs.2.1]
    exact ⟨fun _ => ⟨hl, h258, h259⟩, fun q => absurd q (sm_n0 hy (by decide))⟩
  · obtain ⟨⟨a1, a2, a3, a4, a5, a6⟩, b1, b2, b3, b4⟩ := hZ.2.1.2.2.2.2.2.1 i p hi (by omega)
    have ec : clst X (16 * i + p) = [(P 3 (tn (P 24 (16 * i + p))), P 13 i)] := by
      unfold clst
      rw [e25, e26, E 23 _ (by decide) (by decide) (by decide) (by decide) (by decide), E 24 _ (by decide) (by decide) (by decide) (by decide) (by decide), if_neg (by rw [h23]; decide), if_neg (by rw [h23]; decide), if_pos h23, if_neg (by decide), E 3 _ (by decide) (by decide) (by decide) (by decide) (by decide)]
    have hrow : ∀ r, rowL X r = rowL P r := fun r => rowL_ne (fun j => E _ _ (by decide) (by decide) (by decide) (by decide) (by decide)) (fun j => E _ _ (by decide) (by decide) (by decide) (by decide) (by decide)) (fun j => E _ _ (by decide) (by decide) (by decide) (by decide) (by decide))
    unfold SQ
    rw [ec, e25, E 23 _ (by decide) (by decide) (by decide) (by decide) (by decide), E 24 _ (by decide) (by decide) (by decide) (by decide) (by decide), E 31 _ (by decide) (by decide) (by decide) (by decide) (by decide), (hv 320 _ (by omega)).2, (hv 321 _ (by omega)).1, (hv 322 _ (by omega)).2, (hv 325 _ (by omega)).1, hs.1, hs.2.1, topR_ad hs.1]
    refine ⟨⟨a1, a2, a3, a4, a5, by rw [a6, h25]; rfl⟩, hC, fun q => absurd (h23.symm.trans q) (by decide), fun _ => ⟨fun q => absurd q h324, fun q => absurd q (by decide)⟩, fun q => absurd q (by decide)⟩
def folP (P : Pst) (i e : Nat) : Pst := if P 14 i = 0 then p_R_does P i (P 2 e) (P 13 i) else if P 0 e = 5 ∧ P 33 i = 1 ∧ P 34 (9 * i) = 1 then p_R_does P i (P 3 e) (P 35 (9 * i)) else P
def clP (P P1 : Pst) (i k : Nat) : Pst := if P 25 k = 9 then (if P 14 i = 0 then p_R_close (up P 32 k (P 32 k ||| 0)) i k else if P 32 k = 0 then p_R_close (up (p_R_copy P i (10 + k)) 32 k (p_R_copy P i (10 + k) 32 k ||| 1)) i k else p_R_close (up (p_R_join P (10 + k) i 4) 32 k (p_R_join P (10 + k) i 4 32 k ||| 1)) i k) else p_R_closes P1 i k
theorem s_F_close {P P1 : Pst} {LL : Lls} {S : Gs} {M : Mm} (hZ : Zt P LL S M) {i p : Nat} (hi : i < nfb P) (h5 : P 5 i = 0) (h15 : P 15 i = 0) (hA : ¬ (P 6 i = 1 ∧ P 10 i = 0)) (h11 : P 11 i < 0) (hd : tn (P 22 i) = p + 1) (hN : ¬ P 25 (16 * i + p) = 9 → Ag (fun f j => (f = 28 ∧ j = 16 * i + p) ∨ ((f = 29 ∨ f = 30) ∧ j / 4 = 16 * i + p)) P P1 ∧ WB P1 ∧ stk P1 (16 * i + p) (tn (P1 28 (16 * i + p))) = clst P (16 * i + p) ∧ (P 23 (16 * i + p) = 7 → ¬ P 25 (16 * i + p) = 0)) : Run m_F_close ownC 3 3 20 [va_rf (some (ad S 4 i)), va_rf (some (ad S 5 (16 * i + p)))] M (fun r M' => r = none ∧ ∃ S', Zt (clP P P1 i (16 * i + p)) LL S' M' ∧ ad S' = ad S ∧ lv S' = lv S) := by
  unfold clP
  by_cases h25 : P 25 (16 * i + p) = 9
  · rw [if_pos h25]
    by_cases h14 : P 14 i = 0
    · rw [if_pos h14]; exact s_F_close_val hZ hi h5 h15 hA h11 hd h25 h14
    · rw [if_neg h14]
      by_cases h32 : P 32 (16 * i + p) = 0
      · rw [if_pos h32]; exact s_F_close_c0 hZ hi h5 h15 hA h11 hd h25 h14 h32
      · rw [if_neg h32]; exact s_F_close_cj hZ hi h5 h15 hA h11 hd h25 h14 h32
  · rw [if_neg h25]
    obtain ⟨a, b, c, d⟩ := hN h25
    exact s_F_close_new hZ hi h5 h15 hA h11 hd h25 a b c d
set_option maxHeartbeats 1000000 in
set_option maxRecDepth 100000 in
theorem s_F_follow {P : Pst} {LL : Lls} {S : Gs} {M : Mm} (hZ : Zt P LL S M) {i e : Nat} (hi : i < nfb P) (h5 : P 5 i = 0) (hA : ¬ (P 6 i = 1 ∧ P 10 i = 0)) (h11 : P 11 i < 0) (he : lv S 3 e = true) (hk : P 0 e = 4 ∨ P 0 e = 5) (hy : sm (P 2 e) 39) (hz : P 0 e = 5 → sm (P 3 e) 39) {o : Option Nat} (ho : o = some (ad S 3 e)) : Run m_F_follow ownC 1 0 0 [va_rf (some (ad S 4 i)), va_rf o] M (fun r M' => r = none ∧ ∃ S', Zt (folP P i e) LL S' M' ∧ ad S' = ad S ∧ lv S' = lv S) := by
  subst ho
  have hV := hZ.1
  refine Run.ofG (by decide) (by simp [cat_int, cat_rf]) (Nat.le_of_ble_eq_true rfl) ?_
  have hx := (hZ.exit hi h5 hA h11).2
  by_cases h14 : P 14 i = 0
  · rcases hk with hk | hk
    · skip
      refine g_aload_n d_F_follow_0 rfl ?_
      refine v_getr (v := none) (τ := i) 261 rfl hV (sl_4 hZ.2.1 hi) (by decide) (by decide) fl_F_22 rfl d_F_follow_1 rfl (hx.1 h14).1 ?_
      refine g_ifnonnull 22 d_F_follow_4 (by decide) (fun a_4 c_4 => ?_) (fun c_4 => ?_)
      · exact absurd c_4 (by simp)
      · skip
        refine g_aload_n d_F_follow_7 rfl ?_
        refine g_aload_n d_F_follow_8 rfl ?_
        refine v_getr (v := some (ad S 3 (tn (P 2 e)))) (τ := e) 195 rfl hV he (by decide) (by decide) fl_F_95 rfl d_F_follow_9 rfl (se_195 hZ.2.1 he (by rw [hk]; decide)) ?_
        refine g_aload_n d_F_follow_12 rfl ?_
        refine v_geti (v := P 13 i) (τ := i) 260 rfl hV (sl_4 hZ.2.1 hi) (by decide) (by decide) fl_F_19 rfl d_F_follow_13 rfl (hx.1 h14).2 ?_
        refine g_callV (k1 := 0) (n1 := 0) [va_rf (some (ad S 3 (tn (P 2 e)))), .int (P 13 i)] cw_F_105 cv_F_perform d_F_follow_16 rfl (hV.kdo (sl_4 hZ.2.1 hi) (by decide)) rfl rfl ⟨by simp, by simp⟩ (by first | decide | omega) (by first | decide | omega) (by first | decide | omega) (fun _ _ h => h) (v_F_perform hV (sl_4 hZ.2.1 hi) _ _) (fun r_ M h_ hfr_ => ?_)
        obtain ⟨rfl, hV⟩ := h_
        refine g_goto 57 d_F_follow_19 (by decide) ?_
        refine g_return d_F_follow_57 rfl ⟨rfl, doS S i (tn (P 2 e)) (P 13 i), ?_, rfl, rfl⟩
        unfold folP; rw [if_pos h14]
        exact hZ.does hi (P 13 i) hy (sl_y hZ.2.1 he (by rw [hk]; decide)) h5 hV
    · skip
      refine g_aload_n d_F_follow_0 rfl ?_
      refine v_getr (v := none) (τ := i) 261 rfl hV (sl_4 hZ.2.1 hi) (by decide) (by decide) fl_F_22 rfl d_F_follow_1 rfl (hx.1 h14).1 ?_
      refine g_ifnonnull 22 d_F_follow_4 (by decide) (fun a_4 c_4 => ?_) (fun c_4 => ?_)
      · exact absurd c_4 (by simp)
      · skip
        refine g_aload_n d_F_follow_7 rfl ?_
        refine g_aload_n d_F_follow_8 rfl ?_
        refine v_getr (v := some (ad S 3 (tn (P 2 e)))) (τ := e) 195 rfl hV he (by decide) (by decide) fl_F_95 rfl d_F_follow_9 rfl (se_195 hZ.2.1 he (by rw [hk]; decide)) ?_
        refine g_aload_n d_F_follow_12 rfl ?_
        refine v_geti (v := P 13 i) (τ := i) 260 rfl hV (sl_4 hZ.2.1 hi) (by decide) (by decide) fl_F_19 rfl d_F_follow_13 rfl (hx.1 h14).2 ?_
        refine g_callV (k1 := 0) (n1 := 0) [va_rf (some (ad S 3 (tn (P 2 e)))), .int (P 13 i)] cw_F_105 cv_F_perform d_F_follow_16 rfl (hV.kdo (sl_4 hZ.2.1 hi) (by decide)) rfl rfl ⟨by simp, by simp⟩ (by first | decide | omega) (by first | decide | omega) (by first | decide | omega) (fun _ _ h => h) (v_F_perform hV (sl_4 hZ.2.1 hi) _ _) (fun r_ M h_ hfr_ => ?_)
        obtain ⟨rfl, hV⟩ := h_
        refine g_goto 57 d_F_follow_19 (by decide) ?_
        refine g_return d_F_follow_57 rfl ⟨rfl, doS S i (tn (P 2 e)) (P 13 i), ?_, rfl, rfl⟩
        unfold folP; rw [if_pos h14]
        exact hZ.does hi (P 13 i) hy (sl_y hZ.2.1 he (by rw [hk]; decide)) h5 hV
  · obtain ⟨a, ea, ka⟩ := hx.2 h14
    have h9 := rowL_9 hZ.2.2.1 i
    rcases hk with hk | hk
    · skip
      refine g_aload_n d_F_follow_0 rfl ?_
      refine v_getr (v := some a) (τ := i) 261 rfl hV (sl_4 hZ.2.1 hi) (by decide) (by decide) fl_F_22 rfl d_F_follow_1 rfl ea ?_
      refine g_ifnonnull 22 d_F_follow_4 (by decide) (fun a_4 c_4 => ?_) (fun c_4 => ?_)
      · skip
        refine g_aload_n d_F_follow_22 rfl ?_
        refine v_geti (v := 4) (τ := e) 192 rfl hV he (by decide) (by decide) fl_F_81 rfl d_F_follow_23 rfl ((se_192 hZ.2.1 he).trans hk) ?_
        refine g_iconst (v := 5) d_F_follow_26 (by decide) ?_
        refine g_icmp_ne 57 d_F_follow_27 (by decide) (fun c_27 => ?_) (fun c_27 => ?_)
        · skip
          refine g_return d_F_follow_57 rfl ⟨rfl, S, ?_, rfl, rfl⟩
          unfold folP; rw [if_neg h14, if_neg (by rw [hk]; intro q; exact absurd q.1 (by decide))]
          exact hZ
        · exact absurd c_27 (by decide)
      · exact absurd (Eq.trans (Eq.symm (rfl : some a = some _)) c_4) (by simp)
    · obtain ⟨s1_, k1_, m1_, t1_, t2_, g1_, -⟩ := id (hV.2.1 a _ ka)
      by_cases hfa : P 33 i = 1 ∧ P 34 (9 * i) = 1
      · have h1 := (fa_iff hZ.2.2.1 i).mpr hfa
        have hne : ¬ isFA (rowL P i) = 0 := by rw [h1]; decide
        refine g_aload_n d_F_follow_0 rfl ?_
        refine v_getr (v := some a) (τ := i) 261 rfl hV (sl_4 hZ.2.1 hi) (by decide) (by decide) fl_F_22 rfl d_F_follow_1 rfl ea ?_
        refine g_ifnonnull 22 d_F_follow_4 (by decide) (fun a_4 c_4 => ?_) (fun c_4 => ?_)
        · skip
          refine g_aload_n d_F_follow_22 rfl ?_
          refine v_geti (v := 5) (τ := e) 192 rfl hV he (by decide) (by decide) fl_F_81 rfl d_F_follow_23 rfl ((se_192 hZ.2.1 he).trans hk) ?_
          refine g_iconst (v := 5) d_F_follow_26 (by decide) ?_
          refine g_icmp_ne 57 d_F_follow_27 (by decide) (fun c_27 => ?_) (fun c_27 => ?_)
          · exact absurd c_27 (by decide)
          · skip
            refine g_aload_n d_F_follow_30 rfl ?_
            refine v_getr (v := some a) (τ := i) 261 rfl hV (sl_4 hZ.2.1 hi) (by decide) (by decide) fl_F_22 rfl d_F_follow_31 rfl ea ?_
            refine g_callV (k1 := 0) (n1 := 0) [] cw_F_144 cv_C_isFailAlone d_F_follow_34 rfl g1_ rfl rfl ⟨by simp, by simp⟩ (by first | decide | omega) (by first | decide | omega) (by first | decide | omega) (fun _ _ h => h) (c_C_isFailAlone _ a _ h9 (hV.2.1 a _ ka)) (fun r_ M h_ hfr_ => ?_)
            obtain ⟨rfl, rfl⟩ := h_
            refine g_if_eq 57 d_F_follow_37 (by decide) (fun c_37 => ?_) (fun c_37 => ?_)
            · exact absurd (show isFA (rowL P i) = 0 from c_37) hne
            · skip
              refine g_aload_n d_F_follow_40 rfl ?_
              refine g_aload_n d_F_follow_41 rfl ?_
              refine v_getr (v := some (ad S 3 (tn (P 3 e)))) (τ := e) 196 rfl hV he (by decide) (by decide) fl_F_138 rfl d_F_follow_42 rfl (se_196 hZ.2.1 he (by rw [hk]; decide)) ?_
              refine g_aload_n d_F_follow_45 rfl ?_
              refine v_getr (v := some a) (τ := i) 261 rfl hV (sl_4 hZ.2.1 hi) (by decide) (by decide) fl_F_22 rfl d_F_follow_46 rfl ea ?_
              refine v_cnum hV ka fl_F_147 d_F_follow_49 rfl (fun a_49 ha_49 => ?_)
              refine g_iconst (v := 0) d_F_follow_52 (by decide) ?_
              refine v_cld (j := 0) ha_49 d_F_follow_53 rfl (by rw [rowL_len, hfa.1]; decide) h9 ?_
              refine g_callV (k1 := 0) (n1 := 0) [va_rf (some (ad S 3 (tn (P 3 e)))), .int (Prod.snd ((rowL P i).getD 0 (0, 0)))] cw_F_105 cv_F_perform d_F_follow_54 rfl (hV.kdo (sl_4 hZ.2.1 hi) (by decide)) rfl rfl ⟨by simp, by simp⟩ (by first | decide | omega) (by first | decide | omega) (by first | decide | omega) (fun _ _ h => h) (v_F_perform hV (sl_4 hZ.2.1 hi) _ _) (fun r_ M h_ hfr_ => ?_)
              obtain ⟨rfl, hV⟩ := h_
              have e35 : Prod.snd ((rowL P i).getD 0 (0, 0)) = P 35 (9 * i) := by rw [rowL_get P i 0 (by rw [hfa.1]; decide)]; rfl
              rw [e35] at hV
              refine g_return d_F_follow_57 rfl ⟨rfl, doS S i (tn (P 3 e)) (P 35 (9 * i)), ?_, rfl, rfl⟩
              unfold folP; rw [if_neg h14, if_pos ⟨hk, hfa⟩]
              exact hZ.does hi _ (hz hk) (sl_z hZ.2.1 he (by rw [hk]; decide)) h5 hV
        · exact absurd (Eq.trans (Eq.symm (rfl : some a = some _)) c_4) (by simp)
      · have h0 : isFA (rowL P i) = 0 := by rcases isFA_b (rowL P i) with q | q; exact q; exact absurd ((fa_iff hZ.2.2.1 i).mp q) hfa
        refine g_aload_n d_F_follow_0 rfl ?_
        refine v_getr (v := some a) (τ := i) 261 rfl hV (sl_4 hZ.2.1 hi) (by decide) (by decide) fl_F_22 rfl d_F_follow_1 rfl ea ?_
        refine g_ifnonnull 22 d_F_follow_4 (by decide) (fun a_4 c_4 => ?_) (fun c_4 => ?_)
        · skip
          refine g_aload_n d_F_follow_22 rfl ?_
          refine v_geti (v := 5) (τ := e) 192 rfl hV he (by decide) (by decide) fl_F_81 rfl d_F_follow_23 rfl ((se_192 hZ.2.1 he).trans hk) ?_
          refine g_iconst (v := 5) d_F_follow_26 (by decide) ?_
          refine g_icmp_ne 57 d_F_follow_27 (by decide) (fun c_27 => ?_) (fun c_27 => ?_)
          · exact absurd c_27 (by decide)
          · skip
            refine g_aload_n d_F_follow_30 rfl ?_
            refine v_getr (v := some a) (τ := i) 261 rfl hV (sl_4 hZ.2.1 hi) (by decide) (by decide) fl_F_22 rfl d_F_follow_31 rfl ea ?_
            refine g_callV (k1 := 0) (n1 := 0) [] cw_F_144 cv_C_isFailAlone d_F_follow_34 rfl g1_ rfl rfl ⟨by simp, by simp⟩ (by first | decide | omega) (by first | decide | omega) (by first | decide | omega) (fun _ _ h => h) (c_C_isFailAlone _ a _ h9 (hV.2.1 a _ ka)) (fun r_ M h_ hfr_ => ?_)
            obtain ⟨rfl, rfl⟩ := h_
            refine g_if_eq 57 d_F_follow_37 (by decide) (fun c_37 => ?_) (fun c_37 => ?_)
            · skip
              refine g_return d_F_follow_57 rfl ⟨rfl, S, ?_, rfl, rfl⟩
              unfold folP; rw [if_neg h14, if_neg (fun q => hfa q.2)]
              exact hZ
            · exact absurd (show isFA (rowL P i) = 0 from h0) c_37
        · exact absurd (Eq.trans (Eq.symm (rfl : some a = some _)) c_4) (by simp)
set_option maxHeartbeats 1000000 in
set_option maxRecDepth 100000 in
theorem s_F_comeTo_4 {P : Pst} {LL : Lls} {S : Gs} {M : Mm} (hZ : Zt P LL S M) {i p : Nat} (hi : i < nfb P) (h5 : P 5 i = 0) (h15 : P 15 i = 0) (hA : ¬ (P 6 i = 1 ∧ P 10 i = 0)) (h11 : P 11 i < 0) (hd : tn (P 22 i) = p + 1) (hF : P 0 (tn (P 24 (16 * i + p))) = P 23 (16 * i + p)) (h23 : P 23 (16 * i + p) = 4) (hy : sm (P 2 (tn (P 24 (16 * i + p)))) 39) (hz : P 0 (tn (P 24 (16 * i + p))) = 5 → sm (P 3 (tn (P 24 (16 * i + p)))) 39) : Run m_F_comeTo ownC 4 3 20 [va_rf (some (ad S 4 i)), va_rf (some (ad S 5 (16 * i + p)))] M (fun r M' => r = none ∧ ∃ S', Zt (folP (up P 22 i (P 22 i - 1)) i (tn (P 24 (16 * i + p)))) LL S' M' ∧ ad S' = ad S ∧ lv S' = lv S) := by
  have hp : p < tn (P 22 i) := by omega
  have hd16 : tn (P 22 i) ≤ 16 := (hZ.2.2.1 22 i).2
  have hx := (hZ.exit hi h5 hA h11).2
  have hAct := sf_act hZ.2.1 hi h5 hA
  have hex := sq_e hZ.2.1 hi hp
  have hV := hZ.1
  refine Run.ofG (by decide) (by simp [cat_int, cat_rf]) (Nat.le_of_ble_eq_true rfl) ?_
  refine g_aload_n d_F_comeTo_0 rfl ?_
  refine v_getr (v := some (ad S 3 (tn (P 24 (16 * i + p))))) (τ := (16 * i + p)) 320 rfl hV (sl_5 hZ.2.1 hi hp) (by decide) (by decide) fl_F_108 rfl d_F_comeTo_1 rfl (sq_320 hZ.2.1 hi hp) ?_
  refine g_astore_n d_F_comeTo_4 (by decide) ?_
  refine g_aload_n d_F_comeTo_5 rfl ?_
  refine v_geti (v := 4) (τ := (tn (P 24 (16 * i + p)))) 192 rfl hV hex (by decide) (by decide) fl_F_81 rfl d_F_comeTo_6 rfl ((se_192 hZ.2.1 hex).trans (hF.trans h23)) ?_
  refine g_tableIn 48 d_F_comeTo_9 (by decide) (by decide) rfl (by decide) ?_
  refine g_aload_n d_F_comeTo_48 rfl ?_
  refine g_aload_n d_F_comeTo_49 rfl ?_
  refine g_callV (k1 := 3) (n1 := 20) [va_rf (some (ad S 5 (16 * i + p)))] cw_F_130 cv_F_drop d_F_comeTo_50 rfl (hV.kdo (sl_4 hZ.2.1 hi) (by decide)) rfl rfl ⟨by simp, by simp⟩ (by first | decide | omega) (by first | decide | omega) (by first | decide | omega) (fun _ _ h => h) (v_F_dropx hV (sl_4 hZ.2.1 hi) (sl_5 hZ.2.1 hi hp) rfl) (fun r_ M h_ hfr_ => ?_)
  obtain ⟨rfl, hV⟩ := h_
  have hZ1 : Zt (up P 22 i (P 22 i - 1)) LL (ui (ur S 263 i (vr S 322 (16 * i + p))) 264 i (vi S 264 i - 1)) _ := hZ.drop hi h5 h15 hd (((Sx.refl _ S).ur (by omega) _).ui (by omega) _) (by rw [vr_ui, vr_ur_s]; exact sq_322 hZ.2.1 hi hp) (by rw [vi_ui_s]; exact congrArg (· - 1) (sf_264 hZ.2.1 hi)) (by rw [vi_ui_f (by decide), vi_ur]; exact sf_265 hZ.2.1 hi) hAct hV
  have hle1 : nfb P ≤ nfb (up P 22 i (P 22 i - 1)) := (Nat.le_refl _)
  have hK1 : Kp P S (ui (ur S 263 i (vr S 322 (16 * i + p))) 264 i (vi S 264 i - 1)) := Kp.trans (Kp.refl P S) (Kp.of rfl rfl) (Nat.le_refl _)
  have hi1_0 : i < nfb (up P 22 i (P 22 i - 1)) := Nat.lt_of_lt_of_le hi hle1
  have hl1_0 : lv (ui (ur S 263 i (vr S 322 (16 * i + p))) 264 i (vi S 264 i - 1)) 3 (tn (P 24 (16 * i + p))) = true := hK1.2.2 3 _ hex
  have hV := hZ1.1
  refine g_aload_n d_F_comeTo_53 rfl ?_
  refine g_aload_n d_F_comeTo_54 rfl ?_
  refine g_callV (k1 := 3) (n1 := 20) [va_rf (some (ad S 3 (tn (P 24 (16 * i + p)))))] cw_F_134 cv_F_follow d_F_comeTo_55 (ad_i (ad_r rfl)) (hV.kdo (sl_4 hZ1.2.1 hi1_0) (by decide)) rfl rfl ⟨by simp, by simp⟩ (by first | decide | omega) (by first | decide | omega) (by first | decide | omega) (fun _ _ h => h) (s_F_follow hZ1 hi h5 hA h11 hl1_0 (Or.inl (hF.trans h23)) hy hz (ad_i (ad_r rfl))) (fun r_ M h_ hfr_ => ?_)
  obtain ⟨rfl, S2, hZ2, ha2, hb2⟩ := h_
  refine g_goto 139 d_F_comeTo_58 (by decide) ?_
  exact g_return d_F_comeTo_139 rfl ⟨rfl, S2, hZ2, ha2, hb2⟩
set_option maxHeartbeats 1000000 in
set_option maxRecDepth 100000 in
theorem s_F_comeTo_5 {P : Pst} {LL : Lls} {S : Gs} {M : Mm} (hZ : Zt P LL S M) {i p : Nat} (hi : i < nfb P) (h5 : P 5 i = 0) (h15 : P 15 i = 0) (hA : ¬ (P 6 i = 1 ∧ P 10 i = 0)) (h11 : P 11 i < 0) (hd : tn (P 22 i) = p + 1) (hF : P 0 (tn (P 24 (16 * i + p))) = P 23 (16 * i + p)) (h23 : P 23 (16 * i + p) = 5) (hy : sm (P 2 (tn (P 24 (16 * i + p)))) 39) (hz : P 0 (tn (P 24 (16 * i + p))) = 5 → sm (P 3 (tn (P 24 (16 * i + p)))) 39) : Run m_F_comeTo ownC 4 3 20 [va_rf (some (ad S 4 i)), va_rf (some (ad S 5 (16 * i + p)))] M (fun r M' => r = none ∧ ∃ S', Zt (folP (up P 22 i (P 22 i - 1)) i (tn (P 24 (16 * i + p)))) LL S' M' ∧ ad S' = ad S ∧ lv S' = lv S) := by
  have hp : p < tn (P 22 i) := by omega
  have hd16 : tn (P 22 i) ≤ 16 := (hZ.2.2.1 22 i).2
  have hx := (hZ.exit hi h5 hA h11).2
  have hAct := sf_act hZ.2.1 hi h5 hA
  have hex := sq_e hZ.2.1 hi hp
  have hV := hZ.1
  refine Run.ofG (by decide) (by simp [cat_int, cat_rf]) (Nat.le_of_ble_eq_true rfl) ?_
  refine g_aload_n d_F_comeTo_0 rfl ?_
  refine v_getr (v := some (ad S 3 (tn (P 24 (16 * i + p))))) (τ := (16 * i + p)) 320 rfl hV (sl_5 hZ.2.1 hi hp) (by decide) (by decide) fl_F_108 rfl d_F_comeTo_1 rfl (sq_320 hZ.2.1 hi hp) ?_
  refine g_astore_n d_F_comeTo_4 (by decide) ?_
  refine g_aload_n d_F_comeTo_5 rfl ?_
  refine v_geti (v := 5) (τ := (tn (P 24 (16 * i + p)))) 192 rfl hV hex (by decide) (by decide) fl_F_81 rfl d_F_comeTo_6 rfl ((se_192 hZ.2.1 hex).trans (hF.trans h23)) ?_
  refine g_tableIn 48 d_F_comeTo_9 (by decide) (by decide) rfl (by decide) ?_
  refine g_aload_n d_F_comeTo_48 rfl ?_
  refine g_aload_n d_F_comeTo_49 rfl ?_
  refine g_callV (k1 := 3) (n1 := 20) [va_rf (some (ad S 5 (16 * i + p)))] cw_F_130 cv_F_drop d_F_comeTo_50 rfl (hV.kdo (sl_4 hZ.2.1 hi) (by decide)) rfl rfl ⟨by simp, by simp⟩ (by first | decide | omega) (by first | decide | omega) (by first | decide | omega) (fun _ _ h => h) (v_F_dropx hV (sl_4 hZ.2.1 hi) (sl_5 hZ.2.1 hi hp) rfl) (fun r_ M h_ hfr_ => ?_)
  obtain ⟨rfl, hV⟩ := h_
  have hZ1 : Zt (up P 22 i (P 22 i - 1)) LL (ui (ur S 263 i (vr S 322 (16 * i + p))) 264 i (vi S 264 i - 1)) _ := hZ.drop hi h5 h15 hd (((Sx.refl _ S).ur (by omega) _).ui (by omega) _) (by rw [vr_ui, vr_ur_s]; exact sq_322 hZ.2.1 hi hp) (by rw [vi_ui_s]; exact congrArg (· - 1) (sf_264 hZ.2.1 hi)) (by rw [vi_ui_f (by decide), vi_ur]; exact sf_265 hZ.2.1 hi) hAct hV
  have hle1 : nfb P ≤ nfb (up P 22 i (P 22 i - 1)) := (Nat.le_refl _)
  have hK1 : Kp P S (ui (ur S 263 i (vr S 322 (16 * i + p))) 264 i (vi S 264 i - 1)) := Kp.trans (Kp.refl P S) (Kp.of rfl rfl) (Nat.le_refl _)
  have hi1_0 : i < nfb (up P 22 i (P 22 i - 1)) := Nat.lt_of_lt_of_le hi hle1
  have hl1_0 : lv (ui (ur S 263 i (vr S 322 (16 * i + p))) 264 i (vi S 264 i - 1)) 3 (tn (P 24 (16 * i + p))) = true := hK1.2.2 3 _ hex
  have hV := hZ1.1
  refine g_aload_n d_F_comeTo_53 rfl ?_
  refine g_aload_n d_F_comeTo_54 rfl ?_
  refine g_callV (k1 := 3) (n1 := 20) [va_rf (some (ad S 3 (tn (P 24 (16 * i + p)))))] cw_F_134 cv_F_follow d_F_comeTo_55 (ad_i (ad_r rfl)) (hV.kdo (sl_4 hZ1.2.1 hi1_0) (by decide)) rfl rfl ⟨by simp, by simp⟩ (by first | decide | omega) (by first | decide | omega) (by first | decide | omega) (fun _ _ h => h) (s_F_follow hZ1 hi h5 hA h11 hl1_0 (Or.inr (hF.trans h23)) hy hz (ad_i (ad_r rfl))) (fun r_ M h_ hfr_ => ?_)
  obtain ⟨rfl, S2, hZ2, ha2, hb2⟩ := h_
  refine g_goto 139 d_F_comeTo_58 (by decide) ?_
  exact g_return d_F_comeTo_139 rfl ⟨rfl, S2, hZ2, ha2, hb2⟩
set_option maxHeartbeats 1000000 in
set_option maxRecDepth 100000 in
theorem s_F_comeTo_8 {P : Pst} {LL : Lls} {S : Gs} {M : Mm} (hZ : Zt P LL S M) {i p : Nat} (hi : i < nfb P) (h5 : P 5 i = 0) (h15 : P 15 i = 0) (hA : ¬ (P 6 i = 1 ∧ P 10 i = 0)) (h11 : P 11 i < 0) (hd : tn (P 22 i) = p + 1) (hF : P 0 (tn (P 24 (16 * i + p))) = P 23 (16 * i + p)) (h23 : P 23 (16 * i + p) = 8)  : Run m_F_comeTo ownC 4 3 20 [va_rf (some (ad S 4 i)), va_rf (some (ad S 5 (16 * i + p)))] M (fun r M' => r = none ∧ ∃ S', Zt (up (up P 22 i (P 22 i - 1)) 10 i (P 31 (16 * i + p))) LL S' M' ∧ ad S' = ad S ∧ lv S' = lv S) := by
  have hp : p < tn (P 22 i) := by omega
  have hd16 : tn (P 22 i) ≤ 16 := (hZ.2.2.1 22 i).2
  have hx := (hZ.exit hi h5 hA h11).2
  have hAct := sf_act hZ.2.1 hi h5 hA
  have hex := sq_e hZ.2.1 hi hp
  have hV := hZ.1
  refine Run.ofG (by decide) (by simp [cat_int, cat_rf]) (Nat.le_of_ble_eq_true rfl) ?_
  refine g_aload_n d_F_comeTo_0 rfl ?_
  refine v_getr (v := some (ad S 3 (tn (P 24 (16 * i + p))))) (τ := (16 * i + p)) 320 rfl hV (sl_5 hZ.2.1 hi hp) (by decide) (by decide) fl_F_108 rfl d_F_comeTo_1 rfl (sq_320 hZ.2.1 hi hp) ?_
  refine g_astore_n d_F_comeTo_4 (by decide) ?_
  refine g_aload_n d_F_comeTo_5 rfl ?_
  refine v_geti (v := 8) (τ := (tn (P 24 (16 * i + p)))) 192 rfl hV hex (by decide) (by decide) fl_F_81 rfl d_F_comeTo_6 rfl ((se_192 hZ.2.1 hex).trans (hF.trans h23)) ?_
  refine g_tableIn 61 d_F_comeTo_9 (by decide) (by decide) rfl (by decide) ?_
  refine g_aload_n d_F_comeTo_61 rfl ?_
  refine g_aload_n d_F_comeTo_62 rfl ?_
  refine v_geti (v := P 31 (16 * i + p)) (τ := (16 * i + p)) 321 rfl hV (sl_5 hZ.2.1 hi hp) (by decide) (by decide) fl_F_111 rfl d_F_comeTo_63 rfl (sq_321 hZ.2.1 hi hp) ?_
  refine v_putz (τ := i) 265 rfl hV (sl_4 hZ.2.1 hi) (by decide) (by decide) fl_F_37 (Or.inr (fun r h => by cases h; rfl)) rfl (hZ.2.2.1 31 (16 * i + p)) d_F_comeTo_66 rfl (fun M hV => ?_)
  refine g_aload_n d_F_comeTo_69 rfl ?_
  refine g_aload_n d_F_comeTo_70 rfl ?_
  refine g_callV (k1 := 3) (n1 := 20) [va_rf (some (ad S 5 (16 * i + p)))] cw_F_130 cv_F_drop d_F_comeTo_71 (ad_i rfl) (hV.kdo (lv_i (sl_4 hZ.2.1 hi)) (by decide)) rfl rfl ⟨by simp, by simp⟩ (by first | decide | omega) (by first | decide | omega) (by first | decide | omega) (fun _ _ h => h) (v_F_dropx hV (lv_i (sl_4 hZ.2.1 hi)) (lv_i (sl_5 hZ.2.1 hi hp)) (ad_i rfl)) (fun r_ M h_ hfr_ => ?_)
  obtain ⟨rfl, hV⟩ := h_
  refine g_goto 139 d_F_comeTo_74 (by decide) ?_
  refine g_return d_F_comeTo_139 rfl ⟨rfl, ui (ur (ui S 265 i (P 31 (16 * i + p))) 263 i (vr (ui S 265 i (P 31 (16 * i + p))) 322 (16 * i + p))) 264 i (vi (ui S 265 i (P 31 (16 * i + p))) 264 i - 1), ?_, rfl, rfl⟩
  exact hZ.pop hi h5 h15 hd (hZ.2.2.1 31 (16 * i + p)) ((((Sx.refl _ S).ui (by omega) _).ur (by omega) _).ui (by omega) _) (by rw [vr_ui, vr_ur_s, vr_ui]; exact sq_322 hZ.2.1 hi hp) (by rw [vi_ui_s, vi_ui_f (by decide)]; exact congrArg (· - 1) (sf_264 hZ.2.1 hi)) (by rw [vi_ui_f (by decide), vi_ur, vi_ui_s]) hAct hV
set_option maxHeartbeats 1000000 in
set_option maxRecDepth 100000 in
theorem s_F_comeTo_9 {P : Pst} {LL : Lls} {S : Gs} {M : Mm} (hZ : Zt P LL S M) {i p : Nat} (hi : i < nfb P) (h5 : P 5 i = 0) (h15 : P 15 i = 0) (hA : ¬ (P 6 i = 1 ∧ P 10 i = 0)) (h11 : P 11 i < 0) (hd : tn (P 22 i) = p + 1) (hF : P 0 (tn (P 24 (16 * i + p))) = P 23 (16 * i + p)) (h23 : P 23 (16 * i + p) = 9)  : Run m_F_comeTo ownC 4 3 20 [va_rf (some (ad S 4 i)), va_rf (some (ad S 5 (16 * i + p)))] M (fun r M' => r = none ∧ ∃ S', Zt (up (up P 22 i (P 22 i - 1)) 10 i (P 31 (16 * i + p))) LL S' M' ∧ ad S' = ad S ∧ lv S' = lv S) := by
  have hp : p < tn (P 22 i) := by omega
  have hd16 : tn (P 22 i) ≤ 16 := (hZ.2.2.1 22 i).2
  have hx := (hZ.exit hi h5 hA h11).2
  have hAct := sf_act hZ.2.1 hi h5 hA
  have hex := sq_e hZ.2.1 hi hp
  have hV := hZ.1
  refine Run.ofG (by decide) (by simp [cat_int, cat_rf]) (Nat.le_of_ble_eq_true rfl) ?_
  refine g_aload_n d_F_comeTo_0 rfl ?_
  refine v_getr (v := some (ad S 3 (tn (P 24 (16 * i + p))))) (τ := (16 * i + p)) 320 rfl hV (sl_5 hZ.2.1 hi hp) (by decide) (by decide) fl_F_108 rfl d_F_comeTo_1 rfl (sq_320 hZ.2.1 hi hp) ?_
  refine g_astore_n d_F_comeTo_4 (by decide) ?_
  refine g_aload_n d_F_comeTo_5 rfl ?_
  refine v_geti (v := 9) (τ := (tn (P 24 (16 * i + p)))) 192 rfl hV hex (by decide) (by decide) fl_F_81 rfl d_F_comeTo_6 rfl ((se_192 hZ.2.1 hex).trans (hF.trans h23)) ?_
  refine g_tableIn 61 d_F_comeTo_9 (by decide) (by decide) rfl (by decide) ?_
  refine g_aload_n d_F_comeTo_61 rfl ?_
  refine g_aload_n d_F_comeTo_62 rfl ?_
  refine v_geti (v := P 31 (16 * i + p)) (τ := (16 * i + p)) 321 rfl hV (sl_5 hZ.2.1 hi hp) (by decide) (by decide) fl_F_111 rfl d_F_comeTo_63 rfl (sq_321 hZ.2.1 hi hp) ?_
  refine v_putz (τ := i) 265 rfl hV (sl_4 hZ.2.1 hi) (by decide) (by decide) fl_F_37 (Or.inr (fun r h => by cases h; rfl)) rfl (hZ.2.2.1 31 (16 * i + p)) d_F_comeTo_66 rfl (fun M hV => ?_)
  refine g_aload_n d_F_comeTo_69 rfl ?_
  refine g_aload_n d_F_comeTo_70 rfl ?_
  refine g_callV (k1 := 3) (n1 := 20) [va_rf (some (ad S 5 (16 * i + p)))] cw_F_130 cv_F_drop d_F_comeTo_71 (ad_i rfl) (hV.kdo (lv_i (sl_4 hZ.2.1 hi)) (by decide)) rfl rfl ⟨by simp, by simp⟩ (by first | decide | omega) (by first | decide | omega) (by first | decide | omega) (fun _ _ h => h) (v_F_dropx hV (lv_i (sl_4 hZ.2.1 hi)) (lv_i (sl_5 hZ.2.1 hi hp)) (ad_i rfl)) (fun r_ M h_ hfr_ => ?_)
  obtain ⟨rfl, hV⟩ := h_
  refine g_goto 139 d_F_comeTo_74 (by decide) ?_
  refine g_return d_F_comeTo_139 rfl ⟨rfl, ui (ur (ui S 265 i (P 31 (16 * i + p))) 263 i (vr (ui S 265 i (P 31 (16 * i + p))) 322 (16 * i + p))) 264 i (vi (ui S 265 i (P 31 (16 * i + p))) 264 i - 1), ?_, rfl, rfl⟩
  exact hZ.pop hi h5 h15 hd (hZ.2.2.1 31 (16 * i + p)) ((((Sx.refl _ S).ui (by omega) _).ur (by omega) _).ui (by omega) _) (by rw [vr_ui, vr_ur_s, vr_ui]; exact sq_322 hZ.2.1 hi hp) (by rw [vi_ui_s, vi_ui_f (by decide)]; exact congrArg (· - 1) (sf_264 hZ.2.1 hi)) (by rw [vi_ui_f (by decide), vi_ur, vi_ui_s]) hAct hV
set_option maxHeartbeats 1000000 in
set_option maxRecDepth 100000 in
theorem s_F_comeTo_6 {P : Pst} {LL : Lls} {S : Gs} {M : Mm} (hZ : Zt P LL S M) {i p : Nat} (hi : i < nfb P) (h5 : P 5 i = 0) (h15 : P 15 i = 0) (hA : ¬ (P 6 i = 1 ∧ P 10 i = 0)) (h11 : P 11 i < 0) (hd : tn (P 22 i) = p + 1) (hF : P 0 (tn (P 24 (16 * i + p))) = P 23 (16 * i + p)) (h23 : P 23 (16 * i + p) = 6) {P1 : Pst} (hN : ¬ P 25 (16 * i + p) = 9 → Ag (fun f j => (f = 28 ∧ j = 16 * i + p) ∨ ((f = 29 ∨ f = 30) ∧ j / 4 = 16 * i + p)) P P1 ∧ WB P1 ∧ stk P1 (16 * i + p) (tn (P1 28 (16 * i + p))) = clst P (16 * i + p) ∧ (P 23 (16 * i + p) = 7 → ¬ P 25 (16 * i + p) = 0)) : Run m_F_comeTo ownC 4 3 20 [va_rf (some (ad S 4 i)), va_rf (some (ad S 5 (16 * i + p)))] M (fun r M' => r = none ∧ ∃ S', Zt (clP P P1 i (16 * i + p)) LL S' M' ∧ ad S' = ad S ∧ lv S' = lv S) := by
  have hp : p < tn (P 22 i) := by omega
  have hd16 : tn (P 22 i) ≤ 16 := (hZ.2.2.1 22 i).2
  have hx := (hZ.exit hi h5 hA h11).2
  have hAct := sf_act hZ.2.1 hi h5 hA
  have hex := sq_e hZ.2.1 hi hp
  have hV := hZ.1
  refine Run.ofG (by decide) (by simp [cat_int, cat_rf]) (Nat.le_of_ble_eq_true rfl) ?_
  refine g_aload_n d_F_comeTo_0 rfl ?_
  refine v_getr (v := some (ad S 3 (tn (P 24 (16 * i + p))))) (τ := (16 * i + p)) 320 rfl hV (sl_5 hZ.2.1 hi hp) (by decide) (by decide) fl_F_108 rfl d_F_comeTo_1 rfl (sq_320 hZ.2.1 hi hp) ?_
  refine g_astore_n d_F_comeTo_4 (by decide) ?_
  refine g_aload_n d_F_comeTo_5 rfl ?_
  refine v_geti (v := 6) (τ := (tn (P 24 (16 * i + p)))) 192 rfl hV hex (by decide) (by decide) fl_F_81 rfl d_F_comeTo_6 rfl ((se_192 hZ.2.1 hex).trans (hF.trans h23)) ?_
  refine g_tableIn 134 d_F_comeTo_9 (by decide) (by decide) rfl (by decide) ?_
  refine g_aload_n d_F_comeTo_134 rfl ?_
  refine g_aload_n d_F_comeTo_135 rfl ?_
  refine g_callV (k1 := 0) (n1 := 0) [va_rf (some (ad S 5 (16 * i + p)))] cw_F_141 cv_F_close d_F_comeTo_136 rfl (hV.kdo (sl_4 hZ.2.1 hi) (by decide)) rfl rfl ⟨by simp, by simp⟩ (by first | decide | omega) (by first | decide | omega) (by first | decide | omega) (fun _ _ h => h) (s_F_close ⟨hV, hZ.2⟩ hi h5 h15 hA h11 hd hN) (fun r_ M h_ hfr_ => ?_)
  obtain ⟨rfl, S2, hZ2, ha2, hb2⟩ := h_
  exact g_return d_F_comeTo_139 rfl ⟨rfl, S2, hZ2, ha2, hb2⟩
set_option maxHeartbeats 1000000 in
set_option maxRecDepth 100000 in
theorem s_F_comeTo_10 {P : Pst} {LL : Lls} {S : Gs} {M : Mm} (hZ : Zt P LL S M) {i p : Nat} (hi : i < nfb P) (h5 : P 5 i = 0) (h15 : P 15 i = 0) (hA : ¬ (P 6 i = 1 ∧ P 10 i = 0)) (h11 : P 11 i < 0) (hd : tn (P 22 i) = p + 1) (hF : P 0 (tn (P 24 (16 * i + p))) = P 23 (16 * i + p)) (h23 : P 23 (16 * i + p) = 10) {P1 : Pst} (hN : ¬ P 25 (16 * i + p) = 9 → Ag (fun f j => (f = 28 ∧ j = 16 * i + p) ∨ ((f = 29 ∨ f = 30) ∧ j / 4 = 16 * i + p)) P P1 ∧ WB P1 ∧ stk P1 (16 * i + p) (tn (P1 28 (16 * i + p))) = clst P (16 * i + p) ∧ (P 23 (16 * i + p) = 7 → ¬ P 25 (16 * i + p) = 0)) : Run m_F_comeTo ownC 4 3 20 [va_rf (some (ad S 4 i)), va_rf (some (ad S 5 (16 * i + p)))] M (fun r M' => r = none ∧ ∃ S', Zt (clP P P1 i (16 * i + p)) LL S' M' ∧ ad S' = ad S ∧ lv S' = lv S) := by
  have hp : p < tn (P 22 i) := by omega
  have hd16 : tn (P 22 i) ≤ 16 := (hZ.2.2.1 22 i).2
  have hx := (hZ.exit hi h5 hA h11).2
  have hAct := sf_act hZ.2.1 hi h5 hA
  have hex := sq_e hZ.2.1 hi hp
  have hV := hZ.1
  refine Run.ofG (by decide) (by simp [cat_int, cat_rf]) (Nat.le_of_ble_eq_true rfl) ?_
  refine g_aload_n d_F_comeTo_0 rfl ?_
  refine v_getr (v := some (ad S 3 (tn (P 24 (16 * i + p))))) (τ := (16 * i + p)) 320 rfl hV (sl_5 hZ.2.1 hi hp) (by decide) (by decide) fl_F_108 rfl d_F_comeTo_1 rfl (sq_320 hZ.2.1 hi hp) ?_
  refine g_astore_n d_F_comeTo_4 (by decide) ?_
  refine g_aload_n d_F_comeTo_5 rfl ?_
  refine v_geti (v := 10) (τ := (tn (P 24 (16 * i + p)))) 192 rfl hV hex (by decide) (by decide) fl_F_81 rfl d_F_comeTo_6 rfl ((se_192 hZ.2.1 hex).trans (hF.trans h23)) ?_
  refine g_tableOut 134 d_F_comeTo_9 (by decide) (by decide) ?_
  refine g_aload_n d_F_comeTo_134 rfl ?_
  refine g_aload_n d_F_comeTo_135 rfl ?_
  refine g_callV (k1 := 0) (n1 := 0) [va_rf (some (ad S 5 (16 * i + p)))] cw_F_141 cv_F_close d_F_comeTo_136 rfl (hV.kdo (sl_4 hZ.2.1 hi) (by decide)) rfl rfl ⟨by simp, by simp⟩ (by first | decide | omega) (by first | decide | omega) (by first | decide | omega) (fun _ _ h => h) (s_F_close ⟨hV, hZ.2⟩ hi h5 h15 hA h11 hd hN) (fun r_ M h_ hfr_ => ?_)
  obtain ⟨rfl, S2, hZ2, ha2, hb2⟩ := h_
  exact g_return d_F_comeTo_139 rfl ⟨rfl, S2, hZ2, ha2, hb2⟩
set_option maxHeartbeats 1000000 in
set_option maxRecDepth 100000 in
theorem s_F_comeTo_7n {P : Pst} {LL : Lls} {S : Gs} {M : Mm} (hZ : Zt P LL S M) {i p : Nat} (hi : i < nfb P) (h5 : P 5 i = 0) (h15 : P 15 i = 0) (hA : ¬ (P 6 i = 1 ∧ P 10 i = 0)) (h11 : P 11 i < 0) (hd : tn (P 22 i) = p + 1) (hF : P 0 (tn (P 24 (16 * i + p))) = P 23 (16 * i + p)) (h23 : P 23 (16 * i + p) = 7) (h25 : ¬ P 25 (16 * i + p) = 0) {P1 : Pst} (hN : ¬ P 25 (16 * i + p) = 9 → Ag (fun f j => (f = 28 ∧ j = 16 * i + p) ∨ ((f = 29 ∨ f = 30) ∧ j / 4 = 16 * i + p)) P P1 ∧ WB P1 ∧ stk P1 (16 * i + p) (tn (P1 28 (16 * i + p))) = clst P (16 * i + p) ∧ (P 23 (16 * i + p) = 7 → ¬ P 25 (16 * i + p) = 0)) : Run m_F_comeTo ownC 4 3 20 [va_rf (some (ad S 4 i)), va_rf (some (ad S 5 (16 * i + p)))] M (fun r M' => r = none ∧ ∃ S', Zt (clP P P1 i (16 * i + p)) LL S' M' ∧ ad S' = ad S ∧ lv S' = lv S) := by
  have hp : p < tn (P 22 i) := by omega
  have hd16 : tn (P 22 i) ≤ 16 := (hZ.2.2.1 22 i).2
  have hx := (hZ.exit hi h5 hA h11).2
  have hAct := sf_act hZ.2.1 hi h5 hA
  have hex := sq_e hZ.2.1 hi hp
  have hne : ¬ vi S 324 (16 * i + p) = 0 := fun q => h25 (((hZ.2.1.2.2.2.2.2.1 i p hi hp).2.2.2.1 h23).mp q)
  have hV := hZ.1
  refine Run.ofG (by decide) (by simp [cat_int, cat_rf]) (Nat.le_of_ble_eq_true rfl) ?_
  refine g_aload_n d_F_comeTo_0 rfl ?_
  refine v_getr (v := some (ad S 3 (tn (P 24 (16 * i + p))))) (τ := (16 * i + p)) 320 rfl hV (sl_5 hZ.2.1 hi hp) (by decide) (by decide) fl_F_108 rfl d_F_comeTo_1 rfl (sq_320 hZ.2.1 hi hp) ?_
  refine g_astore_n d_F_comeTo_4 (by decide) ?_
  refine g_aload_n d_F_comeTo_5 rfl ?_
  refine v_geti (v := 7) (τ := (tn (P 24 (16 * i + p)))) 192 rfl hV hex (by decide) (by decide) fl_F_81 rfl d_F_comeTo_6 rfl ((se_192 hZ.2.1 hex).trans (hF.trans h23)) ?_
  refine g_tableIn 77 d_F_comeTo_9 (by decide) (by decide) rfl (by decide) ?_
  refine g_aload_n d_F_comeTo_77 rfl ?_
  refine v_geti (v := vi S 324 (16 * i + p)) (τ := (16 * i + p)) 324 rfl hV (sl_5 hZ.2.1 hi hp) (by decide) (by decide) fl_F_121 rfl d_F_comeTo_78 rfl rfl ?_
  refine g_if_ne 126 d_F_comeTo_81 (by decide) (fun c_81 => ?_) (fun c_81 => ?_)
  · skip
    refine g_aload_n d_F_comeTo_126 rfl ?_
    refine g_aload_n d_F_comeTo_127 rfl ?_
    refine g_callV (k1 := 0) (n1 := 0) [va_rf (some (ad S 5 (16 * i + p)))] cw_F_141 cv_F_close d_F_comeTo_128 rfl (hV.kdo (sl_4 hZ.2.1 hi) (by decide)) rfl rfl ⟨by simp, by simp⟩ (by first | decide | omega) (by first | decide | omega) (by first | decide | omega) (fun _ _ h => h) (s_F_close ⟨hV, hZ.2⟩ hi h5 h15 hA h11 hd hN) (fun r_ M h_ hfr_ => ?_)
    obtain ⟨rfl, S2, hZ2, ha2, hb2⟩ := h_
    refine g_goto 139 d_F_comeTo_131 (by decide) ?_
    exact g_return d_F_comeTo_139 rfl ⟨rfl, S2, hZ2, ha2, hb2⟩
  · exact absurd (show vi S 324 (16 * i + p) = 0 from c_81) hne
set_option maxHeartbeats 1000000 in
set_option maxRecDepth 100000 in
theorem s_F_comeTo_7c {P : Pst} {LL : Lls} {S : Gs} {M : Mm} (hZ : Zt P LL S M) {i p : Nat} (hi : i < nfb P) (h5 : P 5 i = 0) (h15 : P 15 i = 0) (hA : ¬ (P 6 i = 1 ∧ P 10 i = 0)) (h11 : P 11 i < 0) (hd : tn (P 22 i) = p + 1) (hF : P 0 (tn (P 24 (16 * i + p))) = P 23 (16 * i + p)) (h23 : P 23 (16 * i + p) = 7) (h25 : P 25 (16 * i + p) = 0) (h14 : ¬ P 14 i = 0) : Run m_F_comeTo ownC 4 3 20 [va_rf (some (ad S 4 i)), va_rf (some (ad S 5 (16 * i + p)))] M (fun r M' => r = none ∧ ∃ S', Zt (up (up P 10 i (P 31 (16 * i + p))) 22 i (P 22 i - 1)) LL S' M' ∧ ad S' = ad S ∧ lv S' = lv S) := by
  have hp : p < tn (P 22 i) := by omega
  have hd16 : tn (P 22 i) ≤ 16 := (hZ.2.2.1 22 i).2
  have hx := (hZ.exit hi h5 hA h11).2
  have hAct := sf_act hZ.2.1 hi h5 hA
  have hex := sq_e hZ.2.1 hi hp
  obtain ⟨a, ea, ka⟩ := hx.2 h14
  have hV := hZ.1
  refine Run.ofG (by decide) (by simp [cat_int, cat_rf]) (Nat.le_of_ble_eq_true rfl) ?_
  refine g_aload_n d_F_comeTo_0 rfl ?_
  refine v_getr (v := some (ad S 3 (tn (P 24 (16 * i + p))))) (τ := (16 * i + p)) 320 rfl hV (sl_5 hZ.2.1 hi hp) (by decide) (by decide) fl_F_108 rfl d_F_comeTo_1 rfl (sq_320 hZ.2.1 hi hp) ?_
  refine g_astore_n d_F_comeTo_4 (by decide) ?_
  refine g_aload_n d_F_comeTo_5 rfl ?_
  refine v_geti (v := 7) (τ := (tn (P 24 (16 * i + p)))) 192 rfl hV hex (by decide) (by decide) fl_F_81 rfl d_F_comeTo_6 rfl ((se_192 hZ.2.1 hex).trans (hF.trans h23)) ?_
  refine g_tableIn 77 d_F_comeTo_9 (by decide) (by decide) rfl (by decide) ?_
  refine g_aload_n d_F_comeTo_77 rfl ?_
  refine v_geti (v := 0) (τ := (16 * i + p)) 324 rfl hV (sl_5 hZ.2.1 hi hp) (by decide) (by decide) fl_F_121 rfl d_F_comeTo_78 rfl (((hZ.2.1.2.2.2.2.2.1 i p hi hp).2.2.2.1 h23).mpr h25) ?_
  refine g_if_ne 126 d_F_comeTo_81 (by decide) (fun c_81 => ?_) (fun c_81 => ?_)
  · exact absurd c_81 (by decide)
  · skip
    refine g_aload_n d_F_comeTo_84 rfl ?_
    refine v_getr (v := some a) (τ := i) 261 rfl hV (sl_4 hZ.2.1 hi) (by decide) (by decide) fl_F_22 rfl d_F_comeTo_85 rfl ea ?_
    refine g_ifnonnull 126 d_F_comeTo_88 (by decide) (fun a_88 c_88 => ?_) (fun c_88 => ?_)
    · skip
      refine g_aload_n d_F_comeTo_126 rfl ?_
      refine g_aload_n d_F_comeTo_127 rfl ?_
      refine g_callV (k1 := 0) (n1 := 0) [va_rf (some (ad S 5 (16 * i + p)))] cw_F_141 cv_F_close d_F_comeTo_128 rfl (hV.kdo (sl_4 hZ.2.1 hi) (by decide)) rfl rfl ⟨by simp, by simp⟩ (by first | decide | omega) (by first | decide | omega) (by first | decide | omega) (fun _ _ h => h) (s_F_close_b0 ⟨hV, hZ.2⟩ hi h5 h15 hA h11 hd h23 h25) (fun r_ M h_ hfr_ => ?_)
      obtain ⟨rfl, S2, hZ2, ha2, hb2⟩ := h_
      refine g_goto 139 d_F_comeTo_131 (by decide) ?_
      exact g_return d_F_comeTo_139 rfl ⟨rfl, S2, hZ2, ha2, hb2⟩
    · exact absurd (Eq.trans (Eq.symm (rfl : some a = some _)) c_88) (by simp)
set_option maxHeartbeats 1000000 in
set_option maxRecDepth 100000 in
theorem s_F_comeTo_7v {P : Pst} {LL : Lls} {S : Gs} {M : Mm} (hZ : Zt P LL S M) {i p : Nat} (hi : i < nfb P) (h5 : P 5 i = 0) (h15 : P 15 i = 0) (hA : ¬ (P 6 i = 1 ∧ P 10 i = 0)) (h11 : P 11 i < 0) (hd : tn (P 22 i) = p + 1) (hF : P 0 (tn (P 24 (16 * i + p))) = P 23 (16 * i + p)) (h23 : P 23 (16 * i + p) = 7) (h25 : P 25 (16 * i + p) = 0) (h14 : P 14 i = 0) (hy : sm (P 2 (tn (P 24 (16 * i + p)))) 39) : Run m_F_comeTo ownC 4 3 20 [va_rf (some (ad S 4 i)), va_rf (some (ad S 5 (16 * i + p)))] M (fun r M' => r = none ∧ ∃ S', Zt (p_R_does (up (up (up P 10 i (P 31 (16 * i + p))) 25 (16 * i + p) 1) 26 (16 * i + p) (P 13 i)) i (P 2 (tn (P 24 (16 * i + p)))) (P 13 i)) LL S' M' ∧ ad S' = ad S ∧ lv S' = lv S) := by
  have hp : p < tn (P 22 i) := by omega
  have hd16 : tn (P 22 i) ≤ 16 := (hZ.2.2.1 22 i).2
  have hx := (hZ.exit hi h5 hA h11).2
  have hAct := sf_act hZ.2.1 hi h5 hA
  have hex := sq_e hZ.2.1 hi hp
  have hc0 : vr (ui S 265 i (P 31 (16 * i + p))) 323 (16 * i + p) = none := by
    have b1 := (hZ.2.1.2.2.2.2.2.1 i p hi hp).2.1
    have ec : clst P (16 * i + p) = [] := by unfold clst; rw [if_neg (by rw [h23, h25]; decide), if_neg (by rw [h23]; decide), if_pos h23, if_pos h25]
    rw [ec] at b1
    exact b1
  have hV := hZ.1
  refine Run.ofG (by decide) (by simp [cat_int, cat_rf]) (Nat.le_of_ble_eq_true rfl) ?_
  refine g_aload_n d_F_comeTo_0 rfl ?_
  refine v_getr (v := some (ad S 3 (tn (P 24 (16 * i + p))))) (τ := (16 * i + p)) 320 rfl hV (sl_5 hZ.2.1 hi hp) (by decide) (by decide) fl_F_108 rfl d_F_comeTo_1 rfl (sq_320 hZ.2.1 hi hp) ?_
  refine g_astore_n d_F_comeTo_4 (by decide) ?_
  refine g_aload_n d_F_comeTo_5 rfl ?_
  refine v_geti (v := 7) (τ := (tn (P 24 (16 * i + p)))) 192 rfl hV hex (by decide) (by decide) fl_F_81 rfl d_F_comeTo_6 rfl ((se_192 hZ.2.1 hex).trans (hF.trans h23)) ?_
  refine g_tableIn 77 d_F_comeTo_9 (by decide) (by decide) rfl (by decide) ?_
  refine g_aload_n d_F_comeTo_77 rfl ?_
  refine v_geti (v := 0) (τ := (16 * i + p)) 324 rfl hV (sl_5 hZ.2.1 hi hp) (by decide) (by decide) fl_F_121 rfl d_F_comeTo_78 rfl (((hZ.2.1.2.2.2.2.2.1 i p hi hp).2.2.2.1 h23).mpr h25) ?_
  refine g_if_ne 126 d_F_comeTo_81 (by decide) (fun c_81 => ?_) (fun c_81 => ?_)
  · exact absurd c_81 (by decide)
  · skip
    refine g_aload_n d_F_comeTo_84 rfl ?_
    refine v_getr (v := none) (τ := i) 261 rfl hV (sl_4 hZ.2.1 hi) (by decide) (by decide) fl_F_22 rfl d_F_comeTo_85 rfl (hx.1 h14).1 ?_
    refine g_ifnonnull 126 d_F_comeTo_88 (by decide) (fun a_88 c_88 => ?_) (fun c_88 => ?_)
    · exact absurd c_88 (by simp)
    · skip
      refine g_aload_n d_F_comeTo_91 rfl ?_
      refine g_aload_n d_F_comeTo_92 rfl ?_
      refine v_geti (v := P 31 (16 * i + p)) (τ := (16 * i + p)) 321 rfl hV (sl_5 hZ.2.1 hi hp) (by decide) (by decide) fl_F_111 rfl d_F_comeTo_93 rfl (sq_321 hZ.2.1 hi hp) ?_
      refine v_putz (τ := i) 265 rfl hV (sl_4 hZ.2.1 hi) (by decide) (by decide) fl_F_37 (Or.inr (fun r h => by cases h; rfl)) rfl (hZ.2.2.1 31 (16 * i + p)) d_F_comeTo_96 rfl (fun M hV => ?_)
      refine g_aload_n d_F_comeTo_99 rfl ?_
      refine g_aload_n d_F_comeTo_100 rfl ?_
      refine v_getr (v := some (ad S 3 (tn (P 3 (tn (P 24 (16 * i + p))))))) (τ := (tn (P 24 (16 * i + p)))) 196 rfl hV (lv_i hex) (by decide) (by decide) fl_F_138 rfl d_F_comeTo_101 (ad_i rfl) ((vr_ui _ _ _ _ _ _).trans (se_196 hZ.2.1 hex (by rw [hF, h23]; decide))) ?_
      refine g_aload_n d_F_comeTo_104 rfl ?_
      refine v_geti (v := P 13 i) (τ := i) 260 rfl hV (lv_i (sl_4 hZ.2.1 hi)) (by decide) (by decide) fl_F_19 rfl d_F_comeTo_105 (ad_i rfl) ((vi_ui_f (by decide) _ _ _ _).trans ((hx.1 h14).2)) ?_
      refine g_callV (k1 := 2) (n1 := 17) [va_rf (some (ad S 3 (tn (P 3 (tn (P 24 (16 * i + p))))))), .int (P 13 i)] cw_F_98 cv_Q_hold d_F_comeTo_108 (ad_i rfl) (hV.kdo (lv_i (sl_5 hZ.2.1 hi hp)) (by decide)) rfl rfl ⟨by simp, by simp⟩ (by first | decide | omega) (by first | decide | omega) (by first | decide | omega) (fun _ _ h => h) (s_Q_hold hV (lv_i (sl_5 hZ.2.1 hi hp)) _ _) (fun r_ M h_ hfr_ => ?_)
      obtain ⟨rfl, q2, hq2, hV⟩ := h_
      refine g_aload_n d_F_comeTo_111 rfl ?_
      refine g_aload_n d_F_comeTo_112 rfl ?_
      refine v_getr (v := some (ad S 3 (tn (P 2 (tn (P 24 (16 * i + p))))))) (τ := (tn (P 24 (16 * i + p)))) 195 rfl hV (lv_i (lv_r (lv_l (lv_i hex)))) (by decide) (by decide) fl_F_95 rfl d_F_comeTo_113 (ad_i (ad_r (ad_l (ad_i rfl)))) ((vr_ui _ _ _ _ _ _).trans ((vr_ur_f (by decide) _ _ _ _).trans ((vr_ukl _ _ _ _ _).trans ((vr_ui _ _ _ _ _ _).trans (se_195 hZ.2.1 hex (by rw [hF, h23]; decide)))))) ?_
      refine g_aload_n d_F_comeTo_116 rfl ?_
      refine v_geti (v := P 13 i) (τ := i) 260 rfl hV (lv_i (lv_r (lv_l (lv_i (sl_4 hZ.2.1 hi))))) (by decide) (by decide) fl_F_19 rfl d_F_comeTo_117 (ad_i (ad_r (ad_l (ad_i rfl)))) ((vi_ui_f (by decide) _ _ _ _).trans ((vi_ur _ _ _ _ _ _).trans ((vi_ukl _ _ _ _ _).trans ((vi_ui_f (by decide) _ _ _ _).trans ((hx.1 h14).2))))) ?_
      refine g_callV (k1 := 2) (n1 := 17) [va_rf (some (ad S 3 (tn (P 2 (tn (P 24 (16 * i + p))))))), .int (P 13 i)] cw_F_105 cv_F_perform d_F_comeTo_120 (ad_i (ad_r (ad_l (ad_i rfl)))) (hV.kdo (lv_i (lv_r (lv_l (lv_i (sl_4 hZ.2.1 hi))))) (by decide)) rfl rfl ⟨by simp, by simp⟩ (by first | decide | omega) (by first | decide | omega) (by first | decide | omega) (fun _ _ h => h) (v_F_perform hV (lv_i (lv_r (lv_l (lv_i (sl_4 hZ.2.1 hi))))) _ _) (fun r_ M h_ hfr_ => ?_)
      obtain ⟨rfl, hV⟩ := h_
      refine g_goto 139 d_F_comeTo_123 (by decide) ?_
      refine g_return d_F_comeTo_139 rfl ⟨rfl, (ui (ur (holdS (ui S 265 i (P 31 (16 * i + p))) (16 * i + p) q2 (some (ad S 3 (tn (P 3 (tn (P 24 (16 * i + p))))))) (P 13 i)) 258 i (some (ad S 3 (tn (P 2 (tn (P 24 (16 * i + p)))))))) 259 i (P 13 i)), ?_, rfl, rfl⟩
      have hq0 : kl (ui S 265 i (P 31 (16 * i + p))) q2 = none := hq2
      have hs0 : Sx (fun f τ => ((f = 258 ∨ f = 259 ∨ f = 265) ∧ τ = i) ∨ ((f = 323 ∨ f = 324) ∧ τ = (16 * i + p))) S (holdS (ui S 265 i (P 31 (16 * i + p))) (16 * i + p) q2 (some (ad S 3 (tn (P 3 (tn (P 24 (16 * i + p))))))) (P 13 i)) := ((Sx.kl ((Sx.refl _ S).ui (by omega) _) hq2 _).ur (by omega) _).ui (by omega) _
      refine hZ.brk hi h5 h15 hd h23 h25 ((hs0.ur (by omega) _).ui (by omega) _) hy (sl_y hZ.2.1 hex (by rw [hF, h23]; decide)) ?_ ?_ ?_ ?_ ?_ hV
      · rw [vr_ui, vr_ur_s]
      · rw [vi_ui_s]
      · rw [vi_ui_f (by decide), vi_ur]; unfold holdS; rw [vi_ui_f (by decide), vi_ur]; show vi (ui S 265 i (P 31 (16 * i + p))) 265 i = _; rw [vi_ui_s]
      · rw [vr_ui, vr_ur_f (by decide)]; exact (holdS_c (S := (ui S 265 i (P 31 (16 * i + p)))) (z := none) hc0 rfl (sl_z hZ.2.1 hex (by rw [hF, h23]; decide))).ag ⟨fun e he => ⟨he, rfl⟩, fun a l h => h, fun a l h => h⟩
      · rw [vi_ui_f (by decide), vi_ur]; unfold holdS; rw [vi_ui_s, vi_ui_f (by decide), ((hZ.2.1.2.2.2.2.2.1 i p hi hp).2.2.2.1 h23).mpr h25]; decide
