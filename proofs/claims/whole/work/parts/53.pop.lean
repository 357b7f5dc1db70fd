/-! closing and popping frames -/
theorem up_same (P : Pst) (f i : Nat) : up P f i (P f i) = P := by
  funext g j
  rw [up_e]
  split
  · rename_i q; rw [q.1, q.2]
  · rfl
theorem Zt.run {P P' : Pst} {LL : Lls} {S S' : Gs} {M M' : Mm} (hZ : Zt P LL S M) {i p : Nat} (hi : i < nfb P) (h5 : P 5 i = 0) (h15 : P 15 i = 0) (hp : p < 16) (hs : Sx (dW i (16 * i + p)) S S') (hP : Ag (dR i (16 * i + p)) P P') (hw' : WB P') (hd : tn (P' 22 i) ≤ tn (P 22 i)) (h263 : vr S' 263 i = topR S' i (tn (P' 22 i))) (h264 : vi S' 264 i = P' 22 i) (h265 : vi S' 265 i = P' 10 i) (hA : ActR P' S' i) (hQ : p < tn (P' 22 i) → SQ P' S' i p) (hV : VM S' M') : Zt P' LL S' M' :=
  ⟨hV, hZ.2.1.run hZ.2.2.1 hi h5 h15 hp hs hP hd h263 h264 h265 hA hQ, hw', by rw [hP 43 0 (by unfold dR; omega)]; exact hZ.2.2.2⟩
def dK (k : Nat) (f j : Nat) : Prop := (f = 33 ∧ j = 10 + k) ∨ ((f = 34 ∨ f = 35) ∧ j / 9 = 10 + k) ∨ (23 ≤ f ∧ f ≤ 32 ∧ ¬ f = 29 ∧ ¬ f = 30 ∧ j = k) ∨ ((f = 29 ∨ f = 30) ∧ j / 4 = k)
theorem Zt.dead {P P' : Pst} {LL : Lls} {S : Gs} {M : Mm} (hZ : Zt P LL S M) {i p : Nat} (hi : i < nfb P) (hp : p < 16) (hd : tn (P 22 i) ≤ p) (hP : Ag (dK (16 * i + p)) P P') (hw' : WB P') : Zt P' LL S M := by
  have hw := hZ.2.2.1
  have hn10 : nfb P ≤ 10 := (hw 42 0).2
  have e22 : P' 22 i = P 22 i := hP 22 i (by unfold dK; omega)
  have s := hZ.2.1.2.2.2.2.1 i hi
  refine ⟨hZ.1, hZ.2.1.chg (p := p) hw hi hp (Gx.refl S) (fun g j d => hP g j (fun q => d (by unfold dK at q; unfold dF; omega))) (fun f τ d => ⟨rfl, rfl⟩) (fun c τ _ => rfl) (fun τ q => q) (fun c τ _ => rfl) (fun τ _ => rfl) (fun q hq => Or.inr (by rw [e22] at hq; exact hq)) ?_ (fun q => by rw [e22] at q; omega), hw', by rw [hP 43 0 (by unfold dK; omega)]; exact hZ.2.2.2⟩
  exact s.ag (Gx.refl S) (fun f f1 f2 => hP f i (by unfold dK; omega)) (rowL_ag (hP 33 i (by unfold dK; omega)) (hw 33 i).2 (fun j hj => ⟨hP 34 _ (by unfold dK; omega), hP 35 _ (by unfold dK; omega)⟩)) (fun f f1 f2 => ⟨rfl, rfl⟩) s.1.1 rfl rfl rfl
theorem fa_iff {P : Pst} (hw : WB P) (i : Nat) : isFA (rowL P i) = 1 ↔ (P 33 i = 1 ∧ P 34 (9 * i) = 1) := by
  unfold isFA
  rw [rowL_len]
  have e : nI (tn (P 33 i)) = P 33 i := (hw 33 i).1.symm
  rw [e]
  by_cases h1 : P 33 i = 1
  · rw [if_pos h1, rowL_get P i 0 (by rw [h1]; decide)]
    show (if P 34 (9 * i + 0) = 1 then (1 : Int32) else 0) = 1 ↔ _
    rw [Nat.add_zero]
    by_cases h2 : P 34 (9 * i) = 1
    · rw [if_pos h2]; exact ⟨fun _ => ⟨h1, h2⟩, fun _ => rfl⟩
    · rw [if_neg h2]; exact ⟨fun q => absurd q (by decide), fun q => absurd q.2 h2⟩
  · rw [if_neg h1]; exact ⟨fun q => absurd q (by decide), fun q => absurd q.1 h1⟩
theorem isFA_b (l : List (Int32 × Int32)) : isFA l = 0 ∨ isFA l = 1 := by
  unfold isFA
  repeat' split
  all_goals simp
/-- the exit of a running fiber that returns -/
theorem Zt.exit {P : Pst} {LL : Lls} {S : Gs} {M : Mm} (hZ : Zt P LL S M) {i : Nat} (hi : i < nfb P) (h5 : P 5 i = 0) (hA : ¬ (P 6 i = 1 ∧ P 10 i = 0)) (h11 : P 11 i < 0) : vr S 258 i = none ∧ ExitR P S i := (sf_act hZ.2.1 hi h5 hA).2 h11
/-- the closing frame with no closer left: its exit returns -/
theorem close0_ag (P : Pst) (i k : Nat) (hk : ¬ i = 10 + k) (h28 : P 28 k ≤ 0) : Ag (dR i k) P (p_R_close P i k) := by
  have h0 : Ag (dR i k) P (up (p_R_give (up (up P 22 i (P 22 i - 1)) 10 i (P 31 k)) i (P 27 k)) 14 i (P 32 k)) := (ag_give (((Ag.refl _ P).up (by unfold dR; omega) _).up (by unfold dR; omega) _) (by unfold dR; omega) (by unfold dR; omega) (by unfold dR; omega) _).up (by unfold dR; omega) _
  unfold p_R_close
  rw [if_pos h28]
  split
  · exact h0
  · intro g j d
    rw [copy_o _ (Ne.symm hk) (by unfold dR at d; omega)]
    exact h0 g j d
theorem close0_f (P : Pst) (i k : Nat) (hk : ¬ i = 10 + k) (h28 : P 28 k ≤ 0) : p_R_close P i k 22 i = P 22 i - 1 ∧ p_R_close P i k 10 i = P 31 k ∧ p_R_close P i k 11 i = -1 ∧ p_R_close P i k 14 i = P 32 k ∧ p_R_close P i k 13 i = P 27 k := by
  unfold p_R_close
  rw [if_pos h28]
  split
  · refine ⟨?_, ?_, ?_, ?_, ?_⟩ <;> simp [p_R_give, up_e]
  · rw [copy_o _ (Ne.symm hk) (by omega), copy_o _ (Ne.symm hk) (by omega), copy_o _ (Ne.symm hk) (by omega), copy_o _ (Ne.symm hk) (by omega), copy_o _ (Ne.symm hk) (by omega)]
    refine ⟨?_, ?_, ?_, ?_, ?_⟩ <;> simp [p_R_give, up_e]
theorem close0_row {P : Pst} (hw : WB P) (i k : Nat) (hk : ¬ i = 10 + k) (hd1 : 1 ≤ tn (P 22 i)) (h28 : P 28 k ≤ 0) (h32 : ¬ P 32 k = 0) : rowL (p_R_close P i k) i = rowL P (10 + k) := by
  have hd : tn (P 22 i) ≤ 16 := (hw 22 i).2
  unfold p_R_close
  rw [if_pos h28, if_neg h32]
  have hW : WB (up (p_R_give (up (up P 22 i (P 22 i - 1)) 10 i (P 31 k)) i (P 27 k)) 14 i (P 32 k)) := by
    refine WB.up (wb_give (WB.up (WB.up hw ?_) ?_) _ _) ?_
    · exact sm_of (tn_dec (hw 22 i).1 hd1 (by omega)).1 (by omega) (by decide)
    · exact hw 31 k
    · exact hw 32 k
  rw [rowL_copy hW (Ne.symm hk)]
  exact rowL_ne (fun j => by simp [p_R_give, up_e]) (fun j => by simp [p_R_give, up_e]) (fun j => by simp [p_R_give, up_e])
theorem Zt.close0 {P : Pst} {LL : Lls} {S S' : Gs} {M M' : Mm} (hZ : Zt P LL S M) {i p : Nat} (hi : i < nfb P) (h5 : P 5 i = 0) (h15 : P 15 i = 0) (hd : tn (P 22 i) = p + 1) (h25 : P 25 (16 * i + p) = 9) (h28 : P 28 (16 * i + p) ≤ 0) (hs : Sx (dW i (16 * i + p)) S S') (h258 : vr S' 258 i = none) (h260 : vi S' 260 i = vi S 326 (16 * i + p)) (h261 : vr S' 261 i = vr S 327 (16 * i + p)) (h263 : vr S' 263 i = topR S i p) (h264 : vi S' 264 i = P 22 i - 1) (h265 : vi S' 265 i = P 31 (16 * i + p)) (hV : VM S' M') : Zt (p_R_close P i (16 * i + p)) LL S' M' := by
  have hw := hZ.2.2.1
  have hn10 : nfb P ≤ 10 := (hw 42 0).2
  have hd16 : tn (P 22 i) ≤ 16 := (hw 22 i).2
  have hk : ¬ i = 10 + (16 * i + p) := by omega
  obtain ⟨c22, c10, c11, c14, c13⟩ := close0_f P i (16 * i + p) hk h28
  have t22 : tn (P 22 i - 1) = p := by rw [(tn_dec (hw 22 i).1 (by omega) (by omega)).2]; omega
  have b4 := (hZ.2.1.2.2.2.2.2.1 i p hi (by omega)).2.2.2.2 h25
  refine hZ.run hi h5 h15 (p := p) (by omega) hs (close0_ag P i _ hk h28) (wb_close hw i _ (by omega)) (by rw [c22, t22]; omega) ?_ ?_ ?_ ?_ (fun q => by rw [c22, t22] at q; omega) hV
  · rw [c22, t22, topR_ad hs.1]; exact h263
  · rw [c22]; exact h264
  · rw [c10]; exact h265
  · refine ⟨fun q => absurd (by rw [c11]; decide) q, fun _ => ⟨h258, ?_⟩⟩
    unfold ExitR
    rw [c14, c13, h260, h261]
    refine ⟨b4.1, fun q => ?_⟩
    rw [close0_row hw i _ hk (by omega) h28 q]
    obtain ⟨a, e1, e2⟩ := b4.2 q
    exact ⟨a, e1, hs.2.2.1 _ _ e2⟩
/-- the closing frame's latest closer is begun -/
theorem Zt.close1 {P : Pst} {LL : Lls} {S S' : Gs} {M M' : Mm} (hZ : Zt P LL S M) {i p m : Nat} (hi : i < nfb P) (h5 : P 5 i = 0) (h15 : P 15 i = 0) (hd : tn (P 22 i) = p + 1) (h25 : P 25 (16 * i + p) = 9) (h28 : tn (P 28 (16 * i + p)) = m + 1) (hs : Sx (fun f τ => ((f = 258 ∨ f = 259 ∨ f = 265) ∧ τ = i) ∨ (f = 323 ∧ τ = 16 * i + p)) S S') (hl : lv S 3 (tn (P 29 (4 * (16 * i + p) + m))) = true) (h258 : vr S' 258 i = some (ad S 3 (tn (P 29 (4 * (16 * i + p) + m))))) (h259 : vi S' 259 i = P 30 (4 * (16 * i + p) + m)) (h265 : vi S' 265 i = 1) (hC : CLs S (vr S' 323 (16 * i + p)) (stk P (16 * i + p) m)) (hV : VM S' M') : Zt (p_R_close P i (16 * i + p)) LL S' M' := by
  have hw := hZ.2.2.1
  have hn10 : nfb P ≤ 10 := (hw 42 0).2
  have hd16 : tn (P 22 i) ≤ 16 := (hw 22 i).2
  have h4 : tn (P 28 (16 * i + p)) ≤ 4 := (hw 28 _).2
  have n28 : ¬ P 28 (16 * i + p) ≤ 0 := ix_pos (hw 28 _).1 (by omega) (by omega)
  have hs' : Sx (dW i (16 * i + p)) S S' := ⟨hs.1, hs.2.1, hs.2.2.1, hs.2.2.2.1, fun f τ d => hs.2.2.2.2 f τ (fun q => d (by unfold dW; omega))⟩
  have hWB := wb_close hw i (16 * i + p) (by omega)
  have eC : p_R_close P i (16 * i + p) = p_R_does (up (up P 28 (16 * i + p) (P 28 (16 * i + p) - 1)) 10 i 1) i (P 29 (4 * (16 * i + p) + m)) (P 30 (4 * (16 * i + p) + m)) := by
    unfold p_R_close
    rw [if_neg n28, h28, Nat.add_sub_cancel]
  rw [eC] at hWB ⊢
  have E : ∀ f j, ¬ f = 10 → ¬ f = 11 → ¬ f = 12 → ¬ f = 28 → p_R_does (up (up P 28 (16 * i + p) (P 28 (16 * i + p) - 1)) 10 i 1) i (P 29 (4 * (16 * i + p) + m)) (P 30 (4 * (16 * i + p) + m)) f j = P f j := fun f j a b c d => by simp [p_R_does, up_e, a, b, c, d]
  have e28 : p_R_does (up (up P 28 (16 * i + p) (P 28 (16 * i + p) - 1)) 10 i 1) i (P 29 (4 * (16 * i + p) + m)) (P 30 (4 * (16 * i + p) + m)) 28 (16 * i + p) = P 28 (16 * i + p) - 1 := by simp [p_R_does, up_e]
  have e10 : p_R_does (up (up P 28 (16 * i + p) (P 28 (16 * i + p) - 1)) 10 i 1) i (P 29 (4 * (16 * i + p) + m)) (P 30 (4 * (16 * i + p) + m)) 10 i = 1 := by simp [p_R_does, up_e]
  have e11 : p_R_does (up (up P 28 (16 * i + p) (P 28 (16 * i + p) - 1)) 10 i 1) i (P 29 (4 * (16 * i + p) + m)) (P 30 (4 * (16 * i + p) + m)) 11 i = P 29 (4 * (16 * i + p) + m) := by simp [p_R_does, up_e]
  have e12 : p_R_does (up (up P 28 (16 * i + p) (P 28 (16 * i + p) - 1)) 10 i 1) i (P 29 (4 * (16 * i + p) + m)) (P 30 (4 * (16 * i + p) + m)) 12 i = P 30 (4 * (16 * i + p) + m) := by simp [p_R_does, up_e]
  have hAg : Ag (dR i (16 * i + p)) P (p_R_does (up (up P 28 (16 * i + p) (P 28 (16 * i + p) - 1)) 10 i 1) i (P 29 (4 * (16 * i + p) + m)) (P 30 (4 * (16 * i + p) + m))) := by
    unfold p_R_does
    exact ((((Ag.refl _ P).up (by unfold dR; omega) _).up (by unfold dR; omega) _).up (by unfold dR; omega) _).up (by unfold dR; omega) _
  generalize p_R_does (up (up P 28 (16 * i + p) (P 28 (16 * i + p) - 1)) 10 i 1) i (P 29 (4 * (16 * i + p) + m)) (P 30 (4 * (16 * i + p) + m)) = X at *
  have hv : ∀ f τ, ¬ (((f = 258 ∨ f = 259 ∨ f = 265) ∧ τ = i) ∨ (f = 323 ∧ τ = 16 * i + p)) → vi S' f τ = vi S f τ ∧ vr S' f τ = vr S f τ := hs.2.2.2.2
  have sf := hZ.2.1.2.2.2.2.1 i hi
  refine hZ.run hi h5 h15 (p := p) (by omega) hs' hAg hWB (by rw [E 22 i (by decide) (by decide) (by decide) (by decide)]; exact Nat.le_refl _) ?_ ?_ ?_ ?_ (fun _ => ?_) hV
  · rw [E 22 i (by decide) (by decide) (by decide) (by decide), topR_ad hs.1, (hv 263 i (by omega)).2]; exact sf_263 hZ.2.1 hi
  · rw [E 22 i (by decide) (by decide) (by decide) (by decide), (hv 264 i (by omega)).1]; exact sf_264 hZ.2.1 hi
  · rw [e10]; exact h265
  · unfold ActR
    rw [e11, e12, hs.1, hs.2.1]
    exact ⟨fun _ => ⟨hl, h258, h259⟩, fun q => absurd q (sm_n0 (hw 29 _) (by decide))⟩
  · obtain ⟨⟨a1, a2, a3, a4, a5, a6⟩, b1, b2, b3, b4⟩ := hZ.2.1.2.2.2.2.2.1 i p hi (by omega)
    have ec : clst X (16 * i + p) = stk P (16 * i + p) m := by
      unfold clst
      rw [if_pos (Or.inl (by rw [E 25 _ (by decide) (by decide) (by decide) (by decide)]; exact h25)), e28, (tn_dec (hw 28 _).1 (by omega) (by omega)).2, h28, Nat.add_sub_cancel]
      exact stk_lt _ (fun j hj => ⟨E 29 _ (by decide) (by decide) (by decide) (by decide), E 30 _ (by decide) (by decide) (by decide) (by decide)⟩)
    have hrow : ∀ r, rowL X r = rowL P r := fun r => rowL_ne (fun j => E _ _ (by decide) (by decide) (by decide) (by decide)) (fun j => E _ _ (by decide) (by decide) (by decide) (by decide)) (fun j => E _ _ (by decide) (by decide) (by decide) (by decide))
    unfold SQ
    rw [ec, E 23 _ (by decide) (by decide) (by decide) (by decide), E 24 _ (by decide) (by decide) (by decide) (by decide), E 25 _ (by decide) (by decide) (by decide) (by decide), E 27 _ (by decide) (by decide) (by decide) (by decide), E 31 _ (by decide) (by decide) (by decide) (by decide), E 32 _ (by decide) (by decide) (by decide) (by decide), hrow, (hv 320 _ (by omega)).2, (hv 321 _ (by omega)).1, (hv 322 _ (by omega)).2, (hv 324 _ (by omega)).1, (hv 325 _ (by omega)).1, (hv 326 _ (by omega)).1, (hv 327 _ (by omega)).2, hs.1, hs.2.1, topR_ad hs.1]
    refine ⟨⟨a1, a2, a3, a4, a5, a6⟩, hC.ag hs.gx, fun _ q => absurd h25 q, b3, fun q => ⟨(b4 q).1, fun w => ?_⟩⟩
    obtain ⟨a, x1, x2⟩ := (b4 q).2 w
    exact ⟨a, x1, hs.2.2.1 _ _ x2⟩
