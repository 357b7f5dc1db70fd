/-! closing frames (by program: wip/tools/gen_s11.py) -/
def cl2 (P : Pst) (i k : Nat) : Pst := if P 14 i = 0 then up (up (up P 25 k 9) 32 k (P 14 i)) 27 k (P 13 i) else p_R_copy (up (up (up P 25 k 9) 32 k (P 14 i)) 27 k (P 13 i)) i (10 + k)
theorem closes_cl2 (P : Pst) (i k : Nat) : p_R_closes P i k = p_R_close (cl2 P i k) i k := by
  unfold p_R_closes cl2
  split <;> rfl
theorem wb_cl2 {P : Pst} (hw : WB P) (i k : Nat) : WB (cl2 P i k) := by
  have h0 : WB (up (up (up P 25 k 9) 32 k (P 14 i)) 27 k (P 13 i)) := WB.up (f := 27) (WB.up (f := 32) (WB.up (f := 25) hw trivial) (hw 14 i)) trivial
  unfold cl2
  split
  · exact h0
  · exact wb_copy h0 _ _
theorem cl2_o (P : Pst) {i k f j : Nat} (hk : ¬ i = 10 + k) (h : ¬ ((f = 25 ∨ f = 27 ∨ f = 32) ∧ j = k) ∧ ¬ (f = 33 ∧ j = 10 + k) ∧ ¬ ((f = 34 ∨ f = 35) ∧ j / 9 = 10 + k)) : cl2 P i k f j = P f j := by
  have h0 : up (up (up P 25 k 9) 32 k (P 14 i)) 27 k (P 13 i) f j = P f j := by
    rw [up_e, if_neg (by omega), up_e, if_neg (by omega), up_e, if_neg (by omega)]
  unfold cl2
  split
  · exact h0
  · rw [copy_o _ hk (by omega)]; exact h0
theorem cl2_f (P : Pst) {i k : Nat} (hk : ¬ i = 10 + k) : cl2 P i k 25 k = 9 ∧ cl2 P i k 32 k = P 14 i ∧ cl2 P i k 27 k = P 13 i := by
  have h0 : up (up (up P 25 k 9) 32 k (P 14 i)) 27 k (P 13 i) 25 k = 9 ∧ up (up (up P 25 k 9) 32 k (P 14 i)) 27 k (P 13 i) 32 k = P 14 i ∧ up (up (up P 25 k 9) 32 k (P 14 i)) 27 k (P 13 i) 27 k = P 13 i := by
    refine ⟨?_, ?_, ?_⟩ <;> simp [up_e]
  unfold cl2
  split
  · exact h0
  · rw [copy_o _ hk (by omega), copy_o _ hk (by omega), copy_o _ hk (by omega)]; exact h0
theorem cl2_row {P : Pst} (hw : WB P) {i k : Nat} (hk : ¬ i = 10 + k) (h14 : ¬ P 14 i = 0) : rowL (cl2 P i k) (10 + k) = rowL P i := by
  have h0 : WB (up (up (up P 25 k 9) 32 k (P 14 i)) 27 k (P 13 i)) := WB.up (f := 27) (WB.up (f := 32) (WB.up (f := 25) hw trivial) (hw 14 i)) trivial
  unfold cl2
  rw [if_neg h14, rowL_copy h0 hk]
  exact rowL_ne (fun j => by simp [up_e]) (fun j => by simp [up_e]) (fun j => by simp [up_e])
/-- a frame begins to close -/
theorem Zt.clo1 {P P1 : Pst} {LL : Lls} {S S' : Gs} {M M' : Mm} (hZ : Zt P LL S M) {i p : Nat} (hi : i < nfb P) (hp : p < tn (P 22 i)) (hx : ExitR P S i) (h1 : Ag (fun f j => (f = 28 ∧ j = 16 * i + p) ∨ ((f = 29 ∨ f = 30) ∧ j / 4 = 16 * i + p)) P P1) (hw1 : WB P1) (hc : stk P1 (16 * i + p) (tn (P1 28 (16 * i + p))) = clst P (16 * i + p)) (h7 : P 23 (16 * i + p) = 7 → ¬ P 25 (16 * i + p) = 0) (hs : Sx (fun f τ => (f = 325 ∨ f = 326 ∨ f = 327) ∧ τ = 16 * i + p) S S') (h325 : vi S' 325 (16 * i + p) = 1) (h326 : vi S' 326 (16 * i + p) = vi S 260 i) (h327 : vr S' 327 (16 * i + p) = vr S 261 i) (hV : VM S' M') : Zt (cl2 P1 i (16 * i + p)) LL S' M' := by
  have hw := hZ.2.2.1
  have hn10 : nfb P ≤ 10 := (hw 42 0).2
  have hd16 : tn (P 22 i) ≤ 16 := (hw 22 i).2
  have hk : ¬ i = 10 + (16 * i + p) := by omega
  obtain ⟨c25, c32, c27⟩ := cl2_f P1 (k := 16 * i + p) hk
  have q14 : P1 14 i = P 14 i := h1 14 i (by omega)
  have q13 : P1 13 i = P 13 i := h1 13 i (by omega)
  have O : ∀ f j, ¬ ((f = 25 ∨ f = 27 ∨ f = 32) ∧ j = 16 * i + p) ∧ ¬ (f = 33 ∧ j = 10 + (16 * i + p)) ∧ ¬ ((f = 34 ∨ f = 35) ∧ j / 9 = 10 + (16 * i + p)) → ¬ (f = 28 ∧ j = 16 * i + p) → ¬ ((f = 29 ∨ f = 30) ∧ j / 4 = 16 * i + p) → cl2 P1 i (16 * i + p) f j = P f j := fun f j a b c => (cl2_o P1 hk a).trans (h1 f j (by omega))
  have hv := hs.2.2.2.2
  refine ⟨hV, hZ.2.1.frm hw hi hp (⟨hs.1, hs.2.1, hs.2.2.1, hs.2.2.2.1, fun f τ d => hv f τ (by omega)⟩) (fun g j d => O g j (by omega) (by omega) (by omega)) ?_, wb_cl2 hw1 i _, by rw [O 43 0 (by omega) (by omega) (by omega)]; exact hZ.2.2.2⟩
  obtain ⟨⟨a1, a2, a3, a4, a5, a6⟩, b1, b2, b3, b4⟩ := hZ.2.1.2.2.2.2.2.1 i p hi hp
  have ec : clst (cl2 P1 i (16 * i + p)) (16 * i + p) = clst P (16 * i + p) := by
    rw [← hc]
    conv => lhs; unfold clst
    rw [if_pos (Or.inl c25), cl2_o P1 hk (f := 28) (by omega)]
    have h4 : tn (P1 28 (16 * i + p)) ≤ 4 := (hw1 28 _).2
    exact stk_lt _ (fun j hj => ⟨cl2_o P1 hk (by omega), cl2_o P1 hk (by omega)⟩)
  unfold SQ
  rw [ec, c25, c32, c27, O 23 _ (by omega) (by omega) (by omega), O 24 _ (by omega) (by omega) (by omega), O 31 _ (by omega) (by omega) (by omega), h325, h326, h327, (hv 320 _ (by omega)).2, (hv 321 _ (by omega)).1, (hv 322 _ (by omega)).2, (hv 323 _ (by omega)).2, (hv 324 _ (by omega)).1, hs.1, hs.2.1, topR_ad hs.1, q14, q13]
  refine ⟨⟨a1, a2, a3, a4, a5, rfl⟩, b1.ag hs.gx, fun _ q => absurd rfl q, fun q => ⟨fun w => absurd ((b3 q).mp w) (h7 q), fun w => absurd w (by decide)⟩, fun _ => ⟨fun q => hx.1 q, fun q => ?_⟩⟩
  rw [cl2_row hw1 hk (by rw [q14]; exact q)]
  obtain ⟨a, x1, x2⟩ := hx.2 q
  have er : rowL P1 i = rowL P i := rowL_ag (h1 33 i (by omega)) (hw 33 i).2 (fun j hj => ⟨h1 34 _ (by omega), h1 35 _ (by omega)⟩)
  exact ⟨a, x1, by rw [er]; exact hs.2.2.1 _ _ x2⟩
/-- a closing frame keeps another cause -/
theorem Zt.clo2 {P P2 : Pst} {LL : Lls} {S S' : Gs} {M M' : Mm} (hZ : Zt P LL S M) {i p : Nat} (hi : i < nfb P) (hp : p < tn (P 22 i)) (h25 : P 25 (16 * i + p) = 9) (h2 : Ag (fun f j => (f = 32 ∧ j = 16 * i + p) ∨ (f = 33 ∧ j = 10 + (16 * i + p)) ∨ ((f = 34 ∨ f = 35) ∧ j / 9 = 10 + (16 * i + p))) P P2) (hw2 : WB P2) (h32 : P2 32 (16 * i + p) = 1) (hs : Sx (fun f τ => f = 327 ∧ τ = 16 * i + p) S S') {a : Nat} (h327 : vr S' 327 (16 * i + p) = some a) (hkc : kc S' a = some (rowL P2 (10 + (16 * i + p)))) (hV : VM S' M') : Zt P2 LL S' M' := by
  have hw := hZ.2.2.1
  have hv := hs.2.2.2.2
  refine ⟨hV, hZ.2.1.frm hw hi hp (⟨hs.1, hs.2.1, hs.2.2.1, hs.2.2.2.1, fun f τ d => hv f τ (by omega)⟩) (fun g j d => h2 g j (by omega)) ?_, hw2, by rw [h2 43 0 (by omega)]; exact hZ.2.2.2⟩
  obtain ⟨⟨a1, a2, a3, a4, a5, a6⟩, b1, b2, b3, b4⟩ := hZ.2.1.2.2.2.2.2.1 i p hi hp
  have ec : clst P2 (16 * i + p) = clst P (16 * i + p) := by
    unfold clst
    rw [h2 25 _ (by omega), h2 23 _ (by omega), if_pos (Or.inl h25), if_pos (Or.inl h25), h2 28 _ (by omega)]
    have h4 : tn (P 28 (16 * i + p)) ≤ 4 := (hw 28 _).2
    exact stk_lt _ (fun j hj => ⟨h2 29 _ (by omega), h2 30 _ (by omega)⟩)
  unfold SQ
  rw [ec, h2 23 _ (by omega), h2 24 _ (by omega), h2 25 _ (by omega), h2 27 _ (by omega), h2 28 _ (by omega), h2 31 _ (by omega), h32, h327, (hv 320 _ (by omega)).2, (hv 321 _ (by omega)).1, (hv 322 _ (by omega)).2, (hv 323 _ (by omega)).2, (hv 324 _ (by omega)).1, (hv 325 _ (by omega)).1, hs.1, hs.2.1, topR_ad hs.1]
  exact ⟨⟨a1, a2, a3, a4, a5, a6⟩, b1.ag hs.gx, b2, b3, fun _ => ⟨fun q => absurd q (by decide), fun _ => ⟨a, rfl, hkc⟩⟩⟩
theorem or0 {x : Int32} (h : x = 0 ∨ x = 1) : x ||| 0 = x := by rcases h with h | h <;> subst h <;> rfl
theorem or1 {x : Int32} (h : x = 0 ∨ x = 1) : x ||| 1 = 1 := by rcases h with h | h <;> subst h <;> rfl
theorem v_F_dropx {S : Gs} {M : Mm} (hV : VM S M) {i : Nat} (hl : lv S 4 i = true) {q : Nat} (hq : lv S 5 q = true) {o : Option Nat} (ho : o = some (ad S 5 q)) : Run m_F_drop ownC 0 0 0 [va_rf (some (ad S 4 i)), va_rf o] M (fun r M' => r = none ∧ VM (ui (ur S 263 i (vr S 322 q)) 264 i ((vi S 264 i) - 1)) M') := by
  subst ho
  exact v_F_drop hV hl hq
theorem exS_w {S S1 : Gs} {i k : Nat} (h : Sx (dW i k) S S1) (v : Int32) (c : Option Nat) : Sx (dW i k) S (exS S1 i v c) := ((h.ur (by unfold dW; omega) _).ui (by unfold dW; omega) _).ur (by unfold dW; omega) _
set_option maxHeartbeats 1000000 in
set_option maxRecDepth 100000 in
theorem l_close2 {P : Pst} {LL : Lls} {S : Gs} {M M0 : Mm} (hZ : Zt P LL S M) {i p : Nat} (hi : i < nfb P) (h5 : P 5 i = 0) (h15 : P 15 i = 0) (hd : tn (P 22 i) = p + 1) (h25 : P 25 (16 * i + p) = 9) {A : Nat → Nat → Nat} {B : Nat → Nat → Bool} (eA : ad S = A) (eB : lv S = B) {o1 o2 : Option Nat} (h1 : o1 = some (ad S 4 i)) (h2 : o2 = some (ad S 5 (16 * i + p))) {X : Option Value} {kb nb : Nat} : G m_F_close ownC M0 (fun r M' => r = none ∧ ∃ S', Zt (p_R_close P i (16 * i + p)) LL S' M' ∧ ad S' = A ∧ lv S' = B) 3 kb nb M 68 [some (va_rf o1), some (va_rf o2), X] [] := by
  subst h1
  subst h2
  have hV := hZ.1
  have hp : p < tn (P 22 i) := by omega
  have b1 := (hZ.2.1.2.2.2.2.2.1 i p hi hp).2.1
  have ec : clst P (16 * i + p) = stk P (16 * i + p) (tn (P 28 (16 * i + p))) := by unfold clst; rw [if_pos (Or.inl h25)]
  rw [ec] at b1
  have h4 : tn (P 28 (16 * i + p)) ≤ 4 := (hZ.2.2.1 28 _).2
  cases h28n : tn (P 28 (16 * i + p)) with
  | zero =>
    rw [h28n] at b1
    have hc0 : vr S 323 (16 * i + p) = none := b1
    have h28 : P 28 (16 * i + p) ≤ 0 := by rw [(hZ.2.2.1 28 (16 * i + p)).1, h28n]; decide
    refine g_aload_n d_F_close_68 rfl ?_
    refine v_getr (v := none) (τ := (16 * i + p)) 323 rfl hV (sl_5 hZ.2.1 hi hp) (by decide) (by decide) fl_F_157 rfl d_F_close_69 rfl hc0 ?_
    refine g_astore_n d_F_close_72 (by decide) ?_
    refine g_aload_n d_F_close_73 rfl ?_
    refine g_ifnull 103 d_F_close_74 (by decide) (fun c_74 => ?_) (fun a_74 c_74 => ?_)
    · skip
      refine g_aload_n d_F_close_103 rfl ?_
      refine g_aload_n d_F_close_104 rfl ?_
      refine v_geti (v := P 31 (16 * i + p)) (τ := (16 * i + p)) 321 rfl hV (sl_5 hZ.2.1 hi hp) (by decide) (by decide) fl_F_111 rfl d_F_close_105 rfl (sq_321 hZ.2.1 hi hp) ?_
      refine v_putz (τ := i) 265 rfl hV (sl_4 hZ.2.1 hi) (by decide) (by decide) fl_F_37 (Or.inr (fun r h => by cases h; rfl)) rfl (hZ.2.2.1 31 (16 * i + p)) d_F_close_108 rfl (fun M hV => ?_)
      refine g_aload_n d_F_close_111 rfl ?_
      refine g_aload_n d_F_close_112 rfl ?_
      refine g_callV (k1 := 0) (n1 := 0) [va_rf (some (ad S 5 (16 * i + p)))] cw_F_130 cv_F_drop d_F_close_113 (ad_i rfl) (hV.kdo (lv_i (sl_4 hZ.2.1 hi)) (by decide)) rfl rfl ⟨by simp, by simp⟩ (by first | decide | omega) (by first | decide | omega) (by first | decide | omega) (fun _ _ h => h) (v_F_dropx hV (lv_i (sl_4 hZ.2.1 hi)) (lv_i (sl_5 hZ.2.1 hi hp)) (ad_i rfl)) (fun r_ M h_ hfr_ => ?_)
      obtain ⟨rfl, hV⟩ := h_
      refine g_aload_n d_F_close_116 rfl ?_
      refine g_aload_n d_F_close_117 rfl ?_
      refine v_geti (v := vi S 326 (16 * i + p)) (τ := (16 * i + p)) 326 rfl hV (lv_i (lv_r (lv_i (sl_5 hZ.2.1 hi hp)))) (by decide) (by decide) fl_F_151 rfl d_F_close_118 (ad_i (ad_r (ad_i rfl))) ((vi_ui_f (by decide) _ _ _ _).trans ((vi_ur _ _ _ _ _ _).trans ((vi_ui_f (by decide) _ _ _ _).trans rfl))) ?_
      refine g_aload_n d_F_close_121 rfl ?_
      refine v_getr (v := vr S 327 (16 * i + p)) (τ := (16 * i + p)) 327 rfl hV (lv_i (lv_r (lv_i (sl_5 hZ.2.1 hi hp)))) (by decide) (by decide) fl_F_152 rfl d_F_close_122 (ad_i (ad_r (ad_i rfl))) ((vr_ui _ _ _ _ _ _).trans ((vr_ur_f (by decide) _ _ _ _).trans ((vr_ui _ _ _ _ _ _).trans rfl))) ?_
      refine g_callV (k1 := 0) (n1 := 0) [.int (vi S 326 (16 * i + p)), va_rf (vr S 327 (16 * i + p))] cw_F_64 cv_F_giveExit d_F_close_125 (ad_i (ad_r (ad_i rfl))) (hV.kdo (lv_i (lv_r (lv_i (sl_4 hZ.2.1 hi)))) (by decide)) rfl rfl ⟨by simp, by simp⟩ (by first | decide | omega) (by first | decide | omega) (by first | decide | omega) (fun _ _ h => h) (v_F_giveExit hV (lv_i (lv_r (lv_i (sl_4 hZ.2.1 hi)))) _ _) (fun r_ M h_ hfr_ => ?_)
      obtain ⟨rfl, hV⟩ := h_
      refine g_return d_F_close_128 rfl ⟨rfl, ur (ui (ur (ui (ur (ui S 265 i (P 31 (16 * i + p))) 263 i (vr (ui S 265 i (P 31 (16 * i + p))) 322 (16 * i + p))) 264 i (vi (ui S 265 i (P 31 (16 * i + p))) 264 i - 1)) 258 i none) 260 i (vi S 326 (16 * i + p))) 261 i (vr S 327 (16 * i + p)), ?_, eA, eB⟩
      refine hZ.close0 hi h5 h15 hd h25 h28 (exS_w ((((Sx.refl _ S).ui (by unfold dW; omega) _).ur (by unfold dW; omega) _).ui (by unfold dW; omega) _) _ _) (exS_258 _ _ _ _) (exS_260 _ _ _ _) (exS_261 _ _ _ _) ?_ ?_ ?_ hV
      · rw [vr_ur_f (by decide), vr_ui, vr_ur_f (by decide), vr_ui, vr_ur_s, vr_ui]; exact sq_322 hZ.2.1 hi hp
      · rw [vi_ur, vi_ui_f (by decide), vi_ur, vi_ui_s, vi_ui_f (by decide)]; exact congrArg (· - 1) (sf_264 hZ.2.1 hi)
      · rw [vi_ur, vi_ui_f (by decide), vi_ur, vi_ui_f (by decide), vi_ur, vi_ui_s]
    · exact absurd c_74 (by simp)
  | succ m =>
    have h28 := h28n
    rw [h28n] at b1
    obtain ⟨a, z, hc1, hl3, hka, hCz⟩ := b1
    refine g_aload_n d_F_close_68 rfl ?_
    refine v_getr (v := some a) (τ := (16 * i + p)) 323 rfl hV (sl_5 hZ.2.1 hi hp) (by decide) (by decide) fl_F_157 rfl d_F_close_69 rfl hc1 ?_
    refine g_astore_n d_F_close_72 (by decide) ?_
    refine g_aload_n d_F_close_73 rfl ?_
    refine g_ifnull 103 d_F_close_74 (by decide) (fun c_74 => ?_) (fun a_74 c_74 => ?_)
    · exact absurd (Eq.trans (Eq.symm (rfl : some a = some _)) c_74) (by simp)
    · skip
      refine g_aload_n d_F_close_77 rfl ?_
      refine g_aload_n d_F_close_78 rfl ?_
      refine v_kz hV hka fl_F_161 d_F_close_79 rfl ?_
      refine v_putr (τ := (16 * i + p)) 323 rfl hV (sl_5 hZ.2.1 hi hp) (by decide) (by decide) fl_F_157 (Or.inr (fun r h => by cases h; rfl)) rfl d_F_close_82 rfl (fun M hV => ?_)
      refine g_aload_n d_F_close_85 rfl ?_
      refine g_iconst (v := 1) d_F_close_86 (by decide) ?_
      refine v_putz (τ := i) 265 rfl hV (lv_r (sl_4 hZ.2.1 hi)) (by decide) (by decide) fl_F_37 (Or.inr (fun r h => by cases h; rfl)) rfl (Or.inr rfl) d_F_close_87 (ad_r rfl) (fun M hV => ?_)
      refine g_aload_n d_F_close_90 rfl ?_
      refine g_aload_n d_F_close_91 rfl ?_
      refine v_kx hV hka fl_F_166 d_F_close_92 rfl ?_
      refine g_aload_n d_F_close_95 rfl ?_
      refine v_ki hV hka fl_F_167 d_F_close_96 rfl ?_
      refine g_callV (k1 := 0) (n1 := 0) [va_rf (some (ad S 3 (tn (P 29 (4 * (16 * i + p) + m))))), .int (P 30 (4 * (16 * i + p) + m))] cw_F_105 cv_F_perform d_F_close_99 (ad_i (ad_r rfl)) (hV.kdo (lv_i (lv_r (sl_4 hZ.2.1 hi))) (by decide)) rfl rfl ⟨by simp, by simp⟩ (by first | decide | omega) (by first | decide | omega) (by first | decide | omega) (fun _ _ h => h) (v_F_perform hV (lv_i (lv_r (sl_4 hZ.2.1 hi))) _ _) (fun r_ M h_ hfr_ => ?_)
      obtain ⟨rfl, hV⟩ := h_
      refine g_return d_F_close_102 rfl ⟨rfl, ui (ur (ui (ur S 323 (16 * i + p) z) 265 i 1) 258 i (some (ad S 3 (tn (P 29 (4 * (16 * i + p) + m)))))) 259 i (P 30 (4 * (16 * i + p) + m)), ?_, eA, eB⟩
      refine hZ.close1 hi h5 h15 hd h25 h28 (((((Sx.refl _ S).ur (by omega) _).ui (by omega) _).ur (by omega) _).ui (by omega) _) hl3 ?_ ?_ ?_ ?_ hV
      · simp [vr_ui, vr_ur]
      · simp [vi_ui_e]
      · simp [vi_ui_e, vi_ur]
      · have e : vr (ui (ur (ui (ur S 323 (16 * i + p) z) 265 i 1) 258 i (some (ad S 3 (tn (P 29 (4 * (16 * i + p) + m)))))) 259 i (P 30 (4 * (16 * i + p) + m))) 323 (16 * i + p) = z := by simp [vr_ui, vr_ur]
        exact e.symm ▸ hCz
set_option maxHeartbeats 1000000 in
set_option maxRecDepth 100000 in
theorem s_F_close_new {P : Pst} {LL : Lls} {S : Gs} {M : Mm} (hZ : Zt P LL S M) {i p : Nat} (hi : i < nfb P) (h5 : P 5 i = 0) (h15 : P 15 i = 0) (hA : ¬ (P 6 i = 1 ∧ P 10 i = 0)) (h11 : P 11 i < 0) (hd : tn (P 22 i) = p + 1) (h25 : ¬ P 25 (16 * i + p) = 9) {P1 : Pst} (h1 : Ag (fun f j => (f = 28 ∧ j = 16 * i + p) ∨ ((f = 29 ∨ f = 30) ∧ j / 4 = 16 * i + p)) P P1) (hw1 : WB P1) (hc : stk P1 (16 * i + p) (tn (P1 28 (16 * i + p))) = clst P (16 * i + p)) (h7 : P 23 (16 * i + p) = 7 → ¬ P 25 (16 * i + p) = 0) : Run m_F_close ownC 3 3 20 [va_rf (some (ad S 4 i)), va_rf (some (ad S 5 (16 * i + p)))] M (fun r M' => r = none ∧ ∃ S', Zt (p_R_closes P1 i (16 * i + p)) LL S' M' ∧ ad S' = ad S ∧ lv S' = lv S) := by
  have hp : p < tn (P 22 i) := by omega
  have hn10 : nfb P ≤ 10 := n10 hZ.2.2.1
  have hd16 : tn (P 22 i) ≤ 16 := (hZ.2.2.1 22 i).2
  have hk : ¬ i = 10 + (16 * i + p) := by omega
  have hx := (hZ.exit hi h5 hA h11).2
  have hV := hZ.1
  refine Run.ofG (by decide) (by simp [cat_int, cat_rf]) (Nat.le_of_ble_eq_true rfl) ?_
  refine g_aload_n d_F_close_0 rfl ?_
  refine v_geti (v := 0) (τ := (16 * i + p)) 325 rfl hV (sl_5 hZ.2.1 hi hp) (by decide) (by decide) fl_F_127 rfl d_F_close_1 rfl ((sq_325 hZ.2.1 hi hp).trans (clo_0.mpr h25)) ?_
  refine g_if_ne 31 d_F_close_4 (by decide) (fun c_4 => ?_) (fun c_4 => ?_)
  · exact absurd c_4 (by decide)
  · skip
    refine g_aload_n d_F_close_7 rfl ?_
    refine g_iconst (v := 1) d_F_close_8 (by decide) ?_
    refine v_putz (τ := (16 * i + p)) 325 rfl hV (sl_5 hZ.2.1 hi hp) (by decide) (by decide) fl_F_127 (Or.inr (fun r h => by cases h; rfl)) rfl (Or.inr rfl) d_F_close_9 rfl (fun M hV => ?_)
    refine g_aload_n d_F_close_12 rfl ?_
    refine g_aload_n d_F_close_13 rfl ?_
    refine v_geti (v := vi S 260 i) (τ := i) 260 rfl hV (lv_i (sl_4 hZ.2.1 hi)) (by decide) (by decide) fl_F_19 rfl d_F_close_14 (ad_i rfl) ((vi_ui_f (by decide) _ _ _ _).trans rfl) ?_
    refine v_puti (τ := (16 * i + p)) 326 rfl hV (lv_i (sl_5 hZ.2.1 hi hp)) (by decide) (by decide) fl_F_151 (Or.inr (fun r h => by cases h; rfl)) rfl d_F_close_17 (ad_i rfl) (fun M hV => ?_)
    refine g_aload_n d_F_close_20 rfl ?_
    refine g_aload_n d_F_close_21 rfl ?_
    refine v_getr (v := vr S 261 i) (τ := i) 261 rfl hV (lv_i (lv_i (sl_4 hZ.2.1 hi))) (by decide) (by decide) fl_F_22 rfl d_F_close_22 (ad_i (ad_i rfl)) ((vr_ui _ _ _ _ _ _).trans ((vr_ui _ _ _ _ _ _).trans rfl)) ?_
    refine v_putr (τ := (16 * i + p)) 327 rfl hV (lv_i (lv_i (sl_5 hZ.2.1 hi hp))) (by decide) (by decide) fl_F_152 (Or.inr (fun r h => by cases h; rfl)) rfl d_F_close_25 (ad_i (ad_i rfl)) (fun M hV => ?_)
    refine g_goto 68 d_F_close_28 (by decide) ?_
    have hZ1 := hZ.clo1 hi hp hx h1 hw1 hc h7 ((((Sx.refl _ S).ui (by omega) _).ui (by omega) _).ur (by omega) _) (by simp [vi_ui_e, vi_ur]) (by simp [vi_ui_e, vi_ur]) (by simp [vr_ui, vr_ur]) hV
    rw [closes_cl2]
    have O : ∀ f j, f = 5 ∨ f = 15 ∨ f = 22 ∨ f = 42 → cl2 P1 i (16 * i + p) f j = P f j := fun f j q => (cl2_o P1 hk (by omega)).trans (h1 f j (by omega))
    exact l_close2 hZ1 (by unfold nfb; rw [O 42 0 (by omega)]; exact hi) ((O 5 i (by omega)).trans h5) ((O 15 i (by omega)).trans h15) (by rw [O 22 i (by omega)]; exact hd) (cl2_f P1 hk).1 rfl rfl rfl rfl
set_option maxHeartbeats 1000000 in
set_option maxRecDepth 100000 in
theorem s_F_close_val {P : Pst} {LL : Lls} {S : Gs} {M : Mm} (hZ : Zt P LL S M) {i p : Nat} (hi : i < nfb P) (h5 : P 5 i = 0) (h15 : P 15 i = 0) (hA : ¬ (P 6 i = 1 ∧ P 10 i = 0)) (h11 : P 11 i < 0) (hd : tn (P 22 i) = p + 1) (h25 : P 25 (16 * i + p) = 9) (h14 : P 14 i = 0) : Run m_F_close ownC 3 3 20 [va_rf (some (ad S 4 i)), va_rf (some (ad S 5 (16 * i + p)))] M (fun r M' => r = none ∧ ∃ S', Zt (p_R_close (up P 32 (16 * i + p) (P 32 (16 * i + p) ||| 0)) i (16 * i + p)) LL S' M' ∧ ad S' = ad S ∧ lv S' = lv S) := by
  have hp : p < tn (P 22 i) := by omega
  have hn10 : nfb P ≤ 10 := n10 hZ.2.2.1
  have hd16 : tn (P 22 i) ≤ 16 := (hZ.2.2.1 22 i).2
  have hk : ¬ i = 10 + (16 * i + p) := by omega
  have hx := (hZ.exit hi h5 hA h11).2
  have hV := hZ.1
  refine Run.ofG (by decide) (by simp [cat_int, cat_rf]) (Nat.le_of_ble_eq_true rfl) ?_
  refine g_aload_n d_F_close_0 rfl ?_
  refine v_geti (v := 1) (τ := (16 * i + p)) 325 rfl hV (sl_5 hZ.2.1 hi hp) (by decide) (by decide) fl_F_127 rfl d_F_close_1 rfl ((sq_325 hZ.2.1 hi hp).trans (by rw [h25]; rfl)) ?_
  refine g_if_ne 31 d_F_close_4 (by decide) (fun c_4 => ?_) (fun c_4 => ?_)
  · skip
    refine g_aload_n d_F_close_31 rfl ?_
    refine v_getr (v := none) (τ := i) 261 rfl hV (sl_4 hZ.2.1 hi) (by decide) (by decide) fl_F_22 rfl d_F_close_32 rfl (hx.1 h14).1 ?_
    refine g_ifnull 68 d_F_close_35 (by decide) (fun c_35 => ?_) (fun a_35 c_35 => ?_)
    · skip
      rw [or0 (hZ.2.2.1 32 (16 * i + p)), up_same]
      exact l_close2 hZ hi h5 h15 hd h25 rfl rfl rfl rfl
    · exact absurd c_35 (by simp)
  · exact absurd c_4 (by decide)
set_option maxHeartbeats 1000000 in
set_option maxRecDepth 100000 in
theorem s_F_close_c0 {P : Pst} {LL : Lls} {S : Gs} {M : Mm} (hZ : Zt P LL S M) {i p : Nat} (hi : i < nfb P) (h5 : P 5 i = 0) (h15 : P 15 i = 0) (hA : ¬ (P 6 i = 1 ∧ P 10 i = 0)) (h11 : P 11 i < 0) (hd : tn (P 22 i) = p + 1) (h25 : P 25 (16 * i + p) = 9) (h14 : ¬ P 14 i = 0) (h32 : P 32 (16 * i + p) = 0) : Run m_F_close ownC 3 3 20 [va_rf (some (ad S 4 i)), va_rf (some (ad S 5 (16 * i + p)))] M (fun r M' => r = none ∧ ∃ S', Zt (p_R_close (up (p_R_copy P i (10 + (16 * i + p))) 32 (16 * i + p) (p_R_copy P i (10 + (16 * i + p)) 32 (16 * i + p) ||| 1)) i (16 * i + p)) LL S' M' ∧ ad S' = ad S ∧ lv S' = lv S) := by
  have hp : p < tn (P 22 i) := by omega
  have hn10 : nfb P ≤ 10 := n10 hZ.2.2.1
  have hd16 : tn (P 22 i) ≤ 16 := (hZ.2.2.1 22 i).2
  have hk : ¬ i = 10 + (16 * i + p) := by omega
  have hx := (hZ.exit hi h5 hA h11).2
  obtain ⟨a, ea, ka⟩ := hx.2 h14
  have b4 := (hZ.2.1.2.2.2.2.2.1 i p hi hp).2.2.2.2 h25
  have hV := hZ.1
  refine Run.ofG (by decide) (by simp [cat_int, cat_rf]) (Nat.le_of_ble_eq_true rfl) ?_
  refine g_aload_n d_F_close_0 rfl ?_
  refine v_geti (v := 1) (τ := (16 * i + p)) 325 rfl hV (sl_5 hZ.2.1 hi hp) (by decide) (by decide) fl_F_127 rfl d_F_close_1 rfl ((sq_325 hZ.2.1 hi hp).trans (by rw [h25]; rfl)) ?_
  refine g_if_ne 31 d_F_close_4 (by decide) (fun c_4 => ?_) (fun c_4 => ?_)
  · skip
    refine g_aload_n d_F_close_31 rfl ?_
    refine v_getr (v := some a) (τ := i) 261 rfl hV (sl_4 hZ.2.1 hi) (by decide) (by decide) fl_F_22 rfl d_F_close_32 rfl ea ?_
    refine g_ifnull 68 d_F_close_35 (by decide) (fun c_35 => ?_) (fun a_35 c_35 => ?_)
    · exact absurd (Eq.trans (Eq.symm (rfl : some a = some _)) c_35) (by simp)
    · skip
      refine g_aload_n d_F_close_38 rfl ?_
      refine g_aload_n d_F_close_39 rfl ?_
      refine v_getr (v := none) (τ := (16 * i + p)) 327 rfl hV (sl_5 hZ.2.1 hi hp) (by decide) (by decide) fl_F_152 rfl d_F_close_40 rfl (b4.1 h32).1 ?_
      refine g_ifnonnull 53 d_F_close_43 (by decide) (fun a_43 c_43 => ?_) (fun c_43 => ?_)
      · exact absurd c_43 (by simp)
      · skip
        refine g_aload_n d_F_close_46 rfl ?_
        refine v_getr (v := some a) (τ := i) 261 rfl hV (sl_4 hZ.2.1 hi) (by decide) (by decide) fl_F_22 rfl d_F_close_47 rfl ea ?_
        refine g_goto 65 d_F_close_50 (by decide) ?_
        refine v_putr (τ := (16 * i + p)) 327 rfl hV (sl_5 hZ.2.1 hi hp) (by decide) (by decide) fl_F_152 (Or.inr (fun r h => by cases h; rfl)) rfl d_F_close_65 rfl (fun M hV => ?_)
        have hZ1 : Zt (up (p_R_copy P i (10 + (16 * i + p))) 32 (16 * i + p) (p_R_copy P i (10 + (16 * i + p)) 32 (16 * i + p) ||| 1)) LL _ _ := hZ.clo2 hi hp h25 (fun f j d => (up_e _ _ _ _ _ _).trans ((if_neg (by omega)).trans (copy_o P hk (by omega)))) (WB.up (wb_copy hZ.2.2.1 _ _) (by rw [copy_o P hk (by omega), or1 (hZ.2.2.1 32 _)]; exact Or.inr rfl)) (by rw [up_s, copy_o P hk (by omega), or1 (hZ.2.2.1 32 _)]) ((Sx.refl _ S).ur (by omega) _) (vr_ur_s _ _ _ _) (by rw [kc_ur_e, ka, show rowL (up (p_R_copy P i (10 + (16 * i + p))) 32 (16 * i + p) (p_R_copy P i (10 + (16 * i + p)) 32 (16 * i + p) ||| 1)) (10 + (16 * i + p)) = rowL (p_R_copy P i (10 + (16 * i + p))) (10 + (16 * i + p)) from rowL_ne (fun j => up_f (by decide) _ _ _ _) (fun j => up_f (by decide) _ _ _ _) (fun j => up_f (by decide) _ _ _ _), rowL_copy hZ.2.2.1 hk]) hV
        have O : ∀ f j, f = 5 ∨ f = 15 ∨ f = 22 ∨ f = 25 ∨ f = 42 → (up (p_R_copy P i (10 + (16 * i + p))) 32 (16 * i + p) (p_R_copy P i (10 + (16 * i + p)) 32 (16 * i + p) ||| 1)) f j = P f j := fun f j q => (up_f (by omega) _ _ _ _).trans (copy_o P hk (by omega))
        exact l_close2 hZ1 (by unfold nfb; rw [O 42 0 (by omega)]; exact hi) ((O 5 i (by omega)).trans h5) ((O 15 i (by omega)).trans h15) (by rw [O 22 i (by omega)]; exact hd) ((O 25 _ (by omega)).trans h25) rfl rfl rfl rfl
  · exact absurd c_4 (by decide)
set_option maxHeartbeats 1000000 in
set_option maxRecDepth 100000 in
theorem s_F_close_cj {P : Pst} {LL : Lls} {S : Gs} {M : Mm} (hZ : Zt P LL S M) {i p : Nat} (hi : i < nfb P) (h5 : P 5 i = 0) (h15 : P 15 i = 0) (hA : ¬ (P 6 i = 1 ∧ P 10 i = 0)) (h11 : P 11 i < 0) (hd : tn (P 22 i) = p + 1) (h25 : P 25 (16 * i + p) = 9) (h14 : ¬ P 14 i = 0) (h32 : ¬ P 32 (16 * i + p) = 0) : Run m_F_close ownC 3 3 20 [va_rf (some (ad S 4 i)), va_rf (some (ad S 5 (16 * i + p)))] M (fun r M' => r = none ∧ ∃ S', Zt (p_R_close (up (p_R_join P (10 + (16 * i + p)) i 4) 32 (16 * i + p) (p_R_join P (10 + (16 * i + p)) i 4 32 (16 * i + p) ||| 1)) i (16 * i + p)) LL S' M' ∧ ad S' = ad S ∧ lv S' = lv S) := by
  have hp : p < tn (P 22 i) := by omega
  have hn10 : nfb P ≤ 10 := n10 hZ.2.2.1
  have hd16 : tn (P 22 i) ≤ 16 := (hZ.2.2.1 22 i).2
  have hk : ¬ i = 10 + (16 * i + p) := by omega
  have hx := (hZ.exit hi h5 hA h11).2
  obtain ⟨a, ea, ka⟩ := hx.2 h14
  have b4 := (hZ.2.1.2.2.2.2.2.1 i p hi hp).2.2.2.2 h25
  obtain ⟨b, eb, kb⟩ := b4.2 h32
  have hV := hZ.1
  refine Run.ofG (by decide) (by simp [cat_int, cat_rf]) (Nat.le_of_ble_eq_true rfl) ?_
  refine g_aload_n d_F_close_0 rfl ?_
  refine v_geti (v := 1) (τ := (16 * i + p)) 325 rfl hV (sl_5 hZ.2.1 hi hp) (by decide) (by decide) fl_F_127 rfl d_F_close_1 rfl ((sq_325 hZ.2.1 hi hp).trans (by rw [h25]; rfl)) ?_
  refine g_if_ne 31 d_F_close_4 (by decide) (fun c_4 => ?_) (fun c_4 => ?_)
  · skip
    refine g_aload_n d_F_close_31 rfl ?_
    refine v_getr (v := some a) (τ := i) 261 rfl hV (sl_4 hZ.2.1 hi) (by decide) (by decide) fl_F_22 rfl d_F_close_32 rfl ea ?_
    refine g_ifnull 68 d_F_close_35 (by decide) (fun c_35 => ?_) (fun a_35 c_35 => ?_)
    · exact absurd (Eq.trans (Eq.symm (rfl : some a = some _)) c_35) (by simp)
    · skip
      refine g_aload_n d_F_close_38 rfl ?_
      refine g_aload_n d_F_close_39 rfl ?_
      refine v_getr (v := some b) (τ := (16 * i + p)) 327 rfl hV (sl_5 hZ.2.1 hi hp) (by decide) (by decide) fl_F_152 rfl d_F_close_40 rfl eb ?_
      refine g_ifnonnull 53 d_F_close_43 (by decide) (fun a_43 c_43 => ?_) (fun c_43 => ?_)
      · skip
        refine g_iconst (v := 4) d_F_close_53 (by decide) ?_
        refine g_aload_n d_F_close_54 rfl ?_
        refine v_getr (v := some b) (τ := (16 * i + p)) 327 rfl hV (sl_5 hZ.2.1 hi hp) (by decide) (by decide) fl_F_152 rfl d_F_close_55 rfl eb ?_
        refine g_aload_n d_F_close_58 rfl ?_
        refine v_getr (v := some a) (τ := i) 261 rfl hV (sl_4 hZ.2.1 hi) (by decide) (by decide) fl_F_22 rfl d_F_close_59 rfl ea ?_
        refine g_callSN (k1 := 0) (n1 := 0) [.int (4), va_rf (some b), va_rf (some a)] cn_F_153 cs_D_joined d_F_close_62 rfl rfl ⟨by simp [cat_rf, cat_int], by simp⟩ (by first | decide | omega) (by first | decide | omega) (by first | decide | omega) (fun _ _ h => h) (s_D_joined hV 4 kb ka (rowL_9 hZ.2.2.1 _) (rowL_9 hZ.2.2.1 _)) (fun r_ M h_ hfr_ => ?_)
        obtain ⟨q, rfl, hq⟩ := h_
        rcases hq with ⟨e1, e2, hV⟩ | ⟨hn, hV⟩
        · subst e1
          refine v_putr (τ := (16 * i + p)) 327 rfl hV (sl_5 hZ.2.1 hi hp) (by decide) (by decide) fl_F_152 (Or.inr (fun r h => by cases h; rfl)) rfl d_F_close_65 rfl (fun M hV => ?_)
          have hZ1 : Zt (up (p_R_join P (10 + (16 * i + p)) i 4) 32 (16 * i + p) (p_R_join P (10 + (16 * i + p)) i 4 32 (16 * i + p) ||| 1)) LL _ _ := hZ.clo2 hi hp h25 (fun f j d => (up_e _ _ _ _ _ _).trans ((if_neg (by omega)).trans (join_o hZ.2.2.1 (Ne.symm hk) 4 (by omega)))) (WB.up (wb_join hZ.2.2.1 _ _ _) (by rw [join_o hZ.2.2.1 (Ne.symm hk) 4 (by omega), or1 (hZ.2.2.1 32 _)]; exact Or.inr rfl)) (by rw [up_s, join_o hZ.2.2.1 (Ne.symm hk) 4 (by omega), or1 (hZ.2.2.1 32 _)]) ((Sx.refl _ S).ur (by omega) _) (vr_ur_s _ _ _ _) (by rw [kc_ur_e, kb, show rowL (up (p_R_join P (10 + (16 * i + p)) i 4) 32 (16 * i + p) (p_R_join P (10 + (16 * i + p)) i 4 32 (16 * i + p) ||| 1)) (10 + (16 * i + p)) = jnL 4 (rowL P (10 + (16 * i + p))) (rowL P i) from (rowL_ne (fun j => up_f (by decide) _ _ _ _) (fun j => up_f (by decide) _ _ _ _) (fun j => up_f (by decide) _ _ _ _)).trans (rowL_join hZ.2.2.1 (Ne.symm hk) 4), e2]) hV
          have O : ∀ f j, f = 5 ∨ f = 15 ∨ f = 22 ∨ f = 25 ∨ f = 42 → (up (p_R_join P (10 + (16 * i + p)) i 4) 32 (16 * i + p) (p_R_join P (10 + (16 * i + p)) i 4 32 (16 * i + p) ||| 1)) f j = P f j := fun f j q => (up_f (by omega) _ _ _ _).trans (join_o hZ.2.2.1 (Ne.symm hk) 4 (by omega))
          exact l_close2 hZ1 (by unfold nfb; rw [O 42 0 (by omega)]; exact hi) ((O 5 i (by omega)).trans h5) ((O 15 i (by omega)).trans h15) (by rw [O 22 i (by omega)]; exact hd) ((O 25 _ (by omega)).trans h25) rfl rfl rfl rfl
        · skip
          refine v_putr (τ := (16 * i + p)) 327 rfl hV (lv_c (sl_5 hZ.2.1 hi hp)) (by decide) (by decide) fl_F_152 (Or.inr (fun r h => by cases h; rfl)) rfl d_F_close_65 (ad_c rfl) (fun M hV => ?_)
          have hZ1 : Zt (up (p_R_join P (10 + (16 * i + p)) i 4) 32 (16 * i + p) (p_R_join P (10 + (16 * i + p)) i 4 32 (16 * i + p) ||| 1)) LL _ _ := hZ.clo2 hi hp h25 (fun f j d => (up_e _ _ _ _ _ _).trans ((if_neg (by omega)).trans (join_o hZ.2.2.1 (Ne.symm hk) 4 (by omega)))) (WB.up (wb_join hZ.2.2.1 _ _ _) (by rw [join_o hZ.2.2.1 (Ne.symm hk) 4 (by omega), or1 (hZ.2.2.1 32 _)]; exact Or.inr rfl)) (by rw [up_s, join_o hZ.2.2.1 (Ne.symm hk) 4 (by omega), or1 (hZ.2.2.1 32 _)]) ((Sx.kc (Sx.refl _ S) hn _).ur (by omega) _) (vr_ur_s _ _ _ _) (by rw [kc_ur_e, kc_ukc, if_pos rfl, show rowL (up (p_R_join P (10 + (16 * i + p)) i 4) 32 (16 * i + p) (p_R_join P (10 + (16 * i + p)) i 4 32 (16 * i + p) ||| 1)) (10 + (16 * i + p)) = jnL 4 (rowL P (10 + (16 * i + p))) (rowL P i) from (rowL_ne (fun j => up_f (by decide) _ _ _ _) (fun j => up_f (by decide) _ _ _ _) (fun j => up_f (by decide) _ _ _ _)).trans (rowL_join hZ.2.2.1 (Ne.symm hk) 4)]) hV
          have O : ∀ f j, f = 5 ∨ f = 15 ∨ f = 22 ∨ f = 25 ∨ f = 42 → (up (p_R_join P (10 + (16 * i + p)) i 4) 32 (16 * i + p) (p_R_join P (10 + (16 * i + p)) i 4 32 (16 * i + p) ||| 1)) f j = P f j := fun f j q => (up_f (by omega) _ _ _ _).trans (join_o hZ.2.2.1 (Ne.symm hk) 4 (by omega))
          exact l_close2 hZ1 (by unfold nfb; rw [O 42 0 (by omega)]; exact hi) ((O 5 i (by omega)).trans h5) ((O 15 i (by omega)).trans h15) (by rw [O 22 i (by omega)]; exact hd) ((O 25 _ (by omega)).trans h25) rfl rfl rfl rfl
      · exact absurd (Eq.trans (Eq.symm (rfl : some b = some _)) c_43) (by simp)
  · exact absurd c_4 (by decide)
set_option maxHeartbeats 1000000 in
set_option maxRecDepth 100000 in
theorem s_F_close_b0 {P : Pst} {LL : Lls} {S : Gs} {M : Mm} (hZ : Zt P LL S M) {i p : Nat} (hi : i < nfb P) (h5 : P 5 i = 0) (h15 : P 15 i = 0) (hA : ¬ (P 6 i = 1 ∧ P 10 i = 0)) (h11 : P 11 i < 0) (hd : tn (P 22 i) = p + 1) (h23 : P 23 (16 * i + p) = 7) (h25 : P 25 (16 * i + p) = 0) : Run m_F_close ownC 3 3 20 [va_rf (some (ad S 4 i)), va_rf (some (ad S 5 (16 * i + p)))] M (fun r M' => r = none ∧ ∃ S', Zt (up (up P 10 i (P 31 (16 * i + p))) 22 i (P 22 i - 1)) LL S' M' ∧ ad S' = ad S ∧ lv S' = lv S) := by
  have hp : p < tn (P 22 i) := by omega
  have hn10 : nfb P ≤ 10 := n10 hZ.2.2.1
  have hd16 : tn (P 22 i) ≤ 16 := (hZ.2.2.1 22 i).2
  have hk : ¬ i = 10 + (16 * i + p) := by omega
  have hx := (hZ.exit hi h5 hA h11).2
  have e22 : P 22 i - 1 = nI p := (tn_dec (hZ.2.2.1 22 i).1 (by omega) (by omega)).1.trans (congrArg nI (by omega))
  have t22 : tn (P 22 i - 1) = p := by rw [e22, tn_nI (by omega)]
  have hc0 : vr S 323 (16 * i + p) = none := by
    have b1 := (hZ.2.1.2.2.2.2.2.1 i p hi hp).2.1
    have ec : clst P (16 * i + p) = [] := by unfold clst; rw [if_neg (by rw [h23, h25]; decide), if_neg (by rw [h23]; decide), if_pos h23, if_pos h25]
    rw [ec] at b1
    exact b1
  have hV := hZ.1
  refine Run.ofG (by decide) (by simp [cat_int, cat_rf]) (Nat.le_of_ble_eq_true rfl) ?_
  refine g_aload_n d_F_close_0 rfl ?_
  refine v_geti (v := 0) (τ := (16 * i + p)) 325 rfl hV (sl_5 hZ.2.1 hi hp) (by decide) (by decide) fl_F_127 rfl d_F_close_1 rfl ((sq_325 hZ.2.1 hi hp).trans (by rw [h25]; rfl)) ?_
  refine g_if_ne 31 d_F_close_4 (by decide) (fun c_4 => ?_) (fun c_4 => ?_)
  · exact absurd c_4 (by decide)
  · skip
    refine g_aload_n d_F_close_7 rfl ?_
    refine g_iconst (v := 1) d_F_close_8 (by decide) ?_
    refine v_putz (τ := (16 * i + p)) 325 rfl hV (sl_5 hZ.2.1 hi hp) (by decide) (by decide) fl_F_127 (Or.inr (fun r h => by cases h; rfl)) rfl (Or.inr rfl) d_F_close_9 rfl (fun M hV => ?_)
    refine g_aload_n d_F_close_12 rfl ?_
    refine g_aload_n d_F_close_13 rfl ?_
    refine v_geti (v := vi S 260 i) (τ := i) 260 rfl hV (lv_i (sl_4 hZ.2.1 hi)) (by decide) (by decide) fl_F_19 rfl d_F_close_14 (ad_i rfl) ((vi_ui_f (by decide) _ _ _ _).trans rfl) ?_
    refine v_puti (τ := (16 * i + p)) 326 rfl hV (lv_i (sl_5 hZ.2.1 hi hp)) (by decide) (by decide) fl_F_151 (Or.inr (fun r h => by cases h; rfl)) rfl d_F_close_17 (ad_i rfl) (fun M hV => ?_)
    refine g_aload_n d_F_close_20 rfl ?_
    refine g_aload_n d_F_close_21 rfl ?_
    refine v_getr (v := vr S 261 i) (τ := i) 261 rfl hV (lv_i (lv_i (sl_4 hZ.2.1 hi))) (by decide) (by decide) fl_F_22 rfl d_F_close_22 (ad_i (ad_i rfl)) ((vr_ui _ _ _ _ _ _).trans ((vr_ui _ _ _ _ _ _).trans rfl)) ?_
    refine v_putr (τ := (16 * i + p)) 327 rfl hV (lv_i (lv_i (sl_5 hZ.2.1 hi hp))) (by decide) (by decide) fl_F_152 (Or.inr (fun r h => by cases h; rfl)) rfl d_F_close_25 (ad_i (ad_i rfl)) (fun M hV => ?_)
    refine g_goto 68 d_F_close_28 (by decide) ?_
    refine g_aload_n d_F_close_68 rfl ?_
    refine v_getr (v := none) (τ := (16 * i + p)) 323 rfl hV (lv_r (lv_i (lv_i (sl_5 hZ.2.1 hi hp)))) (by decide) (by decide) fl_F_157 rfl d_F_close_69 (ad_r (ad_i (ad_i rfl))) ((vr_ur_f (by decide) _ _ _ _).trans ((vr_ui _ _ _ _ _ _).trans ((vr_ui _ _ _ _ _ _).trans hc0))) ?_
    refine g_astore_n d_F_close_72 (by decide) ?_
    refine g_aload_n d_F_close_73 rfl ?_
    refine g_ifnull 103 d_F_close_74 (by decide) (fun c_74 => ?_) (fun a_74 c_74 => ?_)
    · skip
      refine g_aload_n d_F_close_103 rfl ?_
      refine g_aload_n d_F_close_104 rfl ?_
      refine v_geti (v := P 31 (16 * i + p)) (τ := (16 * i + p)) 321 rfl hV (lv_r (lv_i (lv_i (sl_5 hZ.2.1 hi hp)))) (by decide) (by decide) fl_F_111 rfl d_F_close_105 (ad_r (ad_i (ad_i rfl))) ((vi_ur _ _ _ _ _ _).trans ((vi_ui_f (by decide) _ _ _ _).trans ((vi_ui_f (by decide) _ _ _ _).trans (sq_321 hZ.2.1 hi hp)))) ?_
      refine v_putz (τ := i) 265 rfl hV (lv_r (lv_i (lv_i (sl_4 hZ.2.1 hi)))) (by decide) (by decide) fl_F_37 (Or.inr (fun r h => by cases h; rfl)) rfl (hZ.2.2.1 31 (16 * i + p)) d_F_close_108 (ad_r (ad_i (ad_i rfl))) (fun M hV => ?_)
      refine g_aload_n d_F_close_111 rfl ?_
      refine g_aload_n d_F_close_112 rfl ?_
      refine g_callV (k1 := 3) (n1 := 20) [va_rf (some (ad S 5 (16 * i + p)))] cw_F_130 cv_F_drop d_F_close_113 (ad_i (ad_r (ad_i (ad_i rfl)))) (hV.kdo (lv_i (lv_r (lv_i (lv_i (sl_4 hZ.2.1 hi))))) (by decide)) rfl rfl ⟨by simp, by simp⟩ (by first | decide | omega) (by first | decide | omega) (by first | decide | omega) (fun _ _ h => h) (v_F_dropx hV (lv_i (lv_r (lv_i (lv_i (sl_4 hZ.2.1 hi))))) (lv_i (lv_r (lv_i (lv_i (sl_5 hZ.2.1 hi hp))))) (ad_i (ad_r (ad_i (ad_i rfl))))) (fun r_ M h_ hfr_ => ?_)
      obtain ⟨rfl, hV⟩ := h_
      refine g_aload_n d_F_close_116 rfl ?_
      refine g_aload_n d_F_close_117 rfl ?_
      refine v_geti (v := vi S 260 i) (τ := (16 * i + p)) 326 rfl hV (lv_i (lv_r (lv_i (lv_r (lv_i (lv_i (sl_5 hZ.2.1 hi hp))))))) (by decide) (by decide) fl_F_151 rfl d_F_close_118 (ad_i (ad_r (ad_i (ad_r (ad_i (ad_i rfl)))))) ((vi_ui_f (by decide) _ _ _ _).trans ((vi_ur _ _ _ _ _ _).trans ((vi_ui_f (by decide) _ _ _ _).trans ((vi_ur _ _ _ _ _ _).trans (vi_ui_s _ _ _ _))))) ?_
      refine g_aload_n d_F_close_121 rfl ?_
      refine v_getr (v := vr S 261 i) (τ := (16 * i + p)) 327 rfl hV (lv_i (lv_r (lv_i (lv_r (lv_i (lv_i (sl_5 hZ.2.1 hi hp))))))) (by decide) (by decide) fl_F_152 rfl d_F_close_122 (ad_i (ad_r (ad_i (ad_r (ad_i (ad_i rfl)))))) ((vr_ui _ _ _ _ _ _).trans ((vr_ur_f (by decide) _ _ _ _).trans ((vr_ui _ _ _ _ _ _).trans (vr_ur_s _ _ _ _)))) ?_
      refine g_callV (k1 := 3) (n1 := 20) [.int (vi S 260 i), va_rf (vr S 261 i)] cw_F_64 cv_F_giveExit d_F_close_125 (ad_i (ad_r (ad_i (ad_r (ad_i (ad_i rfl)))))) (hV.kdo (lv_i (lv_r (lv_i (lv_r (lv_i (lv_i (sl_4 hZ.2.1 hi))))))) (by decide)) rfl rfl ⟨by simp, by simp⟩ (by first | decide | omega) (by first | decide | omega) (by first | decide | omega) (fun _ _ h => h) (v_F_giveExit hV (lv_i (lv_r (lv_i (lv_r (lv_i (lv_i (sl_4 hZ.2.1 hi))))))) _ _) (fun r_ M h_ hfr_ => ?_)
      obtain ⟨rfl, hV⟩ := h_
      refine g_return d_F_close_128 rfl ⟨rfl, ur (ui (ur (ui (ur (ui (ur (ui (ui S 325 (16 * i + p) 1) 326 (16 * i + p) (vi S 260 i)) 327 (16 * i + p) (vr S 261 i)) 265 i (P 31 (16 * i + p))) 263 i (vr (ui (ur (ui (ui S 325 (16 * i + p) 1) 326 (16 * i + p) (vi S 260 i)) 327 (16 * i + p) (vr S 261 i)) 265 i (P 31 (16 * i + p))) 322 (16 * i + p))) 264 i (vi (ui (ur (ui (ui S 325 (16 * i + p) 1) 326 (16 * i + p) (vi S 260 i)) 327 (16 * i + p) (vr S 261 i)) 265 i (P 31 (16 * i + p))) 264 i - 1)) 258 i none) 260 i (vi S 260 i)) 261 i (vr S 261 i), ?_, rfl, rfl⟩
      refine hZ.run hi h5 h15 (p := p) (by omega) (exS_w (((((((Sx.refl _ S).ui (by unfold dW; omega) _).ui (by unfold dW; omega) _).ur (by unfold dW; omega) _).ui (by unfold dW; omega) _).ur (by unfold dW; omega) _).ui (by unfold dW; omega) _) _ _) (((Ag.refl _ P).up (by unfold dR; omega) _).up (by unfold dR; omega) _) (WB.up (f := 22) (WB.up (f := 10) hZ.2.2.1 (hZ.2.2.1 31 _)) (sm_of (N := 16) e22 (by omega) (by decide))) (by rw [up_s, t22]; omega) ?_ ?_ ?_ ?_ (fun q => by rw [up_s, t22] at q; omega) hV
      · rw [up_s, t22]; simp [vr_ur, vr_ui]; exact sq_322 hZ.2.1 hi hp
      · rw [up_s]; simp [vi_ur, vi_ui_e]; exact sf_264 hZ.2.1 hi
      · rw [up_f (by decide), up_s]; simp [vi_ur, vi_ui_e]
      · refine ⟨fun q => absurd (by rw [up_f (by decide), up_f (by decide)]; exact h11) q, fun _ => ⟨by simp [vr_ur, vr_ui], ?_⟩⟩
        exact hx.ag (Gx.refl _) rfl rfl rfl (by simp [vr_ur, vr_ui]) (by simp [vi_ur, vi_ui_e])
    · exact absurd c_74 (by simp)
