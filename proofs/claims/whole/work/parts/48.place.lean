/-! at places (by program: wip/tools/gen_s7.py) -/
theorem Zt.addl {P : Pst} {LL : Lls} {S : Gs} {M M' : Mm} (hZ : Zt P LL S M) {t : Nat} (ht : t < 9) (h0 : ¬ t = 0) (hl : (LL t).length < 10) (x : Nat) (hV : VM (ui (ui S (1280 + (LL t).length) t (nI x)) 65 t (nI (LL t).length + 1)) M') : Zt P (upL LL t (LL t ++ [x])) (ui (ui S (1280 + (LL t).length) t (nI x)) 65 t (nI (LL t).length + 1)) M' := ⟨hV, hZ.2.1.add hZ.2.2.1 ht hl x, hZ.2.2.1, by rw [upL_n _ (Ne.symm h0)]; exact hZ.2.2.2⟩
theorem Zt.pl {P : Pst} {LL : Lls} {S : Gs} {M M' : Mm} (hZ : Zt P LL S M) {n : Nat} (hn : n < 4) {f k : Nat} (hf : (f = 37 ∧ k = 128) ∨ (f = 39 ∧ k = 131) ∨ (f = 38 ∧ k = 130) ∨ (f = 41 ∧ k = 129)) (x : Int32) (h41 : f = 41 → x = 0 ∨ x = 1) (hV : VM (ui S k n x) M') : Zt (up P f n x) LL (ui S k n x) M' := by
  refine ⟨hV, hZ.2.1.place hZ.2.2.1 hn ((Sx.refl _ S).ui (by omega) _) ((Ag.refl _ P).up (by omega) _) (fun q => ?_), ?_, by rw [up_f (by omega)]; exact hZ.2.2.2⟩
  · obtain ⟨a, b, c, d⟩ := (hZ.2.1.2.1 n hn).2.2.2.2 q
    rcases hf with ⟨rfl, rfl⟩ | ⟨rfl, rfl⟩ | ⟨rfl, rfl⟩ | ⟨rfl, rfl⟩
    · exact ⟨by simp [vi_ui_e, up_e], by simpa [vi_ui_e, up_e] using b, by simpa [vi_ui_e, up_e] using c, by simpa [vi_ui_e, up_e] using d⟩
    · exact ⟨by simpa [vi_ui_e, up_e] using a, by simpa [vi_ui_e, up_e] using b, by simpa [vi_ui_e, up_e] using c, by simp [vi_ui_e, up_e]⟩
    · exact ⟨by simpa [vi_ui_e, up_e] using a, by simpa [vi_ui_e, up_e] using b, by simp [vi_ui_e, up_e], by simpa [vi_ui_e, up_e] using d⟩
    · exact ⟨by simpa [vi_ui_e, up_e] using a, by simp [vi_ui_e, up_e], by simpa [vi_ui_e, up_e] using c, by simpa [vi_ui_e, up_e] using d⟩
  · rcases hf with ⟨rfl, rfl⟩ | ⟨rfl, rfl⟩ | ⟨rfl, rfl⟩ | ⟨rfl, rfl⟩
    · exact WB.up hZ.2.2.1 trivial
    · exact WB.up hZ.2.2.1 trivial
    · exact WB.up hZ.2.2.1 trivial
    · exact WB.up hZ.2.2.1 (h41 rfl)
theorem lnAt_cons {x : Nat} {l : List Nat} (h : (x :: l).length ≤ 10) : lnAt (x :: l) 0 = nI x := by
  unfold lnAt
  rw [if_neg (by decide), if_neg (ix_nle (y := 0) (a := (x :: l).length) (b := 0) rfl rfl (by simp) (by omega))]
  rfl
theorem lnAt_at {l : List Nat} {j : Nat} (h : j < l.length) (h10 : l.length ≤ 10) : lnAt l (nI j) = nI (l.getD j 0) := by
  unfold lnAt
  rw [if_neg (nI_pos (by omega)), if_neg (ix_nle rfl rfl h (by omega)), tn_nI (by omega)]
theorem upL_same {LL : Lls} {t : Nat} {l : List Nat} (h : LL t = l) : upL LL t l = LL := by
  funext s
  unfold upL
  split
  · rename_i e; rw [e, h]
  · rfl
def lgP (P : Pst) (LL : Lls) (n : Nat) : Pst := match LL (5 + n) with
  | [] => up P 39 n (P 39 n + 1)
  | x :: _ => p_R_wake (p_R_give P x (P 17 x)) x
def lgL (LL : Lls) (n : Nat) : Lls := match LL (5 + n) with
  | [] => LL
  | x :: _ => upL (upL LL (5 + n) (rmF (nI x) (LL (5 + n)))) 0 (LL 0 ++ [x])
def foldK (v : Int32) : List Nat → Pst → Pst
  | [], P => P
  | x :: l, P => foldK v l (p_R_wake (p_R_give P x v) x)
theorem foldK_snoc (v : Int32) : ∀ (l : List Nat) (x : Nat) (P : Pst), foldK v (l ++ [x]) P = p_R_wake (p_R_give (foldK v l P) x v) x
  | [], _, _ => rfl
  | y :: l, x, P => foldK_snoc v l x _
theorem foldK_o (v : Int32) : ∀ (l : List Nat) (P : Pst) {f x : Nat}, ¬ x ∈ l → ¬ f = 36 → ¬ f = 43 → foldK v l P f x = P f x
  | [], _, _, _, _, _, _ => rfl
  | y :: l, P, f, x, h, h2, h3 => by
    have hy : ¬ x = y := fun q => h (by rw [q]; exact List.mem_cons_self ..)
    show foldK v l _ f x = _
    rw [foldK_o v l _ (fun q => h (List.mem_cons_of_mem _ q)) h2 h3]
    simp [p_R_wake, p_R_give, up_e, hy, h2, h3]
theorem foldK_f (v : Int32) : ∀ (l : List Nat) (P : Pst) {f x : Nat}, ¬ f = 5 ∧ ¬ f = 15 ∧ ¬ f = 11 ∧ ¬ f = 13 ∧ ¬ f = 14 ∧ ¬ f = 36 ∧ ¬ f = 43 → foldK v l P f x = P f x
  | [], _, _, _, _ => rfl
  | y :: l, P, f, x, h => by
    show foldK v l _ f x = _
    rw [foldK_f v l _ h]
    obtain ⟨a, b, c, d, e, g, i⟩ := h
    simp [p_R_wake, p_R_give, up_e, a, b, c, d, e, g, i]
theorem foldK_43 (v : Int32) : ∀ (l : List Nat) (P : Pst) (q : Nat), P 43 0 = nI q → foldK v l P 43 0 = nI (q + l.length)
  | [], _, _, h => h
  | y :: l, P, q, h => by
    show foldK v l _ 43 0 = _
    rw [foldK_43 v l _ (q + 1) (by simp [p_R_wake, p_R_give, up_e, h, nI_1]), List.length_cons]
    congr 1
    omega
def kpP (P : Pst) (LL : Lls) (n : Nat) (v : Int32) : Pst := if P 41 n = 0 then foldK v (LL (1 + n)) (up (up P 41 n 1) 38 n v) else P
def kpL (P : Pst) (LL : Lls) (n : Nat) : Lls := if P 41 n = 0 then upL (upL LL 0 (LL 0 ++ LL (1 + n))) (1 + n) [] else LL
theorem Zt.clr {P : Pst} {LL : Lls} {S : Gs} {M M' : Mm} (hZ : Zt P LL S M) {t : Nat} (ht : t < 9) (h0 : ¬ t = 0) (hV : VM (ui S 65 t 0) M') : Zt P (upL LL t []) (ui S 65 t 0) M' := by
  have hL := hZ.2.1.2.2.1 t ht
  refine ⟨hV, hZ.2.1.line hZ.2.2.1 (I := vi (ui S 65 t 0)) (l := []) ?_ ((Ag.refl _ _).up ⟨rfl, Or.inl rfl⟩ _), hZ.2.2.1, by rw [upL_n _ (Ne.symm h0)]; exact hZ.2.2.2⟩
  exact ⟨hL.1, hL.2.1, hL.2.2.1, by show vi (ui S 65 t 0) 65 t = nI 0; rw [vi_ui_s]; rfl, by simp, fun j hj => absurd hj (by simp)⟩
set_option maxHeartbeats 1000000 in
set_option maxRecDepth 100000 in
theorem s_D_beginAwait {P : Pst} {LL : Lls} {S : Gs} {M : Mm} (hZ : Zt P LL S M) {i n : Nat} (hi : i < nfb P) (hn : n < 4) (h5 : P 5 i = 0) (hst : ¬ P 51 0 = 0) (hl : (LL (1 + n)).length < 10) : Run m_D_beginAwait ownC 2 0 0 [va_rf (some (ad S 0 0)), va_rf (some (ad S 4 i)), va_rf (some (ad S 2 n)), .int (nI n)] M (fun r M' => r = none ∧ ∃ S', Zt (if P 41 n = 0 then p_R_rest P i 5 (nI n) 0 else p_R_give P i (P 38 n)) (if P 41 n = 0 then upL LL (1 + n) (LL (1 + n) ++ [i]) else LL) S' M' ∧ Kp P S S') := by
  have hV := hZ.1
  refine Run.ofG (by decide) (by simp [cat_int, cat_rf]) (Nat.le_of_ble_eq_true rfl) ?_
  refine g_aload_n d_D_beginAwait_0 rfl ?_
  refine v_geti (v := P 41 n) (τ := n) 129 rfl hV (sl_2 hZ.2.1 hn) (by decide) (by decide) fl_D_158 rfl d_D_beginAwait_1 rfl (sp_129 hZ.2.1 hn hst) ?_
  refine g_if_eq 16 d_D_beginAwait_4 (by decide) (fun c_4 => ?_) (fun c_4 => ?_)
  · skip
    refine g_aload_n d_D_beginAwait_16 rfl ?_
    refine g_iconst (v := 5) d_D_beginAwait_17 (by decide) ?_
    refine g_iload_n d_D_beginAwait_18 rfl ?_
    refine g_callV (k1 := 0) (n1 := 0) [.int (5), .int (nI n)] cw_D_291 cv_F_waitFor d_D_beginAwait_19 rfl (hV.kdo (sl_4 hZ.2.1 hi) (by decide)) rfl rfl ⟨by simp, by simp⟩ (by first | decide | omega) (by first | decide | omega) (by first | decide | omega) (fun _ _ h => h) (v_F_waitFor hV (sl_4 hZ.2.1 hi) _ _) (fun r_ M h_ hfr_ => ?_)
    obtain ⟨rfl, hV⟩ := h_
    have hZ1 : Zt (p_R_rest P i 5 (nI n) 0) LL (waS S i 5 (nI n)) _ := hZ.rest hi 5 (nI n) 0 (nI n) h5 (fun _ => rfl) (fun q => absurd q (by decide)) (fun q => absurd q (by decide)) (fun q => absurd q (by decide)) hV
    have hle1 : nfb P ≤ nfb (p_R_rest P i 5 (nI n) 0) := (Nat.le_refl _)
    have hK1 : Kp P S (waS S i 5 (nI n)) := Kp.trans (Kp.refl P S) (Kp.of rfl rfl) (Nat.le_refl _)
    have hi1_0 : i < nfb (p_R_rest P i 5 (nI n) 0) := Nat.lt_of_lt_of_le hi hle1
    have hV := hZ1.1
    refine g_aload_n d_D_beginAwait_22 rfl ?_
    refine v_getr (v := some (ad (waS S i 5 (nI n)) 1 (1 + n))) (τ := n) 132 rfl hV (sl_2 hZ1.2.1 hn) (by decide) (by decide) fl_D_167 rfl d_D_beginAwait_23 (ad_i (ad_i (ad_r rfl))) (sp_132 hZ1.2.1 hn) ?_
    refine g_aload_n d_D_beginAwait_26 rfl ?_
    refine v_geti (v := nI i) (τ := i) 256 rfl hV (sl_4 hZ1.2.1 hi1_0) (by decide) (by decide) fl_D_173 rfl d_D_beginAwait_27 (ad_i (ad_i (ad_r rfl))) (sf_256 hZ1.2.1 hi1_0) ?_
    refine g_callV (k1 := 0) (n1 := 0) [.int (nI i)] cw_D_226 cv_L_add d_D_beginAwait_30 rfl (hV.kdo (sl_1 hZ1.2.1 (by omega)) (by decide)) rfl rfl ⟨by simp, by simp⟩ (by first | decide | omega) (by first | decide | omega) (by first | decide | omega) (fun _ _ h => h) (v_L_add hV (ln hZ1.2.1 (by omega)) (by omega) hl i) (fun r_ M h_ hfr_ => ?_)
    obtain ⟨rfl, hV⟩ := h_
    refine g_return d_D_beginAwait_33 rfl ⟨rfl, ui (ui (waS S i 5 (nI n)) (1280 + (LL (1 + n)).length) (1 + n) (nI i)) 65 (1 + n) (nI (LL (1 + n)).length + 1), ?_, Kp.of rfl rfl⟩
    rw [if_pos c_4, if_pos c_4]
    exact hZ1.addl (by omega) (by omega) hl i hV
  · skip
    refine g_aload_n d_D_beginAwait_7 rfl ?_
    refine g_aload_n d_D_beginAwait_8 rfl ?_
    refine v_geti (v := P 38 n) (τ := n) 130 rfl hV (sl_2 hZ.2.1 hn) (by decide) (by decide) fl_D_161 rfl d_D_beginAwait_9 rfl (sp_130 hZ.2.1 hn hst) ?_
    refine g_callV (k1 := 0) (n1 := 0) [.int (P 38 n)] cw_D_242 cv_F_giveValue d_D_beginAwait_12 rfl (hV.kdo (sl_4 hZ.2.1 hi) (by decide)) rfl rfl ⟨by simp, by simp⟩ (by first | decide | omega) (by first | decide | omega) (by first | decide | omega) (fun _ _ h => h) (v_F_giveValue hV (sl_4 hZ.2.1 hi) _) (fun r_ M h_ hfr_ => ?_)
    obtain ⟨rfl, hV⟩ := h_
    exact g_return d_D_beginAwait_15 rfl ⟨rfl, exS S i (P 38 n) none, by rw [if_neg c_4, if_neg c_4]; exact hZ.give hi _ (fun h => by rw [h5] at h; exact absurd h (by decide)) hV, Kp.of rfl rfl⟩
set_option maxHeartbeats 1000000 in
set_option maxRecDepth 100000 in
theorem s_D_beginTake {P : Pst} {LL : Lls} {S : Gs} {M : Mm} (hZ : Zt P LL S M) {i n : Nat} (hi : i < nfb P) (hn : n < 4) (h5 : P 5 i = 0) (hst : ¬ P 51 0 = 0) (hl : (LL (5 + n)).length < 10) {v : Int32} (hx1 : vr S 261 i = none) (hx2 : vi S 260 i = v) : Run m_D_beginTake ownC 2 0 0 [va_rf (some (ad S 0 0)), va_rf (some (ad S 4 i)), va_rf (some (ad S 2 n)), .int (nI n)] M (fun r M' => r = none ∧ ∃ S', Zt (if P 39 n ≤ 0 then p_R_rest P i 6 (nI n) v else up P 39 n (P 39 n - 1)) (if P 39 n ≤ 0 then upL LL (5 + n) (LL (5 + n) ++ [i]) else LL) S' M' ∧ Kp P S S') := by
  have hV := hZ.1
  refine Run.ofG (by decide) (by simp [cat_int, cat_rf]) (Nat.le_of_ble_eq_true rfl) ?_
  refine g_aload_n d_D_beginTake_0 rfl ?_
  refine v_geti (v := P 39 n) (τ := n) 131 rfl hV (sl_2 hZ.2.1 hn) (by decide) (by decide) fl_D_164 rfl d_D_beginTake_1 rfl (sp_131 hZ.2.1 hn hst) ?_
  refine g_if_le 18 d_D_beginTake_4 (by decide) (fun c_4 => ?_) (fun c_4 => ?_)
  · skip
    refine g_aload_n d_D_beginTake_18 rfl ?_
    refine g_bipush (v := 6) d_D_beginTake_19 (by decide) ?_
    refine g_iload_n d_D_beginTake_21 rfl ?_
    refine g_callV (k1 := 0) (n1 := 0) [.int (6), .int (nI n)] cw_D_291 cv_F_waitFor d_D_beginTake_22 rfl (hV.kdo (sl_4 hZ.2.1 hi) (by decide)) rfl rfl ⟨by simp, by simp⟩ (by first | decide | omega) (by first | decide | omega) (by first | decide | omega) (fun _ _ h => h) (v_F_waitFor hV (sl_4 hZ.2.1 hi) _ _) (fun r_ M h_ hfr_ => ?_)
    obtain ⟨rfl, hV⟩ := h_
    have hZ1 : Zt (p_R_rest P i 6 (nI n) v) LL (waS S i 6 (nI n)) _ := hZ.rest hi 6 (nI n) v (nI n) h5 (fun _ => rfl) (fun q => absurd q (by decide)) (fun q => absurd q (by decide)) (fun _ => ⟨hx1, hx2⟩) hV
    have hle1 : nfb P ≤ nfb (p_R_rest P i 6 (nI n) v) := (Nat.le_refl _)
    have hK1 : Kp P S (waS S i 6 (nI n)) := Kp.trans (Kp.refl P S) (Kp.of rfl rfl) (Nat.le_refl _)
    have hi1_0 : i < nfb (p_R_rest P i 6 (nI n) v) := Nat.lt_of_lt_of_le hi hle1
    have hV := hZ1.1
    refine g_aload_n d_D_beginTake_25 rfl ?_
    refine v_getr (v := some (ad (waS S i 6 (nI n)) 1 (5 + n))) (τ := n) 133 rfl hV (sl_2 hZ1.2.1 hn) (by decide) (by decide) fl_D_170 rfl d_D_beginTake_26 (ad_i (ad_i (ad_r rfl))) (sp_133 hZ1.2.1 hn) ?_
    refine g_aload_n d_D_beginTake_29 rfl ?_
    refine v_geti (v := nI i) (τ := i) 256 rfl hV (sl_4 hZ1.2.1 hi1_0) (by decide) (by decide) fl_D_173 rfl d_D_beginTake_30 (ad_i (ad_i (ad_r rfl))) (sf_256 hZ1.2.1 hi1_0) ?_
    refine g_callV (k1 := 0) (n1 := 0) [.int (nI i)] cw_D_226 cv_L_add d_D_beginTake_33 rfl (hV.kdo (sl_1 hZ1.2.1 (by omega)) (by decide)) rfl rfl ⟨by simp, by simp⟩ (by first | decide | omega) (by first | decide | omega) (by first | decide | omega) (fun _ _ h => h) (v_L_add hV (ln hZ1.2.1 (by omega)) (by omega) hl i) (fun r_ M h_ hfr_ => ?_)
    obtain ⟨rfl, hV⟩ := h_
    refine g_return d_D_beginTake_36 rfl ⟨rfl, ui (ui (waS S i 6 (nI n)) (1280 + (LL (5 + n)).length) (5 + n) (nI i)) 65 (5 + n) (nI (LL (5 + n)).length + 1), ?_, Kp.of rfl rfl⟩
    rw [if_pos c_4, if_pos c_4]
    exact hZ1.addl (by omega) (by omega) hl i hV
  · skip
    refine g_aload_n d_D_beginTake_7 rfl ?_
    refine g_dup d_D_beginTake_8 ?_
    refine v_geti (v := P 39 n) (τ := n) 131 rfl hV (sl_2 hZ.2.1 hn) (by decide) (by decide) fl_D_164 rfl d_D_beginTake_9 rfl (sp_131 hZ.2.1 hn hst) ?_
    refine g_iconst (v := 1) d_D_beginTake_12 (by decide) ?_
    refine g_isub d_D_beginTake_13 ?_
    refine v_puti (τ := n) 131 rfl hV (sl_2 hZ.2.1 hn) (by decide) (by decide) fl_D_164 (Or.inr (fun r h => by cases h; rfl)) rfl d_D_beginTake_14 rfl (fun M hV => ?_)
    exact g_return d_D_beginTake_17 rfl ⟨rfl, ui S 131 n (P 39 n - 1), by rw [if_neg c_4, if_neg c_4]; exact hZ.pl hn (Or.inr (Or.inl ⟨rfl, rfl⟩)) _ (fun q => absurd q (by decide)) hV, Kp.of rfl rfl⟩
set_option maxHeartbeats 1000000 in
set_option maxRecDepth 100000 in
theorem s_D_leaveGate {P : Pst} {LL : Lls} {S : Gs} {M : Mm} (hZ : Zt P LL S M) {n : Nat} (hn : n < 4) (hst : ¬ P 51 0 = 0) (hW : ∀ x, x ∈ LL (5 + n) → x < nfb P ∧ P 5 x = 1 ∧ P 15 x = 6) (hq : tn (P 43 0) < 10) : Run m_D_leaveGate ownC 2 0 0 [va_rf (some (ad S 0 0)), va_rf (some (ad S 2 n))] M (fun r M' => r = none ∧ ∃ S', Zt (lgP P LL n) (lgL LL n) S' M' ∧ Kp P S S') := by
  have hV := hZ.1
  refine Run.ofG (by decide) (by simp [cat_int, cat_rf]) (Nat.le_of_ble_eq_true rfl) ?_
  cases hLL : LL (5 + n) with
  | nil =>
    have hLn : Ln S (5 + n) [] := by rw [← hLL]; exact ln hZ.2.1 (by omega)
    refine g_aload_n d_D_leaveGate_0 rfl ?_
    refine g_aload_n d_D_leaveGate_1 rfl ?_
    refine v_getr (v := some (ad S 1 (5 + n))) (τ := n) 133 rfl hV (sl_2 hZ.2.1 hn) (by decide) (by decide) fl_D_170 rfl d_D_leaveGate_2 rfl (sp_133 hZ.2.1 hn) ?_
    refine g_callV (k1 := 0) (n1 := 0) [] cw_D_190 cv_L_takeFirst d_D_leaveGate_5 rfl (hV.kdo (sl_1 hZ.2.1 (by omega)) (by decide)) rfl rfl ⟨by simp [cat_rf, cat_int], by simp⟩ (by first | decide | omega) (by first | decide | omega) (by first | decide | omega) (fun _ _ h => h) (v_L_takeFirst hV hLn (by omega)) (fun r_ M h_ hfr_ => ?_)
    obtain ⟨rfl, I1, hV, hL1, hA1⟩ := h_
    skip
    have hZ1 : Zt P (upL LL (5 + n) ([])) (sI S I1) _ := hZ.rm (by omega) hV hL1 hA1
    have hle1 : nfb P ≤ nfb P := (Nat.le_refl _)
    have hK1 : Kp P S (sI S I1) := Kp.trans (Kp.refl P S) (Kp.of rfl rfl) (Nat.le_refl _)
    have hV := hZ1.1
    refine g_callV (k1 := 0) (n1 := 0) [.int (-1)] cw_D_94 cv_D_fiberAt d_D_leaveGate_8 rfl (hV.kdo (sl_0 hZ1.2.1) (by decide)) rfl rfl ⟨by simp, by simp⟩ (by first | decide | omega) (by first | decide | omega) (by first | decide | omega) (fun _ _ h => h) (s_fiberOut (x := -1) ⟨hV, hZ1.2⟩ (Or.inl (by decide))) (fun r_ M h_ hfr_ => ?_)
    obtain ⟨rfl, hV⟩ := h_
    refine g_astore_n d_D_leaveGate_11 (by decide) ?_
    refine g_aload_n d_D_leaveGate_12 rfl ?_
    refine g_ifnonnull 29 d_D_leaveGate_13 (by decide) (fun a_13 c_13 => ?_) (fun c_13 => ?_)
    · exact absurd c_13 (by simp)
    · skip
      refine g_aload_n d_D_leaveGate_16 rfl ?_
      refine g_dup d_D_leaveGate_17 ?_
      refine v_geti (v := P 39 n) (τ := n) 131 rfl hV (sl_2 hZ1.2.1 hn) (by decide) (by decide) fl_D_164 rfl d_D_leaveGate_18 rfl (sp_131 hZ1.2.1 hn hst) ?_
      refine g_iconst (v := 1) d_D_leaveGate_21 (by decide) ?_
      refine g_iadd d_D_leaveGate_22 ?_
      refine v_puti (τ := n) 131 rfl hV (sl_2 hZ1.2.1 hn) (by decide) (by decide) fl_D_164 (Or.inr (fun r h => by cases h; rfl)) rfl d_D_leaveGate_23 rfl (fun M hV => ?_)
      refine g_goto 34 d_D_leaveGate_26 (by decide) ?_
      refine g_return d_D_leaveGate_34 rfl ⟨rfl, ui (sI S I1) 131 n (P 39 n + 1), ?_, Kp.of rfl rfl⟩
      have hZ2 := hZ1.pl hn (Or.inr (Or.inl ⟨rfl, rfl⟩)) (P 39 n + 1) (fun q => absurd q (by decide)) hV
      unfold lgP lgL; rw [hLL]; rw [upL_same (t := 5 + n) (l := []) hLL] at hZ2; exact hZ2
  | cons x l =>
    have hl10 : (LL (5 + n)).length ≤ 10 := (ln hZ.2.1 (t := 5 + n) (by omega)).2.2.2.2.1
    rw [hLL] at hl10
    obtain ⟨hx, hx5, hx15⟩ := hW x (by rw [hLL]; exact List.mem_cons_self ..)
    have hLn : Ln S (5 + n) (x :: l) := by rw [← hLL]; exact ln hZ.2.1 (by omega)
    refine g_aload_n d_D_leaveGate_0 rfl ?_
    refine g_aload_n d_D_leaveGate_1 rfl ?_
    refine v_getr (v := some (ad S 1 (5 + n))) (τ := n) 133 rfl hV (sl_2 hZ.2.1 hn) (by decide) (by decide) fl_D_170 rfl d_D_leaveGate_2 rfl (sp_133 hZ.2.1 hn) ?_
    refine g_callV (k1 := 0) (n1 := 0) [] cw_D_190 cv_L_takeFirst d_D_leaveGate_5 rfl (hV.kdo (sl_1 hZ.2.1 (by omega)) (by decide)) rfl rfl ⟨by simp [cat_rf, cat_int], by simp⟩ (by first | decide | omega) (by first | decide | omega) (by first | decide | omega) (fun _ _ h => h) (v_L_takeFirst hV hLn (by omega)) (fun r_ M h_ hfr_ => ?_)
    obtain ⟨rfl, I1, hV, hL1, hA1⟩ := h_
    rw [lnAt_cons hl10] at hL1 ⊢
    have hZ1 : Zt P (upL LL (5 + n) (rmF (nI x) (x :: l))) (sI S I1) _ := hZ.rm (by omega) hV hL1 hA1
    have hle1 : nfb P ≤ nfb P := (Nat.le_refl _)
    have hK1 : Kp P S (sI S I1) := Kp.trans (Kp.refl P S) (Kp.of rfl rfl) (Nat.le_refl _)
    have hi1_0 : x < nfb P := Nat.lt_of_lt_of_le hx hle1
    have hV := hZ1.1
    refine g_callV (k1 := 0) (n1 := 0) [.int (nI x)] cw_D_94 cv_D_fiberAt d_D_leaveGate_8 rfl (hV.kdo (sl_0 hZ1.2.1) (by decide)) rfl rfl ⟨by simp, by simp⟩ (by first | decide | omega) (by first | decide | omega) (by first | decide | omega) (fun _ _ h => h) (s_fiberIn ⟨hV, hZ1.2⟩ hi1_0) (fun r_ M h_ hfr_ => ?_)
    obtain ⟨rfl, hV⟩ := h_
    refine g_astore_n d_D_leaveGate_11 (by decide) ?_
    refine g_aload_n d_D_leaveGate_12 rfl ?_
    refine g_ifnonnull 29 d_D_leaveGate_13 (by decide) (fun a_13 c_13 => ?_) (fun c_13 => ?_)
    · skip
      have hZ2 : Zt (p_R_give P x (P 17 x)) (upL LL (5 + n) (rmF (nI x) (x :: l))) (sI S I1) _ := ⟨hV, hZ1.2.1.giveW hZ.2.2.1 hx hx5 (P 17 x), wb_give hZ.2.2.1 x _, hZ1.2.2.2⟩
      have hAct : ActR (p_R_give P x (P 17 x)) (sI S I1) x := hZ1.2.1.giveA hx hx5 (Or.inr (Or.inr hx15)) _ (by rw [hx15, if_neg (by decide)])
      have hle2 : nfb P ≤ nfb (p_R_give P x (P 17 x)) := hle1
      have hK2 : Kp P S (sI S I1) := Kp.trans hK1 (Kp.of rfl rfl) hle1
      have hi2_0 : x < nfb (p_R_give P x (P 17 x)) := Nat.lt_of_lt_of_le hx hle2
      have hV := hZ2.1
      refine g_aload_n d_D_leaveGate_29 rfl ?_
      refine g_aload_n d_D_leaveGate_30 rfl ?_
      refine g_callV (k1 := 0) (n1 := 0) [va_rf (some (ad (sI S I1) 4 x))] cw_D_233 cv_D_goOn d_D_leaveGate_31 rfl (hV.kdo (sl_0 hZ2.2.1) (by decide)) rfl rfl ⟨by simp, by simp⟩ (by first | decide | omega) (by first | decide | omega) (by first | decide | omega) (fun _ _ h => h) (s_D_goOn hZ2 hi2_0 hx5 (Or.inr hAct) hq rfl) (fun r_ M h_ hfr_ => ?_)
      obtain ⟨rfl, S3, hZ3, ha3, hb3⟩ := h_
      have hk3 : Kp (p_R_give P x (P 17 x)) (sI S I1) S3 := Kp.of ha3 hb3
      have hle3 : nfb P ≤ nfb (p_R_wake (p_R_give P x (P 17 x)) x) := hle2
      have hK3 : Kp P S S3 := Kp.trans hK2 hk3 hle2
      have hi3_0 : x < nfb (p_R_wake (p_R_give P x (P 17 x)) x) := Nat.lt_of_lt_of_le hx hle3
      have hV := hZ3.1
      refine g_return d_D_leaveGate_34 rfl ⟨rfl, S3, ?_, hK3⟩
      unfold lgP lgL; rw [hLL]
      rw [upL_n (t := 5 + n) LL (by omega)] at hZ3; exact hZ3
    · exact absurd (Eq.trans (Eq.symm (rfl : some (ad (sI S I1) 4 x) = some _)) c_13) (by simp)
theorem nfb_foldK (v : Int32) (l : List Nat) (P : Pst) : nfb (foldK v l P) = nfb P := by
  unfold nfb
  rw [foldK_f v l P (by decide)]
set_option maxHeartbeats 1000000 in
set_option maxRecDepth 100000 in
theorem l_keep {v : Int32} {P P1 : Pst} {LL : Lls} {S : Gs} {M M0 : Mm} (hZ : Zt P LL S M) {n : Nat} (hn : n < 4) (hst : ¬ P 51 0 = 0) (hst1 : ∀ dn, ¬ foldK v dn P1 51 0 = 0) {l : List Nat} (hl : LL (1 + n) = l) (hW : ∀ x, x ∈ l → x < nfb P ∧ P1 5 x = 1 ∧ P1 15 x = 5) (hnd : l.Nodup) (hq : P1 43 0 = P 43 0 ∧ tn (P 43 0) + l.length ≤ 10) (hE : nfb P1 = nfb P) : ∀ (r dn : List Nat) (S1 : Gs) (M : Mm) (X : Option Value), l = dn ++ r → Zt (foldK v dn P1) (upL LL 0 (LL 0 ++ dn)) S1 M → Kp P S S1 → G m_D_keepPromise ownC M0 (fun r M' => r = some (.int 1) ∧ ∃ S', Zt (foldK v l P1) (upL (upL LL 0 (LL 0 ++ l)) (1 + n) []) S' M' ∧ Kp P S S') 2 0 0 M 21 [some (va_rf (some (ad S 0 0))), some (va_rf (some (ad S 2 n))), some (.int v), some (.int (nI dn.length)), X] []
  | [], dn, S1, M, X, e, hZ1, hK => by
    have hst1 := hst1 dn
    have hle : nfb P ≤ nfb (foldK v dn P1) := by rw [nfb_foldK, hE]; exact Nat.le_refl _
    have hV := hZ1.1
    rw [List.append_nil] at e
    have el : l.length = dn.length := by rw [e]
    subst e
    refine g_iload_n d_D_keepPromise_21 rfl ?_
    refine g_aload_n d_D_keepPromise_22 rfl ?_
    refine v_getr (v := some (ad S1 1 (1 + n))) (τ := n) 132 rfl hV (sl_2 hZ1.2.1 hn) (by decide) (by decide) fl_D_167 rfl d_D_keepPromise_23 (ad_k rfl (hK.1 2 n (by decide) (by decide) (sl_2 hZ.2.1 hn))) (sp_132 hZ1.2.1 hn) ?_
    refine v_geti (v := nI l.length) (τ := (1 + n)) 65 rfl hV (sl_1 hZ1.2.1 (by omega)) (by decide) (by decide) fl_D_148 rfl d_D_keepPromise_26 rfl ((ln hZ1.2.1 (by omega)).2.2.2.1.trans (by rw [upL_n _ (by omega), hl])) ?_
    refine g_icmp_ge 69 d_D_keepPromise_29 (by decide) (fun c_29 => ?_) (fun c_29 => ?_)
    · skip
      refine g_aload_n d_D_keepPromise_69 rfl ?_
      refine v_getr (v := some (ad S1 1 (1 + n))) (τ := n) 132 rfl hV (sl_2 hZ1.2.1 hn) (by decide) (by decide) fl_D_167 rfl d_D_keepPromise_70 (ad_k rfl (hK.1 2 n (by decide) (by decide) (sl_2 hZ.2.1 hn))) (sp_132 hZ1.2.1 hn) ?_
      refine g_callV (k1 := 0) (n1 := 0) [] cw_D_186 cv_L_clear d_D_keepPromise_73 rfl (hV.kdo (sl_1 hZ1.2.1 (by omega)) (by decide)) rfl rfl ⟨by simp, by simp⟩ (by first | decide | omega) (by first | decide | omega) (by first | decide | omega) (fun _ _ h => h) (v_L_clear hV (sl_1 hZ1.2.1 (by omega))) (fun r_ M h_ hfr_ => ?_)
      obtain ⟨rfl, hV⟩ := h_
      refine g_iconst (v := 1) d_D_keepPromise_76 (by decide) ?_
      exact g_zreturn d_D_keepPromise_77 rfl (Or.inr rfl) ⟨rfl, ui S1 65 (1 + n) 0, hZ1.clr (by omega) (by omega) hV, Kp.trans hK (Kp.of (P := P) rfl rfl) (Nat.le_refl _)⟩
    · exact absurd c_29 (fun h => h (by rw [el]; exact Int32.le_refl _))
  | x :: r, dn, S1, M, X, e, hZ1, hK => by
    have hst1' := hst1
    have hle : nfb P ≤ nfb (foldK v dn P1) := by rw [nfb_foldK, hE]; exact Nat.le_refl _
    have hV := hZ1.1
    have h10 : l.length ≤ 10 := by omega
    have hlt : dn.length < l.length := by rw [e, List.length_append, List.length_cons]; omega
    have hxl : x ∈ l := by rw [e]; exact List.mem_append.mpr (Or.inr (List.mem_cons_self ..))
    obtain ⟨hx0, g5, g15⟩ := hW x hxl
    have hx1 : x < nfb (foldK v dn P1) := Nat.lt_of_lt_of_le hx0 hle
    have hxd : ¬ x ∈ dn := fun q => by
      rw [e, List.nodup_append] at hnd
      exact hnd.2.2 x q x (List.mem_cons_self ..) rfl
    have hx5 : (foldK v dn P1) 5 x = 1 := by rw [foldK_o v dn P1 hxd (by decide) (by decide)]; exact g5
    have hx3 : (foldK v dn P1) 5 x = 1 → ¬ ((foldK v dn P1) 15 x = 2 ∨ (foldK v dn P1) 15 x = 4 ∨ (foldK v dn P1) 15 x = 6) := fun _ => by rw [foldK_o v dn P1 hxd (by decide) (by decide), g15]; decide
    have hq2 : tn (p_R_give (foldK v dn P1) x v 43 0) < 10 := by
      rw [give_f _ _ _ (by decide), foldK_43 v dn P1 (tn (P 43 0)) (by rw [hq.1]; exact (hZ.2.2.1 43 0).1), tn_nI (by omega)]
      omega
    have hat : lnAt ((upL LL 0 (LL 0 ++ dn)) (1 + n)) (nI dn.length) = nI x := by
      rw [upL_n _ (by omega), hl, lnAt_at hlt h10, e, List.getD_eq_getElem?_getD, List.getElem?_append_right (Nat.le_refl _), Nat.sub_self]
      rfl
    have hst1 := hst1 dn
    refine g_iload_n d_D_keepPromise_21 rfl ?_
    refine g_aload_n d_D_keepPromise_22 rfl ?_
    refine v_getr (v := some (ad S1 1 (1 + n))) (τ := n) 132 rfl hV (sl_2 hZ1.2.1 hn) (by decide) (by decide) fl_D_167 rfl d_D_keepPromise_23 (ad_k rfl (hK.1 2 n (by decide) (by decide) (sl_2 hZ.2.1 hn))) (sp_132 hZ1.2.1 hn) ?_
    refine v_geti (v := nI l.length) (τ := (1 + n)) 65 rfl hV (sl_1 hZ1.2.1 (by omega)) (by decide) (by decide) fl_D_148 rfl d_D_keepPromise_26 rfl ((ln hZ1.2.1 (by omega)).2.2.2.1.trans (by rw [upL_n _ (by omega), hl])) ?_
    refine g_icmp_ge 69 d_D_keepPromise_29 (by decide) (fun c_29 => ?_) (fun c_29 => ?_)
    · exact absurd c_29 (ix_nle rfl rfl hlt (by omega))
    · skip
      refine g_aload_n d_D_keepPromise_32 rfl ?_
      refine g_aload_n d_D_keepPromise_33 rfl ?_
      refine v_getr (v := some (ad S1 1 (1 + n))) (τ := n) 132 rfl hV (sl_2 hZ1.2.1 hn) (by decide) (by decide) fl_D_167 rfl d_D_keepPromise_34 (ad_k rfl (hK.1 2 n (by decide) (by decide) (sl_2 hZ.2.1 hn))) (sp_132 hZ1.2.1 hn) ?_
      refine g_iload_n d_D_keepPromise_37 rfl ?_
      refine g_callV (k1 := 0) (n1 := 0) [.int (nI dn.length)] cw_D_151 cv_L_at d_D_keepPromise_38 rfl (hV.kdo (sl_1 hZ1.2.1 (by omega)) (by decide)) rfl rfl ⟨by simp [cat_rf, cat_int], by simp⟩ (by first | decide | omega) (by first | decide | omega) (by first | decide | omega) (fun _ _ h => h) (v_L_at hV (ln hZ1.2.1 (t := 1 + n) (by omega)) _) (fun r_ M h_ hfr_ => ?_)
      obtain ⟨rfl, hV⟩ := h_
      rw [hat]
      refine g_callV (k1 := 0) (n1 := 0) [.int (nI x)] cw_D_94 cv_D_fiberAt d_D_keepPromise_41 (ad_k rfl (hK.1 0 0 (by decide) (by decide) (sl_0 hZ.2.1))) (hV.kdo (sl_0 hZ1.2.1) (by decide)) rfl rfl ⟨by simp, by simp⟩ (by first | decide | omega) (by first | decide | omega) (by first | decide | omega) (fun _ _ h => h) (s_fiberIn ⟨hV, hZ1.2⟩ hx1) (fun r_ M h_ hfr_ => ?_)
      obtain ⟨rfl, hV⟩ := h_
      refine g_astore d_D_keepPromise_44 (by decide) ?_
      refine g_aload d_D_keepPromise_46 rfl ?_
      refine g_ifnull 63 d_D_keepPromise_48 (by decide) (fun c_48 => ?_) (fun a_48 c_48 => ?_)
      · exact absurd (Eq.trans (Eq.symm (rfl : some (ad S1 4 x) = some _)) c_48) (by simp)
      · skip
        refine g_aload d_D_keepPromise_51 rfl ?_
        refine g_iload_n d_D_keepPromise_53 rfl ?_
        refine g_callV (k1 := 0) (n1 := 0) [.int (v)] cw_D_242 cv_F_giveValue d_D_keepPromise_54 rfl (hV.kdo (sl_4 hZ1.2.1 hx1) (by decide)) rfl rfl ⟨by simp, by simp⟩ (by first | decide | omega) (by first | decide | omega) (by first | decide | omega) (fun _ _ h => h) (v_F_giveValue hV (sl_4 hZ1.2.1 hx1) _) (fun r_ M h_ hfr_ => ?_)
        obtain ⟨rfl, hV⟩ := h_
        have hA2 := (hZ1.2.1.give hZ1.2.2.1 hx1 v hx3).2
        have hZ2 := hZ1.give hx1 v hx3 hV
        have hle2 : nfb P ≤ nfb (p_R_give (foldK v dn P1) x v) := hle
        have hK2 : Kp P S (exS S1 x v none) := Kp.trans hK (Kp.of rfl rfl) hle
        have hi2_0 : x < nfb (p_R_give (foldK v dn P1) x v) := Nat.lt_of_lt_of_le hx0 hle2
        have hV := hZ2.1
        refine g_aload_n d_D_keepPromise_57 rfl ?_
        refine g_aload d_D_keepPromise_58 rfl ?_
        refine g_callV (k1 := 0) (n1 := 0) [va_rf (some (ad S1 4 x))] cw_D_233 cv_D_goOn d_D_keepPromise_60 (ad_r (ad_i (ad_r (ad_k rfl (hK.1 0 0 (by decide) (by decide) (sl_0 hZ.2.1)))))) (hV.kdo (sl_0 hZ2.2.1) (by decide)) rfl rfl ⟨by simp, by simp⟩ (by first | decide | omega) (by first | decide | omega) (by first | decide | omega) (fun _ _ h => h) (s_D_goOn hZ2 hi2_0 hx5 (Or.inr hA2) hq2 (ad_r (ad_i (ad_r rfl)))) (fun r_ M h_ hfr_ => ?_)
        obtain ⟨rfl, S3, hZ3, ha3, hb3⟩ := h_
        have hk3 : Kp (p_R_give (foldK v dn P1) x v) (exS S1 x v none) S3 := Kp.of ha3 hb3
        have hle3 : nfb P ≤ nfb (p_R_wake (p_R_give (foldK v dn P1) x v) x) := hle2
        have hK3 : Kp P S S3 := Kp.trans hK2 hk3 hle2
        have hi3_0 : x < nfb (p_R_wake (p_R_give (foldK v dn P1) x v) x) := Nat.lt_of_lt_of_le hx0 hle3
        have hV := hZ3.1
        refine g_iinc (v := nI (dn.length + 1)) d_D_keepPromise_63 rfl (nI_1 _) (by decide) ?_
        refine g_goto 21 d_D_keepPromise_66 (by decide) ?_
        have hlen : (dn ++ [x]).length = dn.length + 1 := by simp
        rw [← foldK_snoc, upL_upL, upL_s, List.append_assoc] at hZ3
        rw [← hlen]
        exact l_keep hZ hn hst hst1' hl hW hnd hq hE r (dn ++ [x]) S3 M _ (by rw [e, List.append_assoc]; rfl) hZ3 hK3
set_option maxHeartbeats 1000000 in
set_option maxRecDepth 100000 in
theorem s_D_keepPromise {P : Pst} {LL : Lls} {S : Gs} {M : Mm} (hZ : Zt P LL S M) {n : Nat} (hn : n < 4) (hst : ¬ P 51 0 = 0) (v : Int32) (hW : ∀ x, x ∈ LL (1 + n) → x < nfb P ∧ P 5 x = 1 ∧ P 15 x = 5) (hnd : (LL (1 + n)).Nodup) (hq : tn (P 43 0) + (LL (1 + n)).length ≤ 10) : Run m_D_keepPromise ownC 2 0 0 [va_rf (some (ad S 0 0)), va_rf (some (ad S 2 n)), .int v] M (fun r M' => r = some (.int (if P 41 n = 0 then 1 else 0)) ∧ ∃ S', Zt (kpP P LL n v) (kpL P LL n) S' M' ∧ Kp P S S') := by
  have hV := hZ.1
  refine Run.ofG (by decide) (by simp [cat_int, cat_rf]) (Nat.le_of_ble_eq_true rfl) ?_
  refine g_aload_n d_D_keepPromise_0 rfl ?_
  refine v_geti (v := P 41 n) (τ := n) 129 rfl hV (sl_2 hZ.2.1 hn) (by decide) (by decide) fl_D_158 rfl d_D_keepPromise_1 rfl (sp_129 hZ.2.1 hn hst) ?_
  refine g_if_eq 9 d_D_keepPromise_4 (by decide) (fun c_4 => ?_) (fun c_4 => ?_)
  · skip
    refine g_aload_n d_D_keepPromise_9 rfl ?_
    refine g_iconst (v := 1) d_D_keepPromise_10 (by decide) ?_
    refine v_putz (τ := n) 129 rfl hV (sl_2 hZ.2.1 hn) (by decide) (by decide) fl_D_158 (Or.inr (fun r h => by cases h; rfl)) rfl (Or.inr rfl) d_D_keepPromise_11 rfl (fun M hV => ?_)
    have hZ1 := hZ.pl hn (Or.inr (Or.inr (Or.inr ⟨rfl, rfl⟩))) 1 (fun _ => Or.inr rfl) hV
    have hle1 : nfb P ≤ nfb (up P 41 n 1) := (Nat.le_refl _)
    have hK1 : Kp P S (ui S 129 n 1) := Kp.trans (Kp.refl P S) (Kp.of rfl rfl) (Nat.le_refl _)
    have hV := hZ1.1
    refine g_aload_n d_D_keepPromise_14 rfl ?_
    refine g_iload_n d_D_keepPromise_15 rfl ?_
    refine v_puti (τ := n) 130 rfl hV (sl_2 hZ1.2.1 hn) (by decide) (by decide) fl_D_161 (Or.inr (fun r h => by cases h; rfl)) rfl d_D_keepPromise_16 (ad_i rfl) (fun M hV => ?_)
    have hZ2 := hZ1.pl hn (Or.inr (Or.inr (Or.inl ⟨rfl, rfl⟩))) v (fun q => absurd q (by decide)) hV
    have hle2 : nfb P ≤ nfb (up (up P 41 n 1) 38 n v) := hle1
    have hK2 : Kp P S (ui (ui S 129 n 1) 130 n v) := Kp.trans hK1 (Kp.of rfl rfl) hle1
    have hV := hZ2.1
    refine g_iconst (v := 0) d_D_keepPromise_19 (by decide) ?_
    refine g_istore_n d_D_keepPromise_20 (by decide) ?_
    have h0 : Zt (foldK v [] (up (up P 41 n 1) 38 n v)) (upL LL 0 (LL 0 ++ [])) (ui (ui S 129 n 1) 130 n v) M := by rw [List.append_nil, upL_same rfl]; exact hZ2
    unfold kpP kpL
    rw [if_pos c_4, if_pos c_4, if_pos c_4]
    exact l_keep (v := v) (P1 := (up (up P 41 n 1) 38 n v)) hZ hn hst (fun dn => by rw [foldK_f v dn _ (by decide)]; exact hst) rfl hW hnd ⟨rfl, hq⟩ rfl (LL (1 + n)) [] _ M _ rfl h0 hK2
  · skip
    refine g_iconst (v := 0) d_D_keepPromise_7 (by decide) ?_
    exact g_zreturn d_D_keepPromise_8 rfl (Or.inl rfl) ⟨by rw [if_neg c_4], S, by unfold kpP kpL; rw [if_neg c_4, if_neg c_4]; exact hZ, Kp.refl _ _⟩
