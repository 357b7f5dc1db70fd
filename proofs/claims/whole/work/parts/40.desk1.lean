/-! the desk's small methods (by program: wip/tools/gen_s1.py) -/
def fbAt (P : Pst) (S : Gs) (x : Int32) : Option Nat := if x < 0 then none else if P 42 0 ≤ x then none else some (ad S 4 (tn x))
def plAt (S : Gs) (x : Int32) : Option Nat := if x < 0 then none else if 4 ≤ x then none else some (ad S 2 (tn x))
def efAt (P : Pst) (S : Gs) (x : Int32) : Option Nat := if x < 0 then none else if P 4 0 ≤ x then none else some (ad S 3 (tn x))
theorem Sim.add {P : Pst} {LL : Lls} {S : Gs} (h : Sim P LL S) (hw : WB P) {t : Nat} (ht : t < 9) (hl : (LL t).length < 10) (x : Nat) : Sim P (upL LL t (LL t ++ [x])) (ui (ui S (1280 + (LL t).length) t (nI x)) 65 t (nI (LL t).length + 1)) :=
  h.line hw (I := vi (ui (ui S (1280 + (LL t).length) t (nI x)) 65 t (nI (LL t).length + 1))) (Ln.add (h.2.2.1 t ht) hl x) (((Ag.refl _ _).up ⟨rfl, Or.inr ⟨by omega, by omega⟩⟩ _).up ⟨rfl, Or.inl rfl⟩ _)
set_option maxHeartbeats 4000000 in
set_option maxRecDepth 100000 in
theorem s_D_fiberAt {P : Pst} {LL : Lls} {S : Gs} {M : Mm} (hZ : Zt P LL S M) (x : Int32) : Run m_D_fiberAt ownC 0 0 0 [va_rf (some (ad S 0 0)), .int x] M (fun r M' => r = some (va_rf (fbAt P S x)) ∧ VM S M') := by
  have hV := hZ.1
  refine Run.ofG (by decide) (by simp [cat_int, cat_rf]) (Nat.le_of_ble_eq_true rfl) ?_
  refine g_iload_n d_D_fiberAt_0 rfl ?_
  refine g_if_lt 21 d_D_fiberAt_1 (by decide) (fun c_1 => ?_) (fun c_1 => ?_)
  · skip
    refine g_null d_D_fiberAt_21 ?_
    exact g_areturn d_D_fiberAt_22 rfl ⟨by unfold fbAt; rw [if_pos (show x < 0 from c_1)], hZ.1⟩
  · have hx_ : x = nI (tn x) := tn_of c_1
    refine g_iload_n d_D_fiberAt_4 rfl ?_
    refine g_aload_n d_D_fiberAt_5 rfl ?_
    refine v_geti (v := P 42 0) (τ := 0) 3 rfl hV (sl_0 hZ.2.1) (by decide) (by decide) fl_D_25 rfl d_D_fiberAt_6 rfl (sd_3 hZ.2.1) ?_
    refine g_icmp_ge 21 d_D_fiberAt_9 (by decide) (fun c_9 => ?_) (fun c_9 => ?_)
    · skip
      refine g_null d_D_fiberAt_21 ?_
      exact g_areturn d_D_fiberAt_22 rfl ⟨by unfold fbAt; rw [if_neg (show ¬ (x < 0) from c_1), if_pos (show P 42 0 ≤ x from c_9)], hZ.1⟩
    · have hb_ : tn x < nfb P := ix_lt_of hx_ (nf_nI hZ.2.2.1) (by have := n10 hZ.2.2.1; omega) c_9; have h10_ := n10 hZ.2.2.1
      refine g_aload_n d_D_fiberAt_12 rfl ?_
      refine v_getr (v := some (ad S 23 0)) (τ := 0) 2 rfl hV (sl_0 hZ.2.1) (by decide) (by decide) fl_D_21 rfl d_D_fiberAt_13 rfl (sd_2 hZ.2.1) ?_
      refine g_iload_n d_D_fiberAt_16 rfl ?_
      refine v_aald (v := some (ad S 4 (tn x))) (j := (tn x)) (τ := 0) (1472 + (tn x)) rfl hV (sl_23 hZ.2.1) (by decide) d_D_fiberAt_17 rfl hx_ (by show _ < _; simp [ck]; omega) (sf_at hZ.2.1 hb_) ?_
      refine g_goto 22 d_D_fiberAt_18 (by decide) ?_
      exact g_areturn d_D_fiberAt_22 rfl ⟨by unfold fbAt; rw [if_neg (show ¬ (x < 0) from c_1), if_neg (show ¬ (P 42 0 ≤ x) from c_9)], hZ.1⟩
set_option maxHeartbeats 4000000 in
set_option maxRecDepth 100000 in
theorem s_D_placeAt {P : Pst} {LL : Lls} {S : Gs} {M : Mm} (hZ : Zt P LL S M) (x : Int32) : Run m_D_placeAt ownC 0 0 0 [va_rf (some (ad S 0 0)), .int x] M (fun r M' => r = some (va_rf (plAt S x)) ∧ VM S M') := by
  have hV := hZ.1
  refine Run.ofG (by decide) (by simp [cat_int, cat_rf]) (Nat.le_of_ble_eq_true rfl) ?_
  refine g_iload_n d_D_placeAt_0 rfl ?_
  refine g_if_lt 18 d_D_placeAt_1 (by decide) (fun c_1 => ?_) (fun c_1 => ?_)
  · skip
    refine g_null d_D_placeAt_18 ?_
    exact g_areturn d_D_placeAt_19 rfl ⟨by unfold plAt; rw [if_pos (show x < 0 from c_1)], hZ.1⟩
  · have hx_ : x = nI (tn x) := tn_of c_1
    refine g_iload_n d_D_placeAt_4 rfl ?_
    refine g_iconst (v := 4) d_D_placeAt_5 (by decide) ?_
    refine g_icmp_ge 18 d_D_placeAt_6 (by decide) (fun c_6 => ?_) (fun c_6 => ?_)
    · skip
      refine g_null d_D_placeAt_18 ?_
      exact g_areturn d_D_placeAt_19 rfl ⟨by unfold plAt; rw [if_neg (show ¬ (x < 0) from c_1), if_pos (show 4 ≤ x from c_6)], hZ.1⟩
    · have hb_ : tn x < 4 := ix_lt_of (b := 4) hx_ rfl (by decide) c_6
      refine g_aload_n d_D_placeAt_9 rfl ?_
      refine v_getr (v := some (ad S 24 0)) (τ := 0) 5 rfl hV (sl_0 hZ.2.1) (by decide) (by decide) fl_D_37 rfl d_D_placeAt_10 rfl (sd_5 hZ.2.1) ?_
      refine g_iload_n d_D_placeAt_13 rfl ?_
      refine v_aald (v := some (ad S 2 (tn x))) (j := (tn x)) (τ := 0) (1536 + (tn x)) rfl hV (sl_24 hZ.2.1) (by decide) d_D_placeAt_14 rfl hx_ (by show _ < _; simp [ck]; omega) (sp_at hZ.2.1 hb_) ?_
      refine g_goto 19 d_D_placeAt_15 (by decide) ?_
      exact g_areturn d_D_placeAt_19 rfl ⟨by unfold plAt; rw [if_neg (show ¬ (x < 0) from c_1), if_neg (show ¬ (4 ≤ x) from c_6)], hZ.1⟩
set_option maxHeartbeats 4000000 in
set_option maxRecDepth 100000 in
theorem s_D_effectAt {P : Pst} {LL : Lls} {S : Gs} {M : Mm} (hZ : Zt P LL S M) (x : Int32) : Run m_D_effectAt ownC 0 0 0 [va_rf (some (ad S 0 0)), .int x] M (fun r M' => r = some (va_rf (efAt P S x)) ∧ VM S M') := by
  have hV := hZ.1
  refine Run.ofG (by decide) (by simp [cat_int, cat_rf]) (Nat.le_of_ble_eq_true rfl) ?_
  refine g_iload_n d_D_effectAt_0 rfl ?_
  refine g_if_lt 21 d_D_effectAt_1 (by decide) (fun c_1 => ?_) (fun c_1 => ?_)
  · skip
    refine g_null d_D_effectAt_21 ?_
    exact g_areturn d_D_effectAt_22 rfl ⟨by unfold efAt; rw [if_pos (show x < 0 from c_1)], hZ.1⟩
  · have hx_ : x = nI (tn x) := tn_of c_1
    refine g_iload_n d_D_effectAt_4 rfl ?_
    refine g_aload_n d_D_effectAt_5 rfl ?_
    refine v_geti (v := P 4 0) (τ := 0) 1 rfl hV (sl_0 hZ.2.1) (by decide) (by decide) fl_D_15 rfl d_D_effectAt_6 rfl (sd_1 hZ.2.1) ?_
    refine g_icmp_ge 21 d_D_effectAt_9 (by decide) (fun c_9 => ?_) (fun c_9 => ?_)
    · skip
      refine g_null d_D_effectAt_21 ?_
      exact g_areturn d_D_effectAt_22 rfl ⟨by unfold efAt; rw [if_neg (show ¬ (x < 0) from c_1), if_pos (show P 4 0 ≤ x from c_9)], hZ.1⟩
    · have hn40_ : nef P ≤ 40 := (hZ.2.2.1 4 0).2; have hb0_ : tn x < nef P := ix_lt_of hx_ (hZ.2.2.1 4 0).1 (by show nef P < _; omega) c_9; have hb_ := (hZ.2.1.2.2.2.1 (tn x)).1.mp hb0_
      refine g_aload_n d_D_effectAt_12 rfl ?_
      refine v_getr (v := some (ad S 22 0)) (τ := 0) 0 rfl hV (sl_0 hZ.2.1) (by decide) (by decide) fl_D_11 rfl d_D_effectAt_13 rfl (sd_0 hZ.2.1) ?_
      refine g_iload_n d_D_effectAt_16 rfl ?_
      refine v_aald (v := some (ad S 3 (tn x))) (j := (tn x)) (τ := 0) (1408 + (tn x)) rfl hV (sl_22 hZ.2.1) (by decide) d_D_effectAt_17 rfl hx_ (by show _ < _; simp [ck]; omega) (se_at hZ.2.1 hb_) ?_
      refine g_goto 22 d_D_effectAt_18 (by decide) ?_
      exact g_areturn d_D_effectAt_22 rfl ⟨by unfold efAt; rw [if_neg (show ¬ (x < 0) from c_1), if_neg (show ¬ (P 4 0 ≤ x) from c_9)], hZ.1⟩
set_option maxHeartbeats 4000000 in
set_option maxRecDepth 100000 in
theorem s_D_goOn {P : Pst} {LL : Lls} {S : Gs} {M : Mm} (hZ : Zt P LL S M) {i : Nat} (hi : i < nfb P) (h5 : P 5 i = 1) (hA : (P 6 i = 1 ∧ P 10 i = 0) ∨ ActR P S i) (hq : tn (P 43 0) < 10) {o : Option Nat} (ho : o = some (ad S 4 i)) : Run m_D_goOn ownC 1 0 0 [va_rf (some (ad S 0 0)), va_rf o] M (fun r M' => r = none ∧ ∃ S', Zt (p_R_wake P i) (upL LL 0 (LL 0 ++ [i])) S' M' ∧ ad S' = ad S ∧ lv S' = lv S) := by
  subst ho
  have hV := hZ.1
  refine Run.ofG (by decide) (by simp [cat_int, cat_rf]) (Nat.le_of_ble_eq_true rfl) ?_
  refine g_aload_n d_D_goOn_0 rfl ?_
  refine g_iconst (v := 0) d_D_goOn_1 (by decide) ?_
  refine v_puti (τ := i) 269 rfl hV (sl_4 hZ.2.1 hi) (by decide) (by decide) fl_D_133 (Or.inr (fun r h => by cases h; rfl)) rfl d_D_goOn_2 rfl (fun M hV => ?_)
  refine g_aload_n d_D_goOn_5 rfl ?_
  refine v_getr (v := some (ad S 1 0)) (τ := 0) 4 rfl hV (lv_i (sl_0 hZ.2.1)) (by decide) (by decide) fl_D_31 rfl d_D_goOn_6 (ad_i rfl) ((vr_ui _ _ _ _ _ _).trans (sd_4 hZ.2.1)) ?_
  refine g_aload_n d_D_goOn_9 rfl ?_
  refine v_geti (v := nI i) (τ := i) 256 rfl hV (lv_i (sl_4 hZ.2.1 hi)) (by decide) (by decide) fl_D_173 rfl d_D_goOn_10 (ad_i rfl) ((vi_ui_f (by decide) _ _ _ _).trans (sf_256 hZ.2.1 hi)) ?_
  refine g_callV (k1 := 0) (n1 := 0) [.int (nI i)] cw_D_226 cv_L_add d_D_goOn_13 (ad_i rfl) (hV.kdo (lv_i (sl_1 hZ.2.1 (by decide))) (by decide)) rfl rfl ⟨by simp, by simp⟩ (by first | decide | omega) (by first | decide | omega) (by first | decide | omega) (fun _ _ h => h) (v_L_add (S := ui S 269 i 0) (t := 0) (l := LL 0) hV ((hZ.2.1.wake hZ.2.2.1 hi h5 hA).2.2.1 0 (by decide)) (by decide) (by rw [← hZ.2.2.2]; exact hq) i) (fun r_ M h_ hfr_ => ?_)
  obtain ⟨rfl, hV⟩ := h_
  refine g_return d_D_goOn_16 rfl ⟨rfl, _, ⟨hV, ?_, wb_wake hZ.2.2.1 (by have := n10 hZ.2.2.1; omega) hq, ?_⟩, rfl, rfl⟩
  · exact (hZ.2.1.wake hZ.2.2.1 hi h5 hA).add (wb_wake hZ.2.2.1 (by have := n10 hZ.2.2.1; omega) hq) (by decide) (by rw [← hZ.2.2.2]; exact hq) i
  · rw [upL_s, List.length_append, show p_R_wake P i 43 0 = P 43 0 + 1 by simp [p_R_wake, up_e], tn_inc (hZ.2.2.1 43 0).1 (by omega), hZ.2.2.2]; rfl
