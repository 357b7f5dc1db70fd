/-! the class's leaves over the view (by program: wip/tools/gen_v1.py) -/
theorem lv_i {S : Gs} {f τ c t : Nat} {x : Int32} (h : lv S c t = true) : lv (ui S f τ x) c t = true := h
theorem lv_r {S : Gs} {f τ c t : Nat} {x : Option Nat} (h : lv S c t = true) : lv (ur S f τ x) c t = true := h
theorem lv_c {S : Gs} {a c t : Nat} {x : List (Int32 × Int32)} (h : lv S c t = true) : lv (ukc S a x) c t = true := h
theorem lv_l {S : Gs} {a c t : Nat} {x : Option Nat × Int32 × Option Nat} (h : lv S c t = true) : lv (ukl S a x) c t = true := h
theorem ad_i {S : Gs} {f τ c t : Nat} {x : Int32} {o : Option Nat} (h : o = some (ad S c t)) : o = some (ad (ui S f τ x) c t) := h
theorem ad_r {S : Gs} {f τ c t : Nat} {x o : Option Nat} (h : o = some (ad S c t)) : o = some (ad (ur S f τ x) c t) := h
theorem ad_c {S : Gs} {a c t : Nat} {x : List (Int32 × Int32)} {o : Option Nat} (h : o = some (ad S c t)) : o = some (ad (ukc S a x) c t) := h
theorem ad_l {S : Gs} {a c t : Nat} {x : Option Nat × Int32 × Option Nat} {o : Option Nat} (h : o = some (ad S c t)) : o = some (ad (ukl S a x) c t) := h
theorem ad_n {S : Gs} {c τ a d t : Nat} {o : Option Nat} (hn : d ≠ c ∨ t ≠ τ) (h : o = some (ad S d t)) : o = some (ad (un S c τ a) d t) := by
  rw [ad_un, if_neg (fun q => by omega)]
  exact h
theorem vi_un_s {c g : Nat} (h1 : 64 * c ≤ g) (h2 : g < 64 * c + 64) (S : Gs) (τ a : Nat) : vi (un S c τ a) g τ = 0 := by rw [vi_un, if_pos ⟨rfl, h1, h2⟩]
theorem vr_un_s {c g : Nat} (h1 : 64 * c ≤ g) (h2 : g < 64 * c + 64) (S : Gs) (τ a : Nat) : vr (un S c τ a) g τ = none := by rw [vr_un, if_pos ⟨rfl, h1, h2⟩]
set_option maxHeartbeats 4000000 in
set_option maxRecDepth 100000 in
theorem v_F_perform {S : Gs} {M : Mm} (hV : VM S M) {i : Nat} (hl : lv S 4 i = true) (e : Option Nat) (v : Int32) : Run m_F_perform ownC 0 0 0 [va_rf (some (ad S 4 i)), va_rf e, .int v] M (fun r M' => r = none ∧ VM (ui (ur S 258 i e) 259 i v) M') := by
  refine Run.ofG (by decide) (by simp [cat_int, cat_rf]) (Nat.le_of_ble_eq_true rfl) ?_
  refine g_aload_n d_F_perform_0 rfl ?_
  refine g_aload_n d_F_perform_1 rfl ?_
  refine v_putr (τ := i) 258 rfl hV hl (by decide) (by decide) fl_F_9 (Or.inr (fun r h => by cases h; rfl)) rfl d_F_perform_2 rfl (fun M hV => ?_)
  refine g_aload_n d_F_perform_5 rfl ?_
  refine g_iload_n d_F_perform_6 rfl ?_
  refine v_puti (τ := i) 259 rfl hV (lv_r hl) (by decide) (by decide) fl_F_15 (Or.inr (fun r h => by cases h; rfl)) rfl d_F_perform_7 (ad_r rfl) (fun M hV => ?_)
  exact g_return d_F_perform_10 rfl ⟨rfl, hV⟩
set_option maxHeartbeats 4000000 in
set_option maxRecDepth 100000 in
theorem v_F_giveExit {S : Gs} {M : Mm} (hV : VM S M) {i : Nat} (hl : lv S 4 i = true) (v : Int32) (c : Option Nat) : Run m_F_giveExit ownC 0 0 0 [va_rf (some (ad S 4 i)), .int v, va_rf c] M (fun r M' => r = none ∧ VM (ur (ui (ur S 258 i none) 260 i v) 261 i c) M') := by
  refine Run.ofG (by decide) (by simp [cat_int, cat_rf]) (Nat.le_of_ble_eq_true rfl) ?_
  refine g_aload_n d_F_giveExit_0 rfl ?_
  refine g_null d_F_giveExit_1 ?_
  refine v_putr (τ := i) 258 rfl hV hl (by decide) (by decide) fl_F_9 (Or.inr (fun r h => by cases h; rfl)) rfl d_F_giveExit_2 rfl (fun M hV => ?_)
  refine g_aload_n d_F_giveExit_5 rfl ?_
  refine g_iload_n d_F_giveExit_6 rfl ?_
  refine v_puti (τ := i) 260 rfl hV (lv_r hl) (by decide) (by decide) fl_F_19 (Or.inr (fun r h => by cases h; rfl)) rfl d_F_giveExit_7 (ad_r rfl) (fun M hV => ?_)
  refine g_aload_n d_F_giveExit_10 rfl ?_
  refine g_aload_n d_F_giveExit_11 rfl ?_
  refine v_putr (τ := i) 261 rfl hV (lv_i (lv_r hl)) (by decide) (by decide) fl_F_22 (Or.inr (fun r h => by cases h; rfl)) rfl d_F_giveExit_12 (ad_i (ad_r rfl)) (fun M hV => ?_)
  exact g_return d_F_giveExit_15 rfl ⟨rfl, hV⟩
set_option maxHeartbeats 4000000 in
set_option maxRecDepth 100000 in
theorem v_F_giveValue {S : Gs} {M : Mm} (hV : VM S M) {i : Nat} (hl : lv S 4 i = true) (v : Int32) : Run m_F_giveValue ownC 1 0 0 [va_rf (some (ad S 4 i)), .int v] M (fun r M' => r = none ∧ VM (ur (ui (ur S 258 i none) 260 i v) 261 i none) M') := by
  refine Run.ofG (by decide) (by simp [cat_int, cat_rf]) (Nat.le_of_ble_eq_true rfl) ?_
  refine g_aload_n d_F_giveValue_0 rfl ?_
  refine g_iload_n d_F_giveValue_1 rfl ?_
  refine g_null d_F_giveValue_2 ?_
  refine g_callV (k1 := 0) (n1 := 0) [.int (v), va_rf (none)] cw_F_64 cv_F_giveExit d_F_giveValue_3 rfl (hV.kdo hl (by decide)) rfl rfl ⟨by simp, by simp⟩ (by first | decide | omega) (by first | decide | omega) (by first | decide | omega) (fun _ _ h => h) (v_F_giveExit hV hl _ _) (fun r_ M h_ hfr_ => ?_)
  obtain ⟨rfl, hV⟩ := h_
  exact g_return d_F_giveValue_6 rfl ⟨rfl, hV⟩
set_option maxHeartbeats 4000000 in
set_option maxRecDepth 100000 in
theorem v_F_giveCause {S : Gs} {M : Mm} (hV : VM S M) {i : Nat} (hl : lv S 4 i = true) (c : Option Nat) : Run m_F_giveCause ownC 1 0 0 [va_rf (some (ad S 4 i)), va_rf c] M (fun r M' => r = none ∧ VM (ur (ui (ur S 258 i none) 260 i 0) 261 i c) M') := by
  refine Run.ofG (by decide) (by simp [cat_int, cat_rf]) (Nat.le_of_ble_eq_true rfl) ?_
  refine g_aload_n d_F_giveCause_0 rfl ?_
  refine g_iconst (v := 0) d_F_giveCause_1 (by decide) ?_
  refine g_aload_n d_F_giveCause_2 rfl ?_
  refine g_callV (k1 := 0) (n1 := 0) [.int (0), va_rf (c)] cw_F_64 cv_F_giveExit d_F_giveCause_3 rfl (hV.kdo hl (by decide)) rfl rfl ⟨by simp, by simp⟩ (by first | decide | omega) (by first | decide | omega) (by first | decide | omega) (fun _ _ h => h) (v_F_giveExit hV hl _ _) (fun r_ M h_ hfr_ => ?_)
  obtain ⟨rfl, hV⟩ := h_
  exact g_return d_F_giveCause_6 rfl ⟨rfl, hV⟩
set_option maxHeartbeats 4000000 in
set_option maxRecDepth 100000 in
theorem v_F_waitFor {S : Gs} {M : Mm} (hV : VM S M) {i : Nat} (hl : lv S 4 i = true) (w o : Int32) : Run m_F_waitFor ownC 0 0 0 [va_rf (some (ad S 4 i)), .int w, .int o] M (fun r M' => r = none ∧ VM (ui (ui (ur S 258 i none) 269 i w) 270 i o) M') := by
  refine Run.ofG (by decide) (by simp [cat_int, cat_rf]) (Nat.le_of_ble_eq_true rfl) ?_
  refine g_aload_n d_F_waitFor_0 rfl ?_
  refine g_null d_F_waitFor_1 ?_
  refine v_putr (τ := i) 258 rfl hV hl (by decide) (by decide) fl_F_9 (Or.inr (fun r h => by cases h; rfl)) rfl d_F_waitFor_2 rfl (fun M hV => ?_)
  refine g_aload_n d_F_waitFor_5 rfl ?_
  refine g_iload_n d_F_waitFor_6 rfl ?_
  refine v_puti (τ := i) 269 rfl hV (lv_r hl) (by decide) (by decide) fl_F_49 (Or.inr (fun r h => by cases h; rfl)) rfl d_F_waitFor_7 (ad_r rfl) (fun M hV => ?_)
  refine g_aload_n d_F_waitFor_10 rfl ?_
  refine g_iload_n d_F_waitFor_11 rfl ?_
  refine v_puti (τ := i) 270 rfl hV (lv_i (lv_r hl)) (by decide) (by decide) fl_F_52 (Or.inr (fun r h => by cases h; rfl)) rfl d_F_waitFor_12 (ad_i (ad_r rfl)) (fun M hV => ?_)
  exact g_return d_F_waitFor_15 rfl ⟨rfl, hV⟩
set_option maxHeartbeats 4000000 in
set_option maxRecDepth 100000 in
theorem v_F_drop {S : Gs} {M : Mm} (hV : VM S M) {i : Nat} (hl : lv S 4 i = true) {q : Nat} (hq : lv S 5 q = true) : Run m_F_drop ownC 0 0 0 [va_rf (some (ad S 4 i)), va_rf (some (ad S 5 q))] M (fun r M' => r = none ∧ VM (ui (ur S 263 i (vr S 322 q)) 264 i ((vi S 264 i) - 1)) M') := by
  refine Run.ofG (by decide) (by simp [cat_int, cat_rf]) (Nat.le_of_ble_eq_true rfl) ?_
  refine g_aload_n d_F_drop_0 rfl ?_
  refine g_aload_n d_F_drop_1 rfl ?_
  refine v_getr (v := vr S 322 q) (τ := q) 322 rfl hV hq (by decide) (by decide) fl_F_114 rfl d_F_drop_2 rfl rfl ?_
  refine v_putr (τ := i) 263 rfl hV hl (by decide) (by decide) fl_F_30 (Or.inr (fun r h => by cases h; rfl)) rfl d_F_drop_5 rfl (fun M hV => ?_)
  refine g_aload_n d_F_drop_8 rfl ?_
  refine g_dup d_F_drop_9 ?_
  refine v_geti (v := vi S 264 i) (τ := i) 264 rfl hV (lv_r hl) (by decide) (by decide) fl_F_34 rfl d_F_drop_10 (ad_r rfl) (vi_ur _ _ _ _ _ _) ?_
  refine g_iconst (v := 1) d_F_drop_13 (by decide) ?_
  refine g_isub d_F_drop_14 ?_
  refine v_puti (τ := i) 264 rfl hV (lv_r hl) (by decide) (by decide) fl_F_34 (Or.inr (fun r h => by cases h; rfl)) rfl d_F_drop_15 (ad_r rfl) (fun M hV => ?_)
  exact g_return d_F_drop_18 rfl ⟨rfl, hV⟩
set_option maxHeartbeats 4000000 in
set_option maxRecDepth 100000 in
theorem v_F_state {S : Gs} {M : Mm} (hV : VM S M) {i : Nat} (hl : lv S 4 i = true) : Run m_F_state ownC 0 0 0 [va_rf (some (ad S 4 i))] M (fun r M' => r = some (.int (if vi S 262 i = 0 then if vi S 269 i = 0 then 0 else 1 else if (vr S 261 i : Option Nat) = none then 2 else 3)) ∧ VM (S) M') := by
  refine Run.ofG (by decide) (by simp [cat_int, cat_rf]) (Nat.le_of_ble_eq_true rfl) ?_
  refine g_aload_n d_F_state_0 rfl ?_
  refine v_geti (v := vi S 262 i) (τ := i) 262 rfl hV hl (by decide) (by decide) fl_F_26 rfl d_F_state_1 rfl rfl ?_
  refine g_if_eq 20 d_F_state_4 (by decide) (fun c_4 => ?_) (fun c_4 => ?_)
  · skip
    refine g_aload_n d_F_state_20 rfl ?_
    refine v_geti (v := vi S 269 i) (τ := i) 269 rfl hV hl (by decide) (by decide) fl_F_49 rfl d_F_state_21 rfl rfl ?_
    refine g_if_ne 31 d_F_state_24 (by decide) (fun c_24 => ?_) (fun c_24 => ?_)
    · skip
      refine g_iconst (v := 1) d_F_state_31 (by decide) ?_
      exact g_ireturn d_F_state_32 rfl ⟨by rw [if_pos (show vi S 262 i = 0 from c_4), if_neg (show ¬ (vi S 269 i = 0) from c_24)], hV⟩
    · skip
      refine g_iconst (v := 0) d_F_state_27 (by decide) ?_
      refine g_goto 32 d_F_state_28 (by decide) ?_
      exact g_ireturn d_F_state_32 rfl ⟨by rw [if_pos (show vi S 262 i = 0 from c_4), if_pos (show vi S 269 i = 0 from c_24)], hV⟩
  · skip
    refine g_aload_n d_F_state_7 rfl ?_
    refine v_getr (v := vr S 261 i) (τ := i) 261 rfl hV hl (by decide) (by decide) fl_F_22 rfl d_F_state_8 rfl rfl ?_
    refine g_ifnonnull 18 d_F_state_11 (by decide) (fun a_11 c_11 => ?_) (fun c_11 => ?_)
    · skip
      refine g_iconst (v := 3) d_F_state_18 (by decide) ?_
      exact g_ireturn d_F_state_19 rfl ⟨by rw [if_neg (show ¬ (vi S 262 i = 0) from c_4), if_neg (show ¬ ((vr S 261 i : Option Nat) = none) from (by rw [c_11]; simp))], hV⟩
    · skip
      refine g_iconst (v := 2) d_F_state_14 (by decide) ?_
      refine g_goto 19 d_F_state_15 (by decide) ?_
      exact g_ireturn d_F_state_19 rfl ⟨by rw [if_neg (show ¬ (vi S 262 i = 0) from c_4), if_pos (show (vr S 261 i : Option Nat) = none from c_11)], hV⟩
set_option maxHeartbeats 4000000 in
set_option maxRecDepth 100000 in
theorem v_L_clear {S : Gs} {M : Mm} (hV : VM S M) {t : Nat} (hl : lv S 1 t = true) : Run m_L_clear ownC 0 0 0 [va_rf (some (ad S 1 t))] M (fun r M' => r = none ∧ VM (ui S 65 t 0) M') := by
  refine Run.ofG (by decide) (by simp [cat_int, cat_rf]) (Nat.le_of_ble_eq_true rfl) ?_
  refine g_aload_n d_L_clear_0 rfl ?_
  refine g_iconst (v := 0) d_L_clear_1 (by decide) ?_
  refine v_puti (τ := t) 65 rfl hV hl (by decide) (by decide) fl_L_15 (Or.inr (fun r h => by cases h; rfl)) rfl d_L_clear_2 rfl (fun M hV => ?_)
  exact g_return d_L_clear_5 rfl ⟨rfl, hV⟩
set_option maxHeartbeats 4000000 in
set_option maxRecDepth 100000 in
theorem v_F_init {S : Gs} {M : Mm} (hV : VM S M) {i : Nat} (hl : lv S 4 i = true) (x p : Int32) : Run m_F_init ownC 1 0 0 [va_rf (some (ad S 4 i)), .int x, .int p] M (fun r M' => r = none ∧ VM (ui (ui (ui (ui (ui (ui (ui (ui (ui (ui (ur (ui (ur (ui (ui (ur S 258 i none) 259 i 0) 260 i 0) 261 i none) 262 i 0) 263 i none) 264 i 0) 265 i 0) 266 i 0) 267 i (-1)) 268 i 0) 269 i 0) 270 i (-1)) 271 i 0) 256 i x) 257 i p) M') := by
  refine Run.ofG (by decide) (by simp [cat_int, cat_rf]) (Nat.le_of_ble_eq_true rfl) ?_
  refine g_aload_n d_F_init_0 rfl ?_
  refine g_objInit ob_F_3 d_F_init_1 rfl ⟨by simp, by simp⟩ (by decide) ?_
  refine g_aload_n d_F_init_4 rfl ?_
  refine g_null d_F_init_5 ?_
  refine v_putr (τ := i) 258 rfl hV hl (by decide) (by decide) fl_F_9 (Or.inr (fun r h => by cases h; rfl)) rfl d_F_init_6 rfl (fun M hV => ?_)
  refine g_aload_n d_F_init_9 rfl ?_
  refine g_iconst (v := 0) d_F_init_10 (by decide) ?_
  refine v_puti (τ := i) 259 rfl hV (lv_r hl) (by decide) (by decide) fl_F_15 (Or.inr (fun r h => by cases h; rfl)) rfl d_F_init_11 (ad_r rfl) (fun M hV => ?_)
  refine g_aload_n d_F_init_14 rfl ?_
  refine g_iconst (v := 0) d_F_init_15 (by decide) ?_
  refine v_puti (τ := i) 260 rfl hV (lv_i (lv_r hl)) (by decide) (by decide) fl_F_19 (Or.inr (fun r h => by cases h; rfl)) rfl d_F_init_16 (ad_i (ad_r rfl)) (fun M hV => ?_)
  refine g_aload_n d_F_init_19 rfl ?_
  refine g_null d_F_init_20 ?_
  refine v_putr (τ := i) 261 rfl hV (lv_i (lv_i (lv_r hl))) (by decide) (by decide) fl_F_22 (Or.inr (fun r h => by cases h; rfl)) rfl d_F_init_21 (ad_i (ad_i (ad_r rfl))) (fun M hV => ?_)
  refine g_aload_n d_F_init_24 rfl ?_
  refine g_iconst (v := 0) d_F_init_25 (by decide) ?_
  refine v_putz (τ := i) 262 rfl hV (lv_r (lv_i (lv_i (lv_r hl)))) (by decide) (by decide) fl_F_26 (Or.inr (fun r h => by cases h; rfl)) rfl (Or.inl rfl) d_F_init_26 (ad_r (ad_i (ad_i (ad_r rfl)))) (fun M hV => ?_)
  refine g_aload_n d_F_init_29 rfl ?_
  refine g_null d_F_init_30 ?_
  refine v_putr (τ := i) 263 rfl hV (lv_i (lv_r (lv_i (lv_i (lv_r hl))))) (by decide) (by decide) fl_F_30 (Or.inr (fun r h => by cases h; rfl)) rfl d_F_init_31 (ad_i (ad_r (ad_i (ad_i (ad_r rfl))))) (fun M hV => ?_)
  refine g_aload_n d_F_init_34 rfl ?_
  refine g_iconst (v := 0) d_F_init_35 (by decide) ?_
  refine v_puti (τ := i) 264 rfl hV (lv_r (lv_i (lv_r (lv_i (lv_i (lv_r hl)))))) (by decide) (by decide) fl_F_34 (Or.inr (fun r h => by cases h; rfl)) rfl d_F_init_36 (ad_r (ad_i (ad_r (ad_i (ad_i (ad_r rfl)))))) (fun M hV => ?_)
  refine g_aload_n d_F_init_39 rfl ?_
  refine g_iconst (v := 0) d_F_init_40 (by decide) ?_
  refine v_putz (τ := i) 265 rfl hV (lv_i (lv_r (lv_i (lv_r (lv_i (lv_i (lv_r hl))))))) (by decide) (by decide) fl_F_37 (Or.inr (fun r h => by cases h; rfl)) rfl (Or.inl rfl) d_F_init_41 (ad_i (ad_r (ad_i (ad_r (ad_i (ad_i (ad_r rfl))))))) (fun M hV => ?_)
  refine g_aload_n d_F_init_44 rfl ?_
  refine g_iconst (v := 0) d_F_init_45 (by decide) ?_
  refine v_puti (τ := i) 266 rfl hV (lv_i (lv_i (lv_r (lv_i (lv_r (lv_i (lv_i (lv_r hl)))))))) (by decide) (by decide) fl_F_40 (Or.inr (fun r h => by cases h; rfl)) rfl d_F_init_46 (ad_i (ad_i (ad_r (ad_i (ad_r (ad_i (ad_i (ad_r rfl)))))))) (fun M hV => ?_)
  refine g_aload_n d_F_init_49 rfl ?_
  refine g_iconst (v := -1) d_F_init_50 (by decide) ?_
  refine v_puti (τ := i) 267 rfl hV (lv_i (lv_i (lv_i (lv_r (lv_i (lv_r (lv_i (lv_i (lv_r hl))))))))) (by decide) (by decide) fl_F_43 (Or.inr (fun r h => by cases h; rfl)) rfl d_F_init_51 (ad_i (ad_i (ad_i (ad_r (ad_i (ad_r (ad_i (ad_i (ad_r rfl))))))))) (fun M hV => ?_)
  refine g_aload_n d_F_init_54 rfl ?_
  refine g_iconst (v := 0) d_F_init_55 (by decide) ?_
  refine v_puti (τ := i) 268 rfl hV (lv_i (lv_i (lv_i (lv_i (lv_r (lv_i (lv_r (lv_i (lv_i (lv_r hl)))))))))) (by decide) (by decide) fl_F_46 (Or.inr (fun r h => by cases h; rfl)) rfl d_F_init_56 (ad_i (ad_i (ad_i (ad_i (ad_r (ad_i (ad_r (ad_i (ad_i (ad_r rfl)))))))))) (fun M hV => ?_)
  refine g_aload_n d_F_init_59 rfl ?_
  refine g_iconst (v := 0) d_F_init_60 (by decide) ?_
  refine v_puti (τ := i) 269 rfl hV (lv_i (lv_i (lv_i (lv_i (lv_i (lv_r (lv_i (lv_r (lv_i (lv_i (lv_r hl))))))))))) (by decide) (by decide) fl_F_49 (Or.inr (fun r h => by cases h; rfl)) rfl d_F_init_61 (ad_i (ad_i (ad_i (ad_i (ad_i (ad_r (ad_i (ad_r (ad_i (ad_i (ad_r rfl))))))))))) (fun M hV => ?_)
  refine g_aload_n d_F_init_64 rfl ?_
  refine g_iconst (v := -1) d_F_init_65 (by decide) ?_
  refine v_puti (τ := i) 270 rfl hV (lv_i (lv_i (lv_i (lv_i (lv_i (lv_i (lv_r (lv_i (lv_r (lv_i (lv_i (lv_r hl)))))))))))) (by decide) (by decide) fl_F_52 (Or.inr (fun r h => by cases h; rfl)) rfl d_F_init_66 (ad_i (ad_i (ad_i (ad_i (ad_i (ad_i (ad_r (ad_i (ad_r (ad_i (ad_i (ad_r rfl)))))))))))) (fun M hV => ?_)
  refine g_aload_n d_F_init_69 rfl ?_
  refine g_iconst (v := 0) d_F_init_70 (by decide) ?_
  refine v_puti (τ := i) 271 rfl hV (lv_i (lv_i (lv_i (lv_i (lv_i (lv_i (lv_i (lv_r (lv_i (lv_r (lv_i (lv_i (lv_r hl))))))))))))) (by decide) (by decide) fl_F_55 (Or.inr (fun r h => by cases h; rfl)) rfl d_F_init_71 (ad_i (ad_i (ad_i (ad_i (ad_i (ad_i (ad_i (ad_r (ad_i (ad_r (ad_i (ad_i (ad_r rfl))))))))))))) (fun M hV => ?_)
  refine g_aload_n d_F_init_74 rfl ?_
  refine g_iload_n d_F_init_75 rfl ?_
  refine v_puti (τ := i) 256 rfl hV (lv_i (lv_i (lv_i (lv_i (lv_i (lv_i (lv_i (lv_i (lv_r (lv_i (lv_r (lv_i (lv_i (lv_r hl)))))))))))))) (by decide) (by decide) fl_F_58 (Or.inl ⟨rfl, fun r h => by cases h; rfl⟩) rfl d_F_init_76 (ad_i (ad_i (ad_i (ad_i (ad_i (ad_i (ad_i (ad_i (ad_r (ad_i (ad_r (ad_i (ad_i (ad_r rfl)))))))))))))) (fun M hV => ?_)
  refine g_aload_n d_F_init_79 rfl ?_
  refine g_iload_n d_F_init_80 rfl ?_
  refine v_puti (τ := i) 257 rfl hV (lv_i (lv_i (lv_i (lv_i (lv_i (lv_i (lv_i (lv_i (lv_i (lv_r (lv_i (lv_r (lv_i (lv_i (lv_r hl))))))))))))))) (by decide) (by decide) fl_F_61 (Or.inl ⟨rfl, fun r h => by cases h; rfl⟩) rfl d_F_init_81 (ad_i (ad_i (ad_i (ad_i (ad_i (ad_i (ad_i (ad_i (ad_i (ad_r (ad_i (ad_r (ad_i (ad_i (ad_r rfl))))))))))))))) (fun M hV => ?_)
  exact g_return d_F_init_84 rfl ⟨rfl, hV⟩
set_option maxHeartbeats 4000000 in
set_option maxRecDepth 100000 in
theorem v_Q_init {S : Gs} {M : Mm} (hV : VM S M) {q : Nat} (hq : lv S 5 q = true) (e : Option Nat) (b : Int32) (hb : b = 0 ∨ b = 1) (z : Option Nat) : Run m_Q_init ownC 1 0 0 [va_rf (some (ad S 5 q)), va_rf e, .int b, va_rf z] M (fun r M' => r = none ∧ VM (ur (ui (ur (ur (ui (ui (ui (ur S 323 q none) 324 q 0) 325 q 0) 326 q 0) 327 q none) 320 q e) 321 q b) 322 q z) M') := by
  refine Run.ofG (by decide) (by simp [cat_int, cat_rf]) (Nat.le_of_ble_eq_true rfl) ?_
  refine g_aload_n d_Q_init_0 rfl ?_
  refine g_objInit ob_Q_1 d_Q_init_1 rfl ⟨by simp, by simp⟩ (by decide) ?_
  refine g_aload_n d_Q_init_4 rfl ?_
  refine g_null d_Q_init_5 ?_
  refine v_putr (τ := q) 323 rfl hV hq (by decide) (by decide) fl_Q_7 (Or.inr (fun r h => by cases h; rfl)) rfl d_Q_init_6 rfl (fun M hV => ?_)
  refine g_aload_n d_Q_init_9 rfl ?_
  refine g_iconst (v := 0) d_Q_init_10 (by decide) ?_
  refine v_puti (τ := q) 324 rfl hV (lv_r hq) (by decide) (by decide) fl_Q_13 (Or.inr (fun r h => by cases h; rfl)) rfl d_Q_init_11 (ad_r rfl) (fun M hV => ?_)
  refine g_aload_n d_Q_init_14 rfl ?_
  refine g_iconst (v := 0) d_Q_init_15 (by decide) ?_
  refine v_putz (τ := q) 325 rfl hV (lv_i (lv_r hq)) (by decide) (by decide) fl_Q_17 (Or.inr (fun r h => by cases h; rfl)) rfl (Or.inl rfl) d_Q_init_16 (ad_i (ad_r rfl)) (fun M hV => ?_)
  refine g_aload_n d_Q_init_19 rfl ?_
  refine g_iconst (v := 0) d_Q_init_20 (by decide) ?_
  refine v_puti (τ := q) 326 rfl hV (lv_i (lv_i (lv_r hq))) (by decide) (by decide) fl_Q_21 (Or.inr (fun r h => by cases h; rfl)) rfl d_Q_init_21 (ad_i (ad_i (ad_r rfl))) (fun M hV => ?_)
  refine g_aload_n d_Q_init_24 rfl ?_
  refine g_null d_Q_init_25 ?_
  refine v_putr (τ := q) 327 rfl hV (lv_i (lv_i (lv_i (lv_r hq)))) (by decide) (by decide) fl_Q_24 (Or.inr (fun r h => by cases h; rfl)) rfl d_Q_init_26 (ad_i (ad_i (ad_i (ad_r rfl)))) (fun M hV => ?_)
  refine g_aload_n d_Q_init_29 rfl ?_
  refine g_aload_n d_Q_init_30 rfl ?_
  refine v_putr (τ := q) 320 rfl hV (lv_r (lv_i (lv_i (lv_i (lv_r hq))))) (by decide) (by decide) fl_Q_28 (Or.inl ⟨rfl, fun r h => by cases h; rfl⟩) rfl d_Q_init_31 (ad_r (ad_i (ad_i (ad_i (ad_r rfl))))) (fun M hV => ?_)
  refine g_aload_n d_Q_init_34 rfl ?_
  refine g_iload_n d_Q_init_35 rfl ?_
  refine v_putz (τ := q) 321 rfl hV (lv_r (lv_r (lv_i (lv_i (lv_i (lv_r hq)))))) (by decide) (by decide) fl_Q_32 (Or.inl ⟨rfl, fun r h => by cases h; rfl⟩) rfl hb d_Q_init_36 (ad_r (ad_r (ad_i (ad_i (ad_i (ad_r rfl)))))) (fun M hV => ?_)
  refine g_aload_n d_Q_init_39 rfl ?_
  refine g_aload_n d_Q_init_40 rfl ?_
  refine v_putr (τ := q) 322 rfl hV (lv_i (lv_r (lv_r (lv_i (lv_i (lv_i (lv_r hq))))))) (by decide) (by decide) fl_Q_35 (Or.inl ⟨rfl, fun r h => by cases h; rfl⟩) rfl d_Q_init_41 (ad_i (ad_r (ad_r (ad_i (ad_i (ad_i (ad_r rfl))))))) (fun M hV => ?_)
  exact g_return d_Q_init_44 rfl ⟨rfl, hV⟩
set_option maxHeartbeats 4000000 in
set_option maxRecDepth 100000 in
theorem v_E_init {S : Gs} {M : Mm} (hV : VM S M) {e : Nat} (hl : lv S 3 e = true) (a b : Int32) (x y z : Option Nat) : Run m_E_init ownC 1 0 0 [va_rf (some (ad S 3 e)), .int a, .int b, va_rf x, va_rf y, va_rf z] M (fun r M' => r = none ∧ VM (ur (ur (ur (ui (ui S 192 e a) 193 e b) 194 e x) 195 e y) 196 e z) M') := by
  refine Run.ofG (by decide) (by simp [cat_int, cat_rf]) (Nat.le_of_ble_eq_true rfl) ?_
  refine g_aload_n d_E_init_0 rfl ?_
  refine g_objInit ob_E_1 d_E_init_1 rfl ⟨by simp, by simp⟩ (by decide) ?_
  refine g_aload_n d_E_init_4 rfl ?_
  refine g_iload_n d_E_init_5 rfl ?_
  refine v_puti (τ := e) 192 rfl hV hl (by decide) (by decide) fl_E_7 (Or.inl ⟨rfl, fun r h => by cases h; rfl⟩) rfl d_E_init_6 rfl (fun M hV => ?_)
  refine g_aload_n d_E_init_9 rfl ?_
  refine g_iload_n d_E_init_10 rfl ?_
  refine v_puti (τ := e) 193 rfl hV (lv_i hl) (by decide) (by decide) fl_E_13 (Or.inl ⟨rfl, fun r h => by cases h; rfl⟩) rfl d_E_init_11 (ad_i rfl) (fun M hV => ?_)
  refine g_aload_n d_E_init_14 rfl ?_
  refine g_aload_n d_E_init_15 rfl ?_
  refine v_putr (τ := e) 194 rfl hV (lv_i (lv_i hl)) (by decide) (by decide) fl_E_16 (Or.inl ⟨rfl, fun r h => by cases h; rfl⟩) rfl d_E_init_16 (ad_i (ad_i rfl)) (fun M hV => ?_)
  refine g_aload_n d_E_init_19 rfl ?_
  refine g_aload d_E_init_20 rfl ?_
  refine v_putr (τ := e) 195 rfl hV (lv_r (lv_i (lv_i hl))) (by decide) (by decide) fl_E_20 (Or.inl ⟨rfl, fun r h => by cases h; rfl⟩) rfl d_E_init_22 (ad_r (ad_i (ad_i rfl))) (fun M hV => ?_)
  refine g_aload_n d_E_init_25 rfl ?_
  refine g_aload d_E_init_26 rfl ?_
  refine v_putr (τ := e) 196 rfl hV (lv_r (lv_r (lv_i (lv_i hl)))) (by decide) (by decide) fl_E_23 (Or.inl ⟨rfl, fun r h => by cases h; rfl⟩) rfl d_E_init_28 (ad_r (ad_r (ad_i (ad_i rfl)))) (fun M hV => ?_)
  exact g_return d_E_init_31 rfl ⟨rfl, hV⟩
