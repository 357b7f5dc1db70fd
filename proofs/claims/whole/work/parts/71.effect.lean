/-! writing an effect down (by program: wip/tools/gen_s28.py) -/
def efP (P : Pst) (k a b c : Int32) : Pst := up (up (up (up (up P 0 (tn (P 4 0)) k) 1 (tn (P 4 0)) a) 2 (tn (P 4 0)) b) 3 (tn (P 4 0)) c) 4 0 (P 4 0 + 1)
def efS (S : Gs) (m q : Nat) (k a : Int32) (x y z o : Option Nat) (n : Int32) : Gs := ui (ur (ur (ur (ur (ui (ui (un S 3 m q) 192 m k) 193 m a) 194 m x) 195 m y) 196 m z) (1408 + m) 0 o) 1 0 n
theorem efP_o (P : Pst) (k a b c : Int32) {f j : Nat} (h : ¬ (f < 4 ∧ j = nef P) ∧ ¬ (f = 4 ∧ j = 0)) : efP P k a b c f j = P f j := by
  have h1 : ¬ (f < 4 ∧ j = tn (P 4 0)) := h.1
  unfold efP
  rw [up_e, if_neg h.2, up_e, if_neg (by omega), up_e, if_neg (by omega), up_e, if_neg (by omega), up_e, if_neg (by omega)]
theorem efP_f (P : Pst) (k a b c : Int32) : efP P k a b c 0 (nef P) = k ∧ efP P k a b c 1 (nef P) = a ∧ efP P k a b c 2 (nef P) = b ∧ efP P k a b c 3 (nef P) = c ∧ efP P k a b c 4 0 = P 4 0 + 1 := by
  refine ⟨?_, ?_, ?_, ?_, ?_⟩ <;> simp [efP, up_e, nef]
theorem efS_ad (S : Gs) (m q : Nat) (k a : Int32) (x y z o : Option Nat) (n : Int32) (c t : Nat) : ad (efS S m q k a x y z o n) c t = if c = 3 ∧ t = m then q else ad S c t := rfl
theorem efS_lv (S : Gs) (m q : Nat) (k a : Int32) (x y z o : Option Nat) (n : Int32) (c t : Nat) : lv (efS S m q k a x y z o n) c t = if c = 3 ∧ t = m then true else lv S c t := rfl
theorem efS_o (S : Gs) (m q : Nat) (k a : Int32) (x y z o : Option Nat) (n : Int32) {f t : Nat} (h : ¬ (192 ≤ f ∧ f < 256 ∧ t = m) ∧ ¬ (t = 0 ∧ (f = 1 ∨ f = 1408 + m))) : vi (efS S m q k a x y z o n) f t = vi S f t ∧ vr (efS S m q k a x y z o n) f t = vr S f t := by
  constructor
  · simp only [efS, vi_ui_e, vi_ur, vi_un]
    rw [if_neg (by omega), if_neg (by omega), if_neg (by omega), if_neg (by omega)]
  · simp only [efS, vr_ui, vr_ur, vr_un]
    rw [if_neg (by omega), if_neg (by omega), if_neg (by omega), if_neg (by omega), if_neg (by omega)]
theorem efS_f (S : Gs) (m q : Nat) (k a : Int32) (x y z o : Option Nat) (n : Int32) : vi (efS S m q k a x y z o n) 192 m = k ∧ vi (efS S m q k a x y z o n) 193 m = a ∧ vr (efS S m q k a x y z o n) 194 m = x ∧ vr (efS S m q k a x y z o n) 195 m = y ∧ vr (efS S m q k a x y z o n) 196 m = z ∧ vr (efS S m q k a x y z o n) (1408 + m) 0 = o ∧ vi (efS S m q k a x y z o n) 1 0 = n := by
  have e : ¬ (1408 + m = 196) ∧ ¬ (1408 + m = 195) ∧ ¬ (1408 + m = 194) ∧ ¬ (194 = 1408 + m) ∧ ¬ (195 = 1408 + m) ∧ ¬ (196 = 1408 + m) := by omega
  obtain ⟨e1, e2, e3, e4, e5, e6⟩ := e
  refine ⟨?_, ?_, ?_, ?_, ?_, ?_, ?_⟩
  all_goals simp [efS, vi_ui_e, vi_ur, vi_un, vr_ui, vr_ur, vr_un, e1, e2, e3, e4, e5, e6]
theorem Zt.effect {P : Pst} {LL : Lls} {S : Gs} {M M' : Mm} (hZ : Zt P LL S M) (hn : nef P < 40) (k a b c : Int32) {q : Nat} {x y z o : Option Nat} {n : Int32} (ho : o = some q) (hnn : n = P 4 0 + 1) (hx : ¬ a_R_needs k ≤ 0 → lv S 3 (tn a) = true ∧ x = some (ad S 3 (tn a))) (hy : ¬ a_R_needs k ≤ 1 → lv S 3 (tn b) = true ∧ y = some (ad S 3 (tn b))) (hz : ¬ a_R_needs k ≤ 2 → lv S 3 (tn c) = true ∧ z = some (ad S 3 (tn c))) (hV : VM (efS S (nef P) q k a x y z o n) M') : Zt (efP P k a b c) LL (efS S (nef P) q k a x y z o n) M' := by
  have hw := hZ.2.2.1
  obtain ⟨sd, sp, sl, se, sf, sq, spr⟩ := hZ.2.1
  obtain ⟨g0, g1, g2, g3, g4⟩ := efP_f P k a b c
  obtain ⟨s1, s2, s3, s4, s5, s6, s7⟩ := efS_f S (nef P) q k a x y z o n
  have hP : ∀ f j, ¬ (f < 4 ∧ j = nef P) ∧ ¬ (f = 4 ∧ j = 0) → efP P k a b c f j = P f j := fun f j h => efP_o P k a b c h
  have hv : ∀ f t, ¬ (192 ≤ f ∧ f < 256 ∧ t = nef P) ∧ ¬ (t = 0 ∧ (f = 1 ∨ f = 1408 + nef P)) → vi (efS S (nef P) q k a x y z o n) f t = vi S f t ∧ vr (efS S (nef P) q k a x y z o n) f t = vr S f t := fun f t h => efS_o S (nef P) q k a x y z o n h
  have hlive : ∀ e, lv S 3 e = true → e < nef P := fun e h => (se e).1.mpr h
  have ha : ∀ c' t, ¬ (c' = 3 ∧ t = nef P) → ad (efS S (nef P) q k a x y z o n) c' t = ad S c' t := fun c' t h => by rw [efS_ad, if_neg h]
  have hl : ∀ c' t, ¬ (c' = 3 ∧ t = nef P) → lv (efS S (nef P) q k a x y z o n) c' t = lv S c' t := fun c' t h => by rw [efS_lv, if_neg h]
  have hgx : Gx S (efS S (nef P) q k a x y z o n) := ⟨fun e he => ⟨by rw [hl 3 e (by have := hlive e he; omega)]; exact he, ha 3 e (by have := hlive e he; omega)⟩, fun _ _ h => h, fun _ _ h => h⟩
  have en : nfb (efP P k a b c) = nfb P := by unfold nfb; rw [hP 42 0 (by omega)]
  have ene : nef (efP P k a b c) = nef P + 1 := by unfold nef; rw [g4]; exact tn_inc (hw 4 0).1 (by have : tn (P 4 0) < 40 := hn; omega)
  have erow : ∀ r, rowL (efP P k a b c) r = rowL P r := fun r => rowL_ne (fun j => hP _ _ (by omega)) (fun j => hP _ _ (by omega)) (fun j => hP _ _ (by omega))
  have hWB : WB (efP P k a b c) := by
    unfold efP
    exact WB.up (f := 4) (WB.up (f := 3) (WB.up (f := 2) (WB.up (f := 1) (WB.up (f := 0) hw trivial) trivial) trivial) trivial) (sm_inc' (hw 4 0).1 hn (by decide))
  refine ⟨hV, ⟨?_, ?_, ?_, ?_, ?_, ?_, ?_⟩, hWB, by rw [hP 43 0 (by omega)]; exact hZ.2.2.2⟩
  · obtain ⟨⟨l1, l2, l3, l4, l5⟩, d1, d2, d3, d4, d5, d6, d7, d8, d9, d10, d11, d12, d13⟩ := sd
    unfold SD
    rw [hl 0 0 (by omega), hl 21 0 (by omega), hl 22 0 (by omega), hl 23 0 (by omega), hl 24 0 (by omega), ha 22 0 (by omega), ha 23 0 (by omega), ha 1 0 (by omega), ha 24 0 (by omega), ha 21 0 (by omega), (hv 0 0 (by omega)).2, s7, (hv 2 0 (by omega)).2, (hv 3 0 (by omega)).1, (hv 4 0 (by omega)).2, (hv 5 0 (by omega)).2, (hv 6 0 (by omega)).2, (hv 7 0 (by omega)).1, (hv 8 0 (by omega)).1, (hv 9 0 (by omega)).1, (hv 10 0 (by omega)).1, (hv 11 0 (by omega)).2, (hv 12 0 (by omega)).1, g4, hP 42 0 (by omega), hP 46 0 (by omega), hP 44 0 (by omega), hP 45 0 (by omega), hP 47 0 (by omega), hP 48 0 (by omega), hP 49 0 (by omega), en, ha 4 _ (by omega)]
    exact ⟨⟨l1, l2, l3, l4, l5⟩, d1, hnn, d3, d4, d5, d6, d7, d8, d9, d10, d11, d12, d13⟩
  · intro n' hn4
    obtain ⟨b1, b2, b3, b4, b5⟩ := sp n' hn4
    rw [hl 2 n' (by omega), ha 2 n' (by omega), ha 1 _ (by omega), ha 1 _ (by omega), (hv (1536 + n') 0 (by omega)).2, (hv 132 n' (by omega)).2, (hv 133 n' (by omega)).2, (hv 128 n' (by omega)).1, (hv 129 n' (by omega)).1, (hv 130 n' (by omega)).1, (hv 131 n' (by omega)).1, hP 51 0 (by omega), hP 37 n' (by omega), hP 41 n' (by omega), hP 38 n' (by omega), hP 39 n' (by omega)]
    exact ⟨b1, b2, b3, b4, b5⟩
  · intro t ht
    obtain ⟨b1, b2, b3, b4, b5, b6⟩ := sl t ht
    unfold Ln
    rw [hl 1 t (by omega), hl 20 t (by omega), ha 20 t (by omega), (hv 64 t (by omega)).2, (hv 65 t (by omega)).1]
    exact ⟨b1, b2, b3, b4, b5, fun j hj => by rw [(hv (1280 + j) t (by omega)).1]; exact b6 j hj⟩
  · intro e'
    by_cases e0 : e' = nef P
    · subst e0
      refine ⟨⟨fun _ => by rw [efS_lv, if_pos ⟨rfl, rfl⟩], fun _ => by rw [ene]; omega⟩, fun _ => ?_⟩
      rw [s1, s2, s3, s4, s5, s6, g0, g1, g2, g3, efS_ad, if_pos ⟨rfl, rfl⟩]
      refine ⟨ho, rfl, rfl, fun w => ?_, fun w => ?_, fun w => ?_⟩
      · have h1 := hx w
        have h2 := hlive _ h1.1
        rw [hl 3 _ (by omega), ha 3 _ (by omega)]; exact h1
      · have h1 := hy w
        have h2 := hlive _ h1.1
        rw [hl 3 _ (by omega), ha 3 _ (by omega)]; exact h1
      · have h1 := hz w
        have h2 := hlive _ h1.1
        rw [hl 3 _ (by omega), ha 3 _ (by omega)]; exact h1
    · obtain ⟨b1, b2⟩ := se e'
      rw [ene, hl 3 e' (by omega)]
      refine ⟨⟨fun w => b1.mp (by omega), fun w => by have := b1.mpr w; omega⟩, fun w => ?_⟩
      obtain ⟨c1, c2, c3, c4, c5, c6⟩ := b2 w
      have h40 : e' < 40 := by have := hlive e' w; omega
      rw [(hv (1408 + e') 0 (by omega)).2, (hv 192 e' (by omega)).1, (hv 193 e' (by omega)).1, (hv 194 e' (by omega)).2, (hv 195 e' (by omega)).2, (hv 196 e' (by omega)).2, hP 0 e' (by omega), hP 1 e' (by omega), hP 2 e' (by omega), hP 3 e' (by omega), ha 3 e' (by omega)]
      refine ⟨c1, c2, c3, fun u => ?_, fun u => ?_, fun u => ?_⟩
      · have h1 := c4 u
        have h2 := hlive _ h1.1
        rw [hl 3 _ (by omega), ha 3 _ (by omega)]; exact h1
      · have h1 := c5 u
        have h2 := hlive _ h1.1
        rw [hl 3 _ (by omega), ha 3 _ (by omega)]; exact h1
      · have h1 := c6 u
        have h2 := hlive _ h1.1
        rw [hl 3 _ (by omega), ha 3 _ (by omega)]; exact h1
  · intro j hj
    rw [en] at hj
    have h10 := n10 hw
    have s := sf j hj
    refine s.ag hgx (fun f f1 f2 => hP f j (by omega)) (erow j) (fun f f1 f2 => hv f j (by omega)) (by rw [hl 4 j (by omega)]; exact s.1.1) (ha 4 j (by omega)) (hv (1472 + j) 0 (by omega)).2 ?_
    unfold topR
    rw [ha 5 _ (by omega)]
  · intro j p hj hp
    rw [en] at hj
    rw [hP 22 j (by omega)] at hp
    have s := sq j p hj hp
    have hle := hlive _ s.1.2.1
    refine s.ag hgx (fun f f1 f2 f3 f4 => hP f _ (by omega)) (erow _) (stk_ag (fun m' hm => ⟨hP 29 _ (by omega), hP 30 _ (by omega)⟩) _ (hw 28 _).2) (fun f hf => hP f _ (by omega)) (fun f f1 f2 => hv f _ (by omega)) (by rw [hl 5 _ (by omega)]; exact s.1.1) ?_
    unfold topR
    rw [ha 5 _ (by omega)]
  · intro j hj
    rw [(hv (1344 + j) 0 (by omega)).1, hP 40 j (by omega)]
    exact spr j hj
theorem in_ef {P : Pst} {LL : Lls} {S : Gs} (h : Sim P LL S) (hw : WB P) {x : Int32} (hx : ¬ a_R_isEffect P x = 0) : lv S 3 (tn x) = true ∧ efAt P S x = some (ad S 3 (tn x)) ∧ ¬ x < 0 ∧ ¬ P 4 0 ≤ x := by
  have hn : ¬ efAt P S x = none := fun q => hx ((ef_none hw x).mp q)
  have h40 : tn (P 4 0) ≤ 40 := (hw 4 0).2
  unfold efAt at hn ⊢
  by_cases a : x < 0
  · rw [if_pos a] at hn; exact absurd rfl hn
  · rw [if_neg a] at hn ⊢
    by_cases b : P 4 0 ≤ x
    · rw [if_pos b] at hn; exact absurd rfl hn
    · rw [if_neg b]
      exact ⟨(h.2.2.2.1 _).1.mp (ix_lt_of (tn_of a) (hw 4 0).1 (by show tn (P 4 0) < _; omega) b), rfl, a, b⟩
theorem wf_1 {P : Pst} {k a b c : Int32} (h : ¬ wfC P k a b c = 0) : (¬ a_R_needs k ≤ 0 → ¬ a_R_isEffect P a = 0) ∧ (¬ a_R_needs k ≤ 1 → ¬ a_R_isEffect P b = 0) ∧ (¬ a_R_needs k ≤ 2 → ¬ a_R_isEffect P c = 0) := by
  unfold wfC at h
  by_cases h0 : a_R_in k 0 25 = 0
  · rw [if_pos h0] at h; exact absurd rfl h
  rw [if_neg h0] at h
  by_cases h1 : ¬ a_R_needs k ≤ 0 ∧ a_R_isEffect P a = 0
  · rw [if_pos h1] at h; exact absurd rfl h
  rw [if_neg h1] at h
  by_cases h2 : ¬ a_R_needs k ≤ 1 ∧ a_R_isEffect P b = 0
  · rw [if_pos h2] at h; exact absurd rfl h
  rw [if_neg h2] at h
  by_cases h3 : ¬ a_R_needs k ≤ 2 ∧ a_R_isEffect P c = 0
  · rw [if_pos h3] at h; exact absurd rfl h
  exact ⟨fun u w => h1 ⟨u, w⟩, fun u w => h2 ⟨u, w⟩, fun u w => h3 ⟨u, w⟩⟩
theorem efl {P : Pst} {LL : Lls} {S : Gs} {q : Nat} (h : Sim P LL S) (hw : WB P) {x : Int32} (hx : ¬ x < 0) (hb : ¬ P 4 0 ≤ x) : vr (un S 3 (nef P) q) (1408 + tn x) 0 = some (ad S 3 (tn x)) := by
  have h40 : tn (P 4 0) ≤ 40 := (hw 4 0).2
  have hl := (h.2.2.2.1 (tn x)).1.mp (ix_lt_of (tn_of hx) (hw 4 0).1 (by show tn (P 4 0) < _; omega) hb)
  rw [vr_un_c (by omega)]
  exact se_at h hl
set_option maxHeartbeats 1000000 in
set_option maxRecDepth 100000 in
theorem s_effAtU {P : Pst} {LL : Lls} {S : Gs} {M Mz : Mm} (hZ : Zt P LL S Mz) {q : Nat} (hV : VM (un S 3 (nef P) q) M) (x : Int32) : Run m_D_effectAt ownC 0 0 0 [va_rf (some (ad (un S 3 (nef P) q) 0 0)), .int x] M (fun r M' => r = some (va_rf (efAt P S x)) ∧ VM (un S 3 (nef P) q) M') := by
  refine Run.ofG (by decide) (by simp [cat_int, cat_rf]) (Nat.le_of_ble_eq_true rfl) ?_
  refine g_iload_n d_D_effectAt_0 rfl ?_
  refine g_if_lt 21 d_D_effectAt_1 (by decide) (fun c_1 => ?_) (fun c_1 => ?_)
  · skip
    refine g_null d_D_effectAt_21 ?_
    exact g_areturn d_D_effectAt_22 rfl ⟨by unfold efAt; rw [if_pos (show x < 0 from c_1)], hV⟩
  · have hx_ : x = nI (tn x) := tn_of c_1
    refine g_iload_n d_D_effectAt_4 rfl ?_
    refine g_aload_n d_D_effectAt_5 rfl ?_
    refine v_geti (v := P 4 0) (τ := 0) 1 rfl hV (lv_un_le (sl_0 hZ.2.1) _ _ _) (by decide) (by decide) fl_D_15 rfl d_D_effectAt_6 rfl ((vi_un_c (by decide) _ _ _ _).trans (sd_1 hZ.2.1)) ?_
    refine g_icmp_ge 21 d_D_effectAt_9 (by decide) (fun c_9 => ?_) (fun c_9 => ?_)
    · skip
      refine g_null d_D_effectAt_21 ?_
      exact g_areturn d_D_effectAt_22 rfl ⟨by unfold efAt; rw [if_neg (show ¬ (x < 0) from c_1), if_pos (show P 4 0 ≤ x from c_9)], hV⟩
    · have hn40_ : nef P ≤ 40 := (hZ.2.2.1 4 0).2; have hb0_ : tn x < nef P := ix_lt_of hx_ (hZ.2.2.1 4 0).1 (by show nef P < _; omega) c_9
      refine g_aload_n d_D_effectAt_12 rfl ?_
      refine v_getr (v := some (ad S 22 0)) (τ := 0) 0 rfl hV (lv_un_le (sl_0 hZ.2.1) _ _ _) (by decide) (by decide) fl_D_11 rfl d_D_effectAt_13 rfl ((vr_un_c (by decide) _ _ _ _).trans (sd_0 hZ.2.1)) ?_
      refine g_iload_n d_D_effectAt_16 rfl ?_
      refine v_aald (v := some (ad S 3 (tn x))) (j := (tn x)) (τ := 0) (1408 + (tn x)) rfl hV (lv_un_le (sl_22 hZ.2.1) _ _ _) (by decide) d_D_effectAt_17 (ad_n (Or.inl (by decide)) rfl) hx_ (by show _ < _; simp [ck]; omega) (efl hZ.2.1 hZ.2.2.1 c_1 c_9) ?_
      refine g_goto 22 d_D_effectAt_18 (by decide) ?_
      exact g_areturn d_D_effectAt_22 rfl ⟨by unfold efAt; rw [if_neg (show ¬ (x < 0) from c_1), if_neg (show ¬ (P 4 0 ≤ x) from c_9)], hV⟩
def eaE (P : Pst) (k a b c : Int32) : Int32 := if wfC P k a b c = 0 then -1 else if P 4 0 = 40 then -2 else P 4 0
def epE (P : Pst) (k a b c : Int32) : Pst := if wfC P k a b c = 0 then P else if P 4 0 = 40 then P else efP P k a b c
theorem e40_lt {P : Pst} (hw : WB P) (h : P 4 0 < 40) : nef P < 40 ∧ ¬ P 4 0 = 40 := by
  have h4 : tn (P 4 0) ≤ 40 := (hw 4 0).2
  have h1 : tn (P 4 0) < 40 := by
    rcases Nat.lt_or_ge (tn (P 4 0)) 40 with q | q
    · exact q
    · exact absurd h (ix_nlt (hw 4 0).1 (b := 40) rfl q (by omega))
  exact ⟨h1, fun q => by rw [q] at h1; exact absurd h1 (by decide)⟩
theorem e40_ge {P : Pst} (hw : WB P) (h : ¬ P 4 0 < 40) : P 4 0 = 40 := by
  have h4 : tn (P 4 0) ≤ 40 := (hw 4 0).2
  rcases Nat.lt_or_ge (tn (P 4 0)) 40 with q | q
  · exact absurd (Int32.not_le.mp (ix_nle (a := 40) rfl (hw 4 0).1 q (by decide))) h
  · rw [(hw 4 0).1, show tn (P 4 0) = 40 by omega]; rfl
theorem Kp_ef {P : Pst} {LL : Lls} {S : Gs} (h : Sim P LL S) {q : Nat} {k a : Int32} {x y z o : Option Nat} {n : Int32} : Kp P S (efS S (nef P) q k a x y z o n) := by
  refine ⟨fun c τ h1 h2 hl => ?_, fun j hj => ?_, fun c τ hl => ?_⟩
  · rw [efS_ad, if_neg (fun w => by have := (h.2.2.2.1 τ).1.mpr (by rw [← w.1]; exact hl); omega)]
  · rw [efS_ad, if_neg (by omega)]
  · rw [efS_lv]; split; rfl; exact hl
set_option maxHeartbeats 1000000 in
set_option maxRecDepth 100000 in
theorem s_D_effect {P : Pst} {LL : Lls} {S : Gs} {M : Mm} (hZ : Zt P LL S M) (k a b c : Int32) : Run m_D_effect ownC 2 1 5 [va_rf (some (ad S 0 0)), .int k, .int a, .int b, .int c] M (fun r M' => r = some (.int (eaE P k a b c)) ∧ ∃ S', Zt (epE P k a b c) (LL) S' M' ∧ Kp P S S') := by
  have hV := hZ.1
  refine Run.ofG (by decide) (by simp [cat_int, cat_rf]) (Nat.le_of_ble_eq_true rfl) ?_
  refine g_aload_n d_D_effect_0 rfl ?_
  refine g_iload_n d_D_effect_1 rfl ?_
  refine g_iload_n d_D_effect_2 rfl ?_
  refine g_iload_n d_D_effect_3 rfl ?_
  refine g_iload d_D_effect_4 rfl ?_
  refine g_callV (k1 := 1) (n1 := 5) [.int (k), .int (a), .int (b), .int (c)] cw_D_65 cv_D_isWellFormed d_D_effect_6 rfl (hV.kdo (sl_0 hZ.2.1) (by decide)) rfl rfl ⟨by simp, by simp⟩ (by first | decide | omega) (by first | decide | omega) (by first | decide | omega) (fun _ _ h => h) (s_D_isWellFormed hZ k a b c) (fun r_ M h_ hfr_ => ?_)
  obtain ⟨rfl, hV⟩ := h_
  refine g_if_ne 14 d_D_effect_9 (by decide) (fun c_9 => ?_) (fun c_9 => ?_)
  · skip
    refine g_aload_n d_D_effect_14 rfl ?_
    refine v_geti (v := P 4 0) (τ := 0) 1 rfl hV (sl_0 hZ.2.1) (by decide) (by decide) fl_D_15 rfl d_D_effect_15 rfl (sd_1 hZ.2.1) ?_
    refine g_bipush (v := 40) d_D_effect_18 (by decide) ?_
    refine g_icmp_lt 26 d_D_effect_20 (by decide) (fun c_20 => ?_) (fun c_20 => ?_)
    · have h40 := e40_lt hZ.2.2.1 c_20
      refine g_aload_n d_D_effect_26 rfl ?_
      refine v_geti (v := P 4 0) (τ := 0) 1 rfl hV (sl_0 hZ.2.1) (by decide) (by decide) fl_D_15 rfl d_D_effect_27 rfl (sd_1 hZ.2.1) ?_
      refine g_istore d_D_effect_30 (by decide) ?_
      refine g_aload_n d_D_effect_32 rfl ?_
      refine v_getr (v := some (ad S 22 0)) (τ := 0) 0 rfl hV (sl_0 hZ.2.1) (by decide) (by decide) fl_D_11 rfl d_D_effect_33 rfl (sd_0 hZ.2.1) ?_
      refine g_iload d_D_effect_36 rfl ?_
      refine v_new (k' := 0) (n' := 0) (nef P) hV (by decide) cl_D_9 d_D_effect_38 (by first | decide | omega) (by first | decide | omega | simp [ck]) (fun q38 M hq_q38 hV => ?_)
      refine g_dup d_D_effect_41 ?_
      refine g_iload_n d_D_effect_42 rfl ?_
      refine g_iload_n d_D_effect_43 rfl ?_
      refine g_aload_n d_D_effect_44 rfl ?_
      refine g_iload_n d_D_effect_45 rfl ?_
      refine g_callV (k1 := 0) (n1 := 0) [.int (a)] cw_D_69 cv_D_effectAt d_D_effect_46 (ad_n (Or.inl (by decide)) rfl) (hV.kdo (lv_un_le (sl_0 hZ.2.1) _ _ _) (by decide)) rfl rfl ⟨by simp [cat_rf, cat_int], by simp⟩ (by first | decide | omega) (by first | decide | omega) (by first | decide | omega) (fun _ _ h => h) (s_effAtU hZ hV _) (fun r_ M h_ hfr_ => ?_)
      obtain ⟨rfl, hV⟩ := h_
      refine g_aload_n d_D_effect_49 rfl ?_
      refine g_iload_n d_D_effect_50 rfl ?_
      refine g_callV (k1 := 0) (n1 := 0) [.int (b)] cw_D_69 cv_D_effectAt d_D_effect_51 (ad_n (Or.inl (by decide)) rfl) (hV.kdo (lv_un_le (sl_0 hZ.2.1) _ _ _) (by decide)) rfl rfl ⟨by simp [cat_rf, cat_int], by simp⟩ (by first | decide | omega) (by first | decide | omega) (by first | decide | omega) (fun _ _ h => h) (s_effAtU hZ hV _) (fun r_ M h_ hfr_ => ?_)
      obtain ⟨rfl, hV⟩ := h_
      refine g_aload_n d_D_effect_54 rfl ?_
      refine g_iload d_D_effect_55 rfl ?_
      refine g_callV (k1 := 0) (n1 := 0) [.int (c)] cw_D_69 cv_D_effectAt d_D_effect_57 (ad_n (Or.inl (by decide)) rfl) (hV.kdo (lv_un_le (sl_0 hZ.2.1) _ _ _) (by decide)) rfl rfl ⟨by simp [cat_rf, cat_int], by simp⟩ (by first | decide | omega) (by first | decide | omega) (by first | decide | omega) (fun _ _ h => h) (s_effAtU hZ hV _) (fun r_ M h_ hfr_ => ?_)
      obtain ⟨rfl, hV⟩ := h_
      refine g_callI (k1 := 0) (n1 := 0) [.int (k), .int (a), va_rf (efAt P S a), va_rf (efAt P S b), va_rf (efAt P S c)] cw_D_73 ci_E_init d_D_effect_60 (congrArg some (ad_un_s _ _ _ _).symm) rfl rfl ⟨by simp [cat_rf, cat_int], by simp⟩ (by first | decide | omega) (by first | decide | omega) (by first | decide | omega) (fun _ _ h => h) (v_E_init hV (lv_un_s _ _ _ _) _ _ _ _ _) (fun r_ M h_ hfr_ => ?_)
      obtain ⟨rfl, hV⟩ := h_
      refine v_aast (j := (nef P)) (τ := 0) (d := 3) (σ := (nef P)) (1408 + (nef P)) rfl hV (lv_r (lv_r (lv_r (lv_i (lv_i (lv_un_le (sl_22 hZ.2.1) _ _ _)))))) (by decide) (lv_r (lv_r (lv_r (lv_i (lv_i (lv_un_s _ _ _ _)))))) (ad_r (ad_r (ad_r (ad_i (ad_i (congrArg some (ad_un_s _ _ _ _).symm)))))) d_D_effect_63 (ad_r (ad_r (ad_r (ad_i (ad_i (ad_n (Or.inl (by decide)) rfl)))))) ((hZ.2.2.1 4 0).1) (by show _ < _; simp [ck]; omega) (fun M hV => ?_)
      refine g_aload_n d_D_effect_64 rfl ?_
      refine g_dup d_D_effect_65 ?_
      refine v_geti (v := P 4 0) (τ := 0) 1 rfl hV (lv_r (lv_r (lv_r (lv_r (lv_i (lv_i (lv_un_le (sl_0 hZ.2.1) _ _ _))))))) (by decide) (by decide) fl_D_15 rfl d_D_effect_66 (ad_r (ad_r (ad_r (ad_r (ad_i (ad_i (ad_n (Or.inl (by decide)) rfl))))))) ((vi_ur _ _ _ _ _ _).trans ((vi_ur _ _ _ _ _ _).trans ((vi_ur _ _ _ _ _ _).trans ((vi_ur _ _ _ _ _ _).trans ((vi_ui_f (by decide) _ _ _ _).trans ((vi_ui_f (by decide) _ _ _ _).trans ((vi_un_c (by first | decide | omega) _ _ _ _).trans (sd_1 hZ.2.1)))))))) ?_
      refine g_iconst (v := 1) d_D_effect_69 (by decide) ?_
      refine g_iadd d_D_effect_70 ?_
      refine v_puti (τ := 0) 1 rfl hV (lv_r (lv_r (lv_r (lv_r (lv_i (lv_i (lv_un_le (sl_0 hZ.2.1) _ _ _))))))) (by decide) (by decide) fl_D_15 (Or.inr (fun r h => by cases h; rfl)) rfl d_D_effect_71 (ad_r (ad_r (ad_r (ad_r (ad_i (ad_i (ad_n (Or.inl (by decide)) rfl))))))) (fun M hV => ?_)
      refine g_iload d_D_effect_74 rfl ?_
      have hwf := wf_1 c_9
      exact g_ireturn d_D_effect_76 rfl ⟨by unfold eaE; rw [if_neg c_9, if_neg h40.2], efS S (nef P) q38 k a (efAt P S a) (efAt P S b) (efAt P S c) (some q38) (P 4 0 + 1), by unfold epE; rw [if_neg c_9, if_neg h40.2]; exact hZ.effect h40.1 k a b c rfl rfl (fun u => have e := in_ef hZ.2.1 hZ.2.2.1 (hwf.1 u); ⟨e.1, e.2.1⟩) (fun u => have e := in_ef hZ.2.1 hZ.2.2.1 (hwf.2.1 u); ⟨e.1, e.2.1⟩) (fun u => have e := in_ef hZ.2.1 hZ.2.2.1 (hwf.2.2 u); ⟨e.1, e.2.1⟩) hV, Kp_ef hZ.2.1⟩
    · skip
      refine g_bipush (v := -2) d_D_effect_23 (by decide) ?_
      exact g_ireturn d_D_effect_25 rfl ⟨by unfold eaE; rw [if_neg c_9, if_pos (e40_ge hZ.2.2.1 c_20)], S, by unfold epE; rw [if_neg c_9, if_pos (e40_ge hZ.2.2.1 c_20)]; exact ⟨hV, hZ.2⟩, Kp.refl _ _⟩
  · skip
    refine g_iconst (v := -1) d_D_effect_12 (by decide) ?_
    exact g_ireturn d_D_effect_13 rfl ⟨by unfold eaE; rw [if_pos c_9], S, by unfold epE; rw [if_pos c_9]; exact ⟨hV, hZ.2⟩, Kp.refl _ _⟩
