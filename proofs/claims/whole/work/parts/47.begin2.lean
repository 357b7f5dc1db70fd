/-! joining, halting, racing, sleeping (by program: wip/tools/gen_s6.py) -/
theorem fb_in0 {P : Pst} (hw : WB P) {x : Int32} (h : x < 0 ∨ (¬ x < 0 ∧ P 42 0 ≤ x)) : a_R_in x 0 (P 42 0 - 1) = 0 := by
  by_cases q : a_R_in x 0 (P 42 0 - 1) = 0
  · exact q
  · have h10 : nfb P ≤ 10 := n10 hw
    obtain ⟨e, l⟩ := in_nat1 (m := nfb P) q (nf_nI hw) (by omega)
    rcases h with h | h
    · rw [e] at h; exact absurd h (nI_pos (by omega))
    · exact absurd h.2 (ix_nle (nf_nI hw) e l (by omega))
theorem fb_in1 {P : Pst} (hw : WB P) {j : Nat} (hj : j < nfb P) : ¬ a_R_in (nI j) 0 (P 42 0 - 1) = 0 := by
  have h10 : nfb P ≤ 10 := n10 hw
  unfold a_R_in
  rw [if_neg (nI_pos (by omega)), if_neg (ix_nlt (a := nfb P - 1) (b := j) (ix_sub (y := 1) (nf_nI hw) (b := 1) rfl (by omega)) rfl (by omega) (by omega))]
  decide
theorem strike_o (P : Pst) (g : Nat) (w : Int32) {f x : Nat} (h : ¬ x = g) (h2 : ¬ f = 36) (h3 : ¬ f = 43) : p_R_strike P g w f x = P f x := by
  unfold p_R_strike
  repeat' split
  all_goals simp [p_R_wake, up_e, h, h2, h3]
theorem strike_f (P : Pst) (g : Nat) (w : Int32) {f x : Nat} (h : ¬ f = 5 ∧ ¬ f = 6 ∧ ¬ f = 7 ∧ ¬ f = 15 ∧ ¬ f = 36 ∧ ¬ f = 43) : p_R_strike P g w f x = P f x := by
  obtain ⟨a, b, c, d, e, k⟩ := h
  unfold p_R_strike
  repeat' split
  all_goals simp [p_R_wake, up_e, a, b, c, d, e, k]
theorem strike_5 {P : Pst} {g : Nat} (w : Int32) (h : ¬ P 5 g = 2) : ¬ p_R_strike P g w 5 g = 2 := by
  unfold p_R_strike
  rw [if_neg h]
  repeat' split
  all_goals simp [p_R_wake, up_e, h]
theorem skL_give (P : Pst) (i : Nat) (x : Int32) (LL : Lls) (j : Nat) : skL (p_R_give P i x) LL j = skL P LL j := by
  have e : ∀ f, ¬ f = 11 → ¬ f = 13 → ¬ f = 14 → p_R_give P i x f j = P f j := fun f a b c => by simp [p_R_give, up_e, a, b, c]
  unfold skL lvL
  rw [e 5 (by decide) (by decide) (by decide), e 6 (by decide) (by decide) (by decide), e 10 (by decide) (by decide) (by decide), e 15 (by decide) (by decide) (by decide), e 16 (by decide) (by decide) (by decide)]
theorem skL_2 {P : Pst} (LL : Lls) {j : Nat} (h : P 5 j = 2) : skL P LL j = LL := by
  unfold skL
  rw [if_neg (fun q => by rw [h] at q; exact absurd q.1 (by decide))]
theorem give_f (P : Pst) (i : Nat) (x : Int32) {f j : Nat} (h : ¬ f = 11 ∧ ¬ f = 13 ∧ ¬ f = 14) : p_R_give P i x f j = P f j := by simp [p_R_give, up_e, h.1, h.2.1, h.2.2]
def jnP (P : Pst) (i : Nat) (v : Int32) : Pst := if a_R_in v 0 (P 42 0 - 1) = 0 then p_R_fail P i 2 (-2) else if P 5 (tn v) = 2 then p_R_hand P i (tn v) else p_R_rest P i 1 v 0
def hlP (P : Pst) (i : Nat) (v : Int32) : Pst := if a_R_in v 0 (P 42 0 - 1) = 0 then p_R_fail P i 2 (-2) else if P 5 (tn v) = 2 then p_R_give P i 0 else if v = nI i then p_R_give (p_R_strike P (tn v) (nI i)) i 0 else p_R_rest (p_R_give (p_R_strike P (tn v) (nI i)) i 0) i 2 v 0
def hlL (P : Pst) (LL : Lls) (v : Int32) : Lls := if a_R_in v 0 (P 42 0 - 1) = 0 then LL else if P 5 (tn v) = 2 then LL else skL P LL (tn v)
theorem upL_upL (LL : Lls) (t : Nat) (a b : List Nat) : upL (upL LL t a) t b = upL LL t b := by
  funext s
  unfold upL
  split <;> rfl
theorem nf_le8 {P : Pst} (hw : WB P) (h : P 42 0 + 2 ≤ 10) : nfb P ≤ 8 ∧ P 42 0 ≤ 8 := by
  have h10 : nfb P ≤ 10 := n10 hw
  have e : nfb P + 2 ≤ 10 := ix_le_of (b := 10) (ix_add (nf_nI hw) (b := 2) rfl) rfl (by omega) (by decide) h
  exact ⟨by omega, ix_le (b := 8) (nf_nI hw) rfl (by omega) (by decide)⟩
theorem nf_gt8 {P : Pst} (hw : WB P) (h : ¬ P 42 0 + 2 ≤ 10) : ¬ P 42 0 ≤ 8 := fun q => by
  have h10 : nfb P ≤ 10 := n10 hw
  have e : nfb P ≤ 8 := ix_le_of (b := 8) (nf_nI hw) rfl (by omega) (by decide) q
  exact h (ix_le (b := 10) (ix_add (nf_nI hw) (b := 2) rfl) rfl (by omega) (by decide))
/-- the fibers of a race are written down before it waits -/
def pre3 (P : Pst) (i : Nat) : Pst := up (up (up P 19 i (P 42 0)) 20 i (P 42 0 + 1)) 21 i (-1)
theorem Zt.pre3 {P : Pst} {LL : Lls} {S : Gs} {M : Mm} (hZ : Zt P LL S M) {i : Nat} (hi : i < nfb P) (h8 : nfb P ≤ 8) (h15 : P 15 i = 0) : Zt (_root_.Jvm.Pilot.CFiberDeskLaw_law_r2789_ad6031.pre3 P i) LL S M := by
  have hE : ∀ f j, ¬ f = 19 → ¬ f = 20 → ¬ f = 21 → _root_.Jvm.Pilot.CFiberDeskLaw_law_r2789_ad6031.pre3 P i f j = P f j := fun f j a b c => by simp [_root_.Jvm.Pilot.CFiberDeskLaw_law_r2789_ad6031.pre3, up_e, a, b, c]
  have hrow : ∀ r, rowL (_root_.Jvm.Pilot.CFiberDeskLaw_law_r2789_ad6031.pre3 P i) r = rowL P r := fun r => rowL_ne (fun j => hE _ _ (by decide) (by decide) (by decide)) (fun j => hE _ _ (by decide) (by decide) (by decide)) (fun j => hE _ _ (by decide) (by decide) (by decide))
  have hw := hZ.2.2.1
  generalize hX : _root_.Jvm.Pilot.CFiberDeskLaw_law_r2789_ad6031.pre3 P i = X at hE hrow ⊢
  have hWB : WB X := by
    rw [← hX]
    refine WB.up (WB.up (WB.up hw ?_) ?_) ?_
    · exact sm_of (nf_nI hw) (by omega) (by decide)
    · exact sm_of (ix_add (nf_nI hw) (b := 1) rfl) (by omega) (by decide)
    · exact Or.inl rfl
  have hAg : Ag (dFi i) P X := by
    rw [← hX]
    exact (((Ag.refl _ P).up (by unfold dFi; omega) _).up (by unfold dFi; omega) _).up (by unfold dFi; omega) _
  refine ⟨hZ.1, hZ.2.1.fib hw hi (Sx.refl _ S) hAg (by rw [hE 22 i (by decide) (by decide) (by decide)]; exact Nat.le_refl _) ?_, hWB, by rw [hE 43 0 (by decide) (by decide) (by decide)]; exact hZ.2.2.2⟩
  obtain ⟨a, ⟨b1, b2, b3, b4⟩, c1, c2, c3⟩ := hZ.2.1.2.2.2.2.1 i hi
  have E : ∀ f, ¬ f = 19 → ¬ f = 20 → ¬ f = 21 → X f i = P f i := fun f => hE f i
  have hex : ExitR P S i → ExitR X S i := fun h => h.ag (Gx.refl _) (E 14 (by decide) (by decide) (by decide)) (E 13 (by decide) (by decide) (by decide)) (hrow i) rfl rfl
  unfold SF
  rw [E 5 (by decide) (by decide) (by decide), E 6 (by decide) (by decide) (by decide), E 7 (by decide) (by decide) (by decide), E 8 (by decide) (by decide) (by decide), E 9 (by decide) (by decide) (by decide), E 10 (by decide) (by decide) (by decide), E 15 (by decide) (by decide) (by decide), E 16 (by decide) (by decide) (by decide), E 17 (by decide) (by decide) (by decide), E 22 (by decide) (by decide) (by decide)]
  exact ⟨a, ⟨b1, b2, fun q => by rw [h15] at q; exact absurd q (by decide), b4⟩, fun q w => (c1 q w).ag2 (Gx.refl _) (E 11 (by decide) (by decide) (by decide)) (E 12 (by decide) (by decide) (by decide)) (E 13 (by decide) (by decide) (by decide)) (E 14 (by decide) (by decide) (by decide)) (hrow i) rfl rfl rfl rfl, fun q => hex (c2 q), c3⟩
theorem Zt.wakes {P : Pst} {LL : Lls} {S : Gs} {M M' : Mm} (hZ : Zt P LL S M) {i : Nat} (hi : i < nfb P) (h15 : P 15 i = 0) (x : Int32) (hV : VM (ui S 271 i x) M') : Zt P LL (ui S 271 i x) M' := by
  refine ⟨hV, hZ.2.1.fib hZ.2.2.1 hi ((Sx.refl _ S).ui (by unfold dVi; omega) _) (Ag.refl _ P) (Nat.le_refl _) ?_, hZ.2.2⟩
  obtain ⟨a, ⟨b1, b2, b3, b4⟩, c1, c2, c3⟩ := hZ.2.1.2.2.2.2.1 i hi
  have E : ∀ f, ¬ f = 271 → vi (ui S 271 i x) f i = vi S f i := fun f h => vi_ui_f h _ _ _ _
  have hex : ExitR P S i → ExitR P (ui S 271 i x) i := fun h => h.ag (Gx.refl _) rfl rfl rfl rfl (E 260 (by decide))
  unfold SF
  rw [E 256 (by decide), E 257 (by decide), E 262 (by decide), E 264 (by decide), E 265 (by decide), E 266 (by decide), E 267 (by decide), E 268 (by decide), E 269 (by decide), E 270 (by decide), E 260 (by decide)]
  exact ⟨a, ⟨b1, b2, b3, fun q => by rw [h15] at q; exact absurd q (by decide)⟩, fun q w => (c1 q w).ag2 (Gx.refl _) rfl rfl rfl rfl rfl rfl (E 259 (by decide)) (E 260 (by decide)) rfl, fun q => hex (c2 q), c3⟩
theorem race_eq {P : Pst} (hw : WB P) {i : Nat} (hi : i < nfb P) (h8 : nfb P ≤ 8) (x y v b : Int32) : p_R_make (p_R_make (p_R_rest (pre3 P i) i 3 0 0) x v b) y v b = p_R_rest (up (up (p_R_make (up (p_R_make P x v b) 19 i (a_R_make P x v b)) y v b) 20 i (a_R_make (up (p_R_make P x v b) 19 i (a_R_make P x v b)) y v b)) 21 i (-1)) i 3 0 0 := by
  have en : nfb (p_R_make P x v b) = nfb P + 1 := nfb_make hw (by omega) x v b
  have a1 : a_R_make P x v b = P 42 0 := rfl
  have a2 : a_R_make (up (p_R_make P x v b) 19 i (P 42 0)) y v b = P 42 0 + 1 := by
    show up (p_R_make P x v b) 19 i (P 42 0) 42 0 = _
    rw [up_f (by decide)]
    simp [p_R_make, up_e]
  rw [a1, a2]
  have M1 : ∀ {Q : Pst} {f j : Nat} (z : Int32), nfb Q = nfb P → ¬ f = 42 → ¬ f = 43 → ¬ f = 36 → (j = i ∨ (f = 50 ∧ j = 0)) → p_R_make (up Q f j z) x v b = up (p_R_make Q x v b) f j z := fun z hQ h1 h2 h3 h4 => make_up _ _ _ _ h1 h2 h3 (by rw [hQ]; omega) z
  have M2 : ∀ {Q : Pst} {f j : Nat} (z : Int32), nfb Q = nfb P + 1 → ¬ f = 42 → ¬ f = 43 → ¬ f = 36 → (j = i ∨ (f = 50 ∧ j = 0)) → p_R_make (up Q f j z) y v b = up (p_R_make Q y v b) f j z := fun z hQ h1 h2 h3 h4 => make_up _ _ _ _ h1 h2 h3 (by rw [hQ]; omega) z
  unfold p_R_rest pre3
  rw [M1, M1, M1, M1, M1, M1, M1, M1, M1, M2, M2, M2, M2, M2, M2, M2, M2, M2]
  · rfl
  all_goals first | exact en | rfl | decide | omega
theorem lt1_le0 (n : Int32) : n < 1 ↔ n ≤ 0 := by
  rw [Int32.lt_iff_toInt_lt, Int32.le_iff_toInt_le]
  have a : (1 : Int32).toInt = 1 := rfl
  have b : (0 : Int32).toInt = 0 := rfl
  omega
def slP (P : Pst) (i : Nat) (n v : Int32) : Pst := if n ≤ 0 then p_R_give P i v else p_R_rest (p_R_give P i v) i 4 (P 44 0 + (if n ≤ 1000 then n else 1000)) v
theorem mn_eq (n : Int32) : (if (1000 : Int32) < n then 1000 else n) = if n ≤ 1000 then n else 1000 := by
  by_cases h : n ≤ 1000
  · rw [if_pos h, if_neg (Int32.not_lt.mpr h)]
  · rw [if_neg h, if_pos (Int32.not_le.mp h)]
set_option maxHeartbeats 1000000 in
set_option maxRecDepth 100000 in
theorem s_D_beginJoin {P : Pst} {LL : Lls} {S : Gs} {M : Mm} (hZ : Zt P LL S M) {i : Nat} (hi : i < nfb P) (h5 : P 5 i = 0) (v : Int32) : Run m_D_beginJoin ownC 3 3 4 [va_rf (some (ad S 0 0)), va_rf (some (ad S 4 i)), .int v] M (fun r M' => r = none ∧ ∃ S', Zt (jnP P i v) (LL) S' M' ∧ Kp P S S') := by
  have hV := hZ.1
  refine Run.ofG (by decide) (by simp [cat_int, cat_rf]) (Nat.le_of_ble_eq_true rfl) ?_
  rcases fb_cases hZ.2.2.1 v with ho | ⟨j, hj, rfl⟩
  · skip
    refine g_aload_n d_D_beginJoin_0 rfl ?_
    refine g_iload_n d_D_beginJoin_1 rfl ?_
    refine g_callV (k1 := 3) (n1 := 4) [.int (v)] cw_D_94 cv_D_fiberAt d_D_beginJoin_2 rfl (hV.kdo (sl_0 hZ.2.1) (by decide)) rfl rfl ⟨by simp, by simp⟩ (by first | decide | omega) (by first | decide | omega) (by first | decide | omega) (fun _ _ h => h) (s_fiberOut ⟨hV, hZ.2⟩ ho) (fun r_ M h_ hfr_ => ?_)
    obtain ⟨rfl, hV⟩ := h_
    refine g_astore_n d_D_beginJoin_5 (by decide) ?_
    refine g_aload_n d_D_beginJoin_6 rfl ?_
    refine g_ifnonnull 19 d_D_beginJoin_7 (by decide) (fun a_7 c_7 => ?_) (fun c_7 => ?_)
    · exact absurd c_7 (by simp)
    · skip
      refine g_aload_n d_D_beginJoin_10 rfl ?_
      refine g_bipush (v := -2) d_D_beginJoin_11 (by decide) ?_
      refine g_callV (k1 := 0) (n1 := 0) [.int (-2)] cw_D_245 cv_F_die d_D_beginJoin_13 rfl (hV.kdo (sl_4 hZ.2.1 hi) (by decide)) rfl rfl ⟨by simp, by simp⟩ (by first | decide | omega) (by first | decide | omega) (by first | decide | omega) (fun _ _ h => h) (s_F_die ⟨hV, hZ.2⟩ hi _ (fun h => by rw [h5] at h; exact absurd h (by decide))) (fun r_ M h_ hfr_ => ?_)
      obtain ⟨rfl, S1, hZ1, ha1, hb1⟩ := h_
      have hk1 : Kp P S S1 := Kp.of ha1 hb1
      have hle1 : nfb P ≤ nfb (p_R_fail P i 2 (-2)) := (Nat.le_refl _)
      have hK1 : Kp P S S1 := Kp.trans (Kp.refl P S) hk1 (Nat.le_refl _)
      have hi1_0 : i < nfb (p_R_fail P i 2 (-2)) := Nat.lt_of_lt_of_le hi hle1
      have hV := hZ1.1
      refine g_goto 47 d_D_beginJoin_16 (by decide) ?_
      exact g_return d_D_beginJoin_47 rfl ⟨rfl, S1, by unfold jnP; rw [if_pos (fb_in0 hZ.2.2.1 ho)]; exact hZ1, hK1⟩
  have h10_ := n10 hZ.2.2.1
  have hjn : tn (nI j) = j := tn_nI (by omega)
  by_cases h2 : P 5 j = 2
  · skip
    refine g_aload_n d_D_beginJoin_0 rfl ?_
    refine g_iload_n d_D_beginJoin_1 rfl ?_
    refine g_callV (k1 := 3) (n1 := 4) [.int (nI j)] cw_D_94 cv_D_fiberAt d_D_beginJoin_2 rfl (hV.kdo (sl_0 hZ.2.1) (by decide)) rfl rfl ⟨by simp, by simp⟩ (by first | decide | omega) (by first | decide | omega) (by first | decide | omega) (fun _ _ h => h) (s_fiberIn ⟨hV, hZ.2⟩ hj) (fun r_ M h_ hfr_ => ?_)
    obtain ⟨rfl, hV⟩ := h_
    refine g_astore_n d_D_beginJoin_5 (by decide) ?_
    refine g_aload_n d_D_beginJoin_6 rfl ?_
    refine g_ifnonnull 19 d_D_beginJoin_7 (by decide) (fun a_7 c_7 => ?_) (fun c_7 => ?_)
    · skip
      refine g_aload_n d_D_beginJoin_19 rfl ?_
      refine v_geti (v := 1) (τ := j) 262 rfl hV (sl_4 hZ.2.1 hj) (by decide) (by decide) fl_D_98 rfl d_D_beginJoin_20 rfl ((sf_262 hZ.2.1 hj).trans (by rw [h2]; rfl)) ?_
      refine g_if_eq 41 d_D_beginJoin_23 (by decide) (fun c_23 => ?_) (fun c_23 => ?_)
      · exact absurd c_23 (by decide)
      · skip
        refine g_aload_n d_D_beginJoin_26 rfl ?_
        refine g_aload_n d_D_beginJoin_27 rfl ?_
        refine v_geti (v := vi S 260 j) (τ := j) 260 rfl hV (sl_4 hZ.2.1 hj) (by decide) (by decide) fl_D_129 rfl d_D_beginJoin_28 rfl rfl ?_
        refine g_aload_n d_D_beginJoin_31 rfl ?_
        refine v_getr (v := vr S 261 j) (τ := j) 261 rfl hV (sl_4 hZ.2.1 hj) (by decide) (by decide) fl_D_136 rfl d_D_beginJoin_32 rfl rfl ?_
        refine g_callV (k1 := 3) (n1 := 4) [.int (vi S 260 j), va_rf (vr S 261 j)] cw_D_287 cv_F_giveExit d_D_beginJoin_35 rfl (hV.kdo (sl_4 hZ.2.1 hi) (by decide)) rfl rfl ⟨by simp, by simp⟩ (by first | decide | omega) (by first | decide | omega) (by first | decide | omega) (fun _ _ h => h) (v_F_giveExit hV (sl_4 hZ.2.1 hi) _ _) (fun r_ M h_ hfr_ => ?_)
        obtain ⟨rfl, hV⟩ := h_
        refine g_goto 47 d_D_beginJoin_38 (by decide) ?_
        refine g_return d_D_beginJoin_47 rfl ⟨rfl, exS S i (vi S 260 j) (vr S 261 j), ?_, Kp.of rfl rfl⟩
        unfold jnP; rw [if_neg (fb_in1 hZ.2.2.1 hj), hjn, if_pos h2]
        exact hZ.hand hi (fun q => by rw [q, h2] at h5; exact absurd h5 (by decide)) (sf_exit hZ.2.1 hj h2) (fun h => by rw [h5] at h; exact absurd h (by decide)) hV
    · exact absurd (Eq.trans (Eq.symm (rfl : some (ad S 4 j) = some _)) c_7) (by simp)
  · skip
    refine g_aload_n d_D_beginJoin_0 rfl ?_
    refine g_iload_n d_D_beginJoin_1 rfl ?_
    refine g_callV (k1 := 3) (n1 := 4) [.int (nI j)] cw_D_94 cv_D_fiberAt d_D_beginJoin_2 rfl (hV.kdo (sl_0 hZ.2.1) (by decide)) rfl rfl ⟨by simp, by simp⟩ (by first | decide | omega) (by first | decide | omega) (by first | decide | omega) (fun _ _ h => h) (s_fiberIn ⟨hV, hZ.2⟩ hj) (fun r_ M h_ hfr_ => ?_)
    obtain ⟨rfl, hV⟩ := h_
    refine g_astore_n d_D_beginJoin_5 (by decide) ?_
    refine g_aload_n d_D_beginJoin_6 rfl ?_
    refine g_ifnonnull 19 d_D_beginJoin_7 (by decide) (fun a_7 c_7 => ?_) (fun c_7 => ?_)
    · skip
      refine g_aload_n d_D_beginJoin_19 rfl ?_
      refine v_geti (v := 0) (τ := j) 262 rfl hV (sl_4 hZ.2.1 hj) (by decide) (by decide) fl_D_98 rfl d_D_beginJoin_20 rfl ((sf_262 hZ.2.1 hj).trans (by unfold endI; rw [if_neg h2])) ?_
      refine g_if_eq 41 d_D_beginJoin_23 (by decide) (fun c_23 => ?_) (fun c_23 => ?_)
      · skip
        refine g_aload_n d_D_beginJoin_41 rfl ?_
        refine g_iconst (v := 1) d_D_beginJoin_42 (by decide) ?_
        refine g_iload_n d_D_beginJoin_43 rfl ?_
        refine g_callV (k1 := 3) (n1 := 4) [.int (1), .int (nI j)] cw_D_291 cv_F_waitFor d_D_beginJoin_44 rfl (hV.kdo (sl_4 hZ.2.1 hi) (by decide)) rfl rfl ⟨by simp, by simp⟩ (by first | decide | omega) (by first | decide | omega) (by first | decide | omega) (fun _ _ h => h) (v_F_waitFor hV (sl_4 hZ.2.1 hi) _ _) (fun r_ M h_ hfr_ => ?_)
        obtain ⟨rfl, hV⟩ := h_
        refine g_return d_D_beginJoin_47 rfl ⟨rfl, waS S i 1 (nI j), ?_, Kp.of rfl rfl⟩
        unfold jnP; rw [if_neg (fb_in1 hZ.2.2.1 hj), hjn, if_neg h2]
        exact hZ.rest hi 1 (nI j) 0 (nI j) h5 (fun _ => rfl) (fun q => absurd q (by decide)) (fun q => absurd q (by decide)) (fun q => absurd q (by decide)) hV
      · exact absurd c_23 (by decide)
    · exact absurd (Eq.trans (Eq.symm (rfl : some (ad S 4 j) = some _)) c_7) (by simp)
set_option maxHeartbeats 1000000 in
set_option maxRecDepth 100000 in
theorem s_D_beginHalt {P : Pst} {LL : Lls} {S : Gs} {M : Mm} (hZ : Zt P LL S M) {i : Nat} (hi : i < nfb P) (h5 : P 5 i = 0) (hA : ¬ (P 6 i = 1 ∧ P 10 i = 0)) (h6 : ∀ j, j < nfb P → P 6 j = 0 ∨ P 6 j = 1 ∨ P 6 j = 2) (h15 : ∀ j, j < nfb P → (P 5 j = 1 ↔ ¬ P 15 j = 0)) (h16 : ∀ j, j < nfb P → P 15 j = 5 ∨ P 15 j = 6 → ∃ n, n < 4 ∧ P 16 j = nI n) (hq : tn (P 43 0) < 10) (v : Int32) : Run m_D_beginHalt ownC 3 3 4 [va_rf (some (ad S 0 0)), va_rf (some (ad S 4 i)), .int v] M (fun r M' => r = none ∧ ∃ S', Zt (hlP P i v) (hlL P LL v) S' M' ∧ Kp P S S') := by
  have hV := hZ.1
  refine Run.ofG (by decide) (by simp [cat_int, cat_rf]) (Nat.le_of_ble_eq_true rfl) ?_
  rcases fb_cases hZ.2.2.1 v with ho | ⟨j, hj, rfl⟩
  · skip
    refine g_aload_n d_D_beginHalt_0 rfl ?_
    refine g_iload_n d_D_beginHalt_1 rfl ?_
    refine g_callV (k1 := 3) (n1 := 4) [.int (v)] cw_D_94 cv_D_fiberAt d_D_beginHalt_2 rfl (hV.kdo (sl_0 hZ.2.1) (by decide)) rfl rfl ⟨by simp, by simp⟩ (by first | decide | omega) (by first | decide | omega) (by first | decide | omega) (fun _ _ h => h) (s_fiberOut ⟨hV, hZ.2⟩ ho) (fun r_ M h_ hfr_ => ?_)
    obtain ⟨rfl, hV⟩ := h_
    refine g_astore_n d_D_beginHalt_5 (by decide) ?_
    refine g_aload_n d_D_beginHalt_6 rfl ?_
    refine g_ifnonnull 17 d_D_beginHalt_7 (by decide) (fun a_7 c_7 => ?_) (fun c_7 => ?_)
    · exact absurd c_7 (by simp)
    · skip
      refine g_aload_n d_D_beginHalt_10 rfl ?_
      refine g_bipush (v := -2) d_D_beginHalt_11 (by decide) ?_
      refine g_callV (k1 := 0) (n1 := 0) [.int (-2)] cw_D_245 cv_F_die d_D_beginHalt_13 rfl (hV.kdo (sl_4 hZ.2.1 hi) (by decide)) rfl rfl ⟨by simp, by simp⟩ (by first | decide | omega) (by first | decide | omega) (by first | decide | omega) (fun _ _ h => h) (s_F_die ⟨hV, hZ.2⟩ hi _ (fun h => by rw [h5] at h; exact absurd h (by decide))) (fun r_ M h_ hfr_ => ?_)
      obtain ⟨rfl, S1, hZ1, ha1, hb1⟩ := h_
      have hk1 : Kp P S S1 := Kp.of ha1 hb1
      have hle1 : nfb P ≤ nfb (p_R_fail P i 2 (-2)) := (Nat.le_refl _)
      have hK1 : Kp P S S1 := Kp.trans (Kp.refl P S) hk1 (Nat.le_refl _)
      have hi1_0 : i < nfb (p_R_fail P i 2 (-2)) := Nat.lt_of_lt_of_le hi hle1
      have hV := hZ1.1
      exact g_return d_D_beginHalt_16 rfl ⟨rfl, S1, by unfold hlP hlL; rw [if_pos (fb_in0 hZ.2.2.1 ho), if_pos (fb_in0 hZ.2.2.1 ho)]; exact hZ1, hK1⟩
  have h10_ := n10 hZ.2.2.1
  have hjn : tn (nI j) = j := tn_nI (by omega)
  by_cases h2 : P 5 j = 2
  · have e2 : p_R_strike (p_R_give P i 0) j (nI i) = p_R_give P i 0 := by unfold p_R_strike; rw [if_pos (show p_R_give P i 0 5 j = 2 from h2)]
    refine g_aload_n d_D_beginHalt_0 rfl ?_
    refine g_iload_n d_D_beginHalt_1 rfl ?_
    refine g_callV (k1 := 3) (n1 := 4) [.int (nI j)] cw_D_94 cv_D_fiberAt d_D_beginHalt_2 rfl (hV.kdo (sl_0 hZ.2.1) (by decide)) rfl rfl ⟨by simp, by simp⟩ (by first | decide | omega) (by first | decide | omega) (by first | decide | omega) (fun _ _ h => h) (s_fiberIn ⟨hV, hZ.2⟩ hj) (fun r_ M h_ hfr_ => ?_)
    obtain ⟨rfl, hV⟩ := h_
    refine g_astore_n d_D_beginHalt_5 (by decide) ?_
    refine g_aload_n d_D_beginHalt_6 rfl ?_
    refine g_ifnonnull 17 d_D_beginHalt_7 (by decide) (fun a_7 c_7 => ?_) (fun c_7 => ?_)
    · skip
      refine g_aload_n d_D_beginHalt_17 rfl ?_
      refine g_iconst (v := 0) d_D_beginHalt_18 (by decide) ?_
      refine g_callV (k1 := 3) (n1 := 4) [.int (0)] cw_D_242 cv_F_giveValue d_D_beginHalt_19 rfl (hV.kdo (sl_4 hZ.2.1 hi) (by decide)) rfl rfl ⟨by simp, by simp⟩ (by first | decide | omega) (by first | decide | omega) (by first | decide | omega) (fun _ _ h => h) (v_F_giveValue hV (sl_4 hZ.2.1 hi) _) (fun r_ M h_ hfr_ => ?_)
      obtain ⟨rfl, hV⟩ := h_
      have hZ1 := hZ.give hi 0 (fun h => by rw [h5] at h; exact absurd h (by decide)) hV
      have hle1 : nfb P ≤ nfb (p_R_give P i 0) := (Nat.le_refl _)
      have hK1 : Kp P S (exS S i 0 none) := Kp.trans (Kp.refl P S) (Kp.of rfl rfl) (Nat.le_refl _)
      have hi1_0 : i < nfb (p_R_give P i 0) := Nat.lt_of_lt_of_le hi hle1
      have hi1_1 : j < nfb (p_R_give P i 0) := Nat.lt_of_lt_of_le hj hle1
      have hV := hZ1.1
      refine g_aload_n d_D_beginHalt_22 rfl ?_
      refine g_aload_n d_D_beginHalt_23 rfl ?_
      refine g_aload_n d_D_beginHalt_24 rfl ?_
      refine v_geti (v := nI i) (τ := i) 256 rfl hV (sl_4 hZ1.2.1 hi1_0) (by decide) (by decide) fl_D_173 rfl d_D_beginHalt_25 (ad_r (ad_i (ad_r rfl))) (sf_256 hZ1.2.1 hi1_0) ?_
      refine g_callV (k1 := 3) (n1 := 4) [va_rf (some (ad S 4 j)), .int (nI i)] cw_D_102 cv_D_sendInterrupt d_D_beginHalt_28 (ad_r (ad_i (ad_r rfl))) (hV.kdo (sl_0 hZ1.2.1) (by decide)) rfl rfl ⟨by simp, by simp⟩ (by first | decide | omega) (by first | decide | omega) (by first | decide | omega) (fun _ _ h => h) (s_D_sendInterrupt hZ1 hi1_1 (nI i) (h6 j hj) (h15 j hj) (h16 j hj) (fun _ => hq) (ad_r (ad_i (ad_r rfl)))) (fun r_ M h_ hfr_ => ?_)
      obtain ⟨rfl, S2, hZ2, ha2, hb2⟩ := h_
      have hk2 : Kp (p_R_give P i 0) (exS S i 0 none) S2 := Kp.of ha2 hb2
      have hle2 : nfb P ≤ nfb (p_R_strike (p_R_give P i 0) j (nI i)) := (by rw [nfb_strike]; exact hle1)
      have hK2 : Kp P S S2 := Kp.trans hK1 hk2 hle1
      have hi2_0 : i < nfb (p_R_strike (p_R_give P i 0) j (nI i)) := Nat.lt_of_lt_of_le hi hle2
      have hi2_1 : j < nfb (p_R_strike (p_R_give P i 0) j (nI i)) := Nat.lt_of_lt_of_le hj hle2
      have hV := hZ2.1
      refine g_aload_n d_D_beginHalt_31 rfl ?_
      refine v_geti (v := 1) (τ := j) 262 rfl hV (sl_4 hZ2.2.1 hi2_1) (by decide) (by decide) fl_D_98 rfl d_D_beginHalt_32 (ad_k (ad_r (ad_i (ad_r rfl))) (hk2.2.1 j hi1_1)) ((sf_262 hZ2.2.1 hi2_1).trans (by rw [e2]; show endI (P 5 j) = 1; rw [h2]; rfl)) ?_
      refine g_if_ne 49 d_D_beginHalt_35 (by decide) (fun c_35 => ?_) (fun c_35 => ?_)
      · skip
        refine g_return d_D_beginHalt_49 rfl ⟨rfl, S2, ?_, hK2⟩
        unfold hlP hlL; rw [if_neg (fb_in1 hZ.2.2.1 hj), if_neg (fb_in1 hZ.2.2.1 hj), hjn, if_pos h2, if_pos h2, ← e2, ← skL_2 LL (show p_R_give P i 0 5 j = 2 from h2)]
        exact hZ2
      · exact absurd c_35 (by decide)
    · exact absurd (Eq.trans (Eq.symm (rfl : some (ad S 4 j) = some _)) c_7) (by simp)
  by_cases hij : j = i
  · skip
    refine g_aload_n d_D_beginHalt_0 rfl ?_
    refine g_iload_n d_D_beginHalt_1 rfl ?_
    refine g_callV (k1 := 3) (n1 := 4) [.int (nI j)] cw_D_94 cv_D_fiberAt d_D_beginHalt_2 rfl (hV.kdo (sl_0 hZ.2.1) (by decide)) rfl rfl ⟨by simp, by simp⟩ (by first | decide | omega) (by first | decide | omega) (by first | decide | omega) (fun _ _ h => h) (s_fiberIn ⟨hV, hZ.2⟩ hj) (fun r_ M h_ hfr_ => ?_)
    obtain ⟨rfl, hV⟩ := h_
    refine g_astore_n d_D_beginHalt_5 (by decide) ?_
    refine g_aload_n d_D_beginHalt_6 rfl ?_
    refine g_ifnonnull 17 d_D_beginHalt_7 (by decide) (fun a_7 c_7 => ?_) (fun c_7 => ?_)
    · skip
      refine g_aload_n d_D_beginHalt_17 rfl ?_
      refine g_iconst (v := 0) d_D_beginHalt_18 (by decide) ?_
      refine g_callV (k1 := 3) (n1 := 4) [.int (0)] cw_D_242 cv_F_giveValue d_D_beginHalt_19 rfl (hV.kdo (sl_4 hZ.2.1 hi) (by decide)) rfl rfl ⟨by simp, by simp⟩ (by first | decide | omega) (by first | decide | omega) (by first | decide | omega) (fun _ _ h => h) (v_F_giveValue hV (sl_4 hZ.2.1 hi) _) (fun r_ M h_ hfr_ => ?_)
      obtain ⟨rfl, hV⟩ := h_
      have hZ1 := hZ.give hi 0 (fun h => by rw [h5] at h; exact absurd h (by decide)) hV
      have hle1 : nfb P ≤ nfb (p_R_give P i 0) := (Nat.le_refl _)
      have hK1 : Kp P S (exS S i 0 none) := Kp.trans (Kp.refl P S) (Kp.of rfl rfl) (Nat.le_refl _)
      have hi1_0 : i < nfb (p_R_give P i 0) := Nat.lt_of_lt_of_le hi hle1
      have hi1_1 : j < nfb (p_R_give P i 0) := Nat.lt_of_lt_of_le hj hle1
      have hV := hZ1.1
      refine g_aload_n d_D_beginHalt_22 rfl ?_
      refine g_aload_n d_D_beginHalt_23 rfl ?_
      refine g_aload_n d_D_beginHalt_24 rfl ?_
      refine v_geti (v := nI i) (τ := i) 256 rfl hV (sl_4 hZ1.2.1 hi1_0) (by decide) (by decide) fl_D_173 rfl d_D_beginHalt_25 (ad_r (ad_i (ad_r rfl))) (sf_256 hZ1.2.1 hi1_0) ?_
      refine g_callV (k1 := 3) (n1 := 4) [va_rf (some (ad S 4 j)), .int (nI i)] cw_D_102 cv_D_sendInterrupt d_D_beginHalt_28 (ad_r (ad_i (ad_r rfl))) (hV.kdo (sl_0 hZ1.2.1) (by decide)) rfl rfl ⟨by simp, by simp⟩ (by first | decide | omega) (by first | decide | omega) (by first | decide | omega) (fun _ _ h => h) (s_D_sendInterrupt hZ1 hi1_1 (nI i) (h6 j hj) (h15 j hj) (h16 j hj) (fun _ => hq) (ad_r (ad_i (ad_r rfl)))) (fun r_ M h_ hfr_ => ?_)
      obtain ⟨rfl, S2, hZ2, ha2, hb2⟩ := h_
      have hk2 : Kp (p_R_give P i 0) (exS S i 0 none) S2 := Kp.of ha2 hb2
      have hle2 : nfb P ≤ nfb (p_R_strike (p_R_give P i 0) j (nI i)) := (by rw [nfb_strike]; exact hle1)
      have hK2 : Kp P S S2 := Kp.trans hK1 hk2 hle1
      have hi2_0 : i < nfb (p_R_strike (p_R_give P i 0) j (nI i)) := Nat.lt_of_lt_of_le hi hle2
      have hi2_1 : j < nfb (p_R_strike (p_R_give P i 0) j (nI i)) := Nat.lt_of_lt_of_le hj hle2
      have hV := hZ2.1
      refine g_aload_n d_D_beginHalt_31 rfl ?_
      refine v_geti (v := 0) (τ := j) 262 rfl hV (sl_4 hZ2.2.1 hi2_1) (by decide) (by decide) fl_D_98 rfl d_D_beginHalt_32 (ad_k (ad_r (ad_i (ad_r rfl))) (hk2.2.1 j hi1_1)) ((sf_262 hZ2.2.1 hi2_1).trans (by unfold endI; rw [if_neg (strike_5 _ (show ¬ p_R_give P i 0 5 j = 2 from h2))])) ?_
      refine g_if_ne 49 d_D_beginHalt_35 (by decide) (fun c_35 => ?_) (fun c_35 => ?_)
      · exact absurd c_35 (by decide)
      · skip
        refine g_aload_n d_D_beginHalt_38 rfl ?_
        refine g_aload_n d_D_beginHalt_39 rfl ?_
        refine g_acmp_eq 49 d_D_beginHalt_40 (by decide) (fun c_40 => ?_) (fun c_40 => ?_)
        · skip
          refine g_return d_D_beginHalt_49 rfl ⟨rfl, S2, ?_, hK2⟩
          unfold hlP hlL; rw [if_neg (fb_in1 hZ.2.2.1 hj), if_neg (fb_in1 hZ.2.2.1 hj), hjn, if_neg h2, if_neg h2, if_pos (by rw [hij]), ← strike_give, ← skL_give P i 0]
          exact hZ2
        · exact absurd c_40 (fun h => h (by rw [hij]))
    · exact absurd (Eq.trans (Eq.symm (rfl : some (ad S 4 j) = some _)) c_7) (by simp)
  · have hne : ¬ i = j := fun q => hij q.symm
    refine g_aload_n d_D_beginHalt_0 rfl ?_
    refine g_iload_n d_D_beginHalt_1 rfl ?_
    refine g_callV (k1 := 3) (n1 := 4) [.int (nI j)] cw_D_94 cv_D_fiberAt d_D_beginHalt_2 rfl (hV.kdo (sl_0 hZ.2.1) (by decide)) rfl rfl ⟨by simp, by simp⟩ (by first | decide | omega) (by first | decide | omega) (by first | decide | omega) (fun _ _ h => h) (s_fiberIn ⟨hV, hZ.2⟩ hj) (fun r_ M h_ hfr_ => ?_)
    obtain ⟨rfl, hV⟩ := h_
    refine g_astore_n d_D_beginHalt_5 (by decide) ?_
    refine g_aload_n d_D_beginHalt_6 rfl ?_
    refine g_ifnonnull 17 d_D_beginHalt_7 (by decide) (fun a_7 c_7 => ?_) (fun c_7 => ?_)
    · skip
      refine g_aload_n d_D_beginHalt_17 rfl ?_
      refine g_iconst (v := 0) d_D_beginHalt_18 (by decide) ?_
      refine g_callV (k1 := 3) (n1 := 4) [.int (0)] cw_D_242 cv_F_giveValue d_D_beginHalt_19 rfl (hV.kdo (sl_4 hZ.2.1 hi) (by decide)) rfl rfl ⟨by simp, by simp⟩ (by first | decide | omega) (by first | decide | omega) (by first | decide | omega) (fun _ _ h => h) (v_F_giveValue hV (sl_4 hZ.2.1 hi) _) (fun r_ M h_ hfr_ => ?_)
      obtain ⟨rfl, hV⟩ := h_
      have hZ1 := hZ.give hi 0 (fun h => by rw [h5] at h; exact absurd h (by decide)) hV
      have hle1 : nfb P ≤ nfb (p_R_give P i 0) := (Nat.le_refl _)
      have hK1 : Kp P S (exS S i 0 none) := Kp.trans (Kp.refl P S) (Kp.of rfl rfl) (Nat.le_refl _)
      have hi1_0 : i < nfb (p_R_give P i 0) := Nat.lt_of_lt_of_le hi hle1
      have hi1_1 : j < nfb (p_R_give P i 0) := Nat.lt_of_lt_of_le hj hle1
      have hV := hZ1.1
      refine g_aload_n d_D_beginHalt_22 rfl ?_
      refine g_aload_n d_D_beginHalt_23 rfl ?_
      refine g_aload_n d_D_beginHalt_24 rfl ?_
      refine v_geti (v := nI i) (τ := i) 256 rfl hV (sl_4 hZ1.2.1 hi1_0) (by decide) (by decide) fl_D_173 rfl d_D_beginHalt_25 (ad_r (ad_i (ad_r rfl))) (sf_256 hZ1.2.1 hi1_0) ?_
      refine g_callV (k1 := 3) (n1 := 4) [va_rf (some (ad S 4 j)), .int (nI i)] cw_D_102 cv_D_sendInterrupt d_D_beginHalt_28 (ad_r (ad_i (ad_r rfl))) (hV.kdo (sl_0 hZ1.2.1) (by decide)) rfl rfl ⟨by simp, by simp⟩ (by first | decide | omega) (by first | decide | omega) (by first | decide | omega) (fun _ _ h => h) (s_D_sendInterrupt hZ1 hi1_1 (nI i) (h6 j hj) (h15 j hj) (h16 j hj) (fun _ => hq) (ad_r (ad_i (ad_r rfl)))) (fun r_ M h_ hfr_ => ?_)
      obtain ⟨rfl, S2, hZ2, ha2, hb2⟩ := h_
      have hk2 : Kp (p_R_give P i 0) (exS S i 0 none) S2 := Kp.of ha2 hb2
      have hle2 : nfb P ≤ nfb (p_R_strike (p_R_give P i 0) j (nI i)) := (by rw [nfb_strike]; exact hle1)
      have hK2 : Kp P S S2 := Kp.trans hK1 hk2 hle1
      have hi2_0 : i < nfb (p_R_strike (p_R_give P i 0) j (nI i)) := Nat.lt_of_lt_of_le hi hle2
      have hi2_1 : j < nfb (p_R_strike (p_R_give P i 0) j (nI i)) := Nat.lt_of_lt_of_le hj hle2
      have hV := hZ2.1
      refine g_aload_n d_D_beginHalt_31 rfl ?_
      refine v_geti (v := 0) (τ := j) 262 rfl hV (sl_4 hZ2.2.1 hi2_1) (by decide) (by decide) fl_D_98 rfl d_D_beginHalt_32 (ad_k (ad_r (ad_i (ad_r rfl))) (hk2.2.1 j hi1_1)) ((sf_262 hZ2.2.1 hi2_1).trans (by unfold endI; rw [if_neg (strike_5 _ (show ¬ p_R_give P i 0 5 j = 2 from h2))])) ?_
      refine g_if_ne 49 d_D_beginHalt_35 (by decide) (fun c_35 => ?_) (fun c_35 => ?_)
      · exact absurd c_35 (by decide)
      · skip
        refine g_aload_n d_D_beginHalt_38 rfl ?_
        refine g_aload_n d_D_beginHalt_39 rfl ?_
        refine g_acmp_eq 49 d_D_beginHalt_40 (by decide) (fun c_40 => ?_) (fun c_40 => ?_)
        · exact absurd c_40 (fun h => VM.apart hZ.1 (sl_4 hZ.2.1 hi) (sl_4 hZ.2.1 hj) (by omega) (Option.some.inj h))
        · skip
          refine g_aload_n d_D_beginHalt_43 rfl ?_
          refine g_iconst (v := 2) d_D_beginHalt_44 (by decide) ?_
          refine g_iload_n d_D_beginHalt_45 rfl ?_
          refine g_callV (k1 := 3) (n1 := 4) [.int (2), .int (nI j)] cw_D_291 cv_F_waitFor d_D_beginHalt_46 (ad_k (ad_r (ad_i (ad_r rfl))) (hk2.2.1 i hi1_0)) (hV.kdo (sl_4 hZ2.2.1 hi2_0) (by decide)) rfl rfl ⟨by simp, by simp⟩ (by first | decide | omega) (by first | decide | omega) (by first | decide | omega) (fun _ _ h => h) (v_F_waitFor hV (sl_4 hZ2.2.1 hi2_0) _ _) (fun r_ M h_ hfr_ => ?_)
          obtain ⟨rfl, hV⟩ := h_
          have g5 : p_R_strike (p_R_give P i 0) j (nI i) 5 i = 0 := (strike_o _ _ _ hne (by decide) (by decide)).trans h5
          have hAct := sf_act hZ2.2.1 hi2_0 g5 (by rw [strike_o _ _ _ hne (by decide) (by decide), strike_o _ _ _ hne (by decide) (by decide)]; exact hA)
          have hEx := (hAct.2 (by rw [strike_f _ _ _ (by decide)]; simp [p_R_give, up_e])).2.1 (by rw [strike_f _ _ _ (by decide)]; simp [p_R_give, up_e])
          refine g_return d_D_beginHalt_49 rfl ⟨rfl, waS S2 i 2 (nI j), ?_, Kp.trans hK2 (Kp.of (P := P) rfl rfl) (Nat.le_refl _)⟩
          unfold hlP hlL; rw [if_neg (fb_in1 hZ.2.2.1 hj), if_neg (fb_in1 hZ.2.2.1 hj), hjn, if_neg h2, if_neg h2, if_neg (fun q => hij (by have := congrArg tn q; rw [hjn, tn_nI (by omega)] at this; exact this)), ← strike_give, ← skL_give P i 0]
          exact hZ2.rest hi2_0 2 (nI j) 0 (nI j) g5 (fun _ => rfl) (fun q => absurd q (by decide)) (fun q => absurd q (by decide)) (fun _ => ⟨hEx.1, hEx.2.trans (by rw [strike_f _ _ _ (by decide)]; simp [p_R_give, up_e])⟩) hV
    · exact absurd (Eq.trans (Eq.symm (rfl : some (ad S 4 j) = some _)) c_7) (by simp)
set_option maxHeartbeats 1000000 in
set_option maxRecDepth 100000 in
theorem s_D_beginRace {P : Pst} {LL : Lls} {S : Gs} {M : Mm} (hZ : Zt P LL S M) {i e : Nat} (hi : i < nfb P) (h5 : P 5 i = 0) (h15 : P 15 i = 0) (he : lv S 3 e = true) (hk : P 0 e = 15) (hx1 : sm (P 1 e) 39) (hx2 : sm (P 2 e) 39) (v : Int32) (hq : tn (P 43 0) + 1 ≤ nfb P) : Run m_D_beginRace ownC 3 3 32 [va_rf (some (ad S 0 0)), va_rf (some (ad S 4 i)), va_rf (some (ad S 3 e)), .int v] M (fun r M' => r = none ∧ ∃ S', Zt (if P 42 0 ≤ 8 then p_R_rest (up (up (p_R_make (up (p_R_make P (P 1 e) v (nI i)) 19 i (a_R_make P (P 1 e) v (nI i))) (P 2 e) v (nI i)) 20 i (a_R_make (up (p_R_make P (P 1 e) v (nI i)) 19 i (a_R_make P (P 1 e) v (nI i))) (P 2 e) v (nI i))) 21 i (-1)) i 3 0 0 else p_R_fail P i 2 (-1)) (if P 42 0 ≤ 8 then upL LL 0 (LL 0 ++ [nfb P] ++ [nfb P + 1]) else LL) S' M' ∧ Kp P S S') := by
  have hx0 : ¬ a_R_needs (P 0 e) ≤ 0 := by rw [hk]; decide
  have hy0 : ¬ a_R_needs (P 0 e) ≤ 1 := by rw [hk]; decide
  have hV := hZ.1
  refine Run.ofG (by decide) (by simp [cat_int, cat_rf]) (Nat.le_of_ble_eq_true rfl) ?_
  refine g_aload_n d_D_beginRace_0 rfl ?_
  refine v_geti (v := P 42 0) (τ := 0) 3 rfl hV (sl_0 hZ.2.1) (by decide) (by decide) fl_D_25 rfl d_D_beginRace_1 rfl (sd_3 hZ.2.1) ?_
  refine g_iconst (v := 2) d_D_beginRace_4 (by decide) ?_
  refine g_iadd d_D_beginRace_5 ?_
  refine g_bipush (v := 10) d_D_beginRace_6 (by decide) ?_
  refine g_icmp_le 17 d_D_beginRace_8 (by decide) (fun c_8 => ?_) (fun c_8 => ?_)
  · have h8 := nf_le8 hZ.2.2.1 c_8; have hn1 : nfb P < 10 := (by omega); have hq1 : tn (P 43 0) < 10 := (by have : tn (P 42 0) ≤ 8 := h8.1; omega)
    refine g_aload_n d_D_beginRace_17 rfl ?_
    refine g_iconst (v := 3) d_D_beginRace_18 (by decide) ?_
    refine g_aload_n d_D_beginRace_19 rfl ?_
    refine v_geti (v := P 42 0) (τ := 0) 3 rfl hV (sl_0 hZ.2.1) (by decide) (by decide) fl_D_25 rfl d_D_beginRace_20 rfl (sd_3 hZ.2.1) ?_
    refine g_callV (k1 := 3) (n1 := 32) [.int (3), .int (P 42 0)] cw_D_291 cv_F_waitFor d_D_beginRace_23 rfl (hV.kdo (sl_4 hZ.2.1 hi) (by decide)) rfl rfl ⟨by simp, by simp⟩ (by first | decide | omega) (by first | decide | omega) (by first | decide | omega) (fun _ _ h => h) (v_F_waitFor hV (sl_4 hZ.2.1 hi) _ _) (fun r_ M h_ hfr_ => ?_)
    obtain ⟨rfl, hV⟩ := h_
    have hZ1 : Zt (p_R_rest (pre3 P i) i 3 0 0) LL (waS S i 3 (P 42 0)) _ := (hZ.pre3 hi h8.1 h15).rest hi 3 0 0 (P 42 0) h5 (fun q => absurd q (by decide)) (fun _ => by simp [pre3, up_e]) (fun q => absurd q (by decide)) (fun q => absurd q (by decide)) hV
    have hle1 : nfb P ≤ nfb (p_R_rest (pre3 P i) i 3 0 0) := (Nat.le_refl _)
    have hK1 : Kp P S (waS S i 3 (P 42 0)) := Kp.trans (Kp.refl P S) (Kp.of rfl rfl) (Nat.le_refl _)
    have hi1_0 : i < nfb (p_R_rest (pre3 P i) i 3 0 0) := Nat.lt_of_lt_of_le hi hle1
    have hl1_0 : lv (waS S i 3 (P 42 0)) 3 e = true := hK1.2.2 3 _ he
    have hl1_1 : lv (waS S i 3 (P 42 0)) 3 (tn (P 1 e)) = true := hK1.2.2 3 _ (sl_x hZ.2.1 he hx0)
    have hl1_2 : lv (waS S i 3 (P 42 0)) 3 (tn (P 2 e)) = true := hK1.2.2 3 _ (sl_y hZ.2.1 he hy0)
    have hV := hZ1.1
    refine g_aload_n d_D_beginRace_26 rfl ?_
    refine g_aload_n d_D_beginRace_27 rfl ?_
    refine v_getr (v := some (ad (waS S i 3 (P 42 0)) 3 (tn (P 1 e)))) (τ := e) 194 rfl hV hl1_0 (by decide) (by decide) fl_D_248 rfl d_D_beginRace_28 (ad_i (ad_i (ad_r rfl))) (se_194 hZ1.2.1 hl1_0 hx0) ?_
    refine g_iload_n d_D_beginRace_31 rfl ?_
    refine g_aload_n d_D_beginRace_32 rfl ?_
    refine v_geti (v := nI i) (τ := i) 256 rfl hV (sl_4 hZ1.2.1 hi1_0) (by decide) (by decide) fl_D_173 rfl d_D_beginRace_33 (ad_i (ad_i (ad_r rfl))) (sf_256 hZ1.2.1 hi1_0) ?_
    refine g_callV (k1 := 2) (n1 := 16) [va_rf (some (ad (waS S i 3 (P 42 0)) 3 (tn (P 1 e)))), .int (v), .int (nI i)] cw_D_79 cv_D_makeFiber d_D_beginRace_36 (ad_i (ad_i (ad_r rfl))) (hV.kdo (sl_0 hZ1.2.1) (by decide)) rfl rfl ⟨by simp, by simp⟩ (by first | decide | omega) (by first | decide | omega) (by first | decide | omega) (fun _ _ h => h) (s_D_makeFiber hZ1 (P 1 e) v (nI i) (sm_n0 hx1 (by decide)) hx1.2 hl1_1 hn1 hq1 rfl) (fun r_ M h_ hfr_ => ?_)
    obtain ⟨rfl, S2, hZ2, hk2⟩ := h_
    have hle2 : nfb P ≤ nfb (p_R_make (p_R_rest (pre3 P i) i 3 0 0) (P 1 e) v (nI i)) := (by rw [nfb_make hZ1.2.2.1 hn1]; exact Nat.le_succ _)
    have hK2 : Kp P S S2 := Kp.trans hK1 hk2 hle1
    have hi2_0 : i < nfb (p_R_make (p_R_rest (pre3 P i) i 3 0 0) (P 1 e) v (nI i)) := Nat.lt_of_lt_of_le hi hle2
    have hl2_0 : lv S2 3 e = true := hK2.2.2 3 _ he
    have hl2_1 : lv S2 3 (tn (P 1 e)) = true := hK2.2.2 3 _ (sl_x hZ.2.1 he hx0)
    have hl2_2 : lv S2 3 (tn (P 2 e)) = true := hK2.2.2 3 _ (sl_y hZ.2.1 he hy0)
    have hV := hZ2.1
    have en2 : nfb (p_R_make (p_R_rest (pre3 P i) i 3 0 0) (P 1 e) v (nI i)) = nfb P + 1 := nfb_make hZ1.2.2.1 hn1 _ _ _
    have hn2 : nfb (p_R_make (p_R_rest (pre3 P i) i 3 0 0) (P 1 e) v (nI i)) < 10 := by rw [en2]; omega
    have hq2 : tn ((p_R_make (p_R_rest (pre3 P i) i 3 0 0) (P 1 e) v (nI i)) 43 0) < 10 := by rw [show (p_R_make (p_R_rest (pre3 P i) i 3 0 0) (P 1 e) v (nI i)) 43 0 = P 43 0 + 1 by simp [p_R_make, p_R_rest, pre3, up_e], tn_inc (hZ.2.2.1 43 0).1 (by omega)]; omega
    refine g_aload_n d_D_beginRace_39 rfl ?_
    refine g_aload_n d_D_beginRace_40 rfl ?_
    refine v_getr (v := some (ad S2 3 (tn (P 2 e)))) (τ := e) 195 rfl hV hl2_0 (by decide) (by decide) fl_D_274 rfl d_D_beginRace_41 (ad_k (ad_i (ad_i (ad_r rfl))) (hk2.1 3 e (by decide) (by decide) hl1_0)) (se_195 hZ2.2.1 hl2_0 hy0) ?_
    refine g_iload_n d_D_beginRace_44 rfl ?_
    refine g_aload_n d_D_beginRace_45 rfl ?_
    refine v_geti (v := nI i) (τ := i) 256 rfl hV (sl_4 hZ2.2.1 hi2_0) (by decide) (by decide) fl_D_173 rfl d_D_beginRace_46 (ad_k (ad_i (ad_i (ad_r rfl))) (hk2.2.1 i hi1_0)) (sf_256 hZ2.2.1 hi2_0) ?_
    refine g_callV (k1 := 1) (n1 := 0) [va_rf (some (ad S2 3 (tn (P 2 e)))), .int (v), .int (nI i)] cw_D_79 cv_D_makeFiber d_D_beginRace_49 (ad_k (ad_i (ad_i (ad_r rfl))) (hk2.1 0 0 (by decide) (by decide) (sl_0 hZ1.2.1))) (hV.kdo (sl_0 hZ2.2.1) (by decide)) rfl rfl ⟨by simp, by simp⟩ (by first | decide | omega) (by first | decide | omega) (by first | decide | omega) (fun _ _ h => h) (s_D_makeFiber hZ2 (P 2 e) v (nI i) (sm_n0 hx2 (by decide)) hx2.2 hl2_2 hn2 hq2 rfl) (fun r_ M h_ hfr_ => ?_)
    obtain ⟨rfl, S3, hZ3, hk3⟩ := h_
    have hle3 : nfb P ≤ nfb (p_R_make (p_R_make (p_R_rest (pre3 P i) i 3 0 0) (P 1 e) v (nI i)) (P 2 e) v (nI i)) := (by rw [nfb_make hZ2.2.2.1 hn2]; exact Nat.le_succ_of_le hle2)
    have hK3 : Kp P S S3 := Kp.trans hK2 hk3 hle2
    have hi3_0 : i < nfb (p_R_make (p_R_make (p_R_rest (pre3 P i) i 3 0 0) (P 1 e) v (nI i)) (P 2 e) v (nI i)) := Nat.lt_of_lt_of_le hi hle3
    have hl3_0 : lv S3 3 e = true := hK3.2.2 3 _ he
    have hl3_1 : lv S3 3 (tn (P 1 e)) = true := hK3.2.2 3 _ (sl_x hZ.2.1 he hx0)
    have hl3_2 : lv S3 3 (tn (P 2 e)) = true := hK3.2.2 3 _ (sl_y hZ.2.1 he hy0)
    have hV := hZ3.1
    refine g_return d_D_beginRace_52 rfl ⟨rfl, S3, ?_, hK3⟩
    rw [if_pos h8.2, if_pos h8.2, ← race_eq hZ.2.2.1 hi h8.1, show upL LL 0 (LL 0 ++ [nfb P] ++ [nfb P + 1]) = (upL (upL LL 0 (LL 0 ++ [nfb P])) 0 ((upL LL 0 (LL 0 ++ [nfb P])) 0 ++ [nfb (p_R_make (p_R_rest (pre3 P i) i 3 0 0) (P 1 e) v (nI i))])) by rw [upL_upL, upL_s, en2]]
    exact hZ3
  · have n8 := nf_gt8 hZ.2.2.1 c_8
    refine g_aload_n d_D_beginRace_11 rfl ?_
    refine g_iconst (v := -1) d_D_beginRace_12 (by decide) ?_
    refine g_callV (k1 := 0) (n1 := 28) [.int (-1)] cw_D_245 cv_F_die d_D_beginRace_13 rfl (hV.kdo (sl_4 hZ.2.1 hi) (by decide)) rfl rfl ⟨by simp, by simp⟩ (by first | decide | omega) (by first | decide | omega) (by first | decide | omega) (fun _ _ h => h) (s_F_die ⟨hV, hZ.2⟩ hi _ (fun h => by rw [h5] at h; exact absurd h (by decide))) (fun r_ M h_ hfr_ => ?_)
    obtain ⟨rfl, S1, hZ1, ha1, hb1⟩ := h_
    have hk1 : Kp P S S1 := Kp.of ha1 hb1
    have hle1 : nfb P ≤ nfb (p_R_fail P i 2 (-1)) := (Nat.le_refl _)
    have hK1 : Kp P S S1 := Kp.trans (Kp.refl P S) hk1 (Nat.le_refl _)
    have hi1_0 : i < nfb (p_R_fail P i 2 (-1)) := Nat.lt_of_lt_of_le hi hle1
    have hl1_0 : lv S1 3 e = true := hK1.2.2 3 _ he
    have hl1_1 : lv S1 3 (tn (P 1 e)) = true := hK1.2.2 3 _ (sl_x hZ.2.1 he hx0)
    have hl1_2 : lv S1 3 (tn (P 2 e)) = true := hK1.2.2 3 _ (sl_y hZ.2.1 he hy0)
    have hV := hZ1.1
    exact g_return d_D_beginRace_16 rfl ⟨rfl, S1, by rw [if_neg n8, if_neg n8]; exact hZ1, hK1⟩
set_option maxHeartbeats 1000000 in
set_option maxRecDepth 100000 in
theorem s_D_beginSleep {P : Pst} {LL : Lls} {S : Gs} {M : Mm} (hZ : Zt P LL S M) {i : Nat} (hi : i < nfb P) (h5 : P 5 i = 0) (h15 : P 15 i = 0) (n v : Int32) : Run m_D_beginSleep ownC 2 0 0 [va_rf (some (ad S 0 0)), va_rf (some (ad S 4 i)), .int n, .int v] M (fun r M' => r = none ∧ ∃ S', Zt (slP P i n v) (LL) S' M' ∧ Kp P S S') := by
  have hV := hZ.1
  refine Run.ofG (by decide) (by simp [cat_int, cat_rf]) (Nat.le_of_ble_eq_true rfl) ?_
  refine g_aload_n d_D_beginSleep_0 rfl ?_
  refine g_iload_n d_D_beginSleep_1 rfl ?_
  refine g_callV (k1 := 0) (n1 := 0) [.int (v)] cw_D_242 cv_F_giveValue d_D_beginSleep_2 rfl (hV.kdo (sl_4 hZ.2.1 hi) (by decide)) rfl rfl ⟨by simp, by simp⟩ (by first | decide | omega) (by first | decide | omega) (by first | decide | omega) (fun _ _ h => h) (v_F_giveValue hV (sl_4 hZ.2.1 hi) _) (fun r_ M h_ hfr_ => ?_)
  obtain ⟨rfl, hV⟩ := h_
  have hZ1 := hZ.give hi v (fun h => by rw [h5] at h; exact absurd h (by decide)) hV
  have hle1 : nfb P ≤ nfb (p_R_give P i v) := (Nat.le_refl _)
  have hK1 : Kp P S (exS S i v none) := Kp.trans (Kp.refl P S) (Kp.of rfl rfl) (Nat.le_refl _)
  have hi1_0 : i < nfb (p_R_give P i v) := Nat.lt_of_lt_of_le hi hle1
  have hV := hZ1.1
  refine g_iload_n d_D_beginSleep_5 rfl ?_
  refine g_iconst (v := 1) d_D_beginSleep_6 (by decide) ?_
  refine g_icmp_lt 32 d_D_beginSleep_7 (by decide) (fun c_7 => ?_) (fun c_7 => ?_)
  · skip
    exact g_return d_D_beginSleep_32 rfl ⟨rfl, exS S i v none, by unfold slP; rw [if_pos ((lt1_le0 n).mp c_7)]; exact hZ1, Kp.of rfl rfl⟩
  · skip
    refine g_aload_n d_D_beginSleep_10 rfl ?_
    refine g_aload_n d_D_beginSleep_11 rfl ?_
    refine v_geti (v := P 44 0) (τ := 0) 8 rfl hV (sl_0 hZ1.2.1) (by decide) (by decide) fl_D_48 rfl d_D_beginSleep_12 (ad_r (ad_i (ad_r rfl))) (sd_8 hZ1.2.1 :) ?_
    refine g_iload_n d_D_beginSleep_15 rfl ?_
    refine g_sipush (v := 1000) d_D_beginSleep_16 (by decide) ?_
    refine g_min mn_D_294 d_D_beginSleep_19 ⟨by simp [cat_rf, cat_int], by simp⟩ (by decide) ?_
    refine g_iadd d_D_beginSleep_22 ?_
    refine v_puti (τ := i) 271 rfl hV (sl_4 hZ1.2.1 hi1_0) (by decide) (by decide) fl_D_230 (Or.inr (fun r h => by cases h; rfl)) rfl d_D_beginSleep_23 (ad_r (ad_i (ad_r rfl))) (fun M hV => ?_)
    have hZ2 : Zt (p_R_give P i v) LL (ui (exS S i v none) 271 i (P 44 0 + if 1000 < n then 1000 else n)) _ := hZ1.wakes hi h15 _ hV
    have hle2 : nfb P ≤ nfb (p_R_give P i v) := hle1
    have hK2 : Kp P S (ui (exS S i v none) 271 i (P 44 0 + if 1000 < n then 1000 else n)) := Kp.trans hK1 (Kp.of rfl rfl) hle1
    have hi2_0 : i < nfb (p_R_give P i v) := Nat.lt_of_lt_of_le hi hle2
    have hV := hZ2.1
    refine g_aload_n d_D_beginSleep_26 rfl ?_
    refine g_iconst (v := 4) d_D_beginSleep_27 (by decide) ?_
    refine g_iconst (v := -1) d_D_beginSleep_28 (by decide) ?_
    refine g_callV (k1 := 0) (n1 := 0) [.int (4), .int (-1)] cw_D_291 cv_F_waitFor d_D_beginSleep_29 (ad_i (ad_r (ad_i (ad_r rfl)))) (hV.kdo (sl_4 hZ2.2.1 hi2_0) (by decide)) rfl rfl ⟨by simp, by simp⟩ (by first | decide | omega) (by first | decide | omega) (by first | decide | omega) (fun _ _ h => h) (v_F_waitFor hV (sl_4 hZ2.2.1 hi2_0) _ _) (fun r_ M h_ hfr_ => ?_)
    obtain ⟨rfl, hV⟩ := h_
    refine g_return d_D_beginSleep_32 rfl ⟨rfl, waS (ui (exS S i v none) 271 i (P 44 0 + if 1000 < n then 1000 else n)) i 4 (-1), ?_, Kp.of rfl rfl⟩
    unfold slP; rw [if_neg (fun q => c_7 ((lt1_le0 n).mpr q)), ← mn_eq]
    refine hZ2.rest hi 4 (P 44 0 + if 1000 < n then 1000 else n) v (-1) h5 (fun q => absurd q (by decide)) (fun q => absurd q (by decide)) (fun _ => by rw [vi_ui_s]) (fun _ => ⟨?_, ?_⟩) hV
    · rw [vr_ui]; exact exS_261 _ _ _ _
    · rw [vi_ui_f (by decide), if_neg (by decide)]; exact exS_260 _ _ _ _
