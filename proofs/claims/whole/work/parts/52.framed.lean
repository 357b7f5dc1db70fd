/-! registering, beginning under a frame (by program: wip/tools/gen_s10.py) -/
theorem rsc_sp {P : Pst} {f : Nat} : ∀ d {p : Nat}, rsc P f d = p + 1 → p < d ∧ P 23 (16 * f + p) = 10 ∧ ¬ P 25 (16 * f + p) = 9
  | 0, p, h => absurd h (by simp [rsc])
  | d + 1, p, h => by
    by_cases h23 : P 23 (16 * f + d) = 10
    · by_cases h25 : P 25 (16 * f + d) = 9
      · rw [rsc_a h23 h25] at h
        obtain ⟨a, b, c⟩ := rsc_sp d h
        exact ⟨by omega, b, c⟩
      · have e : rsc P f (d + 1) = d + 1 := by
          show (if P 23 (16 * f + d) = 10 then (if P 25 (16 * f + d) = 9 then rsc P f d else d + 1) else rsc P f d) = _
          rw [if_pos h23, if_neg h25]
        rw [e] at h
        have : d = p := by omega
        subst this
        exact ⟨by omega, h23, h25⟩
    · rw [rsc_b h23] at h
      obtain ⟨a, b, c⟩ := rsc_sp d h
      exact ⟨by omega, b, c⟩
theorem rg_0 {i : Nat} (hi : i < 10) : nI (16 * i + 0) - 1 < 16 * nI i := by
  have e : (16 : Int32) * nI i = nI (16 * i) := ix_mul (a := 16) rfl rfl
  rcases Nat.eq_zero_or_pos i with h | h
  · subst h; decide
  · rw [e, show nI (16 * i + 0) - 1 = nI (16 * i - 1) from ix_sub (y := 1) (a := 16 * i) (b := 1) rfl rfl (by omega)]
    exact Int32.not_le.mp (ix_nle (a := 16 * i) (b := 16 * i - 1) rfl rfl (by omega) (by omega))
theorem rg_s {i p : Nat} (hi : i < 10) (hp : p < 16) : ¬ nI (16 * i + (p + 1)) - 1 < 16 * nI i := by
  have e : (16 : Int32) * nI i = nI (16 * i) := ix_mul (a := 16) rfl rfl
  rw [e, show nI (16 * i + (p + 1)) - 1 = nI (16 * i + p) from (ix_sub (y := 1) (a := 16 * i + (p + 1)) (b := 1) rfl rfl (by omega)).trans (congrArg nI (by omega))]
  exact ix_nlt (a := 16 * i + p) (b := 16 * i) rfl rfl (by omega) (by omega)
theorem c4_lt {P : Pst} (hw : WB P) {k : Nat} (h : P 28 k < 4) : tn (P 28 k) < 4 ∧ ¬ P 28 k = 4 := by
  have h4 : tn (P 28 k) ≤ 4 := (hw 28 k).2
  have h1 : tn (P 28 k) < 4 := by
    rcases Nat.lt_or_ge (tn (P 28 k)) 4 with q | q
    · exact q
    · exact absurd h (ix_nlt (hw 28 k).1 (b := 4) rfl q (by omega))
  exact ⟨h1, fun q => by rw [q] at h1; exact absurd h1 (by decide)⟩
theorem c4_ge {P : Pst} (hw : WB P) {k : Nat} (h : ¬ P 28 k < 4) : P 28 k = 4 := by
  have h4 : tn (P 28 k) ≤ 4 := (hw 28 k).2
  rcases Nat.lt_or_ge (tn (P 28 k)) 4 with q | q
  · exact absurd (Int32.not_le.mp (ix_nle (a := 4) rfl (hw 28 k).1 q (by decide))) h
  · rw [(hw 28 k).1, show tn (P 28 k) = 4 by omega]; rfl
theorem d16_lt {P : Pst} (hw : WB P) {i : Nat} (h : P 22 i < 16) : tn (P 22 i) < 16 ∧ ¬ P 22 i = 16 := by
  have h4 : tn (P 22 i) ≤ 16 := (hw 22 i).2
  have h1 : tn (P 22 i) < 16 := by
    rcases Nat.lt_or_ge (tn (P 22 i)) 16 with q | q
    · exact q
    · exact absurd h (ix_nlt (hw 22 i).1 (b := 16) rfl q (by omega))
  exact ⟨h1, fun q => by rw [q] at h1; exact absurd h1 (by decide)⟩
theorem d16_ge {P : Pst} (hw : WB P) {i : Nat} (h : ¬ P 22 i < 16) : P 22 i = 16 := by
  have h4 : tn (P 22 i) ≤ 16 := (hw 22 i).2
  rcases Nat.lt_or_ge (tn (P 22 i)) 16 with q | q
  · exact absurd (Int32.not_le.mp (ix_nle (a := 16) rfl (hw 22 i).1 q (by decide))) h
  · rw [(hw 22 i).1, show tn (P 22 i) = 16 by omega]; rfl
theorem clst_new {P : Pst} {i e : Nat} {v m : Int32} (he : e < 40) : clst (up (p_R_frame P i e v) 10 i m) (16 * i + tn (P 22 i)) = if P 0 e = 6 then [(P 2 e, v)] else [] := by
  obtain ⟨f10, f22, f23, f24, f25, f26, f28, f31⟩ := fr_f P i e v m
  unfold clst
  rw [f23, f24, f25, f26, f28, tn_nI (by omega), fr_e P i e v m (by omega), fr_e P i e v m (by omega)]
  by_cases h6 : P 0 e = 6
  · rw [if_pos h6, if_neg (by rw [h6]; decide), if_pos h6]
  · have r6 : (if P 0 e = 6 then [(P 2 e, v)] else []) = ([] : List (Int32 × Int32)) := if_neg h6
    rw [r6]
    by_cases h10 : P 0 e = 10
    · rw [if_pos (Or.inr h10)]; rfl
    · rw [if_neg (by intro q; rcases q with q | q; exact absurd q (by decide); exact h10 q), if_neg h6]
      split
      · rw [if_pos rfl]
      · rfl
theorem Kp_pS {P1 : Pst} {S : Gs} {i k q : Nat} {o : Option Nat} {b : Int32} {z : Option Nat} {m d : Int32} {S' : Gs} (ha : ad S' = ad (pS S i k q o b z m d)) (hl : lv S' = lv (pS S i k q o b z m d)) : Kp P1 S S' := by
  refine ⟨fun c τ h1 h2 _ => ?_, fun j hj => ?_, fun c τ h => ?_⟩
  · rw [ha, pS_ad, if_neg (by omega)]
  · rw [ha, pS_ad, if_neg (by omega)]
  · rw [hl, pS_lv]; split; rfl; exact h
theorem holdS_sx2 {S : Gs} {k q : Nat} (hq : kl S q = none) (o : Option Nat) (v : Int32) : Sx (fun f τ => (f = 323 ∨ f = 324) ∧ τ = k) S (holdS S k q o v) := ((Sx.kl (Sx.refl _ S) hq _).ur (by omega) _).ui (by omega) _
theorem holdS_c {S : Gs} {k q : Nat} {o z : Option Nat} {v x : Int32} (hz : vr S 323 k = none) (ho : o = some (ad S 3 (tn x))) (hl : lv S 3 (tn x) = true) : CLs (holdS S k q o v) (vr (holdS S k q o v) 323 k) [(x, v)] := by
  have e1 : vr (holdS S k q o v) 323 k = some q := by simp [holdS, vr_ui, vr_ur]
  have e2 : kl (holdS S k q o v) q = some (o, v, vr S 323 k) := by
    show (if q = q then _ else _) = _
    rw [if_pos rfl]
  rw [e1]
  exact ⟨q, none, rfl, hl, by rw [e2, hz, ho]; rfl, rfl⟩
def mkM (P : Pst) (i e : Nat) : Int32 := if P 0 e = 7 ∨ P 0 e = 8 then 1 else if P 0 e = 9 then moP P i (tn (P 22 i)) else P 10 i
def frP (P : Pst) (i e : Nat) (v : Int32) : Pst := if P 22 i = 16 then p_R_fail P i 2 (-4) else p_R_does (up (p_R_frame P i e v) 10 i (mkM P i e)) i (P 1 e) v
set_option maxHeartbeats 1000000 in
set_option maxRecDepth 100000 in
theorem s_F_register {P : Pst} {LL : Lls} {S : Gs} {M : Mm} (hZ : Zt P LL S M) {i : Nat} (hi : i < nfb P) (h5 : P 5 i = 0) (hF : ∀ p, p < tn (P 22 i) → P 0 (tn (P 24 (16 * i + p))) = P 23 (16 * i + p)) {x : Int32} (hx : sm x 39) (hl : lv S 3 (tn x) = true) (v : Int32) : Run m_F_register ownC 3 3 4 [va_rf (some (ad S 4 i)), va_rf (some (ad S 3 (tn x))), .int v] M (fun r M' => r = none ∧ ∃ S', Zt (p_R_register P i x v) (LL) S' M' ∧ Kp P S S') := by
  have hV := hZ.1
  refine Run.ofG (by decide) (by simp [cat_int, cat_rf]) (Nat.le_of_ble_eq_true rfl) ?_
  have hi10 := Nat.lt_of_lt_of_le hi (n10 hZ.2.2.1)
  have hd16 : tn (P 22 i) ≤ 16 := (hZ.2.2.1 22 i).2
  cases hr : rsc P i (tn (P 22 i)) with
  | zero =>
    refine g_aload_n d_F_register_0 rfl ?_
    refine g_callV (k1 := 3) (n1 := 4) [] cw_F_117 cv_F_openScope d_F_register_1 rfl (hV.kdo (sl_4 hZ.2.1 hi) (by decide)) rfl rfl ⟨by simp, by simp⟩ (by first | decide | omega) (by first | decide | omega) (by first | decide | omega) (fun _ _ h => h) (s_F_openScope ⟨hV, hZ.2⟩ hi hF) (fun r_ M h_ hfr_ => ?_)
    obtain ⟨rfl, hV⟩ := h_
    rw [hr, topR_0]
    refine g_astore_n d_F_register_4 (by decide) ?_
    refine g_aload_n d_F_register_5 rfl ?_
    refine g_ifnull 17 d_F_register_6 (by decide) (fun c_6 => ?_) (fun a_6 c_6 => ?_)
    · skip
      refine g_aload_n d_F_register_17 rfl ?_
      refine g_bipush (v := -3) d_F_register_18 (by decide) ?_
      refine g_callV (k1 := 0) (n1 := 0) [.int (-3)] cw_F_77 cv_F_die d_F_register_20 rfl (hV.kdo (sl_4 hZ.2.1 hi) (by decide)) rfl rfl ⟨by simp, by simp⟩ (by first | decide | omega) (by first | decide | omega) (by first | decide | omega) (fun _ _ h => h) (s_F_die ⟨hV, hZ.2⟩ hi _ (fun h => absurd (h5.symm.trans h) (by decide))) (fun r_ M h_ hfr_ => ?_)
      obtain ⟨rfl, S1, hZ1, ha1, hb1⟩ := h_
      have hk1 : Kp P S S1 := Kp.of ha1 hb1
      have hle1 : nfb P ≤ nfb (p_R_fail P i 2 (-3)) := (Nat.le_refl _)
      have hK1 : Kp P S S1 := Kp.trans (Kp.refl P S) hk1 (Nat.le_refl _)
      have hi1_0 : i < nfb (p_R_fail P i 2 (-3)) := Nat.lt_of_lt_of_le hi hle1
      have hl1_0 : lv S1 3 (tn x) = true := hK1.2.2 3 _ hl
      have hV := hZ1.1
      refine g_return d_F_register_23 rfl ⟨rfl, S1, ?_, hK1⟩
      unfold p_R_register; rw [hr, if_pos (rg_0 hi10)]; exact hZ1
    · exact absurd c_6 (by simp)
  | succ p =>
    obtain ⟨hp, h23, h25⟩ := rsc_sp _ hr
    have hk : 16 * i + (p + 1 - 1) = 16 * i + p := by omega
    refine g_aload_n d_F_register_0 rfl ?_
    refine g_callV (k1 := 3) (n1 := 4) [] cw_F_117 cv_F_openScope d_F_register_1 rfl (hV.kdo (sl_4 hZ.2.1 hi) (by decide)) rfl rfl ⟨by simp, by simp⟩ (by first | decide | omega) (by first | decide | omega) (by first | decide | omega) (fun _ _ h => h) (s_F_openScope ⟨hV, hZ.2⟩ hi hF) (fun r_ M h_ hfr_ => ?_)
    obtain ⟨rfl, hV⟩ := h_
    rw [hr, topR_s]
    refine g_astore_n d_F_register_4 (by decide) ?_
    refine g_aload_n d_F_register_5 rfl ?_
    refine g_ifnull 17 d_F_register_6 (by decide) (fun c_6 => ?_) (fun a_6 c_6 => ?_)
    · exact absurd (Eq.trans (Eq.symm (rfl : some (ad S 5 (16 * i + p)) = some _)) c_6) (by simp)
    · skip
      refine g_aload_n d_F_register_9 rfl ?_
      refine v_geti (v := P 28 (16 * i + p)) (τ := (16 * i + p)) 324 rfl hV (sl_5 hZ.2.1 hi hp) (by decide) (by decide) fl_F_121 rfl d_F_register_10 rfl ((hZ.2.1.2.2.2.2.2.1 i p hi hp).2.2.1 h23 h25) ?_
      refine g_iconst (v := 4) d_F_register_13 (by decide) ?_
      refine g_icmp_lt 24 d_F_register_14 (by decide) (fun c_14 => ?_) (fun c_14 => ?_)
      · have hm := c4_lt hZ.2.2.1 c_14
        refine g_aload_n d_F_register_24 rfl ?_
        refine g_aload_n d_F_register_25 rfl ?_
        refine g_iload_n d_F_register_26 rfl ?_
        refine g_callV (k1 := 2) (n1 := 1) [va_rf (some (ad S 3 (tn x))), .int (v)] cw_F_98 cv_Q_hold d_F_register_27 rfl (hV.kdo (sl_5 hZ.2.1 hi hp) (by decide)) rfl rfl ⟨by simp, by simp⟩ (by first | decide | omega) (by first | decide | omega) (by first | decide | omega) (fun _ _ h => h) (s_Q_hold hV (sl_5 hZ.2.1 hi hp) _ _) (fun r_ M h_ hfr_ => ?_)
        obtain ⟨rfl, q2, hq2, hV⟩ := h_
        have hZ1 := hZ.hold hi hp h23 h25 hm.1 v hx hl hq2 hV
        have hle1 : nfb P ≤ nfb (holdP P (16 * i + p) x v) := (Nat.le_refl _)
        have hK1 : Kp P S (holdS S (16 * i + p) q2 (some (ad S 3 (tn x))) v) := Kp.trans (Kp.refl P S) (Kp.of rfl rfl) (Nat.le_refl _)
        have hi1_0 : i < nfb (holdP P (16 * i + p) x v) := Nat.lt_of_lt_of_le hi hle1
        have hl1_0 : lv (holdS S (16 * i + p) q2 (some (ad S 3 (tn x))) v) 3 (tn x) = true := hK1.2.2 3 _ hl
        have hV := hZ1.1
        refine g_aload_n d_F_register_30 rfl ?_
        refine g_iload_n d_F_register_31 rfl ?_
        refine g_callV (k1 := 2) (n1 := 1) [.int (v)] cw_F_124 cv_F_giveValue d_F_register_32 (ad_i (ad_r (ad_l rfl))) (hV.kdo (sl_4 hZ1.2.1 hi1_0) (by decide)) rfl rfl ⟨by simp, by simp⟩ (by first | decide | omega) (by first | decide | omega) (by first | decide | omega) (fun _ _ h => h) (v_F_giveValue hV (sl_4 hZ1.2.1 hi1_0) _) (fun r_ M h_ hfr_ => ?_)
        obtain ⟨rfl, hV⟩ := h_
        refine g_return d_F_register_35 rfl ⟨rfl, exS (holdS S (16 * i + p) q2 (some (ad S 3 (tn x))) v) i v none, ?_, Kp.trans hK1 (Kp.of (P := P) rfl rfl) (Nat.le_refl _)⟩
        unfold p_R_register; rw [hr, if_neg (rg_s hi10 (by omega)), hk, if_neg hm.2]
        exact hZ1.give hi1_0 v (fun h => absurd (h5.symm.trans h) (by decide)) hV
      · skip
        refine g_aload_n d_F_register_17 rfl ?_
        refine g_bipush (v := -3) d_F_register_18 (by decide) ?_
        refine g_callV (k1 := 0) (n1 := 0) [.int (-3)] cw_F_77 cv_F_die d_F_register_20 rfl (hV.kdo (sl_4 hZ.2.1 hi) (by decide)) rfl rfl ⟨by simp, by simp⟩ (by first | decide | omega) (by first | decide | omega) (by first | decide | omega) (fun _ _ h => h) (s_F_die ⟨hV, hZ.2⟩ hi _ (fun h => absurd (h5.symm.trans h) (by decide))) (fun r_ M h_ hfr_ => ?_)
        obtain ⟨rfl, S1, hZ1, ha1, hb1⟩ := h_
        have hk1 : Kp P S S1 := Kp.of ha1 hb1
        have hle1 : nfb P ≤ nfb (p_R_fail P i 2 (-3)) := (Nat.le_refl _)
        have hK1 : Kp P S S1 := Kp.trans (Kp.refl P S) hk1 (Nat.le_refl _)
        have hi1_0 : i < nfb (p_R_fail P i 2 (-3)) := Nat.lt_of_lt_of_le hi hle1
        have hl1_0 : lv S1 3 (tn x) = true := hK1.2.2 3 _ hl
        have hV := hZ1.1
        refine g_return d_F_register_23 rfl ⟨rfl, S1, ?_, hK1⟩
        unfold p_R_register; rw [hr, if_neg (rg_s hi10 (by omega)), hk, if_pos (c4_ge hZ.2.2.1 c_14)]; exact hZ1
set_option maxHeartbeats 1000000 in
set_option maxRecDepth 100000 in
theorem s_F_beginFramed_4 {P : Pst} {LL : Lls} {S : Gs} {M : Mm} (hZ : Zt P LL S M) {i e : Nat} (hi : i < nfb P) (h5 : P 5 i = 0) (h15 : P 15 i = 0) (hA : ¬ (P 6 i = 1 ∧ P 10 i = 0)) (hF : ∀ p, p < tn (P 22 i) → P 0 (tn (P 24 (16 * i + p))) = P 23 (16 * i + p)) (he : lv S 3 e = true) (he40 : e < 40) (hx1 : sm (P 1 e) 39) (v : Int32) (hk : P 0 e = 4) : Run m_F_beginFramed ownC 3 3 11 [va_rf (some (ad S 4 i)), va_rf (some (ad S 3 e)), .int v] M (fun r M' => r = none ∧ ∃ S', Zt (frP P i e v) (LL) S' M' ∧ Kp P S S') := by
  have hx0 : ¬ a_R_needs (P 0 e) ≤ 0 := by rw [hk]; decide
  have hy0 : ¬ a_R_needs (P 0 e) ≤ 1 := by rw [hk]; decide
  have hV := hZ.1
  refine Run.ofG (by decide) (by simp [cat_int, cat_rf]) (Nat.le_of_ble_eq_true rfl) ?_
  refine g_aload_n d_F_beginFramed_0 rfl ?_
  refine v_geti (v := P 22 i) (τ := i) 264 rfl hV (sl_4 hZ.2.1 hi) (by decide) (by decide) fl_F_34 rfl d_F_beginFramed_1 rfl (sf_264 hZ.2.1 hi) ?_
  refine g_bipush (v := 16) d_F_beginFramed_4 (by decide) ?_
  refine g_icmp_lt 16 d_F_beginFramed_6 (by decide) (fun c_6 => ?_) (fun c_6 => ?_)
  · have hd := d16_lt hZ.2.2.1 c_6
    refine g_aload_n d_F_beginFramed_16 rfl ?_
    refine v_geti (v := P 10 i) (τ := i) 265 rfl hV (sl_4 hZ.2.1 hi) (by decide) (by decide) fl_F_37 rfl d_F_beginFramed_17 rfl (sf_265 hZ.2.1 hi) ?_
    refine g_istore_n d_F_beginFramed_20 (by decide) ?_
    refine g_aload_n d_F_beginFramed_21 rfl ?_
    refine v_geti (v := 4) (τ := e) 192 rfl hV he (by decide) (by decide) fl_F_81 rfl d_F_beginFramed_22 rfl ((se_192 hZ.2.1 he).trans hk) ?_
    refine g_bipush (v := 8) d_F_beginFramed_25 (by decide) ?_
    refine g_icmp_eq 39 d_F_beginFramed_27 (by decide) (fun c_27 => ?_) (fun c_27 => ?_)
    · exact absurd c_27 (by decide)
    · skip
      refine g_aload_n d_F_beginFramed_30 rfl ?_
      refine v_geti (v := 4) (τ := e) 192 rfl hV he (by decide) (by decide) fl_F_81 rfl d_F_beginFramed_31 rfl ((se_192 hZ.2.1 he).trans hk) ?_
      refine g_bipush (v := 7) d_F_beginFramed_34 (by decide) ?_
      refine g_icmp_ne 47 d_F_beginFramed_36 (by decide) (fun c_36 => ?_) (fun c_36 => ?_)
      · skip
        refine g_aload_n d_F_beginFramed_47 rfl ?_
        refine v_geti (v := 4) (τ := e) 192 rfl hV he (by decide) (by decide) fl_F_81 rfl d_F_beginFramed_48 rfl ((se_192 hZ.2.1 he).trans hk) ?_
        refine g_bipush (v := 9) d_F_beginFramed_51 (by decide) ?_
        refine g_icmp_ne 64 d_F_beginFramed_53 (by decide) (fun c_53 => ?_) (fun c_53 => ?_)
        · skip
          have hV : VM (ui S 265 i (P 10 i)) M := by rw [ui_same (sf_265 hZ.2.1 hi)]; exact hV
          refine g_aload_n d_F_beginFramed_64 rfl ?_
          refine v_new (k' := 2) (n' := 3) (16 * i + tn (P 22 i)) hV (by decide) cl_F_90 d_F_beginFramed_65 (by first | decide | omega) (by first | decide | omega | simp [ck]) (fun q65 M hq_q65 hV => ?_)
          refine g_dup d_F_beginFramed_68 ?_
          refine g_aload_n d_F_beginFramed_69 rfl ?_
          refine g_iload_n d_F_beginFramed_70 rfl ?_
          refine g_aload_n d_F_beginFramed_71 rfl ?_
          refine v_getr (v := topR S i (tn (P 22 i))) (τ := i) 263 rfl hV (lv_un_le (lv_i (sl_4 hZ.2.1 hi)) _ _ _) (by decide) (by decide) fl_F_30 rfl d_F_beginFramed_72 (ad_n (Or.inl (by decide)) (ad_i rfl)) ((vr_un_c (by first | decide | omega) _ _ _ _).trans ((vr_ui _ _ _ _ _ _).trans (sf_263 hZ.2.1 hi))) ?_
          refine g_callI (k1 := 2) (n1 := 3) [va_rf (some (ad S 3 e)), .int (P 10 i), va_rf (topR S i (tn (P 22 i)))] cw_F_92 ci_Q_init d_F_beginFramed_75 (congrArg some (ad_un_s _ _ _ _).symm) rfl rfl ⟨by simp [cat_rf, cat_int], by simp⟩ (by first | decide | omega) (by first | decide | omega) (by first | decide | omega) (fun _ _ h => h) (v_Q_init hV (lv_un_s _ _ _ _) _ _ (hZ.2.2.1 10 i) _) (fun r_ M h_ hfr_ => ?_)
          obtain ⟨rfl, hV⟩ := h_
          refine v_putr (τ := i) 263 rfl hV (lv_r (lv_i (lv_r (lv_r (lv_i (lv_i (lv_i (lv_r (lv_un_le (lv_i (sl_4 hZ.2.1 hi)) _ _ _))))))))) (by decide) (by decide) fl_F_30 (Or.inr (fun r h => by cases h; rfl)) rfl d_F_beginFramed_78 (ad_r (ad_i (ad_r (ad_r (ad_i (ad_i (ad_i (ad_r (ad_n (Or.inl (by decide)) (ad_i rfl)))))))))) (fun M hV => ?_)
          refine g_aload_n d_F_beginFramed_81 rfl ?_
          refine g_dup d_F_beginFramed_82 ?_
          refine v_geti (v := P 22 i) (τ := i) 264 rfl hV (lv_r (lv_r (lv_i (lv_r (lv_r (lv_i (lv_i (lv_i (lv_r (lv_un_le (lv_i (sl_4 hZ.2.1 hi)) _ _ _)))))))))) (by decide) (by decide) fl_F_34 rfl d_F_beginFramed_83 (ad_r (ad_r (ad_i (ad_r (ad_r (ad_i (ad_i (ad_i (ad_r (ad_n (Or.inl (by decide)) (ad_i rfl))))))))))) ((vi_ur _ _ _ _ _ _).trans ((vi_ur _ _ _ _ _ _).trans ((vi_ui_f (by decide) _ _ _ _).trans ((vi_ur _ _ _ _ _ _).trans ((vi_ur _ _ _ _ _ _).trans ((vi_ui_f (by decide) _ _ _ _).trans ((vi_ui_f (by decide) _ _ _ _).trans ((vi_ui_f (by decide) _ _ _ _).trans ((vi_ur _ _ _ _ _ _).trans ((vi_un_c (by first | decide | omega) _ _ _ _).trans ((vi_ui_f (by decide) _ _ _ _).trans (sf_264 hZ.2.1 hi)))))))))))) ?_
          refine g_iconst (v := 1) d_F_beginFramed_86 (by decide) ?_
          refine g_iadd d_F_beginFramed_87 ?_
          refine v_puti (τ := i) 264 rfl hV (lv_r (lv_r (lv_i (lv_r (lv_r (lv_i (lv_i (lv_i (lv_r (lv_un_le (lv_i (sl_4 hZ.2.1 hi)) _ _ _)))))))))) (by decide) (by decide) fl_F_34 (Or.inr (fun r h => by cases h; rfl)) rfl d_F_beginFramed_88 (ad_r (ad_r (ad_i (ad_r (ad_r (ad_i (ad_i (ad_i (ad_r (ad_n (Or.inl (by decide)) (ad_i rfl))))))))))) (fun M hV => ?_)
          have hZ1 : Zt (up (p_R_frame P i e v) 10 i (P 10 i)) LL (pS S i (16 * i + tn (P 22 i)) q65 (some (ad S 3 e)) (P 10 i) (topR S i (tn (P 22 i))) (P 10 i) (P 22 i + 1)) _ := hZ.push hi h5 h15 hA hd.1 he he40 v (hZ.2.2.1 10 i) rfl rfl rfl rfl (Sx.refl _ _) (by rw [clst_new he40, if_neg (by rw [hk]; decide), (pS_f _ _ _ _ _ _ _ _ _).2.2.2.1]; rfl) (fun _ => (pS_f _ _ _ _ _ _ _ _ _).2.2.2.2.1) hV
          have hle1 : nfb P ≤ nfb (up (p_R_frame P i e v) 10 i (P 10 i)) := (Nat.le_refl _)
          have hK1 : Kp P S (pS S i (16 * i + tn (P 22 i)) q65 (some (ad S 3 e)) (P 10 i) (topR S i (tn (P 22 i))) (P 10 i) (P 22 i + 1)) := Kp.trans (Kp.refl P S) (Kp_pS (i := i) (k := (16 * i + tn (P 22 i))) (q := q65) (o := some (ad S 3 e)) (b := P 10 i) (z := topR S i (tn (P 22 i))) (m := (P 10 i)) (d := P 22 i + 1) rfl rfl) (Nat.le_refl _)
          have hi1_0 : i < nfb (up (p_R_frame P i e v) 10 i (P 10 i)) := Nat.lt_of_lt_of_le hi hle1
          have hl1_0 : lv (pS S i (16 * i + tn (P 22 i)) q65 (some (ad S 3 e)) (P 10 i) (topR S i (tn (P 22 i))) (P 10 i) (P 22 i + 1)) 3 e = true := hK1.2.2 3 _ he
          have hl1_1 : lv (pS S i (16 * i + tn (P 22 i)) q65 (some (ad S 3 e)) (P 10 i) (topR S i (tn (P 22 i))) (P 10 i) (P 22 i + 1)) 3 (tn (P 1 e)) = true := hK1.2.2 3 _ (sl_x hZ.2.1 he hx0)
          have hl1_2 : lv (pS S i (16 * i + tn (P 22 i)) q65 (some (ad S 3 e)) (P 10 i) (topR S i (tn (P 22 i))) (P 10 i) (P 22 i + 1)) 3 (tn (P 2 e)) = true := hK1.2.2 3 _ (sl_y hZ.2.1 he hy0)
          have hV := hZ1.1
          refine g_aload_n d_F_beginFramed_91 rfl ?_
          refine v_geti (v := 4) (τ := e) 192 rfl hV hl1_0 (by decide) (by decide) fl_F_81 rfl d_F_beginFramed_92 (ad_i (ad_r (ad_r (ad_i (ad_r (ad_r (ad_i (ad_i (ad_i (ad_r (ad_n (Or.inl (by decide)) (ad_i rfl)))))))))))) ((se_192 hZ1.2.1 hl1_0 :).trans hk) ?_
          refine g_bipush (v := 6) d_F_beginFramed_95 (by decide) ?_
          refine g_icmp_ne 112 d_F_beginFramed_97 (by decide) (fun c_97 => ?_) (fun c_97 => ?_)
          · skip
            refine g_aload_n d_F_beginFramed_112 rfl ?_
            refine g_aload_n d_F_beginFramed_113 rfl ?_
            refine v_getr (v := some (ad (pS S i (16 * i + tn (P 22 i)) q65 (some (ad S 3 e)) (P 10 i) (topR S i (tn (P 22 i))) (P 10 i) (P 22 i + 1)) 3 (tn (P 1 e)))) (τ := e) 194 rfl hV hl1_0 (by decide) (by decide) fl_F_102 rfl d_F_beginFramed_114 (ad_i (ad_r (ad_r (ad_i (ad_r (ad_r (ad_i (ad_i (ad_i (ad_r (ad_n (Or.inl (by decide)) (ad_i rfl)))))))))))) (se_194 hZ1.2.1 hl1_0 hx0) ?_
            refine g_iload_n d_F_beginFramed_117 rfl ?_
            refine g_callV (k1 := 2) (n1 := 3) [va_rf (some (ad (pS S i (16 * i + tn (P 22 i)) q65 (some (ad S 3 e)) (P 10 i) (topR S i (tn (P 22 i))) (P 10 i) (P 22 i + 1)) 3 (tn (P 1 e)))), .int (v)] cw_F_105 cv_F_perform d_F_beginFramed_118 (ad_i (ad_r (ad_r (ad_i (ad_r (ad_r (ad_i (ad_i (ad_i (ad_r (ad_n (Or.inl (by decide)) (ad_i rfl)))))))))))) (hV.kdo (sl_4 hZ1.2.1 hi1_0) (by decide)) rfl rfl ⟨by simp, by simp⟩ (by first | decide | omega) (by first | decide | omega) (by first | decide | omega) (fun _ _ h => h) (v_F_perform hV (sl_4 hZ1.2.1 hi1_0) _ _) (fun r_ M h_ hfr_ => ?_)
            obtain ⟨rfl, hV⟩ := h_
            refine g_return d_F_beginFramed_121 rfl ⟨rfl, doS (pS S i (16 * i + tn (P 22 i)) q65 (some (ad S 3 e)) (P 10 i) (topR S i (tn (P 22 i))) (P 10 i) (P 22 i + 1)) i (tn (P 1 e)) v, ?_, Kp.trans hK1 (Kp.of (P := P) rfl rfl) (Nat.le_refl _)⟩
            unfold frP; rw [if_neg hd.2, show mkM P i e = (P 10 i) by unfold mkM; rw [if_neg (by rw [hk]; decide), if_neg (by rw [hk]; decide)]]
            exact hZ1.does hi1_0 v hx1 hl1_1 h5 hV
          · exact absurd c_97 (by decide)
        · exact absurd c_53 (by decide)
      · exact absurd c_36 (by decide)
  · skip
    refine g_aload_n d_F_beginFramed_9 rfl ?_
    refine g_bipush (v := -4) d_F_beginFramed_10 (by decide) ?_
    refine g_callV (k1 := 0) (n1 := 7) [.int (-4)] cw_F_77 cv_F_die d_F_beginFramed_12 rfl (hV.kdo (sl_4 hZ.2.1 hi) (by decide)) rfl rfl ⟨by simp, by simp⟩ (by first | decide | omega) (by first | decide | omega) (by first | decide | omega) (fun _ _ h => h) (s_F_die ⟨hV, hZ.2⟩ hi _ (fun h => absurd (h5.symm.trans h) (by decide))) (fun r_ M h_ hfr_ => ?_)
    obtain ⟨rfl, S1, hZ1, ha1, hb1⟩ := h_
    have hk1 : Kp P S S1 := Kp.of ha1 hb1
    have hle1 : nfb P ≤ nfb (p_R_fail P i 2 (-4)) := (Nat.le_refl _)
    have hK1 : Kp P S S1 := Kp.trans (Kp.refl P S) hk1 (Nat.le_refl _)
    have hi1_0 : i < nfb (p_R_fail P i 2 (-4)) := Nat.lt_of_lt_of_le hi hle1
    have hl1_0 : lv S1 3 e = true := hK1.2.2 3 _ he
    have hl1_1 : lv S1 3 (tn (P 1 e)) = true := hK1.2.2 3 _ (sl_x hZ.2.1 he hx0)
    have hl1_2 : lv S1 3 (tn (P 2 e)) = true := hK1.2.2 3 _ (sl_y hZ.2.1 he hy0)
    have hV := hZ1.1
    exact g_return d_F_beginFramed_15 rfl ⟨rfl, S1, by unfold frP; rw [if_pos (d16_ge hZ.2.2.1 c_6)]; exact hZ1, hK1⟩
set_option maxHeartbeats 1000000 in
set_option maxRecDepth 100000 in
theorem s_F_beginFramed_5 {P : Pst} {LL : Lls} {S : Gs} {M : Mm} (hZ : Zt P LL S M) {i e : Nat} (hi : i < nfb P) (h5 : P 5 i = 0) (h15 : P 15 i = 0) (hA : ¬ (P 6 i = 1 ∧ P 10 i = 0)) (hF : ∀ p, p < tn (P 22 i) → P 0 (tn (P 24 (16 * i + p))) = P 23 (16 * i + p)) (he : lv S 3 e = true) (he40 : e < 40) (hx1 : sm (P 1 e) 39) (v : Int32) (hk : P 0 e = 5) : Run m_F_beginFramed ownC 3 3 11 [va_rf (some (ad S 4 i)), va_rf (some (ad S 3 e)), .int v] M (fun r M' => r = none ∧ ∃ S', Zt (frP P i e v) (LL) S' M' ∧ Kp P S S') := by
  have hx0 : ¬ a_R_needs (P 0 e) ≤ 0 := by rw [hk]; decide
  have hy0 : ¬ a_R_needs (P 0 e) ≤ 1 := by rw [hk]; decide
  have hV := hZ.1
  refine Run.ofG (by decide) (by simp [cat_int, cat_rf]) (Nat.le_of_ble_eq_true rfl) ?_
  refine g_aload_n d_F_beginFramed_0 rfl ?_
  refine v_geti (v := P 22 i) (τ := i) 264 rfl hV (sl_4 hZ.2.1 hi) (by decide) (by decide) fl_F_34 rfl d_F_beginFramed_1 rfl (sf_264 hZ.2.1 hi) ?_
  refine g_bipush (v := 16) d_F_beginFramed_4 (by decide) ?_
  refine g_icmp_lt 16 d_F_beginFramed_6 (by decide) (fun c_6 => ?_) (fun c_6 => ?_)
  · have hd := d16_lt hZ.2.2.1 c_6
    refine g_aload_n d_F_beginFramed_16 rfl ?_
    refine v_geti (v := P 10 i) (τ := i) 265 rfl hV (sl_4 hZ.2.1 hi) (by decide) (by decide) fl_F_37 rfl d_F_beginFramed_17 rfl (sf_265 hZ.2.1 hi) ?_
    refine g_istore_n d_F_beginFramed_20 (by decide) ?_
    refine g_aload_n d_F_beginFramed_21 rfl ?_
    refine v_geti (v := 5) (τ := e) 192 rfl hV he (by decide) (by decide) fl_F_81 rfl d_F_beginFramed_22 rfl ((se_192 hZ.2.1 he).trans hk) ?_
    refine g_bipush (v := 8) d_F_beginFramed_25 (by decide) ?_
    refine g_icmp_eq 39 d_F_beginFramed_27 (by decide) (fun c_27 => ?_) (fun c_27 => ?_)
    · exact absurd c_27 (by decide)
    · skip
      refine g_aload_n d_F_beginFramed_30 rfl ?_
      refine v_geti (v := 5) (τ := e) 192 rfl hV he (by decide) (by decide) fl_F_81 rfl d_F_beginFramed_31 rfl ((se_192 hZ.2.1 he).trans hk) ?_
      refine g_bipush (v := 7) d_F_beginFramed_34 (by decide) ?_
      refine g_icmp_ne 47 d_F_beginFramed_36 (by decide) (fun c_36 => ?_) (fun c_36 => ?_)
      · skip
        refine g_aload_n d_F_beginFramed_47 rfl ?_
        refine v_geti (v := 5) (τ := e) 192 rfl hV he (by decide) (by decide) fl_F_81 rfl d_F_beginFramed_48 rfl ((se_192 hZ.2.1 he).trans hk) ?_
        refine g_bipush (v := 9) d_F_beginFramed_51 (by decide) ?_
        refine g_icmp_ne 64 d_F_beginFramed_53 (by decide) (fun c_53 => ?_) (fun c_53 => ?_)
        · skip
          have hV : VM (ui S 265 i (P 10 i)) M := by rw [ui_same (sf_265 hZ.2.1 hi)]; exact hV
          refine g_aload_n d_F_beginFramed_64 rfl ?_
          refine v_new (k' := 2) (n' := 3) (16 * i + tn (P 22 i)) hV (by decide) cl_F_90 d_F_beginFramed_65 (by first | decide | omega) (by first | decide | omega | simp [ck]) (fun q65 M hq_q65 hV => ?_)
          refine g_dup d_F_beginFramed_68 ?_
          refine g_aload_n d_F_beginFramed_69 rfl ?_
          refine g_iload_n d_F_beginFramed_70 rfl ?_
          refine g_aload_n d_F_beginFramed_71 rfl ?_
          refine v_getr (v := topR S i (tn (P 22 i))) (τ := i) 263 rfl hV (lv_un_le (lv_i (sl_4 hZ.2.1 hi)) _ _ _) (by decide) (by decide) fl_F_30 rfl d_F_beginFramed_72 (ad_n (Or.inl (by decide)) (ad_i rfl)) ((vr_un_c (by first | decide | omega) _ _ _ _).trans ((vr_ui _ _ _ _ _ _).trans (sf_263 hZ.2.1 hi))) ?_
          refine g_callI (k1 := 2) (n1 := 3) [va_rf (some (ad S 3 e)), .int (P 10 i), va_rf (topR S i (tn (P 22 i)))] cw_F_92 ci_Q_init d_F_beginFramed_75 (congrArg some (ad_un_s _ _ _ _).symm) rfl rfl ⟨by simp [cat_rf, cat_int], by simp⟩ (by first | decide | omega) (by first | decide | omega) (by first | decide | omega) (fun _ _ h => h) (v_Q_init hV (lv_un_s _ _ _ _) _ _ (hZ.2.2.1 10 i) _) (fun r_ M h_ hfr_ => ?_)
          obtain ⟨rfl, hV⟩ := h_
          refine v_putr (τ := i) 263 rfl hV (lv_r (lv_i (lv_r (lv_r (lv_i (lv_i (lv_i (lv_r (lv_un_le (lv_i (sl_4 hZ.2.1 hi)) _ _ _))))))))) (by decide) (by decide) fl_F_30 (Or.inr (fun r h => by cases h; rfl)) rfl d_F_beginFramed_78 (ad_r (ad_i (ad_r (ad_r (ad_i (ad_i (ad_i (ad_r (ad_n (Or.inl (by decide)) (ad_i rfl)))))))))) (fun M hV => ?_)
          refine g_aload_n d_F_beginFramed_81 rfl ?_
          refine g_dup d_F_beginFramed_82 ?_
          refine v_geti (v := P 22 i) (τ := i) 264 rfl hV (lv_r (lv_r (lv_i (lv_r (lv_r (lv_i (lv_i (lv_i (lv_r (lv_un_le (lv_i (sl_4 hZ.2.1 hi)) _ _ _)))))))))) (by decide) (by decide) fl_F_34 rfl d_F_beginFramed_83 (ad_r (ad_r (ad_i (ad_r (ad_r (ad_i (ad_i (ad_i (ad_r (ad_n (Or.inl (by decide)) (ad_i rfl))))))))))) ((vi_ur _ _ _ _ _ _).trans ((vi_ur _ _ _ _ _ _).trans ((vi_ui_f (by decide) _ _ _ _).trans ((vi_ur _ _ _ _ _ _).trans ((vi_ur _ _ _ _ _ _).trans ((vi_ui_f (by decide) _ _ _ _).trans ((vi_ui_f (by decide) _ _ _ _).trans ((vi_ui_f (by decide) _ _ _ _).trans ((vi_ur _ _ _ _ _ _).trans ((vi_un_c (by first | decide | omega) _ _ _ _).trans ((vi_ui_f (by decide) _ _ _ _).trans (sf_264 hZ.2.1 hi)))))))))))) ?_
          refine g_iconst (v := 1) d_F_beginFramed_86 (by decide) ?_
          refine g_iadd d_F_beginFramed_87 ?_
          refine v_puti (τ := i) 264 rfl hV (lv_r (lv_r (lv_i (lv_r (lv_r (lv_i (lv_i (lv_i (lv_r (lv_un_le (lv_i (sl_4 hZ.2.1 hi)) _ _ _)))))))))) (by decide) (by decide) fl_F_34 (Or.inr (fun r h => by cases h; rfl)) rfl d_F_beginFramed_88 (ad_r (ad_r (ad_i (ad_r (ad_r (ad_i (ad_i (ad_i (ad_r (ad_n (Or.inl (by decide)) (ad_i rfl))))))))))) (fun M hV => ?_)
          have hZ1 : Zt (up (p_R_frame P i e v) 10 i (P 10 i)) LL (pS S i (16 * i + tn (P 22 i)) q65 (some (ad S 3 e)) (P 10 i) (topR S i (tn (P 22 i))) (P 10 i) (P 22 i + 1)) _ := hZ.push hi h5 h15 hA hd.1 he he40 v (hZ.2.2.1 10 i) rfl rfl rfl rfl (Sx.refl _ _) (by rw [clst_new he40, if_neg (by rw [hk]; decide), (pS_f _ _ _ _ _ _ _ _ _).2.2.2.1]; rfl) (fun _ => (pS_f _ _ _ _ _ _ _ _ _).2.2.2.2.1) hV
          have hle1 : nfb P ≤ nfb (up (p_R_frame P i e v) 10 i (P 10 i)) := (Nat.le_refl _)
          have hK1 : Kp P S (pS S i (16 * i + tn (P 22 i)) q65 (some (ad S 3 e)) (P 10 i) (topR S i (tn (P 22 i))) (P 10 i) (P 22 i + 1)) := Kp.trans (Kp.refl P S) (Kp_pS (i := i) (k := (16 * i + tn (P 22 i))) (q := q65) (o := some (ad S 3 e)) (b := P 10 i) (z := topR S i (tn (P 22 i))) (m := (P 10 i)) (d := P 22 i + 1) rfl rfl) (Nat.le_refl _)
          have hi1_0 : i < nfb (up (p_R_frame P i e v) 10 i (P 10 i)) := Nat.lt_of_lt_of_le hi hle1
          have hl1_0 : lv (pS S i (16 * i + tn (P 22 i)) q65 (some (ad S 3 e)) (P 10 i) (topR S i (tn (P 22 i))) (P 10 i) (P 22 i + 1)) 3 e = true := hK1.2.2 3 _ he
          have hl1_1 : lv (pS S i (16 * i + tn (P 22 i)) q65 (some (ad S 3 e)) (P 10 i) (topR S i (tn (P 22 i))) (P 10 i) (P 22 i + 1)) 3 (tn (P 1 e)) = true := hK1.2.2 3 _ (sl_x hZ.2.1 he hx0)
          have hl1_2 : lv (pS S i (16 * i + tn (P 22 i)) q65 (some (ad S 3 e)) (P 10 i) (topR S i (tn (P 22 i))) (P 10 i) (P 22 i + 1)) 3 (tn (P 2 e)) = true := hK1.2.2 3 _ (sl_y hZ.2.1 he hy0)
          have hV := hZ1.1
          refine g_aload_n d_F_beginFramed_91 rfl ?_
          refine v_geti (v := 5) (τ := e) 192 rfl hV hl1_0 (by decide) (by decide) fl_F_81 rfl d_F_beginFramed_92 (ad_i (ad_r (ad_r (ad_i (ad_r (ad_r (ad_i (ad_i (ad_i (ad_r (ad_n (Or.inl (by decide)) (ad_i rfl)))))))))))) ((se_192 hZ1.2.1 hl1_0 :).trans hk) ?_
          refine g_bipush (v := 6) d_F_beginFramed_95 (by decide) ?_
          refine g_icmp_ne 112 d_F_beginFramed_97 (by decide) (fun c_97 => ?_) (fun c_97 => ?_)
          · skip
            refine g_aload_n d_F_beginFramed_112 rfl ?_
            refine g_aload_n d_F_beginFramed_113 rfl ?_
            refine v_getr (v := some (ad (pS S i (16 * i + tn (P 22 i)) q65 (some (ad S 3 e)) (P 10 i) (topR S i (tn (P 22 i))) (P 10 i) (P 22 i + 1)) 3 (tn (P 1 e)))) (τ := e) 194 rfl hV hl1_0 (by decide) (by decide) fl_F_102 rfl d_F_beginFramed_114 (ad_i (ad_r (ad_r (ad_i (ad_r (ad_r (ad_i (ad_i (ad_i (ad_r (ad_n (Or.inl (by decide)) (ad_i rfl)))))))))))) (se_194 hZ1.2.1 hl1_0 hx0) ?_
            refine g_iload_n d_F_beginFramed_117 rfl ?_
            refine g_callV (k1 := 2) (n1 := 3) [va_rf (some (ad (pS S i (16 * i + tn (P 22 i)) q65 (some (ad S 3 e)) (P 10 i) (topR S i (tn (P 22 i))) (P 10 i) (P 22 i + 1)) 3 (tn (P 1 e)))), .int (v)] cw_F_105 cv_F_perform d_F_beginFramed_118 (ad_i (ad_r (ad_r (ad_i (ad_r (ad_r (ad_i (ad_i (ad_i (ad_r (ad_n (Or.inl (by decide)) (ad_i rfl)))))))))))) (hV.kdo (sl_4 hZ1.2.1 hi1_0) (by decide)) rfl rfl ⟨by simp, by simp⟩ (by first | decide | omega) (by first | decide | omega) (by first | decide | omega) (fun _ _ h => h) (v_F_perform hV (sl_4 hZ1.2.1 hi1_0) _ _) (fun r_ M h_ hfr_ => ?_)
            obtain ⟨rfl, hV⟩ := h_
            refine g_return d_F_beginFramed_121 rfl ⟨rfl, doS (pS S i (16 * i + tn (P 22 i)) q65 (some (ad S 3 e)) (P 10 i) (topR S i (tn (P 22 i))) (P 10 i) (P 22 i + 1)) i (tn (P 1 e)) v, ?_, Kp.trans hK1 (Kp.of (P := P) rfl rfl) (Nat.le_refl _)⟩
            unfold frP; rw [if_neg hd.2, show mkM P i e = (P 10 i) by unfold mkM; rw [if_neg (by rw [hk]; decide), if_neg (by rw [hk]; decide)]]
            exact hZ1.does hi1_0 v hx1 hl1_1 h5 hV
          · exact absurd c_97 (by decide)
        · exact absurd c_53 (by decide)
      · exact absurd c_36 (by decide)
  · skip
    refine g_aload_n d_F_beginFramed_9 rfl ?_
    refine g_bipush (v := -4) d_F_beginFramed_10 (by decide) ?_
    refine g_callV (k1 := 0) (n1 := 7) [.int (-4)] cw_F_77 cv_F_die d_F_beginFramed_12 rfl (hV.kdo (sl_4 hZ.2.1 hi) (by decide)) rfl rfl ⟨by simp, by simp⟩ (by first | decide | omega) (by first | decide | omega) (by first | decide | omega) (fun _ _ h => h) (s_F_die ⟨hV, hZ.2⟩ hi _ (fun h => absurd (h5.symm.trans h) (by decide))) (fun r_ M h_ hfr_ => ?_)
    obtain ⟨rfl, S1, hZ1, ha1, hb1⟩ := h_
    have hk1 : Kp P S S1 := Kp.of ha1 hb1
    have hle1 : nfb P ≤ nfb (p_R_fail P i 2 (-4)) := (Nat.le_refl _)
    have hK1 : Kp P S S1 := Kp.trans (Kp.refl P S) hk1 (Nat.le_refl _)
    have hi1_0 : i < nfb (p_R_fail P i 2 (-4)) := Nat.lt_of_lt_of_le hi hle1
    have hl1_0 : lv S1 3 e = true := hK1.2.2 3 _ he
    have hl1_1 : lv S1 3 (tn (P 1 e)) = true := hK1.2.2 3 _ (sl_x hZ.2.1 he hx0)
    have hl1_2 : lv S1 3 (tn (P 2 e)) = true := hK1.2.2 3 _ (sl_y hZ.2.1 he hy0)
    have hV := hZ1.1
    exact g_return d_F_beginFramed_15 rfl ⟨rfl, S1, by unfold frP; rw [if_pos (d16_ge hZ.2.2.1 c_6)]; exact hZ1, hK1⟩
set_option maxHeartbeats 1000000 in
set_option maxRecDepth 100000 in
theorem s_F_beginFramed_6 {P : Pst} {LL : Lls} {S : Gs} {M : Mm} (hZ : Zt P LL S M) {i e : Nat} (hi : i < nfb P) (h5 : P 5 i = 0) (h15 : P 15 i = 0) (hA : ¬ (P 6 i = 1 ∧ P 10 i = 0)) (hF : ∀ p, p < tn (P 22 i) → P 0 (tn (P 24 (16 * i + p))) = P 23 (16 * i + p)) (he : lv S 3 e = true) (he40 : e < 40) (hx1 : sm (P 1 e) 39) (v : Int32) (hk : P 0 e = 6) : Run m_F_beginFramed ownC 3 3 11 [va_rf (some (ad S 4 i)), va_rf (some (ad S 3 e)), .int v] M (fun r M' => r = none ∧ ∃ S', Zt (frP P i e v) (LL) S' M' ∧ Kp P S S') := by
  have hx0 : ¬ a_R_needs (P 0 e) ≤ 0 := by rw [hk]; decide
  have hy0 : ¬ a_R_needs (P 0 e) ≤ 1 := by rw [hk]; decide
  have hV := hZ.1
  refine Run.ofG (by decide) (by simp [cat_int, cat_rf]) (Nat.le_of_ble_eq_true rfl) ?_
  refine g_aload_n d_F_beginFramed_0 rfl ?_
  refine v_geti (v := P 22 i) (τ := i) 264 rfl hV (sl_4 hZ.2.1 hi) (by decide) (by decide) fl_F_34 rfl d_F_beginFramed_1 rfl (sf_264 hZ.2.1 hi) ?_
  refine g_bipush (v := 16) d_F_beginFramed_4 (by decide) ?_
  refine g_icmp_lt 16 d_F_beginFramed_6 (by decide) (fun c_6 => ?_) (fun c_6 => ?_)
  · have hd := d16_lt hZ.2.2.1 c_6
    refine g_aload_n d_F_beginFramed_16 rfl ?_
    refine v_geti (v := P 10 i) (τ := i) 265 rfl hV (sl_4 hZ.2.1 hi) (by decide) (by decide) fl_F_37 rfl d_F_beginFramed_17 rfl (sf_265 hZ.2.1 hi) ?_
    refine g_istore_n d_F_beginFramed_20 (by decide) ?_
    refine g_aload_n d_F_beginFramed_21 rfl ?_
    refine v_geti (v := 6) (τ := e) 192 rfl hV he (by decide) (by decide) fl_F_81 rfl d_F_beginFramed_22 rfl ((se_192 hZ.2.1 he).trans hk) ?_
    refine g_bipush (v := 8) d_F_beginFramed_25 (by decide) ?_
    refine g_icmp_eq 39 d_F_beginFramed_27 (by decide) (fun c_27 => ?_) (fun c_27 => ?_)
    · exact absurd c_27 (by decide)
    · skip
      refine g_aload_n d_F_beginFramed_30 rfl ?_
      refine v_geti (v := 6) (τ := e) 192 rfl hV he (by decide) (by decide) fl_F_81 rfl d_F_beginFramed_31 rfl ((se_192 hZ.2.1 he).trans hk) ?_
      refine g_bipush (v := 7) d_F_beginFramed_34 (by decide) ?_
      refine g_icmp_ne 47 d_F_beginFramed_36 (by decide) (fun c_36 => ?_) (fun c_36 => ?_)
      · skip
        refine g_aload_n d_F_beginFramed_47 rfl ?_
        refine v_geti (v := 6) (τ := e) 192 rfl hV he (by decide) (by decide) fl_F_81 rfl d_F_beginFramed_48 rfl ((se_192 hZ.2.1 he).trans hk) ?_
        refine g_bipush (v := 9) d_F_beginFramed_51 (by decide) ?_
        refine g_icmp_ne 64 d_F_beginFramed_53 (by decide) (fun c_53 => ?_) (fun c_53 => ?_)
        · skip
          have hV : VM (ui S 265 i (P 10 i)) M := by rw [ui_same (sf_265 hZ.2.1 hi)]; exact hV
          refine g_aload_n d_F_beginFramed_64 rfl ?_
          refine v_new (k' := 2) (n' := 3) (16 * i + tn (P 22 i)) hV (by decide) cl_F_90 d_F_beginFramed_65 (by first | decide | omega) (by first | decide | omega | simp [ck]) (fun q65 M hq_q65 hV => ?_)
          refine g_dup d_F_beginFramed_68 ?_
          refine g_aload_n d_F_beginFramed_69 rfl ?_
          refine g_iload_n d_F_beginFramed_70 rfl ?_
          refine g_aload_n d_F_beginFramed_71 rfl ?_
          refine v_getr (v := topR S i (tn (P 22 i))) (τ := i) 263 rfl hV (lv_un_le (lv_i (sl_4 hZ.2.1 hi)) _ _ _) (by decide) (by decide) fl_F_30 rfl d_F_beginFramed_72 (ad_n (Or.inl (by decide)) (ad_i rfl)) ((vr_un_c (by first | decide | omega) _ _ _ _).trans ((vr_ui _ _ _ _ _ _).trans (sf_263 hZ.2.1 hi))) ?_
          refine g_callI (k1 := 2) (n1 := 3) [va_rf (some (ad S 3 e)), .int (P 10 i), va_rf (topR S i (tn (P 22 i)))] cw_F_92 ci_Q_init d_F_beginFramed_75 (congrArg some (ad_un_s _ _ _ _).symm) rfl rfl ⟨by simp [cat_rf, cat_int], by simp⟩ (by first | decide | omega) (by first | decide | omega) (by first | decide | omega) (fun _ _ h => h) (v_Q_init hV (lv_un_s _ _ _ _) _ _ (hZ.2.2.1 10 i) _) (fun r_ M h_ hfr_ => ?_)
          obtain ⟨rfl, hV⟩ := h_
          refine v_putr (τ := i) 263 rfl hV (lv_r (lv_i (lv_r (lv_r (lv_i (lv_i (lv_i (lv_r (lv_un_le (lv_i (sl_4 hZ.2.1 hi)) _ _ _))))))))) (by decide) (by decide) fl_F_30 (Or.inr (fun r h => by cases h; rfl)) rfl d_F_beginFramed_78 (ad_r (ad_i (ad_r (ad_r (ad_i (ad_i (ad_i (ad_r (ad_n (Or.inl (by decide)) (ad_i rfl)))))))))) (fun M hV => ?_)
          refine g_aload_n d_F_beginFramed_81 rfl ?_
          refine g_dup d_F_beginFramed_82 ?_
          refine v_geti (v := P 22 i) (τ := i) 264 rfl hV (lv_r (lv_r (lv_i (lv_r (lv_r (lv_i (lv_i (lv_i (lv_r (lv_un_le (lv_i (sl_4 hZ.2.1 hi)) _ _ _)))))))))) (by decide) (by decide) fl_F_34 rfl d_F_beginFramed_83 (ad_r (ad_r (ad_i (ad_r (ad_r (ad_i (ad_i (ad_i (ad_r (ad_n (Or.inl (by decide)) (ad_i rfl))))))))))) ((vi_ur _ _ _ _ _ _).trans ((vi_ur _ _ _ _ _ _).trans ((vi_ui_f (by decide) _ _ _ _).trans ((vi_ur _ _ _ _ _ _).trans ((vi_ur _ _ _ _ _ _).trans ((vi_ui_f (by decide) _ _ _ _).trans ((vi_ui_f (by decide) _ _ _ _).trans ((vi_ui_f (by decide) _ _ _ _).trans ((vi_ur _ _ _ _ _ _).trans ((vi_un_c (by first | decide | omega) _ _ _ _).trans ((vi_ui_f (by decide) _ _ _ _).trans (sf_264 hZ.2.1 hi)))))))))))) ?_
          refine g_iconst (v := 1) d_F_beginFramed_86 (by decide) ?_
          refine g_iadd d_F_beginFramed_87 ?_
          refine v_puti (τ := i) 264 rfl hV (lv_r (lv_r (lv_i (lv_r (lv_r (lv_i (lv_i (lv_i (lv_r (lv_un_le (lv_i (sl_4 hZ.2.1 hi)) _ _ _)))))))))) (by decide) (by decide) fl_F_34 (Or.inr (fun r h => by cases h; rfl)) rfl d_F_beginFramed_88 (ad_r (ad_r (ad_i (ad_r (ad_r (ad_i (ad_i (ad_i (ad_r (ad_n (Or.inl (by decide)) (ad_i rfl))))))))))) (fun M hV => ?_)
          refine g_aload_n d_F_beginFramed_91 rfl ?_
          refine v_geti (v := 6) (τ := e) 192 rfl hV (lv_i (lv_r (lv_r (lv_i (lv_r (lv_r (lv_i (lv_i (lv_i (lv_r (lv_un_le (lv_i he) _ _ _))))))))))) (by decide) (by decide) fl_F_81 rfl d_F_beginFramed_92 (ad_i (ad_r (ad_r (ad_i (ad_r (ad_r (ad_i (ad_i (ad_i (ad_r (ad_n (Or.inl (by decide)) (ad_i rfl)))))))))))) ((vi_ui_f (by decide) _ _ _ _).trans ((vi_ur _ _ _ _ _ _).trans ((vi_ur _ _ _ _ _ _).trans ((vi_ui_f (by decide) _ _ _ _).trans ((vi_ur _ _ _ _ _ _).trans ((vi_ur _ _ _ _ _ _).trans ((vi_ui_f (by decide) _ _ _ _).trans ((vi_ui_f (by decide) _ _ _ _).trans ((vi_ui_f (by decide) _ _ _ _).trans ((vi_ur _ _ _ _ _ _).trans ((vi_un_c (by first | decide | omega) _ _ _ _).trans ((vi_ui_f (by decide) _ _ _ _).trans ((se_192 hZ.2.1 he).trans hk))))))))))))) ?_
          refine g_bipush (v := 6) d_F_beginFramed_95 (by decide) ?_
          refine g_icmp_ne 112 d_F_beginFramed_97 (by decide) (fun c_97 => ?_) (fun c_97 => ?_)
          · exact absurd c_97 (by decide)
          · skip
            refine g_aload_n d_F_beginFramed_100 rfl ?_
            refine v_getr (v := some q65) (τ := i) 263 rfl hV (lv_i (lv_r (lv_r (lv_i (lv_r (lv_r (lv_i (lv_i (lv_i (lv_r (lv_un_le (lv_i (sl_4 hZ.2.1 hi)) _ _ _))))))))))) (by decide) (by decide) fl_F_30 rfl d_F_beginFramed_101 (ad_i (ad_r (ad_r (ad_i (ad_r (ad_r (ad_i (ad_i (ad_i (ad_r (ad_n (Or.inl (by decide)) (ad_i rfl)))))))))))) ((vr_ui _ _ _ _ _ _).trans (vr_ur_s _ _ _ _)) ?_
            refine g_aload_n d_F_beginFramed_104 rfl ?_
            refine v_getr (v := some (ad S 3 (tn (P 2 e)))) (τ := e) 195 rfl hV (lv_i (lv_r (lv_r (lv_i (lv_r (lv_r (lv_i (lv_i (lv_i (lv_r (lv_un_le (lv_i he) _ _ _))))))))))) (by decide) (by decide) fl_F_95 rfl d_F_beginFramed_105 (ad_i (ad_r (ad_r (ad_i (ad_r (ad_r (ad_i (ad_i (ad_i (ad_r (ad_n (Or.inl (by decide)) (ad_i rfl)))))))))))) ((vr_ui _ _ _ _ _ _).trans ((vr_ur_f (by decide) _ _ _ _).trans ((vr_ur_f (by decide) _ _ _ _).trans ((vr_ui _ _ _ _ _ _).trans ((vr_ur_f (by decide) _ _ _ _).trans ((vr_ur_f (by decide) _ _ _ _).trans ((vr_ui _ _ _ _ _ _).trans ((vr_ui _ _ _ _ _ _).trans ((vr_ui _ _ _ _ _ _).trans ((vr_ur_f (by decide) _ _ _ _).trans ((vr_un_c (by first | decide | omega) _ _ _ _).trans ((vr_ui _ _ _ _ _ _).trans (se_195 hZ.2.1 he hy0))))))))))))) ?_
            refine g_iload_n d_F_beginFramed_108 rfl ?_
            refine g_callV (k1 := 1) (n1 := 0) [va_rf (some (ad S 3 (tn (P 2 e)))), .int (v)] cw_F_98 cv_Q_hold d_F_beginFramed_109 (ad_i (ad_r (ad_r (ad_i (ad_r (ad_r (ad_i (ad_i (ad_i (ad_r (congrArg some (ad_un_s _ _ _ _).symm))))))))))) (hV.kdo (lv_i (lv_r (lv_r (lv_i (lv_r (lv_r (lv_i (lv_i (lv_i (lv_r (lv_un_s _ _ _ _))))))))))) (by decide)) rfl rfl ⟨by simp, by simp⟩ (by first | decide | omega) (by first | decide | omega) (by first | decide | omega) (fun _ _ h => h) (s_Q_hold hV (lv_i (lv_r (lv_r (lv_i (lv_r (lv_r (lv_i (lv_i (lv_i (lv_r (lv_un_s _ _ _ _))))))))))) _ _) (fun r_ M h_ hfr_ => ?_)
            obtain ⟨rfl, q2, hq2, hV⟩ := h_
            have hV : VM (holdS (pS S i (16 * i + tn (P 22 i)) q65 (some (ad S 3 e)) (P 10 i) (topR S i (tn (P 22 i))) (P 10 i) (P 22 i + 1)) (16 * i + tn (P 22 i)) q2 (some (ad S 3 (tn (P 2 e)))) v) _ := hV
            have hl2_ := sl_y hZ.2.1 he hy0
            have hZ1 : Zt (up (p_R_frame P i e v) 10 i (P 10 i)) LL (holdS (pS S i (16 * i + tn (P 22 i)) q65 (some (ad S 3 e)) (P 10 i) (topR S i (tn (P 22 i))) (P 10 i) (P 22 i + 1)) (16 * i + tn (P 22 i)) q2 (some (ad S 3 (tn (P 2 e)))) v) _ := hZ.push hi h5 h15 hA hd.1 he he40 v (hZ.2.2.1 10 i) rfl rfl rfl rfl (holdS_sx2 hq2 _ _) (by rw [clst_new he40, if_pos hk]; exact holdS_c (z := none) (pS_f _ _ _ _ _ _ _ _ _).2.2.2.1 rfl hl2_) (fun h => by rw [hk] at h; exact absurd h (by decide)) hV
            have hle1 : nfb P ≤ nfb (up (p_R_frame P i e v) 10 i (P 10 i)) := (Nat.le_refl _)
            have hK1 : Kp P S (holdS (pS S i (16 * i + tn (P 22 i)) q65 (some (ad S 3 e)) (P 10 i) (topR S i (tn (P 22 i))) (P 10 i) (P 22 i + 1)) (16 * i + tn (P 22 i)) q2 (some (ad S 3 (tn (P 2 e)))) v) := Kp.trans (Kp.refl P S) (Kp_pS (i := i) (k := (16 * i + tn (P 22 i))) (q := q65) (o := some (ad S 3 e)) (b := P 10 i) (z := topR S i (tn (P 22 i))) (m := (P 10 i)) (d := P 22 i + 1) rfl rfl) (Nat.le_refl _)
            have hi1_0 : i < nfb (up (p_R_frame P i e v) 10 i (P 10 i)) := Nat.lt_of_lt_of_le hi hle1
            have hl1_0 : lv (holdS (pS S i (16 * i + tn (P 22 i)) q65 (some (ad S 3 e)) (P 10 i) (topR S i (tn (P 22 i))) (P 10 i) (P 22 i + 1)) (16 * i + tn (P 22 i)) q2 (some (ad S 3 (tn (P 2 e)))) v) 3 e = true := hK1.2.2 3 _ he
            have hl1_1 : lv (holdS (pS S i (16 * i + tn (P 22 i)) q65 (some (ad S 3 e)) (P 10 i) (topR S i (tn (P 22 i))) (P 10 i) (P 22 i + 1)) (16 * i + tn (P 22 i)) q2 (some (ad S 3 (tn (P 2 e)))) v) 3 (tn (P 1 e)) = true := hK1.2.2 3 _ (sl_x hZ.2.1 he hx0)
            have hl1_2 : lv (holdS (pS S i (16 * i + tn (P 22 i)) q65 (some (ad S 3 e)) (P 10 i) (topR S i (tn (P 22 i))) (P 10 i) (P 22 i + 1)) (16 * i + tn (P 22 i)) q2 (some (ad S 3 (tn (P 2 e)))) v) 3 (tn (P 2 e)) = true := hK1.2.2 3 _ (sl_y hZ.2.1 he hy0)
            have hV := hZ1.1
            refine g_aload_n d_F_beginFramed_112 rfl ?_
            refine g_aload_n d_F_beginFramed_113 rfl ?_
            refine v_getr (v := some (ad (holdS (pS S i (16 * i + tn (P 22 i)) q65 (some (ad S 3 e)) (P 10 i) (topR S i (tn (P 22 i))) (P 10 i) (P 22 i + 1)) (16 * i + tn (P 22 i)) q2 (some (ad S 3 (tn (P 2 e)))) v) 3 (tn (P 1 e)))) (τ := e) 194 rfl hV hl1_0 (by decide) (by decide) fl_F_102 rfl d_F_beginFramed_114 (ad_i (ad_r (ad_l (ad_i (ad_r (ad_r (ad_i (ad_r (ad_r (ad_i (ad_i (ad_i (ad_r (ad_n (Or.inl (by decide)) (ad_i rfl))))))))))))))) (se_194 hZ1.2.1 hl1_0 hx0) ?_
            refine g_iload_n d_F_beginFramed_117 rfl ?_
            refine g_callV (k1 := 1) (n1 := 0) [va_rf (some (ad (holdS (pS S i (16 * i + tn (P 22 i)) q65 (some (ad S 3 e)) (P 10 i) (topR S i (tn (P 22 i))) (P 10 i) (P 22 i + 1)) (16 * i + tn (P 22 i)) q2 (some (ad S 3 (tn (P 2 e)))) v) 3 (tn (P 1 e)))), .int (v)] cw_F_105 cv_F_perform d_F_beginFramed_118 (ad_i (ad_r (ad_l (ad_i (ad_r (ad_r (ad_i (ad_r (ad_r (ad_i (ad_i (ad_i (ad_r (ad_n (Or.inl (by decide)) (ad_i rfl))))))))))))))) (hV.kdo (sl_4 hZ1.2.1 hi1_0) (by decide)) rfl rfl ⟨by simp, by simp⟩ (by first | decide | omega) (by first | decide | omega) (by first | decide | omega) (fun _ _ h => h) (v_F_perform hV (sl_4 hZ1.2.1 hi1_0) _ _) (fun r_ M h_ hfr_ => ?_)
            obtain ⟨rfl, hV⟩ := h_
            refine g_return d_F_beginFramed_121 rfl ⟨rfl, doS (holdS (pS S i (16 * i + tn (P 22 i)) q65 (some (ad S 3 e)) (P 10 i) (topR S i (tn (P 22 i))) (P 10 i) (P 22 i + 1)) (16 * i + tn (P 22 i)) q2 (some (ad S 3 (tn (P 2 e)))) v) i (tn (P 1 e)) v, ?_, Kp.trans hK1 (Kp.of (P := P) rfl rfl) (Nat.le_refl _)⟩
            unfold frP; rw [if_neg hd.2, show mkM P i e = (P 10 i) by unfold mkM; rw [if_neg (by rw [hk]; decide), if_neg (by rw [hk]; decide)]]
            exact hZ1.does hi1_0 v hx1 hl1_1 h5 hV
        · exact absurd c_53 (by decide)
      · exact absurd c_36 (by decide)
  · skip
    refine g_aload_n d_F_beginFramed_9 rfl ?_
    refine g_bipush (v := -4) d_F_beginFramed_10 (by decide) ?_
    refine g_callV (k1 := 0) (n1 := 7) [.int (-4)] cw_F_77 cv_F_die d_F_beginFramed_12 rfl (hV.kdo (sl_4 hZ.2.1 hi) (by decide)) rfl rfl ⟨by simp, by simp⟩ (by first | decide | omega) (by first | decide | omega) (by first | decide | omega) (fun _ _ h => h) (s_F_die ⟨hV, hZ.2⟩ hi _ (fun h => absurd (h5.symm.trans h) (by decide))) (fun r_ M h_ hfr_ => ?_)
    obtain ⟨rfl, S1, hZ1, ha1, hb1⟩ := h_
    have hk1 : Kp P S S1 := Kp.of ha1 hb1
    have hle1 : nfb P ≤ nfb (p_R_fail P i 2 (-4)) := (Nat.le_refl _)
    have hK1 : Kp P S S1 := Kp.trans (Kp.refl P S) hk1 (Nat.le_refl _)
    have hi1_0 : i < nfb (p_R_fail P i 2 (-4)) := Nat.lt_of_lt_of_le hi hle1
    have hl1_0 : lv S1 3 e = true := hK1.2.2 3 _ he
    have hl1_1 : lv S1 3 (tn (P 1 e)) = true := hK1.2.2 3 _ (sl_x hZ.2.1 he hx0)
    have hl1_2 : lv S1 3 (tn (P 2 e)) = true := hK1.2.2 3 _ (sl_y hZ.2.1 he hy0)
    have hV := hZ1.1
    exact g_return d_F_beginFramed_15 rfl ⟨rfl, S1, by unfold frP; rw [if_pos (d16_ge hZ.2.2.1 c_6)]; exact hZ1, hK1⟩
set_option maxHeartbeats 1000000 in
set_option maxRecDepth 100000 in
theorem s_F_beginFramed_7 {P : Pst} {LL : Lls} {S : Gs} {M : Mm} (hZ : Zt P LL S M) {i e : Nat} (hi : i < nfb P) (h5 : P 5 i = 0) (h15 : P 15 i = 0) (hA : ¬ (P 6 i = 1 ∧ P 10 i = 0)) (hF : ∀ p, p < tn (P 22 i) → P 0 (tn (P 24 (16 * i + p))) = P 23 (16 * i + p)) (he : lv S 3 e = true) (he40 : e < 40) (hx1 : sm (P 1 e) 39) (v : Int32) (hk : P 0 e = 7) : Run m_F_beginFramed ownC 3 3 11 [va_rf (some (ad S 4 i)), va_rf (some (ad S 3 e)), .int v] M (fun r M' => r = none ∧ ∃ S', Zt (frP P i e v) (LL) S' M' ∧ Kp P S S') := by
  have hx0 : ¬ a_R_needs (P 0 e) ≤ 0 := by rw [hk]; decide
  have hy0 : ¬ a_R_needs (P 0 e) ≤ 1 := by rw [hk]; decide
  have hV := hZ.1
  refine Run.ofG (by decide) (by simp [cat_int, cat_rf]) (Nat.le_of_ble_eq_true rfl) ?_
  refine g_aload_n d_F_beginFramed_0 rfl ?_
  refine v_geti (v := P 22 i) (τ := i) 264 rfl hV (sl_4 hZ.2.1 hi) (by decide) (by decide) fl_F_34 rfl d_F_beginFramed_1 rfl (sf_264 hZ.2.1 hi) ?_
  refine g_bipush (v := 16) d_F_beginFramed_4 (by decide) ?_
  refine g_icmp_lt 16 d_F_beginFramed_6 (by decide) (fun c_6 => ?_) (fun c_6 => ?_)
  · have hd := d16_lt hZ.2.2.1 c_6
    refine g_aload_n d_F_beginFramed_16 rfl ?_
    refine v_geti (v := P 10 i) (τ := i) 265 rfl hV (sl_4 hZ.2.1 hi) (by decide) (by decide) fl_F_37 rfl d_F_beginFramed_17 rfl (sf_265 hZ.2.1 hi) ?_
    refine g_istore_n d_F_beginFramed_20 (by decide) ?_
    refine g_aload_n d_F_beginFramed_21 rfl ?_
    refine v_geti (v := 7) (τ := e) 192 rfl hV he (by decide) (by decide) fl_F_81 rfl d_F_beginFramed_22 rfl ((se_192 hZ.2.1 he).trans hk) ?_
    refine g_bipush (v := 8) d_F_beginFramed_25 (by decide) ?_
    refine g_icmp_eq 39 d_F_beginFramed_27 (by decide) (fun c_27 => ?_) (fun c_27 => ?_)
    · exact absurd c_27 (by decide)
    · skip
      refine g_aload_n d_F_beginFramed_30 rfl ?_
      refine v_geti (v := 7) (τ := e) 192 rfl hV he (by decide) (by decide) fl_F_81 rfl d_F_beginFramed_31 rfl ((se_192 hZ.2.1 he).trans hk) ?_
      refine g_bipush (v := 7) d_F_beginFramed_34 (by decide) ?_
      refine g_icmp_ne 47 d_F_beginFramed_36 (by decide) (fun c_36 => ?_) (fun c_36 => ?_)
      · exact absurd c_36 (by decide)
      · skip
        refine g_aload_n d_F_beginFramed_39 rfl ?_
        refine g_iconst (v := 1) d_F_beginFramed_40 (by decide) ?_
        refine v_putz (τ := i) 265 rfl hV (sl_4 hZ.2.1 hi) (by decide) (by decide) fl_F_37 (Or.inr (fun r h => by cases h; rfl)) rfl (Or.inr rfl) d_F_beginFramed_41 rfl (fun M hV => ?_)
        refine g_goto 64 d_F_beginFramed_44 (by decide) ?_
        refine g_aload_n d_F_beginFramed_64 rfl ?_
        refine v_new (k' := 2) (n' := 3) (16 * i + tn (P 22 i)) hV (by decide) cl_F_90 d_F_beginFramed_65 (by first | decide | omega) (by first | decide | omega | simp [ck]) (fun q65 M hq_q65 hV => ?_)
        refine g_dup d_F_beginFramed_68 ?_
        refine g_aload_n d_F_beginFramed_69 rfl ?_
        refine g_iload_n d_F_beginFramed_70 rfl ?_
        refine g_aload_n d_F_beginFramed_71 rfl ?_
        refine v_getr (v := topR S i (tn (P 22 i))) (τ := i) 263 rfl hV (lv_un_le (lv_i (sl_4 hZ.2.1 hi)) _ _ _) (by decide) (by decide) fl_F_30 rfl d_F_beginFramed_72 (ad_n (Or.inl (by decide)) (ad_i rfl)) ((vr_un_c (by first | decide | omega) _ _ _ _).trans ((vr_ui _ _ _ _ _ _).trans (sf_263 hZ.2.1 hi))) ?_
        refine g_callI (k1 := 2) (n1 := 3) [va_rf (some (ad S 3 e)), .int (P 10 i), va_rf (topR S i (tn (P 22 i)))] cw_F_92 ci_Q_init d_F_beginFramed_75 (congrArg some (ad_un_s _ _ _ _).symm) rfl rfl ⟨by simp [cat_rf, cat_int], by simp⟩ (by first | decide | omega) (by first | decide | omega) (by first | decide | omega) (fun _ _ h => h) (v_Q_init hV (lv_un_s _ _ _ _) _ _ (hZ.2.2.1 10 i) _) (fun r_ M h_ hfr_ => ?_)
        obtain ⟨rfl, hV⟩ := h_
        refine v_putr (τ := i) 263 rfl hV (lv_r (lv_i (lv_r (lv_r (lv_i (lv_i (lv_i (lv_r (lv_un_le (lv_i (sl_4 hZ.2.1 hi)) _ _ _))))))))) (by decide) (by decide) fl_F_30 (Or.inr (fun r h => by cases h; rfl)) rfl d_F_beginFramed_78 (ad_r (ad_i (ad_r (ad_r (ad_i (ad_i (ad_i (ad_r (ad_n (Or.inl (by decide)) (ad_i rfl)))))))))) (fun M hV => ?_)
        refine g_aload_n d_F_beginFramed_81 rfl ?_
        refine g_dup d_F_beginFramed_82 ?_
        refine v_geti (v := P 22 i) (τ := i) 264 rfl hV (lv_r (lv_r (lv_i (lv_r (lv_r (lv_i (lv_i (lv_i (lv_r (lv_un_le (lv_i (sl_4 hZ.2.1 hi)) _ _ _)))))))))) (by decide) (by decide) fl_F_34 rfl d_F_beginFramed_83 (ad_r (ad_r (ad_i (ad_r (ad_r (ad_i (ad_i (ad_i (ad_r (ad_n (Or.inl (by decide)) (ad_i rfl))))))))))) ((vi_ur _ _ _ _ _ _).trans ((vi_ur _ _ _ _ _ _).trans ((vi_ui_f (by decide) _ _ _ _).trans ((vi_ur _ _ _ _ _ _).trans ((vi_ur _ _ _ _ _ _).trans ((vi_ui_f (by decide) _ _ _ _).trans ((vi_ui_f (by decide) _ _ _ _).trans ((vi_ui_f (by decide) _ _ _ _).trans ((vi_ur _ _ _ _ _ _).trans ((vi_un_c (by first | decide | omega) _ _ _ _).trans ((vi_ui_f (by decide) _ _ _ _).trans (sf_264 hZ.2.1 hi)))))))))))) ?_
        refine g_iconst (v := 1) d_F_beginFramed_86 (by decide) ?_
        refine g_iadd d_F_beginFramed_87 ?_
        refine v_puti (τ := i) 264 rfl hV (lv_r (lv_r (lv_i (lv_r (lv_r (lv_i (lv_i (lv_i (lv_r (lv_un_le (lv_i (sl_4 hZ.2.1 hi)) _ _ _)))))))))) (by decide) (by decide) fl_F_34 (Or.inr (fun r h => by cases h; rfl)) rfl d_F_beginFramed_88 (ad_r (ad_r (ad_i (ad_r (ad_r (ad_i (ad_i (ad_i (ad_r (ad_n (Or.inl (by decide)) (ad_i rfl))))))))))) (fun M hV => ?_)
        have hZ1 : Zt (up (p_R_frame P i e v) 10 i 1) LL (pS S i (16 * i + tn (P 22 i)) q65 (some (ad S 3 e)) (P 10 i) (topR S i (tn (P 22 i))) 1 (P 22 i + 1)) _ := hZ.push hi h5 h15 hA hd.1 he he40 v (Or.inr rfl) rfl rfl rfl rfl (Sx.refl _ _) (by rw [clst_new he40, if_neg (by rw [hk]; decide), (pS_f _ _ _ _ _ _ _ _ _).2.2.2.1]; rfl) (fun _ => (pS_f _ _ _ _ _ _ _ _ _).2.2.2.2.1) hV
        have hle1 : nfb P ≤ nfb (up (p_R_frame P i e v) 10 i 1) := (Nat.le_refl _)
        have hK1 : Kp P S (pS S i (16 * i + tn (P 22 i)) q65 (some (ad S 3 e)) (P 10 i) (topR S i (tn (P 22 i))) 1 (P 22 i + 1)) := Kp.trans (Kp.refl P S) (Kp_pS (i := i) (k := (16 * i + tn (P 22 i))) (q := q65) (o := some (ad S 3 e)) (b := P 10 i) (z := topR S i (tn (P 22 i))) (m := 1) (d := P 22 i + 1) rfl rfl) (Nat.le_refl _)
        have hi1_0 : i < nfb (up (p_R_frame P i e v) 10 i 1) := Nat.lt_of_lt_of_le hi hle1
        have hl1_0 : lv (pS S i (16 * i + tn (P 22 i)) q65 (some (ad S 3 e)) (P 10 i) (topR S i (tn (P 22 i))) 1 (P 22 i + 1)) 3 e = true := hK1.2.2 3 _ he
        have hl1_1 : lv (pS S i (16 * i + tn (P 22 i)) q65 (some (ad S 3 e)) (P 10 i) (topR S i (tn (P 22 i))) 1 (P 22 i + 1)) 3 (tn (P 1 e)) = true := hK1.2.2 3 _ (sl_x hZ.2.1 he hx0)
        have hl1_2 : lv (pS S i (16 * i + tn (P 22 i)) q65 (some (ad S 3 e)) (P 10 i) (topR S i (tn (P 22 i))) 1 (P 22 i + 1)) 3 (tn (P 2 e)) = true := hK1.2.2 3 _ (sl_y hZ.2.1 he hy0)
        have hV := hZ1.1
        refine g_aload_n d_F_beginFramed_91 rfl ?_
        refine v_geti (v := 7) (τ := e) 192 rfl hV hl1_0 (by decide) (by decide) fl_F_81 rfl d_F_beginFramed_92 (ad_i (ad_r (ad_r (ad_i (ad_r (ad_r (ad_i (ad_i (ad_i (ad_r (ad_n (Or.inl (by decide)) (ad_i rfl)))))))))))) ((se_192 hZ1.2.1 hl1_0 :).trans hk) ?_
        refine g_bipush (v := 6) d_F_beginFramed_95 (by decide) ?_
        refine g_icmp_ne 112 d_F_beginFramed_97 (by decide) (fun c_97 => ?_) (fun c_97 => ?_)
        · skip
          refine g_aload_n d_F_beginFramed_112 rfl ?_
          refine g_aload_n d_F_beginFramed_113 rfl ?_
          refine v_getr (v := some (ad (pS S i (16 * i + tn (P 22 i)) q65 (some (ad S 3 e)) (P 10 i) (topR S i (tn (P 22 i))) 1 (P 22 i + 1)) 3 (tn (P 1 e)))) (τ := e) 194 rfl hV hl1_0 (by decide) (by decide) fl_F_102 rfl d_F_beginFramed_114 (ad_i (ad_r (ad_r (ad_i (ad_r (ad_r (ad_i (ad_i (ad_i (ad_r (ad_n (Or.inl (by decide)) (ad_i rfl)))))))))))) (se_194 hZ1.2.1 hl1_0 hx0) ?_
          refine g_iload_n d_F_beginFramed_117 rfl ?_
          refine g_callV (k1 := 2) (n1 := 3) [va_rf (some (ad (pS S i (16 * i + tn (P 22 i)) q65 (some (ad S 3 e)) (P 10 i) (topR S i (tn (P 22 i))) 1 (P 22 i + 1)) 3 (tn (P 1 e)))), .int (v)] cw_F_105 cv_F_perform d_F_beginFramed_118 (ad_i (ad_r (ad_r (ad_i (ad_r (ad_r (ad_i (ad_i (ad_i (ad_r (ad_n (Or.inl (by decide)) (ad_i rfl)))))))))))) (hV.kdo (sl_4 hZ1.2.1 hi1_0) (by decide)) rfl rfl ⟨by simp, by simp⟩ (by first | decide | omega) (by first | decide | omega) (by first | decide | omega) (fun _ _ h => h) (v_F_perform hV (sl_4 hZ1.2.1 hi1_0) _ _) (fun r_ M h_ hfr_ => ?_)
          obtain ⟨rfl, hV⟩ := h_
          refine g_return d_F_beginFramed_121 rfl ⟨rfl, doS (pS S i (16 * i + tn (P 22 i)) q65 (some (ad S 3 e)) (P 10 i) (topR S i (tn (P 22 i))) 1 (P 22 i + 1)) i (tn (P 1 e)) v, ?_, Kp.trans hK1 (Kp.of (P := P) rfl rfl) (Nat.le_refl _)⟩
          unfold frP; rw [if_neg hd.2, show mkM P i e = 1 by unfold mkM; rw [if_pos (Or.inl hk)]]
          exact hZ1.does hi1_0 v hx1 hl1_1 h5 hV
        · exact absurd c_97 (by decide)
  · skip
    refine g_aload_n d_F_beginFramed_9 rfl ?_
    refine g_bipush (v := -4) d_F_beginFramed_10 (by decide) ?_
    refine g_callV (k1 := 0) (n1 := 7) [.int (-4)] cw_F_77 cv_F_die d_F_beginFramed_12 rfl (hV.kdo (sl_4 hZ.2.1 hi) (by decide)) rfl rfl ⟨by simp, by simp⟩ (by first | decide | omega) (by first | decide | omega) (by first | decide | omega) (fun _ _ h => h) (s_F_die ⟨hV, hZ.2⟩ hi _ (fun h => absurd (h5.symm.trans h) (by decide))) (fun r_ M h_ hfr_ => ?_)
    obtain ⟨rfl, S1, hZ1, ha1, hb1⟩ := h_
    have hk1 : Kp P S S1 := Kp.of ha1 hb1
    have hle1 : nfb P ≤ nfb (p_R_fail P i 2 (-4)) := (Nat.le_refl _)
    have hK1 : Kp P S S1 := Kp.trans (Kp.refl P S) hk1 (Nat.le_refl _)
    have hi1_0 : i < nfb (p_R_fail P i 2 (-4)) := Nat.lt_of_lt_of_le hi hle1
    have hl1_0 : lv S1 3 e = true := hK1.2.2 3 _ he
    have hl1_1 : lv S1 3 (tn (P 1 e)) = true := hK1.2.2 3 _ (sl_x hZ.2.1 he hx0)
    have hl1_2 : lv S1 3 (tn (P 2 e)) = true := hK1.2.2 3 _ (sl_y hZ.2.1 he hy0)
    have hV := hZ1.1
    exact g_return d_F_beginFramed_15 rfl ⟨rfl, S1, by unfold frP; rw [if_pos (d16_ge hZ.2.2.1 c_6)]; exact hZ1, hK1⟩
set_option maxHeartbeats 1000000 in
set_option maxRecDepth 100000 in
theorem s_F_beginFramed_8 {P : Pst} {LL : Lls} {S : Gs} {M : Mm} (hZ : Zt P LL S M) {i e : Nat} (hi : i < nfb P) (h5 : P 5 i = 0) (h15 : P 15 i = 0) (hA : ¬ (P 6 i = 1 ∧ P 10 i = 0)) (hF : ∀ p, p < tn (P 22 i) → P 0 (tn (P 24 (16 * i + p))) = P 23 (16 * i + p)) (he : lv S 3 e = true) (he40 : e < 40) (hx1 : sm (P 1 e) 39) (v : Int32) (hk : P 0 e = 8) : Run m_F_beginFramed ownC 3 3 11 [va_rf (some (ad S 4 i)), va_rf (some (ad S 3 e)), .int v] M (fun r M' => r = none ∧ ∃ S', Zt (frP P i e v) (LL) S' M' ∧ Kp P S S') := by
  have hx0 : ¬ a_R_needs (P 0 e) ≤ 0 := by rw [hk]; decide
  have hV := hZ.1
  refine Run.ofG (by decide) (by simp [cat_int, cat_rf]) (Nat.le_of_ble_eq_true rfl) ?_
  refine g_aload_n d_F_beginFramed_0 rfl ?_
  refine v_geti (v := P 22 i) (τ := i) 264 rfl hV (sl_4 hZ.2.1 hi) (by decide) (by decide) fl_F_34 rfl d_F_beginFramed_1 rfl (sf_264 hZ.2.1 hi) ?_
  refine g_bipush (v := 16) d_F_beginFramed_4 (by decide) ?_
  refine g_icmp_lt 16 d_F_beginFramed_6 (by decide) (fun c_6 => ?_) (fun c_6 => ?_)
  · have hd := d16_lt hZ.2.2.1 c_6
    refine g_aload_n d_F_beginFramed_16 rfl ?_
    refine v_geti (v := P 10 i) (τ := i) 265 rfl hV (sl_4 hZ.2.1 hi) (by decide) (by decide) fl_F_37 rfl d_F_beginFramed_17 rfl (sf_265 hZ.2.1 hi) ?_
    refine g_istore_n d_F_beginFramed_20 (by decide) ?_
    refine g_aload_n d_F_beginFramed_21 rfl ?_
    refine v_geti (v := 8) (τ := e) 192 rfl hV he (by decide) (by decide) fl_F_81 rfl d_F_beginFramed_22 rfl ((se_192 hZ.2.1 he).trans hk) ?_
    refine g_bipush (v := 8) d_F_beginFramed_25 (by decide) ?_
    refine g_icmp_eq 39 d_F_beginFramed_27 (by decide) (fun c_27 => ?_) (fun c_27 => ?_)
    · skip
      refine g_aload_n d_F_beginFramed_39 rfl ?_
      refine g_iconst (v := 1) d_F_beginFramed_40 (by decide) ?_
      refine v_putz (τ := i) 265 rfl hV (sl_4 hZ.2.1 hi) (by decide) (by decide) fl_F_37 (Or.inr (fun r h => by cases h; rfl)) rfl (Or.inr rfl) d_F_beginFramed_41 rfl (fun M hV => ?_)
      refine g_goto 64 d_F_beginFramed_44 (by decide) ?_
      refine g_aload_n d_F_beginFramed_64 rfl ?_
      refine v_new (k' := 2) (n' := 3) (16 * i + tn (P 22 i)) hV (by decide) cl_F_90 d_F_beginFramed_65 (by first | decide | omega) (by first | decide | omega | simp [ck]) (fun q65 M hq_q65 hV => ?_)
      refine g_dup d_F_beginFramed_68 ?_
      refine g_aload_n d_F_beginFramed_69 rfl ?_
      refine g_iload_n d_F_beginFramed_70 rfl ?_
      refine g_aload_n d_F_beginFramed_71 rfl ?_
      refine v_getr (v := topR S i (tn (P 22 i))) (τ := i) 263 rfl hV (lv_un_le (lv_i (sl_4 hZ.2.1 hi)) _ _ _) (by decide) (by decide) fl_F_30 rfl d_F_beginFramed_72 (ad_n (Or.inl (by decide)) (ad_i rfl)) ((vr_un_c (by first | decide | omega) _ _ _ _).trans ((vr_ui _ _ _ _ _ _).trans (sf_263 hZ.2.1 hi))) ?_
      refine g_callI (k1 := 2) (n1 := 3) [va_rf (some (ad S 3 e)), .int (P 10 i), va_rf (topR S i (tn (P 22 i)))] cw_F_92 ci_Q_init d_F_beginFramed_75 (congrArg some (ad_un_s _ _ _ _).symm) rfl rfl ⟨by simp [cat_rf, cat_int], by simp⟩ (by first | decide | omega) (by first | decide | omega) (by first | decide | omega) (fun _ _ h => h) (v_Q_init hV (lv_un_s _ _ _ _) _ _ (hZ.2.2.1 10 i) _) (fun r_ M h_ hfr_ => ?_)
      obtain ⟨rfl, hV⟩ := h_
      refine v_putr (τ := i) 263 rfl hV (lv_r (lv_i (lv_r (lv_r (lv_i (lv_i (lv_i (lv_r (lv_un_le (lv_i (sl_4 hZ.2.1 hi)) _ _ _))))))))) (by decide) (by decide) fl_F_30 (Or.inr (fun r h => by cases h; rfl)) rfl d_F_beginFramed_78 (ad_r (ad_i (ad_r (ad_r (ad_i (ad_i (ad_i (ad_r (ad_n (Or.inl (by decide)) (ad_i rfl)))))))))) (fun M hV => ?_)
      refine g_aload_n d_F_beginFramed_81 rfl ?_
      refine g_dup d_F_beginFramed_82 ?_
      refine v_geti (v := P 22 i) (τ := i) 264 rfl hV (lv_r (lv_r (lv_i (lv_r (lv_r (lv_i (lv_i (lv_i (lv_r (lv_un_le (lv_i (sl_4 hZ.2.1 hi)) _ _ _)))))))))) (by decide) (by decide) fl_F_34 rfl d_F_beginFramed_83 (ad_r (ad_r (ad_i (ad_r (ad_r (ad_i (ad_i (ad_i (ad_r (ad_n (Or.inl (by decide)) (ad_i rfl))))))))))) ((vi_ur _ _ _ _ _ _).trans ((vi_ur _ _ _ _ _ _).trans ((vi_ui_f (by decide) _ _ _ _).trans ((vi_ur _ _ _ _ _ _).trans ((vi_ur _ _ _ _ _ _).trans ((vi_ui_f (by decide) _ _ _ _).trans ((vi_ui_f (by decide) _ _ _ _).trans ((vi_ui_f (by decide) _ _ _ _).trans ((vi_ur _ _ _ _ _ _).trans ((vi_un_c (by first | decide | omega) _ _ _ _).trans ((vi_ui_f (by decide) _ _ _ _).trans (sf_264 hZ.2.1 hi)))))))))))) ?_
      refine g_iconst (v := 1) d_F_beginFramed_86 (by decide) ?_
      refine g_iadd d_F_beginFramed_87 ?_
      refine v_puti (τ := i) 264 rfl hV (lv_r (lv_r (lv_i (lv_r (lv_r (lv_i (lv_i (lv_i (lv_r (lv_un_le (lv_i (sl_4 hZ.2.1 hi)) _ _ _)))))))))) (by decide) (by decide) fl_F_34 (Or.inr (fun r h => by cases h; rfl)) rfl d_F_beginFramed_88 (ad_r (ad_r (ad_i (ad_r (ad_r (ad_i (ad_i (ad_i (ad_r (ad_n (Or.inl (by decide)) (ad_i rfl))))))))))) (fun M hV => ?_)
      have hZ1 : Zt (up (p_R_frame P i e v) 10 i 1) LL (pS S i (16 * i + tn (P 22 i)) q65 (some (ad S 3 e)) (P 10 i) (topR S i (tn (P 22 i))) 1 (P 22 i + 1)) _ := hZ.push hi h5 h15 hA hd.1 he he40 v (Or.inr rfl) rfl rfl rfl rfl (Sx.refl _ _) (by rw [clst_new he40, if_neg (by rw [hk]; decide), (pS_f _ _ _ _ _ _ _ _ _).2.2.2.1]; rfl) (fun _ => (pS_f _ _ _ _ _ _ _ _ _).2.2.2.2.1) hV
      have hle1 : nfb P ≤ nfb (up (p_R_frame P i e v) 10 i 1) := (Nat.le_refl _)
      have hK1 : Kp P S (pS S i (16 * i + tn (P 22 i)) q65 (some (ad S 3 e)) (P 10 i) (topR S i (tn (P 22 i))) 1 (P 22 i + 1)) := Kp.trans (Kp.refl P S) (Kp_pS (i := i) (k := (16 * i + tn (P 22 i))) (q := q65) (o := some (ad S 3 e)) (b := P 10 i) (z := topR S i (tn (P 22 i))) (m := 1) (d := P 22 i + 1) rfl rfl) (Nat.le_refl _)
      have hi1_0 : i < nfb (up (p_R_frame P i e v) 10 i 1) := Nat.lt_of_lt_of_le hi hle1
      have hl1_0 : lv (pS S i (16 * i + tn (P 22 i)) q65 (some (ad S 3 e)) (P 10 i) (topR S i (tn (P 22 i))) 1 (P 22 i + 1)) 3 e = true := hK1.2.2 3 _ he
      have hl1_1 : lv (pS S i (16 * i + tn (P 22 i)) q65 (some (ad S 3 e)) (P 10 i) (topR S i (tn (P 22 i))) 1 (P 22 i + 1)) 3 (tn (P 1 e)) = true := hK1.2.2 3 _ (sl_x hZ.2.1 he hx0)
      have hV := hZ1.1
      refine g_aload_n d_F_beginFramed_91 rfl ?_
      refine v_geti (v := 8) (τ := e) 192 rfl hV hl1_0 (by decide) (by decide) fl_F_81 rfl d_F_beginFramed_92 (ad_i (ad_r (ad_r (ad_i (ad_r (ad_r (ad_i (ad_i (ad_i (ad_r (ad_n (Or.inl (by decide)) (ad_i rfl)))))))))))) ((se_192 hZ1.2.1 hl1_0 :).trans hk) ?_
      refine g_bipush (v := 6) d_F_beginFramed_95 (by decide) ?_
      refine g_icmp_ne 112 d_F_beginFramed_97 (by decide) (fun c_97 => ?_) (fun c_97 => ?_)
      · skip
        refine g_aload_n d_F_beginFramed_112 rfl ?_
        refine g_aload_n d_F_beginFramed_113 rfl ?_
        refine v_getr (v := some (ad (pS S i (16 * i + tn (P 22 i)) q65 (some (ad S 3 e)) (P 10 i) (topR S i (tn (P 22 i))) 1 (P 22 i + 1)) 3 (tn (P 1 e)))) (τ := e) 194 rfl hV hl1_0 (by decide) (by decide) fl_F_102 rfl d_F_beginFramed_114 (ad_i (ad_r (ad_r (ad_i (ad_r (ad_r (ad_i (ad_i (ad_i (ad_r (ad_n (Or.inl (by decide)) (ad_i rfl)))))))))))) (se_194 hZ1.2.1 hl1_0 hx0) ?_
        refine g_iload_n d_F_beginFramed_117 rfl ?_
        refine g_callV (k1 := 2) (n1 := 3) [va_rf (some (ad (pS S i (16 * i + tn (P 22 i)) q65 (some (ad S 3 e)) (P 10 i) (topR S i (tn (P 22 i))) 1 (P 22 i + 1)) 3 (tn (P 1 e)))), .int (v)] cw_F_105 cv_F_perform d_F_beginFramed_118 (ad_i (ad_r (ad_r (ad_i (ad_r (ad_r (ad_i (ad_i (ad_i (ad_r (ad_n (Or.inl (by decide)) (ad_i rfl)))))))))))) (hV.kdo (sl_4 hZ1.2.1 hi1_0) (by decide)) rfl rfl ⟨by simp, by simp⟩ (by first | decide | omega) (by first | decide | omega) (by first | decide | omega) (fun _ _ h => h) (v_F_perform hV (sl_4 hZ1.2.1 hi1_0) _ _) (fun r_ M h_ hfr_ => ?_)
        obtain ⟨rfl, hV⟩ := h_
        refine g_return d_F_beginFramed_121 rfl ⟨rfl, doS (pS S i (16 * i + tn (P 22 i)) q65 (some (ad S 3 e)) (P 10 i) (topR S i (tn (P 22 i))) 1 (P 22 i + 1)) i (tn (P 1 e)) v, ?_, Kp.trans hK1 (Kp.of (P := P) rfl rfl) (Nat.le_refl _)⟩
        unfold frP; rw [if_neg hd.2, show mkM P i e = 1 by unfold mkM; rw [if_pos (Or.inr hk)]]
        exact hZ1.does hi1_0 v hx1 hl1_1 h5 hV
      · exact absurd c_97 (by decide)
    · exact absurd c_27 (by decide)
  · skip
    refine g_aload_n d_F_beginFramed_9 rfl ?_
    refine g_bipush (v := -4) d_F_beginFramed_10 (by decide) ?_
    refine g_callV (k1 := 0) (n1 := 7) [.int (-4)] cw_F_77 cv_F_die d_F_beginFramed_12 rfl (hV.kdo (sl_4 hZ.2.1 hi) (by decide)) rfl rfl ⟨by simp, by simp⟩ (by first | decide | omega) (by first | decide | omega) (by first | decide | omega) (fun _ _ h => h) (s_F_die ⟨hV, hZ.2⟩ hi _ (fun h => absurd (h5.symm.trans h) (by decide))) (fun r_ M h_ hfr_ => ?_)
    obtain ⟨rfl, S1, hZ1, ha1, hb1⟩ := h_
    have hk1 : Kp P S S1 := Kp.of ha1 hb1
    have hle1 : nfb P ≤ nfb (p_R_fail P i 2 (-4)) := (Nat.le_refl _)
    have hK1 : Kp P S S1 := Kp.trans (Kp.refl P S) hk1 (Nat.le_refl _)
    have hi1_0 : i < nfb (p_R_fail P i 2 (-4)) := Nat.lt_of_lt_of_le hi hle1
    have hl1_0 : lv S1 3 e = true := hK1.2.2 3 _ he
    have hl1_1 : lv S1 3 (tn (P 1 e)) = true := hK1.2.2 3 _ (sl_x hZ.2.1 he hx0)
    have hV := hZ1.1
    exact g_return d_F_beginFramed_15 rfl ⟨rfl, S1, by unfold frP; rw [if_pos (d16_ge hZ.2.2.1 c_6)]; exact hZ1, hK1⟩
set_option maxHeartbeats 1000000 in
set_option maxRecDepth 100000 in
theorem s_F_beginFramed_9 {P : Pst} {LL : Lls} {S : Gs} {M : Mm} (hZ : Zt P LL S M) {i e : Nat} (hi : i < nfb P) (h5 : P 5 i = 0) (h15 : P 15 i = 0) (hA : ¬ (P 6 i = 1 ∧ P 10 i = 0)) (hF : ∀ p, p < tn (P 22 i) → P 0 (tn (P 24 (16 * i + p))) = P 23 (16 * i + p)) (he : lv S 3 e = true) (he40 : e < 40) (hx1 : sm (P 1 e) 39) (v : Int32) (hk : P 0 e = 9) : Run m_F_beginFramed ownC 3 3 11 [va_rf (some (ad S 4 i)), va_rf (some (ad S 3 e)), .int v] M (fun r M' => r = none ∧ ∃ S', Zt (frP P i e v) (LL) S' M' ∧ Kp P S S') := by
  have hx0 : ¬ a_R_needs (P 0 e) ≤ 0 := by rw [hk]; decide
  have hV := hZ.1
  refine Run.ofG (by decide) (by simp [cat_int, cat_rf]) (Nat.le_of_ble_eq_true rfl) ?_
  refine g_aload_n d_F_beginFramed_0 rfl ?_
  refine v_geti (v := P 22 i) (τ := i) 264 rfl hV (sl_4 hZ.2.1 hi) (by decide) (by decide) fl_F_34 rfl d_F_beginFramed_1 rfl (sf_264 hZ.2.1 hi) ?_
  refine g_bipush (v := 16) d_F_beginFramed_4 (by decide) ?_
  refine g_icmp_lt 16 d_F_beginFramed_6 (by decide) (fun c_6 => ?_) (fun c_6 => ?_)
  · have hd := d16_lt hZ.2.2.1 c_6
    refine g_aload_n d_F_beginFramed_16 rfl ?_
    refine v_geti (v := P 10 i) (τ := i) 265 rfl hV (sl_4 hZ.2.1 hi) (by decide) (by decide) fl_F_37 rfl d_F_beginFramed_17 rfl (sf_265 hZ.2.1 hi) ?_
    refine g_istore_n d_F_beginFramed_20 (by decide) ?_
    refine g_aload_n d_F_beginFramed_21 rfl ?_
    refine v_geti (v := 9) (τ := e) 192 rfl hV he (by decide) (by decide) fl_F_81 rfl d_F_beginFramed_22 rfl ((se_192 hZ.2.1 he).trans hk) ?_
    refine g_bipush (v := 8) d_F_beginFramed_25 (by decide) ?_
    refine g_icmp_eq 39 d_F_beginFramed_27 (by decide) (fun c_27 => ?_) (fun c_27 => ?_)
    · exact absurd c_27 (by decide)
    · skip
      refine g_aload_n d_F_beginFramed_30 rfl ?_
      refine v_geti (v := 9) (τ := e) 192 rfl hV he (by decide) (by decide) fl_F_81 rfl d_F_beginFramed_31 rfl ((se_192 hZ.2.1 he).trans hk) ?_
      refine g_bipush (v := 7) d_F_beginFramed_34 (by decide) ?_
      refine g_icmp_ne 47 d_F_beginFramed_36 (by decide) (fun c_36 => ?_) (fun c_36 => ?_)
      · skip
        refine g_aload_n d_F_beginFramed_47 rfl ?_
        refine v_geti (v := 9) (τ := e) 192 rfl hV he (by decide) (by decide) fl_F_81 rfl d_F_beginFramed_48 rfl ((se_192 hZ.2.1 he).trans hk) ?_
        refine g_bipush (v := 9) d_F_beginFramed_51 (by decide) ?_
        refine g_icmp_ne 64 d_F_beginFramed_53 (by decide) (fun c_53 => ?_) (fun c_53 => ?_)
        · exact absurd c_53 (by decide)
        · skip
          refine g_aload_n d_F_beginFramed_56 rfl ?_
          refine g_aload_n d_F_beginFramed_57 rfl ?_
          refine g_callV (k1 := 3) (n1 := 11) [] cw_F_86 cv_F_maskedOutsideMask d_F_beginFramed_58 rfl (hV.kdo (sl_4 hZ.2.1 hi) (by decide)) rfl rfl ⟨by simp [cat_rf, cat_int], by simp⟩ (by first | decide | omega) (by first | decide | omega) (by first | decide | omega) (fun _ _ h => h) (s_F_maskedOutsideMask ⟨hV, hZ.2⟩ hi hF) (fun r_ M h_ hfr_ => ?_)
          obtain ⟨rfl, hV⟩ := h_
          refine v_putz (τ := i) 265 rfl hV (sl_4 hZ.2.1 hi) (by decide) (by decide) fl_F_37 (Or.inr (fun r h => by cases h; rfl)) rfl (moP_b hZ.2.2.1 i _) d_F_beginFramed_61 rfl (fun M hV => ?_)
          refine g_aload_n d_F_beginFramed_64 rfl ?_
          refine v_new (k' := 2) (n' := 3) (16 * i + tn (P 22 i)) hV (by decide) cl_F_90 d_F_beginFramed_65 (by first | decide | omega) (by first | decide | omega | simp [ck]) (fun q65 M hq_q65 hV => ?_)
          refine g_dup d_F_beginFramed_68 ?_
          refine g_aload_n d_F_beginFramed_69 rfl ?_
          refine g_iload_n d_F_beginFramed_70 rfl ?_
          refine g_aload_n d_F_beginFramed_71 rfl ?_
          refine v_getr (v := topR S i (tn (P 22 i))) (τ := i) 263 rfl hV (lv_un_le (lv_i (sl_4 hZ.2.1 hi)) _ _ _) (by decide) (by decide) fl_F_30 rfl d_F_beginFramed_72 (ad_n (Or.inl (by decide)) (ad_i rfl)) ((vr_un_c (by first | decide | omega) _ _ _ _).trans ((vr_ui _ _ _ _ _ _).trans (sf_263 hZ.2.1 hi))) ?_
          refine g_callI (k1 := 2) (n1 := 3) [va_rf (some (ad S 3 e)), .int (P 10 i), va_rf (topR S i (tn (P 22 i)))] cw_F_92 ci_Q_init d_F_beginFramed_75 (congrArg some (ad_un_s _ _ _ _).symm) rfl rfl ⟨by simp [cat_rf, cat_int], by simp⟩ (by first | decide | omega) (by first | decide | omega) (by first | decide | omega) (fun _ _ h => h) (v_Q_init hV (lv_un_s _ _ _ _) _ _ (hZ.2.2.1 10 i) _) (fun r_ M h_ hfr_ => ?_)
          obtain ⟨rfl, hV⟩ := h_
          refine v_putr (τ := i) 263 rfl hV (lv_r (lv_i (lv_r (lv_r (lv_i (lv_i (lv_i (lv_r (lv_un_le (lv_i (sl_4 hZ.2.1 hi)) _ _ _))))))))) (by decide) (by decide) fl_F_30 (Or.inr (fun r h => by cases h; rfl)) rfl d_F_beginFramed_78 (ad_r (ad_i (ad_r (ad_r (ad_i (ad_i (ad_i (ad_r (ad_n (Or.inl (by decide)) (ad_i rfl)))))))))) (fun M hV => ?_)
          refine g_aload_n d_F_beginFramed_81 rfl ?_
          refine g_dup d_F_beginFramed_82 ?_
          refine v_geti (v := P 22 i) (τ := i) 264 rfl hV (lv_r (lv_r (lv_i (lv_r (lv_r (lv_i (lv_i (lv_i (lv_r (lv_un_le (lv_i (sl_4 hZ.2.1 hi)) _ _ _)))))))))) (by decide) (by decide) fl_F_34 rfl d_F_beginFramed_83 (ad_r (ad_r (ad_i (ad_r (ad_r (ad_i (ad_i (ad_i (ad_r (ad_n (Or.inl (by decide)) (ad_i rfl))))))))))) ((vi_ur _ _ _ _ _ _).trans ((vi_ur _ _ _ _ _ _).trans ((vi_ui_f (by decide) _ _ _ _).trans ((vi_ur _ _ _ _ _ _).trans ((vi_ur _ _ _ _ _ _).trans ((vi_ui_f (by decide) _ _ _ _).trans ((vi_ui_f (by decide) _ _ _ _).trans ((vi_ui_f (by decide) _ _ _ _).trans ((vi_ur _ _ _ _ _ _).trans ((vi_un_c (by first | decide | omega) _ _ _ _).trans ((vi_ui_f (by decide) _ _ _ _).trans (sf_264 hZ.2.1 hi)))))))))))) ?_
          refine g_iconst (v := 1) d_F_beginFramed_86 (by decide) ?_
          refine g_iadd d_F_beginFramed_87 ?_
          refine v_puti (τ := i) 264 rfl hV (lv_r (lv_r (lv_i (lv_r (lv_r (lv_i (lv_i (lv_i (lv_r (lv_un_le (lv_i (sl_4 hZ.2.1 hi)) _ _ _)))))))))) (by decide) (by decide) fl_F_34 (Or.inr (fun r h => by cases h; rfl)) rfl d_F_beginFramed_88 (ad_r (ad_r (ad_i (ad_r (ad_r (ad_i (ad_i (ad_i (ad_r (ad_n (Or.inl (by decide)) (ad_i rfl))))))))))) (fun M hV => ?_)
          have hZ1 : Zt (up (p_R_frame P i e v) 10 i (moP P i (tn (P 22 i)))) LL (pS S i (16 * i + tn (P 22 i)) q65 (some (ad S 3 e)) (P 10 i) (topR S i (tn (P 22 i))) (moP P i (tn (P 22 i))) (P 22 i + 1)) _ := hZ.push hi h5 h15 hA hd.1 he he40 v (moP_b hZ.2.2.1 i _) rfl rfl rfl rfl (Sx.refl _ _) (by rw [clst_new he40, if_neg (by rw [hk]; decide), (pS_f _ _ _ _ _ _ _ _ _).2.2.2.1]; rfl) (fun _ => (pS_f _ _ _ _ _ _ _ _ _).2.2.2.2.1) hV
          have hle1 : nfb P ≤ nfb (up (p_R_frame P i e v) 10 i (moP P i (tn (P 22 i)))) := (Nat.le_refl _)
          have hK1 : Kp P S (pS S i (16 * i + tn (P 22 i)) q65 (some (ad S 3 e)) (P 10 i) (topR S i (tn (P 22 i))) (moP P i (tn (P 22 i))) (P 22 i + 1)) := Kp.trans (Kp.refl P S) (Kp_pS (i := i) (k := (16 * i + tn (P 22 i))) (q := q65) (o := some (ad S 3 e)) (b := P 10 i) (z := topR S i (tn (P 22 i))) (m := (moP P i (tn (P 22 i)))) (d := P 22 i + 1) rfl rfl) (Nat.le_refl _)
          have hi1_0 : i < nfb (up (p_R_frame P i e v) 10 i (moP P i (tn (P 22 i)))) := Nat.lt_of_lt_of_le hi hle1
          have hl1_0 : lv (pS S i (16 * i + tn (P 22 i)) q65 (some (ad S 3 e)) (P 10 i) (topR S i (tn (P 22 i))) (moP P i (tn (P 22 i))) (P 22 i + 1)) 3 e = true := hK1.2.2 3 _ he
          have hl1_1 : lv (pS S i (16 * i + tn (P 22 i)) q65 (some (ad S 3 e)) (P 10 i) (topR S i (tn (P 22 i))) (moP P i (tn (P 22 i))) (P 22 i + 1)) 3 (tn (P 1 e)) = true := hK1.2.2 3 _ (sl_x hZ.2.1 he hx0)
          have hV := hZ1.1
          refine g_aload_n d_F_beginFramed_91 rfl ?_
          refine v_geti (v := 9) (τ := e) 192 rfl hV hl1_0 (by decide) (by decide) fl_F_81 rfl d_F_beginFramed_92 (ad_i (ad_r (ad_r (ad_i (ad_r (ad_r (ad_i (ad_i (ad_i (ad_r (ad_n (Or.inl (by decide)) (ad_i rfl)))))))))))) ((se_192 hZ1.2.1 hl1_0 :).trans hk) ?_
          refine g_bipush (v := 6) d_F_beginFramed_95 (by decide) ?_
          refine g_icmp_ne 112 d_F_beginFramed_97 (by decide) (fun c_97 => ?_) (fun c_97 => ?_)
          · skip
            refine g_aload_n d_F_beginFramed_112 rfl ?_
            refine g_aload_n d_F_beginFramed_113 rfl ?_
            refine v_getr (v := some (ad (pS S i (16 * i + tn (P 22 i)) q65 (some (ad S 3 e)) (P 10 i) (topR S i (tn (P 22 i))) (moP P i (tn (P 22 i))) (P 22 i + 1)) 3 (tn (P 1 e)))) (τ := e) 194 rfl hV hl1_0 (by decide) (by decide) fl_F_102 rfl d_F_beginFramed_114 (ad_i (ad_r (ad_r (ad_i (ad_r (ad_r (ad_i (ad_i (ad_i (ad_r (ad_n (Or.inl (by decide)) (ad_i rfl)))))))))))) (se_194 hZ1.2.1 hl1_0 hx0) ?_
            refine g_iload_n d_F_beginFramed_117 rfl ?_
            refine g_callV (k1 := 2) (n1 := 3) [va_rf (some (ad (pS S i (16 * i + tn (P 22 i)) q65 (some (ad S 3 e)) (P 10 i) (topR S i (tn (P 22 i))) (moP P i (tn (P 22 i))) (P 22 i + 1)) 3 (tn (P 1 e)))), .int (v)] cw_F_105 cv_F_perform d_F_beginFramed_118 (ad_i (ad_r (ad_r (ad_i (ad_r (ad_r (ad_i (ad_i (ad_i (ad_r (ad_n (Or.inl (by decide)) (ad_i rfl)))))))))))) (hV.kdo (sl_4 hZ1.2.1 hi1_0) (by decide)) rfl rfl ⟨by simp, by simp⟩ (by first | decide | omega) (by first | decide | omega) (by first | decide | omega) (fun _ _ h => h) (v_F_perform hV (sl_4 hZ1.2.1 hi1_0) _ _) (fun r_ M h_ hfr_ => ?_)
            obtain ⟨rfl, hV⟩ := h_
            refine g_return d_F_beginFramed_121 rfl ⟨rfl, doS (pS S i (16 * i + tn (P 22 i)) q65 (some (ad S 3 e)) (P 10 i) (topR S i (tn (P 22 i))) (moP P i (tn (P 22 i))) (P 22 i + 1)) i (tn (P 1 e)) v, ?_, Kp.trans hK1 (Kp.of (P := P) rfl rfl) (Nat.le_refl _)⟩
            unfold frP; rw [if_neg hd.2, show mkM P i e = (moP P i (tn (P 22 i))) by unfold mkM; rw [if_neg (by rw [hk]; decide), if_pos hk]]
            exact hZ1.does hi1_0 v hx1 hl1_1 h5 hV
          · exact absurd c_97 (by decide)
      · exact absurd c_36 (by decide)
  · skip
    refine g_aload_n d_F_beginFramed_9 rfl ?_
    refine g_bipush (v := -4) d_F_beginFramed_10 (by decide) ?_
    refine g_callV (k1 := 0) (n1 := 7) [.int (-4)] cw_F_77 cv_F_die d_F_beginFramed_12 rfl (hV.kdo (sl_4 hZ.2.1 hi) (by decide)) rfl rfl ⟨by simp, by simp⟩ (by first | decide | omega) (by first | decide | omega) (by first | decide | omega) (fun _ _ h => h) (s_F_die ⟨hV, hZ.2⟩ hi _ (fun h => absurd (h5.symm.trans h) (by decide))) (fun r_ M h_ hfr_ => ?_)
    obtain ⟨rfl, S1, hZ1, ha1, hb1⟩ := h_
    have hk1 : Kp P S S1 := Kp.of ha1 hb1
    have hle1 : nfb P ≤ nfb (p_R_fail P i 2 (-4)) := (Nat.le_refl _)
    have hK1 : Kp P S S1 := Kp.trans (Kp.refl P S) hk1 (Nat.le_refl _)
    have hi1_0 : i < nfb (p_R_fail P i 2 (-4)) := Nat.lt_of_lt_of_le hi hle1
    have hl1_0 : lv S1 3 e = true := hK1.2.2 3 _ he
    have hl1_1 : lv S1 3 (tn (P 1 e)) = true := hK1.2.2 3 _ (sl_x hZ.2.1 he hx0)
    have hV := hZ1.1
    exact g_return d_F_beginFramed_15 rfl ⟨rfl, S1, by unfold frP; rw [if_pos (d16_ge hZ.2.2.1 c_6)]; exact hZ1, hK1⟩
set_option maxHeartbeats 1000000 in
set_option maxRecDepth 100000 in
theorem s_F_beginFramed_10 {P : Pst} {LL : Lls} {S : Gs} {M : Mm} (hZ : Zt P LL S M) {i e : Nat} (hi : i < nfb P) (h5 : P 5 i = 0) (h15 : P 15 i = 0) (hA : ¬ (P 6 i = 1 ∧ P 10 i = 0)) (hF : ∀ p, p < tn (P 22 i) → P 0 (tn (P 24 (16 * i + p))) = P 23 (16 * i + p)) (he : lv S 3 e = true) (he40 : e < 40) (hx1 : sm (P 1 e) 39) (v : Int32) (hk : P 0 e = 10) : Run m_F_beginFramed ownC 3 3 11 [va_rf (some (ad S 4 i)), va_rf (some (ad S 3 e)), .int v] M (fun r M' => r = none ∧ ∃ S', Zt (frP P i e v) (LL) S' M' ∧ Kp P S S') := by
  have hx0 : ¬ a_R_needs (P 0 e) ≤ 0 := by rw [hk]; decide
  have hV := hZ.1
  refine Run.ofG (by decide) (by simp [cat_int, cat_rf]) (Nat.le_of_ble_eq_true rfl) ?_
  refine g_aload_n d_F_beginFramed_0 rfl ?_
  refine v_geti (v := P 22 i) (τ := i) 264 rfl hV (sl_4 hZ.2.1 hi) (by decide) (by decide) fl_F_34 rfl d_F_beginFramed_1 rfl (sf_264 hZ.2.1 hi) ?_
  refine g_bipush (v := 16) d_F_beginFramed_4 (by decide) ?_
  refine g_icmp_lt 16 d_F_beginFramed_6 (by decide) (fun c_6 => ?_) (fun c_6 => ?_)
  · have hd := d16_lt hZ.2.2.1 c_6
    refine g_aload_n d_F_beginFramed_16 rfl ?_
    refine v_geti (v := P 10 i) (τ := i) 265 rfl hV (sl_4 hZ.2.1 hi) (by decide) (by decide) fl_F_37 rfl d_F_beginFramed_17 rfl (sf_265 hZ.2.1 hi) ?_
    refine g_istore_n d_F_beginFramed_20 (by decide) ?_
    refine g_aload_n d_F_beginFramed_21 rfl ?_
    refine v_geti (v := 10) (τ := e) 192 rfl hV he (by decide) (by decide) fl_F_81 rfl d_F_beginFramed_22 rfl ((se_192 hZ.2.1 he).trans hk) ?_
    refine g_bipush (v := 8) d_F_beginFramed_25 (by decide) ?_
    refine g_icmp_eq 39 d_F_beginFramed_27 (by decide) (fun c_27 => ?_) (fun c_27 => ?_)
    · exact absurd c_27 (by decide)
    · skip
      refine g_aload_n d_F_beginFramed_30 rfl ?_
      refine v_geti (v := 10) (τ := e) 192 rfl hV he (by decide) (by decide) fl_F_81 rfl d_F_beginFramed_31 rfl ((se_192 hZ.2.1 he).trans hk) ?_
      refine g_bipush (v := 7) d_F_beginFramed_34 (by decide) ?_
      refine g_icmp_ne 47 d_F_beginFramed_36 (by decide) (fun c_36 => ?_) (fun c_36 => ?_)
      · skip
        refine g_aload_n d_F_beginFramed_47 rfl ?_
        refine v_geti (v := 10) (τ := e) 192 rfl hV he (by decide) (by decide) fl_F_81 rfl d_F_beginFramed_48 rfl ((se_192 hZ.2.1 he).trans hk) ?_
        refine g_bipush (v := 9) d_F_beginFramed_51 (by decide) ?_
        refine g_icmp_ne 64 d_F_beginFramed_53 (by decide) (fun c_53 => ?_) (fun c_53 => ?_)
        · skip
          have hV : VM (ui S 265 i (P 10 i)) M := by rw [ui_same (sf_265 hZ.2.1 hi)]; exact hV
          refine g_aload_n d_F_beginFramed_64 rfl ?_
          refine v_new (k' := 2) (n' := 3) (16 * i + tn (P 22 i)) hV (by decide) cl_F_90 d_F_beginFramed_65 (by first | decide | omega) (by first | decide | omega | simp [ck]) (fun q65 M hq_q65 hV => ?_)
          refine g_dup d_F_beginFramed_68 ?_
          refine g_aload_n d_F_beginFramed_69 rfl ?_
          refine g_iload_n d_F_beginFramed_70 rfl ?_
          refine g_aload_n d_F_beginFramed_71 rfl ?_
          refine v_getr (v := topR S i (tn (P 22 i))) (τ := i) 263 rfl hV (lv_un_le (lv_i (sl_4 hZ.2.1 hi)) _ _ _) (by decide) (by decide) fl_F_30 rfl d_F_beginFramed_72 (ad_n (Or.inl (by decide)) (ad_i rfl)) ((vr_un_c (by first | decide | omega) _ _ _ _).trans ((vr_ui _ _ _ _ _ _).trans (sf_263 hZ.2.1 hi))) ?_
          refine g_callI (k1 := 2) (n1 := 3) [va_rf (some (ad S 3 e)), .int (P 10 i), va_rf (topR S i (tn (P 22 i)))] cw_F_92 ci_Q_init d_F_beginFramed_75 (congrArg some (ad_un_s _ _ _ _).symm) rfl rfl ⟨by simp [cat_rf, cat_int], by simp⟩ (by first | decide | omega) (by first | decide | omega) (by first | decide | omega) (fun _ _ h => h) (v_Q_init hV (lv_un_s _ _ _ _) _ _ (hZ.2.2.1 10 i) _) (fun r_ M h_ hfr_ => ?_)
          obtain ⟨rfl, hV⟩ := h_
          refine v_putr (τ := i) 263 rfl hV (lv_r (lv_i (lv_r (lv_r (lv_i (lv_i (lv_i (lv_r (lv_un_le (lv_i (sl_4 hZ.2.1 hi)) _ _ _))))))))) (by decide) (by decide) fl_F_30 (Or.inr (fun r h => by cases h; rfl)) rfl d_F_beginFramed_78 (ad_r (ad_i (ad_r (ad_r (ad_i (ad_i (ad_i (ad_r (ad_n (Or.inl (by decide)) (ad_i rfl)))))))))) (fun M hV => ?_)
          refine g_aload_n d_F_beginFramed_81 rfl ?_
          refine g_dup d_F_beginFramed_82 ?_
          refine v_geti (v := P 22 i) (τ := i) 264 rfl hV (lv_r (lv_r (lv_i (lv_r (lv_r (lv_i (lv_i (lv_i (lv_r (lv_un_le (lv_i (sl_4 hZ.2.1 hi)) _ _ _)))))))))) (by decide) (by decide) fl_F_34 rfl d_F_beginFramed_83 (ad_r (ad_r (ad_i (ad_r (ad_r (ad_i (ad_i (ad_i (ad_r (ad_n (Or.inl (by decide)) (ad_i rfl))))))))))) ((vi_ur _ _ _ _ _ _).trans ((vi_ur _ _ _ _ _ _).trans ((vi_ui_f (by decide) _ _ _ _).trans ((vi_ur _ _ _ _ _ _).trans ((vi_ur _ _ _ _ _ _).trans ((vi_ui_f (by decide) _ _ _ _).trans ((vi_ui_f (by decide) _ _ _ _).trans ((vi_ui_f (by decide) _ _ _ _).trans ((vi_ur _ _ _ _ _ _).trans ((vi_un_c (by first | decide | omega) _ _ _ _).trans ((vi_ui_f (by decide) _ _ _ _).trans (sf_264 hZ.2.1 hi)))))))))))) ?_
          refine g_iconst (v := 1) d_F_beginFramed_86 (by decide) ?_
          refine g_iadd d_F_beginFramed_87 ?_
          refine v_puti (τ := i) 264 rfl hV (lv_r (lv_r (lv_i (lv_r (lv_r (lv_i (lv_i (lv_i (lv_r (lv_un_le (lv_i (sl_4 hZ.2.1 hi)) _ _ _)))))))))) (by decide) (by decide) fl_F_34 (Or.inr (fun r h => by cases h; rfl)) rfl d_F_beginFramed_88 (ad_r (ad_r (ad_i (ad_r (ad_r (ad_i (ad_i (ad_i (ad_r (ad_n (Or.inl (by decide)) (ad_i rfl))))))))))) (fun M hV => ?_)
          have hZ1 : Zt (up (p_R_frame P i e v) 10 i (P 10 i)) LL (pS S i (16 * i + tn (P 22 i)) q65 (some (ad S 3 e)) (P 10 i) (topR S i (tn (P 22 i))) (P 10 i) (P 22 i + 1)) _ := hZ.push hi h5 h15 hA hd.1 he he40 v (hZ.2.2.1 10 i) rfl rfl rfl rfl (Sx.refl _ _) (by rw [clst_new he40, if_neg (by rw [hk]; decide), (pS_f _ _ _ _ _ _ _ _ _).2.2.2.1]; rfl) (fun _ => (pS_f _ _ _ _ _ _ _ _ _).2.2.2.2.1) hV
          have hle1 : nfb P ≤ nfb (up (p_R_frame P i e v) 10 i (P 10 i)) := (Nat.le_refl _)
          have hK1 : Kp P S (pS S i (16 * i + tn (P 22 i)) q65 (some (ad S 3 e)) (P 10 i) (topR S i (tn (P 22 i))) (P 10 i) (P 22 i + 1)) := Kp.trans (Kp.refl P S) (Kp_pS (i := i) (k := (16 * i + tn (P 22 i))) (q := q65) (o := some (ad S 3 e)) (b := P 10 i) (z := topR S i (tn (P 22 i))) (m := (P 10 i)) (d := P 22 i + 1) rfl rfl) (Nat.le_refl _)
          have hi1_0 : i < nfb (up (p_R_frame P i e v) 10 i (P 10 i)) := Nat.lt_of_lt_of_le hi hle1
          have hl1_0 : lv (pS S i (16 * i + tn (P 22 i)) q65 (some (ad S 3 e)) (P 10 i) (topR S i (tn (P 22 i))) (P 10 i) (P 22 i + 1)) 3 e = true := hK1.2.2 3 _ he
          have hl1_1 : lv (pS S i (16 * i + tn (P 22 i)) q65 (some (ad S 3 e)) (P 10 i) (topR S i (tn (P 22 i))) (P 10 i) (P 22 i + 1)) 3 (tn (P 1 e)) = true := hK1.2.2 3 _ (sl_x hZ.2.1 he hx0)
          have hV := hZ1.1
          refine g_aload_n d_F_beginFramed_91 rfl ?_
          refine v_geti (v := 10) (τ := e) 192 rfl hV hl1_0 (by decide) (by decide) fl_F_81 rfl d_F_beginFramed_92 (ad_i (ad_r (ad_r (ad_i (ad_r (ad_r (ad_i (ad_i (ad_i (ad_r (ad_n (Or.inl (by decide)) (ad_i rfl)))))))))))) ((se_192 hZ1.2.1 hl1_0 :).trans hk) ?_
          refine g_bipush (v := 6) d_F_beginFramed_95 (by decide) ?_
          refine g_icmp_ne 112 d_F_beginFramed_97 (by decide) (fun c_97 => ?_) (fun c_97 => ?_)
          · skip
            refine g_aload_n d_F_beginFramed_112 rfl ?_
            refine g_aload_n d_F_beginFramed_113 rfl ?_
            refine v_getr (v := some (ad (pS S i (16 * i + tn (P 22 i)) q65 (some (ad S 3 e)) (P 10 i) (topR S i (tn (P 22 i))) (P 10 i) (P 22 i + 1)) 3 (tn (P 1 e)))) (τ := e) 194 rfl hV hl1_0 (by decide) (by decide) fl_F_102 rfl d_F_beginFramed_114 (ad_i (ad_r (ad_r (ad_i (ad_r (ad_r (ad_i (ad_i (ad_i (ad_r (ad_n (Or.inl (by decide)) (ad_i rfl)))))))))))) (se_194 hZ1.2.1 hl1_0 hx0) ?_
            refine g_iload_n d_F_beginFramed_117 rfl ?_
            refine g_callV (k1 := 2) (n1 := 3) [va_rf (some (ad (pS S i (16 * i + tn (P 22 i)) q65 (some (ad S 3 e)) (P 10 i) (topR S i (tn (P 22 i))) (P 10 i) (P 22 i + 1)) 3 (tn (P 1 e)))), .int (v)] cw_F_105 cv_F_perform d_F_beginFramed_118 (ad_i (ad_r (ad_r (ad_i (ad_r (ad_r (ad_i (ad_i (ad_i (ad_r (ad_n (Or.inl (by decide)) (ad_i rfl)))))))))))) (hV.kdo (sl_4 hZ1.2.1 hi1_0) (by decide)) rfl rfl ⟨by simp, by simp⟩ (by first | decide | omega) (by first | decide | omega) (by first | decide | omega) (fun _ _ h => h) (v_F_perform hV (sl_4 hZ1.2.1 hi1_0) _ _) (fun r_ M h_ hfr_ => ?_)
            obtain ⟨rfl, hV⟩ := h_
            refine g_return d_F_beginFramed_121 rfl ⟨rfl, doS (pS S i (16 * i + tn (P 22 i)) q65 (some (ad S 3 e)) (P 10 i) (topR S i (tn (P 22 i))) (P 10 i) (P 22 i + 1)) i (tn (P 1 e)) v, ?_, Kp.trans hK1 (Kp.of (P := P) rfl rfl) (Nat.le_refl _)⟩
            unfold frP; rw [if_neg hd.2, show mkM P i e = (P 10 i) by unfold mkM; rw [if_neg (by rw [hk]; decide), if_neg (by rw [hk]; decide)]]
            exact hZ1.does hi1_0 v hx1 hl1_1 h5 hV
          · exact absurd c_97 (by decide)
        · exact absurd c_53 (by decide)
      · exact absurd c_36 (by decide)
  · skip
    refine g_aload_n d_F_beginFramed_9 rfl ?_
    refine g_bipush (v := -4) d_F_beginFramed_10 (by decide) ?_
    refine g_callV (k1 := 0) (n1 := 7) [.int (-4)] cw_F_77 cv_F_die d_F_beginFramed_12 rfl (hV.kdo (sl_4 hZ.2.1 hi) (by decide)) rfl rfl ⟨by simp, by simp⟩ (by first | decide | omega) (by first | decide | omega) (by first | decide | omega) (fun _ _ h => h) (s_F_die ⟨hV, hZ.2⟩ hi _ (fun h => absurd (h5.symm.trans h) (by decide))) (fun r_ M h_ hfr_ => ?_)
    obtain ⟨rfl, S1, hZ1, ha1, hb1⟩ := h_
    have hk1 : Kp P S S1 := Kp.of ha1 hb1
    have hle1 : nfb P ≤ nfb (p_R_fail P i 2 (-4)) := (Nat.le_refl _)
    have hK1 : Kp P S S1 := Kp.trans (Kp.refl P S) hk1 (Nat.le_refl _)
    have hi1_0 : i < nfb (p_R_fail P i 2 (-4)) := Nat.lt_of_lt_of_le hi hle1
    have hl1_0 : lv S1 3 e = true := hK1.2.2 3 _ he
    have hl1_1 : lv S1 3 (tn (P 1 e)) = true := hK1.2.2 3 _ (sl_x hZ.2.1 he hx0)
    have hV := hZ1.1
    exact g_return d_F_beginFramed_15 rfl ⟨rfl, S1, by unfold frP; rw [if_pos (d16_ge hZ.2.2.1 c_6)]; exact hZ1, hK1⟩
