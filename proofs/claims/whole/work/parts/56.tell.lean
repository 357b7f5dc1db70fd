/-! telling an end (by program: wip/tools/gen_s13.py) -/
def teP (P : Pst) (g f : Nat) : Pst := if P 15 g = 1 then p_R_wake (p_R_hand P g f) g else if P 15 g = 2 then p_R_wake (p_R_give P g 0) g else P
def teL (P : Pst) (LL : Lls) (g : Nat) : Lls := if P 15 g = 1 then upL LL 0 (LL 0 ++ [g]) else if P 15 g = 2 then upL LL 0 (LL 0 ++ [g]) else LL
theorem nfb_hand (P : Pst) {f g : Nat} (h : ¬ f = g) : nfb (p_R_hand P f g) = nfb P := by
  unfold nfb
  rw [hand_ag P h 42 0 (by unfold dFi; omega)]
theorem hand_o (P : Pst) {f g h j : Nat} (hfg : ¬ f = g) (hh : ¬ h = 11 ∧ ¬ h = 13 ∧ ¬ h = 14 ∧ ¬ h = 33 ∧ ¬ h = 34 ∧ ¬ h = 35) : p_R_hand P f g h j = P h j := by
  obtain ⟨a, b, c, d, e, k⟩ := hh
  rw [hand_e P f g hfg]
  split
  · simp [p_R_give, up_e, a, b, c]
  · rw [copy_o _ (Ne.symm hfg) (by omega)]; simp [p_R_give, up_e, a, b, c]
/-- both of a race ended with causes -/
def rjP (P : Pst) (g a b : Nat) : Pst := p_R_join (p_R_hand P g a) g b 5
theorem Zt.rj {P : Pst} {LL : Lls} {S S1 : Gs} {M M' : Mm} (hZ : Zt P LL S M) {g a b : Nat} (hg : g < nfb P) (ha : ¬ g = a) (hb : ¬ g = b) (h14 : ¬ P 14 a = 0) (hn : P 5 g = 1 → ¬ (P 15 g = 2 ∨ P 15 g = 4 ∨ P 15 g = 6)) (hs : S1 = S ∨ ∃ q l, kc S q = none ∧ S1 = ukc S q l) {q : Nat} (hq : kc S1 q = some (jnL 5 (rowL P a) (rowL P b))) (hV : VM (exS S1 g 0 (some q)) M') : Zt (rjP P g a b) LL (exS S1 g 0 (some q)) M' ∧ ActR (rjP P g a b) (exS S1 g 0 (some q)) g := by
  have hw := hZ.2.2.1
  have hwh := wb_hand hw g a
  have hZ1 : Sim P LL S1 := by
    rcases hs with h | ⟨q', l, h1, h2⟩
    · rw [h]; exact hZ.2.1
    · rw [h2]; exact hZ.2.1.cause hw h1 l
  have O : ∀ f j, ¬ ((f = 34 ∨ f = 35) ∧ 9 * g ≤ j ∧ j < 9 * g + 9) ∧ ¬ (f = 33 ∧ j = g) → rjP P g a b f j = p_R_hand P g a f j := fun f j h => join_o hwh hb 5 h
  have hAg : Ag (dFi g) P (rjP P g a b) := fun f j d => (O f j (by unfold dFi at d; omega)).trans (hand_ag P ha f j d)
  have hrow : rowL (rjP P g a b) g = jnL 5 (rowL P a) (rowL P b) := by
    unfold rjP
    rw [rowL_join hwh hb, hand_row hw ha h14]
    congr 1
    exact rowL_ag (hand_ag P ha 33 b (by unfold dFi; omega)) (hw 33 b).2 (fun j hj => ⟨hand_ag P ha 34 _ (by unfold dFi; omega), hand_ag P ha 35 _ (by unfold dFi; omega)⟩)
  obtain ⟨r1, r2⟩ := hZ1.exit hw hg hAg (fun f h1 h2 a1 a2 a3 a4 => (O f g (by omega)).trans (hand_same P ha f h1 h2 a1 a2 a3 a4)) ((O 11 g (by omega)).trans (hand_11 P ha)) 0 (some q) hn (by
    unfold ExitR
    rw [exS_261, exS_260, exS_kc, O 14 g (by omega), (hand_14 P ha).1, hrow]
    exact ⟨fun w => absurd w h14, fun _ => ⟨q, rfl, hq⟩⟩)
  exact ⟨⟨hV, r1, wb_join hwh _ _ _, by rw [O 43 0 (by omega), hand_43 P ha]; exact hZ.2.2.2⟩, r2⟩
set_option maxHeartbeats 1000000 in
set_option maxRecDepth 100000 in
theorem s_D_tellEnd {P : Pst} {LL : Lls} {S : Gs} {M : Mm} (hZ : Zt P LL S M) {g f : Nat} (hg : g < nfb P) (hf : f < nfb P) (hgf : ¬ g = f) (h5 : P 5 f = 2) (hW : P 5 g = 1 ↔ ¬ P 15 g = 0) (hq : tn (P 43 0) < 10) {o u : Option Nat} (ho : o = some (ad S 4 g)) (hu : u = some (ad S 4 f)) : Run m_D_tellEnd ownC 2 0 0 [va_rf (some (ad S 0 0)), va_rf o, va_rf u] M (fun r M' => r = none ∧ ∃ S', Zt (teP P g f) (teL P LL g) S' M' ∧ ad S' = ad S ∧ lv S' = lv S) := by
  subst ho
  subst hu
  have hV := hZ.1
  refine Run.ofG (by decide) (by simp [cat_int, cat_rf]) (Nat.le_of_ble_eq_true rfl) ?_
  by_cases h1 : P 15 g = 1
  · skip
    refine g_aload_n d_D_tellEnd_0 rfl ?_
    refine v_geti (v := 1) (τ := g) 269 rfl hV (sl_4 hZ.2.1 hg) (by decide) (by decide) fl_D_133 rfl d_D_tellEnd_1 rfl ((sf_269 hZ.2.1 hg).trans h1) ?_
    refine g_iconst (v := 1) d_D_tellEnd_4 (by decide) ?_
    refine g_icmp_ne 28 d_D_tellEnd_5 (by decide) (fun c_5 => ?_) (fun c_5 => ?_)
    · exact absurd c_5 (by decide)
    · skip
      refine g_aload_n d_D_tellEnd_8 rfl ?_
      refine g_aload_n d_D_tellEnd_9 rfl ?_
      refine v_geti (v := vi S 260 f) (τ := f) 260 rfl hV (sl_4 hZ.2.1 hf) (by decide) (by decide) fl_D_129 rfl d_D_tellEnd_10 rfl rfl ?_
      refine g_aload_n d_D_tellEnd_13 rfl ?_
      refine v_getr (v := vr S 261 f) (τ := f) 261 rfl hV (sl_4 hZ.2.1 hf) (by decide) (by decide) fl_D_136 rfl d_D_tellEnd_14 rfl rfl ?_
      refine g_callV (k1 := 0) (n1 := 0) [.int (vi S 260 f), va_rf (vr S 261 f)] cw_D_287 cv_F_giveExit d_D_tellEnd_17 rfl (hV.kdo (sl_4 hZ.2.1 hg) (by decide)) rfl rfl ⟨by simp, by simp⟩ (by first | decide | omega) (by first | decide | omega) (by first | decide | omega) (fun _ _ h => h) (v_F_giveExit hV (sl_4 hZ.2.1 hg) _ _) (fun r_ M h_ hfr_ => ?_)
      obtain ⟨rfl, hV⟩ := h_
      have hn1 : P 5 g = 1 → ¬ (P 15 g = 2 ∨ P 15 g = 4 ∨ P 15 g = 6) := fun _ => by rw [h1]; decide
      have hA1 := (hZ.2.1.hand hZ.2.2.1 hg hgf (sf_exit hZ.2.1 hf h5) hn1).2
      have hZ1 : Zt (p_R_hand P g f) LL (exS S g (vi S 260 f) (vr S 261 f)) _ := hZ.hand hg hgf (sf_exit hZ.2.1 hf h5) hn1 hV
      have hle1 : nfb P ≤ nfb (p_R_hand P g f) := (by rw [nfb_hand P hgf]; exact Nat.le_refl _)
      have hK1 : Kp P S (exS S g (vi S 260 f) (vr S 261 f)) := Kp.trans (Kp.refl P S) (Kp.of rfl rfl) (Nat.le_refl _)
      have hi1_0 : g < nfb (p_R_hand P g f) := Nat.lt_of_lt_of_le hg hle1
      have hi1_1 : f < nfb (p_R_hand P g f) := Nat.lt_of_lt_of_le hf hle1
      have hV := hZ1.1
      refine g_aload_n d_D_tellEnd_20 rfl ?_
      refine g_aload_n d_D_tellEnd_21 rfl ?_
      refine g_callV (k1 := 0) (n1 := 0) [va_rf (some (ad S 4 g))] cw_D_233 cv_D_goOn d_D_tellEnd_22 (ad_r (ad_i (ad_r rfl))) (hV.kdo (sl_0 hZ1.2.1) (by decide)) rfl rfl ⟨by simp, by simp⟩ (by first | decide | omega) (by first | decide | omega) (by first | decide | omega) (fun _ _ h => h) (s_D_goOn hZ1 hi1_0 ((hand_o P hgf (by decide)).trans (hW.mpr (by rw [h1]; decide))) (Or.inr hA1) (by rw [hand_43 P hgf]; exact hq) (ad_r (ad_i (ad_r rfl)))) (fun r_ M h_ hfr_ => ?_)
      obtain ⟨rfl, S2, hZ2, ha2, hb2⟩ := h_
      have hk2 : Kp (p_R_hand P g f) (exS S g (vi S 260 f) (vr S 261 f)) S2 := Kp.of ha2 hb2
      have hle2 : nfb P ≤ nfb (p_R_wake (p_R_hand P g f) g) := hle1
      have hK2 : Kp P S S2 := Kp.trans hK1 hk2 hle1
      have hi2_0 : g < nfb (p_R_wake (p_R_hand P g f) g) := Nat.lt_of_lt_of_le hg hle2
      have hi2_1 : f < nfb (p_R_wake (p_R_hand P g f) g) := Nat.lt_of_lt_of_le hf hle2
      have hV := hZ2.1
      refine g_goto 41 d_D_tellEnd_25 (by decide) ?_
      refine g_return d_D_tellEnd_41 rfl ⟨rfl, S2, ?_, ha2, hb2⟩
      unfold teP teL; rw [if_pos h1, if_pos h1]; exact hZ2
  by_cases h2 : P 15 g = 2
  · skip
    refine g_aload_n d_D_tellEnd_0 rfl ?_
    refine v_geti (v := 2) (τ := g) 269 rfl hV (sl_4 hZ.2.1 hg) (by decide) (by decide) fl_D_133 rfl d_D_tellEnd_1 rfl ((sf_269 hZ.2.1 hg).trans h2) ?_
    refine g_iconst (v := 1) d_D_tellEnd_4 (by decide) ?_
    refine g_icmp_ne 28 d_D_tellEnd_5 (by decide) (fun c_5 => ?_) (fun c_5 => ?_)
    · skip
      refine g_aload_n d_D_tellEnd_28 rfl ?_
      refine v_geti (v := 2) (τ := g) 269 rfl hV (sl_4 hZ.2.1 hg) (by decide) (by decide) fl_D_133 rfl d_D_tellEnd_29 rfl ((sf_269 hZ.2.1 hg).trans h2) ?_
      refine g_iconst (v := 2) d_D_tellEnd_32 (by decide) ?_
      refine g_icmp_ne 41 d_D_tellEnd_33 (by decide) (fun c_33 => ?_) (fun c_33 => ?_)
      · exact absurd c_33 (by decide)
      · skip
        have g5 : P 5 g = 1 := hW.mpr (by rw [h2]; decide)
        have hZ1 : Zt (p_R_give P g 0) LL S _ := ⟨hV, hZ.2.1.giveW hZ.2.2.1 hg g5 0, wb_give hZ.2.2.1 g 0, hZ.2.2.2⟩
        have hA1 : ActR (p_R_give P g 0) S g := hZ.2.1.giveA hg g5 (Or.inl h2) 0 (by rw [if_pos h2])
        have hle1 : nfb P ≤ nfb (p_R_give P g 0) := (Nat.le_refl _)
        have hK1 : Kp P S S := Kp.trans (Kp.refl P S) (Kp.of rfl rfl) (Nat.le_refl _)
        have hi1_0 : g < nfb (p_R_give P g 0) := Nat.lt_of_lt_of_le hg hle1
        have hi1_1 : f < nfb (p_R_give P g 0) := Nat.lt_of_lt_of_le hf hle1
        have hV := hZ1.1
        refine g_aload_n d_D_tellEnd_36 rfl ?_
        refine g_aload_n d_D_tellEnd_37 rfl ?_
        refine g_callV (k1 := 0) (n1 := 0) [va_rf (some (ad S 4 g))] cw_D_233 cv_D_goOn d_D_tellEnd_38 rfl (hV.kdo (sl_0 hZ1.2.1) (by decide)) rfl rfl ⟨by simp, by simp⟩ (by first | decide | omega) (by first | decide | omega) (by first | decide | omega) (fun _ _ h => h) (s_D_goOn hZ1 hi1_0 g5 (Or.inr hA1) hq rfl) (fun r_ M h_ hfr_ => ?_)
        obtain ⟨rfl, S2, hZ2, ha2, hb2⟩ := h_
        have hk2 : Kp (p_R_give P g 0) S S2 := Kp.of ha2 hb2
        have hle2 : nfb P ≤ nfb (p_R_wake (p_R_give P g 0) g) := hle1
        have hK2 : Kp P S S2 := Kp.trans hK1 hk2 hle1
        have hi2_0 : g < nfb (p_R_wake (p_R_give P g 0) g) := Nat.lt_of_lt_of_le hg hle2
        have hi2_1 : f < nfb (p_R_wake (p_R_give P g 0) g) := Nat.lt_of_lt_of_le hf hle2
        have hV := hZ2.1
        refine g_return d_D_tellEnd_41 rfl ⟨rfl, S2, ?_, ha2, hb2⟩
        unfold teP teL; rw [if_neg h1, if_neg h1, if_pos h2, if_pos h2]; exact hZ2
    · exact absurd c_5 (by decide)
  · skip
    refine g_aload_n d_D_tellEnd_0 rfl ?_
    refine v_geti (v := P 15 g) (τ := g) 269 rfl hV (sl_4 hZ.2.1 hg) (by decide) (by decide) fl_D_133 rfl d_D_tellEnd_1 rfl (sf_269 hZ.2.1 hg) ?_
    refine g_iconst (v := 1) d_D_tellEnd_4 (by decide) ?_
    refine g_icmp_ne 28 d_D_tellEnd_5 (by decide) (fun c_5 => ?_) (fun c_5 => ?_)
    · skip
      refine g_aload_n d_D_tellEnd_28 rfl ?_
      refine v_geti (v := P 15 g) (τ := g) 269 rfl hV (sl_4 hZ.2.1 hg) (by decide) (by decide) fl_D_133 rfl d_D_tellEnd_29 rfl (sf_269 hZ.2.1 hg) ?_
      refine g_iconst (v := 2) d_D_tellEnd_32 (by decide) ?_
      refine g_icmp_ne 41 d_D_tellEnd_33 (by decide) (fun c_33 => ?_) (fun c_33 => ?_)
      · skip
        refine g_return d_D_tellEnd_41 rfl ⟨rfl, S, ?_, rfl, rfl⟩
        unfold teP teL; rw [if_neg h1, if_neg h1, if_neg h2, if_neg h2]; exact hZ
      · exact absurd (show P 15 g = 2 from c_33) h2
    · exact absurd (show P 15 g = 1 from c_5) h1
set_option maxHeartbeats 1000000 in
set_option maxRecDepth 100000 in
theorem s_D_giveRaceExit_v {P : Pst} {LL : Lls} {S : Gs} {M : Mm} (hZ : Zt P LL S M) {g a b w : Nat} (hg : g < nfb P) (ha : a < nfb P) (hb : b < nfb P) (hw : w < nfb P) (hn : P 5 g = 1 → ¬ (P 15 g = 2 ∨ P 15 g = 4 ∨ P 15 g = 6)) (h5w : P 5 w = 2) (h14 : P 14 w = 0) {d og oa ob ow : Option Nat} (hod : d = some (ad S 0 0)) (hog : og = some (ad S 4 g)) (hoa : oa = some (ad S 4 a)) (hob : ob = some (ad S 4 b)) (how : ow = some (ad S 4 w)) : Run m_D_giveRaceExit ownC 3 3 20 [va_rf d, va_rf og, va_rf oa, va_rf ob, va_rf ow] M (fun r M' => r = none ∧ ∃ S', Zt (p_R_give P g (P 13 w)) LL S' M' ∧ ActR (p_R_give P g (P 13 w)) S' g ∧ ad S' = ad S ∧ lv S' = lv S) := by
  subst hod
  subst hog
  subst hoa
  subst hob
  subst how
  have hV := hZ.1
  refine Run.ofG (by decide) (by simp [cat_int, cat_rf]) (Nat.le_of_ble_eq_true rfl) ?_
  refine g_aload d_D_giveRaceExit_0 rfl ?_
  refine v_getr (v := none) (τ := w) 261 rfl hV (sl_4 hZ.2.1 hw) (by decide) (by decide) fl_D_136 rfl d_D_giveRaceExit_2 rfl ((sf_exit hZ.2.1 hw h5w).1 h14).1 ?_
  refine g_ifnonnull 20 d_D_giveRaceExit_5 (by decide) (fun a_5 c_5 => ?_) (fun c_5 => ?_)
  · exact absurd c_5 (by simp)
  · skip
    refine g_aload_n d_D_giveRaceExit_8 rfl ?_
    refine g_aload d_D_giveRaceExit_9 rfl ?_
    refine v_geti (v := P 13 w) (τ := w) 260 rfl hV (sl_4 hZ.2.1 hw) (by decide) (by decide) fl_D_129 rfl d_D_giveRaceExit_11 rfl ((sf_exit hZ.2.1 hw h5w).1 h14).2 ?_
    refine g_callV (k1 := 0) (n1 := 0) [.int (P 13 w)] cw_D_242 cv_F_giveValue d_D_giveRaceExit_14 rfl (hV.kdo (sl_4 hZ.2.1 hg) (by decide)) rfl rfl ⟨by simp, by simp⟩ (by first | decide | omega) (by first | decide | omega) (by first | decide | omega) (fun _ _ h => h) (v_F_giveValue hV (sl_4 hZ.2.1 hg) _) (fun r_ M h_ hfr_ => ?_)
    obtain ⟨rfl, hV⟩ := h_
    refine g_goto 50 d_D_giveRaceExit_17 (by decide) ?_
    exact g_return d_D_giveRaceExit_50 rfl ⟨rfl, exS S g (P 13 w) none, hZ.give hg _ hn hV, (hZ.2.1.give hZ.2.2.1 hg _ hn).2, rfl, rfl⟩
set_option maxHeartbeats 1000000 in
set_option maxRecDepth 100000 in
theorem s_D_giveRaceExit_c {P : Pst} {LL : Lls} {S : Gs} {M : Mm} (hZ : Zt P LL S M) {g a b w : Nat} (hg : g < nfb P) (ha : a < nfb P) (hb : b < nfb P) (hw : w < nfb P) (hn : P 5 g = 1 → ¬ (P 15 g = 2 ∨ P 15 g = 4 ∨ P 15 g = 6)) (h5w : P 5 w = 2) (h14w : ¬ P 14 w = 0) (h5a : P 5 a = 2) (h14a : ¬ P 14 a = 0) (h5b : P 5 b = 2) (h14b : ¬ P 14 b = 0) (hga : ¬ g = a) (hgb : ¬ g = b) {d og oa ob ow : Option Nat} (hod : d = some (ad S 0 0)) (hog : og = some (ad S 4 g)) (hoa : oa = some (ad S 4 a)) (hob : ob = some (ad S 4 b)) (how : ow = some (ad S 4 w)) : Run m_D_giveRaceExit ownC 3 3 20 [va_rf d, va_rf og, va_rf oa, va_rf ob, va_rf ow] M (fun r M' => r = none ∧ ∃ S', Zt (rjP P g a b) LL S' M' ∧ ActR (rjP P g a b) S' g ∧ ad S' = ad S ∧ lv S' = lv S) := by
  subst hod
  subst hog
  subst hoa
  subst hob
  subst how
  obtain ⟨cw, ew, kw⟩ := (sf_exit hZ.2.1 hw h5w).2 h14w
  obtain ⟨ca, ea, ka⟩ := (sf_exit hZ.2.1 ha h5a).2 h14a
  obtain ⟨cb, eb, kb⟩ := (sf_exit hZ.2.1 hb h5b).2 h14b
  have hV := hZ.1
  refine Run.ofG (by decide) (by simp [cat_int, cat_rf]) (Nat.le_of_ble_eq_true rfl) ?_
  refine g_aload d_D_giveRaceExit_0 rfl ?_
  refine v_getr (v := some cw) (τ := w) 261 rfl hV (sl_4 hZ.2.1 hw) (by decide) (by decide) fl_D_136 rfl d_D_giveRaceExit_2 rfl ew ?_
  refine g_ifnonnull 20 d_D_giveRaceExit_5 (by decide) (fun a_5 c_5 => ?_) (fun c_5 => ?_)
  · skip
    refine g_aload_n d_D_giveRaceExit_20 rfl ?_
    refine v_getr (v := some ca) (τ := a) 261 rfl hV (sl_4 hZ.2.1 ha) (by decide) (by decide) fl_D_136 rfl d_D_giveRaceExit_21 rfl ea ?_
    refine g_ifnull 50 d_D_giveRaceExit_24 (by decide) (fun c_24 => ?_) (fun a_24 c_24 => ?_)
    · exact absurd (Eq.trans (Eq.symm (rfl : some ca = some _)) c_24) (by simp)
    · skip
      refine g_aload_n d_D_giveRaceExit_27 rfl ?_
      refine v_getr (v := some cb) (τ := b) 261 rfl hV (sl_4 hZ.2.1 hb) (by decide) (by decide) fl_D_136 rfl d_D_giveRaceExit_28 rfl eb ?_
      refine g_ifnull 50 d_D_giveRaceExit_31 (by decide) (fun c_31 => ?_) (fun a_31 c_31 => ?_)
      · exact absurd (Eq.trans (Eq.symm (rfl : some cb = some _)) c_31) (by simp)
      · skip
        refine g_aload_n d_D_giveRaceExit_34 rfl ?_
        refine g_iconst (v := 5) d_D_giveRaceExit_35 (by decide) ?_
        refine g_aload_n d_D_giveRaceExit_36 rfl ?_
        refine v_getr (v := some ca) (τ := a) 261 rfl hV (sl_4 hZ.2.1 ha) (by decide) (by decide) fl_D_136 rfl d_D_giveRaceExit_37 rfl ea ?_
        refine g_aload_n d_D_giveRaceExit_40 rfl ?_
        refine v_getr (v := some cb) (τ := b) 261 rfl hV (sl_4 hZ.2.1 hb) (by decide) (by decide) fl_D_136 rfl d_D_giveRaceExit_41 rfl eb ?_
        refine g_callS (k1 := 0) (n1 := 0) [.int (5), va_rf (some ca), va_rf (some cb)] cw_D_331 cs_D_joined d_D_giveRaceExit_44 rfl rfl ⟨by simp [cat_rf, cat_int], by simp⟩ (by first | decide | omega) (by first | decide | omega) (by first | decide | omega) (fun _ _ h => h) (s_D_joined hV 5 ka kb (rowL_9 hZ.2.2.1 _) (rowL_9 hZ.2.2.1 _)) (fun r_ M h_ hfr_ => ?_)
        obtain ⟨q, rfl, hq⟩ := h_
        rcases hq with ⟨e1, e2, hV⟩ | ⟨hn_, hV⟩
        · subst e1
          refine g_callV (k1 := 0) (n1 := 0) [va_rf (some q)] cw_D_199 cv_F_giveCause d_D_giveRaceExit_47 rfl (hV.kdo (sl_4 hZ.2.1 hg) (by decide)) rfl rfl ⟨by simp, by simp⟩ (by first | decide | omega) (by first | decide | omega) (by first | decide | omega) (fun _ _ h => h) (v_F_giveCause hV (sl_4 hZ.2.1 hg) _) (fun r_ M h_ hfr_ => ?_)
          obtain ⟨rfl, hV⟩ := h_
          have hr := hZ.rj hg hga hgb h14a hn (Or.inl rfl) (by rw [e2]; exact ka) hV
          exact g_return d_D_giveRaceExit_50 rfl ⟨rfl, _, hr.1, hr.2, rfl, rfl⟩
        · skip
          refine g_callV (k1 := 0) (n1 := 0) [va_rf (some q)] cw_D_199 cv_F_giveCause d_D_giveRaceExit_47 (ad_c rfl) (hV.kdo (lv_c (sl_4 hZ.2.1 hg)) (by decide)) rfl rfl ⟨by simp, by simp⟩ (by first | decide | omega) (by first | decide | omega) (by first | decide | omega) (fun _ _ h => h) (v_F_giveCause hV (lv_c (sl_4 hZ.2.1 hg)) _) (fun r_ M h_ hfr_ => ?_)
          obtain ⟨rfl, hV⟩ := h_
          have hr := hZ.rj hg hga hgb h14a hn (Or.inr ⟨q, _, hn_, rfl⟩) (by rw [kc_ukc, if_pos rfl]) hV
          exact g_return d_D_giveRaceExit_50 rfl ⟨rfl, _, hr.1, hr.2, rfl, rfl⟩
  · exact absurd (Eq.trans (Eq.symm (rfl : some cw = some _)) c_5) (by simp)
