/-! telling a race (by program: wip/tools/gen_s14.py) -/
theorem s_fiberInx {P : Pst} {LL : Lls} {S : Gs} {M : Mm} (hZ : Zt P LL S M) {i : Nat} (hi : i < nfb P) {x : Int32} (hx : x = nI i) : Run m_D_fiberAt ownC 0 0 0 [va_rf (some (ad S 0 0)), .int x] M (fun r M' => r = some (va_rf (some (ad S 4 i))) ∧ VM S M') := by
  subst hx
  exact s_fiberIn hZ hi
def rcL2 (P : Pst) (LL : Lls) (g f o : Nat) : Lls := if P 5 o = 2 then upL LL 0 (LL 0 ++ [g]) else if P 14 f = 0 then skL P LL o else LL
theorem rjP_5 {P : Pst} (hw : WB P) {g a b : Nat} (ha : ¬ g = a) (hb : ¬ g = b) {h j : Nat} (hh : ¬ h = 11 ∧ ¬ h = 13 ∧ ¬ h = 14 ∧ ¬ h = 33 ∧ ¬ h = 34 ∧ ¬ h = 35) : rjP P g a b h j = P h j := by
  unfold rjP
  rw [join_o (wb_hand hw g a) hb 5 (by omega), hand_o P ha hh]
set_option maxHeartbeats 1000000 in
set_option maxRecDepth 100000 in
theorem s_D_tellRace_x {P : Pst} {LL : Lls} {S : Gs} {M : Mm} (hZ : Zt P LL S M) {g a : Nat} (hg : g < nfb P) (ha : a < nfb P) (hb : a + 1 < nfb P) (hga : ¬ g = a) (hgb : ¬ g = a + 1) (h3 : P 15 g = 3) (g5 : P 5 g = 1) (e19 : P 19 g = nI a) (e20 : P 20 g = nI (a + 1)) (hq : tn (P 43 0) < 10) (h5f : P 5 a = 2) (r1 : P 5 (a + 1) = 2 → P 14 (a + 1) = 0 → P 21 g = nI (a + 1)) (r2 : P 5 (a + 1) = 2 → ¬ P 14 (a + 1) = 0 → P 14 a = 0 → P 21 g = nI a) (r3 : P 5 (a + 1) = 2 → ¬ P 14 (a + 1) = 0 → ¬ P 14 a = 0 → P 21 g < 0) (h6 : P 6 (a + 1) = 0 ∨ P 6 (a + 1) = 1 ∨ P 6 (a + 1) = 2) (h15o : P 5 (a + 1) = 1 ↔ ¬ P 15 (a + 1) = 0) (h16 : P 15 (a + 1) = 5 ∨ P 15 (a + 1) = 6 → ∃ n, n < 4 ∧ P 16 (a + 1) = nI n) {og uf : Option Nat} (hog : og = some (ad S 4 g)) (huf : uf = some (ad S 4 a)) : Run m_D_tellRace ownC 4 3 20 [va_rf (some (ad S 0 0)), va_rf og, va_rf uf] M (fun r M' => r = none ∧ ∃ S', Zt (p_h149 P g a (a + 1)) (rcL2 P LL g a (a + 1)) S' M' ∧ ad S' = ad S ∧ lv S' = lv S) := by
  subst hog
  subst huf
  have hV := hZ.1
  refine Run.ofG (by decide) (by simp [cat_int, cat_rf]) (Nat.le_of_ble_eq_true rfl) ?_
  have hn : P 5 g = 1 → ¬ (P 15 g = 2 ∨ P 15 g = 4 ∨ P 15 g = 6) := fun _ => by rw [h3]; decide
  have h10 := n10 hZ.2.2.1
  by_cases h2 : P 5 (a + 1) = 2
  · by_cases h14 : P 14 (a + 1) = 0
    · skip
      refine g_aload_n d_D_tellRace_0 rfl ?_
      refine g_aload_n d_D_tellRace_1 rfl ?_
      refine v_geti (v := nI a) (τ := g) 270 rfl hV (sl_4 hZ.2.1 hg) (by decide) (by decide) fl_D_314 rfl d_D_tellRace_2 rfl ((sf_270r hZ.2.1 hg h3).trans e19) ?_
      refine g_callV (k1 := 3) (n1 := 20) [.int (nI a)] cw_D_94 cv_D_fiberAt d_D_tellRace_5 rfl (hV.kdo (sl_0 hZ.2.1) (by decide)) rfl rfl ⟨by simp, by simp⟩ (by first | decide | omega) (by first | decide | omega) (by first | decide | omega) (fun _ _ h => h) (s_fiberInx ⟨hV, hZ.2⟩ ha rfl) (fun r_ M h_ hfr_ => ?_)
      obtain ⟨rfl, hV⟩ := h_
      refine g_astore_n d_D_tellRace_8 (by decide) ?_
      refine g_aload_n d_D_tellRace_9 rfl ?_
      refine g_aload_n d_D_tellRace_10 rfl ?_
      refine v_geti (v := nI a) (τ := g) 270 rfl hV (sl_4 hZ.2.1 hg) (by decide) (by decide) fl_D_314 rfl d_D_tellRace_11 rfl ((sf_270r hZ.2.1 hg h3).trans e19) ?_
      refine g_iconst (v := 1) d_D_tellRace_14 (by decide) ?_
      refine g_iadd d_D_tellRace_15 ?_
      refine g_callV (k1 := 3) (n1 := 20) [.int ((nI a) + 1)] cw_D_94 cv_D_fiberAt d_D_tellRace_16 rfl (hV.kdo (sl_0 hZ.2.1) (by decide)) rfl rfl ⟨by simp, by simp⟩ (by first | decide | omega) (by first | decide | omega) (by first | decide | omega) (fun _ _ h => h) (s_fiberInx ⟨hV, hZ.2⟩ hb (nI_1 a)) (fun r_ M h_ hfr_ => ?_)
      obtain ⟨rfl, hV⟩ := h_
      refine g_astore d_D_tellRace_19 (by decide) ?_
      refine g_aload_n d_D_tellRace_21 rfl ?_
      refine g_ifnull 41 d_D_tellRace_22 (by decide) (fun c_22 => ?_) (fun a_22 c_22 => ?_)
      · exact absurd (Eq.trans (Eq.symm (rfl : some (ad S 4 a) = some _)) c_22) (by simp)
      · skip
        refine g_aload d_D_tellRace_25 rfl ?_
        refine g_ifnull 41 d_D_tellRace_27 (by decide) (fun c_27 => ?_) (fun a_27 c_27 => ?_)
        · exact absurd (Eq.trans (Eq.symm (rfl : some (ad S 4 (a + 1)) = some _)) c_27) (by simp)
        · skip
          refine g_aload_n d_D_tellRace_30 rfl ?_
          refine g_aload_n d_D_tellRace_31 rfl ?_
          refine g_acmp_eq 42 d_D_tellRace_32 (by decide) (fun c_32 => ?_) (fun c_32 => ?_)
          · skip
            refine g_aload_n d_D_tellRace_42 rfl ?_
            refine g_aload_n d_D_tellRace_43 rfl ?_
            refine g_acmp_ne 52 d_D_tellRace_44 (by decide) (fun c_44 => ?_) (fun c_44 => ?_)
            · exact absurd c_44 (fun h => h rfl)
            · skip
              refine g_aload d_D_tellRace_47 rfl ?_
              refine g_goto 53 d_D_tellRace_49 (by decide) ?_
              refine g_astore d_D_tellRace_53 (by decide) ?_
              refine g_aload d_D_tellRace_55 rfl ?_
              refine v_geti (v := 1) (τ := (a + 1)) 262 rfl hV (sl_4 hZ.2.1 hb) (by decide) (by decide) fl_D_98 rfl d_D_tellRace_57 rfl ((sf_262 hZ.2.1 hb).trans (by rw [h2]; rfl)) ?_
              refine g_if_eq 93 d_D_tellRace_60 (by decide) (fun c_60 => ?_) (fun c_60 => ?_)
              · exact absurd c_60 (by decide)
              · skip
                refine g_aload_n d_D_tellRace_63 rfl ?_
                refine g_aload_n d_D_tellRace_64 rfl ?_
                refine g_aload_n d_D_tellRace_65 rfl ?_
                refine g_aload d_D_tellRace_66 rfl ?_
                refine g_aload d_D_tellRace_68 rfl ?_
                refine v_getr (v := none) (τ := (a + 1)) 261 rfl hV (sl_4 hZ.2.1 hb) (by decide) (by decide) fl_D_136 rfl d_D_tellRace_70 rfl ((sf_exit hZ.2.1 hb h2).1 h14).1 ?_
                refine g_ifnonnull 81 d_D_tellRace_73 (by decide) (fun a_73 c_73 => ?_) (fun c_73 => ?_)
                · exact absurd c_73 (by simp)
                · skip
                  refine g_aload d_D_tellRace_76 rfl ?_
                  refine g_goto 82 d_D_tellRace_78 (by decide) ?_
                  refine g_callV (k1 := 0) (n1 := 0) [va_rf (some (ad S 4 g)), va_rf (some (ad S 4 a)), va_rf (some (ad S 4 (a + 1))), va_rf (some (ad S 4 (a + 1)))] cw_D_327 cv_D_giveRaceExit d_D_tellRace_82 rfl (hV.kdo (sl_0 hZ.2.1) (by decide)) rfl rfl ⟨by simp, by simp⟩ (by first | decide | omega) (by first | decide | omega) (by first | decide | omega) (fun _ _ h => h) (s_D_giveRaceExit_v ⟨hV, hZ.2⟩ hg ha hb hb hn h2 h14 rfl rfl rfl rfl rfl) (fun r_ M h_ hfr_ => ?_)
                  obtain ⟨rfl, S1, hZ1, hA1, ha1, hb1⟩ := h_
                  have hk1 : Kp P S S1 := Kp.of ha1 hb1
                  have hle1 : nfb P ≤ nfb (p_R_give P g (P 13 (a + 1))) := Nat.le_refl _
                  have hK1 : Kp P S S1 := Kp.trans (Kp.refl P S) hk1 (Nat.le_refl _)
                  have hi1_0 : g < nfb (p_R_give P g (P 13 (a + 1))) := Nat.lt_of_lt_of_le hg hle1
                  have hi1_1 : a < nfb (p_R_give P g (P 13 (a + 1))) := Nat.lt_of_lt_of_le ha hle1
                  have hi1_2 : (a + 1) < nfb (p_R_give P g (P 13 (a + 1))) := Nat.lt_of_lt_of_le hb hle1
                  have hV := hZ1.1
                  refine g_aload_n d_D_tellRace_85 rfl ?_
                  refine g_aload_n d_D_tellRace_86 rfl ?_
                  refine g_callV (k1 := 0) (n1 := 0) [va_rf (some (ad S 4 g))] cw_D_233 cv_D_goOn d_D_tellRace_87 (ad_k rfl (hk1.1 0 0 (by decide) (by decide) (sl_0 hZ.2.1))) (hV.kdo (sl_0 hZ1.2.1) (by decide)) rfl rfl ⟨by simp, by simp⟩ (by first | decide | omega) (by first | decide | omega) (by first | decide | omega) (fun _ _ h => h) (s_D_goOn hZ1 hi1_0 g5 (Or.inr hA1) hq (ad_k rfl (hk1.2.1 g hg))) (fun r_ M h_ hfr_ => ?_)
                  obtain ⟨rfl, S2, hZ2, ha2, hb2⟩ := h_
                  have hk2 : Kp (p_R_give P g (P 13 (a + 1))) S1 S2 := Kp.of ha2 hb2
                  have hle2 : nfb P ≤ nfb (p_R_wake (p_R_give P g (P 13 (a + 1))) g) := hle1
                  have hK2 : Kp P S S2 := Kp.trans hK1 hk2 hle1
                  have hi2_0 : g < nfb (p_R_wake (p_R_give P g (P 13 (a + 1))) g) := Nat.lt_of_lt_of_le hg hle2
                  have hi2_1 : a < nfb (p_R_wake (p_R_give P g (P 13 (a + 1))) g) := Nat.lt_of_lt_of_le ha hle2
                  have hi2_2 : (a + 1) < nfb (p_R_wake (p_R_give P g (P 13 (a + 1))) g) := Nat.lt_of_lt_of_le hb hle2
                  have hV := hZ2.1
                  refine g_goto 110 d_D_tellRace_90 (by decide) ?_
                  refine g_return d_D_tellRace_110 rfl ⟨rfl, S2, ?_, ha2.trans ha1, hb2.trans hb1⟩
                  rw [show p_h149 P g a (a + 1) = p_R_wake (p_R_give P g (P 13 (a + 1))) g by unfold p_h149 p_h175 p_h226; rw [if_pos h2, r1 h2 h14, if_neg (nI_pos (by omega)), tn_nI (by omega)], show rcL2 P LL g a (a + 1) = (upL LL 0 (LL 0 ++ [g])) by unfold rcL2; rw [if_pos h2]]
                  exact hZ2
          · exact absurd c_32 (fun h => h rfl)
    have h9o := (sf_exit hZ.2.1 hb h2).2 h14
    obtain ⟨co, eo, ko⟩ := h9o
    by_cases h14f : P 14 a = 0
    · skip
      refine g_aload_n d_D_tellRace_0 rfl ?_
      refine g_aload_n d_D_tellRace_1 rfl ?_
      refine v_geti (v := nI a) (τ := g) 270 rfl hV (sl_4 hZ.2.1 hg) (by decide) (by decide) fl_D_314 rfl d_D_tellRace_2 rfl ((sf_270r hZ.2.1 hg h3).trans e19) ?_
      refine g_callV (k1 := 3) (n1 := 20) [.int (nI a)] cw_D_94 cv_D_fiberAt d_D_tellRace_5 rfl (hV.kdo (sl_0 hZ.2.1) (by decide)) rfl rfl ⟨by simp, by simp⟩ (by first | decide | omega) (by first | decide | omega) (by first | decide | omega) (fun _ _ h => h) (s_fiberInx ⟨hV, hZ.2⟩ ha rfl) (fun r_ M h_ hfr_ => ?_)
      obtain ⟨rfl, hV⟩ := h_
      refine g_astore_n d_D_tellRace_8 (by decide) ?_
      refine g_aload_n d_D_tellRace_9 rfl ?_
      refine g_aload_n d_D_tellRace_10 rfl ?_
      refine v_geti (v := nI a) (τ := g) 270 rfl hV (sl_4 hZ.2.1 hg) (by decide) (by decide) fl_D_314 rfl d_D_tellRace_11 rfl ((sf_270r hZ.2.1 hg h3).trans e19) ?_
      refine g_iconst (v := 1) d_D_tellRace_14 (by decide) ?_
      refine g_iadd d_D_tellRace_15 ?_
      refine g_callV (k1 := 3) (n1 := 20) [.int ((nI a) + 1)] cw_D_94 cv_D_fiberAt d_D_tellRace_16 rfl (hV.kdo (sl_0 hZ.2.1) (by decide)) rfl rfl ⟨by simp, by simp⟩ (by first | decide | omega) (by first | decide | omega) (by first | decide | omega) (fun _ _ h => h) (s_fiberInx ⟨hV, hZ.2⟩ hb (nI_1 a)) (fun r_ M h_ hfr_ => ?_)
      obtain ⟨rfl, hV⟩ := h_
      refine g_astore d_D_tellRace_19 (by decide) ?_
      refine g_aload_n d_D_tellRace_21 rfl ?_
      refine g_ifnull 41 d_D_tellRace_22 (by decide) (fun c_22 => ?_) (fun a_22 c_22 => ?_)
      · exact absurd (Eq.trans (Eq.symm (rfl : some (ad S 4 a) = some _)) c_22) (by simp)
      · skip
        refine g_aload d_D_tellRace_25 rfl ?_
        refine g_ifnull 41 d_D_tellRace_27 (by decide) (fun c_27 => ?_) (fun a_27 c_27 => ?_)
        · exact absurd (Eq.trans (Eq.symm (rfl : some (ad S 4 (a + 1)) = some _)) c_27) (by simp)
        · skip
          refine g_aload_n d_D_tellRace_30 rfl ?_
          refine g_aload_n d_D_tellRace_31 rfl ?_
          refine g_acmp_eq 42 d_D_tellRace_32 (by decide) (fun c_32 => ?_) (fun c_32 => ?_)
          · skip
            refine g_aload_n d_D_tellRace_42 rfl ?_
            refine g_aload_n d_D_tellRace_43 rfl ?_
            refine g_acmp_ne 52 d_D_tellRace_44 (by decide) (fun c_44 => ?_) (fun c_44 => ?_)
            · exact absurd c_44 (fun h => h rfl)
            · skip
              refine g_aload d_D_tellRace_47 rfl ?_
              refine g_goto 53 d_D_tellRace_49 (by decide) ?_
              refine g_astore d_D_tellRace_53 (by decide) ?_
              refine g_aload d_D_tellRace_55 rfl ?_
              refine v_geti (v := 1) (τ := (a + 1)) 262 rfl hV (sl_4 hZ.2.1 hb) (by decide) (by decide) fl_D_98 rfl d_D_tellRace_57 rfl ((sf_262 hZ.2.1 hb).trans (by rw [h2]; rfl)) ?_
              refine g_if_eq 93 d_D_tellRace_60 (by decide) (fun c_60 => ?_) (fun c_60 => ?_)
              · exact absurd c_60 (by decide)
              · skip
                refine g_aload_n d_D_tellRace_63 rfl ?_
                refine g_aload_n d_D_tellRace_64 rfl ?_
                refine g_aload_n d_D_tellRace_65 rfl ?_
                refine g_aload d_D_tellRace_66 rfl ?_
                refine g_aload d_D_tellRace_68 rfl ?_
                refine v_getr (v := some co) (τ := (a + 1)) 261 rfl hV (sl_4 hZ.2.1 hb) (by decide) (by decide) fl_D_136 rfl d_D_tellRace_70 rfl eo ?_
                refine g_ifnonnull 81 d_D_tellRace_73 (by decide) (fun a_73 c_73 => ?_) (fun c_73 => ?_)
                · skip
                  refine g_aload_n d_D_tellRace_81 rfl ?_
                  refine g_callV (k1 := 0) (n1 := 0) [va_rf (some (ad S 4 g)), va_rf (some (ad S 4 a)), va_rf (some (ad S 4 (a + 1))), va_rf (some (ad S 4 a))] cw_D_327 cv_D_giveRaceExit d_D_tellRace_82 rfl (hV.kdo (sl_0 hZ.2.1) (by decide)) rfl rfl ⟨by simp, by simp⟩ (by first | decide | omega) (by first | decide | omega) (by first | decide | omega) (fun _ _ h => h) (s_D_giveRaceExit_v ⟨hV, hZ.2⟩ hg ha hb ha hn h5f h14f rfl rfl rfl rfl rfl) (fun r_ M h_ hfr_ => ?_)
                  obtain ⟨rfl, S1, hZ1, hA1, ha1, hb1⟩ := h_
                  have hk1 : Kp P S S1 := Kp.of ha1 hb1
                  have hle1 : nfb P ≤ nfb (p_R_give P g (P 13 a)) := Nat.le_refl _
                  have hK1 : Kp P S S1 := Kp.trans (Kp.refl P S) hk1 (Nat.le_refl _)
                  have hi1_0 : g < nfb (p_R_give P g (P 13 a)) := Nat.lt_of_lt_of_le hg hle1
                  have hi1_1 : a < nfb (p_R_give P g (P 13 a)) := Nat.lt_of_lt_of_le ha hle1
                  have hi1_2 : (a + 1) < nfb (p_R_give P g (P 13 a)) := Nat.lt_of_lt_of_le hb hle1
                  have hV := hZ1.1
                  refine g_aload_n d_D_tellRace_85 rfl ?_
                  refine g_aload_n d_D_tellRace_86 rfl ?_
                  refine g_callV (k1 := 0) (n1 := 0) [va_rf (some (ad S 4 g))] cw_D_233 cv_D_goOn d_D_tellRace_87 (ad_k rfl (hk1.1 0 0 (by decide) (by decide) (sl_0 hZ.2.1))) (hV.kdo (sl_0 hZ1.2.1) (by decide)) rfl rfl ⟨by simp, by simp⟩ (by first | decide | omega) (by first | decide | omega) (by first | decide | omega) (fun _ _ h => h) (s_D_goOn hZ1 hi1_0 g5 (Or.inr hA1) hq (ad_k rfl (hk1.2.1 g hg))) (fun r_ M h_ hfr_ => ?_)
                  obtain ⟨rfl, S2, hZ2, ha2, hb2⟩ := h_
                  have hk2 : Kp (p_R_give P g (P 13 a)) S1 S2 := Kp.of ha2 hb2
                  have hle2 : nfb P ≤ nfb (p_R_wake (p_R_give P g (P 13 a)) g) := hle1
                  have hK2 : Kp P S S2 := Kp.trans hK1 hk2 hle1
                  have hi2_0 : g < nfb (p_R_wake (p_R_give P g (P 13 a)) g) := Nat.lt_of_lt_of_le hg hle2
                  have hi2_1 : a < nfb (p_R_wake (p_R_give P g (P 13 a)) g) := Nat.lt_of_lt_of_le ha hle2
                  have hi2_2 : (a + 1) < nfb (p_R_wake (p_R_give P g (P 13 a)) g) := Nat.lt_of_lt_of_le hb hle2
                  have hV := hZ2.1
                  refine g_goto 110 d_D_tellRace_90 (by decide) ?_
                  refine g_return d_D_tellRace_110 rfl ⟨rfl, S2, ?_, ha2.trans ha1, hb2.trans hb1⟩
                  rw [show p_h149 P g a (a + 1) = p_R_wake (p_R_give P g (P 13 a)) g by unfold p_h149 p_h175 p_h226; rw [if_pos h2, r2 h2 h14 h14f, if_neg (nI_pos (by omega)), tn_nI (by omega)], show rcL2 P LL g a (a + 1) = (upL LL 0 (LL 0 ++ [g])) by unfold rcL2; rw [if_pos h2]]
                  exact hZ2
                · exact absurd (Eq.trans (Eq.symm (rfl : some co = some _)) c_73) (by simp)
          · exact absurd c_32 (fun h => h rfl)
    · skip
      refine g_aload_n d_D_tellRace_0 rfl ?_
      refine g_aload_n d_D_tellRace_1 rfl ?_
      refine v_geti (v := nI a) (τ := g) 270 rfl hV (sl_4 hZ.2.1 hg) (by decide) (by decide) fl_D_314 rfl d_D_tellRace_2 rfl ((sf_270r hZ.2.1 hg h3).trans e19) ?_
      refine g_callV (k1 := 3) (n1 := 20) [.int (nI a)] cw_D_94 cv_D_fiberAt d_D_tellRace_5 rfl (hV.kdo (sl_0 hZ.2.1) (by decide)) rfl rfl ⟨by simp, by simp⟩ (by first | decide | omega) (by first | decide | omega) (by first | decide | omega) (fun _ _ h => h) (s_fiberInx ⟨hV, hZ.2⟩ ha rfl) (fun r_ M h_ hfr_ => ?_)
      obtain ⟨rfl, hV⟩ := h_
      refine g_astore_n d_D_tellRace_8 (by decide) ?_
      refine g_aload_n d_D_tellRace_9 rfl ?_
      refine g_aload_n d_D_tellRace_10 rfl ?_
      refine v_geti (v := nI a) (τ := g) 270 rfl hV (sl_4 hZ.2.1 hg) (by decide) (by decide) fl_D_314 rfl d_D_tellRace_11 rfl ((sf_270r hZ.2.1 hg h3).trans e19) ?_
      refine g_iconst (v := 1) d_D_tellRace_14 (by decide) ?_
      refine g_iadd d_D_tellRace_15 ?_
      refine g_callV (k1 := 3) (n1 := 20) [.int ((nI a) + 1)] cw_D_94 cv_D_fiberAt d_D_tellRace_16 rfl (hV.kdo (sl_0 hZ.2.1) (by decide)) rfl rfl ⟨by simp, by simp⟩ (by first | decide | omega) (by first | decide | omega) (by first | decide | omega) (fun _ _ h => h) (s_fiberInx ⟨hV, hZ.2⟩ hb (nI_1 a)) (fun r_ M h_ hfr_ => ?_)
      obtain ⟨rfl, hV⟩ := h_
      refine g_astore d_D_tellRace_19 (by decide) ?_
      refine g_aload_n d_D_tellRace_21 rfl ?_
      refine g_ifnull 41 d_D_tellRace_22 (by decide) (fun c_22 => ?_) (fun a_22 c_22 => ?_)
      · exact absurd (Eq.trans (Eq.symm (rfl : some (ad S 4 a) = some _)) c_22) (by simp)
      · skip
        refine g_aload d_D_tellRace_25 rfl ?_
        refine g_ifnull 41 d_D_tellRace_27 (by decide) (fun c_27 => ?_) (fun a_27 c_27 => ?_)
        · exact absurd (Eq.trans (Eq.symm (rfl : some (ad S 4 (a + 1)) = some _)) c_27) (by simp)
        · skip
          refine g_aload_n d_D_tellRace_30 rfl ?_
          refine g_aload_n d_D_tellRace_31 rfl ?_
          refine g_acmp_eq 42 d_D_tellRace_32 (by decide) (fun c_32 => ?_) (fun c_32 => ?_)
          · skip
            refine g_aload_n d_D_tellRace_42 rfl ?_
            refine g_aload_n d_D_tellRace_43 rfl ?_
            refine g_acmp_ne 52 d_D_tellRace_44 (by decide) (fun c_44 => ?_) (fun c_44 => ?_)
            · exact absurd c_44 (fun h => h rfl)
            · skip
              refine g_aload d_D_tellRace_47 rfl ?_
              refine g_goto 53 d_D_tellRace_49 (by decide) ?_
              refine g_astore d_D_tellRace_53 (by decide) ?_
              refine g_aload d_D_tellRace_55 rfl ?_
              refine v_geti (v := 1) (τ := (a + 1)) 262 rfl hV (sl_4 hZ.2.1 hb) (by decide) (by decide) fl_D_98 rfl d_D_tellRace_57 rfl ((sf_262 hZ.2.1 hb).trans (by rw [h2]; rfl)) ?_
              refine g_if_eq 93 d_D_tellRace_60 (by decide) (fun c_60 => ?_) (fun c_60 => ?_)
              · exact absurd c_60 (by decide)
              · skip
                refine g_aload_n d_D_tellRace_63 rfl ?_
                refine g_aload_n d_D_tellRace_64 rfl ?_
                refine g_aload_n d_D_tellRace_65 rfl ?_
                refine g_aload d_D_tellRace_66 rfl ?_
                refine g_aload d_D_tellRace_68 rfl ?_
                refine v_getr (v := some co) (τ := (a + 1)) 261 rfl hV (sl_4 hZ.2.1 hb) (by decide) (by decide) fl_D_136 rfl d_D_tellRace_70 rfl eo ?_
                refine g_ifnonnull 81 d_D_tellRace_73 (by decide) (fun a_73 c_73 => ?_) (fun c_73 => ?_)
                · skip
                  refine g_aload_n d_D_tellRace_81 rfl ?_
                  refine g_callV (k1 := 0) (n1 := 0) [va_rf (some (ad S 4 g)), va_rf (some (ad S 4 a)), va_rf (some (ad S 4 (a + 1))), va_rf (some (ad S 4 a))] cw_D_327 cv_D_giveRaceExit d_D_tellRace_82 rfl (hV.kdo (sl_0 hZ.2.1) (by decide)) rfl rfl ⟨by simp, by simp⟩ (by first | decide | omega) (by first | decide | omega) (by first | decide | omega) (fun _ _ h => h) (s_D_giveRaceExit_c ⟨hV, hZ.2⟩ hg ha hb ha hn h5f h14f h5f h14f h2 h14 hga hgb rfl rfl rfl rfl rfl) (fun r_ M h_ hfr_ => ?_)
                  obtain ⟨rfl, S1, hZ1, hA1, ha1, hb1⟩ := h_
                  have hk1 : Kp P S S1 := Kp.of ha1 hb1
                  have hle1 : nfb P ≤ nfb (rjP P g a (a + 1)) := (by unfold nfb; rw [rjP_5 hZ.2.2.1 hga hgb (by decide)]; exact Nat.le_refl _)
                  have hK1 : Kp P S S1 := Kp.trans (Kp.refl P S) hk1 (Nat.le_refl _)
                  have hi1_0 : g < nfb (rjP P g a (a + 1)) := Nat.lt_of_lt_of_le hg hle1
                  have hi1_1 : a < nfb (rjP P g a (a + 1)) := Nat.lt_of_lt_of_le ha hle1
                  have hi1_2 : (a + 1) < nfb (rjP P g a (a + 1)) := Nat.lt_of_lt_of_le hb hle1
                  have hV := hZ1.1
                  refine g_aload_n d_D_tellRace_85 rfl ?_
                  refine g_aload_n d_D_tellRace_86 rfl ?_
                  refine g_callV (k1 := 0) (n1 := 0) [va_rf (some (ad S 4 g))] cw_D_233 cv_D_goOn d_D_tellRace_87 (ad_k rfl (hk1.1 0 0 (by decide) (by decide) (sl_0 hZ.2.1))) (hV.kdo (sl_0 hZ1.2.1) (by decide)) rfl rfl ⟨by simp, by simp⟩ (by first | decide | omega) (by first | decide | omega) (by first | decide | omega) (fun _ _ h => h) (s_D_goOn hZ1 hi1_0 ((rjP_5 hZ.2.2.1 hga hgb (by decide)).trans g5) (Or.inr hA1) (by rw [rjP_5 hZ.2.2.1 hga hgb (by decide)]; exact hq) (ad_k rfl (hk1.2.1 g hg))) (fun r_ M h_ hfr_ => ?_)
                  obtain ⟨rfl, S2, hZ2, ha2, hb2⟩ := h_
                  have hk2 : Kp (rjP P g a (a + 1)) S1 S2 := Kp.of ha2 hb2
                  have hle2 : nfb P ≤ nfb (p_R_wake (rjP P g a (a + 1)) g) := hle1
                  have hK2 : Kp P S S2 := Kp.trans hK1 hk2 hle1
                  have hi2_0 : g < nfb (p_R_wake (rjP P g a (a + 1)) g) := Nat.lt_of_lt_of_le hg hle2
                  have hi2_1 : a < nfb (p_R_wake (rjP P g a (a + 1)) g) := Nat.lt_of_lt_of_le ha hle2
                  have hi2_2 : (a + 1) < nfb (p_R_wake (rjP P g a (a + 1)) g) := Nat.lt_of_lt_of_le hb hle2
                  have hV := hZ2.1
                  refine g_goto 110 d_D_tellRace_90 (by decide) ?_
                  refine g_return d_D_tellRace_110 rfl ⟨rfl, S2, ?_, ha2.trans ha1, hb2.trans hb1⟩
                  rw [show p_h149 P g a (a + 1) = p_R_wake (rjP P g a (a + 1)) g by unfold p_h149 p_h175 p_h226 rjP; rw [if_pos h2, if_pos (r3 h2 h14 h14f), e19, tn_nI (by omega), hand_o P hga (by decide), e20, tn_nI (by omega)], show rcL2 P LL g a (a + 1) = (upL LL 0 (LL 0 ++ [g])) by unfold rcL2; rw [if_pos h2]]
                  exact hZ2
                · exact absurd (Eq.trans (Eq.symm (rfl : some co = some _)) c_73) (by simp)
          · exact absurd c_32 (fun h => h rfl)
  by_cases h14f : P 14 a = 0
  · skip
    refine g_aload_n d_D_tellRace_0 rfl ?_
    refine g_aload_n d_D_tellRace_1 rfl ?_
    refine v_geti (v := nI a) (τ := g) 270 rfl hV (sl_4 hZ.2.1 hg) (by decide) (by decide) fl_D_314 rfl d_D_tellRace_2 rfl ((sf_270r hZ.2.1 hg h3).trans e19) ?_
    refine g_callV (k1 := 0) (n1 := 0) [.int (nI a)] cw_D_94 cv_D_fiberAt d_D_tellRace_5 rfl (hV.kdo (sl_0 hZ.2.1) (by decide)) rfl rfl ⟨by simp, by simp⟩ (by first | decide | omega) (by first | decide | omega) (by first | decide | omega) (fun _ _ h => h) (s_fiberInx ⟨hV, hZ.2⟩ ha rfl) (fun r_ M h_ hfr_ => ?_)
    obtain ⟨rfl, hV⟩ := h_
    refine g_astore_n d_D_tellRace_8 (by decide) ?_
    refine g_aload_n d_D_tellRace_9 rfl ?_
    refine g_aload_n d_D_tellRace_10 rfl ?_
    refine v_geti (v := nI a) (τ := g) 270 rfl hV (sl_4 hZ.2.1 hg) (by decide) (by decide) fl_D_314 rfl d_D_tellRace_11 rfl ((sf_270r hZ.2.1 hg h3).trans e19) ?_
    refine g_iconst (v := 1) d_D_tellRace_14 (by decide) ?_
    refine g_iadd d_D_tellRace_15 ?_
    refine g_callV (k1 := 0) (n1 := 0) [.int ((nI a) + 1)] cw_D_94 cv_D_fiberAt d_D_tellRace_16 rfl (hV.kdo (sl_0 hZ.2.1) (by decide)) rfl rfl ⟨by simp, by simp⟩ (by first | decide | omega) (by first | decide | omega) (by first | decide | omega) (fun _ _ h => h) (s_fiberInx ⟨hV, hZ.2⟩ hb (nI_1 a)) (fun r_ M h_ hfr_ => ?_)
    obtain ⟨rfl, hV⟩ := h_
    refine g_astore d_D_tellRace_19 (by decide) ?_
    refine g_aload_n d_D_tellRace_21 rfl ?_
    refine g_ifnull 41 d_D_tellRace_22 (by decide) (fun c_22 => ?_) (fun a_22 c_22 => ?_)
    · exact absurd (Eq.trans (Eq.symm (rfl : some (ad S 4 a) = some _)) c_22) (by simp)
    · skip
      refine g_aload d_D_tellRace_25 rfl ?_
      refine g_ifnull 41 d_D_tellRace_27 (by decide) (fun c_27 => ?_) (fun a_27 c_27 => ?_)
      · exact absurd (Eq.trans (Eq.symm (rfl : some (ad S 4 (a + 1)) = some _)) c_27) (by simp)
      · skip
        refine g_aload_n d_D_tellRace_30 rfl ?_
        refine g_aload_n d_D_tellRace_31 rfl ?_
        refine g_acmp_eq 42 d_D_tellRace_32 (by decide) (fun c_32 => ?_) (fun c_32 => ?_)
        · skip
          refine g_aload_n d_D_tellRace_42 rfl ?_
          refine g_aload_n d_D_tellRace_43 rfl ?_
          refine g_acmp_ne 52 d_D_tellRace_44 (by decide) (fun c_44 => ?_) (fun c_44 => ?_)
          · exact absurd c_44 (fun h => h rfl)
          · skip
            refine g_aload d_D_tellRace_47 rfl ?_
            refine g_goto 53 d_D_tellRace_49 (by decide) ?_
            refine g_astore d_D_tellRace_53 (by decide) ?_
            refine g_aload d_D_tellRace_55 rfl ?_
            refine v_geti (v := 0) (τ := (a + 1)) 262 rfl hV (sl_4 hZ.2.1 hb) (by decide) (by decide) fl_D_98 rfl d_D_tellRace_57 rfl ((sf_262 hZ.2.1 hb).trans (by unfold endI; rw [if_neg h2])) ?_
            refine g_if_eq 93 d_D_tellRace_60 (by decide) (fun c_60 => ?_) (fun c_60 => ?_)
            · skip
              refine g_aload_n d_D_tellRace_93 rfl ?_
              refine v_getr (v := none) (τ := a) 261 rfl hV (sl_4 hZ.2.1 ha) (by decide) (by decide) fl_D_136 rfl d_D_tellRace_94 rfl ((sf_exit hZ.2.1 ha h5f).1 h14f).1 ?_
              refine g_ifnonnull 110 d_D_tellRace_97 (by decide) (fun a_97 c_97 => ?_) (fun c_97 => ?_)
              · exact absurd c_97 (by simp)
              · skip
                refine g_aload_n d_D_tellRace_100 rfl ?_
                refine g_aload d_D_tellRace_101 rfl ?_
                refine g_aload_n d_D_tellRace_103 rfl ?_
                refine v_geti (v := nI g) (τ := g) 256 rfl hV (sl_4 hZ.2.1 hg) (by decide) (by decide) fl_D_173 rfl d_D_tellRace_104 rfl (sf_256 hZ.2.1 hg) ?_
                refine g_callV (k1 := 0) (n1 := 0) [va_rf (some (ad S 4 (a + 1))), .int (nI g)] cw_D_102 cv_D_sendInterrupt d_D_tellRace_107 rfl (hV.kdo (sl_0 hZ.2.1) (by decide)) rfl rfl ⟨by simp, by simp⟩ (by first | decide | omega) (by first | decide | omega) (by first | decide | omega) (fun _ _ h => h) (s_D_sendInterrupt ⟨hV, hZ.2⟩ hb (nI g) h6 h15o h16 (fun _ => hq) rfl) (fun r_ M h_ hfr_ => ?_)
                obtain ⟨rfl, S1, hZ1, ha1, hb1⟩ := h_
                have hk1 : Kp P S S1 := Kp.of ha1 hb1
                have hle1 : nfb P ≤ nfb (p_R_strike P (a + 1) (nI g)) := (by rw [nfb_strike]; exact Nat.le_refl _)
                have hK1 : Kp P S S1 := Kp.trans (Kp.refl P S) hk1 (Nat.le_refl _)
                have hi1_0 : g < nfb (p_R_strike P (a + 1) (nI g)) := Nat.lt_of_lt_of_le hg hle1
                have hi1_1 : a < nfb (p_R_strike P (a + 1) (nI g)) := Nat.lt_of_lt_of_le ha hle1
                have hi1_2 : (a + 1) < nfb (p_R_strike P (a + 1) (nI g)) := Nat.lt_of_lt_of_le hb hle1
                have hV := hZ1.1
                refine g_return d_D_tellRace_110 rfl ⟨rfl, S1, ?_, ha1, hb1⟩
                unfold p_h149 rcL2; rw [if_neg h2, if_neg h2, if_pos h14f, if_pos h14f]
                exact hZ1
            · exact absurd c_60 (by decide)
        · exact absurd c_32 (fun h => h rfl)
  · obtain ⟨cf, ef, kf⟩ := (sf_exit hZ.2.1 ha h5f).2 h14f
    refine g_aload_n d_D_tellRace_0 rfl ?_
    refine g_aload_n d_D_tellRace_1 rfl ?_
    refine v_geti (v := nI a) (τ := g) 270 rfl hV (sl_4 hZ.2.1 hg) (by decide) (by decide) fl_D_314 rfl d_D_tellRace_2 rfl ((sf_270r hZ.2.1 hg h3).trans e19) ?_
    refine g_callV (k1 := 0) (n1 := 0) [.int (nI a)] cw_D_94 cv_D_fiberAt d_D_tellRace_5 rfl (hV.kdo (sl_0 hZ.2.1) (by decide)) rfl rfl ⟨by simp, by simp⟩ (by first | decide | omega) (by first | decide | omega) (by first | decide | omega) (fun _ _ h => h) (s_fiberInx ⟨hV, hZ.2⟩ ha rfl) (fun r_ M h_ hfr_ => ?_)
    obtain ⟨rfl, hV⟩ := h_
    refine g_astore_n d_D_tellRace_8 (by decide) ?_
    refine g_aload_n d_D_tellRace_9 rfl ?_
    refine g_aload_n d_D_tellRace_10 rfl ?_
    refine v_geti (v := nI a) (τ := g) 270 rfl hV (sl_4 hZ.2.1 hg) (by decide) (by decide) fl_D_314 rfl d_D_tellRace_11 rfl ((sf_270r hZ.2.1 hg h3).trans e19) ?_
    refine g_iconst (v := 1) d_D_tellRace_14 (by decide) ?_
    refine g_iadd d_D_tellRace_15 ?_
    refine g_callV (k1 := 0) (n1 := 0) [.int ((nI a) + 1)] cw_D_94 cv_D_fiberAt d_D_tellRace_16 rfl (hV.kdo (sl_0 hZ.2.1) (by decide)) rfl rfl ⟨by simp, by simp⟩ (by first | decide | omega) (by first | decide | omega) (by first | decide | omega) (fun _ _ h => h) (s_fiberInx ⟨hV, hZ.2⟩ hb (nI_1 a)) (fun r_ M h_ hfr_ => ?_)
    obtain ⟨rfl, hV⟩ := h_
    refine g_astore d_D_tellRace_19 (by decide) ?_
    refine g_aload_n d_D_tellRace_21 rfl ?_
    refine g_ifnull 41 d_D_tellRace_22 (by decide) (fun c_22 => ?_) (fun a_22 c_22 => ?_)
    · exact absurd (Eq.trans (Eq.symm (rfl : some (ad S 4 a) = some _)) c_22) (by simp)
    · skip
      refine g_aload d_D_tellRace_25 rfl ?_
      refine g_ifnull 41 d_D_tellRace_27 (by decide) (fun c_27 => ?_) (fun a_27 c_27 => ?_)
      · exact absurd (Eq.trans (Eq.symm (rfl : some (ad S 4 (a + 1)) = some _)) c_27) (by simp)
      · skip
        refine g_aload_n d_D_tellRace_30 rfl ?_
        refine g_aload_n d_D_tellRace_31 rfl ?_
        refine g_acmp_eq 42 d_D_tellRace_32 (by decide) (fun c_32 => ?_) (fun c_32 => ?_)
        · skip
          refine g_aload_n d_D_tellRace_42 rfl ?_
          refine g_aload_n d_D_tellRace_43 rfl ?_
          refine g_acmp_ne 52 d_D_tellRace_44 (by decide) (fun c_44 => ?_) (fun c_44 => ?_)
          · exact absurd c_44 (fun h => h rfl)
          · skip
            refine g_aload d_D_tellRace_47 rfl ?_
            refine g_goto 53 d_D_tellRace_49 (by decide) ?_
            refine g_astore d_D_tellRace_53 (by decide) ?_
            refine g_aload d_D_tellRace_55 rfl ?_
            refine v_geti (v := 0) (τ := (a + 1)) 262 rfl hV (sl_4 hZ.2.1 hb) (by decide) (by decide) fl_D_98 rfl d_D_tellRace_57 rfl ((sf_262 hZ.2.1 hb).trans (by unfold endI; rw [if_neg h2])) ?_
            refine g_if_eq 93 d_D_tellRace_60 (by decide) (fun c_60 => ?_) (fun c_60 => ?_)
            · skip
              refine g_aload_n d_D_tellRace_93 rfl ?_
              refine v_getr (v := some cf) (τ := a) 261 rfl hV (sl_4 hZ.2.1 ha) (by decide) (by decide) fl_D_136 rfl d_D_tellRace_94 rfl ef ?_
              refine g_ifnonnull 110 d_D_tellRace_97 (by decide) (fun a_97 c_97 => ?_) (fun c_97 => ?_)
              · skip
                refine g_return d_D_tellRace_110 rfl ⟨rfl, S, ?_, rfl, rfl⟩
                unfold p_h149 rcL2; rw [if_neg h2, if_neg h2, if_neg h14f, if_neg h14f]
                exact ⟨hV, hZ.2⟩
              · exact absurd (Eq.trans (Eq.symm (rfl : some cf = some _)) c_97) (by simp)
            · exact absurd c_60 (by decide)
        · exact absurd c_32 (fun h => h rfl)
set_option maxHeartbeats 1000000 in
set_option maxRecDepth 100000 in
theorem s_D_tellRace_y {P : Pst} {LL : Lls} {S : Gs} {M : Mm} (hZ : Zt P LL S M) {g a : Nat} (hg : g < nfb P) (ha : a < nfb P) (hb : a + 1 < nfb P) (hga : ¬ g = a) (hgb : ¬ g = a + 1) (h3 : P 15 g = 3) (g5 : P 5 g = 1) (e19 : P 19 g = nI a) (e20 : P 20 g = nI (a + 1)) (hq : tn (P 43 0) < 10) (h5f : P 5 (a + 1) = 2) (r1 : P 5 a = 2 → P 14 a = 0 → P 21 g = nI a) (r2 : P 5 a = 2 → ¬ P 14 a = 0 → P 14 (a + 1) = 0 → P 21 g = nI (a + 1)) (r3 : P 5 a = 2 → ¬ P 14 a = 0 → ¬ P 14 (a + 1) = 0 → P 21 g < 0) (h6 : P 6 a = 0 ∨ P 6 a = 1 ∨ P 6 a = 2) (h15o : P 5 a = 1 ↔ ¬ P 15 a = 0) (h16 : P 15 a = 5 ∨ P 15 a = 6 → ∃ n, n < 4 ∧ P 16 a = nI n) {og uf : Option Nat} (hog : og = some (ad S 4 g)) (huf : uf = some (ad S 4 (a + 1))) : Run m_D_tellRace ownC 4 3 20 [va_rf (some (ad S 0 0)), va_rf og, va_rf uf] M (fun r M' => r = none ∧ ∃ S', Zt (p_h149 P g (a + 1) a) (rcL2 P LL g (a + 1) a) S' M' ∧ ad S' = ad S ∧ lv S' = lv S) := by
  subst hog
  subst huf
  have hV := hZ.1
  refine Run.ofG (by decide) (by simp [cat_int, cat_rf]) (Nat.le_of_ble_eq_true rfl) ?_
  have hn : P 5 g = 1 → ¬ (P 15 g = 2 ∨ P 15 g = 4 ∨ P 15 g = 6) := fun _ => by rw [h3]; decide
  have h10 := n10 hZ.2.2.1
  by_cases h2 : P 5 a = 2
  · by_cases h14 : P 14 a = 0
    · skip
      refine g_aload_n d_D_tellRace_0 rfl ?_
      refine g_aload_n d_D_tellRace_1 rfl ?_
      refine v_geti (v := nI a) (τ := g) 270 rfl hV (sl_4 hZ.2.1 hg) (by decide) (by decide) fl_D_314 rfl d_D_tellRace_2 rfl ((sf_270r hZ.2.1 hg h3).trans e19) ?_
      refine g_callV (k1 := 3) (n1 := 20) [.int (nI a)] cw_D_94 cv_D_fiberAt d_D_tellRace_5 rfl (hV.kdo (sl_0 hZ.2.1) (by decide)) rfl rfl ⟨by simp, by simp⟩ (by first | decide | omega) (by first | decide | omega) (by first | decide | omega) (fun _ _ h => h) (s_fiberInx ⟨hV, hZ.2⟩ ha rfl) (fun r_ M h_ hfr_ => ?_)
      obtain ⟨rfl, hV⟩ := h_
      refine g_astore_n d_D_tellRace_8 (by decide) ?_
      refine g_aload_n d_D_tellRace_9 rfl ?_
      refine g_aload_n d_D_tellRace_10 rfl ?_
      refine v_geti (v := nI a) (τ := g) 270 rfl hV (sl_4 hZ.2.1 hg) (by decide) (by decide) fl_D_314 rfl d_D_tellRace_11 rfl ((sf_270r hZ.2.1 hg h3).trans e19) ?_
      refine g_iconst (v := 1) d_D_tellRace_14 (by decide) ?_
      refine g_iadd d_D_tellRace_15 ?_
      refine g_callV (k1 := 3) (n1 := 20) [.int ((nI a) + 1)] cw_D_94 cv_D_fiberAt d_D_tellRace_16 rfl (hV.kdo (sl_0 hZ.2.1) (by decide)) rfl rfl ⟨by simp, by simp⟩ (by first | decide | omega) (by first | decide | omega) (by first | decide | omega) (fun _ _ h => h) (s_fiberInx ⟨hV, hZ.2⟩ hb (nI_1 a)) (fun r_ M h_ hfr_ => ?_)
      obtain ⟨rfl, hV⟩ := h_
      refine g_astore d_D_tellRace_19 (by decide) ?_
      refine g_aload_n d_D_tellRace_21 rfl ?_
      refine g_ifnull 41 d_D_tellRace_22 (by decide) (fun c_22 => ?_) (fun a_22 c_22 => ?_)
      · exact absurd (Eq.trans (Eq.symm (rfl : some (ad S 4 a) = some _)) c_22) (by simp)
      · skip
        refine g_aload d_D_tellRace_25 rfl ?_
        refine g_ifnull 41 d_D_tellRace_27 (by decide) (fun c_27 => ?_) (fun a_27 c_27 => ?_)
        · exact absurd (Eq.trans (Eq.symm (rfl : some (ad S 4 (a + 1)) = some _)) c_27) (by simp)
        · skip
          refine g_aload_n d_D_tellRace_30 rfl ?_
          refine g_aload_n d_D_tellRace_31 rfl ?_
          refine g_acmp_eq 42 d_D_tellRace_32 (by decide) (fun c_32 => ?_) (fun c_32 => ?_)
          · exact absurd c_32 (fun h => VM.apart hZ.1 (sl_4 hZ.2.1 ha) (sl_4 hZ.2.1 hb) (by omega) (Option.some.inj h))
          · skip
            refine g_aload_n d_D_tellRace_35 rfl ?_
            refine g_aload d_D_tellRace_36 rfl ?_
            refine g_acmp_eq 42 d_D_tellRace_38 (by decide) (fun c_38 => ?_) (fun c_38 => ?_)
            · skip
              refine g_aload_n d_D_tellRace_42 rfl ?_
              refine g_aload_n d_D_tellRace_43 rfl ?_
              refine g_acmp_ne 52 d_D_tellRace_44 (by decide) (fun c_44 => ?_) (fun c_44 => ?_)
              · skip
                refine g_aload_n d_D_tellRace_52 rfl ?_
                refine g_astore d_D_tellRace_53 (by decide) ?_
                refine g_aload d_D_tellRace_55 rfl ?_
                refine v_geti (v := 1) (τ := a) 262 rfl hV (sl_4 hZ.2.1 ha) (by decide) (by decide) fl_D_98 rfl d_D_tellRace_57 rfl ((sf_262 hZ.2.1 ha).trans (by rw [h2]; rfl)) ?_
                refine g_if_eq 93 d_D_tellRace_60 (by decide) (fun c_60 => ?_) (fun c_60 => ?_)
                · exact absurd c_60 (by decide)
                · skip
                  refine g_aload_n d_D_tellRace_63 rfl ?_
                  refine g_aload_n d_D_tellRace_64 rfl ?_
                  refine g_aload_n d_D_tellRace_65 rfl ?_
                  refine g_aload d_D_tellRace_66 rfl ?_
                  refine g_aload d_D_tellRace_68 rfl ?_
                  refine v_getr (v := none) (τ := a) 261 rfl hV (sl_4 hZ.2.1 ha) (by decide) (by decide) fl_D_136 rfl d_D_tellRace_70 rfl ((sf_exit hZ.2.1 ha h2).1 h14).1 ?_
                  refine g_ifnonnull 81 d_D_tellRace_73 (by decide) (fun a_73 c_73 => ?_) (fun c_73 => ?_)
                  · exact absurd c_73 (by simp)
                  · skip
                    refine g_aload d_D_tellRace_76 rfl ?_
                    refine g_goto 82 d_D_tellRace_78 (by decide) ?_
                    refine g_callV (k1 := 0) (n1 := 0) [va_rf (some (ad S 4 g)), va_rf (some (ad S 4 a)), va_rf (some (ad S 4 (a + 1))), va_rf (some (ad S 4 a))] cw_D_327 cv_D_giveRaceExit d_D_tellRace_82 rfl (hV.kdo (sl_0 hZ.2.1) (by decide)) rfl rfl ⟨by simp, by simp⟩ (by first | decide | omega) (by first | decide | omega) (by first | decide | omega) (fun _ _ h => h) (s_D_giveRaceExit_v ⟨hV, hZ.2⟩ hg ha hb ha hn h2 h14 rfl rfl rfl rfl rfl) (fun r_ M h_ hfr_ => ?_)
                    obtain ⟨rfl, S1, hZ1, hA1, ha1, hb1⟩ := h_
                    have hk1 : Kp P S S1 := Kp.of ha1 hb1
                    have hle1 : nfb P ≤ nfb (p_R_give P g (P 13 a)) := Nat.le_refl _
                    have hK1 : Kp P S S1 := Kp.trans (Kp.refl P S) hk1 (Nat.le_refl _)
                    have hi1_0 : g < nfb (p_R_give P g (P 13 a)) := Nat.lt_of_lt_of_le hg hle1
                    have hi1_1 : a < nfb (p_R_give P g (P 13 a)) := Nat.lt_of_lt_of_le ha hle1
                    have hi1_2 : (a + 1) < nfb (p_R_give P g (P 13 a)) := Nat.lt_of_lt_of_le hb hle1
                    have hV := hZ1.1
                    refine g_aload_n d_D_tellRace_85 rfl ?_
                    refine g_aload_n d_D_tellRace_86 rfl ?_
                    refine g_callV (k1 := 0) (n1 := 0) [va_rf (some (ad S 4 g))] cw_D_233 cv_D_goOn d_D_tellRace_87 (ad_k rfl (hk1.1 0 0 (by decide) (by decide) (sl_0 hZ.2.1))) (hV.kdo (sl_0 hZ1.2.1) (by decide)) rfl rfl ⟨by simp, by simp⟩ (by first | decide | omega) (by first | decide | omega) (by first | decide | omega) (fun _ _ h => h) (s_D_goOn hZ1 hi1_0 g5 (Or.inr hA1) hq (ad_k rfl (hk1.2.1 g hg))) (fun r_ M h_ hfr_ => ?_)
                    obtain ⟨rfl, S2, hZ2, ha2, hb2⟩ := h_
                    have hk2 : Kp (p_R_give P g (P 13 a)) S1 S2 := Kp.of ha2 hb2
                    have hle2 : nfb P ≤ nfb (p_R_wake (p_R_give P g (P 13 a)) g) := hle1
                    have hK2 : Kp P S S2 := Kp.trans hK1 hk2 hle1
                    have hi2_0 : g < nfb (p_R_wake (p_R_give P g (P 13 a)) g) := Nat.lt_of_lt_of_le hg hle2
                    have hi2_1 : a < nfb (p_R_wake (p_R_give P g (P 13 a)) g) := Nat.lt_of_lt_of_le ha hle2
                    have hi2_2 : (a + 1) < nfb (p_R_wake (p_R_give P g (P 13 a)) g) := Nat.lt_of_lt_of_le hb hle2
                    have hV := hZ2.1
                    refine g_goto 110 d_D_tellRace_90 (by decide) ?_
                    refine g_return d_D_tellRace_110 rfl ⟨rfl, S2, ?_, ha2.trans ha1, hb2.trans hb1⟩
                    rw [show p_h149 P g (a + 1) a = p_R_wake (p_R_give P g (P 13 a)) g by unfold p_h149 p_h175 p_h226; rw [if_pos h2, r1 h2 h14, if_neg (nI_pos (by omega)), tn_nI (by omega)], show rcL2 P LL g (a + 1) a = (upL LL 0 (LL 0 ++ [g])) by unfold rcL2; rw [if_pos h2]]
                    exact hZ2
              · exact absurd c_44 (fun h => VM.apart hZ.1 (sl_4 hZ.2.1 ha) (sl_4 hZ.2.1 hb) (by omega) (Option.some.inj h))
            · exact absurd c_38 (fun h => h rfl)
    have h9o := (sf_exit hZ.2.1 ha h2).2 h14
    obtain ⟨co, eo, ko⟩ := h9o
    by_cases h14f : P 14 (a + 1) = 0
    · skip
      refine g_aload_n d_D_tellRace_0 rfl ?_
      refine g_aload_n d_D_tellRace_1 rfl ?_
      refine v_geti (v := nI a) (τ := g) 270 rfl hV (sl_4 hZ.2.1 hg) (by decide) (by decide) fl_D_314 rfl d_D_tellRace_2 rfl ((sf_270r hZ.2.1 hg h3).trans e19) ?_
      refine g_callV (k1 := 3) (n1 := 20) [.int (nI a)] cw_D_94 cv_D_fiberAt d_D_tellRace_5 rfl (hV.kdo (sl_0 hZ.2.1) (by decide)) rfl rfl ⟨by simp, by simp⟩ (by first | decide | omega) (by first | decide | omega) (by first | decide | omega) (fun _ _ h => h) (s_fiberInx ⟨hV, hZ.2⟩ ha rfl) (fun r_ M h_ hfr_ => ?_)
      obtain ⟨rfl, hV⟩ := h_
      refine g_astore_n d_D_tellRace_8 (by decide) ?_
      refine g_aload_n d_D_tellRace_9 rfl ?_
      refine g_aload_n d_D_tellRace_10 rfl ?_
      refine v_geti (v := nI a) (τ := g) 270 rfl hV (sl_4 hZ.2.1 hg) (by decide) (by decide) fl_D_314 rfl d_D_tellRace_11 rfl ((sf_270r hZ.2.1 hg h3).trans e19) ?_
      refine g_iconst (v := 1) d_D_tellRace_14 (by decide) ?_
      refine g_iadd d_D_tellRace_15 ?_
      refine g_callV (k1 := 3) (n1 := 20) [.int ((nI a) + 1)] cw_D_94 cv_D_fiberAt d_D_tellRace_16 rfl (hV.kdo (sl_0 hZ.2.1) (by decide)) rfl rfl ⟨by simp, by simp⟩ (by first | decide | omega) (by first | decide | omega) (by first | decide | omega) (fun _ _ h => h) (s_fiberInx ⟨hV, hZ.2⟩ hb (nI_1 a)) (fun r_ M h_ hfr_ => ?_)
      obtain ⟨rfl, hV⟩ := h_
      refine g_astore d_D_tellRace_19 (by decide) ?_
      refine g_aload_n d_D_tellRace_21 rfl ?_
      refine g_ifnull 41 d_D_tellRace_22 (by decide) (fun c_22 => ?_) (fun a_22 c_22 => ?_)
      · exact absurd (Eq.trans (Eq.symm (rfl : some (ad S 4 a) = some _)) c_22) (by simp)
      · skip
        refine g_aload d_D_tellRace_25 rfl ?_
        refine g_ifnull 41 d_D_tellRace_27 (by decide) (fun c_27 => ?_) (fun a_27 c_27 => ?_)
        · exact absurd (Eq.trans (Eq.symm (rfl : some (ad S 4 (a + 1)) = some _)) c_27) (by simp)
        · skip
          refine g_aload_n d_D_tellRace_30 rfl ?_
          refine g_aload_n d_D_tellRace_31 rfl ?_
          refine g_acmp_eq 42 d_D_tellRace_32 (by decide) (fun c_32 => ?_) (fun c_32 => ?_)
          · exact absurd c_32 (fun h => VM.apart hZ.1 (sl_4 hZ.2.1 ha) (sl_4 hZ.2.1 hb) (by omega) (Option.some.inj h))
          · skip
            refine g_aload_n d_D_tellRace_35 rfl ?_
            refine g_aload d_D_tellRace_36 rfl ?_
            refine g_acmp_eq 42 d_D_tellRace_38 (by decide) (fun c_38 => ?_) (fun c_38 => ?_)
            · skip
              refine g_aload_n d_D_tellRace_42 rfl ?_
              refine g_aload_n d_D_tellRace_43 rfl ?_
              refine g_acmp_ne 52 d_D_tellRace_44 (by decide) (fun c_44 => ?_) (fun c_44 => ?_)
              · skip
                refine g_aload_n d_D_tellRace_52 rfl ?_
                refine g_astore d_D_tellRace_53 (by decide) ?_
                refine g_aload d_D_tellRace_55 rfl ?_
                refine v_geti (v := 1) (τ := a) 262 rfl hV (sl_4 hZ.2.1 ha) (by decide) (by decide) fl_D_98 rfl d_D_tellRace_57 rfl ((sf_262 hZ.2.1 ha).trans (by rw [h2]; rfl)) ?_
                refine g_if_eq 93 d_D_tellRace_60 (by decide) (fun c_60 => ?_) (fun c_60 => ?_)
                · exact absurd c_60 (by decide)
                · skip
                  refine g_aload_n d_D_tellRace_63 rfl ?_
                  refine g_aload_n d_D_tellRace_64 rfl ?_
                  refine g_aload_n d_D_tellRace_65 rfl ?_
                  refine g_aload d_D_tellRace_66 rfl ?_
                  refine g_aload d_D_tellRace_68 rfl ?_
                  refine v_getr (v := some co) (τ := a) 261 rfl hV (sl_4 hZ.2.1 ha) (by decide) (by decide) fl_D_136 rfl d_D_tellRace_70 rfl eo ?_
                  refine g_ifnonnull 81 d_D_tellRace_73 (by decide) (fun a_73 c_73 => ?_) (fun c_73 => ?_)
                  · skip
                    refine g_aload_n d_D_tellRace_81 rfl ?_
                    refine g_callV (k1 := 0) (n1 := 0) [va_rf (some (ad S 4 g)), va_rf (some (ad S 4 a)), va_rf (some (ad S 4 (a + 1))), va_rf (some (ad S 4 (a + 1)))] cw_D_327 cv_D_giveRaceExit d_D_tellRace_82 rfl (hV.kdo (sl_0 hZ.2.1) (by decide)) rfl rfl ⟨by simp, by simp⟩ (by first | decide | omega) (by first | decide | omega) (by first | decide | omega) (fun _ _ h => h) (s_D_giveRaceExit_v ⟨hV, hZ.2⟩ hg ha hb hb hn h5f h14f rfl rfl rfl rfl rfl) (fun r_ M h_ hfr_ => ?_)
                    obtain ⟨rfl, S1, hZ1, hA1, ha1, hb1⟩ := h_
                    have hk1 : Kp P S S1 := Kp.of ha1 hb1
                    have hle1 : nfb P ≤ nfb (p_R_give P g (P 13 (a + 1))) := Nat.le_refl _
                    have hK1 : Kp P S S1 := Kp.trans (Kp.refl P S) hk1 (Nat.le_refl _)
                    have hi1_0 : g < nfb (p_R_give P g (P 13 (a + 1))) := Nat.lt_of_lt_of_le hg hle1
                    have hi1_1 : a < nfb (p_R_give P g (P 13 (a + 1))) := Nat.lt_of_lt_of_le ha hle1
                    have hi1_2 : (a + 1) < nfb (p_R_give P g (P 13 (a + 1))) := Nat.lt_of_lt_of_le hb hle1
                    have hV := hZ1.1
                    refine g_aload_n d_D_tellRace_85 rfl ?_
                    refine g_aload_n d_D_tellRace_86 rfl ?_
                    refine g_callV (k1 := 0) (n1 := 0) [va_rf (some (ad S 4 g))] cw_D_233 cv_D_goOn d_D_tellRace_87 (ad_k rfl (hk1.1 0 0 (by decide) (by decide) (sl_0 hZ.2.1))) (hV.kdo (sl_0 hZ1.2.1) (by decide)) rfl rfl ⟨by simp, by simp⟩ (by first | decide | omega) (by first | decide | omega) (by first | decide | omega) (fun _ _ h => h) (s_D_goOn hZ1 hi1_0 g5 (Or.inr hA1) hq (ad_k rfl (hk1.2.1 g hg))) (fun r_ M h_ hfr_ => ?_)
                    obtain ⟨rfl, S2, hZ2, ha2, hb2⟩ := h_
                    have hk2 : Kp (p_R_give P g (P 13 (a + 1))) S1 S2 := Kp.of ha2 hb2
                    have hle2 : nfb P ≤ nfb (p_R_wake (p_R_give P g (P 13 (a + 1))) g) := hle1
                    have hK2 : Kp P S S2 := Kp.trans hK1 hk2 hle1
                    have hi2_0 : g < nfb (p_R_wake (p_R_give P g (P 13 (a + 1))) g) := Nat.lt_of_lt_of_le hg hle2
                    have hi2_1 : a < nfb (p_R_wake (p_R_give P g (P 13 (a + 1))) g) := Nat.lt_of_lt_of_le ha hle2
                    have hi2_2 : (a + 1) < nfb (p_R_wake (p_R_give P g (P 13 (a + 1))) g) := Nat.lt_of_lt_of_le hb hle2
                    have hV := hZ2.1
                    refine g_goto 110 d_D_tellRace_90 (by decide) ?_
                    refine g_return d_D_tellRace_110 rfl ⟨rfl, S2, ?_, ha2.trans ha1, hb2.trans hb1⟩
                    rw [show p_h149 P g (a + 1) a = p_R_wake (p_R_give P g (P 13 (a + 1))) g by unfold p_h149 p_h175 p_h226; rw [if_pos h2, r2 h2 h14 h14f, if_neg (nI_pos (by omega)), tn_nI (by omega)], show rcL2 P LL g (a + 1) a = (upL LL 0 (LL 0 ++ [g])) by unfold rcL2; rw [if_pos h2]]
                    exact hZ2
                  · exact absurd (Eq.trans (Eq.symm (rfl : some co = some _)) c_73) (by simp)
              · exact absurd c_44 (fun h => VM.apart hZ.1 (sl_4 hZ.2.1 ha) (sl_4 hZ.2.1 hb) (by omega) (Option.some.inj h))
            · exact absurd c_38 (fun h => h rfl)
    · skip
      refine g_aload_n d_D_tellRace_0 rfl ?_
      refine g_aload_n d_D_tellRace_1 rfl ?_
      refine v_geti (v := nI a) (τ := g) 270 rfl hV (sl_4 hZ.2.1 hg) (by decide) (by decide) fl_D_314 rfl d_D_tellRace_2 rfl ((sf_270r hZ.2.1 hg h3).trans e19) ?_
      refine g_callV (k1 := 3) (n1 := 20) [.int (nI a)] cw_D_94 cv_D_fiberAt d_D_tellRace_5 rfl (hV.kdo (sl_0 hZ.2.1) (by decide)) rfl rfl ⟨by simp, by simp⟩ (by first | decide | omega) (by first | decide | omega) (by first | decide | omega) (fun _ _ h => h) (s_fiberInx ⟨hV, hZ.2⟩ ha rfl) (fun r_ M h_ hfr_ => ?_)
      obtain ⟨rfl, hV⟩ := h_
      refine g_astore_n d_D_tellRace_8 (by decide) ?_
      refine g_aload_n d_D_tellRace_9 rfl ?_
      refine g_aload_n d_D_tellRace_10 rfl ?_
      refine v_geti (v := nI a) (τ := g) 270 rfl hV (sl_4 hZ.2.1 hg) (by decide) (by decide) fl_D_314 rfl d_D_tellRace_11 rfl ((sf_270r hZ.2.1 hg h3).trans e19) ?_
      refine g_iconst (v := 1) d_D_tellRace_14 (by decide) ?_
      refine g_iadd d_D_tellRace_15 ?_
      refine g_callV (k1 := 3) (n1 := 20) [.int ((nI a) + 1)] cw_D_94 cv_D_fiberAt d_D_tellRace_16 rfl (hV.kdo (sl_0 hZ.2.1) (by decide)) rfl rfl ⟨by simp, by simp⟩ (by first | decide | omega) (by first | decide | omega) (by first | decide | omega) (fun _ _ h => h) (s_fiberInx ⟨hV, hZ.2⟩ hb (nI_1 a)) (fun r_ M h_ hfr_ => ?_)
      obtain ⟨rfl, hV⟩ := h_
      refine g_astore d_D_tellRace_19 (by decide) ?_
      refine g_aload_n d_D_tellRace_21 rfl ?_
      refine g_ifnull 41 d_D_tellRace_22 (by decide) (fun c_22 => ?_) (fun a_22 c_22 => ?_)
      · exact absurd (Eq.trans (Eq.symm (rfl : some (ad S 4 a) = some _)) c_22) (by simp)
      · skip
        refine g_aload d_D_tellRace_25 rfl ?_
        refine g_ifnull 41 d_D_tellRace_27 (by decide) (fun c_27 => ?_) (fun a_27 c_27 => ?_)
        · exact absurd (Eq.trans (Eq.symm (rfl : some (ad S 4 (a + 1)) = some _)) c_27) (by simp)
        · skip
          refine g_aload_n d_D_tellRace_30 rfl ?_
          refine g_aload_n d_D_tellRace_31 rfl ?_
          refine g_acmp_eq 42 d_D_tellRace_32 (by decide) (fun c_32 => ?_) (fun c_32 => ?_)
          · exact absurd c_32 (fun h => VM.apart hZ.1 (sl_4 hZ.2.1 ha) (sl_4 hZ.2.1 hb) (by omega) (Option.some.inj h))
          · skip
            refine g_aload_n d_D_tellRace_35 rfl ?_
            refine g_aload d_D_tellRace_36 rfl ?_
            refine g_acmp_eq 42 d_D_tellRace_38 (by decide) (fun c_38 => ?_) (fun c_38 => ?_)
            · skip
              refine g_aload_n d_D_tellRace_42 rfl ?_
              refine g_aload_n d_D_tellRace_43 rfl ?_
              refine g_acmp_ne 52 d_D_tellRace_44 (by decide) (fun c_44 => ?_) (fun c_44 => ?_)
              · skip
                refine g_aload_n d_D_tellRace_52 rfl ?_
                refine g_astore d_D_tellRace_53 (by decide) ?_
                refine g_aload d_D_tellRace_55 rfl ?_
                refine v_geti (v := 1) (τ := a) 262 rfl hV (sl_4 hZ.2.1 ha) (by decide) (by decide) fl_D_98 rfl d_D_tellRace_57 rfl ((sf_262 hZ.2.1 ha).trans (by rw [h2]; rfl)) ?_
                refine g_if_eq 93 d_D_tellRace_60 (by decide) (fun c_60 => ?_) (fun c_60 => ?_)
                · exact absurd c_60 (by decide)
                · skip
                  refine g_aload_n d_D_tellRace_63 rfl ?_
                  refine g_aload_n d_D_tellRace_64 rfl ?_
                  refine g_aload_n d_D_tellRace_65 rfl ?_
                  refine g_aload d_D_tellRace_66 rfl ?_
                  refine g_aload d_D_tellRace_68 rfl ?_
                  refine v_getr (v := some co) (τ := a) 261 rfl hV (sl_4 hZ.2.1 ha) (by decide) (by decide) fl_D_136 rfl d_D_tellRace_70 rfl eo ?_
                  refine g_ifnonnull 81 d_D_tellRace_73 (by decide) (fun a_73 c_73 => ?_) (fun c_73 => ?_)
                  · skip
                    refine g_aload_n d_D_tellRace_81 rfl ?_
                    refine g_callV (k1 := 0) (n1 := 0) [va_rf (some (ad S 4 g)), va_rf (some (ad S 4 a)), va_rf (some (ad S 4 (a + 1))), va_rf (some (ad S 4 (a + 1)))] cw_D_327 cv_D_giveRaceExit d_D_tellRace_82 rfl (hV.kdo (sl_0 hZ.2.1) (by decide)) rfl rfl ⟨by simp, by simp⟩ (by first | decide | omega) (by first | decide | omega) (by first | decide | omega) (fun _ _ h => h) (s_D_giveRaceExit_c ⟨hV, hZ.2⟩ hg ha hb hb hn h5f h14f h2 h14 h5f h14f hga hgb rfl rfl rfl rfl rfl) (fun r_ M h_ hfr_ => ?_)
                    obtain ⟨rfl, S1, hZ1, hA1, ha1, hb1⟩ := h_
                    have hk1 : Kp P S S1 := Kp.of ha1 hb1
                    have hle1 : nfb P ≤ nfb (rjP P g a (a + 1)) := (by unfold nfb; rw [rjP_5 hZ.2.2.1 hga hgb (by decide)]; exact Nat.le_refl _)
                    have hK1 : Kp P S S1 := Kp.trans (Kp.refl P S) hk1 (Nat.le_refl _)
                    have hi1_0 : g < nfb (rjP P g a (a + 1)) := Nat.lt_of_lt_of_le hg hle1
                    have hi1_1 : a < nfb (rjP P g a (a + 1)) := Nat.lt_of_lt_of_le ha hle1
                    have hi1_2 : (a + 1) < nfb (rjP P g a (a + 1)) := Nat.lt_of_lt_of_le hb hle1
                    have hV := hZ1.1
                    refine g_aload_n d_D_tellRace_85 rfl ?_
                    refine g_aload_n d_D_tellRace_86 rfl ?_
                    refine g_callV (k1 := 0) (n1 := 0) [va_rf (some (ad S 4 g))] cw_D_233 cv_D_goOn d_D_tellRace_87 (ad_k rfl (hk1.1 0 0 (by decide) (by decide) (sl_0 hZ.2.1))) (hV.kdo (sl_0 hZ1.2.1) (by decide)) rfl rfl ⟨by simp, by simp⟩ (by first | decide | omega) (by first | decide | omega) (by first | decide | omega) (fun _ _ h => h) (s_D_goOn hZ1 hi1_0 ((rjP_5 hZ.2.2.1 hga hgb (by decide)).trans g5) (Or.inr hA1) (by rw [rjP_5 hZ.2.2.1 hga hgb (by decide)]; exact hq) (ad_k rfl (hk1.2.1 g hg))) (fun r_ M h_ hfr_ => ?_)
                    obtain ⟨rfl, S2, hZ2, ha2, hb2⟩ := h_
                    have hk2 : Kp (rjP P g a (a + 1)) S1 S2 := Kp.of ha2 hb2
                    have hle2 : nfb P ≤ nfb (p_R_wake (rjP P g a (a + 1)) g) := hle1
                    have hK2 : Kp P S S2 := Kp.trans hK1 hk2 hle1
                    have hi2_0 : g < nfb (p_R_wake (rjP P g a (a + 1)) g) := Nat.lt_of_lt_of_le hg hle2
                    have hi2_1 : a < nfb (p_R_wake (rjP P g a (a + 1)) g) := Nat.lt_of_lt_of_le ha hle2
                    have hi2_2 : (a + 1) < nfb (p_R_wake (rjP P g a (a + 1)) g) := Nat.lt_of_lt_of_le hb hle2
                    have hV := hZ2.1
                    refine g_goto 110 d_D_tellRace_90 (by decide) ?_
                    refine g_return d_D_tellRace_110 rfl ⟨rfl, S2, ?_, ha2.trans ha1, hb2.trans hb1⟩
                    rw [show p_h149 P g (a + 1) a = p_R_wake (rjP P g a (a + 1)) g by unfold p_h149 p_h175 p_h226 rjP; rw [if_pos h2, if_pos (r3 h2 h14 h14f), e19, tn_nI (by omega), hand_o P hga (by decide), e20, tn_nI (by omega)], show rcL2 P LL g (a + 1) a = (upL LL 0 (LL 0 ++ [g])) by unfold rcL2; rw [if_pos h2]]
                    exact hZ2
                  · exact absurd (Eq.trans (Eq.symm (rfl : some co = some _)) c_73) (by simp)
              · exact absurd c_44 (fun h => VM.apart hZ.1 (sl_4 hZ.2.1 ha) (sl_4 hZ.2.1 hb) (by omega) (Option.some.inj h))
            · exact absurd c_38 (fun h => h rfl)
  by_cases h14f : P 14 (a + 1) = 0
  · skip
    refine g_aload_n d_D_tellRace_0 rfl ?_
    refine g_aload_n d_D_tellRace_1 rfl ?_
    refine v_geti (v := nI a) (τ := g) 270 rfl hV (sl_4 hZ.2.1 hg) (by decide) (by decide) fl_D_314 rfl d_D_tellRace_2 rfl ((sf_270r hZ.2.1 hg h3).trans e19) ?_
    refine g_callV (k1 := 0) (n1 := 0) [.int (nI a)] cw_D_94 cv_D_fiberAt d_D_tellRace_5 rfl (hV.kdo (sl_0 hZ.2.1) (by decide)) rfl rfl ⟨by simp, by simp⟩ (by first | decide | omega) (by first | decide | omega) (by first | decide | omega) (fun _ _ h => h) (s_fiberInx ⟨hV, hZ.2⟩ ha rfl) (fun r_ M h_ hfr_ => ?_)
    obtain ⟨rfl, hV⟩ := h_
    refine g_astore_n d_D_tellRace_8 (by decide) ?_
    refine g_aload_n d_D_tellRace_9 rfl ?_
    refine g_aload_n d_D_tellRace_10 rfl ?_
    refine v_geti (v := nI a) (τ := g) 270 rfl hV (sl_4 hZ.2.1 hg) (by decide) (by decide) fl_D_314 rfl d_D_tellRace_11 rfl ((sf_270r hZ.2.1 hg h3).trans e19) ?_
    refine g_iconst (v := 1) d_D_tellRace_14 (by decide) ?_
    refine g_iadd d_D_tellRace_15 ?_
    refine g_callV (k1 := 0) (n1 := 0) [.int ((nI a) + 1)] cw_D_94 cv_D_fiberAt d_D_tellRace_16 rfl (hV.kdo (sl_0 hZ.2.1) (by decide)) rfl rfl ⟨by simp, by simp⟩ (by first | decide | omega) (by first | decide | omega) (by first | decide | omega) (fun _ _ h => h) (s_fiberInx ⟨hV, hZ.2⟩ hb (nI_1 a)) (fun r_ M h_ hfr_ => ?_)
    obtain ⟨rfl, hV⟩ := h_
    refine g_astore d_D_tellRace_19 (by decide) ?_
    refine g_aload_n d_D_tellRace_21 rfl ?_
    refine g_ifnull 41 d_D_tellRace_22 (by decide) (fun c_22 => ?_) (fun a_22 c_22 => ?_)
    · exact absurd (Eq.trans (Eq.symm (rfl : some (ad S 4 a) = some _)) c_22) (by simp)
    · skip
      refine g_aload d_D_tellRace_25 rfl ?_
      refine g_ifnull 41 d_D_tellRace_27 (by decide) (fun c_27 => ?_) (fun a_27 c_27 => ?_)
      · exact absurd (Eq.trans (Eq.symm (rfl : some (ad S 4 (a + 1)) = some _)) c_27) (by simp)
      · skip
        refine g_aload_n d_D_tellRace_30 rfl ?_
        refine g_aload_n d_D_tellRace_31 rfl ?_
        refine g_acmp_eq 42 d_D_tellRace_32 (by decide) (fun c_32 => ?_) (fun c_32 => ?_)
        · exact absurd c_32 (fun h => VM.apart hZ.1 (sl_4 hZ.2.1 ha) (sl_4 hZ.2.1 hb) (by omega) (Option.some.inj h))
        · skip
          refine g_aload_n d_D_tellRace_35 rfl ?_
          refine g_aload d_D_tellRace_36 rfl ?_
          refine g_acmp_eq 42 d_D_tellRace_38 (by decide) (fun c_38 => ?_) (fun c_38 => ?_)
          · skip
            refine g_aload_n d_D_tellRace_42 rfl ?_
            refine g_aload_n d_D_tellRace_43 rfl ?_
            refine g_acmp_ne 52 d_D_tellRace_44 (by decide) (fun c_44 => ?_) (fun c_44 => ?_)
            · skip
              refine g_aload_n d_D_tellRace_52 rfl ?_
              refine g_astore d_D_tellRace_53 (by decide) ?_
              refine g_aload d_D_tellRace_55 rfl ?_
              refine v_geti (v := 0) (τ := a) 262 rfl hV (sl_4 hZ.2.1 ha) (by decide) (by decide) fl_D_98 rfl d_D_tellRace_57 rfl ((sf_262 hZ.2.1 ha).trans (by unfold endI; rw [if_neg h2])) ?_
              refine g_if_eq 93 d_D_tellRace_60 (by decide) (fun c_60 => ?_) (fun c_60 => ?_)
              · skip
                refine g_aload_n d_D_tellRace_93 rfl ?_
                refine v_getr (v := none) (τ := (a + 1)) 261 rfl hV (sl_4 hZ.2.1 hb) (by decide) (by decide) fl_D_136 rfl d_D_tellRace_94 rfl ((sf_exit hZ.2.1 hb h5f).1 h14f).1 ?_
                refine g_ifnonnull 110 d_D_tellRace_97 (by decide) (fun a_97 c_97 => ?_) (fun c_97 => ?_)
                · exact absurd c_97 (by simp)
                · skip
                  refine g_aload_n d_D_tellRace_100 rfl ?_
                  refine g_aload d_D_tellRace_101 rfl ?_
                  refine g_aload_n d_D_tellRace_103 rfl ?_
                  refine v_geti (v := nI g) (τ := g) 256 rfl hV (sl_4 hZ.2.1 hg) (by decide) (by decide) fl_D_173 rfl d_D_tellRace_104 rfl (sf_256 hZ.2.1 hg) ?_
                  refine g_callV (k1 := 0) (n1 := 0) [va_rf (some (ad S 4 a)), .int (nI g)] cw_D_102 cv_D_sendInterrupt d_D_tellRace_107 rfl (hV.kdo (sl_0 hZ.2.1) (by decide)) rfl rfl ⟨by simp, by simp⟩ (by first | decide | omega) (by first | decide | omega) (by first | decide | omega) (fun _ _ h => h) (s_D_sendInterrupt ⟨hV, hZ.2⟩ ha (nI g) h6 h15o h16 (fun _ => hq) rfl) (fun r_ M h_ hfr_ => ?_)
                  obtain ⟨rfl, S1, hZ1, ha1, hb1⟩ := h_
                  have hk1 : Kp P S S1 := Kp.of ha1 hb1
                  have hle1 : nfb P ≤ nfb (p_R_strike P a (nI g)) := (by rw [nfb_strike]; exact Nat.le_refl _)
                  have hK1 : Kp P S S1 := Kp.trans (Kp.refl P S) hk1 (Nat.le_refl _)
                  have hi1_0 : g < nfb (p_R_strike P a (nI g)) := Nat.lt_of_lt_of_le hg hle1
                  have hi1_1 : a < nfb (p_R_strike P a (nI g)) := Nat.lt_of_lt_of_le ha hle1
                  have hi1_2 : (a + 1) < nfb (p_R_strike P a (nI g)) := Nat.lt_of_lt_of_le hb hle1
                  have hV := hZ1.1
                  refine g_return d_D_tellRace_110 rfl ⟨rfl, S1, ?_, ha1, hb1⟩
                  unfold p_h149 rcL2; rw [if_neg h2, if_neg h2, if_pos h14f, if_pos h14f]
                  exact hZ1
              · exact absurd c_60 (by decide)
            · exact absurd c_44 (fun h => VM.apart hZ.1 (sl_4 hZ.2.1 ha) (sl_4 hZ.2.1 hb) (by omega) (Option.some.inj h))
          · exact absurd c_38 (fun h => h rfl)
  · obtain ⟨cf, ef, kf⟩ := (sf_exit hZ.2.1 hb h5f).2 h14f
    refine g_aload_n d_D_tellRace_0 rfl ?_
    refine g_aload_n d_D_tellRace_1 rfl ?_
    refine v_geti (v := nI a) (τ := g) 270 rfl hV (sl_4 hZ.2.1 hg) (by decide) (by decide) fl_D_314 rfl d_D_tellRace_2 rfl ((sf_270r hZ.2.1 hg h3).trans e19) ?_
    refine g_callV (k1 := 0) (n1 := 0) [.int (nI a)] cw_D_94 cv_D_fiberAt d_D_tellRace_5 rfl (hV.kdo (sl_0 hZ.2.1) (by decide)) rfl rfl ⟨by simp, by simp⟩ (by first | decide | omega) (by first | decide | omega) (by first | decide | omega) (fun _ _ h => h) (s_fiberInx ⟨hV, hZ.2⟩ ha rfl) (fun r_ M h_ hfr_ => ?_)
    obtain ⟨rfl, hV⟩ := h_
    refine g_astore_n d_D_tellRace_8 (by decide) ?_
    refine g_aload_n d_D_tellRace_9 rfl ?_
    refine g_aload_n d_D_tellRace_10 rfl ?_
    refine v_geti (v := nI a) (τ := g) 270 rfl hV (sl_4 hZ.2.1 hg) (by decide) (by decide) fl_D_314 rfl d_D_tellRace_11 rfl ((sf_270r hZ.2.1 hg h3).trans e19) ?_
    refine g_iconst (v := 1) d_D_tellRace_14 (by decide) ?_
    refine g_iadd d_D_tellRace_15 ?_
    refine g_callV (k1 := 0) (n1 := 0) [.int ((nI a) + 1)] cw_D_94 cv_D_fiberAt d_D_tellRace_16 rfl (hV.kdo (sl_0 hZ.2.1) (by decide)) rfl rfl ⟨by simp, by simp⟩ (by first | decide | omega) (by first | decide | omega) (by first | decide | omega) (fun _ _ h => h) (s_fiberInx ⟨hV, hZ.2⟩ hb (nI_1 a)) (fun r_ M h_ hfr_ => ?_)
    obtain ⟨rfl, hV⟩ := h_
    refine g_astore d_D_tellRace_19 (by decide) ?_
    refine g_aload_n d_D_tellRace_21 rfl ?_
    refine g_ifnull 41 d_D_tellRace_22 (by decide) (fun c_22 => ?_) (fun a_22 c_22 => ?_)
    · exact absurd (Eq.trans (Eq.symm (rfl : some (ad S 4 a) = some _)) c_22) (by simp)
    · skip
      refine g_aload d_D_tellRace_25 rfl ?_
      refine g_ifnull 41 d_D_tellRace_27 (by decide) (fun c_27 => ?_) (fun a_27 c_27 => ?_)
      · exact absurd (Eq.trans (Eq.symm (rfl : some (ad S 4 (a + 1)) = some _)) c_27) (by simp)
      · skip
        refine g_aload_n d_D_tellRace_30 rfl ?_
        refine g_aload_n d_D_tellRace_31 rfl ?_
        refine g_acmp_eq 42 d_D_tellRace_32 (by decide) (fun c_32 => ?_) (fun c_32 => ?_)
        · exact absurd c_32 (fun h => VM.apart hZ.1 (sl_4 hZ.2.1 ha) (sl_4 hZ.2.1 hb) (by omega) (Option.some.inj h))
        · skip
          refine g_aload_n d_D_tellRace_35 rfl ?_
          refine g_aload d_D_tellRace_36 rfl ?_
          refine g_acmp_eq 42 d_D_tellRace_38 (by decide) (fun c_38 => ?_) (fun c_38 => ?_)
          · skip
            refine g_aload_n d_D_tellRace_42 rfl ?_
            refine g_aload_n d_D_tellRace_43 rfl ?_
            refine g_acmp_ne 52 d_D_tellRace_44 (by decide) (fun c_44 => ?_) (fun c_44 => ?_)
            · skip
              refine g_aload_n d_D_tellRace_52 rfl ?_
              refine g_astore d_D_tellRace_53 (by decide) ?_
              refine g_aload d_D_tellRace_55 rfl ?_
              refine v_geti (v := 0) (τ := a) 262 rfl hV (sl_4 hZ.2.1 ha) (by decide) (by decide) fl_D_98 rfl d_D_tellRace_57 rfl ((sf_262 hZ.2.1 ha).trans (by unfold endI; rw [if_neg h2])) ?_
              refine g_if_eq 93 d_D_tellRace_60 (by decide) (fun c_60 => ?_) (fun c_60 => ?_)
              · skip
                refine g_aload_n d_D_tellRace_93 rfl ?_
                refine v_getr (v := some cf) (τ := (a + 1)) 261 rfl hV (sl_4 hZ.2.1 hb) (by decide) (by decide) fl_D_136 rfl d_D_tellRace_94 rfl ef ?_
                refine g_ifnonnull 110 d_D_tellRace_97 (by decide) (fun a_97 c_97 => ?_) (fun c_97 => ?_)
                · skip
                  refine g_return d_D_tellRace_110 rfl ⟨rfl, S, ?_, rfl, rfl⟩
                  unfold p_h149 rcL2; rw [if_neg h2, if_neg h2, if_neg h14f, if_neg h14f]
                  exact ⟨hV, hZ.2⟩
                · exact absurd (Eq.trans (Eq.symm (rfl : some cf = some _)) c_97) (by simp)
              · exact absurd c_60 (by decide)
            · exact absurd c_44 (fun h => VM.apart hZ.1 (sl_4 hZ.2.1 ha) (sl_4 hZ.2.1 hb) (by omega) (Option.some.inj h))
          · exact absurd c_38 (fun h => h rfl)
set_option maxHeartbeats 1000000 in
set_option maxRecDepth 100000 in
theorem s_D_tellRace_o {P : Pst} {LL : Lls} {S : Gs} {M : Mm} (hZ : Zt P LL S M) {g a : Nat} (hg : g < nfb P) (ha : a < nfb P) (hb : a + 1 < nfb P) (hga : ¬ g = a) (hgb : ¬ g = a + 1) (h3 : P 15 g = 3) (g5 : P 5 g = 1) (e19 : P 19 g = nI a) (e20 : P 20 g = nI (a + 1)) (hq : tn (P 43 0) < 10) {f : Nat} (hf : f < nfb P) (hfa : ¬ f = a) (hfb : ¬ f = a + 1) {og uf : Option Nat} (hog : og = some (ad S 4 g)) (huf : uf = some (ad S 4 f)) : Run m_D_tellRace ownC 4 3 20 [va_rf (some (ad S 0 0)), va_rf og, va_rf uf] M (fun r M' => r = none ∧ ∃ S', Zt (P) (LL) S' M' ∧ ad S' = ad S ∧ lv S' = lv S) := by
  subst hog
  subst huf
  have hV := hZ.1
  refine Run.ofG (by decide) (by simp [cat_int, cat_rf]) (Nat.le_of_ble_eq_true rfl) ?_
  refine g_aload_n d_D_tellRace_0 rfl ?_
  refine g_aload_n d_D_tellRace_1 rfl ?_
  refine v_geti (v := nI a) (τ := g) 270 rfl hV (sl_4 hZ.2.1 hg) (by decide) (by decide) fl_D_314 rfl d_D_tellRace_2 rfl ((sf_270r hZ.2.1 hg h3).trans e19) ?_
  refine g_callV (k1 := 0) (n1 := 0) [.int (nI a)] cw_D_94 cv_D_fiberAt d_D_tellRace_5 rfl (hV.kdo (sl_0 hZ.2.1) (by decide)) rfl rfl ⟨by simp, by simp⟩ (by first | decide | omega) (by first | decide | omega) (by first | decide | omega) (fun _ _ h => h) (s_fiberInx ⟨hV, hZ.2⟩ ha rfl) (fun r_ M h_ hfr_ => ?_)
  obtain ⟨rfl, hV⟩ := h_
  refine g_astore_n d_D_tellRace_8 (by decide) ?_
  refine g_aload_n d_D_tellRace_9 rfl ?_
  refine g_aload_n d_D_tellRace_10 rfl ?_
  refine v_geti (v := nI a) (τ := g) 270 rfl hV (sl_4 hZ.2.1 hg) (by decide) (by decide) fl_D_314 rfl d_D_tellRace_11 rfl ((sf_270r hZ.2.1 hg h3).trans e19) ?_
  refine g_iconst (v := 1) d_D_tellRace_14 (by decide) ?_
  refine g_iadd d_D_tellRace_15 ?_
  refine g_callV (k1 := 0) (n1 := 0) [.int ((nI a) + 1)] cw_D_94 cv_D_fiberAt d_D_tellRace_16 rfl (hV.kdo (sl_0 hZ.2.1) (by decide)) rfl rfl ⟨by simp, by simp⟩ (by first | decide | omega) (by first | decide | omega) (by first | decide | omega) (fun _ _ h => h) (s_fiberInx ⟨hV, hZ.2⟩ hb (nI_1 a)) (fun r_ M h_ hfr_ => ?_)
  obtain ⟨rfl, hV⟩ := h_
  refine g_astore d_D_tellRace_19 (by decide) ?_
  refine g_aload_n d_D_tellRace_21 rfl ?_
  refine g_ifnull 41 d_D_tellRace_22 (by decide) (fun c_22 => ?_) (fun a_22 c_22 => ?_)
  · exact absurd (Eq.trans (Eq.symm (rfl : some (ad S 4 a) = some _)) c_22) (by simp)
  · skip
    refine g_aload d_D_tellRace_25 rfl ?_
    refine g_ifnull 41 d_D_tellRace_27 (by decide) (fun c_27 => ?_) (fun a_27 c_27 => ?_)
    · exact absurd (Eq.trans (Eq.symm (rfl : some (ad S 4 (a + 1)) = some _)) c_27) (by simp)
    · skip
      refine g_aload_n d_D_tellRace_30 rfl ?_
      refine g_aload_n d_D_tellRace_31 rfl ?_
      refine g_acmp_eq 42 d_D_tellRace_32 (by decide) (fun c_32 => ?_) (fun c_32 => ?_)
      · exact absurd c_32 (fun h => VM.apart hZ.1 (sl_4 hZ.2.1 ha) (sl_4 hZ.2.1 hf) (by omega) (Option.some.inj h))
      · skip
        refine g_aload_n d_D_tellRace_35 rfl ?_
        refine g_aload d_D_tellRace_36 rfl ?_
        refine g_acmp_eq 42 d_D_tellRace_38 (by decide) (fun c_38 => ?_) (fun c_38 => ?_)
        · exact absurd c_38 (fun h => VM.apart hZ.1 (sl_4 hZ.2.1 hb) (sl_4 hZ.2.1 hf) (by omega) (Option.some.inj h))
        · skip
          exact g_return d_D_tellRace_41 rfl ⟨rfl, S, ⟨hV, hZ.2⟩, rfl, rfl⟩
