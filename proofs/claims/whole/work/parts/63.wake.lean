/-! waking sleepers (by program: wip/tools/gen_s20.py) -/
def it_bL (lst : Int32) (P : Pst) (LL : Lls) : Nat → Lls
  | 0 => LL
  | j + 1 => if it_b lst P j 5 j = 1 ∧ it_b lst P j 15 j = 4 ∧ it_b lst P j 16 j = lst then upL (it_bL lst P LL j) 0 (it_bL lst P LL j 0 ++ [j]) else it_bL lst P LL j
def BOK (Q : Pst) (j : Nat) : Prop := (Q 5 j = 1 ↔ ¬ Q 15 j = 0) ∧ (Q 5 j = 1 → tn (Q 43 0) < 10)
theorem nfb_b (lst : Int32) (P : Pst) (j : Nat) : nfb (it_b lst P j) = nfb P := by unfold nfb; rw [b_42]
theorem b_s (lst : Int32) (P : Pst) (j : Nat) : it_b lst P (j + 1) = if it_b lst P j 5 j = 1 ∧ it_b lst P j 15 j = 4 ∧ it_b lst P j 16 j = lst then p_R_wake (p_R_give (it_b lst P j) j (it_b lst P j 17 j)) j else it_b lst P j := by
  show (if it_b lst P j 5 j = 1 then (if it_b lst P j 15 j = 4 then (if it_b lst P j 16 j = lst then p_R_wake (p_R_give (it_b lst P j) j (it_b lst P j 17 j)) j else it_b lst P j) else it_b lst P j) else it_b lst P j) = _
  by_cases a : it_b lst P j 5 j = 1
  · rw [if_pos a]
    by_cases b : it_b lst P j 15 j = 4
    · rw [if_pos b]
      by_cases c : it_b lst P j 16 j = lst
      · rw [if_pos c, if_pos ⟨a, b, c⟩]
      · rw [if_neg c, if_neg (fun q => c q.2.2)]
    · rw [if_neg b, if_neg (fun q => b q.2.1)]
  · rw [if_neg a, if_neg (fun q => a q.1)]
def fdI (x : Int32) : Int32 := if x < 0 then 0 else 1
def lsI (x : Int32) : Int32 := if x < 0 then 0 else x
theorem fd_0 {x : Int32} : fdI x = 0 ↔ x < 0 := by
  unfold fdI
  split
  · rename_i h; exact ⟨fun _ => h, fun _ => rfl⟩
  · rename_i h; exact ⟨fun q => absurd q (by decide), fun q => absurd q h⟩
theorem ls_s (P : Pst) (j : Nat) : ls P (j + 1) = if P 5 j = 1 then (if P 15 j = 4 then (if ls P j < 0 then P 16 j else if ls P j ≤ P 16 j then ls P j else P 16 j) else ls P j) else ls P j := rfl
set_option maxHeartbeats 1000000 in
set_option maxRecDepth 100000 in
theorem l_b {P1 : Pst} {LL : Lls} {S : Gs} {M0 : Mm} {lst : Int32} (hN : nfb P1 ≤ 10) (hB : ∀ j, j < nfb P1 → BOK (it_b lst P1 j) j) : ∀ (r j : Nat) (S1 : Gs) (M : Mm) (fd : Int32) (X : Option Value) (kb nb : Nat), j + r = nfb P1 → Zt (it_b lst P1 j) (it_bL lst P1 LL j) S1 M → ad S1 = ad S → lv S1 = lv S → G m_D_wakeSleepers ownC M0 (fun r M' => r = none ∧ ∃ S', Zt (it_b lst P1 (nfb P1)) (it_bL lst P1 LL (nfb P1)) S' M' ∧ ad S' = ad S ∧ lv S' = lv S) 2 kb nb M 74 [some (va_rf (some (ad S 0 0))), some (.int fd), some (.int lst), some (.int (nI j)), X] []
  | 0, j, S1, M, fd, X, kb, nb, hr, hZ1, hA1, hB1 => by
    have hV := hZ1.1
    have ej : j = nfb P1 := by omega
    refine g_iload_n d_D_wakeSleepers_74 rfl ?_
    refine g_aload_n d_D_wakeSleepers_75 rfl ?_
    refine v_geti (v := nI (nfb P1)) (τ := 0) 3 rfl hV (sl_0 hZ1.2.1) (by decide) (by decide) fl_D_25 rfl d_D_wakeSleepers_76 (ad_e hA1) ((sd_3 hZ1.2.1).trans ((nf_nI hZ1.2.2.1).trans (congrArg nI (nfb_b lst P1 j)))) ?_
    refine g_icmp_ge 124 d_D_wakeSleepers_79 (by decide) (fun c_79 => ?_) (fun c_79 => ?_)
    · skip
      exact g_return d_D_wakeSleepers_124 rfl ⟨rfl, S1, by rw [← ej]; exact ⟨hV, hZ1.2⟩, hA1, hB1⟩
    · exact absurd c_79 (fun h => h (by rw [ej]; exact Int32.le_refl _))
  | r + 1, j, S1, M, fd, X, kb, nb, hr, hZ1, hA1, hB1 => by
    have hV := hZ1.1
    have hlt : j < nfb P1 := by omega
    have hj1 : j < nfb (it_b lst P1 j) := by rw [nfb_b]; exact hlt
    have ok := hB j hlt
    by_cases hc : (it_b lst P1 j) 5 j = 1 ∧ (it_b lst P1 j) 15 j = 4 ∧ (it_b lst P1 j) 16 j = lst
    · skip
      refine g_iload_n d_D_wakeSleepers_74 rfl ?_
      refine g_aload_n d_D_wakeSleepers_75 rfl ?_
      refine v_geti (v := nI (nfb P1)) (τ := 0) 3 rfl hV (sl_0 hZ1.2.1) (by decide) (by decide) fl_D_25 rfl d_D_wakeSleepers_76 (ad_e hA1) ((sd_3 hZ1.2.1).trans ((nf_nI hZ1.2.2.1).trans (congrArg nI (nfb_b lst P1 j)))) ?_
      refine g_icmp_ge 124 d_D_wakeSleepers_79 (by decide) (fun c_79 => ?_) (fun c_79 => ?_)
      · exact absurd c_79 (ix_nle rfl rfl hlt (by omega))
      · skip
        refine g_aload_n d_D_wakeSleepers_82 rfl ?_
        refine g_iload_n d_D_wakeSleepers_83 rfl ?_
        refine g_callV (k1 := kb) (n1 := nb) [.int (nI j)] cw_D_94 cv_D_fiberAt d_D_wakeSleepers_84 (ad_e hA1) (hV.kdo (sl_0 hZ1.2.1) (by decide)) rfl rfl ⟨by simp, by simp⟩ (by first | decide | omega) (by first | decide | omega) (by first | decide | omega) (fun _ _ h => h) (s_fiberInx ⟨hV, hZ1.2⟩ hj1 rfl) (fun r_ M h_ hfr_ => ?_)
        obtain ⟨rfl, hV⟩ := h_
        refine g_astore d_D_wakeSleepers_87 (by decide) ?_
        refine g_aload d_D_wakeSleepers_89 rfl ?_
        refine g_ifnull 118 d_D_wakeSleepers_91 (by decide) (fun c_91 => ?_) (fun a_91 c_91 => ?_)
        · exact absurd (Eq.trans (Eq.symm (rfl : some (ad S1 4 j) = some _)) c_91) (by simp)
        · skip
          refine g_aload d_D_wakeSleepers_94 rfl ?_
          refine v_geti (v := 4) (τ := j) 269 rfl hV (sl_4 hZ1.2.1 hj1) (by decide) (by decide) fl_D_133 rfl d_D_wakeSleepers_96 rfl ((sf_269 hZ1.2.1 hj1).trans hc.2.1) ?_
          refine g_iconst (v := 4) d_D_wakeSleepers_99 (by decide) ?_
          refine g_icmp_ne 118 d_D_wakeSleepers_100 (by decide) (fun c_100 => ?_) (fun c_100 => ?_)
          · exact absurd c_100 (by decide)
          · skip
            refine g_aload d_D_wakeSleepers_103 rfl ?_
            refine v_geti (v := (it_b lst P1 j) 16 j) (τ := j) 271 rfl hV (sl_4 hZ1.2.1 hj1) (by decide) (by decide) fl_D_230 rfl d_D_wakeSleepers_105 rfl (sf_271 hZ1.2.1 hj1 hc.2.1) ?_
            refine g_iload_n d_D_wakeSleepers_108 rfl ?_
            refine g_icmp_ne 118 d_D_wakeSleepers_109 (by decide) (fun c_109 => ?_) (fun c_109 => ?_)
            · exact absurd (show (it_b lst P1 j) 16 j = lst from hc.2.2) c_109
            · skip
              have hZ2 : Zt (p_R_give (it_b lst P1 j) j ((it_b lst P1 j) 17 j)) (it_bL lst P1 LL j) S1 _ := ⟨hV, hZ1.2.1.giveW hZ1.2.2.1 hj1 hc.1 _, wb_give hZ1.2.2.1 j _, hZ1.2.2.2⟩
              have hA2 : ActR (p_R_give (it_b lst P1 j) j ((it_b lst P1 j) 17 j)) S1 j := hZ1.2.1.giveA hj1 hc.1 (Or.inr (Or.inl hc.2.1)) _ (by rw [hc.2.1, if_neg (by decide)])
              refine g_aload_n d_D_wakeSleepers_112 rfl ?_
              refine g_aload d_D_wakeSleepers_113 rfl ?_
              refine g_callV (k1 := kb) (n1 := nb) [va_rf (some (ad S1 4 j))] cw_D_233 cv_D_goOn d_D_wakeSleepers_115 (ad_e hA1) (hV.kdo (sl_0 hZ1.2.1) (by decide)) rfl rfl ⟨by simp, by simp⟩ (by first | decide | omega) (by first | decide | omega) (by first | decide | omega) (fun _ _ h => h) (s_D_goOn hZ2 hj1 hc.1 (Or.inr hA2) (ok.2 hc.1) rfl) (fun r_ M h_ hfr_ => ?_)
              obtain ⟨rfl, S3, hZ3, ha3, hb3⟩ := h_
              refine g_iinc (v := nI (j + 1)) d_D_wakeSleepers_118 rfl (nI_1 _) (by decide) ?_
              refine g_goto 74 d_D_wakeSleepers_121 (by decide) ?_
              have eP : it_b lst P1 (j + 1) = (p_R_wake (p_R_give (it_b lst P1 j) j ((it_b lst P1 j) 17 j)) j) := by rw [b_s, if_pos hc]
              have eL : it_bL lst P1 LL (j + 1) = (upL (it_bL lst P1 LL j) 0 ((it_bL lst P1 LL j) 0 ++ [j])) := if_pos hc
              exact l_b hN hB r (j + 1) S3 M _ _ _ _ (by omega) (by rw [eP, eL]; exact hZ3) (ha3.trans hA1) (hb3.trans hB1)
    · by_cases h4 : (it_b lst P1 j) 15 j = 4
      · have h16 : ¬ (it_b lst P1 j) 16 j = lst := fun q => hc ⟨ok.1.mpr (by rw [h4]; decide), h4, q⟩
        refine g_iload_n d_D_wakeSleepers_74 rfl ?_
        refine g_aload_n d_D_wakeSleepers_75 rfl ?_
        refine v_geti (v := nI (nfb P1)) (τ := 0) 3 rfl hV (sl_0 hZ1.2.1) (by decide) (by decide) fl_D_25 rfl d_D_wakeSleepers_76 (ad_e hA1) ((sd_3 hZ1.2.1).trans ((nf_nI hZ1.2.2.1).trans (congrArg nI (nfb_b lst P1 j)))) ?_
        refine g_icmp_ge 124 d_D_wakeSleepers_79 (by decide) (fun c_79 => ?_) (fun c_79 => ?_)
        · exact absurd c_79 (ix_nle rfl rfl hlt (by omega))
        · skip
          refine g_aload_n d_D_wakeSleepers_82 rfl ?_
          refine g_iload_n d_D_wakeSleepers_83 rfl ?_
          refine g_callV (k1 := kb) (n1 := nb) [.int (nI j)] cw_D_94 cv_D_fiberAt d_D_wakeSleepers_84 (ad_e hA1) (hV.kdo (sl_0 hZ1.2.1) (by decide)) rfl rfl ⟨by simp, by simp⟩ (by first | decide | omega) (by first | decide | omega) (by first | decide | omega) (fun _ _ h => h) (s_fiberInx ⟨hV, hZ1.2⟩ hj1 rfl) (fun r_ M h_ hfr_ => ?_)
          obtain ⟨rfl, hV⟩ := h_
          refine g_astore d_D_wakeSleepers_87 (by decide) ?_
          refine g_aload d_D_wakeSleepers_89 rfl ?_
          refine g_ifnull 118 d_D_wakeSleepers_91 (by decide) (fun c_91 => ?_) (fun a_91 c_91 => ?_)
          · exact absurd (Eq.trans (Eq.symm (rfl : some (ad S1 4 j) = some _)) c_91) (by simp)
          · skip
            refine g_aload d_D_wakeSleepers_94 rfl ?_
            refine v_geti (v := 4) (τ := j) 269 rfl hV (sl_4 hZ1.2.1 hj1) (by decide) (by decide) fl_D_133 rfl d_D_wakeSleepers_96 rfl ((sf_269 hZ1.2.1 hj1).trans h4) ?_
            refine g_iconst (v := 4) d_D_wakeSleepers_99 (by decide) ?_
            refine g_icmp_ne 118 d_D_wakeSleepers_100 (by decide) (fun c_100 => ?_) (fun c_100 => ?_)
            · exact absurd c_100 (by decide)
            · skip
              refine g_aload d_D_wakeSleepers_103 rfl ?_
              refine v_geti (v := (it_b lst P1 j) 16 j) (τ := j) 271 rfl hV (sl_4 hZ1.2.1 hj1) (by decide) (by decide) fl_D_230 rfl d_D_wakeSleepers_105 rfl (sf_271 hZ1.2.1 hj1 h4) ?_
              refine g_iload_n d_D_wakeSleepers_108 rfl ?_
              refine g_icmp_ne 118 d_D_wakeSleepers_109 (by decide) (fun c_109 => ?_) (fun c_109 => ?_)
              · skip
                refine g_iinc (v := nI (j + 1)) d_D_wakeSleepers_118 rfl (nI_1 _) (by decide) ?_
                refine g_goto 74 d_D_wakeSleepers_121 (by decide) ?_
                have eP : it_b lst P1 (j + 1) = (it_b lst P1 j) := by rw [b_s, if_neg hc]
                have eL : it_bL lst P1 LL (j + 1) = (it_bL lst P1 LL j) := if_neg hc
                exact l_b hN hB r (j + 1) S1 M _ _ _ _ (by omega) (by rw [eP, eL]; exact ⟨hV, hZ1.2⟩) hA1 hB1
              · exact absurd (show (it_b lst P1 j) 16 j = lst from c_109) h16
      · skip
        refine g_iload_n d_D_wakeSleepers_74 rfl ?_
        refine g_aload_n d_D_wakeSleepers_75 rfl ?_
        refine v_geti (v := nI (nfb P1)) (τ := 0) 3 rfl hV (sl_0 hZ1.2.1) (by decide) (by decide) fl_D_25 rfl d_D_wakeSleepers_76 (ad_e hA1) ((sd_3 hZ1.2.1).trans ((nf_nI hZ1.2.2.1).trans (congrArg nI (nfb_b lst P1 j)))) ?_
        refine g_icmp_ge 124 d_D_wakeSleepers_79 (by decide) (fun c_79 => ?_) (fun c_79 => ?_)
        · exact absurd c_79 (ix_nle rfl rfl hlt (by omega))
        · skip
          refine g_aload_n d_D_wakeSleepers_82 rfl ?_
          refine g_iload_n d_D_wakeSleepers_83 rfl ?_
          refine g_callV (k1 := kb) (n1 := nb) [.int (nI j)] cw_D_94 cv_D_fiberAt d_D_wakeSleepers_84 (ad_e hA1) (hV.kdo (sl_0 hZ1.2.1) (by decide)) rfl rfl ⟨by simp, by simp⟩ (by first | decide | omega) (by first | decide | omega) (by first | decide | omega) (fun _ _ h => h) (s_fiberInx ⟨hV, hZ1.2⟩ hj1 rfl) (fun r_ M h_ hfr_ => ?_)
          obtain ⟨rfl, hV⟩ := h_
          refine g_astore d_D_wakeSleepers_87 (by decide) ?_
          refine g_aload d_D_wakeSleepers_89 rfl ?_
          refine g_ifnull 118 d_D_wakeSleepers_91 (by decide) (fun c_91 => ?_) (fun a_91 c_91 => ?_)
          · exact absurd (Eq.trans (Eq.symm (rfl : some (ad S1 4 j) = some _)) c_91) (by simp)
          · skip
            refine g_aload d_D_wakeSleepers_94 rfl ?_
            refine v_geti (v := (it_b lst P1 j) 15 j) (τ := j) 269 rfl hV (sl_4 hZ1.2.1 hj1) (by decide) (by decide) fl_D_133 rfl d_D_wakeSleepers_96 rfl (sf_269 hZ1.2.1 hj1) ?_
            refine g_iconst (v := 4) d_D_wakeSleepers_99 (by decide) ?_
            refine g_icmp_ne 118 d_D_wakeSleepers_100 (by decide) (fun c_100 => ?_) (fun c_100 => ?_)
            · skip
              refine g_iinc (v := nI (j + 1)) d_D_wakeSleepers_118 rfl (nI_1 _) (by decide) ?_
              refine g_goto 74 d_D_wakeSleepers_121 (by decide) ?_
              have eP : it_b lst P1 (j + 1) = (it_b lst P1 j) := by rw [b_s, if_neg hc]
              have eL : it_bL lst P1 LL (j + 1) = (it_bL lst P1 LL j) := if_neg hc
              exact l_b hN hB r (j + 1) S1 M _ _ _ _ (by omega) (by rw [eP, eL]; exact ⟨hV, hZ1.2⟩) hA1 hB1
            · exact absurd (show (it_b lst P1 j) 15 j = 4 from c_100) h4
set_option maxHeartbeats 1000000 in
set_option maxRecDepth 100000 in
theorem l_ws {P : Pst} {LL : Lls} {S : Gs} {M M0 : Mm} (hZ : Zt P LL S M) (hS4 : ∀ j, j < nfb P → P 15 j = 4 → ¬ P 16 j < 0) (hI : ∀ j, j < nfb P → (P 5 j = 1 ↔ ¬ P 15 j = 0)) (hB : ¬ ls P (nfb P) < 0 → ∀ j, j < nfb P → BOK (it_b (ls P (nfb P)) (up P 44 0 (ls P (nfb P))) j) j) : ∀ (r j : Nat) (M : Mm) (X : Option Value) (kb nb : Nat), j + r = nfb P → VM S M → G m_D_wakeSleepers ownC M0 (fun r M' => r = none ∧ ∃ S', Zt (if ls P (nfb P) < 0 then P else it_b (ls P (nfb P)) (up P 44 0 (ls P (nfb P))) (nfb P)) (if ls P (nfb P) < 0 then LL else it_bL (ls P (nfb P)) (up P 44 0 (ls P (nfb P))) LL (nfb P)) S' M' ∧ ad S' = ad S ∧ lv S' = lv S) 2 kb nb M 6 [some (va_rf (some (ad S 0 0))), some (.int (fdI (ls P j))), some (.int (lsI (ls P j))), some (.int (nI j)), X] []
  | 0, j, M, X, kb, nb, hr, hV => by
    have h10_ := n10 hZ.2.2.1
    have ej : j = nfb P := by omega
    by_cases hneg : ls P (nfb P) < 0
    · have hf0 : fdI (ls P j) = 0 := by rw [ej]; exact fd_0.mpr hneg
      refine g_iload_n d_D_wakeSleepers_6 rfl ?_
      refine g_aload_n d_D_wakeSleepers_7 rfl ?_
      refine v_geti (v := nI (nfb P)) (τ := 0) 3 rfl hV (sl_0 hZ.2.1) (by decide) (by decide) fl_D_25 rfl d_D_wakeSleepers_8 rfl ((sd_3 hZ.2.1).trans (nf_nI hZ.2.2.1)) ?_
      refine g_icmp_ge 62 d_D_wakeSleepers_11 (by decide) (fun c_11 => ?_) (fun c_11 => ?_)
      · skip
        refine g_iload_n d_D_wakeSleepers_62 rfl ?_
        refine g_if_ne 67 d_D_wakeSleepers_63 (by decide) (fun c_63 => ?_) (fun c_63 => ?_)
        · exact absurd (show fdI (ls P j) = 0 from hf0) c_63
        · skip
          exact g_return d_D_wakeSleepers_66 rfl ⟨rfl, S, by rw [if_pos hneg, if_pos hneg]; exact ⟨hV, hZ.2⟩, rfl, rfl⟩
      · exact absurd c_11 (fun h => h (by rw [ej]; exact Int32.le_refl _))
    · have hf1 : ¬ fdI (ls P j) = 0 := by rw [ej]; exact fun q => hneg (fd_0.mp q)
      have elI : lsI (ls P j) = ls P (nfb P) := by rw [ej]; exact if_neg hneg
      refine g_iload_n d_D_wakeSleepers_6 rfl ?_
      refine g_aload_n d_D_wakeSleepers_7 rfl ?_
      refine v_geti (v := nI (nfb P)) (τ := 0) 3 rfl hV (sl_0 hZ.2.1) (by decide) (by decide) fl_D_25 rfl d_D_wakeSleepers_8 rfl ((sd_3 hZ.2.1).trans (nf_nI hZ.2.2.1)) ?_
      refine g_icmp_ge 62 d_D_wakeSleepers_11 (by decide) (fun c_11 => ?_) (fun c_11 => ?_)
      · skip
        refine g_iload_n d_D_wakeSleepers_62 rfl ?_
        refine g_if_ne 67 d_D_wakeSleepers_63 (by decide) (fun c_63 => ?_) (fun c_63 => ?_)
        · skip
          refine g_aload_n d_D_wakeSleepers_67 rfl ?_
          refine g_iload_n d_D_wakeSleepers_68 rfl ?_
          refine v_puti (τ := 0) 8 rfl hV (sl_0 hZ.2.1) (by decide) (by decide) fl_D_48 (Or.inr (fun r h => by cases h; rfl)) rfl d_D_wakeSleepers_69 rfl (fun M hV => ?_)
          refine g_iconst (v := 0) d_D_wakeSleepers_72 (by decide) ?_
          refine g_istore_n d_D_wakeSleepers_73 (by decide) ?_
          have hZ0 : Zt (up P 44 0 (ls P (nfb P))) LL (ui S 8 0 (lsI (ls P j))) M := by rw [elI] at hV ⊢; exact hZ.dk (Or.inl ⟨rfl, rfl⟩) _ hV
          rw [if_neg hneg, if_neg hneg, elI]
          rw [elI] at hZ0
          exact l_b (P1 := up P 44 0 (ls P (nfb P))) (S := S) h10_ (hB hneg) (nfb P) 0 _ M _ _ _ _ (by rw [Nat.zero_add]; rfl) hZ0 rfl rfl
        · exact absurd (show fdI (ls P j) = 0 from c_63) hf1
      · exact absurd c_11 (fun h => h (by rw [ej]; exact Int32.le_refl _))
  | r + 1, j, M, X, kb, nb, hr, hV => by
    have h10_ := n10 hZ.2.2.1
    have hlt : j < nfb P := by omega
    have hj1 := hlt
    by_cases h4 : P 15 j = 4
    · have g5 : P 5 j = 1 := (hI j hlt).mpr (by rw [h4]; decide)
      by_cases hneg : ls P j < 0
      · skip
        refine g_iload_n d_D_wakeSleepers_6 rfl ?_
        refine g_aload_n d_D_wakeSleepers_7 rfl ?_
        refine v_geti (v := nI (nfb P)) (τ := 0) 3 rfl hV (sl_0 hZ.2.1) (by decide) (by decide) fl_D_25 rfl d_D_wakeSleepers_8 rfl ((sd_3 hZ.2.1).trans (nf_nI hZ.2.2.1)) ?_
        refine g_icmp_ge 62 d_D_wakeSleepers_11 (by decide) (fun c_11 => ?_) (fun c_11 => ?_)
        · exact absurd c_11 (ix_nle rfl rfl hlt (by omega))
        · skip
          refine g_aload_n d_D_wakeSleepers_14 rfl ?_
          refine g_iload_n d_D_wakeSleepers_15 rfl ?_
          refine g_callV (k1 := kb) (n1 := nb) [.int (nI j)] cw_D_94 cv_D_fiberAt d_D_wakeSleepers_16 rfl (hV.kdo (sl_0 hZ.2.1) (by decide)) rfl rfl ⟨by simp, by simp⟩ (by first | decide | omega) (by first | decide | omega) (by first | decide | omega) (fun _ _ h => h) (s_fiberInx ⟨hV, hZ.2⟩ hj1 rfl) (fun r_ M h_ hfr_ => ?_)
          obtain ⟨rfl, hV⟩ := h_
          refine g_astore d_D_wakeSleepers_19 (by decide) ?_
          refine g_aload d_D_wakeSleepers_21 rfl ?_
          refine g_ifnull 56 d_D_wakeSleepers_23 (by decide) (fun c_23 => ?_) (fun a_23 c_23 => ?_)
          · exact absurd (Eq.trans (Eq.symm (rfl : some (ad S 4 j) = some _)) c_23) (by simp)
          · skip
            refine g_aload d_D_wakeSleepers_26 rfl ?_
            refine v_geti (v := 4) (τ := j) 269 rfl hV (sl_4 hZ.2.1 hj1) (by decide) (by decide) fl_D_133 rfl d_D_wakeSleepers_28 rfl ((sf_269 hZ.2.1 hj1).trans h4) ?_
            refine g_iconst (v := 4) d_D_wakeSleepers_31 (by decide) ?_
            refine g_icmp_ne 56 d_D_wakeSleepers_32 (by decide) (fun c_32 => ?_) (fun c_32 => ?_)
            · exact absurd c_32 (by decide)
            · skip
              refine g_iload_n d_D_wakeSleepers_35 rfl ?_
              refine g_if_eq 48 d_D_wakeSleepers_36 (by decide) (fun c_36 => ?_) (fun c_36 => ?_)
              · skip
                refine g_iconst (v := 1) d_D_wakeSleepers_48 (by decide) ?_
                refine g_istore_n d_D_wakeSleepers_49 (by decide) ?_
                refine g_aload d_D_wakeSleepers_50 rfl ?_
                refine v_geti (v := P 16 j) (τ := j) 271 rfl hV (sl_4 hZ.2.1 hj1) (by decide) (by decide) fl_D_230 rfl d_D_wakeSleepers_52 rfl (sf_271 hZ.2.1 hj1 h4) ?_
                refine g_istore_n d_D_wakeSleepers_55 (by decide) ?_
                refine g_iinc (v := nI (j + 1)) d_D_wakeSleepers_56 rfl (nI_1 _) (by decide) ?_
                refine g_goto 6 d_D_wakeSleepers_59 (by decide) ?_
                have e1 : ls P (j + 1) = P 16 j := by rw [ls_s, if_pos g5, if_pos h4, if_pos hneg]
                have ih := l_ws hZ hS4 hI hB (M0 := M0) r (j + 1) M (some (va_rf (some (ad S 4 j)))) kb nb (by omega) hV
                rw [e1] at ih
                rw [show fdI (P 16 j) = 1 from if_neg (hS4 j hlt h4), show lsI (P 16 j) = P 16 j from if_neg (hS4 j hlt h4)] at ih
                exact ih
              · exact absurd (show fdI (ls P j) = 0 from (fd_0.mpr hneg)) c_36
      have elj : lsI (ls P j) = ls P j := if_neg hneg
      by_cases hle : ls P j ≤ P 16 j
      · skip
        refine g_iload_n d_D_wakeSleepers_6 rfl ?_
        refine g_aload_n d_D_wakeSleepers_7 rfl ?_
        refine v_geti (v := nI (nfb P)) (τ := 0) 3 rfl hV (sl_0 hZ.2.1) (by decide) (by decide) fl_D_25 rfl d_D_wakeSleepers_8 rfl ((sd_3 hZ.2.1).trans (nf_nI hZ.2.2.1)) ?_
        refine g_icmp_ge 62 d_D_wakeSleepers_11 (by decide) (fun c_11 => ?_) (fun c_11 => ?_)
        · exact absurd c_11 (ix_nle rfl rfl hlt (by omega))
        · skip
          refine g_aload_n d_D_wakeSleepers_14 rfl ?_
          refine g_iload_n d_D_wakeSleepers_15 rfl ?_
          refine g_callV (k1 := kb) (n1 := nb) [.int (nI j)] cw_D_94 cv_D_fiberAt d_D_wakeSleepers_16 rfl (hV.kdo (sl_0 hZ.2.1) (by decide)) rfl rfl ⟨by simp, by simp⟩ (by first | decide | omega) (by first | decide | omega) (by first | decide | omega) (fun _ _ h => h) (s_fiberInx ⟨hV, hZ.2⟩ hj1 rfl) (fun r_ M h_ hfr_ => ?_)
          obtain ⟨rfl, hV⟩ := h_
          refine g_astore d_D_wakeSleepers_19 (by decide) ?_
          refine g_aload d_D_wakeSleepers_21 rfl ?_
          refine g_ifnull 56 d_D_wakeSleepers_23 (by decide) (fun c_23 => ?_) (fun a_23 c_23 => ?_)
          · exact absurd (Eq.trans (Eq.symm (rfl : some (ad S 4 j) = some _)) c_23) (by simp)
          · skip
            refine g_aload d_D_wakeSleepers_26 rfl ?_
            refine v_geti (v := 4) (τ := j) 269 rfl hV (sl_4 hZ.2.1 hj1) (by decide) (by decide) fl_D_133 rfl d_D_wakeSleepers_28 rfl ((sf_269 hZ.2.1 hj1).trans h4) ?_
            refine g_iconst (v := 4) d_D_wakeSleepers_31 (by decide) ?_
            refine g_icmp_ne 56 d_D_wakeSleepers_32 (by decide) (fun c_32 => ?_) (fun c_32 => ?_)
            · exact absurd c_32 (by decide)
            · skip
              refine g_iload_n d_D_wakeSleepers_35 rfl ?_
              refine g_if_eq 48 d_D_wakeSleepers_36 (by decide) (fun c_36 => ?_) (fun c_36 => ?_)
              · exact absurd (show fdI (ls P j) = 0 from c_36) (fun q => hneg (fd_0.mp q))
              · skip
                refine g_aload d_D_wakeSleepers_39 rfl ?_
                refine v_geti (v := P 16 j) (τ := j) 271 rfl hV (sl_4 hZ.2.1 hj1) (by decide) (by decide) fl_D_230 rfl d_D_wakeSleepers_41 rfl (sf_271 hZ.2.1 hj1 h4) ?_
                refine g_iload_n d_D_wakeSleepers_44 rfl ?_
                refine g_icmp_ge 56 d_D_wakeSleepers_45 (by decide) (fun c_45 => ?_) (fun c_45 => ?_)
                · skip
                  refine g_iinc (v := nI (j + 1)) d_D_wakeSleepers_56 rfl (nI_1 _) (by decide) ?_
                  refine g_goto 6 d_D_wakeSleepers_59 (by decide) ?_
                  have e1 : ls P (j + 1) = ls P j := by rw [ls_s, if_pos g5, if_pos h4, if_neg hneg, if_pos hle]
                  have ih := l_ws hZ hS4 hI hB (M0 := M0) r (j + 1) M (some (va_rf (some (ad S 4 j)))) kb nb (by omega) hV
                  rw [e1] at ih
                  exact ih
                · exact absurd (show lsI (ls P j) ≤ P 16 j from (by rw [elj]; exact hle)) c_45
      · skip
        refine g_iload_n d_D_wakeSleepers_6 rfl ?_
        refine g_aload_n d_D_wakeSleepers_7 rfl ?_
        refine v_geti (v := nI (nfb P)) (τ := 0) 3 rfl hV (sl_0 hZ.2.1) (by decide) (by decide) fl_D_25 rfl d_D_wakeSleepers_8 rfl ((sd_3 hZ.2.1).trans (nf_nI hZ.2.2.1)) ?_
        refine g_icmp_ge 62 d_D_wakeSleepers_11 (by decide) (fun c_11 => ?_) (fun c_11 => ?_)
        · exact absurd c_11 (ix_nle rfl rfl hlt (by omega))
        · skip
          refine g_aload_n d_D_wakeSleepers_14 rfl ?_
          refine g_iload_n d_D_wakeSleepers_15 rfl ?_
          refine g_callV (k1 := kb) (n1 := nb) [.int (nI j)] cw_D_94 cv_D_fiberAt d_D_wakeSleepers_16 rfl (hV.kdo (sl_0 hZ.2.1) (by decide)) rfl rfl ⟨by simp, by simp⟩ (by first | decide | omega) (by first | decide | omega) (by first | decide | omega) (fun _ _ h => h) (s_fiberInx ⟨hV, hZ.2⟩ hj1 rfl) (fun r_ M h_ hfr_ => ?_)
          obtain ⟨rfl, hV⟩ := h_
          refine g_astore d_D_wakeSleepers_19 (by decide) ?_
          refine g_aload d_D_wakeSleepers_21 rfl ?_
          refine g_ifnull 56 d_D_wakeSleepers_23 (by decide) (fun c_23 => ?_) (fun a_23 c_23 => ?_)
          · exact absurd (Eq.trans (Eq.symm (rfl : some (ad S 4 j) = some _)) c_23) (by simp)
          · skip
            refine g_aload d_D_wakeSleepers_26 rfl ?_
            refine v_geti (v := 4) (τ := j) 269 rfl hV (sl_4 hZ.2.1 hj1) (by decide) (by decide) fl_D_133 rfl d_D_wakeSleepers_28 rfl ((sf_269 hZ.2.1 hj1).trans h4) ?_
            refine g_iconst (v := 4) d_D_wakeSleepers_31 (by decide) ?_
            refine g_icmp_ne 56 d_D_wakeSleepers_32 (by decide) (fun c_32 => ?_) (fun c_32 => ?_)
            · exact absurd c_32 (by decide)
            · skip
              refine g_iload_n d_D_wakeSleepers_35 rfl ?_
              refine g_if_eq 48 d_D_wakeSleepers_36 (by decide) (fun c_36 => ?_) (fun c_36 => ?_)
              · exact absurd (show fdI (ls P j) = 0 from c_36) (fun q => hneg (fd_0.mp q))
              · skip
                refine g_aload d_D_wakeSleepers_39 rfl ?_
                refine v_geti (v := P 16 j) (τ := j) 271 rfl hV (sl_4 hZ.2.1 hj1) (by decide) (by decide) fl_D_230 rfl d_D_wakeSleepers_41 rfl (sf_271 hZ.2.1 hj1 h4) ?_
                refine g_iload_n d_D_wakeSleepers_44 rfl ?_
                refine g_icmp_ge 56 d_D_wakeSleepers_45 (by decide) (fun c_45 => ?_) (fun c_45 => ?_)
                · exact absurd (show lsI (ls P j) ≤ P 16 j from c_45) (by rw [elj]; exact hle)
                · skip
                  refine g_iconst (v := 1) d_D_wakeSleepers_48 (by decide) ?_
                  refine g_istore_n d_D_wakeSleepers_49 (by decide) ?_
                  refine g_aload d_D_wakeSleepers_50 rfl ?_
                  refine v_geti (v := P 16 j) (τ := j) 271 rfl hV (sl_4 hZ.2.1 hj1) (by decide) (by decide) fl_D_230 rfl d_D_wakeSleepers_52 rfl (sf_271 hZ.2.1 hj1 h4) ?_
                  refine g_istore_n d_D_wakeSleepers_55 (by decide) ?_
                  refine g_iinc (v := nI (j + 1)) d_D_wakeSleepers_56 rfl (nI_1 _) (by decide) ?_
                  refine g_goto 6 d_D_wakeSleepers_59 (by decide) ?_
                  have e1 : ls P (j + 1) = P 16 j := by rw [ls_s, if_pos g5, if_pos h4, if_neg hneg, if_neg hle]
                  have ih := l_ws hZ hS4 hI hB (M0 := M0) r (j + 1) M (some (va_rf (some (ad S 4 j)))) kb nb (by omega) hV
                  rw [e1] at ih
                  rw [show fdI (P 16 j) = 1 from if_neg (hS4 j hlt h4), show lsI (P 16 j) = P 16 j from if_neg (hS4 j hlt h4)] at ih
                  exact ih
    skip
    refine g_iload_n d_D_wakeSleepers_6 rfl ?_
    refine g_aload_n d_D_wakeSleepers_7 rfl ?_
    refine v_geti (v := nI (nfb P)) (τ := 0) 3 rfl hV (sl_0 hZ.2.1) (by decide) (by decide) fl_D_25 rfl d_D_wakeSleepers_8 rfl ((sd_3 hZ.2.1).trans (nf_nI hZ.2.2.1)) ?_
    refine g_icmp_ge 62 d_D_wakeSleepers_11 (by decide) (fun c_11 => ?_) (fun c_11 => ?_)
    · exact absurd c_11 (ix_nle rfl rfl hlt (by omega))
    · skip
      refine g_aload_n d_D_wakeSleepers_14 rfl ?_
      refine g_iload_n d_D_wakeSleepers_15 rfl ?_
      refine g_callV (k1 := kb) (n1 := nb) [.int (nI j)] cw_D_94 cv_D_fiberAt d_D_wakeSleepers_16 rfl (hV.kdo (sl_0 hZ.2.1) (by decide)) rfl rfl ⟨by simp, by simp⟩ (by first | decide | omega) (by first | decide | omega) (by first | decide | omega) (fun _ _ h => h) (s_fiberInx ⟨hV, hZ.2⟩ hj1 rfl) (fun r_ M h_ hfr_ => ?_)
      obtain ⟨rfl, hV⟩ := h_
      refine g_astore d_D_wakeSleepers_19 (by decide) ?_
      refine g_aload d_D_wakeSleepers_21 rfl ?_
      refine g_ifnull 56 d_D_wakeSleepers_23 (by decide) (fun c_23 => ?_) (fun a_23 c_23 => ?_)
      · exact absurd (Eq.trans (Eq.symm (rfl : some (ad S 4 j) = some _)) c_23) (by simp)
      · skip
        refine g_aload d_D_wakeSleepers_26 rfl ?_
        refine v_geti (v := P 15 j) (τ := j) 269 rfl hV (sl_4 hZ.2.1 hj1) (by decide) (by decide) fl_D_133 rfl d_D_wakeSleepers_28 rfl (sf_269 hZ.2.1 hj1) ?_
        refine g_iconst (v := 4) d_D_wakeSleepers_31 (by decide) ?_
        refine g_icmp_ne 56 d_D_wakeSleepers_32 (by decide) (fun c_32 => ?_) (fun c_32 => ?_)
        · skip
          refine g_iinc (v := nI (j + 1)) d_D_wakeSleepers_56 rfl (nI_1 _) (by decide) ?_
          refine g_goto 6 d_D_wakeSleepers_59 (by decide) ?_
          have e1 : ls P (j + 1) = ls P j := by rw [ls_s, if_neg h4]; split <;> rfl
          have ih := l_ws hZ hS4 hI hB (M0 := M0) r (j + 1) M (some (va_rf (some (ad S 4 j)))) kb nb (by omega) hV
          rw [e1] at ih
          exact ih
        · exact absurd (show P 15 j = 4 from c_32) h4
set_option maxHeartbeats 1000000 in
set_option maxRecDepth 100000 in
theorem s_D_wakeSleepers {P : Pst} {LL : Lls} {S : Gs} {M : Mm} (hZ : Zt P LL S M) (hS4 : ∀ j, j < nfb P → P 15 j = 4 → ¬ P 16 j < 0) (hI : ∀ j, j < nfb P → (P 5 j = 1 ↔ ¬ P 15 j = 0)) (hB : ¬ ls P (nfb P) < 0 → ∀ j, j < nfb P → BOK (it_b (ls P (nfb P)) (up P 44 0 (ls P (nfb P))) j) j) : Run m_D_wakeSleepers ownC 2 0 0 [va_rf (some (ad S 0 0))] M (fun r M' => r = none ∧ ∃ S', Zt (if ls P (nfb P) < 0 then P else it_b (ls P (nfb P)) (up P 44 0 (ls P (nfb P))) (nfb P)) (if ls P (nfb P) < 0 then LL else it_bL (ls P (nfb P)) (up P 44 0 (ls P (nfb P))) LL (nfb P)) S' M' ∧ ad S' = ad S ∧ lv S' = lv S) := by
  have hV := hZ.1
  refine Run.ofG (by decide) (by simp [cat_int, cat_rf]) (Nat.le_of_ble_eq_true rfl) ?_
  refine g_iconst (v := 0) d_D_wakeSleepers_0 (by decide) ?_
  refine g_istore_n d_D_wakeSleepers_1 (by decide) ?_
  refine g_iconst (v := 0) d_D_wakeSleepers_2 (by decide) ?_
  refine g_istore_n d_D_wakeSleepers_3 (by decide) ?_
  refine g_iconst (v := 0) d_D_wakeSleepers_4 (by decide) ?_
  refine g_istore_n d_D_wakeSleepers_5 (by decide) ?_
  exact l_ws hZ hS4 hI hB (nfb P) 0 M _ _ _ (Nat.zero_add _) hV
