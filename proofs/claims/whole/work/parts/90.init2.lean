/-! the desk's own constructor -/
theorem cl_ar9 : Cond.classLink "FiberDesk" 9 "FiberDesk$Effect" ∈ kTB := by
  obtain ⟨r, hr, -, -, h, -⟩ := cl_D_9
  cases hr
  exact h
theorem cl_ar19 : Cond.classLink "FiberDesk" 19 "FiberDesk$Fiber" ∈ kTB := by
  obtain ⟨r, hr, -, -, h, -⟩ := cl_D_19
  cases hr
  exact h
theorem cl_ar35 : Cond.classLink "FiberDesk" 35 "FiberDesk$Place" ∈ kTB := by
  obtain ⟨r, hr, -, -, h, -⟩ := cl_D_35
  cases hr
  exact h
set_option maxHeartbeats 2000000 in
set_option maxRecDepth 100000 in
theorem l_D_init {a0 : Nat} {M0 : Mm} : ∀ (r j : Nat) (S : Gs) (M : Mm), j + r = 4 → VM S M → DI a0 S j → G m_D_init ownC M0 (fun r' M' => r' = none ∧ ∃ S', Zt P00 (fun _ => []) S' M' ∧ ad S' 0 0 = a0) 3 (5 * r) (30 * r) M 91 [some (va_rf (some a0)), some (.int (nI j))] []
  | 0, j, S, M, hj, hV, h => by
    have e : j = 4 := by omega
    rw [e] at h ⊢
    refine g_iload_n d_D_init_91 rfl ?_
    refine g_iconst (v := 4) d_D_init_92 (by decide) ?_
    refine g_icmp_ge 115 d_D_init_93 (by decide) (fun c => ?_) (fun c => ?_)
    · exact g_return d_D_init_115 rfl ⟨rfl, S, DI.zt hV h, h.1⟩
    · exact absurd (show (4 : Int32) ≤ nI 4 by decide) c
  | r + 1, j, S, M, hj, hV, h => by
    have hj4 : j < 4 := by omega
    have h0 := h.1
    have hsd := h.2.1
    refine g_iload_n d_D_init_91 rfl ?_
    refine g_iconst (v := 4) d_D_init_92 (by decide) ?_
    refine g_icmp_ge 115 d_D_init_93 (by decide) (fun c => ?_) (fun c => ?_)
    · exact absurd c (ix_nle (a := 4) (b := j) rfl rfl hj4 (by decide))
    · refine g_aload_n d_D_init_96 rfl ?_
      refine v_getr (v := some (ad S 24 0)) (τ := 0) 5 rfl hV hsd.1.1 (by decide) (by decide) fl_D_37 rfl d_D_init_97 (by rw [h0]) hsd.2.2.2.2.2.2.1 ?_
      refine g_iload_n d_D_init_100 rfl ?_
      refine v_new (k' := 5 * r + 4) (n' := 30 * r + 24) j hV (by decide) cl_D_35 d_D_init_101 (by omega) (by show 30 * r + 24 + 6 ≤ 30 * (r + 1); omega) (fun q M _ hV => ?_)
      refine g_dup d_D_init_104 ?_
      refine g_callIN (k1 := 5 * r) (n1 := 30 * r) [] cn_D_64 ci_P_init d_D_init_105 (congrArg some (ad_un_s _ _ _ _).symm) rfl rfl ⟨by simp [cat_rf, cat_int], by simp⟩ (by decide) (by omega) (by omega) (fun _ _ h => h) (v_P_init hV (lv_un_s _ _ _ _)) (fun r_ M h_ hfr_ => ?_)
      obtain ⟨rfl, q1, q2, q3, q4, hV⟩ := h_
      have ea : some (ad S 24 0) = some (ad (piS (un S 2 j q) j q1 q2 q3 q4) 24 0) := by
        show some (ad S 24 0) = some (ad (un (un (un (un (un S 2 j q) 1 (1 + j) q1) 20 (1 + j) q2) 1 (5 + j) q3) 20 (5 + j) q4) 24 0)
        rw [ad_un_c (by decide), ad_un_c (by decide), ad_un_c (by decide), ad_un_c (by decide), ad_un_c (by decide)]
      have eq : some q = some (ad (piS (un S 2 j q) j q1 q2 q3 q4) 2 j) := by
        show some q = some (ad (un (un (un (un (un S 2 j q) 1 (1 + j) q1) 20 (1 + j) q2) 1 (5 + j) q3) 20 (5 + j) q4) 2 j)
        rw [ad_un_c (by decide), ad_un_c (by decide), ad_un_c (by decide), ad_un_c (by decide), ad_un_s]
      have l24 : lv (piS (un S 2 j q) j q1 q2 q3 q4) 24 0 = true := by
        show lv (un (un (un (un (un S 2 j q) 1 (1 + j) q1) 20 (1 + j) q2) 1 (5 + j) q3) 20 (5 + j) q4) 24 0 = true
        exact lv_un_le (lv_un_le (lv_un_le (lv_un_le (lv_un_le hsd.1.2.2.2.2 _ _ _) _ _ _) _ _ _) _ _ _) _ _ _
      have l2 : lv (piS (un S 2 j q) j q1 q2 q3 q4) 2 j = true := by
        show lv (un (un (un (un (un S 2 j q) 1 (1 + j) q1) 20 (1 + j) q2) 1 (5 + j) q3) 20 (5 + j) q4) 2 j = true
        exact lv_un_le (lv_un_le (lv_un_le (lv_un_le (lv_un_s _ _ _ _) _ _ _) _ _ _) _ _ _) _ _ _
      refine v_aast (c := 24) (d := 2) (τ := 0) (σ := j) (j := j) (1536 + j) rfl hV l24 (Or.inr (Or.inr ⟨rfl, rfl⟩)) l2 eq d_D_init_108 ea rfl hj4 (fun M hV => ?_)
      refine g_iinc (v := nI (j + 1)) d_D_init_109 rfl (nI_1 _) (by decide) ?_
      refine g_goto 91 d_D_init_112 (by decide) ?_
      exact l_D_init r (j + 1) _ M (by omega) hV (h.step hj4)
def dnS (a0 q22 q23 q1 q20 q24 q21 : Nat) : Gs := ui (ur (ui (ui (ui (ui (ur (un (ur (un (ur (liS (un (ui (ur (un (ui (ur (un (un S00 0 0 a0) 22 0 q22) 0 0 (some q22)) 1 0 0) 23 0 q23) 2 0 (some q23)) 3 0 0) 1 0 q1) 0 q20) 4 0 (some q1)) 24 0 q24) 5 0 (some q24)) 21 0 q21) 6 0 (some q21)) 7 0 0) 8 0 0) 9 0 0) 10 0 0) 11 0 none) 12 0 0
theorem vi_00 (g t : Nat) : vi S00 g t = 0 := rfl
theorem dn_vi (a0 q22 q23 q1 q20 q24 q21 g t : Nat) : vi (dnS a0 q22 q23 q1 q20 q24 q21) g t = 0 := by
  simp [dnS, liS, vi_ur, vi_ui_e, vi_un, vi_00]
theorem dn_DI (a0 q22 q23 q1 q20 q24 q21 : Nat) : DI a0 (dnS a0 q22 q23 q1 q20 q24 q21) 0 := by
  refine ⟨rfl, ⟨⟨rfl, rfl, rfl, rfl, rfl⟩, rfl, ?_, rfl, ?_, rfl, rfl, rfl, ?_, ?_, ?_, ?_, ?_, ?_⟩, fun e => rfl, fun n hn => absurd hn (Nat.not_lt_zero _), ⟨rfl, rfl, rfl, ?_⟩, fun i _ => dn_vi _ _ _ _ _ _ _ _ _⟩
  · rw [dn_vi]; rfl
  · rw [dn_vi]; rfl
  · rw [dn_vi]; rfl
  · rw [dn_vi]; rfl
  · rw [dn_vi]; rfl
  · rw [dn_vi]; rfl
  · rw [if_pos (show P00 48 0 < 0 by decide)]; rfl
  · exact fun q => absurd (show P00 48 0 < 0 by decide) q
  · rw [dn_vi]
set_option maxHeartbeats 4000000 in
set_option maxRecDepth 100000 in
theorem s_D_init {a0 : Nat} {M : Mm} (hV : VM (un S00 0 0 a0) M) : Run m_D_init ownC 3 30 300 [va_rf (some a0)] M (fun r M' => r = none ∧ ∃ S', Zt P00 (fun _ => []) S' M' ∧ ad S' 0 0 = a0) := by
  refine Run.ofG (by decide) (by simp [cat_int, cat_rf]) (Nat.le_of_ble_eq_true rfl) ?_
  have k0 : lv (un S00 0 0 a0) 0 0 = true := rfl
  refine g_aload_n d_D_init_0 rfl ?_
  refine g_objInit ob_D_1 d_D_init_1 rfl ⟨by simp, by simp⟩ (by decide) ?_
  refine g_aload_n d_D_init_4 rfl ?_
  refine g_bipush (v := 40) d_D_init_5 (by decide) ?_
  refine g_newr (κ := 22) (N := 40) (k' := 29) (n' := 260) 0 rfl cl_ar9 (by decide) d_D_init_7 rfl (by decide) (by decide) (by decide) (fun q22 hq => ?_)
  have hV1 := hV.un (c := 22) (τ := 0) rfl hq
  refine v_putr (τ := 0) 0 rfl hV1 rfl (by decide) (by decide) fl_D_11 (Or.inl ⟨rfl, fun r h => by cases h; rfl⟩) rfl d_D_init_10 rfl (fun M hV => ?_)
  refine g_aload_n d_D_init_13 rfl ?_
  refine g_iconst (v := 0) d_D_init_14 (by decide) ?_
  refine v_puti (τ := 0) 1 rfl hV rfl (by decide) (by decide) fl_D_15 (Or.inr (fun r h => by cases h; rfl)) rfl d_D_init_15 rfl (fun M hV => ?_)
  refine g_aload_n d_D_init_18 rfl ?_
  refine g_bipush (v := 10) d_D_init_19 (by decide) ?_
  refine g_newr (κ := 23) (N := 10) (k' := 28) (n' := 250) 0 rfl cl_ar19 (by decide) d_D_init_21 rfl (by decide) (by decide) (by decide) (fun q23 hq => ?_)
  have hV2 := hV.un (c := 23) (τ := 0) rfl hq
  refine v_putr (τ := 0) 2 rfl hV2 rfl (by decide) (by decide) fl_D_21 (Or.inl ⟨rfl, fun r h => by cases h; rfl⟩) rfl d_D_init_24 rfl (fun M hV => ?_)
  refine g_aload_n d_D_init_27 rfl ?_
  refine g_iconst (v := 0) d_D_init_28 (by decide) ?_
  refine v_puti (τ := 0) 3 rfl hV rfl (by decide) (by decide) fl_D_25 (Or.inr (fun r h => by cases h; rfl)) rfl d_D_init_29 rfl (fun M hV => ?_)
  refine g_aload_n d_D_init_32 rfl ?_
  refine v_new (k' := 27) (n' := 248) 0 hV (by decide) cl_D_28 d_D_init_33 (by decide) (by decide) (fun q1 M _ hV => ?_)
  refine g_dup d_D_init_36 ?_
  refine g_callIN (k1 := 26) (n1 := 238) [] cn_D_30 ci_L_init d_D_init_37 (congrArg some (ad_un_s _ _ _ _).symm) rfl rfl ⟨by simp [cat_rf, cat_int], by simp⟩ (by decide) (by decide) (by decide) (fun _ _ h => h) (v_L_init hV (lv_un_s _ _ _ _)) (fun r_ M h_ hfr_ => ?_)
  obtain ⟨rfl, q20, hV⟩ := h_
  refine v_putr (τ := 0) 4 rfl hV rfl (by decide) (by decide) fl_D_31 (Or.inl ⟨rfl, fun r h => by cases h; rfl⟩) rfl d_D_init_40 rfl (fun M hV => ?_)
  refine g_aload_n d_D_init_43 rfl ?_
  refine g_iconst (v := 4) d_D_init_44 (by decide) ?_
  refine g_newr (κ := 24) (N := 4) (k' := 25) (n' := 234) 0 rfl cl_ar35 (by decide) d_D_init_45 rfl (by decide) (by decide) (by decide) (fun q24 hq => ?_)
  have hV3 := hV.un (c := 24) (τ := 0) rfl hq
  refine v_putr (τ := 0) 5 rfl hV3 rfl (by decide) (by decide) fl_D_37 (Or.inl ⟨rfl, fun r h => by cases h; rfl⟩) rfl d_D_init_48 rfl (fun M hV => ?_)
  refine g_aload_n d_D_init_51 rfl ?_
  refine g_bipush (v := 24) d_D_init_52 (by decide) ?_
  refine g_newi (κ := 20) (N := 24) (k' := 24) (n' := 210) 1 rfl ac_int d_D_init_54 rfl (by decide) (by decide) (by decide) (fun q21 hq => ?_)
  have hV4 := hV.un (c := 21) (τ := 0) rfl hq
  refine v_putr (τ := 0) 6 rfl hV4 rfl (by decide) (by decide) fl_D_41 (Or.inl ⟨rfl, fun r h => by cases h; rfl⟩) rfl d_D_init_56 rfl (fun M hV => ?_)
  refine g_aload_n d_D_init_59 rfl ?_
  refine g_iconst (v := 0) d_D_init_60 (by decide) ?_
  refine v_puti (τ := 0) 7 rfl hV rfl (by decide) (by decide) fl_D_45 (Or.inr (fun r h => by cases h; rfl)) rfl d_D_init_61 rfl (fun M hV => ?_)
  refine g_aload_n d_D_init_64 rfl ?_
  refine g_iconst (v := 0) d_D_init_65 (by decide) ?_
  refine v_puti (τ := 0) 8 rfl hV rfl (by decide) (by decide) fl_D_48 (Or.inr (fun r h => by cases h; rfl)) rfl d_D_init_66 rfl (fun M hV => ?_)
  refine g_aload_n d_D_init_69 rfl ?_
  refine g_iconst (v := 0) d_D_init_70 (by decide) ?_
  refine v_puti (τ := 0) 9 rfl hV rfl (by decide) (by decide) fl_D_51 (Or.inr (fun r h => by cases h; rfl)) rfl d_D_init_71 rfl (fun M hV => ?_)
  refine g_aload_n d_D_init_74 rfl ?_
  refine g_iconst (v := 0) d_D_init_75 (by decide) ?_
  refine v_puti (τ := 0) 10 rfl hV rfl (by decide) (by decide) fl_D_54 (Or.inr (fun r h => by cases h; rfl)) rfl d_D_init_76 rfl (fun M hV => ?_)
  refine g_aload_n d_D_init_79 rfl ?_
  refine g_null d_D_init_80 ?_
  refine v_putr (τ := 0) 11 rfl hV rfl (by decide) (by decide) fl_D_57 (Or.inr (fun r h => by cases h; rfl)) rfl d_D_init_81 rfl (fun M hV => ?_)
  refine g_aload_n d_D_init_84 rfl ?_
  refine g_iconst (v := 0) d_D_init_85 (by decide) ?_
  refine v_puti (τ := 0) 12 rfl hV rfl (by decide) (by decide) fl_D_61 (Or.inr (fun r h => by cases h; rfl)) rfl d_D_init_86 rfl (fun M hV => ?_)
  refine g_iconst (v := 0) d_D_init_89 (by decide) ?_
  refine g_istore_n d_D_init_90 (by decide) ?_
  refine g_less (k' := 5 * 4) (n' := 30 * 4) (by decide) (by decide) ?_
  exact l_D_init 4 0 (dnS a0 q22 q23 q1 q20 q24 q21) M (by decide) hV (dn_DI _ _ _ _ _ _ _)
