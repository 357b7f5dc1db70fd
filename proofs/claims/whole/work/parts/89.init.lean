/-! THE CONSTRUCTORS -/
def S00 : Gs := (fun _ _ => 0, fun _ _ => false, fun _ _ => 0, fun _ _ => none, fun _ => none, fun _ => none)
theorem vm_00 (M : Mm) : VM S00 M := ⟨fun _ _ h => (by cases h), fun _ _ h => (by cases h), fun _ _ h => (by cases h)⟩
def liS (S : Gs) (t q : Nat) : Gs := ui (ur (un S 20 t q) 64 t (some q)) 65 t 0
set_option maxHeartbeats 1000000 in
set_option maxRecDepth 100000 in
theorem v_L_init {S : Gs} {M : Mm} (hV : VM S M) {t : Nat} (hl : lv S 1 t = true) : Run m_L_init ownC 1 1 10 [va_rf (some (ad S 1 t))] M (fun r M' => r = none ∧ ∃ q, VM (liS S t q) M') := by
  refine Run.ofG (by decide) (by simp [cat_int, cat_rf]) (Nat.le_of_ble_eq_true rfl) ?_
  refine g_aload_n d_L_init_0 rfl ?_
  refine g_objInit ob_L_3 d_L_init_1 rfl ⟨by simp, by simp⟩ (by decide) ?_
  refine g_aload_n d_L_init_4 rfl ?_
  refine g_bipush (v := 10) d_L_init_5 (by decide) ?_
  refine g_newi (κ := 20) (N := 10) (k' := 0) (n' := 0) (4 * t) rfl ac_int d_L_init_7 rfl (by decide) (by decide) (by decide) (fun q hq => ?_)
  have hV1 : VM (un S 20 t q) (nw M q 20 (4 * t) 10) := hV.un (c := 20) (τ := t) rfl hq
  have hl1 : lv (un S 20 t q) 1 t = true := lv_un_le hl _ _ _
  have ha1 : some (ad S 1 t) = some (ad (un S 20 t q) 1 t) := by rw [ad_un_c (by decide)]
  refine v_putr (τ := t) 64 rfl hV1 hl1 (by decide) (by decide) fl_L_9 (Or.inl ⟨rfl, fun r h => by cases h; rfl⟩) rfl d_L_init_9 ha1 (fun M hV => ?_)
  refine g_aload_n d_L_init_12 rfl ?_
  refine g_iconst (v := 0) d_L_init_13 (by decide) ?_
  refine v_puti (τ := t) 65 rfl hV (lv_r hl1) (by decide) (by decide) fl_L_15 (Or.inr (fun r h => by cases h; rfl)) rfl d_L_init_14 (ad_r ha1) (fun M hV => ?_)
  exact g_return d_L_init_17 rfl ⟨rfl, q, hV⟩
def piS (S : Gs) (n q1 q2 q3 q4 : Nat) : Gs := ur (liS (un (ur (liS (un (ui (ui (ui (ui S 128 n 0) 129 n 0) 130 n 0) 131 n 1) 1 (1 + n) q1) (1 + n) q2) 132 n (some q1)) 1 (5 + n) q3) (5 + n) q4) 133 n (some q3)
set_option maxHeartbeats 2000000 in
set_option maxRecDepth 100000 in
theorem v_P_init {S : Gs} {M : Mm} (hV : VM S M) {n : Nat} (h2 : lv S 2 n = true) : Run m_P_init ownC 2 4 24 [va_rf (some (ad S 2 n))] M (fun r M' => r = none ∧ ∃ q1 q2 q3 q4, VM (piS S n q1 q2 q3 q4) M') := by
  refine Run.ofG (by decide) (by simp [cat_int, cat_rf]) (Nat.le_of_ble_eq_true rfl) ?_
  refine g_aload_n d_P_init_0 rfl ?_
  refine g_objInit ob_P_1 d_P_init_1 rfl ⟨by simp, by simp⟩ (by decide) ?_
  refine g_aload_n d_P_init_4 rfl ?_
  refine g_iconst (v := 0) d_P_init_5 (by decide) ?_
  refine v_puti (τ := n) 128 rfl hV h2 (by decide) (by decide) fl_P_7 (Or.inr (fun r h => by cases h; rfl)) rfl d_P_init_6 rfl (fun M hV => ?_)
  refine g_aload_n d_P_init_9 rfl ?_
  refine g_iconst (v := 0) d_P_init_10 (by decide) ?_
  refine v_putz (τ := n) 129 rfl hV (lv_i h2) (by decide) (by decide) fl_P_13 (Or.inr (fun r h => by cases h; rfl)) rfl (Or.inl rfl) d_P_init_11 (ad_i rfl) (fun M hV => ?_)
  refine g_aload_n d_P_init_14 rfl ?_
  refine g_iconst (v := 0) d_P_init_15 (by decide) ?_
  refine v_puti (τ := n) 130 rfl hV (lv_i (lv_i h2)) (by decide) (by decide) fl_P_17 (Or.inr (fun r h => by cases h; rfl)) rfl d_P_init_16 (ad_i (ad_i rfl)) (fun M hV => ?_)
  refine g_aload_n d_P_init_19 rfl ?_
  refine g_iconst (v := 1) d_P_init_20 (by decide) ?_
  refine v_puti (τ := n) 131 rfl hV (lv_i (lv_i (lv_i h2))) (by decide) (by decide) fl_P_20 (Or.inr (fun r h => by cases h; rfl)) rfl d_P_init_21 (ad_i (ad_i (ad_i rfl))) (fun M hV => ?_)
  have h2a : lv (ui (ui (ui (ui S 128 n 0) 129 n 0) 130 n 0) 131 n 1) 2 n = true := h2
  have aa : ad (ui (ui (ui (ui S 128 n 0) 129 n 0) 130 n 0) 131 n 1) 2 n = ad S 2 n := rfl
  unfold piS
  generalize ui (ui (ui (ui S 128 n 0) 129 n 0) 130 n 0) 131 n 1 = S1 at hV h2a aa ⊢
  refine g_aload_n d_P_init_24 rfl ?_
  refine v_new (k' := 3) (n' := 22) (1 + n) hV (by decide) cl_P_23 d_P_init_25 (by decide) (by show (22 + 2 : Nat) ≤ 24; decide) (fun q1 M _ hV => ?_)
  refine g_dup d_P_init_28 ?_
  refine g_callIN (k1 := 2) (n1 := 12) [] cn_P_25 ci_L_init d_P_init_29 (congrArg some (ad_un_s _ _ _ _).symm) rfl rfl ⟨by simp [cat_rf, cat_int], by simp⟩ (by decide) (by decide) (by decide) (fun _ _ h => h) (v_L_init hV (lv_un_s _ _ _ _)) (fun r_ M h_ hfr_ => ?_)
  obtain ⟨rfl, q2, hV⟩ := h_
  have e1 : some (ad S 2 n) = some (ad (liS (un S1 1 (1 + n) q1) (1 + n) q2) 2 n) := by
    show some (ad S 2 n) = some (ad (un (un S1 1 (1 + n) q1) 20 (1 + n) q2) 2 n)
    rw [ad_un_c (by decide), ad_un_c (by decide), aa]
  have l1 : lv (liS (un S1 1 (1 + n) q1) (1 + n) q2) 2 n = true := by
    show lv (un (un S1 1 (1 + n) q1) 20 (1 + n) q2) 2 n = true
    exact lv_un_le (lv_un_le h2a _ _ _) _ _ _
  refine v_putr (τ := n) 132 rfl hV l1 (by decide) (by decide) fl_P_26 (Or.inl ⟨rfl, fun r h => by cases h; rfl⟩) rfl d_P_init_32 e1 (fun M hV => ?_)
  have e2 := ad_r (f := 132) (τ := n) (x := some q1) e1
  have l2 : lv (ur (liS (un S1 1 (1 + n) q1) (1 + n) q2) 132 n (some q1)) 2 n = true := l1
  generalize hS2 : ur (liS (un S1 1 (1 + n) q1) (1 + n) q2) 132 n (some q1) = S2 at hV e2 l2
  refine g_aload_n d_P_init_35 rfl ?_
  refine v_new (k' := 1) (n' := 10) (5 + n) hV (by decide) cl_P_23 d_P_init_36 (by decide) (by show (10 + 2 : Nat) ≤ 12; decide) (fun q3 M _ hV => ?_)
  refine g_dup d_P_init_39 ?_
  refine g_callIN (k1 := 0) (n1 := 0) [] cn_P_25 ci_L_init d_P_init_40 (congrArg some (ad_un_s _ _ _ _).symm) rfl rfl ⟨by simp [cat_rf, cat_int], by simp⟩ (by decide) (by decide) (by decide) (fun _ _ h => h) (v_L_init hV (lv_un_s _ _ _ _)) (fun r_ M h_ hfr_ => ?_)
  obtain ⟨rfl, q4, hV⟩ := h_
  have e3 : some (ad S 2 n) = some (ad (liS (un S2 1 (5 + n) q3) (5 + n) q4) 2 n) := by
    show some (ad S 2 n) = some (ad (un (un S2 1 (5 + n) q3) 20 (5 + n) q4) 2 n)
    rw [ad_un_c (by decide), ad_un_c (by decide)]; exact e2
  have l3 : lv (liS (un S2 1 (5 + n) q3) (5 + n) q4) 2 n = true := by
    show lv (un (un S2 1 (5 + n) q3) 20 (5 + n) q4) 2 n = true
    exact lv_un_le (lv_un_le l2 _ _ _) _ _ _
  refine v_putr (τ := n) 133 rfl hV l3 (by decide) (by decide) fl_P_30 (Or.inl ⟨rfl, fun r h => by cases h; rfl⟩) rfl d_P_init_43 e3 (fun M hV => ?_)
  exact g_return d_P_init_46 rfl ⟨rfl, q1, q2, q3, q4, by subst hS2; exact hV⟩
/-! what stands when places 0 .. j - 1 have been made -/
def PlN (S : Gs) (n : Nat) : Prop := lv S 2 n = true ∧ vr S (1536 + n) 0 = some (ad S 2 n) ∧ vr S 132 n = some (ad S 1 (1 + n)) ∧ vr S 133 n = some (ad S 1 (5 + n))
def LnN (S : Gs) (t : Nat) : Prop := lv S 1 t = true ∧ lv S 20 t = true ∧ vr S 64 t = some (ad S 20 t) ∧ vi S 65 t = 0
def DI (a0 : Nat) (S : Gs) (j : Nat) : Prop := ad S 0 0 = a0 ∧ SD P00 S ∧ (∀ e, lv S 3 e = false) ∧ (∀ n, n < j → PlN S n ∧ LnN S (1 + n) ∧ LnN S (5 + n)) ∧ LnN S 0 ∧ ∀ i, i < 24 → vi S (1344 + i) 0 = 0
def stS (S : Gs) (j q q1 q2 q3 q4 : Nat) : Gs := ur (piS (un S 2 j q) j q1 q2 q3 q4) (1536 + j) 0 (some q)
section InitView
variable {S : Gs} {j q q1 q2 q3 q4 : Nat}
theorem stS_ad {c τ : Nat} (h : ¬ (c = 2 ∧ τ = j) ∧ ¬ ((c = 1 ∨ c = 20) ∧ (τ = 1 + j ∨ τ = 5 + j))) : ad (stS S j q q1 q2 q3 q4) c τ = ad S c τ := by
  show ad (un (un (un (un (un S 2 j q) 1 (1 + j) q1) 20 (1 + j) q2) 1 (5 + j) q3) 20 (5 + j) q4) c τ = ad S c τ
  rw [ad_un, if_neg (by omega), ad_un, if_neg (by omega), ad_un, if_neg (by omega), ad_un, if_neg (by omega), ad_un, if_neg (by omega)]
theorem stS_lv {c τ : Nat} (h : ¬ (c = 2 ∧ τ = j) ∧ ¬ ((c = 1 ∨ c = 20) ∧ (τ = 1 + j ∨ τ = 5 + j))) : lv (stS S j q q1 q2 q3 q4) c τ = lv S c τ := by
  show lv (un (un (un (un (un S 2 j q) 1 (1 + j) q1) 20 (1 + j) q2) 1 (5 + j) q3) 20 (5 + j) q4) c τ = lv S c τ
  rw [lv_un, if_neg (by omega), lv_un, if_neg (by omega), lv_un, if_neg (by omega), lv_un, if_neg (by omega), lv_un, if_neg (by omega)]
theorem stS_vi {g t : Nat} (h : g < 64 ∨ 1344 ≤ g ∨ (g < 128 ∧ ¬ t = 1 + j ∧ ¬ t = 5 + j)) : vi (stS S j q q1 q2 q3 q4) g t = vi S g t := by
  simp only [stS, piS, liS, vi_ur, vi_ui_e, vi_un]
  rw [if_neg, if_neg, if_neg, if_neg, if_neg, if_neg, if_neg, if_neg, if_neg, if_neg, if_neg]
  all_goals omega
theorem stS_vr {g t : Nat} (h : (g < 64 ∧ t = 0) ∨ (64 ≤ g ∧ g < 128 ∧ ¬ t = 1 + j ∧ ¬ t = 5 + j) ∨ (128 ≤ g ∧ g < 192 ∧ ¬ t = j) ∨ (1344 ≤ g ∧ ¬ g = 1536 + j)) : vr (stS S j q q1 q2 q3 q4) g t = vr S g t := by
  simp only [stS, piS, liS, vr_ui, vr_ur, vr_un]
  rw [if_neg, if_neg, if_neg, if_neg, if_neg, if_neg, if_neg, if_neg, if_neg, if_neg]
  all_goals omega
theorem stS_pl : PlN (stS S j q q1 q2 q3 q4) j ∧ LnN (stS S j q q1 q2 q3 q4) (1 + j) ∧ LnN (stS S j q q1 q2 q3 q4) (5 + j) := by
  refine ⟨⟨?_, ?_, ?_, ?_⟩, ⟨?_, ?_, ?_, ?_⟩, ⟨?_, ?_, ?_, ?_⟩⟩
  · show lv (un (un (un (un (un S 2 j q) 1 (1 + j) q1) 20 (1 + j) q2) 1 (5 + j) q3) 20 (5 + j) q4) 2 j = true
    exact lv_un_le (lv_un_le (lv_un_le (lv_un_le (lv_un_s _ _ _ _) _ _ _) _ _ _) _ _ _) _ _ _
  · show vr (ur (piS (un S 2 j q) j q1 q2 q3 q4) (1536 + j) 0 (some q)) (1536 + j) 0 = some (ad (un (un (un (un (un S 2 j q) 1 (1 + j) q1) 20 (1 + j) q2) 1 (5 + j) q3) 20 (5 + j) q4) 2 j)
    rw [vr_ur_s, ad_un_c (by decide), ad_un_c (by decide), ad_un_c (by decide), ad_un_c (by decide), ad_un_s]
  · show vr (stS S j q q1 q2 q3 q4) 132 j = some (ad (un (un (un (un (un S 2 j q) 1 (1 + j) q1) 20 (1 + j) q2) 1 (5 + j) q3) 20 (5 + j) q4) 1 (1 + j))
    rw [ad_un_c (by decide), ad_un_t (by omega), ad_un_c (by decide), ad_un_s]
    simp only [stS, piS, liS, vr_ui, vr_ur, vr_un]
    rw [if_neg (by omega), if_neg (by omega), if_neg (by omega), if_neg (by omega), if_neg (by omega), if_pos (by simp)]
  · show vr (stS S j q q1 q2 q3 q4) 133 j = some (ad (un (un (un (un (un S 2 j q) 1 (1 + j) q1) 20 (1 + j) q2) 1 (5 + j) q3) 20 (5 + j) q4) 1 (5 + j))
    rw [ad_un_c (by decide), ad_un_s]
    simp only [stS, piS, liS, vr_ui, vr_ur, vr_un]
    rw [if_neg (by omega), if_pos (by simp)]
  · show lv (un (un (un (un (un S 2 j q) 1 (1 + j) q1) 20 (1 + j) q2) 1 (5 + j) q3) 20 (5 + j) q4) 1 (1 + j) = true
    exact lv_un_le (lv_un_le (lv_un_le (lv_un_s _ _ _ _) _ _ _) _ _ _) _ _ _
  · show lv (un (un (un (un (un S 2 j q) 1 (1 + j) q1) 20 (1 + j) q2) 1 (5 + j) q3) 20 (5 + j) q4) 20 (1 + j) = true
    exact lv_un_le (lv_un_le (lv_un_s _ _ _ _) _ _ _) _ _ _
  · show vr (stS S j q q1 q2 q3 q4) 64 (1 + j) = some (ad (un (un (un (un (un S 2 j q) 1 (1 + j) q1) 20 (1 + j) q2) 1 (5 + j) q3) 20 (5 + j) q4) 20 (1 + j))
    rw [ad_un_t (by omega), ad_un_c (by decide), ad_un_s]
    simp only [stS, piS, liS, vr_ui, vr_ur, vr_un]
    rw [if_neg (by omega), if_neg (by omega), if_neg (by omega), if_neg (by omega), if_neg (by omega), if_neg (by omega), if_pos (by simp)]
  · simp only [stS, piS, liS, vi_ur, vi_ui_e, vi_un]
    rw [if_neg (by omega), if_neg (by omega), if_neg (by omega), if_pos (by simp)]
  · show lv (un (un (un (un (un S 2 j q) 1 (1 + j) q1) 20 (1 + j) q2) 1 (5 + j) q3) 20 (5 + j) q4) 1 (5 + j) = true
    exact lv_un_le (lv_un_s _ _ _ _) _ _ _
  · show lv (un (un (un (un (un S 2 j q) 1 (1 + j) q1) 20 (1 + j) q2) 1 (5 + j) q3) 20 (5 + j) q4) 20 (5 + j) = true
    exact lv_un_s _ _ _ _
  · show vr (stS S j q q1 q2 q3 q4) 64 (5 + j) = some (ad (un (un (un (un (un S 2 j q) 1 (1 + j) q1) 20 (1 + j) q2) 1 (5 + j) q3) 20 (5 + j) q4) 20 (5 + j))
    rw [ad_un_s]
    simp only [stS, piS, liS, vr_ui, vr_ur, vr_un]
    rw [if_neg (by omega), if_neg (by omega), if_pos (by simp)]
  · simp only [stS, piS, liS, vi_ur, vi_ui_e, vi_un]
    rw [if_pos (by simp)]
theorem DI.step {a0 : Nat} (h : DI a0 S j) (hj : j < 4) : DI a0 (stS S j q q1 q2 q3 q4) (j + 1) := by
  obtain ⟨h1, h2, h3, h4, h5, h6⟩ := h
  have ln : ∀ t, ¬ t = 1 + j → ¬ t = 5 + j → LnN S t → LnN (stS S j q q1 q2 q3 q4) t := fun t t1 t2 hl => by
    obtain ⟨b1, b2, b3, b4⟩ := hl
    exact ⟨by rw [stS_lv (by omega)]; exact b1, by rw [stS_lv (by omega)]; exact b2, by rw [stS_vr (by omega), stS_ad (by omega)]; exact b3, by rw [stS_vi (by omega)]; exact b4⟩
  refine ⟨by rw [stS_ad (by omega)]; exact h1, ?_, fun e => by rw [stS_lv (by omega)]; exact h3 e, fun n hn => ?_, ln 0 (by omega) (by omega) h5, fun i hi => by rw [stS_vi (by omega)]; exact h6 i hi⟩
  · obtain ⟨⟨l1, l2, l3, l4, l5⟩, d1, d2, d3, d4, d5, d6, d7, d8, d9, d10, d11, d12, d13⟩ := h2
    unfold SD
    rw [stS_lv (by omega), stS_lv (by omega), stS_lv (by omega), stS_lv (by omega), stS_lv (by omega), stS_vr (g := 0) (by omega), stS_ad (c := 22) (by omega), stS_vi (g := 1) (by omega), stS_vr (g := 2) (by omega), stS_ad (c := 23) (by omega), stS_vi (g := 3) (by omega), stS_vr (g := 4) (by omega), stS_ad (c := 1) (by omega), stS_vr (g := 5) (by omega), stS_ad (c := 24) (by omega), stS_vr (g := 6) (by omega), stS_ad (c := 21) (by omega), stS_vi (g := 7) (by omega), stS_vi (g := 8) (by omega), stS_vi (g := 9) (by omega), stS_vi (g := 10) (by omega), stS_vr (g := 11) (by omega), stS_vi (g := 12) (by omega), stS_ad (c := 4) (by omega)]
    exact ⟨⟨l1, l2, l3, l4, l5⟩, d1, d2, d3, d4, d5, d6, d7, d8, d9, d10, d11, d12, d13⟩
  · by_cases e : n = j
    · rw [e]; exact stS_pl
    · obtain ⟨⟨b1, b2, b3, b4⟩, c1, c2⟩ := h4 n (by omega)
      refine ⟨⟨by rw [stS_lv (by omega)]; exact b1, by rw [stS_vr (by omega), stS_ad (by omega)]; exact b2, by rw [stS_vr (by omega), stS_ad (by omega)]; exact b3, by rw [stS_vr (by omega), stS_ad (by omega)]; exact b4⟩, ln _ (by omega) (by omega) c1, ln _ (by omega) (by omega) c2⟩
end InitView
theorem DI.zt {a0 : Nat} {S : Gs} {M : Mm} (hV : VM S M) (h : DI a0 S 4) : Zt P00 (fun _ => []) S M := by
  obtain ⟨h1, h2, h3, h4, h5, h6⟩ := h
  have z : ∀ g y, ¬ g = 48 → P00 g y = 0 := fun g y hg => by
    unfold P00
    rw [up_f hg]
  have n0 : nfb P00 = 0 := by unfold nfb; rw [z 42 0 (by decide)]; rfl
  have ne : nef P00 = 0 := by unfold nef; rw [z 4 0 (by decide)]; rfl
  refine ⟨hV, ⟨h2, fun n hn => ?_, fun t ht => ?_, fun e => ?_, fun i hi => ?_, fun i p hi => ?_, fun j hj => ?_⟩, wb_00, by rw [z 43 0 (by decide)]; rfl⟩
  · obtain ⟨⟨b1, b2, b3, b4⟩, -, -⟩ := h4 n hn
    exact ⟨b1, b2, b3, b4, fun q => absurd (z 51 0 (by decide)) q⟩
  · have hl : LnN S t := by
      by_cases e : t = 0
      · rw [e]; exact h5
      by_cases e4 : t < 5
      · have := (h4 (t - 1) (by omega)).2.1
        rw [show 1 + (t - 1) = t by omega] at this
        exact this
      · have := (h4 (t - 5) (by omega)).2.2
        rw [show 5 + (t - 5) = t by omega] at this
        exact this
    obtain ⟨b1, b2, b3, b4⟩ := hl
    exact ⟨b1, b2, b3, b4, Nat.zero_le _, fun j hj => absurd hj (Nat.not_lt_zero _)⟩
  · rw [ne, h3 e]
    exact ⟨⟨fun q => absurd q (Nat.not_lt_zero _), fun q => absurd q (by decide)⟩, fun q => absurd q (by decide)⟩
  · rw [n0] at hi; exact absurd hi (Nat.not_lt_zero _)
  · rw [n0] at hi; exact absurd hi (Nat.not_lt_zero _)
  · rw [h6 j hj, z 40 j (by decide)]
