/-! standing, running (by program: wip/tools/gen_s22.py) -/
theorem and1 {x : Int32} (h : x = 0 ∨ x = 1) : x &&& 1 = x := by rcases h with h | h <;> subst h <;> rfl
theorem and0 {x : Int32} (h : x = 0 ∨ x = 1) : x &&& 0 = 0 := by rcases h with h | h <;> subst h <;> rfl
theorem sa_b (P : Pst) : ∀ j, sa P j = 0 ∨ sa P j = 1
  | 0 => Or.inr rfl
  | j + 1 => by
    show (if P 5 j = 2 then sa P j &&& 1 else sa P j &&& 0) = 0 ∨ (if P 5 j = 2 then sa P j &&& 1 else sa P j &&& 0) = 1
    split
    · rw [and1 (sa_b P j)]; exact sa_b P j
    · rw [and0 (sa_b P j)]; exact Or.inl rfl
theorem so_s (P : Pst) (j : Nat) : so P (j + 1) = if P 5 j = 0 then so P j ||| 1 else if P 5 j = 1 then (if P 15 j = 4 then so P j ||| 1 else so P j ||| 0) else so P j ||| 0 := rfl
theorem so_b (P : Pst) : ∀ j, so P j = 0 ∨ so P j = 1
  | 0 => Or.inl rfl
  | j + 1 => by
    rw [so_s]
    split
    · rw [or1 (so_b P j)]; exact Or.inr rfl
    · split
      · split
        · rw [or1 (so_b P j)]; exact Or.inr rfl
        · rw [or0 (so_b P j)]; exact so_b P j
      · rw [or0 (so_b P j)]; exact so_b P j
theorem so_m {P : Pst} {j : Nat} (h : ¬ so P j = 0) : ¬ so P (j + 1) = 0 := by
  have h1 : so P j = 1 := by rcases so_b P j with q | q; exact absurd q h; exact q
  rw [so_s, h1]
  repeat' split
  all_goals decide
theorem so_mm {P : Pst} {j : Nat} (h : ¬ so P j = 0) : ∀ d, ¬ so P (j + d) = 0
  | 0 => h
  | d + 1 => so_m (so_mm h d)
def StA (P : Pst) : Prop := ∀ j, j < nfb P → (P 5 j = 0 ∨ P 5 j = 1 ∨ P 5 j = 2) ∧ (P 5 j = 1 ↔ ¬ P 15 j = 0)
def anI (x : Int32) : Int32 := if x = 0 then 2 else 1
set_option maxHeartbeats 1000000 in
set_option maxRecDepth 100000 in
theorem l_st {P : Pst} {LL : Lls} {S : Gs} {M M0 : Mm} (hZ : Zt P LL S M) (hA : StA P) : ∀ (r j : Nat) (M : Mm) (X : Option Value) (kb nb : Nat), j + r = nfb P → so P j = 0 → VM S M → G m_D_standing ownC M0 (fun r M' => r = some (.int (a_R_stands P)) ∧ VM S M') 1 kb nb M 4 [some (va_rf (some (ad S 0 0))), some (.int (anI (sa P j))), some (.int (nI j)), X] []
  | 0, j, M, X, kb, nb, hr, hso, hV => by
    have ej : j = nfb P := by omega
    have h10_ := n10 hZ.2.2.1
    refine g_iload_n d_D_standing_4 rfl ?_
    refine g_aload_n d_D_standing_5 rfl ?_
    refine v_geti (v := nI (nfb P)) (τ := 0) 3 rfl hV (sl_0 hZ.2.1) (by decide) (by decide) fl_D_25 rfl d_D_standing_6 rfl ((sd_3 hZ.2.1).trans (nf_nI hZ.2.2.1)) ?_
    refine g_icmp_ge 57 d_D_standing_9 (by decide) (fun c_9 => ?_) (fun c_9 => ?_)
    · skip
      refine g_iload_n d_D_standing_57 rfl ?_
      exact g_ireturn d_D_standing_58 rfl ⟨by unfold a_R_stands; rw [show tn (P 42 0) = j from ej.symm, if_pos hso]; rfl, hV⟩
    · exact absurd c_9 (fun h => h (by rw [ej]; exact Int32.le_refl _))
  | r + 1, j, M, X, kb, nb, hr, hso, hV => by
    have h10_ := n10 hZ.2.2.1
    have hlt : j < nfb P := by omega
    obtain ⟨c5, c15⟩ := hA j hlt
    have hnf : ∀ h : ¬ so P (j + 1) = 0, ¬ so P (tn (P 42 0)) = 0 := fun h => by
      have := so_mm h r
      rw [show j + 1 + r = tn (P 42 0) by have : j + (r + 1) = tn (P 42 0) := hr; omega] at this
      exact this
    by_cases h2 : P 5 j = 2
    · have eso : so P (j + 1) = 0 := by rw [so_s, if_neg (by rw [h2]; decide), if_neg (by rw [h2]; decide), or0 (so_b P j)]; exact hso
      have esa : sa P (j + 1) = sa P j := by show (if P 5 j = 2 then sa P j &&& 1 else sa P j &&& 0) = _; rw [if_pos h2, and1 (sa_b P j)]
      refine g_iload_n d_D_standing_4 rfl ?_
      refine g_aload_n d_D_standing_5 rfl ?_
      refine v_geti (v := nI (nfb P)) (τ := 0) 3 rfl hV (sl_0 hZ.2.1) (by decide) (by decide) fl_D_25 rfl d_D_standing_6 rfl ((sd_3 hZ.2.1).trans (nf_nI hZ.2.2.1)) ?_
      refine g_icmp_ge 57 d_D_standing_9 (by decide) (fun c_9 => ?_) (fun c_9 => ?_)
      · exact absurd c_9 (ix_nle rfl rfl hlt (by omega))
      · skip
        refine g_aload_n d_D_standing_12 rfl ?_
        refine g_iload_n d_D_standing_13 rfl ?_
        refine g_callV (k1 := kb) (n1 := nb) [.int (nI j)] cw_D_94 cv_D_fiberAt d_D_standing_14 rfl (hV.kdo (sl_0 hZ.2.1) (by decide)) rfl rfl ⟨by simp, by simp⟩ (by first | decide | omega) (by first | decide | omega) (by first | decide | omega) (fun _ _ h => h) (s_fiberInx ⟨hV, hZ.2⟩ hlt rfl) (fun r_ M h_ hfr_ => ?_)
        obtain ⟨rfl, hV⟩ := h_
        refine g_astore_n d_D_standing_17 (by decide) ?_
        refine g_aload_n d_D_standing_18 rfl ?_
        refine g_ifnull 51 d_D_standing_19 (by decide) (fun c_19 => ?_) (fun a_19 c_19 => ?_)
        · exact absurd (Eq.trans (Eq.symm (rfl : some (ad S 4 j) = some _)) c_19) (by simp)
        · skip
          refine g_aload_n d_D_standing_22 rfl ?_
          refine v_geti (v := 1) (τ := j) 262 rfl hV (sl_4 hZ.2.1 hlt) (by decide) (by decide) fl_D_98 rfl d_D_standing_23 rfl ((sf_262 hZ.2.1 hlt).trans (by rw [h2]; rfl)) ?_
          refine g_if_eq 32 d_D_standing_26 (by decide) (fun c_26 => ?_) (fun c_26 => ?_)
          · exact absurd c_26 (by decide)
          · skip
            refine g_goto 51 d_D_standing_29 (by decide) ?_
            refine g_iinc (v := nI (j + 1)) d_D_standing_51 rfl (nI_1 _) (by decide) ?_
            refine g_goto 4 d_D_standing_54 (by decide) ?_
            have ih := l_st hZ hA (M0 := M0) r (j + 1) M (some (va_rf (some (ad S 4 j)))) kb nb (by omega) eso hV
            rw [esa] at ih
            exact ih
    by_cases h0 : P 15 j = 0
    · have h5 : P 5 j = 0 := by rcases c5 with q | q | q; exact q; exact absurd h0 (c15.mp q); exact absurd q h2
      have hne := hnf (by rw [so_s, if_pos h5, or1 (so_b P j)]; decide)
      refine g_iload_n d_D_standing_4 rfl ?_
      refine g_aload_n d_D_standing_5 rfl ?_
      refine v_geti (v := nI (nfb P)) (τ := 0) 3 rfl hV (sl_0 hZ.2.1) (by decide) (by decide) fl_D_25 rfl d_D_standing_6 rfl ((sd_3 hZ.2.1).trans (nf_nI hZ.2.2.1)) ?_
      refine g_icmp_ge 57 d_D_standing_9 (by decide) (fun c_9 => ?_) (fun c_9 => ?_)
      · exact absurd c_9 (ix_nle rfl rfl hlt (by omega))
      · skip
        refine g_aload_n d_D_standing_12 rfl ?_
        refine g_iload_n d_D_standing_13 rfl ?_
        refine g_callV (k1 := kb) (n1 := nb) [.int (nI j)] cw_D_94 cv_D_fiberAt d_D_standing_14 rfl (hV.kdo (sl_0 hZ.2.1) (by decide)) rfl rfl ⟨by simp, by simp⟩ (by first | decide | omega) (by first | decide | omega) (by first | decide | omega) (fun _ _ h => h) (s_fiberInx ⟨hV, hZ.2⟩ hlt rfl) (fun r_ M h_ hfr_ => ?_)
        obtain ⟨rfl, hV⟩ := h_
        refine g_astore_n d_D_standing_17 (by decide) ?_
        refine g_aload_n d_D_standing_18 rfl ?_
        refine g_ifnull 51 d_D_standing_19 (by decide) (fun c_19 => ?_) (fun a_19 c_19 => ?_)
        · exact absurd (Eq.trans (Eq.symm (rfl : some (ad S 4 j) = some _)) c_19) (by simp)
        · skip
          refine g_aload_n d_D_standing_22 rfl ?_
          refine v_geti (v := 0) (τ := j) 262 rfl hV (sl_4 hZ.2.1 hlt) (by decide) (by decide) fl_D_98 rfl d_D_standing_23 rfl ((sf_262 hZ.2.1 hlt).trans (by unfold endI; rw [if_neg h2])) ?_
          refine g_if_eq 32 d_D_standing_26 (by decide) (fun c_26 => ?_) (fun c_26 => ?_)
          · skip
            refine g_aload_n d_D_standing_32 rfl ?_
            refine v_geti (v := P 15 j) (τ := j) 269 rfl hV (sl_4 hZ.2.1 hlt) (by decide) (by decide) fl_D_133 rfl d_D_standing_33 rfl (sf_269 hZ.2.1 hlt) ?_
            refine g_if_eq 47 d_D_standing_36 (by decide) (fun c_36 => ?_) (fun c_36 => ?_)
            · skip
              refine g_iconst (v := 0) d_D_standing_47 (by decide) ?_
              exact g_ireturn d_D_standing_48 rfl ⟨by unfold a_R_stands; rw [if_neg hne], hV⟩
            · exact absurd (show P 15 j = 0 from h0) c_36
          · exact absurd c_26 (by decide)
    have h1 : P 5 j = 1 := c15.mpr h0
    have n0 : ¬ P 5 j = 0 := by rw [h1]; decide
    by_cases h4 : P 15 j = 4
    · have hne := hnf (by rw [so_s, if_neg n0, if_pos h1, if_pos h4, or1 (so_b P j)]; decide)
      refine g_iload_n d_D_standing_4 rfl ?_
      refine g_aload_n d_D_standing_5 rfl ?_
      refine v_geti (v := nI (nfb P)) (τ := 0) 3 rfl hV (sl_0 hZ.2.1) (by decide) (by decide) fl_D_25 rfl d_D_standing_6 rfl ((sd_3 hZ.2.1).trans (nf_nI hZ.2.2.1)) ?_
      refine g_icmp_ge 57 d_D_standing_9 (by decide) (fun c_9 => ?_) (fun c_9 => ?_)
      · exact absurd c_9 (ix_nle rfl rfl hlt (by omega))
      · skip
        refine g_aload_n d_D_standing_12 rfl ?_
        refine g_iload_n d_D_standing_13 rfl ?_
        refine g_callV (k1 := kb) (n1 := nb) [.int (nI j)] cw_D_94 cv_D_fiberAt d_D_standing_14 rfl (hV.kdo (sl_0 hZ.2.1) (by decide)) rfl rfl ⟨by simp, by simp⟩ (by first | decide | omega) (by first | decide | omega) (by first | decide | omega) (fun _ _ h => h) (s_fiberInx ⟨hV, hZ.2⟩ hlt rfl) (fun r_ M h_ hfr_ => ?_)
        obtain ⟨rfl, hV⟩ := h_
        refine g_astore_n d_D_standing_17 (by decide) ?_
        refine g_aload_n d_D_standing_18 rfl ?_
        refine g_ifnull 51 d_D_standing_19 (by decide) (fun c_19 => ?_) (fun a_19 c_19 => ?_)
        · exact absurd (Eq.trans (Eq.symm (rfl : some (ad S 4 j) = some _)) c_19) (by simp)
        · skip
          refine g_aload_n d_D_standing_22 rfl ?_
          refine v_geti (v := 0) (τ := j) 262 rfl hV (sl_4 hZ.2.1 hlt) (by decide) (by decide) fl_D_98 rfl d_D_standing_23 rfl ((sf_262 hZ.2.1 hlt).trans (by unfold endI; rw [if_neg h2])) ?_
          refine g_if_eq 32 d_D_standing_26 (by decide) (fun c_26 => ?_) (fun c_26 => ?_)
          · skip
            refine g_aload_n d_D_standing_32 rfl ?_
            refine v_geti (v := P 15 j) (τ := j) 269 rfl hV (sl_4 hZ.2.1 hlt) (by decide) (by decide) fl_D_133 rfl d_D_standing_33 rfl (sf_269 hZ.2.1 hlt) ?_
            refine g_if_eq 47 d_D_standing_36 (by decide) (fun c_36 => ?_) (fun c_36 => ?_)
            · exact absurd (show P 15 j = 0 from c_36) h0
            · skip
              refine g_aload_n d_D_standing_39 rfl ?_
              refine v_geti (v := P 15 j) (τ := j) 269 rfl hV (sl_4 hZ.2.1 hlt) (by decide) (by decide) fl_D_133 rfl d_D_standing_40 rfl (sf_269 hZ.2.1 hlt) ?_
              refine g_iconst (v := 4) d_D_standing_43 (by decide) ?_
              refine g_icmp_ne 49 d_D_standing_44 (by decide) (fun c_44 => ?_) (fun c_44 => ?_)
              · exact absurd (show P 15 j = 4 from h4) c_44
              · skip
                refine g_iconst (v := 0) d_D_standing_47 (by decide) ?_
                exact g_ireturn d_D_standing_48 rfl ⟨by unfold a_R_stands; rw [if_neg hne], hV⟩
          · exact absurd c_26 (by decide)
    have eso : so P (j + 1) = 0 := by rw [so_s, if_neg n0, if_pos h1, if_neg h4, or0 (so_b P j)]; exact hso
    have esa : anI (sa P (j + 1)) = 2 := by show anI (if P 5 j = 2 then sa P j &&& 1 else sa P j &&& 0) = _; rw [if_neg h2, and0 (sa_b P j)]; rfl
    refine g_iload_n d_D_standing_4 rfl ?_
    refine g_aload_n d_D_standing_5 rfl ?_
    refine v_geti (v := nI (nfb P)) (τ := 0) 3 rfl hV (sl_0 hZ.2.1) (by decide) (by decide) fl_D_25 rfl d_D_standing_6 rfl ((sd_3 hZ.2.1).trans (nf_nI hZ.2.2.1)) ?_
    refine g_icmp_ge 57 d_D_standing_9 (by decide) (fun c_9 => ?_) (fun c_9 => ?_)
    · exact absurd c_9 (ix_nle rfl rfl hlt (by omega))
    · skip
      refine g_aload_n d_D_standing_12 rfl ?_
      refine g_iload_n d_D_standing_13 rfl ?_
      refine g_callV (k1 := kb) (n1 := nb) [.int (nI j)] cw_D_94 cv_D_fiberAt d_D_standing_14 rfl (hV.kdo (sl_0 hZ.2.1) (by decide)) rfl rfl ⟨by simp, by simp⟩ (by first | decide | omega) (by first | decide | omega) (by first | decide | omega) (fun _ _ h => h) (s_fiberInx ⟨hV, hZ.2⟩ hlt rfl) (fun r_ M h_ hfr_ => ?_)
      obtain ⟨rfl, hV⟩ := h_
      refine g_astore_n d_D_standing_17 (by decide) ?_
      refine g_aload_n d_D_standing_18 rfl ?_
      refine g_ifnull 51 d_D_standing_19 (by decide) (fun c_19 => ?_) (fun a_19 c_19 => ?_)
      · exact absurd (Eq.trans (Eq.symm (rfl : some (ad S 4 j) = some _)) c_19) (by simp)
      · skip
        refine g_aload_n d_D_standing_22 rfl ?_
        refine v_geti (v := 0) (τ := j) 262 rfl hV (sl_4 hZ.2.1 hlt) (by decide) (by decide) fl_D_98 rfl d_D_standing_23 rfl ((sf_262 hZ.2.1 hlt).trans (by unfold endI; rw [if_neg h2])) ?_
        refine g_if_eq 32 d_D_standing_26 (by decide) (fun c_26 => ?_) (fun c_26 => ?_)
        · skip
          refine g_aload_n d_D_standing_32 rfl ?_
          refine v_geti (v := P 15 j) (τ := j) 269 rfl hV (sl_4 hZ.2.1 hlt) (by decide) (by decide) fl_D_133 rfl d_D_standing_33 rfl (sf_269 hZ.2.1 hlt) ?_
          refine g_if_eq 47 d_D_standing_36 (by decide) (fun c_36 => ?_) (fun c_36 => ?_)
          · exact absurd (show P 15 j = 0 from c_36) h0
          · skip
            refine g_aload_n d_D_standing_39 rfl ?_
            refine v_geti (v := P 15 j) (τ := j) 269 rfl hV (sl_4 hZ.2.1 hlt) (by decide) (by decide) fl_D_133 rfl d_D_standing_40 rfl (sf_269 hZ.2.1 hlt) ?_
            refine g_iconst (v := 4) d_D_standing_43 (by decide) ?_
            refine g_icmp_ne 49 d_D_standing_44 (by decide) (fun c_44 => ?_) (fun c_44 => ?_)
            · skip
              refine g_iconst (v := 2) d_D_standing_49 (by decide) ?_
              refine g_istore_n d_D_standing_50 (by decide) ?_
              refine g_iinc (v := nI (j + 1)) d_D_standing_51 rfl (nI_1 _) (by decide) ?_
              refine g_goto 4 d_D_standing_54 (by decide) ?_
              have ih := l_st hZ hA (M0 := M0) r (j + 1) M (some (va_rf (some (ad S 4 j)))) kb nb (by omega) eso hV
              rw [esa] at ih
              exact ih
            · exact absurd (show P 15 j = 4 from c_44) h4
        · exact absurd c_26 (by decide)
set_option maxHeartbeats 1000000 in
set_option maxRecDepth 100000 in
theorem s_D_standing {P : Pst} {LL : Lls} {S : Gs} {M : Mm} (hZ : Zt P LL S M) (hA : StA P) : Run m_D_standing ownC 1 0 0 [va_rf (some (ad S 0 0))] M (fun r M' => r = some (.int (a_R_stands P)) ∧ VM S M') := by
  have hV := hZ.1
  refine Run.ofG (by decide) (by simp [cat_int, cat_rf]) (Nat.le_of_ble_eq_true rfl) ?_
  refine g_iconst (v := 1) d_D_standing_0 (by decide) ?_
  refine g_istore_n d_D_standing_1 (by decide) ?_
  refine g_iconst (v := 0) d_D_standing_2 (by decide) ?_
  refine g_istore_n d_D_standing_3 (by decide) ?_
  exact l_st hZ hA (nfb P) 0 M _ _ _ (Nat.zero_add _) rfl hV
/-- one round of the class's run -/
def crP (P : Pst) (LL : Lls) : Pst := p_s140 (saP (inP (rnB P) (tn (rnB P 48 0))) (rnL P LL) (tn (rnB P 48 0))) (tn (rnB P 48 0)) (nI (tn (rnB P 48 0)))
def crL (P : Pst) (LL : Lls) : Lls := wkL (saP (inP (rnB P) (tn (rnB P 48 0))) (rnL P LL) (tn (rnB P 48 0))) (saL (inP (rnB P) (tn (rnB P 48 0))) (rnL P LL) (tn (rnB P 48 0))) (tn (rnB P 48 0))
def ciP : Nat → Pst → Lls → Pst
  | 0, P, _ => P
  | n + 1, P, LL => if rnB P 48 0 < 0 then rnB P else ciP n (crP P LL) (crL P LL)
def ciL : Nat → Pst → Lls → Lls
  | 0, _, LL => LL
  | n + 1, P, LL => if rnB P 48 0 < 0 then rnL P LL else ciL n (crP P LL) (crL P LL)
def COK : Nat → Pst → Lls → Prop
  | 0, P, _ => StA P
  | n + 1, P, LL => HtOK P LL ∧ (rnB P 48 0 < 0 → StA (rnB P)) ∧ (¬ rnB P 48 0 < 0 → tn (rnB P 48 0) < nfb (rnB P) ∧ rnB P 48 0 = nI (tn (rnB P 48 0)) ∧ WkOK (inP (rnB P) (tn (rnB P 48 0))) (rnL P LL) (tn (rnB P 48 0)) ∧ nfb P ≤ nfb (crP P LL) ∧ COK n (crP P LL) (crL P LL))
theorem nfb_rnB (P : Pst) : nfb (rnB P) = nfb P := by
  have hb : ∀ Q : Pst, nfb (p_b141 Q) = nfb Q := fun Q => by unfold nfb; rw [b141_o Q (by decide)]
  unfold rnB p_R_begin
  split
  · split
    · split
      · rw [hb, nfb_b]; rfl
      · rfl
    · exact hb P
  · rfl
set_option maxHeartbeats 1000000 in
set_option maxRecDepth 100000 in
theorem l_run {P0 : Pst} {S0 : Gs} {M0 : Mm} {n : Nat} (h00 : lv S0 0 0 = true) (hn20 : n ≤ 20) : ∀ (r j : Nat) (P : Pst) (LL : Lls) (S : Gs) (M : Mm) (kb nb : Nat), j + r = n → 30 * r ≤ kb → 200 * r ≤ nb → Zt P LL S M → Kp P0 S0 S → nfb P0 ≤ nfb P → COK r P LL → G m_D_run ownC M0 (fun q M' => q = some (.int (a_R_stands (ciP r P LL))) ∧ ∃ S', Zt (ciP r P LL) (ciL r P LL) S' M' ∧ Kp P0 S0 S') 7 kb nb M 22 [some (va_rf (some (ad S0 0 0))), some (.int (nI n)), some (.int (nI j))] []
  | 0, j, P, LL, S, M, kb, nb, hr, hkb, hnb, hZ, hK, hle, hO => by
    have hV := hZ.1
    have ej : j = n := by omega
    have hSt : StA P := hO
    refine g_iload_n d_D_run_22 rfl ?_
    refine g_iload_n d_D_run_23 rfl ?_
    refine g_icmp_ge 44 d_D_run_24 (by decide) (fun c_24 => ?_) (fun c_24 => ?_)
    · skip
      refine g_aload_n d_D_run_44 rfl ?_
      refine g_callV (k1 := kb) (n1 := nb) [] cw_D_90 cv_D_standing d_D_run_45 (ad_k rfl (hK.1 0 0 (by decide) (by decide) h00)) (hV.kdo (sl_0 hZ.2.1) (by decide)) rfl rfl ⟨by simp, by simp⟩ (by first | decide | omega) (by first | decide | omega) (by first | decide | omega) (fun _ _ h => h) (s_D_standing hZ hSt) (fun r_ M h_ hfr_ => ?_)
      obtain ⟨rfl, hV⟩ := h_
      exact g_ireturn d_D_run_48 rfl ⟨rfl, S, ⟨hV, hZ.2⟩, hK⟩
    · exact absurd c_24 (fun h => h (by rw [ej]; exact Int32.le_refl _))
  | r + 1, j, P, LL, S, M, kb, nb, hr, hkb, hnb, hZ, hK, hle, hO => by
    have hV := hZ.1
    have hjn : j < n := by omega
    have hO : HtOK P LL ∧ (rnB P 48 0 < 0 → StA (rnB P)) ∧ (¬ rnB P 48 0 < 0 → tn (rnB P 48 0) < nfb (rnB P) ∧ rnB P 48 0 = nI (tn (rnB P 48 0)) ∧ WkOK (inP (rnB P) (tn (rnB P 48 0))) (rnL P LL) (tn (rnB P 48 0)) ∧ nfb P ≤ nfb (crP P LL) ∧ COK r (crP P LL) (crL P LL)) := hO
    by_cases hneg : rnB P 48 0 < 0
    · have hSt := hO.2.1 hneg
      refine g_iload_n d_D_run_22 rfl ?_
      refine g_iload_n d_D_run_23 rfl ?_
      refine g_icmp_ge 44 d_D_run_24 (by decide) (fun c_24 => ?_) (fun c_24 => ?_)
      · exact absurd c_24 (ix_nle rfl rfl hjn (by omega))
      · skip
        refine g_aload_n d_D_run_27 rfl ?_
        refine g_callV (k1 := kb) (n1 := nb) [] cw_D_83 cv_D_hasTurn d_D_run_28 (ad_k rfl (hK.1 0 0 (by decide) (by decide) h00)) (hV.kdo (sl_0 hZ.2.1) (by decide)) rfl rfl ⟨by simp, by simp⟩ (by first | decide | omega) (by first | decide | omega) (by first | decide | omega) (fun _ _ h => h) (s_D_hasTurn hZ hO.1) (fun r_ M h_ hfr_ => ?_)
        obtain ⟨rfl, S1, hZ1, ha1, hb1⟩ := h_
        have hk1 : Kp P S S1 := Kp.of ha1 hb1
        have hV := hZ1.1
        refine g_if_eq 44 d_D_run_31 (by decide) (fun c_31 => ?_) (fun c_31 => ?_)
        · skip
          refine g_aload_n d_D_run_44 rfl ?_
          refine g_callV (k1 := kb) (n1 := nb) [] cw_D_90 cv_D_standing d_D_run_45 (ad_k (ad_k rfl (hK.1 0 0 (by decide) (by decide) h00)) (hk1.1 0 0 (by decide) (by decide) (sl_0 hZ.2.1))) (hV.kdo (sl_0 hZ1.2.1) (by decide)) rfl rfl ⟨by simp, by simp⟩ (by first | decide | omega) (by first | decide | omega) (by first | decide | omega) (fun _ _ h => h) (s_D_standing ⟨hV, hZ1.2⟩ hSt) (fun r_ M h_ hfr_ => ?_)
          obtain ⟨rfl, hV⟩ := h_
          have eP : ciP (r + 1) P LL = rnB P := if_pos hneg
          have eL : ciL (r + 1) P LL = rnL P LL := if_pos hneg
          exact g_ireturn d_D_run_48 rfl ⟨by rw [eP], S1, by rw [eP, eL]; exact ⟨hV, hZ1.2⟩, Kp.trans hK hk1 hle⟩
        · exact absurd c_31 (by rw [if_pos hneg]; decide)
    · obtain ⟨hi, h48, hWk, hle', hCk⟩ := hO.2.2 hneg
      have hle2 : nfb P0 ≤ nfb (crP P LL) := Nat.le_trans hle hle'
      have hle1 : nfb P0 ≤ nfb (rnB P) := Nat.le_trans hle (by rw [nfb_rnB]; exact Nat.le_refl _)
      refine g_iload_n d_D_run_22 rfl ?_
      refine g_iload_n d_D_run_23 rfl ?_
      refine g_icmp_ge 44 d_D_run_24 (by decide) (fun c_24 => ?_) (fun c_24 => ?_)
      · exact absurd c_24 (ix_nle rfl rfl hjn (by omega))
      · skip
        refine g_aload_n d_D_run_27 rfl ?_
        refine g_callV (k1 := kb) (n1 := nb) [] cw_D_83 cv_D_hasTurn d_D_run_28 (ad_k rfl (hK.1 0 0 (by decide) (by decide) h00)) (hV.kdo (sl_0 hZ.2.1) (by decide)) rfl rfl ⟨by simp, by simp⟩ (by first | decide | omega) (by first | decide | omega) (by first | decide | omega) (fun _ _ h => h) (s_D_hasTurn hZ hO.1) (fun r_ M h_ hfr_ => ?_)
        obtain ⟨rfl, S1, hZ1, ha1, hb1⟩ := h_
        have hk1 : Kp P S S1 := Kp.of ha1 hb1
        have hV := hZ1.1
        refine g_if_eq 44 d_D_run_31 (by decide) (fun c_31 => ?_) (fun c_31 => ?_)
        · exact absurd c_31 (by rw [if_neg hneg]; decide)
        · skip
          refine g_aload_n d_D_run_34 rfl ?_
          refine g_callV (k1 := (kb - 30)) (n1 := (nb - 200)) [] cw_D_87 cv_D_work d_D_run_35 (ad_k (ad_k rfl (hK.1 0 0 (by decide) (by decide) h00)) (hk1.1 0 0 (by decide) (by decide) (sl_0 hZ.2.1))) (hV.kdo (sl_0 hZ1.2.1) (by decide)) rfl rfl ⟨by simp, by simp⟩ (by first | decide | omega) (by first | decide | omega) (by first | decide | omega) (fun _ _ h => h) (s_D_work hZ1 hi h48 hWk) (fun r_ M h_ hfr_ => ?_)
          obtain ⟨rfl, S2, hZ2, hk2⟩ := h_
          refine g_iinc (v := nI (j + 1)) d_D_run_38 rfl (nI_1 _) (by decide) ?_
          refine g_goto 22 d_D_run_41 (by decide) ?_
          have eP : ciP (r + 1) P LL = ciP r (crP P LL) (crL P LL) := if_neg hneg
          have eL : ciL (r + 1) P LL = ciL r (crP P LL) (crL P LL) := if_neg hneg
          rw [eP, eL]
          exact l_run h00 hn20 r (j + 1) (crP P LL) (crL P LL) S2 M (kb - 30) (nb - 200) (by omega) (by omega) (by omega) hZ2 (Kp.trans (Kp.trans hK hk1 hle) hk2 hle1) hle2 hCk
