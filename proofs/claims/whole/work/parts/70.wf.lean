/-! which effects are well formed (by program: wip/tools/gen_s27.py) -/
theorem ef_none {P : Pst} {S : Gs} (hw : WB P) (x : Int32) : efAt P S x = none ↔ a_R_isEffect P x = 0 := by
  have h40 : tn (P 4 0) ≤ 40 := (hw 4 0).2
  have h := qd_in (P := fun _ _ => P 4 0) (n := tn (P 4 0)) (hw 4 0).1
  unfold efAt a_R_isEffect
  by_cases hx : x < 0
  · rw [if_pos hx]
    exact ⟨fun _ => by unfold a_R_in; rw [if_pos hx], fun _ => rfl⟩
  · rw [if_neg hx]
    by_cases h2 : P 4 0 ≤ x
    · rw [if_pos h2]
      refine ⟨fun _ => ?_, fun _ => rfl⟩
      by_cases q : a_R_in x 0 (P 4 0 - 1) = 0
      · exact q
      · obtain ⟨e, l⟩ := in_nat1 (m := tn (P 4 0)) q (hw 4 0).1 (by omega)
        exact absurd h2 (ix_nle (hw 4 0).1 e l (by omega))
    · rw [if_neg h2]
      refine ⟨fun q => absurd q (by simp), fun q => ?_⟩
      have hlt : tn x < tn (P 4 0) := ix_lt_of (tn_of hx) (hw 4 0).1 (by omega) h2
      unfold a_R_in at q
      rw [if_neg hx, if_neg (ix_nlt (a := tn (P 4 0) - 1) (b := tn x) (ix_sub (y := 1) (hw 4 0).1 (b := 1) rfl (by omega)) (tn_of hx) (by omega) (by omega))] at q
      exact absurd q (by decide)
theorem pl_none {S : Gs} (x : Int32) : plAt S x = none ↔ a_R_in x 0 3 = 0 := by
  unfold plAt
  by_cases hx : x < 0
  · rw [if_pos hx]; exact ⟨fun _ => by unfold a_R_in; rw [if_pos hx], fun _ => rfl⟩
  · rw [if_neg hx]
    by_cases h2 : 4 ≤ x
    · rw [if_pos h2]
      exact ⟨fun _ => by unfold a_R_in; rw [if_neg hx, if_pos (show (3 : Int32) < x from Int32.not_le.mp (fun q => absurd (ix_le_of (a := 4) (b := 3) rfl rfl (by decide) (by decide) (Int32.le_trans h2 q)) (by decide)))], fun _ => rfl⟩
    · rw [if_neg h2]
      refine ⟨fun q => absurd q (by simp), fun q => ?_⟩
      have hlt : tn x < 4 := ix_lt_of (b := 4) (tn_of hx) rfl (by decide) h2
      unfold a_R_in at q
      rw [if_neg hx, if_neg (show ¬ (3 : Int32) < x from ix_nlt (a := 3) (b := tn x) rfl (tn_of hx) (by omega) (by decide))] at q
      exact absurd q (by decide)
def wfC (P : Pst) (k a b c : Int32) : Int32 := if a_R_in k 0 25 = 0 then 0 else if ¬ a_R_needs k ≤ 0 ∧ a_R_isEffect P a = 0 then 0 else if ¬ a_R_needs k ≤ 1 ∧ a_R_isEffect P b = 0 then 0 else if ¬ a_R_needs k ≤ 2 ∧ a_R_isEffect P c = 0 then 0 else if ¬ a_R_in k 19 24 = 0 ∧ a_R_in a 0 3 = 0 then 0 else 1
theorem k26 (k : Int32) : (k < 0 ∨ nI 26 ≤ k) ∨ ∃ n, n ≤ 25 ∧ k = nI n := by
  by_cases h : k < 0
  · exact Or.inl (Or.inl h)
  · by_cases h2 : nI 26 ≤ k
    · exact Or.inl (Or.inr h2)
    · exact Or.inr ⟨tn k, by have := ix_lt_of (tn_of h) rfl (by decide) h2; omega, tn_of h⟩
set_option maxHeartbeats 1000000 in
set_option maxRecDepth 100000 in
theorem s_D_isWellFormed {P : Pst} {LL : Lls} {S : Gs} {M : Mm} (hZ : Zt P LL S M) (k a b c : Int32) : Run m_D_isWellFormed ownC 1 0 0 [va_rf (some (ad S 0 0)), .int k, .int a, .int b, .int c] M (fun r M' => r = some (.int (wfC P k a b c)) ∧ VM S M') := by
  have hV := hZ.1
  refine Run.ofG (by decide) (by simp [cat_int, cat_rf]) (Nat.le_of_ble_eq_true rfl) ?_
  rcases k26 k with ho | ⟨n, hn, rfl⟩
  · have e0 : a_R_in k 0 25 = 0 := by
      unfold a_R_in
      rcases ho with h | h
      · rw [if_pos h]
      · by_cases h0 : k < 0
        · rw [if_pos h0]
        · rw [if_neg h0, if_pos (show (25 : Int32) < k from Int32.not_le.mp (fun q => absurd (ix_le_of (a := 26) (b := 25) rfl rfl (by decide) (by decide) (Int32.le_trans h q)) (by decide)))]
    have ea : wfC P k a b c = 0 := if_pos e0
    rw [ea]
    refine g_iload_n d_D_isWellFormed_0 rfl ?_
    refine g_if_lt 12 d_D_isWellFormed_1 (by decide) (fun c_1 => ?_) (fun c_1 => ?_)
    · skip
      refine g_iconst (v := 0) d_D_isWellFormed_12 (by decide) ?_
      exact g_zreturn d_D_isWellFormed_13 rfl (Or.inl rfl) ⟨rfl, hV⟩
    · skip
      refine g_iload_n d_D_isWellFormed_4 rfl ?_
      refine g_partsLen pt_D_176 d_D_isWellFormed_5 d_D_isWellFormed_8 ?_
      refine g_icmp_lt 14 d_D_isWellFormed_9 (by decide) (fun c_9 => ?_) (fun c_9 => ?_)
      · skip
        rcases ho with h | h
        · exact absurd h c_1
        · exact absurd c_9 (Int32.not_lt.mpr h)
      · skip
        refine g_iconst (v := 0) d_D_isWellFormed_12 (by decide) ?_
        exact g_zreturn d_D_isWellFormed_13 rfl (Or.inl rfl) ⟨rfl, hV⟩
  have hc : n = 0 ∨ n = 1 ∨ n = 2 ∨ n = 3 ∨ n = 4 ∨ n = 5 ∨ n = 6 ∨ n = 7 ∨ n = 8 ∨ n = 9 ∨ n = 10 ∨ n = 11 ∨ n = 12 ∨ n = 13 ∨ n = 14 ∨ n = 15 ∨ n = 16 ∨ n = 17 ∨ n = 18 ∨ n = 19 ∨ n = 20 ∨ n = 21 ∨ n = 22 ∨ n = 23 ∨ n = 24 ∨ n = 25 := by omega
  rcases hc with rfl | rfl | rfl | rfl | rfl | rfl | rfl | rfl | rfl | rfl | rfl | rfl | rfl | rfl | rfl | rfl | rfl | rfl | rfl | rfl | rfl | rfl | rfl | rfl | rfl | rfl
  · skip
    refine g_iload_n d_D_isWellFormed_0 rfl ?_
    refine g_if_lt 12 d_D_isWellFormed_1 (by decide) (fun c_1 => ?_) (fun c_1 => ?_)
    · exact absurd c_1 (by decide)
    · skip
      refine g_iload_n d_D_isWellFormed_4 rfl ?_
      refine g_partsLen pt_D_176 d_D_isWellFormed_5 d_D_isWellFormed_8 ?_
      refine g_icmp_lt 14 d_D_isWellFormed_9 (by decide) (fun c_9 => ?_) (fun c_9 => ?_)
      · skip
        refine g_partsAt (v := 0) (j := 0) pt_D_176 d_D_isWellFormed_14 d_D_isWellFormed_17 rfl d_D_isWellFormed_18 rfl (by decide) rfl ?_
        refine g_istore d_D_isWellFormed_19 (by decide) ?_
        refine g_iload d_D_isWellFormed_21 rfl ?_
        refine g_iconst (v := 1) d_D_isWellFormed_23 (by decide) ?_
        refine g_icmp_lt 35 d_D_isWellFormed_24 (by decide) (fun c_24 => ?_) (fun c_24 => ?_)
        · skip
          refine g_iload d_D_isWellFormed_35 rfl ?_
          refine g_iconst (v := 2) d_D_isWellFormed_37 (by decide) ?_
          refine g_icmp_lt 49 d_D_isWellFormed_38 (by decide) (fun c_38 => ?_) (fun c_38 => ?_)
          · skip
            refine g_iload d_D_isWellFormed_49 rfl ?_
            refine g_iconst (v := 3) d_D_isWellFormed_51 (by decide) ?_
            refine g_icmp_lt 64 d_D_isWellFormed_52 (by decide) (fun c_52 => ?_) (fun c_52 => ?_)
            · skip
              refine g_iload_n d_D_isWellFormed_64 rfl ?_
              refine g_callS (k1 := 0) (n1 := 0) [.int (nI 0)] cw_D_179 cs_D_isAtPlace d_D_isWellFormed_65 rfl rfl ⟨by simp, by simp⟩ (by first | decide | omega) (by first | decide | omega) (by first | decide | omega) (fun _ _ h => h) (s_D_isAtPlace hV _) (fun r_ M h_ hfr_ => ?_)
              obtain ⟨rfl, hV⟩ := h_
              refine g_if_eq 79 d_D_isWellFormed_68 (by decide) (fun c_68 => ?_) (fun c_68 => ?_)
              · skip
                refine g_iconst (v := 1) d_D_isWellFormed_79 (by decide) ?_
                refine g_goto 84 d_D_isWellFormed_80 (by decide) ?_
                exact g_zreturn d_D_isWellFormed_84 rfl (Or.inr rfl) ⟨by unfold wfC; rw [if_neg (show ¬ a_R_in (nI 0) 0 25 = 0 by decide), if_neg (show ¬ (¬ a_R_needs (nI 0) ≤ 0 ∧ a_R_isEffect P a = 0) from fun q => q.1 (by decide)), if_neg (show ¬ (¬ a_R_needs (nI 0) ≤ 1 ∧ a_R_isEffect P b = 0) from fun q => q.1 (by decide)), if_neg (show ¬ (¬ a_R_needs (nI 0) ≤ 2 ∧ a_R_isEffect P c = 0) from fun q => q.1 (by decide)), if_neg (show ¬ (¬ a_R_in (nI 0) 19 24 = 0 ∧ a_R_in a 0 3 = 0) from fun q => q.1 (by decide))], hV⟩
              · exact absurd c_68 (by decide)
            · exact absurd c_52 (by decide)
          · exact absurd c_38 (by decide)
        · exact absurd c_24 (by decide)
      · exact absurd c_9 (by decide)
  · skip
    refine g_iload_n d_D_isWellFormed_0 rfl ?_
    refine g_if_lt 12 d_D_isWellFormed_1 (by decide) (fun c_1 => ?_) (fun c_1 => ?_)
    · exact absurd c_1 (by decide)
    · skip
      refine g_iload_n d_D_isWellFormed_4 rfl ?_
      refine g_partsLen pt_D_176 d_D_isWellFormed_5 d_D_isWellFormed_8 ?_
      refine g_icmp_lt 14 d_D_isWellFormed_9 (by decide) (fun c_9 => ?_) (fun c_9 => ?_)
      · skip
        refine g_partsAt (v := 0) (j := 1) pt_D_176 d_D_isWellFormed_14 d_D_isWellFormed_17 rfl d_D_isWellFormed_18 rfl (by decide) rfl ?_
        refine g_istore d_D_isWellFormed_19 (by decide) ?_
        refine g_iload d_D_isWellFormed_21 rfl ?_
        refine g_iconst (v := 1) d_D_isWellFormed_23 (by decide) ?_
        refine g_icmp_lt 35 d_D_isWellFormed_24 (by decide) (fun c_24 => ?_) (fun c_24 => ?_)
        · skip
          refine g_iload d_D_isWellFormed_35 rfl ?_
          refine g_iconst (v := 2) d_D_isWellFormed_37 (by decide) ?_
          refine g_icmp_lt 49 d_D_isWellFormed_38 (by decide) (fun c_38 => ?_) (fun c_38 => ?_)
          · skip
            refine g_iload d_D_isWellFormed_49 rfl ?_
            refine g_iconst (v := 3) d_D_isWellFormed_51 (by decide) ?_
            refine g_icmp_lt 64 d_D_isWellFormed_52 (by decide) (fun c_52 => ?_) (fun c_52 => ?_)
            · skip
              refine g_iload_n d_D_isWellFormed_64 rfl ?_
              refine g_callS (k1 := 0) (n1 := 0) [.int (nI 1)] cw_D_179 cs_D_isAtPlace d_D_isWellFormed_65 rfl rfl ⟨by simp, by simp⟩ (by first | decide | omega) (by first | decide | omega) (by first | decide | omega) (fun _ _ h => h) (s_D_isAtPlace hV _) (fun r_ M h_ hfr_ => ?_)
              obtain ⟨rfl, hV⟩ := h_
              refine g_if_eq 79 d_D_isWellFormed_68 (by decide) (fun c_68 => ?_) (fun c_68 => ?_)
              · skip
                refine g_iconst (v := 1) d_D_isWellFormed_79 (by decide) ?_
                refine g_goto 84 d_D_isWellFormed_80 (by decide) ?_
                exact g_zreturn d_D_isWellFormed_84 rfl (Or.inr rfl) ⟨by unfold wfC; rw [if_neg (show ¬ a_R_in (nI 1) 0 25 = 0 by decide), if_neg (show ¬ (¬ a_R_needs (nI 1) ≤ 0 ∧ a_R_isEffect P a = 0) from fun q => q.1 (by decide)), if_neg (show ¬ (¬ a_R_needs (nI 1) ≤ 1 ∧ a_R_isEffect P b = 0) from fun q => q.1 (by decide)), if_neg (show ¬ (¬ a_R_needs (nI 1) ≤ 2 ∧ a_R_isEffect P c = 0) from fun q => q.1 (by decide)), if_neg (show ¬ (¬ a_R_in (nI 1) 19 24 = 0 ∧ a_R_in a 0 3 = 0) from fun q => q.1 (by decide))], hV⟩
              · exact absurd c_68 (by decide)
            · exact absurd c_52 (by decide)
          · exact absurd c_38 (by decide)
        · exact absurd c_24 (by decide)
      · exact absurd c_9 (by decide)
  · skip
    refine g_iload_n d_D_isWellFormed_0 rfl ?_
    refine g_if_lt 12 d_D_isWellFormed_1 (by decide) (fun c_1 => ?_) (fun c_1 => ?_)
    · exact absurd c_1 (by decide)
    · skip
      refine g_iload_n d_D_isWellFormed_4 rfl ?_
      refine g_partsLen pt_D_176 d_D_isWellFormed_5 d_D_isWellFormed_8 ?_
      refine g_icmp_lt 14 d_D_isWellFormed_9 (by decide) (fun c_9 => ?_) (fun c_9 => ?_)
      · skip
        refine g_partsAt (v := 0) (j := 2) pt_D_176 d_D_isWellFormed_14 d_D_isWellFormed_17 rfl d_D_isWellFormed_18 rfl (by decide) rfl ?_
        refine g_istore d_D_isWellFormed_19 (by decide) ?_
        refine g_iload d_D_isWellFormed_21 rfl ?_
        refine g_iconst (v := 1) d_D_isWellFormed_23 (by decide) ?_
        refine g_icmp_lt 35 d_D_isWellFormed_24 (by decide) (fun c_24 => ?_) (fun c_24 => ?_)
        · skip
          refine g_iload d_D_isWellFormed_35 rfl ?_
          refine g_iconst (v := 2) d_D_isWellFormed_37 (by decide) ?_
          refine g_icmp_lt 49 d_D_isWellFormed_38 (by decide) (fun c_38 => ?_) (fun c_38 => ?_)
          · skip
            refine g_iload d_D_isWellFormed_49 rfl ?_
            refine g_iconst (v := 3) d_D_isWellFormed_51 (by decide) ?_
            refine g_icmp_lt 64 d_D_isWellFormed_52 (by decide) (fun c_52 => ?_) (fun c_52 => ?_)
            · skip
              refine g_iload_n d_D_isWellFormed_64 rfl ?_
              refine g_callS (k1 := 0) (n1 := 0) [.int (nI 2)] cw_D_179 cs_D_isAtPlace d_D_isWellFormed_65 rfl rfl ⟨by simp, by simp⟩ (by first | decide | omega) (by first | decide | omega) (by first | decide | omega) (fun _ _ h => h) (s_D_isAtPlace hV _) (fun r_ M h_ hfr_ => ?_)
              obtain ⟨rfl, hV⟩ := h_
              refine g_if_eq 79 d_D_isWellFormed_68 (by decide) (fun c_68 => ?_) (fun c_68 => ?_)
              · skip
                refine g_iconst (v := 1) d_D_isWellFormed_79 (by decide) ?_
                refine g_goto 84 d_D_isWellFormed_80 (by decide) ?_
                exact g_zreturn d_D_isWellFormed_84 rfl (Or.inr rfl) ⟨by unfold wfC; rw [if_neg (show ¬ a_R_in (nI 2) 0 25 = 0 by decide), if_neg (show ¬ (¬ a_R_needs (nI 2) ≤ 0 ∧ a_R_isEffect P a = 0) from fun q => q.1 (by decide)), if_neg (show ¬ (¬ a_R_needs (nI 2) ≤ 1 ∧ a_R_isEffect P b = 0) from fun q => q.1 (by decide)), if_neg (show ¬ (¬ a_R_needs (nI 2) ≤ 2 ∧ a_R_isEffect P c = 0) from fun q => q.1 (by decide)), if_neg (show ¬ (¬ a_R_in (nI 2) 19 24 = 0 ∧ a_R_in a 0 3 = 0) from fun q => q.1 (by decide))], hV⟩
              · exact absurd c_68 (by decide)
            · exact absurd c_52 (by decide)
          · exact absurd c_38 (by decide)
        · exact absurd c_24 (by decide)
      · exact absurd c_9 (by decide)
  · skip
    refine g_iload_n d_D_isWellFormed_0 rfl ?_
    refine g_if_lt 12 d_D_isWellFormed_1 (by decide) (fun c_1 => ?_) (fun c_1 => ?_)
    · exact absurd c_1 (by decide)
    · skip
      refine g_iload_n d_D_isWellFormed_4 rfl ?_
      refine g_partsLen pt_D_176 d_D_isWellFormed_5 d_D_isWellFormed_8 ?_
      refine g_icmp_lt 14 d_D_isWellFormed_9 (by decide) (fun c_9 => ?_) (fun c_9 => ?_)
      · skip
        refine g_partsAt (v := 0) (j := 3) pt_D_176 d_D_isWellFormed_14 d_D_isWellFormed_17 rfl d_D_isWellFormed_18 rfl (by decide) rfl ?_
        refine g_istore d_D_isWellFormed_19 (by decide) ?_
        refine g_iload d_D_isWellFormed_21 rfl ?_
        refine g_iconst (v := 1) d_D_isWellFormed_23 (by decide) ?_
        refine g_icmp_lt 35 d_D_isWellFormed_24 (by decide) (fun c_24 => ?_) (fun c_24 => ?_)
        · skip
          refine g_iload d_D_isWellFormed_35 rfl ?_
          refine g_iconst (v := 2) d_D_isWellFormed_37 (by decide) ?_
          refine g_icmp_lt 49 d_D_isWellFormed_38 (by decide) (fun c_38 => ?_) (fun c_38 => ?_)
          · skip
            refine g_iload d_D_isWellFormed_49 rfl ?_
            refine g_iconst (v := 3) d_D_isWellFormed_51 (by decide) ?_
            refine g_icmp_lt 64 d_D_isWellFormed_52 (by decide) (fun c_52 => ?_) (fun c_52 => ?_)
            · skip
              refine g_iload_n d_D_isWellFormed_64 rfl ?_
              refine g_callS (k1 := 0) (n1 := 0) [.int (nI 3)] cw_D_179 cs_D_isAtPlace d_D_isWellFormed_65 rfl rfl ⟨by simp, by simp⟩ (by first | decide | omega) (by first | decide | omega) (by first | decide | omega) (fun _ _ h => h) (s_D_isAtPlace hV _) (fun r_ M h_ hfr_ => ?_)
              obtain ⟨rfl, hV⟩ := h_
              refine g_if_eq 79 d_D_isWellFormed_68 (by decide) (fun c_68 => ?_) (fun c_68 => ?_)
              · skip
                refine g_iconst (v := 1) d_D_isWellFormed_79 (by decide) ?_
                refine g_goto 84 d_D_isWellFormed_80 (by decide) ?_
                exact g_zreturn d_D_isWellFormed_84 rfl (Or.inr rfl) ⟨by unfold wfC; rw [if_neg (show ¬ a_R_in (nI 3) 0 25 = 0 by decide), if_neg (show ¬ (¬ a_R_needs (nI 3) ≤ 0 ∧ a_R_isEffect P a = 0) from fun q => q.1 (by decide)), if_neg (show ¬ (¬ a_R_needs (nI 3) ≤ 1 ∧ a_R_isEffect P b = 0) from fun q => q.1 (by decide)), if_neg (show ¬ (¬ a_R_needs (nI 3) ≤ 2 ∧ a_R_isEffect P c = 0) from fun q => q.1 (by decide)), if_neg (show ¬ (¬ a_R_in (nI 3) 19 24 = 0 ∧ a_R_in a 0 3 = 0) from fun q => q.1 (by decide))], hV⟩
              · exact absurd c_68 (by decide)
            · exact absurd c_52 (by decide)
          · exact absurd c_38 (by decide)
        · exact absurd c_24 (by decide)
      · exact absurd c_9 (by decide)
  · skip
    refine g_iload_n d_D_isWellFormed_0 rfl ?_
    refine g_if_lt 12 d_D_isWellFormed_1 (by decide) (fun c_1 => ?_) (fun c_1 => ?_)
    · exact absurd c_1 (by decide)
    · skip
      refine g_iload_n d_D_isWellFormed_4 rfl ?_
      refine g_partsLen pt_D_176 d_D_isWellFormed_5 d_D_isWellFormed_8 ?_
      refine g_icmp_lt 14 d_D_isWellFormed_9 (by decide) (fun c_9 => ?_) (fun c_9 => ?_)
      · skip
        refine g_partsAt (v := 2) (j := 4) pt_D_176 d_D_isWellFormed_14 d_D_isWellFormed_17 rfl d_D_isWellFormed_18 rfl (by decide) rfl ?_
        refine g_istore d_D_isWellFormed_19 (by decide) ?_
        refine g_iload d_D_isWellFormed_21 rfl ?_
        refine g_iconst (v := 1) d_D_isWellFormed_23 (by decide) ?_
        refine g_icmp_lt 35 d_D_isWellFormed_24 (by decide) (fun c_24 => ?_) (fun c_24 => ?_)
        · exact absurd c_24 (by decide)
        · skip
          refine g_aload_n d_D_isWellFormed_27 rfl ?_
          refine g_iload_n d_D_isWellFormed_28 rfl ?_
          refine g_callV (k1 := 0) (n1 := 0) [.int (a)] cw_D_69 cv_D_effectAt d_D_isWellFormed_29 rfl (hV.kdo (sl_0 hZ.2.1) (by decide)) rfl rfl ⟨by simp, by simp⟩ (by first | decide | omega) (by first | decide | omega) (by first | decide | omega) (fun _ _ h => h) (s_D_effectAt ⟨hV, hZ.2⟩ _) (fun r_ M h_ hfr_ => ?_)
          obtain ⟨rfl, hV⟩ := h_
          refine g_ifnull 83 d_D_isWellFormed_32 (by decide) (fun c_32 => ?_) (fun a_32 c_32 => ?_)
          · skip
            refine g_iconst (v := 0) d_D_isWellFormed_83 (by decide) ?_
            exact g_zreturn d_D_isWellFormed_84 rfl (Or.inl rfl) ⟨by unfold wfC; rw [if_neg (show ¬ a_R_in (nI 4) 0 25 = 0 by decide), if_pos ⟨(show ¬ a_R_needs (nI 4) ≤ 0 by decide), (ef_none hZ.2.2.1 a).mp c_32⟩], hV⟩
          · skip
            refine g_iload d_D_isWellFormed_35 rfl ?_
            refine g_iconst (v := 2) d_D_isWellFormed_37 (by decide) ?_
            refine g_icmp_lt 49 d_D_isWellFormed_38 (by decide) (fun c_38 => ?_) (fun c_38 => ?_)
            · exact absurd c_38 (by decide)
            · skip
              refine g_aload_n d_D_isWellFormed_41 rfl ?_
              refine g_iload_n d_D_isWellFormed_42 rfl ?_
              refine g_callV (k1 := 0) (n1 := 0) [.int (b)] cw_D_69 cv_D_effectAt d_D_isWellFormed_43 rfl (hV.kdo (sl_0 hZ.2.1) (by decide)) rfl rfl ⟨by simp, by simp⟩ (by first | decide | omega) (by first | decide | omega) (by first | decide | omega) (fun _ _ h => h) (s_D_effectAt ⟨hV, hZ.2⟩ _) (fun r_ M h_ hfr_ => ?_)
              obtain ⟨rfl, hV⟩ := h_
              refine g_ifnull 83 d_D_isWellFormed_46 (by decide) (fun c_46 => ?_) (fun a_46 c_46 => ?_)
              · skip
                refine g_iconst (v := 0) d_D_isWellFormed_83 (by decide) ?_
                exact g_zreturn d_D_isWellFormed_84 rfl (Or.inl rfl) ⟨by unfold wfC; rw [if_neg (show ¬ a_R_in (nI 4) 0 25 = 0 by decide), if_neg (show ¬ (¬ a_R_needs (nI 4) ≤ 0 ∧ a_R_isEffect P a = 0) from fun q => absurd ((ef_none (S := S) hZ.2.2.1 a).mpr q.2) (by rw [c_32]; simp)), if_pos ⟨(show ¬ a_R_needs (nI 4) ≤ 1 by decide), (ef_none hZ.2.2.1 b).mp c_46⟩], hV⟩
              · skip
                refine g_iload d_D_isWellFormed_49 rfl ?_
                refine g_iconst (v := 3) d_D_isWellFormed_51 (by decide) ?_
                refine g_icmp_lt 64 d_D_isWellFormed_52 (by decide) (fun c_52 => ?_) (fun c_52 => ?_)
                · skip
                  refine g_iload_n d_D_isWellFormed_64 rfl ?_
                  refine g_callS (k1 := 0) (n1 := 0) [.int (nI 4)] cw_D_179 cs_D_isAtPlace d_D_isWellFormed_65 rfl rfl ⟨by simp, by simp⟩ (by first | decide | omega) (by first | decide | omega) (by first | decide | omega) (fun _ _ h => h) (s_D_isAtPlace hV _) (fun r_ M h_ hfr_ => ?_)
                  obtain ⟨rfl, hV⟩ := h_
                  refine g_if_eq 79 d_D_isWellFormed_68 (by decide) (fun c_68 => ?_) (fun c_68 => ?_)
                  · skip
                    refine g_iconst (v := 1) d_D_isWellFormed_79 (by decide) ?_
                    refine g_goto 84 d_D_isWellFormed_80 (by decide) ?_
                    exact g_zreturn d_D_isWellFormed_84 rfl (Or.inr rfl) ⟨by unfold wfC; rw [if_neg (show ¬ a_R_in (nI 4) 0 25 = 0 by decide), if_neg (show ¬ (¬ a_R_needs (nI 4) ≤ 0 ∧ a_R_isEffect P a = 0) from fun q => absurd ((ef_none (S := S) hZ.2.2.1 a).mpr q.2) (by rw [c_32]; simp)), if_neg (show ¬ (¬ a_R_needs (nI 4) ≤ 1 ∧ a_R_isEffect P b = 0) from fun q => absurd ((ef_none (S := S) hZ.2.2.1 b).mpr q.2) (by rw [c_46]; simp)), if_neg (show ¬ (¬ a_R_needs (nI 4) ≤ 2 ∧ a_R_isEffect P c = 0) from fun q => q.1 (by decide)), if_neg (show ¬ (¬ a_R_in (nI 4) 19 24 = 0 ∧ a_R_in a 0 3 = 0) from fun q => q.1 (by decide))], hV⟩
                  · exact absurd c_68 (by decide)
                · exact absurd c_52 (by decide)
      · exact absurd c_9 (by decide)
  · skip
    refine g_iload_n d_D_isWellFormed_0 rfl ?_
    refine g_if_lt 12 d_D_isWellFormed_1 (by decide) (fun c_1 => ?_) (fun c_1 => ?_)
    · exact absurd c_1 (by decide)
    · skip
      refine g_iload_n d_D_isWellFormed_4 rfl ?_
      refine g_partsLen pt_D_176 d_D_isWellFormed_5 d_D_isWellFormed_8 ?_
      refine g_icmp_lt 14 d_D_isWellFormed_9 (by decide) (fun c_9 => ?_) (fun c_9 => ?_)
      · skip
        refine g_partsAt (v := 3) (j := 5) pt_D_176 d_D_isWellFormed_14 d_D_isWellFormed_17 rfl d_D_isWellFormed_18 rfl (by decide) rfl ?_
        refine g_istore d_D_isWellFormed_19 (by decide) ?_
        refine g_iload d_D_isWellFormed_21 rfl ?_
        refine g_iconst (v := 1) d_D_isWellFormed_23 (by decide) ?_
        refine g_icmp_lt 35 d_D_isWellFormed_24 (by decide) (fun c_24 => ?_) (fun c_24 => ?_)
        · exact absurd c_24 (by decide)
        · skip
          refine g_aload_n d_D_isWellFormed_27 rfl ?_
          refine g_iload_n d_D_isWellFormed_28 rfl ?_
          refine g_callV (k1 := 0) (n1 := 0) [.int (a)] cw_D_69 cv_D_effectAt d_D_isWellFormed_29 rfl (hV.kdo (sl_0 hZ.2.1) (by decide)) rfl rfl ⟨by simp, by simp⟩ (by first | decide | omega) (by first | decide | omega) (by first | decide | omega) (fun _ _ h => h) (s_D_effectAt ⟨hV, hZ.2⟩ _) (fun r_ M h_ hfr_ => ?_)
          obtain ⟨rfl, hV⟩ := h_
          refine g_ifnull 83 d_D_isWellFormed_32 (by decide) (fun c_32 => ?_) (fun a_32 c_32 => ?_)
          · skip
            refine g_iconst (v := 0) d_D_isWellFormed_83 (by decide) ?_
            exact g_zreturn d_D_isWellFormed_84 rfl (Or.inl rfl) ⟨by unfold wfC; rw [if_neg (show ¬ a_R_in (nI 5) 0 25 = 0 by decide), if_pos ⟨(show ¬ a_R_needs (nI 5) ≤ 0 by decide), (ef_none hZ.2.2.1 a).mp c_32⟩], hV⟩
          · skip
            refine g_iload d_D_isWellFormed_35 rfl ?_
            refine g_iconst (v := 2) d_D_isWellFormed_37 (by decide) ?_
            refine g_icmp_lt 49 d_D_isWellFormed_38 (by decide) (fun c_38 => ?_) (fun c_38 => ?_)
            · exact absurd c_38 (by decide)
            · skip
              refine g_aload_n d_D_isWellFormed_41 rfl ?_
              refine g_iload_n d_D_isWellFormed_42 rfl ?_
              refine g_callV (k1 := 0) (n1 := 0) [.int (b)] cw_D_69 cv_D_effectAt d_D_isWellFormed_43 rfl (hV.kdo (sl_0 hZ.2.1) (by decide)) rfl rfl ⟨by simp, by simp⟩ (by first | decide | omega) (by first | decide | omega) (by first | decide | omega) (fun _ _ h => h) (s_D_effectAt ⟨hV, hZ.2⟩ _) (fun r_ M h_ hfr_ => ?_)
              obtain ⟨rfl, hV⟩ := h_
              refine g_ifnull 83 d_D_isWellFormed_46 (by decide) (fun c_46 => ?_) (fun a_46 c_46 => ?_)
              · skip
                refine g_iconst (v := 0) d_D_isWellFormed_83 (by decide) ?_
                exact g_zreturn d_D_isWellFormed_84 rfl (Or.inl rfl) ⟨by unfold wfC; rw [if_neg (show ¬ a_R_in (nI 5) 0 25 = 0 by decide), if_neg (show ¬ (¬ a_R_needs (nI 5) ≤ 0 ∧ a_R_isEffect P a = 0) from fun q => absurd ((ef_none (S := S) hZ.2.2.1 a).mpr q.2) (by rw [c_32]; simp)), if_pos ⟨(show ¬ a_R_needs (nI 5) ≤ 1 by decide), (ef_none hZ.2.2.1 b).mp c_46⟩], hV⟩
              · skip
                refine g_iload d_D_isWellFormed_49 rfl ?_
                refine g_iconst (v := 3) d_D_isWellFormed_51 (by decide) ?_
                refine g_icmp_lt 64 d_D_isWellFormed_52 (by decide) (fun c_52 => ?_) (fun c_52 => ?_)
                · exact absurd c_52 (by decide)
                · skip
                  refine g_aload_n d_D_isWellFormed_55 rfl ?_
                  refine g_iload d_D_isWellFormed_56 rfl ?_
                  refine g_callV (k1 := 0) (n1 := 0) [.int (c)] cw_D_69 cv_D_effectAt d_D_isWellFormed_58 rfl (hV.kdo (sl_0 hZ.2.1) (by decide)) rfl rfl ⟨by simp, by simp⟩ (by first | decide | omega) (by first | decide | omega) (by first | decide | omega) (fun _ _ h => h) (s_D_effectAt ⟨hV, hZ.2⟩ _) (fun r_ M h_ hfr_ => ?_)
                  obtain ⟨rfl, hV⟩ := h_
                  refine g_ifnull 83 d_D_isWellFormed_61 (by decide) (fun c_61 => ?_) (fun a_61 c_61 => ?_)
                  · skip
                    refine g_iconst (v := 0) d_D_isWellFormed_83 (by decide) ?_
                    exact g_zreturn d_D_isWellFormed_84 rfl (Or.inl rfl) ⟨by unfold wfC; rw [if_neg (show ¬ a_R_in (nI 5) 0 25 = 0 by decide), if_neg (show ¬ (¬ a_R_needs (nI 5) ≤ 0 ∧ a_R_isEffect P a = 0) from fun q => absurd ((ef_none (S := S) hZ.2.2.1 a).mpr q.2) (by rw [c_32]; simp)), if_neg (show ¬ (¬ a_R_needs (nI 5) ≤ 1 ∧ a_R_isEffect P b = 0) from fun q => absurd ((ef_none (S := S) hZ.2.2.1 b).mpr q.2) (by rw [c_46]; simp)), if_pos ⟨(show ¬ a_R_needs (nI 5) ≤ 2 by decide), (ef_none hZ.2.2.1 c).mp c_61⟩], hV⟩
                  · skip
                    refine g_iload_n d_D_isWellFormed_64 rfl ?_
                    refine g_callS (k1 := 0) (n1 := 0) [.int (nI 5)] cw_D_179 cs_D_isAtPlace d_D_isWellFormed_65 rfl rfl ⟨by simp, by simp⟩ (by first | decide | omega) (by first | decide | omega) (by first | decide | omega) (fun _ _ h => h) (s_D_isAtPlace hV _) (fun r_ M h_ hfr_ => ?_)
                    obtain ⟨rfl, hV⟩ := h_
                    refine g_if_eq 79 d_D_isWellFormed_68 (by decide) (fun c_68 => ?_) (fun c_68 => ?_)
                    · skip
                      refine g_iconst (v := 1) d_D_isWellFormed_79 (by decide) ?_
                      refine g_goto 84 d_D_isWellFormed_80 (by decide) ?_
                      exact g_zreturn d_D_isWellFormed_84 rfl (Or.inr rfl) ⟨by unfold wfC; rw [if_neg (show ¬ a_R_in (nI 5) 0 25 = 0 by decide), if_neg (show ¬ (¬ a_R_needs (nI 5) ≤ 0 ∧ a_R_isEffect P a = 0) from fun q => absurd ((ef_none (S := S) hZ.2.2.1 a).mpr q.2) (by rw [c_32]; simp)), if_neg (show ¬ (¬ a_R_needs (nI 5) ≤ 1 ∧ a_R_isEffect P b = 0) from fun q => absurd ((ef_none (S := S) hZ.2.2.1 b).mpr q.2) (by rw [c_46]; simp)), if_neg (show ¬ (¬ a_R_needs (nI 5) ≤ 2 ∧ a_R_isEffect P c = 0) from fun q => absurd ((ef_none (S := S) hZ.2.2.1 c).mpr q.2) (by rw [c_61]; simp)), if_neg (show ¬ (¬ a_R_in (nI 5) 19 24 = 0 ∧ a_R_in a 0 3 = 0) from fun q => q.1 (by decide))], hV⟩
                    · exact absurd c_68 (by decide)
      · exact absurd c_9 (by decide)
  · skip
    refine g_iload_n d_D_isWellFormed_0 rfl ?_
    refine g_if_lt 12 d_D_isWellFormed_1 (by decide) (fun c_1 => ?_) (fun c_1 => ?_)
    · exact absurd c_1 (by decide)
    · skip
      refine g_iload_n d_D_isWellFormed_4 rfl ?_
      refine g_partsLen pt_D_176 d_D_isWellFormed_5 d_D_isWellFormed_8 ?_
      refine g_icmp_lt 14 d_D_isWellFormed_9 (by decide) (fun c_9 => ?_) (fun c_9 => ?_)
      · skip
        refine g_partsAt (v := 2) (j := 6) pt_D_176 d_D_isWellFormed_14 d_D_isWellFormed_17 rfl d_D_isWellFormed_18 rfl (by decide) rfl ?_
        refine g_istore d_D_isWellFormed_19 (by decide) ?_
        refine g_iload d_D_isWellFormed_21 rfl ?_
        refine g_iconst (v := 1) d_D_isWellFormed_23 (by decide) ?_
        refine g_icmp_lt 35 d_D_isWellFormed_24 (by decide) (fun c_24 => ?_) (fun c_24 => ?_)
        · exact absurd c_24 (by decide)
        · skip
          refine g_aload_n d_D_isWellFormed_27 rfl ?_
          refine g_iload_n d_D_isWellFormed_28 rfl ?_
          refine g_callV (k1 := 0) (n1 := 0) [.int (a)] cw_D_69 cv_D_effectAt d_D_isWellFormed_29 rfl (hV.kdo (sl_0 hZ.2.1) (by decide)) rfl rfl ⟨by simp, by simp⟩ (by first | decide | omega) (by first | decide | omega) (by first | decide | omega) (fun _ _ h => h) (s_D_effectAt ⟨hV, hZ.2⟩ _) (fun r_ M h_ hfr_ => ?_)
          obtain ⟨rfl, hV⟩ := h_
          refine g_ifnull 83 d_D_isWellFormed_32 (by decide) (fun c_32 => ?_) (fun a_32 c_32 => ?_)
          · skip
            refine g_iconst (v := 0) d_D_isWellFormed_83 (by decide) ?_
            exact g_zreturn d_D_isWellFormed_84 rfl (Or.inl rfl) ⟨by unfold wfC; rw [if_neg (show ¬ a_R_in (nI 6) 0 25 = 0 by decide), if_pos ⟨(show ¬ a_R_needs (nI 6) ≤ 0 by decide), (ef_none hZ.2.2.1 a).mp c_32⟩], hV⟩
          · skip
            refine g_iload d_D_isWellFormed_35 rfl ?_
            refine g_iconst (v := 2) d_D_isWellFormed_37 (by decide) ?_
            refine g_icmp_lt 49 d_D_isWellFormed_38 (by decide) (fun c_38 => ?_) (fun c_38 => ?_)
            · exact absurd c_38 (by decide)
            · skip
              refine g_aload_n d_D_isWellFormed_41 rfl ?_
              refine g_iload_n d_D_isWellFormed_42 rfl ?_
              refine g_callV (k1 := 0) (n1 := 0) [.int (b)] cw_D_69 cv_D_effectAt d_D_isWellFormed_43 rfl (hV.kdo (sl_0 hZ.2.1) (by decide)) rfl rfl ⟨by simp, by simp⟩ (by first | decide | omega) (by first | decide | omega) (by first | decide | omega) (fun _ _ h => h) (s_D_effectAt ⟨hV, hZ.2⟩ _) (fun r_ M h_ hfr_ => ?_)
              obtain ⟨rfl, hV⟩ := h_
              refine g_ifnull 83 d_D_isWellFormed_46 (by decide) (fun c_46 => ?_) (fun a_46 c_46 => ?_)
              · skip
                refine g_iconst (v := 0) d_D_isWellFormed_83 (by decide) ?_
                exact g_zreturn d_D_isWellFormed_84 rfl (Or.inl rfl) ⟨by unfold wfC; rw [if_neg (show ¬ a_R_in (nI 6) 0 25 = 0 by decide), if_neg (show ¬ (¬ a_R_needs (nI 6) ≤ 0 ∧ a_R_isEffect P a = 0) from fun q => absurd ((ef_none (S := S) hZ.2.2.1 a).mpr q.2) (by rw [c_32]; simp)), if_pos ⟨(show ¬ a_R_needs (nI 6) ≤ 1 by decide), (ef_none hZ.2.2.1 b).mp c_46⟩], hV⟩
              · skip
                refine g_iload d_D_isWellFormed_49 rfl ?_
                refine g_iconst (v := 3) d_D_isWellFormed_51 (by decide) ?_
                refine g_icmp_lt 64 d_D_isWellFormed_52 (by decide) (fun c_52 => ?_) (fun c_52 => ?_)
                · skip
                  refine g_iload_n d_D_isWellFormed_64 rfl ?_
                  refine g_callS (k1 := 0) (n1 := 0) [.int (nI 6)] cw_D_179 cs_D_isAtPlace d_D_isWellFormed_65 rfl rfl ⟨by simp, by simp⟩ (by first | decide | omega) (by first | decide | omega) (by first | decide | omega) (fun _ _ h => h) (s_D_isAtPlace hV _) (fun r_ M h_ hfr_ => ?_)
                  obtain ⟨rfl, hV⟩ := h_
                  refine g_if_eq 79 d_D_isWellFormed_68 (by decide) (fun c_68 => ?_) (fun c_68 => ?_)
                  · skip
                    refine g_iconst (v := 1) d_D_isWellFormed_79 (by decide) ?_
                    refine g_goto 84 d_D_isWellFormed_80 (by decide) ?_
                    exact g_zreturn d_D_isWellFormed_84 rfl (Or.inr rfl) ⟨by unfold wfC; rw [if_neg (show ¬ a_R_in (nI 6) 0 25 = 0 by decide), if_neg (show ¬ (¬ a_R_needs (nI 6) ≤ 0 ∧ a_R_isEffect P a = 0) from fun q => absurd ((ef_none (S := S) hZ.2.2.1 a).mpr q.2) (by rw [c_32]; simp)), if_neg (show ¬ (¬ a_R_needs (nI 6) ≤ 1 ∧ a_R_isEffect P b = 0) from fun q => absurd ((ef_none (S := S) hZ.2.2.1 b).mpr q.2) (by rw [c_46]; simp)), if_neg (show ¬ (¬ a_R_needs (nI 6) ≤ 2 ∧ a_R_isEffect P c = 0) from fun q => q.1 (by decide)), if_neg (show ¬ (¬ a_R_in (nI 6) 19 24 = 0 ∧ a_R_in a 0 3 = 0) from fun q => q.1 (by decide))], hV⟩
                  · exact absurd c_68 (by decide)
                · exact absurd c_52 (by decide)
      · exact absurd c_9 (by decide)
  · skip
    refine g_iload_n d_D_isWellFormed_0 rfl ?_
    refine g_if_lt 12 d_D_isWellFormed_1 (by decide) (fun c_1 => ?_) (fun c_1 => ?_)
    · exact absurd c_1 (by decide)
    · skip
      refine g_iload_n d_D_isWellFormed_4 rfl ?_
      refine g_partsLen pt_D_176 d_D_isWellFormed_5 d_D_isWellFormed_8 ?_
      refine g_icmp_lt 14 d_D_isWellFormed_9 (by decide) (fun c_9 => ?_) (fun c_9 => ?_)
      · skip
        refine g_partsAt (v := 3) (j := 7) pt_D_176 d_D_isWellFormed_14 d_D_isWellFormed_17 rfl d_D_isWellFormed_18 rfl (by decide) rfl ?_
        refine g_istore d_D_isWellFormed_19 (by decide) ?_
        refine g_iload d_D_isWellFormed_21 rfl ?_
        refine g_iconst (v := 1) d_D_isWellFormed_23 (by decide) ?_
        refine g_icmp_lt 35 d_D_isWellFormed_24 (by decide) (fun c_24 => ?_) (fun c_24 => ?_)
        · exact absurd c_24 (by decide)
        · skip
          refine g_aload_n d_D_isWellFormed_27 rfl ?_
          refine g_iload_n d_D_isWellFormed_28 rfl ?_
          refine g_callV (k1 := 0) (n1 := 0) [.int (a)] cw_D_69 cv_D_effectAt d_D_isWellFormed_29 rfl (hV.kdo (sl_0 hZ.2.1) (by decide)) rfl rfl ⟨by simp, by simp⟩ (by first | decide | omega) (by first | decide | omega) (by first | decide | omega) (fun _ _ h => h) (s_D_effectAt ⟨hV, hZ.2⟩ _) (fun r_ M h_ hfr_ => ?_)
          obtain ⟨rfl, hV⟩ := h_
          refine g_ifnull 83 d_D_isWellFormed_32 (by decide) (fun c_32 => ?_) (fun a_32 c_32 => ?_)
          · skip
            refine g_iconst (v := 0) d_D_isWellFormed_83 (by decide) ?_
            exact g_zreturn d_D_isWellFormed_84 rfl (Or.inl rfl) ⟨by unfold wfC; rw [if_neg (show ¬ a_R_in (nI 7) 0 25 = 0 by decide), if_pos ⟨(show ¬ a_R_needs (nI 7) ≤ 0 by decide), (ef_none hZ.2.2.1 a).mp c_32⟩], hV⟩
          · skip
            refine g_iload d_D_isWellFormed_35 rfl ?_
            refine g_iconst (v := 2) d_D_isWellFormed_37 (by decide) ?_
            refine g_icmp_lt 49 d_D_isWellFormed_38 (by decide) (fun c_38 => ?_) (fun c_38 => ?_)
            · exact absurd c_38 (by decide)
            · skip
              refine g_aload_n d_D_isWellFormed_41 rfl ?_
              refine g_iload_n d_D_isWellFormed_42 rfl ?_
              refine g_callV (k1 := 0) (n1 := 0) [.int (b)] cw_D_69 cv_D_effectAt d_D_isWellFormed_43 rfl (hV.kdo (sl_0 hZ.2.1) (by decide)) rfl rfl ⟨by simp, by simp⟩ (by first | decide | omega) (by first | decide | omega) (by first | decide | omega) (fun _ _ h => h) (s_D_effectAt ⟨hV, hZ.2⟩ _) (fun r_ M h_ hfr_ => ?_)
              obtain ⟨rfl, hV⟩ := h_
              refine g_ifnull 83 d_D_isWellFormed_46 (by decide) (fun c_46 => ?_) (fun a_46 c_46 => ?_)
              · skip
                refine g_iconst (v := 0) d_D_isWellFormed_83 (by decide) ?_
                exact g_zreturn d_D_isWellFormed_84 rfl (Or.inl rfl) ⟨by unfold wfC; rw [if_neg (show ¬ a_R_in (nI 7) 0 25 = 0 by decide), if_neg (show ¬ (¬ a_R_needs (nI 7) ≤ 0 ∧ a_R_isEffect P a = 0) from fun q => absurd ((ef_none (S := S) hZ.2.2.1 a).mpr q.2) (by rw [c_32]; simp)), if_pos ⟨(show ¬ a_R_needs (nI 7) ≤ 1 by decide), (ef_none hZ.2.2.1 b).mp c_46⟩], hV⟩
              · skip
                refine g_iload d_D_isWellFormed_49 rfl ?_
                refine g_iconst (v := 3) d_D_isWellFormed_51 (by decide) ?_
                refine g_icmp_lt 64 d_D_isWellFormed_52 (by decide) (fun c_52 => ?_) (fun c_52 => ?_)
                · exact absurd c_52 (by decide)
                · skip
                  refine g_aload_n d_D_isWellFormed_55 rfl ?_
                  refine g_iload d_D_isWellFormed_56 rfl ?_
                  refine g_callV (k1 := 0) (n1 := 0) [.int (c)] cw_D_69 cv_D_effectAt d_D_isWellFormed_58 rfl (hV.kdo (sl_0 hZ.2.1) (by decide)) rfl rfl ⟨by simp, by simp⟩ (by first | decide | omega) (by first | decide | omega) (by first | decide | omega) (fun _ _ h => h) (s_D_effectAt ⟨hV, hZ.2⟩ _) (fun r_ M h_ hfr_ => ?_)
                  obtain ⟨rfl, hV⟩ := h_
                  refine g_ifnull 83 d_D_isWellFormed_61 (by decide) (fun c_61 => ?_) (fun a_61 c_61 => ?_)
                  · skip
                    refine g_iconst (v := 0) d_D_isWellFormed_83 (by decide) ?_
                    exact g_zreturn d_D_isWellFormed_84 rfl (Or.inl rfl) ⟨by unfold wfC; rw [if_neg (show ¬ a_R_in (nI 7) 0 25 = 0 by decide), if_neg (show ¬ (¬ a_R_needs (nI 7) ≤ 0 ∧ a_R_isEffect P a = 0) from fun q => absurd ((ef_none (S := S) hZ.2.2.1 a).mpr q.2) (by rw [c_32]; simp)), if_neg (show ¬ (¬ a_R_needs (nI 7) ≤ 1 ∧ a_R_isEffect P b = 0) from fun q => absurd ((ef_none (S := S) hZ.2.2.1 b).mpr q.2) (by rw [c_46]; simp)), if_pos ⟨(show ¬ a_R_needs (nI 7) ≤ 2 by decide), (ef_none hZ.2.2.1 c).mp c_61⟩], hV⟩
                  · skip
                    refine g_iload_n d_D_isWellFormed_64 rfl ?_
                    refine g_callS (k1 := 0) (n1 := 0) [.int (nI 7)] cw_D_179 cs_D_isAtPlace d_D_isWellFormed_65 rfl rfl ⟨by simp, by simp⟩ (by first | decide | omega) (by first | decide | omega) (by first | decide | omega) (fun _ _ h => h) (s_D_isAtPlace hV _) (fun r_ M h_ hfr_ => ?_)
                    obtain ⟨rfl, hV⟩ := h_
                    refine g_if_eq 79 d_D_isWellFormed_68 (by decide) (fun c_68 => ?_) (fun c_68 => ?_)
                    · skip
                      refine g_iconst (v := 1) d_D_isWellFormed_79 (by decide) ?_
                      refine g_goto 84 d_D_isWellFormed_80 (by decide) ?_
                      exact g_zreturn d_D_isWellFormed_84 rfl (Or.inr rfl) ⟨by unfold wfC; rw [if_neg (show ¬ a_R_in (nI 7) 0 25 = 0 by decide), if_neg (show ¬ (¬ a_R_needs (nI 7) ≤ 0 ∧ a_R_isEffect P a = 0) from fun q => absurd ((ef_none (S := S) hZ.2.2.1 a).mpr q.2) (by rw [c_32]; simp)), if_neg (show ¬ (¬ a_R_needs (nI 7) ≤ 1 ∧ a_R_isEffect P b = 0) from fun q => absurd ((ef_none (S := S) hZ.2.2.1 b).mpr q.2) (by rw [c_46]; simp)), if_neg (show ¬ (¬ a_R_needs (nI 7) ≤ 2 ∧ a_R_isEffect P c = 0) from fun q => absurd ((ef_none (S := S) hZ.2.2.1 c).mpr q.2) (by rw [c_61]; simp)), if_neg (show ¬ (¬ a_R_in (nI 7) 19 24 = 0 ∧ a_R_in a 0 3 = 0) from fun q => q.1 (by decide))], hV⟩
                    · exact absurd c_68 (by decide)
      · exact absurd c_9 (by decide)
  · skip
    refine g_iload_n d_D_isWellFormed_0 rfl ?_
    refine g_if_lt 12 d_D_isWellFormed_1 (by decide) (fun c_1 => ?_) (fun c_1 => ?_)
    · exact absurd c_1 (by decide)
    · skip
      refine g_iload_n d_D_isWellFormed_4 rfl ?_
      refine g_partsLen pt_D_176 d_D_isWellFormed_5 d_D_isWellFormed_8 ?_
      refine g_icmp_lt 14 d_D_isWellFormed_9 (by decide) (fun c_9 => ?_) (fun c_9 => ?_)
      · skip
        refine g_partsAt (v := 1) (j := 8) pt_D_176 d_D_isWellFormed_14 d_D_isWellFormed_17 rfl d_D_isWellFormed_18 rfl (by decide) rfl ?_
        refine g_istore d_D_isWellFormed_19 (by decide) ?_
        refine g_iload d_D_isWellFormed_21 rfl ?_
        refine g_iconst (v := 1) d_D_isWellFormed_23 (by decide) ?_
        refine g_icmp_lt 35 d_D_isWellFormed_24 (by decide) (fun c_24 => ?_) (fun c_24 => ?_)
        · exact absurd c_24 (by decide)
        · skip
          refine g_aload_n d_D_isWellFormed_27 rfl ?_
          refine g_iload_n d_D_isWellFormed_28 rfl ?_
          refine g_callV (k1 := 0) (n1 := 0) [.int (a)] cw_D_69 cv_D_effectAt d_D_isWellFormed_29 rfl (hV.kdo (sl_0 hZ.2.1) (by decide)) rfl rfl ⟨by simp, by simp⟩ (by first | decide | omega) (by first | decide | omega) (by first | decide | omega) (fun _ _ h => h) (s_D_effectAt ⟨hV, hZ.2⟩ _) (fun r_ M h_ hfr_ => ?_)
          obtain ⟨rfl, hV⟩ := h_
          refine g_ifnull 83 d_D_isWellFormed_32 (by decide) (fun c_32 => ?_) (fun a_32 c_32 => ?_)
          · skip
            refine g_iconst (v := 0) d_D_isWellFormed_83 (by decide) ?_
            exact g_zreturn d_D_isWellFormed_84 rfl (Or.inl rfl) ⟨by unfold wfC; rw [if_neg (show ¬ a_R_in (nI 8) 0 25 = 0 by decide), if_pos ⟨(show ¬ a_R_needs (nI 8) ≤ 0 by decide), (ef_none hZ.2.2.1 a).mp c_32⟩], hV⟩
          · skip
            refine g_iload d_D_isWellFormed_35 rfl ?_
            refine g_iconst (v := 2) d_D_isWellFormed_37 (by decide) ?_
            refine g_icmp_lt 49 d_D_isWellFormed_38 (by decide) (fun c_38 => ?_) (fun c_38 => ?_)
            · skip
              refine g_iload d_D_isWellFormed_49 rfl ?_
              refine g_iconst (v := 3) d_D_isWellFormed_51 (by decide) ?_
              refine g_icmp_lt 64 d_D_isWellFormed_52 (by decide) (fun c_52 => ?_) (fun c_52 => ?_)
              · skip
                refine g_iload_n d_D_isWellFormed_64 rfl ?_
                refine g_callS (k1 := 0) (n1 := 0) [.int (nI 8)] cw_D_179 cs_D_isAtPlace d_D_isWellFormed_65 rfl rfl ⟨by simp, by simp⟩ (by first | decide | omega) (by first | decide | omega) (by first | decide | omega) (fun _ _ h => h) (s_D_isAtPlace hV _) (fun r_ M h_ hfr_ => ?_)
                obtain ⟨rfl, hV⟩ := h_
                refine g_if_eq 79 d_D_isWellFormed_68 (by decide) (fun c_68 => ?_) (fun c_68 => ?_)
                · skip
                  refine g_iconst (v := 1) d_D_isWellFormed_79 (by decide) ?_
                  refine g_goto 84 d_D_isWellFormed_80 (by decide) ?_
                  exact g_zreturn d_D_isWellFormed_84 rfl (Or.inr rfl) ⟨by unfold wfC; rw [if_neg (show ¬ a_R_in (nI 8) 0 25 = 0 by decide), if_neg (show ¬ (¬ a_R_needs (nI 8) ≤ 0 ∧ a_R_isEffect P a = 0) from fun q => absurd ((ef_none (S := S) hZ.2.2.1 a).mpr q.2) (by rw [c_32]; simp)), if_neg (show ¬ (¬ a_R_needs (nI 8) ≤ 1 ∧ a_R_isEffect P b = 0) from fun q => q.1 (by decide)), if_neg (show ¬ (¬ a_R_needs (nI 8) ≤ 2 ∧ a_R_isEffect P c = 0) from fun q => q.1 (by decide)), if_neg (show ¬ (¬ a_R_in (nI 8) 19 24 = 0 ∧ a_R_in a 0 3 = 0) from fun q => q.1 (by decide))], hV⟩
                · exact absurd c_68 (by decide)
              · exact absurd c_52 (by decide)
            · exact absurd c_38 (by decide)
      · exact absurd c_9 (by decide)
  · skip
    refine g_iload_n d_D_isWellFormed_0 rfl ?_
    refine g_if_lt 12 d_D_isWellFormed_1 (by decide) (fun c_1 => ?_) (fun c_1 => ?_)
    · exact absurd c_1 (by decide)
    · skip
      refine g_iload_n d_D_isWellFormed_4 rfl ?_
      refine g_partsLen pt_D_176 d_D_isWellFormed_5 d_D_isWellFormed_8 ?_
      refine g_icmp_lt 14 d_D_isWellFormed_9 (by decide) (fun c_9 => ?_) (fun c_9 => ?_)
      · skip
        refine g_partsAt (v := 1) (j := 9) pt_D_176 d_D_isWellFormed_14 d_D_isWellFormed_17 rfl d_D_isWellFormed_18 rfl (by decide) rfl ?_
        refine g_istore d_D_isWellFormed_19 (by decide) ?_
        refine g_iload d_D_isWellFormed_21 rfl ?_
        refine g_iconst (v := 1) d_D_isWellFormed_23 (by decide) ?_
        refine g_icmp_lt 35 d_D_isWellFormed_24 (by decide) (fun c_24 => ?_) (fun c_24 => ?_)
        · exact absurd c_24 (by decide)
        · skip
          refine g_aload_n d_D_isWellFormed_27 rfl ?_
          refine g_iload_n d_D_isWellFormed_28 rfl ?_
          refine g_callV (k1 := 0) (n1 := 0) [.int (a)] cw_D_69 cv_D_effectAt d_D_isWellFormed_29 rfl (hV.kdo (sl_0 hZ.2.1) (by decide)) rfl rfl ⟨by simp, by simp⟩ (by first | decide | omega) (by first | decide | omega) (by first | decide | omega) (fun _ _ h => h) (s_D_effectAt ⟨hV, hZ.2⟩ _) (fun r_ M h_ hfr_ => ?_)
          obtain ⟨rfl, hV⟩ := h_
          refine g_ifnull 83 d_D_isWellFormed_32 (by decide) (fun c_32 => ?_) (fun a_32 c_32 => ?_)
          · skip
            refine g_iconst (v := 0) d_D_isWellFormed_83 (by decide) ?_
            exact g_zreturn d_D_isWellFormed_84 rfl (Or.inl rfl) ⟨by unfold wfC; rw [if_neg (show ¬ a_R_in (nI 9) 0 25 = 0 by decide), if_pos ⟨(show ¬ a_R_needs (nI 9) ≤ 0 by decide), (ef_none hZ.2.2.1 a).mp c_32⟩], hV⟩
          · skip
            refine g_iload d_D_isWellFormed_35 rfl ?_
            refine g_iconst (v := 2) d_D_isWellFormed_37 (by decide) ?_
            refine g_icmp_lt 49 d_D_isWellFormed_38 (by decide) (fun c_38 => ?_) (fun c_38 => ?_)
            · skip
              refine g_iload d_D_isWellFormed_49 rfl ?_
              refine g_iconst (v := 3) d_D_isWellFormed_51 (by decide) ?_
              refine g_icmp_lt 64 d_D_isWellFormed_52 (by decide) (fun c_52 => ?_) (fun c_52 => ?_)
              · skip
                refine g_iload_n d_D_isWellFormed_64 rfl ?_
                refine g_callS (k1 := 0) (n1 := 0) [.int (nI 9)] cw_D_179 cs_D_isAtPlace d_D_isWellFormed_65 rfl rfl ⟨by simp, by simp⟩ (by first | decide | omega) (by first | decide | omega) (by first | decide | omega) (fun _ _ h => h) (s_D_isAtPlace hV _) (fun r_ M h_ hfr_ => ?_)
                obtain ⟨rfl, hV⟩ := h_
                refine g_if_eq 79 d_D_isWellFormed_68 (by decide) (fun c_68 => ?_) (fun c_68 => ?_)
                · skip
                  refine g_iconst (v := 1) d_D_isWellFormed_79 (by decide) ?_
                  refine g_goto 84 d_D_isWellFormed_80 (by decide) ?_
                  exact g_zreturn d_D_isWellFormed_84 rfl (Or.inr rfl) ⟨by unfold wfC; rw [if_neg (show ¬ a_R_in (nI 9) 0 25 = 0 by decide), if_neg (show ¬ (¬ a_R_needs (nI 9) ≤ 0 ∧ a_R_isEffect P a = 0) from fun q => absurd ((ef_none (S := S) hZ.2.2.1 a).mpr q.2) (by rw [c_32]; simp)), if_neg (show ¬ (¬ a_R_needs (nI 9) ≤ 1 ∧ a_R_isEffect P b = 0) from fun q => q.1 (by decide)), if_neg (show ¬ (¬ a_R_needs (nI 9) ≤ 2 ∧ a_R_isEffect P c = 0) from fun q => q.1 (by decide)), if_neg (show ¬ (¬ a_R_in (nI 9) 19 24 = 0 ∧ a_R_in a 0 3 = 0) from fun q => q.1 (by decide))], hV⟩
                · exact absurd c_68 (by decide)
              · exact absurd c_52 (by decide)
            · exact absurd c_38 (by decide)
      · exact absurd c_9 (by decide)
  · skip
    refine g_iload_n d_D_isWellFormed_0 rfl ?_
    refine g_if_lt 12 d_D_isWellFormed_1 (by decide) (fun c_1 => ?_) (fun c_1 => ?_)
    · exact absurd c_1 (by decide)
    · skip
      refine g_iload_n d_D_isWellFormed_4 rfl ?_
      refine g_partsLen pt_D_176 d_D_isWellFormed_5 d_D_isWellFormed_8 ?_
      refine g_icmp_lt 14 d_D_isWellFormed_9 (by decide) (fun c_9 => ?_) (fun c_9 => ?_)
      · skip
        refine g_partsAt (v := 1) (j := 10) pt_D_176 d_D_isWellFormed_14 d_D_isWellFormed_17 rfl d_D_isWellFormed_18 rfl (by decide) rfl ?_
        refine g_istore d_D_isWellFormed_19 (by decide) ?_
        refine g_iload d_D_isWellFormed_21 rfl ?_
        refine g_iconst (v := 1) d_D_isWellFormed_23 (by decide) ?_
        refine g_icmp_lt 35 d_D_isWellFormed_24 (by decide) (fun c_24 => ?_) (fun c_24 => ?_)
        · exact absurd c_24 (by decide)
        · skip
          refine g_aload_n d_D_isWellFormed_27 rfl ?_
          refine g_iload_n d_D_isWellFormed_28 rfl ?_
          refine g_callV (k1 := 0) (n1 := 0) [.int (a)] cw_D_69 cv_D_effectAt d_D_isWellFormed_29 rfl (hV.kdo (sl_0 hZ.2.1) (by decide)) rfl rfl ⟨by simp, by simp⟩ (by first | decide | omega) (by first | decide | omega) (by first | decide | omega) (fun _ _ h => h) (s_D_effectAt ⟨hV, hZ.2⟩ _) (fun r_ M h_ hfr_ => ?_)
          obtain ⟨rfl, hV⟩ := h_
          refine g_ifnull 83 d_D_isWellFormed_32 (by decide) (fun c_32 => ?_) (fun a_32 c_32 => ?_)
          · skip
            refine g_iconst (v := 0) d_D_isWellFormed_83 (by decide) ?_
            exact g_zreturn d_D_isWellFormed_84 rfl (Or.inl rfl) ⟨by unfold wfC; rw [if_neg (show ¬ a_R_in (nI 10) 0 25 = 0 by decide), if_pos ⟨(show ¬ a_R_needs (nI 10) ≤ 0 by decide), (ef_none hZ.2.2.1 a).mp c_32⟩], hV⟩
          · skip
            refine g_iload d_D_isWellFormed_35 rfl ?_
            refine g_iconst (v := 2) d_D_isWellFormed_37 (by decide) ?_
            refine g_icmp_lt 49 d_D_isWellFormed_38 (by decide) (fun c_38 => ?_) (fun c_38 => ?_)
            · skip
              refine g_iload d_D_isWellFormed_49 rfl ?_
              refine g_iconst (v := 3) d_D_isWellFormed_51 (by decide) ?_
              refine g_icmp_lt 64 d_D_isWellFormed_52 (by decide) (fun c_52 => ?_) (fun c_52 => ?_)
              · skip
                refine g_iload_n d_D_isWellFormed_64 rfl ?_
                refine g_callS (k1 := 0) (n1 := 0) [.int (nI 10)] cw_D_179 cs_D_isAtPlace d_D_isWellFormed_65 rfl rfl ⟨by simp, by simp⟩ (by first | decide | omega) (by first | decide | omega) (by first | decide | omega) (fun _ _ h => h) (s_D_isAtPlace hV _) (fun r_ M h_ hfr_ => ?_)
                obtain ⟨rfl, hV⟩ := h_
                refine g_if_eq 79 d_D_isWellFormed_68 (by decide) (fun c_68 => ?_) (fun c_68 => ?_)
                · skip
                  refine g_iconst (v := 1) d_D_isWellFormed_79 (by decide) ?_
                  refine g_goto 84 d_D_isWellFormed_80 (by decide) ?_
                  exact g_zreturn d_D_isWellFormed_84 rfl (Or.inr rfl) ⟨by unfold wfC; rw [if_neg (show ¬ a_R_in (nI 10) 0 25 = 0 by decide), if_neg (show ¬ (¬ a_R_needs (nI 10) ≤ 0 ∧ a_R_isEffect P a = 0) from fun q => absurd ((ef_none (S := S) hZ.2.2.1 a).mpr q.2) (by rw [c_32]; simp)), if_neg (show ¬ (¬ a_R_needs (nI 10) ≤ 1 ∧ a_R_isEffect P b = 0) from fun q => q.1 (by decide)), if_neg (show ¬ (¬ a_R_needs (nI 10) ≤ 2 ∧ a_R_isEffect P c = 0) from fun q => q.1 (by decide)), if_neg (show ¬ (¬ a_R_in (nI 10) 19 24 = 0 ∧ a_R_in a 0 3 = 0) from fun q => q.1 (by decide))], hV⟩
                · exact absurd c_68 (by decide)
              · exact absurd c_52 (by decide)
            · exact absurd c_38 (by decide)
      · exact absurd c_9 (by decide)
  · skip
    refine g_iload_n d_D_isWellFormed_0 rfl ?_
    refine g_if_lt 12 d_D_isWellFormed_1 (by decide) (fun c_1 => ?_) (fun c_1 => ?_)
    · exact absurd c_1 (by decide)
    · skip
      refine g_iload_n d_D_isWellFormed_4 rfl ?_
      refine g_partsLen pt_D_176 d_D_isWellFormed_5 d_D_isWellFormed_8 ?_
      refine g_icmp_lt 14 d_D_isWellFormed_9 (by decide) (fun c_9 => ?_) (fun c_9 => ?_)
      · skip
        refine g_partsAt (v := 1) (j := 11) pt_D_176 d_D_isWellFormed_14 d_D_isWellFormed_17 rfl d_D_isWellFormed_18 rfl (by decide) rfl ?_
        refine g_istore d_D_isWellFormed_19 (by decide) ?_
        refine g_iload d_D_isWellFormed_21 rfl ?_
        refine g_iconst (v := 1) d_D_isWellFormed_23 (by decide) ?_
        refine g_icmp_lt 35 d_D_isWellFormed_24 (by decide) (fun c_24 => ?_) (fun c_24 => ?_)
        · exact absurd c_24 (by decide)
        · skip
          refine g_aload_n d_D_isWellFormed_27 rfl ?_
          refine g_iload_n d_D_isWellFormed_28 rfl ?_
          refine g_callV (k1 := 0) (n1 := 0) [.int (a)] cw_D_69 cv_D_effectAt d_D_isWellFormed_29 rfl (hV.kdo (sl_0 hZ.2.1) (by decide)) rfl rfl ⟨by simp, by simp⟩ (by first | decide | omega) (by first | decide | omega) (by first | decide | omega) (fun _ _ h => h) (s_D_effectAt ⟨hV, hZ.2⟩ _) (fun r_ M h_ hfr_ => ?_)
          obtain ⟨rfl, hV⟩ := h_
          refine g_ifnull 83 d_D_isWellFormed_32 (by decide) (fun c_32 => ?_) (fun a_32 c_32 => ?_)
          · skip
            refine g_iconst (v := 0) d_D_isWellFormed_83 (by decide) ?_
            exact g_zreturn d_D_isWellFormed_84 rfl (Or.inl rfl) ⟨by unfold wfC; rw [if_neg (show ¬ a_R_in (nI 11) 0 25 = 0 by decide), if_pos ⟨(show ¬ a_R_needs (nI 11) ≤ 0 by decide), (ef_none hZ.2.2.1 a).mp c_32⟩], hV⟩
          · skip
            refine g_iload d_D_isWellFormed_35 rfl ?_
            refine g_iconst (v := 2) d_D_isWellFormed_37 (by decide) ?_
            refine g_icmp_lt 49 d_D_isWellFormed_38 (by decide) (fun c_38 => ?_) (fun c_38 => ?_)
            · skip
              refine g_iload d_D_isWellFormed_49 rfl ?_
              refine g_iconst (v := 3) d_D_isWellFormed_51 (by decide) ?_
              refine g_icmp_lt 64 d_D_isWellFormed_52 (by decide) (fun c_52 => ?_) (fun c_52 => ?_)
              · skip
                refine g_iload_n d_D_isWellFormed_64 rfl ?_
                refine g_callS (k1 := 0) (n1 := 0) [.int (nI 11)] cw_D_179 cs_D_isAtPlace d_D_isWellFormed_65 rfl rfl ⟨by simp, by simp⟩ (by first | decide | omega) (by first | decide | omega) (by first | decide | omega) (fun _ _ h => h) (s_D_isAtPlace hV _) (fun r_ M h_ hfr_ => ?_)
                obtain ⟨rfl, hV⟩ := h_
                refine g_if_eq 79 d_D_isWellFormed_68 (by decide) (fun c_68 => ?_) (fun c_68 => ?_)
                · skip
                  refine g_iconst (v := 1) d_D_isWellFormed_79 (by decide) ?_
                  refine g_goto 84 d_D_isWellFormed_80 (by decide) ?_
                  exact g_zreturn d_D_isWellFormed_84 rfl (Or.inr rfl) ⟨by unfold wfC; rw [if_neg (show ¬ a_R_in (nI 11) 0 25 = 0 by decide), if_neg (show ¬ (¬ a_R_needs (nI 11) ≤ 0 ∧ a_R_isEffect P a = 0) from fun q => absurd ((ef_none (S := S) hZ.2.2.1 a).mpr q.2) (by rw [c_32]; simp)), if_neg (show ¬ (¬ a_R_needs (nI 11) ≤ 1 ∧ a_R_isEffect P b = 0) from fun q => q.1 (by decide)), if_neg (show ¬ (¬ a_R_needs (nI 11) ≤ 2 ∧ a_R_isEffect P c = 0) from fun q => q.1 (by decide)), if_neg (show ¬ (¬ a_R_in (nI 11) 19 24 = 0 ∧ a_R_in a 0 3 = 0) from fun q => q.1 (by decide))], hV⟩
                · exact absurd c_68 (by decide)
              · exact absurd c_52 (by decide)
            · exact absurd c_38 (by decide)
      · exact absurd c_9 (by decide)
  · skip
    refine g_iload_n d_D_isWellFormed_0 rfl ?_
    refine g_if_lt 12 d_D_isWellFormed_1 (by decide) (fun c_1 => ?_) (fun c_1 => ?_)
    · exact absurd c_1 (by decide)
    · skip
      refine g_iload_n d_D_isWellFormed_4 rfl ?_
      refine g_partsLen pt_D_176 d_D_isWellFormed_5 d_D_isWellFormed_8 ?_
      refine g_icmp_lt 14 d_D_isWellFormed_9 (by decide) (fun c_9 => ?_) (fun c_9 => ?_)
      · skip
        refine g_partsAt (v := 1) (j := 12) pt_D_176 d_D_isWellFormed_14 d_D_isWellFormed_17 rfl d_D_isWellFormed_18 rfl (by decide) rfl ?_
        refine g_istore d_D_isWellFormed_19 (by decide) ?_
        refine g_iload d_D_isWellFormed_21 rfl ?_
        refine g_iconst (v := 1) d_D_isWellFormed_23 (by decide) ?_
        refine g_icmp_lt 35 d_D_isWellFormed_24 (by decide) (fun c_24 => ?_) (fun c_24 => ?_)
        · exact absurd c_24 (by decide)
        · skip
          refine g_aload_n d_D_isWellFormed_27 rfl ?_
          refine g_iload_n d_D_isWellFormed_28 rfl ?_
          refine g_callV (k1 := 0) (n1 := 0) [.int (a)] cw_D_69 cv_D_effectAt d_D_isWellFormed_29 rfl (hV.kdo (sl_0 hZ.2.1) (by decide)) rfl rfl ⟨by simp, by simp⟩ (by first | decide | omega) (by first | decide | omega) (by first | decide | omega) (fun _ _ h => h) (s_D_effectAt ⟨hV, hZ.2⟩ _) (fun r_ M h_ hfr_ => ?_)
          obtain ⟨rfl, hV⟩ := h_
          refine g_ifnull 83 d_D_isWellFormed_32 (by decide) (fun c_32 => ?_) (fun a_32 c_32 => ?_)
          · skip
            refine g_iconst (v := 0) d_D_isWellFormed_83 (by decide) ?_
            exact g_zreturn d_D_isWellFormed_84 rfl (Or.inl rfl) ⟨by unfold wfC; rw [if_neg (show ¬ a_R_in (nI 12) 0 25 = 0 by decide), if_pos ⟨(show ¬ a_R_needs (nI 12) ≤ 0 by decide), (ef_none hZ.2.2.1 a).mp c_32⟩], hV⟩
          · skip
            refine g_iload d_D_isWellFormed_35 rfl ?_
            refine g_iconst (v := 2) d_D_isWellFormed_37 (by decide) ?_
            refine g_icmp_lt 49 d_D_isWellFormed_38 (by decide) (fun c_38 => ?_) (fun c_38 => ?_)
            · skip
              refine g_iload d_D_isWellFormed_49 rfl ?_
              refine g_iconst (v := 3) d_D_isWellFormed_51 (by decide) ?_
              refine g_icmp_lt 64 d_D_isWellFormed_52 (by decide) (fun c_52 => ?_) (fun c_52 => ?_)
              · skip
                refine g_iload_n d_D_isWellFormed_64 rfl ?_
                refine g_callS (k1 := 0) (n1 := 0) [.int (nI 12)] cw_D_179 cs_D_isAtPlace d_D_isWellFormed_65 rfl rfl ⟨by simp, by simp⟩ (by first | decide | omega) (by first | decide | omega) (by first | decide | omega) (fun _ _ h => h) (s_D_isAtPlace hV _) (fun r_ M h_ hfr_ => ?_)
                obtain ⟨rfl, hV⟩ := h_
                refine g_if_eq 79 d_D_isWellFormed_68 (by decide) (fun c_68 => ?_) (fun c_68 => ?_)
                · skip
                  refine g_iconst (v := 1) d_D_isWellFormed_79 (by decide) ?_
                  refine g_goto 84 d_D_isWellFormed_80 (by decide) ?_
                  exact g_zreturn d_D_isWellFormed_84 rfl (Or.inr rfl) ⟨by unfold wfC; rw [if_neg (show ¬ a_R_in (nI 12) 0 25 = 0 by decide), if_neg (show ¬ (¬ a_R_needs (nI 12) ≤ 0 ∧ a_R_isEffect P a = 0) from fun q => absurd ((ef_none (S := S) hZ.2.2.1 a).mpr q.2) (by rw [c_32]; simp)), if_neg (show ¬ (¬ a_R_needs (nI 12) ≤ 1 ∧ a_R_isEffect P b = 0) from fun q => q.1 (by decide)), if_neg (show ¬ (¬ a_R_needs (nI 12) ≤ 2 ∧ a_R_isEffect P c = 0) from fun q => q.1 (by decide)), if_neg (show ¬ (¬ a_R_in (nI 12) 19 24 = 0 ∧ a_R_in a 0 3 = 0) from fun q => q.1 (by decide))], hV⟩
                · exact absurd c_68 (by decide)
              · exact absurd c_52 (by decide)
            · exact absurd c_38 (by decide)
      · exact absurd c_9 (by decide)
  · skip
    refine g_iload_n d_D_isWellFormed_0 rfl ?_
    refine g_if_lt 12 d_D_isWellFormed_1 (by decide) (fun c_1 => ?_) (fun c_1 => ?_)
    · exact absurd c_1 (by decide)
    · skip
      refine g_iload_n d_D_isWellFormed_4 rfl ?_
      refine g_partsLen pt_D_176 d_D_isWellFormed_5 d_D_isWellFormed_8 ?_
      refine g_icmp_lt 14 d_D_isWellFormed_9 (by decide) (fun c_9 => ?_) (fun c_9 => ?_)
      · skip
        refine g_partsAt (v := 0) (j := 13) pt_D_176 d_D_isWellFormed_14 d_D_isWellFormed_17 rfl d_D_isWellFormed_18 rfl (by decide) rfl ?_
        refine g_istore d_D_isWellFormed_19 (by decide) ?_
        refine g_iload d_D_isWellFormed_21 rfl ?_
        refine g_iconst (v := 1) d_D_isWellFormed_23 (by decide) ?_
        refine g_icmp_lt 35 d_D_isWellFormed_24 (by decide) (fun c_24 => ?_) (fun c_24 => ?_)
        · skip
          refine g_iload d_D_isWellFormed_35 rfl ?_
          refine g_iconst (v := 2) d_D_isWellFormed_37 (by decide) ?_
          refine g_icmp_lt 49 d_D_isWellFormed_38 (by decide) (fun c_38 => ?_) (fun c_38 => ?_)
          · skip
            refine g_iload d_D_isWellFormed_49 rfl ?_
            refine g_iconst (v := 3) d_D_isWellFormed_51 (by decide) ?_
            refine g_icmp_lt 64 d_D_isWellFormed_52 (by decide) (fun c_52 => ?_) (fun c_52 => ?_)
            · skip
              refine g_iload_n d_D_isWellFormed_64 rfl ?_
              refine g_callS (k1 := 0) (n1 := 0) [.int (nI 13)] cw_D_179 cs_D_isAtPlace d_D_isWellFormed_65 rfl rfl ⟨by simp, by simp⟩ (by first | decide | omega) (by first | decide | omega) (by first | decide | omega) (fun _ _ h => h) (s_D_isAtPlace hV _) (fun r_ M h_ hfr_ => ?_)
              obtain ⟨rfl, hV⟩ := h_
              refine g_if_eq 79 d_D_isWellFormed_68 (by decide) (fun c_68 => ?_) (fun c_68 => ?_)
              · skip
                refine g_iconst (v := 1) d_D_isWellFormed_79 (by decide) ?_
                refine g_goto 84 d_D_isWellFormed_80 (by decide) ?_
                exact g_zreturn d_D_isWellFormed_84 rfl (Or.inr rfl) ⟨by unfold wfC; rw [if_neg (show ¬ a_R_in (nI 13) 0 25 = 0 by decide), if_neg (show ¬ (¬ a_R_needs (nI 13) ≤ 0 ∧ a_R_isEffect P a = 0) from fun q => q.1 (by decide)), if_neg (show ¬ (¬ a_R_needs (nI 13) ≤ 1 ∧ a_R_isEffect P b = 0) from fun q => q.1 (by decide)), if_neg (show ¬ (¬ a_R_needs (nI 13) ≤ 2 ∧ a_R_isEffect P c = 0) from fun q => q.1 (by decide)), if_neg (show ¬ (¬ a_R_in (nI 13) 19 24 = 0 ∧ a_R_in a 0 3 = 0) from fun q => q.1 (by decide))], hV⟩
              · exact absurd c_68 (by decide)
            · exact absurd c_52 (by decide)
          · exact absurd c_38 (by decide)
        · exact absurd c_24 (by decide)
      · exact absurd c_9 (by decide)
  · skip
    refine g_iload_n d_D_isWellFormed_0 rfl ?_
    refine g_if_lt 12 d_D_isWellFormed_1 (by decide) (fun c_1 => ?_) (fun c_1 => ?_)
    · exact absurd c_1 (by decide)
    · skip
      refine g_iload_n d_D_isWellFormed_4 rfl ?_
      refine g_partsLen pt_D_176 d_D_isWellFormed_5 d_D_isWellFormed_8 ?_
      refine g_icmp_lt 14 d_D_isWellFormed_9 (by decide) (fun c_9 => ?_) (fun c_9 => ?_)
      · skip
        refine g_partsAt (v := 0) (j := 14) pt_D_176 d_D_isWellFormed_14 d_D_isWellFormed_17 rfl d_D_isWellFormed_18 rfl (by decide) rfl ?_
        refine g_istore d_D_isWellFormed_19 (by decide) ?_
        refine g_iload d_D_isWellFormed_21 rfl ?_
        refine g_iconst (v := 1) d_D_isWellFormed_23 (by decide) ?_
        refine g_icmp_lt 35 d_D_isWellFormed_24 (by decide) (fun c_24 => ?_) (fun c_24 => ?_)
        · skip
          refine g_iload d_D_isWellFormed_35 rfl ?_
          refine g_iconst (v := 2) d_D_isWellFormed_37 (by decide) ?_
          refine g_icmp_lt 49 d_D_isWellFormed_38 (by decide) (fun c_38 => ?_) (fun c_38 => ?_)
          · skip
            refine g_iload d_D_isWellFormed_49 rfl ?_
            refine g_iconst (v := 3) d_D_isWellFormed_51 (by decide) ?_
            refine g_icmp_lt 64 d_D_isWellFormed_52 (by decide) (fun c_52 => ?_) (fun c_52 => ?_)
            · skip
              refine g_iload_n d_D_isWellFormed_64 rfl ?_
              refine g_callS (k1 := 0) (n1 := 0) [.int (nI 14)] cw_D_179 cs_D_isAtPlace d_D_isWellFormed_65 rfl rfl ⟨by simp, by simp⟩ (by first | decide | omega) (by first | decide | omega) (by first | decide | omega) (fun _ _ h => h) (s_D_isAtPlace hV _) (fun r_ M h_ hfr_ => ?_)
              obtain ⟨rfl, hV⟩ := h_
              refine g_if_eq 79 d_D_isWellFormed_68 (by decide) (fun c_68 => ?_) (fun c_68 => ?_)
              · skip
                refine g_iconst (v := 1) d_D_isWellFormed_79 (by decide) ?_
                refine g_goto 84 d_D_isWellFormed_80 (by decide) ?_
                exact g_zreturn d_D_isWellFormed_84 rfl (Or.inr rfl) ⟨by unfold wfC; rw [if_neg (show ¬ a_R_in (nI 14) 0 25 = 0 by decide), if_neg (show ¬ (¬ a_R_needs (nI 14) ≤ 0 ∧ a_R_isEffect P a = 0) from fun q => q.1 (by decide)), if_neg (show ¬ (¬ a_R_needs (nI 14) ≤ 1 ∧ a_R_isEffect P b = 0) from fun q => q.1 (by decide)), if_neg (show ¬ (¬ a_R_needs (nI 14) ≤ 2 ∧ a_R_isEffect P c = 0) from fun q => q.1 (by decide)), if_neg (show ¬ (¬ a_R_in (nI 14) 19 24 = 0 ∧ a_R_in a 0 3 = 0) from fun q => q.1 (by decide))], hV⟩
              · exact absurd c_68 (by decide)
            · exact absurd c_52 (by decide)
          · exact absurd c_38 (by decide)
        · exact absurd c_24 (by decide)
      · exact absurd c_9 (by decide)
  · skip
    refine g_iload_n d_D_isWellFormed_0 rfl ?_
    refine g_if_lt 12 d_D_isWellFormed_1 (by decide) (fun c_1 => ?_) (fun c_1 => ?_)
    · exact absurd c_1 (by decide)
    · skip
      refine g_iload_n d_D_isWellFormed_4 rfl ?_
      refine g_partsLen pt_D_176 d_D_isWellFormed_5 d_D_isWellFormed_8 ?_
      refine g_icmp_lt 14 d_D_isWellFormed_9 (by decide) (fun c_9 => ?_) (fun c_9 => ?_)
      · skip
        refine g_partsAt (v := 2) (j := 15) pt_D_176 d_D_isWellFormed_14 d_D_isWellFormed_17 rfl d_D_isWellFormed_18 rfl (by decide) rfl ?_
        refine g_istore d_D_isWellFormed_19 (by decide) ?_
        refine g_iload d_D_isWellFormed_21 rfl ?_
        refine g_iconst (v := 1) d_D_isWellFormed_23 (by decide) ?_
        refine g_icmp_lt 35 d_D_isWellFormed_24 (by decide) (fun c_24 => ?_) (fun c_24 => ?_)
        · exact absurd c_24 (by decide)
        · skip
          refine g_aload_n d_D_isWellFormed_27 rfl ?_
          refine g_iload_n d_D_isWellFormed_28 rfl ?_
          refine g_callV (k1 := 0) (n1 := 0) [.int (a)] cw_D_69 cv_D_effectAt d_D_isWellFormed_29 rfl (hV.kdo (sl_0 hZ.2.1) (by decide)) rfl rfl ⟨by simp, by simp⟩ (by first | decide | omega) (by first | decide | omega) (by first | decide | omega) (fun _ _ h => h) (s_D_effectAt ⟨hV, hZ.2⟩ _) (fun r_ M h_ hfr_ => ?_)
          obtain ⟨rfl, hV⟩ := h_
          refine g_ifnull 83 d_D_isWellFormed_32 (by decide) (fun c_32 => ?_) (fun a_32 c_32 => ?_)
          · skip
            refine g_iconst (v := 0) d_D_isWellFormed_83 (by decide) ?_
            exact g_zreturn d_D_isWellFormed_84 rfl (Or.inl rfl) ⟨by unfold wfC; rw [if_neg (show ¬ a_R_in (nI 15) 0 25 = 0 by decide), if_pos ⟨(show ¬ a_R_needs (nI 15) ≤ 0 by decide), (ef_none hZ.2.2.1 a).mp c_32⟩], hV⟩
          · skip
            refine g_iload d_D_isWellFormed_35 rfl ?_
            refine g_iconst (v := 2) d_D_isWellFormed_37 (by decide) ?_
            refine g_icmp_lt 49 d_D_isWellFormed_38 (by decide) (fun c_38 => ?_) (fun c_38 => ?_)
            · exact absurd c_38 (by decide)
            · skip
              refine g_aload_n d_D_isWellFormed_41 rfl ?_
              refine g_iload_n d_D_isWellFormed_42 rfl ?_
              refine g_callV (k1 := 0) (n1 := 0) [.int (b)] cw_D_69 cv_D_effectAt d_D_isWellFormed_43 rfl (hV.kdo (sl_0 hZ.2.1) (by decide)) rfl rfl ⟨by simp, by simp⟩ (by first | decide | omega) (by first | decide | omega) (by first | decide | omega) (fun _ _ h => h) (s_D_effectAt ⟨hV, hZ.2⟩ _) (fun r_ M h_ hfr_ => ?_)
              obtain ⟨rfl, hV⟩ := h_
              refine g_ifnull 83 d_D_isWellFormed_46 (by decide) (fun c_46 => ?_) (fun a_46 c_46 => ?_)
              · skip
                refine g_iconst (v := 0) d_D_isWellFormed_83 (by decide) ?_
                exact g_zreturn d_D_isWellFormed_84 rfl (Or.inl rfl) ⟨by unfold wfC; rw [if_neg (show ¬ a_R_in (nI 15) 0 25 = 0 by decide), if_neg (show ¬ (¬ a_R_needs (nI 15) ≤ 0 ∧ a_R_isEffect P a = 0) from fun q => absurd ((ef_none (S := S) hZ.2.2.1 a).mpr q.2) (by rw [c_32]; simp)), if_pos ⟨(show ¬ a_R_needs (nI 15) ≤ 1 by decide), (ef_none hZ.2.2.1 b).mp c_46⟩], hV⟩
              · skip
                refine g_iload d_D_isWellFormed_49 rfl ?_
                refine g_iconst (v := 3) d_D_isWellFormed_51 (by decide) ?_
                refine g_icmp_lt 64 d_D_isWellFormed_52 (by decide) (fun c_52 => ?_) (fun c_52 => ?_)
                · skip
                  refine g_iload_n d_D_isWellFormed_64 rfl ?_
                  refine g_callS (k1 := 0) (n1 := 0) [.int (nI 15)] cw_D_179 cs_D_isAtPlace d_D_isWellFormed_65 rfl rfl ⟨by simp, by simp⟩ (by first | decide | omega) (by first | decide | omega) (by first | decide | omega) (fun _ _ h => h) (s_D_isAtPlace hV _) (fun r_ M h_ hfr_ => ?_)
                  obtain ⟨rfl, hV⟩ := h_
                  refine g_if_eq 79 d_D_isWellFormed_68 (by decide) (fun c_68 => ?_) (fun c_68 => ?_)
                  · skip
                    refine g_iconst (v := 1) d_D_isWellFormed_79 (by decide) ?_
                    refine g_goto 84 d_D_isWellFormed_80 (by decide) ?_
                    exact g_zreturn d_D_isWellFormed_84 rfl (Or.inr rfl) ⟨by unfold wfC; rw [if_neg (show ¬ a_R_in (nI 15) 0 25 = 0 by decide), if_neg (show ¬ (¬ a_R_needs (nI 15) ≤ 0 ∧ a_R_isEffect P a = 0) from fun q => absurd ((ef_none (S := S) hZ.2.2.1 a).mpr q.2) (by rw [c_32]; simp)), if_neg (show ¬ (¬ a_R_needs (nI 15) ≤ 1 ∧ a_R_isEffect P b = 0) from fun q => absurd ((ef_none (S := S) hZ.2.2.1 b).mpr q.2) (by rw [c_46]; simp)), if_neg (show ¬ (¬ a_R_needs (nI 15) ≤ 2 ∧ a_R_isEffect P c = 0) from fun q => q.1 (by decide)), if_neg (show ¬ (¬ a_R_in (nI 15) 19 24 = 0 ∧ a_R_in a 0 3 = 0) from fun q => q.1 (by decide))], hV⟩
                  · exact absurd c_68 (by decide)
                · exact absurd c_52 (by decide)
      · exact absurd c_9 (by decide)
  · skip
    refine g_iload_n d_D_isWellFormed_0 rfl ?_
    refine g_if_lt 12 d_D_isWellFormed_1 (by decide) (fun c_1 => ?_) (fun c_1 => ?_)
    · exact absurd c_1 (by decide)
    · skip
      refine g_iload_n d_D_isWellFormed_4 rfl ?_
      refine g_partsLen pt_D_176 d_D_isWellFormed_5 d_D_isWellFormed_8 ?_
      refine g_icmp_lt 14 d_D_isWellFormed_9 (by decide) (fun c_9 => ?_) (fun c_9 => ?_)
      · skip
        refine g_partsAt (v := 0) (j := 16) pt_D_176 d_D_isWellFormed_14 d_D_isWellFormed_17 rfl d_D_isWellFormed_18 rfl (by decide) rfl ?_
        refine g_istore d_D_isWellFormed_19 (by decide) ?_
        refine g_iload d_D_isWellFormed_21 rfl ?_
        refine g_iconst (v := 1) d_D_isWellFormed_23 (by decide) ?_
        refine g_icmp_lt 35 d_D_isWellFormed_24 (by decide) (fun c_24 => ?_) (fun c_24 => ?_)
        · skip
          refine g_iload d_D_isWellFormed_35 rfl ?_
          refine g_iconst (v := 2) d_D_isWellFormed_37 (by decide) ?_
          refine g_icmp_lt 49 d_D_isWellFormed_38 (by decide) (fun c_38 => ?_) (fun c_38 => ?_)
          · skip
            refine g_iload d_D_isWellFormed_49 rfl ?_
            refine g_iconst (v := 3) d_D_isWellFormed_51 (by decide) ?_
            refine g_icmp_lt 64 d_D_isWellFormed_52 (by decide) (fun c_52 => ?_) (fun c_52 => ?_)
            · skip
              refine g_iload_n d_D_isWellFormed_64 rfl ?_
              refine g_callS (k1 := 0) (n1 := 0) [.int (nI 16)] cw_D_179 cs_D_isAtPlace d_D_isWellFormed_65 rfl rfl ⟨by simp, by simp⟩ (by first | decide | omega) (by first | decide | omega) (by first | decide | omega) (fun _ _ h => h) (s_D_isAtPlace hV _) (fun r_ M h_ hfr_ => ?_)
              obtain ⟨rfl, hV⟩ := h_
              refine g_if_eq 79 d_D_isWellFormed_68 (by decide) (fun c_68 => ?_) (fun c_68 => ?_)
              · skip
                refine g_iconst (v := 1) d_D_isWellFormed_79 (by decide) ?_
                refine g_goto 84 d_D_isWellFormed_80 (by decide) ?_
                exact g_zreturn d_D_isWellFormed_84 rfl (Or.inr rfl) ⟨by unfold wfC; rw [if_neg (show ¬ a_R_in (nI 16) 0 25 = 0 by decide), if_neg (show ¬ (¬ a_R_needs (nI 16) ≤ 0 ∧ a_R_isEffect P a = 0) from fun q => q.1 (by decide)), if_neg (show ¬ (¬ a_R_needs (nI 16) ≤ 1 ∧ a_R_isEffect P b = 0) from fun q => q.1 (by decide)), if_neg (show ¬ (¬ a_R_needs (nI 16) ≤ 2 ∧ a_R_isEffect P c = 0) from fun q => q.1 (by decide)), if_neg (show ¬ (¬ a_R_in (nI 16) 19 24 = 0 ∧ a_R_in a 0 3 = 0) from fun q => q.1 (by decide))], hV⟩
              · exact absurd c_68 (by decide)
            · exact absurd c_52 (by decide)
          · exact absurd c_38 (by decide)
        · exact absurd c_24 (by decide)
      · exact absurd c_9 (by decide)
  · skip
    refine g_iload_n d_D_isWellFormed_0 rfl ?_
    refine g_if_lt 12 d_D_isWellFormed_1 (by decide) (fun c_1 => ?_) (fun c_1 => ?_)
    · exact absurd c_1 (by decide)
    · skip
      refine g_iload_n d_D_isWellFormed_4 rfl ?_
      refine g_partsLen pt_D_176 d_D_isWellFormed_5 d_D_isWellFormed_8 ?_
      refine g_icmp_lt 14 d_D_isWellFormed_9 (by decide) (fun c_9 => ?_) (fun c_9 => ?_)
      · skip
        refine g_partsAt (v := 0) (j := 17) pt_D_176 d_D_isWellFormed_14 d_D_isWellFormed_17 rfl d_D_isWellFormed_18 rfl (by decide) rfl ?_
        refine g_istore d_D_isWellFormed_19 (by decide) ?_
        refine g_iload d_D_isWellFormed_21 rfl ?_
        refine g_iconst (v := 1) d_D_isWellFormed_23 (by decide) ?_
        refine g_icmp_lt 35 d_D_isWellFormed_24 (by decide) (fun c_24 => ?_) (fun c_24 => ?_)
        · skip
          refine g_iload d_D_isWellFormed_35 rfl ?_
          refine g_iconst (v := 2) d_D_isWellFormed_37 (by decide) ?_
          refine g_icmp_lt 49 d_D_isWellFormed_38 (by decide) (fun c_38 => ?_) (fun c_38 => ?_)
          · skip
            refine g_iload d_D_isWellFormed_49 rfl ?_
            refine g_iconst (v := 3) d_D_isWellFormed_51 (by decide) ?_
            refine g_icmp_lt 64 d_D_isWellFormed_52 (by decide) (fun c_52 => ?_) (fun c_52 => ?_)
            · skip
              refine g_iload_n d_D_isWellFormed_64 rfl ?_
              refine g_callS (k1 := 0) (n1 := 0) [.int (nI 17)] cw_D_179 cs_D_isAtPlace d_D_isWellFormed_65 rfl rfl ⟨by simp, by simp⟩ (by first | decide | omega) (by first | decide | omega) (by first | decide | omega) (fun _ _ h => h) (s_D_isAtPlace hV _) (fun r_ M h_ hfr_ => ?_)
              obtain ⟨rfl, hV⟩ := h_
              refine g_if_eq 79 d_D_isWellFormed_68 (by decide) (fun c_68 => ?_) (fun c_68 => ?_)
              · skip
                refine g_iconst (v := 1) d_D_isWellFormed_79 (by decide) ?_
                refine g_goto 84 d_D_isWellFormed_80 (by decide) ?_
                exact g_zreturn d_D_isWellFormed_84 rfl (Or.inr rfl) ⟨by unfold wfC; rw [if_neg (show ¬ a_R_in (nI 17) 0 25 = 0 by decide), if_neg (show ¬ (¬ a_R_needs (nI 17) ≤ 0 ∧ a_R_isEffect P a = 0) from fun q => q.1 (by decide)), if_neg (show ¬ (¬ a_R_needs (nI 17) ≤ 1 ∧ a_R_isEffect P b = 0) from fun q => q.1 (by decide)), if_neg (show ¬ (¬ a_R_needs (nI 17) ≤ 2 ∧ a_R_isEffect P c = 0) from fun q => q.1 (by decide)), if_neg (show ¬ (¬ a_R_in (nI 17) 19 24 = 0 ∧ a_R_in a 0 3 = 0) from fun q => q.1 (by decide))], hV⟩
              · exact absurd c_68 (by decide)
            · exact absurd c_52 (by decide)
          · exact absurd c_38 (by decide)
        · exact absurd c_24 (by decide)
      · exact absurd c_9 (by decide)
  · skip
    refine g_iload_n d_D_isWellFormed_0 rfl ?_
    refine g_if_lt 12 d_D_isWellFormed_1 (by decide) (fun c_1 => ?_) (fun c_1 => ?_)
    · exact absurd c_1 (by decide)
    · skip
      refine g_iload_n d_D_isWellFormed_4 rfl ?_
      refine g_partsLen pt_D_176 d_D_isWellFormed_5 d_D_isWellFormed_8 ?_
      refine g_icmp_lt 14 d_D_isWellFormed_9 (by decide) (fun c_9 => ?_) (fun c_9 => ?_)
      · skip
        refine g_partsAt (v := 0) (j := 18) pt_D_176 d_D_isWellFormed_14 d_D_isWellFormed_17 rfl d_D_isWellFormed_18 rfl (by decide) rfl ?_
        refine g_istore d_D_isWellFormed_19 (by decide) ?_
        refine g_iload d_D_isWellFormed_21 rfl ?_
        refine g_iconst (v := 1) d_D_isWellFormed_23 (by decide) ?_
        refine g_icmp_lt 35 d_D_isWellFormed_24 (by decide) (fun c_24 => ?_) (fun c_24 => ?_)
        · skip
          refine g_iload d_D_isWellFormed_35 rfl ?_
          refine g_iconst (v := 2) d_D_isWellFormed_37 (by decide) ?_
          refine g_icmp_lt 49 d_D_isWellFormed_38 (by decide) (fun c_38 => ?_) (fun c_38 => ?_)
          · skip
            refine g_iload d_D_isWellFormed_49 rfl ?_
            refine g_iconst (v := 3) d_D_isWellFormed_51 (by decide) ?_
            refine g_icmp_lt 64 d_D_isWellFormed_52 (by decide) (fun c_52 => ?_) (fun c_52 => ?_)
            · skip
              refine g_iload_n d_D_isWellFormed_64 rfl ?_
              refine g_callS (k1 := 0) (n1 := 0) [.int (nI 18)] cw_D_179 cs_D_isAtPlace d_D_isWellFormed_65 rfl rfl ⟨by simp, by simp⟩ (by first | decide | omega) (by first | decide | omega) (by first | decide | omega) (fun _ _ h => h) (s_D_isAtPlace hV _) (fun r_ M h_ hfr_ => ?_)
              obtain ⟨rfl, hV⟩ := h_
              refine g_if_eq 79 d_D_isWellFormed_68 (by decide) (fun c_68 => ?_) (fun c_68 => ?_)
              · skip
                refine g_iconst (v := 1) d_D_isWellFormed_79 (by decide) ?_
                refine g_goto 84 d_D_isWellFormed_80 (by decide) ?_
                exact g_zreturn d_D_isWellFormed_84 rfl (Or.inr rfl) ⟨by unfold wfC; rw [if_neg (show ¬ a_R_in (nI 18) 0 25 = 0 by decide), if_neg (show ¬ (¬ a_R_needs (nI 18) ≤ 0 ∧ a_R_isEffect P a = 0) from fun q => q.1 (by decide)), if_neg (show ¬ (¬ a_R_needs (nI 18) ≤ 1 ∧ a_R_isEffect P b = 0) from fun q => q.1 (by decide)), if_neg (show ¬ (¬ a_R_needs (nI 18) ≤ 2 ∧ a_R_isEffect P c = 0) from fun q => q.1 (by decide)), if_neg (show ¬ (¬ a_R_in (nI 18) 19 24 = 0 ∧ a_R_in a 0 3 = 0) from fun q => q.1 (by decide))], hV⟩
              · exact absurd c_68 (by decide)
            · exact absurd c_52 (by decide)
          · exact absurd c_38 (by decide)
        · exact absurd c_24 (by decide)
      · exact absurd c_9 (by decide)
  · skip
    refine g_iload_n d_D_isWellFormed_0 rfl ?_
    refine g_if_lt 12 d_D_isWellFormed_1 (by decide) (fun c_1 => ?_) (fun c_1 => ?_)
    · exact absurd c_1 (by decide)
    · skip
      refine g_iload_n d_D_isWellFormed_4 rfl ?_
      refine g_partsLen pt_D_176 d_D_isWellFormed_5 d_D_isWellFormed_8 ?_
      refine g_icmp_lt 14 d_D_isWellFormed_9 (by decide) (fun c_9 => ?_) (fun c_9 => ?_)
      · skip
        refine g_partsAt (v := 0) (j := 19) pt_D_176 d_D_isWellFormed_14 d_D_isWellFormed_17 rfl d_D_isWellFormed_18 rfl (by decide) rfl ?_
        refine g_istore d_D_isWellFormed_19 (by decide) ?_
        refine g_iload d_D_isWellFormed_21 rfl ?_
        refine g_iconst (v := 1) d_D_isWellFormed_23 (by decide) ?_
        refine g_icmp_lt 35 d_D_isWellFormed_24 (by decide) (fun c_24 => ?_) (fun c_24 => ?_)
        · skip
          refine g_iload d_D_isWellFormed_35 rfl ?_
          refine g_iconst (v := 2) d_D_isWellFormed_37 (by decide) ?_
          refine g_icmp_lt 49 d_D_isWellFormed_38 (by decide) (fun c_38 => ?_) (fun c_38 => ?_)
          · skip
            refine g_iload d_D_isWellFormed_49 rfl ?_
            refine g_iconst (v := 3) d_D_isWellFormed_51 (by decide) ?_
            refine g_icmp_lt 64 d_D_isWellFormed_52 (by decide) (fun c_52 => ?_) (fun c_52 => ?_)
            · skip
              refine g_iload_n d_D_isWellFormed_64 rfl ?_
              refine g_callS (k1 := 0) (n1 := 0) [.int (nI 19)] cw_D_179 cs_D_isAtPlace d_D_isWellFormed_65 rfl rfl ⟨by simp, by simp⟩ (by first | decide | omega) (by first | decide | omega) (by first | decide | omega) (fun _ _ h => h) (s_D_isAtPlace hV _) (fun r_ M h_ hfr_ => ?_)
              obtain ⟨rfl, hV⟩ := h_
              refine g_if_eq 79 d_D_isWellFormed_68 (by decide) (fun c_68 => ?_) (fun c_68 => ?_)
              · exact absurd c_68 (by decide)
              · skip
                refine g_aload_n d_D_isWellFormed_71 rfl ?_
                refine g_iload_n d_D_isWellFormed_72 rfl ?_
                refine g_callV (k1 := 0) (n1 := 0) [.int (a)] cw_D_106 cv_D_placeAt d_D_isWellFormed_73 rfl (hV.kdo (sl_0 hZ.2.1) (by decide)) rfl rfl ⟨by simp, by simp⟩ (by first | decide | omega) (by first | decide | omega) (by first | decide | omega) (fun _ _ h => h) (s_D_placeAt ⟨hV, hZ.2⟩ _) (fun r_ M h_ hfr_ => ?_)
                obtain ⟨rfl, hV⟩ := h_
                refine g_ifnull 83 d_D_isWellFormed_76 (by decide) (fun c_76 => ?_) (fun a_76 c_76 => ?_)
                · skip
                  refine g_iconst (v := 0) d_D_isWellFormed_83 (by decide) ?_
                  exact g_zreturn d_D_isWellFormed_84 rfl (Or.inl rfl) ⟨by unfold wfC; rw [if_neg (show ¬ a_R_in (nI 19) 0 25 = 0 by decide), if_neg (show ¬ (¬ a_R_needs (nI 19) ≤ 0 ∧ a_R_isEffect P a = 0) from fun q => q.1 (by decide)), if_neg (show ¬ (¬ a_R_needs (nI 19) ≤ 1 ∧ a_R_isEffect P b = 0) from fun q => q.1 (by decide)), if_neg (show ¬ (¬ a_R_needs (nI 19) ≤ 2 ∧ a_R_isEffect P c = 0) from fun q => q.1 (by decide)), if_pos ⟨(show ¬ a_R_in (nI 19) 19 24 = 0 by decide), (pl_none a).mp c_76⟩], hV⟩
                · skip
                  refine g_iconst (v := 1) d_D_isWellFormed_79 (by decide) ?_
                  refine g_goto 84 d_D_isWellFormed_80 (by decide) ?_
                  exact g_zreturn d_D_isWellFormed_84 rfl (Or.inr rfl) ⟨by unfold wfC; rw [if_neg (show ¬ a_R_in (nI 19) 0 25 = 0 by decide), if_neg (show ¬ (¬ a_R_needs (nI 19) ≤ 0 ∧ a_R_isEffect P a = 0) from fun q => q.1 (by decide)), if_neg (show ¬ (¬ a_R_needs (nI 19) ≤ 1 ∧ a_R_isEffect P b = 0) from fun q => q.1 (by decide)), if_neg (show ¬ (¬ a_R_needs (nI 19) ≤ 2 ∧ a_R_isEffect P c = 0) from fun q => q.1 (by decide)), if_neg (show ¬ (¬ a_R_in (nI 19) 19 24 = 0 ∧ a_R_in a 0 3 = 0) from fun q => absurd ((pl_none (S := S) a).mpr q.2) (by rw [c_76]; simp))], hV⟩
            · exact absurd c_52 (by decide)
          · exact absurd c_38 (by decide)
        · exact absurd c_24 (by decide)
      · exact absurd c_9 (by decide)
  · skip
    refine g_iload_n d_D_isWellFormed_0 rfl ?_
    refine g_if_lt 12 d_D_isWellFormed_1 (by decide) (fun c_1 => ?_) (fun c_1 => ?_)
    · exact absurd c_1 (by decide)
    · skip
      refine g_iload_n d_D_isWellFormed_4 rfl ?_
      refine g_partsLen pt_D_176 d_D_isWellFormed_5 d_D_isWellFormed_8 ?_
      refine g_icmp_lt 14 d_D_isWellFormed_9 (by decide) (fun c_9 => ?_) (fun c_9 => ?_)
      · skip
        refine g_partsAt (v := 0) (j := 20) pt_D_176 d_D_isWellFormed_14 d_D_isWellFormed_17 rfl d_D_isWellFormed_18 rfl (by decide) rfl ?_
        refine g_istore d_D_isWellFormed_19 (by decide) ?_
        refine g_iload d_D_isWellFormed_21 rfl ?_
        refine g_iconst (v := 1) d_D_isWellFormed_23 (by decide) ?_
        refine g_icmp_lt 35 d_D_isWellFormed_24 (by decide) (fun c_24 => ?_) (fun c_24 => ?_)
        · skip
          refine g_iload d_D_isWellFormed_35 rfl ?_
          refine g_iconst (v := 2) d_D_isWellFormed_37 (by decide) ?_
          refine g_icmp_lt 49 d_D_isWellFormed_38 (by decide) (fun c_38 => ?_) (fun c_38 => ?_)
          · skip
            refine g_iload d_D_isWellFormed_49 rfl ?_
            refine g_iconst (v := 3) d_D_isWellFormed_51 (by decide) ?_
            refine g_icmp_lt 64 d_D_isWellFormed_52 (by decide) (fun c_52 => ?_) (fun c_52 => ?_)
            · skip
              refine g_iload_n d_D_isWellFormed_64 rfl ?_
              refine g_callS (k1 := 0) (n1 := 0) [.int (nI 20)] cw_D_179 cs_D_isAtPlace d_D_isWellFormed_65 rfl rfl ⟨by simp, by simp⟩ (by first | decide | omega) (by first | decide | omega) (by first | decide | omega) (fun _ _ h => h) (s_D_isAtPlace hV _) (fun r_ M h_ hfr_ => ?_)
              obtain ⟨rfl, hV⟩ := h_
              refine g_if_eq 79 d_D_isWellFormed_68 (by decide) (fun c_68 => ?_) (fun c_68 => ?_)
              · exact absurd c_68 (by decide)
              · skip
                refine g_aload_n d_D_isWellFormed_71 rfl ?_
                refine g_iload_n d_D_isWellFormed_72 rfl ?_
                refine g_callV (k1 := 0) (n1 := 0) [.int (a)] cw_D_106 cv_D_placeAt d_D_isWellFormed_73 rfl (hV.kdo (sl_0 hZ.2.1) (by decide)) rfl rfl ⟨by simp, by simp⟩ (by first | decide | omega) (by first | decide | omega) (by first | decide | omega) (fun _ _ h => h) (s_D_placeAt ⟨hV, hZ.2⟩ _) (fun r_ M h_ hfr_ => ?_)
                obtain ⟨rfl, hV⟩ := h_
                refine g_ifnull 83 d_D_isWellFormed_76 (by decide) (fun c_76 => ?_) (fun a_76 c_76 => ?_)
                · skip
                  refine g_iconst (v := 0) d_D_isWellFormed_83 (by decide) ?_
                  exact g_zreturn d_D_isWellFormed_84 rfl (Or.inl rfl) ⟨by unfold wfC; rw [if_neg (show ¬ a_R_in (nI 20) 0 25 = 0 by decide), if_neg (show ¬ (¬ a_R_needs (nI 20) ≤ 0 ∧ a_R_isEffect P a = 0) from fun q => q.1 (by decide)), if_neg (show ¬ (¬ a_R_needs (nI 20) ≤ 1 ∧ a_R_isEffect P b = 0) from fun q => q.1 (by decide)), if_neg (show ¬ (¬ a_R_needs (nI 20) ≤ 2 ∧ a_R_isEffect P c = 0) from fun q => q.1 (by decide)), if_pos ⟨(show ¬ a_R_in (nI 20) 19 24 = 0 by decide), (pl_none a).mp c_76⟩], hV⟩
                · skip
                  refine g_iconst (v := 1) d_D_isWellFormed_79 (by decide) ?_
                  refine g_goto 84 d_D_isWellFormed_80 (by decide) ?_
                  exact g_zreturn d_D_isWellFormed_84 rfl (Or.inr rfl) ⟨by unfold wfC; rw [if_neg (show ¬ a_R_in (nI 20) 0 25 = 0 by decide), if_neg (show ¬ (¬ a_R_needs (nI 20) ≤ 0 ∧ a_R_isEffect P a = 0) from fun q => q.1 (by decide)), if_neg (show ¬ (¬ a_R_needs (nI 20) ≤ 1 ∧ a_R_isEffect P b = 0) from fun q => q.1 (by decide)), if_neg (show ¬ (¬ a_R_needs (nI 20) ≤ 2 ∧ a_R_isEffect P c = 0) from fun q => q.1 (by decide)), if_neg (show ¬ (¬ a_R_in (nI 20) 19 24 = 0 ∧ a_R_in a 0 3 = 0) from fun q => absurd ((pl_none (S := S) a).mpr q.2) (by rw [c_76]; simp))], hV⟩
            · exact absurd c_52 (by decide)
          · exact absurd c_38 (by decide)
        · exact absurd c_24 (by decide)
      · exact absurd c_9 (by decide)
  · skip
    refine g_iload_n d_D_isWellFormed_0 rfl ?_
    refine g_if_lt 12 d_D_isWellFormed_1 (by decide) (fun c_1 => ?_) (fun c_1 => ?_)
    · exact absurd c_1 (by decide)
    · skip
      refine g_iload_n d_D_isWellFormed_4 rfl ?_
      refine g_partsLen pt_D_176 d_D_isWellFormed_5 d_D_isWellFormed_8 ?_
      refine g_icmp_lt 14 d_D_isWellFormed_9 (by decide) (fun c_9 => ?_) (fun c_9 => ?_)
      · skip
        refine g_partsAt (v := 0) (j := 21) pt_D_176 d_D_isWellFormed_14 d_D_isWellFormed_17 rfl d_D_isWellFormed_18 rfl (by decide) rfl ?_
        refine g_istore d_D_isWellFormed_19 (by decide) ?_
        refine g_iload d_D_isWellFormed_21 rfl ?_
        refine g_iconst (v := 1) d_D_isWellFormed_23 (by decide) ?_
        refine g_icmp_lt 35 d_D_isWellFormed_24 (by decide) (fun c_24 => ?_) (fun c_24 => ?_)
        · skip
          refine g_iload d_D_isWellFormed_35 rfl ?_
          refine g_iconst (v := 2) d_D_isWellFormed_37 (by decide) ?_
          refine g_icmp_lt 49 d_D_isWellFormed_38 (by decide) (fun c_38 => ?_) (fun c_38 => ?_)
          · skip
            refine g_iload d_D_isWellFormed_49 rfl ?_
            refine g_iconst (v := 3) d_D_isWellFormed_51 (by decide) ?_
            refine g_icmp_lt 64 d_D_isWellFormed_52 (by decide) (fun c_52 => ?_) (fun c_52 => ?_)
            · skip
              refine g_iload_n d_D_isWellFormed_64 rfl ?_
              refine g_callS (k1 := 0) (n1 := 0) [.int (nI 21)] cw_D_179 cs_D_isAtPlace d_D_isWellFormed_65 rfl rfl ⟨by simp, by simp⟩ (by first | decide | omega) (by first | decide | omega) (by first | decide | omega) (fun _ _ h => h) (s_D_isAtPlace hV _) (fun r_ M h_ hfr_ => ?_)
              obtain ⟨rfl, hV⟩ := h_
              refine g_if_eq 79 d_D_isWellFormed_68 (by decide) (fun c_68 => ?_) (fun c_68 => ?_)
              · exact absurd c_68 (by decide)
              · skip
                refine g_aload_n d_D_isWellFormed_71 rfl ?_
                refine g_iload_n d_D_isWellFormed_72 rfl ?_
                refine g_callV (k1 := 0) (n1 := 0) [.int (a)] cw_D_106 cv_D_placeAt d_D_isWellFormed_73 rfl (hV.kdo (sl_0 hZ.2.1) (by decide)) rfl rfl ⟨by simp, by simp⟩ (by first | decide | omega) (by first | decide | omega) (by first | decide | omega) (fun _ _ h => h) (s_D_placeAt ⟨hV, hZ.2⟩ _) (fun r_ M h_ hfr_ => ?_)
                obtain ⟨rfl, hV⟩ := h_
                refine g_ifnull 83 d_D_isWellFormed_76 (by decide) (fun c_76 => ?_) (fun a_76 c_76 => ?_)
                · skip
                  refine g_iconst (v := 0) d_D_isWellFormed_83 (by decide) ?_
                  exact g_zreturn d_D_isWellFormed_84 rfl (Or.inl rfl) ⟨by unfold wfC; rw [if_neg (show ¬ a_R_in (nI 21) 0 25 = 0 by decide), if_neg (show ¬ (¬ a_R_needs (nI 21) ≤ 0 ∧ a_R_isEffect P a = 0) from fun q => q.1 (by decide)), if_neg (show ¬ (¬ a_R_needs (nI 21) ≤ 1 ∧ a_R_isEffect P b = 0) from fun q => q.1 (by decide)), if_neg (show ¬ (¬ a_R_needs (nI 21) ≤ 2 ∧ a_R_isEffect P c = 0) from fun q => q.1 (by decide)), if_pos ⟨(show ¬ a_R_in (nI 21) 19 24 = 0 by decide), (pl_none a).mp c_76⟩], hV⟩
                · skip
                  refine g_iconst (v := 1) d_D_isWellFormed_79 (by decide) ?_
                  refine g_goto 84 d_D_isWellFormed_80 (by decide) ?_
                  exact g_zreturn d_D_isWellFormed_84 rfl (Or.inr rfl) ⟨by unfold wfC; rw [if_neg (show ¬ a_R_in (nI 21) 0 25 = 0 by decide), if_neg (show ¬ (¬ a_R_needs (nI 21) ≤ 0 ∧ a_R_isEffect P a = 0) from fun q => q.1 (by decide)), if_neg (show ¬ (¬ a_R_needs (nI 21) ≤ 1 ∧ a_R_isEffect P b = 0) from fun q => q.1 (by decide)), if_neg (show ¬ (¬ a_R_needs (nI 21) ≤ 2 ∧ a_R_isEffect P c = 0) from fun q => q.1 (by decide)), if_neg (show ¬ (¬ a_R_in (nI 21) 19 24 = 0 ∧ a_R_in a 0 3 = 0) from fun q => absurd ((pl_none (S := S) a).mpr q.2) (by rw [c_76]; simp))], hV⟩
            · exact absurd c_52 (by decide)
          · exact absurd c_38 (by decide)
        · exact absurd c_24 (by decide)
      · exact absurd c_9 (by decide)
  · skip
    refine g_iload_n d_D_isWellFormed_0 rfl ?_
    refine g_if_lt 12 d_D_isWellFormed_1 (by decide) (fun c_1 => ?_) (fun c_1 => ?_)
    · exact absurd c_1 (by decide)
    · skip
      refine g_iload_n d_D_isWellFormed_4 rfl ?_
      refine g_partsLen pt_D_176 d_D_isWellFormed_5 d_D_isWellFormed_8 ?_
      refine g_icmp_lt 14 d_D_isWellFormed_9 (by decide) (fun c_9 => ?_) (fun c_9 => ?_)
      · skip
        refine g_partsAt (v := 0) (j := 22) pt_D_176 d_D_isWellFormed_14 d_D_isWellFormed_17 rfl d_D_isWellFormed_18 rfl (by decide) rfl ?_
        refine g_istore d_D_isWellFormed_19 (by decide) ?_
        refine g_iload d_D_isWellFormed_21 rfl ?_
        refine g_iconst (v := 1) d_D_isWellFormed_23 (by decide) ?_
        refine g_icmp_lt 35 d_D_isWellFormed_24 (by decide) (fun c_24 => ?_) (fun c_24 => ?_)
        · skip
          refine g_iload d_D_isWellFormed_35 rfl ?_
          refine g_iconst (v := 2) d_D_isWellFormed_37 (by decide) ?_
          refine g_icmp_lt 49 d_D_isWellFormed_38 (by decide) (fun c_38 => ?_) (fun c_38 => ?_)
          · skip
            refine g_iload d_D_isWellFormed_49 rfl ?_
            refine g_iconst (v := 3) d_D_isWellFormed_51 (by decide) ?_
            refine g_icmp_lt 64 d_D_isWellFormed_52 (by decide) (fun c_52 => ?_) (fun c_52 => ?_)
            · skip
              refine g_iload_n d_D_isWellFormed_64 rfl ?_
              refine g_callS (k1 := 0) (n1 := 0) [.int (nI 22)] cw_D_179 cs_D_isAtPlace d_D_isWellFormed_65 rfl rfl ⟨by simp, by simp⟩ (by first | decide | omega) (by first | decide | omega) (by first | decide | omega) (fun _ _ h => h) (s_D_isAtPlace hV _) (fun r_ M h_ hfr_ => ?_)
              obtain ⟨rfl, hV⟩ := h_
              refine g_if_eq 79 d_D_isWellFormed_68 (by decide) (fun c_68 => ?_) (fun c_68 => ?_)
              · exact absurd c_68 (by decide)
              · skip
                refine g_aload_n d_D_isWellFormed_71 rfl ?_
                refine g_iload_n d_D_isWellFormed_72 rfl ?_
                refine g_callV (k1 := 0) (n1 := 0) [.int (a)] cw_D_106 cv_D_placeAt d_D_isWellFormed_73 rfl (hV.kdo (sl_0 hZ.2.1) (by decide)) rfl rfl ⟨by simp, by simp⟩ (by first | decide | omega) (by first | decide | omega) (by first | decide | omega) (fun _ _ h => h) (s_D_placeAt ⟨hV, hZ.2⟩ _) (fun r_ M h_ hfr_ => ?_)
                obtain ⟨rfl, hV⟩ := h_
                refine g_ifnull 83 d_D_isWellFormed_76 (by decide) (fun c_76 => ?_) (fun a_76 c_76 => ?_)
                · skip
                  refine g_iconst (v := 0) d_D_isWellFormed_83 (by decide) ?_
                  exact g_zreturn d_D_isWellFormed_84 rfl (Or.inl rfl) ⟨by unfold wfC; rw [if_neg (show ¬ a_R_in (nI 22) 0 25 = 0 by decide), if_neg (show ¬ (¬ a_R_needs (nI 22) ≤ 0 ∧ a_R_isEffect P a = 0) from fun q => q.1 (by decide)), if_neg (show ¬ (¬ a_R_needs (nI 22) ≤ 1 ∧ a_R_isEffect P b = 0) from fun q => q.1 (by decide)), if_neg (show ¬ (¬ a_R_needs (nI 22) ≤ 2 ∧ a_R_isEffect P c = 0) from fun q => q.1 (by decide)), if_pos ⟨(show ¬ a_R_in (nI 22) 19 24 = 0 by decide), (pl_none a).mp c_76⟩], hV⟩
                · skip
                  refine g_iconst (v := 1) d_D_isWellFormed_79 (by decide) ?_
                  refine g_goto 84 d_D_isWellFormed_80 (by decide) ?_
                  exact g_zreturn d_D_isWellFormed_84 rfl (Or.inr rfl) ⟨by unfold wfC; rw [if_neg (show ¬ a_R_in (nI 22) 0 25 = 0 by decide), if_neg (show ¬ (¬ a_R_needs (nI 22) ≤ 0 ∧ a_R_isEffect P a = 0) from fun q => q.1 (by decide)), if_neg (show ¬ (¬ a_R_needs (nI 22) ≤ 1 ∧ a_R_isEffect P b = 0) from fun q => q.1 (by decide)), if_neg (show ¬ (¬ a_R_needs (nI 22) ≤ 2 ∧ a_R_isEffect P c = 0) from fun q => q.1 (by decide)), if_neg (show ¬ (¬ a_R_in (nI 22) 19 24 = 0 ∧ a_R_in a 0 3 = 0) from fun q => absurd ((pl_none (S := S) a).mpr q.2) (by rw [c_76]; simp))], hV⟩
            · exact absurd c_52 (by decide)
          · exact absurd c_38 (by decide)
        · exact absurd c_24 (by decide)
      · exact absurd c_9 (by decide)
  · skip
    refine g_iload_n d_D_isWellFormed_0 rfl ?_
    refine g_if_lt 12 d_D_isWellFormed_1 (by decide) (fun c_1 => ?_) (fun c_1 => ?_)
    · exact absurd c_1 (by decide)
    · skip
      refine g_iload_n d_D_isWellFormed_4 rfl ?_
      refine g_partsLen pt_D_176 d_D_isWellFormed_5 d_D_isWellFormed_8 ?_
      refine g_icmp_lt 14 d_D_isWellFormed_9 (by decide) (fun c_9 => ?_) (fun c_9 => ?_)
      · skip
        refine g_partsAt (v := 0) (j := 23) pt_D_176 d_D_isWellFormed_14 d_D_isWellFormed_17 rfl d_D_isWellFormed_18 rfl (by decide) rfl ?_
        refine g_istore d_D_isWellFormed_19 (by decide) ?_
        refine g_iload d_D_isWellFormed_21 rfl ?_
        refine g_iconst (v := 1) d_D_isWellFormed_23 (by decide) ?_
        refine g_icmp_lt 35 d_D_isWellFormed_24 (by decide) (fun c_24 => ?_) (fun c_24 => ?_)
        · skip
          refine g_iload d_D_isWellFormed_35 rfl ?_
          refine g_iconst (v := 2) d_D_isWellFormed_37 (by decide) ?_
          refine g_icmp_lt 49 d_D_isWellFormed_38 (by decide) (fun c_38 => ?_) (fun c_38 => ?_)
          · skip
            refine g_iload d_D_isWellFormed_49 rfl ?_
            refine g_iconst (v := 3) d_D_isWellFormed_51 (by decide) ?_
            refine g_icmp_lt 64 d_D_isWellFormed_52 (by decide) (fun c_52 => ?_) (fun c_52 => ?_)
            · skip
              refine g_iload_n d_D_isWellFormed_64 rfl ?_
              refine g_callS (k1 := 0) (n1 := 0) [.int (nI 23)] cw_D_179 cs_D_isAtPlace d_D_isWellFormed_65 rfl rfl ⟨by simp, by simp⟩ (by first | decide | omega) (by first | decide | omega) (by first | decide | omega) (fun _ _ h => h) (s_D_isAtPlace hV _) (fun r_ M h_ hfr_ => ?_)
              obtain ⟨rfl, hV⟩ := h_
              refine g_if_eq 79 d_D_isWellFormed_68 (by decide) (fun c_68 => ?_) (fun c_68 => ?_)
              · exact absurd c_68 (by decide)
              · skip
                refine g_aload_n d_D_isWellFormed_71 rfl ?_
                refine g_iload_n d_D_isWellFormed_72 rfl ?_
                refine g_callV (k1 := 0) (n1 := 0) [.int (a)] cw_D_106 cv_D_placeAt d_D_isWellFormed_73 rfl (hV.kdo (sl_0 hZ.2.1) (by decide)) rfl rfl ⟨by simp, by simp⟩ (by first | decide | omega) (by first | decide | omega) (by first | decide | omega) (fun _ _ h => h) (s_D_placeAt ⟨hV, hZ.2⟩ _) (fun r_ M h_ hfr_ => ?_)
                obtain ⟨rfl, hV⟩ := h_
                refine g_ifnull 83 d_D_isWellFormed_76 (by decide) (fun c_76 => ?_) (fun a_76 c_76 => ?_)
                · skip
                  refine g_iconst (v := 0) d_D_isWellFormed_83 (by decide) ?_
                  exact g_zreturn d_D_isWellFormed_84 rfl (Or.inl rfl) ⟨by unfold wfC; rw [if_neg (show ¬ a_R_in (nI 23) 0 25 = 0 by decide), if_neg (show ¬ (¬ a_R_needs (nI 23) ≤ 0 ∧ a_R_isEffect P a = 0) from fun q => q.1 (by decide)), if_neg (show ¬ (¬ a_R_needs (nI 23) ≤ 1 ∧ a_R_isEffect P b = 0) from fun q => q.1 (by decide)), if_neg (show ¬ (¬ a_R_needs (nI 23) ≤ 2 ∧ a_R_isEffect P c = 0) from fun q => q.1 (by decide)), if_pos ⟨(show ¬ a_R_in (nI 23) 19 24 = 0 by decide), (pl_none a).mp c_76⟩], hV⟩
                · skip
                  refine g_iconst (v := 1) d_D_isWellFormed_79 (by decide) ?_
                  refine g_goto 84 d_D_isWellFormed_80 (by decide) ?_
                  exact g_zreturn d_D_isWellFormed_84 rfl (Or.inr rfl) ⟨by unfold wfC; rw [if_neg (show ¬ a_R_in (nI 23) 0 25 = 0 by decide), if_neg (show ¬ (¬ a_R_needs (nI 23) ≤ 0 ∧ a_R_isEffect P a = 0) from fun q => q.1 (by decide)), if_neg (show ¬ (¬ a_R_needs (nI 23) ≤ 1 ∧ a_R_isEffect P b = 0) from fun q => q.1 (by decide)), if_neg (show ¬ (¬ a_R_needs (nI 23) ≤ 2 ∧ a_R_isEffect P c = 0) from fun q => q.1 (by decide)), if_neg (show ¬ (¬ a_R_in (nI 23) 19 24 = 0 ∧ a_R_in a 0 3 = 0) from fun q => absurd ((pl_none (S := S) a).mpr q.2) (by rw [c_76]; simp))], hV⟩
            · exact absurd c_52 (by decide)
          · exact absurd c_38 (by decide)
        · exact absurd c_24 (by decide)
      · exact absurd c_9 (by decide)
  · skip
    refine g_iload_n d_D_isWellFormed_0 rfl ?_
    refine g_if_lt 12 d_D_isWellFormed_1 (by decide) (fun c_1 => ?_) (fun c_1 => ?_)
    · exact absurd c_1 (by decide)
    · skip
      refine g_iload_n d_D_isWellFormed_4 rfl ?_
      refine g_partsLen pt_D_176 d_D_isWellFormed_5 d_D_isWellFormed_8 ?_
      refine g_icmp_lt 14 d_D_isWellFormed_9 (by decide) (fun c_9 => ?_) (fun c_9 => ?_)
      · skip
        refine g_partsAt (v := 0) (j := 24) pt_D_176 d_D_isWellFormed_14 d_D_isWellFormed_17 rfl d_D_isWellFormed_18 rfl (by decide) rfl ?_
        refine g_istore d_D_isWellFormed_19 (by decide) ?_
        refine g_iload d_D_isWellFormed_21 rfl ?_
        refine g_iconst (v := 1) d_D_isWellFormed_23 (by decide) ?_
        refine g_icmp_lt 35 d_D_isWellFormed_24 (by decide) (fun c_24 => ?_) (fun c_24 => ?_)
        · skip
          refine g_iload d_D_isWellFormed_35 rfl ?_
          refine g_iconst (v := 2) d_D_isWellFormed_37 (by decide) ?_
          refine g_icmp_lt 49 d_D_isWellFormed_38 (by decide) (fun c_38 => ?_) (fun c_38 => ?_)
          · skip
            refine g_iload d_D_isWellFormed_49 rfl ?_
            refine g_iconst (v := 3) d_D_isWellFormed_51 (by decide) ?_
            refine g_icmp_lt 64 d_D_isWellFormed_52 (by decide) (fun c_52 => ?_) (fun c_52 => ?_)
            · skip
              refine g_iload_n d_D_isWellFormed_64 rfl ?_
              refine g_callS (k1 := 0) (n1 := 0) [.int (nI 24)] cw_D_179 cs_D_isAtPlace d_D_isWellFormed_65 rfl rfl ⟨by simp, by simp⟩ (by first | decide | omega) (by first | decide | omega) (by first | decide | omega) (fun _ _ h => h) (s_D_isAtPlace hV _) (fun r_ M h_ hfr_ => ?_)
              obtain ⟨rfl, hV⟩ := h_
              refine g_if_eq 79 d_D_isWellFormed_68 (by decide) (fun c_68 => ?_) (fun c_68 => ?_)
              · exact absurd c_68 (by decide)
              · skip
                refine g_aload_n d_D_isWellFormed_71 rfl ?_
                refine g_iload_n d_D_isWellFormed_72 rfl ?_
                refine g_callV (k1 := 0) (n1 := 0) [.int (a)] cw_D_106 cv_D_placeAt d_D_isWellFormed_73 rfl (hV.kdo (sl_0 hZ.2.1) (by decide)) rfl rfl ⟨by simp, by simp⟩ (by first | decide | omega) (by first | decide | omega) (by first | decide | omega) (fun _ _ h => h) (s_D_placeAt ⟨hV, hZ.2⟩ _) (fun r_ M h_ hfr_ => ?_)
                obtain ⟨rfl, hV⟩ := h_
                refine g_ifnull 83 d_D_isWellFormed_76 (by decide) (fun c_76 => ?_) (fun a_76 c_76 => ?_)
                · skip
                  refine g_iconst (v := 0) d_D_isWellFormed_83 (by decide) ?_
                  exact g_zreturn d_D_isWellFormed_84 rfl (Or.inl rfl) ⟨by unfold wfC; rw [if_neg (show ¬ a_R_in (nI 24) 0 25 = 0 by decide), if_neg (show ¬ (¬ a_R_needs (nI 24) ≤ 0 ∧ a_R_isEffect P a = 0) from fun q => q.1 (by decide)), if_neg (show ¬ (¬ a_R_needs (nI 24) ≤ 1 ∧ a_R_isEffect P b = 0) from fun q => q.1 (by decide)), if_neg (show ¬ (¬ a_R_needs (nI 24) ≤ 2 ∧ a_R_isEffect P c = 0) from fun q => q.1 (by decide)), if_pos ⟨(show ¬ a_R_in (nI 24) 19 24 = 0 by decide), (pl_none a).mp c_76⟩], hV⟩
                · skip
                  refine g_iconst (v := 1) d_D_isWellFormed_79 (by decide) ?_
                  refine g_goto 84 d_D_isWellFormed_80 (by decide) ?_
                  exact g_zreturn d_D_isWellFormed_84 rfl (Or.inr rfl) ⟨by unfold wfC; rw [if_neg (show ¬ a_R_in (nI 24) 0 25 = 0 by decide), if_neg (show ¬ (¬ a_R_needs (nI 24) ≤ 0 ∧ a_R_isEffect P a = 0) from fun q => q.1 (by decide)), if_neg (show ¬ (¬ a_R_needs (nI 24) ≤ 1 ∧ a_R_isEffect P b = 0) from fun q => q.1 (by decide)), if_neg (show ¬ (¬ a_R_needs (nI 24) ≤ 2 ∧ a_R_isEffect P c = 0) from fun q => q.1 (by decide)), if_neg (show ¬ (¬ a_R_in (nI 24) 19 24 = 0 ∧ a_R_in a 0 3 = 0) from fun q => absurd ((pl_none (S := S) a).mpr q.2) (by rw [c_76]; simp))], hV⟩
            · exact absurd c_52 (by decide)
          · exact absurd c_38 (by decide)
        · exact absurd c_24 (by decide)
      · exact absurd c_9 (by decide)
  · skip
    refine g_iload_n d_D_isWellFormed_0 rfl ?_
    refine g_if_lt 12 d_D_isWellFormed_1 (by decide) (fun c_1 => ?_) (fun c_1 => ?_)
    · exact absurd c_1 (by decide)
    · skip
      refine g_iload_n d_D_isWellFormed_4 rfl ?_
      refine g_partsLen pt_D_176 d_D_isWellFormed_5 d_D_isWellFormed_8 ?_
      refine g_icmp_lt 14 d_D_isWellFormed_9 (by decide) (fun c_9 => ?_) (fun c_9 => ?_)
      · skip
        refine g_partsAt (v := 2) (j := 25) pt_D_176 d_D_isWellFormed_14 d_D_isWellFormed_17 rfl d_D_isWellFormed_18 rfl (by decide) rfl ?_
        refine g_istore d_D_isWellFormed_19 (by decide) ?_
        refine g_iload d_D_isWellFormed_21 rfl ?_
        refine g_iconst (v := 1) d_D_isWellFormed_23 (by decide) ?_
        refine g_icmp_lt 35 d_D_isWellFormed_24 (by decide) (fun c_24 => ?_) (fun c_24 => ?_)
        · exact absurd c_24 (by decide)
        · skip
          refine g_aload_n d_D_isWellFormed_27 rfl ?_
          refine g_iload_n d_D_isWellFormed_28 rfl ?_
          refine g_callV (k1 := 0) (n1 := 0) [.int (a)] cw_D_69 cv_D_effectAt d_D_isWellFormed_29 rfl (hV.kdo (sl_0 hZ.2.1) (by decide)) rfl rfl ⟨by simp, by simp⟩ (by first | decide | omega) (by first | decide | omega) (by first | decide | omega) (fun _ _ h => h) (s_D_effectAt ⟨hV, hZ.2⟩ _) (fun r_ M h_ hfr_ => ?_)
          obtain ⟨rfl, hV⟩ := h_
          refine g_ifnull 83 d_D_isWellFormed_32 (by decide) (fun c_32 => ?_) (fun a_32 c_32 => ?_)
          · skip
            refine g_iconst (v := 0) d_D_isWellFormed_83 (by decide) ?_
            exact g_zreturn d_D_isWellFormed_84 rfl (Or.inl rfl) ⟨by unfold wfC; rw [if_neg (show ¬ a_R_in (nI 25) 0 25 = 0 by decide), if_pos ⟨(show ¬ a_R_needs (nI 25) ≤ 0 by decide), (ef_none hZ.2.2.1 a).mp c_32⟩], hV⟩
          · skip
            refine g_iload d_D_isWellFormed_35 rfl ?_
            refine g_iconst (v := 2) d_D_isWellFormed_37 (by decide) ?_
            refine g_icmp_lt 49 d_D_isWellFormed_38 (by decide) (fun c_38 => ?_) (fun c_38 => ?_)
            · exact absurd c_38 (by decide)
            · skip
              refine g_aload_n d_D_isWellFormed_41 rfl ?_
              refine g_iload_n d_D_isWellFormed_42 rfl ?_
              refine g_callV (k1 := 0) (n1 := 0) [.int (b)] cw_D_69 cv_D_effectAt d_D_isWellFormed_43 rfl (hV.kdo (sl_0 hZ.2.1) (by decide)) rfl rfl ⟨by simp, by simp⟩ (by first | decide | omega) (by first | decide | omega) (by first | decide | omega) (fun _ _ h => h) (s_D_effectAt ⟨hV, hZ.2⟩ _) (fun r_ M h_ hfr_ => ?_)
              obtain ⟨rfl, hV⟩ := h_
              refine g_ifnull 83 d_D_isWellFormed_46 (by decide) (fun c_46 => ?_) (fun a_46 c_46 => ?_)
              · skip
                refine g_iconst (v := 0) d_D_isWellFormed_83 (by decide) ?_
                exact g_zreturn d_D_isWellFormed_84 rfl (Or.inl rfl) ⟨by unfold wfC; rw [if_neg (show ¬ a_R_in (nI 25) 0 25 = 0 by decide), if_neg (show ¬ (¬ a_R_needs (nI 25) ≤ 0 ∧ a_R_isEffect P a = 0) from fun q => absurd ((ef_none (S := S) hZ.2.2.1 a).mpr q.2) (by rw [c_32]; simp)), if_pos ⟨(show ¬ a_R_needs (nI 25) ≤ 1 by decide), (ef_none hZ.2.2.1 b).mp c_46⟩], hV⟩
              · skip
                refine g_iload d_D_isWellFormed_49 rfl ?_
                refine g_iconst (v := 3) d_D_isWellFormed_51 (by decide) ?_
                refine g_icmp_lt 64 d_D_isWellFormed_52 (by decide) (fun c_52 => ?_) (fun c_52 => ?_)
                · skip
                  refine g_iload_n d_D_isWellFormed_64 rfl ?_
                  refine g_callS (k1 := 0) (n1 := 0) [.int (nI 25)] cw_D_179 cs_D_isAtPlace d_D_isWellFormed_65 rfl rfl ⟨by simp, by simp⟩ (by first | decide | omega) (by first | decide | omega) (by first | decide | omega) (fun _ _ h => h) (s_D_isAtPlace hV _) (fun r_ M h_ hfr_ => ?_)
                  obtain ⟨rfl, hV⟩ := h_
                  refine g_if_eq 79 d_D_isWellFormed_68 (by decide) (fun c_68 => ?_) (fun c_68 => ?_)
                  · skip
                    refine g_iconst (v := 1) d_D_isWellFormed_79 (by decide) ?_
                    refine g_goto 84 d_D_isWellFormed_80 (by decide) ?_
                    exact g_zreturn d_D_isWellFormed_84 rfl (Or.inr rfl) ⟨by unfold wfC; rw [if_neg (show ¬ a_R_in (nI 25) 0 25 = 0 by decide), if_neg (show ¬ (¬ a_R_needs (nI 25) ≤ 0 ∧ a_R_isEffect P a = 0) from fun q => absurd ((ef_none (S := S) hZ.2.2.1 a).mpr q.2) (by rw [c_32]; simp)), if_neg (show ¬ (¬ a_R_needs (nI 25) ≤ 1 ∧ a_R_isEffect P b = 0) from fun q => absurd ((ef_none (S := S) hZ.2.2.1 b).mpr q.2) (by rw [c_46]; simp)), if_neg (show ¬ (¬ a_R_needs (nI 25) ≤ 2 ∧ a_R_isEffect P c = 0) from fun q => q.1 (by decide)), if_neg (show ¬ (¬ a_R_in (nI 25) 19 24 = 0 ∧ a_R_in a 0 3 = 0) from fun q => q.1 (by decide))], hV⟩
                  · exact absurd c_68 (by decide)
                · exact absurd c_52 (by decide)
      · exact absurd c_9 (by decide)
