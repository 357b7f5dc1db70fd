/-! the reference's methods: leaves (by program: wip/tools/gen_ref1.py) -/
def tn (x : Int32) : Nat := x.toNatClampNeg
theorem tn_nI {n : Nat} (h : n < 2 ^ 31) : tn (nI n) = n := nI_clamp h
theorem tn_of {x : Int32} (h : ¬ x < 0) : x = nI (tn x) := by
  obtain ⟨j, h1, h2⟩ := nI_of h
  rw [h2, tn_nI h1]
theorem ix_add {x y : Int32} {a b : Nat} (hx : x = nI a) (hy : y = nI b) : x + y = nI (a + b) := by rw [hx, hy, nI_add]
theorem ix_mul {x y : Int32} {a b : Nat} (hx : x = nI a) (hy : y = nI b) : x * y = nI (a * b) := by rw [hx, hy, pk_mul]
theorem ix_sub {x y : Int32} {a b : Nat} (hx : x = nI a) (hy : y = nI b) (h : b ≤ a) : x - y = nI (a - b) := by rw [hx, hy, pk_sub h]
theorem ix_dec {x : Int32} {a : Nat} (hx : x = nI a) (h : 1 ≤ a) : x + (-1) = nI (a - 1) := by
  rw [hx]
  obtain ⟨b, rfl⟩ : ∃ b, a = b + 1 := ⟨a - 1, by omega⟩
  rw [pk_m1]
  rfl
def a_R_in (v : Int32) (lo : Int32) (hi : Int32) : Int32 := if v < lo then 0 else if hi < v then 0 else 1
set_option maxHeartbeats 4000000 in
set_option maxRecDepth 100000 in
theorem c_R_in (v : Int32) (lo : Int32) (hi : Int32) (own : Nat → Nat → Bool) (M : Mm) : Run m_R_in own 0 0 0 [.int v, .int lo, .int hi] M (fun r M' => r = (some (.int (a_R_in v lo hi))) ∧ M' = M) := by
  refine Run.ofG (by decide) (by simp [cat_int]) (Nat.le_of_ble_eq_true rfl) ?_
  refine g_iload_n d_R_in_0 rfl ?_
  refine g_iload_n d_R_in_1 rfl ?_
  refine g_icmp_lt 14 d_R_in_2 (by decide) (fun c_2 => ?_) (fun c_2 => ?_)
  · skip
    refine g_iconst (v := 0) d_R_in_14 (by decide) ?_
    exact g_zreturn d_R_in_15 rfl (by first | exact Or.inl rfl | exact Or.inr rfl | assumption | (simp_all; done)) ⟨by unfold a_R_in; rw [if_pos (show v < lo from c_2)]; try rfl, rfl⟩
  · skip
    refine g_iload_n d_R_in_5 rfl ?_
    refine g_iload_n d_R_in_6 rfl ?_
    refine g_icmp_gt 14 d_R_in_7 (by decide) (fun c_7 => ?_) (fun c_7 => ?_)
    · skip
      refine g_iconst (v := 0) d_R_in_14 (by decide) ?_
      exact g_zreturn d_R_in_15 rfl (by first | exact Or.inl rfl | exact Or.inr rfl | assumption | (simp_all; done)) ⟨by unfold a_R_in; rw [if_neg (show ¬ (v < lo) from c_2), if_pos (show hi < v from c_7)]; try rfl, rfl⟩
    · skip
      refine g_iconst (v := 1) d_R_in_10 (by decide) ?_
      refine g_goto 15 d_R_in_11 (by decide) ?_
      exact g_zreturn d_R_in_15 rfl (by first | exact Or.inl rfl | exact Or.inr rfl | assumption | (simp_all; done)) ⟨by unfold a_R_in; rw [if_neg (show ¬ (v < lo) from c_2), if_neg (show ¬ (hi < v) from c_7)]; try rfl, rfl⟩

def p_R_give (P : Pst) (f : Nat) (v : Int32) : Pst := up (up (up P 11 f (-1)) 14 f 0) 13 f v
set_option maxHeartbeats 4000000 in
set_option maxRecDepth 100000 in
theorem c_R_give (P : Pst) (f : Nat) (v : Int32) (hf : f < 10) : RC m_R_give 0 [.int (nI f), .int v] P none (p_R_give P f v) := by
  intro γ M hR
  refine Run.ofG (by decide) (by simp [cat_int, cat_rf]) (Nat.le_of_ble_eq_true rfl) ?_
  refine g_aload_n d_R_give_0 rfl ?_
  refine r_arr 11 hR (by decide) (by decide) fl_R_41 rfl d_R_give_1 ?_
  refine g_iload_n d_R_give_4 rfl ?_
  refine g_iconst (v := -1) d_R_give_5 (by decide) ?_
  refine r_iast 11 f hR (by decide) rfl d_R_give_6 rfl (by show f < 10; omega) (fun M hR => ?_)
  refine g_aload_n d_R_give_7 rfl ?_
  refine r_arr 14 hR (by decide) (by decide) fl_R_50 rfl d_R_give_8 ?_
  refine g_iload_n d_R_give_11 rfl ?_
  refine g_iconst (v := 0) d_R_give_12 (by decide) ?_
  refine r_zast 14 f hR (by decide) rfl (by first | exact Or.inl rfl | exact Or.inr rfl | assumption | (simp_all; done)) d_R_give_13 rfl (by show f < 10; omega) (fun M hR => ?_)
  refine g_aload_n d_R_give_14 rfl ?_
  refine r_arr 13 hR (by decide) (by decide) fl_R_47 rfl d_R_give_15 ?_
  refine g_iload_n d_R_give_18 rfl ?_
  refine g_iload_n d_R_give_19 rfl ?_
  refine r_iast 13 f hR (by decide) rfl d_R_give_20 rfl (by show f < 10; omega) (fun M hR => ?_)
  exact g_return d_R_give_21 rfl ⟨rfl, hR⟩

def p_R_single (P : Pst) (row : Nat) (t : Int32) (c : Int32) : Pst := up (up (up P 33 row 1) 34 (9 * row) t) 35 (9 * row) c
set_option maxHeartbeats 4000000 in
set_option maxRecDepth 100000 in
theorem c_R_single (P : Pst) (row : Nat) (t : Int32) (c : Int32) (hr : row < 171) : RC m_R_single 0 [.int (nI row), .int t, .int c] P none (p_R_single P row t c) := by
  intro γ M hR
  refine Run.ofG (by decide) (by simp [cat_int, cat_rf]) (Nat.le_of_ble_eq_true rfl) ?_
  refine g_aload_n d_R_single_0 rfl ?_
  refine r_arr 33 hR (by decide) (by decide) fl_R_107 rfl d_R_single_1 ?_
  refine g_iload_n d_R_single_4 rfl ?_
  refine g_iconst (v := 1) d_R_single_5 (by decide) ?_
  refine r_iast 33 row hR (by decide) rfl d_R_single_6 rfl (by show row < 171; omega) (fun M hR => ?_)
  refine g_aload_n d_R_single_7 rfl ?_
  refine r_arr 34 hR (by decide) (by decide) fl_R_110 rfl d_R_single_8 ?_
  refine g_bipush (v := 9) d_R_single_11 (by decide) ?_
  refine g_iload_n d_R_single_13 rfl ?_
  refine g_imul d_R_single_14 ?_
  refine g_iload_n d_R_single_15 rfl ?_
  refine r_iast 34 (9 * row) hR (by decide) rfl d_R_single_16 (ix_mul rfl rfl) (by show 9 * row < 1539; omega) (fun M hR => ?_)
  refine g_aload_n d_R_single_17 rfl ?_
  refine r_arr 35 hR (by decide) (by decide) fl_R_113 rfl d_R_single_18 ?_
  refine g_bipush (v := 9) d_R_single_21 (by decide) ?_
  refine g_iload_n d_R_single_23 rfl ?_
  refine g_imul d_R_single_24 ?_
  refine g_iload_n d_R_single_25 rfl ?_
  refine r_iast 35 (9 * row) hR (by decide) rfl d_R_single_26 (ix_mul rfl rfl) (by show 9 * row < 1539; omega) (fun M hR => ?_)
  exact g_return d_R_single_27 rfl ⟨rfl, hR⟩

def p_R_does (P : Pst) (f : Nat) (e : Int32) (v : Int32) : Pst := up (up P 11 f e) 12 f v
set_option maxHeartbeats 4000000 in
set_option maxRecDepth 100000 in
theorem c_R_does (P : Pst) (f : Nat) (e : Int32) (v : Int32) (hf : f < 10) : RC m_R_does 0 [.int (nI f), .int e, .int v] P none (p_R_does P f e v) := by
  intro γ M hR
  refine Run.ofG (by decide) (by simp [cat_int, cat_rf]) (Nat.le_of_ble_eq_true rfl) ?_
  refine g_aload_n d_R_does_0 rfl ?_
  refine r_arr 11 hR (by decide) (by decide) fl_R_41 rfl d_R_does_1 ?_
  refine g_iload_n d_R_does_4 rfl ?_
  refine g_iload_n d_R_does_5 rfl ?_
  refine r_iast 11 f hR (by decide) rfl d_R_does_6 rfl (by show f < 10; omega) (fun M hR => ?_)
  refine g_aload_n d_R_does_7 rfl ?_
  refine r_arr 12 hR (by decide) (by decide) fl_R_44 rfl d_R_does_8 ?_
  refine g_iload_n d_R_does_11 rfl ?_
  refine g_iload_n d_R_does_12 rfl ?_
  refine r_iast 12 f hR (by decide) rfl d_R_does_13 rfl (by show f < 10; omega) (fun M hR => ?_)
  exact g_return d_R_does_14 rfl ⟨rfl, hR⟩

def p_R_rest (P : Pst) (f : Nat) (why : Int32) (v : Int32) (th : Int32) : Pst := up (up (up (up (up (up P 5 f 1) 15 f why) 16 f v) 17 f th) 50 0 ((P 50 0) + 1)) 18 f (P 50 0)
set_option maxHeartbeats 4000000 in
set_option maxRecDepth 100000 in
theorem c_R_rest (P : Pst) (f : Nat) (why : Int32) (v : Int32) (th : Int32) (hf : f < 10) : RC m_R_rest 0 [.int (nI f), .int why, .int v, .int th] P none (p_R_rest P f why v th) := by
  intro γ M hR
  refine Run.ofG (by decide) (by simp [cat_int, cat_rf]) (Nat.le_of_ble_eq_true rfl) ?_
  refine g_aload_n d_R_rest_0 rfl ?_
  refine r_arr 5 hR (by decide) (by decide) fl_R_22 rfl d_R_rest_1 ?_
  refine g_iload_n d_R_rest_4 rfl ?_
  refine g_iconst (v := 1) d_R_rest_5 (by decide) ?_
  refine r_iast 5 f hR (by decide) rfl d_R_rest_6 rfl (by show f < 10; omega) (fun M hR => ?_)
  refine g_aload_n d_R_rest_7 rfl ?_
  refine r_arr 15 hR (by decide) (by decide) fl_R_53 rfl d_R_rest_8 ?_
  refine g_iload_n d_R_rest_11 rfl ?_
  refine g_iload_n d_R_rest_12 rfl ?_
  refine r_iast 15 f hR (by decide) rfl d_R_rest_13 rfl (by show f < 10; omega) (fun M hR => ?_)
  refine g_aload_n d_R_rest_14 rfl ?_
  refine r_arr 16 hR (by decide) (by decide) fl_R_56 rfl d_R_rest_15 ?_
  refine g_iload_n d_R_rest_18 rfl ?_
  refine g_iload_n d_R_rest_19 rfl ?_
  refine r_iast 16 f hR (by decide) rfl d_R_rest_20 rfl (by show f < 10; omega) (fun M hR => ?_)
  refine g_aload_n d_R_rest_21 rfl ?_
  refine r_arr 17 hR (by decide) (by decide) fl_R_59 rfl d_R_rest_22 ?_
  refine g_iload_n d_R_rest_25 rfl ?_
  refine g_iload d_R_rest_26 rfl ?_
  refine r_iast 17 f hR (by decide) rfl d_R_rest_28 rfl (by show f < 10; omega) (fun M hR => ?_)
  refine g_aload_n d_R_rest_29 rfl ?_
  refine r_arr 18 hR (by decide) (by decide) fl_R_62 rfl d_R_rest_30 ?_
  refine g_iload_n d_R_rest_33 rfl ?_
  refine g_aload_n d_R_rest_34 rfl ?_
  refine g_dup d_R_rest_35 ?_
  refine r_geti 50 hR (by decide) rfl fl_R_183 rfl d_R_rest_36 ?_
  refine g_dup_x1 d_R_rest_39 rfl (cat_rf _) ?_
  refine g_iconst (v := 1) d_R_rest_40 (by decide) ?_
  refine g_iadd d_R_rest_41 ?_
  refine r_puti 50 hR (by decide) rfl fl_R_183 (Or.inr (fun r h => by cases h; rfl)) rfl d_R_rest_42 (fun M hR => ?_)
  refine r_iast 18 f hR (by decide) rfl d_R_rest_45 rfl (by show f < 10; omega) (fun M hR => ?_)
  exact g_return d_R_rest_46 rfl ⟨rfl, hR⟩

def p_R_wake (P : Pst) (f : Nat) : Pst := up (up (up (up P 5 f 0) 15 f 0) 43 0 ((P 43 0) + 1)) 36 (tn (P 43 0)) (nI f)
set_option maxHeartbeats 4000000 in
set_option maxRecDepth 100000 in
theorem c_R_wake (P : Pst) (f : Nat) (hf : f < 10) (hq : P 43 0 = nI (tn (P 43 0))) (hq9 : tn (P 43 0) < 10) : RC m_R_wake 0 [.int (nI f)] P none (p_R_wake P f) := by
  intro γ M hR
  refine Run.ofG (by decide) (by simp [cat_int, cat_rf]) (Nat.le_of_ble_eq_true rfl) ?_
  refine g_aload_n d_R_wake_0 rfl ?_
  refine r_arr 5 hR (by decide) (by decide) fl_R_22 rfl d_R_wake_1 ?_
  refine g_iload_n d_R_wake_4 rfl ?_
  refine g_iconst (v := 0) d_R_wake_5 (by decide) ?_
  refine r_iast 5 f hR (by decide) rfl d_R_wake_6 rfl (by show f < 10; omega) (fun M hR => ?_)
  refine g_aload_n d_R_wake_7 rfl ?_
  refine r_arr 15 hR (by decide) (by decide) fl_R_53 rfl d_R_wake_8 ?_
  refine g_iload_n d_R_wake_11 rfl ?_
  refine g_iconst (v := 0) d_R_wake_12 (by decide) ?_
  refine r_iast 15 f hR (by decide) rfl d_R_wake_13 rfl (by show f < 10; omega) (fun M hR => ?_)
  refine g_aload_n d_R_wake_14 rfl ?_
  refine r_arr 36 hR (by decide) (by decide) fl_R_116 rfl d_R_wake_15 ?_
  refine g_aload_n d_R_wake_18 rfl ?_
  refine g_dup d_R_wake_19 ?_
  refine r_geti 43 hR (by decide) rfl fl_R_156 rfl d_R_wake_20 ?_
  refine g_dup_x1 d_R_wake_23 rfl (cat_rf _) ?_
  refine g_iconst (v := 1) d_R_wake_24 (by decide) ?_
  refine g_iadd d_R_wake_25 ?_
  refine r_puti 43 hR (by decide) rfl fl_R_156 (Or.inr (fun r h => by cases h; rfl)) rfl d_R_wake_26 (fun M hR => ?_)
  refine g_iload_n d_R_wake_29 rfl ?_
  refine r_iast 36 (tn (P 43 0)) hR (by decide) rfl d_R_wake_30 hq (by show tn (P 43 0) < 10; omega) (fun M hR => ?_)
  exact g_return d_R_wake_31 rfl ⟨rfl, hR⟩

theorem in_01 (v lo hi : Int32) : a_R_in v lo hi = 0 ∨ a_R_in v lo hi = 1 := by
  unfold a_R_in
  split
  · exact Or.inl rfl
  · split
    · exact Or.inl rfl
    · exact Or.inr rfl
def a_R_isEffect (P : Pst) (e : Int32) : Int32 := a_R_in e 0 ((P 4 0) - 1)
def p_R_isEffect (P : Pst) (e : Int32) : Pst := P
set_option maxHeartbeats 4000000 in
set_option maxRecDepth 100000 in
theorem c_R_isEffect (P : Pst) (e : Int32) : RC m_R_isEffect 1 [.int e] P (some (.int (a_R_isEffect P e))) (p_R_isEffect P e) := by
  intro γ M hR
  refine Run.ofG (by decide) (by simp [cat_int, cat_rf]) (Nat.le_of_ble_eq_true rfl) ?_
  refine g_iload_n d_R_isEffect_0 rfl ?_
  refine g_iconst (v := 0) d_R_isEffect_1 (by decide) ?_
  refine g_aload_n d_R_isEffect_2 rfl ?_
  refine r_geti 4 hR (by decide) rfl fl_R_138 rfl d_R_isEffect_3 ?_
  refine g_iconst (v := 1) d_R_isEffect_6 (by decide) ?_
  refine g_isub d_R_isEffect_7 ?_
  refine g_callS [.int (e), .int (0), .int ((P 4 0) - 1)] cw_R_141 cs_R_in d_R_isEffect_8 rfl rfl ⟨by simp, by simp⟩ (by decide) (Nat.le_refl _) (Nat.le_refl _) (fun _ _ h => h) (c_R_in e 0 ((P 4 0) - 1) _ _) (fun r_ M_ h_ _ => ?_)
  obtain ⟨rfl, rfl⟩ := h_
  exact g_zreturn d_R_isEffect_11 rfl (in_01 _ _ _) ⟨rfl, hR⟩

def a_R_needs (k : Int32) : Int32 := if k = 5 then 3 else if k = 7 then 3 else if k = 4 then 2 else if k = 6 then 2 else if k = 15 then 2 else if k = 25 then 2 else if a_R_in k 8 12 = 0 then 0 else 1
set_option maxHeartbeats 4000000 in
set_option maxRecDepth 100000 in
theorem c_R_needs (k : Int32) (own : Nat → Nat → Bool) (M : Mm) : Run m_R_needs own 1 0 0 [.int k] M (fun r M' => r = (some (.int (a_R_needs k))) ∧ M' = M) := by
  refine Run.ofG (by decide) (by simp [cat_int]) (Nat.le_of_ble_eq_true rfl) ?_
  refine g_iload_n d_R_needs_0 rfl ?_
  refine g_iconst (v := 5) d_R_needs_1 (by decide) ?_
  refine g_icmp_eq 11 d_R_needs_2 (by decide) (fun c_2 => ?_) (fun c_2 => ?_)
  · skip
    refine g_iconst (v := 3) d_R_needs_11 (by decide) ?_
    refine g_goto 58 d_R_needs_12 (by decide) ?_
    exact g_ireturn d_R_needs_58 rfl ⟨by unfold a_R_needs; rw [if_pos (show k = 5 from c_2)]; try rfl, rfl⟩
  · skip
    refine g_iload_n d_R_needs_5 rfl ?_
    refine g_bipush (v := 7) d_R_needs_6 (by decide) ?_
    refine g_icmp_ne 15 d_R_needs_8 (by decide) (fun c_8 => ?_) (fun c_8 => ?_)
    · skip
      refine g_iload_n d_R_needs_15 rfl ?_
      refine g_iconst (v := 4) d_R_needs_16 (by decide) ?_
      refine g_icmp_eq 38 d_R_needs_17 (by decide) (fun c_17 => ?_) (fun c_17 => ?_)
      · skip
        refine g_iconst (v := 2) d_R_needs_38 (by decide) ?_
        refine g_goto 58 d_R_needs_39 (by decide) ?_
        exact g_ireturn d_R_needs_58 rfl ⟨by unfold a_R_needs; rw [if_neg (show ¬ (k = 5) from c_2), if_neg (show ¬ (k = 7) from c_8), if_pos (show k = 4 from c_17)]; try rfl, rfl⟩
      · skip
        refine g_iload_n d_R_needs_20 rfl ?_
        refine g_bipush (v := 6) d_R_needs_21 (by decide) ?_
        refine g_icmp_eq 38 d_R_needs_23 (by decide) (fun c_23 => ?_) (fun c_23 => ?_)
        · skip
          refine g_iconst (v := 2) d_R_needs_38 (by decide) ?_
          refine g_goto 58 d_R_needs_39 (by decide) ?_
          exact g_ireturn d_R_needs_58 rfl ⟨by unfold a_R_needs; rw [if_neg (show ¬ (k = 5) from c_2), if_neg (show ¬ (k = 7) from c_8), if_neg (show ¬ (k = 4) from c_17), if_pos (show k = 6 from c_23)]; try rfl, rfl⟩
        · skip
          refine g_iload_n d_R_needs_26 rfl ?_
          refine g_bipush (v := 15) d_R_needs_27 (by decide) ?_
          refine g_icmp_eq 38 d_R_needs_29 (by decide) (fun c_29 => ?_) (fun c_29 => ?_)
          · skip
            refine g_iconst (v := 2) d_R_needs_38 (by decide) ?_
            refine g_goto 58 d_R_needs_39 (by decide) ?_
            exact g_ireturn d_R_needs_58 rfl ⟨by unfold a_R_needs; rw [if_neg (show ¬ (k = 5) from c_2), if_neg (show ¬ (k = 7) from c_8), if_neg (show ¬ (k = 4) from c_17), if_neg (show ¬ (k = 6) from c_23), if_pos (show k = 15 from c_29)]; try rfl, rfl⟩
          · skip
            refine g_iload_n d_R_needs_32 rfl ?_
            refine g_bipush (v := 25) d_R_needs_33 (by decide) ?_
            refine g_icmp_ne 42 d_R_needs_35 (by decide) (fun c_35 => ?_) (fun c_35 => ?_)
            · skip
              refine g_iload_n d_R_needs_42 rfl ?_
              refine g_bipush (v := 8) d_R_needs_43 (by decide) ?_
              refine g_bipush (v := 12) d_R_needs_45 (by decide) ?_
              refine g_callS [.int (k), .int (8), .int (12)] cw_R_141 cs_R_in d_R_needs_47 rfl rfl ⟨by simp, by simp⟩ (by decide) (Nat.le_refl _) (Nat.le_refl _) (fun _ _ h => h) (c_R_in k 8 12 _ _) (fun r_ M_ h_ _ => ?_)
              obtain ⟨rfl, rfl⟩ := h_
              refine g_if_eq 57 d_R_needs_50 (by decide) (fun c_50 => ?_) (fun c_50 => ?_)
              · skip
                refine g_iconst (v := 0) d_R_needs_57 (by decide) ?_
                exact g_ireturn d_R_needs_58 rfl ⟨by unfold a_R_needs; rw [if_neg (show ¬ (k = 5) from c_2), if_neg (show ¬ (k = 7) from c_8), if_neg (show ¬ (k = 4) from c_17), if_neg (show ¬ (k = 6) from c_23), if_neg (show ¬ (k = 15) from c_29), if_neg (show ¬ (k = 25) from c_35), if_pos (show a_R_in k 8 12 = 0 from c_50)]; try rfl, rfl⟩
              · skip
                refine g_iconst (v := 1) d_R_needs_53 (by decide) ?_
                refine g_goto 58 d_R_needs_54 (by decide) ?_
                exact g_ireturn d_R_needs_58 rfl ⟨by unfold a_R_needs; rw [if_neg (show ¬ (k = 5) from c_2), if_neg (show ¬ (k = 7) from c_8), if_neg (show ¬ (k = 4) from c_17), if_neg (show ¬ (k = 6) from c_23), if_neg (show ¬ (k = 15) from c_29), if_neg (show ¬ (k = 25) from c_35), if_neg (show ¬ (a_R_in k 8 12 = 0) from c_50)]; try rfl, rfl⟩
            · skip
              refine g_iconst (v := 2) d_R_needs_38 (by decide) ?_
              refine g_goto 58 d_R_needs_39 (by decide) ?_
              exact g_ireturn d_R_needs_58 rfl ⟨by unfold a_R_needs; rw [if_neg (show ¬ (k = 5) from c_2), if_neg (show ¬ (k = 7) from c_8), if_neg (show ¬ (k = 4) from c_17), if_neg (show ¬ (k = 6) from c_23), if_neg (show ¬ (k = 15) from c_29), if_pos (show k = 25 from c_35)]; try rfl, rfl⟩
    · skip
      refine g_iconst (v := 3) d_R_needs_11 (by decide) ?_
      refine g_goto 58 d_R_needs_12 (by decide) ?_
      exact g_ireturn d_R_needs_58 rfl ⟨by unfold a_R_needs; rw [if_neg (show ¬ (k = 5) from c_2), if_pos (show k = 7 from c_8)]; try rfl, rfl⟩

def p_R_fail (P : Pst) (f : Nat) (t : Int32) (c : Int32) : Pst := p_R_single (up (up P 11 f (-1)) 14 f 1) f t c
set_option maxHeartbeats 4000000 in
set_option maxRecDepth 100000 in
theorem c_R_fail (P : Pst) (f : Nat) (t : Int32) (c : Int32) (hf : f < 10) : RC m_R_fail 1 [.int (nI f), .int t, .int c] P none (p_R_fail P f t c) := by
  intro γ M hR
  refine Run.ofG (by decide) (by simp [cat_int, cat_rf]) (Nat.le_of_ble_eq_true rfl) ?_
  refine g_aload_n d_R_fail_0 rfl ?_
  refine r_arr 11 hR (by decide) (by decide) fl_R_41 rfl d_R_fail_1 ?_
  refine g_iload_n d_R_fail_4 rfl ?_
  refine g_iconst (v := -1) d_R_fail_5 (by decide) ?_
  refine r_iast 11 f hR (by decide) rfl d_R_fail_6 rfl (by show f < 10; omega) (fun M hR => ?_)
  refine g_aload_n d_R_fail_7 rfl ?_
  refine r_arr 14 hR (by decide) (by decide) fl_R_50 rfl d_R_fail_8 ?_
  refine g_iload_n d_R_fail_11 rfl ?_
  refine g_iconst (v := 1) d_R_fail_12 (by decide) ?_
  refine r_zast 14 f hR (by decide) rfl (by first | exact Or.inl rfl | exact Or.inr rfl | assumption | (simp_all; done)) d_R_fail_13 rfl (by show f < 10; omega) (fun M hR => ?_)
  refine g_aload_n d_R_fail_14 rfl ?_
  refine g_iload_n d_R_fail_15 rfl ?_
  refine g_iload_n d_R_fail_16 rfl ?_
  refine g_iload_n d_R_fail_17 rfl ?_
  refine r_call [.int (nI f), .int (t), .int (c)] hR cw_R_179 cv_R_single d_R_fail_18 rfl rfl ⟨by simp, by simp⟩ (by decide) (c_R_single _ f _ _ (by omega)) (fun M hR => ?_)
  exact g_return d_R_fail_21 rfl ⟨rfl, hR⟩

def p_R_strike (P : Pst) (f : Nat) (who : Int32) : Pst := if P 5 f = 2 then P else if P 6 f ≤ 0 then if P 5 f = 1 then if P 10 f = 0 then p_R_wake (up (up P 6 f 1) 7 f who) f else up (up P 6 f 1) 7 f who else up (up P 6 f 1) 7 f who else P
set_option maxHeartbeats 4000000 in
set_option maxRecDepth 100000 in
theorem c_R_strike (P : Pst) (f : Nat) (who : Int32) (hf : f < 10) (hq : P 43 0 = nI (tn (P 43 0))) (hq9 : P 5 f = 1 → tn (P 43 0) < 10) : RC m_R_strike 1 [.int (nI f), .int who] P none (p_R_strike P f who) := by
  intro γ M hR
  refine Run.ofG (by decide) (by simp [cat_int, cat_rf]) (Nat.le_of_ble_eq_true rfl) ?_
  refine g_aload_n d_R_strike_0 rfl ?_
  refine r_arr 5 hR (by decide) (by decide) fl_R_22 rfl d_R_strike_1 ?_
  refine g_iload_n d_R_strike_4 rfl ?_
  refine r_iald 5 f hR (by decide) rfl d_R_strike_5 rfl (by show f < 10; omega) ?_
  refine g_iconst (v := 2) d_R_strike_6 (by decide) ?_
  refine g_icmp_eq 19 d_R_strike_7 (by decide) (fun c_7 => ?_) (fun c_7 => ?_)
  · skip
    exact g_return d_R_strike_19 rfl ⟨rfl, by unfold p_R_strike; rw [if_pos (show P 5 f = 2 from c_7)]; exact hR⟩
  · skip
    refine g_aload_n d_R_strike_10 rfl ?_
    refine r_arr 6 hR (by decide) (by decide) fl_R_25 rfl d_R_strike_11 ?_
    refine g_iload_n d_R_strike_14 rfl ?_
    refine r_iald 6 f hR (by decide) rfl d_R_strike_15 rfl (by show f < 10; omega) ?_
    refine g_if_le 20 d_R_strike_16 (by decide) (fun c_16 => ?_) (fun c_16 => ?_)
    · skip
      refine g_aload_n d_R_strike_20 rfl ?_
      refine r_arr 6 hR (by decide) (by decide) fl_R_25 rfl d_R_strike_21 ?_
      refine g_iload_n d_R_strike_24 rfl ?_
      refine g_iconst (v := 1) d_R_strike_25 (by decide) ?_
      refine r_iast 6 f hR (by decide) rfl d_R_strike_26 rfl (by show f < 10; omega) (fun M hR => ?_)
      refine g_aload_n d_R_strike_27 rfl ?_
      refine r_arr 7 hR (by decide) (by decide) fl_R_28 rfl d_R_strike_28 ?_
      refine g_iload_n d_R_strike_31 rfl ?_
      refine g_iload_n d_R_strike_32 rfl ?_
      refine r_iast 7 f hR (by decide) rfl d_R_strike_33 rfl (by show f < 10; omega) (fun M hR => ?_)
      refine g_aload_n d_R_strike_34 rfl ?_
      refine r_arr 5 hR (by decide) (by decide) fl_R_22 rfl d_R_strike_35 ?_
      refine g_iload_n d_R_strike_38 rfl ?_
      refine r_iald 5 f hR (by decide) rfl d_R_strike_39 rfl (by show f < 10; omega) ?_
      refine g_iconst (v := 1) d_R_strike_40 (by decide) ?_
      refine g_icmp_ne 58 d_R_strike_41 (by decide) (fun c_41 => ?_) (fun c_41 => ?_)
      · skip
        exact g_return d_R_strike_58 rfl ⟨rfl, by unfold p_R_strike; rw [if_neg (show ¬ (P 5 f = 2) from c_7), if_pos (show P 6 f ≤ 0 from c_16), if_neg (show ¬ (P 5 f = 1) from c_41)]; exact hR⟩
      · skip
        refine g_aload_n d_R_strike_44 rfl ?_
        refine r_arr 10 hR (by decide) (by decide) fl_R_37 rfl d_R_strike_45 ?_
        refine g_iload_n d_R_strike_48 rfl ?_
        refine r_zald 10 f hR (by decide) rfl d_R_strike_49 rfl (by show f < 10; omega) ?_
        refine g_if_ne 58 d_R_strike_50 (by decide) (fun c_50 => ?_) (fun c_50 => ?_)
        · skip
          exact g_return d_R_strike_58 rfl ⟨rfl, by unfold p_R_strike; rw [if_neg (show ¬ (P 5 f = 2) from c_7), if_pos (show P 6 f ≤ 0 from c_16), if_pos (show P 5 f = 1 from c_41), if_neg (show ¬ (P 10 f = 0) from c_50)]; exact hR⟩
        · skip
          refine g_aload_n d_R_strike_53 rfl ?_
          refine g_iload_n d_R_strike_54 rfl ?_
          refine r_call [.int (nI f)] hR cw_R_186 cv_R_wake d_R_strike_55 rfl rfl ⟨by simp, by simp⟩ (by decide) (c_R_wake _ f (by omega) hq (hq9 c_41)) (fun M hR => ?_)
          exact g_return d_R_strike_58 rfl ⟨rfl, by unfold p_R_strike; rw [if_neg (show ¬ (P 5 f = 2) from c_7), if_pos (show P 6 f ≤ 0 from c_16), if_pos (show P 5 f = 1 from c_41), if_pos (show P 10 f = 0 from c_50)]; exact hR⟩
    · skip
      exact g_return d_R_strike_19 rfl ⟨rfl, by unfold p_R_strike; rw [if_neg (show ¬ (P 5 f = 2) from c_7), if_neg (show ¬ (P 6 f ≤ 0) from c_16)]; exact hR⟩

def a_R_effect (P : Pst) (kind : Int32) (a : Int32) (b : Int32) (c : Int32) : Int32 := if a_R_in kind 0 25 = 0 then -1 else if a_R_needs kind ≤ 0 then if a_R_needs kind ≤ 1 then if a_R_needs kind ≤ 2 then if a_R_in kind 19 24 = 0 then if P 4 0 = 40 then -2 else P 4 0 else if a_R_in a 0 3 = 0 then -1 else if P 4 0 = 40 then -2 else P 4 0 else if a_R_isEffect P c = 0 then -1 else if a_R_in kind 19 24 = 0 then if P 4 0 = 40 then -2 else P 4 0 else if a_R_in a 0 3 = 0 then -1 else if P 4 0 = 40 then -2 else P 4 0 else if a_R_isEffect P b = 0 then -1 else if a_R_needs kind ≤ 2 then if a_R_in kind 19 24 = 0 then if P 4 0 = 40 then -2 else P 4 0 else if a_R_in a 0 3 = 0 then -1 else if P 4 0 = 40 then -2 else P 4 0 else if a_R_isEffect P c = 0 then -1 else if a_R_in kind 19 24 = 0 then if P 4 0 = 40 then -2 else P 4 0 else if a_R_in a 0 3 = 0 then -1 else if P 4 0 = 40 then -2 else P 4 0 else if a_R_isEffect P a = 0 then -1 else if a_R_needs kind ≤ 1 then if a_R_needs kind ≤ 2 then if a_R_in kind 19 24 = 0 then if P 4 0 = 40 then -2 else P 4 0 else if a_R_in a 0 3 = 0 then -1 else if P 4 0 = 40 then -2 else P 4 0 else if a_R_isEffect P c = 0 then -1 else if a_R_in kind 19 24 = 0 then if P 4 0 = 40 then -2 else P 4 0 else if a_R_in a 0 3 = 0 then -1 else if P 4 0 = 40 then -2 else P 4 0 else if a_R_isEffect P b = 0 then -1 else if a_R_needs kind ≤ 2 then if a_R_in kind 19 24 = 0 then if P 4 0 = 40 then -2 else P 4 0 else if a_R_in a 0 3 = 0 then -1 else if P 4 0 = 40 then -2 else P 4 0 else if a_R_isEffect P c = 0 then -1 else if a_R_in kind 19 24 = 0 then if P 4 0 = 40 then -2 else P 4 0 else if a_R_in a 0 3 = 0 then -1 else if P 4 0 = 40 then -2 else P 4 0
def p_R_effect (P : Pst) (kind : Int32) (a : Int32) (b : Int32) (c : Int32) : Pst := if a_R_in kind 0 25 = 0 then P else if a_R_needs kind ≤ 0 then if a_R_needs kind ≤ 1 then if a_R_needs kind ≤ 2 then if a_R_in kind 19 24 = 0 then if P 4 0 = 40 then P else up (up (up (up (up P 0 (tn (P 4 0)) kind) 1 (tn (P 4 0)) a) 2 (tn (P 4 0)) b) 3 (tn (P 4 0)) c) 4 0 ((P 4 0) + 1) else if a_R_in a 0 3 = 0 then P else if P 4 0 = 40 then P else up (up (up (up (up P 0 (tn (P 4 0)) kind) 1 (tn (P 4 0)) a) 2 (tn (P 4 0)) b) 3 (tn (P 4 0)) c) 4 0 ((P 4 0) + 1) else if a_R_isEffect P c = 0 then P else if a_R_in kind 19 24 = 0 then if P 4 0 = 40 then P else up (up (up (up (up P 0 (tn (P 4 0)) kind) 1 (tn (P 4 0)) a) 2 (tn (P 4 0)) b) 3 (tn (P 4 0)) c) 4 0 ((P 4 0) + 1) else if a_R_in a 0 3 = 0 then P else if P 4 0 = 40 then P else up (up (up (up (up P 0 (tn (P 4 0)) kind) 1 (tn (P 4 0)) a) 2 (tn (P 4 0)) b) 3 (tn (P 4 0)) c) 4 0 ((P 4 0) + 1) else if a_R_isEffect P b = 0 then P else if a_R_needs kind ≤ 2 then if a_R_in kind 19 24 = 0 then if P 4 0 = 40 then P else up (up (up (up (up P 0 (tn (P 4 0)) kind) 1 (tn (P 4 0)) a) 2 (tn (P 4 0)) b) 3 (tn (P 4 0)) c) 4 0 ((P 4 0) + 1) else if a_R_in a 0 3 = 0 then P else if P 4 0 = 40 then P else up (up (up (up (up P 0 (tn (P 4 0)) kind) 1 (tn (P 4 0)) a) 2 (tn (P 4 0)) b) 3 (tn (P 4 0)) c) 4 0 ((P 4 0) + 1) else if a_R_isEffect P c = 0 then P else if a_R_in kind 19 24 = 0 then if P 4 0 = 40 then P else up (up (up (up (up P 0 (tn (P 4 0)) kind) 1 (tn (P 4 0)) a) 2 (tn (P 4 0)) b) 3 (tn (P 4 0)) c) 4 0 ((P 4 0) + 1) else if a_R_in a 0 3 = 0 then P else if P 4 0 = 40 then P else up (up (up (up (up P 0 (tn (P 4 0)) kind) 1 (tn (P 4 0)) a) 2 (tn (P 4 0)) b) 3 (tn (P 4 0)) c) 4 0 ((P 4 0) + 1) else if a_R_isEffect P a = 0 then P else if a_R_needs kind ≤ 1 then if a_R_needs kind ≤ 2 then if a_R_in kind 19 24 = 0 then if P 4 0 = 40 then P else up (up (up (up (up P 0 (tn (P 4 0)) kind) 1 (tn (P 4 0)) a) 2 (tn (P 4 0)) b) 3 (tn (P 4 0)) c) 4 0 ((P 4 0) + 1) else if a_R_in a 0 3 = 0 then P else if P 4 0 = 40 then P else up (up (up (up (up P 0 (tn (P 4 0)) kind) 1 (tn (P 4 0)) a) 2 (tn (P 4 0)) b) 3 (tn (P 4 0)) c) 4 0 ((P 4 0) + 1) else if a_R_isEffect P c = 0 then P else if a_R_in kind 19 24 = 0 then if P 4 0 = 40 then P else up (up (up (up (up P 0 (tn (P 4 0)) kind) 1 (tn (P 4 0)) a) 2 (tn (P 4 0)) b) 3 (tn (P 4 0)) c) 4 0 ((P 4 0) + 1) else if a_R_in a 0 3 = 0 then P else if P 4 0 = 40 then P else up (up (up (up (up P 0 (tn (P 4 0)) kind) 1 (tn (P 4 0)) a) 2 (tn (P 4 0)) b) 3 (tn (P 4 0)) c) 4 0 ((P 4 0) + 1) else if a_R_isEffect P b = 0 then P else if a_R_needs kind ≤ 2 then if a_R_in kind 19 24 = 0 then if P 4 0 = 40 then P else up (up (up (up (up P 0 (tn (P 4 0)) kind) 1 (tn (P 4 0)) a) 2 (tn (P 4 0)) b) 3 (tn (P 4 0)) c) 4 0 ((P 4 0) + 1) else if a_R_in a 0 3 = 0 then P else if P 4 0 = 40 then P else up (up (up (up (up P 0 (tn (P 4 0)) kind) 1 (tn (P 4 0)) a) 2 (tn (P 4 0)) b) 3 (tn (P 4 0)) c) 4 0 ((P 4 0) + 1) else if a_R_isEffect P c = 0 then P else if a_R_in kind 19 24 = 0 then if P 4 0 = 40 then P else up (up (up (up (up P 0 (tn (P 4 0)) kind) 1 (tn (P 4 0)) a) 2 (tn (P 4 0)) b) 3 (tn (P 4 0)) c) 4 0 ((P 4 0) + 1) else if a_R_in a 0 3 = 0 then P else if P 4 0 = 40 then P else up (up (up (up (up P 0 (tn (P 4 0)) kind) 1 (tn (P 4 0)) a) 2 (tn (P 4 0)) b) 3 (tn (P 4 0)) c) 4 0 ((P 4 0) + 1)
set_option maxHeartbeats 4000000 in
set_option maxRecDepth 100000 in
theorem c_R_effect (P : Pst) (kind : Int32) (a : Int32) (b : Int32) (c : Int32) (he : P 4 0 = nI (tn (P 4 0))) (he9 : ¬ P 4 0 = 40 → tn (P 4 0) < 40) : RC m_R_effect 2 [.int kind, .int a, .int b, .int c] P (some (.int (a_R_effect P kind a b c))) (p_R_effect P kind a b c) := by
  intro γ M hR
  refine Run.ofG (by decide) (by simp [cat_int, cat_rf]) (Nat.le_of_ble_eq_true rfl) ?_
  refine g_iload_n d_R_effect_0 rfl ?_
  refine g_callS [.int (kind)] cw_R_145 cs_R_needs d_R_effect_1 rfl rfl ⟨by simp, by simp⟩ (by decide) (Nat.le_refl _) (Nat.le_refl _) (fun _ _ h => h) (c_R_needs kind _ _) (fun r_ M_ h_ _ => ?_)
  obtain ⟨rfl, rfl⟩ := h_
  refine g_istore d_R_effect_4 (by decide) ?_
  refine g_iload_n d_R_effect_6 rfl ?_
  refine g_iconst (v := 0) d_R_effect_7 (by decide) ?_
  refine g_bipush (v := 25) d_R_effect_8 (by decide) ?_
  refine g_callS [.int (kind), .int (0), .int (25)] cw_R_141 cs_R_in d_R_effect_10 rfl rfl ⟨by simp, by simp⟩ (by decide) (Nat.le_refl _) (Nat.le_refl _) (fun _ _ h => h) (c_R_in kind 0 25 _ _) (fun r_ M_ h_ _ => ?_)
  obtain ⟨rfl, rfl⟩ := h_
  refine g_if_eq 78 d_R_effect_13 (by decide) (fun c_13 => ?_) (fun c_13 => ?_)
  · skip
    refine g_iconst (v := -1) d_R_effect_78 (by decide) ?_
    exact g_ireturn d_R_effect_79 rfl ⟨by unfold a_R_effect; rw [if_pos (show a_R_in kind 0 25 = 0 from c_13)]; try rfl, by unfold p_R_effect; rw [if_pos (show a_R_in kind 0 25 = 0 from c_13)]; exact hR⟩
  · skip
    refine g_iload d_R_effect_16 rfl ?_
    refine g_if_le 29 d_R_effect_18 (by decide) (fun c_18 => ?_) (fun c_18 => ?_)
    · skip
      refine g_iload d_R_effect_29 rfl ?_
      refine g_iconst (v := 1) d_R_effect_31 (by decide) ?_
      refine g_icmp_le 43 d_R_effect_32 (by decide) (fun c_32 => ?_) (fun c_32 => ?_)
      · skip
        refine g_iload d_R_effect_43 rfl ?_
        refine g_iconst (v := 2) d_R_effect_45 (by decide) ?_
        refine g_icmp_le 58 d_R_effect_46 (by decide) (fun c_46 => ?_) (fun c_46 => ?_)
        · skip
          refine g_iload_n d_R_effect_58 rfl ?_
          refine g_bipush (v := 19) d_R_effect_59 (by decide) ?_
          refine g_bipush (v := 24) d_R_effect_61 (by decide) ?_
          refine g_callS [.int (kind), .int (19), .int (24)] cw_R_141 cs_R_in d_R_effect_63 rfl rfl ⟨by simp, by simp⟩ (by decide) (Nat.le_refl _) (Nat.le_refl _) (fun _ _ h => h) (c_R_in kind 19 24 _ _) (fun r_ M_ h_ _ => ?_)
          obtain ⟨rfl, rfl⟩ := h_
          refine g_if_eq 80 d_R_effect_66 (by decide) (fun c_66 => ?_) (fun c_66 => ?_)
          · skip
            refine g_aload_n d_R_effect_80 rfl ?_
            refine r_geti 4 hR (by decide) rfl fl_R_138 rfl d_R_effect_81 ?_
            refine g_bipush (v := 40) d_R_effect_84 (by decide) ?_
            refine g_icmp_ne 92 d_R_effect_86 (by decide) (fun c_86 => ?_) (fun c_86 => ?_)
            · skip
              refine g_aload_n d_R_effect_92 rfl ?_
              refine r_arr 0 hR (by decide) (by decide) fl_R_7 rfl d_R_effect_93 ?_
              refine g_aload_n d_R_effect_96 rfl ?_
              refine r_geti 4 hR (by decide) rfl fl_R_138 rfl d_R_effect_97 ?_
              refine g_iload_n d_R_effect_100 rfl ?_
              refine r_iast 0 (tn (P 4 0)) hR (by decide) rfl d_R_effect_101 he (by show tn (P 4 0) < 40; first | omega | (have h9_ := he9 (by assumption); omega)) (fun M hR => ?_)
              refine g_aload_n d_R_effect_102 rfl ?_
              refine r_arr 1 hR (by decide) (by decide) fl_R_13 rfl d_R_effect_103 ?_
              refine g_aload_n d_R_effect_106 rfl ?_
              refine r_geti 4 hR (by decide) rfl fl_R_138 rfl d_R_effect_107 ?_
              refine g_iload_n d_R_effect_110 rfl ?_
              refine r_iast 1 (tn (P 4 0)) hR (by decide) rfl d_R_effect_111 he (by show tn (P 4 0) < 40; first | omega | (have h9_ := he9 (by assumption); omega)) (fun M hR => ?_)
              refine g_aload_n d_R_effect_112 rfl ?_
              refine r_arr 2 hR (by decide) (by decide) fl_R_16 rfl d_R_effect_113 ?_
              refine g_aload_n d_R_effect_116 rfl ?_
              refine r_geti 4 hR (by decide) rfl fl_R_138 rfl d_R_effect_117 ?_
              refine g_iload_n d_R_effect_120 rfl ?_
              refine r_iast 2 (tn (P 4 0)) hR (by decide) rfl d_R_effect_121 he (by show tn (P 4 0) < 40; first | omega | (have h9_ := he9 (by assumption); omega)) (fun M hR => ?_)
              refine g_aload_n d_R_effect_122 rfl ?_
              refine r_arr 3 hR (by decide) (by decide) fl_R_19 rfl d_R_effect_123 ?_
              refine g_aload_n d_R_effect_126 rfl ?_
              refine r_geti 4 hR (by decide) rfl fl_R_138 rfl d_R_effect_127 ?_
              refine g_iload d_R_effect_130 rfl ?_
              refine r_iast 3 (tn (P 4 0)) hR (by decide) rfl d_R_effect_132 he (by show tn (P 4 0) < 40; first | omega | (have h9_ := he9 (by assumption); omega)) (fun M hR => ?_)
              refine g_aload_n d_R_effect_133 rfl ?_
              refine g_dup d_R_effect_134 ?_
              refine r_geti 4 hR (by decide) rfl fl_R_138 rfl d_R_effect_135 ?_
              refine g_dup_x1 d_R_effect_138 rfl (cat_rf _) ?_
              refine g_iconst (v := 1) d_R_effect_139 (by decide) ?_
              refine g_iadd d_R_effect_140 ?_
              refine r_puti 4 hR (by decide) rfl fl_R_138 (Or.inr (fun r h => by cases h; rfl)) rfl d_R_effect_141 (fun M hR => ?_)
              exact g_ireturn d_R_effect_144 rfl ⟨by unfold a_R_effect; rw [if_neg (show ¬ (a_R_in kind 0 25 = 0) from c_13), if_pos (show a_R_needs kind ≤ 0 from c_18), if_pos (show a_R_needs kind ≤ 1 from c_32), if_pos (show a_R_needs kind ≤ 2 from c_46), if_pos (show a_R_in kind 19 24 = 0 from c_66), if_neg (show ¬ (P 4 0 = 40) from c_86)]; try rfl, by unfold p_R_effect; rw [if_neg (show ¬ (a_R_in kind 0 25 = 0) from c_13), if_pos (show a_R_needs kind ≤ 0 from c_18), if_pos (show a_R_needs kind ≤ 1 from c_32), if_pos (show a_R_needs kind ≤ 2 from c_46), if_pos (show a_R_in kind 19 24 = 0 from c_66), if_neg (show ¬ (P 4 0 = 40) from c_86)]; exact hR⟩
            · skip
              refine g_bipush (v := -2) d_R_effect_89 (by decide) ?_
              exact g_ireturn d_R_effect_91 rfl ⟨by unfold a_R_effect; rw [if_neg (show ¬ (a_R_in kind 0 25 = 0) from c_13), if_pos (show a_R_needs kind ≤ 0 from c_18), if_pos (show a_R_needs kind ≤ 1 from c_32), if_pos (show a_R_needs kind ≤ 2 from c_46), if_pos (show a_R_in kind 19 24 = 0 from c_66), if_pos (show P 4 0 = 40 from c_86)]; try rfl, by unfold p_R_effect; rw [if_neg (show ¬ (a_R_in kind 0 25 = 0) from c_13), if_pos (show a_R_needs kind ≤ 0 from c_18), if_pos (show a_R_needs kind ≤ 1 from c_32), if_pos (show a_R_needs kind ≤ 2 from c_46), if_pos (show a_R_in kind 19 24 = 0 from c_66), if_pos (show P 4 0 = 40 from c_86)]; exact hR⟩
          · skip
            refine g_iload_n d_R_effect_69 rfl ?_
            refine g_iconst (v := 0) d_R_effect_70 (by decide) ?_
            refine g_iconst (v := 3) d_R_effect_71 (by decide) ?_
            refine g_callS [.int (a), .int (0), .int (3)] cw_R_141 cs_R_in d_R_effect_72 rfl rfl ⟨by simp, by simp⟩ (by decide) (Nat.le_refl _) (Nat.le_refl _) (fun _ _ h => h) (c_R_in a 0 3 _ _) (fun r_ M_ h_ _ => ?_)
            obtain ⟨rfl, rfl⟩ := h_
            refine g_if_ne 80 d_R_effect_75 (by decide) (fun c_75 => ?_) (fun c_75 => ?_)
            · skip
              refine g_aload_n d_R_effect_80 rfl ?_
              refine r_geti 4 hR (by decide) rfl fl_R_138 rfl d_R_effect_81 ?_
              refine g_bipush (v := 40) d_R_effect_84 (by decide) ?_
              refine g_icmp_ne 92 d_R_effect_86 (by decide) (fun c_86 => ?_) (fun c_86 => ?_)
              · skip
                refine g_aload_n d_R_effect_92 rfl ?_
                refine r_arr 0 hR (by decide) (by decide) fl_R_7 rfl d_R_effect_93 ?_
                refine g_aload_n d_R_effect_96 rfl ?_
                refine r_geti 4 hR (by decide) rfl fl_R_138 rfl d_R_effect_97 ?_
                refine g_iload_n d_R_effect_100 rfl ?_
                refine r_iast 0 (tn (P 4 0)) hR (by decide) rfl d_R_effect_101 he (by show tn (P 4 0) < 40; first | omega | (have h9_ := he9 (by assumption); omega)) (fun M hR => ?_)
                refine g_aload_n d_R_effect_102 rfl ?_
                refine r_arr 1 hR (by decide) (by decide) fl_R_13 rfl d_R_effect_103 ?_
                refine g_aload_n d_R_effect_106 rfl ?_
                refine r_geti 4 hR (by decide) rfl fl_R_138 rfl d_R_effect_107 ?_
                refine g_iload_n d_R_effect_110 rfl ?_
                refine r_iast 1 (tn (P 4 0)) hR (by decide) rfl d_R_effect_111 he (by show tn (P 4 0) < 40; first | omega | (have h9_ := he9 (by assumption); omega)) (fun M hR => ?_)
                refine g_aload_n d_R_effect_112 rfl ?_
                refine r_arr 2 hR (by decide) (by decide) fl_R_16 rfl d_R_effect_113 ?_
                refine g_aload_n d_R_effect_116 rfl ?_
                refine r_geti 4 hR (by decide) rfl fl_R_138 rfl d_R_effect_117 ?_
                refine g_iload_n d_R_effect_120 rfl ?_
                refine r_iast 2 (tn (P 4 0)) hR (by decide) rfl d_R_effect_121 he (by show tn (P 4 0) < 40; first | omega | (have h9_ := he9 (by assumption); omega)) (fun M hR => ?_)
                refine g_aload_n d_R_effect_122 rfl ?_
                refine r_arr 3 hR (by decide) (by decide) fl_R_19 rfl d_R_effect_123 ?_
                refine g_aload_n d_R_effect_126 rfl ?_
                refine r_geti 4 hR (by decide) rfl fl_R_138 rfl d_R_effect_127 ?_
                refine g_iload d_R_effect_130 rfl ?_
                refine r_iast 3 (tn (P 4 0)) hR (by decide) rfl d_R_effect_132 he (by show tn (P 4 0) < 40; first | omega | (have h9_ := he9 (by assumption); omega)) (fun M hR => ?_)
                refine g_aload_n d_R_effect_133 rfl ?_
                refine g_dup d_R_effect_134 ?_
                refine r_geti 4 hR (by decide) rfl fl_R_138 rfl d_R_effect_135 ?_
                refine g_dup_x1 d_R_effect_138 rfl (cat_rf _) ?_
                refine g_iconst (v := 1) d_R_effect_139 (by decide) ?_
                refine g_iadd d_R_effect_140 ?_
                refine r_puti 4 hR (by decide) rfl fl_R_138 (Or.inr (fun r h => by cases h; rfl)) rfl d_R_effect_141 (fun M hR => ?_)
                exact g_ireturn d_R_effect_144 rfl ⟨by unfold a_R_effect; rw [if_neg (show ¬ (a_R_in kind 0 25 = 0) from c_13), if_pos (show a_R_needs kind ≤ 0 from c_18), if_pos (show a_R_needs kind ≤ 1 from c_32), if_pos (show a_R_needs kind ≤ 2 from c_46), if_neg (show ¬ (a_R_in kind 19 24 = 0) from c_66), if_neg (show ¬ (a_R_in a 0 3 = 0) from c_75), if_neg (show ¬ (P 4 0 = 40) from c_86)]; try rfl, by unfold p_R_effect; rw [if_neg (show ¬ (a_R_in kind 0 25 = 0) from c_13), if_pos (show a_R_needs kind ≤ 0 from c_18), if_pos (show a_R_needs kind ≤ 1 from c_32), if_pos (show a_R_needs kind ≤ 2 from c_46), if_neg (show ¬ (a_R_in kind 19 24 = 0) from c_66), if_neg (show ¬ (a_R_in a 0 3 = 0) from c_75), if_neg (show ¬ (P 4 0 = 40) from c_86)]; exact hR⟩
              · skip
                refine g_bipush (v := -2) d_R_effect_89 (by decide) ?_
                exact g_ireturn d_R_effect_91 rfl ⟨by unfold a_R_effect; rw [if_neg (show ¬ (a_R_in kind 0 25 = 0) from c_13), if_pos (show a_R_needs kind ≤ 0 from c_18), if_pos (show a_R_needs kind ≤ 1 from c_32), if_pos (show a_R_needs kind ≤ 2 from c_46), if_neg (show ¬ (a_R_in kind 19 24 = 0) from c_66), if_neg (show ¬ (a_R_in a 0 3 = 0) from c_75), if_pos (show P 4 0 = 40 from c_86)]; try rfl, by unfold p_R_effect; rw [if_neg (show ¬ (a_R_in kind 0 25 = 0) from c_13), if_pos (show a_R_needs kind ≤ 0 from c_18), if_pos (show a_R_needs kind ≤ 1 from c_32), if_pos (show a_R_needs kind ≤ 2 from c_46), if_neg (show ¬ (a_R_in kind 19 24 = 0) from c_66), if_neg (show ¬ (a_R_in a 0 3 = 0) from c_75), if_pos (show P 4 0 = 40 from c_86)]; exact hR⟩
            · skip
              refine g_iconst (v := -1) d_R_effect_78 (by decide) ?_
              exact g_ireturn d_R_effect_79 rfl ⟨by unfold a_R_effect; rw [if_neg (show ¬ (a_R_in kind 0 25 = 0) from c_13), if_pos (show a_R_needs kind ≤ 0 from c_18), if_pos (show a_R_needs kind ≤ 1 from c_32), if_pos (show a_R_needs kind ≤ 2 from c_46), if_neg (show ¬ (a_R_in kind 19 24 = 0) from c_66), if_pos (show a_R_in a 0 3 = 0 from c_75)]; try rfl, by unfold p_R_effect; rw [if_neg (show ¬ (a_R_in kind 0 25 = 0) from c_13), if_pos (show a_R_needs kind ≤ 0 from c_18), if_pos (show a_R_needs kind ≤ 1 from c_32), if_pos (show a_R_needs kind ≤ 2 from c_46), if_neg (show ¬ (a_R_in kind 19 24 = 0) from c_66), if_pos (show a_R_in a 0 3 = 0 from c_75)]; exact hR⟩
        · skip
          refine g_aload_n d_R_effect_49 rfl ?_
          refine g_iload d_R_effect_50 rfl ?_
          refine r_call [.int (c)] hR cw_R_149 cv_R_isEffect d_R_effect_52 rfl rfl ⟨by simp, by simp⟩ (by decide) (c_R_isEffect _ c) (fun M hR => ?_)
          refine g_if_eq 78 d_R_effect_55 (by decide) (fun c_55 => ?_) (fun c_55 => ?_)
          · skip
            refine g_iconst (v := -1) d_R_effect_78 (by decide) ?_
            exact g_ireturn d_R_effect_79 rfl ⟨by unfold a_R_effect; rw [if_neg (show ¬ (a_R_in kind 0 25 = 0) from c_13), if_pos (show a_R_needs kind ≤ 0 from c_18), if_pos (show a_R_needs kind ≤ 1 from c_32), if_neg (show ¬ (a_R_needs kind ≤ 2) from c_46), if_pos (show a_R_isEffect P c = 0 from c_55)]; try rfl, by unfold p_R_effect; rw [if_neg (show ¬ (a_R_in kind 0 25 = 0) from c_13), if_pos (show a_R_needs kind ≤ 0 from c_18), if_pos (show a_R_needs kind ≤ 1 from c_32), if_neg (show ¬ (a_R_needs kind ≤ 2) from c_46), if_pos (show a_R_isEffect P c = 0 from c_55)]; exact hR⟩
          · skip
            refine g_iload_n d_R_effect_58 rfl ?_
            refine g_bipush (v := 19) d_R_effect_59 (by decide) ?_
            refine g_bipush (v := 24) d_R_effect_61 (by decide) ?_
            refine g_callS [.int (kind), .int (19), .int (24)] cw_R_141 cs_R_in d_R_effect_63 rfl rfl ⟨by simp, by simp⟩ (by decide) (Nat.le_refl _) (Nat.le_refl _) (fun _ _ h => h) (c_R_in kind 19 24 _ _) (fun r_ M_ h_ _ => ?_)
            obtain ⟨rfl, rfl⟩ := h_
            refine g_if_eq 80 d_R_effect_66 (by decide) (fun c_66 => ?_) (fun c_66 => ?_)
            · skip
              refine g_aload_n d_R_effect_80 rfl ?_
              refine r_geti 4 hR (by decide) rfl fl_R_138 rfl d_R_effect_81 ?_
              refine g_bipush (v := 40) d_R_effect_84 (by decide) ?_
              refine g_icmp_ne 92 d_R_effect_86 (by decide) (fun c_86 => ?_) (fun c_86 => ?_)
              · skip
                refine g_aload_n d_R_effect_92 rfl ?_
                refine r_arr 0 hR (by decide) (by decide) fl_R_7 rfl d_R_effect_93 ?_
                refine g_aload_n d_R_effect_96 rfl ?_
                refine r_geti 4 hR (by decide) rfl fl_R_138 rfl d_R_effect_97 ?_
                refine g_iload_n d_R_effect_100 rfl ?_
                refine r_iast 0 (tn (P 4 0)) hR (by decide) rfl d_R_effect_101 he (by show tn (P 4 0) < 40; first | omega | (have h9_ := he9 (by assumption); omega)) (fun M hR => ?_)
                refine g_aload_n d_R_effect_102 rfl ?_
                refine r_arr 1 hR (by decide) (by decide) fl_R_13 rfl d_R_effect_103 ?_
                refine g_aload_n d_R_effect_106 rfl ?_
                refine r_geti 4 hR (by decide) rfl fl_R_138 rfl d_R_effect_107 ?_
                refine g_iload_n d_R_effect_110 rfl ?_
                refine r_iast 1 (tn (P 4 0)) hR (by decide) rfl d_R_effect_111 he (by show tn (P 4 0) < 40; first | omega | (have h9_ := he9 (by assumption); omega)) (fun M hR => ?_)
                refine g_aload_n d_R_effect_112 rfl ?_
                refine r_arr 2 hR (by decide) (by decide) fl_R_16 rfl d_R_effect_113 ?_
                refine g_aload_n d_R_effect_116 rfl ?_
                refine r_geti 4 hR (by decide) rfl fl_R_138 rfl d_R_effect_117 ?_
                refine g_iload_n d_R_effect_120 rfl ?_
                refine r_iast 2 (tn (P 4 0)) hR (by decide) rfl d_R_effect_121 he (by show tn (P 4 0) < 40; first | omega | (have h9_ := he9 (by assumption); omega)) (fun M hR => ?_)
                refine g_aload_n d_R_effect_122 rfl ?_
                refine r_arr 3 hR (by decide) (by decide) fl_R_19 rfl d_R_effect_123 ?_
                refine g_aload_n d_R_effect_126 rfl ?_
                refine r_geti 4 hR (by decide) rfl fl_R_138 rfl d_R_effect_127 ?_
                refine g_iload d_R_effect_130 rfl ?_
                refine r_iast 3 (tn (P 4 0)) hR (by decide) rfl d_R_effect_132 he (by show tn (P 4 0) < 40; first | omega | (have h9_ := he9 (by assumption); omega)) (fun M hR => ?_)
                refine g_aload_n d_R_effect_133 rfl ?_
                refine g_dup d_R_effect_134 ?_
                refine r_geti 4 hR (by decide) rfl fl_R_138 rfl d_R_effect_135 ?_
                refine g_dup_x1 d_R_effect_138 rfl (cat_rf _) ?_
                refine g_iconst (v := 1) d_R_effect_139 (by decide) ?_
                refine g_iadd d_R_effect_140 ?_
                refine r_puti 4 hR (by decide) rfl fl_R_138 (Or.inr (fun r h => by cases h; rfl)) rfl d_R_effect_141 (fun M hR => ?_)
                exact g_ireturn d_R_effect_144 rfl ⟨by unfold a_R_effect; rw [if_neg (show ¬ (a_R_in kind 0 25 = 0) from c_13), if_pos (show a_R_needs kind ≤ 0 from c_18), if_pos (show a_R_needs kind ≤ 1 from c_32), if_neg (show ¬ (a_R_needs kind ≤ 2) from c_46), if_neg (show ¬ (a_R_isEffect P c = 0) from c_55), if_pos (show a_R_in kind 19 24 = 0 from c_66), if_neg (show ¬ (P 4 0 = 40) from c_86)]; try rfl, by unfold p_R_effect; rw [if_neg (show ¬ (a_R_in kind 0 25 = 0) from c_13), if_pos (show a_R_needs kind ≤ 0 from c_18), if_pos (show a_R_needs kind ≤ 1 from c_32), if_neg (show ¬ (a_R_needs kind ≤ 2) from c_46), if_neg (show ¬ (a_R_isEffect P c = 0) from c_55), if_pos (show a_R_in kind 19 24 = 0 from c_66), if_neg (show ¬ (P 4 0 = 40) from c_86)]; exact hR⟩
              · skip
                refine g_bipush (v := -2) d_R_effect_89 (by decide) ?_
                exact g_ireturn d_R_effect_91 rfl ⟨by unfold a_R_effect; rw [if_neg (show ¬ (a_R_in kind 0 25 = 0) from c_13), if_pos (show a_R_needs kind ≤ 0 from c_18), if_pos (show a_R_needs kind ≤ 1 from c_32), if_neg (show ¬ (a_R_needs kind ≤ 2) from c_46), if_neg (show ¬ (a_R_isEffect P c = 0) from c_55), if_pos (show a_R_in kind 19 24 = 0 from c_66), if_pos (show P 4 0 = 40 from c_86)]; try rfl, by unfold p_R_effect; rw [if_neg (show ¬ (a_R_in kind 0 25 = 0) from c_13), if_pos (show a_R_needs kind ≤ 0 from c_18), if_pos (show a_R_needs kind ≤ 1 from c_32), if_neg (show ¬ (a_R_needs kind ≤ 2) from c_46), if_neg (show ¬ (a_R_isEffect P c = 0) from c_55), if_pos (show a_R_in kind 19 24 = 0 from c_66), if_pos (show P 4 0 = 40 from c_86)]; exact hR⟩
            · skip
              refine g_iload_n d_R_effect_69 rfl ?_
              refine g_iconst (v := 0) d_R_effect_70 (by decide) ?_
              refine g_iconst (v := 3) d_R_effect_71 (by decide) ?_
              refine g_callS [.int (a), .int (0), .int (3)] cw_R_141 cs_R_in d_R_effect_72 rfl rfl ⟨by simp, by simp⟩ (by decide) (Nat.le_refl _) (Nat.le_refl _) (fun _ _ h => h) (c_R_in a 0 3 _ _) (fun r_ M_ h_ _ => ?_)
              obtain ⟨rfl, rfl⟩ := h_
              refine g_if_ne 80 d_R_effect_75 (by decide) (fun c_75 => ?_) (fun c_75 => ?_)
              · skip
                refine g_aload_n d_R_effect_80 rfl ?_
                refine r_geti 4 hR (by decide) rfl fl_R_138 rfl d_R_effect_81 ?_
                refine g_bipush (v := 40) d_R_effect_84 (by decide) ?_
                refine g_icmp_ne 92 d_R_effect_86 (by decide) (fun c_86 => ?_) (fun c_86 => ?_)
                · skip
                  refine g_aload_n d_R_effect_92 rfl ?_
                  refine r_arr 0 hR (by decide) (by decide) fl_R_7 rfl d_R_effect_93 ?_
                  refine g_aload_n d_R_effect_96 rfl ?_
                  refine r_geti 4 hR (by decide) rfl fl_R_138 rfl d_R_effect_97 ?_
                  refine g_iload_n d_R_effect_100 rfl ?_
                  refine r_iast 0 (tn (P 4 0)) hR (by decide) rfl d_R_effect_101 he (by show tn (P 4 0) < 40; first | omega | (have h9_ := he9 (by assumption); omega)) (fun M hR => ?_)
                  refine g_aload_n d_R_effect_102 rfl ?_
                  refine r_arr 1 hR (by decide) (by decide) fl_R_13 rfl d_R_effect_103 ?_
                  refine g_aload_n d_R_effect_106 rfl ?_
                  refine r_geti 4 hR (by decide) rfl fl_R_138 rfl d_R_effect_107 ?_
                  refine g_iload_n d_R_effect_110 rfl ?_
                  refine r_iast 1 (tn (P 4 0)) hR (by decide) rfl d_R_effect_111 he (by show tn (P 4 0) < 40; first | omega | (have h9_ := he9 (by assumption); omega)) (fun M hR => ?_)
                  refine g_aload_n d_R_effect_112 rfl ?_
                  refine r_arr 2 hR (by decide) (by decide) fl_R_16 rfl d_R_effect_113 ?_
                  refine g_aload_n d_R_effect_116 rfl ?_
                  refine r_geti 4 hR (by decide) rfl fl_R_138 rfl d_R_effect_117 ?_
                  refine g_iload_n d_R_effect_120 rfl ?_
                  refine r_iast 2 (tn (P 4 0)) hR (by decide) rfl d_R_effect_121 he (by show tn (P 4 0) < 40; first | omega | (have h9_ := he9 (by assumption); omega)) (fun M hR => ?_)
                  refine g_aload_n d_R_effect_122 rfl ?_
                  refine r_arr 3 hR (by decide) (by decide) fl_R_19 rfl d_R_effect_123 ?_
                  refine g_aload_n d_R_effect_126 rfl ?_
                  refine r_geti 4 hR (by decide) rfl fl_R_138 rfl d_R_effect_127 ?_
                  refine g_iload d_R_effect_130 rfl ?_
                  refine r_iast 3 (tn (P 4 0)) hR (by decide) rfl d_R_effect_132 he (by show tn (P 4 0) < 40; first | omega | (have h9_ := he9 (by assumption); omega)) (fun M hR => ?_)
                  refine g_aload_n d_R_effect_133 rfl ?_
                  refine g_dup d_R_effect_134 ?_
                  refine r_geti 4 hR (by decide) rfl fl_R_138 rfl d_R_effect_135 ?_
                  refine g_dup_x1 d_R_effect_138 rfl (cat_rf _) ?_
                  refine g_iconst (v := 1) d_R_effect_139 (by decide) ?_
                  refine g_iadd d_R_effect_140 ?_
                  refine r_puti 4 hR (by decide) rfl fl_R_138 (Or.inr (fun r h => by cases h; rfl)) rfl d_R_effect_141 (fun M hR => ?_)
                  exact g_ireturn d_R_effect_144 rfl ⟨by unfold a_R_effect; rw [if_neg (show ¬ (a_R_in kind 0 25 = 0) from c_13), if_pos (show a_R_needs kind ≤ 0 from c_18), if_pos (show a_R_needs kind ≤ 1 from c_32), if_neg (show ¬ (a_R_needs kind ≤ 2) from c_46), if_neg (show ¬ (a_R_isEffect P c = 0) from c_55), if_neg (show ¬ (a_R_in kind 19 24 = 0) from c_66), if_neg (show ¬ (a_R_in a 0 3 = 0) from c_75), if_neg (show ¬ (P 4 0 = 40) from c_86)]; try rfl, by unfold p_R_effect; rw [if_neg (show ¬ (a_R_in kind 0 25 = 0) from c_13), if_pos (show a_R_needs kind ≤ 0 from c_18), if_pos (show a_R_needs kind ≤ 1 from c_32), if_neg (show ¬ (a_R_needs kind ≤ 2) from c_46), if_neg (show ¬ (a_R_isEffect P c = 0) from c_55), if_neg (show ¬ (a_R_in kind 19 24 = 0) from c_66), if_neg (show ¬ (a_R_in a 0 3 = 0) from c_75), if_neg (show ¬ (P 4 0 = 40) from c_86)]; exact hR⟩
                · skip
                  refine g_bipush (v := -2) d_R_effect_89 (by decide) ?_
                  exact g_ireturn d_R_effect_91 rfl ⟨by unfold a_R_effect; rw [if_neg (show ¬ (a_R_in kind 0 25 = 0) from c_13), if_pos (show a_R_needs kind ≤ 0 from c_18), if_pos (show a_R_needs kind ≤ 1 from c_32), if_neg (show ¬ (a_R_needs kind ≤ 2) from c_46), if_neg (show ¬ (a_R_isEffect P c = 0) from c_55), if_neg (show ¬ (a_R_in kind 19 24 = 0) from c_66), if_neg (show ¬ (a_R_in a 0 3 = 0) from c_75), if_pos (show P 4 0 = 40 from c_86)]; try rfl, by unfold p_R_effect; rw [if_neg (show ¬ (a_R_in kind 0 25 = 0) from c_13), if_pos (show a_R_needs kind ≤ 0 from c_18), if_pos (show a_R_needs kind ≤ 1 from c_32), if_neg (show ¬ (a_R_needs kind ≤ 2) from c_46), if_neg (show ¬ (a_R_isEffect P c = 0) from c_55), if_neg (show ¬ (a_R_in kind 19 24 = 0) from c_66), if_neg (show ¬ (a_R_in a 0 3 = 0) from c_75), if_pos (show P 4 0 = 40 from c_86)]; exact hR⟩
              · skip
                refine g_iconst (v := -1) d_R_effect_78 (by decide) ?_
                exact g_ireturn d_R_effect_79 rfl ⟨by unfold a_R_effect; rw [if_neg (show ¬ (a_R_in kind 0 25 = 0) from c_13), if_pos (show a_R_needs kind ≤ 0 from c_18), if_pos (show a_R_needs kind ≤ 1 from c_32), if_neg (show ¬ (a_R_needs kind ≤ 2) from c_46), if_neg (show ¬ (a_R_isEffect P c = 0) from c_55), if_neg (show ¬ (a_R_in kind 19 24 = 0) from c_66), if_pos (show a_R_in a 0 3 = 0 from c_75)]; try rfl, by unfold p_R_effect; rw [if_neg (show ¬ (a_R_in kind 0 25 = 0) from c_13), if_pos (show a_R_needs kind ≤ 0 from c_18), if_pos (show a_R_needs kind ≤ 1 from c_32), if_neg (show ¬ (a_R_needs kind ≤ 2) from c_46), if_neg (show ¬ (a_R_isEffect P c = 0) from c_55), if_neg (show ¬ (a_R_in kind 19 24 = 0) from c_66), if_pos (show a_R_in a 0 3 = 0 from c_75)]; exact hR⟩
      · skip
        refine g_aload_n d_R_effect_35 rfl ?_
        refine g_iload_n d_R_effect_36 rfl ?_
        refine r_call [.int (b)] hR cw_R_149 cv_R_isEffect d_R_effect_37 rfl rfl ⟨by simp, by simp⟩ (by decide) (c_R_isEffect _ b) (fun M hR => ?_)
        refine g_if_eq 78 d_R_effect_40 (by decide) (fun c_40 => ?_) (fun c_40 => ?_)
        · skip
          refine g_iconst (v := -1) d_R_effect_78 (by decide) ?_
          exact g_ireturn d_R_effect_79 rfl ⟨by unfold a_R_effect; rw [if_neg (show ¬ (a_R_in kind 0 25 = 0) from c_13), if_pos (show a_R_needs kind ≤ 0 from c_18), if_neg (show ¬ (a_R_needs kind ≤ 1) from c_32), if_pos (show a_R_isEffect P b = 0 from c_40)]; try rfl, by unfold p_R_effect; rw [if_neg (show ¬ (a_R_in kind 0 25 = 0) from c_13), if_pos (show a_R_needs kind ≤ 0 from c_18), if_neg (show ¬ (a_R_needs kind ≤ 1) from c_32), if_pos (show a_R_isEffect P b = 0 from c_40)]; exact hR⟩
        · skip
          refine g_iload d_R_effect_43 rfl ?_
          refine g_iconst (v := 2) d_R_effect_45 (by decide) ?_
          refine g_icmp_le 58 d_R_effect_46 (by decide) (fun c_46 => ?_) (fun c_46 => ?_)
          · skip
            refine g_iload_n d_R_effect_58 rfl ?_
            refine g_bipush (v := 19) d_R_effect_59 (by decide) ?_
            refine g_bipush (v := 24) d_R_effect_61 (by decide) ?_
            refine g_callS [.int (kind), .int (19), .int (24)] cw_R_141 cs_R_in d_R_effect_63 rfl rfl ⟨by simp, by simp⟩ (by decide) (Nat.le_refl _) (Nat.le_refl _) (fun _ _ h => h) (c_R_in kind 19 24 _ _) (fun r_ M_ h_ _ => ?_)
            obtain ⟨rfl, rfl⟩ := h_
            refine g_if_eq 80 d_R_effect_66 (by decide) (fun c_66 => ?_) (fun c_66 => ?_)
            · skip
              refine g_aload_n d_R_effect_80 rfl ?_
              refine r_geti 4 hR (by decide) rfl fl_R_138 rfl d_R_effect_81 ?_
              refine g_bipush (v := 40) d_R_effect_84 (by decide) ?_
              refine g_icmp_ne 92 d_R_effect_86 (by decide) (fun c_86 => ?_) (fun c_86 => ?_)
              · skip
                refine g_aload_n d_R_effect_92 rfl ?_
                refine r_arr 0 hR (by decide) (by decide) fl_R_7 rfl d_R_effect_93 ?_
                refine g_aload_n d_R_effect_96 rfl ?_
                refine r_geti 4 hR (by decide) rfl fl_R_138 rfl d_R_effect_97 ?_
                refine g_iload_n d_R_effect_100 rfl ?_
                refine r_iast 0 (tn (P 4 0)) hR (by decide) rfl d_R_effect_101 he (by show tn (P 4 0) < 40; first | omega | (have h9_ := he9 (by assumption); omega)) (fun M hR => ?_)
                refine g_aload_n d_R_effect_102 rfl ?_
                refine r_arr 1 hR (by decide) (by decide) fl_R_13 rfl d_R_effect_103 ?_
                refine g_aload_n d_R_effect_106 rfl ?_
                refine r_geti 4 hR (by decide) rfl fl_R_138 rfl d_R_effect_107 ?_
                refine g_iload_n d_R_effect_110 rfl ?_
                refine r_iast 1 (tn (P 4 0)) hR (by decide) rfl d_R_effect_111 he (by show tn (P 4 0) < 40; first | omega | (have h9_ := he9 (by assumption); omega)) (fun M hR => ?_)
                refine g_aload_n d_R_effect_112 rfl ?_
                refine r_arr 2 hR (by decide) (by decide) fl_R_16 rfl d_R_effect_113 ?_
                refine g_aload_n d_R_effect_116 rfl ?_
                refine r_geti 4 hR (by decide) rfl fl_R_138 rfl d_R_effect_117 ?_
                refine g_iload_n d_R_effect_120 rfl ?_
                refine r_iast 2 (tn (P 4 0)) hR (by decide) rfl d_R_effect_121 he (by show tn (P 4 0) < 40; first | omega | (have h9_ := he9 (by assumption); omega)) (fun M hR => ?_)
                refine g_aload_n d_R_effect_122 rfl ?_
                refine r_arr 3 hR (by decide) (by decide) fl_R_19 rfl d_R_effect_123 ?_
                refine g_aload_n d_R_effect_126 rfl ?_
                refine r_geti 4 hR (by decide) rfl fl_R_138 rfl d_R_effect_127 ?_
                refine g_iload d_R_effect_130 rfl ?_
                refine r_iast 3 (tn (P 4 0)) hR (by decide) rfl d_R_effect_132 he (by show tn (P 4 0) < 40; first | omega | (have h9_ := he9 (by assumption); omega)) (fun M hR => ?_)
                refine g_aload_n d_R_effect_133 rfl ?_
                refine g_dup d_R_effect_134 ?_
                refine r_geti 4 hR (by decide) rfl fl_R_138 rfl d_R_effect_135 ?_
                refine g_dup_x1 d_R_effect_138 rfl (cat_rf _) ?_
                refine g_iconst (v := 1) d_R_effect_139 (by decide) ?_
                refine g_iadd d_R_effect_140 ?_
                refine r_puti 4 hR (by decide) rfl fl_R_138 (Or.inr (fun r h => by cases h; rfl)) rfl d_R_effect_141 (fun M hR => ?_)
                exact g_ireturn d_R_effect_144 rfl ⟨by unfold a_R_effect; rw [if_neg (show ¬ (a_R_in kind 0 25 = 0) from c_13), if_pos (show a_R_needs kind ≤ 0 from c_18), if_neg (show ¬ (a_R_needs kind ≤ 1) from c_32), if_neg (show ¬ (a_R_isEffect P b = 0) from c_40), if_pos (show a_R_needs kind ≤ 2 from c_46), if_pos (show a_R_in kind 19 24 = 0 from c_66), if_neg (show ¬ (P 4 0 = 40) from c_86)]; try rfl, by unfold p_R_effect; rw [if_neg (show ¬ (a_R_in kind 0 25 = 0) from c_13), if_pos (show a_R_needs kind ≤ 0 from c_18), if_neg (show ¬ (a_R_needs kind ≤ 1) from c_32), if_neg (show ¬ (a_R_isEffect P b = 0) from c_40), if_pos (show a_R_needs kind ≤ 2 from c_46), if_pos (show a_R_in kind 19 24 = 0 from c_66), if_neg (show ¬ (P 4 0 = 40) from c_86)]; exact hR⟩
              · skip
                refine g_bipush (v := -2) d_R_effect_89 (by decide) ?_
                exact g_ireturn d_R_effect_91 rfl ⟨by unfold a_R_effect; rw [if_neg (show ¬ (a_R_in kind 0 25 = 0) from c_13), if_pos (show a_R_needs kind ≤ 0 from c_18), if_neg (show ¬ (a_R_needs kind ≤ 1) from c_32), if_neg (show ¬ (a_R_isEffect P b = 0) from c_40), if_pos (show a_R_needs kind ≤ 2 from c_46), if_pos (show a_R_in kind 19 24 = 0 from c_66), if_pos (show P 4 0 = 40 from c_86)]; try rfl, by unfold p_R_effect; rw [if_neg (show ¬ (a_R_in kind 0 25 = 0) from c_13), if_pos (show a_R_needs kind ≤ 0 from c_18), if_neg (show ¬ (a_R_needs kind ≤ 1) from c_32), if_neg (show ¬ (a_R_isEffect P b = 0) from c_40), if_pos (show a_R_needs kind ≤ 2 from c_46), if_pos (show a_R_in kind 19 24 = 0 from c_66), if_pos (show P 4 0 = 40 from c_86)]; exact hR⟩
            · skip
              refine g_iload_n d_R_effect_69 rfl ?_
              refine g_iconst (v := 0) d_R_effect_70 (by decide) ?_
              refine g_iconst (v := 3) d_R_effect_71 (by decide) ?_
              refine g_callS [.int (a), .int (0), .int (3)] cw_R_141 cs_R_in d_R_effect_72 rfl rfl ⟨by simp, by simp⟩ (by decide) (Nat.le_refl _) (Nat.le_refl _) (fun _ _ h => h) (c_R_in a 0 3 _ _) (fun r_ M_ h_ _ => ?_)
              obtain ⟨rfl, rfl⟩ := h_
              refine g_if_ne 80 d_R_effect_75 (by decide) (fun c_75 => ?_) (fun c_75 => ?_)
              · skip
                refine g_aload_n d_R_effect_80 rfl ?_
                refine r_geti 4 hR (by decide) rfl fl_R_138 rfl d_R_effect_81 ?_
                refine g_bipush (v := 40) d_R_effect_84 (by decide) ?_
                refine g_icmp_ne 92 d_R_effect_86 (by decide) (fun c_86 => ?_) (fun c_86 => ?_)
                · skip
                  refine g_aload_n d_R_effect_92 rfl ?_
                  refine r_arr 0 hR (by decide) (by decide) fl_R_7 rfl d_R_effect_93 ?_
                  refine g_aload_n d_R_effect_96 rfl ?_
                  refine r_geti 4 hR (by decide) rfl fl_R_138 rfl d_R_effect_97 ?_
                  refine g_iload_n d_R_effect_100 rfl ?_
                  refine r_iast 0 (tn (P 4 0)) hR (by decide) rfl d_R_effect_101 he (by show tn (P 4 0) < 40; first | omega | (have h9_ := he9 (by assumption); omega)) (fun M hR => ?_)
                  refine g_aload_n d_R_effect_102 rfl ?_
                  refine r_arr 1 hR (by decide) (by decide) fl_R_13 rfl d_R_effect_103 ?_
                  refine g_aload_n d_R_effect_106 rfl ?_
                  refine r_geti 4 hR (by decide) rfl fl_R_138 rfl d_R_effect_107 ?_
                  refine g_iload_n d_R_effect_110 rfl ?_
                  refine r_iast 1 (tn (P 4 0)) hR (by decide) rfl d_R_effect_111 he (by show tn (P 4 0) < 40; first | omega | (have h9_ := he9 (by assumption); omega)) (fun M hR => ?_)
                  refine g_aload_n d_R_effect_112 rfl ?_
                  refine r_arr 2 hR (by decide) (by decide) fl_R_16 rfl d_R_effect_113 ?_
                  refine g_aload_n d_R_effect_116 rfl ?_
                  refine r_geti 4 hR (by decide) rfl fl_R_138 rfl d_R_effect_117 ?_
                  refine g_iload_n d_R_effect_120 rfl ?_
                  refine r_iast 2 (tn (P 4 0)) hR (by decide) rfl d_R_effect_121 he (by show tn (P 4 0) < 40; first | omega | (have h9_ := he9 (by assumption); omega)) (fun M hR => ?_)
                  refine g_aload_n d_R_effect_122 rfl ?_
                  refine r_arr 3 hR (by decide) (by decide) fl_R_19 rfl d_R_effect_123 ?_
                  refine g_aload_n d_R_effect_126 rfl ?_
                  refine r_geti 4 hR (by decide) rfl fl_R_138 rfl d_R_effect_127 ?_
                  refine g_iload d_R_effect_130 rfl ?_
                  refine r_iast 3 (tn (P 4 0)) hR (by decide) rfl d_R_effect_132 he (by show tn (P 4 0) < 40; first | omega | (have h9_ := he9 (by assumption); omega)) (fun M hR => ?_)
                  refine g_aload_n d_R_effect_133 rfl ?_
                  refine g_dup d_R_effect_134 ?_
                  refine r_geti 4 hR (by decide) rfl fl_R_138 rfl d_R_effect_135 ?_
                  refine g_dup_x1 d_R_effect_138 rfl (cat_rf _) ?_
                  refine g_iconst (v := 1) d_R_effect_139 (by decide) ?_
                  refine g_iadd d_R_effect_140 ?_
                  refine r_puti 4 hR (by decide) rfl fl_R_138 (Or.inr (fun r h => by cases h; rfl)) rfl d_R_effect_141 (fun M hR => ?_)
                  exact g_ireturn d_R_effect_144 rfl ⟨by unfold a_R_effect; rw [if_neg (show ¬ (a_R_in kind 0 25 = 0) from c_13), if_pos (show a_R_needs kind ≤ 0 from c_18), if_neg (show ¬ (a_R_needs kind ≤ 1) from c_32), if_neg (show ¬ (a_R_isEffect P b = 0) from c_40), if_pos (show a_R_needs kind ≤ 2 from c_46), if_neg (show ¬ (a_R_in kind 19 24 = 0) from c_66), if_neg (show ¬ (a_R_in a 0 3 = 0) from c_75), if_neg (show ¬ (P 4 0 = 40) from c_86)]; try rfl, by unfold p_R_effect; rw [if_neg (show ¬ (a_R_in kind 0 25 = 0) from c_13), if_pos (show a_R_needs kind ≤ 0 from c_18), if_neg (show ¬ (a_R_needs kind ≤ 1) from c_32), if_neg (show ¬ (a_R_isEffect P b = 0) from c_40), if_pos (show a_R_needs kind ≤ 2 from c_46), if_neg (show ¬ (a_R_in kind 19 24 = 0) from c_66), if_neg (show ¬ (a_R_in a 0 3 = 0) from c_75), if_neg (show ¬ (P 4 0 = 40) from c_86)]; exact hR⟩
                · skip
                  refine g_bipush (v := -2) d_R_effect_89 (by decide) ?_
                  exact g_ireturn d_R_effect_91 rfl ⟨by unfold a_R_effect; rw [if_neg (show ¬ (a_R_in kind 0 25 = 0) from c_13), if_pos (show a_R_needs kind ≤ 0 from c_18), if_neg (show ¬ (a_R_needs kind ≤ 1) from c_32), if_neg (show ¬ (a_R_isEffect P b = 0) from c_40), if_pos (show a_R_needs kind ≤ 2 from c_46), if_neg (show ¬ (a_R_in kind 19 24 = 0) from c_66), if_neg (show ¬ (a_R_in a 0 3 = 0) from c_75), if_pos (show P 4 0 = 40 from c_86)]; try rfl, by unfold p_R_effect; rw [if_neg (show ¬ (a_R_in kind 0 25 = 0) from c_13), if_pos (show a_R_needs kind ≤ 0 from c_18), if_neg (show ¬ (a_R_needs kind ≤ 1) from c_32), if_neg (show ¬ (a_R_isEffect P b = 0) from c_40), if_pos (show a_R_needs kind ≤ 2 from c_46), if_neg (show ¬ (a_R_in kind 19 24 = 0) from c_66), if_neg (show ¬ (a_R_in a 0 3 = 0) from c_75), if_pos (show P 4 0 = 40 from c_86)]; exact hR⟩
              · skip
                refine g_iconst (v := -1) d_R_effect_78 (by decide) ?_
                exact g_ireturn d_R_effect_79 rfl ⟨by unfold a_R_effect; rw [if_neg (show ¬ (a_R_in kind 0 25 = 0) from c_13), if_pos (show a_R_needs kind ≤ 0 from c_18), if_neg (show ¬ (a_R_needs kind ≤ 1) from c_32), if_neg (show ¬ (a_R_isEffect P b = 0) from c_40), if_pos (show a_R_needs kind ≤ 2 from c_46), if_neg (show ¬ (a_R_in kind 19 24 = 0) from c_66), if_pos (show a_R_in a 0 3 = 0 from c_75)]; try rfl, by unfold p_R_effect; rw [if_neg (show ¬ (a_R_in kind 0 25 = 0) from c_13), if_pos (show a_R_needs kind ≤ 0 from c_18), if_neg (show ¬ (a_R_needs kind ≤ 1) from c_32), if_neg (show ¬ (a_R_isEffect P b = 0) from c_40), if_pos (show a_R_needs kind ≤ 2 from c_46), if_neg (show ¬ (a_R_in kind 19 24 = 0) from c_66), if_pos (show a_R_in a 0 3 = 0 from c_75)]; exact hR⟩
          · skip
            refine g_aload_n d_R_effect_49 rfl ?_
            refine g_iload d_R_effect_50 rfl ?_
            refine r_call [.int (c)] hR cw_R_149 cv_R_isEffect d_R_effect_52 rfl rfl ⟨by simp, by simp⟩ (by decide) (c_R_isEffect _ c) (fun M hR => ?_)
            refine g_if_eq 78 d_R_effect_55 (by decide) (fun c_55 => ?_) (fun c_55 => ?_)
            · skip
              refine g_iconst (v := -1) d_R_effect_78 (by decide) ?_
              exact g_ireturn d_R_effect_79 rfl ⟨by unfold a_R_effect; rw [if_neg (show ¬ (a_R_in kind 0 25 = 0) from c_13), if_pos (show a_R_needs kind ≤ 0 from c_18), if_neg (show ¬ (a_R_needs kind ≤ 1) from c_32), if_neg (show ¬ (a_R_isEffect P b = 0) from c_40), if_neg (show ¬ (a_R_needs kind ≤ 2) from c_46), if_pos (show a_R_isEffect P c = 0 from c_55)]; try rfl, by unfold p_R_effect; rw [if_neg (show ¬ (a_R_in kind 0 25 = 0) from c_13), if_pos (show a_R_needs kind ≤ 0 from c_18), if_neg (show ¬ (a_R_needs kind ≤ 1) from c_32), if_neg (show ¬ (a_R_isEffect P b = 0) from c_40), if_neg (show ¬ (a_R_needs kind ≤ 2) from c_46), if_pos (show a_R_isEffect P c = 0 from c_55)]; exact hR⟩
            · skip
              refine g_iload_n d_R_effect_58 rfl ?_
              refine g_bipush (v := 19) d_R_effect_59 (by decide) ?_
              refine g_bipush (v := 24) d_R_effect_61 (by decide) ?_
              refine g_callS [.int (kind), .int (19), .int (24)] cw_R_141 cs_R_in d_R_effect_63 rfl rfl ⟨by simp, by simp⟩ (by decide) (Nat.le_refl _) (Nat.le_refl _) (fun _ _ h => h) (c_R_in kind 19 24 _ _) (fun r_ M_ h_ _ => ?_)
              obtain ⟨rfl, rfl⟩ := h_
              refine g_if_eq 80 d_R_effect_66 (by decide) (fun c_66 => ?_) (fun c_66 => ?_)
              · skip
                refine g_aload_n d_R_effect_80 rfl ?_
                refine r_geti 4 hR (by decide) rfl fl_R_138 rfl d_R_effect_81 ?_
                refine g_bipush (v := 40) d_R_effect_84 (by decide) ?_
                refine g_icmp_ne 92 d_R_effect_86 (by decide) (fun c_86 => ?_) (fun c_86 => ?_)
                · skip
                  refine g_aload_n d_R_effect_92 rfl ?_
                  refine r_arr 0 hR (by decide) (by decide) fl_R_7 rfl d_R_effect_93 ?_
                  refine g_aload_n d_R_effect_96 rfl ?_
                  refine r_geti 4 hR (by decide) rfl fl_R_138 rfl d_R_effect_97 ?_
                  refine g_iload_n d_R_effect_100 rfl ?_
                  refine r_iast 0 (tn (P 4 0)) hR (by decide) rfl d_R_effect_101 he (by show tn (P 4 0) < 40; first | omega | (have h9_ := he9 (by assumption); omega)) (fun M hR => ?_)
                  refine g_aload_n d_R_effect_102 rfl ?_
                  refine r_arr 1 hR (by decide) (by decide) fl_R_13 rfl d_R_effect_103 ?_
                  refine g_aload_n d_R_effect_106 rfl ?_
                  refine r_geti 4 hR (by decide) rfl fl_R_138 rfl d_R_effect_107 ?_
                  refine g_iload_n d_R_effect_110 rfl ?_
                  refine r_iast 1 (tn (P 4 0)) hR (by decide) rfl d_R_effect_111 he (by show tn (P 4 0) < 40; first | omega | (have h9_ := he9 (by assumption); omega)) (fun M hR => ?_)
                  refine g_aload_n d_R_effect_112 rfl ?_
                  refine r_arr 2 hR (by decide) (by decide) fl_R_16 rfl d_R_effect_113 ?_
                  refine g_aload_n d_R_effect_116 rfl ?_
                  refine r_geti 4 hR (by decide) rfl fl_R_138 rfl d_R_effect_117 ?_
                  refine g_iload_n d_R_effect_120 rfl ?_
                  refine r_iast 2 (tn (P 4 0)) hR (by decide) rfl d_R_effect_121 he (by show tn (P 4 0) < 40; first | omega | (have h9_ := he9 (by assumption); omega)) (fun M hR => ?_)
                  refine g_aload_n d_R_effect_122 rfl ?_
                  refine r_arr 3 hR (by decide) (by decide) fl_R_19 rfl d_R_effect_123 ?_
                  refine g_aload_n d_R_effect_126 rfl ?_
                  refine r_geti 4 hR (by decide) rfl fl_R_138 rfl d_R_effect_127 ?_
                  refine g_iload d_R_effect_130 rfl ?_
                  refine r_iast 3 (tn (P 4 0)) hR (by decide) rfl d_R_effect_132 he (by show tn (P 4 0) < 40; first | omega | (have h9_ := he9 (by assumption); omega)) (fun M hR => ?_)
                  refine g_aload_n d_R_effect_133 rfl ?_
                  refine g_dup d_R_effect_134 ?_
                  refine r_geti 4 hR (by decide) rfl fl_R_138 rfl d_R_effect_135 ?_
                  refine g_dup_x1 d_R_effect_138 rfl (cat_rf _) ?_
                  refine g_iconst (v := 1) d_R_effect_139 (by decide) ?_
                  refine g_iadd d_R_effect_140 ?_
                  refine r_puti 4 hR (by decide) rfl fl_R_138 (Or.inr (fun r h => by cases h; rfl)) rfl d_R_effect_141 (fun M hR => ?_)
                  exact g_ireturn d_R_effect_144 rfl ⟨by unfold a_R_effect; rw [if_neg (show ¬ (a_R_in kind 0 25 = 0) from c_13), if_pos (show a_R_needs kind ≤ 0 from c_18), if_neg (show ¬ (a_R_needs kind ≤ 1) from c_32), if_neg (show ¬ (a_R_isEffect P b = 0) from c_40), if_neg (show ¬ (a_R_needs kind ≤ 2) from c_46), if_neg (show ¬ (a_R_isEffect P c = 0) from c_55), if_pos (show a_R_in kind 19 24 = 0 from c_66), if_neg (show ¬ (P 4 0 = 40) from c_86)]; try rfl, by unfold p_R_effect; rw [if_neg (show ¬ (a_R_in kind 0 25 = 0) from c_13), if_pos (show a_R_needs kind ≤ 0 from c_18), if_neg (show ¬ (a_R_needs kind ≤ 1) from c_32), if_neg (show ¬ (a_R_isEffect P b = 0) from c_40), if_neg (show ¬ (a_R_needs kind ≤ 2) from c_46), if_neg (show ¬ (a_R_isEffect P c = 0) from c_55), if_pos (show a_R_in kind 19 24 = 0 from c_66), if_neg (show ¬ (P 4 0 = 40) from c_86)]; exact hR⟩
                · skip
                  refine g_bipush (v := -2) d_R_effect_89 (by decide) ?_
                  exact g_ireturn d_R_effect_91 rfl ⟨by unfold a_R_effect; rw [if_neg (show ¬ (a_R_in kind 0 25 = 0) from c_13), if_pos (show a_R_needs kind ≤ 0 from c_18), if_neg (show ¬ (a_R_needs kind ≤ 1) from c_32), if_neg (show ¬ (a_R_isEffect P b = 0) from c_40), if_neg (show ¬ (a_R_needs kind ≤ 2) from c_46), if_neg (show ¬ (a_R_isEffect P c = 0) from c_55), if_pos (show a_R_in kind 19 24 = 0 from c_66), if_pos (show P 4 0 = 40 from c_86)]; try rfl, by unfold p_R_effect; rw [if_neg (show ¬ (a_R_in kind 0 25 = 0) from c_13), if_pos (show a_R_needs kind ≤ 0 from c_18), if_neg (show ¬ (a_R_needs kind ≤ 1) from c_32), if_neg (show ¬ (a_R_isEffect P b = 0) from c_40), if_neg (show ¬ (a_R_needs kind ≤ 2) from c_46), if_neg (show ¬ (a_R_isEffect P c = 0) from c_55), if_pos (show a_R_in kind 19 24 = 0 from c_66), if_pos (show P 4 0 = 40 from c_86)]; exact hR⟩
              · skip
                refine g_iload_n d_R_effect_69 rfl ?_
                refine g_iconst (v := 0) d_R_effect_70 (by decide) ?_
                refine g_iconst (v := 3) d_R_effect_71 (by decide) ?_
                refine g_callS [.int (a), .int (0), .int (3)] cw_R_141 cs_R_in d_R_effect_72 rfl rfl ⟨by simp, by simp⟩ (by decide) (Nat.le_refl _) (Nat.le_refl _) (fun _ _ h => h) (c_R_in a 0 3 _ _) (fun r_ M_ h_ _ => ?_)
                obtain ⟨rfl, rfl⟩ := h_
                refine g_if_ne 80 d_R_effect_75 (by decide) (fun c_75 => ?_) (fun c_75 => ?_)
                · skip
                  refine g_aload_n d_R_effect_80 rfl ?_
                  refine r_geti 4 hR (by decide) rfl fl_R_138 rfl d_R_effect_81 ?_
                  refine g_bipush (v := 40) d_R_effect_84 (by decide) ?_
                  refine g_icmp_ne 92 d_R_effect_86 (by decide) (fun c_86 => ?_) (fun c_86 => ?_)
                  · skip
                    refine g_aload_n d_R_effect_92 rfl ?_
                    refine r_arr 0 hR (by decide) (by decide) fl_R_7 rfl d_R_effect_93 ?_
                    refine g_aload_n d_R_effect_96 rfl ?_
                    refine r_geti 4 hR (by decide) rfl fl_R_138 rfl d_R_effect_97 ?_
                    refine g_iload_n d_R_effect_100 rfl ?_
                    refine r_iast 0 (tn (P 4 0)) hR (by decide) rfl d_R_effect_101 he (by show tn (P 4 0) < 40; first | omega | (have h9_ := he9 (by assumption); omega)) (fun M hR => ?_)
                    refine g_aload_n d_R_effect_102 rfl ?_
                    refine r_arr 1 hR (by decide) (by decide) fl_R_13 rfl d_R_effect_103 ?_
                    refine g_aload_n d_R_effect_106 rfl ?_
                    refine r_geti 4 hR (by decide) rfl fl_R_138 rfl d_R_effect_107 ?_
                    refine g_iload_n d_R_effect_110 rfl ?_
                    refine r_iast 1 (tn (P 4 0)) hR (by decide) rfl d_R_effect_111 he (by show tn (P 4 0) < 40; first | omega | (have h9_ := he9 (by assumption); omega)) (fun M hR => ?_)
                    refine g_aload_n d_R_effect_112 rfl ?_
                    refine r_arr 2 hR (by decide) (by decide) fl_R_16 rfl d_R_effect_113 ?_
                    refine g_aload_n d_R_effect_116 rfl ?_
                    refine r_geti 4 hR (by decide) rfl fl_R_138 rfl d_R_effect_117 ?_
                    refine g_iload_n d_R_effect_120 rfl ?_
                    refine r_iast 2 (tn (P 4 0)) hR (by decide) rfl d_R_effect_121 he (by show tn (P 4 0) < 40; first | omega | (have h9_ := he9 (by assumption); omega)) (fun M hR => ?_)
                    refine g_aload_n d_R_effect_122 rfl ?_
                    refine r_arr 3 hR (by decide) (by decide) fl_R_19 rfl d_R_effect_123 ?_
                    refine g_aload_n d_R_effect_126 rfl ?_
                    refine r_geti 4 hR (by decide) rfl fl_R_138 rfl d_R_effect_127 ?_
                    refine g_iload d_R_effect_130 rfl ?_
                    refine r_iast 3 (tn (P 4 0)) hR (by decide) rfl d_R_effect_132 he (by show tn (P 4 0) < 40; first | omega | (have h9_ := he9 (by assumption); omega)) (fun M hR => ?_)
                    refine g_aload_n d_R_effect_133 rfl ?_
                    refine g_dup d_R_effect_134 ?_
                    refine r_geti 4 hR (by decide) rfl fl_R_138 rfl d_R_effect_135 ?_
                    refine g_dup_x1 d_R_effect_138 rfl (cat_rf _) ?_
                    refine g_iconst (v := 1) d_R_effect_139 (by decide) ?_
                    refine g_iadd d_R_effect_140 ?_
                    refine r_puti 4 hR (by decide) rfl fl_R_138 (Or.inr (fun r h => by cases h; rfl)) rfl d_R_effect_141 (fun M hR => ?_)
                    exact g_ireturn d_R_effect_144 rfl ⟨by unfold a_R_effect; rw [if_neg (show ¬ (a_R_in kind 0 25 = 0) from c_13), if_pos (show a_R_needs kind ≤ 0 from c_18), if_neg (show ¬ (a_R_needs kind ≤ 1) from c_32), if_neg (show ¬ (a_R_isEffect P b = 0) from c_40), if_neg (show ¬ (a_R_needs kind ≤ 2) from c_46), if_neg (show ¬ (a_R_isEffect P c = 0) from c_55), if_neg (show ¬ (a_R_in kind 19 24 = 0) from c_66), if_neg (show ¬ (a_R_in a 0 3 = 0) from c_75), if_neg (show ¬ (P 4 0 = 40) from c_86)]; try rfl, by unfold p_R_effect; rw [if_neg (show ¬ (a_R_in kind 0 25 = 0) from c_13), if_pos (show a_R_needs kind ≤ 0 from c_18), if_neg (show ¬ (a_R_needs kind ≤ 1) from c_32), if_neg (show ¬ (a_R_isEffect P b = 0) from c_40), if_neg (show ¬ (a_R_needs kind ≤ 2) from c_46), if_neg (show ¬ (a_R_isEffect P c = 0) from c_55), if_neg (show ¬ (a_R_in kind 19 24 = 0) from c_66), if_neg (show ¬ (a_R_in a 0 3 = 0) from c_75), if_neg (show ¬ (P 4 0 = 40) from c_86)]; exact hR⟩
                  · skip
                    refine g_bipush (v := -2) d_R_effect_89 (by decide) ?_
                    exact g_ireturn d_R_effect_91 rfl ⟨by unfold a_R_effect; rw [if_neg (show ¬ (a_R_in kind 0 25 = 0) from c_13), if_pos (show a_R_needs kind ≤ 0 from c_18), if_neg (show ¬ (a_R_needs kind ≤ 1) from c_32), if_neg (show ¬ (a_R_isEffect P b = 0) from c_40), if_neg (show ¬ (a_R_needs kind ≤ 2) from c_46), if_neg (show ¬ (a_R_isEffect P c = 0) from c_55), if_neg (show ¬ (a_R_in kind 19 24 = 0) from c_66), if_neg (show ¬ (a_R_in a 0 3 = 0) from c_75), if_pos (show P 4 0 = 40 from c_86)]; try rfl, by unfold p_R_effect; rw [if_neg (show ¬ (a_R_in kind 0 25 = 0) from c_13), if_pos (show a_R_needs kind ≤ 0 from c_18), if_neg (show ¬ (a_R_needs kind ≤ 1) from c_32), if_neg (show ¬ (a_R_isEffect P b = 0) from c_40), if_neg (show ¬ (a_R_needs kind ≤ 2) from c_46), if_neg (show ¬ (a_R_isEffect P c = 0) from c_55), if_neg (show ¬ (a_R_in kind 19 24 = 0) from c_66), if_neg (show ¬ (a_R_in a 0 3 = 0) from c_75), if_pos (show P 4 0 = 40 from c_86)]; exact hR⟩
                · skip
                  refine g_iconst (v := -1) d_R_effect_78 (by decide) ?_
                  exact g_ireturn d_R_effect_79 rfl ⟨by unfold a_R_effect; rw [if_neg (show ¬ (a_R_in kind 0 25 = 0) from c_13), if_pos (show a_R_needs kind ≤ 0 from c_18), if_neg (show ¬ (a_R_needs kind ≤ 1) from c_32), if_neg (show ¬ (a_R_isEffect P b = 0) from c_40), if_neg (show ¬ (a_R_needs kind ≤ 2) from c_46), if_neg (show ¬ (a_R_isEffect P c = 0) from c_55), if_neg (show ¬ (a_R_in kind 19 24 = 0) from c_66), if_pos (show a_R_in a 0 3 = 0 from c_75)]; try rfl, by unfold p_R_effect; rw [if_neg (show ¬ (a_R_in kind 0 25 = 0) from c_13), if_pos (show a_R_needs kind ≤ 0 from c_18), if_neg (show ¬ (a_R_needs kind ≤ 1) from c_32), if_neg (show ¬ (a_R_isEffect P b = 0) from c_40), if_neg (show ¬ (a_R_needs kind ≤ 2) from c_46), if_neg (show ¬ (a_R_isEffect P c = 0) from c_55), if_neg (show ¬ (a_R_in kind 19 24 = 0) from c_66), if_pos (show a_R_in a 0 3 = 0 from c_75)]; exact hR⟩
    · skip
      refine g_aload_n d_R_effect_21 rfl ?_
      refine g_iload_n d_R_effect_22 rfl ?_
      refine r_call [.int (a)] hR cw_R_149 cv_R_isEffect d_R_effect_23 rfl rfl ⟨by simp, by simp⟩ (by decide) (c_R_isEffect _ a) (fun M hR => ?_)
      refine g_if_eq 78 d_R_effect_26 (by decide) (fun c_26 => ?_) (fun c_26 => ?_)
      · skip
        refine g_iconst (v := -1) d_R_effect_78 (by decide) ?_
        exact g_ireturn d_R_effect_79 rfl ⟨by unfold a_R_effect; rw [if_neg (show ¬ (a_R_in kind 0 25 = 0) from c_13), if_neg (show ¬ (a_R_needs kind ≤ 0) from c_18), if_pos (show a_R_isEffect P a = 0 from c_26)]; try rfl, by unfold p_R_effect; rw [if_neg (show ¬ (a_R_in kind 0 25 = 0) from c_13), if_neg (show ¬ (a_R_needs kind ≤ 0) from c_18), if_pos (show a_R_isEffect P a = 0 from c_26)]; exact hR⟩
      · skip
        refine g_iload d_R_effect_29 rfl ?_
        refine g_iconst (v := 1) d_R_effect_31 (by decide) ?_
        refine g_icmp_le 43 d_R_effect_32 (by decide) (fun c_32 => ?_) (fun c_32 => ?_)
        · skip
          refine g_iload d_R_effect_43 rfl ?_
          refine g_iconst (v := 2) d_R_effect_45 (by decide) ?_
          refine g_icmp_le 58 d_R_effect_46 (by decide) (fun c_46 => ?_) (fun c_46 => ?_)
          · skip
            refine g_iload_n d_R_effect_58 rfl ?_
            refine g_bipush (v := 19) d_R_effect_59 (by decide) ?_
            refine g_bipush (v := 24) d_R_effect_61 (by decide) ?_
            refine g_callS [.int (kind), .int (19), .int (24)] cw_R_141 cs_R_in d_R_effect_63 rfl rfl ⟨by simp, by simp⟩ (by decide) (Nat.le_refl _) (Nat.le_refl _) (fun _ _ h => h) (c_R_in kind 19 24 _ _) (fun r_ M_ h_ _ => ?_)
            obtain ⟨rfl, rfl⟩ := h_
            refine g_if_eq 80 d_R_effect_66 (by decide) (fun c_66 => ?_) (fun c_66 => ?_)
            · skip
              refine g_aload_n d_R_effect_80 rfl ?_
              refine r_geti 4 hR (by decide) rfl fl_R_138 rfl d_R_effect_81 ?_
              refine g_bipush (v := 40) d_R_effect_84 (by decide) ?_
              refine g_icmp_ne 92 d_R_effect_86 (by decide) (fun c_86 => ?_) (fun c_86 => ?_)
              · skip
                refine g_aload_n d_R_effect_92 rfl ?_
                refine r_arr 0 hR (by decide) (by decide) fl_R_7 rfl d_R_effect_93 ?_
                refine g_aload_n d_R_effect_96 rfl ?_
                refine r_geti 4 hR (by decide) rfl fl_R_138 rfl d_R_effect_97 ?_
                refine g_iload_n d_R_effect_100 rfl ?_
                refine r_iast 0 (tn (P 4 0)) hR (by decide) rfl d_R_effect_101 he (by show tn (P 4 0) < 40; first | omega | (have h9_ := he9 (by assumption); omega)) (fun M hR => ?_)
                refine g_aload_n d_R_effect_102 rfl ?_
                refine r_arr 1 hR (by decide) (by decide) fl_R_13 rfl d_R_effect_103 ?_
                refine g_aload_n d_R_effect_106 rfl ?_
                refine r_geti 4 hR (by decide) rfl fl_R_138 rfl d_R_effect_107 ?_
                refine g_iload_n d_R_effect_110 rfl ?_
                refine r_iast 1 (tn (P 4 0)) hR (by decide) rfl d_R_effect_111 he (by show tn (P 4 0) < 40; first | omega | (have h9_ := he9 (by assumption); omega)) (fun M hR => ?_)
                refine g_aload_n d_R_effect_112 rfl ?_
                refine r_arr 2 hR (by decide) (by decide) fl_R_16 rfl d_R_effect_113 ?_
                refine g_aload_n d_R_effect_116 rfl ?_
                refine r_geti 4 hR (by decide) rfl fl_R_138 rfl d_R_effect_117 ?_
                refine g_iload_n d_R_effect_120 rfl ?_
                refine r_iast 2 (tn (P 4 0)) hR (by decide) rfl d_R_effect_121 he (by show tn (P 4 0) < 40; first | omega | (have h9_ := he9 (by assumption); omega)) (fun M hR => ?_)
                refine g_aload_n d_R_effect_122 rfl ?_
                refine r_arr 3 hR (by decide) (by decide) fl_R_19 rfl d_R_effect_123 ?_
                refine g_aload_n d_R_effect_126 rfl ?_
                refine r_geti 4 hR (by decide) rfl fl_R_138 rfl d_R_effect_127 ?_
                refine g_iload d_R_effect_130 rfl ?_
                refine r_iast 3 (tn (P 4 0)) hR (by decide) rfl d_R_effect_132 he (by show tn (P 4 0) < 40; first | omega | (have h9_ := he9 (by assumption); omega)) (fun M hR => ?_)
                refine g_aload_n d_R_effect_133 rfl ?_
                refine g_dup d_R_effect_134 ?_
                refine r_geti 4 hR (by decide) rfl fl_R_138 rfl d_R_effect_135 ?_
                refine g_dup_x1 d_R_effect_138 rfl (cat_rf _) ?_
                refine g_iconst (v := 1) d_R_effect_139 (by decide) ?_
                refine g_iadd d_R_effect_140 ?_
                refine r_puti 4 hR (by decide) rfl fl_R_138 (Or.inr (fun r h => by cases h; rfl)) rfl d_R_effect_141 (fun M hR => ?_)
                exact g_ireturn d_R_effect_144 rfl ⟨by unfold a_R_effect; rw [if_neg (show ¬ (a_R_in kind 0 25 = 0) from c_13), if_neg (show ¬ (a_R_needs kind ≤ 0) from c_18), if_neg (show ¬ (a_R_isEffect P a = 0) from c_26), if_pos (show a_R_needs kind ≤ 1 from c_32), if_pos (show a_R_needs kind ≤ 2 from c_46), if_pos (show a_R_in kind 19 24 = 0 from c_66), if_neg (show ¬ (P 4 0 = 40) from c_86)]; try rfl, by unfold p_R_effect; rw [if_neg (show ¬ (a_R_in kind 0 25 = 0) from c_13), if_neg (show ¬ (a_R_needs kind ≤ 0) from c_18), if_neg (show ¬ (a_R_isEffect P a = 0) from c_26), if_pos (show a_R_needs kind ≤ 1 from c_32), if_pos (show a_R_needs kind ≤ 2 from c_46), if_pos (show a_R_in kind 19 24 = 0 from c_66), if_neg (show ¬ (P 4 0 = 40) from c_86)]; exact hR⟩
              · skip
                refine g_bipush (v := -2) d_R_effect_89 (by decide) ?_
                exact g_ireturn d_R_effect_91 rfl ⟨by unfold a_R_effect; rw [if_neg (show ¬ (a_R_in kind 0 25 = 0) from c_13), if_neg (show ¬ (a_R_needs kind ≤ 0) from c_18), if_neg (show ¬ (a_R_isEffect P a = 0) from c_26), if_pos (show a_R_needs kind ≤ 1 from c_32), if_pos (show a_R_needs kind ≤ 2 from c_46), if_pos (show a_R_in kind 19 24 = 0 from c_66), if_pos (show P 4 0 = 40 from c_86)]; try rfl, by unfold p_R_effect; rw [if_neg (show ¬ (a_R_in kind 0 25 = 0) from c_13), if_neg (show ¬ (a_R_needs kind ≤ 0) from c_18), if_neg (show ¬ (a_R_isEffect P a = 0) from c_26), if_pos (show a_R_needs kind ≤ 1 from c_32), if_pos (show a_R_needs kind ≤ 2 from c_46), if_pos (show a_R_in kind 19 24 = 0 from c_66), if_pos (show P 4 0 = 40 from c_86)]; exact hR⟩
            · skip
              refine g_iload_n d_R_effect_69 rfl ?_
              refine g_iconst (v := 0) d_R_effect_70 (by decide) ?_
              refine g_iconst (v := 3) d_R_effect_71 (by decide) ?_
              refine g_callS [.int (a), .int (0), .int (3)] cw_R_141 cs_R_in d_R_effect_72 rfl rfl ⟨by simp, by simp⟩ (by decide) (Nat.le_refl _) (Nat.le_refl _) (fun _ _ h => h) (c_R_in a 0 3 _ _) (fun r_ M_ h_ _ => ?_)
              obtain ⟨rfl, rfl⟩ := h_
              refine g_if_ne 80 d_R_effect_75 (by decide) (fun c_75 => ?_) (fun c_75 => ?_)
              · skip
                refine g_aload_n d_R_effect_80 rfl ?_
                refine r_geti 4 hR (by decide) rfl fl_R_138 rfl d_R_effect_81 ?_
                refine g_bipush (v := 40) d_R_effect_84 (by decide) ?_
                refine g_icmp_ne 92 d_R_effect_86 (by decide) (fun c_86 => ?_) (fun c_86 => ?_)
                · skip
                  refine g_aload_n d_R_effect_92 rfl ?_
                  refine r_arr 0 hR (by decide) (by decide) fl_R_7 rfl d_R_effect_93 ?_
                  refine g_aload_n d_R_effect_96 rfl ?_
                  refine r_geti 4 hR (by decide) rfl fl_R_138 rfl d_R_effect_97 ?_
                  refine g_iload_n d_R_effect_100 rfl ?_
                  refine r_iast 0 (tn (P 4 0)) hR (by decide) rfl d_R_effect_101 he (by show tn (P 4 0) < 40; first | omega | (have h9_ := he9 (by assumption); omega)) (fun M hR => ?_)
                  refine g_aload_n d_R_effect_102 rfl ?_
                  refine r_arr 1 hR (by decide) (by decide) fl_R_13 rfl d_R_effect_103 ?_
                  refine g_aload_n d_R_effect_106 rfl ?_
                  refine r_geti 4 hR (by decide) rfl fl_R_138 rfl d_R_effect_107 ?_
                  refine g_iload_n d_R_effect_110 rfl ?_
                  refine r_iast 1 (tn (P 4 0)) hR (by decide) rfl d_R_effect_111 he (by show tn (P 4 0) < 40; first | omega | (have h9_ := he9 (by assumption); omega)) (fun M hR => ?_)
                  refine g_aload_n d_R_effect_112 rfl ?_
                  refine r_arr 2 hR (by decide) (by decide) fl_R_16 rfl d_R_effect_113 ?_
                  refine g_aload_n d_R_effect_116 rfl ?_
                  refine r_geti 4 hR (by decide) rfl fl_R_138 rfl d_R_effect_117 ?_
                  refine g_iload_n d_R_effect_120 rfl ?_
                  refine r_iast 2 (tn (P 4 0)) hR (by decide) rfl d_R_effect_121 he (by show tn (P 4 0) < 40; first | omega | (have h9_ := he9 (by assumption); omega)) (fun M hR => ?_)
                  refine g_aload_n d_R_effect_122 rfl ?_
                  refine r_arr 3 hR (by decide) (by decide) fl_R_19 rfl d_R_effect_123 ?_
                  refine g_aload_n d_R_effect_126 rfl ?_
                  refine r_geti 4 hR (by decide) rfl fl_R_138 rfl d_R_effect_127 ?_
                  refine g_iload d_R_effect_130 rfl ?_
                  refine r_iast 3 (tn (P 4 0)) hR (by decide) rfl d_R_effect_132 he (by show tn (P 4 0) < 40; first | omega | (have h9_ := he9 (by assumption); omega)) (fun M hR => ?_)
                  refine g_aload_n d_R_effect_133 rfl ?_
                  refine g_dup d_R_effect_134 ?_
                  refine r_geti 4 hR (by decide) rfl fl_R_138 rfl d_R_effect_135 ?_
                  refine g_dup_x1 d_R_effect_138 rfl (cat_rf _) ?_
                  refine g_iconst (v := 1) d_R_effect_139 (by decide) ?_
                  refine g_iadd d_R_effect_140 ?_
                  refine r_puti 4 hR (by decide) rfl fl_R_138 (Or.inr (fun r h => by cases h; rfl)) rfl d_R_effect_141 (fun M hR => ?_)
                  exact g_ireturn d_R_effect_144 rfl ⟨by unfold a_R_effect; rw [if_neg (show ¬ (a_R_in kind 0 25 = 0) from c_13), if_neg (show ¬ (a_R_needs kind ≤ 0) from c_18), if_neg (show ¬ (a_R_isEffect P a = 0) from c_26), if_pos (show a_R_needs kind ≤ 1 from c_32), if_pos (show a_R_needs kind ≤ 2 from c_46), if_neg (show ¬ (a_R_in kind 19 24 = 0) from c_66), if_neg (show ¬ (a_R_in a 0 3 = 0) from c_75), if_neg (show ¬ (P 4 0 = 40) from c_86)]; try rfl, by unfold p_R_effect; rw [if_neg (show ¬ (a_R_in kind 0 25 = 0) from c_13), if_neg (show ¬ (a_R_needs kind ≤ 0) from c_18), if_neg (show ¬ (a_R_isEffect P a = 0) from c_26), if_pos (show a_R_needs kind ≤ 1 from c_32), if_pos (show a_R_needs kind ≤ 2 from c_46), if_neg (show ¬ (a_R_in kind 19 24 = 0) from c_66), if_neg (show ¬ (a_R_in a 0 3 = 0) from c_75), if_neg (show ¬ (P 4 0 = 40) from c_86)]; exact hR⟩
                · skip
                  refine g_bipush (v := -2) d_R_effect_89 (by decide) ?_
                  exact g_ireturn d_R_effect_91 rfl ⟨by unfold a_R_effect; rw [if_neg (show ¬ (a_R_in kind 0 25 = 0) from c_13), if_neg (show ¬ (a_R_needs kind ≤ 0) from c_18), if_neg (show ¬ (a_R_isEffect P a = 0) from c_26), if_pos (show a_R_needs kind ≤ 1 from c_32), if_pos (show a_R_needs kind ≤ 2 from c_46), if_neg (show ¬ (a_R_in kind 19 24 = 0) from c_66), if_neg (show ¬ (a_R_in a 0 3 = 0) from c_75), if_pos (show P 4 0 = 40 from c_86)]; try rfl, by unfold p_R_effect; rw [if_neg (show ¬ (a_R_in kind 0 25 = 0) from c_13), if_neg (show ¬ (a_R_needs kind ≤ 0) from c_18), if_neg (show ¬ (a_R_isEffect P a = 0) from c_26), if_pos (show a_R_needs kind ≤ 1 from c_32), if_pos (show a_R_needs kind ≤ 2 from c_46), if_neg (show ¬ (a_R_in kind 19 24 = 0) from c_66), if_neg (show ¬ (a_R_in a 0 3 = 0) from c_75), if_pos (show P 4 0 = 40 from c_86)]; exact hR⟩
              · skip
                refine g_iconst (v := -1) d_R_effect_78 (by decide) ?_
                exact g_ireturn d_R_effect_79 rfl ⟨by unfold a_R_effect; rw [if_neg (show ¬ (a_R_in kind 0 25 = 0) from c_13), if_neg (show ¬ (a_R_needs kind ≤ 0) from c_18), if_neg (show ¬ (a_R_isEffect P a = 0) from c_26), if_pos (show a_R_needs kind ≤ 1 from c_32), if_pos (show a_R_needs kind ≤ 2 from c_46), if_neg (show ¬ (a_R_in kind 19 24 = 0) from c_66), if_pos (show a_R_in a 0 3 = 0 from c_75)]; try rfl, by unfold p_R_effect; rw [if_neg (show ¬ (a_R_in kind 0 25 = 0) from c_13), if_neg (show ¬ (a_R_needs kind ≤ 0) from c_18), if_neg (show ¬ (a_R_isEffect P a = 0) from c_26), if_pos (show a_R_needs kind ≤ 1 from c_32), if_pos (show a_R_needs kind ≤ 2 from c_46), if_neg (show ¬ (a_R_in kind 19 24 = 0) from c_66), if_pos (show a_R_in a 0 3 = 0 from c_75)]; exact hR⟩
          · skip
            refine g_aload_n d_R_effect_49 rfl ?_
            refine g_iload d_R_effect_50 rfl ?_
            refine r_call [.int (c)] hR cw_R_149 cv_R_isEffect d_R_effect_52 rfl rfl ⟨by simp, by simp⟩ (by decide) (c_R_isEffect _ c) (fun M hR => ?_)
            refine g_if_eq 78 d_R_effect_55 (by decide) (fun c_55 => ?_) (fun c_55 => ?_)
            · skip
              refine g_iconst (v := -1) d_R_effect_78 (by decide) ?_
              exact g_ireturn d_R_effect_79 rfl ⟨by unfold a_R_effect; rw [if_neg (show ¬ (a_R_in kind 0 25 = 0) from c_13), if_neg (show ¬ (a_R_needs kind ≤ 0) from c_18), if_neg (show ¬ (a_R_isEffect P a = 0) from c_26), if_pos (show a_R_needs kind ≤ 1 from c_32), if_neg (show ¬ (a_R_needs kind ≤ 2) from c_46), if_pos (show a_R_isEffect P c = 0 from c_55)]; try rfl, by unfold p_R_effect; rw [if_neg (show ¬ (a_R_in kind 0 25 = 0) from c_13), if_neg (show ¬ (a_R_needs kind ≤ 0) from c_18), if_neg (show ¬ (a_R_isEffect P a = 0) from c_26), if_pos (show a_R_needs kind ≤ 1 from c_32), if_neg (show ¬ (a_R_needs kind ≤ 2) from c_46), if_pos (show a_R_isEffect P c = 0 from c_55)]; exact hR⟩
            · skip
              refine g_iload_n d_R_effect_58 rfl ?_
              refine g_bipush (v := 19) d_R_effect_59 (by decide) ?_
              refine g_bipush (v := 24) d_R_effect_61 (by decide) ?_
              refine g_callS [.int (kind), .int (19), .int (24)] cw_R_141 cs_R_in d_R_effect_63 rfl rfl ⟨by simp, by simp⟩ (by decide) (Nat.le_refl _) (Nat.le_refl _) (fun _ _ h => h) (c_R_in kind 19 24 _ _) (fun r_ M_ h_ _ => ?_)
              obtain ⟨rfl, rfl⟩ := h_
              refine g_if_eq 80 d_R_effect_66 (by decide) (fun c_66 => ?_) (fun c_66 => ?_)
              · skip
                refine g_aload_n d_R_effect_80 rfl ?_
                refine r_geti 4 hR (by decide) rfl fl_R_138 rfl d_R_effect_81 ?_
                refine g_bipush (v := 40) d_R_effect_84 (by decide) ?_
                refine g_icmp_ne 92 d_R_effect_86 (by decide) (fun c_86 => ?_) (fun c_86 => ?_)
                · skip
                  refine g_aload_n d_R_effect_92 rfl ?_
                  refine r_arr 0 hR (by decide) (by decide) fl_R_7 rfl d_R_effect_93 ?_
                  refine g_aload_n d_R_effect_96 rfl ?_
                  refine r_geti 4 hR (by decide) rfl fl_R_138 rfl d_R_effect_97 ?_
                  refine g_iload_n d_R_effect_100 rfl ?_
                  refine r_iast 0 (tn (P 4 0)) hR (by decide) rfl d_R_effect_101 he (by show tn (P 4 0) < 40; first | omega | (have h9_ := he9 (by assumption); omega)) (fun M hR => ?_)
                  refine g_aload_n d_R_effect_102 rfl ?_
                  refine r_arr 1 hR (by decide) (by decide) fl_R_13 rfl d_R_effect_103 ?_
                  refine g_aload_n d_R_effect_106 rfl ?_
                  refine r_geti 4 hR (by decide) rfl fl_R_138 rfl d_R_effect_107 ?_
                  refine g_iload_n d_R_effect_110 rfl ?_
                  refine r_iast 1 (tn (P 4 0)) hR (by decide) rfl d_R_effect_111 he (by show tn (P 4 0) < 40; first | omega | (have h9_ := he9 (by assumption); omega)) (fun M hR => ?_)
                  refine g_aload_n d_R_effect_112 rfl ?_
                  refine r_arr 2 hR (by decide) (by decide) fl_R_16 rfl d_R_effect_113 ?_
                  refine g_aload_n d_R_effect_116 rfl ?_
                  refine r_geti 4 hR (by decide) rfl fl_R_138 rfl d_R_effect_117 ?_
                  refine g_iload_n d_R_effect_120 rfl ?_
                  refine r_iast 2 (tn (P 4 0)) hR (by decide) rfl d_R_effect_121 he (by show tn (P 4 0) < 40; first | omega | (have h9_ := he9 (by assumption); omega)) (fun M hR => ?_)
                  refine g_aload_n d_R_effect_122 rfl ?_
                  refine r_arr 3 hR (by decide) (by decide) fl_R_19 rfl d_R_effect_123 ?_
                  refine g_aload_n d_R_effect_126 rfl ?_
                  refine r_geti 4 hR (by decide) rfl fl_R_138 rfl d_R_effect_127 ?_
                  refine g_iload d_R_effect_130 rfl ?_
                  refine r_iast 3 (tn (P 4 0)) hR (by decide) rfl d_R_effect_132 he (by show tn (P 4 0) < 40; first | omega | (have h9_ := he9 (by assumption); omega)) (fun M hR => ?_)
                  refine g_aload_n d_R_effect_133 rfl ?_
                  refine g_dup d_R_effect_134 ?_
                  refine r_geti 4 hR (by decide) rfl fl_R_138 rfl d_R_effect_135 ?_
                  refine g_dup_x1 d_R_effect_138 rfl (cat_rf _) ?_
                  refine g_iconst (v := 1) d_R_effect_139 (by decide) ?_
                  refine g_iadd d_R_effect_140 ?_
                  refine r_puti 4 hR (by decide) rfl fl_R_138 (Or.inr (fun r h => by cases h; rfl)) rfl d_R_effect_141 (fun M hR => ?_)
                  exact g_ireturn d_R_effect_144 rfl ⟨by unfold a_R_effect; rw [if_neg (show ¬ (a_R_in kind 0 25 = 0) from c_13), if_neg (show ¬ (a_R_needs kind ≤ 0) from c_18), if_neg (show ¬ (a_R_isEffect P a = 0) from c_26), if_pos (show a_R_needs kind ≤ 1 from c_32), if_neg (show ¬ (a_R_needs kind ≤ 2) from c_46), if_neg (show ¬ (a_R_isEffect P c = 0) from c_55), if_pos (show a_R_in kind 19 24 = 0 from c_66), if_neg (show ¬ (P 4 0 = 40) from c_86)]; try rfl, by unfold p_R_effect; rw [if_neg (show ¬ (a_R_in kind 0 25 = 0) from c_13), if_neg (show ¬ (a_R_needs kind ≤ 0) from c_18), if_neg (show ¬ (a_R_isEffect P a = 0) from c_26), if_pos (show a_R_needs kind ≤ 1 from c_32), if_neg (show ¬ (a_R_needs kind ≤ 2) from c_46), if_neg (show ¬ (a_R_isEffect P c = 0) from c_55), if_pos (show a_R_in kind 19 24 = 0 from c_66), if_neg (show ¬ (P 4 0 = 40) from c_86)]; exact hR⟩
                · skip
                  refine g_bipush (v := -2) d_R_effect_89 (by decide) ?_
                  exact g_ireturn d_R_effect_91 rfl ⟨by unfold a_R_effect; rw [if_neg (show ¬ (a_R_in kind 0 25 = 0) from c_13), if_neg (show ¬ (a_R_needs kind ≤ 0) from c_18), if_neg (show ¬ (a_R_isEffect P a = 0) from c_26), if_pos (show a_R_needs kind ≤ 1 from c_32), if_neg (show ¬ (a_R_needs kind ≤ 2) from c_46), if_neg (show ¬ (a_R_isEffect P c = 0) from c_55), if_pos (show a_R_in kind 19 24 = 0 from c_66), if_pos (show P 4 0 = 40 from c_86)]; try rfl, by unfold p_R_effect; rw [if_neg (show ¬ (a_R_in kind 0 25 = 0) from c_13), if_neg (show ¬ (a_R_needs kind ≤ 0) from c_18), if_neg (show ¬ (a_R_isEffect P a = 0) from c_26), if_pos (show a_R_needs kind ≤ 1 from c_32), if_neg (show ¬ (a_R_needs kind ≤ 2) from c_46), if_neg (show ¬ (a_R_isEffect P c = 0) from c_55), if_pos (show a_R_in kind 19 24 = 0 from c_66), if_pos (show P 4 0 = 40 from c_86)]; exact hR⟩
              · skip
                refine g_iload_n d_R_effect_69 rfl ?_
                refine g_iconst (v := 0) d_R_effect_70 (by decide) ?_
                refine g_iconst (v := 3) d_R_effect_71 (by decide) ?_
                refine g_callS [.int (a), .int (0), .int (3)] cw_R_141 cs_R_in d_R_effect_72 rfl rfl ⟨by simp, by simp⟩ (by decide) (Nat.le_refl _) (Nat.le_refl _) (fun _ _ h => h) (c_R_in a 0 3 _ _) (fun r_ M_ h_ _ => ?_)
                obtain ⟨rfl, rfl⟩ := h_
                refine g_if_ne 80 d_R_effect_75 (by decide) (fun c_75 => ?_) (fun c_75 => ?_)
                · skip
                  refine g_aload_n d_R_effect_80 rfl ?_
                  refine r_geti 4 hR (by decide) rfl fl_R_138 rfl d_R_effect_81 ?_
                  refine g_bipush (v := 40) d_R_effect_84 (by decide) ?_
                  refine g_icmp_ne 92 d_R_effect_86 (by decide) (fun c_86 => ?_) (fun c_86 => ?_)
                  · skip
                    refine g_aload_n d_R_effect_92 rfl ?_
                    refine r_arr 0 hR (by decide) (by decide) fl_R_7 rfl d_R_effect_93 ?_
                    refine g_aload_n d_R_effect_96 rfl ?_
                    refine r_geti 4 hR (by decide) rfl fl_R_138 rfl d_R_effect_97 ?_
                    refine g_iload_n d_R_effect_100 rfl ?_
                    refine r_iast 0 (tn (P 4 0)) hR (by decide) rfl d_R_effect_101 he (by show tn (P 4 0) < 40; first | omega | (have h9_ := he9 (by assumption); omega)) (fun M hR => ?_)
                    refine g_aload_n d_R_effect_102 rfl ?_
                    refine r_arr 1 hR (by decide) (by decide) fl_R_13 rfl d_R_effect_103 ?_
                    refine g_aload_n d_R_effect_106 rfl ?_
                    refine r_geti 4 hR (by decide) rfl fl_R_138 rfl d_R_effect_107 ?_
                    refine g_iload_n d_R_effect_110 rfl ?_
                    refine r_iast 1 (tn (P 4 0)) hR (by decide) rfl d_R_effect_111 he (by show tn (P 4 0) < 40; first | omega | (have h9_ := he9 (by assumption); omega)) (fun M hR => ?_)
                    refine g_aload_n d_R_effect_112 rfl ?_
                    refine r_arr 2 hR (by decide) (by decide) fl_R_16 rfl d_R_effect_113 ?_
                    refine g_aload_n d_R_effect_116 rfl ?_
                    refine r_geti 4 hR (by decide) rfl fl_R_138 rfl d_R_effect_117 ?_
                    refine g_iload_n d_R_effect_120 rfl ?_
                    refine r_iast 2 (tn (P 4 0)) hR (by decide) rfl d_R_effect_121 he (by show tn (P 4 0) < 40; first | omega | (have h9_ := he9 (by assumption); omega)) (fun M hR => ?_)
                    refine g_aload_n d_R_effect_122 rfl ?_
                    refine r_arr 3 hR (by decide) (by decide) fl_R_19 rfl d_R_effect_123 ?_
                    refine g_aload_n d_R_effect_126 rfl ?_
                    refine r_geti 4 hR (by decide) rfl fl_R_138 rfl d_R_effect_127 ?_
                    refine g_iload d_R_effect_130 rfl ?_
                    refine r_iast 3 (tn (P 4 0)) hR (by decide) rfl d_R_effect_132 he (by show tn (P 4 0) < 40; first | omega | (have h9_ := he9 (by assumption); omega)) (fun M hR => ?_)
                    refine g_aload_n d_R_effect_133 rfl ?_
                    refine g_dup d_R_effect_134 ?_
                    refine r_geti 4 hR (by decide) rfl fl_R_138 rfl d_R_effect_135 ?_
                    refine g_dup_x1 d_R_effect_138 rfl (cat_rf _) ?_
                    refine g_iconst (v := 1) d_R_effect_139 (by decide) ?_
                    refine g_iadd d_R_effect_140 ?_
                    refine r_puti 4 hR (by decide) rfl fl_R_138 (Or.inr (fun r h => by cases h; rfl)) rfl d_R_effect_141 (fun M hR => ?_)
                    exact g_ireturn d_R_effect_144 rfl ⟨by unfold a_R_effect; rw [if_neg (show ¬ (a_R_in kind 0 25 = 0) from c_13), if_neg (show ¬ (a_R_needs kind ≤ 0) from c_18), if_neg (show ¬ (a_R_isEffect P a = 0) from c_26), if_pos (show a_R_needs kind ≤ 1 from c_32), if_neg (show ¬ (a_R_needs kind ≤ 2) from c_46), if_neg (show ¬ (a_R_isEffect P c = 0) from c_55), if_neg (show ¬ (a_R_in kind 19 24 = 0) from c_66), if_neg (show ¬ (a_R_in a 0 3 = 0) from c_75), if_neg (show ¬ (P 4 0 = 40) from c_86)]; try rfl, by unfold p_R_effect; rw [if_neg (show ¬ (a_R_in kind 0 25 = 0) from c_13), if_neg (show ¬ (a_R_needs kind ≤ 0) from c_18), if_neg (show ¬ (a_R_isEffect P a = 0) from c_26), if_pos (show a_R_needs kind ≤ 1 from c_32), if_neg (show ¬ (a_R_needs kind ≤ 2) from c_46), if_neg (show ¬ (a_R_isEffect P c = 0) from c_55), if_neg (show ¬ (a_R_in kind 19 24 = 0) from c_66), if_neg (show ¬ (a_R_in a 0 3 = 0) from c_75), if_neg (show ¬ (P 4 0 = 40) from c_86)]; exact hR⟩
                  · skip
                    refine g_bipush (v := -2) d_R_effect_89 (by decide) ?_
                    exact g_ireturn d_R_effect_91 rfl ⟨by unfold a_R_effect; rw [if_neg (show ¬ (a_R_in kind 0 25 = 0) from c_13), if_neg (show ¬ (a_R_needs kind ≤ 0) from c_18), if_neg (show ¬ (a_R_isEffect P a = 0) from c_26), if_pos (show a_R_needs kind ≤ 1 from c_32), if_neg (show ¬ (a_R_needs kind ≤ 2) from c_46), if_neg (show ¬ (a_R_isEffect P c = 0) from c_55), if_neg (show ¬ (a_R_in kind 19 24 = 0) from c_66), if_neg (show ¬ (a_R_in a 0 3 = 0) from c_75), if_pos (show P 4 0 = 40 from c_86)]; try rfl, by unfold p_R_effect; rw [if_neg (show ¬ (a_R_in kind 0 25 = 0) from c_13), if_neg (show ¬ (a_R_needs kind ≤ 0) from c_18), if_neg (show ¬ (a_R_isEffect P a = 0) from c_26), if_pos (show a_R_needs kind ≤ 1 from c_32), if_neg (show ¬ (a_R_needs kind ≤ 2) from c_46), if_neg (show ¬ (a_R_isEffect P c = 0) from c_55), if_neg (show ¬ (a_R_in kind 19 24 = 0) from c_66), if_neg (show ¬ (a_R_in a 0 3 = 0) from c_75), if_pos (show P 4 0 = 40 from c_86)]; exact hR⟩
                · skip
                  refine g_iconst (v := -1) d_R_effect_78 (by decide) ?_
                  exact g_ireturn d_R_effect_79 rfl ⟨by unfold a_R_effect; rw [if_neg (show ¬ (a_R_in kind 0 25 = 0) from c_13), if_neg (show ¬ (a_R_needs kind ≤ 0) from c_18), if_neg (show ¬ (a_R_isEffect P a = 0) from c_26), if_pos (show a_R_needs kind ≤ 1 from c_32), if_neg (show ¬ (a_R_needs kind ≤ 2) from c_46), if_neg (show ¬ (a_R_isEffect P c = 0) from c_55), if_neg (show ¬ (a_R_in kind 19 24 = 0) from c_66), if_pos (show a_R_in a 0 3 = 0 from c_75)]; try rfl, by unfold p_R_effect; rw [if_neg (show ¬ (a_R_in kind 0 25 = 0) from c_13), if_neg (show ¬ (a_R_needs kind ≤ 0) from c_18), if_neg (show ¬ (a_R_isEffect P a = 0) from c_26), if_pos (show a_R_needs kind ≤ 1 from c_32), if_neg (show ¬ (a_R_needs kind ≤ 2) from c_46), if_neg (show ¬ (a_R_isEffect P c = 0) from c_55), if_neg (show ¬ (a_R_in kind 19 24 = 0) from c_66), if_pos (show a_R_in a 0 3 = 0 from c_75)]; exact hR⟩
        · skip
          refine g_aload_n d_R_effect_35 rfl ?_
          refine g_iload_n d_R_effect_36 rfl ?_
          refine r_call [.int (b)] hR cw_R_149 cv_R_isEffect d_R_effect_37 rfl rfl ⟨by simp, by simp⟩ (by decide) (c_R_isEffect _ b) (fun M hR => ?_)
          refine g_if_eq 78 d_R_effect_40 (by decide) (fun c_40 => ?_) (fun c_40 => ?_)
          · skip
            refine g_iconst (v := -1) d_R_effect_78 (by decide) ?_
            exact g_ireturn d_R_effect_79 rfl ⟨by unfold a_R_effect; rw [if_neg (show ¬ (a_R_in kind 0 25 = 0) from c_13), if_neg (show ¬ (a_R_needs kind ≤ 0) from c_18), if_neg (show ¬ (a_R_isEffect P a = 0) from c_26), if_neg (show ¬ (a_R_needs kind ≤ 1) from c_32), if_pos (show a_R_isEffect P b = 0 from c_40)]; try rfl, by unfold p_R_effect; rw [if_neg (show ¬ (a_R_in kind 0 25 = 0) from c_13), if_neg (show ¬ (a_R_needs kind ≤ 0) from c_18), if_neg (show ¬ (a_R_isEffect P a = 0) from c_26), if_neg (show ¬ (a_R_needs kind ≤ 1) from c_32), if_pos (show a_R_isEffect P b = 0 from c_40)]; exact hR⟩
          · skip
            refine g_iload d_R_effect_43 rfl ?_
            refine g_iconst (v := 2) d_R_effect_45 (by decide) ?_
            refine g_icmp_le 58 d_R_effect_46 (by decide) (fun c_46 => ?_) (fun c_46 => ?_)
            · skip
              refine g_iload_n d_R_effect_58 rfl ?_
              refine g_bipush (v := 19) d_R_effect_59 (by decide) ?_
              refine g_bipush (v := 24) d_R_effect_61 (by decide) ?_
              refine g_callS [.int (kind), .int (19), .int (24)] cw_R_141 cs_R_in d_R_effect_63 rfl rfl ⟨by simp, by simp⟩ (by decide) (Nat.le_refl _) (Nat.le_refl _) (fun _ _ h => h) (c_R_in kind 19 24 _ _) (fun r_ M_ h_ _ => ?_)
              obtain ⟨rfl, rfl⟩ := h_
              refine g_if_eq 80 d_R_effect_66 (by decide) (fun c_66 => ?_) (fun c_66 => ?_)
              · skip
                refine g_aload_n d_R_effect_80 rfl ?_
                refine r_geti 4 hR (by decide) rfl fl_R_138 rfl d_R_effect_81 ?_
                refine g_bipush (v := 40) d_R_effect_84 (by decide) ?_
                refine g_icmp_ne 92 d_R_effect_86 (by decide) (fun c_86 => ?_) (fun c_86 => ?_)
                · skip
                  refine g_aload_n d_R_effect_92 rfl ?_
                  refine r_arr 0 hR (by decide) (by decide) fl_R_7 rfl d_R_effect_93 ?_
                  refine g_aload_n d_R_effect_96 rfl ?_
                  refine r_geti 4 hR (by decide) rfl fl_R_138 rfl d_R_effect_97 ?_
                  refine g_iload_n d_R_effect_100 rfl ?_
                  refine r_iast 0 (tn (P 4 0)) hR (by decide) rfl d_R_effect_101 he (by show tn (P 4 0) < 40; first | omega | (have h9_ := he9 (by assumption); omega)) (fun M hR => ?_)
                  refine g_aload_n d_R_effect_102 rfl ?_
                  refine r_arr 1 hR (by decide) (by decide) fl_R_13 rfl d_R_effect_103 ?_
                  refine g_aload_n d_R_effect_106 rfl ?_
                  refine r_geti 4 hR (by decide) rfl fl_R_138 rfl d_R_effect_107 ?_
                  refine g_iload_n d_R_effect_110 rfl ?_
                  refine r_iast 1 (tn (P 4 0)) hR (by decide) rfl d_R_effect_111 he (by show tn (P 4 0) < 40; first | omega | (have h9_ := he9 (by assumption); omega)) (fun M hR => ?_)
                  refine g_aload_n d_R_effect_112 rfl ?_
                  refine r_arr 2 hR (by decide) (by decide) fl_R_16 rfl d_R_effect_113 ?_
                  refine g_aload_n d_R_effect_116 rfl ?_
                  refine r_geti 4 hR (by decide) rfl fl_R_138 rfl d_R_effect_117 ?_
                  refine g_iload_n d_R_effect_120 rfl ?_
                  refine r_iast 2 (tn (P 4 0)) hR (by decide) rfl d_R_effect_121 he (by show tn (P 4 0) < 40; first | omega | (have h9_ := he9 (by assumption); omega)) (fun M hR => ?_)
                  refine g_aload_n d_R_effect_122 rfl ?_
                  refine r_arr 3 hR (by decide) (by decide) fl_R_19 rfl d_R_effect_123 ?_
                  refine g_aload_n d_R_effect_126 rfl ?_
                  refine r_geti 4 hR (by decide) rfl fl_R_138 rfl d_R_effect_127 ?_
                  refine g_iload d_R_effect_130 rfl ?_
                  refine r_iast 3 (tn (P 4 0)) hR (by decide) rfl d_R_effect_132 he (by show tn (P 4 0) < 40; first | omega | (have h9_ := he9 (by assumption); omega)) (fun M hR => ?_)
                  refine g_aload_n d_R_effect_133 rfl ?_
                  refine g_dup d_R_effect_134 ?_
                  refine r_geti 4 hR (by decide) rfl fl_R_138 rfl d_R_effect_135 ?_
                  refine g_dup_x1 d_R_effect_138 rfl (cat_rf _) ?_
                  refine g_iconst (v := 1) d_R_effect_139 (by decide) ?_
                  refine g_iadd d_R_effect_140 ?_
                  refine r_puti 4 hR (by decide) rfl fl_R_138 (Or.inr (fun r h => by cases h; rfl)) rfl d_R_effect_141 (fun M hR => ?_)
                  exact g_ireturn d_R_effect_144 rfl ⟨by unfold a_R_effect; rw [if_neg (show ¬ (a_R_in kind 0 25 = 0) from c_13), if_neg (show ¬ (a_R_needs kind ≤ 0) from c_18), if_neg (show ¬ (a_R_isEffect P a = 0) from c_26), if_neg (show ¬ (a_R_needs kind ≤ 1) from c_32), if_neg (show ¬ (a_R_isEffect P b = 0) from c_40), if_pos (show a_R_needs kind ≤ 2 from c_46), if_pos (show a_R_in kind 19 24 = 0 from c_66), if_neg (show ¬ (P 4 0 = 40) from c_86)]; try rfl, by unfold p_R_effect; rw [if_neg (show ¬ (a_R_in kind 0 25 = 0) from c_13), if_neg (show ¬ (a_R_needs kind ≤ 0) from c_18), if_neg (show ¬ (a_R_isEffect P a = 0) from c_26), if_neg (show ¬ (a_R_needs kind ≤ 1) from c_32), if_neg (show ¬ (a_R_isEffect P b = 0) from c_40), if_pos (show a_R_needs kind ≤ 2 from c_46), if_pos (show a_R_in kind 19 24 = 0 from c_66), if_neg (show ¬ (P 4 0 = 40) from c_86)]; exact hR⟩
                · skip
                  refine g_bipush (v := -2) d_R_effect_89 (by decide) ?_
                  exact g_ireturn d_R_effect_91 rfl ⟨by unfold a_R_effect; rw [if_neg (show ¬ (a_R_in kind 0 25 = 0) from c_13), if_neg (show ¬ (a_R_needs kind ≤ 0) from c_18), if_neg (show ¬ (a_R_isEffect P a = 0) from c_26), if_neg (show ¬ (a_R_needs kind ≤ 1) from c_32), if_neg (show ¬ (a_R_isEffect P b = 0) from c_40), if_pos (show a_R_needs kind ≤ 2 from c_46), if_pos (show a_R_in kind 19 24 = 0 from c_66), if_pos (show P 4 0 = 40 from c_86)]; try rfl, by unfold p_R_effect; rw [if_neg (show ¬ (a_R_in kind 0 25 = 0) from c_13), if_neg (show ¬ (a_R_needs kind ≤ 0) from c_18), if_neg (show ¬ (a_R_isEffect P a = 0) from c_26), if_neg (show ¬ (a_R_needs kind ≤ 1) from c_32), if_neg (show ¬ (a_R_isEffect P b = 0) from c_40), if_pos (show a_R_needs kind ≤ 2 from c_46), if_pos (show a_R_in kind 19 24 = 0 from c_66), if_pos (show P 4 0 = 40 from c_86)]; exact hR⟩
              · skip
                refine g_iload_n d_R_effect_69 rfl ?_
                refine g_iconst (v := 0) d_R_effect_70 (by decide) ?_
                refine g_iconst (v := 3) d_R_effect_71 (by decide) ?_
                refine g_callS [.int (a), .int (0), .int (3)] cw_R_141 cs_R_in d_R_effect_72 rfl rfl ⟨by simp, by simp⟩ (by decide) (Nat.le_refl _) (Nat.le_refl _) (fun _ _ h => h) (c_R_in a 0 3 _ _) (fun r_ M_ h_ _ => ?_)
                obtain ⟨rfl, rfl⟩ := h_
                refine g_if_ne 80 d_R_effect_75 (by decide) (fun c_75 => ?_) (fun c_75 => ?_)
                · skip
                  refine g_aload_n d_R_effect_80 rfl ?_
                  refine r_geti 4 hR (by decide) rfl fl_R_138 rfl d_R_effect_81 ?_
                  refine g_bipush (v := 40) d_R_effect_84 (by decide) ?_
                  refine g_icmp_ne 92 d_R_effect_86 (by decide) (fun c_86 => ?_) (fun c_86 => ?_)
                  · skip
                    refine g_aload_n d_R_effect_92 rfl ?_
                    refine r_arr 0 hR (by decide) (by decide) fl_R_7 rfl d_R_effect_93 ?_
                    refine g_aload_n d_R_effect_96 rfl ?_
                    refine r_geti 4 hR (by decide) rfl fl_R_138 rfl d_R_effect_97 ?_
                    refine g_iload_n d_R_effect_100 rfl ?_
                    refine r_iast 0 (tn (P 4 0)) hR (by decide) rfl d_R_effect_101 he (by show tn (P 4 0) < 40; first | omega | (have h9_ := he9 (by assumption); omega)) (fun M hR => ?_)
                    refine g_aload_n d_R_effect_102 rfl ?_
                    refine r_arr 1 hR (by decide) (by decide) fl_R_13 rfl d_R_effect_103 ?_
                    refine g_aload_n d_R_effect_106 rfl ?_
                    refine r_geti 4 hR (by decide) rfl fl_R_138 rfl d_R_effect_107 ?_
                    refine g_iload_n d_R_effect_110 rfl ?_
                    refine r_iast 1 (tn (P 4 0)) hR (by decide) rfl d_R_effect_111 he (by show tn (P 4 0) < 40; first | omega | (have h9_ := he9 (by assumption); omega)) (fun M hR => ?_)
                    refine g_aload_n d_R_effect_112 rfl ?_
                    refine r_arr 2 hR (by decide) (by decide) fl_R_16 rfl d_R_effect_113 ?_
                    refine g_aload_n d_R_effect_116 rfl ?_
                    refine r_geti 4 hR (by decide) rfl fl_R_138 rfl d_R_effect_117 ?_
                    refine g_iload_n d_R_effect_120 rfl ?_
                    refine r_iast 2 (tn (P 4 0)) hR (by decide) rfl d_R_effect_121 he (by show tn (P 4 0) < 40; first | omega | (have h9_ := he9 (by assumption); omega)) (fun M hR => ?_)
                    refine g_aload_n d_R_effect_122 rfl ?_
                    refine r_arr 3 hR (by decide) (by decide) fl_R_19 rfl d_R_effect_123 ?_
                    refine g_aload_n d_R_effect_126 rfl ?_
                    refine r_geti 4 hR (by decide) rfl fl_R_138 rfl d_R_effect_127 ?_
                    refine g_iload d_R_effect_130 rfl ?_
                    refine r_iast 3 (tn (P 4 0)) hR (by decide) rfl d_R_effect_132 he (by show tn (P 4 0) < 40; first | omega | (have h9_ := he9 (by assumption); omega)) (fun M hR => ?_)
                    refine g_aload_n d_R_effect_133 rfl ?_
                    refine g_dup d_R_effect_134 ?_
                    refine r_geti 4 hR (by decide) rfl fl_R_138 rfl d_R_effect_135 ?_
                    refine g_dup_x1 d_R_effect_138 rfl (cat_rf _) ?_
                    refine g_iconst (v := 1) d_R_effect_139 (by decide) ?_
                    refine g_iadd d_R_effect_140 ?_
                    refine r_puti 4 hR (by decide) rfl fl_R_138 (Or.inr (fun r h => by cases h; rfl)) rfl d_R_effect_141 (fun M hR => ?_)
                    exact g_ireturn d_R_effect_144 rfl ⟨by unfold a_R_effect; rw [if_neg (show ¬ (a_R_in kind 0 25 = 0) from c_13), if_neg (show ¬ (a_R_needs kind ≤ 0) from c_18), if_neg (show ¬ (a_R_isEffect P a = 0) from c_26), if_neg (show ¬ (a_R_needs kind ≤ 1) from c_32), if_neg (show ¬ (a_R_isEffect P b = 0) from c_40), if_pos (show a_R_needs kind ≤ 2 from c_46), if_neg (show ¬ (a_R_in kind 19 24 = 0) from c_66), if_neg (show ¬ (a_R_in a 0 3 = 0) from c_75), if_neg (show ¬ (P 4 0 = 40) from c_86)]; try rfl, by unfold p_R_effect; rw [if_neg (show ¬ (a_R_in kind 0 25 = 0) from c_13), if_neg (show ¬ (a_R_needs kind ≤ 0) from c_18), if_neg (show ¬ (a_R_isEffect P a = 0) from c_26), if_neg (show ¬ (a_R_needs kind ≤ 1) from c_32), if_neg (show ¬ (a_R_isEffect P b = 0) from c_40), if_pos (show a_R_needs kind ≤ 2 from c_46), if_neg (show ¬ (a_R_in kind 19 24 = 0) from c_66), if_neg (show ¬ (a_R_in a 0 3 = 0) from c_75), if_neg (show ¬ (P 4 0 = 40) from c_86)]; exact hR⟩
                  · skip
                    refine g_bipush (v := -2) d_R_effect_89 (by decide) ?_
                    exact g_ireturn d_R_effect_91 rfl ⟨by unfold a_R_effect; rw [if_neg (show ¬ (a_R_in kind 0 25 = 0) from c_13), if_neg (show ¬ (a_R_needs kind ≤ 0) from c_18), if_neg (show ¬ (a_R_isEffect P a = 0) from c_26), if_neg (show ¬ (a_R_needs kind ≤ 1) from c_32), if_neg (show ¬ (a_R_isEffect P b = 0) from c_40), if_pos (show a_R_needs kind ≤ 2 from c_46), if_neg (show ¬ (a_R_in kind 19 24 = 0) from c_66), if_neg (show ¬ (a_R_in a 0 3 = 0) from c_75), if_pos (show P 4 0 = 40 from c_86)]; try rfl, by unfold p_R_effect; rw [if_neg (show ¬ (a_R_in kind 0 25 = 0) from c_13), if_neg (show ¬ (a_R_needs kind ≤ 0) from c_18), if_neg (show ¬ (a_R_isEffect P a = 0) from c_26), if_neg (show ¬ (a_R_needs kind ≤ 1) from c_32), if_neg (show ¬ (a_R_isEffect P b = 0) from c_40), if_pos (show a_R_needs kind ≤ 2 from c_46), if_neg (show ¬ (a_R_in kind 19 24 = 0) from c_66), if_neg (show ¬ (a_R_in a 0 3 = 0) from c_75), if_pos (show P 4 0 = 40 from c_86)]; exact hR⟩
                · skip
                  refine g_iconst (v := -1) d_R_effect_78 (by decide) ?_
                  exact g_ireturn d_R_effect_79 rfl ⟨by unfold a_R_effect; rw [if_neg (show ¬ (a_R_in kind 0 25 = 0) from c_13), if_neg (show ¬ (a_R_needs kind ≤ 0) from c_18), if_neg (show ¬ (a_R_isEffect P a = 0) from c_26), if_neg (show ¬ (a_R_needs kind ≤ 1) from c_32), if_neg (show ¬ (a_R_isEffect P b = 0) from c_40), if_pos (show a_R_needs kind ≤ 2 from c_46), if_neg (show ¬ (a_R_in kind 19 24 = 0) from c_66), if_pos (show a_R_in a 0 3 = 0 from c_75)]; try rfl, by unfold p_R_effect; rw [if_neg (show ¬ (a_R_in kind 0 25 = 0) from c_13), if_neg (show ¬ (a_R_needs kind ≤ 0) from c_18), if_neg (show ¬ (a_R_isEffect P a = 0) from c_26), if_neg (show ¬ (a_R_needs kind ≤ 1) from c_32), if_neg (show ¬ (a_R_isEffect P b = 0) from c_40), if_pos (show a_R_needs kind ≤ 2 from c_46), if_neg (show ¬ (a_R_in kind 19 24 = 0) from c_66), if_pos (show a_R_in a 0 3 = 0 from c_75)]; exact hR⟩
            · skip
              refine g_aload_n d_R_effect_49 rfl ?_
              refine g_iload d_R_effect_50 rfl ?_
              refine r_call [.int (c)] hR cw_R_149 cv_R_isEffect d_R_effect_52 rfl rfl ⟨by simp, by simp⟩ (by decide) (c_R_isEffect _ c) (fun M hR => ?_)
              refine g_if_eq 78 d_R_effect_55 (by decide) (fun c_55 => ?_) (fun c_55 => ?_)
              · skip
                refine g_iconst (v := -1) d_R_effect_78 (by decide) ?_
                exact g_ireturn d_R_effect_79 rfl ⟨by unfold a_R_effect; rw [if_neg (show ¬ (a_R_in kind 0 25 = 0) from c_13), if_neg (show ¬ (a_R_needs kind ≤ 0) from c_18), if_neg (show ¬ (a_R_isEffect P a = 0) from c_26), if_neg (show ¬ (a_R_needs kind ≤ 1) from c_32), if_neg (show ¬ (a_R_isEffect P b = 0) from c_40), if_neg (show ¬ (a_R_needs kind ≤ 2) from c_46), if_pos (show a_R_isEffect P c = 0 from c_55)]; try rfl, by unfold p_R_effect; rw [if_neg (show ¬ (a_R_in kind 0 25 = 0) from c_13), if_neg (show ¬ (a_R_needs kind ≤ 0) from c_18), if_neg (show ¬ (a_R_isEffect P a = 0) from c_26), if_neg (show ¬ (a_R_needs kind ≤ 1) from c_32), if_neg (show ¬ (a_R_isEffect P b = 0) from c_40), if_neg (show ¬ (a_R_needs kind ≤ 2) from c_46), if_pos (show a_R_isEffect P c = 0 from c_55)]; exact hR⟩
              · skip
                refine g_iload_n d_R_effect_58 rfl ?_
                refine g_bipush (v := 19) d_R_effect_59 (by decide) ?_
                refine g_bipush (v := 24) d_R_effect_61 (by decide) ?_
                refine g_callS [.int (kind), .int (19), .int (24)] cw_R_141 cs_R_in d_R_effect_63 rfl rfl ⟨by simp, by simp⟩ (by decide) (Nat.le_refl _) (Nat.le_refl _) (fun _ _ h => h) (c_R_in kind 19 24 _ _) (fun r_ M_ h_ _ => ?_)
                obtain ⟨rfl, rfl⟩ := h_
                refine g_if_eq 80 d_R_effect_66 (by decide) (fun c_66 => ?_) (fun c_66 => ?_)
                · skip
                  refine g_aload_n d_R_effect_80 rfl ?_
                  refine r_geti 4 hR (by decide) rfl fl_R_138 rfl d_R_effect_81 ?_
                  refine g_bipush (v := 40) d_R_effect_84 (by decide) ?_
                  refine g_icmp_ne 92 d_R_effect_86 (by decide) (fun c_86 => ?_) (fun c_86 => ?_)
                  · skip
                    refine g_aload_n d_R_effect_92 rfl ?_
                    refine r_arr 0 hR (by decide) (by decide) fl_R_7 rfl d_R_effect_93 ?_
                    refine g_aload_n d_R_effect_96 rfl ?_
                    refine r_geti 4 hR (by decide) rfl fl_R_138 rfl d_R_effect_97 ?_
                    refine g_iload_n d_R_effect_100 rfl ?_
                    refine r_iast 0 (tn (P 4 0)) hR (by decide) rfl d_R_effect_101 he (by show tn (P 4 0) < 40; first | omega | (have h9_ := he9 (by assumption); omega)) (fun M hR => ?_)
                    refine g_aload_n d_R_effect_102 rfl ?_
                    refine r_arr 1 hR (by decide) (by decide) fl_R_13 rfl d_R_effect_103 ?_
                    refine g_aload_n d_R_effect_106 rfl ?_
                    refine r_geti 4 hR (by decide) rfl fl_R_138 rfl d_R_effect_107 ?_
                    refine g_iload_n d_R_effect_110 rfl ?_
                    refine r_iast 1 (tn (P 4 0)) hR (by decide) rfl d_R_effect_111 he (by show tn (P 4 0) < 40; first | omega | (have h9_ := he9 (by assumption); omega)) (fun M hR => ?_)
                    refine g_aload_n d_R_effect_112 rfl ?_
                    refine r_arr 2 hR (by decide) (by decide) fl_R_16 rfl d_R_effect_113 ?_
                    refine g_aload_n d_R_effect_116 rfl ?_
                    refine r_geti 4 hR (by decide) rfl fl_R_138 rfl d_R_effect_117 ?_
                    refine g_iload_n d_R_effect_120 rfl ?_
                    refine r_iast 2 (tn (P 4 0)) hR (by decide) rfl d_R_effect_121 he (by show tn (P 4 0) < 40; first | omega | (have h9_ := he9 (by assumption); omega)) (fun M hR => ?_)
                    refine g_aload_n d_R_effect_122 rfl ?_
                    refine r_arr 3 hR (by decide) (by decide) fl_R_19 rfl d_R_effect_123 ?_
                    refine g_aload_n d_R_effect_126 rfl ?_
                    refine r_geti 4 hR (by decide) rfl fl_R_138 rfl d_R_effect_127 ?_
                    refine g_iload d_R_effect_130 rfl ?_
                    refine r_iast 3 (tn (P 4 0)) hR (by decide) rfl d_R_effect_132 he (by show tn (P 4 0) < 40; first | omega | (have h9_ := he9 (by assumption); omega)) (fun M hR => ?_)
                    refine g_aload_n d_R_effect_133 rfl ?_
                    refine g_dup d_R_effect_134 ?_
                    refine r_geti 4 hR (by decide) rfl fl_R_138 rfl d_R_effect_135 ?_
                    refine g_dup_x1 d_R_effect_138 rfl (cat_rf _) ?_
                    refine g_iconst (v := 1) d_R_effect_139 (by decide) ?_
                    refine g_iadd d_R_effect_140 ?_
                    refine r_puti 4 hR (by decide) rfl fl_R_138 (Or.inr (fun r h => by cases h; rfl)) rfl d_R_effect_141 (fun M hR => ?_)
                    exact g_ireturn d_R_effect_144 rfl ⟨by unfold a_R_effect; rw [if_neg (show ¬ (a_R_in kind 0 25 = 0) from c_13), if_neg (show ¬ (a_R_needs kind ≤ 0) from c_18), if_neg (show ¬ (a_R_isEffect P a = 0) from c_26), if_neg (show ¬ (a_R_needs kind ≤ 1) from c_32), if_neg (show ¬ (a_R_isEffect P b = 0) from c_40), if_neg (show ¬ (a_R_needs kind ≤ 2) from c_46), if_neg (show ¬ (a_R_isEffect P c = 0) from c_55), if_pos (show a_R_in kind 19 24 = 0 from c_66), if_neg (show ¬ (P 4 0 = 40) from c_86)]; try rfl, by unfold p_R_effect; rw [if_neg (show ¬ (a_R_in kind 0 25 = 0) from c_13), if_neg (show ¬ (a_R_needs kind ≤ 0) from c_18), if_neg (show ¬ (a_R_isEffect P a = 0) from c_26), if_neg (show ¬ (a_R_needs kind ≤ 1) from c_32), if_neg (show ¬ (a_R_isEffect P b = 0) from c_40), if_neg (show ¬ (a_R_needs kind ≤ 2) from c_46), if_neg (show ¬ (a_R_isEffect P c = 0) from c_55), if_pos (show a_R_in kind 19 24 = 0 from c_66), if_neg (show ¬ (P 4 0 = 40) from c_86)]; exact hR⟩
                  · skip
                    refine g_bipush (v := -2) d_R_effect_89 (by decide) ?_
                    exact g_ireturn d_R_effect_91 rfl ⟨by unfold a_R_effect; rw [if_neg (show ¬ (a_R_in kind 0 25 = 0) from c_13), if_neg (show ¬ (a_R_needs kind ≤ 0) from c_18), if_neg (show ¬ (a_R_isEffect P a = 0) from c_26), if_neg (show ¬ (a_R_needs kind ≤ 1) from c_32), if_neg (show ¬ (a_R_isEffect P b = 0) from c_40), if_neg (show ¬ (a_R_needs kind ≤ 2) from c_46), if_neg (show ¬ (a_R_isEffect P c = 0) from c_55), if_pos (show a_R_in kind 19 24 = 0 from c_66), if_pos (show P 4 0 = 40 from c_86)]; try rfl, by unfold p_R_effect; rw [if_neg (show ¬ (a_R_in kind 0 25 = 0) from c_13), if_neg (show ¬ (a_R_needs kind ≤ 0) from c_18), if_neg (show ¬ (a_R_isEffect P a = 0) from c_26), if_neg (show ¬ (a_R_needs kind ≤ 1) from c_32), if_neg (show ¬ (a_R_isEffect P b = 0) from c_40), if_neg (show ¬ (a_R_needs kind ≤ 2) from c_46), if_neg (show ¬ (a_R_isEffect P c = 0) from c_55), if_pos (show a_R_in kind 19 24 = 0 from c_66), if_pos (show P 4 0 = 40 from c_86)]; exact hR⟩
                · skip
                  refine g_iload_n d_R_effect_69 rfl ?_
                  refine g_iconst (v := 0) d_R_effect_70 (by decide) ?_
                  refine g_iconst (v := 3) d_R_effect_71 (by decide) ?_
                  refine g_callS [.int (a), .int (0), .int (3)] cw_R_141 cs_R_in d_R_effect_72 rfl rfl ⟨by simp, by simp⟩ (by decide) (Nat.le_refl _) (Nat.le_refl _) (fun _ _ h => h) (c_R_in a 0 3 _ _) (fun r_ M_ h_ _ => ?_)
                  obtain ⟨rfl, rfl⟩ := h_
                  refine g_if_ne 80 d_R_effect_75 (by decide) (fun c_75 => ?_) (fun c_75 => ?_)
                  · skip
                    refine g_aload_n d_R_effect_80 rfl ?_
                    refine r_geti 4 hR (by decide) rfl fl_R_138 rfl d_R_effect_81 ?_
                    refine g_bipush (v := 40) d_R_effect_84 (by decide) ?_
                    refine g_icmp_ne 92 d_R_effect_86 (by decide) (fun c_86 => ?_) (fun c_86 => ?_)
                    · skip
                      refine g_aload_n d_R_effect_92 rfl ?_
                      refine r_arr 0 hR (by decide) (by decide) fl_R_7 rfl d_R_effect_93 ?_
                      refine g_aload_n d_R_effect_96 rfl ?_
                      refine r_geti 4 hR (by decide) rfl fl_R_138 rfl d_R_effect_97 ?_
                      refine g_iload_n d_R_effect_100 rfl ?_
                      refine r_iast 0 (tn (P 4 0)) hR (by decide) rfl d_R_effect_101 he (by show tn (P 4 0) < 40; first | omega | (have h9_ := he9 (by assumption); omega)) (fun M hR => ?_)
                      refine g_aload_n d_R_effect_102 rfl ?_
                      refine r_arr 1 hR (by decide) (by decide) fl_R_13 rfl d_R_effect_103 ?_
                      refine g_aload_n d_R_effect_106 rfl ?_
                      refine r_geti 4 hR (by decide) rfl fl_R_138 rfl d_R_effect_107 ?_
                      refine g_iload_n d_R_effect_110 rfl ?_
                      refine r_iast 1 (tn (P 4 0)) hR (by decide) rfl d_R_effect_111 he (by show tn (P 4 0) < 40; first | omega | (have h9_ := he9 (by assumption); omega)) (fun M hR => ?_)
                      refine g_aload_n d_R_effect_112 rfl ?_
                      refine r_arr 2 hR (by decide) (by decide) fl_R_16 rfl d_R_effect_113 ?_
                      refine g_aload_n d_R_effect_116 rfl ?_
                      refine r_geti 4 hR (by decide) rfl fl_R_138 rfl d_R_effect_117 ?_
                      refine g_iload_n d_R_effect_120 rfl ?_
                      refine r_iast 2 (tn (P 4 0)) hR (by decide) rfl d_R_effect_121 he (by show tn (P 4 0) < 40; first | omega | (have h9_ := he9 (by assumption); omega)) (fun M hR => ?_)
                      refine g_aload_n d_R_effect_122 rfl ?_
                      refine r_arr 3 hR (by decide) (by decide) fl_R_19 rfl d_R_effect_123 ?_
                      refine g_aload_n d_R_effect_126 rfl ?_
                      refine r_geti 4 hR (by decide) rfl fl_R_138 rfl d_R_effect_127 ?_
                      refine g_iload d_R_effect_130 rfl ?_
                      refine r_iast 3 (tn (P 4 0)) hR (by decide) rfl d_R_effect_132 he (by show tn (P 4 0) < 40; first | omega | (have h9_ := he9 (by assumption); omega)) (fun M hR => ?_)
                      refine g_aload_n d_R_effect_133 rfl ?_
                      refine g_dup d_R_effect_134 ?_
                      refine r_geti 4 hR (by decide) rfl fl_R_138 rfl d_R_effect_135 ?_
                      refine g_dup_x1 d_R_effect_138 rfl (cat_rf _) ?_
                      refine g_iconst (v := 1) d_R_effect_139 (by decide) ?_
                      refine g_iadd d_R_effect_140 ?_
                      refine r_puti 4 hR (by decide) rfl fl_R_138 (Or.inr (fun r h => by cases h; rfl)) rfl d_R_effect_141 (fun M hR => ?_)
                      exact g_ireturn d_R_effect_144 rfl ⟨by unfold a_R_effect; rw [if_neg (show ¬ (a_R_in kind 0 25 = 0) from c_13), if_neg (show ¬ (a_R_needs kind ≤ 0) from c_18), if_neg (show ¬ (a_R_isEffect P a = 0) from c_26), if_neg (show ¬ (a_R_needs kind ≤ 1) from c_32), if_neg (show ¬ (a_R_isEffect P b = 0) from c_40), if_neg (show ¬ (a_R_needs kind ≤ 2) from c_46), if_neg (show ¬ (a_R_isEffect P c = 0) from c_55), if_neg (show ¬ (a_R_in kind 19 24 = 0) from c_66), if_neg (show ¬ (a_R_in a 0 3 = 0) from c_75), if_neg (show ¬ (P 4 0 = 40) from c_86)]; try rfl, by unfold p_R_effect; rw [if_neg (show ¬ (a_R_in kind 0 25 = 0) from c_13), if_neg (show ¬ (a_R_needs kind ≤ 0) from c_18), if_neg (show ¬ (a_R_isEffect P a = 0) from c_26), if_neg (show ¬ (a_R_needs kind ≤ 1) from c_32), if_neg (show ¬ (a_R_isEffect P b = 0) from c_40), if_neg (show ¬ (a_R_needs kind ≤ 2) from c_46), if_neg (show ¬ (a_R_isEffect P c = 0) from c_55), if_neg (show ¬ (a_R_in kind 19 24 = 0) from c_66), if_neg (show ¬ (a_R_in a 0 3 = 0) from c_75), if_neg (show ¬ (P 4 0 = 40) from c_86)]; exact hR⟩
                    · skip
                      refine g_bipush (v := -2) d_R_effect_89 (by decide) ?_
                      exact g_ireturn d_R_effect_91 rfl ⟨by unfold a_R_effect; rw [if_neg (show ¬ (a_R_in kind 0 25 = 0) from c_13), if_neg (show ¬ (a_R_needs kind ≤ 0) from c_18), if_neg (show ¬ (a_R_isEffect P a = 0) from c_26), if_neg (show ¬ (a_R_needs kind ≤ 1) from c_32), if_neg (show ¬ (a_R_isEffect P b = 0) from c_40), if_neg (show ¬ (a_R_needs kind ≤ 2) from c_46), if_neg (show ¬ (a_R_isEffect P c = 0) from c_55), if_neg (show ¬ (a_R_in kind 19 24 = 0) from c_66), if_neg (show ¬ (a_R_in a 0 3 = 0) from c_75), if_pos (show P 4 0 = 40 from c_86)]; try rfl, by unfold p_R_effect; rw [if_neg (show ¬ (a_R_in kind 0 25 = 0) from c_13), if_neg (show ¬ (a_R_needs kind ≤ 0) from c_18), if_neg (show ¬ (a_R_isEffect P a = 0) from c_26), if_neg (show ¬ (a_R_needs kind ≤ 1) from c_32), if_neg (show ¬ (a_R_isEffect P b = 0) from c_40), if_neg (show ¬ (a_R_needs kind ≤ 2) from c_46), if_neg (show ¬ (a_R_isEffect P c = 0) from c_55), if_neg (show ¬ (a_R_in kind 19 24 = 0) from c_66), if_neg (show ¬ (a_R_in a 0 3 = 0) from c_75), if_pos (show P 4 0 = 40 from c_86)]; exact hR⟩
                  · skip
                    refine g_iconst (v := -1) d_R_effect_78 (by decide) ?_
                    exact g_ireturn d_R_effect_79 rfl ⟨by unfold a_R_effect; rw [if_neg (show ¬ (a_R_in kind 0 25 = 0) from c_13), if_neg (show ¬ (a_R_needs kind ≤ 0) from c_18), if_neg (show ¬ (a_R_isEffect P a = 0) from c_26), if_neg (show ¬ (a_R_needs kind ≤ 1) from c_32), if_neg (show ¬ (a_R_isEffect P b = 0) from c_40), if_neg (show ¬ (a_R_needs kind ≤ 2) from c_46), if_neg (show ¬ (a_R_isEffect P c = 0) from c_55), if_neg (show ¬ (a_R_in kind 19 24 = 0) from c_66), if_pos (show a_R_in a 0 3 = 0 from c_75)]; try rfl, by unfold p_R_effect; rw [if_neg (show ¬ (a_R_in kind 0 25 = 0) from c_13), if_neg (show ¬ (a_R_needs kind ≤ 0) from c_18), if_neg (show ¬ (a_R_isEffect P a = 0) from c_26), if_neg (show ¬ (a_R_needs kind ≤ 1) from c_32), if_neg (show ¬ (a_R_isEffect P b = 0) from c_40), if_neg (show ¬ (a_R_needs kind ≤ 2) from c_46), if_neg (show ¬ (a_R_isEffect P c = 0) from c_55), if_neg (show ¬ (a_R_in kind 19 24 = 0) from c_66), if_pos (show a_R_in a 0 3 = 0 from c_75)]; exact hR⟩

def a_R_make (P : Pst) (e : Int32) (v : Int32) (by_ : Int32) : Int32 := P 42 0
def p_R_make (P : Pst) (e : Int32) (v : Int32) (by_ : Int32) : Pst := up (up (up (up (up (up (up (up (up (up (up (up P 42 0 ((P 42 0) + 1)) 5 (tn (P 42 0)) 0) 6 (tn (P 42 0)) 0) 8 (tn (P 42 0)) by_) 9 (tn (P 42 0)) 0) 10 (tn (P 42 0)) 0) 11 (tn (P 42 0)) e) 12 (tn (P 42 0)) v) 15 (tn (P 42 0)) 0) 22 (tn (P 42 0)) 0) 43 0 ((P 43 0) + 1)) 36 (tn (P 43 0)) (P 42 0)
set_option maxHeartbeats 4000000 in
set_option maxRecDepth 100000 in
theorem c_R_make (P : Pst) (e : Int32) (v : Int32) (by_ : Int32) (hb : P 42 0 = nI (tn (P 42 0))) (hb9 : tn (P 42 0) < 10) (hq : P 43 0 = nI (tn (P 43 0))) (hq9 : tn (P 43 0) < 10) : RC m_R_make 0 [.int e, .int v, .int by_] P (some (.int (a_R_make P e v by_))) (p_R_make P e v by_) := by
  intro γ M hR
  refine Run.ofG (by decide) (by simp [cat_int, cat_rf]) (Nat.le_of_ble_eq_true rfl) ?_
  refine g_aload_n d_R_make_0 rfl ?_
  refine g_dup d_R_make_1 ?_
  refine r_geti 42 hR (by decide) rfl fl_R_153 rfl d_R_make_2 ?_
  refine g_dup_x1 d_R_make_5 rfl (cat_rf _) ?_
  refine g_iconst (v := 1) d_R_make_6 (by decide) ?_
  refine g_iadd d_R_make_7 ?_
  refine r_puti 42 hR (by decide) rfl fl_R_153 (Or.inr (fun r h => by cases h; rfl)) rfl d_R_make_8 (fun M hR => ?_)
  refine g_istore d_R_make_11 (by decide) ?_
  refine g_aload_n d_R_make_13 rfl ?_
  refine r_arr 5 hR (by decide) (by decide) fl_R_22 rfl d_R_make_14 ?_
  refine g_iload d_R_make_17 rfl ?_
  refine g_iconst (v := 0) d_R_make_19 (by decide) ?_
  refine r_iast 5 (tn (P 42 0)) hR (by decide) rfl d_R_make_20 hb (by show tn (P 42 0) < 10; omega) (fun M hR => ?_)
  refine g_aload_n d_R_make_21 rfl ?_
  refine r_arr 6 hR (by decide) (by decide) fl_R_25 rfl d_R_make_22 ?_
  refine g_iload d_R_make_25 rfl ?_
  refine g_iconst (v := 0) d_R_make_27 (by decide) ?_
  refine r_iast 6 (tn (P 42 0)) hR (by decide) rfl d_R_make_28 hb (by show tn (P 42 0) < 10; omega) (fun M hR => ?_)
  refine g_aload_n d_R_make_29 rfl ?_
  refine r_arr 8 hR (by decide) (by decide) fl_R_31 rfl d_R_make_30 ?_
  refine g_iload d_R_make_33 rfl ?_
  refine g_iload_n d_R_make_35 rfl ?_
  refine r_iast 8 (tn (P 42 0)) hR (by decide) rfl d_R_make_36 hb (by show tn (P 42 0) < 10; omega) (fun M hR => ?_)
  refine g_aload_n d_R_make_37 rfl ?_
  refine r_arr 9 hR (by decide) (by decide) fl_R_34 rfl d_R_make_38 ?_
  refine g_iload d_R_make_41 rfl ?_
  refine g_iconst (v := 0) d_R_make_43 (by decide) ?_
  refine r_iast 9 (tn (P 42 0)) hR (by decide) rfl d_R_make_44 hb (by show tn (P 42 0) < 10; omega) (fun M hR => ?_)
  refine g_aload_n d_R_make_45 rfl ?_
  refine r_arr 10 hR (by decide) (by decide) fl_R_37 rfl d_R_make_46 ?_
  refine g_iload d_R_make_49 rfl ?_
  refine g_iconst (v := 0) d_R_make_51 (by decide) ?_
  refine r_zast 10 (tn (P 42 0)) hR (by decide) rfl (by first | exact Or.inl rfl | exact Or.inr rfl | assumption | (simp_all; done)) d_R_make_52 hb (by show tn (P 42 0) < 10; omega) (fun M hR => ?_)
  refine g_aload_n d_R_make_53 rfl ?_
  refine r_arr 11 hR (by decide) (by decide) fl_R_41 rfl d_R_make_54 ?_
  refine g_iload d_R_make_57 rfl ?_
  refine g_iload_n d_R_make_59 rfl ?_
  refine r_iast 11 (tn (P 42 0)) hR (by decide) rfl d_R_make_60 hb (by show tn (P 42 0) < 10; omega) (fun M hR => ?_)
  refine g_aload_n d_R_make_61 rfl ?_
  refine r_arr 12 hR (by decide) (by decide) fl_R_44 rfl d_R_make_62 ?_
  refine g_iload d_R_make_65 rfl ?_
  refine g_iload_n d_R_make_67 rfl ?_
  refine r_iast 12 (tn (P 42 0)) hR (by decide) rfl d_R_make_68 hb (by show tn (P 42 0) < 10; omega) (fun M hR => ?_)
  refine g_aload_n d_R_make_69 rfl ?_
  refine r_arr 15 hR (by decide) (by decide) fl_R_53 rfl d_R_make_70 ?_
  refine g_iload d_R_make_73 rfl ?_
  refine g_iconst (v := 0) d_R_make_75 (by decide) ?_
  refine r_iast 15 (tn (P 42 0)) hR (by decide) rfl d_R_make_76 hb (by show tn (P 42 0) < 10; omega) (fun M hR => ?_)
  refine g_aload_n d_R_make_77 rfl ?_
  refine r_arr 22 hR (by decide) (by decide) fl_R_74 rfl d_R_make_78 ?_
  refine g_iload d_R_make_81 rfl ?_
  refine g_iconst (v := 0) d_R_make_83 (by decide) ?_
  refine r_iast 22 (tn (P 42 0)) hR (by decide) rfl d_R_make_84 hb (by show tn (P 42 0) < 10; omega) (fun M hR => ?_)
  refine g_aload_n d_R_make_85 rfl ?_
  refine r_arr 36 hR (by decide) (by decide) fl_R_116 rfl d_R_make_86 ?_
  refine g_aload_n d_R_make_89 rfl ?_
  refine g_dup d_R_make_90 ?_
  refine r_geti 43 hR (by decide) rfl fl_R_156 rfl d_R_make_91 ?_
  refine g_dup_x1 d_R_make_94 rfl (cat_rf _) ?_
  refine g_iconst (v := 1) d_R_make_95 (by decide) ?_
  refine g_iadd d_R_make_96 ?_
  refine r_puti 43 hR (by decide) rfl fl_R_156 (Or.inr (fun r h => by cases h; rfl)) rfl d_R_make_97 (fun M hR => ?_)
  refine g_iload d_R_make_100 rfl ?_
  refine r_iast 36 (tn (P 43 0)) hR (by decide) rfl d_R_make_102 hq (by show tn (P 43 0) < 10; omega) (fun M hR => ?_)
  refine g_iload d_R_make_103 rfl ?_
  exact g_ireturn d_R_make_105 rfl ⟨rfl, hR⟩

def p_R_frame (P : Pst) (f : Nat) (e : Nat) (v : Int32) : Pst := up (up (up (up (up (up (up P 22 f ((P 22 f) + 1)) 23 ((16 * f) + (tn (P 22 f))) (P 0 e)) 24 ((16 * f) + (tn (P 22 f))) (nI e)) 25 ((16 * f) + (tn (P 22 f))) 0) 26 ((16 * f) + (tn (P 22 f))) v) 31 ((16 * f) + (tn (P 22 f))) (P 10 f)) 28 ((16 * f) + (tn (P 22 f))) 0
set_option maxHeartbeats 4000000 in
set_option maxRecDepth 100000 in
theorem c_R_frame (P : Pst) (f : Nat) (e : Nat) (v : Int32) (hf : f < 10) (he : e < 40) (hd : P 22 f = nI (tn (P 22 f))) (hd9 : tn (P 22 f) < 16) (hm : P 10 f = 0 ∨ P 10 f = 1) : RC m_R_frame 0 [.int (nI f), .int (nI e), .int v] P none (p_R_frame P f e v) := by
  intro γ M hR
  refine Run.ofG (by decide) (by simp [cat_int, cat_rf]) (Nat.le_of_ble_eq_true rfl) ?_
  refine g_bipush (v := 16) d_R_frame_0 (by decide) ?_
  refine g_iload_n d_R_frame_2 rfl ?_
  refine g_imul d_R_frame_3 ?_
  refine g_aload_n d_R_frame_4 rfl ?_
  refine r_arr 22 hR (by decide) (by decide) fl_R_74 rfl d_R_frame_5 ?_
  refine g_iload_n d_R_frame_8 rfl ?_
  refine g_dup2 d_R_frame_9 rfl (cat_rf _) ?_
  refine r_iald 22 f hR (by decide) rfl d_R_frame_10 rfl (by show f < 10; omega) ?_
  refine g_dup_x2 d_R_frame_11 rfl rfl (cat_rf _) ?_
  refine g_iconst (v := 1) d_R_frame_12 (by decide) ?_
  refine g_iadd d_R_frame_13 ?_
  refine r_iast 22 f hR (by decide) rfl d_R_frame_14 rfl (by show f < 10; omega) (fun M hR => ?_)
  refine g_iadd d_R_frame_15 ?_
  refine g_istore d_R_frame_16 (by decide) ?_
  refine g_aload_n d_R_frame_18 rfl ?_
  refine r_arr 23 hR (by decide) (by decide) fl_R_77 rfl d_R_frame_19 ?_
  refine g_iload d_R_frame_22 rfl ?_
  refine g_aload_n d_R_frame_24 rfl ?_
  refine r_arr 0 hR (by decide) (by decide) fl_R_7 rfl d_R_frame_25 ?_
  refine g_iload_n d_R_frame_28 rfl ?_
  refine r_iald 0 e hR (by decide) rfl d_R_frame_29 rfl (by show e < 40; omega) ?_
  refine r_iast 23 ((16 * f) + (tn (P 22 f))) hR (by decide) rfl d_R_frame_30 (ix_add (ix_mul rfl rfl) hd) (by show (16 * f) + (tn (P 22 f)) < 160; omega) (fun M hR => ?_)
  refine g_aload_n d_R_frame_31 rfl ?_
  refine r_arr 24 hR (by decide) (by decide) fl_R_80 rfl d_R_frame_32 ?_
  refine g_iload d_R_frame_35 rfl ?_
  refine g_iload_n d_R_frame_37 rfl ?_
  refine r_iast 24 ((16 * f) + (tn (P 22 f))) hR (by decide) rfl d_R_frame_38 (ix_add (ix_mul rfl rfl) hd) (by show (16 * f) + (tn (P 22 f)) < 160; omega) (fun M hR => ?_)
  refine g_aload_n d_R_frame_39 rfl ?_
  refine r_arr 25 hR (by decide) (by decide) fl_R_83 rfl d_R_frame_40 ?_
  refine g_iload d_R_frame_43 rfl ?_
  refine g_iconst (v := 0) d_R_frame_45 (by decide) ?_
  refine r_iast 25 ((16 * f) + (tn (P 22 f))) hR (by decide) rfl d_R_frame_46 (ix_add (ix_mul rfl rfl) hd) (by show (16 * f) + (tn (P 22 f)) < 160; omega) (fun M hR => ?_)
  refine g_aload_n d_R_frame_47 rfl ?_
  refine r_arr 26 hR (by decide) (by decide) fl_R_86 rfl d_R_frame_48 ?_
  refine g_iload d_R_frame_51 rfl ?_
  refine g_iload_n d_R_frame_53 rfl ?_
  refine r_iast 26 ((16 * f) + (tn (P 22 f))) hR (by decide) rfl d_R_frame_54 (ix_add (ix_mul rfl rfl) hd) (by show (16 * f) + (tn (P 22 f)) < 160; omega) (fun M hR => ?_)
  refine g_aload_n d_R_frame_55 rfl ?_
  refine r_arr 31 hR (by decide) (by decide) fl_R_101 rfl d_R_frame_56 ?_
  refine g_iload d_R_frame_59 rfl ?_
  refine g_aload_n d_R_frame_61 rfl ?_
  refine r_arr 10 hR (by decide) (by decide) fl_R_37 rfl d_R_frame_62 ?_
  refine g_iload_n d_R_frame_65 rfl ?_
  refine r_zald 10 f hR (by decide) rfl d_R_frame_66 rfl (by show f < 10; omega) ?_
  refine r_zast 31 ((16 * f) + (tn (P 22 f))) hR (by decide) rfl (by first | exact Or.inl rfl | exact Or.inr rfl | assumption | (simp_all; done)) d_R_frame_67 (ix_add (ix_mul rfl rfl) hd) (by show (16 * f) + (tn (P 22 f)) < 160; omega) (fun M hR => ?_)
  refine g_aload_n d_R_frame_68 rfl ?_
  refine r_arr 28 hR (by decide) (by decide) fl_R_92 rfl d_R_frame_69 ?_
  refine g_iload d_R_frame_72 rfl ?_
  refine g_iconst (v := 0) d_R_frame_74 (by decide) ?_
  refine r_iast 28 ((16 * f) + (tn (P 22 f))) hR (by decide) rfl d_R_frame_75 (ix_add (ix_mul rfl rfl) hd) (by show (16 * f) + (tn (P 22 f)) < 160; omega) (fun M hR => ?_)
  exact g_return d_R_frame_76 rfl ⟨rfl, hR⟩
