/-! the reference's methods with loops (by program: wip/tools/gen_ref2.py) -/
theorem ix_nle {x y : Int32} {a b : Nat} (hx : x = nI a) (hy : y = nI b) (h : b < a) (ha : a < 2 ^ 31) : ¬ x ≤ y := by rw [hx, hy]; exact nI_ge h ha
theorem ix_le {x y : Int32} {a b : Nat} (hx : x = nI a) (hy : y = nI b) (h : a ≤ b) (hb : b < 2 ^ 31) : x ≤ y := by rw [hx, hy]; exact nI_le h hb
theorem ix_pos {x : Int32} {a : Nat} (hx : x = nI a) (h : 0 < a) (ha : a < 2 ^ 31) : ¬ x ≤ 0 := by rw [hx]; exact nI_nle h ha
def it_copy (P : Pst) (a b : Nat) : Nat → Pst
  | 0 => P
  | j + 1 => up (up (it_copy P a b j) 34 ((9 * b) + j) (it_copy P a b j 34 ((9 * a) + j))) 35 ((9 * b) + j) (it_copy P a b j 35 ((9 * a) + j))
set_option maxHeartbeats 4000000 in
set_option maxRecDepth 100000 in
theorem lo_copy {γ : Rg} (P : Pst) (a b : Nat) (ha : a < 171) (hb : b < 171) {M0 : Mm} {Q : Option Value → Mm → Prop} {dep k n : Nat} (hdep : 0 ≤ dep) : ∀ (r j : Nat) (M : Mm), j + r = 9 → RR γ (it_copy P a b j) M → (∀ M, RR γ (it_copy P a b 9) M → G m_R_copy ownR M0 Q dep k n M 70 [some (va_rf (some γ.1)), some (.int (nI a)), some (.int (nI b)), some (.int (nI 9))] []) → G m_R_copy ownR M0 Q dep k n M 14 [some (va_rf (some γ.1)), some (.int (nI a)), some (.int (nI b)), some (.int (nI j))] [] := by
  intro r
  induction r with
  | zero =>
    intro j M hj hR kk
    refine g_iload_n d_R_copy_14 rfl ?_
    refine g_bipush (v := 9) d_R_copy_15 (by decide) ?_
    refine g_icmp_ge 70 d_R_copy_17 (by decide) (fun c_17 => ?_) (fun c_17 => ?_)
    · skip
      obtain rfl : j = 9 := by omega
      exact kk M hR
    · exact absurd (ix_le (a := 9) rfl rfl (by omega) (by omega)) c_17
  | succ r ih =>
    intro j M hj hR kk
    refine g_iload_n d_R_copy_14 rfl ?_
    refine g_bipush (v := 9) d_R_copy_15 (by decide) ?_
    refine g_icmp_ge 70 d_R_copy_17 (by decide) (fun c_17 => ?_) (fun c_17 => ?_)
    · exact absurd c_17 (ix_nle (a := 9) rfl rfl (by omega) (by omega))
    · skip
      refine g_aload_n d_R_copy_20 rfl ?_
      refine r_arr 34 hR (by decide) (by decide) fl_R_110 rfl d_R_copy_21 ?_
      refine g_bipush (v := 9) d_R_copy_24 (by decide) ?_
      refine g_iload_n d_R_copy_26 rfl ?_
      refine g_imul d_R_copy_27 ?_
      refine g_iload_n d_R_copy_28 rfl ?_
      refine g_iadd d_R_copy_29 ?_
      refine g_aload_n d_R_copy_30 rfl ?_
      refine r_arr 34 hR (by decide) (by decide) fl_R_110 rfl d_R_copy_31 ?_
      refine g_bipush (v := 9) d_R_copy_34 (by decide) ?_
      refine g_iload_n d_R_copy_36 rfl ?_
      refine g_imul d_R_copy_37 ?_
      refine g_iload_n d_R_copy_38 rfl ?_
      refine g_iadd d_R_copy_39 ?_
      refine r_iald 34 ((9 * a) + j) hR (by decide) rfl d_R_copy_40 (ix_add (ix_mul rfl rfl) rfl) (by show (9 * a) + j < 1539; omega) ?_
      refine r_iast 34 ((9 * b) + j) hR (by decide) rfl d_R_copy_41 (ix_add (ix_mul rfl rfl) rfl) (by show (9 * b) + j < 1539; omega) (fun M hR => ?_)
      refine g_aload_n d_R_copy_42 rfl ?_
      refine r_arr 35 hR (by decide) (by decide) fl_R_113 rfl d_R_copy_43 ?_
      refine g_bipush (v := 9) d_R_copy_46 (by decide) ?_
      refine g_iload_n d_R_copy_48 rfl ?_
      refine g_imul d_R_copy_49 ?_
      refine g_iload_n d_R_copy_50 rfl ?_
      refine g_iadd d_R_copy_51 ?_
      refine g_aload_n d_R_copy_52 rfl ?_
      refine r_arr 35 hR (by decide) (by decide) fl_R_113 rfl d_R_copy_53 ?_
      refine g_bipush (v := 9) d_R_copy_56 (by decide) ?_
      refine g_iload_n d_R_copy_58 rfl ?_
      refine g_imul d_R_copy_59 ?_
      refine g_iload_n d_R_copy_60 rfl ?_
      refine g_iadd d_R_copy_61 ?_
      refine r_iald 35 ((9 * a) + j) hR (by decide) rfl d_R_copy_62 (ix_add (ix_mul rfl rfl) rfl) (by show (9 * a) + j < 1539; omega) ?_
      refine r_iast 35 ((9 * b) + j) hR (by decide) rfl d_R_copy_63 (ix_add (ix_mul rfl rfl) rfl) (by show (9 * b) + j < 1539; omega) (fun M hR => ?_)
      refine g_iinc (v := nI (j + 1)) d_R_copy_64 rfl (nI_1 _) (by decide) ?_
      refine g_goto 14 d_R_copy_67 (by decide) ?_
      exact ih (j + 1) M (by omega) hR kk
def p_R_copy (P : Pst) (a : Nat) (b : Nat) : Pst := it_copy (up P 33 b (P 33 a)) a b 9
set_option maxHeartbeats 4000000 in
set_option maxRecDepth 100000 in
theorem c_R_copy (P : Pst) (a : Nat) (b : Nat) (ha : a < 171) (hb : b < 171) : RC m_R_copy 0 [.int (nI a), .int (nI b)] P none (p_R_copy P a b) := by
  intro γ M hR
  refine Run.ofG (by decide) (by simp [cat_int, cat_rf]) (Nat.le_of_ble_eq_true rfl) ?_
  refine g_aload_n d_R_copy_0 rfl ?_
  refine r_arr 33 hR (by decide) (by decide) fl_R_107 rfl d_R_copy_1 ?_
  refine g_iload_n d_R_copy_4 rfl ?_
  refine g_aload_n d_R_copy_5 rfl ?_
  refine r_arr 33 hR (by decide) (by decide) fl_R_107 rfl d_R_copy_6 ?_
  refine g_iload_n d_R_copy_9 rfl ?_
  refine r_iald 33 a hR (by decide) rfl d_R_copy_10 rfl (by show a < 171; omega) ?_
  refine r_iast 33 b hR (by decide) rfl d_R_copy_11 rfl (by show b < 171; omega) (fun M hR => ?_)
  refine g_iconst (v := 0) d_R_copy_12 (by decide) ?_
  refine g_istore_n d_R_copy_13 (by decide) ?_
  refine lo_copy (up P 33 b (P 33 a)) a b ha hb (Nat.le_refl _) 9 0 M rfl hR (fun M hR => ?_)
  exact g_return d_R_copy_70 rfl ⟨rfl, hR⟩

theorem ix_le_of {x y : Int32} {a b : Nat} (hx : x = nI a) (hy : y = nI b) (ha : a < 2 ^ 31) (hb : b < 2 ^ 31) (h : x ≤ y) : a ≤ b := by rw [hx, hy] at h; exact (nI_leI ha hb).mp h
def bs (P : Pst) (why m : Int32) : Nat → Int32
  | 0 => -1
  | j + 1 => if P 5 j = 1 then (if P 15 j = why then (if P 16 j = m then (if bs P why m j < 0 then nI j else if P 18 (tn (bs P why m j)) ≤ P 18 j then bs P why m j else nI j) else bs P why m j) else bs P why m j) else bs P why m j
theorem bs_lt (P : Pst) (why m : Int32) : ∀ j : Nat, j ≤ 10 → ¬ bs P why m j < 0 → tn (bs P why m j) < j := by
  intro j
  induction j with
  | zero => intro _ h; exact absurd (by decide : (-1 : Int32) < 0) h
  | succ j ih =>
    intro hj h
    have key : bs P why m (j + 1) = bs P why m j ∨ bs P why m (j + 1) = nI j := by
      show (if P 5 j = 1 then (if P 15 j = why then (if P 16 j = m then (if bs P why m j < 0 then nI j else if P 18 (tn (bs P why m j)) ≤ P 18 j then bs P why m j else nI j) else bs P why m j) else bs P why m j) else bs P why m j) = _ ∨ (if P 5 j = 1 then (if P 15 j = why then (if P 16 j = m then (if bs P why m j < 0 then nI j else if P 18 (tn (bs P why m j)) ≤ P 18 j then bs P why m j else nI j) else bs P why m j) else bs P why m j) else bs P why m j) = _
      repeat' split
      all_goals first | exact Or.inl rfl | exact Or.inr rfl
    rcases key with e | e
    · rw [e] at h ⊢
      have := ih (by omega) h
      omega
    · rw [e, tn_nI (by omega)]
      omega
set_option maxHeartbeats 4000000 in
set_option maxRecDepth 100000 in
theorem lo_first {γ : Rg} (P : Pst) (why m : Int32) (nf : Nat) (hb : P 42 0 = nI nf) (hb9 : nf ≤ 10) {M0 : Mm} {Q : Option Value → Mm → Prop} {dep k n : Nat} (hdep : 0 ≤ dep) : ∀ (r j : Nat) (M : Mm), j + r = nf → RR γ P M → (∀ M, RR γ P M → G m_R_firstFor ownR M0 Q dep k n M 76 [some (va_rf (some γ.1)), some (.int (why)), some (.int (m)), some (.int (bs P why m nf)), some (.int (nI nf))] []) → G m_R_firstFor ownR M0 Q dep k n M 5 [some (va_rf (some γ.1)), some (.int (why)), some (.int (m)), some (.int (bs P why m j)), some (.int (nI j))] [] := by
  intro r
  induction r with
  | zero =>
    intro j M hj hR kk
    refine g_iload d_R_firstFor_5 rfl ?_
    refine g_aload_n d_R_firstFor_7 rfl ?_
    refine r_geti 42 hR (by decide) rfl fl_R_153 rfl d_R_firstFor_8 ?_
    refine g_icmp_ge 76 d_R_firstFor_11 (by decide) (fun c_11 => ?_) (fun c_11 => ?_)
    · skip
      obtain rfl : j = nf := by omega
      exact kk M hR
    · exact absurd (ix_le (a := nf) hb rfl (by omega) (by omega)) c_11
  | succ r ih =>
    intro j M hj hR kk
    refine g_iload d_R_firstFor_5 rfl ?_
    refine g_aload_n d_R_firstFor_7 rfl ?_
    refine r_geti 42 hR (by decide) rfl fl_R_153 rfl d_R_firstFor_8 ?_
    refine g_icmp_ge 76 d_R_firstFor_11 (by decide) (fun c_11 => ?_) (fun c_11 => ?_)
    · exact absurd c_11 (ix_nle (a := nf) hb rfl (by omega) (by omega))
    · skip
      refine g_aload_n d_R_firstFor_14 rfl ?_
      refine r_arr 5 hR (by decide) (by decide) fl_R_22 rfl d_R_firstFor_15 ?_
      refine g_iload d_R_firstFor_18 rfl ?_
      refine r_iald 5 j hR (by decide) rfl d_R_firstFor_20 rfl (by show j < 10; first | omega | (have h9_ := bs_lt P why m j (by omega) c_48; omega)) ?_
      refine g_iconst (v := 1) d_R_firstFor_21 (by decide) ?_
      refine g_icmp_ne 70 d_R_firstFor_22 (by decide) (fun c_22 => ?_) (fun c_22 => ?_)
      · skip
        refine g_iinc (v := nI (j + 1)) d_R_firstFor_70 rfl (nI_1 _) (by decide) ?_
        refine g_goto 5 d_R_firstFor_73 (by decide) ?_
        have e_ : bs P why m (j + 1) = bs P why m j := by
          show (if P 5 j = 1 then (if P 15 j = why then (if P 16 j = m then (if bs P why m j < 0 then nI j else if P 18 (tn (bs P why m j)) ≤ P 18 j then bs P why m j else nI j) else bs P why m j) else bs P why m j) else bs P why m j) = _
          rw [if_neg (show ¬ (P 5 j = 1) from c_22)]
        have h_ := ih (j + 1) M (by omega) hR kk
        rw [e_] at h_
        exact h_
      · skip
        refine g_aload_n d_R_firstFor_25 rfl ?_
        refine r_arr 15 hR (by decide) (by decide) fl_R_53 rfl d_R_firstFor_26 ?_
        refine g_iload d_R_firstFor_29 rfl ?_
        refine r_iald 15 j hR (by decide) rfl d_R_firstFor_31 rfl (by show j < 10; first | omega | (have h9_ := bs_lt P why m j (by omega) c_48; omega)) ?_
        refine g_iload_n d_R_firstFor_32 rfl ?_
        refine g_icmp_ne 70 d_R_firstFor_33 (by decide) (fun c_33 => ?_) (fun c_33 => ?_)
        · skip
          refine g_iinc (v := nI (j + 1)) d_R_firstFor_70 rfl (nI_1 _) (by decide) ?_
          refine g_goto 5 d_R_firstFor_73 (by decide) ?_
          have e_ : bs P why m (j + 1) = bs P why m j := by
            show (if P 5 j = 1 then (if P 15 j = why then (if P 16 j = m then (if bs P why m j < 0 then nI j else if P 18 (tn (bs P why m j)) ≤ P 18 j then bs P why m j else nI j) else bs P why m j) else bs P why m j) else bs P why m j) = _
            rw [if_pos (show P 5 j = 1 from c_22), if_neg (show ¬ (P 15 j = why) from c_33)]
          have h_ := ih (j + 1) M (by omega) hR kk
          rw [e_] at h_
          exact h_
        · skip
          refine g_aload_n d_R_firstFor_36 rfl ?_
          refine r_arr 16 hR (by decide) (by decide) fl_R_56 rfl d_R_firstFor_37 ?_
          refine g_iload d_R_firstFor_40 rfl ?_
          refine r_iald 16 j hR (by decide) rfl d_R_firstFor_42 rfl (by show j < 10; first | omega | (have h9_ := bs_lt P why m j (by omega) c_48; omega)) ?_
          refine g_iload_n d_R_firstFor_43 rfl ?_
          refine g_icmp_ne 70 d_R_firstFor_44 (by decide) (fun c_44 => ?_) (fun c_44 => ?_)
          · skip
            refine g_iinc (v := nI (j + 1)) d_R_firstFor_70 rfl (nI_1 _) (by decide) ?_
            refine g_goto 5 d_R_firstFor_73 (by decide) ?_
            have e_ : bs P why m (j + 1) = bs P why m j := by
              show (if P 5 j = 1 then (if P 15 j = why then (if P 16 j = m then (if bs P why m j < 0 then nI j else if P 18 (tn (bs P why m j)) ≤ P 18 j then bs P why m j else nI j) else bs P why m j) else bs P why m j) else bs P why m j) = _
              rw [if_pos (show P 5 j = 1 from c_22), if_pos (show P 15 j = why from c_33), if_neg (show ¬ (P 16 j = m) from c_44)]
            have h_ := ih (j + 1) M (by omega) hR kk
            rw [e_] at h_
            exact h_
          · skip
            refine g_iload_n d_R_firstFor_47 rfl ?_
            refine g_if_lt 67 d_R_firstFor_48 (by decide) (fun c_48 => ?_) (fun c_48 => ?_)
            · skip
              refine g_iload d_R_firstFor_67 rfl ?_
              refine g_istore_n d_R_firstFor_69 (by decide) ?_
              refine g_iinc (v := nI (j + 1)) d_R_firstFor_70 rfl (nI_1 _) (by decide) ?_
              refine g_goto 5 d_R_firstFor_73 (by decide) ?_
              have e_ : bs P why m (j + 1) = nI j := by
                show (if P 5 j = 1 then (if P 15 j = why then (if P 16 j = m then (if bs P why m j < 0 then nI j else if P 18 (tn (bs P why m j)) ≤ P 18 j then bs P why m j else nI j) else bs P why m j) else bs P why m j) else bs P why m j) = _
                rw [if_pos (show P 5 j = 1 from c_22), if_pos (show P 15 j = why from c_33), if_pos (show P 16 j = m from c_44), if_pos (show bs P why m j < 0 from c_48)]
              have h_ := ih (j + 1) M (by omega) hR kk
              rw [e_] at h_
              exact h_
            · skip
              refine g_aload_n d_R_firstFor_51 rfl ?_
              refine r_arr 18 hR (by decide) (by decide) fl_R_62 rfl d_R_firstFor_52 ?_
              refine g_iload d_R_firstFor_55 rfl ?_
              refine r_iald 18 j hR (by decide) rfl d_R_firstFor_57 rfl (by show j < 10; first | omega | (have h9_ := bs_lt P why m j (by omega) c_48; omega)) ?_
              refine g_aload_n d_R_firstFor_58 rfl ?_
              refine r_arr 18 hR (by decide) (by decide) fl_R_62 rfl d_R_firstFor_59 ?_
              refine g_iload_n d_R_firstFor_62 rfl ?_
              refine r_iald 18 (tn (bs P why m j)) hR (by decide) rfl d_R_firstFor_63 (tn_of c_48) (by show tn (bs P why m j) < 10; first | omega | (have h9_ := bs_lt P why m j (by omega) c_48; omega)) ?_
              refine g_icmp_ge 70 d_R_firstFor_64 (by decide) (fun c_64 => ?_) (fun c_64 => ?_)
              · skip
                refine g_iinc (v := nI (j + 1)) d_R_firstFor_70 rfl (nI_1 _) (by decide) ?_
                refine g_goto 5 d_R_firstFor_73 (by decide) ?_
                have e_ : bs P why m (j + 1) = bs P why m j := by
                  show (if P 5 j = 1 then (if P 15 j = why then (if P 16 j = m then (if bs P why m j < 0 then nI j else if P 18 (tn (bs P why m j)) ≤ P 18 j then bs P why m j else nI j) else bs P why m j) else bs P why m j) else bs P why m j) = _
                  rw [if_pos (show P 5 j = 1 from c_22), if_pos (show P 15 j = why from c_33), if_pos (show P 16 j = m from c_44), if_neg (show ¬ (bs P why m j < 0) from c_48), if_pos (show P 18 (tn (bs P why m j)) ≤ P 18 j from c_64)]
                have h_ := ih (j + 1) M (by omega) hR kk
                rw [e_] at h_
                exact h_
              · skip
                refine g_iload d_R_firstFor_67 rfl ?_
                refine g_istore_n d_R_firstFor_69 (by decide) ?_
                refine g_iinc (v := nI (j + 1)) d_R_firstFor_70 rfl (nI_1 _) (by decide) ?_
                refine g_goto 5 d_R_firstFor_73 (by decide) ?_
                have e_ : bs P why m (j + 1) = nI j := by
                  show (if P 5 j = 1 then (if P 15 j = why then (if P 16 j = m then (if bs P why m j < 0 then nI j else if P 18 (tn (bs P why m j)) ≤ P 18 j then bs P why m j else nI j) else bs P why m j) else bs P why m j) else bs P why m j) = _
                  rw [if_pos (show P 5 j = 1 from c_22), if_pos (show P 15 j = why from c_33), if_pos (show P 16 j = m from c_44), if_neg (show ¬ (bs P why m j < 0) from c_48), if_neg (show ¬ (P 18 (tn (bs P why m j)) ≤ P 18 j) from c_64)]
                have h_ := ih (j + 1) M (by omega) hR kk
                rw [e_] at h_
                exact h_
def a_R_firstFor (P : Pst) (why : Int32) (m : Int32) : Int32 := bs P why m (tn (P 42 0))
def p_R_firstFor (P : Pst) (why : Int32) (m : Int32) : Pst := P
set_option maxHeartbeats 4000000 in
set_option maxRecDepth 100000 in
theorem c_R_firstFor (P : Pst) (why : Int32) (m : Int32) (hb : P 42 0 = nI (tn (P 42 0))) (hb9 : tn (P 42 0) ≤ 10) : RC m_R_firstFor 0 [.int why, .int m] P (some (.int (a_R_firstFor P why m))) (p_R_firstFor P why m) := by
  intro γ M hR
  refine Run.ofG (by decide) (by simp [cat_int, cat_rf]) (Nat.le_of_ble_eq_true rfl) ?_
  refine g_iconst (v := -1) d_R_firstFor_0 (by decide) ?_
  refine g_istore_n d_R_firstFor_1 (by decide) ?_
  refine g_iconst (v := 0) d_R_firstFor_2 (by decide) ?_
  refine g_istore d_R_firstFor_3 (by decide) ?_
  refine lo_first P why m (tn (P 42 0)) hb hb9 (Nat.le_refl _) (tn (P 42 0)) 0 M (by omega) hR (fun M hR => ?_)
  refine g_iload_n d_R_firstFor_76 rfl ?_
  exact g_ireturn d_R_firstFor_77 rfl ⟨rfl, hR⟩

def wc (P : Pst) (why m : Int32) : Nat → Int32
  | 0 => 0
  | j + 1 => if P 5 j = 1 then (if P 15 j = why then (if P 16 j = m then wc P why m j + 1 else wc P why m j) else wc P why m j) else wc P why m j
set_option maxHeartbeats 4000000 in
set_option maxRecDepth 100000 in
theorem lo_wait {γ : Rg} (P : Pst) (why m : Int32) (nf : Nat) (hb : P 42 0 = nI nf) (hb9 : nf ≤ 10) {M0 : Mm} {Q : Option Value → Mm → Prop} {dep k n : Nat} (hdep : 0 ≤ dep) : ∀ (r j : Nat) (M : Mm), j + r = nf → RR γ P M → (∀ M, RR γ P M → G m_R_waiting ownR M0 Q dep k n M 56 [some (va_rf (some γ.1)), some (.int (why)), some (.int (m)), some (.int (wc P why m nf)), some (.int (nI nf))] []) → G m_R_waiting ownR M0 Q dep k n M 5 [some (va_rf (some γ.1)), some (.int (why)), some (.int (m)), some (.int (wc P why m j)), some (.int (nI j))] [] := by
  intro r
  induction r with
  | zero =>
    intro j M hj hR kk
    refine g_iload d_R_waiting_5 rfl ?_
    refine g_aload_n d_R_waiting_7 rfl ?_
    refine r_geti 42 hR (by decide) rfl fl_R_153 rfl d_R_waiting_8 ?_
    refine g_icmp_ge 56 d_R_waiting_11 (by decide) (fun c_11 => ?_) (fun c_11 => ?_)
    · skip
      obtain rfl : j = nf := by omega
      exact kk M hR
    · exact absurd (ix_le (a := nf) hb rfl (by omega) (by omega)) c_11
  | succ r ih =>
    intro j M hj hR kk
    refine g_iload d_R_waiting_5 rfl ?_
    refine g_aload_n d_R_waiting_7 rfl ?_
    refine r_geti 42 hR (by decide) rfl fl_R_153 rfl d_R_waiting_8 ?_
    refine g_icmp_ge 56 d_R_waiting_11 (by decide) (fun c_11 => ?_) (fun c_11 => ?_)
    · exact absurd c_11 (ix_nle (a := nf) hb rfl (by omega) (by omega))
    · skip
      refine g_aload_n d_R_waiting_14 rfl ?_
      refine r_arr 5 hR (by decide) (by decide) fl_R_22 rfl d_R_waiting_15 ?_
      refine g_iload d_R_waiting_18 rfl ?_
      refine r_iald 5 j hR (by decide) rfl d_R_waiting_20 rfl (by show j < 10; omega) ?_
      refine g_iconst (v := 1) d_R_waiting_21 (by decide) ?_
      refine g_icmp_ne 50 d_R_waiting_22 (by decide) (fun c_22 => ?_) (fun c_22 => ?_)
      · skip
        refine g_iinc (v := nI (j + 1)) d_R_waiting_50 rfl (nI_1 _) (by decide) ?_
        refine g_goto 5 d_R_waiting_53 (by decide) ?_
        have e_ : wc P why m (j + 1) = wc P why m j := by
          show (if P 5 j = 1 then (if P 15 j = why then (if P 16 j = m then wc P why m j + 1 else wc P why m j) else wc P why m j) else wc P why m j) = _
          rw [if_neg (show ¬ (P 5 j = 1) from c_22)]
        have h_ := ih (j + 1) M (by omega) hR kk
        rw [e_] at h_
        exact h_
      · skip
        refine g_aload_n d_R_waiting_25 rfl ?_
        refine r_arr 15 hR (by decide) (by decide) fl_R_53 rfl d_R_waiting_26 ?_
        refine g_iload d_R_waiting_29 rfl ?_
        refine r_iald 15 j hR (by decide) rfl d_R_waiting_31 rfl (by show j < 10; omega) ?_
        refine g_iload_n d_R_waiting_32 rfl ?_
        refine g_icmp_ne 50 d_R_waiting_33 (by decide) (fun c_33 => ?_) (fun c_33 => ?_)
        · skip
          refine g_iinc (v := nI (j + 1)) d_R_waiting_50 rfl (nI_1 _) (by decide) ?_
          refine g_goto 5 d_R_waiting_53 (by decide) ?_
          have e_ : wc P why m (j + 1) = wc P why m j := by
            show (if P 5 j = 1 then (if P 15 j = why then (if P 16 j = m then wc P why m j + 1 else wc P why m j) else wc P why m j) else wc P why m j) = _
            rw [if_pos (show P 5 j = 1 from c_22), if_neg (show ¬ (P 15 j = why) from c_33)]
          have h_ := ih (j + 1) M (by omega) hR kk
          rw [e_] at h_
          exact h_
        · skip
          refine g_aload_n d_R_waiting_36 rfl ?_
          refine r_arr 16 hR (by decide) (by decide) fl_R_56 rfl d_R_waiting_37 ?_
          refine g_iload d_R_waiting_40 rfl ?_
          refine r_iald 16 j hR (by decide) rfl d_R_waiting_42 rfl (by show j < 10; omega) ?_
          refine g_iload_n d_R_waiting_43 rfl ?_
          refine g_icmp_ne 50 d_R_waiting_44 (by decide) (fun c_44 => ?_) (fun c_44 => ?_)
          · skip
            refine g_iinc (v := nI (j + 1)) d_R_waiting_50 rfl (nI_1 _) (by decide) ?_
            refine g_goto 5 d_R_waiting_53 (by decide) ?_
            have e_ : wc P why m (j + 1) = wc P why m j := by
              show (if P 5 j = 1 then (if P 15 j = why then (if P 16 j = m then wc P why m j + 1 else wc P why m j) else wc P why m j) else wc P why m j) = _
              rw [if_pos (show P 5 j = 1 from c_22), if_pos (show P 15 j = why from c_33), if_neg (show ¬ (P 16 j = m) from c_44)]
            have h_ := ih (j + 1) M (by omega) hR kk
            rw [e_] at h_
            exact h_
          · skip
            refine g_iinc (v := (wc P why m j) + 1) d_R_waiting_47 rfl rfl (by decide) ?_
            refine g_iinc (v := nI (j + 1)) d_R_waiting_50 rfl (nI_1 _) (by decide) ?_
            refine g_goto 5 d_R_waiting_53 (by decide) ?_
            have e_ : wc P why m (j + 1) = (wc P why m j) + 1 := by
              show (if P 5 j = 1 then (if P 15 j = why then (if P 16 j = m then wc P why m j + 1 else wc P why m j) else wc P why m j) else wc P why m j) = _
              rw [if_pos (show P 5 j = 1 from c_22), if_pos (show P 15 j = why from c_33), if_pos (show P 16 j = m from c_44)]
            have h_ := ih (j + 1) M (by omega) hR kk
            rw [e_] at h_
            exact h_
def a_R_waiting (P : Pst) (why : Int32) (m : Int32) : Int32 := wc P why m (tn (P 42 0))
def p_R_waiting (P : Pst) (why : Int32) (m : Int32) : Pst := P
set_option maxHeartbeats 4000000 in
set_option maxRecDepth 100000 in
theorem c_R_waiting (P : Pst) (why : Int32) (m : Int32) (hb : P 42 0 = nI (tn (P 42 0))) (hb9 : tn (P 42 0) ≤ 10) : RC m_R_waiting 0 [.int why, .int m] P (some (.int (a_R_waiting P why m))) (p_R_waiting P why m) := by
  intro γ M hR
  refine Run.ofG (by decide) (by simp [cat_int, cat_rf]) (Nat.le_of_ble_eq_true rfl) ?_
  refine g_iconst (v := 0) d_R_waiting_0 (by decide) ?_
  refine g_istore_n d_R_waiting_1 (by decide) ?_
  refine g_iconst (v := 0) d_R_waiting_2 (by decide) ?_
  refine g_istore d_R_waiting_3 (by decide) ?_
  refine lo_wait P why m (tn (P 42 0)) hb hb9 (Nat.le_refl _) (tn (P 42 0)) 0 M (by omega) hR (fun M hR => ?_)
  refine g_iload_n d_R_waiting_56 rfl ?_
  exact g_ireturn d_R_waiting_57 rfl ⟨rfl, hR⟩

def sa (P : Pst) : Nat → Int32
  | 0 => 1
  | j + 1 => if P 5 j = 2 then sa P j &&& 1 else sa P j &&& 0
def so (P : Pst) : Nat → Int32
  | 0 => 0
  | j + 1 => if P 5 j = 0 then so P j ||| 1 else if P 5 j = 1 then (if P 15 j = 4 then so P j ||| 1 else so P j ||| 0) else so P j ||| 0
set_option maxHeartbeats 4000000 in
set_option maxRecDepth 100000 in
theorem lo_stands {γ : Rg} (P : Pst) (nf : Nat) (hb : P 42 0 = nI nf) (hb9 : nf ≤ 10) {M0 : Mm} {Q : Option Value → Mm → Prop} {dep k n : Nat} (hdep : 0 ≤ dep) : ∀ (r j : Nat) (M : Mm), j + r = nf → RR γ P M → (∀ M, RR γ P M → G m_R_stands ownR M0 Q dep k n M 75 [some (va_rf (some γ.1)), some (.int (sa P nf)), some (.int (so P nf)), some (.int (nI nf))] []) → G m_R_stands ownR M0 Q dep k n M 6 [some (va_rf (some γ.1)), some (.int (sa P j)), some (.int (so P j)), some (.int (nI j))] [] := by
  intro r
  induction r with
  | zero =>
    intro j M hj hR kk
    refine g_iload_n d_R_stands_6 rfl ?_
    refine g_aload_n d_R_stands_7 rfl ?_
    refine r_geti 42 hR (by decide) rfl fl_R_153 rfl d_R_stands_8 ?_
    refine g_icmp_ge 75 d_R_stands_11 (by decide) (fun c_11 => ?_) (fun c_11 => ?_)
    · skip
      obtain rfl : j = nf := by omega
      exact kk M hR
    · exact absurd (ix_le (a := nf) hb rfl (by omega) (by omega)) c_11
  | succ r ih =>
    intro j M hj hR kk
    refine g_iload_n d_R_stands_6 rfl ?_
    refine g_aload_n d_R_stands_7 rfl ?_
    refine r_geti 42 hR (by decide) rfl fl_R_153 rfl d_R_stands_8 ?_
    refine g_icmp_ge 75 d_R_stands_11 (by decide) (fun c_11 => ?_) (fun c_11 => ?_)
    · exact absurd c_11 (ix_nle (a := nf) hb rfl (by omega) (by omega))
    · skip
      refine g_iload_n d_R_stands_14 rfl ?_
      refine g_aload_n d_R_stands_15 rfl ?_
      refine r_arr 5 hR (by decide) (by decide) fl_R_22 rfl d_R_stands_16 ?_
      refine g_iload_n d_R_stands_19 rfl ?_
      refine r_iald 5 j hR (by decide) rfl d_R_stands_20 rfl (by show j < 10; omega) ?_
      refine g_iconst (v := 2) d_R_stands_21 (by decide) ?_
      refine g_icmp_ne 29 d_R_stands_22 (by decide) (fun c_22 => ?_) (fun c_22 => ?_)
      · skip
        refine g_iconst (v := 0) d_R_stands_29 (by decide) ?_
        refine g_iand d_R_stands_30 ?_
        refine g_istore_n d_R_stands_31 (by decide) ?_
        refine g_iload_n d_R_stands_32 rfl ?_
        refine g_aload_n d_R_stands_33 rfl ?_
        refine r_arr 5 hR (by decide) (by decide) fl_R_22 rfl d_R_stands_34 ?_
        refine g_iload_n d_R_stands_37 rfl ?_
        refine r_iald 5 j hR (by decide) rfl d_R_stands_38 rfl (by show j < 10; omega) ?_
        refine g_if_eq 62 d_R_stands_39 (by decide) (fun c_39 => ?_) (fun c_39 => ?_)
        · skip
          refine g_iconst (v := 1) d_R_stands_62 (by decide) ?_
          refine g_goto 67 d_R_stands_63 (by decide) ?_
          refine g_ior d_R_stands_67 ?_
          refine g_istore_n d_R_stands_68 (by decide) ?_
          refine g_iinc (v := nI (j + 1)) d_R_stands_69 rfl (nI_1 _) (by decide) ?_
          refine g_goto 6 d_R_stands_72 (by decide) ?_
          have e1_ : sa P (j + 1) = (sa P j) &&& 0 := by
            show (if P 5 j = 2 then sa P j &&& 1 else sa P j &&& 0) = _
            rw [if_neg (show ¬ (P 5 j = 2) from c_22)]
          have e2_ : so P (j + 1) = (so P j) ||| 1 := by
            show (if P 5 j = 0 then so P j ||| 1 else if P 5 j = 1 then (if P 15 j = 4 then so P j ||| 1 else so P j ||| 0) else so P j ||| 0) = _
            rw [if_pos (show P 5 j = 0 from c_39)]
          have h_ := ih (j + 1) M (by omega) hR kk
          rw [e1_, e2_] at h_
          exact h_
        · skip
          refine g_aload_n d_R_stands_42 rfl ?_
          refine r_arr 5 hR (by decide) (by decide) fl_R_22 rfl d_R_stands_43 ?_
          refine g_iload_n d_R_stands_46 rfl ?_
          refine r_iald 5 j hR (by decide) rfl d_R_stands_47 rfl (by show j < 10; omega) ?_
          refine g_iconst (v := 1) d_R_stands_48 (by decide) ?_
          refine g_icmp_ne 66 d_R_stands_49 (by decide) (fun c_49 => ?_) (fun c_49 => ?_)
          · skip
            refine g_iconst (v := 0) d_R_stands_66 (by decide) ?_
            refine g_ior d_R_stands_67 ?_
            refine g_istore_n d_R_stands_68 (by decide) ?_
            refine g_iinc (v := nI (j + 1)) d_R_stands_69 rfl (nI_1 _) (by decide) ?_
            refine g_goto 6 d_R_stands_72 (by decide) ?_
            have e1_ : sa P (j + 1) = (sa P j) &&& 0 := by
              show (if P 5 j = 2 then sa P j &&& 1 else sa P j &&& 0) = _
              rw [if_neg (show ¬ (P 5 j = 2) from c_22)]
            have e2_ : so P (j + 1) = (so P j) ||| 0 := by
              show (if P 5 j = 0 then so P j ||| 1 else if P 5 j = 1 then (if P 15 j = 4 then so P j ||| 1 else so P j ||| 0) else so P j ||| 0) = _
              rw [if_neg (show ¬ (P 5 j = 0) from c_39), if_neg (show ¬ (P 5 j = 1) from c_49)]
            have h_ := ih (j + 1) M (by omega) hR kk
            rw [e1_, e2_] at h_
            exact h_
          · skip
            refine g_aload_n d_R_stands_52 rfl ?_
            refine r_arr 15 hR (by decide) (by decide) fl_R_53 rfl d_R_stands_53 ?_
            refine g_iload_n d_R_stands_56 rfl ?_
            refine r_iald 15 j hR (by decide) rfl d_R_stands_57 rfl (by show j < 10; omega) ?_
            refine g_iconst (v := 4) d_R_stands_58 (by decide) ?_
            refine g_icmp_ne 66 d_R_stands_59 (by decide) (fun c_59 => ?_) (fun c_59 => ?_)
            · skip
              refine g_iconst (v := 0) d_R_stands_66 (by decide) ?_
              refine g_ior d_R_stands_67 ?_
              refine g_istore_n d_R_stands_68 (by decide) ?_
              refine g_iinc (v := nI (j + 1)) d_R_stands_69 rfl (nI_1 _) (by decide) ?_
              refine g_goto 6 d_R_stands_72 (by decide) ?_
              have e1_ : sa P (j + 1) = (sa P j) &&& 0 := by
                show (if P 5 j = 2 then sa P j &&& 1 else sa P j &&& 0) = _
                rw [if_neg (show ¬ (P 5 j = 2) from c_22)]
              have e2_ : so P (j + 1) = (so P j) ||| 0 := by
                show (if P 5 j = 0 then so P j ||| 1 else if P 5 j = 1 then (if P 15 j = 4 then so P j ||| 1 else so P j ||| 0) else so P j ||| 0) = _
                rw [if_neg (show ¬ (P 5 j = 0) from c_39), if_pos (show P 5 j = 1 from c_49), if_neg (show ¬ (P 15 j = 4) from c_59)]
              have h_ := ih (j + 1) M (by omega) hR kk
              rw [e1_, e2_] at h_
              exact h_
            · skip
              refine g_iconst (v := 1) d_R_stands_62 (by decide) ?_
              refine g_goto 67 d_R_stands_63 (by decide) ?_
              refine g_ior d_R_stands_67 ?_
              refine g_istore_n d_R_stands_68 (by decide) ?_
              refine g_iinc (v := nI (j + 1)) d_R_stands_69 rfl (nI_1 _) (by decide) ?_
              refine g_goto 6 d_R_stands_72 (by decide) ?_
              have e1_ : sa P (j + 1) = (sa P j) &&& 0 := by
                show (if P 5 j = 2 then sa P j &&& 1 else sa P j &&& 0) = _
                rw [if_neg (show ¬ (P 5 j = 2) from c_22)]
              have e2_ : so P (j + 1) = (so P j) ||| 1 := by
                show (if P 5 j = 0 then so P j ||| 1 else if P 5 j = 1 then (if P 15 j = 4 then so P j ||| 1 else so P j ||| 0) else so P j ||| 0) = _
                rw [if_neg (show ¬ (P 5 j = 0) from c_39), if_pos (show P 5 j = 1 from c_49), if_pos (show P 15 j = 4 from c_59)]
              have h_ := ih (j + 1) M (by omega) hR kk
              rw [e1_, e2_] at h_
              exact h_
      · skip
        refine g_iconst (v := 1) d_R_stands_25 (by decide) ?_
        refine g_goto 30 d_R_stands_26 (by decide) ?_
        refine g_iand d_R_stands_30 ?_
        refine g_istore_n d_R_stands_31 (by decide) ?_
        refine g_iload_n d_R_stands_32 rfl ?_
        refine g_aload_n d_R_stands_33 rfl ?_
        refine r_arr 5 hR (by decide) (by decide) fl_R_22 rfl d_R_stands_34 ?_
        refine g_iload_n d_R_stands_37 rfl ?_
        refine r_iald 5 j hR (by decide) rfl d_R_stands_38 rfl (by show j < 10; omega) ?_
        refine g_if_eq 62 d_R_stands_39 (by decide) (fun c_39 => ?_) (fun c_39 => ?_)
        · skip
          refine g_iconst (v := 1) d_R_stands_62 (by decide) ?_
          refine g_goto 67 d_R_stands_63 (by decide) ?_
          refine g_ior d_R_stands_67 ?_
          refine g_istore_n d_R_stands_68 (by decide) ?_
          refine g_iinc (v := nI (j + 1)) d_R_stands_69 rfl (nI_1 _) (by decide) ?_
          refine g_goto 6 d_R_stands_72 (by decide) ?_
          have e1_ : sa P (j + 1) = (sa P j) &&& 1 := by
            show (if P 5 j = 2 then sa P j &&& 1 else sa P j &&& 0) = _
            rw [if_pos (show P 5 j = 2 from c_22)]
          have e2_ : so P (j + 1) = (so P j) ||| 1 := by
            show (if P 5 j = 0 then so P j ||| 1 else if P 5 j = 1 then (if P 15 j = 4 then so P j ||| 1 else so P j ||| 0) else so P j ||| 0) = _
            rw [if_pos (show P 5 j = 0 from c_39)]
          have h_ := ih (j + 1) M (by omega) hR kk
          rw [e1_, e2_] at h_
          exact h_
        · skip
          refine g_aload_n d_R_stands_42 rfl ?_
          refine r_arr 5 hR (by decide) (by decide) fl_R_22 rfl d_R_stands_43 ?_
          refine g_iload_n d_R_stands_46 rfl ?_
          refine r_iald 5 j hR (by decide) rfl d_R_stands_47 rfl (by show j < 10; omega) ?_
          refine g_iconst (v := 1) d_R_stands_48 (by decide) ?_
          refine g_icmp_ne 66 d_R_stands_49 (by decide) (fun c_49 => ?_) (fun c_49 => ?_)
          · skip
            refine g_iconst (v := 0) d_R_stands_66 (by decide) ?_
            refine g_ior d_R_stands_67 ?_
            refine g_istore_n d_R_stands_68 (by decide) ?_
            refine g_iinc (v := nI (j + 1)) d_R_stands_69 rfl (nI_1 _) (by decide) ?_
            refine g_goto 6 d_R_stands_72 (by decide) ?_
            have e1_ : sa P (j + 1) = (sa P j) &&& 1 := by
              show (if P 5 j = 2 then sa P j &&& 1 else sa P j &&& 0) = _
              rw [if_pos (show P 5 j = 2 from c_22)]
            have e2_ : so P (j + 1) = (so P j) ||| 0 := by
              show (if P 5 j = 0 then so P j ||| 1 else if P 5 j = 1 then (if P 15 j = 4 then so P j ||| 1 else so P j ||| 0) else so P j ||| 0) = _
              rw [if_neg (show ¬ (P 5 j = 0) from c_39), if_neg (show ¬ (P 5 j = 1) from c_49)]
            have h_ := ih (j + 1) M (by omega) hR kk
            rw [e1_, e2_] at h_
            exact h_
          · skip
            refine g_aload_n d_R_stands_52 rfl ?_
            refine r_arr 15 hR (by decide) (by decide) fl_R_53 rfl d_R_stands_53 ?_
            refine g_iload_n d_R_stands_56 rfl ?_
            refine r_iald 15 j hR (by decide) rfl d_R_stands_57 rfl (by show j < 10; omega) ?_
            refine g_iconst (v := 4) d_R_stands_58 (by decide) ?_
            refine g_icmp_ne 66 d_R_stands_59 (by decide) (fun c_59 => ?_) (fun c_59 => ?_)
            · skip
              refine g_iconst (v := 0) d_R_stands_66 (by decide) ?_
              refine g_ior d_R_stands_67 ?_
              refine g_istore_n d_R_stands_68 (by decide) ?_
              refine g_iinc (v := nI (j + 1)) d_R_stands_69 rfl (nI_1 _) (by decide) ?_
              refine g_goto 6 d_R_stands_72 (by decide) ?_
              have e1_ : sa P (j + 1) = (sa P j) &&& 1 := by
                show (if P 5 j = 2 then sa P j &&& 1 else sa P j &&& 0) = _
                rw [if_pos (show P 5 j = 2 from c_22)]
              have e2_ : so P (j + 1) = (so P j) ||| 0 := by
                show (if P 5 j = 0 then so P j ||| 1 else if P 5 j = 1 then (if P 15 j = 4 then so P j ||| 1 else so P j ||| 0) else so P j ||| 0) = _
                rw [if_neg (show ¬ (P 5 j = 0) from c_39), if_pos (show P 5 j = 1 from c_49), if_neg (show ¬ (P 15 j = 4) from c_59)]
              have h_ := ih (j + 1) M (by omega) hR kk
              rw [e1_, e2_] at h_
              exact h_
            · skip
              refine g_iconst (v := 1) d_R_stands_62 (by decide) ?_
              refine g_goto 67 d_R_stands_63 (by decide) ?_
              refine g_ior d_R_stands_67 ?_
              refine g_istore_n d_R_stands_68 (by decide) ?_
              refine g_iinc (v := nI (j + 1)) d_R_stands_69 rfl (nI_1 _) (by decide) ?_
              refine g_goto 6 d_R_stands_72 (by decide) ?_
              have e1_ : sa P (j + 1) = (sa P j) &&& 1 := by
                show (if P 5 j = 2 then sa P j &&& 1 else sa P j &&& 0) = _
                rw [if_pos (show P 5 j = 2 from c_22)]
              have e2_ : so P (j + 1) = (so P j) ||| 1 := by
                show (if P 5 j = 0 then so P j ||| 1 else if P 5 j = 1 then (if P 15 j = 4 then so P j ||| 1 else so P j ||| 0) else so P j ||| 0) = _
                rw [if_neg (show ¬ (P 5 j = 0) from c_39), if_pos (show P 5 j = 1 from c_49), if_pos (show P 15 j = 4 from c_59)]
              have h_ := ih (j + 1) M (by omega) hR kk
              rw [e1_, e2_] at h_
              exact h_
def a_R_stands (P : Pst)  : Int32 := if so P (tn (P 42 0)) = 0 then if sa P (tn (P 42 0)) = 0 then 2 else 1 else 0
def p_R_stands (P : Pst)  : Pst := P
set_option maxHeartbeats 4000000 in
set_option maxRecDepth 100000 in
theorem c_R_stands (P : Pst)  (hb : P 42 0 = nI (tn (P 42 0))) (hb9 : tn (P 42 0) ≤ 10) : RC m_R_stands 0 [] P (some (.int (a_R_stands P ))) (p_R_stands P ) := by
  intro γ M hR
  refine Run.ofG (by decide) (by simp [cat_int, cat_rf]) (Nat.le_of_ble_eq_true rfl) ?_
  refine g_iconst (v := 1) d_R_stands_0 (by decide) ?_
  refine g_istore_n d_R_stands_1 (by decide) ?_
  refine g_iconst (v := 0) d_R_stands_2 (by decide) ?_
  refine g_istore_n d_R_stands_3 (by decide) ?_
  refine g_iconst (v := 0) d_R_stands_4 (by decide) ?_
  refine g_istore_n d_R_stands_5 (by decide) ?_
  refine lo_stands P (tn (P 42 0)) hb hb9 (Nat.le_refl _) (tn (P 42 0)) 0 M (by omega) hR (fun M hR => ?_)
  refine g_iload_n d_R_stands_75 rfl ?_
  refine g_if_eq 83 d_R_stands_76 (by decide) (fun c_76 => ?_) (fun c_76 => ?_)
  · skip
    refine g_iload_n d_R_stands_83 rfl ?_
    refine g_if_eq 91 d_R_stands_84 (by decide) (fun c_84 => ?_) (fun c_84 => ?_)
    · skip
      refine g_iconst (v := 2) d_R_stands_91 (by decide) ?_
      exact g_ireturn d_R_stands_92 rfl ⟨by unfold a_R_stands; rw [if_pos (show so P (tn (P 42 0)) = 0 from c_76), if_pos (show sa P (tn (P 42 0)) = 0 from c_84)]; try rfl, hR⟩
    · skip
      refine g_iconst (v := 1) d_R_stands_87 (by decide) ?_
      refine g_goto 92 d_R_stands_88 (by decide) ?_
      exact g_ireturn d_R_stands_92 rfl ⟨by unfold a_R_stands; rw [if_pos (show so P (tn (P 42 0)) = 0 from c_76), if_neg (show ¬ (sa P (tn (P 42 0)) = 0) from c_84)]; try rfl, hR⟩
  · skip
    refine g_iconst (v := 0) d_R_stands_79 (by decide) ?_
    refine g_goto 92 d_R_stands_80 (by decide) ?_
    exact g_ireturn d_R_stands_92 rfl ⟨by unfold a_R_stands; rw [if_neg (show ¬ (so P (tn (P 42 0)) = 0) from c_76)]; try rfl, hR⟩

def it_start (P : Pst) : Nat → Pst
  | 0 => P
  | j + 1 => up (up (up (up (it_start P j) 37 j 0) 38 j 0) 41 j 0) 39 j 1
set_option maxHeartbeats 4000000 in
set_option maxRecDepth 100000 in
theorem lo_start {γ : Rg} (P : Pst) (e v : Int32) {M0 : Mm} {Q : Option Value → Mm → Prop} {dep k n : Nat} (hdep : 0 ≤ dep) : ∀ (r j : Nat) (M : Mm), j + r = 4 → RR γ (it_start P j) M → (∀ M, RR γ (it_start P 4) M → G m_R_start ownR M0 Q dep k n M 91 [some (va_rf (some γ.1)), some (.int (e)), some (.int (v)), some (.int (nI 4))] []) → G m_R_start ownR M0 Q dep k n M 52 [some (va_rf (some γ.1)), some (.int (e)), some (.int (v)), some (.int (nI j))] [] := by
  intro r
  induction r with
  | zero =>
    intro j M hj hR kk
    refine g_iload_n d_R_start_52 rfl ?_
    refine g_iconst (v := 4) d_R_start_53 (by decide) ?_
    refine g_icmp_ge 91 d_R_start_54 (by decide) (fun c_54 => ?_) (fun c_54 => ?_)
    · skip
      obtain rfl : j = 4 := by omega
      exact kk M hR
    · exact absurd (ix_le (a := 4) rfl rfl (by omega) (by omega)) c_54
  | succ r ih =>
    intro j M hj hR kk
    refine g_iload_n d_R_start_52 rfl ?_
    refine g_iconst (v := 4) d_R_start_53 (by decide) ?_
    refine g_icmp_ge 91 d_R_start_54 (by decide) (fun c_54 => ?_) (fun c_54 => ?_)
    · exact absurd c_54 (ix_nle (a := 4) rfl rfl (by omega) (by omega))
    · skip
      refine g_aload_n d_R_start_57 rfl ?_
      refine r_arr 37 hR (by decide) (by decide) fl_R_119 rfl d_R_start_58 ?_
      refine g_iload_n d_R_start_61 rfl ?_
      refine g_iconst (v := 0) d_R_start_62 (by decide) ?_
      refine r_iast 37 j hR (by decide) rfl d_R_start_63 rfl (by show j < 4; omega) (fun M hR => ?_)
      refine g_aload_n d_R_start_64 rfl ?_
      refine r_arr 38 hR (by decide) (by decide) fl_R_122 rfl d_R_start_65 ?_
      refine g_iload_n d_R_start_68 rfl ?_
      refine g_iconst (v := 0) d_R_start_69 (by decide) ?_
      refine r_iast 38 j hR (by decide) rfl d_R_start_70 rfl (by show j < 4; omega) (fun M hR => ?_)
      refine g_aload_n d_R_start_71 rfl ?_
      refine r_arr 41 hR (by decide) (by decide) fl_R_131 rfl d_R_start_72 ?_
      refine g_iload_n d_R_start_75 rfl ?_
      refine g_iconst (v := 0) d_R_start_76 (by decide) ?_
      refine r_zast 41 j hR (by decide) rfl (by first | exact Or.inl rfl | exact Or.inr rfl | assumption | (simp_all; done)) d_R_start_77 rfl (by show j < 4; omega) (fun M hR => ?_)
      refine g_aload_n d_R_start_78 rfl ?_
      refine r_arr 39 hR (by decide) (by decide) fl_R_125 rfl d_R_start_79 ?_
      refine g_iload_n d_R_start_82 rfl ?_
      refine g_iconst (v := 1) d_R_start_83 (by decide) ?_
      refine r_iast 39 j hR (by decide) rfl d_R_start_84 rfl (by show j < 4; omega) (fun M hR => ?_)
      refine g_iinc (v := nI (j + 1)) d_R_start_85 rfl (nI_1 _) (by decide) ?_
      refine g_goto 52 d_R_start_88 (by decide) ?_
      exact ih (j + 1) M (by omega) hR kk
def a_R_start (P : Pst) (e : Int32) (v : Int32) : Int32 := if a_R_isEffect P e = 0 then 0 else 1
def p_R_start (P : Pst) (e : Int32) (v : Int32) : Pst := if a_R_isEffect P e = 0 then P else p_R_make (it_start (up (up (up (up (up (up (up (up P 51 0 1) 42 0 0) 43 0 0) 44 0 0) 45 0 0) 46 0 0) 47 0 0) 48 0 (-1)) 4) e v (-1)
set_option maxHeartbeats 4000000 in
set_option maxRecDepth 100000 in
theorem c_R_start (P : Pst) (e : Int32) (v : Int32) : RC m_R_start 2 [.int e, .int v] P (some (.int (a_R_start P e v))) (p_R_start P e v) := by
  intro γ M hR
  refine Run.ofG (by decide) (by simp [cat_int, cat_rf]) (Nat.le_of_ble_eq_true rfl) ?_
  refine g_aload_n d_R_start_0 rfl ?_
  refine g_iload_n d_R_start_1 rfl ?_
  refine r_call [.int (e)] hR cw_R_149 cv_R_isEffect d_R_start_2 rfl rfl ⟨by simp, by simp⟩ (by decide) (c_R_isEffect _ e) (fun M hR => ?_)
  refine g_if_ne 10 d_R_start_5 (by decide) (fun c_5 => ?_) (fun c_5 => ?_)
  · skip
    refine g_aload_n d_R_start_10 rfl ?_
    refine g_iconst (v := 1) d_R_start_11 (by decide) ?_
    refine r_putz 51 hR (by decide) rfl fl_R_159 (Or.inr (fun r h => by cases h; rfl)) rfl (by first | exact Or.inl rfl | exact Or.inr rfl | assumption | (simp_all; done)) d_R_start_12 (fun M hR => ?_)
    refine g_aload_n d_R_start_15 rfl ?_
    refine g_iconst (v := 0) d_R_start_16 (by decide) ?_
    refine r_puti 42 hR (by decide) rfl fl_R_153 (Or.inr (fun r h => by cases h; rfl)) rfl d_R_start_17 (fun M hR => ?_)
    refine g_aload_n d_R_start_20 rfl ?_
    refine g_iconst (v := 0) d_R_start_21 (by decide) ?_
    refine r_puti 43 hR (by decide) rfl fl_R_156 (Or.inr (fun r h => by cases h; rfl)) rfl d_R_start_22 (fun M hR => ?_)
    refine g_aload_n d_R_start_25 rfl ?_
    refine g_iconst (v := 0) d_R_start_26 (by decide) ?_
    refine r_puti 44 hR (by decide) rfl fl_R_163 (Or.inr (fun r h => by cases h; rfl)) rfl d_R_start_27 (fun M hR => ?_)
    refine g_aload_n d_R_start_30 rfl ?_
    refine g_iconst (v := 0) d_R_start_31 (by decide) ?_
    refine r_puti 45 hR (by decide) rfl fl_R_166 (Or.inr (fun r h => by cases h; rfl)) rfl d_R_start_32 (fun M hR => ?_)
    refine g_aload_n d_R_start_35 rfl ?_
    refine g_iconst (v := 0) d_R_start_36 (by decide) ?_
    refine r_puti 46 hR (by decide) rfl fl_R_169 (Or.inr (fun r h => by cases h; rfl)) rfl d_R_start_37 (fun M hR => ?_)
    refine g_aload_n d_R_start_40 rfl ?_
    refine g_iconst (v := 0) d_R_start_41 (by decide) ?_
    refine r_puti 47 hR (by decide) rfl fl_R_172 (Or.inr (fun r h => by cases h; rfl)) rfl d_R_start_42 (fun M hR => ?_)
    refine g_aload_n d_R_start_45 rfl ?_
    refine g_iconst (v := -1) d_R_start_46 (by decide) ?_
    refine r_puti 48 hR (by decide) rfl fl_R_134 (Or.inr (fun r h => by cases h; rfl)) rfl d_R_start_47 (fun M hR => ?_)
    refine g_iconst (v := 0) d_R_start_50 (by decide) ?_
    refine g_istore_n d_R_start_51 (by decide) ?_
    refine lo_start (up (up (up (up (up (up (up (up P 51 0 1) 42 0 0) 43 0 0) 44 0 0) 45 0 0) 46 0 0) 47 0 0) 48 0 (-1)) e v (Nat.zero_le _) 4 0 M rfl hR (fun M hR => ?_)
    refine g_aload_n d_R_start_91 rfl ?_
    refine g_iload_n d_R_start_92 rfl ?_
    refine g_iload_n d_R_start_93 rfl ?_
    refine g_iconst (v := -1) d_R_start_94 (by decide) ?_
    refine r_call [.int (e), .int (v), .int (-1)] hR cw_R_175 cv_R_make d_R_start_95 rfl rfl ⟨by simp, by simp⟩ (by decide) (c_R_make _ e v (-1) rfl (show tn (0 : Int32) < 10 by decide) rfl (show tn (0 : Int32) < 10 by decide)) (fun M hR => ?_)
    refine g_pop d_R_start_98 rfl ?_
    refine g_iconst (v := 1) d_R_start_99 (by decide) ?_
    exact g_zreturn d_R_start_100 rfl (by first | exact Or.inl rfl | exact Or.inr rfl | assumption | (simp_all; done)) ⟨by unfold a_R_start; rw [if_neg (show ¬ (a_R_isEffect P e = 0) from c_5)]; try rfl, by unfold p_R_start; rw [if_neg (show ¬ (a_R_isEffect P e = 0) from c_5)]; exact hR⟩
  · skip
    refine g_iconst (v := 0) d_R_start_8 (by decide) ?_
    exact g_zreturn d_R_start_9 rfl (by first | exact Or.inl rfl | exact Or.inr rfl | assumption | (simp_all; done)) ⟨by unfold a_R_start; rw [if_pos (show a_R_isEffect P e = 0 from c_5)]; try rfl, by unfold p_R_start; rw [if_pos (show a_R_isEffect P e = 0 from c_5)]; exact hR⟩

def dn_join (row : Nat) : Nat → Pst → Pst
  | 0, P => P
  | k + 1, P => dn_join row k (up (up P 34 ((9 * row) + (k + 1)) (P 34 (((9 * row) + (k + 1)) - 1))) 35 ((9 * row) + (k + 1)) (P 35 (((9 * row) + (k + 1)) - 1)))
def it_join (P : Pst) (row nn oth : Nat) : Nat → Pst
  | 0 => P
  | j + 1 => up (up (it_join P row nn oth j) 34 ((((9 * row) + nn) + 1) + j) (it_join P row nn oth j 34 ((9 * oth) + j))) 35 ((((9 * row) + nn) + 1) + j) (it_join P row nn oth j 35 ((9 * oth) + j))
set_option maxHeartbeats 4000000 in
set_option maxRecDepth 100000 in
theorem lo_join1 {γ : Rg} (row oth : Nat) (t xn xm : Int32) (hr : row < 171) {M0 : Mm} {Q : Option Value → Mm → Prop} {dep k n : Nat} : ∀ (c : Nat) (x : Int32) (P : Pst) (M : Mm), c ≤ 8 → x = nI c → RR γ P M → (∀ (x : Int32) M, RR γ (dn_join row c P) M → G m_R_join ownR M0 Q dep k n M 96 [some (va_rf (some γ.1)), some (.int (nI row)), some (.int (nI oth)), some (.int (t)), some (.int (xn)), some (.int (xm)), some (.int (x))] []) → G m_R_join ownR M0 Q dep k n M 33 [some (va_rf (some γ.1)), some (.int (nI row)), some (.int (nI oth)), some (.int (t)), some (.int (xn)), some (.int (xm)), some (.int (x))] [] := by
  intro c
  induction c with
  | zero =>
    intro x P M hc hx hR kk
    refine g_iload d_R_join_33 rfl ?_
    refine g_if_le 96 d_R_join_35 (by decide) (fun c_35 => ?_) (fun c_35 => ?_)
    · skip
      exact kk x M hR
    · exact absurd (by rw [hx]; decide) c_35
  | succ c ih =>
    intro x P M hc hx hR kk
    refine g_iload d_R_join_33 rfl ?_
    refine g_if_le 96 d_R_join_35 (by decide) (fun c_35 => ?_) (fun c_35 => ?_)
    · exact absurd c_35 (ix_pos hx (by omega) (by omega))
    · skip
      refine g_aload_n d_R_join_38 rfl ?_
      refine r_arr 34 hR (by decide) (by decide) fl_R_110 rfl d_R_join_39 ?_
      refine g_bipush (v := 9) d_R_join_42 (by decide) ?_
      refine g_iload_n d_R_join_44 rfl ?_
      refine g_imul d_R_join_45 ?_
      refine g_iload d_R_join_46 rfl ?_
      refine g_iadd d_R_join_48 ?_
      refine g_aload_n d_R_join_49 rfl ?_
      refine r_arr 34 hR (by decide) (by decide) fl_R_110 rfl d_R_join_50 ?_
      refine g_bipush (v := 9) d_R_join_53 (by decide) ?_
      refine g_iload_n d_R_join_55 rfl ?_
      refine g_imul d_R_join_56 ?_
      refine g_iload d_R_join_57 rfl ?_
      refine g_iadd d_R_join_59 ?_
      refine g_iconst (v := 1) d_R_join_60 (by decide) ?_
      refine g_isub d_R_join_61 ?_
      refine r_iald 34 (((9 * row) + (c + 1)) - 1) hR (by decide) rfl d_R_join_62 (ix_sub (ix_add (ix_mul rfl rfl) hx) rfl (by omega)) (by show ((9 * row) + (c + 1)) - 1 < 1539; omega) ?_
      refine r_iast 34 ((9 * row) + (c + 1)) hR (by decide) rfl d_R_join_63 (ix_add (ix_mul rfl rfl) hx) (by show (9 * row) + (c + 1) < 1539; omega) (fun M hR => ?_)
      refine g_aload_n d_R_join_64 rfl ?_
      refine r_arr 35 hR (by decide) (by decide) fl_R_113 rfl d_R_join_65 ?_
      refine g_bipush (v := 9) d_R_join_68 (by decide) ?_
      refine g_iload_n d_R_join_70 rfl ?_
      refine g_imul d_R_join_71 ?_
      refine g_iload d_R_join_72 rfl ?_
      refine g_iadd d_R_join_74 ?_
      refine g_aload_n d_R_join_75 rfl ?_
      refine r_arr 35 hR (by decide) (by decide) fl_R_113 rfl d_R_join_76 ?_
      refine g_bipush (v := 9) d_R_join_79 (by decide) ?_
      refine g_iload_n d_R_join_81 rfl ?_
      refine g_imul d_R_join_82 ?_
      refine g_iload d_R_join_83 rfl ?_
      refine g_iadd d_R_join_85 ?_
      refine g_iconst (v := 1) d_R_join_86 (by decide) ?_
      refine g_isub d_R_join_87 ?_
      refine r_iald 35 (((9 * row) + (c + 1)) - 1) hR (by decide) rfl d_R_join_88 (ix_sub (ix_add (ix_mul rfl rfl) hx) rfl (by omega)) (by show ((9 * row) + (c + 1)) - 1 < 1539; omega) ?_
      refine r_iast 35 ((9 * row) + (c + 1)) hR (by decide) rfl d_R_join_89 (ix_add (ix_mul rfl rfl) hx) (by show (9 * row) + (c + 1) < 1539; omega) (fun M hR => ?_)
      refine g_iinc (v := x + (-1)) d_R_join_90 rfl rfl (by decide) ?_
      refine g_goto 33 d_R_join_93 (by decide) ?_
      exact ih _ _ M (by omega) (ix_dec hx (by omega)) hR kk
set_option maxHeartbeats 4000000 in
set_option maxRecDepth 100000 in
theorem lo_join2 {γ : Rg} (P : Pst) (row nn oth : Nat) (t : Int32) (mm : Nat) (xn xm : Int32) (hxn : xn = nI nn) (hxm : xm = nI mm) (hr : row < 171) (ho : oth < 171) (hnm : nn + mm + 1 ≤ 9) {M0 : Mm} {Q : Option Value → Mm → Prop} {dep k n : Nat} (hdep : 0 ≤ dep) : ∀ (r j : Nat) (M : Mm), j + r = mm → RR γ (it_join P row nn oth j) M → (∀ M, RR γ (it_join P row nn oth mm) M → G m_R_join ownR M0 Q dep k n M 190 [some (va_rf (some γ.1)), some (.int (nI row)), some (.int (nI oth)), some (.int (t)), some (.int (xn)), some (.int (xm)), some (.int (nI mm))] []) → G m_R_join ownR M0 Q dep k n M 119 [some (va_rf (some γ.1)), some (.int (nI row)), some (.int (nI oth)), some (.int (t)), some (.int (xn)), some (.int (xm)), some (.int (nI j))] [] := by
  intro r
  induction r with
  | zero =>
    intro j M hj hR kk
    refine g_iload d_R_join_119 rfl ?_
    refine g_iload d_R_join_121 rfl ?_
    refine g_icmp_ge 190 d_R_join_123 (by decide) (fun c_123 => ?_) (fun c_123 => ?_)
    · skip
      obtain rfl : j = mm := by omega
      exact kk M hR
    · exact absurd (ix_le (a := mm) hxm rfl (by omega) (by omega)) c_123
  | succ r ih =>
    intro j M hj hR kk
    refine g_iload d_R_join_119 rfl ?_
    refine g_iload d_R_join_121 rfl ?_
    refine g_icmp_ge 190 d_R_join_123 (by decide) (fun c_123 => ?_) (fun c_123 => ?_)
    · exact absurd c_123 (ix_nle (a := mm) hxm rfl (by omega) (by omega))
    · skip
      refine g_aload_n d_R_join_126 rfl ?_
      refine r_arr 34 hR (by decide) (by decide) fl_R_110 rfl d_R_join_127 ?_
      refine g_bipush (v := 9) d_R_join_130 (by decide) ?_
      refine g_iload_n d_R_join_132 rfl ?_
      refine g_imul d_R_join_133 ?_
      refine g_iload d_R_join_134 rfl ?_
      refine g_iadd d_R_join_136 ?_
      refine g_iconst (v := 1) d_R_join_137 (by decide) ?_
      refine g_iadd d_R_join_138 ?_
      refine g_iload d_R_join_139 rfl ?_
      refine g_iadd d_R_join_141 ?_
      refine g_aload_n d_R_join_142 rfl ?_
      refine r_arr 34 hR (by decide) (by decide) fl_R_110 rfl d_R_join_143 ?_
      refine g_bipush (v := 9) d_R_join_146 (by decide) ?_
      refine g_iload_n d_R_join_148 rfl ?_
      refine g_imul d_R_join_149 ?_
      refine g_iload d_R_join_150 rfl ?_
      refine g_iadd d_R_join_152 ?_
      refine r_iald 34 ((9 * oth) + j) hR (by decide) rfl d_R_join_153 (ix_add (ix_mul rfl rfl) rfl) (by show (9 * oth) + j < 1539; omega) ?_
      refine r_iast 34 ((((9 * row) + nn) + 1) + j) hR (by decide) rfl d_R_join_154 (ix_add (ix_add (ix_add (ix_mul rfl rfl) hxn) rfl) rfl) (by show (((9 * row) + nn) + 1) + j < 1539; omega) (fun M hR => ?_)
      refine g_aload_n d_R_join_155 rfl ?_
      refine r_arr 35 hR (by decide) (by decide) fl_R_113 rfl d_R_join_156 ?_
      refine g_bipush (v := 9) d_R_join_159 (by decide) ?_
      refine g_iload_n d_R_join_161 rfl ?_
      refine g_imul d_R_join_162 ?_
      refine g_iload d_R_join_163 rfl ?_
      refine g_iadd d_R_join_165 ?_
      refine g_iconst (v := 1) d_R_join_166 (by decide) ?_
      refine g_iadd d_R_join_167 ?_
      refine g_iload d_R_join_168 rfl ?_
      refine g_iadd d_R_join_170 ?_
      refine g_aload_n d_R_join_171 rfl ?_
      refine r_arr 35 hR (by decide) (by decide) fl_R_113 rfl d_R_join_172 ?_
      refine g_bipush (v := 9) d_R_join_175 (by decide) ?_
      refine g_iload_n d_R_join_177 rfl ?_
      refine g_imul d_R_join_178 ?_
      refine g_iload d_R_join_179 rfl ?_
      refine g_iadd d_R_join_181 ?_
      refine r_iald 35 ((9 * oth) + j) hR (by decide) rfl d_R_join_182 (ix_add (ix_mul rfl rfl) rfl) (by show (9 * oth) + j < 1539; omega) ?_
      refine r_iast 35 ((((9 * row) + nn) + 1) + j) hR (by decide) rfl d_R_join_183 (ix_add (ix_add (ix_add (ix_mul rfl rfl) hxn) rfl) rfl) (by show (((9 * row) + nn) + 1) + j < 1539; omega) (fun M hR => ?_)
      refine g_iinc (v := nI (j + 1)) d_R_join_184 rfl (nI_1 _) (by decide) ?_
      refine g_goto 119 d_R_join_187 (by decide) ?_
      exact ih (j + 1) M (by omega) hR kk
def p_R_join (P : Pst) (row : Nat) (oth : Nat) (t : Int32) : Pst := if ((P 33 row) + (P 33 oth)) + 1 ≤ 9 then up (it_join (up (up (dn_join row (tn (P 33 row)) P) 34 (9 * row) t) 35 (9 * row) 0) row (tn (P 33 row)) oth (tn (P 33 oth))) 33 row (((P 33 row) + (P 33 oth)) + 1) else P
set_option maxHeartbeats 4000000 in
set_option maxRecDepth 100000 in
theorem c_R_join (P : Pst) (row : Nat) (oth : Nat) (t : Int32) (hr : row < 171) (ho : oth < 171) (hn : P 33 row = nI (tn (P 33 row))) (hn9 : tn (P 33 row) ≤ 9) (hm : P 33 oth = nI (tn (P 33 oth))) (hm9 : tn (P 33 oth) ≤ 9) : RC m_R_join 0 [.int (nI row), .int (nI oth), .int t] P none (p_R_join P row oth t) := by
  intro γ M hR
  refine Run.ofG (by decide) (by simp [cat_int, cat_rf]) (Nat.le_of_ble_eq_true rfl) ?_
  refine g_aload_n d_R_join_0 rfl ?_
  refine r_arr 33 hR (by decide) (by decide) fl_R_107 rfl d_R_join_1 ?_
  refine g_iload_n d_R_join_4 rfl ?_
  refine r_iald 33 row hR (by decide) rfl d_R_join_5 rfl (by show row < 171; omega) ?_
  refine g_istore d_R_join_6 (by decide) ?_
  refine g_aload_n d_R_join_8 rfl ?_
  refine r_arr 33 hR (by decide) (by decide) fl_R_107 rfl d_R_join_9 ?_
  refine g_iload_n d_R_join_12 rfl ?_
  refine r_iald 33 oth hR (by decide) rfl d_R_join_13 rfl (by show oth < 171; omega) ?_
  refine g_istore d_R_join_14 (by decide) ?_
  refine g_iload d_R_join_16 rfl ?_
  refine g_iload d_R_join_18 rfl ?_
  refine g_iadd d_R_join_20 ?_
  refine g_iconst (v := 1) d_R_join_21 (by decide) ?_
  refine g_iadd d_R_join_22 ?_
  refine g_bipush (v := 9) d_R_join_23 (by decide) ?_
  refine g_icmp_le 29 d_R_join_25 (by decide) (fun c_25 => ?_) (fun c_25 => ?_)
  · have hnm : tn (P 33 row) + tn (P 33 oth) + 1 ≤ 9 := ix_le_of (ix_add (ix_add hn hm) rfl) (rfl : (9 : Int32) = nI 9) (by omega) (by omega) c_25
    refine g_iload d_R_join_29 rfl ?_
    refine g_istore d_R_join_31 (by decide) ?_
    refine lo_join1 row oth t (P 33 row) (P 33 oth) hr (tn (P 33 row)) (P 33 row) P M (by omega) hn hR (fun x_ M hR => ?_)
    refine g_aload_n d_R_join_96 rfl ?_
    refine r_arr 34 hR (by decide) (by decide) fl_R_110 rfl d_R_join_97 ?_
    refine g_bipush (v := 9) d_R_join_100 (by decide) ?_
    refine g_iload_n d_R_join_102 rfl ?_
    refine g_imul d_R_join_103 ?_
    refine g_iload_n d_R_join_104 rfl ?_
    refine r_iast 34 (9 * row) hR (by decide) rfl d_R_join_105 (ix_mul rfl rfl) (by show 9 * row < 1539; omega) (fun M hR => ?_)
    refine g_aload_n d_R_join_106 rfl ?_
    refine r_arr 35 hR (by decide) (by decide) fl_R_113 rfl d_R_join_107 ?_
    refine g_bipush (v := 9) d_R_join_110 (by decide) ?_
    refine g_iload_n d_R_join_112 rfl ?_
    refine g_imul d_R_join_113 ?_
    refine g_iconst (v := 0) d_R_join_114 (by decide) ?_
    refine r_iast 35 (9 * row) hR (by decide) rfl d_R_join_115 (ix_mul rfl rfl) (by show 9 * row < 1539; omega) (fun M hR => ?_)
    refine g_iconst (v := 0) d_R_join_116 (by decide) ?_
    refine g_istore d_R_join_117 (by decide) ?_
    refine lo_join2 (up (up (dn_join row (tn (P 33 row)) P) 34 (9 * row) t) 35 (9 * row) 0) row (tn (P 33 row)) oth t (tn (P 33 oth)) (P 33 row) (P 33 oth) hn hm hr ho hnm (Nat.zero_le _) (tn (P 33 oth)) 0 M (by omega) hR (fun M hR => ?_)
    refine g_aload_n d_R_join_190 rfl ?_
    refine r_arr 33 hR (by decide) (by decide) fl_R_107 rfl d_R_join_191 ?_
    refine g_iload_n d_R_join_194 rfl ?_
    refine g_iload d_R_join_195 rfl ?_
    refine g_iload d_R_join_197 rfl ?_
    refine g_iadd d_R_join_199 ?_
    refine g_iconst (v := 1) d_R_join_200 (by decide) ?_
    refine g_iadd d_R_join_201 ?_
    refine r_iast 33 row hR (by decide) rfl d_R_join_202 rfl (by show row < 171; omega) (fun M hR => ?_)
    exact g_return d_R_join_203 rfl ⟨rfl, by unfold p_R_join; rw [if_pos (show ((P 33 row) + (P 33 oth)) + 1 ≤ 9 from c_25)]; exact hR⟩
  · skip
    exact g_return d_R_join_28 rfl ⟨rfl, by unfold p_R_join; rw [if_neg (show ¬ (((P 33 row) + (P 33 oth)) + 1 ≤ 9) from c_25)]; exact hR⟩

