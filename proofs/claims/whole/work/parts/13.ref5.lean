/-! the reference's methods, further (by program: wip/tools/gen_ref5.py) -/
theorem n16 (f : Nat) : (16 : Int32) * nI f = nI (16 * f) := ix_mul rfl rfl
theorem s1_ {a : Nat} (h : 1 ≤ a) : nI a - 1 = nI (a - 1) := ix_sub rfl rfl h
theorem m1_lt {a : Nat} (h : a < 2 ^ 30) : nI a - 1 < nI a := by
  rcases Nat.eq_zero_or_pos a with e | e
  · rw [e]; decide
  · rw [s1_ e]
    exact nI_lt (by omega) (by omega)
theorem ix_nlt {x y : Int32} {a b : Nat} (hx : x = nI a) (hy : y = nI b) (h : b ≤ a) (ha : a < 2 ^ 31) : ¬ x < y := by rw [hx, hy]; exact nI_nlt h ha
theorem m1_add (y : Int32) : y + (-1) = y - 1 := (Int32.sub_eq_add_neg y 1).symm
/-- the innermost scope that isn't closing, counted from 1; 0: none -/
def rsc (P : Pst) (f : Nat) : Nat → Nat
  | 0 => 0
  | p + 1 => if P 23 ((16 * f) + p) = 10 then (if P 25 ((16 * f) + p) = 9 then rsc P f p else p + 1) else rsc P f p
theorem rsc_le (P : Pst) (f : Nat) : ∀ p, rsc P f p ≤ p
  | 0 => Nat.le_refl 0
  | p + 1 => by
    have := rsc_le P f p
    unfold rsc
    repeat' split
    all_goals omega

set_option maxHeartbeats 4000000 in
set_option maxRecDepth 100000 in
theorem lo_reg {γ : Rg} (P : Pst) (f : Nat) (e v : Int32) (hf : f < 10) {M0 : Mm} {Q : Option Value → Mm → Prop} {dep k n : Nat} : ∀ (p : Nat) (x : Int32) (M : Mm), p ≤ 16 → x = nI (16 * f + p) - 1 → RR γ P M → (∀ (x : Int32) M, x = nI (16 * f + rsc P f p) - 1 → RR γ P M → G m_R_register ownR M0 Q dep k n M 54 [some (va_rf (some γ.1)), some (.int (nI f)), some (.int (e)), some (.int (v)), some (.int (x))] []) → G m_R_register ownR M0 Q dep k n M 15 [some (va_rf (some γ.1)), some (.int (nI f)), some (.int (e)), some (.int (v)), some (.int (x))] [] := by
  intro p
  induction p with
  | zero =>
    intro x M hp hx hR kk
    refine g_iload d_R_register_15 rfl ?_
    refine g_bipush (v := 16) d_R_register_17 (by decide) ?_
    refine g_iload_n d_R_register_19 rfl ?_
    refine g_imul d_R_register_20 ?_
    refine g_icmp_lt 54 d_R_register_21 (by decide) (fun c_21 => ?_) (fun c_21 => ?_)
    · skip
      exact kk x M hx hR
    · exact absurd (by rw [hx, n16]; exact m1_lt (by omega)) c_21
  | succ p ih =>
    intro x M hp hx hR kk
    have hx2 : x = nI ((16 * f) + p) := by rw [hx, s1_ (by omega)]; rfl
    refine g_iload d_R_register_15 rfl ?_
    refine g_bipush (v := 16) d_R_register_17 (by decide) ?_
    refine g_iload_n d_R_register_19 rfl ?_
    refine g_imul d_R_register_20 ?_
    refine g_icmp_lt 54 d_R_register_21 (by decide) (fun c_21 => ?_) (fun c_21 => ?_)
    · exact absurd c_21 (ix_nlt hx2 (n16 f) (by omega) (by omega))
    · skip
      refine g_aload_n d_R_register_24 rfl ?_
      refine r_arr 23 hR (by decide) (by decide) fl_R_77 rfl d_R_register_25 ?_
      refine g_iload d_R_register_28 rfl ?_
      refine r_iald 23 ((16 * f) + p) hR (by decide) rfl d_R_register_30 hx2 (by show (16 * f) + p < 160; omega) ?_
      refine g_bipush (v := 10) d_R_register_31 (by decide) ?_
      refine g_icmp_ne 48 d_R_register_33 (by decide) (fun c_33 => ?_) (fun c_33 => ?_)
      · skip
        refine g_iinc (v := x + (-1)) d_R_register_48 rfl rfl (by decide) ?_
        refine g_goto 15 d_R_register_51 (by decide) ?_
        have e_ : rsc P f (p + 1) = rsc P f p := by
          show (if P 23 ((16 * f) + p) = 10 then (if P 25 ((16 * f) + p) = 9 then rsc P f p else p + 1) else rsc P f p) = _
          rw [if_neg (show ¬ (P 23 ((16 * f) + p) = 10) from c_33)]
        refine ih _ M (by omega) (by rw [hx2, m1_add]) hR (fun x M hx hR => kk x M (by rw [hx, e_]) hR)
      · skip
        refine g_aload_n d_R_register_36 rfl ?_
        refine r_arr 25 hR (by decide) (by decide) fl_R_83 rfl d_R_register_37 ?_
        refine g_iload d_R_register_40 rfl ?_
        refine r_iald 25 ((16 * f) + p) hR (by decide) rfl d_R_register_42 hx2 (by show (16 * f) + p < 160; omega) ?_
        refine g_bipush (v := 9) d_R_register_43 (by decide) ?_
        refine g_icmp_ne 54 d_R_register_45 (by decide) (fun c_45 => ?_) (fun c_45 => ?_)
        · skip
          refine kk x M ?_ hR
          rw [hx]
          have e_ : rsc P f (p + 1) = p + 1 := by
            show (if P 23 ((16 * f) + p) = 10 then (if P 25 ((16 * f) + p) = 9 then rsc P f p else p + 1) else rsc P f p) = _
            rw [if_pos (show P 23 ((16 * f) + p) = 10 from c_33), if_neg (show ¬ (P 25 ((16 * f) + p) = 9) from c_45)]
          rw [e_]
        · skip
          refine g_iinc (v := x + (-1)) d_R_register_48 rfl rfl (by decide) ?_
          refine g_goto 15 d_R_register_51 (by decide) ?_
          have e_ : rsc P f (p + 1) = rsc P f p := by
            show (if P 23 ((16 * f) + p) = 10 then (if P 25 ((16 * f) + p) = 9 then rsc P f p else p + 1) else rsc P f p) = _
            rw [if_pos (show P 23 ((16 * f) + p) = 10 from c_33), if_pos (show P 25 ((16 * f) + p) = 9 from c_45)]
          refine ih _ M (by omega) (by rw [hx2, m1_add]) hR (fun x M hx hR => kk x M (by rw [hx, e_]) hR)
theorem reg_pos {P : Pst} {f : Nat} (hf : f < 10) (hd : sm (P 22 f) 16) (c : ¬ nI (16 * f + rsc P f (tn (P 22 f))) - 1 < 16 * nI f) : 1 ≤ rsc P f (tn (P 22 f)) := by
  rcases Nat.eq_zero_or_pos (rsc P f (tn (P 22 f))) with e | e
  · rw [e, n16] at c
    exact absurd (m1_lt (by omega)) c
  · exact e
theorem reg_nat {P : Pst} {f : Nat} (hf : f < 10) (hd : sm (P 22 f) 16) (c : ¬ nI (16 * f + rsc P f (tn (P 22 f))) - 1 < 16 * nI f) : nI (16 * f + rsc P f (tn (P 22 f))) - 1 = nI ((16 * f) + (rsc P f (tn (P 22 f)) - 1)) := by
  have h1 := reg_pos hf hd c
  rw [s1_ (by omega)]
  congr 1
  omega
theorem reg_4 {x : Int32} (h : sm x 4) (c : ¬ x = 4) : tn x < 4 := by
  have h2 := h.2
  rcases Nat.lt_or_ge (tn x) 4 with q | q
  · exact q
  · exact absurd (by rw [h.1, show tn x = 4 by omega]; rfl) c
theorem reg_4s {x : Int32} (h : sm x 4) (c : ¬ x = 4) : sm (x + 1) 4 := sm_inc' h.1 (reg_4 h c) (by decide)
def p_R_register (P : Pst) (f : Nat) (e : Int32) (v : Int32) : Pst := if nI (16 * f + rsc P f (tn (P 22 f))) - 1 < 16 * (nI f) then p_R_fail P f 2 (-3) else if P 28 ((16 * f) + (rsc P f (tn (P 22 f)) - 1)) = 4 then p_R_fail P f 2 (-3) else p_R_give (up (up (up P 29 ((4 * ((16 * f) + (rsc P f (tn (P 22 f)) - 1))) + (tn (P 28 ((16 * f) + (rsc P f (tn (P 22 f)) - 1))))) e) 30 ((4 * ((16 * f) + (rsc P f (tn (P 22 f)) - 1))) + (tn (P 28 ((16 * f) + (rsc P f (tn (P 22 f)) - 1))))) v) 28 ((16 * f) + (rsc P f (tn (P 22 f)) - 1)) ((P 28 ((16 * f) + (rsc P f (tn (P 22 f)) - 1))) + 1)) f v
set_option maxHeartbeats 4000000 in
set_option maxRecDepth 100000 in
theorem c_R_register (P : Pst) (f : Nat) (e : Int32) (v : Int32) (hW : WB P) (hf : f < 10) : RC m_R_register 2 [.int (nI f), .int e, .int v] P none (p_R_register P f e v) := by
  intro γ M hR
  have hd : sm (P 22 f) 16 := hW 22 f
  have hdb := hd.2
  refine Run.ofG (by decide) (by simp [cat_int, cat_rf]) (Nat.le_of_ble_eq_true rfl) ?_
  refine g_bipush (v := 16) d_R_register_0 (by decide) ?_
  refine g_iload_n d_R_register_2 rfl ?_
  refine g_imul d_R_register_3 ?_
  refine g_aload_n d_R_register_4 rfl ?_
  refine r_arr 22 hR (by decide) (by decide) fl_R_74 rfl d_R_register_5 ?_
  refine g_iload_n d_R_register_8 rfl ?_
  refine r_iald 22 f hR (by decide) rfl d_R_register_9 rfl (by show f < 10; first | omega | (have h5_ := reg_4 (show sm _ 4 from hW 28 _) c_71; omega)) ?_
  have w_1 : sm (P 22 f) 16 := hW 22 f
  have w_1b := w_1.2
  refine g_iadd d_R_register_10 ?_
  refine g_iconst (v := 1) d_R_register_11 (by decide) ?_
  refine g_isub d_R_register_12 ?_
  refine g_istore d_R_register_13 (by decide) ?_
  refine lo_reg P f e v hf (tn (P 22 f)) _ M hd.2 (by rw [ix_add (n16 f) hd.1]) hR (fun x M hx hR => ?_)
  subst hx
  refine g_iload d_R_register_54 rfl ?_
  refine g_bipush (v := 16) d_R_register_56 (by decide) ?_
  refine g_iload_n d_R_register_58 rfl ?_
  refine g_imul d_R_register_59 ?_
  refine g_icmp_lt 74 d_R_register_60 (by decide) (fun c_60 => ?_) (fun c_60 => ?_)
  · skip
    refine g_aload_n d_R_register_74 rfl ?_
    refine g_iload_n d_R_register_75 rfl ?_
    refine g_iconst (v := 2) d_R_register_76 (by decide) ?_
    refine g_bipush (v := -3) d_R_register_77 (by decide) ?_
    refine r_call [.int (nI f), .int (2), .int (-3)] hR cw_R_218 cv_R_fail d_R_register_79 rfl rfl ⟨by simp, by simp⟩ (by decide) (c_R_fail _ f 2 (-3) (by omega)) (fun M hR => ?_)
    exact g_return d_R_register_82 rfl ⟨rfl, by unfold p_R_register; rw [if_pos (show nI (16 * f + rsc P f (tn (P 22 f))) - 1 < 16 * (nI f) from c_60)]; exact hR⟩
  · have hx_ := reg_nat hf (show sm (P 22 f) 16 from hW 22 f) c_60; have hs_ := Nat.le_trans (rsc_le P f (tn (P 22 f))) (show sm (P 22 f) 16 from hW 22 f).2; have h1_ := reg_pos hf (show sm (P 22 f) 16 from hW 22 f) c_60
    refine g_aload_n d_R_register_63 rfl ?_
    refine r_arr 28 hR (by decide) (by decide) fl_R_92 rfl d_R_register_64 ?_
    refine g_iload d_R_register_67 rfl ?_
    refine r_iald 28 ((16 * f) + (rsc P f (tn (P 22 f)) - 1)) hR (by decide) rfl d_R_register_69 hx_ (by show (16 * f) + (rsc P f (tn (P 22 f)) - 1) < 160; first | omega | (have h5_ := reg_4 (show sm _ 4 from hW 28 _) c_71; omega)) ?_
    have w_2 : sm (P 28 ((16 * f) + (rsc P f (tn (P 22 f)) - 1))) 4 := hW 28 ((16 * f) + (rsc P f (tn (P 22 f)) - 1))
    have w_2b := w_2.2
    refine g_iconst (v := 4) d_R_register_70 (by decide) ?_
    refine g_icmp_ne 83 d_R_register_71 (by decide) (fun c_71 => ?_) (fun c_71 => ?_)
    · skip
      refine g_aload_n d_R_register_83 rfl ?_
      refine r_arr 29 hR (by decide) (by decide) fl_R_95 rfl d_R_register_84 ?_
      refine g_iconst (v := 4) d_R_register_87 (by decide) ?_
      refine g_iload d_R_register_88 rfl ?_
      refine g_imul d_R_register_90 ?_
      refine g_aload_n d_R_register_91 rfl ?_
      refine r_arr 28 hR (by decide) (by decide) fl_R_92 rfl d_R_register_92 ?_
      refine g_iload d_R_register_95 rfl ?_
      refine r_iald 28 ((16 * f) + (rsc P f (tn (P 22 f)) - 1)) hR (by decide) rfl d_R_register_97 hx_ (by show (16 * f) + (rsc P f (tn (P 22 f)) - 1) < 160; first | omega | (have h5_ := reg_4 (show sm _ 4 from hW 28 _) c_71; omega)) ?_
      have w_3 : sm (P 28 ((16 * f) + (rsc P f (tn (P 22 f)) - 1))) 4 := hW 28 ((16 * f) + (rsc P f (tn (P 22 f)) - 1))
      have w_3b := w_3.2
      refine g_iadd d_R_register_98 ?_
      refine g_iload_n d_R_register_99 rfl ?_
      refine r_iast 29 ((4 * ((16 * f) + (rsc P f (tn (P 22 f)) - 1))) + (tn (P 28 ((16 * f) + (rsc P f (tn (P 22 f)) - 1))))) hR (by decide) rfl d_R_register_100 (ix_add (ix_mul rfl hx_) w_3.1) (by show (4 * ((16 * f) + (rsc P f (tn (P 22 f)) - 1))) + (tn (P 28 ((16 * f) + (rsc P f (tn (P 22 f)) - 1)))) < 640; first | omega | (have h5_ := reg_4 (show sm _ 4 from hW 28 _) c_71; omega)) (fun M hR => ?_)
      refine g_aload_n d_R_register_101 rfl ?_
      refine r_arr 30 hR (by decide) (by decide) fl_R_98 rfl d_R_register_102 ?_
      refine g_iconst (v := 4) d_R_register_105 (by decide) ?_
      refine g_iload d_R_register_106 rfl ?_
      refine g_imul d_R_register_108 ?_
      refine g_aload_n d_R_register_109 rfl ?_
      refine r_arr 28 hR (by decide) (by decide) fl_R_92 rfl d_R_register_110 ?_
      refine g_iload d_R_register_113 rfl ?_
      refine r_iald 28 ((16 * f) + (rsc P f (tn (P 22 f)) - 1)) hR (by decide) rfl d_R_register_115 hx_ (by show (16 * f) + (rsc P f (tn (P 22 f)) - 1) < 160; first | omega | (have h5_ := reg_4 (show sm _ 4 from hW 28 _) c_71; omega)) ?_
      have w_4 : sm (P 28 ((16 * f) + (rsc P f (tn (P 22 f)) - 1))) 4 := hW 28 ((16 * f) + (rsc P f (tn (P 22 f)) - 1))
      have w_4b := w_4.2
      refine g_iadd d_R_register_116 ?_
      refine g_iload_n d_R_register_117 rfl ?_
      refine r_iast 30 ((4 * ((16 * f) + (rsc P f (tn (P 22 f)) - 1))) + (tn (P 28 ((16 * f) + (rsc P f (tn (P 22 f)) - 1))))) hR (by decide) rfl d_R_register_118 (ix_add (ix_mul rfl hx_) w_4.1) (by show (4 * ((16 * f) + (rsc P f (tn (P 22 f)) - 1))) + (tn (P 28 ((16 * f) + (rsc P f (tn (P 22 f)) - 1)))) < 640; first | omega | (have h5_ := reg_4 (show sm _ 4 from hW 28 _) c_71; omega)) (fun M hR => ?_)
      refine g_aload_n d_R_register_119 rfl ?_
      refine r_arr 28 hR (by decide) (by decide) fl_R_92 rfl d_R_register_120 ?_
      refine g_iload d_R_register_123 rfl ?_
      refine g_dup2 d_R_register_125 rfl (cat_rf _) ?_
      refine r_iald 28 ((16 * f) + (rsc P f (tn (P 22 f)) - 1)) hR (by decide) rfl d_R_register_126 hx_ (by show (16 * f) + (rsc P f (tn (P 22 f)) - 1) < 160; first | omega | (have h5_ := reg_4 (show sm _ 4 from hW 28 _) c_71; omega)) ?_
      have w_5 : sm (P 28 ((16 * f) + (rsc P f (tn (P 22 f)) - 1))) 4 := hW 28 ((16 * f) + (rsc P f (tn (P 22 f)) - 1))
      have w_5b := w_5.2
      refine g_iconst (v := 1) d_R_register_127 (by decide) ?_
      refine g_iadd d_R_register_128 ?_
      refine r_iast 28 ((16 * f) + (rsc P f (tn (P 22 f)) - 1)) hR (by decide) rfl d_R_register_129 hx_ (by show (16 * f) + (rsc P f (tn (P 22 f)) - 1) < 160; first | omega | (have h5_ := reg_4 (show sm _ 4 from hW 28 _) c_71; omega)) (fun M hR => ?_)
      refine g_aload_n d_R_register_130 rfl ?_
      refine g_iload_n d_R_register_131 rfl ?_
      refine g_iload_n d_R_register_132 rfl ?_
      refine r_call [.int (nI f), .int (v)] hR cw_R_198 cv_R_give d_R_register_133 rfl rfl ⟨by simp, by simp⟩ (by decide) (c_R_give _ f v (by omega)) (fun M hR => ?_)
      exact g_return d_R_register_136 rfl ⟨rfl, by unfold p_R_register; rw [if_neg (show ¬ (nI (16 * f + rsc P f (tn (P 22 f))) - 1 < 16 * (nI f)) from c_60), if_neg (show ¬ (P 28 ((16 * f) + (rsc P f (tn (P 22 f)) - 1)) = 4) from c_71)]; exact hR⟩
    · skip
      refine g_aload_n d_R_register_74 rfl ?_
      refine g_iload_n d_R_register_75 rfl ?_
      refine g_iconst (v := 2) d_R_register_76 (by decide) ?_
      refine g_bipush (v := -3) d_R_register_77 (by decide) ?_
      refine r_call [.int (nI f), .int (2), .int (-3)] hR cw_R_218 cv_R_fail d_R_register_79 rfl rfl ⟨by simp, by simp⟩ (by decide) (c_R_fail _ f 2 (-3) (by omega)) (fun M hR => ?_)
      exact g_return d_R_register_82 rfl ⟨rfl, by unfold p_R_register; rw [if_neg (show ¬ (nI (16 * f + rsc P f (tn (P 22 f))) - 1 < 16 * (nI f)) from c_60), if_pos (show P 28 ((16 * f) + (rsc P f (tn (P 22 f)) - 1)) = 4 from c_71)]; exact hR⟩

def a_R_cause (P : Pst) (x : Int32) (y : Int32) (wh : Int32) : Int32 := if P 51 0 = 0 then -1 else if a_R_in x 0 ((P 42 0) - 1) = 0 then -1 else if P 5 (tn x) = 2 then if P 14 (tn x) = 0 then -1 else if a_R_in y 0 ((P 33 (tn x)) - 1) = 0 then -1 else if a_R_in wh 0 1 = 0 then -1 else if wh = 0 then P 34 ((9 * (tn x)) + (tn y)) else P 35 ((9 * (tn x)) + (tn y)) else -1
def p_R_cause (P : Pst) (x : Int32) (y : Int32) (wh : Int32) : Pst := P
set_option maxHeartbeats 4000000 in
set_option maxRecDepth 100000 in
theorem c_R_cause (P : Pst) (x : Int32) (y : Int32) (wh : Int32) (hW : WB P) : RC m_R_cause 1 [.int x, .int y, .int wh] P (some (.int (a_R_cause P x y wh))) (p_R_cause P x y wh) := by
  intro γ M hR
  refine Run.ofG (by decide) (by simp [cat_int, cat_rf]) (Nat.le_of_ble_eq_true rfl) ?_
  refine g_aload_n d_R_cause_0 rfl ?_
  refine r_geti 51 hR (by decide) rfl fl_R_159 rfl d_R_cause_1 ?_
  refine g_if_eq 65 d_R_cause_4 (by decide) (fun c_4 => ?_) (fun c_4 => ?_)
  · skip
    refine g_iconst (v := -1) d_R_cause_65 (by decide) ?_
    exact g_ireturn d_R_cause_66 rfl ⟨by unfold a_R_cause; rw [if_pos (show P 51 0 = 0 from c_4)]; try rfl, hR⟩
  · skip
    refine g_iload_n d_R_cause_7 rfl ?_
    refine g_iconst (v := 0) d_R_cause_8 (by decide) ?_
    refine g_aload_n d_R_cause_9 rfl ?_
    have w_1 : sm (P 42 0) 10 := hW 42 0
    have w_1b := w_1.2
    refine r_geti 42 hR (by decide) rfl fl_R_153 rfl d_R_cause_10 ?_
    refine g_iconst (v := 1) d_R_cause_13 (by decide) ?_
    refine g_isub d_R_cause_14 ?_
    refine g_callS [.int (x), .int (0), .int ((P 42 0) - 1)] cw_R_141 cs_R_in d_R_cause_15 rfl rfl ⟨by simp, by simp⟩ (by decide) (Nat.le_refl _) (Nat.le_refl _) (fun _ _ h => h) (c_R_in x 0 ((P 42 0) - 1) _ _) (fun r_ M_ h_ _ => ?_)
    obtain ⟨rfl, rfl⟩ := h_
    refine g_if_eq 65 d_R_cause_18 (by decide) (fun c_18 => ?_) (fun c_18 => ?_)
    · skip
      refine g_iconst (v := -1) d_R_cause_65 (by decide) ?_
      exact g_ireturn d_R_cause_66 rfl ⟨by unfold a_R_cause; rw [if_neg (show ¬ (P 51 0 = 0) from c_4), if_pos (show a_R_in x 0 ((P 42 0) - 1) = 0 from c_18)]; try rfl, hR⟩
    · have h1_ := (in_nat1 c_18 (show sm (P 42 0) 10 from hW 42 0).1 (Nat.lt_of_le_of_lt (show sm (P 42 0) 10 from hW 42 0).2 (by decide))).2; have h2_ := (show sm (P 42 0) 10 from hW 42 0).2
      refine g_aload_n d_R_cause_21 rfl ?_
      refine r_arr 5 hR (by decide) (by decide) fl_R_22 rfl d_R_cause_22 ?_
      refine g_iload_n d_R_cause_25 rfl ?_
      refine r_iald 5 (tn x) hR (by decide) rfl d_R_cause_26 ((in_nat1 c_18 (show sm (P 42 0) 10 from hW 42 0).1 (Nat.lt_of_le_of_lt (show sm (P 42 0) 10 from hW 42 0).2 (by decide))).1) (by show tn x < 10; omega) ?_
      refine g_iconst (v := 2) d_R_cause_27 (by decide) ?_
      refine g_icmp_ne 65 d_R_cause_28 (by decide) (fun c_28 => ?_) (fun c_28 => ?_)
      · skip
        refine g_iconst (v := -1) d_R_cause_65 (by decide) ?_
        exact g_ireturn d_R_cause_66 rfl ⟨by unfold a_R_cause; rw [if_neg (show ¬ (P 51 0 = 0) from c_4), if_neg (show ¬ (a_R_in x 0 ((P 42 0) - 1) = 0) from c_18), if_neg (show ¬ (P 5 (tn x) = 2) from c_28)]; try rfl, hR⟩
      · skip
        refine g_aload_n d_R_cause_31 rfl ?_
        refine r_arr 14 hR (by decide) (by decide) fl_R_50 rfl d_R_cause_32 ?_
        refine g_iload_n d_R_cause_35 rfl ?_
        refine r_zald 14 (tn x) hR (by decide) rfl d_R_cause_36 ((in_nat1 c_18 (show sm (P 42 0) 10 from hW 42 0).1 (Nat.lt_of_le_of_lt (show sm (P 42 0) 10 from hW 42 0).2 (by decide))).1) (by show tn x < 10; omega) ?_
        refine g_if_eq 65 d_R_cause_37 (by decide) (fun c_37 => ?_) (fun c_37 => ?_)
        · skip
          refine g_iconst (v := -1) d_R_cause_65 (by decide) ?_
          exact g_ireturn d_R_cause_66 rfl ⟨by unfold a_R_cause; rw [if_neg (show ¬ (P 51 0 = 0) from c_4), if_neg (show ¬ (a_R_in x 0 ((P 42 0) - 1) = 0) from c_18), if_pos (show P 5 (tn x) = 2 from c_28), if_pos (show P 14 (tn x) = 0 from c_37)]; try rfl, hR⟩
        · skip
          refine g_iload_n d_R_cause_40 rfl ?_
          refine g_iconst (v := 0) d_R_cause_41 (by decide) ?_
          refine g_aload_n d_R_cause_42 rfl ?_
          refine r_arr 33 hR (by decide) (by decide) fl_R_107 rfl d_R_cause_43 ?_
          refine g_iload_n d_R_cause_46 rfl ?_
          refine r_iald 33 (tn x) hR (by decide) rfl d_R_cause_47 ((in_nat1 c_18 (show sm (P 42 0) 10 from hW 42 0).1 (Nat.lt_of_le_of_lt (show sm (P 42 0) 10 from hW 42 0).2 (by decide))).1) (by show tn x < 171; omega) ?_
          have w_2 : sm (P 33 (tn x)) 9 := hW 33 (tn x)
          have w_2b := w_2.2
          refine g_iconst (v := 1) d_R_cause_48 (by decide) ?_
          refine g_isub d_R_cause_49 ?_
          refine g_callS [.int (y), .int (0), .int ((P 33 (tn x)) - 1)] cw_R_141 cs_R_in d_R_cause_50 rfl rfl ⟨by simp, by simp⟩ (by decide) (Nat.le_refl _) (Nat.le_refl _) (fun _ _ h => h) (c_R_in y 0 ((P 33 (tn x)) - 1) _ _) (fun r_ M_ h_ _ => ?_)
          obtain ⟨rfl, rfl⟩ := h_
          refine g_if_eq 65 d_R_cause_53 (by decide) (fun c_53 => ?_) (fun c_53 => ?_)
          · skip
            refine g_iconst (v := -1) d_R_cause_65 (by decide) ?_
            exact g_ireturn d_R_cause_66 rfl ⟨by unfold a_R_cause; rw [if_neg (show ¬ (P 51 0 = 0) from c_4), if_neg (show ¬ (a_R_in x 0 ((P 42 0) - 1) = 0) from c_18), if_pos (show P 5 (tn x) = 2 from c_28), if_neg (show ¬ (P 14 (tn x) = 0) from c_37), if_pos (show a_R_in y 0 ((P 33 (tn x)) - 1) = 0 from c_53)]; try rfl, hR⟩
          · have h3_ := (in_nat1 c_53 (show sm (P 33 (tn x)) 9 from hW 33 (tn x)).1 (Nat.lt_of_le_of_lt (show sm (P 33 (tn x)) 9 from hW 33 (tn x)).2 (by decide))).2; have h4_ := (show sm (P 33 (tn x)) 9 from hW 33 (tn x)).2
            refine g_iload_n d_R_cause_56 rfl ?_
            refine g_iconst (v := 0) d_R_cause_57 (by decide) ?_
            refine g_iconst (v := 1) d_R_cause_58 (by decide) ?_
            refine g_callS [.int (wh), .int (0), .int (1)] cw_R_141 cs_R_in d_R_cause_59 rfl rfl ⟨by simp, by simp⟩ (by decide) (Nat.le_refl _) (Nat.le_refl _) (fun _ _ h => h) (c_R_in wh 0 1 _ _) (fun r_ M_ h_ _ => ?_)
            obtain ⟨rfl, rfl⟩ := h_
            refine g_if_ne 67 d_R_cause_62 (by decide) (fun c_62 => ?_) (fun c_62 => ?_)
            · skip
              refine g_iload_n d_R_cause_67 rfl ?_
              refine g_if_ne 85 d_R_cause_68 (by decide) (fun c_68 => ?_) (fun c_68 => ?_)
              · skip
                refine g_aload_n d_R_cause_85 rfl ?_
                refine r_arr 35 hR (by decide) (by decide) fl_R_113 rfl d_R_cause_86 ?_
                refine g_bipush (v := 9) d_R_cause_89 (by decide) ?_
                refine g_iload_n d_R_cause_91 rfl ?_
                refine g_imul d_R_cause_92 ?_
                refine g_iload_n d_R_cause_93 rfl ?_
                refine g_iadd d_R_cause_94 ?_
                refine r_iald 35 ((9 * (tn x)) + (tn y)) hR (by decide) rfl d_R_cause_95 (ix_add (ix_mul rfl ((in_nat1 c_18 (show sm (P 42 0) 10 from hW 42 0).1 (Nat.lt_of_le_of_lt (show sm (P 42 0) 10 from hW 42 0).2 (by decide))).1)) ((in_nat1 c_53 (show sm (P 33 (tn x)) 9 from hW 33 (tn x)).1 (Nat.lt_of_le_of_lt (show sm (P 33 (tn x)) 9 from hW 33 (tn x)).2 (by decide))).1)) (by show (9 * (tn x)) + (tn y) < 1539; omega) ?_
                exact g_ireturn d_R_cause_96 rfl ⟨by unfold a_R_cause; rw [if_neg (show ¬ (P 51 0 = 0) from c_4), if_neg (show ¬ (a_R_in x 0 ((P 42 0) - 1) = 0) from c_18), if_pos (show P 5 (tn x) = 2 from c_28), if_neg (show ¬ (P 14 (tn x) = 0) from c_37), if_neg (show ¬ (a_R_in y 0 ((P 33 (tn x)) - 1) = 0) from c_53), if_neg (show ¬ (a_R_in wh 0 1 = 0) from c_62), if_neg (show ¬ (wh = 0) from c_68)]; try rfl, hR⟩
              · skip
                refine g_aload_n d_R_cause_71 rfl ?_
                refine r_arr 34 hR (by decide) (by decide) fl_R_110 rfl d_R_cause_72 ?_
                refine g_bipush (v := 9) d_R_cause_75 (by decide) ?_
                refine g_iload_n d_R_cause_77 rfl ?_
                refine g_imul d_R_cause_78 ?_
                refine g_iload_n d_R_cause_79 rfl ?_
                refine g_iadd d_R_cause_80 ?_
                refine r_iald 34 ((9 * (tn x)) + (tn y)) hR (by decide) rfl d_R_cause_81 (ix_add (ix_mul rfl ((in_nat1 c_18 (show sm (P 42 0) 10 from hW 42 0).1 (Nat.lt_of_le_of_lt (show sm (P 42 0) 10 from hW 42 0).2 (by decide))).1)) ((in_nat1 c_53 (show sm (P 33 (tn x)) 9 from hW 33 (tn x)).1 (Nat.lt_of_le_of_lt (show sm (P 33 (tn x)) 9 from hW 33 (tn x)).2 (by decide))).1)) (by show (9 * (tn x)) + (tn y) < 1539; omega) ?_
                refine g_goto 96 d_R_cause_82 (by decide) ?_
                exact g_ireturn d_R_cause_96 rfl ⟨by unfold a_R_cause; rw [if_neg (show ¬ (P 51 0 = 0) from c_4), if_neg (show ¬ (a_R_in x 0 ((P 42 0) - 1) = 0) from c_18), if_pos (show P 5 (tn x) = 2 from c_28), if_neg (show ¬ (P 14 (tn x) = 0) from c_37), if_neg (show ¬ (a_R_in y 0 ((P 33 (tn x)) - 1) = 0) from c_53), if_neg (show ¬ (a_R_in wh 0 1 = 0) from c_62), if_pos (show wh = 0 from c_68)]; try rfl, hR⟩
            · skip
              refine g_iconst (v := -1) d_R_cause_65 (by decide) ?_
              exact g_ireturn d_R_cause_66 rfl ⟨by unfold a_R_cause; rw [if_neg (show ¬ (P 51 0 = 0) from c_4), if_neg (show ¬ (a_R_in x 0 ((P 42 0) - 1) = 0) from c_18), if_pos (show P 5 (tn x) = 2 from c_28), if_neg (show ¬ (P 14 (tn x) = 0) from c_37), if_neg (show ¬ (a_R_in y 0 ((P 33 (tn x)) - 1) = 0) from c_53), if_pos (show a_R_in wh 0 1 = 0 from c_62)]; try rfl, hR⟩

def a_R_interrupt (P : Pst) (x : Int32) : Int32 := if P 51 0 = 0 then 0 else if a_R_in x 0 ((P 42 0) - 1) = 0 then 0 else if P 5 (tn x) = 2 then 0 else 1
def p_R_interrupt (P : Pst) (x : Int32) : Pst := if P 51 0 = 0 then P else if a_R_in x 0 ((P 42 0) - 1) = 0 then P else if P 5 (tn x) = 2 then P else p_R_strike P (tn x) (-1)
set_option maxHeartbeats 4000000 in
set_option maxRecDepth 100000 in
theorem c_R_interrupt (P : Pst) (x : Int32) (hW : WB P) (hq9 : tn x < tn (P 42 0) → P 5 (tn x) = 1 → tn (P 43 0) < 10) : RC m_R_interrupt 2 [.int x] P (some (.int (a_R_interrupt P x))) (p_R_interrupt P x) := by
  intro γ M hR
  refine Run.ofG (by decide) (by simp [cat_int, cat_rf]) (Nat.le_of_ble_eq_true rfl) ?_
  refine g_aload_n d_R_interrupt_0 rfl ?_
  refine r_geti 51 hR (by decide) rfl fl_R_159 rfl d_R_interrupt_1 ?_
  refine g_if_eq 31 d_R_interrupt_4 (by decide) (fun c_4 => ?_) (fun c_4 => ?_)
  · skip
    refine g_iconst (v := 0) d_R_interrupt_31 (by decide) ?_
    exact g_zreturn d_R_interrupt_32 rfl (by first | exact Or.inl rfl | exact Or.inr rfl | assumption | (simp_all; done)) ⟨by unfold a_R_interrupt; rw [if_pos (show P 51 0 = 0 from c_4)]; try rfl, by unfold p_R_interrupt; rw [if_pos (show P 51 0 = 0 from c_4)]; exact hR⟩
  · skip
    refine g_iload_n d_R_interrupt_7 rfl ?_
    refine g_iconst (v := 0) d_R_interrupt_8 (by decide) ?_
    refine g_aload_n d_R_interrupt_9 rfl ?_
    have w_1 : sm (P 42 0) 10 := hW 42 0
    have w_1b := w_1.2
    refine r_geti 42 hR (by decide) rfl fl_R_153 rfl d_R_interrupt_10 ?_
    refine g_iconst (v := 1) d_R_interrupt_13 (by decide) ?_
    refine g_isub d_R_interrupt_14 ?_
    refine g_callS [.int (x), .int (0), .int ((P 42 0) - 1)] cw_R_141 cs_R_in d_R_interrupt_15 rfl rfl ⟨by simp, by simp⟩ (by decide) (Nat.le_refl _) (Nat.le_refl _) (fun _ _ h => h) (c_R_in x 0 ((P 42 0) - 1) _ _) (fun r_ M_ h_ _ => ?_)
    obtain ⟨rfl, rfl⟩ := h_
    refine g_if_eq 31 d_R_interrupt_18 (by decide) (fun c_18 => ?_) (fun c_18 => ?_)
    · skip
      refine g_iconst (v := 0) d_R_interrupt_31 (by decide) ?_
      exact g_zreturn d_R_interrupt_32 rfl (by first | exact Or.inl rfl | exact Or.inr rfl | assumption | (simp_all; done)) ⟨by unfold a_R_interrupt; rw [if_neg (show ¬ (P 51 0 = 0) from c_4), if_pos (show a_R_in x 0 ((P 42 0) - 1) = 0 from c_18)]; try rfl, by unfold p_R_interrupt; rw [if_neg (show ¬ (P 51 0 = 0) from c_4), if_pos (show a_R_in x 0 ((P 42 0) - 1) = 0 from c_18)]; exact hR⟩
    · have h1_ := (in_nat1 c_18 (show sm (P 42 0) 10 from hW 42 0).1 (Nat.lt_of_le_of_lt (show sm (P 42 0) 10 from hW 42 0).2 (by decide))).2; have h2_ := (show sm (P 42 0) 10 from hW 42 0).2
      refine g_aload_n d_R_interrupt_21 rfl ?_
      refine r_arr 5 hR (by decide) (by decide) fl_R_22 rfl d_R_interrupt_22 ?_
      refine g_iload_n d_R_interrupt_25 rfl ?_
      refine r_iald 5 (tn x) hR (by decide) rfl d_R_interrupt_26 ((in_nat1 c_18 (show sm (P 42 0) 10 from hW 42 0).1 (Nat.lt_of_le_of_lt (show sm (P 42 0) 10 from hW 42 0).2 (by decide))).1) (by show tn x < 10; omega) ?_
      refine g_iconst (v := 2) d_R_interrupt_27 (by decide) ?_
      refine g_icmp_ne 33 d_R_interrupt_28 (by decide) (fun c_28 => ?_) (fun c_28 => ?_)
      · skip
        refine g_aload_n d_R_interrupt_33 rfl ?_
        refine g_iload_n d_R_interrupt_34 rfl ?_
        refine g_iconst (v := -1) d_R_interrupt_35 (by decide) ?_
        refine r_call [.int (nI (tn x)), .int (-1)] hR cw_R_190 cv_R_strike d_R_interrupt_36 rfl (by rw [← (show (x : Int32) = nI (tn x) from (in_nat1 c_18 (show sm (P 42 0) 10 from hW 42 0).1 (Nat.lt_of_le_of_lt (show sm (P 42 0) 10 from hW 42 0).2 (by decide))).1)]; try rfl) ⟨by simp, by simp⟩ (by decide) (c_R_strike _ (tn x) (-1) (by omega) (show sm _ 10 from hW 43 0).1 (hq9 h1_)) (fun M hR => ?_)
        refine g_iconst (v := 1) d_R_interrupt_39 (by decide) ?_
        exact g_zreturn d_R_interrupt_40 rfl (by first | exact Or.inl rfl | exact Or.inr rfl | assumption | (simp_all; done)) ⟨by unfold a_R_interrupt; rw [if_neg (show ¬ (P 51 0 = 0) from c_4), if_neg (show ¬ (a_R_in x 0 ((P 42 0) - 1) = 0) from c_18), if_neg (show ¬ (P 5 (tn x) = 2) from c_28)]; try rfl, by unfold p_R_interrupt; rw [if_neg (show ¬ (P 51 0 = 0) from c_4), if_neg (show ¬ (a_R_in x 0 ((P 42 0) - 1) = 0) from c_18), if_neg (show ¬ (P 5 (tn x) = 2) from c_28)]; exact hR⟩
      · skip
        refine g_iconst (v := 0) d_R_interrupt_31 (by decide) ?_
        exact g_zreturn d_R_interrupt_32 rfl (by first | exact Or.inl rfl | exact Or.inr rfl | assumption | (simp_all; done)) ⟨by unfold a_R_interrupt; rw [if_neg (show ¬ (P 51 0 = 0) from c_4), if_neg (show ¬ (a_R_in x 0 ((P 42 0) - 1) = 0) from c_18), if_pos (show P 5 (tn x) = 2 from c_28)]; try rfl, by unfold p_R_interrupt; rw [if_neg (show ¬ (P 51 0 = 0) from c_4), if_neg (show ¬ (a_R_in x 0 ((P 42 0) - 1) = 0) from c_18), if_pos (show P 5 (tn x) = 2 from c_28)]; exact hR⟩

