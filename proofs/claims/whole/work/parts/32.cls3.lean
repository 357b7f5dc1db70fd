/-! the class: causes of two, joined (by program: wip/tools/gen_cls3.py) -/
theorem kd_cpM (M : Mm) (a0 a sp dp ln b : Nat) : kd (cpM M a0 a sp dp ln) b = kd M b := rfl
theorem gr_cpM (M : Mm) (a0 a sp dp ln b g : Nat) : gr (cpM M a0 a sp dp ln) b g = gr M b g := rfl
theorem gi_cpM_ne {a b : Nat} (h : b ≠ a) (M : Mm) (a0 sp dp ln g : Nat) : gi (cpM M a0 a sp dp ln) b g = gi M b g := by rw [gi_cpM, if_neg (fun q => h q.1)]
theorem gi_cpM_in (M : Mm) (a0 a dp ln j : Nat) (h1 : dp ≤ j) (h2 : j < dp + ln) : gi (cpM M a0 a 0 dp ln) a (4096 + j) = gi M a0 (4096 + (j - dp)) := by
  rw [gi_cpM, if_pos ⟨rfl, by omega, by omega⟩, show 4096 + j - dp + 0 = 4096 + (j - dp) by omega]
theorem gi_cpM_out (M : Mm) (a0 a sp dp ln j : Nat) (h : j < dp ∨ dp + ln ≤ j) : gi (cpM M a0 a sp dp ln) a (4096 + j) = gi M a (4096 + j) := by
  rw [gi_cpM, if_neg (fun q => by omega)]
theorem Ext_cp {S : Nat → Prop} {M M1 : Mm} (h : Ext S M M1) {a : Nat} (ha : S a ∨ kd M a = none) (a0 sp dp ln : Nat) : Ext S M (cpM M1 a0 a sp dp ln) := fun b y hb => by
  obtain ⟨a1, a2⟩ := h b y hb
  refine ⟨a1, fun ns g => ⟨?_, (a2 ns g).2⟩⟩
  have hne : b ≠ a := fun e => by
    subst e
    rcases ha with q | q
    · exact ns q
    · rw [q] at hb; cases hb
  rw [gi_cpM_ne hne]; exact (a2 ns g).1
theorem Ext_new {S : Nat → Prop} {M M1 : Mm} {q κ τ N : Nat} (hq : kd M q = none) (h : Ext (fun b => b = q) (nw M q κ τ N) M1) : Ext S M M1 := fun b y hb => by
  have hne : b ≠ q := ne_kd hb hq
  obtain ⟨a1, a2⟩ := h b y ((kd_nw_ne hne _ _ _ _).trans hb)
  exact ⟨a1, fun _ g => ⟨((a2 hne g).1).trans (gi_nw_ne hne _ _ _ _ _), ((a2 hne g).2).trans (gr_nw_ne hne _ _ _ _ _)⟩⟩
theorem two_val {a b N : Nat} {l1 l2 : List (Int32 × Int32)} (x : Int32 × Int32) (ha : l1.length = a) (hb : l2.length = b) (hN : N = 1 + a + b) (pr : Int32 × Int32 → Int32) (rd r1 r2 : Nat → Int32) (h0 : rd 0 = pr x) (h1 : ∀ j, j < a → rd (1 + j) = r1 j) (h2 : ∀ j, j < b → rd (1 + a + j) = r2 j) (hr1 : ∀ j, j < a → r1 j = pr (l1.getD j (0, 0))) (hr2 : ∀ j, j < b → r2 j = pr (l2.getD j (0, 0))) (j : Nat) (hj : j < N) : rd j = pr ((x :: (l1 ++ l2)).getD j (0, 0)) := by
  cases j with
  | zero => rw [h0]; rfl
  | succ j =>
    rw [List.getD_cons_succ]
    by_cases e : j < a
    · rw [show j + 1 = 1 + j by omega, h1 j e, hr1 j e, List.getD_eq_getElem?_getD, List.getD_eq_getElem?_getD, List.getElem?_append_left (by omega)]
    · rw [show j + 1 = 1 + a + (j - a) by omega, h2 _ (by omega), hr2 _ (by omega), List.getD_eq_getElem?_getD, List.getD_eq_getElem?_getD, List.getElem?_append_right (by omega), ha]
set_option maxHeartbeats 4000000 in
set_option maxRecDepth 100000 in
theorem c_C_two (M : Mm) (f τ : Nat) (hf : kd M f = some (7, τ, 2)) (kk : Int32) (c1 c2 : Nat) (l1 l2 : List (Int32 × Int32)) (hc1 : IsC M c1 l1) (hc2 : IsC M c2 l2) (e1 : c1 ≠ f) (e2 : c2 ≠ f) (hl : 1 + l1.length + l2.length ≤ 9) : Run m_C_two ownC 1 2 18 [va_rf (some f), .int kk, va_rf (some c1), va_rf (some c2)] M (fun r M' => r = none ∧ IsC M' f ((kk, 0) :: (l1 ++ l2)) ∧ Ext (fun b => b = f) M M') := by
  refine Run.ofG (by decide) (by simp [cat_int, cat_rf]) (Nat.le_of_ble_eq_true rfl) ?_
  obtain ⟨s1, k1, m1, t1, t2, g1, g2, g3, g4, g5, g6, g7, g8⟩ := hc1
  obtain ⟨s2, k2, m2, u1, u2, h1, h2, h3, h4, h5, h6, h7, h8⟩ := hc2
  have apk1 : f ≠ k1 := fun e => by rw [e, g4] at hf; simp at hf
  have apk2 : f ≠ k2 := fun e => by rw [e, h4] at hf; simp at hf
  have apm1 : f ≠ m1 := fun e => by rw [e, g5] at hf; simp at hf
  have apm2 : f ≠ m2 := fun e => by rw [e, h5] at hf; simp at hf
  refine g_aload_n d_C_two_0 rfl ?_
  refine g_objInit ob_C_3 d_C_two_1 rfl ⟨by simp, by simp⟩ (by decide) ?_
  refine g_aload_n d_C_two_4 rfl ?_
  refine g_getr 448 fl_C_9 rfl rfl d_C_two_5 rfl g1 ?_
  refine g_alen d_C_two_8 g2 g4 rfl ?_
  refine g_istore d_C_two_9 (by decide) ?_
  refine g_aload_n d_C_two_11 rfl ?_
  refine g_getr 448 fl_C_9 rfl rfl d_C_two_12 rfl h1 ?_
  refine g_alen d_C_two_15 h2 h4 rfl ?_
  refine g_istore d_C_two_16 (by decide) ?_
  refine g_aload_n d_C_two_18 rfl ?_
  refine g_iconst (v := 1) d_C_two_19 (by decide) ?_
  refine g_iload d_C_two_20 rfl ?_
  refine g_iadd d_C_two_22 ?_
  refine g_iload d_C_two_23 rfl ?_
  refine g_iadd d_C_two_25 ?_
  refine g_newi (κ := 20) (N := (1 + l1.length) + l2.length) (k' := 1) (n' := 9) 202 rfl ac_int d_C_two_26 (ix_add (ix_add rfl rfl) rfl) (by first | decide | omega) (by first | decide | omega) (by first | decide | omega) (fun q26 hq_q26 => ?_)
  have ne_f_q26 : f ≠ q26 := ne_kd (show kd (M) f = _ from hf) hq_q26
  have ne_c1_q26 : c1 ≠ q26 := ne_kd (show kd (M) c1 = _ from g1) hq_q26
  have ne_k1_q26 : k1 ≠ q26 := ne_kd (show kd (M) k1 = _ from g4) hq_q26
  have ne_m1_q26 : m1 ≠ q26 := ne_kd (show kd (M) m1 = _ from g5) hq_q26
  have ne_c2_q26 : c2 ≠ q26 := ne_kd (show kd (M) c2 = _ from h1) hq_q26
  have ne_k2_q26 : k2 ≠ q26 := ne_kd (show kd (M) k2 = _ from h4) hq_q26
  have ne_m2_q26 : m2 ≠ q26 := ne_kd (show kd (M) m2 = _ from h5) hq_q26
  refine g_putr 448 fl_C_9 (Or.inl ⟨rfl, fun r h => by cases h; rfl⟩) rfl rfl d_C_two_28 rfl ((kd_nw_ne ne_f_q26 _ _ _ _).trans hf) rfl ?_
  refine g_aload_n d_C_two_31 rfl ?_
  refine g_iconst (v := 1) d_C_two_32 (by decide) ?_
  refine g_iload d_C_two_33 rfl ?_
  refine g_iadd d_C_two_35 ?_
  refine g_iload d_C_two_36 rfl ?_
  refine g_iadd d_C_two_38 ?_
  refine g_newi (κ := 20) (N := (1 + l1.length) + l2.length) (k' := 0) (n' := 0) 206 rfl ac_int d_C_two_39 (ix_add (ix_add rfl rfl) rfl) (by first | decide | omega) (by first | decide | omega) (by first | decide | omega) (fun q39 hq_q39 => ?_)
  have ne_f_q39 : f ≠ q39 := ne_kd (show kd (sr (nw M q26 20 202 ((1 + l1.length) + l2.length)) f 448 (some q26)) f = _ from ((kd_sr _ _ _ _ _).trans ((kd_nw_ne ne_f_q26 _ _ _ _).trans hf))) hq_q39
  have ne_c1_q39 : c1 ≠ q39 := ne_kd (show kd (sr (nw M q26 20 202 ((1 + l1.length) + l2.length)) f 448 (some q26)) c1 = _ from ((kd_sr _ _ _ _ _).trans ((kd_nw_ne ne_c1_q26 _ _ _ _).trans g1))) hq_q39
  have ne_k1_q39 : k1 ≠ q39 := ne_kd (show kd (sr (nw M q26 20 202 ((1 + l1.length) + l2.length)) f 448 (some q26)) k1 = _ from ((kd_sr _ _ _ _ _).trans ((kd_nw_ne ne_k1_q26 _ _ _ _).trans g4))) hq_q39
  have ne_m1_q39 : m1 ≠ q39 := ne_kd (show kd (sr (nw M q26 20 202 ((1 + l1.length) + l2.length)) f 448 (some q26)) m1 = _ from ((kd_sr _ _ _ _ _).trans ((kd_nw_ne ne_m1_q26 _ _ _ _).trans g5))) hq_q39
  have ne_c2_q39 : c2 ≠ q39 := ne_kd (show kd (sr (nw M q26 20 202 ((1 + l1.length) + l2.length)) f 448 (some q26)) c2 = _ from ((kd_sr _ _ _ _ _).trans ((kd_nw_ne ne_c2_q26 _ _ _ _).trans h1))) hq_q39
  have ne_k2_q39 : k2 ≠ q39 := ne_kd (show kd (sr (nw M q26 20 202 ((1 + l1.length) + l2.length)) f 448 (some q26)) k2 = _ from ((kd_sr _ _ _ _ _).trans ((kd_nw_ne ne_k2_q26 _ _ _ _).trans h4))) hq_q39
  have ne_m2_q39 : m2 ≠ q39 := ne_kd (show kd (sr (nw M q26 20 202 ((1 + l1.length) + l2.length)) f 448 (some q26)) m2 = _ from ((kd_sr _ _ _ _ _).trans ((kd_nw_ne ne_m2_q26 _ _ _ _).trans h5))) hq_q39
  have ne_q26_q39 : q26 ≠ q39 := ne_kd (show kd (sr (nw M q26 20 202 ((1 + l1.length) + l2.length)) f 448 (some q26)) q26 = _ from ((kd_sr _ _ _ _ _).trans (kd_nw_s _ _ _ _ _))) hq_q39
  refine g_putr 449 fl_C_15 (Or.inl ⟨rfl, fun r h => by cases h; rfl⟩) rfl rfl d_C_two_41 rfl ((kd_nw_ne ne_f_q39 _ _ _ _).trans ((kd_sr _ _ _ _ _).trans ((kd_nw_ne ne_f_q26 _ _ _ _).trans hf))) rfl ?_
  refine g_aload_n d_C_two_44 rfl ?_
  refine g_getrv (v := some q26) 448 fl_C_9 rfl rfl d_C_two_45 rfl ((kd_sr _ _ _ _ _).trans ((kd_nw_ne ne_f_q39 _ _ _ _).trans ((kd_sr _ _ _ _ _).trans ((kd_nw_ne ne_f_q26 _ _ _ _).trans hf)))) ((gr_sr_f (by decide) _ _ _ _).trans ((gr_nw_ne ne_f_q39 _ _ _ _ _).trans (gr_sr_s _ _ _ _))) ?_
  refine g_iconst (v := 0) d_C_two_48 (by decide) ?_
  refine g_iload_n d_C_two_49 rfl ?_
  refine g_iast (j := 0) d_C_two_50 rfl ((kd_sr _ _ _ _ _).trans ((kd_nw_ne ne_q26_q39 _ _ _ _).trans ((kd_sr _ _ _ _ _).trans (kd_nw_s _ _ _ _ _)))) rfl rfl rfl (by first | decide | omega) (by first | decide | omega) ?_
  refine g_aload_n d_C_two_51 rfl ?_
  refine g_getrv (v := gr M c1 448) 448 fl_C_9 rfl rfl d_C_two_52 rfl ((kd_si _ _ _ _ _).trans ((kd_sr _ _ _ _ _).trans ((kd_nw_ne ne_c1_q39 _ _ _ _).trans ((kd_sr _ _ _ _ _).trans ((kd_nw_ne ne_c1_q26 _ _ _ _).trans g1))))) ((gr_si _ _ _ _ _ _).trans ((gr_sr_f (by decide) _ _ _ _).trans ((gr_nw_ne ne_c1_q39 _ _ _ _ _).trans ((gr_sr_a e1 _ _ _ _).trans (gr_nw_ne ne_c1_q26 _ _ _ _ _))))) ?_
  refine g_iconst (v := 0) d_C_two_55 (by decide) ?_
  refine g_aload_n d_C_two_56 rfl ?_
  refine g_getrv (v := some q26) 448 fl_C_9 rfl rfl d_C_two_57 rfl ((kd_si _ _ _ _ _).trans ((kd_sr _ _ _ _ _).trans ((kd_nw_ne ne_f_q39 _ _ _ _).trans ((kd_sr _ _ _ _ _).trans ((kd_nw_ne ne_f_q26 _ _ _ _).trans hf))))) ((gr_si _ _ _ _ _ _).trans ((gr_sr_f (by decide) _ _ _ _).trans ((gr_nw_ne ne_f_q39 _ _ _ _ _).trans (gr_sr_s _ _ _ _)))) ?_
  refine g_iconst (v := 1) d_C_two_60 (by decide) ?_
  refine g_iload d_C_two_61 rfl ?_
  refine g_copy (sp := 0) (dp := 1) (ln := l1.length) ac_C_18 d_C_two_63 g2 rfl ((kd_si _ _ _ _ _).trans ((kd_sr _ _ _ _ _).trans ((kd_nw_ne ne_k1_q39 _ _ _ _).trans ((kd_sr _ _ _ _ _).trans ((kd_nw_ne ne_k1_q26 _ _ _ _).trans g4))))) ((kd_si _ _ _ _ _).trans ((kd_sr _ _ _ _ _).trans ((kd_nw_ne ne_q26_q39 _ _ _ _).trans ((kd_sr _ _ _ _ _).trans (kd_nw_s _ _ _ _ _))))) rfl rfl rfl rfl rfl rfl (by omega) (by omega) (by omega) (by omega) ⟨by simp, by simp⟩ (by decide) ?_
  refine g_aload_n d_C_two_66 rfl ?_
  refine g_getrv (v := gr M c1 449) 449 fl_C_15 rfl rfl d_C_two_67 rfl ((kd_cpM _ _ _ _ _ _ _).trans ((kd_si _ _ _ _ _).trans ((kd_sr _ _ _ _ _).trans ((kd_nw_ne ne_c1_q39 _ _ _ _).trans ((kd_sr _ _ _ _ _).trans ((kd_nw_ne ne_c1_q26 _ _ _ _).trans g1)))))) ((gr_cpM _ _ _ _ _ _ _ _).trans ((gr_si _ _ _ _ _ _).trans ((gr_sr_a e1 _ _ _ _).trans ((gr_nw_ne ne_c1_q39 _ _ _ _ _).trans ((gr_sr_f (by decide) _ _ _ _).trans (gr_nw_ne ne_c1_q26 _ _ _ _ _)))))) ?_
  refine g_iconst (v := 0) d_C_two_70 (by decide) ?_
  refine g_aload_n d_C_two_71 rfl ?_
  refine g_getrv (v := some q39) 449 fl_C_15 rfl rfl d_C_two_72 rfl ((kd_cpM _ _ _ _ _ _ _).trans ((kd_si _ _ _ _ _).trans ((kd_sr _ _ _ _ _).trans ((kd_nw_ne ne_f_q39 _ _ _ _).trans ((kd_sr _ _ _ _ _).trans ((kd_nw_ne ne_f_q26 _ _ _ _).trans hf)))))) ((gr_cpM _ _ _ _ _ _ _ _).trans ((gr_si _ _ _ _ _ _).trans (gr_sr_s _ _ _ _))) ?_
  refine g_iconst (v := 1) d_C_two_75 (by decide) ?_
  refine g_iload d_C_two_76 rfl ?_
  refine g_copy (sp := 0) (dp := 1) (ln := l1.length) ac_C_18 d_C_two_78 g3 rfl ((kd_cpM _ _ _ _ _ _ _).trans ((kd_si _ _ _ _ _).trans ((kd_sr _ _ _ _ _).trans ((kd_nw_ne ne_m1_q39 _ _ _ _).trans ((kd_sr _ _ _ _ _).trans ((kd_nw_ne ne_m1_q26 _ _ _ _).trans g5)))))) ((kd_cpM _ _ _ _ _ _ _).trans ((kd_si _ _ _ _ _).trans ((kd_sr _ _ _ _ _).trans (kd_nw_s _ _ _ _ _)))) rfl rfl rfl rfl rfl rfl (by omega) (by omega) (by omega) (by omega) ⟨by simp, by simp⟩ (by decide) ?_
  refine g_aload_n d_C_two_81 rfl ?_
  refine g_getrv (v := gr M c2 448) 448 fl_C_9 rfl rfl d_C_two_82 rfl ((kd_cpM _ _ _ _ _ _ _).trans ((kd_cpM _ _ _ _ _ _ _).trans ((kd_si _ _ _ _ _).trans ((kd_sr _ _ _ _ _).trans ((kd_nw_ne ne_c2_q39 _ _ _ _).trans ((kd_sr _ _ _ _ _).trans ((kd_nw_ne ne_c2_q26 _ _ _ _).trans h1))))))) ((gr_cpM _ _ _ _ _ _ _ _).trans ((gr_cpM _ _ _ _ _ _ _ _).trans ((gr_si _ _ _ _ _ _).trans ((gr_sr_f (by decide) _ _ _ _).trans ((gr_nw_ne ne_c2_q39 _ _ _ _ _).trans ((gr_sr_a e2 _ _ _ _).trans (gr_nw_ne ne_c2_q26 _ _ _ _ _))))))) ?_
  refine g_iconst (v := 0) d_C_two_85 (by decide) ?_
  refine g_aload_n d_C_two_86 rfl ?_
  refine g_getrv (v := some q26) 448 fl_C_9 rfl rfl d_C_two_87 rfl ((kd_cpM _ _ _ _ _ _ _).trans ((kd_cpM _ _ _ _ _ _ _).trans ((kd_si _ _ _ _ _).trans ((kd_sr _ _ _ _ _).trans ((kd_nw_ne ne_f_q39 _ _ _ _).trans ((kd_sr _ _ _ _ _).trans ((kd_nw_ne ne_f_q26 _ _ _ _).trans hf))))))) ((gr_cpM _ _ _ _ _ _ _ _).trans ((gr_cpM _ _ _ _ _ _ _ _).trans ((gr_si _ _ _ _ _ _).trans ((gr_sr_f (by decide) _ _ _ _).trans ((gr_nw_ne ne_f_q39 _ _ _ _ _).trans (gr_sr_s _ _ _ _)))))) ?_
  refine g_iconst (v := 1) d_C_two_90 (by decide) ?_
  refine g_iload d_C_two_91 rfl ?_
  refine g_iadd d_C_two_93 ?_
  refine g_iload d_C_two_94 rfl ?_
  refine g_copy (sp := 0) (dp := 1 + l1.length) (ln := l2.length) ac_C_18 d_C_two_96 h2 rfl ((kd_cpM _ _ _ _ _ _ _).trans ((kd_cpM _ _ _ _ _ _ _).trans ((kd_si _ _ _ _ _).trans ((kd_sr _ _ _ _ _).trans ((kd_nw_ne ne_k2_q39 _ _ _ _).trans ((kd_sr _ _ _ _ _).trans ((kd_nw_ne ne_k2_q26 _ _ _ _).trans h4))))))) ((kd_cpM _ _ _ _ _ _ _).trans ((kd_cpM _ _ _ _ _ _ _).trans ((kd_si _ _ _ _ _).trans ((kd_sr _ _ _ _ _).trans ((kd_nw_ne ne_q26_q39 _ _ _ _).trans ((kd_sr _ _ _ _ _).trans (kd_nw_s _ _ _ _ _))))))) rfl rfl rfl rfl (ix_add rfl rfl) rfl (by omega) (by omega) (by omega) (by omega) ⟨by simp, by simp⟩ (by decide) ?_
  refine g_aload_n d_C_two_99 rfl ?_
  refine g_getrv (v := gr M c2 449) 449 fl_C_15 rfl rfl d_C_two_100 rfl ((kd_cpM _ _ _ _ _ _ _).trans ((kd_cpM _ _ _ _ _ _ _).trans ((kd_cpM _ _ _ _ _ _ _).trans ((kd_si _ _ _ _ _).trans ((kd_sr _ _ _ _ _).trans ((kd_nw_ne ne_c2_q39 _ _ _ _).trans ((kd_sr _ _ _ _ _).trans ((kd_nw_ne ne_c2_q26 _ _ _ _).trans h1)))))))) ((gr_cpM _ _ _ _ _ _ _ _).trans ((gr_cpM _ _ _ _ _ _ _ _).trans ((gr_cpM _ _ _ _ _ _ _ _).trans ((gr_si _ _ _ _ _ _).trans ((gr_sr_a e2 _ _ _ _).trans ((gr_nw_ne ne_c2_q39 _ _ _ _ _).trans ((gr_sr_f (by decide) _ _ _ _).trans (gr_nw_ne ne_c2_q26 _ _ _ _ _)))))))) ?_
  refine g_iconst (v := 0) d_C_two_103 (by decide) ?_
  refine g_aload_n d_C_two_104 rfl ?_
  refine g_getrv (v := some q39) 449 fl_C_15 rfl rfl d_C_two_105 rfl ((kd_cpM _ _ _ _ _ _ _).trans ((kd_cpM _ _ _ _ _ _ _).trans ((kd_cpM _ _ _ _ _ _ _).trans ((kd_si _ _ _ _ _).trans ((kd_sr _ _ _ _ _).trans ((kd_nw_ne ne_f_q39 _ _ _ _).trans ((kd_sr _ _ _ _ _).trans ((kd_nw_ne ne_f_q26 _ _ _ _).trans hf)))))))) ((gr_cpM _ _ _ _ _ _ _ _).trans ((gr_cpM _ _ _ _ _ _ _ _).trans ((gr_cpM _ _ _ _ _ _ _ _).trans ((gr_si _ _ _ _ _ _).trans (gr_sr_s _ _ _ _))))) ?_
  refine g_iconst (v := 1) d_C_two_108 (by decide) ?_
  refine g_iload d_C_two_109 rfl ?_
  refine g_iadd d_C_two_111 ?_
  refine g_iload d_C_two_112 rfl ?_
  refine g_copy (sp := 0) (dp := 1 + l1.length) (ln := l2.length) ac_C_18 d_C_two_114 h3 rfl ((kd_cpM _ _ _ _ _ _ _).trans ((kd_cpM _ _ _ _ _ _ _).trans ((kd_cpM _ _ _ _ _ _ _).trans ((kd_si _ _ _ _ _).trans ((kd_sr _ _ _ _ _).trans ((kd_nw_ne ne_m2_q39 _ _ _ _).trans ((kd_sr _ _ _ _ _).trans ((kd_nw_ne ne_m2_q26 _ _ _ _).trans h5)))))))) ((kd_cpM _ _ _ _ _ _ _).trans ((kd_cpM _ _ _ _ _ _ _).trans ((kd_cpM _ _ _ _ _ _ _).trans ((kd_si _ _ _ _ _).trans ((kd_sr _ _ _ _ _).trans (kd_nw_s _ _ _ _ _)))))) rfl rfl rfl rfl (ix_add rfl rfl) rfl (by omega) (by omega) (by omega) (by omega) ⟨by simp, by simp⟩ (by decide) ?_
  have n0_q26 : kd M q26 = none := (Ext.refl (fun b => b = f) M).none hq_q26
  have n0_q39 : kd M q39 = none := (((Ext.refl (fun b => b = f) M).nw hq_q26 _ _ _).sr (Or.inl rfl) _ _).none hq_q39
  refine g_return d_C_two_117 rfl ⟨rfl, ⟨τ, q26, q39, 50, 51, ((kd_cpM _ _ _ _ _ _ _).trans ((kd_cpM _ _ _ _ _ _ _).trans ((kd_cpM _ _ _ _ _ _ _).trans ((kd_cpM _ _ _ _ _ _ _).trans ((kd_si _ _ _ _ _).trans ((kd_sr _ _ _ _ _).trans ((kd_nw_ne ne_f_q39 _ _ _ _).trans ((kd_sr _ _ _ _ _).trans ((kd_nw_ne ne_f_q26 _ _ _ _).trans hf))))))))), (gr_cpM _ _ _ _ _ _ _ _).trans ((gr_cpM _ _ _ _ _ _ _ _).trans ((gr_cpM _ _ _ _ _ _ _ _).trans ((gr_cpM _ _ _ _ _ _ _ _).trans ((gr_si _ _ _ _ _ _).trans ((gr_sr_f (by decide) _ _ _ _).trans ((gr_nw_ne ne_f_q39 _ _ _ _ _).trans (gr_sr_s _ _ _ _))))))), (gr_cpM _ _ _ _ _ _ _ _).trans ((gr_cpM _ _ _ _ _ _ _ _).trans ((gr_cpM _ _ _ _ _ _ _ _).trans ((gr_cpM _ _ _ _ _ _ _ _).trans ((gr_si _ _ _ _ _ _).trans (gr_sr_s _ _ _ _))))), ?_, ?_, by decide, by decide, fun j hj => ⟨?_, ?_⟩⟩, (Ext_cp (Ext_cp (Ext_cp (Ext_cp ((((((Ext.refl (fun b => b = f) M).nw hq_q26 _ _ _).sr (Or.inl rfl) _ _).nw hq_q39 _ _ _).sr (Or.inl rfl) _ _).si (Or.inr n0_q26) _ _) (Or.inr n0_q26) _ _ _ _) (Or.inr n0_q39) _ _ _ _) (Or.inr n0_q26) _ _ _ _) (Or.inr n0_q39) _ _ _ _)⟩
  · rw [List.length_cons, List.length_append, show l1.length + l2.length + 1 = 1 + l1.length + l2.length by omega]; exact ((kd_cpM _ _ _ _ _ _ _).trans ((kd_cpM _ _ _ _ _ _ _).trans ((kd_cpM _ _ _ _ _ _ _).trans ((kd_cpM _ _ _ _ _ _ _).trans ((kd_si _ _ _ _ _).trans ((kd_sr _ _ _ _ _).trans ((kd_nw_ne ne_q26_q39 _ _ _ _).trans ((kd_sr _ _ _ _ _).trans (kd_nw_s _ _ _ _ _)))))))))
  · rw [List.length_cons, List.length_append, show l1.length + l2.length + 1 = 1 + l1.length + l2.length by omega]; exact ((kd_cpM _ _ _ _ _ _ _).trans ((kd_cpM _ _ _ _ _ _ _).trans ((kd_cpM _ _ _ _ _ _ _).trans ((kd_cpM _ _ _ _ _ _ _).trans ((kd_si _ _ _ _ _).trans ((kd_sr _ _ _ _ _).trans (kd_nw_s _ _ _ _ _)))))))
  · refine two_val (kk, 0) rfl rfl rfl Prod.fst (fun j => gi _ q26 (4096 + j)) (fun j => gi M k1 (4096 + j)) (fun j => gi M k2 (4096 + j)) ?_ ?_ ?_ (fun j hj => (g8 j hj).1) (fun j hj => (h8 j hj).1) j (by rw [List.length_cons, List.length_append] at hj; omega)
    · exact ((gi_cpM_ne ne_q26_q39 _ _ _ _ _ _).trans ((gi_cpM_out _ _ _ _ _ _ _ (Or.inl (by omega))).trans ((gi_cpM_ne ne_q26_q39 _ _ _ _ _ _).trans ((gi_cpM_out _ _ _ _ _ _ _ (Or.inl (by omega))).trans (gi_si_s _ _ _ _)))))
    · intro j hj; refine ((gi_cpM_ne ne_q26_q39 _ _ _ _ _ _).trans ((gi_cpM_out _ _ _ _ _ _ _ (Or.inl (by omega))).trans ((gi_cpM_ne ne_q26_q39 _ _ _ _ _ _).trans ((gi_cpM_in _ _ _ _ _ _ (by omega) (by omega)).trans ?_))))
      rw [show 1 + j - 1 = j by omega]; exact ((gi_si_a ne_k1_q26 _ _ _ _).trans ((gi_sr _ _ _ _ _ _).trans ((gi_nw_ne ne_k1_q39 _ _ _ _ _).trans ((gi_sr _ _ _ _ _ _).trans (gi_nw_ne ne_k1_q26 _ _ _ _ _)))))
    · intro j hj; refine ((gi_cpM_ne ne_q26_q39 _ _ _ _ _ _).trans ((gi_cpM_in _ _ _ _ _ _ (by omega) (by omega)).trans ?_))
      rw [show 1 + l1.length + j - (1 + l1.length) = j by omega]; exact ((gi_cpM_ne ne_k2_q39 _ _ _ _ _ _).trans ((gi_cpM_ne ne_k2_q26 _ _ _ _ _ _).trans ((gi_si_a ne_k2_q26 _ _ _ _).trans ((gi_sr _ _ _ _ _ _).trans ((gi_nw_ne ne_k2_q39 _ _ _ _ _).trans ((gi_sr _ _ _ _ _ _).trans (gi_nw_ne ne_k2_q26 _ _ _ _ _)))))))
  · refine two_val (kk, 0) rfl rfl rfl Prod.snd (fun j => gi _ q39 (4096 + j)) (fun j => gi M m1 (4096 + j)) (fun j => gi M m2 (4096 + j)) ?_ ?_ ?_ (fun j hj => (g8 j hj).2) (fun j hj => (h8 j hj).2) j (by rw [List.length_cons, List.length_append] at hj; omega)
    · exact ((gi_cpM_out _ _ _ _ _ _ _ (Or.inl (by omega))).trans ((gi_cpM_ne (Ne.symm ne_q26_q39) _ _ _ _ _ _).trans ((gi_cpM_out _ _ _ _ _ _ _ (Or.inl (by omega))).trans ((gi_cpM_ne (Ne.symm ne_q26_q39) _ _ _ _ _ _).trans ((gi_si_a (Ne.symm ne_q26_q39) _ _ _ _).trans ((gi_sr _ _ _ _ _ _).trans (gi_nw_s _ _ _ _ _ _)))))))
    · intro j hj; refine ((gi_cpM_out _ _ _ _ _ _ _ (Or.inl (by omega))).trans ((gi_cpM_ne (Ne.symm ne_q26_q39) _ _ _ _ _ _).trans ((gi_cpM_in _ _ _ _ _ _ (by omega) (by omega)).trans ?_)))
      rw [show 1 + j - 1 = j by omega]; exact ((gi_cpM_ne ne_m1_q26 _ _ _ _ _ _).trans ((gi_si_a ne_m1_q26 _ _ _ _).trans ((gi_sr _ _ _ _ _ _).trans ((gi_nw_ne ne_m1_q39 _ _ _ _ _).trans ((gi_sr _ _ _ _ _ _).trans (gi_nw_ne ne_m1_q26 _ _ _ _ _))))))
    · intro j hj; refine ((gi_cpM_in _ _ _ _ _ _ (by omega) (by omega)).trans ?_)
      rw [show 1 + l1.length + j - (1 + l1.length) = j by omega]; exact ((gi_cpM_ne ne_m2_q26 _ _ _ _ _ _).trans ((gi_cpM_ne ne_m2_q39 _ _ _ _ _ _).trans ((gi_cpM_ne ne_m2_q26 _ _ _ _ _ _).trans ((gi_si_a ne_m2_q26 _ _ _ _).trans ((gi_sr _ _ _ _ _ _).trans ((gi_nw_ne ne_m2_q39 _ _ _ _ _).trans ((gi_sr _ _ _ _ _ _).trans (gi_nw_ne ne_m2_q26 _ _ _ _ _))))))))
def isFA (l : List (Int32 × Int32)) : Int32 := if nI l.length = 1 then if (l.getD 0 (0, 0)).1 = 1 then 1 else 0 else 0
theorem ix_one {n : Nat} (h : nI n = 1) (hn : n < 2 ^ 31) : 0 < n := by
  have := congrArg tn h
  rw [tn_nI hn] at this
  have e : tn 1 = 1 := rfl
  omega
set_option maxHeartbeats 4000000 in
set_option maxRecDepth 100000 in
theorem c_C_isFailAlone (M : Mm) (f : Nat) (l : List (Int32 × Int32)) (hl : l.length ≤ 9) (hc : IsC M f l) : Run m_C_isFailAlone ownC 0 0 0 [va_rf (some f)] M (fun r M' => r = some (.int (isFA l)) ∧ M' = M) := by
  refine Run.ofG (by decide) (by simp [cat_int, cat_rf]) (Nat.le_of_ble_eq_true rfl) ?_
  obtain ⟨s1, k1, m1, t1, t2, g1, g2, g3, g4, g5, g6, g7, g8⟩ := hc
  refine g_aload_n d_C_isFailAlone_0 rfl ?_
  refine g_getr 448 fl_C_9 rfl rfl d_C_isFailAlone_1 rfl g1 ?_
  refine g_alen d_C_isFailAlone_4 g2 g4 rfl ?_
  refine g_iconst (v := 1) d_C_isFailAlone_5 (by decide) ?_
  refine g_icmp_ne 23 d_C_isFailAlone_6 (by decide) (fun c_6 => ?_) (fun c_6 => ?_)
  · skip
    refine g_iconst (v := 0) d_C_isFailAlone_23 (by decide) ?_
    exact g_zreturn d_C_isFailAlone_24 rfl (Or.inl rfl) ⟨by unfold isFA; rw [if_neg (show ¬ (nI l.length = 1) from c_6)], rfl⟩
  · have hlen : 0 < l.length := ix_one c_6 (by omega)
    refine g_aload_n d_C_isFailAlone_9 rfl ?_
    refine g_getr 448 fl_C_9 rfl rfl d_C_isFailAlone_10 rfl g1 ?_
    refine g_iconst (v := 0) d_C_isFailAlone_13 (by decide) ?_
    refine g_ialdv (v := (l.getD 0 (0, 0)).1) (j := 0) d_C_isFailAlone_14 g2 g4 rfl rfl (by first | decide | omega) (by first | decide | omega) (g8 0 hlen).1 ?_
    refine g_iconst (v := 1) d_C_isFailAlone_15 (by decide) ?_
    refine g_icmp_ne 23 d_C_isFailAlone_16 (by decide) (fun c_16 => ?_) (fun c_16 => ?_)
    · skip
      refine g_iconst (v := 0) d_C_isFailAlone_23 (by decide) ?_
      exact g_zreturn d_C_isFailAlone_24 rfl (Or.inl rfl) ⟨by unfold isFA; rw [if_pos (show nI l.length = 1 from c_6), if_neg (show ¬ ((l.getD 0 (0, 0)).1 = 1) from c_16)], rfl⟩
    · skip
      refine g_iconst (v := 1) d_C_isFailAlone_19 (by decide) ?_
      refine g_goto 24 d_C_isFailAlone_20 (by decide) ?_
      exact g_zreturn d_C_isFailAlone_24 rfl (Or.inr rfl) ⟨by unfold isFA; rw [if_pos (show nI l.length = 1 from c_6), if_pos (show (l.getD 0 (0, 0)).1 = 1 from c_16)], rfl⟩
