/-! THE LAW (by program: wip/tools/gen_law.py) -/
def ownL : Nat → Nat → Bool := fun κ τ => ownC κ τ || ownR κ τ
theorem ownL_C : ∀ κ τ, ownC κ τ = true → ownL κ τ = true := fun κ τ h => by unfold ownL; rw [h]; rfl
theorem ownL_R : ∀ κ τ, ownR κ τ = true → ownL κ τ = true := fun κ τ h => by unfold ownL; rw [h]; exact Bool.or_true _
theorem RR.kept {γ : Rg} {P : Pst} {M M' : Mm} (h : RR γ P M) (hF : Fr ownC M M') : RR γ P M' := by
  obtain ⟨h1, h2⟩ := h
  have f1 := hF _ _ _ _ h1
  have o1 : ownC 8 0 = false := rfl
  refine ⟨f1.1, fun f hf => ⟨fun l0 => ?_, fun lf => ?_⟩⟩
  · rw [(f1.2 o1 _).1]; exact (h2 f hf).1 l0
  · obtain ⟨g1, g2, g3⟩ := (h2 f hf).2 lf
    have f2 := hF _ _ _ _ g2
    have o2 : ownC (rkd f) (9000 + f) = false := by
      unfold rkd ownC
      cases rbool f
      · simp; omega
      · simp
    exact ⟨by rw [(f1.2 o1 _).2]; exact g1, f2.1, fun j hj => by rw [(f2.2 o2 _).1]; exact g3 j hj⟩
/-! the view cut down to what the relation speaks of -/
def cutS (S : Gs) : Gs := (S.1, fun c τ => if c = 20 ∨ c = 21 then (decide (τ < 100) && S.2.1 c τ) else S.2.1 c τ, S.2.2)
theorem lv_cut (S : Gs) {c : Nat} (h : ¬ (c = 20 ∨ c = 21)) (τ : Nat) : lv (cutS S) c τ = lv S c τ := if_neg h
theorem lv_cut_t (S : Gs) (c : Nat) {τ : Nat} (h : τ < 100) : lv (cutS S) c τ = lv S c τ := by
  show (if c = 20 ∨ c = 21 then (decide (τ < 100) && S.2.1 c τ) else S.2.1 c τ) = S.2.1 c τ
  split
  · rw [decide_eq_true h]; rfl
  · rfl
theorem lv_cut_le {S : Gs} {c τ : Nat} (h : lv (cutS S) c τ = true) : lv S c τ = true ∧ (c = 20 ∨ c = 21 → τ < 100) := by
  have h' : (if c = 20 ∨ c = 21 then (decide (τ < 100) && S.2.1 c τ) else S.2.1 c τ) = true := h
  by_cases q : c = 20 ∨ c = 21
  · rw [if_pos q, Bool.and_eq_true, decide_eq_true_iff] at h'
    exact ⟨h'.2, fun _ => h'.1⟩
  · rw [if_neg q] at h'
    exact ⟨h', fun w => absurd w q⟩
theorem VM.cut {S : Gs} {M : Mm} (h : VM S M) : VM (cutS S) M := ⟨fun c τ hl => h.1 c τ (lv_cut_le hl).1, h.2⟩
theorem Sim.cut {P : Pst} {LL : Lls} {S : Gs} (h : Sim P LL S) : Sim P LL (cutS S) := by
  obtain ⟨sd, sp, sl, se, sf, sq, spr⟩ := h
  have l3 : ∀ τ, lv (cutS S) 3 τ = lv S 3 τ := fun τ => lv_cut S (by decide) τ
  have hx : Gx S (cutS S) := ⟨fun e he => ⟨by rw [l3]; exact he, rfl⟩, fun _ _ q => q, fun _ _ q => q⟩
  refine ⟨?_, ?_, ?_, ?_, ?_, ?_, spr⟩
  · obtain ⟨⟨l1, l2, l3', l4, l5⟩, d⟩ := sd
    exact ⟨⟨by rw [lv_cut S (by decide)]; exact l1, by rw [lv_cut_t S 21 (by decide)]; exact l2, by rw [lv_cut S (by decide)]; exact l3', by rw [lv_cut S (by decide)]; exact l4, by rw [lv_cut S (by decide)]; exact l5⟩, d⟩
  · intro n hn
    obtain ⟨b1, b⟩ := sp n hn
    exact ⟨by rw [lv_cut S (by decide)]; exact b1, b⟩
  · intro t ht
    obtain ⟨b1, b2, b⟩ := sl t ht
    exact ⟨by rw [lv_cut S (by decide)]; exact b1, by rw [lv_cut_t S 20 (by omega)]; exact b2, b⟩
  · intro e
    simp only [l3]
    exact se e
  · intro i hi
    exact (sf i hi).ag hx (fun _ _ _ => rfl) rfl (fun _ _ _ => ⟨rfl, rfl⟩) (by rw [lv_cut S (by decide)]; exact (sf i hi).1.1) rfl rfl rfl
  · intro i p hi hp
    exact (sq i p hi hp).ag hx (fun _ _ _ _ _ => rfl) rfl rfl (fun _ _ => rfl) (fun _ _ _ => ⟨rfl, rfl⟩) (by rw [lv_cut S (by decide)]; exact (sq i p hi hp).1.1) rfl
theorem VM.ref {S : Gs} {M M' : Mm} (h : VM (cutS S) M) (hF : Fr ownR M M') : VM (cutS S) M' := by
  refine ⟨fun c τ hl => ?_, fun a l hl => ?_, fun a q hq => ?_⟩
  · obtain ⟨o, k, v⟩ := h.1 c τ hl
    have ht := (lv_cut_le hl).2
    have f := hF _ (ck c τ).1 (ck c τ).2.1 (ck c τ).2.2 k
    have no : ownR (ck c τ).1 (ck c τ).2.1 = false := by
      rcases okc_cases o with e | e | e | e | e | e | e | e | e | e | e <;> subst e <;> simp [ck, ownR] <;> omega
    exact ⟨o, f.1, fun k hk => ⟨by rw [(f.2 no _).1]; exact (v k hk).1, by rw [(f.2 no _).2]; exact (v k hk).2⟩⟩
  · obtain ⟨t, a1, a2, t1, t2, c1, c2, c3, c4, c5, b1, b2, c6⟩ := h.2.1 a l hl
    have f0 := hF _ _ _ _ c1
    have f1 := hF _ _ _ _ c4
    have f2 := hF _ _ _ _ c5
    have o0 : ownR 7 t = false := rfl
    have o1 : ownR 20 (4 * t1 + 2) = false := by simp [ownR]; omega
    have o2 : ownR 20 (4 * t2 + 2) = false := by simp [ownR]; omega
    exact ⟨t, a1, a2, t1, t2, f0.1, ((f0.2 o0 _).2).trans c2, ((f0.2 o0 _).2).trans c3, f1.1, f2.1, b1, b2, fun j hj => ⟨((f1.2 o1 _).1).trans (c6 j hj).1, ((f2.2 o2 _).1).trans (c6 j hj).2⟩⟩
  · obtain ⟨t, c1, c2, c3, c4⟩ := h.2.2 a q hq
    have f0 := hF _ _ _ _ c1
    have o0 : ownR 6 t = false := rfl
    exact ⟨t, f0.1, ((f0.2 o0 _).2).trans c2, ((f0.2 o0 _).1).trans c3, ((f0.2 o0 _).2).trans c4⟩
theorem Zt.ref {P : Pst} {LL : Lls} {S : Gs} {M M' : Mm} (h : Zt P LL S M) (hF : Fr ownR M M') : Zt P LL (cutS S) M' := ⟨h.1.cut.ref hF, h.2.1.cut, h.2.2.1, h.2.2.2⟩
/-- what holds between two calls of the law -/
def LwI (a m c : Nat) (M : Mm) : Prop := ∃ (P : Pst) (LL : Lls) (S : Gs) (ra : Nat → Nat), Inv c P LL ∧ Zt P LL S M ∧ ad S 0 0 = a ∧ RR (m, ra) P M
abbrev Qlw : Option Value → Mm → Prop := fun r _ => r = some (.int 1)
abbrev Llw (b a m i : Nat) : List (Option Value) := [some (va_rf (some b)), some (va_rf (some a)), some (va_rf (some m)), some (.int (nI i))]
theorem Inv.c20 {c : Nat} {P : Pst} {LL : Lls} (h : Inv c P LL) : Inv (c + 20) P LL := ⟨h.1.more (by omega), h.2⟩
section Ops
variable {b L a m i c r : Nat} {xs : Nat → Int32} {M0 M : Mm} {P : Pst} {LL : Lls} {S : Gs} {ra : Nat → Nat}
set_option maxHeartbeats 2000000 in
set_option maxRecDepth 100000 in
theorem lw_effect (h0 : gr M0 0 0 = some b) (h1 : gr M0 0 1 = some L) (hx : ∀ j, gi M0 0 (4096 + j) = xs j) (hL : L ≤ 2560) (hi : i + 5 ≤ L) (hc : c + 20 ≤ 2 ^ 20) (hI : Inv c P LL) (hZ : Zt P LL S M) (ha : ad S 0 0 = a) (hR : RR (m, ra) P M) (kk : ∀ M2, LwI a m (c + 20) M2 → G m_W_law ownL M0 Qlw 10 (600 * r) (4000 * r) M2 435 (Llw b a m i) []) : G m_W_law ownL M0 Qlw 10 (600 * (r + 1)) (4000 * (r + 1)) M 92 (Llw b a m i) [] := by
  have hW := hI.1.1.1
  refine g_aload_n d_W_law_92 rfl ?_
  refine g_aload_n d_W_law_93 rfl ?_
  refine g_iload_n d_W_law_94 rfl ?_
  refine g_iconst (v := 1) d_W_law_95 (by decide) ?_
  refine g_iadd d_W_law_96 ?_
  refine g_scrAt (N := L) (j := i + 1) (v := xs (i + 1)) rfl h0 h1 (hx _) d_W_law_97 (ix_add (a := i) (b := 1) rfl rfl) (by omega) (by omega) ?_
  refine g_aload_n d_W_law_98 rfl ?_
  refine g_iload_n d_W_law_99 rfl ?_
  refine g_iconst (v := 2) d_W_law_100 (by decide) ?_
  refine g_iadd d_W_law_101 ?_
  refine g_scrAt (N := L) (j := i + 2) (v := xs (i + 2)) rfl h0 h1 (hx _) d_W_law_102 (ix_add (a := i) (b := 2) rfl rfl) (by omega) (by omega) ?_
  refine g_aload_n d_W_law_103 rfl ?_
  refine g_iload_n d_W_law_104 rfl ?_
  refine g_iconst (v := 3) d_W_law_105 (by decide) ?_
  refine g_iadd d_W_law_106 ?_
  refine g_scrAt (N := L) (j := i + 3) (v := xs (i + 3)) rfl h0 h1 (hx _) d_W_law_107 (ix_add (a := i) (b := 3) rfl rfl) (by omega) (by omega) ?_
  refine g_aload_n d_W_law_108 rfl ?_
  refine g_iload_n d_W_law_109 rfl ?_
  refine g_iconst (v := 4) d_W_law_110 (by decide) ?_
  refine g_iadd d_W_law_111 ?_
  refine g_scrAt (N := L) (j := i + 4) (v := xs (i + 4)) rfl h0 h1 (hx _) d_W_law_112 (ix_add (a := i) (b := 4) rfl rfl) (by omega) (by omega) ?_
  refine g_callV (k1 := 600 * r) (n1 := 4000 * r) [.int (xs (i + 1)), .int (xs (i + 2)), .int (xs (i + 3)), .int (xs (i + 4))] cw_W_13 cv_D_effect d_W_law_113 (show some a = some (ad S 0 0) by rw [ha]) (hZ.1.kdo (sl_0 hZ.2.1) (by decide)) rfl rfl ⟨by simp [cat_rf, cat_int], by simp⟩ (by decide) (by omega) (by omega) ownL_C (s_D_effect hZ (xs (i + 1)) (xs (i + 2)) (xs (i + 3)) (xs (i + 4))) (fun r_ M1 h_ hf1 => ?_)
  obtain ⟨rfl, S', hZ', hK⟩ := h_
  have ha' : ad S' 0 0 = a := (hK.1 0 0 (by decide) (by decide) (sl_0 hZ.2.1)).trans ha
  rw [epE_eq] at hZ'
  rw [eaE_eq]
  have hI' := (hI.effect (xs (i + 1)) (xs (i + 2)) (xs (i + 3)) (xs (i + 4))).c20
  have hR1 := hR.kept hf1
  refine g_aload_n d_W_law_116 rfl ?_
  refine g_aload_n d_W_law_117 rfl ?_
  refine g_iload_n d_W_law_118 rfl ?_
  refine g_iconst (v := 1) d_W_law_119 (by decide) ?_
  refine g_iadd d_W_law_120 ?_
  refine g_scrAt (N := L) (j := i + 1) (v := xs (i + 1)) rfl h0 h1 (hx _) d_W_law_121 (ix_add (a := i) (b := 1) rfl rfl) (by omega) (by omega) ?_
  refine g_aload_n d_W_law_122 rfl ?_
  refine g_iload_n d_W_law_123 rfl ?_
  refine g_iconst (v := 2) d_W_law_124 (by decide) ?_
  refine g_iadd d_W_law_125 ?_
  refine g_scrAt (N := L) (j := i + 2) (v := xs (i + 2)) rfl h0 h1 (hx _) d_W_law_126 (ix_add (a := i) (b := 2) rfl rfl) (by omega) (by omega) ?_
  refine g_aload_n d_W_law_127 rfl ?_
  refine g_iload_n d_W_law_128 rfl ?_
  refine g_iconst (v := 3) d_W_law_129 (by decide) ?_
  refine g_iadd d_W_law_130 ?_
  refine g_scrAt (N := L) (j := i + 3) (v := xs (i + 3)) rfl h0 h1 (hx _) d_W_law_131 (ix_add (a := i) (b := 3) rfl rfl) (by omega) (by omega) ?_
  refine g_aload_n d_W_law_132 rfl ?_
  refine g_iload_n d_W_law_133 rfl ?_
  refine g_iconst (v := 4) d_W_law_134 (by decide) ?_
  refine g_iadd d_W_law_135 ?_
  refine g_scrAt (N := L) (j := i + 4) (v := xs (i + 4)) rfl h0 h1 (hx _) d_W_law_136 (ix_add (a := i) (b := 4) rfl rfl) (by omega) (by omega) ?_
  refine g_callV (k1 := 600 * r) (n1 := 4000 * r) [.int (xs (i + 1)), .int (xs (i + 2)), .int (xs (i + 3)), .int (xs (i + 4))] cw_W_17 cv_R_effect d_W_law_137 rfl hR1.1 rfl rfl ⟨by simp [cat_rf, cat_int], by simp⟩ (by decide) (by omega) (by omega) ownL_R (c_R_effect P (xs (i + 1)) (xs (i + 2)) (xs (i + 3)) (xs (i + 4)) (hW 4 0).1 (fun q => ne_lt (hW 4 0) rfl q) (m, ra) M1 hR1) (fun r_ M2 h_ hf2 => ?_)
  obtain ⟨rfl, hR2⟩ := h_
  refine g_icmp_eq 435 d_W_law_140 (by decide) (fun _ => kk M2 ⟨_, _, cutS _, ra, hI', hZ'.ref hf2, ha', hR2⟩) (fun q => absurd rfl q)
set_option maxHeartbeats 2000000 in
set_option maxRecDepth 100000 in
theorem lw_start (h0 : gr M0 0 0 = some b) (h1 : gr M0 0 1 = some L) (hx : ∀ j, gi M0 0 (4096 + j) = xs j) (hL : L ≤ 2560) (hi : i + 5 ≤ L) (hc : c + 20 ≤ 2 ^ 20) (hI : Inv c P LL) (hZ : Zt P LL S M) (ha : ad S 0 0 = a) (hR : RR (m, ra) P M) (kk : ∀ M2, LwI a m (c + 20) M2 → G m_W_law ownL M0 Qlw 10 (600 * r) (4000 * r) M2 435 (Llw b a m i) []) : G m_W_law ownL M0 Qlw 10 (600 * (r + 1)) (4000 * (r + 1)) M 145 (Llw b a m i) [] := by
  have hW := hI.1.1.1
  refine g_aload_n d_W_law_145 rfl ?_
  refine g_aload_n d_W_law_146 rfl ?_
  refine g_iload_n d_W_law_147 rfl ?_
  refine g_iconst (v := 1) d_W_law_148 (by decide) ?_
  refine g_iadd d_W_law_149 ?_
  refine g_scrAt (N := L) (j := i + 1) (v := xs (i + 1)) rfl h0 h1 (hx _) d_W_law_150 (ix_add (a := i) (b := 1) rfl rfl) (by omega) (by omega) ?_
  refine g_aload_n d_W_law_151 rfl ?_
  refine g_iload_n d_W_law_152 rfl ?_
  refine g_iconst (v := 2) d_W_law_153 (by decide) ?_
  refine g_iadd d_W_law_154 ?_
  refine g_scrAt (N := L) (j := i + 2) (v := xs (i + 2)) rfl h0 h1 (hx _) d_W_law_155 (ix_add (a := i) (b := 2) rfl rfl) (by omega) (by omega) ?_
  refine g_callV (k1 := 600 * r) (n1 := 4000 * r) [.int (xs (i + 1)), .int (xs (i + 2))] cw_W_18 cv_D_start d_W_law_156 (show some a = some (ad S 0 0) by rw [ha]) (hZ.1.kdo (sl_0 hZ.2.1) (by decide)) rfl rfl ⟨by simp [cat_rf, cat_int], by simp⟩ (by decide) (by omega) (by omega) ownL_C (s_D_start hZ (xs (i + 1)) (xs (i + 2))) (fun r_ M1 h_ hf1 => ?_)
  obtain ⟨rfl, S', hZ', hK⟩ := h_
  have ha' : ad S' 0 0 = a := hK.trans ha
  have hI' := (hI.start (xs (i + 1)) (xs (i + 2))).c20
  have hR1 := hR.kept hf1
  refine g_aload_n d_W_law_159 rfl ?_
  refine g_aload_n d_W_law_160 rfl ?_
  refine g_iload_n d_W_law_161 rfl ?_
  refine g_iconst (v := 1) d_W_law_162 (by decide) ?_
  refine g_iadd d_W_law_163 ?_
  refine g_scrAt (N := L) (j := i + 1) (v := xs (i + 1)) rfl h0 h1 (hx _) d_W_law_164 (ix_add (a := i) (b := 1) rfl rfl) (by omega) (by omega) ?_
  refine g_aload_n d_W_law_165 rfl ?_
  refine g_iload_n d_W_law_166 rfl ?_
  refine g_iconst (v := 2) d_W_law_167 (by decide) ?_
  refine g_iadd d_W_law_168 ?_
  refine g_scrAt (N := L) (j := i + 2) (v := xs (i + 2)) rfl h0 h1 (hx _) d_W_law_169 (ix_add (a := i) (b := 2) rfl rfl) (by omega) (by omega) ?_
  refine g_callV (k1 := 600 * r) (n1 := 4000 * r) [.int (xs (i + 1)), .int (xs (i + 2))] cw_W_22 cv_R_start d_W_law_170 rfl hR1.1 rfl rfl ⟨by simp [cat_rf, cat_int], by simp⟩ (by decide) (by omega) (by omega) ownL_R (c_R_start P (xs (i + 1)) (xs (i + 2)) (m, ra) M1 hR1) (fun r_ M2 h_ hf2 => ?_)
  obtain ⟨rfl, hR2⟩ := h_
  refine g_icmp_eq 435 d_W_law_173 (by decide) (fun _ => kk M2 ⟨_, _, cutS _, ra, hI', hZ'.ref hf2, ha', hR2⟩) (fun q => absurd rfl q)
set_option maxHeartbeats 2000000 in
set_option maxRecDepth 100000 in
theorem lw_run (h0 : gr M0 0 0 = some b) (h1 : gr M0 0 1 = some L) (hx : ∀ j, gi M0 0 (4096 + j) = xs j) (hL : L ≤ 2560) (hi : i + 5 ≤ L) (hc : c + 20 ≤ 2 ^ 20) (hI : Inv c P LL) (hZ : Zt P LL S M) (ha : ad S 0 0 = a) (hR : RR (m, ra) P M) (kk : ∀ M2, LwI a m (c + 20) M2 → G m_W_law ownL M0 Qlw 10 (600 * r) (4000 * r) M2 435 (Llw b a m i) []) : G m_W_law ownL M0 Qlw 10 (600 * (r + 1)) (4000 * (r + 1)) M 178 (Llw b a m i) [] := by
  have hW := hI.1.1.1
  have hrun := hI.run hc (xs (i + 1))
  refine g_aload_n d_W_law_178 rfl ?_
  refine g_aload_n d_W_law_179 rfl ?_
  refine g_iload_n d_W_law_180 rfl ?_
  refine g_iconst (v := 1) d_W_law_181 (by decide) ?_
  refine g_iadd d_W_law_182 ?_
  refine g_scrAt (N := L) (j := i + 1) (v := xs (i + 1)) rfl h0 h1 (hx _) d_W_law_183 (ix_add (a := i) (b := 1) rfl rfl) (by omega) (by omega) ?_
  refine g_callV (k1 := 600 * r) (n1 := 4000 * r) [.int (xs (i + 1))] cw_W_23 cv_D_run d_W_law_184 (show some a = some (ad S 0 0) by rw [ha]) (hZ.1.kdo (sl_0 hZ.2.1) (by decide)) rfl rfl ⟨by simp [cat_rf, cat_int], by simp⟩ (by decide) (by omega) (by omega) ownL_C (s_D_run hZ hI.2.1 (xs (i + 1)) hrun.1) (fun r_ M1 h_ hf1 => ?_)
  obtain ⟨rfl, S', hZ', hK⟩ := h_
  have ha' : ad S' 0 0 = a := (hK.1 0 0 (by decide) (by decide) (sl_0 hZ.2.1)).trans ha
  rw [hrun.2.2.1] at hZ'
  rw [hrun.2.1]
  have hI' := hrun.2.2.2.2.2
  have hR1 := hR.kept hf1
  refine g_aload_n d_W_law_187 rfl ?_
  refine g_aload_n d_W_law_188 rfl ?_
  refine g_iload_n d_W_law_189 rfl ?_
  refine g_iconst (v := 1) d_W_law_190 (by decide) ?_
  refine g_iadd d_W_law_191 ?_
  refine g_scrAt (N := L) (j := i + 1) (v := xs (i + 1)) rfl h0 h1 (hx _) d_W_law_192 (ix_add (a := i) (b := 1) rfl rfl) (by omega) (by omega) ?_
  refine g_callV (k1 := 600 * r) (n1 := 4000 * r) [.int (xs (i + 1))] cw_W_27 cv_R_run d_W_law_193 rfl hR1.1 rfl rfl ⟨by simp [cat_rf, cat_int], by simp⟩ (by decide) (by omega) (by omega) ownL_R (c_R_run P (xs (i + 1)) hrun.2.2.2.1 hrun.2.2.2.2.1 (m, ra) M1 hR1) (fun r_ M2 h_ hf2 => ?_)
  obtain ⟨rfl, hR2⟩ := h_
  refine g_icmp_eq 435 d_W_law_196 (by decide) (fun _ => kk M2 ⟨_, _, cutS _, ra, hI', hZ'.ref hf2, ha', hR2⟩) (fun q => absurd rfl q)
set_option maxHeartbeats 2000000 in
set_option maxRecDepth 100000 in
theorem lw_interrupt (h0 : gr M0 0 0 = some b) (h1 : gr M0 0 1 = some L) (hx : ∀ j, gi M0 0 (4096 + j) = xs j) (hL : L ≤ 2560) (hi : i + 5 ≤ L) (hc : c + 20 ≤ 2 ^ 20) (hI : Inv c P LL) (hZ : Zt P LL S M) (ha : ad S 0 0 = a) (hR : RR (m, ra) P M) (kk : ∀ M2, LwI a m (c + 20) M2 → G m_W_law ownL M0 Qlw 10 (600 * r) (4000 * r) M2 435 (Llw b a m i) []) : G m_W_law ownL M0 Qlw 10 (600 * (r + 1)) (4000 * (r + 1)) M 201 (Llw b a m i) [] := by
  have hW := hI.1.1.1
  refine g_aload_n d_W_law_201 rfl ?_
  refine g_aload_n d_W_law_202 rfl ?_
  refine g_iload_n d_W_law_203 rfl ?_
  refine g_iconst (v := 1) d_W_law_204 (by decide) ?_
  refine g_iadd d_W_law_205 ?_
  refine g_scrAt (N := L) (j := i + 1) (v := xs (i + 1)) rfl h0 h1 (hx _) d_W_law_206 (ix_add (a := i) (b := 1) rfl rfl) (by omega) (by omega) ?_
  refine g_callV (k1 := 600 * r) (n1 := 4000 * r) [.int (xs (i + 1))] cw_W_28 cv_D_interrupt d_W_law_207 (show some a = some (ad S 0 0) by rw [ha]) (hZ.1.kdo (sl_0 hZ.2.1) (by decide)) rfl rfl ⟨by simp [cat_rf, cat_int], by simp⟩ (by decide) (by omega) (by omega) ownL_C (s_D_interrupt hZ hI.2.1 hI.1.stok hI.q5 (xs (i + 1))) (fun r_ M1 h_ hf1 => ?_)
  obtain ⟨rfl, S', hZ', hK⟩ := h_
  have ha' : ad S' 0 0 = a := (hK.1 0 0 (by decide) (by decide) (sl_0 hZ.2.1)).trans ha
  have hI' := (hI.interrupt (xs (i + 1))).c20
  have hR1 := hR.kept hf1
  refine g_aload_n d_W_law_210 rfl ?_
  refine g_aload_n d_W_law_211 rfl ?_
  refine g_iload_n d_W_law_212 rfl ?_
  refine g_iconst (v := 1) d_W_law_213 (by decide) ?_
  refine g_iadd d_W_law_214 ?_
  refine g_scrAt (N := L) (j := i + 1) (v := xs (i + 1)) rfl h0 h1 (hx _) d_W_law_215 (ix_add (a := i) (b := 1) rfl rfl) (by omega) (by omega) ?_
  refine g_callV (k1 := 600 * r) (n1 := 4000 * r) [.int (xs (i + 1))] cw_W_32 cv_R_interrupt d_W_law_216 rfl hR1.1 rfl rfl ⟨by simp [cat_rf, cat_int], by simp⟩ (by decide) (by omega) (by omega) ownL_R (c_R_interrupt P (xs (i + 1)) hW (fun q w => hI.q5 _ q w) (m, ra) M1 hR1) (fun r_ M2 h_ hf2 => ?_)
  obtain ⟨rfl, hR2⟩ := h_
  refine g_icmp_eq 435 d_W_law_219 (by decide) (fun _ => kk M2 ⟨_, _, cutS _, ra, hI', hZ'.ref hf2, ha', hR2⟩) (fun q => absurd rfl q)
set_option maxHeartbeats 2000000 in
set_option maxRecDepth 100000 in
theorem lw_keep (h0 : gr M0 0 0 = some b) (h1 : gr M0 0 1 = some L) (hx : ∀ j, gi M0 0 (4096 + j) = xs j) (hL : L ≤ 2560) (hi : i + 5 ≤ L) (hc : c + 20 ≤ 2 ^ 20) (hI : Inv c P LL) (hZ : Zt P LL S M) (ha : ad S 0 0 = a) (hR : RR (m, ra) P M) (kk : ∀ M2, LwI a m (c + 20) M2 → G m_W_law ownL M0 Qlw 10 (600 * r) (4000 * r) M2 435 (Llw b a m i) []) : G m_W_law ownL M0 Qlw 10 (600 * (r + 1)) (4000 * (r + 1)) M 224 (Llw b a m i) [] := by
  have hW := hI.1.1.1
  have hkp := hI.keep (xs (i + 1)) (xs (i + 2))
  refine g_aload_n d_W_law_224 rfl ?_
  refine g_aload_n d_W_law_225 rfl ?_
  refine g_iload_n d_W_law_226 rfl ?_
  refine g_iconst (v := 1) d_W_law_227 (by decide) ?_
  refine g_iadd d_W_law_228 ?_
  refine g_scrAt (N := L) (j := i + 1) (v := xs (i + 1)) rfl h0 h1 (hx _) d_W_law_229 (ix_add (a := i) (b := 1) rfl rfl) (by omega) (by omega) ?_
  refine g_aload_n d_W_law_230 rfl ?_
  refine g_iload_n d_W_law_231 rfl ?_
  refine g_iconst (v := 2) d_W_law_232 (by decide) ?_
  refine g_iadd d_W_law_233 ?_
  refine g_scrAt (N := L) (j := i + 2) (v := xs (i + 2)) rfl h0 h1 (hx _) d_W_law_234 (ix_add (a := i) (b := 2) rfl rfl) (by omega) (by omega) ?_
  refine g_callV (k1 := 600 * r) (n1 := 4000 * r) [.int (xs (i + 1)), .int (xs (i + 2))] cw_W_33 cv_D_keep d_W_law_235 (show some a = some (ad S 0 0) by rw [ha]) (hZ.1.kdo (sl_0 hZ.2.1) (by decide)) rfl rfl ⟨by simp [cat_rf, cat_int], by simp⟩ (by decide) (by omega) (by omega) ownL_C (s_D_keep hZ hI.2.1 hI.ln (xs (i + 1)) (xs (i + 2))) (fun r_ M1 h_ hf1 => ?_)
  obtain ⟨rfl, S', hZ', hK⟩ := h_
  have ha' : ad S' 0 0 = a := (hK.1 0 0 (by decide) (by decide) (sl_0 hZ.2.1)).trans ha
  rw [hkp.1] at hZ'
  have hI' := hkp.2.1.c20
  have hR1 := hR.kept hf1
  refine g_aload_n d_W_law_238 rfl ?_
  refine g_aload_n d_W_law_239 rfl ?_
  refine g_iload_n d_W_law_240 rfl ?_
  refine g_iconst (v := 1) d_W_law_241 (by decide) ?_
  refine g_iadd d_W_law_242 ?_
  refine g_scrAt (N := L) (j := i + 1) (v := xs (i + 1)) rfl h0 h1 (hx _) d_W_law_243 (ix_add (a := i) (b := 1) rfl rfl) (by omega) (by omega) ?_
  refine g_aload_n d_W_law_244 rfl ?_
  refine g_iload_n d_W_law_245 rfl ?_
  refine g_iconst (v := 2) d_W_law_246 (by decide) ?_
  refine g_iadd d_W_law_247 ?_
  refine g_scrAt (N := L) (j := i + 2) (v := xs (i + 2)) rfl h0 h1 (hx _) d_W_law_248 (ix_add (a := i) (b := 2) rfl rfl) (by omega) (by omega) ?_
  refine g_callV (k1 := 600 * r) (n1 := 4000 * r) [.int (xs (i + 1)), .int (xs (i + 2))] cw_W_36 cv_R_keep d_W_law_249 rfl hR1.1 rfl rfl ⟨by simp [cat_rf, cat_int], by simp⟩ (by decide) (by omega) (by omega) ownL_R (c_R_keep P (xs (i + 1)) (xs (i + 2)) hW hkp.2.2 (m, ra) M1 hR1) (fun r_ M2 h_ hf2 => ?_)
  obtain ⟨rfl, hR2⟩ := h_
  refine g_icmp_eq 435 d_W_law_252 (by decide) (fun _ => kk M2 ⟨_, _, cutS _, ra, hI', hZ'.ref hf2, ha', hR2⟩) (fun q => absurd rfl q)
set_option maxHeartbeats 2000000 in
set_option maxRecDepth 100000 in
theorem lw_fiber (h0 : gr M0 0 0 = some b) (h1 : gr M0 0 1 = some L) (hx : ∀ j, gi M0 0 (4096 + j) = xs j) (hL : L ≤ 2560) (hi : i + 5 ≤ L) (hc : c + 20 ≤ 2 ^ 20) (hI : Inv c P LL) (hZ : Zt P LL S M) (ha : ad S 0 0 = a) (hR : RR (m, ra) P M) (kk : ∀ M2, LwI a m (c + 20) M2 → G m_W_law ownL M0 Qlw 10 (600 * r) (4000 * r) M2 435 (Llw b a m i) []) : G m_W_law ownL M0 Qlw 10 (600 * (r + 1)) (4000 * (r + 1)) M 257 (Llw b a m i) [] := by
  have hW := hI.1.1.1
  refine g_aload_n d_W_law_257 rfl ?_
  refine g_aload_n d_W_law_258 rfl ?_
  refine g_iload_n d_W_law_259 rfl ?_
  refine g_iconst (v := 1) d_W_law_260 (by decide) ?_
  refine g_iadd d_W_law_261 ?_
  refine g_scrAt (N := L) (j := i + 1) (v := xs (i + 1)) rfl h0 h1 (hx _) d_W_law_262 (ix_add (a := i) (b := 1) rfl rfl) (by omega) (by omega) ?_
  refine g_aload_n d_W_law_263 rfl ?_
  refine g_iload_n d_W_law_264 rfl ?_
  refine g_iconst (v := 2) d_W_law_265 (by decide) ?_
  refine g_iadd d_W_law_266 ?_
  refine g_scrAt (N := L) (j := i + 2) (v := xs (i + 2)) rfl h0 h1 (hx _) d_W_law_267 (ix_add (a := i) (b := 2) rfl rfl) (by omega) (by omega) ?_
  refine g_callV (k1 := 600 * r) (n1 := 4000 * r) [.int (xs (i + 1)), .int (xs (i + 2))] cw_W_37 cv_D_fiber d_W_law_268 (show some a = some (ad S 0 0) by rw [ha]) (hZ.1.kdo (sl_0 hZ.2.1) (by decide)) rfl rfl ⟨by simp [cat_rf, cat_int], by simp⟩ (by decide) (by omega) (by omega) ownL_C (s_D_fiber hZ hI.2.1 hI.sta (xs (i + 1)) (xs (i + 2))) (fun r_ M1 h_ hf1 => ?_)
  obtain ⟨rfl, hV'⟩ := h_
  have hZ' : Zt P LL S M1 := ⟨hV', hZ.2⟩
  have ha' := ha
  have hI' := hI.c20
  have hR1 := hR.kept hf1
  refine g_aload_n d_W_law_271 rfl ?_
  refine g_aload_n d_W_law_272 rfl ?_
  refine g_iload_n d_W_law_273 rfl ?_
  refine g_iconst (v := 1) d_W_law_274 (by decide) ?_
  refine g_iadd d_W_law_275 ?_
  refine g_scrAt (N := L) (j := i + 1) (v := xs (i + 1)) rfl h0 h1 (hx _) d_W_law_276 (ix_add (a := i) (b := 1) rfl rfl) (by omega) (by omega) ?_
  refine g_aload_n d_W_law_277 rfl ?_
  refine g_iload_n d_W_law_278 rfl ?_
  refine g_iconst (v := 2) d_W_law_279 (by decide) ?_
  refine g_iadd d_W_law_280 ?_
  refine g_scrAt (N := L) (j := i + 2) (v := xs (i + 2)) rfl h0 h1 (hx _) d_W_law_281 (ix_add (a := i) (b := 2) rfl rfl) (by omega) (by omega) ?_
  refine g_callV (k1 := 600 * r) (n1 := 4000 * r) [.int (xs (i + 1)), .int (xs (i + 2))] cw_W_41 cv_R_fiber d_W_law_282 rfl hR1.1 rfl rfl ⟨by simp [cat_rf, cat_int], by simp⟩ (by decide) (by omega) (by omega) ownL_R (c_R_fiber P (xs (i + 1)) (xs (i + 2)) hW (m, ra) M1 hR1) (fun r_ M2 h_ hf2 => ?_)
  obtain ⟨rfl, hR2⟩ := h_
  refine g_icmp_eq 435 d_W_law_285 (by decide) (fun _ => kk M2 ⟨_, _, cutS _, ra, hI', hZ'.ref hf2, ha', hR2⟩) (fun q => absurd rfl q)
set_option maxHeartbeats 2000000 in
set_option maxRecDepth 100000 in
theorem lw_cause (h0 : gr M0 0 0 = some b) (h1 : gr M0 0 1 = some L) (hx : ∀ j, gi M0 0 (4096 + j) = xs j) (hL : L ≤ 2560) (hi : i + 5 ≤ L) (hc : c + 20 ≤ 2 ^ 20) (hI : Inv c P LL) (hZ : Zt P LL S M) (ha : ad S 0 0 = a) (hR : RR (m, ra) P M) (kk : ∀ M2, LwI a m (c + 20) M2 → G m_W_law ownL M0 Qlw 10 (600 * r) (4000 * r) M2 435 (Llw b a m i) []) : G m_W_law ownL M0 Qlw 10 (600 * (r + 1)) (4000 * (r + 1)) M 290 (Llw b a m i) [] := by
  have hW := hI.1.1.1
  refine g_aload_n d_W_law_290 rfl ?_
  refine g_aload_n d_W_law_291 rfl ?_
  refine g_iload_n d_W_law_292 rfl ?_
  refine g_iconst (v := 1) d_W_law_293 (by decide) ?_
  refine g_iadd d_W_law_294 ?_
  refine g_scrAt (N := L) (j := i + 1) (v := xs (i + 1)) rfl h0 h1 (hx _) d_W_law_295 (ix_add (a := i) (b := 1) rfl rfl) (by omega) (by omega) ?_
  refine g_aload_n d_W_law_296 rfl ?_
  refine g_iload_n d_W_law_297 rfl ?_
  refine g_iconst (v := 2) d_W_law_298 (by decide) ?_
  refine g_iadd d_W_law_299 ?_
  refine g_scrAt (N := L) (j := i + 2) (v := xs (i + 2)) rfl h0 h1 (hx _) d_W_law_300 (ix_add (a := i) (b := 2) rfl rfl) (by omega) (by omega) ?_
  refine g_aload_n d_W_law_301 rfl ?_
  refine g_iload_n d_W_law_302 rfl ?_
  refine g_iconst (v := 3) d_W_law_303 (by decide) ?_
  refine g_iadd d_W_law_304 ?_
  refine g_scrAt (N := L) (j := i + 3) (v := xs (i + 3)) rfl h0 h1 (hx _) d_W_law_305 (ix_add (a := i) (b := 3) rfl rfl) (by omega) (by omega) ?_
  refine g_callV (k1 := 600 * r) (n1 := 4000 * r) [.int (xs (i + 1)), .int (xs (i + 2)), .int (xs (i + 3))] cw_W_42 cv_D_cause d_W_law_306 (show some a = some (ad S 0 0) by rw [ha]) (hZ.1.kdo (sl_0 hZ.2.1) (by decide)) rfl rfl ⟨by simp [cat_rf, cat_int], by simp⟩ (by decide) (by omega) (by omega) ownL_C (s_D_cause hZ hI.2.1 (xs (i + 1)) (xs (i + 2)) (xs (i + 3))) (fun r_ M1 h_ hf1 => ?_)
  obtain ⟨rfl, hV'⟩ := h_
  have hZ' : Zt P LL S M1 := ⟨hV', hZ.2⟩
  have ha' := ha
  have hI' := hI.c20
  have hR1 := hR.kept hf1
  refine g_aload_n d_W_law_309 rfl ?_
  refine g_aload_n d_W_law_310 rfl ?_
  refine g_iload_n d_W_law_311 rfl ?_
  refine g_iconst (v := 1) d_W_law_312 (by decide) ?_
  refine g_iadd d_W_law_313 ?_
  refine g_scrAt (N := L) (j := i + 1) (v := xs (i + 1)) rfl h0 h1 (hx _) d_W_law_314 (ix_add (a := i) (b := 1) rfl rfl) (by omega) (by omega) ?_
  refine g_aload_n d_W_law_315 rfl ?_
  refine g_iload_n d_W_law_316 rfl ?_
  refine g_iconst (v := 2) d_W_law_317 (by decide) ?_
  refine g_iadd d_W_law_318 ?_
  refine g_scrAt (N := L) (j := i + 2) (v := xs (i + 2)) rfl h0 h1 (hx _) d_W_law_319 (ix_add (a := i) (b := 2) rfl rfl) (by omega) (by omega) ?_
  refine g_aload_n d_W_law_320 rfl ?_
  refine g_iload_n d_W_law_321 rfl ?_
  refine g_iconst (v := 3) d_W_law_322 (by decide) ?_
  refine g_iadd d_W_law_323 ?_
  refine g_scrAt (N := L) (j := i + 3) (v := xs (i + 3)) rfl h0 h1 (hx _) d_W_law_324 (ix_add (a := i) (b := 3) rfl rfl) (by omega) (by omega) ?_
  refine g_callV (k1 := 600 * r) (n1 := 4000 * r) [.int (xs (i + 1)), .int (xs (i + 2)), .int (xs (i + 3))] cw_W_46 cv_R_cause d_W_law_325 rfl hR1.1 rfl rfl ⟨by simp [cat_rf, cat_int], by simp⟩ (by decide) (by omega) (by omega) ownL_R (c_R_cause P (xs (i + 1)) (xs (i + 2)) (xs (i + 3)) hW (m, ra) M1 hR1) (fun r_ M2 h_ hf2 => ?_)
  obtain ⟨rfl, hR2⟩ := h_
  refine g_icmp_eq 435 d_W_law_328 (by decide) (fun _ => kk M2 ⟨_, _, cutS _, ra, hI', hZ'.ref hf2, ha', hR2⟩) (fun q => absurd rfl q)
set_option maxHeartbeats 2000000 in
set_option maxRecDepth 100000 in
theorem lw_queued (h0 : gr M0 0 0 = some b) (h1 : gr M0 0 1 = some L) (hx : ∀ j, gi M0 0 (4096 + j) = xs j) (hL : L ≤ 2560) (hi : i + 5 ≤ L) (hc : c + 20 ≤ 2 ^ 20) (hI : Inv c P LL) (hZ : Zt P LL S M) (ha : ad S 0 0 = a) (hR : RR (m, ra) P M) (kk : ∀ M2, LwI a m (c + 20) M2 → G m_W_law ownL M0 Qlw 10 (600 * r) (4000 * r) M2 435 (Llw b a m i) []) : G m_W_law ownL M0 Qlw 10 (600 * (r + 1)) (4000 * (r + 1)) M 333 (Llw b a m i) [] := by
  have hW := hI.1.1.1
  refine g_aload_n d_W_law_333 rfl ?_
  refine g_aload_n d_W_law_334 rfl ?_
  refine g_iload_n d_W_law_335 rfl ?_
  refine g_iconst (v := 1) d_W_law_336 (by decide) ?_
  refine g_iadd d_W_law_337 ?_
  refine g_scrAt (N := L) (j := i + 1) (v := xs (i + 1)) rfl h0 h1 (hx _) d_W_law_338 (ix_add (a := i) (b := 1) rfl rfl) (by omega) (by omega) ?_
  refine g_callV (k1 := 600 * r) (n1 := 4000 * r) [.int (xs (i + 1))] cw_W_47 cv_D_queued d_W_law_339 (show some a = some (ad S 0 0) by rw [ha]) (hZ.1.kdo (sl_0 hZ.2.1) (by decide)) rfl rfl ⟨by simp [cat_rf, cat_int], by simp⟩ (by decide) (by omega) (by omega) ownL_C (s_D_queued hZ hI.qs hI.q36 (xs (i + 1))) (fun r_ M1 h_ hf1 => ?_)
  obtain ⟨rfl, hV'⟩ := h_
  have hZ' : Zt P LL S M1 := ⟨hV', hZ.2⟩
  have ha' := ha
  have hI' := hI.c20
  have hR1 := hR.kept hf1
  refine g_aload_n d_W_law_342 rfl ?_
  refine g_aload_n d_W_law_343 rfl ?_
  refine g_iload_n d_W_law_344 rfl ?_
  refine g_iconst (v := 1) d_W_law_345 (by decide) ?_
  refine g_iadd d_W_law_346 ?_
  refine g_scrAt (N := L) (j := i + 1) (v := xs (i + 1)) rfl h0 h1 (hx _) d_W_law_347 (ix_add (a := i) (b := 1) rfl rfl) (by omega) (by omega) ?_
  refine g_callV (k1 := 600 * r) (n1 := 4000 * r) [.int (xs (i + 1))] cw_W_50 cv_R_queued d_W_law_348 rfl hR1.1 rfl rfl ⟨by simp [cat_rf, cat_int], by simp⟩ (by decide) (by omega) (by omega) ownL_R (c_R_queued P (xs (i + 1)) hW (m, ra) M1 hR1) (fun r_ M2 h_ hf2 => ?_)
  obtain ⟨rfl, hR2⟩ := h_
  refine g_icmp_eq 435 d_W_law_351 (by decide) (fun _ => kk M2 ⟨_, _, cutS _, ra, hI', hZ'.ref hf2, ha', hR2⟩) (fun q => absurd rfl q)
set_option maxHeartbeats 2000000 in
set_option maxRecDepth 100000 in
theorem lw_printed (h0 : gr M0 0 0 = some b) (h1 : gr M0 0 1 = some L) (hx : ∀ j, gi M0 0 (4096 + j) = xs j) (hL : L ≤ 2560) (hi : i + 5 ≤ L) (hc : c + 20 ≤ 2 ^ 20) (hI : Inv c P LL) (hZ : Zt P LL S M) (ha : ad S 0 0 = a) (hR : RR (m, ra) P M) (kk : ∀ M2, LwI a m (c + 20) M2 → G m_W_law ownL M0 Qlw 10 (600 * r) (4000 * r) M2 435 (Llw b a m i) []) : G m_W_law ownL M0 Qlw 10 (600 * (r + 1)) (4000 * (r + 1)) M 356 (Llw b a m i) [] := by
  have hW := hI.1.1.1
  refine g_aload_n d_W_law_356 rfl ?_
  refine g_aload_n d_W_law_357 rfl ?_
  refine g_iload_n d_W_law_358 rfl ?_
  refine g_iconst (v := 1) d_W_law_359 (by decide) ?_
  refine g_iadd d_W_law_360 ?_
  refine g_scrAt (N := L) (j := i + 1) (v := xs (i + 1)) rfl h0 h1 (hx _) d_W_law_361 (ix_add (a := i) (b := 1) rfl rfl) (by omega) (by omega) ?_
  refine g_callV (k1 := 600 * r) (n1 := 4000 * r) [.int (xs (i + 1))] cw_W_51 cv_D_printed d_W_law_362 (show some a = some (ad S 0 0) by rw [ha]) (hZ.1.kdo (sl_0 hZ.2.1) (by decide)) rfl rfl ⟨by simp [cat_rf, cat_int], by simp⟩ (by decide) (by omega) (by omega) ownL_C (s_D_printed hZ (xs (i + 1))) (fun r_ M1 h_ hf1 => ?_)
  obtain ⟨rfl, hV'⟩ := h_
  have hZ' : Zt P LL S M1 := ⟨hV', hZ.2⟩
  have ha' := ha
  have hI' := hI.c20
  have hR1 := hR.kept hf1
  refine g_aload_n d_W_law_365 rfl ?_
  refine g_aload_n d_W_law_366 rfl ?_
  refine g_iload_n d_W_law_367 rfl ?_
  refine g_iconst (v := 1) d_W_law_368 (by decide) ?_
  refine g_iadd d_W_law_369 ?_
  refine g_scrAt (N := L) (j := i + 1) (v := xs (i + 1)) rfl h0 h1 (hx _) d_W_law_370 (ix_add (a := i) (b := 1) rfl rfl) (by omega) (by omega) ?_
  refine g_callV (k1 := 600 * r) (n1 := 4000 * r) [.int (xs (i + 1))] cw_W_54 cv_R_printed d_W_law_371 rfl hR1.1 rfl rfl ⟨by simp [cat_rf, cat_int], by simp⟩ (by decide) (by omega) (by omega) ownL_R (c_R_printed P (xs (i + 1)) hW (m, ra) M1 hR1) (fun r_ M2 h_ hf2 => ?_)
  obtain ⟨rfl, hR2⟩ := h_
  refine g_icmp_eq 435 d_W_law_374 (by decide) (fun _ => kk M2 ⟨_, _, cutS _, ra, hI', hZ'.ref hf2, ha', hR2⟩) (fun q => absurd rfl q)
set_option maxHeartbeats 2000000 in
set_option maxRecDepth 100000 in
theorem lw_cell (h0 : gr M0 0 0 = some b) (h1 : gr M0 0 1 = some L) (hx : ∀ j, gi M0 0 (4096 + j) = xs j) (hL : L ≤ 2560) (hi : i + 5 ≤ L) (hc : c + 20 ≤ 2 ^ 20) (hI : Inv c P LL) (hZ : Zt P LL S M) (ha : ad S 0 0 = a) (hR : RR (m, ra) P M) (kk : ∀ M2, LwI a m (c + 20) M2 → G m_W_law ownL M0 Qlw 10 (600 * r) (4000 * r) M2 435 (Llw b a m i) []) : G m_W_law ownL M0 Qlw 10 (600 * (r + 1)) (4000 * (r + 1)) M 379 (Llw b a m i) [] := by
  have hW := hI.1.1.1
  refine g_aload_n d_W_law_379 rfl ?_
  refine g_aload_n d_W_law_380 rfl ?_
  refine g_iload_n d_W_law_381 rfl ?_
  refine g_iconst (v := 1) d_W_law_382 (by decide) ?_
  refine g_iadd d_W_law_383 ?_
  refine g_scrAt (N := L) (j := i + 1) (v := xs (i + 1)) rfl h0 h1 (hx _) d_W_law_384 (ix_add (a := i) (b := 1) rfl rfl) (by omega) (by omega) ?_
  refine g_aload_n d_W_law_385 rfl ?_
  refine g_iload_n d_W_law_386 rfl ?_
  refine g_iconst (v := 2) d_W_law_387 (by decide) ?_
  refine g_iadd d_W_law_388 ?_
  refine g_scrAt (N := L) (j := i + 2) (v := xs (i + 2)) rfl h0 h1 (hx _) d_W_law_389 (ix_add (a := i) (b := 2) rfl rfl) (by omega) (by omega) ?_
  refine g_callV (k1 := 600 * r) (n1 := 4000 * r) [.int (xs (i + 1)), .int (xs (i + 2))] cw_W_55 cv_D_cell d_W_law_390 (show some a = some (ad S 0 0) by rw [ha]) (hZ.1.kdo (sl_0 hZ.2.1) (by decide)) rfl rfl ⟨by simp [cat_rf, cat_int], by simp⟩ (by decide) (by omega) (by omega) ownL_C (s_D_cell hZ hI.2.1 hI.w4 hI.w5 (xs (i + 1)) (xs (i + 2))) (fun r_ M1 h_ hf1 => ?_)
  obtain ⟨rfl, hV'⟩ := h_
  have hZ' : Zt P LL S M1 := ⟨hV', hZ.2⟩
  have ha' := ha
  have hI' := hI.c20
  have hR1 := hR.kept hf1
  refine g_aload_n d_W_law_393 rfl ?_
  refine g_aload_n d_W_law_394 rfl ?_
  refine g_iload_n d_W_law_395 rfl ?_
  refine g_iconst (v := 1) d_W_law_396 (by decide) ?_
  refine g_iadd d_W_law_397 ?_
  refine g_scrAt (N := L) (j := i + 1) (v := xs (i + 1)) rfl h0 h1 (hx _) d_W_law_398 (ix_add (a := i) (b := 1) rfl rfl) (by omega) (by omega) ?_
  refine g_aload_n d_W_law_399 rfl ?_
  refine g_iload_n d_W_law_400 rfl ?_
  refine g_iconst (v := 2) d_W_law_401 (by decide) ?_
  refine g_iadd d_W_law_402 ?_
  refine g_scrAt (N := L) (j := i + 2) (v := xs (i + 2)) rfl h0 h1 (hx _) d_W_law_403 (ix_add (a := i) (b := 2) rfl rfl) (by omega) (by omega) ?_
  refine g_callV (k1 := 600 * r) (n1 := 4000 * r) [.int (xs (i + 1)), .int (xs (i + 2))] cw_W_58 cv_R_cell d_W_law_404 rfl hR1.1 rfl rfl ⟨by simp [cat_rf, cat_int], by simp⟩ (by decide) (by omega) (by omega) ownL_R (c_R_cell P (xs (i + 1)) (xs (i + 2)) hW (m, ra) M1 hR1) (fun r_ M2 h_ hf2 => ?_)
  obtain ⟨rfl, hR2⟩ := h_
  refine g_icmp_eq 435 d_W_law_407 (by decide) (fun _ => kk M2 ⟨_, _, cutS _, ra, hI', hZ'.ref hf2, ha', hR2⟩) (fun q => absurd rfl q)
set_option maxHeartbeats 2000000 in
set_option maxRecDepth 100000 in
theorem lw_count (h0 : gr M0 0 0 = some b) (h1 : gr M0 0 1 = some L) (hx : ∀ j, gi M0 0 (4096 + j) = xs j) (hL : L ≤ 2560) (hi : i + 5 ≤ L) (hc : c + 20 ≤ 2 ^ 20) (hI : Inv c P LL) (hZ : Zt P LL S M) (ha : ad S 0 0 = a) (hR : RR (m, ra) P M) (kk : ∀ M2, LwI a m (c + 20) M2 → G m_W_law ownL M0 Qlw 10 (600 * r) (4000 * r) M2 435 (Llw b a m i) []) : G m_W_law ownL M0 Qlw 10 (600 * (r + 1)) (4000 * (r + 1)) M 412 (Llw b a m i) [] := by
  have hW := hI.1.1.1
  refine g_aload_n d_W_law_412 rfl ?_
  refine g_aload_n d_W_law_413 rfl ?_
  refine g_iload_n d_W_law_414 rfl ?_
  refine g_iconst (v := 1) d_W_law_415 (by decide) ?_
  refine g_iadd d_W_law_416 ?_
  refine g_scrAt (N := L) (j := i + 1) (v := xs (i + 1)) rfl h0 h1 (hx _) d_W_law_417 (ix_add (a := i) (b := 1) rfl rfl) (by omega) (by omega) ?_
  refine g_callV (k1 := 600 * r) (n1 := 4000 * r) [.int (xs (i + 1))] cw_W_59 cv_D_count d_W_law_418 (show some a = some (ad S 0 0) by rw [ha]) (hZ.1.kdo (sl_0 hZ.2.1) (by decide)) rfl rfl ⟨by simp [cat_rf, cat_int], by simp⟩ (by decide) (by omega) (by omega) ownL_C (s_D_count hZ hI.2.1 hI.sta (xs (i + 1))) (fun r_ M1 h_ hf1 => ?_)
  obtain ⟨rfl, hV'⟩ := h_
  have hZ' : Zt P LL S M1 := ⟨hV', hZ.2⟩
  have ha' := ha
  have hI' := hI.c20
  have hR1 := hR.kept hf1
  refine g_aload_n d_W_law_421 rfl ?_
  refine g_aload_n d_W_law_422 rfl ?_
  refine g_iload_n d_W_law_423 rfl ?_
  refine g_iconst (v := 1) d_W_law_424 (by decide) ?_
  refine g_iadd d_W_law_425 ?_
  refine g_scrAt (N := L) (j := i + 1) (v := xs (i + 1)) rfl h0 h1 (hx _) d_W_law_426 (ix_add (a := i) (b := 1) rfl rfl) (by omega) (by omega) ?_
  refine g_callV (k1 := 600 * r) (n1 := 4000 * r) [.int (xs (i + 1))] cw_W_62 cv_R_count d_W_law_427 rfl hR1.1 rfl rfl ⟨by simp [cat_rf, cat_int], by simp⟩ (by decide) (by omega) (by omega) ownL_R (c_R_count P (xs (i + 1)) hW (m, ra) M1 hR1) (fun r_ M2 h_ hf2 => ?_)
  obtain ⟨rfl, hR2⟩ := h_
  refine g_icmp_eq 435 d_W_law_430 (by decide) (fun _ => kk M2 ⟨_, _, cutS _, ra, hI', hZ'.ref hf2, ha', hR2⟩) (fun q => absurd rfl q)
end Ops
theorem sw_0_10 {x : Int32} (h0 : ¬ x = 0) (h1 : ¬ x = 1) (h2 : ¬ x = 2) (h3 : ¬ x = 3) (h4 : ¬ x = 4) (h5 : ¬ x = 5) (h6 : ¬ x = 6) (h7 : ¬ x = 7) (h8 : ¬ x = 8) (h9 : ¬ x = 9) (h10 : ¬ x = 10) : x.toInt < 0 ∨ 10 < x.toInt := by
  have g0 : ¬ x.toInt = 0 := fun q => h0 (Int32.toInt_inj.mp (by rw [q]; decide))
  have g1 : ¬ x.toInt = 1 := fun q => h1 (Int32.toInt_inj.mp (by rw [q]; decide))
  have g2 : ¬ x.toInt = 2 := fun q => h2 (Int32.toInt_inj.mp (by rw [q]; decide))
  have g3 : ¬ x.toInt = 3 := fun q => h3 (Int32.toInt_inj.mp (by rw [q]; decide))
  have g4 : ¬ x.toInt = 4 := fun q => h4 (Int32.toInt_inj.mp (by rw [q]; decide))
  have g5 : ¬ x.toInt = 5 := fun q => h5 (Int32.toInt_inj.mp (by rw [q]; decide))
  have g6 : ¬ x.toInt = 6 := fun q => h6 (Int32.toInt_inj.mp (by rw [q]; decide))
  have g7 : ¬ x.toInt = 7 := fun q => h7 (Int32.toInt_inj.mp (by rw [q]; decide))
  have g8 : ¬ x.toInt = 8 := fun q => h8 (Int32.toInt_inj.mp (by rw [q]; decide))
  have g9 : ¬ x.toInt = 9 := fun q => h9 (Int32.toInt_inj.mp (by rw [q]; decide))
  have g10 : ¬ x.toInt = 10 := fun q => h10 (Int32.toInt_inj.mp (by rw [q]; decide))
  omega
theorem scr_end {i L : Nat} (hi : i ≤ 2560) (hL : L ≤ 2560) : nI L - 5 < nI i ↔ L < i + 5 := by
  by_cases q : 5 ≤ L
  · rw [show nI L - 5 = nI (L - 5) from ix_sub (y := 5) rfl (b := 5) rfl q, nI_ltI (by omega) (by omega)]
    omega
  · refine ⟨fun _ => by omega, fun _ => ?_⟩
    have hneg : nI L - 5 < 0 := by
      have : L = 0 ∨ L = 1 ∨ L = 2 ∨ L = 3 ∨ L = 4 := by omega
      rcases this with e | e | e | e | e <;> rw [e] <;> decide
    exact Int32.lt_of_lt_of_le hneg (nI_pos' (by omega))
theorem lw_head {b L a m i K N : Nat} {M0 M : Mm} (h0 : gr M0 0 0 = some b) (h1 : gr M0 0 1 = some L) (hL : L ≤ 2560) (hi : i ≤ L) (kk : i + 5 ≤ L → G m_W_law ownL M0 Qlw 10 K N M 26 (Llw b a m i) []) : G m_W_law ownL M0 Qlw 10 K N M 18 (Llw b a m i) [] := by
  refine g_iload_n d_W_law_18 rfl ?_
  refine g_aload_n d_W_law_19 rfl ?_
  refine g_scrLen rfl h0 h1 d_W_law_20 ?_
  refine g_iconst (v := 5) d_W_law_21 (by decide) ?_
  refine g_isub d_W_law_22 ?_
  refine g_icmp_gt 441 d_W_law_23 (by decide) (fun q => ?_) (fun q => ?_)
  · refine g_iconst (v := 1) d_W_law_441 (by decide) ?_
    exact g_zreturn d_W_law_442 rfl (Or.inr rfl) rfl
  · exact kk (Nat.not_lt.mp (fun w => q ((scr_end (by omega) hL).mpr w)))
set_option maxHeartbeats 4000000 in
set_option maxRecDepth 100000 in
theorem law_loop {b L a m : Nat} {xs : Nat → Int32} {M0 : Mm} (h0 : gr M0 0 0 = some b) (h1 : gr M0 0 1 = some L) (hx : ∀ j, gi M0 0 (4096 + j) = xs j) (hL : L ≤ 2560) : ∀ (r i c : Nat) (M : Mm), i ≤ L → L < i + 5 * (r + 1) → c + 20 * r ≤ 2 ^ 20 → LwI a m c M → G m_W_law ownL M0 Qlw 10 (600 * r) (4000 * r) M 18 (Llw b a m i) []
  | 0, i, c, M, hi, hr, hc, hI => lw_head h0 h1 hL hi (fun hle => absurd hr (by omega))
  | r + 1, i, c, M, hi, hr, hc, hI => lw_head h0 h1 hL hi (fun hle => by
        obtain ⟨P, LL, S, ra, hIn, hZ, ha, hR⟩ := hI
        have kk : ∀ M2, LwI a m (c + 20) M2 → G m_W_law ownL M0 Qlw 10 (600 * r) (4000 * r) M2 435 (Llw b a m i) [] := fun M2 h2 => by
          refine g_iinc (v := nI (i + 5)) d_W_law_435 rfl (ix_add (a := i) (b := 5) rfl (by decide)) (by decide) ?_
          refine g_goto 18 d_W_law_438 (by decide) ?_
          exact law_loop h0 h1 hx hL r (i + 5) (c + 20) M2 hle (by omega) (by omega) h2
        have hc' : c + 20 ≤ 2 ^ 20 := by omega
        refine g_aload_n d_W_law_26 rfl ?_
        refine g_iload_n d_W_law_27 rfl ?_
        refine g_scrAt (N := L) (j := i) (v := xs i) rfl h0 h1 (hx _) d_W_law_28 rfl (by omega) (by omega) ?_
        refine g_bipush (v := 15) d_W_law_29 (by decide) ?_
        refine g_iand d_W_law_31 ?_
        generalize xs i &&& 15 = v
        by_cases v0 : v = 0
        · rw [v0]
          refine g_tableIn 92 d_W_law_32 (by decide) (by decide) rfl (by decide) ?_
          exact lw_effect h0 h1 hx hL hle hc' hIn hZ ha hR kk
        by_cases v1 : v = 1
        · rw [v1]
          refine g_tableIn 145 d_W_law_32 (by decide) (by decide) rfl (by decide) ?_
          exact lw_start h0 h1 hx hL hle hc' hIn hZ ha hR kk
        by_cases v2 : v = 2
        · rw [v2]
          refine g_tableIn 178 d_W_law_32 (by decide) (by decide) rfl (by decide) ?_
          exact lw_run h0 h1 hx hL hle hc' hIn hZ ha hR kk
        by_cases v3 : v = 3
        · rw [v3]
          refine g_tableIn 201 d_W_law_32 (by decide) (by decide) rfl (by decide) ?_
          exact lw_interrupt h0 h1 hx hL hle hc' hIn hZ ha hR kk
        by_cases v4 : v = 4
        · rw [v4]
          refine g_tableIn 224 d_W_law_32 (by decide) (by decide) rfl (by decide) ?_
          exact lw_keep h0 h1 hx hL hle hc' hIn hZ ha hR kk
        by_cases v5 : v = 5
        · rw [v5]
          refine g_tableIn 257 d_W_law_32 (by decide) (by decide) rfl (by decide) ?_
          exact lw_fiber h0 h1 hx hL hle hc' hIn hZ ha hR kk
        by_cases v6 : v = 6
        · rw [v6]
          refine g_tableIn 290 d_W_law_32 (by decide) (by decide) rfl (by decide) ?_
          exact lw_cause h0 h1 hx hL hle hc' hIn hZ ha hR kk
        by_cases v7 : v = 7
        · rw [v7]
          refine g_tableIn 333 d_W_law_32 (by decide) (by decide) rfl (by decide) ?_
          exact lw_queued h0 h1 hx hL hle hc' hIn hZ ha hR kk
        by_cases v8 : v = 8
        · rw [v8]
          refine g_tableIn 356 d_W_law_32 (by decide) (by decide) rfl (by decide) ?_
          exact lw_printed h0 h1 hx hL hle hc' hIn hZ ha hR kk
        by_cases v9 : v = 9
        · rw [v9]
          refine g_tableIn 379 d_W_law_32 (by decide) (by decide) rfl (by decide) ?_
          exact lw_cell h0 h1 hx hL hle hc' hIn hZ ha hR kk
        by_cases v10 : v = 10
        · rw [v10]
          refine g_tableIn 412 d_W_law_32 (by decide) (by decide) rfl (by decide) ?_
          exact lw_count h0 h1 hx hL hle hc' hIn hZ ha hR kk
        refine g_tableOut 435 d_W_law_32 (sw_0_10 v0 v1 v2 v3 v4 v5 v6 v7 v8 v9 v10) (by decide) ?_
        refine g_less (k' := 600 * r) (n' := 4000 * r) (by omega) (by omega) ?_
        exact kk M ⟨P, LL, S, ra, hIn.c20, hZ, ha, hR⟩)
