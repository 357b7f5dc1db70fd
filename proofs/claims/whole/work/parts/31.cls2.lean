/-! the class: causes (by program: wip/tools/gen_cls2.py) -/
/-- the cell a is a cause: a row of kinds and numbers, prefix -/
def IsC (M : Mm) (a : Nat) (l : List (Int32 × Int32)) : Prop := ∃ (t a1 a2 t1 t2 : Nat), kd M a = some (7, t, 2) ∧ gr M a 448 = some a1 ∧ gr M a 449 = some a2 ∧ kd M a1 = some (20, 4 * t1 + 2, l.length) ∧ kd M a2 = some (20, 4 * t2 + 2, l.length) ∧ t1 < 200 ∧ t2 < 200 ∧ ∀ j, j < l.length → gi M a1 (4096 + j) = (l.getD j (0, 0)).1 ∧ gi M a2 (4096 + j) = (l.getD j (0, 0)).2
/-- all that was there is as it was, but for the cells of S -/
def Ext (S : Nat → Prop) (M M' : Mm) : Prop := ∀ (b : Nat) (x : Nat × Nat × Nat), kd M b = some x → kd M' b = some x ∧ (¬ S b → ∀ f, gi M' b f = gi M b f ∧ gr M' b f = gr M b f)
theorem Ext.refl (S : Nat → Prop) (M : Mm) : Ext S M M := fun _ _ h => ⟨h, fun _ _ => ⟨rfl, rfl⟩⟩
theorem Ext.trans {S : Nat → Prop} {M M1 M2 : Mm} (h : Ext S M M1) (h' : Ext S M1 M2) : Ext S M M2 := fun b x hb => by
  obtain ⟨a1, a2⟩ := h b x hb
  obtain ⟨b1, b2⟩ := h' b x a1
  exact ⟨b1, fun ns f => ⟨((b2 ns f).1).trans (a2 ns f).1, ((b2 ns f).2).trans (a2 ns f).2⟩⟩
theorem Ext.si {S : Nat → Prop} {M M1 : Mm} (h : Ext S M M1) {a : Nat} (ha : S a ∨ kd M a = none) (f : Nat) (x : Int32) : Ext S M (si M1 a f x) := fun b y hb => by
  obtain ⟨a1, a2⟩ := h b y hb
  refine ⟨a1, fun ns g => ⟨?_, (a2 ns g).2⟩⟩
  have hne : b ≠ a := fun e => by
    subst e
    rcases ha with q | q
    · exact ns q
    · rw [q] at hb; cases hb
  rw [gi_si_a hne]; exact (a2 ns g).1
theorem Ext.sr {S : Nat → Prop} {M M1 : Mm} (h : Ext S M M1) {a : Nat} (ha : S a ∨ kd M a = none) (f : Nat) (x : Option Nat) : Ext S M (sr M1 a f x) := fun b y hb => by
  obtain ⟨a1, a2⟩ := h b y hb
  refine ⟨a1, fun ns g => ⟨(a2 ns g).1, ?_⟩⟩
  have hne : b ≠ a := fun e => by
    subst e
    rcases ha with q | q
    · exact ns q
    · rw [q] at hb; cases hb
  rw [gr_sr_a hne]; exact (a2 ns g).2
theorem Ext.nw {S : Nat → Prop} {M M1 : Mm} (h : Ext S M M1) {q : Nat} (hq : kd M1 q = none) (κ τ N : Nat) : Ext S M (nw M1 q κ τ N) := fun b y hb => by
  obtain ⟨a1, a2⟩ := h b y hb
  have hne : b ≠ q := ne_kd a1 hq
  refine ⟨(kd_nw_ne hne _ _ _ _).trans a1, fun ns g => ⟨(gi_nw_ne hne _ _ _ _ _).trans (a2 ns g).1, (gr_nw_ne hne _ _ _ _ _).trans (a2 ns g).2⟩⟩
theorem Ext.none {S : Nat → Prop} {M M1 : Mm} (h : Ext S M M1) {q : Nat} (hq : kd M1 q = none) : kd M q = none := by
  cases e : kd M q with
  | none => rfl
  | some x => rw [(h q x e).1] at hq; cases hq
theorem IsC.ext {S : Nat → Prop} {M M' : Mm} {a : Nat} {l : List (Int32 × Int32)} (h : IsC M a l) (he : Ext S M M') (hS : ∀ b t, (kd M b = some (7, t, 2) ∨ ∃ u N, kd M b = some (20, 4 * u + 2, N)) → ¬ S b) : IsC M' a l := by
  obtain ⟨t, a1, a2, t1, t2, h1, h2, h3, h4, h5, h6, h7, h8⟩ := h
  have e0 := he a _ h1
  have e1 := he a1 _ h4
  have e2 := he a2 _ h5
  have n0 := hS a t (Or.inl h1)
  have n1 := hS a1 0 (Or.inr ⟨_, _, h4⟩)
  have n2 := hS a2 0 (Or.inr ⟨_, _, h5⟩)
  refine ⟨t, a1, a2, t1, t2, e0.1, ((e0.2 n0 _).2).trans h2, ((e0.2 n0 _).2).trans h3, e1.1, e2.1, h6, h7, fun j hj => ⟨((e1.2 n1 _).1).trans (h8 j hj).1, ((e2.2 n2 _).1).trans (h8 j hj).2⟩⟩
set_option maxHeartbeats 4000000 in
set_option maxRecDepth 100000 in
theorem c_C_one (M : Mm) (f τ : Nat) (hf : kd M f = some (7, τ, 2)) (kk nn : Int32) : Run m_C_one ownC 1 2 2 [va_rf (some f), .int kk, .int nn] M (fun r M' => r = none ∧ IsC M' f [(kk, nn)] ∧ Ext (fun b => b = f) M M') := by
  refine Run.ofG (by decide) (by simp [cat_int, cat_rf]) (Nat.le_of_ble_eq_true rfl) ?_
  refine g_aload_n d_C_one_0 rfl ?_
  refine g_objInit ob_C_3 d_C_one_1 rfl ⟨by simp, by simp⟩ (by decide) ?_
  refine g_aload_n d_C_one_4 rfl ?_
  refine g_iconst (v := 1) d_C_one_5 (by decide) ?_
  refine g_newi (κ := 20) (N := 1) (k' := 1) (n' := 1) 202 rfl ac_int d_C_one_6 rfl (by first | decide | omega) (by first | decide | omega) (by first | decide | omega) (fun q6 hq_q6 => ?_)
  have ne_f_q6 : f ≠ q6 := ne_kd (show kd (M) f = _ from hf) hq_q6
  refine g_putr 448 fl_C_9 (Or.inl ⟨rfl, fun r h => by cases h; rfl⟩) rfl rfl d_C_one_8 rfl ((kd_nw_ne ne_f_q6 _ _ _ _).trans hf) rfl ?_
  refine g_aload_n d_C_one_11 rfl ?_
  refine g_iconst (v := 1) d_C_one_12 (by decide) ?_
  refine g_newi (κ := 20) (N := 1) (k' := 0) (n' := 0) 206 rfl ac_int d_C_one_13 rfl (by first | decide | omega) (by first | decide | omega) (by first | decide | omega) (fun q13 hq_q13 => ?_)
  have ne_f_q13 : f ≠ q13 := ne_kd (show kd (sr (nw M q6 20 202 1) f 448 (some q6)) f = _ from ((kd_sr _ _ _ _ _).trans ((kd_nw_ne ne_f_q6 _ _ _ _).trans hf))) hq_q13
  have ne_q6_q13 : q6 ≠ q13 := ne_kd (show kd (sr (nw M q6 20 202 1) f 448 (some q6)) q6 = _ from ((kd_sr _ _ _ _ _).trans (kd_nw_s _ _ _ _ _))) hq_q13
  refine g_putr 449 fl_C_15 (Or.inl ⟨rfl, fun r h => by cases h; rfl⟩) rfl rfl d_C_one_15 rfl ((kd_nw_ne ne_f_q13 _ _ _ _).trans ((kd_sr _ _ _ _ _).trans ((kd_nw_ne ne_f_q6 _ _ _ _).trans hf))) rfl ?_
  refine g_aload_n d_C_one_18 rfl ?_
  refine g_getrv (v := some q6) 448 fl_C_9 rfl rfl d_C_one_19 rfl ((kd_sr _ _ _ _ _).trans ((kd_nw_ne ne_f_q13 _ _ _ _).trans ((kd_sr _ _ _ _ _).trans ((kd_nw_ne ne_f_q6 _ _ _ _).trans hf)))) ((gr_sr_f (by decide) _ _ _ _).trans ((gr_nw_ne ne_f_q13 _ _ _ _ _).trans (gr_sr_s _ _ _ _))) ?_
  refine g_iconst (v := 0) d_C_one_22 (by decide) ?_
  refine g_iload_n d_C_one_23 rfl ?_
  refine g_iast (j := 0) d_C_one_24 rfl ((kd_sr _ _ _ _ _).trans ((kd_nw_ne ne_q6_q13 _ _ _ _).trans ((kd_sr _ _ _ _ _).trans (kd_nw_s _ _ _ _ _)))) rfl rfl rfl (by first | decide | omega) (by first | decide | omega) ?_
  refine g_aload_n d_C_one_25 rfl ?_
  refine g_getrv (v := some q13) 449 fl_C_15 rfl rfl d_C_one_26 rfl ((kd_si _ _ _ _ _).trans ((kd_sr _ _ _ _ _).trans ((kd_nw_ne ne_f_q13 _ _ _ _).trans ((kd_sr _ _ _ _ _).trans ((kd_nw_ne ne_f_q6 _ _ _ _).trans hf))))) ((gr_si _ _ _ _ _ _).trans (gr_sr_s _ _ _ _)) ?_
  refine g_iconst (v := 0) d_C_one_29 (by decide) ?_
  refine g_iload_n d_C_one_30 rfl ?_
  refine g_iast (j := 0) d_C_one_31 rfl ((kd_si _ _ _ _ _).trans ((kd_sr _ _ _ _ _).trans (kd_nw_s _ _ _ _ _))) rfl rfl rfl (by first | decide | omega) (by first | decide | omega) ?_
  have n0_q6 : kd M q6 = none := (Ext.refl (fun b => b = f) M).none hq_q6
  have n0_q13 : kd M q13 = none := (((Ext.refl (fun b => b = f) M).nw hq_q6 _ _ _).sr (Or.inl rfl) _ _).none hq_q13
  refine g_return d_C_one_32 rfl ⟨rfl, ⟨τ, q6, q13, 50, 51, ((kd_si _ _ _ _ _).trans ((kd_si _ _ _ _ _).trans ((kd_sr _ _ _ _ _).trans ((kd_nw_ne ne_f_q13 _ _ _ _).trans ((kd_sr _ _ _ _ _).trans ((kd_nw_ne ne_f_q6 _ _ _ _).trans hf)))))), (gr_si _ _ _ _ _ _).trans ((gr_si _ _ _ _ _ _).trans ((gr_sr_f (by decide) _ _ _ _).trans ((gr_nw_ne ne_f_q13 _ _ _ _ _).trans (gr_sr_s _ _ _ _)))), (gr_si _ _ _ _ _ _).trans ((gr_si _ _ _ _ _ _).trans (gr_sr_s _ _ _ _)), ((kd_si _ _ _ _ _).trans ((kd_si _ _ _ _ _).trans ((kd_sr _ _ _ _ _).trans ((kd_nw_ne ne_q6_q13 _ _ _ _).trans ((kd_sr _ _ _ _ _).trans (kd_nw_s _ _ _ _ _)))))), ((kd_si _ _ _ _ _).trans ((kd_si _ _ _ _ _).trans ((kd_sr _ _ _ _ _).trans (kd_nw_s _ _ _ _ _)))), by decide, by decide, fun j hj => ?_⟩, (((((((Ext.refl (fun b => b = f) M).nw hq_q6 _ _ _).sr (Or.inl rfl) _ _).nw hq_q13 _ _ _).sr (Or.inl rfl) _ _).si (Or.inr n0_q6) _ _).si (Or.inr n0_q13) _ _)⟩
  obtain rfl : j = 0 := by simp at hj; omega
  exact ⟨(gi_si_a ne_q6_q13 _ _ _ _).trans (gi_si_s _ _ _ _), gi_si_s _ _ _ _⟩
