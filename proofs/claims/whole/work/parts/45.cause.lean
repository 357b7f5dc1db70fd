/-! causes over the view -/
def CA (M : Mm) (a : Nat) (f : Int32 × Int32 → Int32) (l : List (Int32 × Int32)) : Prop := ∃ t : Nat, kd M a = some (20, 4 * t + 2, l.length) ∧ ∀ j, j < l.length → gi M a (4096 + j) = f (l.getD j (0, 0))
section CauseRules
variable {mi : MI} {M0 : Mm} {Q : Option Value → Mm → Prop} {dep k n : Nat} {S : Gs} {M : Mm} {pc : Nat} {L : List (Option Value)} {st : List Value}
theorem v_ckind {idx a : Nat} {o : Option Nat} {l : List (Int32 × Int32)} (hV : VM S M) (hk : kc S a = some l) (hf : fl mi.1.cls idx 7 0) (hd : decode mi.2.1 pc = .ok (.getfield idx, 3)) (ho : o = some a) (kk : ∀ a1, CA M a1 Prod.fst l → G mi ownC M0 Q dep k n M (pc + 3) L (va_rf (some a1) :: st)) : G mi ownC M0 Q dep k n M pc L (va_rf o :: st) := by
  obtain ⟨s1, k1, m1, t1, t2, g1, g2, g3, g4, g5, g6, g7, g8⟩ := hV.2.1 a l hk
  refine g_getr 448 hf rfl rfl hd ho g1 ?_
  rw [g2]
  exact kk k1 ⟨t1, g4, fun j hj => (g8 j hj).1⟩
theorem v_cnum {idx a : Nat} {o : Option Nat} {l : List (Int32 × Int32)} (hV : VM S M) (hk : kc S a = some l) (hf : fl mi.1.cls idx 7 1) (hd : decode mi.2.1 pc = .ok (.getfield idx, 3)) (ho : o = some a) (kk : ∀ a1, CA M a1 Prod.snd l → G mi ownC M0 Q dep k n M (pc + 3) L (va_rf (some a1) :: st)) : G mi ownC M0 Q dep k n M pc L (va_rf o :: st) := by
  obtain ⟨s1, k1, m1, t1, t2, g1, g2, g3, g4, g5, g6, g7, g8⟩ := hV.2.1 a l hk
  refine g_getr 449 hf rfl rfl hd ho g1 ?_
  rw [g3]
  exact kk m1 ⟨t2, g5, fun j hj => (g8 j hj).2⟩
theorem v_clen {a : Nat} {f : Int32 × Int32 → Int32} {l : List (Int32 × Int32)} (h : CA M a f l) (hd : decode mi.2.1 pc = .ok (.arraylength, 1)) (kk : G mi ownC M0 Q dep k n M (pc + 1) L (.int (nI l.length) :: st)) : G mi ownC M0 Q dep k n M pc L (va_rf (some a) :: st) := by
  obtain ⟨t, h1, h2⟩ := h
  exact g_alen hd rfl h1 rfl kk
theorem v_cld {a j : Nat} {i : Int32} {f : Int32 × Int32 → Int32} {l : List (Int32 × Int32)} (h : CA M a f l) (hd : decode mi.2.1 pc = .ok (.iaload, 1)) (hi : i = nI j) (hj : j < l.length) (hl : l.length ≤ 9) (kk : G mi ownC M0 Q dep k n M (pc + 1) L (.int (f (l.getD j (0, 0))) :: st)) : G mi ownC M0 Q dep k n M pc L (.int i :: va_rf (some a) :: st) := by
  obtain ⟨t, h1, h2⟩ := h
  exact g_ialdv (v := f (l.getD j (0, 0))) hd rfl h1 rfl hi hj (by omega) (h2 j hj) kk
/-- closers -/
theorem v_kx {idx a : Nat} {o : Option Nat} {q : Option Nat × Int32 × Option Nat} (hV : VM S M) (hk : kl S a = some q) (hf : fl mi.1.cls idx 6 0) (hd : decode mi.2.1 pc = .ok (.getfield idx, 3)) (ho : o = some a) (kk : G mi ownC M0 Q dep k n M (pc + 3) L (va_rf q.1 :: st)) : G mi ownC M0 Q dep k n M pc L (va_rf o :: st) := by
  obtain ⟨t, g1, g2, g3, g4⟩ := hV.2.2 a q hk
  refine g_getr 384 hf rfl rfl hd ho g1 ?_
  rw [g2]
  exact kk
theorem v_ki {idx a : Nat} {o : Option Nat} {q : Option Nat × Int32 × Option Nat} (hV : VM S M) (hk : kl S a = some q) (hf : fl mi.1.cls idx 6 1) (hd : decode mi.2.1 pc = .ok (.getfield idx, 3)) (ho : o = some a) (kk : G mi ownC M0 Q dep k n M (pc + 3) L (.int q.2.1 :: st)) : G mi ownC M0 Q dep k n M pc L (va_rf o :: st) := by
  obtain ⟨t, g1, g2, g3, g4⟩ := hV.2.2 a q hk
  exact g_getiv (v := q.2.1) 385 hf rfl rfl hd ho g1 g3 kk
theorem v_kz {idx a : Nat} {o : Option Nat} {q : Option Nat × Int32 × Option Nat} (hV : VM S M) (hk : kl S a = some q) (hf : fl mi.1.cls idx 6 2) (hd : decode mi.2.1 pc = .ok (.getfield idx, 3)) (ho : o = some a) (kk : G mi ownC M0 Q dep k n M (pc + 3) L (va_rf q.2.2 :: st)) : G mi ownC M0 Q dep k n M pc L (va_rf o :: st) := by
  obtain ⟨t, g1, g2, g3, g4⟩ := hV.2.2 a q hk
  refine g_getr 386 hf rfl rfl hd ho g1 ?_
  rw [g4]
  exact kk
end CauseRules
set_option maxHeartbeats 1000000 in
set_option maxRecDepth 100000 in
/-- the state behind a join of two causes -/
theorem s_D_joined {S : Gs} {M : Mm} (hV : VM S M) (kk : Int32) {c1 c2 : Nat} {l1 l2 : List (Int32 × Int32)} (hc1 : kc S c1 = some l1) (hc2 : kc S c2 = some l2) (h1 : l1.length ≤ 9) (h2 : l2.length ≤ 9) : Run m_D_joined ownC 2 3 20 [.int kk, va_rf (some c1), va_rf (some c2)] M (fun r M' => ∃ q, r = some (va_rf (some q)) ∧ ((q = c1 ∧ jnL kk l1 l2 = l1 ∧ VM S M') ∨ (kc S q = none ∧ VM (ukc S q (jnL kk l1 l2)) M'))) := by
  refine Run.ofG (by decide) (by simp [cat_int, cat_rf]) (Nat.le_of_ble_eq_true rfl) ?_
  refine g_iconst (v := 1) d_D_joined_0 (by decide) ?_
  refine g_aload_n d_D_joined_1 rfl ?_
  refine v_ckind hV hc1 fl_D_140 d_D_joined_2 rfl (fun a1 ha1 => ?_)
  refine v_clen ha1 d_D_joined_5 ?_
  refine g_iadd d_D_joined_6 ?_
  refine g_aload_n d_D_joined_7 rfl ?_
  refine v_ckind hV hc2 fl_D_140 d_D_joined_8 rfl (fun a2 ha2 => ?_)
  refine v_clen ha2 d_D_joined_11 ?_
  refine g_iadd d_D_joined_12 ?_
  refine g_istore_n d_D_joined_13 (by decide) ?_
  refine g_iload_n d_D_joined_14 rfl ?_
  refine g_bipush (v := 9) d_D_joined_15 (by decide) ?_
  have e : (1 : Int32) + nI l1.length + nI l2.length = nI (1 + l1.length + l2.length) := ix_add (ix_add (a := 1) rfl rfl) rfl
  refine g_icmp_le 24 d_D_joined_17 (by decide) (fun c => ?_) (fun c => ?_)
  · have hc : 1 + l1.length + l2.length ≤ 9 := ix_le_of (b := 9) e rfl (by omega) (by decide) c
    refine g_new (k' := 2) (n' := 18) 0 cl_D_141 d_D_joined_24 (by decide) (by decide) (fun q hq => ?_)
    have hn := hV.newc hq
    have hV1 := hV.ext (Ext.nw (Ext.refl _ M) hq 7 0 2)
    have ne : ∀ {a : Nat} {l : List (Int32 × Int32)}, kc S a = some l → a ≠ q := fun h e => by rw [e, hn.1] at h; exact absurd h (by simp)
    refine g_dup d_D_joined_27 ?_
    refine g_iload_n d_D_joined_28 rfl ?_
    refine g_aload_n d_D_joined_29 rfl ?_
    refine g_aload_n d_D_joined_30 rfl ?_
    refine g_callI (k1 := 0) (n1 := 0) [.int kk, va_rf (some c1), va_rf (some c2)] cw_D_335 ci_C_two d_D_joined_31 rfl rfl rfl ⟨by simp [cat_rf, cat_int], by simp⟩ (by decide) (by decide) (by decide) (fun _ _ h => h) (c_C_two _ q 0 (kd_nw_s _ _ _ _ _) kk c1 c2 l1 l2 (hV1.2.1 _ _ hc1) (hV1.2.1 _ _ hc2) (ne hc1) (ne hc2) hc) (fun r_ M h_ hfr_ => ?_)
    obtain ⟨rfl, hc_, hE_⟩ := h_
    have hV2 := VM.kc (hV.ext (Ext_new hq hE_)) hc_
    refine g_areturn d_D_joined_34 rfl ⟨q, rfl, Or.inr ⟨hn.1, ?_⟩⟩
    unfold jnL
    rw [if_pos hc]
    exact hV2
  · have hc : ¬ 1 + l1.length + l2.length ≤ 9 := fun h => c (by rw [e]; exact ix_le (b := 9) rfl rfl h (by decide))
    refine g_aload_n d_D_joined_20 rfl ?_
    refine g_goto 34 d_D_joined_21 (by decide) ?_
    exact g_areturn d_D_joined_34 rfl ⟨c1, rfl, Or.inl ⟨rfl, by unfold jnL; rw [if_neg hc], hV⟩⟩
