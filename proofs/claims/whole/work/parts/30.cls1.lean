/-! the class: its leaves, over an explicit memory (by program: wip/tools/gen_cls1.py) -/
def ownC : Nat → Nat → Bool := fun κ τ => decide (κ < 8) || (κ == 20 && decide (τ < 1000)) || κ == 22 || κ == 23 || κ == 24
theorem ne_kd {M : Mm} {a q : Nat} {x : Nat × Nat × Nat} (h : kd M a = some x) (hq : kd M q = none) : a ≠ q := fun e => by rw [e, hq] at h; cases h
theorem kd_nw_s (M : Mm) (q κ τ N : Nat) : kd (nw M q κ τ N) q = some (κ, τ, N) := by rw [kd_nw, if_pos rfl]
theorem gi_nw_s (M : Mm) (q κ τ N f : Nat) : gi (nw M q κ τ N) q f = 0 := by rw [gi_nw, if_pos rfl]
theorem gr_nw_s (M : Mm) (q κ τ N f : Nat) : gr (nw M q κ τ N) q f = none := by rw [gr_nw, if_pos rfl]
theorem kd_nw_ne {a q : Nat} (h : a ≠ q) (M : Mm) (κ τ N : Nat) : kd (nw M q κ τ N) a = kd M a := by rw [kd_nw, if_neg h]
theorem gi_nw_ne {a q : Nat} (h : a ≠ q) (M : Mm) (κ τ N f : Nat) : gi (nw M q κ τ N) a f = gi M a f := by rw [gi_nw, if_neg h]
theorem gr_nw_ne {a q : Nat} (h : a ≠ q) (M : Mm) (κ τ N f : Nat) : gr (nw M q κ τ N) a f = gr M a f := by rw [gr_nw, if_neg h]
section ClsRules
variable {mi : MI} {own : Nat → Nat → Bool} {M0 : Mm} {Q : Option Value → Mm → Prop} {dep k n : Nat} {M : Mm} {pc : Nat} {L : List (Option Value)} {st : List Value}
theorem g_getiv {idx ci kf a τ N : Nat} {o : Option Nat} {v : Int32} (f : Nat) (hf : fl mi.1.cls idx ci kf) (ht : kInt (kTy ci kf) = true) (he : 64 * ci + kf = f) (hd : decode mi.2.1 pc = .ok (.getfield idx, 3)) (ho : o = some a) (hk : kd M a = some (ci, τ, N)) (hv : gi M a f = v) (kk : G mi own M0 Q dep k n M (pc + 3) L (.int v :: st)) : G mi own M0 Q dep k n M pc L (va_rf o :: st) := g_geti f hf ht he hd ho hk (by rw [hv]; exact kk)
theorem g_getrv {idx ci kf a τ N : Nat} {o v : Option Nat} (f : Nat) (hf : fl mi.1.cls idx ci kf) (ht : kInt (kTy ci kf) = false) (he : 64 * ci + kf = f) (hd : decode mi.2.1 pc = .ok (.getfield idx, 3)) (ho : o = some a) (hk : kd M a = some (ci, τ, N)) (hv : gr M a f = v) (kk : G mi own M0 Q dep k n M (pc + 3) L (va_rf v :: st)) : G mi own M0 Q dep k n M pc L (va_rf o :: st) := g_getr f hf ht he hd ho hk (by rw [hv]; exact kk)
theorem g_ialdv {a κ τ N j : Nat} {o : Option Nat} {i v : Int32} (hd : decode mi.2.1 pc = .ok (.iaload, 1)) (ho : o = some a) (hk : kd M a = some (κ, τ, N)) (ha : kAty κ = some .int) (hi : i = nI j) (hj : j < N) (hN : N < 2 ^ 31) (hv : gi M a (4096 + j) = v) (kk : G mi own M0 Q dep k n M (pc + 1) L (.int v :: st)) : G mi own M0 Q dep k n M pc L (.int i :: va_rf o :: st) := g_iald hd ho hk ha hi hj hN (by rw [hv]; exact kk)
end ClsRules
set_option maxHeartbeats 4000000 in
set_option maxRecDepth 100000 in
theorem c_F_perform (M : Mm) (f τ : Nat) (hf : kd M f = some (4, τ, 16)) (e : Option Nat) (v : Int32) : Run m_F_perform ownC 0 0 0 [va_rf (some f), va_rf e, .int v] M (fun r M' => r = none ∧ M' = si (sr M f 258 e) f 259 v) := by
  refine Run.ofG (by decide) (by simp [cat_int, cat_rf]) (Nat.le_of_ble_eq_true rfl) ?_
  refine g_aload_n d_F_perform_0 rfl ?_
  refine g_aload_n d_F_perform_1 rfl ?_
  refine g_putr 258 fl_F_9 (Or.inr (fun r h => by cases h; rfl)) rfl rfl d_F_perform_2 rfl hf rfl ?_
  refine g_aload_n d_F_perform_5 rfl ?_
  refine g_iload_n d_F_perform_6 rfl ?_
  refine g_puti 259 fl_F_15 (Or.inr (fun r h => by cases h; rfl)) rfl rfl d_F_perform_7 rfl ((kd_sr _ _ _ _ _).trans hf) rfl ?_
  exact g_return d_F_perform_10 rfl ⟨rfl, rfl⟩
set_option maxHeartbeats 4000000 in
set_option maxRecDepth 100000 in
theorem c_F_giveExit (M : Mm) (f τ : Nat) (hf : kd M f = some (4, τ, 16)) (v : Int32) (c : Option Nat) : Run m_F_giveExit ownC 0 0 0 [va_rf (some f), .int v, va_rf c] M (fun r M' => r = none ∧ M' = sr (si (sr M f 258 none) f 260 v) f 261 c) := by
  refine Run.ofG (by decide) (by simp [cat_int, cat_rf]) (Nat.le_of_ble_eq_true rfl) ?_
  refine g_aload_n d_F_giveExit_0 rfl ?_
  refine g_null d_F_giveExit_1 ?_
  refine g_putr 258 fl_F_9 (Or.inr (fun r h => by cases h; rfl)) rfl rfl d_F_giveExit_2 rfl hf rfl ?_
  refine g_aload_n d_F_giveExit_5 rfl ?_
  refine g_iload_n d_F_giveExit_6 rfl ?_
  refine g_puti 260 fl_F_19 (Or.inr (fun r h => by cases h; rfl)) rfl rfl d_F_giveExit_7 rfl ((kd_sr _ _ _ _ _).trans hf) rfl ?_
  refine g_aload_n d_F_giveExit_10 rfl ?_
  refine g_aload_n d_F_giveExit_11 rfl ?_
  refine g_putr 261 fl_F_22 (Or.inr (fun r h => by cases h; rfl)) rfl rfl d_F_giveExit_12 rfl ((kd_si _ _ _ _ _).trans ((kd_sr _ _ _ _ _).trans hf)) rfl ?_
  exact g_return d_F_giveExit_15 rfl ⟨rfl, rfl⟩
set_option maxHeartbeats 4000000 in
set_option maxRecDepth 100000 in
theorem c_F_giveValue (M : Mm) (f τ : Nat) (hf : kd M f = some (4, τ, 16)) (v : Int32) : Run m_F_giveValue ownC 1 0 0 [va_rf (some f), .int v] M (fun r M' => r = none ∧ M' = sr (si (sr M f 258 none) f 260 v) f 261 none) := by
  refine Run.ofG (by decide) (by simp [cat_int, cat_rf]) (Nat.le_of_ble_eq_true rfl) ?_
  refine g_aload_n d_F_giveValue_0 rfl ?_
  refine g_iload_n d_F_giveValue_1 rfl ?_
  refine g_null d_F_giveValue_2 ?_
  refine g_callV (k1 := 0) (n1 := 0) [.int (v), va_rf (none)] cw_F_64 cv_F_giveExit d_F_giveValue_3 rfl hf rfl rfl ⟨by simp, by simp⟩ (by first | decide | omega) (by first | decide | omega) (by first | decide | omega) (fun _ _ h => h) (c_F_giveExit _ f _ hf _ _) (fun r_ M_ h_ _ => ?_)
  obtain ⟨rfl, rfl⟩ := h_
  exact g_return d_F_giveValue_6 rfl ⟨rfl, rfl⟩
set_option maxHeartbeats 4000000 in
set_option maxRecDepth 100000 in
theorem c_F_giveCause (M : Mm) (f τ : Nat) (hf : kd M f = some (4, τ, 16)) (c : Option Nat) : Run m_F_giveCause ownC 1 0 0 [va_rf (some f), va_rf c] M (fun r M' => r = none ∧ M' = sr (si (sr M f 258 none) f 260 0) f 261 c) := by
  refine Run.ofG (by decide) (by simp [cat_int, cat_rf]) (Nat.le_of_ble_eq_true rfl) ?_
  refine g_aload_n d_F_giveCause_0 rfl ?_
  refine g_iconst (v := 0) d_F_giveCause_1 (by decide) ?_
  refine g_aload_n d_F_giveCause_2 rfl ?_
  refine g_callV (k1 := 0) (n1 := 0) [.int (0), va_rf (c)] cw_F_64 cv_F_giveExit d_F_giveCause_3 rfl hf rfl rfl ⟨by simp, by simp⟩ (by first | decide | omega) (by first | decide | omega) (by first | decide | omega) (fun _ _ h => h) (c_F_giveExit _ f _ hf _ _) (fun r_ M_ h_ _ => ?_)
  obtain ⟨rfl, rfl⟩ := h_
  exact g_return d_F_giveCause_6 rfl ⟨rfl, rfl⟩
set_option maxHeartbeats 4000000 in
set_option maxRecDepth 100000 in
theorem c_F_waitFor (M : Mm) (f τ : Nat) (hf : kd M f = some (4, τ, 16)) (w o : Int32) : Run m_F_waitFor ownC 0 0 0 [va_rf (some f), .int w, .int o] M (fun r M' => r = none ∧ M' = si (si (sr M f 258 none) f 269 w) f 270 o) := by
  refine Run.ofG (by decide) (by simp [cat_int, cat_rf]) (Nat.le_of_ble_eq_true rfl) ?_
  refine g_aload_n d_F_waitFor_0 rfl ?_
  refine g_null d_F_waitFor_1 ?_
  refine g_putr 258 fl_F_9 (Or.inr (fun r h => by cases h; rfl)) rfl rfl d_F_waitFor_2 rfl hf rfl ?_
  refine g_aload_n d_F_waitFor_5 rfl ?_
  refine g_iload_n d_F_waitFor_6 rfl ?_
  refine g_puti 269 fl_F_49 (Or.inr (fun r h => by cases h; rfl)) rfl rfl d_F_waitFor_7 rfl ((kd_sr _ _ _ _ _).trans hf) rfl ?_
  refine g_aload_n d_F_waitFor_10 rfl ?_
  refine g_iload_n d_F_waitFor_11 rfl ?_
  refine g_puti 270 fl_F_52 (Or.inr (fun r h => by cases h; rfl)) rfl rfl d_F_waitFor_12 rfl ((kd_si _ _ _ _ _).trans ((kd_sr _ _ _ _ _).trans hf)) rfl ?_
  exact g_return d_F_waitFor_15 rfl ⟨rfl, rfl⟩
set_option maxHeartbeats 4000000 in
set_option maxRecDepth 100000 in
theorem c_F_drop (M : Mm) (f τ g σ : Nat) (hf : kd M f = some (4, τ, 16)) (hg : kd M g = some (5, σ, 8)) : Run m_F_drop ownC 0 0 0 [va_rf (some f), va_rf (some g)] M (fun r M' => r = none ∧ M' = si (sr M f 263 (gr M g 322)) f 264 ((gi M f 264) - 1)) := by
  refine Run.ofG (by decide) (by simp [cat_int, cat_rf]) (Nat.le_of_ble_eq_true rfl) ?_
  refine g_aload_n d_F_drop_0 rfl ?_
  refine g_aload_n d_F_drop_1 rfl ?_
  refine g_getr 322 fl_F_114 rfl rfl d_F_drop_2 rfl hg ?_
  refine g_putr 263 fl_F_30 (Or.inr (fun r h => by cases h; rfl)) rfl rfl d_F_drop_5 rfl hf rfl ?_
  refine g_aload_n d_F_drop_8 rfl ?_
  refine g_dup d_F_drop_9 ?_
  refine g_getiv (v := gi M f 264) 264 fl_F_34 rfl rfl d_F_drop_10 rfl ((kd_sr _ _ _ _ _).trans hf) (gi_sr _ _ _ _ _ _) ?_
  refine g_iconst (v := 1) d_F_drop_13 (by decide) ?_
  refine g_isub d_F_drop_14 ?_
  refine g_puti 264 fl_F_34 (Or.inr (fun r h => by cases h; rfl)) rfl rfl d_F_drop_15 rfl ((kd_sr _ _ _ _ _).trans hf) rfl ?_
  exact g_return d_F_drop_18 rfl ⟨rfl, rfl⟩
set_option maxHeartbeats 4000000 in
set_option maxRecDepth 100000 in
theorem c_F_init (M : Mm) (f τ : Nat) (hf : kd M f = some (4, τ, 16)) (n p : Int32) : Run m_F_init ownC 1 0 0 [va_rf (some f), .int n, .int p] M (fun r M' => r = none ∧ M' = si (si (si (si (si (si (si (si (si (si (sr (si (sr (si (si (sr M f 258 none) f 259 0) f 260 0) f 261 none) f 262 0) f 263 none) f 264 0) f 265 0) f 266 0) f 267 (-1)) f 268 0) f 269 0) f 270 (-1)) f 271 0) f 256 n) f 257 p) := by
  refine Run.ofG (by decide) (by simp [cat_int, cat_rf]) (Nat.le_of_ble_eq_true rfl) ?_
  refine g_aload_n d_F_init_0 rfl ?_
  refine g_objInit ob_F_3 d_F_init_1 rfl ⟨by simp, by simp⟩ (by decide) ?_
  refine g_aload_n d_F_init_4 rfl ?_
  refine g_null d_F_init_5 ?_
  refine g_putr 258 fl_F_9 (Or.inr (fun r h => by cases h; rfl)) rfl rfl d_F_init_6 rfl hf rfl ?_
  refine g_aload_n d_F_init_9 rfl ?_
  refine g_iconst (v := 0) d_F_init_10 (by decide) ?_
  refine g_puti 259 fl_F_15 (Or.inr (fun r h => by cases h; rfl)) rfl rfl d_F_init_11 rfl ((kd_sr _ _ _ _ _).trans hf) rfl ?_
  refine g_aload_n d_F_init_14 rfl ?_
  refine g_iconst (v := 0) d_F_init_15 (by decide) ?_
  refine g_puti 260 fl_F_19 (Or.inr (fun r h => by cases h; rfl)) rfl rfl d_F_init_16 rfl ((kd_si _ _ _ _ _).trans ((kd_sr _ _ _ _ _).trans hf)) rfl ?_
  refine g_aload_n d_F_init_19 rfl ?_
  refine g_null d_F_init_20 ?_
  refine g_putr 261 fl_F_22 (Or.inr (fun r h => by cases h; rfl)) rfl rfl d_F_init_21 rfl ((kd_si _ _ _ _ _).trans ((kd_si _ _ _ _ _).trans ((kd_sr _ _ _ _ _).trans hf))) rfl ?_
  refine g_aload_n d_F_init_24 rfl ?_
  refine g_iconst (v := 0) d_F_init_25 (by decide) ?_
  refine g_putz 262 fl_F_26 (Or.inr (fun r h => by cases h; rfl)) rfl rfl (Or.inl rfl) d_F_init_26 rfl ((kd_sr _ _ _ _ _).trans ((kd_si _ _ _ _ _).trans ((kd_si _ _ _ _ _).trans ((kd_sr _ _ _ _ _).trans hf)))) rfl ?_
  refine g_aload_n d_F_init_29 rfl ?_
  refine g_null d_F_init_30 ?_
  refine g_putr 263 fl_F_30 (Or.inr (fun r h => by cases h; rfl)) rfl rfl d_F_init_31 rfl ((kd_si _ _ _ _ _).trans ((kd_sr _ _ _ _ _).trans ((kd_si _ _ _ _ _).trans ((kd_si _ _ _ _ _).trans ((kd_sr _ _ _ _ _).trans hf))))) rfl ?_
  refine g_aload_n d_F_init_34 rfl ?_
  refine g_iconst (v := 0) d_F_init_35 (by decide) ?_
  refine g_puti 264 fl_F_34 (Or.inr (fun r h => by cases h; rfl)) rfl rfl d_F_init_36 rfl ((kd_sr _ _ _ _ _).trans ((kd_si _ _ _ _ _).trans ((kd_sr _ _ _ _ _).trans ((kd_si _ _ _ _ _).trans ((kd_si _ _ _ _ _).trans ((kd_sr _ _ _ _ _).trans hf)))))) rfl ?_
  refine g_aload_n d_F_init_39 rfl ?_
  refine g_iconst (v := 0) d_F_init_40 (by decide) ?_
  refine g_putz 265 fl_F_37 (Or.inr (fun r h => by cases h; rfl)) rfl rfl (Or.inl rfl) d_F_init_41 rfl ((kd_si _ _ _ _ _).trans ((kd_sr _ _ _ _ _).trans ((kd_si _ _ _ _ _).trans ((kd_sr _ _ _ _ _).trans ((kd_si _ _ _ _ _).trans ((kd_si _ _ _ _ _).trans ((kd_sr _ _ _ _ _).trans hf))))))) rfl ?_
  refine g_aload_n d_F_init_44 rfl ?_
  refine g_iconst (v := 0) d_F_init_45 (by decide) ?_
  refine g_puti 266 fl_F_40 (Or.inr (fun r h => by cases h; rfl)) rfl rfl d_F_init_46 rfl ((kd_si _ _ _ _ _).trans ((kd_si _ _ _ _ _).trans ((kd_sr _ _ _ _ _).trans ((kd_si _ _ _ _ _).trans ((kd_sr _ _ _ _ _).trans ((kd_si _ _ _ _ _).trans ((kd_si _ _ _ _ _).trans ((kd_sr _ _ _ _ _).trans hf)))))))) rfl ?_
  refine g_aload_n d_F_init_49 rfl ?_
  refine g_iconst (v := -1) d_F_init_50 (by decide) ?_
  refine g_puti 267 fl_F_43 (Or.inr (fun r h => by cases h; rfl)) rfl rfl d_F_init_51 rfl ((kd_si _ _ _ _ _).trans ((kd_si _ _ _ _ _).trans ((kd_si _ _ _ _ _).trans ((kd_sr _ _ _ _ _).trans ((kd_si _ _ _ _ _).trans ((kd_sr _ _ _ _ _).trans ((kd_si _ _ _ _ _).trans ((kd_si _ _ _ _ _).trans ((kd_sr _ _ _ _ _).trans hf))))))))) rfl ?_
  refine g_aload_n d_F_init_54 rfl ?_
  refine g_iconst (v := 0) d_F_init_55 (by decide) ?_
  refine g_puti 268 fl_F_46 (Or.inr (fun r h => by cases h; rfl)) rfl rfl d_F_init_56 rfl ((kd_si _ _ _ _ _).trans ((kd_si _ _ _ _ _).trans ((kd_si _ _ _ _ _).trans ((kd_si _ _ _ _ _).trans ((kd_sr _ _ _ _ _).trans ((kd_si _ _ _ _ _).trans ((kd_sr _ _ _ _ _).trans ((kd_si _ _ _ _ _).trans ((kd_si _ _ _ _ _).trans ((kd_sr _ _ _ _ _).trans hf)))))))))) rfl ?_
  refine g_aload_n d_F_init_59 rfl ?_
  refine g_iconst (v := 0) d_F_init_60 (by decide) ?_
  refine g_puti 269 fl_F_49 (Or.inr (fun r h => by cases h; rfl)) rfl rfl d_F_init_61 rfl ((kd_si _ _ _ _ _).trans ((kd_si _ _ _ _ _).trans ((kd_si _ _ _ _ _).trans ((kd_si _ _ _ _ _).trans ((kd_si _ _ _ _ _).trans ((kd_sr _ _ _ _ _).trans ((kd_si _ _ _ _ _).trans ((kd_sr _ _ _ _ _).trans ((kd_si _ _ _ _ _).trans ((kd_si _ _ _ _ _).trans ((kd_sr _ _ _ _ _).trans hf))))))))))) rfl ?_
  refine g_aload_n d_F_init_64 rfl ?_
  refine g_iconst (v := -1) d_F_init_65 (by decide) ?_
  refine g_puti 270 fl_F_52 (Or.inr (fun r h => by cases h; rfl)) rfl rfl d_F_init_66 rfl ((kd_si _ _ _ _ _).trans ((kd_si _ _ _ _ _).trans ((kd_si _ _ _ _ _).trans ((kd_si _ _ _ _ _).trans ((kd_si _ _ _ _ _).trans ((kd_si _ _ _ _ _).trans ((kd_sr _ _ _ _ _).trans ((kd_si _ _ _ _ _).trans ((kd_sr _ _ _ _ _).trans ((kd_si _ _ _ _ _).trans ((kd_si _ _ _ _ _).trans ((kd_sr _ _ _ _ _).trans hf)))))))))))) rfl ?_
  refine g_aload_n d_F_init_69 rfl ?_
  refine g_iconst (v := 0) d_F_init_70 (by decide) ?_
  refine g_puti 271 fl_F_55 (Or.inr (fun r h => by cases h; rfl)) rfl rfl d_F_init_71 rfl ((kd_si _ _ _ _ _).trans ((kd_si _ _ _ _ _).trans ((kd_si _ _ _ _ _).trans ((kd_si _ _ _ _ _).trans ((kd_si _ _ _ _ _).trans ((kd_si _ _ _ _ _).trans ((kd_si _ _ _ _ _).trans ((kd_sr _ _ _ _ _).trans ((kd_si _ _ _ _ _).trans ((kd_sr _ _ _ _ _).trans ((kd_si _ _ _ _ _).trans ((kd_si _ _ _ _ _).trans ((kd_sr _ _ _ _ _).trans hf))))))))))))) rfl ?_
  refine g_aload_n d_F_init_74 rfl ?_
  refine g_iload_n d_F_init_75 rfl ?_
  refine g_puti 256 fl_F_58 (Or.inl ⟨rfl, fun r h => by cases h; rfl⟩) rfl rfl d_F_init_76 rfl ((kd_si _ _ _ _ _).trans ((kd_si _ _ _ _ _).trans ((kd_si _ _ _ _ _).trans ((kd_si _ _ _ _ _).trans ((kd_si _ _ _ _ _).trans ((kd_si _ _ _ _ _).trans ((kd_si _ _ _ _ _).trans ((kd_si _ _ _ _ _).trans ((kd_sr _ _ _ _ _).trans ((kd_si _ _ _ _ _).trans ((kd_sr _ _ _ _ _).trans ((kd_si _ _ _ _ _).trans ((kd_si _ _ _ _ _).trans ((kd_sr _ _ _ _ _).trans hf)))))))))))))) rfl ?_
  refine g_aload_n d_F_init_79 rfl ?_
  refine g_iload_n d_F_init_80 rfl ?_
  refine g_puti 257 fl_F_61 (Or.inl ⟨rfl, fun r h => by cases h; rfl⟩) rfl rfl d_F_init_81 rfl ((kd_si _ _ _ _ _).trans ((kd_si _ _ _ _ _).trans ((kd_si _ _ _ _ _).trans ((kd_si _ _ _ _ _).trans ((kd_si _ _ _ _ _).trans ((kd_si _ _ _ _ _).trans ((kd_si _ _ _ _ _).trans ((kd_si _ _ _ _ _).trans ((kd_si _ _ _ _ _).trans ((kd_sr _ _ _ _ _).trans ((kd_si _ _ _ _ _).trans ((kd_sr _ _ _ _ _).trans ((kd_si _ _ _ _ _).trans ((kd_si _ _ _ _ _).trans ((kd_sr _ _ _ _ _).trans hf))))))))))))))) rfl ?_
  exact g_return d_F_init_84 rfl ⟨rfl, rfl⟩
set_option maxHeartbeats 4000000 in
set_option maxRecDepth 100000 in
theorem c_E_init (M : Mm) (f τ : Nat) (hf : kd M f = some (3, τ, 5)) (a b : Int32) (x y z : Option Nat) : Run m_E_init ownC 1 0 0 [va_rf (some f), .int a, .int b, va_rf x, va_rf y, va_rf z] M (fun r M' => r = none ∧ M' = sr (sr (sr (si (si M f 192 a) f 193 b) f 194 x) f 195 y) f 196 z) := by
  refine Run.ofG (by decide) (by simp [cat_int, cat_rf]) (Nat.le_of_ble_eq_true rfl) ?_
  refine g_aload_n d_E_init_0 rfl ?_
  refine g_objInit ob_E_1 d_E_init_1 rfl ⟨by simp, by simp⟩ (by decide) ?_
  refine g_aload_n d_E_init_4 rfl ?_
  refine g_iload_n d_E_init_5 rfl ?_
  refine g_puti 192 fl_E_7 (Or.inl ⟨rfl, fun r h => by cases h; rfl⟩) rfl rfl d_E_init_6 rfl hf rfl ?_
  refine g_aload_n d_E_init_9 rfl ?_
  refine g_iload_n d_E_init_10 rfl ?_
  refine g_puti 193 fl_E_13 (Or.inl ⟨rfl, fun r h => by cases h; rfl⟩) rfl rfl d_E_init_11 rfl ((kd_si _ _ _ _ _).trans hf) rfl ?_
  refine g_aload_n d_E_init_14 rfl ?_
  refine g_aload_n d_E_init_15 rfl ?_
  refine g_putr 194 fl_E_16 (Or.inl ⟨rfl, fun r h => by cases h; rfl⟩) rfl rfl d_E_init_16 rfl ((kd_si _ _ _ _ _).trans ((kd_si _ _ _ _ _).trans hf)) rfl ?_
  refine g_aload_n d_E_init_19 rfl ?_
  refine g_aload d_E_init_20 rfl ?_
  refine g_putr 195 fl_E_20 (Or.inl ⟨rfl, fun r h => by cases h; rfl⟩) rfl rfl d_E_init_22 rfl ((kd_sr _ _ _ _ _).trans ((kd_si _ _ _ _ _).trans ((kd_si _ _ _ _ _).trans hf))) rfl ?_
  refine g_aload_n d_E_init_25 rfl ?_
  refine g_aload d_E_init_26 rfl ?_
  refine g_putr 196 fl_E_23 (Or.inl ⟨rfl, fun r h => by cases h; rfl⟩) rfl rfl d_E_init_28 rfl ((kd_sr _ _ _ _ _).trans ((kd_sr _ _ _ _ _).trans ((kd_si _ _ _ _ _).trans ((kd_si _ _ _ _ _).trans hf)))) rfl ?_
  exact g_return d_E_init_31 rfl ⟨rfl, rfl⟩
set_option maxHeartbeats 4000000 in
set_option maxRecDepth 100000 in
theorem c_K_init (M : Mm) (f τ : Nat) (hf : kd M f = some (6, τ, 3)) (e : Option Nat) (v : Int32) (z : Option Nat) : Run m_K_init ownC 1 0 0 [va_rf (some f), va_rf e, .int v, va_rf z] M (fun r M' => r = none ∧ M' = sr (si (sr M f 384 e) f 385 v) f 386 z) := by
  refine Run.ofG (by decide) (by simp [cat_int, cat_rf]) (Nat.le_of_ble_eq_true rfl) ?_
  refine g_aload_n d_K_init_0 rfl ?_
  refine g_objInit ob_K_1 d_K_init_1 rfl ⟨by simp, by simp⟩ (by decide) ?_
  refine g_aload_n d_K_init_4 rfl ?_
  refine g_aload_n d_K_init_5 rfl ?_
  refine g_putr 384 fl_K_7 (Or.inl ⟨rfl, fun r h => by cases h; rfl⟩) rfl rfl d_K_init_6 rfl hf rfl ?_
  refine g_aload_n d_K_init_9 rfl ?_
  refine g_iload_n d_K_init_10 rfl ?_
  refine g_puti 385 fl_K_13 (Or.inl ⟨rfl, fun r h => by cases h; rfl⟩) rfl rfl d_K_init_11 rfl ((kd_sr _ _ _ _ _).trans hf) rfl ?_
  refine g_aload_n d_K_init_14 rfl ?_
  refine g_aload_n d_K_init_15 rfl ?_
  refine g_putr 386 fl_K_17 (Or.inl ⟨rfl, fun r h => by cases h; rfl⟩) rfl rfl d_K_init_16 rfl ((kd_si _ _ _ _ _).trans ((kd_sr _ _ _ _ _).trans hf)) rfl ?_
  exact g_return d_K_init_19 rfl ⟨rfl, rfl⟩
set_option maxHeartbeats 4000000 in
set_option maxRecDepth 100000 in
theorem c_Q_init (M : Mm) (f τ : Nat) (hf : kd M f = some (5, τ, 8)) (e : Option Nat) (b : Int32) (hb : b = 0 ∨ b = 1) (z : Option Nat) : Run m_Q_init ownC 1 0 0 [va_rf (some f), va_rf e, .int b, va_rf z] M (fun r M' => r = none ∧ M' = sr (si (sr (sr (si (si (si (sr M f 323 none) f 324 0) f 325 0) f 326 0) f 327 none) f 320 e) f 321 b) f 322 z) := by
  refine Run.ofG (by decide) (by simp [cat_int, cat_rf]) (Nat.le_of_ble_eq_true rfl) ?_
  refine g_aload_n d_Q_init_0 rfl ?_
  refine g_objInit ob_Q_1 d_Q_init_1 rfl ⟨by simp, by simp⟩ (by decide) ?_
  refine g_aload_n d_Q_init_4 rfl ?_
  refine g_null d_Q_init_5 ?_
  refine g_putr 323 fl_Q_7 (Or.inr (fun r h => by cases h; rfl)) rfl rfl d_Q_init_6 rfl hf rfl ?_
  refine g_aload_n d_Q_init_9 rfl ?_
  refine g_iconst (v := 0) d_Q_init_10 (by decide) ?_
  refine g_puti 324 fl_Q_13 (Or.inr (fun r h => by cases h; rfl)) rfl rfl d_Q_init_11 rfl ((kd_sr _ _ _ _ _).trans hf) rfl ?_
  refine g_aload_n d_Q_init_14 rfl ?_
  refine g_iconst (v := 0) d_Q_init_15 (by decide) ?_
  refine g_putz 325 fl_Q_17 (Or.inr (fun r h => by cases h; rfl)) rfl rfl (Or.inl rfl) d_Q_init_16 rfl ((kd_si _ _ _ _ _).trans ((kd_sr _ _ _ _ _).trans hf)) rfl ?_
  refine g_aload_n d_Q_init_19 rfl ?_
  refine g_iconst (v := 0) d_Q_init_20 (by decide) ?_
  refine g_puti 326 fl_Q_21 (Or.inr (fun r h => by cases h; rfl)) rfl rfl d_Q_init_21 rfl ((kd_si _ _ _ _ _).trans ((kd_si _ _ _ _ _).trans ((kd_sr _ _ _ _ _).trans hf))) rfl ?_
  refine g_aload_n d_Q_init_24 rfl ?_
  refine g_null d_Q_init_25 ?_
  refine g_putr 327 fl_Q_24 (Or.inr (fun r h => by cases h; rfl)) rfl rfl d_Q_init_26 rfl ((kd_si _ _ _ _ _).trans ((kd_si _ _ _ _ _).trans ((kd_si _ _ _ _ _).trans ((kd_sr _ _ _ _ _).trans hf)))) rfl ?_
  refine g_aload_n d_Q_init_29 rfl ?_
  refine g_aload_n d_Q_init_30 rfl ?_
  refine g_putr 320 fl_Q_28 (Or.inl ⟨rfl, fun r h => by cases h; rfl⟩) rfl rfl d_Q_init_31 rfl ((kd_sr _ _ _ _ _).trans ((kd_si _ _ _ _ _).trans ((kd_si _ _ _ _ _).trans ((kd_si _ _ _ _ _).trans ((kd_sr _ _ _ _ _).trans hf))))) rfl ?_
  refine g_aload_n d_Q_init_34 rfl ?_
  refine g_iload_n d_Q_init_35 rfl ?_
  refine g_putz 321 fl_Q_32 (Or.inl ⟨rfl, fun r h => by cases h; rfl⟩) rfl rfl hb d_Q_init_36 rfl ((kd_sr _ _ _ _ _).trans ((kd_sr _ _ _ _ _).trans ((kd_si _ _ _ _ _).trans ((kd_si _ _ _ _ _).trans ((kd_si _ _ _ _ _).trans ((kd_sr _ _ _ _ _).trans hf)))))) rfl ?_
  refine g_aload_n d_Q_init_39 rfl ?_
  refine g_aload_n d_Q_init_40 rfl ?_
  refine g_putr 322 fl_Q_35 (Or.inl ⟨rfl, fun r h => by cases h; rfl⟩) rfl rfl d_Q_init_41 rfl ((kd_si _ _ _ _ _).trans ((kd_sr _ _ _ _ _).trans ((kd_sr _ _ _ _ _).trans ((kd_si _ _ _ _ _).trans ((kd_si _ _ _ _ _).trans ((kd_si _ _ _ _ _).trans ((kd_sr _ _ _ _ _).trans hf))))))) rfl ?_
  exact g_return d_Q_init_44 rfl ⟨rfl, rfl⟩
set_option maxHeartbeats 4000000 in
set_option maxRecDepth 100000 in
theorem c_L_clear (M : Mm) (f τ : Nat) (hf : kd M f = some (1, τ, 2)) : Run m_L_clear ownC 0 0 0 [va_rf (some f)] M (fun r M' => r = none ∧ M' = si M f 65 0) := by
  refine Run.ofG (by decide) (by simp [cat_int, cat_rf]) (Nat.le_of_ble_eq_true rfl) ?_
  refine g_aload_n d_L_clear_0 rfl ?_
  refine g_iconst (v := 0) d_L_clear_1 (by decide) ?_
  refine g_puti 65 fl_L_15 (Or.inr (fun r h => by cases h; rfl)) rfl rfl d_L_clear_2 rfl hf rfl ?_
  exact g_return d_L_clear_5 rfl ⟨rfl, rfl⟩
