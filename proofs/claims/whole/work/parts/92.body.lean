/-! the law from its entry -/
/-- the ghost memory that names the script -/
def scM (b L : Nat) (xs : Nat → Int32) : Mm := (fun _ => none, fun a f => if a = 0 then xs (f - 4096) else 0, fun a f => if a = 0 then (if f = 0 then some b else if f = 1 then some L else none) else none)
theorem scM_0 (b L : Nat) (xs : Nat → Int32) : gr (scM b L xs) 0 0 = some b := rfl
theorem scM_1 (b L : Nat) (xs : Nat → Int32) : gr (scM b L xs) 0 1 = some L := rfl
theorem scM_x (b L : Nat) (xs : Nat → Int32) (j : Nat) : gi (scM b L xs) 0 (4096 + j) = xs j := by
  show (if (0 : Nat) = 0 then xs (4096 + j - 4096) else 0) = xs j
  rw [if_pos rfl, Nat.add_sub_cancel_left]
set_option maxHeartbeats 4000000 in
set_option maxRecDepth 100000 in
theorem law_body {b L : Nat} {xs : Nat → Int32} (hL : L ≤ 2560) : G m_W_law ownL (scM b L xs) Qlw 10 600000 7302250 (scM b L xs) 0 [some (va_rf (some b)), none, none, none] [] := by
  refine g_new (k' := 599999) (n' := 7302237) 0 cl_W_7 d_W_law_0 (by decide) (by decide) (fun a hq => ?_)
  have hV : VM (un S00 0 0 a) (nw (scM b L xs) a 0 0 13) := (vm_00 (scM b L xs)).un (c := 0) (τ := 0) rfl hq
  refine g_dup d_W_law_3 ?_
  refine g_callI (k1 := 599969) (n1 := 7301937) [] cw_W_9 ci_D_init d_W_law_4 rfl rfl rfl ⟨by simp [cat_rf, cat_int], by simp⟩ (by decide) (by decide) (by decide) ownL_C (s_D_init hV) (fun r_ M1 h_ hf_ => ?_)
  obtain ⟨rfl, S, hZ, ha⟩ := h_
  refine g_astore_n d_W_law_7 (by decide) ?_
  refine g_new (k' := 599968) (n' := 7301885) 0 cl_W_10 d_W_law_8 (by decide) (by decide) (fun m hm => ?_)
  have hE : Ext (fun _ => False) M1 (nw M1 m 8 0 52) := Ext.nw (Ext.refl _ M1) hm _ _ _
  have hZ1 : Zt P00 (fun _ => []) S (nw M1 m 8 0 52) := ⟨hZ.1.ext hE, hZ.2⟩
  refine g_dup d_W_law_11 ?_
  refine g_callI (k1 := 599927) (n1 := 7295686) [] cw_W_12 ci_R_init d_W_law_12 rfl rfl rfl ⟨by simp [cat_rf, cat_int], by simp⟩ (by decide) (by decide) (by decide) ownL_R (c_R_init m (nw M1 m 8 0 52) (kd_nw_s _ _ _ _ _) (fun f => gi_nw_s _ _ _ _ _ _)) (fun r_ M2 h_ hf2 => ?_)
  obtain ⟨rfl, ra, hR⟩ := h_
  refine g_astore_n d_W_law_15 (by decide) ?_
  refine g_iconst (v := 0) d_W_law_16 (by decide) ?_
  refine g_istore_n d_W_law_17 (by decide) ?_
  refine g_less (k' := 600 * 512) (n' := 4000 * 512) (by decide) (by decide) ?_
  exact law_loop (scM_0 b L xs) (scM_1 b L xs) (scM_x b L xs) hL 512 0 0 M2 (Nat.zero_le _) (by omega) (by decide) ⟨P00, fun _ => [], cutS S, ra, inv_00, hZ1.ref hf2, ha, hR⟩
