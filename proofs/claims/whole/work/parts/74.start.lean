/-! starting (by program: wip/tools/gen_s31.py) -/
def slL (P : Pst) (LL : Lls) (e : Int32) : Lls := if a_R_isEffect P e = 0 then LL else upL (clL LL) 0 (clL LL 0 ++ [nfb (stP P)])
theorem start_e {P : Pst} {e v : Int32} (h : ¬ a_R_isEffect P e = 0) : p_R_start P e v = p_R_make (stP P) e v (-1) := if_neg h
set_option maxHeartbeats 1000000 in
set_option maxRecDepth 100000 in
theorem s_D_start {P : Pst} {LL : Lls} {S : Gs} {M : Mm} (hZ : Zt P LL S M) (e v : Int32) : Run m_D_start ownC 3 1 16 [va_rf (some (ad S 0 0)), .int e, .int v] M (fun r M' => r = some (.int (a_R_start P e v)) ∧ ∃ S', Zt (p_R_start P e v) (slL P LL e) S' M' ∧ ad S' 0 0 = ad S 0 0) := by
  have hV := hZ.1
  refine Run.ofG (by decide) (by simp [cat_int, cat_rf]) (Nat.le_of_ble_eq_true rfl) ?_
  by_cases h0 : a_R_isEffect P e = 0
  · have hno := (ef_none (S := S) hZ.2.2.1 e).mpr h0
    refine g_aload_n d_D_start_0 rfl ?_
    refine g_iload_n d_D_start_1 rfl ?_
    refine g_callV (k1 := 0) (n1 := 0) [.int (e)] cw_D_69 cv_D_effectAt d_D_start_2 rfl (hV.kdo (sl_0 hZ.2.1) (by decide)) rfl rfl ⟨by simp, by simp⟩ (by first | decide | omega) (by first | decide | omega) (by first | decide | omega) (fun _ _ h => h) (s_D_effectAt hZ _) (fun r_ M h_ hfr_ => ?_)
    obtain ⟨rfl, hV⟩ := h_
    rw [hno]
    refine g_astore_n d_D_start_5 (by decide) ?_
    refine g_aload_n d_D_start_6 rfl ?_
    refine g_ifnonnull 12 d_D_start_7 (by decide) (fun a_7 c_7 => ?_) (fun c_7 => ?_)
    · exact absurd c_7 (by simp)
    · skip
      refine g_iconst (v := 0) d_D_start_10 (by decide) ?_
      exact g_zreturn d_D_start_11 rfl (Or.inl rfl) ⟨by unfold a_R_start; rw [if_pos h0], S, by unfold p_R_start slL; rw [if_pos h0, if_pos h0]; exact ⟨hV, hZ.2⟩, rfl⟩
  · obtain ⟨hl, hsome, hx0, hxb⟩ := in_ef hZ.2.1 hZ.2.2.1 h0
    have h40 : tn (P 4 0) ≤ 40 := (hZ.2.2.1 4 0).2
    have hlt : tn e < tn (P 4 0) := ix_lt_of (tn_of hx0) (hZ.2.2.1 4 0).1 (by omega) hxb
    have en : nfb (stP P) = 0 := by unfold nfb; rw [(stP_f P).1]; rfl
    refine g_aload_n d_D_start_0 rfl ?_
    refine g_iload_n d_D_start_1 rfl ?_
    refine g_callV (k1 := 1) (n1 := 16) [.int (e)] cw_D_69 cv_D_effectAt d_D_start_2 rfl (hV.kdo (sl_0 hZ.2.1) (by decide)) rfl rfl ⟨by simp, by simp⟩ (by first | decide | omega) (by first | decide | omega) (by first | decide | omega) (fun _ _ h => h) (s_D_effectAt hZ _) (fun r_ M h_ hfr_ => ?_)
    obtain ⟨rfl, hV⟩ := h_
    rw [hsome]
    refine g_astore_n d_D_start_5 (by decide) ?_
    refine g_aload_n d_D_start_6 rfl ?_
    refine g_ifnonnull 12 d_D_start_7 (by decide) (fun a_7 c_7 => ?_) (fun c_7 => ?_)
    · skip
      refine g_aload_n d_D_start_12 rfl ?_
      refine g_callV (k1 := 1) (n1 := 16) [] cw_D_76 cv_D_clearAll d_D_start_13 rfl (hV.kdo (sl_0 hZ.2.1) (by decide)) rfl rfl ⟨by simp, by simp⟩ (by first | decide | omega) (by first | decide | omega) (by first | decide | omega) (fun _ _ h => h) (s_D_clearAll ⟨hV, hZ.2⟩) (fun r_ M h_ hfr_ => ?_)
      obtain ⟨rfl, hZ1⟩ := h_
      have hV := hZ1.1
      have hk1 : Kp P S (alS S) := Kp.of (alS_ad S).1 (alS_ad S).2
      refine g_aload_n d_D_start_16 rfl ?_
      refine g_aload_n d_D_start_17 rfl ?_
      refine g_iload_n d_D_start_18 rfl ?_
      refine g_iconst (v := -1) d_D_start_19 (by decide) ?_
      refine g_callV (k1 := 0) (n1 := 0) [va_rf (some (ad S 3 (tn e))), .int (v), .int (-1)] cw_D_79 cv_D_makeFiber d_D_start_20 (ad_k rfl (hk1.1 0 0 (by decide) (by decide) (sl_0 hZ.2.1))) (hV.kdo (sl_0 hZ1.2.1) (by decide)) rfl rfl ⟨by simp, by simp⟩ (by first | decide | omega) (by first | decide | omega) (by first | decide | omega) (fun _ _ h => h) (s_D_makeFiber hZ1 e v (-1) hx0 (by omega) (by rw [(alS_ad S).2]; exact hl) (by rw [en]; decide) (by rw [(stP_f P).2.1]; decide) (ad_k rfl (hk1.1 3 (tn e) (by decide) (by decide) hl))) (fun r_ M h_ hfr_ => ?_)
      obtain ⟨rfl, S2, hZ2, hk2⟩ := h_
      refine g_iconst (v := 1) d_D_start_23 (by decide) ?_
      exact g_zreturn d_D_start_24 rfl (Or.inr rfl) ⟨by unfold a_R_start; rw [if_neg h0], S2, by rw [start_e h0]; unfold slL; rw [if_neg h0]; exact hZ2, (hk2.1 0 0 (by decide) (by decide) (sl_0 hZ1.2.1)).trans (hk1.1 0 0 (by decide) (by decide) (sl_0 hZ.2.1))⟩
    · exact absurd (Eq.trans (Eq.symm (rfl : some (ad S 3 (tn e)) = some _)) c_7) (by simp)
