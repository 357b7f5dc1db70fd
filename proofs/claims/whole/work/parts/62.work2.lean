/-! the worker's step (by program: wip/tools/gen_s19.py) -/
theorem g_more {mi : MI} {own : Nat → Nat → Bool} {M0 : Mm} {Q Q' : Option Value → Mm → Prop} {dep k n : Nat} {M : Mm} {pc : Nat} {L : List (Option Value)} {st : List Value} (h : G mi own M0 Q dep k n M pc L st) (hq : ∀ r M', Q r M' → Q' r M') : G mi own M0 Q' dep k n M pc L st := by
  intro p l e R s m args below meth c D dA pa A mc ms Z H locs cells slots ls C X hl h1 h2
  obtain ⟨c1, c2, c3, c4, c5, c6, c7, c8, c9, c10, c11, c12, c13, c14, c15⟩ := C
  exact h p l e R s m args below meth c D dA pa A mc ms Z H locs cells slots ls ⟨c1, c2, c3, c4, c5, c6, c7, c8, c9, c10, c11, c12, c13, c14, fun r M' H' locs' pc' ls' st' hx hQ hR => c15 r M' H' locs' pc' ls' st' hx (hq r M' hQ) hR⟩ X hl h1 h2
def inP (P : Pst) (i : Nat) : Pst := up (up (up P 45 0 (P 45 0 + 1)) 9 i (P 9 i + 1)) 49 0 (P 49 0 + 1)
def wkL (Q : Pst) (LL : Lls) (i : Nat) : Lls := if Q 5 i = 0 then (if 5 ≤ Q 49 0 then upL LL 0 (LL 0 ++ [i]) else LL) else LL
def TlOK (Q : Pst) (i : Nat) : Prop := i < nfb Q ∧ Q 48 0 = nI i ∧ (Q 5 i = 0 ∨ Q 5 i = 1 ∨ Q 5 i = 2) ∧ (Q 5 i = 1 ↔ ¬ Q 15 i = 0) ∧ (∃ t, t ≤ 5 ∧ Q 49 0 = nI t) ∧ (Q 5 i = 0 → tn (Q 43 0) < 10)
theorem t5 {x : Int32} (h : ∃ t, t ≤ 5 ∧ x = nI t) : 0 < 5 - x ↔ ¬ 5 ≤ x := by
  obtain ⟨t, ht, rfl⟩ := h
  have hc : t = 0 ∨ t = 1 ∨ t = 2 ∨ t = 3 ∨ t = 4 ∨ t = 5 := by omega
  rcases hc with rfl | rfl | rfl | rfl | rfl | rfl <;> decide
theorem sub1 (x : Int32) : 5 - x - 1 = 5 - (x + 1) := by
  rw [Int32.sub_eq_add_neg, Int32.sub_eq_add_neg, Int32.sub_eq_add_neg, Int32.neg_add, Int32.sub_eq_add_neg, Int32.add_assoc]
theorem st_run {Q : Pst} {LL : Lls} {S1 : Gs} (h : Sim Q LL S1) {i : Nat} (hi : i < nfb Q) (h5 : Q 5 i = 0) (h15 : Q 15 i = 0) : (if vi S1 262 i = 0 then if vi S1 269 i = 0 then 0 else 1 else if (vr S1 261 i : Option Nat) = none then 2 else 3) = (0 : Int32) := by
  rw [if_pos (show vi S1 262 i = 0 by rw [sf_262 h hi]; unfold endI; rw [if_neg (by rw [h5]; decide)]), if_pos (show vi S1 269 i = 0 by rw [sf_269 h hi]; exact h15)]
theorem st_not {Q : Pst} {LL : Lls} {S1 : Gs} (h : Sim Q LL S1) {i : Nat} (hi : i < nfb Q) (h5 : ¬ Q 5 i = 0) (hc : Q 5 i = 0 ∨ Q 5 i = 1 ∨ Q 5 i = 2) (h15 : Q 5 i = 1 ↔ ¬ Q 15 i = 0) : ¬ (if vi S1 262 i = 0 then if vi S1 269 i = 0 then 0 else 1 else if (vr S1 261 i : Option Nat) = none then 2 else 3) = (0 : Int32) := by
  have e := sf_262 h hi
  rcases hc with w | w | w
  · exact absurd w h5
  · rw [if_pos (show vi S1 262 i = 0 by rw [e]; unfold endI; rw [if_neg (by rw [w]; decide)]), if_neg (show ¬ vi S1 269 i = 0 by rw [sf_269 h hi]; exact h15.mp w)]
    decide
  · rw [if_neg (show ¬ vi S1 262 i = 0 by rw [e, w]; decide)]
    split <;> decide
theorem Sim.qq {P : Pst} {LL : Lls} {S : Gs} (h : Sim P LL S) (hw : WB P) (x : Int32) (m : Nat) (y : Int32) : Sim (up (up P 43 0 x) 36 m y) LL S := by
  refine h.desk hw (Sx.refl _ S) (((Ag.refl _ P).up (by omega) _).up (by omega) _) ?_ ?_
  · have d := h.1
    exact d
  · intro j hj
    exact h.2.2.2.2.2.2 j hj
set_option maxHeartbeats 1000000 in
set_option maxRecDepth 100000 in
theorem l_work {Q : Pst} {LL : Lls} {S1 : Gs} {M M0 : Mm} (hZ : Zt Q LL S1 M) {i : Nat} (hT : TlOK Q i) {A : Nat → Nat → Nat} {B : Nat → Nat → Bool} (eA : ad S1 = A) (eB : lv S1 = B) {o0 o1 : Option Nat} (h0 : o0 = some (ad S1 0 0)) (h1 : o1 = some (ad S1 4 i)) {kb nb : Nat} : G m_D_work ownC M0 (fun r M' => r = none ∧ ∃ S', Zt (p_s140 Q i (nI i)) (wkL Q LL i) S' M' ∧ ad S' = A ∧ lv S' = B) 6 kb nb M 125 [some (va_rf o0), some (va_rf o1)] [] := by
  subst h0
  subst h1
  have hV := hZ.1
  obtain ⟨hi, h48, hc5, h15, h49t, h43⟩ := hT
  have h48n : ¬ Q 48 0 < 0 := by rw [h48]; exact nI_pos (by have := n10 hZ.2.2.1; omega)
  by_cases h5 : Q 5 i = 0
  rotate_left
  · have hne := st_not hZ.2.1 hi h5 hc5 h15
    refine g_aload_n d_D_work_125 rfl ?_
    refine g_callV (k1 := kb) (n1 := nb) [] cw_D_114 cv_F_state d_D_work_126 rfl (hV.kdo (sl_4 hZ.2.1 hi) (by decide)) rfl rfl ⟨by simp, by simp⟩ (by first | decide | omega) (by first | decide | omega) (by first | decide | omega) (fun _ _ h => h) (v_F_state hV (sl_4 hZ.2.1 hi)) (fun r_ M h_ hfr_ => ?_)
    obtain ⟨rfl, hV⟩ := h_
    refine g_if_eq 140 d_D_work_129 (by decide) (fun c_129 => ?_) (fun c_129 => ?_)
    · exact absurd (show (if vi S1 262 i = 0 then if vi S1 269 i = 0 then 0 else 1 else if (vr S1 261 i : Option Nat) = none then 2 else 3 : Int32) = 0 from c_129) hne
    · skip
      refine g_aload_n d_D_work_132 rfl ?_
      refine g_null d_D_work_133 ?_
      refine v_putr (τ := 0) 11 rfl hV (sl_0 hZ.2.1) (by decide) (by decide) fl_D_57 (Or.inr (fun r h => by cases h; rfl)) rfl d_D_work_134 rfl (fun M hV => ?_)
      refine g_goto 163 d_D_work_137 (by decide) ?_
      exact g_return d_D_work_163 rfl ⟨rfl, ur S1 11 0 none, by unfold p_s140 wkL; rw [if_neg h5, if_neg h5]; exact hZ.off hV, eA, eB⟩
  have he0 := st_run hZ.2.1 hi h5 (Classical.byContradiction (fun w => by have := h15.mpr w; rw [h5] at this; exact absurd this (by decide)))
  by_cases h49 : 5 ≤ Q 49 0
  rotate_left
  · have hgt := (t5 h49t).mpr h49
    refine g_aload_n d_D_work_125 rfl ?_
    refine g_callV (k1 := kb) (n1 := nb) [] cw_D_114 cv_F_state d_D_work_126 rfl (hV.kdo (sl_4 hZ.2.1 hi) (by decide)) rfl rfl ⟨by simp, by simp⟩ (by first | decide | omega) (by first | decide | omega) (by first | decide | omega) (fun _ _ h => h) (v_F_state hV (sl_4 hZ.2.1 hi)) (fun r_ M h_ hfr_ => ?_)
    obtain ⟨rfl, hV⟩ := h_
    refine g_if_eq 140 d_D_work_129 (by decide) (fun c_129 => ?_) (fun c_129 => ?_)
    · skip
      refine g_aload_n d_D_work_140 rfl ?_
      refine v_geti (v := 5 - Q 49 0) (τ := 0) 12 rfl hV (sl_0 hZ.2.1) (by decide) (by decide) fl_D_61 rfl d_D_work_141 rfl ((sd_12 hZ.2.1 h48n).2) ?_
      refine g_if_gt 163 d_D_work_144 (by decide) (fun c_144 => ?_) (fun c_144 => ?_)
      · skip
        exact g_return d_D_work_163 rfl ⟨rfl, S1, by unfold p_s140 wkL; rw [if_pos h5, if_pos h5, if_neg h49, if_neg h49]; exact ⟨hV, hZ.2⟩, eA, eB⟩
      · exact absurd (show 0 < 5 - Q 49 0 from hgt) c_144
    · exact absurd (show (if vi S1 262 i = 0 then if vi S1 269 i = 0 then 0 else 1 else if (vr S1 261 i : Option Nat) = none then 2 else 3 : Int32) = 0 from he0) c_129
  have hgt : ¬ 0 < 5 - Q 49 0 := fun w => (t5 h49t).mp w h49
  refine g_aload_n d_D_work_125 rfl ?_
  refine g_callV (k1 := kb) (n1 := nb) [] cw_D_114 cv_F_state d_D_work_126 rfl (hV.kdo (sl_4 hZ.2.1 hi) (by decide)) rfl rfl ⟨by simp, by simp⟩ (by first | decide | omega) (by first | decide | omega) (by first | decide | omega) (fun _ _ h => h) (v_F_state hV (sl_4 hZ.2.1 hi)) (fun r_ M h_ hfr_ => ?_)
  obtain ⟨rfl, hV⟩ := h_
  refine g_if_eq 140 d_D_work_129 (by decide) (fun c_129 => ?_) (fun c_129 => ?_)
  · skip
    refine g_aload_n d_D_work_140 rfl ?_
    refine v_geti (v := 5 - Q 49 0) (τ := 0) 12 rfl hV (sl_0 hZ.2.1) (by decide) (by decide) fl_D_61 rfl d_D_work_141 rfl ((sd_12 hZ.2.1 h48n).2) ?_
    refine g_if_gt 163 d_D_work_144 (by decide) (fun c_144 => ?_) (fun c_144 => ?_)
    · exact absurd (show 0 < 5 - Q 49 0 from c_144) hgt
    · skip
      refine g_aload_n d_D_work_147 rfl ?_
      refine g_null d_D_work_148 ?_
      refine v_putr (τ := 0) 11 rfl hV (sl_0 hZ.2.1) (by decide) (by decide) fl_D_57 (Or.inr (fun r h => by cases h; rfl)) rfl d_D_work_149 rfl (fun M hV => ?_)
      have hZ1 : Zt (up Q 48 0 (-1)) LL (ur S1 11 0 none) _ := hZ.off hV
      have hl10 : (LL 0).length < 10 := by rw [← hZ.2.2.2]; exact h43 h5
      refine g_aload_n d_D_work_152 rfl ?_
      refine v_getr (v := some (ad (ur S1 11 0 none) 1 0)) (τ := 0) 4 rfl hV (sl_0 hZ1.2.1) (by decide) (by decide) fl_D_31 rfl d_D_work_153 (ad_r rfl) (sd_4 hZ1.2.1) ?_
      refine g_aload_n d_D_work_156 rfl ?_
      refine v_geti (v := nI i) (τ := i) 256 rfl hV (sl_4 hZ1.2.1 hi) (by decide) (by decide) fl_D_173 rfl d_D_work_157 (ad_r rfl) (sf_256 hZ1.2.1 hi) ?_
      refine g_callV (k1 := kb) (n1 := nb) [.int (nI i)] cw_D_226 cv_L_add d_D_work_160 rfl (hV.kdo (sl_1 hZ1.2.1 (by decide)) (by decide)) rfl rfl ⟨by simp, by simp⟩ (by first | decide | omega) (by first | decide | omega) (by first | decide | omega) (fun _ _ h => h) (v_L_add hV (ln hZ1.2.1 (t := 0) (by decide)) (by decide) hl10 i) (fun r_ M h_ hfr_ => ?_)
      obtain ⟨rfl, hV⟩ := h_
      refine g_return d_D_work_163 rfl ⟨rfl, ui (ui (ur S1 11 0 none) (1280 + (LL 0).length) 0 (nI i)) 65 0 (nI (LL 0).length + 1), ?_, eA, eB⟩
      unfold p_s140 wkL; rw [if_pos h5, if_pos h5, if_pos h49, if_pos h49]
      have hwb : WB (up (up (up Q 48 0 (-1)) 43 0 (Q 43 0 + 1)) 36 (tn (Q 43 0)) (nI i)) := WB.up (f := 36) (WB.up (f := 43) hZ1.2.2.1 (sm_inc' (hZ.2.2.1 43 0).1 (h43 h5) (by decide))) (sm_nI (by have := n10 hZ.2.2.1; omega) (by decide))
      refine ⟨hV, (Sim.qq (hZ1.2.1.add hZ1.2.2.1 (by decide) hl10 i) hZ1.2.2.1 _ _ _), hwb, ?_⟩
      rw [up_f (by decide), up_s, upL_s, List.length_append, tn_inc (hZ.2.2.1 43 0).1 (by have := h43 h5; omega), hZ.2.2.2]; rfl
  · exact absurd (show (if vi S1 262 i = 0 then if vi S1 269 i = 0 then 0 else 1 else if (vr S1 261 i : Option Nat) = none then 2 else 3 : Int32) = 0 from he0) c_129
theorem inP_e (P : Pst) (i : Nat) : up (up (up P 49 0 (P 49 0 + 1)) 45 0 (P 45 0 + 1)) 9 i (P 9 i + 1) = inP P i := by
  unfold inP
  rw [up_up P (f := 49) (i := 0) (g := 45) (j := 0) (by omega), up_up _ (f := 49) (i := 0) (g := 9) (j := i) (by omega)]
/-- what the class's step makes of a state -/
def saP (P : Pst) (LL : Lls) (i : Nat) : Pst := if P 6 i = 1 ∧ P 10 i = 0 then p_R_fail (up P 6 i 2) i 3 (P 7 i) else if P 11 i < 0 then (if tn (P 22 i) = 0 then p_R_ends P i else p_R_comes P i (16 * i + (tn (P 22 i) - 1))) else actC P LL i (tn (P 11 i)) (P 12 i)
def saL (P : Pst) (LL : Lls) (i : Nat) : Lls := if P 6 i = 1 ∧ P 10 i = 0 then LL else if P 11 i < 0 then (if tn (P 22 i) = 0 then enL P LL i else LL) else actL P LL i (tn (P 11 i)) (P 12 i)
def EfOK (P : Pst) (e : Nat) : Prop := (¬ a_R_needs (P 0 e) ≤ 0 → sm (P 1 e) 39) ∧ (¬ a_R_needs (P 0 e) ≤ 1 → sm (P 2 e) 39) ∧ (¬ P 0 e < 19 → ¬ P 0 e = 25 → ∃ n, n < 4 ∧ P 1 e = nI n) ∧ (∃ k, k ≤ 25 ∧ P 0 e = nI k)
def CmOK (P : Pst) (k : Nat) : Prop := KdOK P k ∧ (P 25 k = 9 → P 23 k = 6 ∨ P 23 k = 7 ∨ P 23 k = 10) ∧ (P 23 k = 4 ∨ P 23 k = 5 ∨ P 23 k = 6 ∨ P 23 k = 7 → sm (P 2 (tn (P 24 k))) 39) ∧ (P 23 k = 5 ∨ P 23 k = 7 → sm (P 3 (tn (P 24 k))) 39)
def EnOK (P : Pst) (f : Nat) : Prop := P 10 f = 0 ∧ (∀ j, j < nfb P → E1ok (it_e1 f (up (up P 5 f 2) 10 f 0) j) j f) ∧ ∀ j, j < nfb P → E2ok (it_e2 f (it_e1 f (up (up P 5 f 2) 10 f 0) (nfb P)) j) j
/-- all that a step of fiber i asks of the state -/
def WkOK (P : Pst) (LL : Lls) (i : Nat) : Prop := P 5 i = 0 ∧ P 15 i = 0 ∧ ¬ P 51 0 = 0 ∧ (∀ n, n < 4 → LnOK P LL n) ∧ tn (P 43 0) + 1 ≤ nfb P ∧ (∀ p, p < tn (P 22 i) → P 0 (tn (P 24 (16 * i + p))) = P 23 (16 * i + p)) ∧ (∀ j, j < nfb P → StOK P j) ∧ ¬ P 46 0 < 0 ∧ (¬ P 11 i < 0 → EfOK P (tn (P 11 i))) ∧ (∀ p, tn (P 22 i) = p + 1 → CmOK P (16 * i + p)) ∧ (tn (P 22 i) = 0 → ¬ (P 6 i = 1 ∧ P 10 i = 0) → P 11 i < 0 → EnOK P i) ∧ TlOK (saP P LL i) i
theorem inP_wb {P : Pst} (hw : WB P) {i : Nat} : WB (inP P i) := WB.up (f := 49) (WB.up (f := 9) (WB.up (f := 45) hw trivial) trivial) trivial
theorem s_endO {P : Pst} {LL : Lls} {S : Gs} {M : Mm} (hZ : Zt P LL S M) {f : Nat} (hf : f < nfb P) (h5 : P 5 f = 0) (h15 : P 15 f = 0) (hA : ¬ (P 6 f = 1 ∧ P 10 f = 0)) (h11 : P 11 f < 0) (h10 : P 10 f = 0) (hE1 : ∀ j, j < nfb P → E1ok (it_e1 f (up (up P 5 f 2) 10 f 0) j) j f) (hE2 : ∀ j, j < nfb P → E2ok (it_e2 f (it_e1 f (up (up P 5 f 2) 10 f 0) (nfb P)) j) j) {o : Option Nat} (ho : o = some (ad S 4 f)) : Run m_D_end ownC 5 30 200 [va_rf (some (ad S 0 0)), va_rf o] M (fun r M' => r = none ∧ ∃ S', Zt (p_R_ends P f) (enL P LL f) S' M' ∧ ad S' = ad S ∧ lv S' = lv S) := by
  subst ho
  exact s_D_end hZ hf h5 h15 hA h11 h10 hE1 hE2
theorem s_comeToO {P : Pst} {LL : Lls} {S : Gs} {M : Mm} (hZ : Zt P LL S M) {i p : Nat} (hi : i < nfb P) (h5 : P 5 i = 0) (h15 : P 15 i = 0) (hA : ¬ (P 6 i = 1 ∧ P 10 i = 0)) (h11 : P 11 i < 0) (hd : tn (P 22 i) = p + 1) (hF : P 0 (tn (P 24 (16 * i + p))) = P 23 (16 * i + p)) (hkd : KdOK P (16 * i + p)) (h9 : P 25 (16 * i + p) = 9 → P 23 (16 * i + p) = 6 ∨ P 23 (16 * i + p) = 7 ∨ P 23 (16 * i + p) = 10) (hy : P 23 (16 * i + p) = 4 ∨ P 23 (16 * i + p) = 5 ∨ P 23 (16 * i + p) = 6 ∨ P 23 (16 * i + p) = 7 → sm (P 2 (tn (P 24 (16 * i + p)))) 39) (hz : P 23 (16 * i + p) = 5 ∨ P 23 (16 * i + p) = 7 → sm (P 3 (tn (P 24 (16 * i + p)))) 39) {o : Option Nat} (ho : o = some (ad S 5 (16 * i + p))) : Run m_F_comeTo ownC 4 3 20 [va_rf (some (ad S 4 i)), va_rf o] M (fun r M' => r = none ∧ ∃ S', Zt (p_R_comes P i (16 * i + p)) LL S' M' ∧ ad S' = ad S ∧ lv S' = lv S) := by
  subst ho
  exact s_F_comeTo hZ hi h5 h15 hA h11 hd hF hkd h9 hy hz
set_option maxHeartbeats 1000000 in
set_option maxRecDepth 100000 in
theorem s_D_work {P : Pst} {LL : Lls} {S : Gs} {M : Mm} (hZ : Zt P LL S M) {i : Nat} (hi : i < nfb P) (h48 : P 48 0 = nI i) (hW : WkOK (inP P i) LL i) : Run m_D_work ownC 6 30 200 [va_rf (some (ad S 0 0))] M (fun r M' => r = none ∧ ∃ S', Zt (p_s140 (saP (inP P i) LL i) i (nI i)) (wkL (saP (inP P i) LL i) (saL (inP P i) LL i) i) S' M' ∧ Kp P S S') := by
  have hV := hZ.1
  refine Run.ofG (by decide) (by simp [cat_int, cat_rf]) (Nat.le_of_ble_eq_true rfl) ?_
  have h10_ := n10 hZ.2.2.1
  have h48n : ¬ P 48 0 < 0 := by rw [h48]; exact nI_pos (by omega)
  by_cases hd : (inP P i) 6 i = 1 ∧ (inP P i) 10 i = 0
  · skip
    refine g_aload_n d_D_work_0 rfl ?_
    refine v_getr (v := some (ad S 4 i)) (τ := 0) 11 rfl hV (sl_0 hZ.2.1) (by decide) (by decide) fl_D_57 rfl d_D_work_1 rfl ((sd_11 hZ.2.1).trans (by rw [h48, if_neg (nI_pos (by omega)), tn_nI (by omega)])) ?_
    refine g_astore_n d_D_work_4 (by decide) ?_
    refine g_aload_n d_D_work_5 rfl ?_
    refine g_ifnonnull 10 d_D_work_6 (by decide) (fun a_6 c_6 => ?_) (fun c_6 => ?_)
    · skip
      refine g_aload_n d_D_work_10 rfl ?_
      refine g_dup d_D_work_11 ?_
      refine v_geti (v := 5 - P 49 0) (τ := 0) 12 rfl hV (sl_0 hZ.2.1) (by decide) (by decide) fl_D_61 rfl d_D_work_12 rfl ((sd_12 hZ.2.1 h48n).2) ?_
      refine g_iconst (v := 1) d_D_work_15 (by decide) ?_
      refine g_isub d_D_work_16 ?_
      refine v_puti (τ := 0) 12 rfl hV (sl_0 hZ.2.1) (by decide) (by decide) fl_D_61 (Or.inr (fun r h => by cases h; rfl)) rfl d_D_work_17 rfl (fun M hV => ?_)
      have hV1 := hV
      refine g_aload_n d_D_work_20 rfl ?_
      refine g_dup d_D_work_21 ?_
      refine v_geti (v := P 45 0) (τ := 0) 9 rfl hV (lv_i (sl_0 hZ.2.1)) (by decide) (by decide) fl_D_51 rfl d_D_work_22 (ad_i rfl) ((vi_ui_f (by decide) _ _ _ _).trans (sd_9 hZ.2.1)) ?_
      refine g_iconst (v := 1) d_D_work_25 (by decide) ?_
      refine g_iadd d_D_work_26 ?_
      refine v_puti (τ := 0) 9 rfl hV (lv_i (sl_0 hZ.2.1)) (by decide) (by decide) fl_D_51 (Or.inr (fun r h => by cases h; rfl)) rfl d_D_work_27 (ad_i rfl) (fun M hV => ?_)
      have hV2 := hV
      refine g_aload_n d_D_work_30 rfl ?_
      refine g_dup d_D_work_31 ?_
      refine v_geti (v := P 9 i) (τ := i) 268 rfl hV (lv_i (lv_i (sl_4 hZ.2.1 hi))) (by decide) (by decide) fl_D_132 rfl d_D_work_32 (ad_i (ad_i rfl)) ((vi_ui_f (by decide) _ _ _ _).trans ((vi_ui_f (by decide) _ _ _ _).trans (sf_268 hZ.2.1 hi))) ?_
      refine g_iconst (v := 1) d_D_work_35 (by decide) ?_
      refine g_iadd d_D_work_36 ?_
      refine v_puti (τ := i) 268 rfl hV (lv_i (lv_i (sl_4 hZ.2.1 hi))) (by decide) (by decide) fl_D_132 (Or.inr (fun r h => by cases h; rfl)) rfl d_D_work_37 (ad_i (ad_i rfl)) (fun M hV => ?_)
      have hZ0 : Zt (inP P i) LL (ui (ui (ui S 12 0 (5 - P 49 0 - 1)) 9 0 (P 45 0 + 1)) 268 i (P 9 i + 1)) M := by
        rw [← inP_e]
        have s1 : Sim (up P 49 0 (P 49 0 + 1)) LL (ui S 12 0 (5 - P 49 0 - 1)) ∧ WB (up P 49 0 (P 49 0 + 1)) := ⟨(hZ.turn (sub1 (P 49 0)) hV1).2.1, (hZ.turn (sub1 (P 49 0)) hV1).2.2.1⟩
        have z2 := (hZ.turn (sub1 (P 49 0)) hV1).dk (Or.inr (Or.inl ⟨rfl, rfl⟩)) (P 45 0 + 1) hV2
        exact z2.fst hi (P 9 i + 1) hV
      obtain ⟨w5, w15, wst, wL, wq, wF, wS, wp, wE, wC, wN, wT⟩ := hW
      have hV := hZ0.1
      refine g_aload_n d_D_work_40 rfl ?_
      refine v_geti (v := 1) (τ := i) 266 rfl hV (sl_4 hZ0.2.1 hi) (by decide) (by decide) fl_D_123 rfl d_D_work_41 (ad_i (ad_i (ad_i rfl))) ((sf_266 hZ0.2.1 hi).trans hd.1) ?_
      refine g_iconst (v := 1) d_D_work_44 (by decide) ?_
      refine g_icmp_ne 79 d_D_work_45 (by decide) (fun c_45 => ?_) (fun c_45 => ?_)
      · exact absurd c_45 (by decide)
      · skip
        refine g_aload_n d_D_work_48 rfl ?_
        refine v_geti (v := 0) (τ := i) 265 rfl hV (sl_4 hZ0.2.1 hi) (by decide) (by decide) fl_D_117 rfl d_D_work_49 (ad_i (ad_i (ad_i rfl))) ((sf_265 hZ0.2.1 hi).trans hd.2) ?_
        refine g_if_ne 79 d_D_work_52 (by decide) (fun c_52 => ?_) (fun c_52 => ?_)
        · exact absurd c_52 (by decide)
        · skip
          refine g_aload_n d_D_work_55 rfl ?_
          refine g_iconst (v := 2) d_D_work_56 (by decide) ?_
          refine v_puti (τ := i) 266 rfl hV (sl_4 hZ0.2.1 hi) (by decide) (by decide) fl_D_123 (Or.inr (fun r h => by cases h; rfl)) rfl d_D_work_57 (ad_i (ad_i (ad_i rfl))) (fun M hV => ?_)
          refine g_aload_n d_D_work_60 rfl ?_
          refine g_new (k' := 29) (n' := 198) 0 cl_D_141 d_D_work_61 (by first | decide | omega) (by first | decide | omega) (fun q61 hq_q61 => ?_)
          have hn_q61 := hV.newc hq_q61
          have hV0_q61 := hV
          have hV := hV.ext (Ext.nw (Ext.refl _ M) hq_q61 7 0 2)
          refine g_dup d_D_work_64 ?_
          refine g_iconst (v := 3) d_D_work_65 (by decide) ?_
          refine g_aload_n d_D_work_66 rfl ?_
          refine v_geti (v := (inP P i) 7 i) (τ := i) 267 rfl hV (lv_i (sl_4 hZ0.2.1 hi)) (by decide) (by decide) fl_D_193 rfl d_D_work_67 (ad_i (ad_i (ad_i (ad_i rfl)))) ((vi_ui_f (by decide) _ _ _ _).trans (sf_267 hZ0.2.1 hi hd.1)) ?_
          refine g_callI (k1 := 27) (n1 := 196) [.int (3), .int ((inP P i) 7 i)] cw_D_196 ci_C_one d_D_work_70 rfl rfl rfl ⟨by simp [cat_rf, cat_int], by simp⟩ (by first | decide | omega) (by first | decide | omega) (by first | decide | omega) (fun _ _ h => h) (c_C_one _ q61 0 (kd_nw_s _ _ _ _ _) _ _) (fun r_ M h_ hfr_ => ?_)
          obtain ⟨rfl, hc_, hE_⟩ := h_
          have hV := VM.kc (hV0_q61.ext (Ext_new hq_q61 hE_)) hc_
          refine g_callV (k1 := 27) (n1 := 196) [va_rf (some q61)] cw_D_199 cv_F_giveCause d_D_work_73 (ad_c (ad_i (ad_i (ad_i (ad_i rfl))))) (hV.kdo (lv_c (lv_i (sl_4 hZ0.2.1 hi))) (by decide)) rfl rfl ⟨by simp, by simp⟩ (by first | decide | omega) (by first | decide | omega) (by first | decide | omega) (fun _ _ h => h) (v_F_giveCause hV (lv_c (lv_i (sl_4 hZ0.2.1 hi))) _) (fun r_ M h_ hfr_ => ?_)
          obtain ⟨rfl, hV⟩ := h_
          refine g_goto 125 d_D_work_76 (by decide) ?_
          have hZ5 := hZ0.deliver hi w5 w15 ((inP P i) 7 i) hn_q61.1 hV
          have hT := wT
          rw [show saP (inP P i) LL i = p_R_fail (up (inP P i) 6 i 2) i 3 ((inP P i) 7 i) by unfold saP; rw [if_pos hd]] at hT
          rw [show saP (inP P i) LL i = p_R_fail (up (inP P i) 6 i 2) i 3 ((inP P i) 7 i) by unfold saP; rw [if_pos hd], show saL (inP P i) LL i = LL by unfold saL; rw [if_pos hd]]
          refine g_more (l_work hZ5 hT rfl rfl rfl rfl) (fun r M_ h => ?_)
          obtain ⟨h1, S9, h2, h3, h4⟩ := h
          exact ⟨h1, S9, h2, Kp.trans (P1 := P) (Kp.of rfl rfl) (Kp.of h3 h4) (Nat.le_refl _)⟩
    · exact absurd (Eq.trans (Eq.symm (rfl : some (ad S 4 i) = some _)) c_6) (by simp)
  by_cases h11 : (inP P i) 11 i < 0
  rotate_left
  · skip
    have he40 : (tn ((inP P i) 11 i)) < 40 := by rcases (inP_wb hZ.2.2.1 (i := i)) 11 i with q | q; rw [q] at h11; exact absurd (by decide) h11; exact Nat.lt_succ_of_le q.2
    refine g_aload_n d_D_work_0 rfl ?_
    refine v_getr (v := some (ad S 4 i)) (τ := 0) 11 rfl hV (sl_0 hZ.2.1) (by decide) (by decide) fl_D_57 rfl d_D_work_1 rfl ((sd_11 hZ.2.1).trans (by rw [h48, if_neg (nI_pos (by omega)), tn_nI (by omega)])) ?_
    refine g_astore_n d_D_work_4 (by decide) ?_
    refine g_aload_n d_D_work_5 rfl ?_
    refine g_ifnonnull 10 d_D_work_6 (by decide) (fun a_6 c_6 => ?_) (fun c_6 => ?_)
    · skip
      refine g_aload_n d_D_work_10 rfl ?_
      refine g_dup d_D_work_11 ?_
      refine v_geti (v := 5 - P 49 0) (τ := 0) 12 rfl hV (sl_0 hZ.2.1) (by decide) (by decide) fl_D_61 rfl d_D_work_12 rfl ((sd_12 hZ.2.1 h48n).2) ?_
      refine g_iconst (v := 1) d_D_work_15 (by decide) ?_
      refine g_isub d_D_work_16 ?_
      refine v_puti (τ := 0) 12 rfl hV (sl_0 hZ.2.1) (by decide) (by decide) fl_D_61 (Or.inr (fun r h => by cases h; rfl)) rfl d_D_work_17 rfl (fun M hV => ?_)
      have hV1 := hV
      refine g_aload_n d_D_work_20 rfl ?_
      refine g_dup d_D_work_21 ?_
      refine v_geti (v := P 45 0) (τ := 0) 9 rfl hV (lv_i (sl_0 hZ.2.1)) (by decide) (by decide) fl_D_51 rfl d_D_work_22 (ad_i rfl) ((vi_ui_f (by decide) _ _ _ _).trans (sd_9 hZ.2.1)) ?_
      refine g_iconst (v := 1) d_D_work_25 (by decide) ?_
      refine g_iadd d_D_work_26 ?_
      refine v_puti (τ := 0) 9 rfl hV (lv_i (sl_0 hZ.2.1)) (by decide) (by decide) fl_D_51 (Or.inr (fun r h => by cases h; rfl)) rfl d_D_work_27 (ad_i rfl) (fun M hV => ?_)
      have hV2 := hV
      refine g_aload_n d_D_work_30 rfl ?_
      refine g_dup d_D_work_31 ?_
      refine v_geti (v := P 9 i) (τ := i) 268 rfl hV (lv_i (lv_i (sl_4 hZ.2.1 hi))) (by decide) (by decide) fl_D_132 rfl d_D_work_32 (ad_i (ad_i rfl)) ((vi_ui_f (by decide) _ _ _ _).trans ((vi_ui_f (by decide) _ _ _ _).trans (sf_268 hZ.2.1 hi))) ?_
      refine g_iconst (v := 1) d_D_work_35 (by decide) ?_
      refine g_iadd d_D_work_36 ?_
      refine v_puti (τ := i) 268 rfl hV (lv_i (lv_i (sl_4 hZ.2.1 hi))) (by decide) (by decide) fl_D_132 (Or.inr (fun r h => by cases h; rfl)) rfl d_D_work_37 (ad_i (ad_i rfl)) (fun M hV => ?_)
      have hZ0 : Zt (inP P i) LL (ui (ui (ui S 12 0 (5 - P 49 0 - 1)) 9 0 (P 45 0 + 1)) 268 i (P 9 i + 1)) M := by
        rw [← inP_e]
        have s1 : Sim (up P 49 0 (P 49 0 + 1)) LL (ui S 12 0 (5 - P 49 0 - 1)) ∧ WB (up P 49 0 (P 49 0 + 1)) := ⟨(hZ.turn (sub1 (P 49 0)) hV1).2.1, (hZ.turn (sub1 (P 49 0)) hV1).2.2.1⟩
        have z2 := (hZ.turn (sub1 (P 49 0)) hV1).dk (Or.inr (Or.inl ⟨rfl, rfl⟩)) (P 45 0 + 1) hV2
        exact z2.fst hi (P 9 i + 1) hV
      obtain ⟨w5, w15, wst, wL, wq, wF, wS, wp, wE, wC, wN, wT⟩ := hW
      have hV := hZ0.1
      refine g_aload_n d_D_work_40 rfl ?_
      refine v_geti (v := (inP P i) 6 i) (τ := i) 266 rfl hV (sl_4 hZ0.2.1 hi) (by decide) (by decide) fl_D_123 rfl d_D_work_41 (ad_i (ad_i (ad_i rfl))) (sf_266 hZ0.2.1 hi) ?_
      refine g_iconst (v := 1) d_D_work_44 (by decide) ?_
      refine g_icmp_ne 79 d_D_work_45 (by decide) (fun c_45 => ?_) (fun c_45 => ?_)
      · skip
        have hAc := (sf_act hZ0.2.1 hi w5 hd).1 h11
        refine g_aload_n d_D_work_79 rfl ?_
        refine v_getr (v := some (ad (ui (ui (ui S 12 0 (5 - P 49 0 - 1)) 9 0 (P 45 0 + 1)) 268 i (P 9 i + 1)) 3 (tn ((inP P i) 11 i)))) (τ := i) 258 rfl hV (sl_4 hZ0.2.1 hi) (by decide) (by decide) fl_D_203 rfl d_D_work_80 (ad_i (ad_i (ad_i rfl))) hAc.2.1 ?_
        refine g_ifnull 102 d_D_work_83 (by decide) (fun c_83 => ?_) (fun a_83 c_83 => ?_)
        · exact absurd (Eq.trans (Eq.symm (rfl : some (ad (ui (ui (ui S 12 0 (5 - P 49 0 - 1)) 9 0 (P 45 0 + 1)) 268 i (P 9 i + 1)) 3 (tn ((inP P i) 11 i))) = some _)) c_83) (by simp)
        · skip
          refine g_aload_n d_D_work_86 rfl ?_
          refine g_aload_n d_D_work_87 rfl ?_
          refine g_aload_n d_D_work_88 rfl ?_
          refine v_getr (v := some (ad (ui (ui (ui S 12 0 (5 - P 49 0 - 1)) 9 0 (P 45 0 + 1)) 268 i (P 9 i + 1)) 3 (tn ((inP P i) 11 i)))) (τ := i) 258 rfl hV (sl_4 hZ0.2.1 hi) (by decide) (by decide) fl_D_203 rfl d_D_work_89 (ad_i (ad_i (ad_i rfl))) hAc.2.1 ?_
          refine g_aload_n d_D_work_92 rfl ?_
          refine v_geti (v := (inP P i) 12 i) (τ := i) 259 rfl hV (sl_4 hZ0.2.1 hi) (by decide) (by decide) fl_D_207 rfl d_D_work_93 (ad_i (ad_i (ad_i rfl))) hAc.2.2 ?_
          refine g_callV (k1 := 27) (n1 := 168) [va_rf (some (ad S 4 i)), va_rf (some (ad (ui (ui (ui S 12 0 (5 - P 49 0 - 1)) 9 0 (P 45 0 + 1)) 268 i (P 9 i + 1)) 3 (tn ((inP P i) 11 i)))), .int ((inP P i) 12 i)] cw_D_210 cv_D_begin d_D_work_96 (ad_i (ad_i (ad_i rfl))) (hV.kdo (sl_0 hZ0.2.1) (by decide)) rfl rfl ⟨by simp, by simp⟩ (by first | decide | omega) (by first | decide | omega) (by first | decide | omega) (fun _ _ h => h) (s_D_begin hZ0 hi w5 w15 hd wst hAc.1 he40 (wE h11).1 (wE h11).2.1 (wE h11).2.2.1 wL wq wF wS wp _ (wE h11).2.2.2 (ad_i (ad_i (ad_i rfl))) rfl) (fun r_ M h_ hfr_ => ?_)
          obtain ⟨rfl, S5, hZ5, hk5⟩ := h_
          refine g_goto 125 d_D_work_99 (by decide) ?_
          have hT := wT
          rw [show saP (inP P i) LL i = actC (inP P i) LL i (tn ((inP P i) 11 i)) ((inP P i) 12 i) by unfold saP; rw [if_neg hd, if_neg h11]] at hT
          rw [show saP (inP P i) LL i = actC (inP P i) LL i (tn ((inP P i) 11 i)) ((inP P i) 12 i) by unfold saP; rw [if_neg hd, if_neg h11], show saL (inP P i) LL i = actL (inP P i) LL i (tn ((inP P i) 11 i)) ((inP P i) 12 i) by unfold saL; rw [if_neg hd, if_neg h11]]
          refine g_more (l_work hZ5 hT rfl rfl (ad_k rfl (hk5.1 0 0 (by decide) (by decide) (sl_0 hZ0.2.1))) (ad_k rfl (hk5.2.1 i hi))) (fun r M_ h => ?_)
          obtain ⟨h1, S9, h2, h3, h4⟩ := h
          exact ⟨h1, S9, h2, Kp.trans (P1 := P) (Kp.trans (Kp.of (P := P) (S' := (ui (ui (ui S 12 0 (5 - P 49 0 - 1)) 9 0 (P 45 0 + 1)) 268 i (P 9 i + 1))) rfl rfl) hk5 (Nat.le_refl _)) (Kp.of h3 h4) (Nat.le_refl _)⟩
      · skip
        refine g_aload_n d_D_work_48 rfl ?_
        refine v_geti (v := (inP P i) 10 i) (τ := i) 265 rfl hV (sl_4 hZ0.2.1 hi) (by decide) (by decide) fl_D_117 rfl d_D_work_49 (ad_i (ad_i (ad_i rfl))) (sf_265 hZ0.2.1 hi) ?_
        refine g_if_ne 79 d_D_work_52 (by decide) (fun c_52 => ?_) (fun c_52 => ?_)
        · skip
          have hAc := (sf_act hZ0.2.1 hi w5 hd).1 h11
          refine g_aload_n d_D_work_79 rfl ?_
          refine v_getr (v := some (ad (ui (ui (ui S 12 0 (5 - P 49 0 - 1)) 9 0 (P 45 0 + 1)) 268 i (P 9 i + 1)) 3 (tn ((inP P i) 11 i)))) (τ := i) 258 rfl hV (sl_4 hZ0.2.1 hi) (by decide) (by decide) fl_D_203 rfl d_D_work_80 (ad_i (ad_i (ad_i rfl))) hAc.2.1 ?_
          refine g_ifnull 102 d_D_work_83 (by decide) (fun c_83 => ?_) (fun a_83 c_83 => ?_)
          · exact absurd (Eq.trans (Eq.symm (rfl : some (ad (ui (ui (ui S 12 0 (5 - P 49 0 - 1)) 9 0 (P 45 0 + 1)) 268 i (P 9 i + 1)) 3 (tn ((inP P i) 11 i))) = some _)) c_83) (by simp)
          · skip
            refine g_aload_n d_D_work_86 rfl ?_
            refine g_aload_n d_D_work_87 rfl ?_
            refine g_aload_n d_D_work_88 rfl ?_
            refine v_getr (v := some (ad (ui (ui (ui S 12 0 (5 - P 49 0 - 1)) 9 0 (P 45 0 + 1)) 268 i (P 9 i + 1)) 3 (tn ((inP P i) 11 i)))) (τ := i) 258 rfl hV (sl_4 hZ0.2.1 hi) (by decide) (by decide) fl_D_203 rfl d_D_work_89 (ad_i (ad_i (ad_i rfl))) hAc.2.1 ?_
            refine g_aload_n d_D_work_92 rfl ?_
            refine v_geti (v := (inP P i) 12 i) (τ := i) 259 rfl hV (sl_4 hZ0.2.1 hi) (by decide) (by decide) fl_D_207 rfl d_D_work_93 (ad_i (ad_i (ad_i rfl))) hAc.2.2 ?_
            refine g_callV (k1 := 27) (n1 := 168) [va_rf (some (ad S 4 i)), va_rf (some (ad (ui (ui (ui S 12 0 (5 - P 49 0 - 1)) 9 0 (P 45 0 + 1)) 268 i (P 9 i + 1)) 3 (tn ((inP P i) 11 i)))), .int ((inP P i) 12 i)] cw_D_210 cv_D_begin d_D_work_96 (ad_i (ad_i (ad_i rfl))) (hV.kdo (sl_0 hZ0.2.1) (by decide)) rfl rfl ⟨by simp, by simp⟩ (by first | decide | omega) (by first | decide | omega) (by first | decide | omega) (fun _ _ h => h) (s_D_begin hZ0 hi w5 w15 hd wst hAc.1 he40 (wE h11).1 (wE h11).2.1 (wE h11).2.2.1 wL wq wF wS wp _ (wE h11).2.2.2 (ad_i (ad_i (ad_i rfl))) rfl) (fun r_ M h_ hfr_ => ?_)
            obtain ⟨rfl, S5, hZ5, hk5⟩ := h_
            refine g_goto 125 d_D_work_99 (by decide) ?_
            have hT := wT
            rw [show saP (inP P i) LL i = actC (inP P i) LL i (tn ((inP P i) 11 i)) ((inP P i) 12 i) by unfold saP; rw [if_neg hd, if_neg h11]] at hT
            rw [show saP (inP P i) LL i = actC (inP P i) LL i (tn ((inP P i) 11 i)) ((inP P i) 12 i) by unfold saP; rw [if_neg hd, if_neg h11], show saL (inP P i) LL i = actL (inP P i) LL i (tn ((inP P i) 11 i)) ((inP P i) 12 i) by unfold saL; rw [if_neg hd, if_neg h11]]
            refine g_more (l_work hZ5 hT rfl rfl (ad_k rfl (hk5.1 0 0 (by decide) (by decide) (sl_0 hZ0.2.1))) (ad_k rfl (hk5.2.1 i hi))) (fun r M_ h => ?_)
            obtain ⟨h1, S9, h2, h3, h4⟩ := h
            exact ⟨h1, S9, h2, Kp.trans (P1 := P) (Kp.trans (Kp.of (P := P) (S' := (ui (ui (ui S 12 0 (5 - P 49 0 - 1)) 9 0 (P 45 0 + 1)) 268 i (P 9 i + 1))) rfl rfl) hk5 (Nat.le_refl _)) (Kp.of h3 h4) (Nat.le_refl _)⟩
        · skip
          exact absurd ⟨c_45, c_52⟩ hd
    · exact absurd (Eq.trans (Eq.symm (rfl : some (ad S 4 i) = some _)) c_6) (by simp)
  cases hdp : tn ((inP P i) 22 i) with
  | zero =>
    refine g_aload_n d_D_work_0 rfl ?_
    refine v_getr (v := some (ad S 4 i)) (τ := 0) 11 rfl hV (sl_0 hZ.2.1) (by decide) (by decide) fl_D_57 rfl d_D_work_1 rfl ((sd_11 hZ.2.1).trans (by rw [h48, if_neg (nI_pos (by omega)), tn_nI (by omega)])) ?_
    refine g_astore_n d_D_work_4 (by decide) ?_
    refine g_aload_n d_D_work_5 rfl ?_
    refine g_ifnonnull 10 d_D_work_6 (by decide) (fun a_6 c_6 => ?_) (fun c_6 => ?_)
    · skip
      refine g_aload_n d_D_work_10 rfl ?_
      refine g_dup d_D_work_11 ?_
      refine v_geti (v := 5 - P 49 0) (τ := 0) 12 rfl hV (sl_0 hZ.2.1) (by decide) (by decide) fl_D_61 rfl d_D_work_12 rfl ((sd_12 hZ.2.1 h48n).2) ?_
      refine g_iconst (v := 1) d_D_work_15 (by decide) ?_
      refine g_isub d_D_work_16 ?_
      refine v_puti (τ := 0) 12 rfl hV (sl_0 hZ.2.1) (by decide) (by decide) fl_D_61 (Or.inr (fun r h => by cases h; rfl)) rfl d_D_work_17 rfl (fun M hV => ?_)
      have hV1 := hV
      refine g_aload_n d_D_work_20 rfl ?_
      refine g_dup d_D_work_21 ?_
      refine v_geti (v := P 45 0) (τ := 0) 9 rfl hV (lv_i (sl_0 hZ.2.1)) (by decide) (by decide) fl_D_51 rfl d_D_work_22 (ad_i rfl) ((vi_ui_f (by decide) _ _ _ _).trans (sd_9 hZ.2.1)) ?_
      refine g_iconst (v := 1) d_D_work_25 (by decide) ?_
      refine g_iadd d_D_work_26 ?_
      refine v_puti (τ := 0) 9 rfl hV (lv_i (sl_0 hZ.2.1)) (by decide) (by decide) fl_D_51 (Or.inr (fun r h => by cases h; rfl)) rfl d_D_work_27 (ad_i rfl) (fun M hV => ?_)
      have hV2 := hV
      refine g_aload_n d_D_work_30 rfl ?_
      refine g_dup d_D_work_31 ?_
      refine v_geti (v := P 9 i) (τ := i) 268 rfl hV (lv_i (lv_i (sl_4 hZ.2.1 hi))) (by decide) (by decide) fl_D_132 rfl d_D_work_32 (ad_i (ad_i rfl)) ((vi_ui_f (by decide) _ _ _ _).trans ((vi_ui_f (by decide) _ _ _ _).trans (sf_268 hZ.2.1 hi))) ?_
      refine g_iconst (v := 1) d_D_work_35 (by decide) ?_
      refine g_iadd d_D_work_36 ?_
      refine v_puti (τ := i) 268 rfl hV (lv_i (lv_i (sl_4 hZ.2.1 hi))) (by decide) (by decide) fl_D_132 (Or.inr (fun r h => by cases h; rfl)) rfl d_D_work_37 (ad_i (ad_i rfl)) (fun M hV => ?_)
      have hZ0 : Zt (inP P i) LL (ui (ui (ui S 12 0 (5 - P 49 0 - 1)) 9 0 (P 45 0 + 1)) 268 i (P 9 i + 1)) M := by
        rw [← inP_e]
        have s1 : Sim (up P 49 0 (P 49 0 + 1)) LL (ui S 12 0 (5 - P 49 0 - 1)) ∧ WB (up P 49 0 (P 49 0 + 1)) := ⟨(hZ.turn (sub1 (P 49 0)) hV1).2.1, (hZ.turn (sub1 (P 49 0)) hV1).2.2.1⟩
        have z2 := (hZ.turn (sub1 (P 49 0)) hV1).dk (Or.inr (Or.inl ⟨rfl, rfl⟩)) (P 45 0 + 1) hV2
        exact z2.fst hi (P 9 i + 1) hV
      obtain ⟨w5, w15, wst, wL, wq, wF, wS, wp, wE, wC, wN, wT⟩ := hW
      have hV := hZ0.1
      refine g_aload_n d_D_work_40 rfl ?_
      refine v_geti (v := (inP P i) 6 i) (τ := i) 266 rfl hV (sl_4 hZ0.2.1 hi) (by decide) (by decide) fl_D_123 rfl d_D_work_41 (ad_i (ad_i (ad_i rfl))) (sf_266 hZ0.2.1 hi) ?_
      refine g_iconst (v := 1) d_D_work_44 (by decide) ?_
      refine g_icmp_ne 79 d_D_work_45 (by decide) (fun c_45 => ?_) (fun c_45 => ?_)
      · skip
        have hEx := hZ0.exit hi w5 hd h11
        refine g_aload_n d_D_work_79 rfl ?_
        refine v_getr (v := none) (τ := i) 258 rfl hV (sl_4 hZ0.2.1 hi) (by decide) (by decide) fl_D_203 rfl d_D_work_80 (ad_i (ad_i (ad_i rfl))) hEx.1 ?_
        refine g_ifnull 102 d_D_work_83 (by decide) (fun c_83 => ?_) (fun a_83 c_83 => ?_)
        · skip
          refine g_aload_n d_D_work_102 rfl ?_
          refine v_getr (v := none) (τ := i) 263 rfl hV (sl_4 hZ0.2.1 hi) (by decide) (by decide) fl_D_214 rfl d_D_work_103 (ad_i (ad_i (ad_i rfl))) ((sf_263 hZ0.2.1 hi).trans (by rw [hdp, topR_0])) ?_
          refine g_ifnull 120 d_D_work_106 (by decide) (fun c_106 => ?_) (fun a_106 c_106 => ?_)
          · skip
            refine g_aload_n d_D_work_120 rfl ?_
            refine g_aload_n d_D_work_121 rfl ?_
            refine g_callV (k1 := 0) (n1 := 0) [va_rf (some (ad S 4 i))] cw_D_222 cv_D_end d_D_work_122 (ad_i (ad_i (ad_i rfl))) (hV.kdo (sl_0 hZ0.2.1) (by decide)) rfl rfl ⟨by simp, by simp⟩ (by first | decide | omega) (by first | decide | omega) (by first | decide | omega) (fun _ _ h => h) (s_endO hZ0 hi w5 w15 hd h11 (wN hdp hd h11).1 (wN hdp hd h11).2.1 (wN hdp hd h11).2.2 (ad_i (ad_i (ad_i rfl)))) (fun r_ M h_ hfr_ => ?_)
            obtain ⟨rfl, S5, hZ5, ha5, hb5⟩ := h_
            have hT := wT
            rw [show saP (inP P i) LL i = p_R_ends (inP P i) i by unfold saP; rw [if_neg hd, if_pos h11, if_pos hdp]] at hT
            rw [show saP (inP P i) LL i = p_R_ends (inP P i) i by unfold saP; rw [if_neg hd, if_pos h11, if_pos hdp], show saL (inP P i) LL i = enL (inP P i) LL i by unfold saL; rw [if_neg hd, if_pos h11, if_pos hdp]]
            refine g_more (l_work hZ5 hT rfl rfl (by rw [ha5]; rfl) (by rw [ha5]; rfl)) (fun r M_ h => ?_)
            obtain ⟨h1, S9, h2, h3, h4⟩ := h
            exact ⟨h1, S9, h2, Kp.trans (P1 := P) (Kp.of (S' := S5) ha5 hb5) (Kp.of h3 h4) (Nat.le_refl _)⟩
          · exact absurd c_106 (by simp)
        · exact absurd c_83 (by simp)
      · skip
        refine g_aload_n d_D_work_48 rfl ?_
        refine v_geti (v := (inP P i) 10 i) (τ := i) 265 rfl hV (sl_4 hZ0.2.1 hi) (by decide) (by decide) fl_D_117 rfl d_D_work_49 (ad_i (ad_i (ad_i rfl))) (sf_265 hZ0.2.1 hi) ?_
        refine g_if_ne 79 d_D_work_52 (by decide) (fun c_52 => ?_) (fun c_52 => ?_)
        · skip
          have hEx := hZ0.exit hi w5 hd h11
          refine g_aload_n d_D_work_79 rfl ?_
          refine v_getr (v := none) (τ := i) 258 rfl hV (sl_4 hZ0.2.1 hi) (by decide) (by decide) fl_D_203 rfl d_D_work_80 (ad_i (ad_i (ad_i rfl))) hEx.1 ?_
          refine g_ifnull 102 d_D_work_83 (by decide) (fun c_83 => ?_) (fun a_83 c_83 => ?_)
          · skip
            refine g_aload_n d_D_work_102 rfl ?_
            refine v_getr (v := none) (τ := i) 263 rfl hV (sl_4 hZ0.2.1 hi) (by decide) (by decide) fl_D_214 rfl d_D_work_103 (ad_i (ad_i (ad_i rfl))) ((sf_263 hZ0.2.1 hi).trans (by rw [hdp, topR_0])) ?_
            refine g_ifnull 120 d_D_work_106 (by decide) (fun c_106 => ?_) (fun a_106 c_106 => ?_)
            · skip
              refine g_aload_n d_D_work_120 rfl ?_
              refine g_aload_n d_D_work_121 rfl ?_
              refine g_callV (k1 := 0) (n1 := 0) [va_rf (some (ad S 4 i))] cw_D_222 cv_D_end d_D_work_122 (ad_i (ad_i (ad_i rfl))) (hV.kdo (sl_0 hZ0.2.1) (by decide)) rfl rfl ⟨by simp, by simp⟩ (by first | decide | omega) (by first | decide | omega) (by first | decide | omega) (fun _ _ h => h) (s_endO hZ0 hi w5 w15 hd h11 (wN hdp hd h11).1 (wN hdp hd h11).2.1 (wN hdp hd h11).2.2 (ad_i (ad_i (ad_i rfl)))) (fun r_ M h_ hfr_ => ?_)
              obtain ⟨rfl, S5, hZ5, ha5, hb5⟩ := h_
              have hT := wT
              rw [show saP (inP P i) LL i = p_R_ends (inP P i) i by unfold saP; rw [if_neg hd, if_pos h11, if_pos hdp]] at hT
              rw [show saP (inP P i) LL i = p_R_ends (inP P i) i by unfold saP; rw [if_neg hd, if_pos h11, if_pos hdp], show saL (inP P i) LL i = enL (inP P i) LL i by unfold saL; rw [if_neg hd, if_pos h11, if_pos hdp]]
              refine g_more (l_work hZ5 hT rfl rfl (by rw [ha5]; rfl) (by rw [ha5]; rfl)) (fun r M_ h => ?_)
              obtain ⟨h1, S9, h2, h3, h4⟩ := h
              exact ⟨h1, S9, h2, Kp.trans (P1 := P) (Kp.of (S' := S5) ha5 hb5) (Kp.of h3 h4) (Nat.le_refl _)⟩
            · exact absurd c_106 (by simp)
          · exact absurd c_83 (by simp)
        · skip
          exact absurd ⟨c_45, c_52⟩ hd
    · exact absurd (Eq.trans (Eq.symm (rfl : some (ad S 4 i) = some _)) c_6) (by simp)
  | succ p =>
    refine g_aload_n d_D_work_0 rfl ?_
    refine v_getr (v := some (ad S 4 i)) (τ := 0) 11 rfl hV (sl_0 hZ.2.1) (by decide) (by decide) fl_D_57 rfl d_D_work_1 rfl ((sd_11 hZ.2.1).trans (by rw [h48, if_neg (nI_pos (by omega)), tn_nI (by omega)])) ?_
    refine g_astore_n d_D_work_4 (by decide) ?_
    refine g_aload_n d_D_work_5 rfl ?_
    refine g_ifnonnull 10 d_D_work_6 (by decide) (fun a_6 c_6 => ?_) (fun c_6 => ?_)
    · skip
      refine g_aload_n d_D_work_10 rfl ?_
      refine g_dup d_D_work_11 ?_
      refine v_geti (v := 5 - P 49 0) (τ := 0) 12 rfl hV (sl_0 hZ.2.1) (by decide) (by decide) fl_D_61 rfl d_D_work_12 rfl ((sd_12 hZ.2.1 h48n).2) ?_
      refine g_iconst (v := 1) d_D_work_15 (by decide) ?_
      refine g_isub d_D_work_16 ?_
      refine v_puti (τ := 0) 12 rfl hV (sl_0 hZ.2.1) (by decide) (by decide) fl_D_61 (Or.inr (fun r h => by cases h; rfl)) rfl d_D_work_17 rfl (fun M hV => ?_)
      have hV1 := hV
      refine g_aload_n d_D_work_20 rfl ?_
      refine g_dup d_D_work_21 ?_
      refine v_geti (v := P 45 0) (τ := 0) 9 rfl hV (lv_i (sl_0 hZ.2.1)) (by decide) (by decide) fl_D_51 rfl d_D_work_22 (ad_i rfl) ((vi_ui_f (by decide) _ _ _ _).trans (sd_9 hZ.2.1)) ?_
      refine g_iconst (v := 1) d_D_work_25 (by decide) ?_
      refine g_iadd d_D_work_26 ?_
      refine v_puti (τ := 0) 9 rfl hV (lv_i (sl_0 hZ.2.1)) (by decide) (by decide) fl_D_51 (Or.inr (fun r h => by cases h; rfl)) rfl d_D_work_27 (ad_i rfl) (fun M hV => ?_)
      have hV2 := hV
      refine g_aload_n d_D_work_30 rfl ?_
      refine g_dup d_D_work_31 ?_
      refine v_geti (v := P 9 i) (τ := i) 268 rfl hV (lv_i (lv_i (sl_4 hZ.2.1 hi))) (by decide) (by decide) fl_D_132 rfl d_D_work_32 (ad_i (ad_i rfl)) ((vi_ui_f (by decide) _ _ _ _).trans ((vi_ui_f (by decide) _ _ _ _).trans (sf_268 hZ.2.1 hi))) ?_
      refine g_iconst (v := 1) d_D_work_35 (by decide) ?_
      refine g_iadd d_D_work_36 ?_
      refine v_puti (τ := i) 268 rfl hV (lv_i (lv_i (sl_4 hZ.2.1 hi))) (by decide) (by decide) fl_D_132 (Or.inr (fun r h => by cases h; rfl)) rfl d_D_work_37 (ad_i (ad_i rfl)) (fun M hV => ?_)
      have hZ0 : Zt (inP P i) LL (ui (ui (ui S 12 0 (5 - P 49 0 - 1)) 9 0 (P 45 0 + 1)) 268 i (P 9 i + 1)) M := by
        rw [← inP_e]
        have s1 : Sim (up P 49 0 (P 49 0 + 1)) LL (ui S 12 0 (5 - P 49 0 - 1)) ∧ WB (up P 49 0 (P 49 0 + 1)) := ⟨(hZ.turn (sub1 (P 49 0)) hV1).2.1, (hZ.turn (sub1 (P 49 0)) hV1).2.2.1⟩
        have z2 := (hZ.turn (sub1 (P 49 0)) hV1).dk (Or.inr (Or.inl ⟨rfl, rfl⟩)) (P 45 0 + 1) hV2
        exact z2.fst hi (P 9 i + 1) hV
      obtain ⟨w5, w15, wst, wL, wq, wF, wS, wp, wE, wC, wN, wT⟩ := hW
      have hV := hZ0.1
      refine g_aload_n d_D_work_40 rfl ?_
      refine v_geti (v := (inP P i) 6 i) (τ := i) 266 rfl hV (sl_4 hZ0.2.1 hi) (by decide) (by decide) fl_D_123 rfl d_D_work_41 (ad_i (ad_i (ad_i rfl))) (sf_266 hZ0.2.1 hi) ?_
      refine g_iconst (v := 1) d_D_work_44 (by decide) ?_
      refine g_icmp_ne 79 d_D_work_45 (by decide) (fun c_45 => ?_) (fun c_45 => ?_)
      · skip
        have hEx := hZ0.exit hi w5 hd h11
        refine g_aload_n d_D_work_79 rfl ?_
        refine v_getr (v := none) (τ := i) 258 rfl hV (sl_4 hZ0.2.1 hi) (by decide) (by decide) fl_D_203 rfl d_D_work_80 (ad_i (ad_i (ad_i rfl))) hEx.1 ?_
        refine g_ifnull 102 d_D_work_83 (by decide) (fun c_83 => ?_) (fun a_83 c_83 => ?_)
        · skip
          refine g_aload_n d_D_work_102 rfl ?_
          refine v_getr (v := some (ad (ui (ui (ui S 12 0 (5 - P 49 0 - 1)) 9 0 (P 45 0 + 1)) 268 i (P 9 i + 1)) 5 (16 * i + p))) (τ := i) 263 rfl hV (sl_4 hZ0.2.1 hi) (by decide) (by decide) fl_D_214 rfl d_D_work_103 (ad_i (ad_i (ad_i rfl))) ((sf_263 hZ0.2.1 hi).trans (by rw [hdp, topR_s])) ?_
          refine g_ifnull 120 d_D_work_106 (by decide) (fun c_106 => ?_) (fun a_106 c_106 => ?_)
          · exact absurd (Eq.trans (Eq.symm (rfl : some (ad (ui (ui (ui S 12 0 (5 - P 49 0 - 1)) 9 0 (P 45 0 + 1)) 268 i (P 9 i + 1)) 5 (16 * i + p)) = some _)) c_106) (by simp)
          · skip
            refine g_aload_n d_D_work_109 rfl ?_
            refine g_aload_n d_D_work_110 rfl ?_
            refine v_getr (v := some (ad (ui (ui (ui S 12 0 (5 - P 49 0 - 1)) 9 0 (P 45 0 + 1)) 268 i (P 9 i + 1)) 5 (16 * i + p))) (τ := i) 263 rfl hV (sl_4 hZ0.2.1 hi) (by decide) (by decide) fl_D_214 rfl d_D_work_111 (ad_i (ad_i (ad_i rfl))) ((sf_263 hZ0.2.1 hi).trans (by rw [hdp, topR_s])) ?_
            refine g_callV (k1 := 27) (n1 := 180) [va_rf (some (ad (ui (ui (ui S 12 0 (5 - P 49 0 - 1)) 9 0 (P 45 0 + 1)) 268 i (P 9 i + 1)) 5 (16 * i + p)))] cw_D_218 cv_F_comeTo d_D_work_114 (ad_i (ad_i (ad_i rfl))) (hV.kdo (sl_4 hZ0.2.1 hi) (by decide)) rfl rfl ⟨by simp, by simp⟩ (by first | decide | omega) (by first | decide | omega) (by first | decide | omega) (fun _ _ h => h) (s_comeToO hZ0 hi w5 w15 hd h11 hdp (wF p (by omega)) (wC p hdp).1 (wC p hdp).2.1 (wC p hdp).2.2.1 (wC p hdp).2.2.2 rfl) (fun r_ M h_ hfr_ => ?_)
            obtain ⟨rfl, S5, hZ5, ha5, hb5⟩ := h_
            refine g_goto 125 d_D_work_117 (by decide) ?_
            have hT := wT
            rw [show saP (inP P i) LL i = p_R_comes (inP P i) i (16 * i + p) by unfold saP; rw [if_neg hd, if_pos h11, if_neg (by rw [hdp]; exact Nat.succ_ne_zero p)]; rw [hdp, Nat.add_sub_cancel]] at hT
            rw [show saP (inP P i) LL i = p_R_comes (inP P i) i (16 * i + p) by unfold saP; rw [if_neg hd, if_pos h11, if_neg (by rw [hdp]; exact Nat.succ_ne_zero p)]; rw [hdp, Nat.add_sub_cancel], show saL (inP P i) LL i = LL by unfold saL; rw [if_neg hd, if_pos h11, if_neg (by rw [hdp]; exact Nat.succ_ne_zero p)]]
            refine g_more (l_work hZ5 hT rfl rfl (by rw [ha5]; rfl) (by rw [ha5]; rfl)) (fun r M_ h => ?_)
            obtain ⟨h1, S9, h2, h3, h4⟩ := h
            exact ⟨h1, S9, h2, Kp.trans (P1 := P) (Kp.of (S' := S5) ha5 hb5) (Kp.of h3 h4) (Nat.le_refl _)⟩
        · exact absurd c_83 (by simp)
      · skip
        refine g_aload_n d_D_work_48 rfl ?_
        refine v_geti (v := (inP P i) 10 i) (τ := i) 265 rfl hV (sl_4 hZ0.2.1 hi) (by decide) (by decide) fl_D_117 rfl d_D_work_49 (ad_i (ad_i (ad_i rfl))) (sf_265 hZ0.2.1 hi) ?_
        refine g_if_ne 79 d_D_work_52 (by decide) (fun c_52 => ?_) (fun c_52 => ?_)
        · skip
          have hEx := hZ0.exit hi w5 hd h11
          refine g_aload_n d_D_work_79 rfl ?_
          refine v_getr (v := none) (τ := i) 258 rfl hV (sl_4 hZ0.2.1 hi) (by decide) (by decide) fl_D_203 rfl d_D_work_80 (ad_i (ad_i (ad_i rfl))) hEx.1 ?_
          refine g_ifnull 102 d_D_work_83 (by decide) (fun c_83 => ?_) (fun a_83 c_83 => ?_)
          · skip
            refine g_aload_n d_D_work_102 rfl ?_
            refine v_getr (v := some (ad (ui (ui (ui S 12 0 (5 - P 49 0 - 1)) 9 0 (P 45 0 + 1)) 268 i (P 9 i + 1)) 5 (16 * i + p))) (τ := i) 263 rfl hV (sl_4 hZ0.2.1 hi) (by decide) (by decide) fl_D_214 rfl d_D_work_103 (ad_i (ad_i (ad_i rfl))) ((sf_263 hZ0.2.1 hi).trans (by rw [hdp, topR_s])) ?_
            refine g_ifnull 120 d_D_work_106 (by decide) (fun c_106 => ?_) (fun a_106 c_106 => ?_)
            · exact absurd (Eq.trans (Eq.symm (rfl : some (ad (ui (ui (ui S 12 0 (5 - P 49 0 - 1)) 9 0 (P 45 0 + 1)) 268 i (P 9 i + 1)) 5 (16 * i + p)) = some _)) c_106) (by simp)
            · skip
              refine g_aload_n d_D_work_109 rfl ?_
              refine g_aload_n d_D_work_110 rfl ?_
              refine v_getr (v := some (ad (ui (ui (ui S 12 0 (5 - P 49 0 - 1)) 9 0 (P 45 0 + 1)) 268 i (P 9 i + 1)) 5 (16 * i + p))) (τ := i) 263 rfl hV (sl_4 hZ0.2.1 hi) (by decide) (by decide) fl_D_214 rfl d_D_work_111 (ad_i (ad_i (ad_i rfl))) ((sf_263 hZ0.2.1 hi).trans (by rw [hdp, topR_s])) ?_
              refine g_callV (k1 := 27) (n1 := 180) [va_rf (some (ad (ui (ui (ui S 12 0 (5 - P 49 0 - 1)) 9 0 (P 45 0 + 1)) 268 i (P 9 i + 1)) 5 (16 * i + p)))] cw_D_218 cv_F_comeTo d_D_work_114 (ad_i (ad_i (ad_i rfl))) (hV.kdo (sl_4 hZ0.2.1 hi) (by decide)) rfl rfl ⟨by simp, by simp⟩ (by first | decide | omega) (by first | decide | omega) (by first | decide | omega) (fun _ _ h => h) (s_comeToO hZ0 hi w5 w15 hd h11 hdp (wF p (by omega)) (wC p hdp).1 (wC p hdp).2.1 (wC p hdp).2.2.1 (wC p hdp).2.2.2 rfl) (fun r_ M h_ hfr_ => ?_)
              obtain ⟨rfl, S5, hZ5, ha5, hb5⟩ := h_
              refine g_goto 125 d_D_work_117 (by decide) ?_
              have hT := wT
              rw [show saP (inP P i) LL i = p_R_comes (inP P i) i (16 * i + p) by unfold saP; rw [if_neg hd, if_pos h11, if_neg (by rw [hdp]; exact Nat.succ_ne_zero p)]; rw [hdp, Nat.add_sub_cancel]] at hT
              rw [show saP (inP P i) LL i = p_R_comes (inP P i) i (16 * i + p) by unfold saP; rw [if_neg hd, if_pos h11, if_neg (by rw [hdp]; exact Nat.succ_ne_zero p)]; rw [hdp, Nat.add_sub_cancel], show saL (inP P i) LL i = LL by unfold saL; rw [if_neg hd, if_pos h11, if_neg (by rw [hdp]; exact Nat.succ_ne_zero p)]]
              refine g_more (l_work hZ5 hT rfl rfl (by rw [ha5]; rfl) (by rw [ha5]; rfl)) (fun r M_ h => ?_)
              obtain ⟨h1, S9, h2, h3, h4⟩ := h
              exact ⟨h1, S9, h2, Kp.trans (P1 := P) (Kp.of (S' := S5) ha5 hb5) (Kp.of h3 h4) (Nat.le_refl _)⟩
          · exact absurd c_83 (by simp)
        · skip
          exact absurd ⟨c_45, c_52⟩ hd
    · exact absurd (Eq.trans (Eq.symm (rfl : some (ad S 4 i) = some _)) c_6) (by simp)
