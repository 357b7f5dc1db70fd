/-! the next turn (by program: wip/tools/gen_s21.py) -/
theorem rmF_cons {x : Nat} {l : List Nat} (h : ∀ y, y ∈ l → ¬ nI y = nI x) : rmF (nI x) (x :: l) = l := by
  unfold rmF
  rw [List.filter_cons_of_neg (by simp), List.filter_eq_self.mpr (fun y hy => by simp [h y hy])]
theorem it_q_o (P : Pst) : ∀ (j : Nat) {f x : Nat}, ¬ f = 36 → it_q P j f x = P f x
  | 0, _, _, _ => rfl
  | j + 1, f, x, h => by
    show up (it_q P j) 36 j (it_q P j 36 (j + 1)) f x = _
    rw [up_f h, it_q_o P j h]
theorem b141_o (P : Pst) {f x : Nat} (h : ¬ f = 36 ∧ ¬ f = 43 ∧ ¬ f = 47 ∧ ¬ f = 48 ∧ ¬ f = 49) : p_b141 P f x = P f x := by
  unfold p_b141
  rw [up_f h.2.2.1, up_f h.2.2.2.2, it_q_o _ _ h.1, up_f h.2.1, up_f h.2.2.2.1]
theorem b141_f (P : Pst) : p_b141 P 43 0 = P 43 0 - 1 ∧ p_b141 P 47 0 = P 47 0 + 1 ∧ p_b141 P 48 0 = P 36 0 ∧ p_b141 P 49 0 = 0 := by
  unfold p_b141
  refine ⟨?_, ?_, ?_, ?_⟩
  · rw [up_f (by decide), up_f (by decide), it_q_o _ _ (by decide), up_s]
  · rw [up_s, it_q_o _ _ (by decide), up_f (by decide), up_f (by decide)]
  · rw [up_f (by decide), up_f (by decide), it_q_o _ _ (by decide), up_f (by decide), up_s]
  · rw [up_f (by decide), up_s]
theorem Zt.take {Q : Pst} {LL : Lls} {S : Gs} {M M' : Mm} (hZ : Zt Q LL S M) {x : Nat} {l : List Nat} (hl : LL 0 = x :: l) {I : Pst} (hV : VM (sI S I) M') (hL : Ln (sI S I) 0 l) (hA : Ag (dL 0) (vi S) I) : Zt (up Q 43 0 (Q 43 0 - 1)) (upL LL 0 l) (sI S I) M' := by
  have h1 : tn (Q 43 0) = l.length + 1 := by rw [hZ.2.2.2, hl]; rfl
  have h10 : tn (Q 43 0) ≤ 10 := (hZ.2.2.1 43 0).2
  have hd := tn_dec (hZ.2.2.1 43 0).1 (by omega) (by omega)
  refine ⟨hV, ?_, WB.up (f := 43) hZ.2.2.1 (sm_of hd.1 (by omega) (by decide)), ?_⟩
  · have s := hZ.2.1.line hZ.2.2.1 hL hA
    have := Sim.qq s hZ.2.2.1 (Q 43 0 - 1) 0 (Q 36 0)
    rw [show up (up Q 43 0 (Q 43 0 - 1)) 36 0 (Q 36 0) = up Q 43 0 (Q 43 0 - 1) from up_same (up Q 43 0 (Q 43 0 - 1)) 36 0] at this
    exact this
  · rw [up_s, upL_s, hd.2, h1]; rfl
/-- a turn begins -/
theorem Zt.turns {Q : Pst} {LL : Lls} {S : Gs} {M M' : Mm} (hZ : Zt (up Q 43 0 (Q 43 0 - 1)) LL S M) (hw : WB Q) (h43 : 1 ≤ tn (Q 43 0)) {x : Nat} (hx : x < nfb Q) (h36 : Q 36 0 = nI x) {o : Option Nat} (ho : o = some (ad S 4 x)) {y : Int32} (hy : y = Q 47 0 + 1) (hV : VM (ui (ui (ur S 11 0 o) 12 0 5) 10 0 y) M') : Zt (p_b141 Q) LL (ui (ui (ur S 11 0 o) 12 0 5) 10 0 y) M' := by
  obtain ⟨f43, f47, f48, f49⟩ := b141_f Q
  have h10 := n10 hw
  refine ⟨hV, hZ.2.1.desk hZ.2.2.1 ((((Sx.refl _ S).ur (by omega) _).ui (by omega) _).ui (by omega) _) (fun f j d => ?_) ?_ ?_, wb_b141 hw h43, ?_⟩
  · rw [up_f (by omega), b141_o Q (by omega)]
  · obtain ⟨ll, d1, d2, d3, d4, d5, d6, d7, d8, d9, d10, d11, d12, d13⟩ := hZ.2.1.1
    have O : ∀ f, ¬ f = 36 ∧ ¬ f = 43 ∧ ¬ f = 47 ∧ ¬ f = 48 ∧ ¬ f = 49 → p_b141 Q f 0 = up Q 43 0 (Q 43 0 - 1) f 0 := fun f h => by rw [b141_o Q h, up_f h.2.1]
    have R : ∀ f, ¬ f = 11 → vr (ui (ui (ur S 11 0 o) 12 0 5) 10 0 y) f 0 = vr S f 0 := fun f h => by rw [vr_ui, vr_ui, vr_ur_f h]
    have I : ∀ f, ¬ f = 12 → ¬ f = 10 → vi (ui (ui (ur S 11 0 o) 12 0 5) 10 0 y) f 0 = vi S f 0 := fun f h h' => by rw [vi_ui_f h', vi_ui_f h, vi_ur]
    refine ⟨ll, (R 0 (by decide)).trans d1, (I 1 (by decide) (by decide)).trans (d2.trans (O 4 (by decide)).symm), (R 2 (by decide)).trans d3, (I 3 (by decide) (by decide)).trans (d4.trans (O 42 (by decide)).symm), (R 4 (by decide)).trans d5, (R 5 (by decide)).trans d6, (R 6 (by decide)).trans d7, (I 7 (by decide) (by decide)).trans (d8.trans (O 46 (by decide)).symm), (I 8 (by decide) (by decide)).trans (d9.trans (O 44 (by decide)).symm), (I 9 (by decide) (by decide)).trans (d10.trans (O 45 (by decide)).symm), ?_, ?_, fun _ => ⟨?_, ?_⟩⟩
    · rw [vi_ui_s, f47]; exact hy
    · rw [vr_ui, vr_ui, vr_ur_s, f48, h36, if_neg (nI_pos (by omega)), tn_nI (by omega)]; exact ho
    · rw [f48, h36, tn_nI (by omega)]; unfold nfb; rw [b141_o Q (by decide)]; exact hx
    · rw [vi_ui_f (by decide), vi_ui_s, f49]; decide
  · intro j hj
    rw [vi_ui_f (by omega), vi_ui_f (by omega), vi_ur, b141_o Q (by omega)]
    have := hZ.2.1.2.2.2.2.2.2 j hj
    rw [up_f (by decide)] at this
    exact this
  · have := hZ.2.2.2
    rw [up_s] at this
    rw [f43]; exact this
def QOK (P : Pst) (LL : Lls) : Prop := ∀ x l, LL 0 = x :: l → P 36 0 = nI x ∧ x < nfb P ∧ ∀ y, y ∈ l → ¬ nI y = nI x
def b2P (P : Pst) : Pst := it_b (ls P (nfb P)) (up P 44 0 (ls P (nfb P))) (nfb P)
def b2L (P : Pst) (LL : Lls) : Lls := it_bL (ls P (nfb P)) (up P 44 0 (ls P (nfb P))) LL (nfb P)
def rnL (P : Pst) (LL : Lls) : Lls := if P 48 0 < 0 then (if P 43 0 = 0 then (if ls P (nfb P) < 0 then LL else upL (b2L P LL) 0 (b2L P LL 0).tail) else upL LL 0 (LL 0).tail) else LL
/-- all that the begin of a turn asks of the state -/
def HtOK (P : Pst) (LL : Lls) : Prop := P 48 0 < 0 → QOK P LL ∧ (P 43 0 = 0 → (∀ j, j < nfb P → P 15 j = 4 → ¬ P 16 j < 0) ∧ (∀ j, j < nfb P → (P 5 j = 1 ↔ ¬ P 15 j = 0)) ∧ (¬ ls P (nfb P) < 0 → (∀ j, j < nfb P → BOK (it_b (ls P (nfb P)) (up P 44 0 (ls P (nfb P))) j) j) ∧ QOK (b2P P) (b2L P LL) ∧ ¬ b2L P LL 0 = []))
set_option maxHeartbeats 1000000 in
set_option maxRecDepth 100000 in
theorem l_turn {P : Pst} {LL : Lls} {S : Gs} {M M0 : Mm} (hZ : Zt P LL S M) {x : Nat} {l : List Nat} (hl : LL 0 = x :: l) (hQ : QOK P LL) {A : Nat → Nat → Nat} {B : Nat → Nat → Bool} (eA : ad S = A) (eB : lv S = B) {o0 : Option Nat} (h0 : o0 = some (ad S 0 0)) {kb nb : Nat} : G m_D_hasTurn ownC M0 (fun r M' => r = some (.int 1) ∧ ∃ S', Zt (p_b141 P) (upL LL 0 l) S' M' ∧ ad S' = A ∧ lv S' = B) 3 kb nb M 35 [some (va_rf o0)] [] := by
  subst h0
  have hV := hZ.1
  obtain ⟨h36, hx, hnd⟩ := hQ x l hl
  have h431 : 1 ≤ tn (P 43 0) := by rw [hZ.2.2.2, hl]; simp
  have hLn : Ln S 0 (x :: l) := by rw [← hl]; exact ln hZ.2.1 (by decide)
  have hl10 : (x :: l).length ≤ 10 := hLn.2.2.2.2.1
  refine g_aload_n d_D_hasTurn_35 rfl ?_
  refine g_aload_n d_D_hasTurn_36 rfl ?_
  refine g_aload_n d_D_hasTurn_37 rfl ?_
  refine v_getr (v := some (ad S 1 0)) (τ := 0) 4 rfl hV (sl_0 hZ.2.1) (by decide) (by decide) fl_D_31 rfl d_D_hasTurn_38 rfl (sd_4 hZ.2.1) ?_
  refine g_callV (k1 := kb) (n1 := nb) [] cw_D_190 cv_L_takeFirst d_D_hasTurn_41 rfl (hV.kdo (sl_1 hZ.2.1 (by decide)) (by decide)) rfl rfl ⟨by simp [cat_rf, cat_int], by simp⟩ (by first | decide | omega) (by first | decide | omega) (by first | decide | omega) (fun _ _ h => h) (v_L_takeFirst hV hLn (by decide)) (fun r_ M h_ hfr_ => ?_)
  obtain ⟨rfl, I1, hV, hL1, hA1⟩ := h_
  rw [lnAt_cons hl10] at hL1 ⊢
  rw [rmF_cons hnd] at hL1
  have hZ1 := hZ.take hl hV hL1 hA1
  refine g_callV (k1 := kb) (n1 := nb) [.int (nI x)] cw_D_94 cv_D_fiberAt d_D_hasTurn_44 rfl (hV.kdo (sl_0 hZ1.2.1) (by decide)) rfl rfl ⟨by simp [cat_rf, cat_int], by simp⟩ (by first | decide | omega) (by first | decide | omega) (by first | decide | omega) (fun _ _ h => h) (s_fiberIn hZ1 hx) (fun r_ M h_ hfr_ => ?_)
  obtain ⟨rfl, hV⟩ := h_
  refine v_putr (τ := 0) 11 rfl hV (sl_0 hZ1.2.1) (by decide) (by decide) fl_D_57 (Or.inr (fun r h => by cases h; rfl)) rfl d_D_hasTurn_47 rfl (fun M hV => ?_)
  refine g_aload_n d_D_hasTurn_50 rfl ?_
  refine g_iconst (v := 5) d_D_hasTurn_51 (by decide) ?_
  refine v_puti (τ := 0) 12 rfl hV (lv_r (sl_0 hZ1.2.1)) (by decide) (by decide) fl_D_61 (Or.inr (fun r h => by cases h; rfl)) rfl d_D_hasTurn_52 (ad_r rfl) (fun M hV => ?_)
  refine g_aload_n d_D_hasTurn_55 rfl ?_
  refine g_dup d_D_hasTurn_56 ?_
  refine v_geti (v := P 47 0) (τ := 0) 10 rfl hV (lv_i (lv_r (sl_0 hZ1.2.1))) (by decide) (by decide) fl_D_54 rfl d_D_hasTurn_57 (ad_i (ad_r rfl)) ((vi_ui_f (by decide) _ _ _ _).trans ((vi_ur _ _ _ _ _ _).trans (sd_10 hZ1.2.1 :))) ?_
  refine g_iconst (v := 1) d_D_hasTurn_60 (by decide) ?_
  refine g_iadd d_D_hasTurn_61 ?_
  refine v_puti (τ := 0) 10 rfl hV (lv_i (lv_r (sl_0 hZ1.2.1))) (by decide) (by decide) fl_D_54 (Or.inr (fun r h => by cases h; rfl)) rfl d_D_hasTurn_62 (ad_i (ad_r rfl)) (fun M hV => ?_)
  refine g_aload_n d_D_hasTurn_65 rfl ?_
  refine v_getr (v := some (ad (sI S I1) 4 x)) (τ := 0) 11 rfl hV (lv_i (lv_i (lv_r (sl_0 hZ1.2.1)))) (by decide) (by decide) fl_D_57 rfl d_D_hasTurn_66 (ad_i (ad_i (ad_r rfl))) ((vr_ui _ _ _ _ _ _).trans ((vr_ui _ _ _ _ _ _).trans (vr_ur_s _ _ _ _))) ?_
  refine g_ifnull 76 d_D_hasTurn_69 (by decide) (fun c_69 => ?_) (fun a_69 c_69 => ?_)
  · exact absurd (Eq.trans (Eq.symm (rfl : some (ad (sI S I1) 4 x) = some _)) c_69) (by simp)
  · skip
    refine g_iconst (v := 1) d_D_hasTurn_72 (by decide) ?_
    refine g_goto 77 d_D_hasTurn_73 (by decide) ?_
    exact g_zreturn d_D_hasTurn_77 rfl (Or.inr rfl) ⟨rfl, ui (ui (ur (sI S I1) 11 0 (some (ad (sI S I1) 4 x))) 12 0 5) 10 0 ((P 47 0) + 1), hZ1.turns hZ.2.2.1 h431 hx h36 rfl rfl hV, eA, eB⟩
set_option maxHeartbeats 1000000 in
set_option maxRecDepth 100000 in
theorem s_D_hasTurn {P : Pst} {LL : Lls} {S : Gs} {M : Mm} (hZ : Zt P LL S M) (hH : HtOK P LL) : Run m_D_hasTurn ownC 3 0 0 [va_rf (some (ad S 0 0))] M (fun r M' => r = some (.int (if rnB P 48 0 < 0 then 0 else 1)) ∧ ∃ S', Zt (rnB P) (rnL P LL) S' M' ∧ ad S' = ad S ∧ lv S' = lv S) := by
  have hV := hZ.1
  refine Run.ofG (by decide) (by simp [cat_int, cat_rf]) (Nat.le_of_ble_eq_true rfl) ?_
  have h10_ := n10 hZ.2.2.1
  by_cases h48 : P 48 0 < 0
  rotate_left
  · skip
    refine g_aload_n d_D_hasTurn_0 rfl ?_
    refine v_getr (v := some (ad S 4 (tn (P 48 0)))) (τ := 0) 11 rfl hV (sl_0 hZ.2.1) (by decide) (by decide) fl_D_57 rfl d_D_hasTurn_1 rfl ((sd_11 hZ.2.1).trans (if_neg h48)) ?_
    refine g_ifnull 9 d_D_hasTurn_4 (by decide) (fun c_4 => ?_) (fun a_4 c_4 => ?_)
    · exact absurd (Eq.trans (Eq.symm (rfl : some (ad S 4 (tn (P 48 0))) = some _)) c_4) (by simp)
    · skip
      refine g_iconst (v := 1) d_D_hasTurn_7 (by decide) ?_
      exact g_zreturn d_D_hasTurn_8 rfl (Or.inr rfl) ⟨by unfold rnB; rw [if_neg h48, if_neg h48], S, by unfold rnB rnL; rw [if_neg h48, if_neg h48]; exact ⟨hV, hZ.2⟩, rfl, rfl⟩
  obtain ⟨hQ, hC⟩ := hH h48
  have e43 : P 43 0 = 0 ↔ LL 0 = [] := by
    have e := hZ.2.2.2
    constructor
    · intro q; rw [q] at e; exact List.length_eq_zero_iff.mp e.symm
    · intro q; rw [q] at e; rw [(hZ.2.2.1 43 0).1, e]; rfl
  cases hl : LL 0 with
  | cons x l =>
    have n43 : ¬ P 43 0 = 0 := fun q => by rw [e43.mp q] at hl; exact absurd hl (by simp)
    have eb : rnB P = p_b141 P := by unfold rnB p_R_begin; rw [if_pos h48, if_neg n43]
    have ebL : rnL P LL = upL LL 0 l := by unfold rnL; rw [if_pos h48, if_neg n43, hl]; rfl
    have e48 : ¬ p_b141 P 48 0 < 0 := by rw [(b141_f P).2.2.1, (hQ x l hl).1]; exact nI_pos (by have := (hQ x l hl).2.1; omega)
    have hs0 : vi S 65 0 = nI (l.length + 1) := by have := (ln hZ.2.1 (t := 0) (by decide)).2.2.2.1; rw [hl] at this; exact this
    have hln10 : (LL 0).length ≤ 10 := (ln hZ.2.1 (t := 0) (by decide)).2.2.2.2.1
    rw [hl] at hln10
    have hne : ¬ nI (l.length + 1) = 0 := fun q => by have := congrArg tn q; rw [tn_nI (by simp at hln10; omega)] at this; exact absurd this (by simp [tn_0])
    refine g_aload_n d_D_hasTurn_0 rfl ?_
    refine v_getr (v := none) (τ := 0) 11 rfl hV (sl_0 hZ.2.1) (by decide) (by decide) fl_D_57 rfl d_D_hasTurn_1 rfl ((sd_11 hZ.2.1).trans (if_pos h48)) ?_
    refine g_ifnull 9 d_D_hasTurn_4 (by decide) (fun c_4 => ?_) (fun a_4 c_4 => ?_)
    · skip
      refine g_aload_n d_D_hasTurn_9 rfl ?_
      refine v_getr (v := some (ad S 1 0)) (τ := 0) 4 rfl hV (sl_0 hZ.2.1) (by decide) (by decide) fl_D_31 rfl d_D_hasTurn_10 rfl (sd_4 hZ.2.1) ?_
      refine v_geti (v := nI (l.length + 1)) (τ := 0) 65 rfl hV (sl_1 hZ.2.1 (by decide)) (by decide) (by decide) fl_D_148 rfl d_D_hasTurn_13 rfl hs0 ?_
      refine g_if_ne 23 d_D_hasTurn_16 (by decide) (fun c_16 => ?_) (fun c_16 => ?_)
      · skip
        refine g_aload_n d_D_hasTurn_23 rfl ?_
        refine v_getr (v := some (ad S 1 0)) (τ := 0) 4 rfl hV (sl_0 hZ.2.1) (by decide) (by decide) fl_D_31 rfl d_D_hasTurn_24 rfl (sd_4 hZ.2.1) ?_
        refine v_geti (v := nI (l.length + 1)) (τ := 0) 65 rfl hV (sl_1 hZ.2.1 (by decide)) (by decide) (by decide) fl_D_148 rfl d_D_hasTurn_27 rfl hs0 ?_
        refine g_if_ne 35 d_D_hasTurn_30 (by decide) (fun c_30 => ?_) (fun c_30 => ?_)
        · skip
          rw [eb, ebL, if_neg e48]
          exact l_turn ⟨hV, hZ.2⟩ hl hQ rfl rfl rfl
        · exact absurd (show nI (l.length + 1) = 0 from c_30) hne
      · exact absurd (show nI (l.length + 1) = 0 from c_16) hne
    · exact absurd c_4 (by simp)
  | nil =>
    have n43 := e43.mpr hl
    obtain ⟨c1, c2, c3⟩ := hC n43
    have hs0 : vi S 65 0 = 0 := by have := (ln hZ.2.1 (t := 0) (by decide)).2.2.2.1; rw [hl] at this; exact this
    by_cases hls : ls P (nfb P) < 0
    · skip
      refine g_aload_n d_D_hasTurn_0 rfl ?_
      refine v_getr (v := none) (τ := 0) 11 rfl hV (sl_0 hZ.2.1) (by decide) (by decide) fl_D_57 rfl d_D_hasTurn_1 rfl ((sd_11 hZ.2.1).trans (if_pos h48)) ?_
      refine g_ifnull 9 d_D_hasTurn_4 (by decide) (fun c_4 => ?_) (fun a_4 c_4 => ?_)
      · skip
        refine g_aload_n d_D_hasTurn_9 rfl ?_
        refine v_getr (v := some (ad S 1 0)) (τ := 0) 4 rfl hV (sl_0 hZ.2.1) (by decide) (by decide) fl_D_31 rfl d_D_hasTurn_10 rfl (sd_4 hZ.2.1) ?_
        refine v_geti (v := 0) (τ := 0) 65 rfl hV (sl_1 hZ.2.1 (by decide)) (by decide) (by decide) fl_D_148 rfl d_D_hasTurn_13 rfl hs0 ?_
        refine g_if_ne 23 d_D_hasTurn_16 (by decide) (fun c_16 => ?_) (fun c_16 => ?_)
        · exact absurd c_16 (by decide)
        · skip
          refine g_aload_n d_D_hasTurn_19 rfl ?_
          refine g_callV (k1 := 0) (n1 := 0) [] cw_D_187 cv_D_wakeSleepers d_D_hasTurn_20 rfl (hV.kdo (sl_0 hZ.2.1) (by decide)) rfl rfl ⟨by simp, by simp⟩ (by first | decide | omega) (by first | decide | omega) (by first | decide | omega) (fun _ _ h => h) (s_D_wakeSleepers ⟨hV, hZ.2⟩ c1 c2 (fun h => (c3 h).1)) (fun r_ M h_ hfr_ => ?_)
          obtain ⟨rfl, S5, hZ5, ha5, hb5⟩ := h_
          rw [if_pos hls, if_pos hls] at hZ5
          have hk5 : Kp P S S5 := Kp.of ha5 hb5
          have hV := hZ5.1
          have hs5 : vi S5 65 0 = 0 := by have := (ln hZ5.2.1 (t := 0) (by decide)).2.2.2.1; rw [hl] at this; exact this
          refine g_aload_n d_D_hasTurn_23 rfl ?_
          refine v_getr (v := some (ad S5 1 0)) (τ := 0) 4 rfl hV (sl_0 hZ5.2.1) (by decide) (by decide) fl_D_31 rfl d_D_hasTurn_24 (ad_k rfl (hk5.1 0 0 (by decide) (by decide) (sl_0 hZ.2.1))) (sd_4 hZ5.2.1) ?_
          refine v_geti (v := 0) (τ := 0) 65 rfl hV (sl_1 hZ5.2.1 (by decide)) (by decide) (by decide) fl_D_148 rfl d_D_hasTurn_27 rfl hs5 ?_
          refine g_if_ne 35 d_D_hasTurn_30 (by decide) (fun c_30 => ?_) (fun c_30 => ?_)
          · exact absurd c_30 (by decide)
          · skip
            refine g_iconst (v := 0) d_D_hasTurn_33 (by decide) ?_
            have eb : rnB P = P := by unfold rnB p_R_begin; rw [if_pos h48, if_pos n43]; exact if_neg (fun q => absurd hls (Int32.not_lt.mpr q))
            have ebL : rnL P LL = LL := by unfold rnL; rw [if_pos h48, if_pos n43, if_pos hls]
            exact g_zreturn d_D_hasTurn_34 rfl (Or.inl rfl) ⟨by rw [eb, if_pos h48], S5, by rw [eb, ebL]; exact ⟨hV, hZ5.2⟩, ha5, hb5⟩
      · exact absurd c_4 (by simp)
    obtain ⟨d1, d2, d3⟩ := c3 hls
    cases hl2 : b2L P LL 0 with
    | nil => exact absurd hl2 d3
    | cons x l =>
      have eb : rnB P = p_b141 (b2P P) := by unfold rnB p_R_begin; rw [if_pos h48, if_pos n43]; exact if_pos (Int32.not_lt.mp hls)
      have ebL : rnL P LL = upL (b2L P LL) 0 l := by unfold rnL; rw [if_pos h48, if_pos n43, if_neg hls, hl2]; rfl
      have en2 : nfb (b2P P) = nfb P := nfb_b _ _ _
      have e48 : ¬ p_b141 (b2P P) 48 0 < 0 := by rw [(b141_f (b2P P)).2.2.1, (d2 x l hl2).1]; exact nI_pos (by have := (d2 x l hl2).2.1; omega)
      refine g_aload_n d_D_hasTurn_0 rfl ?_
      refine v_getr (v := none) (τ := 0) 11 rfl hV (sl_0 hZ.2.1) (by decide) (by decide) fl_D_57 rfl d_D_hasTurn_1 rfl ((sd_11 hZ.2.1).trans (if_pos h48)) ?_
      refine g_ifnull 9 d_D_hasTurn_4 (by decide) (fun c_4 => ?_) (fun a_4 c_4 => ?_)
      · skip
        refine g_aload_n d_D_hasTurn_9 rfl ?_
        refine v_getr (v := some (ad S 1 0)) (τ := 0) 4 rfl hV (sl_0 hZ.2.1) (by decide) (by decide) fl_D_31 rfl d_D_hasTurn_10 rfl (sd_4 hZ.2.1) ?_
        refine v_geti (v := 0) (τ := 0) 65 rfl hV (sl_1 hZ.2.1 (by decide)) (by decide) (by decide) fl_D_148 rfl d_D_hasTurn_13 rfl hs0 ?_
        refine g_if_ne 23 d_D_hasTurn_16 (by decide) (fun c_16 => ?_) (fun c_16 => ?_)
        · exact absurd c_16 (by decide)
        · skip
          refine g_aload_n d_D_hasTurn_19 rfl ?_
          refine g_callV (k1 := 0) (n1 := 0) [] cw_D_187 cv_D_wakeSleepers d_D_hasTurn_20 rfl (hV.kdo (sl_0 hZ.2.1) (by decide)) rfl rfl ⟨by simp, by simp⟩ (by first | decide | omega) (by first | decide | omega) (by first | decide | omega) (fun _ _ h => h) (s_D_wakeSleepers ⟨hV, hZ.2⟩ c1 c2 (fun h => (c3 h).1)) (fun r_ M h_ hfr_ => ?_)
          obtain ⟨rfl, S5, hZ5, ha5, hb5⟩ := h_
          rw [if_neg hls, if_neg hls] at hZ5
          have hk5 : Kp P S S5 := Kp.of ha5 hb5
          have hV := hZ5.1
          have hs5 : vi S5 65 0 = nI (l.length + 1) := by have := (ln hZ5.2.1 (t := 0) (by decide)).2.2.2.1; rw [show it_bL (ls P (nfb P)) (up P 44 0 (ls P (nfb P))) LL (nfb P) 0 = x :: l from hl2] at this; exact this
          have hl5 : (x :: l).length ≤ 10 := by have := (ln hZ5.2.1 (t := 0) (by decide)).2.2.2.2.1; rw [show it_bL (ls P (nfb P)) (up P 44 0 (ls P (nfb P))) LL (nfb P) 0 = x :: l from hl2] at this; exact this
          have hne : ¬ nI (l.length + 1) = 0 := fun q => by have := congrArg tn q; rw [tn_nI (by simp at hl5; omega)] at this; exact absurd this (by simp [tn_0])
          refine g_aload_n d_D_hasTurn_23 rfl ?_
          refine v_getr (v := some (ad S5 1 0)) (τ := 0) 4 rfl hV (sl_0 hZ5.2.1) (by decide) (by decide) fl_D_31 rfl d_D_hasTurn_24 (ad_k rfl (hk5.1 0 0 (by decide) (by decide) (sl_0 hZ.2.1))) (sd_4 hZ5.2.1) ?_
          refine v_geti (v := nI (l.length + 1)) (τ := 0) 65 rfl hV (sl_1 hZ5.2.1 (by decide)) (by decide) (by decide) fl_D_148 rfl d_D_hasTurn_27 rfl hs5 ?_
          refine g_if_ne 35 d_D_hasTurn_30 (by decide) (fun c_30 => ?_) (fun c_30 => ?_)
          · skip
            rw [eb, ebL, if_neg e48]
            exact l_turn (P := b2P P) (LL := b2L P LL) ⟨hV, hZ5.2⟩ hl2 d2 ha5 hb5 (by rw [ha5])
          · exact absurd (show nI (l.length + 1) = 0 from c_30) hne
      · exact absurd c_4 (by simp)
