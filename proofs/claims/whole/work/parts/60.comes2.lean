/-! an exit comes to a frame: the reference's step (by program: wip/tools/gen_s17.py) -/
theorem cm_v9 {P : Pst} {f q : Nat} (h14 : P 14 f = 0) (h25 : P 25 q = 9) : p_R_comes P f q = p_R_close (up P 32 q (P 32 q ||| 0)) f q := by
  unfold p_R_comes
  rw [if_pos h14, if_pos h25]
theorem cm_c90 {P : Pst} {f q : Nat} (h14 : ¬ P 14 f = 0) (h25 : P 25 q = 9) (h32 : P 32 q = 0) : p_R_comes P f q = p_R_close (up (p_R_copy P f (10 + q)) 32 q (p_R_copy P f (10 + q) 32 q ||| 1)) f q := by
  unfold p_R_comes
  rw [if_neg h14]
  by_cases h33 : P 33 f = 1
  · rw [if_pos h33]
    by_cases h34 : P 34 (9 * f) = 1
    · rw [if_pos h34, if_pos h25, if_pos h32]
    · rw [if_neg h34, if_pos h25, if_pos h32]
  · rw [if_neg h33, if_pos h25, if_pos h32]
theorem cm_c91 {P : Pst} {f q : Nat} (h14 : ¬ P 14 f = 0) (h25 : P 25 q = 9) (h32 : ¬ P 32 q = 0) : p_R_comes P f q = p_R_close (up (p_R_join P (10 + q) f 4) 32 q (p_R_join P (10 + q) f 4 32 q ||| 1)) f q := by
  unfold p_R_comes
  rw [if_neg h14]
  by_cases h33 : P 33 f = 1
  · rw [if_pos h33]
    by_cases h34 : P 34 (9 * f) = 1
    · rw [if_pos h34, if_pos h25, if_neg h32]
    · rw [if_neg h34, if_pos h25, if_neg h32]
  · rw [if_neg h33, if_pos h25, if_neg h32]
theorem cm_v4 {P : Pst} {f q : Nat} (h14 : P 14 f = 0) (h25 : ¬ P 25 q = 9) (h23 : P 23 q = 4) : p_R_comes P f q = p_R_does (up P 22 f (P 22 f - 1)) f (P 2 (tn (P 24 q))) (P 13 f) := by
  unfold p_R_comes
  rw [if_pos h14, if_neg h25, if_pos h23]
theorem cm_v5 {P : Pst} {f q : Nat} (h14 : P 14 f = 0) (h25 : ¬ P 25 q = 9) (h23 : P 23 q = 5) : p_R_comes P f q = p_R_does (up P 22 f (P 22 f - 1)) f (P 2 (tn (P 24 q))) (P 13 f) := by
  unfold p_R_comes
  rw [if_pos h14, if_neg h25, if_neg (show ¬ P 23 q = 4 by rw [h23]; decide), if_pos h23]
theorem cm_c4 {P : Pst} {f q : Nat} (h14 : ¬ P 14 f = 0) (h25 : ¬ P 25 q = 9) (h23 : P 23 q = 4) : p_R_comes P f q = (up P 22 f (P 22 f - 1)) := by
  unfold p_R_comes
  rw [if_neg h14]
  by_cases h33 : P 33 f = 1
  · rw [if_pos h33]
    by_cases h34 : P 34 (9 * f) = 1
    · rw [if_pos h34, if_neg h25, if_pos h23, if_neg (show ¬ P 23 q = 5 by rw [h23]; decide)]
    · rw [if_neg h34, if_neg h25, if_pos h23, if_neg (show ¬ P 23 q = 5 by rw [h23]; decide)]
  · rw [if_neg h33, if_neg h25, if_pos h23, if_neg (show ¬ P 23 q = 5 by rw [h23]; decide)]
theorem cm_c5 {P : Pst} {f q : Nat} (h14 : ¬ P 14 f = 0) (h25 : ¬ P 25 q = 9) (h23 : P 23 q = 5) : p_R_comes P f q = if P 33 f = 1 ∧ P 34 (9 * f) = 1 then p_R_does (up P 22 f (P 22 f - 1)) f (P 3 (tn (P 24 q))) (P 35 (9 * f)) else (up P 22 f (P 22 f - 1)) := by
  unfold p_R_comes
  rw [if_neg h14]
  by_cases h33 : P 33 f = 1
  · by_cases h34 : P 34 (9 * f) = 1
    · rw [if_pos h33, if_pos h34, if_neg h25, if_neg (show ¬ P 23 q = 4 by rw [h23]; decide), if_pos h23, if_pos ⟨h33, h34⟩]
    · rw [if_pos h33, if_neg h34, if_neg h25, if_neg (show ¬ P 23 q = 4 by rw [h23]; decide), if_pos h23, if_neg (fun w => h34 w.2)]
  · rw [if_neg h33, if_neg h25, if_neg (show ¬ P 23 q = 4 by rw [h23]; decide), if_pos h23, if_neg (fun w => h33 w.1)]
theorem cm_v6 {P : Pst} {f q : Nat} (h14 : P 14 f = 0) (h25 : ¬ P 25 q = 9) (h23 : P 23 q = 6) : p_R_comes P f q = p_R_closes (up (up (up P 29 (4 * q) (P 2 (tn (P 24 q)))) 30 (4 * q) (P 26 q)) 28 q 1) f q := by
  unfold p_R_comes
  rw [if_pos h14, if_neg h25, if_neg (show ¬ P 23 q = 4 by rw [h23]; decide), if_neg (show ¬ P 23 q = 5 by rw [h23]; decide), if_pos h23]
theorem cm_c6 {P : Pst} {f q : Nat} (h14 : ¬ P 14 f = 0) (h25 : ¬ P 25 q = 9) (h23 : P 23 q = 6) : p_R_comes P f q = p_R_closes (up (up (up P 29 (4 * q) (P 2 (tn (P 24 q)))) 30 (4 * q) (P 26 q)) 28 q 1) f q := by
  unfold p_R_comes
  rw [if_neg h14]
  by_cases h33 : P 33 f = 1
  · rw [if_pos h33]
    by_cases h34 : P 34 (9 * f) = 1
    · rw [if_pos h34, if_neg h25, if_neg (show ¬ P 23 q = 4 by rw [h23]; decide), if_neg (show ¬ P 23 q = 5 by rw [h23]; decide), if_pos h23]
    · rw [if_neg h34, if_neg h25, if_neg (show ¬ P 23 q = 4 by rw [h23]; decide), if_neg (show ¬ P 23 q = 5 by rw [h23]; decide), if_pos h23]
  · rw [if_neg h33, if_neg h25, if_neg (show ¬ P 23 q = 4 by rw [h23]; decide), if_neg (show ¬ P 23 q = 5 by rw [h23]; decide), if_pos h23]
theorem cm_v8 {P : Pst} {f q : Nat} (h14 : P 14 f = 0) (h25 : ¬ P 25 q = 9) (h23 : P 23 q = 8) : p_R_comes P f q = up (up P 22 f (P 22 f - 1)) 10 f (P 31 q) := by
  unfold p_R_comes
  rw [if_pos h14, if_neg h25, if_neg (show ¬ P 23 q = 4 by rw [h23]; decide), if_neg (show ¬ P 23 q = 5 by rw [h23]; decide), if_neg (show ¬ P 23 q = 6 by rw [h23]; decide), if_neg (show ¬ P 23 q = 7 by rw [h23]; decide), if_pos h23]
theorem cm_c8 {P : Pst} {f q : Nat} (h14 : ¬ P 14 f = 0) (h25 : ¬ P 25 q = 9) (h23 : P 23 q = 8) : p_R_comes P f q = up (up P 22 f (P 22 f - 1)) 10 f (P 31 q) := by
  unfold p_R_comes
  rw [if_neg h14]
  by_cases h33 : P 33 f = 1
  · rw [if_pos h33]
    by_cases h34 : P 34 (9 * f) = 1
    · rw [if_pos h34, if_neg h25, if_neg (show ¬ P 23 q = 4 by rw [h23]; decide), if_neg (show ¬ P 23 q = 5 by rw [h23]; decide), if_neg (show ¬ P 23 q = 6 by rw [h23]; decide), if_neg (show ¬ P 23 q = 7 by rw [h23]; decide), if_pos h23]
    · rw [if_neg h34, if_neg h25, if_neg (show ¬ P 23 q = 4 by rw [h23]; decide), if_neg (show ¬ P 23 q = 5 by rw [h23]; decide), if_neg (show ¬ P 23 q = 6 by rw [h23]; decide), if_neg (show ¬ P 23 q = 7 by rw [h23]; decide), if_pos h23]
  · rw [if_neg h33, if_neg h25, if_neg (show ¬ P 23 q = 4 by rw [h23]; decide), if_neg (show ¬ P 23 q = 5 by rw [h23]; decide), if_neg (show ¬ P 23 q = 6 by rw [h23]; decide), if_neg (show ¬ P 23 q = 7 by rw [h23]; decide), if_pos h23]
theorem cm_v9k {P : Pst} {f q : Nat} (h14 : P 14 f = 0) (h25 : ¬ P 25 q = 9) (h23 : P 23 q = 9) : p_R_comes P f q = up (up P 22 f (P 22 f - 1)) 10 f (P 31 q) := by
  unfold p_R_comes
  rw [if_pos h14, if_neg h25, if_neg (show ¬ P 23 q = 4 by rw [h23]; decide), if_neg (show ¬ P 23 q = 5 by rw [h23]; decide), if_neg (show ¬ P 23 q = 6 by rw [h23]; decide), if_neg (show ¬ P 23 q = 7 by rw [h23]; decide), if_neg (show ¬ P 23 q = 8 by rw [h23]; decide), if_pos h23]
theorem cm_c9k {P : Pst} {f q : Nat} (h14 : ¬ P 14 f = 0) (h25 : ¬ P 25 q = 9) (h23 : P 23 q = 9) : p_R_comes P f q = up (up P 22 f (P 22 f - 1)) 10 f (P 31 q) := by
  unfold p_R_comes
  rw [if_neg h14]
  by_cases h33 : P 33 f = 1
  · rw [if_pos h33]
    by_cases h34 : P 34 (9 * f) = 1
    · rw [if_pos h34, if_neg h25, if_neg (show ¬ P 23 q = 4 by rw [h23]; decide), if_neg (show ¬ P 23 q = 5 by rw [h23]; decide), if_neg (show ¬ P 23 q = 6 by rw [h23]; decide), if_neg (show ¬ P 23 q = 7 by rw [h23]; decide), if_neg (show ¬ P 23 q = 8 by rw [h23]; decide), if_pos h23]
    · rw [if_neg h34, if_neg h25, if_neg (show ¬ P 23 q = 4 by rw [h23]; decide), if_neg (show ¬ P 23 q = 5 by rw [h23]; decide), if_neg (show ¬ P 23 q = 6 by rw [h23]; decide), if_neg (show ¬ P 23 q = 7 by rw [h23]; decide), if_neg (show ¬ P 23 q = 8 by rw [h23]; decide), if_pos h23]
  · rw [if_neg h33, if_neg h25, if_neg (show ¬ P 23 q = 4 by rw [h23]; decide), if_neg (show ¬ P 23 q = 5 by rw [h23]; decide), if_neg (show ¬ P 23 q = 6 by rw [h23]; decide), if_neg (show ¬ P 23 q = 7 by rw [h23]; decide), if_neg (show ¬ P 23 q = 8 by rw [h23]; decide), if_pos h23]
theorem cm_v10 {P : Pst} {f q : Nat} (h14 : P 14 f = 0) (h25 : ¬ P 25 q = 9) (h23 : P 23 q = 10) : p_R_comes P f q = p_R_closes P f q := by
  unfold p_R_comes
  rw [if_pos h14, if_neg h25, if_neg (show ¬ P 23 q = 4 by rw [h23]; decide), if_neg (show ¬ P 23 q = 5 by rw [h23]; decide), if_neg (show ¬ P 23 q = 6 by rw [h23]; decide), if_neg (show ¬ P 23 q = 7 by rw [h23]; decide), if_neg (show ¬ P 23 q = 8 by rw [h23]; decide), if_neg (show ¬ P 23 q = 9 by rw [h23]; decide)]
theorem cm_c10 {P : Pst} {f q : Nat} (h14 : ¬ P 14 f = 0) (h25 : ¬ P 25 q = 9) (h23 : P 23 q = 10) : p_R_comes P f q = p_R_closes P f q := by
  unfold p_R_comes
  rw [if_neg h14]
  by_cases h33 : P 33 f = 1
  · rw [if_pos h33]
    by_cases h34 : P 34 (9 * f) = 1
    · rw [if_pos h34, if_neg h25, if_neg (show ¬ P 23 q = 4 by rw [h23]; decide), if_neg (show ¬ P 23 q = 5 by rw [h23]; decide), if_neg (show ¬ P 23 q = 6 by rw [h23]; decide), if_neg (show ¬ P 23 q = 7 by rw [h23]; decide), if_neg (show ¬ P 23 q = 8 by rw [h23]; decide), if_neg (show ¬ P 23 q = 9 by rw [h23]; decide)]
    · rw [if_neg h34, if_neg h25, if_neg (show ¬ P 23 q = 4 by rw [h23]; decide), if_neg (show ¬ P 23 q = 5 by rw [h23]; decide), if_neg (show ¬ P 23 q = 6 by rw [h23]; decide), if_neg (show ¬ P 23 q = 7 by rw [h23]; decide), if_neg (show ¬ P 23 q = 8 by rw [h23]; decide), if_neg (show ¬ P 23 q = 9 by rw [h23]; decide)]
  · rw [if_neg h33, if_neg h25, if_neg (show ¬ P 23 q = 4 by rw [h23]; decide), if_neg (show ¬ P 23 q = 5 by rw [h23]; decide), if_neg (show ¬ P 23 q = 6 by rw [h23]; decide), if_neg (show ¬ P 23 q = 7 by rw [h23]; decide), if_neg (show ¬ P 23 q = 8 by rw [h23]; decide), if_neg (show ¬ P 23 q = 9 by rw [h23]; decide)]
theorem cm_v70 {P : Pst} {f q : Nat} (h14 : P 14 f = 0) (h25 : ¬ P 25 q = 9) (h23 : P 23 q = 7) (h0 : P 25 q = 0) : p_R_comes P f q = p_R_does (up (up (up P 10 f (P 31 q)) 25 q 1) 26 q (P 13 f)) f (P 2 (tn (P 24 q))) (P 13 f) := by
  unfold p_R_comes
  rw [if_pos h14, if_neg h25, if_neg (show ¬ P 23 q = 4 by rw [h23]; decide), if_neg (show ¬ P 23 q = 5 by rw [h23]; decide), if_neg (show ¬ P 23 q = 6 by rw [h23]; decide), if_pos h23, if_pos h0]
theorem cm_v71 {P : Pst} {f q : Nat} (h14 : P 14 f = 0) (h25 : ¬ P 25 q = 9) (h23 : P 23 q = 7) (h0 : ¬ P 25 q = 0) : p_R_comes P f q = p_R_closes (up (up (up P 29 (4 * q) (P 3 (tn (P 24 q)))) 30 (4 * q) (P 26 q)) 28 q 1) f q := by
  unfold p_R_comes
  rw [if_pos h14, if_neg h25, if_neg (show ¬ P 23 q = 4 by rw [h23]; decide), if_neg (show ¬ P 23 q = 5 by rw [h23]; decide), if_neg (show ¬ P 23 q = 6 by rw [h23]; decide), if_pos h23, if_neg h0]
theorem cm_c70 {P : Pst} {f q : Nat} (h14 : ¬ P 14 f = 0) (h25 : ¬ P 25 q = 9) (h23 : P 23 q = 7) (h0 : P 25 q = 0) : p_R_comes P f q = up (up P 10 f (P 31 q)) 22 f (P 22 f - 1) := by
  unfold p_R_comes
  rw [if_neg h14]
  by_cases h33 : P 33 f = 1
  · rw [if_pos h33]
    by_cases h34 : P 34 (9 * f) = 1
    · rw [if_pos h34, if_neg h25, if_neg (show ¬ P 23 q = 4 by rw [h23]; decide), if_neg (show ¬ P 23 q = 5 by rw [h23]; decide), if_neg (show ¬ P 23 q = 6 by rw [h23]; decide), if_pos h23, if_pos h0]
    · rw [if_neg h34, if_neg h25, if_neg (show ¬ P 23 q = 4 by rw [h23]; decide), if_neg (show ¬ P 23 q = 5 by rw [h23]; decide), if_neg (show ¬ P 23 q = 6 by rw [h23]; decide), if_pos h23, if_pos h0]
  · rw [if_neg h33, if_neg h25, if_neg (show ¬ P 23 q = 4 by rw [h23]; decide), if_neg (show ¬ P 23 q = 5 by rw [h23]; decide), if_neg (show ¬ P 23 q = 6 by rw [h23]; decide), if_pos h23, if_pos h0]
theorem cm_c71 {P : Pst} {f q : Nat} (h14 : ¬ P 14 f = 0) (h25 : ¬ P 25 q = 9) (h23 : P 23 q = 7) (h0 : ¬ P 25 q = 0) : p_R_comes P f q = p_R_closes (up (up (up P 29 (4 * q) (P 3 (tn (P 24 q)))) 30 (4 * q) (P 26 q)) 28 q 1) f q := by
  unfold p_R_comes
  rw [if_neg h14]
  by_cases h33 : P 33 f = 1
  · rw [if_pos h33]
    by_cases h34 : P 34 (9 * f) = 1
    · rw [if_pos h34, if_neg h25, if_neg (show ¬ P 23 q = 4 by rw [h23]; decide), if_neg (show ¬ P 23 q = 5 by rw [h23]; decide), if_neg (show ¬ P 23 q = 6 by rw [h23]; decide), if_pos h23, if_neg h0]
    · rw [if_neg h34, if_neg h25, if_neg (show ¬ P 23 q = 4 by rw [h23]; decide), if_neg (show ¬ P 23 q = 5 by rw [h23]; decide), if_neg (show ¬ P 23 q = 6 by rw [h23]; decide), if_pos h23, if_neg h0]
  · rw [if_neg h33, if_neg h25, if_neg (show ¬ P 23 q = 4 by rw [h23]; decide), if_neg (show ¬ P 23 q = 5 by rw [h23]; decide), if_neg (show ¬ P 23 q = 6 by rw [h23]; decide), if_pos h23, if_neg h0]
theorem clP_eq {P P1 : Pst} {f q : Nat} (h : ¬ P 25 q = 9 → p_R_comes P f q = p_R_closes P1 f q) : clP P P1 f q = p_R_comes P f q := by
  unfold clP
  by_cases h25 : P 25 q = 9
  · rw [if_pos h25]
    by_cases h14 : P 14 f = 0
    · rw [if_pos h14, cm_v9 h14 h25]
    · rw [if_neg h14]
      by_cases h32 : P 32 q = 0
      · rw [if_pos h32, cm_c90 h14 h25 h32]
      · rw [if_neg h32, cm_c91 h14 h25 h32]
  · rw [if_neg h25, h h25]
theorem sub_ok {P : Pst} (hw : WB P) {k : Nat} {y z : Int32} (hy : sm y 39) : Ag (fun f j => (f = 28 ∧ j = k) ∨ ((f = 29 ∨ f = 30) ∧ j / 4 = k)) P (up (up (up P 29 (4 * k) y) 30 (4 * k) z) 28 k 1) ∧ WB (up (up (up P 29 (4 * k) y) 30 (4 * k) z) 28 k 1) ∧ stk (up (up (up P 29 (4 * k) y) 30 (4 * k) z) 28 k 1) k (tn (up (up (up P 29 (4 * k) y) 30 (4 * k) z) 28 k 1 28 k)) = [(y, z)] := by
  refine ⟨(((Ag.refl _ P).up (by omega) _).up (by omega) _).up (by omega) _, WB.up (f := 28) (WB.up (f := 30) (WB.up (f := 29) hw hy) trivial) (sm_nI (n := 1) (N := 4) (by decide) (by decide)), ?_⟩
  rw [up_s, show tn (1 : Int32) = 1 from rfl]
  show [(up (up (up P 29 (4 * k) y) 30 (4 * k) z) 28 k 1 29 (4 * k + 0), up (up (up P 29 (4 * k) y) 30 (4 * k) z) 28 k 1 30 (4 * k + 0))] = _
  rw [Nat.add_zero, up_f (by decide), up_f (by decide), up_s, up_f (by decide), up_s]
def KdOK (P : Pst) (k : Nat) : Prop := P 23 k = 4 ∨ P 23 k = 5 ∨ P 23 k = 6 ∨ P 23 k = 7 ∨ P 23 k = 8 ∨ P 23 k = 9 ∨ P 23 k = 10
set_option maxHeartbeats 1000000 in
/-- an exit comes to the latest frame -/
theorem s_F_comeTo {P : Pst} {LL : Lls} {S : Gs} {M : Mm} (hZ : Zt P LL S M) {i p : Nat} (hi : i < nfb P) (h5 : P 5 i = 0) (h15 : P 15 i = 0) (hA : ¬ (P 6 i = 1 ∧ P 10 i = 0)) (h11 : P 11 i < 0) (hd : tn (P 22 i) = p + 1) (hF : P 0 (tn (P 24 (16 * i + p))) = P 23 (16 * i + p)) (hkd : KdOK P (16 * i + p)) (h9 : P 25 (16 * i + p) = 9 → P 23 (16 * i + p) = 6 ∨ P 23 (16 * i + p) = 7 ∨ P 23 (16 * i + p) = 10) (hy : P 23 (16 * i + p) = 4 ∨ P 23 (16 * i + p) = 5 ∨ P 23 (16 * i + p) = 6 ∨ P 23 (16 * i + p) = 7 → sm (P 2 (tn (P 24 (16 * i + p)))) 39) (hz : P 23 (16 * i + p) = 5 ∨ P 23 (16 * i + p) = 7 → sm (P 3 (tn (P 24 (16 * i + p)))) 39) : Run m_F_comeTo ownC 4 3 20 [va_rf (some (ad S 4 i)), va_rf (some (ad S 5 (16 * i + p)))] M (fun r M' => r = none ∧ ∃ S', Zt (p_R_comes P i (16 * i + p)) LL S' M' ∧ ad S' = ad S ∧ lv S' = lv S) := by
  have no9 : ¬ P 23 (16 * i + p) = 6 → ¬ P 23 (16 * i + p) = 7 → ¬ P 23 (16 * i + p) = 10 → ¬ P 25 (16 * i + p) = 9 := fun a b c q => by rcases h9 q with w | w | w; exact a w; exact b w; exact c w
  rcases hkd with h | h | h | h | h | h | h
  · have h25 := no9 (by rw [h]; decide) (by rw [h]; decide) (by rw [h]; decide)
    have e : folP (up P 22 i (P 22 i - 1)) i (tn (P 24 (16 * i + p))) = p_R_comes P i (16 * i + p) := by
      unfold folP
      by_cases h14 : P 14 i = 0
      · rw [cm_v4 h14 h25 h]; exact if_pos h14
      · rw [cm_c4 h14 h25 h]; exact (if_neg h14).trans (if_neg (fun w => by have := w.1; exact absurd ((hF.trans h).symm.trans this) (by decide)))
    rw [← e]
    exact (s_F_comeTo_4 hZ hi h5 h15 hA h11 hd hF h (hy (Or.inl h)) (fun q => absurd ((hF.trans h).symm.trans q) (by decide)))
  · have h25 := no9 (by rw [h]; decide) (by rw [h]; decide) (by rw [h]; decide)
    have e : folP (up P 22 i (P 22 i - 1)) i (tn (P 24 (16 * i + p))) = p_R_comes P i (16 * i + p) := by
      unfold folP
      by_cases h14 : P 14 i = 0
      · rw [cm_v5 h14 h25 h]; exact if_pos h14
      · rw [cm_c5 h14 h25 h]
        refine (if_neg h14).trans ?_
        by_cases hfa : P 33 i = 1 ∧ P 34 (9 * i) = 1
        · rw [if_pos hfa]; exact if_pos ⟨hF.trans h, hfa⟩
        · rw [if_neg hfa]; exact if_neg (fun w => hfa w.2)
    rw [← e]
    exact (s_F_comeTo_5 hZ hi h5 h15 hA h11 hd hF h (hy (Or.inr (Or.inl h))) (fun _ => hz (Or.inl h)))
  · have hs := sub_ok hZ.2.2.1 (k := (16 * i + p)) (z := P 26 (16 * i + p)) (hy (Or.inr (Or.inr (Or.inl h))))
    rw [← clP_eq (P1 := (up (up (up P 29 (4 * (16 * i + p)) (P 2 (tn (P 24 (16 * i + p))))) 30 (4 * (16 * i + p)) (P 26 (16 * i + p))) 28 (16 * i + p) 1)) (fun h25 => by
      by_cases h14 : P 14 i = 0
      · exact cm_v6 h14 h25 h
      · exact cm_c6 h14 h25 h)]
    exact (s_F_comeTo_6 hZ hi h5 h15 hA h11 hd hF h (fun h25 => ⟨hs.1, hs.2.1, hs.2.2.trans (by unfold clst; rw [if_neg (fun w => by rcases w with w | w; exact h25 w; rw [h] at w; exact absurd w (by decide)), if_pos h]), fun w => absurd (h.symm.trans w) (by decide)⟩))
  · by_cases h0 : P 25 (16 * i + p) = 0
    · have h25 : ¬ P 25 (16 * i + p) = 9 := by rw [h0]; decide
      by_cases h14 : P 14 i = 0
      · rw [cm_v70 h14 h25 h h0]
        exact (s_F_comeTo_7v hZ hi h5 h15 hA h11 hd hF h h0 h14 (hy (Or.inr (Or.inr (Or.inr h)))))
      · rw [cm_c70 h14 h25 h h0]
        exact (s_F_comeTo_7c hZ hi h5 h15 hA h11 hd hF h h0 h14)
    · have hs := sub_ok hZ.2.2.1 (k := (16 * i + p)) (z := P 26 (16 * i + p)) (hz (Or.inr h))
      rw [← clP_eq (P1 := (up (up (up P 29 (4 * (16 * i + p)) (P 3 (tn (P 24 (16 * i + p))))) 30 (4 * (16 * i + p)) (P 26 (16 * i + p))) 28 (16 * i + p) 1)) (fun h25 => by
        by_cases h14 : P 14 i = 0
        · exact cm_v71 h14 h25 h h0
        · exact cm_c71 h14 h25 h h0)]
      exact (s_F_comeTo_7n hZ hi h5 h15 hA h11 hd hF h h0 (fun h25 => ⟨hs.1, hs.2.1, hs.2.2.trans (by unfold clst; rw [if_neg (fun w => by rcases w with w | w; exact h25 w; rw [h] at w; exact absurd w (by decide)), if_neg (by rw [h]; decide), if_pos h, if_neg h0]), fun _ => h0⟩))
  · have h25 := no9 (by rw [h]; decide) (by rw [h]; decide) (by rw [h]; decide)
    have e : p_R_comes P i (16 * i + p) = up (up P 22 i (P 22 i - 1)) 10 i (P 31 (16 * i + p)) := by
      by_cases h14 : P 14 i = 0
      · exact cm_v8 h14 h25 h
      · exact cm_c8 h14 h25 h
    rw [e]
    exact (s_F_comeTo_8 hZ hi h5 h15 hA h11 hd hF h)
  · have h25 := no9 (by rw [h]; decide) (by rw [h]; decide) (by rw [h]; decide)
    have e : p_R_comes P i (16 * i + p) = up (up P 22 i (P 22 i - 1)) 10 i (P 31 (16 * i + p)) := by
      by_cases h14 : P 14 i = 0
      · exact cm_v9k h14 h25 h
      · exact cm_c9k h14 h25 h
    rw [e]
    exact (s_F_comeTo_9 hZ hi h5 h15 hA h11 hd hF h)
  · rw [← clP_eq (P1 := P) (fun h25 => by
      by_cases h14 : P 14 i = 0
      · exact cm_v10 h14 h25 h
      · exact cm_c10 h14 h25 h)]
    exact (s_F_comeTo_10 hZ hi h5 h15 hA h11 hd hF h (fun h25 => ⟨Ag.refl _ P, hZ.2.2.1, by unfold clst; rw [if_pos (Or.inr h)], fun w => absurd (h.symm.trans w) (by decide)⟩))
