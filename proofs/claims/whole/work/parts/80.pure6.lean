/-! beginning an effect: the class's way is the reference's -/
theorem moP_01 {P : Pst} (wb : WB P) (i : Nat) : ∀ d, moP P i d = 0 ∨ moP P i d = 1
  | 0 => wb 10 i
  | d + 1 => by
    show (if P 23 (16 * i + d) = 8 then P 31 (16 * i + d) else moP P i d) = 0 ∨ (if P 23 (16 * i + d) = 8 then P 31 (16 * i + d) else moP P i d) = 1
    split
    · exact wb 31 _
    · exact moP_01 wb i d
theorem mkM_01 {P : Pst} (wb : WB P) (i e : Nat) : mkM P i e = 0 ∨ mkM P i e = 1 := by
  unfold mkM
  split
  · exact Or.inr rfl
  split
  · exact moP_01 wb i _
  · exact wb 10 i
theorem fr_10 (P : Pst) (i e : Nat) (v : Int32) (y : Nat) : p_R_frame P i e v 10 y = P 10 y := by
  unfold p_R_frame
  simp [up_e]
theorem fr_31 (P : Pst) (i e : Nat) (v : Int32) (y : Nat) : p_R_frame P i e v 31 y = if y = 16 * i + tn (P 22 i) then P 10 i else P 31 y := by
  unfold p_R_frame
  simp [up_e]
theorem fr_x (P : Pst) (i e : Nat) (v : Int32) : up (p_R_frame P i e v) 10 i (P 10 i) = p_R_frame P i e v := by
  have := up_same (p_R_frame P i e v) 10 i
  rw [fr_10] at this
  exact this
/-- a frame, as the reference begins it -/
def frR (P : Pst) (f e : Nat) (v : Int32) : Pst := if P 0 e = 7 ∨ P 0 e = 8 then p_R_does (up (p_R_frame P f e v) 10 f 1) f (P 1 e) v else if P 0 e = 9 then (if nI (asc P f (tn (P 22 f))) - 1 < 0 then p_R_does (p_R_frame P f e v) f (P 1 e) v else p_R_does (up (p_R_frame P f e v) 10 f ((p_R_frame P f e v) 31 ((16 * f) + (asc P f (tn (P 22 f)) - 1)))) f (P 1 e) v) else p_R_does (p_R_frame P f e v) f (P 1 e) v
theorem frR_eq {P : Pst} (wb : WB P) (i e : Nat) (v : Int32) : p_R_does (up (p_R_frame P i e v) 10 i (mkM P i e)) i (P 1 e) v = frR P i e v := by
  unfold frR mkM
  by_cases h1 : P 0 e = 7 ∨ P 0 e = 8
  · rw [if_pos h1, if_pos h1]
  rw [if_neg h1, if_neg h1]
  by_cases h9 : P 0 e = 9
  · rw [if_pos h9, if_pos h9, moP_asc]
    have hle := asc_le P i (tn (P 22 i))
    by_cases ha : asc P i (tn (P 22 i)) = 0
    · rw [if_pos ha, if_pos ((asc_neg wb i).mpr ha), fr_x]
    · rw [if_neg ha, if_neg (fun q => ha ((asc_neg wb i).mp q)), fr_31, if_neg (by omega)]
  · rw [if_neg h9, if_neg h9, fr_x]
