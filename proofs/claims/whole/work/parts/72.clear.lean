/-! clearing all (by program: wip/tools/gen_s29.py) -/
def plS (S : Gs) (n : Nat) : Gs := ui (ui (ui (ui (ui (ui S 128 n 0) 129 n 0) 130 n 0) 131 n 1) 65 (1 + n) 0) 65 (5 + n) 0
def clS (S : Gs) : Nat → Gs
  | 0 => S
  | j + 1 => plS (clS S j) j
theorem plS_vi (S : Gs) (n f t : Nat) : vi (plS S n) f t = if f = 65 ∧ t = 5 + n then 0 else if f = 65 ∧ t = 1 + n then 0 else if f = 131 ∧ t = n then 1 else if f = 130 ∧ t = n then 0 else if f = 129 ∧ t = n then 0 else if f = 128 ∧ t = n then 0 else vi S f t := rfl
theorem clS_ad (S : Gs) : ∀ j, ad (clS S j) = ad S ∧ lv (clS S j) = lv S ∧ vr (clS S j) = vr S ∧ kc (clS S j) = kc S ∧ kl (clS S j) = kl S
  | 0 => ⟨rfl, rfl, rfl, rfl, rfl⟩
  | j + 1 => clS_ad S j
theorem clS_o (S : Gs) : ∀ (j : Nat) {f t : Nat}, ¬ (128 ≤ f ∧ f ≤ 131) → ¬ (f = 65 ∧ 1 ≤ t) → vi (clS S j) f t = vi S f t
  | 0, _, _, _, _ => rfl
  | j + 1, f, t, h, h2 => by
    show vi (plS (clS S j) j) f t = _
    rw [plS_vi, if_neg (by omega), if_neg (by omega), if_neg (by omega), if_neg (by omega), if_neg (by omega), if_neg (by omega), clS_o S j h h2]
theorem clS_f (S : Gs) : ∀ (j : Nat), j ≤ 4 → ∀ n, n < j → vi (clS S j) 128 n = 0 ∧ vi (clS S j) 129 n = 0 ∧ vi (clS S j) 130 n = 0 ∧ vi (clS S j) 131 n = 1 ∧ vi (clS S j) 65 (1 + n) = 0 ∧ vi (clS S j) 65 (5 + n) = 0
  | 0, _, n, h => absurd h (Nat.not_lt_zero _)
  | j + 1, hj, n, h => by
    have e : ∀ f t, vi (clS S (j + 1)) f t = vi (plS (clS S j) j) f t := fun _ _ => rfl
    rw [e, e, e, e, e, e, plS_vi, plS_vi, plS_vi, plS_vi, plS_vi, plS_vi]
    by_cases q : n = j
    · subst q
      simp
    · obtain ⟨a, b, c, d, e1, e2⟩ := clS_f S j (by omega) n (by omega)
      refine ⟨?_, ?_, ?_, ?_, ?_, ?_⟩
      · rw [if_neg (by omega), if_neg (by omega), if_neg (by omega), if_neg (by omega), if_neg (by omega), if_neg (by omega)]; exact a
      · rw [if_neg (by omega), if_neg (by omega), if_neg (by omega), if_neg (by omega), if_neg (by omega), if_neg (by omega)]; exact b
      · rw [if_neg (by omega), if_neg (by omega), if_neg (by omega), if_neg (by omega), if_neg (by omega), if_neg (by omega)]; exact c
      · rw [if_neg (by omega), if_neg (by omega), if_neg (by omega), if_neg (by omega), if_neg (by omega), if_neg (by omega)]; exact d
      · rw [if_neg (by omega), if_neg (by omega), if_neg (by omega), if_neg (by omega), if_neg (by omega), if_neg (by omega)]; exact e1
      · rw [if_neg (by omega), if_neg (by omega), if_neg (by omega), if_neg (by omega), if_neg (by omega), if_neg (by omega)]; exact e2
def stP (P : Pst) : Pst := it_start (up (up (up (up (up (up (up (up P 51 0 1) 42 0 0) 43 0 0) 44 0 0) 45 0 0) 46 0 0) 47 0 0) 48 0 (-1)) 4
theorem it_start_o (P : Pst) : ∀ (j : Nat) {f t : Nat}, ¬ (f = 37 ∨ f = 38 ∨ f = 39 ∨ f = 41) → it_start P j f t = P f t
  | 0, _, _, _ => rfl
  | j + 1, f, t, h => by
    show up (up (up (up (it_start P j) 37 j 0) 38 j 0) 41 j 0) 39 j 1 f t = _
    rw [up_f (by omega), up_f (by omega), up_f (by omega), up_f (by omega), it_start_o P j h]
theorem it_start_f (P : Pst) : ∀ (j n : Nat), n < j → it_start P j 37 n = 0 ∧ it_start P j 38 n = 0 ∧ it_start P j 41 n = 0 ∧ it_start P j 39 n = 1
  | 0, n, h => absurd h (Nat.not_lt_zero _)
  | j + 1, n, h => by
    have e : ∀ f, it_start P (j + 1) f n = up (up (up (up (it_start P j) 37 j 0) 38 j 0) 41 j 0) 39 j 1 f n := fun _ => rfl
    rw [e, e, e, e]
    by_cases q : n = j
    · subst q; simp [up_e]
    · obtain ⟨a, b, c, d⟩ := it_start_f P j n (by omega)
      simp [up_e, q, a, b, c, d]
theorem stP_o (P : Pst) {f t : Nat} (h : f < 37 ∨ f = 40) : stP P f t = P f t := by
  unfold stP
  rw [it_start_o _ _ (by omega), up_f (by omega), up_f (by omega), up_f (by omega), up_f (by omega), up_f (by omega), up_f (by omega), up_f (by omega), up_f (by omega)]
theorem stP_f (P : Pst) : stP P 42 0 = 0 ∧ stP P 43 0 = 0 ∧ stP P 44 0 = 0 ∧ stP P 45 0 = 0 ∧ stP P 46 0 = 0 ∧ stP P 47 0 = 0 ∧ stP P 48 0 = -1 ∧ stP P 51 0 = 1 := by
  unfold stP
  refine ⟨?_, ?_, ?_, ?_, ?_, ?_, ?_, ?_⟩ <;> rw [it_start_o _ _ (by omega)] <;> simp [up_e]
theorem wb_stP {P : Pst} (hw : WB P) : WB (stP P) := by
  have h0 : WB (up (up (up (up (up (up (up (up P 51 0 1) 42 0 0) 43 0 0) 44 0 0) 45 0 0) 46 0 0) 47 0 0) 48 0 (-1)) := WB.up (f := 48) (WB.up (f := 47) (WB.up (f := 46) (WB.up (f := 45) (WB.up (f := 44) (WB.up (f := 43) (WB.up (f := 42) (WB.up (f := 51) hw (Or.inr rfl)) (sm_nI (n := 0) (by decide) (by decide))) (sm_nI (n := 0) (by decide) (by decide))) trivial) trivial) trivial) trivial) (Or.inl rfl)
  have hi : ∀ j, WB (it_start (up (up (up (up (up (up (up (up P 51 0 1) 42 0 0) 43 0 0) 44 0 0) 45 0 0) 46 0 0) 47 0 0) 48 0 (-1)) j) := fun j => by
    induction j with
    | zero => exact h0
    | succ j ih => exact WB.up (f := 39) (WB.up (f := 41) (WB.up (f := 38) (WB.up (f := 37) ih trivial) trivial) (Or.inl rfl)) trivial
  exact hi 4
def clL (LL : Lls) : Lls := fun t => if t < 9 then [] else LL t
def alS (S : Gs) : Gs := ur (ui (ui (ui (ui (ui (ui (clS S 4) 3 0 0) 65 0 0) 7 0 0) 8 0 0) 9 0 0) 10 0 0) 11 0 none
theorem alS_ad (S : Gs) : ad (alS S) = ad S ∧ lv (alS S) = lv S := by
  have h := clS_ad S 4
  unfold alS
  rw [ad_ur_e, ad_ui_e, ad_ui_e, ad_ui_e, ad_ui_e, ad_ui_e, ad_ui_e, lv_ur_e, lv_ui_e, lv_ui_e, lv_ui_e, lv_ui_e, lv_ui_e, lv_ui_e]
  exact ⟨h.1, h.2.1⟩
theorem alS_vr (S : Gs) {f t : Nat} (h : ¬ f = 11) : vr (alS S) f t = vr S f t := by
  unfold alS
  rw [vr_ur_f h, vr_ui, vr_ui, vr_ui, vr_ui, vr_ui, vr_ui, (clS_ad S 4).2.2.1]
theorem alS_11 (S : Gs) : vr (alS S) 11 0 = none := by unfold alS; rw [vr_ur_s]
theorem alS_vi (S : Gs) {f t : Nat} (h : ¬ (t = 0 ∧ (f = 3 ∨ f = 65 ∨ f = 7 ∨ f = 8 ∨ f = 9 ∨ f = 10))) : vi (alS S) f t = vi (clS S 4) f t := by
  unfold alS
  simp only [vi_ur, vi_ui_e]
  rw [if_neg (by omega), if_neg (by omega), if_neg (by omega), if_neg (by omega), if_neg (by omega), if_neg (by omega)]
theorem alS_0 (S : Gs) : vi (alS S) 3 0 = 0 ∧ vi (alS S) 65 0 = 0 ∧ vi (alS S) 7 0 = 0 ∧ vi (alS S) 8 0 = 0 ∧ vi (alS S) 9 0 = 0 ∧ vi (alS S) 10 0 = 0 := by
  unfold alS
  generalize clS S 4 = U
  refine ⟨?_, ?_, ?_, ?_, ?_, ?_⟩ <;> simp [vi_ur, vi_ui_e]
theorem Zt.clear {P : Pst} {LL : Lls} {S : Gs} {M M' : Mm} (hZ : Zt P LL S M) (hV : VM (alS S) M') : Zt (stP P) (clL LL) (alS S) M' := by
  have hw := hZ.2.2.1
  obtain ⟨sd, sp, sl, se, sf, sq, spr⟩ := hZ.2.1
  obtain ⟨f42, f43, f44, f45, f46, f47, f48, f51⟩ := stP_f P
  have A := (alS_ad S).1
  have B := (alS_ad S).2
  have R : ∀ f t, ¬ f = 11 → vr (alS S) f t = vr S f t := fun f t h => alS_vr S h
  have R11 := alS_11 S
  have I : ∀ f t, ¬ (t = 0 ∧ (f = 3 ∨ f = 65 ∨ f = 7 ∨ f = 8 ∨ f = 9 ∨ f = 10)) → vi (alS S) f t = vi (clS S 4) f t := fun f t h => alS_vi S h
  have I0 := alS_0 S
  obtain ⟨i3, i65, i7, i8, i9, i10⟩ := I0
  have hcf := clS_f S 4 (Nat.le_refl _)
  have hco : ∀ f t, ¬ (128 ≤ f ∧ f ≤ 131) → ¬ (f = 65 ∧ 1 ≤ t) → vi (clS S 4) f t = vi S f t := fun f t h h2 => clS_o S 4 h h2
  have hso : ∀ f t, f < 37 ∨ f = 40 → stP P f t = P f t := fun f t h => stP_o P h
  have hsf : ∀ n, n < 4 → stP P 37 n = 0 ∧ stP P 38 n = 0 ∧ stP P 41 n = 0 ∧ stP P 39 n = 1 := fun n hn => it_start_f _ 4 n hn
  have hwb := wb_stP hw
  generalize alS S = T at *
  generalize clS S 4 = U at *
  generalize stP P = X at *
  have en : nfb X = 0 := by unfold nfb; rw [f42]; rfl
  have ene : nef X = nef P := by unfold nef; rw [hso 4 0 (by omega)]
  refine ⟨hV, ⟨?_, ?_, ?_, ?_, ?_, ?_, ?_⟩, hwb, by rw [f43]; rfl⟩
  · obtain ⟨⟨l1, l2, l3, l4, l5⟩, d1, d2, d3, d4, d5, d6, d7, d8, d9, d10, d11, d12, d13⟩ := sd
    unfold SD
    rw [A, B, R 0 0 (by decide), I 1 0 (by omega), hco 1 0 (by omega) (by omega), R 2 0 (by decide), i3, R 4 0 (by decide), R 5 0 (by decide), R 6 0 (by decide), i7, i8, i9, i10, R11, f42, f44, f45, f46, f47, f48, hso 4 0 (by omega)]
    exact ⟨⟨l1, l2, l3, l4, l5⟩, d1, d2, d3, rfl, d5, d6, d7, rfl, rfl, rfl, rfl, by rw [if_pos (by decide)], fun q => absurd (by decide) q⟩
  · intro n hn
    obtain ⟨b1, b2, b3, b4, b5⟩ := sp n hn
    obtain ⟨c1, c2, c3, c4, c5, c6⟩ := hcf n hn
    obtain ⟨s1, s2, s3, s4⟩ := hsf n hn
    rw [A, B, R _ _ (by omega), R _ _ (by decide), R _ _ (by decide), I 128 n (by omega), I 129 n (by omega), I 130 n (by omega), I 131 n (by omega), c1, c2, c3, c4]
    exact ⟨b1, b2, b3, b4, fun _ => ⟨s1.symm, s3.symm, s2.symm, s4.symm⟩⟩
  · intro t ht
    obtain ⟨b1, b2, b3, b4, b5, b6⟩ := sl t ht
    have e : clL LL t = [] := if_pos ht
    rw [e]
    unfold Ln
    rw [A, B, R _ _ (by decide)]
    refine ⟨b1, b2, b3, ?_, by simp, fun j hj => absurd hj (by simp)⟩
    by_cases h0 : t = 0
    · subst h0; exact i65
    · rw [I 65 t (by omega)]
      by_cases h5 : t < 5
      · have := (hcf (t - 1) (by omega)).2.2.2.2.1
        rw [show 1 + (t - 1) = t by omega] at this; exact this
      · have := (hcf (t - 5) (by omega)).2.2.2.2.2
        rw [show 5 + (t - 5) = t by omega] at this; exact this
  · intro e'
    obtain ⟨b1, b2⟩ := se e'
    rw [ene, A, B]
    refine ⟨b1, fun w => ?_⟩
    have h40 : e' < 40 := by have := b1.mpr w; have h4 : nef P ≤ 40 := (hw 4 0).2; omega
    rw [R _ _ (by omega), R _ _ (by decide), R _ _ (by decide), R _ _ (by decide), I 192 e' (by omega), I 193 e' (by omega), hco 192 e' (by omega) (by omega), hco 193 e' (by omega) (by omega), hso 0 e' (by omega), hso 1 e' (by omega), hso 2 e' (by omega), hso 3 e' (by omega)]
    exact b2 w
  · intro j hj; rw [en] at hj; exact absurd hj (Nat.not_lt_zero _)
  · intro j p hj; rw [en] at hj; exact absurd hj (Nat.not_lt_zero _)
  · intro j hj
    rw [I _ _ (by omega), hco _ _ (by omega) (by omega), hso _ _ (by omega)]
    exact spr j hj
