/-! writing an effect down (by program: wip/tools/gen_s28.py) -/
def efP (P : Pst) (k a b c : Int32) : Pst := up (up (up (up (up P 0 (tn (P 4 0)) k) 1 (tn (P 4 0)) a) 2 (tn (P 4 0)) b) 3 (tn (P 4 0)) c) 4 0 (P 4 0 + 1)
def efS (S : Gs) (m q : Nat) (k a : Int32) (x y z o : Option Nat) (n : Int32) : Gs := ui (ur (ur (ur (ur (ui (ui (un S 3 m q) 192 m k) 193 m a) 194 m x) 195 m y) 196 m z) (1408 + m) 0 o) 1 0 n
theorem efP_o (P : Pst) (k a b c : Int32) {f j : Nat} (h : ¬ (f < 4 ∧ j = nef P) ∧ ¬ (f = 4 ∧ j = 0)) : efP P k a b c f j = P f j := by
  have h1 : ¬ (f < 4 ∧ j = tn (P 4 0)) := h.1
  unfold efP
  rw [up_e, if_neg h.2, up_e, if_neg (by omega), up_e, if_neg (by omega), up_e, if_neg (by omega), up_e, if_neg (by omega)]
theorem efP_f (P : Pst) (k a b c : Int32) : efP P k a b c 0 (nef P) = k ∧ efP P k a b c 1 (nef P) = a ∧ efP P k a b c 2 (nef P) = b ∧ efP P k a b c 3 (nef P) = c ∧ efP P k a b c 4 0 = P 4 0 + 1 := by
  refine ⟨?_, ?_, ?_, ?_, ?_⟩ <;> simp [efP, up_e, nef]
theorem efS_ad (S : Gs) (m q : Nat) (k a : Int32) (x y z o : Option Nat) (n : Int32) (c t : Nat) : ad (efS S m q k a x y z o n) c t = if c = 3 ∧ t = m then q else ad S c t := rfl
theorem efS_lv (S : Gs) (m q : Nat) (k a : Int32) (x y z o : Option Nat) (n : Int32) (c t : Nat) : lv (efS S m q k a x y z o n) c t = if c = 3 ∧ t = m then true else lv S c t := rfl
theorem efS_o (S : Gs) (m q : Nat) (k a : Int32) (x y z o : Option Nat) (n : Int32) {f t : Nat} (h : ¬ (192 ≤ f ∧ f < 256 ∧ t = m) ∧ ¬ (t = 0 ∧ (f = 1 ∨ f = 1408 + m))) : vi (efS S m q k a x y z o n) f t = vi S f t ∧ vr (efS S m q k a x y z o n) f t = vr S f t := by
  constructor
  · simp only [efS, vi_ui_e, vi_ur, vi_un]
    rw [if_neg (by omega), if_neg (by omega), if_neg (by omega), if_neg (by omega)]
  · simp only [efS, vr_ui, vr_ur, vr_un]
    rw [if_neg (by omega), if_neg (by omega), if_neg (by omega), if_neg (by omega), if_neg (by omega)]
theorem efS_f (S : Gs) (m q : Nat) (k a : Int32) (x y z o : Option Nat) (n : Int32) : vi (efS S m q k a x y z o n) 192 m = k ∧ vi (efS S m q k a x y z o n) 193 m = a ∧ vr (efS S m q k a x y z o n) 194 m = x ∧ vr (efS S m q k a x y z o n) 195 m = y ∧ vr (efS S m q k a x y z o n) 196 m = z ∧ vr (efS S m q k a x y z o n) (1408 + m) 0 = o ∧ vi (efS S m q k a x y z o n) 1 0 = n := by
  have e : ¬ (1408 + m = 196) ∧ ¬ (1408 + m = 195) ∧ ¬ (1408 + m = 194) ∧ ¬ (194 = 1408 + m) ∧ ¬ (195 = 1408 + m) ∧ ¬ (196 = 1408 + m) := by omega
  obtain ⟨e1, e2, e3, e4, e5, e6⟩ := e
  refine ⟨?_, ?_, ?_, ?_, ?_, ?_, ?_⟩
  all_goals simp [efS, vi_ui_e, vi_ur, vi_un, vr_ui, vr_ur, vr_un, e1, e2, e3, e4, e5, e6]
theorem Zt.effect {P : Pst} {LL : Lls} {S : Gs} {M M' : Mm} (hZ : Zt P LL S M) (hn : nef P < 40) (k a b c : Int32) {q : Nat} {x y z o : Option Nat} {n : Int32} (ho : o = some q) (hnn : n = P 4 0 + 1) (hx : ¬ a_R_needs k ≤ 0 → lv S 3 (tn a) = true ∧ x = some (ad S 3 (tn a))) (hy : ¬ a_R_needs k ≤ 1 → lv S 3 (tn b) = true ∧ y = some (ad S 3 (tn b))) (hz : ¬ a_R_needs k ≤ 2 → lv S 3 (tn c) = true ∧ z = some (ad S 3 (tn c))) (hV : VM (efS S (nef P) q k a x y z o n) M') : Zt (efP P k a b c) LL (efS S (nef P) q k a x y z o n) M' := by
  have hw := hZ.2.2.1
  obtain ⟨sd, sp, sl, se, sf, sq, spr⟩ := hZ.2.1
  obtain ⟨g0, g1, g2, g3, g4⟩ := efP_f P k a b c
  obtain ⟨s1, s2, s3, s4, s5, s6, s7⟩ := efS_f S (nef P) q k a x y z o n
  have hP : ∀ f j, ¬ (f < 4 ∧ j = nef P) ∧ ¬ (f = 4 ∧ j = 0) → efP P k a b c f j = P f j := fun f j h => efP_o P k a b c h
  have hv : ∀ f t, ¬ (192 ≤ f ∧ f < 256 ∧ t = nef P) ∧ ¬ (t = 0 ∧ (f = 1 ∨ f = 1408 + nef P)) → vi (efS S (nef P) q k a x y z o n) f t = vi S f t ∧ vr (efS S (nef P) q k a x y z o n) f t = vr S f t := fun f t h => efS_o S (nef P) q k a x y z o n h
  have hlive : ∀ e, lv S 3 e = true → e < nef P := fun e h => (se e).1.mpr h
  have ha : ∀ c' t, ¬ (c' = 3 ∧ t = nef P) → ad (efS S (nef P) q k a x y z o n) c' t = ad S c' t := fun c' t h => by rw [efS_ad, if_neg h]
  have hl : ∀ c' t, ¬ (c' = 3 ∧ t = nef P) → lv (efS S (nef P) q k a x y z o n) c' t = lv S c' t := fun c' t h => by rw [efS_lv, if_neg h]
  have hgx : Gx S (efS S (nef P) q k a x y z o n) := ⟨fun e he => ⟨by rw [hl 3 e (by have := hlive e he; omega)]; exact he, ha 3 e (by have := hlive e he; omega)⟩, fun _ _ h => h, fun _ _ h => h⟩
  have en : nfb (efP P k a b c) = nfb P := by unfold nfb; rw [hP 42 0 (by omega)]
  have ene : nef (efP P k a b c) = nef P + 1 := by unfold nef; rw [g4]; exact tn_inc (hw 4 0).1 (by have : tn (P 4 0) < 40 := hn; omega)
  have erow : ∀ r, rowL (efP P k a b c) r = rowL P r := fun r => rowL_ne (fun j => hP _ _ (by omega)) (fun j => hP _ _ (by omega)) (fun j => hP _ _ (by omega))
  have hWB : WB (efP P k a b c) := by
    unfold efP
    exact WB.up (f := 4) (WB.up (f := 3) (WB.up (f := 2) (WB.up (f := 1) (WB.up (f := 0) hw trivial) trivial) trivial) trivial) (sm_inc' (hw 4 0).1 hn (by decide))
  refine ⟨hV, ⟨?_, ?_, ?_, ?_, ?_, ?_, ?_⟩, hWB, by rw [hP 43 0 (by omega)]; exact hZ.2.2.2⟩
  · obtain ⟨⟨l1, l2, l3, l4, l5⟩, d1, d2, d3, d4, d5, d6, d7, d8, d9, d10, d11, d12, d13⟩ := sd
    unfold SD
    rw [hl 0 0 (by omega), hl 21 0 (by omega), hl 22 0 (by omega), hl 23 0 (by omega), hl 24 0 (by omega), ha 22 0 (by omega), ha 23 0 (by omega), ha 1 0 (by omega), ha 24 0 (by omega), ha 21 0 (by omega), (hv 0 0 (by omega)).2, s7, (hv 2 0 (by omega)).2, (hv 3 0 (by omega)).1, (hv 4 0 (by omega)).2, (hv 5 0 (by omega)).2, (hv 6 0 (by omega)).2, (hv 7 0 (by omega)).1, (hv 8 0 (by omega)).1, (hv 9 0 (by omega)).1, (hv 10 0 (by omega)).1, (hv 11 0 (by omega)).2, (hv 12 0 (by omega)).1, g4, hP 42 0 (by omega), hP 46 0 (by omega), hP 44 0 (by omega), hP 45 0 (by omega), hP 47 0 (by omega), hP 48 0 (by omega), hP 49 0 (by omega), en, ha 4 _ (by omega)]
    exact ⟨⟨l1, l2, l3, l4, l5⟩, d1, hnn, d3, d4, d5, d6, d7, d8, d9, d10, d11, d12, d13⟩
  · intro n' hn4
    obtain ⟨b1, b2, b3, b4, b5⟩ := sp n' hn4
    rw [hl 2 n' (by omega), ha 2 n' (by omega), ha 1 _ (by omega), ha 1 _ (by omega), (hv (1536 + n') 0 (by omega)).2, (hv 132 n' (by omega)).2, (hv 133 n' (by omega)).2, (hv 128 n' (by omega)).1, (hv 129 n' (by omega)).1, (hv 130 n' (by omega)).1, (hv 131 n' (by omega)).1, hP 51 0 (by omega), hP 37 n' (by omega), hP 41 n' (by omega), hP 38 n' (by omega), hP 39 n' (by omega)]
    exact ⟨b1, b2, b3, b4, b5⟩
  · intro t ht
    obtain ⟨b1, b2, b3, b4, b5, b6⟩ := sl t ht
    unfold Ln
    rw [hl 1 t (by omega), hl 20 t (by omega), ha 20 t (by omega), (hv 64 t (by omega)).2, (hv 65 t (by omega)).1]
    exact ⟨b1, b2, b3, b4, b5, fun j hj => by rw [(hv (1280 + j) t (by omega)).1]; exact b6 j hj⟩
  · intro e'
    by_cases e0 : e' = nef P
    · subst e0
      refine ⟨⟨fun _ => by rw [efS_lv, if_pos ⟨rfl, rfl⟩], fun _ => by rw [ene]; omega⟩, fun _ => ?_⟩
      rw [s1, s2, s3, s4, s5, s6, g0, g1, g2, g3, efS_ad, if_pos ⟨rfl, rfl⟩]
      refine ⟨ho, rfl, rfl, fun w => ?_, fun w => ?_, fun w => ?_⟩
      · have h1 := hx w
        have h2 := hlive _ h1.1
        rw [hl 3 _ (by omega), ha 3 _ (by omega)]; exact h1
      · have h1 := hy w
        have h2 := hlive _ h1.1
        rw [hl 3 _ (by omega), ha 3 _ (by omega)]; exact h1
      · have h1 := hz w
        have h2 := hlive _ h1.1
        rw [hl 3 _ (by omega), ha 3 _ (by omega)]; exact h1
    · obtain ⟨b1, b2⟩ := se e'
      rw [ene, hl 3 e' (by omega)]
      refine ⟨⟨fun w => b1.mp (by omega), fun w => by have := b1.mpr w; omega⟩, fun w => ?_⟩
      obtain ⟨c1, c2, c3, c4, c5, c6⟩ := b2 w
      have h40 : e' < 40 := by have := hlive e' w; omega
      rw [(hv (1408 + e') 0 (by omega)).2, (hv 192 e' (by omega)).1, (hv 193 e' (by omega)).1, (hv 194 e' (by omega)).2, (hv 195 e' (by omega)).2, (hv 196 e' (by omega)).2, hP 0 e' (by omega), hP 1 e' (by omega), hP 2 e' (by omega), hP 3 e' (by omega), ha 3 e' (by omega)]
      refine ⟨c1, c2, c3, fun u => ?_, fun u => ?_, fun u => ?_⟩
      · have h1 := c4 u
        have h2 := hlive _ h1.1
        rw [hl 3 _ (by omega), ha 3 _ (by omega)]; exact h1
      · have h1 := c5 u
        have h2 := hlive _ h1.1
        rw [hl 3 _ (by omega), ha 3 _ (by omega)]; exact h1
      · have h1 := c6 u
        have h2 := hlive _ h1.1
        rw [hl 3 _ (by omega), ha 3 _ (by omega)]; exact h1
  · intro j hj
    rw [en] at hj
    have h10 := n10 hw
    have s := sf j hj
    refine s.ag hgx (fun f f1 f2 => hP f j (by omega)) (erow j) (fun f f1 f2 => hv f j (by omega)) (by rw [hl 4 j (by omega)]; exact s.1.1) (ha 4 j (by omega)) (hv (1472 + j) 0 (by omega)).2 ?_
    unfold topR
    rw [ha 5 _ (by omega)]
  · intro j p hj hp
    rw [en] at hj
    rw [hP 22 j (by omega)] at hp
    have s := sq j p hj hp
    have hle := hlive _ s.1.2.1
    refine s.ag hgx (fun f f1 f2 f3 f4 => hP f _ (by omega)) (erow _) (stk_ag (fun m' hm => ⟨hP 29 _ (by omega), hP 30 _ (by omega)⟩) _ (hw 28 _).2) (fun f hf => hP f _ (by omega)) (fun f f1 f2 => hv f _ (by omega)) (by rw [hl 5 _ (by omega)]; exact s.1.1) ?_
    unfold topR
    rw [ha 5 _ (by omega)]
  · intro j hj
    rw [(hv (1344 + j) 0 (by omega)).1, hP 40 j (by omega)]
    exact spr j hj
