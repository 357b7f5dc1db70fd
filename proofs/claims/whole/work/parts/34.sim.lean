/-! THE RELATION of the class's view with the reference's state -/
def nfb (P : Pst) : Nat := tn (P 42 0)
def nef (P : Pst) : Nat := tn (P 4 0)
def rowL (P : Pst) (r : Nat) : List (Int32 × Int32) := (List.range (tn (P 33 r))).map (fun j => (P 34 (9 * r + j), P 35 (9 * r + j)))
def ExitR (P : Pst) (S : Gs) (i : Nat) : Prop := (P 14 i = 0 → vr S 261 i = none ∧ vi S 260 i = P 13 i) ∧ (¬ P 14 i = 0 → ∃ a, vr S 261 i = some a ∧ kc S a = some (rowL P i))
def ActR (P : Pst) (S : Gs) (i : Nat) : Prop := (¬ P 11 i < 0 → lv S 3 (tn (P 11 i)) = true ∧ vr S 258 i = some (ad S 3 (tn (P 11 i))) ∧ vi S 259 i = P 12 i) ∧ (P 11 i < 0 → vr S 258 i = none ∧ ExitR P S i)
def topR (S : Gs) (i d : Nat) : Option Nat := if d = 0 then none else some (ad S 5 (16 * i + (d - 1)))
def endI (x : Int32) : Int32 := if x = 2 then 1 else 0
def cloI (x : Int32) : Int32 := if x = 9 then 1 else 0
def SF (P : Pst) (S : Gs) (i : Nat) : Prop :=
  (lv S 4 i = true ∧ vr S (1472 + i) 0 = some (ad S 4 i) ∧ vi S 256 i = nI i ∧ vi S 257 i = P 8 i ∧ vi S 262 i = endI (P 5 i) ∧ vr S 263 i = topR S i (tn (P 22 i)) ∧ vi S 264 i = P 22 i ∧ vi S 265 i = P 10 i ∧ vi S 266 i = P 6 i ∧ vi S 268 i = P 9 i ∧ vi S 269 i = P 15 i) ∧
  ((P 6 i = 1 → vi S 267 i = P 7 i) ∧ (P 15 i = 1 ∨ P 15 i = 2 ∨ P 15 i = 5 ∨ P 15 i = 6 → vi S 270 i = P 16 i) ∧ (P 15 i = 3 → vi S 270 i = P 19 i) ∧ (P 15 i = 4 → vi S 271 i = P 16 i)) ∧
  (P 5 i = 0 → ¬ (P 6 i = 1 ∧ P 10 i = 0) → ActR P S i) ∧ (P 5 i = 2 → ExitR P S i) ∧ (P 5 i = 1 → P 15 i = 2 ∨ P 15 i = 4 ∨ P 15 i = 6 → vr S 258 i = none ∧ vr S 261 i = none ∧ vi S 260 i = if P 15 i = 2 then 0 else P 17 i)
def stk (P : Pst) (k : Nat) : Nat → List (Int32 × Int32)
  | 0 => []
  | m + 1 => (P 29 (4 * k + m), P 30 (4 * k + m)) :: stk P k m
def clst (P : Pst) (k : Nat) : List (Int32 × Int32) := if P 25 k = 9 ∨ P 23 k = 10 then stk P k (tn (P 28 k)) else if P 23 k = 6 then [(P 2 (tn (P 24 k)), P 26 k)] else if P 23 k = 7 then (if P 25 k = 0 then [] else [(P 3 (tn (P 24 k)), P 26 k)]) else []
def CLs (S : Gs) : Option Nat → List (Int32 × Int32) → Prop
  | o, [] => o = none
  | o, q :: l => ∃ a z, o = some a ∧ lv S 3 (tn q.1) = true ∧ kl S a = some (some (ad S 3 (tn q.1)), q.2, z) ∧ CLs S z l
def SQ (P : Pst) (S : Gs) (i p : Nat) : Prop :=
  (lv S 5 (16 * i + p) = true ∧ lv S 3 (tn (P 24 (16 * i + p))) = true ∧ vr S 320 (16 * i + p) = some (ad S 3 (tn (P 24 (16 * i + p)))) ∧ vi S 321 (16 * i + p) = P 31 (16 * i + p) ∧ vr S 322 (16 * i + p) = topR S i p ∧ vi S 325 (16 * i + p) = cloI (P 25 (16 * i + p))) ∧
  CLs S (vr S 323 (16 * i + p)) (clst P (16 * i + p)) ∧ (P 23 (16 * i + p) = 10 → ¬ P 25 (16 * i + p) = 9 → vi S 324 (16 * i + p) = P 28 (16 * i + p)) ∧ (P 23 (16 * i + p) = 7 → (vi S 324 (16 * i + p) = 0 ↔ P 25 (16 * i + p) = 0)) ∧
  (P 25 (16 * i + p) = 9 → (P 32 (16 * i + p) = 0 → vr S 327 (16 * i + p) = none ∧ vi S 326 (16 * i + p) = P 27 (16 * i + p)) ∧ (¬ P 32 (16 * i + p) = 0 → ∃ a, vr S 327 (16 * i + p) = some a ∧ kc S a = some (rowL P (10 + (16 * i + p)))))
def SE (P : Pst) (S : Gs) : Prop := ∀ e, (e < nef P ↔ lv S 3 e = true) ∧ (lv S 3 e = true → vr S (1408 + e) 0 = some (ad S 3 e) ∧ vi S 192 e = P 0 e ∧ vi S 193 e = P 1 e ∧ (¬ a_R_needs (P 0 e) ≤ 0 → lv S 3 (tn (P 1 e)) = true ∧ vr S 194 e = some (ad S 3 (tn (P 1 e)))) ∧ (¬ a_R_needs (P 0 e) ≤ 1 → lv S 3 (tn (P 2 e)) = true ∧ vr S 195 e = some (ad S 3 (tn (P 2 e)))) ∧ (¬ a_R_needs (P 0 e) ≤ 2 → lv S 3 (tn (P 3 e)) = true ∧ vr S 196 e = some (ad S 3 (tn (P 3 e)))))
def SD (P : Pst) (S : Gs) : Prop := (lv S 0 0 = true ∧ lv S 21 0 = true ∧ lv S 22 0 = true ∧ lv S 23 0 = true ∧ lv S 24 0 = true) ∧ vr S 0 0 = some (ad S 22 0) ∧ vi S 1 0 = P 4 0 ∧ vr S 2 0 = some (ad S 23 0) ∧ vi S 3 0 = P 42 0 ∧ vr S 4 0 = some (ad S 1 0) ∧ vr S 5 0 = some (ad S 24 0) ∧ vr S 6 0 = some (ad S 21 0) ∧ vi S 7 0 = P 46 0 ∧ vi S 8 0 = P 44 0 ∧ vi S 9 0 = P 45 0 ∧ vi S 10 0 = P 47 0 ∧ vr S 11 0 = (if P 48 0 < 0 then none else some (ad S 4 (tn (P 48 0)))) ∧ (¬ P 48 0 < 0 → tn (P 48 0) < nfb P ∧ vi S 12 0 = 5 - P 49 0)
def SP (P : Pst) (S : Gs) : Prop := ∀ n, n < 4 → lv S 2 n = true ∧ vr S (1536 + n) 0 = some (ad S 2 n) ∧ vr S 132 n = some (ad S 1 (1 + n)) ∧ vr S 133 n = some (ad S 1 (5 + n)) ∧ (¬ P 51 0 = 0 → vi S 128 n = P 37 n ∧ vi S 129 n = P 41 n ∧ vi S 130 n = P 38 n ∧ vi S 131 n = P 39 n)
def Ln (S : Gs) (t : Nat) (l : List Nat) : Prop := lv S 1 t = true ∧ lv S 20 t = true ∧ vr S 64 t = some (ad S 20 t) ∧ vi S 65 t = nI l.length ∧ l.length ≤ 10 ∧ ∀ j, j < l.length → vi S (1280 + j) t = nI (l.getD j 0)
abbrev Lls : Type := Nat → List Nat
def SL (LL : Lls) (S : Gs) : Prop := ∀ t, t < 9 → Ln S t (LL t)
def SPr (P : Pst) (S : Gs) : Prop := ∀ j, j < 24 → vi S (1344 + j) 0 = P 40 j
def Sim (P : Pst) (LL : Lls) (S : Gs) : Prop := SD P S ∧ SP P S ∧ SL LL S ∧ SE P S ∧ (∀ i, i < nfb P → SF P S i) ∧ (∀ i p, i < nfb P → p < tn (P 22 i) → SQ P S i p) ∧ SPr P S
/-! agreement -/
def Ag (D : Nat → Nat → Prop) (P P' : Pst) : Prop := ∀ g j, ¬ D g j → P' g j = P g j
theorem Ag.refl (D : Nat → Nat → Prop) (P : Pst) : Ag D P P := fun _ _ _ => rfl
theorem Ag.trans {D : Nat → Nat → Prop} {P P1 P2 : Pst} (h : Ag D P P1) (h' : Ag D P1 P2) : Ag D P P2 := fun g j d => (h' g j d).trans (h g j d)
theorem Ag.up {D : Nat → Nat → Prop} {P P1 : Pst} (h : Ag D P P1) {f j : Nat} (hd : D f j) (x : Int32) : Ag D P (up P1 f j x) := fun g i d => by
  have : ¬ (g = f ∧ i = j) := fun q => d (by rw [q.1, q.2]; exact hd)
  unfold _root_.Jvm.Pilot.CFiberDeskLaw_law_r2789_ad6031.up
  rw [if_neg this]
  exact h g i d
/-- what a step at fiber i and its frame k may change -/
def dF (i k : Nat) (f j : Nat) : Prop := (5 ≤ f ∧ f ≤ 22 ∧ j = i) ∨ (f = 33 ∧ (j = i ∨ j = 10 + k)) ∨ ((f = 34 ∨ f = 35) ∧ (j / 9 = i ∨ j / 9 = 10 + k)) ∨ (23 ≤ f ∧ f ≤ 32 ∧ ¬ f = 29 ∧ ¬ f = 30 ∧ j = k) ∨ ((f = 29 ∨ f = 30) ∧ j / 4 = k) ∨ f = 36 ∨ f = 43 ∨ f = 50
theorem rowL_ag {P P' : Pst} {r : Nat} (h1 : P' 33 r = P 33 r) (hn : tn (P 33 r) ≤ 9) (h2 : ∀ j, j < 9 → P' 34 (9 * r + j) = P 34 (9 * r + j) ∧ P' 35 (9 * r + j) = P 35 (9 * r + j)) : rowL P' r = rowL P r := by
  unfold rowL
  rw [h1]
  refine List.map_congr_left (fun j hj => ?_)
  have := h2 j (by have := List.mem_range.mp hj; omega)
  rw [this.1, this.2]
theorem stk_ag {P P' : Pst} {k : Nat} (h : ∀ j, j < 4 → P' 29 (4 * k + j) = P 29 (4 * k + j) ∧ P' 30 (4 * k + j) = P 30 (4 * k + j)) : ∀ m, m ≤ 4 → stk P' k m = stk P k m
  | 0, _ => rfl
  | m + 1, hm => by
    unfold stk
    rw [(h m (by omega)).1, (h m (by omega)).2, stk_ag h m (by omega)]
/-- the view S' holds all that S held of effects, causes, closers -/
def Gx (S S' : Gs) : Prop := (∀ e, lv S 3 e = true → lv S' 3 e = true ∧ ad S' 3 e = ad S 3 e) ∧ (∀ a l, kc S a = some l → kc S' a = some l) ∧ ∀ a q, kl S a = some q → kl S' a = some q
theorem Gx.refl (S : Gs) : Gx S S := ⟨fun _ h => ⟨h, rfl⟩, fun _ _ h => h, fun _ _ h => h⟩
theorem Gx.trans {S S1 S2 : Gs} (h : Gx S S1) (h' : Gx S1 S2) : Gx S S2 := ⟨fun e he => ⟨(h'.1 e (h.1 e he).1).1, ((h'.1 e (h.1 e he).1).2).trans (h.1 e he).2⟩, fun a l q => h'.2.1 a l (h.2.1 a l q), fun a l q => h'.2.2 a l (h.2.2 a l q)⟩
theorem CLs.ag {S S' : Gs} (h : Gx S S') : ∀ {l : List (Int32 × Int32)} {o : Option Nat}, CLs S o l → CLs S' o l
  | [], _, q => q
  | x :: l, o, q => by
    obtain ⟨a, z, h1, h2, h3, h4⟩ := q
    have he := h.1 _ h2
    exact ⟨a, z, h1, he.1, by rw [he.2]; exact h.2.2 a _ h3, CLs.ag h h4⟩
theorem ExitR.ag {P P' : Pst} {S S' : Gs} {i : Nat} (h : ExitR P S i) (hx : Gx S S') (h1 : P' 14 i = P 14 i) (h2 : P' 13 i = P 13 i) (h3 : rowL P' i = rowL P i) (h4 : vr S' 261 i = vr S 261 i) (h5 : vi S' 260 i = vi S 260 i) : ExitR P' S' i := by
  unfold ExitR
  rw [h1, h2, h3, h4, h5]
  refine ⟨h.1, fun q => ?_⟩
  obtain ⟨a, e1, e2⟩ := h.2 q
  exact ⟨a, e1, hx.2.1 a _ e2⟩
theorem ActR.ag {P P' : Pst} {S S' : Gs} {i : Nat} (h : ActR P S i) (hx : Gx S S') (hp : ∀ f, 5 ≤ f → f ≤ 22 → P' f i = P f i) (h3 : rowL P' i = rowL P i) (hi : ∀ f, 256 ≤ f → f < 320 → vi S' f i = vi S f i ∧ vr S' f i = vr S f i) : ActR P' S' i := by
  unfold ActR
  rw [hp 11 (by decide) (by decide), hp 12 (by decide) (by decide), (hi 258 (by decide) (by decide)).2, (hi 259 (by decide) (by decide)).1]
  refine ⟨fun q => ?_, fun q => ⟨(h.2 q).1, (h.2 q).2.ag hx (hp 14 (by decide) (by decide)) (hp 13 (by decide) (by decide)) h3 (hi 261 (by decide) (by decide)).2 (hi 260 (by decide) (by decide)).1⟩⟩
  obtain ⟨a, b, c⟩ := h.1 q
  exact ⟨(hx.1 _ a).1, by rw [(hx.1 _ a).2]; exact b, c⟩
theorem SF.ag {P P' : Pst} {S S' : Gs} {i : Nat} (h : SF P S i) (hx : Gx S S') (hp : ∀ f, 5 ≤ f → f ≤ 22 → P' f i = P f i) (h3 : rowL P' i = rowL P i) (hi : ∀ f, 256 ≤ f → f < 320 → vi S' f i = vi S f i ∧ vr S' f i = vr S f i) (hl : lv S' 4 i = true) (ha : ad S' 4 i = ad S 4 i) (hr : vr S' (1472 + i) 0 = vr S (1472 + i) 0) (ht : topR S' i (tn (P 22 i)) = topR S i (tn (P 22 i))) : SF P' S' i := by
  obtain ⟨⟨a1, a2, a3, a4, a5, a6, a7, a8, a9, a10, a11⟩, ⟨b1, b2, b3, b4⟩, c1, c2, c3⟩ := h
  have p5 := hp 5 (by decide) (by decide)
  have p6 := hp 6 (by decide) (by decide)
  have p7 := hp 7 (by decide) (by decide)
  have p8 := hp 8 (by decide) (by decide)
  have p9 := hp 9 (by decide) (by decide)
  have p10 := hp 10 (by decide) (by decide)
  have p13 := hp 13 (by decide) (by decide)
  have p14 := hp 14 (by decide) (by decide)
  have p15 := hp 15 (by decide) (by decide)
  have p16 := hp 16 (by decide) (by decide)
  have p17 := hp 17 (by decide) (by decide)
  have p19 := hp 19 (by decide) (by decide)
  have p22 := hp 22 (by decide) (by decide)
  unfold SF
  rw [p5, p6, p7, p8, p9, p10, p15, p16, p17, p19, p22, ha, hr, ht, (hi 256 (by decide) (by decide)).1, (hi 257 (by decide) (by decide)).1, (hi 262 (by decide) (by decide)).1, (hi 263 (by decide) (by decide)).2, (hi 264 (by decide) (by decide)).1, (hi 265 (by decide) (by decide)).1, (hi 266 (by decide) (by decide)).1, (hi 267 (by decide) (by decide)).1, (hi 268 (by decide) (by decide)).1, (hi 269 (by decide) (by decide)).1, (hi 270 (by decide) (by decide)).1, (hi 271 (by decide) (by decide)).1, (hi 258 (by decide) (by decide)).2, (hi 261 (by decide) (by decide)).2, (hi 260 (by decide) (by decide)).1]
  exact ⟨⟨hl, a2, a3, a4, a5, a6, a7, a8, a9, a10, a11⟩, ⟨b1, b2, b3, b4⟩, fun q w => (c1 q w).ag hx hp h3 hi, fun q => (c2 q).ag hx p14 p13 h3 (hi 261 (by decide) (by decide)).2 (hi 260 (by decide) (by decide)).1, c3⟩
theorem SQ.ag {P P' : Pst} {S S' : Gs} {i p : Nat} (h : SQ P S i p) (hx : Gx S S') (hp : ∀ f, 23 ≤ f → f ≤ 32 → ¬ f = 29 → ¬ f = 30 → P' f (16 * i + p) = P f (16 * i + p)) (h3 : rowL P' (10 + (16 * i + p)) = rowL P (10 + (16 * i + p))) (h4 : stk P' (16 * i + p) (tn (P 28 (16 * i + p))) = stk P (16 * i + p) (tn (P 28 (16 * i + p)))) (he : ∀ f, f < 4 → P' f (tn (P 24 (16 * i + p))) = P f (tn (P 24 (16 * i + p)))) (hi : ∀ f, 320 ≤ f → f < 384 → vi S' f (16 * i + p) = vi S f (16 * i + p) ∧ vr S' f (16 * i + p) = vr S f (16 * i + p)) (hl : lv S' 5 (16 * i + p) = true) (ht : topR S' i p = topR S i p) : SQ P' S' i p := by
  obtain ⟨⟨a1, a2, a3, a4, a5, a6⟩, b1, b2, b3, b4⟩ := h
  have p23 := hp 23 (by decide) (by decide) (by decide) (by decide)
  have p24 := hp 24 (by decide) (by decide) (by decide) (by decide)
  have p25 := hp 25 (by decide) (by decide) (by decide) (by decide)
  have p26 := hp 26 (by decide) (by decide) (by decide) (by decide)
  have p27 := hp 27 (by decide) (by decide) (by decide) (by decide)
  have p28 := hp 28 (by decide) (by decide) (by decide) (by decide)
  have p31 := hp 31 (by decide) (by decide) (by decide) (by decide)
  have p32 := hp 32 (by decide) (by decide) (by decide) (by decide)
  have ec : clst P' (16 * i + p) = clst P (16 * i + p) := by
    unfold clst
    rw [p23, p24, p25, p26, p28, h4, he 2 (by decide), he 3 (by decide)]
  unfold SQ
  rw [ec, p23, p24, p25, p27, p28, p31, p32, h3, ht, (hi 320 (by decide) (by decide)).2, (hi 321 (by decide) (by decide)).1, (hi 322 (by decide) (by decide)).2, (hi 323 (by decide) (by decide)).2, (hi 324 (by decide) (by decide)).1, (hi 325 (by decide) (by decide)).1, (hi 326 (by decide) (by decide)).1, (hi 327 (by decide) (by decide)).2]
  refine ⟨⟨hl, (hx.1 _ a2).1, by rw [(hx.1 _ a2).2]; exact a3, a4, a5, a6⟩, b1.ag hx, b2, b3, fun q => ⟨(b4 q).1, fun w => ?_⟩⟩
  obtain ⟨a, e1, e2⟩ := (b4 q).2 w
  exact ⟨a, e1, hx.2.1 a _ e2⟩
/-- what of the view a step at fiber i and its frame k may change -/
def dV (i k : Nat) (f τ : Nat) : Prop := (256 ≤ f ∧ f < 320 ∧ τ = i) ∨ (320 ≤ f ∧ f < 384 ∧ τ = k)
theorem Sim.chg {P P' : Pst} {LL : Lls} {S S' : Gs} {i p : Nat} (h : Sim P LL S) (hw : WB P) (hi : i < nfb P) (hp16 : p < 16) (hx : Gx S S') (hP : Ag (dF i (16 * i + p)) P P') (hv : ∀ f τ, ¬ dV i (16 * i + p) f τ → vi S' f τ = vi S f τ ∧ vr S' f τ = vr S f τ) (hl : ∀ c τ, ¬ c = 5 → lv S' c τ = lv S c τ) (hl5 : ∀ τ, lv S 5 τ = true → lv S' 5 τ = true) (ha : ∀ c τ, ¬ c = 5 → ad S' c τ = ad S c τ) (ha5 : ∀ τ, (τ = 16 * i + p → p < tn (P 22 i)) → ad S' 5 τ = ad S 5 τ) (hd : ∀ q, q < tn (P' 22 i) → q = p ∨ q < tn (P 22 i)) (hF : SF P' S' i) (hQ : p < tn (P' 22 i) → SQ P' S' i p) : Sim P' LL S' := by
  obtain ⟨sd, sp, sl, se, sf, sq, spr⟩ := h
  have hn10 : nfb P ≤ 10 := (hw 42 0).2
  have e0 : ∀ f j, f < 5 → P' f j = P f j := fun f j q => hP f j (by unfold dF; omega)
  have e1 : ∀ f j, 37 ≤ f → ¬ f = 43 → ¬ f = 50 → P' f j = P f j := fun f j q w z => hP f j (by unfold dF; omega)
  have en : nfb P' = nfb P := by unfold nfb; rw [e1 42 0 (by decide) (by decide) (by decide)]
  have ene : nef P' = nef P := by unfold nef; rw [e0 4 0 (by decide)]
  have hv0 : ∀ f τ, f < 256 → vi S' f τ = vi S f τ ∧ vr S' f τ = vr S f τ := fun f τ q => hv f τ (by unfold dV; omega)
  have hv1 : ∀ f τ, 384 ≤ f → vi S' f τ = vi S f τ ∧ vr S' f τ = vr S f τ := fun f τ q => hv f τ (by unfold dV; omega)
  have erow : ∀ r, ¬ r = i → ¬ r = 10 + (16 * i + p) → rowL P' r = rowL P r := fun r h1 h2 => rowL_ag (hP 33 r (by unfold dF; omega)) (hw 33 r).2 (fun j hj => ⟨hP 34 _ (by unfold dF; omega), hP 35 _ (by unfold dF; omega)⟩)
  refine ⟨?_, ?_, ?_, ?_, ?_, ?_, ?_⟩
  · obtain ⟨⟨l1, l2, l3, l4, l5⟩, d1, d2, d3, d4, d5, d6, d7, d8, d9, d10, d11, d12, d13⟩ := sd
    unfold SD
    rw [hl 0 0 (by decide), hl 21 0 (by decide), hl 22 0 (by decide), hl 23 0 (by decide), hl 24 0 (by decide), ha 22 0 (by decide), ha 23 0 (by decide), ha 1 0 (by decide), ha 24 0 (by decide), ha 21 0 (by decide), ha 4 _ (by decide), (hv0 0 0 (by decide)).2, (hv0 1 0 (by decide)).1, (hv0 2 0 (by decide)).2, (hv0 3 0 (by decide)).1, (hv0 4 0 (by decide)).2, (hv0 5 0 (by decide)).2, (hv0 6 0 (by decide)).2, (hv0 7 0 (by decide)).1, (hv0 8 0 (by decide)).1, (hv0 9 0 (by decide)).1, (hv0 10 0 (by decide)).1, (hv0 11 0 (by decide)).2, (hv0 12 0 (by decide)).1, e0 4 0 (by decide), e1 42 0 (by decide) (by decide) (by decide), e1 46 0 (by decide) (by decide) (by decide), e1 44 0 (by decide) (by decide) (by decide), e1 45 0 (by decide) (by decide) (by decide), e1 47 0 (by decide) (by decide) (by decide), e1 48 0 (by decide) (by decide) (by decide), e1 49 0 (by decide) (by decide) (by decide), en]
    exact ⟨⟨l1, l2, l3, l4, l5⟩, d1, d2, d3, d4, d5, d6, d7, d8, d9, d10, d11, d12, d13⟩
  · intro n hn
    obtain ⟨b1, b2, b3, b4, b5⟩ := sp n hn
    rw [hl 2 n (by decide), ha 2 n (by decide), ha 1 _ (by decide), ha 1 _ (by decide), (hv1 (1536 + n) 0 (by omega)).2, (hv0 132 n (by decide)).2, (hv0 133 n (by decide)).2, (hv0 128 n (by decide)).1, (hv0 129 n (by decide)).1, (hv0 130 n (by decide)).1, (hv0 131 n (by decide)).1, e1 51 0 (by decide) (by decide) (by decide), e1 37 n (by decide) (by decide) (by decide), e1 41 n (by decide) (by decide) (by decide), e1 38 n (by decide) (by decide) (by decide), e1 39 n (by decide) (by decide) (by decide)]
    exact ⟨b1, b2, b3, b4, b5⟩
  · intro t ht
    obtain ⟨b1, b2, b3, b4, b5, b6⟩ := sl t ht
    unfold Ln
    rw [hl 1 t (by decide), hl 20 t (by decide), ha 20 t (by decide), (hv0 64 t (by decide)).2, (hv0 65 t (by decide)).1]
    exact ⟨b1, b2, b3, b4, b5, fun j hj => by rw [(hv1 (1280 + j) t (by omega)).1]; exact b6 j hj⟩
  · intro e
    obtain ⟨b1, b2⟩ := se e
    rw [ene, hl 3 e (by decide)]
    refine ⟨b1, fun q => ?_⟩
    rw [ha 3 _ (by decide), ha 3 _ (by decide), ha 3 _ (by decide), ha 3 _ (by decide), hl 3 _ (by decide), hl 3 _ (by decide), hl 3 _ (by decide), (hv1 (1408 + e) 0 (by omega)).2, (hv0 192 e (by decide)).1, (hv0 193 e (by decide)).1, (hv0 194 e (by decide)).2, (hv0 195 e (by decide)).2, (hv0 196 e (by decide)).2, e0 0 e (by decide), e0 1 e (by decide), e0 2 e (by decide), e0 3 e (by decide)]
    exact b2 q
  · intro j hj
    rw [en] at hj
    by_cases e : j = i
    · subst e; exact hF
    · have hs := sf j hj
      have hd : tn (P 22 j) ≤ 16 := (hw 22 j).2
      refine hs.ag hx (fun f f1 f2 => hP f j (by unfold dF; omega)) (erow j e (by omega)) (fun f f1 f2 => hv f j (by unfold dV; omega)) ((hl 4 j (by decide)).trans hs.1.1) (ha 4 j (by decide)) (hv1 (1472 + j) 0 (by omega)).2 ?_
      unfold topR
      split
      · rfl
      · rw [ha5 _ (fun q => by omega)]
  · intro j q hj hq
    rw [en] at hj
    by_cases e : j = i ∧ q = p
    · obtain ⟨rfl, rfl⟩ := e; exact hQ hq
    · have hq2 : q < tn (P 22 j) := by
        by_cases e2 : j = i
        · subst e2
          rcases hd q hq with w | w
          · exact absurd ⟨rfl, w⟩ e
          · exact w
        · rw [hP 22 j (by unfold dF; omega)] at hq; exact hq
      have hd16 : tn (P 22 j) ≤ 16 := (hw 22 j).2
      have hne : ¬ 16 * j + q = 16 * i + p := by omega
      have hs := sq j q hj hq2
      refine hs.ag hx (fun f f1 f2 f3 f4 => hP f _ (by unfold dF; omega)) (erow _ (by omega) (by omega)) (stk_ag (fun m hm => ⟨hP 29 _ (by unfold dF; omega), hP 30 _ (by unfold dF; omega)⟩) _ (hw 28 _).2) (fun f hf => e0 f _ (by omega)) (fun f f1 f2 => hv f _ (by unfold dV; omega)) (hl5 _ hs.1.1) ?_
      unfold topR
      split
      · rfl
      · rw [ha5 _ (fun w => by have e3 : j = i := by omega
                               subst e3; omega)]
  · intro j hj
    rw [(hv1 (1344 + j) 0 (by omega)).1, e1 40 j (by decide) (by decide) (by decide)]
    exact spr j hj
