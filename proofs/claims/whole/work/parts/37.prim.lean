/-! steps of the relation at one fiber, at the desk, at a place, at a line -/
theorem vi_ui_e (S : Gs) (f τ : Nat) (x : Int32) (g t : Nat) : vi (ui S f τ x) g t = if g = f ∧ t = τ then x else vi S g t := rfl
theorem up_e (P : Pst) (f j : Nat) (x : Int32) (g t : Nat) : up P f j x g t = if g = f ∧ t = j then x else P g t := rfl
theorem ad_ui_e (S : Gs) (f τ : Nat) (x : Int32) : ad (ui S f τ x) = ad S := rfl
theorem ad_ur_e (S : Gs) (f τ : Nat) (x : Option Nat) : ad (ur S f τ x) = ad S := rfl
theorem lv_ui_e (S : Gs) (f τ : Nat) (x : Int32) : lv (ui S f τ x) = lv S := rfl
theorem lv_ur_e (S : Gs) (f τ : Nat) (x : Option Nat) : lv (ur S f τ x) = lv S := rfl
theorem kc_ui_e (S : Gs) (f τ : Nat) (x : Int32) : kc (ui S f τ x) = kc S := rfl
theorem kc_ur_e (S : Gs) (f τ : Nat) (x : Option Nat) : kc (ur S f τ x) = kc S := rfl
theorem kl_ui_e (S : Gs) (f τ : Nat) (x : Int32) : kl (ui S f τ x) = kl S := rfl
theorem kl_ur_e (S : Gs) (f τ : Nat) (x : Option Nat) : kl (ur S f τ x) = kl S := rfl
/-- S' is S but for what D names -/
def Sx (D : Nat → Nat → Prop) (S S' : Gs) : Prop := ad S' = ad S ∧ lv S' = lv S ∧ (∀ a l, kc S a = some l → kc S' a = some l) ∧ (∀ a q, kl S a = some q → kl S' a = some q) ∧ ∀ f τ, ¬ D f τ → vi S' f τ = vi S f τ ∧ vr S' f τ = vr S f τ
theorem Sx.refl (D : Nat → Nat → Prop) (S : Gs) : Sx D S S := ⟨rfl, rfl, fun _ _ h => h, fun _ _ h => h, fun _ _ _ => ⟨rfl, rfl⟩⟩
theorem Sx.ui {D : Nat → Nat → Prop} {S S1 : Gs} (h : Sx D S S1) {f τ : Nat} (hd : D f τ) (x : Int32) : Sx D S (ui S1 f τ x) := by
  refine ⟨h.1, h.2.1, h.2.2.1, h.2.2.2.1, fun g t d => ⟨?_, (h.2.2.2.2 g t d).2⟩⟩
  rw [vi_ui_e, if_neg (fun q => d (by rw [q.1, q.2]; exact hd))]
  exact (h.2.2.2.2 g t d).1
theorem Sx.ur {D : Nat → Nat → Prop} {S S1 : Gs} (h : Sx D S S1) {f τ : Nat} (hd : D f τ) (x : Option Nat) : Sx D S (ur S1 f τ x) := by
  refine ⟨h.1, h.2.1, h.2.2.1, h.2.2.2.1, fun g t d => ⟨(h.2.2.2.2 g t d).1, ?_⟩⟩
  rw [vr_ur, if_neg (fun q => d (by rw [q.1, q.2]; exact hd))]
  exact (h.2.2.2.2 g t d).2
theorem Sx.kc {D : Nat → Nat → Prop} {S S1 : Gs} (h : Sx D S S1) {a : Nat} (hn : kc S a = none) (l : List (Int32 × Int32)) : Sx D S (ukc S1 a l) := by
  refine ⟨h.1, h.2.1, fun b l' hb => ?_, h.2.2.2.1, h.2.2.2.2⟩
  rw [kc_ukc, if_neg (fun e => by rw [e, hn] at hb; cases hb)]
  exact h.2.2.1 b l' hb
theorem Sx.kl {D : Nat → Nat → Prop} {S S1 : Gs} (h : Sx D S S1) {a : Nat} (hn : kl S a = none) (q : Option Nat × Int32 × Option Nat) : Sx D S (ukl S1 a q) := by
  refine ⟨h.1, h.2.1, h.2.2.1, fun b l' hb => ?_, h.2.2.2.2⟩
  rw [kl_ukl, if_neg (fun e => by rw [e, hn] at hb; cases hb)]
  exact h.2.2.2.1 b l' hb
theorem Sx.gx {D : Nat → Nat → Prop} {S S' : Gs} (h : Sx D S S') : Gx S S' := ⟨fun e he => ⟨by rw [h.2.1]; exact he, by rw [h.1]⟩, h.2.2.1, h.2.2.2.1⟩
theorem topR_ad {S S' : Gs} (h : ad S' = ad S) (i d : Nat) : topR S' i d = topR S i d := by unfold topR; rw [h]
def dFi (i : Nat) (f j : Nat) : Prop := (5 ≤ f ∧ f ≤ 22 ∧ j = i) ∨ (f = 33 ∧ j = i) ∨ ((f = 34 ∨ f = 35) ∧ j / 9 = i) ∨ f = 36 ∨ f = 43 ∨ f = 50
def dVi (i : Nat) (f τ : Nat) : Prop := 256 ≤ f ∧ f < 320 ∧ τ = i
theorem Sim.fib {P P' : Pst} {LL : Lls} {S S' : Gs} {i : Nat} (h : Sim P LL S) (hw : WB P) (hi : i < nfb P) (hs : Sx (dVi i) S S') (hP : Ag (dFi i) P P') (hd : tn (P' 22 i) ≤ tn (P 22 i)) (hF : SF P' S' i) : Sim P' LL S' := by
  have hn10 : nfb P ≤ 10 := (hw 42 0).2
  have hd16 : tn (P 22 i) ≤ 16 := (hw 22 i).2
  refine h.chg (p := 0) hw hi (by decide) hs.gx (fun g j d => hP g j (fun q => d (by unfold dFi at q; unfold dF; omega))) (fun f τ d => hs.2.2.2.2 f τ (fun q => d (by unfold dVi at q; unfold dV; omega))) (fun c τ _ => by rw [hs.2.1]) (fun τ q => by rw [hs.2.1]; exact q) (fun c τ _ => by rw [hs.1]) (fun τ _ => by rw [hs.1]) (fun q hq => Or.inr (by omega)) hF (fun hq => ?_)
  have h0 := h.2.2.2.2.2.1 i 0 hi (by omega)
  refine h0.ag hs.gx (fun f f1 f2 f3 f4 => hP f _ (by unfold dFi; omega)) ?_ (stk_ag (fun m hm => ⟨hP 29 _ (by unfold dFi; omega), hP 30 _ (by unfold dFi; omega)⟩) _ (hw 28 _).2) (fun f hf => hP f _ (by unfold dFi; omega)) (fun f f1 f2 => hs.2.2.2.2 f _ (by unfold dVi; omega)) (by rw [hs.2.1]; exact h0.1.1) (topR_ad hs.1 _ _)
  exact rowL_ag (hP 33 _ (by unfold dFi; omega)) (hw 33 _).2 (fun j hj => ⟨hP 34 _ (by unfold dFi; omega), hP 35 _ (by unfold dFi; omega)⟩)
theorem Sim.desk {P P' : Pst} {LL : Lls} {S S' : Gs} (h : Sim P LL S) (hw : WB P) (hs : Sx (fun f τ => τ = 0 ∧ (f < 64 ∨ (1344 ≤ f ∧ f < 1408))) S S') (hP : Ag (fun f _ => f = 40 ∨ (44 ≤ f ∧ f ≤ 49) ∨ f = 36 ∨ f = 43 ∨ f = 50) P P') (hD : SD P' S') (hPr : SPr P' S') : Sim P' LL S' := by
  obtain ⟨sd, sp, sl, se, sf, sq, spr⟩ := h
  have hn10 : nfb P ≤ 10 := (hw 42 0).2
  have e0 : ∀ f j, f < 36 → P' f j = P f j := fun f j q => hP f j (by omega)
  have en : nfb P' = nfb P := by unfold nfb; rw [hP 42 0 (by omega)]
  have ene : nef P' = nef P := by unfold nef; rw [e0 4 0 (by decide)]
  have hv : ∀ f τ, 64 ≤ f → (f < 1344 ∨ 1408 ≤ f) → vi S' f τ = vi S f τ ∧ vr S' f τ = vr S f τ := fun f τ q w => hs.2.2.2.2 f τ (by omega)
  have erow : ∀ r, rowL P' r = rowL P r := fun r => rowL_ag (e0 33 r (by decide)) (hw 33 r).2 (fun j hj => ⟨e0 34 _ (by decide), e0 35 _ (by decide)⟩)
  refine ⟨hD, ?_, ?_, ?_, ?_, ?_, hPr⟩
  · intro n hn
    obtain ⟨b1, b2, b3, b4, b5⟩ := sp n hn
    rw [hs.1, hs.2.1, (hv (1536 + n) 0 (by omega) (by omega)).2, (hv 132 n (by decide) (by decide)).2, (hv 133 n (by decide) (by decide)).2, (hv 128 n (by decide) (by decide)).1, (hv 129 n (by decide) (by decide)).1, (hv 130 n (by decide) (by decide)).1, (hv 131 n (by decide) (by decide)).1, hP 51 0 (by omega), hP 37 n (by omega), hP 41 n (by omega), hP 38 n (by omega), hP 39 n (by omega)]
    exact ⟨b1, b2, b3, b4, b5⟩
  · intro t ht
    obtain ⟨b1, b2, b3, b4, b5, b6⟩ := sl t ht
    unfold Ln
    rw [hs.1, hs.2.1, (hv 64 t (by decide) (by decide)).2, (hv 65 t (by decide) (by decide)).1]
    exact ⟨b1, b2, b3, b4, b5, fun j hj => by rw [(hv (1280 + j) t (by omega) (by omega)).1]; exact b6 j hj⟩
  · intro e
    obtain ⟨b1, b2⟩ := se e
    rw [ene, hs.2.1]
    refine ⟨b1, fun q => ?_⟩
    have h40 : e < 40 := by have := b1.mpr q; have h4 := (hw 4 0).2; unfold nef at this; omega
    rw [hs.1, (hv (1408 + e) 0 (by omega) (by omega)).2, (hv 192 e (by decide) (by decide)).1, (hv 193 e (by decide) (by decide)).1, (hv 194 e (by decide) (by decide)).2, (hv 195 e (by decide) (by decide)).2, (hv 196 e (by decide) (by decide)).2, e0 0 e (by decide), e0 1 e (by decide), e0 2 e (by decide), e0 3 e (by decide)]
    exact b2 q
  · intro j hj
    rw [en] at hj
    have s := sf j hj
    exact s.ag hs.gx (fun f f1 f2 => e0 f j (by omega)) (erow j) (fun f f1 f2 => hv f j (by omega) (by omega)) (by rw [hs.2.1]; exact s.1.1) (by rw [hs.1]) (hv (1472 + j) 0 (by omega) (by omega)).2 (topR_ad hs.1 _ _)
  · intro j q hj hq
    rw [en] at hj
    rw [e0 22 j (by decide)] at hq
    have s := sq j q hj hq
    exact s.ag hs.gx (fun f f1 f2 f3 f4 => e0 f _ (by omega)) (erow _) (stk_ag (fun m hm => ⟨e0 29 _ (by decide), e0 30 _ (by decide)⟩) _ (hw 28 _).2) (fun f hf => e0 f _ (by omega)) (fun f f1 f2 => hv f _ (by omega) (by omega)) (by rw [hs.2.1]; exact s.1.1) (topR_ad hs.1 _ _)
theorem Sim.place {P P' : Pst} {LL : Lls} {S S' : Gs} {n : Nat} (h : Sim P LL S) (hw : WB P) (hn : n < 4) (hs : Sx (fun f τ => τ = n ∧ 128 ≤ f ∧ f < 132) S S') (hP : Ag (fun f j => (f = 37 ∨ f = 38 ∨ f = 39 ∨ f = 41) ∧ j = n) P P') (hN : ¬ P 51 0 = 0 → vi S' 128 n = P' 37 n ∧ vi S' 129 n = P' 41 n ∧ vi S' 130 n = P' 38 n ∧ vi S' 131 n = P' 39 n) : Sim P' LL S' := by
  obtain ⟨sd, sp, sl, se, sf, sq, spr⟩ := h
  have e0 : ∀ f j, f < 37 ∨ f = 40 ∨ 42 ≤ f → P' f j = P f j := fun f j q => hP f j (by omega)
  have en : nfb P' = nfb P := by unfold nfb; rw [e0 42 0 (by decide)]
  have ene : nef P' = nef P := by unfold nef; rw [e0 4 0 (by decide)]
  have hv : ∀ f τ, f < 128 ∨ 132 ≤ f → vi S' f τ = vi S f τ ∧ vr S' f τ = vr S f τ := fun f τ q => hs.2.2.2.2 f τ (by omega)
  have erow : ∀ r, rowL P' r = rowL P r := fun r => rowL_ag (e0 33 r (by decide)) (hw 33 r).2 (fun j hj => ⟨e0 34 _ (by decide), e0 35 _ (by decide)⟩)
  refine ⟨?_, ?_, ?_, ?_, ?_, ?_, ?_⟩
  · obtain ⟨⟨l1, l2, l3, l4, l5⟩, d1, d2, d3, d4, d5, d6, d7, d8, d9, d10, d11, d12, d13⟩ := sd
    unfold SD
    rw [hs.1, hs.2.1, (hv 0 0 (by decide)).2, (hv 1 0 (by decide)).1, (hv 2 0 (by decide)).2, (hv 3 0 (by decide)).1, (hv 4 0 (by decide)).2, (hv 5 0 (by decide)).2, (hv 6 0 (by decide)).2, (hv 7 0 (by decide)).1, (hv 8 0 (by decide)).1, (hv 9 0 (by decide)).1, (hv 10 0 (by decide)).1, (hv 11 0 (by decide)).2, (hv 12 0 (by decide)).1, e0 4 0 (by decide), e0 42 0 (by decide), e0 46 0 (by decide), e0 44 0 (by decide), e0 45 0 (by decide), e0 47 0 (by decide), e0 48 0 (by decide), e0 49 0 (by decide), en]
    exact ⟨⟨l1, l2, l3, l4, l5⟩, d1, d2, d3, d4, d5, d6, d7, d8, d9, d10, d11, d12, d13⟩
  · intro m hm
    obtain ⟨b1, b2, b3, b4, b5⟩ := sp m hm
    rw [hs.1, hs.2.1, (hv (1536 + m) 0 (by omega)).2, (hv 132 m (by decide)).2, (hv 133 m (by decide)).2, e0 51 0 (by decide)]
    refine ⟨b1, b2, b3, b4, fun q => ?_⟩
    by_cases e : m = n
    · subst e; exact hN q
    · rw [(hs.2.2.2.2 128 m (by omega)).1, (hs.2.2.2.2 129 m (by omega)).1, (hs.2.2.2.2 130 m (by omega)).1, (hs.2.2.2.2 131 m (by omega)).1, hP 37 m (by omega), hP 38 m (by omega), hP 39 m (by omega), hP 41 m (by omega)]
      exact b5 q
  · intro t ht
    obtain ⟨b1, b2, b3, b4, b5, b6⟩ := sl t ht
    unfold Ln
    rw [hs.1, hs.2.1, (hv 64 t (by decide)).2, (hv 65 t (by decide)).1]
    exact ⟨b1, b2, b3, b4, b5, fun j hj => by rw [(hv (1280 + j) t (by omega)).1]; exact b6 j hj⟩
  · intro e
    obtain ⟨b1, b2⟩ := se e
    rw [ene, hs.2.1]
    refine ⟨b1, fun q => ?_⟩
    rw [hs.1, (hv (1408 + e) 0 (by omega)).2, (hv 192 e (by decide)).1, (hv 193 e (by decide)).1, (hv 194 e (by decide)).2, (hv 195 e (by decide)).2, (hv 196 e (by decide)).2, e0 0 e (by decide), e0 1 e (by decide), e0 2 e (by decide), e0 3 e (by decide)]
    exact b2 q
  · intro j hj
    rw [en] at hj
    have s := sf j hj
    exact s.ag hs.gx (fun f f1 f2 => e0 f j (by omega)) (erow j) (fun f f1 f2 => hv f j (by omega)) (by rw [hs.2.1]; exact s.1.1) (by rw [hs.1]) (hv (1472 + j) 0 (by omega)).2 (topR_ad hs.1 _ _)
  · intro j q hj hq
    rw [en] at hj
    rw [e0 22 j (by decide)] at hq
    have s := sq j q hj hq
    exact s.ag hs.gx (fun f f1 f2 f3 f4 => e0 f _ (by omega)) (erow _) (stk_ag (fun m hm => ⟨e0 29 _ (by decide), e0 30 _ (by decide)⟩) _ (hw 28 _).2) (fun f hf => e0 f _ (by omega)) (fun f f1 f2 => hv f _ (by omega)) (by rw [hs.2.1]; exact s.1.1) (topR_ad hs.1 _ _)
  · intro j hj
    rw [(hv (1344 + j) 0 (by omega)).1, e0 40 j (by decide)]
    exact spr j hj
def upL (LL : Lls) (t : Nat) (l : List Nat) : Lls := fun s => if s = t then l else LL s
theorem upL_s (LL : Lls) (t : Nat) (l : List Nat) : upL LL t l t = l := if_pos rfl
theorem upL_n (LL : Lls) {t s : Nat} (h : s ≠ t) (l : List Nat) : upL LL t l s = LL s := if_neg h
theorem Sim.line {P : Pst} {LL : Lls} {S : Gs} (h : Sim P LL S) (hw : WB P) {t : Nat} {l : List Nat} {I : Pst} (hL : Ln (sI S I) t l) (hA : Ag (dL t) (vi S) I) : Sim P (upL LL t l) (sI S I) := by
  obtain ⟨sd, sp, sl, se, sf, sq, spr⟩ := h
  have hx : Gx S (sI S I) := ⟨fun e he => ⟨he, rfl⟩, fun _ _ q => q, fun _ _ q => q⟩
  have hv : ∀ f τ, ¬ f = 65 → f < 1280 ∨ 1344 ≤ f → vi (sI S I) f τ = vi S f τ ∧ vr (sI S I) f τ = vr S f τ := fun f τ q w => ⟨hA f τ (by unfold dL; omega), rfl⟩
  refine ⟨?_, ?_, ?_, ?_, ?_, ?_, ?_⟩
  · obtain ⟨ll, d1, d2, d3, d4, d5, d6, d7, d8, d9, d10, d11, d12, d13⟩ := sd
    refine ⟨ll, d1, (hv 1 0 (by decide) (by decide)).1.trans d2, d3, (hv 3 0 (by decide) (by decide)).1.trans d4, d5, d6, d7, (hv 7 0 (by decide) (by decide)).1.trans d8, (hv 8 0 (by decide) (by decide)).1.trans d9, (hv 9 0 (by decide) (by decide)).1.trans d10, (hv 10 0 (by decide) (by decide)).1.trans d11, d12, fun q => ⟨(d13 q).1, (hv 12 0 (by decide) (by decide)).1.trans (d13 q).2⟩⟩
  · intro n hn
    obtain ⟨b1, b2, b3, b4, b5⟩ := sp n hn
    refine ⟨b1, b2, b3, b4, fun q => ?_⟩
    obtain ⟨c1, c2, c3, c4⟩ := b5 q
    exact ⟨(hv 128 n (by decide) (by decide)).1.trans c1, (hv 129 n (by decide) (by decide)).1.trans c2, (hv 130 n (by decide) (by decide)).1.trans c3, (hv 131 n (by decide) (by decide)).1.trans c4⟩
  · intro s hs
    by_cases e : s = t
    · subst e; rw [upL_s]; exact hL
    · rw [upL_n _ e]
      obtain ⟨b1, b2, b3, b4, b5, b6⟩ := sl s hs
      exact ⟨b1, b2, b3, (hA 65 s (by unfold dL; omega)).trans b4, b5, fun j hj => (hA (1280 + j) s (by unfold dL; omega)).trans (b6 j hj)⟩
  · intro e
    obtain ⟨b1, b2⟩ := se e
    refine ⟨b1, fun q => ?_⟩
    obtain ⟨c1, c2, c3, c4⟩ := b2 q
    exact ⟨c1, (hv 192 e (by decide) (by decide)).1.trans c2, (hv 193 e (by decide) (by decide)).1.trans c3, c4⟩
  · intro j hj
    have s := sf j hj
    exact s.ag hx (fun f f1 f2 => rfl) rfl (fun f f1 f2 => hv f j (by omega) (by omega)) s.1.1 rfl rfl rfl
  · intro j q hj hq
    have s := sq j q hj hq
    exact s.ag hx (fun f f1 f2 f3 f4 => rfl) rfl rfl (fun f hf => rfl) (fun f f1 f2 => hv f _ (by omega) (by omega)) s.1.1 rfl
  · intro j hj
    rw [(hv (1344 + j) 0 (by omega) (by omega)).1]
    exact spr j hj
