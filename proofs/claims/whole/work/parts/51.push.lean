/-! pushing a frame, holding a closer -/
theorem stk_lt {P P' : Pst} {k : Nat} : ∀ m, (∀ j, j < m → P' 29 (4 * k + j) = P 29 (4 * k + j) ∧ P' 30 (4 * k + j) = P 30 (4 * k + j)) → stk P' k m = stk P k m
  | 0, _ => rfl
  | m + 1, h => by
    unfold stk
    rw [(h m (Nat.lt_succ_self _)).1, (h m (Nat.lt_succ_self _)).2, stk_lt m (fun j hj => h j (Nat.lt_succ_of_lt hj))]
theorem ui_same {S : Gs} {f t : Nat} {x : Int32} (h : vi S f t = x) : ui S f t x = S := by
  obtain ⟨a, b, c, d⟩ := S
  show (a, b, up c f t x, d) = (a, b, c, d)
  congr 2
  have h : c f t = x := h
  rw [← h]
  congr 1
  funext g j
  rw [up_e]
  split
  · rename_i q; rw [q.1, q.2]
  · rfl
def holdP (P : Pst) (k : Nat) (x v : Int32) : Pst := up (up (up P 29 (4 * k + tn (P 28 k)) x) 30 (4 * k + tn (P 28 k)) v) 28 k (P 28 k + 1)
def holdS (S : Gs) (k q : Nat) (o : Option Nat) (v : Int32) : Gs := ui (ur (ukl S q (o, v, vr S 323 k)) 323 k (some q)) 324 k (vi S 324 k + 1)
theorem holdS_sx {S : Gs} {k q : Nat} (hq : kl S q = none) (o : Option Nat) (v : Int32) : Sx (fun f τ => 320 ≤ f ∧ f < 384 ∧ τ = k) S (holdS S k q o v) := ((Sx.kl (Sx.refl _ S) hq _).ur (by omega) _).ui (by omega) _
theorem Zt.hold {P : Pst} {LL : Lls} {S : Gs} {M M' : Mm} (hZ : Zt P LL S M) {i p : Nat} (hi : i < nfb P) (hp : p < tn (P 22 i)) (h23 : P 23 (16 * i + p) = 10) (h25 : ¬ P 25 (16 * i + p) = 9) (hm : tn (P 28 (16 * i + p)) < 4) {x : Int32} (v : Int32) (hx : sm x 39) (hl : lv S 3 (tn x) = true) {q : Nat} (hq : kl S q = none) (hV : VM (holdS S (16 * i + p) q (some (ad S 3 (tn x))) v) M') : Zt (holdP P (16 * i + p) x v) LL (holdS S (16 * i + p) q (some (ad S 3 (tn x))) v) M' := by
  have hw := hZ.2.2.1
  have hs := holdS_sx hq (some (ad S 3 (tn x))) v (k := 16 * i + p)
  have k323 : vr (holdS S (16 * i + p) q (some (ad S 3 (tn x))) v) 323 (16 * i + p) = some q := by simp [holdS, vr_ui, vr_ur]
  have k324 : vi (holdS S (16 * i + p) q (some (ad S 3 (tn x))) v) 324 (16 * i + p) = vi S 324 (16 * i + p) + 1 := by simp [holdS, vi_ui_e]
  have kv : ∀ f, ¬ f = 324 → vi (holdS S (16 * i + p) q (some (ad S 3 (tn x))) v) f (16 * i + p) = vi S f (16 * i + p) := fun f h => by
    unfold holdS
    rw [vi_ui_f h, vi_ur]; rfl
  have kr : ∀ f, ¬ f = 323 → vr (holdS S (16 * i + p) q (some (ad S 3 (tn x))) v) f (16 * i + p) = vr S f (16 * i + p) := fun f h => by
    unfold holdS
    rw [vr_ui, vr_ur_f h]; rfl
  have kq : kl (holdS S (16 * i + p) q (some (ad S 3 (tn x))) v) q = some (some (ad S 3 (tn x)), v, vr S 323 (16 * i + p)) := by
    show (if q = q then _ else _) = _
    rw [if_pos rfl]
  have ka : ad (holdS S (16 * i + p) q (some (ad S 3 (tn x))) v) = ad S := rfl
  have kl' : lv (holdS S (16 * i + p) q (some (ad S 3 (tn x))) v) = lv S := rfl
  have E : ∀ f j, ¬ f = 28 → ¬ f = 29 → ¬ f = 30 → holdP P (16 * i + p) x v f j = P f j := fun f j a b c => by simp [holdP, up_e, a, b, c]
  have e28 : holdP P (16 * i + p) x v 28 (16 * i + p) = P 28 (16 * i + p) + 1 := by simp [holdP, up_e]
  have e29 : ∀ j, j < tn (P 28 (16 * i + p)) → holdP P (16 * i + p) x v 29 (4 * (16 * i + p) + j) = P 29 (4 * (16 * i + p) + j) ∧ holdP P (16 * i + p) x v 30 (4 * (16 * i + p) + j) = P 30 (4 * (16 * i + p) + j) := fun j hj => by
    unfold holdP
    constructor
    · rw [up_f (by decide), up_f (by decide), up_j (by omega)]
    · rw [up_f (by decide), up_j (by omega), up_f (by decide)]
  have e29m : holdP P (16 * i + p) x v 29 (4 * (16 * i + p) + tn (P 28 (16 * i + p))) = x ∧ holdP P (16 * i + p) x v 30 (4 * (16 * i + p) + tn (P 28 (16 * i + p))) = v := by
    unfold holdP
    constructor
    · rw [up_f (by decide), up_f (by decide), up_s]
    · rw [up_f (by decide), up_s]
  have hrow : ∀ r, rowL (holdP P (16 * i + p) x v) r = rowL P r := fun r => rowL_ne (fun j => E _ _ (by decide) (by decide) (by decide)) (fun j => E _ _ (by decide) (by decide) (by decide)) (fun j => E _ _ (by decide) (by decide) (by decide))
  have hWB : WB (holdP P (16 * i + p) x v) := by
    unfold holdP
    refine WB.up (WB.up (WB.up hw ?_) ?_) ?_
    · exact hx
    · exact trivial
    · exact sm_inc' (hw 28 _).1 hm (by decide)
  have hAg : Ag (fun f j => (f = 33 ∧ j = 10 + (16 * i + p)) ∨ ((f = 34 ∨ f = 35) ∧ j / 9 = 10 + (16 * i + p)) ∨ (23 ≤ f ∧ f ≤ 32 ∧ ¬ f = 29 ∧ ¬ f = 30 ∧ j = 16 * i + p) ∨ ((f = 29 ∨ f = 30) ∧ j / 4 = 16 * i + p)) P (holdP P (16 * i + p) x v) := by
    unfold holdP
    exact (((Ag.refl _ P).up (by omega) _).up (by omega) _).up (by omega) _
  refine ⟨hV, hZ.2.1.frm hw hi hp hs hAg ?_, hWB, by rw [E 43 0 (by decide) (by decide) (by decide)]; exact hZ.2.2.2⟩
  obtain ⟨⟨a1, a2, a3, a4, a5, a6⟩, b1, b2, b3, b4⟩ := hZ.2.1.2.2.2.2.2.1 i p hi hp
  have ec0 : clst P (16 * i + p) = stk P (16 * i + p) (tn (P 28 (16 * i + p))) := by unfold clst; rw [if_pos (Or.inr h23)]
  have ec : clst (holdP P (16 * i + p) x v) (16 * i + p) = (x, v) :: stk P (16 * i + p) (tn (P 28 (16 * i + p))) := by
    unfold clst
    rw [if_pos (Or.inr (by rw [E 23 _ (by decide) (by decide) (by decide)]; exact h23)), e28, tn_inc (hw 28 _).1 (by omega)]
    unfold stk
    rw [e29m.1, e29m.2, stk_lt _ e29]
    cases tn (P 28 (16 * i + p)) <;> rfl
  have b2' := b2 h23 h25
  unfold SQ
  rw [ec, e28, E 23 _ (by decide) (by decide) (by decide), E 24 _ (by decide) (by decide) (by decide), E 25 _ (by decide) (by decide) (by decide), E 27 _ (by decide) (by decide) (by decide), E 31 _ (by decide) (by decide) (by decide), E 32 _ (by decide) (by decide) (by decide), hrow, k323, k324, kr 320 (by decide), kr 322 (by decide), kr 327 (by decide), kv 321 (by decide), kv 325 (by decide), kv 326 (by decide)]
  rw [ec0] at b1
  refine ⟨⟨a1, a2, a3, a4, a5, a6⟩, ⟨q, vr S 323 (16 * i + p), rfl, hl, kq, b1.ag hs.gx⟩, fun _ _ => by rw [b2'], fun h => absurd (h23.symm.trans h) (by decide), fun h => absurd h h25⟩
/-! pushing -/
def pS (S : Gs) (i k q : Nat) (o : Option Nat) (b : Int32) (z : Option Nat) (m d : Int32) : Gs := ui (ur (ur (ui (ur (ur (ui (ui (ui (ur (un (ui S 265 i m) 5 k q) 323 k none) 324 k 0) 325 k 0) 326 k 0) 327 k none) 320 k o) 321 k b) 322 k z) 263 i (some q)) 264 i d
theorem pS_o (S : Gs) (i k q : Nat) (o : Option Nat) (b : Int32) (z : Option Nat) (m d : Int32) {f τ : Nat} (h : ¬ ((320 ≤ f ∧ f < 384 ∧ τ = k) ∨ (263 ≤ f ∧ f ≤ 265 ∧ τ = i))) : vi (pS S i k q o b z m d) f τ = vi S f τ ∧ vr (pS S i k q o b z m d) f τ = vr S f τ := by
  constructor
  · simp only [pS, vi_ui_e, vi_ur, vi_un]
    rw [if_neg (by omega), if_neg (by omega), if_neg (by omega), if_neg (by omega), if_neg (by omega), if_neg (by omega), if_neg (by omega)]
  · simp only [pS, vr_ui, vr_ur, vr_un]
    rw [if_neg (by omega), if_neg (by omega), if_neg (by omega), if_neg (by omega), if_neg (by omega), if_neg (by omega)]
theorem pS_ad (S : Gs) (i k q : Nat) (o : Option Nat) (b : Int32) (z : Option Nat) (m d : Int32) (c t : Nat) : ad (pS S i k q o b z m d) c t = if c = 5 ∧ t = k then q else ad S c t := rfl
theorem pS_lv (S : Gs) (i k q : Nat) (o : Option Nat) (b : Int32) (z : Option Nat) (m d : Int32) (c t : Nat) : lv (pS S i k q o b z m d) c t = if c = 5 ∧ t = k then true else lv S c t := rfl
theorem pS_f (S : Gs) (i k q : Nat) (o : Option Nat) (b : Int32) (z : Option Nat) (m d : Int32) : vr (pS S i k q o b z m d) 320 k = o ∧ vi (pS S i k q o b z m d) 321 k = b ∧ vr (pS S i k q o b z m d) 322 k = z ∧ vr (pS S i k q o b z m d) 323 k = none ∧ vi (pS S i k q o b z m d) 324 k = 0 ∧ vi (pS S i k q o b z m d) 325 k = 0 ∧ vr (pS S i k q o b z m d) 263 i = some q ∧ vi (pS S i k q o b z m d) 264 i = d ∧ vi (pS S i k q o b z m d) 265 i = m := by
  refine ⟨?_, ?_, ?_, ?_, ?_, ?_, ?_, ?_, ?_⟩
  all_goals simp [pS, vi_ui_e, vi_ur, vi_un, vr_ui, vr_ur, vr_un]
theorem fr_e (P : Pst) (i e : Nat) (v m : Int32) {f j : Nat} (h : ¬ (((f = 10 ∨ f = 22) ∧ j = i) ∨ ((f = 23 ∨ f = 24 ∨ f = 25 ∨ f = 26 ∨ f = 28 ∨ f = 31) ∧ j = 16 * i + tn (P 22 i)))) : up (p_R_frame P i e v) 10 i m f j = P f j := by
  simp only [p_R_frame, up_e]
  rw [if_neg (by omega), if_neg (by omega), if_neg (by omega), if_neg (by omega), if_neg (by omega), if_neg (by omega), if_neg (by omega), if_neg (by omega)]
theorem fr_f (P : Pst) (i e : Nat) (v m : Int32) : up (p_R_frame P i e v) 10 i m 10 i = m ∧ up (p_R_frame P i e v) 10 i m 22 i = P 22 i + 1 ∧ up (p_R_frame P i e v) 10 i m 23 (16 * i + tn (P 22 i)) = P 0 e ∧ up (p_R_frame P i e v) 10 i m 24 (16 * i + tn (P 22 i)) = nI e ∧ up (p_R_frame P i e v) 10 i m 25 (16 * i + tn (P 22 i)) = 0 ∧ up (p_R_frame P i e v) 10 i m 26 (16 * i + tn (P 22 i)) = v ∧ up (p_R_frame P i e v) 10 i m 28 (16 * i + tn (P 22 i)) = 0 ∧ up (p_R_frame P i e v) 10 i m 31 (16 * i + tn (P 22 i)) = P 10 i := by
  refine ⟨?_, ?_, ?_, ?_, ?_, ?_, ?_, ?_⟩
  all_goals simp [p_R_frame, up_e]
/-- a frame is pushed; S' may differ in its closers -/
theorem Zt.push {P : Pst} {LL : Lls} {S S' : Gs} {M M' : Mm} (hZ : Zt P LL S M) {i e : Nat} (hi : i < nfb P) (h5 : P 5 i = 0) (h15 : P 15 i = 0) (hA : ¬ (P 6 i = 1 ∧ P 10 i = 0)) (hd : tn (P 22 i) < 16) (he : lv S 3 e = true) (he40 : e < 40) (v : Int32) {m : Int32} (hm : m = 0 ∨ m = 1) {q : Nat} {o z : Option Nat} {b d : Int32} (ho : o = some (ad S 3 e)) (hb : b = P 10 i) (hz : z = topR S i (tn (P 22 i))) (hdd : d = P 22 i + 1) (hs : Sx (fun f τ => (f = 323 ∨ f = 324) ∧ τ = 16 * i + tn (P 22 i)) (pS S i (16 * i + tn (P 22 i)) q o b z m d) S') (hC : CLs S' (vr S' 323 (16 * i + tn (P 22 i))) (clst (up (p_R_frame P i e v) 10 i m) (16 * i + tn (P 22 i)))) (hH : P 0 e = 10 ∨ P 0 e = 7 → vi S' 324 (16 * i + tn (P 22 i)) = 0) (hV : VM S' M') : Zt (up (p_R_frame P i e v) 10 i m) LL S' M' := by
  have hw := hZ.2.2.1
  obtain ⟨f10, f22, f23, f24, f25, f26, f28, f31⟩ := fr_f P i e v m
  obtain ⟨p1, p2, p3, p4, p5, p6, p7, p8, p9⟩ := pS_f S i (16 * i + tn (P 22 i)) q o b z m d
  have hn10 : nfb P ≤ 10 := (hw 42 0).2
  have t22 : tn (P 22 i + 1) = tn (P 22 i) + 1 := tn_inc (hw 22 i).1 (by omega)
  have hvo : ∀ f τ, ¬ ((320 ≤ f ∧ f < 384 ∧ τ = 16 * i + tn (P 22 i)) ∨ (263 ≤ f ∧ f ≤ 265 ∧ τ = i)) → vi S' f τ = vi S f τ ∧ vr S' f τ = vr S f τ := fun f τ h => by
    have a := hs.2.2.2.2 f τ (by omega)
    have c := pS_o S i (16 * i + tn (P 22 i)) q o b z m d h
    exact ⟨a.1.trans c.1, a.2.trans c.2⟩
  have hvk : ∀ f, ¬ f = 323 → ¬ f = 324 → vi S' f (16 * i + tn (P 22 i)) = vi (pS S i (16 * i + tn (P 22 i)) q o b z m d) f (16 * i + tn (P 22 i)) ∧ vr S' f (16 * i + tn (P 22 i)) = vr (pS S i (16 * i + tn (P 22 i)) q o b z m d) f (16 * i + tn (P 22 i)) := fun f a c => hs.2.2.2.2 f _ (by omega)
  have hvi : ∀ f, f < 320 → vi S' f i = vi (pS S i (16 * i + tn (P 22 i)) q o b z m d) f i ∧ vr S' f i = vr (pS S i (16 * i + tn (P 22 i)) q o b z m d) f i := fun f a => hs.2.2.2.2 f _ (by omega)
  have hadd : ∀ c t, ¬ (c = 5 ∧ t = 16 * i + tn (P 22 i)) → ad S' c t = ad S c t := fun c t h => by rw [hs.1, pS_ad, if_neg h]
  have hlvv : ∀ c t, ¬ (c = 5 ∧ t = 16 * i + tn (P 22 i)) → lv S' c t = lv S c t := fun c t h => by rw [hs.2.1, pS_lv, if_neg h]
  have hak : ad S' 5 (16 * i + tn (P 22 i)) = q := by rw [hs.1, pS_ad, if_pos ⟨rfl, rfl⟩]
  have hgx : Gx S S' := ⟨fun x hx => ⟨by rw [hlvv 3 x (by omega)]; exact hx, hadd 3 x (by omega)⟩, fun a l h => hs.2.2.1 a l h, fun a l h => hs.2.2.2.1 a l h⟩
  have hrow : ∀ r, rowL (up (p_R_frame P i e v) 10 i m) r = rowL P r := fun r => rowL_ne (fun j => fr_e P i e v m (by omega)) (fun j => fr_e P i e v m (by omega)) (fun j => fr_e P i e v m (by omega))
  have htop : topR S' i (tn (P 22 i)) = topR S i (tn (P 22 i)) := by
    unfold topR
    split
    · rfl
    · rw [hadd 5 _ (by omega)]
  have hWB : WB (up (p_R_frame P i e v) 10 i m) := WB.up (wb_frame hw i e v he40 hd) hm
  refine ⟨hV, hZ.2.1.chg (p := tn (P 22 i)) hw hi hd hgx (fun g j dd => fr_e P i e v m (by unfold dF at dd; omega)) (fun f τ dd => hvo f τ (by unfold dV at dd; omega)) (fun c τ hc => hlvv c τ (by omega)) (fun τ ht => ?_) (fun c τ hc => hadd c τ (by omega)) (fun τ ht => hadd 5 τ (fun w => absurd (ht w.2) (by omega))) (fun x hx => ?_) ?_ (fun _ => ?_), hWB, by rw [fr_e P i e v m (by omega)]; exact hZ.2.2.2⟩
  · rw [hs.2.1, pS_lv]
    split
    · rfl
    · exact ht
  · rw [f22, t22] at hx
    omega
  · have s := hZ.2.1.2.2.2.2.1 i hi
    refine s.run h5 h15 (fun f hf => fr_e P i e v m (by omega)) (by rw [hlvv 4 i (by omega)]; exact s.1.1) (hadd 4 i (by omega)) (hvo _ _ (by omega)).2 (fun f hf => (hvo f i (by omega)).1) ?_ ?_ ?_ ?_
    · rw [f22, t22, topR_s, hak, (hvi 263 (by decide)).2]; exact p7
    · rw [f22, (hvi 264 (by decide)).1, p8, hdd]
    · rw [f10, (hvi 265 (by decide)).1, p9]
    · exact (sf_act hZ.2.1 hi h5 hA).ag2 hgx (fr_e P i e v m (by omega)) (fr_e P i e v m (by omega)) (fr_e P i e v m (by omega)) (fr_e P i e v m (by omega)) (hrow i) (hvo _ _ (by omega)).2 (hvo _ _ (by omega)).1 (hvo _ _ (by omega)).1 (hvo _ _ (by omega)).2
  · unfold SQ
    rw [f23, f24, f25, f28, f31, htop, tn_nI (by omega), (hvk 320 (by decide) (by decide)).2, (hvk 321 (by decide) (by decide)).1, (hvk 322 (by decide) (by decide)).2, (hvk 325 (by decide) (by decide)).1, p1, p2, p3, p6, hadd 3 e (by omega), hlvv 3 e (by omega)]
    refine ⟨⟨by rw [hs.2.1, pS_lv, if_pos ⟨rfl, rfl⟩], he, ho, hb, hz, rfl⟩, hC, fun h _ => hH (Or.inl h), fun h => ⟨fun _ => rfl, fun _ => hH (Or.inr h)⟩, fun h => absurd h (by decide)⟩
theorem Zt.does {P : Pst} {LL : Lls} {S : Gs} {M M' : Mm} (hZ : Zt P LL S M) {i : Nat} (hi : i < nfb P) {x : Int32} (v : Int32) (hx : sm x 39) (hl : lv S 3 (tn x) = true) (h5 : P 5 i = 0) (hV : VM (doS S i (tn x) v) M') : Zt (p_R_does P i x v) LL (doS S i (tn x) v) M' := ⟨hV, hZ.2.1.does hZ.2.2.1 hi v (sm_n0 hx (by decide)) hl h5, wb_does hZ.2.2.1 i (Or.inr hx), hZ.2.2.2⟩
