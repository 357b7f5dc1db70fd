/-! steps of the relation at one fiber -/
/-- the exit of fiber i is set -/
def exS (S : Gs) (i : Nat) (v : Int32) (c : Option Nat) : Gs := ur (ui (ur S 258 i none) 260 i v) 261 i c
theorem exS_sx (S : Gs) (i : Nat) (v : Int32) (c : Option Nat) : Sx (dVi i) S (exS S i v c) := (((Sx.refl _ S).ur (by unfold dVi; omega) _).ui (by unfold dVi; omega) _).ur (by unfold dVi; omega) _
theorem exS_258 (S : Gs) (i : Nat) (v : Int32) (c : Option Nat) : vr (exS S i v c) 258 i = none := by simp [exS, vr_ur, vr_ui]
theorem exS_260 (S : Gs) (i : Nat) (v : Int32) (c : Option Nat) : vi (exS S i v c) 260 i = v := by simp [exS, vi_ur, vi_ui_e]
theorem exS_261 (S : Gs) (i : Nat) (v : Int32) (c : Option Nat) : vr (exS S i v c) 261 i = c := by simp [exS, vr_ur, vr_ui]
theorem exS_vi (S : Gs) (i : Nat) (v : Int32) (c : Option Nat) {f : Nat} (h : f ≠ 260) (t : Nat) : vi (exS S i v c) f t = vi S f t := by simp [exS, vi_ur, vi_ui_e, h]
theorem exS_vr (S : Gs) (i : Nat) (v : Int32) (c : Option Nat) {f : Nat} (h : f ≠ 258) (h' : f ≠ 261) (t : Nat) : vr (exS S i v c) f t = vr S f t := by simp [exS, vr_ur, vr_ui, h, h']
theorem exS_ad (S : Gs) (i : Nat) (v : Int32) (c : Option Nat) : ad (exS S i v c) = ad S := rfl
theorem exS_lv (S : Gs) (i : Nat) (v : Int32) (c : Option Nat) : lv (exS S i v c) = lv S := rfl
theorem exS_kc (S : Gs) (i : Nat) (v : Int32) (c : Option Nat) : kc (exS S i v c) = kc S := rfl
/-- fields 5..10, 12, 15..22 of fiber i are as they were -/
def sameF (i : Nat) (P P' : Pst) : Prop := ∀ f, 5 ≤ f → f ≤ 22 → ¬ f = 11 → ¬ f = 12 → ¬ f = 13 → ¬ f = 14 → P' f i = P f i
theorem SF.exit {P P' : Pst} {S : Gs} {i : Nat} (h : SF P S i) (hp : sameF i P P') (h11 : P' 11 i = -1) (v : Int32) (c : Option Nat) (hn : P 5 i = 1 → ¬ (P 15 i = 2 ∨ P 15 i = 4 ∨ P 15 i = 6)) (hx : ExitR P' (exS S i v c) i) : SF P' (exS S i v c) i ∧ ActR P' (exS S i v c) i := by
  have p5 := hp 5 (by decide) (by decide) (by decide) (by decide) (by decide) (by decide)
  have p6 := hp 6 (by decide) (by decide) (by decide) (by decide) (by decide) (by decide)
  have p7 := hp 7 (by decide) (by decide) (by decide) (by decide) (by decide) (by decide)
  have p8 := hp 8 (by decide) (by decide) (by decide) (by decide) (by decide) (by decide)
  have p9 := hp 9 (by decide) (by decide) (by decide) (by decide) (by decide) (by decide)
  have p10 := hp 10 (by decide) (by decide) (by decide) (by decide) (by decide) (by decide)
  have p15 := hp 15 (by decide) (by decide) (by decide) (by decide) (by decide) (by decide)
  have p16 := hp 16 (by decide) (by decide) (by decide) (by decide) (by decide) (by decide)
  have p17 := hp 17 (by decide) (by decide) (by decide) (by decide) (by decide) (by decide)
  have p19 := hp 19 (by decide) (by decide) (by decide) (by decide) (by decide) (by decide)
  have p22 := hp 22 (by decide) (by decide) (by decide) (by decide) (by decide) (by decide)
  have hA : ActR P' (exS S i v c) i := ⟨fun q => absurd (by rw [h11]; decide) q, fun _ => ⟨exS_258 _ _ _ _, hx⟩⟩
  refine ⟨?_, hA⟩
  obtain ⟨⟨a1, a2, a3, a4, a5, a6, a7, a8, a9, a10, a11⟩, ⟨b1, b2, b3, b4⟩, c1, c2, c3⟩ := h
  unfold SF
  rw [p5, p6, p7, p8, p9, p10, p15, p16, p17, p19, p22, exS_lv, exS_ad, exS_vr S i v c (by omega) (by omega) 0, exS_vi S i v c (by decide), exS_vi S i v c (by decide), exS_vi S i v c (by decide), exS_vi S i v c (by decide), exS_vi S i v c (by decide), exS_vi S i v c (by decide), exS_vi S i v c (by decide), exS_vi S i v c (by decide), exS_vi S i v c (by decide), exS_vi S i v c (by decide), exS_vi S i v c (by decide), exS_vr S i v c (f := 263) (by decide) (by decide)]
  exact ⟨⟨a1, a2, a3, a4, a5, a6, a7, a8, a9, a10, a11⟩, ⟨b1, b2, b3, b4⟩, fun _ _ => hA, fun _ => hx, fun q w => absurd w (hn q)⟩
theorem Sim.exit {P P' : Pst} {LL : Lls} {S : Gs} {i : Nat} (h : Sim P LL S) (hw : WB P) (hi : i < nfb P) (hP : Ag (dFi i) P P') (hp : sameF i P P') (h11 : P' 11 i = -1) (v : Int32) (c : Option Nat) (hn : P 5 i = 1 → ¬ (P 15 i = 2 ∨ P 15 i = 4 ∨ P 15 i = 6)) (hx : ExitR P' (exS S i v c) i) : Sim P' LL (exS S i v c) ∧ ActR P' (exS S i v c) i := by
  obtain ⟨h1, h2⟩ := (h.2.2.2.2.1 i hi).exit hp h11 v c hn hx
  exact ⟨h.fib hw hi (exS_sx S i v c) hP (by rw [hp 22 (by decide) (by decide) (by decide) (by decide) (by decide) (by decide)]; exact Nat.le_refl _) h1, h2⟩
theorem ag_give {D : Nat → Nat → Prop} {P P1 : Pst} {i : Nat} (h : Ag D P P1) (h1 : D 11 i) (h2 : D 14 i) (h3 : D 13 i) (v : Int32) : Ag D P (p_R_give P1 i v) := ((h.up h1 _).up h2 _).up h3 _
theorem give_ag (P : Pst) (i : Nat) (v : Int32) : Ag (dFi i) P (p_R_give P i v) := ag_give (Ag.refl _ P) (by unfold dFi; omega) (by unfold dFi; omega) (by unfold dFi; omega) v
theorem give_same (P : Pst) (i : Nat) (v : Int32) : sameF i P (p_R_give P i v) := fun f _ _ h1 _ h3 h4 => by simp [p_R_give, up_e, h1, h3, h4]
theorem Sim.give {P : Pst} {LL : Lls} {S : Gs} {i : Nat} (h : Sim P LL S) (hw : WB P) (hi : i < nfb P) (v : Int32) (hn : P 5 i = 1 → ¬ (P 15 i = 2 ∨ P 15 i = 4 ∨ P 15 i = 6)) : Sim (p_R_give P i v) LL (exS S i v none) ∧ ActR (p_R_give P i v) (exS S i v none) i := by
  refine h.exit hw hi (give_ag P i v) (give_same P i v) (by simp [p_R_give, up_e]) v none hn ⟨fun _ => ⟨exS_261 _ _ _ _, ?_⟩, fun q => absurd (by simp [p_R_give, up_e]) q⟩
  rw [exS_260]
  simp [p_R_give, up_e]
theorem rowL_single (P : Pst) (r : Nat) (t c : Int32) : rowL (p_R_single P r t c) r = [(t, c)] := by
  have e1 : p_R_single P r t c 33 r = 1 := by simp [p_R_single, up_e]
  have e2 : p_R_single P r t c 34 (9 * r + 0) = t := by simp [p_R_single, up_e]
  have e3 : p_R_single P r t c 35 (9 * r + 0) = c := by simp [p_R_single, up_e]
  unfold rowL
  rw [e1]
  show [((p_R_single P r t c) 34 (9 * r + 0), (p_R_single P r t c) 35 (9 * r + 0))] = _
  rw [e2, e3]
theorem ag_fail {D : Nat → Nat → Prop} {P P1 : Pst} {i : Nat} (h : Ag D P P1) (h1 : D 11 i) (h2 : D 14 i) (h3 : D 33 i) (h4 : D 34 (9 * i)) (h5 : D 35 (9 * i)) (t c : Int32) : Ag D P (p_R_fail P1 i t c) := ((((h.up h1 _).up h2 _).up h3 _).up h4 _).up h5 _
theorem fail_ag (P : Pst) (i : Nat) (t c : Int32) : Ag (dFi i) P (p_R_fail P i t c) := ag_fail (Ag.refl _ P) (by unfold dFi; omega) (by unfold dFi; omega) (by unfold dFi; omega) (by unfold dFi; omega) (by unfold dFi; omega) t c
theorem fail_same (P : Pst) (i : Nat) (t c : Int32) : sameF i P (p_R_fail P i t c) := fun f h0 h00 h1 _ h3 h4 => by
  have : ¬ f = 33 ∧ ¬ f = 34 ∧ ¬ f = 35 := by omega
  simp [p_R_fail, p_R_single, up_e, h1, h4, this]
theorem Sim.fail {P : Pst} {LL : Lls} {S : Gs} {i : Nat} (h : Sim P LL S) (hw : WB P) (hi : i < nfb P) (t c : Int32) {a : Nat} (ha : kc S a = some [(t, c)]) (hn : P 5 i = 1 → ¬ (P 15 i = 2 ∨ P 15 i = 4 ∨ P 15 i = 6)) : Sim (p_R_fail P i t c) LL (exS S i 0 (some a)) := by
  refine (h.exit hw hi (fail_ag P i t c) (fail_same P i t c) (by simp [p_R_fail, p_R_single, up_e]) 0 (some a) hn ⟨fun q => absurd q (by simp [p_R_fail, p_R_single, up_e]), fun _ => ⟨a, exS_261 _ _ _ _, ?_⟩⟩).1
  rw [exS_kc, show rowL (p_R_fail P i t c) i = [(t, c)] from rowL_single _ i t c]
  exact ha
/-- a cause is made and kept -/
theorem Sim.cause {P : Pst} {LL : Lls} {S : Gs} (h : Sim P LL S) (hw : WB P) {a : Nat} (hn : kc S a = none) (l : List (Int32 × Int32)) : Sim P LL (ukc S a l) := by
  obtain ⟨sd, sp, sl, se, sf, sq, spr⟩ := h
  have hs : Sx (fun _ _ => False) S (ukc S a l) := (Sx.refl _ S).kc hn l
  refine ⟨sd, sp, sl, se, fun i hi => ?_, fun i p hi hp => ?_, spr⟩
  · have s := sf i hi
    exact s.ag hs.gx (fun f f1 f2 => rfl) rfl (fun f f1 f2 => ⟨rfl, rfl⟩) s.1.1 rfl rfl rfl
  · have s := sq i p hi hp
    exact s.ag hs.gx (fun f f1 f2 f3 f4 => rfl) rfl rfl (fun f hf => rfl) (fun f f1 f2 => ⟨rfl, rfl⟩) s.1.1 rfl
theorem Sim.closer {P : Pst} {LL : Lls} {S : Gs} (h : Sim P LL S) (hw : WB P) {a : Nat} (hn : kl S a = none) (l : Option Nat × Int32 × Option Nat) : Sim P LL (ukl S a l) := by
  obtain ⟨sd, sp, sl, se, sf, sq, spr⟩ := h
  have hs : Sx (fun _ _ => False) S (ukl S a l) := (Sx.refl _ S).kl hn l
  refine ⟨sd, sp, sl, se, fun i hi => ?_, fun i p hi hp => ?_, spr⟩
  · have s := sf i hi
    exact s.ag hs.gx (fun f f1 f2 => rfl) rfl (fun f f1 f2 => ⟨rfl, rfl⟩) s.1.1 rfl rfl rfl
  · have s := sq i p hi hp
    exact s.ag hs.gx (fun f f1 f2 f3 f4 => rfl) rfl rfl (fun f hf => rfl) (fun f f1 f2 => ⟨rfl, rfl⟩) s.1.1 rfl
theorem VM.newc {S : Gs} {M : Mm} (h : VM S M) {q : Nat} (hq : _root_.Jvm.Pilot.CFiberDeskLaw_law_r2789_ad6031.kd M q = none) : _root_.Jvm.Pilot.CFiberDeskLaw_law_r2789_ad6031.kc S q = none ∧ _root_.Jvm.Pilot.CFiberDeskLaw_law_r2789_ad6031.kl S q = none := by
  constructor
  · cases e : _root_.Jvm.Pilot.CFiberDeskLaw_law_r2789_ad6031.kc S q with
    | none => rfl
    | some l => obtain ⟨t, _, _, _, _, h1, _⟩ := h.2.1 q l e; rw [hq] at h1; cases h1
  · cases e : _root_.Jvm.Pilot.CFiberDeskLaw_law_r2789_ad6031.kl S q with
    | none => rfl
    | some l => obtain ⟨t, h1, _⟩ := h.2.2 q l e; rw [hq] at h1; cases h1
/-- fiber i does effect e -/
def doS (S : Gs) (i e : Nat) (v : Int32) : Gs := ui (ur S 258 i (some (ad S 3 e))) 259 i v
theorem doS_sx (S : Gs) (i e : Nat) (v : Int32) : Sx (dVi i) S (doS S i e v) := ((Sx.refl _ S).ur (by unfold dVi; omega) _).ui (by unfold dVi; omega) _
theorem does_ag (P : Pst) (i : Nat) (e v : Int32) : Ag (dFi i) P (p_R_does P i e v) := ((Ag.refl _ P).up (by unfold dFi; omega) _).up (by unfold dFi; omega) _
theorem doS_act {P : Pst} {S : Gs} {i : Nat} {e : Int32} (v : Int32) (he : ¬ e < 0) (hl : lv S 3 (tn e) = true) : ActR (p_R_does P i e v) (doS S i (tn e) v) i := by
  have e11 : p_R_does P i e v 11 i = e := by simp [p_R_does, up_e]
  have e12 : p_R_does P i e v 12 i = v := by simp [p_R_does, up_e]
  unfold ActR
  rw [e11, e12]
  exact ⟨fun _ => ⟨hl, by simp [doS, vr_ui, vr_ur, ad_ui_e, ad_ur_e], by simp [doS, vi_ui_e]⟩, fun q => absurd q he⟩
theorem SF.does {P : Pst} {S : Gs} {i : Nat} (h : SF P S i) {e : Int32} (v : Int32) (he : ¬ e < 0) (hl : lv S 3 (tn e) = true) (h5 : P 5 i = 0) : SF (p_R_does P i e v) (doS S i (tn e) v) i := by
  obtain ⟨a, b, c1, c2, c3⟩ := h
  have e5 : p_R_does P i e v 5 i = 0 := by simp [p_R_does, up_e, h5]
  refine ⟨by simpa [p_R_does, doS, up_e, vi_ui_e, vr_ui, vr_ur, vi_ur, ad_ui_e, ad_ur_e, lv_ui_e, lv_ur_e, topR, show ¬ 1472 + i = 258 by omega] using a, by simpa [p_R_does, doS, up_e, vi_ui_e, vr_ui, vr_ur, vi_ur] using b, fun _ _ => doS_act v he hl, fun q => ?_, fun q => ?_⟩
  · rw [e5] at q; exact absurd q (by decide)
  · rw [e5] at q; exact absurd q (by decide)
theorem Sim.does {P : Pst} {LL : Lls} {S : Gs} {i : Nat} (h : Sim P LL S) (hw : WB P) (hi : i < nfb P) {e : Int32} (v : Int32) (he : ¬ e < 0) (hl : lv S 3 (tn e) = true) (h5 : P 5 i = 0) : Sim (p_R_does P i e v) LL (doS S i (tn e) v) :=
  h.fib hw hi (doS_sx S i _ v) (does_ag P i e v) (by simp [p_R_does, up_e]) ((h.2.2.2.2.1 i hi).does v he hl h5)
theorem ActR.ag2 {P P' : Pst} {S S' : Gs} {i : Nat} (h : ActR P S i) (hx : Gx S S') (h11 : P' 11 i = P 11 i) (h12 : P' 12 i = P 12 i) (h13 : P' 13 i = P 13 i) (h14 : P' 14 i = P 14 i) (h3 : rowL P' i = rowL P i) (v1 : vr S' 258 i = vr S 258 i) (v2 : vi S' 259 i = vi S 259 i) (v3 : vi S' 260 i = vi S 260 i) (v4 : vr S' 261 i = vr S 261 i) : ActR P' S' i := by
  unfold ActR
  rw [h11, h12, v1, v2]
  refine ⟨fun q => ?_, fun q => ⟨(h.2 q).1, (h.2 q).2.ag hx h14 h13 h3 v4 v3⟩⟩
  obtain ⟨a, b, c⟩ := h.1 q
  exact ⟨(hx.1 _ a).1, by rw [(hx.1 _ a).2]; exact b, c⟩
theorem rowL_ne {P P' : Pst} {r : Nat} (h1 : ∀ j, P' 33 j = P 33 j) (h2 : ∀ j, P' 34 j = P 34 j) (h3 : ∀ j, P' 35 j = P 35 j) : rowL P' r = rowL P r := by
  unfold rowL
  rw [h1]
  refine List.map_congr_left (fun j _ => ?_)
  rw [h2, h3]
theorem wake_row (P : Pst) (i r : Nat) : rowL (p_R_wake P i) r = rowL P r := rowL_ne (fun j => by simp [p_R_wake, up_e]) (fun j => by simp [p_R_wake, up_e]) (fun j => by simp [p_R_wake, up_e])
/-- fiber i is ready again (the queue is another matter) -/
theorem wake_ag (P : Pst) (i : Nat) : Ag (dFi i) P (p_R_wake P i) := ((((Ag.refl _ P).up (by unfold dFi; omega) _).up (by unfold dFi; omega) _).up (by unfold dFi; omega) _).up (by unfold dFi; omega) _
theorem SF.wake {P : Pst} {S : Gs} {i : Nat} (h : SF P S i) (h5 : P 5 i = 1) (hA : (P 6 i = 1 ∧ P 10 i = 0) ∨ ActR P S i) : SF (p_R_wake P i) (ui S 269 i 0) i := by
  obtain ⟨⟨a1, a2, a3, a4, a5, a6, a7, a8, a9, a10, a11⟩, ⟨b1, b2, b3, b4⟩, c1, c2, c3⟩ := h
  have e5 : p_R_wake P i 5 i = 0 := by simp [p_R_wake, up_e]
  have e15 : p_R_wake P i 15 i = 0 := by simp [p_R_wake, up_e]
  have e6 : p_R_wake P i 6 i = P 6 i := by simp [p_R_wake, up_e]
  have e7 : p_R_wake P i 7 i = P 7 i := by simp [p_R_wake, up_e]
  have e10 : p_R_wake P i 10 i = P 10 i := by simp [p_R_wake, up_e]
  refine ⟨⟨a1, a2, ?_, ?_, ?_, ?_, ?_, ?_, ?_, ?_, ?_⟩, ⟨?_, ?_, ?_, ?_⟩, fun _ q => ?_, fun q => ?_, fun q => ?_⟩
  · rw [vi_ui_f (by decide)]; exact a3
  · rw [vi_ui_f (by decide)]; simpa [p_R_wake, up_e] using a4
  · rw [vi_ui_f (by decide), e5, a5, h5]; decide
  · simpa [p_R_wake, up_e, vr_ui, topR, ad_ui_e] using a6
  · rw [vi_ui_f (by decide)]; simpa [p_R_wake, up_e] using a7
  · rw [vi_ui_f (by decide)]; simpa [p_R_wake, up_e] using a8
  · rw [vi_ui_f (by decide)]; simpa [p_R_wake, up_e] using a9
  · rw [vi_ui_f (by decide)]; simpa [p_R_wake, up_e] using a10
  · rw [vi_ui_s, e15]
  · rw [vi_ui_f (by decide), e6, e7]; exact b1
  · rw [e15]; intro q; exact absurd q (by decide)
  · rw [e15]; intro q; exact absurd q (by decide)
  · rw [e15]; intro q; exact absurd q (by decide)
  · rw [e6, e10] at q
    rcases hA with w | w
    · exact absurd w q
    · exact w.ag2 (Gx.refl S) (S' := ui S 269 i 0) (by simp [p_R_wake, up_e]) (by simp [p_R_wake, up_e]) (by simp [p_R_wake, up_e]) (by simp [p_R_wake, up_e]) (wake_row P i i) rfl (vi_ui_f (by decide) _ _ _ _) (vi_ui_f (by decide) _ _ _ _) rfl
  · rw [e5] at q; exact absurd q (by decide)
  · rw [e5] at q; exact absurd q (by decide)
theorem Sim.wake {P : Pst} {LL : Lls} {S : Gs} {i : Nat} (h : Sim P LL S) (hw : WB P) (hi : i < nfb P) (h5 : P 5 i = 1) (hA : (P 6 i = 1 ∧ P 10 i = 0) ∨ ActR P S i) : Sim (p_R_wake P i) LL (ui S 269 i 0) :=
  h.fib hw hi ((Sx.refl _ S).ui (by unfold dVi; omega) _) (wake_ag P i) (by simp [p_R_wake, up_e]) ((h.2.2.2.2.1 i hi).wake h5 hA)
/-- the reference gives a waiting fiber its exit before it wakes it; the class has done so already -/
theorem Sim.giveW {P : Pst} {LL : Lls} {S : Gs} {i : Nat} (h : Sim P LL S) (hw : WB P) (hi : i < nfb P) (h5 : P 5 i = 1) (v : Int32) : Sim (p_R_give P i v) LL S := by
  refine h.fib hw hi (Sx.refl _ S) (give_ag P i v) (by simp [p_R_give, up_e]) ?_
  obtain ⟨a, b, c1, c2, c3⟩ := h.2.2.2.2.1 i hi
  refine ⟨by simpa [p_R_give, up_e] using a, by simpa [p_R_give, up_e] using b, fun q => ?_, fun q => ?_, by simpa [p_R_give, up_e] using c3⟩
  · rw [give_same P i v 5 (by decide) (by decide) (by decide) (by decide) (by decide) (by decide), h5] at q; exact absurd q (by decide)
  · rw [give_same P i v 5 (by decide) (by decide) (by decide) (by decide) (by decide) (by decide), h5] at q; exact absurd q (by decide)
theorem Sim.giveA {P : Pst} {LL : Lls} {S : Gs} {i : Nat} (h : Sim P LL S) (hi : i < nfb P) (h5 : P 5 i = 1) (h15 : P 15 i = 2 ∨ P 15 i = 4 ∨ P 15 i = 6) (v : Int32) (hv : v = if P 15 i = 2 then 0 else P 17 i) : ActR (p_R_give P i v) S i := by
  obtain ⟨-, -, -, -, c3⟩ := h.2.2.2.2.1 i hi
  obtain ⟨q1, q2, q3⟩ := c3 h5 h15
  refine ⟨fun q => absurd (by simp [p_R_give, up_e]) q, fun _ => ⟨q1, fun _ => ⟨q2, ?_⟩, fun q => absurd (by simp [p_R_give, up_e]) q⟩⟩
  rw [q3, show p_R_give P i v 13 i = v by simp [p_R_give, up_e], hv]
theorem rest_ag (P : Pst) (i : Nat) (w v t : Int32) : Ag (dFi i) P (p_R_rest P i w v t) := ((((((Ag.refl _ P).up (by unfold dFi; omega) _).up (by unfold dFi; omega) _).up (by unfold dFi; omega) _).up (by unfold dFi; omega) _).up (by unfold dFi; omega) _).up (by unfold dFi; omega) _
def waS (S : Gs) (i : Nat) (w o : Int32) : Gs := ui (ui (ur S 258 i none) 269 i w) 270 i o
theorem waS_sx (S : Gs) (i : Nat) (w o : Int32) : Sx (dVi i) S (waS S i w o) := (((Sx.refl _ S).ur (by unfold dVi; omega) _).ui (by unfold dVi; omega) _).ui (by unfold dVi; omega) _
theorem SF.rest {P : Pst} {S : Gs} {i : Nat} (h : SF P S i) (w v t o : Int32) (h5 : P 5 i = 0) (ho : w = 1 ∨ w = 2 ∨ w = 5 ∨ w = 6 → o = v) (h3 : w = 3 → o = P 19 i) (h4 : w = 4 → vi S 271 i = v) (hx : w = 2 ∨ w = 4 ∨ w = 6 → vr S 261 i = none ∧ vi S 260 i = if w = 2 then 0 else t) : SF (p_R_rest P i w v t) (waS S i w o) i := by
  obtain ⟨⟨a1, a2, a3, a4, a5, a6, a7, a8, a9, a10, a11⟩, ⟨b1, b2, b3, b4⟩, c1, c2, c3⟩ := h
  have e5 : p_R_rest P i w v t 5 i = 1 := by simp [p_R_rest, up_e]
  have e15 : p_R_rest P i w v t 15 i = w := by simp [p_R_rest, up_e]
  have e16 : p_R_rest P i w v t 16 i = v := by simp [p_R_rest, up_e]
  have e17 : p_R_rest P i w v t 17 i = t := by simp [p_R_rest, up_e]
  have e19 : p_R_rest P i w v t 19 i = P 19 i := by simp [p_R_rest, up_e]
  have v0 : ∀ f, ¬ f = 269 → ¬ f = 270 → vi (waS S i w o) f i = vi S f i := fun f q1 q2 => by simp [waS, vi_ui_e, vi_ur, q1, q2]
  have v270 : vi (waS S i w o) 270 i = o := by simp [waS, vi_ui_e]
  have v269 : vi (waS S i w o) 269 i = w := by simp [waS, vi_ui_e]
  have r0 : ∀ f t, ¬ f = 258 → vr (waS S i w o) f t = vr S f t := fun f t q => by simp [waS, vr_ui, vr_ur, q]
  have r258 : vr (waS S i w o) 258 i = none := by simp [waS, vr_ui, vr_ur]
  refine ⟨⟨a1, ?_, ?_, ?_, ?_, ?_, ?_, ?_, ?_, ?_, ?_⟩, ⟨?_, ?_, ?_, ?_⟩, fun q => ?_, fun q => ?_, fun _ q => ?_⟩
  · rw [r0 _ _ (by omega)]; exact a2
  · rw [v0 _ (by decide) (by decide)]; exact a3
  · rw [v0 _ (by decide) (by decide)]; simpa [p_R_rest, up_e] using a4
  · rw [v0 _ (by decide) (by decide), e5, a5, h5]; decide
  · rw [r0 _ _ (by decide), topR_ad (S := S) (S' := waS S i w o) rfl]; simpa [p_R_rest, up_e] using a6
  · rw [v0 _ (by decide) (by decide)]; simpa [p_R_rest, up_e] using a7
  · rw [v0 _ (by decide) (by decide)]; simpa [p_R_rest, up_e] using a8
  · rw [v0 _ (by decide) (by decide)]; simpa [p_R_rest, up_e] using a9
  · rw [v0 _ (by decide) (by decide)]; simpa [p_R_rest, up_e] using a10
  · rw [v269, e15]
  · rw [v0 _ (by decide) (by decide)]; simpa [p_R_rest, up_e] using b1
  · rw [e15, e16, v270]; exact ho
  · rw [e15, e19, v270]; exact h3
  · rw [e15, e16, v0 _ (by decide) (by decide)]; exact h4
  · rw [e5] at q; exact absurd q (by decide)
  · rw [e5] at q; exact absurd q (by decide)
  · rw [e15] at q
    rw [r258, r0 _ _ (by decide), v0 _ (by decide) (by decide), e15, e17]
    exact ⟨rfl, hx q⟩
theorem Sim.rest {P : Pst} {LL : Lls} {S : Gs} {i : Nat} (h : Sim P LL S) (hw : WB P) (hi : i < nfb P) (w v t o : Int32) (h5 : P 5 i = 0) (ho : w = 1 ∨ w = 2 ∨ w = 5 ∨ w = 6 → o = v) (h3 : w = 3 → o = P 19 i) (h4 : w = 4 → vi S 271 i = v) (hx : w = 2 ∨ w = 4 ∨ w = 6 → vr S 261 i = none ∧ vi S 260 i = if w = 2 then 0 else t) : Sim (p_R_rest P i w v t) LL (waS S i w o) :=
  h.fib hw hi (waS_sx S i w o) (rest_ag P i w v t) (by simp [p_R_rest, up_e]) ((h.2.2.2.2.1 i hi).rest w v t o h5 ho h3 h4 hx)
/-- an interrupt is pending -/
theorem Sim.told {P : Pst} {LL : Lls} {S : Gs} {i : Nat} (h : Sim P LL S) (hw : WB P) (hi : i < nfb P) (who : Int32) : Sim (up (up P 6 i 1) 7 i who) LL (ui (ui S 266 i 1) 267 i who) := by
  refine h.fib hw hi (((Sx.refl _ S).ui (by unfold dVi; omega) _).ui (by unfold dVi; omega) _) (((Ag.refl _ P).up (by unfold dFi; omega) _).up (by unfold dFi; omega) _) (by simp [up_e]) ?_
  obtain ⟨⟨a1, a2, a3, a4, a5, a6, a7, a8, a9, a10, a11⟩, ⟨b1, b2, b3, b4⟩, c1, c2, c3⟩ := h.2.2.2.2.1 i hi
  have hrow : rowL (up (up P 6 i 1) 7 i who) i = rowL P i := rowL_ne (fun j => by simp [up_e]) (fun j => by simp [up_e]) (fun j => by simp [up_e])
  refine ⟨⟨a1, a2, ?_, ?_, ?_, ?_, ?_, ?_, ?_, ?_, ?_⟩, ⟨?_, ?_, ?_, ?_⟩, fun q w => ?_, fun q => ?_, ?_⟩
  · simpa [up_e, vi_ui_e] using a3
  · simpa [up_e, vi_ui_e] using a4
  · simpa [up_e, vi_ui_e] using a5
  · simpa [up_e, vr_ui, topR, ad_ui_e] using a6
  · simpa [up_e, vi_ui_e] using a7
  · simpa [up_e, vi_ui_e] using a8
  · simp [up_e, vi_ui_e]
  · simpa [up_e, vi_ui_e] using a10
  · simpa [up_e, vi_ui_e] using a11
  · simp [up_e, vi_ui_e]
  · simpa [up_e, vi_ui_e] using b2
  · simpa [up_e, vi_ui_e] using b3
  · simpa [up_e, vi_ui_e] using b4
  · have q' : P 5 i = 0 := by simpa [up_e] using q
    have w' : ¬ P 10 i = 0 := by simpa [up_e] using w
    exact (c1 q' (fun z => w' z.2)).ag2 (Gx.refl S) (S' := ui (ui S 266 i 1) 267 i who) (by simp [up_e]) (by simp [up_e]) (by simp [up_e]) (by simp [up_e]) hrow rfl (by simp [vi_ui_e]) (by simp [vi_ui_e]) rfl
  · have q' : P 5 i = 2 := by simpa [up_e] using q
    exact (c2 q').ag (Gx.refl S) (S' := ui (ui S 266 i 1) 267 i who) (by simp [up_e]) (by simp [up_e]) hrow rfl (by simp [vi_ui_e])
  · simpa [up_e, vi_ui_e, vr_ui] using c3
