/-! making fibers (by program: wip/tools/gen_s4.py) -/
def niS (S : Gs) (i q : Nat) (x p : Int32) : Gs := ui (ui (ui (ui (ui (ui (ui (ui (ui (ui (ur (ui (ur (ui (ui (ur (un S 4 i q) 258 i none) 259 i 0) 260 i 0) 261 i none) 262 i 0) 263 i none) 264 i 0) 265 i 0) 266 i 0) 267 i (-1)) 268 i 0) 269 i 0) 270 i (-1)) 271 i 0) 256 i x) 257 i p
def mkS (S : Gs) (i q : Nat) (x p : Int32) (e : Option Nat) (w m : Int32) (o : Option Nat) : Gs := ui (ur (ui (ur (niS S i q x p) 258 i e) 259 i w) (1472 + i) 0 o) 3 0 m
theorem mkS_ad (S : Gs) (i q : Nat) (x p : Int32) (e : Option Nat) (w m : Int32) (o : Option Nat) (c t : Nat) : ad (mkS S i q x p e w m o) c t = if c = 4 ∧ t = i then q else ad S c t := rfl
theorem mkS_lv (S : Gs) (i q : Nat) (x p : Int32) (e : Option Nat) (w m : Int32) (o : Option Nat) (c t : Nat) : lv (mkS S i q x p e w m o) c t = if c = 4 ∧ t = i then true else lv S c t := rfl
theorem mkS_vi (S : Gs) (i q : Nat) (x p : Int32) (e : Option Nat) (w m : Int32) (o : Option Nat) (f t : Nat) (h : ¬ ((256 ≤ f ∧ f < 320 ∧ t = i) ∨ (t = 0 ∧ (f = 3 ∨ f = 1472 + i)))) : vi (mkS S i q x p e w m o) f t = vi S f t ∧ vr (mkS S i q x p e w m o) f t = vr S f t := by
  have n : ∀ g, 256 ≤ g → g < 320 → ¬ (f = g ∧ t = i) := fun g h1 h2 q => h (by omega)
  have n2 : ¬ (f = 3 ∧ t = 0) := by omega
  have n3 : ¬ (f = 1472 + i ∧ t = 0) := by omega
  have n4 : ¬ (t = i ∧ 64 * 4 ≤ f ∧ f < 64 * 4 + 64) := by omega
  constructor
  · simp only [mkS, niS, vi_ui_e, vi_ur, vi_un]
    rw [if_neg n2]
    rw [if_neg (n _ (by decide) (by decide)), if_neg (n _ (by decide) (by decide)), if_neg (n _ (by decide) (by decide)), if_neg (n _ (by decide) (by decide)), if_neg (n _ (by decide) (by decide)), if_neg (n _ (by decide) (by decide)), if_neg (n _ (by decide) (by decide)), if_neg (n _ (by decide) (by decide)), if_neg (n _ (by decide) (by decide)), if_neg (n _ (by decide) (by decide)), if_neg (n _ (by decide) (by decide)), if_neg (n _ (by decide) (by decide)), if_neg (n _ (by decide) (by decide)), if_neg (n _ (by decide) (by decide)), if_neg n4]
  · simp only [mkS, niS, vr_ui, vr_ur, vr_un]
    rw [if_neg n3]
    rw [if_neg (n _ (by decide) (by decide)), if_neg (n _ (by decide) (by decide)), if_neg (n _ (by decide) (by decide)), if_neg (n _ (by decide) (by decide)), if_neg n4]
theorem mk_P (P : Pst) (e v b : Int32) (f j : Nat) (h : ¬ ((5 ≤ f ∧ f ≤ 22 ∧ j = nfb P) ∨ (f = 42 ∧ j = 0) ∨ f = 36 ∨ f = 43)) : p_R_make P e v b f j = P f j := by
  have n : ∀ g, 5 ≤ g → g ≤ 22 → ¬ (f = g ∧ j = tn (P 42 0)) := fun g h1 h2 q => h (by unfold nfb; omega)
  have n2 : ¬ (f = 42 ∧ j = 0) := by omega
  have n3 : ∀ k, ¬ (f = 36 ∧ j = k) := by intro k; omega
  have n4 : ∀ k, ¬ (f = 43 ∧ j = k) := by intro k; omega
  simp only [p_R_make, up_e]
  rw [if_neg (n3 _), if_neg (n4 _), if_neg (n 22 (by decide) (by decide)), if_neg (n 15 (by decide) (by decide)), if_neg (n 12 (by decide) (by decide)), if_neg (n 11 (by decide) (by decide)), if_neg (n 10 (by decide) (by decide)), if_neg (n 9 (by decide) (by decide)), if_neg (n 8 (by decide) (by decide)), if_neg (n 6 (by decide) (by decide)), if_neg (n 5 (by decide) (by decide)), if_neg n2]
theorem Sim.make {P : Pst} {LL : Lls} {S S' : Gs} (h : Sim P LL S) (hw : WB P) (hn : nfb P < 10) (e v b : Int32) (ha : ∀ c τ, ¬ (c = 4 ∧ τ = nfb P) → ad S' c τ = ad S c τ) (hl : ∀ c τ, ¬ (c = 4 ∧ τ = nfb P) → lv S' c τ = lv S c τ) (hkc : kc S' = kc S) (hkl : kl S' = kl S) (hv : ∀ f τ, ¬ ((256 ≤ f ∧ f < 320 ∧ τ = nfb P) ∨ (τ = 0 ∧ (f = 3 ∨ f = 1472 + nfb P))) → vi S' f τ = vi S f τ ∧ vr S' f τ = vr S f τ) (h3 : vi S' 3 0 = P 42 0 + 1) (hF : SF (p_R_make P e v b) S' (nfb P)) : Sim (p_R_make P e v b) LL S' := by
  obtain ⟨sd, sp, sl, se, sf, sq, spr⟩ := h
  have hP := mk_P P e v b
  have e42 : p_R_make P e v b 42 0 = P 42 0 + 1 := by simp [p_R_make, up_e]
  have e22 : p_R_make P e v b 22 (nfb P) = 0 := by simp [p_R_make, up_e, nfb]
  have en : nfb (p_R_make P e v b) = nfb P + 1 := by
    show tn (p_R_make P e v b 42 0) = tn (P 42 0) + 1
    rw [e42]
    exact tn_inc (hw 42 0).1 (by have : nfb P < 10 := hn; unfold nfb at this; omega)
  have ene : nef (p_R_make P e v b) = nef P := by unfold nef; rw [hP 4 0 (by omega)]
  have hx : Gx S S' := ⟨fun e' he => ⟨by rw [hl 3 e' (by omega)]; exact he, ha 3 e' (by omega)⟩, fun a l q => by rw [hkc]; exact q, fun a l q => by rw [hkl]; exact q⟩
  have hd16 : ∀ j, tn (P 22 j) ≤ 16 := fun j => (hw 22 j).2
  have erow : ∀ r, rowL (p_R_make P e v b) r = rowL P r := fun r => rowL_ag (hP 33 r (by omega)) (hw 33 r).2 (fun j hj => ⟨hP 34 _ (by omega), hP 35 _ (by omega)⟩)
  refine ⟨?_, ?_, ?_, ?_, ?_, ?_, ?_⟩
  · obtain ⟨⟨l1, l2, l3, l4, l5⟩, d1, d2, d3, d4, d5, d6, d7, d8, d9, d10, d11, d12, d13⟩ := sd
    unfold SD
    rw [hl 0 0 (by omega), hl 21 0 (by omega), hl 22 0 (by omega), hl 23 0 (by omega), hl 24 0 (by omega), ha 22 0 (by omega), ha 23 0 (by omega), ha 1 0 (by omega), ha 24 0 (by omega), ha 21 0 (by omega), (hv 0 0 (by omega)).2, (hv 1 0 (by omega)).1, (hv 2 0 (by omega)).2, h3, (hv 4 0 (by omega)).2, (hv 5 0 (by omega)).2, (hv 6 0 (by omega)).2, (hv 7 0 (by omega)).1, (hv 8 0 (by omega)).1, (hv 9 0 (by omega)).1, (hv 10 0 (by omega)).1, (hv 11 0 (by omega)).2, (hv 12 0 (by omega)).1, hP 4 0 (by omega), e42, hP 46 0 (by omega), hP 44 0 (by omega), hP 45 0 (by omega), hP 47 0 (by omega), hP 48 0 (by omega), hP 49 0 (by omega), en]
    refine ⟨⟨l1, l2, l3, l4, l5⟩, d1, d2, d3, rfl, d5, d6, d7, d8, d9, d10, d11, ?_, fun q => ⟨by have := (d13 q).1; omega, (d13 q).2⟩⟩
    rw [d12]
    split
    · rfl
    · rename_i q
      rw [ha 4 _ (by have := (d13 q).1; omega)]
  · intro n hn4
    obtain ⟨b1, b2, b3, b4, b5⟩ := sp n hn4
    rw [hl 2 n (by omega), ha 2 n (by omega), ha 1 _ (by omega), ha 1 _ (by omega), (hv (1536 + n) 0 (by omega)).2, (hv 132 n (by omega)).2, (hv 133 n (by omega)).2, (hv 128 n (by omega)).1, (hv 129 n (by omega)).1, (hv 130 n (by omega)).1, (hv 131 n (by omega)).1, hP 51 0 (by omega), hP 37 n (by omega), hP 41 n (by omega), hP 38 n (by omega), hP 39 n (by omega)]
    exact ⟨b1, b2, b3, b4, b5⟩
  · intro t ht
    obtain ⟨b1, b2, b3, b4, b5, b6⟩ := sl t ht
    unfold Ln
    rw [hl 1 t (by omega), hl 20 t (by omega), ha 20 t (by omega), (hv 64 t (by omega)).2, (hv 65 t (by omega)).1]
    exact ⟨b1, b2, b3, b4, b5, fun j hj => by rw [(hv (1280 + j) t (by omega)).1]; exact b6 j hj⟩
  · intro e'
    obtain ⟨b1, b2⟩ := se e'
    rw [ene, hl 3 e' (by omega)]
    refine ⟨b1, fun q => ?_⟩
    have h40 : e' < 40 := by have := b1.mpr q; have h4 : nef P ≤ 40 := (hw 4 0).2; omega
    rw [ha 3 _ (by omega), ha 3 _ (by omega), ha 3 _ (by omega), ha 3 _ (by omega), hl 3 _ (by omega), hl 3 _ (by omega), hl 3 _ (by omega), (hv (1408 + e') 0 (by omega)).2, (hv 192 e' (by omega)).1, (hv 193 e' (by omega)).1, (hv 194 e' (by omega)).2, (hv 195 e' (by omega)).2, (hv 196 e' (by omega)).2, hP 0 e' (by omega), hP 1 e' (by omega), hP 2 e' (by omega), hP 3 e' (by omega)]
    exact b2 q
  · intro j hj
    rw [en] at hj
    by_cases q : j = nfb P
    · subst q; exact hF
    · have s := sf j (by omega)
      refine s.ag hx (fun f f1 f2 => hP f j (by omega)) (erow j) (fun f f1 f2 => hv f j (by omega)) (by rw [hl 4 j (by omega)]; exact s.1.1) (ha 4 j (by omega)) (hv (1472 + j) 0 (by omega)).2 ?_
      unfold topR
      rw [ha 5 _ (by omega)]
  · intro j p hj hp
    rw [en] at hj
    by_cases q : j = nfb P
    · subst q; rw [e22] at hp; exact absurd hp (Nat.not_lt_zero _)
    · rw [hP 22 j (by omega)] at hp
      have s := sq j p (by omega) hp
      refine s.ag hx (fun f f1 f2 f3 f4 => hP f _ (by omega)) (erow _) (stk_ag (fun m hm => ⟨hP 29 _ (by omega), hP 30 _ (by omega)⟩) _ (hw 28 _).2) (fun f hf => hP f _ (by omega)) (fun f f1 f2 => hv f _ (by omega)) (by rw [hl 5 _ (by omega)]; exact s.1.1) ?_
      unfold topR
      rw [ha 5 _ (by omega)]
  · intro j hj
    rw [(hv (1344 + j) 0 (by omega)).1, hP 40 j (by omega)]
    exact spr j hj
theorem SF.new {P : Pst} {S : Gs} {q : Nat} (hw : WB P) (e v b : Int32) (he : ¬ e < 0) (hl : lv S 3 (tn e) = true) (w o : Option Nat) (hwo : w = some (ad S 3 (tn e))) (hoo : o = some q) (m x : Int32) (hx : x = nI (nfb P)) : SF (p_R_make P e v b) (mkS S (nfb P) q x b w v m o) (nfb P) := by
  have e5 : p_R_make P e v b 5 (nfb P) = 0 := by simp [p_R_make, up_e, nfb]
  have e6 : p_R_make P e v b 6 (nfb P) = 0 := by simp [p_R_make, up_e, nfb]
  have e8 : p_R_make P e v b 8 (nfb P) = b := by simp [p_R_make, up_e, nfb]
  have e9 : p_R_make P e v b 9 (nfb P) = 0 := by simp [p_R_make, up_e, nfb]
  have e10 : p_R_make P e v b 10 (nfb P) = 0 := by simp [p_R_make, up_e, nfb]
  have e11 : p_R_make P e v b 11 (nfb P) = e := by simp [p_R_make, up_e, nfb]
  have e12 : p_R_make P e v b 12 (nfb P) = v := by simp [p_R_make, up_e, nfb]
  have e15 : p_R_make P e v b 15 (nfb P) = 0 := by simp [p_R_make, up_e, nfb]
  have e22 : p_R_make P e v b 22 (nfb P) = 0 := by simp [p_R_make, up_e, nfb]
  have g3 : ∀ k, ¬ k = 3 → vi (mkS S (nfb P) q x b w v m o) k (nfb P) = vi (niS S (nfb P) q x b) k (nfb P) ∨ k = 259 := fun k hk => by
    by_cases h : k = 259
    · exact Or.inr h
    · left; simp [mkS, vi_ui_e, vi_ur, hk, h]
  refine ⟨⟨?_, ?_, ?_, ?_, ?_, ?_, ?_, ?_, ?_, ?_, ?_⟩, ⟨?_, ?_, ?_, ?_⟩, fun _ _ => ?_, fun q => ?_, fun q => ?_⟩
  · rw [mkS_lv, if_pos ⟨rfl, rfl⟩]
  · rw [mkS_ad, if_pos ⟨rfl, rfl⟩]; simp [mkS, vr_ui, vr_ur, hoo]
  · simp [mkS, niS, vi_ui_e, vi_ur, hx]
  · rw [e8]; simp [mkS, niS, vi_ui_e, vi_ur]
  · rw [e5]; simp [mkS, niS, vi_ui_e, vi_ur, endI]
  · rw [e22]; simp [mkS, niS, vr_ui, vr_ur, topR, tn_0]; omega
  · rw [e22]; simp [mkS, niS, vi_ui_e, vi_ur]
  · rw [e10]; simp [mkS, niS, vi_ui_e, vi_ur]
  · rw [e6]; simp [mkS, niS, vi_ui_e, vi_ur]
  · rw [e9]; simp [mkS, niS, vi_ui_e, vi_ur]
  · rw [e15]; simp [mkS, niS, vi_ui_e, vi_ur]
  · rw [e6]; intro q; exact absurd q (by decide)
  · rw [e15]; intro q; exact absurd q (by decide)
  · rw [e15]; intro q; exact absurd q (by decide)
  · rw [e15]; intro q; exact absurd q (by decide)
  · unfold ActR
    rw [e11, e12, mkS_lv, if_neg (by omega), mkS_ad, if_neg (by omega)]
    refine ⟨fun _ => ⟨hl, ?_, ?_⟩, fun q => absurd q he⟩
    · rw [← hwo]; simp [mkS, vr_ui, vr_ur]; omega
    · simp [mkS, vi_ui_e, vi_ur]
  · rw [e5] at q; exact absurd q (by decide)
  · rw [e5] at q; exact absurd q (by decide)
theorem Zt.make {P : Pst} {LL : Lls} {S : Gs} {M : Mm} (hZ : Zt P LL S M) {q : Nat} (hn : nfb P < 10) (e v b : Int32) (he : ¬ e < 0) (hl : lv S 3 (tn e) = true) (w o : Option Nat) (hwo : w = some (ad S 3 (tn e))) (hoo : o = some q) (m x : Int32) (hx : x = nI (nfb P)) (hm : m = P 42 0 + 1) : Sim (p_R_make P e v b) LL (mkS S (nfb P) q x b w v m o) :=
  hZ.2.1.make hZ.2.2.1 hn e v b (fun c τ h => by rw [mkS_ad, if_neg h]) (fun c τ h => by rw [mkS_lv, if_neg h]) rfl rfl (fun f τ h => mkS_vi S _ _ _ _ _ _ _ _ f τ h) (by rw [← hm]; simp [mkS, vi_ui_e]) (SF.new hZ.2.2.1 e v b he hl w o hwo hoo m x hx)
theorem niS_ad (S : Gs) (i q : Nat) (x p : Int32) : ad (niS S i q x p) 4 i = q := by
  show (if 4 = 4 ∧ i = i then q else ad S 4 i) = q
  rw [if_pos ⟨rfl, rfl⟩]
theorem niS_k {S : Gs} {i q : Nat} {x p : Int32} {c t : Nat} {o : Option Nat} (h : o = some (ad S c t)) (hc : ¬ c = 4) : o = some (ad (niS S i q x p) c t) := by
  show o = some (if c = 4 ∧ t = i then q else ad S c t)
  rw [if_neg (fun w => hc w.1)]
  exact h
theorem niS_l {S : Gs} {i q : Nat} {x p : Int32} {c t : Nat} (h : lv S c t = true) : lv (niS S i q x p) c t = true := by
  show (if c = 4 ∧ t = i then true else lv S c t) = true
  split
  · rfl
  · exact h
theorem niS_l4 (S : Gs) (i q : Nat) (x p : Int32) : lv (niS S i q x p) 4 i = true := by
  show (if 4 = 4 ∧ i = i then true else lv S 4 i) = true
  rw [if_pos ⟨rfl, rfl⟩]
theorem niS_r {S : Gs} {i q : Nat} {x p : Int32} {f t : Nat} (h : f < 256 ∨ 320 ≤ f) : vr (niS S i q x p) f t = vr S f t ∧ vi (niS S i q x p) f t = vi S f t := by
  have n : ∀ g, 256 ≤ g → g < 320 → ¬ (f = g ∧ t = i) := fun g h1 h2 q => by omega
  have n4 : ¬ (t = i ∧ 64 * 4 ≤ f ∧ f < 64 * 4 + 64) := by omega
  constructor
  · simp only [niS, vr_ui, vr_ur, vr_un]
    rw [if_neg (n _ (by decide) (by decide)), if_neg (n _ (by decide) (by decide)), if_neg (n _ (by decide) (by decide)), if_neg n4]
  · simp only [niS, vi_ui_e, vi_ur, vi_un]
    rw [if_neg (n _ (by decide) (by decide)), if_neg (n _ (by decide) (by decide)), if_neg (n _ (by decide) (by decide)), if_neg (n _ (by decide) (by decide)), if_neg (n _ (by decide) (by decide)), if_neg (n _ (by decide) (by decide)), if_neg (n _ (by decide) (by decide)), if_neg (n _ (by decide) (by decide)), if_neg (n _ (by decide) (by decide)), if_neg (n _ (by decide) (by decide)), if_neg (n _ (by decide) (by decide)), if_neg (n _ (by decide) (by decide)), if_neg (n _ (by decide) (by decide)), if_neg n4]
theorem v_L_addx {S : Gs} {M : Mm} (hV : VM S M) {t : Nat} {l : List Nat} (hL : Ln S t l) (ht : t < 9) (hl : l.length < 10) {n : Nat} {x : Int32} (hx : x = nI n) : Run m_L_add ownC 0 0 0 [va_rf (some (ad S 1 t)), .int x] M (fun r M' => r = none ∧ VM (ui (ui S (1280 + l.length) t (nI n)) 65 t (nI l.length + 1)) M') := by
  subst hx
  exact v_L_add hV hL ht hl n
theorem mkS_o {S : Gs} {i q : Nat} {x p : Int32} {e : Option Nat} {w m : Int32} {o : Option Nat} {c t : Nat} {z : Option Nat} (hc : ¬ c = 4) (h : z = some (ad S c t)) : z = some (ad (mkS S i q x p e w m o) c t) := by
  rw [mkS_ad, if_neg (fun w => hc w.1)]
  exact h
theorem mkS_o4 (S : Gs) (i q : Nat) (x p : Int32) (e : Option Nat) (w m : Int32) (o : Option Nat) : some q = some (ad (mkS S i q x p e w m o) 4 i) := by
  rw [mkS_ad, if_pos ⟨rfl, rfl⟩]
theorem mkS_l {S : Gs} {i q : Nat} {x p : Int32} {e : Option Nat} {w m : Int32} {o : Option Nat} {c t : Nat} (h : lv S c t = true) : lv (mkS S i q x p e w m o) c t = true := by
  rw [mkS_lv]
  split
  · rfl
  · exact h
theorem Kp_mk {P : Pst} {S S' : Gs} {q : Nat} {x p : Int32} {e : Option Nat} {w m : Int32} {o : Option Nat} (ha : ad S' = ad (mkS S (nfb P) q x p e w m o)) (hl : lv S' = lv (mkS S (nfb P) q x p e w m o)) : Kp P S S' := by
  refine ⟨fun c τ h1 _ _ => ?_, fun j hj => ?_, fun c τ h => ?_⟩
  · rw [ha, mkS_ad, if_neg (fun q => h1 q.1)]
  · rw [ha, mkS_ad, if_neg (fun q => by omega)]
  · rw [hl]; exact mkS_l h
set_option maxHeartbeats 1000000 in
set_option maxRecDepth 100000 in
theorem s_D_makeFiber {P : Pst} {LL : Lls} {S : Gs} {M : Mm} (hZ : Zt P LL S M) (e v b : Int32) (he : ¬ e < 0) (he39 : tn e ≤ 39) (hl : lv S 3 (tn e) = true) (hn : nfb P < 10) (hq : tn (P 43 0) < 10) {o : Option Nat} (ho : o = some (ad S 3 (tn e))) : Run m_D_makeFiber ownC 2 1 16 [va_rf (some (ad S 0 0)), va_rf o, .int v, .int b] M (fun r M' => r = none ∧ ∃ S', Zt (p_R_make P e v b) (upL LL 0 (LL 0 ++ [nfb P])) S' M' ∧ Kp P S S') := by
  subst ho
  have hV := hZ.1
  refine Run.ofG (by decide) (by simp [cat_int, cat_rf]) (Nat.le_of_ble_eq_true rfl) ?_
  refine g_aload_n d_D_makeFiber_0 rfl ?_
  refine v_geti (v := P 42 0) (τ := 0) 3 rfl hV (sl_0 hZ.2.1) (by decide) (by decide) fl_D_25 rfl d_D_makeFiber_1 rfl (sd_3 hZ.2.1) ?_
  refine g_bipush (v := 10) d_D_makeFiber_4 (by decide) ?_
  refine g_icmp_lt 10 d_D_makeFiber_6 (by decide) (fun c_6 => ?_) (fun c_6 => ?_)
  · skip
    refine g_aload_n d_D_makeFiber_10 rfl ?_
    refine v_geti (v := P 42 0) (τ := 0) 3 rfl hV (sl_0 hZ.2.1) (by decide) (by decide) fl_D_25 rfl d_D_makeFiber_11 rfl (sd_3 hZ.2.1) ?_
    refine g_istore d_D_makeFiber_14 (by decide) ?_
    refine v_new (k' := 0) (n' := 0) (nfb P) hV (by decide) cl_D_19 d_D_makeFiber_16 (by first | decide | omega) (by first | decide | omega | simp [ck]) (fun q16 M hq_q16 hV => ?_)
    refine g_dup d_D_makeFiber_19 ?_
    refine g_iload d_D_makeFiber_20 rfl ?_
    refine g_iload_n d_D_makeFiber_22 rfl ?_
    refine g_callI (k1 := 0) (n1 := 0) [.int (P 42 0), .int (b)] cw_D_286 ci_F_init d_D_makeFiber_23 (congrArg some (ad_un_s _ _ _ _).symm) rfl rfl ⟨by simp [cat_rf, cat_int], by simp⟩ (by first | decide | omega) (by first | decide | omega) (by first | decide | omega) (fun _ _ h => h) (v_F_init hV (lv_un_s _ _ _ _) _ _) (fun r_ M h_ hfr_ => ?_)
    obtain ⟨rfl, hV⟩ := h_
    have hV : VM (niS S (nfb P) q16 (P 42 0) b) _ := hV
    refine g_astore d_D_makeFiber_26 (by decide) ?_
    refine g_aload d_D_makeFiber_28 rfl ?_
    refine g_aload_n d_D_makeFiber_30 rfl ?_
    refine g_iload_n d_D_makeFiber_31 rfl ?_
    refine g_callV (k1 := 0) (n1 := 0) [va_rf (some (ad S 3 (tn e))), .int (v)] cw_D_277 cv_F_perform d_D_makeFiber_32 (congrArg some (niS_ad S (nfb P) q16 (P 42 0) b).symm) (hV.kdo (niS_l4 _ _ _ _ _) (by decide)) rfl rfl ⟨by simp, by simp⟩ (by first | decide | omega) (by first | decide | omega) (by first | decide | omega) (fun _ _ h => h) (v_F_perform hV (niS_l4 _ _ _ _ _) _ _) (fun r_ M h_ hfr_ => ?_)
    obtain ⟨rfl, hV⟩ := h_
    refine g_aload_n d_D_makeFiber_35 rfl ?_
    refine v_getr (v := some (ad S 23 0)) (τ := 0) 2 rfl hV (lv_i (lv_r (niS_l (sl_0 hZ.2.1)))) (by decide) (by decide) fl_D_21 rfl d_D_makeFiber_36 (ad_i (ad_r (niS_k rfl (by decide)))) ((vr_ui _ _ _ _ _ _).trans ((vr_ur_f (by decide) _ _ _ _).trans ((niS_r (by decide)).1.trans (sd_2 hZ.2.1)))) ?_
    refine g_iload d_D_makeFiber_39 rfl ?_
    refine g_aload d_D_makeFiber_41 rfl ?_
    refine v_aast (j := (nfb P)) (τ := 0) (d := 4) (σ := (nfb P)) (1472 + (nfb P)) rfl hV (lv_i (lv_r (niS_l (sl_23 hZ.2.1)))) (by decide) (lv_i (lv_r (niS_l4 _ _ _ _ _))) (ad_i (ad_r (congrArg some (niS_ad S (nfb P) q16 (P 42 0) b).symm))) d_D_makeFiber_43 (ad_i (ad_r (niS_k rfl (by decide)))) (nf_nI hZ.2.2.1) (by show _ < _; simp [ck]; omega) (fun M hV => ?_)
    refine g_aload_n d_D_makeFiber_44 rfl ?_
    refine g_dup d_D_makeFiber_45 ?_
    refine v_geti (v := P 42 0) (τ := 0) 3 rfl hV (lv_r (lv_i (lv_r (niS_l (sl_0 hZ.2.1))))) (by decide) (by decide) fl_D_25 rfl d_D_makeFiber_46 (ad_r (ad_i (ad_r (niS_k rfl (by decide))))) ((vi_ur _ _ _ _ _ _).trans ((vi_ui_f (by decide) _ _ _ _).trans ((vi_ur _ _ _ _ _ _).trans ((niS_r (by decide)).2.trans (sd_3 hZ.2.1))))) ?_
    refine g_iconst (v := 1) d_D_makeFiber_49 (by decide) ?_
    refine g_iadd d_D_makeFiber_50 ?_
    refine v_puti (τ := 0) 3 rfl hV (lv_r (lv_i (lv_r (niS_l (sl_0 hZ.2.1))))) (by decide) (by decide) fl_D_25 (Or.inr (fun r h => by cases h; rfl)) rfl d_D_makeFiber_51 (ad_r (ad_i (ad_r (niS_k rfl (by decide))))) (fun M hV => ?_)
    have hwb := wb_make (e := e) (v := v) (b := b) hZ.2.2.1 (Or.inr ⟨tn_of he, he39⟩) hn hq
    have hS1 : Sim (p_R_make P e v b) LL (mkS S (nfb P) q16 (P 42 0) b (some (ad S 3 (tn e))) v (P 42 0 + 1) (some q16)) := hZ.make hn e v b he hl _ _ rfl rfl _ _ (nf_nI hZ.2.2.1) rfl
    have hq10 : (LL 0).length < 10 := by rw [← hZ.2.2.2]; exact hq
    have hV : VM (mkS S (nfb P) q16 (P 42 0) b (some (ad S 3 (tn e))) v (P 42 0 + 1) (some q16)) _ := hV
    refine g_aload_n d_D_makeFiber_54 rfl ?_
    refine v_getr (v := some (ad S 1 0)) (τ := 0) 4 rfl hV (mkS_l (sl_0 hZ.2.1)) (by decide) (by decide) fl_D_31 rfl d_D_makeFiber_55 (mkS_o (by decide) rfl) (((mkS_vi S _ _ _ _ _ _ _ _ 4 0 (by omega)).2).trans (sd_4 hZ.2.1)) ?_
    refine g_iload d_D_makeFiber_58 rfl ?_
    refine g_callV (k1 := 0) (n1 := 0) [.int (P 42 0)] cw_D_226 cv_L_add d_D_makeFiber_60 (mkS_o (by decide) rfl) (hV.kdo (mkS_l (sl_1 hZ.2.1 (by decide))) (by decide)) rfl rfl ⟨by simp, by simp⟩ (by first | decide | omega) (by first | decide | omega) (by first | decide | omega) (fun _ _ h => h) (v_L_addx (t := 0) (l := LL 0) hV (hS1.2.2.1 0 (by decide)) (by decide) hq10 (nf_nI hZ.2.2.1)) (fun r_ M h_ hfr_ => ?_)
    obtain ⟨rfl, hV⟩ := h_
    refine g_return d_D_makeFiber_63 rfl ⟨rfl, _, ⟨hV, hS1.add hwb (by decide) hq10 (nfb P), hwb, ?_⟩, ?_⟩
    · rw [upL_s, List.length_append, show p_R_make P e v b 43 0 = P 43 0 + 1 by simp [p_R_make, up_e], tn_inc (hZ.2.2.1 43 0).1 (by omega), hZ.2.2.2]; rfl
    · exact Kp_mk ((ad_ui_e _ _ _ _).trans (ad_ui_e _ _ _ _)) ((lv_ui_e _ _ _ _).trans (lv_ui_e _ _ _ _))
  · exact absurd c_6 (fun h => h (Int32.not_le.mp (ix_nle (b := nfb P) (a := 10) rfl (nf_nI hZ.2.2.1) hn (by decide))))
