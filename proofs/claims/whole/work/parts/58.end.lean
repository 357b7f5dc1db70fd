/-! the end of a fiber (by program: wip/tools/gen_s15.py) -/
def x21 (P : Pst) (g f : Nat) : Pst := if P 14 f = 0 then (if 0 ≤ P 21 g then P else up P 21 g (nI f)) else P
theorem h124_x (P : Pst) (g f o : Nat) : p_h124 P g f o = p_h149 (x21 P g f) g f o := by
  unfold p_h124 x21
  split
  · split <;> rfl
  · rfl
theorem x21_o (P : Pst) (g f : Nat) {h j : Nat} (hh : ¬ h = 21) : x21 P g f h j = P h j := by
  unfold x21
  split
  · split
    · rfl
    · rw [up_f hh]
  · rfl
theorem Zt.f21 {P : Pst} {LL : Lls} {S : Gs} {M : Mm} (hZ : Zt P LL S M) {i : Nat} (hi : i < nfb P) {x : Int32} (hx : x = -1 ∨ sm x 9) : Zt (up P 21 i x) LL S M := by
  have hw := hZ.2.2.1
  have hE : ∀ f j, ¬ f = 21 → up P 21 i x f j = P f j := fun f j a => up_f a _ _ _ _
  have hrow : ∀ r, rowL (up P 21 i x) r = rowL P r := fun r => rowL_ne (fun j => hE _ _ (by decide)) (fun j => hE _ _ (by decide)) (fun j => hE _ _ (by decide))
  have hWB : WB (up P 21 i x) := WB.up hw hx
  have hAg : Ag (dFi i) P (up P 21 i x) := (Ag.refl _ P).up (by unfold dFi; omega) _
  generalize up P 21 i x = X at *
  refine ⟨hZ.1, hZ.2.1.fib hw hi (Sx.refl _ S) hAg (by rw [hE 22 i (by decide)]; exact Nat.le_refl _) ?_, hWB, by rw [hE 43 0 (by decide)]; exact hZ.2.2.2⟩
  obtain ⟨a, ⟨b1, b2, b3, b4⟩, c1, c2, c3⟩ := hZ.2.1.2.2.2.2.1 i hi
  have E : ∀ f, ¬ f = 21 → X f i = P f i := fun f => hE f i
  have hex : ExitR P S i → ExitR X S i := fun h => h.ag (Gx.refl _) (E 14 (by decide)) (E 13 (by decide)) (hrow i) rfl rfl
  unfold SF
  rw [E 5 (by decide), E 6 (by decide), E 7 (by decide), E 8 (by decide), E 9 (by decide), E 10 (by decide), E 15 (by decide), E 16 (by decide), E 17 (by decide), E 19 (by decide), E 22 (by decide)]
  exact ⟨a, ⟨b1, b2, b3, b4⟩, fun q w => (c1 q w).ag2 (Gx.refl _) (E 11 (by decide)) (E 12 (by decide)) (E 13 (by decide)) (E 14 (by decide)) (hrow i) rfl rfl rfl rfl, fun q => hex (c2 q), c3⟩
theorem Zt.x21 {P : Pst} {LL : Lls} {S : Gs} {M : Mm} (hZ : Zt P LL S M) {g f : Nat} (hg : g < nfb P) (hf : f < nfb P) : Zt (_root_.Jvm.Pilot.CFiberDeskLaw_law_r2789_ad6031.x21 P g f) LL S M := by
  unfold _root_.Jvm.Pilot.CFiberDeskLaw_law_r2789_ad6031.x21
  split
  · split
    · exact hZ
    · exact hZ.f21 hg (Or.inr (sm_nI (by have := n10 hZ.2.2.1; omega) (by decide)))
  · exact hZ
/-- a fiber ends -/
theorem Zt.ended {P : Pst} {LL : Lls} {S : Gs} {M M' : Mm} (hZ : Zt P LL S M) {i : Nat} (hi : i < nfb P) (h15 : P 15 i = 0) (hx : ExitR P S i) (hV : VM (ui S 262 i 1) M') : Zt (up P 5 i 2) LL (ui S 262 i 1) M' := by
  have hw := hZ.2.2.1
  have hE : ∀ f j, ¬ f = 5 → up P 5 i 2 f j = P f j := fun f j a => up_f a _ _ _ _
  have e5 : up P 5 i 2 5 i = 2 := up_s _ _ _ _
  have hrow : ∀ r, rowL (up P 5 i 2) r = rowL P r := fun r => rowL_ne (fun j => hE _ _ (by decide)) (fun j => hE _ _ (by decide)) (fun j => hE _ _ (by decide))
  have hWB : WB (up P 5 i 2) := WB.up (f := 5) hw trivial
  have hAg : Ag (dFi i) P (up P 5 i 2) := (Ag.refl _ P).up (by unfold dFi; omega) _
  generalize up P 5 i 2 = X at *
  refine ⟨hV, hZ.2.1.fib hw hi ((Sx.refl _ S).ui (by unfold dVi; omega) _) hAg (by rw [hE 22 i (by decide)]; exact Nat.le_refl _) ?_, hWB, by rw [hE 43 0 (by decide)]; exact hZ.2.2.2⟩
  obtain ⟨⟨a1, a2, a3, a4, a5, a6, a7, a8, a9, a10, a11⟩, ⟨b1, b2, b3, b4⟩, c1, c2, c3⟩ := hZ.2.1.2.2.2.2.1 i hi
  have E : ∀ f, ¬ f = 5 → X f i = P f i := fun f => hE f i
  have V : ∀ f, ¬ f = 262 → vi (ui S 262 i 1) f i = vi S f i := fun f h => vi_ui_f h _ _ _ _
  unfold SF
  rw [e5, E 6 (by decide), E 7 (by decide), E 8 (by decide), E 9 (by decide), E 10 (by decide), E 15 (by decide), E 16 (by decide), E 17 (by decide), E 19 (by decide), E 22 (by decide), V 256 (by decide), V 257 (by decide), vi_ui_s, V 264 (by decide), V 265 (by decide), V 266 (by decide), V 267 (by decide), V 268 (by decide), V 269 (by decide), V 270 (by decide), V 271 (by decide), V 260 (by decide)]
  refine ⟨⟨a1, a2, a3, a4, rfl, a6, a7, a8, a9, a10, a11⟩, ⟨b1, b2, b3, b4⟩, fun q => absurd q (by decide), fun _ => hx.ag (Gx.refl _) (E 14 (by decide)) (E 13 (by decide)) (hrow i) rfl (V 260 (by decide)), fun q => absurd q (by decide)⟩
def hrP (Q : Pst) (g f : Nat) : Pst := if Q 5 g = 1 then p_R_hears Q g f else Q
def hrL (Q : Pst) (LL : Lls) (g f : Nat) : Lls := if Q 15 g = 1 then (if Q 16 g = nI f then upL LL 0 (LL 0 ++ [g]) else LL) else if Q 15 g = 2 then (if Q 16 g = nI f then upL LL 0 (LL 0 ++ [g]) else LL) else if Q 15 g = 3 then (if Q 19 g = nI f then rcL2 (x21 Q g f) LL g f (tn (Q 20 g)) else if Q 20 g = nI f then rcL2 (x21 Q g f) LL g f (tn (Q 19 g)) else LL) else LL
theorem hr_1 {Q : Pst} {g f : Nat} (h5 : Q 5 g = 1) (h : Q 15 g = 1) : hrP Q g f = if Q 16 g = nI f then p_R_wake (p_R_hand Q g f) g else Q := by
  unfold hrP p_R_hears
  rw [if_pos h5, if_pos h, if_neg (show ¬ Q 15 g = 2 by rw [h]; decide), if_neg (show ¬ Q 15 g = 3 by rw [h]; decide)]
theorem hr_2 {Q : Pst} {g f : Nat} (h5 : Q 5 g = 1) (h : Q 15 g = 2) : hrP Q g f = if Q 16 g = nI f then p_R_wake (p_R_give Q g 0) g else Q := by
  unfold hrP p_R_hears
  rw [if_pos h5, if_neg (show ¬ Q 15 g = 1 by rw [h]; decide), if_pos h, if_neg (show ¬ Q 15 g = 3 by rw [h]; decide)]
theorem hr_3 {Q : Pst} {g f : Nat} (h5 : Q 5 g = 1) (h : Q 15 g = 3) : hrP Q g f = if Q 19 g = nI f then p_h149 (x21 Q g f) g f (tn (Q 20 g)) else if Q 20 g = nI f then p_h149 (x21 Q g f) g f (tn (Q 19 g)) else Q := by
  unfold hrP p_R_hears
  rw [if_pos h5, if_neg (show ¬ Q 15 g = 1 by rw [h]; decide), if_neg (show ¬ Q 15 g = 2 by rw [h]; decide), if_pos h, h124_x, h124_x]
theorem hr_o {Q : Pst} {g f : Nat} (h1 : ¬ Q 15 g = 1) (h2 : ¬ Q 15 g = 2) (h3 : ¬ Q 15 g = 3) : hrP Q g f = Q := by
  unfold hrP p_R_hears
  rw [if_neg h1, if_neg h2, if_neg h3]
  split <;> rfl
def it_e1L (f : Nat) (P : Pst) (LL : Lls) : Nat → Lls
  | 0 => LL
  | j + 1 => hrL (it_e1 f P j) (it_e1L f P LL j) j f
theorem e1_s (f : Nat) (P : Pst) (j : Nat) : it_e1 f P (j + 1) = hrP (it_e1 f P j) j f := rfl
def it_e2L (f : Nat) (P : Pst) (LL : Lls) : Nat → Lls
  | 0 => LL
  | j + 1 => if it_e2 f P j 8 j = nI f then skL (it_e2 f P j) (it_e2L f P LL j) j else it_e2L f P LL j
def StOK (Q : Pst) (o : Nat) : Prop := (Q 6 o = 0 ∨ Q 6 o = 1 ∨ Q 6 o = 2) ∧ (Q 5 o = 1 ↔ ¬ Q 15 o = 0) ∧ (Q 15 o = 5 ∨ Q 15 o = 6 → ∃ n, n < 4 ∧ Q 16 o = nI n)
def RcOK (Q : Pst) (g f : Nat) : Prop := ∃ a, Q 19 g = nI a ∧ Q 20 g = nI (a + 1) ∧ a + 1 < nfb Q ∧ ¬ g = a ∧ ¬ g = a + 1 ∧ StOK Q a ∧ StOK Q (a + 1) ∧ (f = a → (Q 5 (a + 1) = 2 → Q 14 (a + 1) = 0 → Q 21 g = nI (a + 1)) ∧ (Q 5 (a + 1) = 2 → ¬ Q 14 (a + 1) = 0 → Q 21 g < 0)) ∧ (f = a + 1 → (Q 5 a = 2 → Q 14 a = 0 → Q 21 g = nI a) ∧ (Q 5 a = 2 → ¬ Q 14 a = 0 → Q 21 g < 0))
def E1ok (Q : Pst) (g f : Nat) : Prop := Q 5 f = 2 ∧ (Q 5 g = 1 ↔ ¬ Q 15 g = 0) ∧ tn (Q 43 0) < 10 ∧ (Q 15 g = 3 → RcOK Q g f)
def E2ok (Q : Pst) (g : Nat) : Prop := StOK Q g ∧ tn (Q 43 0) < 10
theorem nfb_e1 (f : Nat) (P : Pst) (j : Nat) : nfb (it_e1 f P j) = nfb P := by unfold nfb; rw [e1_42]
theorem nfb_e2 (f : Nat) (P : Pst) : ∀ j, nfb (it_e2 f P j) = nfb P
  | 0 => rfl
  | j + 1 => by
    show nfb (if it_e2 f P j 8 j = nI f then p_R_strike (it_e2 f P j) j (nI f) else it_e2 f P j) = _
    split
    · rw [nfb_strike, nfb_e2 f P j]
    · exact nfb_e2 f P j
theorem x21_r {Q : Pst} {g f o : Nat} (ho : o < 10) (R1 : Q 5 o = 2 → Q 14 o = 0 → Q 21 g = nI o) (R2 : Q 5 o = 2 → ¬ Q 14 o = 0 → Q 21 g < 0) : (x21 Q g f 5 o = 2 → x21 Q g f 14 o = 0 → x21 Q g f 21 g = nI o) ∧ (x21 Q g f 5 o = 2 → ¬ x21 Q g f 14 o = 0 → x21 Q g f 14 f = 0 → x21 Q g f 21 g = nI f) ∧ (x21 Q g f 5 o = 2 → ¬ x21 Q g f 14 o = 0 → ¬ x21 Q g f 14 f = 0 → x21 Q g f 21 g < 0) := by
  rw [x21_o Q g f (show ¬ 5 = 21 by decide), x21_o Q g f (show ¬ 14 = 21 by decide), x21_o Q g f (show ¬ 14 = 21 by decide)]
  refine ⟨fun a b => ?_, fun a b c => ?_, fun a b c => ?_⟩
  · unfold x21
    have h := R1 a b
    split
    · rw [if_pos (by rw [h]; exact Int32.not_lt.mp (nI_pos (by omega)))]; exact h
    · exact h
  · unfold x21
    rw [if_pos c, if_neg (fun q => absurd (R2 a b) (Int32.not_lt.mpr q)), up_s]
  · unfold x21
    rw [if_neg c]; exact R2 a b
theorem s_tellRace_xf {P : Pst} {LL : Lls} {S : Gs} {M : Mm} (hZ : Zt P LL S M) {g a f : Nat} (hg : g < nfb P) (ha : a < nfb P) (hb : a + 1 < nfb P) (hga : ¬ g = a) (hgb : ¬ g = a + 1) (h3 : P 15 g = 3) (g5 : P 5 g = 1) (e19 : P 19 g = nI a) (e20 : P 20 g = nI (a + 1)) (hq : tn (P 43 0) < 10) (hfx : f = a) (h5f : P 5 f = 2) (r1 : P 5 (a + 1) = 2 → P 14 (a + 1) = 0 → P 21 g = nI (a + 1)) (r2 : P 5 (a + 1) = 2 → ¬ P 14 (a + 1) = 0 → P 14 f = 0 → P 21 g = nI f) (r3 : P 5 (a + 1) = 2 → ¬ P 14 (a + 1) = 0 → ¬ P 14 f = 0 → P 21 g < 0) (h6 : P 6 (a + 1) = 0 ∨ P 6 (a + 1) = 1 ∨ P 6 (a + 1) = 2) (h15o : P 5 (a + 1) = 1 ↔ ¬ P 15 (a + 1) = 0) (h16 : P 15 (a + 1) = 5 ∨ P 15 (a + 1) = 6 → ∃ n, n < 4 ∧ P 16 (a + 1) = nI n) {og uf : Option Nat} (hog : og = some (ad S 4 g)) (huf : uf = some (ad S 4 f)) : Run m_D_tellRace ownC 4 3 20 [va_rf (some (ad S 0 0)), va_rf og, va_rf uf] M (fun r M' => r = none ∧ ∃ S', Zt (p_h149 P g f (a + 1)) (rcL2 P LL g f (a + 1)) S' M' ∧ ad S' = ad S ∧ lv S' = lv S) := by
  subst hfx
  exact s_D_tellRace_x hZ hg ha hb hga hgb h3 g5 e19 e20 hq h5f r1 r2 r3 h6 h15o h16 hog huf
theorem s_tellRace_yf {P : Pst} {LL : Lls} {S : Gs} {M : Mm} (hZ : Zt P LL S M) {g a f : Nat} (hg : g < nfb P) (ha : a < nfb P) (hb : a + 1 < nfb P) (hga : ¬ g = a) (hgb : ¬ g = a + 1) (h3 : P 15 g = 3) (g5 : P 5 g = 1) (e19 : P 19 g = nI a) (e20 : P 20 g = nI (a + 1)) (hq : tn (P 43 0) < 10) (hfx : f = a + 1) (h5f : P 5 f = 2) (r1 : P 5 a = 2 → P 14 a = 0 → P 21 g = nI a) (r2 : P 5 a = 2 → ¬ P 14 a = 0 → P 14 f = 0 → P 21 g = nI f) (r3 : P 5 a = 2 → ¬ P 14 a = 0 → ¬ P 14 f = 0 → P 21 g < 0) (h6 : P 6 a = 0 ∨ P 6 a = 1 ∨ P 6 a = 2) (h15o : P 5 a = 1 ↔ ¬ P 15 a = 0) (h16 : P 15 a = 5 ∨ P 15 a = 6 → ∃ n, n < 4 ∧ P 16 a = nI n) {og uf : Option Nat} (hog : og = some (ad S 4 g)) (huf : uf = some (ad S 4 f)) : Run m_D_tellRace ownC 4 3 20 [va_rf (some (ad S 0 0)), va_rf og, va_rf uf] M (fun r M' => r = none ∧ ∃ S', Zt (p_h149 P g f a) (rcL2 P LL g f a) S' M' ∧ ad S' = ad S ∧ lv S' = lv S) := by
  subst hfx
  exact s_D_tellRace_y hZ hg ha hb hga hgb h3 g5 e19 e20 hq h5f r1 r2 r3 h6 h15o h16 hog huf
set_option maxHeartbeats 1000000 in
set_option maxRecDepth 100000 in
theorem s_D_tellEnd0 {P : Pst} {LL : Lls} {S : Gs} {M : Mm} (hZ : Zt P LL S M) {g : Nat} (hg : g < nfb P) (h1 : ¬ P 15 g = 1) (h2 : ¬ P 15 g = 2) {o : Option Nat} (ho : o = some (ad S 4 g)) (u : Option Nat) : Run m_D_tellEnd ownC 2 0 0 [va_rf (some (ad S 0 0)), va_rf o, va_rf u] M (fun r M' => r = none ∧ ∃ S', Zt (P) (LL) S' M' ∧ ad S' = ad S ∧ lv S' = lv S) := by
  subst ho
  have hV := hZ.1
  refine Run.ofG (by decide) (by simp [cat_int, cat_rf]) (Nat.le_of_ble_eq_true rfl) ?_
  refine g_aload_n d_D_tellEnd_0 rfl ?_
  refine v_geti (v := P 15 g) (τ := g) 269 rfl hV (sl_4 hZ.2.1 hg) (by decide) (by decide) fl_D_133 rfl d_D_tellEnd_1 rfl (sf_269 hZ.2.1 hg) ?_
  refine g_iconst (v := 1) d_D_tellEnd_4 (by decide) ?_
  refine g_icmp_ne 28 d_D_tellEnd_5 (by decide) (fun c_5 => ?_) (fun c_5 => ?_)
  · skip
    refine g_aload_n d_D_tellEnd_28 rfl ?_
    refine v_geti (v := P 15 g) (τ := g) 269 rfl hV (sl_4 hZ.2.1 hg) (by decide) (by decide) fl_D_133 rfl d_D_tellEnd_29 rfl (sf_269 hZ.2.1 hg) ?_
    refine g_iconst (v := 2) d_D_tellEnd_32 (by decide) ?_
    refine g_icmp_ne 41 d_D_tellEnd_33 (by decide) (fun c_33 => ?_) (fun c_33 => ?_)
    · skip
      exact g_return d_D_tellEnd_41 rfl ⟨rfl, S, ⟨hV, hZ.2⟩, rfl, rfl⟩
    · exact absurd (show P 15 g = 2 from c_33) h2
  · exact absurd (show P 15 g = 1 from c_5) h1
theorem ad_e {S S1 : Gs} {c t : Nat} (h : ad S1 = ad S) : some (ad S c t) = some (ad S1 c t) := by rw [h]
set_option maxHeartbeats 1000000 in
set_option maxRecDepth 100000 in
theorem l_e2 {P1 : Pst} {L1 : Lls} {S : Gs} {M0 : Mm} {f : Nat} (hN : nfb P1 ≤ 10) (hf : f < nfb P1) (hE2 : ∀ j, j < nfb P1 → E2ok (it_e2 f P1 j) j) : ∀ (r j : Nat) (S1 : Gs) (M : Mm) (X : Option Value) (kb nb : Nat), j + r = nfb P1 → Zt (it_e2 f P1 j) (it_e2L f P1 L1 j) S1 M → ad S1 = ad S → lv S1 = lv S → G m_D_end ownC M0 (fun r M' => r = none ∧ ∃ S', Zt (it_e2 f P1 (nfb P1)) (it_e2L f P1 L1 (nfb P1)) S' M' ∧ ad S' = ad S ∧ lv S' = lv S) 5 kb nb M 71 [some (va_rf (some (ad S 0 0))), some (va_rf (some (ad S 4 f))), some (.int (nI j)), X] []
  | 0, j, S1, M, X, kb, nb, hr, hZ1, hA1, hB1 => by
    have hV := hZ1.1
    have ej : j = nfb P1 := by omega
    have hf1 : f < nfb (it_e2 f P1 j) := by rw [nfb_e2]; exact hf
    refine g_iload_n d_D_end_71 rfl ?_
    refine g_aload_n d_D_end_72 rfl ?_
    refine v_geti (v := nI (nfb P1)) (τ := 0) 3 rfl hV (sl_0 hZ1.2.1) (by decide) (by decide) fl_D_25 rfl d_D_end_73 (ad_e hA1) ((sd_3 hZ1.2.1).trans ((nf_nI hZ1.2.2.1).trans (congrArg nI (nfb_e2 f P1 j)))) ?_
    refine g_icmp_ge 115 d_D_end_76 (by decide) (fun c_76 => ?_) (fun c_76 => ?_)
    · skip
      exact g_return d_D_end_115 rfl ⟨rfl, S1, by rw [← ej]; exact ⟨hV, hZ1.2⟩, hA1, hB1⟩
    · exact absurd c_76 (fun h => h (by rw [ej]; exact Int32.le_refl _))
  | r + 1, j, S1, M, X, kb, nb, hr, hZ1, hA1, hB1 => by
    have hV := hZ1.1
    have hlt : j < nfb P1 := by omega
    have hf1 : f < nfb (it_e2 f P1 j) := by rw [nfb_e2]; exact hf
    have hj1 : j < nfb (it_e2 f P1 j) := by rw [nfb_e2]; exact hlt
    have ok := hE2 j hlt
    by_cases e8 : (it_e2 f P1 j) 8 j = nI f
    · skip
      refine g_iload_n d_D_end_71 rfl ?_
      refine g_aload_n d_D_end_72 rfl ?_
      refine v_geti (v := nI (nfb P1)) (τ := 0) 3 rfl hV (sl_0 hZ1.2.1) (by decide) (by decide) fl_D_25 rfl d_D_end_73 (ad_e hA1) ((sd_3 hZ1.2.1).trans ((nf_nI hZ1.2.2.1).trans (congrArg nI (nfb_e2 f P1 j)))) ?_
      refine g_icmp_ge 115 d_D_end_76 (by decide) (fun c_76 => ?_) (fun c_76 => ?_)
      · exact absurd c_76 (ix_nle rfl rfl hlt (by omega))
      · skip
        refine g_aload_n d_D_end_79 rfl ?_
        refine g_iload_n d_D_end_80 rfl ?_
        refine g_callV (k1 := kb) (n1 := nb) [.int (nI j)] cw_D_94 cv_D_fiberAt d_D_end_81 (ad_e hA1) (hV.kdo (sl_0 hZ1.2.1) (by decide)) rfl rfl ⟨by simp, by simp⟩ (by first | decide | omega) (by first | decide | omega) (by first | decide | omega) (fun _ _ h => h) (s_fiberInx ⟨hV, hZ1.2⟩ hj1 rfl) (fun r_ M h_ hfr_ => ?_)
        obtain ⟨rfl, hV⟩ := h_
        refine g_astore_n d_D_end_84 (by decide) ?_
        refine g_aload_n d_D_end_85 rfl ?_
        refine g_ifnull 109 d_D_end_86 (by decide) (fun c_86 => ?_) (fun a_86 c_86 => ?_)
        · exact absurd (Eq.trans (Eq.symm (rfl : some (ad S1 4 j) = some _)) c_86) (by simp)
        · skip
          refine g_aload_n d_D_end_89 rfl ?_
          refine v_geti (v := (it_e2 f P1 j) 8 j) (τ := j) 257 rfl hV (sl_4 hZ1.2.1 hj1) (by decide) (by decide) fl_D_126 rfl d_D_end_90 rfl (sf_257 hZ1.2.1 hj1) ?_
          refine g_aload_n d_D_end_93 rfl ?_
          refine v_geti (v := nI f) (τ := f) 256 rfl hV (sl_4 hZ1.2.1 hf1) (by decide) (by decide) fl_D_173 rfl d_D_end_94 (ad_e hA1) (sf_256 hZ1.2.1 hf1) ?_
          refine g_icmp_ne 109 d_D_end_97 (by decide) (fun c_97 => ?_) (fun c_97 => ?_)
          · exact absurd (show (it_e2 f P1 j) 8 j = nI f from e8) c_97
          · skip
            refine g_aload_n d_D_end_100 rfl ?_
            refine g_aload_n d_D_end_101 rfl ?_
            refine g_aload_n d_D_end_102 rfl ?_
            refine v_geti (v := nI f) (τ := f) 256 rfl hV (sl_4 hZ1.2.1 hf1) (by decide) (by decide) fl_D_173 rfl d_D_end_103 (ad_e hA1) (sf_256 hZ1.2.1 hf1) ?_
            refine g_callV (k1 := kb) (n1 := nb) [va_rf (some (ad S1 4 j)), .int (nI f)] cw_D_102 cv_D_sendInterrupt d_D_end_106 (ad_e hA1) (hV.kdo (sl_0 hZ1.2.1) (by decide)) rfl rfl ⟨by simp, by simp⟩ (by first | decide | omega) (by first | decide | omega) (by first | decide | omega) (fun _ _ h => h) (s_D_sendInterrupt ⟨hV, hZ1.2⟩ hj1 (nI f) ok.1.1 ok.1.2.1 ok.1.2.2 (fun _ => ok.2) rfl) (fun r_ M h_ hfr_ => ?_)
            obtain ⟨rfl, S2, hZ2, ha2, hb2⟩ := h_
            refine g_iinc (v := nI (j + 1)) d_D_end_109 rfl (nI_1 _) (by decide) ?_
            refine g_goto 71 d_D_end_112 (by decide) ?_
            have eP : it_e2 f P1 (j + 1) = p_R_strike (it_e2 f P1 j) j (nI f) := if_pos e8
            have eL : it_e2L f P1 L1 (j + 1) = skL (it_e2 f P1 j) (it_e2L f P1 L1 j) j := if_pos e8
            exact l_e2 hN hf hE2 r (j + 1) S2 M _ _ _ (by omega) (by rw [eP, eL]; exact hZ2) (ha2.trans hA1) (hb2.trans hB1)
    · skip
      refine g_iload_n d_D_end_71 rfl ?_
      refine g_aload_n d_D_end_72 rfl ?_
      refine v_geti (v := nI (nfb P1)) (τ := 0) 3 rfl hV (sl_0 hZ1.2.1) (by decide) (by decide) fl_D_25 rfl d_D_end_73 (ad_e hA1) ((sd_3 hZ1.2.1).trans ((nf_nI hZ1.2.2.1).trans (congrArg nI (nfb_e2 f P1 j)))) ?_
      refine g_icmp_ge 115 d_D_end_76 (by decide) (fun c_76 => ?_) (fun c_76 => ?_)
      · exact absurd c_76 (ix_nle rfl rfl hlt (by omega))
      · skip
        refine g_aload_n d_D_end_79 rfl ?_
        refine g_iload_n d_D_end_80 rfl ?_
        refine g_callV (k1 := kb) (n1 := nb) [.int (nI j)] cw_D_94 cv_D_fiberAt d_D_end_81 (ad_e hA1) (hV.kdo (sl_0 hZ1.2.1) (by decide)) rfl rfl ⟨by simp, by simp⟩ (by first | decide | omega) (by first | decide | omega) (by first | decide | omega) (fun _ _ h => h) (s_fiberInx ⟨hV, hZ1.2⟩ hj1 rfl) (fun r_ M h_ hfr_ => ?_)
        obtain ⟨rfl, hV⟩ := h_
        refine g_astore_n d_D_end_84 (by decide) ?_
        refine g_aload_n d_D_end_85 rfl ?_
        refine g_ifnull 109 d_D_end_86 (by decide) (fun c_86 => ?_) (fun a_86 c_86 => ?_)
        · exact absurd (Eq.trans (Eq.symm (rfl : some (ad S1 4 j) = some _)) c_86) (by simp)
        · skip
          refine g_aload_n d_D_end_89 rfl ?_
          refine v_geti (v := (it_e2 f P1 j) 8 j) (τ := j) 257 rfl hV (sl_4 hZ1.2.1 hj1) (by decide) (by decide) fl_D_126 rfl d_D_end_90 rfl (sf_257 hZ1.2.1 hj1) ?_
          refine g_aload_n d_D_end_93 rfl ?_
          refine v_geti (v := nI f) (τ := f) 256 rfl hV (sl_4 hZ1.2.1 hf1) (by decide) (by decide) fl_D_173 rfl d_D_end_94 (ad_e hA1) (sf_256 hZ1.2.1 hf1) ?_
          refine g_icmp_ne 109 d_D_end_97 (by decide) (fun c_97 => ?_) (fun c_97 => ?_)
          · skip
            refine g_iinc (v := nI (j + 1)) d_D_end_109 rfl (nI_1 _) (by decide) ?_
            refine g_goto 71 d_D_end_112 (by decide) ?_
            have eP : it_e2 f P1 (j + 1) = (it_e2 f P1 j) := if_neg e8
            have eL : it_e2L f P1 L1 (j + 1) = (it_e2L f P1 L1 j) := if_neg e8
            exact l_e2 hN hf hE2 r (j + 1) S1 M _ _ _ (by omega) (by rw [eP, eL]; exact ⟨hV, hZ1.2⟩) hA1 hB1
          · exact absurd (show (it_e2 f P1 j) 8 j = nI f from c_97) e8
set_option maxHeartbeats 1000000 in
set_option maxRecDepth 100000 in
theorem l_e1 {P0 : Pst} {LL : Lls} {S : Gs} {M0 : Mm} {f : Nat} (hN : nfb P0 ≤ 10) (hf : f < nfb P0) (hE1 : ∀ j, j < nfb P0 → E1ok (it_e1 f P0 j) j f) (hE2 : ∀ j, j < nfb P0 → E2ok (it_e2 f (it_e1 f P0 (nfb P0)) j) j) : ∀ (r j : Nat) (S1 : Gs) (M : Mm) (X : Option Value) (kb nb : Nat), j + r = nfb P0 → 3 * r ≤ kb → 20 * r ≤ nb → Zt (it_e1 f P0 j) (it_e1L f P0 LL j) S1 M → ad S1 = ad S → lv S1 = lv S → G m_D_end ownC M0 (fun r M' => r = none ∧ ∃ S', Zt (it_e2 f (it_e1 f P0 (nfb P0)) (nfb P0)) (it_e2L f (it_e1 f P0 (nfb P0)) (it_e1L f P0 LL (nfb P0)) (nfb P0)) S' M' ∧ ad S' = ad S ∧ lv S' = lv S) 5 kb nb M 7 [some (va_rf (some (ad S 0 0))), some (va_rf (some (ad S 4 f))), some (.int (nI j)), X] []
  | 0, j, S1, M, X, kb, nb, hr, hkb, hnb, hZ1, hA1, hB1 => by
    have hV := hZ1.1
    have ej : j = nfb P0 := by omega
    have hf1 : f < nfb (it_e1 f P0 j) := by rw [nfb_e1]; exact hf
    refine g_iload_n d_D_end_7 rfl ?_
    refine g_aload_n d_D_end_8 rfl ?_
    refine v_geti (v := nI (nfb P0)) (τ := 0) 3 rfl hV (sl_0 hZ1.2.1) (by decide) (by decide) fl_D_25 rfl d_D_end_9 (ad_e hA1) ((sd_3 hZ1.2.1).trans ((nf_nI hZ1.2.2.1).trans (congrArg nI (nfb_e1 f P0 j)))) ?_
    refine g_icmp_ge 69 d_D_end_12 (by decide) (fun c_12 => ?_) (fun c_12 => ?_)
    · skip
      refine g_iconst (v := 0) d_D_end_69 (by decide) ?_
      refine g_istore_n d_D_end_70 (by decide) ?_
      have h0 : Zt (it_e2 f (it_e1 f P0 (nfb P0)) 0) (it_e2L f (it_e1 f P0 (nfb P0)) (it_e1L f P0 LL (nfb P0)) 0) S1 M := by rw [ej] at hZ1; exact ⟨hV, hZ1.2⟩
      have en := nfb_e1 f P0 (nfb P0)
      have h := l_e2 (P1 := it_e1 f P0 (nfb P0)) (L1 := it_e1L f P0 LL (nfb P0)) (S := S) (M0 := M0) (by rw [en]; exact hN) (by rw [en]; exact hf) (by rw [en]; exact hE2) (nfb P0) 0 S1 M X kb nb (by rw [en, Nat.zero_add]) h0 hA1 hB1
      rw [en] at h
      exact h
    · exact absurd c_12 (fun h => h (by rw [ej]; exact Int32.le_refl _))
  | r + 1, j, S1, M, X, kb, nb, hr, hkb, hnb, hZ1, hA1, hB1 => by
    have hV := hZ1.1
    have hlt : j < nfb P0 := by omega
    have hf1 : f < nfb (it_e1 f P0 j) := by rw [nfb_e1]; exact hf
    have hj1 : j < nfb (it_e1 f P0 j) := by rw [nfb_e1]; exact hlt
    obtain ⟨ok1, ok2, ok3, ok4⟩ := hE1 j hlt
    by_cases h1 : (it_e1 f P0 j) 15 j = 1
    · have g5 : (it_e1 f P0 j) 5 j = 1 := ok2.mpr (by rw [h1]; decide)
      have hjf : ¬ j = f := fun q => by rw [q] at g5 ok1; rw [ok1] at g5; exact absurd g5 (by decide)
      by_cases e16 : (it_e1 f P0 j) 16 j = nI f
      · skip
        refine g_iload_n d_D_end_7 rfl ?_
        refine g_aload_n d_D_end_8 rfl ?_
        refine v_geti (v := nI (nfb P0)) (τ := 0) 3 rfl hV (sl_0 hZ1.2.1) (by decide) (by decide) fl_D_25 rfl d_D_end_9 (ad_e hA1) ((sd_3 hZ1.2.1).trans ((nf_nI hZ1.2.2.1).trans (congrArg nI (nfb_e1 f P0 j)))) ?_
        refine g_icmp_ge 69 d_D_end_12 (by decide) (fun c_12 => ?_) (fun c_12 => ?_)
        · exact absurd c_12 (ix_nle rfl rfl hlt (by omega))
        · skip
          refine g_aload_n d_D_end_15 rfl ?_
          refine g_iload_n d_D_end_16 rfl ?_
          refine g_callV (k1 := kb) (n1 := nb) [.int (nI j)] cw_D_94 cv_D_fiberAt d_D_end_17 (ad_e hA1) (hV.kdo (sl_0 hZ1.2.1) (by decide)) rfl rfl ⟨by simp, by simp⟩ (by first | decide | omega) (by first | decide | omega) (by first | decide | omega) (fun _ _ h => h) (s_fiberInx ⟨hV, hZ1.2⟩ hj1 rfl) (fun r_ M h_ hfr_ => ?_)
          obtain ⟨rfl, hV⟩ := h_
          refine g_astore_n d_D_end_20 (by decide) ?_
          refine g_aload_n d_D_end_21 rfl ?_
          refine g_ifnull 42 d_D_end_22 (by decide) (fun c_22 => ?_) (fun a_22 c_22 => ?_)
          · exact absurd (Eq.trans (Eq.symm (rfl : some (ad S1 4 j) = some _)) c_22) (by simp)
          · skip
            refine g_aload_n d_D_end_25 rfl ?_
            refine v_geti (v := 1) (τ := j) 269 rfl hV (sl_4 hZ1.2.1 hj1) (by decide) (by decide) fl_D_133 rfl d_D_end_26 rfl ((sf_269 hZ1.2.1 hj1).trans h1) ?_
            refine g_iconst (v := 3) d_D_end_29 (by decide) ?_
            refine g_icmp_ne 42 d_D_end_30 (by decide) (fun c_30 => ?_) (fun c_30 => ?_)
            · skip
              refine g_aload_n d_D_end_42 rfl ?_
              refine g_ifnull 63 d_D_end_43 (by decide) (fun c_43 => ?_) (fun a_43 c_43 => ?_)
              · exact absurd (Eq.trans (Eq.symm (rfl : some (ad S1 4 j) = some _)) c_43) (by simp)
              · skip
                refine g_aload_n d_D_end_46 rfl ?_
                refine v_geti (v := (it_e1 f P0 j) 16 j) (τ := j) 270 rfl hV (sl_4 hZ1.2.1 hj1) (by decide) (by decide) fl_D_314 rfl d_D_end_47 rfl (sf_270 hZ1.2.1 hj1 (Or.inl h1)) ?_
                refine g_aload_n d_D_end_50 rfl ?_
                refine v_geti (v := nI f) (τ := f) 256 rfl hV (sl_4 hZ1.2.1 hf1) (by decide) (by decide) fl_D_173 rfl d_D_end_51 (ad_e hA1) (sf_256 hZ1.2.1 hf1) ?_
                refine g_icmp_ne 63 d_D_end_54 (by decide) (fun c_54 => ?_) (fun c_54 => ?_)
                · exact absurd (show (it_e1 f P0 j) 16 j = nI f from e16) c_54
                · skip
                  refine g_aload_n d_D_end_57 rfl ?_
                  refine g_aload_n d_D_end_58 rfl ?_
                  refine g_aload_n d_D_end_59 rfl ?_
                  refine g_callV (k1 := kb) (n1 := nb) [va_rf (some (ad S1 4 j)), va_rf (some (ad S 4 f))] cw_D_324 cv_D_tellEnd d_D_end_60 (ad_e hA1) (hV.kdo (sl_0 hZ1.2.1) (by decide)) rfl rfl ⟨by simp, by simp⟩ (by first | decide | omega) (by first | decide | omega) (by first | decide | omega) (fun _ _ h => h) (s_D_tellEnd ⟨hV, hZ1.2⟩ hj1 hf1 hjf ok1 ok2 ok3 rfl (ad_e hA1)) (fun r_ M h_ hfr_ => ?_)
                  obtain ⟨rfl, S2, hZ2, ha2, hb2⟩ := h_
                  rw [show teP (it_e1 f P0 j) j f = p_R_wake (p_R_hand (it_e1 f P0 j) j f) j by unfold teP; rw [if_pos h1], show teL (it_e1 f P0 j) (it_e1L f P0 LL j) j = (upL (it_e1L f P0 LL j) 0 ((it_e1L f P0 LL j) 0 ++ [j])) by unfold teL; rw [if_pos h1]] at hZ2
                  refine g_iinc (v := nI (j + 1)) d_D_end_63 rfl (nI_1 _) (by decide) ?_
                  refine g_goto 7 d_D_end_66 (by decide) ?_
                  have eP : hrP (it_e1 f P0 j) j f = p_R_wake (p_R_hand (it_e1 f P0 j) j f) j := by rw [hr_1 g5 h1, if_pos e16]
                  have eL : hrL (it_e1 f P0 j) (it_e1L f P0 LL j) j f = (upL (it_e1L f P0 LL j) 0 ((it_e1L f P0 LL j) 0 ++ [j])) := by unfold hrL; rw [if_pos h1, if_pos e16]
                  exact l_e1 hN hf hE1 hE2 r (j + 1) S2 M _ _ _ (by omega) (by omega) (by omega) (by rw [e1_s, eP]; show Zt _ (hrL (it_e1 f P0 j) (it_e1L f P0 LL j) j f) _ _; rw [eL]; exact hZ2) (ha2.trans hA1) (hb2.trans hB1)
            · exact absurd c_30 (by decide)
      · skip
        refine g_iload_n d_D_end_7 rfl ?_
        refine g_aload_n d_D_end_8 rfl ?_
        refine v_geti (v := nI (nfb P0)) (τ := 0) 3 rfl hV (sl_0 hZ1.2.1) (by decide) (by decide) fl_D_25 rfl d_D_end_9 (ad_e hA1) ((sd_3 hZ1.2.1).trans ((nf_nI hZ1.2.2.1).trans (congrArg nI (nfb_e1 f P0 j)))) ?_
        refine g_icmp_ge 69 d_D_end_12 (by decide) (fun c_12 => ?_) (fun c_12 => ?_)
        · exact absurd c_12 (ix_nle rfl rfl hlt (by omega))
        · skip
          refine g_aload_n d_D_end_15 rfl ?_
          refine g_iload_n d_D_end_16 rfl ?_
          refine g_callV (k1 := kb) (n1 := nb) [.int (nI j)] cw_D_94 cv_D_fiberAt d_D_end_17 (ad_e hA1) (hV.kdo (sl_0 hZ1.2.1) (by decide)) rfl rfl ⟨by simp, by simp⟩ (by first | decide | omega) (by first | decide | omega) (by first | decide | omega) (fun _ _ h => h) (s_fiberInx ⟨hV, hZ1.2⟩ hj1 rfl) (fun r_ M h_ hfr_ => ?_)
          obtain ⟨rfl, hV⟩ := h_
          refine g_astore_n d_D_end_20 (by decide) ?_
          refine g_aload_n d_D_end_21 rfl ?_
          refine g_ifnull 42 d_D_end_22 (by decide) (fun c_22 => ?_) (fun a_22 c_22 => ?_)
          · exact absurd (Eq.trans (Eq.symm (rfl : some (ad S1 4 j) = some _)) c_22) (by simp)
          · skip
            refine g_aload_n d_D_end_25 rfl ?_
            refine v_geti (v := 1) (τ := j) 269 rfl hV (sl_4 hZ1.2.1 hj1) (by decide) (by decide) fl_D_133 rfl d_D_end_26 rfl ((sf_269 hZ1.2.1 hj1).trans h1) ?_
            refine g_iconst (v := 3) d_D_end_29 (by decide) ?_
            refine g_icmp_ne 42 d_D_end_30 (by decide) (fun c_30 => ?_) (fun c_30 => ?_)
            · skip
              refine g_aload_n d_D_end_42 rfl ?_
              refine g_ifnull 63 d_D_end_43 (by decide) (fun c_43 => ?_) (fun a_43 c_43 => ?_)
              · exact absurd (Eq.trans (Eq.symm (rfl : some (ad S1 4 j) = some _)) c_43) (by simp)
              · skip
                refine g_aload_n d_D_end_46 rfl ?_
                refine v_geti (v := (it_e1 f P0 j) 16 j) (τ := j) 270 rfl hV (sl_4 hZ1.2.1 hj1) (by decide) (by decide) fl_D_314 rfl d_D_end_47 rfl (sf_270 hZ1.2.1 hj1 (Or.inl h1)) ?_
                refine g_aload_n d_D_end_50 rfl ?_
                refine v_geti (v := nI f) (τ := f) 256 rfl hV (sl_4 hZ1.2.1 hf1) (by decide) (by decide) fl_D_173 rfl d_D_end_51 (ad_e hA1) (sf_256 hZ1.2.1 hf1) ?_
                refine g_icmp_ne 63 d_D_end_54 (by decide) (fun c_54 => ?_) (fun c_54 => ?_)
                · skip
                  refine g_iinc (v := nI (j + 1)) d_D_end_63 rfl (nI_1 _) (by decide) ?_
                  refine g_goto 7 d_D_end_66 (by decide) ?_
                  have eP : hrP (it_e1 f P0 j) j f = (it_e1 f P0 j) := by rw [hr_1 g5 h1, if_neg e16]
                  have eL : hrL (it_e1 f P0 j) (it_e1L f P0 LL j) j f = (it_e1L f P0 LL j) := by unfold hrL; rw [if_pos h1, if_neg e16]
                  exact l_e1 hN hf hE1 hE2 r (j + 1) S1 M _ _ _ (by omega) (by omega) (by omega) (by rw [e1_s, eP]; show Zt _ (hrL (it_e1 f P0 j) (it_e1L f P0 LL j) j f) _ _; rw [eL]; exact ⟨hV, hZ1.2⟩) hA1 hB1
                · exact absurd (show (it_e1 f P0 j) 16 j = nI f from c_54) e16
            · exact absurd c_30 (by decide)
    by_cases h2 : (it_e1 f P0 j) 15 j = 2
    · have g5 : (it_e1 f P0 j) 5 j = 1 := ok2.mpr (by rw [h2]; decide)
      have hjf : ¬ j = f := fun q => by rw [q] at g5 ok1; rw [ok1] at g5; exact absurd g5 (by decide)
      by_cases e16 : (it_e1 f P0 j) 16 j = nI f
      · skip
        refine g_iload_n d_D_end_7 rfl ?_
        refine g_aload_n d_D_end_8 rfl ?_
        refine v_geti (v := nI (nfb P0)) (τ := 0) 3 rfl hV (sl_0 hZ1.2.1) (by decide) (by decide) fl_D_25 rfl d_D_end_9 (ad_e hA1) ((sd_3 hZ1.2.1).trans ((nf_nI hZ1.2.2.1).trans (congrArg nI (nfb_e1 f P0 j)))) ?_
        refine g_icmp_ge 69 d_D_end_12 (by decide) (fun c_12 => ?_) (fun c_12 => ?_)
        · exact absurd c_12 (ix_nle rfl rfl hlt (by omega))
        · skip
          refine g_aload_n d_D_end_15 rfl ?_
          refine g_iload_n d_D_end_16 rfl ?_
          refine g_callV (k1 := kb) (n1 := nb) [.int (nI j)] cw_D_94 cv_D_fiberAt d_D_end_17 (ad_e hA1) (hV.kdo (sl_0 hZ1.2.1) (by decide)) rfl rfl ⟨by simp, by simp⟩ (by first | decide | omega) (by first | decide | omega) (by first | decide | omega) (fun _ _ h => h) (s_fiberInx ⟨hV, hZ1.2⟩ hj1 rfl) (fun r_ M h_ hfr_ => ?_)
          obtain ⟨rfl, hV⟩ := h_
          refine g_astore_n d_D_end_20 (by decide) ?_
          refine g_aload_n d_D_end_21 rfl ?_
          refine g_ifnull 42 d_D_end_22 (by decide) (fun c_22 => ?_) (fun a_22 c_22 => ?_)
          · exact absurd (Eq.trans (Eq.symm (rfl : some (ad S1 4 j) = some _)) c_22) (by simp)
          · skip
            refine g_aload_n d_D_end_25 rfl ?_
            refine v_geti (v := 2) (τ := j) 269 rfl hV (sl_4 hZ1.2.1 hj1) (by decide) (by decide) fl_D_133 rfl d_D_end_26 rfl ((sf_269 hZ1.2.1 hj1).trans h2) ?_
            refine g_iconst (v := 3) d_D_end_29 (by decide) ?_
            refine g_icmp_ne 42 d_D_end_30 (by decide) (fun c_30 => ?_) (fun c_30 => ?_)
            · skip
              refine g_aload_n d_D_end_42 rfl ?_
              refine g_ifnull 63 d_D_end_43 (by decide) (fun c_43 => ?_) (fun a_43 c_43 => ?_)
              · exact absurd (Eq.trans (Eq.symm (rfl : some (ad S1 4 j) = some _)) c_43) (by simp)
              · skip
                refine g_aload_n d_D_end_46 rfl ?_
                refine v_geti (v := (it_e1 f P0 j) 16 j) (τ := j) 270 rfl hV (sl_4 hZ1.2.1 hj1) (by decide) (by decide) fl_D_314 rfl d_D_end_47 rfl (sf_270 hZ1.2.1 hj1 (Or.inr (Or.inl h2))) ?_
                refine g_aload_n d_D_end_50 rfl ?_
                refine v_geti (v := nI f) (τ := f) 256 rfl hV (sl_4 hZ1.2.1 hf1) (by decide) (by decide) fl_D_173 rfl d_D_end_51 (ad_e hA1) (sf_256 hZ1.2.1 hf1) ?_
                refine g_icmp_ne 63 d_D_end_54 (by decide) (fun c_54 => ?_) (fun c_54 => ?_)
                · exact absurd (show (it_e1 f P0 j) 16 j = nI f from e16) c_54
                · skip
                  refine g_aload_n d_D_end_57 rfl ?_
                  refine g_aload_n d_D_end_58 rfl ?_
                  refine g_aload_n d_D_end_59 rfl ?_
                  refine g_callV (k1 := kb) (n1 := nb) [va_rf (some (ad S1 4 j)), va_rf (some (ad S 4 f))] cw_D_324 cv_D_tellEnd d_D_end_60 (ad_e hA1) (hV.kdo (sl_0 hZ1.2.1) (by decide)) rfl rfl ⟨by simp, by simp⟩ (by first | decide | omega) (by first | decide | omega) (by first | decide | omega) (fun _ _ h => h) (s_D_tellEnd ⟨hV, hZ1.2⟩ hj1 hf1 hjf ok1 ok2 ok3 rfl (ad_e hA1)) (fun r_ M h_ hfr_ => ?_)
                  obtain ⟨rfl, S2, hZ2, ha2, hb2⟩ := h_
                  rw [show teP (it_e1 f P0 j) j f = p_R_wake (p_R_give (it_e1 f P0 j) j 0) j by unfold teP; rw [if_neg h1, if_pos h2], show teL (it_e1 f P0 j) (it_e1L f P0 LL j) j = (upL (it_e1L f P0 LL j) 0 ((it_e1L f P0 LL j) 0 ++ [j])) by unfold teL; rw [if_neg h1, if_pos h2]] at hZ2
                  refine g_iinc (v := nI (j + 1)) d_D_end_63 rfl (nI_1 _) (by decide) ?_
                  refine g_goto 7 d_D_end_66 (by decide) ?_
                  have eP : hrP (it_e1 f P0 j) j f = p_R_wake (p_R_give (it_e1 f P0 j) j 0) j := by rw [hr_2 g5 h2, if_pos e16]
                  have eL : hrL (it_e1 f P0 j) (it_e1L f P0 LL j) j f = (upL (it_e1L f P0 LL j) 0 ((it_e1L f P0 LL j) 0 ++ [j])) := by unfold hrL; rw [if_neg h1, if_pos h2, if_pos e16]
                  exact l_e1 hN hf hE1 hE2 r (j + 1) S2 M _ _ _ (by omega) (by omega) (by omega) (by rw [e1_s, eP]; show Zt _ (hrL (it_e1 f P0 j) (it_e1L f P0 LL j) j f) _ _; rw [eL]; exact hZ2) (ha2.trans hA1) (hb2.trans hB1)
            · exact absurd c_30 (by decide)
      · skip
        refine g_iload_n d_D_end_7 rfl ?_
        refine g_aload_n d_D_end_8 rfl ?_
        refine v_geti (v := nI (nfb P0)) (τ := 0) 3 rfl hV (sl_0 hZ1.2.1) (by decide) (by decide) fl_D_25 rfl d_D_end_9 (ad_e hA1) ((sd_3 hZ1.2.1).trans ((nf_nI hZ1.2.2.1).trans (congrArg nI (nfb_e1 f P0 j)))) ?_
        refine g_icmp_ge 69 d_D_end_12 (by decide) (fun c_12 => ?_) (fun c_12 => ?_)
        · exact absurd c_12 (ix_nle rfl rfl hlt (by omega))
        · skip
          refine g_aload_n d_D_end_15 rfl ?_
          refine g_iload_n d_D_end_16 rfl ?_
          refine g_callV (k1 := kb) (n1 := nb) [.int (nI j)] cw_D_94 cv_D_fiberAt d_D_end_17 (ad_e hA1) (hV.kdo (sl_0 hZ1.2.1) (by decide)) rfl rfl ⟨by simp, by simp⟩ (by first | decide | omega) (by first | decide | omega) (by first | decide | omega) (fun _ _ h => h) (s_fiberInx ⟨hV, hZ1.2⟩ hj1 rfl) (fun r_ M h_ hfr_ => ?_)
          obtain ⟨rfl, hV⟩ := h_
          refine g_astore_n d_D_end_20 (by decide) ?_
          refine g_aload_n d_D_end_21 rfl ?_
          refine g_ifnull 42 d_D_end_22 (by decide) (fun c_22 => ?_) (fun a_22 c_22 => ?_)
          · exact absurd (Eq.trans (Eq.symm (rfl : some (ad S1 4 j) = some _)) c_22) (by simp)
          · skip
            refine g_aload_n d_D_end_25 rfl ?_
            refine v_geti (v := 2) (τ := j) 269 rfl hV (sl_4 hZ1.2.1 hj1) (by decide) (by decide) fl_D_133 rfl d_D_end_26 rfl ((sf_269 hZ1.2.1 hj1).trans h2) ?_
            refine g_iconst (v := 3) d_D_end_29 (by decide) ?_
            refine g_icmp_ne 42 d_D_end_30 (by decide) (fun c_30 => ?_) (fun c_30 => ?_)
            · skip
              refine g_aload_n d_D_end_42 rfl ?_
              refine g_ifnull 63 d_D_end_43 (by decide) (fun c_43 => ?_) (fun a_43 c_43 => ?_)
              · exact absurd (Eq.trans (Eq.symm (rfl : some (ad S1 4 j) = some _)) c_43) (by simp)
              · skip
                refine g_aload_n d_D_end_46 rfl ?_
                refine v_geti (v := (it_e1 f P0 j) 16 j) (τ := j) 270 rfl hV (sl_4 hZ1.2.1 hj1) (by decide) (by decide) fl_D_314 rfl d_D_end_47 rfl (sf_270 hZ1.2.1 hj1 (Or.inr (Or.inl h2))) ?_
                refine g_aload_n d_D_end_50 rfl ?_
                refine v_geti (v := nI f) (τ := f) 256 rfl hV (sl_4 hZ1.2.1 hf1) (by decide) (by decide) fl_D_173 rfl d_D_end_51 (ad_e hA1) (sf_256 hZ1.2.1 hf1) ?_
                refine g_icmp_ne 63 d_D_end_54 (by decide) (fun c_54 => ?_) (fun c_54 => ?_)
                · skip
                  refine g_iinc (v := nI (j + 1)) d_D_end_63 rfl (nI_1 _) (by decide) ?_
                  refine g_goto 7 d_D_end_66 (by decide) ?_
                  have eP : hrP (it_e1 f P0 j) j f = (it_e1 f P0 j) := by rw [hr_2 g5 h2, if_neg e16]
                  have eL : hrL (it_e1 f P0 j) (it_e1L f P0 LL j) j f = (it_e1L f P0 LL j) := by unfold hrL; rw [if_neg h1, if_pos h2, if_neg e16]
                  exact l_e1 hN hf hE1 hE2 r (j + 1) S1 M _ _ _ (by omega) (by omega) (by omega) (by rw [e1_s, eP]; show Zt _ (hrL (it_e1 f P0 j) (it_e1L f P0 LL j) j f) _ _; rw [eL]; exact ⟨hV, hZ1.2⟩) hA1 hB1
                · exact absurd (show (it_e1 f P0 j) 16 j = nI f from c_54) e16
            · exact absurd c_30 (by decide)
    by_cases h3 : (it_e1 f P0 j) 15 j = 3
    · have g5 : (it_e1 f P0 j) 5 j = 1 := ok2.mpr (by rw [h3]; decide)
      obtain ⟨a, e19, e20, hb1, hga, hgb, s1, s2, rA, rB⟩ := ok4 h3
      have hn1 : nfb (it_e1 f P0 j) ≤ 10 := by rw [nfb_e1]; exact hN
      have ha1 : a < nfb (it_e1 f P0 j) := by omega
      have nI_inj2 : ∀ {x : Nat}, nI x = nI f → x < 10 → f = x := fun q hx => by have := congrArg tn q; rw [tn_nI (by omega), tn_nI (by omega)] at this; exact this.symm
      by_cases hfa : f = a
      · have xr := x21_r (Q := (it_e1 f P0 j)) (g := j) (f := f) (o := a + 1) (by omega) (rA hfa).1 (rA hfa).2
        refine g_iload_n d_D_end_7 rfl ?_
        refine g_aload_n d_D_end_8 rfl ?_
        refine v_geti (v := nI (nfb P0)) (τ := 0) 3 rfl hV (sl_0 hZ1.2.1) (by decide) (by decide) fl_D_25 rfl d_D_end_9 (ad_e hA1) ((sd_3 hZ1.2.1).trans ((nf_nI hZ1.2.2.1).trans (congrArg nI (nfb_e1 f P0 j)))) ?_
        refine g_icmp_ge 69 d_D_end_12 (by decide) (fun c_12 => ?_) (fun c_12 => ?_)
        · exact absurd c_12 (ix_nle rfl rfl hlt (by omega))
        · skip
          refine g_aload_n d_D_end_15 rfl ?_
          refine g_iload_n d_D_end_16 rfl ?_
          refine g_callV (k1 := kb) (n1 := nb) [.int (nI j)] cw_D_94 cv_D_fiberAt d_D_end_17 (ad_e hA1) (hV.kdo (sl_0 hZ1.2.1) (by decide)) rfl rfl ⟨by simp, by simp⟩ (by first | decide | omega) (by first | decide | omega) (by first | decide | omega) (fun _ _ h => h) (s_fiberInx ⟨hV, hZ1.2⟩ hj1 rfl) (fun r_ M h_ hfr_ => ?_)
          obtain ⟨rfl, hV⟩ := h_
          refine g_astore_n d_D_end_20 (by decide) ?_
          refine g_aload_n d_D_end_21 rfl ?_
          refine g_ifnull 42 d_D_end_22 (by decide) (fun c_22 => ?_) (fun a_22 c_22 => ?_)
          · exact absurd (Eq.trans (Eq.symm (rfl : some (ad S1 4 j) = some _)) c_22) (by simp)
          · skip
            refine g_aload_n d_D_end_25 rfl ?_
            refine v_geti (v := 3) (τ := j) 269 rfl hV (sl_4 hZ1.2.1 hj1) (by decide) (by decide) fl_D_133 rfl d_D_end_26 rfl ((sf_269 hZ1.2.1 hj1).trans h3) ?_
            refine g_iconst (v := 3) d_D_end_29 (by decide) ?_
            refine g_icmp_ne 42 d_D_end_30 (by decide) (fun c_30 => ?_) (fun c_30 => ?_)
            · exact absurd c_30 (by decide)
            · skip
              refine g_aload_n d_D_end_33 rfl ?_
              refine g_aload_n d_D_end_34 rfl ?_
              refine g_aload_n d_D_end_35 rfl ?_
              refine g_callV (k1 := (kb - 3)) (n1 := (nb - 20)) [va_rf (some (ad S1 4 j)), va_rf (some (ad S 4 f))] cw_D_320 cv_D_tellRace d_D_end_36 (ad_e hA1) (hV.kdo (sl_0 hZ1.2.1) (by decide)) rfl rfl ⟨by simp, by simp⟩ (by first | decide | omega) (by first | decide | omega) (by first | decide | omega) (fun _ _ h => h) (s_tellRace_xf (P := (x21 (it_e1 f P0 j) j f)) (a := a) (g := j) (f := f) (Zt.x21 ⟨hV, hZ1.2⟩ hj1 hf1) (by unfold nfb; rw [x21_o (it_e1 f P0 j) j f (show ¬ 42 = 21 by decide)]; exact hj1) (by unfold nfb; rw [x21_o (it_e1 f P0 j) j f (show ¬ 42 = 21 by decide)]; exact ha1) (by unfold nfb; rw [x21_o (it_e1 f P0 j) j f (show ¬ 42 = 21 by decide)]; exact hb1) hga hgb (by rw [(x21_o (it_e1 f P0 j) j f (show ¬ 15 = 21 by decide))]; exact h3) (by rw [(x21_o (it_e1 f P0 j) j f (show ¬ 5 = 21 by decide))]; exact g5) (by rw [(x21_o (it_e1 f P0 j) j f (show ¬ 19 = 21 by decide))]; exact e19) (by rw [(x21_o (it_e1 f P0 j) j f (show ¬ 20 = 21 by decide))]; exact e20) (by rw [(x21_o (it_e1 f P0 j) j f (show ¬ 43 = 21 by decide))]; exact ok3) hfa (by rw [(x21_o (it_e1 f P0 j) j f (show ¬ 5 = 21 by decide))]; exact ok1) xr.1 xr.2.1 xr.2.2 (by rw [(x21_o (it_e1 f P0 j) j f (show ¬ 6 = 21 by decide))]; exact s2.1) (by rw [(x21_o (it_e1 f P0 j) j f (show ¬ 5 = 21 by decide)), (x21_o (it_e1 f P0 j) j f (show ¬ 15 = 21 by decide))]; exact s2.2.1) (by rw [(x21_o (it_e1 f P0 j) j f (show ¬ 15 = 21 by decide)), (x21_o (it_e1 f P0 j) j f (show ¬ 16 = 21 by decide))]; exact s2.2.2) rfl (ad_e hA1)) (fun r_ M h_ hfr_ => ?_)
              obtain ⟨rfl, S2, hZ2, ha2, hb2⟩ := h_
              refine g_goto 63 d_D_end_39 (by decide) ?_
              refine g_iinc (v := nI (j + 1)) d_D_end_63 rfl (nI_1 _) (by decide) ?_
              refine g_goto 7 d_D_end_66 (by decide) ?_
              have eP : hrP (it_e1 f P0 j) j f = p_h149 (x21 (it_e1 f P0 j) j f) j f (a + 1) := by rw [hr_3 g5 h3, e19, if_pos (by rw [hfa]), e20, tn_nI (by omega)]
              have eL : hrL (it_e1 f P0 j) (it_e1L f P0 LL j) j f = rcL2 (x21 (it_e1 f P0 j) j f) (it_e1L f P0 LL j) j f (a + 1) := by unfold hrL; rw [if_neg (show ¬ (it_e1 f P0 j) 15 j = 1 by rw [h3]; decide), if_neg (show ¬ (it_e1 f P0 j) 15 j = 2 by rw [h3]; decide), if_pos h3, e19, if_pos (by rw [hfa]), e20, tn_nI (by omega)]
              exact l_e1 hN hf hE1 hE2 r (j + 1) S2 M _ _ _ (by omega) (by omega) (by omega) (by rw [e1_s, eP]; show Zt _ (hrL (it_e1 f P0 j) (it_e1L f P0 LL j) j f) _ _; rw [eL]; exact hZ2) (ha2.trans hA1) (hb2.trans hB1)
      by_cases hfb : f = a + 1
      · have xr := x21_r (Q := (it_e1 f P0 j)) (g := j) (f := f) (o := a) (by omega) (rB hfb).1 (rB hfb).2
        refine g_iload_n d_D_end_7 rfl ?_
        refine g_aload_n d_D_end_8 rfl ?_
        refine v_geti (v := nI (nfb P0)) (τ := 0) 3 rfl hV (sl_0 hZ1.2.1) (by decide) (by decide) fl_D_25 rfl d_D_end_9 (ad_e hA1) ((sd_3 hZ1.2.1).trans ((nf_nI hZ1.2.2.1).trans (congrArg nI (nfb_e1 f P0 j)))) ?_
        refine g_icmp_ge 69 d_D_end_12 (by decide) (fun c_12 => ?_) (fun c_12 => ?_)
        · exact absurd c_12 (ix_nle rfl rfl hlt (by omega))
        · skip
          refine g_aload_n d_D_end_15 rfl ?_
          refine g_iload_n d_D_end_16 rfl ?_
          refine g_callV (k1 := kb) (n1 := nb) [.int (nI j)] cw_D_94 cv_D_fiberAt d_D_end_17 (ad_e hA1) (hV.kdo (sl_0 hZ1.2.1) (by decide)) rfl rfl ⟨by simp, by simp⟩ (by first | decide | omega) (by first | decide | omega) (by first | decide | omega) (fun _ _ h => h) (s_fiberInx ⟨hV, hZ1.2⟩ hj1 rfl) (fun r_ M h_ hfr_ => ?_)
          obtain ⟨rfl, hV⟩ := h_
          refine g_astore_n d_D_end_20 (by decide) ?_
          refine g_aload_n d_D_end_21 rfl ?_
          refine g_ifnull 42 d_D_end_22 (by decide) (fun c_22 => ?_) (fun a_22 c_22 => ?_)
          · exact absurd (Eq.trans (Eq.symm (rfl : some (ad S1 4 j) = some _)) c_22) (by simp)
          · skip
            refine g_aload_n d_D_end_25 rfl ?_
            refine v_geti (v := 3) (τ := j) 269 rfl hV (sl_4 hZ1.2.1 hj1) (by decide) (by decide) fl_D_133 rfl d_D_end_26 rfl ((sf_269 hZ1.2.1 hj1).trans h3) ?_
            refine g_iconst (v := 3) d_D_end_29 (by decide) ?_
            refine g_icmp_ne 42 d_D_end_30 (by decide) (fun c_30 => ?_) (fun c_30 => ?_)
            · exact absurd c_30 (by decide)
            · skip
              refine g_aload_n d_D_end_33 rfl ?_
              refine g_aload_n d_D_end_34 rfl ?_
              refine g_aload_n d_D_end_35 rfl ?_
              refine g_callV (k1 := (kb - 3)) (n1 := (nb - 20)) [va_rf (some (ad S1 4 j)), va_rf (some (ad S 4 f))] cw_D_320 cv_D_tellRace d_D_end_36 (ad_e hA1) (hV.kdo (sl_0 hZ1.2.1) (by decide)) rfl rfl ⟨by simp, by simp⟩ (by first | decide | omega) (by first | decide | omega) (by first | decide | omega) (fun _ _ h => h) (s_tellRace_yf (P := (x21 (it_e1 f P0 j) j f)) (a := a) (g := j) (f := f) (Zt.x21 ⟨hV, hZ1.2⟩ hj1 hf1) (by unfold nfb; rw [x21_o (it_e1 f P0 j) j f (show ¬ 42 = 21 by decide)]; exact hj1) (by unfold nfb; rw [x21_o (it_e1 f P0 j) j f (show ¬ 42 = 21 by decide)]; exact ha1) (by unfold nfb; rw [x21_o (it_e1 f P0 j) j f (show ¬ 42 = 21 by decide)]; exact hb1) hga hgb (by rw [(x21_o (it_e1 f P0 j) j f (show ¬ 15 = 21 by decide))]; exact h3) (by rw [(x21_o (it_e1 f P0 j) j f (show ¬ 5 = 21 by decide))]; exact g5) (by rw [(x21_o (it_e1 f P0 j) j f (show ¬ 19 = 21 by decide))]; exact e19) (by rw [(x21_o (it_e1 f P0 j) j f (show ¬ 20 = 21 by decide))]; exact e20) (by rw [(x21_o (it_e1 f P0 j) j f (show ¬ 43 = 21 by decide))]; exact ok3) hfb (by rw [(x21_o (it_e1 f P0 j) j f (show ¬ 5 = 21 by decide))]; exact ok1) xr.1 xr.2.1 xr.2.2 (by rw [(x21_o (it_e1 f P0 j) j f (show ¬ 6 = 21 by decide))]; exact s1.1) (by rw [(x21_o (it_e1 f P0 j) j f (show ¬ 5 = 21 by decide)), (x21_o (it_e1 f P0 j) j f (show ¬ 15 = 21 by decide))]; exact s1.2.1) (by rw [(x21_o (it_e1 f P0 j) j f (show ¬ 15 = 21 by decide)), (x21_o (it_e1 f P0 j) j f (show ¬ 16 = 21 by decide))]; exact s1.2.2) rfl (ad_e hA1)) (fun r_ M h_ hfr_ => ?_)
              obtain ⟨rfl, S2, hZ2, ha2, hb2⟩ := h_
              refine g_goto 63 d_D_end_39 (by decide) ?_
              refine g_iinc (v := nI (j + 1)) d_D_end_63 rfl (nI_1 _) (by decide) ?_
              refine g_goto 7 d_D_end_66 (by decide) ?_
              have eP : hrP (it_e1 f P0 j) j f = p_h149 (x21 (it_e1 f P0 j) j f) j f a := by rw [hr_3 g5 h3, e19, if_neg (fun q => hfa (nI_inj2 q (by omega))), e20, if_pos (by rw [hfb]), tn_nI (by omega)]
              have eL : hrL (it_e1 f P0 j) (it_e1L f P0 LL j) j f = rcL2 (x21 (it_e1 f P0 j) j f) (it_e1L f P0 LL j) j f a := by unfold hrL; rw [if_neg (show ¬ (it_e1 f P0 j) 15 j = 1 by rw [h3]; decide), if_neg (show ¬ (it_e1 f P0 j) 15 j = 2 by rw [h3]; decide), if_pos h3, e19, if_neg (fun q => hfa (nI_inj2 q (by omega))), e20, if_pos (by rw [hfb]), tn_nI (by omega)]
              exact l_e1 hN hf hE1 hE2 r (j + 1) S2 M _ _ _ (by omega) (by omega) (by omega) (by rw [e1_s, eP]; show Zt _ (hrL (it_e1 f P0 j) (it_e1L f P0 LL j) j f) _ _; rw [eL]; exact hZ2) (ha2.trans hA1) (hb2.trans hB1)
      · skip
        refine g_iload_n d_D_end_7 rfl ?_
        refine g_aload_n d_D_end_8 rfl ?_
        refine v_geti (v := nI (nfb P0)) (τ := 0) 3 rfl hV (sl_0 hZ1.2.1) (by decide) (by decide) fl_D_25 rfl d_D_end_9 (ad_e hA1) ((sd_3 hZ1.2.1).trans ((nf_nI hZ1.2.2.1).trans (congrArg nI (nfb_e1 f P0 j)))) ?_
        refine g_icmp_ge 69 d_D_end_12 (by decide) (fun c_12 => ?_) (fun c_12 => ?_)
        · exact absurd c_12 (ix_nle rfl rfl hlt (by omega))
        · skip
          refine g_aload_n d_D_end_15 rfl ?_
          refine g_iload_n d_D_end_16 rfl ?_
          refine g_callV (k1 := kb) (n1 := nb) [.int (nI j)] cw_D_94 cv_D_fiberAt d_D_end_17 (ad_e hA1) (hV.kdo (sl_0 hZ1.2.1) (by decide)) rfl rfl ⟨by simp, by simp⟩ (by first | decide | omega) (by first | decide | omega) (by first | decide | omega) (fun _ _ h => h) (s_fiberInx ⟨hV, hZ1.2⟩ hj1 rfl) (fun r_ M h_ hfr_ => ?_)
          obtain ⟨rfl, hV⟩ := h_
          refine g_astore_n d_D_end_20 (by decide) ?_
          refine g_aload_n d_D_end_21 rfl ?_
          refine g_ifnull 42 d_D_end_22 (by decide) (fun c_22 => ?_) (fun a_22 c_22 => ?_)
          · exact absurd (Eq.trans (Eq.symm (rfl : some (ad S1 4 j) = some _)) c_22) (by simp)
          · skip
            refine g_aload_n d_D_end_25 rfl ?_
            refine v_geti (v := 3) (τ := j) 269 rfl hV (sl_4 hZ1.2.1 hj1) (by decide) (by decide) fl_D_133 rfl d_D_end_26 rfl ((sf_269 hZ1.2.1 hj1).trans h3) ?_
            refine g_iconst (v := 3) d_D_end_29 (by decide) ?_
            refine g_icmp_ne 42 d_D_end_30 (by decide) (fun c_30 => ?_) (fun c_30 => ?_)
            · exact absurd c_30 (by decide)
            · skip
              refine g_aload_n d_D_end_33 rfl ?_
              refine g_aload_n d_D_end_34 rfl ?_
              refine g_aload_n d_D_end_35 rfl ?_
              refine g_callV (k1 := (kb - 3)) (n1 := (nb - 20)) [va_rf (some (ad S1 4 j)), va_rf (some (ad S 4 f))] cw_D_320 cv_D_tellRace d_D_end_36 (ad_e hA1) (hV.kdo (sl_0 hZ1.2.1) (by decide)) rfl rfl ⟨by simp, by simp⟩ (by first | decide | omega) (by first | decide | omega) (by first | decide | omega) (fun _ _ h => h) (s_D_tellRace_o ⟨hV, hZ1.2⟩ hj1 ha1 hb1 hga hgb h3 g5 e19 e20 ok3 hf1 hfa hfb rfl (ad_e hA1)) (fun r_ M h_ hfr_ => ?_)
              obtain ⟨rfl, S2, hZ2, ha2, hb2⟩ := h_
              refine g_goto 63 d_D_end_39 (by decide) ?_
              refine g_iinc (v := nI (j + 1)) d_D_end_63 rfl (nI_1 _) (by decide) ?_
              refine g_goto 7 d_D_end_66 (by decide) ?_
              have eP : hrP (it_e1 f P0 j) j f = (it_e1 f P0 j) := by rw [hr_3 g5 h3, e19, if_neg (fun q => hfa (nI_inj2 q (by omega))), e20, if_neg (fun q => hfb (nI_inj2 q (by omega)))]
              have eL : hrL (it_e1 f P0 j) (it_e1L f P0 LL j) j f = (it_e1L f P0 LL j) := by unfold hrL; rw [if_neg (show ¬ (it_e1 f P0 j) 15 j = 1 by rw [h3]; decide), if_neg (show ¬ (it_e1 f P0 j) 15 j = 2 by rw [h3]; decide), if_pos h3, e19, if_neg (fun q => hfa (nI_inj2 q (by omega))), e20, if_neg (fun q => hfb (nI_inj2 q (by omega)))]
              exact l_e1 hN hf hE1 hE2 r (j + 1) S2 M _ _ _ (by omega) (by omega) (by omega) (by rw [e1_s, eP]; show Zt _ (hrL (it_e1 f P0 j) (it_e1L f P0 LL j) j f) _ _; rw [eL]; exact hZ2) (ha2.trans hA1) (hb2.trans hB1)
    skip
    refine g_iload_n d_D_end_7 rfl ?_
    refine g_aload_n d_D_end_8 rfl ?_
    refine v_geti (v := nI (nfb P0)) (τ := 0) 3 rfl hV (sl_0 hZ1.2.1) (by decide) (by decide) fl_D_25 rfl d_D_end_9 (ad_e hA1) ((sd_3 hZ1.2.1).trans ((nf_nI hZ1.2.2.1).trans (congrArg nI (nfb_e1 f P0 j)))) ?_
    refine g_icmp_ge 69 d_D_end_12 (by decide) (fun c_12 => ?_) (fun c_12 => ?_)
    · exact absurd c_12 (ix_nle rfl rfl hlt (by omega))
    · skip
      refine g_aload_n d_D_end_15 rfl ?_
      refine g_iload_n d_D_end_16 rfl ?_
      refine g_callV (k1 := kb) (n1 := nb) [.int (nI j)] cw_D_94 cv_D_fiberAt d_D_end_17 (ad_e hA1) (hV.kdo (sl_0 hZ1.2.1) (by decide)) rfl rfl ⟨by simp, by simp⟩ (by first | decide | omega) (by first | decide | omega) (by first | decide | omega) (fun _ _ h => h) (s_fiberInx ⟨hV, hZ1.2⟩ hj1 rfl) (fun r_ M h_ hfr_ => ?_)
      obtain ⟨rfl, hV⟩ := h_
      refine g_astore_n d_D_end_20 (by decide) ?_
      refine g_aload_n d_D_end_21 rfl ?_
      refine g_ifnull 42 d_D_end_22 (by decide) (fun c_22 => ?_) (fun a_22 c_22 => ?_)
      · exact absurd (Eq.trans (Eq.symm (rfl : some (ad S1 4 j) = some _)) c_22) (by simp)
      · skip
        refine g_aload_n d_D_end_25 rfl ?_
        refine v_geti (v := (it_e1 f P0 j) 15 j) (τ := j) 269 rfl hV (sl_4 hZ1.2.1 hj1) (by decide) (by decide) fl_D_133 rfl d_D_end_26 rfl (sf_269 hZ1.2.1 hj1) ?_
        refine g_iconst (v := 3) d_D_end_29 (by decide) ?_
        refine g_icmp_ne 42 d_D_end_30 (by decide) (fun c_30 => ?_) (fun c_30 => ?_)
        · skip
          refine g_aload_n d_D_end_42 rfl ?_
          refine g_ifnull 63 d_D_end_43 (by decide) (fun c_43 => ?_) (fun a_43 c_43 => ?_)
          · exact absurd (Eq.trans (Eq.symm (rfl : some (ad S1 4 j) = some _)) c_43) (by simp)
          · skip
            refine g_aload_n d_D_end_46 rfl ?_
            refine v_geti (v := vi S1 270 j) (τ := j) 270 rfl hV (sl_4 hZ1.2.1 hj1) (by decide) (by decide) fl_D_314 rfl d_D_end_47 rfl rfl ?_
            refine g_aload_n d_D_end_50 rfl ?_
            refine v_geti (v := nI f) (τ := f) 256 rfl hV (sl_4 hZ1.2.1 hf1) (by decide) (by decide) fl_D_173 rfl d_D_end_51 (ad_e hA1) (sf_256 hZ1.2.1 hf1) ?_
            refine g_icmp_ne 63 d_D_end_54 (by decide) (fun c_54 => ?_) (fun c_54 => ?_)
            · skip
              refine g_iinc (v := nI (j + 1)) d_D_end_63 rfl (nI_1 _) (by decide) ?_
              refine g_goto 7 d_D_end_66 (by decide) ?_
              have eP : hrP (it_e1 f P0 j) j f = (it_e1 f P0 j) := hr_o h1 h2 h3
              have eL : hrL (it_e1 f P0 j) (it_e1L f P0 LL j) j f = (it_e1L f P0 LL j) := by unfold hrL; rw [if_neg h1, if_neg h2, if_neg h3]
              exact l_e1 hN hf hE1 hE2 r (j + 1) S1 M _ _ _ (by omega) (by omega) (by omega) (by rw [e1_s, eP]; show Zt _ (hrL (it_e1 f P0 j) (it_e1L f P0 LL j) j f) _ _; rw [eL]; exact ⟨hV, hZ1.2⟩) hA1 hB1
            · skip
              refine g_aload_n d_D_end_57 rfl ?_
              refine g_aload_n d_D_end_58 rfl ?_
              refine g_aload_n d_D_end_59 rfl ?_
              refine g_callV (k1 := kb) (n1 := nb) [va_rf (some (ad S1 4 j)), va_rf (some (ad S 4 f))] cw_D_324 cv_D_tellEnd d_D_end_60 (ad_e hA1) (hV.kdo (sl_0 hZ1.2.1) (by decide)) rfl rfl ⟨by simp, by simp⟩ (by first | decide | omega) (by first | decide | omega) (by first | decide | omega) (fun _ _ h => h) (s_D_tellEnd0 ⟨hV, hZ1.2⟩ hj1 h1 h2 rfl _) (fun r_ M h_ hfr_ => ?_)
              obtain ⟨rfl, S2, hZ2, ha2, hb2⟩ := h_
              refine g_iinc (v := nI (j + 1)) d_D_end_63 rfl (nI_1 _) (by decide) ?_
              refine g_goto 7 d_D_end_66 (by decide) ?_
              have eP : hrP (it_e1 f P0 j) j f = (it_e1 f P0 j) := hr_o h1 h2 h3
              have eL : hrL (it_e1 f P0 j) (it_e1L f P0 LL j) j f = (it_e1L f P0 LL j) := by unfold hrL; rw [if_neg h1, if_neg h2, if_neg h3]
              exact l_e1 hN hf hE1 hE2 r (j + 1) S2 M _ _ _ (by omega) (by omega) (by omega) (by rw [e1_s, eP]; show Zt _ (hrL (it_e1 f P0 j) (it_e1L f P0 LL j) j f) _ _; rw [eL]; exact hZ2) (ha2.trans hA1) (hb2.trans hB1)
        · exact absurd (show (it_e1 f P0 j) 15 j = 3 from c_30) h3
