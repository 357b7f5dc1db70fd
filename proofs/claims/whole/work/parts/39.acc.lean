/-! what the relation says of each field; what a call of the class leaves -/
def Zt (P : Pst) (LL : Lls) (S : Gs) (M : Mm) : Prop := VM S M ∧ Sim P LL S ∧ WB P ∧ tn (P 43 0) = (LL 0).length
/-- addresses stay -/
def Kp (P : Pst) (S S' : Gs) : Prop := (∀ c τ, ¬ c = 4 → ¬ c = 5 → lv S c τ = true → ad S' c τ = ad S c τ) ∧ (∀ j, j < nfb P → ad S' 4 j = ad S 4 j) ∧ ∀ c τ, lv S c τ = true → lv S' c τ = true
theorem Kp.refl (P : Pst) (S : Gs) : Kp P S S := ⟨fun _ _ _ _ _ => rfl, fun _ _ => rfl, fun _ _ h => h⟩
theorem Kp.of {P : Pst} {S S' : Gs} (h : ad S' = ad S) (hl : lv S' = lv S) : Kp P S S' := ⟨fun _ _ _ _ _ => by rw [h], fun _ _ => by rw [h], fun _ _ q => by rw [hl]; exact q⟩
theorem Kp.trans {P P1 : Pst} {S S1 S2 : Gs} (h : Kp P S S1) (h' : Kp P1 S1 S2) (hn : nfb P ≤ nfb P1) : Kp P S S2 := ⟨fun c τ a b l => (h'.1 c τ a b (h.2.2 c τ l)).trans (h.1 c τ a b l), fun j hj => (h'.2.1 j (by omega)).trans (h.2.1 j hj), fun c τ l => h'.2.2 c τ (h.2.2 c τ l)⟩
theorem ad_k {S S1 : Gs} {o : Option Nat} {c t : Nat} (h : o = some (ad S c t)) (e : ad S1 c t = ad S c t) : o = some (ad S1 c t) := by rw [e]; exact h
section Acc
variable {P : Pst} {LL : Lls} {S : Gs}
theorem sd_0 (h : Sim P LL S) : vr S 0 0 = some (ad S 22 0) := h.1.2.1
theorem sd_1 (h : Sim P LL S) : vi S 1 0 = P 4 0 := h.1.2.2.1
theorem sd_2 (h : Sim P LL S) : vr S 2 0 = some (ad S 23 0) := h.1.2.2.2.1
theorem sd_3 (h : Sim P LL S) : vi S 3 0 = P 42 0 := h.1.2.2.2.2.1
theorem sd_4 (h : Sim P LL S) : vr S 4 0 = some (ad S 1 0) := h.1.2.2.2.2.2.1
theorem sd_5 (h : Sim P LL S) : vr S 5 0 = some (ad S 24 0) := h.1.2.2.2.2.2.2.1
theorem sd_6 (h : Sim P LL S) : vr S 6 0 = some (ad S 21 0) := h.1.2.2.2.2.2.2.2.1
theorem sd_7 (h : Sim P LL S) : vi S 7 0 = P 46 0 := h.1.2.2.2.2.2.2.2.2.1
theorem sd_8 (h : Sim P LL S) : vi S 8 0 = P 44 0 := h.1.2.2.2.2.2.2.2.2.2.1
theorem sd_9 (h : Sim P LL S) : vi S 9 0 = P 45 0 := h.1.2.2.2.2.2.2.2.2.2.2.1
theorem sd_10 (h : Sim P LL S) : vi S 10 0 = P 47 0 := h.1.2.2.2.2.2.2.2.2.2.2.2.1
theorem sd_11 (h : Sim P LL S) : vr S 11 0 = (if P 48 0 < 0 then none else some (ad S 4 (tn (P 48 0)))) := h.1.2.2.2.2.2.2.2.2.2.2.2.2.1
theorem sd_12 (h : Sim P LL S) (hw : ¬ P 48 0 < 0) : tn (P 48 0) < nfb P ∧ vi S 12 0 = 5 - P 49 0 := h.1.2.2.2.2.2.2.2.2.2.2.2.2.2 hw
theorem sl_0 (h : Sim P LL S) : lv S 0 0 = true := h.1.1.1
theorem sl_21 (h : Sim P LL S) : lv S 21 0 = true := h.1.1.2.1
theorem sl_22 (h : Sim P LL S) : lv S 22 0 = true := h.1.1.2.2.1
theorem sl_23 (h : Sim P LL S) : lv S 23 0 = true := h.1.1.2.2.2.1
theorem sl_24 (h : Sim P LL S) : lv S 24 0 = true := h.1.1.2.2.2.2
theorem sl_4 (h : Sim P LL S) {i : Nat} (hi : i < nfb P) : lv S 4 i = true := (h.2.2.2.2.1 i hi).1.1
theorem sf_at (h : Sim P LL S) {i : Nat} (hi : i < nfb P) : vr S (1472 + i) 0 = some (ad S 4 i) := (h.2.2.2.2.1 i hi).1.2.1
theorem sf_256 (h : Sim P LL S) {i : Nat} (hi : i < nfb P) : vi S 256 i = nI i := (h.2.2.2.2.1 i hi).1.2.2.1
theorem sf_257 (h : Sim P LL S) {i : Nat} (hi : i < nfb P) : vi S 257 i = P 8 i := (h.2.2.2.2.1 i hi).1.2.2.2.1
theorem sf_262 (h : Sim P LL S) {i : Nat} (hi : i < nfb P) : vi S 262 i = endI (P 5 i) := (h.2.2.2.2.1 i hi).1.2.2.2.2.1
theorem sf_263 (h : Sim P LL S) {i : Nat} (hi : i < nfb P) : vr S 263 i = topR S i (tn (P 22 i)) := (h.2.2.2.2.1 i hi).1.2.2.2.2.2.1
theorem sf_264 (h : Sim P LL S) {i : Nat} (hi : i < nfb P) : vi S 264 i = P 22 i := (h.2.2.2.2.1 i hi).1.2.2.2.2.2.2.1
theorem sf_265 (h : Sim P LL S) {i : Nat} (hi : i < nfb P) : vi S 265 i = P 10 i := (h.2.2.2.2.1 i hi).1.2.2.2.2.2.2.2.1
theorem sf_266 (h : Sim P LL S) {i : Nat} (hi : i < nfb P) : vi S 266 i = P 6 i := (h.2.2.2.2.1 i hi).1.2.2.2.2.2.2.2.2.1
theorem sf_268 (h : Sim P LL S) {i : Nat} (hi : i < nfb P) : vi S 268 i = P 9 i := (h.2.2.2.2.1 i hi).1.2.2.2.2.2.2.2.2.2.1
theorem sf_269 (h : Sim P LL S) {i : Nat} (hi : i < nfb P) : vi S 269 i = P 15 i := (h.2.2.2.2.1 i hi).1.2.2.2.2.2.2.2.2.2.2
theorem sf_267 (h : Sim P LL S) {i : Nat} (hi : i < nfb P) (h6 : P 6 i = 1) : vi S 267 i = P 7 i := (h.2.2.2.2.1 i hi).2.1.1 h6
theorem sf_270 (h : Sim P LL S) {i : Nat} (hi : i < nfb P) (h6 : P 15 i = 1 ∨ P 15 i = 2 ∨ P 15 i = 5 ∨ P 15 i = 6) : vi S 270 i = P 16 i := (h.2.2.2.2.1 i hi).2.1.2.1 h6
theorem sf_270r (h : Sim P LL S) {i : Nat} (hi : i < nfb P) (h6 : P 15 i = 3) : vi S 270 i = P 19 i := (h.2.2.2.2.1 i hi).2.1.2.2.1 h6
theorem sf_271 (h : Sim P LL S) {i : Nat} (hi : i < nfb P) (h6 : P 15 i = 4) : vi S 271 i = P 16 i := (h.2.2.2.2.1 i hi).2.1.2.2.2 h6
theorem sf_act (h : Sim P LL S) {i : Nat} (hi : i < nfb P) (h5 : P 5 i = 0) (h6 : ¬ (P 6 i = 1 ∧ P 10 i = 0)) : ActR P S i := (h.2.2.2.2.1 i hi).2.2.1 h5 h6
theorem sf_exit (h : Sim P LL S) {i : Nat} (hi : i < nfb P) (h5 : P 5 i = 2) : ExitR P S i := (h.2.2.2.2.1 i hi).2.2.2.1 h5
theorem sl_2 (h : Sim P LL S) {n : Nat} (hn : n < 4) : lv S 2 n = true := (h.2.1 n hn).1
theorem sp_at (h : Sim P LL S) {n : Nat} (hn : n < 4) : vr S (1536 + n) 0 = some (ad S 2 n) := (h.2.1 n hn).2.1
theorem sp_132 (h : Sim P LL S) {n : Nat} (hn : n < 4) : vr S 132 n = some (ad S 1 (1 + n)) := (h.2.1 n hn).2.2.1
theorem sp_133 (h : Sim P LL S) {n : Nat} (hn : n < 4) : vr S 133 n = some (ad S 1 (5 + n)) := (h.2.1 n hn).2.2.2.1
theorem sp_128 (h : Sim P LL S) {n : Nat} (hn : n < 4) (hs : ¬ P 51 0 = 0) : vi S 128 n = P 37 n := ((h.2.1 n hn).2.2.2.2 hs).1
theorem sp_129 (h : Sim P LL S) {n : Nat} (hn : n < 4) (hs : ¬ P 51 0 = 0) : vi S 129 n = P 41 n := ((h.2.1 n hn).2.2.2.2 hs).2.1
theorem sp_130 (h : Sim P LL S) {n : Nat} (hn : n < 4) (hs : ¬ P 51 0 = 0) : vi S 130 n = P 38 n := ((h.2.1 n hn).2.2.2.2 hs).2.2.1
theorem sp_131 (h : Sim P LL S) {n : Nat} (hn : n < 4) (hs : ¬ P 51 0 = 0) : vi S 131 n = P 39 n := ((h.2.1 n hn).2.2.2.2 hs).2.2.2
theorem sl_1 (h : Sim P LL S) {t : Nat} (ht : t < 9) : lv S 1 t = true := (h.2.2.1 t ht).1
theorem ln (h : Sim P LL S) {t : Nat} (ht : t < 9) : Ln S t (LL t) := h.2.2.1 t ht
theorem se_at (h : Sim P LL S) {e : Nat} (he : lv S 3 e = true) : vr S (1408 + e) 0 = some (ad S 3 e) := ((h.2.2.2.1 e).2 he).1
theorem se_192 (h : Sim P LL S) {e : Nat} (he : lv S 3 e = true) : vi S 192 e = P 0 e := ((h.2.2.2.1 e).2 he).2.1
theorem se_193 (h : Sim P LL S) {e : Nat} (he : lv S 3 e = true) : vi S 193 e = P 1 e := ((h.2.2.2.1 e).2 he).2.2.1
theorem se_194 (h : Sim P LL S) {e : Nat} (he : lv S 3 e = true) (hn : ¬ a_R_needs (P 0 e) ≤ 0) : vr S 194 e = some (ad S 3 (tn (P 1 e))) := (((h.2.2.2.1 e).2 he).2.2.2.1 hn).2
theorem se_195 (h : Sim P LL S) {e : Nat} (he : lv S 3 e = true) (hn : ¬ a_R_needs (P 0 e) ≤ 1) : vr S 195 e = some (ad S 3 (tn (P 2 e))) := (((h.2.2.2.1 e).2 he).2.2.2.2.1 hn).2
theorem se_196 (h : Sim P LL S) {e : Nat} (he : lv S 3 e = true) (hn : ¬ a_R_needs (P 0 e) ≤ 2) : vr S 196 e = some (ad S 3 (tn (P 3 e))) := (((h.2.2.2.1 e).2 he).2.2.2.2.2 hn).2
theorem sl_x (h : Sim P LL S) {e : Nat} (he : lv S 3 e = true) (hn : ¬ a_R_needs (P 0 e) ≤ 0) : lv S 3 (tn (P 1 e)) = true := (((h.2.2.2.1 e).2 he).2.2.2.1 hn).1
theorem sl_y (h : Sim P LL S) {e : Nat} (he : lv S 3 e = true) (hn : ¬ a_R_needs (P 0 e) ≤ 1) : lv S 3 (tn (P 2 e)) = true := (((h.2.2.2.1 e).2 he).2.2.2.2.1 hn).1
theorem sl_z (h : Sim P LL S) {e : Nat} (he : lv S 3 e = true) (hn : ¬ a_R_needs (P 0 e) ≤ 2) : lv S 3 (tn (P 3 e)) = true := (((h.2.2.2.1 e).2 he).2.2.2.2.2 hn).1
theorem spr_at (h : Sim P LL S) {j : Nat} (hj : j < 24) : vi S (1344 + j) 0 = P 40 j := h.2.2.2.2.2.2 j hj
theorem sl_5 (h : Sim P LL S) {i p : Nat} (hi : i < nfb P) (hp : p < tn (P 22 i)) : lv S 5 (16 * i + p) = true := (h.2.2.2.2.2.1 i p hi hp).1.1
theorem sq_e (h : Sim P LL S) {i p : Nat} (hi : i < nfb P) (hp : p < tn (P 22 i)) : lv S 3 (tn (P 24 (16 * i + p))) = true := (h.2.2.2.2.2.1 i p hi hp).1.2.1
theorem sq_320 (h : Sim P LL S) {i p : Nat} (hi : i < nfb P) (hp : p < tn (P 22 i)) : vr S 320 (16 * i + p) = some (ad S 3 (tn (P 24 (16 * i + p)))) := (h.2.2.2.2.2.1 i p hi hp).1.2.2.1
theorem sq_321 (h : Sim P LL S) {i p : Nat} (hi : i < nfb P) (hp : p < tn (P 22 i)) : vi S 321 (16 * i + p) = P 31 (16 * i + p) := (h.2.2.2.2.2.1 i p hi hp).1.2.2.2.1
theorem sq_322 (h : Sim P LL S) {i p : Nat} (hi : i < nfb P) (hp : p < tn (P 22 i)) : vr S 322 (16 * i + p) = topR S i p := (h.2.2.2.2.2.1 i p hi hp).1.2.2.2.2.1
theorem sq_325 (h : Sim P LL S) {i p : Nat} (hi : i < nfb P) (hp : p < tn (P 22 i)) : vi S 325 (16 * i + p) = cloI (P 25 (16 * i + p)) := (h.2.2.2.2.2.1 i p hi hp).1.2.2.2.2.2
theorem n10 (hw : WB P) : nfb P ≤ 10 := (hw 42 0).2
theorem nf_nI (hw : WB P) : P 42 0 = nI (nfb P) := (hw 42 0).1
end Acc
/-- a number is that of a fiber, or of none -/
theorem fb_cases {P : Pst} (hw : WB P) (x : Int32) : (x < 0 ∨ (¬ x < 0 ∧ P 42 0 ≤ x)) ∨ ∃ i, i < nfb P ∧ x = nI i := by
  by_cases h : x < 0
  · exact Or.inl (Or.inl h)
  · by_cases h2 : P 42 0 ≤ x
    · exact Or.inl (Or.inr ⟨h, h2⟩)
    · exact Or.inr ⟨tn x, ix_lt_of (tn_of h) (nf_nI hw) (by have := n10 hw; omega) h2, tn_of h⟩
theorem pl_cases (x : Int32) : (x < 0 ∨ (¬ x < 0 ∧ 4 ≤ x)) ∨ ∃ n, n < 4 ∧ x = nI n := by
  by_cases h : x < 0
  · exact Or.inl (Or.inl h)
  · by_cases h2 : 4 ≤ x
    · exact Or.inl (Or.inr ⟨h, h2⟩)
    · exact Or.inr ⟨tn x, ix_lt_of (b := 4) (tn_of h) rfl (by decide) h2, tn_of h⟩
theorem ef_cases {P : Pst} (hw : WB P) (x : Int32) : (x < 0 ∨ (¬ x < 0 ∧ P 4 0 ≤ x)) ∨ ∃ i, i < nef P ∧ x = nI i := by
  by_cases h : x < 0
  · exact Or.inl (Or.inl h)
  · by_cases h2 : P 4 0 ≤ x
    · exact Or.inl (Or.inr ⟨h, h2⟩)
    · exact Or.inr ⟨tn x, ix_lt_of (tn_of h) (hw 4 0).1 (by have : nef P ≤ 40 := (hw 4 0).2; omega) h2, tn_of h⟩
