/-! THE REFERENCE's STATE: P f j is what place j of its field f holds (a single number: j = 0) -/
abbrev Pst : Type := Nat → Nat → Int32
def up (P : Pst) (f j : Nat) (x : Int32) : Pst := fun g i => if g = f ∧ i = j then x else P g i
theorem up_s (P : Pst) (f j : Nat) (x : Int32) : up P f j x f j = x := by unfold up; rw [if_pos ⟨rfl, rfl⟩]
theorem up_f {f g : Nat} (h : g ≠ f) (P : Pst) (j i : Nat) (x : Int32) : up P f j x g i = P g i := by unfold up; rw [if_neg (fun q => h q.1)]
theorem up_j {j i : Nat} (h : i ≠ j) (P : Pst) (f g : Nat) (x : Int32) : up P f j x g i = P g i := by unfold up; rw [if_neg (fun q => h q.2)]
/-- the lengths of its arrays (0: no array) -/
def rlen : Nat → Nat := fun f => [40, 40, 40, 40, 0, 10, 10, 10, 10, 10, 10, 10, 10, 10, 10, 10, 10, 10, 10, 10, 10, 10, 10, 160, 160, 160, 160, 160, 160, 640, 640, 160, 160, 171, 1539, 1539, 10, 4, 4, 4, 24, 4].getD f 0
/-- which of them hold booleans -/
def rbool : Nat → Bool := fun f => f == 10 || f == 14 || f == 31 || f == 32 || f == 41
def rkd (f : Nat) : Nat := if rbool f = true then 21 else 20
/-- the reference at γ.1, its arrays at γ.2 -/
abbrev Rg : Type := Nat × (Nat → Nat)
def RR (γ : Rg) (P : Pst) (M : Mm) : Prop := kd M γ.1 = some (8, 0, 52) ∧ ∀ f : Nat, f < 52 → (rlen f = 0 → gi M γ.1 (512 + f) = P f 0) ∧ (0 < rlen f → gr M γ.1 (512 + f) = some (γ.2 f) ∧ kd M (γ.2 f) = some (rkd f, 9000 + f, rlen f) ∧ ∀ j : Nat, j < rlen f → gi M (γ.2 f) (4096 + j) = P f j)
/-- what the reference's methods may write -/
def ownR : Nat → Nat → Bool := fun κ τ => κ == 8 || ((κ == 20 || κ == 21) && decide (9000 ≤ τ))
theorem rlen_le (f : Nat) : rlen f < 2 ^ 31 := by
  unfold rlen
  rw [List.getD_eq_getElem?_getD]
  cases h : ([40, 40, 40, 40, 0, 10, 10, 10, 10, 10, 10, 10, 10, 10, 10, 10, 10, 10, 10, 10, 10, 10, 10, 160, 160, 160, 160, 160, 160, 640, 640, 160, 160, 171, 1539, 1539, 10, 4, 4, 4, 24, 4] : List Nat)[f]? with
  | none => decide
  | some v =>
    have h1 := List.mem_of_getElem? h
    have h2 : ∀ w ∈ ([40, 40, 40, 40, 0, 10, 10, 10, 10, 10, 10, 10, 10, 10, 10, 10, 10, 10, 10, 10, 10, 10, 10, 160, 160, 160, 160, 160, 160, 640, 640, 160, 160, 171, 1539, 1539, 10, 4, 4, 4, 24, 4] : List Nat), w < 2 ^ 31 := by decide
    exact h2 v h1
theorem rkd_ty (f : Nat) : kAty (rkd f) = some (if rbool f = true then .boolean else .int) := by
  unfold rkd
  cases h : rbool f <;> simp [kAty]
theorem ownR_arr (f : Nat) : ownR (rkd f) (9000 + f) = true := by
  unfold rkd ownR
  cases h : rbool f <;> simp
section RefRules
variable {mi : MI} {γ : Rg} {P : Pst} {M0 : Mm} {Q : Option Value → Mm → Prop} {dep k n : Nat} {M : Mm} {pc : Nat} {L : List (Option Value)} {st : List Value}
theorem RR.apart {f g : Nat} (h : RR γ P M) (hf : f < 52) (hg : g < 52) (lf : 0 < rlen f) (lg : 0 < rlen g) (hne : f ≠ g) : γ.2 f ≠ γ.2 g := by
  intro e
  have h1 := ((h.2 f hf).2 lf).2.1
  have h2 := ((h.2 g hg).2 lg).2.1
  rw [e, h2] at h1
  simp only [Option.some.injEq, Prod.mk.injEq] at h1
  omega
theorem RR.apart0 {f : Nat} (h : RR γ P M) (hf : f < 52) (lf : 0 < rlen f) : γ.2 f ≠ γ.1 := by
  intro e
  have h1 := ((h.2 f hf).2 lf).2.1
  rw [e, h.1] at h1
  simp only [Option.some.injEq, Prod.mk.injEq] at h1
  omega
/-- getfield of an array of the reference -/
theorem r_arr {own : Nat → Nat → Bool} {idx : Nat} (f : Nat) (hR : RR γ P M) (hf : f < 52) (lf : 0 < rlen f) (hl : fl mi.1.cls idx 8 f) (ht : kInt (kTy 8 f) = false) (hd : decode mi.2.1 pc = .ok (.getfield idx, 3)) (kk : G mi own M0 Q dep k n M (pc + 3) L (va_rf (some (γ.2 f)) :: st)) : G mi own M0 Q dep k n M pc L (va_rf (some γ.1) :: st) := by
  refine g_getr (512 + f) hl ht rfl hd rfl hR.1 ?_
  rw [((hR.2 f hf).2 lf).1]
  exact kk
/-- getfield of a number -/
theorem r_geti {own : Nat → Nat → Bool} {idx : Nat} (f : Nat) (hR : RR γ P M) (hf : f < 52) (lf : rlen f = 0) (hl : fl mi.1.cls idx 8 f) (ht : kInt (kTy 8 f) = true) (hd : decode mi.2.1 pc = .ok (.getfield idx, 3)) (kk : G mi own M0 Q dep k n M (pc + 3) L (.int (P f 0) :: st)) : G mi own M0 Q dep k n M pc L (va_rf (some γ.1) :: st) := by
  refine g_geti (512 + f) hl ht rfl hd rfl hR.1 ?_
  rw [(hR.2 f hf).1 lf]
  exact kk
theorem RR.si0 {f : Nat} (x : Int32) (hR : RR γ P M) (hf : f < 52) (lf : rlen f = 0) : RR γ (up P f 0 x) (si M γ.1 (512 + f) x) := by
  refine ⟨hR.1, fun g hg => ⟨fun lg => ?_, fun lg => ?_⟩⟩
  · by_cases e : g = f
    · subst e; rw [gi_si_s, up_s]
    · rw [gi_si_f (by omega), up_f e]; exact (hR.2 g hg).1 lg
  · obtain ⟨h1, h2, h3⟩ := (hR.2 g hg).2 lg
    have e : g ≠ f := fun e => by rw [e] at lg; omega
    refine ⟨h1, h2, fun j hj => ?_⟩
    rw [gi_si_a (hR.apart0 hg lg), up_f e]
    exact h3 j hj
theorem RR.siA {f j : Nat} (x : Int32) (hR : RR γ P M) (hf : f < 52) (hj : j < rlen f) : RR γ (up P f j x) (si M (γ.2 f) (4096 + j) x) := by
  have lf : 0 < rlen f := by omega
  refine ⟨hR.1, fun g hg => ⟨fun lg => ?_, fun lg => ?_⟩⟩
  · have e : g ≠ f := fun e => by rw [e] at lg; omega
    rw [gi_si_a (Ne.symm (hR.apart0 hf lf)), up_f e]; exact (hR.2 g hg).1 lg
  · obtain ⟨h1, h2, h3⟩ := (hR.2 g hg).2 lg
    refine ⟨h1, h2, fun i hi => ?_⟩
    by_cases e : g = f
    · subst e
      by_cases e2 : i = j
      · subst e2; rw [gi_si_s, up_s]
      · rw [gi_si_f (by omega), up_j e2]; exact h3 i hi
    · rw [gi_si_a (hR.apart hg hf lg lf e), up_f e]; exact h3 i hi
theorem r_puti {idx : Nat} {x : Int32} (f : Nat) (hR : RR γ P M) (hf : f < 52) (lf : rlen f = 0) (hl : fl mi.1.cls idx 8 f) (hw : fw mi 8 f) (ht : kTy 8 f = .int) (hd : decode mi.2.1 pc = .ok (.putfield idx, 3)) (kk : ∀ M, RR γ (up P f 0 x) M → G mi ownR M0 Q dep k n M (pc + 3) L st) : G mi ownR M0 Q dep k n M pc L (.int x :: va_rf (some γ.1) :: st) :=
  g_puti (512 + f) hl hw ht rfl hd rfl hR.1 rfl (kk _ (hR.si0 x hf lf))
theorem r_putz {idx : Nat} {x : Int32} (f : Nat) (hR : RR γ P M) (hf : f < 52) (lf : rlen f = 0) (hl : fl mi.1.cls idx 8 f) (hw : fw mi 8 f) (ht : kTy 8 f = .boolean) (hx : x = 0 ∨ x = 1) (hd : decode mi.2.1 pc = .ok (.putfield idx, 3)) (kk : ∀ M, RR γ (up P f 0 x) M → G mi ownR M0 Q dep k n M (pc + 3) L st) : G mi ownR M0 Q dep k n M pc L (.int x :: va_rf (some γ.1) :: st) :=
  g_putz (512 + f) hl hw ht rfl hx hd rfl hR.1 rfl (kk _ (hR.si0 x hf lf))
theorem r_iald {own : Nat → Nat → Bool} {i : Int32} (f j : Nat) (hR : RR γ P M) (hf : f < 52) (hb : rbool f = false) (hd : decode mi.2.1 pc = .ok (.iaload, 1)) (hi : i = nI j) (hj : j < rlen f) (kk : G mi own M0 Q dep k n M (pc + 1) L (.int (P f j) :: st)) : G mi own M0 Q dep k n M pc L (.int i :: va_rf (some (γ.2 f)) :: st) := by
  obtain ⟨-, h2, h3⟩ := (hR.2 f hf).2 (by omega)
  refine g_iald hd rfl h2 (by rw [rkd_ty, hb]; rfl) hi hj (rlen_le f) ?_
  rw [h3 j hj]
  exact kk
theorem r_zald {own : Nat → Nat → Bool} {i : Int32} (f j : Nat) (hR : RR γ P M) (hf : f < 52) (hb : rbool f = true) (hd : decode mi.2.1 pc = .ok (.baload, 1)) (hi : i = nI j) (hj : j < rlen f) (kk : G mi own M0 Q dep k n M (pc + 1) L (.int (P f j) :: st)) : G mi own M0 Q dep k n M pc L (.int i :: va_rf (some (γ.2 f)) :: st) := by
  obtain ⟨-, h2, h3⟩ := (hR.2 f hf).2 (by omega)
  refine g_zald hd rfl h2 (by rw [rkd_ty, hb]; rfl) hi hj (rlen_le f) ?_
  rw [h3 j hj]
  exact kk
theorem r_iast {i x : Int32} (f j : Nat) (hR : RR γ P M) (hf : f < 52) (hb : rbool f = false) (hd : decode mi.2.1 pc = .ok (.iastore, 1)) (hi : i = nI j) (hj : j < rlen f) (kk : ∀ M, RR γ (up P f j x) M → G mi ownR M0 Q dep k n M (pc + 1) L st) : G mi ownR M0 Q dep k n M pc L (.int x :: .int i :: va_rf (some (γ.2 f)) :: st) := by
  obtain ⟨-, h2, h3⟩ := (hR.2 f hf).2 (by omega)
  exact g_iast hd rfl h2 (by rw [rkd_ty, hb]; rfl) (ownR_arr f) hi hj (rlen_le f) (kk _ (hR.siA x hf hj))
theorem r_zast {i x : Int32} (f j : Nat) (hR : RR γ P M) (hf : f < 52) (hb : rbool f = true) (hx : x = 0 ∨ x = 1) (hd : decode mi.2.1 pc = .ok (.bastore, 1)) (hi : i = nI j) (hj : j < rlen f) (kk : ∀ M, RR γ (up P f j x) M → G mi ownR M0 Q dep k n M (pc + 1) L st) : G mi ownR M0 Q dep k n M pc L (.int x :: .int i :: va_rf (some (γ.2 f)) :: st) := by
  obtain ⟨-, h2, h3⟩ := (hR.2 f hf).2 (by omega)
  exact g_zast hd rfl h2 (by rw [rkd_ty, hb]; rfl) (ownR_arr f) hx hi hj (rlen_le f) (kk _ (hR.siA x hf hj))
/-- a method of the reference: it answers r, and leaves P' -/
def RC (mi : MI) (dep : Nat) (av : List Value) (P : Pst) (r : Option Value) (P' : Pst) : Prop := ∀ (γ : Rg) (M : Mm), RR γ P M → Run mi ownR dep 0 0 (va_rf (some γ.1) :: av) M (fun r' M' => r' = r ∧ RR γ P' M')
theorem r_call {idx np dep' : Nat} {y : MI} {rest : List Value} {P' : Pst} {r : Option Value} (As : List Value) (hR : RR γ P M) (hcw : cw_ok mi.1.cls idx y np) (hV : Cond.instanceMethod y.1 ∈ kTB ∧ Cond.selects y.1.cls y.1 y.1 ∈ kTB ∧ (∃ r : vw_C, kCl[8]? = some r ∧ r.1 = y.1.cls) ∧ kAty 8 = none) (hd : decode mi.2.1 pc = .ok (.invokevirtual idx, 3)) (hA : As.length = np) (hst : st = As.reverse ++ va_rf (some γ.1) :: rest) (hrc : (∀ v ∈ rest, v.category = 1) ∧ rest.length ≤ 8) (hdep : dep' + 1 ≤ dep)
    (hr : RC y dep' As P r P') (kk : ∀ M, RR γ P' M → G mi ownR M0 Q dep k n M (pc + 3) L (r.toList ++ rest)) : G mi ownR M0 Q dep k n M pc L st :=
  g_callV As hcw hV hd rfl hR.1 hA hst hrc hdep (Nat.le_refl k) (Nat.le_refl n) (fun _ _ h => h) (hr γ M hR) (fun r' M' h _ => by obtain ⟨rfl, h2⟩ := h; exact kk M' h2)
end RefRules
