/-! RANGES: what each field of the reference's state may hold; closed under all that its methods do -/
def sm (x : Int32) (N : Nat) : Prop := x = nI (tn x) ∧ tn x ≤ N
def rg (f : Nat) (x : Int32) : Prop := match f with
  | 4 => sm x 40
  | 10 => x = 0 ∨ x = 1
  | 11 => x = -1 ∨ sm x 39
  | 14 => x = 0 ∨ x = 1
  | 19 => sm x 9
  | 20 => sm x 9
  | 21 => x = -1 ∨ sm x 9
  | 22 => sm x 16
  | 24 => sm x 39
  | 28 => sm x 4
  | 29 => sm x 39
  | 31 => x = 0 ∨ x = 1
  | 32 => x = 0 ∨ x = 1
  | 33 => sm x 9
  | 36 => sm x 9
  | 41 => x = 0 ∨ x = 1
  | 42 => sm x 10
  | 43 => sm x 10
  | 48 => x = -1 ∨ sm x 9
  | 51 => x = 0 ∨ x = 1
  | _ => True
def WB (P : Pst) : Prop := ∀ f j : Nat, rg f (P f j)
theorem WB.up {P : Pst} (h : WB P) {f j : Nat} {x : Int32} (hx : rg f x) : WB (up P f j x) := by
  intro g i
  by_cases e : g = f ∧ i = j
  · obtain ⟨rfl, rfl⟩ := e
    rw [up_s]
    exact hx
  · unfold _root_.Jvm.Pilot.CFiberDeskLaw_law_r2789_ad6031.up
    rw [if_neg e]
    exact h g i
theorem sm_nI {n N : Nat} (h : n ≤ N) (hN : N < 2 ^ 31) : sm (nI n) N := ⟨by rw [tn_nI (by omega)], by rw [tn_nI (by omega)]; exact h⟩
theorem sm_of {x : Int32} {n N : Nat} (hx : x = nI n) (h : n ≤ N) (hN : N < 2 ^ 31) : sm x N := by rw [hx]; exact sm_nI h hN
theorem sm_le {x : Int32} {M N : Nat} (h : sm x M) (hMN : M ≤ N) : sm x N := ⟨h.1, Nat.le_trans h.2 hMN⟩
theorem tn_0 : tn 0 = 0 := rfl
theorem sm_inc {x : Int32} {N : Nat} (h : sm x N) (hN : N < 2 ^ 30) : sm (x + 1) (N + 1) := by
  rw [h.1, nI_1]
  exact sm_nI (by have := h.2; omega) (by omega)
theorem sm_inc' {x : Int32} {N : Nat} (h : x = nI (tn x)) (h2 : tn x < N) (hN : N < 2 ^ 30) : sm (x + 1) N := by
  rw [h, nI_1]
  exact sm_nI (by omega) (by omega)
theorem tn_inc {x : Int32} (h : x = nI (tn x)) (h2 : tn x < 2 ^ 30) : tn (x + 1) = tn x + 1 := by
  rw [h, nI_1, tn_nI (by omega), tn_nI (by omega)]
theorem tn_dec {x : Int32} (h : x = nI (tn x)) (h1 : 1 ≤ tn x) (h2 : tn x < 2 ^ 30) : x - 1 = nI (tn x - 1) ∧ tn (x - 1) = tn x - 1 := by
  have e : x - 1 = nI (tn x - 1) := ix_sub h rfl h1
  exact ⟨e, by rw [e, tn_nI (by omega)]⟩
theorem wb_give {P : Pst} (h : WB P) (f : Nat) (v : Int32) : WB (p_R_give P f v) := by
  unfold p_R_give
  refine WB.up (WB.up (WB.up h ?_) ?_) ?_
  all_goals first | exact trivial | exact Or.inl rfl | exact Or.inr rfl
theorem wb_single {P : Pst} (h : WB P) (r : Nat) (t c : Int32) : WB (p_R_single P r t c) := by
  unfold p_R_single
  refine WB.up (WB.up (WB.up h ?_) ?_) ?_
  all_goals first | exact trivial | exact Or.inl rfl | exact Or.inr rfl | exact sm_nI (n := 1) (N := 9) (by decide) (by decide)
theorem wb_fail {P : Pst} (h : WB P) (f : Nat) (t c : Int32) : WB (p_R_fail P f t c) := by
  unfold p_R_fail
  refine wb_single (WB.up (WB.up h ?_) ?_) f t c
  all_goals first | exact trivial | exact Or.inl rfl | exact Or.inr rfl
theorem wb_does {P : Pst} (h : WB P) (f : Nat) {e v : Int32} (he : e = -1 ∨ sm e 39) : WB (p_R_does P f e v) := by
  unfold p_R_does
  refine WB.up (WB.up h ?_) ?_
  all_goals first | exact trivial | exact he
theorem wb_rest {P : Pst} (h : WB P) (f : Nat) (w v t : Int32) : WB (p_R_rest P f w v t) := by
  unfold p_R_rest
  refine WB.up (WB.up (WB.up (WB.up (WB.up (WB.up h ?_) ?_) ?_) ?_) ?_) ?_
  all_goals first | exact trivial | exact Or.inl rfl | exact Or.inr rfl
theorem wb_wake {P : Pst} (h : WB P) {f : Nat} (hf : f < 10) (hq : tn (P 43 0) < 10) : WB (p_R_wake P f) := by
  unfold p_R_wake
  refine WB.up (WB.up (WB.up (WB.up h ?_) ?_) ?_) ?_
  all_goals first | exact trivial | exact sm_inc' (h 43 0).1 hq (by decide) | exact sm_nI (N := 9) (by omega) (by decide)
theorem wb_strike {P : Pst} (h : WB P) {f : Nat} (hf : f < 10) (hq : P 5 f = 1 → tn (P 43 0) < 10) (w : Int32) : WB (p_R_strike P f w) := by
  have h2 : WB (up (up P 6 f 1) 7 f w) := by
    refine WB.up (WB.up h ?_) ?_
    all_goals exact trivial
  unfold p_R_strike
  repeat' split
  all_goals first | exact h | exact wb_wake h2 hf (hq (by assumption)) | exact h2
theorem wb_itcopy {P : Pst} (h : WB P) (a b : Nat) : ∀ j, WB (it_copy P a b j)
  | 0 => h
  | j + 1 => WB.up (f := 35) (WB.up (f := 34) (wb_itcopy h a b j) trivial) trivial
theorem wb_copy {P : Pst} (h : WB P) (a b : Nat) : WB (p_R_copy P a b) := wb_itcopy (WB.up (f := 33) h (h 33 a)) a b 9
theorem wb_dnjoin (r : Nat) : ∀ (k : Nat) (P : Pst), WB P → WB (dn_join r k P)
  | 0, _, h => h
  | k + 1, _, h => wb_dnjoin r k _ (WB.up (f := 35) (WB.up (f := 34) h trivial) trivial)
theorem wb_itjoin {P : Pst} (h : WB P) (r n o : Nat) : ∀ j, WB (it_join P r n o j)
  | 0 => h
  | j + 1 => WB.up (f := 35) (WB.up (f := 34) (wb_itjoin h r n o j) trivial) trivial
theorem wb_join {P : Pst} (h : WB P) (r o : Nat) (t : Int32) : WB (p_R_join P r o t) := by
  unfold p_R_join
  split
  · rename_i c
    refine WB.up (f := 33) (wb_itjoin (WB.up (f := 35) (WB.up (f := 34) (wb_dnjoin r _ P h) trivial) trivial) r _ o _) ?_
    have h1 : sm (P 33 r) 9 := h 33 r
    have h2 : sm (P 33 o) 9 := h 33 o
    have e : P 33 r + P 33 o + 1 = nI (tn (P 33 r) + tn (P 33 o) + 1) := ix_add (ix_add h1.1 h2.1) rfl
    have l1 := h1.2
    have l2 := h2.2
    have hle : tn (P 33 r) + tn (P 33 o) + 1 ≤ 9 := ix_le_of (b := 9) e rfl (by omega) (by omega) c
    exact sm_of (N := 9) e hle (by decide)
  · exact h
theorem wb_frame {P : Pst} (h : WB P) (f e : Nat) (v : Int32) (he : e < 40) (hd : tn (P 22 f) < 16) : WB (p_R_frame P f e v) := by
  unfold p_R_frame
  refine WB.up (WB.up (WB.up (WB.up (WB.up (WB.up (WB.up h ?_) ?_) ?_) ?_) ?_) ?_) ?_
  all_goals first | exact trivial | exact sm_inc' (h 22 f).1 hd (by decide) | exact sm_nI (n := e) (N := 39) (by omega) (by decide) | exact h 10 f | exact sm_nI (n := 0) (N := 4) (by decide) (by decide)
theorem wb_make {P : Pst} (h : WB P) {e v b : Int32} (he : e = -1 ∨ sm e 39) (hb : tn (P 42 0) < 10) (hq : tn (P 43 0) < 10) : WB (p_R_make P e v b) := by
  unfold p_R_make
  refine WB.up (WB.up (WB.up (WB.up (WB.up (WB.up (WB.up (WB.up (WB.up (WB.up (WB.up (WB.up h ?_) ?_) ?_) ?_) ?_) ?_) ?_) ?_) ?_) ?_) ?_) ?_
  all_goals first | exact trivial | exact sm_inc' (h 42 0).1 hb (by decide) | exact sm_inc' (h 43 0).1 hq (by decide) | exact he | exact Or.inl rfl | exact sm_nI (n := 0) (N := 16) (by decide) (by decide) | exact ⟨(h 42 0).1, Nat.le_of_lt_succ hb⟩
/-- what effects refer to -/
def EA (P : Pst) : Prop := ∀ e : Nat, e < 40 → (0 < a_R_needs (P 0 e) → sm (P 1 e) 39) ∧ (1 < a_R_needs (P 0 e) → sm (P 2 e) 39) ∧ (2 < a_R_needs (P 0 e) → sm (P 3 e) 39) ∧ (¬ a_R_in (P 0 e) 19 24 = 0 → sm (P 1 e) 3)
