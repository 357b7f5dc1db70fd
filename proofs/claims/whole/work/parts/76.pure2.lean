/-! lists without repetition; the lines of those that wait -/
theorem sub_len : ∀ (l l' : List Nat), l.Nodup → (∀ x, x ∈ l → x ∈ l') → l.length ≤ l'.length
  | [], _, _, _ => Nat.zero_le _
  | x :: l, l', hn, hs => by
    have hx := hs x List.mem_cons_self
    have h1 := List.length_erase_of_mem hx
    have h0 : 0 < l'.length := List.length_pos_of_mem hx
    have h2 := sub_len l (l'.erase x) (List.nodup_cons.mp hn).2 (fun y hy => (List.mem_erase_of_ne (by intro e; rw [e] at hy; exact (List.nodup_cons.mp hn).1 hy)).mpr (hs y (List.mem_cons_of_mem _ hy)))
    rw [List.length_cons]
    omega
theorem nd_lt {l : List Nat} {n : Nat} (hn : l.Nodup) (h : ∀ x, x ∈ l → x < n) : l.length ≤ n := by
  have := sub_len l (List.range n) hn (fun x hx => List.mem_range.mpr (h x hx))
  rwa [List.length_range] at this
theorem nd_lt1 {l : List Nat} {n i : Nat} (hn : l.Nodup) (h : ∀ x, x ∈ l → x < n) (hi : i < n) (hni : ¬ i ∈ l) : l.length + 1 ≤ n := by
  have := nd_lt (l := i :: l) (n := n) (List.nodup_cons.mpr ⟨hni, hn⟩) (fun x hx => by
    rcases List.mem_cons.mp hx with e | q
    · rw [e]; exact hi
    · exact h x q)
  rwa [List.length_cons] at this
def Wt (P : Pst) (w m : Int32) (x : Nat) : Prop := P 5 x = 1 ∧ P 15 x = w ∧ P 16 x = m
def LI (P : Pst) (w m : Int32) (l : List Nat) : Prop := (∀ x, x ∈ l ↔ x < nfb P ∧ Wt P w m x) ∧ l.Pairwise (fun x y => P 18 x < P 18 y)
section Lines
variable {P P' : Pst} {w m : Int32} {l : List Nat}
theorem LI.nd (h : LI P w m l) : l.Nodup := h.2.imp (fun {a b} q e => by rw [e] at q; exact Int32.lt_irrefl q)
theorem LI.ff0 (h : LI P w m []) (h10 : nfb P ≤ 10) : a_R_firstFor P w m < 0 := by
  rcases bs_sp P w m (nfb P) h10 with ⟨q, -⟩ | ⟨y, y1, -, y3, -⟩
  · exact q
  · exact absurd ((h.1 y).mpr ⟨y1, y3⟩) List.not_mem_nil
theorem LI.ff1 {x : Nat} (h : LI P w m (x :: l)) (h10 : nfb P ≤ 10) : a_R_firstFor P w m = nI x := by
  have hx := (h.1 x).mp List.mem_cons_self
  rcases bs_sp P w m (nfb P) h10 with ⟨-, q⟩ | ⟨y, y1, y2, y3, y4⟩
  · exact absurd hx.2 (q x hx.1)
  · rcases List.mem_cons.mp ((h.1 y).mpr ⟨y1, y3⟩) with e | e
    · rw [← e]; exact y2
    · exact absurd ((List.pairwise_cons.mp h.2).1 y e) (Int32.not_lt.mpr (y4 x hx.1 hx.2))
theorem LI.cnt (h : LI P w m l) : a_R_waiting P w m = nI l.length := by
  have e := wc_nI P w m (nfb P)
  have h1 := sub_len l ((List.range (nfb P)).filter (fun x => decide (P 5 x = 1 ∧ P 15 x = w ∧ P 16 x = m))) h.nd (fun x hx => List.mem_filter.mpr ⟨List.mem_range.mpr ((h.1 x).mp hx).1, decide_eq_true ((h.1 x).mp hx).2⟩)
  have h2 := sub_len ((List.range (nfb P)).filter (fun x => decide (P 5 x = 1 ∧ P 15 x = w ∧ P 16 x = m))) l (List.nodup_range.filter _) (fun x hx => (h.1 x).mpr ⟨List.mem_range.mp (List.mem_filter.mp hx).1, show P 5 x = 1 ∧ P 15 x = w ∧ P 16 x = m from of_decide_eq_true (List.mem_filter.mp hx).2⟩)
  exact e.trans (by rw [Nat.le_antisymm h2 h1])
theorem LI.ag (h : LI P w m l) (hn : nfb P' = nfb P) (h5 : ∀ x, x < nfb P → (Wt P' w m x ↔ Wt P w m x)) (h18 : ∀ x, x ∈ l → P' 18 x = P 18 x) : LI P' w m l := by
  refine ⟨fun x => ?_, h.2.imp_of_mem (fun {a b} ha hb q => by rw [h18 a ha, h18 b hb]; exact q)⟩
  rw [hn, h.1 x]
  exact ⟨fun q => ⟨q.1, (h5 x q.1).mpr q.2⟩, fun q => ⟨q.1, (h5 x q.1).mp q.2⟩⟩
theorem mem_rmF {x y : Nat} (hx : x < 10) (hy : y < 10) : y ∈ rmF (nI x) l ↔ y ∈ l ∧ ¬ y = x := by
  unfold rmF
  rw [List.mem_filter]
  refine and_congr_right (fun _ => ?_)
  rw [Bool.not_eq_true', decide_eq_false_iff_not, nI_eq (by omega) (by omega)]
theorem LI.rm (h : LI P w m l) (h10 : nfb P ≤ 10) {x : Nat} (hx : x < 10) (hn : nfb P' = nfb P) (h5 : ∀ y, y < nfb P → (Wt P' w m y ↔ Wt P w m y ∧ ¬ y = x)) (h18 : ∀ y, P' 18 y = P 18 y) : LI P' w m (rmF (nI x) l) := by
  refine ⟨fun y => ?_, (h.2.filter _).imp (fun {a b} q => by rw [h18, h18]; exact q)⟩
  rw [hn]
  constructor
  · intro q
    have q1 : y ∈ l := (List.mem_filter.mp q).1
    have q2 := (h.1 y).mp q1
    have q3 := (mem_rmF hx (by omega : y < 10)).mp q
    exact ⟨q2.1, (h5 y q2.1).mpr ⟨q2.2, q3.2⟩⟩
  · intro q
    have q2 := (h5 y q.1).mp q.2
    exact (mem_rmF hx (by omega)).mpr ⟨(h.1 y).mpr ⟨q.1, q2.1⟩, q2.2⟩
theorem LI.tl {x : Nat} (h : LI P w m (x :: l)) (hn : nfb P' = nfb P) (h5 : ∀ y, y < nfb P → (Wt P' w m y ↔ Wt P w m y ∧ ¬ y = x)) (h18 : ∀ y, P' 18 y = P 18 y) : LI P' w m l := by
  have hp := List.pairwise_cons.mp h.2
  refine ⟨fun y => ?_, hp.2.imp (fun {a b} q => by rw [h18, h18]; exact q)⟩
  rw [hn]
  constructor
  · intro q
    have q2 := (h.1 y).mp (List.mem_cons_of_mem _ q)
    exact ⟨q2.1, (h5 y q2.1).mpr ⟨q2.2, fun e => by rw [e] at q; exact (List.nodup_cons.mp h.nd).1 q⟩⟩
  · intro q
    have q2 := (h5 y q.1).mp q.2
    rcases List.mem_cons.mp ((h.1 y).mpr ⟨q.1, q2.1⟩) with e | e
    · exact absurd e q2.2
    · exact e
theorem LI.add (h : LI P w m l) {i : Nat} (hi : i < nfb P) (hn : nfb P' = nfb P) (h5 : ∀ y, y < nfb P → (Wt P' w m y ↔ Wt P w m y ∨ y = i)) (h18 : ∀ y, y ∈ l → P' 18 y = P 18 y) (hc : ∀ y, y ∈ l → P 18 y < P' 18 i) : LI P' w m (l ++ [i]) := by
  refine ⟨fun y => ?_, List.pairwise_append.mpr ⟨h.2.imp_of_mem (fun {a b} ha hb q => by rw [h18 a ha, h18 b hb]; exact q), List.pairwise_singleton _ _, fun a ha b hb => ?_⟩⟩
  · rw [hn, List.mem_append, List.mem_singleton, h.1 y]
    constructor
    · rintro (q | q)
      · exact ⟨q.1, (h5 y q.1).mpr (Or.inl q.2)⟩
      · rw [q]; exact ⟨hi, (h5 i hi).mpr (Or.inr rfl)⟩
    · intro q
      rcases (h5 y q.1).mp q.2 with e | e
      · exact Or.inl ⟨q.1, e⟩
      · exact Or.inr e
  · rw [List.mem_singleton.mp hb, h18 a ha]
    exact hc a ha
end Lines
/-! what waking and giving leave as it was -/
theorem wk_5 (P : Pst) (x y : Nat) : p_R_wake P x 5 y = if y = x then 0 else P 5 y := by
  unfold p_R_wake
  simp [up_e]
theorem wk_15 (P : Pst) (x y : Nat) : p_R_wake P x 15 y = if y = x then 0 else P 15 y := by
  unfold p_R_wake
  simp [up_e]
theorem wk_43 (P : Pst) (x : Nat) : p_R_wake P x 43 0 = P 43 0 + 1 := by
  unfold p_R_wake
  simp [up_e]
theorem wk_36 (P : Pst) (x y : Nat) : p_R_wake P x 36 y = if y = tn (P 43 0) then nI x else P 36 y := by
  unfold p_R_wake
  simp [up_e]
theorem kp_5 (P : Pst) (x : Nat) (v : Int32) (y : Nat) : p_R_wake (p_R_give P x v) x 5 y = if y = x then 0 else P 5 y := by
  rw [wk_5, give_fr _ _ _ (by decide)]
theorem kp_15 (P : Pst) (x : Nat) (v : Int32) (y : Nat) : p_R_wake (p_R_give P x v) x 15 y = if y = x then 0 else P 15 y := by
  rw [wk_15, give_fr _ _ _ (by decide)]
theorem kp_43 (P : Pst) (x : Nat) (v : Int32) : p_R_wake (p_R_give P x v) x 43 0 = P 43 0 + 1 := by
  rw [wk_43, give_fr _ _ _ (by decide)]
theorem kp_o (P : Pst) (x : Nat) (v : Int32) {h i : Nat} (q : h ≠ 5 ∧ h ≠ 15 ∧ h ≠ 43 ∧ h ≠ 36 ∧ h ≠ 11 ∧ h ≠ 14 ∧ h ≠ 13) : p_R_wake (p_R_give P x v) x h i = P h i := by
  rw [wake_fr _ _ ⟨q.1, q.2.1, q.2.2.1, q.2.2.2.1⟩, give_fr _ _ _ ⟨q.2.2.2.2.1, q.2.2.2.2.2.1, q.2.2.2.2.2.2⟩]
theorem kp_wt (P : Pst) (x : Nat) (v w m : Int32) (y : Nat) : Wt (p_R_wake (p_R_give P x v) x) w m y ↔ Wt P w m y ∧ ¬ y = x := by
  unfold Wt
  rw [kp_5, kp_15, kp_o _ _ _ (by decide)]
  by_cases q : y = x
  · rw [if_pos q]
    exact ⟨fun e => absurd e.1 (by decide), fun e => absurd q e.2⟩
  · rw [if_neg q, if_neg q]
    exact ⟨fun e => ⟨e, q⟩, fun e => e.1⟩
theorem LI.kp {P : Pst} {w m : Int32} {x : Nat} {l : List Nat} (h : LI P w m (x :: l)) (v : Int32) : LI (p_R_wake (p_R_give P x v) x) w m l :=
  h.tl (by unfold nfb; rw [kp_o _ _ _ (by decide)]) (fun y _ => kp_wt P x v w m y) (fun y => kp_o _ _ _ (by decide))
/-! keeping a promise: the class's way is the reference's -/
theorem kpf_eq (m : Nat) (v : Int32) : ∀ (n : Nat) (l : List Nat) (P : Pst), nfb P ≤ 10 → LI P 5 (nI m) l → l.length ≤ n → kpf m v n P = foldK v l P
  | 0, [], P, _, _, _ => rfl
  | n + 1, [], P, h10, h, _ => by
    show (if a_R_firstFor P 5 (nI m) < 0 then P else kpf m v n (kp1 m v P)) = P
    rw [if_pos (h.ff0 h10)]
  | 0, x :: l, P, _, _, hl => absurd hl (by rw [List.length_cons]; omega)
  | n + 1, x :: l, P, h10, h, hl => by
    show (if a_R_firstFor P 5 (nI m) < 0 then P else kpf m v n (kp1 m v P)) = foldK v l (p_R_wake (p_R_give P x v) x)
    have hx := ((h.1 x).mp List.mem_cons_self).1
    have e : kp1 m v P = p_R_wake (p_R_give P x v) x := by
      unfold kp1
      rw [h.ff1 h10, tn_nI (by omega)]
    rw [if_neg (by rw [h.ff1 h10]; exact nI_pos (by omega)), e]
    exact kpf_eq m v n l _ (by unfold nfb; rw [kp_o _ _ _ (by decide)]; exact h10) (h.kp v) (by rw [List.length_cons] at hl; omega)
theorem okk_of (m : Nat) (v : Int32) : ∀ (n : Nat) (l : List Nat) (P : Pst), nfb P ≤ 10 → LI P 5 (nI m) l → l.length ≤ n → P 43 0 = nI (tn (P 43 0)) → tn (P 43 0) + l.length ≤ 10 → okk m v n P
  | 0, [], P, h10, h, _, _, _ => h.ff0 h10
  | n + 1, [], P, h10, h, _, _, _ => Or.inl (h.ff0 h10)
  | 0, x :: l, P, _, _, hl, _, _ => absurd hl (by rw [List.length_cons]; omega)
  | n + 1, x :: l, P, h10, h, hl, h43, hq => by
    rw [List.length_cons] at hl hq
    have hx := ((h.1 x).mp List.mem_cons_self).1
    have e : kp1 m v P = p_R_wake (p_R_give P x v) x := by
      unfold kp1
      rw [h.ff1 h10, tn_nI (by omega)]
    have e43 : tn (p_R_wake (p_R_give P x v) x 43 0) = tn (P 43 0) + 1 := by rw [kp_43, tn_inc h43 (by omega)]
    refine Or.inr ⟨by omega, ?_⟩
    rw [e]
    refine okk_of m v n l _ (by unfold nfb; rw [kp_o _ _ _ (by decide)]; exact h10) (h.kp v) (by omega) ?_ (by rw [e43]; omega)
    rw [e43, kp_43, h43, nI_1, tn_nI (by omega)]
theorem LI.up {P : Pst} {w m : Int32} {l : List Nat} (h : LI P w m l) {f j : Nat} {x : Int32} (hf : f ≠ 42 ∧ f ≠ 5 ∧ f ≠ 15 ∧ f ≠ 16 ∧ f ≠ 18) : LI (up P f j x) w m l := by
  have e : ∀ g y, g ≠ f → _root_.Jvm.Pilot.CFiberDeskLaw_law_r2789_ad6031.up P f j x g y = P g y := fun g y hg => by rw [up_e, if_neg (fun q => hg q.1)]
  refine h.ag ?_ (fun y _ => ?_) (fun y _ => e 18 y (Ne.symm hf.2.2.2.2))
  · unfold nfb
    rw [e 42 0 (Ne.symm hf.1)]
  · unfold Wt
    rw [e 5 y (Ne.symm hf.2.1), e 15 y (Ne.symm hf.2.2.1), e 16 y (Ne.symm hf.2.2.2.1)]
theorem LI.give {P : Pst} {w m : Int32} {l : List Nat} (h : LI P w m l) (i : Nat) (v : Int32) : LI (p_R_give P i v) w m l :=
  ((h.up (f := 11) (by decide)).up (f := 14) (by decide)).up (f := 13) (by decide)
theorem kpP_eq {P : Pst} {LL : Lls} {n : Nat} (h10 : nfb P ≤ 10) (h : LI P 5 (nI n) (LL (1 + n))) (v : Int32) : kpP P LL n v = p_R_keeps P n v := by
  unfold kpP p_R_keeps
  by_cases q : P 41 n = 0
  · rw [if_pos q, if_pos q]
    have hl : (LL (1 + n)).length ≤ 10 := Nat.le_trans (nd_lt h.nd (fun x hx => ((h.1 x).mp hx).1)) h10
    exact (kpf_eq n v 10 (LL (1 + n)) (up (up P 41 n 1) 38 n v) h10 ((h.up (f := 41) (by decide)).up (f := 38) (by decide)) hl).symm
  · rw [if_neg q, if_neg q]
theorem okk_keeps {P : Pst} {LL : Lls} {n : Nat} (hw : WB P) (h : LI P 5 (nI n) (LL (1 + n))) (hq : tn (P 43 0) + (LL (1 + n)).length ≤ 10) (v : Int32) : okk n v 10 (up (up P 41 n 1) 38 n v) := by
  have h10 : nfb P ≤ 10 := n10 hw
  exact okk_of n v 10 (LL (1 + n)) (up (up P 41 n 1) 38 n v) h10 ((h.up (f := 41) (by decide)).up (f := 38) (by decide)) (Nat.le_trans (nd_lt h.nd (fun x hx => ((h.1 x).mp hx).1)) h10) (hw 43 0).1 hq
