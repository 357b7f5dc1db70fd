/-! THE KERNEL: a memory as functions; G: a walk of one method over such a memory, all else of the machine hidden; Run: a method's contract in these words -/
abbrev Mm : Type := (Nat → Option (Nat × Nat × Nat)) × (Nat → Nat → Int32) × (Nat → Nat → Option Nat)
def kd (M : Mm) (a : Nat) : Option (Nat × Nat × Nat) := M.1 a
def gi (M : Mm) (a f : Nat) : Int32 := M.2.1 a f
def gr (M : Mm) (a f : Nat) : Option Nat := M.2.2 a f
def si (M : Mm) (a f : Nat) (x : Int32) : Mm := (M.1, fun b g => if g = f ∧ b = a then x else M.2.1 b g, M.2.2)
def sr (M : Mm) (a f : Nat) (x : Option Nat) : Mm := (M.1, M.2.1, fun b g => if g = f ∧ b = a then x else M.2.2 b g)
def nw (M : Mm) (a κ τ N : Nat) : Mm := (fun b => if b = a then some (κ, τ, N) else M.1 b, fun b f => if b = a then 0 else M.2.1 b f, fun b f => if b = a then none else M.2.2 b f)
theorem kd_si (M : Mm) (a f : Nat) (x : Int32) (b : Nat) : kd (si M a f x) b = kd M b := rfl
theorem kd_sr (M : Mm) (a f : Nat) (x : Option Nat) (b : Nat) : kd (sr M a f x) b = kd M b := rfl
theorem gr_si (M : Mm) (a f : Nat) (x : Int32) (b g : Nat) : gr (si M a f x) b g = gr M b g := rfl
theorem gi_sr (M : Mm) (a f : Nat) (x : Option Nat) (b g : Nat) : gi (sr M a f x) b g = gi M b g := rfl
theorem gi_si (M : Mm) (a f : Nat) (x : Int32) (b g : Nat) : gi (si M a f x) b g = if g = f ∧ b = a then x else gi M b g := rfl
theorem gr_sr (M : Mm) (a f : Nat) (x : Option Nat) (b g : Nat) : gr (sr M a f x) b g = if g = f ∧ b = a then x else gr M b g := rfl
theorem kd_nw (M : Mm) (a κ τ N b : Nat) : kd (nw M a κ τ N) b = if b = a then some (κ, τ, N) else kd M b := rfl
theorem gi_nw (M : Mm) (a κ τ N b f : Nat) : gi (nw M a κ τ N) b f = if b = a then 0 else gi M b f := rfl
theorem gr_nw (M : Mm) (a κ τ N b f : Nat) : gr (nw M a κ τ N) b f = if b = a then none else gr M b f := rfl
theorem gi_si_s (M : Mm) (a f : Nat) (x : Int32) : gi (si M a f x) a f = x := by rw [gi_si, if_pos ⟨rfl, rfl⟩]
theorem gi_si_f {f g : Nat} (h : g ≠ f) (M : Mm) (a b : Nat) (x : Int32) : gi (si M a f x) b g = gi M b g := by rw [gi_si, if_neg (fun q => h (And.left q))]
theorem gi_si_a {a b : Nat} (h : b ≠ a) (M : Mm) (f g : Nat) (x : Int32) : gi (si M a f x) b g = gi M b g := by rw [gi_si, if_neg (fun q => h (And.right q))]
theorem gr_sr_s (M : Mm) (a f : Nat) (x : Option Nat) : gr (sr M a f x) a f = x := by rw [gr_sr, if_pos ⟨rfl, rfl⟩]
theorem gr_sr_f {f g : Nat} (h : g ≠ f) (M : Mm) (a b : Nat) (x : Option Nat) : gr (sr M a f x) b g = gr M b g := by rw [gr_sr, if_neg (fun q => h (And.left q))]
theorem gr_sr_a {a b : Nat} (h : b ≠ a) (M : Mm) (f g : Nat) (x : Option Nat) : gr (sr M a f x) b g = gr M b g := by rw [gr_sr, if_neg (fun q => h (And.right q))]
def kInt (t : FieldType) : Bool := match t with
  | .int => true
  | .boolean => true
  | _ => false
/-- the value in field k of an object of class ci -/
def sv (M : Mm) (a ci k : Nat) : Value := if kInt (kTy ci k) = true then .int (gi M a (64 * ci + k)) else va_rf (gr M a (64 * ci + k))
/-- the value in place i of an array of t -/
def ev (M : Mm) (a : Nat) (t : FieldType) (i : Nat) : Value := if kInt t = true then .int (gi M a (4096 + i)) else va_rf (gr M a (4096 + i))
def mm_at (D : va_G) (dA : Nat → ClassId) (M : Mm) (a κ N : Nat) (H : Heap) : Prop := match kAty κ with
  | none => ∃ r : vw_C, kCl[κ]? = some r ∧ r.2.2 = N ∧ t_OB a (D.1 κ) N (D.2 κ) H (sv M a κ)
  | some t => H[a]? = some (arrV (dA κ) N (ev M a t))
def Rp (D : va_G) (dA : Nat → ClassId) (M : Mm) (H : Heap) : Prop := ∀ a κ τ N : Nat, kd M a = some (κ, τ, N) → mm_at D dA M a κ N H
/-- the links to private members of nest mates -/
def kNest : List (String × Nat × MethodName) := [("FiberDesk", 30, m_L_init.1), ("FiberDesk", 64, m_P_init.1), ("FiberDesk$Place", 25, m_L_init.1), ("FiberDesk$Fiber", 153, m_D_joined.1)]
/-- the classes over which arrays are made -/
def kArr : List String := ["FiberDesk$Effect", "FiberDesk$Fiber", "FiberDesk$Place"]
def Kw (D : va_G) (dA : Nat → ClassId) (U : State) : Prop := (∀ (c : Nat) (q : vw_C), kCl[c]? = some q → u_Kn U q.1 q.2.1 q.2.2 (D.1 c) (D.2 c)) ∧ (∀ (κ : Nat) (t : FieldType), kAty κ = some t → ArrOfT U (dA κ) t ∧ va_RA U (dA κ) t) ∧ (∀ q ∈ kNest, va_Nw (.methodLinkNest q.1 q.2.1 q.2.2 "FiberDesk") U) ∧ ∀ C ∈ kArr, va_AO C U
theorem Kw.moved {D : va_G} {dA : Nat → ClassId} {u U : State} (hW : u.WarmedH U.vm) (h : Kw D dA u) : Kw D dA U := ⟨fun c q hq => u_Kn_moved hW.alike (h.1 c q hq), fun κ t hk => ⟨arrOfT_moved hW.alike (h.2.1 κ t hk).1, (h.2.1 κ t hk).2.moved hW.alike⟩, fun q hq => va_Nw.warmM hW (h.2.2.1 q hq), fun C hC => va_AO.moved hW.alike (h.2.2.2 C hC)⟩
theorem Kw.same {D : va_G} {dA : Nat → ClassId} {u U : State} (hv : u.vm = U.vm) (h : Kw D dA u) : Kw D dA U := by
  have ha : u.vm.Alike U.vm := by rw [hv]; exact Vm.Alike.refl U.vm
  exact ⟨fun c q hq => u_Kn_moved ha (h.1 c q hq), fun κ t hk => ⟨arrOfT_moved ha (h.2.1 κ t hk).1, (h.2.1 κ t hk).2.moved ha⟩, fun q hq => va_Nw.same rfl hv (h.2.2.1 q hq), fun C hC => va_AO.moved ha (h.2.2.2 C hC)⟩
/-- what the class's static table holds -/
def kParts : List Int32 := [0, 0, 0, 0, 2, 3, 2, 3, 1, 1, 1, 1, 1, 0, 0, 2, 0, 0, 0, 0, 0, 0, 0, 0, 0, 2]
/-- where the old arrays lie: the static table; the script, its length, its numbers -/
abbrev Pa : Type := Nat × Nat × Nat × (Nat → Int32)
/-- the law's own ghost memory names the script -/
def Pt1 (mi : MI) (M : Mm) (pa : Pa) : Prop := mi.1.cls = "FiberDeskLaw" → gr M 0 0 = some pa.2.1 ∧ gr M 0 1 = some pa.2.2.1 ∧ ∀ j, gi M 0 (4096 + j) = pa.2.2.2 j
def Zs (pa : Pa) (A : Nat → Prop) (U : State) (H : Heap) : Prop := va_Z "FiberDesk" "PARTS" "[I" (.ref pa.1) A U H ∧ (va_X pa.1 26 (fun j => kParts.getD j 0) U H ∧ ¬ A pa.1) ∧ va_X pa.2.1 pa.2.2.1 pa.2.2.2 U H ∧ ¬ A pa.2.1
theorem Zs.moved {pa : Pa} {A : Nat → Prop} {u U : State} {H : Heap} (hvm : u.vm.Alike U.vm) (h : Zs pa A u H) : Zs pa A U H := ⟨va_Z.moved hvm h.1, ⟨va_X.moved hvm h.2.1.1, h.2.1.2⟩, va_X.moved hvm h.2.2.1, h.2.2.2⟩
/-- cells stay; those of a kind that isn't owned hold what they held -/
def Fr (own : Nat → Nat → Bool) (M0 M : Mm) : Prop := ∀ a κ τ N : Nat, kd M0 a = some (κ, τ, N) → kd M a = some (κ, τ, N) ∧ (own κ τ = false → ∀ f : Nat, gi M a f = gi M0 a f ∧ gr M a f = gr M0 a f)
theorem Fr.refl (own : Nat → Nat → Bool) (M : Mm) : Fr own M M := fun _ _ _ _ h => ⟨h, fun _ _ => ⟨rfl, rfl⟩⟩
theorem Fr.trans {own : Nat → Nat → Bool} {M0 M1 M2 : Mm} (h : Fr own M0 M1) (h' : Fr own M1 M2) : Fr own M0 M2 := fun a κ τ N q => by
  obtain ⟨h1, h2⟩ := h a κ τ N q
  obtain ⟨h3, h4⟩ := h' a κ τ N h1
  exact ⟨h3, fun o f => ⟨(h4 o f).1.trans (h2 o f).1, (h4 o f).2.trans (h2 o f).2⟩⟩
theorem Fr.mono {own own' : Nat → Nat → Bool} {M0 M1 : Mm} (hle : ∀ κ τ, own' κ τ = true → own κ τ = true) (h : Fr own' M0 M1) : Fr own M0 M1 := fun a κ τ N q => by
  obtain ⟨h1, h2⟩ := h a κ τ N q
  refine ⟨h1, fun o f => h2 ?_ f⟩
  cases e : own' κ τ with
  | false => rfl
  | true => rw [hle κ τ e] at o; cases o
theorem Fr.si {own : Nat → Nat → Bool} {M0 M : Mm} (h : Fr own M0 M) {a κ τ N : Nat} (hk : kd M a = some (κ, τ, N)) (ho : own κ τ = true) (f : Nat) (x : Int32) : Fr own M0 (si M a f x) := fun b κ' τ' N' q => by
  obtain ⟨h1, h2⟩ := h b κ' τ' N' q
  refine ⟨h1, fun o g => ⟨?_, (h2 o g).2⟩⟩
  by_cases hb : b = a
  · subst hb
    rw [h1] at hk
    cases hk
    rw [ho] at o
    cases o
  · rw [gi_si_a hb]
    exact (h2 o g).1
theorem Fr.sr {own : Nat → Nat → Bool} {M0 M : Mm} (h : Fr own M0 M) {a κ τ N : Nat} (hk : kd M a = some (κ, τ, N)) (ho : own κ τ = true) (f : Nat) (x : Option Nat) : Fr own M0 (sr M a f x) := fun b κ' τ' N' q => by
  obtain ⟨h1, h2⟩ := h b κ' τ' N' q
  refine ⟨h1, fun o g => ⟨(h2 o g).1, ?_⟩⟩
  by_cases hb : b = a
  · subst hb
    rw [h1] at hk
    cases hk
    rw [ho] at o
    cases o
  · rw [gr_sr_a hb]
    exact (h2 o g).2
theorem Fr.nw {own : Nat → Nat → Bool} {M0 M : Mm} (h : Fr own M0 M) {a : Nat} (hk : kd M a = none) (κ τ N : Nat) : Fr own M0 (nw M a κ τ N) := fun b κ' τ' N' q => by
  obtain ⟨h1, h2⟩ := h b κ' τ' N' q
  have hb : b ≠ a := fun e => by rw [e, hk] at h1; cases h1
  refine ⟨by rw [kd_nw, if_neg hb]; exact h1, fun o g => ⟨?_, ?_⟩⟩
  · rw [gi_nw, if_neg hb]; exact (h2 o g).1
  · rw [gr_nw, if_neg hb]; exact (h2 o g).2
theorem cat_rf (o : Option Nat) : (va_rf o).category = 1 := by cases o <;> rfl
theorem cat_int (x : Int32) : (Value.int x).category = 1 := rfl
/-! the cells over a heap that moves -/
theorem mm_at.kept {D : va_G} {dA : Nat → ClassId} {M : Mm} {a κ N : Nat} {H H1 : Heap} (h : mm_at D dA M a κ N H) (hq : H1[a]? = H[a]?) : mm_at D dA M a κ N H1 := by
  unfold mm_at at h ⊢
  split at h
  · obtain ⟨r, h1, h2, h3⟩ := h
    exact ⟨r, h1, h2, h3.kept hq⟩
  · rw [hq]; exact h
theorem mm_at.lt {D : va_G} {dA : Nat → ClassId} {M : Mm} {a κ N : Nat} {H : Heap} (h : mm_at D dA M a κ N H) : a < H.size := by
  unfold mm_at at h
  split at h
  · obtain ⟨r, h1, h2, cell, h3, -⟩ := h
    exact (Array.getElem?_eq_some_iff.mp h3).1
  · exact (Array.getElem?_eq_some_iff.mp h).1
theorem mm_at.same {D : va_G} {dA : Nat → ClassId} {M M1 : Mm} {a κ N : Nat} {H : Heap} (h : mm_at D dA M a κ N H) (hi : ∀ f, gi M1 a f = gi M a f) (hr : ∀ f, gr M1 a f = gr M a f) : mm_at D dA M1 a κ N H := by
  have e1 : sv M1 a κ = sv M a κ := by funext k; unfold sv; rw [hi, hr]
  have e2 : ∀ t, ev M1 a t = ev M a t := by intro t; funext k; unfold ev; rw [hi, hr]
  unfold mm_at at h ⊢
  split at h
  · rw [e1]; exact h
  · rw [e2]; exact h
theorem Rp.fresh {D : va_G} {dA : Nat → ClassId} {M : Mm} {H : Heap} (h : Rp D dA M H) : kd M H.size = none := by
  cases e : kd M H.size with
  | none => rfl
  | some q => exact absurd (h H.size q.1 q.2.1 q.2.2 e).lt (Nat.lt_irrefl _)
/-! locals: places that are not set are 'none' -/
def lp (L : List (Option Value)) : List (Nat × Value) := (List.range L.length).filterMap (fun j => (L[j]?.join).map (fun v => (j, v)))
def Lh (ls : Array Slot) (nL : Nat) (L : List (Option Value)) : Prop := lv_has ls nL (lp L) ∧ L.length = nL ∧ ∀ (i : Nat) (v : Value), L[i]? = some (some v) → v.category = 1
theorem lp_mem {L : List (Option Value)} {i : Nat} {v : Value} (h : L[i]? = some (some v)) : (i, v) ∈ lp L := by
  refine List.mem_filterMap.mpr ⟨i, List.mem_range.mpr (List.getElem?_eq_some_iff.mp h).1, ?_⟩
  rw [h]; rfl
theorem lp_of {L : List (Option Value)} {q : Nat × Value} (h : q ∈ lp L) : L[q.1]? = some (some q.2) := by
  obtain ⟨i, -, hi⟩ := List.mem_filterMap.mp h
  cases e : L[i]? with
  | none => rw [e] at hi; cases hi
  | some o =>
    rw [e] at hi
    cases o with
    | none => cases hi
    | some v => cases hi; exact e
theorem Lh.at {ls : Array Slot} {nL : Nat} {L : List (Option Value)} (h : Lh ls nL L) {i : Nat} {v : Value} (hi : L[i]? = some (some v)) : ls[i]? = some (.val v) := h.1.2.2 (i, v) (lp_mem hi)
theorem Lh.set {ls ls' : Array Slot} {nL : Nat} {L : List (Option Value)} (h : Lh ls nL L) {i : Nat} {v : Value} (hn : i < nL) (hv : v.category = 1) (h' : lv_has ls' nL ((i, v) :: (lp L).filter (fun q => !(q.1 == i) && !(q.1 + 1 == i && q.2.category == 2)))) : Lh ls' nL (L.set i (some v)) := by
  have key : ∀ (j : Nat) (w : Value), (L.set i (some v))[j]? = some (some w) → (j = i ∧ w = v) ∨ (j ≠ i ∧ L[j]? = some (some w)) := by
    intro j w hj
    by_cases e : j = i
    · subst e
      rw [List.getElem?_set_self (by rw [h.2.1]; exact hn)] at hj
      cases hj
      exact Or.inl ⟨rfl, rfl⟩
    · rw [List.getElem?_set_ne (Ne.symm e)] at hj
      exact Or.inr ⟨e, hj⟩
  refine ⟨⟨h'.1, h'.2.1, fun q hq => ?_⟩, by rw [List.length_set]; exact h.2.1, fun j w hj => ?_⟩
  · rcases key q.1 q.2 (lp_of hq) with ⟨e1, e2⟩ | ⟨e1, e2⟩
    · have e : q = (i, v) := Prod.ext e1 e2
      rw [e]
      exact h'.2.2 _ List.mem_cons_self
    · refine h'.2.2 _ (List.mem_cons_of_mem _ (List.mem_filter.mpr ⟨lp_mem e2, ?_⟩))
      have hc := h.2.2 q.1 q.2 e2
      simp [e1, hc]
  · rcases key j w hj with ⟨-, e2⟩ | ⟨-, e2⟩
    · rw [e2]; exact hv
    · exact h.2.2 j w e2
theorem lv_args_at (vs : List Value) (hc : ∀ v ∈ vs, v.category = 1) : ∀ (i j : Nat) (v : Value), vs[j]? = some v → (i + j, v) ∈ lv_args i vs := by
  induction vs with
  | nil => intro i j v h; simp at h
  | cons w vs ih =>
    intro i j v h
    have hw : ¬ w.category = 2 := by rw [hc w List.mem_cons_self]; decide
    unfold lv_args
    rw [if_neg hw]
    cases j with
    | zero =>
      rw [List.getElem?_cons_zero] at h
      cases h
      exact List.mem_cons_self
    | succ j =>
      rw [List.getElem?_cons_succ] at h
      have := ih (fun v hv => hc v (List.mem_cons_of_mem _ hv)) (i + 1) j v h
      rw [show i + (j + 1) = i + 1 + j by omega]
      exact List.mem_cons_of_mem _ this
theorem lg_sl_len (vs : List Value) (hc : ∀ v ∈ vs, v.category = 1) : (lg_sl vs).length = vs.length := by
  induction vs with
  | nil => rfl
  | cons w vs ih =>
    have hw : ¬ w.category = 2 := by rw [hc w List.mem_cons_self]; decide
    have := ih (fun v hv => hc v (List.mem_cons_of_mem _ hv))
    unfold lg_sl at this ⊢
    rw [List.flatMap_cons, if_neg hw, List.length_append, this]
    simp [Nat.add_comm]
theorem Lh.entry (vs : List Value) (hc : ∀ v ∈ vs, v.category = 1) {n : Nat} (hn : vs.length ≤ n) : Lh ((lg_sl vs ++ List.replicate (n - (lg_sl vs).length) Slot.unset).toArray) n (vs.map some ++ List.replicate (n - vs.length) none) := by
  have hl := lg_sl_len vs hc
  have h := lv_entry vs (n := n) (by rw [hl]; exact hn)
  have key : ∀ (j : Nat) (w : Value), (vs.map some ++ List.replicate (n - vs.length) none)[j]? = some (some w) → vs[j]? = some w := by
    intro j w hj
    by_cases e : j < vs.length
    · rw [List.getElem?_append_left (by simpa using e), List.getElem?_map] at hj
      cases q : vs[j]? with
      | none => rw [q] at hj; cases hj
      | some z => rw [q] at hj; cases hj; rfl
    · rw [List.getElem?_append_right (by simpa using e)] at hj
      have := (List.getElem?_eq_some_iff.mp hj)
      obtain ⟨a, b⟩ := this
      simp at b
  refine ⟨⟨h.1, h.2.1, fun q hq => ?_⟩, by simp; omega, fun j w hj => hc w (List.mem_of_getElem? (key j w hj))⟩
  have := lv_args_at vs hc 0 q.1 q.2 (key _ _ (lp_of hq))
  rw [Nat.zero_add] at this
  exact h.2.2 _ this
