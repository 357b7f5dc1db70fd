/-! THE CLAIM OUT OF ONE WALK OF THE LAW'S BODY. Your part is whole_start (and what it stands on); all else here is the same for every law, but numbers. -/
def R_law : String := "FiberDeskLaw"
def lw_P (b : Addr) (xs : List Int32) (args : Array Value) (s : State) : Prop := args = #[.ref b] ∧ s.IntsAt b xs ∧ xs.length ≤ 2560 ∧ (Jvm.Cond.and given_1 narrow_1).before args s = true
def lw_Q (_ : Array Value) (s : State) (o : Outcome) (t : State) : Prop := o = .returned (some (.int 1)) ∧ Framed s o t [] 600000 7302250
def lw_Z (below : List Frame) (a : Array Value) (s : State) : State → Prop := fun t => ∃ o, t.status = .running ∧ Ended t below o ∧ lw_Q a s o t
/-- the law's own end, with 1 on the stack, nothing written that was there before, its room as the claim has it -/
theorem lw_ret {p : Program} {l : Launch} {e : Env} {s : State} {m : MethodId} {below : List Frame} {meth : Method} {c : Code} {b : Nat} (hx : p.tables.exec = Jvm.exec) (hb : c.code = code) (hr : meth.sig.returnType = ret) (hlocks : meth.locks = false) {pc : Nat} {H : Heap} {ls : Array Slot} (hdg : decode code pc = .ok (.ireturn, 1)) : W p l e room_1 s m #[Value.ref b] below meth c H [] 600000 7302250 (lw_Z below #[Value.ref b] s) (F0 m pc ls [.int 1]) := by
  intro T hT X
  obtain ⟨fs, hret, hrun, hended, hW, hframe⟩ := X.leave (v := some (.int 1)) (hlocks := hlocks) (fun h => by rw [hr] at h; cases h)
  have hmeth' : T.vm.method? m = some meth := X.method'
  refine ⟨T.setFrames fs, ?_, .returned (some (.int 1)), hrun, hended, rfl, ⟨_, rfl⟩, hW, hframe⟩
  jvm_step X.here [X.here.top, hx, hb, hdg, hmeth', hr, ret, narrow_b1]
  (try refine ⟨rfl, ?_⟩); (try refine ⟨rfl, ?_⟩)
  first | (intro acts; rw [hret _ acts rfl rfl rfl]) | rw [hret _ _ rfl rfl rfl]
  exact Steps.refl _
/-- what holds at the law's entry: the machine, the code, the tables' words (any of lw_tbl by 'hts w (by decide +kernel)'), the script of L ints xs at the cell b, what the Statement gives of the start (any of its parts by flat_of_before) -/
def lw_At (p : Program) (s : State) (m : MethodId) (meth : Method) (c : Code) (b L : Nat) (xs : Nat → Int32) : Prop :=
  p.tables.exec = Jvm.exec ∧ c.code = code ∧ meth.sig.returnType = ret ∧ c.maxLocals = 4 ∧ s.vm.findClass R_law = some m.cls ∧ (∀ w ∈ lw_tbl, w.before #[Value.ref b] s = true) ∧ va_X b L xs s s.heap ∧ b < s.heap.size ∧ meth.locks = false ∧ (Jvm.Cond.and given_1 narrow_1).before #[Value.ref b] s = true ∧ meth.name = x.name
theorem eq_ev {args : Array Value} {s : State} {t : Term} {z : Int32} (h : (Cond.eq t (.int z)).before args s = true) : t.eval args s none [] s = some (.int z) := by
  cases hv : t.eval args s none [] s with
  | none => simp [Cond.before, Cond.holds, Cond.value, hv] at h
  | some w =>
    have hz : (Term.int z).eval args s none [] s = some (.int z) := rfl
    simp only [Cond.before, Cond.holds, Cond.value, hv, hz] at h
    cases w <;> simp_all
theorem len_lt {args : Array Value} {s : State} {t : Term} {v : Value} {a : Addr} {cell : Cell} (hv : (Term.length t).eval args s none [] s = some v) (ht : t.eval args s none [] s = some (.ref a)) (hat : s.arrayAt? a = some cell) : cell.slots.size < 2 ^ 31 := by
  simp only [Term.eval, ht, hat, Option.bind_eq_bind, Option.bind_some] at hv
  by_cases hlt : cell.slots.size < 2147483648
  · exact hlt
  · simp [hlt] at hv
/-- the class's static table at the start -/
theorem parts_at {args : Array Value} {s : State} (hg : (Jvm.Cond.and given_1 narrow_1).before args s = true) : ∃ t : Nat, (Term.static "FiberDesk" "PARTS" "[I").eval args s none [] s = some (.ref t) ∧ va_X t 26 (fun j => kParts.getD j 0) s s.heap := by
  have hs := flat_of_before _ hg
  have harr : (Cond.arrayOf (.static "FiberDesk" "PARTS" "[I") .int).before args s = true := hs _ (by decide +kernel)
  have hv := eq_ev (hs (Cond.eq (.length (.static "FiberDesk" "PARTS" "[I")) (.int 26)) (by decide +kernel))
  obtain ⟨a, cell, ht, hat, hsz⟩ := Term.length_spec hv
  have hlt : cell.slots.size < 2 ^ 31 := len_lt hv ht hat
  have h26 : cell.slots.size = 26 := by
    have e : (26 : Int32) = nI cell.slots.size := by
      exact Value.int.inj hsz
    exact ((nI_eq (a := 26) (by decide) hlt).mp e).symm
  obtain ⟨hcell, hunk, -, -⟩ := State.arrayAt?_spec hat
  have hof := (Cond.arrayOf_spec harr ht hcell).1
  have el : ∀ (j : Nat) (z : Int32), j < 26 → (Cond.eq (.elem (.static "FiberDesk" "PARTS" "[I") (.int (nI j))) (.int z)).before args s = true → cell.slots[j]? = some (.int z) := fun j z hj h => by
    obtain ⟨a', j', cell', ht', hj', hat', -, hval⟩ := Term.elem_spec (eq_ev h)
    cases ht.symm.trans ht'
    cases hat.symm.trans hat'
    cases hj'
    rw [nI_clamp (by omega)] at hval
    exact hval
  have g0 := el 0 0 (by decide) (hs (Cond.eq (.elem (.static "FiberDesk" "PARTS" "[I") (.int 0)) (.int 0)) (by decide +kernel))
  have g1 := el 1 0 (by decide) (hs (Cond.eq (.elem (.static "FiberDesk" "PARTS" "[I") (.int 1)) (.int 0)) (by decide +kernel))
  have g2 := el 2 0 (by decide) (hs (Cond.eq (.elem (.static "FiberDesk" "PARTS" "[I") (.int 2)) (.int 0)) (by decide +kernel))
  have g3 := el 3 0 (by decide) (hs (Cond.eq (.elem (.static "FiberDesk" "PARTS" "[I") (.int 3)) (.int 0)) (by decide +kernel))
  have g4 := el 4 2 (by decide) (hs (Cond.eq (.elem (.static "FiberDesk" "PARTS" "[I") (.int 4)) (.int 2)) (by decide +kernel))
  have g5 := el 5 3 (by decide) (hs (Cond.eq (.elem (.static "FiberDesk" "PARTS" "[I") (.int 5)) (.int 3)) (by decide +kernel))
  have g6 := el 6 2 (by decide) (hs (Cond.eq (.elem (.static "FiberDesk" "PARTS" "[I") (.int 6)) (.int 2)) (by decide +kernel))
  have g7 := el 7 3 (by decide) (hs (Cond.eq (.elem (.static "FiberDesk" "PARTS" "[I") (.int 7)) (.int 3)) (by decide +kernel))
  have g8 := el 8 1 (by decide) (hs (Cond.eq (.elem (.static "FiberDesk" "PARTS" "[I") (.int 8)) (.int 1)) (by decide +kernel))
  have g9 := el 9 1 (by decide) (hs (Cond.eq (.elem (.static "FiberDesk" "PARTS" "[I") (.int 9)) (.int 1)) (by decide +kernel))
  have g10 := el 10 1 (by decide) (hs (Cond.eq (.elem (.static "FiberDesk" "PARTS" "[I") (.int 10)) (.int 1)) (by decide +kernel))
  have g11 := el 11 1 (by decide) (hs (Cond.eq (.elem (.static "FiberDesk" "PARTS" "[I") (.int 11)) (.int 1)) (by decide +kernel))
  have g12 := el 12 1 (by decide) (hs (Cond.eq (.elem (.static "FiberDesk" "PARTS" "[I") (.int 12)) (.int 1)) (by decide +kernel))
  have g13 := el 13 0 (by decide) (hs (Cond.eq (.elem (.static "FiberDesk" "PARTS" "[I") (.int 13)) (.int 0)) (by decide +kernel))
  have g14 := el 14 0 (by decide) (hs (Cond.eq (.elem (.static "FiberDesk" "PARTS" "[I") (.int 14)) (.int 0)) (by decide +kernel))
  have g15 := el 15 2 (by decide) (hs (Cond.eq (.elem (.static "FiberDesk" "PARTS" "[I") (.int 15)) (.int 2)) (by decide +kernel))
  have g16 := el 16 0 (by decide) (hs (Cond.eq (.elem (.static "FiberDesk" "PARTS" "[I") (.int 16)) (.int 0)) (by decide +kernel))
  have g17 := el 17 0 (by decide) (hs (Cond.eq (.elem (.static "FiberDesk" "PARTS" "[I") (.int 17)) (.int 0)) (by decide +kernel))
  have g18 := el 18 0 (by decide) (hs (Cond.eq (.elem (.static "FiberDesk" "PARTS" "[I") (.int 18)) (.int 0)) (by decide +kernel))
  have g19 := el 19 0 (by decide) (hs (Cond.eq (.elem (.static "FiberDesk" "PARTS" "[I") (.int 19)) (.int 0)) (by decide +kernel))
  have g20 := el 20 0 (by decide) (hs (Cond.eq (.elem (.static "FiberDesk" "PARTS" "[I") (.int 20)) (.int 0)) (by decide +kernel))
  have g21 := el 21 0 (by decide) (hs (Cond.eq (.elem (.static "FiberDesk" "PARTS" "[I") (.int 21)) (.int 0)) (by decide +kernel))
  have g22 := el 22 0 (by decide) (hs (Cond.eq (.elem (.static "FiberDesk" "PARTS" "[I") (.int 22)) (.int 0)) (by decide +kernel))
  have g23 := el 23 0 (by decide) (hs (Cond.eq (.elem (.static "FiberDesk" "PARTS" "[I") (.int 23)) (.int 0)) (by decide +kernel))
  have g24 := el 24 0 (by decide) (hs (Cond.eq (.elem (.static "FiberDesk" "PARTS" "[I") (.int 24)) (.int 0)) (by decide +kernel))
  have g25 := el 25 2 (by decide) (hs (Cond.eq (.elem (.static "FiberDesk" "PARTS" "[I") (.int 25)) (.int 2)) (by decide +kernel))
  refine ⟨a, ht, cell, hcell, hof, hunk, h26, fun j hj => ?_⟩
  match j, hj with
  | 0, _ => exact g0
  | 1, _ => exact g1
  | 2, _ => exact g2
  | 3, _ => exact g3
  | 4, _ => exact g4
  | 5, _ => exact g5
  | 6, _ => exact g6
  | 7, _ => exact g7
  | 8, _ => exact g8
  | 9, _ => exact g9
  | 10, _ => exact g10
  | 11, _ => exact g11
  | 12, _ => exact g12
  | 13, _ => exact g13
  | 14, _ => exact g14
  | 15, _ => exact g15
  | 16, _ => exact g16
  | 17, _ => exact g17
  | 18, _ => exact g18
  | 19, _ => exact g19
  | 20, _ => exact g20
  | 21, _ => exact g21
  | 22, _ => exact g22
  | 23, _ => exact g23
  | 24, _ => exact g24
  | 25, _ => exact g25
  | j + 26, h => exact absurd h (by omega)
theorem kw_cl {args : Array Value} {s : State} (htk : ∀ w ∈ kTB, w.before args s = true) : ∃ D : va_G, ∀ (c : Nat) (q : vw_C), kCl[c]? = some q → u_Kn s q.1 q.2.1 q.2.2 (D.1 c) (D.2 c) := by
  have m0 : Cond.instantiable "FiberDesk" 13 ∈ kTB := by
    obtain ⟨r, hr, -, -, -, h, -⟩ := cl_W_7
    cases hr
    exact h
  obtain ⟨c0, s0, k0⟩ := u_known (C := "FiberDesk") (T := T0) (N := 13) (n := 13) htk in0 (htk _ m0)
  have m1 : Cond.instantiable "FiberDesk$Line" 2 ∈ kTB := by
    obtain ⟨r, hr, -, -, -, h, -⟩ := cl_D_28
    cases hr
    exact h
  obtain ⟨c1, s1, k1⟩ := u_known (C := "FiberDesk$Line") (T := T1) (N := 2) (n := 2) htk in1 (htk _ m1)
  have m2 : Cond.instantiable "FiberDesk$Place" 6 ∈ kTB := by
    obtain ⟨r, hr, -, -, -, h, -⟩ := cl_D_35
    cases hr
    exact h
  obtain ⟨c2, s2, k2⟩ := u_known (C := "FiberDesk$Place") (T := T2) (N := 6) (n := 6) htk in2 (htk _ m2)
  have m3 : Cond.instantiable "FiberDesk$Effect" 5 ∈ kTB := by
    obtain ⟨r, hr, -, -, -, h, -⟩ := cl_D_9
    cases hr
    exact h
  obtain ⟨c3, s3, k3⟩ := u_known (C := "FiberDesk$Effect") (T := T3) (N := 5) (n := 5) htk in3 (htk _ m3)
  have m4 : Cond.instantiable "FiberDesk$Fiber" 16 ∈ kTB := by
    obtain ⟨r, hr, -, -, -, h, -⟩ := cl_D_19
    cases hr
    exact h
  obtain ⟨c4, s4, k4⟩ := u_known (C := "FiberDesk$Fiber") (T := T4) (N := 16) (n := 16) htk in4 (htk _ m4)
  have m5 : Cond.instantiable "FiberDesk$Frame" 8 ∈ kTB := by
    obtain ⟨r, hr, -, -, -, h, -⟩ := cl_F_90
    cases hr
    exact h
  obtain ⟨c5, s5, k5⟩ := u_known (C := "FiberDesk$Frame") (T := T5) (N := 8) (n := 8) htk in5 (htk _ m5)
  have m6 : Cond.instantiable "FiberDesk$Closer" 3 ∈ kTB := by
    obtain ⟨r, hr, -, -, -, h, -⟩ := cl_Q_39
    cases hr
    exact h
  obtain ⟨c6, s6, k6⟩ := u_known (C := "FiberDesk$Closer") (T := T6) (N := 3) (n := 3) htk in6 (htk _ m6)
  have m7 : Cond.instantiable "FiberDesk$Cause" 2 ∈ kTB := by
    obtain ⟨r, hr, -, -, -, h, -⟩ := cl_D_141
    cases hr
    exact h
  obtain ⟨c7, s7, k7⟩ := u_known (C := "FiberDesk$Cause") (T := T7) (N := 2) (n := 2) htk in7 (htk _ m7)
  have m8 : Cond.instantiable "FiberDeskModel" 52 ∈ kTB := by
    obtain ⟨r, hr, -, -, -, h, -⟩ := cl_W_10
    cases hr
    exact h
  obtain ⟨c8, s8, k8⟩ := u_known (C := "FiberDeskModel") (T := T8) (N := 52) (n := 52) htk in8 (htk _ m8)
  refine ⟨(fun k => if k = 0 then c0 else if k = 1 then c1 else if k = 2 then c2 else if k = 3 then c3 else if k = 4 then c4 else if k = 5 then c5 else if k = 6 then c6 else if k = 7 then c7 else c8, fun k => if k = 0 then s0 else if k = 1 then s1 else if k = 2 then s2 else if k = 3 then s3 else if k = 4 then s4 else if k = 5 then s5 else if k = 6 then s6 else if k = 7 then s7 else s8), ?_⟩
  intro k q hq
  match k, hq with
  | 0, hq => cases hq; exact k0
  | 1, hq => cases hq; exact k1
  | 2, hq => cases hq; exact k2
  | 3, hq => cases hq; exact k3
  | 4, hq => cases hq; exact k4
  | 5, hq => cases hq; exact k5
  | 6, hq => cases hq; exact k6
  | 7, hq => cases hq; exact k7
  | 8, hq => cases hq; exact k8
  | k + 9, hq => simp [kCl] at hq
theorem kw_ar {args : Array Value} {s : State} (htk : ∀ w ∈ kTB, w.before args s = true) (hao : ∀ C ∈ kArr, va_AO C s) : ∃ dA : Nat → ClassId, ∀ (κ : Nat) (t : FieldType), kAty κ = some t → ArrOfT s (dA κ) t ∧ va_RA s (dA κ) t := by
  have pr : ∀ ty : FieldType, Cond.arrayClass ty ∈ kTB → (∀ c, va_RA s c ty = (s.vm.findClass ("[" ++ ty.toString) = some c)) → ∃ c, ArrOfT s c ty ∧ va_RA s c ty := fun ty hm hra => by
    obtain ⟨c, k, comp, h1, h2, h3⟩ := Cond.arrayClass_spec (htk _ hm)
    exact ⟨c, fun n z => ⟨fun k h => (by cases h), k, h2, comp, h3⟩, by rw [hra]; exact h1⟩
  have ob : ∀ C : String, C ∈ kArr → ∃ c, ArrOfT s c (.object C) ∧ va_RA s c (.object C) := fun C hC => by
    obtain ⟨comp, c, k, h1, h2, h3, h4, h5⟩ := Cond.arrayOver_spec (hao C hC)
    exact ⟨c, fun n z => ⟨fun k h => (by cases h), k, h3, comp, h4⟩, k, comp, h3, h4, h1, h5⟩
  obtain ⟨c20, k20⟩ := pr .int ac_int (fun _ => rfl)
  obtain ⟨c21, k21⟩ := pr .boolean ac_bool (fun _ => rfl)
  obtain ⟨c22, k22⟩ := ob "FiberDesk$Effect" (by decide)
  obtain ⟨c23, k23⟩ := ob "FiberDesk$Fiber" (by decide)
  obtain ⟨c24, k24⟩ := ob "FiberDesk$Place" (by decide)
  refine ⟨fun κ => if κ = 20 then c20 else if κ = 21 then c21 else if κ = 22 then c22 else if κ = 23 then c23 else c24, ?_⟩
  intro κ t h
  unfold kAty at h
  split at h
  · cases h; exact k20
  · cases h; exact k21
  · cases h; exact k22
  · cases h; exact k23
  · cases h; exact k24
  · cases h
set_option maxHeartbeats 4000000 in
theorem whole_start {p : Program} {e : Env} {s : State} {m : MethodId} {below : List Frame} {meth : Method} {c : Code} (l : Launch) {b L : Nat} {xs : Nat → Int32} (hL : L ≤ 2560) (C0 : lw_At p s m meth c b L xs) : W p l e room_1 s m #[Value.ref b] below meth c s.heap [] 0 0 (lw_Z below #[Value.ref b] s) (entryFrame m ([Value.ref b] : List Value).toArray 4) := by
  obtain ⟨hx, hb, hr, hml, hown, hts, hX, hbl, hlocks, hgv, hnm⟩ := id C0
  have htk : ∀ w ∈ kTB, w.before #[Value.ref b] s = true := fun w hw => hts w (List.mem_filter.mp hw).1
  have hao : ∀ C ∈ kArr, va_AO C s := fun C hC => by
    have : C = "FiberDesk$Effect" ∨ C = "FiberDesk$Fiber" ∨ C = "FiberDesk$Place" := by simpa [kArr] using hC
    rcases this with rfl | rfl | rfl
    · exact va_AO.of (hts (.arrayOver (.object "FiberDesk$Effect")) (by decide +kernel))
    · exact va_AO.of (hts (.arrayOver (.object "FiberDesk$Fiber")) (by decide +kernel))
    · exact va_AO.of (hts (.arrayOver (.object "FiberDesk$Place")) (by decide +kernel))
  have hne : ∀ q ∈ kNest, va_Nw (.methodLinkNest q.1 q.2.1 q.2.2 "FiberDesk") s := fun q hq => by
    have : q = ("FiberDesk", 30, m_L_init.1) ∨ q = ("FiberDesk", 64, m_P_init.1) ∨ q = ("FiberDesk$Place", 25, m_L_init.1) ∨ q = ("FiberDesk$Fiber", 153, m_D_joined.1) := by simpa [kNest] using hq
    rcases this with rfl | rfl | rfl | rfl
    · exact va_Nw.of rfl (hts (.methodLinkNest "FiberDesk" 30 m_L_init.1 "FiberDesk") (by decide +kernel))
    · exact va_Nw.of rfl (hts (.methodLinkNest "FiberDesk" 64 m_P_init.1 "FiberDesk") (by decide +kernel))
    · exact va_Nw.of rfl (hts (.methodLinkNest "FiberDesk$Place" 25 m_L_init.1 "FiberDesk") (by decide +kernel))
    · exact va_Nw.of rfl (hts (.methodLinkNest "FiberDesk$Fiber" 153 m_D_joined.1 "FiberDesk") (by decide +kernel))
  obtain ⟨D, hD⟩ := kw_cl htk
  obtain ⟨dA, hdA⟩ := kw_ar htk hao
  have hK : Kw D dA s := ⟨hD, hdA, hne, hao⟩
  obtain ⟨t, ht, hXt⟩ := parts_at hgv
  have hnA : ∀ q : Nat, q < s.heap.size → ¬ s.heap.size ≤ q := fun q h1 h2 => Nat.lt_irrefl _ (Nat.lt_of_lt_of_le h1 h2)
  have htl : t < s.heap.size := by
    obtain ⟨scr, h1, -⟩ := hXt
    exact (Array.getElem?_eq_some_iff.mp h1).1
  have hZ : Zs (t, b, L, xs) (fun q => s.heap.size ≤ q) s s.heap := ⟨va_Zof (hts (.laysStatic "FiberDesk" "PARTS" "[I") (by decide +kernel)) (hts (.initialized "FiberDesk") (by decide +kernel)) ht hnA, ⟨hXt, hnA t htl⟩, hX, hnA b hbl⟩
  have hl := Lh.entry [va_rf (some b)] (by simp [cat_rf]) (n := 4) (Nat.le_of_ble_eq_true rfl)
  rw [lg_entry_eq]
  refine law_body hL p l e room_1 s m #[Value.ref b] below meth c D dA (t, b, L, xs) (fun q => s.heap.size ≤ q) 600000 7302250 _ s.heap [] 0 0 _ ⟨hx, hb, hml, hown, htk, hnm, hK, fun q h => h, fun q κ τ N h => (nomatch (show (none : Option (Nat × Nat × Nat)) = some (κ, τ, N) from h)), Nat.le_refl _, Nat.le_refl _, Nat.le_refl _, (by decide), ⟨fun _ => ⟨rfl, rfl, fun j => scM_x b L xs j⟩, trivial, hZ⟩, ?_⟩ ⟨fun a κ τ N h => (nomatch (show (none : Option (Nat × Nat × Nat)) = some (κ, τ, N) from h)), Fr.refl _ _, fun q κ τ N h => Or.inl h, va_S.rf⟩ hl (by decide) (by decide)
  intro r M' H' locs' pc' ls' st' hM hQ hRt
  have hQ' : r = some (.int 1) := hQ
  subst hQ'
  rcases hRt with ⟨x, ty, e1, rfl, hd, -⟩ | ⟨o, ty, e1, -⟩ | ⟨e1, -⟩
  · cases e1
    exact va_forget (fun q hq => hM.2.2.2.2.2 q hq) (lw_ret hx hb hr hlocks hd)
  · cases o <;> cases e1
  · cases e1
set_option maxHeartbeats 4000000 in
theorem lw_walk (l : Launch) (b : Addr) (xs : List Int32) : MetFree l x (headSpec (Jvm.Cond.code x code maxLocals ret :: tables_1) room_1) (lw_P b xs) (fun _ _ _ _ _ => True) lw_Q := by
  refine MetFree.of_bodyS (code := code) (maxLocals := maxLocals) (ret := ret) (by decide) ?_ ?_
  · intro args s m h hn
    obtain ⟨meth, c, h1, h2, h3, h4, h5, h6, -, -⟩ := Cond.code_spec hn (atoms_spec (ws := Jvm.Cond.code x code maxLocals ret :: tables_1) h _ List.mem_cons_self)
    exact ⟨meth, c, h1, h2, h3, h4, h5, h6⟩
  · intro p e s m args below meth c s₁ B hml0 hP _
    obtain ⟨rfl, hx, hbd, hgv⟩ := hP
    obtain ⟨scr, harrAt, hlist, hof, hsmall⟩ := hx
    obtain ⟨hcb, hkn, -, -⟩ := State.arrayAt?_spec harrAt
    have hown : s.vm.findClass R_law = some m.cls := findClass_of_methodNamed B.named
    have hts0 : ∀ c ∈ (Jvm.Cond.code x code maxLocals ret :: tables_1), c.before #[Value.ref b] s = true := atoms_spec (ws := Jvm.Cond.code x code maxLocals ret :: tables_1) B.pre
    have hts : ∀ w ∈ lw_tbl, w.before #[Value.ref b] s = true := k2_hts_sels lw_privs (fun w hw => hts0 w (List.mem_cons_of_mem _ hw)) lw_privs_ok
    have hml : c.maxLocals = 4 := B.maxLocals_eq (hts0 _ List.mem_cons_self)
    have X₀ : Stand p l e room_1 s m #[Value.ref b] below meth c s₁ [] 0 0 := Stand.of_body B
    have hh0 : s₁.heap = s.heap := by rw [B.state]; rfl
    have hsz : scr.slots.size = xs.length := by rw [← Array.length_toList, hlist, List.length_map]
    have hval : ∀ j : Nat, j < xs.length → scr.slots[j]? = some (.int (xs.getD j 0)) := fun j hj => by
      rw [← Array.getElem?_toList, hlist]
      simp [hj]
    have hbl : b < s.heap.size := (Array.getElem?_eq_some_iff.mp hcb).1
    have hX : va_X b xs.length (fun j => xs.getD j 0) s s.heap := ⟨scr, hcb, hof, hkn, hsz, hval⟩
    have K : W p l e room_1 s m #[Value.ref b] below meth c s₁.heap [] 0 0 (lw_Z below #[Value.ref b] s) (entryFrame m ([Value.ref b] : List Value).toArray 4) := by
      rw [hh0]
      exact whole_start l hbd ⟨B.exec, B.bytes, B.returns, hml, hown, hts, hX, hbl, B.notSynchronized, hgv, (name_of_methodNamed B.named B.method).1⟩
    obtain ⟨t, a1, o, b1, b2, b3⟩ := K s₁ rfl X₀
    exact ⟨t, o, a1, b1, b2, b3⟩
theorem lw_pre_spec {args : Array Value} {s : State} (h : (Jvm.Cond.and given_1 narrow_1).before args s = true) (hr : rest_1_c.before args s = true) : ∃ (b : Addr) (xs : List Int32), lw_P b xs args s := by
  have hs := flat_of_before _ h
  have hq := flat_of_before _ hr
  have hc : (Cond.count 1).before args s = true := hs _ (by decide +kernel)
  have harr : (Cond.arrayOf (.arg 0) .int).before args s = true := hs _ (by decide +kernel)
  have hle : (Cond.le (.length (.arg 0)) (.int 2560)).before args s = true := hs _ (by decide +kernel)
  have hlen : (Cond.isInt (.length (.arg 0))).before args s = true := hq _ (by decide +kernel)
  have hall : (Cond.all (.arg 0) (.isInt (.elem (.arg 0) (.index 0)))).before args s = true := hq _ (by decide +kernel)
  obtain ⟨b, xs, hb, hx⟩ := State.ints_of_pre rfl harr hlen hall
  have hsm : xs.length < 2 ^ 31 := hx.choose_spec.2.2.2
  have hev : (Term.length (.arg 0)).eval args s none [] s = some (.int xs.length.toInt32) := hx.length_eval hb
  have hv := Cond.le_ints hev (show (Term.int 2560).eval args s none [] s = some (.int 2560) from rfl)
  have hd : xs.length.toInt32 ≤ 2560 := by
    simpa [Cond.before, Cond.holds, hv] using hle
  have hN : xs.length ≤ 2560 := (Int32.ofNat_le_ofNat hsm (by decide)).mp (show Int32.ofNat xs.length ≤ Int32.ofNat 2560 from hd)
  exact ⟨b, xs, Cond.one_arg hc (show args[0]? = some (.ref b) from hb), hx, hN, h⟩
theorem lw_comes (l : Launch) : Comes l x (Jvm.Cond.code x code maxLocals ret :: tables_1) room_1 (fun tb e args s => Calls_1 tb e args s ∧ rest_1 tb e args s ∧ Pre_1 tb e args s)
    (fun _ _ args s o t => lw_Q args s o t) := by
  intro p e ha hc hk s m args below hf hfit hheap happ hpre
  obtain ⟨b, xs, hP⟩ := lw_pre_spec hpre.2.2 hpre.2.1
  obtain ⟨k, o, h1, h2, h3, hQ⟩ := lw_walk l b xs p e ha hc hk s m args below hf ((Spec.applies_iff_loose hf).mp happ).1 hP trivial
  exact ⟨k, o, h1, h2, h3, hQ⟩
theorem lw_frame {s t : State} {o : Outcome} {args : Array Value} (h : Framed s o t [] 600000 7302250) :
    Framed s o t (fieldLocs frame_1_writes args s ++ arrayLocs frame_1_arrays args s ++ staticLocs frame_1_statics s) 600000 7302250 := h
theorem lw_limb (L : Cond) (hL : ∀ (args : Array Value) (s t : State), L.after args s (.returned (some (.int 1))) t = true) :
    ArmFor flags0 classFile x code maxLocals ret World_1 tables_1 room_1 Calls_1 rest_1 Pre_1
      (fun tb e a s o t => postC L tb e a s o t ∧ Framed s o t (fieldLocs frame_1_writes a s ++ arrayLocs frame_1_arrays a s ++ staticLocs frame_1_statics s) 600000 7302250) := by
  intro l _ _ _ p e ha hc hk s m args below hf hfit hheap happ hpre
  obtain ⟨k, o, h1, h2, h3, rfl, hF⟩ := lw_comes l p e ha hc hk s m args below hf hfit hheap happ hpre
  exact ⟨k, _, h1, h2, h3, hL args s _, lw_frame hF⟩
theorem i_vc : Claimed_1_1 ∧ Claimed_1_2 := ⟨lw_limb limb_1_1 (fun args s t => by simp [limb_1_1, Cond.after, Cond.holds, Cond.value]), lw_limb limb_1_2 (fun args s t => Cond.after_iff.mpr (by
  first | (rw [show limb_1_2 = Cond.eq .result (.int 1) from rfl, Cond.eq_ints (x := 1) (y := 1) rfl rfl]; simp; done) | (simp [limb_1_2, Cond.value, Term.eval]; done)))⟩
