/-! THE JUDGEMENTS -/
def kWs (mi : MI) : List Cond := Cond.code mi.1 mi.2.1 mi.2.2.1 mi.2.2.2 :: kTB
def kLW : Nat := 37
def kRm (dep k n : Nat) : Room := { frames := dep, cells := k, slots := n, locals := dep * kLW }
/-- the memory M over the heap H of a walk that began in s with M0 -/
def Mx (own : Nat → Nat → Bool) (M0 M : Mm) (D : va_G) (dA : Nat → ClassId) (A : Nat → Prop) (s : State) (H : Heap) (locs : List Loc) : Prop :=
  Rp D dA M H ∧ Fr own M0 M ∧ (∀ q κ τ N : Nat, kd M q = some (κ, τ, N) → kd M0 q = some (κ, τ, N) ∨ A q) ∧ va_S A s.heap H locs
/-- a return: the stack, the instruction, the answer -/
def Rt (mi : MI) (r : Option Value) (pc : Nat) (st : List Value) : Prop :=
  (∃ (x : Int32) (ty : FieldType), r = some (.int x) ∧ st = [.int x] ∧ decode mi.2.1 pc = .ok (.ireturn, 1) ∧ mi.2.2.2 = some ty ∧ narrow ty (.int x) = .int x) ∨
  (∃ (o : Option Nat) (ty : FieldType), r = some (va_rf o) ∧ st = [va_rf o] ∧ decode mi.2.1 pc = .ok (.areturn, 1) ∧ mi.2.2.2 = some ty ∧ ((∃ n, ty = .object n) ∨ ∃ t, ty = .array t)) ∨
  (r = none ∧ st = [] ∧ decode mi.2.1 pc = .ok (.return_, 1) ∧ mi.2.2.2 = none)
def Cx (mi : MI) (dep : Nat) (own : Nat → Nat → Bool) (M0 : Mm) (Q : Option Value → Mm → Prop) (p : Program) (l : Launch) (e : Env) (R : Room) (s : State) (m : MethodId) (args : Array Value) (below : List Frame) (meth : Method) (c : Code) (D : va_G) (dA : Nat → ClassId) (pa : Pa) (A : Nat → Prop) (mc ms : Nat) (Z : State → Prop) : Prop :=
  p.tables.exec = Jvm.exec ∧ c.code = mi.2.1 ∧ c.maxLocals = mi.2.2.1 ∧ s.vm.findClass mi.1.cls = some m.cls ∧ (∀ w ∈ kTB, w.before args s = true) ∧ meth.name = mi.1.name ∧ Kw D dA s ∧ (∀ q : Nat, s.heap.size ≤ q → A q) ∧ (∀ q κ τ N : Nat, kd M0 q = some (κ, τ, N) → own κ τ = true → A q) ∧ mc ≤ R.cells ∧ ms ≤ R.slots ∧ dep ≤ R.frames ∧ dep * kLW ≤ R.locals ∧ (Pt1 mi M0 pa ∧ True ∧ Zs pa A s s.heap) ∧
  ∀ (r : Option Value) (M' : Mm) (H' : Heap) (locs' : List Loc) (pc' : Nat) (ls' : Array Slot) (st' : List Value), Mx own M0 M' D dA A s H' locs' → Q r M' → Rt mi r pc' st' → W p l e R s m args below meth c H' locs' mc ms Z (F0 m pc' ls' st')
def G (mi : MI) (own : Nat → Nat → Bool) (M0 : Mm) (Q : Option Value → Mm → Prop) (dep k n : Nat) (M : Mm) (pc : Nat) (L : List (Option Value)) (st : List Value) : Prop :=
  ∀ (p : Program) (l : Launch) (e : Env) (R : Room) (s : State) (m : MethodId) (args : Array Value) (below : List Frame) (meth : Method) (c : Code) (D : va_G) (dA : Nat → ClassId) (pa : Pa) (A : Nat → Prop) (mc ms : Nat) (Z : State → Prop) (H : Heap) (locs : List Loc) (cells slots : Nat) (ls : Array Slot),
    Cx mi dep own M0 Q p l e R s m args below meth c D dA pa A mc ms Z → Mx own M0 M D dA A s H locs → Lh ls mi.2.2.1 L → cells + k ≤ mc → slots + n ≤ ms → W p l e R s m args below meth c H locs cells slots Z (F0 m pc ls st)
/-- the contract of a method in these words: with these arguments, over this memory, it returns, and what it answers and leaves is Q; at most k cells of n slots are new, at most dep frames stand above it -/
def Run (mi : MI) (own : Nat → Nat → Bool) (dep k n : Nat) (av : List Value) (M : Mm) (Q : Option Value → Mm → Prop) : Prop :=
  ∀ (l : Launch) (D : va_G) (dA : Nat → ClassId) (pa : Pa) (A : Nat → Prop) (sz : Nat), (∀ q : Nat, sz ≤ q → A q) → (∀ q κ τ N : Nat, kd M q = some (κ, τ, N) → own κ τ = true → A q) →
    Met l mi.1 (kWs mi) (kRm dep k n) (va_Pc av (fun U => U.heap.size = sz ∧ Rp D dA M U.heap ∧ Kw D dA U ∧ Zs pa A U U.heap))
      (fun _ st oc t => (∃ (r : Option Value) (M' : Mm), oc = .returned r ∧ Q r M' ∧ Fr own M M' ∧ Rp D dA M' t.heap ∧ Kw D dA t ∧ ∀ q κ τ N : Nat, kd M' q = some (κ, τ, N) → kd M q = some (κ, τ, N) ∨ A q) ∧ va_F A st t) k n A
section RunOf
variable {mi : MI} {own : Nat → Nat → Bool} {Q : Option Value → Mm → Prop} {dep k n : Nat} {M : Mm} {av : List Value}
theorem Run.ofG (hy : plainName mi.1.cls = true ∧ ¬ mi.1.cls = "FiberDeskLaw") (hc : ∀ v ∈ av, v.category = 1) (hn : av.length ≤ mi.2.2.1) (h : G mi own M Q dep k n M 0 (av.map some ++ List.replicate (mi.2.2.1 - av.length) none) []) : Run mi own dep k n av M Q := by
  intro l D dA pa A sz hA hAM
  refine Met.ofW (cc := mi.2.1) (maxL := mi.2.2.1) (ret := mi.2.2.2) hy.1 rfl ?_
  intro p e s m args below meth c s₁ B hml hv
  obtain ⟨rfl, hsz, hR, hK, hZs⟩ := hv
  have hx := B.exec
  have hb := B.bytes
  have hr := B.returns
  have hts0 := atoms_spec (ws := kWs mi) B.pre
  have hts : ∀ w ∈ kTB, w.before av.toArray s = true := fun w hw => hts0 w (List.mem_cons_of_mem _ hw)
  have hown : s.vm.findClass mi.1.cls = some m.cls := findClass_of_methodNamed B.named
  have hlocks := B.notSynchronized
  have hnm : meth.name = mi.1.name := (name_of_methodNamed B.named B.method).1
  subst hsz
  rw [lg_entry_eq]
  refine h p l e (kRm dep k n) s m av.toArray below meth c D dA pa A k n _ s.heap [] 0 0 _ ⟨hx, hb, hml, hown, hts, hnm, hK, hA, hAM, Nat.le_refl _, Nat.le_refl _, Nat.le_refl _, Nat.le_refl _, ⟨fun q => absurd q hy.2, trivial, hZs⟩, ?_⟩ ⟨hR, Fr.refl own M, fun _ _ _ _ h => Or.inl h, va_S.rf⟩ (Lh.entry av hc hn) (by omega) (by omega)
  intro r M' H' locs' pc' ls' st' hM hQ hRt
  obtain ⟨m1, m2, m3, m4⟩ := hM
  have post : ∀ t : State, t.heap = H' → s.WarmedH t.vm → (∃ (r2 : Option Value) (M2 : Mm), Outcome.returned r = .returned r2 ∧ Q r2 M2 ∧ Fr own M M2 ∧ Rp D dA M2 t.heap ∧ Kw D dA t ∧ ∀ q κ τ N : Nat, kd M2 q = some (κ, τ, N) → kd M q = some (κ, τ, N) ∨ A q) ∧ va_F A s t := by
    intro t ht hW
    exact ⟨⟨r, M', rfl, hQ, m2, by rw [ht]; exact m1, Kw.moved hW hK, m3⟩, m4.F ht⟩
  rcases hRt with ⟨x, ty, rfl, rfl, hd, hty, hnr⟩ | ⟨o, ty, rfl, rfl, hd, hty, hob⟩ | ⟨rfl, rfl, hd, hty⟩
  · exact W.zret (ty := ty) hx hb (hr.trans hty) hnr post m4.2.2 hd
  · exact W.aret (rt := ty) hx hb (hr.trans hty) hob (va_rf_or o) post m4.2.2 hd
  · exact W.vret hx hb (hr.trans hty) post m4.2.2 hd
theorem Run.weak {Q' : Option Value → Mm → Prop} (h : Run mi own dep k n av M Q) (hq : ∀ r M', Q r M' → Fr own M M' → Q' r M') : Run mi own dep k n av M Q' := by
  intro l D dA pa A sz hA hAM p e ha hc hk s m args below hf happ hp hk'
  obtain ⟨n', o, h1, h2, h3, ⟨⟨r, M', e1, e2, e3, e4⟩, e5⟩, e6⟩ := h l D dA pa A sz hA hAM p e ha hc hk s m args below hf happ hp hk'
  exact ⟨n', o, h1, h2, h3, ⟨⟨r, M', e1, hq r M' e2 e3, e3, e4⟩, e5⟩, e6⟩
end RunOf
section Rules
variable {mi : MI} {own : Nat → Nat → Bool} {M0 : Mm} {Q : Option Value → Mm → Prop} {dep k n : Nat} {M : Mm} {pc : Nat} {L : List (Option Value)} {st : List Value}
/-- a step that moves neither memory nor locals -/
theorem g_go {pc' : Nat} {st' : List Value} (h : ∀ {p : Program} {l : Launch} {e : Env} {R : Room} {s : State} {m : MethodId} {args : Array Value} {below : List Frame} {meth : Method} {c : Code} {Z : State → Prop} {H : Heap} {locs : List Loc} {cells slots : Nat} {ls : Array Slot}, p.tables.exec = Jvm.exec → c.code = mi.2.1 → s.vm.findClass mi.1.cls = some m.cls → (∀ w ∈ kTB, w.before args s = true) → Lh ls mi.2.2.1 L → W p l e R s m args below meth c H locs cells slots Z (F0 m pc' ls st') → W p l e R s m args below meth c H locs cells slots Z (F0 m pc ls st)) (kk : G mi own M0 Q dep k n M pc' L st') : G mi own M0 Q dep k n M pc L st := by
  intro p l e R s m args below meth c D dA pa A mc ms Z H locs cells slots ls C X hl h1 h2
  exact h C.1 C.2.1 C.2.2.2.1 C.2.2.2.2.1 hl (kk p l e R s m args below meth c D dA pa A mc ms Z H locs cells slots ls C X hl h1 h2)
theorem g_iconst {z : Int} {v : Int32} (hd : decode mi.2.1 pc = .ok (.iconst z, 1)) (hv : Int32.ofInt z = v) (kk : G mi own M0 Q dep k n M (pc + 1) L (.int v :: st)) : G mi own M0 Q dep k n M pc L st := g_go (fun hx hb _ _ _ w => lv_iconst hx hb hd hv w) kk
theorem g_bipush {z : Int} {v : Int32} (hd : decode mi.2.1 pc = .ok (.bipush z, 2)) (hv : (Int8.ofInt z).toInt32 = v) (kk : G mi own M0 Q dep k n M (pc + 2) L (.int v :: st)) : G mi own M0 Q dep k n M pc L st := g_go (fun hx hb _ _ _ w => lv_bipush hx hb hd hv w) kk
theorem g_sipush {z : Int} {v : Int32} (hd : decode mi.2.1 pc = .ok (.sipush z, 3)) (hv : (Int16.ofInt z).toInt32 = v) (kk : G mi own M0 Q dep k n M (pc + 3) L (.int v :: st)) : G mi own M0 Q dep k n M pc L st := g_go (fun hx hb _ _ _ w => lv_sipush hx hb hd hv w) kk
theorem g_ldc {index : Nat} {v : Int32} (hd : decode mi.2.1 pc = .ok (.ldc index, 2)) (hw : Cond.constant mi.1.cls index v ∈ kTB) (kk : G mi own M0 Q dep k n M (pc + 2) L (.int v :: st)) : G mi own M0 Q dep k n M pc L st := g_go (fun hx hb ho ht _ w => lv_ldc hx hb ho (ht _ hw) hd w) kk
theorem g_null (hd : decode mi.2.1 pc = .ok (.aconst_null, 1)) (kk : G mi own M0 Q dep k n M (pc + 1) L (va_rf none :: st)) : G mi own M0 Q dep k n M pc L st := g_go (fun hx hb _ _ _ w => lv_null hx hb hd w) kk
theorem g_iload_n {i : Fin 4} {x : Int32} (hd : decode mi.2.1 pc = .ok (.iload_n i, 1)) (hl : L[(i : Nat)]? = some (some (.int x))) (kk : G mi own M0 Q dep k n M (pc + 1) L (.int x :: st)) : G mi own M0 Q dep k n M pc L st := g_go (fun hx hb _ _ l w => lv_iload_n hx hb hd rfl (l.at hl) w) kk
theorem g_iload {i : Nat} {x : Int32} (hd : decode mi.2.1 pc = .ok (.iload i, 2)) (hl : L[i]? = some (some (.int x))) (kk : G mi own M0 Q dep k n M (pc + 2) L (.int x :: st)) : G mi own M0 Q dep k n M pc L st := g_go (fun hx hb _ _ l w => lv_iload hx hb hd (l.at hl) w) kk
theorem g_aload_n {i : Fin 4} {o : Option Nat} (hd : decode mi.2.1 pc = .ok (.aload_n i, 1)) (hl : L[(i : Nat)]? = some (some (va_rf o))) (kk : G mi own M0 Q dep k n M (pc + 1) L (va_rf o :: st)) : G mi own M0 Q dep k n M pc L st := by
  cases o with
  | none => exact g_go (fun hx hb _ _ l w => lv_aload_nN hx hb hd rfl (l.at hl) w) kk
  | some a => exact g_go (fun hx hb _ _ l w => lv_aload_n hx hb hd rfl (l.at hl) w) kk
theorem g_aload {i : Nat} {o : Option Nat} (hd : decode mi.2.1 pc = .ok (.aload i, 2)) (hl : L[i]? = some (some (va_rf o))) (kk : G mi own M0 Q dep k n M (pc + 2) L (va_rf o :: st)) : G mi own M0 Q dep k n M pc L st := by
  cases o with
  | none => exact g_go (fun hx hb _ _ l w => lv_aloadN hx hb hd (l.at hl) w) kk
  | some a => exact g_go (fun hx hb _ _ l w => lv_aload hx hb hd (l.at hl) w) kk
theorem g_istore_n {i : Fin 4} {x : Int32} (hd : decode mi.2.1 pc = .ok (.istore_n i, 1)) (hn : (i : Nat) < mi.2.2.1) (kk : G mi own M0 Q dep k n M (pc + 1) (L.set (i : Nat) (some (.int x))) st) : G mi own M0 Q dep k n M pc L (.int x :: st) := by
  intro p l e R s m args below meth c D dA pa A mc ms Z H locs cells slots ls C X hl h1 h2
  exact lv_istore_n C.1 C.2.1 hd rfl hl.1 hn rfl (fun ls' hl' => kk p l e R s m args below meth c D dA pa A mc ms Z H locs cells slots ls' C X (hl.set hn rfl hl') h1 h2)
theorem g_istore {i : Nat} {x : Int32} (hd : decode mi.2.1 pc = .ok (.istore i, 2)) (hn : i < mi.2.2.1) (kk : G mi own M0 Q dep k n M (pc + 2) (L.set i (some (.int x))) st) : G mi own M0 Q dep k n M pc L (.int x :: st) := by
  intro p l e R s m args below meth c D dA pa A mc ms Z H locs cells slots ls C X hl h1 h2
  exact lv_istore C.1 C.2.1 hd hl.1 hn rfl (fun ls' hl' => kk p l e R s m args below meth c D dA pa A mc ms Z H locs cells slots ls' C X (hl.set hn rfl hl') h1 h2)
theorem g_astore_n {i : Fin 4} {o : Option Nat} (hd : decode mi.2.1 pc = .ok (.astore_n i, 1)) (hn : (i : Nat) < mi.2.2.1) (kk : G mi own M0 Q dep k n M (pc + 1) (L.set (i : Nat) (some (va_rf o))) st) : G mi own M0 Q dep k n M pc L (va_rf o :: st) := by
  intro p l e R s m args below meth c D dA pa A mc ms Z H locs cells slots ls C X hl h1 h2
  cases o with
  | none => exact lv_astore_nN C.1 C.2.1 hd rfl hl.1 hn rfl (fun ls' hl' => kk p l e R s m args below meth c D dA pa A mc ms Z H locs cells slots ls' C X (hl.set hn rfl hl') h1 h2)
  | some a => exact lv_astore_n C.1 C.2.1 hd rfl hl.1 hn rfl (fun ls' hl' => kk p l e R s m args below meth c D dA pa A mc ms Z H locs cells slots ls' C X (hl.set hn rfl hl') h1 h2)
theorem g_astore {i : Nat} {o : Option Nat} (hd : decode mi.2.1 pc = .ok (.astore i, 2)) (hn : i < mi.2.2.1) (kk : G mi own M0 Q dep k n M (pc + 2) (L.set i (some (va_rf o))) st) : G mi own M0 Q dep k n M pc L (va_rf o :: st) := by
  intro p l e R s m args below meth c D dA pa A mc ms Z H locs cells slots ls C X hl h1 h2
  cases o with
  | none => exact lv_astoreN C.1 C.2.1 hd hl.1 hn rfl (fun ls' hl' => kk p l e R s m args below meth c D dA pa A mc ms Z H locs cells slots ls' C X (hl.set hn rfl hl') h1 h2)
  | some a => exact lv_astore C.1 C.2.1 hd hl.1 hn rfl (fun ls' hl' => kk p l e R s m args below meth c D dA pa A mc ms Z H locs cells slots ls' C X (hl.set hn rfl hl') h1 h2)
theorem g_iinc {i : Nat} {z : Int} {x v : Int32} (hd : decode mi.2.1 pc = .ok (.iinc i z, 3)) (hl : L[i]? = some (some (.int x))) (hv : x + Int32.ofInt z = v) (hn : i < mi.2.2.1) (kk : G mi own M0 Q dep k n M (pc + 3) (L.set i (some (.int v))) st) : G mi own M0 Q dep k n M pc L st := by
  intro p l e R s m args below meth c D dA pa A mc ms Z H locs cells slots ls C X h h1 h2
  obtain ⟨j, hj⟩ := List.getElem?_of_mem (lp_mem hl)
  exact lv_iinc C.1 C.2.1 hd h.1 hj hv hn rfl (fun ls' hl' => kk p l e R s m args below meth c D dA pa A mc ms Z H locs cells slots ls' C X (h.set hn rfl hl') h1 h2)
theorem g_iadd {x y : Int32} (hd : decode mi.2.1 pc = .ok (.iadd, 1)) (kk : G mi own M0 Q dep k n M (pc + 1) L (.int (x + y) :: st)) : G mi own M0 Q dep k n M pc L (.int y :: .int x :: st) := g_go (fun hx hb _ _ _ w => lv_iadd hx hb hd w) kk
theorem g_isub {x y : Int32} (hd : decode mi.2.1 pc = .ok (.isub, 1)) (kk : G mi own M0 Q dep k n M (pc + 1) L (.int (x - y) :: st)) : G mi own M0 Q dep k n M pc L (.int y :: .int x :: st) := g_go (fun hx hb _ _ _ w => lv_isub hx hb hd w) kk
theorem g_imul {x y : Int32} (hd : decode mi.2.1 pc = .ok (.imul, 1)) (kk : G mi own M0 Q dep k n M (pc + 1) L (.int (x * y) :: st)) : G mi own M0 Q dep k n M pc L (.int y :: .int x :: st) := g_go (fun hx hb _ _ _ w => lv_imul hx hb hd w) kk
theorem g_ineg {x : Int32} (hd : decode mi.2.1 pc = .ok (.ineg, 1)) (kk : G mi own M0 Q dep k n M (pc + 1) L (.int (-x) :: st)) : G mi own M0 Q dep k n M pc L (.int x :: st) := g_go (fun hx hb _ _ _ w => lv_ineg hx hb hd (by first | exact w | simpa using w)) kk
theorem g_iand {x y : Int32} (hd : decode mi.2.1 pc = .ok (.iand, 1)) (kk : G mi own M0 Q dep k n M (pc + 1) L (.int (x &&& y) :: st)) : G mi own M0 Q dep k n M pc L (.int y :: .int x :: st) := g_go (fun hx hb _ _ _ w => lv_iand hx hb hd w) kk
theorem g_dupi {x : Int32} (hd : decode mi.2.1 pc = .ok (.dup, 1)) (kk : G mi own M0 Q dep k n M (pc + 1) L (.int x :: .int x :: st)) : G mi own M0 Q dep k n M pc L (.int x :: st) := g_go (fun hx hb _ _ _ w => lv_dup hx hb hd rfl w) kk
theorem g_dup {o : Option Nat} (hd : decode mi.2.1 pc = .ok (.dup, 1)) (kk : G mi own M0 Q dep k n M (pc + 1) L (va_rf o :: va_rf o :: st)) : G mi own M0 Q dep k n M pc L (va_rf o :: st) := g_go (fun hx hb _ _ _ w => lv_dup hx hb hd (cat_rf o) w) kk
theorem g_dup_x1 {v w : Value} (hd : decode mi.2.1 pc = .ok (.dup_x1, 1)) (hv : v.category = 1) (hw : w.category = 1) (kk : G mi own M0 Q dep k n M (pc + 1) L (v :: w :: v :: st)) : G mi own M0 Q dep k n M pc L (v :: w :: st) := g_go (fun hx hb _ _ _ w' => lv_dup_x1 hx hb hd hv hw w') kk
theorem g_dup_x2 {v w u : Value} (hd : decode mi.2.1 pc = .ok (.dup_x2, 1)) (hv : v.category = 1) (hw : w.category = 1) (hu : u.category = 1) (kk : G mi own M0 Q dep k n M (pc + 1) L (v :: w :: u :: v :: st)) : G mi own M0 Q dep k n M pc L (v :: w :: u :: st) := g_go (fun hx hb _ _ _ w' => lv_dup_x2 hx hb hd hv hw hu w') kk
theorem g_dup2 {v w : Value} (hd : decode mi.2.1 pc = .ok (.dup2, 1)) (hv : v.category = 1) (hw : w.category = 1) (kk : G mi own M0 Q dep k n M (pc + 1) L (v :: w :: v :: w :: st)) : G mi own M0 Q dep k n M pc L (v :: w :: st) := g_go (fun hx hb _ _ _ w' => lv_dup2_11 hx hb hd hv hw w') kk
theorem g_pop {v : Value} (hd : decode mi.2.1 pc = .ok (.pop, 1)) (hv : v.category = 1) (kk : G mi own M0 Q dep k n M (pc + 1) L st) : G mi own M0 Q dep k n M pc L (v :: st) := g_go (fun hx hb _ _ _ w' => lv_pop hx hb hd hv w') kk
theorem g_goto {off : Int} (tgt : Nat) (hd : decode mi.2.1 pc = .ok (.goto off, 3)) (ht : (pc : Int) + off = (tgt : Int)) (kk : G mi own M0 Q dep k n M tgt L st) : G mi own M0 Q dep k n M pc L st := g_go (fun hx hb _ _ _ w => lv_goto hx hb hd ht w) kk
/-- a step that goes one of two ways -/
theorem g_two {P P' : Prop} {pc1 pc2 : Nat} {st1 st2 : List Value} (h : ∀ {p : Program} {l : Launch} {e : Env} {R : Room} {s : State} {m : MethodId} {args : Array Value} {below : List Frame} {meth : Method} {c : Code} {Z : State → Prop} {H : Heap} {locs : List Loc} {cells slots : Nat} {ls : Array Slot}, p.tables.exec = Jvm.exec → c.code = mi.2.1 → (P → W p l e R s m args below meth c H locs cells slots Z (F0 m pc1 ls st1)) → (P' → W p l e R s m args below meth c H locs cells slots Z (F0 m pc2 ls st2)) → W p l e R s m args below meth c H locs cells slots Z (F0 m pc ls st)) (k1 : P → G mi own M0 Q dep k n M pc1 L st1) (k2 : P' → G mi own M0 Q dep k n M pc2 L st2) : G mi own M0 Q dep k n M pc L st := by
  intro p l e R s m args below meth c D dA pa A mc ms Z H locs cells slots ls C X hl h1 h2
  exact h C.1 C.2.1 (fun q => k1 q p l e R s m args below meth c D dA pa A mc ms Z H locs cells slots ls C X hl h1 h2) (fun q => k2 q p l e R s m args below meth c D dA pa A mc ms Z H locs cells slots ls C X hl h1 h2)
theorem g_if_eq {x : Int32} {off : Int} (tgt : Nat) (hd : decode mi.2.1 pc = .ok (.ifCond .eq off, 3)) (ht : (pc : Int) + off = (tgt : Int)) (k1 : x = 0 → G mi own M0 Q dep k n M tgt L st) (k2 : ¬ x = 0 → G mi own M0 Q dep k n M (pc + 3) L st) : G mi own M0 Q dep k n M pc L (.int x :: st) := g_two (fun hx hb w1 w2 => lv_if_eq hx hb hd ht w1 w2) k1 k2
theorem g_if_ne {x : Int32} {off : Int} (tgt : Nat) (hd : decode mi.2.1 pc = .ok (.ifCond .ne off, 3)) (ht : (pc : Int) + off = (tgt : Int)) (k1 : ¬ x = 0 → G mi own M0 Q dep k n M tgt L st) (k2 : x = 0 → G mi own M0 Q dep k n M (pc + 3) L st) : G mi own M0 Q dep k n M pc L (.int x :: st) := g_two (fun hx hb w1 w2 => lv_if_ne hx hb hd ht w1 w2) k1 k2
theorem g_if_lt {x : Int32} {off : Int} (tgt : Nat) (hd : decode mi.2.1 pc = .ok (.ifCond .lt off, 3)) (ht : (pc : Int) + off = (tgt : Int)) (k1 : x < 0 → G mi own M0 Q dep k n M tgt L st) (k2 : ¬ x < 0 → G mi own M0 Q dep k n M (pc + 3) L st) : G mi own M0 Q dep k n M pc L (.int x :: st) := g_two (fun hx hb w1 w2 => lv_if_lt hx hb hd ht w1 w2) k1 k2
theorem g_if_ge {x : Int32} {off : Int} (tgt : Nat) (hd : decode mi.2.1 pc = .ok (.ifCond .ge off, 3)) (ht : (pc : Int) + off = (tgt : Int)) (k1 : 0 ≤ x → G mi own M0 Q dep k n M tgt L st) (k2 : ¬ 0 ≤ x → G mi own M0 Q dep k n M (pc + 3) L st) : G mi own M0 Q dep k n M pc L (.int x :: st) := g_two (fun hx hb w1 w2 => lv_if_ge hx hb hd ht w1 w2) k1 k2
theorem g_if_gt {x : Int32} {off : Int} (tgt : Nat) (hd : decode mi.2.1 pc = .ok (.ifCond .gt off, 3)) (ht : (pc : Int) + off = (tgt : Int)) (k1 : 0 < x → G mi own M0 Q dep k n M tgt L st) (k2 : ¬ 0 < x → G mi own M0 Q dep k n M (pc + 3) L st) : G mi own M0 Q dep k n M pc L (.int x :: st) := g_two (fun hx hb w1 w2 => lv_if_gt hx hb hd ht w1 w2) k1 k2
theorem g_if_le {x : Int32} {off : Int} (tgt : Nat) (hd : decode mi.2.1 pc = .ok (.ifCond .le off, 3)) (ht : (pc : Int) + off = (tgt : Int)) (k1 : x ≤ 0 → G mi own M0 Q dep k n M tgt L st) (k2 : ¬ x ≤ 0 → G mi own M0 Q dep k n M (pc + 3) L st) : G mi own M0 Q dep k n M pc L (.int x :: st) := g_two (fun hx hb w1 w2 => lv_if_le hx hb hd ht w1 w2) k1 k2
theorem g_icmp_eq {x y : Int32} {off : Int} (tgt : Nat) (hd : decode mi.2.1 pc = .ok (.if_icmp .eq off, 3)) (ht : (pc : Int) + off = (tgt : Int)) (k1 : x = y → G mi own M0 Q dep k n M tgt L st) (k2 : ¬ x = y → G mi own M0 Q dep k n M (pc + 3) L st) : G mi own M0 Q dep k n M pc L (.int y :: .int x :: st) := g_two (fun hx hb w1 w2 => lv_icmp_eq hx hb hd ht w1 w2) k1 k2
theorem g_icmp_ne {x y : Int32} {off : Int} (tgt : Nat) (hd : decode mi.2.1 pc = .ok (.if_icmp .ne off, 3)) (ht : (pc : Int) + off = (tgt : Int)) (k1 : ¬ x = y → G mi own M0 Q dep k n M tgt L st) (k2 : x = y → G mi own M0 Q dep k n M (pc + 3) L st) : G mi own M0 Q dep k n M pc L (.int y :: .int x :: st) := g_two (fun hx hb w1 w2 => lv_icmp_ne hx hb hd ht w1 w2) k1 k2
theorem g_icmp_lt {x y : Int32} {off : Int} (tgt : Nat) (hd : decode mi.2.1 pc = .ok (.if_icmp .lt off, 3)) (ht : (pc : Int) + off = (tgt : Int)) (k1 : x < y → G mi own M0 Q dep k n M tgt L st) (k2 : ¬ x < y → G mi own M0 Q dep k n M (pc + 3) L st) : G mi own M0 Q dep k n M pc L (.int y :: .int x :: st) := g_two (fun hx hb w1 w2 => lv_icmp_lt hx hb hd ht w1 w2) k1 k2
theorem g_icmp_ge {x y : Int32} {off : Int} (tgt : Nat) (hd : decode mi.2.1 pc = .ok (.if_icmp .ge off, 3)) (ht : (pc : Int) + off = (tgt : Int)) (k1 : y ≤ x → G mi own M0 Q dep k n M tgt L st) (k2 : ¬ y ≤ x → G mi own M0 Q dep k n M (pc + 3) L st) : G mi own M0 Q dep k n M pc L (.int y :: .int x :: st) := g_two (fun hx hb w1 w2 => lv_icmp_ge hx hb hd ht w1 w2) k1 k2
theorem g_icmp_gt {x y : Int32} {off : Int} (tgt : Nat) (hd : decode mi.2.1 pc = .ok (.if_icmp .gt off, 3)) (ht : (pc : Int) + off = (tgt : Int)) (k1 : y < x → G mi own M0 Q dep k n M tgt L st) (k2 : ¬ y < x → G mi own M0 Q dep k n M (pc + 3) L st) : G mi own M0 Q dep k n M pc L (.int y :: .int x :: st) := g_two (fun hx hb w1 w2 => lv_icmp_gt hx hb hd ht w1 w2) k1 k2
theorem g_icmp_le {x y : Int32} {off : Int} (tgt : Nat) (hd : decode mi.2.1 pc = .ok (.if_icmp .le off, 3)) (ht : (pc : Int) + off = (tgt : Int)) (k1 : x ≤ y → G mi own M0 Q dep k n M tgt L st) (k2 : ¬ x ≤ y → G mi own M0 Q dep k n M (pc + 3) L st) : G mi own M0 Q dep k n M pc L (.int y :: .int x :: st) := g_two (fun hx hb w1 w2 => lv_icmp_le hx hb hd ht w1 w2) k1 k2
theorem g_acmp_eq {a b : Option Nat} {off : Int} (tgt : Nat) (hd : decode mi.2.1 pc = .ok (.if_acmp .eq off, 3)) (ht : (pc : Int) + off = (tgt : Int)) (k1 : a = b → G mi own M0 Q dep k n M tgt L st) (k2 : ¬ a = b → G mi own M0 Q dep k n M (pc + 3) L st) : G mi own M0 Q dep k n M pc L (va_rf b :: va_rf a :: st) := g_two (fun hx hb w1 w2 => lv_acmp_eq hx hb hd ht w1 w2) k1 k2
theorem g_acmp_ne {a b : Option Nat} {off : Int} (tgt : Nat) (hd : decode mi.2.1 pc = .ok (.if_acmp .ne off, 3)) (ht : (pc : Int) + off = (tgt : Int)) (k1 : ¬ a = b → G mi own M0 Q dep k n M tgt L st) (k2 : a = b → G mi own M0 Q dep k n M (pc + 3) L st) : G mi own M0 Q dep k n M pc L (va_rf b :: va_rf a :: st) := g_two (fun hx hb w1 w2 => lv_acmp_ne hx hb hd ht w1 w2) k1 k2
theorem g_ifnull {o : Option Nat} {off : Int} (tgt : Nat) (hd : decode mi.2.1 pc = .ok (.ifnull off, 3)) (ht : (pc : Int) + off = (tgt : Int)) (k1 : o = none → G mi own M0 Q dep k n M tgt L st) (k2 : ∀ a, o = some a → G mi own M0 Q dep k n M (pc + 3) L st) : G mi own M0 Q dep k n M pc L (va_rf o :: st) := by
  cases o with
  | none => exact g_go (fun hx hb _ _ _ w => lv_ifnullN hx hb hd ht w) (k1 rfl)
  | some a => exact g_go (fun hx hb _ _ _ w => lv_ifnull hx hb hd w) (k2 a rfl)
theorem g_ifnonnull {o : Option Nat} {off : Int} (tgt : Nat) (hd : decode mi.2.1 pc = .ok (.ifnonnull off, 3)) (ht : (pc : Int) + off = (tgt : Int)) (k1 : ∀ a, o = some a → G mi own M0 Q dep k n M tgt L st) (k2 : o = none → G mi own M0 Q dep k n M (pc + 3) L st) : G mi own M0 Q dep k n M pc L (va_rf o :: st) := by
  cases o with
  | none => exact g_go (fun hx hb _ _ _ w => lv_ifnonnullN hx hb hd w) (k2 rfl)
  | some a => exact g_go (fun hx hb _ _ _ w => lv_ifnonnull hx hb hd ht w) (k1 a rfl)
theorem g_tableOut {dflt lo hi : Int} {offs : Array Int} {len : Nat} {x : Int32} (tgt : Nat) (hd : decode mi.2.1 pc = .ok (.tableswitch dflt lo hi offs, len)) (h : x.toInt < lo ∨ hi < x.toInt) (ht : (pc : Int) + dflt = (tgt : Int)) (kk : G mi own M0 Q dep k n M tgt L st) : G mi own M0 Q dep k n M pc L (.int x :: st) := g_go (fun hx hb _ _ _ w => lv_tableOut hx hb hd h ht w) kk
theorem g_tableIn {dflt lo hi : Int} {offs : Array Int} {len : Nat} {x : Int32} {off : Int} (tgt : Nat) (hd : decode mi.2.1 pc = .ok (.tableswitch dflt lo hi offs, len)) (h1 : ¬ x.toInt < lo) (h2 : ¬ hi < x.toInt) (ho : offs[(x.toInt - lo).toNat]? = some off) (ht : (pc : Int) + off = (tgt : Int)) (kk : G mi own M0 Q dep k n M tgt L st) : G mi own M0 Q dep k n M pc L (.int x :: st) := g_go (fun hx hb _ _ _ w => lv_tableIn hx hb hd h1 h2 ho ht w) kk
theorem g_lookup {dflt : Int} {ps : Array (Int × Int)} {len : Nat} {x : Int32} {off : Int} (tgt : Nat) (hd : decode mi.2.1 pc = .ok (.lookupswitch dflt ps, len)) (hp : (ps.toList.zip (ps.toList.drop 1)).all (fun (a, next) => a.1 < next.1) = true) (ho : Op.lookupswitch.offset ps.toList dflt x.toInt = off) (ht : (pc : Int) + off = (tgt : Int)) (kk : G mi own M0 Q dep k n M tgt L st) : G mi own M0 Q dep k n M pc L (.int x :: st) := g_go (fun hx hb _ _ _ w => lv_lookup hx hb hd hp ho ht w) kk
theorem g_ret {r : Option Value} (hR : Rt mi r pc st) (hQ : Q r M) : G mi own M0 Q dep k n M pc L st := by
  intro p l e R s m args below meth c D dA pa A mc ms Z H locs cells slots ls C X hl h1 h2
  refine W.widen (k := mc) (n := ms) (by omega) (by omega) ?_
  exact C.2.2.2.2.2.2.2.2.2.2.2.2.2.2 r M H locs pc ls st X hQ hR
theorem g_ireturn {x : Int32} (hd : decode mi.2.1 pc = .ok (.ireturn, 1)) (ht : mi.2.2.2 = some .int) (hQ : Q (some (.int x)) M) : G mi own M0 Q dep k n M pc L [.int x] := g_ret (Or.inl ⟨x, .int, rfl, rfl, hd, ht, rfl⟩) hQ
theorem g_zreturn {x : Int32} (hd : decode mi.2.1 pc = .ok (.ireturn, 1)) (ht : mi.2.2.2 = some .boolean) (hx : x = 0 ∨ x = 1) (hQ : Q (some (.int x)) M) : G mi own M0 Q dep k n M pc L [.int x] := g_ret (Or.inl ⟨x, .boolean, rfl, rfl, hd, ht, by rcases hx with rfl | rfl <;> rfl⟩) hQ
theorem g_areturn {o : Option Nat} {C : String} (hd : decode mi.2.1 pc = .ok (.areturn, 1)) (ht : mi.2.2.2 = some (.object C)) (hQ : Q (some (va_rf o)) M) : G mi own M0 Q dep k n M pc L [va_rf o] := g_ret (Or.inr (Or.inl ⟨o, .object C, rfl, rfl, hd, ht, Or.inl ⟨C, rfl⟩⟩)) hQ
theorem g_return (hd : decode mi.2.1 pc = .ok (.return_, 1)) (ht : mi.2.2.2 = none) (hQ : Q none M) : G mi own M0 Q dep k n M pc L [] := g_ret (Or.inr (Or.inr ⟨rfl, rfl, hd, ht⟩)) hQ
/-- fewer cells may be asked -/
theorem g_less {k' n' : Nat} (hk : k' ≤ k) (hn : n' ≤ n) (kk : G mi own M0 Q dep k' n' M pc L st) : G mi own M0 Q dep k n M pc L st := by
  intro p l e R s m args below meth c D dA pa A mc ms Z H locs cells slots ls C X hl h1 h2
  exact kk p l e R s m args below meth c D dA pa A mc ms Z H locs cells slots ls C X hl (by omega) (by omega)
/-- places of the locals may be forgotten -/
theorem g_forget {L' : List (Option Value)} (hn : L'.length = L.length) (hL : ∀ (i : Nat) (v : Value), L'[i]? = some (some v) → L[i]? = some (some v)) (kk : G mi own M0 Q dep k n M pc L' st) : G mi own M0 Q dep k n M pc L st := by
  intro p l e R s m args below meth c D dA pa A mc ms Z H locs cells slots ls C X hl h1 h2
  exact kk p l e R s m args below meth c D dA pa A mc ms Z H locs cells slots ls C X ⟨⟨hl.1.1, hl.1.2.1, fun q hq => hl.at (hL _ _ (lp_of hq))⟩, by rw [hn]; exact hl.2.1, fun i v hv => hl.2.2 i v (hL i v hv)⟩ h1 h2
/-! fields -/
/-- pool number idx of class 'cls' is field kf of class number ci -/
def fl (cls : String) (idx ci kf : Nat) : Prop := ∃ r : vw_C, kCl[ci]? = some r ∧ kf < r.2.2 ∧ kAty ci = none ∧ Cond.fieldLink cls idx (r.2.1 kf).1 (r.2.1 kf).2.1 (r.2.1 kf).2.2.1 ∈ kTB
theorem mm_obj {D : va_G} {dA : Nat → ClassId} {H : Heap} {a ci τ N : Nat} (hR : Rp D dA M H) (hk : kd M a = some (ci, τ, N)) (ha : kAty ci = none) : ∃ r : vw_C, kCl[ci]? = some r ∧ r.2.2 = N ∧ t_OB a (D.1 ci) N (D.2 ci) H (sv M a ci) := by
  have h := hR a ci τ N hk
  unfold mm_at at h
  rw [ha] at h
  exact h
theorem g_getv {idx ci kf a τ N : Nat} {o : Option Nat} (hf : fl mi.1.cls idx ci kf) (hd : decode mi.2.1 pc = .ok (.getfield idx, 3)) (ho : o = some a) (hk : kd M a = some (ci, τ, N)) (kk : G mi own M0 Q dep k n M (pc + 3) L (sv M a ci kf :: st)) : G mi own M0 Q dep k n M pc L (va_rf o :: st) := by
  subst ho
  intro p l e R s m args below meth c D dA pa A mc ms Z H locs cells slots ls C X hl h1 h2
  obtain ⟨r, hc, hlt, hna, hw⟩ := hf
  obtain ⟨hx, hb, hml, hown, hts, -, hK, -⟩ := id C
  obtain ⟨r', hr', hN, cell, q1, q2, q3, q4⟩ := mm_obj X.1 hk hna
  cases hc.symm.trans hr'
  subst hN
  obtain ⟨hS, hfc, kC, hkC, hkind⟩ := hK.1 ci _ hc
  obtain ⟨cf, kf', fi, f, hi, hsl⟩ := hS kf hlt
  refine W.getf hx hb hown (hts _ hw) hi (u_facts hfc hkC (u_lays hts (kIn_ok ci r hc) hlt) hi).1 q1 (by rw [q3]; exact fun h => by cases h) (v := sv M a ci kf) ?_ rfl rfl hd (kk p l e R s m args below meth c D dA pa A mc ms Z H locs cells slots ls C X hl h1 h2)
  rw [hsl, q4 kf hlt]
theorem g_geti {idx ci kf a τ N : Nat} {o : Option Nat} (f : Nat) (hf : fl mi.1.cls idx ci kf) (ht : kInt (kTy ci kf) = true) (he : 64 * ci + kf = f) (hd : decode mi.2.1 pc = .ok (.getfield idx, 3)) (ho : o = some a) (hk : kd M a = some (ci, τ, N)) (kk : G mi own M0 Q dep k n M (pc + 3) L (.int (gi M a f) :: st)) : G mi own M0 Q dep k n M pc L (va_rf o :: st) := by
  refine g_getv hf hd ho hk ?_
  unfold sv
  rw [if_pos ht, he]
  exact kk
theorem g_getr {idx ci kf a τ N : Nat} {o : Option Nat} (f : Nat) (hf : fl mi.1.cls idx ci kf) (ht : kInt (kTy ci kf) = false) (he : 64 * ci + kf = f) (hd : decode mi.2.1 pc = .ok (.getfield idx, 3)) (ho : o = some a) (hk : kd M a = some (ci, τ, N)) (kk : G mi own M0 Q dep k n M (pc + 3) L (va_rf (gr M a f) :: st)) : G mi own M0 Q dep k n M pc L (va_rf o :: st) := by
  refine g_getv hf hd ho hk ?_
  unfold sv
  rw [if_neg (by rw [ht]; decide), he]
  exact kk
/-- the memory behind a store into one cell -/
theorem mm_put {D : va_G} {dA : Nat → ClassId} {A : Nat → Prop} {s : State} {H H' : Heap} {locs : List Loc} {M' : Mm} {a ci τ N j : Nat} (hA0 : ∀ q κ τ N : Nat, kd M0 q = some (κ, τ, N) → own κ τ = true → A q) (X : Mx own M0 M D dA A s H locs) (hk : kd M a = some (ci, τ, N)) (hw : own ci τ = true) (hkd : ∀ b, kd M' b = kd M b) (hgi : ∀ b f, b ≠ a → gi M' b f = gi M b f) (hgr : ∀ b f, b ≠ a → gr M' b f = gr M b f) (hFr : Fr own M0 M') (hat : mm_at D dA M' a ci N H') (hz : H'.size = H.size) (hq : ∀ q, q ≠ a → H'[q]? = H[q]?) : Mx own M0 M' D dA A s H' (locs ++ [⟨a, j⟩]) := by
  obtain ⟨x1, x2, x3, x4⟩ := X
  have hAa : A a := (x3 a ci τ N hk).elim (fun h => hA0 a ci τ N h hw) id
  refine ⟨fun b κ τ' N' hb => ?_, hFr, fun q κ τ' N' hq' => x3 q κ τ' N' (by rw [← hkd]; exact hq'), x4.put hz hq hAa⟩
  rw [hkd] at hb
  by_cases e : b = a
  · subst e
    rw [hk] at hb
    cases hb
    exact hat
  · exact ((x1 b κ τ' N' hb).kept (hq b e)).same (fun f => hgi b f e) (fun f => hgr b f e)
/-- a store into a field, final or not; M' is the memory behind it -/
theorem g_putv {idx ci kf a τ N : Nat} {o : Option Nat} {v : Value} (M' : Mm) (hf : fl mi.1.cls idx ci kf) (hfin : mi.1.name = "<init>" ∧ (∀ r : vw_C, kCl[ci]? = some r → (r.2.1 kf).1 = mi.1.cls) ∨ ∀ r : vw_C, kCl[ci]? = some r → (r.2.1 kf).2.2.2 = false) (hw : own ci τ = true) (hn : narrow (kTy ci kf) v = v) (hfit : fits (kTy ci kf) v = true)
    (hd : decode mi.2.1 pc = .ok (.putfield idx, 3)) (ho : o = some a) (hk : kd M a = some (ci, τ, N)) (hkd : ∀ b, kd M' b = kd M b) (hgi : ∀ b f, b ≠ a → gi M' b f = gi M b f) (hgr : ∀ b f, b ≠ a → gr M' b f = gr M b f) (hFr : Fr own M0 M → Fr own M0 M') (hsv : ∀ j, j < N → updV (sv M a ci) kf v j = sv M' a ci j)
    (kk : G mi own M0 Q dep k n M' (pc + 3) L st) : G mi own M0 Q dep k n M pc L (v :: va_rf o :: st) := by
  subst ho
  intro p l e R s m args below meth c D dA pa A mc ms Z H locs cells slots ls C X hl h1 h2
  obtain ⟨r, hc, hlt, hna, hwd⟩ := hf
  obtain ⟨hx, hb, hml, hown, hts, hnm, hK, -, hA0, -⟩ := id C
  obtain ⟨r', hr', hN, cell, q1, q2, q3, q4⟩ := mm_obj X.1 hk hna
  cases hc.symm.trans hr'
  subst hN
  have hap : ∀ x y, x < r.2.2 → y < r.2.2 → x ≠ y → (D.2 ci) x ≠ (D.2 ci) y := by
    intro x y hx' hy' hne
    obtain ⟨hS, -⟩ := hK.1 ci _ hc
    obtain ⟨_, _, _, fa, hia, ea⟩ := hS x hx'
    obtain ⟨_, _, _, fb, hib, eb⟩ := hS y hy'
    rw [← ea, ← eb]
    refine u_apart (u_lays hts (kIn_ok ci r hc) hx') (u_lays hts (kIn_ok ci r hc) hy') hia hib ?_
    rw [(State.fieldFound?_type hia (kTy_ok ci r hc x hx')).1, (State.fieldFound?_type hib (kTy_ok ci r hc y hy')).1]
    exact kNm_ok ci r hc x hx' y hy' hne
  obtain ⟨hS, hfc, kC, hkC, hkind⟩ := hK.1 ci _ hc
  obtain ⟨cf, kf', fi, f, hi, hsl⟩ := hS kf hlt
  have hlay := hts _ (kIn_ok ci r hc _ (u_in_lay hlt))
  have hst := (u_facts hfc hkC (u_lays hts (kIn_ok ci r hc) hlt) hi).1
  have fin : ∀ H' : Heap, H'[a]? = some (cell.setSlot f.slot v) → H'.size = H.size → (∀ q, q ≠ a → H'[q]? = H[q]?) → W p l e R s m args below meth c H' (locs ++ [⟨a, f.slot⟩]) cells slots Z (F0 m (pc + 3) ls st) := by
    intro H' e1 e2 e3
    rw [hsl] at e1
    have hat : mm_at D dA M' a ci r.2.2 H' := by
      unfold mm_at
      rw [hna]
      exact ⟨r, hc, rfl, t_OB.to (V := updV (sv M a ci) kf v) ⟨_, e1, q2, q3, t_set q4 hap hlt v⟩ hsv⟩
    exact kk p l e R s m args below meth c D dA pa A mc ms Z H' _ cells slots ls C (mm_put hA0 X hk hw hkd hgi hgr (hFr X.2.1) hat e2 e3) hl h1 h2
  unfold u_lay at hlay
  by_cases hF : (r.2.1 kf).2.2.2 = true
  · rw [if_pos hF] at hlay
    rcases hfin with ⟨hin2, hdecl⟩ | hnf
    · have hcf : m.cls = cf := by
        obtain ⟨_, _, c', _, _, _, -, -, hf', -, -, -, hown2, -⟩ := Cond.laysFinal_spec hlay
        have e1 : c' = cf := by have := hi.symm.trans hf'; simp at this; exact this.1.symm
        rw [hdecl r hc] at hown2
        rw [← e1]; exact Option.some.inj (hown.symm.trans hown2)
      have h6 := u_fits hfc hkC hkind (Or.inr hlay) hi (kTy_ok ci r hc kf hlt) hn hfit
      exact W.putFinK hx hb hown (hts _ hwd) hi hst hcf (hnm.trans hin2) (by rw [q2]; exact h6) q1 q3 (by rw [hsl]; exact k2_hasslot (q4 kf hlt)) rfl rfl hd fin
    · rw [hnf r hc] at hF; cases hF
  · rw [if_neg hF] at hlay
    have h6 := u_store hfc hkC hkind hlay hi (kTy_ok ci r hc kf hlt) hn hfit
    exact W.putK hx hb (f := f) ⟨hown, hts _ hwd, ⟨_, _, _, hi⟩, hst⟩ (by rw [q2]; exact h6) q1 q3 (by rw [hsl]; exact k2_hasslot (q4 kf hlt)) rfl rfl hd fin
theorem sv_si {a ci kf f : Nat} {x : Int32} (ht : kInt (kTy ci kf) = true) (he : 64 * ci + kf = f) (j : Nat) : updV (sv M a ci) kf (.int x) j = sv (si M a f x) a ci j := by
  unfold updV
  by_cases hj : j = kf
  · rw [if_pos hj]
    subst hj
    unfold sv
    rw [if_pos ht, he, gi_si_s]
  · rw [if_neg hj]
    unfold sv
    rw [gi_si_f (by omega), gr_si]
theorem sv_sr {a ci kf f : Nat} {x : Option Nat} (ht : kInt (kTy ci kf) = false) (he : 64 * ci + kf = f) (j : Nat) : updV (sv M a ci) kf (va_rf x) j = sv (sr M a f x) a ci j := by
  unfold updV
  by_cases hj : j = kf
  · rw [if_pos hj]
    subst hj
    unfold sv
    rw [if_neg (by rw [ht]; decide), he, gr_sr_s]
  · rw [if_neg hj]
    unfold sv
    rw [gr_sr_f (by omega), gi_sr]
/-- where a field may be written: it isn't final, or this is a constructor of its class -/
def fw (mi : MI) (ci kf : Nat) : Prop := mi.1.name = "<init>" ∧ (∀ r : vw_C, kCl[ci]? = some r → (r.2.1 kf).1 = mi.1.cls) ∨ ∀ r : vw_C, kCl[ci]? = some r → (r.2.1 kf).2.2.2 = false
theorem g_puti {idx ci kf a τ N : Nat} {o : Option Nat} {x : Int32} (f : Nat) (hf : fl mi.1.cls idx ci kf) (hfin : fw mi ci kf) (ht : kTy ci kf = .int) (he : 64 * ci + kf = f) (hd : decode mi.2.1 pc = .ok (.putfield idx, 3)) (ho : o = some a) (hk : kd M a = some (ci, τ, N)) (hw : own ci τ = true) (kk : G mi own M0 Q dep k n (si M a f x) (pc + 3) L st) : G mi own M0 Q dep k n M pc L (.int x :: va_rf o :: st) :=
  g_putv (si M a f x) hf hfin hw (by rw [ht]; rfl) (by rw [ht]; rfl) hd ho hk (fun _ => rfl) (fun b g hb => gi_si_a hb M f g x) (fun _ _ _ => rfl) (fun h => h.si hk hw f x) (fun j _ => sv_si (by rw [ht]; rfl) he j) kk
theorem g_putz {idx ci kf a τ N : Nat} {o : Option Nat} {x : Int32} (f : Nat) (hf : fl mi.1.cls idx ci kf) (hfin : fw mi ci kf) (ht : kTy ci kf = .boolean) (he : 64 * ci + kf = f) (hx : x = 0 ∨ x = 1) (hd : decode mi.2.1 pc = .ok (.putfield idx, 3)) (ho : o = some a) (hk : kd M a = some (ci, τ, N)) (hw : own ci τ = true) (kk : G mi own M0 Q dep k n (si M a f x) (pc + 3) L st) : G mi own M0 Q dep k n M pc L (.int x :: va_rf o :: st) :=
  g_putv (si M a f x) hf hfin hw (by rw [ht]; rcases hx with rfl | rfl <;> rfl) (by rw [ht]; rcases hx with rfl | rfl <;> rfl) hd ho hk (fun _ => rfl) (fun b g hb => gi_si_a hb M f g x) (fun _ _ _ => rfl) (fun h => h.si hk hw f x) (fun j _ => sv_si (by rw [ht]; rfl) he j) kk
def kRef (t : FieldType) : Bool := match t with
  | .object _ => true
  | .array _ => true
  | _ => false
theorem g_putr {idx ci kf a τ N : Nat} {o v : Option Nat} (f : Nat) (hf : fl mi.1.cls idx ci kf) (hfin : fw mi ci kf) (ht : kRef (kTy ci kf) = true) (he : 64 * ci + kf = f) (hd : decode mi.2.1 pc = .ok (.putfield idx, 3)) (ho : o = some a) (hk : kd M a = some (ci, τ, N)) (hw : own ci τ = true) (kk : G mi own M0 Q dep k n (sr M a f v) (pc + 3) L st) : G mi own M0 Q dep k n M pc L (va_rf v :: va_rf o :: st) := by
  have t0 : kInt (kTy ci kf) = false := by
    revert ht
    cases kTy ci kf <;> simp [kRef, kInt]
  refine g_putv (sr M a f v) hf hfin hw ?_ ?_ hd ho hk (fun _ => rfl) (fun _ _ _ => rfl) (fun b g hb => gr_sr_a hb M f g v) (fun h => h.sr hk hw f v) (fun j _ => sv_sr t0 he j) kk
  · revert ht
    cases kTy ci kf <;> cases v <;> simp [kRef, narrow, va_rf]
  · revert ht
    cases kTy ci kf <;> cases v <;> simp [kRef, fits, va_rf]
/-! arrays -/
theorem mm_arr {D : va_G} {dA : Nat → ClassId} {H : Heap} {a κ τ N : Nat} {t : FieldType} (hR : Rp D dA M H) (hk : kd M a = some (κ, τ, N)) (ha : kAty κ = some t) : H[a]? = some (arrV (dA κ) N (ev M a t)) := by
  have h := hR a κ τ N hk
  unfold mm_at at h
  rw [ha] at h
  exact h
theorem g_alen {a κ τ N : Nat} {o : Option Nat} {t : FieldType} (hd : decode mi.2.1 pc = .ok (.arraylength, 1)) (ho : o = some a) (hk : kd M a = some (κ, τ, N)) (ha : kAty κ = some t) (kk : G mi own M0 Q dep k n M (pc + 1) L (.int (nI N) :: st)) : G mi own M0 Q dep k n M pc L (va_rf o :: st) := by
  subst ho
  intro p l e R s m args below meth c D dA pa A mc ms Z H locs cells slots ls C X hl h1 h2
  obtain ⟨hx, hb, hml, hown, hts, hnm, hK, -⟩ := id C
  exact W.alen (n := nI N) hx hb (mm_arr X.1 hk ha) ((hK.2.1 κ t ha).1 N (ev M a t)) (by rw [arrV_size]; rfl) rfl rfl hd (kk p l e R s m args below meth c D dA pa A mc ms Z H locs cells slots ls C X hl h1 h2)
theorem nI_vp {j N : Nat} (hj : j < N) (hN : N < 2 ^ 31) (c : ClassId) (f : Nat → Value) : ¬ (nI j < 0 ∨ (arrV c N f).slots.size ≤ (nI j).toNatClampNeg) := by
  rw [arrV_size]; exact vp_in_nI hj hN
theorem g_iald {a κ τ N j : Nat} {o : Option Nat} {i : Int32} (hd : decode mi.2.1 pc = .ok (.iaload, 1)) (ho : o = some a) (hk : kd M a = some (κ, τ, N)) (ha : kAty κ = some .int) (hi : i = nI j) (hj : j < N) (hN : N < 2 ^ 31) (kk : G mi own M0 Q dep k n M (pc + 1) L (.int (gi M a (4096 + j)) :: st)) : G mi own M0 Q dep k n M pc L (.int i :: va_rf o :: st) := by
  subst ho; subst hi
  intro p l e R s m args below meth c D dA pa A mc ms Z H locs cells slots ls C X hl h1 h2
  obtain ⟨hx, hb, hml, hown, hts, hnm, hK, -⟩ := id C
  refine W.iald (v := .int (gi M a (4096 + j))) hx hb (mm_arr X.1 hk ha) ((hK.2.1 κ .int ha).1 N (ev M a .int)) (fun q => by cases q) (nI_vp hj hN _ _) ?_ rfl rfl hd (kk p l e R s m args below meth c D dA pa A mc ms Z H locs cells slots ls C X hl h1 h2)
  rw [nI_clamp (by omega), arrV_read _ _ hj]
  rfl
theorem g_aald {a κ τ N j : Nat} {o : Option Nat} {i : Int32} {C : String} (hd : decode mi.2.1 pc = .ok (.aaload, 1)) (ho : o = some a) (hk : kd M a = some (κ, τ, N)) (ha : kAty κ = some (.object C)) (hi : i = nI j) (hj : j < N) (hN : N < 2 ^ 31) (kk : G mi own M0 Q dep k n M (pc + 1) L (va_rf (gr M a (4096 + j)) :: st)) : G mi own M0 Q dep k n M pc L (.int i :: va_rf o :: st) := by
  subst ho; subst hi
  intro p l e R s m args below meth c D dA pa A mc ms Z H locs cells slots ls C' X hl h1 h2
  obtain ⟨hx, hb, hml, hown, hts, hnm, hK, -⟩ := id C'
  refine W.aald (v := va_rf (gr M a (4096 + j))) (ty := .object C) hx hb (mm_arr X.1 hk ha) ((hK.2.1 κ _ ha).1 N (ev M a (.object C))) rfl (fun q => by cases q) (nI_vp hj hN _ _) ?_ rfl rfl hd (kk p l e R s m args below meth c D dA pa A mc ms Z H locs cells slots ls C' X hl h1 h2)
  rw [nI_clamp (by omega), arrV_read _ _ hj]
  rfl
theorem ev_si {a j : Nat} {x : Int32} {t : FieldType} (ht : kInt t = true) : updV (ev M a t) j (.int x) = ev (si M a (4096 + j) x) a t := by
  funext q
  unfold updV ev
  by_cases hq : q = j
  · rw [if_pos hq, if_pos ht, hq, gi_si_s]
  · rw [if_neg hq, gi_si_f (by omega), gr_si]
theorem ev_sr {a j : Nat} {x : Option Nat} {t : FieldType} (ht : kInt t = false) : updV (ev M a t) j (va_rf x) = ev (sr M a (4096 + j) x) a t := by
  funext q
  unfold updV ev
  by_cases hq : q = j
  · rw [if_pos hq, if_neg (by rw [ht]; decide), hq, gr_sr_s]
  · rw [if_neg hq, gr_sr_f (by omega), gi_sr]
theorem g_iast {a κ τ N j : Nat} {o : Option Nat} {i x : Int32} (hd : decode mi.2.1 pc = .ok (.iastore, 1)) (ho : o = some a) (hk : kd M a = some (κ, τ, N)) (ha : kAty κ = some .int) (hw : own κ τ = true) (hi : i = nI j) (hj : j < N) (hN : N < 2 ^ 31) (kk : G mi own M0 Q dep k n (si M a (4096 + j) x) (pc + 1) L st) : G mi own M0 Q dep k n M pc L (.int x :: .int i :: va_rf o :: st) := by
  subst ho; subst hi
  intro p l e R s m args below meth c D dA pa A mc ms Z H locs cells slots ls C X hl h1 h2
  obtain ⟨hx, hb, hml, hown, hts, hnm, hK, -⟩ := id C
  refine W.iast hx hb (mm_arr X.1 hk ha) ((hK.2.1 κ .int ha).1 N (ev M a .int)) (fun q => by cases q) (nI_vp hj hN _ _) rfl rfl hd fun H1 e1 e2 e3 => ?_
  rw [nI_clamp (by omega), arrV_store, ev_si rfl] at e1
  have hat : mm_at D dA (si M a (4096 + j) x) a κ N H1 := by
    unfold mm_at
    rw [ha]
    exact e1
  exact kk p l e R s m args below meth c D dA pa A mc ms Z H1 _ cells slots ls C (mm_put C.2.2.2.2.2.2.2.2.1 X hk hw (fun _ => rfl) (fun b g hb => gi_si_a hb M _ g x) (fun _ _ _ => rfl) (X.2.1.si hk hw _ x) hat e2 e3) hl h1 h2
theorem g_aast {a κ τ N j ci τ' N' : Nat} {o v : Option Nat} {i : Int32} {C : String} (hd : decode mi.2.1 pc = .ok (.aastore, 1)) (ho : o = some a) (hk : kd M a = some (κ, τ, N)) (ha : kAty κ = some (.object C)) (hw : own κ τ = true) (hi : i = nI j) (hj : j < N) (hN : N < 2 ^ 31) (hv : ∀ b, v = some b → kd M b = some (ci, τ', N') ∧ kAty ci = none ∧ ∀ r : vw_C, kCl[ci]? = some r → r.1 = C) (kk : G mi own M0 Q dep k n (sr M a (4096 + j) v) (pc + 1) L st) : G mi own M0 Q dep k n M pc L (va_rf v :: .int i :: va_rf o :: st) := by
  subst ho; subst hi
  intro p l e R s m args below meth c D dA pa A mc ms Z H locs cells slots ls C' X hl h1 h2
  obtain ⟨hx, hb, hml, hown, hts, hnm, hK, -⟩ := id C'
  have fin : ∀ H1 : Heap, H1[a]? = some ((arrV (dA κ) N (ev M a (.object C))).setSlot (nI j).toNatClampNeg (va_rf v)) → H1.size = H.size → (∀ q, q ≠ a → H1[q]? = H[q]?) → W p l e R s m args below meth c H1 (locs ++ [⟨a, (nI j).toNatClampNeg⟩]) cells slots Z (F0 m (pc + 1) ls st) := by
    intro H1 e1 e2 e3
    have ec : (nI j).toNatClampNeg = j := nI_clamp (by omega)
    rw [ec, arrV_store, ev_sr rfl] at e1
    have hat : mm_at D dA (sr M a (4096 + j) v) a κ N H1 := by
      unfold mm_at
      rw [ha]
      exact e1
    exact kk p l e R s m args below meth c D dA pa A mc ms Z H1 _ cells slots ls C' (mm_put C'.2.2.2.2.2.2.2.2.1 X hk hw (fun _ => rfl) (fun _ _ _ => rfl) (fun b g hb => gr_sr_a hb M _ g v) (X.2.1.sr hk hw _ v) hat e2 e3) hl h1 h2
  cases v with
  | none => exact va_WaastN (C := C) hx hb (mm_arr X.1 hk ha) ((hK.2.1 κ _ ha).1 N (ev M a (.object C))) (fun q => by cases q) (nI_vp hj hN _ _) rfl rfl hd fin
  | some b =>
    obtain ⟨hkb, hnb, hCb⟩ := hv b rfl
    obtain ⟨r', hr', hN', cellV, g1, g2, g3, -⟩ := mm_obj X.1 hkb hnb
    have hcls := (hK.1 ci r' hr').2
    obtain ⟨kA, comp, k1, k2, k3, -⟩ := (hK.2.1 κ _ ha).2
    rw [hCb r' hr'] at hcls
    have hcomp : comp = D.1 ci := Option.some.inj (k3.symm.trans hcls.1)
    subst hcomp
    obtain ⟨kC, hkC, -⟩ := hcls.2
    have hin := nI_vp hj hN (dA κ) (ev M a (.object C))
    exact W.aast hx hb (mm_arr X.1 hk ha) (fun q h => by cases h) (fun h => by cases h) k1 k2 rfl hkC ⟨fun q => hin (Or.inl q), Nat.not_le.mp fun q => hin (Or.inr q)⟩ g1 (fun q h => by rw [g3] at h; cases h) (by rw [g2]; exact hkC) (by rw [g2]; exact va_assign hcls) rfl rfl hd fin
/-! making cells -/
/-- the memory behind a new cell -/
theorem mm_new {D : va_G} {dA : Nat → ClassId} {A : Nat → Prop} {s : State} {H H' : Heap} {locs : List Loc} {κ τ N : Nat} (X : Mx own M0 M D dA A s H locs) (hA : ∀ q : Nat, s.heap.size ≤ q → A q) (hat : mm_at D dA (nw M H.size κ τ N) H.size κ N H') (hz : H'.size = H.size + 1) (hq : ∀ q, q < H.size → H'[q]? = H[q]?) : Mx own M0 (nw M H.size κ τ N) D dA A s H' locs := by
  obtain ⟨x1, x2, x3, x4⟩ := X
  have hfr := x1.fresh
  refine ⟨fun b κ' τ' N' hb => ?_, x2.nw hfr κ τ N, fun q κ' τ' N' hq' => ?_, Nat.le_trans x4.1 (by omega), fun x h1 h2 => (hq x (Nat.lt_of_lt_of_le h1 x4.1)).trans (x4.2.1 x h1 h2), x4.2.2⟩
  · rw [kd_nw] at hb
    by_cases e : b = H.size
    · rw [if_pos e] at hb
      cases hb
      subst e
      exact hat
    · rw [if_neg e] at hb
      have h := x1 b κ' τ' N' hb
      refine (h.kept (hq b h.lt)).same (fun f => ?_) (fun f => ?_)
      · rw [gi_nw, if_neg e]
      · rw [gr_nw, if_neg e]
  · rw [kd_nw] at hq'
    by_cases e : q = H.size
    · rw [e]; exact Or.inr (hA _ x4.1)
    · rw [if_neg e] at hq'
      exact x3 q κ' τ' N' hq'
/-- pool number idx of class 'cls' is class number ci, of N fields, which can be made -/
def cl_ok (cls : String) (idx ci N : Nat) : Prop := ∃ r : vw_C, kCl[ci]? = some r ∧ r.2.2 = N ∧ kAty ci = none ∧ Cond.classLink cls idx r.1 ∈ kTB ∧ Cond.instantiable r.1 N ∈ kTB ∧ Cond.initialized r.1 ∈ kTB ∧ ∀ j, j < N → kInt (kTy ci j) = true ∨ kRef (kTy ci j) = true
theorem g_new {idx ci N k' n' : Nat} (τ : Nat) (hc : cl_ok mi.1.cls idx ci N) (hd : decode mi.2.1 pc = .ok (.new idx, 3)) (hk : k' + 1 ≤ k) (hn : n' + N ≤ n) (kk : ∀ q : Nat, kd M q = none → G mi own M0 Q dep k' n' (nw M q ci τ N) (pc + 3) L (va_rf (some q) :: st)) : G mi own M0 Q dep k n M pc L st := by
  intro p l e R s m args below meth c D dA pa A mc ms Z H locs cells slots ls C X hl h1 h2
  obtain ⟨r, hr, hN, hna, w1, w2, w3, hty⟩ := hc
  obtain ⟨hx, hb, hml, hown, hts, hnm, hK, hA, -, hmc, hms, -⟩ := id C
  have hKn := hK.1 ci _ hr
  refine W.newcK hx hb hown (hts _ w1) (hts _ w2) (hts _ w3) rfl hd (by omega) (by omega) hKn.2.1 rfl fun H1 kC hkC e1 z1 o1 => ?_
  have hat : mm_at D dA (nw M H.size ci τ N) H.size ci N H1 := by
    unfold mm_at
    rw [hna]
    subst hN
    refine ⟨r, hr, rfl, (u_born (kTy ci) hts (kIn_ok ci r hr) hKn hkC e1 (kTy_ok ci r hr)).to fun j hj => ?_⟩
    unfold sv
    rw [gi_nw, gr_nw, if_pos rfl, if_pos rfl]
    rcases hty j hj with h | h
    · rw [if_pos h]
      revert h
      cases kTy ci j <;> simp [kInt, defaultValue]
    · have h0 : ¬ kInt (kTy ci j) = true := by
        revert h
        cases kTy ci j <;> simp [kRef, kInt]
      rw [if_neg h0]
      revert h
      cases kTy ci j <;> simp [kRef, defaultValue, va_rf]
  exact kk H.size X.1.fresh p l e R s m args below meth c D dA pa A mc ms Z H1 locs (cells + 1) (slots + N) ls C (mm_new X hA hat z1 o1) hl (by omega) (by omega)
theorem g_newi {κ N k' n' : Nat} (τ : Nat) {i : Int32} (ha : kAty κ = some .int) (hw : Cond.arrayClass .int ∈ kTB) (hd : decode mi.2.1 pc = .ok (.newarray .int, 2)) (hi : i = nI N) (hN : N < 2 ^ 27) (hk : k' + 1 ≤ k) (hn : n' + N ≤ n) (kk : ∀ q : Nat, kd M q = none → G mi own M0 Q dep k' n' (nw M q κ τ N) (pc + 2) L (va_rf (some q) :: st)) : G mi own M0 Q dep k n M pc L (.int i :: st) := by
  subst hi
  intro p l e R s m args below meth c D dA pa A mc ms Z H locs cells slots ls C X hl h1 h2
  obtain ⟨hx, hb, hml, hown, hts, hnm, hK, hA, -, hmc, hms, -⟩ := id C
  refine va_newaK (atype := .int) (N := N) hx hb (hts _ hw) rfl hd rfl (nI_pos (by omega)) (nI_clamp (by omega)) (by show N * 4 ≤ _; omega) (by omega) (by omega) rfl fun H1 cA e1 z1 o1 hAr hNm => ?_
  have hat : mm_at D dA (nw M H.size κ τ N) H.size κ N H1 := by
    unfold mm_at
    rw [ha]
    have hc : cA = dA κ := Option.some.inj (hNm.symm.trans (hK.2.1 κ _ ha).2)
    have he : ev (nw M H.size κ τ N) H.size .int = (fun _ => defaultValue .int) := by
      funext j
      unfold ev
      rw [gi_nw, if_pos rfl]
      rfl
    show H1[H.size]? = some (arrV (dA κ) N (ev (nw M H.size κ τ N) H.size .int))
    rw [he, ← hc]
    exact e1
  exact kk H.size X.1.fresh p l e R s m args below meth c D dA pa A mc ms Z H1 locs (cells + 1) (slots + N) ls C (mm_new X hA hat z1 o1) hl (by omega) (by omega)
theorem g_newr {κ N idx k' n' : Nat} (τ : Nat) {i : Int32} {C : String} (ha : kAty κ = some (.object C)) (hw : Cond.classLink mi.1.cls idx C ∈ kTB) (hw2 : C ∈ kArr) (hd : decode mi.2.1 pc = .ok (.anewarray idx, 3)) (hi : i = nI N) (hN : N < 2 ^ 27) (hk : k' + 1 ≤ k) (hn : n' + N ≤ n) (kk : ∀ q : Nat, kd M q = none → G mi own M0 Q dep k' n' (nw M q κ τ N) (pc + 3) L (va_rf (some q) :: st)) : G mi own M0 Q dep k n M pc L (.int i :: st) := by
  subst hi
  intro p l e R s m args below meth c D dA pa A mc ms Z H locs cells slots ls C' X hl h1 h2
  obtain ⟨hx, hb, hml, hown, hts, hnm, hK, hA, -, hmc, hms, -⟩ := id C'
  have ec : (nI N).toNatClampNeg = N := nI_clamp (by omega)
  refine W.anew hx hb hown (hts _ hw) (va_AO.use (hK.2.2.2 C hw2)) rfl hd rfl (nI_pos (by omega)) (by rw [ec]; omega) (by omega) (by rw [ec]; omega) fun cA kA comp f1 f2 f3 f4 => ?_
  rw [ec]
  generalize hH1 : H.push ({ cls := cA, slots := Array.replicate N .null, vm := .none } : Cell) = H1
  have z1 : H1.size = H.size + 1 := by rw [← hH1, Array.size_push]
  have e1 : H1[H.size]? = some (arrV cA N (fun _ => .null)) := by rw [← hH1, Array.getElem?_push_size, ← arrV_new]
  have o1 : ∀ q : Nat, q < H.size → H1[q]? = H[q]? := fun q hq => by rw [← hH1, Array.getElem?_push, if_neg (Nat.ne_of_lt hq)]
  have hat : mm_at D dA (nw M H.size κ τ N) H.size κ N H1 := by
    unfold mm_at
    rw [ha]
    obtain ⟨kA', comp', -, -, -, g4⟩ := (hK.2.1 κ _ ha).2
    have hc : cA = dA κ := Option.some.inj (f1.symm.trans g4)
    have he : ev (nw M H.size κ τ N) H.size (.object C) = (fun _ => .null) := by
      funext j
      unfold ev
      rw [gr_nw, if_pos rfl]
      rfl
    show H1[H.size]? = some (arrV (dA κ) N (ev (nw M H.size κ τ N) H.size (.object C)))
    rw [he, ← hc]
    exact e1
  exact kk H.size X.1.fresh p l e R s m args below meth c D dA pa A mc ms Z H1 locs (cells + 1) (slots + N) ls C' (mm_new X hA hat z1 o1) hl (by omega) (by omega)
/-! calls -/
theorem cs_sum {rest : List Value} (hc : ∀ v ∈ rest, v.category = 1) : (rest.map fun v => v.category).sum = rest.length := by
  induction rest with
  | nil => rfl
  | cons v r ih =>
    rw [List.map_cons, List.sum_cons, hc v List.mem_cons_self, ih (fun w hw => hc w (List.mem_cons_of_mem _ hw)), List.length_cons]
    omega
/-- what a call behind pool number idx of class 'cls' needs of the tables, for any kind of call -/
def cw_ok (cls : String) (idx : Nat) (y : MI) (np : Nat) : Prop := Cond.methodLink cls idx y.1 ∈ kTB ∧ Cond.initialized y.1.cls ∈ kTB ∧ Cond.code y.1 y.2.1 y.2.2.1 y.2.2.2 ∈ kTB ∧ (y.1.cls ≠ "java/lang/invoke/MethodHandle" ∧ y.1.cls ≠ "java/lang/invoke/VarHandle" ∧ (parseMethodDescriptor y.1.desc).map (fun d => d.parameters.length) = some np) ∧ y.2.2.1 + 19 ≤ kLW
theorem kWs_good {y : MI} (hc : Cond.code y.1 y.2.1 y.2.2.1 y.2.2.2 ∈ kTB) : GoodIn kTB (kWs y) := by
  intro w hw
  rcases List.mem_cons.mp hw with rfl | h
  · exact ⟨hc, kGood _ hc⟩
  · exact ⟨h, kGood _ h⟩
theorem cw_B {R : Room} {s : State} {args : Array Value} {cls : String} {idx : Nat} {y : MI} {np dep' k' n' : Nat} (h : cw_ok cls idx y np) (hts : ∀ w ∈ kTB, w.before args s = true) (hf : dep' + 1 ≤ R.frames) (hlo : (dep' + 1) * kLW ≤ R.locals) : CallB R s args cls idx y.1 y.2.1 y.2.2.1 y.2.2.2 (kWs y) (kRm dep' k' n') k' n' np := by
  obtain ⟨w1, w2, w3, w4, w5⟩ := h
  refine callB_of np hts (kWs_good w3) rfl rfl rfl (hts _ w2) (hts _ w1) w4 ⟨hf, ?_⟩
  show 8 + (y.2.2.1 + 11) + dep' * kLW ≤ R.locals
  rw [Nat.add_mul] at hlo
  omega
/-- behind a call -/
theorem mm_call {own' : Nat → Nat → Bool} {k' n' : Nat} {Q' : Option Value → Mm → Prop} {D : va_G} {dA : Nat → ClassId} {A : Nat → Prop} {p : Program} {l : Launch} {e : Env} {R : Room} {s : State} {m : MethodId} {args : Array Value} {below : List Frame} {meth : Method} {c : Code} {Z : State → Prop} {H : Heap} {locs : List Loc} {cells slots : Nat} {g : JFrame} {rest : List Value}
    (hle : ∀ κ τ, own' κ τ = true → own κ τ = true) (X : Mx own M0 M D dA A s H locs)
    (hr : va_Run p l e R s m args below meth c H locs cells slots k' n' g rest (fun st oc t => (∃ (r : Option Value) (M' : Mm), oc = .returned r ∧ Q' r M' ∧ Fr own' M M' ∧ Rp D dA M' t.heap ∧ Kw D dA t ∧ ∀ q κ τ N : Nat, kd M' q = some (κ, τ, N) → kd M q = some (κ, τ, N) ∨ A q) ∧ va_F A st t) A)
    (kk : ∀ (r : Option Value) (M' : Mm) (H' : Heap) (locs' : List Loc), Q' r M' → Fr own' M M' → Mx own M0 M' D dA A s H' locs' → W p l e R s m args below meth c H' locs' (cells + k') (slots + n') Z { g with pc := g.pc + 3, stack := r.toList ++ rest }) : W p l e R s m args below meth c H locs cells slots Z g := by
  intro T hT Y
  obtain ⟨v, st₀, t, T', L', h0, Y', hL, e1, e2, ⟨⟨r, M', hv, hQ, hF, hRp, hKw, hAq⟩, hz, hk⟩, stp⟩ := hr T hT Y
  cases hv
  rw [h0] at hz hk
  obtain ⟨x1, x2, x3, x4⟩ := X
  have hX : Mx own M0 M' D dA A s T'.heap (locs ++ L') := by
    refine ⟨by rw [e1]; exact hRp, x2.trans (hF.mono hle), fun q κ τ N hq => (hAq q κ τ N hq).elim (fun h => x3 q κ τ N h) Or.inr, Nat.le_trans x4.1 (by rw [e1]; exact hz), fun q g1 g2 => ?_, fun q hq => ?_⟩
    · rw [e1, hk q (Nat.lt_of_lt_of_le g1 x4.1) g2]; exact x4.2.1 q g1 g2
    · rcases List.mem_append.mp hq with h | h
      · exact x4.2.2 q h
      · exact hL q h
  obtain ⟨t2, a1, b1⟩ := kk v M' T'.heap (locs ++ L') hQ hF hX T' rfl Y'
  exact ⟨t2, stp t2 a1, b1⟩
theorem zs_kept {pa : Pa} {A : Nat → Prop} {s : State} {H : Heap} {locs : List Loc} (h : Zs pa A s s.heap) (hS : va_S A s.heap H locs) : Zs pa A s H := by
  have kx : ∀ (b L : Nat) (xs : Nat → Int32), va_X b L xs s s.heap → ¬ A b → va_X b L xs s H := fun b L xs hX hA => by
    have hb : b < s.heap.size := by
      obtain ⟨scr, h1, -⟩ := hX
      exact (Array.getElem?_eq_some_iff.mp h1).1
    exact hX.kept (hS.2.1 b hb hA)
  obtain ⟨⟨cf, kf, fi, f, a, cell, h1, h2, h3, h4, h5, h6, h7, h8⟩, ⟨k1, k2⟩, k3, k4⟩ := h
  exact ⟨⟨cf, kf, fi, f, a, cell, h1, h2, h3, h4, by rw [hS.2.1 a (Array.getElem?_eq_some_iff.mp h5).1 h8]; exact h5, h6, h7, h8⟩, ⟨kx _ _ _ k1 k2, k2⟩, kx _ _ _ k3 k4, k4⟩
/-- what a caller must say of a callee's start -/
theorem mm_pre {D : va_G} {dA : Nat → ClassId} {pa : Pa} {A : Nat → Prop} {H : Heap} {s : State} {av : List Value} (hR : Rp D dA M H) (hK : Kw D dA s) (hZ : Zs pa A s H) : FrameBlind (va_Pc av (fun U => U.heap.size = H.size ∧ Rp D dA M U.heap ∧ Kw D dA U ∧ Zs pa A U U.heap)) ∧ ∀ U : State, U.heap = H → s.WarmedH U.vm → va_Pc av (fun U => U.heap.size = H.size ∧ Rp D dA M U.heap ∧ Kw D dA U ∧ Zs pa A U U.heap) av.toArray U := by
  refine ⟨fun a U g mk q => ?_, fun U hU hW => ⟨rfl, by rw [hU], by rw [hU]; exact hR, Kw.moved hW hK, by rw [hU]; exact Zs.moved hW.alike hZ⟩⟩
  obtain ⟨q0, q1, qR, qK, qZ⟩ := q
  exact ⟨q0, q1, qR, Kw.same (u := U) (U := U.calling g mk a) rfl qK, Zs.moved (u := U) (U := U.calling g mk a) (Vm.Alike.refl U.vm) qZ⟩
/-- invokevirtual of a method of the receiver's own class -/
theorem g_callV {idx ci τ N a np dep' k' n' k1 n1 : Nat} {y : MI} {own' : Nat → Nat → Bool} {o : Option Nat} {rest : List Value} {Q' : Option Value → Mm → Prop} (As : List Value) (hcw : cw_ok mi.1.cls idx y np) (hV : Cond.instanceMethod y.1 ∈ kTB ∧ Cond.selects y.1.cls y.1 y.1 ∈ kTB ∧ (∃ r : vw_C, kCl[ci]? = some r ∧ r.1 = y.1.cls) ∧ kAty ci = none) (hd : decode mi.2.1 pc = .ok (.invokevirtual idx, 3)) (ho : o = some a) (hk : kd M a = some (ci, τ, N)) (hA : As.length = np) (hst : st = As.reverse ++ va_rf o :: rest) (hrc : (∀ v ∈ rest, v.category = 1) ∧ rest.length ≤ 8)
    (hdep : dep' + 1 ≤ dep) (hk1 : k1 + k' ≤ k) (hn1 : n1 + n' ≤ n) (hle : ∀ κ τ, own' κ τ = true → own κ τ = true) (hr : Run y own' dep' k' n' (va_rf (some a) :: As) M Q') (kk : ∀ (r : Option Value) (M' : Mm), Q' r M' → Fr own' M M' → G mi own M0 Q dep k1 n1 M' (pc + 3) L (r.toList ++ rest)) : G mi own M0 Q dep k n M pc L st := by
  subst ho
  intro p l e R s m args below meth c D dA pa A mc ms Z H locs cells slots ls C X hl h1 h2
  obtain ⟨hx, hb, hml, hown, hts, hnm, hK, hAs, hA0, hmc, hms, hfr, hlo, hZ0, -⟩ := id C
  obtain ⟨v1, v2, ⟨r0, hr0, hrn⟩, hna⟩ := hV
  obtain ⟨r', hr', hN', cellB, g1, g2, g3, -⟩ := mm_obj X.1 hk hna
  cases hr0.symm.trans hr'
  have hM := hr l D dA pa A H.size (fun q hq => hAs q (Nat.le_trans X.2.2.2.1 hq)) (fun q κ τ' N' hq ho => (X.2.2.1 q κ τ' N' hq).elim (fun h => hA0 q κ τ' N' h (hle κ τ' ho)) id)
  have hp := mm_pre (av := va_rf (some a) :: As) X.1 hK (zs_kept hZ0.2.2 X.2.2.2)
  refine mm_call hle X (va_runV (C := y.1.cls) (As := As) (rest := rest) ⟨hx, hb, hml, hown, hts⟩ hM ⟨cw_B hcw hts (Nat.le_trans hdep hfr) (Nat.le_trans (Nat.mul_le_mul_right _ hdep) hlo), hts _ v1, hts _ v2⟩ ⟨hp.1, ⟨cellB, g1, by rw [g3]; rfl, by rw [← hrn, g2]; exact (hK.1 ci _ hr0).2.1⟩, hp.2⟩ rfl hA hl.1.1 hst (lv_room (by rw [cs_sum hrc.1]; exact hrc.2)) hd ⟨by omega, by omega⟩) fun r M' H' locs' hQ hF hX => ?_
  exact kk r M' hQ hF p l e R s m args below meth c D dA pa A mc ms Z H' locs' (cells + k') (slots + n') ls C hX hl (by omega) (by omega)
theorem g_callS {idx np dep' k' n' k1 n1 : Nat} {y : MI} {own' : Nat → Nat → Bool} {rest : List Value} {Q' : Option Value → Mm → Prop} (As : List Value) (hcw : cw_ok mi.1.cls idx y np) (hV : Cond.static y.1 ∈ kTB) (hd : decode mi.2.1 pc = .ok (.invokestatic idx, 3)) (hA : As.length = np) (hst : st = As.reverse ++ rest) (hrc : (∀ v ∈ rest, v.category = 1) ∧ rest.length ≤ 8)
    (hdep : dep' + 1 ≤ dep) (hk1 : k1 + k' ≤ k) (hn1 : n1 + n' ≤ n) (hle : ∀ κ τ, own' κ τ = true → own κ τ = true) (hr : Run y own' dep' k' n' As M Q') (kk : ∀ (r : Option Value) (M' : Mm), Q' r M' → Fr own' M M' → G mi own M0 Q dep k1 n1 M' (pc + 3) L (r.toList ++ rest)) : G mi own M0 Q dep k n M pc L st := by
  intro p l e R s m args below meth c D dA pa A mc ms Z H locs cells slots ls C X hl h1 h2
  obtain ⟨hx, hb, hml, hown, hts, hnm, hK, hAs, hA0, hmc, hms, hfr, hlo, hZ0, -⟩ := id C
  have hM := hr l D dA pa A H.size (fun q hq => hAs q (Nat.le_trans X.2.2.2.1 hq)) (fun q κ τ' N' hq ho => (X.2.2.1 q κ τ' N' hq).elim (fun h => hA0 q κ τ' N' h (hle κ τ' ho)) id)
  have hp := mm_pre (av := As) X.1 hK (zs_kept hZ0.2.2 X.2.2.2)
  refine mm_call hle X (va_runS (As := As) (rest := rest) ⟨hx, hb, hml, hown, hts⟩ hM ⟨cw_B hcw hts (Nat.le_trans hdep hfr) (Nat.le_trans (Nat.mul_le_mul_right _ hdep) hlo), hts _ hV⟩ hp rfl hA hl.1.1 hst (lv_room (by rw [cs_sum hrc.1]; exact hrc.2)) hd ⟨by omega, by omega⟩) fun r M' H' locs' hQ hF hX => ?_
  exact kk r M' hQ hF p l e R s m args below meth c D dA pa A mc ms Z H' locs' (cells + k') (slots + n') ls C hX hl (by omega) (by omega)
theorem g_callI {idx a np dep' k' n' k1 n1 : Nat} {y : MI} {own' : Nat → Nat → Bool} {o : Option Nat} {rest : List Value} {Q' : Option Value → Mm → Prop} (As : List Value) (hcw : cw_ok mi.1.cls idx y np) (hV : Cond.instanceMethod y.1 ∈ kTB ∧ y.1.name = "<init>" ∧ y.2.2.2 = none) (hd : decode mi.2.1 pc = .ok (.invokespecial idx, 3)) (ho : o = some a) (hA : As.length = np) (hst : st = As.reverse ++ va_rf o :: rest) (hrc : (∀ v ∈ rest, v.category = 1) ∧ rest.length ≤ 8)
    (hdep : dep' + 1 ≤ dep) (hk1 : k1 + k' ≤ k) (hn1 : n1 + n' ≤ n) (hle : ∀ κ τ, own' κ τ = true → own κ τ = true) (hr : Run y own' dep' k' n' (va_rf (some a) :: As) M Q') (kk : ∀ (r : Option Value) (M' : Mm), Q' r M' → Fr own' M M' → G mi own M0 Q dep k1 n1 M' (pc + 3) L (r.toList ++ rest)) : G mi own M0 Q dep k n M pc L st := by
  subst ho
  intro p l e R s m args below meth c D dA pa A mc ms Z H locs cells slots ls C X hl h1 h2
  obtain ⟨hx, hb, hml, hown, hts, hnm, hK, hAs, hA0, hmc, hms, hfr, hlo, hZ0, -⟩ := id C
  have hM := hr l D dA pa A H.size (fun q hq => hAs q (Nat.le_trans X.2.2.2.1 hq)) (fun q κ τ' N' hq ho => (X.2.2.1 q κ τ' N' hq).elim (fun h => hA0 q κ τ' N' h (hle κ τ' ho)) id)
  have hp := mm_pre (av := va_rf (some a) :: As) X.1 hK (zs_kept hZ0.2.2 X.2.2.2)
  have hcb := cw_B (R := R) (s := s) (args := args) (dep' := dep') (k' := k') (n' := n') hcw hts (Nat.le_trans hdep hfr) (Nat.le_trans (Nat.mul_le_mul_right _ hdep) hlo)
  rw [hV.2.2] at hcb
  refine mm_call hle X (va_runI (As := As) (rest := rest) ⟨hx, hb, hml, hown, hts⟩ hM ⟨hcb, hV.2.1, hts _ hV.1⟩ hp rfl hA hl.1.1 hst (lv_room (by rw [cs_sum hrc.1]; exact hrc.2)) hd ⟨by omega, by omega⟩) fun r M' H' locs' hQ hF hX => ?_
  exact kk r M' hQ hF p l e R s m args below meth c D dA pa A mc ms Z H' locs' (cells + k') (slots + n') ls C hX hl (by omega) (by omega)
/-- Object's constructor -/
theorem g_objInit {idx a : Nat} {o : Option Nat} (hw : Cond.methodLink mi.1.cls idx Lib.objectInit ∈ kTB ∧ Cond.instanceMethod Lib.objectInit ∈ kTB ∧ Cond.code Lib.objectInit ⟨#[0xb1]⟩ 1 none ∈ kTB) (hd : decode mi.2.1 pc = .ok (.invokespecial idx, 3)) (ho : o = some a) (hrc : (∀ v ∈ st, v.category = 1) ∧ st.length ≤ 8) (hdep : 1 ≤ dep) (kk : G mi own M0 Q dep k n M (pc + 3) L st) : G mi own M0 Q dep k n M pc L (va_rf o :: st) := by
  subst ho
  intro p l e R s m args below meth c D dA pa A mc ms Z H locs cells slots ls C X hl h1 h2
  obtain ⟨hx, hb, hml, hown, hts, hnm, hK, hAs, hA0, hmc, hms, hfr, hlo, hZ0, -⟩ := id C
  have hlw : kLW ≤ R.locals := by
    refine Nat.le_trans ?_ hlo
    calc kLW = 1 * kLW := (Nat.one_mul _).symm
      _ ≤ dep * kLW := Nat.mul_le_mul_right _ hdep
  have hr2 : 2 * (F0 m pc ls st).monitorRoom + (st.map fun v => v.category).sum ≤ 8 := lv_room (by rw [cs_sum hrc.1]; exact hrc.2)
  exact W.objInit hx hb hown (hts _ hw.1) (hts _ hw.2.1) (hts _ hw.2.2) rfl (by rw [hml]; exact hl.1.1) rfl hd (by omega) (by
    have : (37 : Nat) ≤ R.locals := hlw
    have h8 : 2 * (F0 m pc ls (va_rf (some a) :: st)).monitorRoom + (st.map fun v => v.category).sum ≤ 8 := hr2
    show 2 * (F0 m pc ls (va_rf (some a) :: st)).monitorRoom + (st.map fun v => v.category).sum + 12 ≤ R.locals
    omega) (kk p l e R s m args below meth c D dA pa A mc ms Z H locs cells slots ls C X hl h1 h2)
theorem g_ior {x y : Int32} (hd : decode mi.2.1 pc = .ok (.ior, 1)) (kk : G mi own M0 Q dep k n M (pc + 1) L (.int (x ||| y) :: st)) : G mi own M0 Q dep k n M pc L (.int y :: .int x :: st) := g_go (fun hx hb _ _ _ w => lv_ior hx hb hd w) kk
theorem g_zald {a κ τ N j : Nat} {o : Option Nat} {i : Int32} (hd : decode mi.2.1 pc = .ok (.baload, 1)) (ho : o = some a) (hk : kd M a = some (κ, τ, N)) (ha : kAty κ = some .boolean) (hi : i = nI j) (hj : j < N) (hN : N < 2 ^ 31) (kk : G mi own M0 Q dep k n M (pc + 1) L (.int (gi M a (4096 + j)) :: st)) : G mi own M0 Q dep k n M pc L (.int i :: va_rf o :: st) := by
  subst ho; subst hi
  intro p l e R s m args below meth c D dA pa A mc ms Z H locs cells slots ls C X hl h1 h2
  obtain ⟨hx, hb, hml, hown, hts, hnm, hK, -⟩ := id C
  refine W.zald (v := .int (gi M a (4096 + j))) hx hb (mm_arr X.1 hk ha) ((hK.2.1 κ .boolean ha).1 N (ev M a .boolean)) (fun q => by cases q) (nI_vp hj hN _ _) ?_ rfl rfl hd (kk p l e R s m args below meth c D dA pa A mc ms Z H locs cells slots ls C X hl h1 h2)
  rw [nI_clamp (by omega), arrV_read _ _ hj]
  rfl
theorem g_zast {a κ τ N j : Nat} {o : Option Nat} {i x : Int32} (hd : decode mi.2.1 pc = .ok (.bastore, 1)) (ho : o = some a) (hk : kd M a = some (κ, τ, N)) (ha : kAty κ = some .boolean) (hw : own κ τ = true) (hx01 : x = 0 ∨ x = 1) (hi : i = nI j) (hj : j < N) (hN : N < 2 ^ 31) (kk : G mi own M0 Q dep k n (si M a (4096 + j) x) (pc + 1) L st) : G mi own M0 Q dep k n M pc L (.int x :: .int i :: va_rf o :: st) := by
  subst ho; subst hi
  intro p l e R s m args below meth c D dA pa A mc ms Z H locs cells slots ls C X hl h1 h2
  obtain ⟨hx, hb, hml, hown, hts, hnm, hK, -⟩ := id C
  refine W.zast hx hb (mm_arr X.1 hk ha) ((hK.2.1 κ .boolean ha).1 N (ev M a .boolean)) (fun q => by cases q) (nI_vp hj hN _ _) rfl rfl hd fun H1 e1 e2 e3 => ?_
  have e9 : narrow .boolean (.int x) = .int x := by rcases hx01 with rfl | rfl <;> rfl
  rw [nI_clamp (by omega)] at e1
  first | rw [e9] at e1 | (simp only [vp_nar, e9] at e1) | skip
  rw [arrV_store, ev_si rfl] at e1
  have hat : mm_at D dA (si M a (4096 + j) x) a κ N H1 := by
    unfold mm_at
    rw [ha]
    exact e1
  exact kk p l e R s m args below meth c D dA pa A mc ms Z H1 _ cells slots ls C (mm_put C.2.2.2.2.2.2.2.2.1 X hk hw (fun _ => rfl) (fun b g hb => gi_si_a hb M _ g x) (fun _ _ _ => rfl) (X.2.1.si hk hw _ x) hat e2 e3) hl h1 h2
theorem g_newz {κ N k' n' : Nat} (τ : Nat) {i : Int32} (ha : kAty κ = some .boolean) (hw : Cond.arrayClass .boolean ∈ kTB) (hd : decode mi.2.1 pc = .ok (.newarray .boolean, 2)) (hi : i = nI N) (hN : N < 2 ^ 27) (hk : k' + 1 ≤ k) (hn : n' + N ≤ n) (kk : ∀ q : Nat, kd M q = none → G mi own M0 Q dep k' n' (nw M q κ τ N) (pc + 2) L (va_rf (some q) :: st)) : G mi own M0 Q dep k n M pc L (.int i :: st) := by
  subst hi
  intro p l e R s m args below meth c D dA pa A mc ms Z H locs cells slots ls C X hl h1 h2
  obtain ⟨hx, hb, hml, hown, hts, hnm, hK, hA, -, hmc, hms, -⟩ := id C
  refine va_newaK (atype := .boolean) (N := N) hx hb (hts _ hw) rfl hd rfl (nI_pos (by omega)) (nI_clamp (by omega)) (by show N * 1 ≤ _; omega) (by omega) (by omega) rfl fun H1 cA e1 z1 o1 hAr hNm => ?_
  have hat : mm_at D dA (nw M H.size κ τ N) H.size κ N H1 := by
    unfold mm_at
    rw [ha]
    have hc : cA = dA κ := Option.some.inj (hNm.symm.trans (hK.2.1 κ _ ha).2)
    have he : ev (nw M H.size κ τ N) H.size .boolean = (fun _ => defaultValue .boolean) := by
      funext j
      unfold ev
      rw [gi_nw, if_pos rfl]
      rfl
    show H1[H.size]? = some (arrV (dA κ) N (ev (nw M H.size κ τ N) H.size .boolean))
    rw [he, ← hc]
    exact e1
  exact kk H.size X.1.fresh p l e R s m args below meth c D dA pa A mc ms Z H1 locs (cells + 1) (slots + N) ls C (mm_new X hA hat z1 o1) hl (by omega) (by omega)
/-- the class's static table -/
theorem g_partsLen {idx : Nat} (hw : Cond.fieldLink mi.1.cls idx "FiberDesk" "PARTS" "[I" ∈ kTB) (hd : decode mi.2.1 pc = .ok (.getstatic idx, 3)) (hd2 : decode mi.2.1 (pc + 3) = .ok (.arraylength, 1)) (kk : G mi own M0 Q dep k n M (pc + 3 + 1) L (.int (nI 26) :: st)) : G mi own M0 Q dep k n M pc L st := by
  intro p l e R s m args below meth c D dA pa A mc ms Z H locs cells slots ls C X hl h1 h2
  obtain ⟨hx, hb, hml, hown, hts, hnm, hK, hAs, hA0, hmc, hms, hfr, hlo, hZ0, -⟩ := id C
  obtain ⟨z1, ⟨z2, z3⟩, -, -⟩ := hZ0.2.2
  have hlt : pa.1 < s.heap.size := by
    obtain ⟨scr, q1, -⟩ := z2
    exact (Array.getElem?_eq_some_iff.mp q1).1
  exact va_gets hx hb z1 X.2.2.2 hown (hts _ hw) (fun _ h => h) hd (va_slen hx hb z2 hlt z3 X.2.2.2 hd2 (kk p l e R s m args below meth c D dA pa A mc ms Z H locs cells slots ls C X hl h1 h2))
theorem g_partsAt {idx j : Nat} {i : Fin 4} {x v : Int32} (hw : Cond.fieldLink mi.1.cls idx "FiberDesk" "PARTS" "[I" ∈ kTB) (hd : decode mi.2.1 pc = .ok (.getstatic idx, 3)) (hd2 : decode mi.2.1 (pc + 3) = .ok (.iload_n i, 1)) (hl0 : L[i.val]? = some (some (.int x))) (hd3 : decode mi.2.1 (pc + 3 + 1) = .ok (.iaload, 1)) (hx0 : x = nI j) (hj : j < 26) (hv : kParts.getD j 0 = v) (kk : G mi own M0 Q dep k n M (pc + 3 + 1 + 1) L (.int v :: st)) : G mi own M0 Q dep k n M pc L st := by
  intro p l e R s m args below meth c D dA pa A mc ms Z H locs cells slots ls C X hl h1 h2
  obtain ⟨hx, hb, hml, hown, hts, hnm, hK, hAs, hA0, hmc, hms, hfr, hlo, hZ0, -⟩ := id C
  obtain ⟨z1, ⟨z2, z3⟩, -, -⟩ := hZ0.2.2
  have hlt : pa.1 < s.heap.size := by
    obtain ⟨scr, q1, -⟩ := z2
    exact (Array.getElem?_eq_some_iff.mp q1).1
  subst hx0
  refine va_gets hx hb z1 X.2.2.2 hown (hts _ hw) (fun _ h => h) hd ?_
  refine lv_iload_n hx hb hd2 rfl (hl.at hl0) ?_
  refine va_sld hx hb z2 hlt z3 X.2.2.2 (vp_in_nI hj (by decide)) hd3 ?_
  rw [nI_clamp (by omega), hv]
  exact kk p l e R s m args below meth c D dA pa A mc ms Z H locs cells slots ls C X hl h1 h2
/-- the script, read in the law -/
theorem g_scrLen {b N : Nat} (hc : mi.1.cls = "FiberDeskLaw") (h0 : gr M0 0 0 = some b) (h1' : gr M0 0 1 = some N) (hd : decode mi.2.1 pc = .ok (.arraylength, 1)) (kk : G mi own M0 Q dep k n M (pc + 1) L (.int (nI N) :: st)) : G mi own M0 Q dep k n M pc L (va_rf (some b) :: st) := by
  intro p l e R s m args below meth c D dA pa A mc ms Z H locs cells slots ls C X hl h1 h2
  obtain ⟨hx, hb, hml, hown, hts, hnm, hK, hAs, hA0, hmc, hms, hfr, hlo, hZ0, -⟩ := id C
  obtain ⟨-, -, z2, z3⟩ := hZ0.2.2
  obtain ⟨e1, e2, -⟩ := hZ0.1 hc
  have eb : pa.2.1 = b := Option.some.inj (e1.symm.trans h0)
  have eN : pa.2.2.1 = N := Option.some.inj (e2.symm.trans h1')
  rw [eb, eN] at z2
  rw [eb] at z3
  have hlt : b < s.heap.size := by
    obtain ⟨scr, q1, -⟩ := z2
    exact (Array.getElem?_eq_some_iff.mp q1).1
  exact va_slen hx hb z2 hlt z3 X.2.2.2 hd (kk p l e R s m args below meth c D dA pa A mc ms Z H locs cells slots ls C X hl h1 h2)
theorem g_scrAt {b N j : Nat} {x v : Int32} (hc : mi.1.cls = "FiberDeskLaw") (h0 : gr M0 0 0 = some b) (h1' : gr M0 0 1 = some N) (hv : gi M0 0 (4096 + j) = v) (hd : decode mi.2.1 pc = .ok (.iaload, 1)) (hx0 : x = nI j) (hj : j < N) (hN : N < 2 ^ 31) (kk : G mi own M0 Q dep k n M (pc + 1) L (.int v :: st)) : G mi own M0 Q dep k n M pc L (.int x :: va_rf (some b) :: st) := by
  intro p l e R s m args below meth c D dA pa A mc ms Z H locs cells slots ls C X hl h1 h2
  obtain ⟨hx, hb, hml, hown, hts, hnm, hK, hAs, hA0, hmc, hms, hfr, hlo, hZ0, -⟩ := id C
  obtain ⟨-, -, z2, z3⟩ := hZ0.2.2
  obtain ⟨e1, e2, e3⟩ := hZ0.1 hc
  have eb : pa.2.1 = b := Option.some.inj (e1.symm.trans h0)
  have eN : pa.2.2.1 = N := Option.some.inj (e2.symm.trans h1')
  rw [eb, eN] at z2
  rw [eb] at z3
  have hlt : b < s.heap.size := by
    obtain ⟨scr, q1, -⟩ := z2
    exact (Array.getElem?_eq_some_iff.mp q1).1
  subst hx0
  refine va_sld hx hb z2 hlt z3 X.2.2.2 (vp_in_nI hj hN) hd ?_
  rw [nI_clamp (by omega), ← e3 j, hv]
  exact kk p l e R s m args below meth c D dA pa A mc ms Z H locs cells slots ls C X hl h1 h2
/-- what a call of a nest mate's private member needs -/
def cn_ok (cls : String) (idx : Nat) (y : MI) (np : Nat) : Prop := (cls, idx, y.1) ∈ kNest ∧ Cond.initialized y.1.cls ∈ kTB ∧ Cond.code y.1 y.2.1 y.2.2.1 y.2.2.2 ∈ kTB ∧ (y.1.cls ≠ "java/lang/invoke/MethodHandle" ∧ y.1.cls ≠ "java/lang/invoke/VarHandle" ∧ (parseMethodDescriptor y.1.desc).map (fun d => d.parameters.length) = some np) ∧ y.2.2.1 + 19 ≤ kLW
theorem cn_B {D : va_G} {dA : Nat → ClassId} {R : Room} {s : State} {args : Array Value} {cls : String} {idx : Nat} {y : MI} {np dep' k' n' : Nat} (h : cn_ok cls idx y np) (hK : Kw D dA s) (hts : ∀ w ∈ kTB, w.before args s = true) (hf : dep' + 1 ≤ R.frames) (hlo : (dep' + 1) * kLW ≤ R.locals) : va_CN R s args cls idx y.1 "FiberDesk" y.2.1 y.2.2.1 y.2.2.2 (kWs y) (kRm dep' k' n') k' n' np := by
  obtain ⟨w1, w2, w3, w4, w5⟩ := h
  refine va_cnB np hts (kWs_good w3) rfl rfl rfl (hK.2.2.1 _ w1) (hts _ w2) w4 ⟨hf, ?_⟩
  show 8 + (y.2.2.1 + 11) + dep' * kLW ≤ R.locals
  rw [Nat.add_mul] at hlo
  omega
theorem g_callIN {idx a np dep' k' n' k1 n1 : Nat} {y : MI} {own' : Nat → Nat → Bool} {o : Option Nat} {rest : List Value} {Q' : Option Value → Mm → Prop} (As : List Value) (hcw : cn_ok mi.1.cls idx y np) (hV : Cond.instanceMethod y.1 ∈ kTB ∧ y.1.name = "<init>" ∧ y.2.2.2 = none) (hd : decode mi.2.1 pc = .ok (.invokespecial idx, 3)) (ho : o = some a) (hA : As.length = np) (hst : st = As.reverse ++ va_rf o :: rest) (hrc : (∀ v ∈ rest, v.category = 1) ∧ rest.length ≤ 8)
    (hdep : dep' + 1 ≤ dep) (hk1 : k1 + k' ≤ k) (hn1 : n1 + n' ≤ n) (hle : ∀ κ τ, own' κ τ = true → own κ τ = true) (hr : Run y own' dep' k' n' (va_rf (some a) :: As) M Q') (kk : ∀ (r : Option Value) (M' : Mm), Q' r M' → Fr own' M M' → G mi own M0 Q dep k1 n1 M' (pc + 3) L (r.toList ++ rest)) : G mi own M0 Q dep k n M pc L st := by
  subst ho
  intro p l e R s m args below meth c D dA pa A mc ms Z H locs cells slots ls C X hl h1 h2
  obtain ⟨hx, hb, hml, hown, hts, hnm, hK, hAs, hA0, hmc, hms, hfr, hlo, hZ0, -⟩ := id C
  have hM := hr l D dA pa A H.size (fun q hq => hAs q (Nat.le_trans X.2.2.2.1 hq)) (fun q κ τ' N' hq ho => (X.2.2.1 q κ τ' N' hq).elim (fun h => hA0 q κ τ' N' h (hle κ τ' ho)) id)
  have hp := mm_pre (av := va_rf (some a) :: As) X.1 hK (zs_kept hZ0.2.2 X.2.2.2)
  have hcb := cn_B (R := R) (s := s) (args := args) (dep' := dep') (k' := k') (n' := n') hcw hK hts (Nat.le_trans hdep hfr) (Nat.le_trans (Nat.mul_le_mul_right _ hdep) hlo)
  rw [hV.2.2] at hcb
  refine mm_call hle X (va_runIN (As := As) (rest := rest) ⟨hx, hb, hml, hown, hts⟩ hM ⟨hcb, hV.2.1, hts _ hV.1⟩ hp rfl hA hl.1.1 hst (lv_room (by rw [cs_sum hrc.1]; exact hrc.2)) hd ⟨by omega, by omega⟩) fun r M' H' locs' hQ hF hX => ?_
  exact kk r M' hQ hF p l e R s m args below meth c D dA pa A mc ms Z H' locs' (cells + k') (slots + n') ls C hX hl (by omega) (by omega)
theorem g_callSN {idx np dep' k' n' k1 n1 : Nat} {y : MI} {own' : Nat → Nat → Bool} {rest : List Value} {Q' : Option Value → Mm → Prop} (As : List Value) (hcw : cn_ok mi.1.cls idx y np) (hV : Cond.static y.1 ∈ kTB) (hd : decode mi.2.1 pc = .ok (.invokestatic idx, 3)) (hA : As.length = np) (hst : st = As.reverse ++ rest) (hrc : (∀ v ∈ rest, v.category = 1) ∧ rest.length ≤ 8)
    (hdep : dep' + 1 ≤ dep) (hk1 : k1 + k' ≤ k) (hn1 : n1 + n' ≤ n) (hle : ∀ κ τ, own' κ τ = true → own κ τ = true) (hr : Run y own' dep' k' n' As M Q') (kk : ∀ (r : Option Value) (M' : Mm), Q' r M' → Fr own' M M' → G mi own M0 Q dep k1 n1 M' (pc + 3) L (r.toList ++ rest)) : G mi own M0 Q dep k n M pc L st := by
  intro p l e R s m args below meth c D dA pa A mc ms Z H locs cells slots ls C X hl h1 h2
  obtain ⟨hx, hb, hml, hown, hts, hnm, hK, hAs, hA0, hmc, hms, hfr, hlo, hZ0, -⟩ := id C
  have hM := hr l D dA pa A H.size (fun q hq => hAs q (Nat.le_trans X.2.2.2.1 hq)) (fun q κ τ' N' hq ho => (X.2.2.1 q κ τ' N' hq).elim (fun h => hA0 q κ τ' N' h (hle κ τ' ho)) id)
  have hp := mm_pre (av := As) X.1 hK (zs_kept hZ0.2.2 X.2.2.2)
  have hcb := cn_B (R := R) (s := s) (args := args) (dep' := dep') (k' := k') (n' := n') hcw hK hts (Nat.le_trans hdep hfr) (Nat.le_trans (Nat.mul_le_mul_right _ hdep) hlo)
  refine mm_call hle X (va_runSN (As := As) (rest := rest) ⟨hx, hb, hml, hown, hts⟩ hM ⟨hcb, hts _ hV, trivial⟩ hp rfl hA hl.1.1 hst (lv_room (by rw [cs_sum hrc.1]; exact hrc.2)) hd ⟨by omega, by omega⟩) fun r M' H' locs' hQ hF hX => ?_
  exact kk r M' hQ hF p l e R s m args below meth c D dA pa A mc ms Z H' locs' (cells + k') (slots + n') ls C hX hl (by omega) (by omega)
theorem g_min {idx : Nat} {x y : Int32} (hw : Cond.methodLink mi.1.cls idx Lib.Math.min.name ∈ kTB ∧ Cond.static Lib.Math.min.name ∈ kTB ∧ Cond.initialized "java/lang/Math" ∈ kTB ∧ Cond.code Lib.Math.min.name Lib.Math.min.code 2 (some .int) ∈ kTB) (hd : decode mi.2.1 pc = .ok (.invokestatic idx, 3)) (hrc : (∀ v ∈ st, v.category = 1) ∧ st.length ≤ 8) (hdep : 1 ≤ dep) (kk : G mi own M0 Q dep k n M (pc + 3) L (.int (if y < x then y else x) :: st)) : G mi own M0 Q dep k n M pc L (.int y :: .int x :: st) := by
  intro p l e R s m args below meth c D dA pa A mc ms Z H locs cells slots ls C X hl h1 h2
  obtain ⟨hx, hb, hml, hown, hts, hnm, hK, hAs, hA0, hmc, hms, hfr, hlo, hZ0, -⟩ := id C
  have hlw : kLW ≤ R.locals := by
    refine Nat.le_trans ?_ hlo
    calc kLW = 1 * kLW := (Nat.one_mul _).symm
      _ ≤ dep * kLW := Nat.mul_le_mul_right _ hdep
  have : (37 : Nat) ≤ R.locals := hlw
  exact va_mmin hx hb (by rw [hml]; exact hl.1.1.symm) hown (hts _ hw.1) (hts _ hw.2.1) (hts _ hw.2.2.1) (hts _ hw.2.2.2) (by omega) (by rw [cs_sum hrc.1]; omega) (by omega) (by omega) hd (kk p l e R s m args below meth c D dA pa A mc ms Z H locs cells slots ls C X hl h1 h2)
/-- the memory behind a copy of ln ints of array a0 from sp on to array a from dp on -/
def cpM (M : Mm) (a0 a sp dp ln : Nat) : Mm := (M.1, fun b g => if b = a ∧ 4096 + dp ≤ g ∧ g < 4096 + dp + ln then M.2.1 a0 (g - dp + sp) else M.2.1 b g, M.2.2)
theorem gi_cpM (M : Mm) (a0 a sp dp ln b g : Nat) : gi (cpM M a0 a sp dp ln) b g = if b = a ∧ 4096 + dp ≤ g ∧ g < 4096 + dp + ln then gi M a0 (g - dp + sp) else gi M b g := rfl
theorem g_copy {idx a0 a κ0 κ1 τ0 τ1 N0 N1 sp dp ln : Nat} {o0 o1 : Option Nat} {x y z : Int32} (hw : Cond.methodLink mi.1.cls idx arraycopyName ∈ kTB ∧ Cond.native arraycopyName ∈ kTB ∧ Cond.static arraycopyName ∈ kTB ∧ Cond.initialized "java/lang/System" ∈ kTB) (hd : decode mi.2.1 pc = .ok (.invokestatic idx, 3)) (ho0 : o0 = some a0) (ho1 : o1 = some a) (hk0 : kd M a0 = some (κ0, τ0, N0)) (hk1 : kd M a = some (κ1, τ1, N1)) (ha0 : kAty κ0 = some .int) (ha1 : kAty κ1 = some .int) (hown1 : own κ1 τ1 = true)
    (hx0 : x = nI sp) (hy0 : y = nI dp) (hz0 : z = nI ln) (h4 : sp + ln ≤ N0) (h5 : dp + ln ≤ N1) (hN0 : N0 < 2 ^ 31) (hN1 : N1 < 2 ^ 31) (hrc : (∀ v ∈ st, v.category = 1) ∧ st.length ≤ 8) (hdep : 1 ≤ dep) (kk : G mi own M0 Q dep k n (cpM M a0 a sp dp ln) (pc + 3) L st) : G mi own M0 Q dep k n M pc L (.int z :: .int y :: va_rf o1 :: .int x :: va_rf o0 :: st) := by
  subst ho0; subst ho1; subst hx0; subst hy0; subst hz0
  intro p l e R s m args below meth c D dA pa A mc ms Z H locs cells slots ls C X hl h1 h2
  obtain ⟨hx, hb, hml, hown, hts, hnm, hK, hAs, hA0, hmc, hms, hfr, hlo, hZ0, -⟩ := id C
  have hlw : (37 : Nat) ≤ R.locals := by
    refine Nat.le_trans ?_ hlo
    calc (37 : Nat) = 1 * kLW := rfl
      _ ≤ dep * kLW := Nat.mul_le_mul_right _ hdep
  have cs : (nI sp).toNatClampNeg = sp := nI_clamp (by omega)
  have cd : (nI dp).toNatClampNeg = dp := nI_clamp (by omega)
  have cl : (nI ln).toNatClampNeg = ln := nI_clamp (by omega)
  have hc0 := mm_arr X.1 hk0 ha0
  have hc1 := mm_arr X.1 hk1 ha1
  obtain ⟨-, k0, hkk0, cm0, hkn0⟩ := (hK.2.1 κ0 _ ha0).1 N0 (ev M a0 .int)
  obtain ⟨-, k1, hkk1, cm1, hkn1⟩ := (hK.2.1 κ1 _ ha1).1 N1 (ev M a .int)
  intro T hT Y
  obtain ⟨vm', Y', step⟩ := Y.arraycopy hx hown (hts _ hw.1) (hts _ hw.2.1) (hts _ hw.2.2.1) (hts _ hw.2.2.2) (src := a0) (dst := a) (cs := arrV (dA κ0) N0 (ev M a0 .int)) (cd := arrV (dA κ1) N1 (ev M a .int)) (srcPos := nI sp) (destPos := nI dp) (n := nI ln) (by rw [hT]; exact hc0) (by rw [hT]; exact hc1)
    (fun _ h => by cases h) (fun _ h => by cases h) (fun h => by cases h) (fun h => by cases h) hkk0 hkk1 hkn0 hkn1 (by simp [refKind]) (nI_pos (by omega)) (nI_pos (by omega)) (nI_pos (by omega))
    (by rw [nI_toInt (by omega), nI_toInt (by omega)]; show ¬ _ > ((arrV (dA κ0) N0 (ev M a0 .int)).slots.size : Int); rw [arrV_size]; omega)
    (by rw [nI_toInt (by omega), nI_toInt (by omega)]; show ¬ _ > ((arrV (dA κ1) N1 (ev M a .int)).slots.size : Int); rw [arrV_size]; omega)
    (fun vm₁ _ i hi => by
      have e : (arrV (dA κ0) N0 (ev M a0 .int)).slots.getD ((nI sp).toNatClampNeg + i) .null = .int (gi M a0 (4096 + (sp + i))) := by
        rw [Array.getD_eq_getD_getElem?, cs, arrV_read _ _ (by rw [cl] at hi; omega)]
        rfl
      refine ⟨?_, ?_⟩
      · rw [e]; rfl
      · rw [e]; exact trivial)
    (g := F0 m pc ls (.int (nI ln) :: .int (nI dp) :: .ref a :: .int (nI sp) :: .ref a0 :: st)) rfl (by rw [hml]; exact hl.1.1) (rest := st) rfl (by rw [hb]; exact hd) (by omega) (by show 2 * 0 + _ + _ ≤ _; rw [cs_sum hrc.1]; show 2 * 0 + st.length + (7 + 11) ≤ R.locals; omega)
  have e1 : copied (arrV (dA κ0) N0 (ev M a0 .int)) (arrV (dA κ1) N1 (ev M a .int)) (nI sp) (nI dp) (nI ln) = arrV (dA κ1) N1 (ev (cpM M a0 a sp dp ln) a .int) := by
    have h := va_copied (fun z : Int32 => Value.int z) (dA κ0) (dA κ1) (n0 := N0) (n1 := N1) (sp := sp) (dp := dp) (n := ln) (fun j => gi M a0 (4096 + j)) (fun j => gi M a (4096 + j)) h4
    have h' : copied (arrV (dA κ0) N0 (ev M a0 .int)) (arrV (dA κ1) N1 (ev M a .int)) (nI sp) (nI dp) (nI ln) = (arrV (dA κ1) N1 (fun j => Value.int (gi M a (4096 + j)))).storeRun dp ((arrV (dA κ0) N0 (fun j => Value.int (gi M a0 (4096 + j)))).stretch sp ln) := by
      unfold copied
      rw [cs, cd, cl]
      rfl
    rw [h', h]
    congr 1
    funext j
    unfold ev va_cpy
    rw [gi_cpM]
    simp only [kInt, if_true]
    by_cases hj : dp ≤ j ∧ j < dp + ln
    · rw [if_pos hj, if_pos ⟨trivial, by omega, by omega⟩]
      rw [show 4096 + j - dp + sp = 4096 + (sp + (j - dp)) by omega]
    · rw [if_neg hj, if_neg (fun q => hj ⟨by have := q.2.1; omega, by have := q.2.2; omega⟩)]
  rw [e1] at Y' step
  have hla : a < H.size := (Array.getElem?_eq_some_iff.mp hc1).1
  have hheap : ((T.setVm vm').setCell a (arrV (dA κ1) N1 (ev (cpM M a0 a sp dp ln) a .int))).heap = H.setIfInBounds a (arrV (dA κ1) N1 (ev (cpM M a0 a sp dp ln) a .int)) := by rw [← hT]; rfl
  have oq : ∀ q : Nat, q ≠ a → (H.setIfInBounds a (arrV (dA κ1) N1 (ev (cpM M a0 a sp dp ln) a .int)))[q]? = H[q]? := fun q hq => by simp [Array.getElem?_setIfInBounds, Ne.symm hq]
  have hAa : A a := (X.2.2.1 a κ1 τ1 N1 hk1).elim (fun h => hA0 a κ1 τ1 N1 h hown1) id
  have hat : mm_at D dA (cpM M a0 a sp dp ln) a κ1 N1 (H.setIfInBounds a (arrV (dA κ1) N1 (ev (cpM M a0 a sp dp ln) a .int))) := by
    unfold mm_at
    rw [ha1]
    simp [Array.getElem?_setIfInBounds, hla]
  have hgi : ∀ b g, b ≠ a → gi (cpM M a0 a sp dp ln) b g = gi M b g := fun b g hb' => by rw [gi_cpM, if_neg (fun q => hb' q.1)]
  have hFr : Fr own M0 (cpM M a0 a sp dp ln) := fun b κ' τ' N' q => by
    obtain ⟨f1, f2⟩ := X.2.1 b κ' τ' N' q
    refine ⟨f1, fun o g => ⟨?_, (f2 o g).2⟩⟩
    by_cases hb' : b = a
    · subst hb'
      rw [f1] at hk1
      cases hk1
      rw [hown1] at o
      cases o
    · rw [hgi b g hb']
      exact (f2 o g).1
  have hX : ∀ locs' : List Loc, (∀ q ∈ locs', q ∈ locs ∨ q.base = a) → Mx own M0 (cpM M a0 a sp dp ln) D dA A s (H.setIfInBounds a (arrV (dA κ1) N1 (ev (cpM M a0 a sp dp ln) a .int))) locs' := by
    intro locs' hlocs
    obtain ⟨x1, x2, x3, x4⟩ := X
    refine ⟨fun b κ' τ' N' hb' => ?_, hFr, fun q κ' τ' N' hq' => x3 q κ' τ' N' hq', by simp; exact x4.1, fun q g1 g2 => ?_, fun q hq => ?_⟩
    · by_cases e9 : b = a
      · subst e9
        have hb2 : kd M b = some (κ', τ', N') := hb'
        rw [hk1] at hb2
        cases hb2
        exact hat
      · exact ((x1 b κ' τ' N' hb').kept (oq b e9)).same (fun f => hgi b f e9) (fun _ => rfl)
    · rw [oq q (fun e9 => g2 (by rw [e9]; exact hAa))]
      exact x4.2.1 q g1 g2
    · rcases hlocs q hq with h | h
      · exact x4.2.2 q h
      · rw [h]; exact hAa
  obtain ⟨t, b1, b2⟩ := kk p l e R s m args below meth c D dA pa A mc ms Z _ _ cells slots ls C (hX _ (fun q hq => by
      rcases List.mem_append.mp hq with h | h
      · exact Or.inl h
      · obtain ⟨z, -, hz⟩ := List.mem_map.mp h
        exact Or.inr (by rw [← hz]))) hl h1 h2 _ hheap Y'
  exact ⟨t, step t b1, b2⟩
end Rules
