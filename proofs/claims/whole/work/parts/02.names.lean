/-! names, by program (wip/tools/gen_names.py) out of the listing and the tables -/
def kTB : List Cond := lw_tbl.filter goodWord
theorem tb_in {w : Cond} (i : Nat) (h : lw_tbl[i]? = some w) (g : goodWord w = true) : w ∈ kTB := List.mem_filter.mpr ⟨List.mem_of_getElem? h, g⟩
theorem kGood : ∀ w ∈ kTB, (w.onTables && w.keeps) = true ∨ ∃ ty, w = .arrayClass ty := fun w h => good_of_word (List.mem_filter.mp h).2
def T0 : u_T := fun k => match k with
  | 0 => ("FiberDesk", "effects", "[LFiberDesk$Effect;", true)
  | 1 => ("FiberDesk", "effectCount", "I", false)
  | 2 => ("FiberDesk", "fibers", "[LFiberDesk$Fiber;", true)
  | 3 => ("FiberDesk", "fiberCount", "I", false)
  | 4 => ("FiberDesk", "queue", "LFiberDesk$Line;", true)
  | 5 => ("FiberDesk", "places", "[LFiberDesk$Place;", true)
  | 6 => ("FiberDesk", "prints", "[I", true)
  | 7 => ("FiberDesk", "putOut", "I", false)
  | 8 => ("FiberDesk", "clock", "I", false)
  | 9 => ("FiberDesk", "steps", "I", false)
  | 10 => ("FiberDesk", "turns", "I", false)
  | 11 => ("FiberDesk", "atWork", "LFiberDesk$Fiber;", false)
  | _ => ("FiberDesk", "turnStepsLeft", "I", false)
def Y0 : Nat → FieldType := fun k => match k with
  | 0 => (.array (.object "FiberDesk$Effect"))
  | 1 => .int
  | 2 => (.array (.object "FiberDesk$Fiber"))
  | 3 => .int
  | 4 => (.object "FiberDesk$Line")
  | 5 => (.array (.object "FiberDesk$Place"))
  | 6 => (.array .int)
  | 7 => .int
  | 8 => .int
  | 9 => .int
  | 10 => .int
  | 11 => (.object "FiberDesk$Fiber")
  | _ => .int
theorem nm0 : ∀ a, a < 13 → ∀ b, b < 13 → a ≠ b → (T0 a).2.1 ≠ (T0 b).2.1 := by decide +kernel
theorem ty0 : ∀ k, k < 13 → parseFieldDescriptor (T0 k).2.2.1 = some (Y0 k) := by decide +kernel
theorem in0 : ∀ w ∈ u_ws "FiberDesk" T0 13, w ∈ kTB := by
  have h : (u_ws "FiberDesk" T0 13) = ([143, 145, 147, 149, 151, 153, 155, 157, 159, 161, 163, 165, 167] : List Nat).filterMap (fun i => lw_tbl[i]?) := by decide +kernel
  have g : (u_ws "FiberDesk" T0 13).all goodWord = true := by decide +kernel
  intro w hw
  have g1 := List.all_eq_true.mp g w hw
  rw [h] at hw
  obtain ⟨i, -, hi⟩ := List.mem_filterMap.mp hw
  exact tb_in i hi g1
def T1 : u_T := fun k => match k with
  | 0 => ("FiberDesk$Line", "numbers", "[I", true)
  | _ => ("FiberDesk$Line", "size", "I", false)
def Y1 : Nat → FieldType := fun k => match k with
  | 0 => (.array .int)
  | _ => .int
theorem nm1 : ∀ a, a < 2 → ∀ b, b < 2 → a ≠ b → (T1 a).2.1 ≠ (T1 b).2.1 := by decide +kernel
theorem ty1 : ∀ k, k < 2 → parseFieldDescriptor (T1 k).2.2.1 = some (Y1 k) := by decide +kernel
theorem in1 : ∀ w ∈ u_ws "FiberDesk$Line" T1 2, w ∈ kTB := by
  have h : (u_ws "FiberDesk$Line" T1 2) = ([90, 92] : List Nat).filterMap (fun i => lw_tbl[i]?) := by decide +kernel
  have g : (u_ws "FiberDesk$Line" T1 2).all goodWord = true := by decide +kernel
  intro w hw
  have g1 := List.all_eq_true.mp g w hw
  rw [h] at hw
  obtain ⟨i, -, hi⟩ := List.mem_filterMap.mp hw
  exact tb_in i hi g1
def T2 : u_T := fun k => match k with
  | 0 => ("FiberDesk$Place", "cell", "I", false)
  | 1 => ("FiberDesk$Place", "isKept", "Z", false)
  | 2 => ("FiberDesk$Place", "promised", "I", false)
  | 3 => ("FiberDesk$Place", "permits", "I", false)
  | 4 => ("FiberDesk$Place", "awaiting", "LFiberDesk$Line;", true)
  | _ => ("FiberDesk$Place", "taking", "LFiberDesk$Line;", true)
def Y2 : Nat → FieldType := fun k => match k with
  | 0 => .int
  | 1 => .boolean
  | 2 => .int
  | 3 => .int
  | 4 => (.object "FiberDesk$Line")
  | _ => (.object "FiberDesk$Line")
theorem nm2 : ∀ a, a < 6 → ∀ b, b < 6 → a ≠ b → (T2 a).2.1 ≠ (T2 b).2.1 := by decide +kernel
theorem ty2 : ∀ k, k < 6 → parseFieldDescriptor (T2 k).2.2.1 = some (Y2 k) := by decide +kernel
theorem in2 : ∀ w ∈ u_ws "FiberDesk$Place" T2 6, w ∈ kTB := by
  have h : (u_ws "FiberDesk$Place" T2 6) = ([117, 119, 121, 123, 125, 127] : List Nat).filterMap (fun i => lw_tbl[i]?) := by decide +kernel
  have g : (u_ws "FiberDesk$Place" T2 6).all goodWord = true := by decide +kernel
  intro w hw
  have g1 := List.all_eq_true.mp g w hw
  rw [h] at hw
  obtain ⟨i, -, hi⟩ := List.mem_filterMap.mp hw
  exact tb_in i hi g1
def T3 : u_T := fun k => match k with
  | 0 => ("FiberDesk$Effect", "kind", "I", true)
  | 1 => ("FiberDesk$Effect", "n", "I", true)
  | 2 => ("FiberDesk$Effect", "x", "LFiberDesk$Effect;", true)
  | 3 => ("FiberDesk$Effect", "y", "LFiberDesk$Effect;", true)
  | _ => ("FiberDesk$Effect", "z", "LFiberDesk$Effect;", true)
def Y3 : Nat → FieldType := fun k => match k with
  | 0 => .int
  | 1 => .int
  | 2 => (.object "FiberDesk$Effect")
  | 3 => (.object "FiberDesk$Effect")
  | _ => (.object "FiberDesk$Effect")
theorem nm3 : ∀ a, a < 5 → ∀ b, b < 5 → a ≠ b → (T3 a).2.1 ≠ (T3 b).2.1 := by decide +kernel
theorem ty3 : ∀ k, k < 5 → parseFieldDescriptor (T3 k).2.2.1 = some (Y3 k) := by decide +kernel
theorem in3 : ∀ w ∈ u_ws "FiberDesk$Effect" T3 5, w ∈ kTB := by
  have h : (u_ws "FiberDesk$Effect" T3 5) = ([209, 211, 213, 215, 217] : List Nat).filterMap (fun i => lw_tbl[i]?) := by decide +kernel
  have g : (u_ws "FiberDesk$Effect" T3 5).all goodWord = true := by decide +kernel
  intro w hw
  have g1 := List.all_eq_true.mp g w hw
  rw [h] at hw
  obtain ⟨i, -, hi⟩ := List.mem_filterMap.mp hw
  exact tb_in i hi g1
def T4 : u_T := fun k => match k with
  | 0 => ("FiberDesk$Fiber", "number", "I", true)
  | 1 => ("FiberDesk$Fiber", "parent", "I", true)
  | 2 => ("FiberDesk$Fiber", "todo", "LFiberDesk$Effect;", false)
  | 3 => ("FiberDesk$Fiber", "input", "I", false)
  | 4 => ("FiberDesk$Fiber", "value", "I", false)
  | 5 => ("FiberDesk$Fiber", "cause", "LFiberDesk$Cause;", false)
  | 6 => ("FiberDesk$Fiber", "ended", "Z", false)
  | 7 => ("FiberDesk$Fiber", "top", "LFiberDesk$Frame;", false)
  | 8 => ("FiberDesk$Fiber", "depth", "I", false)
  | 9 => ("FiberDesk$Fiber", "masked", "Z", false)
  | 10 => ("FiberDesk$Fiber", "interrupted", "I", false)
  | 11 => ("FiberDesk$Fiber", "interrupter", "I", false)
  | 12 => ("FiberDesk$Fiber", "steps", "I", false)
  | 13 => ("FiberDesk$Fiber", "waitsFor", "I", false)
  | 14 => ("FiberDesk$Fiber", "waitsOn", "I", false)
  | _ => ("FiberDesk$Fiber", "wakesAt", "I", false)
def Y4 : Nat → FieldType := fun k => match k with
  | 0 => .int
  | 1 => .int
  | 2 => (.object "FiberDesk$Effect")
  | 3 => .int
  | 4 => .int
  | 5 => (.object "FiberDesk$Cause")
  | 6 => .boolean
  | 7 => (.object "FiberDesk$Frame")
  | 8 => .int
  | 9 => .boolean
  | 10 => .int
  | 11 => .int
  | 12 => .int
  | 13 => .int
  | 14 => .int
  | _ => .int
theorem nm4 : ∀ a, a < 16 → ∀ b, b < 16 → a ≠ b → (T4 a).2.1 ≠ (T4 b).2.1 := by decide +kernel
theorem ty4 : ∀ k, k < 16 → parseFieldDescriptor (T4 k).2.2.1 = some (Y4 k) := by decide +kernel
theorem in4 : ∀ w ∈ u_ws "FiberDesk$Fiber" T4 16, w ∈ kTB := by
  have h : (u_ws "FiberDesk$Fiber" T4 16) = ([278, 280, 282, 284, 286, 288, 290, 292, 294, 296, 298, 300, 302, 304, 306, 308] : List Nat).filterMap (fun i => lw_tbl[i]?) := by decide +kernel
  have g : (u_ws "FiberDesk$Fiber" T4 16).all goodWord = true := by decide +kernel
  intro w hw
  have g1 := List.all_eq_true.mp g w hw
  rw [h] at hw
  obtain ⟨i, -, hi⟩ := List.mem_filterMap.mp hw
  exact tb_in i hi g1
def T5 : u_T := fun k => match k with
  | 0 => ("FiberDesk$Frame", "effect", "LFiberDesk$Effect;", true)
  | 1 => ("FiberDesk$Frame", "maskedBefore", "Z", true)
  | 2 => ("FiberDesk$Frame", "below", "LFiberDesk$Frame;", true)
  | 3 => ("FiberDesk$Frame", "closers", "LFiberDesk$Closer;", false)
  | 4 => ("FiberDesk$Frame", "held", "I", false)
  | 5 => ("FiberDesk$Frame", "closing", "Z", false)
  | 6 => ("FiberDesk$Frame", "value", "I", false)
  | _ => ("FiberDesk$Frame", "cause", "LFiberDesk$Cause;", false)
def Y5 : Nat → FieldType := fun k => match k with
  | 0 => (.object "FiberDesk$Effect")
  | 1 => .boolean
  | 2 => (.object "FiberDesk$Frame")
  | 3 => (.object "FiberDesk$Closer")
  | 4 => .int
  | 5 => .boolean
  | 6 => .int
  | _ => (.object "FiberDesk$Cause")
theorem nm5 : ∀ a, a < 8 → ∀ b, b < 8 → a ≠ b → (T5 a).2.1 ≠ (T5 b).2.1 := by decide +kernel
theorem ty5 : ∀ k, k < 8 → parseFieldDescriptor (T5 k).2.2.1 = some (Y5 k) := by decide +kernel
theorem in5 : ∀ w ∈ u_ws "FiberDesk$Frame" T5 8, w ∈ kTB := by
  have h : (u_ws "FiberDesk$Frame" T5 8) = ([519, 521, 523, 525, 527, 529, 531, 533] : List Nat).filterMap (fun i => lw_tbl[i]?) := by decide +kernel
  have g : (u_ws "FiberDesk$Frame" T5 8).all goodWord = true := by decide +kernel
  intro w hw
  have g1 := List.all_eq_true.mp g w hw
  rw [h] at hw
  obtain ⟨i, -, hi⟩ := List.mem_filterMap.mp hw
  exact tb_in i hi g1
def T6 : u_T := fun k => match k with
  | 0 => ("FiberDesk$Closer", "effect", "LFiberDesk$Effect;", true)
  | 1 => ("FiberDesk$Closer", "input", "I", true)
  | _ => ("FiberDesk$Closer", "earlier", "LFiberDesk$Closer;", true)
def Y6 : Nat → FieldType := fun k => match k with
  | 0 => (.object "FiberDesk$Effect")
  | 1 => .int
  | _ => (.object "FiberDesk$Closer")
theorem nm6 : ∀ a, a < 3 → ∀ b, b < 3 → a ≠ b → (T6 a).2.1 ≠ (T6 b).2.1 := by decide +kernel
theorem ty6 : ∀ k, k < 3 → parseFieldDescriptor (T6 k).2.2.1 = some (Y6 k) := by decide +kernel
theorem in6 : ∀ w ∈ u_ws "FiberDesk$Closer" T6 3, w ∈ kTB := by
  have h : (u_ws "FiberDesk$Closer" T6 3) = ([419, 421, 423] : List Nat).filterMap (fun i => lw_tbl[i]?) := by decide +kernel
  have g : (u_ws "FiberDesk$Closer" T6 3).all goodWord = true := by decide +kernel
  intro w hw
  have g1 := List.all_eq_true.mp g w hw
  rw [h] at hw
  obtain ⟨i, -, hi⟩ := List.mem_filterMap.mp hw
  exact tb_in i hi g1
def T7 : u_T := fun k => match k with
  | 0 => ("FiberDesk$Cause", "kinds", "[I", true)
  | _ => ("FiberDesk$Cause", "numbers", "[I", true)
def Y7 : Nat → FieldType := fun k => match k with
  | 0 => (.array .int)
  | _ => (.array .int)
theorem nm7 : ∀ a, a < 2 → ∀ b, b < 2 → a ≠ b → (T7 a).2.1 ≠ (T7 b).2.1 := by decide +kernel
theorem ty7 : ∀ k, k < 2 → parseFieldDescriptor (T7 k).2.2.1 = some (Y7 k) := by decide +kernel
theorem in7 : ∀ w ∈ u_ws "FiberDesk$Cause" T7 2, w ∈ kTB := by
  have h : (u_ws "FiberDesk$Cause" T7 2) = ([366, 368] : List Nat).filterMap (fun i => lw_tbl[i]?) := by decide +kernel
  have g : (u_ws "FiberDesk$Cause" T7 2).all goodWord = true := by decide +kernel
  intro w hw
  have g1 := List.all_eq_true.mp g w hw
  rw [h] at hw
  obtain ⟨i, -, hi⟩ := List.mem_filterMap.mp hw
  exact tb_in i hi g1
def T8 : u_T := fun k => match k with
  | 0 => ("FiberDeskModel", "kind", "[I", true)
  | 1 => ("FiberDeskModel", "ea", "[I", true)
  | 2 => ("FiberDeskModel", "eb", "[I", true)
  | 3 => ("FiberDeskModel", "ec", "[I", true)
  | 4 => ("FiberDeskModel", "effects", "I", false)
  | 5 => ("FiberDeskModel", "state", "[I", true)
  | 6 => ("FiberDeskModel", "told", "[I", true)
  | 7 => ("FiberDeskModel", "by", "[I", true)
  | 8 => ("FiberDeskModel", "maker", "[I", true)
  | 9 => ("FiberDeskModel", "steps", "[I", true)
  | 10 => ("FiberDeskModel", "masked", "[Z", true)
  | 11 => ("FiberDeskModel", "effect", "[I", true)
  | 12 => ("FiberDeskModel", "input", "[I", true)
  | 13 => ("FiberDeskModel", "value", "[I", true)
  | 14 => ("FiberDeskModel", "isCause", "[Z", true)
  | 15 => ("FiberDeskModel", "waits", "[I", true)
  | 16 => ("FiberDeskModel", "what", "[I", true)
  | 17 => ("FiberDeskModel", "back", "[I", true)
  | 18 => ("FiberDeskModel", "came", "[I", true)
  | 19 => ("FiberDeskModel", "one", "[I", true)
  | 20 => ("FiberDeskModel", "two", "[I", true)
  | 21 => ("FiberDeskModel", "winner", "[I", true)
  | 22 => ("FiberDeskModel", "frames", "[I", true)
  | 23 => ("FiberDeskModel", "fKind", "[I", true)
  | 24 => ("FiberDeskModel", "fEffect", "[I", true)
  | 25 => ("FiberDeskModel", "fStage", "[I", true)
  | 26 => ("FiberDeskModel", "fInput", "[I", true)
  | 27 => ("FiberDeskModel", "fValue", "[I", true)
  | 28 => ("FiberDeskModel", "fMany", "[I", true)
  | 29 => ("FiberDeskModel", "closer", "[I", true)
  | 30 => ("FiberDeskModel", "closerInput", "[I", true)
  | 31 => ("FiberDeskModel", "fMask", "[Z", true)
  | 32 => ("FiberDeskModel", "fCause", "[Z", true)
  | 33 => ("FiberDeskModel", "parts", "[I", true)
  | 34 => ("FiberDeskModel", "tag", "[I", true)
  | 35 => ("FiberDeskModel", "number", "[I", true)
  | 36 => ("FiberDeskModel", "queue", "[I", true)
  | 37 => ("FiberDeskModel", "cells", "[I", true)
  | 38 => ("FiberDeskModel", "kept", "[I", true)
  | 39 => ("FiberDeskModel", "permits", "[I", true)
  | 40 => ("FiberDeskModel", "out", "[I", true)
  | 41 => ("FiberDeskModel", "isKept", "[Z", true)
  | 42 => ("FiberDeskModel", "fibers", "I", false)
  | 43 => ("FiberDeskModel", "queued", "I", false)
  | 44 => ("FiberDeskModel", "clock", "I", false)
  | 45 => ("FiberDeskModel", "allSteps", "I", false)
  | 46 => ("FiberDeskModel", "put", "I", false)
  | 47 => ("FiberDeskModel", "turns", "I", false)
  | 48 => ("FiberDeskModel", "work", "I", false)
  | 49 => ("FiberDeskModel", "turn", "I", false)
  | 50 => ("FiberDeskModel", "order", "I", false)
  | _ => ("FiberDeskModel", "started", "Z", false)
def Y8 : Nat → FieldType := fun k => match k with
  | 0 => (.array .int)
  | 1 => (.array .int)
  | 2 => (.array .int)
  | 3 => (.array .int)
  | 4 => .int
  | 5 => (.array .int)
  | 6 => (.array .int)
  | 7 => (.array .int)
  | 8 => (.array .int)
  | 9 => (.array .int)
  | 10 => (.array .boolean)
  | 11 => (.array .int)
  | 12 => (.array .int)
  | 13 => (.array .int)
  | 14 => (.array .boolean)
  | 15 => (.array .int)
  | 16 => (.array .int)
  | 17 => (.array .int)
  | 18 => (.array .int)
  | 19 => (.array .int)
  | 20 => (.array .int)
  | 21 => (.array .int)
  | 22 => (.array .int)
  | 23 => (.array .int)
  | 24 => (.array .int)
  | 25 => (.array .int)
  | 26 => (.array .int)
  | 27 => (.array .int)
  | 28 => (.array .int)
  | 29 => (.array .int)
  | 30 => (.array .int)
  | 31 => (.array .boolean)
  | 32 => (.array .boolean)
  | 33 => (.array .int)
  | 34 => (.array .int)
  | 35 => (.array .int)
  | 36 => (.array .int)
  | 37 => (.array .int)
  | 38 => (.array .int)
  | 39 => (.array .int)
  | 40 => (.array .int)
  | 41 => (.array .boolean)
  | 42 => .int
  | 43 => .int
  | 44 => .int
  | 45 => .int
  | 46 => .int
  | 47 => .int
  | 48 => .int
  | 49 => .int
  | 50 => .int
  | _ => .boolean
theorem nm8 : ∀ a, a < 52 → ∀ b, b < 52 → a ≠ b → (T8 a).2.1 ≠ (T8 b).2.1 := by decide +kernel
theorem ty8 : ∀ k, k < 52 → parseFieldDescriptor (T8 k).2.2.1 = some (Y8 k) := by decide +kernel
theorem in8 : ∀ w ∈ u_ws "FiberDeskModel" T8 52, w ∈ kTB := by
  have h : (u_ws "FiberDeskModel" T8 52) = ([681, 683, 685, 687, 689, 691, 693, 695, 697, 699, 701, 703, 705, 707, 709, 711, 713, 715, 717, 719, 721, 723, 725, 727, 729, 731, 733, 735, 737, 739, 741, 743, 745, 747, 749, 751, 753, 755, 757, 759, 761, 763, 765, 767, 769, 771, 773, 775, 777, 779, 781, 783] : List Nat).filterMap (fun i => lw_tbl[i]?) := by decide +kernel
  have g : (u_ws "FiberDeskModel" T8 52).all goodWord = true := by decide +kernel
  intro w hw
  have g1 := List.all_eq_true.mp g w hw
  rw [h] at hw
  obtain ⟨i, -, hi⟩ := List.mem_filterMap.mp hw
  exact tb_in i hi g1
abbrev kCl : List vw_C := [("FiberDesk", T0, 13), ("FiberDesk$Line", T1, 2), ("FiberDesk$Place", T2, 6), ("FiberDesk$Effect", T3, 5), ("FiberDesk$Fiber", T4, 16), ("FiberDesk$Frame", T5, 8), ("FiberDesk$Closer", T6, 3), ("FiberDesk$Cause", T7, 2), ("FiberDeskModel", T8, 52)]
def kTy : Nat → Nat → FieldType := fun c => match c with
  | 0 => Y0
  | 1 => Y1
  | 2 => Y2
  | 3 => Y3
  | 4 => Y4
  | 5 => Y5
  | 6 => Y6
  | 7 => Y7
  | 8 => Y8
  | _ => fun _ => .int
def kAty : Nat → Option FieldType := fun κ => match κ with
  | 20 => some .int
  | 21 => some .boolean
  | 22 => some (.object "FiberDesk$Effect")
  | 23 => some (.object "FiberDesk$Fiber")
  | 24 => some (.object "FiberDesk$Place")
  | _ => none
theorem kTy_ok : ∀ (ci : Nat) (r : vw_C), kCl[ci]? = some r → ∀ k, k < r.2.2 → parseFieldDescriptor (r.2.1 k).2.2.1 = some (kTy ci k) := by
  intro ci r h
  match ci, h with
  | 0, h => cases h; exact ty0
  | 1, h => cases h; exact ty1
  | 2, h => cases h; exact ty2
  | 3, h => cases h; exact ty3
  | 4, h => cases h; exact ty4
  | 5, h => cases h; exact ty5
  | 6, h => cases h; exact ty6
  | 7, h => cases h; exact ty7
  | 8, h => cases h; exact ty8
  | n + 9, h => simp [kCl] at h
theorem kNm_ok : ∀ (ci : Nat) (r : vw_C), kCl[ci]? = some r → ∀ a, a < r.2.2 → ∀ b, b < r.2.2 → a ≠ b → (r.2.1 a).2.1 ≠ (r.2.1 b).2.1 := by
  intro ci r h
  match ci, h with
  | 0, h => cases h; exact nm0
  | 1, h => cases h; exact nm1
  | 2, h => cases h; exact nm2
  | 3, h => cases h; exact nm3
  | 4, h => cases h; exact nm4
  | 5, h => cases h; exact nm5
  | 6, h => cases h; exact nm6
  | 7, h => cases h; exact nm7
  | 8, h => cases h; exact nm8
  | n + 9, h => simp [kCl] at h
theorem kIn_ok : ∀ (ci : Nat) (r : vw_C), kCl[ci]? = some r → ∀ w ∈ u_ws r.1 r.2.1 r.2.2, w ∈ kTB := by
  intro ci r h
  match ci, h with
  | 0, h => cases h; exact in0
  | 1, h => cases h; exact in1
  | 2, h => cases h; exact in2
  | 3, h => cases h; exact in3
  | 4, h => cases h; exact in4
  | 5, h => cases h; exact in5
  | 6, h => cases h; exact in6
  | 7, h => cases h; exact in7
  | 8, h => cases h; exact in8
  | n + 9, h => simp [kCl] at h
abbrev MI : Type := MethodName × ByteArray × Nat × Option FieldType
def m_D_init : MI := (⟨"FiberDesk", "<init>", "()V"⟩, prog_1_method_1_code, 2, (Option.none : Option Jvm.ClassFile.FieldType))
def m_D_effect : MI := (⟨"FiberDesk", "effect", "(IIII)I"⟩, prog_1_method_2_code, 6, (Option.some Jvm.ClassFile.FieldType.int))
def m_D_start : MI := (⟨"FiberDesk", "start", "(II)Z"⟩, prog_1_method_3_code, 4, (Option.some Jvm.ClassFile.FieldType.boolean))
def m_D_run : MI := (⟨"FiberDesk", "run", "(I)I"⟩, prog_1_method_4_code, 3, (Option.some Jvm.ClassFile.FieldType.int))
def m_D_interrupt : MI := (⟨"FiberDesk", "interrupt", "(I)Z"⟩, prog_1_method_5_code, 3, (Option.some Jvm.ClassFile.FieldType.boolean))
def m_D_keep : MI := (⟨"FiberDesk", "keep", "(II)Z"⟩, prog_1_method_6_code, 4, (Option.some Jvm.ClassFile.FieldType.boolean))
def m_D_fiber : MI := (⟨"FiberDesk", "fiber", "(II)I"⟩, prog_1_method_7_code, 4, (Option.some Jvm.ClassFile.FieldType.int))
def m_D_cause : MI := (⟨"FiberDesk", "cause", "(III)I"⟩, prog_1_method_8_code, 5, (Option.some Jvm.ClassFile.FieldType.int))
def m_D_queued : MI := (⟨"FiberDesk", "queued", "(I)I"⟩, prog_1_method_9_code, 2, (Option.some Jvm.ClassFile.FieldType.int))
def m_D_printed : MI := (⟨"FiberDesk", "printed", "(I)I"⟩, prog_1_method_10_code, 2, (Option.some Jvm.ClassFile.FieldType.int))
def m_D_cell : MI := (⟨"FiberDesk", "cell", "(II)I"⟩, prog_1_method_11_code, 4, (Option.some Jvm.ClassFile.FieldType.int))
def m_D_count : MI := (⟨"FiberDesk", "count", "(I)I"⟩, prog_1_method_12_code, 2, (Option.some Jvm.ClassFile.FieldType.int))
def m_D_isWellFormed : MI := (⟨"FiberDesk", "isWellFormed", "(IIII)Z"⟩, prog_1_method_13_code, 6, (Option.some Jvm.ClassFile.FieldType.boolean))
def m_D_isAtPlace : MI := (⟨"FiberDesk", "isAtPlace", "(I)Z"⟩, prog_1_method_14_code, 1, (Option.some Jvm.ClassFile.FieldType.boolean))
def m_D_effectAt : MI := (⟨"FiberDesk", "effectAt", "(I)LFiberDesk$Effect;"⟩, prog_1_method_15_code, 2, (Option.some (Jvm.ClassFile.FieldType.object "FiberDesk$Effect")))
def m_D_fiberAt : MI := (⟨"FiberDesk", "fiberAt", "(I)LFiberDesk$Fiber;"⟩, prog_1_method_16_code, 2, (Option.some (Jvm.ClassFile.FieldType.object "FiberDesk$Fiber")))
def m_D_placeAt : MI := (⟨"FiberDesk", "placeAt", "(I)LFiberDesk$Place;"⟩, prog_1_method_17_code, 2, (Option.some (Jvm.ClassFile.FieldType.object "FiberDesk$Place")))
def m_D_standing : MI := (⟨"FiberDesk", "standing", "()I"⟩, prog_1_method_18_code, 4, (Option.some Jvm.ClassFile.FieldType.int))
def m_D_clearAll : MI := (⟨"FiberDesk", "clearAll", "()V"⟩, prog_1_method_19_code, 3, (Option.none : Option Jvm.ClassFile.FieldType))
def m_D_hasTurn : MI := (⟨"FiberDesk", "hasTurn", "()Z"⟩, prog_1_method_20_code, 1, (Option.some Jvm.ClassFile.FieldType.boolean))
def m_D_work : MI := (⟨"FiberDesk", "work", "()V"⟩, prog_1_method_21_code, 2, (Option.none : Option Jvm.ClassFile.FieldType))
def m_D_wakeSleepers : MI := (⟨"FiberDesk", "wakeSleepers", "()V"⟩, prog_1_method_22_code, 5, (Option.none : Option Jvm.ClassFile.FieldType))
def m_D_goOn : MI := (⟨"FiberDesk", "goOn", "(LFiberDesk$Fiber;)V"⟩, prog_1_method_23_code, 2, (Option.none : Option Jvm.ClassFile.FieldType))
def m_D_begin : MI := (⟨"FiberDesk", "begin", "(LFiberDesk$Fiber;LFiberDesk$Effect;I)V"⟩, prog_1_method_24_code, 4, (Option.none : Option Jvm.ClassFile.FieldType))
def m_D_put : MI := (⟨"FiberDesk", "put", "(I)V"⟩, prog_1_method_25_code, 2, (Option.none : Option Jvm.ClassFile.FieldType))
def m_D_beginFork : MI := (⟨"FiberDesk", "beginFork", "(LFiberDesk$Fiber;LFiberDesk$Effect;I)V"⟩, prog_1_method_26_code, 4, (Option.none : Option Jvm.ClassFile.FieldType))
def m_D_makeFiber : MI := (⟨"FiberDesk", "makeFiber", "(LFiberDesk$Effect;II)V"⟩, prog_1_method_27_code, 6, (Option.none : Option Jvm.ClassFile.FieldType))
def m_D_beginJoin : MI := (⟨"FiberDesk", "beginJoin", "(LFiberDesk$Fiber;I)V"⟩, prog_1_method_28_code, 4, (Option.none : Option Jvm.ClassFile.FieldType))
def m_D_beginHalt : MI := (⟨"FiberDesk", "beginHalt", "(LFiberDesk$Fiber;I)V"⟩, prog_1_method_29_code, 4, (Option.none : Option Jvm.ClassFile.FieldType))
def m_D_beginRace : MI := (⟨"FiberDesk", "beginRace", "(LFiberDesk$Fiber;LFiberDesk$Effect;I)V"⟩, prog_1_method_30_code, 4, (Option.none : Option Jvm.ClassFile.FieldType))
def m_D_beginSleep : MI := (⟨"FiberDesk", "beginSleep", "(LFiberDesk$Fiber;II)V"⟩, prog_1_method_31_code, 4, (Option.none : Option Jvm.ClassFile.FieldType))
def m_D_beginAtPlace : MI := (⟨"FiberDesk", "beginAtPlace", "(LFiberDesk$Fiber;LFiberDesk$Effect;I)V"⟩, prog_1_method_32_code, 5, (Option.none : Option Jvm.ClassFile.FieldType))
def m_D_beginAwait : MI := (⟨"FiberDesk", "beginAwait", "(LFiberDesk$Fiber;LFiberDesk$Place;I)V"⟩, prog_1_method_33_code, 4, (Option.none : Option Jvm.ClassFile.FieldType))
def m_D_beginTake : MI := (⟨"FiberDesk", "beginTake", "(LFiberDesk$Fiber;LFiberDesk$Place;I)V"⟩, prog_1_method_34_code, 4, (Option.none : Option Jvm.ClassFile.FieldType))
def m_D_leaveGate : MI := (⟨"FiberDesk", "leaveGate", "(LFiberDesk$Place;)V"⟩, prog_1_method_35_code, 3, (Option.none : Option Jvm.ClassFile.FieldType))
def m_D_keepPromise : MI := (⟨"FiberDesk", "keepPromise", "(LFiberDesk$Place;I)Z"⟩, prog_1_method_36_code, 5, (Option.some Jvm.ClassFile.FieldType.boolean))
def m_D_sendInterrupt : MI := (⟨"FiberDesk", "sendInterrupt", "(LFiberDesk$Fiber;I)V"⟩, prog_1_method_37_code, 3, (Option.none : Option Jvm.ClassFile.FieldType))
def m_D_leaveLine : MI := (⟨"FiberDesk", "leaveLine", "(LFiberDesk$Fiber;)V"⟩, prog_1_method_38_code, 3, (Option.none : Option Jvm.ClassFile.FieldType))
def m_D_end : MI := (⟨"FiberDesk", "end", "(LFiberDesk$Fiber;)V"⟩, prog_1_method_39_code, 4, (Option.none : Option Jvm.ClassFile.FieldType))
def m_D_tellEnd : MI := (⟨"FiberDesk", "tellEnd", "(LFiberDesk$Fiber;LFiberDesk$Fiber;)V"⟩, prog_1_method_40_code, 3, (Option.none : Option Jvm.ClassFile.FieldType))
def m_D_tellRace : MI := (⟨"FiberDesk", "tellRace", "(LFiberDesk$Fiber;LFiberDesk$Fiber;)V"⟩, prog_1_method_41_code, 6, (Option.none : Option Jvm.ClassFile.FieldType))
def m_D_giveRaceExit : MI := (⟨"FiberDesk", "giveRaceExit", "(LFiberDesk$Fiber;LFiberDesk$Fiber;LFiberDesk$Fiber;LFiberDesk$Fiber;)V"⟩, prog_1_method_42_code, 5, (Option.none : Option Jvm.ClassFile.FieldType))
def m_D_joined : MI := (⟨"FiberDesk", "joined", "(ILFiberDesk$Cause;LFiberDesk$Cause;)LFiberDesk$Cause;"⟩, prog_1_method_43_code, 4, (Option.some (Jvm.ClassFile.FieldType.object "FiberDesk$Cause")))
def m_R_init : MI := (⟨"FiberDeskModel", "<init>", "()V"⟩, prog_10_method_1_code, 1, (Option.none : Option Jvm.ClassFile.FieldType))
def m_R_in : MI := (⟨"FiberDeskModel", "in", "(III)Z"⟩, prog_10_method_2_code, 3, (Option.some Jvm.ClassFile.FieldType.boolean))
def m_R_isEffect : MI := (⟨"FiberDeskModel", "isEffect", "(I)Z"⟩, prog_10_method_3_code, 2, (Option.some Jvm.ClassFile.FieldType.boolean))
def m_R_needs : MI := (⟨"FiberDeskModel", "needs", "(I)I"⟩, prog_10_method_4_code, 1, (Option.some Jvm.ClassFile.FieldType.int))
def m_R_effect : MI := (⟨"FiberDeskModel", "effect", "(IIII)I"⟩, prog_10_method_5_code, 6, (Option.some Jvm.ClassFile.FieldType.int))
def m_R_make : MI := (⟨"FiberDeskModel", "make", "(III)I"⟩, prog_10_method_6_code, 5, (Option.some Jvm.ClassFile.FieldType.int))
def m_R_start : MI := (⟨"FiberDeskModel", "start", "(II)Z"⟩, prog_10_method_7_code, 4, (Option.some Jvm.ClassFile.FieldType.boolean))
def m_R_give : MI := (⟨"FiberDeskModel", "give", "(II)V"⟩, prog_10_method_8_code, 3, (Option.none : Option Jvm.ClassFile.FieldType))
def m_R_single : MI := (⟨"FiberDeskModel", "single", "(III)V"⟩, prog_10_method_9_code, 4, (Option.none : Option Jvm.ClassFile.FieldType))
def m_R_fail : MI := (⟨"FiberDeskModel", "fail", "(III)V"⟩, prog_10_method_10_code, 4, (Option.none : Option Jvm.ClassFile.FieldType))
def m_R_copy : MI := (⟨"FiberDeskModel", "copy", "(II)V"⟩, prog_10_method_11_code, 4, (Option.none : Option Jvm.ClassFile.FieldType))
def m_R_join : MI := (⟨"FiberDeskModel", "join", "(III)V"⟩, prog_10_method_12_code, 7, (Option.none : Option Jvm.ClassFile.FieldType))
def m_R_wake : MI := (⟨"FiberDeskModel", "wake", "(I)V"⟩, prog_10_method_13_code, 2, (Option.none : Option Jvm.ClassFile.FieldType))
def m_R_rest : MI := (⟨"FiberDeskModel", "rest", "(IIII)V"⟩, prog_10_method_14_code, 5, (Option.none : Option Jvm.ClassFile.FieldType))
def m_R_strike : MI := (⟨"FiberDeskModel", "strike", "(II)V"⟩, prog_10_method_15_code, 3, (Option.none : Option Jvm.ClassFile.FieldType))
def m_R_interrupt : MI := (⟨"FiberDeskModel", "interrupt", "(I)Z"⟩, prog_10_method_16_code, 2, (Option.some Jvm.ClassFile.FieldType.boolean))
def m_R_firstFor : MI := (⟨"FiberDeskModel", "firstFor", "(II)I"⟩, prog_10_method_17_code, 5, (Option.some Jvm.ClassFile.FieldType.int))
def m_R_keeps : MI := (⟨"FiberDeskModel", "keeps", "(II)Z"⟩, prog_10_method_18_code, 4, (Option.some Jvm.ClassFile.FieldType.boolean))
def m_R_keep : MI := (⟨"FiberDeskModel", "keep", "(II)Z"⟩, prog_10_method_19_code, 3, (Option.some Jvm.ClassFile.FieldType.boolean))
def m_R_run : MI := (⟨"FiberDeskModel", "run", "(I)I"⟩, prog_10_method_20_code, 3, (Option.some Jvm.ClassFile.FieldType.int))
def m_R_begin : MI := (⟨"FiberDeskModel", "begin", "()V"⟩, prog_10_method_21_code, 3, (Option.none : Option Jvm.ClassFile.FieldType))
def m_R_step : MI := (⟨"FiberDeskModel", "step", "()V"⟩, prog_10_method_22_code, 2, (Option.none : Option Jvm.ClassFile.FieldType))
def m_R_frame : MI := (⟨"FiberDeskModel", "frame", "(III)V"⟩, prog_10_method_23_code, 5, (Option.none : Option Jvm.ClassFile.FieldType))
def m_R_does : MI := (⟨"FiberDeskModel", "does", "(III)V"⟩, prog_10_method_24_code, 4, (Option.none : Option Jvm.ClassFile.FieldType))
def m_R_act : MI := (⟨"FiberDeskModel", "act", "(III)V"⟩, prog_10_method_25_code, 7, (Option.none : Option Jvm.ClassFile.FieldType))
def m_R_others : MI := (⟨"FiberDeskModel", "others", "(IIII)V"⟩, prog_10_method_26_code, 7, (Option.none : Option Jvm.ClassFile.FieldType))
def m_R_hand : MI := (⟨"FiberDeskModel", "hand", "(II)V"⟩, prog_10_method_27_code, 3, (Option.none : Option Jvm.ClassFile.FieldType))
def m_R_register : MI := (⟨"FiberDeskModel", "register", "(III)V"⟩, prog_10_method_28_code, 5, (Option.none : Option Jvm.ClassFile.FieldType))
def m_R_shared : MI := (⟨"FiberDeskModel", "shared", "(IIII)V"⟩, prog_10_method_29_code, 7, (Option.none : Option Jvm.ClassFile.FieldType))
def m_R_comes : MI := (⟨"FiberDeskModel", "comes", "(II)V"⟩, prog_10_method_30_code, 6, (Option.none : Option Jvm.ClassFile.FieldType))
def m_R_closes : MI := (⟨"FiberDeskModel", "closes", "(II)V"⟩, prog_10_method_31_code, 3, (Option.none : Option Jvm.ClassFile.FieldType))
def m_R_close : MI := (⟨"FiberDeskModel", "close", "(II)V"⟩, prog_10_method_32_code, 4, (Option.none : Option Jvm.ClassFile.FieldType))
def m_R_ends : MI := (⟨"FiberDeskModel", "ends", "(I)V"⟩, prog_10_method_33_code, 3, (Option.none : Option Jvm.ClassFile.FieldType))
def m_R_hears : MI := (⟨"FiberDeskModel", "hears", "(II)V"⟩, prog_10_method_34_code, 4, (Option.none : Option Jvm.ClassFile.FieldType))
def m_R_stands : MI := (⟨"FiberDeskModel", "stands", "()I"⟩, prog_10_method_35_code, 4, (Option.some Jvm.ClassFile.FieldType.int))
def m_R_fiber : MI := (⟨"FiberDeskModel", "fiber", "(II)I"⟩, prog_10_method_36_code, 4, (Option.some Jvm.ClassFile.FieldType.int))
def m_R_cause : MI := (⟨"FiberDeskModel", "cause", "(III)I"⟩, prog_10_method_37_code, 4, (Option.some Jvm.ClassFile.FieldType.int))
def m_R_queued : MI := (⟨"FiberDeskModel", "queued", "(I)I"⟩, prog_10_method_38_code, 2, (Option.some Jvm.ClassFile.FieldType.int))
def m_R_printed : MI := (⟨"FiberDeskModel", "printed", "(I)I"⟩, prog_10_method_39_code, 2, (Option.some Jvm.ClassFile.FieldType.int))
def m_R_waiting : MI := (⟨"FiberDeskModel", "waiting", "(II)I"⟩, prog_10_method_40_code, 5, (Option.some Jvm.ClassFile.FieldType.int))
def m_R_cell : MI := (⟨"FiberDeskModel", "cell", "(II)I"⟩, prog_10_method_41_code, 3, (Option.some Jvm.ClassFile.FieldType.int))
def m_R_count : MI := (⟨"FiberDeskModel", "count", "(I)I"⟩, prog_10_method_42_code, 2, (Option.some Jvm.ClassFile.FieldType.int))
def m_C_one : MI := (⟨"FiberDesk$Cause", "<init>", "(II)V"⟩, prog_2_method_1_code, 3, (Option.none : Option Jvm.ClassFile.FieldType))
def m_C_two : MI := (⟨"FiberDesk$Cause", "<init>", "(ILFiberDesk$Cause;LFiberDesk$Cause;)V"⟩, prog_2_method_2_code, 6, (Option.none : Option Jvm.ClassFile.FieldType))
def m_C_isFailAlone : MI := (⟨"FiberDesk$Cause", "isFailAlone", "()Z"⟩, prog_2_method_3_code, 1, (Option.some Jvm.ClassFile.FieldType.boolean))
def m_K_init : MI := (⟨"FiberDesk$Closer", "<init>", "(LFiberDesk$Effect;ILFiberDesk$Closer;)V"⟩, prog_3_method_1_code, 4, (Option.none : Option Jvm.ClassFile.FieldType))
def m_E_init : MI := (⟨"FiberDesk$Effect", "<init>", "(IILFiberDesk$Effect;LFiberDesk$Effect;LFiberDesk$Effect;)V"⟩, prog_4_method_1_code, 6, (Option.none : Option Jvm.ClassFile.FieldType))
def m_F_init : MI := (⟨"FiberDesk$Fiber", "<init>", "(II)V"⟩, prog_5_method_1_code, 3, (Option.none : Option Jvm.ClassFile.FieldType))
def m_F_state : MI := (⟨"FiberDesk$Fiber", "state", "()I"⟩, prog_5_method_2_code, 1, (Option.some Jvm.ClassFile.FieldType.int))
def m_F_perform : MI := (⟨"FiberDesk$Fiber", "perform", "(LFiberDesk$Effect;I)V"⟩, prog_5_method_3_code, 3, (Option.none : Option Jvm.ClassFile.FieldType))
def m_F_giveExit : MI := (⟨"FiberDesk$Fiber", "giveExit", "(ILFiberDesk$Cause;)V"⟩, prog_5_method_4_code, 3, (Option.none : Option Jvm.ClassFile.FieldType))
def m_F_giveValue : MI := (⟨"FiberDesk$Fiber", "giveValue", "(I)V"⟩, prog_5_method_5_code, 2, (Option.none : Option Jvm.ClassFile.FieldType))
def m_F_giveCause : MI := (⟨"FiberDesk$Fiber", "giveCause", "(LFiberDesk$Cause;)V"⟩, prog_5_method_6_code, 2, (Option.none : Option Jvm.ClassFile.FieldType))
def m_F_die : MI := (⟨"FiberDesk$Fiber", "die", "(I)V"⟩, prog_5_method_7_code, 2, (Option.none : Option Jvm.ClassFile.FieldType))
def m_F_waitFor : MI := (⟨"FiberDesk$Fiber", "waitFor", "(II)V"⟩, prog_5_method_8_code, 3, (Option.none : Option Jvm.ClassFile.FieldType))
def m_F_beginFramed : MI := (⟨"FiberDesk$Fiber", "beginFramed", "(LFiberDesk$Effect;I)V"⟩, prog_5_method_9_code, 4, (Option.none : Option Jvm.ClassFile.FieldType))
def m_F_maskedOutsideMask : MI := (⟨"FiberDesk$Fiber", "maskedOutsideMask", "()Z"⟩, prog_5_method_10_code, 2, (Option.some Jvm.ClassFile.FieldType.boolean))
def m_F_register : MI := (⟨"FiberDesk$Fiber", "register", "(LFiberDesk$Effect;I)V"⟩, prog_5_method_11_code, 4, (Option.none : Option Jvm.ClassFile.FieldType))
def m_F_openScope : MI := (⟨"FiberDesk$Fiber", "openScope", "()LFiberDesk$Frame;"⟩, prog_5_method_12_code, 2, (Option.some (Jvm.ClassFile.FieldType.object "FiberDesk$Frame")))
def m_F_comeTo : MI := (⟨"FiberDesk$Fiber", "comeTo", "(LFiberDesk$Frame;)V"⟩, prog_5_method_13_code, 3, (Option.none : Option Jvm.ClassFile.FieldType))
def m_F_follow : MI := (⟨"FiberDesk$Fiber", "follow", "(LFiberDesk$Effect;)V"⟩, prog_5_method_14_code, 2, (Option.none : Option Jvm.ClassFile.FieldType))
def m_F_close : MI := (⟨"FiberDesk$Fiber", "close", "(LFiberDesk$Frame;)V"⟩, prog_5_method_15_code, 3, (Option.none : Option Jvm.ClassFile.FieldType))
def m_F_drop : MI := (⟨"FiberDesk$Fiber", "drop", "(LFiberDesk$Frame;)V"⟩, prog_5_method_16_code, 2, (Option.none : Option Jvm.ClassFile.FieldType))
def m_Q_init : MI := (⟨"FiberDesk$Frame", "<init>", "(LFiberDesk$Effect;ZLFiberDesk$Frame;)V"⟩, prog_6_method_1_code, 4, (Option.none : Option Jvm.ClassFile.FieldType))
def m_Q_hold : MI := (⟨"FiberDesk$Frame", "hold", "(LFiberDesk$Effect;I)V"⟩, prog_6_method_2_code, 3, (Option.none : Option Jvm.ClassFile.FieldType))
def m_L_init : MI := (⟨"FiberDesk$Line", "<init>", "()V"⟩, prog_7_method_1_code, 1, (Option.none : Option Jvm.ClassFile.FieldType))
def m_L_clear : MI := (⟨"FiberDesk$Line", "clear", "()V"⟩, prog_7_method_2_code, 1, (Option.none : Option Jvm.ClassFile.FieldType))
def m_L_add : MI := (⟨"FiberDesk$Line", "add", "(I)V"⟩, prog_7_method_3_code, 2, (Option.none : Option Jvm.ClassFile.FieldType))
def m_L_at : MI := (⟨"FiberDesk$Line", "at", "(I)I"⟩, prog_7_method_4_code, 2, (Option.some Jvm.ClassFile.FieldType.int))
def m_L_takeFirst : MI := (⟨"FiberDesk$Line", "takeFirst", "()I"⟩, prog_7_method_5_code, 2, (Option.some Jvm.ClassFile.FieldType.int))
def m_L_remove : MI := (⟨"FiberDesk$Line", "remove", "(I)V"⟩, prog_7_method_6_code, 4, (Option.none : Option Jvm.ClassFile.FieldType))
def m_P_init : MI := (⟨"FiberDesk$Place", "<init>", "()V"⟩, prog_8_method_1_code, 1, (Option.none : Option Jvm.ClassFile.FieldType))
def m_P_clear : MI := (⟨"FiberDesk$Place", "clear", "()V"⟩, prog_8_method_2_code, 1, (Option.none : Option Jvm.ClassFile.FieldType))
def m_W_law : MI := (x, code, 4, some .boolean)
