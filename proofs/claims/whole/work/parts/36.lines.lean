/-! the class's lines over the view (by program: wip/tools/gen_v2.py) -/
def sI (S : Gs) (I : Pst) : Gs := (S.1, S.2.1, I, S.2.2.2)
/-- what the work on line t may change -/
def dL (t : Nat) (f τ : Nat) : Prop := τ = t ∧ (f = 65 ∨ (1280 ≤ f ∧ f < 1344))
def rmF (x : Int32) (l : List Nat) : List Nat := l.filter (fun y => !decide (nI y = x))
theorem getD_snoc_lt {l : List Nat} {j : Nat} (y : Nat) (h : j < l.length) : (l ++ [y]).getD j 0 = l.getD j 0 := by
  rw [List.getD_eq_getElem?_getD, List.getD_eq_getElem?_getD, List.getElem?_append_left h]
theorem getD_snoc (l : List Nat) (y : Nat) : (l ++ [y]).getD l.length 0 = y := by
  rw [List.getD_eq_getElem?_getD, List.getElem?_append_right (Nat.le_refl _), Nat.sub_self]
  rfl
theorem take_snoc {l : List Nat} {b : Nat} (h : b < l.length) : l.take (b + 1) = l.take b ++ [l.getD b 0] := by
  rw [List.take_add_one, List.getD_eq_getElem?_getD, List.getElem?_eq_getElem h]
  rfl
theorem rmF_snoc (x : Int32) (l : List Nat) (y : Nat) : rmF x (l ++ [y]) = if nI y = x then rmF x l else rmF x l ++ [y] := by
  unfold rmF
  rw [List.filter_append]
  split
  · rename_i e
    rw [List.filter_cons_of_neg (by simp [e]), List.filter_nil, List.append_nil]
  · rename_i e
    rw [List.filter_cons_of_pos (by simp [e]), List.filter_nil]
theorem rmF_len (x : Int32) (l : List Nat) : (rmF x l).length ≤ l.length := List.length_filter_le _ _
theorem Ln.add {S : Gs} {t : Nat} {l : List Nat} (h : Ln S t l) (hl : l.length < 10) (x : Nat) : Ln (ui (ui S (1280 + l.length) t (nI x)) 65 t (nI l.length + 1)) t (l ++ [x]) := by
  obtain ⟨h1, h2, h3, h4, h5, h6⟩ := h
  refine ⟨h1, h2, h3, ?_, by simp; omega, fun j hj => ?_⟩
  · rw [vi_ui_s, List.length_append, nI_1]
    rfl
  · rw [vi_ui_f (by omega)]
    rw [List.length_append] at hj
    by_cases e : j = l.length
    · subst e
      rw [vi_ui_s, getD_snoc]
    · have hj2 : j < l.length := by simp at hj; omega
      rw [vi_ui_f (by omega), getD_snoc_lt _ hj2]
      exact h6 j hj2
set_option maxHeartbeats 4000000 in
set_option maxRecDepth 100000 in
theorem v_L_add {S : Gs} {M : Mm} (hV : VM S M) {t : Nat} {l : List Nat} (hL : Ln S t l) (ht : t < 9) (hl : l.length < 10) (x : Nat) : Run m_L_add ownC 0 0 0 [va_rf (some (ad S 1 t)), .int (nI x)] M (fun r M' => r = none ∧ VM (ui (ui S (1280 + l.length) t (nI x)) 65 t (nI l.length + 1)) M') := by
  refine Run.ofG (by decide) (by simp [cat_int, cat_rf]) (Nat.le_of_ble_eq_true rfl) ?_
  refine g_aload_n d_L_add_0 rfl ?_
  refine v_geti (v := nI l.length) (τ := t) 65 rfl hV hL.1 (by decide) (by decide) fl_L_15 rfl d_L_add_1 rfl hL.2.2.2.1 ?_
  refine g_bipush (v := 10) d_L_add_4 (by decide) ?_
  refine g_icmp_ge 29 d_L_add_6 (by decide) (fun c_6 => ?_) (fun c_6 => ?_)
  · exact absurd c_6 (ix_nle (a := 10) (b := l.length) rfl rfl hl (by decide))
  · skip
    refine g_aload_n d_L_add_9 rfl ?_
    refine v_getr (v := some (ad S 20 t)) (τ := t) 64 rfl hV hL.1 (by decide) (by decide) fl_L_9 rfl d_L_add_10 rfl hL.2.2.1 ?_
    refine g_aload_n d_L_add_13 rfl ?_
    refine v_geti (v := nI l.length) (τ := t) 65 rfl hV hL.1 (by decide) (by decide) fl_L_15 rfl d_L_add_14 rfl hL.2.2.2.1 ?_
    refine g_iload_n d_L_add_17 rfl ?_
    refine v_iast (j := l.length) (τ := t) (1280 + l.length) rfl hV hL.2.1 (by decide) (by omega) d_L_add_18 rfl rfl (by show _ < _; simp [ck]; omega) (fun M hV => ?_)
    refine g_aload_n d_L_add_19 rfl ?_
    refine g_dup d_L_add_20 ?_
    refine v_geti (v := nI l.length) (τ := t) 65 rfl hV (lv_i hL.1) (by decide) (by decide) fl_L_15 rfl d_L_add_21 (ad_i rfl) ((vi_ui_f (by omega) _ _ _ _).trans hL.2.2.2.1) ?_
    refine g_iconst (v := 1) d_L_add_24 (by decide) ?_
    refine g_iadd d_L_add_25 ?_
    refine v_puti (τ := t) 65 rfl hV (lv_i hL.1) (by decide) (by decide) fl_L_15 (Or.inr (fun r h => by cases h; rfl)) rfl d_L_add_26 (ad_i rfl) (fun M hV => ?_)
    exact g_return d_L_add_29 rfl ⟨rfl, hV⟩
def lnAt (l : List Nat) (x : Int32) : Int32 := if x < 0 then -1 else if nI l.length ≤ x then -1 else nI (l.getD (tn x) 0)
theorem tn_lt (x : Int32) : tn x < 2 ^ 31 := by
  have h := x.toInt_lt
  show x.toInt.toNat < _
  omega
theorem ix_lt2 {b n : Nat} (hb : b < 2 ^ 31) (h : ¬ nI n ≤ nI b) : b < n := by
  rcases Nat.lt_or_ge b n with q | q
  · exact q
  · exact absurd (ix_le rfl rfl q hb) h
theorem ix_lt_of {x y : Int32} {b : Nat} (hx : x = nI (tn x)) (hy : y = nI b) (hb : b < 2 ^ 31) (h : ¬ y ≤ x) : tn x < b := by
  rcases Nat.lt_or_ge (tn x) b with q | q
  · exact q
  · refine absurd ?_ h
    exact ix_le hy hx q (tn_lt x)
set_option maxHeartbeats 4000000 in
set_option maxRecDepth 100000 in
theorem v_L_at {S : Gs} {M : Mm} (hV : VM S M) {t : Nat} {l : List Nat} (hL : Ln S t l) (x : Int32) : Run m_L_at ownC 0 0 0 [va_rf (some (ad S 1 t)), .int x] M (fun r M' => r = some (.int (lnAt l x)) ∧ VM S M') := by
  refine Run.ofG (by decide) (by simp [cat_int, cat_rf]) (Nat.le_of_ble_eq_true rfl) ?_
  refine g_iload_n d_L_at_0 rfl ?_
  refine g_if_lt 21 d_L_at_1 (by decide) (fun c_1 => ?_) (fun c_1 => ?_)
  · skip
    refine g_iconst (v := -1) d_L_at_21 (by decide) ?_
    exact g_ireturn d_L_at_22 rfl ⟨by unfold lnAt; rw [if_pos (show x < 0 from c_1)], hV⟩
  · have hx_ : x = nI (tn x) := tn_of c_1
    refine g_iload_n d_L_at_4 rfl ?_
    refine g_aload_n d_L_at_5 rfl ?_
    refine v_geti (v := nI l.length) (τ := t) 65 rfl hV hL.1 (by decide) (by decide) fl_L_15 rfl d_L_at_6 rfl hL.2.2.2.1 ?_
    refine g_icmp_ge 21 d_L_at_9 (by decide) (fun c_9 => ?_) (fun c_9 => ?_)
    · skip
      refine g_iconst (v := -1) d_L_at_21 (by decide) ?_
      exact g_ireturn d_L_at_22 rfl ⟨by unfold lnAt; rw [if_neg (show ¬ (x < 0) from c_1), if_pos (show nI l.length ≤ x from c_9)], hV⟩
    · have hb_ : tn x < l.length := ix_lt_of hx_ rfl (by have := hL.2.2.2.2.1; omega) c_9; have hl10_ := hL.2.2.2.2.1
      refine g_aload_n d_L_at_12 rfl ?_
      refine v_getr (v := some (ad S 20 t)) (τ := t) 64 rfl hV hL.1 (by decide) (by decide) fl_L_9 rfl d_L_at_13 rfl hL.2.2.1 ?_
      refine g_iload_n d_L_at_16 rfl ?_
      refine v_iald (v := nI (l.getD (tn x) 0)) (j := (tn x)) (τ := t) (1280 + (tn x)) rfl hV hL.2.1 (by decide) d_L_at_17 rfl hx_ (by show _ < _; simp [ck]; omega) (hL.2.2.2.2.2 _ hb_) ?_
      refine g_goto 22 d_L_at_18 (by decide) ?_
      exact g_ireturn d_L_at_22 rfl ⟨by unfold lnAt; rw [if_neg (show ¬ (x < 0) from c_1), if_neg (show ¬ (nI l.length ≤ x) from c_9)], hV⟩
def rmI (S : Gs) (t : Nat) (l : List Nat) (x : Int32) (a b : Nat) (I : Pst) : Prop := a = (rmF x (l.take b)).length ∧ (∀ j, j < a → I (1280 + j) t = nI ((rmF x (l.take b)).getD j 0)) ∧ (∀ j, b ≤ j → j < l.length → I (1280 + j) t = nI (l.getD j 0)) ∧ I 65 t = nI l.length ∧ Ag (dL t) (vi S) I
theorem rmI.keep {S : Gs} {t : Nat} {l : List Nat} {x : Int32} {a b : Nat} {I : Pst} (h : rmI S t l x a b I) (hb : b < l.length) (hl : l.length ≤ 10) (e : ¬ nI (l.getD b 0) = x) : rmI S t l x (a + 1) (b + 1) (up I (1280 + a) t (nI (l.getD b 0))) := by
  obtain ⟨h1, h2, h3, h4, h5⟩ := h
  have hab : a ≤ b := by rw [h1]; exact Nat.le_trans (rmF_len _ _) (by rw [List.length_take]; omega)
  have e1 : rmF x (l.take (b + 1)) = rmF x (l.take b) ++ [l.getD b 0] := by rw [take_snoc hb, rmF_snoc, if_neg e]
  refine ⟨by rw [e1, List.length_append, ← h1]; rfl, fun j hj => ?_, fun j hj hj2 => ?_, ?_, h5.up ⟨rfl, by omega⟩ _⟩
  · rw [e1]
    by_cases q : j = a
    · rw [q, up_s, h1, getD_snoc]
    · rw [up_f (by omega), getD_snoc_lt _ (by omega)]
      exact h2 j (by omega)
  · rw [up_f (by omega)]
    exact h3 j (by omega) hj2
  · rw [up_f (by omega)]
    exact h4
theorem rmI.skip {S : Gs} {t : Nat} {l : List Nat} {x : Int32} {a b : Nat} {I : Pst} (h : rmI S t l x a b I) (hb : b < l.length) (e : nI (l.getD b 0) = x) : rmI S t l x a (b + 1) I := by
  obtain ⟨h1, h2, h3, h4, h5⟩ := h
  have e1 : rmF x (l.take (b + 1)) = rmF x (l.take b) := by rw [take_snoc hb, rmF_snoc, if_pos e]
  exact ⟨by rw [e1]; exact h1, fun j hj => by rw [e1]; exact h2 j hj, fun j hj hj2 => h3 j (by omega) hj2, h4, h5⟩
set_option maxHeartbeats 4000000 in
set_option maxRecDepth 100000 in
theorem l_L_remove {S : Gs} {M0 : Mm} {t : Nat} {l : List Nat} (hL : Ln S t l) (ht : t < 9) (x : Int32) : ∀ (d b a : Nat) (I : Pst) (M : Mm), b + d = l.length → VM (sI S I) M → rmI S t l x a b I → G m_L_remove ownC M0 (fun r M' => r = none ∧ ∃ I', VM (sI S I') M' ∧ Ln (sI S I') t (rmF x l) ∧ Ag (dL t) (vi S) I') 0 0 0 M 4 [some (va_rf (some (ad S 1 t))), some (.int x), some (.int (nI a)), some (.int (nI b))] []
  | d, b, a, I, M, hd, hV, hI => by
    have hl10 := hL.2.2.2.2.1
    have hab : a ≤ b := by rw [hI.1]; exact Nat.le_trans (rmF_len _ _) (by rw [List.length_take]; omega)
    have ih : ∀ (b' a' : Nat) (I' : Pst) (M' : Mm), b' + (l.length - b') = l.length ∧ b < b' ∧ 0 < d → VM (sI S I') M' → rmI S t l x a' b' I' → G m_L_remove ownC M0 (fun r M' => r = none ∧ ∃ I', VM (sI S I') M' ∧ Ln (sI S I') t (rmF x l) ∧ Ag (dL t) (vi S) I') 0 0 0 M' 4 [some (va_rf (some (ad S 1 t))), some (.int x), some (.int (nI a')), some (.int (nI b'))] [] := fun b' a' I' M' hd' hV' hI' => l_L_remove hL ht x (l.length - b') b' a' I' M' hd'.1 hV' hI'
    refine g_iload_n d_L_remove_4 rfl ?_
    refine g_aload_n d_L_remove_5 rfl ?_
    refine v_geti (v := nI l.length) (τ := t) 65 rfl hV hL.1 (by decide) (by decide) fl_L_15 rfl d_L_remove_6 rfl hI.2.2.2.1 ?_
    refine g_icmp_ge 43 d_L_remove_9 (by decide) (fun c_9 => ?_) (fun c_9 => ?_)
    · have hbe_ : l.length ≤ b := ix_le_of rfl rfl (by have := hL.2.2.2.2.1; omega) (by omega) c_9
      refine g_aload_n d_L_remove_43 rfl ?_
      refine g_iload_n d_L_remove_44 rfl ?_
      refine v_puti (τ := t) 65 rfl hV hL.1 (by decide) (by decide) fl_L_15 (Or.inr (fun r h => by cases h; rfl)) rfl d_L_remove_45 rfl (fun M hV => ?_)
      refine g_return d_L_remove_48 rfl ⟨rfl, up I 65 t (nI a), hV, ?_, hI.2.2.2.2.up ⟨rfl, Or.inl rfl⟩ _⟩
      have eb : b = l.length := by omega
      obtain ⟨h1, h2, -, -, -⟩ := hI
      rw [eb, List.take_length] at h1 h2
      refine ⟨hL.1, hL.2.1, hL.2.2.1, ?_, Nat.le_trans (rmF_len _ _) hL.2.2.2.2.1, fun j hj => ?_⟩
      · show up I 65 t (nI a) 65 t = _; rw [up_s, h1]
      · show up I 65 t (nI a) (1280 + j) t = _; rw [up_f (by omega)]; exact h2 j (by omega)
    · have hb_ : b < l.length := ix_lt2 (by omega) c_9
      refine g_aload_n d_L_remove_12 rfl ?_
      refine v_getr (v := some (ad S 20 t)) (τ := t) 64 rfl hV hL.1 (by decide) (by decide) fl_L_9 rfl d_L_remove_13 rfl hL.2.2.1 ?_
      refine g_iload_n d_L_remove_16 rfl ?_
      refine v_iald (v := nI (l.getD b 0)) (j := b) (τ := t) (1280 + b) rfl hV hL.2.1 (by decide) d_L_remove_17 rfl rfl (by show _ < _; simp [ck]; omega) (hI.2.2.1 b (Nat.le_refl _) hb_) ?_
      refine g_iload_n d_L_remove_18 rfl ?_
      refine g_icmp_eq 37 d_L_remove_19 (by decide) (fun c_19 => ?_) (fun c_19 => ?_)
      · skip
        refine g_iinc (v := nI (b + 1)) d_L_remove_37 rfl (nI_1 _) (by decide) ?_
        refine g_goto 4 d_L_remove_40 (by decide) ?_
        exact ih (b + 1) a I M (by omega) hV (hI.skip hb_ c_19)
      · skip
        refine g_aload_n d_L_remove_22 rfl ?_
        refine v_getr (v := some (ad S 20 t)) (τ := t) 64 rfl hV hL.1 (by decide) (by decide) fl_L_9 rfl d_L_remove_23 rfl hL.2.2.1 ?_
        refine g_iload_n d_L_remove_26 rfl ?_
        refine g_aload_n d_L_remove_27 rfl ?_
        refine v_getr (v := some (ad S 20 t)) (τ := t) 64 rfl hV hL.1 (by decide) (by decide) fl_L_9 rfl d_L_remove_28 rfl hL.2.2.1 ?_
        refine g_iload_n d_L_remove_31 rfl ?_
        refine v_iald (v := nI (l.getD b 0)) (j := b) (τ := t) (1280 + b) rfl hV hL.2.1 (by decide) d_L_remove_32 rfl rfl (by show _ < _; simp [ck]; omega) (hI.2.2.1 b (Nat.le_refl _) hb_) ?_
        refine v_iast (j := a) (τ := t) (1280 + a) rfl hV hL.2.1 (by decide) (by omega) d_L_remove_33 rfl rfl (by show _ < _; simp [ck]; omega) (fun M hV => ?_)
        refine g_iinc (v := nI (a + 1)) d_L_remove_34 rfl (nI_1 _) (by decide) ?_
        refine g_iinc (v := nI (b + 1)) d_L_remove_37 rfl (nI_1 _) (by decide) ?_
        refine g_goto 4 d_L_remove_40 (by decide) ?_
        exact ih (b + 1) (a + 1) (up I (1280 + a) t (nI (l.getD b 0))) M (by omega) hV (hI.keep hb_ hL.2.2.2.2.1 c_19)
  termination_by d => d
  decreasing_by omega
set_option maxHeartbeats 4000000 in
set_option maxRecDepth 100000 in
theorem v_L_remove {S : Gs} {M : Mm} (hV : VM S M) {t : Nat} {l : List Nat} (hL : Ln S t l) (ht : t < 9) (x : Int32) : Run m_L_remove ownC 0 0 0 [va_rf (some (ad S 1 t)), .int x] M (fun r M' => r = none ∧ ∃ I', VM (sI S I') M' ∧ Ln (sI S I') t (rmF x l) ∧ Ag (dL t) (vi S) I') := by
  refine Run.ofG (by decide) (by simp [cat_int, cat_rf]) (Nat.le_of_ble_eq_true rfl) ?_
  refine g_iconst (v := 0) d_L_remove_0 (by decide) ?_
  refine g_istore_n d_L_remove_1 (by decide) ?_
  refine g_iconst (v := 0) d_L_remove_2 (by decide) ?_
  refine g_istore_n d_L_remove_3 (by decide) ?_
  exact l_L_remove hL ht x l.length 0 0 (vi S) M (by omega) hV ⟨rfl, fun j hj => absurd hj (by omega), fun j _ hj => hL.2.2.2.2.2 j hj, hL.2.2.2.1, Ag.refl _ _⟩
set_option maxHeartbeats 4000000 in
set_option maxRecDepth 100000 in
theorem v_L_takeFirst {S : Gs} {M : Mm} (hV : VM S M) {t : Nat} {l : List Nat} (hL : Ln S t l) (ht : t < 9) : Run m_L_takeFirst ownC 1 0 0 [va_rf (some (ad S 1 t))] M (fun r M' => r = some (.int (lnAt l 0)) ∧ ∃ I', VM (sI S I') M' ∧ Ln (sI S I') t (rmF (lnAt l 0) l) ∧ Ag (dL t) (vi S) I') := by
  refine Run.ofG (by decide) (by simp [cat_int, cat_rf]) (Nat.le_of_ble_eq_true rfl) ?_
  refine g_aload_n d_L_takeFirst_0 rfl ?_
  refine g_iconst (v := 0) d_L_takeFirst_1 (by decide) ?_
  refine g_callV (k1 := 0) (n1 := 0) [.int (0)] cw_L_19 cv_L_at d_L_takeFirst_2 rfl (hV.kdo hL.1 (by decide)) rfl rfl ⟨by simp, by simp⟩ (by first | decide | omega) (by first | decide | omega) (by first | decide | omega) (fun _ _ h => h) (v_L_at hV hL _) (fun r_ M h_ hfr_ => ?_)
  obtain ⟨rfl, hV⟩ := h_
  refine g_istore_n d_L_takeFirst_5 (by decide) ?_
  refine g_aload_n d_L_takeFirst_6 rfl ?_
  refine g_iload_n d_L_takeFirst_7 rfl ?_
  refine g_callV (k1 := 0) (n1 := 0) [.int (lnAt l 0)] cw_L_23 cv_L_remove d_L_takeFirst_8 rfl (hV.kdo hL.1 (by decide)) rfl rfl ⟨by simp, by simp⟩ (by first | decide | omega) (by first | decide | omega) (by first | decide | omega) (fun _ _ h => h) (v_L_remove hV hL ht _) (fun r_ M h_ hfr_ => ?_)
  obtain ⟨rfl, I1, hV, hL1, hA1⟩ := h_
  refine g_iload_n d_L_takeFirst_11 rfl ?_
  exact g_ireturn d_L_takeFirst_12 rfl ⟨rfl, I1, hV, hL1, hA1⟩
