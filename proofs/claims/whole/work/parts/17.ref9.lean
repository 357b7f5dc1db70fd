/-! the reference's methods, further (by program: wip/tools/gen_ref9.py) -/
/-- the innermost mask, counted from 1; 0: none -/
def asc (P : Pst) (f : Nat) : Nat → Nat
  | 0 => 0
  | p + 1 => if P 23 ((16 * f) + p) = 8 then p + 1 else asc P f p
theorem asc_le (P : Pst) (f : Nat) : ∀ p, asc P f p ≤ p
  | 0 => Nat.le_refl 0
  | p + 1 => by
    have := asc_le P f p
    unfold asc
    split
    all_goals omega
theorem m1_neg : nI 0 - 1 < 0 := by decide
theorem asc_pos {a : Nat} (ha : a < 2 ^ 30) (c : ¬ nI a - 1 < 0) : 1 ≤ a := by
  rcases Nat.eq_zero_or_pos a with e | e
  · rw [e] at c; exact absurd m1_neg c
  · exact e
theorem lt_24 {x : Int32} (h : ¬ x < 0) (c : ¬ 24 ≤ x) : tn x < 24 := by
  have e := tn_of h
  rcases Nat.lt_or_ge (tn x) 24 with q | q
  · exact q
  · have h2 : tn x < 2 ^ 31 := by
      obtain ⟨j, hj, e2⟩ := nI_of h
      rw [e2, tn_nI hj]; exact hj
    exact absurd (ix_le (a := 24) rfl e q h2) c
set_option maxHeartbeats 4000000 in
set_option maxRecDepth 100000 in
theorem lo_act {γ : Rg} (P : Pst) (f e : Nat) (v y a : Int32) (hf : f < 10) (hy : y = 9) {M0 : Mm} {Q : Option Value → Mm → Prop} {dep k n : Nat} : ∀ (p : Nat) (x : Int32) (M : Mm), p ≤ 16 → x = nI p - 1 → RR γ P M → (∀ (x : Int32) M, x = nI (asc P f p) - 1 → RR γ P M → G m_R_act ownR M0 Q dep k n M 92 [some (va_rf (some γ.1)), some (.int (nI f)), some (.int (nI e)), some (.int (v)), some (.int (y)), some (.int (a)), some (.int (x))] []) → G m_R_act ownR M0 Q dep k n M 57 [some (va_rf (some γ.1)), some (.int (nI f)), some (.int (nI e)), some (.int (v)), some (.int (y)), some (.int (a)), some (.int (x))] [] := by
  intro p
  induction p with
  | zero =>
    intro x M hp hx hR kk
    refine g_iload d_R_act_57 rfl ?_
    refine g_bipush (v := 9) d_R_act_59 (by decide) ?_
    refine g_icmp_ne 92 d_R_act_61 (by decide) (fun c_61 => ?_) (fun c_61 => ?_)
    · exact absurd hy c_61
    · skip
      refine g_iload d_R_act_64 rfl ?_
      refine g_if_lt 92 d_R_act_66 (by decide) (fun c_66 => ?_) (fun c_66 => ?_)
      · skip
        exact kk x M hx hR
      · exact absurd (by rw [hx]; exact m1_neg) c_66
  | succ p ih =>
    intro x M hp hx hR kk
    have hx2 : x = nI p := by rw [hx, s1_ (by omega)]; rfl
    refine g_iload d_R_act_57 rfl ?_
    refine g_bipush (v := 9) d_R_act_59 (by decide) ?_
    refine g_icmp_ne 92 d_R_act_61 (by decide) (fun c_61 => ?_) (fun c_61 => ?_)
    · exact absurd hy c_61
    · skip
      refine g_iload d_R_act_64 rfl ?_
      refine g_if_lt 92 d_R_act_66 (by decide) (fun c_66 => ?_) (fun c_66 => ?_)
      · exact absurd c_66 (by rw [hx2]; exact nI_pos (by omega))
      · skip
        refine g_aload_n d_R_act_69 rfl ?_
        refine r_arr 23 hR (by decide) (by decide) fl_R_77 rfl d_R_act_70 ?_
        refine g_bipush (v := 16) d_R_act_73 (by decide) ?_
        refine g_iload_n d_R_act_75 rfl ?_
        refine g_imul d_R_act_76 ?_
        refine g_iload d_R_act_77 rfl ?_
        refine g_iadd d_R_act_79 ?_
        refine r_iald 23 ((16 * f) + p) hR (by decide) rfl d_R_act_80 (ix_add (ix_mul rfl rfl) hx2) (by show (16 * f) + p < 160; omega) ?_
        refine g_bipush (v := 8) d_R_act_81 (by decide) ?_
        refine g_icmp_eq 92 d_R_act_83 (by decide) (fun c_83 => ?_) (fun c_83 => ?_)
        · skip
          exact kk x M (by rw [hx]; congr 2; show p + 1 = (if P 23 ((16 * f) + p) = 8 then p + 1 else asc P f p); rw [if_pos (show P 23 ((16 * f) + p) = 8 from c_83)]) hR
        · skip
          refine g_iinc (v := x + (-1)) d_R_act_86 rfl rfl (by decide) ?_
          refine g_goto 57 d_R_act_89 (by decide) ?_
          refine ih _ M (by omega) (by rw [hx2, m1_add]) hR (fun x M hx hR => kk x M (by rw [hx]; congr 2; show _ = (if P 23 ((16 * f) + p) = 8 then p + 1 else asc P f p); rw [if_neg (show ¬ (P 23 ((16 * f) + p) = 8) from c_83)]) hR)
theorem lt19 {x : Int32} (c : 19 ≤ x) : ¬ x < 19 := Int32.not_lt.mpr c
theorem asc_bd (P : Pst) (f p : Nat) (h : p ≤ 16) : asc P f p < 2 ^ 30 := by
  have := asc_le P f p
  omega
def p_R_act (P : Pst) (f : Nat) (e : Nat) (v : Int32) : Pst := if a_R_in (P 0 e) 4 10 = 0 then if 4 ≤ P 0 e then if 16 ≤ P 0 e then if 19 ≤ P 0 e then if P 0 e = 25 then if v = 0 then p_R_does P f (P 2 e) v else p_R_does P f (P 1 e) v else p_R_shared P f (P 0 e) (tn (P 1 e)) v else if P 0 e = 16 then if P 1 e ≤ 0 then if P 0 e = 17 then if P 0 e = 18 then if 24 ≤ P 46 0 then up (up (p_R_give P f v) 49 0 5) 46 0 ((P 46 0) + 1) else up (up (up (p_R_give P f v) 49 0 5) 40 (tn (P 46 0)) v) 46 0 ((P 46 0) + 1) else up (p_R_give P f v) 49 0 5 else if P 0 e = 18 then if 24 ≤ P 46 0 then up (p_R_give P f v) 46 0 ((P 46 0) + 1) else up (up (p_R_give P f v) 40 (tn (P 46 0)) v) 46 0 ((P 46 0) + 1) else p_R_give P f v else if P 1 e ≤ 1000 then if P 0 e = 17 then if P 0 e = 18 then if 24 ≤ P 46 0 then up (up (p_R_rest (p_R_give P f v) f 4 ((P 44 0) + (P 1 e)) v) 49 0 5) 46 0 ((P 46 0) + 1) else up (up (up (p_R_rest (p_R_give P f v) f 4 ((P 44 0) + (P 1 e)) v) 49 0 5) 40 (tn (P 46 0)) v) 46 0 ((P 46 0) + 1) else up (p_R_rest (p_R_give P f v) f 4 ((P 44 0) + (P 1 e)) v) 49 0 5 else if P 0 e = 18 then if 24 ≤ P 46 0 then up (p_R_rest (p_R_give P f v) f 4 ((P 44 0) + (P 1 e)) v) 46 0 ((P 46 0) + 1) else up (up (p_R_rest (p_R_give P f v) f 4 ((P 44 0) + (P 1 e)) v) 40 (tn (P 46 0)) v) 46 0 ((P 46 0) + 1) else p_R_rest (p_R_give P f v) f 4 ((P 44 0) + (P 1 e)) v else if P 0 e = 17 then if P 0 e = 18 then if 24 ≤ P 46 0 then up (up (p_R_rest (p_R_give P f v) f 4 ((P 44 0) + 1000) v) 49 0 5) 46 0 ((P 46 0) + 1) else up (up (up (p_R_rest (p_R_give P f v) f 4 ((P 44 0) + 1000) v) 49 0 5) 40 (tn (P 46 0)) v) 46 0 ((P 46 0) + 1) else up (p_R_rest (p_R_give P f v) f 4 ((P 44 0) + 1000) v) 49 0 5 else if P 0 e = 18 then if 24 ≤ P 46 0 then up (p_R_rest (p_R_give P f v) f 4 ((P 44 0) + 1000) v) 46 0 ((P 46 0) + 1) else up (up (p_R_rest (p_R_give P f v) f 4 ((P 44 0) + 1000) v) 40 (tn (P 46 0)) v) 46 0 ((P 46 0) + 1) else p_R_rest (p_R_give P f v) f 4 ((P 44 0) + 1000) v else if P 0 e = 17 then if P 0 e = 18 then if 24 ≤ P 46 0 then up (up (p_R_give P f v) 49 0 5) 46 0 ((P 46 0) + 1) else up (up (up (p_R_give P f v) 49 0 5) 40 (tn (P 46 0)) v) 46 0 ((P 46 0) + 1) else up (p_R_give P f v) 49 0 5 else if P 0 e = 18 then if 24 ≤ P 46 0 then up (p_R_give P f v) 46 0 ((P 46 0) + 1) else up (up (p_R_give P f v) 40 (tn (P 46 0)) v) 46 0 ((P 46 0) + 1) else p_R_give P f v else p_R_others P f (P 0 e) e v else if 2 ≤ P 0 e then if P 0 e = 2 then p_R_fail P f 1 (P 1 e) else p_R_fail P f 2 (P 1 e) else if P 0 e = 0 then p_R_give P f (P 1 e) else p_R_give P f (v + (P 1 e)) else if P 22 f = 16 then p_R_fail P f 2 (-4) else if P 0 e = 9 then if P 0 e = 7 then if nI (asc P f (tn (P 22 f))) - 1 < 0 then p_R_does (up (p_R_frame P f e v) 10 f 1) f (P 1 e) v else p_R_does (up (up (p_R_frame P f e v) 10 f 1) 10 f ((p_R_frame P f e v) 31 ((16 * f) + (asc P f (tn (P 22 f)) - 1)))) f (P 1 e) v else if P 0 e = 8 then if nI (asc P f (tn (P 22 f))) - 1 < 0 then p_R_does (up (p_R_frame P f e v) 10 f 1) f (P 1 e) v else p_R_does (up (up (p_R_frame P f e v) 10 f 1) 10 f ((p_R_frame P f e v) 31 ((16 * f) + (asc P f (tn (P 22 f)) - 1)))) f (P 1 e) v else if nI (asc P f (tn (P 22 f))) - 1 < 0 then p_R_does (p_R_frame P f e v) f (P 1 e) v else p_R_does (up (p_R_frame P f e v) 10 f ((p_R_frame P f e v) 31 ((16 * f) + (asc P f (tn (P 22 f)) - 1)))) f (P 1 e) v else if P 0 e = 7 then p_R_does (up (p_R_frame P f e v) 10 f 1) f (P 1 e) v else if P 0 e = 8 then p_R_does (up (p_R_frame P f e v) 10 f 1) f (P 1 e) v else p_R_does (p_R_frame P f e v) f (P 1 e) v
set_option maxHeartbeats 4000000 in
set_option maxRecDepth 100000 in
theorem c_R_act (P : Pst) (f : Nat) (e : Nat) (v : Int32) (hW : WB P) (hf : f < 10) (he : e < 40) (hq1 : tn (P 43 0) + 1 ≤ tn (P 42 0)) (he1 : P 0 e = 15 → sm (P 1 e) 39) (hm : ¬ P 0 e < 19 → ¬ P 0 e = 25 → sm (P 1 e) 3) (hok : P 0 e = 22 → okk (tn (P 1 e)) v 10 (up (up (p_R_give P f v) 41 (tn (P 1 e)) 1) 38 (tn (P 1 e)) v)) (hput : ¬ P 46 0 < 0) : RC m_R_act 4 [.int (nI f), .int (nI e), .int v] P none (p_R_act P f e v) := by
  intro γ M hR
  have hd_ : sm (P 22 f) 16 := hW 22 f
  have hdb_ := hd_.2
  have hb_ : sm (P 42 0) 10 := hW 42 0
  have hbb_ := hb_.2
  refine Run.ofG (by decide) (by simp [cat_int, cat_rf]) (Nat.le_of_ble_eq_true rfl) ?_
  refine g_aload_n d_R_act_0 rfl ?_
  refine r_arr 0 hR (by decide) (by decide) fl_R_7 rfl d_R_act_1 ?_
  refine g_iload_n d_R_act_4 rfl ?_
  refine r_iald 0 e hR (by decide) rfl d_R_act_5 rfl (by show e < 40; omega) ?_
  refine g_istore d_R_act_6 (by decide) ?_
  refine g_aload_n d_R_act_8 rfl ?_
  refine r_arr 1 hR (by decide) (by decide) fl_R_13 rfl d_R_act_9 ?_
  refine g_iload_n d_R_act_12 rfl ?_
  refine r_iald 1 e hR (by decide) rfl d_R_act_13 rfl (by show e < 40; omega) ?_
  refine g_istore d_R_act_14 (by decide) ?_
  refine g_iload d_R_act_16 rfl ?_
  refine g_iconst (v := 4) d_R_act_18 (by decide) ?_
  refine g_bipush (v := 10) d_R_act_19 (by decide) ?_
  refine g_callS [.int (P 0 e), .int (4), .int (10)] cw_R_141 cs_R_in d_R_act_21 rfl rfl ⟨by simp, by simp⟩ (by decide) (Nat.le_refl _) (Nat.le_refl _) (fun _ _ h => h) (c_R_in (P 0 e) 4 10 _ _) (fun r_ M_ h_ _ => ?_)
  obtain ⟨rfl, rfl⟩ := h_
  refine g_if_eq 161 d_R_act_24 (by decide) (fun c_24 => ?_) (fun c_24 => ?_)
  · skip
    refine g_iload d_R_act_161 rfl ?_
    refine g_iconst (v := 4) d_R_act_163 (by decide) ?_
    refine g_icmp_ge 216 d_R_act_164 (by decide) (fun c_164 => ?_) (fun c_164 => ?_)
    · skip
      refine g_iload d_R_act_216 rfl ?_
      refine g_bipush (v := 16) d_R_act_218 (by decide) ?_
      refine g_icmp_ge 235 d_R_act_220 (by decide) (fun c_220 => ?_) (fun c_220 => ?_)
      · skip
        refine g_iload d_R_act_235 rfl ?_
        refine g_bipush (v := 19) d_R_act_237 (by decide) ?_
        refine g_icmp_ge 339 d_R_act_239 (by decide) (fun c_239 => ?_) (fun c_239 => ?_)
        · skip
          refine g_iload d_R_act_339 rfl ?_
          refine g_bipush (v := 25) d_R_act_341 (by decide) ?_
          refine g_icmp_ne 370 d_R_act_343 (by decide) (fun c_343 => ?_) (fun c_343 => ?_)
          · have h3_ := (hm (lt19 c_239) c_343).2
            refine g_aload_n d_R_act_370 rfl ?_
            refine g_iload_n d_R_act_371 rfl ?_
            refine g_iload d_R_act_372 rfl ?_
            refine g_iload d_R_act_374 rfl ?_
            refine g_iload_n d_R_act_376 rfl ?_
            refine r_call [.int (nI f), .int (P 0 e), .int (nI (tn (P 1 e))), .int (v)] hR cw_R_243 cv_R_shared d_R_act_377 rfl (by rw [← (show (P 1 e : Int32) = nI (tn (P 1 e)) from (hm (lt19 c_239) c_343).1)]; try rfl) ⟨by simp, by simp⟩ (by decide) (c_R_shared _ f (P 0 e) (tn (P 1 e)) v hW (by omega) (by omega) hok (by omega)) (fun M hR => ?_)
            exact g_return d_R_act_380 rfl ⟨rfl, by unfold p_R_act; rw [if_pos (show a_R_in (P 0 e) 4 10 = 0 from c_24), if_pos (show 4 ≤ P 0 e from c_164), if_pos (show 16 ≤ P 0 e from c_220), if_pos (show 19 ≤ P 0 e from c_239), if_neg (show ¬ (P 0 e = 25) from c_343)]; exact hR⟩
          · skip
            refine g_aload_n d_R_act_346 rfl ?_
            refine g_iload_n d_R_act_347 rfl ?_
            refine g_iload_n d_R_act_348 rfl ?_
            refine g_if_eq 357 d_R_act_349 (by decide) (fun c_349 => ?_) (fun c_349 => ?_)
            · skip
              refine g_aload_n d_R_act_357 rfl ?_
              refine r_arr 2 hR (by decide) (by decide) fl_R_16 rfl d_R_act_358 ?_
              refine g_iload_n d_R_act_361 rfl ?_
              refine r_iald 2 e hR (by decide) rfl d_R_act_362 rfl (by show e < 40; omega) ?_
              refine g_iload_n d_R_act_363 rfl ?_
              refine r_call [.int (nI f), .int (P 2 e), .int (v)] hR cw_R_233 cv_R_does d_R_act_364 rfl rfl ⟨by simp, by simp⟩ (by decide) (c_R_does _ f (P 2 e) v (by omega)) (fun M hR => ?_)
              refine g_goto 380 d_R_act_367 (by decide) ?_
              exact g_return d_R_act_380 rfl ⟨rfl, by unfold p_R_act; rw [if_pos (show a_R_in (P 0 e) 4 10 = 0 from c_24), if_pos (show 4 ≤ P 0 e from c_164), if_pos (show 16 ≤ P 0 e from c_220), if_pos (show 19 ≤ P 0 e from c_239), if_pos (show P 0 e = 25 from c_343), if_pos (show v = 0 from c_349)]; exact hR⟩
            · skip
              refine g_iload d_R_act_352 rfl ?_
              refine g_goto 363 d_R_act_354 (by decide) ?_
              refine g_iload_n d_R_act_363 rfl ?_
              refine r_call [.int (nI f), .int (P 1 e), .int (v)] hR cw_R_233 cv_R_does d_R_act_364 rfl rfl ⟨by simp, by simp⟩ (by decide) (c_R_does _ f (P 1 e) v (by omega)) (fun M hR => ?_)
              refine g_goto 380 d_R_act_367 (by decide) ?_
              exact g_return d_R_act_380 rfl ⟨rfl, by unfold p_R_act; rw [if_pos (show a_R_in (P 0 e) 4 10 = 0 from c_24), if_pos (show 4 ≤ P 0 e from c_164), if_pos (show 16 ≤ P 0 e from c_220), if_pos (show 19 ≤ P 0 e from c_239), if_pos (show P 0 e = 25 from c_343), if_neg (show ¬ (v = 0) from c_349)]; exact hR⟩
        · skip
          refine g_aload_n d_R_act_242 rfl ?_
          refine g_iload_n d_R_act_243 rfl ?_
          refine g_iload_n d_R_act_244 rfl ?_
          refine r_call [.int (nI f), .int (v)] hR cw_R_198 cv_R_give d_R_act_245 rfl rfl ⟨by simp, by simp⟩ (by decide) (c_R_give _ f v (by omega)) (fun M hR => ?_)
          refine g_iload d_R_act_248 rfl ?_
          refine g_bipush (v := 16) d_R_act_250 (by decide) ?_
          refine g_icmp_ne 288 d_R_act_252 (by decide) (fun c_252 => ?_) (fun c_252 => ?_)
          · skip
            refine g_iload d_R_act_288 rfl ?_
            refine g_bipush (v := 17) d_R_act_290 (by decide) ?_
            refine g_icmp_ne 300 d_R_act_292 (by decide) (fun c_292 => ?_) (fun c_292 => ?_)
            · skip
              refine g_iload d_R_act_300 rfl ?_
              refine g_bipush (v := 18) d_R_act_302 (by decide) ?_
              refine g_icmp_ne 380 d_R_act_304 (by decide) (fun c_304 => ?_) (fun c_304 => ?_)
              · skip
                exact g_return d_R_act_380 rfl ⟨rfl, by unfold p_R_act; rw [if_pos (show a_R_in (P 0 e) 4 10 = 0 from c_24), if_pos (show 4 ≤ P 0 e from c_164), if_pos (show 16 ≤ P 0 e from c_220), if_neg (show ¬ (19 ≤ P 0 e) from c_239), if_neg (show ¬ (P 0 e = 16) from c_252), if_neg (show ¬ (P 0 e = 17) from c_292), if_neg (show ¬ (P 0 e = 18) from c_304)]; exact hR⟩
              · skip
                refine g_aload_n d_R_act_307 rfl ?_
                refine r_geti 46 hR (by decide) rfl fl_R_169 rfl d_R_act_308 ?_
                refine g_bipush (v := 24) d_R_act_311 (by decide) ?_
                refine g_icmp_ge 326 d_R_act_313 (by decide) (fun c_313 => ?_) (fun c_313 => ?_)
                · skip
                  refine g_aload_n d_R_act_326 rfl ?_
                  refine g_dup d_R_act_327 ?_
                  refine r_geti 46 hR (by decide) rfl fl_R_169 rfl d_R_act_328 ?_
                  refine g_iconst (v := 1) d_R_act_331 (by decide) ?_
                  refine g_iadd d_R_act_332 ?_
                  refine r_puti 46 hR (by decide) rfl fl_R_169 (Or.inr (fun r h => by cases h; rfl)) rfl d_R_act_333 (fun M hR => ?_)
                  refine g_goto 380 d_R_act_336 (by decide) ?_
                  exact g_return d_R_act_380 rfl ⟨rfl, by unfold p_R_act; rw [if_pos (show a_R_in (P 0 e) 4 10 = 0 from c_24), if_pos (show 4 ≤ P 0 e from c_164), if_pos (show 16 ≤ P 0 e from c_220), if_neg (show ¬ (19 ≤ P 0 e) from c_239), if_neg (show ¬ (P 0 e = 16) from c_252), if_neg (show ¬ (P 0 e = 17) from c_292), if_pos (show P 0 e = 18 from c_304), if_pos (show 24 ≤ P 46 0 from c_313)]; exact hR⟩
                · have h24_ := lt_24 hput c_313
                  refine g_aload_n d_R_act_316 rfl ?_
                  refine r_arr 40 hR (by decide) (by decide) fl_R_128 rfl d_R_act_317 ?_
                  refine g_aload_n d_R_act_320 rfl ?_
                  refine r_geti 46 hR (by decide) rfl fl_R_169 rfl d_R_act_321 ?_
                  refine g_iload_n d_R_act_324 rfl ?_
                  refine r_iast 40 (tn (P 46 0)) hR (by decide) rfl d_R_act_325 (tn_of hput) (by show tn (P 46 0) < 24; omega) (fun M hR => ?_)
                  refine g_aload_n d_R_act_326 rfl ?_
                  refine g_dup d_R_act_327 ?_
                  refine r_geti 46 hR (by decide) rfl fl_R_169 rfl d_R_act_328 ?_
                  refine g_iconst (v := 1) d_R_act_331 (by decide) ?_
                  refine g_iadd d_R_act_332 ?_
                  refine r_puti 46 hR (by decide) rfl fl_R_169 (Or.inr (fun r h => by cases h; rfl)) rfl d_R_act_333 (fun M hR => ?_)
                  refine g_goto 380 d_R_act_336 (by decide) ?_
                  exact g_return d_R_act_380 rfl ⟨rfl, by unfold p_R_act; rw [if_pos (show a_R_in (P 0 e) 4 10 = 0 from c_24), if_pos (show 4 ≤ P 0 e from c_164), if_pos (show 16 ≤ P 0 e from c_220), if_neg (show ¬ (19 ≤ P 0 e) from c_239), if_neg (show ¬ (P 0 e = 16) from c_252), if_neg (show ¬ (P 0 e = 17) from c_292), if_pos (show P 0 e = 18 from c_304), if_neg (show ¬ (24 ≤ P 46 0) from c_313)]; exact hR⟩
            · skip
              refine g_aload_n d_R_act_295 rfl ?_
              refine g_iconst (v := 5) d_R_act_296 (by decide) ?_
              refine r_puti 49 hR (by decide) rfl fl_R_215 (Or.inr (fun r h => by cases h; rfl)) rfl d_R_act_297 (fun M hR => ?_)
              refine g_iload d_R_act_300 rfl ?_
              refine g_bipush (v := 18) d_R_act_302 (by decide) ?_
              refine g_icmp_ne 380 d_R_act_304 (by decide) (fun c_304 => ?_) (fun c_304 => ?_)
              · skip
                exact g_return d_R_act_380 rfl ⟨rfl, by unfold p_R_act; rw [if_pos (show a_R_in (P 0 e) 4 10 = 0 from c_24), if_pos (show 4 ≤ P 0 e from c_164), if_pos (show 16 ≤ P 0 e from c_220), if_neg (show ¬ (19 ≤ P 0 e) from c_239), if_neg (show ¬ (P 0 e = 16) from c_252), if_pos (show P 0 e = 17 from c_292), if_neg (show ¬ (P 0 e = 18) from c_304)]; exact hR⟩
              · skip
                refine g_aload_n d_R_act_307 rfl ?_
                refine r_geti 46 hR (by decide) rfl fl_R_169 rfl d_R_act_308 ?_
                refine g_bipush (v := 24) d_R_act_311 (by decide) ?_
                refine g_icmp_ge 326 d_R_act_313 (by decide) (fun c_313 => ?_) (fun c_313 => ?_)
                · skip
                  refine g_aload_n d_R_act_326 rfl ?_
                  refine g_dup d_R_act_327 ?_
                  refine r_geti 46 hR (by decide) rfl fl_R_169 rfl d_R_act_328 ?_
                  refine g_iconst (v := 1) d_R_act_331 (by decide) ?_
                  refine g_iadd d_R_act_332 ?_
                  refine r_puti 46 hR (by decide) rfl fl_R_169 (Or.inr (fun r h => by cases h; rfl)) rfl d_R_act_333 (fun M hR => ?_)
                  refine g_goto 380 d_R_act_336 (by decide) ?_
                  exact g_return d_R_act_380 rfl ⟨rfl, by unfold p_R_act; rw [if_pos (show a_R_in (P 0 e) 4 10 = 0 from c_24), if_pos (show 4 ≤ P 0 e from c_164), if_pos (show 16 ≤ P 0 e from c_220), if_neg (show ¬ (19 ≤ P 0 e) from c_239), if_neg (show ¬ (P 0 e = 16) from c_252), if_pos (show P 0 e = 17 from c_292), if_pos (show P 0 e = 18 from c_304), if_pos (show 24 ≤ P 46 0 from c_313)]; exact hR⟩
                · have h24_ := lt_24 hput c_313
                  refine g_aload_n d_R_act_316 rfl ?_
                  refine r_arr 40 hR (by decide) (by decide) fl_R_128 rfl d_R_act_317 ?_
                  refine g_aload_n d_R_act_320 rfl ?_
                  refine r_geti 46 hR (by decide) rfl fl_R_169 rfl d_R_act_321 ?_
                  refine g_iload_n d_R_act_324 rfl ?_
                  refine r_iast 40 (tn (P 46 0)) hR (by decide) rfl d_R_act_325 (tn_of hput) (by show tn (P 46 0) < 24; omega) (fun M hR => ?_)
                  refine g_aload_n d_R_act_326 rfl ?_
                  refine g_dup d_R_act_327 ?_
                  refine r_geti 46 hR (by decide) rfl fl_R_169 rfl d_R_act_328 ?_
                  refine g_iconst (v := 1) d_R_act_331 (by decide) ?_
                  refine g_iadd d_R_act_332 ?_
                  refine r_puti 46 hR (by decide) rfl fl_R_169 (Or.inr (fun r h => by cases h; rfl)) rfl d_R_act_333 (fun M hR => ?_)
                  refine g_goto 380 d_R_act_336 (by decide) ?_
                  exact g_return d_R_act_380 rfl ⟨rfl, by unfold p_R_act; rw [if_pos (show a_R_in (P 0 e) 4 10 = 0 from c_24), if_pos (show 4 ≤ P 0 e from c_164), if_pos (show 16 ≤ P 0 e from c_220), if_neg (show ¬ (19 ≤ P 0 e) from c_239), if_neg (show ¬ (P 0 e = 16) from c_252), if_pos (show P 0 e = 17 from c_292), if_pos (show P 0 e = 18 from c_304), if_neg (show ¬ (24 ≤ P 46 0) from c_313)]; exact hR⟩
          · skip
            refine g_iload d_R_act_255 rfl ?_
            refine g_if_le 288 d_R_act_257 (by decide) (fun c_257 => ?_) (fun c_257 => ?_)
            · skip
              refine g_iload d_R_act_288 rfl ?_
              refine g_bipush (v := 17) d_R_act_290 (by decide) ?_
              refine g_icmp_ne 300 d_R_act_292 (by decide) (fun c_292 => ?_) (fun c_292 => ?_)
              · skip
                refine g_iload d_R_act_300 rfl ?_
                refine g_bipush (v := 18) d_R_act_302 (by decide) ?_
                refine g_icmp_ne 380 d_R_act_304 (by decide) (fun c_304 => ?_) (fun c_304 => ?_)
                · skip
                  exact g_return d_R_act_380 rfl ⟨rfl, by unfold p_R_act; rw [if_pos (show a_R_in (P 0 e) 4 10 = 0 from c_24), if_pos (show 4 ≤ P 0 e from c_164), if_pos (show 16 ≤ P 0 e from c_220), if_neg (show ¬ (19 ≤ P 0 e) from c_239), if_pos (show P 0 e = 16 from c_252), if_pos (show P 1 e ≤ 0 from c_257), if_neg (show ¬ (P 0 e = 17) from c_292), if_neg (show ¬ (P 0 e = 18) from c_304)]; exact hR⟩
                · skip
                  refine g_aload_n d_R_act_307 rfl ?_
                  refine r_geti 46 hR (by decide) rfl fl_R_169 rfl d_R_act_308 ?_
                  refine g_bipush (v := 24) d_R_act_311 (by decide) ?_
                  refine g_icmp_ge 326 d_R_act_313 (by decide) (fun c_313 => ?_) (fun c_313 => ?_)
                  · skip
                    refine g_aload_n d_R_act_326 rfl ?_
                    refine g_dup d_R_act_327 ?_
                    refine r_geti 46 hR (by decide) rfl fl_R_169 rfl d_R_act_328 ?_
                    refine g_iconst (v := 1) d_R_act_331 (by decide) ?_
                    refine g_iadd d_R_act_332 ?_
                    refine r_puti 46 hR (by decide) rfl fl_R_169 (Or.inr (fun r h => by cases h; rfl)) rfl d_R_act_333 (fun M hR => ?_)
                    refine g_goto 380 d_R_act_336 (by decide) ?_
                    exact g_return d_R_act_380 rfl ⟨rfl, by unfold p_R_act; rw [if_pos (show a_R_in (P 0 e) 4 10 = 0 from c_24), if_pos (show 4 ≤ P 0 e from c_164), if_pos (show 16 ≤ P 0 e from c_220), if_neg (show ¬ (19 ≤ P 0 e) from c_239), if_pos (show P 0 e = 16 from c_252), if_pos (show P 1 e ≤ 0 from c_257), if_neg (show ¬ (P 0 e = 17) from c_292), if_pos (show P 0 e = 18 from c_304), if_pos (show 24 ≤ P 46 0 from c_313)]; exact hR⟩
                  · have h24_ := lt_24 hput c_313
                    refine g_aload_n d_R_act_316 rfl ?_
                    refine r_arr 40 hR (by decide) (by decide) fl_R_128 rfl d_R_act_317 ?_
                    refine g_aload_n d_R_act_320 rfl ?_
                    refine r_geti 46 hR (by decide) rfl fl_R_169 rfl d_R_act_321 ?_
                    refine g_iload_n d_R_act_324 rfl ?_
                    refine r_iast 40 (tn (P 46 0)) hR (by decide) rfl d_R_act_325 (tn_of hput) (by show tn (P 46 0) < 24; omega) (fun M hR => ?_)
                    refine g_aload_n d_R_act_326 rfl ?_
                    refine g_dup d_R_act_327 ?_
                    refine r_geti 46 hR (by decide) rfl fl_R_169 rfl d_R_act_328 ?_
                    refine g_iconst (v := 1) d_R_act_331 (by decide) ?_
                    refine g_iadd d_R_act_332 ?_
                    refine r_puti 46 hR (by decide) rfl fl_R_169 (Or.inr (fun r h => by cases h; rfl)) rfl d_R_act_333 (fun M hR => ?_)
                    refine g_goto 380 d_R_act_336 (by decide) ?_
                    exact g_return d_R_act_380 rfl ⟨rfl, by unfold p_R_act; rw [if_pos (show a_R_in (P 0 e) 4 10 = 0 from c_24), if_pos (show 4 ≤ P 0 e from c_164), if_pos (show 16 ≤ P 0 e from c_220), if_neg (show ¬ (19 ≤ P 0 e) from c_239), if_pos (show P 0 e = 16 from c_252), if_pos (show P 1 e ≤ 0 from c_257), if_neg (show ¬ (P 0 e = 17) from c_292), if_pos (show P 0 e = 18 from c_304), if_neg (show ¬ (24 ≤ P 46 0) from c_313)]; exact hR⟩
              · skip
                refine g_aload_n d_R_act_295 rfl ?_
                refine g_iconst (v := 5) d_R_act_296 (by decide) ?_
                refine r_puti 49 hR (by decide) rfl fl_R_215 (Or.inr (fun r h => by cases h; rfl)) rfl d_R_act_297 (fun M hR => ?_)
                refine g_iload d_R_act_300 rfl ?_
                refine g_bipush (v := 18) d_R_act_302 (by decide) ?_
                refine g_icmp_ne 380 d_R_act_304 (by decide) (fun c_304 => ?_) (fun c_304 => ?_)
                · skip
                  exact g_return d_R_act_380 rfl ⟨rfl, by unfold p_R_act; rw [if_pos (show a_R_in (P 0 e) 4 10 = 0 from c_24), if_pos (show 4 ≤ P 0 e from c_164), if_pos (show 16 ≤ P 0 e from c_220), if_neg (show ¬ (19 ≤ P 0 e) from c_239), if_pos (show P 0 e = 16 from c_252), if_pos (show P 1 e ≤ 0 from c_257), if_pos (show P 0 e = 17 from c_292), if_neg (show ¬ (P 0 e = 18) from c_304)]; exact hR⟩
                · skip
                  refine g_aload_n d_R_act_307 rfl ?_
                  refine r_geti 46 hR (by decide) rfl fl_R_169 rfl d_R_act_308 ?_
                  refine g_bipush (v := 24) d_R_act_311 (by decide) ?_
                  refine g_icmp_ge 326 d_R_act_313 (by decide) (fun c_313 => ?_) (fun c_313 => ?_)
                  · skip
                    refine g_aload_n d_R_act_326 rfl ?_
                    refine g_dup d_R_act_327 ?_
                    refine r_geti 46 hR (by decide) rfl fl_R_169 rfl d_R_act_328 ?_
                    refine g_iconst (v := 1) d_R_act_331 (by decide) ?_
                    refine g_iadd d_R_act_332 ?_
                    refine r_puti 46 hR (by decide) rfl fl_R_169 (Or.inr (fun r h => by cases h; rfl)) rfl d_R_act_333 (fun M hR => ?_)
                    refine g_goto 380 d_R_act_336 (by decide) ?_
                    exact g_return d_R_act_380 rfl ⟨rfl, by unfold p_R_act; rw [if_pos (show a_R_in (P 0 e) 4 10 = 0 from c_24), if_pos (show 4 ≤ P 0 e from c_164), if_pos (show 16 ≤ P 0 e from c_220), if_neg (show ¬ (19 ≤ P 0 e) from c_239), if_pos (show P 0 e = 16 from c_252), if_pos (show P 1 e ≤ 0 from c_257), if_pos (show P 0 e = 17 from c_292), if_pos (show P 0 e = 18 from c_304), if_pos (show 24 ≤ P 46 0 from c_313)]; exact hR⟩
                  · have h24_ := lt_24 hput c_313
                    refine g_aload_n d_R_act_316 rfl ?_
                    refine r_arr 40 hR (by decide) (by decide) fl_R_128 rfl d_R_act_317 ?_
                    refine g_aload_n d_R_act_320 rfl ?_
                    refine r_geti 46 hR (by decide) rfl fl_R_169 rfl d_R_act_321 ?_
                    refine g_iload_n d_R_act_324 rfl ?_
                    refine r_iast 40 (tn (P 46 0)) hR (by decide) rfl d_R_act_325 (tn_of hput) (by show tn (P 46 0) < 24; omega) (fun M hR => ?_)
                    refine g_aload_n d_R_act_326 rfl ?_
                    refine g_dup d_R_act_327 ?_
                    refine r_geti 46 hR (by decide) rfl fl_R_169 rfl d_R_act_328 ?_
                    refine g_iconst (v := 1) d_R_act_331 (by decide) ?_
                    refine g_iadd d_R_act_332 ?_
                    refine r_puti 46 hR (by decide) rfl fl_R_169 (Or.inr (fun r h => by cases h; rfl)) rfl d_R_act_333 (fun M hR => ?_)
                    refine g_goto 380 d_R_act_336 (by decide) ?_
                    exact g_return d_R_act_380 rfl ⟨rfl, by unfold p_R_act; rw [if_pos (show a_R_in (P 0 e) 4 10 = 0 from c_24), if_pos (show 4 ≤ P 0 e from c_164), if_pos (show 16 ≤ P 0 e from c_220), if_neg (show ¬ (19 ≤ P 0 e) from c_239), if_pos (show P 0 e = 16 from c_252), if_pos (show P 1 e ≤ 0 from c_257), if_pos (show P 0 e = 17 from c_292), if_pos (show P 0 e = 18 from c_304), if_neg (show ¬ (24 ≤ P 46 0) from c_313)]; exact hR⟩
            · skip
              refine g_aload_n d_R_act_260 rfl ?_
              refine g_iload_n d_R_act_261 rfl ?_
              refine g_iconst (v := 4) d_R_act_262 (by decide) ?_
              refine g_aload_n d_R_act_263 rfl ?_
              refine r_geti 44 hR (by decide) rfl fl_R_163 rfl d_R_act_264 ?_
              refine g_iload d_R_act_267 rfl ?_
              refine g_sipush (v := 1000) d_R_act_269 (by decide) ?_
              refine g_icmp_le 281 d_R_act_272 (by decide) (fun c_272 => ?_) (fun c_272 => ?_)
              · skip
                refine g_iload d_R_act_281 rfl ?_
                refine g_iadd d_R_act_283 ?_
                refine g_iload_n d_R_act_284 rfl ?_
                refine r_call [.int (nI f), .int (4), .int ((P 44 0) + (P 1 e)), .int (v)] hR cw_R_240 cv_R_rest d_R_act_285 rfl rfl ⟨by simp, by simp⟩ (by decide) (c_R_rest _ f 4 ((P 44 0) + (P 1 e)) v (by omega)) (fun M hR => ?_)
                refine g_iload d_R_act_288 rfl ?_
                refine g_bipush (v := 17) d_R_act_290 (by decide) ?_
                refine g_icmp_ne 300 d_R_act_292 (by decide) (fun c_292 => ?_) (fun c_292 => ?_)
                · skip
                  refine g_iload d_R_act_300 rfl ?_
                  refine g_bipush (v := 18) d_R_act_302 (by decide) ?_
                  refine g_icmp_ne 380 d_R_act_304 (by decide) (fun c_304 => ?_) (fun c_304 => ?_)
                  · skip
                    exact g_return d_R_act_380 rfl ⟨rfl, by unfold p_R_act; rw [if_pos (show a_R_in (P 0 e) 4 10 = 0 from c_24), if_pos (show 4 ≤ P 0 e from c_164), if_pos (show 16 ≤ P 0 e from c_220), if_neg (show ¬ (19 ≤ P 0 e) from c_239), if_pos (show P 0 e = 16 from c_252), if_neg (show ¬ (P 1 e ≤ 0) from c_257), if_pos (show P 1 e ≤ 1000 from c_272), if_neg (show ¬ (P 0 e = 17) from c_292), if_neg (show ¬ (P 0 e = 18) from c_304)]; exact hR⟩
                  · skip
                    refine g_aload_n d_R_act_307 rfl ?_
                    refine r_geti 46 hR (by decide) rfl fl_R_169 rfl d_R_act_308 ?_
                    refine g_bipush (v := 24) d_R_act_311 (by decide) ?_
                    refine g_icmp_ge 326 d_R_act_313 (by decide) (fun c_313 => ?_) (fun c_313 => ?_)
                    · skip
                      refine g_aload_n d_R_act_326 rfl ?_
                      refine g_dup d_R_act_327 ?_
                      refine r_geti 46 hR (by decide) rfl fl_R_169 rfl d_R_act_328 ?_
                      refine g_iconst (v := 1) d_R_act_331 (by decide) ?_
                      refine g_iadd d_R_act_332 ?_
                      refine r_puti 46 hR (by decide) rfl fl_R_169 (Or.inr (fun r h => by cases h; rfl)) rfl d_R_act_333 (fun M hR => ?_)
                      refine g_goto 380 d_R_act_336 (by decide) ?_
                      exact g_return d_R_act_380 rfl ⟨rfl, by unfold p_R_act; rw [if_pos (show a_R_in (P 0 e) 4 10 = 0 from c_24), if_pos (show 4 ≤ P 0 e from c_164), if_pos (show 16 ≤ P 0 e from c_220), if_neg (show ¬ (19 ≤ P 0 e) from c_239), if_pos (show P 0 e = 16 from c_252), if_neg (show ¬ (P 1 e ≤ 0) from c_257), if_pos (show P 1 e ≤ 1000 from c_272), if_neg (show ¬ (P 0 e = 17) from c_292), if_pos (show P 0 e = 18 from c_304), if_pos (show 24 ≤ P 46 0 from c_313)]; exact hR⟩
                    · have h24_ := lt_24 hput c_313
                      refine g_aload_n d_R_act_316 rfl ?_
                      refine r_arr 40 hR (by decide) (by decide) fl_R_128 rfl d_R_act_317 ?_
                      refine g_aload_n d_R_act_320 rfl ?_
                      refine r_geti 46 hR (by decide) rfl fl_R_169 rfl d_R_act_321 ?_
                      refine g_iload_n d_R_act_324 rfl ?_
                      refine r_iast 40 (tn (P 46 0)) hR (by decide) rfl d_R_act_325 (tn_of hput) (by show tn (P 46 0) < 24; omega) (fun M hR => ?_)
                      refine g_aload_n d_R_act_326 rfl ?_
                      refine g_dup d_R_act_327 ?_
                      refine r_geti 46 hR (by decide) rfl fl_R_169 rfl d_R_act_328 ?_
                      refine g_iconst (v := 1) d_R_act_331 (by decide) ?_
                      refine g_iadd d_R_act_332 ?_
                      refine r_puti 46 hR (by decide) rfl fl_R_169 (Or.inr (fun r h => by cases h; rfl)) rfl d_R_act_333 (fun M hR => ?_)
                      refine g_goto 380 d_R_act_336 (by decide) ?_
                      exact g_return d_R_act_380 rfl ⟨rfl, by unfold p_R_act; rw [if_pos (show a_R_in (P 0 e) 4 10 = 0 from c_24), if_pos (show 4 ≤ P 0 e from c_164), if_pos (show 16 ≤ P 0 e from c_220), if_neg (show ¬ (19 ≤ P 0 e) from c_239), if_pos (show P 0 e = 16 from c_252), if_neg (show ¬ (P 1 e ≤ 0) from c_257), if_pos (show P 1 e ≤ 1000 from c_272), if_neg (show ¬ (P 0 e = 17) from c_292), if_pos (show P 0 e = 18 from c_304), if_neg (show ¬ (24 ≤ P 46 0) from c_313)]; exact hR⟩
                · skip
                  refine g_aload_n d_R_act_295 rfl ?_
                  refine g_iconst (v := 5) d_R_act_296 (by decide) ?_
                  refine r_puti 49 hR (by decide) rfl fl_R_215 (Or.inr (fun r h => by cases h; rfl)) rfl d_R_act_297 (fun M hR => ?_)
                  refine g_iload d_R_act_300 rfl ?_
                  refine g_bipush (v := 18) d_R_act_302 (by decide) ?_
                  refine g_icmp_ne 380 d_R_act_304 (by decide) (fun c_304 => ?_) (fun c_304 => ?_)
                  · skip
                    exact g_return d_R_act_380 rfl ⟨rfl, by unfold p_R_act; rw [if_pos (show a_R_in (P 0 e) 4 10 = 0 from c_24), if_pos (show 4 ≤ P 0 e from c_164), if_pos (show 16 ≤ P 0 e from c_220), if_neg (show ¬ (19 ≤ P 0 e) from c_239), if_pos (show P 0 e = 16 from c_252), if_neg (show ¬ (P 1 e ≤ 0) from c_257), if_pos (show P 1 e ≤ 1000 from c_272), if_pos (show P 0 e = 17 from c_292), if_neg (show ¬ (P 0 e = 18) from c_304)]; exact hR⟩
                  · skip
                    refine g_aload_n d_R_act_307 rfl ?_
                    refine r_geti 46 hR (by decide) rfl fl_R_169 rfl d_R_act_308 ?_
                    refine g_bipush (v := 24) d_R_act_311 (by decide) ?_
                    refine g_icmp_ge 326 d_R_act_313 (by decide) (fun c_313 => ?_) (fun c_313 => ?_)
                    · skip
                      refine g_aload_n d_R_act_326 rfl ?_
                      refine g_dup d_R_act_327 ?_
                      refine r_geti 46 hR (by decide) rfl fl_R_169 rfl d_R_act_328 ?_
                      refine g_iconst (v := 1) d_R_act_331 (by decide) ?_
                      refine g_iadd d_R_act_332 ?_
                      refine r_puti 46 hR (by decide) rfl fl_R_169 (Or.inr (fun r h => by cases h; rfl)) rfl d_R_act_333 (fun M hR => ?_)
                      refine g_goto 380 d_R_act_336 (by decide) ?_
                      exact g_return d_R_act_380 rfl ⟨rfl, by unfold p_R_act; rw [if_pos (show a_R_in (P 0 e) 4 10 = 0 from c_24), if_pos (show 4 ≤ P 0 e from c_164), if_pos (show 16 ≤ P 0 e from c_220), if_neg (show ¬ (19 ≤ P 0 e) from c_239), if_pos (show P 0 e = 16 from c_252), if_neg (show ¬ (P 1 e ≤ 0) from c_257), if_pos (show P 1 e ≤ 1000 from c_272), if_pos (show P 0 e = 17 from c_292), if_pos (show P 0 e = 18 from c_304), if_pos (show 24 ≤ P 46 0 from c_313)]; exact hR⟩
                    · have h24_ := lt_24 hput c_313
                      refine g_aload_n d_R_act_316 rfl ?_
                      refine r_arr 40 hR (by decide) (by decide) fl_R_128 rfl d_R_act_317 ?_
                      refine g_aload_n d_R_act_320 rfl ?_
                      refine r_geti 46 hR (by decide) rfl fl_R_169 rfl d_R_act_321 ?_
                      refine g_iload_n d_R_act_324 rfl ?_
                      refine r_iast 40 (tn (P 46 0)) hR (by decide) rfl d_R_act_325 (tn_of hput) (by show tn (P 46 0) < 24; omega) (fun M hR => ?_)
                      refine g_aload_n d_R_act_326 rfl ?_
                      refine g_dup d_R_act_327 ?_
                      refine r_geti 46 hR (by decide) rfl fl_R_169 rfl d_R_act_328 ?_
                      refine g_iconst (v := 1) d_R_act_331 (by decide) ?_
                      refine g_iadd d_R_act_332 ?_
                      refine r_puti 46 hR (by decide) rfl fl_R_169 (Or.inr (fun r h => by cases h; rfl)) rfl d_R_act_333 (fun M hR => ?_)
                      refine g_goto 380 d_R_act_336 (by decide) ?_
                      exact g_return d_R_act_380 rfl ⟨rfl, by unfold p_R_act; rw [if_pos (show a_R_in (P 0 e) 4 10 = 0 from c_24), if_pos (show 4 ≤ P 0 e from c_164), if_pos (show 16 ≤ P 0 e from c_220), if_neg (show ¬ (19 ≤ P 0 e) from c_239), if_pos (show P 0 e = 16 from c_252), if_neg (show ¬ (P 1 e ≤ 0) from c_257), if_pos (show P 1 e ≤ 1000 from c_272), if_pos (show P 0 e = 17 from c_292), if_pos (show P 0 e = 18 from c_304), if_neg (show ¬ (24 ≤ P 46 0) from c_313)]; exact hR⟩
              · skip
                refine g_sipush (v := 1000) d_R_act_275 (by decide) ?_
                refine g_goto 283 d_R_act_278 (by decide) ?_
                refine g_iadd d_R_act_283 ?_
                refine g_iload_n d_R_act_284 rfl ?_
                refine r_call [.int (nI f), .int (4), .int ((P 44 0) + 1000), .int (v)] hR cw_R_240 cv_R_rest d_R_act_285 rfl rfl ⟨by simp, by simp⟩ (by decide) (c_R_rest _ f 4 ((P 44 0) + 1000) v (by omega)) (fun M hR => ?_)
                refine g_iload d_R_act_288 rfl ?_
                refine g_bipush (v := 17) d_R_act_290 (by decide) ?_
                refine g_icmp_ne 300 d_R_act_292 (by decide) (fun c_292 => ?_) (fun c_292 => ?_)
                · skip
                  refine g_iload d_R_act_300 rfl ?_
                  refine g_bipush (v := 18) d_R_act_302 (by decide) ?_
                  refine g_icmp_ne 380 d_R_act_304 (by decide) (fun c_304 => ?_) (fun c_304 => ?_)
                  · skip
                    exact g_return d_R_act_380 rfl ⟨rfl, by unfold p_R_act; rw [if_pos (show a_R_in (P 0 e) 4 10 = 0 from c_24), if_pos (show 4 ≤ P 0 e from c_164), if_pos (show 16 ≤ P 0 e from c_220), if_neg (show ¬ (19 ≤ P 0 e) from c_239), if_pos (show P 0 e = 16 from c_252), if_neg (show ¬ (P 1 e ≤ 0) from c_257), if_neg (show ¬ (P 1 e ≤ 1000) from c_272), if_neg (show ¬ (P 0 e = 17) from c_292), if_neg (show ¬ (P 0 e = 18) from c_304)]; exact hR⟩
                  · skip
                    refine g_aload_n d_R_act_307 rfl ?_
                    refine r_geti 46 hR (by decide) rfl fl_R_169 rfl d_R_act_308 ?_
                    refine g_bipush (v := 24) d_R_act_311 (by decide) ?_
                    refine g_icmp_ge 326 d_R_act_313 (by decide) (fun c_313 => ?_) (fun c_313 => ?_)
                    · skip
                      refine g_aload_n d_R_act_326 rfl ?_
                      refine g_dup d_R_act_327 ?_
                      refine r_geti 46 hR (by decide) rfl fl_R_169 rfl d_R_act_328 ?_
                      refine g_iconst (v := 1) d_R_act_331 (by decide) ?_
                      refine g_iadd d_R_act_332 ?_
                      refine r_puti 46 hR (by decide) rfl fl_R_169 (Or.inr (fun r h => by cases h; rfl)) rfl d_R_act_333 (fun M hR => ?_)
                      refine g_goto 380 d_R_act_336 (by decide) ?_
                      exact g_return d_R_act_380 rfl ⟨rfl, by unfold p_R_act; rw [if_pos (show a_R_in (P 0 e) 4 10 = 0 from c_24), if_pos (show 4 ≤ P 0 e from c_164), if_pos (show 16 ≤ P 0 e from c_220), if_neg (show ¬ (19 ≤ P 0 e) from c_239), if_pos (show P 0 e = 16 from c_252), if_neg (show ¬ (P 1 e ≤ 0) from c_257), if_neg (show ¬ (P 1 e ≤ 1000) from c_272), if_neg (show ¬ (P 0 e = 17) from c_292), if_pos (show P 0 e = 18 from c_304), if_pos (show 24 ≤ P 46 0 from c_313)]; exact hR⟩
                    · have h24_ := lt_24 hput c_313
                      refine g_aload_n d_R_act_316 rfl ?_
                      refine r_arr 40 hR (by decide) (by decide) fl_R_128 rfl d_R_act_317 ?_
                      refine g_aload_n d_R_act_320 rfl ?_
                      refine r_geti 46 hR (by decide) rfl fl_R_169 rfl d_R_act_321 ?_
                      refine g_iload_n d_R_act_324 rfl ?_
                      refine r_iast 40 (tn (P 46 0)) hR (by decide) rfl d_R_act_325 (tn_of hput) (by show tn (P 46 0) < 24; omega) (fun M hR => ?_)
                      refine g_aload_n d_R_act_326 rfl ?_
                      refine g_dup d_R_act_327 ?_
                      refine r_geti 46 hR (by decide) rfl fl_R_169 rfl d_R_act_328 ?_
                      refine g_iconst (v := 1) d_R_act_331 (by decide) ?_
                      refine g_iadd d_R_act_332 ?_
                      refine r_puti 46 hR (by decide) rfl fl_R_169 (Or.inr (fun r h => by cases h; rfl)) rfl d_R_act_333 (fun M hR => ?_)
                      refine g_goto 380 d_R_act_336 (by decide) ?_
                      exact g_return d_R_act_380 rfl ⟨rfl, by unfold p_R_act; rw [if_pos (show a_R_in (P 0 e) 4 10 = 0 from c_24), if_pos (show 4 ≤ P 0 e from c_164), if_pos (show 16 ≤ P 0 e from c_220), if_neg (show ¬ (19 ≤ P 0 e) from c_239), if_pos (show P 0 e = 16 from c_252), if_neg (show ¬ (P 1 e ≤ 0) from c_257), if_neg (show ¬ (P 1 e ≤ 1000) from c_272), if_neg (show ¬ (P 0 e = 17) from c_292), if_pos (show P 0 e = 18 from c_304), if_neg (show ¬ (24 ≤ P 46 0) from c_313)]; exact hR⟩
                · skip
                  refine g_aload_n d_R_act_295 rfl ?_
                  refine g_iconst (v := 5) d_R_act_296 (by decide) ?_
                  refine r_puti 49 hR (by decide) rfl fl_R_215 (Or.inr (fun r h => by cases h; rfl)) rfl d_R_act_297 (fun M hR => ?_)
                  refine g_iload d_R_act_300 rfl ?_
                  refine g_bipush (v := 18) d_R_act_302 (by decide) ?_
                  refine g_icmp_ne 380 d_R_act_304 (by decide) (fun c_304 => ?_) (fun c_304 => ?_)
                  · skip
                    exact g_return d_R_act_380 rfl ⟨rfl, by unfold p_R_act; rw [if_pos (show a_R_in (P 0 e) 4 10 = 0 from c_24), if_pos (show 4 ≤ P 0 e from c_164), if_pos (show 16 ≤ P 0 e from c_220), if_neg (show ¬ (19 ≤ P 0 e) from c_239), if_pos (show P 0 e = 16 from c_252), if_neg (show ¬ (P 1 e ≤ 0) from c_257), if_neg (show ¬ (P 1 e ≤ 1000) from c_272), if_pos (show P 0 e = 17 from c_292), if_neg (show ¬ (P 0 e = 18) from c_304)]; exact hR⟩
                  · skip
                    refine g_aload_n d_R_act_307 rfl ?_
                    refine r_geti 46 hR (by decide) rfl fl_R_169 rfl d_R_act_308 ?_
                    refine g_bipush (v := 24) d_R_act_311 (by decide) ?_
                    refine g_icmp_ge 326 d_R_act_313 (by decide) (fun c_313 => ?_) (fun c_313 => ?_)
                    · skip
                      refine g_aload_n d_R_act_326 rfl ?_
                      refine g_dup d_R_act_327 ?_
                      refine r_geti 46 hR (by decide) rfl fl_R_169 rfl d_R_act_328 ?_
                      refine g_iconst (v := 1) d_R_act_331 (by decide) ?_
                      refine g_iadd d_R_act_332 ?_
                      refine r_puti 46 hR (by decide) rfl fl_R_169 (Or.inr (fun r h => by cases h; rfl)) rfl d_R_act_333 (fun M hR => ?_)
                      refine g_goto 380 d_R_act_336 (by decide) ?_
                      exact g_return d_R_act_380 rfl ⟨rfl, by unfold p_R_act; rw [if_pos (show a_R_in (P 0 e) 4 10 = 0 from c_24), if_pos (show 4 ≤ P 0 e from c_164), if_pos (show 16 ≤ P 0 e from c_220), if_neg (show ¬ (19 ≤ P 0 e) from c_239), if_pos (show P 0 e = 16 from c_252), if_neg (show ¬ (P 1 e ≤ 0) from c_257), if_neg (show ¬ (P 1 e ≤ 1000) from c_272), if_pos (show P 0 e = 17 from c_292), if_pos (show P 0 e = 18 from c_304), if_pos (show 24 ≤ P 46 0 from c_313)]; exact hR⟩
                    · have h24_ := lt_24 hput c_313
                      refine g_aload_n d_R_act_316 rfl ?_
                      refine r_arr 40 hR (by decide) (by decide) fl_R_128 rfl d_R_act_317 ?_
                      refine g_aload_n d_R_act_320 rfl ?_
                      refine r_geti 46 hR (by decide) rfl fl_R_169 rfl d_R_act_321 ?_
                      refine g_iload_n d_R_act_324 rfl ?_
                      refine r_iast 40 (tn (P 46 0)) hR (by decide) rfl d_R_act_325 (tn_of hput) (by show tn (P 46 0) < 24; omega) (fun M hR => ?_)
                      refine g_aload_n d_R_act_326 rfl ?_
                      refine g_dup d_R_act_327 ?_
                      refine r_geti 46 hR (by decide) rfl fl_R_169 rfl d_R_act_328 ?_
                      refine g_iconst (v := 1) d_R_act_331 (by decide) ?_
                      refine g_iadd d_R_act_332 ?_
                      refine r_puti 46 hR (by decide) rfl fl_R_169 (Or.inr (fun r h => by cases h; rfl)) rfl d_R_act_333 (fun M hR => ?_)
                      refine g_goto 380 d_R_act_336 (by decide) ?_
                      exact g_return d_R_act_380 rfl ⟨rfl, by unfold p_R_act; rw [if_pos (show a_R_in (P 0 e) 4 10 = 0 from c_24), if_pos (show 4 ≤ P 0 e from c_164), if_pos (show 16 ≤ P 0 e from c_220), if_neg (show ¬ (19 ≤ P 0 e) from c_239), if_pos (show P 0 e = 16 from c_252), if_neg (show ¬ (P 1 e ≤ 0) from c_257), if_neg (show ¬ (P 1 e ≤ 1000) from c_272), if_pos (show P 0 e = 17 from c_292), if_pos (show P 0 e = 18 from c_304), if_neg (show ¬ (24 ≤ P 46 0) from c_313)]; exact hR⟩
      · skip
        refine g_aload_n d_R_act_223 rfl ?_
        refine g_iload_n d_R_act_224 rfl ?_
        refine g_iload d_R_act_225 rfl ?_
        refine g_iload_n d_R_act_227 rfl ?_
        refine g_iload_n d_R_act_228 rfl ?_
        refine r_call [.int (nI f), .int (P 0 e), .int (nI e), .int (v)] hR cw_R_236 cv_R_others d_R_act_229 rfl rfl ⟨by simp, by simp⟩ (by decide) (c_R_others _ f (P 0 e) e v hW (by omega) (by omega) hq1 he1) (fun M hR => ?_)
        refine g_goto 380 d_R_act_232 (by decide) ?_
        exact g_return d_R_act_380 rfl ⟨rfl, by unfold p_R_act; rw [if_pos (show a_R_in (P 0 e) 4 10 = 0 from c_24), if_pos (show 4 ≤ P 0 e from c_164), if_neg (show ¬ (16 ≤ P 0 e) from c_220)]; exact hR⟩
    · skip
      refine g_iload d_R_act_167 rfl ?_
      refine g_iconst (v := 2) d_R_act_169 (by decide) ?_
      refine g_icmp_ge 195 d_R_act_170 (by decide) (fun c_170 => ?_) (fun c_170 => ?_)
      · skip
        refine g_aload_n d_R_act_195 rfl ?_
        refine g_iload_n d_R_act_196 rfl ?_
        refine g_iload d_R_act_197 rfl ?_
        refine g_iconst (v := 2) d_R_act_199 (by decide) ?_
        refine g_icmp_ne 207 d_R_act_200 (by decide) (fun c_200 => ?_) (fun c_200 => ?_)
        · skip
          refine g_iconst (v := 2) d_R_act_207 (by decide) ?_
          refine g_iload d_R_act_208 rfl ?_
          refine r_call [.int (nI f), .int (2), .int (P 1 e)] hR cw_R_218 cv_R_fail d_R_act_210 rfl rfl ⟨by simp, by simp⟩ (by decide) (c_R_fail _ f 2 (P 1 e) (by omega)) (fun M hR => ?_)
          refine g_goto 380 d_R_act_213 (by decide) ?_
          exact g_return d_R_act_380 rfl ⟨rfl, by unfold p_R_act; rw [if_pos (show a_R_in (P 0 e) 4 10 = 0 from c_24), if_neg (show ¬ (4 ≤ P 0 e) from c_164), if_pos (show 2 ≤ P 0 e from c_170), if_neg (show ¬ (P 0 e = 2) from c_200)]; exact hR⟩
        · skip
          refine g_iconst (v := 1) d_R_act_203 (by decide) ?_
          refine g_goto 208 d_R_act_204 (by decide) ?_
          refine g_iload d_R_act_208 rfl ?_
          refine r_call [.int (nI f), .int (1), .int (P 1 e)] hR cw_R_218 cv_R_fail d_R_act_210 rfl rfl ⟨by simp, by simp⟩ (by decide) (c_R_fail _ f 1 (P 1 e) (by omega)) (fun M hR => ?_)
          refine g_goto 380 d_R_act_213 (by decide) ?_
          exact g_return d_R_act_380 rfl ⟨rfl, by unfold p_R_act; rw [if_pos (show a_R_in (P 0 e) 4 10 = 0 from c_24), if_neg (show ¬ (4 ≤ P 0 e) from c_164), if_pos (show 2 ≤ P 0 e from c_170), if_pos (show P 0 e = 2 from c_200)]; exact hR⟩
      · skip
        refine g_aload_n d_R_act_173 rfl ?_
        refine g_iload_n d_R_act_174 rfl ?_
        refine g_iload d_R_act_175 rfl ?_
        refine g_if_ne 185 d_R_act_177 (by decide) (fun c_177 => ?_) (fun c_177 => ?_)
        · skip
          refine g_iload_n d_R_act_185 rfl ?_
          refine g_iload d_R_act_186 rfl ?_
          refine g_iadd d_R_act_188 ?_
          refine r_call [.int (nI f), .int (v + (P 1 e))] hR cw_R_198 cv_R_give d_R_act_189 rfl rfl ⟨by simp, by simp⟩ (by decide) (c_R_give _ f (v + (P 1 e)) (by omega)) (fun M hR => ?_)
          refine g_goto 380 d_R_act_192 (by decide) ?_
          exact g_return d_R_act_380 rfl ⟨rfl, by unfold p_R_act; rw [if_pos (show a_R_in (P 0 e) 4 10 = 0 from c_24), if_neg (show ¬ (4 ≤ P 0 e) from c_164), if_neg (show ¬ (2 ≤ P 0 e) from c_170), if_neg (show ¬ (P 0 e = 0) from c_177)]; exact hR⟩
        · skip
          refine g_iload d_R_act_180 rfl ?_
          refine g_goto 189 d_R_act_182 (by decide) ?_
          refine r_call [.int (nI f), .int (P 1 e)] hR cw_R_198 cv_R_give d_R_act_189 rfl rfl ⟨by simp, by simp⟩ (by decide) (c_R_give _ f (P 1 e) (by omega)) (fun M hR => ?_)
          refine g_goto 380 d_R_act_192 (by decide) ?_
          exact g_return d_R_act_380 rfl ⟨rfl, by unfold p_R_act; rw [if_pos (show a_R_in (P 0 e) 4 10 = 0 from c_24), if_neg (show ¬ (4 ≤ P 0 e) from c_164), if_neg (show ¬ (2 ≤ P 0 e) from c_170), if_pos (show P 0 e = 0 from c_177)]; exact hR⟩
  · skip
    refine g_aload_n d_R_act_27 rfl ?_
    refine r_arr 22 hR (by decide) (by decide) fl_R_74 rfl d_R_act_28 ?_
    refine g_iload_n d_R_act_31 rfl ?_
    refine r_iald 22 f hR (by decide) rfl d_R_act_32 rfl (by show f < 10; omega) ?_
    have w_1 : sm (P 22 f) 16 := hW 22 f
    have w_1b := w_1.2
    refine g_bipush (v := 16) d_R_act_33 (by decide) ?_
    refine g_icmp_ne 47 d_R_act_35 (by decide) (fun c_35 => ?_) (fun c_35 => ?_)
    · have h16_ : tn (P 22 f) < 16 := ne_lt hd_ (rfl : (16 : Int32) = nI 16) c_35
      refine g_aload_n d_R_act_47 rfl ?_
      refine r_arr 22 hR (by decide) (by decide) fl_R_74 rfl d_R_act_48 ?_
      refine g_iload_n d_R_act_51 rfl ?_
      refine r_iald 22 f hR (by decide) rfl d_R_act_52 rfl (by show f < 10; omega) ?_
      have w_2 : sm (P 22 f) 16 := hW 22 f
      have w_2b := w_2.2
      refine g_iconst (v := 1) d_R_act_53 (by decide) ?_
      refine g_isub d_R_act_54 ?_
      refine g_istore d_R_act_55 (by decide) ?_
      by_cases c_57 : P 0 e = 9
      · refine lo_act P f e v (P 0 e) (P 1 e) hf c_57 (tn (P 22 f)) _ _ hd_.2 (congrArg (fun z : Int32 => z - 1) hd_.1) hR (fun x M hx hR => ?_)
        subst hx
        refine g_aload_n d_R_act_92 rfl ?_
        refine g_iload_n d_R_act_93 rfl ?_
        refine g_iload_n d_R_act_94 rfl ?_
        refine g_iload_n d_R_act_95 rfl ?_
        refine r_call [.int (nI f), .int (nI e), .int (v)] hR cw_R_230 cv_R_frame d_R_act_96 rfl rfl ⟨by simp, by simp⟩ (by decide) (c_R_frame _ f e v (by omega) (by omega) (show sm _ 16 from hW 22 _).1 (by omega) (hW 10 _)) (fun M hR => ?_)
        refine g_iload d_R_act_99 rfl ?_
        refine g_bipush (v := 7) d_R_act_101 (by decide) ?_
        refine g_icmp_eq 113 d_R_act_103 (by decide) (fun c_103 => ?_) (fun c_103 => ?_)
        · skip
          refine g_aload_n d_R_act_113 rfl ?_
          refine r_arr 10 hR (by decide) (by decide) fl_R_37 rfl d_R_act_114 ?_
          refine g_iload_n d_R_act_117 rfl ?_
          refine g_iconst (v := 1) d_R_act_118 (by decide) ?_
          refine r_zast 10 f hR (by decide) rfl (by first | exact Or.inl rfl | exact Or.inr rfl | assumption | (simp_all; done)) d_R_act_119 rfl (by show f < 10; omega) (fun M hR => ?_)
          refine g_iload d_R_act_120 rfl ?_
          refine g_bipush (v := 9) d_R_act_122 (by decide) ?_
          refine g_icmp_ne 150 d_R_act_124 (by decide) (fun c_124 => ?_) (fun c_124 => ?_)
          · exact absurd (show P 0 e = 9 from c_57) c_124
          · skip
            refine g_iload d_R_act_127 rfl ?_
            refine g_if_lt 150 d_R_act_129 (by decide) (fun c_129 => ?_) (fun c_129 => ?_)
            · skip
              refine g_aload_n d_R_act_150 rfl ?_
              refine g_iload_n d_R_act_151 rfl ?_
              refine g_iload d_R_act_152 rfl ?_
              refine g_iload_n d_R_act_154 rfl ?_
              refine r_call [.int (nI f), .int (P 1 e), .int (v)] hR cw_R_233 cv_R_does d_R_act_155 rfl rfl ⟨by simp, by simp⟩ (by decide) (c_R_does _ f (P 1 e) v (by omega)) (fun M hR => ?_)
              refine g_goto 380 d_R_act_158 (by decide) ?_
              exact g_return d_R_act_380 rfl ⟨rfl, by unfold p_R_act; rw [if_neg (show ¬ (a_R_in (P 0 e) 4 10 = 0) from c_24), if_neg (show ¬ (P 22 f = 16) from c_35), if_pos (show P 0 e = 9 from c_57), if_pos (show P 0 e = 7 from c_103), if_pos (show nI (asc P f (tn (P 22 f))) - 1 < 0 from c_129)]; exact hR⟩
            · have ha_ := asc_pos (asc_bd P f _ hd_.2) c_129; have hal_ := asc_le P f (tn (P 22 f))
              refine g_aload_n d_R_act_132 rfl ?_
              refine r_arr 10 hR (by decide) (by decide) fl_R_37 rfl d_R_act_133 ?_
              refine g_iload_n d_R_act_136 rfl ?_
              refine g_aload_n d_R_act_137 rfl ?_
              refine r_arr 31 hR (by decide) (by decide) fl_R_101 rfl d_R_act_138 ?_
              refine g_bipush (v := 16) d_R_act_141 (by decide) ?_
              refine g_iload_n d_R_act_143 rfl ?_
              refine g_imul d_R_act_144 ?_
              refine g_iload d_R_act_145 rfl ?_
              refine g_iadd d_R_act_147 ?_
              refine r_zald 31 ((16 * f) + (asc P f (tn (P 22 f)) - 1)) hR (by decide) rfl d_R_act_148 (ix_add (ix_mul rfl rfl) (s1_ (asc_pos (asc_bd P f _ hd_.2) c_129))) (by show (16 * f) + (asc P f (tn (P 22 f)) - 1) < 160; omega) ?_
              refine r_zast 10 f hR (by decide) rfl ((wb_frame hW _ _ _ (by omega) (by omega)) 31 ((16 * f) + (asc P f (tn (P 22 f)) - 1))) d_R_act_149 rfl (by show f < 10; omega) (fun M hR => ?_)
              refine g_aload_n d_R_act_150 rfl ?_
              refine g_iload_n d_R_act_151 rfl ?_
              refine g_iload d_R_act_152 rfl ?_
              refine g_iload_n d_R_act_154 rfl ?_
              refine r_call [.int (nI f), .int (P 1 e), .int (v)] hR cw_R_233 cv_R_does d_R_act_155 rfl rfl ⟨by simp, by simp⟩ (by decide) (c_R_does _ f (P 1 e) v (by omega)) (fun M hR => ?_)
              refine g_goto 380 d_R_act_158 (by decide) ?_
              exact g_return d_R_act_380 rfl ⟨rfl, by unfold p_R_act; rw [if_neg (show ¬ (a_R_in (P 0 e) 4 10 = 0) from c_24), if_neg (show ¬ (P 22 f = 16) from c_35), if_pos (show P 0 e = 9 from c_57), if_pos (show P 0 e = 7 from c_103), if_neg (show ¬ (nI (asc P f (tn (P 22 f))) - 1 < 0) from c_129)]; exact hR⟩
        · skip
          refine g_iload d_R_act_106 rfl ?_
          refine g_bipush (v := 8) d_R_act_108 (by decide) ?_
          refine g_icmp_ne 120 d_R_act_110 (by decide) (fun c_110 => ?_) (fun c_110 => ?_)
          · skip
            refine g_iload d_R_act_120 rfl ?_
            refine g_bipush (v := 9) d_R_act_122 (by decide) ?_
            refine g_icmp_ne 150 d_R_act_124 (by decide) (fun c_124 => ?_) (fun c_124 => ?_)
            · exact absurd (show P 0 e = 9 from c_57) c_124
            · skip
              refine g_iload d_R_act_127 rfl ?_
              refine g_if_lt 150 d_R_act_129 (by decide) (fun c_129 => ?_) (fun c_129 => ?_)
              · skip
                refine g_aload_n d_R_act_150 rfl ?_
                refine g_iload_n d_R_act_151 rfl ?_
                refine g_iload d_R_act_152 rfl ?_
                refine g_iload_n d_R_act_154 rfl ?_
                refine r_call [.int (nI f), .int (P 1 e), .int (v)] hR cw_R_233 cv_R_does d_R_act_155 rfl rfl ⟨by simp, by simp⟩ (by decide) (c_R_does _ f (P 1 e) v (by omega)) (fun M hR => ?_)
                refine g_goto 380 d_R_act_158 (by decide) ?_
                exact g_return d_R_act_380 rfl ⟨rfl, by unfold p_R_act; rw [if_neg (show ¬ (a_R_in (P 0 e) 4 10 = 0) from c_24), if_neg (show ¬ (P 22 f = 16) from c_35), if_pos (show P 0 e = 9 from c_57), if_neg (show ¬ (P 0 e = 7) from c_103), if_neg (show ¬ (P 0 e = 8) from c_110), if_pos (show nI (asc P f (tn (P 22 f))) - 1 < 0 from c_129)]; exact hR⟩
              · have ha_ := asc_pos (asc_bd P f _ hd_.2) c_129; have hal_ := asc_le P f (tn (P 22 f))
                refine g_aload_n d_R_act_132 rfl ?_
                refine r_arr 10 hR (by decide) (by decide) fl_R_37 rfl d_R_act_133 ?_
                refine g_iload_n d_R_act_136 rfl ?_
                refine g_aload_n d_R_act_137 rfl ?_
                refine r_arr 31 hR (by decide) (by decide) fl_R_101 rfl d_R_act_138 ?_
                refine g_bipush (v := 16) d_R_act_141 (by decide) ?_
                refine g_iload_n d_R_act_143 rfl ?_
                refine g_imul d_R_act_144 ?_
                refine g_iload d_R_act_145 rfl ?_
                refine g_iadd d_R_act_147 ?_
                refine r_zald 31 ((16 * f) + (asc P f (tn (P 22 f)) - 1)) hR (by decide) rfl d_R_act_148 (ix_add (ix_mul rfl rfl) (s1_ (asc_pos (asc_bd P f _ hd_.2) c_129))) (by show (16 * f) + (asc P f (tn (P 22 f)) - 1) < 160; omega) ?_
                refine r_zast 10 f hR (by decide) rfl ((wb_frame hW _ _ _ (by omega) (by omega)) 31 ((16 * f) + (asc P f (tn (P 22 f)) - 1))) d_R_act_149 rfl (by show f < 10; omega) (fun M hR => ?_)
                refine g_aload_n d_R_act_150 rfl ?_
                refine g_iload_n d_R_act_151 rfl ?_
                refine g_iload d_R_act_152 rfl ?_
                refine g_iload_n d_R_act_154 rfl ?_
                refine r_call [.int (nI f), .int (P 1 e), .int (v)] hR cw_R_233 cv_R_does d_R_act_155 rfl rfl ⟨by simp, by simp⟩ (by decide) (c_R_does _ f (P 1 e) v (by omega)) (fun M hR => ?_)
                refine g_goto 380 d_R_act_158 (by decide) ?_
                exact g_return d_R_act_380 rfl ⟨rfl, by unfold p_R_act; rw [if_neg (show ¬ (a_R_in (P 0 e) 4 10 = 0) from c_24), if_neg (show ¬ (P 22 f = 16) from c_35), if_pos (show P 0 e = 9 from c_57), if_neg (show ¬ (P 0 e = 7) from c_103), if_neg (show ¬ (P 0 e = 8) from c_110), if_neg (show ¬ (nI (asc P f (tn (P 22 f))) - 1 < 0) from c_129)]; exact hR⟩
          · skip
            refine g_aload_n d_R_act_113 rfl ?_
            refine r_arr 10 hR (by decide) (by decide) fl_R_37 rfl d_R_act_114 ?_
            refine g_iload_n d_R_act_117 rfl ?_
            refine g_iconst (v := 1) d_R_act_118 (by decide) ?_
            refine r_zast 10 f hR (by decide) rfl (by first | exact Or.inl rfl | exact Or.inr rfl | assumption | (simp_all; done)) d_R_act_119 rfl (by show f < 10; omega) (fun M hR => ?_)
            refine g_iload d_R_act_120 rfl ?_
            refine g_bipush (v := 9) d_R_act_122 (by decide) ?_
            refine g_icmp_ne 150 d_R_act_124 (by decide) (fun c_124 => ?_) (fun c_124 => ?_)
            · exact absurd (show P 0 e = 9 from c_57) c_124
            · skip
              refine g_iload d_R_act_127 rfl ?_
              refine g_if_lt 150 d_R_act_129 (by decide) (fun c_129 => ?_) (fun c_129 => ?_)
              · skip
                refine g_aload_n d_R_act_150 rfl ?_
                refine g_iload_n d_R_act_151 rfl ?_
                refine g_iload d_R_act_152 rfl ?_
                refine g_iload_n d_R_act_154 rfl ?_
                refine r_call [.int (nI f), .int (P 1 e), .int (v)] hR cw_R_233 cv_R_does d_R_act_155 rfl rfl ⟨by simp, by simp⟩ (by decide) (c_R_does _ f (P 1 e) v (by omega)) (fun M hR => ?_)
                refine g_goto 380 d_R_act_158 (by decide) ?_
                exact g_return d_R_act_380 rfl ⟨rfl, by unfold p_R_act; rw [if_neg (show ¬ (a_R_in (P 0 e) 4 10 = 0) from c_24), if_neg (show ¬ (P 22 f = 16) from c_35), if_pos (show P 0 e = 9 from c_57), if_neg (show ¬ (P 0 e = 7) from c_103), if_pos (show P 0 e = 8 from c_110), if_pos (show nI (asc P f (tn (P 22 f))) - 1 < 0 from c_129)]; exact hR⟩
              · have ha_ := asc_pos (asc_bd P f _ hd_.2) c_129; have hal_ := asc_le P f (tn (P 22 f))
                refine g_aload_n d_R_act_132 rfl ?_
                refine r_arr 10 hR (by decide) (by decide) fl_R_37 rfl d_R_act_133 ?_
                refine g_iload_n d_R_act_136 rfl ?_
                refine g_aload_n d_R_act_137 rfl ?_
                refine r_arr 31 hR (by decide) (by decide) fl_R_101 rfl d_R_act_138 ?_
                refine g_bipush (v := 16) d_R_act_141 (by decide) ?_
                refine g_iload_n d_R_act_143 rfl ?_
                refine g_imul d_R_act_144 ?_
                refine g_iload d_R_act_145 rfl ?_
                refine g_iadd d_R_act_147 ?_
                refine r_zald 31 ((16 * f) + (asc P f (tn (P 22 f)) - 1)) hR (by decide) rfl d_R_act_148 (ix_add (ix_mul rfl rfl) (s1_ (asc_pos (asc_bd P f _ hd_.2) c_129))) (by show (16 * f) + (asc P f (tn (P 22 f)) - 1) < 160; omega) ?_
                refine r_zast 10 f hR (by decide) rfl ((wb_frame hW _ _ _ (by omega) (by omega)) 31 ((16 * f) + (asc P f (tn (P 22 f)) - 1))) d_R_act_149 rfl (by show f < 10; omega) (fun M hR => ?_)
                refine g_aload_n d_R_act_150 rfl ?_
                refine g_iload_n d_R_act_151 rfl ?_
                refine g_iload d_R_act_152 rfl ?_
                refine g_iload_n d_R_act_154 rfl ?_
                refine r_call [.int (nI f), .int (P 1 e), .int (v)] hR cw_R_233 cv_R_does d_R_act_155 rfl rfl ⟨by simp, by simp⟩ (by decide) (c_R_does _ f (P 1 e) v (by omega)) (fun M hR => ?_)
                refine g_goto 380 d_R_act_158 (by decide) ?_
                exact g_return d_R_act_380 rfl ⟨rfl, by unfold p_R_act; rw [if_neg (show ¬ (a_R_in (P 0 e) 4 10 = 0) from c_24), if_neg (show ¬ (P 22 f = 16) from c_35), if_pos (show P 0 e = 9 from c_57), if_neg (show ¬ (P 0 e = 7) from c_103), if_pos (show P 0 e = 8 from c_110), if_neg (show ¬ (nI (asc P f (tn (P 22 f))) - 1 < 0) from c_129)]; exact hR⟩
      refine g_iload d_R_act_57 rfl ?_
      refine g_bipush (v := 9) d_R_act_59 (by decide) ?_
      refine g_icmp_ne 92 d_R_act_61 (by decide) (fun c_61 => ?_) (fun c_61 => ?_)
      · skip
        refine g_aload_n d_R_act_92 rfl ?_
        refine g_iload_n d_R_act_93 rfl ?_
        refine g_iload_n d_R_act_94 rfl ?_
        refine g_iload_n d_R_act_95 rfl ?_
        refine r_call [.int (nI f), .int (nI e), .int (v)] hR cw_R_230 cv_R_frame d_R_act_96 rfl rfl ⟨by simp, by simp⟩ (by decide) (c_R_frame _ f e v (by omega) (by omega) (show sm _ 16 from hW 22 _).1 (by omega) (hW 10 _)) (fun M hR => ?_)
        refine g_iload d_R_act_99 rfl ?_
        refine g_bipush (v := 7) d_R_act_101 (by decide) ?_
        refine g_icmp_eq 113 d_R_act_103 (by decide) (fun c_103 => ?_) (fun c_103 => ?_)
        · skip
          refine g_aload_n d_R_act_113 rfl ?_
          refine r_arr 10 hR (by decide) (by decide) fl_R_37 rfl d_R_act_114 ?_
          refine g_iload_n d_R_act_117 rfl ?_
          refine g_iconst (v := 1) d_R_act_118 (by decide) ?_
          refine r_zast 10 f hR (by decide) rfl (by first | exact Or.inl rfl | exact Or.inr rfl | assumption | (simp_all; done)) d_R_act_119 rfl (by show f < 10; omega) (fun M hR => ?_)
          refine g_iload d_R_act_120 rfl ?_
          refine g_bipush (v := 9) d_R_act_122 (by decide) ?_
          refine g_icmp_ne 150 d_R_act_124 (by decide) (fun c_124 => ?_) (fun c_124 => ?_)
          · skip
            refine g_aload_n d_R_act_150 rfl ?_
            refine g_iload_n d_R_act_151 rfl ?_
            refine g_iload d_R_act_152 rfl ?_
            refine g_iload_n d_R_act_154 rfl ?_
            refine r_call [.int (nI f), .int (P 1 e), .int (v)] hR cw_R_233 cv_R_does d_R_act_155 rfl rfl ⟨by simp, by simp⟩ (by decide) (c_R_does _ f (P 1 e) v (by omega)) (fun M hR => ?_)
            refine g_goto 380 d_R_act_158 (by decide) ?_
            exact g_return d_R_act_380 rfl ⟨rfl, by unfold p_R_act; rw [if_neg (show ¬ (a_R_in (P 0 e) 4 10 = 0) from c_24), if_neg (show ¬ (P 22 f = 16) from c_35), if_neg (show ¬ (P 0 e = 9) from c_57), if_pos (show P 0 e = 7 from c_103)]; exact hR⟩
          · exact absurd (show P 0 e = 9 from c_124) c_57
        · skip
          refine g_iload d_R_act_106 rfl ?_
          refine g_bipush (v := 8) d_R_act_108 (by decide) ?_
          refine g_icmp_ne 120 d_R_act_110 (by decide) (fun c_110 => ?_) (fun c_110 => ?_)
          · skip
            refine g_iload d_R_act_120 rfl ?_
            refine g_bipush (v := 9) d_R_act_122 (by decide) ?_
            refine g_icmp_ne 150 d_R_act_124 (by decide) (fun c_124 => ?_) (fun c_124 => ?_)
            · skip
              refine g_aload_n d_R_act_150 rfl ?_
              refine g_iload_n d_R_act_151 rfl ?_
              refine g_iload d_R_act_152 rfl ?_
              refine g_iload_n d_R_act_154 rfl ?_
              refine r_call [.int (nI f), .int (P 1 e), .int (v)] hR cw_R_233 cv_R_does d_R_act_155 rfl rfl ⟨by simp, by simp⟩ (by decide) (c_R_does _ f (P 1 e) v (by omega)) (fun M hR => ?_)
              refine g_goto 380 d_R_act_158 (by decide) ?_
              exact g_return d_R_act_380 rfl ⟨rfl, by unfold p_R_act; rw [if_neg (show ¬ (a_R_in (P 0 e) 4 10 = 0) from c_24), if_neg (show ¬ (P 22 f = 16) from c_35), if_neg (show ¬ (P 0 e = 9) from c_57), if_neg (show ¬ (P 0 e = 7) from c_103), if_neg (show ¬ (P 0 e = 8) from c_110)]; exact hR⟩
            · exact absurd (show P 0 e = 9 from c_124) c_57
          · skip
            refine g_aload_n d_R_act_113 rfl ?_
            refine r_arr 10 hR (by decide) (by decide) fl_R_37 rfl d_R_act_114 ?_
            refine g_iload_n d_R_act_117 rfl ?_
            refine g_iconst (v := 1) d_R_act_118 (by decide) ?_
            refine r_zast 10 f hR (by decide) rfl (by first | exact Or.inl rfl | exact Or.inr rfl | assumption | (simp_all; done)) d_R_act_119 rfl (by show f < 10; omega) (fun M hR => ?_)
            refine g_iload d_R_act_120 rfl ?_
            refine g_bipush (v := 9) d_R_act_122 (by decide) ?_
            refine g_icmp_ne 150 d_R_act_124 (by decide) (fun c_124 => ?_) (fun c_124 => ?_)
            · skip
              refine g_aload_n d_R_act_150 rfl ?_
              refine g_iload_n d_R_act_151 rfl ?_
              refine g_iload d_R_act_152 rfl ?_
              refine g_iload_n d_R_act_154 rfl ?_
              refine r_call [.int (nI f), .int (P 1 e), .int (v)] hR cw_R_233 cv_R_does d_R_act_155 rfl rfl ⟨by simp, by simp⟩ (by decide) (c_R_does _ f (P 1 e) v (by omega)) (fun M hR => ?_)
              refine g_goto 380 d_R_act_158 (by decide) ?_
              exact g_return d_R_act_380 rfl ⟨rfl, by unfold p_R_act; rw [if_neg (show ¬ (a_R_in (P 0 e) 4 10 = 0) from c_24), if_neg (show ¬ (P 22 f = 16) from c_35), if_neg (show ¬ (P 0 e = 9) from c_57), if_neg (show ¬ (P 0 e = 7) from c_103), if_pos (show P 0 e = 8 from c_110)]; exact hR⟩
            · exact absurd (show P 0 e = 9 from c_124) c_57
      · exact absurd (show P 0 e = 9 from c_61) c_57
    · skip
      refine g_aload_n d_R_act_38 rfl ?_
      refine g_iload_n d_R_act_39 rfl ?_
      refine g_iconst (v := 2) d_R_act_40 (by decide) ?_
      refine g_bipush (v := -4) d_R_act_41 (by decide) ?_
      refine r_call [.int (nI f), .int (2), .int (-4)] hR cw_R_218 cv_R_fail d_R_act_43 rfl rfl ⟨by simp, by simp⟩ (by decide) (c_R_fail _ f 2 (-4) (by omega)) (fun M hR => ?_)
      exact g_return d_R_act_46 rfl ⟨rfl, by unfold p_R_act; rw [if_neg (show ¬ (a_R_in (P 0 e) 4 10 = 0) from c_24), if_pos (show P 22 f = 16 from c_35)]; exact hR⟩

