/-! the reference's constructor (by program: wip/tools/gen_ref14.py) -/
def RRp (m : Nat) (ra : Nat → Nat) (c : Nat) (M : Mm) : Prop := kd M m = some (8, 0, 52) ∧ (∀ f, f < 52 → rlen f = 0 → gi M m (512 + f) = 0) ∧ ∀ f, f < c → 0 < rlen f → gr M m (512 + f) = some (ra f) ∧ kd M (ra f) = some (rkd f, 9000 + f, rlen f) ∧ ∀ j, j < rlen f → gi M (ra f) (4096 + j) = 0
theorem RRp.skip {m : Nat} {ra : Nat → Nat} {c : Nat} {M : Mm} (h : RRp m ra c M) (hc : rlen c = 0) : RRp m ra (c + 1) M := by
  refine ⟨h.1, h.2.1, fun f hf lf => h.2.2 f ?_ lf⟩
  rcases Nat.lt_or_ge f c with q | q
  · exact q
  · rw [show f = c by omega] at lf
    omega
theorem RRp.add {m : Nat} {ra : Nat → Nat} {c : Nat} {M : Mm} (h : RRp m ra c M) {q : Nat} (hq : kd M q = none) : RRp m (fun f => if f = c then q else ra f) (c + 1) (sr (nw M q (rkd c) (9000 + c) (rlen c)) m (512 + c) (some q)) := by
  have hmq : m ≠ q := fun e => by rw [← e, h.1] at hq; cases hq
  refine ⟨?_, fun f hf lf => ?_, fun f hf lf => ?_⟩
  · rw [kd_sr, kd_nw, if_neg hmq]; exact h.1
  · rw [gi_sr, gi_nw, if_neg hmq]; exact h.2.1 f hf lf
  · by_cases e : f = c
    · subst e
      dsimp only
      rw [if_pos rfl]
      refine ⟨gr_sr_s _ _ _ _, by rw [kd_sr, kd_nw, if_pos rfl], fun j hj => ?_⟩
      rw [gi_sr, gi_nw, if_pos rfl]
    · dsimp only
      rw [if_neg e]
      obtain ⟨h1, h2, h3⟩ := h.2.2 f (by omega) lf
      have hrq : ra f ≠ q := fun e2 => by rw [e2, hq] at h2; cases h2
      refine ⟨?_, ?_, fun j hj => ?_⟩
      · rw [gr_sr_f (by omega), gr_nw, if_neg hmq]; exact h1
      · rw [kd_sr, kd_nw, if_neg hrq]; exact h2
      · rw [gi_sr, gi_nw, if_neg hrq]; exact h3 j hj
/-- the reference's state when it is made -/
def P00 : Pst := up (fun _ _ => 0) 48 0 (-1)
theorem RRp.full {m : Nat} {ra : Nat → Nat} {M : Mm} (h : RRp m ra 52 M) : RR (m, ra) (fun _ _ => 0) M := ⟨h.1, fun f hf => ⟨fun lf => h.2.1 f hf lf, fun lf => h.2.2 f hf lf⟩⟩
section InitRules
variable {mi : MI} {M0 : Mm} {Q : Option Value → Mm → Prop} {dep k n : Nat} {M : Mm} {pc : Nat} {L : List (Option Value)} {st : List Value} {m : Nat} {ra : Nat → Nat}
theorem r_initI {idx k' n' : Nat} {i : Int32} (c N : Nat) (h : RRp m ra c M) (hN : rlen c = N) (hb : rbool c = false) (hN2 : N < 2 ^ 27) (hi : i = nI N) (hd : decode mi.2.1 pc = .ok (.newarray .int, 2)) (hd2 : decode mi.2.1 (pc + 2) = .ok (.putfield idx, 3)) (hl : fl mi.1.cls idx 8 c) (hw : fw mi 8 c) (ht : kRef (kTy 8 c) = true) (hk : k' + 1 ≤ k) (hn : n' + N ≤ n) (kk : ∀ (ra : Nat → Nat) (M : Mm), RRp m ra (c + 1) M → G mi ownR M0 Q dep k' n' M (pc + 2 + 3) L st) : G mi ownR M0 Q dep k n M pc L (.int i :: va_rf (some m) :: st) := by
  refine g_newi (κ := 20) (9000 + c) rfl ac_int hd hi hN2 hk hn (fun q hq => ?_)
  have hmq : m ≠ q := fun e => by rw [← e, h.1] at hq; cases hq
  refine g_putr (512 + c) hl hw ht rfl hd2 rfl (by rw [kd_nw, if_neg hmq]; exact h.1) rfl ?_
  have h2 := h.add hq
  rw [show rkd c = 20 by unfold rkd; rw [hb]; rfl, hN] at h2
  exact kk _ _ h2
theorem r_initZ {idx k' n' : Nat} {i : Int32} (c N : Nat) (h : RRp m ra c M) (hN : rlen c = N) (hb : rbool c = true) (hN2 : N < 2 ^ 27) (hi : i = nI N) (hd : decode mi.2.1 pc = .ok (.newarray .boolean, 2)) (hd2 : decode mi.2.1 (pc + 2) = .ok (.putfield idx, 3)) (hl : fl mi.1.cls idx 8 c) (hw : fw mi 8 c) (ht : kRef (kTy 8 c) = true) (hk : k' + 1 ≤ k) (hn : n' + N ≤ n) (kk : ∀ (ra : Nat → Nat) (M : Mm), RRp m ra (c + 1) M → G mi ownR M0 Q dep k' n' M (pc + 2 + 3) L st) : G mi ownR M0 Q dep k n M pc L (.int i :: va_rf (some m) :: st) := by
  refine g_newz (κ := 21) (9000 + c) rfl ac_bool hd hi hN2 hk hn (fun q hq => ?_)
  have hmq : m ≠ q := fun e => by rw [← e, h.1] at hq; cases hq
  refine g_putr (512 + c) hl hw ht rfl hd2 rfl (by rw [kd_nw, if_neg hmq]; exact h.1) rfl ?_
  have h2 := h.add hq
  rw [show rkd c = 21 by unfold rkd; rw [hb]; rfl, hN] at h2
  exact kk _ _ h2
end InitRules
set_option maxHeartbeats 4000000 in
set_option maxRecDepth 100000 in
theorem c_R_init (m : Nat) (M : Mm) (hk : kd M m = some (8, 0, 52)) (h0 : ∀ f, gi M m f = 0) : Run m_R_init ownR 1 41 6199 [va_rf (some m)] M (fun r M' => r = none ∧ ∃ ra, RR (m, ra) P00 M') := by
  refine Run.ofG (by decide) (by simp [cat_int, cat_rf]) (Nat.le_of_ble_eq_true rfl) ?_
  have h : RRp m (fun _ => 0) 0 M := ⟨hk, fun f _ _ => h0 _, fun f hf => absurd hf (Nat.not_lt_zero f)⟩
  refine g_aload_n d_R_init_0 rfl ?_
  refine g_objInit ob_R_1 d_R_init_1 rfl ⟨by simp, by simp⟩ (by decide) ?_
  refine g_aload_n d_R_init_4 rfl ?_
  refine g_bipush (v := 40) d_R_init_5 (by decide) ?_
  refine r_initI (k' := 40) (n' := 6159) 0 40 h rfl rfl (by decide) rfl d_R_init_7 d_R_init_9 fl_R_7 (Or.inl ⟨rfl, fun r h => by cases h; rfl⟩) rfl (by decide) (by decide) (fun ra M h => ?_)
  refine g_aload_n d_R_init_12 rfl ?_
  refine g_bipush (v := 40) d_R_init_13 (by decide) ?_
  refine r_initI (k' := 39) (n' := 6119) 1 40 h rfl rfl (by decide) rfl d_R_init_15 d_R_init_17 fl_R_13 (Or.inl ⟨rfl, fun r h => by cases h; rfl⟩) rfl (by decide) (by decide) (fun ra M h => ?_)
  refine g_aload_n d_R_init_20 rfl ?_
  refine g_bipush (v := 40) d_R_init_21 (by decide) ?_
  refine r_initI (k' := 38) (n' := 6079) 2 40 h rfl rfl (by decide) rfl d_R_init_23 d_R_init_25 fl_R_16 (Or.inl ⟨rfl, fun r h => by cases h; rfl⟩) rfl (by decide) (by decide) (fun ra M h => ?_)
  refine g_aload_n d_R_init_28 rfl ?_
  refine g_bipush (v := 40) d_R_init_29 (by decide) ?_
  refine r_initI (k' := 37) (n' := 6039) 3 40 h rfl rfl (by decide) rfl d_R_init_31 d_R_init_33 fl_R_19 (Or.inl ⟨rfl, fun r h => by cases h; rfl⟩) rfl (by decide) (by decide) (fun ra M h => ?_)
  refine g_aload_n d_R_init_36 rfl ?_
  refine g_bipush (v := 10) d_R_init_37 (by decide) ?_
  have h := h.skip (c := 4) rfl
  refine r_initI (k' := 36) (n' := 6029) 5 10 h rfl rfl (by decide) rfl d_R_init_39 d_R_init_41 fl_R_22 (Or.inl ⟨rfl, fun r h => by cases h; rfl⟩) rfl (by decide) (by decide) (fun ra M h => ?_)
  refine g_aload_n d_R_init_44 rfl ?_
  refine g_bipush (v := 10) d_R_init_45 (by decide) ?_
  refine r_initI (k' := 35) (n' := 6019) 6 10 h rfl rfl (by decide) rfl d_R_init_47 d_R_init_49 fl_R_25 (Or.inl ⟨rfl, fun r h => by cases h; rfl⟩) rfl (by decide) (by decide) (fun ra M h => ?_)
  refine g_aload_n d_R_init_52 rfl ?_
  refine g_bipush (v := 10) d_R_init_53 (by decide) ?_
  refine r_initI (k' := 34) (n' := 6009) 7 10 h rfl rfl (by decide) rfl d_R_init_55 d_R_init_57 fl_R_28 (Or.inl ⟨rfl, fun r h => by cases h; rfl⟩) rfl (by decide) (by decide) (fun ra M h => ?_)
  refine g_aload_n d_R_init_60 rfl ?_
  refine g_bipush (v := 10) d_R_init_61 (by decide) ?_
  refine r_initI (k' := 33) (n' := 5999) 8 10 h rfl rfl (by decide) rfl d_R_init_63 d_R_init_65 fl_R_31 (Or.inl ⟨rfl, fun r h => by cases h; rfl⟩) rfl (by decide) (by decide) (fun ra M h => ?_)
  refine g_aload_n d_R_init_68 rfl ?_
  refine g_bipush (v := 10) d_R_init_69 (by decide) ?_
  refine r_initI (k' := 32) (n' := 5989) 9 10 h rfl rfl (by decide) rfl d_R_init_71 d_R_init_73 fl_R_34 (Or.inl ⟨rfl, fun r h => by cases h; rfl⟩) rfl (by decide) (by decide) (fun ra M h => ?_)
  refine g_aload_n d_R_init_76 rfl ?_
  refine g_bipush (v := 10) d_R_init_77 (by decide) ?_
  refine r_initZ (k' := 31) (n' := 5979) 10 10 h rfl rfl (by decide) rfl d_R_init_79 d_R_init_81 fl_R_37 (Or.inl ⟨rfl, fun r h => by cases h; rfl⟩) rfl (by decide) (by decide) (fun ra M h => ?_)
  refine g_aload_n d_R_init_84 rfl ?_
  refine g_bipush (v := 10) d_R_init_85 (by decide) ?_
  refine r_initI (k' := 30) (n' := 5969) 11 10 h rfl rfl (by decide) rfl d_R_init_87 d_R_init_89 fl_R_41 (Or.inl ⟨rfl, fun r h => by cases h; rfl⟩) rfl (by decide) (by decide) (fun ra M h => ?_)
  refine g_aload_n d_R_init_92 rfl ?_
  refine g_bipush (v := 10) d_R_init_93 (by decide) ?_
  refine r_initI (k' := 29) (n' := 5959) 12 10 h rfl rfl (by decide) rfl d_R_init_95 d_R_init_97 fl_R_44 (Or.inl ⟨rfl, fun r h => by cases h; rfl⟩) rfl (by decide) (by decide) (fun ra M h => ?_)
  refine g_aload_n d_R_init_100 rfl ?_
  refine g_bipush (v := 10) d_R_init_101 (by decide) ?_
  refine r_initI (k' := 28) (n' := 5949) 13 10 h rfl rfl (by decide) rfl d_R_init_103 d_R_init_105 fl_R_47 (Or.inl ⟨rfl, fun r h => by cases h; rfl⟩) rfl (by decide) (by decide) (fun ra M h => ?_)
  refine g_aload_n d_R_init_108 rfl ?_
  refine g_bipush (v := 10) d_R_init_109 (by decide) ?_
  refine r_initZ (k' := 27) (n' := 5939) 14 10 h rfl rfl (by decide) rfl d_R_init_111 d_R_init_113 fl_R_50 (Or.inl ⟨rfl, fun r h => by cases h; rfl⟩) rfl (by decide) (by decide) (fun ra M h => ?_)
  refine g_aload_n d_R_init_116 rfl ?_
  refine g_bipush (v := 10) d_R_init_117 (by decide) ?_
  refine r_initI (k' := 26) (n' := 5929) 15 10 h rfl rfl (by decide) rfl d_R_init_119 d_R_init_121 fl_R_53 (Or.inl ⟨rfl, fun r h => by cases h; rfl⟩) rfl (by decide) (by decide) (fun ra M h => ?_)
  refine g_aload_n d_R_init_124 rfl ?_
  refine g_bipush (v := 10) d_R_init_125 (by decide) ?_
  refine r_initI (k' := 25) (n' := 5919) 16 10 h rfl rfl (by decide) rfl d_R_init_127 d_R_init_129 fl_R_56 (Or.inl ⟨rfl, fun r h => by cases h; rfl⟩) rfl (by decide) (by decide) (fun ra M h => ?_)
  refine g_aload_n d_R_init_132 rfl ?_
  refine g_bipush (v := 10) d_R_init_133 (by decide) ?_
  refine r_initI (k' := 24) (n' := 5909) 17 10 h rfl rfl (by decide) rfl d_R_init_135 d_R_init_137 fl_R_59 (Or.inl ⟨rfl, fun r h => by cases h; rfl⟩) rfl (by decide) (by decide) (fun ra M h => ?_)
  refine g_aload_n d_R_init_140 rfl ?_
  refine g_bipush (v := 10) d_R_init_141 (by decide) ?_
  refine r_initI (k' := 23) (n' := 5899) 18 10 h rfl rfl (by decide) rfl d_R_init_143 d_R_init_145 fl_R_62 (Or.inl ⟨rfl, fun r h => by cases h; rfl⟩) rfl (by decide) (by decide) (fun ra M h => ?_)
  refine g_aload_n d_R_init_148 rfl ?_
  refine g_bipush (v := 10) d_R_init_149 (by decide) ?_
  refine r_initI (k' := 22) (n' := 5889) 19 10 h rfl rfl (by decide) rfl d_R_init_151 d_R_init_153 fl_R_65 (Or.inl ⟨rfl, fun r h => by cases h; rfl⟩) rfl (by decide) (by decide) (fun ra M h => ?_)
  refine g_aload_n d_R_init_156 rfl ?_
  refine g_bipush (v := 10) d_R_init_157 (by decide) ?_
  refine r_initI (k' := 21) (n' := 5879) 20 10 h rfl rfl (by decide) rfl d_R_init_159 d_R_init_161 fl_R_68 (Or.inl ⟨rfl, fun r h => by cases h; rfl⟩) rfl (by decide) (by decide) (fun ra M h => ?_)
  refine g_aload_n d_R_init_164 rfl ?_
  refine g_bipush (v := 10) d_R_init_165 (by decide) ?_
  refine r_initI (k' := 20) (n' := 5869) 21 10 h rfl rfl (by decide) rfl d_R_init_167 d_R_init_169 fl_R_71 (Or.inl ⟨rfl, fun r h => by cases h; rfl⟩) rfl (by decide) (by decide) (fun ra M h => ?_)
  refine g_aload_n d_R_init_172 rfl ?_
  refine g_bipush (v := 10) d_R_init_173 (by decide) ?_
  refine r_initI (k' := 19) (n' := 5859) 22 10 h rfl rfl (by decide) rfl d_R_init_175 d_R_init_177 fl_R_74 (Or.inl ⟨rfl, fun r h => by cases h; rfl⟩) rfl (by decide) (by decide) (fun ra M h => ?_)
  refine g_aload_n d_R_init_180 rfl ?_
  refine g_sipush (v := 160) d_R_init_181 (by decide) ?_
  refine r_initI (k' := 18) (n' := 5699) 23 160 h rfl rfl (by decide) rfl d_R_init_184 d_R_init_186 fl_R_77 (Or.inl ⟨rfl, fun r h => by cases h; rfl⟩) rfl (by decide) (by decide) (fun ra M h => ?_)
  refine g_aload_n d_R_init_189 rfl ?_
  refine g_sipush (v := 160) d_R_init_190 (by decide) ?_
  refine r_initI (k' := 17) (n' := 5539) 24 160 h rfl rfl (by decide) rfl d_R_init_193 d_R_init_195 fl_R_80 (Or.inl ⟨rfl, fun r h => by cases h; rfl⟩) rfl (by decide) (by decide) (fun ra M h => ?_)
  refine g_aload_n d_R_init_198 rfl ?_
  refine g_sipush (v := 160) d_R_init_199 (by decide) ?_
  refine r_initI (k' := 16) (n' := 5379) 25 160 h rfl rfl (by decide) rfl d_R_init_202 d_R_init_204 fl_R_83 (Or.inl ⟨rfl, fun r h => by cases h; rfl⟩) rfl (by decide) (by decide) (fun ra M h => ?_)
  refine g_aload_n d_R_init_207 rfl ?_
  refine g_sipush (v := 160) d_R_init_208 (by decide) ?_
  refine r_initI (k' := 15) (n' := 5219) 26 160 h rfl rfl (by decide) rfl d_R_init_211 d_R_init_213 fl_R_86 (Or.inl ⟨rfl, fun r h => by cases h; rfl⟩) rfl (by decide) (by decide) (fun ra M h => ?_)
  refine g_aload_n d_R_init_216 rfl ?_
  refine g_sipush (v := 160) d_R_init_217 (by decide) ?_
  refine r_initI (k' := 14) (n' := 5059) 27 160 h rfl rfl (by decide) rfl d_R_init_220 d_R_init_222 fl_R_89 (Or.inl ⟨rfl, fun r h => by cases h; rfl⟩) rfl (by decide) (by decide) (fun ra M h => ?_)
  refine g_aload_n d_R_init_225 rfl ?_
  refine g_sipush (v := 160) d_R_init_226 (by decide) ?_
  refine r_initI (k' := 13) (n' := 4899) 28 160 h rfl rfl (by decide) rfl d_R_init_229 d_R_init_231 fl_R_92 (Or.inl ⟨rfl, fun r h => by cases h; rfl⟩) rfl (by decide) (by decide) (fun ra M h => ?_)
  refine g_aload_n d_R_init_234 rfl ?_
  refine g_sipush (v := 640) d_R_init_235 (by decide) ?_
  refine r_initI (k' := 12) (n' := 4259) 29 640 h rfl rfl (by decide) rfl d_R_init_238 d_R_init_240 fl_R_95 (Or.inl ⟨rfl, fun r h => by cases h; rfl⟩) rfl (by decide) (by decide) (fun ra M h => ?_)
  refine g_aload_n d_R_init_243 rfl ?_
  refine g_sipush (v := 640) d_R_init_244 (by decide) ?_
  refine r_initI (k' := 11) (n' := 3619) 30 640 h rfl rfl (by decide) rfl d_R_init_247 d_R_init_249 fl_R_98 (Or.inl ⟨rfl, fun r h => by cases h; rfl⟩) rfl (by decide) (by decide) (fun ra M h => ?_)
  refine g_aload_n d_R_init_252 rfl ?_
  refine g_sipush (v := 160) d_R_init_253 (by decide) ?_
  refine r_initZ (k' := 10) (n' := 3459) 31 160 h rfl rfl (by decide) rfl d_R_init_256 d_R_init_258 fl_R_101 (Or.inl ⟨rfl, fun r h => by cases h; rfl⟩) rfl (by decide) (by decide) (fun ra M h => ?_)
  refine g_aload_n d_R_init_261 rfl ?_
  refine g_sipush (v := 160) d_R_init_262 (by decide) ?_
  refine r_initZ (k' := 9) (n' := 3299) 32 160 h rfl rfl (by decide) rfl d_R_init_265 d_R_init_267 fl_R_104 (Or.inl ⟨rfl, fun r h => by cases h; rfl⟩) rfl (by decide) (by decide) (fun ra M h => ?_)
  refine g_aload_n d_R_init_270 rfl ?_
  refine g_sipush (v := 171) d_R_init_271 (by decide) ?_
  refine r_initI (k' := 8) (n' := 3128) 33 171 h rfl rfl (by decide) rfl d_R_init_274 d_R_init_276 fl_R_107 (Or.inl ⟨rfl, fun r h => by cases h; rfl⟩) rfl (by decide) (by decide) (fun ra M h => ?_)
  refine g_aload_n d_R_init_279 rfl ?_
  refine g_sipush (v := 1539) d_R_init_280 (by decide) ?_
  refine r_initI (k' := 7) (n' := 1589) 34 1539 h rfl rfl (by decide) rfl d_R_init_283 d_R_init_285 fl_R_110 (Or.inl ⟨rfl, fun r h => by cases h; rfl⟩) rfl (by decide) (by decide) (fun ra M h => ?_)
  refine g_aload_n d_R_init_288 rfl ?_
  refine g_sipush (v := 1539) d_R_init_289 (by decide) ?_
  refine r_initI (k' := 6) (n' := 50) 35 1539 h rfl rfl (by decide) rfl d_R_init_292 d_R_init_294 fl_R_113 (Or.inl ⟨rfl, fun r h => by cases h; rfl⟩) rfl (by decide) (by decide) (fun ra M h => ?_)
  refine g_aload_n d_R_init_297 rfl ?_
  refine g_bipush (v := 10) d_R_init_298 (by decide) ?_
  refine r_initI (k' := 5) (n' := 40) 36 10 h rfl rfl (by decide) rfl d_R_init_300 d_R_init_302 fl_R_116 (Or.inl ⟨rfl, fun r h => by cases h; rfl⟩) rfl (by decide) (by decide) (fun ra M h => ?_)
  refine g_aload_n d_R_init_305 rfl ?_
  refine g_iconst (v := 4) d_R_init_306 (by decide) ?_
  refine r_initI (k' := 4) (n' := 36) 37 4 h rfl rfl (by decide) rfl d_R_init_307 d_R_init_309 fl_R_119 (Or.inl ⟨rfl, fun r h => by cases h; rfl⟩) rfl (by decide) (by decide) (fun ra M h => ?_)
  refine g_aload_n d_R_init_312 rfl ?_
  refine g_iconst (v := 4) d_R_init_313 (by decide) ?_
  refine r_initI (k' := 3) (n' := 32) 38 4 h rfl rfl (by decide) rfl d_R_init_314 d_R_init_316 fl_R_122 (Or.inl ⟨rfl, fun r h => by cases h; rfl⟩) rfl (by decide) (by decide) (fun ra M h => ?_)
  refine g_aload_n d_R_init_319 rfl ?_
  refine g_iconst (v := 4) d_R_init_320 (by decide) ?_
  refine r_initI (k' := 2) (n' := 28) 39 4 h rfl rfl (by decide) rfl d_R_init_321 d_R_init_323 fl_R_125 (Or.inl ⟨rfl, fun r h => by cases h; rfl⟩) rfl (by decide) (by decide) (fun ra M h => ?_)
  refine g_aload_n d_R_init_326 rfl ?_
  refine g_bipush (v := 24) d_R_init_327 (by decide) ?_
  refine r_initI (k' := 1) (n' := 4) 40 24 h rfl rfl (by decide) rfl d_R_init_329 d_R_init_331 fl_R_128 (Or.inl ⟨rfl, fun r h => by cases h; rfl⟩) rfl (by decide) (by decide) (fun ra M h => ?_)
  refine g_aload_n d_R_init_334 rfl ?_
  refine g_iconst (v := 4) d_R_init_335 (by decide) ?_
  refine r_initZ (k' := 0) (n' := 0) 41 4 h rfl rfl (by decide) rfl d_R_init_336 d_R_init_338 fl_R_131 (Or.inl ⟨rfl, fun r h => by cases h; rfl⟩) rfl (by decide) (by decide) (fun ra M h => ?_)
  refine g_aload_n d_R_init_341 rfl ?_
  refine g_iconst (v := -1) d_R_init_342 (by decide) ?_
  have h := h.skip (c := 42) rfl
  have h := h.skip (c := 43) rfl
  have h := h.skip (c := 44) rfl
  have h := h.skip (c := 45) rfl
  have h := h.skip (c := 46) rfl
  have h := h.skip (c := 47) rfl
  have h := h.skip (c := 48) rfl
  have h := h.skip (c := 49) rfl
  have h := h.skip (c := 50) rfl
  have h := h.skip (c := 51) rfl
  have hR := h.full
  refine r_puti (γ := (m, ra)) 48 hR (by decide) rfl fl_R_134 (Or.inr (fun r h => by cases h; rfl)) rfl d_R_init_343 (fun M hR => ?_)
  exact g_return d_R_init_346 rfl ⟨rfl, ra, hR⟩
