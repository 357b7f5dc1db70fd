/-! THE CLASS's STATE as a view: cells by kind and number, what they hold by code (64 * kind + place) and number; causes and closers by address -/
abbrev Gs : Type := (Nat → Nat → Nat) × (Nat → Nat → Bool) × Pst × (Nat → Nat → Option Nat) × (Nat → Option (List (Int32 × Int32))) × (Nat → Option (Option Nat × Int32 × Option Nat))
def ad (S : Gs) : Nat → Nat → Nat := S.1
def lv (S : Gs) : Nat → Nat → Bool := S.2.1
def vi (S : Gs) : Pst := S.2.2.1
def vr (S : Gs) : Nat → Nat → Option Nat := S.2.2.2.1
def kc (S : Gs) : Nat → Option (List (Int32 × Int32)) := S.2.2.2.2.1
def kl (S : Gs) : Nat → Option (Option Nat × Int32 × Option Nat) := S.2.2.2.2.2
def ck (c τ : Nat) : Nat × Nat × Nat := match c with
  | 0 => (0, τ, 13)
  | 1 => (1, τ, 2)
  | 2 => (2, τ, 6)
  | 3 => (3, τ, 5)
  | 4 => (4, τ, 16)
  | 5 => (5, τ, 8)
  | 20 => (20, 4 * τ, 10)
  | 21 => (20, 4 * τ + 1, 24)
  | 22 => (22, τ, 40)
  | 23 => (23, τ, 10)
  | 24 => (24, τ, 4)
  | _ => (99, τ, 0)
def okc (c : Nat) : Bool := decide (c < 6) || (decide (20 ≤ c) && decide (c < 25))
def dk (x : Nat × Nat × Nat) : Nat × Nat := if x.1 = 20 then (if x.2.1 % 4 = 0 then (20, x.2.1 / 4) else (21, x.2.1 / 4)) else (x.1, x.2.1)
theorem okc_cases {c : Nat} (h : okc c = true) : c = 0 ∨ c = 1 ∨ c = 2 ∨ c = 3 ∨ c = 4 ∨ c = 5 ∨ c = 20 ∨ c = 21 ∨ c = 22 ∨ c = 23 ∨ c = 24 := by
  unfold okc at h
  simp at h
  omega
theorem dk_ck {c : Nat} (h : okc c = true) (τ : Nat) : dk (ck c τ) = (c, τ) := by
  rcases okc_cases h with e | e | e | e | e | e | e | e | e | e | e <;> subst e <;> simp [dk, ck] <;> omega
theorem ck_inj {c c' τ τ' : Nat} (h : okc c = true) (h' : okc c' = true) (e : ck c τ = ck c' τ') : c = c' ∧ τ = τ' := by
  have := congrArg dk e
  rw [dk_ck h, dk_ck h'] at this
  exact ⟨congrArg Prod.fst this, congrArg Prod.snd this⟩
theorem ck_nc {c : Nat} (h : okc c = true) (τ t u N : Nat) : ck c τ ≠ (7, t, 2) ∧ ck c τ ≠ (20, 4 * u + 2, N) ∧ ck c τ ≠ (6, t, 3) := by
  rcases okc_cases h with e | e | e | e | e | e | e | e | e | e | e <;> subst e <;> simp [ck] <;> omega
def sl (c k : Nat) : Nat := if c < 8 then 64 * c + k else 4096 + k
theorem sl_inj {c k k' : Nat} (h : sl c k = sl c k') : k = k' := by
  unfold sl at h
  split at h <;> omega
def IsK (M : Mm) (a : Nat) (q : Option Nat × Int32 × Option Nat) : Prop := ∃ t : Nat, kd M a = some (6, t, 3) ∧ gr M a 384 = q.1 ∧ gi M a 385 = q.2.1 ∧ gr M a 386 = q.2.2
def VM (S : Gs) (M : Mm) : Prop := (∀ c τ : Nat, lv S c τ = true → okc c = true ∧ kd M (ad S c τ) = some (ck c τ) ∧ ∀ k : Nat, k < 64 → gi M (ad S c τ) (sl c k) = vi S (64 * c + k) τ ∧ gr M (ad S c τ) (sl c k) = vr S (64 * c + k) τ) ∧ (∀ a l, kc S a = some l → IsC M a l) ∧ ∀ a q, kl S a = some q → IsK M a q
def ui (S : Gs) (f τ : Nat) (x : Int32) : Gs := (S.1, S.2.1, up S.2.2.1 f τ x, S.2.2.2)
def ur (S : Gs) (f τ : Nat) (x : Option Nat) : Gs := (S.1, S.2.1, S.2.2.1, (fun g t => if g = f ∧ t = τ then x else S.2.2.2.1 g t), S.2.2.2.2)
def un (S : Gs) (c τ a : Nat) : Gs := ((fun d t => if d = c ∧ t = τ then a else S.1 d t), (fun d t => if d = c ∧ t = τ then true else S.2.1 d t), (fun g t => if t = τ ∧ 64 * c ≤ g ∧ g < 64 * c + 64 then 0 else S.2.2.1 g t), (fun g t => if t = τ ∧ 64 * c ≤ g ∧ g < 64 * c + 64 then none else S.2.2.2.1 g t), S.2.2.2.2)
def ukc (S : Gs) (a : Nat) (l : List (Int32 × Int32)) : Gs := (S.1, S.2.1, S.2.2.1, S.2.2.2.1, (fun b => if b = a then some l else S.2.2.2.2.1 b), S.2.2.2.2.2)
def ukl (S : Gs) (a : Nat) (q : Option Nat × Int32 × Option Nat) : Gs := (S.1, S.2.1, S.2.2.1, S.2.2.2.1, S.2.2.2.2.1, fun b => if b = a then some q else S.2.2.2.2.2 b)
theorem vi_ui (S : Gs) (f τ : Nat) (x : Int32) : vi (ui S f τ x) = up (vi S) f τ x := rfl
theorem vi_ui_s (S : Gs) (f τ : Nat) (x : Int32) : vi (ui S f τ x) f τ = x := up_s _ _ _ _
theorem vi_ui_f {f g : Nat} (h : g ≠ f) (S : Gs) (τ t : Nat) (x : Int32) : vi (ui S f τ x) g t = vi S g t := up_f h _ _ _ _
theorem vi_ui_j {τ t : Nat} (h : t ≠ τ) (S : Gs) (f g : Nat) (x : Int32) : vi (ui S f τ x) g t = vi S g t := up_j h _ _ _ _
theorem vr_ui (S : Gs) (f τ : Nat) (x : Int32) (g t : Nat) : vr (ui S f τ x) g t = vr S g t := rfl
theorem vi_ur (S : Gs) (f τ : Nat) (x : Option Nat) (g t : Nat) : vi (ur S f τ x) g t = vi S g t := rfl
theorem vr_ur (S : Gs) (f τ : Nat) (x : Option Nat) (g t : Nat) : vr (ur S f τ x) g t = if g = f ∧ t = τ then x else vr S g t := rfl
theorem vr_ur_s (S : Gs) (f τ : Nat) (x : Option Nat) : vr (ur S f τ x) f τ = x := by rw [vr_ur, if_pos ⟨rfl, rfl⟩]
theorem vr_ur_f {f g : Nat} (h : g ≠ f) (S : Gs) (τ t : Nat) (x : Option Nat) : vr (ur S f τ x) g t = vr S g t := by rw [vr_ur, if_neg (fun q => h q.1)]
theorem vr_ur_j {τ t : Nat} (h : t ≠ τ) (S : Gs) (f g : Nat) (x : Option Nat) : vr (ur S f τ x) g t = vr S g t := by rw [vr_ur, if_neg (fun q => h q.2)]
theorem vi_un (S : Gs) (c τ a g t : Nat) : vi (un S c τ a) g t = if t = τ ∧ 64 * c ≤ g ∧ g < 64 * c + 64 then 0 else vi S g t := rfl
theorem vr_un (S : Gs) (c τ a g t : Nat) : vr (un S c τ a) g t = if t = τ ∧ 64 * c ≤ g ∧ g < 64 * c + 64 then none else vr S g t := rfl
theorem ad_un (S : Gs) (c τ a d t : Nat) : ad (un S c τ a) d t = if d = c ∧ t = τ then a else ad S d t := rfl
theorem lv_un (S : Gs) (c τ a d t : Nat) : lv (un S c τ a) d t = if d = c ∧ t = τ then true else lv S d t := rfl
theorem ad_un_s (S : Gs) (c τ a : Nat) : ad (un S c τ a) c τ = a := by rw [ad_un, if_pos ⟨rfl, rfl⟩]
theorem lv_un_s (S : Gs) (c τ a : Nat) : lv (un S c τ a) c τ = true := by rw [lv_un, if_pos ⟨rfl, rfl⟩]
theorem ad_un_c {c d : Nat} (h : d ≠ c) (S : Gs) (τ a t : Nat) : ad (un S c τ a) d t = ad S d t := by rw [ad_un, if_neg (fun q => h q.1)]
theorem ad_un_t {τ t : Nat} (h : t ≠ τ) (S : Gs) (c a d : Nat) : ad (un S c τ a) d t = ad S d t := by rw [ad_un, if_neg (fun q => h q.2)]
theorem lv_un_le {S : Gs} {d t : Nat} (h : lv S d t = true) (c τ a : Nat) : lv (un S c τ a) d t = true := by
  rw [lv_un]
  split
  · rfl
  · exact h
theorem vi_un_c {c g : Nat} (h : g < 64 * c ∨ 64 * c + 64 ≤ g) (S : Gs) (τ a t : Nat) : vi (un S c τ a) g t = vi S g t := by rw [vi_un, if_neg (fun q => by omega)]
theorem vi_un_t {τ t : Nat} (h : t ≠ τ) (S : Gs) (c a g : Nat) : vi (un S c τ a) g t = vi S g t := by rw [vi_un, if_neg (fun q => h q.1)]
theorem vr_un_c {c g : Nat} (h : g < 64 * c ∨ 64 * c + 64 ≤ g) (S : Gs) (τ a t : Nat) : vr (un S c τ a) g t = vr S g t := by rw [vr_un, if_neg (fun q => by omega)]
theorem vr_un_t {τ t : Nat} (h : t ≠ τ) (S : Gs) (c a g : Nat) : vr (un S c τ a) g t = vr S g t := by rw [vr_un, if_neg (fun q => h q.1)]
theorem kc_ukc (S : Gs) (a : Nat) (l : List (Int32 × Int32)) (b : Nat) : kc (ukc S a l) b = if b = a then some l else kc S b := rfl
theorem kl_ukl (S : Gs) (a : Nat) (q : Option Nat × Int32 × Option Nat) (b : Nat) : kl (ukl S a q) b = if b = a then some q else kl S b := rfl
theorem IsK.ext {S : Nat → Prop} {M M' : Mm} {a : Nat} {q : Option Nat × Int32 × Option Nat} (h : IsK M a q) (he : Ext S M M') (hS : ∀ b t, kd M b = some (6, t, 3) → ¬ S b) : IsK M' a q := by
  obtain ⟨t, h1, h2, h3, h4⟩ := h
  have e0 := he a _ h1
  have n0 := hS a t h1
  exact ⟨t, e0.1, ((e0.2 n0 _).2).trans h2, ((e0.2 n0 _).1).trans h3, ((e0.2 n0 _).2).trans h4⟩
theorem VM.apart {S : Gs} {M : Mm} (h : VM S M) {c τ c' τ' : Nat} (hl : lv S c τ = true) (hl' : lv S c' τ' = true) (hne : ¬ (c' = c ∧ τ' = τ)) : ad S c' τ' ≠ ad S c τ := by
  intro e
  obtain ⟨o1, k1, -⟩ := h.1 c τ hl
  obtain ⟨o2, k2, -⟩ := h.1 c' τ' hl'
  rw [e, k1] at k2
  exact hne (by obtain ⟨a, b⟩ := ck_inj o1 o2 (Option.some.inj k2); exact ⟨a.symm, b.symm⟩)
theorem VM.notc {S : Gs} {M : Mm} (h : VM S M) {c τ : Nat} (hl : lv S c τ = true) : (∀ b t, (kd M b = some (7, t, 2) ∨ ∃ u N, kd M b = some (20, 4 * u + 2, N)) → ¬ b = ad S c τ) ∧ ∀ b t, kd M b = some (6, t, 3) → ¬ b = ad S c τ := by
  obtain ⟨o1, k1, -⟩ := h.1 c τ hl
  constructor
  · intro b t hb e
    rw [e, k1] at hb
    rcases hb with q | ⟨u, N, q⟩
    · exact (ck_nc o1 τ t 0 0).1 (Option.some.inj q)
    · exact (ck_nc o1 τ t u N).2.1 (Option.some.inj q)
  · intro b t hb e
    rw [e, k1] at hb
    exact (ck_nc o1 τ t 0 0).2.2 (Option.some.inj hb)
theorem VM.ui {S : Gs} {M : Mm} (h : VM S M) {c τ k : Nat} (hl : lv S c τ = true) (hk : k < 64) (x : Int32) : VM (ui S (64 * c + k) τ x) (si M (ad S c τ) (sl c k) x) := by
  have hE : Ext (fun b => b = ad S c τ) M (si M (ad S c τ) (sl c k) x) := Ext.si (Ext.refl (fun b => b = ad S c τ) M) (Or.inl rfl) _ _
  obtain ⟨n1, n2⟩ := h.notc hl
  refine ⟨fun c' τ' hl' => ?_, fun a l hl' => (h.2.1 a l hl').ext hE n1, fun a q hq => (h.2.2 a q hq).ext hE n2⟩
  have hl1 : lv S c' τ' = true := hl'
  obtain ⟨o1, k1, v1⟩ := h.1 c' τ' hl1
  refine ⟨o1, k1, fun k' hk' => ⟨?_, (v1 k' hk').2⟩⟩
  show gi (si M (ad S c τ) (sl c k) x) (ad S c' τ') (sl c' k') = up (vi S) (64 * c + k) τ x (64 * c' + k') τ'
  by_cases e : c' = c ∧ τ' = τ
  · obtain ⟨rfl, rfl⟩ := e
    by_cases e2 : k' = k
    · subst e2
      rw [gi_si_s, up_s]
    · rw [gi_si_f (fun q => e2 (sl_inj q)), up_f (by omega)]
      exact (v1 k' hk').1
  · rw [gi_si_a (h.apart hl hl1 e), show up (vi S) (64 * c + k) τ x (64 * c' + k') τ' = vi S (64 * c' + k') τ' from if_neg (fun q => e ⟨by omega, q.2⟩)]
    exact (v1 k' hk').1
theorem VM.ur {S : Gs} {M : Mm} (h : VM S M) {c τ k : Nat} (hl : lv S c τ = true) (hk : k < 64) (x : Option Nat) : VM (ur S (64 * c + k) τ x) (sr M (ad S c τ) (sl c k) x) := by
  have hE : Ext (fun b => b = ad S c τ) M (sr M (ad S c τ) (sl c k) x) := Ext.sr (Ext.refl (fun b => b = ad S c τ) M) (Or.inl rfl) _ _
  obtain ⟨n1, n2⟩ := h.notc hl
  refine ⟨fun c' τ' hl' => ?_, fun a l hl' => (h.2.1 a l hl').ext hE n1, fun a q hq => (h.2.2 a q hq).ext hE n2⟩
  have hl1 : lv S c' τ' = true := hl'
  obtain ⟨o1, k1, v1⟩ := h.1 c' τ' hl1
  refine ⟨o1, k1, fun k' hk' => ⟨(v1 k' hk').1, ?_⟩⟩
  show gr (sr M (ad S c τ) (sl c k) x) (ad S c' τ') (sl c' k') = if 64 * c' + k' = 64 * c + k ∧ τ' = τ then x else vr S (64 * c' + k') τ'
  by_cases e : c' = c ∧ τ' = τ
  · obtain ⟨rfl, rfl⟩ := e
    by_cases e2 : k' = k
    · subst e2
      rw [gr_sr_s, if_pos ⟨rfl, rfl⟩]
    · rw [gr_sr_f (fun q => e2 (sl_inj q)), if_neg (fun q => by omega)]
      exact (v1 k' hk').2
  · rw [gr_sr_a (h.apart hl hl1 e), if_neg (fun q => e ⟨by omega, q.2⟩)]
    exact (v1 k' hk').2
theorem VM.ext {S : Gs} {M M' : Mm} (h : VM S M) (hE : Ext (fun _ => False) M M') : VM S M' := by
  refine ⟨fun c τ hl => ?_, fun a l hl' => (h.2.1 a l hl').ext hE (fun _ _ _ q => q), fun a q hq => (h.2.2 a q hq).ext hE (fun _ _ _ q => q)⟩
  obtain ⟨o1, k1, v1⟩ := h.1 c τ hl
  have e := hE _ _ k1
  exact ⟨o1, e.1, fun k hk => ⟨((e.2 id _).1).trans (v1 k hk).1, ((e.2 id _).2).trans (v1 k hk).2⟩⟩
theorem VM.un {S : Gs} {M : Mm} (h : VM S M) {c τ q : Nat} (ho : okc c = true) (hq : kd M q = none) : VM (un S c τ q) (nw M q (ck c τ).1 (ck c τ).2.1 (ck c τ).2.2) := by
  have hE : Ext (fun _ => False) M (nw M q (ck c τ).1 (ck c τ).2.1 (ck c τ).2.2) := Ext.nw (Ext.refl _ M) hq _ _ _
  refine ⟨fun c' τ' hl' => ?_, fun a l hl' => (h.2.1 a l hl').ext hE (fun _ _ _ q => q), fun a q' hq' => (h.2.2 a q' hq').ext hE (fun _ _ _ q => q)⟩
  by_cases e : c' = c ∧ τ' = τ
  · obtain ⟨rfl, rfl⟩ := e
    rw [ad_un_s]
    refine ⟨ho, kd_nw_s _ _ _ _ _, fun k hk => ⟨?_, ?_⟩⟩
    · rw [gi_nw_s, vi_un, if_pos ⟨rfl, by omega, by omega⟩]
    · rw [gr_nw_s, vr_un, if_pos ⟨rfl, by omega, by omega⟩]
  · rw [lv_un, if_neg e] at hl'
    rw [ad_un, if_neg e]
    obtain ⟨o1, k1, v1⟩ := h.1 c' τ' hl'
    have hne : ad S c' τ' ≠ q := ne_kd k1 hq
    refine ⟨o1, (kd_nw_ne hne _ _ _ _).trans k1, fun k hk => ⟨?_, ?_⟩⟩
    · rw [gi_nw_ne hne, vi_un, if_neg (fun w => e ⟨by omega, w.1⟩)]
      exact (v1 k hk).1
    · rw [gr_nw_ne hne, vr_un, if_neg (fun w => e ⟨by omega, w.1⟩)]
      exact (v1 k hk).2
theorem VM.kc {S : Gs} {M : Mm} (h : VM S M) {a : Nat} {l : List (Int32 × Int32)} (hc : IsC M a l) : VM (ukc S a l) M := by
  refine ⟨h.1, fun b l' hb => ?_, h.2.2⟩
  rw [kc_ukc] at hb
  split at hb
  · rename_i e
    cases hb
    rw [e]
    exact hc
  · exact h.2.1 b l' hb
theorem VM.kl {S : Gs} {M : Mm} (h : VM S M) {a : Nat} {q : Option Nat × Int32 × Option Nat} (hc : IsK M a q) : VM (ukl S a q) M := by
  refine ⟨h.1, h.2.1, fun b l' hb => ?_⟩
  rw [kl_ukl] at hb
  split at hb
  · rename_i e
    cases hb
    rw [e]
    exact hc
  · exact h.2.2 b l' hb
theorem VM.kd {S : Gs} {M : Mm} (h : VM S M) {c τ : Nat} (hl : lv S c τ = true) : _root_.Jvm.Pilot.CFiberDeskLaw_law_r2789_ad6031.kd M (ad S c τ) = some (ck c τ) := (h.1 c τ hl).2.1
theorem ck_ob {c : Nat} (h : c < 6) (τ : Nat) : ck c τ = (c, τ, (ck c τ).2.2) := by
  have : c = 0 ∨ c = 1 ∨ c = 2 ∨ c = 3 ∨ c = 4 ∨ c = 5 := by omega
  rcases this with e | e | e | e | e | e <;> subst e <;> rfl
theorem VM.kdo {S : Gs} {M : Mm} (h : VM S M) {c τ : Nat} (hl : lv S c τ = true) (hc : c < 6) : _root_.Jvm.Pilot.CFiberDeskLaw_law_r2789_ad6031.kd M (ad S c τ) = some (c, τ, (ck c τ).2.2) := by rw [← ck_ob hc τ]; exact h.kd hl
theorem ownC_ck {c τ : Nat} (h : okc c = true) (ht : c = 20 ∨ c = 21 → τ < 200) : ownC (ck c τ).1 (ck c τ).2.1 = true := by
  rcases okc_cases h with e | e | e | e | e | e | e | e | e | e | e <;> subst e <;> simp [ck, ownC] <;> omega
section ViewRules
variable {mi : MI} {M0 : Mm} {Q : Option Value → Mm → Prop} {dep k n : Nat} {S : Gs} {M : Mm} {pc : Nat} {L : List (Option Value)} {st : List Value}
theorem v_geti {idx ci kf τ : Nat} {o : Option Nat} {v : Int32} (f : Nat) (he : 64 * ci + kf = f) (hV : VM S M) (hl : lv S ci τ = true) (hc : ci < 6) (hkf : kf < 64) (hf : fl mi.1.cls idx ci kf) (ht : kInt (kTy ci kf) = true) (hd : decode mi.2.1 pc = .ok (.getfield idx, 3)) (ho : o = some (ad S ci τ)) (hv : vi S f τ = v) (kk : G mi ownC M0 Q dep k n M (pc + 3) L (.int v :: st)) : G mi ownC M0 Q dep k n M pc L (va_rf o :: st) := by
  subst he
  refine g_getiv (v := v) (sl ci kf) hf ht (by unfold sl; rw [if_pos (by omega)]) hd ho (hV.kdo hl hc) ?_ kk
  rw [((hV.1 ci τ hl).2.2 kf hkf).1]
  exact hv
theorem v_getr {idx ci kf τ : Nat} {o v : Option Nat} (f : Nat) (he : 64 * ci + kf = f) (hV : VM S M) (hl : lv S ci τ = true) (hc : ci < 6) (hkf : kf < 64) (hf : fl mi.1.cls idx ci kf) (ht : kInt (kTy ci kf) = false) (hd : decode mi.2.1 pc = .ok (.getfield idx, 3)) (ho : o = some (ad S ci τ)) (hv : vr S f τ = v) (kk : G mi ownC M0 Q dep k n M (pc + 3) L (va_rf v :: st)) : G mi ownC M0 Q dep k n M pc L (va_rf o :: st) := by
  subst he
  refine g_getrv (v := v) (sl ci kf) hf ht (by unfold sl; rw [if_pos (by omega)]) hd ho (hV.kdo hl hc) ?_ kk
  rw [((hV.1 ci τ hl).2.2 kf hkf).2]
  exact hv
theorem ownC_ob {c : Nat} (h : c < 6) (τ : Nat) : ownC c τ = true := by unfold ownC; simp; omega
theorem v_puti {idx ci kf τ : Nat} {o : Option Nat} {x : Int32} (f : Nat) (he : 64 * ci + kf = f) (hV : VM S M) (hl : lv S ci τ = true) (hc : ci < 6) (hkf : kf < 64) (hf : fl mi.1.cls idx ci kf) (hw : fw mi ci kf) (ht : kTy ci kf = .int) (hd : decode mi.2.1 pc = .ok (.putfield idx, 3)) (ho : o = some (ad S ci τ)) (kk : ∀ M, VM (ui S f τ x) M → G mi ownC M0 Q dep k n M (pc + 3) L st) : G mi ownC M0 Q dep k n M pc L (.int x :: va_rf o :: st) := by
  subst he
  exact g_puti (sl ci kf) hf hw ht (by unfold sl; rw [if_pos (by omega)]) hd ho (hV.kdo hl hc) (ownC_ob hc τ) (kk _ (hV.ui hl hkf x))
theorem v_putz {idx ci kf τ : Nat} {o : Option Nat} {x : Int32} (f : Nat) (he : 64 * ci + kf = f) (hV : VM S M) (hl : lv S ci τ = true) (hc : ci < 6) (hkf : kf < 64) (hf : fl mi.1.cls idx ci kf) (hw : fw mi ci kf) (ht : kTy ci kf = .boolean) (hx : x = 0 ∨ x = 1) (hd : decode mi.2.1 pc = .ok (.putfield idx, 3)) (ho : o = some (ad S ci τ)) (kk : ∀ M, VM (ui S f τ x) M → G mi ownC M0 Q dep k n M (pc + 3) L st) : G mi ownC M0 Q dep k n M pc L (.int x :: va_rf o :: st) := by
  subst he
  exact g_putz (sl ci kf) hf hw ht (by unfold sl; rw [if_pos (by omega)]) hx hd ho (hV.kdo hl hc) (ownC_ob hc τ) (kk _ (hV.ui hl hkf x))
theorem v_putr {idx ci kf τ : Nat} {o x : Option Nat} (f : Nat) (he : 64 * ci + kf = f) (hV : VM S M) (hl : lv S ci τ = true) (hc : ci < 6) (hkf : kf < 64) (hf : fl mi.1.cls idx ci kf) (hw : fw mi ci kf) (ht : kRef (kTy ci kf) = true) (hd : decode mi.2.1 pc = .ok (.putfield idx, 3)) (ho : o = some (ad S ci τ)) (kk : ∀ M, VM (ur S f τ x) M → G mi ownC M0 Q dep k n M (pc + 3) L st) : G mi ownC M0 Q dep k n M pc L (va_rf x :: va_rf o :: st) := by
  subst he
  exact g_putr (sl ci kf) hf hw ht (by unfold sl; rw [if_pos (by omega)]) hd ho (hV.kdo hl hc) (ownC_ob hc τ) (kk _ (hV.ur hl hkf x))
theorem v_iald {c τ j : Nat} {o : Option Nat} {i v : Int32} (f : Nat) (he : 64 * c + j = f) (hV : VM S M) (hl : lv S c τ = true) (hc : c = 20 ∨ c = 21) (hd : decode mi.2.1 pc = .ok (.iaload, 1)) (ho : o = some (ad S c τ)) (hi : i = nI j) (hj : j < (ck c τ).2.2) (hv : vi S f τ = v) (kk : G mi ownC M0 Q dep k n M (pc + 1) L (.int v :: st)) : G mi ownC M0 Q dep k n M pc L (.int i :: va_rf o :: st) := by
  subst he
  have hj2 : j < 64 ∧ (ck c τ).2.2 < 2 ^ 31 := by rcases hc with e | e <;> subst e <;> simp [ck] at hj ⊢ <;> omega
  refine g_ialdv (v := v) (κ := (ck c τ).1) (τ := (ck c τ).2.1) (N := (ck c τ).2.2) hd ho (hV.kd hl) (by rcases hc with e | e <;> subst e <;> rfl) hi hj hj2.2 ?_ kk
  have := ((hV.1 c τ hl).2.2 j hj2.1).1
  unfold sl at this
  rw [if_neg (by omega)] at this
  rw [this]
  exact hv
theorem v_iast {c τ j : Nat} {o : Option Nat} {i x : Int32} (f : Nat) (he : 64 * c + j = f) (hV : VM S M) (hl : lv S c τ = true) (hc : c = 20 ∨ c = 21) (ht : τ < 200) (hd : decode mi.2.1 pc = .ok (.iastore, 1)) (ho : o = some (ad S c τ)) (hi : i = nI j) (hj : j < (ck c τ).2.2) (kk : ∀ M, VM (ui S f τ x) M → G mi ownC M0 Q dep k n M (pc + 1) L st) : G mi ownC M0 Q dep k n M pc L (.int x :: .int i :: va_rf o :: st) := by
  subst he
  have hj2 : j < 64 ∧ (ck c τ).2.2 < 2 ^ 31 := by rcases hc with e | e <;> subst e <;> simp [ck] at hj ⊢ <;> omega
  have h := hV.ui hl hj2.1 x
  have e : sl c j = 4096 + j := by unfold sl; rw [if_neg (by omega)]
  rw [e] at h
  exact g_iast (κ := (ck c τ).1) (τ := (ck c τ).2.1) (N := (ck c τ).2.2) hd ho (hV.kd hl) (by rcases hc with e | e <;> subst e <;> rfl) (ownC_ck (hV.1 c τ hl).1 (fun _ => ht)) hi hj hj2.2 (kk _ h)
theorem v_aald {c τ j : Nat} {o v : Option Nat} {i : Int32} (f : Nat) (he : 64 * c + j = f) (hV : VM S M) (hl : lv S c τ = true) (hc : c = 22 ∨ c = 23 ∨ c = 24) (hd : decode mi.2.1 pc = .ok (.aaload, 1)) (ho : o = some (ad S c τ)) (hi : i = nI j) (hj : j < (ck c τ).2.2) (hv : vr S f τ = v) (kk : G mi ownC M0 Q dep k n M (pc + 1) L (va_rf v :: st)) : G mi ownC M0 Q dep k n M pc L (.int i :: va_rf o :: st) := by
  subst he
  have hj2 : j < 64 ∧ (ck c τ).2.2 < 2 ^ 31 := by rcases hc with e | e | e <;> subst e <;> simp [ck] at hj ⊢ <;> omega
  have h := ((hV.1 c τ hl).2.2 j hj2.1).2
  have e : sl c j = 4096 + j := by unfold sl; rw [if_neg (by omega)]
  rw [e, hv] at h
  rcases hc with e | e | e <;> subst e
  · exact g_aald (κ := 22) hd ho (hV.kd hl) rfl hi hj hj2.2 (by rw [h]; exact kk)
  · exact g_aald (κ := 23) hd ho (hV.kd hl) rfl hi hj hj2.2 (by rw [h]; exact kk)
  · exact g_aald (κ := 24) hd ho (hV.kd hl) rfl hi hj hj2.2 (by rw [h]; exact kk)
/-- into an array of references: kind 22 holds effects (3), 23 fibers (4), 24 places (2) -/
theorem v_aast {c d τ σ j : Nat} {o v : Option Nat} {i : Int32} (f : Nat) (he : 64 * c + j = f) (hV : VM S M) (hl : lv S c τ = true) (hc : (c = 22 ∧ d = 3) ∨ (c = 23 ∧ d = 4) ∨ (c = 24 ∧ d = 2)) (hlv : lv S d σ = true) (hv : v = some (ad S d σ)) (hd : decode mi.2.1 pc = .ok (.aastore, 1)) (ho : o = some (ad S c τ)) (hi : i = nI j) (hj : j < (ck c τ).2.2) (kk : ∀ M, VM (ur S f τ v) M → G mi ownC M0 Q dep k n M (pc + 1) L st) : G mi ownC M0 Q dep k n M pc L (va_rf v :: .int i :: va_rf o :: st) := by
  subst he
  subst hv
  have hj2 : j < 64 ∧ (ck c τ).2.2 < 2 ^ 31 := by rcases hc with ⟨e, -⟩ | ⟨e, -⟩ | ⟨e, -⟩ <;> subst e <;> simp [ck] at hj ⊢ <;> omega
  have h := hV.ur hl hj2.1 (some (ad S d σ))
  have e : sl c j = 4096 + j := by unfold sl; rw [if_neg (by omega)]
  rw [e] at h
  rcases hc with ⟨e, e'⟩ | ⟨e, e'⟩ | ⟨e, e'⟩ <;> subst e <;> subst e'
  · exact g_aast (κ := 22) (ci := 3) hd ho (hV.kd hl) rfl rfl hi hj hj2.2 (fun b hb => by cases hb; exact ⟨hV.kd hlv, rfl, fun r hr => by cases hr; rfl⟩) (kk _ h)
  · exact g_aast (κ := 23) (ci := 4) hd ho (hV.kd hl) rfl rfl hi hj hj2.2 (fun b hb => by cases hb; exact ⟨hV.kd hlv, rfl, fun r hr => by cases hr; rfl⟩) (kk _ h)
  · exact g_aast (κ := 24) (ci := 2) hd ho (hV.kd hl) rfl rfl hi hj hj2.2 (fun b hb => by cases hb; exact ⟨hV.kd hlv, rfl, fun r hr => by cases hr; rfl⟩) (kk _ h)
/-- a new object of a kind below 6, number τ -/
theorem v_new {idx ci k' n' : Nat} (τ : Nat) (hV : VM S M) (hc : ci < 6) (hcl : cl_ok mi.1.cls idx ci (ck ci τ).2.2) (hd : decode mi.2.1 pc = .ok (.new idx, 3)) (hk : k' + 1 ≤ k) (hn : n' + (ck ci τ).2.2 ≤ n) (kk : ∀ (q : Nat) (M' : Mm), kd M q = none → VM (un S ci τ q) M' → G mi ownC M0 Q dep k' n' M' (pc + 3) L (va_rf (some q) :: st)) : G mi ownC M0 Q dep k n M pc L st := by
  refine g_new τ hcl hd hk hn (fun q hq => kk q _ hq ?_)
  have h := hV.un (c := ci) (τ := τ) (q := q) (by unfold okc; simp; omega) hq
  rw [show (ck ci τ).1 = ci by rw [ck_ob hc τ], show (ck ci τ).2.1 = τ by rw [ck_ob hc τ]] at h
  exact h
end ViewRules
