/-! RULES OF THE GATE -/
def pbN (a b c : Nat) : Bool := decide (nI a &&& nI b = nI b) && decide (nI a &&& nI c = 0)
def fitN (T : Nat → Nat) (a b : Nat) (p : Nat) : Bool := vf p (fun j s => s && (pbN (T (2 * j)) a b == decide (T (2 * j + 1) = 1))) true
theorem fitN_s (T : Nat → Nat) (a b p : Nat) : fitN T a b (p + 1) = (fitN T a b p && (pbN (T (2 * p)) a b == decide (T (2 * p + 1) = 1))) := rfl
theorem fitN_f {T : Nat → Nat} {a b i p : Nat} (h : fitN T a b i = false) (hi : i ≤ p) : fitN T a b p = false := by
  obtain ⟨d, rfl⟩ : ∃ d, p = i + d := ⟨p - i, by omega⟩
  induction d with
  | zero => exact h
  | succ d ih => rw [← Nat.add_assoc, fitN_s, ih (by omega)]; rfl
def disN (a b : Nat) : Bool := decide (nI a &&& nI b = 0)
def vs_fit (T : Nat → Nat) (p r : Nat) : Bool := disN (r / 64) (r % 64) && fitN T (r / 64) (r % 64) p
def vs_gOk (T : Nat → Nat) (j : Nat) : Bool := decide (T (2 * j) < 64) && decide (T (2 * j + 1) < 2)
def vs_gh (T : Nat → Nat) (n : Nat) : Bool := decide (n % 2 = 0) && (decide (n ≤ 40) && !(vs_any (fun j => !vs_gOk T j) (n / 2)))
theorem vs_gh_1 {T : Nat → Nat} {n : Nat} (h : ¬ n % 2 = 0) : vs_gh T n = false := by unfold vs_gh; rw [decide_eq_false h]; rfl
theorem vs_gh_2 {T : Nat → Nat} {n : Nat} (h : ¬ n ≤ 40) : vs_gh T n = false := by unfold vs_gh; rw [decide_eq_false h]; simp
theorem vs_gh_3 {T : Nat → Nat} {n j : Nat} (hj : j < n / 2) (h : ¬ (T (2 * j) < 64 ∧ T (2 * j + 1) < 2)) : vs_gh T n = false := by
  have : vs_gOk T j = false := by
    cases e : vs_gOk T j
    · rfl
    · unfold vs_gOk at e; rw [Bool.and_eq_true, decide_eq_true_eq, decide_eq_true_eq] at e; exact absurd e h
  unfold vs_gh
  rw [vs_any_t hj (by rw [this]; rfl)]
  simp
theorem vs_gh_t {T : Nat → Nat} {n : Nat} (h1 : n % 2 = 0) (h2 : n ≤ 40) (h : ∀ j, j < n / 2 → T (2 * j) < 64 ∧ T (2 * j + 1) < 2) : vs_gh T n = true := by
  unfold vs_gh
  rw [decide_eq_true h1, decide_eq_true h2, vs_any_f (fun j hj => by unfold vs_gOk; rw [decide_eq_true (h j hj).1, decide_eq_true (h j hj).2]; rfl)]
  rfl
theorem vs_rem2 {n : Nat} (h : n ≤ 400) : nI n - nI n / nI 2 * nI 2 = nI (n % 2) := (by decide +kernel : ∀ n, n < 401 → nI n - nI n / nI 2 * nI 2 = nI (n % 2)) n (by omega)
/-- how many pairs of sets have nothing in common -/
theorem dis_row : ∀ a, a < 64 → fb_ct (disN a) 64 = 2 ^ (6 - vs_pc a) := by decide +kernel
def disR (r : Nat) : Bool := disN (r / 64) (r % 64)
theorem dis_blk (a : Nat) : fb_ct (fun k => disR (64 * a + k)) 64 = fb_ct (disN a) 64 := fb_ct_cong (fun k hk => by
  unfold disR
  rw [show (64 * a + k) / 64 = a by omega, show (64 * a + k) % 64 = k by omega])
theorem dis_sum (n : Nat) : fb_ct disR (64 * n) = fb_sm (fun a => fb_ct (disN a) 64) n := by
  induction n with
  | zero => rfl
  | succ n ih => rw [Nat.mul_succ, fb_ct_split, ih, dis_blk]; rfl
theorem dis_all : fb_ct disR 4096 = 729 := by
  have h := dis_sum 64
  rw [show 64 * 64 = 4096 from rfl] at h
  rw [h, fb_sm_cong (g := fun a => 2 ^ (6 - vs_pc a)) (fun a ha => dis_row a ha)]
  decide +kernel
theorem fit_lt {T : Nat → Nat} {p r : Nat} (hr : r < 4096) (h : vs_fit T p r = true) : fb_ct (vs_fit T p) r < 729 := by
  have hs : ∀ k, vs_fit T p k = true → disR k = true := fun k hk => by
    unfold vs_fit at hk; rw [Bool.and_eq_true] at hk; exact hk.1
  have h1 : fb_ct (vs_fit T p) r ≤ fb_ct disR r := fb_ct_sub (fun k _ => hs k)
  have h2 : fb_ct disR (r + 1) ≤ fb_ct disR 4096 := fb_ct_mono _ (by omega)
  rw [fb_ct_succ, if_pos (hs r h), dis_all] at h2
  omega
theorem fit_le {T : Nat → Nat} {p r : Nat} (hr : r ≤ 4096) : fb_ct (vs_fit T p) r ≤ 729 := by
  have hs : ∀ k, vs_fit T p k = true → disR k = true := fun k hk => by
    unfold vs_fit at hk; rw [Bool.and_eq_true] at hk; exact hk.1
  have h1 : fb_ct (vs_fit T p) r ≤ fb_ct disR r := fb_ct_sub (fun k _ => hs k)
  have h2 : fb_ct disR r ≤ fb_ct disR 4096 := fb_ct_mono _ hr
  rw [dis_all] at h2
  omega
def gz (ga : Nat) : Nat → Prop := fun c => c = ga ∨ c = ga + 1 ∨ c = ga + 2
def gs_inv (I K : mx_I) (ga : Nat) (T : Nat → Nat) (p q : Nat) : Prop := mx_off (gz ga) I K ∧ K ga 0 = nI (fb_ct (vs_fit T p) q) ∧
  ∀ r, r < q → vs_fit T p r = true → K (ga + 1) (fb_ct (vs_fit T p) r) = nI (r / 64) ∧ K (ga + 2) (fb_ct (vs_fit T p) r) = nI (r % 64)
theorem gs_inv0 {I : mx_I} {ga : Nat} {T : Nat → Nat} {p : Nat} : gs_inv I (mx_up I ga 0 (nI 0)) ga T p 0 :=
  ⟨fun c hc => mx_up_ne (fun e => hc (Or.inl e)), by simp [mx_up, fb_ct], fun r hr => absurd hr (by omega)⟩
theorem gs_step0 {I K : mx_I} {ga : Nat} {T : Nat → Nat} {p q : Nat} (hi : gs_inv I K ga T p q) (h : vs_fit T p q = false) : gs_inv I K ga T p (q + 1) := by
  obtain ⟨h0, h1, h2⟩ := hi
  refine ⟨h0, by rw [fb_ct_succ, if_neg (by rw [h]; decide)]; exact h1, fun r hr hf => ?_⟩
  rcases Nat.lt_succ_iff_lt_or_eq.mp hr with e | rfl
  · exact h2 r e hf
  · rw [h] at hf; cases hf
theorem gs_step1 {I K : mx_I} {ga : Nat} {T : Nat → Nat} {p q a b : Nat} (hi : gs_inv I K ga T p q) (h : vs_fit T p q = true) (ha : q / 64 = a) (hb : q % 64 = b) : gs_inv I (mx_up (mx_up (mx_up K (ga + 1) (fb_ct (vs_fit T p) q) (nI a)) (ga + 2) (fb_ct (vs_fit T p) q) (nI b)) ga 0 (nI (fb_ct (vs_fit T p) q + 1))) ga T p (q + 1) := by
  obtain ⟨h0, h1, h2⟩ := hi
  refine ⟨fun c hc => ?_, by rw [fb_ct_succ, if_pos h]; simp [mx_up], fun r hr hf => ?_⟩
  · rw [mx_up_ne (fun e => hc (Or.inl e)), mx_up_ne (fun e => hc (Or.inr (Or.inr e))), mx_up_ne (fun e => hc (Or.inr (Or.inl e))), h0 c hc]
  · rw [mx_up_ne (by omega), mx_up_ne (by omega)]
    rcases Nat.lt_succ_iff_lt_or_eq.mp hr with e | rfl
    · have hlt : fb_ct (vs_fit T p) r ≠ fb_ct (vs_fit T p) q := fun z => by
        have := fb_ct_mono (vs_fit T p) (show r + 1 ≤ q by omega)
        rw [fb_ct_succ, if_pos hf] at this; omega
      have := h2 r e hf
      refine ⟨?_, ?_⟩
      · rw [← this.1]; simp [mx_up, hlt]
      · rw [← this.2]; simp [mx_up, hlt]
    · rw [ha, hb]
      exact ⟨by simp [mx_up], by simp [mx_up]⟩
/-- the list of rules that the class keeps -/
def gl_rel (K : mx_I) (ga C : Nat) (L : Nat → Nat) : Prop := K ga 0 = nI C ∧ C ≤ 729 ∧ ∀ i, i < C → L i < 4096 ∧ K (ga + 1) i = nI (L i / 64) ∧ K (ga + 2) i = nI (L i % 64)
theorem gs_end {I K : mx_I} {ga : Nat} {T : Nat → Nat} {p : Nat} (hi : gs_inv I K ga T p 4096) : ∃ L : Nat → Nat, gl_rel K ga (fb_ct (vs_fit T p) 4096) L ∧ ∀ r, r < 4096 → vs_fit T p r = true → L (fb_ct (vs_fit T p) r) = r := by
  obtain ⟨h0, h1, h2⟩ := hi
  have hex : ∀ i, ∃ r, i < fb_ct (vs_fit T p) 4096 → r < 4096 ∧ vs_fit T p r = true ∧ fb_ct (vs_fit T p) r = i := fun i => by
    by_cases h : i < fb_ct (vs_fit T p) 4096
    · obtain ⟨r, a1, a2, a3⟩ := fb_ct_kth h
      exact ⟨r, fun _ => ⟨a1, a2, a3⟩⟩
    · exact ⟨0, fun z => absurd z h⟩
  refine ⟨fun i => Classical.choose (hex i), ⟨h1, fit_le (Nat.le_refl _), fun i hi => ?_⟩, fun r hr hf => ?_⟩
  · obtain ⟨a1, a2, a3⟩ := Classical.choose_spec (hex i) hi
    have := h2 _ a1 a2
    rw [a3] at this
    exact ⟨a1, this⟩
  · have hlt : fb_ct (vs_fit T p) r < fb_ct (vs_fit T p) 4096 := by
      have := fb_ct_mono (vs_fit T p) (show r + 1 ≤ 4096 by omega)
      rw [fb_ct_succ, if_pos hf] at this; omega
    obtain ⟨a1, a2, a3⟩ := Classical.choose_spec (hex (fb_ct (vs_fit T p) r)) hlt
    exact fb_ct_kth_one a2 hf a3
/-- over the list as over all that fit -/
theorem vs_list {α : Type} {f : Nat → Bool} {L : Nat → Nat} (F : Nat → α → α) (a : α) {N : Nat} (h : ∀ r, r < N → f r = true → L (fb_ct f r) = r) : vf (fb_ct f N) (fun i s => F (L i) s) a = vf N (fun r s => if f r = true then F r s else s) a := by
  induction N with
  | zero => rfl
  | succ N ih =>
    have ih := ih (fun r hr => h r (by omega))
    rw [fb_ct_succ, vf_s]
    by_cases e : f N = true
    · rw [if_pos e, if_pos e, vf_s, ih, h N (by omega) e]
    · rw [if_neg e, if_neg e, ← ih]; rfl
theorem vs_pc64 {r : Nat} (hr : r < 4096) : vs_pc r = vs_pc (r / 64) + vs_pc (r % 64) := by
  have e : ∀ k, k < 4096 → vs_pc k = fb_ct k.testBit 6 + fb_ct (fun i => (k / 64).testBit i) 25 := fun k hk => by
    have e1 : vs_pc k = fb_ct k.testBit (6 + 25) := fb_ct_cong (fun i _ => vs_bt_nI k i (by omega))
    rw [e1, fb_ct_split]
    congr 1
    refine fb_ct_cong (fun i _ => ?_)
    rw [show (64 : Nat) = 2 ^ 6 from rfl, Nat.testBit_div_two_pow, Nat.add_comm]
  rw [e r hr]
  have e2 : vs_pc (r % 64) = fb_ct r.testBit 6 := by
    rw [e _ (by omega)]
    rw [show r % 64 / 64 = 0 by omega]
    have z : fb_ct (fun i => Nat.testBit 0 i) 25 = 0 := fb_ct_zero.mpr (fun k _ => Nat.zero_testBit k)
    rw [z, Nat.add_zero]
    refine fb_ct_cong (fun i hi => ?_)
    rw [show (64 : Nat) = 2 ^ 6 from rfl, Nat.testBit_mod_two_pow]
    simp [hi]
  have e3 : vs_pc (r / 64) = fb_ct (fun i => (r / 64).testBit i) 25 := by
    have e1 : vs_pc (r / 64) = fb_ct (r / 64).testBit (25 + 6) := fb_ct_cong (fun i _ => vs_bt_nI _ i (by omega))
    rw [e1, fb_ct_split]
    have z : fb_ct (fun k => (r / 64).testBit (25 + k)) 6 = 0 := fb_ct_zero.mpr (fun k _ => Nat.testBit_lt_two_pow (Nat.lt_of_lt_of_le (show r / 64 < 2 ^ 25 by omega) (Nat.pow_le_pow_right (by omega) (by omega))))
    rw [z, Nat.add_zero]
  rw [e2, e3, Nat.add_comm]
def vs_plF (w : Nat) (s : Int32) : Int32 := if s = -1 ∨ nI w < s then nI w else s
def vs_pl (L : Nat → Nat) (n : Nat) : Int32 := vf n (fun i s => vs_plF (vs_pc (L i / 64) + vs_pc (L i % 64)) s) (-1)
def vs_pl2 (T : Nat → Nat) (p n : Nat) : Int32 := vf n (fun r s => if vs_fit T p r = true then vs_plF (vs_pc r) s else s) (-1)
theorem vs_pl_eq {T : Nat → Nat} {p : Nat} {L : Nat → Nat} (h : ∀ r, r < 4096 → vs_fit T p r = true → L (fb_ct (vs_fit T p) r) = r) : vs_pl L (fb_ct (vs_fit T p) 4096) = vs_pl2 T p 4096 := by
  unfold vs_pl vs_pl2
  rw [vs_list (fun r s => vs_plF (vs_pc (r / 64) + vs_pc (r % 64)) s) (-1) h]
  exact vf_congr (fun r s hr => by rw [vs_pc64 hr])
def vs_in (L : Nat → Nat) (k n : Nat) : Nat := vf n (fun i s => if pbN k (L i / 64) (L i % 64) = true then s + 1 else s) 0
def vs_in2 (T : Nat → Nat) (p k n : Nat) : Nat := vf n (fun r s => if vs_fit T p r = true ∧ pbN k (r / 64) (r % 64) = true then s + 1 else s) 0
theorem vs_in_eq {T : Nat → Nat} {p k : Nat} {L : Nat → Nat} (h : ∀ r, r < 4096 → vs_fit T p r = true → L (fb_ct (vs_fit T p) r) = r) : vs_in L k (fb_ct (vs_fit T p) 4096) = vs_in2 T p k 4096 := by
  unfold vs_in vs_in2
  rw [vs_list (fun r s => if pbN k (r / 64) (r % 64) = true then s + 1 else s) 0 h]
  refine vf_congr (fun r s _ => ?_)
  by_cases h1 : vs_fit T p r = true <;> by_cases h2 : pbN k (r / 64) (r % 64) = true <;> simp [h1, h2]
theorem vs_in_le (L : Nat → Nat) (k n : Nat) : vs_in L k n ≤ n := by
  induction n with
  | zero => exact Nat.le_refl _
  | succ n ih =>
    have e : vs_in L k (n + 1) = if pbN k (L n / 64) (L n % 64) = true then vs_in L k n + 1 else vs_in L k n := rfl
    rw [e]; split <;> omega
def vs_pt (g : Nat → Nat) (n : Nat) : Int32 × Nat := vf n (fun k s => if s.1 = -1 ∨ g k < s.2 then (nI k, g k) else s) (-1, 0)
theorem vs_pt_s (g : Nat → Nat) (n : Nat) : vs_pt g (n + 1) = if (vs_pt g n).1 = -1 ∨ g n < (vs_pt g n).2 then (nI n, g n) else vs_pt g n := rfl
def vs_pt2 (g : Nat → Nat) (n : Nat) : Int32 × Nat := vf n (fun k s => if s.2 ≤ g k then s else (nI k, g k)) (-1, 2000000000)
theorem vs_pt2_s (g : Nat → Nat) (n : Nat) : vs_pt2 g (n + 1) = if (vs_pt2 g n).2 ≤ g n then vs_pt2 g n else (nI n, g n) := rfl
theorem vs_pt_eq {g : Nat → Nat} (hg : ∀ k, g k < 2000000000) {n : Nat} (hn : n ≤ 64) : (vs_pt g n).1 = (vs_pt2 g n).1 ∧ ((vs_pt g n).1 = -1 ∧ (vs_pt2 g n).2 = 2000000000 ∧ (vs_pt g n).2 ≤ 729 ∨ ¬ (vs_pt g n).1 = -1 ∧ (vs_pt g n).2 = (vs_pt2 g n).2) := by
  induction n with
  | zero => exact ⟨rfl, Or.inl ⟨rfl, rfl, Nat.zero_le _⟩⟩
  | succ n ih =>
    obtain ⟨e, ih⟩ := ih (by omega)
    have n1 : ¬ (nI n : Int32) = -1 := (by decide +kernel : ∀ k, k < 64 → ¬ nI k = -1) n (by omega)
    have hgn := hg n
    rw [vs_pt_s, vs_pt2_s]
    rcases ih with ⟨h1, h2, -⟩ | ⟨h1, h2⟩
    · rw [if_pos (Or.inl h1), if_neg (by omega)]
      exact ⟨rfl, Or.inr ⟨n1, rfl⟩⟩
    · by_cases q : g n < (vs_pt g n).2
      · rw [if_pos (Or.inr q), if_neg (by omega)]
        exact ⟨rfl, Or.inr ⟨n1, rfl⟩⟩
      · rw [if_neg (fun z => z.elim h1 q), if_pos (by omega)]
        exact ⟨e, Or.inr ⟨h1, h2⟩⟩
theorem bI_e1 {b : Bool} (h : bI b = nI 1) : b = true := by cases b; exact absurd h (by decide); rfl
theorem bI_e0 {b : Bool} (h : bI b = nI 0) : b = false := by cases b; rfl; exact absurd h (by decide)
theorem bI_f1 {b : Bool} (h : ¬ bI b = nI 1) : b = false := by cases b; rfl; exact absurd rfl h
theorem bI_f0 {b : Bool} (h : ¬ bI b = nI 0) : b = true := by cases b; exact absurd rfl h; rfl
theorem nI_m1b {u : Nat} (h : u < 2 ^ 31) : ¬ nI u = -1 := fun e => by
  have h1 := nI_pos' h
  rw [e] at h1
  exact absurd h1 (by decide)
theorem vs_shr6 {r : Nat} (hr : r < 4096) : nI r >>> (nI 6 &&& 31) = nI (r / 64) := by
  have h := (by decide +kernel : ∀ a, a < 64 → ∀ b, b < 64 → nI (64 * a + b) >>> (nI 6 &&& 31) = nI a) (r / 64) (by omega) (r % 64) (by omega)
  rw [show 64 * (r / 64) + r % 64 = r by omega] at h; exact h
theorem vs_and63 {r : Nat} (hr : r < 4096) : nI r &&& nI 63 = nI (r % 64) := by
  have h := (by decide +kernel : ∀ a, a < 64 → ∀ b, b < 64 → nI (64 * a + b) &&& nI 63 = nI b) (r / 64) (by omega) (r % 64) (by omega)
  rw [show 64 * (r / 64) + r % 64 = r by omega] at h; exact h
theorem dis_eq {r : Nat} (hr : r < 4096) : ((nI r >>> (nI 6 &&& 31)) &&& nI r) &&& nI 63 = nI (r / 64) &&& nI (r % 64) := by rw [vs_shr6 hr, Int32.and_assoc, vs_and63 hr]
section Y33
variable {l : Launch} {E : mx_Env} {t : Nat} {S : mx_S} {I : mx_I} {P : mx_P} {J : mx_G} {m : Nat → Int32} {x mo H G n te ga p C : Nat} {T L : Nat → Nat}
theorem c_bitCountN {k : Nat} (hk8 : k < 256) : mx_C l E M_Jd_Integer_bitCount 0 0 0 [.int (nI (k))] (t, S, I, P, J) (mx_ri (nI (vs_pc k)) (t, S, I, P, J)) := c_bitCount hk8
theorem c_Mo_greaterN {a b : Nat} (ha : a < 2 ^ 31) (hb : b < 2 ^ 31) : mx_C l E M_Mo_greater 0 0 0 [.int (nI (a)), .int (nI (b))] (t, S, I, P, J) (mx_ri (nI (max a b)) (t, S, I, P, J)) := by
  have e : nI (max a b) = (if nI a ≤ nI b then nI b else nI a) := by
    by_cases q : a ≤ b
    · rw [if_pos ((nI_leI ha hb).mpr q), Nat.max_eq_right q]
    · rw [if_neg (fun z => q ((nI_leI ha hb).mp z)), Nat.max_eq_left (by omega)]
  rw [e]; exact c_Mo_greater
theorem c_Ga_passes {a b c : Nat} : mx_C l E M_Ga_passes 0 0 0 [.int (nI (a)), .int (nI (b)), .int (nI (c))] (t, S, I, P, J) (mx_ri (bI (pbN a b c)) (t, S, I, P, J)) := by
  refine mx_C_of (ls0 := [some (.int (nI (a))), some (.int (nI (b))), some (.int (nI (c)))]) (by decide +kernel) rfl rfl (Nat.le_of_ble_eq_true rfl) rfl ?_
  refine mx_il0 d_Ga_passes_0 ?_
  refine mx_il1 d_Ga_passes_1 ?_
  refine mx_iand d_Ga_passes_2 ?_
  refine mx_il1 d_Ga_passes_3 ?_
  refine mx_icmp_ne 17 d_Ga_passes_4 (by decide) (fun c_4 => ?_) (fun c_4 => ?_)
  · skip
    refine mx_in_0 d_Ga_passes_17 ?_
    exact mx_zret d_Ga_passes_18 rfl (by first | exact Or.inl rfl | exact Or.inr rfl) (mx_ri_of (by rw [show pbN a b c = false from by simp [pbN, *]]; rfl))
  · skip
    refine mx_il0 d_Ga_passes_7 ?_
    refine mx_il2 d_Ga_passes_8 ?_
    refine mx_iand d_Ga_passes_9 ?_
    refine mx_if_ne 17 d_Ga_passes_10 (by decide) (fun c_10 => ?_) (fun c_10 => ?_)
    · skip
      refine mx_in_0 d_Ga_passes_17 ?_
      exact mx_zret d_Ga_passes_18 rfl (by first | exact Or.inl rfl | exact Or.inr rfl) (mx_ri_of (by rw [show pbN a b c = false from by simp [pbN, *]]; rfl))
    · skip
      refine mx_in_1 d_Ga_passes_13 ?_
      refine mx_goto 18 d_Ga_passes_14 (by decide) ?_
      exact mx_zret d_Ga_passes_18 rfl (by first | exact Or.inl rfl | exact Or.inr rfl) (mx_ri_of (by rw [show pbN a b c = true from by simp [pbN, *]]; rfl))
theorem c_Ga_fits (hTe : te_ok S P te) (hT : tp_rel I (te + 1) T) (hTl : I te 1 = nI (2 * p)) (hp : p ≤ 20) {a b : Nat} : mx_C l E M_Ga_fits 1 0 0 [.int (nI (a)), .int (nI (b)), .ref (te)] (t, S, I, P, J) (mx_ri (bI (fitN T a b p)) (t, S, I, P, J)) := by
  obtain ⟨hTe0, hTe1, hTe2, hTe3, hTe4, hTe5, hTe6, hTe7, hTe8, hTe9, hTe10⟩ := id hTe
  refine mx_C_of (ls0 := [some (.int (nI (a))), some (.int (nI (b))), some (.ref (te)), none]) (by decide +kernel) rfl rfl (Nat.le_of_ble_eq_true rfl) rfl ?_
  refine mx_in_0 d_Ga_fits_0 ?_
  refine mx_is3 d_Ga_fits_1 ?_
  refine mx_loopI (N := p) (fun j => fitN T a b j = true) (ls := fun j => [some (.int (nI (a))), some (.int (nI (b))), some (.ref (te)), some (.int (nI (2 * j)))]) (X := fun j => (t, S, I, P, J)) (rfl) (fun j hj hinv ih => ?_) (fun hinv => ?_)
  · try dsimp only at hinv ih ⊢
    refine mx_il3 d_Ga_fits_2 ?_
    refine mx_in_1 d_Ga_fits_3 ?_
    refine mx_iaddN d_Ga_fits_4 ?_
    refine mx_al2 d_Ga_fits_5 ?_
    refine mx_getI d_Ga_fits_6 fl_Ga_22 (by assumption) ?_
    refine mx_ti (y := nI (2 * p)) (hTl) ?_
    refine mx_icN_ge 55 d_Ga_fits_9 (by decide) (by omega) (by omega) (fun c_9 => absurd c_9 (by omega)) (fun c_9 => ?_)
    refine mx_al2 d_Ga_fits_12 ?_
    refine mx_getR d_Ga_fits_13 fl_Ga_27 (by assumption) (by assumption) ?_
    refine mx_il3 d_Ga_fits_16 ?_
    refine mx_cSN2i d_Ga_fits_17 (c_get (k := 2 * j) (by assumption) (by omega) (by omega)) ok_Vh_get ml_Ga_30 (by decide) (Nat.le_of_ble_eq_true rfl) ?_
    refine mx_ti (y := nI (T (2 * j))) ((hT (2 * j) (by omega)).2) ?_
    refine mx_il0 d_Ga_fits_20 ?_
    refine mx_il1 d_Ga_fits_21 ?_
    refine mx_cS3i d_Ga_fits_22 (c_Ga_passes) ok_Ga_passes ml_Ga_42 (by decide) (Nat.le_of_ble_eq_true rfl) ?_
    refine mx_al2 d_Ga_fits_25 ?_
    refine mx_getR d_Ga_fits_26 fl_Ga_27 (by assumption) (by assumption) ?_
    refine mx_il3 d_Ga_fits_29 ?_
    refine mx_in_1 d_Ga_fits_30 ?_
    refine mx_iaddN d_Ga_fits_31 ?_
    refine mx_cSN2i d_Ga_fits_32 (c_get (k := 2 * j + 1) (by assumption) (by omega) (by omega)) ok_Vh_get ml_Ga_30 (by decide) (Nat.le_of_ble_eq_true rfl) ?_
    have hTj := (hT (2 * j + 1) (by omega)).1
    refine mx_ti (y := nI (T (2 * j + 1))) ((hT (2 * j + 1) (by omega)).2) ?_
    refine mx_in_1 d_Ga_fits_35 ?_
    refine mx_icN_ne 43 d_Ga_fits_36 (by decide) (by omega) (by omega) (fun c_36 => ?_) (fun c_36 => ?_)
    · skip
      refine mx_in_0 d_Ga_fits_43 ?_
      refine mx_icmp_eq 49 d_Ga_fits_44 (by decide) (fun c_44 => ?_) (fun c_44 => ?_)
      · skip
        have k0 : (pbN (T (2 * j)) a b == decide (T (2 * j + 1) = 1)) = true := by first | (rw [bI_e1 c_44, decide_eq_true c_36]; rfl) | (rw [bI_e0 c_44, decide_eq_false c_36]; rfl)
        refine mx_ii3 (v := 2) d_Ga_fits_49 rfl ?_
        refine mx_goto 2 d_Ga_fits_52 (by decide) ?_
        have e3 : (nI (2 * j) + 2) = nI (2 * (j + 1)) := by exact nI_add (2 * j) 2
        refine mx_lsc (congrArg (fun z9 => ([some (.int (nI (a))), some (.int (nI (b))), some (.ref (te)), some (.int (z9))] : List (Option Value))) e3) ?_
        exact ih (by rw [fitN_s, hinv, k0]; rfl)
      · skip
        have k0 : (pbN (T (2 * j)) a b == decide (T (2 * j + 1) = 1)) = false := by first | (rw [bI_f1 c_44, decide_eq_true c_36]; rfl) | (rw [bI_f0 c_44, decide_eq_false c_36]; rfl)
        refine mx_in_0 d_Ga_fits_47 ?_
        exact mx_zret d_Ga_fits_48 rfl (by first | exact Or.inl rfl | exact Or.inr rfl) (mx_ri_of (by rw [fitN_f (i := j + 1) (by rw [fitN_s, hinv, k0]; rfl) (by omega)]; rfl))
    · skip
      refine mx_in_1 d_Ga_fits_39 ?_
      refine mx_goto 44 d_Ga_fits_40 (by decide) ?_
      refine mx_icmp_eq 49 d_Ga_fits_44 (by decide) (fun c_44 => ?_) (fun c_44 => ?_)
      · skip
        have k0 : (pbN (T (2 * j)) a b == decide (T (2 * j + 1) = 1)) = true := by first | (rw [bI_e1 c_44, decide_eq_true c_36]; rfl) | (rw [bI_e0 c_44, decide_eq_false c_36]; rfl)
        refine mx_ii3 (v := 2) d_Ga_fits_49 rfl ?_
        refine mx_goto 2 d_Ga_fits_52 (by decide) ?_
        have e3 : (nI (2 * j) + 2) = nI (2 * (j + 1)) := by exact nI_add (2 * j) 2
        refine mx_lsc (congrArg (fun z9 => ([some (.int (nI (a))), some (.int (nI (b))), some (.ref (te)), some (.int (z9))] : List (Option Value))) e3) ?_
        exact ih (by rw [fitN_s, hinv, k0]; rfl)
      · skip
        have k0 : (pbN (T (2 * j)) a b == decide (T (2 * j + 1) = 1)) = false := by first | (rw [bI_f1 c_44, decide_eq_true c_36]; rfl) | (rw [bI_f0 c_44, decide_eq_false c_36]; rfl)
        refine mx_in_0 d_Ga_fits_47 ?_
        exact mx_zret d_Ga_fits_48 rfl (by first | exact Or.inl rfl | exact Or.inr rfl) (mx_ri_of (by rw [fitN_f (i := j + 1) (by rw [fitN_s, hinv, k0]; rfl) (by omega)]; rfl))
  · try dsimp only at hinv ⊢
    refine mx_il3 d_Ga_fits_2 ?_
    refine mx_in_1 d_Ga_fits_3 ?_
    refine mx_iaddN d_Ga_fits_4 ?_
    refine mx_al2 d_Ga_fits_5 ?_
    refine mx_getI d_Ga_fits_6 fl_Ga_22 (by assumption) ?_
    refine mx_ti (y := nI (2 * p)) (hTl) ?_
    refine mx_icN_ge 55 d_Ga_fits_9 (by decide) (by omega) (by omega) (fun c_9 => ?_) (fun c_9 => absurd c_9 (by omega))
    refine mx_in_1 d_Ga_fits_55 ?_
    exact mx_zret d_Ga_fits_56 rfl (by first | exact Or.inl rfl | exact Or.inr rfl) (mx_ri_of (by rw [hinv]; rfl))
theorem c_Ga_hear (hGa : ga_ok S P ga) (hTe : te_ok S P te) (hT : tp_rel I (te + 1) T) (hn : n ≤ 400) (hTl : I te 1 = nI n) (hd : ga + 3 ≤ te) : mx_C l E M_Ga_hear 2 0 0 [.ref (ga), .ref (te)] (t, S, I, P, J) (mx_sR (some (.int (bI (vs_gh T n)))) t S P J (fun K => mx_off (gz ga) I K ∧ (vs_gh T n = true → gs_inv I K ga T (n / 2) 4096))) := by
  obtain ⟨hTe0, hTe1, hTe2, hTe3, hTe4, hTe5, hTe6, hTe7, hTe8, hTe9, hTe10⟩ := id hTe
  obtain ⟨hGa0, hGa1, hGa2, hGa3, hGa4⟩ := id hGa
  refine mx_C_of (ls0 := [some (.ref (ga)), some (.ref (te)), none, none]) (by decide +kernel) rfl rfl (Nat.le_of_ble_eq_true rfl) rfl ?_
  refine mx_al1 d_Ga_hear_0 ?_
  refine mx_getI d_Ga_hear_1 fl_Ga_22 (by assumption) ?_
  refine mx_ti (y := nI (n)) (hTl) ?_
  refine mx_in_2 d_Ga_hear_4 ?_
  refine mx_irem d_Ga_hear_5 (by decide) ?_
  refine mx_ti (y := nI (n % 2)) (vs_rem2 (by omega)) ?_
  refine mx_if_ne 18 d_Ga_hear_6 (by decide) (fun c_6 => ?_) (fun c_6 => ?_)
  · skip
    have o1 := nI_gt c_6
    refine mx_in_0 d_Ga_hear_18 ?_
    exact mx_zret d_Ga_hear_19 rfl (by first | exact Or.inl rfl | exact Or.inr rfl) (mx_sR_i (by first | (rw [vs_gh_1 (by omega)]; rfl) | (rw [vs_gh_2 (by omega)]; rfl)) ⟨mx_off.rf, fun h9 => absurd h9 (by first | (rw [vs_gh_1 (by omega)]; decide) | (rw [vs_gh_2 (by omega)]; decide))⟩)
  · skip
    have o1 := nI_z (by omega) c_6
    obtain ⟨p, hp⟩ : ∃ p, p = n / 2 := ⟨_, rfl⟩
    have hp2 : n = 2 * p := by omega
    refine mx_al1 d_Ga_hear_9 ?_
    refine mx_getI d_Ga_hear_10 fl_Ga_22 (by assumption) ?_
    refine mx_ti (y := nI (n)) (hTl) ?_
    refine mx_bip 40 d_Ga_hear_13 (by decide) ?_
    refine mx_icN_le 20 d_Ga_hear_15 (by decide) (by omega) (by omega) (fun c_15 => ?_) (fun c_15 => ?_)
    · skip
      refine mx_in_0 d_Ga_hear_20 ?_
      refine mx_is2 d_Ga_hear_21 ?_
      refine mx_loopI (N := p) (fun j => ∀ a, a < j → T (2 * a) < 64 ∧ T (2 * a + 1) < 2) (ls := fun j => [some (.ref (ga)), some (.ref (te)), some (.int (nI (2 * j))), none]) (X := fun j => (t, S, I, P, J)) (fun a ha => absurd ha (by omega)) (fun j hj hinv ih => ?_) (fun hinv => ?_)
      · try dsimp only at hinv ih ⊢
        refine mx_il2 d_Ga_hear_22 ?_
        refine mx_in_1 d_Ga_hear_23 ?_
        refine mx_iaddN d_Ga_hear_24 ?_
        refine mx_al1 d_Ga_hear_25 ?_
        refine mx_getI d_Ga_hear_26 fl_Ga_22 (by assumption) ?_
        refine mx_ti (y := nI (n)) (hTl) ?_
        refine mx_icN_ge 67 d_Ga_hear_29 (by decide) (by omega) (by omega) (fun c_29 => absurd c_29 (by omega)) (fun c_29 => ?_)
        refine mx_al1 d_Ga_hear_32 ?_
        refine mx_getR d_Ga_hear_33 fl_Ga_27 (by assumption) (by assumption) ?_
        refine mx_il2 d_Ga_hear_36 ?_
        refine mx_cSN2i d_Ga_hear_37 (c_get (k := 2 * j) (by assumption) (by omega) (by omega)) ok_Vh_get ml_Ga_30 (by decide) (Nat.le_of_ble_eq_true rfl) ?_
        have hTa := (hT (2 * j) (by omega)).1
        refine mx_ti (y := nI (T (2 * j))) ((hT (2 * j) (by omega)).2) ?_
        refine mx_bip 63 d_Ga_hear_40 (by decide) ?_
        refine mx_icN_gt 59 d_Ga_hear_42 (by decide) (by omega) (by omega) (fun c_42 => ?_) (fun c_42 => ?_)
        · skip
          refine mx_in_0 d_Ga_hear_59 ?_
          exact mx_zret d_Ga_hear_60 rfl (by first | exact Or.inl rfl | exact Or.inr rfl) (mx_sR_i (by rw [vs_gh_3 (j := j) (by omega) (by omega)]; rfl) ⟨mx_off.rf, fun h9 => absurd h9 (by rw [vs_gh_3 (j := j) (by omega) (by omega)]; decide)⟩)
        · skip
          refine mx_al1 d_Ga_hear_45 ?_
          refine mx_getR d_Ga_hear_46 fl_Ga_27 (by assumption) (by assumption) ?_
          refine mx_il2 d_Ga_hear_49 ?_
          refine mx_in_1 d_Ga_hear_50 ?_
          refine mx_iaddN d_Ga_hear_51 ?_
          refine mx_cSN2i d_Ga_hear_52 (c_get (k := 2 * j + 1) (by assumption) (by omega) (by omega)) ok_Vh_get ml_Ga_30 (by decide) (Nat.le_of_ble_eq_true rfl) ?_
          have hTb := (hT (2 * j + 1) (by omega)).1
          refine mx_ti (y := nI (T (2 * j + 1))) ((hT (2 * j + 1) (by omega)).2) ?_
          refine mx_in_1 d_Ga_hear_55 ?_
          refine mx_icN_le 61 d_Ga_hear_56 (by decide) (by omega) (by omega) (fun c_56 => ?_) (fun c_56 => ?_)
          · skip
            refine mx_ii2 (v := 2) d_Ga_hear_61 rfl ?_
            refine mx_goto 22 d_Ga_hear_64 (by decide) ?_
            have e2 : (nI (2 * j) + 2) = nI (2 * (j + 1)) := by exact nI_add (2 * j) 2
            refine mx_lsc (congrArg (fun z9 => ([some (.ref (ga)), some (.ref (te)), some (.int (z9)), none] : List (Option Value))) e2) ?_
            exact ih (vs_nextT hinv (by omega))
          · skip
            refine mx_in_0 d_Ga_hear_59 ?_
            exact mx_zret d_Ga_hear_60 rfl (by first | exact Or.inl rfl | exact Or.inr rfl) (mx_sR_i (by rw [vs_gh_3 (j := j) (by omega) (by omega)]; rfl) ⟨mx_off.rf, fun h9 => absurd h9 (by rw [vs_gh_3 (j := j) (by omega) (by omega)]; decide)⟩)
      · try dsimp only at hinv ⊢
        have hgh : vs_gh T n = true := vs_gh_t (by omega) (by omega) (fun a ha => hinv a (by omega))
        refine mx_il2 d_Ga_hear_22 ?_
        refine mx_in_1 d_Ga_hear_23 ?_
        refine mx_iaddN d_Ga_hear_24 ?_
        refine mx_al1 d_Ga_hear_25 ?_
        refine mx_getI d_Ga_hear_26 fl_Ga_22 (by assumption) ?_
        refine mx_ti (y := nI (n)) (hTl) ?_
        refine mx_icN_ge 67 d_Ga_hear_29 (by decide) (by omega) (by omega) (fun c_29 => ?_) (fun c_29 => absurd c_29 (by omega))
        refine mx_al0 d_Ga_hear_67 ?_
        refine mx_in_0 d_Ga_hear_68 ?_
        refine mx_putI d_Ga_hear_69 fl_Ga_9 (by assumption) ?_
        refine mx_in_0 d_Ga_hear_72 ?_
        refine mx_is2 d_Ga_hear_73 ?_
        refine mx_loopX (α := (mx_I)) (N := 64) (a0 := (mx_up I (ga) 0 (nI (0)))) (fun a z9 => gs_inv I z9 ga T p (64 * a)) (ls := fun a z9 => [some (.ref (ga)), some (.ref (te)), some (.int (nI (a))), none]) (X := fun a z9 => (t, S, z9, P, J)) (gs_inv0) (fun a ha z9 hinv ih => ?_) (fun z9 hinv => ?_)
        · skip
          obtain ⟨K, hz9⟩ : ∃ q, q = z9 := ⟨_, rfl⟩
          subst hz9
          try dsimp only at hinv ih ⊢
          refine mx_il2 d_Ga_hear_74 ?_
          refine mx_bip 63 d_Ga_hear_75 (by decide) ?_
          refine mx_icN_gt 149 d_Ga_hear_77 (by decide) (by omega) (by omega) (fun c_77 => absurd c_77 (by omega)) (fun c_77 => ?_)
          refine mx_in_0 d_Ga_hear_80 ?_
          refine mx_is3 d_Ga_hear_81 ?_
          have ih74 := ih
          have hinv74 := hinv
          refine mx_loopX (α := (mx_I)) (N := 64) (a0 := K) (fun b z9 => gs_inv I z9 ga T p (64 * a + b)) (ls := fun b z9 => [some (.ref (ga)), some (.ref (te)), some (.int (nI (a))), some (.int (nI (b)))]) (X := fun b z9 => (t, S, z9, P, J)) (hinv) (fun b hb z9 hinv ih => ?_) (fun z9 hinv => ?_)
          · skip
            obtain ⟨K, hz9⟩ : ∃ q, q = z9 := ⟨_, rfl⟩
            subst hz9
            try dsimp only at hinv ih ⊢
            have hT9 : tp_rel K (te + 1) T := fun k hk => by rw [hinv.1 _ (by unfold gz; omega)]; exact hT k hk
            have hTl9 : K te 1 = nI (2 * p) := by rw [hinv.1 _ (by unfold gz; omega), ← hp2]; exact hTl
            have q1 : (64 * a + b) / 64 = a := by omega
            have q2 : (64 * a + b) % 64 = b := by omega
            have hcap0 := fit_le (T := T) (p := p) (r := 64 * a + b) (by omega)
            refine mx_il3 d_Ga_hear_82 ?_
            refine mx_bip 63 d_Ga_hear_83 (by decide) ?_
            refine mx_icN_gt 143 d_Ga_hear_85 (by decide) (by omega) (by omega) (fun c_85 => absurd c_85 (by omega)) (fun c_85 => ?_)
            refine mx_il2 d_Ga_hear_88 ?_
            refine mx_il3 d_Ga_hear_89 ?_
            refine mx_iand d_Ga_hear_90 ?_
            refine mx_if_ne 137 d_Ga_hear_91 (by decide) (fun c_91 => ?_) (fun c_91 => ?_)
            · skip
              have k0 : vs_fit T p (64 * a + b) = false := by unfold vs_fit disN; rw [q1, q2, decide_eq_false c_91]; rfl
              refine mx_iN3 d_Ga_hear_137 ?_
              refine mx_goto 82 d_Ga_hear_140 (by decide) ?_
              exact ih K (gs_step0 hinv k0)
            · skip
              refine mx_il2 d_Ga_hear_94 ?_
              refine mx_il3 d_Ga_hear_95 ?_
              refine mx_al1 d_Ga_hear_96 ?_
              refine mx_cS3i d_Ga_hear_97 (c_Ga_fits hTe hT9 hTl9 (by omega) (a := a) (b := b)) ok_Ga_fits ml_Ga_34 (by decide) (Nat.le_of_ble_eq_true rfl) ?_
              refine mx_ifB_eq 137 d_Ga_hear_100 (by decide) (fun c_100 => ?_) (fun c_100 => ?_)
              · skip
                have k0 : vs_fit T p (64 * a + b) = false := by unfold vs_fit disN; rw [q1, q2, c_100]; simp
                refine mx_iN3 d_Ga_hear_137 ?_
                refine mx_goto 82 d_Ga_hear_140 (by decide) ?_
                exact ih K (gs_step0 hinv k0)
              · skip
                have k0 : vs_fit T p (64 * a + b) = true := by unfold vs_fit disN; rw [q1, q2, decide_eq_true c_91, c_100]; rfl
                have hcap := fit_lt (by omega) k0
                refine mx_al0 d_Ga_hear_103 ?_
                refine mx_getR d_Ga_hear_104 fl_Ga_15 (by assumption) (by assumption) ?_
                refine mx_al0 d_Ga_hear_107 ?_
                refine mx_getI d_Ga_hear_108 fl_Ga_9 (by assumption) ?_
                refine mx_ti (y := nI (fb_ct (vs_fit T p) (64 * a + b))) (hinv.2.1) ?_
                refine mx_il2 d_Ga_hear_111 ?_
                refine mx_cSN3v d_Ga_hear_112 (c_put (k := fb_ct (vs_fit T p) (64 * a + b)) (by assumption) (by omega) (by omega)) ok_Vh_put ml_Ga_38 (by decide) (Nat.le_of_ble_eq_true rfl) ?_
                refine mx_al0 d_Ga_hear_115 ?_
                refine mx_getR d_Ga_hear_116 fl_Ga_19 (by assumption) (by assumption) ?_
                refine mx_al0 d_Ga_hear_119 ?_
                refine mx_getI d_Ga_hear_120 fl_Ga_9 (by assumption) ?_
                refine mx_ti (y := nI (fb_ct (vs_fit T p) (64 * a + b))) ((congrFun (mx_up_ne (by omega)) 0).trans hinv.2.1) ?_
                refine mx_il3 d_Ga_hear_123 ?_
                refine mx_cSN3v d_Ga_hear_124 (c_put (k := fb_ct (vs_fit T p) (64 * a + b)) (by assumption) (by omega) (by omega)) ok_Vh_put ml_Ga_38 (by decide) (Nat.le_of_ble_eq_true rfl) ?_
                refine mx_al0 d_Ga_hear_127 ?_
                refine mx_dup d_Ga_hear_128 rfl ?_
                refine mx_getI d_Ga_hear_129 fl_Ga_9 (by assumption) ?_
                refine mx_ti (y := nI (fb_ct (vs_fit T p) (64 * a + b))) ((congrFun (mx_up_ne (by omega)) 0).trans ((congrFun (mx_up_ne (by omega)) 0).trans hinv.2.1)) ?_
                refine mx_in_1 d_Ga_hear_132 ?_
                refine mx_iaddN d_Ga_hear_133 ?_
                refine mx_putI d_Ga_hear_134 fl_Ga_9 (by assumption) ?_
                refine mx_iN3 d_Ga_hear_137 ?_
                refine mx_goto 82 d_Ga_hear_140 (by decide) ?_
                exact ih (mx_up (mx_up (mx_up K (ga + 1) (fb_ct (vs_fit T p) (64 * a + b)) (nI (a))) (ga + 2) (fb_ct (vs_fit T p) (64 * a + b)) (nI (b))) (ga) 0 (nI (fb_ct (vs_fit T p) (64 * a + b) + 1))) (gs_step1 hinv k0 q1 q2)
          · skip
            obtain ⟨K, hz9⟩ : ∃ q, q = z9 := ⟨_, rfl⟩
            subst hz9
            try dsimp only at hinv ⊢
            refine mx_il3 d_Ga_hear_82 ?_
            refine mx_bip 63 d_Ga_hear_83 (by decide) ?_
            refine mx_icN_gt 143 d_Ga_hear_85 (by decide) (by omega) (by omega) (fun c_85 => ?_) (fun c_85 => absurd c_85 (by omega))
            refine mx_iN2 d_Ga_hear_143 ?_
            refine mx_goto 74 d_Ga_hear_146 (by decide) ?_
            refine mx_dn3 ?_
            exact ih K (hinv)
        · skip
          obtain ⟨K, hz9⟩ : ∃ q, q = z9 := ⟨_, rfl⟩
          subst hz9
          try dsimp only at hinv ⊢
          refine mx_il2 d_Ga_hear_74 ?_
          refine mx_bip 63 d_Ga_hear_75 (by decide) ?_
          refine mx_icN_gt 149 d_Ga_hear_77 (by decide) (by omega) (by omega) (fun c_77 => ?_) (fun c_77 => absurd c_77 (by omega))
          refine mx_in_1 d_Ga_hear_149 ?_
          exact mx_zret d_Ga_hear_150 rfl (by first | exact Or.inl rfl | exact Or.inr rfl) (mx_sR_i (by rw [hgh]; rfl) ⟨hinv.1, fun _ => by rw [← hp]; exact hinv⟩)
    · skip
      refine mx_in_0 d_Ga_hear_18 ?_
      exact mx_zret d_Ga_hear_19 rfl (by first | exact Or.inl rfl | exact Or.inr rfl) (mx_sR_i (by first | (rw [vs_gh_1 (by omega)]; rfl) | (rw [vs_gh_2 (by omega)]; rfl)) ⟨mx_off.rf, fun h9 => absurd h9 (by first | (rw [vs_gh_1 (by omega)]; decide) | (rw [vs_gh_2 (by omega)]; decide))⟩)
theorem vs_pl_s (L : Nat → Nat) (n : Nat) : vs_pl L (n + 1) = vs_plF (vs_pc (L n / 64) + vs_pc (L n % 64)) (vs_pl L n) := rfl
theorem vs_pcb (k : Nat) : vs_pc k ≤ 31 := fb_ct_le _ _
def vs_gr2 (L : Nat → Nat) (C k : Nat) : Nat := max (vs_in L k C) (C - vs_in L k C)
def vs_part (L : Nat → Nat) (C : Nat) : Int32 := if 2 ≤ C then (vs_pt (vs_gr2 L C) 64).1 else -1
theorem vs_pt_le {g : Nat → Nat} {c : Nat} (hg : ∀ k, g k ≤ c) (n : Nat) : (vs_pt g n).2 ≤ c := by
  induction n with
  | zero => exact Nat.zero_le _
  | succ n ih => rw [vs_pt_s]; split; exact hg n; exact ih
theorem vs_gr2_le (L : Nat → Nat) (C k : Nat) : vs_gr2 L C k ≤ C := by
  have := vs_in_le L k C
  unfold vs_gr2; omega
theorem c_Ga_plainest (hGa : ga_ok S P ga) (hL : gl_rel I ga C L)  : mx_C l E M_Ga_plainest 1 0 0 [.ref (ga)] (t, S, I, P, J) (mx_ri (vs_pl L C) (t, S, I, P, J)) := by
  obtain ⟨hGa0, hGa1, hGa2, hGa3, hGa4⟩ := id hGa
  have hC := hL.2.1
  refine mx_C_of (ls0 := [some (.ref (ga)), none, none, none]) (by decide +kernel) rfl rfl (Nat.le_of_ble_eq_true rfl) rfl ?_
  refine mx_ic_m1 d_Ga_plainest_0 ?_
  refine mx_is1 d_Ga_plainest_1 ?_
  refine mx_in_0 d_Ga_plainest_2 ?_
  refine mx_is2 d_Ga_plainest_3 ?_
  refine mx_loop (N := C) (ls := fun i => [some (.ref (ga)), some (.int ((vs_pl L i))), some (.int (nI (i))), none]) (X := fun i => (t, S, I, P, J)) (fun i hi ih => ?_) ?_
  · try dsimp only
    refine mx_il2 d_Ga_plainest_4 ?_
    refine mx_al0 d_Ga_plainest_5 ?_
    refine mx_getI d_Ga_plainest_6 fl_Ga_9 (by assumption) ?_
    refine mx_ti (y := nI (C)) (hL.1) ?_
    refine mx_icN_ge 54 d_Ga_plainest_9 (by decide) (by omega) (by omega) (fun c_9 => absurd c_9 (by omega)) (fun c_9 => ?_)
    have hLi := (hL.2.2 i (by omega)).1
    have hC := hL.2.1
    refine mx_al0 d_Ga_plainest_12 ?_
    refine mx_getR d_Ga_plainest_13 fl_Ga_15 (by assumption) (by assumption) ?_
    refine mx_il2 d_Ga_plainest_16 ?_
    refine mx_cSN2i d_Ga_plainest_17 (c_get (k := i) (by assumption) (by omega) (by omega)) ok_Vh_get ml_Ga_30 (by decide) (Nat.le_of_ble_eq_true rfl) ?_
    refine mx_ti (y := nI (L i / 64)) ((hL.2.2 i (by omega)).2.1) ?_
    refine mx_cS1i d_Ga_plainest_20 (c_bitCountN (k := L i / 64) (by omega)) ok_Jd_Integer_bitCount ml_Ga_46 (by decide) (Nat.le_of_ble_eq_true rfl) ?_
    refine mx_al0 d_Ga_plainest_23 ?_
    refine mx_getR d_Ga_plainest_24 fl_Ga_19 (by assumption) (by assumption) ?_
    refine mx_il2 d_Ga_plainest_27 ?_
    refine mx_cSN2i d_Ga_plainest_28 (c_get (k := i) (by assumption) (by omega) (by omega)) ok_Vh_get ml_Ga_30 (by decide) (Nat.le_of_ble_eq_true rfl) ?_
    refine mx_ti (y := nI (L i % 64)) ((hL.2.2 i (by omega)).2.2) ?_
    refine mx_cS1i d_Ga_plainest_31 (c_bitCountN (k := L i % 64) (by omega)) ok_Jd_Integer_bitCount ml_Ga_46 (by decide) (Nat.le_of_ble_eq_true rfl) ?_
    refine mx_iaddN d_Ga_plainest_34 ?_
    refine mx_is3 d_Ga_plainest_35 ?_
    refine mx_il1 d_Ga_plainest_36 ?_
    refine mx_ic_m1 d_Ga_plainest_37 ?_
    refine mx_icmp_eq 46 d_Ga_plainest_38 (by decide) (fun c_38 => ?_) (fun c_38 => ?_)
    · skip
      refine mx_il3 d_Ga_plainest_46 ?_
      refine mx_is1 d_Ga_plainest_47 ?_
      refine mx_iN2 d_Ga_plainest_48 ?_
      refine mx_goto 4 d_Ga_plainest_51 (by decide) ?_
      refine mx_dn3 ?_
      have e1 : nI (vs_pc (L i / 64) + (vs_pc (L i % 64))) = (vs_pl L (i + 1)) := by rw [vs_pl_s, vs_plF]; first | (rw [if_pos (Or.inl c_38)]; done) | (rw [if_pos (Or.inr (Int32.not_le.mp c_43))]; done) | (rw [if_neg (fun z => z.elim c_38 (Int32.not_lt.mpr c_43))]; done)
      refine mx_lsc (congrArg (fun z9 => ([some (.ref (ga)), some (.int (z9)), some (.int (nI (i + 1))), none] : List (Option Value))) e1) ?_
      exact ih
    · skip
      refine mx_il3 d_Ga_plainest_41 ?_
      refine mx_il1 d_Ga_plainest_42 ?_
      refine mx_icmp_ge 48 d_Ga_plainest_43 (by decide) (fun c_43 => ?_) (fun c_43 => ?_)
      · skip
        refine mx_iN2 d_Ga_plainest_48 ?_
        refine mx_goto 4 d_Ga_plainest_51 (by decide) ?_
        refine mx_dn3 ?_
        have e1 : (vs_pl L i) = (vs_pl L (i + 1)) := by rw [vs_pl_s, vs_plF]; first | (rw [if_pos (Or.inl c_38)]; done) | (rw [if_pos (Or.inr (Int32.not_le.mp c_43))]; done) | (rw [if_neg (fun z => z.elim c_38 (Int32.not_lt.mpr c_43))]; done)
        refine mx_lsc (congrArg (fun z9 => ([some (.ref (ga)), some (.int (z9)), some (.int (nI (i + 1))), none] : List (Option Value))) e1) ?_
        exact ih
      · skip
        refine mx_il3 d_Ga_plainest_46 ?_
        refine mx_is1 d_Ga_plainest_47 ?_
        refine mx_iN2 d_Ga_plainest_48 ?_
        refine mx_goto 4 d_Ga_plainest_51 (by decide) ?_
        refine mx_dn3 ?_
        have e1 : nI (vs_pc (L i / 64) + (vs_pc (L i % 64))) = (vs_pl L (i + 1)) := by rw [vs_pl_s, vs_plF]; first | (rw [if_pos (Or.inl c_38)]; done) | (rw [if_pos (Or.inr (Int32.not_le.mp c_43))]; done) | (rw [if_neg (fun z => z.elim c_38 (Int32.not_lt.mpr c_43))]; done)
        refine mx_lsc (congrArg (fun z9 => ([some (.ref (ga)), some (.int (z9)), some (.int (nI (i + 1))), none] : List (Option Value))) e1) ?_
        exact ih
  · try dsimp only
    refine mx_il2 d_Ga_plainest_4 ?_
    refine mx_al0 d_Ga_plainest_5 ?_
    refine mx_getI d_Ga_plainest_6 fl_Ga_9 (by assumption) ?_
    refine mx_ti (y := nI (C)) (hL.1) ?_
    refine mx_icN_ge 54 d_Ga_plainest_9 (by decide) (by omega) (by omega) (fun c_9 => ?_) (fun c_9 => absurd c_9 (by omega))
    refine mx_il1 d_Ga_plainest_54 ?_
    exact mx_iret d_Ga_plainest_55 rfl (mx_ri_of rfl)
theorem c_Ga_parting (hGa : ga_ok S P ga) (hL : gl_rel I ga C L)  : mx_C l E M_Ga_parting 1 0 0 [.ref (ga)] (t, S, I, P, J) (mx_ri (vs_part L C) (t, S, I, P, J)) := by
  obtain ⟨hGa0, hGa1, hGa2, hGa3, hGa4⟩ := id hGa
  have hC := hL.2.1
  refine mx_C_of (ls0 := [some (.ref (ga)), none, none, none, none, none]) (by decide +kernel) rfl rfl (Nat.le_of_ble_eq_true rfl) rfl ?_
  refine mx_ic_m1 d_Ga_parting_0 ?_
  refine mx_is1 d_Ga_parting_1 ?_
  refine mx_in_0 d_Ga_parting_2 ?_
  refine mx_is2 d_Ga_parting_3 ?_
  refine mx_in_0 d_Ga_parting_4 ?_
  refine mx_is3 d_Ga_parting_5 ?_
  refine mx_loopI (N := 64) (fun k => k = 0 ∨ 2 ≤ C) (ls := fun k => [some (.ref (ga)), some (.int ((vs_pt (vs_gr2 L C) k).1)), some (.int (nI ((vs_pt (vs_gr2 L C) k).2))), some (.int (nI (k))), none, none]) (X := fun k => (t, S, I, P, J)) (Or.inl rfl) (fun k hk hinv ih => ?_) (fun hinv => ?_)
  · try dsimp only at hinv ih ⊢
    refine mx_il3 d_Ga_parting_6 ?_
    refine mx_bip 63 d_Ga_parting_7 (by decide) ?_
    refine mx_icN_gt 105 d_Ga_parting_9 (by decide) (by omega) (by omega) (fun c_9 => absurd c_9 (by omega)) (fun c_9 => ?_)
    refine mx_al0 d_Ga_parting_12 ?_
    refine mx_getI d_Ga_parting_13 fl_Ga_9 (by assumption) ?_
    refine mx_ti (y := nI (C)) (hL.1) ?_
    refine mx_in_2 d_Ga_parting_16 ?_
    refine mx_icN_lt 105 d_Ga_parting_17 (by decide) (by omega) (by omega) (fun c_17 => ?_) (fun c_17 => ?_)
    · skip
      refine mx_il1 d_Ga_parting_105 ?_
      exact mx_iret d_Ga_parting_106 rfl (mx_ri_of (by unfold vs_part; first | (rw [if_pos (by omega)]; done) | (rw [if_neg (by omega)]; have z : k = 0 := (by omega); subst z; rfl)))
    · skip
      refine mx_in_0 d_Ga_parting_20 ?_
      refine mx_is4 d_Ga_parting_21 ?_
      refine mx_in_0 d_Ga_parting_23 ?_
      refine mx_is5 d_Ga_parting_24 ?_
      have ih6 := ih
      have hinv6 := hinv
      refine mx_loop (N := C) (ls := fun i => [some (.ref (ga)), some (.int ((vs_pt (vs_gr2 L C) k).1)), some (.int (nI ((vs_pt (vs_gr2 L C) k).2))), some (.int (nI (k))), some (.int (nI (vs_in L k i))), some (.int (nI (i)))]) (X := fun i => (t, S, I, P, J)) (fun i hi ih => ?_) ?_
      · try dsimp only
        refine mx_il5 d_Ga_parting_26 ?_
        refine mx_al0 d_Ga_parting_28 ?_
        refine mx_getI d_Ga_parting_29 fl_Ga_9 (by assumption) ?_
        refine mx_ti (y := nI (C)) (hL.1) ?_
        refine mx_icN_ge 69 d_Ga_parting_32 (by decide) (by omega) (by omega) (fun c_32 => absurd c_32 (by omega)) (fun c_32 => ?_)
        have hLi := (hL.2.2 i (by omega)).1
        refine mx_il3 d_Ga_parting_35 ?_
        refine mx_al0 d_Ga_parting_36 ?_
        refine mx_getR d_Ga_parting_37 fl_Ga_15 (by assumption) (by assumption) ?_
        refine mx_il5 d_Ga_parting_40 ?_
        refine mx_cSN2i d_Ga_parting_42 (c_get (k := i) (by assumption) (by omega) (by omega)) ok_Vh_get ml_Ga_30 (by decide) (Nat.le_of_ble_eq_true rfl) ?_
        refine mx_ti (y := nI (L i / 64)) ((hL.2.2 i (by omega)).2.1) ?_
        refine mx_al0 d_Ga_parting_45 ?_
        refine mx_getR d_Ga_parting_46 fl_Ga_19 (by assumption) (by assumption) ?_
        refine mx_il5 d_Ga_parting_49 ?_
        refine mx_cSN2i d_Ga_parting_51 (c_get (k := i) (by assumption) (by omega) (by omega)) ok_Vh_get ml_Ga_30 (by decide) (Nat.le_of_ble_eq_true rfl) ?_
        refine mx_ti (y := nI (L i % 64)) ((hL.2.2 i (by omega)).2.2) ?_
        refine mx_cS3i d_Ga_parting_54 (c_Ga_passes) ok_Ga_passes ml_Ga_42 (by decide) (Nat.le_of_ble_eq_true rfl) ?_
        refine mx_ifB_eq 63 d_Ga_parting_57 (by decide) (fun c_57 => ?_) (fun c_57 => ?_)
        · skip
          refine mx_iN5 d_Ga_parting_63 ?_
          refine mx_goto 26 d_Ga_parting_66 (by decide) ?_
          have e4 : nI (vs_in L k i) = nI (vs_in L k (i + 1)) := by (show nI _ = nI (if pbN k (L i / 64) (L i % 64) = true then _ + 1 else _); rw [c_57]; rfl)
          refine mx_lsc (congrArg (fun z9 => ([some (.ref (ga)), some (.int ((vs_pt (vs_gr2 L C) k).1)), some (.int (nI ((vs_pt (vs_gr2 L C) k).2))), some (.int (nI (k))), some (.int (z9)), some (.int (nI (i + 1)))] : List (Option Value))) e4) ?_
          exact ih
        · skip
          refine mx_iN4 d_Ga_parting_60 ?_
          refine mx_iN5 d_Ga_parting_63 ?_
          refine mx_goto 26 d_Ga_parting_66 (by decide) ?_
          have e4 : nI (vs_in L k i + 1) = nI (vs_in L k (i + 1)) := by (show nI _ = nI (if pbN k (L i / 64) (L i % 64) = true then _ + 1 else _); rw [c_57]; rfl)
          refine mx_lsc (congrArg (fun z9 => ([some (.ref (ga)), some (.int ((vs_pt (vs_gr2 L C) k).1)), some (.int (nI ((vs_pt (vs_gr2 L C) k).2))), some (.int (nI (k))), some (.int (z9)), some (.int (nI (i + 1)))] : List (Option Value))) e4) ?_
          exact ih
      · try dsimp only
        refine mx_il5 d_Ga_parting_26 ?_
        refine mx_al0 d_Ga_parting_28 ?_
        refine mx_getI d_Ga_parting_29 fl_Ga_9 (by assumption) ?_
        refine mx_ti (y := nI (C)) (hL.1) ?_
        refine mx_icN_ge 69 d_Ga_parting_32 (by decide) (by omega) (by omega) (fun c_32 => ?_) (fun c_32 => absurd c_32 (by omega))
        refine mx_il4 d_Ga_parting_69 ?_
        refine mx_al0 d_Ga_parting_71 ?_
        refine mx_getI d_Ga_parting_72 fl_Ga_9 (by assumption) ?_
        have hin := vs_in_le L k C
        refine mx_ti (y := nI (C)) (hL.1) ?_
        refine mx_il4 d_Ga_parting_75 ?_
        refine mx_isubN d_Ga_parting_77 (by omega) ?_
        refine mx_mmaxN d_Ga_parting_78 ml_Ga_52 (by decide) (Nat.le_of_ble_eq_true rfl) (by omega) (by omega) ?_
        refine mx_is5 d_Ga_parting_81 ?_
        have hgr : vs_gr2 L C k = max (vs_in L k C) (C - vs_in L k C) := rfl
        have hle := vs_pt_le (vs_gr2_le L C) k
        refine mx_il1 d_Ga_parting_83 ?_
        refine mx_ic_m1 d_Ga_parting_84 ?_
        refine mx_icmp_eq 94 d_Ga_parting_85 (by decide) (fun c_85 => ?_) (fun c_85 => ?_)
        · skip
          have k0 : vs_pt (vs_gr2 L C) (k + 1) = (nI k, vs_gr2 L C k) := by rw [vs_pt_s, if_pos (Or.inl c_85)]
          refine mx_il3 d_Ga_parting_94 ?_
          refine mx_is1 d_Ga_parting_95 ?_
          refine mx_il5 d_Ga_parting_96 ?_
          refine mx_is2 d_Ga_parting_98 ?_
          refine mx_iN3 d_Ga_parting_99 ?_
          refine mx_goto 6 d_Ga_parting_102 (by decide) ?_
          refine mx_dn4 ?_
          refine mx_dn5 ?_
          have e1 : nI (k) = (vs_pt (vs_gr2 L C) (k + 1)).1 := by rw [k0]
          refine mx_lsc (congrArg (fun z9 => ([some (.ref (ga)), some (.int (z9)), some (.int (nI (max (vs_in L k C) (C - (vs_in L k C))))), some (.int (nI (k + 1))), none, none] : List (Option Value))) e1) ?_
          have e2 : nI (max (vs_in L k C) (C - (vs_in L k C))) = nI ((vs_pt (vs_gr2 L C) (k + 1)).2) := by first | (rw [k0]; rfl) | rw [k0]
          refine mx_lsc (congrArg (fun z9 => ([some (.ref (ga)), some (.int ((vs_pt (vs_gr2 L C) (k + 1)).1)), some (.int (z9)), some (.int (nI (k + 1))), none, none] : List (Option Value))) e2) ?_
          exact ih (Or.inr (by omega))
        · skip
          refine mx_il5 d_Ga_parting_88 ?_
          refine mx_il2 d_Ga_parting_90 ?_
          refine mx_icN_ge 99 d_Ga_parting_91 (by decide) (by omega) (by omega) (fun c_91 => ?_) (fun c_91 => ?_)
          · skip
            have k0 : vs_pt (vs_gr2 L C) (k + 1) = vs_pt (vs_gr2 L C) k := by rw [vs_pt_s, if_neg (fun h9 => h9.elim c_85 (by omega))]
            refine mx_iN3 d_Ga_parting_99 ?_
            refine mx_goto 6 d_Ga_parting_102 (by decide) ?_
            refine mx_dn4 ?_
            refine mx_dn5 ?_
            have e1 : (vs_pt (vs_gr2 L C) k).1 = (vs_pt (vs_gr2 L C) (k + 1)).1 := by rw [k0]
            refine mx_lsc (congrArg (fun z9 => ([some (.ref (ga)), some (.int (z9)), some (.int (nI ((vs_pt (vs_gr2 L C) k).2))), some (.int (nI (k + 1))), none, none] : List (Option Value))) e1) ?_
            have e2 : nI ((vs_pt (vs_gr2 L C) k).2) = nI ((vs_pt (vs_gr2 L C) (k + 1)).2) := by first | (rw [k0]; rfl) | rw [k0]
            refine mx_lsc (congrArg (fun z9 => ([some (.ref (ga)), some (.int ((vs_pt (vs_gr2 L C) (k + 1)).1)), some (.int (z9)), some (.int (nI (k + 1))), none, none] : List (Option Value))) e2) ?_
            exact ih (Or.inr (by omega))
          · skip
            have k0 : vs_pt (vs_gr2 L C) (k + 1) = (nI k, vs_gr2 L C k) := by rw [vs_pt_s, if_pos (Or.inr (by omega))]
            refine mx_il3 d_Ga_parting_94 ?_
            refine mx_is1 d_Ga_parting_95 ?_
            refine mx_il5 d_Ga_parting_96 ?_
            refine mx_is2 d_Ga_parting_98 ?_
            refine mx_iN3 d_Ga_parting_99 ?_
            refine mx_goto 6 d_Ga_parting_102 (by decide) ?_
            refine mx_dn4 ?_
            refine mx_dn5 ?_
            have e1 : nI (k) = (vs_pt (vs_gr2 L C) (k + 1)).1 := by rw [k0]
            refine mx_lsc (congrArg (fun z9 => ([some (.ref (ga)), some (.int (z9)), some (.int (nI (max (vs_in L k C) (C - (vs_in L k C))))), some (.int (nI (k + 1))), none, none] : List (Option Value))) e1) ?_
            have e2 : nI (max (vs_in L k C) (C - (vs_in L k C))) = nI ((vs_pt (vs_gr2 L C) (k + 1)).2) := by first | (rw [k0]; rfl) | rw [k0]
            refine mx_lsc (congrArg (fun z9 => ([some (.ref (ga)), some (.int ((vs_pt (vs_gr2 L C) (k + 1)).1)), some (.int (z9)), some (.int (nI (k + 1))), none, none] : List (Option Value))) e2) ?_
            exact ih (Or.inr (by omega))
  · try dsimp only at hinv ⊢
    refine mx_il3 d_Ga_parting_6 ?_
    refine mx_bip 63 d_Ga_parting_7 (by decide) ?_
    refine mx_icN_gt 105 d_Ga_parting_9 (by decide) (by omega) (by omega) (fun c_9 => ?_) (fun c_9 => absurd c_9 (by omega))
    refine mx_il1 d_Ga_parting_105 ?_
    exact mx_iret d_Ga_parting_106 rfl (mx_ri_of (by unfold vs_part; first | (rw [if_pos (by omega)]; done) | (rw [if_neg (by omega)]; have z : k = 0 := (by omega); subst z; rfl)))
def mx_pvR (C : String) (b : Bool) (t : Nat) (S : mx_S) (P : mx_P) (J : mx_G) (R : mx_I → Prop) : mx_R → mx_H → Prop := fun r X => (b = true ∧ r = .inl none ∧ ∃ K, X = (t, S, K, P, J) ∧ R K) ∨ (b = false ∧ r = .inr C ∧ ∃ K t', t ≤ t' ∧ X = (t', S, K, P, J) ∧ R K)
section MXR
variable {M M' : mx_M} {d d' k n pc nx idx c a : Nat} {ls : List (Option Value)} {st : List Value} {X : mx_H} {Q : mx_R → mx_H → Prop} {C : String} {b : Bool} {R : mx_I → Prop}
theorem mx_nV0R {q : vw_C} (hd : mx_d M pc (.invokevirtual idx) 3 nx) (hc : mx_C l E M' d' 1 6 [.ref a] X (mx_pvR C b t S P J R)) (hM : mx_okM M' 0) (hw : Cond.methodLink (mx_own M) idx (mx_y M') ∈ mx_W ∧ Cond.instanceMethod (mx_y M') ∈ mx_W ∧ Cond.selects (mx_y M').cls (mx_y M') (mx_y M') ∈ mx_W) (hs : X.2.1 a = some (0, c)) (hq : mx_cl[c]? = some q ∧ q.1 = (mx_y M').cls) (hh : mx_hh M = []) (hdd : d' + 1 ≤ d) (hk : 1 ≤ k) (hn : 6 ≤ n) (hcat : (st.map fun v => v.category).sum ≤ 8) (kx : b = false → ∀ K t', t ≤ t' → R K → Q (.inr C) (t', S, K, P, J)) (kk : b = true → ∀ K, R K → mx_E l E M d (k - 1) (n - 6) nx ls st (t, S, K, P, J) Q) : mx_E l E M d k n pc ls (.ref a :: st) X Q :=
  mx_callV (k2 := k - 1) (n2 := n - 6) hd hc hM hw hs hq rfl rfl hcat hdd (by omega) (by omega) (fun w X9 h => by rcases h with ⟨h0, h1, K, rfl, hR⟩ | ⟨-, h1, -⟩ <;> cases h1; exact kk h0 K hR) (fun C9 X9 h => by rcases h with ⟨-, h1, -⟩ | ⟨h0, h1, K, t', ht, rfl, hR⟩ <;> cases h1; exact mx_out hh (kx h0 K t' ht hR))
end MXR
/-- what the hearing of rows leaves -/
def gh_fin (I K : mx_I) (x : Nat) (T : Nat → Nat) (n : Nat) : Prop := mx_off (gz (x + 12)) (mx_up I (x + 250) 1 (nI 0)) K ∧ (vs_gh T n = true → ∃ L : Nat → Nat, gl_rel K (x + 12) (fb_ct (vs_fit T (n / 2)) 4096) L ∧ ∀ r, r < 4096 → vs_fit T (n / 2) r = true → L (fb_ct (vs_fit T (n / 2)) r) = r)
theorem gh_of {x : Nat} {K : mx_I} (h1 : mx_off (gz (x + 12)) I K) (h2 : vs_gh T n = true → gs_inv I K (x + 12) T (n / 2) 4096) : gh_fin I (mx_up K (x + 250) 1 (nI 0)) x T n := by
  refine ⟨fun c hc => ?_, fun hg => ?_⟩
  · funext j
    have e := congrFun (h1 c hc) j
    simp only [mx_up]
    rw [e]
  · obtain ⟨L, q1, q2⟩ := gs_end (h2 hg)
    refine ⟨L, ?_, q2⟩
    unfold gl_rel at q1 ⊢
    rw [mx_up_ne (by omega), mx_up_ne (by omega), mx_up_ne (by omega)]
    exact q1
theorem gl_rel.congr {I K : mx_I} (h : gl_rel I ga C L) (e0 : K ga = I ga) (e1 : K (ga + 1) = I (ga + 1)) (e2 : K (ga + 2) = I (ga + 2)) : gl_rel K ga C L := by
  unfold gl_rel; rw [e0, e1, e2]; exact h
theorem c_Vh_hearRows (htr : l.stackTraces = false) (hV : vh_ok S P x) (hTe : te_ok S P (x + 250)) (hT : tp_rel I (x + 250 + 1) T) (hn : n ≤ 400) (hTl : I (x + 250) 1 = nI n) (hGa : ga_ok S P (x + 12))  : mx_C l E M_Vh_hearRows 7 1 6 [.ref (x)] (t, S, I, P, J) (mx_pvR "java/lang/IllegalArgumentException" (vs_gh T n) t S P J (fun K => gh_fin I K x T n)) := by
  obtain ⟨hV0, hVp0, hVp1, hVp2, hVp3, hVp4, hVp5, hVp7, hVp8, hVp9, hVp10, hVp11, hVp12, hVs15, hVs16, hVs68⟩ := id hV
  obtain ⟨hTe0, hTe1, hTe2, hTe3, hTe4, hTe5, hTe6, hTe7, hTe8, hTe9, hTe10⟩ := id hTe
  have hGz := hGa.1
  refine mx_C_of (ls0 := [some (.ref (x)), none]) (by decide +kernel) rfl rfl (Nat.le_of_ble_eq_true rfl) rfl ?_
  refine mx_al0 d_Vh_hearRows_0 ?_
  refine mx_getR d_Vh_hearRows_1 fl_Vh_30 (by assumption) (by assumption) ?_
  refine mx_al0 d_Vh_hearRows_4 ?_
  refine mx_getR d_Vh_hearRows_5 fl_Vh_71 (by assumption) (by assumption) ?_
  refine mx_cV1iR d_Vh_hearRows_8 (c_Ga_hear hGa hTe hT hn hTl (by omega)) ok_Ga_hear ml_Vh_479 (by assumption) ⟨rfl, rfl⟩ (by decide) (Nat.le_of_ble_eq_true rfl) (fun K1 hK1 => ?_)
  refine mx_is1 d_Vh_hearRows_11 ?_
  refine mx_al0 d_Vh_hearRows_12 ?_
  refine mx_getR d_Vh_hearRows_13 fl_Vh_71 (by assumption) (by assumption) ?_
  refine mx_cV0v d_Vh_hearRows_16 (c_Te_empty (by assumption)) ok_Te_empty ml_Vh_112 (by assumption) ⟨rfl, rfl⟩ (by decide) (Nat.le_of_ble_eq_true rfl) ?_
  have hfin := gh_of hK1.1 hK1.2
  refine mx_il1 d_Vh_hearRows_19 ?_
  refine mx_ifB_ne 34 d_Vh_hearRows_20 (by decide) (fun c_20 => ?_) (fun c_20 => ?_)
  · skip
    exact mx_vret d_Vh_hearRows_34 rfl (Or.inl ⟨c_20, rfl, _, rfl, hfin⟩)
  · skip
    exact mx_throwW (i := 39) htr rfl th_Vh_115_119 rfl rfl d_Vh_hearRows_23 d_Vh_hearRows_26 d_Vh_hearRows_27 d_Vh_hearRows_30 d_Vh_hearRows_33 (by decide) (by decide) (by decide) (Nat.le_of_ble_eq_true rfl) (fun t9 ht => Or.inr ⟨c_20, rfl, _, t9, ht, rfl, hfin⟩)
def sp_rules (T : Nat → Nat) (n : Nat) (b : Bool) : Nat × Int32 := if vs_gh T n then (0, if b then vs_pl2 T (n / 2) 4096 else nI (fb_ct (vs_fit T (n / 2)) 4096)) else (1, nI 0)
def vs_gr3 (T : Nat → Nat) (p k : Nat) : Nat := max (vs_in2 T p k 4096) (fb_ct (vs_fit T p) 4096 - vs_in2 T p k 4096)
def vs_part2 (T : Nat → Nat) (p : Nat) : Int32 := if 2 ≤ fb_ct (vs_fit T p) 4096 then (vs_pt2 (vs_gr3 T p) 64).1 else -1
def sp_send (T : Nat → Nat) (n : Nat) : Nat × Int32 := if vs_gh T n then (0, vs_part2 T (n / 2)) else (1, nI 0)
theorem vs_part_eq {p : Nat} (h : ∀ r, r < 4096 → vs_fit T p r = true → L (fb_ct (vs_fit T p) r) = r) : vs_part L (fb_ct (vs_fit T p) 4096) = vs_part2 T p := by
  have e : vs_gr2 L (fb_ct (vs_fit T p) 4096) = vs_gr3 T p := by
    funext k; unfold vs_gr2 vs_gr3; rw [vs_in_eq h]
  have hb : ∀ k, vs_gr3 T p k < 2000000000 := fun k => by
    rw [← e]
    have h1 := vs_gr2_le L (fb_ct (vs_fit T p) 4096) k
    have h2 := fit_le (T := T) (p := p) (Nat.le_refl 4096)
    omega
  unfold vs_part vs_part2
  rw [e, (vs_pt_eq hb (Nat.le_refl 64)).1]
theorem c_Vh_rules (htr : l.stackTraces = false) (hV : vh_ok S P x) (hTe : te_ok S P (x + 250)) (hT : tp_rel I (x + 250 + 1) T) (hn : n ≤ 400) (hTl : I (x + 250) 1 = nI n) (hGa : ga_ok S P (x + 12)) {b : Bool} : mx_C l E M_Vh_rules 8 1 6 [.ref (x), .int (bI (b))] (t, S, I, P, J) (mx_pR (fun _ => "java/lang/IllegalArgumentException") (sp_rules T n b) t S P J (fun K => mx_off (gz (x + 12)) (mx_up I (x + 250) 1 (nI 0)) K)) := by
  obtain ⟨hV0, hVp0, hVp1, hVp2, hVp3, hVp4, hVp5, hVp7, hVp8, hVp9, hVp10, hVp11, hVp12, hVs15, hVs16, hVs68⟩ := id hV
  obtain ⟨hTe0, hTe1, hTe2, hTe3, hTe4, hTe5, hTe6, hTe7, hTe8, hTe9, hTe10⟩ := id hTe
  obtain ⟨hGa0, hGa1, hGa2, hGa3, hGa4⟩ := id hGa
  refine mx_C_of (ls0 := [some (.ref (x)), some (.int (bI (b)))]) (by decide +kernel) rfl rfl (Nat.le_of_ble_eq_true rfl) rfl ?_
  refine mx_al0 d_Vh_rules_0 ?_
  refine mx_nV0R d_Vh_rules_1 (c_Vh_hearRows htr hV hTe hT hn hTl hGa) ok_Vh_hearRows ml_Vh_351 (by assumption) ⟨rfl, rfl⟩ rfl (by decide) (by decide) (by decide) (Nat.le_of_ble_eq_true rfl) (fun hb K t9 ht hR => mx_pR_x ht 0 (by simp [sp_rules, hb]) rfl hR.1) (fun hb K hR => ?_)
  obtain ⟨L, hL, hLr⟩ := hR.2 hb
  refine mx_il1 d_Vh_rules_4 ?_
  refine mx_ifB_eq 18 d_Vh_rules_5 (by decide) (fun c_5 => ?_) (fun c_5 => ?_)
  · skip
    refine mx_al0 d_Vh_rules_18 ?_
    refine mx_getR d_Vh_rules_19 fl_Vh_30 (by assumption) (by assumption) ?_
    refine mx_getI d_Vh_rules_22 fl_Vh_357 (by assumption) ?_
    exact mx_iret d_Vh_rules_25 rfl (mx_pR_i (by unfold sp_rules; rw [if_pos hb, c_5]; first | (rw [if_neg (by decide), hL.1]; done) | (rw [if_pos rfl, vs_pl_eq hLr])) hR.1)
  · skip
    refine mx_al0 d_Vh_rules_8 ?_
    refine mx_getR d_Vh_rules_9 fl_Vh_30 (by assumption) (by assumption) ?_
    refine mx_cV0i d_Vh_rules_12 (c_Ga_plainest hGa hL) ok_Ga_plainest ml_Vh_354 (by assumption) ⟨rfl, rfl⟩ (by decide) (Nat.le_of_ble_eq_true rfl) ?_
    refine mx_goto 25 d_Vh_rules_15 (by decide) ?_
    exact mx_iret d_Vh_rules_25 rfl (mx_pR_i (by unfold sp_rules; rw [if_pos hb, c_5]; first | (rw [if_neg (by decide), hL.1]; done) | (rw [if_pos rfl, vs_pl_eq hLr])) hR.1)
  
theorem c_Vh_send (htr : l.stackTraces = false) (hV : vh_ok S P x) (hTe : te_ok S P (x + 250)) (hT : tp_rel I (x + 250 + 1) T) (hn : n ≤ 400) (hTl : I (x + 250) 1 = nI n) (hGa : ga_ok S P (x + 12))  : mx_C l E M_Vh_send 8 1 6 [.ref (x)] (t, S, I, P, J) (mx_pR (fun _ => "java/lang/IllegalArgumentException") (sp_send T n) t S P J (fun K => mx_off (gz (x + 12)) (mx_up I (x + 250) 1 (nI 0)) K)) := by
  obtain ⟨hV0, hVp0, hVp1, hVp2, hVp3, hVp4, hVp5, hVp7, hVp8, hVp9, hVp10, hVp11, hVp12, hVs15, hVs16, hVs68⟩ := id hV
  obtain ⟨hTe0, hTe1, hTe2, hTe3, hTe4, hTe5, hTe6, hTe7, hTe8, hTe9, hTe10⟩ := id hTe
  obtain ⟨hGa0, hGa1, hGa2, hGa3, hGa4⟩ := id hGa
  refine mx_C_of (ls0 := [some (.ref (x))]) (by decide +kernel) rfl rfl (Nat.le_of_ble_eq_true rfl) rfl ?_
  refine mx_al0 d_Vh_send_0 ?_
  refine mx_nV0R d_Vh_send_1 (c_Vh_hearRows htr hV hTe hT hn hTl hGa) ok_Vh_hearRows ml_Vh_351 (by assumption) ⟨rfl, rfl⟩ rfl (by decide) (by decide) (by decide) (Nat.le_of_ble_eq_true rfl) (fun hb K t9 ht hR => mx_pR_x ht 0 (by simp [sp_send, hb]) rfl hR.1) (fun hb K hR => ?_)
  obtain ⟨L, hL, hLr⟩ := hR.2 hb
  refine mx_al0 d_Vh_send_4 ?_
  refine mx_getR d_Vh_send_5 fl_Vh_30 (by assumption) (by assumption) ?_
  refine mx_cV0i d_Vh_send_8 (c_Ga_parting hGa hL) ok_Ga_parting ml_Vh_360 (by assumption) ⟨rfl, rfl⟩ (by decide) (Nat.le_of_ble_eq_true rfl) ?_
  exact mx_iret d_Vh_send_11 rfl (mx_pR_i (by unfold sp_send; rw [if_pos hb, vs_part_eq hLr]) hR.1)
  
theorem c_Mo_isLetBy {r k : Nat} (hr : r < 4096) : mx_C l E M_Mo_isLetBy 0 0 0 [.int (nI (r)), .int (nI (k))] (t, S, I, P, J) (mx_ri (bI (pbN k (r / 64) (r % 64))) (t, S, I, P, J)) := by
  refine mx_C_of (ls0 := [some (.int (nI (r))), some (.int (nI (k))), none, none]) (by decide +kernel) rfl rfl (Nat.le_of_ble_eq_true rfl) rfl ?_
  refine mx_il0 d_Mo_isLetBy_0 ?_
  refine mx_bip 6 d_Mo_isLetBy_1 (by decide) ?_
  refine mx_ishr d_Mo_isLetBy_3 ?_
  refine mx_ti (y := nI (r / 64)) (vs_shr6 hr) ?_
  refine mx_is2 d_Mo_isLetBy_4 ?_
  refine mx_il0 d_Mo_isLetBy_5 ?_
  refine mx_bip 63 d_Mo_isLetBy_6 (by decide) ?_
  refine mx_iand d_Mo_isLetBy_8 ?_
  refine mx_ti (y := nI (r % 64)) (vs_and63 hr) ?_
  refine mx_is3 d_Mo_isLetBy_9 ?_
  refine mx_il1 d_Mo_isLetBy_10 ?_
  refine mx_il2 d_Mo_isLetBy_11 ?_
  refine mx_iand d_Mo_isLetBy_12 ?_
  refine mx_il2 d_Mo_isLetBy_13 ?_
  refine mx_icmp_ne 27 d_Mo_isLetBy_14 (by decide) (fun c_14 => ?_) (fun c_14 => ?_)
  · skip
    refine mx_in_0 d_Mo_isLetBy_27 ?_
    exact mx_zret d_Mo_isLetBy_28 rfl (by first | exact Or.inl rfl | exact Or.inr rfl) (mx_ri_of (by rw [show pbN k (r / 64) (r % 64) = false from by simp [pbN, *]]; rfl))
  · skip
    refine mx_il1 d_Mo_isLetBy_17 ?_
    refine mx_il3 d_Mo_isLetBy_18 ?_
    refine mx_iand d_Mo_isLetBy_19 ?_
    refine mx_if_ne 27 d_Mo_isLetBy_20 (by decide) (fun c_20 => ?_) (fun c_20 => ?_)
    · skip
      refine mx_in_0 d_Mo_isLetBy_27 ?_
      exact mx_zret d_Mo_isLetBy_28 rfl (by first | exact Or.inl rfl | exact Or.inr rfl) (mx_ri_of (by rw [show pbN k (r / 64) (r % 64) = false from by simp [pbN, *]]; rfl))
    · skip
      refine mx_in_1 d_Mo_isLetBy_23 ?_
      refine mx_goto 28 d_Mo_isLetBy_24 (by decide) ?_
      exact mx_zret d_Mo_isLetBy_28 rfl (by first | exact Or.inl rfl | exact Or.inr rfl) (mx_ri_of (by rw [show pbN k (r / 64) (r % 64) = true from by simp [pbN, *]]; rfl))
def vs_gOk1 (T : Nat → Nat) (i : Nat) : Bool := decide (T i < (if i % 2 = 0 then 64 else 2))
def vs_gg (T : Nat → Nat) (n k : Nat) : Bool := vf k (fun i b => b && vs_gOk1 T i) (decide (n % 2 = 0) && decide (n ≤ 40))
theorem vs_gg_s (T : Nat → Nat) (n k : Nat) : vs_gg T n (k + 1) = (vs_gg T n k && vs_gOk1 T k) := rfl
theorem vs_gg_f {i k : Nat} (h : vs_gg T n i = false) (hi : i ≤ k) : vs_gg T n k = false := by
  obtain ⟨d, rfl⟩ : ∃ d, k = i + d := ⟨k - i, by omega⟩
  induction d with
  | zero => exact h
  | succ d ih => rw [← Nat.add_assoc, vs_gg_s, ih (by omega)]; rfl
theorem vs_gg_t {k : Nat} (h : vs_gg T n k = true) : (n % 2 = 0 ∧ n ≤ 40) ∧ ∀ i, i < k → vs_gOk1 T i = true := by
  induction k with
  | zero =>
    have h : (decide (n % 2 = 0) && decide (n ≤ 40)) = true := h
    rw [Bool.and_eq_true, decide_eq_true_eq, decide_eq_true_eq] at h
    exact ⟨h, fun i hi => absurd hi (by omega)⟩
  | succ k ih =>
    rw [vs_gg_s, Bool.and_eq_true] at h
    exact ⟨(ih h.1).1, vs_nextT (ih h.1).2 h.2⟩
theorem vs_gg_of {k : Nat} (h0 : n % 2 = 0 ∧ n ≤ 40) (h : ∀ i, i < k → vs_gOk1 T i = true) : vs_gg T n k = true := by
  induction k with
  | zero => show (decide (n % 2 = 0) && decide (n ≤ 40)) = true; rw [decide_eq_true h0.1, decide_eq_true h0.2]; rfl
  | succ k ih => rw [vs_gg_s, ih (fun i hi => h i (by omega)), h k (by omega)]; rfl
theorem vs_gg_n (T : Nat → Nat) (n : Nat) : vs_gg T n n = vs_gh T n := by
  cases e : vs_gg T n n
  · cases e2 : vs_gh T n
    · rfl
    · have h1 : n % 2 = 0 := Decidable.byContradiction (fun z => by rw [vs_gh_1 z] at e2; cases e2)
      have h2 : n ≤ 40 := Decidable.byContradiction (fun z => by rw [vs_gh_2 z] at e2; cases e2)
      have h3 : ∀ j, j < n / 2 → T (2 * j) < 64 ∧ T (2 * j + 1) < 2 := fun j hj => Decidable.byContradiction (fun z => by rw [vs_gh_3 hj z] at e2; cases e2)
      rw [vs_gg_of ⟨h1, h2⟩ (fun i hi => by
        have := h3 (i / 2) (by omega)
        unfold vs_gOk1
        by_cases q : i % 2 = 0
        · rw [if_pos q, decide_eq_true_eq]
          rw [show 2 * (i / 2) = i by omega] at this
          exact this.1
        · rw [if_neg q, decide_eq_true_eq]
          rw [show 2 * (i / 2) + 1 = i by omega] at this
          exact this.2)] at e
      cases e
  · obtain ⟨⟨h1, h2⟩, h3⟩ := vs_gg_t e
    refine (vs_gh_t h1 h2 (fun j hj => ?_)).symm
    have a1 := h3 (2 * j) (by omega)
    have a2 := h3 (2 * j + 1) (by omega)
    unfold vs_gOk1 at a1 a2
    rw [if_pos (by omega), decide_eq_true_eq] at a1
    rw [if_neg (by omega), decide_eq_true_eq] at a2
    exact ⟨a1, a2⟩
def hf_inv (I0 K : mx_I) (mo : Nat) (T : Nat → Nat) (p q : Nat) : Prop := mx_off (fun c => c = mo + 12) I0 K ∧ ∀ r, r < q → K (mo + 12) r = bI (vs_fit T p r)
theorem hf_up {I0 K : mx_I} {q : Nat} {v : Int32} (h : hf_inv I0 K mo T p q) : hf_inv I0 (mx_up K (mo + 12) q v) mo T p q := ⟨fun c hc => (mx_up_ne hc).trans (h.1 c hc), fun r hr => by
  rw [← h.2 r hr]
  have : ¬ r = q := by omega
  simp [mx_up, this]⟩
theorem hf_next {I0 K : mx_I} {q : Nat} (h : hf_inv I0 K mo T p q) (e : K (mo + 12) q = bI (vs_fit T p q)) : hf_inv I0 K mo T p (q + 1) := ⟨h.1, vs_nextT h.2 e⟩
theorem c_Mo_heard (hM : mo_ok S P mo) (hm : I (mo + 1) = m) (hT : tp_rel I (mo + 5) T) (hTl : I mo 8 = nI n) (hn : n ≤ 400) : mx_C l E M_Mo_heard 1 0 0 [.ref (mo)] (t, S, I, P, J) (mx_sR (some (.int (if vs_gh T n then nI (fb_ct (vs_fit T (n / 2)) 4096) else -1))) t S P J (fun K => mx_off (fun c => c = mo + 12) (mx_up I (mo) 8 (nI (0))) K ∧ (vs_gh T n = true → hf_inv (mx_up I (mo) 8 (nI (0))) K mo T (n / 2) 4096))) := by
  obtain ⟨hM0, hMp1, hMp2, hMp4, hMp5, hMp7, hMp14, hMp21, hMp22, hMp23, hMp24, hMp25, hMp26, hMp27, hMs1, hMs2, hMs3, hMs4, hMs5, hMs6, hMs7, hMs8, hMs9, hMs10, hMs11, hMs12, hMs13⟩ := id hM
  refine mx_C_of (ls0 := [some (.ref (mo)), none, none, none, none, none]) (by decide +kernel) rfl rfl (Nat.le_of_ble_eq_true rfl) rfl ?_
  refine mx_al0 d_Mo_heard_0 ?_
  refine mx_getI d_Mo_heard_1 fl_Mo_81 (by assumption) ?_
  refine mx_ti (y := nI (n)) (hTl) ?_
  refine mx_is1 d_Mo_heard_4 ?_
  refine mx_al0 d_Mo_heard_5 ?_
  refine mx_in_0 d_Mo_heard_6 ?_
  refine mx_putI d_Mo_heard_7 fl_Mo_81 (by assumption) ?_
  have hT9 : tp_rel (mx_up I (mo) 8 (nI (0))) (mo + 5) T := hT.up
  refine mx_il1 d_Mo_heard_10 ?_
  refine mx_in_2 d_Mo_heard_11 ?_
  refine mx_irem d_Mo_heard_12 (by decide) ?_
  refine mx_ti (y := nI (n % 2)) (vs_rem2 (by omega)) ?_
  refine mx_if_ne 26 d_Mo_heard_13 (by decide) (fun c_13 => ?_) (fun c_13 => ?_)
  · skip
    have o1 := nI_gt c_13
    have w0 : nI 0 = bI (vs_gg T n 0) := by rw [show vs_gg T n 0 = false from by show (decide (n % 2 = 0) && decide (n ≤ 40)) = false; rw [decide_eq_false (by omega)]; rfl]; rfl
    refine mx_in_0 d_Mo_heard_26 ?_
    refine mx_is2 d_Mo_heard_27 ?_
    refine mx_in_0 d_Mo_heard_28 ?_
    refine mx_is3 d_Mo_heard_29 ?_
    refine mx_lsc (congrArg (fun z9 => ([some (.ref (mo)), some (.int (nI (n))), some (.int (z9)), some (.int (nI (0))), none, none] : List (Option Value))) (w0)) ?_
    refine mx_loop (N := n) (ls := fun i => [some (.ref (mo)), some (.int (nI (n))), some (.int (bI (vs_gg T n i))), some (.int (nI (i))), none, none]) (X := fun i => (t, S, (mx_up I (mo) 8 (nI (0))), P, J)) (fun i hi ih => ?_) ?_
    · try dsimp only
      refine mx_il3 d_Mo_heard_30 ?_
      refine mx_il1 d_Mo_heard_31 ?_
      refine mx_icN_ge 72 d_Mo_heard_32 (by decide) (by omega) (by omega) (fun c_32 => absurd c_32 (by omega)) (fun c_32 => ?_)
      refine mx_il2 d_Mo_heard_35 ?_
      refine mx_ifB_eq 72 d_Mo_heard_36 (by decide) (fun c_36 => ?_) (fun c_36 => ?_)
      · skip
        refine mx_il2 d_Mo_heard_72 ?_
        refine mx_ifB_ne 78 d_Mo_heard_73 (by decide) (fun c_73 => absurd c_73 (by rw [c_36]; decide)) (fun c_73 => ?_)
        refine mx_ic_m1 d_Mo_heard_76 ?_
        exact mx_iret d_Mo_heard_77 rfl (mx_sR_i (by first | (have z9 := vs_gg_f c_36 (k := n) (by omega); rw [vs_gg_n] at z9; simp [z9]; done) | (rw [vs_gg_n] at c_73; simp [c_73])) (by first | (have z9 := vs_gg_f c_36 (k := n) (by omega); rw [vs_gg_n] at z9; exact ⟨mx_off.rf, fun h9 => absurd h9 (by rw [z9]; decide)⟩) | (rw [vs_gg_n] at c_73; exact ⟨mx_off.rf, fun h9 => absurd h9 (by rw [c_73]; decide)⟩)))
      · skip
        refine mx_al0 d_Mo_heard_39 ?_
        refine mx_getR d_Mo_heard_40 fl_Mo_22 (by assumption) (by assumption) ?_
        refine mx_il3 d_Mo_heard_43 ?_
        refine mx_iald d_Mo_heard_44 (by assumption) (nI_inb (by omega) (by omega)) ?_
        refine mx_ti (y := (mx_up I (mo) 8 (nI (0))) (mo + 5) (i)) (by rw [nI_clamp (by omega)]) ?_
        have hTi := (hT9 i (by omega)).1
        refine mx_ti (y := nI (T (i))) ((hT9 (i) (by omega)).2) ?_
        refine mx_il3 d_Mo_heard_45 ?_
        refine mx_in_2 d_Mo_heard_46 ?_
        refine mx_irem d_Mo_heard_47 (by decide) ?_
        refine mx_ti (y := nI (i % 2)) (vs_rem2 (by omega)) ?_
        refine mx_if_ne 56 d_Mo_heard_48 (by decide) (fun c_48 => ?_) (fun c_48 => ?_)
        · skip
          have o2 := nI_gt c_48
          refine mx_in_2 d_Mo_heard_56 ?_
          refine mx_icN_ge 64 d_Mo_heard_57 (by decide) (by omega) (by omega) (fun c_57 => ?_) (fun c_57 => ?_)
          · skip
            have k1 : vs_gOk1 T i = false := by unfold vs_gOk1; first | (rw [if_pos (by omega), decide_eq_false (by omega)]; done) | (rw [if_neg (by omega), decide_eq_false (by omega)]; done)
            refine mx_in_0 d_Mo_heard_64 ?_
            refine mx_is2 d_Mo_heard_65 ?_
            refine mx_iN3 d_Mo_heard_66 ?_
            refine mx_goto 30 d_Mo_heard_69 (by decide) ?_
            have e2 : nI (0) = bI (vs_gg T n (i + 1)) := by rw [vs_gg_s, c_36, k1]; rfl
            refine mx_lsc (congrArg (fun z9 => ([some (.ref (mo)), some (.int (nI (n))), some (.int (z9)), some (.int (nI (i + 1))), none, none] : List (Option Value))) e2) ?_
            exact ih
          · skip
            have k1 : vs_gOk1 T i = true := by unfold vs_gOk1; first | (rw [if_pos (by omega), decide_eq_true (by omega)]; done) | (rw [if_neg (by omega), decide_eq_true (by omega)]; done)
            refine mx_in_1 d_Mo_heard_60 ?_
            refine mx_goto 65 d_Mo_heard_61 (by decide) ?_
            refine mx_is2 d_Mo_heard_65 ?_
            refine mx_iN3 d_Mo_heard_66 ?_
            refine mx_goto 30 d_Mo_heard_69 (by decide) ?_
            have e2 : nI (1) = bI (vs_gg T n (i + 1)) := by rw [vs_gg_s, c_36, k1]; rfl
            refine mx_lsc (congrArg (fun z9 => ([some (.ref (mo)), some (.int (nI (n))), some (.int (z9)), some (.int (nI (i + 1))), none, none] : List (Option Value))) e2) ?_
            exact ih
        · skip
          have o2 := nI_z (by omega) c_48
          refine mx_bip 64 d_Mo_heard_51 (by decide) ?_
          refine mx_goto 57 d_Mo_heard_53 (by decide) ?_
          refine mx_icN_ge 64 d_Mo_heard_57 (by decide) (by omega) (by omega) (fun c_57 => ?_) (fun c_57 => ?_)
          · skip
            have k1 : vs_gOk1 T i = false := by unfold vs_gOk1; first | (rw [if_pos (by omega), decide_eq_false (by omega)]; done) | (rw [if_neg (by omega), decide_eq_false (by omega)]; done)
            refine mx_in_0 d_Mo_heard_64 ?_
            refine mx_is2 d_Mo_heard_65 ?_
            refine mx_iN3 d_Mo_heard_66 ?_
            refine mx_goto 30 d_Mo_heard_69 (by decide) ?_
            have e2 : nI (0) = bI (vs_gg T n (i + 1)) := by rw [vs_gg_s, c_36, k1]; rfl
            refine mx_lsc (congrArg (fun z9 => ([some (.ref (mo)), some (.int (nI (n))), some (.int (z9)), some (.int (nI (i + 1))), none, none] : List (Option Value))) e2) ?_
            exact ih
          · skip
            have k1 : vs_gOk1 T i = true := by unfold vs_gOk1; first | (rw [if_pos (by omega), decide_eq_true (by omega)]; done) | (rw [if_neg (by omega), decide_eq_true (by omega)]; done)
            refine mx_in_1 d_Mo_heard_60 ?_
            refine mx_goto 65 d_Mo_heard_61 (by decide) ?_
            refine mx_is2 d_Mo_heard_65 ?_
            refine mx_iN3 d_Mo_heard_66 ?_
            refine mx_goto 30 d_Mo_heard_69 (by decide) ?_
            have e2 : nI (1) = bI (vs_gg T n (i + 1)) := by rw [vs_gg_s, c_36, k1]; rfl
            refine mx_lsc (congrArg (fun z9 => ([some (.ref (mo)), some (.int (nI (n))), some (.int (z9)), some (.int (nI (i + 1))), none, none] : List (Option Value))) e2) ?_
            exact ih
    · try dsimp only
      refine mx_il3 d_Mo_heard_30 ?_
      refine mx_il1 d_Mo_heard_31 ?_
      refine mx_icN_ge 72 d_Mo_heard_32 (by decide) (by omega) (by omega) (fun c_32 => ?_) (fun c_32 => absurd c_32 (by omega))
      refine mx_il2 d_Mo_heard_72 ?_
      refine mx_ifB_ne 78 d_Mo_heard_73 (by decide) (fun c_73 => ?_) (fun c_73 => ?_)
      · skip
        have hgh : vs_gh T n = true := by rw [← vs_gg_n]; exact c_73
        obtain ⟨⟨hn2, hn40⟩, -⟩ := vs_gg_t c_73
        obtain ⟨p, hp⟩ : ∃ p, p = n / 2 := ⟨_, rfl⟩
        have hp2 : n = 2 * p := by omega
        refine mx_in_0 d_Mo_heard_78 ?_
        refine mx_is3 d_Mo_heard_79 ?_
        refine mx_in_0 d_Mo_heard_80 ?_
        refine mx_is4 d_Mo_heard_81 ?_
        refine mx_loopX (α := (mx_I)) (N := 4096) (a0 := (mx_up I (mo) 8 (nI (0)))) (fun r z9 => hf_inv (mx_up I (mo) 8 (nI (0))) z9 mo T p r) (ls := fun r z9 => [some (.ref (mo)), some (.int (nI (n))), some (.int (bI (vs_gg T n n))), some (.int (nI (fb_ct (vs_fit T p) r))), some (.int (nI (r))), none]) (X := fun r z9 => (t, S, z9, P, J)) (⟨mx_off.rf, fun r hr => absurd hr (by omega)⟩) (fun r hr z9 hinv ih => ?_) (fun z9 hinv => ?_)
        · skip
          obtain ⟨K, hz9⟩ : ∃ q, q = z9 := ⟨_, rfl⟩
          subst hz9
          try dsimp only at hinv ih ⊢
          have hle := fit_le (T := T) (p := p) (r := r) (by omega)
          refine mx_il4 d_Mo_heard_83 ?_
          refine mx_sip 4096 d_Mo_heard_85 (by decide) ?_
          refine mx_icN_ge 211 d_Mo_heard_88 (by decide) (by omega) (by omega) (fun c_88 => absurd c_88 (by omega)) (fun c_88 => ?_)
          refine mx_al0 d_Mo_heard_91 ?_
          refine mx_getR d_Mo_heard_92 fl_Mo_47 (by assumption) (by assumption) ?_
          refine mx_il4 d_Mo_heard_95 ?_
          refine mx_il4 d_Mo_heard_97 ?_
          refine mx_bip 6 d_Mo_heard_99 (by decide) ?_
          refine mx_ishr d_Mo_heard_101 ?_
          refine mx_il4 d_Mo_heard_102 ?_
          refine mx_iand d_Mo_heard_104 ?_
          refine mx_bip 63 d_Mo_heard_105 (by decide) ?_
          refine mx_iand d_Mo_heard_107 ?_
          refine mx_ti (y := (nI (r / 64) &&& nI (r % 64))) (dis_eq (by omega)) ?_
          refine mx_if_ne 115 d_Mo_heard_108 (by decide) (fun c_108 => ?_) (fun c_108 => ?_)
          · skip
            have k9 : nI 0 = bI (disN (r / 64) (r % 64) && fitN T (r / 64) (r % 64) 0) := by unfold disN; rw [decide_eq_false c_108]; rfl
            refine mx_in_0 d_Mo_heard_115 ?_
            refine mx_zast d_Mo_heard_116 (by assumption) (nI_inb (by omega) (by omega)) (by first | exact Or.inl rfl | exact Or.inr rfl) ?_
            rw [nI_clamp (by omega)]
            refine mx_in_0 d_Mo_heard_117 ?_
            refine mx_is5 d_Mo_heard_118 ?_
            have ih83 := ih
            have hinv83 := hinv
            refine mx_loopX (α := (mx_I)) (N := p) (a0 := (mx_up K (mo + 12) (r) (nI (0)))) (fun j z9 => hf_inv (mx_up I (mo) 8 (nI (0))) z9 mo T p r ∧ z9 (mo + 12) r = bI (disN (r / 64) (r % 64) && fitN T (r / 64) (r % 64) j)) (ls := fun j z9 => [some (.ref (mo)), some (.int (nI (n))), some (.int (bI (vs_gg T n n))), some (.int (nI (fb_ct (vs_fit T p) r))), some (.int (nI (r))), some (.int (nI (2 * j)))]) (X := fun j z9 => (t, S, z9, P, J)) (⟨hf_up hinv, by rw [← k9]; simp [mx_up]⟩) (fun j hj z9 hinv ih => ?_) (fun z9 hinv => ?_)
            · skip
              obtain ⟨K, hz9⟩ : ∃ q, q = z9 := ⟨_, rfl⟩
              subst hz9
              try dsimp only at hinv ih ⊢
              refine mx_il5 d_Mo_heard_120 ?_
              refine mx_il1 d_Mo_heard_122 ?_
              refine mx_icN_ge 187 d_Mo_heard_123 (by decide) (by omega) (by omega) (fun c_123 => absurd c_123 (by omega)) (fun c_123 => ?_)
              refine mx_al0 d_Mo_heard_126 ?_
              refine mx_getR d_Mo_heard_127 fl_Mo_47 (by assumption) (by assumption) ?_
              refine mx_il4 d_Mo_heard_130 ?_
              refine mx_zald d_Mo_heard_132 (by assumption) (nI_inb (by omega) (by omega)) ?_
              refine mx_ti (y := K (mo + 12) (r)) (by rw [nI_clamp (by omega)]) ?_
              refine mx_ti (y := bI (disN (r / 64) (r % 64) && fitN T (r / 64) (r % 64) j)) (hinv.2) ?_
              refine mx_ifB_eq 187 d_Mo_heard_133 (by decide) (fun c_133 => ?_) (fun c_133 => ?_)
              · skip
                have hfin : K (mo + 12) r = bI (vs_fit T p r) := by rw [hinv.2, c_133]; congr 1; unfold vs_fit; rw [Bool.and_eq_false_iff] at c_133; rcases c_133 with z | z; rw [z]; rfl; rw [fitN_f z (by omega)]; simp
                have hnx := hf_next hinv.1 hfin
                refine mx_il3 d_Mo_heard_187 ?_
                refine mx_al0 d_Mo_heard_188 ?_
                refine mx_getR d_Mo_heard_189 fl_Mo_47 (by assumption) (by assumption) ?_
                refine mx_il4 d_Mo_heard_192 ?_
                refine mx_zald d_Mo_heard_194 (by assumption) (nI_inb (by omega) (by omega)) ?_
                refine mx_ti (y := K (mo + 12) (r)) (by rw [nI_clamp (by omega)]) ?_
                refine mx_ti (y := bI (vs_fit T p r)) (hfin) ?_
                refine mx_ifB_eq 202 d_Mo_heard_195 (by decide) (fun c_195 => ?_) (fun c_195 => ?_)
                · skip
                  refine mx_in_0 d_Mo_heard_202 ?_
                  refine mx_iaddN d_Mo_heard_203 ?_
                  refine mx_is3 d_Mo_heard_204 ?_
                  refine mx_iN4 d_Mo_heard_205 ?_
                  refine mx_goto 83 d_Mo_heard_208 (by decide) ?_
                  refine mx_dn5 ?_
                  have e3 : nI (fb_ct (vs_fit T p) r + 0) = nI (fb_ct (vs_fit T p) (r + 1)) := by rw [fb_ct_succ, c_195]; rfl
                  refine mx_lsc (congrArg (fun z9 => ([some (.ref (mo)), some (.int (nI (n))), some (.int (bI (vs_gg T n n))), some (.int (z9)), some (.int (nI (r + 1))), none] : List (Option Value))) e3) ?_
                  exact ih83 K (hnx)
                · skip
                  refine mx_in_1 d_Mo_heard_198 ?_
                  refine mx_goto 203 d_Mo_heard_199 (by decide) ?_
                  refine mx_iaddN d_Mo_heard_203 ?_
                  refine mx_is3 d_Mo_heard_204 ?_
                  refine mx_iN4 d_Mo_heard_205 ?_
                  refine mx_goto 83 d_Mo_heard_208 (by decide) ?_
                  refine mx_dn5 ?_
                  have e3 : nI (fb_ct (vs_fit T p) r + 1) = nI (fb_ct (vs_fit T p) (r + 1)) := by rw [fb_ct_succ, c_195]; rfl
                  refine mx_lsc (congrArg (fun z9 => ([some (.ref (mo)), some (.int (nI (n))), some (.int (bI (vs_gg T n n))), some (.int (z9)), some (.int (nI (r + 1))), none] : List (Option Value))) e3) ?_
                  exact ih83 K (hnx)
              · skip
                refine mx_al0 d_Mo_heard_136 ?_
                refine mx_getR d_Mo_heard_137 fl_Mo_47 (by assumption) (by assumption) ?_
                refine mx_il4 d_Mo_heard_140 ?_
                refine mx_il4 d_Mo_heard_142 ?_
                refine mx_al0 d_Mo_heard_144 ?_
                refine mx_getR d_Mo_heard_145 fl_Mo_22 (by assumption) (by assumption) ?_
                refine mx_il5 d_Mo_heard_148 ?_
                refine mx_iald d_Mo_heard_150 (by assumption) (nI_inb (by omega) (by omega)) ?_
                refine mx_ti (y := K (mo + 5) (2 * j)) (by rw [nI_clamp (by omega)]) ?_
                refine mx_ti (y := nI (T (2 * j))) ((congrFun (hinv.1.1 (mo + 5) (by show ¬ mo + 5 = mo + 12; omega)) (2 * j)).trans (hT9 (2 * j) (by omega)).2) ?_
                refine mx_cS2i d_Mo_heard_151 (c_Mo_isLetBy (r := r) (k := T (2 * j)) (by omega)) ok_Mo_isLetBy ml_Mo_396 (by decide) (Nat.le_of_ble_eq_true rfl) ?_
                refine mx_al0 d_Mo_heard_154 ?_
                refine mx_getR d_Mo_heard_155 fl_Mo_22 (by assumption) (by assumption) ?_
                refine mx_il5 d_Mo_heard_158 ?_
                refine mx_in_1 d_Mo_heard_160 ?_
                refine mx_iaddN d_Mo_heard_161 ?_
                refine mx_iald d_Mo_heard_162 (by assumption) (nI_inb (by omega) (by omega)) ?_
                refine mx_ti (y := K (mo + 5) (2 * j + 1)) (by rw [nI_clamp (by omega)]) ?_
                have hTb := (hT9 (2 * j + 1) (by omega)).1
                refine mx_ti (y := nI (T (2 * j + 1))) ((congrFun (hinv.1.1 (mo + 5) (by show ¬ mo + 5 = mo + 12; omega)) (2 * j + 1)).trans (hT9 (2 * j + 1) (by omega)).2) ?_
                refine mx_in_1 d_Mo_heard_163 ?_
                refine mx_icN_ne 171 d_Mo_heard_164 (by decide) (by omega) (by omega) (fun c_164 => ?_) (fun c_164 => ?_)
                · skip
                  refine mx_in_0 d_Mo_heard_171 ?_
                  refine mx_icmp_ne 179 d_Mo_heard_172 (by decide) (fun c_172 => ?_) (fun c_172 => ?_)
                  · skip
                    have k0 : (pbN (T (2 * j)) (r / 64) (r % 64) == decide (T (2 * j + 1) = 1)) = false := by first | (rw [bI_f1 c_172, decide_eq_true c_164]; rfl) | (rw [bI_f0 c_172, decide_eq_false c_164]; rfl)
                    refine mx_in_0 d_Mo_heard_179 ?_
                    refine mx_zast d_Mo_heard_180 (by assumption) (nI_inb (by omega) (by omega)) (by first | exact Or.inl rfl | exact Or.inr rfl) ?_
                    rw [nI_clamp (by omega)]
                    refine mx_ii5 (v := 2) d_Mo_heard_181 rfl ?_
                    refine mx_goto 120 d_Mo_heard_184 (by decide) ?_
                    have e5 : (nI (2 * j) + 2) = nI (2 * (j + 1)) := by exact nI_add (2 * j) 2
                    refine mx_lsc (congrArg (fun z9 => ([some (.ref (mo)), some (.int (nI (n))), some (.int (bI (vs_gg T n n))), some (.int (nI (fb_ct (vs_fit T p) r))), some (.int (nI (r))), some (.int (z9))] : List (Option Value))) e5) ?_
                    exact ih (mx_up K (mo + 12) (r) (nI (0))) (⟨hf_up hinv.1, by rw [Bool.and_eq_true] at c_133; rw [fitN_s, c_133.1, c_133.2, k0]; simp [mx_up, bI]⟩)
                  · skip
                    have k0 : (pbN (T (2 * j)) (r / 64) (r % 64) == decide (T (2 * j + 1) = 1)) = true := by first | (rw [bI_e1 c_172, decide_eq_true c_164]; rfl) | (rw [bI_e0 c_172, decide_eq_false c_164]; rfl)
                    refine mx_in_1 d_Mo_heard_175 ?_
                    refine mx_goto 180 d_Mo_heard_176 (by decide) ?_
                    refine mx_zast d_Mo_heard_180 (by assumption) (nI_inb (by omega) (by omega)) (by first | exact Or.inl rfl | exact Or.inr rfl) ?_
                    rw [nI_clamp (by omega)]
                    refine mx_ii5 (v := 2) d_Mo_heard_181 rfl ?_
                    refine mx_goto 120 d_Mo_heard_184 (by decide) ?_
                    have e5 : (nI (2 * j) + 2) = nI (2 * (j + 1)) := by exact nI_add (2 * j) 2
                    refine mx_lsc (congrArg (fun z9 => ([some (.ref (mo)), some (.int (nI (n))), some (.int (bI (vs_gg T n n))), some (.int (nI (fb_ct (vs_fit T p) r))), some (.int (nI (r))), some (.int (z9))] : List (Option Value))) e5) ?_
                    exact ih (mx_up K (mo + 12) (r) (nI (1))) (⟨hf_up hinv.1, by rw [Bool.and_eq_true] at c_133; rw [fitN_s, c_133.1, c_133.2, k0]; simp [mx_up, bI]⟩)
                · skip
                  refine mx_in_1 d_Mo_heard_167 ?_
                  refine mx_goto 172 d_Mo_heard_168 (by decide) ?_
                  refine mx_icmp_ne 179 d_Mo_heard_172 (by decide) (fun c_172 => ?_) (fun c_172 => ?_)
                  · skip
                    have k0 : (pbN (T (2 * j)) (r / 64) (r % 64) == decide (T (2 * j + 1) = 1)) = false := by first | (rw [bI_f1 c_172, decide_eq_true c_164]; rfl) | (rw [bI_f0 c_172, decide_eq_false c_164]; rfl)
                    refine mx_in_0 d_Mo_heard_179 ?_
                    refine mx_zast d_Mo_heard_180 (by assumption) (nI_inb (by omega) (by omega)) (by first | exact Or.inl rfl | exact Or.inr rfl) ?_
                    rw [nI_clamp (by omega)]
                    refine mx_ii5 (v := 2) d_Mo_heard_181 rfl ?_
                    refine mx_goto 120 d_Mo_heard_184 (by decide) ?_
                    have e5 : (nI (2 * j) + 2) = nI (2 * (j + 1)) := by exact nI_add (2 * j) 2
                    refine mx_lsc (congrArg (fun z9 => ([some (.ref (mo)), some (.int (nI (n))), some (.int (bI (vs_gg T n n))), some (.int (nI (fb_ct (vs_fit T p) r))), some (.int (nI (r))), some (.int (z9))] : List (Option Value))) e5) ?_
                    exact ih (mx_up K (mo + 12) (r) (nI (0))) (⟨hf_up hinv.1, by rw [Bool.and_eq_true] at c_133; rw [fitN_s, c_133.1, c_133.2, k0]; simp [mx_up, bI]⟩)
                  · skip
                    have k0 : (pbN (T (2 * j)) (r / 64) (r % 64) == decide (T (2 * j + 1) = 1)) = true := by first | (rw [bI_e1 c_172, decide_eq_true c_164]; rfl) | (rw [bI_e0 c_172, decide_eq_false c_164]; rfl)
                    refine mx_in_1 d_Mo_heard_175 ?_
                    refine mx_goto 180 d_Mo_heard_176 (by decide) ?_
                    refine mx_zast d_Mo_heard_180 (by assumption) (nI_inb (by omega) (by omega)) (by first | exact Or.inl rfl | exact Or.inr rfl) ?_
                    rw [nI_clamp (by omega)]
                    refine mx_ii5 (v := 2) d_Mo_heard_181 rfl ?_
                    refine mx_goto 120 d_Mo_heard_184 (by decide) ?_
                    have e5 : (nI (2 * j) + 2) = nI (2 * (j + 1)) := by exact nI_add (2 * j) 2
                    refine mx_lsc (congrArg (fun z9 => ([some (.ref (mo)), some (.int (nI (n))), some (.int (bI (vs_gg T n n))), some (.int (nI (fb_ct (vs_fit T p) r))), some (.int (nI (r))), some (.int (z9))] : List (Option Value))) e5) ?_
                    exact ih (mx_up K (mo + 12) (r) (nI (1))) (⟨hf_up hinv.1, by rw [Bool.and_eq_true] at c_133; rw [fitN_s, c_133.1, c_133.2, k0]; simp [mx_up, bI]⟩)
            · skip
              obtain ⟨K, hz9⟩ : ∃ q, q = z9 := ⟨_, rfl⟩
              subst hz9
              try dsimp only at hinv ⊢
              have hfin : K (mo + 12) r = bI (vs_fit T p r) := hinv.2
              have hnx := hf_next hinv.1 hfin
              refine mx_il5 d_Mo_heard_120 ?_
              refine mx_il1 d_Mo_heard_122 ?_
              refine mx_icN_ge 187 d_Mo_heard_123 (by decide) (by omega) (by omega) (fun c_123 => ?_) (fun c_123 => absurd c_123 (by omega))
              refine mx_il3 d_Mo_heard_187 ?_
              refine mx_al0 d_Mo_heard_188 ?_
              refine mx_getR d_Mo_heard_189 fl_Mo_47 (by assumption) (by assumption) ?_
              refine mx_il4 d_Mo_heard_192 ?_
              refine mx_zald d_Mo_heard_194 (by assumption) (nI_inb (by omega) (by omega)) ?_
              refine mx_ti (y := K (mo + 12) (r)) (by rw [nI_clamp (by omega)]) ?_
              refine mx_ti (y := bI (vs_fit T p r)) (hfin) ?_
              refine mx_ifB_eq 202 d_Mo_heard_195 (by decide) (fun c_195 => ?_) (fun c_195 => ?_)
              · skip
                refine mx_in_0 d_Mo_heard_202 ?_
                refine mx_iaddN d_Mo_heard_203 ?_
                refine mx_is3 d_Mo_heard_204 ?_
                refine mx_iN4 d_Mo_heard_205 ?_
                refine mx_goto 83 d_Mo_heard_208 (by decide) ?_
                refine mx_dn5 ?_
                have e3 : nI (fb_ct (vs_fit T p) r + 0) = nI (fb_ct (vs_fit T p) (r + 1)) := by rw [fb_ct_succ, c_195]; rfl
                refine mx_lsc (congrArg (fun z9 => ([some (.ref (mo)), some (.int (nI (n))), some (.int (bI (vs_gg T n n))), some (.int (z9)), some (.int (nI (r + 1))), none] : List (Option Value))) e3) ?_
                exact ih K (hnx)
              · skip
                refine mx_in_1 d_Mo_heard_198 ?_
                refine mx_goto 203 d_Mo_heard_199 (by decide) ?_
                refine mx_iaddN d_Mo_heard_203 ?_
                refine mx_is3 d_Mo_heard_204 ?_
                refine mx_iN4 d_Mo_heard_205 ?_
                refine mx_goto 83 d_Mo_heard_208 (by decide) ?_
                refine mx_dn5 ?_
                have e3 : nI (fb_ct (vs_fit T p) r + 1) = nI (fb_ct (vs_fit T p) (r + 1)) := by rw [fb_ct_succ, c_195]; rfl
                refine mx_lsc (congrArg (fun z9 => ([some (.ref (mo)), some (.int (nI (n))), some (.int (bI (vs_gg T n n))), some (.int (z9)), some (.int (nI (r + 1))), none] : List (Option Value))) e3) ?_
                exact ih K (hnx)
          · skip
            have k9 : nI 1 = bI (disN (r / 64) (r % 64) && fitN T (r / 64) (r % 64) 0) := by unfold disN; rw [decide_eq_true c_108]; rfl
            refine mx_in_1 d_Mo_heard_111 ?_
            refine mx_goto 116 d_Mo_heard_112 (by decide) ?_
            refine mx_zast d_Mo_heard_116 (by assumption) (nI_inb (by omega) (by omega)) (by first | exact Or.inl rfl | exact Or.inr rfl) ?_
            rw [nI_clamp (by omega)]
            refine mx_in_0 d_Mo_heard_117 ?_
            refine mx_is5 d_Mo_heard_118 ?_
            have ih83 := ih
            have hinv83 := hinv
            refine mx_loopX (α := (mx_I)) (N := p) (a0 := (mx_up K (mo + 12) (r) (nI (1)))) (fun j z9 => hf_inv (mx_up I (mo) 8 (nI (0))) z9 mo T p r ∧ z9 (mo + 12) r = bI (disN (r / 64) (r % 64) && fitN T (r / 64) (r % 64) j)) (ls := fun j z9 => [some (.ref (mo)), some (.int (nI (n))), some (.int (bI (vs_gg T n n))), some (.int (nI (fb_ct (vs_fit T p) r))), some (.int (nI (r))), some (.int (nI (2 * j)))]) (X := fun j z9 => (t, S, z9, P, J)) (⟨hf_up hinv, by rw [← k9]; simp [mx_up]⟩) (fun j hj z9 hinv ih => ?_) (fun z9 hinv => ?_)
            · skip
              obtain ⟨K, hz9⟩ : ∃ q, q = z9 := ⟨_, rfl⟩
              subst hz9
              try dsimp only at hinv ih ⊢
              refine mx_il5 d_Mo_heard_120 ?_
              refine mx_il1 d_Mo_heard_122 ?_
              refine mx_icN_ge 187 d_Mo_heard_123 (by decide) (by omega) (by omega) (fun c_123 => absurd c_123 (by omega)) (fun c_123 => ?_)
              refine mx_al0 d_Mo_heard_126 ?_
              refine mx_getR d_Mo_heard_127 fl_Mo_47 (by assumption) (by assumption) ?_
              refine mx_il4 d_Mo_heard_130 ?_
              refine mx_zald d_Mo_heard_132 (by assumption) (nI_inb (by omega) (by omega)) ?_
              refine mx_ti (y := K (mo + 12) (r)) (by rw [nI_clamp (by omega)]) ?_
              refine mx_ti (y := bI (disN (r / 64) (r % 64) && fitN T (r / 64) (r % 64) j)) (hinv.2) ?_
              refine mx_ifB_eq 187 d_Mo_heard_133 (by decide) (fun c_133 => ?_) (fun c_133 => ?_)
              · skip
                have hfin : K (mo + 12) r = bI (vs_fit T p r) := by rw [hinv.2, c_133]; congr 1; unfold vs_fit; rw [Bool.and_eq_false_iff] at c_133; rcases c_133 with z | z; rw [z]; rfl; rw [fitN_f z (by omega)]; simp
                have hnx := hf_next hinv.1 hfin
                refine mx_il3 d_Mo_heard_187 ?_
                refine mx_al0 d_Mo_heard_188 ?_
                refine mx_getR d_Mo_heard_189 fl_Mo_47 (by assumption) (by assumption) ?_
                refine mx_il4 d_Mo_heard_192 ?_
                refine mx_zald d_Mo_heard_194 (by assumption) (nI_inb (by omega) (by omega)) ?_
                refine mx_ti (y := K (mo + 12) (r)) (by rw [nI_clamp (by omega)]) ?_
                refine mx_ti (y := bI (vs_fit T p r)) (hfin) ?_
                refine mx_ifB_eq 202 d_Mo_heard_195 (by decide) (fun c_195 => ?_) (fun c_195 => ?_)
                · skip
                  refine mx_in_0 d_Mo_heard_202 ?_
                  refine mx_iaddN d_Mo_heard_203 ?_
                  refine mx_is3 d_Mo_heard_204 ?_
                  refine mx_iN4 d_Mo_heard_205 ?_
                  refine mx_goto 83 d_Mo_heard_208 (by decide) ?_
                  refine mx_dn5 ?_
                  have e3 : nI (fb_ct (vs_fit T p) r + 0) = nI (fb_ct (vs_fit T p) (r + 1)) := by rw [fb_ct_succ, c_195]; rfl
                  refine mx_lsc (congrArg (fun z9 => ([some (.ref (mo)), some (.int (nI (n))), some (.int (bI (vs_gg T n n))), some (.int (z9)), some (.int (nI (r + 1))), none] : List (Option Value))) e3) ?_
                  exact ih83 K (hnx)
                · skip
                  refine mx_in_1 d_Mo_heard_198 ?_
                  refine mx_goto 203 d_Mo_heard_199 (by decide) ?_
                  refine mx_iaddN d_Mo_heard_203 ?_
                  refine mx_is3 d_Mo_heard_204 ?_
                  refine mx_iN4 d_Mo_heard_205 ?_
                  refine mx_goto 83 d_Mo_heard_208 (by decide) ?_
                  refine mx_dn5 ?_
                  have e3 : nI (fb_ct (vs_fit T p) r + 1) = nI (fb_ct (vs_fit T p) (r + 1)) := by rw [fb_ct_succ, c_195]; rfl
                  refine mx_lsc (congrArg (fun z9 => ([some (.ref (mo)), some (.int (nI (n))), some (.int (bI (vs_gg T n n))), some (.int (z9)), some (.int (nI (r + 1))), none] : List (Option Value))) e3) ?_
                  exact ih83 K (hnx)
              · skip
                refine mx_al0 d_Mo_heard_136 ?_
                refine mx_getR d_Mo_heard_137 fl_Mo_47 (by assumption) (by assumption) ?_
                refine mx_il4 d_Mo_heard_140 ?_
                refine mx_il4 d_Mo_heard_142 ?_
                refine mx_al0 d_Mo_heard_144 ?_
                refine mx_getR d_Mo_heard_145 fl_Mo_22 (by assumption) (by assumption) ?_
                refine mx_il5 d_Mo_heard_148 ?_
                refine mx_iald d_Mo_heard_150 (by assumption) (nI_inb (by omega) (by omega)) ?_
                refine mx_ti (y := K (mo + 5) (2 * j)) (by rw [nI_clamp (by omega)]) ?_
                refine mx_ti (y := nI (T (2 * j))) ((congrFun (hinv.1.1 (mo + 5) (by show ¬ mo + 5 = mo + 12; omega)) (2 * j)).trans (hT9 (2 * j) (by omega)).2) ?_
                refine mx_cS2i d_Mo_heard_151 (c_Mo_isLetBy (r := r) (k := T (2 * j)) (by omega)) ok_Mo_isLetBy ml_Mo_396 (by decide) (Nat.le_of_ble_eq_true rfl) ?_
                refine mx_al0 d_Mo_heard_154 ?_
                refine mx_getR d_Mo_heard_155 fl_Mo_22 (by assumption) (by assumption) ?_
                refine mx_il5 d_Mo_heard_158 ?_
                refine mx_in_1 d_Mo_heard_160 ?_
                refine mx_iaddN d_Mo_heard_161 ?_
                refine mx_iald d_Mo_heard_162 (by assumption) (nI_inb (by omega) (by omega)) ?_
                refine mx_ti (y := K (mo + 5) (2 * j + 1)) (by rw [nI_clamp (by omega)]) ?_
                have hTb := (hT9 (2 * j + 1) (by omega)).1
                refine mx_ti (y := nI (T (2 * j + 1))) ((congrFun (hinv.1.1 (mo + 5) (by show ¬ mo + 5 = mo + 12; omega)) (2 * j + 1)).trans (hT9 (2 * j + 1) (by omega)).2) ?_
                refine mx_in_1 d_Mo_heard_163 ?_
                refine mx_icN_ne 171 d_Mo_heard_164 (by decide) (by omega) (by omega) (fun c_164 => ?_) (fun c_164 => ?_)
                · skip
                  refine mx_in_0 d_Mo_heard_171 ?_
                  refine mx_icmp_ne 179 d_Mo_heard_172 (by decide) (fun c_172 => ?_) (fun c_172 => ?_)
                  · skip
                    have k0 : (pbN (T (2 * j)) (r / 64) (r % 64) == decide (T (2 * j + 1) = 1)) = false := by first | (rw [bI_f1 c_172, decide_eq_true c_164]; rfl) | (rw [bI_f0 c_172, decide_eq_false c_164]; rfl)
                    refine mx_in_0 d_Mo_heard_179 ?_
                    refine mx_zast d_Mo_heard_180 (by assumption) (nI_inb (by omega) (by omega)) (by first | exact Or.inl rfl | exact Or.inr rfl) ?_
                    rw [nI_clamp (by omega)]
                    refine mx_ii5 (v := 2) d_Mo_heard_181 rfl ?_
                    refine mx_goto 120 d_Mo_heard_184 (by decide) ?_
                    have e5 : (nI (2 * j) + 2) = nI (2 * (j + 1)) := by exact nI_add (2 * j) 2
                    refine mx_lsc (congrArg (fun z9 => ([some (.ref (mo)), some (.int (nI (n))), some (.int (bI (vs_gg T n n))), some (.int (nI (fb_ct (vs_fit T p) r))), some (.int (nI (r))), some (.int (z9))] : List (Option Value))) e5) ?_
                    exact ih (mx_up K (mo + 12) (r) (nI (0))) (⟨hf_up hinv.1, by rw [Bool.and_eq_true] at c_133; rw [fitN_s, c_133.1, c_133.2, k0]; simp [mx_up, bI]⟩)
                  · skip
                    have k0 : (pbN (T (2 * j)) (r / 64) (r % 64) == decide (T (2 * j + 1) = 1)) = true := by first | (rw [bI_e1 c_172, decide_eq_true c_164]; rfl) | (rw [bI_e0 c_172, decide_eq_false c_164]; rfl)
                    refine mx_in_1 d_Mo_heard_175 ?_
                    refine mx_goto 180 d_Mo_heard_176 (by decide) ?_
                    refine mx_zast d_Mo_heard_180 (by assumption) (nI_inb (by omega) (by omega)) (by first | exact Or.inl rfl | exact Or.inr rfl) ?_
                    rw [nI_clamp (by omega)]
                    refine mx_ii5 (v := 2) d_Mo_heard_181 rfl ?_
                    refine mx_goto 120 d_Mo_heard_184 (by decide) ?_
                    have e5 : (nI (2 * j) + 2) = nI (2 * (j + 1)) := by exact nI_add (2 * j) 2
                    refine mx_lsc (congrArg (fun z9 => ([some (.ref (mo)), some (.int (nI (n))), some (.int (bI (vs_gg T n n))), some (.int (nI (fb_ct (vs_fit T p) r))), some (.int (nI (r))), some (.int (z9))] : List (Option Value))) e5) ?_
                    exact ih (mx_up K (mo + 12) (r) (nI (1))) (⟨hf_up hinv.1, by rw [Bool.and_eq_true] at c_133; rw [fitN_s, c_133.1, c_133.2, k0]; simp [mx_up, bI]⟩)
                · skip
                  refine mx_in_1 d_Mo_heard_167 ?_
                  refine mx_goto 172 d_Mo_heard_168 (by decide) ?_
                  refine mx_icmp_ne 179 d_Mo_heard_172 (by decide) (fun c_172 => ?_) (fun c_172 => ?_)
                  · skip
                    have k0 : (pbN (T (2 * j)) (r / 64) (r % 64) == decide (T (2 * j + 1) = 1)) = false := by first | (rw [bI_f1 c_172, decide_eq_true c_164]; rfl) | (rw [bI_f0 c_172, decide_eq_false c_164]; rfl)
                    refine mx_in_0 d_Mo_heard_179 ?_
                    refine mx_zast d_Mo_heard_180 (by assumption) (nI_inb (by omega) (by omega)) (by first | exact Or.inl rfl | exact Or.inr rfl) ?_
                    rw [nI_clamp (by omega)]
                    refine mx_ii5 (v := 2) d_Mo_heard_181 rfl ?_
                    refine mx_goto 120 d_Mo_heard_184 (by decide) ?_
                    have e5 : (nI (2 * j) + 2) = nI (2 * (j + 1)) := by exact nI_add (2 * j) 2
                    refine mx_lsc (congrArg (fun z9 => ([some (.ref (mo)), some (.int (nI (n))), some (.int (bI (vs_gg T n n))), some (.int (nI (fb_ct (vs_fit T p) r))), some (.int (nI (r))), some (.int (z9))] : List (Option Value))) e5) ?_
                    exact ih (mx_up K (mo + 12) (r) (nI (0))) (⟨hf_up hinv.1, by rw [Bool.and_eq_true] at c_133; rw [fitN_s, c_133.1, c_133.2, k0]; simp [mx_up, bI]⟩)
                  · skip
                    have k0 : (pbN (T (2 * j)) (r / 64) (r % 64) == decide (T (2 * j + 1) = 1)) = true := by first | (rw [bI_e1 c_172, decide_eq_true c_164]; rfl) | (rw [bI_e0 c_172, decide_eq_false c_164]; rfl)
                    refine mx_in_1 d_Mo_heard_175 ?_
                    refine mx_goto 180 d_Mo_heard_176 (by decide) ?_
                    refine mx_zast d_Mo_heard_180 (by assumption) (nI_inb (by omega) (by omega)) (by first | exact Or.inl rfl | exact Or.inr rfl) ?_
                    rw [nI_clamp (by omega)]
                    refine mx_ii5 (v := 2) d_Mo_heard_181 rfl ?_
                    refine mx_goto 120 d_Mo_heard_184 (by decide) ?_
                    have e5 : (nI (2 * j) + 2) = nI (2 * (j + 1)) := by exact nI_add (2 * j) 2
                    refine mx_lsc (congrArg (fun z9 => ([some (.ref (mo)), some (.int (nI (n))), some (.int (bI (vs_gg T n n))), some (.int (nI (fb_ct (vs_fit T p) r))), some (.int (nI (r))), some (.int (z9))] : List (Option Value))) e5) ?_
                    exact ih (mx_up K (mo + 12) (r) (nI (1))) (⟨hf_up hinv.1, by rw [Bool.and_eq_true] at c_133; rw [fitN_s, c_133.1, c_133.2, k0]; simp [mx_up, bI]⟩)
            · skip
              obtain ⟨K, hz9⟩ : ∃ q, q = z9 := ⟨_, rfl⟩
              subst hz9
              try dsimp only at hinv ⊢
              have hfin : K (mo + 12) r = bI (vs_fit T p r) := hinv.2
              have hnx := hf_next hinv.1 hfin
              refine mx_il5 d_Mo_heard_120 ?_
              refine mx_il1 d_Mo_heard_122 ?_
              refine mx_icN_ge 187 d_Mo_heard_123 (by decide) (by omega) (by omega) (fun c_123 => ?_) (fun c_123 => absurd c_123 (by omega))
              refine mx_il3 d_Mo_heard_187 ?_
              refine mx_al0 d_Mo_heard_188 ?_
              refine mx_getR d_Mo_heard_189 fl_Mo_47 (by assumption) (by assumption) ?_
              refine mx_il4 d_Mo_heard_192 ?_
              refine mx_zald d_Mo_heard_194 (by assumption) (nI_inb (by omega) (by omega)) ?_
              refine mx_ti (y := K (mo + 12) (r)) (by rw [nI_clamp (by omega)]) ?_
              refine mx_ti (y := bI (vs_fit T p r)) (hfin) ?_
              refine mx_ifB_eq 202 d_Mo_heard_195 (by decide) (fun c_195 => ?_) (fun c_195 => ?_)
              · skip
                refine mx_in_0 d_Mo_heard_202 ?_
                refine mx_iaddN d_Mo_heard_203 ?_
                refine mx_is3 d_Mo_heard_204 ?_
                refine mx_iN4 d_Mo_heard_205 ?_
                refine mx_goto 83 d_Mo_heard_208 (by decide) ?_
                refine mx_dn5 ?_
                have e3 : nI (fb_ct (vs_fit T p) r + 0) = nI (fb_ct (vs_fit T p) (r + 1)) := by rw [fb_ct_succ, c_195]; rfl
                refine mx_lsc (congrArg (fun z9 => ([some (.ref (mo)), some (.int (nI (n))), some (.int (bI (vs_gg T n n))), some (.int (z9)), some (.int (nI (r + 1))), none] : List (Option Value))) e3) ?_
                exact ih K (hnx)
              · skip
                refine mx_in_1 d_Mo_heard_198 ?_
                refine mx_goto 203 d_Mo_heard_199 (by decide) ?_
                refine mx_iaddN d_Mo_heard_203 ?_
                refine mx_is3 d_Mo_heard_204 ?_
                refine mx_iN4 d_Mo_heard_205 ?_
                refine mx_goto 83 d_Mo_heard_208 (by decide) ?_
                refine mx_dn5 ?_
                have e3 : nI (fb_ct (vs_fit T p) r + 1) = nI (fb_ct (vs_fit T p) (r + 1)) := by rw [fb_ct_succ, c_195]; rfl
                refine mx_lsc (congrArg (fun z9 => ([some (.ref (mo)), some (.int (nI (n))), some (.int (bI (vs_gg T n n))), some (.int (z9)), some (.int (nI (r + 1))), none] : List (Option Value))) e3) ?_
                exact ih K (hnx)
        · skip
          obtain ⟨K, hz9⟩ : ∃ q, q = z9 := ⟨_, rfl⟩
          subst hz9
          try dsimp only at hinv ⊢
          refine mx_il4 d_Mo_heard_83 ?_
          refine mx_sip 4096 d_Mo_heard_85 (by decide) ?_
          refine mx_icN_ge 211 d_Mo_heard_88 (by decide) (by omega) (by omega) (fun c_88 => ?_) (fun c_88 => absurd c_88 (by omega))
          refine mx_il3 d_Mo_heard_211 ?_
          exact mx_iret d_Mo_heard_212 rfl (mx_sR_i (by rw [hgh, ← hp]; rfl) ⟨hinv.1, fun _ => by rw [← hp]; exact hinv⟩)
      · skip
        refine mx_ic_m1 d_Mo_heard_76 ?_
        exact mx_iret d_Mo_heard_77 rfl (mx_sR_i (by first | (have z9 := vs_gg_f c_36 (k := n) (by omega); rw [vs_gg_n] at z9; simp [z9]; done) | (rw [vs_gg_n] at c_73; simp [c_73])) (by first | (have z9 := vs_gg_f c_36 (k := n) (by omega); rw [vs_gg_n] at z9; exact ⟨mx_off.rf, fun h9 => absurd h9 (by rw [z9]; decide)⟩) | (rw [vs_gg_n] at c_73; exact ⟨mx_off.rf, fun h9 => absurd h9 (by rw [c_73]; decide)⟩)))
  · skip
    have o1 := nI_z (by omega) c_13
    refine mx_il1 d_Mo_heard_16 ?_
    refine mx_bip 40 d_Mo_heard_17 (by decide) ?_
    refine mx_icN_gt 26 d_Mo_heard_19 (by decide) (by omega) (by omega) (fun c_19 => ?_) (fun c_19 => ?_)
    · skip
      have w0 : nI 0 = bI (vs_gg T n 0) := by rw [show vs_gg T n 0 = false from by show (decide (n % 2 = 0) && decide (n ≤ 40)) = false; rw [decide_eq_false (show ¬ n ≤ 40 by omega)]; simp]; rfl
      refine mx_in_0 d_Mo_heard_26 ?_
      refine mx_is2 d_Mo_heard_27 ?_
      refine mx_in_0 d_Mo_heard_28 ?_
      refine mx_is3 d_Mo_heard_29 ?_
      refine mx_lsc (congrArg (fun z9 => ([some (.ref (mo)), some (.int (nI (n))), some (.int (z9)), some (.int (nI (0))), none, none] : List (Option Value))) (w0)) ?_
      refine mx_loop (N := n) (ls := fun i => [some (.ref (mo)), some (.int (nI (n))), some (.int (bI (vs_gg T n i))), some (.int (nI (i))), none, none]) (X := fun i => (t, S, (mx_up I (mo) 8 (nI (0))), P, J)) (fun i hi ih => ?_) ?_
      · try dsimp only
        refine mx_il3 d_Mo_heard_30 ?_
        refine mx_il1 d_Mo_heard_31 ?_
        refine mx_icN_ge 72 d_Mo_heard_32 (by decide) (by omega) (by omega) (fun c_32 => absurd c_32 (by omega)) (fun c_32 => ?_)
        refine mx_il2 d_Mo_heard_35 ?_
        refine mx_ifB_eq 72 d_Mo_heard_36 (by decide) (fun c_36 => ?_) (fun c_36 => ?_)
        · skip
          refine mx_il2 d_Mo_heard_72 ?_
          refine mx_ifB_ne 78 d_Mo_heard_73 (by decide) (fun c_73 => absurd c_73 (by rw [c_36]; decide)) (fun c_73 => ?_)
          refine mx_ic_m1 d_Mo_heard_76 ?_
          exact mx_iret d_Mo_heard_77 rfl (mx_sR_i (by first | (have z9 := vs_gg_f c_36 (k := n) (by omega); rw [vs_gg_n] at z9; simp [z9]; done) | (rw [vs_gg_n] at c_73; simp [c_73])) (by first | (have z9 := vs_gg_f c_36 (k := n) (by omega); rw [vs_gg_n] at z9; exact ⟨mx_off.rf, fun h9 => absurd h9 (by rw [z9]; decide)⟩) | (rw [vs_gg_n] at c_73; exact ⟨mx_off.rf, fun h9 => absurd h9 (by rw [c_73]; decide)⟩)))
        · skip
          refine mx_al0 d_Mo_heard_39 ?_
          refine mx_getR d_Mo_heard_40 fl_Mo_22 (by assumption) (by assumption) ?_
          refine mx_il3 d_Mo_heard_43 ?_
          refine mx_iald d_Mo_heard_44 (by assumption) (nI_inb (by omega) (by omega)) ?_
          refine mx_ti (y := (mx_up I (mo) 8 (nI (0))) (mo + 5) (i)) (by rw [nI_clamp (by omega)]) ?_
          have hTi := (hT9 i (by omega)).1
          refine mx_ti (y := nI (T (i))) ((hT9 (i) (by omega)).2) ?_
          refine mx_il3 d_Mo_heard_45 ?_
          refine mx_in_2 d_Mo_heard_46 ?_
          refine mx_irem d_Mo_heard_47 (by decide) ?_
          refine mx_ti (y := nI (i % 2)) (vs_rem2 (by omega)) ?_
          refine mx_if_ne 56 d_Mo_heard_48 (by decide) (fun c_48 => ?_) (fun c_48 => ?_)
          · skip
            have o2 := nI_gt c_48
            refine mx_in_2 d_Mo_heard_56 ?_
            refine mx_icN_ge 64 d_Mo_heard_57 (by decide) (by omega) (by omega) (fun c_57 => ?_) (fun c_57 => ?_)
            · skip
              have k1 : vs_gOk1 T i = false := by unfold vs_gOk1; first | (rw [if_pos (by omega), decide_eq_false (by omega)]; done) | (rw [if_neg (by omega), decide_eq_false (by omega)]; done)
              refine mx_in_0 d_Mo_heard_64 ?_
              refine mx_is2 d_Mo_heard_65 ?_
              refine mx_iN3 d_Mo_heard_66 ?_
              refine mx_goto 30 d_Mo_heard_69 (by decide) ?_
              have e2 : nI (0) = bI (vs_gg T n (i + 1)) := by rw [vs_gg_s, c_36, k1]; rfl
              refine mx_lsc (congrArg (fun z9 => ([some (.ref (mo)), some (.int (nI (n))), some (.int (z9)), some (.int (nI (i + 1))), none, none] : List (Option Value))) e2) ?_
              exact ih
            · skip
              have k1 : vs_gOk1 T i = true := by unfold vs_gOk1; first | (rw [if_pos (by omega), decide_eq_true (by omega)]; done) | (rw [if_neg (by omega), decide_eq_true (by omega)]; done)
              refine mx_in_1 d_Mo_heard_60 ?_
              refine mx_goto 65 d_Mo_heard_61 (by decide) ?_
              refine mx_is2 d_Mo_heard_65 ?_
              refine mx_iN3 d_Mo_heard_66 ?_
              refine mx_goto 30 d_Mo_heard_69 (by decide) ?_
              have e2 : nI (1) = bI (vs_gg T n (i + 1)) := by rw [vs_gg_s, c_36, k1]; rfl
              refine mx_lsc (congrArg (fun z9 => ([some (.ref (mo)), some (.int (nI (n))), some (.int (z9)), some (.int (nI (i + 1))), none, none] : List (Option Value))) e2) ?_
              exact ih
          · skip
            have o2 := nI_z (by omega) c_48
            refine mx_bip 64 d_Mo_heard_51 (by decide) ?_
            refine mx_goto 57 d_Mo_heard_53 (by decide) ?_
            refine mx_icN_ge 64 d_Mo_heard_57 (by decide) (by omega) (by omega) (fun c_57 => ?_) (fun c_57 => ?_)
            · skip
              have k1 : vs_gOk1 T i = false := by unfold vs_gOk1; first | (rw [if_pos (by omega), decide_eq_false (by omega)]; done) | (rw [if_neg (by omega), decide_eq_false (by omega)]; done)
              refine mx_in_0 d_Mo_heard_64 ?_
              refine mx_is2 d_Mo_heard_65 ?_
              refine mx_iN3 d_Mo_heard_66 ?_
              refine mx_goto 30 d_Mo_heard_69 (by decide) ?_
              have e2 : nI (0) = bI (vs_gg T n (i + 1)) := by rw [vs_gg_s, c_36, k1]; rfl
              refine mx_lsc (congrArg (fun z9 => ([some (.ref (mo)), some (.int (nI (n))), some (.int (z9)), some (.int (nI (i + 1))), none, none] : List (Option Value))) e2) ?_
              exact ih
            · skip
              have k1 : vs_gOk1 T i = true := by unfold vs_gOk1; first | (rw [if_pos (by omega), decide_eq_true (by omega)]; done) | (rw [if_neg (by omega), decide_eq_true (by omega)]; done)
              refine mx_in_1 d_Mo_heard_60 ?_
              refine mx_goto 65 d_Mo_heard_61 (by decide) ?_
              refine mx_is2 d_Mo_heard_65 ?_
              refine mx_iN3 d_Mo_heard_66 ?_
              refine mx_goto 30 d_Mo_heard_69 (by decide) ?_
              have e2 : nI (1) = bI (vs_gg T n (i + 1)) := by rw [vs_gg_s, c_36, k1]; rfl
              refine mx_lsc (congrArg (fun z9 => ([some (.ref (mo)), some (.int (nI (n))), some (.int (z9)), some (.int (nI (i + 1))), none, none] : List (Option Value))) e2) ?_
              exact ih
      · try dsimp only
        refine mx_il3 d_Mo_heard_30 ?_
        refine mx_il1 d_Mo_heard_31 ?_
        refine mx_icN_ge 72 d_Mo_heard_32 (by decide) (by omega) (by omega) (fun c_32 => ?_) (fun c_32 => absurd c_32 (by omega))
        refine mx_il2 d_Mo_heard_72 ?_
        refine mx_ifB_ne 78 d_Mo_heard_73 (by decide) (fun c_73 => ?_) (fun c_73 => ?_)
        · skip
          have hgh : vs_gh T n = true := by rw [← vs_gg_n]; exact c_73
          obtain ⟨⟨hn2, hn40⟩, -⟩ := vs_gg_t c_73
          obtain ⟨p, hp⟩ : ∃ p, p = n / 2 := ⟨_, rfl⟩
          have hp2 : n = 2 * p := by omega
          refine mx_in_0 d_Mo_heard_78 ?_
          refine mx_is3 d_Mo_heard_79 ?_
          refine mx_in_0 d_Mo_heard_80 ?_
          refine mx_is4 d_Mo_heard_81 ?_
          refine mx_loopX (α := (mx_I)) (N := 4096) (a0 := (mx_up I (mo) 8 (nI (0)))) (fun r z9 => hf_inv (mx_up I (mo) 8 (nI (0))) z9 mo T p r) (ls := fun r z9 => [some (.ref (mo)), some (.int (nI (n))), some (.int (bI (vs_gg T n n))), some (.int (nI (fb_ct (vs_fit T p) r))), some (.int (nI (r))), none]) (X := fun r z9 => (t, S, z9, P, J)) (⟨mx_off.rf, fun r hr => absurd hr (by omega)⟩) (fun r hr z9 hinv ih => ?_) (fun z9 hinv => ?_)
          · skip
            obtain ⟨K, hz9⟩ : ∃ q, q = z9 := ⟨_, rfl⟩
            subst hz9
            try dsimp only at hinv ih ⊢
            have hle := fit_le (T := T) (p := p) (r := r) (by omega)
            refine mx_il4 d_Mo_heard_83 ?_
            refine mx_sip 4096 d_Mo_heard_85 (by decide) ?_
            refine mx_icN_ge 211 d_Mo_heard_88 (by decide) (by omega) (by omega) (fun c_88 => absurd c_88 (by omega)) (fun c_88 => ?_)
            refine mx_al0 d_Mo_heard_91 ?_
            refine mx_getR d_Mo_heard_92 fl_Mo_47 (by assumption) (by assumption) ?_
            refine mx_il4 d_Mo_heard_95 ?_
            refine mx_il4 d_Mo_heard_97 ?_
            refine mx_bip 6 d_Mo_heard_99 (by decide) ?_
            refine mx_ishr d_Mo_heard_101 ?_
            refine mx_il4 d_Mo_heard_102 ?_
            refine mx_iand d_Mo_heard_104 ?_
            refine mx_bip 63 d_Mo_heard_105 (by decide) ?_
            refine mx_iand d_Mo_heard_107 ?_
            refine mx_ti (y := (nI (r / 64) &&& nI (r % 64))) (dis_eq (by omega)) ?_
            refine mx_if_ne 115 d_Mo_heard_108 (by decide) (fun c_108 => ?_) (fun c_108 => ?_)
            · skip
              have k9 : nI 0 = bI (disN (r / 64) (r % 64) && fitN T (r / 64) (r % 64) 0) := by unfold disN; rw [decide_eq_false c_108]; rfl
              refine mx_in_0 d_Mo_heard_115 ?_
              refine mx_zast d_Mo_heard_116 (by assumption) (nI_inb (by omega) (by omega)) (by first | exact Or.inl rfl | exact Or.inr rfl) ?_
              rw [nI_clamp (by omega)]
              refine mx_in_0 d_Mo_heard_117 ?_
              refine mx_is5 d_Mo_heard_118 ?_
              have ih83 := ih
              have hinv83 := hinv
              refine mx_loopX (α := (mx_I)) (N := p) (a0 := (mx_up K (mo + 12) (r) (nI (0)))) (fun j z9 => hf_inv (mx_up I (mo) 8 (nI (0))) z9 mo T p r ∧ z9 (mo + 12) r = bI (disN (r / 64) (r % 64) && fitN T (r / 64) (r % 64) j)) (ls := fun j z9 => [some (.ref (mo)), some (.int (nI (n))), some (.int (bI (vs_gg T n n))), some (.int (nI (fb_ct (vs_fit T p) r))), some (.int (nI (r))), some (.int (nI (2 * j)))]) (X := fun j z9 => (t, S, z9, P, J)) (⟨hf_up hinv, by rw [← k9]; simp [mx_up]⟩) (fun j hj z9 hinv ih => ?_) (fun z9 hinv => ?_)
              · skip
                obtain ⟨K, hz9⟩ : ∃ q, q = z9 := ⟨_, rfl⟩
                subst hz9
                try dsimp only at hinv ih ⊢
                refine mx_il5 d_Mo_heard_120 ?_
                refine mx_il1 d_Mo_heard_122 ?_
                refine mx_icN_ge 187 d_Mo_heard_123 (by decide) (by omega) (by omega) (fun c_123 => absurd c_123 (by omega)) (fun c_123 => ?_)
                refine mx_al0 d_Mo_heard_126 ?_
                refine mx_getR d_Mo_heard_127 fl_Mo_47 (by assumption) (by assumption) ?_
                refine mx_il4 d_Mo_heard_130 ?_
                refine mx_zald d_Mo_heard_132 (by assumption) (nI_inb (by omega) (by omega)) ?_
                refine mx_ti (y := K (mo + 12) (r)) (by rw [nI_clamp (by omega)]) ?_
                refine mx_ti (y := bI (disN (r / 64) (r % 64) && fitN T (r / 64) (r % 64) j)) (hinv.2) ?_
                refine mx_ifB_eq 187 d_Mo_heard_133 (by decide) (fun c_133 => ?_) (fun c_133 => ?_)
                · skip
                  have hfin : K (mo + 12) r = bI (vs_fit T p r) := by rw [hinv.2, c_133]; congr 1; unfold vs_fit; rw [Bool.and_eq_false_iff] at c_133; rcases c_133 with z | z; rw [z]; rfl; rw [fitN_f z (by omega)]; simp
                  have hnx := hf_next hinv.1 hfin
                  refine mx_il3 d_Mo_heard_187 ?_
                  refine mx_al0 d_Mo_heard_188 ?_
                  refine mx_getR d_Mo_heard_189 fl_Mo_47 (by assumption) (by assumption) ?_
                  refine mx_il4 d_Mo_heard_192 ?_
                  refine mx_zald d_Mo_heard_194 (by assumption) (nI_inb (by omega) (by omega)) ?_
                  refine mx_ti (y := K (mo + 12) (r)) (by rw [nI_clamp (by omega)]) ?_
                  refine mx_ti (y := bI (vs_fit T p r)) (hfin) ?_
                  refine mx_ifB_eq 202 d_Mo_heard_195 (by decide) (fun c_195 => ?_) (fun c_195 => ?_)
                  · skip
                    refine mx_in_0 d_Mo_heard_202 ?_
                    refine mx_iaddN d_Mo_heard_203 ?_
                    refine mx_is3 d_Mo_heard_204 ?_
                    refine mx_iN4 d_Mo_heard_205 ?_
                    refine mx_goto 83 d_Mo_heard_208 (by decide) ?_
                    refine mx_dn5 ?_
                    have e3 : nI (fb_ct (vs_fit T p) r + 0) = nI (fb_ct (vs_fit T p) (r + 1)) := by rw [fb_ct_succ, c_195]; rfl
                    refine mx_lsc (congrArg (fun z9 => ([some (.ref (mo)), some (.int (nI (n))), some (.int (bI (vs_gg T n n))), some (.int (z9)), some (.int (nI (r + 1))), none] : List (Option Value))) e3) ?_
                    exact ih83 K (hnx)
                  · skip
                    refine mx_in_1 d_Mo_heard_198 ?_
                    refine mx_goto 203 d_Mo_heard_199 (by decide) ?_
                    refine mx_iaddN d_Mo_heard_203 ?_
                    refine mx_is3 d_Mo_heard_204 ?_
                    refine mx_iN4 d_Mo_heard_205 ?_
                    refine mx_goto 83 d_Mo_heard_208 (by decide) ?_
                    refine mx_dn5 ?_
                    have e3 : nI (fb_ct (vs_fit T p) r + 1) = nI (fb_ct (vs_fit T p) (r + 1)) := by rw [fb_ct_succ, c_195]; rfl
                    refine mx_lsc (congrArg (fun z9 => ([some (.ref (mo)), some (.int (nI (n))), some (.int (bI (vs_gg T n n))), some (.int (z9)), some (.int (nI (r + 1))), none] : List (Option Value))) e3) ?_
                    exact ih83 K (hnx)
                · skip
                  refine mx_al0 d_Mo_heard_136 ?_
                  refine mx_getR d_Mo_heard_137 fl_Mo_47 (by assumption) (by assumption) ?_
                  refine mx_il4 d_Mo_heard_140 ?_
                  refine mx_il4 d_Mo_heard_142 ?_
                  refine mx_al0 d_Mo_heard_144 ?_
                  refine mx_getR d_Mo_heard_145 fl_Mo_22 (by assumption) (by assumption) ?_
                  refine mx_il5 d_Mo_heard_148 ?_
                  refine mx_iald d_Mo_heard_150 (by assumption) (nI_inb (by omega) (by omega)) ?_
                  refine mx_ti (y := K (mo + 5) (2 * j)) (by rw [nI_clamp (by omega)]) ?_
                  refine mx_ti (y := nI (T (2 * j))) ((congrFun (hinv.1.1 (mo + 5) (by show ¬ mo + 5 = mo + 12; omega)) (2 * j)).trans (hT9 (2 * j) (by omega)).2) ?_
                  refine mx_cS2i d_Mo_heard_151 (c_Mo_isLetBy (r := r) (k := T (2 * j)) (by omega)) ok_Mo_isLetBy ml_Mo_396 (by decide) (Nat.le_of_ble_eq_true rfl) ?_
                  refine mx_al0 d_Mo_heard_154 ?_
                  refine mx_getR d_Mo_heard_155 fl_Mo_22 (by assumption) (by assumption) ?_
                  refine mx_il5 d_Mo_heard_158 ?_
                  refine mx_in_1 d_Mo_heard_160 ?_
                  refine mx_iaddN d_Mo_heard_161 ?_
                  refine mx_iald d_Mo_heard_162 (by assumption) (nI_inb (by omega) (by omega)) ?_
                  refine mx_ti (y := K (mo + 5) (2 * j + 1)) (by rw [nI_clamp (by omega)]) ?_
                  have hTb := (hT9 (2 * j + 1) (by omega)).1
                  refine mx_ti (y := nI (T (2 * j + 1))) ((congrFun (hinv.1.1 (mo + 5) (by show ¬ mo + 5 = mo + 12; omega)) (2 * j + 1)).trans (hT9 (2 * j + 1) (by omega)).2) ?_
                  refine mx_in_1 d_Mo_heard_163 ?_
                  refine mx_icN_ne 171 d_Mo_heard_164 (by decide) (by omega) (by omega) (fun c_164 => ?_) (fun c_164 => ?_)
                  · skip
                    refine mx_in_0 d_Mo_heard_171 ?_
                    refine mx_icmp_ne 179 d_Mo_heard_172 (by decide) (fun c_172 => ?_) (fun c_172 => ?_)
                    · skip
                      have k0 : (pbN (T (2 * j)) (r / 64) (r % 64) == decide (T (2 * j + 1) = 1)) = false := by first | (rw [bI_f1 c_172, decide_eq_true c_164]; rfl) | (rw [bI_f0 c_172, decide_eq_false c_164]; rfl)
                      refine mx_in_0 d_Mo_heard_179 ?_
                      refine mx_zast d_Mo_heard_180 (by assumption) (nI_inb (by omega) (by omega)) (by first | exact Or.inl rfl | exact Or.inr rfl) ?_
                      rw [nI_clamp (by omega)]
                      refine mx_ii5 (v := 2) d_Mo_heard_181 rfl ?_
                      refine mx_goto 120 d_Mo_heard_184 (by decide) ?_
                      have e5 : (nI (2 * j) + 2) = nI (2 * (j + 1)) := by exact nI_add (2 * j) 2
                      refine mx_lsc (congrArg (fun z9 => ([some (.ref (mo)), some (.int (nI (n))), some (.int (bI (vs_gg T n n))), some (.int (nI (fb_ct (vs_fit T p) r))), some (.int (nI (r))), some (.int (z9))] : List (Option Value))) e5) ?_
                      exact ih (mx_up K (mo + 12) (r) (nI (0))) (⟨hf_up hinv.1, by rw [Bool.and_eq_true] at c_133; rw [fitN_s, c_133.1, c_133.2, k0]; simp [mx_up, bI]⟩)
                    · skip
                      have k0 : (pbN (T (2 * j)) (r / 64) (r % 64) == decide (T (2 * j + 1) = 1)) = true := by first | (rw [bI_e1 c_172, decide_eq_true c_164]; rfl) | (rw [bI_e0 c_172, decide_eq_false c_164]; rfl)
                      refine mx_in_1 d_Mo_heard_175 ?_
                      refine mx_goto 180 d_Mo_heard_176 (by decide) ?_
                      refine mx_zast d_Mo_heard_180 (by assumption) (nI_inb (by omega) (by omega)) (by first | exact Or.inl rfl | exact Or.inr rfl) ?_
                      rw [nI_clamp (by omega)]
                      refine mx_ii5 (v := 2) d_Mo_heard_181 rfl ?_
                      refine mx_goto 120 d_Mo_heard_184 (by decide) ?_
                      have e5 : (nI (2 * j) + 2) = nI (2 * (j + 1)) := by exact nI_add (2 * j) 2
                      refine mx_lsc (congrArg (fun z9 => ([some (.ref (mo)), some (.int (nI (n))), some (.int (bI (vs_gg T n n))), some (.int (nI (fb_ct (vs_fit T p) r))), some (.int (nI (r))), some (.int (z9))] : List (Option Value))) e5) ?_
                      exact ih (mx_up K (mo + 12) (r) (nI (1))) (⟨hf_up hinv.1, by rw [Bool.and_eq_true] at c_133; rw [fitN_s, c_133.1, c_133.2, k0]; simp [mx_up, bI]⟩)
                  · skip
                    refine mx_in_1 d_Mo_heard_167 ?_
                    refine mx_goto 172 d_Mo_heard_168 (by decide) ?_
                    refine mx_icmp_ne 179 d_Mo_heard_172 (by decide) (fun c_172 => ?_) (fun c_172 => ?_)
                    · skip
                      have k0 : (pbN (T (2 * j)) (r / 64) (r % 64) == decide (T (2 * j + 1) = 1)) = false := by first | (rw [bI_f1 c_172, decide_eq_true c_164]; rfl) | (rw [bI_f0 c_172, decide_eq_false c_164]; rfl)
                      refine mx_in_0 d_Mo_heard_179 ?_
                      refine mx_zast d_Mo_heard_180 (by assumption) (nI_inb (by omega) (by omega)) (by first | exact Or.inl rfl | exact Or.inr rfl) ?_
                      rw [nI_clamp (by omega)]
                      refine mx_ii5 (v := 2) d_Mo_heard_181 rfl ?_
                      refine mx_goto 120 d_Mo_heard_184 (by decide) ?_
                      have e5 : (nI (2 * j) + 2) = nI (2 * (j + 1)) := by exact nI_add (2 * j) 2
                      refine mx_lsc (congrArg (fun z9 => ([some (.ref (mo)), some (.int (nI (n))), some (.int (bI (vs_gg T n n))), some (.int (nI (fb_ct (vs_fit T p) r))), some (.int (nI (r))), some (.int (z9))] : List (Option Value))) e5) ?_
                      exact ih (mx_up K (mo + 12) (r) (nI (0))) (⟨hf_up hinv.1, by rw [Bool.and_eq_true] at c_133; rw [fitN_s, c_133.1, c_133.2, k0]; simp [mx_up, bI]⟩)
                    · skip
                      have k0 : (pbN (T (2 * j)) (r / 64) (r % 64) == decide (T (2 * j + 1) = 1)) = true := by first | (rw [bI_e1 c_172, decide_eq_true c_164]; rfl) | (rw [bI_e0 c_172, decide_eq_false c_164]; rfl)
                      refine mx_in_1 d_Mo_heard_175 ?_
                      refine mx_goto 180 d_Mo_heard_176 (by decide) ?_
                      refine mx_zast d_Mo_heard_180 (by assumption) (nI_inb (by omega) (by omega)) (by first | exact Or.inl rfl | exact Or.inr rfl) ?_
                      rw [nI_clamp (by omega)]
                      refine mx_ii5 (v := 2) d_Mo_heard_181 rfl ?_
                      refine mx_goto 120 d_Mo_heard_184 (by decide) ?_
                      have e5 : (nI (2 * j) + 2) = nI (2 * (j + 1)) := by exact nI_add (2 * j) 2
                      refine mx_lsc (congrArg (fun z9 => ([some (.ref (mo)), some (.int (nI (n))), some (.int (bI (vs_gg T n n))), some (.int (nI (fb_ct (vs_fit T p) r))), some (.int (nI (r))), some (.int (z9))] : List (Option Value))) e5) ?_
                      exact ih (mx_up K (mo + 12) (r) (nI (1))) (⟨hf_up hinv.1, by rw [Bool.and_eq_true] at c_133; rw [fitN_s, c_133.1, c_133.2, k0]; simp [mx_up, bI]⟩)
              · skip
                obtain ⟨K, hz9⟩ : ∃ q, q = z9 := ⟨_, rfl⟩
                subst hz9
                try dsimp only at hinv ⊢
                have hfin : K (mo + 12) r = bI (vs_fit T p r) := hinv.2
                have hnx := hf_next hinv.1 hfin
                refine mx_il5 d_Mo_heard_120 ?_
                refine mx_il1 d_Mo_heard_122 ?_
                refine mx_icN_ge 187 d_Mo_heard_123 (by decide) (by omega) (by omega) (fun c_123 => ?_) (fun c_123 => absurd c_123 (by omega))
                refine mx_il3 d_Mo_heard_187 ?_
                refine mx_al0 d_Mo_heard_188 ?_
                refine mx_getR d_Mo_heard_189 fl_Mo_47 (by assumption) (by assumption) ?_
                refine mx_il4 d_Mo_heard_192 ?_
                refine mx_zald d_Mo_heard_194 (by assumption) (nI_inb (by omega) (by omega)) ?_
                refine mx_ti (y := K (mo + 12) (r)) (by rw [nI_clamp (by omega)]) ?_
                refine mx_ti (y := bI (vs_fit T p r)) (hfin) ?_
                refine mx_ifB_eq 202 d_Mo_heard_195 (by decide) (fun c_195 => ?_) (fun c_195 => ?_)
                · skip
                  refine mx_in_0 d_Mo_heard_202 ?_
                  refine mx_iaddN d_Mo_heard_203 ?_
                  refine mx_is3 d_Mo_heard_204 ?_
                  refine mx_iN4 d_Mo_heard_205 ?_
                  refine mx_goto 83 d_Mo_heard_208 (by decide) ?_
                  refine mx_dn5 ?_
                  have e3 : nI (fb_ct (vs_fit T p) r + 0) = nI (fb_ct (vs_fit T p) (r + 1)) := by rw [fb_ct_succ, c_195]; rfl
                  refine mx_lsc (congrArg (fun z9 => ([some (.ref (mo)), some (.int (nI (n))), some (.int (bI (vs_gg T n n))), some (.int (z9)), some (.int (nI (r + 1))), none] : List (Option Value))) e3) ?_
                  exact ih K (hnx)
                · skip
                  refine mx_in_1 d_Mo_heard_198 ?_
                  refine mx_goto 203 d_Mo_heard_199 (by decide) ?_
                  refine mx_iaddN d_Mo_heard_203 ?_
                  refine mx_is3 d_Mo_heard_204 ?_
                  refine mx_iN4 d_Mo_heard_205 ?_
                  refine mx_goto 83 d_Mo_heard_208 (by decide) ?_
                  refine mx_dn5 ?_
                  have e3 : nI (fb_ct (vs_fit T p) r + 1) = nI (fb_ct (vs_fit T p) (r + 1)) := by rw [fb_ct_succ, c_195]; rfl
                  refine mx_lsc (congrArg (fun z9 => ([some (.ref (mo)), some (.int (nI (n))), some (.int (bI (vs_gg T n n))), some (.int (z9)), some (.int (nI (r + 1))), none] : List (Option Value))) e3) ?_
                  exact ih K (hnx)
            · skip
              have k9 : nI 1 = bI (disN (r / 64) (r % 64) && fitN T (r / 64) (r % 64) 0) := by unfold disN; rw [decide_eq_true c_108]; rfl
              refine mx_in_1 d_Mo_heard_111 ?_
              refine mx_goto 116 d_Mo_heard_112 (by decide) ?_
              refine mx_zast d_Mo_heard_116 (by assumption) (nI_inb (by omega) (by omega)) (by first | exact Or.inl rfl | exact Or.inr rfl) ?_
              rw [nI_clamp (by omega)]
              refine mx_in_0 d_Mo_heard_117 ?_
              refine mx_is5 d_Mo_heard_118 ?_
              have ih83 := ih
              have hinv83 := hinv
              refine mx_loopX (α := (mx_I)) (N := p) (a0 := (mx_up K (mo + 12) (r) (nI (1)))) (fun j z9 => hf_inv (mx_up I (mo) 8 (nI (0))) z9 mo T p r ∧ z9 (mo + 12) r = bI (disN (r / 64) (r % 64) && fitN T (r / 64) (r % 64) j)) (ls := fun j z9 => [some (.ref (mo)), some (.int (nI (n))), some (.int (bI (vs_gg T n n))), some (.int (nI (fb_ct (vs_fit T p) r))), some (.int (nI (r))), some (.int (nI (2 * j)))]) (X := fun j z9 => (t, S, z9, P, J)) (⟨hf_up hinv, by rw [← k9]; simp [mx_up]⟩) (fun j hj z9 hinv ih => ?_) (fun z9 hinv => ?_)
              · skip
                obtain ⟨K, hz9⟩ : ∃ q, q = z9 := ⟨_, rfl⟩
                subst hz9
                try dsimp only at hinv ih ⊢
                refine mx_il5 d_Mo_heard_120 ?_
                refine mx_il1 d_Mo_heard_122 ?_
                refine mx_icN_ge 187 d_Mo_heard_123 (by decide) (by omega) (by omega) (fun c_123 => absurd c_123 (by omega)) (fun c_123 => ?_)
                refine mx_al0 d_Mo_heard_126 ?_
                refine mx_getR d_Mo_heard_127 fl_Mo_47 (by assumption) (by assumption) ?_
                refine mx_il4 d_Mo_heard_130 ?_
                refine mx_zald d_Mo_heard_132 (by assumption) (nI_inb (by omega) (by omega)) ?_
                refine mx_ti (y := K (mo + 12) (r)) (by rw [nI_clamp (by omega)]) ?_
                refine mx_ti (y := bI (disN (r / 64) (r % 64) && fitN T (r / 64) (r % 64) j)) (hinv.2) ?_
                refine mx_ifB_eq 187 d_Mo_heard_133 (by decide) (fun c_133 => ?_) (fun c_133 => ?_)
                · skip
                  have hfin : K (mo + 12) r = bI (vs_fit T p r) := by rw [hinv.2, c_133]; congr 1; unfold vs_fit; rw [Bool.and_eq_false_iff] at c_133; rcases c_133 with z | z; rw [z]; rfl; rw [fitN_f z (by omega)]; simp
                  have hnx := hf_next hinv.1 hfin
                  refine mx_il3 d_Mo_heard_187 ?_
                  refine mx_al0 d_Mo_heard_188 ?_
                  refine mx_getR d_Mo_heard_189 fl_Mo_47 (by assumption) (by assumption) ?_
                  refine mx_il4 d_Mo_heard_192 ?_
                  refine mx_zald d_Mo_heard_194 (by assumption) (nI_inb (by omega) (by omega)) ?_
                  refine mx_ti (y := K (mo + 12) (r)) (by rw [nI_clamp (by omega)]) ?_
                  refine mx_ti (y := bI (vs_fit T p r)) (hfin) ?_
                  refine mx_ifB_eq 202 d_Mo_heard_195 (by decide) (fun c_195 => ?_) (fun c_195 => ?_)
                  · skip
                    refine mx_in_0 d_Mo_heard_202 ?_
                    refine mx_iaddN d_Mo_heard_203 ?_
                    refine mx_is3 d_Mo_heard_204 ?_
                    refine mx_iN4 d_Mo_heard_205 ?_
                    refine mx_goto 83 d_Mo_heard_208 (by decide) ?_
                    refine mx_dn5 ?_
                    have e3 : nI (fb_ct (vs_fit T p) r + 0) = nI (fb_ct (vs_fit T p) (r + 1)) := by rw [fb_ct_succ, c_195]; rfl
                    refine mx_lsc (congrArg (fun z9 => ([some (.ref (mo)), some (.int (nI (n))), some (.int (bI (vs_gg T n n))), some (.int (z9)), some (.int (nI (r + 1))), none] : List (Option Value))) e3) ?_
                    exact ih83 K (hnx)
                  · skip
                    refine mx_in_1 d_Mo_heard_198 ?_
                    refine mx_goto 203 d_Mo_heard_199 (by decide) ?_
                    refine mx_iaddN d_Mo_heard_203 ?_
                    refine mx_is3 d_Mo_heard_204 ?_
                    refine mx_iN4 d_Mo_heard_205 ?_
                    refine mx_goto 83 d_Mo_heard_208 (by decide) ?_
                    refine mx_dn5 ?_
                    have e3 : nI (fb_ct (vs_fit T p) r + 1) = nI (fb_ct (vs_fit T p) (r + 1)) := by rw [fb_ct_succ, c_195]; rfl
                    refine mx_lsc (congrArg (fun z9 => ([some (.ref (mo)), some (.int (nI (n))), some (.int (bI (vs_gg T n n))), some (.int (z9)), some (.int (nI (r + 1))), none] : List (Option Value))) e3) ?_
                    exact ih83 K (hnx)
                · skip
                  refine mx_al0 d_Mo_heard_136 ?_
                  refine mx_getR d_Mo_heard_137 fl_Mo_47 (by assumption) (by assumption) ?_
                  refine mx_il4 d_Mo_heard_140 ?_
                  refine mx_il4 d_Mo_heard_142 ?_
                  refine mx_al0 d_Mo_heard_144 ?_
                  refine mx_getR d_Mo_heard_145 fl_Mo_22 (by assumption) (by assumption) ?_
                  refine mx_il5 d_Mo_heard_148 ?_
                  refine mx_iald d_Mo_heard_150 (by assumption) (nI_inb (by omega) (by omega)) ?_
                  refine mx_ti (y := K (mo + 5) (2 * j)) (by rw [nI_clamp (by omega)]) ?_
                  refine mx_ti (y := nI (T (2 * j))) ((congrFun (hinv.1.1 (mo + 5) (by show ¬ mo + 5 = mo + 12; omega)) (2 * j)).trans (hT9 (2 * j) (by omega)).2) ?_
                  refine mx_cS2i d_Mo_heard_151 (c_Mo_isLetBy (r := r) (k := T (2 * j)) (by omega)) ok_Mo_isLetBy ml_Mo_396 (by decide) (Nat.le_of_ble_eq_true rfl) ?_
                  refine mx_al0 d_Mo_heard_154 ?_
                  refine mx_getR d_Mo_heard_155 fl_Mo_22 (by assumption) (by assumption) ?_
                  refine mx_il5 d_Mo_heard_158 ?_
                  refine mx_in_1 d_Mo_heard_160 ?_
                  refine mx_iaddN d_Mo_heard_161 ?_
                  refine mx_iald d_Mo_heard_162 (by assumption) (nI_inb (by omega) (by omega)) ?_
                  refine mx_ti (y := K (mo + 5) (2 * j + 1)) (by rw [nI_clamp (by omega)]) ?_
                  have hTb := (hT9 (2 * j + 1) (by omega)).1
                  refine mx_ti (y := nI (T (2 * j + 1))) ((congrFun (hinv.1.1 (mo + 5) (by show ¬ mo + 5 = mo + 12; omega)) (2 * j + 1)).trans (hT9 (2 * j + 1) (by omega)).2) ?_
                  refine mx_in_1 d_Mo_heard_163 ?_
                  refine mx_icN_ne 171 d_Mo_heard_164 (by decide) (by omega) (by omega) (fun c_164 => ?_) (fun c_164 => ?_)
                  · skip
                    refine mx_in_0 d_Mo_heard_171 ?_
                    refine mx_icmp_ne 179 d_Mo_heard_172 (by decide) (fun c_172 => ?_) (fun c_172 => ?_)
                    · skip
                      have k0 : (pbN (T (2 * j)) (r / 64) (r % 64) == decide (T (2 * j + 1) = 1)) = false := by first | (rw [bI_f1 c_172, decide_eq_true c_164]; rfl) | (rw [bI_f0 c_172, decide_eq_false c_164]; rfl)
                      refine mx_in_0 d_Mo_heard_179 ?_
                      refine mx_zast d_Mo_heard_180 (by assumption) (nI_inb (by omega) (by omega)) (by first | exact Or.inl rfl | exact Or.inr rfl) ?_
                      rw [nI_clamp (by omega)]
                      refine mx_ii5 (v := 2) d_Mo_heard_181 rfl ?_
                      refine mx_goto 120 d_Mo_heard_184 (by decide) ?_
                      have e5 : (nI (2 * j) + 2) = nI (2 * (j + 1)) := by exact nI_add (2 * j) 2
                      refine mx_lsc (congrArg (fun z9 => ([some (.ref (mo)), some (.int (nI (n))), some (.int (bI (vs_gg T n n))), some (.int (nI (fb_ct (vs_fit T p) r))), some (.int (nI (r))), some (.int (z9))] : List (Option Value))) e5) ?_
                      exact ih (mx_up K (mo + 12) (r) (nI (0))) (⟨hf_up hinv.1, by rw [Bool.and_eq_true] at c_133; rw [fitN_s, c_133.1, c_133.2, k0]; simp [mx_up, bI]⟩)
                    · skip
                      have k0 : (pbN (T (2 * j)) (r / 64) (r % 64) == decide (T (2 * j + 1) = 1)) = true := by first | (rw [bI_e1 c_172, decide_eq_true c_164]; rfl) | (rw [bI_e0 c_172, decide_eq_false c_164]; rfl)
                      refine mx_in_1 d_Mo_heard_175 ?_
                      refine mx_goto 180 d_Mo_heard_176 (by decide) ?_
                      refine mx_zast d_Mo_heard_180 (by assumption) (nI_inb (by omega) (by omega)) (by first | exact Or.inl rfl | exact Or.inr rfl) ?_
                      rw [nI_clamp (by omega)]
                      refine mx_ii5 (v := 2) d_Mo_heard_181 rfl ?_
                      refine mx_goto 120 d_Mo_heard_184 (by decide) ?_
                      have e5 : (nI (2 * j) + 2) = nI (2 * (j + 1)) := by exact nI_add (2 * j) 2
                      refine mx_lsc (congrArg (fun z9 => ([some (.ref (mo)), some (.int (nI (n))), some (.int (bI (vs_gg T n n))), some (.int (nI (fb_ct (vs_fit T p) r))), some (.int (nI (r))), some (.int (z9))] : List (Option Value))) e5) ?_
                      exact ih (mx_up K (mo + 12) (r) (nI (1))) (⟨hf_up hinv.1, by rw [Bool.and_eq_true] at c_133; rw [fitN_s, c_133.1, c_133.2, k0]; simp [mx_up, bI]⟩)
                  · skip
                    refine mx_in_1 d_Mo_heard_167 ?_
                    refine mx_goto 172 d_Mo_heard_168 (by decide) ?_
                    refine mx_icmp_ne 179 d_Mo_heard_172 (by decide) (fun c_172 => ?_) (fun c_172 => ?_)
                    · skip
                      have k0 : (pbN (T (2 * j)) (r / 64) (r % 64) == decide (T (2 * j + 1) = 1)) = false := by first | (rw [bI_f1 c_172, decide_eq_true c_164]; rfl) | (rw [bI_f0 c_172, decide_eq_false c_164]; rfl)
                      refine mx_in_0 d_Mo_heard_179 ?_
                      refine mx_zast d_Mo_heard_180 (by assumption) (nI_inb (by omega) (by omega)) (by first | exact Or.inl rfl | exact Or.inr rfl) ?_
                      rw [nI_clamp (by omega)]
                      refine mx_ii5 (v := 2) d_Mo_heard_181 rfl ?_
                      refine mx_goto 120 d_Mo_heard_184 (by decide) ?_
                      have e5 : (nI (2 * j) + 2) = nI (2 * (j + 1)) := by exact nI_add (2 * j) 2
                      refine mx_lsc (congrArg (fun z9 => ([some (.ref (mo)), some (.int (nI (n))), some (.int (bI (vs_gg T n n))), some (.int (nI (fb_ct (vs_fit T p) r))), some (.int (nI (r))), some (.int (z9))] : List (Option Value))) e5) ?_
                      exact ih (mx_up K (mo + 12) (r) (nI (0))) (⟨hf_up hinv.1, by rw [Bool.and_eq_true] at c_133; rw [fitN_s, c_133.1, c_133.2, k0]; simp [mx_up, bI]⟩)
                    · skip
                      have k0 : (pbN (T (2 * j)) (r / 64) (r % 64) == decide (T (2 * j + 1) = 1)) = true := by first | (rw [bI_e1 c_172, decide_eq_true c_164]; rfl) | (rw [bI_e0 c_172, decide_eq_false c_164]; rfl)
                      refine mx_in_1 d_Mo_heard_175 ?_
                      refine mx_goto 180 d_Mo_heard_176 (by decide) ?_
                      refine mx_zast d_Mo_heard_180 (by assumption) (nI_inb (by omega) (by omega)) (by first | exact Or.inl rfl | exact Or.inr rfl) ?_
                      rw [nI_clamp (by omega)]
                      refine mx_ii5 (v := 2) d_Mo_heard_181 rfl ?_
                      refine mx_goto 120 d_Mo_heard_184 (by decide) ?_
                      have e5 : (nI (2 * j) + 2) = nI (2 * (j + 1)) := by exact nI_add (2 * j) 2
                      refine mx_lsc (congrArg (fun z9 => ([some (.ref (mo)), some (.int (nI (n))), some (.int (bI (vs_gg T n n))), some (.int (nI (fb_ct (vs_fit T p) r))), some (.int (nI (r))), some (.int (z9))] : List (Option Value))) e5) ?_
                      exact ih (mx_up K (mo + 12) (r) (nI (1))) (⟨hf_up hinv.1, by rw [Bool.and_eq_true] at c_133; rw [fitN_s, c_133.1, c_133.2, k0]; simp [mx_up, bI]⟩)
              · skip
                obtain ⟨K, hz9⟩ : ∃ q, q = z9 := ⟨_, rfl⟩
                subst hz9
                try dsimp only at hinv ⊢
                have hfin : K (mo + 12) r = bI (vs_fit T p r) := hinv.2
                have hnx := hf_next hinv.1 hfin
                refine mx_il5 d_Mo_heard_120 ?_
                refine mx_il1 d_Mo_heard_122 ?_
                refine mx_icN_ge 187 d_Mo_heard_123 (by decide) (by omega) (by omega) (fun c_123 => ?_) (fun c_123 => absurd c_123 (by omega))
                refine mx_il3 d_Mo_heard_187 ?_
                refine mx_al0 d_Mo_heard_188 ?_
                refine mx_getR d_Mo_heard_189 fl_Mo_47 (by assumption) (by assumption) ?_
                refine mx_il4 d_Mo_heard_192 ?_
                refine mx_zald d_Mo_heard_194 (by assumption) (nI_inb (by omega) (by omega)) ?_
                refine mx_ti (y := K (mo + 12) (r)) (by rw [nI_clamp (by omega)]) ?_
                refine mx_ti (y := bI (vs_fit T p r)) (hfin) ?_
                refine mx_ifB_eq 202 d_Mo_heard_195 (by decide) (fun c_195 => ?_) (fun c_195 => ?_)
                · skip
                  refine mx_in_0 d_Mo_heard_202 ?_
                  refine mx_iaddN d_Mo_heard_203 ?_
                  refine mx_is3 d_Mo_heard_204 ?_
                  refine mx_iN4 d_Mo_heard_205 ?_
                  refine mx_goto 83 d_Mo_heard_208 (by decide) ?_
                  refine mx_dn5 ?_
                  have e3 : nI (fb_ct (vs_fit T p) r + 0) = nI (fb_ct (vs_fit T p) (r + 1)) := by rw [fb_ct_succ, c_195]; rfl
                  refine mx_lsc (congrArg (fun z9 => ([some (.ref (mo)), some (.int (nI (n))), some (.int (bI (vs_gg T n n))), some (.int (z9)), some (.int (nI (r + 1))), none] : List (Option Value))) e3) ?_
                  exact ih K (hnx)
                · skip
                  refine mx_in_1 d_Mo_heard_198 ?_
                  refine mx_goto 203 d_Mo_heard_199 (by decide) ?_
                  refine mx_iaddN d_Mo_heard_203 ?_
                  refine mx_is3 d_Mo_heard_204 ?_
                  refine mx_iN4 d_Mo_heard_205 ?_
                  refine mx_goto 83 d_Mo_heard_208 (by decide) ?_
                  refine mx_dn5 ?_
                  have e3 : nI (fb_ct (vs_fit T p) r + 1) = nI (fb_ct (vs_fit T p) (r + 1)) := by rw [fb_ct_succ, c_195]; rfl
                  refine mx_lsc (congrArg (fun z9 => ([some (.ref (mo)), some (.int (nI (n))), some (.int (bI (vs_gg T n n))), some (.int (z9)), some (.int (nI (r + 1))), none] : List (Option Value))) e3) ?_
                  exact ih K (hnx)
          · skip
            obtain ⟨K, hz9⟩ : ∃ q, q = z9 := ⟨_, rfl⟩
            subst hz9
            try dsimp only at hinv ⊢
            refine mx_il4 d_Mo_heard_83 ?_
            refine mx_sip 4096 d_Mo_heard_85 (by decide) ?_
            refine mx_icN_ge 211 d_Mo_heard_88 (by decide) (by omega) (by omega) (fun c_88 => ?_) (fun c_88 => absurd c_88 (by omega))
            refine mx_il3 d_Mo_heard_211 ?_
            exact mx_iret d_Mo_heard_212 rfl (mx_sR_i (by rw [hgh, ← hp]; rfl) ⟨hinv.1, fun _ => by rw [← hp]; exact hinv⟩)
        · skip
          refine mx_ic_m1 d_Mo_heard_76 ?_
          exact mx_iret d_Mo_heard_77 rfl (mx_sR_i (by first | (have z9 := vs_gg_f c_36 (k := n) (by omega); rw [vs_gg_n] at z9; simp [z9]; done) | (rw [vs_gg_n] at c_73; simp [c_73])) (by first | (have z9 := vs_gg_f c_36 (k := n) (by omega); rw [vs_gg_n] at z9; exact ⟨mx_off.rf, fun h9 => absurd h9 (by rw [z9]; decide)⟩) | (rw [vs_gg_n] at c_73; exact ⟨mx_off.rf, fun h9 => absurd h9 (by rw [c_73]; decide)⟩)))
    · skip
      have w0 : nI 1 = bI (vs_gg T n 0) := by rw [show vs_gg T n 0 = true from by show (decide (n % 2 = 0) && decide (n ≤ 40)) = true; rw [decide_eq_true (show n % 2 = 0 by omega), decide_eq_true (show n ≤ 40 by omega)]; rfl]; rfl
      refine mx_in_1 d_Mo_heard_22 ?_
      refine mx_goto 27 d_Mo_heard_23 (by decide) ?_
      refine mx_is2 d_Mo_heard_27 ?_
      refine mx_in_0 d_Mo_heard_28 ?_
      refine mx_is3 d_Mo_heard_29 ?_
      refine mx_lsc (congrArg (fun z9 => ([some (.ref (mo)), some (.int (nI (n))), some (.int (z9)), some (.int (nI (0))), none, none] : List (Option Value))) (w0)) ?_
      refine mx_loop (N := n) (ls := fun i => [some (.ref (mo)), some (.int (nI (n))), some (.int (bI (vs_gg T n i))), some (.int (nI (i))), none, none]) (X := fun i => (t, S, (mx_up I (mo) 8 (nI (0))), P, J)) (fun i hi ih => ?_) ?_
      · try dsimp only
        refine mx_il3 d_Mo_heard_30 ?_
        refine mx_il1 d_Mo_heard_31 ?_
        refine mx_icN_ge 72 d_Mo_heard_32 (by decide) (by omega) (by omega) (fun c_32 => absurd c_32 (by omega)) (fun c_32 => ?_)
        refine mx_il2 d_Mo_heard_35 ?_
        refine mx_ifB_eq 72 d_Mo_heard_36 (by decide) (fun c_36 => ?_) (fun c_36 => ?_)
        · skip
          refine mx_il2 d_Mo_heard_72 ?_
          refine mx_ifB_ne 78 d_Mo_heard_73 (by decide) (fun c_73 => absurd c_73 (by rw [c_36]; decide)) (fun c_73 => ?_)
          refine mx_ic_m1 d_Mo_heard_76 ?_
          exact mx_iret d_Mo_heard_77 rfl (mx_sR_i (by first | (have z9 := vs_gg_f c_36 (k := n) (by omega); rw [vs_gg_n] at z9; simp [z9]; done) | (rw [vs_gg_n] at c_73; simp [c_73])) (by first | (have z9 := vs_gg_f c_36 (k := n) (by omega); rw [vs_gg_n] at z9; exact ⟨mx_off.rf, fun h9 => absurd h9 (by rw [z9]; decide)⟩) | (rw [vs_gg_n] at c_73; exact ⟨mx_off.rf, fun h9 => absurd h9 (by rw [c_73]; decide)⟩)))
        · skip
          refine mx_al0 d_Mo_heard_39 ?_
          refine mx_getR d_Mo_heard_40 fl_Mo_22 (by assumption) (by assumption) ?_
          refine mx_il3 d_Mo_heard_43 ?_
          refine mx_iald d_Mo_heard_44 (by assumption) (nI_inb (by omega) (by omega)) ?_
          refine mx_ti (y := (mx_up I (mo) 8 (nI (0))) (mo + 5) (i)) (by rw [nI_clamp (by omega)]) ?_
          have hTi := (hT9 i (by omega)).1
          refine mx_ti (y := nI (T (i))) ((hT9 (i) (by omega)).2) ?_
          refine mx_il3 d_Mo_heard_45 ?_
          refine mx_in_2 d_Mo_heard_46 ?_
          refine mx_irem d_Mo_heard_47 (by decide) ?_
          refine mx_ti (y := nI (i % 2)) (vs_rem2 (by omega)) ?_
          refine mx_if_ne 56 d_Mo_heard_48 (by decide) (fun c_48 => ?_) (fun c_48 => ?_)
          · skip
            have o2 := nI_gt c_48
            refine mx_in_2 d_Mo_heard_56 ?_
            refine mx_icN_ge 64 d_Mo_heard_57 (by decide) (by omega) (by omega) (fun c_57 => ?_) (fun c_57 => ?_)
            · skip
              have k1 : vs_gOk1 T i = false := by unfold vs_gOk1; first | (rw [if_pos (by omega), decide_eq_false (by omega)]; done) | (rw [if_neg (by omega), decide_eq_false (by omega)]; done)
              refine mx_in_0 d_Mo_heard_64 ?_
              refine mx_is2 d_Mo_heard_65 ?_
              refine mx_iN3 d_Mo_heard_66 ?_
              refine mx_goto 30 d_Mo_heard_69 (by decide) ?_
              have e2 : nI (0) = bI (vs_gg T n (i + 1)) := by rw [vs_gg_s, c_36, k1]; rfl
              refine mx_lsc (congrArg (fun z9 => ([some (.ref (mo)), some (.int (nI (n))), some (.int (z9)), some (.int (nI (i + 1))), none, none] : List (Option Value))) e2) ?_
              exact ih
            · skip
              have k1 : vs_gOk1 T i = true := by unfold vs_gOk1; first | (rw [if_pos (by omega), decide_eq_true (by omega)]; done) | (rw [if_neg (by omega), decide_eq_true (by omega)]; done)
              refine mx_in_1 d_Mo_heard_60 ?_
              refine mx_goto 65 d_Mo_heard_61 (by decide) ?_
              refine mx_is2 d_Mo_heard_65 ?_
              refine mx_iN3 d_Mo_heard_66 ?_
              refine mx_goto 30 d_Mo_heard_69 (by decide) ?_
              have e2 : nI (1) = bI (vs_gg T n (i + 1)) := by rw [vs_gg_s, c_36, k1]; rfl
              refine mx_lsc (congrArg (fun z9 => ([some (.ref (mo)), some (.int (nI (n))), some (.int (z9)), some (.int (nI (i + 1))), none, none] : List (Option Value))) e2) ?_
              exact ih
          · skip
            have o2 := nI_z (by omega) c_48
            refine mx_bip 64 d_Mo_heard_51 (by decide) ?_
            refine mx_goto 57 d_Mo_heard_53 (by decide) ?_
            refine mx_icN_ge 64 d_Mo_heard_57 (by decide) (by omega) (by omega) (fun c_57 => ?_) (fun c_57 => ?_)
            · skip
              have k1 : vs_gOk1 T i = false := by unfold vs_gOk1; first | (rw [if_pos (by omega), decide_eq_false (by omega)]; done) | (rw [if_neg (by omega), decide_eq_false (by omega)]; done)
              refine mx_in_0 d_Mo_heard_64 ?_
              refine mx_is2 d_Mo_heard_65 ?_
              refine mx_iN3 d_Mo_heard_66 ?_
              refine mx_goto 30 d_Mo_heard_69 (by decide) ?_
              have e2 : nI (0) = bI (vs_gg T n (i + 1)) := by rw [vs_gg_s, c_36, k1]; rfl
              refine mx_lsc (congrArg (fun z9 => ([some (.ref (mo)), some (.int (nI (n))), some (.int (z9)), some (.int (nI (i + 1))), none, none] : List (Option Value))) e2) ?_
              exact ih
            · skip
              have k1 : vs_gOk1 T i = true := by unfold vs_gOk1; first | (rw [if_pos (by omega), decide_eq_true (by omega)]; done) | (rw [if_neg (by omega), decide_eq_true (by omega)]; done)
              refine mx_in_1 d_Mo_heard_60 ?_
              refine mx_goto 65 d_Mo_heard_61 (by decide) ?_
              refine mx_is2 d_Mo_heard_65 ?_
              refine mx_iN3 d_Mo_heard_66 ?_
              refine mx_goto 30 d_Mo_heard_69 (by decide) ?_
              have e2 : nI (1) = bI (vs_gg T n (i + 1)) := by rw [vs_gg_s, c_36, k1]; rfl
              refine mx_lsc (congrArg (fun z9 => ([some (.ref (mo)), some (.int (nI (n))), some (.int (z9)), some (.int (nI (i + 1))), none, none] : List (Option Value))) e2) ?_
              exact ih
      · try dsimp only
        refine mx_il3 d_Mo_heard_30 ?_
        refine mx_il1 d_Mo_heard_31 ?_
        refine mx_icN_ge 72 d_Mo_heard_32 (by decide) (by omega) (by omega) (fun c_32 => ?_) (fun c_32 => absurd c_32 (by omega))
        refine mx_il2 d_Mo_heard_72 ?_
        refine mx_ifB_ne 78 d_Mo_heard_73 (by decide) (fun c_73 => ?_) (fun c_73 => ?_)
        · skip
          have hgh : vs_gh T n = true := by rw [← vs_gg_n]; exact c_73
          obtain ⟨⟨hn2, hn40⟩, -⟩ := vs_gg_t c_73
          obtain ⟨p, hp⟩ : ∃ p, p = n / 2 := ⟨_, rfl⟩
          have hp2 : n = 2 * p := by omega
          refine mx_in_0 d_Mo_heard_78 ?_
          refine mx_is3 d_Mo_heard_79 ?_
          refine mx_in_0 d_Mo_heard_80 ?_
          refine mx_is4 d_Mo_heard_81 ?_
          refine mx_loopX (α := (mx_I)) (N := 4096) (a0 := (mx_up I (mo) 8 (nI (0)))) (fun r z9 => hf_inv (mx_up I (mo) 8 (nI (0))) z9 mo T p r) (ls := fun r z9 => [some (.ref (mo)), some (.int (nI (n))), some (.int (bI (vs_gg T n n))), some (.int (nI (fb_ct (vs_fit T p) r))), some (.int (nI (r))), none]) (X := fun r z9 => (t, S, z9, P, J)) (⟨mx_off.rf, fun r hr => absurd hr (by omega)⟩) (fun r hr z9 hinv ih => ?_) (fun z9 hinv => ?_)
          · skip
            obtain ⟨K, hz9⟩ : ∃ q, q = z9 := ⟨_, rfl⟩
            subst hz9
            try dsimp only at hinv ih ⊢
            have hle := fit_le (T := T) (p := p) (r := r) (by omega)
            refine mx_il4 d_Mo_heard_83 ?_
            refine mx_sip 4096 d_Mo_heard_85 (by decide) ?_
            refine mx_icN_ge 211 d_Mo_heard_88 (by decide) (by omega) (by omega) (fun c_88 => absurd c_88 (by omega)) (fun c_88 => ?_)
            refine mx_al0 d_Mo_heard_91 ?_
            refine mx_getR d_Mo_heard_92 fl_Mo_47 (by assumption) (by assumption) ?_
            refine mx_il4 d_Mo_heard_95 ?_
            refine mx_il4 d_Mo_heard_97 ?_
            refine mx_bip 6 d_Mo_heard_99 (by decide) ?_
            refine mx_ishr d_Mo_heard_101 ?_
            refine mx_il4 d_Mo_heard_102 ?_
            refine mx_iand d_Mo_heard_104 ?_
            refine mx_bip 63 d_Mo_heard_105 (by decide) ?_
            refine mx_iand d_Mo_heard_107 ?_
            refine mx_ti (y := (nI (r / 64) &&& nI (r % 64))) (dis_eq (by omega)) ?_
            refine mx_if_ne 115 d_Mo_heard_108 (by decide) (fun c_108 => ?_) (fun c_108 => ?_)
            · skip
              have k9 : nI 0 = bI (disN (r / 64) (r % 64) && fitN T (r / 64) (r % 64) 0) := by unfold disN; rw [decide_eq_false c_108]; rfl
              refine mx_in_0 d_Mo_heard_115 ?_
              refine mx_zast d_Mo_heard_116 (by assumption) (nI_inb (by omega) (by omega)) (by first | exact Or.inl rfl | exact Or.inr rfl) ?_
              rw [nI_clamp (by omega)]
              refine mx_in_0 d_Mo_heard_117 ?_
              refine mx_is5 d_Mo_heard_118 ?_
              have ih83 := ih
              have hinv83 := hinv
              refine mx_loopX (α := (mx_I)) (N := p) (a0 := (mx_up K (mo + 12) (r) (nI (0)))) (fun j z9 => hf_inv (mx_up I (mo) 8 (nI (0))) z9 mo T p r ∧ z9 (mo + 12) r = bI (disN (r / 64) (r % 64) && fitN T (r / 64) (r % 64) j)) (ls := fun j z9 => [some (.ref (mo)), some (.int (nI (n))), some (.int (bI (vs_gg T n n))), some (.int (nI (fb_ct (vs_fit T p) r))), some (.int (nI (r))), some (.int (nI (2 * j)))]) (X := fun j z9 => (t, S, z9, P, J)) (⟨hf_up hinv, by rw [← k9]; simp [mx_up]⟩) (fun j hj z9 hinv ih => ?_) (fun z9 hinv => ?_)
              · skip
                obtain ⟨K, hz9⟩ : ∃ q, q = z9 := ⟨_, rfl⟩
                subst hz9
                try dsimp only at hinv ih ⊢
                refine mx_il5 d_Mo_heard_120 ?_
                refine mx_il1 d_Mo_heard_122 ?_
                refine mx_icN_ge 187 d_Mo_heard_123 (by decide) (by omega) (by omega) (fun c_123 => absurd c_123 (by omega)) (fun c_123 => ?_)
                refine mx_al0 d_Mo_heard_126 ?_
                refine mx_getR d_Mo_heard_127 fl_Mo_47 (by assumption) (by assumption) ?_
                refine mx_il4 d_Mo_heard_130 ?_
                refine mx_zald d_Mo_heard_132 (by assumption) (nI_inb (by omega) (by omega)) ?_
                refine mx_ti (y := K (mo + 12) (r)) (by rw [nI_clamp (by omega)]) ?_
                refine mx_ti (y := bI (disN (r / 64) (r % 64) && fitN T (r / 64) (r % 64) j)) (hinv.2) ?_
                refine mx_ifB_eq 187 d_Mo_heard_133 (by decide) (fun c_133 => ?_) (fun c_133 => ?_)
                · skip
                  have hfin : K (mo + 12) r = bI (vs_fit T p r) := by rw [hinv.2, c_133]; congr 1; unfold vs_fit; rw [Bool.and_eq_false_iff] at c_133; rcases c_133 with z | z; rw [z]; rfl; rw [fitN_f z (by omega)]; simp
                  have hnx := hf_next hinv.1 hfin
                  refine mx_il3 d_Mo_heard_187 ?_
                  refine mx_al0 d_Mo_heard_188 ?_
                  refine mx_getR d_Mo_heard_189 fl_Mo_47 (by assumption) (by assumption) ?_
                  refine mx_il4 d_Mo_heard_192 ?_
                  refine mx_zald d_Mo_heard_194 (by assumption) (nI_inb (by omega) (by omega)) ?_
                  refine mx_ti (y := K (mo + 12) (r)) (by rw [nI_clamp (by omega)]) ?_
                  refine mx_ti (y := bI (vs_fit T p r)) (hfin) ?_
                  refine mx_ifB_eq 202 d_Mo_heard_195 (by decide) (fun c_195 => ?_) (fun c_195 => ?_)
                  · skip
                    refine mx_in_0 d_Mo_heard_202 ?_
                    refine mx_iaddN d_Mo_heard_203 ?_
                    refine mx_is3 d_Mo_heard_204 ?_
                    refine mx_iN4 d_Mo_heard_205 ?_
                    refine mx_goto 83 d_Mo_heard_208 (by decide) ?_
                    refine mx_dn5 ?_
                    have e3 : nI (fb_ct (vs_fit T p) r + 0) = nI (fb_ct (vs_fit T p) (r + 1)) := by rw [fb_ct_succ, c_195]; rfl
                    refine mx_lsc (congrArg (fun z9 => ([some (.ref (mo)), some (.int (nI (n))), some (.int (bI (vs_gg T n n))), some (.int (z9)), some (.int (nI (r + 1))), none] : List (Option Value))) e3) ?_
                    exact ih83 K (hnx)
                  · skip
                    refine mx_in_1 d_Mo_heard_198 ?_
                    refine mx_goto 203 d_Mo_heard_199 (by decide) ?_
                    refine mx_iaddN d_Mo_heard_203 ?_
                    refine mx_is3 d_Mo_heard_204 ?_
                    refine mx_iN4 d_Mo_heard_205 ?_
                    refine mx_goto 83 d_Mo_heard_208 (by decide) ?_
                    refine mx_dn5 ?_
                    have e3 : nI (fb_ct (vs_fit T p) r + 1) = nI (fb_ct (vs_fit T p) (r + 1)) := by rw [fb_ct_succ, c_195]; rfl
                    refine mx_lsc (congrArg (fun z9 => ([some (.ref (mo)), some (.int (nI (n))), some (.int (bI (vs_gg T n n))), some (.int (z9)), some (.int (nI (r + 1))), none] : List (Option Value))) e3) ?_
                    exact ih83 K (hnx)
                · skip
                  refine mx_al0 d_Mo_heard_136 ?_
                  refine mx_getR d_Mo_heard_137 fl_Mo_47 (by assumption) (by assumption) ?_
                  refine mx_il4 d_Mo_heard_140 ?_
                  refine mx_il4 d_Mo_heard_142 ?_
                  refine mx_al0 d_Mo_heard_144 ?_
                  refine mx_getR d_Mo_heard_145 fl_Mo_22 (by assumption) (by assumption) ?_
                  refine mx_il5 d_Mo_heard_148 ?_
                  refine mx_iald d_Mo_heard_150 (by assumption) (nI_inb (by omega) (by omega)) ?_
                  refine mx_ti (y := K (mo + 5) (2 * j)) (by rw [nI_clamp (by omega)]) ?_
                  refine mx_ti (y := nI (T (2 * j))) ((congrFun (hinv.1.1 (mo + 5) (by show ¬ mo + 5 = mo + 12; omega)) (2 * j)).trans (hT9 (2 * j) (by omega)).2) ?_
                  refine mx_cS2i d_Mo_heard_151 (c_Mo_isLetBy (r := r) (k := T (2 * j)) (by omega)) ok_Mo_isLetBy ml_Mo_396 (by decide) (Nat.le_of_ble_eq_true rfl) ?_
                  refine mx_al0 d_Mo_heard_154 ?_
                  refine mx_getR d_Mo_heard_155 fl_Mo_22 (by assumption) (by assumption) ?_
                  refine mx_il5 d_Mo_heard_158 ?_
                  refine mx_in_1 d_Mo_heard_160 ?_
                  refine mx_iaddN d_Mo_heard_161 ?_
                  refine mx_iald d_Mo_heard_162 (by assumption) (nI_inb (by omega) (by omega)) ?_
                  refine mx_ti (y := K (mo + 5) (2 * j + 1)) (by rw [nI_clamp (by omega)]) ?_
                  have hTb := (hT9 (2 * j + 1) (by omega)).1
                  refine mx_ti (y := nI (T (2 * j + 1))) ((congrFun (hinv.1.1 (mo + 5) (by show ¬ mo + 5 = mo + 12; omega)) (2 * j + 1)).trans (hT9 (2 * j + 1) (by omega)).2) ?_
                  refine mx_in_1 d_Mo_heard_163 ?_
                  refine mx_icN_ne 171 d_Mo_heard_164 (by decide) (by omega) (by omega) (fun c_164 => ?_) (fun c_164 => ?_)
                  · skip
                    refine mx_in_0 d_Mo_heard_171 ?_
                    refine mx_icmp_ne 179 d_Mo_heard_172 (by decide) (fun c_172 => ?_) (fun c_172 => ?_)
                    · skip
                      have k0 : (pbN (T (2 * j)) (r / 64) (r % 64) == decide (T (2 * j + 1) = 1)) = false := by first | (rw [bI_f1 c_172, decide_eq_true c_164]; rfl) | (rw [bI_f0 c_172, decide_eq_false c_164]; rfl)
                      refine mx_in_0 d_Mo_heard_179 ?_
                      refine mx_zast d_Mo_heard_180 (by assumption) (nI_inb (by omega) (by omega)) (by first | exact Or.inl rfl | exact Or.inr rfl) ?_
                      rw [nI_clamp (by omega)]
                      refine mx_ii5 (v := 2) d_Mo_heard_181 rfl ?_
                      refine mx_goto 120 d_Mo_heard_184 (by decide) ?_
                      have e5 : (nI (2 * j) + 2) = nI (2 * (j + 1)) := by exact nI_add (2 * j) 2
                      refine mx_lsc (congrArg (fun z9 => ([some (.ref (mo)), some (.int (nI (n))), some (.int (bI (vs_gg T n n))), some (.int (nI (fb_ct (vs_fit T p) r))), some (.int (nI (r))), some (.int (z9))] : List (Option Value))) e5) ?_
                      exact ih (mx_up K (mo + 12) (r) (nI (0))) (⟨hf_up hinv.1, by rw [Bool.and_eq_true] at c_133; rw [fitN_s, c_133.1, c_133.2, k0]; simp [mx_up, bI]⟩)
                    · skip
                      have k0 : (pbN (T (2 * j)) (r / 64) (r % 64) == decide (T (2 * j + 1) = 1)) = true := by first | (rw [bI_e1 c_172, decide_eq_true c_164]; rfl) | (rw [bI_e0 c_172, decide_eq_false c_164]; rfl)
                      refine mx_in_1 d_Mo_heard_175 ?_
                      refine mx_goto 180 d_Mo_heard_176 (by decide) ?_
                      refine mx_zast d_Mo_heard_180 (by assumption) (nI_inb (by omega) (by omega)) (by first | exact Or.inl rfl | exact Or.inr rfl) ?_
                      rw [nI_clamp (by omega)]
                      refine mx_ii5 (v := 2) d_Mo_heard_181 rfl ?_
                      refine mx_goto 120 d_Mo_heard_184 (by decide) ?_
                      have e5 : (nI (2 * j) + 2) = nI (2 * (j + 1)) := by exact nI_add (2 * j) 2
                      refine mx_lsc (congrArg (fun z9 => ([some (.ref (mo)), some (.int (nI (n))), some (.int (bI (vs_gg T n n))), some (.int (nI (fb_ct (vs_fit T p) r))), some (.int (nI (r))), some (.int (z9))] : List (Option Value))) e5) ?_
                      exact ih (mx_up K (mo + 12) (r) (nI (1))) (⟨hf_up hinv.1, by rw [Bool.and_eq_true] at c_133; rw [fitN_s, c_133.1, c_133.2, k0]; simp [mx_up, bI]⟩)
                  · skip
                    refine mx_in_1 d_Mo_heard_167 ?_
                    refine mx_goto 172 d_Mo_heard_168 (by decide) ?_
                    refine mx_icmp_ne 179 d_Mo_heard_172 (by decide) (fun c_172 => ?_) (fun c_172 => ?_)
                    · skip
                      have k0 : (pbN (T (2 * j)) (r / 64) (r % 64) == decide (T (2 * j + 1) = 1)) = false := by first | (rw [bI_f1 c_172, decide_eq_true c_164]; rfl) | (rw [bI_f0 c_172, decide_eq_false c_164]; rfl)
                      refine mx_in_0 d_Mo_heard_179 ?_
                      refine mx_zast d_Mo_heard_180 (by assumption) (nI_inb (by omega) (by omega)) (by first | exact Or.inl rfl | exact Or.inr rfl) ?_
                      rw [nI_clamp (by omega)]
                      refine mx_ii5 (v := 2) d_Mo_heard_181 rfl ?_
                      refine mx_goto 120 d_Mo_heard_184 (by decide) ?_
                      have e5 : (nI (2 * j) + 2) = nI (2 * (j + 1)) := by exact nI_add (2 * j) 2
                      refine mx_lsc (congrArg (fun z9 => ([some (.ref (mo)), some (.int (nI (n))), some (.int (bI (vs_gg T n n))), some (.int (nI (fb_ct (vs_fit T p) r))), some (.int (nI (r))), some (.int (z9))] : List (Option Value))) e5) ?_
                      exact ih (mx_up K (mo + 12) (r) (nI (0))) (⟨hf_up hinv.1, by rw [Bool.and_eq_true] at c_133; rw [fitN_s, c_133.1, c_133.2, k0]; simp [mx_up, bI]⟩)
                    · skip
                      have k0 : (pbN (T (2 * j)) (r / 64) (r % 64) == decide (T (2 * j + 1) = 1)) = true := by first | (rw [bI_e1 c_172, decide_eq_true c_164]; rfl) | (rw [bI_e0 c_172, decide_eq_false c_164]; rfl)
                      refine mx_in_1 d_Mo_heard_175 ?_
                      refine mx_goto 180 d_Mo_heard_176 (by decide) ?_
                      refine mx_zast d_Mo_heard_180 (by assumption) (nI_inb (by omega) (by omega)) (by first | exact Or.inl rfl | exact Or.inr rfl) ?_
                      rw [nI_clamp (by omega)]
                      refine mx_ii5 (v := 2) d_Mo_heard_181 rfl ?_
                      refine mx_goto 120 d_Mo_heard_184 (by decide) ?_
                      have e5 : (nI (2 * j) + 2) = nI (2 * (j + 1)) := by exact nI_add (2 * j) 2
                      refine mx_lsc (congrArg (fun z9 => ([some (.ref (mo)), some (.int (nI (n))), some (.int (bI (vs_gg T n n))), some (.int (nI (fb_ct (vs_fit T p) r))), some (.int (nI (r))), some (.int (z9))] : List (Option Value))) e5) ?_
                      exact ih (mx_up K (mo + 12) (r) (nI (1))) (⟨hf_up hinv.1, by rw [Bool.and_eq_true] at c_133; rw [fitN_s, c_133.1, c_133.2, k0]; simp [mx_up, bI]⟩)
              · skip
                obtain ⟨K, hz9⟩ : ∃ q, q = z9 := ⟨_, rfl⟩
                subst hz9
                try dsimp only at hinv ⊢
                have hfin : K (mo + 12) r = bI (vs_fit T p r) := hinv.2
                have hnx := hf_next hinv.1 hfin
                refine mx_il5 d_Mo_heard_120 ?_
                refine mx_il1 d_Mo_heard_122 ?_
                refine mx_icN_ge 187 d_Mo_heard_123 (by decide) (by omega) (by omega) (fun c_123 => ?_) (fun c_123 => absurd c_123 (by omega))
                refine mx_il3 d_Mo_heard_187 ?_
                refine mx_al0 d_Mo_heard_188 ?_
                refine mx_getR d_Mo_heard_189 fl_Mo_47 (by assumption) (by assumption) ?_
                refine mx_il4 d_Mo_heard_192 ?_
                refine mx_zald d_Mo_heard_194 (by assumption) (nI_inb (by omega) (by omega)) ?_
                refine mx_ti (y := K (mo + 12) (r)) (by rw [nI_clamp (by omega)]) ?_
                refine mx_ti (y := bI (vs_fit T p r)) (hfin) ?_
                refine mx_ifB_eq 202 d_Mo_heard_195 (by decide) (fun c_195 => ?_) (fun c_195 => ?_)
                · skip
                  refine mx_in_0 d_Mo_heard_202 ?_
                  refine mx_iaddN d_Mo_heard_203 ?_
                  refine mx_is3 d_Mo_heard_204 ?_
                  refine mx_iN4 d_Mo_heard_205 ?_
                  refine mx_goto 83 d_Mo_heard_208 (by decide) ?_
                  refine mx_dn5 ?_
                  have e3 : nI (fb_ct (vs_fit T p) r + 0) = nI (fb_ct (vs_fit T p) (r + 1)) := by rw [fb_ct_succ, c_195]; rfl
                  refine mx_lsc (congrArg (fun z9 => ([some (.ref (mo)), some (.int (nI (n))), some (.int (bI (vs_gg T n n))), some (.int (z9)), some (.int (nI (r + 1))), none] : List (Option Value))) e3) ?_
                  exact ih K (hnx)
                · skip
                  refine mx_in_1 d_Mo_heard_198 ?_
                  refine mx_goto 203 d_Mo_heard_199 (by decide) ?_
                  refine mx_iaddN d_Mo_heard_203 ?_
                  refine mx_is3 d_Mo_heard_204 ?_
                  refine mx_iN4 d_Mo_heard_205 ?_
                  refine mx_goto 83 d_Mo_heard_208 (by decide) ?_
                  refine mx_dn5 ?_
                  have e3 : nI (fb_ct (vs_fit T p) r + 1) = nI (fb_ct (vs_fit T p) (r + 1)) := by rw [fb_ct_succ, c_195]; rfl
                  refine mx_lsc (congrArg (fun z9 => ([some (.ref (mo)), some (.int (nI (n))), some (.int (bI (vs_gg T n n))), some (.int (z9)), some (.int (nI (r + 1))), none] : List (Option Value))) e3) ?_
                  exact ih K (hnx)
            · skip
              have k9 : nI 1 = bI (disN (r / 64) (r % 64) && fitN T (r / 64) (r % 64) 0) := by unfold disN; rw [decide_eq_true c_108]; rfl
              refine mx_in_1 d_Mo_heard_111 ?_
              refine mx_goto 116 d_Mo_heard_112 (by decide) ?_
              refine mx_zast d_Mo_heard_116 (by assumption) (nI_inb (by omega) (by omega)) (by first | exact Or.inl rfl | exact Or.inr rfl) ?_
              rw [nI_clamp (by omega)]
              refine mx_in_0 d_Mo_heard_117 ?_
              refine mx_is5 d_Mo_heard_118 ?_
              have ih83 := ih
              have hinv83 := hinv
              refine mx_loopX (α := (mx_I)) (N := p) (a0 := (mx_up K (mo + 12) (r) (nI (1)))) (fun j z9 => hf_inv (mx_up I (mo) 8 (nI (0))) z9 mo T p r ∧ z9 (mo + 12) r = bI (disN (r / 64) (r % 64) && fitN T (r / 64) (r % 64) j)) (ls := fun j z9 => [some (.ref (mo)), some (.int (nI (n))), some (.int (bI (vs_gg T n n))), some (.int (nI (fb_ct (vs_fit T p) r))), some (.int (nI (r))), some (.int (nI (2 * j)))]) (X := fun j z9 => (t, S, z9, P, J)) (⟨hf_up hinv, by rw [← k9]; simp [mx_up]⟩) (fun j hj z9 hinv ih => ?_) (fun z9 hinv => ?_)
              · skip
                obtain ⟨K, hz9⟩ : ∃ q, q = z9 := ⟨_, rfl⟩
                subst hz9
                try dsimp only at hinv ih ⊢
                refine mx_il5 d_Mo_heard_120 ?_
                refine mx_il1 d_Mo_heard_122 ?_
                refine mx_icN_ge 187 d_Mo_heard_123 (by decide) (by omega) (by omega) (fun c_123 => absurd c_123 (by omega)) (fun c_123 => ?_)
                refine mx_al0 d_Mo_heard_126 ?_
                refine mx_getR d_Mo_heard_127 fl_Mo_47 (by assumption) (by assumption) ?_
                refine mx_il4 d_Mo_heard_130 ?_
                refine mx_zald d_Mo_heard_132 (by assumption) (nI_inb (by omega) (by omega)) ?_
                refine mx_ti (y := K (mo + 12) (r)) (by rw [nI_clamp (by omega)]) ?_
                refine mx_ti (y := bI (disN (r / 64) (r % 64) && fitN T (r / 64) (r % 64) j)) (hinv.2) ?_
                refine mx_ifB_eq 187 d_Mo_heard_133 (by decide) (fun c_133 => ?_) (fun c_133 => ?_)
                · skip
                  have hfin : K (mo + 12) r = bI (vs_fit T p r) := by rw [hinv.2, c_133]; congr 1; unfold vs_fit; rw [Bool.and_eq_false_iff] at c_133; rcases c_133 with z | z; rw [z]; rfl; rw [fitN_f z (by omega)]; simp
                  have hnx := hf_next hinv.1 hfin
                  refine mx_il3 d_Mo_heard_187 ?_
                  refine mx_al0 d_Mo_heard_188 ?_
                  refine mx_getR d_Mo_heard_189 fl_Mo_47 (by assumption) (by assumption) ?_
                  refine mx_il4 d_Mo_heard_192 ?_
                  refine mx_zald d_Mo_heard_194 (by assumption) (nI_inb (by omega) (by omega)) ?_
                  refine mx_ti (y := K (mo + 12) (r)) (by rw [nI_clamp (by omega)]) ?_
                  refine mx_ti (y := bI (vs_fit T p r)) (hfin) ?_
                  refine mx_ifB_eq 202 d_Mo_heard_195 (by decide) (fun c_195 => ?_) (fun c_195 => ?_)
                  · skip
                    refine mx_in_0 d_Mo_heard_202 ?_
                    refine mx_iaddN d_Mo_heard_203 ?_
                    refine mx_is3 d_Mo_heard_204 ?_
                    refine mx_iN4 d_Mo_heard_205 ?_
                    refine mx_goto 83 d_Mo_heard_208 (by decide) ?_
                    refine mx_dn5 ?_
                    have e3 : nI (fb_ct (vs_fit T p) r + 0) = nI (fb_ct (vs_fit T p) (r + 1)) := by rw [fb_ct_succ, c_195]; rfl
                    refine mx_lsc (congrArg (fun z9 => ([some (.ref (mo)), some (.int (nI (n))), some (.int (bI (vs_gg T n n))), some (.int (z9)), some (.int (nI (r + 1))), none] : List (Option Value))) e3) ?_
                    exact ih83 K (hnx)
                  · skip
                    refine mx_in_1 d_Mo_heard_198 ?_
                    refine mx_goto 203 d_Mo_heard_199 (by decide) ?_
                    refine mx_iaddN d_Mo_heard_203 ?_
                    refine mx_is3 d_Mo_heard_204 ?_
                    refine mx_iN4 d_Mo_heard_205 ?_
                    refine mx_goto 83 d_Mo_heard_208 (by decide) ?_
                    refine mx_dn5 ?_
                    have e3 : nI (fb_ct (vs_fit T p) r + 1) = nI (fb_ct (vs_fit T p) (r + 1)) := by rw [fb_ct_succ, c_195]; rfl
                    refine mx_lsc (congrArg (fun z9 => ([some (.ref (mo)), some (.int (nI (n))), some (.int (bI (vs_gg T n n))), some (.int (z9)), some (.int (nI (r + 1))), none] : List (Option Value))) e3) ?_
                    exact ih83 K (hnx)
                · skip
                  refine mx_al0 d_Mo_heard_136 ?_
                  refine mx_getR d_Mo_heard_137 fl_Mo_47 (by assumption) (by assumption) ?_
                  refine mx_il4 d_Mo_heard_140 ?_
                  refine mx_il4 d_Mo_heard_142 ?_
                  refine mx_al0 d_Mo_heard_144 ?_
                  refine mx_getR d_Mo_heard_145 fl_Mo_22 (by assumption) (by assumption) ?_
                  refine mx_il5 d_Mo_heard_148 ?_
                  refine mx_iald d_Mo_heard_150 (by assumption) (nI_inb (by omega) (by omega)) ?_
                  refine mx_ti (y := K (mo + 5) (2 * j)) (by rw [nI_clamp (by omega)]) ?_
                  refine mx_ti (y := nI (T (2 * j))) ((congrFun (hinv.1.1 (mo + 5) (by show ¬ mo + 5 = mo + 12; omega)) (2 * j)).trans (hT9 (2 * j) (by omega)).2) ?_
                  refine mx_cS2i d_Mo_heard_151 (c_Mo_isLetBy (r := r) (k := T (2 * j)) (by omega)) ok_Mo_isLetBy ml_Mo_396 (by decide) (Nat.le_of_ble_eq_true rfl) ?_
                  refine mx_al0 d_Mo_heard_154 ?_
                  refine mx_getR d_Mo_heard_155 fl_Mo_22 (by assumption) (by assumption) ?_
                  refine mx_il5 d_Mo_heard_158 ?_
                  refine mx_in_1 d_Mo_heard_160 ?_
                  refine mx_iaddN d_Mo_heard_161 ?_
                  refine mx_iald d_Mo_heard_162 (by assumption) (nI_inb (by omega) (by omega)) ?_
                  refine mx_ti (y := K (mo + 5) (2 * j + 1)) (by rw [nI_clamp (by omega)]) ?_
                  have hTb := (hT9 (2 * j + 1) (by omega)).1
                  refine mx_ti (y := nI (T (2 * j + 1))) ((congrFun (hinv.1.1 (mo + 5) (by show ¬ mo + 5 = mo + 12; omega)) (2 * j + 1)).trans (hT9 (2 * j + 1) (by omega)).2) ?_
                  refine mx_in_1 d_Mo_heard_163 ?_
                  refine mx_icN_ne 171 d_Mo_heard_164 (by decide) (by omega) (by omega) (fun c_164 => ?_) (fun c_164 => ?_)
                  · skip
                    refine mx_in_0 d_Mo_heard_171 ?_
                    refine mx_icmp_ne 179 d_Mo_heard_172 (by decide) (fun c_172 => ?_) (fun c_172 => ?_)
                    · skip
                      have k0 : (pbN (T (2 * j)) (r / 64) (r % 64) == decide (T (2 * j + 1) = 1)) = false := by first | (rw [bI_f1 c_172, decide_eq_true c_164]; rfl) | (rw [bI_f0 c_172, decide_eq_false c_164]; rfl)
                      refine mx_in_0 d_Mo_heard_179 ?_
                      refine mx_zast d_Mo_heard_180 (by assumption) (nI_inb (by omega) (by omega)) (by first | exact Or.inl rfl | exact Or.inr rfl) ?_
                      rw [nI_clamp (by omega)]
                      refine mx_ii5 (v := 2) d_Mo_heard_181 rfl ?_
                      refine mx_goto 120 d_Mo_heard_184 (by decide) ?_
                      have e5 : (nI (2 * j) + 2) = nI (2 * (j + 1)) := by exact nI_add (2 * j) 2
                      refine mx_lsc (congrArg (fun z9 => ([some (.ref (mo)), some (.int (nI (n))), some (.int (bI (vs_gg T n n))), some (.int (nI (fb_ct (vs_fit T p) r))), some (.int (nI (r))), some (.int (z9))] : List (Option Value))) e5) ?_
                      exact ih (mx_up K (mo + 12) (r) (nI (0))) (⟨hf_up hinv.1, by rw [Bool.and_eq_true] at c_133; rw [fitN_s, c_133.1, c_133.2, k0]; simp [mx_up, bI]⟩)
                    · skip
                      have k0 : (pbN (T (2 * j)) (r / 64) (r % 64) == decide (T (2 * j + 1) = 1)) = true := by first | (rw [bI_e1 c_172, decide_eq_true c_164]; rfl) | (rw [bI_e0 c_172, decide_eq_false c_164]; rfl)
                      refine mx_in_1 d_Mo_heard_175 ?_
                      refine mx_goto 180 d_Mo_heard_176 (by decide) ?_
                      refine mx_zast d_Mo_heard_180 (by assumption) (nI_inb (by omega) (by omega)) (by first | exact Or.inl rfl | exact Or.inr rfl) ?_
                      rw [nI_clamp (by omega)]
                      refine mx_ii5 (v := 2) d_Mo_heard_181 rfl ?_
                      refine mx_goto 120 d_Mo_heard_184 (by decide) ?_
                      have e5 : (nI (2 * j) + 2) = nI (2 * (j + 1)) := by exact nI_add (2 * j) 2
                      refine mx_lsc (congrArg (fun z9 => ([some (.ref (mo)), some (.int (nI (n))), some (.int (bI (vs_gg T n n))), some (.int (nI (fb_ct (vs_fit T p) r))), some (.int (nI (r))), some (.int (z9))] : List (Option Value))) e5) ?_
                      exact ih (mx_up K (mo + 12) (r) (nI (1))) (⟨hf_up hinv.1, by rw [Bool.and_eq_true] at c_133; rw [fitN_s, c_133.1, c_133.2, k0]; simp [mx_up, bI]⟩)
                  · skip
                    refine mx_in_1 d_Mo_heard_167 ?_
                    refine mx_goto 172 d_Mo_heard_168 (by decide) ?_
                    refine mx_icmp_ne 179 d_Mo_heard_172 (by decide) (fun c_172 => ?_) (fun c_172 => ?_)
                    · skip
                      have k0 : (pbN (T (2 * j)) (r / 64) (r % 64) == decide (T (2 * j + 1) = 1)) = false := by first | (rw [bI_f1 c_172, decide_eq_true c_164]; rfl) | (rw [bI_f0 c_172, decide_eq_false c_164]; rfl)
                      refine mx_in_0 d_Mo_heard_179 ?_
                      refine mx_zast d_Mo_heard_180 (by assumption) (nI_inb (by omega) (by omega)) (by first | exact Or.inl rfl | exact Or.inr rfl) ?_
                      rw [nI_clamp (by omega)]
                      refine mx_ii5 (v := 2) d_Mo_heard_181 rfl ?_
                      refine mx_goto 120 d_Mo_heard_184 (by decide) ?_
                      have e5 : (nI (2 * j) + 2) = nI (2 * (j + 1)) := by exact nI_add (2 * j) 2
                      refine mx_lsc (congrArg (fun z9 => ([some (.ref (mo)), some (.int (nI (n))), some (.int (bI (vs_gg T n n))), some (.int (nI (fb_ct (vs_fit T p) r))), some (.int (nI (r))), some (.int (z9))] : List (Option Value))) e5) ?_
                      exact ih (mx_up K (mo + 12) (r) (nI (0))) (⟨hf_up hinv.1, by rw [Bool.and_eq_true] at c_133; rw [fitN_s, c_133.1, c_133.2, k0]; simp [mx_up, bI]⟩)
                    · skip
                      have k0 : (pbN (T (2 * j)) (r / 64) (r % 64) == decide (T (2 * j + 1) = 1)) = true := by first | (rw [bI_e1 c_172, decide_eq_true c_164]; rfl) | (rw [bI_e0 c_172, decide_eq_false c_164]; rfl)
                      refine mx_in_1 d_Mo_heard_175 ?_
                      refine mx_goto 180 d_Mo_heard_176 (by decide) ?_
                      refine mx_zast d_Mo_heard_180 (by assumption) (nI_inb (by omega) (by omega)) (by first | exact Or.inl rfl | exact Or.inr rfl) ?_
                      rw [nI_clamp (by omega)]
                      refine mx_ii5 (v := 2) d_Mo_heard_181 rfl ?_
                      refine mx_goto 120 d_Mo_heard_184 (by decide) ?_
                      have e5 : (nI (2 * j) + 2) = nI (2 * (j + 1)) := by exact nI_add (2 * j) 2
                      refine mx_lsc (congrArg (fun z9 => ([some (.ref (mo)), some (.int (nI (n))), some (.int (bI (vs_gg T n n))), some (.int (nI (fb_ct (vs_fit T p) r))), some (.int (nI (r))), some (.int (z9))] : List (Option Value))) e5) ?_
                      exact ih (mx_up K (mo + 12) (r) (nI (1))) (⟨hf_up hinv.1, by rw [Bool.and_eq_true] at c_133; rw [fitN_s, c_133.1, c_133.2, k0]; simp [mx_up, bI]⟩)
              · skip
                obtain ⟨K, hz9⟩ : ∃ q, q = z9 := ⟨_, rfl⟩
                subst hz9
                try dsimp only at hinv ⊢
                have hfin : K (mo + 12) r = bI (vs_fit T p r) := hinv.2
                have hnx := hf_next hinv.1 hfin
                refine mx_il5 d_Mo_heard_120 ?_
                refine mx_il1 d_Mo_heard_122 ?_
                refine mx_icN_ge 187 d_Mo_heard_123 (by decide) (by omega) (by omega) (fun c_123 => ?_) (fun c_123 => absurd c_123 (by omega))
                refine mx_il3 d_Mo_heard_187 ?_
                refine mx_al0 d_Mo_heard_188 ?_
                refine mx_getR d_Mo_heard_189 fl_Mo_47 (by assumption) (by assumption) ?_
                refine mx_il4 d_Mo_heard_192 ?_
                refine mx_zald d_Mo_heard_194 (by assumption) (nI_inb (by omega) (by omega)) ?_
                refine mx_ti (y := K (mo + 12) (r)) (by rw [nI_clamp (by omega)]) ?_
                refine mx_ti (y := bI (vs_fit T p r)) (hfin) ?_
                refine mx_ifB_eq 202 d_Mo_heard_195 (by decide) (fun c_195 => ?_) (fun c_195 => ?_)
                · skip
                  refine mx_in_0 d_Mo_heard_202 ?_
                  refine mx_iaddN d_Mo_heard_203 ?_
                  refine mx_is3 d_Mo_heard_204 ?_
                  refine mx_iN4 d_Mo_heard_205 ?_
                  refine mx_goto 83 d_Mo_heard_208 (by decide) ?_
                  refine mx_dn5 ?_
                  have e3 : nI (fb_ct (vs_fit T p) r + 0) = nI (fb_ct (vs_fit T p) (r + 1)) := by rw [fb_ct_succ, c_195]; rfl
                  refine mx_lsc (congrArg (fun z9 => ([some (.ref (mo)), some (.int (nI (n))), some (.int (bI (vs_gg T n n))), some (.int (z9)), some (.int (nI (r + 1))), none] : List (Option Value))) e3) ?_
                  exact ih K (hnx)
                · skip
                  refine mx_in_1 d_Mo_heard_198 ?_
                  refine mx_goto 203 d_Mo_heard_199 (by decide) ?_
                  refine mx_iaddN d_Mo_heard_203 ?_
                  refine mx_is3 d_Mo_heard_204 ?_
                  refine mx_iN4 d_Mo_heard_205 ?_
                  refine mx_goto 83 d_Mo_heard_208 (by decide) ?_
                  refine mx_dn5 ?_
                  have e3 : nI (fb_ct (vs_fit T p) r + 1) = nI (fb_ct (vs_fit T p) (r + 1)) := by rw [fb_ct_succ, c_195]; rfl
                  refine mx_lsc (congrArg (fun z9 => ([some (.ref (mo)), some (.int (nI (n))), some (.int (bI (vs_gg T n n))), some (.int (z9)), some (.int (nI (r + 1))), none] : List (Option Value))) e3) ?_
                  exact ih K (hnx)
          · skip
            obtain ⟨K, hz9⟩ : ∃ q, q = z9 := ⟨_, rfl⟩
            subst hz9
            try dsimp only at hinv ⊢
            refine mx_il4 d_Mo_heard_83 ?_
            refine mx_sip 4096 d_Mo_heard_85 (by decide) ?_
            refine mx_icN_ge 211 d_Mo_heard_88 (by decide) (by omega) (by omega) (fun c_88 => ?_) (fun c_88 => absurd c_88 (by omega))
            refine mx_il3 d_Mo_heard_211 ?_
            exact mx_iret d_Mo_heard_212 rfl (mx_sR_i (by rw [hgh, ← hp]; rfl) ⟨hinv.1, fun _ => by rw [← hp]; exact hinv⟩)
        · skip
          refine mx_ic_m1 d_Mo_heard_76 ?_
          exact mx_iret d_Mo_heard_77 rfl (mx_sR_i (by first | (have z9 := vs_gg_f c_36 (k := n) (by omega); rw [vs_gg_n] at z9; simp [z9]; done) | (rw [vs_gg_n] at c_73; simp [c_73])) (by first | (have z9 := vs_gg_f c_36 (k := n) (by omega); rw [vs_gg_n] at z9; exact ⟨mx_off.rf, fun h9 => absurd h9 (by rw [z9]; decide)⟩) | (rw [vs_gg_n] at c_73; exact ⟨mx_off.rf, fun h9 => absurd h9 (by rw [c_73]; decide)⟩)))
theorem hf_fin {K : mx_I} {v : Int32} (h : mx_off (fun c => c = mo + 12) (mx_up I (mo) 8 (nI (0))) K) : mx_off (fun c => c = mo + 12) (mx_up (mx_up I mo 8 (nI 0)) mo 0 v) (mx_up K mo 0 v) := fun c hc => by
  have e := h c hc
  funext j
  have e := congrFun e j
  simp only [mx_up] at e ⊢
  rw [e]
theorem c_Mo_rulesT (hM : mo_ok S P mo) (hm : I (mo + 1) = m) (hT : tp_rel I (mo + 5) T) (hTl : I mo 8 = nI n) (hn : n ≤ 400) (hgh : vs_gh T n = true) {b : Bool} : mx_C l E M_Mo_rules 2 0 0 [.ref (mo), .int (bI (b))] (t, S, I, P, J) (mx_sR (some (.int (sp_rules T n b).2)) t S P J (fun K => mx_off (fun c => c = mo + 12) (mx_up (mx_up I mo 8 (nI 0)) mo 0 (nI (sp_rules T n b).1)) K)) := by
  obtain ⟨hM0, hMp1, hMp2, hMp4, hMp5, hMp7, hMp14, hMp21, hMp22, hMp23, hMp24, hMp25, hMp26, hMp27, hMs1, hMs2, hMs3, hMs4, hMs5, hMs6, hMs7, hMs8, hMs9, hMs10, hMs11, hMs12, hMs13⟩ := id hM
  refine mx_C_of (ls0 := [some (.ref (mo)), some (.int (bI (b))), none, none, none]) (by decide +kernel) rfl rfl (Nat.le_of_ble_eq_true rfl) rfl ?_
  refine mx_al0 d_Mo_rules_0 ?_
  refine mx_cV0iR d_Mo_rules_1 ((show mx_C _ _ _ _ _ _ _ _ (mx_sR (some (.int (nI (fb_ct (vs_fit T (n / 2)) 4096)))) t S P J (fun K => mx_off (fun c => c = mo + 12) (mx_up I (mo) 8 (nI (0))) K ∧ (vs_gh T n = true → hf_inv (mx_up I (mo) 8 (nI (0))) K mo T (n / 2) 4096))) from by have z := c_Mo_heard (l := l) (E := E) (t := t) (S := S) (I := I) (P := P) (J := J) hM hm hT hTl hn; rw [hgh] at z ⊢; exact z)) ok_Mo_heard ml_Mo_399 (by assumption) ⟨rfl, rfl⟩ (by decide) (Nat.le_of_ble_eq_true rfl) (fun K hK => ?_)
  refine mx_is2 d_Mo_rules_4 ?_
  have hle := fit_le (T := T) (p := n / 2) (Nat.le_refl 4096)
  refine mx_al0 d_Mo_rules_5 ?_
  refine mx_il2 d_Mo_rules_6 ?_
  refine mx_ic_m1 d_Mo_rules_7 ?_
  refine mx_icmp_ne 15 d_Mo_rules_8 (by decide) (fun c_8 => ?_) (fun c_8 => absurd c_8 (nI_m1b (by omega)))
  refine mx_in_0 d_Mo_rules_15 ?_
  refine mx_putI d_Mo_rules_16 fl_Mo_54 (by assumption) ?_
  refine mx_al0 d_Mo_rules_19 ?_
  refine mx_getI d_Mo_rules_20 fl_Mo_54 (by assumption) ?_
  refine mx_ti (y := nI (0)) (vs_upx) ?_
  refine mx_if_gt 30 d_Mo_rules_23 (by decide) (fun c_23 => absurd c_23 (by decide)) (fun c_23 => ?_)
  refine mx_il1 d_Mo_rules_26 ?_
  refine mx_ifB_ne 43 d_Mo_rules_27 (by decide) (fun c_27 => ?_) (fun c_27 => ?_)
  · skip
    refine mx_ic_m1 d_Mo_rules_43 ?_
    refine mx_is3 d_Mo_rules_44 ?_
    refine mx_in_0 d_Mo_rules_45 ?_
    refine mx_is4 d_Mo_rules_46 ?_
    refine mx_loop (N := 4096) (ls := fun r => [some (.ref (mo)), some (.int (bI (b))), some (.int (nI (fb_ct (vs_fit T (n / 2)) 4096))), some (.int ((vs_pl2 T (n / 2) r))), some (.int (nI (r)))]) (X := fun r => (t, S, (mx_up K (mo) 0 (nI (0))), P, J)) (fun r hr ih => ?_) ?_
    · try dsimp only
      refine mx_il4 d_Mo_rules_48 ?_
      refine mx_sip 4096 d_Mo_rules_50 (by decide) ?_
      refine mx_icN_ge 92 d_Mo_rules_53 (by decide) (by omega) (by omega) (fun c_53 => absurd c_53 (by omega)) (fun c_53 => ?_)
      refine mx_al0 d_Mo_rules_56 ?_
      refine mx_getR d_Mo_rules_57 fl_Mo_47 (by assumption) (by assumption) ?_
      refine mx_il4 d_Mo_rules_60 ?_
      refine mx_zald d_Mo_rules_62 (by assumption) (nI_inb (by omega) (by omega)) ?_
      refine mx_ti (y := (mx_up K (mo) 0 (nI (0))) (mo + 12) (r)) (by rw [nI_clamp (by omega)]) ?_
      refine mx_ti (y := bI (vs_fit T (n / 2) r)) ((congrFun (mx_up_ne (by omega)) r).trans ((hK.2 hgh).2 r (by omega))) ?_
      refine mx_ifB_eq 86 d_Mo_rules_63 (by decide) (fun c_63 => ?_) (fun c_63 => ?_)
      · skip
        refine mx_iN4 d_Mo_rules_86 ?_
        refine mx_goto 48 d_Mo_rules_89 (by decide) ?_
        have e3 : (vs_pl2 T (n / 2) r) = (vs_pl2 T (n / 2) (r + 1)) := by (show _ = (if vs_fit T (n / 2) r = true then vs_plF (vs_pc r) (vs_pl2 T (n / 2) r) else vs_pl2 T (n / 2) r)); first | (rw [if_neg (by rw [c_63]; decide)]; done) | (rw [if_pos c_63, vs_plF]; first | (rw [if_pos (Or.inl c_68)]; done) | (rw [if_pos (Or.inr (Int32.not_le.mp c_77))]; done) | (rw [if_neg (fun z => z.elim c_68 (Int32.not_lt.mpr c_77))]; done))
        refine mx_lsc (congrArg (fun z9 => ([some (.ref (mo)), some (.int (bI (b))), some (.int (nI (fb_ct (vs_fit T (n / 2)) 4096))), some (.int (z9)), some (.int (nI (r + 1)))] : List (Option Value))) e3) ?_
        exact ih
      · skip
        refine mx_il3 d_Mo_rules_66 ?_
        refine mx_ic_m1 d_Mo_rules_67 ?_
        refine mx_icmp_eq 80 d_Mo_rules_68 (by decide) (fun c_68 => ?_) (fun c_68 => ?_)
        · skip
          refine mx_il4 d_Mo_rules_80 ?_
          refine mx_cS1i d_Mo_rules_82 (c_Mo_bitsN (k := r)) ok_Mo_bits ml_Mo_303 (by decide) (Nat.le_of_ble_eq_true rfl) ?_
          refine mx_is3 d_Mo_rules_85 ?_
          refine mx_iN4 d_Mo_rules_86 ?_
          refine mx_goto 48 d_Mo_rules_89 (by decide) ?_
          have e3 : nI (vs_pc (r)) = (vs_pl2 T (n / 2) (r + 1)) := by (show _ = (if vs_fit T (n / 2) r = true then vs_plF (vs_pc r) (vs_pl2 T (n / 2) r) else vs_pl2 T (n / 2) r)); first | (rw [if_neg (by rw [c_63]; decide)]; done) | (rw [if_pos c_63, vs_plF]; first | (rw [if_pos (Or.inl c_68)]; done) | (rw [if_pos (Or.inr (Int32.not_le.mp c_77))]; done) | (rw [if_neg (fun z => z.elim c_68 (Int32.not_lt.mpr c_77))]; done))
          refine mx_lsc (congrArg (fun z9 => ([some (.ref (mo)), some (.int (bI (b))), some (.int (nI (fb_ct (vs_fit T (n / 2)) 4096))), some (.int (z9)), some (.int (nI (r + 1)))] : List (Option Value))) e3) ?_
          exact ih
        · skip
          refine mx_il4 d_Mo_rules_71 ?_
          refine mx_cS1i d_Mo_rules_73 (c_Mo_bitsN (k := r)) ok_Mo_bits ml_Mo_303 (by decide) (Nat.le_of_ble_eq_true rfl) ?_
          refine mx_il3 d_Mo_rules_76 ?_
          refine mx_icmp_ge 86 d_Mo_rules_77 (by decide) (fun c_77 => ?_) (fun c_77 => ?_)
          · skip
            refine mx_iN4 d_Mo_rules_86 ?_
            refine mx_goto 48 d_Mo_rules_89 (by decide) ?_
            have e3 : (vs_pl2 T (n / 2) r) = (vs_pl2 T (n / 2) (r + 1)) := by (show _ = (if vs_fit T (n / 2) r = true then vs_plF (vs_pc r) (vs_pl2 T (n / 2) r) else vs_pl2 T (n / 2) r)); first | (rw [if_neg (by rw [c_63]; decide)]; done) | (rw [if_pos c_63, vs_plF]; first | (rw [if_pos (Or.inl c_68)]; done) | (rw [if_pos (Or.inr (Int32.not_le.mp c_77))]; done) | (rw [if_neg (fun z => z.elim c_68 (Int32.not_lt.mpr c_77))]; done))
            refine mx_lsc (congrArg (fun z9 => ([some (.ref (mo)), some (.int (bI (b))), some (.int (nI (fb_ct (vs_fit T (n / 2)) 4096))), some (.int (z9)), some (.int (nI (r + 1)))] : List (Option Value))) e3) ?_
            exact ih
          · skip
            refine mx_il4 d_Mo_rules_80 ?_
            refine mx_cS1i d_Mo_rules_82 (c_Mo_bitsN (k := r)) ok_Mo_bits ml_Mo_303 (by decide) (Nat.le_of_ble_eq_true rfl) ?_
            refine mx_is3 d_Mo_rules_85 ?_
            refine mx_iN4 d_Mo_rules_86 ?_
            refine mx_goto 48 d_Mo_rules_89 (by decide) ?_
            have e3 : nI (vs_pc (r)) = (vs_pl2 T (n / 2) (r + 1)) := by (show _ = (if vs_fit T (n / 2) r = true then vs_plF (vs_pc r) (vs_pl2 T (n / 2) r) else vs_pl2 T (n / 2) r)); first | (rw [if_neg (by rw [c_63]; decide)]; done) | (rw [if_pos c_63, vs_plF]; first | (rw [if_pos (Or.inl c_68)]; done) | (rw [if_pos (Or.inr (Int32.not_le.mp c_77))]; done) | (rw [if_neg (fun z => z.elim c_68 (Int32.not_lt.mpr c_77))]; done))
            refine mx_lsc (congrArg (fun z9 => ([some (.ref (mo)), some (.int (bI (b))), some (.int (nI (fb_ct (vs_fit T (n / 2)) 4096))), some (.int (z9)), some (.int (nI (r + 1)))] : List (Option Value))) e3) ?_
            exact ih
    · try dsimp only
      refine mx_il4 d_Mo_rules_48 ?_
      refine mx_sip 4096 d_Mo_rules_50 (by decide) ?_
      refine mx_icN_ge 92 d_Mo_rules_53 (by decide) (by omega) (by omega) (fun c_53 => ?_) (fun c_53 => absurd c_53 (by omega))
      refine mx_il3 d_Mo_rules_92 ?_
      exact mx_iret d_Mo_rules_93 rfl (mx_sR_i (by simp [sp_rules, hgh, *]) (by rw [show (sp_rules T n b).1 = 0 from by simp [sp_rules, hgh]]; exact hf_fin hK.1))
  · skip
    refine mx_al0 d_Mo_rules_30 ?_
    refine mx_getI d_Mo_rules_31 fl_Mo_54 (by assumption) ?_
    refine mx_ti (y := nI (0)) (vs_upx) ?_
    refine mx_if_le 41 d_Mo_rules_34 (by decide) (fun c_34 => ?_) (fun c_34 => absurd (by decide) c_34)
    refine mx_il2 d_Mo_rules_41 ?_
    exact mx_iret d_Mo_rules_42 rfl (mx_sR_i (by simp [sp_rules, hgh, *]) (by rw [show (sp_rules T n b).1 = 0 from by simp [sp_rules, hgh]]; exact hf_fin hK.1))
theorem vs_in2_le (T : Nat → Nat) (p k n : Nat) : vs_in2 T p k n ≤ fb_ct (vs_fit T p) n := by
  induction n with
  | zero => exact Nat.le_refl _
  | succ n ih =>
    have e : vs_in2 T p k (n + 1) = if vs_fit T p n = true ∧ pbN k (n / 64) (n % 64) = true then vs_in2 T p k n + 1 else vs_in2 T p k n := rfl
    rw [e, fb_ct_succ]
    by_cases h1 : vs_fit T p n = true
    · rw [if_pos h1]; split <;> omega
    · rw [if_neg (fun z => h1 z.1), if_neg h1]; omega
theorem vs_pt2_le {g : Nat → Nat} (hg : ∀ k, g k ≤ 2000000000) (n : Nat) : (vs_pt2 g n).2 ≤ 2000000000 := by
  induction n with
  | zero => exact Nat.le_refl _
  | succ n ih => rw [vs_pt2_s]; split; exact ih; exact hg n
theorem c_Mo_sendT (hM : mo_ok S P mo) (hm : I (mo + 1) = m) (hT : tp_rel I (mo + 5) T) (hTl : I mo 8 = nI n) (hn : n ≤ 400) (hgh : vs_gh T n = true) : mx_C l E M_Mo_send 2 0 0 [.ref (mo)] (t, S, I, P, J) (mx_sR (some (.int (sp_send T n).2)) t S P J (fun K => mx_off (fun c => c = mo + 12) (mx_up (mx_up I mo 8 (nI 0)) mo 0 (nI (sp_send T n).1)) K)) := by
  obtain ⟨hM0, hMp1, hMp2, hMp4, hMp5, hMp7, hMp14, hMp21, hMp22, hMp23, hMp24, hMp25, hMp26, hMp27, hMs1, hMs2, hMs3, hMs4, hMs5, hMs6, hMs7, hMs8, hMs9, hMs10, hMs11, hMs12, hMs13⟩ := id hM
  refine mx_C_of (ls0 := [some (.ref (mo)), none, none, none, none, none, none]) (by decide +kernel) rfl rfl (Nat.le_of_ble_eq_true rfl) rfl ?_
  refine mx_al0 d_Mo_send_0 ?_
  refine mx_cV0iR d_Mo_send_1 ((show mx_C _ _ _ _ _ _ _ _ (mx_sR (some (.int (nI (fb_ct (vs_fit T (n / 2)) 4096)))) t S P J (fun K => mx_off (fun c => c = mo + 12) (mx_up I (mo) 8 (nI (0))) K ∧ (vs_gh T n = true → hf_inv (mx_up I (mo) 8 (nI (0))) K mo T (n / 2) 4096))) from by have z := c_Mo_heard (l := l) (E := E) (t := t) (S := S) (I := I) (P := P) (J := J) hM hm hT hTl hn; rw [hgh] at z ⊢; exact z)) ok_Mo_heard ml_Mo_399 (by assumption) ⟨rfl, rfl⟩ (by decide) (Nat.le_of_ble_eq_true rfl) (fun K hK => ?_)
  refine mx_is1 d_Mo_send_4 ?_
  have hle := fit_le (T := T) (p := n / 2) (Nat.le_refl 4096)
  refine mx_al0 d_Mo_send_5 ?_
  refine mx_il1 d_Mo_send_6 ?_
  refine mx_ic_m1 d_Mo_send_7 ?_
  refine mx_icmp_ne 15 d_Mo_send_8 (by decide) (fun c_8 => ?_) (fun c_8 => absurd c_8 (nI_m1b (by omega)))
  refine mx_in_0 d_Mo_send_15 ?_
  refine mx_putI d_Mo_send_16 fl_Mo_54 (by assumption) ?_
  refine mx_al0 d_Mo_send_19 ?_
  refine mx_getI d_Mo_send_20 fl_Mo_54 (by assumption) ?_
  refine mx_ti (y := nI (0)) (vs_upx) ?_
  refine mx_if_le 28 d_Mo_send_23 (by decide) (fun c_23 => ?_) (fun c_23 => absurd (by decide) c_23)
  refine mx_ic_m1 d_Mo_send_28 ?_
  refine mx_is2 d_Mo_send_29 ?_
  refine mx_ldcw d_Mo_send_30 cn_Mo_402 ?_
  refine mx_ti (y := nI (2000000000)) (by decide) ?_
  refine mx_is3 d_Mo_send_33 ?_
  refine mx_in_0 d_Mo_send_34 ?_
  refine mx_is4 d_Mo_send_35 ?_
  refine mx_loopI (N := 64) (fun k => k = 0 ∨ 2 ≤ fb_ct (vs_fit T (n / 2)) 4096) (ls := fun k => [some (.ref (mo)), some (.int (nI (fb_ct (vs_fit T (n / 2)) 4096))), some (.int ((vs_pt2 (vs_gr3 T (n / 2)) k).1)), some (.int (nI ((vs_pt2 (vs_gr3 T (n / 2)) k).2))), some (.int (nI (k))), none, none]) (X := fun k => (t, S, (mx_up K (mo) 0 (nI (0))), P, J)) (Or.inl rfl) (fun k hk hinv ih => ?_) (fun hinv => ?_)
  · try dsimp only at hinv ih ⊢
    have hgr : vs_gr3 T (n / 2) k = max (vs_in2 T (n / 2) k 4096) (fb_ct (vs_fit T (n / 2)) 4096 - vs_in2 T (n / 2) k 4096) := rfl
    have hp2 := vs_pt2_le (g := vs_gr3 T (n / 2)) (fun k => by have := vs_in2_le T (n / 2) k 4096; unfold vs_gr3; omega) k
    refine mx_il4 d_Mo_send_37 ?_
    refine mx_bip 64 d_Mo_send_39 (by decide) ?_
    refine mx_icN_ge 134 d_Mo_send_41 (by decide) (by omega) (by omega) (fun c_41 => absurd c_41 (by omega)) (fun c_41 => ?_)
    refine mx_il1 d_Mo_send_44 ?_
    refine mx_in_1 d_Mo_send_45 ?_
    refine mx_icN_le 134 d_Mo_send_46 (by decide) (by omega) (by omega) (fun c_46 => ?_) (fun c_46 => ?_)
    · skip
      refine mx_il2 d_Mo_send_134 ?_
      exact mx_iret d_Mo_send_135 rfl (mx_sR_i (by unfold sp_send vs_part2; rw [if_pos hgh]; first | (rw [if_pos (by omega)]; done) | (rw [if_neg (by omega)]; have z : k = 0 := (by omega); subst z; rfl)) (by rw [show (sp_send T n).1 = 0 from by simp [sp_send, hgh]]; exact hf_fin hK.1))
    · skip
      refine mx_in_0 d_Mo_send_49 ?_
      refine mx_is5 d_Mo_send_50 ?_
      refine mx_in_0 d_Mo_send_52 ?_
      refine mx_is6 d_Mo_send_53 ?_
      have ih37 := ih
      have hinv37 := hinv
      refine mx_loop (N := 4096) (ls := fun r => [some (.ref (mo)), some (.int (nI (fb_ct (vs_fit T (n / 2)) 4096))), some (.int ((vs_pt2 (vs_gr3 T (n / 2)) k).1)), some (.int (nI ((vs_pt2 (vs_gr3 T (n / 2)) k).2))), some (.int (nI (k))), some (.int (nI (vs_in2 T (n / 2) k r))), some (.int (nI (r)))]) (X := fun r => (t, S, (mx_up K (mo) 0 (nI (0))), P, J)) (fun r hr ih => ?_) ?_
      · try dsimp only
        refine mx_il6 d_Mo_send_55 ?_
        refine mx_sip 4096 d_Mo_send_57 (by decide) ?_
        refine mx_icN_ge 99 d_Mo_send_60 (by decide) (by omega) (by omega) (fun c_60 => absurd c_60 (by omega)) (fun c_60 => ?_)
        refine mx_il5 d_Mo_send_63 ?_
        refine mx_al0 d_Mo_send_65 ?_
        refine mx_getR d_Mo_send_66 fl_Mo_47 (by assumption) (by assumption) ?_
        refine mx_il6 d_Mo_send_69 ?_
        refine mx_zald d_Mo_send_71 (by assumption) (nI_inb (by omega) (by omega)) ?_
        refine mx_ti (y := (mx_up K (mo) 0 (nI (0))) (mo + 12) (r)) (by rw [nI_clamp (by omega)]) ?_
        refine mx_ti (y := bI (vs_fit T (n / 2) r)) ((congrFun (mx_up_ne (by omega)) r).trans ((hK.2 hgh).2 r (by omega))) ?_
        refine mx_ifB_eq 89 d_Mo_send_72 (by decide) (fun c_72 => ?_) (fun c_72 => ?_)
        · skip
          refine mx_in_0 d_Mo_send_89 ?_
          refine mx_iaddN d_Mo_send_90 ?_
          refine mx_is5 d_Mo_send_91 ?_
          refine mx_iN6 d_Mo_send_93 ?_
          refine mx_goto 55 d_Mo_send_96 (by decide) ?_
          have e5 : nI (vs_in2 T (n / 2) k r + 0) = nI (vs_in2 T (n / 2) k (r + 1)) := by (show nI _ = nI (if vs_fit T (n / 2) r = true ∧ pbN k (r / 64) (r % 64) = true then vs_in2 T (n / 2) k r + 1 else vs_in2 T (n / 2) k r); first | (rw [if_pos ⟨c_72, c_82⟩]; done) | (rw [if_neg (fun z => by have z1 := z.1; have z2 := z.2; simp_all)]; rfl))
          refine mx_lsc (congrArg (fun z9 => ([some (.ref (mo)), some (.int (nI (fb_ct (vs_fit T (n / 2)) 4096))), some (.int ((vs_pt2 (vs_gr3 T (n / 2)) k).1)), some (.int (nI ((vs_pt2 (vs_gr3 T (n / 2)) k).2))), some (.int (nI (k))), some (.int (z9)), some (.int (nI (r + 1)))] : List (Option Value))) e5) ?_
          exact ih
        · skip
          refine mx_il6 d_Mo_send_75 ?_
          refine mx_il4 d_Mo_send_77 ?_
          refine mx_cS2i d_Mo_send_79 (c_Mo_isLetBy (r := r) (k := k) (by omega)) ok_Mo_isLetBy ml_Mo_396 (by decide) (Nat.le_of_ble_eq_true rfl) ?_
          refine mx_ifB_eq 89 d_Mo_send_82 (by decide) (fun c_82 => ?_) (fun c_82 => ?_)
          · skip
            refine mx_in_0 d_Mo_send_89 ?_
            refine mx_iaddN d_Mo_send_90 ?_
            refine mx_is5 d_Mo_send_91 ?_
            refine mx_iN6 d_Mo_send_93 ?_
            refine mx_goto 55 d_Mo_send_96 (by decide) ?_
            have e5 : nI (vs_in2 T (n / 2) k r + 0) = nI (vs_in2 T (n / 2) k (r + 1)) := by (show nI _ = nI (if vs_fit T (n / 2) r = true ∧ pbN k (r / 64) (r % 64) = true then vs_in2 T (n / 2) k r + 1 else vs_in2 T (n / 2) k r); first | (rw [if_pos ⟨c_72, c_82⟩]; done) | (rw [if_neg (fun z => by have z1 := z.1; have z2 := z.2; simp_all)]; rfl))
            refine mx_lsc (congrArg (fun z9 => ([some (.ref (mo)), some (.int (nI (fb_ct (vs_fit T (n / 2)) 4096))), some (.int ((vs_pt2 (vs_gr3 T (n / 2)) k).1)), some (.int (nI ((vs_pt2 (vs_gr3 T (n / 2)) k).2))), some (.int (nI (k))), some (.int (z9)), some (.int (nI (r + 1)))] : List (Option Value))) e5) ?_
            exact ih
          · skip
            refine mx_in_1 d_Mo_send_85 ?_
            refine mx_goto 90 d_Mo_send_86 (by decide) ?_
            refine mx_iaddN d_Mo_send_90 ?_
            refine mx_is5 d_Mo_send_91 ?_
            refine mx_iN6 d_Mo_send_93 ?_
            refine mx_goto 55 d_Mo_send_96 (by decide) ?_
            have e5 : nI (vs_in2 T (n / 2) k r + 1) = nI (vs_in2 T (n / 2) k (r + 1)) := by (show nI _ = nI (if vs_fit T (n / 2) r = true ∧ pbN k (r / 64) (r % 64) = true then vs_in2 T (n / 2) k r + 1 else vs_in2 T (n / 2) k r); first | (rw [if_pos ⟨c_72, c_82⟩]; done) | (rw [if_neg (fun z => by have z1 := z.1; have z2 := z.2; simp_all)]; rfl))
            refine mx_lsc (congrArg (fun z9 => ([some (.ref (mo)), some (.int (nI (fb_ct (vs_fit T (n / 2)) 4096))), some (.int ((vs_pt2 (vs_gr3 T (n / 2)) k).1)), some (.int (nI ((vs_pt2 (vs_gr3 T (n / 2)) k).2))), some (.int (nI (k))), some (.int (z9)), some (.int (nI (r + 1)))] : List (Option Value))) e5) ?_
            exact ih
      · try dsimp only
        refine mx_il6 d_Mo_send_55 ?_
        refine mx_sip 4096 d_Mo_send_57 (by decide) ?_
        refine mx_icN_ge 99 d_Mo_send_60 (by decide) (by omega) (by omega) (fun c_60 => ?_) (fun c_60 => absurd c_60 (by omega))
        refine mx_il5 d_Mo_send_99 ?_
        refine mx_il1 d_Mo_send_101 ?_
        refine mx_il5 d_Mo_send_102 ?_
        have hin : vs_in2 T (n / 2) k 4096 ≤ fb_ct (vs_fit T (n / 2)) 4096 := vs_in2_le _ _ _ _
        refine mx_isubN d_Mo_send_104 (by omega) ?_
        refine mx_cS2i d_Mo_send_105 (c_Mo_greaterN (a := vs_in2 T (n / 2) k 4096) (b := (fb_ct (vs_fit T (n / 2)) 4096) - (vs_in2 T (n / 2) k 4096)) (by omega) (by omega)) ok_Mo_greater ml_Mo_277 (by decide) (Nat.le_of_ble_eq_true rfl) ?_
        refine mx_il3 d_Mo_send_108 ?_
        refine mx_icN_lt 115 d_Mo_send_109 (by decide) (by omega) (by omega) (fun c_109 => ?_) (fun c_109 => ?_)
        · skip
          have k0 : vs_pt2 (vs_gr3 T (n / 2)) (k + 1) = (nI k, vs_gr3 T (n / 2) k) := by rw [vs_pt2_s, if_neg (by rw [hgr]; omega)]
          refine mx_il5 d_Mo_send_115 ?_
          refine mx_il1 d_Mo_send_117 ?_
          refine mx_il5 d_Mo_send_118 ?_
          refine mx_isubN d_Mo_send_120 (by omega) ?_
          refine mx_cS2i d_Mo_send_121 (c_Mo_greaterN (a := vs_in2 T (n / 2) k 4096) (b := (fb_ct (vs_fit T (n / 2)) 4096) - (vs_in2 T (n / 2) k 4096)) (by omega) (by omega)) ok_Mo_greater ml_Mo_277 (by decide) (Nat.le_of_ble_eq_true rfl) ?_
          refine mx_is3 d_Mo_send_124 ?_
          refine mx_il4 d_Mo_send_125 ?_
          refine mx_is2 d_Mo_send_127 ?_
          refine mx_iN4 d_Mo_send_128 ?_
          refine mx_goto 37 d_Mo_send_131 (by decide) ?_
          refine mx_dn5 ?_
          refine mx_dn6 ?_
          have e2 : nI (k) = (vs_pt2 (vs_gr3 T (n / 2)) (k + 1)).1 := by rw [k0]
          refine mx_lsc (congrArg (fun z9 => ([some (.ref (mo)), some (.int (nI (fb_ct (vs_fit T (n / 2)) 4096))), some (.int (z9)), some (.int (nI (max (vs_in2 T (n / 2) k 4096) ((fb_ct (vs_fit T (n / 2)) 4096) - (vs_in2 T (n / 2) k 4096))))), some (.int (nI (k + 1))), none, none] : List (Option Value))) e2) ?_
          have e3 : nI (max (vs_in2 T (n / 2) k 4096) ((fb_ct (vs_fit T (n / 2)) 4096) - (vs_in2 T (n / 2) k 4096))) = nI ((vs_pt2 (vs_gr3 T (n / 2)) (k + 1)).2) := by first | (rw [k0]; rfl) | rw [k0]
          refine mx_lsc (congrArg (fun z9 => ([some (.ref (mo)), some (.int (nI (fb_ct (vs_fit T (n / 2)) 4096))), some (.int ((vs_pt2 (vs_gr3 T (n / 2)) (k + 1)).1)), some (.int (z9)), some (.int (nI (k + 1))), none, none] : List (Option Value))) e3) ?_
          exact ih (Or.inr (by omega))
        · skip
          have k0 : vs_pt2 (vs_gr3 T (n / 2)) (k + 1) = vs_pt2 (vs_gr3 T (n / 2)) k := by rw [vs_pt2_s, if_pos (by rw [hgr]; omega)]
          refine mx_goto 128 d_Mo_send_112 (by decide) ?_
          refine mx_iN4 d_Mo_send_128 ?_
          refine mx_goto 37 d_Mo_send_131 (by decide) ?_
          refine mx_dn5 ?_
          refine mx_dn6 ?_
          have e2 : (vs_pt2 (vs_gr3 T (n / 2)) k).1 = (vs_pt2 (vs_gr3 T (n / 2)) (k + 1)).1 := by rw [k0]
          refine mx_lsc (congrArg (fun z9 => ([some (.ref (mo)), some (.int (nI (fb_ct (vs_fit T (n / 2)) 4096))), some (.int (z9)), some (.int (nI ((vs_pt2 (vs_gr3 T (n / 2)) k).2))), some (.int (nI (k + 1))), none, none] : List (Option Value))) e2) ?_
          have e3 : nI ((vs_pt2 (vs_gr3 T (n / 2)) k).2) = nI ((vs_pt2 (vs_gr3 T (n / 2)) (k + 1)).2) := by first | (rw [k0]; rfl) | rw [k0]
          refine mx_lsc (congrArg (fun z9 => ([some (.ref (mo)), some (.int (nI (fb_ct (vs_fit T (n / 2)) 4096))), some (.int ((vs_pt2 (vs_gr3 T (n / 2)) (k + 1)).1)), some (.int (z9)), some (.int (nI (k + 1))), none, none] : List (Option Value))) e3) ?_
          exact ih (Or.inr (by omega))
  · try dsimp only at hinv ⊢
    refine mx_il4 d_Mo_send_37 ?_
    refine mx_bip 64 d_Mo_send_39 (by decide) ?_
    refine mx_icN_ge 134 d_Mo_send_41 (by decide) (by omega) (by omega) (fun c_41 => ?_) (fun c_41 => absurd c_41 (by omega))
    refine mx_il2 d_Mo_send_134 ?_
    exact mx_iret d_Mo_send_135 rfl (mx_sR_i (by unfold sp_send vs_part2; rw [if_pos hgh]; first | (rw [if_pos (by omega)]; done) | (rw [if_neg (by omega)]; have z : k = 0 := (by omega); subst z; rfl)) (by rw [show (sp_send T n).1 = 0 from by simp [sp_send, hgh]]; exact hf_fin hK.1))
theorem c_Mo_rulesF (hM : mo_ok S P mo) (hm : I (mo + 1) = m) (hT : tp_rel I (mo + 5) T) (hTl : I mo 8 = nI n) (hn : n ≤ 400) (hgh : vs_gh T n = false) {b : Bool} : mx_C l E M_Mo_rules 2 0 0 [.ref (mo), .int (bI (b))] (t, S, I, P, J) (mx_sR (some (.int (sp_rules T n b).2)) t S P J (fun K => mx_off (fun c => c = mo + 12) (mx_up (mx_up I mo 8 (nI 0)) mo 0 (nI (sp_rules T n b).1)) K)) := by
  obtain ⟨hM0, hMp1, hMp2, hMp4, hMp5, hMp7, hMp14, hMp21, hMp22, hMp23, hMp24, hMp25, hMp26, hMp27, hMs1, hMs2, hMs3, hMs4, hMs5, hMs6, hMs7, hMs8, hMs9, hMs10, hMs11, hMs12, hMs13⟩ := id hM
  refine mx_C_of (ls0 := [some (.ref (mo)), some (.int (bI (b))), none, none, none]) (by decide +kernel) rfl rfl (Nat.le_of_ble_eq_true rfl) rfl ?_
  refine mx_al0 d_Mo_rules_0 ?_
  refine mx_cV0iR d_Mo_rules_1 ((show mx_C _ _ _ _ _ _ _ _ (mx_sR (some (.int (-1))) t S P J (fun K => mx_off (fun c => c = mo + 12) (mx_up I (mo) 8 (nI (0))) K ∧ (vs_gh T n = true → hf_inv (mx_up I (mo) 8 (nI (0))) K mo T (n / 2) 4096))) from by have z := c_Mo_heard (l := l) (E := E) (t := t) (S := S) (I := I) (P := P) (J := J) hM hm hT hTl hn; rw [hgh] at z ⊢; exact z)) ok_Mo_heard ml_Mo_399 (by assumption) ⟨rfl, rfl⟩ (by decide) (Nat.le_of_ble_eq_true rfl) (fun K hK => ?_)
  refine mx_is2 d_Mo_rules_4 ?_
  have hle := fit_le (T := T) (p := n / 2) (Nat.le_refl 4096)
  refine mx_al0 d_Mo_rules_5 ?_
  refine mx_il2 d_Mo_rules_6 ?_
  refine mx_ic_m1 d_Mo_rules_7 ?_
  refine mx_icmp_ne 15 d_Mo_rules_8 (by decide) (fun c_8 => absurd c_8 (fun z => z rfl)) (fun c_8 => ?_)
  refine mx_in_1 d_Mo_rules_11 ?_
  refine mx_goto 16 d_Mo_rules_12 (by decide) ?_
  refine mx_putI d_Mo_rules_16 fl_Mo_54 (by assumption) ?_
  refine mx_al0 d_Mo_rules_19 ?_
  refine mx_getI d_Mo_rules_20 fl_Mo_54 (by assumption) ?_
  refine mx_ti (y := nI (1)) (vs_upx) ?_
  refine mx_if_gt 30 d_Mo_rules_23 (by decide) (fun c_23 => ?_) (fun c_23 => absurd (by decide) c_23)
  refine mx_al0 d_Mo_rules_30 ?_
  refine mx_getI d_Mo_rules_31 fl_Mo_54 (by assumption) ?_
  refine mx_ti (y := nI (1)) (vs_upx) ?_
  refine mx_if_le 41 d_Mo_rules_34 (by decide) (fun c_34 => absurd c_34 (by decide)) (fun c_34 => ?_)
  refine mx_in_0 d_Mo_rules_37 ?_
  refine mx_goto 42 d_Mo_rules_38 (by decide) ?_
  exact mx_iret d_Mo_rules_42 rfl (mx_sR_i (by simp [sp_rules, hgh, *]) (by rw [show (sp_rules T n b).1 = 1 from by simp [sp_rules, hgh]]; exact hf_fin hK.1))
theorem c_Mo_sendF (hM : mo_ok S P mo) (hm : I (mo + 1) = m) (hT : tp_rel I (mo + 5) T) (hTl : I mo 8 = nI n) (hn : n ≤ 400) (hgh : vs_gh T n = false) : mx_C l E M_Mo_send 2 0 0 [.ref (mo)] (t, S, I, P, J) (mx_sR (some (.int (sp_send T n).2)) t S P J (fun K => mx_off (fun c => c = mo + 12) (mx_up (mx_up I mo 8 (nI 0)) mo 0 (nI (sp_send T n).1)) K)) := by
  obtain ⟨hM0, hMp1, hMp2, hMp4, hMp5, hMp7, hMp14, hMp21, hMp22, hMp23, hMp24, hMp25, hMp26, hMp27, hMs1, hMs2, hMs3, hMs4, hMs5, hMs6, hMs7, hMs8, hMs9, hMs10, hMs11, hMs12, hMs13⟩ := id hM
  refine mx_C_of (ls0 := [some (.ref (mo)), none, none, none, none, none, none]) (by decide +kernel) rfl rfl (Nat.le_of_ble_eq_true rfl) rfl ?_
  refine mx_al0 d_Mo_send_0 ?_
  refine mx_cV0iR d_Mo_send_1 ((show mx_C _ _ _ _ _ _ _ _ (mx_sR (some (.int (-1))) t S P J (fun K => mx_off (fun c => c = mo + 12) (mx_up I (mo) 8 (nI (0))) K ∧ (vs_gh T n = true → hf_inv (mx_up I (mo) 8 (nI (0))) K mo T (n / 2) 4096))) from by have z := c_Mo_heard (l := l) (E := E) (t := t) (S := S) (I := I) (P := P) (J := J) hM hm hT hTl hn; rw [hgh] at z ⊢; exact z)) ok_Mo_heard ml_Mo_399 (by assumption) ⟨rfl, rfl⟩ (by decide) (Nat.le_of_ble_eq_true rfl) (fun K hK => ?_)
  refine mx_is1 d_Mo_send_4 ?_
  have hle := fit_le (T := T) (p := n / 2) (Nat.le_refl 4096)
  refine mx_al0 d_Mo_send_5 ?_
  refine mx_il1 d_Mo_send_6 ?_
  refine mx_ic_m1 d_Mo_send_7 ?_
  refine mx_icmp_ne 15 d_Mo_send_8 (by decide) (fun c_8 => absurd c_8 (fun z => z rfl)) (fun c_8 => ?_)
  refine mx_in_1 d_Mo_send_11 ?_
  refine mx_goto 16 d_Mo_send_12 (by decide) ?_
  refine mx_putI d_Mo_send_16 fl_Mo_54 (by assumption) ?_
  refine mx_al0 d_Mo_send_19 ?_
  refine mx_getI d_Mo_send_20 fl_Mo_54 (by assumption) ?_
  refine mx_ti (y := nI (1)) (vs_upx) ?_
  refine mx_if_le 28 d_Mo_send_23 (by decide) (fun c_23 => absurd c_23 (by decide)) (fun c_23 => ?_)
  refine mx_in_0 d_Mo_send_26 ?_
  exact mx_iret d_Mo_send_27 rfl (mx_sR_i (by simp [sp_send, hgh]) (by rw [show (sp_send T n).1 = 1 from by simp [sp_send, hgh]]; exact hf_fin hK.1))
end Y33
