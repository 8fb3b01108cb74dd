/-! PAIRS SO THAT NO TWO WOULD RATHER: what the asking comes to -/
def wv (W : Nat → Nat → Nat) (M : Nat → Nat) (a : Nat) : Nat := if M a < 8 then W a (M a) else 0
theorem wv_y {W : Nat → Nat → Nat} {M : Nat → Nat} {a : Nat} (h : M a < 8) : wv W M a = W a (M a) := if_pos h
theorem wv_0 {W : Nat → Nat → Nat} {M : Nat → Nat} {a : Nat} (h : 0 < wv W M a) : M a < 8 ∧ wv W M a = W a (M a) := by
  unfold wv at h ⊢
  by_cases q : M a < 8
  · rw [if_pos q]; exact ⟨q, rfl⟩
  · rw [if_neg q] at h; omega
def mm_ok (W : Nat → Nat → Nat) (M N : Nat → Nat) : Prop := (∀ a, a < 8 → M a < 8 → N (M a) = a ∧ 0 < W a (M a)) ∧ ∀ b, b < 8 → N b < 8 → M (N b) = b
def mm_st (W A : Nat → Nat → Nat) (M N : Nat → Nat) : Prop := mm_ok W M N ∧ ∀ a b, a < 8 → b < 8 → ¬ (wv W M a < W a b ∧ wv A N b < A b a)
def mm_sy (W A : Nat → Nat → Nat) : Prop := ∀ a b, a < 8 → b < 8 → (0 < W a b ↔ 0 < A b a)
theorem mm_sy.symm {W A : Nat → Nat → Nat} (h : mm_sy W A) : mm_sy A W := fun a b ha hb => (h b a hb ha).symm
theorem mm_st.symm {W A : Nat → Nat → Nat} {M N : Nat → Nat} (hs : mm_sy W A) (h : mm_st W A M N) : mm_st A W N M := by
  obtain ⟨⟨h1, h2⟩, h3⟩ := h
  refine ⟨⟨fun b hb hN => ⟨h2 b hb hN, ?_⟩, fun a ha hM => (h1 a ha hM).1⟩, fun b a hb ha z => h3 a b ha hb ⟨z.2, z.1⟩⟩
  have e := h2 b hb hN
  have := (h1 (N b) hN (by omega)).2
  rw [e] at this
  exact (hs (N b) b hN hb).mp this
/-- what holds while they ask -/
def gs_iv (W A : Nat → Nat → Nat) (s : gsS) : Prop := gs_ok W s ∧ (∀ a b, a < 8 → b < 8 → 0 < W a b → s.2.2 a ≤ W a b → A b a ≤ wv A s.2.1 b) ∧ ∀ M N, mm_st W A M N → ∀ a, a < 8 → M a < 8 → s.2.2 a ≤ W a (M a) → s.1 a = M a
theorem gs_iv_0 {W A : Nat → Nat → Nat} (hW : ∀ a b, a < 8 → b < 8 → W a b < 1000) : gs_iv W A gs_0 := by
  refine ⟨gs_ok_0 W, fun a b ha hb _ h => ?_, fun M N _ a ha hM h => ?_⟩
  · have : 1000 ≤ W a b := h
    have := hW a b ha hb; omega
  · have : 1000 ≤ W a (M a) := h
    have := hW a (M a) ha hM; omega
theorem gs_mt_at {A : Nat → Nat → Nat} {mt an : Nat → Nat} {a b : Nat} (h : gs_tk A an a b = true) : gs_mt A mt an a b a = b := by
  unfold gs_mt; rw [if_pos h, updN_e]
theorem gs_mt_ne {A : Nat → Nat → Nat} {mt an : Nat → Nat} {a b c : Nat} (hc : c ≠ a) (h : gs_tk A an a b = true → an b = c → an b < 8 → False) : gs_mt A mt an a b c = mt c := by
  unfold gs_mt
  split
  · rename_i q
    rw [updN_n hc]
    split
    · rename_i z; exact updN_n (fun e => h q e.symm z)
    · rfl
  · rfl
theorem gs_an_at {A : Nat → Nat → Nat} {an : Nat → Nat} {a b : Nat} (h : gs_tk A an a b = true) : gs_an A an a b b = a := by
  unfold gs_an; rw [if_pos h, updN_e]
theorem gs_an_ne {A : Nat → Nat → Nat} {an : Nat → Nat} {a b c : Nat} (h : c ≠ b) : gs_an A an a b c = an c := by
  unfold gs_an
  split
  · exact updN_n h
  · rfl
theorem gs_tk_y {A : Nat → Nat → Nat} {an : Nat → Nat} {a b : Nat} (h : gs_tk A an a b = true) : wv A an b < A b a := of_decide_eq_true h
theorem gs_tk_n {A : Nat → Nat → Nat} {an : Nat → Nat} {a b : Nat} (h : ¬ gs_tk A an a b = true) : A b a ≤ wv A an b := by
  have : ¬ wv A an b < A b a := fun z => h (decide_eq_true z)
  omega
theorem gs_an_wv {A : Nat → Nat → Nat} {an : Nat → Nat} {a b c : Nat} (ha : a < 8) : wv A an c ≤ wv A (gs_an A an a b) c := by
  by_cases e : c = b
  · subst e
    by_cases t : gs_tk A an a c = true
    · have := gs_tk_y t
      have e2 := gs_an_at t
      have e3 : wv A (gs_an A an a c) c = A c a := by rw [wv_y (M := gs_an A an a c) (by rw [e2]; exact ha), e2]
      rw [e3]; omega
    · have e2 : gs_an A an a c = an := by unfold gs_an; rw [if_neg t]
      rw [e2]; exact Nat.le_refl _
  · unfold wv; rw [gs_an_ne e]; exact Nat.le_refl _
theorem gs_iv_turn {W A : Nat → Nat → Nat} {s : gsS} {a : Nat} (hj : gs_inj W) (hjA : gs_inj A) (hs : mm_sy W A) (ha : a < 8) (h : gs_iv W A s) : gs_iv W A (gs_turn W A s a) := by
  obtain ⟨k0, k1, k2⟩ := h
  have k0' := gs_ok_turn (A := A) ha k0
  refine ⟨k0', ?_⟩
  clear k0'
  obtain ⟨n1, n2⟩ := gs_nw_is W (s.2.2 a) a
  unfold gs_turn
  by_cases q : s.1 a < 8
  · rw [if_pos q]; exact ⟨k1, k2⟩
  rw [if_neg q]
  by_cases z : (gs_nw W (s.2.2 a) a).1 < 8
  · rw [if_pos z]
    obtain ⟨hb, e, v0, vl⟩ := n2.resolve_left (fun y => by omega)
    obtain ⟨b, eb⟩ : ∃ b, b = (gs_nw W (s.2.2 a) a).1 := ⟨_, rfl⟩
    obtain ⟨v, ev⟩ : ∃ v, v = (gs_nw W (s.2.2 a) a).2 := ⟨_, rfl⟩
    rw [← eb, ← ev] at e
    rw [← eb] at hb
    rw [← ev] at v0 vl n1
    rw [← eb, ← ev]
    clear eb ev n2 z
    have hba : 0 < A b a := (hs a b ha hb).mp (by omega)
    -- what is newly asked is b
    have new : ∀ b', b' < 8 → v ≤ W a b' → s.2.2 a ≤ W a b' ∨ b' = b := fun b' hb' hv => by
      by_cases y : s.2.2 a ≤ W a b'
      · exact Or.inl y
      · have := n1 b' hb' (by omega)
        exact Or.inr (hj a b' b ha hb' hb (by omega) (by omega))
    refine ⟨fun a' b' ha' hb' h0 hl => ?_, fun M N hm a' ha' hM hl => ?_⟩
    · dsimp only at hl ⊢
      have mono : wv A s.2.1 b' ≤ wv A (gs_an A s.2.1 a b) b' := gs_an_wv ha
      by_cases y : a' = a
      · subst y
        rw [updN_e] at hl
        rcases new b' hb' hl with o | o
        · exact Nat.le_trans (k1 a' b' ha' hb' h0 o) mono
        · subst o
          by_cases t : gs_tk A s.2.1 a' b' = true
          · have e2 := gs_an_at t
            rw [wv_y (by rw [e2]; exact ha), e2]; exact Nat.le_refl _
          · exact Nat.le_trans (gs_tk_n t) mono
      · rw [updN_n y] at hl
        exact Nat.le_trans (k1 a' b' ha' hb' h0 hl) mono
    · dsimp only at hl ⊢
      obtain ⟨⟨m1, m2⟩, m3⟩ := id hm
      by_cases y : a' = a
      · subst y
        rw [updN_e] at hl
        have eMb : M a' = b := by
          rcases new (M a') hM hl with o | o
          · exact absurd (k2 M N hm a' ha' hM o) (fun w => q (by rw [w]; exact hM))
          · exact o
        have eNb : N b = a' := by rw [← eMb]; exact (m1 a' ha' hM).1
        by_cases t : gs_tk A s.2.1 a' b = true
        · rw [gs_mt_at t]; exact eMb.symm
        · exfalso
          have t2 := gs_tk_n t
          obtain ⟨o1, o2⟩ := wv_0 (W := A) (M := s.2.1) (a := b) (by omega)
          have o3 := k0.2.1 b hb o1
          have o4 : s.2.1 b ≠ a' := fun w => q (by rw [← w, o3]; exact hb)
          have o5 : A b a' ≠ A b (s.2.1 b) := fun w => o4 (hjA b a' (s.2.1 b) hb ha' o1 hba w).symm
          have o6 : 0 < W (s.2.1 b) b := (hs _ b o1 hb).mpr (by omega)
          have o7 := m3 (s.2.1 b) b o1 hb
          have o8 : wv A N b = A b a' := by rw [wv_y (by rw [eNb]; exact ha'), eNb]
          have o9 : W (s.2.1 b) b ≤ wv W M (s.2.1 b) := by
            by_cases w : W (s.2.1 b) b ≤ wv W M (s.2.1 b)
            · exact w
            · exact absurd ⟨by omega, by omega⟩ o7
          obtain ⟨p1, p2⟩ := wv_0 (W := W) (M := M) (a := s.2.1 b) (by omega)
          have p3 := (k0.1 (s.2.1 b) o1 (by rw [o3]; exact hb)).1
          rw [o3] at p3
          have p4 := k2 M N hm (s.2.1 b) o1 p1 (by omega)
          rw [o3] at p4
          have p5 := (m1 (s.2.1 b) o1 p1).1
          rw [← p4, eNb] at p5
          exact o4 p5.symm
      · rw [updN_n y] at hl
        have ih := k2 M N hm a' ha' hM hl
        rw [gs_mt_ne y (fun t w w8 => ?_)]
        · exact ih
        · have t2 := gs_tk_y t
          have o3 := k0.2.1 b hb w8
          rw [w] at o3
          have eMb : M a' = b := by rw [← ih, o3]
          have eNb : N b = a' := by rw [← eMb]; exact (m1 a' ha' hM).1
          have o8 : wv A N b = A b a' := by rw [wv_y (by rw [eNb]; exact ha'), eNb]
          have o9 : wv A s.2.1 b = A b a' := by rw [wv_y w8, w]
          have o7 := m3 a b ha hb
          have p0 : W a b ≤ wv W M a := by
            by_cases w : W a b ≤ wv W M a
            · exact w
            · exact absurd ⟨by omega, by omega⟩ o7
          obtain ⟨p1, p2⟩ := wv_0 (W := W) (M := M) (a := a) (by omega)
          rcases new (M a) p1 (by omega) with o | o
          · exact q (by rw [k2 M N hm a ha p1 o]; exact p1)
          · have p5 := (m1 a ha p1).1
            rw [o, eNb] at p5
            exact y p5
  · rw [if_neg z]
    obtain ⟨e1, e2⟩ := n2.resolve_right (fun y => by omega)
    rw [e2]
    rw [e2] at n1
    refine ⟨fun a' b' ha' hb' h0 hl => ?_, fun M N hm a' ha' hM hl => ?_⟩
    · dsimp only at hl ⊢
      by_cases y : a' = a
      · subst y
        refine k1 a' b' ha' hb' h0 ?_
        by_cases w : s.2.2 a' ≤ W a' b'
        · exact w
        · have := n1 b' hb' (by omega); omega
      · rw [updN_n y] at hl; exact k1 a' b' ha' hb' h0 hl
    · dsimp only at hl ⊢
      by_cases y : a' = a
      · subst y
        refine k2 M N hm a' ha' hM ?_
        by_cases w : s.2.2 a' ≤ W a' (M a')
        · exact w
        · have := n1 (M a') hM (by omega)
          have := (hm.1.1 a' ha' hM).2; omega
      · rw [updN_n y] at hl; exact k2 M N hm a' ha' hM hl
theorem gs_iv_rd {W A : Nat → Nat → Nat} {s : gsS} {n : Nat} (hj : gs_inj W) (hjA : gs_inj A) (hs : mm_sy W A) (hn : n ≤ 8) (h : gs_iv W A s) : gs_iv W A (gs_rd W A s n) := by
  induction n with
  | zero => exact h
  | succ n ih => rw [gs_rd_s]; exact gs_iv_turn hj hjA hs (by omega) (ih (by omega))
theorem gs_iv_it {W A : Nat → Nat → Nat} (hj : gs_inj W) (hjA : gs_inj A) (hs : mm_sy W A) (hW : ∀ a b, a < 8 → b < 8 → W a b < 1000) (k : Nat) : gs_iv W A (gs_it W A k).1 := by
  induction k with
  | zero => exact gs_iv_0 hW
  | succ k ih =>
    rw [gs_it_s]
    by_cases q : (gs_it W A k).2 = true
    · rw [if_pos q]
      dsimp only
      exact gs_iv_rd (W := W) (A := A) (s := (gs_it W A k).1) (n := 8) hj hjA hs (Nat.le_refl 8) ih
    · rw [if_neg q]; exact ih
/-- who is free at the end asked all -/
theorem gs_rd_end {W A : Nat → Nat → Nat} {s : gsS} {n : Nat} (hn : n ≤ 8) (h : gs_fl W A s n = false) : ∀ a, a < n → ¬ s.1 a < 8 → (gs_rd W A s n).2.2 a = 0 := by
  induction n with
  | zero => exact fun a ha => absurd ha (by omega)
  | succ n ih =>
    rw [gs_fl_s, Bool.or_eq_false_iff] at h
    intro a ha hf
    rw [gs_rd_s]
    obtain ⟨n1, n2⟩ := gs_nw_is W ((gs_rd W A s n).2.2 n) n
    have e1 := (gs_rd_same h.1).1
    by_cases y : a = n
    · subst y
      have h2 := h.2
      unfold gs_ak at h2
      rw [e1, decide_eq_true (show 8 ≤ s.1 a by omega), Bool.true_and, decide_eq_false_iff_not] at h2
      unfold gs_turn
      rw [if_neg (by rw [e1]; exact hf), if_neg h2]
      dsimp only
      rw [updN_e]
      exact (n2.resolve_right (fun w => by omega)).2
    · have ih2 := ih (by omega) h.1 a (by omega) hf
      unfold gs_turn
      split
      · exact ih2
      · split
        · dsimp only; rw [updN_n y]; exact ih2
        · dsimp only; rw [updN_n y]; exact ih2
theorem gs_it_end {W A : Nat → Nat → Nat} {k : Nat} (h : (gs_it W A k).2 = false) : ∀ a, a < 8 → ¬ (gs_it W A k).1.1 a < 8 → (gs_it W A k).1.2.2 a = 0 := by
  induction k with
  | zero => exact absurd (show true = false from h) (by decide)
  | succ k ih =>
    rw [gs_it_s] at h ⊢
    by_cases q : (gs_it W A k).2 = true
    · rw [if_pos q] at h ⊢
      dsimp only at h ⊢
      intro a ha hf
      rw [(gs_rd_same h).1] at hf
      exact gs_rd_end (Nat.le_refl 8) h a ha hf
    · rw [if_neg q] at h ⊢
      exact ih h
/-- the asking ends with pairs so that no two would rather, and those who ask have it best -/
theorem gs_thm {W A : Nat → Nat → Nat} (hj : gs_inj W) (hjA : gs_inj A) (hs : mm_sy W A) (hW : ∀ a b, a < 8 → b < 8 → W a b < 1000) : mm_st W A (gs_E W A).1 (gs_E W A).2.1 ∧ ∀ M N, mm_st W A M N → ∀ a, a < 8 → wv W M a ≤ wv W (gs_E W A).1 a := by
  have hf : (gs_it W A 65).2 = false := by
    cases e : (gs_it W A 65).2
    · rfl
    · have h1 := gs_it_c W A 65 e
      have h2 := gs_c_le W (gs_it W A 65).1.2.2
      omega
  obtain ⟨p1, p2⟩ := gs_E_fin hf
  obtain ⟨i0, i1, i2⟩ := gs_iv_it hj hjA hs hW 65
  have i3 := gs_it_end hf
  rw [← p1, ← p2]
  obtain ⟨s, es⟩ : ∃ s, s = (gs_it W A 65).1 := ⟨_, rfl⟩
  rw [← es] at i0 i1 i2 i3 ⊢
  clear es p1 p2 hf
  have lv : ∀ a b, a < 8 → wv W s.1 a < W a b → s.2.2 a ≤ W a b := fun a b ha h => by
    by_cases q : s.1 a < 8
    · have := (i0.1 a ha q).1
      rw [wv_y q] at h; omega
    · rw [i3 a ha q]; omega
  refine ⟨⟨⟨fun a ha hM => ⟨(i0.1 a ha hM).2.2, (i0.1 a ha hM).2.1⟩, fun b hb hN => i0.2.1 b hb hN⟩, fun a b ha hb z => ?_⟩, fun M N hm a ha => ?_⟩
  · have := i1 a b ha hb (by omega) (lv a b ha z.1)
    omega
  · by_cases q : M a < 8
    · rw [wv_y q]
      by_cases y : W a (M a) ≤ wv W s.1 a
      · exact y
      · have := i2 M N hm a ha q (lv a (M a) ha (by omega))
        exfalso; apply y
        unfold wv; rw [this, if_pos q]; exact Nat.le_refl _
    · unfold wv; rw [if_neg q]; exact Nat.zero_le _
/-- those who are asked have it worst -/
theorem mm_pess {W A : Nat → Nat → Nat} {M0 N0 : Nat → Nat} (hjA : gs_inj A) (hs : mm_sy W A) (h0 : mm_st A W N0 M0) (ho : ∀ N M, mm_st A W N M → ∀ b, b < 8 → wv A N b ≤ wv A N0 b) {M N : Nat → Nat} (hm : mm_st W A M N) {a : Nat} (ha : a < 8) : wv W M0 a ≤ wv W M a := by
  by_cases q : wv W M0 a ≤ wv W M a
  · exact q
  exfalso
  obtain ⟨p1, p2⟩ := wv_0 (W := W) (M := M0) (a := a) (by omega)
  obtain ⟨⟨m1, m2⟩, m3⟩ := id hm
  have h0s := h0.symm hs.symm
  have e1 := (h0s.1.1 a ha p1).1
  have w0 := (h0s.1.1 a ha p1).2
  have e2 := m3 a (M0 a) ha p1
  have e3 : A (M0 a) a ≤ wv A N (M0 a) := by
    by_cases y : A (M0 a) a ≤ wv A N (M0 a)
    · exact y
    · exact absurd ⟨by omega, by omega⟩ e2
  have e4 := ho N M (hm.symm hs) (M0 a) p1
  have e5 : wv A N0 (M0 a) = A (M0 a) a := by rw [wv_y (by rw [e1]; exact ha), e1]
  have e6 : 0 < A (M0 a) a := (hs a (M0 a) ha p1).mp w0
  obtain ⟨o1, o2⟩ := wv_0 (W := A) (M := N) (a := M0 a) (by omega)
  have o3 := hjA (M0 a) a (N (M0 a)) p1 ha o1 e6 (by omega)
  have o4 := m2 (M0 a) p1 o1
  rw [← o3] at o4
  apply q
  unfold wv; rw [o4]; exact Nat.le_refl _
/-- as many of one side as of the other -/
theorem mm_ctn {W : Nat → Nat → Nat} {M N : Nat → Nat} (h : mm_ok W M N) : ∀ n, n ≤ 8 → fb_ct (fun a => decide (M a < 8)) n = fb_ct (fun b => decide (N b < n)) 8
  | 0, _ => (fb_ct_zero.mpr (fun k _ => decide_eq_false (by omega))).symm
  | n + 1, hn => by
    have ih := mm_ctn h n (by omega)
    rw [fb_ct_succ, ih]
    by_cases q : M n < 8
    · have e := (h.1 n (by omega) q).1
      have u := fb_ct_upd (fun b => decide (N b < n)) true (i := M n) (n := 8) q
      rw [decide_eq_false (show ¬ N (M n) < n by omega)] at u
      have c : fb_ct (fun b => decide (N b < n + 1)) 8 = fb_ct (fun k => if k = M n then true else decide (N k < n)) 8 := fb_ct_cong (fun k hk => by
        by_cases z : k = M n
        · rw [if_pos z, z]; exact decide_eq_true (by omega)
        · rw [if_neg z]
          have : N k ≠ n := fun w => z (by have := h.2 k hk (by omega); rw [w] at this; exact this.symm)
          exact decide_eq_decide.mpr (by omega))
      rw [c]
      simp only [decide_eq_true q, if_true, Bool.false_eq_true, if_false] at u ⊢
      omega
    · have c : fb_ct (fun b => decide (N b < n + 1)) 8 = fb_ct (fun k => decide (N k < n)) 8 := fb_ct_cong (fun k hk => by
        have : N k ≠ n := fun w => q (by have := h.2 k hk (by omega); rw [w] at this; omega)
        exact decide_eq_decide.mpr (by omega))
      rw [c, decide_eq_false q]; simp
theorem fb_ct_eqv {p q : Nat → Bool} {n : Nat} (h : ∀ k, k < n → p k = true → q k = true) (e : fb_ct q n ≤ fb_ct p n) : ∀ k, k < n → q k = true → p k = true := fun k hk hq => by
  cases z : p k
  · exfalso
    have u := fb_ct_upd p true (i := k) (n := n) hk
    have s := fb_ct_sub (p := fun i => if i = k then true else p i) (q := q) (n := n) (fun i hi w => by
      by_cases y : i = k
      · rw [y]; exact hq
      · rw [if_neg y] at w; exact h i hi w)
    rw [z] at u
    simp only [if_true, Bool.false_eq_true, if_false] at u
    omega
  · rfl
/-- in all such pairs the same ones have somebody -/
theorem mm_same {W A : Nat → Nat → Nat} {M0 N0 M N : Nat → Nat} (hjW : gs_inj W) (hs : mm_sy W A) (h0 : mm_st W A M0 N0) (ho : ∀ M N, mm_st W A M N → ∀ a, a < 8 → wv W M a ≤ wv W M0 a) (hm : mm_st W A M N) : (∀ a, a < 8 → (M a < 8 ↔ M0 a < 8)) ∧ ∀ b, b < 8 → (N b < 8 ↔ N0 b < 8) := by
  have a1 : ∀ a, a < 8 → M a < 8 → M0 a < 8 := fun a ha h => by
    have := ho M N hm a ha
    rw [wv_y h] at this
    exact (wv_0 (W := W) (M := M0) (a := a) (by have := (hm.1.1 a ha h).2; omega)).1
  have b1 : ∀ b, b < 8 → N0 b < 8 → N b < 8 := fun b hb h => by
    have := mm_pess (W := A) (A := W) (M0 := N0) (N0 := M0) hjW hs.symm h0 ho (hm.symm hs) hb
    rw [wv_y h] at this
    exact (wv_0 (W := A) (M := N) (a := b) (by have := ((h0.symm hs).1.1 b hb h).2; omega)).1
  have c0 := mm_ctn h0.1 8 (Nat.le_refl 8)
  have cm := mm_ctn hm.1 8 (Nat.le_refl 8)
  have ca := fb_ct_sub (p := fun a => decide (M a < 8)) (q := fun a => decide (M0 a < 8)) (n := 8) (fun k hk w => decide_eq_true (a1 k hk (of_decide_eq_true w)))
  have cb := fb_ct_sub (p := fun a => decide (N0 a < 8)) (q := fun a => decide (N a < 8)) (n := 8) (fun k hk w => decide_eq_true (b1 k hk (of_decide_eq_true w)))
  refine ⟨fun a ha => ⟨a1 a ha, fun h => ?_⟩, fun b hb => ⟨fun h => ?_, b1 b hb⟩⟩
  · exact of_decide_eq_true (fb_ct_eqv (p := fun a => decide (M a < 8)) (q := fun a => decide (M0 a < 8)) (n := 8) (fun k hk w => decide_eq_true (a1 k hk (of_decide_eq_true w))) (by omega) a ha (decide_eq_true h))
  · exact of_decide_eq_true (fb_ct_eqv (p := fun a => decide (N0 a < 8)) (q := fun a => decide (N a < 8)) (n := 8) (fun k hk w => decide_eq_true (b1 k hk (of_decide_eq_true w))) (by omega) b hb (decide_eq_true h))
