/-! HOW MANY SUCH WAYS -/
theorem rvQ_ct (W L : Nat → Nat → Nat) (M N : Nat → Nat) (h k s : Nat) : vs_rvQ W L M N h k s = s + fb_ct (fun g => vs_wb W L h g (M h) (N g)) k := by
  induction k with
  | zero => rfl
  | succ k ih =>
    have e : vs_rvQ W L M N h (k + 1) s = if vs_wb W L h k (M h) (N k) = true then vs_rvQ W L M N h k s + 1 else vs_rvQ W L M N h k s := rfl
    rw [e, ih, fb_ct_succ]
    split <;> omega
theorem rvP_sm (W L : Nat → Nat → Nat) (M N : Nat → Nat) (G k : Nat) : vs_rvP W L M N G k = fb_sm (fun h => fb_ct (fun g => vs_wb W L h g (M h) (N g)) G) k := by
  induction k with
  | zero => rfl
  | succ k ih =>
    have e : vs_rvP W L M N G (k + 1) = vs_rvQ W L M N k G (vs_rvP W L M N G k) := rfl
    rw [e, rvQ_ct, ih, fb_sm_succ]
theorem rvP_0 {W L : Nat → Nat → Nat} {M N : Nat → Nat} {G H : Nat} (h : vs_rvP W L M N G H = 0) {a b : Nat} (ha : a < H) (hb : b < G) : vs_wb W L a b (M a) (N b) = false := by
  rw [rvP_sm] at h
  exact fb_ct_zero.mp (fb_sm_zero h a ha) b hb
/-- told of all hosts: each pair may be, none is told twice, no two would rather -/
abbrev gd_p (W L : Nat → Nat → Nat) (G H : Nat) (M : Nat → Nat) : Prop := (∀ h, h < H → M h < 8 → 0 < W h (M h)) ∧ (∀ h, h < H → ∀ k, k < H → M h < 8 → M h = M k → h = k) ∧ vs_rvP W L M (vs_ho M H) G H = 0
def wy_T (W L : Nat → Nat → Nat) (G H : Nat) (Hs : Nat → Bool) : Nat → (Nat → Nat) → Nat
  | 0, M => if gd_p W L G H M then 1 else 0
  | k + 1, M => if Hs (H - (k + 1)) = true then fb_sm (fun g => wy_T W L G H Hs k (updN M (H - (k + 1)) g)) 8 else wy_T W L G H Hs k (updN M (H - (k + 1)) 8)
theorem fb_sm_0 {f : Nat → Nat} {n : Nat} (h : ∀ k, k < n → f k = 0) : fb_sm f n = 0 := by
  induction n with
  | zero => rfl
  | succ n ih => rw [fb_sm_succ, ih (fun k hk => h k (by omega)), h n (by omega)]
/-- none, if no way goes on from here -/
theorem wy_none {W L : Nat → Nat → Nat} {G H : Nat} {Hs : Nat → Bool} : ∀ k, k ≤ H → ∀ M, (∀ M', (∀ j, j < H - k → M' j = M j) → ¬ gd_p W L G H M') → wy_T W L G H Hs k M = 0
  | 0, _, M, h => if_neg (h M (fun _ _ => rfl))
  | k + 1, hk, M, h => by
    have go : ∀ g, wy_T W L G H Hs k (updN M (H - (k + 1)) g) = 0 := fun g => wy_none k (by omega) _ (fun M' e => h M' (fun j hj => by rw [e j (by omega), updN_n (by omega)]))
    show (if Hs (H - (k + 1)) = true then _ else _) = 0
    split
    · exact fb_sm_0 (fun g _ => go g)
    · exact go 8
theorem vs_ho_at {M : Nat → Nat} {n h g : Nat} (hn : n ≤ 8) (hh : h < n) (hM : M h = g) (hi : ∀ k, k < n → M k = g → k = h) : vs_ho M n g = h := by
  induction n with
  | zero => omega
  | succ n ih =>
    rw [vs_ho_s]
    by_cases e : M n = g
    · rw [if_pos e]; exact hi n (by omega) e
    · rw [if_neg e]
      have : h ≠ n := fun z => e (by rw [← z]; exact hM)
      exact ih (by omega) (by omega) (fun k hk => hi k (by omega))
/-- the two ends of what can be -/
def wy_env (W L : Nat → Nat → Nat) (H G : Nat) (B Wt N0 : Nat → Nat) : Prop := mm_sy W L ∧ gs_inj W ∧ gs_inj L ∧ (∀ h g, 0 < W h g → h < H ∧ g < G) ∧ (H ≤ 8 ∧ G ≤ 8) ∧ mm_st W L B N0 ∧ (∀ M N, mm_st W L M N → ∀ a, a < 8 → wv W M a ≤ wv W B a) ∧ (∃ Nt, mm_st W L Wt Nt) ∧ ∀ M N, mm_st W L M N → ∀ a, a < 8 → wv W Wt a ≤ wv W M a
theorem wy_env_of {W L : Nat → Nat → Nat} {H G : Nat} (hs : mm_sy W L) (hj : gs_inj W) (hjL : gs_inj L) (hz : ∀ h g, 0 < W h g → h < H ∧ g < G) (hH : H ≤ 8) (hG : G ≤ 8) (h1 : ∀ a b, a < 8 → b < 8 → W a b < 1000) (h2 : ∀ a b, a < 8 → b < 8 → L a b < 1000) : wy_env W L H G (gs_E W L).1 (gs_E L W).2.1 (gs_E W L).2.1 := by
  obtain ⟨a1, a2⟩ := gs_thm hj hjL hs h1
  obtain ⟨b1, b2⟩ := gs_thm hjL hj hs.symm h2
  exact ⟨hs, hj, hjL, hz, ⟨hH, hG⟩, a1, a2, ⟨_, b1.symm hs.symm⟩, fun M N hm a ha => mm_pess hjL hs b1 b2 hm ha⟩
def cutM (H : Nat) (M : Nat → Nat) : Nat → Nat := fun a => if a < H then M a else 8
theorem cutM_lt {H a : Nat} {M : Nat → Nat} (h : a < H) : cutM H M a = M a := if_pos h
theorem cutM_ge {H a : Nat} {M : Nat → Nat} (h : ¬ a < H) : cutM H M a = 8 := if_neg h
theorem wv_cut {W : Nat → Nat → Nat} {H a : Nat} {M : Nat → Nat} (h : a < H) : wv W (cutM H M) a = wv W M a := by unfold wv; rw [cutM_lt h]
theorem gd_st {W L : Nat → Nat → Nat} {H G : Nat} {B Wt N0 M : Nat → Nat} (he : wy_env W L H G B Wt N0) (h : gd_p W L G H M) : mm_st W L (cutM H M) (vs_ho M H) := by
  obtain ⟨hs, hj, hjL, hz, ⟨hH, hG⟩, -⟩ := he
  obtain ⟨g1, g2, g3⟩ := h
  refine ⟨⟨fun a ha hM => ?_, fun b hb hN => ?_⟩, fun a b ha hb z => ?_⟩
  · by_cases q : a < H
    · rw [cutM_lt q] at hM ⊢
      exact ⟨vs_ho_at hH q rfl (fun k hk e => (g2 a q k hk hM e.symm).symm), g1 a q hM⟩
    · rw [cutM_ge q] at hM; omega
  · obtain ⟨q1, q2⟩ := vs_ho_in hN
    rw [cutM_lt q1]; exact q2
  · obtain ⟨q1, q2⟩ := hz a b (by omega)
    have e := rvP_0 g3 q1 q2
    rw [wv_cut q1] at z
    unfold vs_wb at e
    have z1 : (if M a < 8 then W a (M a) else 0) < W a b := z.1
    rw [decide_eq_true z1, Bool.true_and, decide_eq_false_iff_not] at e
    exact e z.2
/-- such a way lies between the two ends, and the same ones have somebody -/
theorem gd_rng {W L : Nat → Nat → Nat} {H G : Nat} {B Wt N0 M : Nat → Nat} (he : wy_env W L H G B Wt N0) (h : gd_p W L G H M) {a : Nat} (ha : a < H) : (M a < 8 ↔ B a < 8) ∧ (M a < 8 → W a (Wt a) ≤ W a (M a) ∧ W a (M a) ≤ W a (B a) ∧ N0 (M a) < 8) := by
  have hst := gd_st he h
  obtain ⟨hs, hj, hjL, hz, ⟨hH, hG⟩, b1, b2, ⟨Nt, w1⟩, w2⟩ := he
  obtain ⟨s1, s2⟩ := mm_same hj hs b1 b2 hst
  obtain ⟨t1, t2⟩ := mm_same hj hs b1 b2 w1
  have e1 : wv W (cutM H M) a = wv W M a := wv_cut ha
  have i1 := s1 a (by omega)
  rw [cutM_lt ha] at i1
  refine ⟨i1, fun hM => ?_⟩
  have c1 := b2 _ _ hst a (by omega)
  have c2 := w2 _ _ hst a (by omega)
  rw [e1, wv_y hM] at c1 c2
  rw [wv_y (i1.mp hM)] at c1
  rw [wv_y ((t1 a (by omega)).mpr (i1.mp hM))] at c2
  refine ⟨c2, c1, ?_⟩
  have e2 : vs_ho M H (M a) = a := vs_ho_at hH ha rfl (fun k hk e => (h.2.1 a ha k hk hM e.symm).symm)
  exact (s2 (M a) hM).mp (by rw [e2]; omega)
theorem wy_Wt {W L : Nat → Nat → Nat} {H G : Nat} {B Wt N0 : Nat → Nat} (he : wy_env W L H G B Wt N0) {a : Nat} (ha : a < 8) (h : B a < 8) : Wt a < 8 ∧ 0 < W a (Wt a) := by
  obtain ⟨hs, hj, hjL, hz, ⟨hH, hG⟩, b1, b2, ⟨Nt, w1⟩, w2⟩ := he
  have t := ((mm_same hj hs b1 b2 w1).1 a ha).mpr h
  exact ⟨t, (w1.1.1 a ha t).2⟩
/-- what is told of the hosts ahead -/
def wy_pf (W : Nat → Nat → Nat) (h U : Nat) (M : Nat → Nat) : Prop := (∀ j, j < h → M j < 8 → 0 < W j (M j)) ∧ (∀ j, j < h → ∀ k, k < h → M j < 8 → M j = M k → j = k) ∧ U < 256 ∧ ∀ g, g < 8 → (U.testBit g = true ↔ ∃ j, j < h ∧ M j = g)
theorem wy_pf_8 {W : Nat → Nat → Nat} {h U : Nat} {M : Nat → Nat} (p : wy_pf W h U M) : wy_pf W (h + 1) U (updN M h 8) := by
  obtain ⟨p1, p2, p3, p4⟩ := p
  refine ⟨fun j hj hM => ?_, fun j hj k hk hM e => ?_, p3, fun g hg => ?_⟩
  · by_cases q : j = h
    · subst q; rw [updN_e] at hM; omega
    · rw [updN_n q] at hM ⊢; exact p1 j (by omega) hM
  · by_cases q : j = h
    · subst q; rw [updN_e] at hM; omega
    · rw [updN_n q] at hM e
      by_cases q2 : k = h
      · subst q2; rw [updN_e] at e; omega
      · rw [updN_n q2] at e; exact p2 j (by omega) k (by omega) hM e
  · rw [p4 g hg]
    refine ⟨fun ⟨j, hj, e⟩ => ⟨j, by omega, by rw [updN_n (by omega)]; exact e⟩, fun ⟨j, hj, e⟩ => ?_⟩
    by_cases q : j = h
    · subst q; rw [updN_e] at e; omega
    · rw [updN_n q] at e; exact ⟨j, by omega, e⟩
theorem wy_pf_g {W : Nat → Nat → Nat} {h U g : Nat} {M : Nat → Nat} (p : wy_pf W h U M) (hg : g < 8) (hw : 0 < W h g) (hu : U.testBit g = false) : wy_pf W (h + 1) (bset U g) (updN M h g) := by
  obtain ⟨p1, p2, p3, p4⟩ := p
  have hno : ∀ j, j < h → M j ≠ g := fun j hj e => by
    have := (p4 g hg).mpr ⟨j, hj, e⟩
    rw [hu] at this; cases this
  refine ⟨fun j hj hM => ?_, fun j hj k hk hM e => ?_, bset_256 U p3 g hg, fun b hb => ?_⟩
  · by_cases q : j = h
    · subst q; rw [updN_e]; exact hw
    · rw [updN_n q] at hM ⊢; exact p1 j (by omega) hM
  · by_cases q : j = h
    · subst q
      rw [updN_e] at e
      by_cases q2 : k = j
      · exact q2.symm
      · rw [updN_n q2] at e; exact absurd e.symm (hno k (by omega))
    · rw [updN_n q] at hM e
      by_cases q2 : k = h
      · subst q2; rw [updN_e] at e; exact absurd e (hno j (by omega))
      · rw [updN_n q2] at e; exact p2 j (by omega) k (by omega) hM e
  · rw [bset_tb, Bool.or_eq_true, decide_eq_true_iff, p4 b hb]
    constructor
    · rintro (⟨j, hj, e⟩ | e)
      · exact ⟨j, by omega, by rw [updN_n (by omega)]; exact e⟩
      · exact ⟨h, by omega, by rw [updN_e]; exact e.symm⟩
    · rintro ⟨j, hj, e⟩
      by_cases q : j = h
      · subst q; rw [updN_e] at e; exact Or.inr e.symm
      · rw [updN_n q] at e; exact Or.inl ⟨j, by omega, e⟩
theorem wy_leaf {W L : Nat → Nat → Nat} {G H U : Nat} {Hs : Nat → Bool} {M : Nat → Nat} (p : wy_pf W H U M) : wy_T W L G H Hs 0 M = if vs_rvP W L M (vs_ho M H) G H = 0 then 1 else 0 := by
  show (if gd_p W L G H M then 1 else 0) = _
  by_cases q : vs_rvP W L M (vs_ho M H) G H = 0
  · rw [if_pos q, if_pos ⟨p.1, p.2.1, q⟩]
  · rw [if_neg q, if_neg (fun z => q z.2.2)]
/-- not between the two ends, or had already: no way -/
def wy_may (W : Nat → Nat → Nat) (B Wt : Nat → Nat) (U h g : Nat) : Bool := decide (W h (Wt h) ≤ W h g) && (decide (W h g ≤ W h (B h)) && !(U.testBit g))
theorem wy_cut {W L : Nat → Nat → Nat} {G H U k g : Nat} {Hs : Nat → Bool} {B Wt N0 M : Nat → Nat} (he : wy_env W L H G B Wt N0) (hk : k < H) (p : wy_pf W (H - (k + 1)) U M) (hg : g < 8) (h : wy_may W B Wt U (H - (k + 1)) g = false) : wy_T W L G H Hs k (updN M (H - (k + 1)) g) = 0 := by
  refine wy_none k (by omega) _ (fun M' e hd => ?_)
  have e1 : M' (H - (k + 1)) = g := by rw [e _ (by omega), updN_e]
  obtain ⟨r1, r2⟩ := gd_rng he hd (a := H - (k + 1)) (by omega)
  obtain ⟨r3, r4, -⟩ := r2 (by omega)
  rw [e1] at r3 r4
  unfold wy_may at h
  rw [decide_eq_true r3, decide_eq_true r4, Bool.true_and, Bool.true_and] at h
  cases q : U.testBit g
  · rw [q] at h; cases h
  · obtain ⟨j, hj, e2⟩ := (p.2.2.2 g hg).mp q
    have e3 : M' j = g := by rw [e j (by omega), updN_n (by omega)]; exact e2
    have := hd.2.1 j (by omega) (H - (k + 1)) (by omega) (by omega) (by rw [e3, e1])
    omega
/-- not calm so far: no way -/
def wy_calm (W L : Nat → Nat → Nat) (M : Nat → Nat) (h g j : Nat) : Bool := decide (g < 8 ∧ M j < 8) && (vs_wb W L h (M j) g j || vs_wb W L j g (M j) h)
theorem wy_loud {W L : Nat → Nat → Nat} {G H U k g j : Nat} {Hs : Nat → Bool} {B Wt N0 M : Nat → Nat} (he : wy_env W L H G B Wt N0) (hk : k < H) (p : wy_pf W (H - (k + 1)) U M) (hj : j < H - (k + 1)) (h : wy_calm W L M (H - (k + 1)) g j = true) : wy_T W L G H Hs k (updN M (H - (k + 1)) g) = 0 := by
  refine wy_none k (by omega) _ (fun M' e hd => ?_)
  have e1 : M' (H - (k + 1)) = g := by rw [e _ (by omega), updN_e]
  have e2 : M' j = M j := by rw [e j (by omega), updN_n (by omega)]
  unfold wy_calm at h
  rw [Bool.and_eq_true, decide_eq_true_iff, Bool.or_eq_true] at h
  obtain ⟨⟨g8, m8⟩, h⟩ := h
  have hst := gd_st he hd
  have hH := he.2.2.2.2.1.1
  have s3 := hst.2
  have n1 : vs_ho M' H (M j) = j := vs_ho_at hH (by omega) e2 (fun a ha ea => (hd.2.1 j (by omega) a ha (by omega) (by rw [e2, ea])).symm)
  have n2 : vs_ho M' H g = H - (k + 1) := vs_ho_at hH (by omega) e1 (fun a ha ea => (hd.2.1 (H - (k + 1)) (by omega) a ha (by omega) (by rw [e1, ea])).symm)
  rcases h with h | h
  · unfold vs_wb at h
    rw [Bool.and_eq_true, decide_eq_true_iff, decide_eq_true_iff] at h
    refine s3 (H - (k + 1)) (M j) (by omega) m8 ⟨?_, ?_⟩
    · rw [wv_cut (by omega)]; unfold wv; rw [e1]; exact h.1
    · unfold wv; rw [n1]; exact h.2
  · unfold vs_wb at h
    rw [Bool.and_eq_true, decide_eq_true_iff, decide_eq_true_iff] at h
    refine s3 j g (by omega) g8 ⟨?_, ?_⟩
    · rw [wv_cut (by omega)]; unfold wv; rw [e2]; exact h.1
    · unfold wv; rw [n2]; exact h.2
theorem wy_far {W L : Nat → Nat → Nat} {G H k g : Nat} {Hs : Nat → Bool} {B Wt N0 M : Nat → Nat} (he : wy_env W L H G B Wt N0) (hk : k < H) (hg8 : g < 8) (hg : G ≤ g) : wy_T W L G H Hs k (updN M (H - (k + 1)) g) = 0 := by
  refine wy_none k (by omega) _ (fun M' e hd => ?_)
  have e1 : M' (H - (k + 1)) = g := by rw [e _ (by omega), updN_e]
  have := hd.1 (H - (k + 1)) (by omega) (by omega)
  have := (he.2.2.2.1 _ _ this).2
  omega
/-- what the class adds up: none, then one guest after the other -/
def wy_cs (W L : Nat → Nat → Nat) (G H : Nat) (Hs : Nat → Bool) (k : Nat) (M : Nat → Nat) : Nat → Nat
  | 0 => 0
  | 1 => if Hs (H - (k + 1)) = true then 0 else wy_T W L G H Hs k (updN M (H - (k + 1)) 8)
  | i + 2 => wy_cs W L G H Hs k M (i + 1) + if Hs (H - (k + 1)) = true then wy_T W L G H Hs k (updN M (H - (k + 1)) i) else 0
theorem wy_cs_sm {W L : Nat → Nat → Nat} {G H k : Nat} {Hs : Nat → Bool} {M : Nat → Nat} (n : Nat) : wy_cs W L G H Hs k M (n + 1) = if Hs (H - (k + 1)) = true then fb_sm (fun g => wy_T W L G H Hs k (updN M (H - (k + 1)) g)) n else wy_T W L G H Hs k (updN M (H - (k + 1)) 8) := by
  induction n with
  | zero => rfl
  | succ n ih =>
    show wy_cs W L G H Hs k M (n + 1) + _ = _
    rw [ih]
    split <;> rfl
theorem wy_cs_end {W L : Nat → Nat → Nat} {G H k : Nat} {Hs : Nat → Bool} {B Wt N0 M : Nat → Nat} (he : wy_env W L H G B Wt N0) (hk : k < H) : wy_cs W L G H Hs k M (G + 1) = wy_T W L G H Hs (k + 1) M := by
  rw [wy_cs_sm]
  show _ = if Hs (H - (k + 1)) = true then fb_sm (fun g => wy_T W L G H Hs k (updN M (H - (k + 1)) g)) 8 else wy_T W L G H Hs k (updN M (H - (k + 1)) 8)
  split
  · have hG := he.2.2.2.2.1.2
    have e := fb_sm_split (fun g => wy_T W L G H Hs k (updN M (H - (k + 1)) g)) G (8 - G)
    rw [show G + (8 - G) = 8 by omega] at e
    rw [e, fb_sm_0 (n := 8 - G) (fun i hi => wy_far he hk (by omega) (by omega))]; rfl
  · rfl
