/-! ROW -/
def SG (m : Nat → Int32) (g : Nat) : Nat := (m (43 + 3 * g + 0)).toNatClampNeg
def sy_ok (m : Nat → Int32) (G : Nat) : Prop := ∀ g, g < G → ∃ s, 1 ≤ s ∧ s ≤ 4 ∧ m (43 + 3 * g + 0) = nI s
theorem sy_ok.s {m : Nat → Int32} {G : Nat} (h : sy_ok m G) {g : Nat} (hg : g < G) : 1 ≤ SG m g ∧ SG m g ≤ 4 ∧ m (43 + 3 * g + 0) = nI (SG m g) := by
  obtain ⟨s, h1, h2, e⟩ := h g hg
  unfold SG
  rw [e, nI_clamp (by omega)]
  exact ⟨h1, h2, rfl⟩
/-- the hours of both -/
def HB (m : Nat → Int32) (h g : Nat) : Int32 := m (11 + 4 * h + 1) &&& m (43 + 3 * g + 1)
/-- g can be with h from q on for its stay -/
def vs_ft (m : Nat → Int32) (h g q : Nat) : Bool := vs_may m h g && (decide (q + SG m g ≤ 8) && !(vs_any (fun i => !bt (HB m h g) (q + i)) (SG m g)))
theorem vs_ft8 {m : Nat → Int32} {h g q : Nat} (hf : vs_ft m h g q = true) : q + SG m g ≤ 8 := by
  unfold vs_ft at hf
  rw [Bool.and_eq_true, Bool.and_eq_true, decide_eq_true_eq] at hf
  exact hf.2.1
/-- an end, 9: none -/
def ev (u : Nat) : Int32 := if u < 9 then nI u else -1
theorem ev_lt {u : Nat} (h : u < 9) : ev u = nI u := if_pos h
theorem ev_ge {u : Nat} (h : ¬ u < 9) : ev u = -1 := if_neg h
theorem ev_n {u : Nat} (h : ¬ ev u = -1) : u < 9 := Decidable.byContradiction (fun z => h (ev_ge z))
theorem ev_e {u : Nat} (h : ev u = -1) : ¬ u < 9 := fun z => nI_m1c (u := u) (by omega) (by rw [← ev_lt z]; exact h)
def vs_en (m : Nat → Int32) (h g b : Nat) : Nat := if op_1st (fun i => vs_ft m h g (b + i)) (8 - b) < 8 - b then b + op_1st (fun i => vs_ft m h g (b + i)) (8 - b) + SG m g else 9
theorem vs_en_t {m : Nat → Int32} {h g b i : Nat} (hi : b + i < 8) (hf : vs_ft m h g (b + i) = true) (h0 : ∀ j, j < i → vs_ft m h g (b + j) = false) : vs_en m h g b = b + i + SG m g := by
  have e : op_1st (fun i => vs_ft m h g (b + i)) (8 - b) = i := op_1st_eq (by omega) hf h0
  unfold vs_en
  rw [e, if_pos (by omega)]
theorem vs_en_f {m : Nat → Int32} {h g b : Nat} (h0 : ∀ j, b + j < 8 → vs_ft m h g (b + j) = false) : vs_en m h g b = 9 := by
  have e : op_1st (fun i => vs_ft m h g (b + i)) (8 - b) = 8 - b := op_1st_none (fun j hj => h0 j (by omega))
  unfold vs_en
  rw [e, if_neg (by omega)]
/-- the least end -/
theorem vs_en_le {m : Nat → Int32} {h g b q : Nat} (hb : b ≤ q) (hs : 1 ≤ SG m g) (hf : vs_ft m h g q = true) : vs_en m h g b ≤ q + SG m g := by
  have h8 := vs_ft8 hf
  obtain ⟨h1, h2, h3⟩ := op_1st_is (fun i => vs_ft m h g (b + i)) (8 - b)
  unfold vs_en
  rcases Nat.lt_or_ge (q - b) (op_1st (fun i => vs_ft m h g (b + i)) (8 - b)) with z | z
  · have := h2 (q - b) z
    rw [show b + (q - b) = q by omega] at this
    rw [hf] at this; cases this
  · rw [if_pos (by omega)]; omega
theorem vs_en_of {m : Nat → Int32} {h g b : Nat} (hb : b ≤ 8) (hlt : vs_en m h g b < 9) : ∃ q, b ≤ q ∧ q < 8 ∧ vs_ft m h g q = true ∧ vs_en m h g b = q + SG m g := by
  obtain ⟨h1, h2, h3⟩ := op_1st_is (fun i => vs_ft m h g (b + i)) (8 - b)
  unfold vs_en at hlt ⊢
  split at hlt
  · rename_i z
    rw [if_pos z]
    exact ⟨b + op_1st (fun i => vs_ft m h g (b + i)) (8 - b), by omega, by omega, h3 z, rfl⟩
  · omega
theorem bclr_lt {S g : Nat} (h : S.testBit g = true) : S - 2 ^ g < S := by
  have h1 : 2 ^ g ≤ S := Nat.ge_two_pow_of_testBit h
  have h2 : 0 < 2 ^ g := Nat.pow_pos (by omega)
  omega
/-- the earliest end of a set of guests, one behind another, with h; 9: none -/
def vs_E (m : Nat → Int32) (h G S : Nat) : Nat :=
  if S = 0 then 0 else vf G (fun g s => min s (if hb : S.testBit g = true then (if vs_E m h G (S - 2 ^ g) < 9 then vs_en m h g (vs_E m h G (S - 2 ^ g)) else 9) else 9)) 9
termination_by S
decreasing_by all_goals exact bclr_lt hb
/-- what one who comes last makes of it -/
def vs_cd (m : Nat → Int32) (h G S g : Nat) : Nat := if S.testBit g = true then (if vs_E m h G (S - 2 ^ g) < 9 then vs_en m h g (vs_E m h G (S - 2 ^ g)) else 9) else 9
def vs_EQ (m : Nat → Int32) (h G S n : Nat) : Nat := vf n (fun g s => min s (vs_cd m h G S g)) 9
theorem vs_E_eq (m : Nat → Int32) (h G S : Nat) : vs_E m h G S = if S = 0 then 0 else vs_EQ m h G S G := by
  rw [vs_E]
  by_cases e : S = 0
  · rw [if_pos e, if_pos e]
  · rw [if_neg e, if_neg e]
    refine vf_congr (fun g s _ => ?_)
    unfold vs_cd
    by_cases hb : S.testBit g = true
    · rw [dif_pos hb, if_pos hb]
    · rw [dif_neg hb, if_neg hb]
theorem vs_EQ_s (m : Nat → Int32) (h G S n : Nat) : vs_EQ m h G S (n + 1) = min (vs_EQ m h G S n) (vs_cd m h G S n) := rfl
theorem vs_EQ_le (m : Nat → Int32) (h G S : Nat) {g n : Nat} (hg : g < n) : vs_EQ m h G S n ≤ vs_cd m h G S g := by
  induction n with
  | zero => omega
  | succ n ih =>
    rw [vs_EQ_s]
    rcases Nat.lt_succ_iff_lt_or_eq.mp hg with e | rfl
    · have := ih e; omega
    · omega
theorem vs_EQ_9 (m : Nat → Int32) (h G S n : Nat) : vs_EQ m h G S n ≤ 9 := by
  induction n with
  | zero => exact Nat.le_refl _
  | succ n ih => rw [vs_EQ_s]; omega
theorem vs_EQ_of {m : Nat → Int32} {h G S n : Nat} (hlt : vs_EQ m h G S n < 9) : ∃ g, g < n ∧ vs_cd m h G S g = vs_EQ m h G S n := by
  induction n with
  | zero => exact absurd hlt (by show ¬ (9 : Nat) < 9; omega)
  | succ n ih =>
    rw [vs_EQ_s] at hlt ⊢
    by_cases q : vs_EQ m h G S n ≤ vs_cd m h G S n
    · rw [Nat.min_eq_left q] at hlt ⊢
      obtain ⟨g, hg, e⟩ := ih hlt
      exact ⟨g, by omega, e⟩
    · rw [Nat.min_eq_right (by omega)]
      exact ⟨n, by omega, rfl⟩
theorem vs_E_0 (m : Nat → Int32) (h G : Nat) : vs_E m h G 0 = 0 := by rw [vs_E_eq, if_pos rfl]
theorem vs_E_9 (m : Nat → Int32) (h G S : Nat) : vs_E m h G S ≤ 9 := by
  rw [vs_E_eq]; split; omega; exact vs_EQ_9 m h G S G
theorem bset_tb (S b i : Nat) : (bset S b).testBit i = (S.testBit i || decide (i = b)) := by
  unfold bset; rw [Nat.testBit_or, Nat.testBit_two_pow]
  congr 1
  by_cases e : b = i
  · simp [e]
  · simp [e, Ne.symm e]
theorem bset_clr : ∀ S, S < 256 → ∀ b, b < 8 → S.testBit b = false → bset S b - 2 ^ b = S := by decide +kernel
theorem bclr_set : ∀ S, S < 256 → ∀ b, b < 8 → S.testBit b = true → bset (S - 2 ^ b) b = S ∧ (S - 2 ^ b).testBit b = false := by decide +kernel
theorem bclr_tb {S b i : Nat} (hS : S < 256) (hb : b < 8) (h : S.testBit b = true) (hi : (S - 2 ^ b).testBit i = true) : S.testBit i = true := by
  obtain ⟨e, -⟩ := bclr_set S hS b hb h
  rw [← e, bset_tb, hi]; rfl
theorem bclr_nI : ∀ S, S < 256 → ∀ b, b < 8 → S.testBit b = true → nI S &&& (nI 1 <<< (nI b &&& 31) ^^^ -1) = nI (S - 2 ^ b) := by decide +kernel
/-- a step of the schedule -/
theorem vs_E_step {m : Nat → Int32} {h G S g q : Nat} (hS : S < 256) (hg : g < G) (hG : G ≤ 8) (hn : S.testBit g = false) (hE : vs_E m h G S ≤ q) (hs : 1 ≤ SG m g) (hf : vs_ft m h g q = true) : vs_E m h G (bset S g) ≤ q + SG m g := by
  have h8 := vs_ft8 hf
  have e0 : bset S g ≠ 0 := fun z => by
    have := bset_tb S g g
    rw [z, Nat.zero_testBit] at this
    simp at this
  rw [vs_E_eq, if_neg e0]
  refine Nat.le_trans (vs_EQ_le m h G _ hg) ?_
  unfold vs_cd
  rw [if_pos (by rw [bset_tb]; simp), bset_clr S hS g (by omega) hn, if_pos (by omega)]
  exact vs_en_le hE hs hf
theorem vs_E_back {m : Nat → Int32} {h G S : Nat} (hE : vs_E m h G S < 9) (h0 : S ≠ 0) : ∃ g q, g < G ∧ S.testBit g = true ∧ vs_E m h G (S - 2 ^ g) ≤ q ∧ q < 8 ∧ vs_ft m h g q = true ∧ vs_E m h G S = q + SG m g := by
  rw [vs_E_eq, if_neg h0] at hE ⊢
  obtain ⟨g, hg, e⟩ := vs_EQ_of hE
  rw [← e] at hE ⊢
  unfold vs_cd at hE ⊢
  by_cases hb : S.testBit g = true
  · rw [if_pos hb] at hE ⊢
    by_cases h9 : vs_E m h G (S - 2 ^ g) < 9
    · rw [if_pos h9] at hE ⊢
      obtain ⟨q, q1, q2, q3, q4⟩ := vs_en_of (by omega) hE
      exact ⟨g, q, hg, hb, q1, q2, q3, q4⟩
    · rw [if_neg h9] at hE; omega
  · rw [if_neg hb] at hE; omega
/-- S is of the guests that there are and that are told -/
def sb_ok (w : Int32) (G S : Nat) : Prop := ∀ i, S.testBit i = true → i < G ∧ bt w i = true
/-- the reference's row of reach, at cell a -/
def wr_snd (K : mx_I) (a : Nat) (m : Nat → Int32) (h G : Nat) (w : Int32) : Prop := (∀ q S, q ≤ 8 → S < 256 → K a (256 * q + S) = 0 ∨ K a (256 * q + S) = 1) ∧ K a 0 = 1 ∧ ∀ q S, q ≤ 8 → S < 256 → K a (256 * q + S) = 1 → sb_ok w G S ∧ vs_E m h G S ≤ q
def wr_src (K : mx_I) (a : Nat) (m : Nat → Int32) (h G : Nat) (w : Int32) (q S n : Nat) : Prop := K a (256 * q + S) = 1 → K a (256 * (q + 1) + S) = 1 ∧ ∀ g, g < n → S.testBit g = false → bt w g = true → vs_ft m h g q = true → K a (256 * (q + SG m g) + bset S g) = 1
def wr_inv (I K : mx_I) (a : Nat) (m : Nat → Int32) (h G : Nat) (w : Int32) (q s : Nat) : Prop := mx_off (fun c => c = a) I K ∧ wr_snd K a m h G w ∧ ∀ q' S, S < 256 → q' < 8 → (q' < q ∨ q' = q ∧ S < s) → wr_src K a m h G w q' S G
theorem sb_set {w : Int32} {G S g : Nat} (h : sb_ok w G S) (hg : g < G) (hw : bt w g = true) : sb_ok w G (bset S g) := fun i hi => by
  rw [bset_tb, Bool.or_eq_true, decide_eq_true_eq] at hi
  rcases hi with z | rfl
  · exact h i z
  · exact ⟨hg, hw⟩
/-- writing a reach that is one -/
theorem wr_put {K : mx_I} {a : Nat} {m : Nat → Int32} {h G : Nat} {w : Int32} {q' S' : Nat} (hs : wr_snd K a m h G w) (hq : q' ≤ 8) (hS : S' < 256) (h1 : sb_ok w G S') (h2 : vs_E m h G S' ≤ q') : wr_snd (mx_up K a (256 * q' + S') (nI 1)) a m h G w := by
  obtain ⟨e0, e1, e2⟩ := hs
  refine ⟨fun q S a1 a2 => ?_, ?_, fun q S a1 a2 hk => ?_⟩
  · by_cases e : 256 * q + S = 256 * q' + S'
    · exact Or.inr (by simp [mx_up, e]; rfl)
    · have := e0 q S a1 a2
      simpa [mx_up, e] using this
  · by_cases e : 0 = 256 * q' + S'
    · simp [mx_up, ← e]; rfl
    · simp [mx_up, e, e1]
  · by_cases e : q = q' ∧ S = S'
    · obtain ⟨rfl, rfl⟩ := e; exact ⟨h1, h2⟩
    · have : ¬ (256 * q + S = 256 * q' + S') := by omega
      refine e2 q S a1 a2 ?_
      simpa [mx_up, this] using hk
theorem wr_keep {K : mx_I} {a : Nat} {m : Nat → Int32} {h G : Nat} {w : Int32} {q S n k : Nat} (hq : 256 * q + S < k ∨ k < 256 * q) (hS : S < 256) (hs : wr_src K a m h G w q S n) : wr_src (mx_up K a k (nI 1)) a m h G w q S n := by
  have up : ∀ j, K a j = 1 → mx_up K a k (nI 1) a j = 1 := fun j hj => by
    by_cases e : j = k
    · simp [mx_up, e]; rfl
    · simp [mx_up, e, hj]
  intro hk
  have hne : ¬ (256 * q + S = k) := by omega
  have hk0 : K a (256 * q + S) = 1 := by simpa [mx_up, hne] using hk
  obtain ⟨r1, r2⟩ := hs hk0
  exact ⟨up _ r1, fun g a1 a2 a3 a4 => up _ (r2 g a1 a2 a3 a4)⟩
theorem wr_end {I K : mx_I} {a : Nat} {m : Nat → Int32} {h G : Nat} {w : Int32} (hG : G ≤ 8) (hsy : ∀ g, g < G → 1 ≤ SG m g) (hi : wr_inv I K a m h G w 8 0) : ∀ q, q ≤ 8 → ∀ S, S < 256 → (K a (256 * q + S) = 1 ↔ sb_ok w G S ∧ vs_E m h G S ≤ q) := by
  obtain ⟨-, ⟨e0, e1, e2⟩, h3⟩ := hi
  intro q
  induction q using Nat.strongRecOn with
  | ind q ih =>
    intro hq S hS
    refine ⟨e2 q S hq hS, fun ⟨s1, s2⟩ => ?_⟩
    by_cases hlt : vs_E m h G S < q
    · have r := (ih (q - 1) (by omega) (by omega) S hS).mpr ⟨s1, by omega⟩
      have := (h3 (q - 1) S hS (by omega) (Or.inl (by omega)) r).1
      rwa [show q - 1 + 1 = q by omega] at this
    · by_cases h0 : S = 0
      · subst h0
        rw [vs_E_0] at hlt
        have : q = 0 := by omega
        subst this
        exact e1
      · obtain ⟨g, q0, a1, a2, a3, a4, a5, a6⟩ := vs_E_back (m := m) (h := h) (G := G) (S := S) (by omega) h0
        have hc := bclr_set S hS g (by omega) a2
        have hSl := bclr_lt a2
        have r := (ih q0 (by have := hsy g a1; omega) (by omega) (S - 2 ^ g) (by omega)).mpr ⟨fun i hi => s1 i (bclr_tb hS (by omega) a2 hi), a3⟩
        have := (h3 q0 (S - 2 ^ g) (by omega) a4 (Or.inl (by have := hsy g a1; omega)) r).2 g a1 hc.2 (s1 g a2).2 a5
        rw [hc.1, ← a6] at this
        rwa [show vs_E m h G S = q by omega] at this
/-- the greatest -/
def vs_bs (p : Nat → Bool) (n : Nat) : Nat := vf n (fun i s => if p (i + 1) = true ∧ vs_pc s < vs_pc (i + 1) then i + 1 else s) 0
theorem vs_bs_s (p : Nat → Bool) (n : Nat) : vs_bs p (n + 1) = if p (n + 1) = true ∧ vs_pc (vs_bs p n) < vs_pc (n + 1) then n + 1 else vs_bs p n := rfl
theorem vs_bs_le (p : Nat → Bool) (n : Nat) : vs_bs p n ≤ n := by
  induction n with
  | zero => exact Nat.le_refl _
  | succ n ih => rw [vs_bs_s]; split <;> omega
theorem vs_bs_cong {p r : Nat → Bool} {n : Nat} (h : ∀ k, 1 ≤ k → k ≤ n → p k = r k) : vs_bs p n = vs_bs r n := by
  induction n with
  | zero => rfl
  | succ n ih => rw [vs_bs_s, vs_bs_s, ih (fun k a b => h k a (by omega)), h (n + 1) (by omega) (by omega)]
theorem vs_bs_more {p : Nat → Bool} {n d : Nat} (h : ∀ k, n < k → k ≤ n + d → p k = false) : vs_bs p (n + d) = vs_bs p n := by
  induction d with
  | zero => rfl
  | succ d ih =>
    rw [← Nat.add_assoc, vs_bs_s, h (n + d + 1) (by omega) (by omega), if_neg (fun z => by cases z.1)]
    exact ih (fun k a b => h k a (by omega))
/-- whether a set is told and can be seen -/
def vs_rp (m : Nat → Int32) (h G : Nat) (w : Int32) (S : Nat) : Bool := decide (nI S &&& (w ^^^ -1) = 0) && decide (vs_E m h G S < 9)
theorem sb_iff {w : Int32} {G S : Nat} (hG : G ≤ 8) (hS : S < 2 ^ G) : (nI S &&& (w ^^^ -1) = 0) ↔ sb_ok w G S := by
  have h256 : 2 ^ G ≤ 256 := Nat.le_trans (Nat.pow_le_pow_right (by omega) hG) (by decide)
  have hb : ∀ i, i < 32 → bt (nI S &&& (w ^^^ -1)) i = (S.testBit i && !(bt w i)) := fun i hi => by
    rw [b_and, b_xor, vs_bt_nI _ _ (by omega), b_m1 i hi]
    cases bt w i <;> rfl
  constructor
  · intro h i hi
    have hiG : i < G := Decidable.byContradiction (fun z => by
      rw [Nat.testBit_lt_two_pow (Nat.lt_of_lt_of_le hS (Nat.pow_le_pow_right (by omega) (by omega)))] at hi; cases hi)
    refine ⟨hiG, ?_⟩
    have := hb i (by omega)
    rw [h, b_0, hi] at this
    cases e : bt w i
    · rw [e] at this; cases this
    · rfl
  · intro h
    refine b_ext (fun i hi => ?_)
    rw [hb i hi, b_0]
    cases e : S.testBit i
    · rfl
    · rw [(h i e).2]; rfl
theorem sb_big {w : Int32} {G S : Nat} (hS : S < 256) (hbig : 2 ^ G ≤ S) : ¬ sb_ok w G S := fun h => by
  have : S < 2 ^ G := Nat.lt_pow_two_of_testBit S (fun i hi => by
    cases e : S.testBit i
    · rfl
    · have := (h i e).1; omega)
  omega

def nd (s : Nat) : Int32 := (nI 1 <<< (nI s &&& 31)) - nI 1
theorem nd_b : ∀ s, s < 5 → ∀ i, i < 32 → bt (nd s) i = decide (i < s) := by decide +kernel
theorem nd_ft {m : Nat → Int32} {h g q : Nat} (hs : 1 ≤ SG m g ∧ SG m g ≤ 4) (hq : q < 8) (h8 : ∀ i, i < 32 → 8 ≤ i → bt (HB m h g) i = false) (hm : vs_may m h g = true) : (mx_ushr (HB m h g) (nI q) &&& nd (SG m g) = nd (SG m g)) ↔ vs_ft m h g q = true := by
  have hb : ∀ i, i < 32 → bt (mx_ushr (HB m h g) (nI q) &&& nd (SG m g)) i = (bt (HB m h g) (q + i) && decide (i < SG m g)) := fun i hi => by
    rw [b_and, nd_b _ (by omega) i hi]
    congr 1
    exact b_ushr q (by omega) _ i
  constructor
  · intro h1
    have hall : ∀ i, i < SG m g → bt (HB m h g) (q + i) = true := fun i hi => by
      have := hb i (by omega)
      rw [h1, nd_b _ (by omega) i (by omega), decide_eq_true hi, Bool.and_true] at this
      exact this.symm
    unfold vs_ft
    rw [hm, vs_any_f (fun i hi => by rw [hall i hi]; rfl), decide_eq_true]
    · rfl
    · refine Decidable.byContradiction (fun z => ?_)
      have := hall (SG m g - 1) (by omega)
      rw [h8 _ (by omega) (by omega)] at this; cases this
  · intro h1
    have h88 := vs_ft8 h1
    unfold vs_ft at h1
    rw [Bool.and_eq_true, Bool.and_eq_true] at h1
    have h2 : vs_any (fun i => !bt (HB m h g) (q + i)) (SG m g) = false := by simpa using h1.2.2
    refine b_ext (fun i hi => ?_)
    rw [hb i hi, nd_b _ (by omega) i hi]
    by_cases e : i < SG m g
    · cases e2 : bt (HB m h g) (q + i)
      · rw [vs_any_t e (by rw [e2]; rfl)] at h2; cases h2
      · rfl
    · rw [decide_eq_false e]; simp
theorem ev_min {a c : Nat} (h : ¬ c < 9) : ev a = ev (min a c) := by
  by_cases q : a < 9
  · rw [Nat.min_eq_left (by omega)]
  · rw [ev_ge q, ev_ge (by omega)]
theorem ev_minR {a c : Nat} (h : c < 9) (h2 : ¬ a < 9 ∨ c < a) : nI c = ev (min a c) := by
  rw [Nat.min_eq_right (by omega), ev_lt h]
theorem ev_minL {a c : Nat} (h : a < 9) (h2 : a ≤ c) : nI a = ev (min a c) := by
  rw [Nat.min_eq_left h2, ev_lt h]
/-- the class's row of ends -/
def ri_inv (I K : mx_I) (a : Nat) (m : Nat → Int32) (h G : Nat) (w : Int32) (z : Nat) : Prop := mx_off (fun c => c = a) I K ∧ ∀ S, S < z → nI S &&& (w ^^^ -1) = 0 → K a S = ev (vs_E m h G S)
theorem ri_0 {I : mx_I} {a : Nat} {m : Nat → Int32} {h G : Nat} {w : Int32} : ri_inv I (mx_up I a 0 (nI 0)) a m h G w (0 + 1) := ⟨fun c hc => mx_up_ne hc, fun S hS _ => by
  have e : S = 0 := by omega
  subst e
  rw [vs_E_0, ev_lt (by omega)]; simp [mx_up]⟩
theorem ri_skip {I K : mx_I} {a : Nat} {m : Nat → Int32} {h G : Nat} {w : Int32} {z : Nat} (hi : ri_inv I K a m h G w z) (hn : ¬ nI z &&& (w ^^^ -1) = 0) : ri_inv I K a m h G w (z + 1) := ⟨hi.1, fun S hS hw => by
  rcases Nat.lt_succ_iff_lt_or_eq.mp hS with e | rfl
  · exact hi.2 S e hw
  · exact absurd hw hn⟩
theorem ri_step {I K : mx_I} {a : Nat} {m : Nat → Int32} {h G : Nat} {w : Int32} {z : Nat} (hi : ri_inv I K a m h G w z) : ri_inv I (mx_up K a z (ev (vs_E m h G z))) a m h G w (z + 1) := ⟨fun c hc => (mx_up_ne hc).trans (hi.1 c hc), fun S hS hw => by
  by_cases e : S = z
  · subst e; simp [mx_up]
  · have := hi.2 S (by omega) hw
    simp [mx_up, e, this]⟩
theorem ri_use {I K : mx_I} {a : Nat} {m : Nat → Int32} {h G : Nat} {w : Int32} {z : Nat} (hG : G ≤ 8) (hz : z < 2 ^ G) (hi : ri_inv I K a m h G w z) (hw : nI z &&& (w ^^^ -1) = 0) : ∀ g, g < G → z.testBit g = true → K a (z - 2 ^ g) = ev (vs_E m h G (z - 2 ^ g)) := fun g hg hb => by
  have h256 : 2 ^ G ≤ 256 := Nat.le_trans (Nat.pow_le_pow_right (by omega) hG) (by decide)
  have hl := bclr_lt hb
  refine hi.2 _ hl ?_
  rw [sb_iff hG hz] at hw
  rw [sb_iff hG (by omega)]
  exact fun i h2 => hw i (bclr_tb (by omega) (by omega) hb h2)
def c0_inv (I K : mx_I) (a z : Nat) : Prop := mx_off (fun c => c = a) I K ∧ ∀ k, k < z → K a k = (if k = 0 then nI 1 else nI 0)
theorem c0_step {I K : mx_I} {a z : Nat} {v : Int32} (hi : c0_inv I K a z) (hv : v = (if z = 0 then nI 1 else nI 0)) : c0_inv I (mx_up K a z v) a (z + 1) := ⟨fun c hc => (mx_up_ne hc).trans (hi.1 c hc), fun k hk => by
  by_cases e : k = z
  · subst e; rw [← hv]; simp [mx_up]
  · have := hi.2 k (by omega)
    simp only [mx_up, e, and_false, if_false]; exact this⟩
theorem wr_0 {I K : mx_I} {a : Nat} {m : Nat → Int32} {h G : Nat} {w : Int32} (hi : c0_inv I K a 2304) : wr_inv I K a m h G w 0 0 := by
  refine ⟨hi.1, ⟨fun q S h1 h2 => ?_, ?_, fun q S h1 h2 hk => ?_⟩, fun q S h1 h2 h3 => absurd h3 (by omega)⟩
  · rw [hi.2 _ (by omega)]; split; exact Or.inr rfl; exact Or.inl rfl
  · exact hi.2 0 (by omega)
  · rw [hi.2 _ (by omega)] at hk
    split at hk
    · have e1 : q = 0 := by omega
      have e2 : S = 0 := by omega
      subst e1; subst e2
      exact ⟨fun i hi => (by rw [Nat.zero_testBit] at hi; cases hi), (by rw [vs_E_0]; omega)⟩
    · exact absurd hk (by decide)
theorem wr_next {I K : mx_I} {a : Nat} {m : Nat → Int32} {h G : Nat} {w : Int32} {q : Nat} (hi : wr_inv I K a m h G w q 256) : wr_inv I K a m h G w (q + 1) 0 := ⟨hi.1, hi.2.1, fun q' S h1 h2 h3 => hi.2.2 q' S h1 h2 (by omega)⟩
theorem wr_skip {I K : mx_I} {a : Nat} {m : Nat → Int32} {h G : Nat} {w : Int32} {q s : Nat} (hi : wr_inv I K a m h G w q s) (h0 : K a (256 * q + s) = 0) : wr_inv I K a m h G w q (s + 1) := ⟨hi.1, hi.2.1, fun q' S h1 h2 h3 => by
  by_cases e : q' = q ∧ S = s
  · obtain ⟨rfl, rfl⟩ := e
    intro hk; rw [h0] at hk; exact absurd hk (by decide)
  · exact hi.2.2 q' S h1 h2 (by omega)⟩
def wr2 (I K : mx_I) (a : Nat) (m : Nat → Int32) (h G : Nat) (w : Int32) (q s g : Nat) : Prop := wr_inv I K a m h G w q s ∧ K a (256 * q + s) = 1 ∧ wr_src K a m h G w q s g
theorem wr_1 {K : mx_I} {a : Nat} {m : Nat → Int32} {h G : Nat} {w : Int32} {q s : Nat} (hs : wr_snd K a m h G w) (hq : q ≤ 8) (h2 : s < 256) (h0 : ¬ K a (256 * q + s) = 0) : K a (256 * q + s) = 1 := (hs.1 q s hq h2).elim (fun z => absurd z h0) id
theorem wr_2 {I K : mx_I} {a : Nat} {m : Nat → Int32} {h G : Nat} {w : Int32} {q s : Nat} (hq : q < 8) (hS : s < 256) (hi : wr_inv I K a m h G w q s) (h0 : ¬ K a (256 * q + s) = 0) : wr2 I (mx_up K a (256 * (q + 1) + s) (nI 1)) a m h G w q s 0 := by
  have h1 := wr_1 hi.2.1 (by omega) hS h0
  obtain ⟨s1, s2⟩ := hi.2.1.2.2 q s (by omega) hS h1
  have hne : ¬ (256 * q + s = 256 * (q + 1) + s) := by omega
  refine ⟨⟨fun c hc => (mx_up_ne hc).trans (hi.1 c hc), wr_put hi.2.1 (by omega) hS s1 (by omega), fun q' S a1 a2 a3 => wr_keep (by omega) a1 (hi.2.2 q' S a1 a2 a3)⟩, (by simp only [mx_up, hne, and_false, if_false]; exact h1), fun _ => ⟨by simp [mx_up]; rfl, fun g hg => absurd hg (by omega)⟩⟩
theorem wr2_skip {I K : mx_I} {a : Nat} {m : Nat → Int32} {h G : Nat} {w : Int32} {q s g : Nat} (hi : wr2 I K a m h G w q s g) (hn : s.testBit g = true ∨ bt w g = false ∨ vs_ft m h g q = false) : wr2 I K a m h G w q s (g + 1) := ⟨hi.1, hi.2.1, fun hk => ⟨(hi.2.2 hk).1, fun g' h1 h2 h3 h4 => by
  rcases Nat.lt_succ_iff_lt_or_eq.mp h1 with e | rfl
  · exact (hi.2.2 hk).2 g' e h2 h3 h4
  · rcases hn with z | z | z
    · rw [h2] at z; cases z
    · rw [h3] at z; cases z
    · rw [h4] at z; cases z⟩⟩
theorem wr2_step {I K : mx_I} {a : Nat} {m : Nat → Int32} {h G : Nat} {w : Int32} {q s g : Nat} (hq : q < 8) (hS : s < 256) (hg : g < G) (hG : G ≤ 8) (hs1 : 1 ≤ SG m g) (hi : wr2 I K a m h G w q s g) (h2 : s.testBit g = false) (h3 : bt w g = true) (h4 : vs_ft m h g q = true) : wr2 I (mx_up K a (256 * (q + SG m g) + bset s g) (nI 1)) a m h G w q s (g + 1) := by
  have h8 := vs_ft8 h4
  have hb := bset_256 s hS g (by omega)
  obtain ⟨s1, s2⟩ := hi.1.2.1.2.2 q s (by omega) hS hi.2.1
  have hne : ¬ (256 * q + s = 256 * (q + SG m g) + bset s g) := by omega
  have hk := wr_keep (K := K) (a := a) (k := 256 * (q + SG m g) + bset s g) (q := q) (S := s) (n := g) (by omega) hS hi.2.2
  have h1' : mx_up K a (256 * (q + SG m g) + bset s g) (nI 1) a (256 * q + s) = 1 := by simp only [mx_up, hne, and_false, if_false]; exact hi.2.1
  refine ⟨⟨fun c hc => (mx_up_ne hc).trans (hi.1.1 c hc), wr_put hi.1.2.1 (by omega) hb (sb_set s1 hg h3) (vs_E_step hS hg hG h2 s2 hs1 h4), fun q' S a1 a2 a3 => wr_keep (by omega) a1 (hi.1.2.2 q' S a1 a2 a3)⟩, h1', fun _ => ⟨(hk h1').1, fun g' b1 b2 b3 b4 => ?_⟩⟩
  rcases Nat.lt_succ_iff_lt_or_eq.mp b1 with e | rfl
  · exact (hk h1').2 g' e b2 b3 b4
  · simp [mx_up]; rfl
theorem wr2_end {I K : mx_I} {a : Nat} {m : Nat → Int32} {h G : Nat} {w : Int32} {q s : Nat} (hi : wr2 I K a m h G w q s G) : wr_inv I K a m h G w q (s + 1) := ⟨hi.1.1, hi.1.2.1, fun q' S h1 h2 h3 => by
  by_cases e : q' = q ∧ S = s
  · obtain ⟨rfl, rfl⟩ := e; exact hi.2.2
  · exact hi.1.2.2 q' S h1 h2 (by omega)⟩
/-- of all sets below 256: told, there, and seen -/
def vs_r3 (m : Nat → Int32) (h G : Nat) (w : Int32) (S : Nat) : Bool := decide (S < 2 ^ G) && vs_rp m h G w S
theorem wr_r3 {I K : mx_I} {a : Nat} {m : Nat → Int32} {h G : Nat} {w : Int32} (hG : G ≤ 8) (hsy : ∀ g, g < G → 1 ≤ SG m g) (hi : wr_inv I K a m h G w 8 0) {S : Nat} (hS : S < 256) : K a (2048 + S) = bI (vs_r3 m h G w S) := by
  have h1 := wr_end hG hsy hi 8 (Nat.le_refl 8) S hS
  have h01 := hi.2.1.1 8 S (Nat.le_refl 8) hS
  rw [show 256 * 8 + S = 2048 + S by omega] at h1 h01
  have key : (vs_r3 m h G w S = true) ↔ sb_ok w G S ∧ vs_E m h G S ≤ 8 := by
    unfold vs_r3 vs_rp
    rw [Bool.and_eq_true, Bool.and_eq_true, decide_eq_true_eq, decide_eq_true_eq, decide_eq_true_eq]
    constructor
    · intro ⟨a1, a2, a3⟩
      exact ⟨(sb_iff hG a1).mp a2, by omega⟩
    · intro ⟨a1, a2⟩
      have hl : S < 2 ^ G := Decidable.byContradiction (fun z => sb_big hS (by omega) a1)
      exact ⟨hl, (sb_iff hG hl).mpr a1, by omega⟩
  cases e : vs_r3 m h G w S
  · rcases h01 with z | z
    · exact z
    · have := key.mpr (h1.mp z); rw [e] at this; cases this
  · exact h1.mpr (key.mp e)
theorem vs_r3_bs {m : Nat → Int32} {h G : Nat} {w : Int32} (hG : G ≤ 8) : vs_bs (vs_r3 m h G w) 255 = vs_bs (vs_rp m h G w) (2 ^ G - 1) := by
  have h256 : 2 ^ G ≤ 256 := Nat.le_trans (Nat.pow_le_pow_right (by omega) hG) (by decide)
  have h0 : 0 < 2 ^ G := Nat.pow_pos (by omega)
  have e : 255 = (2 ^ G - 1) + (256 - 2 ^ G) := by omega
  have e1 := vs_bs_more (p := vs_r3 m h G w) (n := 2 ^ G - 1) (d := 256 - 2 ^ G) (fun k a b => by unfold vs_r3; rw [decide_eq_false (by omega)]; rfl)
  rw [← e] at e1
  rw [e1]
  exact vs_bs_cong (fun k a b => by unfold vs_r3; rw [decide_eq_true (by omega)]; rfl)
section AB36
variable {l : Launch} {E : mx_Env} {t : Nat} {S : mx_S} {I : mx_I} {P : mx_P} {J : mx_G} {m : Nat → Int32} {x mo H G n pe : Nat}
theorem HB_hi (hrs : hr_ok m) {h g : Nat} (hh : h < 8) : ∀ i, i < 32 → 8 ≤ i → bt (HB m h g) i = false := fun i h1 h2 => by
  obtain ⟨k, hk, e⟩ := hrs h hh
  unfold HB
  rw [b_and, e, vs_bit8 hk h1 h2]; rfl
def vs_best (m : Nat → Int32) (h G : Nat) (w : Int32) : Nat := vs_bs (vs_rp m h G w) (2 ^ G - 1)
def sp_row (m : Nat → Int32) (H G : Nat) (v w : Int32) (b : Bool) : Nat × Int32 := if vs_isN v H then (0, if b then nI (vs_best m v.toNatClampNeg G w) else nI (vs_pc (vs_best m v.toNatClampNeg G w))) else (1, nI 0)
theorem c_Pe_endOfStay (hPe : pe_ok S P pe) (hPr : pe_rel I pe m) (hr : rk9 m) (hrs : hr_ok m) {h g b : Nat} (hh : h < 8) (hg : g < 8) (hb : b ≤ 8) (hsg : 1 ≤ SG m g ∧ SG m g ≤ 4 ∧ m (43 + 3 * g + 0) = nI (SG m g)) : mx_C l E M_Pe_endOfStay 3 0 0 [.ref (pe), .int (nI (h)), .int (nI (g)), .int (nI (b))] (t, S, I, P, J) (mx_ri (ev (vs_en m h g b)) (t, S, I, P, J)) := by
  obtain ⟨hA0, hA1, hA2, hA3, hA4, hA5, hA6, hA7, hB1, hB2, hB3, hB4, hB5, hB6, hB7⟩ := id hPe
  obtain ⟨r0, r1, r2, r3, r4, r5, r6, r7, r8⟩ := id hPr
  have hk := hr.ok
  refine mx_C_of (ls0 := [some (.ref (pe)), some (.int (nI (h))), some (.int (nI (g))), some (.int (nI (b))), none, none, none]) (by decide +kernel) rfl rfl (Nat.le_of_ble_eq_true rfl) rfl ?_
  refine mx_al0 d_Pe_endOfStay_0 ?_
  refine mx_getR d_Pe_endOfStay_1 fl_Pe_22 (by assumption) (by assumption) ?_
  refine mx_il1 d_Pe_endOfStay_4 ?_
  refine mx_cSN2i d_Pe_endOfStay_5 (c_get (k := h) (by assumption) (by omega) (by omega)) ok_Vh_get ml_Pe_48 (by decide) (Nat.le_of_ble_eq_true rfl) ?_
  refine mx_ti (y := (m (11 + 4 * h + 1))) (r3 h hh) ?_
  refine mx_al0 d_Pe_endOfStay_8 ?_
  refine mx_getR d_Pe_endOfStay_9 fl_Pe_28 (by assumption) (by assumption) ?_
  refine mx_il2 d_Pe_endOfStay_12 ?_
  refine mx_cSN2i d_Pe_endOfStay_13 (c_get (k := g) (by assumption) (by omega) (by omega)) ok_Vh_get ml_Pe_48 (by decide) (Nat.le_of_ble_eq_true rfl) ?_
  refine mx_ti (y := (m (43 + 3 * g + 1))) (r5 g hg) ?_
  refine mx_iand d_Pe_endOfStay_16 ?_
  refine mx_ti (y := (HB m h g)) (rfl) ?_
  refine mx_is4 d_Pe_endOfStay_17 ?_
  refine mx_in_1 d_Pe_endOfStay_19 ?_
  refine mx_al0 d_Pe_endOfStay_20 ?_
  refine mx_getR d_Pe_endOfStay_21 fl_Pe_25 (by assumption) (by assumption) ?_
  refine mx_il2 d_Pe_endOfStay_24 ?_
  refine mx_cSN2i d_Pe_endOfStay_25 (c_get (k := g) (by assumption) (by omega) (by omega)) ok_Vh_get ml_Pe_48 (by decide) (Nat.le_of_ble_eq_true rfl) ?_
  refine mx_ti (y := nI (SG m g)) ((r4 g hg).trans hsg.2.2) ?_
  refine mx_ishl d_Pe_endOfStay_28 ?_
  refine mx_in_1 d_Pe_endOfStay_29 ?_
  refine mx_isub d_Pe_endOfStay_30 ?_
  refine mx_ti (y := (nd (SG m g))) (rfl) ?_
  refine mx_is5 d_Pe_endOfStay_31 ?_
  refine mx_il3 d_Pe_endOfStay_33 ?_
  refine mx_is6 d_Pe_endOfStay_34 ?_
  refine mx_loopI (N := 8 - b) (fun i => ∀ j, j < i → vs_ft m h g (b + j) = false) (ls := fun i => [some (.ref (pe)), some (.int (nI (h))), some (.int (nI (g))), some (.int (nI (b))), some (.int ((HB m h g))), some (.int ((nd (SG m g)))), some (.int (nI (b + i)))]) (X := fun i => (t, S, I, P, J)) (fun j hj => absurd hj (by omega)) (fun i hi hinv ih => ?_) (fun hinv => ?_)
  · try dsimp only at hinv ih ⊢
    refine mx_il6 d_Pe_endOfStay_36 ?_
    refine mx_bip 8 d_Pe_endOfStay_38 (by decide) ?_
    refine mx_icN_ge 83 d_Pe_endOfStay_40 (by decide) (by omega) (by omega) (fun c_40 => absurd c_40 (by omega)) (fun c_40 => ?_)
    refine mx_al0 d_Pe_endOfStay_43 ?_
    refine mx_il1 d_Pe_endOfStay_44 ?_
    refine mx_il2 d_Pe_endOfStay_45 ?_
    refine mx_cV2i d_Pe_endOfStay_46 (c_Pe_mayMeet hPe hPr hk (h := h) (g := g) (by omega) (by omega)) ok_Pe_mayMeet ml_Pe_60 (by assumption) ⟨rfl, rfl⟩ (by decide) (Nat.le_of_ble_eq_true rfl) ?_
    refine mx_ifB_eq 83 d_Pe_endOfStay_49 (by decide) (fun c_49 => ?_) (fun c_49 => ?_)
    · skip
      refine mx_ic_m1 d_Pe_endOfStay_83 ?_
      exact mx_iret d_Pe_endOfStay_84 rfl (mx_ri_of (by first | (rw [vs_en_f (fun j _ => by unfold vs_ft; rw [c_49]; rfl), ev_ge (by omega)]; done) | (rw [vs_en_f (fun j hj => hinv j (by omega)), ev_ge (by omega)]; done)))
    · skip
      refine mx_il4 d_Pe_endOfStay_52 ?_
      refine mx_il6 d_Pe_endOfStay_54 ?_
      refine mx_iushr d_Pe_endOfStay_56 ?_
      refine mx_il5 d_Pe_endOfStay_57 ?_
      refine mx_iand d_Pe_endOfStay_59 ?_
      refine mx_il5 d_Pe_endOfStay_60 ?_
      refine mx_icmp_ne 77 d_Pe_endOfStay_62 (by decide) (fun c_62 => ?_) (fun c_62 => ?_)
      · skip
        have k0 : vs_ft m h g (b + i) = false := by cases e : vs_ft m h g (b + i); rfl; exact absurd ((nd_ft ⟨hsg.1, hsg.2.1⟩ (by omega) (HB_hi hrs hh) c_49).mpr e) c_62
        refine mx_iN6 d_Pe_endOfStay_77 ?_
        refine mx_goto 36 d_Pe_endOfStay_80 (by decide) ?_
        have e6 : nI (b + i + 1) = nI (b + (i + 1)) := by first | rfl | simp [vf_s, *]
        refine mx_lsc (congrArg (fun z9 => ([some (.ref (pe)), some (.int (nI (h))), some (.int (nI (g))), some (.int (nI (b))), some (.int ((HB m h g))), some (.int ((nd (SG m g)))), some (.int (z9))] : List (Option Value))) e6) ?_
        exact ih (vs_nextT hinv k0)
      · skip
        have k0 : vs_ft m h g (b + i) = true := (nd_ft ⟨hsg.1, hsg.2.1⟩ (by omega) (HB_hi hrs hh) c_49).mp c_62
        refine mx_il6 d_Pe_endOfStay_65 ?_
        refine mx_al0 d_Pe_endOfStay_67 ?_
        refine mx_getR d_Pe_endOfStay_68 fl_Pe_25 (by assumption) (by assumption) ?_
        refine mx_il2 d_Pe_endOfStay_71 ?_
        refine mx_cSN2i d_Pe_endOfStay_72 (c_get (k := g) (by assumption) (by omega) (by omega)) ok_Vh_get ml_Pe_48 (by decide) (Nat.le_of_ble_eq_true rfl) ?_
        refine mx_ti (y := nI (SG m g)) ((r4 g hg).trans hsg.2.2) ?_
        refine mx_iaddN d_Pe_endOfStay_75 ?_
        exact mx_iret d_Pe_endOfStay_76 rfl (mx_ri_of (by rw [vs_en_t (i := i) (by omega) k0 hinv, ev_lt (by have := vs_ft8 k0; omega)]))
  · try dsimp only at hinv ⊢
    refine mx_il6 d_Pe_endOfStay_36 ?_
    refine mx_bip 8 d_Pe_endOfStay_38 (by decide) ?_
    refine mx_icN_ge 83 d_Pe_endOfStay_40 (by decide) (by omega) (by omega) (fun c_40 => ?_) (fun c_40 => absurd c_40 (by omega))
    refine mx_ic_m1 d_Pe_endOfStay_83 ?_
    exact mx_iret d_Pe_endOfStay_84 rfl (mx_ri_of (by first | (rw [vs_en_f (fun j _ => by unfold vs_ft; rw [c_49]; rfl), ev_ge (by omega)]; done) | (rw [vs_en_f (fun j hj => hinv j (by omega)), ev_ge (by omega)]; done)))
theorem c_Vh_firstBehind (hV : vh_ok S P x) (hSt : st_ok S P (x + 23)) (hSr : st_rel I (x + 23) m) (hG : m 4 = nI G) (hG8 : G ≤ 8) (hr : rk9 m) (hrs : hr_ok m) (hsy : sy_ok m G) {h s : Nat} (hh : h < 8) (h0 : s ≠ 0) (hs : s < 2 ^ G) (hB : ∀ g, g < G → s.testBit g = true → I (x + 15) (s - 2 ^ g) = ev (vs_E m h G (s - 2 ^ g))) : mx_C l E M_Vh_firstBehind 4 0 0 [.ref (x), .int (nI (h)), .int (nI (s))] (t, S, I, P, J) (mx_ri (ev (vs_E m h G s)) (t, S, I, P, J)) := by
  obtain ⟨hV0, hVp0, hVp1, hVp2, hVp3, hVp4, hVp5, hVp7, hVp8, hVp9, hVp10, hVp11, hVp12, hVs15, hVs16, hVs68⟩ := id hV
  obtain ⟨hC0, hC1, hC2, hC3, hC4, hC5, hC6, hD1, hD2, hD3, hD4, hPe, hLo⟩ := id hSt
  obtain ⟨hPr, u0, u1, u2, u3, u4, u5, u6, u7, u8⟩ := id hSr
  obtain ⟨hA0, hA1, hA2, hA3, hA4, hA5, hA6, hA7, hB1, hB2, hB3, hB4, hB5, hB6, hB7⟩ := id hPe
  obtain ⟨r0, r1, r2, r3, r4, r5, r6, r7, r8⟩ := id hPr
  have hk := hr.ok
  have h256 : 2 ^ G ≤ 256 := vs_two8 (by omega)
  refine mx_C_of (ls0 := [some (.ref (x)), some (.int (nI (h))), some (.int (nI (s))), none, none, none, none]) (by decide +kernel) rfl rfl (Nat.le_of_ble_eq_true rfl) rfl ?_
  refine mx_ic_m1 d_Vh_firstBehind_0 ?_
  refine mx_is3 d_Vh_firstBehind_1 ?_
  refine mx_in_0 d_Vh_firstBehind_2 ?_
  refine mx_is4 d_Vh_firstBehind_3 ?_
  refine mx_loop (N := G) (ls := fun g => [some (.ref (x)), some (.int (nI (h))), some (.int (nI (s))), some (.int ((ev (vs_EQ m h G s g)))), some (.int (nI (g))), none, none]) (X := fun g => (t, S, I, P, J)) (fun g hg ih => ?_) ?_
  · try dsimp only
    refine mx_il4 d_Vh_firstBehind_5 ?_
    refine mx_al0 d_Vh_firstBehind_7 ?_
    refine mx_getR d_Vh_firstBehind_8 fl_Vh_51 (by assumption) (by assumption) ?_
    refine mx_getR d_Vh_firstBehind_11 fl_Vh_162 (by assumption) (by assumption) ?_
    refine mx_getI d_Vh_firstBehind_14 fl_Vh_325 (by assumption) ?_
    refine mx_ti (y := nI (G)) (r1.trans hG) ?_
    refine mx_icN_ge 103 d_Vh_firstBehind_17 (by decide) (by omega) (by omega) (fun c_17 => absurd c_17 (by omega)) (fun c_17 => ?_)
    refine mx_il2 d_Vh_firstBehind_20 ?_
    refine mx_il4 d_Vh_firstBehind_21 ?_
    refine mx_cS2i d_Vh_firstBehind_23 (c_has (j := g) (by omega)) ok_Vh_has ml_Vh_248 (by decide) (Nat.le_of_ble_eq_true rfl) ?_
    refine mx_ifB_eq 47 d_Vh_firstBehind_26 (by decide) (fun c_26 => ?_) (fun c_26 => ?_)
    · skip
      rw [vs_has_bt (by omega), vs_bt_nI _ _ (by omega)] at c_26
      have k0 : vs_cd m h G s g = 9 := by unfold vs_cd; rw [if_neg (by rw [c_26]; decide)]
      refine mx_ic_m1 d_Vh_firstBehind_47 ?_
      refine mx_is5 d_Vh_firstBehind_48 ?_
      refine mx_il5 d_Vh_firstBehind_50 ?_
      refine mx_ic_m1 d_Vh_firstBehind_52 ?_
      refine mx_icmp_ne 60 d_Vh_firstBehind_53 (by decide) (fun c_53 => absurd c_53 (fun z => z rfl)) (fun c_53 => ?_)
      refine mx_ic_m1 d_Vh_firstBehind_56 ?_
      refine mx_goto 75 d_Vh_firstBehind_57 (by decide) ?_
      refine mx_is6 d_Vh_firstBehind_75 ?_
      refine mx_il6 d_Vh_firstBehind_77 ?_
      refine mx_ic_m1 d_Vh_firstBehind_79 ?_
      refine mx_icmp_eq 97 d_Vh_firstBehind_80 (by decide) (fun c_80 => ?_) (fun c_80 => absurd c_80 (fun z => z rfl))
      refine mx_iN4 d_Vh_firstBehind_97 ?_
      refine mx_goto 5 d_Vh_firstBehind_100 (by decide) ?_
      refine mx_dn5 ?_
      refine mx_dn6 ?_
      have e3 : (ev (vs_EQ m h G s g)) = (ev (vs_EQ m h G s (g + 1))) := by rw [vs_EQ_s, k0]; first | exact ev_min (by omega) | exact ev_minR (by omega) (by omega) | exact ev_minL (by omega) (by omega)
      refine mx_lsc (congrArg (fun z9 => ([some (.ref (x)), some (.int (nI (h))), some (.int (nI (s))), some (.int (z9)), some (.int (nI (g + 1))), none, none] : List (Option Value))) e3) ?_
      exact ih
    · skip
      rw [vs_has_bt (by omega), vs_bt_nI _ _ (by omega)] at c_26
      have hsl := bclr_lt c_26
      refine mx_al0 d_Vh_firstBehind_29 ?_
      refine mx_getR d_Vh_firstBehind_30 fl_Vh_34 (by assumption) (by assumption) ?_
      refine mx_il2 d_Vh_firstBehind_33 ?_
      refine mx_in_1 d_Vh_firstBehind_34 ?_
      refine mx_il4 d_Vh_firstBehind_35 ?_
      refine mx_ishl d_Vh_firstBehind_37 ?_
      refine mx_ic_m1 d_Vh_firstBehind_38 ?_
      refine mx_ixor d_Vh_firstBehind_39 ?_
      refine mx_iand d_Vh_firstBehind_40 ?_
      refine mx_ti (y := nI (s - 2 ^ g)) (bclr_nI s (by omega) g (by omega) c_26) ?_
      refine mx_cS2i d_Vh_firstBehind_41 (c_get (k := s - 2 ^ g) (by assumption) (by omega) (by omega)) ok_Vh_get ml_Vh_171 (by decide) (Nat.le_of_ble_eq_true rfl) ?_
      refine mx_ti (y := (ev (vs_E m h G (s - 2 ^ g)))) (hB g (by omega) c_26) ?_
      refine mx_goto 48 d_Vh_firstBehind_44 (by decide) ?_
      refine mx_is5 d_Vh_firstBehind_48 ?_
      refine mx_il5 d_Vh_firstBehind_50 ?_
      refine mx_ic_m1 d_Vh_firstBehind_52 ?_
      refine mx_icmp_ne 60 d_Vh_firstBehind_53 (by decide) (fun c_53 => ?_) (fun c_53 => ?_)
      · skip
        have e9 := ev_n c_53
        rw [ev_lt e9]
        have k0 : vs_cd m h G s g = vs_en m h g (vs_E m h G (s - 2 ^ g)) := by unfold vs_cd; rw [if_pos c_26, if_pos e9]
        refine mx_al0 d_Vh_firstBehind_60 ?_
        refine mx_getR d_Vh_firstBehind_61 fl_Vh_51 (by assumption) (by assumption) ?_
        refine mx_getR d_Vh_firstBehind_64 fl_Vh_162 (by assumption) (by assumption) ?_
        refine mx_il1 d_Vh_firstBehind_67 ?_
        refine mx_il4 d_Vh_firstBehind_68 ?_
        refine mx_il5 d_Vh_firstBehind_70 ?_
        refine mx_cV3i d_Vh_firstBehind_72 (c_Pe_endOfStay hPe hPr hr hrs (h := h) (g := g) (b := vs_E m h G (s - 2 ^ g)) (by omega) (by omega) (by omega) (hsy.s (by omega))) ok_Pe_endOfStay ml_Vh_476 (by assumption) ⟨rfl, rfl⟩ (by decide) (Nat.le_of_ble_eq_true rfl) ?_
        refine mx_is6 d_Vh_firstBehind_75 ?_
        refine mx_il6 d_Vh_firstBehind_77 ?_
        refine mx_ic_m1 d_Vh_firstBehind_79 ?_
        refine mx_icmp_eq 97 d_Vh_firstBehind_80 (by decide) (fun c_80 => ?_) (fun c_80 => ?_)
        · skip
          have f9 := ev_e c_80
          refine mx_iN4 d_Vh_firstBehind_97 ?_
          refine mx_goto 5 d_Vh_firstBehind_100 (by decide) ?_
          refine mx_dn5 ?_
          refine mx_dn6 ?_
          have e3 : (ev (vs_EQ m h G s g)) = (ev (vs_EQ m h G s (g + 1))) := by rw [vs_EQ_s, k0]; first | exact ev_min (by omega) | exact ev_minR (by omega) (by omega) | exact ev_minL (by omega) (by omega)
          refine mx_lsc (congrArg (fun z9 => ([some (.ref (x)), some (.int (nI (h))), some (.int (nI (s))), some (.int (z9)), some (.int (nI (g + 1))), none, none] : List (Option Value))) e3) ?_
          exact ih
        · skip
          have f9 := ev_n c_80
          rw [ev_lt f9]
          refine mx_il3 d_Vh_firstBehind_83 ?_
          refine mx_ic_m1 d_Vh_firstBehind_84 ?_
          refine mx_icmp_eq 94 d_Vh_firstBehind_85 (by decide) (fun c_85 => ?_) (fun c_85 => ?_)
          · skip
            have q9 := ev_e c_85
            refine mx_il6 d_Vh_firstBehind_94 ?_
            refine mx_is3 d_Vh_firstBehind_96 ?_
            refine mx_iN4 d_Vh_firstBehind_97 ?_
            refine mx_goto 5 d_Vh_firstBehind_100 (by decide) ?_
            refine mx_dn5 ?_
            refine mx_dn6 ?_
            have e3 : nI (vs_en m h g (vs_E m h G (s - 2 ^ g))) = (ev (vs_EQ m h G s (g + 1))) := by rw [vs_EQ_s, k0]; first | exact ev_min (by omega) | exact ev_minR (by omega) (by omega) | exact ev_minL (by omega) (by omega)
            refine mx_lsc (congrArg (fun z9 => ([some (.ref (x)), some (.int (nI (h))), some (.int (nI (s))), some (.int (z9)), some (.int (nI (g + 1))), none, none] : List (Option Value))) e3) ?_
            exact ih
          · skip
            have q9 := ev_n c_85
            rw [ev_lt q9]
            refine mx_il6 d_Vh_firstBehind_88 ?_
            refine mx_il3 d_Vh_firstBehind_90 ?_
            refine mx_icN_ge 97 d_Vh_firstBehind_91 (by decide) (by omega) (by omega) (fun c_91 => ?_) (fun c_91 => ?_)
            · skip
              refine mx_iN4 d_Vh_firstBehind_97 ?_
              refine mx_goto 5 d_Vh_firstBehind_100 (by decide) ?_
              refine mx_dn5 ?_
              refine mx_dn6 ?_
              have e3 : nI (vs_EQ m h G s g) = (ev (vs_EQ m h G s (g + 1))) := by rw [vs_EQ_s, k0]; first | exact ev_min (by omega) | exact ev_minR (by omega) (by omega) | exact ev_minL (by omega) (by omega)
              refine mx_lsc (congrArg (fun z9 => ([some (.ref (x)), some (.int (nI (h))), some (.int (nI (s))), some (.int (z9)), some (.int (nI (g + 1))), none, none] : List (Option Value))) e3) ?_
              exact ih
            · skip
              refine mx_il6 d_Vh_firstBehind_94 ?_
              refine mx_is3 d_Vh_firstBehind_96 ?_
              refine mx_iN4 d_Vh_firstBehind_97 ?_
              refine mx_goto 5 d_Vh_firstBehind_100 (by decide) ?_
              refine mx_dn5 ?_
              refine mx_dn6 ?_
              have e3 : nI (vs_en m h g (vs_E m h G (s - 2 ^ g))) = (ev (vs_EQ m h G s (g + 1))) := by rw [vs_EQ_s, k0]; first | exact ev_min (by omega) | exact ev_minR (by omega) (by omega) | exact ev_minL (by omega) (by omega)
              refine mx_lsc (congrArg (fun z9 => ([some (.ref (x)), some (.int (nI (h))), some (.int (nI (s))), some (.int (z9)), some (.int (nI (g + 1))), none, none] : List (Option Value))) e3) ?_
              exact ih
      · skip
        have e9 := ev_e c_53
        have k0 : vs_cd m h G s g = 9 := by unfold vs_cd; rw [if_pos c_26, if_neg e9]
        refine mx_ic_m1 d_Vh_firstBehind_56 ?_
        refine mx_goto 75 d_Vh_firstBehind_57 (by decide) ?_
        refine mx_is6 d_Vh_firstBehind_75 ?_
        refine mx_il6 d_Vh_firstBehind_77 ?_
        refine mx_ic_m1 d_Vh_firstBehind_79 ?_
        refine mx_icmp_eq 97 d_Vh_firstBehind_80 (by decide) (fun c_80 => ?_) (fun c_80 => absurd c_80 (fun z => z rfl))
        refine mx_iN4 d_Vh_firstBehind_97 ?_
        refine mx_goto 5 d_Vh_firstBehind_100 (by decide) ?_
        refine mx_dn5 ?_
        refine mx_dn6 ?_
        have e3 : (ev (vs_EQ m h G s g)) = (ev (vs_EQ m h G s (g + 1))) := by rw [vs_EQ_s, k0]; first | exact ev_min (by omega) | exact ev_minR (by omega) (by omega) | exact ev_minL (by omega) (by omega)
        refine mx_lsc (congrArg (fun z9 => ([some (.ref (x)), some (.int (nI (h))), some (.int (nI (s))), some (.int (z9)), some (.int (nI (g + 1))), none, none] : List (Option Value))) e3) ?_
        exact ih
  · try dsimp only
    refine mx_il4 d_Vh_firstBehind_5 ?_
    refine mx_al0 d_Vh_firstBehind_7 ?_
    refine mx_getR d_Vh_firstBehind_8 fl_Vh_51 (by assumption) (by assumption) ?_
    refine mx_getR d_Vh_firstBehind_11 fl_Vh_162 (by assumption) (by assumption) ?_
    refine mx_getI d_Vh_firstBehind_14 fl_Vh_325 (by assumption) ?_
    refine mx_ti (y := nI (G)) (r1.trans hG) ?_
    refine mx_icN_ge 103 d_Vh_firstBehind_17 (by decide) (by omega) (by omega) (fun c_17 => ?_) (fun c_17 => absurd c_17 (by omega))
    refine mx_il3 d_Vh_firstBehind_103 ?_
    exact mx_iret d_Vh_firstBehind_104 rfl (mx_ri_of (by rw [vs_E_eq, if_neg h0]))
theorem c_Vh_row (htr : l.stackTraces = false) (hV : vh_ok S P x) (hSt : st_ok S P (x + 23)) (hSr : st_rel I (x + 23) m) (hH : m 3 = nI H) (hH8 : H ≤ 8) (hG : m 4 = nI G) (hG8 : G ≤ 8) (hr : rk9 m) (hrs : hr_ok m) (hsy : sy_ok m G) {v w : Int32} {b : Bool} : mx_C l E M_Vh_row 7 1 6 [.ref (x), .int (v), .int (w), .int (bI (b))] (t, S, I, P, J) (mx_pR (fun _ => "java/lang/IndexOutOfBoundsException") (sp_row m H G v w b) t S P J (fun K => mx_off (fun c => c = x + 15) I K)) := by
  obtain ⟨hV0, hVp0, hVp1, hVp2, hVp3, hVp4, hVp5, hVp7, hVp8, hVp9, hVp10, hVp11, hVp12, hVs15, hVs16, hVs68⟩ := id hV
  obtain ⟨hC0, hC1, hC2, hC3, hC4, hC5, hC6, hD1, hD2, hD3, hD4, hPe, hLo⟩ := id hSt
  obtain ⟨hPr, u0, u1, u2, u3, u4, u5, u6, u7, u8⟩ := id hSr
  obtain ⟨hA0, hA1, hA2, hA3, hA4, hA5, hA6, hA7, hB1, hB2, hB3, hB4, hB5, hB6, hB7⟩ := id hPe
  obtain ⟨r0, r1, r2, r3, r4, r5, r6, r7, r8⟩ := id hPr
  obtain ⟨Z, hZ, hZ2⟩ : ∃ Z, nI 1 <<< (nI G &&& 31) = nI Z ∧ Z = 2 ^ G := ⟨_, vs_shl1 (by omega), rfl⟩
  have hZ8 : Z ≤ 256 := by rw [hZ2]; exact vs_two8 (by omega)
  have hZ1 : 1 ≤ Z := by rw [hZ2]; exact Nat.pow_pos (by omega)
  have hSrI := hSr
  refine mx_C_of (ls0 := [some (.ref (x)), some (.int (v)), some (.int (w)), some (.int (bI (b))), none, none]) (by decide +kernel) rfl rfl (Nat.le_of_ble_eq_true rfl) rfl ?_
  refine mx_al0 d_Vh_row_0 ?_
  refine mx_il1 d_Vh_row_1 ?_
  refine mx_nV1 d_Vh_row_2 (c_needHost htr hV hSt hSr hH hH8) ok_Vh_needHost ml_Vh_159 (by assumption) ⟨rfl, rfl⟩ rfl (by decide) (by decide) (by decide) (Nat.le_of_ble_eq_true rfl) (fun hb2 t9 ht => mx_pR_x ht 0 (by simp_all [sp_row]) rfl mx_off.rf) (fun hb2 => ?_)
  obtain ⟨h, hhL, rfl⟩ := vs_isN_of (by omega) hb2
  have hhc : (nI h).toNatClampNeg = h := nI_clamp (by omega)
  have hhL8 : h < 8 := by omega
  refine mx_in_0 d_Vh_row_5 ?_
  refine mx_is4 d_Vh_row_6 ?_
  refine mx_al0 d_Vh_row_8 ?_
  refine mx_getR d_Vh_row_9 fl_Vh_34 (by assumption) (by assumption) ?_
  refine mx_in_0 d_Vh_row_12 ?_
  refine mx_in_0 d_Vh_row_13 ?_
  refine mx_cS3v d_Vh_row_14 (c_put (k := 0) (by assumption) (by omega) (by omega)) ok_Vh_put ml_Vh_272 (by decide) (Nat.le_of_ble_eq_true rfl) ?_
  refine mx_in_1 d_Vh_row_17 ?_
  refine mx_is5 d_Vh_row_18 ?_
  refine mx_loopX (α := (mx_I)) (N := Z - 1) (a0 := (mx_up I (x + 15) (0) (nI (0)))) (fun i z9 => ri_inv I z9 (x + 15) m h G w (i + 1)) (ls := fun i z9 => [some (.ref (x)), some (.int (nI (h))), some (.int (w)), some (.int (bI (b))), some (.int (nI (vs_bs (vs_rp m h G w) i))), some (.int (nI (i + 1)))]) (X := fun i z9 => (t, S, z9, P, J)) (ri_0) (fun i hi z9 hinv ih => ?_) (fun z9 hinv => ?_)
  · skip
    obtain ⟨K, hz9⟩ : ∃ q, q = z9 := ⟨_, rfl⟩
    subst hz9
    try dsimp only at hinv ih ⊢
    have hSr : st_rel K (x + 23) m := hSrI.congr (fun c h1 h2 => mx_offn hinv.1 (by omega))
    have hPr : pe_rel K (x + 23 + 1) m := hSr.1
    refine mx_il5 d_Vh_row_20 ?_
    refine mx_in_1 d_Vh_row_22 ?_
    refine mx_al0 d_Vh_row_23 ?_
    refine mx_getR d_Vh_row_24 fl_Vh_51 (by assumption) (by assumption) ?_
    refine mx_getR d_Vh_row_27 fl_Vh_162 (by assumption) (by assumption) ?_
    refine mx_getI d_Vh_row_30 fl_Vh_325 (by assumption) ?_
    refine mx_ti (y := nI (G)) (hPr.2.1.trans hG) ?_
    refine mx_ishl d_Vh_row_33 ?_
    refine mx_ti (y := nI (Z)) (hZ) ?_
    refine mx_icN_ge 101 d_Vh_row_34 (by decide) (by omega) (by omega) (fun c_34 => absurd c_34 (by omega)) (fun c_34 => ?_)
    have hi2 : i + 1 < 2 ^ G := by rw [← hZ2]; omega
    have hbl := vs_bs_le (vs_rp m h G w) i
    have hp1 := vs_pcb (i + 1)
    have hp2 := vs_pcb (vs_bs (vs_rp m h G w) i)
    refine mx_il5 d_Vh_row_37 ?_
    refine mx_il2 d_Vh_row_39 ?_
    refine mx_ic_m1 d_Vh_row_40 ?_
    refine mx_ixor d_Vh_row_41 ?_
    refine mx_iand d_Vh_row_42 ?_
    refine mx_if_eq 49 d_Vh_row_43 (by decide) (fun c_43 => ?_) (fun c_43 => ?_)
    · skip
      refine mx_al0 d_Vh_row_49 ?_
      refine mx_getR d_Vh_row_50 fl_Vh_34 (by assumption) (by assumption) ?_
      refine mx_il5 d_Vh_row_53 ?_
      refine mx_al0 d_Vh_row_55 ?_
      refine mx_il1 d_Vh_row_56 ?_
      refine mx_il5 d_Vh_row_57 ?_
      refine mx_cV2i d_Vh_row_59 (c_Vh_firstBehind hV hSt hSr hG hG8 hr hrs hsy (h := h) (s := i + 1) (by omega) (by omega) hi2 (ri_use hG8 hi2 hinv c_43)) ok_Vh_firstBehind ml_Vh_328 (by assumption) ⟨rfl, rfl⟩ (by decide) (Nat.le_of_ble_eq_true rfl) ?_
      refine mx_cS3v d_Vh_row_62 (c_put (k := i + 1) (by assumption) (by omega) (by omega)) ok_Vh_put ml_Vh_272 (by decide) (Nat.le_of_ble_eq_true rfl) ?_
      refine mx_al0 d_Vh_row_65 ?_
      refine mx_getR d_Vh_row_66 fl_Vh_34 (by assumption) (by assumption) ?_
      refine mx_il5 d_Vh_row_69 ?_
      refine mx_cS2i d_Vh_row_71 (c_get (k := i + 1) (by assumption) (by omega) (by omega)) ok_Vh_get ml_Vh_171 (by decide) (Nat.le_of_ble_eq_true rfl) ?_
      refine mx_ti (y := (ev (vs_E m h G (i + 1)))) (vs_upx) ?_
      refine mx_ic_m1 d_Vh_row_74 ?_
      refine mx_icmp_eq 95 d_Vh_row_75 (by decide) (fun c_75 => ?_) (fun c_75 => ?_)
      · skip
        have k0 : vs_rp m h G w (i + 1) = false := by unfold vs_rp; rw [decide_eq_false (ev_e c_75)]; simp
        refine mx_iN5 d_Vh_row_95 ?_
        refine mx_goto 20 d_Vh_row_98 (by decide) ?_
        have e4 : nI (vs_bs (vs_rp m h G w) i) = nI (vs_bs (vs_rp m h G w) (i + 1)) := by rw [vs_bs_s]; first | (rw [if_neg (fun z => absurd z.1 (by rw [k0]; decide))]; done) | (rw [if_pos ⟨k0, by omega⟩]; done) | (rw [if_neg (fun z => absurd z.2 (by omega))]; done)
        refine mx_lsc (congrArg (fun z9 => ([some (.ref (x)), some (.int (nI (h))), some (.int (w)), some (.int (bI (b))), some (.int (z9)), some (.int (nI (i + 1 + 1)))] : List (Option Value))) e4) ?_
        have e5 : nI (i + 1 + 1) = nI ((i + 1) + 1) := by rfl
        refine mx_lsc (congrArg (fun z9 => ([some (.ref (x)), some (.int (nI (h))), some (.int (w)), some (.int (bI (b))), some (.int (nI (vs_bs (vs_rp m h G w) (i + 1)))), some (.int (z9))] : List (Option Value))) e5) ?_
        exact ih (mx_up K (x + 15) (i + 1) ((ev (vs_E m h G (i + 1))))) (ri_step hinv)
      · skip
        have k0 : vs_rp m h G w (i + 1) = true := by unfold vs_rp; rw [decide_eq_true c_43, decide_eq_true (ev_n c_75)]; rfl
        refine mx_il5 d_Vh_row_78 ?_
        refine mx_cS1i d_Vh_row_80 (c_bitCountN (k := i + 1) (by omega)) ok_Jd_Integer_bitCount ml_Vh_331 (by decide) (Nat.le_of_ble_eq_true rfl) ?_
        refine mx_il4 d_Vh_row_83 ?_
        refine mx_cS1i d_Vh_row_85 (c_bitCountN (k := vs_bs (vs_rp m h G w) i) (by omega)) ok_Jd_Integer_bitCount ml_Vh_331 (by decide) (Nat.le_of_ble_eq_true rfl) ?_
        refine mx_icN_le 95 d_Vh_row_88 (by decide) (by omega) (by omega) (fun c_88 => ?_) (fun c_88 => ?_)
        · skip
          refine mx_iN5 d_Vh_row_95 ?_
          refine mx_goto 20 d_Vh_row_98 (by decide) ?_
          have e4 : nI (vs_bs (vs_rp m h G w) i) = nI (vs_bs (vs_rp m h G w) (i + 1)) := by rw [vs_bs_s]; first | (rw [if_neg (fun z => absurd z.1 (by rw [k0]; decide))]; done) | (rw [if_pos ⟨k0, by omega⟩]; done) | (rw [if_neg (fun z => absurd z.2 (by omega))]; done)
          refine mx_lsc (congrArg (fun z9 => ([some (.ref (x)), some (.int (nI (h))), some (.int (w)), some (.int (bI (b))), some (.int (z9)), some (.int (nI (i + 1 + 1)))] : List (Option Value))) e4) ?_
          have e5 : nI (i + 1 + 1) = nI ((i + 1) + 1) := by rfl
          refine mx_lsc (congrArg (fun z9 => ([some (.ref (x)), some (.int (nI (h))), some (.int (w)), some (.int (bI (b))), some (.int (nI (vs_bs (vs_rp m h G w) (i + 1)))), some (.int (z9))] : List (Option Value))) e5) ?_
          exact ih (mx_up K (x + 15) (i + 1) ((ev (vs_E m h G (i + 1))))) (ri_step hinv)
        · skip
          refine mx_il5 d_Vh_row_91 ?_
          refine mx_is4 d_Vh_row_93 ?_
          refine mx_iN5 d_Vh_row_95 ?_
          refine mx_goto 20 d_Vh_row_98 (by decide) ?_
          have e4 : nI (i + 1) = nI (vs_bs (vs_rp m h G w) (i + 1)) := by rw [vs_bs_s]; first | (rw [if_neg (fun z => absurd z.1 (by rw [k0]; decide))]; done) | (rw [if_pos ⟨k0, by omega⟩]; done) | (rw [if_neg (fun z => absurd z.2 (by omega))]; done)
          refine mx_lsc (congrArg (fun z9 => ([some (.ref (x)), some (.int (nI (h))), some (.int (w)), some (.int (bI (b))), some (.int (z9)), some (.int (nI (i + 1 + 1)))] : List (Option Value))) e4) ?_
          have e5 : nI (i + 1 + 1) = nI ((i + 1) + 1) := by rfl
          refine mx_lsc (congrArg (fun z9 => ([some (.ref (x)), some (.int (nI (h))), some (.int (w)), some (.int (bI (b))), some (.int (nI (vs_bs (vs_rp m h G w) (i + 1)))), some (.int (z9))] : List (Option Value))) e5) ?_
          exact ih (mx_up K (x + 15) (i + 1) ((ev (vs_E m h G (i + 1))))) (ri_step hinv)
    · skip
      have k0 : vs_rp m h G w (i + 1) = false := by unfold vs_rp; rw [decide_eq_false c_43]; rfl
      refine mx_goto 95 d_Vh_row_46 (by decide) ?_
      refine mx_iN5 d_Vh_row_95 ?_
      refine mx_goto 20 d_Vh_row_98 (by decide) ?_
      have e4 : nI (vs_bs (vs_rp m h G w) i) = nI (vs_bs (vs_rp m h G w) (i + 1)) := by rw [vs_bs_s]; first | (rw [if_neg (fun z => absurd z.1 (by rw [k0]; decide))]; done) | (rw [if_pos ⟨k0, by omega⟩]; done) | (rw [if_neg (fun z => absurd z.2 (by omega))]; done)
      refine mx_lsc (congrArg (fun z9 => ([some (.ref (x)), some (.int (nI (h))), some (.int (w)), some (.int (bI (b))), some (.int (z9)), some (.int (nI (i + 1 + 1)))] : List (Option Value))) e4) ?_
      have e5 : nI (i + 1 + 1) = nI ((i + 1) + 1) := by rfl
      refine mx_lsc (congrArg (fun z9 => ([some (.ref (x)), some (.int (nI (h))), some (.int (w)), some (.int (bI (b))), some (.int (nI (vs_bs (vs_rp m h G w) (i + 1)))), some (.int (z9))] : List (Option Value))) e5) ?_
      exact ih K (ri_skip hinv c_43)
  · skip
    obtain ⟨K, hz9⟩ : ∃ q, q = z9 := ⟨_, rfl⟩
    subst hz9
    try dsimp only at hinv ⊢
    have hSr : st_rel K (x + 23) m := hSrI.congr (fun c h1 h2 => mx_offn hinv.1 (by omega))
    have hPr : pe_rel K (x + 23 + 1) m := hSr.1
    have hbl := vs_bs_le (vs_rp m h G w) (Z - 1)
    refine mx_il5 d_Vh_row_20 ?_
    refine mx_in_1 d_Vh_row_22 ?_
    refine mx_al0 d_Vh_row_23 ?_
    refine mx_getR d_Vh_row_24 fl_Vh_51 (by assumption) (by assumption) ?_
    refine mx_getR d_Vh_row_27 fl_Vh_162 (by assumption) (by assumption) ?_
    refine mx_getI d_Vh_row_30 fl_Vh_325 (by assumption) ?_
    refine mx_ti (y := nI (G)) (hPr.2.1.trans hG) ?_
    refine mx_ishl d_Vh_row_33 ?_
    refine mx_ti (y := nI (Z)) (hZ) ?_
    refine mx_icN_ge 101 d_Vh_row_34 (by decide) (by omega) (by omega) (fun c_34 => ?_) (fun c_34 => absurd c_34 (by omega))
    refine mx_il3 d_Vh_row_101 ?_
    refine mx_ifB_eq 110 d_Vh_row_102 (by decide) (fun c_102 => ?_) (fun c_102 => ?_)
    · skip
      refine mx_il4 d_Vh_row_110 ?_
      refine mx_cS1i d_Vh_row_112 (c_bitCountN (k := vs_bs (vs_rp m h G w) (Z - 1)) (by omega)) ok_Jd_Integer_bitCount ml_Vh_331 (by decide) (Nat.le_of_ble_eq_true rfl) ?_
      exact mx_iret d_Vh_row_115 rfl (mx_pR_i (by rw [hZ2]; simp [sp_row, vs_best, *]) hinv.1)
    · skip
      refine mx_il4 d_Vh_row_105 ?_
      refine mx_goto 115 d_Vh_row_107 (by decide) ?_
      exact mx_iret d_Vh_row_115 rfl (mx_pR_i (by rw [hZ2]; simp [sp_row, vs_best, *]) hinv.1)
theorem c_Mo_fitsFrom (hM : mo_ok S P mo) (hm : I (mo + 1) = m) {h g q : Nat} (hh : h < 8) (hg : g < 8) (hq : q < 8) (hsg : 1 ≤ SG m g ∧ SG m g ≤ 4 ∧ m (43 + 3 * g + 0) = nI (SG m g)) : mx_C l E M_Mo_fitsFrom 3 0 0 [.ref (mo), .int (nI (h)), .int (nI (g)), .int (nI (q))] (t, S, I, P, J) (mx_ri (bI (vs_ft m h g q)) (t, S, I, P, J)) := by
  obtain ⟨hM0, hMp1, hMp2, hMp4, hMp5, hMp7, hMp14, hMp21, hMp22, hMp23, hMp24, hMp25, hMp26, hMp27, hMs1, hMs2, hMs3, hMs4, hMs5, hMs6, hMs7, hMs8, hMs9, hMs10, hMs11, hMs12, hMs13⟩ := id hM
  refine mx_C_of (ls0 := [some (.ref (mo)), some (.int (nI (h))), some (.int (nI (g))), some (.int (nI (q))), none, none]) (by decide +kernel) rfl rfl (Nat.le_of_ble_eq_true rfl) rfl ?_
  refine mx_al0 d_Mo_fitsFrom_0 ?_
  refine mx_il1 d_Mo_fitsFrom_1 ?_
  refine mx_il2 d_Mo_fitsFrom_2 ?_
  refine mx_cV2i d_Mo_fitsFrom_3 (cm_mayMeet hM hm (h := h) (g := g) (by omega) (by omega)) ok_Mo_mayMeet ml_Mo_78 (by assumption) ⟨rfl, rfl⟩ (by decide) (Nat.le_of_ble_eq_true rfl) ?_
  refine mx_ifB_eq 22 d_Mo_fitsFrom_6 (by decide) (fun c_6 => ?_) (fun c_6 => ?_)
  · skip
    refine mx_in_0 d_Mo_fitsFrom_22 ?_
    exact mx_zret d_Mo_fitsFrom_23 rfl (by first | exact Or.inl rfl | exact Or.inr rfl) (mx_ri_of (by unfold vs_ft; first | (rw [c_6]; rfl) | (rw [decide_eq_false (by omega)]; simp; rfl)))
  · skip
    refine mx_il3 d_Mo_fitsFrom_9 ?_
    refine mx_al0 d_Mo_fitsFrom_10 ?_
    refine mx_il2 d_Mo_fitsFrom_11 ?_
    refine mx_in_0 d_Mo_fitsFrom_12 ?_
    refine mx_cV2i d_Mo_fitsFrom_13 (cm_ofGuest hM hm (g := g) (k := 0) (by omega) (by omega)) ok_Mo_ofGuest ml_Mo_71 (by assumption) ⟨rfl, rfl⟩ (by decide) (Nat.le_of_ble_eq_true rfl) ?_
    refine mx_ti (y := nI (SG m g)) (hsg.2.2) ?_
    refine mx_iaddN d_Mo_fitsFrom_16 ?_
    refine mx_bip 8 d_Mo_fitsFrom_17 (by decide) ?_
    refine mx_icN_le 24 d_Mo_fitsFrom_19 (by decide) (by omega) (by omega) (fun c_19 => ?_) (fun c_19 => ?_)
    · skip
      refine mx_in_1 d_Mo_fitsFrom_24 ?_
      refine mx_is4 d_Mo_fitsFrom_25 ?_
      refine mx_il3 d_Mo_fitsFrom_27 ?_
      refine mx_is5 d_Mo_fitsFrom_28 ?_
      refine mx_lsc (congrArg (fun z9 => ([some (.ref (mo)), some (.int (nI (h))), some (.int (nI (g))), some (.int (nI (q))), some (.int (z9)), some (.int (nI (q)))] : List (Option Value))) (rfl)) ?_
      refine mx_loop (N := SG m g) (ls := fun u => [some (.ref (mo)), some (.int (nI (h))), some (.int (nI (g))), some (.int (nI (q))), some (.int (bI (!(vs_any (fun j9 => !bt (HB m h g) (q + j9)) u)))), some (.int (nI (q + u)))]) (X := fun u => (t, S, I, P, J)) (fun u hu ih => ?_) ?_
      · try dsimp only
        refine mx_il5 d_Mo_fitsFrom_30 ?_
        refine mx_il3 d_Mo_fitsFrom_32 ?_
        refine mx_al0 d_Mo_fitsFrom_33 ?_
        refine mx_il2 d_Mo_fitsFrom_34 ?_
        refine mx_in_0 d_Mo_fitsFrom_35 ?_
        refine mx_cV2i d_Mo_fitsFrom_36 (cm_ofGuest hM hm (g := g) (k := 0) (by omega) (by omega)) ok_Mo_ofGuest ml_Mo_71 (by assumption) ⟨rfl, rfl⟩ (by decide) (Nat.le_of_ble_eq_true rfl) ?_
        refine mx_ti (y := nI (SG m g)) (hsg.2.2) ?_
        refine mx_iaddN d_Mo_fitsFrom_39 ?_
        refine mx_icN_ge 74 d_Mo_fitsFrom_40 (by decide) (by omega) (by omega) (fun c_40 => absurd c_40 (by omega)) (fun c_40 => ?_)
        refine mx_il4 d_Mo_fitsFrom_43 ?_
        refine mx_ifB_eq 74 d_Mo_fitsFrom_45 (by decide) (fun c_45 => ?_) (fun c_45 => ?_)
        · skip
          refine mx_il4 d_Mo_fitsFrom_74 ?_
          exact mx_zret d_Mo_fitsFrom_76 rfl (bI_01 _) (mx_ri_of (by unfold vs_ft; rw [c_6, decide_eq_true c_19]; first | rfl | (have z : vs_any (fun j9 => !bt (HB m h g) (q + j9)) u = true := (by simpa using c_45); have z2 : vs_any (fun j9 => !bt (HB m h g) (q + j9)) (SG m g) = true := vs_any_mono (by omega) z; rw [z, z2]; rfl)))
        · skip
          refine mx_al0 d_Mo_fitsFrom_48 ?_
          refine mx_il1 d_Mo_fitsFrom_49 ?_
          refine mx_in_1 d_Mo_fitsFrom_50 ?_
          refine mx_cV2i d_Mo_fitsFrom_51 (cm_of hM hm (h := h) (k := 1) (by omega) (by omega)) ok_Mo_of ml_Mo_68 (by assumption) ⟨rfl, rfl⟩ (by decide) (Nat.le_of_ble_eq_true rfl) ?_
          refine mx_al0 d_Mo_fitsFrom_54 ?_
          refine mx_il2 d_Mo_fitsFrom_55 ?_
          refine mx_in_1 d_Mo_fitsFrom_56 ?_
          refine mx_cV2i d_Mo_fitsFrom_57 (cm_ofGuest hM hm (g := g) (k := 1) (by omega) (by omega)) ok_Mo_ofGuest ml_Mo_71 (by assumption) ⟨rfl, rfl⟩ (by decide) (Nat.le_of_ble_eq_true rfl) ?_
          refine mx_iand d_Mo_fitsFrom_60 ?_
          refine mx_ti (y := (HB m h g)) (rfl) ?_
          refine mx_il5 d_Mo_fitsFrom_61 ?_
          refine mx_cS2i d_Mo_fitsFrom_63 (c_Mo_isOf (j := q + u) (by omega)) ok_Mo_isOf ml_Mo_74 (by decide) (Nat.le_of_ble_eq_true rfl) ?_
          refine mx_is4 d_Mo_fitsFrom_66 ?_
          refine mx_iN5 d_Mo_fitsFrom_68 ?_
          refine mx_goto 30 d_Mo_fitsFrom_71 (by decide) ?_
          have e4 : bI (bt ((HB m h g)) (q + u)) = bI (!(vs_any (fun j9 => !bt (HB m h g) (q + j9)) (u + 1))) := by congr 1; rw [vs_any_S]; have z : vs_any (fun j9 => !bt (HB m h g) (q + j9)) u = false := (by simpa using c_45); rw [z]; simp
          refine mx_lsc (congrArg (fun z9 => ([some (.ref (mo)), some (.int (nI (h))), some (.int (nI (g))), some (.int (nI (q))), some (.int (z9)), some (.int (nI (q + u + 1)))] : List (Option Value))) e4) ?_
          have e5 : nI (q + u + 1) = nI (q + (u + 1)) := by rfl
          refine mx_lsc (congrArg (fun z9 => ([some (.ref (mo)), some (.int (nI (h))), some (.int (nI (g))), some (.int (nI (q))), some (.int (bI (!(vs_any (fun j9 => !bt (HB m h g) (q + j9)) (u + 1))))), some (.int (z9))] : List (Option Value))) e5) ?_
          exact ih
      · try dsimp only
        refine mx_il5 d_Mo_fitsFrom_30 ?_
        refine mx_il3 d_Mo_fitsFrom_32 ?_
        refine mx_al0 d_Mo_fitsFrom_33 ?_
        refine mx_il2 d_Mo_fitsFrom_34 ?_
        refine mx_in_0 d_Mo_fitsFrom_35 ?_
        refine mx_cV2i d_Mo_fitsFrom_36 (cm_ofGuest hM hm (g := g) (k := 0) (by omega) (by omega)) ok_Mo_ofGuest ml_Mo_71 (by assumption) ⟨rfl, rfl⟩ (by decide) (Nat.le_of_ble_eq_true rfl) ?_
        refine mx_ti (y := nI (SG m g)) (hsg.2.2) ?_
        refine mx_iaddN d_Mo_fitsFrom_39 ?_
        refine mx_icN_ge 74 d_Mo_fitsFrom_40 (by decide) (by omega) (by omega) (fun c_40 => ?_) (fun c_40 => absurd c_40 (by omega))
        refine mx_il4 d_Mo_fitsFrom_74 ?_
        exact mx_zret d_Mo_fitsFrom_76 rfl (bI_01 _) (mx_ri_of (by unfold vs_ft; rw [c_6, decide_eq_true c_19]; first | rfl | (have z : vs_any (fun j9 => !bt (HB m h g) (q + j9)) u = true := (by simpa using c_45); have z2 : vs_any (fun j9 => !bt (HB m h g) (q + j9)) (SG m g) = true := vs_any_mono (by omega) z; rw [z, z2]; rfl)))
    · skip
      refine mx_in_0 d_Mo_fitsFrom_22 ?_
      exact mx_zret d_Mo_fitsFrom_23 rfl (by first | exact Or.inl rfl | exact Or.inr rfl) (mx_ri_of (by unfold vs_ft; first | (rw [c_6]; rfl) | (rw [decide_eq_false (by omega)]; simp; rfl)))
theorem c_Mo_rowsOf (hM : mo_ok S P mo) (hm : I (mo + 1) = m) (hG : m 4 = nI G) (hG8 : G ≤ 8) (hsy : sy_ok m G) {h : Nat} (hh : h < 8) {w : Int32} : mx_C l E M_Mo_rowsOf 4 0 0 [.ref (mo), .int (nI (h)), .int (w)] (t, S, I, P, J) (mx_sR none t S P J (fun K => wr_inv I K (mo + 13) m h G w 8 0)) := by
  obtain ⟨hM0, hMp1, hMp2, hMp4, hMp5, hMp7, hMp14, hMp21, hMp22, hMp23, hMp24, hMp25, hMp26, hMp27, hMs1, hMs2, hMs3, hMs4, hMs5, hMs6, hMs7, hMs8, hMs9, hMs10, hMs11, hMs12, hMs13⟩ := id hM
  have hm0 := hm
  refine mx_C_of (ls0 := [some (.ref (mo)), some (.int (nI (h))), some (.int (w)), none, none, none]) (by decide +kernel) rfl rfl (Nat.le_of_ble_eq_true rfl) rfl ?_
  refine mx_in_0 d_Mo_rowsOf_0 ?_
  refine mx_is3 d_Mo_rowsOf_1 ?_
  refine mx_loopX (α := (mx_I)) (N := 2304) (a0 := I) (fun i z9 => c0_inv I z9 (mo + 13) i) (ls := fun i z9 => [some (.ref (mo)), some (.int (nI (h))), some (.int (w)), some (.int (nI (i))), none, none]) (X := fun i z9 => (t, S, z9, P, J)) (⟨mx_off.rf, fun k hk => absurd hk (by omega)⟩) (fun i hi z9 hinv ih => ?_) (fun z9 hinv => ?_)
  · skip
    obtain ⟨K, hz9⟩ : ∃ q, q = z9 := ⟨_, rfl⟩
    subst hz9
    try dsimp only at hinv ih ⊢
    refine mx_il3 d_Mo_rowsOf_2 ?_
    refine mx_sip 2304 d_Mo_rowsOf_3 (by decide) ?_
    refine mx_icN_ge 30 d_Mo_rowsOf_6 (by decide) (by omega) (by omega) (fun c_6 => absurd c_6 (by omega)) (fun c_6 => ?_)
    refine mx_al0 d_Mo_rowsOf_9 ?_
    refine mx_getR d_Mo_rowsOf_10 fl_Mo_51 (by assumption) (by assumption) ?_
    refine mx_il3 d_Mo_rowsOf_13 ?_
    refine mx_il3 d_Mo_rowsOf_14 ?_
    refine mx_if_ne 22 d_Mo_rowsOf_15 (by decide) (fun c_15 => ?_) (fun c_15 => ?_)
    · skip
      have z0 := nI_gt c_15
      refine mx_in_0 d_Mo_rowsOf_22 ?_
      refine mx_zast d_Mo_rowsOf_23 (by assumption) (nI_inb (by omega) (by omega)) (by first | exact Or.inl rfl | exact Or.inr rfl) ?_
      rw [nI_clamp (by omega)]
      refine mx_iN3 d_Mo_rowsOf_24 ?_
      refine mx_goto 2 d_Mo_rowsOf_27 (by decide) ?_
      exact ih (mx_up K (mo + 13) (i) (nI (0))) (c0_step hinv (by first | (rw [if_neg (by omega)]; done) | (rw [if_pos (by omega)]; done)))
    · skip
      have z0 := nI_z (by omega) c_15
      refine mx_in_1 d_Mo_rowsOf_18 ?_
      refine mx_goto 23 d_Mo_rowsOf_19 (by decide) ?_
      refine mx_zast d_Mo_rowsOf_23 (by assumption) (nI_inb (by omega) (by omega)) (by first | exact Or.inl rfl | exact Or.inr rfl) ?_
      rw [nI_clamp (by omega)]
      refine mx_iN3 d_Mo_rowsOf_24 ?_
      refine mx_goto 2 d_Mo_rowsOf_27 (by decide) ?_
      exact ih (mx_up K (mo + 13) (i) (nI (1))) (c0_step hinv (by first | (rw [if_neg (by omega)]; done) | (rw [if_pos (by omega)]; done)))
  · skip
    obtain ⟨K, hz9⟩ : ∃ q, q = z9 := ⟨_, rfl⟩
    subst hz9
    try dsimp only at hinv ⊢
    refine mx_il3 d_Mo_rowsOf_2 ?_
    refine mx_sip 2304 d_Mo_rowsOf_3 (by decide) ?_
    refine mx_icN_ge 30 d_Mo_rowsOf_6 (by decide) (by omega) (by omega) (fun c_6 => ?_) (fun c_6 => absurd c_6 (by omega))
    refine mx_in_0 d_Mo_rowsOf_30 ?_
    refine mx_is3 d_Mo_rowsOf_31 ?_
    refine mx_loopX (α := (mx_I)) (N := 8) (a0 := K) (fun q z9 => wr_inv I z9 (mo + 13) m h G w q 0) (ls := fun q z9 => [some (.ref (mo)), some (.int (nI (h))), some (.int (w)), some (.int (nI (q))), none, none]) (X := fun q z9 => (t, S, z9, P, J)) (wr_0 hinv) (fun q hq z9 hinv ih => ?_) (fun z9 hinv => ?_)
    · skip
      obtain ⟨K, hz9⟩ : ∃ q, q = z9 := ⟨_, rfl⟩
      subst hz9
      try dsimp only at hinv ih ⊢
      refine mx_il3 d_Mo_rowsOf_32 ?_
      refine mx_bip 8 d_Mo_rowsOf_33 (by decide) ?_
      refine mx_icN_ge 168 d_Mo_rowsOf_35 (by decide) (by omega) (by omega) (fun c_35 => absurd c_35 (by omega)) (fun c_35 => ?_)
      refine mx_in_0 d_Mo_rowsOf_38 ?_
      refine mx_is4 d_Mo_rowsOf_39 ?_
      have ih32 := ih
      have hinv32 := hinv
      refine mx_loopX (α := (mx_I)) (N := 256) (a0 := K) (fun s z9 => wr_inv I z9 (mo + 13) m h G w q s) (ls := fun s z9 => [some (.ref (mo)), some (.int (nI (h))), some (.int (w)), some (.int (nI (q))), some (.int (nI (s))), none]) (X := fun s z9 => (t, S, z9, P, J)) (hinv) (fun s hs z9 hinv ih => ?_) (fun z9 hinv => ?_)
      · skip
        obtain ⟨K, hz9⟩ : ∃ q, q = z9 := ⟨_, rfl⟩
        subst hz9
        try dsimp only at hinv ih ⊢
        refine mx_il4 d_Mo_rowsOf_41 ?_
        refine mx_sip 256 d_Mo_rowsOf_43 (by decide) ?_
        refine mx_icN_ge 162 d_Mo_rowsOf_46 (by decide) (by omega) (by omega) (fun c_46 => absurd c_46 (by omega)) (fun c_46 => ?_)
        refine mx_al0 d_Mo_rowsOf_49 ?_
        refine mx_getR d_Mo_rowsOf_50 fl_Mo_51 (by assumption) (by assumption) ?_
        refine mx_sip 256 d_Mo_rowsOf_53 (by decide) ?_
        refine mx_il3 d_Mo_rowsOf_56 ?_
        refine mx_imulN d_Mo_rowsOf_57 ?_
        refine mx_il4 d_Mo_rowsOf_58 ?_
        refine mx_iaddN d_Mo_rowsOf_60 ?_
        refine mx_zald d_Mo_rowsOf_61 (by assumption) (nI_inb (by omega) (by omega)) ?_
        refine mx_ti (y := K (mo + 13) (256 * q + s)) (by rw [nI_clamp (by omega)]) ?_
        refine mx_if_ne 68 d_Mo_rowsOf_62 (by decide) (fun c_62 => ?_) (fun c_62 => ?_)
        · skip
          refine mx_al0 d_Mo_rowsOf_68 ?_
          refine mx_getR d_Mo_rowsOf_69 fl_Mo_51 (by assumption) (by assumption) ?_
          refine mx_sip 256 d_Mo_rowsOf_72 (by decide) ?_
          refine mx_il3 d_Mo_rowsOf_75 ?_
          refine mx_in_1 d_Mo_rowsOf_76 ?_
          refine mx_iaddN d_Mo_rowsOf_77 ?_
          refine mx_imulN d_Mo_rowsOf_78 ?_
          refine mx_il4 d_Mo_rowsOf_79 ?_
          refine mx_iaddN d_Mo_rowsOf_81 ?_
          refine mx_in_1 d_Mo_rowsOf_82 ?_
          refine mx_zast d_Mo_rowsOf_83 (by assumption) (nI_inb (by omega) (by omega)) (by first | exact Or.inl rfl | exact Or.inr rfl) ?_
          rw [nI_clamp (by omega)]
          refine mx_in_0 d_Mo_rowsOf_84 ?_
          refine mx_is5 d_Mo_rowsOf_85 ?_
          have ih41 := ih
          have hinv41 := hinv
          refine mx_loopX (α := (mx_I)) (N := G) (a0 := (mx_up K (mo + 13) (256 * (q + 1) + s) (nI (1)))) (fun g z9 => wr2 I z9 (mo + 13) m h G w q s g) (ls := fun g z9 => [some (.ref (mo)), some (.int (nI (h))), some (.int (w)), some (.int (nI (q))), some (.int (nI (s))), some (.int (nI (g)))]) (X := fun g z9 => (t, S, z9, P, J)) (wr_2 hq hs hinv c_62) (fun g hg z9 hinv ih => ?_) (fun z9 hinv => ?_)
          · skip
            obtain ⟨K, hz9⟩ : ∃ q, q = z9 := ⟨_, rfl⟩
            subst hz9
            try dsimp only at hinv ih ⊢
            have hm : K (mo + 1) = m := (mx_offn hinv.1.1 (by omega)).trans hm0
            refine mx_il5 d_Mo_rowsOf_87 ?_
            refine mx_al0 d_Mo_rowsOf_89 ?_
            refine mx_getR d_Mo_rowsOf_90 fl_Mo_7 (by assumption) (by assumption) ?_
            refine mx_in_4 d_Mo_rowsOf_93 ?_
            refine mx_iald d_Mo_rowsOf_94 (by assumption) (nI_inb (by omega) (by omega)) ?_
            refine mx_ti (y := K (mo + 1) (4)) (by rw [nI_clamp (by omega)]) ?_
            refine mx_ti (y := nI (G)) ((congrFun hm 4).trans hG) ?_
            refine mx_icN_ge 156 d_Mo_rowsOf_95 (by decide) (by omega) (by omega) (fun c_95 => absurd c_95 (by omega)) (fun c_95 => ?_)
            refine mx_il2 d_Mo_rowsOf_98 ?_
            refine mx_il4 d_Mo_rowsOf_99 ?_
            refine mx_ic_m1 d_Mo_rowsOf_101 ?_
            refine mx_ixor d_Mo_rowsOf_102 ?_
            refine mx_iand d_Mo_rowsOf_103 ?_
            refine mx_il5 d_Mo_rowsOf_104 ?_
            refine mx_cS2i d_Mo_rowsOf_106 (c_Mo_isOf (j := g) (by omega)) ok_Mo_isOf ml_Mo_74 (by decide) (Nat.le_of_ble_eq_true rfl) ?_
            refine mx_ifB_eq 150 d_Mo_rowsOf_109 (by decide) (fun c_109 => ?_) (fun c_109 => ?_)
            · skip
              have k0 : s.testBit g = true ∨ bt w g = false := by rw [b_and, b_xor, vs_bt_nI _ _ (by omega), b_m1 g (by omega)] at c_109; cases e : s.testBit g; (rw [e] at c_109; exact Or.inr (by simpa using c_109)); exact Or.inl rfl
              refine mx_iN5 d_Mo_rowsOf_150 ?_
              refine mx_goto 87 d_Mo_rowsOf_153 (by decide) ?_
              exact ih K (wr2_skip hinv (by first | exact k0.elim Or.inl (fun z => Or.inr (Or.inl z)) | exact Or.inr (Or.inr c_120)))
            · skip
              have k1 : s.testBit g = false ∧ bt w g = true := by rw [b_and, b_xor, vs_bt_nI _ _ (by omega), b_m1 g (by omega)] at c_109; cases e : s.testBit g; (rw [e] at c_109; exact ⟨rfl, by simpa using c_109⟩); (rw [e] at c_109; simp at c_109)
              refine mx_al0 d_Mo_rowsOf_112 ?_
              refine mx_il1 d_Mo_rowsOf_113 ?_
              refine mx_il5 d_Mo_rowsOf_114 ?_
              refine mx_il3 d_Mo_rowsOf_116 ?_
              refine mx_cV3i d_Mo_rowsOf_117 (c_Mo_fitsFrom hM hm (h := h) (g := g) (q := q) (by omega) (by omega) (by omega) (hsy.s (by omega))) ok_Mo_fitsFrom ml_Mo_378 (by assumption) ⟨rfl, rfl⟩ (by decide) (Nat.le_of_ble_eq_true rfl) ?_
              refine mx_ifB_eq 150 d_Mo_rowsOf_120 (by decide) (fun c_120 => ?_) (fun c_120 => ?_)
              · skip
                refine mx_iN5 d_Mo_rowsOf_150 ?_
                refine mx_goto 87 d_Mo_rowsOf_153 (by decide) ?_
                exact ih K (wr2_skip hinv (by first | exact k0.elim Or.inl (fun z => Or.inr (Or.inl z)) | exact Or.inr (Or.inr c_120)))
              · skip
                have h8 := vs_ft8 c_120
                have hb2 := bset_256 s (by omega) g (by omega)
                refine mx_al0 d_Mo_rowsOf_123 ?_
                refine mx_getR d_Mo_rowsOf_124 fl_Mo_51 (by assumption) (by assumption) ?_
                refine mx_sip 256 d_Mo_rowsOf_127 (by decide) ?_
                refine mx_il3 d_Mo_rowsOf_130 ?_
                refine mx_al0 d_Mo_rowsOf_131 ?_
                refine mx_il5 d_Mo_rowsOf_132 ?_
                refine mx_in_0 d_Mo_rowsOf_134 ?_
                refine mx_cV2i d_Mo_rowsOf_135 (cm_ofGuest hM hm (g := g) (k := 0) (by omega) (by omega)) ok_Mo_ofGuest ml_Mo_71 (by assumption) ⟨rfl, rfl⟩ (by decide) (Nat.le_of_ble_eq_true rfl) ?_
                refine mx_ti (y := nI (SG m g)) ((hsy.s (by omega)).2.2) ?_
                refine mx_iaddN d_Mo_rowsOf_138 ?_
                have h8 := vs_ft8 c_120
                have hb2 := bset_256 s (by omega) g (by omega)
                refine mx_imulN d_Mo_rowsOf_139 ?_
                refine mx_il4 d_Mo_rowsOf_140 ?_
                refine mx_in_1 d_Mo_rowsOf_142 ?_
                refine mx_il5 d_Mo_rowsOf_143 ?_
                refine mx_ishl d_Mo_rowsOf_145 ?_
                refine mx_ior d_Mo_rowsOf_146 ?_
                refine mx_ti (y := nI (bset s g)) (bset_nI s (by omega) g (by omega)) ?_
                refine mx_iaddN d_Mo_rowsOf_147 ?_
                refine mx_in_1 d_Mo_rowsOf_148 ?_
                refine mx_zast d_Mo_rowsOf_149 (by assumption) (nI_inb (by omega) (by omega)) (by first | exact Or.inl rfl | exact Or.inr rfl) ?_
                rw [nI_clamp (by omega)]
                refine mx_iN5 d_Mo_rowsOf_150 ?_
                refine mx_goto 87 d_Mo_rowsOf_153 (by decide) ?_
                exact ih (mx_up K (mo + 13) (256 * (q + SG m g) + bset s g) (nI (1))) (wr2_step hq hs hg hG8 (hsy.s (by omega)).1 hinv k1.1 k1.2 c_120)
          · skip
            obtain ⟨K, hz9⟩ : ∃ q, q = z9 := ⟨_, rfl⟩
            subst hz9
            try dsimp only at hinv ⊢
            have hm : K (mo + 1) = m := (mx_offn hinv.1.1 (by omega)).trans hm0
            refine mx_il5 d_Mo_rowsOf_87 ?_
            refine mx_al0 d_Mo_rowsOf_89 ?_
            refine mx_getR d_Mo_rowsOf_90 fl_Mo_7 (by assumption) (by assumption) ?_
            refine mx_in_4 d_Mo_rowsOf_93 ?_
            refine mx_iald d_Mo_rowsOf_94 (by assumption) (nI_inb (by omega) (by omega)) ?_
            refine mx_ti (y := K (mo + 1) (4)) (by rw [nI_clamp (by omega)]) ?_
            refine mx_ti (y := nI (G)) ((congrFun hm 4).trans hG) ?_
            refine mx_icN_ge 156 d_Mo_rowsOf_95 (by decide) (by omega) (by omega) (fun c_95 => ?_) (fun c_95 => absurd c_95 (by omega))
            refine mx_iN4 d_Mo_rowsOf_156 ?_
            refine mx_goto 41 d_Mo_rowsOf_159 (by decide) ?_
            refine mx_dn5 ?_
            exact ih K (wr2_end hinv)
        · skip
          refine mx_goto 156 d_Mo_rowsOf_65 (by decide) ?_
          refine mx_iN4 d_Mo_rowsOf_156 ?_
          refine mx_goto 41 d_Mo_rowsOf_159 (by decide) ?_
          exact ih K (wr_skip hinv c_62)
      · skip
        obtain ⟨K, hz9⟩ : ∃ q, q = z9 := ⟨_, rfl⟩
        subst hz9
        try dsimp only at hinv ⊢
        refine mx_il4 d_Mo_rowsOf_41 ?_
        refine mx_sip 256 d_Mo_rowsOf_43 (by decide) ?_
        refine mx_icN_ge 162 d_Mo_rowsOf_46 (by decide) (by omega) (by omega) (fun c_46 => ?_) (fun c_46 => absurd c_46 (by omega))
        refine mx_iN3 d_Mo_rowsOf_162 ?_
        refine mx_goto 32 d_Mo_rowsOf_165 (by decide) ?_
        refine mx_dn4 ?_
        exact ih K (wr_next hinv)
    · skip
      obtain ⟨K, hz9⟩ : ∃ q, q = z9 := ⟨_, rfl⟩
      subst hz9
      try dsimp only at hinv ⊢
      refine mx_il3 d_Mo_rowsOf_32 ?_
      refine mx_bip 8 d_Mo_rowsOf_33 (by decide) ?_
      refine mx_icN_ge 168 d_Mo_rowsOf_35 (by decide) (by omega) (by omega) (fun c_35 => ?_) (fun c_35 => absurd c_35 (by omega))
      exact mx_vret d_Mo_rowsOf_168 rfl (mx_sR_of rfl hinv)
theorem c_Mo_row (hM : mo_ok S P mo) (hm : I (mo + 1) = m) (hH : m 3 = nI H) (hH8 : H ≤ 8) (hG : m 4 = nI G) (hG8 : G ≤ 8) (hsy : sy_ok m G) {v w : Int32} {b : Bool} : mx_C l E M_Mo_row 5 0 0 [.ref (mo), .int (v), .int (w), .int (bI (b))] (t, S, I, P, J) (mx_sR (some (.int (sp_row m H G v w b).2)) t S P J (fun K => mx_off (fun c => c = mo + 13) (mx_up I mo 0 (nI (sp_row m H G v w b).1)) K)) := by
  obtain ⟨hM0, hMp1, hMp2, hMp4, hMp5, hMp7, hMp14, hMp21, hMp22, hMp23, hMp24, hMp25, hMp26, hMp27, hMs1, hMs2, hMs3, hMs4, hMs5, hMs6, hMs7, hMs8, hMs9, hMs10, hMs11, hMs12, hMs13⟩ := id hM
  refine mx_C_of (ls0 := [some (.ref (mo)), some (.int (v)), some (.int (w)), some (.int (bI (b))), none, none]) (by decide +kernel) rfl rfl (Nat.le_of_ble_eq_true rfl) rfl ?_
  refine mx_al0 d_Mo_row_0 ?_
  refine mx_al0 d_Mo_row_1 ?_
  refine mx_il1 d_Mo_row_2 ?_
  refine mx_cV1i d_Mo_row_3 (cm_isHost hM hm hH hH8) ok_Mo_isHost ml_Mo_310 (by assumption) ⟨rfl, rfl⟩ (by decide) (Nat.le_of_ble_eq_true rfl) ?_
  refine mx_ifB_ne 13 d_Mo_row_6 (by decide) (fun c_6 => ?_) (fun c_6 => ?_)
  · skip
    obtain ⟨h, hhL, rfl⟩ := vs_isN_of (by omega) c_6
    have hhc : (nI h).toNatClampNeg = h := nI_clamp (by omega)
    have hhL8 : h < 8 := by omega
    refine mx_in_0 d_Mo_row_13 ?_
    refine mx_putI d_Mo_row_14 fl_Mo_54 (by assumption) ?_
    refine mx_al0 d_Mo_row_17 ?_
    refine mx_getI d_Mo_row_18 fl_Mo_54 (by assumption) ?_
    refine mx_ti (y := nI (0)) (vs_upx) ?_
    refine mx_if_le 26 d_Mo_row_21 (by decide) (fun c_21 => ?_) (fun c_21 => absurd (by decide) c_21)
    refine mx_al0 d_Mo_row_26 ?_
    refine mx_il1 d_Mo_row_27 ?_
    refine mx_il2 d_Mo_row_28 ?_
    refine mx_cV2vR d_Mo_row_29 (c_Mo_rowsOf hM (vs_hm hm) hG hG8 hsy (h := h) (by omega)) ok_Mo_rowsOf ml_Mo_381 (by assumption) ⟨rfl, rfl⟩ (by decide) (Nat.le_of_ble_eq_true rfl) (fun K hK => ?_)
    refine mx_in_0 d_Mo_row_32 ?_
    refine mx_is4 d_Mo_row_33 ?_
    refine mx_in_1 d_Mo_row_35 ?_
    refine mx_is5 d_Mo_row_36 ?_
    refine mx_loop (N := 255) (ls := fun i => [some (.ref (mo)), some (.int (nI (h))), some (.int (w)), some (.int (bI (b))), some (.int (nI (vs_bs (vs_r3 m h G w) i))), some (.int (nI (i + 1)))]) (X := fun i => (t, S, K, P, J)) (fun i hi ih => ?_) ?_
    · try dsimp only
      refine mx_il5 d_Mo_row_38 ?_
      refine mx_sip 256 d_Mo_row_40 (by decide) ?_
      refine mx_icN_ge 83 d_Mo_row_43 (by decide) (by omega) (by omega) (fun c_43 => absurd c_43 (by omega)) (fun c_43 => ?_)
      have hbl := vs_bs_le (vs_r3 m h G w) i
      have hp1 := vs_pcb (i + 1)
      have hp2 := vs_pcb (vs_bs (vs_r3 m h G w) i)
      refine mx_al0 d_Mo_row_46 ?_
      refine mx_getR d_Mo_row_47 fl_Mo_51 (by assumption) (by assumption) ?_
      refine mx_sip 2048 d_Mo_row_50 (by decide) ?_
      refine mx_il5 d_Mo_row_53 ?_
      refine mx_iaddN d_Mo_row_55 ?_
      refine mx_zald d_Mo_row_56 (by assumption) (nI_inb (by omega) (by omega)) ?_
      refine mx_ti (y := K (mo + 13) (2048 + (i + 1))) (by rw [nI_clamp (by omega)]) ?_
      refine mx_ti (y := bI (vs_r3 m h G w (i + 1))) (wr_r3 hG8 (fun g hg => (hsy.s hg).1) hK (by omega)) ?_
      refine mx_ifB_eq 77 d_Mo_row_57 (by decide) (fun c_57 => ?_) (fun c_57 => ?_)
      · skip
        refine mx_iN5 d_Mo_row_77 ?_
        refine mx_goto 38 d_Mo_row_80 (by decide) ?_
        have e4 : nI (vs_bs (vs_r3 m h G w) i) = nI (vs_bs (vs_r3 m h G w) (i + 1)) := by rw [vs_bs_s]; first | (rw [if_neg (fun z => absurd z.1 (by rw [c_57]; decide))]; done) | (rw [if_pos ⟨c_57, by omega⟩]; done) | (rw [if_neg (fun z => absurd z.2 (by omega))]; done)
        refine mx_lsc (congrArg (fun z9 => ([some (.ref (mo)), some (.int (nI (h))), some (.int (w)), some (.int (bI (b))), some (.int (z9)), some (.int (nI (i + 1 + 1)))] : List (Option Value))) e4) ?_
        have e5 : nI (i + 1 + 1) = nI ((i + 1) + 1) := by rfl
        refine mx_lsc (congrArg (fun z9 => ([some (.ref (mo)), some (.int (nI (h))), some (.int (w)), some (.int (bI (b))), some (.int (nI (vs_bs (vs_r3 m h G w) (i + 1)))), some (.int (z9))] : List (Option Value))) e5) ?_
        exact ih
      · skip
        refine mx_il5 d_Mo_row_60 ?_
        refine mx_cS1i d_Mo_row_62 (c_Mo_bitsN (k := i + 1)) ok_Mo_bits ml_Mo_303 (by decide) (Nat.le_of_ble_eq_true rfl) ?_
        refine mx_il4 d_Mo_row_65 ?_
        refine mx_cS1i d_Mo_row_67 (c_Mo_bitsN (k := vs_bs (vs_r3 m h G w) i)) ok_Mo_bits ml_Mo_303 (by decide) (Nat.le_of_ble_eq_true rfl) ?_
        refine mx_icN_le 77 d_Mo_row_70 (by decide) (by omega) (by omega) (fun c_70 => ?_) (fun c_70 => ?_)
        · skip
          refine mx_iN5 d_Mo_row_77 ?_
          refine mx_goto 38 d_Mo_row_80 (by decide) ?_
          have e4 : nI (vs_bs (vs_r3 m h G w) i) = nI (vs_bs (vs_r3 m h G w) (i + 1)) := by rw [vs_bs_s]; first | (rw [if_neg (fun z => absurd z.1 (by rw [c_57]; decide))]; done) | (rw [if_pos ⟨c_57, by omega⟩]; done) | (rw [if_neg (fun z => absurd z.2 (by omega))]; done)
          refine mx_lsc (congrArg (fun z9 => ([some (.ref (mo)), some (.int (nI (h))), some (.int (w)), some (.int (bI (b))), some (.int (z9)), some (.int (nI (i + 1 + 1)))] : List (Option Value))) e4) ?_
          have e5 : nI (i + 1 + 1) = nI ((i + 1) + 1) := by rfl
          refine mx_lsc (congrArg (fun z9 => ([some (.ref (mo)), some (.int (nI (h))), some (.int (w)), some (.int (bI (b))), some (.int (nI (vs_bs (vs_r3 m h G w) (i + 1)))), some (.int (z9))] : List (Option Value))) e5) ?_
          exact ih
        · skip
          refine mx_il5 d_Mo_row_73 ?_
          refine mx_is4 d_Mo_row_75 ?_
          refine mx_iN5 d_Mo_row_77 ?_
          refine mx_goto 38 d_Mo_row_80 (by decide) ?_
          have e4 : nI (i + 1) = nI (vs_bs (vs_r3 m h G w) (i + 1)) := by rw [vs_bs_s]; first | (rw [if_neg (fun z => absurd z.1 (by rw [c_57]; decide))]; done) | (rw [if_pos ⟨c_57, by omega⟩]; done) | (rw [if_neg (fun z => absurd z.2 (by omega))]; done)
          refine mx_lsc (congrArg (fun z9 => ([some (.ref (mo)), some (.int (nI (h))), some (.int (w)), some (.int (bI (b))), some (.int (z9)), some (.int (nI (i + 1 + 1)))] : List (Option Value))) e4) ?_
          have e5 : nI (i + 1 + 1) = nI ((i + 1) + 1) := by rfl
          refine mx_lsc (congrArg (fun z9 => ([some (.ref (mo)), some (.int (nI (h))), some (.int (w)), some (.int (bI (b))), some (.int (nI (vs_bs (vs_r3 m h G w) (i + 1)))), some (.int (z9))] : List (Option Value))) e5) ?_
          exact ih
    · try dsimp only
      have hb9 := vs_r3_bs (m := m) (h := h) (w := w) hG8
      refine mx_il5 d_Mo_row_38 ?_
      refine mx_sip 256 d_Mo_row_40 (by decide) ?_
      refine mx_icN_ge 83 d_Mo_row_43 (by decide) (by omega) (by omega) (fun c_43 => ?_) (fun c_43 => absurd c_43 (by omega))
      refine mx_il3 d_Mo_row_83 ?_
      refine mx_ifB_eq 92 d_Mo_row_84 (by decide) (fun c_84 => ?_) (fun c_84 => ?_)
      · skip
        refine mx_il4 d_Mo_row_92 ?_
        refine mx_cS1i d_Mo_row_94 (c_Mo_bitsN (k := vs_bs (vs_r3 m h G w) 255)) ok_Mo_bits ml_Mo_303 (by decide) (Nat.le_of_ble_eq_true rfl) ?_
        exact mx_iret d_Mo_row_97 rfl (mx_sR_i (by rw [hb9]; simp [sp_row, vs_best, *]) (by rw [show (sp_row m H G _ _ _).1 = 0 from by simp [sp_row, *]]; exact hK.1))
      · skip
        refine mx_il4 d_Mo_row_87 ?_
        refine mx_goto 97 d_Mo_row_89 (by decide) ?_
        exact mx_iret d_Mo_row_97 rfl (mx_sR_i (by rw [hb9]; simp [sp_row, vs_best, *]) (by rw [show (sp_row m H G _ _ _).1 = 0 from by simp [sp_row, *]]; exact hK.1))
  · skip
    refine mx_in_1 d_Mo_row_9 ?_
    refine mx_goto 14 d_Mo_row_10 (by decide) ?_
    refine mx_putI d_Mo_row_14 fl_Mo_54 (by assumption) ?_
    refine mx_al0 d_Mo_row_17 ?_
    refine mx_getI d_Mo_row_18 fl_Mo_54 (by assumption) ?_
    refine mx_ti (y := nI (1)) (vs_upx) ?_
    refine mx_if_le 26 d_Mo_row_21 (by decide) (fun c_21 => absurd c_21 (by decide)) (fun c_21 => ?_)
    refine mx_in_0 d_Mo_row_24 ?_
    exact mx_iret d_Mo_row_25 rfl (mx_sR_i (by simp [sp_row, *]) (by rw [show (sp_row m H G _ _ _).1 = 1 from by simp [sp_row, *]]; exact mx_off.rf))
end AB36
