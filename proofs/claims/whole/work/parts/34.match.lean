/-! ROWS PUT TO COLUMNS -/
def bset (S b : Nat) : Nat := S ||| 2 ^ b
/-- what a row gains by a column b when the columns S are taken and the rest brings r -/
def op_g (gn : Nat) (S b r : Nat) (s : Nat) : Nat := if S.testBit b = true ∨ gn = 0 then s else max s (gn + r)
/-- the most that the last k of R rows bring when the columns S are taken -/
def vs_op (gain : Nat → Nat → Nat) (R C : Nat) : Nat → Nat → Nat
  | 0, _ => 0
  | k + 1, S => vf C (fun b s => op_g (gain (R - (k + 1)) b) S b (vs_op gain R C k (bset S b)) s) (vs_op gain R C k S)
def vs_opQ (gain : Nat → Nat → Nat) (R C k S n : Nat) : Nat := vf n (fun b s => op_g (gain (R - (k + 1)) b) S b (vs_op gain R C k (bset S b)) s) (vs_op gain R C k S)
theorem vs_op_s (gain : Nat → Nat → Nat) (R C k S : Nat) : vs_op gain R C (k + 1) S = vs_opQ gain R C k S C := rfl
theorem vs_opQ_s (gain : Nat → Nat → Nat) (R C k S n : Nat) : vs_opQ gain R C k S (n + 1) = op_g (gain (R - (k + 1)) n) S n (vs_op gain R C k (bset S n)) (vs_opQ gain R C k S n) := rfl
theorem vs_op_le {gain : Nat → Nat → Nat} {c : Nat} (hg : ∀ a b, gain a b ≤ c) (R C : Nat) : ∀ k S, vs_op gain R C k S ≤ c * k := by
  intro k
  induction k with
  | zero => intro S; exact Nat.zero_le _
  | succ k ih =>
    intro S
    rw [vs_op_s]
    have : ∀ n, vs_opQ gain R C k S n ≤ c * (k + 1) := fun n => by
      induction n with
      | zero => have := ih S; rw [Nat.mul_succ]; exact Nat.le_trans this (Nat.le_add_right _ _)
      | succ n ih2 =>
        rw [vs_opQ_s, op_g]
        have h1 := ih (bset S n)
        have h2 := hg (R - (k + 1)) n
        rw [Nat.mul_succ] at ih2 ⊢
        split <;> omega
    exact this C
theorem op_g_le (gn S b r s : Nat) : s ≤ op_g gn S b r s := by unfold op_g; split <;> omega
theorem vs_opQ_mono (gain : Nat → Nat → Nat) (R C k S n d : Nat) : vs_opQ gain R C k S n ≤ vs_opQ gain R C k S (n + d) := by
  induction d with
  | zero => exact Nat.le_refl _
  | succ d ih => rw [← Nat.add_assoc, vs_opQ_s]; exact Nat.le_trans ih (op_g_le _ _ _ _ _)
/-- whom a row has first: the column; none: 8 or more -/
def op_hit (gain : Nat → Nat → Nat) (R C k S b : Nat) : Bool := !(S.testBit b) && (decide (¬ gain (R - (k + 1)) b = 0) && decide (gain (R - (k + 1)) b + vs_op gain R C k (bset S b) = vs_op gain R C (k + 1) S))
theorem op_hit_ex {gain : Nat → Nat → Nat} {R C k S : Nat} (h : ¬ vs_op gain R C k S = vs_op gain R C (k + 1) S) : ∃ b, b < C ∧ op_hit gain R C k S b = true := by
  have key : ∀ n, n ≤ C → ¬ vs_opQ gain R C k S n = vs_op gain R C k S → ∃ b, b < n ∧ S.testBit b = false ∧ ¬ gain (R - (k + 1)) b = 0 ∧ gain (R - (k + 1)) b + vs_op gain R C k (bset S b) = vs_opQ gain R C k S n := by
    intro n
    induction n with
    | zero => intro _ h; exact absurd rfl h
    | succ n ih =>
      intro hn h
      rw [vs_opQ_s] at h ⊢
      unfold op_g at h ⊢
      by_cases q : S.testBit n = true ∨ gain (R - (k + 1)) n = 0
      · rw [if_pos q] at h ⊢
        obtain ⟨b, hb, r⟩ := ih (by omega) h
        exact ⟨b, by omega, r⟩
      · rw [if_neg q] at h ⊢
        by_cases q2 : vs_opQ gain R C k S n ≤ gain (R - (k + 1)) n + vs_op gain R C k (bset S n)
        · rw [Nat.max_eq_right q2]
          exact ⟨n, by omega, by cases e : S.testBit n; rfl; exact absurd (Or.inl e) q, fun e => q (Or.inr e), rfl⟩
        · rw [Nat.max_eq_left (by omega)] at h ⊢
          obtain ⟨b, hb, r⟩ := ih (by omega) h
          exact ⟨b, by omega, r⟩
  obtain ⟨b, hb, h1, h2, h3⟩ := key C (Nat.le_refl _) (fun e => h (by rw [vs_op_s]; exact e.symm))
  refine ⟨b, hb, ?_⟩
  unfold op_hit
  rw [h1, decide_eq_true h2, decide_eq_true (by rw [h3, vs_op_s])]; rfl
/-- the least hit below n; n: none -/
def op_1st (p : Nat → Bool) (n : Nat) : Nat := vf n (fun i s => if s = i then (if p i = true then i else i + 1) else s) 0
theorem op_1st_s (p : Nat → Bool) (n : Nat) : op_1st p (n + 1) = if op_1st p n = n then (if p n = true then n else n + 1) else op_1st p n := rfl
theorem op_1st_is (p : Nat → Bool) (n : Nat) : op_1st p n ≤ n ∧ (∀ i, i < op_1st p n → p i = false) ∧ (op_1st p n < n → p (op_1st p n) = true) := by
  induction n with
  | zero => exact ⟨Nat.le_refl _, fun i hi => absurd hi (Nat.not_lt_zero _), fun h => absurd h (Nat.lt_irrefl _)⟩
  | succ n ih =>
    obtain ⟨h1, h2, h3⟩ := ih
    rw [op_1st_s]
    by_cases e : op_1st p n = n
    · rw [if_pos e]
      rw [e] at h2
      by_cases q : p n = true
      · rw [if_pos q]; exact ⟨by omega, h2, fun _ => q⟩
      · rw [if_neg q]
        refine ⟨Nat.le_refl _, fun i hi => ?_, fun h => absurd h (Nat.lt_irrefl _)⟩
        rcases Nat.lt_succ_iff_lt_or_eq.mp hi with h | rfl
        · exact h2 i h
        · simpa using q
    · rw [if_neg e]; exact ⟨by omega, h2, fun _ => h3 (by omega)⟩
theorem op_1st_eq {p : Nat → Bool} {n i : Nat} (hi : i < n) (hp : p i = true) (h0 : ∀ j, j < i → p j = false) : op_1st p n = i := by
  obtain ⟨h1, h2, h3⟩ := op_1st_is p n
  rcases Nat.lt_trichotomy (op_1st p n) i with h | h | h
  · have := h3 (by omega); rw [h0 _ h] at this; cases this
  · exact h
  · have := h2 i h; rw [hp] at this; cases this
theorem op_1st_none {p : Nat → Bool} {n : Nat} (h0 : ∀ j, j < n → p j = false) : op_1st p n = n := by
  obtain ⟨h1, h2, h3⟩ := op_1st_is p n
  rcases Nat.lt_or_ge (op_1st p n) n with h | h
  · have := h3 h; rw [h0 _ h] at this; cases this
  · omega
/-- the columns taken by the first j rows, and whom the last of them has (8: none) -/
def op_col (gain : Nat → Nat → Nat) (R C k S : Nat) : Nat := if vs_op gain R C k S = vs_op gain R C (k + 1) S then 8 else op_1st (op_hit gain R C k S) C
def op_way (gain : Nat → Nat → Nat) (R C : Nat) : Nat → Nat × Nat
  | 0 => (0, 8)
  | j + 1 => let c := op_col gain R C (R - (j + 1)) (op_way gain R C j).1; (if c < 8 then bset (op_way gain R C j).1 c else (op_way gain R C j).1, c)
theorem op_col_is {gain : Nat → Nat → Nat} {R C k S : Nat} (hC : C ≤ 8) (h : op_col gain R C k S < 8) : op_col gain R C k S < C := by
  unfold op_col at h ⊢
  split at h
  · omega
  · rename_i e
    rw [if_neg e]
    obtain ⟨b, hb, q⟩ := op_hit_ex e
    obtain ⟨h1, h2, h3⟩ := op_1st_is (op_hit gain R C k S) C
    rcases Nat.lt_or_ge (op_1st (op_hit gain R C k S) C) C with z | z
    · exact z
    · have := h2 b (by omega); rw [q] at this; cases this
theorem op_way_s (gain : Nat → Nat → Nat) (R C j : Nat) : op_way gain R C (j + 1) = (if op_col gain R C (R - (j + 1)) (op_way gain R C j).1 < 8 then bset (op_way gain R C j).1 (op_col gain R C (R - (j + 1)) (op_way gain R C j).1) else (op_way gain R C j).1, op_col gain R C (R - (j + 1)) (op_way gain R C j).1) := rfl
theorem bset_lt {S b C : Nat} (hS : S < 2 ^ C) (hb : b < C) : bset S b < 2 ^ C := Nat.or_lt_two_pow hS (Nat.pow_lt_pow_right (by omega) hb)
theorem bset_nI : ∀ S, S < 256 → ∀ b, b < 8 → nI S ||| (nI 1 <<< (nI b &&& 31)) = nI (bset S b) := by decide +kernel
theorem bset_256 : ∀ S, S < 256 → ∀ b, b < 8 → bset S b < 256 := by decide +kernel
theorem bset_pc : ∀ S, S < 256 → ∀ b, b < 8 → vs_pc (bset S b) ≤ vs_pc S + 1 := by decide +kernel
theorem op_way_lt (gain : Nat → Nat → Nat) (R : Nat) {C : Nat} (hC : C ≤ 8) (j : Nat) : (op_way gain R C j).1 < 2 ^ C ∧ vs_pc (op_way gain R C j).1 ≤ j := by
  have h256 : 2 ^ C ≤ 256 := Nat.le_trans (Nat.pow_le_pow_right (by omega) hC) (by decide)
  induction j with
  | zero =>
    have h0 : (op_way gain R C 0).1 = 0 := rfl
    rw [h0]
    exact ⟨Nat.pow_pos (by omega), by decide +kernel⟩
  | succ j ih =>
    obtain ⟨h1, h2⟩ := ih
    rw [op_way_s]
    dsimp only
    by_cases e : op_col gain R C (R - (j + 1)) (op_way gain R C j).1 < 8
    · rw [if_pos e]
      have h3 := op_col_is hC e
      exact ⟨bset_lt h1 h3, Nat.le_trans (bset_pc _ (by omega) _ e) (by omega)⟩
    · rw [if_neg e]; exact ⟨h1, by omega⟩
/-- what the class calls a gain: -1, if the column cannot be -/
def gbv (gn S b r : Nat) : Int32 := if S.testBit b = true ∨ gn = 0 then -1 else nI (gn + r)
theorem gbv_max {gn S b r s : Nat} (hg : gn ≤ 100) (hr : r ≤ 1000) (hs : s ≤ 1000) : (if nI s < gbv gn S b r then gbv gn S b r else nI s) = nI (op_g gn S b r s) := by
  unfold gbv op_g
  by_cases q : S.testBit b = true ∨ gn = 0
  · rw [if_pos q, if_pos q, if_neg]
    exact Int32.not_lt.mpr (Int32.le_trans (by decide : (-1 : Int32) ≤ 0) (nI_pos' (by omega)))
  · rw [if_neg q, if_neg q]
    by_cases z : s < gn + r
    · rw [if_pos (nI_lt z (by omega)), Nat.max_eq_right (by omega)]
    · rw [if_neg (nI_nlt (by omega) (by omega)), Nat.max_eq_left (by omega)]
/-- the reference's: -1 or the gain -/
def brv (gn : Nat) : Int32 := if gn = 0 then -1 else nI gn
theorem nI_m1c {u : Nat} (h : u < 2 ^ 31) : ¬ nI u = -1 := fun e => by
  have h1 := nI_pos' h
  rw [e] at h1
  exact absurd h1 (by decide)
theorem brv_e {gn : Nat} (hg : gn ≤ 100) (h : brv gn = -1) : gn = 0 := by
  unfold brv at h
  split at h
  · assumption
  · exact absurd h (nI_m1c (by omega))
theorem brv_n {gn : Nat} (h : ¬ brv gn = -1) : brv gn = nI gn ∧ ¬ gn = 0 := by
  unfold brv at h ⊢
  split at h
  · exact absurd rfl h
  · rename_i q; rw [if_neg q]; exact ⟨rfl, q⟩
/-- the least that hits, looked for from above -/
def fr_d (p : Nat → Bool) (C n : Nat) : Nat := vf n (fun i s => if p (C - (i + 1)) = true then C - (i + 1) else s) 8
theorem fr_d_s (p : Nat → Bool) (C n : Nat) : fr_d p C (n + 1) = if p (C - (n + 1)) = true then C - (n + 1) else fr_d p C n := rfl
theorem fr_d_is (p : Nat → Bool) {C : Nat} (hC : C ≤ 8) {n : Nat} (hn : n ≤ C) : (fr_d p C n = 8 ∧ ∀ i, C - n ≤ i → i < C → p i = false) ∨ (C - n ≤ fr_d p C n ∧ fr_d p C n < C ∧ p (fr_d p C n) = true ∧ ∀ i, C - n ≤ i → i < fr_d p C n → p i = false) := by
  induction n with
  | zero => exact Or.inl ⟨rfl, fun i h1 h2 => absurd h2 (by omega)⟩
  | succ n ih =>
    rw [fr_d_s]
    by_cases q : p (C - (n + 1)) = true
    · rw [if_pos q]
      exact Or.inr ⟨Nat.le_refl _, by omega, q, fun i h1 h2 => absurd h2 (by omega)⟩
    · rw [if_neg q]
      rcases ih (by omega) with ⟨h1, h2⟩ | ⟨h1, h2, h3, h4⟩
      · refine Or.inl ⟨h1, fun i a b => ?_⟩
        by_cases e : i = C - (n + 1)
        · subst e; simpa using q
        · exact h2 i (by omega) b
      · refine Or.inr ⟨by omega, h2, h3, fun i a b => ?_⟩
        by_cases e : i = C - (n + 1)
        · subst e; simpa using q
        · exact h4 i (by omega) b
theorem fr_d_1st {p : Nat → Bool} {C : Nat} (hC : C ≤ 8) (h : ∃ b, b < C ∧ p b = true) : fr_d p C C = op_1st p C := by
  obtain ⟨b, hb, q⟩ := h
  rcases fr_d_is p hC (Nat.le_refl C) with ⟨h1, h2⟩ | ⟨h1, h2, h3, h4⟩
  · have := h2 b (by omega) hb; rw [q] at this; cases this
  · exact (op_1st_eq h2 h3 (fun j hj => h4 j (by omega) hj)).symm
/-- what MATCH knows: the gains -/
def ma_rel (K : mx_I) (ma : Nat) (gain : Nat → Nat → Nat) (R C : Nat) : Prop := K ma 0 = nI R ∧ K ma 1 = nI C ∧ ∀ a b, a < 8 → b < 8 → K (ma + 1) (8 * a + b) = nI (gain a b)
/-- the rows from R - k on are solved -/
def ms_ok (K : mx_I) (ma : Nat) (gain : Nat → Nat → Nat) (R C k : Nat) : Prop := ∀ j, j ≤ k → ∀ S, S < 2 ^ C → (vs_pc S ≤ R - j ∨ j = 0) → K (ma + 2) (256 * (R - j) + S) = nI (vs_op gain R C j S)
def ms_inv (I K : mx_I) (ma : Nat) (gain : Nat → Nat → Nat) (R C k s : Nat) : Prop := mx_off (fun c => c = ma + 2) I K ∧ ms_ok K ma gain R C k ∧ ∀ S, S < s → vs_pc S ≤ R - (k + 1) → K (ma + 2) (256 * (R - (k + 1)) + S) = nI (vs_op gain R C (k + 1) S)
theorem ms_next {I K : mx_I} {ma : Nat} {gain : Nat → Nat → Nat} {R C k : Nat} (h : ms_inv I K ma gain R C k (2 ^ C)) : ms_inv I K ma gain R C (k + 1) 0 := by
  refine ⟨h.1, fun j hj S hS hp => ?_, fun S hS => absurd hS (by omega)⟩
  rcases Nat.lt_succ_iff_lt_or_eq.mp (Nat.lt_succ_of_le hj) with e | rfl
  · exact h.2.1 j (by omega) S hS hp
  · exact h.2.2 S hS (hp.elim id (fun z => absurd z (by omega)))
theorem ms_skip {I K : mx_I} {ma : Nat} {gain : Nat → Nat → Nat} {R C k s : Nat} (h : ms_inv I K ma gain R C k s) (hp : R - (k + 1) < vs_pc s) : ms_inv I K ma gain R C k (s + 1) := by
  refine ⟨h.1, h.2.1, fun S hS q => ?_⟩
  rcases Nat.lt_succ_iff_lt_or_eq.mp hS with e | rfl
  · exact h.2.2 S e q
  · omega
theorem ms_step {I K : mx_I} {ma : Nat} {gain : Nat → Nat → Nat} {R C k s : Nat} (hk : k < R) (hC : 2 ^ C ≤ 256) (hs : s < 2 ^ C) (h : ms_inv I K ma gain R C k s) : ms_inv I (mx_up K (ma + 2) (256 * (R - (k + 1)) + s) (nI (vs_op gain R C (k + 1) s))) ma gain R C k (s + 1) := by
  refine ⟨fun c hc => (mx_up_ne hc).trans (h.1 c hc), fun j hj S hS hp => ?_, fun S hS q => ?_⟩
  · rw [← h.2.1 j hj S hS hp]
    have : ¬ (256 * (R - j) + S = 256 * (R - (k + 1)) + s) := by omega
    simp only [mx_up, this, and_false, if_false]
  · by_cases e : S = s
    · subst e; simp [mx_up]
    · rw [← h.2.2 S (by omega) q]
      have : ¬ (256 * (R - (k + 1)) + S = 256 * (R - (k + 1)) + s) := by omega
      simp only [mx_up, this, and_false, if_false]
def m0_inv (I K : mx_I) (ma R s : Nat) : Prop := mx_off (fun c => c = ma + 2) I K ∧ ∀ S, S < s → K (ma + 2) (256 * R + S) = nI 0
theorem m0_step {I K : mx_I} {ma R s : Nat} (h : m0_inv I K ma R s) : m0_inv I (mx_up K (ma + 2) (256 * R + s) (nI 0)) ma R (s + 1) := by
  refine ⟨fun c hc => (mx_up_ne hc).trans (h.1 c hc), fun S hS => ?_⟩
  by_cases e : S = s
  · subst e; simp [mx_up]
  · rw [← h.2 S (by omega)]
    have : ¬ (256 * R + S = 256 * R + s) := by omega
    simp only [mx_up, this, and_false, if_false]
theorem m0_end {I K : mx_I} {ma R C : Nat} {gain : Nat → Nat → Nat} (h : m0_inv I K ma R (2 ^ C)) : ms_inv I K ma gain R C 0 0 := by
  refine ⟨h.1, fun j hj S hS _ => ?_, fun S hS => absurd hS (by omega)⟩
  have : j = 0 := by omega
  subst this
  exact h.2 S hS
/-- the gains told one by one -/
def al_inv (I K : mx_I) (ma : Nat) (g : Nat → Nat → Nat) (C a b : Nat) : Prop := mx_off (fun c => c = ma + 1) I K ∧ ∀ i j, i < 8 → j < 8 → K (ma + 1) (8 * i + j) = nI (if (i < a ∨ i = a ∧ j < b) ∧ j < C then g i j else 0)
theorem al_inv0 {I : mx_I} {ma : Nat} {g : Nat → Nat → Nat} {C : Nat} (h : ∀ i, i < 64 → I (ma + 1) i = nI 0) : al_inv I I ma g C 0 0 := ⟨fun _ _ => rfl, fun i j hi hj => by rw [if_neg (by omega)]; exact h _ (by omega)⟩
theorem al_step {I K : mx_I} {ma : Nat} {g : Nat → Nat → Nat} {C a b v : Nat} (hb : b < C) (hC : C ≤ 8) (h : al_inv I K ma g C a b) (hv : v = g a b) : al_inv I (mx_up K (ma + 1) (8 * a + b) (nI v)) ma g C a (b + 1) := by
  refine ⟨fun c hc => (mx_up_ne hc).trans (h.1 c hc), fun i j hi hj => ?_⟩
  by_cases e : i = a ∧ j = b
  · obtain ⟨rfl, rfl⟩ := e
    rw [if_pos (by omega)]; simp [mx_up, hv]
  · have hne : ¬ (8 * i + j = 8 * a + b) := by omega
    simp only [mx_up, hne, and_false, if_false]
    rw [h.2 i j hi hj]
    congr 1
    by_cases q : (i < a ∨ i = a ∧ j < b) ∧ j < C
    · rw [if_pos q, if_pos (by omega)]
    · rw [if_neg q, if_neg (by omega)]
theorem al_next {I K : mx_I} {ma : Nat} {g : Nat → Nat → Nat} {C a : Nat} (h : al_inv I K ma g C a C) : al_inv I K ma g C (a + 1) 0 := by
  refine ⟨h.1, fun i j hi hj => ?_⟩
  rw [h.2 i j hi hj]
  congr 1
  by_cases q : (i < a ∨ i = a ∧ j < C) ∧ j < C
  · rw [if_pos q, if_pos (by omega)]
  · rw [if_neg q, if_neg (by omega)]
def gcut (g : Nat → Nat → Nat) (R C i j : Nat) : Nat := if i < R ∧ j < C then g i j else 0
theorem al_end {I K : mx_I} {ma : Nat} {g : Nat → Nat → Nat} {R C : Nat} (h : al_inv I K ma g C R 0) : ∀ a b, a < 8 → b < 8 → K (ma + 1) (8 * a + b) = nI (gcut g R C a b) := fun a b ha hb => by
  rw [h.2 a b ha hb, gcut]
  congr 1
  by_cases q : a < R ∧ b < C
  · rw [if_pos q, if_pos (by omega)]
  · rw [if_neg q, if_neg (by omega)]
/-- the reference's rows of sets -/
def wi_ok (K : mx_I) (mo : Nat) (gain : Nat → Nat → Nat) (R C k : Nat) : Prop := ∀ j, j ≤ k → ∀ S, S < 256 → K (mo + 11) (256 * (R - j) + S) = nI (vs_op gain R C j S)
def wi_inv (I K : mx_I) (mo : Nat) (gain : Nat → Nat → Nat) (R C k s : Nat) : Prop := mx_off (fun c => c = mo + 11) I K ∧ wi_ok K mo gain R C k ∧ ∀ S, S < s → K (mo + 11) (256 * (R - (k + 1)) + S) = nI (vs_op gain R C (k + 1) S)
theorem wi_next {I K : mx_I} {mo : Nat} {gain : Nat → Nat → Nat} {R C k : Nat} (h : wi_inv I K mo gain R C k 256) : wi_inv I K mo gain R C (k + 1) 0 := by
  refine ⟨h.1, fun j hj S hS => ?_, fun S hS => absurd hS (by omega)⟩
  rcases Nat.lt_succ_iff_lt_or_eq.mp (Nat.lt_succ_of_le hj) with e | rfl
  · exact h.2.1 j (by omega) S hS
  · exact h.2.2 S hS
theorem wi_step {I K : mx_I} {mo : Nat} {gain : Nat → Nat → Nat} {R C k s : Nat} (hk : k < R) (hs : s < 256) (h : wi_inv I K mo gain R C k s) : wi_inv I (mx_up K (mo + 11) (256 * (R - (k + 1)) + s) (nI (vs_op gain R C (k + 1) s))) mo gain R C k (s + 1) := by
  refine ⟨fun c hc => (mx_up_ne hc).trans (h.1 c hc), fun j hj S hS => ?_, fun S hS => ?_⟩
  · rw [← h.2.1 j hj S hS]
    have : ¬ (256 * (R - j) + S = 256 * (R - (k + 1)) + s) := by omega
    simp only [mx_up, this, and_false, if_false]
  · by_cases e : S = s
    · subst e; simp [mx_up]
    · rw [← h.2.2 S (by omega)]
      have : ¬ (256 * (R - (k + 1)) + S = 256 * (R - (k + 1)) + s) := by omega
      simp only [mx_up, this, and_false, if_false]
def w0_inv (I K : mx_I) (mo R s : Nat) : Prop := mx_off (fun c => c = mo + 11) I K ∧ ∀ S, S < s → K (mo + 11) (256 * R + S) = nI 0
theorem w0_step {I K : mx_I} {mo R s : Nat} (h : w0_inv I K mo R s) : w0_inv I (mx_up K (mo + 11) (256 * R + s) (nI 0)) mo R (s + 1) := by
  refine ⟨fun c hc => (mx_up_ne hc).trans (h.1 c hc), fun S hS => ?_⟩
  by_cases e : S = s
  · subst e; simp [mx_up]
  · rw [← h.2 S (by omega)]
    have : ¬ (256 * R + S = 256 * R + s) := by omega
    simp only [mx_up, this, and_false, if_false]
theorem w0_end {I K : mx_I} {mo R C : Nat} {gain : Nat → Nat → Nat} (h : w0_inv I K mo R 256) : wi_inv I K mo gain R C 0 0 := by
  refine ⟨h.1, fun j hj S hS => ?_, fun S hS => absurd hS (by omega)⟩
  have : j = 0 := by omega
  subst this
  exact h.2 S hS
theorem gcut_le {g : Nat → Nat → Nat} {c : Nat} (hg : ∀ a b, a < 8 → b < 8 → g a b ≤ c) {R C : Nat} (hR : R ≤ 8) (hC : C ≤ 8) (a b : Nat) : gcut g R C a b ≤ c := by
  unfold gcut
  split
  · exact hg a b (by omega) (by omega)
  · omega
section Z34
variable {l : Launch} {E : mx_Env} {t : Nat} {S : mx_S} {I : mx_I} {P : mx_P} {J : mx_G} {m : Nat → Int32} {x mo H G n ma R C k : Nat} {gain : Nat → Nat → Nat}
theorem ma_rel.congr {K : mx_I} (h : ma_rel I ma gain R C) (e0 : K ma = I ma) (e1 : K (ma + 1) = I (ma + 1)) : ma_rel K ma gain R C := by
  unfold ma_rel; rw [e0, e1]; exact h
theorem gbv_t {s b : Nat} (h : gbv (gain (R - (k + 1)) b) s b (vs_op gain R C k (bset s b)) = nI (vs_op gain R C (k + 1) s)) (h1 : gain (R - (k + 1)) b + vs_op gain R C k (bset s b) < 2 ^ 31) (h2 : vs_op gain R C (k + 1) s < 2 ^ 31) : op_hit gain R C k s b = true := by
  unfold gbv at h
  split at h
  · exact absurd h.symm (nI_m1c h2)
  · rename_i q
    rw [nI_eq h1 h2] at h
    unfold op_hit
    rw [decide_eq_true h, decide_eq_true (show ¬ gain (R - (k + 1)) b = 0 from fun z => q (Or.inr z))]
    cases e : s.testBit b
    · rfl
    · exact absurd (Or.inl e) q
theorem gbv_f {s b : Nat} (h : ¬ gbv (gain (R - (k + 1)) b) s b (vs_op gain R C k (bset s b)) = nI (vs_op gain R C (k + 1) s)) : op_hit gain R C k s b = false := by
  cases e : op_hit gain R C k s b
  · rfl
  · refine absurd ?_ h
    unfold op_hit at e
    rw [Bool.and_eq_true, Bool.and_eq_true, decide_eq_true_eq, decide_eq_true_eq] at e
    unfold gbv
    rw [if_neg (fun z => z.elim (fun z => by rw [z] at e; exact absurd e.1 (by decide)) e.2.1), e.2.2]
theorem c_Ma_begin (hMa : ma_ok S P ma)  : mx_C l E M_Ma_begin 1 0 0 [.ref (ma), .int (nI (R)), .int (nI (C))] (t, S, I, P, J) (mx_rv (t, S, vs_fill (mx_up (mx_up I ma 0 (nI R)) ma 1 (nI C)) (ma + 1) 64 (nI 0), P, J)) := by
  obtain ⟨hMa0, hMa1, hMa2, hMa3, hMa4⟩ := id hMa
  refine mx_C_of (ls0 := [some (.ref (ma)), some (.int (nI (R))), some (.int (nI (C)))]) (by decide +kernel) rfl rfl (Nat.le_of_ble_eq_true rfl) rfl ?_
  refine mx_al0 d_Ma_begin_0 ?_
  refine mx_il1 d_Ma_begin_1 ?_
  refine mx_putI d_Ma_begin_2 fl_Ma_18 (by assumption) ?_
  refine mx_al0 d_Ma_begin_5 ?_
  refine mx_il2 d_Ma_begin_6 ?_
  refine mx_putI d_Ma_begin_7 fl_Ma_22 (by assumption) ?_
  refine mx_al0 d_Ma_begin_10 ?_
  refine mx_getR d_Ma_begin_11 fl_Ma_9 (by assumption) (by assumption) ?_
  refine mx_in_0 d_Ma_begin_14 ?_
  refine mx_cSN2v d_Ma_begin_15 (c_fill (by assumption) (by omega)) ok_Vh_fill ml_Ma_25 (by decide) (Nat.le_of_ble_eq_true rfl) ?_
  exact mx_vret d_Ma_begin_18 rfl (mx_rv_of rfl)
theorem c_Ma_allow (hMa : ma_ok S P ma) {a b : Nat} (ha : a < 8) (hb : b < 8) {v : Int32} : mx_C l E M_Ma_allow 1 0 0 [.ref (ma), .int (nI (a)), .int (nI (b)), .int (v)] (t, S, I, P, J) (mx_rv (t, S, mx_up I (ma + 1) (8 * a + b) v, P, J)) := by
  obtain ⟨hMa0, hMa1, hMa2, hMa3, hMa4⟩ := id hMa
  refine mx_C_of (ls0 := [some (.ref (ma)), some (.int (nI (a))), some (.int (nI (b))), some (.int (v))]) (by decide +kernel) rfl rfl (Nat.le_of_ble_eq_true rfl) rfl ?_
  refine mx_al0 d_Ma_allow_0 ?_
  refine mx_getR d_Ma_allow_1 fl_Ma_9 (by assumption) (by assumption) ?_
  refine mx_bip 8 d_Ma_allow_4 (by decide) ?_
  refine mx_il1 d_Ma_allow_6 ?_
  refine mx_imulN d_Ma_allow_7 ?_
  refine mx_il2 d_Ma_allow_8 ?_
  refine mx_iaddN d_Ma_allow_9 ?_
  refine mx_il3 d_Ma_allow_10 ?_
  refine mx_cSN3v d_Ma_allow_11 (c_put (k := 8 * a + b) (by assumption) (by omega) (by omega)) ok_Vh_put ml_Ma_29 (by decide) (Nat.le_of_ble_eq_true rfl) ?_
  exact mx_vret d_Ma_allow_14 rfl (mx_rv_of rfl)
theorem c_Ma_gainBy (hMa : ma_ok S P ma) (hR : ma_rel I ma gain R C) (hg : ∀ a b, gain a b ≤ 9) {a b s r : Nat} (ha : a < 8) (hb : b < 8) (hs : s < 256) (hq : s.testBit b = false → I (ma + 2) (256 * (a + 1) + bset s b) = nI r) : mx_C l E M_Ma_gainBy 1 0 0 [.ref (ma), .int (nI (a)), .int (nI (b)), .int (nI (s))] (t, S, I, P, J) (mx_ri (gbv (gain a b) s b r) (t, S, I, P, J)) := by
  obtain ⟨hMa0, hMa1, hMa2, hMa3, hMa4⟩ := id hMa
  refine mx_C_of (ls0 := [some (.ref (ma)), some (.int (nI (a))), some (.int (nI (b))), some (.int (nI (s))), none]) (by decide +kernel) rfl rfl (Nat.le_of_ble_eq_true rfl) rfl ?_
  have hg0 := hg a b
  refine mx_al0 d_Ma_gainBy_0 ?_
  refine mx_getR d_Ma_gainBy_1 fl_Ma_9 (by assumption) (by assumption) ?_
  refine mx_bip 8 d_Ma_gainBy_4 (by decide) ?_
  refine mx_il1 d_Ma_gainBy_6 ?_
  refine mx_imulN d_Ma_gainBy_7 ?_
  refine mx_il2 d_Ma_gainBy_8 ?_
  refine mx_iaddN d_Ma_gainBy_9 ?_
  refine mx_cSN2i d_Ma_gainBy_10 (c_get (k := 8 * a + b) (by assumption) (by omega) (by omega)) ok_Vh_get ml_Ma_43 (by decide) (Nat.le_of_ble_eq_true rfl) ?_
  refine mx_ti (y := nI (gain a b)) (hR.2.2 a b ha hb) ?_
  refine mx_is4 d_Ma_gainBy_13 ?_
  refine mx_il4 d_Ma_gainBy_15 ?_
  refine mx_if_eq 28 d_Ma_gainBy_17 (by decide) (fun c_17 => ?_) (fun c_17 => ?_)
  · skip
    have g0 := nI_z (by omega) c_17
    refine mx_ic_m1 d_Ma_gainBy_28 ?_
    refine mx_goto 55 d_Ma_gainBy_29 (by decide) ?_
    exact mx_iret d_Ma_gainBy_55 rfl (mx_ri_of (by unfold gbv; first | (rw [if_pos (Or.inr (by omega))]; done) | (rw [if_pos (Or.inl c_25)]; done)))
  · skip
    have g0 := nI_gt c_17
    refine mx_il3 d_Ma_gainBy_20 ?_
    refine mx_il2 d_Ma_gainBy_21 ?_
    refine mx_cSN2i d_Ma_gainBy_22 (c_has (j := b) (by omega)) ok_Vh_has ml_Ma_56 (by decide) (Nat.le_of_ble_eq_true rfl) ?_
    refine mx_ifB_eq 32 d_Ma_gainBy_25 (by decide) (fun c_25 => ?_) (fun c_25 => ?_)
    · skip
      rw [vs_has_bt (by omega), vs_bt_nI _ _ (by omega)] at c_25
      refine mx_il4 d_Ma_gainBy_32 ?_
      refine mx_al0 d_Ma_gainBy_34 ?_
      refine mx_getR d_Ma_gainBy_35 fl_Ma_15 (by assumption) (by assumption) ?_
      refine mx_sip 256 d_Ma_gainBy_38 (by decide) ?_
      refine mx_il1 d_Ma_gainBy_41 ?_
      refine mx_in_1 d_Ma_gainBy_42 ?_
      refine mx_iaddN d_Ma_gainBy_43 ?_
      refine mx_imulN d_Ma_gainBy_44 ?_
      refine mx_il3 d_Ma_gainBy_45 ?_
      refine mx_in_1 d_Ma_gainBy_46 ?_
      refine mx_il2 d_Ma_gainBy_47 ?_
      refine mx_ishl d_Ma_gainBy_48 ?_
      refine mx_ior d_Ma_gainBy_49 ?_
      have hb2 := bset_256 s (by omega) b (by omega)
      refine mx_ti (y := nI (bset s b)) (bset_nI s (by omega) b (by omega)) ?_
      refine mx_iaddN d_Ma_gainBy_50 ?_
      refine mx_cSN2i d_Ma_gainBy_51 (c_get (k := 256 * (a + 1) + bset s b) (by assumption) (by omega) (by omega)) ok_Vh_get ml_Ma_43 (by decide) (Nat.le_of_ble_eq_true rfl) ?_
      refine mx_ti (y := nI (r)) (hq c_25) ?_
      refine mx_iaddN d_Ma_gainBy_54 ?_
      exact mx_iret d_Ma_gainBy_55 rfl (mx_ri_of (by unfold gbv; rw [if_neg (fun z => z.elim (by rw [c_25]; decide) (by omega))]))
    · skip
      rw [vs_has_bt (by omega), vs_bt_nI _ _ (by omega)] at c_25
      refine mx_ic_m1 d_Ma_gainBy_28 ?_
      refine mx_goto 55 d_Ma_gainBy_29 (by decide) ?_
      exact mx_iret d_Ma_gainBy_55 rfl (mx_ri_of (by unfold gbv; first | (rw [if_pos (Or.inr (by omega))]; done) | (rw [if_pos (Or.inl c_25)]; done)))
theorem c_Ma_mostFrom (hMa : ma_ok S P ma) (hR : ma_rel I ma gain R C) (hg : ∀ a b, gain a b ≤ 9) (hR8 : R ≤ 8) (hC8 : C ≤ 8) (hk : k < R) {s : Nat} (hs : s < 2 ^ C) (hp : vs_pc s ≤ R - (k + 1)) (hm : ms_ok I ma gain R C k) : mx_C l E M_Ma_mostFrom 2 0 0 [.ref (ma), .int (nI (R - (k + 1))), .int (nI (s))] (t, S, I, P, J) (mx_ri (nI (vs_op gain R C (k + 1) s)) (t, S, I, P, J)) := by
  obtain ⟨hMa0, hMa1, hMa2, hMa3, hMa4⟩ := id hMa
  have h256 : 2 ^ C ≤ 256 := vs_two8 (by omega)
  have hop := fun S => vs_op_le hg R C k S
  have hop2 := vs_op_le hg R C (k + 1) s
  refine mx_C_of (ls0 := [some (.ref (ma)), some (.int (nI (R - (k + 1)))), some (.int (nI (s))), none, none]) (by decide +kernel) rfl rfl (Nat.le_of_ble_eq_true rfl) rfl ?_
  refine mx_al0 d_Ma_mostFrom_0 ?_
  refine mx_getR d_Ma_mostFrom_1 fl_Ma_15 (by assumption) (by assumption) ?_
  refine mx_sip 256 d_Ma_mostFrom_4 (by decide) ?_
  refine mx_il1 d_Ma_mostFrom_7 ?_
  refine mx_in_1 d_Ma_mostFrom_8 ?_
  refine mx_iaddN d_Ma_mostFrom_9 ?_
  refine mx_imulN d_Ma_mostFrom_10 ?_
  refine mx_il2 d_Ma_mostFrom_11 ?_
  refine mx_iaddN d_Ma_mostFrom_12 ?_
  refine mx_cSN2i d_Ma_mostFrom_13 (c_get (k := 256 * (R - (k + 1) + 1) + s) (by assumption) (by omega) (by omega)) ok_Vh_get ml_Ma_43 (by decide) (Nat.le_of_ble_eq_true rfl) ?_
  refine mx_ti (y := nI (vs_op gain R C k s)) ((by rw [show R - (k + 1) + 1 = R - k by omega]; exact hm k (Nat.le_refl k) s hs (by omega))) ?_
  refine mx_is3 d_Ma_mostFrom_16 ?_
  refine mx_in_0 d_Ma_mostFrom_17 ?_
  refine mx_is4 d_Ma_mostFrom_18 ?_
  refine mx_loop (N := C) (ls := fun b => [some (.ref (ma)), some (.int (nI (R - (k + 1)))), some (.int (nI (s))), some (.int (nI (vs_opQ gain R C k s b))), some (.int (nI (b)))]) (X := fun b => (t, S, I, P, J)) (fun b hb ih => ?_) ?_
  · try dsimp only
    refine mx_il4 d_Ma_mostFrom_20 ?_
    refine mx_al0 d_Ma_mostFrom_22 ?_
    refine mx_getI d_Ma_mostFrom_23 fl_Ma_22 (by assumption) ?_
    refine mx_ti (y := nI (C)) (hR.2.1) ?_
    refine mx_icN_ge 48 d_Ma_mostFrom_26 (by decide) (by omega) (by omega) (fun c_26 => absurd c_26 (by omega)) (fun c_26 => ?_)
    have h1 := hop (bset s b)
    have h2 := hg (R - (k + 1)) b
    have h3 := vs_opQ_mono gain R C k s b (C - b)
    rw [show b + (C - b) = C by omega, ← vs_op_s] at h3
    have h9 : 9 * k ≤ 72 := by omega
    have h10 : 9 * (k + 1) ≤ 72 := by omega
    refine mx_il3 d_Ma_mostFrom_29 ?_
    refine mx_al0 d_Ma_mostFrom_30 ?_
    refine mx_il1 d_Ma_mostFrom_31 ?_
    refine mx_il4 d_Ma_mostFrom_32 ?_
    refine mx_il2 d_Ma_mostFrom_34 ?_
    refine mx_cV3i d_Ma_mostFrom_35 (c_Ma_gainBy hMa hR hg (a := R - (k + 1)) (b := b) (s := s) (r := vs_op gain R C k (bset s b)) (by omega) (by omega) (by omega) (fun hz => by rw [show R - (k + 1) + 1 = R - k by omega]; exact hm k (by omega) _ (bset_lt hs hb) (by have := bset_pc s (by omega) b (by omega); omega))) ok_Ma_gainBy ml_Ma_47 (by assumption) ⟨rfl, rfl⟩ (by decide) (Nat.le_of_ble_eq_true rfl) ?_
    refine mx_mmax d_Ma_mostFrom_38 ml_Ma_51 (by decide) (Nat.le_of_ble_eq_true rfl) ?_
    refine mx_is3 d_Ma_mostFrom_41 ?_
    refine mx_iN4 d_Ma_mostFrom_42 ?_
    refine mx_goto 20 d_Ma_mostFrom_45 (by decide) ?_
    have e3 : (if nI (vs_opQ gain R C k s b) < (gbv (gain (R - (k + 1)) b) s b (vs_op gain R C k (bset s b))) then (gbv (gain (R - (k + 1)) b) s b (vs_op gain R C k (bset s b))) else nI (vs_opQ gain R C k s b)) = nI (vs_opQ gain R C k s (b + 1)) := by (rw [vs_opQ_s]; exact gbv_max (by omega) (by omega) (by omega))
    refine mx_lsc (congrArg (fun z9 => ([some (.ref (ma)), some (.int (nI (R - (k + 1)))), some (.int (nI (s))), some (.int (z9)), some (.int (nI (b + 1)))] : List (Option Value))) e3) ?_
    exact ih
  · try dsimp only
    refine mx_il4 d_Ma_mostFrom_20 ?_
    refine mx_al0 d_Ma_mostFrom_22 ?_
    refine mx_getI d_Ma_mostFrom_23 fl_Ma_22 (by assumption) ?_
    refine mx_ti (y := nI (C)) (hR.2.1) ?_
    refine mx_icN_ge 48 d_Ma_mostFrom_26 (by decide) (by omega) (by omega) (fun c_26 => ?_) (fun c_26 => absurd c_26 (by omega))
    refine mx_il3 d_Ma_mostFrom_48 ?_
    exact mx_iret d_Ma_mostFrom_49 rfl (mx_ri_of (by rw [vs_op_s]))
theorem c_Ma_solve (hMa : ma_ok S P ma) (hR : ma_rel I ma gain R C) (hg : ∀ a b, gain a b ≤ 9) (hR8 : R ≤ 8) (hC8 : C ≤ 8)  : mx_C l E M_Ma_solve 3 0 0 [.ref (ma)] (t, S, I, P, J) (mx_sR none t S P J (fun K => mx_off (fun c => c = ma + 2) I K ∧ ms_ok K ma gain R C R)) := by
  obtain ⟨hMa0, hMa1, hMa2, hMa3, hMa4⟩ := id hMa
  obtain ⟨Z, hZ, hZ2⟩ : ∃ Z, nI 1 <<< (nI C &&& 31) = nI Z ∧ Z = 2 ^ C := ⟨_, vs_shl1 (by omega), rfl⟩
  have hZ8 : Z ≤ 256 := by rw [hZ2]; exact vs_two8 (by omega)
  refine mx_C_of (ls0 := [some (.ref (ma)), none, none]) (by decide +kernel) rfl rfl (Nat.le_of_ble_eq_true rfl) rfl ?_
  refine mx_in_0 d_Ma_solve_0 ?_
  refine mx_is1 d_Ma_solve_1 ?_
  refine mx_loopX (α := (mx_I)) (N := Z) (a0 := I) (fun s z9 => m0_inv I z9 ma R s) (ls := fun s z9 => [some (.ref (ma)), some (.int (nI (s))), none]) (X := fun s z9 => (t, S, z9, P, J)) (⟨mx_off.rf, fun S hS => absurd hS (by omega)⟩) (fun s hs z9 hinv ih => ?_) (fun z9 hinv => ?_)
  · skip
    obtain ⟨K, hz9⟩ : ∃ q, q = z9 := ⟨_, rfl⟩
    subst hz9
    try dsimp only at hinv ih ⊢
    refine mx_il1 d_Ma_solve_2 ?_
    refine mx_in_1 d_Ma_solve_3 ?_
    refine mx_al0 d_Ma_solve_4 ?_
    refine mx_getI d_Ma_solve_5 fl_Ma_22 (by assumption) ?_
    refine mx_ti (y := nI (C)) ((congrFun (mx_offn hinv.1 (by omega)) 1).trans hR.2.1) ?_
    refine mx_ishl d_Ma_solve_8 ?_
    refine mx_ti (y := nI (Z)) (hZ) ?_
    refine mx_icN_ge 36 d_Ma_solve_9 (by decide) (by omega) (by omega) (fun c_9 => absurd c_9 (by omega)) (fun c_9 => ?_)
    refine mx_al0 d_Ma_solve_12 ?_
    refine mx_getR d_Ma_solve_13 fl_Ma_15 (by assumption) (by assumption) ?_
    refine mx_sip 256 d_Ma_solve_16 (by decide) ?_
    refine mx_al0 d_Ma_solve_19 ?_
    refine mx_getI d_Ma_solve_20 fl_Ma_18 (by assumption) ?_
    refine mx_ti (y := nI (R)) ((congrFun (mx_offn hinv.1 (by omega)) 0).trans hR.1) ?_
    refine mx_imulN d_Ma_solve_23 ?_
    refine mx_il1 d_Ma_solve_24 ?_
    refine mx_iaddN d_Ma_solve_25 ?_
    refine mx_in_0 d_Ma_solve_26 ?_
    refine mx_cSN3v d_Ma_solve_27 (c_put (k := 256 * R + s) (by assumption) (by omega) (by omega)) ok_Vh_put ml_Ma_29 (by decide) (Nat.le_of_ble_eq_true rfl) ?_
    refine mx_iN1 d_Ma_solve_30 ?_
    refine mx_goto 2 d_Ma_solve_33 (by decide) ?_
    exact ih (mx_up K (ma + 2) (256 * R + s) (nI (0))) (m0_step hinv)
  · skip
    obtain ⟨K, hz9⟩ : ∃ q, q = z9 := ⟨_, rfl⟩
    subst hz9
    try dsimp only at hinv ⊢
    have hst : ms_inv I K ma gain R C 0 0 := m0_end (by rw [← hZ2]; exact hinv)
    refine mx_il1 d_Ma_solve_2 ?_
    refine mx_in_1 d_Ma_solve_3 ?_
    refine mx_al0 d_Ma_solve_4 ?_
    refine mx_getI d_Ma_solve_5 fl_Ma_22 (by assumption) ?_
    refine mx_ti (y := nI (C)) ((congrFun (mx_offn hinv.1 (by omega)) 1).trans hR.2.1) ?_
    refine mx_ishl d_Ma_solve_8 ?_
    refine mx_ti (y := nI (Z)) (hZ) ?_
    refine mx_icN_ge 36 d_Ma_solve_9 (by decide) (by omega) (by omega) (fun c_9 => ?_) (fun c_9 => absurd c_9 (by omega))
    refine mx_al0 d_Ma_solve_36 ?_
    refine mx_getI d_Ma_solve_37 fl_Ma_18 (by assumption) ?_
    refine mx_ti (y := nI (R)) ((congrFun (mx_offn hinv.1 (by omega)) 0).trans hR.1) ?_
    refine mx_in_1 d_Ma_solve_40 ?_
    refine mx_isub d_Ma_solve_41 ?_
    refine mx_is1 d_Ma_solve_42 ?_
    refine mx_loopX (α := (mx_I)) (N := R) (a0 := K) (fun k z9 => ms_inv I z9 ma gain R C k 0) (ls := fun k z9 => [some (.ref (ma)), some (.int ((nI (R - k) - nI 1))), none]) (X := fun k z9 => (t, S, z9, P, J)) (hst) (fun k hk z9 hinv ih => ?_) (fun z9 hinv => ?_)
    · skip
      obtain ⟨K, hz9⟩ : ∃ q, q = z9 := ⟨_, rfl⟩
      subst hz9
      try dsimp only at hinv ih ⊢
      refine mx_lsc (congrArg (fun z9 => ([some (.ref (ma)), some (.int (z9)), none] : List (Option Value))) (by rw [nI_sub (by omega), Nat.sub_sub])) ?_
      refine mx_il1 d_Ma_solve_43 ?_
      refine mx_if_lt 99 d_Ma_solve_44 (by decide) (fun c_44 => absurd c_44 (nI_pos (by omega))) (fun c_44 => ?_)
      refine mx_in_0 d_Ma_solve_47 ?_
      refine mx_is2 d_Ma_solve_48 ?_
      have ih43 := ih
      have hinv43 := hinv
      refine mx_loopX (α := (mx_I)) (N := Z) (a0 := K) (fun s z9 => ms_inv I z9 ma gain R C k s) (ls := fun s z9 => [some (.ref (ma)), some (.int (nI (R - (k + 1)))), some (.int (nI (s)))]) (X := fun s z9 => (t, S, z9, P, J)) (hinv) (fun s hs z9 hinv ih => ?_) (fun z9 hinv => ?_)
      · skip
        obtain ⟨K, hz9⟩ : ∃ q, q = z9 := ⟨_, rfl⟩
        subst hz9
        try dsimp only at hinv ih ⊢
        have hR9 : ma_rel K ma gain R C := hR.congr (mx_offn hinv.1 (by omega)) (mx_offn hinv.1 (by omega))
        refine mx_il2 d_Ma_solve_49 ?_
        refine mx_in_1 d_Ma_solve_50 ?_
        refine mx_al0 d_Ma_solve_51 ?_
        refine mx_getI d_Ma_solve_52 fl_Ma_22 (by assumption) ?_
        refine mx_ti (y := nI (C)) ((congrFun (mx_offn hinv.1 (by omega)) 1).trans hR.2.1) ?_
        refine mx_ishl d_Ma_solve_55 ?_
        refine mx_ti (y := nI (Z)) (hZ) ?_
        refine mx_icN_ge 93 d_Ma_solve_56 (by decide) (by omega) (by omega) (fun c_56 => absurd c_56 (by omega)) (fun c_56 => ?_)
        refine mx_il2 d_Ma_solve_59 ?_
        refine mx_cS1i d_Ma_solve_60 (c_bitCountN (k := s) (by omega)) ok_Jd_Integer_bitCount ml_Ma_33 (by decide) (Nat.le_of_ble_eq_true rfl) ?_
        refine mx_il1 d_Ma_solve_63 ?_
        have hpc := vs_pcb s
        refine mx_icN_gt 87 d_Ma_solve_64 (by decide) (by omega) (by omega) (fun c_64 => ?_) (fun c_64 => ?_)
        · skip
          refine mx_iN2 d_Ma_solve_87 ?_
          refine mx_goto 49 d_Ma_solve_90 (by decide) ?_
          exact ih K (ms_skip hinv c_64)
        · skip
          refine mx_al0 d_Ma_solve_67 ?_
          refine mx_getR d_Ma_solve_68 fl_Ma_15 (by assumption) (by assumption) ?_
          refine mx_sip 256 d_Ma_solve_71 (by decide) ?_
          refine mx_il1 d_Ma_solve_74 ?_
          refine mx_imulN d_Ma_solve_75 ?_
          refine mx_il2 d_Ma_solve_76 ?_
          refine mx_iaddN d_Ma_solve_77 ?_
          refine mx_al0 d_Ma_solve_78 ?_
          refine mx_il1 d_Ma_solve_79 ?_
          refine mx_il2 d_Ma_solve_80 ?_
          refine mx_cV2i d_Ma_solve_81 (c_Ma_mostFrom hMa hR9 hg hR8 hC8 hk (by rw [← hZ2]; exact hs) (by omega) hinv.2.1) ok_Ma_mostFrom ml_Ma_39 (by assumption) ⟨rfl, rfl⟩ (by decide) (Nat.le_of_ble_eq_true rfl) ?_
          refine mx_cSN3v d_Ma_solve_84 (c_put (k := 256 * (R - (k + 1)) + s) (by assumption) (by omega) (by omega)) ok_Vh_put ml_Ma_29 (by decide) (Nat.le_of_ble_eq_true rfl) ?_
          refine mx_iN2 d_Ma_solve_87 ?_
          refine mx_goto 49 d_Ma_solve_90 (by decide) ?_
          exact ih (mx_up K (ma + 2) (256 * (R - (k + 1)) + s) (nI (vs_op gain R C (k + 1) s))) (ms_step hk (by rw [← hZ2]; exact hZ8) (by rw [← hZ2]; exact hs) hinv)
      · skip
        obtain ⟨K, hz9⟩ : ∃ q, q = z9 := ⟨_, rfl⟩
        subst hz9
        try dsimp only at hinv ⊢
        refine mx_il2 d_Ma_solve_49 ?_
        refine mx_in_1 d_Ma_solve_50 ?_
        refine mx_al0 d_Ma_solve_51 ?_
        refine mx_getI d_Ma_solve_52 fl_Ma_22 (by assumption) ?_
        refine mx_ti (y := nI (C)) ((congrFun (mx_offn hinv.1 (by omega)) 1).trans hR.2.1) ?_
        refine mx_ishl d_Ma_solve_55 ?_
        refine mx_ti (y := nI (Z)) (hZ) ?_
        refine mx_icN_ge 93 d_Ma_solve_56 (by decide) (by omega) (by omega) (fun c_56 => ?_) (fun c_56 => absurd c_56 (by omega))
        refine mx_ii1 (v := -1) d_Ma_solve_93 (by decide) ?_
        refine mx_goto 43 d_Ma_solve_96 (by decide) ?_
        refine mx_dn2 ?_
        have e1 : (nI (R - (k + 1)) + -1) = (nI (R - (k + 1)) - nI 1) := by (rw [Int32.sub_eq_add_neg]; rfl)
        refine mx_lsc (congrArg (fun z9 => ([some (.ref (ma)), some (.int (z9)), none] : List (Option Value))) e1) ?_
        exact ih K (ms_next (by rw [← hZ2]; exact hinv))
    · skip
      obtain ⟨K, hz9⟩ : ∃ q, q = z9 := ⟨_, rfl⟩
      subst hz9
      try dsimp only at hinv ⊢
      refine mx_lsc (congrArg (fun z9 => ([some (.ref (ma)), some (.int (z9)), none] : List (Option Value))) (by rw [Nat.sub_self])) ?_
      refine mx_il1 d_Ma_solve_43 ?_
      refine mx_if_lt 99 d_Ma_solve_44 (by decide) (fun c_44 => ?_) (fun c_44 => absurd (by decide) c_44)
      exact mx_vret d_Ma_solve_99 rfl (mx_sR_of rfl ⟨hinv.1, hinv.2.1⟩)
theorem c_Ma_total (hMa : ma_ok S P ma) (hms : ms_ok I ma gain R C R)  : mx_C l E M_Ma_total 1 0 0 [.ref (ma)] (t, S, I, P, J) (mx_ri (nI (vs_op gain R C R 0)) (t, S, I, P, J)) := by
  obtain ⟨hMa0, hMa1, hMa2, hMa3, hMa4⟩ := id hMa
  refine mx_C_of (ls0 := [some (.ref (ma))]) (by decide +kernel) rfl rfl (Nat.le_of_ble_eq_true rfl) rfl ?_
  refine mx_al0 d_Ma_total_0 ?_
  refine mx_getR d_Ma_total_1 fl_Ma_15 (by assumption) (by assumption) ?_
  refine mx_in_0 d_Ma_total_4 ?_
  refine mx_cSN2i d_Ma_total_5 (c_get (k := 0) (by assumption) (by omega) (by omega)) ok_Vh_get ml_Ma_43 (by decide) (Nat.le_of_ble_eq_true rfl) ?_
  exact mx_iret d_Ma_total_8 rfl (mx_ri_of (by have z := hms R (Nat.le_refl R) 0 (Nat.pow_pos (by omega)) (Or.inl (Nat.le_trans (by decide +kernel : vs_pc 0 ≤ 0) (by omega))); rw [Nat.sub_self] at z; exact z))
theorem c_Ma_firstCol0 (hMa : ma_ok S P ma) (hR : ma_rel I ma gain R C) (hg : ∀ a b, gain a b ≤ 9) (hR8 : R ≤ 8) (hC8 : C ≤ 8) (hk : k < R) {s : Nat} (hs : s < 2 ^ C) (hp : vs_pc s ≤ R - (k + 1)) (hms : ms_ok I ma gain R C R)  : mx_C l E M_Ma_firstColumn 2 0 0 [.ref (ma), .int (nI (R - (k + 1))), .int (nI (s))] (t, S, I, P, J) (mx_ri (mtv (op_col gain R C k s)) (t, S, I, P, J)) := by
  obtain ⟨hMa0, hMa1, hMa2, hMa3, hMa4⟩ := id hMa
  have h256 : 2 ^ C ≤ 256 := vs_two8 (by omega)
  have hop := fun S => vs_op_le hg R C k S
  have hop2 := vs_op_le hg R C (k + 1) s
  refine mx_C_of (ls0 := [some (.ref (ma)), some (.int (nI (R - (k + 1)))), some (.int (nI (s))), none, none]) (by decide +kernel) rfl rfl (Nat.le_of_ble_eq_true rfl) rfl ?_
  refine mx_al0 d_Ma_firstColumn_0 ?_
  refine mx_getR d_Ma_firstColumn_1 fl_Ma_15 (by assumption) (by assumption) ?_
  refine mx_sip 256 d_Ma_firstColumn_4 (by decide) ?_
  refine mx_il1 d_Ma_firstColumn_7 ?_
  refine mx_imulN d_Ma_firstColumn_8 ?_
  refine mx_il2 d_Ma_firstColumn_9 ?_
  refine mx_iaddN d_Ma_firstColumn_10 ?_
  refine mx_cSN2i d_Ma_firstColumn_11 (c_get (k := 256 * (R - (k + 1)) + s) (by assumption) (by omega) (by omega)) ok_Vh_get ml_Ma_43 (by decide) (Nat.le_of_ble_eq_true rfl) ?_
  refine mx_ti (y := nI (vs_op gain R C (k + 1) s)) (hms (k + 1) (by omega) s hs (by omega)) ?_
  refine mx_is3 d_Ma_firstColumn_14 ?_
  refine mx_al0 d_Ma_firstColumn_15 ?_
  refine mx_getR d_Ma_firstColumn_16 fl_Ma_15 (by assumption) (by assumption) ?_
  refine mx_sip 256 d_Ma_firstColumn_19 (by decide) ?_
  refine mx_il1 d_Ma_firstColumn_22 ?_
  refine mx_in_1 d_Ma_firstColumn_23 ?_
  refine mx_iaddN d_Ma_firstColumn_24 ?_
  refine mx_imulN d_Ma_firstColumn_25 ?_
  refine mx_il2 d_Ma_firstColumn_26 ?_
  refine mx_iaddN d_Ma_firstColumn_27 ?_
  refine mx_cSN2i d_Ma_firstColumn_28 (c_get (k := 256 * (R - (k + 1) + 1) + s) (by assumption) (by omega) (by omega)) ok_Vh_get ml_Ma_43 (by decide) (Nat.le_of_ble_eq_true rfl) ?_
  have h1 := hop s
  have h9 : 9 * k ≤ 72 := by omega
  have h10 : 9 * (k + 1) ≤ 72 := by omega
  refine mx_ti (y := nI (vs_op gain R C k s)) ((by rw [show R - (k + 1) + 1 = R - k by omega]; exact hms k (by omega) s hs (by omega))) ?_
  refine mx_il3 d_Ma_firstColumn_31 ?_
  refine mx_icN_ne 37 d_Ma_firstColumn_32 (by decide) (by omega) (by omega) (fun c_32 => ?_) (fun c_32 => ?_)
  · skip
    refine mx_in_0 d_Ma_firstColumn_37 ?_
    refine mx_is4 d_Ma_firstColumn_38 ?_
    refine mx_loopI (N := C) (fun b => ∀ j, j < b → op_hit gain R C k s j = false) (ls := fun b => [some (.ref (ma)), some (.int (nI (R - (k + 1)))), some (.int (nI (s))), some (.int (nI (vs_op gain R C (k + 1) s))), some (.int (nI (b)))]) (X := fun b => (t, S, I, P, J)) (fun j hj => absurd hj (by omega)) (fun b hb hinv ih => ?_) (fun hinv => ?_)
    · try dsimp only at hinv ih ⊢
      refine mx_il4 d_Ma_firstColumn_40 ?_
      refine mx_al0 d_Ma_firstColumn_42 ?_
      refine mx_getI d_Ma_firstColumn_43 fl_Ma_22 (by assumption) ?_
      refine mx_ti (y := nI (C)) (hR.2.1) ?_
      refine mx_icN_ge 70 d_Ma_firstColumn_46 (by decide) (by omega) (by omega) (fun c_46 => absurd c_46 (by omega)) (fun c_46 => ?_)
      refine mx_al0 d_Ma_firstColumn_49 ?_
      refine mx_il1 d_Ma_firstColumn_50 ?_
      refine mx_il4 d_Ma_firstColumn_51 ?_
      refine mx_il2 d_Ma_firstColumn_53 ?_
      refine mx_cV3i d_Ma_firstColumn_54 (c_Ma_gainBy hMa hR hg (a := R - (k + 1)) (b := b) (s := s) (r := vs_op gain R C k (bset s b)) (by omega) (by omega) (by omega) (fun hz => by rw [show R - (k + 1) + 1 = R - k by omega]; exact hms k (by omega) _ (bset_lt hs hb) (by have := bset_pc s (by omega) b (by omega); omega))) ok_Ma_gainBy ml_Ma_47 (by assumption) ⟨rfl, rfl⟩ (by decide) (Nat.le_of_ble_eq_true rfl) ?_
      have h2 := hop (bset s b)
      have h3 := hg (R - (k + 1)) b
      refine mx_il3 d_Ma_firstColumn_57 ?_
      refine mx_icmp_ne 64 d_Ma_firstColumn_58 (by decide) (fun c_58 => ?_) (fun c_58 => ?_)
      · skip
        have k0 := gbv_f c_58
        refine mx_iN4 d_Ma_firstColumn_64 ?_
        refine mx_goto 40 d_Ma_firstColumn_67 (by decide) ?_
        exact ih (vs_nextT hinv k0)
      · skip
        have k0 := gbv_t c_58 (by omega) (by omega)
        refine mx_il4 d_Ma_firstColumn_61 ?_
        exact mx_iret d_Ma_firstColumn_63 rfl (mx_ri_of (by rw [show op_col gain R C k s = b from (if_neg c_32).trans (op_1st_eq hb k0 hinv), mtv_lt (by omega)]))
    · try dsimp only at hinv ⊢
      refine mx_il4 d_Ma_firstColumn_40 ?_
      refine mx_al0 d_Ma_firstColumn_42 ?_
      refine mx_getI d_Ma_firstColumn_43 fl_Ma_22 (by assumption) ?_
      refine mx_ti (y := nI (C)) (hR.2.1) ?_
      refine mx_icN_ge 70 d_Ma_firstColumn_46 (by decide) (by omega) (by omega) (fun c_46 => ?_) (fun c_46 => absurd c_46 (by omega))
      refine mx_ic_m1 d_Ma_firstColumn_70 ?_
      exact mx_iret d_Ma_firstColumn_71 rfl (mx_ri_of (by obtain ⟨b, hb, q⟩ := op_hit_ex c_32; rw [hinv b hb] at q; cases q))
  · skip
    refine mx_ic_m1 d_Ma_firstColumn_35 ?_
    exact mx_iret d_Ma_firstColumn_36 rfl (mx_ri_of (by rw [show op_col gain R C k s = 8 from if_pos c_32]; rfl))
theorem c_Ma_firstColumn (hMa : ma_ok S P ma) (hR : ma_rel I ma gain R C) (hg : ∀ a b, gain a b ≤ 9) (hR8 : R ≤ 8) (hC8 : C ≤ 8) {j : Nat} (hj : j < R) {s : Nat} (hs : s < 2 ^ C) (hp : vs_pc s ≤ j) (hms : ms_ok I ma gain R C R) : mx_C l E M_Ma_firstColumn 2 0 0 [.ref (ma), .int (nI (j)), .int (nI (s))] (t, S, I, P, J) (mx_ri (mtv (op_col gain R C (R - (j + 1)) s)) (t, S, I, P, J)) := by
  have z := c_Ma_firstCol0 (l := l) (E := E) (t := t) (J := J) hMa hR hg hR8 hC8 (k := R - (j + 1)) (by omega) hs (by omega) hms
  rw [show R - (R - (j + 1) + 1) = j by omega] at z
  exact z
theorem c_Ma_columnOf (hMa : ma_ok S P ma) (hR : ma_rel I ma gain R C) (hg : ∀ a b, gain a b ≤ 9) (hR8 : R ≤ 8) (hC8 : C ≤ 8) (hms : ms_ok I ma gain R C R) {r : Nat} (hr : r < R) : mx_C l E M_Ma_columnOf 3 0 0 [.ref (ma), .int (nI (r))] (t, S, I, P, J) (mx_ri (mtv (op_way gain R C (r + 1)).2) (t, S, I, P, J)) := by
  obtain ⟨hMa0, hMa1, hMa2, hMa3, hMa4⟩ := id hMa
  refine mx_C_of (ls0 := [some (.ref (ma)), some (.int (nI (r))), none, none, none]) (by decide +kernel) rfl rfl (Nat.le_of_ble_eq_true rfl) rfl ?_
  refine mx_in_0 d_Ma_columnOf_0 ?_
  refine mx_is2 d_Ma_columnOf_1 ?_
  refine mx_ic_m1 d_Ma_columnOf_2 ?_
  refine mx_is3 d_Ma_columnOf_3 ?_
  refine mx_in_0 d_Ma_columnOf_4 ?_
  refine mx_is4 d_Ma_columnOf_5 ?_
  refine mx_loop (N := r + 1) (ls := fun j => [some (.ref (ma)), some (.int (nI (r))), some (.int (nI ((op_way gain R C j).1))), some (.int ((mtv (op_way gain R C j).2))), some (.int (nI (j)))]) (X := fun j => (t, S, I, P, J)) (fun j hj ih => ?_) ?_
  · try dsimp only
    refine mx_il4 d_Ma_columnOf_7 ?_
    refine mx_il1 d_Ma_columnOf_9 ?_
    refine mx_icN_gt 51 d_Ma_columnOf_10 (by decide) (by omega) (by omega) (fun c_10 => absurd c_10 (by omega)) (fun c_10 => ?_)
    refine mx_il4 d_Ma_columnOf_13 ?_
    refine mx_al0 d_Ma_columnOf_15 ?_
    refine mx_getI d_Ma_columnOf_16 fl_Ma_18 (by assumption) ?_
    refine mx_ti (y := nI (R)) (hR.1) ?_
    refine mx_icN_ge 51 d_Ma_columnOf_19 (by decide) (by omega) (by omega) (fun c_19 => absurd c_19 (by omega)) (fun c_19 => ?_)
    obtain ⟨w1, w2⟩ := op_way_lt gain R hC8 j
    have w3 : 2 ^ C ≤ 256 := vs_two8 (by omega)
    refine mx_al0 d_Ma_columnOf_22 ?_
    refine mx_il4 d_Ma_columnOf_23 ?_
    refine mx_il2 d_Ma_columnOf_25 ?_
    refine mx_cV2i d_Ma_columnOf_26 (c_Ma_firstColumn hMa hR hg hR8 hC8 (j := j) (by omega) w1 w2 hms) ok_Ma_firstColumn ml_Ma_60 (by assumption) ⟨rfl, rfl⟩ (by decide) (Nat.le_of_ble_eq_true rfl) ?_
    refine mx_is3 d_Ma_columnOf_29 ?_
    refine mx_il2 d_Ma_columnOf_30 ?_
    refine mx_il3 d_Ma_columnOf_31 ?_
    refine mx_ic_m1 d_Ma_columnOf_32 ?_
    refine mx_icmp_ne 40 d_Ma_columnOf_33 (by decide) (fun c_33 => ?_) (fun c_33 => ?_)
    · skip
      have u8 := mtv_n c_33
      rw [mtv_lt u8]
      refine mx_in_1 d_Ma_columnOf_40 ?_
      refine mx_il3 d_Ma_columnOf_41 ?_
      refine mx_ishl d_Ma_columnOf_42 ?_
      refine mx_ior d_Ma_columnOf_43 ?_
      refine mx_is2 d_Ma_columnOf_44 ?_
      refine mx_iN4 d_Ma_columnOf_45 ?_
      refine mx_goto 7 d_Ma_columnOf_48 (by decide) ?_
      have e2 : (nI ((op_way gain R C j).1) ||| (nI (1) <<< (nI (op_col gain R C (R - (j + 1)) (op_way gain R C j).1) &&& 31))) = nI ((op_way gain R C (j + 1)).1) := by first | (rw [bset_nI _ (by omega) _ u8, op_way_s, if_pos u8]; done) | (rw [op_way_s, if_neg u8]; exact Int32.or_zero)
      refine mx_lsc (congrArg (fun z9 => ([some (.ref (ma)), some (.int (nI (r))), some (.int (z9)), some (.int (nI (op_col gain R C (R - (j + 1)) (op_way gain R C j).1))), some (.int (nI (j + 1)))] : List (Option Value))) e2) ?_
      have e3 : nI (op_col gain R C (R - (j + 1)) (op_way gain R C j).1) = (mtv (op_way gain R C (j + 1)).2) := by first | (rw [op_way_s]; exact (mtv_lt u8).symm) | (rw [op_way_s]; done)
      refine mx_lsc (congrArg (fun z9 => ([some (.ref (ma)), some (.int (nI (r))), some (.int (nI ((op_way gain R C (j + 1)).1))), some (.int (z9)), some (.int (nI (j + 1)))] : List (Option Value))) e3) ?_
      exact ih
    · skip
      have u8 := mtv_e c_33
      refine mx_in_0 d_Ma_columnOf_36 ?_
      refine mx_goto 43 d_Ma_columnOf_37 (by decide) ?_
      refine mx_ior d_Ma_columnOf_43 ?_
      refine mx_is2 d_Ma_columnOf_44 ?_
      refine mx_iN4 d_Ma_columnOf_45 ?_
      refine mx_goto 7 d_Ma_columnOf_48 (by decide) ?_
      have e2 : (nI ((op_way gain R C j).1) ||| nI (0)) = nI ((op_way gain R C (j + 1)).1) := by first | (rw [bset_nI _ (by omega) _ u8, op_way_s, if_pos u8]; done) | (rw [op_way_s, if_neg u8]; exact Int32.or_zero)
      refine mx_lsc (congrArg (fun z9 => ([some (.ref (ma)), some (.int (nI (r))), some (.int (z9)), some (.int ((mtv (op_col gain R C (R - (j + 1)) (op_way gain R C j).1)))), some (.int (nI (j + 1)))] : List (Option Value))) e2) ?_
      have e3 : (mtv (op_col gain R C (R - (j + 1)) (op_way gain R C j).1)) = (mtv (op_way gain R C (j + 1)).2) := by first | (rw [op_way_s]; exact (mtv_lt u8).symm) | (rw [op_way_s]; done)
      refine mx_lsc (congrArg (fun z9 => ([some (.ref (ma)), some (.int (nI (r))), some (.int (nI ((op_way gain R C (j + 1)).1))), some (.int (z9)), some (.int (nI (j + 1)))] : List (Option Value))) e3) ?_
      exact ih
  · try dsimp only
    refine mx_il4 d_Ma_columnOf_7 ?_
    refine mx_il1 d_Ma_columnOf_9 ?_
    refine mx_icN_gt 51 d_Ma_columnOf_10 (by decide) (by omega) (by omega) (fun c_10 => ?_) (fun c_10 => absurd c_10 (by omega))
    refine mx_il3 d_Ma_columnOf_51 ?_
    exact mx_iret d_Ma_columnOf_52 rfl (mx_ri_of rfl)
theorem c_Mo_fills (hM : mo_ok S P mo) (hm : I (mo + 1) = m) {qv lv : Int32} (hbr : ∀ (I9 : mx_I) (a b : Nat), I9 (mo + 1) = m → a < R → b < C → mx_C l E M_Mo_brings 4 0 0 [.ref (mo), .int (nI (a)), .int (nI (b)), .int (qv), .int (lv)] (t, S, I9, P, J) (mx_ri (brv (gain a b)) (t, S, I9, P, J))) (hg : ∀ a b, gain a b ≤ 9) (hR8 : R ≤ 8) (hC8 : C ≤ 8)  : mx_C l E M_Mo_fills 5 0 0 [.ref (mo), .int (nI (R)), .int (nI (C)), .int (qv), .int (lv)] (t, S, I, P, J) (mx_sR none t S P J (fun K => mx_off (fun c => c = mo + 11) I K ∧ wi_ok K mo gain R C R)) := by
  obtain ⟨hM0, hMp1, hMp2, hMp4, hMp5, hMp7, hMp14, hMp21, hMp22, hMp23, hMp24, hMp25, hMp26, hMp27, hMs1, hMs2, hMs3, hMs4, hMs5, hMs6, hMs7, hMs8, hMs9, hMs10, hMs11, hMs12, hMs13⟩ := id hM
  refine mx_C_of (ls0 := [some (.ref (mo)), some (.int (nI (R))), some (.int (nI (C))), some (.int (qv)), some (.int (lv)), none, none, none, none, none]) (by decide +kernel) rfl rfl (Nat.le_of_ble_eq_true rfl) rfl ?_
  refine mx_in_0 d_Mo_fills_0 ?_
  refine mx_is5 d_Mo_fills_1 ?_
  refine mx_loopX (α := (mx_I)) (N := 256) (a0 := I) (fun s z9 => w0_inv I z9 mo R s) (ls := fun s z9 => [some (.ref (mo)), some (.int (nI (R))), some (.int (nI (C))), some (.int (qv)), some (.int (lv)), some (.int (nI (s))), none, none, none, none]) (X := fun s z9 => (t, S, z9, P, J)) (⟨mx_off.rf, fun S hS => absurd hS (by omega)⟩) (fun s hs z9 hinv ih => ?_) (fun z9 hinv => ?_)
  · skip
    obtain ⟨K, hz9⟩ : ∃ q, q = z9 := ⟨_, rfl⟩
    subst hz9
    try dsimp only at hinv ih ⊢
    refine mx_il5 d_Mo_fills_3 ?_
    refine mx_sip 256 d_Mo_fills_5 (by decide) ?_
    refine mx_icN_ge 31 d_Mo_fills_8 (by decide) (by omega) (by omega) (fun c_8 => absurd c_8 (by omega)) (fun c_8 => ?_)
    refine mx_al0 d_Mo_fills_11 ?_
    refine mx_getR d_Mo_fills_12 fl_Mo_44 (by assumption) (by assumption) ?_
    refine mx_sip 256 d_Mo_fills_15 (by decide) ?_
    refine mx_il1 d_Mo_fills_18 ?_
    refine mx_imulN d_Mo_fills_19 ?_
    refine mx_il5 d_Mo_fills_20 ?_
    refine mx_iaddN d_Mo_fills_22 ?_
    refine mx_in_0 d_Mo_fills_23 ?_
    refine mx_iast d_Mo_fills_24 (by assumption) (nI_inb (by omega) (by omega)) ?_
    rw [nI_clamp (by omega)]
    refine mx_iN5 d_Mo_fills_25 ?_
    refine mx_goto 3 d_Mo_fills_28 (by decide) ?_
    exact ih (mx_up K (mo + 11) (256 * R + s) (nI (0))) (w0_step hinv)
  · skip
    obtain ⟨K, hz9⟩ : ∃ q, q = z9 := ⟨_, rfl⟩
    subst hz9
    try dsimp only at hinv ⊢
    have hst : wi_inv I K mo gain R C 0 0 := w0_end hinv
    refine mx_il5 d_Mo_fills_3 ?_
    refine mx_sip 256 d_Mo_fills_5 (by decide) ?_
    refine mx_icN_ge 31 d_Mo_fills_8 (by decide) (by omega) (by omega) (fun c_8 => ?_) (fun c_8 => absurd c_8 (by omega))
    refine mx_il1 d_Mo_fills_31 ?_
    refine mx_in_1 d_Mo_fills_32 ?_
    refine mx_isub d_Mo_fills_33 ?_
    refine mx_is5 d_Mo_fills_34 ?_
    refine mx_loopX (α := (mx_I)) (N := R) (a0 := K) (fun k z9 => wi_inv I z9 mo gain R C k 0) (ls := fun k z9 => [some (.ref (mo)), some (.int (nI (R))), some (.int (nI (C))), some (.int (qv)), some (.int (lv)), some (.int ((nI (R - k) - nI 1))), none, none, none, none]) (X := fun k z9 => (t, S, z9, P, J)) (hst) (fun k hk z9 hinv ih => ?_) (fun z9 hinv => ?_)
    · skip
      obtain ⟨K, hz9⟩ : ∃ q, q = z9 := ⟨_, rfl⟩
      subst hz9
      try dsimp only at hinv ih ⊢
      refine mx_lsc (congrArg (fun z9 => ([some (.ref (mo)), some (.int (nI (R))), some (.int (nI (C))), some (.int (qv)), some (.int (lv)), some (.int (z9)), none, none, none, none] : List (Option Value))) (by rw [nI_sub (by omega), Nat.sub_sub])) ?_
      refine mx_il5 d_Mo_fills_36 ?_
      refine mx_if_lt 177 d_Mo_fills_38 (by decide) (fun c_38 => absurd c_38 (nI_pos (by omega))) (fun c_38 => ?_)
      refine mx_in_0 d_Mo_fills_41 ?_
      refine mx_is6 d_Mo_fills_42 ?_
      have ih36 := ih
      have hinv36 := hinv
      refine mx_loopX (α := (mx_I)) (N := 256) (a0 := K) (fun s z9 => wi_inv I z9 mo gain R C k s) (ls := fun s z9 => [some (.ref (mo)), some (.int (nI (R))), some (.int (nI (C))), some (.int (qv)), some (.int (lv)), some (.int (nI (R - (k + 1)))), some (.int (nI (s))), none, none, none]) (X := fun s z9 => (t, S, z9, P, J)) (hinv) (fun s hs z9 hinv ih => ?_) (fun z9 hinv => ?_)
      · skip
        obtain ⟨K, hz9⟩ : ∃ q, q = z9 := ⟨_, rfl⟩
        subst hz9
        try dsimp only at hinv ih ⊢
        have hmK : K (mo + 1) = m := (mx_offn hinv.1 (by omega)).trans hm
        refine mx_il6 d_Mo_fills_44 ?_
        refine mx_sip 256 d_Mo_fills_46 (by decide) ?_
        refine mx_icN_ge 171 d_Mo_fills_49 (by decide) (by omega) (by omega) (fun c_49 => absurd c_49 (by omega)) (fun c_49 => ?_)
        refine mx_al0 d_Mo_fills_52 ?_
        refine mx_getR d_Mo_fills_53 fl_Mo_44 (by assumption) (by assumption) ?_
        refine mx_sip 256 d_Mo_fills_56 (by decide) ?_
        refine mx_il5 d_Mo_fills_59 ?_
        refine mx_in_1 d_Mo_fills_61 ?_
        refine mx_iaddN d_Mo_fills_62 ?_
        refine mx_imulN d_Mo_fills_63 ?_
        refine mx_il6 d_Mo_fills_64 ?_
        refine mx_iaddN d_Mo_fills_66 ?_
        refine mx_iald d_Mo_fills_67 (by assumption) (nI_inb (by omega) (by omega)) ?_
        refine mx_ti (y := K (mo + 11) (256 * (R - (k + 1) + 1) + s)) (by rw [nI_clamp (by omega)]) ?_
        refine mx_ti (y := nI (vs_op gain R C k s)) ((by rw [show R - (k + 1) + 1 = R - k by omega]; exact hinv.2.1 k (Nat.le_refl k) s hs)) ?_
        refine mx_is7 d_Mo_fills_68 ?_
        refine mx_in_0 d_Mo_fills_70 ?_
        refine mx_is8 d_Mo_fills_71 ?_
        have ih44 := ih
        have hinv44 := hinv
        refine mx_loop (N := C) (ls := fun b => [some (.ref (mo)), some (.int (nI (R))), some (.int (nI (C))), some (.int (qv)), some (.int (lv)), some (.int (nI (R - (k + 1)))), some (.int (nI (s))), some (.int (nI (vs_opQ gain R C k s b))), some (.int (nI (b))), none]) (X := fun b => (t, S, K, P, J)) (fun b hb ih => ?_) ?_
        · try dsimp only
          refine mx_il8 d_Mo_fills_73 ?_
          refine mx_il2 d_Mo_fills_75 ?_
          refine mx_icN_ge 149 d_Mo_fills_76 (by decide) (by omega) (by omega) (fun c_76 => absurd c_76 (by omega)) (fun c_76 => ?_)
          refine mx_il6 d_Mo_fills_79 ?_
          refine mx_il8 d_Mo_fills_81 ?_
          refine mx_cS2i d_Mo_fills_83 (c_Mo_isOf (j := b) (by omega)) ok_Mo_isOf ml_Mo_74 (by decide) (Nat.le_of_ble_eq_true rfl) ?_
          refine mx_ifB_eq 93 d_Mo_fills_86 (by decide) (fun c_86 => ?_) (fun c_86 => ?_)
          · skip
            rw [vs_bt_nI _ _ (by omega)] at c_86
            refine mx_al0 d_Mo_fills_93 ?_
            refine mx_il5 d_Mo_fills_94 ?_
            refine mx_il8 d_Mo_fills_96 ?_
            refine mx_il3 d_Mo_fills_98 ?_
            refine mx_il4 d_Mo_fills_99 ?_
            refine mx_cV4i d_Mo_fills_101 (hbr K (R - (k + 1)) (b) hmK (by omega) (by omega)) ok_Mo_brings ml_Mo_385 (by assumption) ⟨rfl, rfl⟩ (by decide) (Nat.le_of_ble_eq_true rfl) ?_
            refine mx_is9 d_Mo_fills_104 ?_
            refine mx_il9 d_Mo_fills_106 ?_
            refine mx_ic_m1 d_Mo_fills_108 ?_
            refine mx_icmp_eq 143 d_Mo_fills_109 (by decide) (fun c_109 => ?_) (fun c_109 => ?_)
            · skip
              have g0 : s.testBit b = true ∨ gain (R - (k + 1)) b = 0 := by first | exact Or.inl c_86 | exact Or.inr (brv_e (by have := hg (R - (k + 1)) b; omega) c_109)
              refine mx_iN8 d_Mo_fills_143 ?_
              refine mx_goto 73 d_Mo_fills_146 (by decide) ?_
              refine mx_dn9 ?_
              have e7 : nI (vs_opQ gain R C k s b) = nI (vs_opQ gain R C k s (b + 1)) := by first | (rw [vs_opQ_s, op_g, if_pos g0]; done) | (rw [vs_opQ_s, op_g, if_pos (Or.inl c_86)]; done) | (rw [vs_opQ_s, op_g, if_neg (fun z => z.elim (by rw [c_86]; decide) g1)]; done)
              refine mx_lsc (congrArg (fun z9 => ([some (.ref (mo)), some (.int (nI (R))), some (.int (nI (C))), some (.int (qv)), some (.int (lv)), some (.int (nI (R - (k + 1)))), some (.int (nI (s))), some (.int (z9)), some (.int (nI (b + 1))), none] : List (Option Value))) e7) ?_
              exact ih
            · skip
              obtain ⟨gb, g1⟩ := brv_n c_109
              rw [gb]
              have hb2 := bset_256 s (by omega) b (by omega)
              have h1 := vs_op_le hg R C k (bset s b)
              have h2 := hg (R - (k + 1)) b
              have h3 := vs_opQ_mono gain R C k s b (C - b)
              rw [show b + (C - b) = C by omega, ← vs_op_s] at h3
              have h4 := vs_op_le hg R C (k + 1) s
              have h9 : 9 * k ≤ 72 := by omega
              have h10 : 9 * (k + 1) ≤ 72 := by omega
              refine mx_il7 d_Mo_fills_112 ?_
              refine mx_il9 d_Mo_fills_114 ?_
              refine mx_al0 d_Mo_fills_116 ?_
              refine mx_getR d_Mo_fills_117 fl_Mo_44 (by assumption) (by assumption) ?_
              refine mx_sip 256 d_Mo_fills_120 (by decide) ?_
              refine mx_il5 d_Mo_fills_123 ?_
              refine mx_in_1 d_Mo_fills_125 ?_
              refine mx_iaddN d_Mo_fills_126 ?_
              refine mx_imulN d_Mo_fills_127 ?_
              refine mx_il6 d_Mo_fills_128 ?_
              refine mx_in_1 d_Mo_fills_130 ?_
              refine mx_il8 d_Mo_fills_131 ?_
              refine mx_ishl d_Mo_fills_133 ?_
              refine mx_ior d_Mo_fills_134 ?_
              refine mx_ti (y := nI (bset s b)) (bset_nI s (by omega) b (by omega)) ?_
              refine mx_iaddN d_Mo_fills_135 ?_
              refine mx_iald d_Mo_fills_136 (by assumption) (nI_inb (by omega) (by omega)) ?_
              refine mx_ti (y := K (mo + 11) (256 * (R - (k + 1) + 1) + bset s b)) (by rw [nI_clamp (by omega)]) ?_
              refine mx_ti (y := nI (vs_op gain R C k (bset s b))) ((by rw [show R - (k + 1) + 1 = R - k by omega]; exact hinv.2.1 k (Nat.le_refl k) _ hb2)) ?_
              refine mx_iaddN d_Mo_fills_137 ?_
              refine mx_cS2i d_Mo_fills_138 (c_Mo_greaterN (a := vs_opQ gain R C k s b) (b := gain (R - (k + 1)) b + vs_op gain R C k (bset s b)) (by omega) (by omega)) ok_Mo_greater ml_Mo_277 (by decide) (Nat.le_of_ble_eq_true rfl) ?_
              refine mx_is7 d_Mo_fills_141 ?_
              refine mx_iN8 d_Mo_fills_143 ?_
              refine mx_goto 73 d_Mo_fills_146 (by decide) ?_
              refine mx_dn9 ?_
              have e7 : nI (max (vs_opQ gain R C k s b) (gain (R - (k + 1)) b + vs_op gain R C k (bset s b))) = nI (vs_opQ gain R C k s (b + 1)) := by first | (rw [vs_opQ_s, op_g, if_pos g0]; done) | (rw [vs_opQ_s, op_g, if_pos (Or.inl c_86)]; done) | (rw [vs_opQ_s, op_g, if_neg (fun z => z.elim (by rw [c_86]; decide) g1)]; done)
              refine mx_lsc (congrArg (fun z9 => ([some (.ref (mo)), some (.int (nI (R))), some (.int (nI (C))), some (.int (qv)), some (.int (lv)), some (.int (nI (R - (k + 1)))), some (.int (nI (s))), some (.int (z9)), some (.int (nI (b + 1))), none] : List (Option Value))) e7) ?_
              exact ih
          · skip
            rw [vs_bt_nI _ _ (by omega)] at c_86
            refine mx_ic_m1 d_Mo_fills_89 ?_
            refine mx_goto 104 d_Mo_fills_90 (by decide) ?_
            refine mx_is9 d_Mo_fills_104 ?_
            refine mx_il9 d_Mo_fills_106 ?_
            refine mx_ic_m1 d_Mo_fills_108 ?_
            refine mx_icmp_eq 143 d_Mo_fills_109 (by decide) (fun c_109 => ?_) (fun c_109 => absurd c_109 (fun z => z rfl))
            refine mx_iN8 d_Mo_fills_143 ?_
            refine mx_goto 73 d_Mo_fills_146 (by decide) ?_
            refine mx_dn9 ?_
            have e7 : nI (vs_opQ gain R C k s b) = nI (vs_opQ gain R C k s (b + 1)) := by first | (rw [vs_opQ_s, op_g, if_pos g0]; done) | (rw [vs_opQ_s, op_g, if_pos (Or.inl c_86)]; done) | (rw [vs_opQ_s, op_g, if_neg (fun z => z.elim (by rw [c_86]; decide) g1)]; done)
            refine mx_lsc (congrArg (fun z9 => ([some (.ref (mo)), some (.int (nI (R))), some (.int (nI (C))), some (.int (qv)), some (.int (lv)), some (.int (nI (R - (k + 1)))), some (.int (nI (s))), some (.int (z9)), some (.int (nI (b + 1))), none] : List (Option Value))) e7) ?_
            exact ih
        · try dsimp only
          refine mx_il8 d_Mo_fills_73 ?_
          refine mx_il2 d_Mo_fills_75 ?_
          refine mx_icN_ge 149 d_Mo_fills_76 (by decide) (by omega) (by omega) (fun c_76 => ?_) (fun c_76 => absurd c_76 (by omega))
          refine mx_al0 d_Mo_fills_149 ?_
          refine mx_getR d_Mo_fills_150 fl_Mo_44 (by assumption) (by assumption) ?_
          refine mx_sip 256 d_Mo_fills_153 (by decide) ?_
          refine mx_il5 d_Mo_fills_156 ?_
          refine mx_imulN d_Mo_fills_158 ?_
          refine mx_il6 d_Mo_fills_159 ?_
          refine mx_iaddN d_Mo_fills_161 ?_
          refine mx_il7 d_Mo_fills_162 ?_
          refine mx_iast d_Mo_fills_164 (by assumption) (nI_inb (by omega) (by omega)) ?_
          rw [nI_clamp (by omega)]
          refine mx_iN6 d_Mo_fills_165 ?_
          refine mx_goto 44 d_Mo_fills_168 (by decide) ?_
          refine mx_dn7 ?_
          refine mx_dn8 ?_
          exact ih (mx_up K (mo + 11) (256 * (R - (k + 1)) + s) (nI (vs_opQ gain R C k s C))) (by rw [← vs_op_s]; exact wi_step hk hs hinv)
      · skip
        obtain ⟨K, hz9⟩ : ∃ q, q = z9 := ⟨_, rfl⟩
        subst hz9
        try dsimp only at hinv ⊢
        refine mx_il6 d_Mo_fills_44 ?_
        refine mx_sip 256 d_Mo_fills_46 (by decide) ?_
        refine mx_icN_ge 171 d_Mo_fills_49 (by decide) (by omega) (by omega) (fun c_49 => ?_) (fun c_49 => absurd c_49 (by omega))
        refine mx_ii5 (v := -1) d_Mo_fills_171 (by decide) ?_
        refine mx_goto 36 d_Mo_fills_174 (by decide) ?_
        refine mx_dn6 ?_
        have e5 : (nI (R - (k + 1)) + -1) = (nI (R - (k + 1)) - nI 1) := by (rw [Int32.sub_eq_add_neg]; rfl)
        refine mx_lsc (congrArg (fun z9 => ([some (.ref (mo)), some (.int (nI (R))), some (.int (nI (C))), some (.int (qv)), some (.int (lv)), some (.int (z9)), none, none, none, none] : List (Option Value))) e5) ?_
        exact ih K (wi_next hinv)
    · skip
      obtain ⟨K, hz9⟩ : ∃ q, q = z9 := ⟨_, rfl⟩
      subst hz9
      try dsimp only at hinv ⊢
      refine mx_lsc (congrArg (fun z9 => ([some (.ref (mo)), some (.int (nI (R))), some (.int (nI (C))), some (.int (qv)), some (.int (lv)), some (.int (z9)), none, none, none, none] : List (Option Value))) (by rw [Nat.sub_self])) ?_
      refine mx_il5 d_Mo_fills_36 ?_
      refine mx_if_lt 177 d_Mo_fills_38 (by decide) (fun c_38 => ?_) (fun c_38 => absurd (by decide) c_38)
      exact mx_vret d_Mo_fills_177 rfl (mx_sR_of rfl ⟨hinv.1, hinv.2.1⟩)
theorem c_Mo_firstOf (hM : mo_ok S P mo) (hm : I (mo + 1) = m) {qv lv : Int32} (hbr : ∀ (I9 : mx_I) (a b : Nat), I9 (mo + 1) = m → a < R → b < C → mx_C l E M_Mo_brings 4 0 0 [.ref (mo), .int (nI (a)), .int (nI (b)), .int (qv), .int (lv)] (t, S, I9, P, J) (mx_ri (brv (gain a b)) (t, S, I9, P, J))) (hg : ∀ a b, gain a b ≤ 9) (hR8 : R ≤ 8) (hC8 : C ≤ 8) (hw : wi_ok I mo gain R C R) {r : Nat} (hr : r < R) : mx_C l E M_Mo_firstOf 5 0 0 [.ref (mo), .int (nI (r)), .int (nI (C)), .int (qv), .int (lv)] (t, S, I, P, J) (mx_ri (mtv (op_way gain R C (r + 1)).2) (t, S, I, P, J)) := by
  obtain ⟨hM0, hMp1, hMp2, hMp4, hMp5, hMp7, hMp14, hMp21, hMp22, hMp23, hMp24, hMp25, hMp26, hMp27, hMs1, hMs2, hMs3, hMs4, hMs5, hMs6, hMs7, hMs8, hMs9, hMs10, hMs11, hMs12, hMs13⟩ := id hM
  refine mx_C_of (ls0 := [some (.ref (mo)), some (.int (nI (r))), some (.int (nI (C))), some (.int (qv)), some (.int (lv)), none, none, none, none, none]) (by decide +kernel) rfl rfl (Nat.le_of_ble_eq_true rfl) rfl ?_
  refine mx_in_0 d_Mo_firstOf_0 ?_
  refine mx_is5 d_Mo_firstOf_1 ?_
  refine mx_ic_m1 d_Mo_firstOf_3 ?_
  refine mx_is6 d_Mo_firstOf_4 ?_
  refine mx_in_0 d_Mo_firstOf_6 ?_
  refine mx_is7 d_Mo_firstOf_7 ?_
  refine mx_loop (N := r + 1) (ls := fun j => [some (.ref (mo)), some (.int (nI (r))), some (.int (nI (C))), some (.int (qv)), some (.int (lv)), some (.int (nI ((op_way gain R C j).1))), some (.int ((mtv (op_way gain R C j).2))), some (.int (nI (j))), none, none]) (X := fun j => (t, S, I, P, J)) (fun j hj ih => ?_) ?_
  · try dsimp only
    refine mx_il7 d_Mo_firstOf_9 ?_
    refine mx_il1 d_Mo_firstOf_11 ?_
    refine mx_icN_gt 163 d_Mo_firstOf_12 (by decide) (by omega) (by omega) (fun c_12 => absurd c_12 (by omega)) (fun c_12 => ?_)
    obtain ⟨w1, w2⟩ := op_way_lt gain R hC8 j
    have w3 : 2 ^ C ≤ 256 := vs_two8 (by omega)
    have ws : (op_way gain R C j).1 < 256 := by omega
    have ej : R - (R - (j + 1) + 1) = j := by omega
    have h1 := vs_op_le hg R C (R - (j + 1)) (op_way gain R C j).1
    have h2 := vs_op_le hg R C (R - (j + 1) + 1) (op_way gain R C j).1
    refine mx_ic_m1 d_Mo_firstOf_15 ?_
    refine mx_is6 d_Mo_firstOf_16 ?_
    refine mx_al0 d_Mo_firstOf_18 ?_
    refine mx_getR d_Mo_firstOf_19 fl_Mo_44 (by assumption) (by assumption) ?_
    refine mx_sip 256 d_Mo_firstOf_22 (by decide) ?_
    refine mx_il7 d_Mo_firstOf_25 ?_
    refine mx_in_1 d_Mo_firstOf_27 ?_
    refine mx_iaddN d_Mo_firstOf_28 ?_
    refine mx_imulN d_Mo_firstOf_29 ?_
    refine mx_il5 d_Mo_firstOf_30 ?_
    refine mx_iaddN d_Mo_firstOf_32 ?_
    refine mx_iald d_Mo_firstOf_33 (by assumption) (nI_inb (by omega) (by omega)) ?_
    refine mx_ti (y := I (mo + 11) (256 * (j + 1) + ((op_way gain R C j).1))) (by rw [nI_clamp (by omega)]) ?_
    refine mx_ti (y := nI (vs_op gain R C (R - (j + 1)) (op_way gain R C j).1)) ((by have z := hw (R - (j + 1)) (by omega) _ ws; rw [show R - (R - (j + 1)) = j + 1 by omega] at z; exact z)) ?_
    refine mx_al0 d_Mo_firstOf_34 ?_
    refine mx_getR d_Mo_firstOf_35 fl_Mo_44 (by assumption) (by assumption) ?_
    refine mx_sip 256 d_Mo_firstOf_38 (by decide) ?_
    refine mx_il7 d_Mo_firstOf_41 ?_
    refine mx_imulN d_Mo_firstOf_43 ?_
    refine mx_il5 d_Mo_firstOf_44 ?_
    refine mx_iaddN d_Mo_firstOf_46 ?_
    refine mx_iald d_Mo_firstOf_47 (by assumption) (nI_inb (by omega) (by omega)) ?_
    refine mx_ti (y := I (mo + 11) (256 * j + ((op_way gain R C j).1))) (by rw [nI_clamp (by omega)]) ?_
    refine mx_ti (y := nI (vs_op gain R C (R - (j + 1) + 1) (op_way gain R C j).1)) ((by have z := hw (R - (j + 1) + 1) (by omega) _ ws; rw [show R - (R - (j + 1) + 1) = j by omega] at z; exact z)) ?_
    refine mx_icN_ne 54 d_Mo_firstOf_48 (by decide) (by omega) (by omega) (fun c_48 => ?_) (fun c_48 => ?_)
    · skip
      refine mx_il2 d_Mo_firstOf_54 ?_
      refine mx_in_1 d_Mo_firstOf_55 ?_
      refine mx_isub d_Mo_firstOf_56 ?_
      refine mx_is8 d_Mo_firstOf_57 ?_
      have ih9 := ih
      refine mx_loop (N := C) (ls := fun i => [some (.ref (mo)), some (.int (nI (r))), some (.int (nI (C))), some (.int (qv)), some (.int (lv)), some (.int (nI ((op_way gain R C j).1))), some (.int ((mtv (fr_d (op_hit gain R C (R - (j + 1)) (op_way gain R C j).1) C i)))), some (.int (nI (j))), some (.int ((nI (C - i) - nI 1))), none]) (X := fun i => (t, S, I, P, J)) (fun i hi ih => ?_) ?_
      · try dsimp only
        refine mx_lsc (congrArg (fun z9 => ([some (.ref (mo)), some (.int (nI (r))), some (.int (nI (C))), some (.int (qv)), some (.int (lv)), some (.int (nI ((op_way gain R C j).1))), some (.int ((mtv (fr_d (op_hit gain R C (R - (j + 1)) (op_way gain R C j).1) C i)))), some (.int (nI (j))), some (.int (z9)), none] : List (Option Value))) (by rw [nI_sub (by omega), Nat.sub_sub])) ?_
        refine mx_il8 d_Mo_firstOf_59 ?_
        refine mx_if_lt 148 d_Mo_firstOf_61 (by decide) (fun c_61 => absurd c_61 (nI_pos (by omega))) (fun c_61 => ?_)
        refine mx_il5 d_Mo_firstOf_64 ?_
        refine mx_il8 d_Mo_firstOf_66 ?_
        refine mx_cS2i d_Mo_firstOf_68 (c_Mo_isOf (j := C - (i + 1)) (by omega)) ok_Mo_isOf ml_Mo_74 (by decide) (Nat.le_of_ble_eq_true rfl) ?_
        refine mx_ifB_eq 78 d_Mo_firstOf_71 (by decide) (fun c_71 => ?_) (fun c_71 => ?_)
        · skip
          rw [vs_bt_nI _ _ (by omega)] at c_71
          refine mx_al0 d_Mo_firstOf_78 ?_
          refine mx_il7 d_Mo_firstOf_79 ?_
          refine mx_il8 d_Mo_firstOf_81 ?_
          refine mx_il3 d_Mo_firstOf_83 ?_
          refine mx_il4 d_Mo_firstOf_84 ?_
          refine mx_cV4i d_Mo_firstOf_86 (hbr I (j) (C - (i + 1)) hm (by omega) (by omega)) ok_Mo_brings ml_Mo_385 (by assumption) ⟨rfl, rfl⟩ (by decide) (Nat.le_of_ble_eq_true rfl) ?_
          refine mx_is9 d_Mo_firstOf_89 ?_
          refine mx_il9 d_Mo_firstOf_91 ?_
          refine mx_ic_m1 d_Mo_firstOf_93 ?_
          refine mx_icmp_eq 142 d_Mo_firstOf_94 (by decide) (fun c_94 => ?_) (fun c_94 => ?_)
          · skip
            have k0 : op_hit gain R C (R - (j + 1)) (op_way gain R C j).1 (C - (i + 1)) = false := by first | (unfold op_hit; rw [c_71]; rfl) | (unfold op_hit; rw [ej, brv_e (by have := hg j (C - (i + 1)); omega) c_94]; simp)
            refine mx_ii8 (v := -1) d_Mo_firstOf_142 (by decide) ?_
            refine mx_goto 59 d_Mo_firstOf_145 (by decide) ?_
            refine mx_dn9 ?_
            have e6 : (mtv (fr_d (op_hit gain R C (R - (j + 1)) (op_way gain R C j).1) C i)) = (mtv (fr_d (op_hit gain R C (R - (j + 1)) (op_way gain R C j).1) C (i + 1))) := by first | (rw [fr_d_s, if_neg (by rw [k0]; decide)]; done) | (rw [fr_d_s, if_pos k0, mtv_lt (by omega)]; done)
            refine mx_lsc (congrArg (fun z9 => ([some (.ref (mo)), some (.int (nI (r))), some (.int (nI (C))), some (.int (qv)), some (.int (lv)), some (.int (nI ((op_way gain R C j).1))), some (.int (z9)), some (.int (nI (j))), some (.int ((nI (C - (i + 1)) + -1))), none] : List (Option Value))) e6) ?_
            have e8 : (nI (C - (i + 1)) + -1) = (nI (C - (i + 1)) - nI 1) := by (rw [Int32.sub_eq_add_neg]; rfl)
            refine mx_lsc (congrArg (fun z9 => ([some (.ref (mo)), some (.int (nI (r))), some (.int (nI (C))), some (.int (qv)), some (.int (lv)), some (.int (nI ((op_way gain R C j).1))), some (.int ((mtv (fr_d (op_hit gain R C (R - (j + 1)) (op_way gain R C j).1) C (i + 1))))), some (.int (nI (j))), some (.int (z9)), none] : List (Option Value))) e8) ?_
            exact ih
          · skip
            obtain ⟨gb, g1⟩ := brv_n c_94
            rw [gb]
            have hb2 := bset_256 (op_way gain R C j).1 ws (C - (i + 1)) (by omega)
            have h3 := vs_op_le hg R C (R - (j + 1)) (bset (op_way gain R C j).1 (C - (i + 1)))
            have h4 := hg j (C - (i + 1))
            refine mx_il9 d_Mo_firstOf_97 ?_
            refine mx_al0 d_Mo_firstOf_99 ?_
            refine mx_getR d_Mo_firstOf_100 fl_Mo_44 (by assumption) (by assumption) ?_
            refine mx_sip 256 d_Mo_firstOf_103 (by decide) ?_
            refine mx_il7 d_Mo_firstOf_106 ?_
            refine mx_in_1 d_Mo_firstOf_108 ?_
            refine mx_iaddN d_Mo_firstOf_109 ?_
            refine mx_imulN d_Mo_firstOf_110 ?_
            refine mx_il5 d_Mo_firstOf_111 ?_
            refine mx_in_1 d_Mo_firstOf_113 ?_
            refine mx_il8 d_Mo_firstOf_114 ?_
            refine mx_ishl d_Mo_firstOf_116 ?_
            refine mx_ior d_Mo_firstOf_117 ?_
            refine mx_ti (y := nI (bset (op_way gain R C j).1 (C - (i + 1)))) (bset_nI _ (by omega) (C - (i + 1)) (by omega)) ?_
            refine mx_iaddN d_Mo_firstOf_118 ?_
            refine mx_iald d_Mo_firstOf_119 (by assumption) (nI_inb (by omega) (by omega)) ?_
            refine mx_ti (y := I (mo + 11) (256 * (j + 1) + (bset (op_way gain R C j).1 (C - (i + 1))))) (by rw [nI_clamp (by omega)]) ?_
            refine mx_ti (y := nI (vs_op gain R C (R - (j + 1)) (bset (op_way gain R C j).1 (C - (i + 1))))) ((by have z := hw (R - (j + 1)) (by omega) _ hb2; rw [show R - (R - (j + 1)) = j + 1 by omega] at z; exact z)) ?_
            refine mx_iaddN d_Mo_firstOf_120 ?_
            refine mx_al0 d_Mo_firstOf_121 ?_
            refine mx_getR d_Mo_firstOf_122 fl_Mo_44 (by assumption) (by assumption) ?_
            refine mx_sip 256 d_Mo_firstOf_125 (by decide) ?_
            refine mx_il7 d_Mo_firstOf_128 ?_
            refine mx_imulN d_Mo_firstOf_130 ?_
            refine mx_il5 d_Mo_firstOf_131 ?_
            refine mx_iaddN d_Mo_firstOf_133 ?_
            refine mx_iald d_Mo_firstOf_134 (by assumption) (nI_inb (by omega) (by omega)) ?_
            refine mx_ti (y := I (mo + 11) (256 * j + ((op_way gain R C j).1))) (by rw [nI_clamp (by omega)]) ?_
            refine mx_ti (y := nI (vs_op gain R C (R - (j + 1) + 1) (op_way gain R C j).1)) ((by have z := hw (R - (j + 1) + 1) (by omega) _ ws; rw [show R - (R - (j + 1) + 1) = j by omega] at z; exact z)) ?_
            refine mx_icN_ne 142 d_Mo_firstOf_135 (by decide) (by omega) (by omega) (fun c_135 => ?_) (fun c_135 => ?_)
            · skip
              have k0 : op_hit gain R C (R - (j + 1)) (op_way gain R C j).1 (C - (i + 1)) = false := by unfold op_hit; rw [ej, decide_eq_false c_135]; simp
              refine mx_ii8 (v := -1) d_Mo_firstOf_142 (by decide) ?_
              refine mx_goto 59 d_Mo_firstOf_145 (by decide) ?_
              refine mx_dn9 ?_
              have e6 : (mtv (fr_d (op_hit gain R C (R - (j + 1)) (op_way gain R C j).1) C i)) = (mtv (fr_d (op_hit gain R C (R - (j + 1)) (op_way gain R C j).1) C (i + 1))) := by first | (rw [fr_d_s, if_neg (by rw [k0]; decide)]; done) | (rw [fr_d_s, if_pos k0, mtv_lt (by omega)]; done)
              refine mx_lsc (congrArg (fun z9 => ([some (.ref (mo)), some (.int (nI (r))), some (.int (nI (C))), some (.int (qv)), some (.int (lv)), some (.int (nI ((op_way gain R C j).1))), some (.int (z9)), some (.int (nI (j))), some (.int ((nI (C - (i + 1)) + -1))), none] : List (Option Value))) e6) ?_
              have e8 : (nI (C - (i + 1)) + -1) = (nI (C - (i + 1)) - nI 1) := by (rw [Int32.sub_eq_add_neg]; rfl)
              refine mx_lsc (congrArg (fun z9 => ([some (.ref (mo)), some (.int (nI (r))), some (.int (nI (C))), some (.int (qv)), some (.int (lv)), some (.int (nI ((op_way gain R C j).1))), some (.int ((mtv (fr_d (op_hit gain R C (R - (j + 1)) (op_way gain R C j).1) C (i + 1))))), some (.int (nI (j))), some (.int (z9)), none] : List (Option Value))) e8) ?_
              exact ih
            · skip
              have k0 : op_hit gain R C (R - (j + 1)) (op_way gain R C j).1 (C - (i + 1)) = true := by unfold op_hit; rw [ej, c_71, decide_eq_true c_135, decide_eq_true g1]; rfl
              refine mx_il8 d_Mo_firstOf_138 ?_
              refine mx_is6 d_Mo_firstOf_140 ?_
              refine mx_ii8 (v := -1) d_Mo_firstOf_142 (by decide) ?_
              refine mx_goto 59 d_Mo_firstOf_145 (by decide) ?_
              refine mx_dn9 ?_
              have e6 : nI (C - (i + 1)) = (mtv (fr_d (op_hit gain R C (R - (j + 1)) (op_way gain R C j).1) C (i + 1))) := by first | (rw [fr_d_s, if_neg (by rw [k0]; decide)]; done) | (rw [fr_d_s, if_pos k0, mtv_lt (by omega)]; done)
              refine mx_lsc (congrArg (fun z9 => ([some (.ref (mo)), some (.int (nI (r))), some (.int (nI (C))), some (.int (qv)), some (.int (lv)), some (.int (nI ((op_way gain R C j).1))), some (.int (z9)), some (.int (nI (j))), some (.int ((nI (C - (i + 1)) + -1))), none] : List (Option Value))) e6) ?_
              have e8 : (nI (C - (i + 1)) + -1) = (nI (C - (i + 1)) - nI 1) := by (rw [Int32.sub_eq_add_neg]; rfl)
              refine mx_lsc (congrArg (fun z9 => ([some (.ref (mo)), some (.int (nI (r))), some (.int (nI (C))), some (.int (qv)), some (.int (lv)), some (.int (nI ((op_way gain R C j).1))), some (.int ((mtv (fr_d (op_hit gain R C (R - (j + 1)) (op_way gain R C j).1) C (i + 1))))), some (.int (nI (j))), some (.int (z9)), none] : List (Option Value))) e8) ?_
              exact ih
        · skip
          rw [vs_bt_nI _ _ (by omega)] at c_71
          have k0 : op_hit gain R C (R - (j + 1)) (op_way gain R C j).1 (C - (i + 1)) = false := by unfold op_hit; rw [c_71]; rfl
          refine mx_ic_m1 d_Mo_firstOf_74 ?_
          refine mx_goto 89 d_Mo_firstOf_75 (by decide) ?_
          refine mx_is9 d_Mo_firstOf_89 ?_
          refine mx_il9 d_Mo_firstOf_91 ?_
          refine mx_ic_m1 d_Mo_firstOf_93 ?_
          refine mx_icmp_eq 142 d_Mo_firstOf_94 (by decide) (fun c_94 => ?_) (fun c_94 => absurd c_94 (fun z => z rfl))
          refine mx_ii8 (v := -1) d_Mo_firstOf_142 (by decide) ?_
          refine mx_goto 59 d_Mo_firstOf_145 (by decide) ?_
          refine mx_dn9 ?_
          have e6 : (mtv (fr_d (op_hit gain R C (R - (j + 1)) (op_way gain R C j).1) C i)) = (mtv (fr_d (op_hit gain R C (R - (j + 1)) (op_way gain R C j).1) C (i + 1))) := by first | (rw [fr_d_s, if_neg (by rw [k0]; decide)]; done) | (rw [fr_d_s, if_pos k0, mtv_lt (by omega)]; done)
          refine mx_lsc (congrArg (fun z9 => ([some (.ref (mo)), some (.int (nI (r))), some (.int (nI (C))), some (.int (qv)), some (.int (lv)), some (.int (nI ((op_way gain R C j).1))), some (.int (z9)), some (.int (nI (j))), some (.int ((nI (C - (i + 1)) + -1))), none] : List (Option Value))) e6) ?_
          have e8 : (nI (C - (i + 1)) + -1) = (nI (C - (i + 1)) - nI 1) := by (rw [Int32.sub_eq_add_neg]; rfl)
          refine mx_lsc (congrArg (fun z9 => ([some (.ref (mo)), some (.int (nI (r))), some (.int (nI (C))), some (.int (qv)), some (.int (lv)), some (.int (nI ((op_way gain R C j).1))), some (.int ((mtv (fr_d (op_hit gain R C (R - (j + 1)) (op_way gain R C j).1) C (i + 1))))), some (.int (nI (j))), some (.int (z9)), none] : List (Option Value))) e8) ?_
          exact ih
      · try dsimp only
        have hcol : fr_d (op_hit gain R C (R - (j + 1)) (op_way gain R C j).1) C C = op_col gain R C (R - (j + 1)) (op_way gain R C j).1 := (fr_d_1st hC8 (op_hit_ex c_48)).trans (if_neg c_48).symm
        have u8 : op_col gain R C (R - (j + 1)) (op_way gain R C j).1 < 8 := by rw [← hcol]; rcases fr_d_is (op_hit gain R C (R - (j + 1)) (op_way gain R C j).1) hC8 (Nat.le_refl C) with ⟨q1, q2⟩ | ⟨q1, q2, q3, q4⟩; (obtain ⟨b, hb, q⟩ := op_hit_ex c_48; rw [q2 b (by omega) hb] at q; cases q); omega
        refine mx_lsc (congrArg (fun z9 => ([some (.ref (mo)), some (.int (nI (r))), some (.int (nI (C))), some (.int (qv)), some (.int (lv)), some (.int (nI ((op_way gain R C j).1))), some (.int ((mtv (fr_d (op_hit gain R C (R - (j + 1)) (op_way gain R C j).1) C C)))), some (.int (nI (j))), some (.int (z9)), none] : List (Option Value))) (by rw [Nat.sub_self])) ?_
        refine mx_lsc (congrArg (fun z9 => ([some (.ref (mo)), some (.int (nI (r))), some (.int (nI (C))), some (.int (qv)), some (.int (lv)), some (.int (nI ((op_way gain R C j).1))), some (.int (z9)), some (.int (nI (j))), some (.int ((-1))), none] : List (Option Value))) (by rw [hcol, mtv_lt u8])) ?_
        refine mx_il8 d_Mo_firstOf_59 ?_
        refine mx_if_lt 148 d_Mo_firstOf_61 (by decide) (fun c_61 => ?_) (fun c_61 => absurd (by decide) c_61)
        refine mx_il5 d_Mo_firstOf_148 ?_
        refine mx_in_1 d_Mo_firstOf_150 ?_
        refine mx_il6 d_Mo_firstOf_151 ?_
        refine mx_ishl d_Mo_firstOf_153 ?_
        refine mx_ior d_Mo_firstOf_154 ?_
        refine mx_is5 d_Mo_firstOf_155 ?_
        refine mx_iN7 d_Mo_firstOf_157 ?_
        refine mx_goto 9 d_Mo_firstOf_160 (by decide) ?_
        refine mx_dn8 ?_
        have e5 : (nI ((op_way gain R C j).1) ||| (nI (1) <<< (nI (op_col gain R C (R - (j + 1)) (op_way gain R C j).1) &&& 31))) = nI ((op_way gain R C (j + 1)).1) := by first | (rw [op_way_s, if_neg (by rw [hcol8]; omega)]; done) | (rw [bset_nI _ (by omega) _ u8, op_way_s, if_pos u8]; done)
        refine mx_lsc (congrArg (fun z9 => ([some (.ref (mo)), some (.int (nI (r))), some (.int (nI (C))), some (.int (qv)), some (.int (lv)), some (.int (z9)), some (.int (nI (op_col gain R C (R - (j + 1)) (op_way gain R C j).1))), some (.int (nI (j + 1))), none, none] : List (Option Value))) e5) ?_
        have e6 : nI (op_col gain R C (R - (j + 1)) (op_way gain R C j).1) = (mtv (op_way gain R C (j + 1)).2) := by first | (rw [op_way_s]; show _ = mtv (op_col gain R C (R - (j + 1)) (op_way gain R C j).1); rw [hcol8]; rfl) | (rw [op_way_s]; exact (mtv_lt u8).symm)
        refine mx_lsc (congrArg (fun z9 => ([some (.ref (mo)), some (.int (nI (r))), some (.int (nI (C))), some (.int (qv)), some (.int (lv)), some (.int (nI ((op_way gain R C (j + 1)).1))), some (.int (z9)), some (.int (nI (j + 1))), none, none] : List (Option Value))) e6) ?_
        exact ih
    · skip
      have hcol8 : op_col gain R C (R - (j + 1)) (op_way gain R C j).1 = 8 := if_pos c_48
      refine mx_goto 157 d_Mo_firstOf_51 (by decide) ?_
      refine mx_iN7 d_Mo_firstOf_157 ?_
      refine mx_goto 9 d_Mo_firstOf_160 (by decide) ?_
      have e5 : nI ((op_way gain R C j).1) = nI ((op_way gain R C (j + 1)).1) := by first | (rw [op_way_s, if_neg (by rw [hcol8]; omega)]; done) | (rw [bset_nI _ (by omega) _ u8, op_way_s, if_pos u8]; done)
      refine mx_lsc (congrArg (fun z9 => ([some (.ref (mo)), some (.int (nI (r))), some (.int (nI (C))), some (.int (qv)), some (.int (lv)), some (.int (z9)), some (.int ((-1))), some (.int (nI (j + 1))), none, none] : List (Option Value))) e5) ?_
      have e6 : (-1) = (mtv (op_way gain R C (j + 1)).2) := by first | (rw [op_way_s]; show _ = mtv (op_col gain R C (R - (j + 1)) (op_way gain R C j).1); rw [hcol8]; rfl) | (rw [op_way_s]; exact (mtv_lt u8).symm)
      refine mx_lsc (congrArg (fun z9 => ([some (.ref (mo)), some (.int (nI (r))), some (.int (nI (C))), some (.int (qv)), some (.int (lv)), some (.int (nI ((op_way gain R C (j + 1)).1))), some (.int (z9)), some (.int (nI (j + 1))), none, none] : List (Option Value))) e6) ?_
      exact ih
  · try dsimp only
    refine mx_il7 d_Mo_firstOf_9 ?_
    refine mx_il1 d_Mo_firstOf_11 ?_
    refine mx_icN_gt 163 d_Mo_firstOf_12 (by decide) (by omega) (by omega) (fun c_12 => ?_) (fun c_12 => absurd c_12 (by omega))
    refine mx_il6 d_Mo_firstOf_163 ?_
    exact mx_iret d_Mo_firstOf_165 rfl (mx_ri_of rfl)
end Z34
