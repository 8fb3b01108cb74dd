/-! LETTERS, FIGURES, TOKENS: f tells the bytes, L how many -/
def tq_l (c : Nat) : Bool := decide (97 ≤ c) && decide (c ≤ 122)
def tq_f (c : Nat) : Bool := decide (48 ≤ c) && decide (c ≤ 57)
theorem tq_lf {c : Nat} (h : tq_l c = true) : tq_f c = false := by
  simp only [tq_l, tq_f, Bool.and_eq_true, decide_eq_true_eq, Bool.and_eq_false_iff, decide_eq_false_iff_not] at h ⊢; omega
theorem tq_l32 : tq_l 32 = false := rfl
theorem tq_f32 : tq_f 32 = false := rfl
/-- the first place from a on of which p does not hold -/
def tq_rn (p : Nat → Bool) : Nat → Nat → Nat
  | 0, a => a
  | n + 1, a => if p a = true then tq_rn p n (a + 1) else a
def tq_re (p : Nat → Bool) (L a : Nat) : Nat := tq_rn p (L - a) a
theorem tq_rn_le (p : Nat → Bool) : ∀ n a, a ≤ tq_rn p n a ∧ tq_rn p n a ≤ a + n
  | 0, a => ⟨Nat.le_refl _, Nat.le_refl _⟩
  | n + 1, a => by
    unfold tq_rn
    split
    · have := tq_rn_le p n (a + 1); omega
    · omega
theorem tq_rn_in (p : Nat → Bool) : ∀ n a q, a ≤ q → q < tq_rn p n a → p q = true
  | 0, a, q, h1, h2 => by unfold tq_rn at h2; omega
  | n + 1, a, q, h1, h2 => by
    unfold tq_rn at h2
    split at h2
    · rename_i hp
      by_cases e : q = a
      · rw [e]; exact hp
      · exact tq_rn_in p n (a + 1) q (by omega) h2
    · omega
theorem tq_rn_out (p : Nat → Bool) : ∀ n a, tq_rn p n a < a + n → p (tq_rn p n a) = false
  | 0, a, h => by unfold tq_rn at h; omega
  | n + 1, a, h => by
    unfold tq_rn at h ⊢
    split at h
    · rename_i hp
      rw [if_pos hp]
      exact tq_rn_out p n (a + 1) (by omega)
    · rename_i hp
      rw [if_neg hp]
      simpa using hp
theorem tq_ge (p : Nat → Bool) (L a : Nat) : a ≤ tq_re p L a := (tq_rn_le p _ a).1
theorem tq_le {p : Nat → Bool} {L a : Nat} (h : a ≤ L) : tq_re p L a ≤ L := by have := (tq_rn_le p (L - a) a).2; unfold tq_re; omega
theorem tq_in {p : Nat → Bool} {L a q : Nat} (h1 : a ≤ q) (h2 : q < tq_re p L a) : p q = true := tq_rn_in p _ a q h1 h2
theorem tq_out {p : Nat → Bool} {L a : Nat} (h : tq_re p L a < L) : p (tq_re p L a) = false := by
  by_cases ha : a ≤ L
  · exact tq_rn_out p _ a (by unfold tq_re at h; omega)
  · have := tq_ge p L a; omega
theorem tq_at {p : Nat → Bool} {L a : Nat} (h : p a = false) : tq_re p L a = a := by
  unfold tq_re
  cases L - a with
  | zero => rfl
  | succ n => unfold tq_rn; rw [if_neg (by rw [h]; simp)]
theorem tq_end {p : Nat → Bool} {L a : Nat} (h : L ≤ a) : tq_re p L a = a := by
  unfold tq_re; rw [show L - a = 0 by omega]; rfl
theorem tq_eq {p : Nat → Bool} {L a e : Nat} (h1 : a ≤ e) (h2 : e ≤ L) (h3 : ∀ q, a ≤ q → q < e → p q = true) (h4 : e < L → p e = false) : tq_re p L a = e := by
  rcases Nat.lt_trichotomy (tq_re p L a) e with h | h | h
  · have := tq_out (p := p) (L := L) (a := a) (by omega)
    rw [h3 _ (tq_ge p L a) h] at this; cases this
  · exact h
  · have h5 := tq_in (p := p) (L := L) h1 h
    have h6 := tq_le (p := p) (L := L) (a := a) (by omega)
    rw [h4 (by omega)] at h5; cases h5
theorem tq_step {p : Nat → Bool} {L a : Nat} (h : a < L) (hp : p a = true) : tq_re p L a = tq_re p L (a + 1) := by
  unfold tq_re
  rw [show L - a = (L - (a + 1)) + 1 by omega]
  show (if p a = true then _ else _) = _
  rw [if_pos hp]
/-- the first place from a on that is no space -/
def tq_sk (f : Nat → Nat) (L a : Nat) : Nat := tq_re (fun q => decide (f q = 32)) L a
/-- behind the letters, behind the figures -/
def tq_lz (f : Nat → Nat) (L a : Nat) : Nat := tq_re (fun q => tq_l (f q)) L a
def tq_fe (f : Nat → Nat) (L a : Nat) : Nat := tq_re (fun q => tq_f (f q)) L a
/-- behind the token that begins at a -/
def tq_en (f : Nat → Nat) (L a : Nat) : Nat := if tq_l (f a) = true then tq_lz f L a else if tq_f (f a) = true then tq_fe f L a else a + 1
/-- where the token t begins -/
def tq_b (f : Nat → Nat) (L : Nat) : Nat → Nat
  | 0 => tq_sk f L 0
  | t + 1 => if tq_b f L t < L then tq_sk f L (tq_en f L (tq_b f L t)) else tq_b f L t
theorem tq_en_gt {f : Nat → Nat} {L a : Nat} (h : a < L) : a < tq_en f L a ∧ tq_en f L a ≤ L := by
  unfold tq_en
  split
  · rename_i e
    unfold tq_lz
    rw [tq_step (p := fun q => tq_l (f q)) h e]
    exact ⟨tq_ge _ L (a + 1), tq_le (by omega)⟩
  · split
    · rename_i e
      unfold tq_fe
      rw [tq_step (p := fun q => tq_f (f q)) h e]
      exact ⟨tq_ge _ L (a + 1), tq_le (by omega)⟩
    · omega
theorem tq_bL (f : Nat → Nat) (L : Nat) : ∀ t, tq_b f L t ≤ L
  | 0 => tq_le (Nat.zero_le _)
  | t + 1 => by
    unfold tq_b
    split
    · rename_i h; exact tq_le (tq_en_gt h).2
    · exact tq_bL f L t
theorem tq_bs {f : Nat → Nat} {L t : Nat} (h : tq_b f L t < L) : tq_b f L (t + 1) = tq_sk f L (tq_en f L (tq_b f L t)) := by
  show (if _ then _ else _) = _
  rw [if_pos h]
theorem tq_bz {f : Nat → Nat} {L t : Nat} (h : tq_b f L t = L) : tq_b f L (t + 1) = L := by
  show (if _ then _ else _) = _
  rw [if_neg (by omega), h]
theorem tq_b_lt {f : Nat → Nat} {L t : Nat} (h : tq_b f L t < L) : tq_b f L t < tq_b f L (t + 1) := by
  rw [tq_bs h]
  exact Nat.lt_of_lt_of_le (tq_en_gt h).1 (tq_ge _ L _)
theorem tq_b_mono {f : Nat → Nat} {L : Nat} {a b : Nat} (h : a ≤ b) : tq_b f L a ≤ tq_b f L b := by
  obtain ⟨d, rfl⟩ := Nat.le.dest h
  clear h
  induction d with
  | zero => exact Nat.le_refl _
  | succ d ih =>
    rw [← Nat.add_assoc]
    by_cases e : tq_b f L (a + d) < L
    · have := tq_b_lt e; omega
    · have := tq_bL f L a
      have := tq_bL f L (a + d)
      rw [tq_bz (by omega)]; omega
theorem tq_b_ge {f : Nat → Nat} {L : Nat} : ∀ t, tq_b f L t < L → t ≤ tq_b f L t
  | 0, _ => Nat.zero_le _
  | t + 1, h => by
    have h1 : tq_b f L t < L := by
      have := tq_b_mono (f := f) (L := L) (a := t) (b := t + 1) (by omega); omega
    have := tq_b_lt h1
    have := tq_b_ge t h1
    omega
/-- a token begins at a -/
def tq_st (f : Nat → Nat) (a : Nat) : Bool := !decide (f a = 32) && !(tq_l (if a = 0 then 32 else f (a - 1)) && tq_l (f a) || tq_f (if a = 0 then 32 else f (a - 1)) && tq_f (f a))
/-- how many tokens begin ahead of a -/
def tq_n (f : Nat → Nat) : Nat → Nat
  | 0 => 0
  | a + 1 => if tq_st f a = true then tq_n f a + 1 else tq_n f a
/-- all spaces from the end of a token to a place -/
theorem tq_st_gap {f : Nat → Nat} {L n a : Nat} (hL : a < L) (h1 : a ≤ tq_sk f L n) (h2 : n ≤ a) (h0 : a = n → n = 0 ∨ (tq_l (f (n - 1)) && tq_l (f n) || tq_f (f (n - 1)) && tq_f (f n)) = false) : tq_st f a = true ↔ a = tq_sk f L n := by
  have hs : ∀ q, n ≤ q → q < a → f q = 32 := fun q u v => by
    have := tq_in (p := fun q => decide (f q = 32)) (L := L) u (by unfold tq_sk at h1; omega)
    exact of_decide_eq_true this
  constructor
  · intro h
    rcases Nat.lt_or_eq_of_le h1 with c | c
    · have := tq_in (p := fun q => decide (f q = 32)) (L := L) h2 (by unfold tq_sk at c; exact c)
      unfold tq_st at h
      rw [this] at h
      simp at h
    · exact c
  · intro h
    have h32 : decide (f a = 32) = false := by
      have := tq_out (p := fun q => decide (f q = 32)) (L := L) (a := n) (by unfold tq_sk at h; omega)
      unfold tq_sk at h
      rw [← h] at this
      exact this
    unfold tq_st
    rw [h32]
    by_cases ea : a = 0
    · subst ea; rw [if_pos rfl]; simp [tq_l32, tq_f32]
    · rw [if_neg ea]
      by_cases e : a = n
      · subst e
        rcases h0 rfl with q | q
        · exact absurd q ea
        · rw [q]; rfl
      · have e2 : f (a - 1) = 32 := hs (a - 1) (by omega) (by omega)
        rw [e2]; simp [tq_l32, tq_f32]
theorem tq_run_no {f : Nat → Nat} {L b a : Nat} (hb : b < L) (h1 : b < a) (h2 : a < tq_en f L b) : tq_st f a = false := by
  have ea : ¬ a = 0 := by omega
  unfold tq_en at h2
  unfold tq_st
  rw [if_neg ea]
  split at h2
  · have u := tq_in (p := fun q => tq_l (f q)) (L := L) (show b ≤ a - 1 by omega) (by unfold tq_lz at h2; omega)
    have v := tq_in (p := fun q => tq_l (f q)) (L := L) (show b ≤ a by omega) (by unfold tq_lz at h2; omega)
    rw [u, v]; simp
  · split at h2
    · have u := tq_in (p := fun q => tq_f (f q)) (L := L) (show b ≤ a - 1 by omega) (by unfold tq_fe at h2; omega)
      have v := tq_in (p := fun q => tq_f (f q)) (L := L) (show b ≤ a by omega) (by unfold tq_fe at h2; omega)
      rw [u, v]; simp
    · omega
theorem tq_en_cut {f : Nat → Nat} {L b : Nat} (hb : b < L) (hL : tq_en f L b < L) : (tq_l (f (tq_en f L b - 1)) && tq_l (f (tq_en f L b)) || tq_f (f (tq_en f L b - 1)) && tq_f (f (tq_en f L b))) = false := by
  by_cases hl : tq_l (f b) = true
  · have e : tq_en f L b = tq_lz f L b := if_pos hl
    have g := (tq_en_gt (f := f) hb).1
    rw [e] at g hL ⊢
    have o := tq_out (p := fun q => tq_l (f q)) hL
    have i := tq_in (p := fun q => tq_l (f q)) (L := L) (show b ≤ tq_lz f L b - 1 by omega) (by unfold tq_lz; unfold tq_lz at g; omega)
    have e2 : tq_l (f (tq_lz f L b)) = false := o
    have e3 : tq_f (f (tq_lz f L b - 1)) = false := tq_lf i
    rw [e2, e3]; simp
  · by_cases hf : tq_f (f b) = true
    · have e : tq_en f L b = tq_fe f L b := by unfold tq_en; rw [if_neg hl, if_pos hf]
      have g := (tq_en_gt (f := f) hb).1
      rw [e] at g hL ⊢
      have o := tq_out (p := fun q => tq_f (f q)) hL
      have i := tq_in (p := fun q => tq_f (f q)) (L := L) (show b ≤ tq_fe f L b - 1 by omega) (by unfold tq_fe; unfold tq_fe at g; omega)
      have e2 : tq_f (f (tq_fe f L b)) = false := o
      have e3 : tq_l (f (tq_fe f L b - 1)) = false := by
        cases h : tq_l (f (tq_fe f L b - 1)) with
        | false => rfl
        | true => have := tq_lf h; rw [show tq_f (f (tq_fe f L b - 1)) = true from i] at this; cases this
      rw [e2, e3]; simp
    · have e : tq_en f L b = b + 1 := by unfold tq_en; rw [if_neg hl, if_neg hf]
      rw [e, Nat.add_sub_cancel]
      simp only [Bool.not_eq_true] at hl hf
      rw [hl, hf]; simp
/-- the tokens, found one behind another -/
theorem tq_st_iff {f : Nat → Nat} {L n a : Nat} (hL : a < L) (h1 : a ≤ tq_b f L n) (h2 : ∀ t, t < n → tq_b f L t < a) : tq_st f a = true ↔ a = tq_b f L n := by
  cases n with
  | zero => exact tq_st_gap hL h1 (Nat.zero_le _) (fun _ => Or.inl rfl)
  | succ t =>
    have hb := h2 t (by omega)
    have hbL : tq_b f L t < L := by omega
    rw [tq_bs hbL] at h1 ⊢
    by_cases hr : a < tq_en f L (tq_b f L t)
    · rw [tq_run_no hbL hb hr]
      have := tq_ge (fun q => decide (f q = 32)) L (tq_en f L (tq_b f L t))
      unfold tq_sk
      simp only [Bool.false_eq_true, false_iff]
      omega
    · refine tq_st_gap hL h1 (by omega) (fun e => Or.inr (tq_en_cut hbL (by omega)))
theorem tq_n_inv {f : Nat → Nat} {L : Nat} : ∀ a, a ≤ L → a ≤ tq_b f L (tq_n f a) ∧ ∀ t, t < tq_n f a → tq_b f L t < a
  | 0, _ => ⟨Nat.zero_le _, fun t h => absurd h (by unfold tq_n; omega)⟩
  | a + 1, h => by
    obtain ⟨h1, h2⟩ := tq_n_inv (f := f) (L := L) a (by omega)
    have hi := tq_st_iff (by omega) h1 h2
    unfold tq_n
    by_cases e : tq_st f a = true
    · rw [if_pos e]
      have ea := hi.mp e
      refine ⟨?_, fun t ht => ?_⟩
      · have := tq_b_lt (f := f) (L := L) (t := tq_n f a) (by omega); omega
      · by_cases e2 : t = tq_n f a
        · rw [e2]; omega
        · have := h2 t (by omega); omega
    · rw [if_neg e]
      refine ⟨?_, fun t ht => by have := h2 t ht; omega⟩
      rcases Nat.lt_or_eq_of_le h1 with c | c
      · omega
      · exact absurd (hi.mpr c) e
theorem tq_n_le (f : Nat → Nat) : ∀ a, tq_n f a ≤ a
  | 0 => Nat.le_refl _
  | a + 1 => by unfold tq_n; have := tq_n_le f a; split <;> omega
theorem tq_n_mono {f : Nat → Nat} {a b : Nat} (h : a ≤ b) : tq_n f a ≤ tq_n f b := by
  obtain ⟨d, rfl⟩ := Nat.le.dest h
  clear h
  induction d with
  | zero => exact Nat.le_refl _
  | succ d ih =>
    rw [← Nat.add_assoc]
    have e : tq_n f (a + d + 1) = if tq_st f (a + d) = true then tq_n f (a + d) + 1 else tq_n f (a + d) := rfl
    rw [e]
    split <;> omega
/-- how many tokens there are, and the end behind them -/
theorem tq_T {f : Nat → Nat} {L : Nat} : tq_b f L (tq_n f L) = L ∧ ∀ t, t < tq_n f L → tq_b f L t < L := by
  obtain ⟨h1, h2⟩ := tq_n_inv (f := f) (L := L) L (Nat.le_refl _)
  exact ⟨Nat.le_antisymm (tq_bL f L _) h1, h2⟩
theorem tq_T_iff {f : Nat → Nat} {L t : Nat} : tq_b f L t < L ↔ t < tq_n f L := by
  obtain ⟨h1, h2⟩ := tq_T (f := f) (L := L)
  refine ⟨fun h => ?_, h2 t⟩
  rcases Nat.lt_or_ge t (tq_n f L) with c | c
  · exact c
  · have := tq_b_mono (f := f) (L := L) c; omega
/-! WORDS, NUMBERS, MARKS -/
def tq_w (f : Nat → Nat) (a e : Nat) (w : List Nat) : Bool := decide (e - a = w.length) && decide (∀ i, i < w.length → f (a + i) = w.getD i 0)
def tq_WL : List (List Nat × Nat) := [([104, 111, 115, 116], 10), ([103, 117, 101, 115, 116], 11), ([119, 101, 101, 107], 16), ([102, 114, 111, 109], 20), ([116, 111], 21), ([112, 97, 116, 105, 101, 110, 99, 101], 19), ([115, 116, 97, 121], 22), ([109, 97, 114, 107, 115], 23), ([108, 105, 107, 101, 115], 24), ([108, 111, 118, 101, 115], 25), ([114, 97, 105, 110], 26), ([110, 101, 101, 100, 115], 27), ([98, 97, 114, 115], 28), ([105, 102], 32), ([111, 114], 33), ([97, 110, 100], 34), ([110, 111, 116], 35), ([103, 108, 97, 100], 29), ([115, 111, 117, 114], 30), ([97, 100, 109, 105, 116], 31), ([113, 117, 97, 114, 116, 101, 114], 12), ([108, 111, 110, 101, 108, 121], 13), ([114, 97, 110, 107], 14), ([108, 111, 118, 101, 100], 15), ([109, 97, 114, 107, 101, 100], 17), ([101, 120, 112, 101, 99, 116, 101, 100], 18)]
theorem tq_WL1 : ∀ q ∈ tq_WL, ∀ r ∈ tq_WL, q.1 = r.1 → q = r := by decide +kernel
theorem tq_WL2 : ∀ q ∈ tq_WL, ∀ r ∈ tq_WL, q.2 = r.2 → q = r := by decide +kernel
theorem tq_WL3 : ∀ q ∈ tq_WL, ¬ q.2 = 9 ∧ 10 ≤ q.2 ∧ q.2 < 36 ∧ 0 < q.1.length ∧ ∀ c ∈ q.1, 97 ≤ c ∧ c ≤ 122 := by decide +kernel
def tq_wd (f : Nat → Nat) (a e : Nat) : Nat := ((tq_WL.find? (fun q => tq_w f a e q.1)).map (fun q => q.2)).getD 9
theorem tq_w_one {f : Nat → Nat} {a e : Nat} {u v : List Nat} (hu : tq_w f a e u = true) (hv : tq_w f a e v = true) : u = v := by
  simp only [tq_w, Bool.and_eq_true, decide_eq_true_eq] at hu hv
  refine List.ext_getElem (by omega) (fun i h1 h2 => ?_)
  have e1 := hu.2 i h1
  have e2 := hv.2 i h2
  rw [List.getD_eq_getElem?_getD, List.getElem?_eq_getElem h1] at e1
  rw [List.getD_eq_getElem?_getD, List.getElem?_eq_getElem h2] at e2
  exact e1.symm.trans e2
theorem tq_wd_iff {f : Nat → Nat} {a e : Nat} {q : List Nat × Nat} (hq : q ∈ tq_WL) : tq_wd f a e = q.2 ↔ tq_w f a e q.1 = true := by
  unfold tq_wd
  constructor
  · intro h
    cases hc : tq_WL.find? (fun q => tq_w f a e q.1) with
    | none => rw [hc] at h; exact absurd h.symm (tq_WL3 q hq).1
    | some r =>
      rw [hc] at h
      have hr := List.mem_of_find?_eq_some hc
      have hp := List.find?_some hc
      have := tq_WL2 r hr q hq h
      rw [← this]; exact hp
  · intro h
    cases hc : tq_WL.find? (fun q => tq_w f a e q.1) with
    | none => exact absurd h (List.find?_eq_none.mp hc q hq)
    | some r =>
      have hr := List.mem_of_find?_eq_some hc
      have hp := List.find?_some hc
      rw [tq_WL1 r hr q hq (tq_w_one hp h)]; rfl
theorem tq_wd_9 {f : Nat → Nat} {a e : Nat} (h : ∀ q ∈ tq_WL, tq_w f a e q.1 = false) : tq_wd f a e = 9 := by
  unfold tq_wd
  rw [List.find?_eq_none.mpr (fun q hq => by rw [h q hq]; simp)]; rfl
theorem tq_wd_of (f : Nat → Nat) (a e : Nat) : tq_wd f a e = 9 ∨ ∃ q ∈ tq_WL, tq_w f a e q.1 = true ∧ tq_wd f a e = q.2 := by
  cases hc : tq_WL.find? (fun q => tq_w f a e q.1) with
  | none => left; unfold tq_wd; rw [hc]; rfl
  | some r =>
    right
    have hp := List.find?_some hc
    exact ⟨r, List.mem_of_find?_eq_some hc, hp, by unfold tq_wd; rw [hc]; rfl⟩
theorem tq_wd_ge (f : Nat → Nat) (a e : Nat) : 9 ≤ tq_wd f a e ∧ tq_wd f a e < 36 := by
  rcases tq_wd_of f a e with h | ⟨q, hq, -, h⟩
  · rw [h]; omega
  · rw [h]; have := tq_WL3 q hq; omega
/-- what sign -/
def tq_sg (c : Nat) : Nat := if c = 59 then 3 else if c = 40 then 4 else if c = 41 then 5 else if c = 60 then 6 else if c = 62 then 7 else if c = 43 then 8 else 1
theorem tq_sg_lt (c : Nat) : 1 ≤ tq_sg c ∧ tq_sg c < 9 ∧ ¬ tq_sg c = 2 := by
  unfold tq_sg
  by_cases c = 59 <;> by_cases c = 40 <;> by_cases c = 41 <;> by_cases c = 60 <;> by_cases c = 62 <;> by_cases c = 43 <;> simp [*]
/-- what token begins at a -/
def tq_k (f : Nat → Nat) (L a : Nat) : Nat := if a < L then (if tq_l (f a) = true then tq_wd f a (tq_en f L a) else if tq_f (f a) = true then 2 else tq_sg (f a)) else 0
theorem tq_k_lt (f : Nat → Nat) (L a : Nat) : tq_k f L a < 36 := by
  unfold tq_k
  split
  · split
    · exact (tq_wd_ge f a _).2
    · split
      · omega
      · have := tq_sg_lt (f a); omega
  · omega
theorem tq_k0 {f : Nat → Nat} {L a : Nat} (ha : a ≤ L) : tq_k f L a = 0 ↔ a = L := by
  unfold tq_k
  split
  · have := (tq_wd_ge f a (tq_en f L a)).1
    have := tq_sg_lt (f a)
    split
    · omega
    · split <;> omega
  · omega
theorem tq_k2 {f : Nat → Nat} {L a : Nat} : tq_k f L a = 2 ↔ a < L ∧ tq_f (f a) = true := by
  unfold tq_k
  have := (tq_wd_ge f a (tq_en f L a)).1
  have := tq_sg_lt (f a)
  by_cases h : a < L
  · rw [if_pos h]
    by_cases hl : tq_l (f a) = true
    · rw [if_pos hl, tq_lf hl]; simp; omega
    · rw [if_neg hl]
      by_cases hf : tq_f (f a) = true
      · rw [if_pos hf, hf]; simp [h]
      · rw [if_neg hf]; simp [hf]; omega
  · rw [if_neg h]; simp; omega
theorem tq_k9 {f : Nat → Nat} {L a : Nat} : 9 ≤ tq_k f L a ↔ a < L ∧ tq_l (f a) = true := by
  unfold tq_k
  have := (tq_wd_ge f a (tq_en f L a)).1
  have := tq_sg_lt (f a)
  by_cases h : a < L
  · rw [if_pos h]
    by_cases hl : tq_l (f a) = true
    · rw [if_pos hl]; simp [h, hl]; omega
    · rw [if_neg hl]
      by_cases hf : tq_f (f a) = true
      · rw [if_pos hf]; simp [hl]
      · rw [if_neg hf]; simp [hl]; omega
  · rw [if_neg h]; simp; omega
theorem tq_kw {f : Nat → Nat} {L a : Nat} {q : List Nat × Nat} (hq : q ∈ tq_WL) : tq_k f L a = q.2 ↔ a < L ∧ tq_l (f a) = true ∧ tq_w f a (tq_en f L a) q.1 = true := by
  have h3 := tq_WL3 q hq
  constructor
  · intro h
    have h9 := tq_k9.mp (show 9 ≤ tq_k f L a by omega)
    refine ⟨h9.1, h9.2, (tq_wd_iff hq).mp ?_⟩
    unfold tq_k at h
    rwa [if_pos h9.1, if_pos h9.2] at h
  · intro ⟨h1, h2, h⟩
    unfold tq_k
    rw [if_pos h1, if_pos h2]
    exact (tq_wd_iff hq).mpr h
/-- a sign's byte and its kind -/
def tq_SL : List (Nat × Nat) := [(59, 3), (40, 4), (41, 5), (60, 6), (62, 7), (43, 8)]
theorem tq_ks {f : Nat → Nat} {L a : Nat} {q : Nat × Nat} (hq : q ∈ tq_SL) : tq_k f L a = q.2 ↔ a < L ∧ f a = q.1 := by
  have h3 : 3 ≤ q.2 ∧ q.2 < 9 ∧ tq_l q.1 = false ∧ tq_f q.1 = false ∧ tq_sg q.1 = q.2 := by
    revert q; decide
  have h4 : tq_sg (f a) = q.2 → f a = q.1 := by
    intro h
    simp only [tq_SL, List.mem_cons, List.not_mem_nil, or_false] at hq
    unfold tq_sg at h
    rcases hq with rfl | rfl | rfl | rfl | rfl | rfl <;> simp only at h ⊢ <;> (repeat' split at h) <;> omega
  constructor
  · intro h
    have ha : a < L := by
      by_cases c : a < L
      · exact c
      · unfold tq_k at h; rw [if_neg c] at h; omega
    have nl : ¬ tq_l (f a) = true := fun hl => by have := tq_k9.mpr ⟨ha, hl⟩; omega
    have nf : ¬ tq_f (f a) = true := fun hl => by have := tq_k2.mpr ⟨ha, hl⟩; omega
    unfold tq_k at h
    rw [if_pos ha, if_neg nl, if_neg nf] at h
    exact ⟨ha, h4 h⟩
  · intro ⟨h1, h2⟩
    unfold tq_k
    rw [if_pos h1, h2, if_neg (by rw [h3.2.2.1]; simp), if_neg (by rw [h3.2.2.2.1]; simp)]
    exact h3.2.2.2.2
theorem tq_ks_en {f : Nat → Nat} {L a : Nat} (h0 : 0 < tq_k f L a) (h9 : tq_k f L a < 9) (h2 : ¬ tq_k f L a = 2) : tq_en f L a = a + 1 := by
  have ha : a < L := by
    by_cases c : a < L
    · exact c
    · unfold tq_k at h0; rw [if_neg c] at h0; omega
  have nl : ¬ tq_l (f a) = true := fun hl => by have := tq_k9.mpr ⟨ha, hl⟩; omega
  have nf : ¬ tq_f (f a) = true := fun hl => h2 (tq_k2.mpr ⟨ha, hl⟩)
  unfold tq_en
  rw [if_neg nl, if_neg nf]
/-- the number of n figures -/
def tq_nm (f : Nat → Nat) (a : Nat) : Nat → Nat
  | 0 => 0
  | n + 1 => 10 * tq_nm f a n + (f (a + n) - 48)
theorem tq_nm_lt {f : Nat → Nat} {a n : Nat} (h : ∀ i, i < n → tq_f (f (a + i)) = true) : tq_nm f a n < 10 ^ n := by
  induction n with
  | zero => exact Nat.one_pos
  | succ n ih =>
    have h1 := ih (fun i hi => h i (by omega))
    have h2 := h n (by omega)
    simp only [tq_f, Bool.and_eq_true, decide_eq_true_eq] at h2
    show 10 * tq_nm f a n + (f (a + n) - 48) < 10 ^ (n + 1)
    rw [Nat.pow_succ]; omega
/-- MARKS told by n letters; none, if there is another letter or one twice -/
def tq_ms (f : Nat → Nat) (a : Nat) : Nat → Option Nat
  | 0 => some 0
  | n + 1 => match tq_ms f a n with
    | none => none
    | some s => if 6 ≤ f (a + n) - 97 ∨ s.testBit (f (a + n) - 97) = true then none else some (s ||| 2 ^ (f (a + n) - 97))
theorem tq_ms_lt {f : Nat → Nat} {a : Nat} : ∀ n s, tq_ms f a n = some s → s < 64
  | 0, s, h => by cases h; omega
  | n + 1, s, h => by
    unfold tq_ms at h
    cases e : tq_ms f a n with
    | none => rw [e] at h; cases h
    | some s0 =>
      rw [e] at h
      simp only at h
      split at h
      · cases h
      · rename_i hc
        cases h
        have h0 := tq_ms_lt n s0 e
        refine Nat.or_lt_two_pow (n := 6) h0 ?_
        exact Nat.pow_lt_pow_right (by omega) (by omega)
theorem tq_ms_none {f : Nat → Nat} {a n m : Nat} (h : tq_ms f a n = none) (hm : n ≤ m) : tq_ms f a m = none := by
  obtain ⟨d, rfl⟩ := Nat.le.dest hm
  clear hm
  induction d with
  | zero => exact h
  | succ d ih =>
    rw [← Nat.add_assoc]
    unfold tq_ms
    rw [ih]
/-- the number that a token tells -/
def tq_v (f : Nat → Nat) (L a : Nat) : Option Nat := if a < L then (if tq_l (f a) = true then tq_ms f a (tq_en f L a - a) else if tq_f (f a) = true ∧ tq_en f L a - a ≤ 3 then some (tq_nm f a (tq_en f L a - a)) else none) else none
theorem tq_v_lt {f : Nat → Nat} {L a v : Nat} (h : tq_v f L a = some v) : v < 1000 := by
  unfold tq_v at h
  split at h
  · split at h
    · have := tq_ms_lt _ _ h; omega
    · split at h
      · rename_i hl hf
        cases h
        have hf2 : tq_en f L a = tq_fe f L a := by unfold tq_en; rw [if_neg hl, if_pos hf.1]
        have h1 := tq_nm_lt (f := f) (a := a) (n := tq_en f L a - a) (fun i hi => tq_in (p := fun q => tq_f (f q)) (L := L) (a := a) (by omega) (by rw [hf2] at hi; unfold tq_fe at hi; omega))
        refine Nat.lt_of_lt_of_le h1 ?_
        exact Nat.pow_le_pow_right (n := 10) (by omega) hf.2
      · cases h
  · cases h
