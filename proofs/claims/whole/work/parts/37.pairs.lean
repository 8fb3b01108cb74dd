/-! PAIRS: those of one side ask by turns -/
abbrev gsS : Type := (Nat → Nat) × (Nat → Nat) × (Nat → Nat)
def updN (f : Nat → Nat) (k v : Nat) : Nat → Nat := fun j => if j = k then v else f j
theorem updN_e (f : Nat → Nat) (k v : Nat) : updN f k v k = v := if_pos rfl
theorem updN_n {f : Nat → Nat} {k v j : Nat} (h : j ≠ k) : updN f k v j = f j := if_neg h
/-- whom one asks next, and how gladly: n of them looked at -/
def gs_nwQ (W : Nat → Nat → Nat) (lv : Nat) (a n : Nat) : Nat × Nat := vf n (fun b s => if s.2 < W a b ∧ W a b < lv then (b, W a b) else s) (8, 0)
theorem gs_nwQ_s (W : Nat → Nat → Nat) (lv a n : Nat) : gs_nwQ W lv a (n + 1) = if (gs_nwQ W lv a n).2 < W a n ∧ W a n < lv then (n, W a n) else gs_nwQ W lv a n := rfl
def gs_nw (W : Nat → Nat → Nat) (lv : Nat) (a : Nat) : Nat × Nat := gs_nwQ W lv a 8
theorem gs_nwQ_is (W : Nat → Nat → Nat) (lv a : Nat) {n : Nat} (hn : n ≤ 8) : (∀ b, b < n → W a b < lv → W a b ≤ (gs_nwQ W lv a n).2) ∧ ((gs_nwQ W lv a n).1 = 8 ∧ (gs_nwQ W lv a n).2 = 0 ∨ (gs_nwQ W lv a n).1 < n ∧ W a (gs_nwQ W lv a n).1 = (gs_nwQ W lv a n).2 ∧ 0 < (gs_nwQ W lv a n).2 ∧ (gs_nwQ W lv a n).2 < lv) := by
  induction n with
  | zero => exact ⟨fun b hb => absurd hb (by omega), Or.inl ⟨rfl, rfl⟩⟩
  | succ n ih =>
    obtain ⟨h1, h2⟩ := ih (by omega)
    rw [gs_nwQ_s]
    by_cases q : (gs_nwQ W lv a n).2 < W a n ∧ W a n < lv
    · rw [if_pos q]
      refine ⟨fun b hb hl => ?_, Or.inr ⟨by show n < n + 1; omega, rfl, by show 0 < W a n; omega, q.2⟩⟩
      rcases Nat.lt_succ_iff_lt_or_eq.mp hb with e | rfl
      · exact Nat.le_trans (h1 b e hl) (by show (gs_nwQ W lv a n).2 ≤ W a n; omega)
      · exact Nat.le_refl _
    · rw [if_neg q]
      refine ⟨fun b hb hl => ?_, ?_⟩
      · rcases Nat.lt_succ_iff_lt_or_eq.mp hb with e | rfl
        · exact h1 b e hl
        · omega
      · rcases h2 with h2 | ⟨a1, a2⟩
        · exact Or.inl h2
        · exact Or.inr ⟨by omega, a2⟩
theorem gs_nw_is (W : Nat → Nat → Nat) (lv a : Nat) : (∀ b, b < 8 → W a b < lv → W a b ≤ (gs_nw W lv a).2) ∧ ((gs_nw W lv a).1 = 8 ∧ (gs_nw W lv a).2 = 0 ∨ (gs_nw W lv a).1 < 8 ∧ W a (gs_nw W lv a).1 = (gs_nw W lv a).2 ∧ 0 < (gs_nw W lv a).2 ∧ (gs_nw W lv a).2 < lv) := gs_nwQ_is W lv a (Nat.le_refl 8)
/-- who is asked has that one rather -/
def gs_tk (A : Nat → Nat → Nat) (an : Nat → Nat) (a b : Nat) : Bool := decide ((if an b < 8 then A b (an b) else 0) < A b a)
def gs_mt (A : Nat → Nat → Nat) (mt an : Nat → Nat) (a b : Nat) : Nat → Nat := if gs_tk A an a b = true then updN (if an b < 8 then updN mt (an b) 8 else mt) a b else mt
def gs_an (A : Nat → Nat → Nat) (an : Nat → Nat) (a b : Nat) : Nat → Nat := if gs_tk A an a b = true then updN an b a else an
def gs_ak (W : Nat → Nat → Nat) (s : gsS) (a : Nat) : Bool := decide (8 ≤ s.1 a) && decide ((gs_nw W (s.2.2 a) a).1 < 8)
def gs_turn (W A : Nat → Nat → Nat) (s : gsS) (a : Nat) : gsS :=
  if s.1 a < 8 then s else
  if (gs_nw W (s.2.2 a) a).1 < 8 then (gs_mt A s.1 s.2.1 a (gs_nw W (s.2.2 a) a).1, gs_an A s.2.1 a (gs_nw W (s.2.2 a) a).1, updN s.2.2 a (gs_nw W (s.2.2 a) a).2)
  else (s.1, s.2.1, updN s.2.2 a (gs_nw W (s.2.2 a) a).2)
def gs_rd (W A : Nat → Nat → Nat) (s : gsS) (n : Nat) : gsS := vf n (fun a z => gs_turn W A z a) s
theorem gs_rd_s (W A : Nat → Nat → Nat) (s : gsS) (n : Nat) : gs_rd W A s (n + 1) = gs_turn W A (gs_rd W A s n) n := rfl
def gs_fl (W A : Nat → Nat → Nat) (s : gsS) (n : Nat) : Bool := vf n (fun a f => f || gs_ak W (gs_rd W A s a) a) false
theorem gs_fl_s (W A : Nat → Nat → Nat) (s : gsS) (n : Nat) : gs_fl W A s (n + 1) = (gs_fl W A s n || gs_ak W (gs_rd W A s n) n) := rfl
def gs_0 : gsS := (fun _ => 8, fun _ => 8, fun _ => 1000)
def gs_it (W A : Nat → Nat → Nat) : Nat → gsS × Bool
  | 0 => (gs_0, true)
  | k + 1 => if (gs_it W A k).2 = true then (gs_rd W A (gs_it W A k).1 8, gs_fl W A (gs_it W A k).1 8) else gs_it W A k
theorem gs_it_s (W A : Nat → Nat → Nat) (k : Nat) : gs_it W A (k + 1) = if (gs_it W A k).2 = true then (gs_rd W A (gs_it W A k).1 8, gs_fl W A (gs_it W A k).1 8) else gs_it W A k := rfl
theorem gs_it_stop {W A : Nat → Nat → Nat} {k : Nat} (h : (gs_it W A k).2 = false) (d : Nat) : gs_it W A (k + d) = gs_it W A k := by
  induction d with
  | zero => rfl
  | succ d ih => rw [← Nat.add_assoc, gs_it_s, ih, if_neg (by rw [h]; decide)]
/-- how many have been asked -/
def gs_c (W : Nat → Nat → Nat) (lv : Nat → Nat) : Nat := fb_sm (fun a => fb_ct (fun b => decide (0 < W a b ∧ lv a ≤ W a b)) 8) 8
theorem gs_c_le (W : Nat → Nat → Nat) (lv : Nat → Nat) : gs_c W lv ≤ 64 := by
  have := fb_sm_bound (f := fun a => fb_ct (fun b => decide (0 < W a b ∧ lv a ≤ W a b)) 8) (c := 8) (n := 8) (fun k _ => fb_ct_le _ 8)
  unfold gs_c; omega
theorem gs_c_upd (W : Nat → Nat → Nat) (lv : Nat → Nat) {a v : Nat} (ha : a < 8) (hv : v ≤ lv a) : gs_c W lv ≤ gs_c W (updN lv a v) ∧ ((∃ b, b < 8 ∧ 0 < W a b ∧ v ≤ W a b ∧ W a b < lv a) → gs_c W lv + 1 ≤ gs_c W (updN lv a v)) := by
  have e : gs_c W (updN lv a v) + fb_ct (fun b => decide (0 < W a b ∧ lv a ≤ W a b)) 8 = gs_c W lv + fb_ct (fun b => decide (0 < W a b ∧ v ≤ W a b)) 8 := by
    have h := fb_sm_upd (fun a => fb_ct (fun b => decide (0 < W a b ∧ lv a ≤ W a b)) 8) (fb_ct (fun b => decide (0 < W a b ∧ v ≤ W a b)) 8) (n := 8) ha
    have e2 : fb_sm (fun k => if k = a then fb_ct (fun b => decide (0 < W a b ∧ v ≤ W a b)) 8 else fb_ct (fun b => decide (0 < W k b ∧ lv k ≤ W k b)) 8) 8 = gs_c W (updN lv a v) := fb_sm_cong (fun k _ => by
      by_cases q : k = a
      · subst q; rw [if_pos rfl, updN_e]
      · rw [if_neg q, updN_n q])
    rw [e2] at h
    exact h
  have hsub : ∀ k, k < 8 → decide (0 < W a k ∧ lv a ≤ W a k) = true → decide (0 < W a k ∧ v ≤ W a k) = true := fun k _ h => by
    rw [decide_eq_true_eq] at h ⊢; omega
  have h1 := fb_ct_sub (n := 8) hsub
  refine ⟨by omega, fun ⟨b, hb, q1, q2, q3⟩ => ?_⟩
  have h2 : fb_ct (fun k => if k = b then true else decide (0 < W a k ∧ lv a ≤ W a k)) 8 ≤ fb_ct (fun b => decide (0 < W a b ∧ v ≤ W a b)) 8 := fb_ct_sub (fun k hk h => by
    by_cases z : k = b
    · subst z; exact decide_eq_true ⟨q1, q2⟩
    · rw [if_neg z] at h; exact hsub k hk h)
  have h3 := fb_ct_upd (fun k => decide (0 < W a k ∧ lv a ≤ W a k)) true (n := 8) hb
  rw [decide_eq_false (show ¬ (0 < W a b ∧ lv a ≤ W a b) by omega)] at h3
  simp only [if_true, Bool.false_eq_true, if_false] at h3
  omega
theorem gs_turn_c (W A : Nat → Nat → Nat) (s : gsS) {a : Nat} (ha : a < 8) : gs_c W s.2.2 + (if gs_ak W s a = true then 1 else 0) ≤ gs_c W (gs_turn W A s a).2.2 := by
  obtain ⟨h1, h2⟩ := gs_nw_is W (s.2.2 a) a
  unfold gs_turn gs_ak
  by_cases q : s.1 a < 8
  · rw [if_pos q, decide_eq_false (by omega)]; simp
  · rw [if_neg q, decide_eq_true (show 8 ≤ s.1 a by omega)]
    by_cases z : (gs_nw W (s.2.2 a) a).1 < 8
    · rw [if_pos z, decide_eq_true z]
      rcases h2 with ⟨a1, -⟩ | ⟨a1, a2, a3, a4⟩
      · omega
      · have := (gs_c_upd W s.2.2 (a := a) (v := (gs_nw W (s.2.2 a) a).2) ha (by omega)).2 ⟨_, a1, by omega, by omega, by omega⟩
        simpa using this
    · rw [if_neg z, decide_eq_false z]
      have := (gs_c_upd W s.2.2 (a := a) (v := (gs_nw W (s.2.2 a) a).2) ha (by rcases h2 with ⟨a1, a2⟩ | ⟨a1, -⟩ <;> omega)).1
      simpa using this
theorem gs_rd_c (W A : Nat → Nat → Nat) (s : gsS) {n : Nat} (hn : n ≤ 8) : gs_c W s.2.2 + (if gs_fl W A s n = true then 1 else 0) ≤ gs_c W (gs_rd W A s n).2.2 := by
  induction n with
  | zero => exact Nat.le_refl _
  | succ n ih =>
    have ih := ih (by omega)
    have h := gs_turn_c W A (gs_rd W A s n) (a := n) (by omega)
    rw [gs_rd_s, gs_fl_s]
    cases e1 : gs_fl W A s n <;> cases e2 : gs_ak W (gs_rd W A s n) n <;> rw [e1] at ih <;> rw [e2] at h <;> simp at ih h ⊢ <;> omega
theorem gs_it_c (W A : Nat → Nat → Nat) (k : Nat) (h : (gs_it W A k).2 = true) : k ≤ gs_c W (gs_it W A k).1.2.2 := by
  induction k with
  | zero => exact Nat.zero_le _
  | succ k ih =>
    rw [gs_it_s] at h ⊢
    by_cases q : (gs_it W A k).2 = true
    · rw [if_pos q] at h ⊢
      have h1 := gs_rd_c W A (gs_it W A k).1 (Nat.le_refl 8)
      dsimp only at h ⊢
      rw [h, if_pos rfl] at h1
      have := ih q
      exact Nat.le_trans (Nat.succ_le_succ this) h1
    · rw [if_neg q] at h; exact absurd h q
/-- a round without a question changes no pair -/
theorem gs_rd_same {W A : Nat → Nat → Nat} {s : gsS} {n : Nat} (h : gs_fl W A s n = false) : (gs_rd W A s n).1 = s.1 ∧ (gs_rd W A s n).2.1 = s.2.1 := by
  induction n with
  | zero => exact ⟨rfl, rfl⟩
  | succ n ih =>
    rw [gs_fl_s, Bool.or_eq_false_iff] at h
    obtain ⟨i1, i2⟩ := ih h.1
    rw [gs_rd_s]
    have h2 := h.2
    unfold gs_ak at h2
    unfold gs_turn
    by_cases q : (gs_rd W A s n).1 n < 8
    · rw [if_pos q]; exact ⟨i1, i2⟩
    · rw [if_neg q]
      rw [decide_eq_true (show 8 ≤ (gs_rd W A s n).1 n by omega), Bool.true_and, decide_eq_false_iff_not] at h2
      rw [if_neg h2]; exact ⟨i1, i2⟩
/-- from the 64th round on no pair changes -/
theorem gs_it_late (W A : Nat → Nat → Nat) {n : Nat} (hn : 64 ≤ n) (d : Nat) : (gs_it W A (n + d)).1.1 = (gs_it W A n).1.1 ∧ (gs_it W A (n + d)).1.2.1 = (gs_it W A n).1.2.1 := by
  induction d with
  | zero => exact ⟨rfl, rfl⟩
  | succ d ih =>
    rw [← Nat.add_assoc, gs_it_s]
    by_cases z : (gs_it W A (n + d)).2 = true
    · rw [if_pos z]
      have h1 := gs_it_c W A (n + d) z
      have h2 := gs_rd_c W A (gs_it W A (n + d)).1 (Nat.le_refl 8)
      have h3 := gs_c_le W (gs_rd W A (gs_it W A (n + d)).1 8).2.2
      have h4 : gs_fl W A (gs_it W A (n + d)).1 8 = false := by
        cases e : gs_fl W A (gs_it W A (n + d)).1 8
        · rfl
        · rw [e, if_pos rfl] at h2; omega
      obtain ⟨r1, r2⟩ := gs_rd_same h4
      dsimp only
      rw [r1, r2]; exact ih
    · rw [if_neg z]; exact ih
/-- wherever the asking ends, the pairs are those of the 64th round -/
theorem gs_it_fin {W A : Nat → Nat → Nat} {k n : Nat} (h : (gs_it W A k).2 = false) (hn : n = 64) : (gs_it W A k).1.1 = (gs_it W A n).1.1 ∧ (gs_it W A k).1.2.1 = (gs_it W A n).1.2.1 := by
  rcases Nat.lt_or_ge k n with q | q
  · have e := gs_it_stop h (n - k)
    rw [show k + (n - k) = n by omega] at e
    rw [e]; exact ⟨rfl, rfl⟩
  · have e := gs_it_late W A (n := n) (by omega) (k - n)
    rw [show n + (k - n) = k by omega] at e
    exact e
theorem gs_it_no {W A : Nat → Nat → Nat} {k : Nat} (h : (gs_it W A k).2 = true) : k ≤ 64 := Nat.le_trans (gs_it_c W A k h) (gs_c_le W _)
/-- what holds of the pairs while they ask -/
def gs_ok (W : Nat → Nat → Nat) (s : gsS) : Prop := (∀ a, a < 8 → s.1 a < 8 → s.2.2 a ≤ W a (s.1 a) ∧ 0 < W a (s.1 a) ∧ s.2.1 (s.1 a) = a) ∧ (∀ b, b < 8 → s.2.1 b < 8 → s.1 (s.2.1 b) = b) ∧ ∀ a, s.2.2 a ≤ 1000
theorem gs_ok_0 (W : Nat → Nat → Nat) : gs_ok W gs_0 := ⟨fun a _ h => absurd h (by show ¬ (8 : Nat) < 8; omega), fun b _ h => absurd h (by show ¬ (8 : Nat) < 8; omega), fun _ => Nat.le_refl _⟩
theorem gs_ok_lv {W : Nat → Nat → Nat} {s : gsS} (h : gs_ok W s) {a v : Nat} (hf : ¬ s.1 a < 8) (hv : v ≤ 1000) : gs_ok W (s.1, s.2.1, updN s.2.2 a v) := ⟨fun z hz h8 => by
  have hne : z ≠ a := fun e => by subst e; exact hf h8
  have := h.1 z hz h8
  show updN s.2.2 a v z ≤ _ ∧ _
  rw [updN_n hne]; exact this, h.2.1, fun z => by
  show updN s.2.2 a v z ≤ 1000
  by_cases e : z = a
  · subst e; rw [updN_e]; exact hv
  · rw [updN_n e]; exact h.2.2 z⟩
theorem gs_ok_turn {W A : Nat → Nat → Nat} {s : gsS} {a : Nat} (ha : a < 8) (h : gs_ok W s) : gs_ok W (gs_turn W A s a) := by
  obtain ⟨h1, h2⟩ := gs_nw_is W (s.2.2 a) a
  unfold gs_turn
  by_cases q : s.1 a < 8
  · rw [if_pos q]; exact h
  · rw [if_neg q]
    have hl := h.2.2 a
    by_cases z : (gs_nw W (s.2.2 a) a).1 < 8
    · rw [if_pos z]
      rcases h2 with ⟨b1, -⟩ | ⟨b1, b2, b3, b4⟩
      · omega
      · have hk := gs_ok_lv (v := (gs_nw W (s.2.2 a) a).2) h q (by omega)
        unfold gs_mt gs_an
        generalize hb : (gs_nw W (s.2.2 a) a).1 = b at *
        by_cases t : gs_tk A s.2.1 a b = true
        · rw [if_pos t, if_pos t]
          have hk1 := hk.1
          have hk2 := hk.2.1
          dsimp only at hk1 hk2
          refine ⟨fun y hy y8 => ?_, fun y hy y8 => ?_, hk.2.2⟩
          · dsimp only at y8 ⊢
            by_cases e : y = a
            · subst e
              rw [updN_e, updN_e, updN_e]
              exact ⟨by omega, by omega, rfl⟩
            · simp only [updN_n e] at y8 ⊢
              have hk1y := hk1 y hy
              simp only [updN_n e] at hk1y
              by_cases o : s.2.1 b < 8
              · simp only [if_pos o] at y8 ⊢
                by_cases e2 : y = s.2.1 b
                · rw [e2, updN_e] at y8; omega
                · simp only [updN_n e2] at y8 ⊢
                  obtain ⟨r1, r2, r3⟩ := hk1y y8
                  refine ⟨r1, r2, ?_⟩
                  rw [updN_n]; exact r3
                  intro e3; rw [e3] at r3; exact e2 r3.symm
              · simp only [if_neg o] at y8 ⊢
                obtain ⟨r1, r2, r3⟩ := hk1y y8
                refine ⟨r1, r2, ?_⟩
                rw [updN_n]; exact r3
                intro e3; rw [e3] at r3; rw [r3] at o; omega
          · dsimp only at y8 ⊢
            by_cases e : y = b
            · subst e; rw [updN_e, updN_e]
            · rw [updN_n e] at y8 ⊢
              have r := hk2 y hy y8
              have hne : s.2.1 y ≠ a := fun e3 => by
                rw [e3] at r
                have q' : ¬ s.1 a < 8 := q
                omega
              rw [updN_n hne]
              by_cases o : s.2.1 b < 8
              · rw [if_pos o]
                have : s.2.1 y ≠ s.2.1 b := fun e3 => by
                  have r2 := hk2 b b1 o
                  rw [e3, r2] at r; exact e r.symm
                rw [updN_n this]; exact r
              · rw [if_neg o]; exact r
        · rw [if_neg t, if_neg t]; exact hk
    · rw [if_neg z]
      exact gs_ok_lv h q (by rcases h2 with ⟨a1, a2⟩ | ⟨a1, -⟩ <;> omega)
theorem gs_ok_rd {W A : Nat → Nat → Nat} {s : gsS} (h : gs_ok W s) {n : Nat} (hn : n ≤ 8) : gs_ok W (gs_rd W A s n) := by
  induction n with
  | zero => exact h
  | succ n ih => rw [gs_rd_s]; exact gs_ok_turn (by omega) (ih (by omega))
theorem gs_ok_it (W A : Nat → Nat → Nat) (k : Nat) : gs_ok W (gs_it W A k).1 := by
  induction k with
  | zero => exact gs_ok_0 W
  | succ k ih =>
    rw [gs_it_s]
    by_cases z : (gs_it W A k).2 = true
    · rw [if_pos z]
      dsimp only
      exact gs_ok_rd ih (Nat.le_refl 8)
    · rw [if_neg z]; exact ih
/-- the refused of the reference -/
def rf_ok (W : Nat → Nat → Nat) (s : gsS) (rf : Nat → Int32) : Prop := ∀ a b, a < 8 → b < 8 → 0 < W a b → (bt (rf a) b = true ↔ s.2.2 a ≤ W a b ∧ ¬ s.1 a = b)
theorem WW_may {m : Nat → Int32} (hr : rk9 m) {H G h g : Nat} (hH : H ≤ 8) (hG : G ≤ 8) : 0 < WW m H G h g ↔ (h < H ∧ g < G) ∧ vs_may m h g = true := by
  unfold WW
  by_cases q : h < H ∧ g < G
  · rw [vs_may_iff hr (by omega) (by omega), Bool.and_eq_true, decide_eq_true_eq, decide_eq_true_eq]
    split
    · rename_i z; exact ⟨fun _ => z, fun _ => by omega⟩
    · rename_i z; exact ⟨fun h => absurd h (by omega), fun h => absurd h z⟩
  · rw [if_neg (fun z => q z.1)]; exact ⟨fun h => absurd h (by omega), fun h => absurd h.1 q⟩
theorem LW_may {m : Nat → Int32} (hr : rk9 m) {H G h g : Nat} (hH : H ≤ 8) (hG : G ≤ 8) : 0 < LW m H G g h ↔ (h < H ∧ g < G) ∧ vs_may m h g = true := by
  unfold LW
  by_cases q : h < H ∧ g < G
  · rw [vs_may_iff hr (by omega) (by omega), Bool.and_eq_true, decide_eq_true_eq, decide_eq_true_eq]
    split
    · rename_i z; exact ⟨fun _ => z, fun _ => by omega⟩
    · rename_i z; exact ⟨fun h => absurd h (by omega), fun h => absurd h z⟩
  · rw [if_neg (fun z => q z.1)]; exact ⟨fun h => absurd h (by omega), fun h => absurd h.1 q⟩
theorem hr_W {m : Nat → Int32} (hr : rk9 m) {H G h g u : Nat} (hH : H ≤ 8) (hG : G ≤ 8) (hm : 0 < WW m H G h g) (hu : u < 8 → 0 < WW m H G h u) : vs_hr m h g u = decide ((if u < 8 then WW m H G h u else 0) < WW m H G h g) := by
  have ⟨q1, q2⟩ := (WW_may hr hH hG).mp hm
  rw [vs_may_iff hr (by omega) (by omega)] at q2
  simp only [Bool.and_eq_true, decide_eq_true_eq] at q2
  have e1 : WW m H G h g = 8 * RK m h g + 8 - 1 - g := if_pos ⟨q1, q2⟩
  unfold vs_hr
  rw [decide_eq_true q2.1, e1, Bool.true_and]
  by_cases hu8 : u < 8
  · have ⟨p1, p2⟩ := (WW_may hr hH hG).mp (hu hu8)
    rw [vs_may_iff hr (by omega) (by omega)] at p2
    simp only [Bool.and_eq_true, decide_eq_true_eq] at p2
    have e3 : WW m H G h u = 8 * RK m h u + 8 - 1 - u := if_pos ⟨p1, p2⟩
    rw [if_pos hu8, e3, Bool.eq_iff_iff]
    simp only [Bool.and_eq_true, Bool.or_eq_true, decide_eq_true_eq]
    have hug : u = g → RK m h u = RK m h g := fun e => by rw [e]
    omega
  · rw [if_neg hu8, Bool.eq_iff_iff]
    simp only [Bool.and_eq_true, Bool.or_eq_true, decide_eq_true_eq]
    omega
theorem gr_L {m : Nat → Int32} (hr : rk9 m) {H G h g u : Nat} (hH : H ≤ 8) (hG : G ≤ 8) (hm : 0 < LW m H G g h) (hu : u < 8 → 0 < LW m H G g u) : vs_gr m g h u = decide ((if u < 8 then LW m H G g u else 0) < LW m H G g h) := by
  have ⟨q1, q2⟩ := (LW_may hr hH hG).mp hm
  rw [vs_may_iff hr (by omega) (by omega)] at q2
  simp only [Bool.and_eq_true, decide_eq_true_eq] at q2
  have e1 : LW m H G g h = 8 * LK m h g + 8 - 1 - h := if_pos ⟨q1, q2⟩
  unfold vs_gr
  rw [decide_eq_true q2.2, e1, Bool.true_and]
  by_cases hu8 : u < 8
  · have ⟨p1, p2⟩ := (LW_may hr hH hG).mp (hu hu8)
    rw [vs_may_iff hr (by omega) (by omega)] at p2
    simp only [Bool.and_eq_true, decide_eq_true_eq] at p2
    have e3 : LW m H G g u = 8 * LK m u g + 8 - 1 - u := if_pos ⟨p1, p2⟩
    rw [if_pos hu8, e3, Bool.eq_iff_iff]
    simp only [Bool.and_eq_true, Bool.or_eq_true, decide_eq_true_eq]
    have hug : u = h → LK m u g = LK m h g := fun e => by rw [e]
    omega
  · rw [if_neg hu8, Bool.eq_iff_iff]
    simp only [Bool.and_eq_true, Bool.or_eq_true, decide_eq_true_eq]
    omega
/-- two like wishes are one -/
def gs_inj (W : Nat → Nat → Nat) : Prop := ∀ a b c, a < 8 → b < 8 → c < 8 → 0 < W a b → W a b = W a c → b = c
theorem WW_inj {m : Nat → Int32} (H G : Nat) : gs_inj (WW m H G) := fun a b c _ hb hc h0 e => by
  unfold WW at h0 e
  split at h0
  · rename_i q1
    rw [if_pos q1] at e
    split at e
    · omega
    · omega
  · omega
theorem LW_inj {m : Nat → Int32} (H G : Nat) : gs_inj (LW m H G) := fun a b c _ hb hc h0 e => by
  unfold LW at h0 e
  split at h0
  · rename_i q1
    rw [if_pos q1] at e
    split at e
    · omega
    · omega
  · omega
theorem gs_nwQ_more {W : Nat → Nat → Nat} {lv a n : Nat} (hn : n ≤ 8) (h : ∀ b, n ≤ b → b < 8 → W a b = 0) : gs_nwQ W lv a n = gs_nw W lv a := by
  have key : ∀ d, n + d ≤ 8 → gs_nwQ W lv a (n + d) = gs_nwQ W lv a n := fun d => by
    induction d with
    | zero => intro _; rfl
    | succ d ih => intro hd; rw [← Nat.add_assoc, gs_nwQ_s, ih (by omega), h (n + d) (by omega) (by omega), if_neg (by omega)]
  have := key (8 - n) (by omega)
  rw [show n + (8 - n) = 8 by omega] at this
  exact this.symm
/-- the reference's choice is the class's: b is had rather than the one found -/
theorem gs_pick {W : Nat → Nat → Nat} {lv a b : Nat} {may bit rath : Bool} (hb : b < 8) (hm : may = decide (0 < W a b)) (hbit : 0 < W a b → (bit = true ↔ lv ≤ W a b)) (hr : 0 < W a b → rath = decide ((if (gs_nwQ W lv a b).1 < 8 then W a (gs_nwQ W lv a b).1 else 0) < W a b)) : (!bit && may && rath) = decide ((gs_nwQ W lv a b).2 < W a b ∧ W a b < lv) := by
  obtain ⟨-, h2⟩ := gs_nwQ_is W lv a (n := b) (by omega)
  by_cases q : 0 < W a b
  · rw [hm, hr q, decide_eq_true q]
    have e : (if (gs_nwQ W lv a b).1 < 8 then W a (gs_nwQ W lv a b).1 else 0) = (gs_nwQ W lv a b).2 := by
      rcases h2 with ⟨a1, a2⟩ | ⟨a1, a2, -⟩
      · rw [a1, a2]; rfl
      · rw [if_pos (by omega), a2]
    rw [e, Bool.and_true, Bool.eq_iff_iff]
    simp only [Bool.and_eq_true, Bool.not_eq_true', decide_eq_true_eq]
    have := hbit q
    cases bit
    · simp at this ⊢; omega
    · simp at this ⊢; omega
  · rw [hm, decide_eq_false q, decide_eq_false (by omega)]; simp
theorem bt_or1 (x : Int32) {b i : Nat} (hb : b < 8) (hi : i < 8) : bt (x ||| (nI 1 <<< (nI b &&& 31))) i = (bt x i || decide (i = b)) := by rw [b_or, vs_1b (by omega) (by omega)]
def rfu (rf : Nat → Int32) (a b : Nat) : Nat → Int32 := fun j => if j = a then rf a ||| (nI 1 <<< (nI b &&& 31)) else rf j
def gs_rf (A : Nat → Nat → Nat) (an : Nat → Nat) (rf : Nat → Int32) (a b : Nat) : Nat → Int32 := if gs_tk A an a b = true then (if an b < 8 then rfu rf (an b) b else rf) else rfu rf a b
theorem rf_ok_0 {W : Nat → Nat → Nat} (hW : ∀ a b, a < 8 → b < 8 → W a b < 100) : rf_ok W gs_0 (fun _ => nI 0) := fun a b ha hb h0 => by
  have := hW a b ha hb
  constructor
  · intro h; rw [show bt (nI 0) b = false from b_0 b] at h; cases h
  · intro h
    have h1 : (1000 : Nat) ≤ W a b := h.1
    omega
theorem rf_ok_none {W : Nat → Nat → Nat} {s : gsS} {rf : Nat → Int32} (h : rf_ok W s rf) {a : Nat} (hf : ¬ s.1 a < 8) (hn : ¬ (gs_nw W (s.2.2 a) a).1 < 8) : rf_ok W (s.1, s.2.1, updN s.2.2 a (gs_nw W (s.2.2 a) a).2) rf := fun y b hy hb h0 => by
  obtain ⟨h1, h2⟩ := gs_nw_is W (s.2.2 a) a
  rw [h y b hy hb h0]
  dsimp only
  by_cases e : y = a
  · subst e
    rw [updN_e]
    rcases h2 with ⟨a1, a2⟩ | ⟨a1, -⟩
    · have := h1 b hb
      constructor
      · intro z; exact ⟨by omega, z.2⟩
      · intro z; refine ⟨?_, z.2⟩
        rcases Nat.lt_or_ge (W y b) (s.2.2 y) with q | q
        · have := this q; omega
        · exact q
    · omega
  · rw [updN_n e]
theorem rf_ok_ask {W A : Nat → Nat → Nat} {s : gsS} {rf : Nat → Int32} (hk : gs_ok W s) (hj : gs_inj W) (h : rf_ok W s rf) {a : Nat} (ha : a < 8) (hf : ¬ s.1 a < 8) (hn : (gs_nw W (s.2.2 a) a).1 < 8) : rf_ok W (gs_mt A s.1 s.2.1 a (gs_nw W (s.2.2 a) a).1, gs_an A s.2.1 a (gs_nw W (s.2.2 a) a).1, updN s.2.2 a (gs_nw W (s.2.2 a) a).2) (gs_rf A s.2.1 rf a (gs_nw W (s.2.2 a) a).1) := by
  obtain ⟨h1, h2⟩ := gs_nw_is W (s.2.2 a) a
  rcases h2 with ⟨a1, -⟩ | ⟨b1, b2, b3, b4⟩
  · omega
  · generalize hb : (gs_nw W (s.2.2 a) a).1 = b at *
    generalize hg : (gs_nw W (s.2.2 a) a).2 = gl at *
    intro y c hy hc h0
    dsimp only
    -- of the asking one: all at least as dear as b
    have key : ∀ c, c < 8 → 0 < W a c → (gl ≤ W a c ↔ (bt (rf a) c = true ∨ c = b)) := fun c hc h0 => by
      rw [h a c ha hc h0]
      constructor
      · intro z
        rcases Nat.lt_or_ge (W a c) (s.2.2 a) with q | q
        · have := h1 c hc q
          exact Or.inr (hj a c b ha hc hn h0 (by omega))
        · exact Or.inl ⟨q, by omega⟩
      · rintro (⟨z, -⟩ | rfl)
        · omega
        · omega
    unfold gs_mt gs_rf
    by_cases t : gs_tk A s.2.1 a b = true
    · rw [if_pos t, if_pos t]
      by_cases e : y = a
      · subst e
        rw [updN_e, updN_e]
        have hnb : ∀ o, o = y → ¬ (s.2.1 b < 8 ∧ s.2.1 b = o) := fun o ho z => by
          have := hk.2.1 b b1 z.1
          rw [z.2, ho] at this; omega
        have e2 : (if s.2.1 b < 8 then rfu rf (s.2.1 b) b else rf) y = rf y := by
          split
          · rename_i o
            unfold rfu
            rw [if_neg (fun z => hnb y rfl ⟨o, z.symm⟩)]
          · rfl
        rw [e2, key c hc h0, h y c hy hc h0]
        constructor
        · intro z; exact ⟨Or.inl z, fun z2 => by subst z2; omega⟩
        · rintro ⟨z | z, z2⟩
          · exact z
          · exact absurd z.symm z2
      · rw [updN_n e, updN_n e]
        by_cases o : s.2.1 b < 8
        · rw [if_pos o, if_pos o]
          by_cases e2 : y = s.2.1 b
          · subst e2
            rw [updN_e]
            unfold rfu
            rw [if_pos rfl, bt_or1 _ hn hc, Bool.or_eq_true, decide_eq_true_eq, h _ c hy hc h0]
            have r := hk.2.1 b b1 o
            have r2 := (hk.1 (s.2.1 b) o (by omega)).1
            rw [r] at r2
            constructor
            · rintro (⟨z, -⟩ | rfl)
              · exact ⟨z, by omega⟩
              · exact ⟨r2, by omega⟩
            · rintro ⟨z, -⟩
              by_cases e3 : c = b
              · exact Or.inr e3
              · exact Or.inl ⟨z, fun z2 => e3 (by rw [← z2, r])⟩
          · rw [updN_n e2]
            unfold rfu
            rw [if_neg e2]
            exact h y c hy hc h0
        · rw [if_neg o, if_neg o]; exact h y c hy hc h0
    · rw [if_neg t, if_neg t]
      unfold rfu
      by_cases e : y = a
      · subst e
        rw [if_pos rfl, updN_e, bt_or1 _ hn hc, Bool.or_eq_true, decide_eq_true_eq, key c hc h0]
        constructor
        · intro z; exact ⟨z, by omega⟩
        · intro z; exact z.1
      · rw [if_neg e, updN_n e]; exact h y c hy hc h0
/-! the rows of both -/
def gq_inv (I K : mx_I) (rm rn rl : Nat) (s : gsS) : Prop := mx_off (fun c => c = rm ∨ c = rn ∨ c = rl) I K ∧ (∀ a, a < 8 → K rm a = mtv (s.1 a)) ∧ (∀ b, b < 8 → K rn b = mtv (s.2.1 b)) ∧ ∀ a, a < 8 → K rl a = nI (s.2.2 a)
theorem gq_0 {I : mx_I} {rm rn rl : Nat} (h1 : rm ≠ rn) (h2 : rm ≠ rl) (h3 : rn ≠ rl) : gq_inv I (vs_fill (vs_fill (vs_fill I rm 8 (-1)) rn 8 (-1)) rl 8 (nI 1000)) rm rn rl gs_0 := by
  refine ⟨fun c hc => ?_, fun a ha => ?_, fun b hb => ?_, fun a ha => ?_⟩
  · have c1 : c ≠ rm := fun e => hc (Or.inl e)
    have c2 : c ≠ rn := fun e => hc (Or.inr (Or.inl e))
    have c3 : c ≠ rl := fun e => hc (Or.inr (Or.inr e))
    funext j; simp [vs_fill, c1, c2, c3]
  · show _ = mtv 8
    rw [mtv_ge (by omega)]; simp [vs_fill, h1, h2, ha]
  · show _ = mtv 8
    rw [mtv_ge (by omega)]; simp [vs_fill, h3, hb]
  · show _ = nI 1000
    simp [vs_fill, ha]
theorem gq_lv {I K : mx_I} {rm rn rl : Nat} {s : gsS} (h2 : rm ≠ rl) (h3 : rn ≠ rl) (h : gq_inv I K rm rn rl s) {a v : Nat} : gq_inv I (mx_up K rl a (nI v)) rm rn rl (s.1, s.2.1, updN s.2.2 a v) := by
  obtain ⟨q0, q1, q2, q3⟩ := h
  refine ⟨fun c hc => (mx_up_ne (fun e => hc (Or.inr (Or.inr e)))).trans (q0 c hc), fun z hz => ?_, fun z hz => ?_, fun z hz => ?_⟩
  · rw [mx_up_ne h2]; exact q1 z hz
  · rw [mx_up_ne h3]; exact q2 z hz
  · dsimp only
    by_cases e : z = a
    · subst e; rw [updN_e]; simp [mx_up]
    · rw [updN_n e, ← q3 z hz]; simp [mx_up, e]
theorem gq_an {I K K2 : mx_I} {rm rn rl : Nat} {s : gsS} {mt an : Nat → Nat} (h2 : rm ≠ rl) (h3 : rn ≠ rl) (h : gq_inv I K rm rn rl s) (h4 : mx_off (fun c => c = rm ∨ c = rn) K K2) (h5 : ∀ j, j < 8 → K2 rm j = mtv (mt j) ∧ K2 rn j = mtv (an j)) : gq_inv I K2 rm rn rl (mt, an, s.2.2) := by
  obtain ⟨q0, q1, q2, q3⟩ := h
  refine ⟨fun c hc => (h4 c (fun z => hc (z.elim Or.inl (fun z => Or.inr (Or.inl z))))).trans (q0 c hc), fun z hz => (h5 z hz).1, fun z hz => (h5 z hz).2, fun z hz => ?_⟩
  rw [h4 rl (fun z => z.elim (fun z => h2 z.symm) (fun z => h3 z.symm))]; exact q3 z hz
theorem an_0 {I : mx_I} {rm rn : Nat} {mt an : Nat → Nat} {A : Nat → Nat → Nat} {a b : Nat} (h1 : ∀ j, j < 8 → I rm j = mtv (mt j) ∧ I rn j = mtv (an j)) (t : gs_tk A an a b = false) : ∀ j, j < 8 → I rm j = mtv (gs_mt A mt an a b j) ∧ I rn j = mtv (gs_an A an a b j) := by
  unfold gs_mt gs_an
  rw [if_neg (by rw [t]; decide), if_neg (by rw [t]; decide)]; exact h1
theorem an_1 {I : mx_I} {rm rn : Nat} {mt an : Nat → Nat} {A : Nat → Nat → Nat} {a b : Nat} (hne : rm ≠ rn) (ha : a < 8) (hb : b < 8) (h1 : ∀ j, j < 8 → I rm j = mtv (mt j) ∧ I rn j = mtv (an j)) (t : gs_tk A an a b = true) (o : ¬ an b < 8) : ∀ j, j < 8 → (mx_up (mx_up I rm a (nI b)) rn b (nI a)) rm j = mtv (gs_mt A mt an a b j) ∧ (mx_up (mx_up I rm a (nI b)) rn b (nI a)) rn j = mtv (gs_an A an a b j) := by
  unfold gs_mt gs_an
  rw [if_pos t, if_pos t, if_neg o]
  intro j hj
  obtain ⟨e1, e2⟩ := h1 j hj
  refine ⟨?_, ?_⟩
  · rw [mx_up_ne hne]
    by_cases e : j = a
    · subst e; rw [updN_e, mtv_lt hb]; simp [mx_up]
    · rw [updN_n e, ← e1]; simp [mx_up, e]
  · by_cases e : j = b
    · subst e; rw [updN_e, mtv_lt ha]; simp [mx_up]
    · rw [updN_n e, ← e2]; simp [mx_up, e, Ne.symm hne]
theorem an_2 {I : mx_I} {rm rn : Nat} {mt an : Nat → Nat} {A : Nat → Nat → Nat} {a b : Nat} (hne : rm ≠ rn) (ha : a < 8) (hb : b < 8) (h1 : ∀ j, j < 8 → I rm j = mtv (mt j) ∧ I rn j = mtv (an j)) (t : gs_tk A an a b = true) (o : an b < 8) : ∀ j, j < 8 → (mx_up (mx_up (mx_up I rm (an b) (-1)) rm a (nI b)) rn b (nI a)) rm j = mtv (gs_mt A mt an a b j) ∧ (mx_up (mx_up (mx_up I rm (an b) (-1)) rm a (nI b)) rn b (nI a)) rn j = mtv (gs_an A an a b j) := by
  unfold gs_mt gs_an
  rw [if_pos t, if_pos t, if_pos o]
  intro j hj
  obtain ⟨e1, e2⟩ := h1 j hj
  refine ⟨?_, ?_⟩
  · rw [mx_up_ne hne]
    by_cases e : j = a
    · subst e; rw [updN_e, mtv_lt hb]; simp [mx_up]
    · rw [updN_n e]
      by_cases e3 : j = an b
      · rw [← e3, updN_e, mtv_ge (by omega)]; simp [mx_up, e]
      · rw [updN_n e3, ← e1]; simp [mx_up, e, e3]
  · by_cases e : j = b
    · subst e; rw [updN_e, mtv_lt ha]; simp [mx_up]
    · rw [updN_n e, ← e2]; simp [mx_up, e, Ne.symm hne]
theorem gs_tk_t {A : Nat → Nat → Nat} {an : Nat → Nat} {a b : Nat} (h : (if an b < 8 then A b (an b) else 0) < A b a) : gs_tk A an a b = true := decide_eq_true h
theorem gs_tk_f {A : Nat → Nat → Nat} {an : Nat → Nat} {a b : Nat} (h : ¬ (if an b < 8 then A b (an b) else 0) < A b a) : gs_tk A an a b = false := decide_eq_false h
theorem gs_turn_1 {W A : Nat → Nat → Nat} {s : gsS} {a : Nat} (h : s.1 a < 8) : gs_turn W A s a = s ∧ gs_ak W s a = false := ⟨if_pos h, by unfold gs_ak; rw [decide_eq_false (by omega)]; rfl⟩
theorem gs_turn_2 {W A : Nat → Nat → Nat} {s : gsS} {a : Nat} (h : ¬ s.1 a < 8) (h2 : ¬ (gs_nw W (s.2.2 a) a).1 < 8) : gs_turn W A s a = (s.1, s.2.1, updN s.2.2 a (gs_nw W (s.2.2 a) a).2) ∧ gs_ak W s a = false := ⟨by unfold gs_turn; rw [if_neg h, if_neg h2], by unfold gs_ak; rw [decide_eq_false h2]; simp⟩
theorem gs_turn_3 {W A : Nat → Nat → Nat} {s : gsS} {a : Nat} (h : ¬ s.1 a < 8) (h2 : (gs_nw W (s.2.2 a) a).1 < 8) : gs_turn W A s a = (gs_mt A s.1 s.2.1 a (gs_nw W (s.2.2 a) a).1, gs_an A s.2.1 a (gs_nw W (s.2.2 a) a).1, updN s.2.2 a (gs_nw W (s.2.2 a) a).2) ∧ gs_ak W s a = true := ⟨by unfold gs_turn; rw [if_neg h, if_pos h2], by unfold gs_ak; rw [decide_eq_true h2, decide_eq_true (by omega)]; rfl⟩
def gs_N : Nat := 64
theorem gs_N64 : gs_N = 64 := rfl
def gs_E (W A : Nat → Nat → Nat) : gsS := (gs_it W A gs_N).1
theorem gs_E_d (W A : Nat → Nat → Nat) : gs_E W A = (gs_it W A gs_N).1 := by unfold gs_E; rfl
theorem gs_E_fin {W A : Nat → Nat → Nat} {k : Nat} (h : (gs_it W A k).2 = false) : (gs_it W A k).1.1 = (gs_E W A).1 ∧ (gs_it W A k).1.2.1 = (gs_E W A).2.1 := by
  rw [gs_E_d]; exact gs_it_fin h gs_N64
def pz3 (mo : Nat) : Nat → Prop := fun c => c = mo + 7 ∨ c = mo + 8 ∨ c = mo + 9
def pm_inv (I K : mx_I) (mo ra rb : Nat) (mt an : Nat → Nat) (rf : Nat → Int32) : Prop := mx_off (pz3 mo) I K ∧ (∀ j, j < 8 → K ra j = mtv (mt j) ∧ K rb j = mtv (an j)) ∧ ∀ j, j < 8 → K (mo + 9) j = rf j
def p0_inv (I K : mx_I) (mo i : Nat) : Prop := mx_off (pz3 mo) I K ∧ ∀ j, j < i → K (mo + 7) j = -1 ∧ K (mo + 8) j = -1 ∧ K (mo + 9) j = nI 0
theorem p0_step {I K : mx_I} {mo i : Nat} (h : p0_inv I K mo i) : p0_inv I (mx_up (mx_up (mx_up K (mo + 7) i (-1)) (mo + 8) i (-1)) (mo + 9) i (nI 0)) mo (i + 1) := by
  refine ⟨fun c hc => ?_, fun j hj => ?_⟩
  · rw [mx_up_ne (fun e => hc (Or.inr (Or.inr e))), mx_up_ne (fun e => hc (Or.inr (Or.inl e))), mx_up_ne (fun e => hc (Or.inl e)), h.1 c hc]
  · by_cases e : j = i
    · subst e; exact ⟨by simp [mx_up], by simp [mx_up], by simp [mx_up]⟩
    · obtain ⟨a1, a2, a3⟩ := h.2 j (by omega)
      exact ⟨by simp [mx_up, e, a1], by simp [mx_up, e, a2], by simp [mx_up, e, a3]⟩
theorem p0_end {I K : mx_I} {mo ra rb : Nat} (h : p0_inv I K mo 8) (hr : ra = mo + 7 ∧ rb = mo + 8 ∨ ra = mo + 8 ∧ rb = mo + 7) : pm_inv I K mo ra rb gs_0.1 gs_0.2.1 (fun _ => nI 0) := by
  refine ⟨h.1, fun j hj => ?_, fun j hj => (h.2 j hj).2.2⟩
  obtain ⟨a1, a2, -⟩ := h.2 j hj
  have e : mtv (gs_0.1 j) = -1 := mtv_ge (show ¬ (8 : Nat) < 8 by omega)
  have e2 : mtv (gs_0.2.1 j) = -1 := mtv_ge (show ¬ (8 : Nat) < 8 by omega)
  rw [e, e2]
  rcases hr with ⟨rfl, rfl⟩ | ⟨rfl, rfl⟩
  · exact ⟨a1, a2⟩
  · exact ⟨a2, a1⟩
theorem pm_0 {I K : mx_I} {mo ra rb : Nat} {mt an : Nat → Nat} {rf : Nat → Int32} {A : Nat → Nat → Nat} {a b : Nat} (hr : ra = mo + 7 ∧ rb = mo + 8 ∨ ra = mo + 8 ∧ rb = mo + 7) (h : pm_inv I K mo ra rb mt an rf) (t : gs_tk A an a b = false) : pm_inv I (mx_up K (mo + 9) a (rf a ||| (nI 1 <<< (nI b &&& 31)))) mo ra rb (gs_mt A mt an a b) (gs_an A an a b) (gs_rf A an rf a b) := by
  obtain ⟨q0, q1, q2⟩ := h
  unfold gs_mt gs_an gs_rf
  rw [if_neg (by rw [t]; decide), if_neg (by rw [t]; decide), if_neg (by rw [t]; decide)]
  refine ⟨fun c hc => (mx_up_ne (fun e => hc (Or.inr (Or.inr e)))).trans (q0 c hc), fun j hj => ?_, fun j hj => ?_⟩
  · rw [mx_up_ne (by omega), mx_up_ne (by omega)]; exact q1 j hj
  · unfold rfu
    by_cases e : j = a
    · subst e; rw [if_pos rfl]; simp [mx_up]
    · rw [if_neg e, ← q2 j hj]; simp [mx_up, e]
theorem pm_1 {I K : mx_I} {mo ra rb : Nat} {mt an : Nat → Nat} {rf : Nat → Int32} {A : Nat → Nat → Nat} {a b : Nat} (hr : ra = mo + 7 ∧ rb = mo + 8 ∨ ra = mo + 8 ∧ rb = mo + 7) (ha : a < 8) (hb : b < 8) (h : pm_inv I K mo ra rb mt an rf) (t : gs_tk A an a b = true) (o : ¬ an b < 8) : pm_inv I (mx_up (mx_up K ra a (nI b)) rb b (nI a)) mo ra rb (gs_mt A mt an a b) (gs_an A an a b) (gs_rf A an rf a b) := by
  obtain ⟨q0, q1, q2⟩ := h
  refine ⟨fun c hc => ?_, an_1 (by omega) ha hb q1 t o, fun j hj => ?_⟩
  · have h1 : c ≠ mo + 7 := fun e => hc (Or.inl e)
    have h2 : c ≠ mo + 8 := fun e => hc (Or.inr (Or.inl e))
    rw [mx_up_ne (by omega), mx_up_ne (by omega), q0 c hc]
  · rw [mx_up_ne (by omega), mx_up_ne (by omega)]
    unfold gs_rf
    rw [if_pos t, if_neg o]; exact q2 j hj
theorem pm_2 {I K : mx_I} {mo ra rb : Nat} {mt an : Nat → Nat} {rf : Nat → Int32} {A : Nat → Nat → Nat} {a b : Nat} (hr : ra = mo + 7 ∧ rb = mo + 8 ∨ ra = mo + 8 ∧ rb = mo + 7) (ha : a < 8) (hb : b < 8) (h : pm_inv I K mo ra rb mt an rf) (t : gs_tk A an a b = true) (o : an b < 8) : pm_inv I (mx_up (mx_up (mx_up (mx_up K (mo + 9) (an b) (rf (an b) ||| (nI 1 <<< (nI b &&& 31)))) ra (an b) (-1)) ra a (nI b)) rb b (nI a)) mo ra rb (gs_mt A mt an a b) (gs_an A an a b) (gs_rf A an rf a b) := by
  obtain ⟨q0, q1, q2⟩ := h
  refine ⟨fun c hc => ?_, an_2 (I := mx_up K (mo + 9) (an b) (rf (an b) ||| (nI 1 <<< (nI b &&& 31)))) (by omega) ha hb (fun j hj => by rw [mx_up_ne (by omega), mx_up_ne (by omega)]; exact q1 j hj) t o, fun j hj => ?_⟩
  · have h1 : c ≠ mo + 7 := fun e => hc (Or.inl e)
    have h2 : c ≠ mo + 8 := fun e => hc (Or.inr (Or.inl e))
    rw [mx_up_ne (by omega), mx_up_ne (by omega), mx_up_ne (by omega), mx_up_ne (fun e => hc (Or.inr (Or.inr e))), q0 c hc]
  · rw [mx_up_ne (by omega), mx_up_ne (by omega), mx_up_ne (by omega)]
    unfold gs_rf
    rw [if_pos t, if_pos o]
    unfold rfu
    by_cases e : j = an b
    · subst e; rw [if_pos rfl]; simp [mx_up]
    · rw [if_neg e, ← q2 j hj]; simp [mx_up, e]
/-- those who are not there ask nobody -/
theorem gs_pad {W A : Nat → Nat → Nat} {s : gsS} {n : Nat} (hk : gs_ok W s) (hn : n ≤ 8) (h : ∀ a b, n ≤ a → a < 8 → b < 8 → W a b = 0) : (gs_rd W A s n).1 = (gs_rd W A s 8).1 ∧ (gs_rd W A s n).2.1 = (gs_rd W A s 8).2.1 ∧ gs_fl W A s n = gs_fl W A s 8 ∧ ∀ rf, rf_ok W (gs_rd W A s n) rf → rf_ok W (gs_rd W A s 8) rf := by
  have key : ∀ d, n + d ≤ 8 → (gs_rd W A s n).1 = (gs_rd W A s (n + d)).1 ∧ (gs_rd W A s n).2.1 = (gs_rd W A s (n + d)).2.1 ∧ gs_fl W A s n = gs_fl W A s (n + d) ∧ ∀ rf, rf_ok W (gs_rd W A s n) rf → rf_ok W (gs_rd W A s (n + d)) rf := fun d => by
    induction d with
    | zero => intro _; exact ⟨rfl, rfl, rfl, fun _ h => h⟩
    | succ d ih =>
      intro hd
      obtain ⟨e1, e2, e3, e4⟩ := ih (by omega)
      have hok := gs_ok_rd (A := A) hk (n := n + d) (by omega)
      have hf : ¬ (gs_rd W A s (n + d)).1 (n + d) < 8 := fun z => by
        have := (hok.1 (n + d) (by omega) z).2.1
        rw [h (n + d) _ (by omega) (by omega) z] at this; omega
      obtain ⟨h1, h2⟩ := gs_nw_is W ((gs_rd W A s (n + d)).2.2 (n + d)) (n + d)
      have hnn : ¬ (gs_nw W ((gs_rd W A s (n + d)).2.2 (n + d)) (n + d)).1 < 8 := by
        rcases h2 with ⟨a1, -⟩ | ⟨a1, a2, a3, -⟩
        · omega
        · rw [h (n + d) _ (by omega) (by omega) a1] at a2; omega
      obtain ⟨k1, k0⟩ := gs_turn_2 (A := A) hf hnn
      rw [← Nat.add_assoc, gs_rd_s, gs_fl_s, k1, k0, Bool.or_false]
      exact ⟨e1, e2, e3, fun rf hrf => rf_ok_none (e4 rf hrf) hf hnn⟩
  have := key (8 - n) (by omega)
  rw [show n + (8 - n) = 8 by omega] at this
  exact this
section AC37
variable {l : Launch} {E : mx_Env} {t : Nat} {S : mx_S} {I : mx_I} {P : mx_P} {J : mx_G} {m : Nat → Int32} {x mo H G n pa rm rn ra rw_ lv a b : Nat} {W A : Nat → Nat → Nat} {mt an : Nat → Nat}
theorem c_Pa_nextWish (hPa : pa_ok S P pa) (hSw : S rw_ = some (1, 64)) (ha : a < 8) (hL : I (pa + 5) a = nI lv) (hlv : lv ≤ 1000) (hW : ∀ b, b < 8 → W a b < 100 ∧ I rw_ (8 * a + b) = nI (W a b)) : mx_C l E M_Pa_nextWish 1 0 0 [.ref (pa), .ref (rw_), .int (nI (a))] (t, S, I, P, J) (mx_ri (mtv (gs_nw W lv a).1) (t, S, mx_up I (pa + 5) a (nI (gs_nw W lv a).2), P, J)) := by
  obtain ⟨hPa0, hPa1, hPa2, hPa3, hPa4, hPa5, hPa6, hPa7, hPa8, hPa9, hPa10, hPa11, hPa12, hPa13, hPa14⟩ := id hPa
  refine mx_C_of (ls0 := [some (.ref (pa)), some (.ref (rw_)), some (.int (nI (a))), none, none, none, none]) (by decide +kernel) rfl rfl (Nat.le_of_ble_eq_true rfl) rfl ?_
  refine mx_ic_m1 d_Pa_nextWish_0 ?_
  refine mx_is3 d_Pa_nextWish_1 ?_
  refine mx_in_0 d_Pa_nextWish_2 ?_
  refine mx_is4 d_Pa_nextWish_3 ?_
  refine mx_in_0 d_Pa_nextWish_5 ?_
  refine mx_is5 d_Pa_nextWish_6 ?_
  refine mx_loop (N := 8) (ls := fun b => [some (.ref (pa)), some (.ref (rw_)), some (.int (nI (a))), some (.int ((mtv (gs_nwQ W lv a b).1))), some (.int (nI ((gs_nwQ W lv a b).2))), some (.int (nI (b))), none]) (X := fun b => (t, S, I, P, J)) (fun b hb ih => ?_) ?_
  · try dsimp only
    refine mx_il5 d_Pa_nextWish_8 ?_
    refine mx_bip 8 d_Pa_nextWish_10 (by decide) ?_
    refine mx_icN_ge 61 d_Pa_nextWish_12 (by decide) (by omega) (by omega) (fun c_12 => absurd c_12 (by omega)) (fun c_12 => ?_)
    refine mx_al1 d_Pa_nextWish_15 ?_
    refine mx_bip 8 d_Pa_nextWish_16 (by decide) ?_
    refine mx_il2 d_Pa_nextWish_18 ?_
    refine mx_imulN d_Pa_nextWish_19 ?_
    refine mx_il5 d_Pa_nextWish_20 ?_
    refine mx_iaddN d_Pa_nextWish_22 ?_
    refine mx_cSN2i d_Pa_nextWish_23 (c_get (k := 8 * a + b) (by assumption) (by omega) (by omega)) ok_Vh_get ml_Pa_64 (by decide) (Nat.le_of_ble_eq_true rfl) ?_
    have hwb := (hW b (by omega)).1
    have q9 := (gs_nwQ_is W lv a (n := b) (by omega)).2
    refine mx_ti (y := nI (W a b)) ((hW b (by omega)).2) ?_
    refine mx_is6 d_Pa_nextWish_26 ?_
    refine mx_il6 d_Pa_nextWish_28 ?_
    refine mx_il4 d_Pa_nextWish_30 ?_
    refine mx_icN_le 55 d_Pa_nextWish_32 (by decide) (by omega) (by omega) (fun c_32 => ?_) (fun c_32 => ?_)
    · skip
      have k0 : gs_nwQ W lv a (b + 1) = gs_nwQ W lv a b := by rw [gs_nwQ_s, if_neg (by omega)]
      refine mx_iN5 d_Pa_nextWish_55 ?_
      refine mx_goto 8 d_Pa_nextWish_58 (by decide) ?_
      refine mx_dn6 ?_
      have e3 : (mtv (gs_nwQ W lv a b).1) = (mtv (gs_nwQ W lv a (b + 1)).1) := by first | (rw [k0]; done) | (rw [k0]; exact (mtv_lt (by omega)).symm)
      refine mx_lsc (congrArg (fun z9 => ([some (.ref (pa)), some (.ref (rw_)), some (.int (nI (a))), some (.int (z9)), some (.int (nI ((gs_nwQ W lv a b).2))), some (.int (nI (b + 1))), none] : List (Option Value))) e3) ?_
      have e4 : nI ((gs_nwQ W lv a b).2) = nI ((gs_nwQ W lv a (b + 1)).2) := by rw [k0]
      refine mx_lsc (congrArg (fun z9 => ([some (.ref (pa)), some (.ref (rw_)), some (.int (nI (a))), some (.int ((mtv (gs_nwQ W lv a (b + 1)).1))), some (.int (z9)), some (.int (nI (b + 1))), none] : List (Option Value))) e4) ?_
      exact ih
    · skip
      refine mx_il6 d_Pa_nextWish_35 ?_
      refine mx_al0 d_Pa_nextWish_37 ?_
      refine mx_getR d_Pa_nextWish_38 fl_Pa_24 (by assumption) (by assumption) ?_
      refine mx_il2 d_Pa_nextWish_41 ?_
      refine mx_cSN2i d_Pa_nextWish_42 (c_get (k := a) (by assumption) (by omega) (by omega)) ok_Vh_get ml_Pa_64 (by decide) (Nat.le_of_ble_eq_true rfl) ?_
      refine mx_ti (y := nI (lv)) (hL) ?_
      refine mx_icN_ge 55 d_Pa_nextWish_45 (by decide) (by omega) (by omega) (fun c_45 => ?_) (fun c_45 => ?_)
      · skip
        have k0 : gs_nwQ W lv a (b + 1) = gs_nwQ W lv a b := by rw [gs_nwQ_s, if_neg (by omega)]
        refine mx_iN5 d_Pa_nextWish_55 ?_
        refine mx_goto 8 d_Pa_nextWish_58 (by decide) ?_
        refine mx_dn6 ?_
        have e3 : (mtv (gs_nwQ W lv a b).1) = (mtv (gs_nwQ W lv a (b + 1)).1) := by first | (rw [k0]; done) | (rw [k0]; exact (mtv_lt (by omega)).symm)
        refine mx_lsc (congrArg (fun z9 => ([some (.ref (pa)), some (.ref (rw_)), some (.int (nI (a))), some (.int (z9)), some (.int (nI ((gs_nwQ W lv a b).2))), some (.int (nI (b + 1))), none] : List (Option Value))) e3) ?_
        have e4 : nI ((gs_nwQ W lv a b).2) = nI ((gs_nwQ W lv a (b + 1)).2) := by rw [k0]
        refine mx_lsc (congrArg (fun z9 => ([some (.ref (pa)), some (.ref (rw_)), some (.int (nI (a))), some (.int ((mtv (gs_nwQ W lv a (b + 1)).1))), some (.int (z9)), some (.int (nI (b + 1))), none] : List (Option Value))) e4) ?_
        exact ih
      · skip
        have k0 : gs_nwQ W lv a (b + 1) = (b, W a b) := by rw [gs_nwQ_s, if_pos (by omega)]
        refine mx_il5 d_Pa_nextWish_48 ?_
        refine mx_is3 d_Pa_nextWish_50 ?_
        refine mx_il6 d_Pa_nextWish_51 ?_
        refine mx_is4 d_Pa_nextWish_53 ?_
        refine mx_iN5 d_Pa_nextWish_55 ?_
        refine mx_goto 8 d_Pa_nextWish_58 (by decide) ?_
        refine mx_dn6 ?_
        have e3 : nI (b) = (mtv (gs_nwQ W lv a (b + 1)).1) := by first | (rw [k0]; done) | (rw [k0]; exact (mtv_lt (by omega)).symm)
        refine mx_lsc (congrArg (fun z9 => ([some (.ref (pa)), some (.ref (rw_)), some (.int (nI (a))), some (.int (z9)), some (.int (nI (W a b))), some (.int (nI (b + 1))), none] : List (Option Value))) e3) ?_
        have e4 : nI (W a b) = nI ((gs_nwQ W lv a (b + 1)).2) := by rw [k0]
        refine mx_lsc (congrArg (fun z9 => ([some (.ref (pa)), some (.ref (rw_)), some (.int (nI (a))), some (.int ((mtv (gs_nwQ W lv a (b + 1)).1))), some (.int (z9)), some (.int (nI (b + 1))), none] : List (Option Value))) e4) ?_
        exact ih
  · try dsimp only
    refine mx_il5 d_Pa_nextWish_8 ?_
    refine mx_bip 8 d_Pa_nextWish_10 (by decide) ?_
    refine mx_icN_ge 61 d_Pa_nextWish_12 (by decide) (by omega) (by omega) (fun c_12 => ?_) (fun c_12 => absurd c_12 (by omega))
    refine mx_al0 d_Pa_nextWish_61 ?_
    refine mx_getR d_Pa_nextWish_62 fl_Pa_24 (by assumption) (by assumption) ?_
    refine mx_il2 d_Pa_nextWish_65 ?_
    refine mx_il4 d_Pa_nextWish_66 ?_
    refine mx_cSN3v d_Pa_nextWish_68 (c_put (k := a) (by assumption) (by omega) (by omega)) ok_Vh_put ml_Pa_56 (by decide) (Nat.le_of_ble_eq_true rfl) ?_
    refine mx_il3 d_Pa_nextWish_71 ?_
    exact mx_iret d_Pa_nextWish_72 rfl (mx_ri_of rfl)
theorem c_Pa_answer (hSa : S ra = some (1, 64)) (hSm : S rm = some (1, 8)) (hSn : S rn = some (1, 8)) (n1 : rm ≠ rn) (ha : a < 8) (hb : b < 8) (h1 : ∀ j, j < 8 → I rm j = mtv (mt j) ∧ I rn j = mtv (an j)) (hA : ∀ z, z < 8 → A b z < 100 ∧ I ra (8 * b + z) = nI (A b z)) : mx_C l E M_Pa_answer 1 0 0 [.ref (ra), .ref (rm), .ref (rn), .int (nI (a)), .int (nI (b))] (t, S, I, P, J) (mx_sR none t S P J (fun K => mx_off (fun c => c = rm ∨ c = rn) I K ∧ ∀ j, j < 8 → K rm j = mtv (gs_mt A mt an a b j) ∧ K rn j = mtv (gs_an A an a b j))) := by
  refine mx_C_of (ls0 := [some (.ref (ra)), some (.ref (rm)), some (.ref (rn)), some (.int (nI (a))), some (.int (nI (b))), none, none]) (by decide +kernel) rfl rfl (Nat.le_of_ble_eq_true rfl) rfl ?_
  refine mx_al2 d_Pa_answer_0 ?_
  refine mx_il4 d_Pa_answer_1 ?_
  refine mx_cSN2i d_Pa_answer_3 (c_get (k := b) (by assumption) (by omega) (by omega)) ok_Vh_get ml_Pa_64 (by decide) (Nat.le_of_ble_eq_true rfl) ?_
  refine mx_ti (y := (mtv (an b))) ((h1 b hb).2) ?_
  refine mx_is5 d_Pa_answer_6 ?_
  refine mx_il5 d_Pa_answer_8 ?_
  refine mx_ic_m1 d_Pa_answer_10 ?_
  refine mx_icmp_ne 18 d_Pa_answer_11 (by decide) (fun c_11 => ?_) (fun c_11 => ?_)
  · skip
    have u8 := mtv_n c_11
    rw [mtv_lt u8]
    have q2 := (hA (an b) u8).1
    refine mx_al0 d_Pa_answer_18 ?_
    refine mx_bip 8 d_Pa_answer_19 (by decide) ?_
    refine mx_il4 d_Pa_answer_21 ?_
    refine mx_imulN d_Pa_answer_23 ?_
    refine mx_il5 d_Pa_answer_24 ?_
    refine mx_iaddN d_Pa_answer_26 ?_
    refine mx_cSN2i d_Pa_answer_27 (c_get (k := 8 * b + an b) (by assumption) (by omega) (by omega)) ok_Vh_get ml_Pa_64 (by decide) (Nat.le_of_ble_eq_true rfl) ?_
    refine mx_ti (y := nI (A b (an b))) ((hA (an b) u8).2) ?_
    refine mx_is6 d_Pa_answer_30 ?_
    refine mx_al0 d_Pa_answer_32 ?_
    refine mx_bip 8 d_Pa_answer_33 (by decide) ?_
    refine mx_il4 d_Pa_answer_35 ?_
    refine mx_imulN d_Pa_answer_37 ?_
    refine mx_il3 d_Pa_answer_38 ?_
    refine mx_iaddN d_Pa_answer_39 ?_
    refine mx_cSN2i d_Pa_answer_40 (c_get (k := 8 * b + a) (by assumption) (by omega) (by omega)) ok_Vh_get ml_Pa_64 (by decide) (Nat.le_of_ble_eq_true rfl) ?_
    have q1 := (hA a ha).1
    refine mx_ti (y := nI (A b a)) ((hA a ha).2) ?_
    refine mx_il6 d_Pa_answer_43 ?_
    refine mx_icN_le 75 d_Pa_answer_45 (by decide) (by omega) (by omega) (fun c_45 => ?_) (fun c_45 => ?_)
    · skip
      have tk : gs_tk A an a b = false := gs_tk_f (by first | (rw [if_pos u8]; omega) | (rw [if_neg u8]; omega))
      exact mx_vret d_Pa_answer_75 rfl (mx_sR_of rfl ⟨mx_off.rf, an_0 h1 tk⟩)
    · skip
      have tk : gs_tk A an a b = true := gs_tk_t (by first | (rw [if_pos u8]; omega) | (rw [if_neg u8]; omega))
      refine mx_il5 d_Pa_answer_48 ?_
      refine mx_ic_m1 d_Pa_answer_50 ?_
      refine mx_icmp_eq 61 d_Pa_answer_51 (by decide) (fun c_51 => absurd c_51 (nI_m1 u8)) (fun c_51 => ?_)
      refine mx_al1 d_Pa_answer_54 ?_
      refine mx_il5 d_Pa_answer_55 ?_
      refine mx_ic_m1 d_Pa_answer_57 ?_
      refine mx_cSN3v d_Pa_answer_58 (c_put (k := an b) (by assumption) (by omega) (by omega)) ok_Vh_put ml_Pa_56 (by decide) (Nat.le_of_ble_eq_true rfl) ?_
      refine mx_al1 d_Pa_answer_61 ?_
      refine mx_il3 d_Pa_answer_62 ?_
      refine mx_il4 d_Pa_answer_63 ?_
      refine mx_cSN3v d_Pa_answer_65 (c_put (k := a) (by assumption) (by omega) (by omega)) ok_Vh_put ml_Pa_56 (by decide) (Nat.le_of_ble_eq_true rfl) ?_
      refine mx_al2 d_Pa_answer_68 ?_
      refine mx_il4 d_Pa_answer_69 ?_
      refine mx_il3 d_Pa_answer_71 ?_
      refine mx_cSN3v d_Pa_answer_72 (c_put (k := b) (by assumption) (by omega) (by omega)) ok_Vh_put ml_Pa_56 (by decide) (Nat.le_of_ble_eq_true rfl) ?_
      exact mx_vret d_Pa_answer_75 rfl (mx_sR_of rfl ⟨fun c hc => (mx_up_ne (fun e => hc (Or.inr e))).trans ((mx_up_ne (fun e => hc (Or.inl e))).trans (mx_up_ne (fun e => hc (Or.inl e)))), an_2 n1 ha hb h1 tk u8⟩)
  · skip
    have u8 := mtv_e c_11
    refine mx_in_0 d_Pa_answer_14 ?_
    refine mx_goto 30 d_Pa_answer_15 (by decide) ?_
    refine mx_ti (y := nI (0)) (rfl) ?_
    refine mx_is6 d_Pa_answer_30 ?_
    refine mx_al0 d_Pa_answer_32 ?_
    refine mx_bip 8 d_Pa_answer_33 (by decide) ?_
    refine mx_il4 d_Pa_answer_35 ?_
    refine mx_imulN d_Pa_answer_37 ?_
    refine mx_il3 d_Pa_answer_38 ?_
    refine mx_iaddN d_Pa_answer_39 ?_
    refine mx_cSN2i d_Pa_answer_40 (c_get (k := 8 * b + a) (by assumption) (by omega) (by omega)) ok_Vh_get ml_Pa_64 (by decide) (Nat.le_of_ble_eq_true rfl) ?_
    have q1 := (hA a ha).1
    refine mx_ti (y := nI (A b a)) ((hA a ha).2) ?_
    refine mx_il6 d_Pa_answer_43 ?_
    refine mx_icN_le 75 d_Pa_answer_45 (by decide) (by omega) (by omega) (fun c_45 => ?_) (fun c_45 => ?_)
    · skip
      have tk : gs_tk A an a b = false := gs_tk_f (by first | (rw [if_pos u8]; omega) | (rw [if_neg u8]; omega))
      exact mx_vret d_Pa_answer_75 rfl (mx_sR_of rfl ⟨mx_off.rf, an_0 h1 tk⟩)
    · skip
      have tk : gs_tk A an a b = true := gs_tk_t (by first | (rw [if_pos u8]; omega) | (rw [if_neg u8]; omega))
      refine mx_il5 d_Pa_answer_48 ?_
      refine mx_ic_m1 d_Pa_answer_50 ?_
      refine mx_icmp_eq 61 d_Pa_answer_51 (by decide) (fun c_51 => ?_) (fun c_51 => absurd c_51 (fun z => z (mtv_ge u8)))
      refine mx_al1 d_Pa_answer_61 ?_
      refine mx_il3 d_Pa_answer_62 ?_
      refine mx_il4 d_Pa_answer_63 ?_
      refine mx_cSN3v d_Pa_answer_65 (c_put (k := a) (by assumption) (by omega) (by omega)) ok_Vh_put ml_Pa_56 (by decide) (Nat.le_of_ble_eq_true rfl) ?_
      refine mx_al2 d_Pa_answer_68 ?_
      refine mx_il4 d_Pa_answer_69 ?_
      refine mx_il3 d_Pa_answer_71 ?_
      refine mx_cSN3v d_Pa_answer_72 (c_put (k := b) (by assumption) (by omega) (by omega)) ok_Vh_put ml_Pa_56 (by decide) (Nat.le_of_ble_eq_true rfl) ?_
      exact mx_vret d_Pa_answer_75 rfl (mx_sR_of rfl ⟨fun c hc => (mx_up_ne (fun e => hc (Or.inr e))).trans (mx_up_ne (fun e => hc (Or.inl e))), an_1 n1 ha hb h1 tk u8⟩)
theorem c_Pa_ask (hPa : pa_ok S P pa) (hSw : S rw_ = some (1, 64)) (hSa : S ra = some (1, 64)) (hSm : S rm = some (1, 8)) (hSn : S rn = some (1, 8)) (n1 : rm ≠ rn) (n2 : rm ≠ pa + 5) (n3 : rn ≠ pa + 5) (n4 : rw_ ≠ rm) (n5 : rw_ ≠ rn) (n6 : rw_ ≠ pa + 5) (n7 : ra ≠ rm) (n8 : ra ≠ rn) (n9 : ra ≠ pa + 5) (hW : ∀ a b, a < 8 → b < 8 → W a b < 100 ∧ I rw_ (8 * a + b) = nI (W a b)) (hA : ∀ a b, a < 8 → b < 8 → A b a < 100 ∧ I ra (8 * b + a) = nI (A b a))  : mx_C l E M_Pa_ask 2 0 0 [.ref (pa), .ref (rw_), .ref (ra), .ref (rm), .ref (rn)] (t, S, I, P, J) (mx_sR none t S P J (fun K => mx_off (fun c => c = rm ∨ c = rn ∨ c = pa + 5) I K ∧ (∀ a, a < 8 → K rm a = mtv ((gs_E W A).1 a)) ∧ ∀ b, b < 8 → K rn b = mtv ((gs_E W A).2.1 b))) := by
  obtain ⟨hPa0, hPa1, hPa2, hPa3, hPa4, hPa5, hPa6, hPa7, hPa8, hPa9, hPa10, hPa11, hPa12, hPa13, hPa14⟩ := id hPa
  have hn := gs_N64
  refine mx_C_of (ls0 := [some (.ref (pa)), some (.ref (rw_)), some (.ref (ra)), some (.ref (rm)), some (.ref (rn)), none, none, none, none]) (by decide +kernel) rfl rfl (Nat.le_of_ble_eq_true rfl) rfl ?_
  refine mx_al3 d_Pa_ask_0 ?_
  refine mx_ic_m1 d_Pa_ask_1 ?_
  refine mx_cSN2v d_Pa_ask_2 (c_fill (by assumption) (by omega)) ok_Vh_fill ml_Pa_44 (by decide) (Nat.le_of_ble_eq_true rfl) ?_
  refine mx_al4 d_Pa_ask_5 ?_
  refine mx_ic_m1 d_Pa_ask_7 ?_
  refine mx_cSN2v d_Pa_ask_8 (c_fill (by assumption) (by omega)) ok_Vh_fill ml_Pa_44 (by decide) (Nat.le_of_ble_eq_true rfl) ?_
  refine mx_al0 d_Pa_ask_11 ?_
  refine mx_getR d_Pa_ask_12 fl_Pa_24 (by assumption) (by assumption) ?_
  refine mx_sip 1000 d_Pa_ask_15 (by decide) ?_
  refine mx_cSN2v d_Pa_ask_18 (c_fill (by assumption) (by omega)) ok_Vh_fill ml_Pa_44 (by decide) (Nat.le_of_ble_eq_true rfl) ?_
  refine mx_in_1 d_Pa_ask_21 ?_
  refine mx_is5 d_Pa_ask_22 ?_
  refine mx_in_0 d_Pa_ask_24 ?_
  refine mx_is6 d_Pa_ask_25 ?_
  refine mx_lsc (congrArg (fun z9 => ([some (.ref (pa)), some (.ref (rw_)), some (.ref (ra)), some (.ref (rm)), some (.ref (rn)), some (.int (z9)), some (.int (nI (0))), none, none] : List (Option Value))) (rfl)) ?_
  refine mx_loopX (α := (mx_I)) (N := gs_N) (a0 := (vs_fill (vs_fill (vs_fill I (rm) 8 ((-1))) (rn) 8 ((-1))) (pa + 5) 8 (nI (1000)))) (fun r z9 => gq_inv I z9 rm rn (pa + 5) (gs_it W A r).1) (ls := fun r z9 => [some (.ref (pa)), some (.ref (rw_)), some (.ref (ra)), some (.ref (rm)), some (.ref (rn)), some (.int (bI ((gs_it W A r).2))), some (.int (nI (r))), none, none]) (X := fun r z9 => (t, S, z9, P, J)) (gq_0 n1 n2 n3) (fun r hr z9 hinv ih => ?_) (fun z9 hinv => ?_)
  · skip
    obtain ⟨K, hz9⟩ : ∃ q, q = z9 := ⟨_, rfl⟩
    subst hz9
    try dsimp only at hinv ih ⊢
    refine mx_il6 d_Pa_ask_27 ?_
    refine mx_bip 64 d_Pa_ask_29 (by decide) ?_
    refine mx_icN_ge 107 d_Pa_ask_31 (by decide) (by omega) (by omega) (fun c_31 => absurd c_31 (by omega)) (fun c_31 => ?_)
    refine mx_il5 d_Pa_ask_34 ?_
    refine mx_ifB_eq 107 d_Pa_ask_36 (by decide) (fun c_36 => ?_) (fun c_36 => ?_)
    · skip
      exact mx_vret d_Pa_ask_107 rfl (mx_sR_of rfl ⟨hinv.1, by first | (have e := gs_E_fin c_36; rw [← e.1, ← e.2]; exact ⟨hinv.2.1, hinv.2.2.1⟩) | (rw [gs_E_d]; exact ⟨hinv.2.1, hinv.2.2.1⟩)⟩)
    · skip
      refine mx_in_0 d_Pa_ask_39 ?_
      refine mx_is5 d_Pa_ask_40 ?_
      refine mx_in_0 d_Pa_ask_42 ?_
      refine mx_is7 d_Pa_ask_43 ?_
      refine mx_lsc (congrArg (fun z9 => ([some (.ref (pa)), some (.ref (rw_)), some (.ref (ra)), some (.ref (rm)), some (.ref (rn)), some (.int (z9)), some (.int (nI (r))), some (.int (nI (0))), none] : List (Option Value))) (rfl)) ?_
      have ih27 := ih
      have hinv27 := hinv
      refine mx_loopX (α := (mx_I)) (N := 8) (a0 := K) (fun a z9 => gq_inv I z9 rm rn (pa + 5) (gs_rd W A (gs_it W A r).1 a)) (ls := fun a z9 => [some (.ref (pa)), some (.ref (rw_)), some (.ref (ra)), some (.ref (rm)), some (.ref (rn)), some (.int (bI (gs_fl W A (gs_it W A r).1 a))), some (.int (nI (r))), some (.int (nI (a))), none]) (X := fun a z9 => (t, S, z9, P, J)) (hinv) (fun a ha z9 hinv ih => ?_) (fun z9 hinv => ?_)
      · skip
        obtain ⟨K, hz9⟩ : ∃ q, q = z9 := ⟨_, rfl⟩
        subst hz9
        try dsimp only at hinv ih ⊢
        refine mx_il7 d_Pa_ask_45 ?_
        refine mx_bip 8 d_Pa_ask_47 (by decide) ?_
        refine mx_icN_ge 101 d_Pa_ask_49 (by decide) (by omega) (by omega) (fun c_49 => absurd c_49 (by omega)) (fun c_49 => ?_)
        refine mx_al3 d_Pa_ask_52 ?_
        refine mx_il7 d_Pa_ask_53 ?_
        refine mx_cSN2i d_Pa_ask_55 (c_get (k := a) (by assumption) (by omega) (by omega)) ok_Vh_get ml_Pa_64 (by decide) (Nat.le_of_ble_eq_true rfl) ?_
        refine mx_ti (y := (mtv ((gs_rd W A (gs_it W A r).1 a).1 a))) (hinv.2.1 a (by omega)) ?_
        refine mx_ic_m1 d_Pa_ask_58 ?_
        refine mx_icmp_ne 72 d_Pa_ask_59 (by decide) (fun c_59 => ?_) (fun c_59 => ?_)
        · skip
          have u8 := mtv_n c_59
          obtain ⟨k1, k0⟩ := gs_turn_1 (W := W) (A := A) u8
          refine mx_ic_m1 d_Pa_ask_72 ?_
          refine mx_is8 d_Pa_ask_73 ?_
          refine mx_il8 d_Pa_ask_75 ?_
          refine mx_ic_m1 d_Pa_ask_77 ?_
          refine mx_icmp_eq 95 d_Pa_ask_78 (by decide) (fun c_78 => ?_) (fun c_78 => absurd c_78 (fun z => z rfl))
          refine mx_iN7 d_Pa_ask_95 ?_
          refine mx_goto 45 d_Pa_ask_98 (by decide) ?_
          refine mx_dn8 ?_
          have e5 : bI (gs_fl W A (gs_it W A r).1 a) = bI (gs_fl W A (gs_it W A r).1 (a + 1)) := by rw [gs_fl_s, k0]; first | (rw [Bool.or_false]; done) | (rw [Bool.or_true]; rfl)
          refine mx_lsc (congrArg (fun z9 => ([some (.ref (pa)), some (.ref (rw_)), some (.ref (ra)), some (.ref (rm)), some (.ref (rn)), some (.int (z9)), some (.int (nI (r))), some (.int (nI (a + 1))), none] : List (Option Value))) e5) ?_
          exact ih K (by rw [gs_rd_s, k1]; exact hinv)
        · skip
          have u8 := mtv_e c_59
          have hok : gs_ok W (gs_rd W A (gs_it W A r).1 a) := gs_ok_rd (gs_ok_it W A r) (by omega)
          refine mx_al0 d_Pa_ask_62 ?_
          refine mx_al1 d_Pa_ask_63 ?_
          refine mx_il7 d_Pa_ask_64 ?_
          refine mx_cV2i d_Pa_ask_66 (c_Pa_nextWish hPa hSw (a := a) (lv := (gs_rd W A (gs_it W A r).1 a).2.2 a) (W := W) (by omega) (hinv.2.2.2 a (by omega)) (hok.2.2 a) (fun b hb => by rw [hinv.1 rw_ (by show ¬ (rw_ = rm ∨ rw_ = rn ∨ rw_ = pa + 5); omega)]; exact hW a b (by omega) hb)) ok_Pa_nextWish ml_Pa_68 (by assumption) ⟨rfl, rfl⟩ (by decide) (Nat.le_of_ble_eq_true rfl) ?_
          refine mx_goto 73 d_Pa_ask_69 (by decide) ?_
          refine mx_is8 d_Pa_ask_73 ?_
          refine mx_il8 d_Pa_ask_75 ?_
          refine mx_ic_m1 d_Pa_ask_77 ?_
          refine mx_icmp_eq 95 d_Pa_ask_78 (by decide) (fun c_78 => ?_) (fun c_78 => ?_)
          · skip
            have v8 := mtv_e c_78
            obtain ⟨k1, k0⟩ := gs_turn_2 (W := W) (A := A) u8 v8
            refine mx_iN7 d_Pa_ask_95 ?_
            refine mx_goto 45 d_Pa_ask_98 (by decide) ?_
            refine mx_dn8 ?_
            have e5 : bI (gs_fl W A (gs_it W A r).1 a) = bI (gs_fl W A (gs_it W A r).1 (a + 1)) := by rw [gs_fl_s, k0]; first | (rw [Bool.or_false]; done) | (rw [Bool.or_true]; rfl)
            refine mx_lsc (congrArg (fun z9 => ([some (.ref (pa)), some (.ref (rw_)), some (.ref (ra)), some (.ref (rm)), some (.ref (rn)), some (.int (z9)), some (.int (nI (r))), some (.int (nI (a + 1))), none] : List (Option Value))) e5) ?_
            exact ih (mx_up K (pa + 5) (a) (nI ((gs_nw W ((gs_rd W A (gs_it W A r).1 a).2.2 a) a).2))) (by rw [gs_rd_s, k1]; exact gq_lv n2 n3 hinv)
          · skip
            have v8 := mtv_n c_78
            rw [mtv_lt v8]
            obtain ⟨k1, k0⟩ := gs_turn_3 (W := W) (A := A) u8 v8
            refine mx_in_1 d_Pa_ask_81 ?_
            refine mx_is5 d_Pa_ask_82 ?_
            refine mx_al2 d_Pa_ask_84 ?_
            refine mx_al3 d_Pa_ask_85 ?_
            refine mx_al4 d_Pa_ask_86 ?_
            refine mx_il7 d_Pa_ask_88 ?_
            refine mx_il8 d_Pa_ask_90 ?_
            refine mx_cS5vR d_Pa_ask_92 (c_Pa_answer hSa hSm hSn n1 (A := A) (mt := (gs_rd W A (gs_it W A r).1 a).1) (an := (gs_rd W A (gs_it W A r).1 a).2.1) (a := a) (b := (gs_nw W ((gs_rd W A (gs_it W A r).1 a).2.2 a) a).1) (by omega) (by omega) (fun j hj => ⟨(gq_lv n2 n3 hinv).2.1 j hj, (gq_lv n2 n3 hinv).2.2.1 j hj⟩) (fun z hz => by rw [mx_up_ne n9, hinv.1 ra (by show ¬ (ra = rm ∨ ra = rn ∨ ra = pa + 5); omega)]; exact hA z _ hz (by omega))) ok_Pa_answer ml_Pa_71 (by decide) (Nat.le_of_ble_eq_true rfl) (fun K2 hK2 => ?_)
            refine mx_iN7 d_Pa_ask_95 ?_
            refine mx_goto 45 d_Pa_ask_98 (by decide) ?_
            refine mx_dn8 ?_
            have e5 : nI (1) = bI (gs_fl W A (gs_it W A r).1 (a + 1)) := by rw [gs_fl_s, k0]; first | (rw [Bool.or_false]; done) | (rw [Bool.or_true]; rfl)
            refine mx_lsc (congrArg (fun z9 => ([some (.ref (pa)), some (.ref (rw_)), some (.ref (ra)), some (.ref (rm)), some (.ref (rn)), some (.int (z9)), some (.int (nI (r))), some (.int (nI (a + 1))), none] : List (Option Value))) e5) ?_
            exact ih K2 (by rw [gs_rd_s, k1]; exact gq_an n2 n3 (gq_lv n2 n3 hinv) hK2.1 hK2.2)
      · skip
        obtain ⟨K, hz9⟩ : ∃ q, q = z9 := ⟨_, rfl⟩
        subst hz9
        try dsimp only at hinv ⊢
        refine mx_il7 d_Pa_ask_45 ?_
        refine mx_bip 8 d_Pa_ask_47 (by decide) ?_
        refine mx_icN_ge 101 d_Pa_ask_49 (by decide) (by omega) (by omega) (fun c_49 => ?_) (fun c_49 => absurd c_49 (by omega))
        refine mx_iN6 d_Pa_ask_101 ?_
        refine mx_goto 27 d_Pa_ask_104 (by decide) ?_
        refine mx_dn7 ?_
        have e5 : bI (gs_fl W A (gs_it W A r).1 8) = bI ((gs_it W A (r + 1)).2) := by rw [gs_it_s, if_pos c_36]
        refine mx_lsc (congrArg (fun z9 => ([some (.ref (pa)), some (.ref (rw_)), some (.ref (ra)), some (.ref (rm)), some (.ref (rn)), some (.int (z9)), some (.int (nI (r + 1))), none, none] : List (Option Value))) e5) ?_
        exact ih K (by rw [gs_it_s, if_pos c_36]; dsimp only; exact hinv)
  · skip
    obtain ⟨K, hz9⟩ : ∃ q, q = z9 := ⟨_, rfl⟩
    subst hz9
    try dsimp only at hinv ⊢
    refine mx_il6 d_Pa_ask_27 ?_
    refine mx_bip 64 d_Pa_ask_29 (by decide) ?_
    refine mx_icN_ge 107 d_Pa_ask_31 (by decide) (by omega) (by omega) (fun c_31 => ?_) (fun c_31 => absurd c_31 (by omega))
    exact mx_vret d_Pa_ask_107 rfl (mx_sR_of rfl ⟨hinv.1, by first | (have e := gs_E_fin c_36; rw [← e.1, ← e.2]; exact ⟨hinv.2.1, hinv.2.2.1⟩) | (rw [gs_E_d]; exact ⟨hinv.2.1, hinv.2.2.1⟩)⟩)
theorem c_Pa_askByHosts (hPa : pa_ok S P pa) (hR : pa_rel I pa W A H G)  : mx_C l E M_Pa_askByHosts 3 0 0 [.ref (pa)] (t, S, I, P, J) (mx_sR none t S P J (fun K => mx_off (fun c => c = pa + 3 ∨ c = pa + 4 ∨ c = pa + 5) I K ∧ (∀ a, a < 8 → K (pa + 3) a = mtv ((gs_E W A).1 a)) ∧ ∀ b, b < 8 → K (pa + 4) b = mtv ((gs_E W A).2.1 b))) := by
  obtain ⟨hPa0, hPa1, hPa2, hPa3, hPa4, hPa5, hPa6, hPa7, hPa8, hPa9, hPa10, hPa11, hPa12, hPa13, hPa14⟩ := id hPa
  refine mx_C_of (ls0 := [some (.ref (pa))]) (by decide +kernel) rfl rfl (Nat.le_of_ble_eq_true rfl) rfl ?_
  refine mx_al0 d_Pa_askByHosts_0 ?_
  refine mx_al0 d_Pa_askByHosts_1 ?_
  refine mx_getR d_Pa_askByHosts_2 fl_Pa_9 (by assumption) (by assumption) ?_
  refine mx_al0 d_Pa_askByHosts_5 ?_
  refine mx_getR d_Pa_askByHosts_6 fl_Pa_15 (by assumption) (by assumption) ?_
  refine mx_al0 d_Pa_askByHosts_9 ?_
  refine mx_getR d_Pa_askByHosts_10 fl_Pa_18 (by assumption) (by assumption) ?_
  refine mx_al0 d_Pa_askByHosts_13 ?_
  refine mx_getR d_Pa_askByHosts_14 fl_Pa_21 (by assumption) (by assumption) ?_
  refine mx_cV4vR d_Pa_askByHosts_17 (c_Pa_ask hPa (rw_ := pa + 1) (ra := pa + 2) (rm := pa + 3) (rn := pa + 4) (W := W) (A := A) (by assumption) (by assumption) (by assumption) (by assumption) (by omega) (by omega) (by omega) (by omega) (by omega) (by omega) (by omega) (by omega) (by omega) (fun a b ha hb => (hR.2.2 a b ha hb).1) (fun a b ha hb => (hR.2.2 a b ha hb).2)) ok_Pa_ask ml_Pa_60 (by assumption) ⟨rfl, rfl⟩ (by decide) (Nat.le_of_ble_eq_true rfl) (fun K hK => ?_)
  exact mx_vret d_Pa_askByHosts_20 rfl (mx_sR_of rfl ⟨fun c hc => hK.1 c (fun z => hc (by omega)), hK.2⟩)
theorem c_Pa_askByGuests (hPa : pa_ok S P pa) (hR : pa_rel I pa W A H G)  : mx_C l E M_Pa_askByGuests 3 0 0 [.ref (pa)] (t, S, I, P, J) (mx_sR none t S P J (fun K => mx_off (fun c => c = pa + 3 ∨ c = pa + 4 ∨ c = pa + 5) I K ∧ (∀ a, a < 8 → K (pa + 4) a = mtv ((gs_E A W).1 a)) ∧ ∀ b, b < 8 → K (pa + 3) b = mtv ((gs_E A W).2.1 b))) := by
  obtain ⟨hPa0, hPa1, hPa2, hPa3, hPa4, hPa5, hPa6, hPa7, hPa8, hPa9, hPa10, hPa11, hPa12, hPa13, hPa14⟩ := id hPa
  refine mx_C_of (ls0 := [some (.ref (pa))]) (by decide +kernel) rfl rfl (Nat.le_of_ble_eq_true rfl) rfl ?_
  refine mx_al0 d_Pa_askByGuests_0 ?_
  refine mx_al0 d_Pa_askByGuests_1 ?_
  refine mx_getR d_Pa_askByGuests_2 fl_Pa_15 (by assumption) (by assumption) ?_
  refine mx_al0 d_Pa_askByGuests_5 ?_
  refine mx_getR d_Pa_askByGuests_6 fl_Pa_9 (by assumption) (by assumption) ?_
  refine mx_al0 d_Pa_askByGuests_9 ?_
  refine mx_getR d_Pa_askByGuests_10 fl_Pa_21 (by assumption) (by assumption) ?_
  refine mx_al0 d_Pa_askByGuests_13 ?_
  refine mx_getR d_Pa_askByGuests_14 fl_Pa_18 (by assumption) (by assumption) ?_
  refine mx_cV4vR d_Pa_askByGuests_17 (c_Pa_ask hPa (rw_ := pa + 2) (ra := pa + 1) (rm := pa + 4) (rn := pa + 3) (W := A) (A := W) (by assumption) (by assumption) (by assumption) (by assumption) (by omega) (by omega) (by omega) (by omega) (by omega) (by omega) (by omega) (by omega) (by omega) (fun a b ha hb => (hR.2.2 b a hb ha).2) (fun a b ha hb => (hR.2.2 b a hb ha).1)) ok_Pa_ask ml_Pa_60 (by assumption) ⟨rfl, rfl⟩ (by decide) (Nat.le_of_ble_eq_true rfl) (fun K hK => ?_)
  exact mx_vret d_Pa_askByGuests_20 rfl (mx_sR_of rfl ⟨fun c hc => hK.1 c (fun z => hc (by omega)), hK.2⟩)
def sp_hostBest (m : Nat → Int32) (H G : Nat) (v : Int32) : Nat × Int32 := if vs_isN v H then (0, mtv ((gs_E (WW m H G) (LW m H G)).1 v.toNatClampNeg)) else (1, nI 0)
def sp_guestBest (m : Nat → Int32) (H G : Nat) (v : Int32) : Nat × Int32 := if vs_isN v H then (0, mtv ((gs_E (LW m H G) (WW m H G)).2.1 v.toNatClampNeg)) else (1, nI 0)
theorem pa_fin {x : Nat} {K1 K2 : mx_I} (h1 : pa_inv I K1 (x + 1) m H G H 0) (h2 : mx_off (fun c => c = x + 1 + 3 ∨ c = x + 1 + 4 ∨ c = x + 1 + 5) K1 K2) : mx_off (fun c => x + 1 ≤ c ∧ c ≤ x + 8) I K2 := fun c hc => by
  have hc : ¬ (x + 1 ≤ c ∧ c ≤ x + 8) := hc
  rw [h2 c (by show ¬ (c = x + 1 + 3 ∨ c = x + 1 + 4 ∨ c = x + 1 + 5); omega), h1.1 c (by show ¬ (c = x + 1 ∨ c = x + 1 + 1 ∨ c = x + 1 + 2); omega)]
theorem c_Vh_hostBest (htr : l.stackTraces = false) (hV : vh_ok S P x) (hSt : st_ok S P (x + 23)) (hSr : st_rel I (x + 23) m) (hH : m 3 = nI H) (hH8 : H ≤ 8) (hG : m 4 = nI G) (hG8 : G ≤ 8) (hPa : pa_ok S P (x + 1)) (hr : rk9 m) {v : Int32} : mx_C l E M_Vh_hostBest 7 1 6 [.ref (x), .int (v)] (t, S, I, P, J) (mx_pR (fun _ => "java/lang/IndexOutOfBoundsException") (sp_hostBest m H G v) t S P J (fun K => mx_off (fun c => x + 1 ≤ c ∧ c ≤ x + 8) I K)) := by
  obtain ⟨hV0, hVp0, hVp1, hVp2, hVp3, hVp4, hVp5, hVp7, hVp8, hVp9, hVp10, hVp11, hVp12, hVs15, hVs16, hVs68⟩ := id hV
  obtain ⟨hC0, hC1, hC2, hC3, hC4, hC5, hC6, hD1, hD2, hD3, hD4, hPe, hLo⟩ := id hSt
  obtain ⟨hPr, u0, u1, u2, u3, u4, u5, u6, u7, u8⟩ := id hSr
  obtain ⟨hA0, hA1, hA2, hA3, hA4, hA5, hA6, hA7, hB1, hB2, hB3, hB4, hB5, hB6, hB7⟩ := id hPe
  obtain ⟨r0, r1, r2, r3, r4, r5, r6, r7, r8⟩ := id hPr
  have hPz := hPa.1
  have hPy := hPa.2.2.2.1
  have hPx := hPa.2.2.2.2.2.2.2.2.2.2.1
  refine mx_C_of (ls0 := [some (.ref (x)), some (.int (v))]) (by decide +kernel) rfl rfl (Nat.le_of_ble_eq_true rfl) rfl ?_
  refine mx_al0 d_Vh_hostBest_0 ?_
  refine mx_il1 d_Vh_hostBest_1 ?_
  refine mx_nV1 d_Vh_hostBest_2 (c_needHost htr hV hSt hSr hH hH8) ok_Vh_needHost ml_Vh_159 (by assumption) ⟨rfl, rfl⟩ rfl (by decide) (by decide) (by decide) (Nat.le_of_ble_eq_true rfl) (fun hb2 t9 ht => mx_pR_x ht 0 (by simp_all [sp_hostBest]) rfl mx_off.rf) (fun hb2 => ?_)
  obtain ⟨h, hhL, rfl⟩ := vs_isN_of (by omega) hb2
  have hhc : (nI h).toNatClampNeg = h := nI_clamp (by omega)
  have hhL8 : h < 8 := by omega
  refine mx_al0 d_Vh_hostBest_5 ?_
  refine mx_getR d_Vh_hostBest_6 fl_Vh_16 (by assumption) (by assumption) ?_
  refine mx_al0 d_Vh_hostBest_9 ?_
  refine mx_getR d_Vh_hostBest_10 fl_Vh_51 (by assumption) (by assumption) ?_
  refine mx_getR d_Vh_hostBest_13 fl_Vh_162 (by assumption) (by assumption) ?_
  refine mx_cV1vR d_Vh_hostBest_16 (c_Pa_learn hPa hPe hPr hr hH hH8 hG hG8 (by omega)) ok_Pa_learn ml_Vh_296 (by assumption) ⟨rfl, rfl⟩ (by decide) (Nat.le_of_ble_eq_true rfl) (fun K1 hK1 => ?_)
  refine mx_al0 d_Vh_hostBest_19 ?_
  refine mx_getR d_Vh_hostBest_20 fl_Vh_16 (by assumption) (by assumption) ?_
  refine mx_cV0vR d_Vh_hostBest_23 (c_Pa_askByHosts hPa (pa_inv_end hr hK1)) ok_Pa_askByHosts ml_Vh_300 (by assumption) ⟨rfl, rfl⟩ (by decide) (Nat.le_of_ble_eq_true rfl) (fun K2 hK2 => ?_)
  refine mx_al0 d_Vh_hostBest_26 ?_
  refine mx_getR d_Vh_hostBest_27 fl_Vh_16 (by assumption) (by assumption) ?_
  refine mx_getR d_Vh_hostBest_30 fl_Vh_303 (by assumption) (by assumption) ?_
  refine mx_il1 d_Vh_hostBest_33 ?_
  refine mx_cS2i d_Vh_hostBest_34 (c_get (k := h) (by assumption) (by omega) (by omega)) ok_Vh_get ml_Vh_171 (by decide) (Nat.le_of_ble_eq_true rfl) ?_
  refine mx_ti (y := (mtv ((gs_E (WW m H G) (LW m H G)).1 h))) ((hK2.2.1 h (by omega))) ?_
  exact mx_iret d_Vh_hostBest_37 rfl (mx_pR_i (by simp [sp_hostBest, *]) (pa_fin hK1 hK2.1))
theorem c_Vh_guestBest (htr : l.stackTraces = false) (hV : vh_ok S P x) (hSt : st_ok S P (x + 23)) (hSr : st_rel I (x + 23) m) (hH : m 3 = nI H) (hH8 : H ≤ 8) (hG : m 4 = nI G) (hG8 : G ≤ 8) (hPa : pa_ok S P (x + 1)) (hr : rk9 m) {v : Int32} : mx_C l E M_Vh_guestBest 7 1 6 [.ref (x), .int (v)] (t, S, I, P, J) (mx_pR (fun _ => "java/lang/IndexOutOfBoundsException") (sp_guestBest m H G v) t S P J (fun K => mx_off (fun c => x + 1 ≤ c ∧ c ≤ x + 8) I K)) := by
  obtain ⟨hV0, hVp0, hVp1, hVp2, hVp3, hVp4, hVp5, hVp7, hVp8, hVp9, hVp10, hVp11, hVp12, hVs15, hVs16, hVs68⟩ := id hV
  obtain ⟨hC0, hC1, hC2, hC3, hC4, hC5, hC6, hD1, hD2, hD3, hD4, hPe, hLo⟩ := id hSt
  obtain ⟨hPr, u0, u1, u2, u3, u4, u5, u6, u7, u8⟩ := id hSr
  obtain ⟨hA0, hA1, hA2, hA3, hA4, hA5, hA6, hA7, hB1, hB2, hB3, hB4, hB5, hB6, hB7⟩ := id hPe
  obtain ⟨r0, r1, r2, r3, r4, r5, r6, r7, r8⟩ := id hPr
  have hPz := hPa.1
  have hPy := hPa.2.2.2.1
  have hPx := hPa.2.2.2.2.2.2.2.2.2.2.1
  refine mx_C_of (ls0 := [some (.ref (x)), some (.int (v))]) (by decide +kernel) rfl rfl (Nat.le_of_ble_eq_true rfl) rfl ?_
  refine mx_al0 d_Vh_guestBest_0 ?_
  refine mx_il1 d_Vh_guestBest_1 ?_
  refine mx_nV1 d_Vh_guestBest_2 (c_needHost htr hV hSt hSr hH hH8) ok_Vh_needHost ml_Vh_159 (by assumption) ⟨rfl, rfl⟩ rfl (by decide) (by decide) (by decide) (Nat.le_of_ble_eq_true rfl) (fun hb2 t9 ht => mx_pR_x ht 0 (by simp_all [sp_guestBest]) rfl mx_off.rf) (fun hb2 => ?_)
  obtain ⟨h, hhL, rfl⟩ := vs_isN_of (by omega) hb2
  have hhc : (nI h).toNatClampNeg = h := nI_clamp (by omega)
  have hhL8 : h < 8 := by omega
  refine mx_al0 d_Vh_guestBest_5 ?_
  refine mx_getR d_Vh_guestBest_6 fl_Vh_16 (by assumption) (by assumption) ?_
  refine mx_al0 d_Vh_guestBest_9 ?_
  refine mx_getR d_Vh_guestBest_10 fl_Vh_51 (by assumption) (by assumption) ?_
  refine mx_getR d_Vh_guestBest_13 fl_Vh_162 (by assumption) (by assumption) ?_
  refine mx_cV1vR d_Vh_guestBest_16 (c_Pa_learn hPa hPe hPr hr hH hH8 hG hG8 (by omega)) ok_Pa_learn ml_Vh_296 (by assumption) ⟨rfl, rfl⟩ (by decide) (Nat.le_of_ble_eq_true rfl) (fun K1 hK1 => ?_)
  refine mx_al0 d_Vh_guestBest_19 ?_
  refine mx_getR d_Vh_guestBest_20 fl_Vh_16 (by assumption) (by assumption) ?_
  refine mx_cV0vR d_Vh_guestBest_23 (c_Pa_askByGuests hPa (pa_inv_end hr hK1)) ok_Pa_askByGuests ml_Vh_306 (by assumption) ⟨rfl, rfl⟩ (by decide) (Nat.le_of_ble_eq_true rfl) (fun K2 hK2 => ?_)
  refine mx_al0 d_Vh_guestBest_26 ?_
  refine mx_getR d_Vh_guestBest_27 fl_Vh_16 (by assumption) (by assumption) ?_
  refine mx_getR d_Vh_guestBest_30 fl_Vh_303 (by assumption) (by assumption) ?_
  refine mx_il1 d_Vh_guestBest_33 ?_
  refine mx_cS2i d_Vh_guestBest_34 (c_get (k := h) (by assumption) (by omega) (by omega)) ok_Vh_get ml_Vh_171 (by decide) (Nat.le_of_ble_eq_true rfl) ?_
  refine mx_ti (y := (mtv ((gs_E (LW m H G) (WW m H G)).2.1 h))) ((hK2.2.2 h (by omega))) ?_
  exact mx_iret d_Vh_guestBest_37 rfl (mx_pR_i (by simp [sp_guestBest, *]) (pa_fin hK1 hK2.1))
theorem c_Mo_wantsT (hM : mo_ok S P mo) (hm : I (mo + 1) = m) (hH : m 3 = nI H) (hH8 : H ≤ 8) (hG : m 4 = nI G) (hG8 : G ≤ 8) (hr : rk9 m) {rfa : Int32} (ha : a < H) (hrf : I (mo + 9) a = rfa) (hbit : ∀ b, b < 8 → 0 < (WW m H G) a b → (bt rfa b = true ↔ lv ≤ (WW m H G) a b)) : mx_C l E M_Mo_wants 3 0 0 [.ref (mo), .int (nI (a)), .int (nI (G)), .int (nI (1))] (t, S, I, P, J) (mx_ri (mtv (gs_nw (WW m H G) lv a).1) (t, S, I, P, J)) := by
  obtain ⟨hM0, hMp1, hMp2, hMp4, hMp5, hMp7, hMp14, hMp21, hMp22, hMp23, hMp24, hMp25, hMp26, hMp27, hMs1, hMs2, hMs3, hMs4, hMs5, hMs6, hMs7, hMs8, hMs9, hMs10, hMs11, hMs12, hMs13⟩ := id hM
  refine mx_C_of (ls0 := [some (.ref (mo)), some (.int (nI (a))), some (.int (nI (G))), some (.int (nI (1))), none, none, none]) (by decide +kernel) rfl rfl (Nat.le_of_ble_eq_true rfl) rfl ?_
  refine mx_ic_m1 d_Mo_wants_0 ?_
  refine mx_is4 d_Mo_wants_1 ?_
  refine mx_in_0 d_Mo_wants_3 ?_
  refine mx_is5 d_Mo_wants_4 ?_
  refine mx_loop (N := G) (ls := fun b => [some (.ref (mo)), some (.int (nI (a))), some (.int (nI (G))), some (.int (nI (1))), some (.int ((mtv (gs_nwQ (WW m H G) lv a b).1))), some (.int (nI (b))), none]) (X := fun b => (t, S, I, P, J)) (fun b hb ih => ?_) ?_
  · try dsimp only
    refine mx_il5 d_Mo_wants_6 ?_
    refine mx_il2 d_Mo_wants_8 ?_
    refine mx_icN_ge 106 d_Mo_wants_9 (by decide) (by omega) (by omega) (fun c_9 => absurd c_9 (by omega)) (fun c_9 => ?_)
    have hu : (gs_nwQ (WW m H G) lv a b).1 < 8 → 0 < (WW m H G) a (gs_nwQ (WW m H G) lv a b).1 := fun z => by rcases (gs_nwQ_is (WW m H G) lv a (n := b) (by omega)).2 with ⟨a1, -⟩ | ⟨a1, a2, a3, -⟩; omega; omega
    have hmm : vs_may m a b = decide (0 < (WW m H G) a b) := by rw [Bool.eq_iff_iff, decide_eq_true_eq, WW_may hr hH8 hG8]; exact ⟨fun z => ⟨⟨ha, hb⟩, z⟩, fun z => z.2⟩
    have hpk := gs_pick (W := (WW m H G)) (lv := lv) (a := a) (b := b) (may := vs_may m a b) (bit := bt rfa b) (rath := vs_hr m a b (gs_nwQ (WW m H G) lv a b).1) (by omega) hmm (hbit b (by omega)) (fun z => hr_W hr hH8 hG8 z hu)
    refine mx_al0 d_Mo_wants_12 ?_
    refine mx_getR d_Mo_wants_13 fl_Mo_38 (by assumption) (by assumption) ?_
    refine mx_il1 d_Mo_wants_16 ?_
    refine mx_iald d_Mo_wants_17 (by assumption) (nI_inb (by omega) (by omega)) ?_
    refine mx_ti (y := I (mo + 9) (a)) (by rw [nI_clamp (by omega)]) ?_
    refine mx_ti (y := rfa) (hrf) ?_
    refine mx_il5 d_Mo_wants_18 ?_
    refine mx_cS2i d_Mo_wants_20 (c_Mo_isOf (j := b) (by omega)) ok_Mo_isOf ml_Mo_74 (by decide) (Nat.le_of_ble_eq_true rfl) ?_
    refine mx_ifB_ne 57 d_Mo_wants_23 (by decide) (fun c_23 => ?_) (fun c_23 => ?_)
    · skip
      have k0 : gs_nwQ (WW m H G) lv a (b + 1) = (gs_nwQ (WW m H G) lv a b) := by rw [gs_nwQ_s, if_neg (fun z => by rw [decide_eq_true z, c_23] at hpk; simp at hpk)]
      refine mx_in_0 d_Mo_wants_57 ?_
      refine mx_is6 d_Mo_wants_58 ?_
      refine mx_il6 d_Mo_wants_60 ?_
      refine mx_if_eq 100 d_Mo_wants_62 (by decide) (fun c_62 => ?_) (fun c_62 => absurd (by decide) c_62)
      refine mx_iN5 d_Mo_wants_100 ?_
      refine mx_goto 6 d_Mo_wants_103 (by decide) ?_
      refine mx_dn6 ?_
      have e4 : (mtv (gs_nwQ (WW m H G) lv a b).1) = (mtv (gs_nwQ (WW m H G) lv a (b + 1)).1) := by first | (rw [k0]; done) | (rw [k0]; exact (mtv_lt (by omega)).symm)
      refine mx_lsc (congrArg (fun z9 => ([some (.ref (mo)), some (.int (nI (a))), some (.int (nI (G))), some (.int (nI (1))), some (.int (z9)), some (.int (nI (b + 1))), none] : List (Option Value))) e4) ?_
      exact ih
    · skip
      refine mx_il3 d_Mo_wants_26 ?_
      refine mx_if_eq 43 d_Mo_wants_27 (by decide) (fun c_27 => absurd c_27 (by decide)) (fun c_27 => ?_)
      refine mx_al0 d_Mo_wants_30 ?_
      refine mx_il1 d_Mo_wants_31 ?_
      refine mx_il5 d_Mo_wants_32 ?_
      refine mx_cV2i d_Mo_wants_34 (cm_mayMeet hM hm (h := a) (g := b) (by omega) (by omega)) ok_Mo_mayMeet ml_Mo_78 (by assumption) ⟨rfl, rfl⟩ (by decide) (Nat.le_of_ble_eq_true rfl) ?_
      refine mx_ifB_eq 57 d_Mo_wants_37 (by decide) (fun c_37 => ?_) (fun c_37 => ?_)
      · skip
        have k0 : gs_nwQ (WW m H G) lv a (b + 1) = (gs_nwQ (WW m H G) lv a b) := by rw [gs_nwQ_s, if_neg (fun z => by rw [decide_eq_true z, c_37] at hpk; simp at hpk)]
        refine mx_in_0 d_Mo_wants_57 ?_
        refine mx_is6 d_Mo_wants_58 ?_
        refine mx_il6 d_Mo_wants_60 ?_
        refine mx_if_eq 100 d_Mo_wants_62 (by decide) (fun c_62 => ?_) (fun c_62 => absurd (by decide) c_62)
        refine mx_iN5 d_Mo_wants_100 ?_
        refine mx_goto 6 d_Mo_wants_103 (by decide) ?_
        refine mx_dn6 ?_
        have e4 : (mtv (gs_nwQ (WW m H G) lv a b).1) = (mtv (gs_nwQ (WW m H G) lv a (b + 1)).1) := by first | (rw [k0]; done) | (rw [k0]; exact (mtv_lt (by omega)).symm)
        refine mx_lsc (congrArg (fun z9 => ([some (.ref (mo)), some (.int (nI (a))), some (.int (nI (G))), some (.int (nI (1))), some (.int (z9)), some (.int (nI (b + 1))), none] : List (Option Value))) e4) ?_
        exact ih
      · skip
        refine mx_goto 53 d_Mo_wants_40 (by decide) ?_
        refine mx_in_1 d_Mo_wants_53 ?_
        refine mx_goto 58 d_Mo_wants_54 (by decide) ?_
        refine mx_is6 d_Mo_wants_58 ?_
        refine mx_il6 d_Mo_wants_60 ?_
        refine mx_if_eq 100 d_Mo_wants_62 (by decide) (fun c_62 => absurd c_62 (by decide)) (fun c_62 => ?_)
        refine mx_il3 d_Mo_wants_65 ?_
        refine mx_if_eq 84 d_Mo_wants_66 (by decide) (fun c_66 => absurd c_66 (by decide)) (fun c_66 => ?_)
        refine mx_al0 d_Mo_wants_69 ?_
        refine mx_il1 d_Mo_wants_70 ?_
        refine mx_il5 d_Mo_wants_71 ?_
        refine mx_il4 d_Mo_wants_73 ?_
        refine mx_cV3i d_Mo_wants_75 (c_Mo_hostRather hM hm hr (h := a) (g := b) (by omega) (by omega)) ok_Mo_hostRather ml_Mo_359 (by assumption) ⟨rfl, rfl⟩ (by decide) (Nat.le_of_ble_eq_true rfl) ?_
        refine mx_ifB_eq 100 d_Mo_wants_78 (by decide) (fun c_78 => ?_) (fun c_78 => ?_)
        · skip
          have k0 : gs_nwQ (WW m H G) lv a (b + 1) = (gs_nwQ (WW m H G) lv a b) := by rw [gs_nwQ_s, if_neg (fun z => by rw [decide_eq_true z, c_78] at hpk; simp at hpk)]
          refine mx_iN5 d_Mo_wants_100 ?_
          refine mx_goto 6 d_Mo_wants_103 (by decide) ?_
          refine mx_dn6 ?_
          have e4 : (mtv (gs_nwQ (WW m H G) lv a b).1) = (mtv (gs_nwQ (WW m H G) lv a (b + 1)).1) := by first | (rw [k0]; done) | (rw [k0]; exact (mtv_lt (by omega)).symm)
          refine mx_lsc (congrArg (fun z9 => ([some (.ref (mo)), some (.int (nI (a))), some (.int (nI (G))), some (.int (nI (1))), some (.int (z9)), some (.int (nI (b + 1))), none] : List (Option Value))) e4) ?_
          exact ih
        · skip
          have k0 : gs_nwQ (WW m H G) lv a (b + 1) = (b, (WW m H G) a b) := by rw [gs_nwQ_s, if_pos (of_decide_eq_true (by rw [← hpk, c_23, c_37, c_78]; rfl))]
          refine mx_goto 96 d_Mo_wants_81 (by decide) ?_
          refine mx_il5 d_Mo_wants_96 ?_
          refine mx_is4 d_Mo_wants_98 ?_
          refine mx_iN5 d_Mo_wants_100 ?_
          refine mx_goto 6 d_Mo_wants_103 (by decide) ?_
          refine mx_dn6 ?_
          have e4 : nI (b) = (mtv (gs_nwQ (WW m H G) lv a (b + 1)).1) := by first | (rw [k0]; done) | (rw [k0]; exact (mtv_lt (by omega)).symm)
          refine mx_lsc (congrArg (fun z9 => ([some (.ref (mo)), some (.int (nI (a))), some (.int (nI (G))), some (.int (nI (1))), some (.int (z9)), some (.int (nI (b + 1))), none] : List (Option Value))) e4) ?_
          exact ih
  · try dsimp only
    refine mx_il5 d_Mo_wants_6 ?_
    refine mx_il2 d_Mo_wants_8 ?_
    refine mx_icN_ge 106 d_Mo_wants_9 (by decide) (by omega) (by omega) (fun c_9 => ?_) (fun c_9 => absurd c_9 (by omega))
    refine mx_il4 d_Mo_wants_106 ?_
    exact mx_iret d_Mo_wants_108 rfl (mx_ri_of (by rw [gs_nwQ_more (by omega) (fun b h1 h2 => by have := (WW_may (m := m) (H := H) (G := G) (h := a) (g := b) hr hH8 hG8).mp; exact Nat.eq_zero_of_not_pos (fun z => absurd (this z).1.2 (by omega)))]))
theorem c_Mo_askedT (hM : mo_ok S P mo) (hm : I (mo + 1) = m) (hH : m 3 = nI H) (hH8 : H ≤ 8) (hG : m 4 = nI G) (hG8 : G ≤ 8) (hr : rk9 m) {I0 : mx_I} {rf : Nat → Int32} (hp : pm_inv I0 I mo (mo + 7) (mo + 8) mt an rf) (ha : a < 8) (hb : b < 8) (h0 : 0 < (LW m H G) b a) (hu : an b < 8 → 0 < (LW m H G) b (an b)) : mx_C l E M_Mo_asked 3 0 0 [.ref (mo), .int (nI (a)), .int (nI (b)), .int (nI (1))] (t, S, I, P, J) (mx_sR none t S P J (fun K => pm_inv I0 K mo (mo + 7) (mo + 8) (gs_mt (LW m H G) mt an a b) (gs_an (LW m H G) an a b) (gs_rf (LW m H G) an rf a b))) := by
  obtain ⟨hM0, hMp1, hMp2, hMp4, hMp5, hMp7, hMp14, hMp21, hMp22, hMp23, hMp24, hMp25, hMp26, hMp27, hMs1, hMs2, hMs3, hMs4, hMs5, hMs6, hMs7, hMs8, hMs9, hMs10, hMs11, hMs12, hMs13⟩ := id hM
  refine mx_C_of (ls0 := [some (.ref (mo)), some (.int (nI (a))), some (.int (nI (b))), some (.int (nI (1))), none, none]) (by decide +kernel) rfl rfl (Nat.le_of_ble_eq_true rfl) rfl ?_
  refine mx_il3 d_Mo_asked_0 ?_
  refine mx_if_eq 13 d_Mo_asked_1 (by decide) (fun c_1 => absurd c_1 (by decide)) (fun c_1 => ?_)
  refine mx_al0 d_Mo_asked_4 ?_
  refine mx_getR d_Mo_asked_5 fl_Mo_35 (by assumption) (by assumption) ?_
  refine mx_il2 d_Mo_asked_8 ?_
  refine mx_iald d_Mo_asked_9 (by assumption) (nI_inb (by omega) (by omega)) ?_
  refine mx_ti (y := I (mo + 8) (b)) (by rw [nI_clamp (by omega)]) ?_
  refine mx_ti (y := (mtv (an b))) ((hp.2.1 b hb).2) ?_
  refine mx_goto 19 d_Mo_asked_10 (by decide) ?_
  refine mx_ti (y := (mtv (an b))) (rfl) ?_
  refine mx_is4 d_Mo_asked_19 ?_
  refine mx_il3 d_Mo_asked_21 ?_
  refine mx_if_eq 36 d_Mo_asked_22 (by decide) (fun c_22 => absurd c_22 (by decide)) (fun c_22 => ?_)
  refine mx_al0 d_Mo_asked_25 ?_
  refine mx_il2 d_Mo_asked_26 ?_
  refine mx_il1 d_Mo_asked_27 ?_
  refine mx_il4 d_Mo_asked_28 ?_
  refine mx_cV3i d_Mo_asked_30 (c_Mo_guestRather hM hm hr (h := a) (g := b) (by omega) (by omega)) ok_Mo_guestRather ml_Mo_362 (by assumption) ⟨rfl, rfl⟩ (by decide) (Nat.le_of_ble_eq_true rfl) ?_
  refine mx_goto 44 d_Mo_asked_33 (by decide) ?_
  have htk : vs_gr m (b) (a) (an b) = gs_tk (LW m H G) an a b := gr_L hr hH8 hG8 h0 hu
  refine mx_is5 d_Mo_asked_44 ?_
  refine mx_il5 d_Mo_asked_46 ?_
  refine mx_ifB_ne 64 d_Mo_asked_48 (by decide) (fun c_48 => ?_) (fun c_48 => ?_)
  · skip
    rw [htk] at c_48
    refine mx_il4 d_Mo_asked_64 ?_
    refine mx_ic_m1 d_Mo_asked_66 ?_
    refine mx_icmp_eq 106 d_Mo_asked_67 (by decide) (fun c_67 => ?_) (fun c_67 => ?_)
    · skip
      have o8 := mtv_e c_67
      refine mx_il3 d_Mo_asked_106 ?_
      refine mx_if_eq 127 d_Mo_asked_107 (by decide) (fun c_107 => absurd c_107 (by decide)) (fun c_107 => ?_)
      refine mx_al0 d_Mo_asked_110 ?_
      refine mx_getR d_Mo_asked_111 fl_Mo_32 (by assumption) (by assumption) ?_
      refine mx_il1 d_Mo_asked_114 ?_
      refine mx_il2 d_Mo_asked_115 ?_
      refine mx_iast d_Mo_asked_116 (by assumption) (nI_inb (by omega) (by omega)) ?_
      rw [nI_clamp (by omega)]
      refine mx_al0 d_Mo_asked_117 ?_
      refine mx_getR d_Mo_asked_118 fl_Mo_35 (by assumption) (by assumption) ?_
      refine mx_il2 d_Mo_asked_121 ?_
      refine mx_il1 d_Mo_asked_122 ?_
      refine mx_iast d_Mo_asked_123 (by assumption) (nI_inb (by omega) (by omega)) ?_
      rw [nI_clamp (by omega)]
      refine mx_goto 141 d_Mo_asked_124 (by decide) ?_
      exact mx_vret d_Mo_asked_141 rfl (mx_sR_of rfl (pm_1 (Or.inl ⟨rfl, rfl⟩) ha hb hp c_48 o8))
    · skip
      have o8 := mtv_n c_67
      rw [mtv_lt o8]
      refine mx_al0 d_Mo_asked_70 ?_
      refine mx_getR d_Mo_asked_71 fl_Mo_38 (by assumption) (by assumption) ?_
      refine mx_il4 d_Mo_asked_74 ?_
      refine mx_dup2 d_Mo_asked_76 rfl rfl ?_
      refine mx_iald d_Mo_asked_77 (by assumption) (nI_inb (by omega) (by omega)) ?_
      refine mx_ti (y := I (mo + 9) (an b)) (by rw [nI_clamp (by omega)]) ?_
      refine mx_ti (y := (rf (an b))) (hp.2.2 (an b) o8) ?_
      refine mx_in_1 d_Mo_asked_78 ?_
      refine mx_il2 d_Mo_asked_79 ?_
      refine mx_ishl d_Mo_asked_80 ?_
      refine mx_ior d_Mo_asked_81 ?_
      refine mx_iast d_Mo_asked_82 (by assumption) (nI_inb (by omega) (by omega)) ?_
      rw [nI_clamp (by omega)]
      refine mx_il3 d_Mo_asked_83 ?_
      refine mx_if_eq 98 d_Mo_asked_84 (by decide) (fun c_84 => absurd c_84 (by decide)) (fun c_84 => ?_)
      refine mx_al0 d_Mo_asked_87 ?_
      refine mx_getR d_Mo_asked_88 fl_Mo_32 (by assumption) (by assumption) ?_
      refine mx_il4 d_Mo_asked_91 ?_
      refine mx_ic_m1 d_Mo_asked_93 ?_
      refine mx_iast d_Mo_asked_94 (by assumption) (nI_inb (by omega) (by omega)) ?_
      rw [nI_clamp (by omega)]
      refine mx_goto 106 d_Mo_asked_95 (by decide) ?_
      refine mx_il3 d_Mo_asked_106 ?_
      refine mx_if_eq 127 d_Mo_asked_107 (by decide) (fun c_107 => absurd c_107 (by decide)) (fun c_107 => ?_)
      refine mx_al0 d_Mo_asked_110 ?_
      refine mx_getR d_Mo_asked_111 fl_Mo_32 (by assumption) (by assumption) ?_
      refine mx_il1 d_Mo_asked_114 ?_
      refine mx_il2 d_Mo_asked_115 ?_
      refine mx_iast d_Mo_asked_116 (by assumption) (nI_inb (by omega) (by omega)) ?_
      rw [nI_clamp (by omega)]
      refine mx_al0 d_Mo_asked_117 ?_
      refine mx_getR d_Mo_asked_118 fl_Mo_35 (by assumption) (by assumption) ?_
      refine mx_il2 d_Mo_asked_121 ?_
      refine mx_il1 d_Mo_asked_122 ?_
      refine mx_iast d_Mo_asked_123 (by assumption) (nI_inb (by omega) (by omega)) ?_
      rw [nI_clamp (by omega)]
      refine mx_goto 141 d_Mo_asked_124 (by decide) ?_
      exact mx_vret d_Mo_asked_141 rfl (mx_sR_of rfl (pm_2 (Or.inl ⟨rfl, rfl⟩) ha hb hp c_48 o8))
  · skip
    rw [htk] at c_48
    refine mx_al0 d_Mo_asked_51 ?_
    refine mx_getR d_Mo_asked_52 fl_Mo_38 (by assumption) (by assumption) ?_
    refine mx_il1 d_Mo_asked_55 ?_
    refine mx_dup2 d_Mo_asked_56 rfl rfl ?_
    refine mx_iald d_Mo_asked_57 (by assumption) (nI_inb (by omega) (by omega)) ?_
    refine mx_ti (y := I (mo + 9) (a)) (by rw [nI_clamp (by omega)]) ?_
    refine mx_ti (y := (rf a)) (hp.2.2 a ha) ?_
    refine mx_in_1 d_Mo_asked_58 ?_
    refine mx_il2 d_Mo_asked_59 ?_
    refine mx_ishl d_Mo_asked_60 ?_
    refine mx_ior d_Mo_asked_61 ?_
    refine mx_iast d_Mo_asked_62 (by assumption) (nI_inb (by omega) (by omega)) ?_
    rw [nI_clamp (by omega)]
    exact mx_vret d_Mo_asked_63 rfl (mx_sR_of rfl (pm_0 (Or.inl ⟨rfl, rfl⟩) hp c_48))
theorem c_Mo_pairsT (hM : mo_ok S P mo) (hm : I (mo + 1) = m) (hH : m 3 = nI H) (hH8 : H ≤ 8) (hG : m 4 = nI G) (hG8 : G ≤ 8) (hr : rk9 m) : mx_C l E M_Mo_pairs 4 0 0 [.ref (mo), .int (nI (1))] (t, S, I, P, J) (mx_sR none t S P J (fun K => mx_off (pz3 mo) I K ∧ ∀ j, j < 8 → K (mo + 7) j = mtv ((gs_E (WW m H G) (LW m H G)).1 j) ∧ K (mo + 8) j = mtv ((gs_E (WW m H G) (LW m H G)).2.1 j))) := by
  obtain ⟨hM0, hMp1, hMp2, hMp4, hMp5, hMp7, hMp14, hMp21, hMp22, hMp23, hMp24, hMp25, hMp26, hMp27, hMs1, hMs2, hMs3, hMs4, hMs5, hMs6, hMs7, hMs8, hMs9, hMs10, hMs11, hMs12, hMs13⟩ := id hM
  have hm0 := hm
  refine mx_C_of (ls0 := [some (.ref (mo)), some (.int (nI (1))), none, none, none, none, none]) (by decide +kernel) rfl rfl (Nat.le_of_ble_eq_true rfl) rfl ?_
  refine mx_il1 d_Mo_pairs_0 ?_
  refine mx_if_eq 13 d_Mo_pairs_1 (by decide) (fun c_1 => absurd c_1 (by decide)) (fun c_1 => ?_)
  refine mx_al0 d_Mo_pairs_4 ?_
  refine mx_getR d_Mo_pairs_5 fl_Mo_7 (by assumption) (by assumption) ?_
  refine mx_in_3 d_Mo_pairs_8 ?_
  refine mx_iald d_Mo_pairs_9 (by assumption) (nI_inb (by omega) (by omega)) ?_
  refine mx_ti (y := I (mo + 1) (3)) (by rw [nI_clamp (by omega)]) ?_
  refine mx_ti (y := nI (H)) ((congrFun hm 3).trans hH) ?_
  refine mx_goto 19 d_Mo_pairs_10 (by decide) ?_
  refine mx_ti (y := nI (H)) (rfl) ?_
  refine mx_is2 d_Mo_pairs_19 ?_
  refine mx_il1 d_Mo_pairs_20 ?_
  refine mx_if_eq 33 d_Mo_pairs_21 (by decide) (fun c_21 => absurd c_21 (by decide)) (fun c_21 => ?_)
  refine mx_al0 d_Mo_pairs_24 ?_
  refine mx_getR d_Mo_pairs_25 fl_Mo_7 (by assumption) (by assumption) ?_
  refine mx_in_4 d_Mo_pairs_28 ?_
  refine mx_iald d_Mo_pairs_29 (by assumption) (nI_inb (by omega) (by omega)) ?_
  refine mx_ti (y := I (mo + 1) (4)) (by rw [nI_clamp (by omega)]) ?_
  refine mx_ti (y := nI (G)) ((congrFun hm 4).trans hG) ?_
  refine mx_goto 39 d_Mo_pairs_30 (by decide) ?_
  refine mx_ti (y := nI (G)) (rfl) ?_
  refine mx_is3 d_Mo_pairs_39 ?_
  refine mx_in_0 d_Mo_pairs_40 ?_
  refine mx_is4 d_Mo_pairs_41 ?_
  refine mx_loopX (α := (mx_I)) (N := 8) (a0 := I) (fun i z9 => p0_inv I z9 mo i) (ls := fun i z9 => [some (.ref (mo)), some (.int (nI (1))), some (.int (nI (H))), some (.int (nI (G))), some (.int (nI (i))), none, none]) (X := fun i z9 => (t, S, z9, P, J)) (⟨mx_off.rf, fun j hj => absurd hj (by omega)⟩) (fun i hi z9 hinv ih => ?_) (fun z9 hinv => ?_)
  · skip
    obtain ⟨K, hz9⟩ : ∃ q, q = z9 := ⟨_, rfl⟩
    subst hz9
    try dsimp only at hinv ih ⊢
    refine mx_il4 d_Mo_pairs_43 ?_
    refine mx_bip 8 d_Mo_pairs_45 (by decide) ?_
    refine mx_icN_ge 80 d_Mo_pairs_47 (by decide) (by omega) (by omega) (fun c_47 => absurd c_47 (by omega)) (fun c_47 => ?_)
    refine mx_al0 d_Mo_pairs_50 ?_
    refine mx_getR d_Mo_pairs_51 fl_Mo_32 (by assumption) (by assumption) ?_
    refine mx_il4 d_Mo_pairs_54 ?_
    refine mx_ic_m1 d_Mo_pairs_56 ?_
    refine mx_iast d_Mo_pairs_57 (by assumption) (nI_inb (by omega) (by omega)) ?_
    rw [nI_clamp (by omega)]
    refine mx_al0 d_Mo_pairs_58 ?_
    refine mx_getR d_Mo_pairs_59 fl_Mo_35 (by assumption) (by assumption) ?_
    refine mx_il4 d_Mo_pairs_62 ?_
    refine mx_ic_m1 d_Mo_pairs_64 ?_
    refine mx_iast d_Mo_pairs_65 (by assumption) (nI_inb (by omega) (by omega)) ?_
    rw [nI_clamp (by omega)]
    refine mx_al0 d_Mo_pairs_66 ?_
    refine mx_getR d_Mo_pairs_67 fl_Mo_38 (by assumption) (by assumption) ?_
    refine mx_il4 d_Mo_pairs_70 ?_
    refine mx_in_0 d_Mo_pairs_72 ?_
    refine mx_iast d_Mo_pairs_73 (by assumption) (nI_inb (by omega) (by omega)) ?_
    rw [nI_clamp (by omega)]
    refine mx_iN4 d_Mo_pairs_74 ?_
    refine mx_goto 43 d_Mo_pairs_77 (by decide) ?_
    exact ih (mx_up (mx_up (mx_up K (mo + 7) (i) ((-1))) (mo + 8) (i) ((-1))) (mo + 9) (i) (nI (0))) (p0_step hinv)
  · skip
    obtain ⟨K, hz9⟩ : ∃ q, q = z9 := ⟨_, rfl⟩
    subst hz9
    try dsimp only at hinv ⊢
    refine mx_il4 d_Mo_pairs_43 ?_
    refine mx_bip 8 d_Mo_pairs_45 (by decide) ?_
    refine mx_icN_ge 80 d_Mo_pairs_47 (by decide) (by omega) (by omega) (fun c_47 => ?_) (fun c_47 => absurd c_47 (by omega))
    refine mx_in_1 d_Mo_pairs_80 ?_
    refine mx_is4 d_Mo_pairs_81 ?_
    refine mx_lsc (congrArg (fun z9 => ([some (.ref (mo)), some (.int (nI (1))), some (.int (nI (H))), some (.int (nI (G))), some (.int (z9)), none, none] : List (Option Value))) (rfl)) ?_
    refine mx_loopX (α := (mx_I)) (N := 66) (a0 := K) (fun k z9 => (∀ j, j < k → (gs_it (WW m H G) (LW m H G) j).2 = true) ∧ ∃ rf, pm_inv I z9 mo (mo + 7) (mo + 8) (gs_it (WW m H G) (LW m H G) k).1.1 (gs_it (WW m H G) (LW m H G) k).1.2.1 rf ∧ rf_ok (WW m H G) (gs_it (WW m H G) (LW m H G) k).1 rf) (ls := fun k z9 => [some (.ref (mo)), some (.int (nI (1))), some (.int (nI (H))), some (.int (nI (G))), some (.int (bI ((gs_it (WW m H G) (LW m H G) k).2))), none, none]) (X := fun k z9 => (t, S, z9, P, J)) (⟨fun j hj => absurd hj (by omega), _, p0_end hinv (Or.inl ⟨rfl, rfl⟩), rf_ok_0 (fun a b ha hb => WW_le hr ha hb)⟩) (fun k hk z9 hinv ih => ?_) (fun z9 hinv => ?_)
    · skip
      obtain ⟨K, hz9⟩ : ∃ q, q = z9 := ⟨_, rfl⟩
      subst hz9
      try dsimp only at hinv ih ⊢
      have hm : K (mo + 1) = m := by obtain ⟨-, rf, hp, -⟩ := hinv; rw [hp.1 _ (by unfold pz3; omega)]; exact hm0
      refine mx_il4 d_Mo_pairs_83 ?_
      refine mx_ifB_eq 169 d_Mo_pairs_85 (by decide) (fun c_85 => ?_) (fun c_85 => ?_)
      · skip
        exact mx_vret d_Mo_pairs_169 rfl (mx_sR_of rfl (by obtain ⟨-, rf, hp, -⟩ := hinv; have e := gs_E_fin c_85; rw [← e.1, ← e.2]; exact ⟨hp.1, hp.2.1⟩))
      · skip
        refine mx_in_0 d_Mo_pairs_88 ?_
        refine mx_is4 d_Mo_pairs_89 ?_
        refine mx_in_0 d_Mo_pairs_91 ?_
        refine mx_is5 d_Mo_pairs_92 ?_
        refine mx_lsc (congrArg (fun z9 => ([some (.ref (mo)), some (.int (nI (1))), some (.int (nI (H))), some (.int (nI (G))), some (.int (z9)), some (.int (nI (0))), none] : List (Option Value))) (rfl)) ?_
        have ih83 := ih
        have hinv83 := hinv
        refine mx_loopX (α := (mx_I)) (N := H) (a0 := K) (fun a z9 => ∃ rf, pm_inv I z9 mo (mo + 7) (mo + 8) (gs_rd (WW m H G) (LW m H G) (gs_it (WW m H G) (LW m H G) k).1 a).1 (gs_rd (WW m H G) (LW m H G) (gs_it (WW m H G) (LW m H G) k).1 a).2.1 rf ∧ rf_ok (WW m H G) (gs_rd (WW m H G) (LW m H G) (gs_it (WW m H G) (LW m H G) k).1 a) rf) (ls := fun a z9 => [some (.ref (mo)), some (.int (nI (1))), some (.int (nI (H))), some (.int (nI (G))), some (.int (bI (gs_fl (WW m H G) (LW m H G) (gs_it (WW m H G) (LW m H G) k).1 a))), some (.int (nI (a))), none]) (X := fun a z9 => (t, S, z9, P, J)) (hinv.2) (fun a ha z9 hinv ih => ?_) (fun z9 hinv => ?_)
        · skip
          obtain ⟨K, hz9⟩ : ∃ q, q = z9 := ⟨_, rfl⟩
          subst hz9
          try dsimp only at hinv ih ⊢
          obtain ⟨rf, hp, hrf⟩ := hinv
          have hm : K (mo + 1) = m := by rw [hp.1 _ (by unfold pz3; omega)]; exact hm0
          have hok : gs_ok (WW m H G) (gs_rd (WW m H G) (LW m H G) (gs_it (WW m H G) (LW m H G) k).1 a) := gs_ok_rd (gs_ok_it (WW m H G) (LW m H G) k) (by omega)
          refine mx_il5 d_Mo_pairs_94 ?_
          refine mx_il2 d_Mo_pairs_96 ?_
          refine mx_icN_ge 166 d_Mo_pairs_97 (by decide) (by omega) (by omega) (fun c_97 => absurd c_97 (by omega)) (fun c_97 => ?_)
          refine mx_il1 d_Mo_pairs_100 ?_
          refine mx_if_eq 114 d_Mo_pairs_101 (by decide) (fun c_101 => absurd c_101 (by decide)) (fun c_101 => ?_)
          refine mx_al0 d_Mo_pairs_104 ?_
          refine mx_getR d_Mo_pairs_105 fl_Mo_32 (by assumption) (by assumption) ?_
          refine mx_il5 d_Mo_pairs_108 ?_
          refine mx_iald d_Mo_pairs_110 (by assumption) (nI_inb (by omega) (by omega)) ?_
          refine mx_ti (y := K (mo + 7) (a)) (by rw [nI_clamp (by omega)]) ?_
          refine mx_goto 121 d_Mo_pairs_111 (by decide) ?_
          refine mx_ti (y := (mtv ((gs_rd (WW m H G) (LW m H G) (gs_it (WW m H G) (LW m H G) k).1 a).1 a))) ((hp.2.1 a (by omega)).1) ?_
          refine mx_ic_m1 d_Mo_pairs_121 ?_
          refine mx_icmp_ne 136 d_Mo_pairs_122 (by decide) (fun c_122 => ?_) (fun c_122 => ?_)
          · skip
            have u8 := mtv_n c_122
            obtain ⟨k1, k0⟩ := gs_turn_1 (W := (WW m H G)) (A := (LW m H G)) u8
            refine mx_ic_m1 d_Mo_pairs_136 ?_
            refine mx_is6 d_Mo_pairs_137 ?_
            refine mx_il6 d_Mo_pairs_139 ?_
            refine mx_ic_m1 d_Mo_pairs_141 ?_
            refine mx_icmp_ne 148 d_Mo_pairs_142 (by decide) (fun c_142 => absurd c_142 (fun z => z rfl)) (fun c_142 => ?_)
            refine mx_goto 160 d_Mo_pairs_145 (by decide) ?_
            refine mx_iN5 d_Mo_pairs_160 ?_
            refine mx_goto 94 d_Mo_pairs_163 (by decide) ?_
            refine mx_dn6 ?_
            have e4 : bI (gs_fl (WW m H G) (LW m H G) (gs_it (WW m H G) (LW m H G) k).1 a) = bI (gs_fl (WW m H G) (LW m H G) (gs_it (WW m H G) (LW m H G) k).1 (a + 1)) := by rw [gs_fl_s, k0]; first | (rw [Bool.or_false]; done) | (rw [Bool.or_true]; rfl)
            refine mx_lsc (congrArg (fun z9 => ([some (.ref (mo)), some (.int (nI (1))), some (.int (nI (H))), some (.int (nI (G))), some (.int (z9)), some (.int (nI (a + 1))), none] : List (Option Value))) e4) ?_
            exact ih K (by rw [gs_rd_s, k1]; first | exact ⟨rf, hp, rf_ok_none hrf u8 v8⟩ | exact ⟨rf, hp, hrf⟩)
          · skip
            have u8 := mtv_e c_122
            refine mx_al0 d_Mo_pairs_125 ?_
            refine mx_il5 d_Mo_pairs_126 ?_
            refine mx_il3 d_Mo_pairs_128 ?_
            refine mx_il1 d_Mo_pairs_129 ?_
            refine mx_cV3i d_Mo_pairs_130 (c_Mo_wantsT hM hm hH hH8 hG hG8 hr (lv := (gs_rd (WW m H G) (LW m H G) (gs_it (WW m H G) (LW m H G) k).1 a).2.2 a) (a := a) (by omega) (hp.2.2 a (by omega)) (fun b hb h0 => by rw [hrf a b (by omega) hb h0]; exact ⟨fun z => z.1, fun z => ⟨z, fun z2 => u8 (by rw [z2]; exact hb)⟩⟩)) ok_Mo_wants ml_Mo_351 (by assumption) ⟨rfl, rfl⟩ (by decide) (Nat.le_of_ble_eq_true rfl) ?_
            refine mx_goto 137 d_Mo_pairs_133 (by decide) ?_
            refine mx_is6 d_Mo_pairs_137 ?_
            refine mx_il6 d_Mo_pairs_139 ?_
            refine mx_ic_m1 d_Mo_pairs_141 ?_
            refine mx_icmp_ne 148 d_Mo_pairs_142 (by decide) (fun c_142 => ?_) (fun c_142 => ?_)
            · skip
              have v8 := mtv_n c_142
              rw [mtv_lt v8]
              obtain ⟨k1, k0⟩ := gs_turn_3 (W := (WW m H G)) (A := (LW m H G)) u8 v8
              have pA : 0 < (LW m H G) (gs_nw (WW m H G) ((gs_rd (WW m H G) (LW m H G) (gs_it (WW m H G) (LW m H G) k).1 a).2.2 a) a).1 a := by have z := (gs_nw_is (WW m H G) ((gs_rd (WW m H G) (LW m H G) (gs_it (WW m H G) (LW m H G) k).1 a).2.2 a) a).2; have z2 : 0 < (WW m H G) a (gs_nw (WW m H G) ((gs_rd (WW m H G) (LW m H G) (gs_it (WW m H G) (LW m H G) k).1 a).2.2 a) a).1 := (by rcases z with ⟨a1, -⟩ | ⟨a1, a2, a3, -⟩; omega; omega); rw [LW_may hr hH8 hG8]; exact (WW_may hr hH8 hG8).mp z2
              have pU : (gs_rd (WW m H G) (LW m H G) (gs_it (WW m H G) (LW m H G) k).1 a).2.1 (gs_nw (WW m H G) ((gs_rd (WW m H G) (LW m H G) (gs_it (WW m H G) (LW m H G) k).1 a).2.2 a) a).1 < 8 → 0 < (LW m H G) (gs_nw (WW m H G) ((gs_rd (WW m H G) (LW m H G) (gs_it (WW m H G) (LW m H G) k).1 a).2.2 a) a).1 ((gs_rd (WW m H G) (LW m H G) (gs_it (WW m H G) (LW m H G) k).1 a).2.1 (gs_nw (WW m H G) ((gs_rd (WW m H G) (LW m H G) (gs_it (WW m H G) (LW m H G) k).1 a).2.2 a) a).1) := fun z => by have z1 := hok.2.1 (gs_nw (WW m H G) ((gs_rd (WW m H G) (LW m H G) (gs_it (WW m H G) (LW m H G) k).1 a).2.2 a) a).1 v8 z; have z2 := (hok.1 _ z (by rw [z1]; exact v8)).2.1; rw [z1] at z2; rw [LW_may hr hH8 hG8]; exact (WW_may hr hH8 hG8).mp z2
              refine mx_al0 d_Mo_pairs_148 ?_
              refine mx_il5 d_Mo_pairs_149 ?_
              refine mx_il6 d_Mo_pairs_151 ?_
              refine mx_il1 d_Mo_pairs_153 ?_
              refine mx_cV3vR d_Mo_pairs_154 (c_Mo_askedT hM hm hH hH8 hG hG8 hr (a := a) (b := (gs_nw (WW m H G) ((gs_rd (WW m H G) (LW m H G) (gs_it (WW m H G) (LW m H G) k).1 a).2.2 a) a).1) hp (by omega) (by omega) pA pU) ok_Mo_asked ml_Mo_355 (by assumption) ⟨rfl, rfl⟩ (by decide) (Nat.le_of_ble_eq_true rfl) (fun K2 hK2 => ?_)
              refine mx_in_1 d_Mo_pairs_157 ?_
              refine mx_is4 d_Mo_pairs_158 ?_
              refine mx_iN5 d_Mo_pairs_160 ?_
              refine mx_goto 94 d_Mo_pairs_163 (by decide) ?_
              refine mx_dn6 ?_
              have e4 : nI (1) = bI (gs_fl (WW m H G) (LW m H G) (gs_it (WW m H G) (LW m H G) k).1 (a + 1)) := by rw [gs_fl_s, k0]; first | (rw [Bool.or_false]; done) | (rw [Bool.or_true]; rfl)
              refine mx_lsc (congrArg (fun z9 => ([some (.ref (mo)), some (.int (nI (1))), some (.int (nI (H))), some (.int (nI (G))), some (.int (z9)), some (.int (nI (a + 1))), none] : List (Option Value))) e4) ?_
              exact ih K2 (by rw [gs_rd_s, k1]; exact ⟨_, hK2, rf_ok_ask hok (WW_inj H G) hrf (by omega) u8 v8⟩)
            · skip
              have v8 := mtv_e c_142
              obtain ⟨k1, k0⟩ := gs_turn_2 (W := (WW m H G)) (A := (LW m H G)) u8 v8
              refine mx_goto 160 d_Mo_pairs_145 (by decide) ?_
              refine mx_iN5 d_Mo_pairs_160 ?_
              refine mx_goto 94 d_Mo_pairs_163 (by decide) ?_
              refine mx_dn6 ?_
              have e4 : bI (gs_fl (WW m H G) (LW m H G) (gs_it (WW m H G) (LW m H G) k).1 a) = bI (gs_fl (WW m H G) (LW m H G) (gs_it (WW m H G) (LW m H G) k).1 (a + 1)) := by rw [gs_fl_s, k0]; first | (rw [Bool.or_false]; done) | (rw [Bool.or_true]; rfl)
              refine mx_lsc (congrArg (fun z9 => ([some (.ref (mo)), some (.int (nI (1))), some (.int (nI (H))), some (.int (nI (G))), some (.int (z9)), some (.int (nI (a + 1))), none] : List (Option Value))) e4) ?_
              exact ih K (by rw [gs_rd_s, k1]; first | exact ⟨rf, hp, rf_ok_none hrf u8 v8⟩ | exact ⟨rf, hp, hrf⟩)
        · skip
          obtain ⟨K, hz9⟩ : ∃ q, q = z9 := ⟨_, rfl⟩
          subst hz9
          try dsimp only at hinv ⊢
          obtain ⟨rf, hp, hrf⟩ := hinv
          obtain ⟨e1, e2, e3, e4⟩ := gs_pad (A := (LW m H G)) (gs_ok_it (WW m H G) (LW m H G) k) (n := H) (by omega) (fun a b h1 h2 h3 => Nat.eq_zero_of_not_pos (fun z => absurd ((WW_may (m := m) (H := H) (G := G) (h := a) (g := b) hr hH8 hG8).mp z).1.1 (by omega)))
          have hp8 := hp
          rw [e1, e2] at hp8
          have hrf8 := e4 rf hrf
          refine mx_il5 d_Mo_pairs_94 ?_
          refine mx_il2 d_Mo_pairs_96 ?_
          refine mx_icN_ge 166 d_Mo_pairs_97 (by decide) (by omega) (by omega) (fun c_97 => ?_) (fun c_97 => absurd c_97 (by omega))
          refine mx_goto 83 d_Mo_pairs_166 (by decide) ?_
          refine mx_dn5 ?_
          have e4 : bI (gs_fl (WW m H G) (LW m H G) (gs_it (WW m H G) (LW m H G) k).1 H) = bI ((gs_it (WW m H G) (LW m H G) (k + 1)).2) := by rw [gs_it_s, if_pos c_85]; dsimp only; rw [e3]
          refine mx_lsc (congrArg (fun z9 => ([some (.ref (mo)), some (.int (nI (1))), some (.int (nI (H))), some (.int (nI (G))), some (.int (z9)), none, none] : List (Option Value))) e4) ?_
          exact ih K (⟨vs_nextT hinv83.1 c_85, rf, by rw [gs_it_s, if_pos c_85]; dsimp only; exact hp8, by rw [gs_it_s, if_pos c_85]; dsimp only; exact hrf8⟩)
    · skip
      obtain ⟨K, hz9⟩ : ∃ q, q = z9 := ⟨_, rfl⟩
      subst hz9
      try dsimp only at hinv ⊢
      exact absurd (gs_it_no (hinv.1 65 (by omega))) (by omega)
theorem c_Mo_hostBest (hM : mo_ok S P mo) (hm : I (mo + 1) = m) (hH : m 3 = nI H) (hH8 : H ≤ 8) (hG : m 4 = nI G) (hG8 : G ≤ 8) (hr : rk9 m) {v : Int32} : mx_C l E M_Mo_hostBest 5 0 0 [.ref (mo), .int (v)] (t, S, I, P, J) (mx_sR (some (.int (sp_hostBest m H G v).2)) t S P J (fun K => mx_off (pz3 mo) (mx_up I mo 0 (nI (sp_hostBest m H G v).1)) K)) := by
  obtain ⟨hM0, hMp1, hMp2, hMp4, hMp5, hMp7, hMp14, hMp21, hMp22, hMp23, hMp24, hMp25, hMp26, hMp27, hMs1, hMs2, hMs3, hMs4, hMs5, hMs6, hMs7, hMs8, hMs9, hMs10, hMs11, hMs12, hMs13⟩ := id hM
  refine mx_C_of (ls0 := [some (.ref (mo)), some (.int (v))]) (by decide +kernel) rfl rfl (Nat.le_of_ble_eq_true rfl) rfl ?_
  refine mx_al0 d_Mo_hostBest_0 ?_
  refine mx_al0 d_Mo_hostBest_1 ?_
  refine mx_il1 d_Mo_hostBest_2 ?_
  refine mx_cV1i d_Mo_hostBest_3 (cm_isHost hM hm hH hH8) ok_Mo_isHost ml_Mo_310 (by assumption) ⟨rfl, rfl⟩ (by decide) (Nat.le_of_ble_eq_true rfl) ?_
  refine mx_ifB_ne 13 d_Mo_hostBest_6 (by decide) (fun c_6 => ?_) (fun c_6 => ?_)
  · skip
    obtain ⟨h, hhL, rfl⟩ := vs_isN_of (by omega) c_6
    have hhc : (nI h).toNatClampNeg = h := nI_clamp (by omega)
    have hhL8 : h < 8 := by omega
    refine mx_in_0 d_Mo_hostBest_13 ?_
    refine mx_putI d_Mo_hostBest_14 fl_Mo_54 (by assumption) ?_
    refine mx_al0 d_Mo_hostBest_17 ?_
    refine mx_getI d_Mo_hostBest_18 fl_Mo_54 (by assumption) ?_
    refine mx_ti (y := nI (0)) (vs_upx) ?_
    refine mx_if_le 26 d_Mo_hostBest_21 (by decide) (fun c_21 => ?_) (fun c_21 => absurd (by decide) c_21)
    refine mx_al0 d_Mo_hostBest_26 ?_
    refine mx_in_1 d_Mo_hostBest_27 ?_
    refine mx_cV1vR d_Mo_hostBest_28 (c_Mo_pairsT hM (vs_hm hm) hH hH8 hG hG8 hr) ok_Mo_pairs ml_Mo_365 (by assumption) ⟨rfl, rfl⟩ (by decide) (Nat.le_of_ble_eq_true rfl) (fun K hK => ?_)
    refine mx_al0 d_Mo_hostBest_31 ?_
    refine mx_getR d_Mo_hostBest_32 fl_Mo_32 (by assumption) (by assumption) ?_
    refine mx_il1 d_Mo_hostBest_35 ?_
    refine mx_iald d_Mo_hostBest_36 (by assumption) (nI_inb (by omega) (by omega)) ?_
    refine mx_ti (y := K (mo + 7) (h)) (by rw [nI_clamp (by omega)]) ?_
    refine mx_ti (y := (mtv ((gs_E (WW m H G) (LW m H G)).1 h))) ((hK.2 h (by omega)).1) ?_
    exact mx_iret d_Mo_hostBest_37 rfl (mx_sR_i (by simp [sp_hostBest, *]) (by rw [show (sp_hostBest m H G _).1 = 0 from by simp [sp_hostBest, *]]; exact hK.1))
  · skip
    refine mx_in_1 d_Mo_hostBest_9 ?_
    refine mx_goto 14 d_Mo_hostBest_10 (by decide) ?_
    refine mx_putI d_Mo_hostBest_14 fl_Mo_54 (by assumption) ?_
    refine mx_al0 d_Mo_hostBest_17 ?_
    refine mx_getI d_Mo_hostBest_18 fl_Mo_54 (by assumption) ?_
    refine mx_ti (y := nI (1)) (vs_upx) ?_
    refine mx_if_le 26 d_Mo_hostBest_21 (by decide) (fun c_21 => absurd c_21 (by decide)) (fun c_21 => ?_)
    refine mx_in_0 d_Mo_hostBest_24 ?_
    exact mx_iret d_Mo_hostBest_25 rfl (mx_sR_i (by simp [sp_hostBest, *]) (by rw [show (sp_hostBest m H G _).1 = 1 from by simp [sp_hostBest, *]]; exact mx_off.rf))
theorem c_Mo_wantsF (hM : mo_ok S P mo) (hm : I (mo + 1) = m) (hH : m 3 = nI H) (hH8 : H ≤ 8) (hG : m 4 = nI G) (hG8 : G ≤ 8) (hr : rk9 m) {rfa : Int32} (ha : a < G) (hrf : I (mo + 9) a = rfa) (hbit : ∀ b, b < 8 → 0 < (LW m H G) a b → (bt rfa b = true ↔ lv ≤ (LW m H G) a b)) : mx_C l E M_Mo_wants 3 0 0 [.ref (mo), .int (nI (a)), .int (nI (H)), .int (nI (0))] (t, S, I, P, J) (mx_ri (mtv (gs_nw (LW m H G) lv a).1) (t, S, I, P, J)) := by
  obtain ⟨hM0, hMp1, hMp2, hMp4, hMp5, hMp7, hMp14, hMp21, hMp22, hMp23, hMp24, hMp25, hMp26, hMp27, hMs1, hMs2, hMs3, hMs4, hMs5, hMs6, hMs7, hMs8, hMs9, hMs10, hMs11, hMs12, hMs13⟩ := id hM
  refine mx_C_of (ls0 := [some (.ref (mo)), some (.int (nI (a))), some (.int (nI (H))), some (.int (nI (0))), none, none, none]) (by decide +kernel) rfl rfl (Nat.le_of_ble_eq_true rfl) rfl ?_
  refine mx_ic_m1 d_Mo_wants_0 ?_
  refine mx_is4 d_Mo_wants_1 ?_
  refine mx_in_0 d_Mo_wants_3 ?_
  refine mx_is5 d_Mo_wants_4 ?_
  refine mx_loop (N := H) (ls := fun b => [some (.ref (mo)), some (.int (nI (a))), some (.int (nI (H))), some (.int (nI (0))), some (.int ((mtv (gs_nwQ (LW m H G) lv a b).1))), some (.int (nI (b))), none]) (X := fun b => (t, S, I, P, J)) (fun b hb ih => ?_) ?_
  · try dsimp only
    refine mx_il5 d_Mo_wants_6 ?_
    refine mx_il2 d_Mo_wants_8 ?_
    refine mx_icN_ge 106 d_Mo_wants_9 (by decide) (by omega) (by omega) (fun c_9 => absurd c_9 (by omega)) (fun c_9 => ?_)
    have hu : (gs_nwQ (LW m H G) lv a b).1 < 8 → 0 < (LW m H G) a (gs_nwQ (LW m H G) lv a b).1 := fun z => by rcases (gs_nwQ_is (LW m H G) lv a (n := b) (by omega)).2 with ⟨a1, -⟩ | ⟨a1, a2, a3, -⟩; omega; omega
    have hmm : vs_may m b a = decide (0 < (LW m H G) a b) := by rw [Bool.eq_iff_iff, decide_eq_true_eq, LW_may hr hH8 hG8]; exact ⟨fun z => ⟨⟨hb, ha⟩, z⟩, fun z => z.2⟩
    have hpk := gs_pick (W := (LW m H G)) (lv := lv) (a := a) (b := b) (may := vs_may m b a) (bit := bt rfa b) (rath := vs_gr m a b (gs_nwQ (LW m H G) lv a b).1) (by omega) hmm (hbit b (by omega)) (fun z => gr_L hr hH8 hG8 z hu)
    refine mx_al0 d_Mo_wants_12 ?_
    refine mx_getR d_Mo_wants_13 fl_Mo_38 (by assumption) (by assumption) ?_
    refine mx_il1 d_Mo_wants_16 ?_
    refine mx_iald d_Mo_wants_17 (by assumption) (nI_inb (by omega) (by omega)) ?_
    refine mx_ti (y := I (mo + 9) (a)) (by rw [nI_clamp (by omega)]) ?_
    refine mx_ti (y := rfa) (hrf) ?_
    refine mx_il5 d_Mo_wants_18 ?_
    refine mx_cS2i d_Mo_wants_20 (c_Mo_isOf (j := b) (by omega)) ok_Mo_isOf ml_Mo_74 (by decide) (Nat.le_of_ble_eq_true rfl) ?_
    refine mx_ifB_ne 57 d_Mo_wants_23 (by decide) (fun c_23 => ?_) (fun c_23 => ?_)
    · skip
      have k0 : gs_nwQ (LW m H G) lv a (b + 1) = (gs_nwQ (LW m H G) lv a b) := by rw [gs_nwQ_s, if_neg (fun z => by rw [decide_eq_true z, c_23] at hpk; simp at hpk)]
      refine mx_in_0 d_Mo_wants_57 ?_
      refine mx_is6 d_Mo_wants_58 ?_
      refine mx_il6 d_Mo_wants_60 ?_
      refine mx_if_eq 100 d_Mo_wants_62 (by decide) (fun c_62 => ?_) (fun c_62 => absurd (by decide) c_62)
      refine mx_iN5 d_Mo_wants_100 ?_
      refine mx_goto 6 d_Mo_wants_103 (by decide) ?_
      refine mx_dn6 ?_
      have e4 : (mtv (gs_nwQ (LW m H G) lv a b).1) = (mtv (gs_nwQ (LW m H G) lv a (b + 1)).1) := by first | (rw [k0]; done) | (rw [k0]; exact (mtv_lt (by omega)).symm)
      refine mx_lsc (congrArg (fun z9 => ([some (.ref (mo)), some (.int (nI (a))), some (.int (nI (H))), some (.int (nI (0))), some (.int (z9)), some (.int (nI (b + 1))), none] : List (Option Value))) e4) ?_
      exact ih
    · skip
      refine mx_il3 d_Mo_wants_26 ?_
      refine mx_if_eq 43 d_Mo_wants_27 (by decide) (fun c_27 => ?_) (fun c_27 => absurd (by decide) c_27)
      refine mx_al0 d_Mo_wants_43 ?_
      refine mx_il5 d_Mo_wants_44 ?_
      refine mx_il1 d_Mo_wants_46 ?_
      refine mx_cV2i d_Mo_wants_47 (cm_mayMeet hM hm (h := b) (g := a) (by omega) (by omega)) ok_Mo_mayMeet ml_Mo_78 (by assumption) ⟨rfl, rfl⟩ (by decide) (Nat.le_of_ble_eq_true rfl) ?_
      refine mx_ifB_eq 57 d_Mo_wants_50 (by decide) (fun c_50 => ?_) (fun c_50 => ?_)
      · skip
        have k0 : gs_nwQ (LW m H G) lv a (b + 1) = (gs_nwQ (LW m H G) lv a b) := by rw [gs_nwQ_s, if_neg (fun z => by rw [decide_eq_true z, c_50] at hpk; simp at hpk)]
        refine mx_in_0 d_Mo_wants_57 ?_
        refine mx_is6 d_Mo_wants_58 ?_
        refine mx_il6 d_Mo_wants_60 ?_
        refine mx_if_eq 100 d_Mo_wants_62 (by decide) (fun c_62 => ?_) (fun c_62 => absurd (by decide) c_62)
        refine mx_iN5 d_Mo_wants_100 ?_
        refine mx_goto 6 d_Mo_wants_103 (by decide) ?_
        refine mx_dn6 ?_
        have e4 : (mtv (gs_nwQ (LW m H G) lv a b).1) = (mtv (gs_nwQ (LW m H G) lv a (b + 1)).1) := by first | (rw [k0]; done) | (rw [k0]; exact (mtv_lt (by omega)).symm)
        refine mx_lsc (congrArg (fun z9 => ([some (.ref (mo)), some (.int (nI (a))), some (.int (nI (H))), some (.int (nI (0))), some (.int (z9)), some (.int (nI (b + 1))), none] : List (Option Value))) e4) ?_
        exact ih
      · skip
        refine mx_in_1 d_Mo_wants_53 ?_
        refine mx_goto 58 d_Mo_wants_54 (by decide) ?_
        refine mx_is6 d_Mo_wants_58 ?_
        refine mx_il6 d_Mo_wants_60 ?_
        refine mx_if_eq 100 d_Mo_wants_62 (by decide) (fun c_62 => absurd c_62 (by decide)) (fun c_62 => ?_)
        refine mx_il3 d_Mo_wants_65 ?_
        refine mx_if_eq 84 d_Mo_wants_66 (by decide) (fun c_66 => ?_) (fun c_66 => absurd (by decide) c_66)
        refine mx_al0 d_Mo_wants_84 ?_
        refine mx_il1 d_Mo_wants_85 ?_
        refine mx_il5 d_Mo_wants_86 ?_
        refine mx_il4 d_Mo_wants_88 ?_
        refine mx_cV3i d_Mo_wants_90 (c_Mo_guestRather hM hm hr (h := b) (g := a) (by omega) (by omega)) ok_Mo_guestRather ml_Mo_362 (by assumption) ⟨rfl, rfl⟩ (by decide) (Nat.le_of_ble_eq_true rfl) ?_
        refine mx_ifB_eq 100 d_Mo_wants_93 (by decide) (fun c_93 => ?_) (fun c_93 => ?_)
        · skip
          have k0 : gs_nwQ (LW m H G) lv a (b + 1) = (gs_nwQ (LW m H G) lv a b) := by rw [gs_nwQ_s, if_neg (fun z => by rw [decide_eq_true z, c_93] at hpk; simp at hpk)]
          refine mx_iN5 d_Mo_wants_100 ?_
          refine mx_goto 6 d_Mo_wants_103 (by decide) ?_
          refine mx_dn6 ?_
          have e4 : (mtv (gs_nwQ (LW m H G) lv a b).1) = (mtv (gs_nwQ (LW m H G) lv a (b + 1)).1) := by first | (rw [k0]; done) | (rw [k0]; exact (mtv_lt (by omega)).symm)
          refine mx_lsc (congrArg (fun z9 => ([some (.ref (mo)), some (.int (nI (a))), some (.int (nI (H))), some (.int (nI (0))), some (.int (z9)), some (.int (nI (b + 1))), none] : List (Option Value))) e4) ?_
          exact ih
        · skip
          have k0 : gs_nwQ (LW m H G) lv a (b + 1) = (b, (LW m H G) a b) := by rw [gs_nwQ_s, if_pos (of_decide_eq_true (by rw [← hpk, c_23, c_50, c_93]; rfl))]
          refine mx_il5 d_Mo_wants_96 ?_
          refine mx_is4 d_Mo_wants_98 ?_
          refine mx_iN5 d_Mo_wants_100 ?_
          refine mx_goto 6 d_Mo_wants_103 (by decide) ?_
          refine mx_dn6 ?_
          have e4 : nI (b) = (mtv (gs_nwQ (LW m H G) lv a (b + 1)).1) := by first | (rw [k0]; done) | (rw [k0]; exact (mtv_lt (by omega)).symm)
          refine mx_lsc (congrArg (fun z9 => ([some (.ref (mo)), some (.int (nI (a))), some (.int (nI (H))), some (.int (nI (0))), some (.int (z9)), some (.int (nI (b + 1))), none] : List (Option Value))) e4) ?_
          exact ih
  · try dsimp only
    refine mx_il5 d_Mo_wants_6 ?_
    refine mx_il2 d_Mo_wants_8 ?_
    refine mx_icN_ge 106 d_Mo_wants_9 (by decide) (by omega) (by omega) (fun c_9 => ?_) (fun c_9 => absurd c_9 (by omega))
    refine mx_il4 d_Mo_wants_106 ?_
    exact mx_iret d_Mo_wants_108 rfl (mx_ri_of (by rw [gs_nwQ_more (by omega) (fun b h1 h2 => by have := (LW_may (m := m) (H := H) (G := G) (h := b) (g := a) hr hH8 hG8).mp; exact Nat.eq_zero_of_not_pos (fun z => absurd (this z).1.1 (by omega)))]))
theorem c_Mo_askedF (hM : mo_ok S P mo) (hm : I (mo + 1) = m) (hH : m 3 = nI H) (hH8 : H ≤ 8) (hG : m 4 = nI G) (hG8 : G ≤ 8) (hr : rk9 m) {I0 : mx_I} {rf : Nat → Int32} (hp : pm_inv I0 I mo (mo + 8) (mo + 7) mt an rf) (ha : a < 8) (hb : b < 8) (h0 : 0 < (WW m H G) b a) (hu : an b < 8 → 0 < (WW m H G) b (an b)) : mx_C l E M_Mo_asked 3 0 0 [.ref (mo), .int (nI (a)), .int (nI (b)), .int (nI (0))] (t, S, I, P, J) (mx_sR none t S P J (fun K => pm_inv I0 K mo (mo + 8) (mo + 7) (gs_mt (WW m H G) mt an a b) (gs_an (WW m H G) an a b) (gs_rf (WW m H G) an rf a b))) := by
  obtain ⟨hM0, hMp1, hMp2, hMp4, hMp5, hMp7, hMp14, hMp21, hMp22, hMp23, hMp24, hMp25, hMp26, hMp27, hMs1, hMs2, hMs3, hMs4, hMs5, hMs6, hMs7, hMs8, hMs9, hMs10, hMs11, hMs12, hMs13⟩ := id hM
  refine mx_C_of (ls0 := [some (.ref (mo)), some (.int (nI (a))), some (.int (nI (b))), some (.int (nI (0))), none, none]) (by decide +kernel) rfl rfl (Nat.le_of_ble_eq_true rfl) rfl ?_
  refine mx_il3 d_Mo_asked_0 ?_
  refine mx_if_eq 13 d_Mo_asked_1 (by decide) (fun c_1 => ?_) (fun c_1 => absurd (by decide) c_1)
  refine mx_al0 d_Mo_asked_13 ?_
  refine mx_getR d_Mo_asked_14 fl_Mo_32 (by assumption) (by assumption) ?_
  refine mx_il2 d_Mo_asked_17 ?_
  refine mx_iald d_Mo_asked_18 (by assumption) (nI_inb (by omega) (by omega)) ?_
  refine mx_ti (y := I (mo + 7) (b)) (by rw [nI_clamp (by omega)]) ?_
  refine mx_ti (y := (mtv (an b))) ((hp.2.1 b hb).2) ?_
  refine mx_is4 d_Mo_asked_19 ?_
  refine mx_il3 d_Mo_asked_21 ?_
  refine mx_if_eq 36 d_Mo_asked_22 (by decide) (fun c_22 => ?_) (fun c_22 => absurd (by decide) c_22)
  refine mx_al0 d_Mo_asked_36 ?_
  refine mx_il2 d_Mo_asked_37 ?_
  refine mx_il1 d_Mo_asked_38 ?_
  refine mx_il4 d_Mo_asked_39 ?_
  refine mx_cV3i d_Mo_asked_41 (c_Mo_hostRather hM hm hr (h := b) (g := a) (by omega) (by omega)) ok_Mo_hostRather ml_Mo_359 (by assumption) ⟨rfl, rfl⟩ (by decide) (Nat.le_of_ble_eq_true rfl) ?_
  have htk : vs_hr m (b) (a) (an b) = gs_tk (WW m H G) an a b := hr_W hr hH8 hG8 h0 hu
  refine mx_is5 d_Mo_asked_44 ?_
  refine mx_il5 d_Mo_asked_46 ?_
  refine mx_ifB_ne 64 d_Mo_asked_48 (by decide) (fun c_48 => ?_) (fun c_48 => ?_)
  · skip
    rw [htk] at c_48
    refine mx_il4 d_Mo_asked_64 ?_
    refine mx_ic_m1 d_Mo_asked_66 ?_
    refine mx_icmp_eq 106 d_Mo_asked_67 (by decide) (fun c_67 => ?_) (fun c_67 => ?_)
    · skip
      have o8 := mtv_e c_67
      refine mx_il3 d_Mo_asked_106 ?_
      refine mx_if_eq 127 d_Mo_asked_107 (by decide) (fun c_107 => ?_) (fun c_107 => absurd (by decide) c_107)
      refine mx_al0 d_Mo_asked_127 ?_
      refine mx_getR d_Mo_asked_128 fl_Mo_35 (by assumption) (by assumption) ?_
      refine mx_il1 d_Mo_asked_131 ?_
      refine mx_il2 d_Mo_asked_132 ?_
      refine mx_iast d_Mo_asked_133 (by assumption) (nI_inb (by omega) (by omega)) ?_
      rw [nI_clamp (by omega)]
      refine mx_al0 d_Mo_asked_134 ?_
      refine mx_getR d_Mo_asked_135 fl_Mo_32 (by assumption) (by assumption) ?_
      refine mx_il2 d_Mo_asked_138 ?_
      refine mx_il1 d_Mo_asked_139 ?_
      refine mx_iast d_Mo_asked_140 (by assumption) (nI_inb (by omega) (by omega)) ?_
      rw [nI_clamp (by omega)]
      exact mx_vret d_Mo_asked_141 rfl (mx_sR_of rfl (pm_1 (Or.inr ⟨rfl, rfl⟩) ha hb hp c_48 o8))
    · skip
      have o8 := mtv_n c_67
      rw [mtv_lt o8]
      refine mx_al0 d_Mo_asked_70 ?_
      refine mx_getR d_Mo_asked_71 fl_Mo_38 (by assumption) (by assumption) ?_
      refine mx_il4 d_Mo_asked_74 ?_
      refine mx_dup2 d_Mo_asked_76 rfl rfl ?_
      refine mx_iald d_Mo_asked_77 (by assumption) (nI_inb (by omega) (by omega)) ?_
      refine mx_ti (y := I (mo + 9) (an b)) (by rw [nI_clamp (by omega)]) ?_
      refine mx_ti (y := (rf (an b))) (hp.2.2 (an b) o8) ?_
      refine mx_in_1 d_Mo_asked_78 ?_
      refine mx_il2 d_Mo_asked_79 ?_
      refine mx_ishl d_Mo_asked_80 ?_
      refine mx_ior d_Mo_asked_81 ?_
      refine mx_iast d_Mo_asked_82 (by assumption) (nI_inb (by omega) (by omega)) ?_
      rw [nI_clamp (by omega)]
      refine mx_il3 d_Mo_asked_83 ?_
      refine mx_if_eq 98 d_Mo_asked_84 (by decide) (fun c_84 => ?_) (fun c_84 => absurd (by decide) c_84)
      refine mx_al0 d_Mo_asked_98 ?_
      refine mx_getR d_Mo_asked_99 fl_Mo_35 (by assumption) (by assumption) ?_
      refine mx_il4 d_Mo_asked_102 ?_
      refine mx_ic_m1 d_Mo_asked_104 ?_
      refine mx_iast d_Mo_asked_105 (by assumption) (nI_inb (by omega) (by omega)) ?_
      rw [nI_clamp (by omega)]
      refine mx_il3 d_Mo_asked_106 ?_
      refine mx_if_eq 127 d_Mo_asked_107 (by decide) (fun c_107 => ?_) (fun c_107 => absurd (by decide) c_107)
      refine mx_al0 d_Mo_asked_127 ?_
      refine mx_getR d_Mo_asked_128 fl_Mo_35 (by assumption) (by assumption) ?_
      refine mx_il1 d_Mo_asked_131 ?_
      refine mx_il2 d_Mo_asked_132 ?_
      refine mx_iast d_Mo_asked_133 (by assumption) (nI_inb (by omega) (by omega)) ?_
      rw [nI_clamp (by omega)]
      refine mx_al0 d_Mo_asked_134 ?_
      refine mx_getR d_Mo_asked_135 fl_Mo_32 (by assumption) (by assumption) ?_
      refine mx_il2 d_Mo_asked_138 ?_
      refine mx_il1 d_Mo_asked_139 ?_
      refine mx_iast d_Mo_asked_140 (by assumption) (nI_inb (by omega) (by omega)) ?_
      rw [nI_clamp (by omega)]
      exact mx_vret d_Mo_asked_141 rfl (mx_sR_of rfl (pm_2 (Or.inr ⟨rfl, rfl⟩) ha hb hp c_48 o8))
  · skip
    rw [htk] at c_48
    refine mx_al0 d_Mo_asked_51 ?_
    refine mx_getR d_Mo_asked_52 fl_Mo_38 (by assumption) (by assumption) ?_
    refine mx_il1 d_Mo_asked_55 ?_
    refine mx_dup2 d_Mo_asked_56 rfl rfl ?_
    refine mx_iald d_Mo_asked_57 (by assumption) (nI_inb (by omega) (by omega)) ?_
    refine mx_ti (y := I (mo + 9) (a)) (by rw [nI_clamp (by omega)]) ?_
    refine mx_ti (y := (rf a)) (hp.2.2 a ha) ?_
    refine mx_in_1 d_Mo_asked_58 ?_
    refine mx_il2 d_Mo_asked_59 ?_
    refine mx_ishl d_Mo_asked_60 ?_
    refine mx_ior d_Mo_asked_61 ?_
    refine mx_iast d_Mo_asked_62 (by assumption) (nI_inb (by omega) (by omega)) ?_
    rw [nI_clamp (by omega)]
    exact mx_vret d_Mo_asked_63 rfl (mx_sR_of rfl (pm_0 (Or.inr ⟨rfl, rfl⟩) hp c_48))
theorem c_Mo_pairsF (hM : mo_ok S P mo) (hm : I (mo + 1) = m) (hH : m 3 = nI H) (hH8 : H ≤ 8) (hG : m 4 = nI G) (hG8 : G ≤ 8) (hr : rk9 m) : mx_C l E M_Mo_pairs 4 0 0 [.ref (mo), .int (nI (0))] (t, S, I, P, J) (mx_sR none t S P J (fun K => mx_off (pz3 mo) I K ∧ ∀ j, j < 8 → K (mo + 8) j = mtv ((gs_E (LW m H G) (WW m H G)).1 j) ∧ K (mo + 7) j = mtv ((gs_E (LW m H G) (WW m H G)).2.1 j))) := by
  obtain ⟨hM0, hMp1, hMp2, hMp4, hMp5, hMp7, hMp14, hMp21, hMp22, hMp23, hMp24, hMp25, hMp26, hMp27, hMs1, hMs2, hMs3, hMs4, hMs5, hMs6, hMs7, hMs8, hMs9, hMs10, hMs11, hMs12, hMs13⟩ := id hM
  have hm0 := hm
  refine mx_C_of (ls0 := [some (.ref (mo)), some (.int (nI (0))), none, none, none, none, none]) (by decide +kernel) rfl rfl (Nat.le_of_ble_eq_true rfl) rfl ?_
  refine mx_il1 d_Mo_pairs_0 ?_
  refine mx_if_eq 13 d_Mo_pairs_1 (by decide) (fun c_1 => ?_) (fun c_1 => absurd (by decide) c_1)
  refine mx_al0 d_Mo_pairs_13 ?_
  refine mx_getR d_Mo_pairs_14 fl_Mo_7 (by assumption) (by assumption) ?_
  refine mx_in_4 d_Mo_pairs_17 ?_
  refine mx_iald d_Mo_pairs_18 (by assumption) (nI_inb (by omega) (by omega)) ?_
  refine mx_ti (y := I (mo + 1) (4)) (by rw [nI_clamp (by omega)]) ?_
  refine mx_ti (y := nI (G)) ((congrFun hm 4).trans hG) ?_
  refine mx_is2 d_Mo_pairs_19 ?_
  refine mx_il1 d_Mo_pairs_20 ?_
  refine mx_if_eq 33 d_Mo_pairs_21 (by decide) (fun c_21 => ?_) (fun c_21 => absurd (by decide) c_21)
  refine mx_al0 d_Mo_pairs_33 ?_
  refine mx_getR d_Mo_pairs_34 fl_Mo_7 (by assumption) (by assumption) ?_
  refine mx_in_3 d_Mo_pairs_37 ?_
  refine mx_iald d_Mo_pairs_38 (by assumption) (nI_inb (by omega) (by omega)) ?_
  refine mx_ti (y := I (mo + 1) (3)) (by rw [nI_clamp (by omega)]) ?_
  refine mx_ti (y := nI (H)) ((congrFun hm 3).trans hH) ?_
  refine mx_is3 d_Mo_pairs_39 ?_
  refine mx_in_0 d_Mo_pairs_40 ?_
  refine mx_is4 d_Mo_pairs_41 ?_
  refine mx_loopX (α := (mx_I)) (N := 8) (a0 := I) (fun i z9 => p0_inv I z9 mo i) (ls := fun i z9 => [some (.ref (mo)), some (.int (nI (0))), some (.int (nI (G))), some (.int (nI (H))), some (.int (nI (i))), none, none]) (X := fun i z9 => (t, S, z9, P, J)) (⟨mx_off.rf, fun j hj => absurd hj (by omega)⟩) (fun i hi z9 hinv ih => ?_) (fun z9 hinv => ?_)
  · skip
    obtain ⟨K, hz9⟩ : ∃ q, q = z9 := ⟨_, rfl⟩
    subst hz9
    try dsimp only at hinv ih ⊢
    refine mx_il4 d_Mo_pairs_43 ?_
    refine mx_bip 8 d_Mo_pairs_45 (by decide) ?_
    refine mx_icN_ge 80 d_Mo_pairs_47 (by decide) (by omega) (by omega) (fun c_47 => absurd c_47 (by omega)) (fun c_47 => ?_)
    refine mx_al0 d_Mo_pairs_50 ?_
    refine mx_getR d_Mo_pairs_51 fl_Mo_32 (by assumption) (by assumption) ?_
    refine mx_il4 d_Mo_pairs_54 ?_
    refine mx_ic_m1 d_Mo_pairs_56 ?_
    refine mx_iast d_Mo_pairs_57 (by assumption) (nI_inb (by omega) (by omega)) ?_
    rw [nI_clamp (by omega)]
    refine mx_al0 d_Mo_pairs_58 ?_
    refine mx_getR d_Mo_pairs_59 fl_Mo_35 (by assumption) (by assumption) ?_
    refine mx_il4 d_Mo_pairs_62 ?_
    refine mx_ic_m1 d_Mo_pairs_64 ?_
    refine mx_iast d_Mo_pairs_65 (by assumption) (nI_inb (by omega) (by omega)) ?_
    rw [nI_clamp (by omega)]
    refine mx_al0 d_Mo_pairs_66 ?_
    refine mx_getR d_Mo_pairs_67 fl_Mo_38 (by assumption) (by assumption) ?_
    refine mx_il4 d_Mo_pairs_70 ?_
    refine mx_in_0 d_Mo_pairs_72 ?_
    refine mx_iast d_Mo_pairs_73 (by assumption) (nI_inb (by omega) (by omega)) ?_
    rw [nI_clamp (by omega)]
    refine mx_iN4 d_Mo_pairs_74 ?_
    refine mx_goto 43 d_Mo_pairs_77 (by decide) ?_
    exact ih (mx_up (mx_up (mx_up K (mo + 7) (i) ((-1))) (mo + 8) (i) ((-1))) (mo + 9) (i) (nI (0))) (p0_step hinv)
  · skip
    obtain ⟨K, hz9⟩ : ∃ q, q = z9 := ⟨_, rfl⟩
    subst hz9
    try dsimp only at hinv ⊢
    refine mx_il4 d_Mo_pairs_43 ?_
    refine mx_bip 8 d_Mo_pairs_45 (by decide) ?_
    refine mx_icN_ge 80 d_Mo_pairs_47 (by decide) (by omega) (by omega) (fun c_47 => ?_) (fun c_47 => absurd c_47 (by omega))
    refine mx_in_1 d_Mo_pairs_80 ?_
    refine mx_is4 d_Mo_pairs_81 ?_
    refine mx_lsc (congrArg (fun z9 => ([some (.ref (mo)), some (.int (nI (0))), some (.int (nI (G))), some (.int (nI (H))), some (.int (z9)), none, none] : List (Option Value))) (rfl)) ?_
    refine mx_loopX (α := (mx_I)) (N := 66) (a0 := K) (fun k z9 => (∀ j, j < k → (gs_it (LW m H G) (WW m H G) j).2 = true) ∧ ∃ rf, pm_inv I z9 mo (mo + 8) (mo + 7) (gs_it (LW m H G) (WW m H G) k).1.1 (gs_it (LW m H G) (WW m H G) k).1.2.1 rf ∧ rf_ok (LW m H G) (gs_it (LW m H G) (WW m H G) k).1 rf) (ls := fun k z9 => [some (.ref (mo)), some (.int (nI (0))), some (.int (nI (G))), some (.int (nI (H))), some (.int (bI ((gs_it (LW m H G) (WW m H G) k).2))), none, none]) (X := fun k z9 => (t, S, z9, P, J)) (⟨fun j hj => absurd hj (by omega), _, p0_end hinv (Or.inr ⟨rfl, rfl⟩), rf_ok_0 (fun a b ha hb => LW_le hr hb ha)⟩) (fun k hk z9 hinv ih => ?_) (fun z9 hinv => ?_)
    · skip
      obtain ⟨K, hz9⟩ : ∃ q, q = z9 := ⟨_, rfl⟩
      subst hz9
      try dsimp only at hinv ih ⊢
      have hm : K (mo + 1) = m := by obtain ⟨-, rf, hp, -⟩ := hinv; rw [hp.1 _ (by unfold pz3; omega)]; exact hm0
      refine mx_il4 d_Mo_pairs_83 ?_
      refine mx_ifB_eq 169 d_Mo_pairs_85 (by decide) (fun c_85 => ?_) (fun c_85 => ?_)
      · skip
        exact mx_vret d_Mo_pairs_169 rfl (mx_sR_of rfl (by obtain ⟨-, rf, hp, -⟩ := hinv; have e := gs_E_fin c_85; rw [← e.1, ← e.2]; exact ⟨hp.1, hp.2.1⟩))
      · skip
        refine mx_in_0 d_Mo_pairs_88 ?_
        refine mx_is4 d_Mo_pairs_89 ?_
        refine mx_in_0 d_Mo_pairs_91 ?_
        refine mx_is5 d_Mo_pairs_92 ?_
        refine mx_lsc (congrArg (fun z9 => ([some (.ref (mo)), some (.int (nI (0))), some (.int (nI (G))), some (.int (nI (H))), some (.int (z9)), some (.int (nI (0))), none] : List (Option Value))) (rfl)) ?_
        have ih83 := ih
        have hinv83 := hinv
        refine mx_loopX (α := (mx_I)) (N := G) (a0 := K) (fun a z9 => ∃ rf, pm_inv I z9 mo (mo + 8) (mo + 7) (gs_rd (LW m H G) (WW m H G) (gs_it (LW m H G) (WW m H G) k).1 a).1 (gs_rd (LW m H G) (WW m H G) (gs_it (LW m H G) (WW m H G) k).1 a).2.1 rf ∧ rf_ok (LW m H G) (gs_rd (LW m H G) (WW m H G) (gs_it (LW m H G) (WW m H G) k).1 a) rf) (ls := fun a z9 => [some (.ref (mo)), some (.int (nI (0))), some (.int (nI (G))), some (.int (nI (H))), some (.int (bI (gs_fl (LW m H G) (WW m H G) (gs_it (LW m H G) (WW m H G) k).1 a))), some (.int (nI (a))), none]) (X := fun a z9 => (t, S, z9, P, J)) (hinv.2) (fun a ha z9 hinv ih => ?_) (fun z9 hinv => ?_)
        · skip
          obtain ⟨K, hz9⟩ : ∃ q, q = z9 := ⟨_, rfl⟩
          subst hz9
          try dsimp only at hinv ih ⊢
          obtain ⟨rf, hp, hrf⟩ := hinv
          have hm : K (mo + 1) = m := by rw [hp.1 _ (by unfold pz3; omega)]; exact hm0
          have hok : gs_ok (LW m H G) (gs_rd (LW m H G) (WW m H G) (gs_it (LW m H G) (WW m H G) k).1 a) := gs_ok_rd (gs_ok_it (LW m H G) (WW m H G) k) (by omega)
          refine mx_il5 d_Mo_pairs_94 ?_
          refine mx_il2 d_Mo_pairs_96 ?_
          refine mx_icN_ge 166 d_Mo_pairs_97 (by decide) (by omega) (by omega) (fun c_97 => absurd c_97 (by omega)) (fun c_97 => ?_)
          refine mx_il1 d_Mo_pairs_100 ?_
          refine mx_if_eq 114 d_Mo_pairs_101 (by decide) (fun c_101 => ?_) (fun c_101 => absurd (by decide) c_101)
          refine mx_al0 d_Mo_pairs_114 ?_
          refine mx_getR d_Mo_pairs_115 fl_Mo_35 (by assumption) (by assumption) ?_
          refine mx_il5 d_Mo_pairs_118 ?_
          refine mx_iald d_Mo_pairs_120 (by assumption) (nI_inb (by omega) (by omega)) ?_
          refine mx_ti (y := K (mo + 8) (a)) (by rw [nI_clamp (by omega)]) ?_
          refine mx_ti (y := (mtv ((gs_rd (LW m H G) (WW m H G) (gs_it (LW m H G) (WW m H G) k).1 a).1 a))) ((hp.2.1 a (by omega)).1) ?_
          refine mx_ic_m1 d_Mo_pairs_121 ?_
          refine mx_icmp_ne 136 d_Mo_pairs_122 (by decide) (fun c_122 => ?_) (fun c_122 => ?_)
          · skip
            have u8 := mtv_n c_122
            obtain ⟨k1, k0⟩ := gs_turn_1 (W := (LW m H G)) (A := (WW m H G)) u8
            refine mx_ic_m1 d_Mo_pairs_136 ?_
            refine mx_is6 d_Mo_pairs_137 ?_
            refine mx_il6 d_Mo_pairs_139 ?_
            refine mx_ic_m1 d_Mo_pairs_141 ?_
            refine mx_icmp_ne 148 d_Mo_pairs_142 (by decide) (fun c_142 => absurd c_142 (fun z => z rfl)) (fun c_142 => ?_)
            refine mx_goto 160 d_Mo_pairs_145 (by decide) ?_
            refine mx_iN5 d_Mo_pairs_160 ?_
            refine mx_goto 94 d_Mo_pairs_163 (by decide) ?_
            refine mx_dn6 ?_
            have e4 : bI (gs_fl (LW m H G) (WW m H G) (gs_it (LW m H G) (WW m H G) k).1 a) = bI (gs_fl (LW m H G) (WW m H G) (gs_it (LW m H G) (WW m H G) k).1 (a + 1)) := by rw [gs_fl_s, k0]; first | (rw [Bool.or_false]; done) | (rw [Bool.or_true]; rfl)
            refine mx_lsc (congrArg (fun z9 => ([some (.ref (mo)), some (.int (nI (0))), some (.int (nI (G))), some (.int (nI (H))), some (.int (z9)), some (.int (nI (a + 1))), none] : List (Option Value))) e4) ?_
            exact ih K (by rw [gs_rd_s, k1]; first | exact ⟨rf, hp, rf_ok_none hrf u8 v8⟩ | exact ⟨rf, hp, hrf⟩)
          · skip
            have u8 := mtv_e c_122
            refine mx_al0 d_Mo_pairs_125 ?_
            refine mx_il5 d_Mo_pairs_126 ?_
            refine mx_il3 d_Mo_pairs_128 ?_
            refine mx_il1 d_Mo_pairs_129 ?_
            refine mx_cV3i d_Mo_pairs_130 (c_Mo_wantsF hM hm hH hH8 hG hG8 hr (lv := (gs_rd (LW m H G) (WW m H G) (gs_it (LW m H G) (WW m H G) k).1 a).2.2 a) (a := a) (by omega) (hp.2.2 a (by omega)) (fun b hb h0 => by rw [hrf a b (by omega) hb h0]; exact ⟨fun z => z.1, fun z => ⟨z, fun z2 => u8 (by rw [z2]; exact hb)⟩⟩)) ok_Mo_wants ml_Mo_351 (by assumption) ⟨rfl, rfl⟩ (by decide) (Nat.le_of_ble_eq_true rfl) ?_
            refine mx_goto 137 d_Mo_pairs_133 (by decide) ?_
            refine mx_is6 d_Mo_pairs_137 ?_
            refine mx_il6 d_Mo_pairs_139 ?_
            refine mx_ic_m1 d_Mo_pairs_141 ?_
            refine mx_icmp_ne 148 d_Mo_pairs_142 (by decide) (fun c_142 => ?_) (fun c_142 => ?_)
            · skip
              have v8 := mtv_n c_142
              rw [mtv_lt v8]
              obtain ⟨k1, k0⟩ := gs_turn_3 (W := (LW m H G)) (A := (WW m H G)) u8 v8
              have pA : 0 < (WW m H G) (gs_nw (LW m H G) ((gs_rd (LW m H G) (WW m H G) (gs_it (LW m H G) (WW m H G) k).1 a).2.2 a) a).1 a := by have z := (gs_nw_is (LW m H G) ((gs_rd (LW m H G) (WW m H G) (gs_it (LW m H G) (WW m H G) k).1 a).2.2 a) a).2; have z2 : 0 < (LW m H G) a (gs_nw (LW m H G) ((gs_rd (LW m H G) (WW m H G) (gs_it (LW m H G) (WW m H G) k).1 a).2.2 a) a).1 := (by rcases z with ⟨a1, -⟩ | ⟨a1, a2, a3, -⟩; omega; omega); rw [WW_may hr hH8 hG8]; exact (LW_may hr hH8 hG8).mp z2
              have pU : (gs_rd (LW m H G) (WW m H G) (gs_it (LW m H G) (WW m H G) k).1 a).2.1 (gs_nw (LW m H G) ((gs_rd (LW m H G) (WW m H G) (gs_it (LW m H G) (WW m H G) k).1 a).2.2 a) a).1 < 8 → 0 < (WW m H G) (gs_nw (LW m H G) ((gs_rd (LW m H G) (WW m H G) (gs_it (LW m H G) (WW m H G) k).1 a).2.2 a) a).1 ((gs_rd (LW m H G) (WW m H G) (gs_it (LW m H G) (WW m H G) k).1 a).2.1 (gs_nw (LW m H G) ((gs_rd (LW m H G) (WW m H G) (gs_it (LW m H G) (WW m H G) k).1 a).2.2 a) a).1) := fun z => by have z1 := hok.2.1 (gs_nw (LW m H G) ((gs_rd (LW m H G) (WW m H G) (gs_it (LW m H G) (WW m H G) k).1 a).2.2 a) a).1 v8 z; have z2 := (hok.1 _ z (by rw [z1]; exact v8)).2.1; rw [z1] at z2; rw [WW_may hr hH8 hG8]; exact (LW_may hr hH8 hG8).mp z2
              refine mx_al0 d_Mo_pairs_148 ?_
              refine mx_il5 d_Mo_pairs_149 ?_
              refine mx_il6 d_Mo_pairs_151 ?_
              refine mx_il1 d_Mo_pairs_153 ?_
              refine mx_cV3vR d_Mo_pairs_154 (c_Mo_askedF hM hm hH hH8 hG hG8 hr (a := a) (b := (gs_nw (LW m H G) ((gs_rd (LW m H G) (WW m H G) (gs_it (LW m H G) (WW m H G) k).1 a).2.2 a) a).1) hp (by omega) (by omega) pA pU) ok_Mo_asked ml_Mo_355 (by assumption) ⟨rfl, rfl⟩ (by decide) (Nat.le_of_ble_eq_true rfl) (fun K2 hK2 => ?_)
              refine mx_in_1 d_Mo_pairs_157 ?_
              refine mx_is4 d_Mo_pairs_158 ?_
              refine mx_iN5 d_Mo_pairs_160 ?_
              refine mx_goto 94 d_Mo_pairs_163 (by decide) ?_
              refine mx_dn6 ?_
              have e4 : nI (1) = bI (gs_fl (LW m H G) (WW m H G) (gs_it (LW m H G) (WW m H G) k).1 (a + 1)) := by rw [gs_fl_s, k0]; first | (rw [Bool.or_false]; done) | (rw [Bool.or_true]; rfl)
              refine mx_lsc (congrArg (fun z9 => ([some (.ref (mo)), some (.int (nI (0))), some (.int (nI (G))), some (.int (nI (H))), some (.int (z9)), some (.int (nI (a + 1))), none] : List (Option Value))) e4) ?_
              exact ih K2 (by rw [gs_rd_s, k1]; exact ⟨_, hK2, rf_ok_ask hok (LW_inj H G) hrf (by omega) u8 v8⟩)
            · skip
              have v8 := mtv_e c_142
              obtain ⟨k1, k0⟩ := gs_turn_2 (W := (LW m H G)) (A := (WW m H G)) u8 v8
              refine mx_goto 160 d_Mo_pairs_145 (by decide) ?_
              refine mx_iN5 d_Mo_pairs_160 ?_
              refine mx_goto 94 d_Mo_pairs_163 (by decide) ?_
              refine mx_dn6 ?_
              have e4 : bI (gs_fl (LW m H G) (WW m H G) (gs_it (LW m H G) (WW m H G) k).1 a) = bI (gs_fl (LW m H G) (WW m H G) (gs_it (LW m H G) (WW m H G) k).1 (a + 1)) := by rw [gs_fl_s, k0]; first | (rw [Bool.or_false]; done) | (rw [Bool.or_true]; rfl)
              refine mx_lsc (congrArg (fun z9 => ([some (.ref (mo)), some (.int (nI (0))), some (.int (nI (G))), some (.int (nI (H))), some (.int (z9)), some (.int (nI (a + 1))), none] : List (Option Value))) e4) ?_
              exact ih K (by rw [gs_rd_s, k1]; first | exact ⟨rf, hp, rf_ok_none hrf u8 v8⟩ | exact ⟨rf, hp, hrf⟩)
        · skip
          obtain ⟨K, hz9⟩ : ∃ q, q = z9 := ⟨_, rfl⟩
          subst hz9
          try dsimp only at hinv ⊢
          obtain ⟨rf, hp, hrf⟩ := hinv
          obtain ⟨e1, e2, e3, e4⟩ := gs_pad (A := (WW m H G)) (gs_ok_it (LW m H G) (WW m H G) k) (n := G) (by omega) (fun a b h1 h2 h3 => Nat.eq_zero_of_not_pos (fun z => absurd ((LW_may (m := m) (H := H) (G := G) (h := b) (g := a) hr hH8 hG8).mp z).1.2 (by omega)))
          have hp8 := hp
          rw [e1, e2] at hp8
          have hrf8 := e4 rf hrf
          refine mx_il5 d_Mo_pairs_94 ?_
          refine mx_il2 d_Mo_pairs_96 ?_
          refine mx_icN_ge 166 d_Mo_pairs_97 (by decide) (by omega) (by omega) (fun c_97 => ?_) (fun c_97 => absurd c_97 (by omega))
          refine mx_goto 83 d_Mo_pairs_166 (by decide) ?_
          refine mx_dn5 ?_
          have e4 : bI (gs_fl (LW m H G) (WW m H G) (gs_it (LW m H G) (WW m H G) k).1 G) = bI ((gs_it (LW m H G) (WW m H G) (k + 1)).2) := by rw [gs_it_s, if_pos c_85]; dsimp only; rw [e3]
          refine mx_lsc (congrArg (fun z9 => ([some (.ref (mo)), some (.int (nI (0))), some (.int (nI (G))), some (.int (nI (H))), some (.int (z9)), none, none] : List (Option Value))) e4) ?_
          exact ih K (⟨vs_nextT hinv83.1 c_85, rf, by rw [gs_it_s, if_pos c_85]; dsimp only; exact hp8, by rw [gs_it_s, if_pos c_85]; dsimp only; exact hrf8⟩)
    · skip
      obtain ⟨K, hz9⟩ : ∃ q, q = z9 := ⟨_, rfl⟩
      subst hz9
      try dsimp only at hinv ⊢
      exact absurd (gs_it_no (hinv.1 65 (by omega))) (by omega)
theorem c_Mo_guestBest (hM : mo_ok S P mo) (hm : I (mo + 1) = m) (hH : m 3 = nI H) (hH8 : H ≤ 8) (hG : m 4 = nI G) (hG8 : G ≤ 8) (hr : rk9 m) {v : Int32} : mx_C l E M_Mo_guestBest 5 0 0 [.ref (mo), .int (v)] (t, S, I, P, J) (mx_sR (some (.int (sp_guestBest m H G v).2)) t S P J (fun K => mx_off (pz3 mo) (mx_up I mo 0 (nI (sp_guestBest m H G v).1)) K)) := by
  obtain ⟨hM0, hMp1, hMp2, hMp4, hMp5, hMp7, hMp14, hMp21, hMp22, hMp23, hMp24, hMp25, hMp26, hMp27, hMs1, hMs2, hMs3, hMs4, hMs5, hMs6, hMs7, hMs8, hMs9, hMs10, hMs11, hMs12, hMs13⟩ := id hM
  refine mx_C_of (ls0 := [some (.ref (mo)), some (.int (v))]) (by decide +kernel) rfl rfl (Nat.le_of_ble_eq_true rfl) rfl ?_
  refine mx_al0 d_Mo_guestBest_0 ?_
  refine mx_al0 d_Mo_guestBest_1 ?_
  refine mx_il1 d_Mo_guestBest_2 ?_
  refine mx_cV1i d_Mo_guestBest_3 (cm_isHost hM hm hH hH8) ok_Mo_isHost ml_Mo_310 (by assumption) ⟨rfl, rfl⟩ (by decide) (Nat.le_of_ble_eq_true rfl) ?_
  refine mx_ifB_ne 13 d_Mo_guestBest_6 (by decide) (fun c_6 => ?_) (fun c_6 => ?_)
  · skip
    obtain ⟨h, hhL, rfl⟩ := vs_isN_of (by omega) c_6
    have hhc : (nI h).toNatClampNeg = h := nI_clamp (by omega)
    have hhL8 : h < 8 := by omega
    refine mx_in_0 d_Mo_guestBest_13 ?_
    refine mx_putI d_Mo_guestBest_14 fl_Mo_54 (by assumption) ?_
    refine mx_al0 d_Mo_guestBest_17 ?_
    refine mx_getI d_Mo_guestBest_18 fl_Mo_54 (by assumption) ?_
    refine mx_ti (y := nI (0)) (vs_upx) ?_
    refine mx_if_le 26 d_Mo_guestBest_21 (by decide) (fun c_21 => ?_) (fun c_21 => absurd (by decide) c_21)
    refine mx_al0 d_Mo_guestBest_26 ?_
    refine mx_in_0 d_Mo_guestBest_27 ?_
    refine mx_cV1vR d_Mo_guestBest_28 (c_Mo_pairsF hM (vs_hm hm) hH hH8 hG hG8 hr) ok_Mo_pairs ml_Mo_365 (by assumption) ⟨rfl, rfl⟩ (by decide) (Nat.le_of_ble_eq_true rfl) (fun K hK => ?_)
    refine mx_al0 d_Mo_guestBest_31 ?_
    refine mx_getR d_Mo_guestBest_32 fl_Mo_32 (by assumption) (by assumption) ?_
    refine mx_il1 d_Mo_guestBest_35 ?_
    refine mx_iald d_Mo_guestBest_36 (by assumption) (nI_inb (by omega) (by omega)) ?_
    refine mx_ti (y := K (mo + 7) (h)) (by rw [nI_clamp (by omega)]) ?_
    refine mx_ti (y := (mtv ((gs_E (LW m H G) (WW m H G)).2.1 h))) ((hK.2 h (by omega)).2) ?_
    exact mx_iret d_Mo_guestBest_37 rfl (mx_sR_i (by simp [sp_guestBest, *]) (by rw [show (sp_guestBest m H G _).1 = 0 from by simp [sp_guestBest, *]]; exact hK.1))
  · skip
    refine mx_in_1 d_Mo_guestBest_9 ?_
    refine mx_goto 14 d_Mo_guestBest_10 (by decide) ?_
    refine mx_putI d_Mo_guestBest_14 fl_Mo_54 (by assumption) ?_
    refine mx_al0 d_Mo_guestBest_17 ?_
    refine mx_getI d_Mo_guestBest_18 fl_Mo_54 (by assumption) ?_
    refine mx_ti (y := nI (1)) (vs_upx) ?_
    refine mx_if_le 26 d_Mo_guestBest_21 (by decide) (fun c_21 => absurd c_21 (by decide)) (fun c_21 => ?_)
    refine mx_in_0 d_Mo_guestBest_24 ?_
    exact mx_iret d_Mo_guestBest_25 rfl (mx_sR_i (by simp [sp_guestBest, *]) (by rw [show (sp_guestBest m H G _).1 = 1 from by simp [sp_guestBest, *]]; exact mx_off.rf))
end AC37
