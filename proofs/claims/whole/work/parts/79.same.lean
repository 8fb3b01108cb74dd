/-! A TEXT IS READ UP TO ITS LENGTH -/
section BL79
variable {f g : Nat → Nat} {L a n : Nat} {p q : Nat → Bool}
theorem tqs_rn : ∀ n a, (∀ i, a ≤ i → i < a + n → p i = q i) → tq_rn p n a = tq_rn q n a
  | 0, a, _ => rfl
  | n + 1, a, h => by
    unfold tq_rn
    rw [h a (Nat.le_refl _) (by omega), tqs_rn n (a + 1) (fun i h1 h2 => h i (by omega) (by omega))]
theorem tqs_re (h : ∀ i, i < L → p i = q i) : tq_re p L a = tq_re q L a := tqs_rn _ _ (fun i h1 h2 => h i (by omega))
theorem tqs_sk (h : ∀ i, i < L → f i = g i) : tq_sk f L a = tq_sk g L a := tqs_re (fun i hi => by rw [h i hi])
theorem tqs_lz (h : ∀ i, i < L → f i = g i) : tq_lz f L a = tq_lz g L a := tqs_re (fun i hi => by rw [h i hi])
theorem tqs_fe (h : ∀ i, i < L → f i = g i) : tq_fe f L a = tq_fe g L a := tqs_re (fun i hi => by rw [h i hi])
theorem tqs_en (h : ∀ i, i < L → f i = g i) (ha : a < L) : tq_en f L a = tq_en g L a := by
  unfold tq_en
  rw [h a ha, tqs_lz h, tqs_fe h]
theorem tqs_b (h : ∀ i, i < L → f i = g i) : ∀ t, tq_b f L t = tq_b g L t
  | 0 => tqs_sk h
  | t + 1 => by
    have e := tqs_b h t
    show (if tq_b f L t < L then tq_sk f L (tq_en f L (tq_b f L t)) else tq_b f L t) = if tq_b g L t < L then tq_sk g L (tq_en g L (tq_b g L t)) else tq_b g L t
    rw [← e]
    split
    · rename_i hl; rw [tqs_en h hl, tqs_sk h]
    · rfl
theorem tqs_w (h : ∀ i, i < L → f i = g i) {e : Nat} {w : List Nat} (he : e ≤ L) : tq_w f a e w = tq_w g a e w := by
  unfold tq_w
  by_cases hl : e - a = w.length
  · congr 1
    refine decide_eq_decide.mpr (forall_congr' fun i => ?_)
    constructor
    · intro z hi; rw [← h (a + i) (by omega)]; exact z hi
    · intro z hi; rw [h (a + i) (by omega)]; exact z hi
  · rw [decide_eq_false hl, Bool.false_and, Bool.false_and]
theorem tqs_wd (h : ∀ i, i < L → f i = g i) {e : Nat} (he : e ≤ L) : tq_wd f a e = tq_wd g a e := by
  unfold tq_wd
  have : (fun q : List Nat × Nat => tq_w f a e q.1) = fun q => tq_w g a e q.1 := funext fun q => tqs_w h he
  rw [this]
theorem tqs_k (h : ∀ i, i < L → f i = g i) : tq_k f L a = tq_k g L a := by
  unfold tq_k
  split
  · rename_i hl
    have e := (tq_en_gt (f := f) hl).2
    rw [tqs_wd h e, tqs_en h hl, h a hl]
  · rfl
theorem tqs_nm (h : ∀ i, i < L → f i = g i) : ∀ n, a + n ≤ L → tq_nm f a n = tq_nm g a n
  | 0, _ => rfl
  | n + 1, hn => by
    unfold tq_nm
    rw [tqs_nm h n (by omega), h (a + n) (by omega)]
theorem tqs_ms (h : ∀ i, i < L → f i = g i) : ∀ n, a + n ≤ L → tq_ms f a n = tq_ms g a n
  | 0, _ => rfl
  | n + 1, hn => by
    unfold tq_ms
    rw [tqs_ms h n (by omega), h (a + n) (by omega)]
theorem tqs_v (h : ∀ i, i < L → f i = g i) : tq_v f L a = tq_v g L a := by
  unfold tq_v
  split
  · rename_i hl
    have e := tq_en_gt (f := f) hl
    rw [tqs_ms h (tq_en f L a - a) (by omega), tqs_nm h (tq_en f L a - a) (by omega), tqs_en h hl, h a hl]
  · rfl
theorem tqs_sz (h : ∀ i, i < L → f i = g i) : tq_sz f L a = tq_sz g L a := by
  unfold tq_sz
  split
  · rename_i hl; rw [tqs_en h hl]
  · rfl
theorem tqs_K (h : ∀ i, i < L → f i = g i) : tK f L = tK g L := funext fun t => by show tq_k f L (tq_b f L t) = tq_k g L (tq_b g L t); rw [tqs_b h, tqs_k h]
theorem tqs_V (h : ∀ i, i < L → f i = g i) : tV f L = tV g L := funext fun t => by show tq_v f L (tq_b f L t) = tq_v g L (tq_b g L t); rw [tqs_b h, tqs_v h]
/-- the bytes of the row's text are bytes -/
def by_ok (m : Nat → Int32) : Prop := ∀ k, k < 400 → ∃ b, b < 256 ∧ m (619 + k) = nI b
theorem by_ok.fn {m : Nat → Int32} (h : by_ok m) : ∃ f : Nat → Nat, ∀ k, k < 400 → f k < 256 ∧ m (619 + k) = nI (f k) :=
  ⟨fun k => if hk : k < 400 then Classical.choose (h k hk) else 0, fun k hk => by
    simp only [hk, dif_pos]
    exact Classical.choose_spec (h k hk)⟩
theorem by_ok.lx {m : Nat → Int32} (h : by_ok m) {v w : Int32} (hf : ∀ k, k < 400 → f k < 256) : by_ok (lx_row (updI (updI m 1 v) 2 w) f L) := fun k hk => by
  unfold lx_row
  by_cases c : 619 ≤ 619 + k ∧ 619 + k < 619 + L
  · rw [if_pos c, show 619 + k - 619 = k by omega]; exact ⟨f k, hf k hk, rfl⟩
  · rw [if_neg c, updI_n (by omega), updI_n (by omega)]; exact h k hk
/-- the new law: what the row says is what was made -/
theorem tx_law.new {m : Nat → Int32} {s : List gq_L} (h : by_ok m) (hL : L ≤ 400) (hf : ∀ k, k < 400 → f k < 256) (hg : gq_law (tK f L) (tV f L) = .inr s) : tx_law (gq_D s) (lx_row (updI (updI m 1 (nI s.length)) 2 (nI L)) f L) := by
  have hTL := tq_n_le f L
  obtain ⟨g1, g2, g3⟩ := gq_law_ok (tK0 rfl) tV1 hg
  have e1 : lx_row (updI (updI m 1 (nI s.length)) 2 (nI L)) f L 1 = nI s.length := by
    unfold lx_row
    rw [if_neg (by omega), updI_n (by omega)]; exact updI_e _ _ _
  have e2 : lx_row (updI (updI m 1 (nI s.length)) 2 (nI L)) f L 2 = nI L := by
    unfold lx_row
    rw [if_neg (by omega)]; exact updI_e _ _ _
  rcases Nat.eq_zero_or_pos s.length with z | z
  · exact Or.inl ⟨by rw [e1, z]; decide, z⟩
  · obtain ⟨f2, hf2⟩ := (h.lx (v := nI s.length) (w := nI L) (L := L) hf).fn
    have hfg : ∀ i, i < L → f i = f2 i := fun i hi => by
      have h2 := hf2 i (by omega)
      have h3 : lx_row (updI (updI m 1 (nI s.length)) 2 (nI L)) f L (619 + i) = nI (f i) := by
        unfold lx_row
        rw [if_pos (by omega), show 619 + i - 619 = i by omega]
      have h4 := h2.2
      rw [h3] at h4
      exact (nI_eq (by have := hf i (by omega); omega) (by omega)).mp h4
    exact Or.inr ⟨f2, L, s, e1, z, g2, e2, hL, hf2, by rw [← tqs_K hfg, ← tqs_V hfg]; exact hg, rfl⟩
end BL79
