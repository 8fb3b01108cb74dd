/-! RANKS AS NUMBERS; PUT TOGETHER; RATHER -/
def rk9 (m : Nat → Int32) : Prop := ∀ h g, h < 8 → g < 8 → (∃ a, a ≤ 9 ∧ m (67 + 8 * h + g) = nI a) ∧ (∃ a, a ≤ 9 ∧ m (131 + 8 * g + h) = nI a)
def RK (m : Nat → Int32) (h g : Nat) : Nat := (m (67 + 8 * h + g)).toNatClampNeg
def LK (m : Nat → Int32) (h g : Nat) : Nat := (m (131 + 8 * g + h)).toNatClampNeg
theorem rk9.r {m : Nat → Int32} (hr : rk9 m) {h g : Nat} (hh : h < 8) (hg : g < 8) : RK m h g ≤ 9 ∧ m (67 + 8 * h + g) = nI (RK m h g) := by
  obtain ⟨⟨a, ha, e⟩, -⟩ := hr h g hh hg
  unfold RK
  rw [e, nI_clamp (by omega)]
  exact ⟨ha, rfl⟩
theorem rk9.l {m : Nat → Int32} (hr : rk9 m) {h g : Nat} (hh : h < 8) (hg : g < 8) : LK m h g ≤ 9 ∧ m (131 + 8 * g + h) = nI (LK m h g) := by
  obtain ⟨-, ⟨a, ha, e⟩⟩ := hr h g hh hg
  unfold LK
  rw [e, nI_clamp (by omega)]
  exact ⟨ha, rfl⟩
/-- how gladly h has g (W), and g has h (L); 0: never -/
def WW (m : Nat → Int32) (H G h g : Nat) : Nat := if (h < H ∧ g < G) ∧ 0 < RK m h g ∧ 0 < LK m h g then 8 * RK m h g + 8 - 1 - g else 0
def LW (m : Nat → Int32) (H G g h : Nat) : Nat := if (h < H ∧ g < G) ∧ 0 < RK m h g ∧ 0 < LK m h g then 8 * LK m h g + 8 - 1 - h else 0
theorem WW_le {m : Nat → Int32} (hr : rk9 m) {H G h g : Nat} (hh : h < 8) (hg : g < 8) : WW m H G h g < 100 := by
  have := (hr.r hh hg).1
  unfold WW; split <;> omega
theorem LW_le {m : Nat → Int32} (hr : rk9 m) {H G h g : Nat} (hh : h < 8) (hg : g < 8) : LW m H G g h < 100 := by
  have := (hr.l hh hg).1
  unfold LW; split <;> omega
theorem vs_gt0 {n : Nat} (hn : n < 2 ^ 31) : (0 < nI n) ↔ 0 < n := by rw [← nI_0, nI_ltI (by omega) hn]
theorem vs_may_iff {m : Nat → Int32} (hr : rk9 m) {h g : Nat} (hh : h < 8) (hg : g < 8) : vs_may m h g = (decide (0 < RK m h g) && decide (0 < LK m h g)) := by
  obtain ⟨a1, a2⟩ := hr.r hh hg
  obtain ⟨b1, b2⟩ := hr.l hh hg
  unfold vs_may
  rw [a2, b2]
  simp only [vs_gt0 (show RK m h g < 2 ^ 31 by omega), vs_gt0 (show LK m h g < 2 ^ 31 by omega)]
/-- a mate's number, or none -/
def mtv (u : Nat) : Int32 := if u < 8 then nI u else -1
theorem mtv_lt {u : Nat} (h : u < 8) : mtv u = nI u := if_pos h
theorem mtv_ge {u : Nat} (h : ¬ u < 8) : mtv u = -1 := if_neg h
theorem mtv_n {u : Nat} (h : ¬ mtv u = -1) : u < 8 := Decidable.byContradiction (fun z => h (mtv_ge z))
theorem nI_m1 {u : Nat} (h : u < 8) : ¬ nI u = -1 := (by decide +kernel : ∀ k, k < 8 → ¬ nI k = -1) u h
theorem mtv_e {u : Nat} (h : mtv u = -1) : ¬ u < 8 := fun z => nI_m1 z (by rw [← mtv_lt z]; exact h)
/-- the rows of PAIRS at pa -/
def pz (pa : Nat) : Nat → Prop := fun c => c = pa ∨ c = pa + 1 ∨ c = pa + 2
def pa_inv (I K : mx_I) (pa : Nat) (m : Nat → Int32) (H G h g : Nat) : Prop := mx_off (pz pa) I K ∧ K pa 0 = nI H ∧ K pa 1 = nI G ∧
  ∀ a b, a < 8 → b < 8 → K (pa + 1) (8 * a + b) = nI (if a < h ∨ a = h ∧ b < g then WW m H G a b else 0) ∧ K (pa + 2) (8 * b + a) = nI (if a < h ∨ a = h ∧ b < g then LW m H G b a else 0)
theorem pa_inv0 {I : mx_I} {pa : Nat} {m : Nat → Int32} {H G : Nat} : pa_inv I (vs_fill (vs_fill (mx_up (mx_up I pa 0 (nI H)) pa 1 (nI G)) (pa + 1) 64 (nI 0)) (pa + 2) 64 (nI 0)) pa m H G 0 0 := by
  refine ⟨fun c hc => ?_, ?_, ?_, fun a b ha hb => ⟨?_, ?_⟩⟩
  · have h1 : c ≠ pa := fun e => hc (Or.inl e)
    have h2 : c ≠ pa + 1 := fun e => hc (Or.inr (Or.inl e))
    have h3 : c ≠ pa + 2 := fun e => hc (Or.inr (Or.inr e))
    funext j
    simp [vs_fill, mx_up, h1, h2, h3]
  · simp [vs_fill, mx_up]
  · simp [vs_fill, mx_up]
  · rw [if_neg (by omega)]
    have : 8 * a + b < 64 := by omega
    simp [vs_fill, this]
  · rw [if_neg (by omega)]
    have : 8 * b + a < 64 := by omega
    simp [vs_fill, this]
theorem pa_step1 {I K : mx_I} {pa : Nat} {m : Nat → Int32} {H G h g : Nat} (hr : rk9 m) (hh : h < H) (hg : g < G) (hH : H ≤ 8) (hG : G ≤ 8) (hi : pa_inv I K pa m H G h g) (hm : vs_may m h g = true) : pa_inv I (mx_up (mx_up K (pa + 1) (8 * h + g) (nI (8 * RK m h g + 8 - 1 - g))) (pa + 2) (8 * g + h) (nI (8 * LK m h g + 8 - 1 - h))) pa m H G h (g + 1) := by
  obtain ⟨h0, h1, h2, h3⟩ := hi
  rw [vs_may_iff hr (by omega) (by omega)] at hm
  simp only [Bool.and_eq_true, decide_eq_true_eq] at hm
  refine ⟨fun c hc => ?_, ?_, ?_, fun a b ha hb => ⟨?_, ?_⟩⟩
  · rw [mx_up_ne (fun e => hc (Or.inr (Or.inr e))), mx_up_ne (fun e => hc (Or.inr (Or.inl e))), h0 c hc]
  · rw [mx_up_ne (by omega), mx_up_ne (by omega), h1]
  · rw [mx_up_ne (by omega), mx_up_ne (by omega), h2]
  · rw [mx_up_ne (by omega)]
    by_cases e : a = h ∧ b = g
    · obtain ⟨rfl, rfl⟩ := e
      rw [if_pos (by omega)]
      simp only [mx_up, WW, if_pos ((⟨⟨hh, hg⟩, hm⟩ : (a < H ∧ b < G) ∧ 0 < RK m a b ∧ 0 < LK m a b)), and_self, if_true]
    · have hne : ¬ (8 * a + b = 8 * h + g) := by omega
      simp only [mx_up, hne, and_false, if_false]
      rw [(h3 a b ha hb).1]
      congr 1
      by_cases q : a < h ∨ a = h ∧ b < g
      · rw [if_pos q, if_pos (by omega)]
      · rw [if_neg q, if_neg (by omega)]
  · by_cases e : a = h ∧ b = g
    · obtain ⟨rfl, rfl⟩ := e
      rw [if_pos (by omega)]
      simp only [mx_up, LW, if_pos ((⟨⟨hh, hg⟩, hm⟩ : (a < H ∧ b < G) ∧ 0 < RK m a b ∧ 0 < LK m a b)), and_self, if_true]
    · have hne : ¬ (8 * b + a = 8 * g + h) := by omega
      rw [show mx_up (mx_up K (pa + 1) (8 * h + g) (nI (8 * RK m h g + 8 - 1 - g))) (pa + 2) (8 * g + h) (nI (8 * LK m h g + 8 - 1 - h)) (pa + 2) (8 * b + a) = K (pa + 2) (8 * b + a) from by simp [mx_up, hne]]
      rw [(h3 a b ha hb).2]
      congr 1
      by_cases q : a < h ∨ a = h ∧ b < g
      · rw [if_pos q, if_pos (by omega)]
      · rw [if_neg q, if_neg (by omega)]
theorem pa_step0 {I K : mx_I} {pa : Nat} {m : Nat → Int32} {H G h g : Nat} (hr : rk9 m) (hh : h < H) (hg : g < G) (hH : H ≤ 8) (hG : G ≤ 8) (hi : pa_inv I K pa m H G h g) (hm : vs_may m h g = false) : pa_inv I K pa m H G h (g + 1) := by
  obtain ⟨h0, h1, h2, h3⟩ := hi
  rw [vs_may_iff hr (by omega) (by omega)] at hm
  have hm2 : ¬ ((h < H ∧ g < G) ∧ 0 < RK m h g ∧ 0 < LK m h g) := fun z => by
    rw [decide_eq_true z.2.1, decide_eq_true z.2.2] at hm; cases hm
  refine ⟨h0, h1, h2, fun a b ha hb => ⟨?_, ?_⟩⟩
  · rw [(h3 a b ha hb).1]
    congr 1
    by_cases e : a = h ∧ b = g
    · obtain ⟨rfl, rfl⟩ := e
      rw [if_neg (by omega), if_pos (by omega), WW, if_neg hm2]
    · by_cases q : a < h ∨ a = h ∧ b < g
      · rw [if_pos q, if_pos (by omega)]
      · rw [if_neg q, if_neg (by omega)]
  · rw [(h3 a b ha hb).2]
    congr 1
    by_cases e : a = h ∧ b = g
    · obtain ⟨rfl, rfl⟩ := e
      rw [if_neg (by omega), if_pos (by omega), LW, if_neg hm2]
    · by_cases q : a < h ∨ a = h ∧ b < g
      · rw [if_pos q, if_pos (by omega)]
      · rw [if_neg q, if_neg (by omega)]
theorem pa_next {I K : mx_I} {pa : Nat} {m : Nat → Int32} {H G h : Nat} (hi : pa_inv I K pa m H G h G) : pa_inv I K pa m H G (h + 1) 0 := by
  obtain ⟨h0, h1, h2, h3⟩ := hi
  refine ⟨h0, h1, h2, fun a b ha hb => ⟨?_, ?_⟩⟩
  · rw [(h3 a b ha hb).1]
    congr 1
    by_cases q : a < h ∨ a = h ∧ b < G
    · rw [if_pos q, if_pos (by omega)]
    · rw [if_neg q]
      by_cases q2 : a < h + 1 ∨ a = h + 1 ∧ b < 0
      · rw [if_pos q2, WW, if_neg (by omega)]
      · rw [if_neg q2]
  · rw [(h3 a b ha hb).2]
    congr 1
    by_cases q : a < h ∨ a = h ∧ b < G
    · rw [if_pos q, if_pos (by omega)]
    · rw [if_neg q]
      by_cases q2 : a < h + 1 ∨ a = h + 1 ∧ b < 0
      · rw [if_pos q2, LW, if_neg (by omega)]
      · rw [if_neg q2]
/-- PAIRS knows who has whom how gladly -/
def pa_rel (K : mx_I) (pa : Nat) (W L : Nat → Nat → Nat) (H G : Nat) : Prop := K pa 0 = nI H ∧ K pa 1 = nI G ∧ ∀ a b, a < 8 → b < 8 → (W a b < 100 ∧ K (pa + 1) (8 * a + b) = nI (W a b)) ∧ (L b a < 100 ∧ K (pa + 2) (8 * b + a) = nI (L b a))
theorem pa_inv_end {I K : mx_I} {pa : Nat} {m : Nat → Int32} {H G : Nat} (hr : rk9 m) (hi : pa_inv I K pa m H G H 0) : pa_rel K pa (WW m H G) (LW m H G) H G := by
  obtain ⟨h0, h1, h2, h3⟩ := hi
  refine ⟨h1, h2, fun a b ha hb => ⟨⟨WW_le hr ha hb, ?_⟩, ⟨LW_le hr ha hb, ?_⟩⟩⟩
  · rw [(h3 a b ha hb).1]
    congr 1
    by_cases q : a < H
    · rw [if_pos (Or.inl q)]
    · rw [if_neg (by omega), WW, if_neg (by omega)]
  · rw [(h3 a b ha hb).2]
    congr 1
    by_cases q : a < H
    · rw [if_pos (Or.inl q)]
    · rw [if_neg (by omega), LW, if_neg (by omega)]
/-! hearing, being unlike, and who would rather -/
def vs_hOk (T : Nat → Nat) (G h : Nat) : Bool := decide (T h < G) || decide (T h = 255)
def vs_hear (T : Nat → Nat) (n G H : Nat) : Bool := decide (n = H) && !(vs_any (fun h => !vs_hOk T G h) H)
def vs_sn (M : Nat → Nat) (n : Nat) : Int32 := vf n (fun h s => if M h < 8 then s ||| (nI 1 <<< (nI (M h) &&& 31)) else s ||| nI 0) (nI 0)
theorem vs_sn_s (M : Nat → Nat) (n : Nat) : vs_sn M (n + 1) = if M n < 8 then vs_sn M n ||| (nI 1 <<< (nI (M n) &&& 31)) else vs_sn M n ||| nI 0 := rfl
theorem vs_1b {g i : Nat} (hg : g < 32) (hi : i < 32) : bt (nI 1 <<< (nI g &&& 31)) i = decide (i = g) := (by decide +kernel : ∀ g, g < 32 → ∀ i, i < 32 → bt (nI 1 <<< (nI g &&& 31)) i = decide (i = g)) g hg i hi
theorem vs_any_S (p : Nat → Bool) (n : Nat) : vs_any p (n + 1) = (vs_any p n || p n) := by simp [vs_any, List.range_succ]
theorem vs_sn_b {M : Nat → Nat} {g : Nat} (hg : g < 8) (n : Nat) : bt (vs_sn M n) g = vs_any (fun k => M k == g) n := by
  induction n with
  | zero => exact b_0 g
  | succ n ih =>
    rw [vs_sn_s, vs_any_S]
    split
    · rename_i h
      rw [b_or, ih, vs_1b (by omega) (by omega)]
      congr 1
      by_cases e : M n = g
      · simp [e]
      · simp [e, Ne.symm e]
    · rename_i h
      rw [b_or, ih, show bt (nI 0) g = false from b_0 g]
      congr 1
      simp; omega
def vs_mb (W : Nat → Nat → Nat) (M : Nat → Nat) (h : Nat) : Bool := decide (8 ≤ M h) || (!(vs_any (fun k => M k == M h) h) && decide (0 < W h (M h)))
def vs_mbA (W : Nat → Nat → Nat) (M : Nat → Nat) (H : Nat) : Bool := !(vs_any (fun h => !vs_mb W M h) H)
/-- the last of the first n whose mate is g; 8: none -/
def vs_ho (M : Nat → Nat) (n g : Nat) : Nat := vf n (fun k s => if M k = g then k else s) 8
theorem vs_ho_s (M : Nat → Nat) (n g : Nat) : vs_ho M (n + 1) g = if M n = g then n else vs_ho M n g := rfl
theorem vs_ho_8 {M : Nat → Nat} {n g : Nat} (hn : n ≤ 8) : decide (8 ≤ vs_ho M n g) = !(vs_any (fun k => M k == g) n) := by
  induction n with
  | zero => rfl
  | succ n ih =>
    rw [vs_ho_s, vs_any_S]
    by_cases e : M n = g
    · rw [if_pos e]; simp [e]; omega
    · rw [if_neg e, ih (by omega)]; simp [e]
theorem vs_ho_in {M : Nat → Nat} {n g : Nat} (h : vs_ho M n g < 8) : vs_ho M n g < n ∧ M (vs_ho M n g) = g := by
  induction n with
  | zero => exact absurd h (by show ¬ (8 : Nat) < 8; omega)
  | succ n ih =>
    rw [vs_ho_s] at h ⊢
    by_cases e : M n = g
    · rw [if_pos e]; exact ⟨by omega, e⟩
    · rw [if_neg e] at h ⊢
      have := ih h
      exact ⟨by omega, this.2⟩
def vs_wb (W L : Nat → Nat → Nat) (h g u w : Nat) : Bool := decide ((if u < 8 then W h u else 0) < W h g) && decide ((if w < 8 then L g w else 0) < L g h)
def vs_rvQ (W L : Nat → Nat → Nat) (M N : Nat → Nat) (h k s : Nat) : Nat := vf k (fun g s => if vs_wb W L h g (M h) (N g) = true then s + 1 else s) s
def vs_rvP (W L : Nat → Nat → Nat) (M N : Nat → Nat) (G k : Nat) : Nat := vf k (fun h s => vs_rvQ W L M N h G s) 0
/-- the reference's way -/
def vs_hr (m : Nat → Int32) (h g u : Nat) : Bool := decide (0 < RK m h g) && (decide (8 ≤ u) || (decide (RK m h u < RK m h g) || (decide (RK m h g = RK m h u) && decide (g < u))))
def vs_gr (m : Nat → Int32) (g h u : Nat) : Bool := decide (0 < LK m h g) && (decide (8 ≤ u) || (decide (LK m u g < LK m h g) || (decide (LK m h g = LK m u g) && decide (h < u))))
def vs_ra (m : Nat → Int32) (h g u w : Nat) : Bool := decide (¬ u = g) && (vs_may m h g && (vs_hr m h g u && vs_gr m g h w))
theorem vs_ra_wb {m : Nat → Int32} (hr : rk9 m) {H G h g u w : Nat} (hH : H ≤ 8) (hG : G ≤ 8) (hh : h < H) (hg : g < G) (hu : u < 8 → u < G ∧ vs_may m h u = true) (hw : w < 8 → w < H ∧ vs_may m w g = true) : vs_ra m h g u w = vs_wb (WW m H G) (LW m H G) h g u w := by
  have a1 := (hr.r (show h < 8 by omega) (show g < 8 by omega)).1
  have a2 := (hr.l (show h < 8 by omega) (show g < 8 by omega)).1
  have hm := vs_may_iff hr (show h < 8 by omega) (show g < 8 by omega)
  unfold vs_ra vs_wb vs_hr vs_gr
  rw [hm]
  by_cases h1 : 0 < RK m h g ∧ 0 < LK m h g
  · have e1 : WW m H G h g = 8 * RK m h g + 8 - 1 - g := if_pos ⟨⟨hh, hg⟩, h1⟩
    have e2 : LW m H G g h = 8 * LK m h g + 8 - 1 - h := if_pos ⟨⟨hh, hg⟩, h1⟩
    rw [e1, e2, decide_eq_true h1.1, decide_eq_true h1.2]
    have p1 : (decide (¬ u = g) && (decide (8 ≤ u) || (decide (RK m h u < RK m h g) || (decide (RK m h g = RK m h u) && decide (g < u))))) = decide ((if u < 8 then WW m H G h u else 0) < 8 * RK m h g + 8 - 1 - g) := by
      by_cases hu8 : u < 8
      · obtain ⟨q1, q2⟩ := hu hu8
        rw [vs_may_iff hr (by omega) hu8] at q2
        simp only [Bool.and_eq_true, decide_eq_true_eq] at q2
        have e3 : WW m H G h u = 8 * RK m h u + 8 - 1 - u := if_pos ⟨⟨hh, q1⟩, q2⟩
        rw [if_pos hu8, e3]
        rw [Bool.eq_iff_iff]
        simp only [Bool.and_eq_true, Bool.or_eq_true, decide_eq_true_eq]
        have hug : u = g → RK m h u = RK m h g := fun e => by rw [e]
        omega
      · rw [if_neg hu8]
        rw [Bool.eq_iff_iff]
        simp only [Bool.and_eq_true, Bool.or_eq_true, decide_eq_true_eq]
        omega
    have p2 : (decide (8 ≤ w) || (decide (LK m w g < LK m h g) || (decide (LK m h g = LK m w g) && decide (h < w)))) = decide ((if w < 8 then LW m H G g w else 0) < 8 * LK m h g + 8 - 1 - h) := by
      by_cases hw8 : w < 8
      · obtain ⟨q1, q2⟩ := hw hw8
        rw [vs_may_iff hr hw8 (by omega)] at q2
        simp only [Bool.and_eq_true, decide_eq_true_eq] at q2
        have e3 : LW m H G g w = 8 * LK m w g + 8 - 1 - w := if_pos ⟨⟨q1, hg⟩, q2⟩
        rw [if_pos hw8, e3]
        rw [Bool.eq_iff_iff]
        simp only [Bool.or_eq_true, Bool.and_eq_true, decide_eq_true_eq]
        have hwh : w = h → LK m w g = LK m h g := fun e => by rw [e]
        omega
      · rw [if_neg hw8]
        rw [Bool.eq_iff_iff]
        simp only [Bool.and_eq_true, Bool.or_eq_true, decide_eq_true_eq]
        omega
    rw [← p1, ← p2]
    simp [Bool.and_assoc]
  · have e1 : WW m H G h g = 0 := if_neg (fun z => h1 z.2)
    rw [e1]
    have : ¬ (0 < RK m h g) ∨ ¬ (0 < LK m h g) := by omega
    rcases this with q | q <;> simp [q]
def vs_raQ (m : Nat → Int32) (M N : Nat → Nat) (h k s : Nat) : Nat := vf k (fun g s => if vs_ra m h g (M h) (N g) = true then s + 1 else s) s
def vs_raP (m : Nat → Int32) (M N : Nat → Nat) (G k : Nat) : Nat := vf k (fun h s => vs_raQ m M N h G s) 0
theorem rk9.ok1 {m : Nat → Int32} (hr : rk9 m) {h g : Nat} (hh : h < 8) (hg : g < 8) : 0 ≤ m (67 + 8 * h + g) ∧ 0 ≤ m (131 + 8 * g + h) := by
  obtain ⟨a1, a2⟩ := hr.r hh hg
  obtain ⟨b1, b2⟩ := hr.l hh hg
  rw [a2, b2]
  exact ⟨nI_pos' (by omega), nI_pos' (by omega)⟩
theorem mx_offn {I K : mx_I} {a b : Nat} (h : mx_off (fun c => c = b) I K) (hn : a ≠ b) : K a = I a := h a hn
theorem vs_nextT {p : Nat → Prop} {h : Nat} (hi : ∀ a, a < h → p a) (hp : p h) : ∀ a, a < h + 1 → p a := fun a ha => by
  rcases Nat.lt_succ_iff_lt_or_eq.mp ha with h1 | rfl
  · exact hi a h1
  · exact hp
theorem nI_gt {w : Nat} (h : ¬ nI w = 0) : 0 < w := by
  rcases Nat.eq_zero_or_pos w with e | e
  · subst e; exact absurd nI_0 h
  · exact e
theorem nI_z {w : Nat} (hw : w < 2 ^ 31) (h : nI w = 0) : ¬ 0 < w := fun z => nI_ne0 z hw h
def hr_inv (I K : mx_I) (pa : Nat) (T : Nat → Nat) (G h : Nat) : Prop := mx_off (fun c => c = pa + 3) I K ∧ ∀ a, a < h → K (pa + 3) a = mtv (T a) ∧ vs_hOk T G a = true
theorem hr_step {I K : mx_I} {pa : Nat} {T : Nat → Nat} {G h : Nat} {v : Int32} (hi : hr_inv I K pa T G h) (hv : v = mtv (T h)) (ho : T h < G ∨ T h = 255) : hr_inv I (mx_up K (pa + 3) h v) pa T G (h + 1) := by
  refine ⟨fun c hc => ?_, vs_nextT (fun a ha => ?_) ?_⟩
  · rw [mx_up_ne hc, hi.1 c hc]
  · have : ¬ a = h := by omega
    obtain ⟨e1, e2⟩ := hi.2 a ha
    exact ⟨by rw [← e1]; simp [mx_up, this], e2⟩
  · exact ⟨by rw [← hv]; simp [mx_up], by rw [vs_hOk, Bool.or_eq_true, decide_eq_true_eq, decide_eq_true_eq]; exact ho⟩
theorem vs_hear_t {T : Nat → Nat} {n G H : Nat} (hn : n = H) (h : ∀ a, a < H → vs_hOk T G a = true) : vs_hear T n G H = true := by
  unfold vs_hear
  rw [decide_eq_true hn, vs_any_f (fun a ha => by rw [h a ha]; rfl)]; rfl
theorem vs_hear_f {T : Nat → Nat} {n G H h : Nat} (hh : h < H) (ho : ¬ (T h < G ∨ T h = 255)) : vs_hear T n G H = false := by
  unfold vs_hear
  rw [vs_any_t hh (by rw [vs_hOk]; simp; omega)]
  simp
theorem vs_hear_n {T : Nat → Nat} {n G H : Nat} (hn : ¬ n = H) : vs_hear T n G H = false := by
  unfold vs_hear; rw [decide_eq_false hn]; rfl
theorem vs_hear_of {T : Nat → Nat} {n G H : Nat} (h : vs_hear T n G H = true) : n = H ∧ ∀ a, a < H → T a < G ∨ T a = 255 := by
  refine ⟨Decidable.byContradiction (fun z => by rw [vs_hear_n z] at h; cases h), fun a ha => Decidable.byContradiction (fun z => by rw [vs_hear_f ha z] at h; cases h)⟩
theorem mbF1 {W : Nat → Nat → Nat} {M : Nat → Nat} {h : Nat} (u8 : M h < 8) (ha : vs_any (fun k => M k == M h) h = true) : vs_mb W M h = false := by
  unfold vs_mb; rw [ha, decide_eq_false (by omega)]; rfl
theorem mbF2 {W : Nat → Nat → Nat} {M : Nat → Nat} {h : Nat} (u8 : M h < 8) (w0 : ¬ 0 < W h (M h)) : vs_mb W M h = false := by
  unfold vs_mb; rw [decide_eq_false w0, decide_eq_false (show ¬ 8 ≤ M h by omega)]; simp
theorem mbT1 {W : Nat → Nat → Nat} {M : Nat → Nat} {h : Nat} (u8 : ¬ M h < 8) : vs_mb W M h = true := by
  unfold vs_mb; rw [decide_eq_true (show 8 ≤ M h by omega)]; rfl
theorem mbT2 {W : Nat → Nat → Nat} {M : Nat → Nat} {h : Nat} (ha : vs_any (fun k => M k == M h) h = false) (w0 : 0 < W h (M h)) : vs_mb W M h = true := by
  unfold vs_mb; rw [ha, decide_eq_true w0]; simp
theorem vs_mbA_f {W : Nat → Nat → Nat} {M : Nat → Nat} {H h : Nat} (hh : h < H) (e : vs_mb W M h = false) : vs_mbA W M H = false := by
  unfold vs_mbA; rw [vs_any_t hh (by rw [e]; rfl)]; rfl
theorem vs_mbA_t {W : Nat → Nat → Nat} {M : Nat → Nat} {H : Nat} (h : ∀ a, a < H → vs_mb W M a = true) : vs_mbA W M H = true := by
  unfold vs_mbA; rw [vs_any_f (fun a ha => by rw [h a ha]; rfl)]; rfl
def rv_inv (I K : mx_I) (pa : Nat) (M : Nat → Nat) (h : Nat) : Prop := mx_off (fun c => c = pa + 4) I K ∧ ∀ g, g < 8 → K (pa + 4) g = mtv (vs_ho M h g)
theorem rv_inv0 {I : mx_I} {pa : Nat} {M : Nat → Nat} : rv_inv I (vs_fill I (pa + 4) 8 (-1)) pa M 0 := by
  refine ⟨fun c hc => ?_, fun g hg => ?_⟩
  · have hc : ¬ c = pa + 4 := hc
    funext j; simp [vs_fill, hc]
  · have e : vs_ho M 0 g = 8 := rfl
    rw [e, mtv_ge (by omega)]; simp [vs_fill, hg]
theorem rv_step1 {I K : mx_I} {pa : Nat} {M : Nat → Nat} {h : Nat} (hi : rv_inv I K pa M h) (h8 : h < 8) : rv_inv I (mx_up K (pa + 4) (M h) (nI h)) pa M (h + 1) := by
  refine ⟨fun c hc => ?_, fun g hg => ?_⟩
  · rw [mx_up_ne hc, hi.1 c hc]
  · rw [vs_ho_s]
    by_cases e : M h = g
    · rw [if_pos e, mtv_lt h8, ← e]; simp [mx_up]
    · rw [if_neg e, ← hi.2 g hg]; simp [mx_up, Ne.symm e]
theorem rv_step0 {I K : mx_I} {pa : Nat} {M : Nat → Nat} {h : Nat} (hi : rv_inv I K pa M h) (u8 : ¬ M h < 8) : rv_inv I K pa M (h + 1) := by
  refine ⟨hi.1, fun g hg => ?_⟩
  rw [vs_ho_s, if_neg (by omega)]; exact hi.2 g hg
theorem pa_rel.congr {I K : mx_I} {pa : Nat} {W L : Nat → Nat → Nat} {H G : Nat} (h : pa_rel I pa W L H G) (e0 : K pa = I pa) (e1 : K (pa + 1) = I (pa + 1)) (e2 : K (pa + 2) = I (pa + 2)) : pa_rel K pa W L H G := by
  unfold pa_rel; rw [e0, e1, e2]; exact h
theorem mtv_eq {u g : Nat} (h : mtv u = nI g) (hg : g < 8) : u = g := by
  by_cases u8 : u < 8
  · rw [mtv_lt u8, nI_eq (by omega) (by omega)] at h; exact h
  · rw [mtv_ge u8] at h; exact absurd h.symm (nI_m1 hg)
theorem vs_wb_8 (W L : Nat → Nat → Nat) (h g u w : Nat) : vs_wb W L h g u w = (decide ((if u < 8 then W h u else 0) < W h g) && decide ((if w < 8 then L g w else 0) < L g h)) := rfl
/-- both sums are one -/
theorem vs_ra_rv {m : Nat → Int32} (hr : rk9 m) {H G : Nat} (hH : H ≤ 8) (hG : G ≤ 8) {M N : Nat → Nat} (hu : ∀ h, h < H → M h < 8 → M h < G ∧ vs_may m h (M h) = true) (hw : ∀ g, g < G → N g < 8 → N g < H ∧ vs_may m (N g) g = true) : vs_raP m M N G H = vs_rvP (WW m H G) (LW m H G) M N G H := by
  refine vf_congr (fun h s hh => vf_congr (fun g s hg => ?_))
  rw [vs_ra_wb hr hH hG hh hg (hu h hh) (hw g hg)]
/-- a row of mates that may be -/
theorem vs_mb_use {m : Nat → Int32} (hr : rk9 m) {H G : Nat} (hH : H ≤ 8) (hG : G ≤ 8) {M : Nat → Nat} (h : vs_mbA (WW m H G) M H = true) : (∀ h, h < H → M h < 8 → M h < G ∧ vs_may m h (M h) = true) ∧ (∀ g, g < G → vs_ho M H g < 8 → vs_ho M H g < H ∧ vs_may m (vs_ho M H g) g = true) := by
  have key : ∀ h, h < H → M h < 8 → M h < G ∧ vs_may m h (M h) = true := fun a ha u8 => by
    have e : vs_mb (WW m H G) M a = true := by
      cases e : vs_mb (WW m H G) M a
      · rw [vs_mbA_f ha e] at h; cases h
      · rfl
    have w0 : 0 < WW m H G a (M a) := Decidable.byContradiction (fun z => by rw [mbF2 u8 z] at e; cases e)
    unfold WW at w0
    split at w0
    · rename_i q
      refine ⟨q.1.2, ?_⟩
      rw [vs_may_iff hr (by omega) u8, decide_eq_true q.2.1, decide_eq_true q.2.2]; rfl
    · omega
  refine ⟨key, fun g hg h8 => ?_⟩
  obtain ⟨q1, q2⟩ := vs_ho_in h8
  have := (key _ q1 (by rw [q2]; omega)).2
  rw [q2] at this
  exact ⟨q1, this⟩
theorem rk9.ok {m : Nat → Int32} (hr : rk9 m) : rk_ok m := ⟨fun h g hh hg => (hr.ok1 hh hg).1, fun h g hh hg => (hr.ok1 hh hg).2⟩
/-- an operation's end, of what is left R told -/
def mx_pR (f : Nat → String) (v : Nat × Int32) (t : Nat) (S : mx_S) (P : mx_P) (J : mx_G) (R : mx_I → Prop) : mx_R → mx_H → Prop := fun r X => (v.1 = 0 ∧ r = .inl (some (.int v.2)) ∧ ∃ K, X = (t, S, K, P, J) ∧ R K) ∨ (v.1 ≠ 0 ∧ r = .inr (f v.1) ∧ ∃ K t', t ≤ t' ∧ X = (t', S, K, P, J) ∧ R K)
theorem mx_pR_i {f : Nat → String} {v : Nat × Int32} {t : Nat} {S : mx_S} {P : mx_P} {J : mx_G} {R : mx_I → Prop} {K : mx_I} {w : Int32} (h : v = (0, w)) (hR : R K) : mx_pR f v t S P J R (.inl (some (.int w))) (t, S, K, P, J) := by subst h; exact Or.inl ⟨rfl, rfl, K, rfl, hR⟩
theorem mx_pR_x {f : Nat → String} {v : Nat × Int32} {t t' : Nat} {S : mx_S} {P : mx_P} {J : mx_G} {R : mx_I → Prop} {K : mx_I} {C : String} (ht : t ≤ t') (c : Nat) (h : v.1 = c + 1) (hC : f (c + 1) = C) (hR : R K) : mx_pR f v t S P J R (.inr C) (t', S, K, P, J) := Or.inr ⟨by omega, by rw [h, hC], K, t', ht, rfl, hR⟩
section X32
variable {l : Launch} {E : mx_Env} {t : Nat} {S : mx_S} {I : mx_I} {P : mx_P} {J : mx_G} {m : Nat → Int32} {x mo H G n te pa pe : Nat} {T M : Nat → Nat} {W L : Nat → Nat → Nat}
theorem c_Pa_learn (hPa : pa_ok S P pa) (hPe : pe_ok S P pe) (hPr : pe_rel I pe m) (hr : rk9 m) (hH : m 3 = nI H) (hH8 : H ≤ 8) (hG : m 4 = nI G) (hG8 : G ≤ 8) (hd : pa + 8 ≤ pe) : mx_C l E M_Pa_learn 3 0 0 [.ref (pa), .ref (pe)] (t, S, I, P, J) (mx_sR none t S P J (fun K => pa_inv I K pa m H G H 0)) := by
  obtain ⟨hA0, hA1, hA2, hA3, hA4, hA5, hA6, hA7, hB1, hB2, hB3, hB4, hB5, hB6, hB7⟩ := id hPe
  obtain ⟨r0, r1, r2, r3, r4, r5, r6, r7, r8⟩ := id hPr
  obtain ⟨hPa0, hPa1, hPa2, hPa3, hPa4, hPa5, hPa6, hPa7, hPa8, hPa9, hPa10, hPa11, hPa12, hPa13, hPa14⟩ := id hPa
  have hk := hr.ok
  refine mx_C_of (ls0 := [some (.ref (pa)), some (.ref (pe)), none, none]) (by decide +kernel) rfl rfl (Nat.le_of_ble_eq_true rfl) rfl ?_
  refine mx_al0 d_Pa_learn_0 ?_
  refine mx_al1 d_Pa_learn_1 ?_
  refine mx_getI d_Pa_learn_2 fl_Pa_33 (by assumption) ?_
  refine mx_ti (y := nI (H)) (r0.trans hH) ?_
  refine mx_putI d_Pa_learn_5 fl_Pa_39 (by assumption) ?_
  refine mx_al0 d_Pa_learn_8 ?_
  refine mx_al1 d_Pa_learn_9 ?_
  refine mx_getI d_Pa_learn_10 fl_Pa_40 (by assumption) ?_
  refine mx_ti (y := nI (G)) ((congrFun (mx_up_ne (by omega)) 1).trans (r1.trans hG)) ?_
  refine mx_putI d_Pa_learn_13 fl_Pa_43 (by assumption) ?_
  refine mx_al0 d_Pa_learn_16 ?_
  refine mx_getR d_Pa_learn_17 fl_Pa_9 (by assumption) (by assumption) ?_
  refine mx_in_0 d_Pa_learn_20 ?_
  refine mx_cSN2v d_Pa_learn_21 (c_fill (by assumption) (by omega)) ok_Vh_fill ml_Pa_44 (by decide) (Nat.le_of_ble_eq_true rfl) ?_
  refine mx_al0 d_Pa_learn_24 ?_
  refine mx_getR d_Pa_learn_25 fl_Pa_15 (by assumption) (by assumption) ?_
  refine mx_in_0 d_Pa_learn_28 ?_
  refine mx_cSN2v d_Pa_learn_29 (c_fill (by assumption) (by omega)) ok_Vh_fill ml_Pa_44 (by decide) (Nat.le_of_ble_eq_true rfl) ?_
  refine mx_in_0 d_Pa_learn_32 ?_
  refine mx_is2 d_Pa_learn_33 ?_
  refine mx_loopX (α := (mx_I)) (N := H) (a0 := (vs_fill (vs_fill (mx_up (mx_up I (pa) 0 (nI (H))) (pa) 1 (nI (G))) (pa + 1) 64 (nI (0))) (pa + 2) 64 (nI (0)))) (fun h z9 => pa_inv I z9 pa m H G h 0) (ls := fun h z9 => [some (.ref (pa)), some (.ref (pe)), some (.int (nI (h))), none]) (X := fun h z9 => (t, S, z9, P, J)) (pa_inv0) (fun h hh z9 hinv ih => ?_) (fun z9 hinv => ?_)
  · skip
    obtain ⟨K, hz9⟩ : ∃ q, q = z9 := ⟨_, rfl⟩
    subst hz9
    try dsimp only at hinv ih ⊢
    obtain ⟨hoff, hq0, hq1, hq2⟩ := id hinv
    refine mx_il2 d_Pa_learn_34 ?_
    refine mx_al0 d_Pa_learn_35 ?_
    refine mx_getI d_Pa_learn_36 fl_Pa_39 (by assumption) ?_
    refine mx_ti (y := nI (H)) (hq0) ?_
    refine mx_icN_ge 133 d_Pa_learn_39 (by decide) (by omega) (by omega) (fun c_39 => absurd c_39 (by omega)) (fun c_39 => ?_)
    refine mx_in_0 d_Pa_learn_42 ?_
    refine mx_is3 d_Pa_learn_43 ?_
    have ih34 := ih
    have hinv34 := hinv
    refine mx_loopX (α := (mx_I)) (N := G) (a0 := K) (fun g z9 => pa_inv I z9 pa m H G h g) (ls := fun g z9 => [some (.ref (pa)), some (.ref (pe)), some (.int (nI (h))), some (.int (nI (g)))]) (X := fun g z9 => (t, S, z9, P, J)) (hinv) (fun g hg z9 hinv ih => ?_) (fun z9 hinv => ?_)
    · skip
      obtain ⟨K, hz9⟩ : ∃ q, q = z9 := ⟨_, rfl⟩
      subst hz9
      try dsimp only at hinv ih ⊢
      obtain ⟨hoff, hq0, hq1, hq2⟩ := id hinv
      have hPr : pe_rel K pe m := hPr.congr (fun c h1 h2 => hoff c (by unfold pz; omega))
      refine mx_il3 d_Pa_learn_44 ?_
      refine mx_al0 d_Pa_learn_45 ?_
      refine mx_getI d_Pa_learn_46 fl_Pa_43 (by assumption) ?_
      refine mx_ti (y := nI (G)) (hq1) ?_
      refine mx_icN_ge 127 d_Pa_learn_49 (by decide) (by omega) (by omega) (fun c_49 => absurd c_49 (by omega)) (fun c_49 => ?_)
      refine mx_al1 d_Pa_learn_52 ?_
      refine mx_il2 d_Pa_learn_53 ?_
      refine mx_il3 d_Pa_learn_54 ?_
      refine mx_cV2i d_Pa_learn_55 (c_Pe_mayMeet hPe hPr hk (h := h) (g := g) (by omega) (by omega)) ok_Pe_mayMeet ml_Pa_48 (by assumption) ⟨rfl, rfl⟩ (by decide) (Nat.le_of_ble_eq_true rfl) ?_
      refine mx_ifB_eq 121 d_Pa_learn_58 (by decide) (fun c_58 => ?_) (fun c_58 => ?_)
      · skip
        refine mx_iN3 d_Pa_learn_121 ?_
        refine mx_goto 44 d_Pa_learn_124 (by decide) ?_
        exact ih K (pa_step0 hr hh hg hH8 hG8 hinv c_58)
      · skip
        refine mx_al0 d_Pa_learn_61 ?_
        refine mx_getR d_Pa_learn_62 fl_Pa_9 (by assumption) (by assumption) ?_
        refine mx_bip 8 d_Pa_learn_65 (by decide) ?_
        refine mx_il2 d_Pa_learn_67 ?_
        refine mx_imulN d_Pa_learn_68 ?_
        refine mx_il3 d_Pa_learn_69 ?_
        refine mx_iaddN d_Pa_learn_70 ?_
        refine mx_bip 8 d_Pa_learn_71 (by decide) ?_
        refine mx_al1 d_Pa_learn_73 ?_
        refine mx_il2 d_Pa_learn_74 ?_
        refine mx_il3 d_Pa_learn_75 ?_
        refine mx_in_1 d_Pa_learn_76 ?_
        refine mx_cV3i d_Pa_learn_77 (c_Pe_rank1 hPe hPr (h := h) (g := g) (by omega) (by omega)) ok_Pe_rankOf ml_Pa_52 (by assumption) ⟨rfl, rfl⟩ (by decide) (Nat.le_of_ble_eq_true rfl) ?_
        have b1 := (hr.r (show h < 8 by omega) (show g < 8 by omega)).1
        refine mx_ti (y := nI (RK m h g)) ((hr.r (by omega) (by omega)).2) ?_
        refine mx_imulN d_Pa_learn_80 ?_
        refine mx_bip 8 d_Pa_learn_81 (by decide) ?_
        refine mx_iaddN d_Pa_learn_83 ?_
        refine mx_in_1 d_Pa_learn_84 ?_
        refine mx_isubN d_Pa_learn_85 (by omega) ?_
        refine mx_il3 d_Pa_learn_86 ?_
        refine mx_isubN d_Pa_learn_87 (by omega) ?_
        refine mx_cSN3v d_Pa_learn_88 (c_put (k := 8 * h + g) (by assumption) (by omega) (by omega)) ok_Vh_put ml_Pa_56 (by decide) (Nat.le_of_ble_eq_true rfl) ?_
        have hPr : pe_rel (mx_up K (pa + 1) (8 * h + g) (nI (8 * RK m h g + 8 - 1 - g))) pe m := hPr.congr (fun c h1 h2 => mx_up_ne (by omega))
        refine mx_al0 d_Pa_learn_91 ?_
        refine mx_getR d_Pa_learn_92 fl_Pa_15 (by assumption) (by assumption) ?_
        refine mx_bip 8 d_Pa_learn_95 (by decide) ?_
        refine mx_il3 d_Pa_learn_97 ?_
        refine mx_imulN d_Pa_learn_98 ?_
        refine mx_il2 d_Pa_learn_99 ?_
        refine mx_iaddN d_Pa_learn_100 ?_
        refine mx_bip 8 d_Pa_learn_101 (by decide) ?_
        refine mx_al1 d_Pa_learn_103 ?_
        refine mx_il2 d_Pa_learn_104 ?_
        refine mx_il3 d_Pa_learn_105 ?_
        refine mx_in_0 d_Pa_learn_106 ?_
        refine mx_cV3i d_Pa_learn_107 (c_Pe_rank0 hPe hPr (h := h) (g := g) (by omega) (by omega)) ok_Pe_rankOf ml_Pa_52 (by assumption) ⟨rfl, rfl⟩ (by decide) (Nat.le_of_ble_eq_true rfl) ?_
        have b2 := (hr.l (show h < 8 by omega) (show g < 8 by omega)).1
        refine mx_ti (y := nI (LK m h g)) ((hr.l (by omega) (by omega)).2) ?_
        refine mx_imulN d_Pa_learn_110 ?_
        refine mx_bip 8 d_Pa_learn_111 (by decide) ?_
        refine mx_iaddN d_Pa_learn_113 ?_
        refine mx_in_1 d_Pa_learn_114 ?_
        refine mx_isubN d_Pa_learn_115 (by omega) ?_
        refine mx_il2 d_Pa_learn_116 ?_
        refine mx_isubN d_Pa_learn_117 (by omega) ?_
        refine mx_cSN3v d_Pa_learn_118 (c_put (k := 8 * g + h) (by assumption) (by omega) (by omega)) ok_Vh_put ml_Pa_56 (by decide) (Nat.le_of_ble_eq_true rfl) ?_
        refine mx_iN3 d_Pa_learn_121 ?_
        refine mx_goto 44 d_Pa_learn_124 (by decide) ?_
        exact ih (mx_up (mx_up K (pa + 1) (8 * h + g) (nI (((8 * (RK m h g) + 8) - 1) - g))) (pa + 2) (8 * g + h) (nI (((8 * (LK m h g) + 8) - 1) - h))) (pa_step1 hr hh hg hH8 hG8 hinv c_58)
    · skip
      obtain ⟨K, hz9⟩ : ∃ q, q = z9 := ⟨_, rfl⟩
      subst hz9
      try dsimp only at hinv ⊢
      obtain ⟨hoff, hq0, hq1, hq2⟩ := id hinv
      refine mx_il3 d_Pa_learn_44 ?_
      refine mx_al0 d_Pa_learn_45 ?_
      refine mx_getI d_Pa_learn_46 fl_Pa_43 (by assumption) ?_
      refine mx_ti (y := nI (G)) (hq1) ?_
      refine mx_icN_ge 127 d_Pa_learn_49 (by decide) (by omega) (by omega) (fun c_49 => ?_) (fun c_49 => absurd c_49 (by omega))
      refine mx_iN2 d_Pa_learn_127 ?_
      refine mx_goto 34 d_Pa_learn_130 (by decide) ?_
      refine mx_dn3 ?_
      exact ih K (pa_next hinv)
  · skip
    obtain ⟨K, hz9⟩ : ∃ q, q = z9 := ⟨_, rfl⟩
    subst hz9
    try dsimp only at hinv ⊢
    obtain ⟨hoff, hq0, hq1, hq2⟩ := id hinv
    refine mx_il2 d_Pa_learn_34 ?_
    refine mx_al0 d_Pa_learn_35 ?_
    refine mx_getI d_Pa_learn_36 fl_Pa_39 (by assumption) ?_
    refine mx_ti (y := nI (H)) (hq0) ?_
    refine mx_icN_ge 133 d_Pa_learn_39 (by decide) (by omega) (by omega) (fun c_39 => ?_) (fun c_39 => absurd c_39 (by omega))
    exact mx_vret d_Pa_learn_133 rfl (mx_sR_of rfl hinv)
theorem c_Pa_hear (hPa : pa_ok S P pa) (hTe : te_ok S P te) (hR : pa_rel I pa W L H G) (hH8 : H ≤ 8) (hG8 : G ≤ 8) (hT : tp_rel I (te + 1) T) (hn : n ≤ 400) (hTl : I te 1 = nI n) (hd : pa + 8 ≤ te) : mx_C l E M_Pa_hear 1 0 0 [.ref (pa), .ref (te)] (t, S, I, P, J) (mx_sR (some (.int (bI (vs_hear T n G H)))) t S P J (fun K => mx_off (fun c => c = pa + 3) I K ∧ (vs_hear T n G H = true → ∀ h, h < H → K (pa + 3) h = mtv (T h)))) := by
  obtain ⟨hTz0, hTe1, hTe2, hTe3, hTe4, hTe5, hTe6, hTe7, hTe8, hTe9, hTe10⟩ := id hTe
  obtain ⟨hPa0, hPa1, hPa2, hPa3, hPa4, hPa5, hPa6, hPa7, hPa8, hPa9, hPa10, hPa11, hPa12, hPa13, hPa14⟩ := id hPa
  obtain ⟨hR0, hR1, hR2⟩ := id hR
  refine mx_C_of (ls0 := [some (.ref (pa)), some (.ref (te)), none, none]) (by decide +kernel) rfl rfl (Nat.le_of_ble_eq_true rfl) rfl ?_
  refine mx_al1 d_Pa_hear_0 ?_
  refine mx_getI d_Pa_hear_1 fl_Pa_75 (by assumption) ?_
  refine mx_ti (y := nI (n)) (hTl) ?_
  refine mx_al0 d_Pa_hear_4 ?_
  refine mx_getI d_Pa_hear_5 fl_Pa_39 (by assumption) ?_
  refine mx_ti (y := nI (H)) (hR0) ?_
  refine mx_icN_eq 13 d_Pa_hear_8 (by decide) (by omega) (by omega) (fun c_8 => ?_) (fun c_8 => ?_)
  · skip
    refine mx_in_0 d_Pa_hear_13 ?_
    refine mx_is2 d_Pa_hear_14 ?_
    refine mx_loopX (α := (mx_I)) (N := H) (a0 := I) (fun h z9 => hr_inv I z9 pa T G h) (ls := fun h z9 => [some (.ref (pa)), some (.ref (te)), some (.int (nI (h))), none]) (X := fun h z9 => (t, S, z9, P, J)) (⟨mx_off.rf, fun a ha => absurd ha (by omega)⟩) (fun h hh z9 hinv ih => ?_) (fun z9 hinv => ?_)
    · skip
      obtain ⟨K, hz9⟩ : ∃ q, q = z9 := ⟨_, rfl⟩
      subst hz9
      try dsimp only at hinv ih ⊢
      refine mx_il2 d_Pa_hear_15 ?_
      refine mx_al0 d_Pa_hear_16 ?_
      refine mx_getI d_Pa_hear_17 fl_Pa_39 (by assumption) ?_
      refine mx_ti (y := nI (H)) ((congrFun (mx_offn hinv.1 (by omega)) 0).trans hR0) ?_
      refine mx_icN_ge 75 d_Pa_hear_20 (by decide) (by omega) (by omega) (fun c_20 => absurd c_20 (by omega)) (fun c_20 => ?_)
      refine mx_al1 d_Pa_hear_23 ?_
      refine mx_getR d_Pa_hear_24 fl_Pa_80 (by assumption) (by assumption) ?_
      refine mx_il2 d_Pa_hear_27 ?_
      refine mx_cSN2i d_Pa_hear_28 (c_get (k := h) (by assumption) (by omega) (by omega)) ok_Vh_get ml_Pa_64 (by decide) (Nat.le_of_ble_eq_true rfl) ?_
      have hTh := (hT h (by omega)).1
      refine mx_ti (y := nI (T h)) ((congrFun (mx_offn hinv.1 (by omega)) h).trans (hT h (by omega)).2) ?_
      refine mx_is3 d_Pa_hear_31 ?_
      refine mx_il3 d_Pa_hear_32 ?_
      refine mx_al0 d_Pa_hear_33 ?_
      refine mx_getI d_Pa_hear_34 fl_Pa_43 (by assumption) ?_
      refine mx_ti (y := nI (G)) ((congrFun (mx_offn hinv.1 (by omega)) 1).trans hR1) ?_
      refine mx_icN_lt 49 d_Pa_hear_37 (by decide) (by omega) (by omega) (fun c_37 => ?_) (fun c_37 => ?_)
      · skip
        refine mx_al0 d_Pa_hear_49 ?_
        refine mx_getR d_Pa_hear_50 fl_Pa_18 (by assumption) (by assumption) ?_
        refine mx_il2 d_Pa_hear_53 ?_
        refine mx_il3 d_Pa_hear_54 ?_
        refine mx_sip 255 d_Pa_hear_55 (by decide) ?_
        refine mx_icN_ne 65 d_Pa_hear_58 (by decide) (by omega) (by omega) (fun c_58 => ?_) (fun c_58 => ?_)
        · skip
          refine mx_il3 d_Pa_hear_65 ?_
          refine mx_cSN3v d_Pa_hear_66 (c_put (k := h) (by assumption) (by omega) (by omega)) ok_Vh_put ml_Pa_56 (by decide) (Nat.le_of_ble_eq_true rfl) ?_
          refine mx_iN2 d_Pa_hear_69 ?_
          refine mx_goto 15 d_Pa_hear_72 (by decide) ?_
          refine mx_dn3 ?_
          exact ih (mx_up K (pa + 3) (h) (nI (T h))) (hr_step hinv ((mtv_lt (by omega)).symm) (by omega))
        · skip
          refine mx_ic_m1 d_Pa_hear_61 ?_
          refine mx_goto 66 d_Pa_hear_62 (by decide) ?_
          refine mx_cSN3v d_Pa_hear_66 (c_put (k := h) (by assumption) (by omega) (by omega)) ok_Vh_put ml_Pa_56 (by decide) (Nat.le_of_ble_eq_true rfl) ?_
          refine mx_iN2 d_Pa_hear_69 ?_
          refine mx_goto 15 d_Pa_hear_72 (by decide) ?_
          refine mx_dn3 ?_
          exact ih (mx_up K (pa + 3) (h) ((-1))) (hr_step hinv ((mtv_ge (by omega)).symm) (by omega))
      · skip
        refine mx_il3 d_Pa_hear_40 ?_
        refine mx_sip 255 d_Pa_hear_41 (by decide) ?_
        refine mx_icN_eq 49 d_Pa_hear_44 (by decide) (by omega) (by omega) (fun c_44 => ?_) (fun c_44 => ?_)
        · skip
          refine mx_al0 d_Pa_hear_49 ?_
          refine mx_getR d_Pa_hear_50 fl_Pa_18 (by assumption) (by assumption) ?_
          refine mx_il2 d_Pa_hear_53 ?_
          refine mx_il3 d_Pa_hear_54 ?_
          refine mx_sip 255 d_Pa_hear_55 (by decide) ?_
          refine mx_icN_ne 65 d_Pa_hear_58 (by decide) (by omega) (by omega) (fun c_58 => ?_) (fun c_58 => ?_)
          · skip
            refine mx_il3 d_Pa_hear_65 ?_
            refine mx_cSN3v d_Pa_hear_66 (c_put (k := h) (by assumption) (by omega) (by omega)) ok_Vh_put ml_Pa_56 (by decide) (Nat.le_of_ble_eq_true rfl) ?_
            refine mx_iN2 d_Pa_hear_69 ?_
            refine mx_goto 15 d_Pa_hear_72 (by decide) ?_
            refine mx_dn3 ?_
            exact ih (mx_up K (pa + 3) (h) (nI (T h))) (hr_step hinv ((mtv_lt (by omega)).symm) (by omega))
          · skip
            refine mx_ic_m1 d_Pa_hear_61 ?_
            refine mx_goto 66 d_Pa_hear_62 (by decide) ?_
            refine mx_cSN3v d_Pa_hear_66 (c_put (k := h) (by assumption) (by omega) (by omega)) ok_Vh_put ml_Pa_56 (by decide) (Nat.le_of_ble_eq_true rfl) ?_
            refine mx_iN2 d_Pa_hear_69 ?_
            refine mx_goto 15 d_Pa_hear_72 (by decide) ?_
            refine mx_dn3 ?_
            exact ih (mx_up K (pa + 3) (h) ((-1))) (hr_step hinv ((mtv_ge (by omega)).symm) (by omega))
        · skip
          refine mx_in_0 d_Pa_hear_47 ?_
          exact mx_zret d_Pa_hear_48 rfl (by first | exact Or.inl rfl | exact Or.inr rfl) (mx_sR_i (by rw [vs_hear_f hh (by omega)]; rfl) ⟨hinv.1, fun h9 => absurd h9 (by rw [vs_hear_f hh (by omega)]; decide)⟩)
    · skip
      obtain ⟨K, hz9⟩ : ∃ q, q = z9 := ⟨_, rfl⟩
      subst hz9
      try dsimp only at hinv ⊢
      refine mx_il2 d_Pa_hear_15 ?_
      refine mx_al0 d_Pa_hear_16 ?_
      refine mx_getI d_Pa_hear_17 fl_Pa_39 (by assumption) ?_
      refine mx_ti (y := nI (H)) ((congrFun (mx_offn hinv.1 (by omega)) 0).trans hR0) ?_
      refine mx_icN_ge 75 d_Pa_hear_20 (by decide) (by omega) (by omega) (fun c_20 => ?_) (fun c_20 => absurd c_20 (by omega))
      refine mx_in_1 d_Pa_hear_75 ?_
      exact mx_zret d_Pa_hear_76 rfl (by first | exact Or.inl rfl | exact Or.inr rfl) (mx_sR_i (by rw [vs_hear_t c_8 (fun a ha => (hinv.2 a ha).2)]; rfl) ⟨hinv.1, fun _ a ha => (hinv.2 a ha).1⟩)
  · skip
    refine mx_in_0 d_Pa_hear_11 ?_
    exact mx_zret d_Pa_hear_12 rfl (by first | exact Or.inl rfl | exact Or.inr rfl) (mx_sR_i (by rw [vs_hear_n c_8]; rfl) ⟨mx_off.rf, fun h9 => absurd h9 (by rw [vs_hear_n c_8]; decide)⟩)
theorem c_Pa_mayBe (hPa : pa_ok S P pa) (hR : pa_rel I pa W L H G) (hH8 : H ≤ 8) (hG8 : G ≤ 8) (hM : ∀ h, h < H → I (pa + 3) h = mtv (M h))  : mx_C l E M_Pa_mayBe 1 0 0 [.ref (pa)] (t, S, I, P, J) (mx_ri (bI (vs_mbA W M H)) (t, S, I, P, J)) := by
  obtain ⟨hPa0, hPa1, hPa2, hPa3, hPa4, hPa5, hPa6, hPa7, hPa8, hPa9, hPa10, hPa11, hPa12, hPa13, hPa14⟩ := id hPa
  obtain ⟨hR0, hR1, hR2⟩ := id hR
  refine mx_C_of (ls0 := [some (.ref (pa)), none, none, none]) (by decide +kernel) rfl rfl (Nat.le_of_ble_eq_true rfl) rfl ?_
  refine mx_in_0 d_Pa_mayBe_0 ?_
  refine mx_is1 d_Pa_mayBe_1 ?_
  refine mx_in_0 d_Pa_mayBe_2 ?_
  refine mx_is2 d_Pa_mayBe_3 ?_
  refine mx_loopI (N := H) (fun h => ∀ a, a < h → vs_mb W M a = true) (ls := fun h => [some (.ref (pa)), some (.int ((vs_sn M h))), some (.int (nI (h))), none]) (X := fun h => (t, S, I, P, J)) (fun a ha => absurd ha (by omega)) (fun h hh hinv ih => ?_) (fun hinv => ?_)
  · try dsimp only at hinv ih ⊢
    refine mx_il2 d_Pa_mayBe_4 ?_
    refine mx_al0 d_Pa_mayBe_5 ?_
    refine mx_getI d_Pa_mayBe_6 fl_Pa_39 (by assumption) ?_
    refine mx_ti (y := nI (H)) (hR0) ?_
    refine mx_icN_ge 73 d_Pa_mayBe_9 (by decide) (by omega) (by omega) (fun c_9 => absurd c_9 (by omega)) (fun c_9 => ?_)
    refine mx_al0 d_Pa_mayBe_12 ?_
    refine mx_getR d_Pa_mayBe_13 fl_Pa_18 (by assumption) (by assumption) ?_
    refine mx_il2 d_Pa_mayBe_16 ?_
    refine mx_cSN2i d_Pa_mayBe_17 (c_get (k := h) (by assumption) (by omega) (by omega)) ok_Vh_get ml_Pa_64 (by decide) (Nat.le_of_ble_eq_true rfl) ?_
    refine mx_ti (y := (mtv (M h))) (hM h hh) ?_
    refine mx_is3 d_Pa_mayBe_20 ?_
    refine mx_il3 d_Pa_mayBe_21 ?_
    refine mx_ic_m1 d_Pa_mayBe_22 ?_
    refine mx_icmp_eq 52 d_Pa_mayBe_23 (by decide) (fun c_23 => ?_) (fun c_23 => ?_)
    · skip
      have u8 : ¬ M h < 8 := mtv_e c_23
      rw [mtv_ge u8]
      refine mx_il1 d_Pa_mayBe_52 ?_
      refine mx_il3 d_Pa_mayBe_53 ?_
      refine mx_ic_m1 d_Pa_mayBe_54 ?_
      refine mx_icmp_ne 62 d_Pa_mayBe_55 (by decide) (fun c_55 => absurd c_55 (fun z => z rfl)) (fun c_55 => ?_)
      refine mx_in_0 d_Pa_mayBe_58 ?_
      refine mx_goto 65 d_Pa_mayBe_59 (by decide) ?_
      refine mx_ior d_Pa_mayBe_65 ?_
      refine mx_is1 d_Pa_mayBe_66 ?_
      refine mx_iN2 d_Pa_mayBe_67 ?_
      refine mx_goto 4 d_Pa_mayBe_70 (by decide) ?_
      refine mx_dn3 ?_
      have e1 : ((vs_sn M h) ||| nI (0)) = (vs_sn M (h + 1)) := by first | (rw [vs_sn_s, if_pos u8]; done) | (rw [vs_sn_s, if_neg u8]; done)
      refine mx_lsc (congrArg (fun z9 => ([some (.ref (pa)), some (.int (z9)), some (.int (nI (h + 1))), none] : List (Option Value))) e1) ?_
      exact ih (vs_nextT hinv (by first | exact mbT1 u8 | exact mbT2 c_31 w0))
    · skip
      have u8 : M h < 8 := mtv_n c_23
      rw [mtv_lt u8]
      refine mx_il1 d_Pa_mayBe_26 ?_
      refine mx_il3 d_Pa_mayBe_27 ?_
      refine mx_cSN2i d_Pa_mayBe_28 (c_has (j := M h) (by omega)) ok_Vh_has ml_Pa_83 (by decide) (Nat.le_of_ble_eq_true rfl) ?_
      refine mx_ifB_ne 50 d_Pa_mayBe_31 (by decide) (fun c_31 => ?_) (fun c_31 => ?_)
      · skip
        rw [vs_has_bt (by omega), vs_sn_b u8] at c_31
        refine mx_in_0 d_Pa_mayBe_50 ?_
        exact mx_zret d_Pa_mayBe_51 rfl (by first | exact Or.inl rfl | exact Or.inr rfl) (mx_ri_of (by first | (rw [vs_mbA_f hh (mbF1 u8 c_31)]; rfl) | (rw [vs_mbA_f hh (mbF2 u8 w0)]; rfl)))
      · skip
        rw [vs_has_bt (by omega), vs_sn_b u8] at c_31
        refine mx_al0 d_Pa_mayBe_34 ?_
        refine mx_getR d_Pa_mayBe_35 fl_Pa_9 (by assumption) (by assumption) ?_
        refine mx_bip 8 d_Pa_mayBe_38 (by decide) ?_
        refine mx_il2 d_Pa_mayBe_40 ?_
        refine mx_imulN d_Pa_mayBe_41 ?_
        refine mx_il3 d_Pa_mayBe_42 ?_
        refine mx_iaddN d_Pa_mayBe_43 ?_
        refine mx_cSN2i d_Pa_mayBe_44 (c_get (k := 8 * h + M h) (by assumption) (by omega) (by omega)) ok_Vh_get ml_Pa_64 (by decide) (Nat.le_of_ble_eq_true rfl) ?_
        have wb := (hR2 h (M h) (by omega) u8).1.1
        refine mx_ti (y := nI (W h (M h))) ((hR2 h (M h) (by omega) u8).1.2) ?_
        refine mx_if_ne 52 d_Pa_mayBe_47 (by decide) (fun c_47 => ?_) (fun c_47 => ?_)
        · skip
          have w0 := nI_gt c_47
          refine mx_il1 d_Pa_mayBe_52 ?_
          refine mx_il3 d_Pa_mayBe_53 ?_
          refine mx_ic_m1 d_Pa_mayBe_54 ?_
          refine mx_icmp_ne 62 d_Pa_mayBe_55 (by decide) (fun c_55 => ?_) (fun c_55 => absurd c_55 (nI_m1 u8))
          refine mx_in_1 d_Pa_mayBe_62 ?_
          refine mx_il3 d_Pa_mayBe_63 ?_
          refine mx_ishl d_Pa_mayBe_64 ?_
          refine mx_ior d_Pa_mayBe_65 ?_
          refine mx_is1 d_Pa_mayBe_66 ?_
          refine mx_iN2 d_Pa_mayBe_67 ?_
          refine mx_goto 4 d_Pa_mayBe_70 (by decide) ?_
          refine mx_dn3 ?_
          have e1 : ((vs_sn M h) ||| (nI (1) <<< (nI (M h) &&& 31))) = (vs_sn M (h + 1)) := by first | (rw [vs_sn_s, if_pos u8]; done) | (rw [vs_sn_s, if_neg u8]; done)
          refine mx_lsc (congrArg (fun z9 => ([some (.ref (pa)), some (.int (z9)), some (.int (nI (h + 1))), none] : List (Option Value))) e1) ?_
          exact ih (vs_nextT hinv (by first | exact mbT1 u8 | exact mbT2 c_31 w0))
        · skip
          have w0 := nI_z (by omega) c_47
          refine mx_in_0 d_Pa_mayBe_50 ?_
          exact mx_zret d_Pa_mayBe_51 rfl (by first | exact Or.inl rfl | exact Or.inr rfl) (mx_ri_of (by first | (rw [vs_mbA_f hh (mbF1 u8 c_31)]; rfl) | (rw [vs_mbA_f hh (mbF2 u8 w0)]; rfl)))
  · try dsimp only at hinv ⊢
    refine mx_il2 d_Pa_mayBe_4 ?_
    refine mx_al0 d_Pa_mayBe_5 ?_
    refine mx_getI d_Pa_mayBe_6 fl_Pa_39 (by assumption) ?_
    refine mx_ti (y := nI (H)) (hR0) ?_
    refine mx_icN_ge 73 d_Pa_mayBe_9 (by decide) (by omega) (by omega) (fun c_9 => ?_) (fun c_9 => absurd c_9 (by omega))
    refine mx_in_1 d_Pa_mayBe_73 ?_
    exact mx_zret d_Pa_mayBe_74 rfl (by first | exact Or.inl rfl | exact Or.inr rfl) (mx_ri_of (by rw [vs_mbA_t hinv]; rfl))
theorem c_Pa_wouldBoth (hPa : pa_ok S P pa) (hR : pa_rel I pa W L H G) {h g u w : Nat} (hh : h < 8) (hg : g < 8) : mx_C l E M_Pa_wouldBoth 1 0 0 [.ref (pa), .int (nI (h)), .int (nI (g)), .int ((mtv u)), .int ((mtv w))] (t, S, I, P, J) (mx_ri (bI (vs_wb W L h g u w)) (t, S, I, P, J)) := by
  obtain ⟨hPa0, hPa1, hPa2, hPa3, hPa4, hPa5, hPa6, hPa7, hPa8, hPa9, hPa10, hPa11, hPa12, hPa13, hPa14⟩ := id hPa
  obtain ⟨hR0, hR1, hR2⟩ := id hR
  refine mx_C_of (ls0 := [some (.ref (pa)), some (.int (nI (h))), some (.int (nI (g))), some (.int ((mtv u))), some (.int ((mtv w))), none, none]) (by decide +kernel) rfl rfl (Nat.le_of_ble_eq_true rfl) rfl ?_
  refine mx_il3 d_Pa_wouldBoth_0 ?_
  refine mx_ic_m1 d_Pa_wouldBoth_1 ?_
  refine mx_icmp_ne 9 d_Pa_wouldBoth_2 (by decide) (fun c_2 => ?_) (fun c_2 => ?_)
  · skip
    have u8 : u < 8 := mtv_n c_2
    rw [mtv_lt u8]
    have wu := (hR2 h u hh u8).1.1
    refine mx_al0 d_Pa_wouldBoth_9 ?_
    refine mx_getR d_Pa_wouldBoth_10 fl_Pa_9 (by assumption) (by assumption) ?_
    refine mx_bip 8 d_Pa_wouldBoth_13 (by decide) ?_
    refine mx_il1 d_Pa_wouldBoth_15 ?_
    refine mx_imulN d_Pa_wouldBoth_16 ?_
    refine mx_il3 d_Pa_wouldBoth_17 ?_
    refine mx_iaddN d_Pa_wouldBoth_18 ?_
    refine mx_cSN2i d_Pa_wouldBoth_19 (c_get (k := 8 * h + u) (by assumption) (by omega) (by omega)) ok_Vh_get ml_Pa_64 (by decide) (Nat.le_of_ble_eq_true rfl) ?_
    refine mx_ti (y := nI (W h u)) ((hR2 h u hh u8).1.2) ?_
    refine mx_is5 d_Pa_wouldBoth_22 ?_
    refine mx_il4 d_Pa_wouldBoth_24 ?_
    refine mx_ic_m1 d_Pa_wouldBoth_26 ?_
    refine mx_icmp_ne 34 d_Pa_wouldBoth_27 (by decide) (fun c_27 => ?_) (fun c_27 => ?_)
    · skip
      have w8 : w < 8 := mtv_n c_27
      rw [mtv_lt w8]
      have ww := (hR2 w g w8 hg).2.1
      refine mx_al0 d_Pa_wouldBoth_34 ?_
      refine mx_getR d_Pa_wouldBoth_35 fl_Pa_15 (by assumption) (by assumption) ?_
      refine mx_bip 8 d_Pa_wouldBoth_38 (by decide) ?_
      refine mx_il2 d_Pa_wouldBoth_40 ?_
      refine mx_imulN d_Pa_wouldBoth_41 ?_
      refine mx_il4 d_Pa_wouldBoth_42 ?_
      refine mx_iaddN d_Pa_wouldBoth_44 ?_
      refine mx_cSN2i d_Pa_wouldBoth_45 (c_get (k := 8 * g + w) (by assumption) (by omega) (by omega)) ok_Vh_get ml_Pa_64 (by decide) (Nat.le_of_ble_eq_true rfl) ?_
      refine mx_ti (y := nI (L g w)) ((hR2 w g w8 hg).2.2) ?_
      refine mx_is6 d_Pa_wouldBoth_48 ?_
      refine mx_al0 d_Pa_wouldBoth_50 ?_
      refine mx_getR d_Pa_wouldBoth_51 fl_Pa_9 (by assumption) (by assumption) ?_
      refine mx_bip 8 d_Pa_wouldBoth_54 (by decide) ?_
      refine mx_il1 d_Pa_wouldBoth_56 ?_
      refine mx_imulN d_Pa_wouldBoth_57 ?_
      refine mx_il2 d_Pa_wouldBoth_58 ?_
      refine mx_iaddN d_Pa_wouldBoth_59 ?_
      refine mx_cSN2i d_Pa_wouldBoth_60 (c_get (k := 8 * h + g) (by assumption) (by omega) (by omega)) ok_Vh_get ml_Pa_64 (by decide) (Nat.le_of_ble_eq_true rfl) ?_
      have wa := (hR2 h g hh hg).1.1
      refine mx_ti (y := nI (W h g)) ((hR2 h g hh hg).1.2) ?_
      refine mx_il5 d_Pa_wouldBoth_63 ?_
      refine mx_icN_le 90 d_Pa_wouldBoth_65 (by decide) (by omega) (by omega) (fun c_65 => ?_) (fun c_65 => ?_)
      · skip
        refine mx_in_0 d_Pa_wouldBoth_90 ?_
        exact mx_zret d_Pa_wouldBoth_91 rfl (by first | exact Or.inl rfl | exact Or.inr rfl) (mx_ri_of (by rw [show vs_wb W L h g u w = false from by rw [vs_wb_8]; simp [u8, w8]; omega]; rfl))
      · skip
        refine mx_al0 d_Pa_wouldBoth_68 ?_
        refine mx_getR d_Pa_wouldBoth_69 fl_Pa_15 (by assumption) (by assumption) ?_
        refine mx_bip 8 d_Pa_wouldBoth_72 (by decide) ?_
        refine mx_il2 d_Pa_wouldBoth_74 ?_
        refine mx_imulN d_Pa_wouldBoth_75 ?_
        refine mx_il1 d_Pa_wouldBoth_76 ?_
        refine mx_iaddN d_Pa_wouldBoth_77 ?_
        refine mx_cSN2i d_Pa_wouldBoth_78 (c_get (k := 8 * g + h) (by assumption) (by omega) (by omega)) ok_Vh_get ml_Pa_64 (by decide) (Nat.le_of_ble_eq_true rfl) ?_
        have wz := (hR2 h g hh hg).2.1
        refine mx_ti (y := nI (L g h)) ((hR2 h g hh hg).2.2) ?_
        refine mx_il6 d_Pa_wouldBoth_81 ?_
        refine mx_icN_le 90 d_Pa_wouldBoth_83 (by decide) (by omega) (by omega) (fun c_83 => ?_) (fun c_83 => ?_)
        · skip
          refine mx_in_0 d_Pa_wouldBoth_90 ?_
          exact mx_zret d_Pa_wouldBoth_91 rfl (by first | exact Or.inl rfl | exact Or.inr rfl) (mx_ri_of (by rw [show vs_wb W L h g u w = false from by rw [vs_wb_8]; simp [u8, w8]; omega]; rfl))
        · skip
          refine mx_in_1 d_Pa_wouldBoth_86 ?_
          refine mx_goto 91 d_Pa_wouldBoth_87 (by decide) ?_
          exact mx_zret d_Pa_wouldBoth_91 rfl (by first | exact Or.inl rfl | exact Or.inr rfl) (mx_ri_of (by rw [show vs_wb W L h g u w = true from by rw [vs_wb_8]; simp [u8, w8]; omega]; rfl))
    · skip
      have w8 : ¬ w < 8 := mtv_e c_27
      refine mx_in_0 d_Pa_wouldBoth_30 ?_
      refine mx_goto 48 d_Pa_wouldBoth_31 (by decide) ?_
      refine mx_ti (y := nI (0)) (rfl) ?_
      refine mx_is6 d_Pa_wouldBoth_48 ?_
      refine mx_al0 d_Pa_wouldBoth_50 ?_
      refine mx_getR d_Pa_wouldBoth_51 fl_Pa_9 (by assumption) (by assumption) ?_
      refine mx_bip 8 d_Pa_wouldBoth_54 (by decide) ?_
      refine mx_il1 d_Pa_wouldBoth_56 ?_
      refine mx_imulN d_Pa_wouldBoth_57 ?_
      refine mx_il2 d_Pa_wouldBoth_58 ?_
      refine mx_iaddN d_Pa_wouldBoth_59 ?_
      refine mx_cSN2i d_Pa_wouldBoth_60 (c_get (k := 8 * h + g) (by assumption) (by omega) (by omega)) ok_Vh_get ml_Pa_64 (by decide) (Nat.le_of_ble_eq_true rfl) ?_
      have wa := (hR2 h g hh hg).1.1
      refine mx_ti (y := nI (W h g)) ((hR2 h g hh hg).1.2) ?_
      refine mx_il5 d_Pa_wouldBoth_63 ?_
      refine mx_icN_le 90 d_Pa_wouldBoth_65 (by decide) (by omega) (by omega) (fun c_65 => ?_) (fun c_65 => ?_)
      · skip
        refine mx_in_0 d_Pa_wouldBoth_90 ?_
        exact mx_zret d_Pa_wouldBoth_91 rfl (by first | exact Or.inl rfl | exact Or.inr rfl) (mx_ri_of (by rw [show vs_wb W L h g u w = false from by rw [vs_wb_8]; simp [u8, w8]; omega]; rfl))
      · skip
        refine mx_al0 d_Pa_wouldBoth_68 ?_
        refine mx_getR d_Pa_wouldBoth_69 fl_Pa_15 (by assumption) (by assumption) ?_
        refine mx_bip 8 d_Pa_wouldBoth_72 (by decide) ?_
        refine mx_il2 d_Pa_wouldBoth_74 ?_
        refine mx_imulN d_Pa_wouldBoth_75 ?_
        refine mx_il1 d_Pa_wouldBoth_76 ?_
        refine mx_iaddN d_Pa_wouldBoth_77 ?_
        refine mx_cSN2i d_Pa_wouldBoth_78 (c_get (k := 8 * g + h) (by assumption) (by omega) (by omega)) ok_Vh_get ml_Pa_64 (by decide) (Nat.le_of_ble_eq_true rfl) ?_
        have wz := (hR2 h g hh hg).2.1
        refine mx_ti (y := nI (L g h)) ((hR2 h g hh hg).2.2) ?_
        refine mx_il6 d_Pa_wouldBoth_81 ?_
        refine mx_icN_le 90 d_Pa_wouldBoth_83 (by decide) (by omega) (by omega) (fun c_83 => ?_) (fun c_83 => ?_)
        · skip
          refine mx_in_0 d_Pa_wouldBoth_90 ?_
          exact mx_zret d_Pa_wouldBoth_91 rfl (by first | exact Or.inl rfl | exact Or.inr rfl) (mx_ri_of (by rw [show vs_wb W L h g u w = false from by rw [vs_wb_8]; simp [u8, w8]; omega]; rfl))
        · skip
          refine mx_in_1 d_Pa_wouldBoth_86 ?_
          refine mx_goto 91 d_Pa_wouldBoth_87 (by decide) ?_
          exact mx_zret d_Pa_wouldBoth_91 rfl (by first | exact Or.inl rfl | exact Or.inr rfl) (mx_ri_of (by rw [show vs_wb W L h g u w = true from by rw [vs_wb_8]; simp [u8, w8]; omega]; rfl))
  · skip
    have u8 : ¬ u < 8 := mtv_e c_2
    refine mx_in_0 d_Pa_wouldBoth_5 ?_
    refine mx_goto 22 d_Pa_wouldBoth_6 (by decide) ?_
    refine mx_ti (y := nI (0)) (rfl) ?_
    refine mx_is5 d_Pa_wouldBoth_22 ?_
    refine mx_il4 d_Pa_wouldBoth_24 ?_
    refine mx_ic_m1 d_Pa_wouldBoth_26 ?_
    refine mx_icmp_ne 34 d_Pa_wouldBoth_27 (by decide) (fun c_27 => ?_) (fun c_27 => ?_)
    · skip
      have w8 : w < 8 := mtv_n c_27
      rw [mtv_lt w8]
      have ww := (hR2 w g w8 hg).2.1
      refine mx_al0 d_Pa_wouldBoth_34 ?_
      refine mx_getR d_Pa_wouldBoth_35 fl_Pa_15 (by assumption) (by assumption) ?_
      refine mx_bip 8 d_Pa_wouldBoth_38 (by decide) ?_
      refine mx_il2 d_Pa_wouldBoth_40 ?_
      refine mx_imulN d_Pa_wouldBoth_41 ?_
      refine mx_il4 d_Pa_wouldBoth_42 ?_
      refine mx_iaddN d_Pa_wouldBoth_44 ?_
      refine mx_cSN2i d_Pa_wouldBoth_45 (c_get (k := 8 * g + w) (by assumption) (by omega) (by omega)) ok_Vh_get ml_Pa_64 (by decide) (Nat.le_of_ble_eq_true rfl) ?_
      refine mx_ti (y := nI (L g w)) ((hR2 w g w8 hg).2.2) ?_
      refine mx_is6 d_Pa_wouldBoth_48 ?_
      refine mx_al0 d_Pa_wouldBoth_50 ?_
      refine mx_getR d_Pa_wouldBoth_51 fl_Pa_9 (by assumption) (by assumption) ?_
      refine mx_bip 8 d_Pa_wouldBoth_54 (by decide) ?_
      refine mx_il1 d_Pa_wouldBoth_56 ?_
      refine mx_imulN d_Pa_wouldBoth_57 ?_
      refine mx_il2 d_Pa_wouldBoth_58 ?_
      refine mx_iaddN d_Pa_wouldBoth_59 ?_
      refine mx_cSN2i d_Pa_wouldBoth_60 (c_get (k := 8 * h + g) (by assumption) (by omega) (by omega)) ok_Vh_get ml_Pa_64 (by decide) (Nat.le_of_ble_eq_true rfl) ?_
      have wa := (hR2 h g hh hg).1.1
      refine mx_ti (y := nI (W h g)) ((hR2 h g hh hg).1.2) ?_
      refine mx_il5 d_Pa_wouldBoth_63 ?_
      refine mx_icN_le 90 d_Pa_wouldBoth_65 (by decide) (by omega) (by omega) (fun c_65 => ?_) (fun c_65 => ?_)
      · skip
        refine mx_in_0 d_Pa_wouldBoth_90 ?_
        exact mx_zret d_Pa_wouldBoth_91 rfl (by first | exact Or.inl rfl | exact Or.inr rfl) (mx_ri_of (by rw [show vs_wb W L h g u w = false from by rw [vs_wb_8]; simp [u8, w8]; omega]; rfl))
      · skip
        refine mx_al0 d_Pa_wouldBoth_68 ?_
        refine mx_getR d_Pa_wouldBoth_69 fl_Pa_15 (by assumption) (by assumption) ?_
        refine mx_bip 8 d_Pa_wouldBoth_72 (by decide) ?_
        refine mx_il2 d_Pa_wouldBoth_74 ?_
        refine mx_imulN d_Pa_wouldBoth_75 ?_
        refine mx_il1 d_Pa_wouldBoth_76 ?_
        refine mx_iaddN d_Pa_wouldBoth_77 ?_
        refine mx_cSN2i d_Pa_wouldBoth_78 (c_get (k := 8 * g + h) (by assumption) (by omega) (by omega)) ok_Vh_get ml_Pa_64 (by decide) (Nat.le_of_ble_eq_true rfl) ?_
        have wz := (hR2 h g hh hg).2.1
        refine mx_ti (y := nI (L g h)) ((hR2 h g hh hg).2.2) ?_
        refine mx_il6 d_Pa_wouldBoth_81 ?_
        refine mx_icN_le 90 d_Pa_wouldBoth_83 (by decide) (by omega) (by omega) (fun c_83 => ?_) (fun c_83 => ?_)
        · skip
          refine mx_in_0 d_Pa_wouldBoth_90 ?_
          exact mx_zret d_Pa_wouldBoth_91 rfl (by first | exact Or.inl rfl | exact Or.inr rfl) (mx_ri_of (by rw [show vs_wb W L h g u w = false from by rw [vs_wb_8]; simp [u8, w8]; omega]; rfl))
        · skip
          refine mx_in_1 d_Pa_wouldBoth_86 ?_
          refine mx_goto 91 d_Pa_wouldBoth_87 (by decide) ?_
          exact mx_zret d_Pa_wouldBoth_91 rfl (by first | exact Or.inl rfl | exact Or.inr rfl) (mx_ri_of (by rw [show vs_wb W L h g u w = true from by rw [vs_wb_8]; simp [u8, w8]; omega]; rfl))
    · skip
      have w8 : ¬ w < 8 := mtv_e c_27
      refine mx_in_0 d_Pa_wouldBoth_30 ?_
      refine mx_goto 48 d_Pa_wouldBoth_31 (by decide) ?_
      refine mx_ti (y := nI (0)) (rfl) ?_
      refine mx_is6 d_Pa_wouldBoth_48 ?_
      refine mx_al0 d_Pa_wouldBoth_50 ?_
      refine mx_getR d_Pa_wouldBoth_51 fl_Pa_9 (by assumption) (by assumption) ?_
      refine mx_bip 8 d_Pa_wouldBoth_54 (by decide) ?_
      refine mx_il1 d_Pa_wouldBoth_56 ?_
      refine mx_imulN d_Pa_wouldBoth_57 ?_
      refine mx_il2 d_Pa_wouldBoth_58 ?_
      refine mx_iaddN d_Pa_wouldBoth_59 ?_
      refine mx_cSN2i d_Pa_wouldBoth_60 (c_get (k := 8 * h + g) (by assumption) (by omega) (by omega)) ok_Vh_get ml_Pa_64 (by decide) (Nat.le_of_ble_eq_true rfl) ?_
      have wa := (hR2 h g hh hg).1.1
      refine mx_ti (y := nI (W h g)) ((hR2 h g hh hg).1.2) ?_
      refine mx_il5 d_Pa_wouldBoth_63 ?_
      refine mx_icN_le 90 d_Pa_wouldBoth_65 (by decide) (by omega) (by omega) (fun c_65 => ?_) (fun c_65 => ?_)
      · skip
        refine mx_in_0 d_Pa_wouldBoth_90 ?_
        exact mx_zret d_Pa_wouldBoth_91 rfl (by first | exact Or.inl rfl | exact Or.inr rfl) (mx_ri_of (by rw [show vs_wb W L h g u w = false from by rw [vs_wb_8]; simp [u8, w8]; omega]; rfl))
      · skip
        refine mx_al0 d_Pa_wouldBoth_68 ?_
        refine mx_getR d_Pa_wouldBoth_69 fl_Pa_15 (by assumption) (by assumption) ?_
        refine mx_bip 8 d_Pa_wouldBoth_72 (by decide) ?_
        refine mx_il2 d_Pa_wouldBoth_74 ?_
        refine mx_imulN d_Pa_wouldBoth_75 ?_
        refine mx_il1 d_Pa_wouldBoth_76 ?_
        refine mx_iaddN d_Pa_wouldBoth_77 ?_
        refine mx_cSN2i d_Pa_wouldBoth_78 (c_get (k := 8 * g + h) (by assumption) (by omega) (by omega)) ok_Vh_get ml_Pa_64 (by decide) (Nat.le_of_ble_eq_true rfl) ?_
        have wz := (hR2 h g hh hg).2.1
        refine mx_ti (y := nI (L g h)) ((hR2 h g hh hg).2.2) ?_
        refine mx_il6 d_Pa_wouldBoth_81 ?_
        refine mx_icN_le 90 d_Pa_wouldBoth_83 (by decide) (by omega) (by omega) (fun c_83 => ?_) (fun c_83 => ?_)
        · skip
          refine mx_in_0 d_Pa_wouldBoth_90 ?_
          exact mx_zret d_Pa_wouldBoth_91 rfl (by first | exact Or.inl rfl | exact Or.inr rfl) (mx_ri_of (by rw [show vs_wb W L h g u w = false from by rw [vs_wb_8]; simp [u8, w8]; omega]; rfl))
        · skip
          refine mx_in_1 d_Pa_wouldBoth_86 ?_
          refine mx_goto 91 d_Pa_wouldBoth_87 (by decide) ?_
          exact mx_zret d_Pa_wouldBoth_91 rfl (by first | exact Or.inl rfl | exact Or.inr rfl) (mx_ri_of (by rw [show vs_wb W L h g u w = true from by rw [vs_wb_8]; simp [u8, w8]; omega]; rfl))
theorem c_Pa_rivals (hPa : pa_ok S P pa) (hR : pa_rel I pa W L H G) (hH8 : H ≤ 8) (hG8 : G ≤ 8) (hM : ∀ h, h < H → I (pa + 3) h = mtv (M h))  : mx_C l E M_Pa_rivals 2 0 0 [.ref (pa)] (t, S, I, P, J) (mx_sR (some (.int (nI (vs_rvP W L M (vs_ho M H) G H)))) t S P J (fun K => mx_off (fun c => c = pa + 4) I K)) := by
  obtain ⟨hPa0, hPa1, hPa2, hPa3, hPa4, hPa5, hPa6, hPa7, hPa8, hPa9, hPa10, hPa11, hPa12, hPa13, hPa14⟩ := id hPa
  obtain ⟨hR0, hR1, hR2⟩ := id hR
  refine mx_C_of (ls0 := [some (.ref (pa)), none, none, none]) (by decide +kernel) rfl rfl (Nat.le_of_ble_eq_true rfl) rfl ?_
  refine mx_al0 d_Pa_rivals_0 ?_
  refine mx_getR d_Pa_rivals_1 fl_Pa_21 (by assumption) (by assumption) ?_
  refine mx_ic_m1 d_Pa_rivals_4 ?_
  refine mx_cSN2v d_Pa_rivals_5 (c_fill (by assumption) (by omega)) ok_Vh_fill ml_Pa_44 (by decide) (Nat.le_of_ble_eq_true rfl) ?_
  refine mx_in_0 d_Pa_rivals_8 ?_
  refine mx_is1 d_Pa_rivals_9 ?_
  refine mx_loopX (α := (mx_I)) (N := H) (a0 := (vs_fill I (pa + 4) 8 ((-1)))) (fun h z9 => rv_inv I z9 pa M h) (ls := fun h z9 => [some (.ref (pa)), some (.int (nI (h))), none, none]) (X := fun h z9 => (t, S, z9, P, J)) (rv_inv0) (fun h hh z9 hinv ih => ?_) (fun z9 hinv => ?_)
  · skip
    obtain ⟨K, hz9⟩ : ∃ q, q = z9 := ⟨_, rfl⟩
    subst hz9
    try dsimp only at hinv ih ⊢
    refine mx_il1 d_Pa_rivals_10 ?_
    refine mx_al0 d_Pa_rivals_11 ?_
    refine mx_getI d_Pa_rivals_12 fl_Pa_39 (by assumption) ?_
    refine mx_ti (y := nI (H)) ((congrFun (mx_offn hinv.1 (by omega)) 0).trans hR0) ?_
    refine mx_icN_ge 52 d_Pa_rivals_15 (by decide) (by omega) (by omega) (fun c_15 => absurd c_15 (by omega)) (fun c_15 => ?_)
    refine mx_al0 d_Pa_rivals_18 ?_
    refine mx_getR d_Pa_rivals_19 fl_Pa_18 (by assumption) (by assumption) ?_
    refine mx_il1 d_Pa_rivals_22 ?_
    refine mx_cSN2i d_Pa_rivals_23 (c_get (k := h) (by assumption) (by omega) (by omega)) ok_Vh_get ml_Pa_64 (by decide) (Nat.le_of_ble_eq_true rfl) ?_
    refine mx_ti (y := (mtv (M h))) ((congrFun (mx_offn hinv.1 (by omega)) h).trans (hM h hh)) ?_
    refine mx_ic_m1 d_Pa_rivals_26 ?_
    refine mx_icmp_eq 46 d_Pa_rivals_27 (by decide) (fun c_27 => ?_) (fun c_27 => ?_)
    · skip
      have u8 : ¬ M h < 8 := mtv_e c_27
      refine mx_iN1 d_Pa_rivals_46 ?_
      refine mx_goto 10 d_Pa_rivals_49 (by decide) ?_
      exact ih K (rv_step0 hinv u8)
    · skip
      have u8 : M h < 8 := mtv_n c_27
      refine mx_al0 d_Pa_rivals_30 ?_
      refine mx_getR d_Pa_rivals_31 fl_Pa_21 (by assumption) (by assumption) ?_
      refine mx_al0 d_Pa_rivals_34 ?_
      refine mx_getR d_Pa_rivals_35 fl_Pa_18 (by assumption) (by assumption) ?_
      refine mx_il1 d_Pa_rivals_38 ?_
      refine mx_cSN2i d_Pa_rivals_39 (c_get (k := h) (by assumption) (by omega) (by omega)) ok_Vh_get ml_Pa_64 (by decide) (Nat.le_of_ble_eq_true rfl) ?_
      refine mx_ti (y := nI (M h)) ((congrFun (mx_offn hinv.1 (by omega)) h).trans ((hM h hh).trans (mtv_lt u8))) ?_
      refine mx_il1 d_Pa_rivals_42 ?_
      refine mx_cSN3v d_Pa_rivals_43 (c_put (k := M h) (by assumption) (by omega) (by omega)) ok_Vh_put ml_Pa_56 (by decide) (Nat.le_of_ble_eq_true rfl) ?_
      refine mx_iN1 d_Pa_rivals_46 ?_
      refine mx_goto 10 d_Pa_rivals_49 (by decide) ?_
      exact ih (mx_up K (pa + 4) (M h) (nI (h))) (rv_step1 hinv (by omega))
  · skip
    obtain ⟨K, hz9⟩ : ∃ q, q = z9 := ⟨_, rfl⟩
    subst hz9
    try dsimp only at hinv ⊢
    have hR9 : pa_rel K pa W L H G := hR.congr (mx_offn hinv.1 (by omega)) (mx_offn hinv.1 (by omega)) (mx_offn hinv.1 (by omega))
    refine mx_il1 d_Pa_rivals_10 ?_
    refine mx_al0 d_Pa_rivals_11 ?_
    refine mx_getI d_Pa_rivals_12 fl_Pa_39 (by assumption) ?_
    refine mx_ti (y := nI (H)) ((congrFun (mx_offn hinv.1 (by omega)) 0).trans hR0) ?_
    refine mx_icN_ge 52 d_Pa_rivals_15 (by decide) (by omega) (by omega) (fun c_15 => ?_) (fun c_15 => absurd c_15 (by omega))
    refine mx_in_0 d_Pa_rivals_52 ?_
    refine mx_is1 d_Pa_rivals_53 ?_
    refine mx_in_0 d_Pa_rivals_54 ?_
    refine mx_is2 d_Pa_rivals_55 ?_
    refine mx_loop (N := H) (ls := fun h => [some (.ref (pa)), some (.int (nI (vs_rvP W L M (vs_ho M H) G h))), some (.int (nI (h))), none]) (X := fun h => (t, S, K, P, J)) (fun h hh ih => ?_) ?_
    · try dsimp only
      refine mx_il2 d_Pa_rivals_56 ?_
      refine mx_al0 d_Pa_rivals_57 ?_
      refine mx_getI d_Pa_rivals_58 fl_Pa_39 (by assumption) ?_
      refine mx_ti (y := nI (H)) (hR9.1) ?_
      refine mx_icN_ge 114 d_Pa_rivals_61 (by decide) (by omega) (by omega) (fun c_61 => absurd c_61 (by omega)) (fun c_61 => ?_)
      refine mx_in_0 d_Pa_rivals_64 ?_
      refine mx_is3 d_Pa_rivals_65 ?_
      have ih56 := ih
      refine mx_loop (N := G) (ls := fun g => [some (.ref (pa)), some (.int (nI (vs_rvQ W L M (vs_ho M H) h g (vs_rvP W L M (vs_ho M H) G h)))), some (.int (nI (h))), some (.int (nI (g)))]) (X := fun g => (t, S, K, P, J)) (fun g hg ih => ?_) ?_
      · try dsimp only
        refine mx_il3 d_Pa_rivals_66 ?_
        refine mx_al0 d_Pa_rivals_67 ?_
        refine mx_getI d_Pa_rivals_68 fl_Pa_43 (by assumption) ?_
        refine mx_ti (y := nI (G)) (hR9.2.1) ?_
        refine mx_icN_ge 108 d_Pa_rivals_71 (by decide) (by omega) (by omega) (fun c_71 => absurd c_71 (by omega)) (fun c_71 => ?_)
        refine mx_al0 d_Pa_rivals_74 ?_
        refine mx_il2 d_Pa_rivals_75 ?_
        refine mx_il3 d_Pa_rivals_76 ?_
        refine mx_al0 d_Pa_rivals_77 ?_
        refine mx_getR d_Pa_rivals_78 fl_Pa_18 (by assumption) (by assumption) ?_
        refine mx_il2 d_Pa_rivals_81 ?_
        refine mx_cSN2i d_Pa_rivals_82 (c_get (k := h) (by assumption) (by omega) (by omega)) ok_Vh_get ml_Pa_64 (by decide) (Nat.le_of_ble_eq_true rfl) ?_
        refine mx_ti (y := (mtv (M h))) ((congrFun (mx_offn hinv.1 (by omega)) h).trans (hM h hh)) ?_
        refine mx_al0 d_Pa_rivals_85 ?_
        refine mx_getR d_Pa_rivals_86 fl_Pa_21 (by assumption) (by assumption) ?_
        refine mx_il3 d_Pa_rivals_89 ?_
        refine mx_cSN2i d_Pa_rivals_90 (c_get (k := g) (by assumption) (by omega) (by omega)) ok_Vh_get ml_Pa_64 (by decide) (Nat.le_of_ble_eq_true rfl) ?_
        refine mx_ti (y := (mtv (vs_ho M H g))) (hinv.2 g (by omega)) ?_
        refine mx_cV4i d_Pa_rivals_93 (c_Pa_wouldBoth hPa hR9 (h := h) (g := g) (by omega) (by omega)) ok_Pa_wouldBoth ml_Pa_86 (by assumption) ⟨rfl, rfl⟩ (by decide) (Nat.le_of_ble_eq_true rfl) ?_
        refine mx_ifB_eq 102 d_Pa_rivals_96 (by decide) (fun c_96 => ?_) (fun c_96 => ?_)
        · skip
          refine mx_iN3 d_Pa_rivals_102 ?_
          refine mx_goto 66 d_Pa_rivals_105 (by decide) ?_
          have e1 : nI (vs_rvQ W L M (vs_ho M H) h g (vs_rvP W L M (vs_ho M H) G h)) = nI (vs_rvQ W L M (vs_ho M H) h (g + 1) (vs_rvP W L M (vs_ho M H) G h)) := by (show nI _ = nI (if vs_wb W L h g (M h) (vs_ho M H g) = true then _ + 1 else _); rw [c_96]; rfl)
          refine mx_lsc (congrArg (fun z9 => ([some (.ref (pa)), some (.int (z9)), some (.int (nI (h))), some (.int (nI (g + 1)))] : List (Option Value))) e1) ?_
          exact ih
        · skip
          refine mx_iN1 d_Pa_rivals_99 ?_
          refine mx_iN3 d_Pa_rivals_102 ?_
          refine mx_goto 66 d_Pa_rivals_105 (by decide) ?_
          have e1 : nI (vs_rvQ W L M (vs_ho M H) h g (vs_rvP W L M (vs_ho M H) G h) + 1) = nI (vs_rvQ W L M (vs_ho M H) h (g + 1) (vs_rvP W L M (vs_ho M H) G h)) := by (show nI _ = nI (if vs_wb W L h g (M h) (vs_ho M H g) = true then _ + 1 else _); rw [c_96]; rfl)
          refine mx_lsc (congrArg (fun z9 => ([some (.ref (pa)), some (.int (z9)), some (.int (nI (h))), some (.int (nI (g + 1)))] : List (Option Value))) e1) ?_
          exact ih
      · try dsimp only
        refine mx_il3 d_Pa_rivals_66 ?_
        refine mx_al0 d_Pa_rivals_67 ?_
        refine mx_getI d_Pa_rivals_68 fl_Pa_43 (by assumption) ?_
        refine mx_ti (y := nI (G)) (hR9.2.1) ?_
        refine mx_icN_ge 108 d_Pa_rivals_71 (by decide) (by omega) (by omega) (fun c_71 => ?_) (fun c_71 => absurd c_71 (by omega))
        refine mx_iN2 d_Pa_rivals_108 ?_
        refine mx_goto 56 d_Pa_rivals_111 (by decide) ?_
        refine mx_dn3 ?_
        have e1 : nI (vs_rvQ W L M (vs_ho M H) h G (vs_rvP W L M (vs_ho M H) G h)) = nI (vs_rvP W L M (vs_ho M H) G (h + 1)) := by rfl
        refine mx_lsc (congrArg (fun z9 => ([some (.ref (pa)), some (.int (z9)), some (.int (nI (h + 1))), none] : List (Option Value))) e1) ?_
        exact ih
    · try dsimp only
      refine mx_il2 d_Pa_rivals_56 ?_
      refine mx_al0 d_Pa_rivals_57 ?_
      refine mx_getI d_Pa_rivals_58 fl_Pa_39 (by assumption) ?_
      refine mx_ti (y := nI (H)) (hR9.1) ?_
      refine mx_icN_ge 114 d_Pa_rivals_61 (by decide) (by omega) (by omega) (fun c_61 => ?_) (fun c_61 => absurd c_61 (by omega))
      refine mx_il1 d_Pa_rivals_114 ?_
      exact mx_iret d_Pa_rivals_115 rfl (mx_sR_i rfl hinv.1)
def sp_rather (m : Nat → Int32) (T : Nat → Nat) (n H G : Nat) : Nat × Int32 := if vs_hear T n G H then (0, if vs_mbA (WW m H G) T H then nI (vs_rvP (WW m H G) (LW m H G) T (vs_ho T H) G H) else -1) else (1, nI 0)
theorem vs_ra_fin {x : Nat} {K1 K2 : mx_I} (h1 : pa_inv I K1 (x + 1) m H G H 0) (h2 : mx_off (fun c => c = x + 1 + 3) K1 K2) : mx_off (fun c => x + 1 ≤ c ∧ c ≤ x + 8) (mx_up I (x + 250) 1 (nI 0)) (mx_up K2 (x + 250) 1 (nI 0)) := fun c hc => by
  have hc : ¬ (x + 1 ≤ c ∧ c ≤ x + 8) := hc
  have e1 := h2 c (by show ¬ c = x + 1 + 3; omega)
  have e2 := h1.1 c (by show ¬ (c = x + 1 ∨ c = x + 1 + 1 ∨ c = x + 1 + 2); omega)
  funext j
  simp only [mx_up]
  rw [e1, e2]
theorem vs_ra_fin2 {x : Nat} {K3 K4 : mx_I} (h3 : mx_off (fun c => x + 1 ≤ c ∧ c ≤ x + 8) I K3) (h4 : mx_off (fun c => c = x + 1 + 4) K3 K4) : mx_off (fun c => x + 1 ≤ c ∧ c ≤ x + 8) I K4 := fun c hc => by
  have hc1 : ¬ (x + 1 ≤ c ∧ c ≤ x + 8) := hc
  rw [h4 c (by show ¬ c = x + 1 + 4; omega), h3 c hc]
theorem c_Vh_rather (htr : l.stackTraces = false) (hV : vh_ok S P x) (hSt : st_ok S P (x + 23)) (hSr : st_rel I (x + 23) m) (hH : m 3 = nI H) (hH8 : H ≤ 8) (hG : m 4 = nI G) (hG8 : G ≤ 8) (hTe : te_ok S P (x + 250)) (hT : tp_rel I (x + 250 + 1) T) (hn : n ≤ 400) (hTl : I (x + 250) 1 = nI n) (hPa : pa_ok S P (x + 1)) (hr : rk9 m) : mx_C l E M_Vh_rather 7 1 6 [.ref (x)] (t, S, I, P, J) (mx_pR (fun _ => "java/lang/IllegalArgumentException") (sp_rather m T n H G) t S P J (fun K => mx_off (fun c => x + 1 ≤ c ∧ c ≤ x + 8) (mx_up I (x + 250) 1 (nI 0)) K)) := by
  obtain ⟨hV0, hVp0, hVp1, hVp2, hVp3, hVp4, hVp5, hVp7, hVp8, hVp9, hVp10, hVp11, hVp12, hVs15, hVs16, hVs68⟩ := id hV
  obtain ⟨hC0, hC1, hC2, hC3, hC4, hC5, hC6, hD1, hD2, hD3, hD4, hPe, hLo⟩ := id hSt
  obtain ⟨hPr, u0, u1, u2, u3, u4, u5, u6, u7, u8⟩ := id hSr
  obtain ⟨hA0, hA1, hA2, hA3, hA4, hA5, hA6, hA7, hB1, hB2, hB3, hB4, hB5, hB6, hB7⟩ := id hPe
  obtain ⟨r0, r1, r2, r3, r4, r5, r6, r7, r8⟩ := id hPr
  obtain ⟨hTe0, hTe1, hTe2, hTe3, hTe4, hTe5, hTe6, hTe7, hTe8, hTe9, hTe10⟩ := id hTe
  have hPz := hPa.1
  refine mx_C_of (ls0 := [some (.ref (x)), none]) (by decide +kernel) rfl rfl (Nat.le_of_ble_eq_true rfl) rfl ?_
  refine mx_al0 d_Vh_rather_0 ?_
  refine mx_getR d_Vh_rather_1 fl_Vh_16 (by assumption) (by assumption) ?_
  refine mx_al0 d_Vh_rather_4 ?_
  refine mx_getR d_Vh_rather_5 fl_Vh_51 (by assumption) (by assumption) ?_
  refine mx_getR d_Vh_rather_8 fl_Vh_162 (by assumption) (by assumption) ?_
  refine mx_cV1vR d_Vh_rather_11 (c_Pa_learn hPa hPe hPr hr hH hH8 hG hG8 (by omega)) ok_Pa_learn ml_Vh_296 (by assumption) ⟨rfl, rfl⟩ (by decide) (Nat.le_of_ble_eq_true rfl) (fun K1 hK1 => ?_)
  have hT1 : tp_rel K1 (x + 250 + 1) T := fun k hk => by rw [hK1.1 _ (by unfold pz; omega)]; exact hT k hk
  have hTl1 : K1 (x + 250) 1 = nI n := by rw [hK1.1 _ (by unfold pz; omega)]; exact hTl
  refine mx_al0 d_Vh_rather_14 ?_
  refine mx_getR d_Vh_rather_15 fl_Vh_16 (by assumption) (by assumption) ?_
  refine mx_al0 d_Vh_rather_18 ?_
  refine mx_getR d_Vh_rather_19 fl_Vh_71 (by assumption) (by assumption) ?_
  refine mx_cV1iR d_Vh_rather_22 (c_Pa_hear hPa hTe (pa_inv_end hr hK1) hH8 hG8 hT1 hn hTl1 (by omega)) ok_Pa_hear ml_Vh_313 (by assumption) ⟨rfl, rfl⟩ (by decide) (Nat.le_of_ble_eq_true rfl) (fun K2 hK2 => ?_)
  refine mx_is1 d_Vh_rather_25 ?_
  refine mx_al0 d_Vh_rather_26 ?_
  refine mx_getR d_Vh_rather_27 fl_Vh_71 (by assumption) (by assumption) ?_
  refine mx_cV0v d_Vh_rather_30 (c_Te_empty (by assumption)) ok_Te_empty ml_Vh_112 (by assumption) ⟨rfl, rfl⟩ (by decide) (Nat.le_of_ble_eq_true rfl) ?_
  have hfin := vs_ra_fin hK1 hK2.1
  refine mx_il1 d_Vh_rather_33 ?_
  refine mx_ifB_ne 48 d_Vh_rather_34 (by decide) (fun c_34 => ?_) (fun c_34 => ?_)
  · skip
    have hR3 : pa_rel (mx_up K2 (x + 250) 1 (nI 0)) (x + 1) (WW m H G) (LW m H G) H G := (pa_inv_end hr hK1).congr ((mx_up_ne (by omega)).trans (mx_offn hK2.1 (by omega))) ((mx_up_ne (by omega)).trans (mx_offn hK2.1 (by omega))) ((mx_up_ne (by omega)).trans (mx_offn hK2.1 (by omega)))
    have hM3 : ∀ h, h < H → (mx_up K2 (x + 250) 1 (nI 0)) (x + 1 + 3) h = mtv (T h) := fun h hh => by rw [mx_up_ne (by omega)]; exact hK2.2 c_34 h hh
    refine mx_al0 d_Vh_rather_48 ?_
    refine mx_getR d_Vh_rather_49 fl_Vh_16 (by assumption) (by assumption) ?_
    refine mx_cV0i d_Vh_rather_52 (c_Pa_mayBe hPa hR3 hH8 hG8 hM3) ok_Pa_mayBe ml_Vh_319 (by assumption) ⟨rfl, rfl⟩ (by decide) (Nat.le_of_ble_eq_true rfl) ?_
    refine mx_ifB_eq 68 d_Vh_rather_55 (by decide) (fun c_55 => ?_) (fun c_55 => ?_)
    · skip
      refine mx_ic_m1 d_Vh_rather_68 ?_
      exact mx_iret d_Vh_rather_69 rfl (mx_pR_i (by simp [sp_rather, c_34, c_55]) hfin)
    · skip
      refine mx_al0 d_Vh_rather_58 ?_
      refine mx_getR d_Vh_rather_59 fl_Vh_16 (by assumption) (by assumption) ?_
      refine mx_cV0iR d_Vh_rather_62 (c_Pa_rivals hPa hR3 hH8 hG8 hM3) ok_Pa_rivals ml_Vh_322 (by assumption) ⟨rfl, rfl⟩ (by decide) (Nat.le_of_ble_eq_true rfl) (fun K3 hK3 => ?_)
      refine mx_goto 69 d_Vh_rather_65 (by decide) ?_
      exact mx_iret d_Vh_rather_69 rfl (mx_pR_i (by simp [sp_rather, c_34, c_55]) (vs_ra_fin2 hfin hK3))
  · skip
    exact mx_throwW (i := 38) htr rfl th_Vh_115_119 rfl rfl d_Vh_rather_37 d_Vh_rather_40 d_Vh_rather_41 d_Vh_rather_44 d_Vh_rather_47 (by decide) (by decide) (by decide) (Nat.le_of_ble_eq_true rfl) (fun t9 ht => mx_pR_x ht 0 (by simp [sp_rather, c_34]) rfl hfin)
theorem c_Mo_hostRather (hM : mo_ok S P mo) (hm : I (mo + 1) = m) (hr : rk9 m) {h g u : Nat} (hh : h < 8) (hg : g < 8) : mx_C l E M_Mo_hostRather 2 0 0 [.ref (mo), .int (nI (h)), .int (nI (g)), .int ((mtv u))] (t, S, I, P, J) (mx_ri (bI (vs_hr m h g u)) (t, S, I, P, J)) := by
  obtain ⟨hM0, hMp1, hMp2, hMp4, hMp5, hMp7, hMp14, hMp21, hMp22, hMp23, hMp24, hMp25, hMp26, hMp27, hMs1, hMs2, hMs3, hMs4, hMs5, hMs6, hMs7, hMs8, hMs9, hMs10, hMs11, hMs12, hMs13⟩ := id hM
  refine mx_C_of (ls0 := [some (.ref (mo)), some (.int (nI (h))), some (.int (nI (g))), some (.int ((mtv u)))]) (by decide +kernel) rfl rfl (Nat.le_of_ble_eq_true rfl) rfl ?_
  have b1 := (hr.r hh hg).1
  refine mx_al0 d_Mo_hostRather_0 ?_
  refine mx_il1 d_Mo_hostRather_1 ?_
  refine mx_il2 d_Mo_hostRather_2 ?_
  refine mx_cV2i d_Mo_hostRather_3 (cm_rankOf hM hm (h := h) (g := g) (by omega) (by omega)) ok_Mo_rankOf ml_Mo_61 (by assumption) ⟨rfl, rfl⟩ (by decide) (Nat.le_of_ble_eq_true rfl) ?_
  refine mx_ti (y := nI (RK m h g)) ((hr.r (by omega) (by omega)).2) ?_
  refine mx_if_ne 11 d_Mo_hostRather_6 (by decide) (fun c_6 => ?_) (fun c_6 => ?_)
  · skip
    have r0 := nI_gt c_6
    refine mx_il3 d_Mo_hostRather_11 ?_
    refine mx_ic_m1 d_Mo_hostRather_12 ?_
    refine mx_icmp_ne 18 d_Mo_hostRather_13 (by decide) (fun c_13 => ?_) (fun c_13 => ?_)
    · skip
      have u8 : u < 8 := mtv_n c_13
      rw [mtv_lt u8]
      refine mx_al0 d_Mo_hostRather_18 ?_
      refine mx_il1 d_Mo_hostRather_19 ?_
      refine mx_il2 d_Mo_hostRather_20 ?_
      refine mx_cV2i d_Mo_hostRather_21 (cm_rankOf hM hm (h := h) (g := g) (by omega) (by omega)) ok_Mo_rankOf ml_Mo_61 (by assumption) ⟨rfl, rfl⟩ (by decide) (Nat.le_of_ble_eq_true rfl) ?_
      refine mx_ti (y := nI (RK m h g)) ((hr.r (by omega) (by omega)).2) ?_
      refine mx_al0 d_Mo_hostRather_24 ?_
      refine mx_il1 d_Mo_hostRather_25 ?_
      refine mx_il3 d_Mo_hostRather_26 ?_
      refine mx_cV2i d_Mo_hostRather_27 (cm_rankOf hM hm (h := h) (g := u) (by omega) (by omega)) ok_Mo_rankOf ml_Mo_61 (by assumption) ⟨rfl, rfl⟩ (by decide) (Nat.le_of_ble_eq_true rfl) ?_
      have b2 := (hr.r hh u8).1
      refine mx_ti (y := nI (RK m h u)) ((hr.r (by omega) (by omega)).2) ?_
      refine mx_icN_gt 53 d_Mo_hostRather_30 (by decide) (by omega) (by omega) (fun c_30 => ?_) (fun c_30 => ?_)
      · skip
        refine mx_in_1 d_Mo_hostRather_53 ?_
        refine mx_goto 58 d_Mo_hostRather_54 (by decide) ?_
        exact mx_zret d_Mo_hostRather_58 rfl (by first | exact Or.inl rfl | exact Or.inr rfl) (mx_ri_of (by rw [show vs_hr m h g u = true from by simp only [vs_hr]; simp [r0, u8]; try omega]; rfl))
      · skip
        refine mx_al0 d_Mo_hostRather_33 ?_
        refine mx_il1 d_Mo_hostRather_34 ?_
        refine mx_il2 d_Mo_hostRather_35 ?_
        refine mx_cV2i d_Mo_hostRather_36 (cm_rankOf hM hm (h := h) (g := g) (by omega) (by omega)) ok_Mo_rankOf ml_Mo_61 (by assumption) ⟨rfl, rfl⟩ (by decide) (Nat.le_of_ble_eq_true rfl) ?_
        refine mx_ti (y := nI (RK m h g)) ((hr.r (by omega) (by omega)).2) ?_
        refine mx_al0 d_Mo_hostRather_39 ?_
        refine mx_il1 d_Mo_hostRather_40 ?_
        refine mx_il3 d_Mo_hostRather_41 ?_
        refine mx_cV2i d_Mo_hostRather_42 (cm_rankOf hM hm (h := h) (g := u) (by omega) (by omega)) ok_Mo_rankOf ml_Mo_61 (by assumption) ⟨rfl, rfl⟩ (by decide) (Nat.le_of_ble_eq_true rfl) ?_
        refine mx_ti (y := nI (RK m h u)) ((hr.r (by omega) (by omega)).2) ?_
        refine mx_icN_ne 57 d_Mo_hostRather_45 (by decide) (by omega) (by omega) (fun c_45 => ?_) (fun c_45 => ?_)
        · skip
          refine mx_in_0 d_Mo_hostRather_57 ?_
          exact mx_zret d_Mo_hostRather_58 rfl (by first | exact Or.inl rfl | exact Or.inr rfl) (mx_ri_of (by rw [show vs_hr m h g u = false from by simp only [vs_hr]; simp [r0, u8]; try omega]; rfl))
        · skip
          refine mx_il2 d_Mo_hostRather_48 ?_
          refine mx_il3 d_Mo_hostRather_49 ?_
          refine mx_icN_ge 57 d_Mo_hostRather_50 (by decide) (by omega) (by omega) (fun c_50 => ?_) (fun c_50 => ?_)
          · skip
            refine mx_in_0 d_Mo_hostRather_57 ?_
            exact mx_zret d_Mo_hostRather_58 rfl (by first | exact Or.inl rfl | exact Or.inr rfl) (mx_ri_of (by rw [show vs_hr m h g u = false from by simp only [vs_hr]; simp [r0, u8]; try omega]; rfl))
          · skip
            refine mx_in_1 d_Mo_hostRather_53 ?_
            refine mx_goto 58 d_Mo_hostRather_54 (by decide) ?_
            exact mx_zret d_Mo_hostRather_58 rfl (by first | exact Or.inl rfl | exact Or.inr rfl) (mx_ri_of (by rw [show vs_hr m h g u = true from by simp only [vs_hr]; simp [r0, u8]; try omega]; rfl))
    · skip
      have u8 : ¬ u < 8 := mtv_e c_13
      refine mx_in_1 d_Mo_hostRather_16 ?_
      exact mx_zret d_Mo_hostRather_17 rfl (by first | exact Or.inl rfl | exact Or.inr rfl) (mx_ri_of (by rw [show vs_hr m h g u = true from by simp only [vs_hr]; simp [r0, u8]; try omega]; rfl))
  · skip
    have r0 := nI_z (by omega) c_6
    refine mx_in_0 d_Mo_hostRather_9 ?_
    exact mx_zret d_Mo_hostRather_10 rfl (by first | exact Or.inl rfl | exact Or.inr rfl) (mx_ri_of (by rw [show vs_hr m h g u = false from by simp only [vs_hr]; simp [r0]]; rfl))
theorem c_Mo_guestRather (hM : mo_ok S P mo) (hm : I (mo + 1) = m) (hr : rk9 m) {h g u : Nat} (hh : h < 8) (hg : g < 8) : mx_C l E M_Mo_guestRather 2 0 0 [.ref (mo), .int (nI (g)), .int (nI (h)), .int ((mtv u))] (t, S, I, P, J) (mx_ri (bI (vs_gr m g h u)) (t, S, I, P, J)) := by
  obtain ⟨hM0, hMp1, hMp2, hMp4, hMp5, hMp7, hMp14, hMp21, hMp22, hMp23, hMp24, hMp25, hMp26, hMp27, hMs1, hMs2, hMs3, hMs4, hMs5, hMs6, hMs7, hMs8, hMs9, hMs10, hMs11, hMs12, hMs13⟩ := id hM
  refine mx_C_of (ls0 := [some (.ref (mo)), some (.int (nI (g))), some (.int (nI (h))), some (.int ((mtv u)))]) (by decide +kernel) rfl rfl (Nat.le_of_ble_eq_true rfl) rfl ?_
  have b1 := (hr.l hh hg).1
  refine mx_al0 d_Mo_guestRather_0 ?_
  refine mx_il2 d_Mo_guestRather_1 ?_
  refine mx_il1 d_Mo_guestRather_2 ?_
  refine mx_cV2i d_Mo_guestRather_3 (cm_lovedOf hM hm (h := h) (g := g) (by omega) (by omega)) ok_Mo_lovedOf ml_Mo_65 (by assumption) ⟨rfl, rfl⟩ (by decide) (Nat.le_of_ble_eq_true rfl) ?_
  refine mx_ti (y := nI (LK m h g)) ((hr.l (by omega) (by omega)).2) ?_
  refine mx_if_ne 11 d_Mo_guestRather_6 (by decide) (fun c_6 => ?_) (fun c_6 => ?_)
  · skip
    have r0 := nI_gt c_6
    refine mx_il3 d_Mo_guestRather_11 ?_
    refine mx_ic_m1 d_Mo_guestRather_12 ?_
    refine mx_icmp_ne 18 d_Mo_guestRather_13 (by decide) (fun c_13 => ?_) (fun c_13 => ?_)
    · skip
      have u8 : u < 8 := mtv_n c_13
      rw [mtv_lt u8]
      refine mx_al0 d_Mo_guestRather_18 ?_
      refine mx_il2 d_Mo_guestRather_19 ?_
      refine mx_il1 d_Mo_guestRather_20 ?_
      refine mx_cV2i d_Mo_guestRather_21 (cm_lovedOf hM hm (h := h) (g := g) (by omega) (by omega)) ok_Mo_lovedOf ml_Mo_65 (by assumption) ⟨rfl, rfl⟩ (by decide) (Nat.le_of_ble_eq_true rfl) ?_
      refine mx_ti (y := nI (LK m h g)) ((hr.l (by omega) (by omega)).2) ?_
      refine mx_al0 d_Mo_guestRather_24 ?_
      refine mx_il3 d_Mo_guestRather_25 ?_
      refine mx_il1 d_Mo_guestRather_26 ?_
      refine mx_cV2i d_Mo_guestRather_27 (cm_lovedOf hM hm (h := u) (g := g) (by omega) (by omega)) ok_Mo_lovedOf ml_Mo_65 (by assumption) ⟨rfl, rfl⟩ (by decide) (Nat.le_of_ble_eq_true rfl) ?_
      have b2 := (hr.l u8 hg).1
      refine mx_ti (y := nI (LK m u g)) ((hr.l (by omega) (by omega)).2) ?_
      refine mx_icN_gt 53 d_Mo_guestRather_30 (by decide) (by omega) (by omega) (fun c_30 => ?_) (fun c_30 => ?_)
      · skip
        refine mx_in_1 d_Mo_guestRather_53 ?_
        refine mx_goto 58 d_Mo_guestRather_54 (by decide) ?_
        exact mx_zret d_Mo_guestRather_58 rfl (by first | exact Or.inl rfl | exact Or.inr rfl) (mx_ri_of (by rw [show vs_gr m g h u = true from by simp only [vs_gr]; simp [r0, u8]; try omega]; rfl))
      · skip
        refine mx_al0 d_Mo_guestRather_33 ?_
        refine mx_il2 d_Mo_guestRather_34 ?_
        refine mx_il1 d_Mo_guestRather_35 ?_
        refine mx_cV2i d_Mo_guestRather_36 (cm_lovedOf hM hm (h := h) (g := g) (by omega) (by omega)) ok_Mo_lovedOf ml_Mo_65 (by assumption) ⟨rfl, rfl⟩ (by decide) (Nat.le_of_ble_eq_true rfl) ?_
        refine mx_ti (y := nI (LK m h g)) ((hr.l (by omega) (by omega)).2) ?_
        refine mx_al0 d_Mo_guestRather_39 ?_
        refine mx_il3 d_Mo_guestRather_40 ?_
        refine mx_il1 d_Mo_guestRather_41 ?_
        refine mx_cV2i d_Mo_guestRather_42 (cm_lovedOf hM hm (h := u) (g := g) (by omega) (by omega)) ok_Mo_lovedOf ml_Mo_65 (by assumption) ⟨rfl, rfl⟩ (by decide) (Nat.le_of_ble_eq_true rfl) ?_
        refine mx_ti (y := nI (LK m u g)) ((hr.l (by omega) (by omega)).2) ?_
        refine mx_icN_ne 57 d_Mo_guestRather_45 (by decide) (by omega) (by omega) (fun c_45 => ?_) (fun c_45 => ?_)
        · skip
          refine mx_in_0 d_Mo_guestRather_57 ?_
          exact mx_zret d_Mo_guestRather_58 rfl (by first | exact Or.inl rfl | exact Or.inr rfl) (mx_ri_of (by rw [show vs_gr m g h u = false from by simp only [vs_gr]; simp [r0, u8]; try omega]; rfl))
        · skip
          refine mx_il2 d_Mo_guestRather_48 ?_
          refine mx_il3 d_Mo_guestRather_49 ?_
          refine mx_icN_ge 57 d_Mo_guestRather_50 (by decide) (by omega) (by omega) (fun c_50 => ?_) (fun c_50 => ?_)
          · skip
            refine mx_in_0 d_Mo_guestRather_57 ?_
            exact mx_zret d_Mo_guestRather_58 rfl (by first | exact Or.inl rfl | exact Or.inr rfl) (mx_ri_of (by rw [show vs_gr m g h u = false from by simp only [vs_gr]; simp [r0, u8]; try omega]; rfl))
          · skip
            refine mx_in_1 d_Mo_guestRather_53 ?_
            refine mx_goto 58 d_Mo_guestRather_54 (by decide) ?_
            exact mx_zret d_Mo_guestRather_58 rfl (by first | exact Or.inl rfl | exact Or.inr rfl) (mx_ri_of (by rw [show vs_gr m g h u = true from by simp only [vs_gr]; simp [r0, u8]; try omega]; rfl))
    · skip
      have u8 : ¬ u < 8 := mtv_e c_13
      refine mx_in_1 d_Mo_guestRather_16 ?_
      exact mx_zret d_Mo_guestRather_17 rfl (by first | exact Or.inl rfl | exact Or.inr rfl) (mx_ri_of (by rw [show vs_gr m g h u = true from by simp only [vs_gr]; simp [r0, u8]; try omega]; rfl))
  · skip
    have r0 := nI_z (by omega) c_6
    refine mx_in_0 d_Mo_guestRather_9 ?_
    exact mx_zret d_Mo_guestRather_10 rfl (by first | exact Or.inl rfl | exact Or.inr rfl) (mx_ri_of (by rw [show vs_gr m g h u = false from by simp only [vs_gr]; simp [r0]]; rfl))
theorem c_Mo_rathers (hM : mo_ok S P mo) (hm : I (mo + 1) = m) (hH : m 3 = nI H) (hH8 : H ≤ 8) (hG : m 4 = nI G) (hG8 : G ≤ 8) (hr : rk9 m) {N9 : Nat → Nat} (hu : ∀ h, h < H → I (mo + 7) h = mtv (M h)) (hw : ∀ g, g < 8 → I (mo + 8) g = mtv (N9 g)) : mx_C l E M_Mo_rathers 3 0 0 [.ref (mo)] (t, S, I, P, J) (mx_ri (nI (vs_raP m M N9 G H)) (t, S, I, P, J)) := by
  obtain ⟨hM0, hMp1, hMp2, hMp4, hMp5, hMp7, hMp14, hMp21, hMp22, hMp23, hMp24, hMp25, hMp26, hMp27, hMs1, hMs2, hMs3, hMs4, hMs5, hMs6, hMs7, hMs8, hMs9, hMs10, hMs11, hMs12, hMs13⟩ := id hM
  refine mx_C_of (ls0 := [some (.ref (mo)), none, none, none]) (by decide +kernel) rfl rfl (Nat.le_of_ble_eq_true rfl) rfl ?_
  refine mx_in_0 d_Mo_rathers_0 ?_
  refine mx_is1 d_Mo_rathers_1 ?_
  refine mx_in_0 d_Mo_rathers_2 ?_
  refine mx_is2 d_Mo_rathers_3 ?_
  refine mx_loop (N := H) (ls := fun h => [some (.ref (mo)), some (.int (nI (vs_raP m M N9 G h))), some (.int (nI (h))), none]) (X := fun h => (t, S, I, P, J)) (fun h hh ih => ?_) ?_
  · try dsimp only
    refine mx_il2 d_Mo_rathers_4 ?_
    refine mx_al0 d_Mo_rathers_5 ?_
    refine mx_getR d_Mo_rathers_6 fl_Mo_7 (by assumption) (by assumption) ?_
    refine mx_in_3 d_Mo_rathers_9 ?_
    refine mx_iald d_Mo_rathers_10 (by assumption) (nI_inb (by omega) (by omega)) ?_
    refine mx_ti (y := I (mo + 1) (3)) (by rw [nI_clamp (by omega)]) ?_
    refine mx_ti (y := nI (H)) ((congrFun hm 3).trans hH) ?_
    refine mx_icN_ge 95 d_Mo_rathers_11 (by decide) (by omega) (by omega) (fun c_11 => absurd c_11 (by omega)) (fun c_11 => ?_)
    refine mx_in_0 d_Mo_rathers_14 ?_
    refine mx_is3 d_Mo_rathers_15 ?_
    have ih4 := ih
    refine mx_loop (N := G) (ls := fun g => [some (.ref (mo)), some (.int (nI (vs_raQ m M N9 h g (vs_raP m M N9 G h)))), some (.int (nI (h))), some (.int (nI (g)))]) (X := fun g => (t, S, I, P, J)) (fun g hg ih => ?_) ?_
    · try dsimp only
      refine mx_il3 d_Mo_rathers_16 ?_
      refine mx_al0 d_Mo_rathers_17 ?_
      refine mx_getR d_Mo_rathers_18 fl_Mo_7 (by assumption) (by assumption) ?_
      refine mx_in_4 d_Mo_rathers_21 ?_
      refine mx_iald d_Mo_rathers_22 (by assumption) (nI_inb (by omega) (by omega)) ?_
      refine mx_ti (y := I (mo + 1) (4)) (by rw [nI_clamp (by omega)]) ?_
      refine mx_ti (y := nI (G)) ((congrFun hm 4).trans hG) ?_
      refine mx_icN_ge 89 d_Mo_rathers_23 (by decide) (by omega) (by omega) (fun c_23 => absurd c_23 (by omega)) (fun c_23 => ?_)
      refine mx_il1 d_Mo_rathers_26 ?_
      refine mx_al0 d_Mo_rathers_27 ?_
      refine mx_getR d_Mo_rathers_28 fl_Mo_32 (by assumption) (by assumption) ?_
      refine mx_il2 d_Mo_rathers_31 ?_
      refine mx_iald d_Mo_rathers_32 (by assumption) (nI_inb (by omega) (by omega)) ?_
      refine mx_ti (y := I (mo + 7) (h)) (by rw [nI_clamp (by omega)]) ?_
      refine mx_ti (y := (mtv (M h))) (hu h hh) ?_
      refine mx_il3 d_Mo_rathers_33 ?_
      refine mx_icmp_eq 80 d_Mo_rathers_34 (by decide) (fun c_34 => ?_) (fun c_34 => ?_)
      · skip
        have mg : M h = g := mtv_eq c_34 (by omega)
        have k0 : vs_ra m h g (M h) (N9 g) = false := by simp [vs_ra, *]
        refine mx_in_0 d_Mo_rathers_80 ?_
        refine mx_iaddN d_Mo_rathers_81 ?_
        refine mx_is1 d_Mo_rathers_82 ?_
        refine mx_iN3 d_Mo_rathers_83 ?_
        refine mx_goto 16 d_Mo_rathers_86 (by decide) ?_
        have e1 : nI (vs_raQ m M N9 h g (vs_raP m M N9 G h) + 0) = nI (vs_raQ m M N9 h (g + 1) (vs_raP m M N9 G h)) := by (show nI _ = nI (if vs_ra m h g (M h) (N9 g) = true then _ + 1 else _); rw [k0]; rfl)
        refine mx_lsc (congrArg (fun z9 => ([some (.ref (mo)), some (.int (z9)), some (.int (nI (h))), some (.int (nI (g + 1)))] : List (Option Value))) e1) ?_
        exact ih
      · skip
        have mg : ¬ M h = g := fun z => c_34 (by rw [z]; exact mtv_lt (by omega))
        refine mx_al0 d_Mo_rathers_37 ?_
        refine mx_il2 d_Mo_rathers_38 ?_
        refine mx_il3 d_Mo_rathers_39 ?_
        refine mx_cV2i d_Mo_rathers_40 (cm_mayMeet hM hm (h := h) (g := g) (by omega) (by omega)) ok_Mo_mayMeet ml_Mo_78 (by assumption) ⟨rfl, rfl⟩ (by decide) (Nat.le_of_ble_eq_true rfl) ?_
        refine mx_ifB_eq 80 d_Mo_rathers_43 (by decide) (fun c_43 => ?_) (fun c_43 => ?_)
        · skip
          have k0 : vs_ra m h g (M h) (N9 g) = false := by simp [vs_ra, *]
          refine mx_in_0 d_Mo_rathers_80 ?_
          refine mx_iaddN d_Mo_rathers_81 ?_
          refine mx_is1 d_Mo_rathers_82 ?_
          refine mx_iN3 d_Mo_rathers_83 ?_
          refine mx_goto 16 d_Mo_rathers_86 (by decide) ?_
          have e1 : nI (vs_raQ m M N9 h g (vs_raP m M N9 G h) + 0) = nI (vs_raQ m M N9 h (g + 1) (vs_raP m M N9 G h)) := by (show nI _ = nI (if vs_ra m h g (M h) (N9 g) = true then _ + 1 else _); rw [k0]; rfl)
          refine mx_lsc (congrArg (fun z9 => ([some (.ref (mo)), some (.int (z9)), some (.int (nI (h))), some (.int (nI (g + 1)))] : List (Option Value))) e1) ?_
          exact ih
        · skip
          refine mx_al0 d_Mo_rathers_46 ?_
          refine mx_il2 d_Mo_rathers_47 ?_
          refine mx_il3 d_Mo_rathers_48 ?_
          refine mx_al0 d_Mo_rathers_49 ?_
          refine mx_getR d_Mo_rathers_50 fl_Mo_32 (by assumption) (by assumption) ?_
          refine mx_il2 d_Mo_rathers_53 ?_
          refine mx_iald d_Mo_rathers_54 (by assumption) (nI_inb (by omega) (by omega)) ?_
          refine mx_ti (y := I (mo + 7) (h)) (by rw [nI_clamp (by omega)]) ?_
          refine mx_ti (y := (mtv (M h))) (hu h hh) ?_
          refine mx_cV3i d_Mo_rathers_55 (c_Mo_hostRather hM hm hr (h := h) (g := g) (by omega) (by omega)) ok_Mo_hostRather ml_Mo_359 (by assumption) ⟨rfl, rfl⟩ (by decide) (Nat.le_of_ble_eq_true rfl) ?_
          refine mx_ifB_eq 80 d_Mo_rathers_58 (by decide) (fun c_58 => ?_) (fun c_58 => ?_)
          · skip
            have k0 : vs_ra m h g (M h) (N9 g) = false := by simp [vs_ra, *]
            refine mx_in_0 d_Mo_rathers_80 ?_
            refine mx_iaddN d_Mo_rathers_81 ?_
            refine mx_is1 d_Mo_rathers_82 ?_
            refine mx_iN3 d_Mo_rathers_83 ?_
            refine mx_goto 16 d_Mo_rathers_86 (by decide) ?_
            have e1 : nI (vs_raQ m M N9 h g (vs_raP m M N9 G h) + 0) = nI (vs_raQ m M N9 h (g + 1) (vs_raP m M N9 G h)) := by (show nI _ = nI (if vs_ra m h g (M h) (N9 g) = true then _ + 1 else _); rw [k0]; rfl)
            refine mx_lsc (congrArg (fun z9 => ([some (.ref (mo)), some (.int (z9)), some (.int (nI (h))), some (.int (nI (g + 1)))] : List (Option Value))) e1) ?_
            exact ih
          · skip
            refine mx_al0 d_Mo_rathers_61 ?_
            refine mx_il3 d_Mo_rathers_62 ?_
            refine mx_il2 d_Mo_rathers_63 ?_
            refine mx_al0 d_Mo_rathers_64 ?_
            refine mx_getR d_Mo_rathers_65 fl_Mo_35 (by assumption) (by assumption) ?_
            refine mx_il3 d_Mo_rathers_68 ?_
            refine mx_iald d_Mo_rathers_69 (by assumption) (nI_inb (by omega) (by omega)) ?_
            refine mx_ti (y := I (mo + 8) (g)) (by rw [nI_clamp (by omega)]) ?_
            refine mx_ti (y := (mtv (N9 g))) (hw g (by omega)) ?_
            refine mx_cV3i d_Mo_rathers_70 (c_Mo_guestRather hM hm hr (h := h) (g := g) (by omega) (by omega)) ok_Mo_guestRather ml_Mo_362 (by assumption) ⟨rfl, rfl⟩ (by decide) (Nat.le_of_ble_eq_true rfl) ?_
            refine mx_ifB_eq 80 d_Mo_rathers_73 (by decide) (fun c_73 => ?_) (fun c_73 => ?_)
            · skip
              have k0 : vs_ra m h g (M h) (N9 g) = false := by simp [vs_ra, *]
              refine mx_in_0 d_Mo_rathers_80 ?_
              refine mx_iaddN d_Mo_rathers_81 ?_
              refine mx_is1 d_Mo_rathers_82 ?_
              refine mx_iN3 d_Mo_rathers_83 ?_
              refine mx_goto 16 d_Mo_rathers_86 (by decide) ?_
              have e1 : nI (vs_raQ m M N9 h g (vs_raP m M N9 G h) + 0) = nI (vs_raQ m M N9 h (g + 1) (vs_raP m M N9 G h)) := by (show nI _ = nI (if vs_ra m h g (M h) (N9 g) = true then _ + 1 else _); rw [k0]; rfl)
              refine mx_lsc (congrArg (fun z9 => ([some (.ref (mo)), some (.int (z9)), some (.int (nI (h))), some (.int (nI (g + 1)))] : List (Option Value))) e1) ?_
              exact ih
            · skip
              have k0 : vs_ra m h g (M h) (N9 g) = true := by simp [vs_ra, *]
              refine mx_in_1 d_Mo_rathers_76 ?_
              refine mx_goto 81 d_Mo_rathers_77 (by decide) ?_
              refine mx_iaddN d_Mo_rathers_81 ?_
              refine mx_is1 d_Mo_rathers_82 ?_
              refine mx_iN3 d_Mo_rathers_83 ?_
              refine mx_goto 16 d_Mo_rathers_86 (by decide) ?_
              have e1 : nI (vs_raQ m M N9 h g (vs_raP m M N9 G h) + 1) = nI (vs_raQ m M N9 h (g + 1) (vs_raP m M N9 G h)) := by (show nI _ = nI (if vs_ra m h g (M h) (N9 g) = true then _ + 1 else _); rw [k0]; rfl)
              refine mx_lsc (congrArg (fun z9 => ([some (.ref (mo)), some (.int (z9)), some (.int (nI (h))), some (.int (nI (g + 1)))] : List (Option Value))) e1) ?_
              exact ih
    · try dsimp only
      refine mx_il3 d_Mo_rathers_16 ?_
      refine mx_al0 d_Mo_rathers_17 ?_
      refine mx_getR d_Mo_rathers_18 fl_Mo_7 (by assumption) (by assumption) ?_
      refine mx_in_4 d_Mo_rathers_21 ?_
      refine mx_iald d_Mo_rathers_22 (by assumption) (nI_inb (by omega) (by omega)) ?_
      refine mx_ti (y := I (mo + 1) (4)) (by rw [nI_clamp (by omega)]) ?_
      refine mx_ti (y := nI (G)) ((congrFun hm 4).trans hG) ?_
      refine mx_icN_ge 89 d_Mo_rathers_23 (by decide) (by omega) (by omega) (fun c_23 => ?_) (fun c_23 => absurd c_23 (by omega))
      refine mx_iN2 d_Mo_rathers_89 ?_
      refine mx_goto 4 d_Mo_rathers_92 (by decide) ?_
      refine mx_dn3 ?_
      have e1 : nI (vs_raQ m M N9 h G (vs_raP m M N9 G h)) = nI (vs_raP m M N9 G (h + 1)) := by rfl
      refine mx_lsc (congrArg (fun z9 => ([some (.ref (mo)), some (.int (z9)), some (.int (nI (h + 1))), none] : List (Option Value))) e1) ?_
      exact ih
  · try dsimp only
    refine mx_il2 d_Mo_rathers_4 ?_
    refine mx_al0 d_Mo_rathers_5 ?_
    refine mx_getR d_Mo_rathers_6 fl_Mo_7 (by assumption) (by assumption) ?_
    refine mx_in_3 d_Mo_rathers_9 ?_
    refine mx_iald d_Mo_rathers_10 (by assumption) (nI_inb (by omega) (by omega)) ?_
    refine mx_ti (y := I (mo + 1) (3)) (by rw [nI_clamp (by omega)]) ?_
    refine mx_ti (y := nI (H)) ((congrFun hm 3).trans hH) ?_
    refine mx_icN_ge 95 d_Mo_rathers_11 (by decide) (by omega) (by omega) (fun c_11 => ?_) (fun c_11 => absurd c_11 (by omega))
    refine mx_il1 d_Mo_rathers_95 ?_
    exact mx_iret d_Mo_rathers_96 rfl (mx_ri_of rfl)
def vs_hgd (T : Nat → Nat) (n G H k : Nat) : Bool := vf k (fun i b => b && vs_hOk T G i) (decide (n = H))
theorem vs_hgd_s (T : Nat → Nat) (n G H k : Nat) : vs_hgd T n G H (k + 1) = (vs_hgd T n G H k && vs_hOk T G k) := rfl
theorem vs_hgd_f {i k : Nat} (h : vs_hgd T n G H i = false) (hi : i ≤ k) : vs_hgd T n G H k = false := by
  obtain ⟨d, rfl⟩ : ∃ d, k = i + d := ⟨k - i, by omega⟩
  induction d with
  | zero => exact h
  | succ d ih => rw [← Nat.add_assoc, vs_hgd_s, ih (by omega)]; rfl
theorem vs_hgd_t {k : Nat} (h : vs_hgd T n G H k = true) : n = H ∧ ∀ i, i < k → vs_hOk T G i = true := by
  induction k with
  | zero => exact ⟨of_decide_eq_true h, fun i hi => absurd hi (by omega)⟩
  | succ k ih =>
    rw [vs_hgd_s, Bool.and_eq_true] at h
    exact ⟨(ih h.1).1, vs_nextT (ih h.1).2 h.2⟩
theorem vs_hgd_n (T : Nat → Nat) (n G H : Nat) : vs_hgd T n G H n = vs_hear T n G H := by
  cases e : vs_hgd T n G H n
  · by_cases hn : n = H
    · subst hn
      have : ∀ k, (∀ i, i < k → vs_hOk T G i = true) → vs_hgd T n G n k = true := fun k => by
        induction k with
        | zero => intro _; exact decide_eq_true rfl
        | succ k ih => intro hk; rw [vs_hgd_s, ih (fun i hi => hk i (by omega)), hk k (by omega)]; rfl
      cases e2 : vs_hear T n G n
      · rfl
      · obtain ⟨-, h2⟩ := vs_hear_of e2
        rw [this n (fun i hi => by rw [vs_hOk, Bool.or_eq_true, decide_eq_true_eq, decide_eq_true_eq]; exact h2 i hi)] at e; cases e
    · rw [vs_hear_n hn]
  · obtain ⟨h1, h2⟩ := vs_hgd_t e
    exact (vs_hear_t h1 (fun a ha => h2 a (by omega))).symm
def ra_inv (I0 K : mx_I) (mo : Nat) (m : Nat → Int32) (T : Nat → Nat) (H G h : Nat) : Prop := mx_off (fun c => c = mo + 7 ∨ c = mo + 8) I0 K ∧ (∀ g, g < 8 → K (mo + 8) g = mtv (vs_ho T h g)) ∧ (∀ a, a < h → K (mo + 7) a = mtv (T a)) ∧ ∀ a, a < h → vs_mb (WW m H G) T a = true
theorem ra_inv0 {I0 K : mx_I} (h : mx_off (fun c => c = mo + 7 ∨ c = mo + 8) I0 K) (h2 : ∀ g, g < 8 → K (mo + 8) g = -1) : ra_inv I0 K mo m T H G 0 := by
  refine ⟨h, fun g hg => ?_, fun a ha => absurd ha (by omega), fun a ha => absurd ha (by omega)⟩
  have e : vs_ho T 0 g = 8 := rfl
  rw [e, mtv_ge (by omega)]; exact h2 g hg
theorem ra_fl {I0 K : mx_I} {g : Nat} (hi : mx_off (fun c => c = mo + 7 ∨ c = mo + 8) I0 K ∧ ∀ a, a < g → K (mo + 8) a = -1) : mx_off (fun c => c = mo + 7 ∨ c = mo + 8) I0 (mx_up K (mo + 8) g (-1)) ∧ ∀ a, a < g + 1 → mx_up K (mo + 8) g (-1) (mo + 8) a = -1 := by
  refine ⟨fun c hc => (mx_up_ne (fun e => hc (Or.inr e))).trans (hi.1 c hc), fun a ha => ?_⟩
  by_cases e : a = g
  · simp [mx_up, e]
  · have h2 := hi.2 a (by omega)
    simp [mx_up, e, h2]
theorem ra_step0 {I0 K : mx_I} {h : Nat} (hi : ra_inv I0 K mo m T H G h) (u8 : ¬ T h < 8) : ra_inv I0 (mx_up K (mo + 7) h (-1)) mo m T H G (h + 1) := by
  obtain ⟨h0, h1, h2, h3⟩ := hi
  refine ⟨fun c hc => ?_, fun g hg => ?_, vs_nextT (fun a ha => ?_) ?_, vs_nextT h3 (mbT1 u8)⟩
  · rw [mx_up_ne (fun e => hc (Or.inl e)), h0 c hc]
  · rw [mx_up_ne (by omega), vs_ho_s, if_neg (by omega)]; exact h1 g hg
  · rw [← h2 a ha]
    have : ¬ a = h := by omega
    simp [mx_up, this]
  · rw [mtv_ge u8]; simp [mx_up]
theorem ra_step1 {I0 K : mx_I} {h : Nat} (hr : rk9 m) (hG8 : G ≤ 8) (hh : h < H) (hH8 : H ≤ 8) (hi : ra_inv I0 K mo m T H G h) (ug : T h < G) (hn : mtv (vs_ho T h (T h)) = -1) (hm : vs_may m h (T h) = true) : ra_inv I0 (mx_up (mx_up K (mo + 7) h (nI (T h))) (mo + 8) (T h) (nI h)) mo m T H G (h + 1) := by
  obtain ⟨h0, h1, h2, h3⟩ := hi
  have u8 : T h < 8 := by omega
  refine ⟨fun c hc => ?_, fun g hg => ?_, vs_nextT (fun a ha => ?_) ?_, vs_nextT h3 (mbT2 ?_ ?_)⟩
  · rw [mx_up_ne (fun e => hc (Or.inr e)), mx_up_ne (fun e => hc (Or.inl e)), h0 c hc]
  · rw [vs_ho_s]
    by_cases e : T h = g
    · rw [if_pos e, mtv_lt (by omega), ← e]; simp [mx_up]
    · rw [if_neg e, ← h1 g hg]
      simp [mx_up, Ne.symm e]
  · rw [mx_up_ne (by omega), ← h2 a ha]
    have : ¬ a = h := by omega
    simp [mx_up, this]
  · rw [mx_up_ne (by omega), mtv_lt u8]; simp [mx_up]
  · have := vs_ho_8 (M := T) (n := h) (g := T h) (by omega)
    rw [decide_eq_true (by have := mtv_e hn; omega)] at this
    simpa using this.symm
  · rw [vs_may_iff hr (by omega) u8, Bool.and_eq_true, decide_eq_true_eq, decide_eq_true_eq] at hm
    rw [WW, if_pos ⟨⟨hh, ug⟩, hm⟩]; omega
theorem ra_bad1 {h : Nat} (u8 : T h < 8) (hh : h < H) (hH8 : H ≤ 8) (hn : ¬ mtv (vs_ho T h (T h)) = -1) : vs_mbA (WW m H G) T H = false := by
  refine vs_mbA_f hh (mbF1 u8 ?_)
  have := vs_ho_8 (M := T) (n := h) (g := T h) (by omega)
  rw [decide_eq_false (by have := mtv_n hn; omega)] at this
  cases e : vs_any (fun k => T k == T h) h
  · rw [e] at this; cases this
  · rfl
theorem ra_bad2 {h : Nat} (hr : rk9 m) (u8 : T h < 8) (hh : h < H) (hH8 : H ≤ 8) (hm : vs_may m h (T h) = false) : vs_mbA (WW m H G) T H = false := by
  refine vs_mbA_f hh (mbF2 u8 ?_)
  intro w0
  unfold WW at w0
  split at w0
  · rename_i q
    rw [vs_may_iff hr (by omega) u8, decide_eq_true q.2.1, decide_eq_true q.2.2] at hm; cases hm
  · omega
theorem c_Mo_rather (hM : mo_ok S P mo) (hm : I (mo + 1) = m) (hH : m 3 = nI H) (hH8 : H ≤ 8) (hG : m 4 = nI G) (hG8 : G ≤ 8) (hr : rk9 m) (hT : tp_rel I (mo + 5) T) (hTl : I mo 8 = nI n) (hn : n ≤ 400) : mx_C l E M_Mo_rather 4 0 0 [.ref (mo)] (t, S, I, P, J) (mx_sR (some (.int (sp_rather m T n H G).2)) t S P J (fun K => mx_off (fun c => c = mo + 7 ∨ c = mo + 8) (mx_up (mx_up I mo 8 (nI 0)) mo 0 (nI (sp_rather m T n H G).1)) K)) := by
  obtain ⟨hM0, hMp1, hMp2, hMp4, hMp5, hMp7, hMp14, hMp21, hMp22, hMp23, hMp24, hMp25, hMp26, hMp27, hMs1, hMs2, hMs3, hMs4, hMs5, hMs6, hMs7, hMs8, hMs9, hMs10, hMs11, hMs12, hMs13⟩ := id hM
  refine mx_C_of (ls0 := [some (.ref (mo)), none, none, none]) (by decide +kernel) rfl rfl (Nat.le_of_ble_eq_true rfl) rfl ?_
  refine mx_al0 d_Mo_rather_0 ?_
  refine mx_getI d_Mo_rather_1 fl_Mo_81 (by assumption) ?_
  refine mx_ti (y := nI (n)) (hTl) ?_
  refine mx_is1 d_Mo_rather_4 ?_
  refine mx_al0 d_Mo_rather_5 ?_
  refine mx_in_0 d_Mo_rather_6 ?_
  refine mx_putI d_Mo_rather_7 fl_Mo_81 (by assumption) ?_
  have hT9 : tp_rel (mx_up I (mo) 8 (nI (0))) (mo + 5) T := hT.up
  refine mx_il1 d_Mo_rather_10 ?_
  refine mx_al0 d_Mo_rather_11 ?_
  refine mx_getR d_Mo_rather_12 fl_Mo_7 (by assumption) (by assumption) ?_
  refine mx_in_3 d_Mo_rather_15 ?_
  refine mx_iald d_Mo_rather_16 (by assumption) (nI_inb (by omega) (by omega)) ?_
  refine mx_ti (y := (mx_up I (mo) 8 (nI (0))) (mo + 1) (3)) (by rw [nI_clamp (by omega)]) ?_
  refine mx_ti (y := nI (H)) ((congrFun (vs_hm hm) 3).trans hH) ?_
  refine mx_icN_ne 24 d_Mo_rather_17 (by decide) (by omega) (by omega) (fun c_17 => ?_) (fun c_17 => ?_)
  · skip
    have w0 : nI 0 = bI (vs_hgd T n G H 0) := by rw [show vs_hgd T n G H 0 = false from decide_eq_false c_17]; rfl
    refine mx_in_0 d_Mo_rather_24 ?_
    refine mx_is2 d_Mo_rather_25 ?_
    refine mx_in_0 d_Mo_rather_26 ?_
    refine mx_is3 d_Mo_rather_27 ?_
    refine mx_lsc (congrArg (fun z9 => ([some (.ref (mo)), some (.int (nI (n))), some (.int (z9)), some (.int (nI (0)))] : List (Option Value))) (w0)) ?_
    refine mx_loop (N := n) (ls := fun i => [some (.ref (mo)), some (.int (nI (n))), some (.int (bI (vs_hgd T n G H i))), some (.int (nI (i)))]) (X := fun i => (t, S, (mx_up I (mo) 8 (nI (0))), P, J)) (fun i hi ih => ?_) ?_
    · try dsimp only
      refine mx_il3 d_Mo_rather_28 ?_
      refine mx_il1 d_Mo_rather_29 ?_
      refine mx_icN_ge 76 d_Mo_rather_30 (by decide) (by omega) (by omega) (fun c_30 => absurd c_30 (by omega)) (fun c_30 => ?_)
      refine mx_il2 d_Mo_rather_33 ?_
      refine mx_ifB_eq 76 d_Mo_rather_34 (by decide) (fun c_34 => ?_) (fun c_34 => ?_)
      · skip
        refine mx_al0 d_Mo_rather_76 ?_
        refine mx_il2 d_Mo_rather_77 ?_
        refine mx_ifB_eq 85 d_Mo_rather_78 (by decide) (fun c_78 => ?_) (fun c_78 => absurd c_78 (by rw [c_34]; decide))
        refine mx_in_1 d_Mo_rather_85 ?_
        refine mx_putI d_Mo_rather_86 fl_Mo_54 (by assumption) ?_
        refine mx_al0 d_Mo_rather_89 ?_
        refine mx_getI d_Mo_rather_90 fl_Mo_54 (by assumption) ?_
        refine mx_ti (y := nI (1)) (vs_upx) ?_
        refine mx_if_le 98 d_Mo_rather_93 (by decide) (fun c_93 => absurd c_93 (by decide)) (fun c_93 => ?_)
        refine mx_in_0 d_Mo_rather_96 ?_
        exact mx_iret d_Mo_rather_97 rfl (mx_sR_i (by first | (have z9 := vs_hgd_f c_34 (k := n) (by omega); rw [vs_hgd_n] at z9; simp [sp_rather, z9]; done) | (rw [vs_hgd_n] at c_78; simp [sp_rather, c_78])) (by first | (have z9 := vs_hgd_f c_34 (k := n) (by omega); rw [vs_hgd_n] at z9; simp only [sp_rather, z9]; exact mx_off.rf) | (rw [vs_hgd_n] at c_78; simp only [sp_rather, c_78]; exact mx_off.rf)))
      · skip
        refine mx_al0 d_Mo_rather_37 ?_
        refine mx_getR d_Mo_rather_38 fl_Mo_22 (by assumption) (by assumption) ?_
        refine mx_il3 d_Mo_rather_41 ?_
        refine mx_iald d_Mo_rather_42 (by assumption) (nI_inb (by omega) (by omega)) ?_
        refine mx_ti (y := (mx_up I (mo) 8 (nI (0))) (mo + 5) (i)) (by rw [nI_clamp (by omega)]) ?_
        have hTi := (hT9 i (by omega)).1
        refine mx_ti (y := nI (T i)) ((hT9 (i) (by omega)).2) ?_
        refine mx_al0 d_Mo_rather_43 ?_
        refine mx_getR d_Mo_rather_44 fl_Mo_7 (by assumption) (by assumption) ?_
        refine mx_in_4 d_Mo_rather_47 ?_
        refine mx_iald d_Mo_rather_48 (by assumption) (nI_inb (by omega) (by omega)) ?_
        refine mx_ti (y := (mx_up I (mo) 8 (nI (0))) (mo + 1) (4)) (by rw [nI_clamp (by omega)]) ?_
        refine mx_ti (y := nI (G)) ((congrFun (vs_hm hm) 4).trans hG) ?_
        refine mx_icN_lt 64 d_Mo_rather_49 (by decide) (by omega) (by omega) (fun c_49 => ?_) (fun c_49 => ?_)
        · skip
          have k0 : vs_hOk T G i = true := by rw [vs_hOk, Bool.or_eq_true, decide_eq_true_eq, decide_eq_true_eq]; omega
          refine mx_in_1 d_Mo_rather_64 ?_
          refine mx_goto 69 d_Mo_rather_65 (by decide) ?_
          refine mx_is2 d_Mo_rather_69 ?_
          refine mx_iN3 d_Mo_rather_70 ?_
          refine mx_goto 28 d_Mo_rather_73 (by decide) ?_
          have e2 : nI (1) = bI (vs_hgd T n G H (i + 1)) := by rw [vs_hgd_s, c_34, k0]; rfl
          refine mx_lsc (congrArg (fun z9 => ([some (.ref (mo)), some (.int (nI (n))), some (.int (z9)), some (.int (nI (i + 1)))] : List (Option Value))) e2) ?_
          exact ih
        · skip
          refine mx_al0 d_Mo_rather_52 ?_
          refine mx_getR d_Mo_rather_53 fl_Mo_22 (by assumption) (by assumption) ?_
          refine mx_il3 d_Mo_rather_56 ?_
          refine mx_iald d_Mo_rather_57 (by assumption) (nI_inb (by omega) (by omega)) ?_
          refine mx_ti (y := (mx_up I (mo) 8 (nI (0))) (mo + 5) (i)) (by rw [nI_clamp (by omega)]) ?_
          refine mx_ti (y := nI (T i)) ((hT9 (i) (by omega)).2) ?_
          refine mx_sip 255 d_Mo_rather_58 (by decide) ?_
          refine mx_icN_ne 68 d_Mo_rather_61 (by decide) (by omega) (by omega) (fun c_61 => ?_) (fun c_61 => ?_)
          · skip
            have k0 : vs_hOk T G i = false := by rw [vs_hOk, decide_eq_false (by omega), decide_eq_false (by omega)]; rfl
            refine mx_in_0 d_Mo_rather_68 ?_
            refine mx_is2 d_Mo_rather_69 ?_
            refine mx_iN3 d_Mo_rather_70 ?_
            refine mx_goto 28 d_Mo_rather_73 (by decide) ?_
            have e2 : nI (0) = bI (vs_hgd T n G H (i + 1)) := by rw [vs_hgd_s, c_34, k0]; rfl
            refine mx_lsc (congrArg (fun z9 => ([some (.ref (mo)), some (.int (nI (n))), some (.int (z9)), some (.int (nI (i + 1)))] : List (Option Value))) e2) ?_
            exact ih
          · skip
            have k0 : vs_hOk T G i = true := by rw [vs_hOk, Bool.or_eq_true, decide_eq_true_eq, decide_eq_true_eq]; omega
            refine mx_in_1 d_Mo_rather_64 ?_
            refine mx_goto 69 d_Mo_rather_65 (by decide) ?_
            refine mx_is2 d_Mo_rather_69 ?_
            refine mx_iN3 d_Mo_rather_70 ?_
            refine mx_goto 28 d_Mo_rather_73 (by decide) ?_
            have e2 : nI (1) = bI (vs_hgd T n G H (i + 1)) := by rw [vs_hgd_s, c_34, k0]; rfl
            refine mx_lsc (congrArg (fun z9 => ([some (.ref (mo)), some (.int (nI (n))), some (.int (z9)), some (.int (nI (i + 1)))] : List (Option Value))) e2) ?_
            exact ih
    · try dsimp only
      refine mx_il3 d_Mo_rather_28 ?_
      refine mx_il1 d_Mo_rather_29 ?_
      refine mx_icN_ge 76 d_Mo_rather_30 (by decide) (by omega) (by omega) (fun c_30 => ?_) (fun c_30 => absurd c_30 (by omega))
      refine mx_al0 d_Mo_rather_76 ?_
      refine mx_il2 d_Mo_rather_77 ?_
      refine mx_ifB_eq 85 d_Mo_rather_78 (by decide) (fun c_78 => ?_) (fun c_78 => ?_)
      · skip
        refine mx_in_1 d_Mo_rather_85 ?_
        refine mx_putI d_Mo_rather_86 fl_Mo_54 (by assumption) ?_
        refine mx_al0 d_Mo_rather_89 ?_
        refine mx_getI d_Mo_rather_90 fl_Mo_54 (by assumption) ?_
        refine mx_ti (y := nI (1)) (vs_upx) ?_
        refine mx_if_le 98 d_Mo_rather_93 (by decide) (fun c_93 => absurd c_93 (by decide)) (fun c_93 => ?_)
        refine mx_in_0 d_Mo_rather_96 ?_
        exact mx_iret d_Mo_rather_97 rfl (mx_sR_i (by first | (have z9 := vs_hgd_f c_34 (k := n) (by omega); rw [vs_hgd_n] at z9; simp [sp_rather, z9]; done) | (rw [vs_hgd_n] at c_78; simp [sp_rather, c_78])) (by first | (have z9 := vs_hgd_f c_34 (k := n) (by omega); rw [vs_hgd_n] at z9; simp only [sp_rather, z9]; exact mx_off.rf) | (rw [vs_hgd_n] at c_78; simp only [sp_rather, c_78]; exact mx_off.rf)))
      · skip
        refine mx_in_0 d_Mo_rather_81 ?_
        refine mx_goto 86 d_Mo_rather_82 (by decide) ?_
        refine mx_putI d_Mo_rather_86 fl_Mo_54 (by assumption) ?_
        refine mx_al0 d_Mo_rather_89 ?_
        refine mx_getI d_Mo_rather_90 fl_Mo_54 (by assumption) ?_
        refine mx_ti (y := nI (0)) (vs_upx) ?_
        refine mx_if_le 98 d_Mo_rather_93 (by decide) (fun c_93 => ?_) (fun c_93 => absurd (by decide) c_93)
        have hT8 : tp_rel (mx_up (mx_up I (mo) 8 (nI (0))) (mo) 0 (nI (0))) (mo + 5) T := hT9.up
        have hear : vs_hear T n G H = true := by rw [← vs_hgd_n]; exact c_78
        obtain ⟨hnH, hTG⟩ := vs_hear_of hear
        refine mx_in_0 d_Mo_rather_98 ?_
        refine mx_is3 d_Mo_rather_99 ?_
        refine mx_loopX (α := (mx_I)) (N := 8) (a0 := (mx_up (mx_up I (mo) 8 (nI (0))) (mo) 0 (nI (0)))) (fun g z9 => mx_off (fun c => c = mo + 7 ∨ c = mo + 8) (mx_up (mx_up I (mo) 8 (nI (0))) (mo) 0 (nI (0))) z9 ∧ ∀ a, a < g → z9 (mo + 8) a = -1) (ls := fun g z9 => [some (.ref (mo)), some (.int (nI (n))), some (.int (bI (vs_hgd T n G H n))), some (.int (nI (g)))]) (X := fun g z9 => (t, S, z9, P, J)) (⟨mx_off.rf, fun a ha => absurd ha (by omega)⟩) (fun g hg z9 hinv ih => ?_) (fun z9 hinv => ?_)
        · skip
          obtain ⟨K, hz9⟩ : ∃ q, q = z9 := ⟨_, rfl⟩
          subst hz9
          try dsimp only at hinv ih ⊢
          refine mx_il3 d_Mo_rather_100 ?_
          refine mx_bip 8 d_Mo_rather_101 (by decide) ?_
          refine mx_icN_ge 119 d_Mo_rather_103 (by decide) (by omega) (by omega) (fun c_103 => absurd c_103 (by omega)) (fun c_103 => ?_)
          refine mx_al0 d_Mo_rather_106 ?_
          refine mx_getR d_Mo_rather_107 fl_Mo_35 (by assumption) (by assumption) ?_
          refine mx_il3 d_Mo_rather_110 ?_
          refine mx_ic_m1 d_Mo_rather_111 ?_
          refine mx_iast d_Mo_rather_112 (by assumption) (nI_inb (by omega) (by omega)) ?_
          rw [nI_clamp (by omega)]
          refine mx_iN3 d_Mo_rather_113 ?_
          refine mx_goto 100 d_Mo_rather_116 (by decide) ?_
          exact ih (mx_up K (mo + 8) (g) ((-1))) (ra_fl hinv)
        · skip
          obtain ⟨K, hz9⟩ : ∃ q, q = z9 := ⟨_, rfl⟩
          subst hz9
          try dsimp only at hinv ⊢
          refine mx_il3 d_Mo_rather_100 ?_
          refine mx_bip 8 d_Mo_rather_101 (by decide) ?_
          refine mx_icN_ge 119 d_Mo_rather_103 (by decide) (by omega) (by omega) (fun c_103 => ?_) (fun c_103 => absurd c_103 (by omega))
          refine mx_in_0 d_Mo_rather_119 ?_
          refine mx_is3 d_Mo_rather_120 ?_
          refine mx_loopX (α := (mx_I)) (N := n) (a0 := K) (fun h z9 => ra_inv (mx_up (mx_up I (mo) 8 (nI (0))) (mo) 0 (nI (0))) z9 mo m T H G h) (ls := fun h z9 => [some (.ref (mo)), some (.int (nI (n))), some (.int (bI (vs_hgd T n G H n))), some (.int (nI (h)))]) (X := fun h z9 => (t, S, z9, P, J)) (ra_inv0 hinv.1 hinv.2) (fun h hh z9 hinv ih => ?_) (fun z9 hinv => ?_)
          · skip
            obtain ⟨K, hz9⟩ : ∃ q, q = z9 := ⟨_, rfl⟩
            subst hz9
            try dsimp only at hinv ih ⊢
            have hoff := hinv.1
            have hm : K (mo + 1) = m := by rw [hoff _ (by omega)]; exact vs_hm (vs_hm hm)
            refine mx_il3 d_Mo_rather_121 ?_
            refine mx_il1 d_Mo_rather_122 ?_
            refine mx_icN_ge 216 d_Mo_rather_123 (by decide) (by omega) (by omega) (fun c_123 => absurd c_123 (by omega)) (fun c_123 => ?_)
            refine mx_al0 d_Mo_rather_126 ?_
            refine mx_getR d_Mo_rather_127 fl_Mo_32 (by assumption) (by assumption) ?_
            refine mx_il3 d_Mo_rather_130 ?_
            refine mx_al0 d_Mo_rather_131 ?_
            refine mx_getR d_Mo_rather_132 fl_Mo_22 (by assumption) (by assumption) ?_
            refine mx_il3 d_Mo_rather_135 ?_
            refine mx_iald d_Mo_rather_136 (by assumption) (nI_inb (by omega) (by omega)) ?_
            refine mx_ti (y := K (mo + 5) (h)) (by rw [nI_clamp (by omega)]) ?_
            have hTh := hTG h (by omega)
            refine mx_ti (y := nI (T h)) ((congrFun (hoff (mo + 5) (by omega)) h).trans (hT8 h (by omega)).2) ?_
            refine mx_sip 255 d_Mo_rather_137 (by decide) ?_
            refine mx_icN_ne 147 d_Mo_rather_140 (by decide) (by omega) (by omega) (fun c_140 => ?_) (fun c_140 => ?_)
            · skip
              refine mx_al0 d_Mo_rather_147 ?_
              refine mx_getR d_Mo_rather_148 fl_Mo_22 (by assumption) (by assumption) ?_
              refine mx_il3 d_Mo_rather_151 ?_
              refine mx_iald d_Mo_rather_152 (by assumption) (nI_inb (by omega) (by omega)) ?_
              refine mx_ti (y := K (mo + 5) (h)) (by rw [nI_clamp (by omega)]) ?_
              refine mx_ti (y := nI (T h)) ((congrFun (hoff (mo + 5) (by omega)) h).trans (hT8 h (by omega)).2) ?_
              refine mx_iast d_Mo_rather_153 (by assumption) (nI_inb (by omega) (by omega)) ?_
              rw [nI_clamp (by omega)]
              refine mx_al0 d_Mo_rather_154 ?_
              refine mx_getR d_Mo_rather_155 fl_Mo_32 (by assumption) (by assumption) ?_
              refine mx_il3 d_Mo_rather_158 ?_
              refine mx_iald d_Mo_rather_159 (by assumption) (nI_inb (by omega) (by omega)) ?_
              refine mx_ti (y := (mx_up K (mo + 7) (h) (nI (T h))) (mo + 7) (h)) (by rw [nI_clamp (by omega)]) ?_
              refine mx_ti (y := nI (T h)) (vs_upx) ?_
              refine mx_ic_m1 d_Mo_rather_160 ?_
              refine mx_icmp_ne 167 d_Mo_rather_161 (by decide) (fun c_161 => ?_) (fun c_161 => absurd c_161 (nI_m1 (by omega)))
              refine mx_al0 d_Mo_rather_167 ?_
              refine mx_getR d_Mo_rather_168 fl_Mo_35 (by assumption) (by assumption) ?_
              refine mx_al0 d_Mo_rather_171 ?_
              refine mx_getR d_Mo_rather_172 fl_Mo_22 (by assumption) (by assumption) ?_
              refine mx_il3 d_Mo_rather_175 ?_
              refine mx_iald d_Mo_rather_176 (by assumption) (nI_inb (by omega) (by omega)) ?_
              refine mx_ti (y := (mx_up K (mo + 7) (h) (nI (T h))) (mo + 5) (h)) (by rw [nI_clamp (by omega)]) ?_
              refine mx_ti (y := nI (T h)) ((congrFun ((mx_up_ne (by omega)).trans (hoff (mo + 5) (by omega))) h).trans (hT8 h (by omega)).2) ?_
              refine mx_iald d_Mo_rather_177 (by assumption) (nI_inb (by omega) (by omega)) ?_
              refine mx_ti (y := (mx_up K (mo + 7) (h) (nI (T h))) (mo + 8) (T h)) (by rw [nI_clamp (by omega)]) ?_
              refine mx_ti (y := (mtv (vs_ho T h (T h)))) ((congrFun (mx_up_ne (by omega)) _).trans (hinv.2.1 (T h) (by omega))) ?_
              refine mx_ic_m1 d_Mo_rather_178 ?_
              refine mx_icmp_ne 196 d_Mo_rather_179 (by decide) (fun c_179 => ?_) (fun c_179 => ?_)
              · skip
                refine mx_ic_m1 d_Mo_rather_196 ?_
                exact mx_iret d_Mo_rather_197 rfl (mx_sR_i (by first | (have z9 := ra_bad1 (m := m) (G := G) (T := T) (H := H) (h := h) (by omega) (by omega) hH8 c_179; simp [sp_rather, hear, z9]; done) | (have z9 := ra_bad2 (G := G) (T := T) (H := H) (h := h) hr (by omega) (by omega) hH8 c_193; simp [sp_rather, hear, z9])) (by rw [show (sp_rather m T n H G).1 = 0 from by simp [sp_rather, hear]]; exact fun c hc => (mx_up_ne (fun e => hc (Or.inl e))).trans (hoff c hc)))
              · skip
                refine mx_al0 d_Mo_rather_182 ?_
                refine mx_il3 d_Mo_rather_183 ?_
                refine mx_al0 d_Mo_rather_184 ?_
                refine mx_getR d_Mo_rather_185 fl_Mo_22 (by assumption) (by assumption) ?_
                refine mx_il3 d_Mo_rather_188 ?_
                refine mx_iald d_Mo_rather_189 (by assumption) (nI_inb (by omega) (by omega)) ?_
                refine mx_ti (y := (mx_up K (mo + 7) (h) (nI (T h))) (mo + 5) (h)) (by rw [nI_clamp (by omega)]) ?_
                refine mx_ti (y := nI (T h)) ((congrFun ((mx_up_ne (by omega)).trans (hoff (mo + 5) (by omega))) h).trans (hT8 h (by omega)).2) ?_
                refine mx_cV2i d_Mo_rather_190 (cm_mayMeet hM (vs_hm hm) (h := h) (g := T h) (by omega) (by omega)) ok_Mo_mayMeet ml_Mo_78 (by assumption) ⟨rfl, rfl⟩ (by decide) (Nat.le_of_ble_eq_true rfl) ?_
                refine mx_ifB_ne 198 d_Mo_rather_193 (by decide) (fun c_193 => ?_) (fun c_193 => ?_)
                · skip
                  refine mx_al0 d_Mo_rather_198 ?_
                  refine mx_getR d_Mo_rather_199 fl_Mo_35 (by assumption) (by assumption) ?_
                  refine mx_al0 d_Mo_rather_202 ?_
                  refine mx_getR d_Mo_rather_203 fl_Mo_22 (by assumption) (by assumption) ?_
                  refine mx_il3 d_Mo_rather_206 ?_
                  refine mx_iald d_Mo_rather_207 (by assumption) (nI_inb (by omega) (by omega)) ?_
                  refine mx_ti (y := (mx_up K (mo + 7) (h) (nI (T h))) (mo + 5) (h)) (by rw [nI_clamp (by omega)]) ?_
                  refine mx_ti (y := nI (T h)) ((congrFun ((mx_up_ne (by omega)).trans (hoff (mo + 5) (by omega))) h).trans (hT8 h (by omega)).2) ?_
                  refine mx_il3 d_Mo_rather_208 ?_
                  refine mx_iast d_Mo_rather_209 (by assumption) (nI_inb (by omega) (by omega)) ?_
                  rw [nI_clamp (by omega)]
                  refine mx_iN3 d_Mo_rather_210 ?_
                  refine mx_goto 121 d_Mo_rather_213 (by decide) ?_
                  exact ih (mx_up (mx_up K (mo + 7) (h) (nI (T h))) (mo + 8) (T h) (nI (h))) (ra_step1 hr hG8 (by omega) hH8 hinv (by omega) c_179 c_193)
                · skip
                  refine mx_ic_m1 d_Mo_rather_196 ?_
                  exact mx_iret d_Mo_rather_197 rfl (mx_sR_i (by first | (have z9 := ra_bad1 (m := m) (G := G) (T := T) (H := H) (h := h) (by omega) (by omega) hH8 c_179; simp [sp_rather, hear, z9]; done) | (have z9 := ra_bad2 (G := G) (T := T) (H := H) (h := h) hr (by omega) (by omega) hH8 c_193; simp [sp_rather, hear, z9])) (by rw [show (sp_rather m T n H G).1 = 0 from by simp [sp_rather, hear]]; exact fun c hc => (mx_up_ne (fun e => hc (Or.inl e))).trans (hoff c hc)))
            · skip
              refine mx_ic_m1 d_Mo_rather_143 ?_
              refine mx_goto 153 d_Mo_rather_144 (by decide) ?_
              refine mx_ti (y := (-1)) (rfl) ?_
              refine mx_iast d_Mo_rather_153 (by assumption) (nI_inb (by omega) (by omega)) ?_
              rw [nI_clamp (by omega)]
              refine mx_al0 d_Mo_rather_154 ?_
              refine mx_getR d_Mo_rather_155 fl_Mo_32 (by assumption) (by assumption) ?_
              refine mx_il3 d_Mo_rather_158 ?_
              refine mx_iald d_Mo_rather_159 (by assumption) (nI_inb (by omega) (by omega)) ?_
              refine mx_ti (y := (mx_up K (mo + 7) (h) ((-1))) (mo + 7) (h)) (by rw [nI_clamp (by omega)]) ?_
              refine mx_ti (y := (-1)) (vs_upx) ?_
              refine mx_ic_m1 d_Mo_rather_160 ?_
              refine mx_icmp_ne 167 d_Mo_rather_161 (by decide) (fun c_161 => absurd c_161 (fun z => z rfl)) (fun c_161 => ?_)
              refine mx_goto 210 d_Mo_rather_164 (by decide) ?_
              refine mx_iN3 d_Mo_rather_210 ?_
              refine mx_goto 121 d_Mo_rather_213 (by decide) ?_
              exact ih (mx_up K (mo + 7) (h) ((-1))) (ra_step0 hinv (by omega))
          · skip
            obtain ⟨K, hz9⟩ : ∃ q, q = z9 := ⟨_, rfl⟩
            subst hz9
            try dsimp only at hinv ⊢
            have hoff := hinv.1
            have hm : K (mo + 1) = m := by rw [hoff _ (by omega)]; exact vs_hm (vs_hm hm)
            refine mx_il3 d_Mo_rather_121 ?_
            refine mx_il1 d_Mo_rather_122 ?_
            refine mx_icN_ge 216 d_Mo_rather_123 (by decide) (by omega) (by omega) (fun c_123 => ?_) (fun c_123 => absurd c_123 (by omega))
            refine mx_al0 d_Mo_rather_216 ?_
            refine mx_cV0i d_Mo_rather_217 (c_Mo_rathers hM hm hH hH8 hG hG8 hr (fun a ha => hinv.2.2.1 a (by omega)) hinv.2.1) ok_Mo_rathers ml_Mo_375 (by assumption) ⟨rfl, rfl⟩ (by decide) (Nat.le_of_ble_eq_true rfl) ?_
            exact mx_iret d_Mo_rather_220 rfl (mx_sR_i (by subst hnH; have z9 := vs_mbA_t hinv.2.2.2; have z8 := vs_mb_use hr hH8 hG8 z9; rw [vs_ra_rv hr hH8 hG8 z8.1 z8.2]; simp [sp_rather, hear, z9]) (by rw [show (sp_rather m T n H G).1 = 0 from by simp [sp_rather, hear]]; exact hoff))
  · skip
    have w0 : nI 1 = bI (vs_hgd T n G H 0) := by rw [show vs_hgd T n G H 0 = true from decide_eq_true c_17]; rfl
    refine mx_in_1 d_Mo_rather_20 ?_
    refine mx_goto 25 d_Mo_rather_21 (by decide) ?_
    refine mx_is2 d_Mo_rather_25 ?_
    refine mx_in_0 d_Mo_rather_26 ?_
    refine mx_is3 d_Mo_rather_27 ?_
    refine mx_lsc (congrArg (fun z9 => ([some (.ref (mo)), some (.int (nI (n))), some (.int (z9)), some (.int (nI (0)))] : List (Option Value))) (w0)) ?_
    refine mx_loop (N := n) (ls := fun i => [some (.ref (mo)), some (.int (nI (n))), some (.int (bI (vs_hgd T n G H i))), some (.int (nI (i)))]) (X := fun i => (t, S, (mx_up I (mo) 8 (nI (0))), P, J)) (fun i hi ih => ?_) ?_
    · try dsimp only
      refine mx_il3 d_Mo_rather_28 ?_
      refine mx_il1 d_Mo_rather_29 ?_
      refine mx_icN_ge 76 d_Mo_rather_30 (by decide) (by omega) (by omega) (fun c_30 => absurd c_30 (by omega)) (fun c_30 => ?_)
      refine mx_il2 d_Mo_rather_33 ?_
      refine mx_ifB_eq 76 d_Mo_rather_34 (by decide) (fun c_34 => ?_) (fun c_34 => ?_)
      · skip
        refine mx_al0 d_Mo_rather_76 ?_
        refine mx_il2 d_Mo_rather_77 ?_
        refine mx_ifB_eq 85 d_Mo_rather_78 (by decide) (fun c_78 => ?_) (fun c_78 => absurd c_78 (by rw [c_34]; decide))
        refine mx_in_1 d_Mo_rather_85 ?_
        refine mx_putI d_Mo_rather_86 fl_Mo_54 (by assumption) ?_
        refine mx_al0 d_Mo_rather_89 ?_
        refine mx_getI d_Mo_rather_90 fl_Mo_54 (by assumption) ?_
        refine mx_ti (y := nI (1)) (vs_upx) ?_
        refine mx_if_le 98 d_Mo_rather_93 (by decide) (fun c_93 => absurd c_93 (by decide)) (fun c_93 => ?_)
        refine mx_in_0 d_Mo_rather_96 ?_
        exact mx_iret d_Mo_rather_97 rfl (mx_sR_i (by first | (have z9 := vs_hgd_f c_34 (k := n) (by omega); rw [vs_hgd_n] at z9; simp [sp_rather, z9]; done) | (rw [vs_hgd_n] at c_78; simp [sp_rather, c_78])) (by first | (have z9 := vs_hgd_f c_34 (k := n) (by omega); rw [vs_hgd_n] at z9; simp only [sp_rather, z9]; exact mx_off.rf) | (rw [vs_hgd_n] at c_78; simp only [sp_rather, c_78]; exact mx_off.rf)))
      · skip
        refine mx_al0 d_Mo_rather_37 ?_
        refine mx_getR d_Mo_rather_38 fl_Mo_22 (by assumption) (by assumption) ?_
        refine mx_il3 d_Mo_rather_41 ?_
        refine mx_iald d_Mo_rather_42 (by assumption) (nI_inb (by omega) (by omega)) ?_
        refine mx_ti (y := (mx_up I (mo) 8 (nI (0))) (mo + 5) (i)) (by rw [nI_clamp (by omega)]) ?_
        have hTi := (hT9 i (by omega)).1
        refine mx_ti (y := nI (T i)) ((hT9 (i) (by omega)).2) ?_
        refine mx_al0 d_Mo_rather_43 ?_
        refine mx_getR d_Mo_rather_44 fl_Mo_7 (by assumption) (by assumption) ?_
        refine mx_in_4 d_Mo_rather_47 ?_
        refine mx_iald d_Mo_rather_48 (by assumption) (nI_inb (by omega) (by omega)) ?_
        refine mx_ti (y := (mx_up I (mo) 8 (nI (0))) (mo + 1) (4)) (by rw [nI_clamp (by omega)]) ?_
        refine mx_ti (y := nI (G)) ((congrFun (vs_hm hm) 4).trans hG) ?_
        refine mx_icN_lt 64 d_Mo_rather_49 (by decide) (by omega) (by omega) (fun c_49 => ?_) (fun c_49 => ?_)
        · skip
          have k0 : vs_hOk T G i = true := by rw [vs_hOk, Bool.or_eq_true, decide_eq_true_eq, decide_eq_true_eq]; omega
          refine mx_in_1 d_Mo_rather_64 ?_
          refine mx_goto 69 d_Mo_rather_65 (by decide) ?_
          refine mx_is2 d_Mo_rather_69 ?_
          refine mx_iN3 d_Mo_rather_70 ?_
          refine mx_goto 28 d_Mo_rather_73 (by decide) ?_
          have e2 : nI (1) = bI (vs_hgd T n G H (i + 1)) := by rw [vs_hgd_s, c_34, k0]; rfl
          refine mx_lsc (congrArg (fun z9 => ([some (.ref (mo)), some (.int (nI (n))), some (.int (z9)), some (.int (nI (i + 1)))] : List (Option Value))) e2) ?_
          exact ih
        · skip
          refine mx_al0 d_Mo_rather_52 ?_
          refine mx_getR d_Mo_rather_53 fl_Mo_22 (by assumption) (by assumption) ?_
          refine mx_il3 d_Mo_rather_56 ?_
          refine mx_iald d_Mo_rather_57 (by assumption) (nI_inb (by omega) (by omega)) ?_
          refine mx_ti (y := (mx_up I (mo) 8 (nI (0))) (mo + 5) (i)) (by rw [nI_clamp (by omega)]) ?_
          refine mx_ti (y := nI (T i)) ((hT9 (i) (by omega)).2) ?_
          refine mx_sip 255 d_Mo_rather_58 (by decide) ?_
          refine mx_icN_ne 68 d_Mo_rather_61 (by decide) (by omega) (by omega) (fun c_61 => ?_) (fun c_61 => ?_)
          · skip
            have k0 : vs_hOk T G i = false := by rw [vs_hOk, decide_eq_false (by omega), decide_eq_false (by omega)]; rfl
            refine mx_in_0 d_Mo_rather_68 ?_
            refine mx_is2 d_Mo_rather_69 ?_
            refine mx_iN3 d_Mo_rather_70 ?_
            refine mx_goto 28 d_Mo_rather_73 (by decide) ?_
            have e2 : nI (0) = bI (vs_hgd T n G H (i + 1)) := by rw [vs_hgd_s, c_34, k0]; rfl
            refine mx_lsc (congrArg (fun z9 => ([some (.ref (mo)), some (.int (nI (n))), some (.int (z9)), some (.int (nI (i + 1)))] : List (Option Value))) e2) ?_
            exact ih
          · skip
            have k0 : vs_hOk T G i = true := by rw [vs_hOk, Bool.or_eq_true, decide_eq_true_eq, decide_eq_true_eq]; omega
            refine mx_in_1 d_Mo_rather_64 ?_
            refine mx_goto 69 d_Mo_rather_65 (by decide) ?_
            refine mx_is2 d_Mo_rather_69 ?_
            refine mx_iN3 d_Mo_rather_70 ?_
            refine mx_goto 28 d_Mo_rather_73 (by decide) ?_
            have e2 : nI (1) = bI (vs_hgd T n G H (i + 1)) := by rw [vs_hgd_s, c_34, k0]; rfl
            refine mx_lsc (congrArg (fun z9 => ([some (.ref (mo)), some (.int (nI (n))), some (.int (z9)), some (.int (nI (i + 1)))] : List (Option Value))) e2) ?_
            exact ih
    · try dsimp only
      refine mx_il3 d_Mo_rather_28 ?_
      refine mx_il1 d_Mo_rather_29 ?_
      refine mx_icN_ge 76 d_Mo_rather_30 (by decide) (by omega) (by omega) (fun c_30 => ?_) (fun c_30 => absurd c_30 (by omega))
      refine mx_al0 d_Mo_rather_76 ?_
      refine mx_il2 d_Mo_rather_77 ?_
      refine mx_ifB_eq 85 d_Mo_rather_78 (by decide) (fun c_78 => ?_) (fun c_78 => ?_)
      · skip
        refine mx_in_1 d_Mo_rather_85 ?_
        refine mx_putI d_Mo_rather_86 fl_Mo_54 (by assumption) ?_
        refine mx_al0 d_Mo_rather_89 ?_
        refine mx_getI d_Mo_rather_90 fl_Mo_54 (by assumption) ?_
        refine mx_ti (y := nI (1)) (vs_upx) ?_
        refine mx_if_le 98 d_Mo_rather_93 (by decide) (fun c_93 => absurd c_93 (by decide)) (fun c_93 => ?_)
        refine mx_in_0 d_Mo_rather_96 ?_
        exact mx_iret d_Mo_rather_97 rfl (mx_sR_i (by first | (have z9 := vs_hgd_f c_34 (k := n) (by omega); rw [vs_hgd_n] at z9; simp [sp_rather, z9]; done) | (rw [vs_hgd_n] at c_78; simp [sp_rather, c_78])) (by first | (have z9 := vs_hgd_f c_34 (k := n) (by omega); rw [vs_hgd_n] at z9; simp only [sp_rather, z9]; exact mx_off.rf) | (rw [vs_hgd_n] at c_78; simp only [sp_rather, c_78]; exact mx_off.rf)))
      · skip
        refine mx_in_0 d_Mo_rather_81 ?_
        refine mx_goto 86 d_Mo_rather_82 (by decide) ?_
        refine mx_putI d_Mo_rather_86 fl_Mo_54 (by assumption) ?_
        refine mx_al0 d_Mo_rather_89 ?_
        refine mx_getI d_Mo_rather_90 fl_Mo_54 (by assumption) ?_
        refine mx_ti (y := nI (0)) (vs_upx) ?_
        refine mx_if_le 98 d_Mo_rather_93 (by decide) (fun c_93 => ?_) (fun c_93 => absurd (by decide) c_93)
        have hT8 : tp_rel (mx_up (mx_up I (mo) 8 (nI (0))) (mo) 0 (nI (0))) (mo + 5) T := hT9.up
        have hear : vs_hear T n G H = true := by rw [← vs_hgd_n]; exact c_78
        obtain ⟨hnH, hTG⟩ := vs_hear_of hear
        refine mx_in_0 d_Mo_rather_98 ?_
        refine mx_is3 d_Mo_rather_99 ?_
        refine mx_loopX (α := (mx_I)) (N := 8) (a0 := (mx_up (mx_up I (mo) 8 (nI (0))) (mo) 0 (nI (0)))) (fun g z9 => mx_off (fun c => c = mo + 7 ∨ c = mo + 8) (mx_up (mx_up I (mo) 8 (nI (0))) (mo) 0 (nI (0))) z9 ∧ ∀ a, a < g → z9 (mo + 8) a = -1) (ls := fun g z9 => [some (.ref (mo)), some (.int (nI (n))), some (.int (bI (vs_hgd T n G H n))), some (.int (nI (g)))]) (X := fun g z9 => (t, S, z9, P, J)) (⟨mx_off.rf, fun a ha => absurd ha (by omega)⟩) (fun g hg z9 hinv ih => ?_) (fun z9 hinv => ?_)
        · skip
          obtain ⟨K, hz9⟩ : ∃ q, q = z9 := ⟨_, rfl⟩
          subst hz9
          try dsimp only at hinv ih ⊢
          refine mx_il3 d_Mo_rather_100 ?_
          refine mx_bip 8 d_Mo_rather_101 (by decide) ?_
          refine mx_icN_ge 119 d_Mo_rather_103 (by decide) (by omega) (by omega) (fun c_103 => absurd c_103 (by omega)) (fun c_103 => ?_)
          refine mx_al0 d_Mo_rather_106 ?_
          refine mx_getR d_Mo_rather_107 fl_Mo_35 (by assumption) (by assumption) ?_
          refine mx_il3 d_Mo_rather_110 ?_
          refine mx_ic_m1 d_Mo_rather_111 ?_
          refine mx_iast d_Mo_rather_112 (by assumption) (nI_inb (by omega) (by omega)) ?_
          rw [nI_clamp (by omega)]
          refine mx_iN3 d_Mo_rather_113 ?_
          refine mx_goto 100 d_Mo_rather_116 (by decide) ?_
          exact ih (mx_up K (mo + 8) (g) ((-1))) (ra_fl hinv)
        · skip
          obtain ⟨K, hz9⟩ : ∃ q, q = z9 := ⟨_, rfl⟩
          subst hz9
          try dsimp only at hinv ⊢
          refine mx_il3 d_Mo_rather_100 ?_
          refine mx_bip 8 d_Mo_rather_101 (by decide) ?_
          refine mx_icN_ge 119 d_Mo_rather_103 (by decide) (by omega) (by omega) (fun c_103 => ?_) (fun c_103 => absurd c_103 (by omega))
          refine mx_in_0 d_Mo_rather_119 ?_
          refine mx_is3 d_Mo_rather_120 ?_
          refine mx_loopX (α := (mx_I)) (N := n) (a0 := K) (fun h z9 => ra_inv (mx_up (mx_up I (mo) 8 (nI (0))) (mo) 0 (nI (0))) z9 mo m T H G h) (ls := fun h z9 => [some (.ref (mo)), some (.int (nI (n))), some (.int (bI (vs_hgd T n G H n))), some (.int (nI (h)))]) (X := fun h z9 => (t, S, z9, P, J)) (ra_inv0 hinv.1 hinv.2) (fun h hh z9 hinv ih => ?_) (fun z9 hinv => ?_)
          · skip
            obtain ⟨K, hz9⟩ : ∃ q, q = z9 := ⟨_, rfl⟩
            subst hz9
            try dsimp only at hinv ih ⊢
            have hoff := hinv.1
            have hm : K (mo + 1) = m := by rw [hoff _ (by omega)]; exact vs_hm (vs_hm hm)
            refine mx_il3 d_Mo_rather_121 ?_
            refine mx_il1 d_Mo_rather_122 ?_
            refine mx_icN_ge 216 d_Mo_rather_123 (by decide) (by omega) (by omega) (fun c_123 => absurd c_123 (by omega)) (fun c_123 => ?_)
            refine mx_al0 d_Mo_rather_126 ?_
            refine mx_getR d_Mo_rather_127 fl_Mo_32 (by assumption) (by assumption) ?_
            refine mx_il3 d_Mo_rather_130 ?_
            refine mx_al0 d_Mo_rather_131 ?_
            refine mx_getR d_Mo_rather_132 fl_Mo_22 (by assumption) (by assumption) ?_
            refine mx_il3 d_Mo_rather_135 ?_
            refine mx_iald d_Mo_rather_136 (by assumption) (nI_inb (by omega) (by omega)) ?_
            refine mx_ti (y := K (mo + 5) (h)) (by rw [nI_clamp (by omega)]) ?_
            have hTh := hTG h (by omega)
            refine mx_ti (y := nI (T h)) ((congrFun (hoff (mo + 5) (by omega)) h).trans (hT8 h (by omega)).2) ?_
            refine mx_sip 255 d_Mo_rather_137 (by decide) ?_
            refine mx_icN_ne 147 d_Mo_rather_140 (by decide) (by omega) (by omega) (fun c_140 => ?_) (fun c_140 => ?_)
            · skip
              refine mx_al0 d_Mo_rather_147 ?_
              refine mx_getR d_Mo_rather_148 fl_Mo_22 (by assumption) (by assumption) ?_
              refine mx_il3 d_Mo_rather_151 ?_
              refine mx_iald d_Mo_rather_152 (by assumption) (nI_inb (by omega) (by omega)) ?_
              refine mx_ti (y := K (mo + 5) (h)) (by rw [nI_clamp (by omega)]) ?_
              refine mx_ti (y := nI (T h)) ((congrFun (hoff (mo + 5) (by omega)) h).trans (hT8 h (by omega)).2) ?_
              refine mx_iast d_Mo_rather_153 (by assumption) (nI_inb (by omega) (by omega)) ?_
              rw [nI_clamp (by omega)]
              refine mx_al0 d_Mo_rather_154 ?_
              refine mx_getR d_Mo_rather_155 fl_Mo_32 (by assumption) (by assumption) ?_
              refine mx_il3 d_Mo_rather_158 ?_
              refine mx_iald d_Mo_rather_159 (by assumption) (nI_inb (by omega) (by omega)) ?_
              refine mx_ti (y := (mx_up K (mo + 7) (h) (nI (T h))) (mo + 7) (h)) (by rw [nI_clamp (by omega)]) ?_
              refine mx_ti (y := nI (T h)) (vs_upx) ?_
              refine mx_ic_m1 d_Mo_rather_160 ?_
              refine mx_icmp_ne 167 d_Mo_rather_161 (by decide) (fun c_161 => ?_) (fun c_161 => absurd c_161 (nI_m1 (by omega)))
              refine mx_al0 d_Mo_rather_167 ?_
              refine mx_getR d_Mo_rather_168 fl_Mo_35 (by assumption) (by assumption) ?_
              refine mx_al0 d_Mo_rather_171 ?_
              refine mx_getR d_Mo_rather_172 fl_Mo_22 (by assumption) (by assumption) ?_
              refine mx_il3 d_Mo_rather_175 ?_
              refine mx_iald d_Mo_rather_176 (by assumption) (nI_inb (by omega) (by omega)) ?_
              refine mx_ti (y := (mx_up K (mo + 7) (h) (nI (T h))) (mo + 5) (h)) (by rw [nI_clamp (by omega)]) ?_
              refine mx_ti (y := nI (T h)) ((congrFun ((mx_up_ne (by omega)).trans (hoff (mo + 5) (by omega))) h).trans (hT8 h (by omega)).2) ?_
              refine mx_iald d_Mo_rather_177 (by assumption) (nI_inb (by omega) (by omega)) ?_
              refine mx_ti (y := (mx_up K (mo + 7) (h) (nI (T h))) (mo + 8) (T h)) (by rw [nI_clamp (by omega)]) ?_
              refine mx_ti (y := (mtv (vs_ho T h (T h)))) ((congrFun (mx_up_ne (by omega)) _).trans (hinv.2.1 (T h) (by omega))) ?_
              refine mx_ic_m1 d_Mo_rather_178 ?_
              refine mx_icmp_ne 196 d_Mo_rather_179 (by decide) (fun c_179 => ?_) (fun c_179 => ?_)
              · skip
                refine mx_ic_m1 d_Mo_rather_196 ?_
                exact mx_iret d_Mo_rather_197 rfl (mx_sR_i (by first | (have z9 := ra_bad1 (m := m) (G := G) (T := T) (H := H) (h := h) (by omega) (by omega) hH8 c_179; simp [sp_rather, hear, z9]; done) | (have z9 := ra_bad2 (G := G) (T := T) (H := H) (h := h) hr (by omega) (by omega) hH8 c_193; simp [sp_rather, hear, z9])) (by rw [show (sp_rather m T n H G).1 = 0 from by simp [sp_rather, hear]]; exact fun c hc => (mx_up_ne (fun e => hc (Or.inl e))).trans (hoff c hc)))
              · skip
                refine mx_al0 d_Mo_rather_182 ?_
                refine mx_il3 d_Mo_rather_183 ?_
                refine mx_al0 d_Mo_rather_184 ?_
                refine mx_getR d_Mo_rather_185 fl_Mo_22 (by assumption) (by assumption) ?_
                refine mx_il3 d_Mo_rather_188 ?_
                refine mx_iald d_Mo_rather_189 (by assumption) (nI_inb (by omega) (by omega)) ?_
                refine mx_ti (y := (mx_up K (mo + 7) (h) (nI (T h))) (mo + 5) (h)) (by rw [nI_clamp (by omega)]) ?_
                refine mx_ti (y := nI (T h)) ((congrFun ((mx_up_ne (by omega)).trans (hoff (mo + 5) (by omega))) h).trans (hT8 h (by omega)).2) ?_
                refine mx_cV2i d_Mo_rather_190 (cm_mayMeet hM (vs_hm hm) (h := h) (g := T h) (by omega) (by omega)) ok_Mo_mayMeet ml_Mo_78 (by assumption) ⟨rfl, rfl⟩ (by decide) (Nat.le_of_ble_eq_true rfl) ?_
                refine mx_ifB_ne 198 d_Mo_rather_193 (by decide) (fun c_193 => ?_) (fun c_193 => ?_)
                · skip
                  refine mx_al0 d_Mo_rather_198 ?_
                  refine mx_getR d_Mo_rather_199 fl_Mo_35 (by assumption) (by assumption) ?_
                  refine mx_al0 d_Mo_rather_202 ?_
                  refine mx_getR d_Mo_rather_203 fl_Mo_22 (by assumption) (by assumption) ?_
                  refine mx_il3 d_Mo_rather_206 ?_
                  refine mx_iald d_Mo_rather_207 (by assumption) (nI_inb (by omega) (by omega)) ?_
                  refine mx_ti (y := (mx_up K (mo + 7) (h) (nI (T h))) (mo + 5) (h)) (by rw [nI_clamp (by omega)]) ?_
                  refine mx_ti (y := nI (T h)) ((congrFun ((mx_up_ne (by omega)).trans (hoff (mo + 5) (by omega))) h).trans (hT8 h (by omega)).2) ?_
                  refine mx_il3 d_Mo_rather_208 ?_
                  refine mx_iast d_Mo_rather_209 (by assumption) (nI_inb (by omega) (by omega)) ?_
                  rw [nI_clamp (by omega)]
                  refine mx_iN3 d_Mo_rather_210 ?_
                  refine mx_goto 121 d_Mo_rather_213 (by decide) ?_
                  exact ih (mx_up (mx_up K (mo + 7) (h) (nI (T h))) (mo + 8) (T h) (nI (h))) (ra_step1 hr hG8 (by omega) hH8 hinv (by omega) c_179 c_193)
                · skip
                  refine mx_ic_m1 d_Mo_rather_196 ?_
                  exact mx_iret d_Mo_rather_197 rfl (mx_sR_i (by first | (have z9 := ra_bad1 (m := m) (G := G) (T := T) (H := H) (h := h) (by omega) (by omega) hH8 c_179; simp [sp_rather, hear, z9]; done) | (have z9 := ra_bad2 (G := G) (T := T) (H := H) (h := h) hr (by omega) (by omega) hH8 c_193; simp [sp_rather, hear, z9])) (by rw [show (sp_rather m T n H G).1 = 0 from by simp [sp_rather, hear]]; exact fun c hc => (mx_up_ne (fun e => hc (Or.inl e))).trans (hoff c hc)))
            · skip
              refine mx_ic_m1 d_Mo_rather_143 ?_
              refine mx_goto 153 d_Mo_rather_144 (by decide) ?_
              refine mx_ti (y := (-1)) (rfl) ?_
              refine mx_iast d_Mo_rather_153 (by assumption) (nI_inb (by omega) (by omega)) ?_
              rw [nI_clamp (by omega)]
              refine mx_al0 d_Mo_rather_154 ?_
              refine mx_getR d_Mo_rather_155 fl_Mo_32 (by assumption) (by assumption) ?_
              refine mx_il3 d_Mo_rather_158 ?_
              refine mx_iald d_Mo_rather_159 (by assumption) (nI_inb (by omega) (by omega)) ?_
              refine mx_ti (y := (mx_up K (mo + 7) (h) ((-1))) (mo + 7) (h)) (by rw [nI_clamp (by omega)]) ?_
              refine mx_ti (y := (-1)) (vs_upx) ?_
              refine mx_ic_m1 d_Mo_rather_160 ?_
              refine mx_icmp_ne 167 d_Mo_rather_161 (by decide) (fun c_161 => absurd c_161 (fun z => z rfl)) (fun c_161 => ?_)
              refine mx_goto 210 d_Mo_rather_164 (by decide) ?_
              refine mx_iN3 d_Mo_rather_210 ?_
              refine mx_goto 121 d_Mo_rather_213 (by decide) ?_
              exact ih (mx_up K (mo + 7) (h) ((-1))) (ra_step0 hinv (by omega))
          · skip
            obtain ⟨K, hz9⟩ : ∃ q, q = z9 := ⟨_, rfl⟩
            subst hz9
            try dsimp only at hinv ⊢
            have hoff := hinv.1
            have hm : K (mo + 1) = m := by rw [hoff _ (by omega)]; exact vs_hm (vs_hm hm)
            refine mx_il3 d_Mo_rather_121 ?_
            refine mx_il1 d_Mo_rather_122 ?_
            refine mx_icN_ge 216 d_Mo_rather_123 (by decide) (by omega) (by omega) (fun c_123 => ?_) (fun c_123 => absurd c_123 (by omega))
            refine mx_al0 d_Mo_rather_216 ?_
            refine mx_cV0i d_Mo_rather_217 (c_Mo_rathers hM hm hH hH8 hG hG8 hr (fun a ha => hinv.2.2.1 a (by omega)) hinv.2.1) ok_Mo_rathers ml_Mo_375 (by assumption) ⟨rfl, rfl⟩ (by decide) (Nat.le_of_ble_eq_true rfl) ?_
            exact mx_iret d_Mo_rather_220 rfl (mx_sR_i (by subst hnH; have z9 := vs_mbA_t hinv.2.2.2; have z8 := vs_mb_use hr hH8 hG8 z9; rw [vs_ra_rv hr hH8 hG8 z8.1 z8.2]; simp [sp_rather, hear, z9]) (by rw [show (sp_rather m T n H G).1 = 0 from by simp [sp_rather, hear]]; exact hoff))
end X32
