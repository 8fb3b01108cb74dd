/-! THE REFERENCE'S WAYS: one number tells who is with whom -/
def wy_fc : Nat → Nat
  | 0 => 1
  | n + 1 => wy_fc n * (n + 1)
theorem wy_fc_pos : ∀ n, 0 < wy_fc n
  | 0 => Nat.one_pos
  | n + 1 => Nat.mul_pos (wy_fc_pos n) (by omega)
/-- the i-th of those below 8 -/
def wy_kt (p : Nat → Bool) (i : Nat) : Nat := vf 8 (fun j s => if (p j && decide (fb_ct p j = i)) = true then j else s) 8
theorem wy_kt_eq {p : Nat → Bool} {i g : Nat} (hg : g < 8) (h1 : p g = true) (h2 : fb_ct p g = i) : wy_kt p i = g := by
  have key : ∀ n, g < n → vf n (fun j s => if (p j && decide (fb_ct p j = i)) = true then j else s) 8 = g := fun n => by
    induction n with
    | zero => exact fun h => absurd h (by omega)
    | succ n ih =>
      intro h
      rw [vf_s]
      by_cases q : (p n && decide (fb_ct p n = i)) = true
      · rw [if_pos q]
        rw [Bool.and_eq_true, decide_eq_true_iff] at q
        exact fb_ct_kth_one q.1 h1 (by omega)
      · rw [if_neg q]
        have : g ≠ n := fun e => q (by rw [← e, h1, decide_eq_true h2]; rfl)
        exact ih (by omega)
  exact key 8 hg
theorem wy_kt_is {p : Nat → Bool} {i : Nat} (h : i < fb_ct p 8) : wy_kt p i < 8 ∧ p (wy_kt p i) = true ∧ fb_ct p (wy_kt p i) = i := by
  obtain ⟨g, hg, h1, h2⟩ := fb_ct_kth h
  rw [wy_kt_eq hg h1 h2]; exact ⟨hg, h1, h2⟩
theorem fb_ct_sm (p : Nat → Bool) (n : Nat) : fb_ct p n = fb_sm (fun k => if p k = true then 1 else 0) n := by
  induction n with
  | zero => rfl
  | succ n ih => rw [fb_ct_succ, fb_sm_succ, ih]
theorem wy_kt_sm (p : Nat → Bool) (F : Nat → Nat) : ∀ n, n ≤ 8 → fb_sm (fun i => F (wy_kt p i)) (fb_ct p n) = fb_sm (fun g => if p g = true then F g else 0) n
  | 0, _ => rfl
  | n + 1, hn => by
    have ih := wy_kt_sm p F n (by omega)
    rw [fb_ct_succ, fb_sm_succ, ← ih]
    by_cases q : p n = true
    · rw [if_pos q, if_pos q, fb_sm_succ, wy_kt_eq (by omega) q rfl]
    · rw [if_neg q, if_neg q]; rfl
theorem fb_ct_prod (f : Nat → Nat → Bool) {r : Nat} (hr : 0 < r) : ∀ n, fb_ct (fun k => f (k % r) (k / r)) (n * r) = fb_sm (fun i => fb_ct (f i) n) r
  | 0 => by
    rw [Nat.zero_mul]
    exact (fb_sm_0 (fun k _ => rfl)).symm
  | n + 1 => by
    rw [Nat.succ_mul, fb_ct_split, fb_ct_prod f hr n]
    have e : fb_ct (fun k => (fun k => f (k % r) (k / r)) (n * r + k)) r = fb_sm (fun i => if f i n = true then 1 else 0) r := by
      rw [fb_ct_sm]
      refine fb_sm_cong (fun i hi => ?_)
      have q1 : (n * r + i) % r = i := by rw [Nat.mul_comm, Nat.mul_add_mod, Nat.mod_eq_of_lt hi]
      have q2 : (n * r + i) / r = n := by rw [Nat.mul_comm, Nat.mul_add_div hr, Nat.div_eq_of_lt hi, Nat.add_zero]
      simp only [q1, q2]
    rw [e, ← fb_sm_add]
    exact fb_sm_cong (fun i _ => by rw [fb_ct_succ])
def wy_iw (W L : Nat → Nat → Nat) (my : Nat → Nat → Bool) (G H : Nat) (B : Nat → Nat) : Nat → (Nat → Nat) → Nat → Nat → Bool
  | 0, M, _, _ => decide (gd_p W L G H M)
  | n + 1, M, lf, k => if B (H - (n + 1)) < 8 then my (H - (n + 1)) (wy_kt lf.testBit (k % vs_pc lf)) && wy_iw W L my G H B n (updN M (H - (n + 1)) (wy_kt lf.testBit (k % vs_pc lf))) (lf - 2 ^ wy_kt lf.testBit (k % vs_pc lf)) (k / vs_pc lf) else wy_iw W L my G H B n (updN M (H - (n + 1)) 8) lf k
/-- those who are left: all of the pairs' guests that no host ahead has -/
def wy_lf (H : Nat) (B N0 M : Nat → Nat) (h lf : Nat) : Prop := lf < 256 ∧ (∀ g, g < 8 → (lf.testBit g = true ↔ N0 g < 8 ∧ ∀ j, j < h → M j ≠ g)) ∧ vs_pc lf + fb_ct (fun j => decide (B j < 8)) h = fb_ct (fun j => decide (B j < 8)) H ∧ ∀ g, 8 ≤ g → lf.testBit g = false
theorem pc_tb : ∀ S, S < 256 → vs_pc S = fb_ct S.testBit 8 := by decide +kernel
theorem tb_hi {S : Nat} (h : S < 256) : ∀ g, 8 ≤ g → S.testBit g = false := fun g hg => Nat.testBit_lt_two_pow (Nat.lt_of_lt_of_le h (Nat.pow_le_pow_right (by omega) hg : 2 ^ 8 ≤ 2 ^ g))
theorem bclr_tbn : ∀ S, S < 256 → ∀ b, b < 8 → S.testBit b = true → ∀ i, i < 8 → (S - 2 ^ b).testBit i = (S.testBit i && decide (¬ i = b)) := by decide +kernel
theorem wy_lf_8 {H h lf : Nat} {B N0 M : Nat → Nat} (a : wy_lf H B N0 M h lf) (hB : ¬ B h < 8) : wy_lf H B N0 (updN M h 8) (h + 1) lf := by
  obtain ⟨a1, a2, a3, a4⟩ := a
  refine ⟨a1, fun g hg => ?_, by rw [fb_ct_succ, decide_eq_false hB]; simpa using a3, a4⟩
  rw [a2 g hg]
  refine ⟨fun ⟨z1, z2⟩ => ⟨z1, fun j hj => ?_⟩, fun ⟨z1, z2⟩ => ⟨z1, fun j hj => ?_⟩⟩
  · by_cases q : j = h
    · subst q; rw [updN_e]; omega
    · rw [updN_n q]; exact z2 j (by omega)
  · have := z2 j (by omega)
    rw [updN_n (by omega)] at this; exact this
theorem wy_lf_g {H h lf g : Nat} {B N0 M : Nat → Nat} (a : wy_lf H B N0 M h lf) (hB : B h < 8) (hg : g < 8) (hl : lf.testBit g = true) : wy_lf H B N0 (updN M h g) (h + 1) (lf - 2 ^ g) := by
  obtain ⟨a1, a2, a3, a4⟩ := a
  have p := pc_clr lf a1 g hg hl
  have l2 : lf - 2 ^ g < 256 := Nat.lt_of_le_of_lt (Nat.sub_le _ _) a1
  refine ⟨l2, fun b hb => ?_, by rw [fb_ct_succ, decide_eq_true hB]; simp; omega, tb_hi l2⟩
  rw [bclr_tbn lf a1 g hg hl b hb, Bool.and_eq_true, decide_eq_true_iff, a2 b hb]
  refine ⟨fun ⟨⟨z1, z2⟩, z3⟩ => ⟨z1, fun j hj => ?_⟩, fun ⟨z1, z2⟩ => ⟨⟨z1, fun j hj => ?_⟩, ?_⟩⟩
  · by_cases q : j = h
    · subst q; rw [updN_e]; exact fun e => z3 e.symm
    · rw [updN_n q]; exact z2 j (by omega)
  · have := z2 j (by omega)
    rw [updN_n (by omega)] at this; exact this
  · have := z2 h (by omega)
    rw [updN_e] at this; exact fun e => this e.symm
theorem wy_lf_pos {H h lf : Nat} {B N0 M : Nat → Nat} (a : wy_lf H B N0 M h lf) (hh : h < H) (hB : B h < 8) : 0 < vs_pc lf := by
  have e := fb_ct_mono (fun j => decide (B j < 8)) (m := h + 1) (n := H) (by omega)
  rw [fb_ct_succ, decide_eq_true hB] at e
  have := a.2.2.1
  simp at e
  omega
/-- as many numbers tell a way as there are ways -/
theorem wy_iw_ct {W L : Nat → Nat → Nat} {my : Nat → Nat → Bool} {G H : Nat} {B Wt N0 : Nat → Nat} (he : wy_env W L H G B Wt N0) (hmy : ∀ h g, h < H → g < 8 → my h g = false → W h g = 0) : ∀ n, n ≤ H → ∀ M lf, wy_lf H B N0 M (H - n) lf → fb_ct (fun k => wy_iw W L my G H B n M lf k) (wy_fc (vs_pc lf)) = wy_T W L G H (fun h => decide (B h < 8)) n M
  | 0, _, M, lf, a => by
    have e := a.2.2.1
    rw [Nat.sub_zero] at e
    rw [show vs_pc lf = 0 by omega]
    show fb_ct (fun k => decide (gd_p W L G H M)) 1 = if gd_p W L G H M then 1 else 0
    rw [fb_ct_succ]
    by_cases q : gd_p W L G H M
    · rw [if_pos q, decide_eq_true q]; rfl
    · rw [if_neg q, decide_eq_false q]; rfl
  | n + 1, hn, M, lf, a => by
    have eh : H - (n + 1) + 1 = H - n := by omega
    by_cases hB : B (H - (n + 1)) < 8
    · have hpos := wy_lf_pos a (by omega) hB
      obtain ⟨r, er⟩ : ∃ r, vs_pc lf = r + 1 := ⟨vs_pc lf - 1, by omega⟩
      have epc := pc_tb lf a.1
      obtain ⟨F, hF⟩ : ∃ F : Nat → Nat → Bool, F = fun i k' => my (H - (n + 1)) (wy_kt lf.testBit i) && wy_iw W L my G H B n (updN M (H - (n + 1)) (wy_kt lf.testBit i)) (lf - 2 ^ wy_kt lf.testBit i) k' := ⟨_, rfl⟩
      have e1 : fb_ct (fun k => wy_iw W L my G H B (n + 1) M lf k) (wy_fc (vs_pc lf)) = fb_ct (fun k => F (k % (r + 1)) (k / (r + 1))) (wy_fc r * (r + 1)) := by
        rw [er, hF]
        refine fb_ct_cong (fun k _ => ?_)
        show (if B (H - (n + 1)) < 8 then _ else _) = _
        rw [if_pos hB, er]
      rw [e1, fb_ct_prod F (by omega)]
      have e2 : wy_T W L G H (fun h => decide (B h < 8)) (n + 1) M = fb_sm (fun g => wy_T W L G H (fun h => decide (B h < 8)) n (updN M (H - (n + 1)) g)) 8 := by
        show (if decide (B (H - (n + 1)) < 8) = true then _ else _) = _
        rw [if_pos (decide_eq_true hB)]
      rw [e2]
      have e3 : fb_sm (fun g => wy_T W L G H (fun h => decide (B h < 8)) n (updN M (H - (n + 1)) g)) 8 = fb_sm (fun g => if lf.testBit g = true then wy_T W L G H (fun h => decide (B h < 8)) n (updN M (H - (n + 1)) g) else 0) 8 := fb_sm_cong (fun g hg => by
        by_cases q : lf.testBit g = true
        · rw [if_pos q]
        · rw [if_neg q]
          refine wy_none n (by omega) _ (fun M' e hd => ?_)
          have em : M' (H - (n + 1)) = g := by rw [e _ (by omega), updN_e]
          obtain ⟨r1, r2⟩ := gd_rng he hd (a := H - (n + 1)) (by omega)
          have r3 := (r2 (by omega)).2.2
          rw [em] at r3
          refine q ((a.2.1 g hg).mpr ⟨r3, fun j hj ej => ?_⟩)
          have ej2 : M' j = g := by rw [e j (by omega), updN_n (by omega)]; exact ej
          have := hd.2.1 j (by omega) (H - (n + 1)) (by omega) (by omega) (by rw [ej2, em])
          omega)
      rw [e3, ← wy_kt_sm lf.testBit (fun g => wy_T W L G H (fun h => decide (B h < 8)) n (updN M (H - (n + 1)) g)) 8 (by omega), ← epc, er]
      refine fb_sm_cong (fun i hi => ?_)
      obtain ⟨g8, gl, -⟩ := wy_kt_is (p := lf.testBit) (i := i) (by omega)
      have al := wy_lf_g a hB g8 gl
      rw [eh] at al
      have pl := pc_clr lf a.1 _ g8 gl
      have ih := wy_iw_ct he hmy n (by omega) _ _ al
      rw [show vs_pc (lf - 2 ^ wy_kt lf.testBit i) = r by omega] at ih
      rw [hF]
      dsimp only
      cases q : my (H - (n + 1)) (wy_kt lf.testBit i)
      · have w0 := hmy _ _ (by omega) g8 q
        rw [show fb_ct (fun k' => false && wy_iw W L my G H B n (updN M (H - (n + 1)) (wy_kt lf.testBit i)) (lf - 2 ^ wy_kt lf.testBit i) k') (wy_fc r) = 0 from fb_ct_zero.mpr (fun _ _ => rfl)]
        refine (wy_none n (by omega) _ (fun M' e hd => ?_)).symm
        have em : M' (H - (n + 1)) = wy_kt lf.testBit i := by rw [e _ (by omega), updN_e]
        have := hd.1 (H - (n + 1)) (by omega) (by omega)
        rw [em] at this
        omega
      · rw [← ih]
        exact fb_ct_cong (fun k _ => by rw [Bool.true_and])
    · have al := wy_lf_8 a hB
      rw [eh] at al
      have ih := wy_iw_ct he hmy n (by omega) _ _ al
      have e2 : wy_T W L G H (fun h => decide (B h < 8)) (n + 1) M = wy_T W L G H (fun h => decide (B h < 8)) n (updN M (H - (n + 1)) 8) := by
        show (if decide (B (H - (n + 1)) < 8) = true then _ else _) = _
        rw [if_neg (fun z => hB (of_decide_eq_true z))]
      rw [e2, ← ih]
      refine fb_ct_cong (fun k _ => ?_)
      show (if B (H - (n + 1)) < 8 then _ else _) = _
      rw [if_neg hB]
