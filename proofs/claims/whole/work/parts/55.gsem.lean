/-! WHAT THE LAW'S CODE COMES TO -/
def gr_run (fc : Nat → Int32) (c : List Int32) (z : (Nat → Int32) × Nat) : (Nat → Int32) × Nat := c.foldl (fun z w => lw_step w fc z) z
def gr_fit (fc : Nat → Int32) : List Int32 → (Nat → Int32) × Nat → Prop
  | [], _ => True
  | w :: c, z => lw_fit w z.2 ∧ gr_fit fc c (lw_step w fc z)
/-- the value of a code -/
def gr_v (fc : Nat → Int32) (c : List Int32) : Int32 := (gr_run fc c (fun _ => 0, 0)).1 0
/-- a code that pushes one value, with room for n -/
def gr_pu (fc : Nat → Int32) (n : Nat) (c : List Int32) : Prop := ∀ f d, d + n ≤ 64 → gr_fit fc c (f, d) ∧ ∃ f', gr_run fc c (f, d) = (f', d + 1) ∧ (∀ j, j < d → f' j = f j) ∧ f' d = gr_v fc c
section S_gsem
variable {fc : Nat → Int32} {a b c : List Int32} {m n : Nat} {w : Int32}
theorem gr_run_app (z : (Nat → Int32) × Nat) : gr_run fc (a ++ b) z = gr_run fc b (gr_run fc a z) := List.foldl_append
theorem gr_fit_app : ∀ (a : List Int32) (z : (Nat → Int32) × Nat), gr_fit fc (a ++ b) z ↔ gr_fit fc a z ∧ gr_fit fc b (gr_run fc a z)
  | [], z => by show gr_fit fc b z ↔ True ∧ gr_fit fc b z; simp
  | w :: a, z => by
    show lw_fit w z.2 ∧ gr_fit fc (a ++ b) (lw_step w fc z) ↔ (lw_fit w z.2 ∧ gr_fit fc a (lw_step w fc z)) ∧ gr_fit fc b (gr_run fc a (lw_step w fc z))
    rw [gr_fit_app a, and_assoc]
theorem gr_pu_of (h : ∀ f d, d + n ≤ 64 → gr_fit fc c (f, d) ∧ ∃ f', gr_run fc c (f, d) = (f', d + 1) ∧ (∀ j, j < d → f' j = f j) ∧ f' d = w) (hn : n ≤ 64) : gr_pu fc n c ∧ gr_v fc c = w := by
  have e : gr_v fc c = w := by
    obtain ⟨-, f', h1, -, h3⟩ := h (fun _ => 0) 0 (by omega)
    unfold gr_v
    rw [h1]; exact h3
  exact ⟨fun f d hd => by rw [e]; exact h f d hd, e⟩
theorem gr_pu.le (h : gr_pu fc m c) (hn : m ≤ n) : gr_pu fc n c := fun f d hd => h f d (by omega)
theorem gr_psh (h35 : ¬ w = -35) (hp : lw_psh w) : gr_pu fc 1 [w] ∧ gr_v fc [w] = lw_val w fc := by
  refine gr_pu_of (fun f d hd => ⟨⟨⟨fun e => absurd e h35, fun _ _ => by show d < 64; omega, fun _ e => absurd hp e, by show d ≤ 64; omega⟩, trivial⟩, updI f d (lw_val w fc), ?_, fun j hj => if_neg (by omega), if_pos rfl⟩) (by omega)
  show lw_step w fc (f, d) = _
  unfold lw_step
  rw [if_neg h35, if_pos hp]
theorem gr_bin (h35 : ¬ w = -35) (hp : ¬ lw_psh w) (ha : gr_pu fc m a) (hb : gr_pu fc n b) (hm : m ≤ 64) (hn : n ≤ 63) (hmn : m ≤ n + 1) (h1n : 1 ≤ n) : gr_pu fc (n + 1) (a ++ (b ++ [w])) ∧ gr_v fc (a ++ (b ++ [w])) = lw_join (-w) (gr_v fc a) (gr_v fc b) := by
  refine gr_pu_of (fun f d hd => ?_) (by omega)
  obtain ⟨a1, f1, a2, a3, a4⟩ := ha f d (by omega)
  obtain ⟨b1, f2, b2, b3, b4⟩ := hb f1 (d + 1) (by omega)
  have e : gr_run fc (a ++ (b ++ [w])) (f, d) = (updI f2 d (lw_join (-w) (f2 d) (f2 (d + 1))), d + 1) := by
    rw [gr_run_app, a2, gr_run_app, b2]
    show lw_step w fc (f2, d + 1 + 1) = _
    unfold lw_step
    rw [if_neg h35, if_neg hp]; rfl
  refine ⟨(gr_fit_app a _).mpr ⟨a1, ?_⟩, _, e, fun j hj => ?_, ?_⟩
  · rw [a2]
    refine (gr_fit_app b _).mpr ⟨b1, ?_⟩
    rw [b2]
    exact ⟨⟨fun e => absurd e h35, fun _ e => absurd e hp, fun _ _ => by show 2 ≤ d + 1 + 1; omega, by show d + 1 + 1 ≤ 64; omega⟩, trivial⟩
  · show updI f2 d _ j = f j
    unfold updI
    rw [if_neg (by omega), b3 j (by omega), a3 j hj]
  · show updI f2 d _ d = _
    unfold updI
    rw [if_pos rfl, b3 d (by omega), a4, b4]
theorem gr_not (ha : gr_pu fc n a) (hn : n ≤ 64) (h1 : 1 ≤ n) : gr_pu fc n (a ++ [-nI 35]) ∧ gr_v fc (a ++ [-nI 35]) = nI 1 - gr_v fc a := by
  have hw : -nI 35 = (-35 : Int32) := by decide
  refine gr_pu_of (fun f d hd => ?_) hn
  obtain ⟨a1, f1, a2, a3, a4⟩ := ha f d (by omega)
  have e : gr_run fc (a ++ [-nI 35]) (f, d) = (updI f1 d (nI 1 - f1 d), d + 1) := by
    rw [gr_run_app, a2]
    show lw_step (-nI 35) fc (f1, d + 1) = _
    unfold lw_step
    rw [if_pos hw]; rfl
  refine ⟨(gr_fit_app a _).mpr ⟨a1, ?_⟩, _, e, fun j hj => ?_, ?_⟩
  · rw [a2]
    exact ⟨⟨fun _ => by show 1 ≤ d + 1; omega, fun e => absurd hw e, fun e => absurd hw e, by show d + 1 ≤ 64; omega⟩, trivial⟩
  · show updI f1 d _ j = f j
    unfold updI
    rw [if_neg (by omega), a3 j hj]
  · show updI f1 d _ d = _
    unfold updI
    rw [if_pos rfl, a4]
/-- a reader whose codes push one value each -/
def gr_go (fc : Nat → Int32) (n : Nat) (A : Nat → gq_R) : Prop := ∀ t q, A t = .inr q → gr_pu fc n q.1
variable {K : Nat → Nat} {V : Nat → Option Nat} {T : Nat} {A : Nat → gq_R} {sep : Nat}
theorem gr_lp (hA : gr_go fc n A) (h1n : 1 ≤ n) (hn : n ≤ 63) (h35 : ¬ (-nI sep) = -35) (hp : ¬ lw_psh (-nI sep)) : ∀ k fi c t q, (fi = true → c = []) → (fi = false → gr_pu fc (n + 1) c) → gq_lp K A sep k fi c t = .inr q → gr_pu fc (n + 1) q.1
  | 0, _, _, _, _, _, _, h => by cases h
  | k + 1, fi, c, t, q, hc1, hc2, h => by
    rw [gq_lp_s] at h
    cases h1 : A t with
    | inl e => rw [h1] at h; cases h
    | inr r =>
      rw [h1] at h
      have hr := hA t r h1
      have hcr : gr_pu fc (n + 1) (c ++ (r.1 ++ if fi = true then [] else [-nI sep])) := by
        cases fi with
        | true => rw [hc1 rfl]; simp; exact hr.le (by omega)
        | false => exact (gr_bin h35 hp (hc2 rfl) hr (by omega) hn (by omega) h1n).1
      simp only at h
      split at h
      · exact gr_lp hA h1n hn h35 hp k false _ _ _ (fun e => by cases e) (fun _ => hcr) h
      · cases h; exact hcr
theorem gr_part (hV : ∀ t v, V t = some v → v < 1000) : gr_go fc 1 (gq_part K V) := by
  intro t q h
  unfold gq_part at h
  split at h
  · rename_i hk
    cases h
    have := (by decide : ∀ k : Nat, k < 17 → 10 ≤ k → ¬ (-nI k) = (-35 : Int32) ∧ lw_psh (-nI k)) (K t) (by omega) hk.1
    exact (gr_psh this.1 this.2).1
  · split at h
    · split at h
      · rename_i v hv
        cases h
        have hv := hV t v hv
        have hp : (0 : Int32) ≤ nI v := by
          rw [Int32.le_iff_toInt_le, nI_toInt (by omega)]; show (0 : Int) ≤ v; omega
        refine (gr_psh (fun e => ?_) (Or.inl hp)).1
        rw [e] at hp
        exact absurd hp (by decide)
      · cases h
    · cases h
theorem gr_sum (hV : ∀ t v, V t = some v → v < 1000) : gr_go fc 2 (gq_sum K V) := fun t q h => gr_lp (gr_part hV) (by omega) (by omega) (by decide) (by decide) 400 true [] t q (fun _ => rfl) (fun e => by cases e) h
theorem gr_pln (hV : ∀ t v, V t = some v → v < 1000) : gr_go fc 3 (gq_pln K V) := by
  intro t q h
  unfold gq_pln at h
  split at h
  · rename_i hk
    cases h
    rcases hk with e | e <;> rw [e] <;> exact (gr_psh (by decide) (by decide)).1.le (by omega)
  · cases h1 : gq_sum K V t with
    | inl e => rw [h1] at h; cases h
    | inr r =>
      rw [h1] at h
      simp only at h
      split at h
      · rename_i hk
        cases h2 : gq_sum K V (r.2 + 1) with
        | inl e => rw [h2] at h; cases h
        | inr r2 =>
          rw [h2] at h
          cases h
          have u := gr_sum (fc := fc) hV _ _ h1
          have v := gr_sum (fc := fc) hV _ _ h2
          rw [List.append_assoc]
          rcases hk with e | e <;> rw [e] <;> exact (gr_bin (by decide) (by decide) u v (by omega) (by omega) (by omega) (by omega)).1
      · cases h
theorem gr_evy (hA : gr_go fc n A) (h1 : 1 ≤ n) (hn : n ≤ 63) : gr_go fc (n + 1) (gq_evy K A) := fun t q h => gr_lp hA h1 hn (by decide) (by decide) 400 true [] t q (fun _ => rfl) (fun e => by cases e) h
theorem gr_som (hA : gr_go fc n A) (h1 : 1 ≤ n) (hn : n ≤ 62) : gr_go fc (n + 2) (gq_som K A) := fun t q h => gr_lp (gr_evy hA h1 (by omega)) (by omega) (by omega) (by decide) (by decide) 400 true [] t q (fun _ => rfl) (fun e => by cases e) h
theorem gr_atm (hV : ∀ t v, V t = some v → v < 1000) : ∀ e, e ≤ 6 → gr_go fc (3 + 2 * e) (gq_atm K V e)
  | 0, _ => by
    intro t q h
    unfold gq_atm at h
    split at h
    · cases h
    · exact gr_pln hV t q h
  | e + 1, he => by
    have ih := gr_atm hV e (by omega)
    intro t q h
    unfold gq_atm at h
    split at h
    · cases h1 : gq_atm K V e (t + 1) with
      | inl b => rw [h1] at h; cases h
      | inr r =>
        rw [h1] at h
        cases h
        exact (gr_not ((ih _ _ h1).le (n := 3 + 2 * (e + 1)) (by omega)) (by omega) (by omega)).1
    · split at h
      · cases h1 : gq_som K (gq_atm K V e) (t + 1) with
        | inl b => rw [h1] at h; cases h
        | inr r =>
          rw [h1] at h
          simp only at h
          split at h
          · have hs := gr_som ih (by omega) (by omega) _ _ h1
            cases h; exact hs
          · cases h
      · exact (gr_pln hV t q h).le (by omega)
end S_gsem
