/-! THE LAW'S GRAMMAR over tokens: K tells a token's kind, V its number. An answer: the token that cannot stand, or the code and the token that comes next. -/
abbrev gq_R : Type := Nat ⊕ (List Int32 × Nat)
def gq_part (K : Nat → Nat) (V : Nat → Option Nat) (t : Nat) : gq_R :=
  if 10 ≤ K t ∧ K t ≤ 16 then .inr ([-nI (K t)], t + 1) else if K t = 2 then (match V t with | some v => .inr ([nI v], t + 1) | none => .inl t) else .inl t
/-- A, and behind each sep another A -/
def gq_lp (K : Nat → Nat) (A : Nat → gq_R) (sep : Nat) : Nat → Bool → List Int32 → Nat → gq_R
  | 0, _, _, t => .inl t
  | n + 1, fi, c, t => match A t with
    | .inl e => .inl e
    | .inr q => if K q.2 = sep then gq_lp K A sep n false (c ++ (q.1 ++ if fi = true then [] else [-nI sep])) (q.2 + 1) else .inr (c ++ (q.1 ++ if fi = true then [] else [-nI sep]), q.2)
def gq_sum (K : Nat → Nat) (V : Nat → Option Nat) (t : Nat) : gq_R := gq_lp K (gq_part K V) 8 400 true [] t
def gq_pln (K : Nat → Nat) (V : Nat → Option Nat) (t : Nat) : gq_R :=
  if K t = 17 ∨ K t = 18 then .inr ([-nI (K t)], t + 1) else match gq_sum K V t with
    | .inl e => .inl e
    | .inr q => if K q.2 = 6 ∨ K q.2 = 7 then (match gq_sum K V (q.2 + 1) with
      | .inl e => .inl e
      | .inr r => .inr (q.1 ++ r.1 ++ [-nI (K q.2)], r.2)) else .inl q.2
def gq_evy (K : Nat → Nat) (A : Nat → gq_R) (t : Nat) : gq_R := gq_lp K A 34 400 true [] t
def gq_som (K : Nat → Nat) (A : Nat → gq_R) (t : Nat) : gq_R := gq_lp K (gq_evy K A) 33 400 true [] t
/-- within e more of not and ( -/
def gq_atm (K : Nat → Nat) (V : Nat → Option Nat) : Nat → Nat → gq_R
  | 0, t => if K t = 35 ∨ K t = 4 then .inl t else gq_pln K V t
  | e + 1, t => if K t = 35 then (match gq_atm K V e (t + 1) with | .inl b => .inl b | .inr q => .inr (q.1 ++ [-nI 35], q.2))
    else if K t = 4 then (match gq_som K (gq_atm K V e) (t + 1) with | .inl b => .inl b | .inr q => if K q.2 = 5 then .inr (q.1, q.2 + 1) else .inl q.2)
    else gq_pln K V t
/-- as the class reads it: one loop -/
def gq_cnd (K : Nat → Nat) (A : Nat → gq_R) : Nat → Bool → Bool → List Int32 → Nat → gq_R
  | 0, _, _, _, t => .inl t
  | n + 1, fa, fl, c, t => match A t with
    | .inl e => .inl e
    | .inr q => if K q.2 = 34 then gq_cnd K A n false fl (c ++ (q.1 ++ if fa = true then [] else [-nI 34])) (q.2 + 1)
      else if K q.2 = 33 then gq_cnd K A n true false (c ++ (q.1 ++ if fa = true then [] else [-nI 34]) ++ if fl = true then [] else [-nI 33]) (q.2 + 1)
      else .inr (c ++ (q.1 ++ if fa = true then [] else [-nI 34]) ++ if fl = true then [] else [-nI 33], q.2)
/-- a reader that goes on, stops at the end, and writes no more words than it takes tokens -/
def gq_go (T : Nat) (A : Nat → gq_R) : Prop := (∀ t, T ≤ t → A t = .inl t) ∧ (∀ t q, A t = .inr q → t < q.2 ∧ q.2 ≤ T ∧ q.1.length + t ≤ q.2) ∧ ∀ t e, t ≤ T → A t = .inl e → t ≤ e ∧ e ≤ T
section S_gram
variable {K : Nat → Nat} {V : Nat → Option Nat} {T : Nat} {A : Nat → gq_R} {sep : Nat}
theorem gq_lp_s (n : Nat) (fi : Bool) (c : List Int32) (t : Nat) : gq_lp K A sep (n + 1) fi c t = match A t with
    | .inl e => .inl e
    | .inr q => if K q.2 = sep then gq_lp K A sep n false (c ++ (q.1 ++ if fi = true then [] else [-nI sep])) (q.2 + 1) else .inr (c ++ (q.1 ++ if fi = true then [] else [-nI sep]), q.2) := rfl
theorem gq_cnd_s (n : Nat) (fa fl : Bool) (c : List Int32) (t : Nat) : gq_cnd K A (n + 1) fa fl c t = match A t with
    | .inl e => .inl e
    | .inr q => if K q.2 = 34 then gq_cnd K A n false fl (c ++ (q.1 ++ if fa = true then [] else [-nI 34])) (q.2 + 1)
      else if K q.2 = 33 then gq_cnd K A n true false (c ++ (q.1 ++ if fa = true then [] else [-nI 34]) ++ if fl = true then [] else [-nI 33]) (q.2 + 1)
      else .inr (c ++ (q.1 ++ if fa = true then [] else [-nI 34]) ++ if fl = true then [] else [-nI 33], q.2) := rfl
theorem gq_lp_fuel (hA : gq_go T A) : ∀ n m fi c t, T ≤ n + t → T ≤ m + t → gq_lp K A sep n fi c t = gq_lp K A sep m fi c t
  | 0, 0, _, _, _, _, _ => rfl
  | 0, m + 1, fi, c, t, h1, _ => by rw [gq_lp_s, hA.1 t (by omega)]; rfl
  | n + 1, 0, fi, c, t, _, h2 => by rw [gq_lp_s, hA.1 t (by omega)]; rfl
  | n + 1, m + 1, fi, c, t, h1, h2 => by
    rw [gq_lp_s, gq_lp_s]
    cases h : A t with
    | inl e => rfl
    | inr q =>
      have := (hA.2.1 t q h).1
      simp only
      split
      · exact gq_lp_fuel hA n m _ _ _ (by omega) (by omega)
      · rfl
theorem gq_cnd_fuel (hA : gq_go T A) : ∀ n m fa fl c t, T ≤ n + t → T ≤ m + t → gq_cnd K A n fa fl c t = gq_cnd K A m fa fl c t
  | 0, 0, _, _, _, _, _, _ => rfl
  | 0, m + 1, fa, fl, c, t, h1, _ => by rw [gq_cnd_s, hA.1 t (by omega)]; rfl
  | n + 1, 0, fa, fl, c, t, _, h2 => by rw [gq_cnd_s, hA.1 t (by omega)]; rfl
  | n + 1, m + 1, fa, fl, c, t, h1, h2 => by
    rw [gq_cnd_s, gq_cnd_s]
    cases h : A t with
    | inl e => rfl
    | inr q =>
      have := (hA.2.1 t q h).1
      simp only
      split
      · exact gq_cnd_fuel hA n m _ _ _ _ (by omega) (by omega)
      · split
        · exact gq_cnd_fuel hA n m _ _ _ _ (by omega) (by omega)
        · rfl
theorem gq_C1 (hA : gq_go T A) : ∀ n fa fl o a t, T ≤ n + t → gq_cnd K A n fa fl (o ++ a) t = match gq_lp K A 34 n fa a t with
    | .inl e => .inl e
    | .inr q => if K q.2 = 33 then gq_cnd K A n true false (o ++ (q.1 ++ if fl = true then [] else [-nI 33])) (q.2 + 1) else .inr (o ++ (q.1 ++ if fl = true then [] else [-nI 33]), q.2)
  | 0, _, _, _, _, _, _ => rfl
  | n + 1, fa, fl, o, a, t, h => by
    rw [gq_cnd_s, gq_lp_s]
    cases h1 : A t with
    | inl e => rfl
    | inr q =>
      have h2 := hA.2.1 t q h1
      simp only
      by_cases e : K q.2 = 34
      · rw [if_pos e, if_pos e, List.append_assoc]
        refine (gq_C1 hA n false fl o _ (q.2 + 1) (by omega)).trans ?_
        cases h3 : gq_lp K A 34 n false (a ++ (q.1 ++ if fa = true then [] else [-nI 34])) (q.2 + 1) with
        | inl e => rfl
        | inr r =>
          simp only
          split
          · have h4 : q.2 + 1 ≤ r.2 := by
              have : ∀ n fi c t r, gq_lp K A 34 n fi c t = .inr r → t ≤ r.2 := by
                intro n
                induction n with
                | zero => intro fi c t r h; cases h
                | succ n ih =>
                  intro fi c t r h
                  rw [gq_lp_s] at h
                  cases h5 : A t with
                  | inl e => rw [h5] at h; cases h
                  | inr q =>
                    rw [h5] at h
                    have h6 := hA.2.1 t q h5
                    simp only at h
                    split at h
                    · have := ih _ _ _ _ h; omega
                    · cases h; show t ≤ q.2; omega
              exact this _ _ _ _ _ h3
            exact gq_cnd_fuel hA n (n + 1) _ _ _ _ (by omega) (by omega)
          · rfl
      · rw [if_neg e, if_neg e, List.append_assoc, List.append_assoc, List.append_assoc]
        simp only
        split
        · exact (gq_cnd_fuel hA n (n + 1) _ _ _ _ (by omega) (by omega)).trans (by simp only [List.append_assoc])
        · simp only [List.append_assoc]
theorem gq_lp_go (hA : gq_go T A) (hK : ∀ t, T ≤ t → K t = 0) (hs : ¬ sep = 0) : ∀ n fi c t, (T ≤ t → gq_lp K A sep n fi c t = .inl t) ∧ (∀ q, gq_lp K A sep n fi c t = .inr q → t < q.2 ∧ q.2 ≤ T ∧ q.1.length + t + (if fi = true then 1 else 0) ≤ q.2 + 1 + c.length) ∧ ∀ e, t ≤ T → gq_lp K A sep n fi c t = .inl e → t ≤ e ∧ e ≤ T
  | 0, fi, c, t => ⟨fun _ => rfl, (fun q h => by cases h), (fun e h1 h => by cases h; exact ⟨Nat.le_refl _, h1⟩)⟩
  | n + 1, fi, c, t => by
    refine ⟨fun h => ?_, fun q h => ?_, fun e ht h => ?_⟩
    · rw [gq_lp_s, hA.1 t h]
    · rw [gq_lp_s] at h
      cases h1 : A t with
      | inl e => rw [h1] at h; cases h
      | inr r =>
        rw [h1] at h
        obtain ⟨h2, h3, h4⟩ := hA.2.1 t r h1
        simp only at h
        split at h
        · obtain ⟨h5, h6, h7⟩ := (gq_lp_go hA hK hs n _ _ _).2.1 q h
          refine ⟨by omega, h6, ?_⟩
          simp only [List.length_append] at h7
          cases fi <;> simp at h7 ⊢ <;> omega
        · cases h
          refine ⟨h2, h3, ?_⟩
          simp only [List.length_append]
          cases fi <;> simp <;> omega
    · rw [gq_lp_s] at h
      cases h1 : A t with
      | inl b => rw [h1] at h; cases h; exact hA.2.2 t e ht h1
      | inr r =>
        rw [h1] at h
        obtain ⟨h2, h3, h4⟩ := hA.2.1 t r h1
        simp only at h
        split at h
        · rename_i hk
          have hr : r.2 < T := by
            rcases Nat.lt_or_ge r.2 T with c | c
            · exact c
            · exact absurd (hk ▸ hK r.2 c) hs
          have := (gq_lp_go hA hK hs n _ _ _).2.2 e (by omega) h
          exact ⟨by omega, this.2⟩
        · cases h
theorem gq_go_lp (hA : gq_go T A) (hK : ∀ t, T ≤ t → K t = 0) (hs : ¬ sep = 0) (n : Nat) : gq_go T (fun t => gq_lp K A sep n true [] t) := by
  refine ⟨fun t h => (gq_lp_go hA hK hs n _ _ _).1 h, fun t q h => ?_, fun t e ht h => (gq_lp_go hA hK hs n _ _ _).2.2 e ht h⟩
  have := (gq_lp_go hA hK hs n _ _ _).2.1 q h
  simp at this
  omega
theorem gq_go_part (hK : ∀ t, T ≤ t → K t = 0) : gq_go T (gq_part K V) := by
  have hlt : ∀ t, ¬ K t = 0 → t < T := fun t h => by
    rcases Nat.lt_or_ge t T with c | c
    · exact c
    · exact absurd (hK t c) h
  refine ⟨fun t h => ?_, fun t q h => ?_, fun t e ht h => ?_⟩
  · unfold gq_part
    rw [hK t h]; rfl
  · unfold gq_part at h
    split at h
    · cases h; have := hlt t (by omega); exact ⟨Nat.lt_succ_self _, this, by simp; omega⟩
    · split at h
      · have := hlt t (by omega)
        split at h
        · cases h; exact ⟨Nat.lt_succ_self _, this, by simp; omega⟩
        · cases h
      · cases h
  · unfold gq_part at h
    split at h
    · cases h
    · split at h
      · split at h
        · cases h
        · cases h; exact ⟨Nat.le_refl _, ht⟩
      · cases h; exact ⟨Nat.le_refl _, ht⟩
theorem gq_go_sum (hK : ∀ t, T ≤ t → K t = 0) : gq_go T (gq_sum K V) := gq_go_lp (gq_go_part hK) hK (by omega) 400
theorem gq_go_pln (hK : ∀ t, T ≤ t → K t = 0) : gq_go T (gq_pln K V) := by
  have hlt : ∀ t, ¬ K t = 0 → t < T := fun t h => by
    rcases Nat.lt_or_ge t T with c | c
    · exact c
    · exact absurd (hK t c) h
  have hS := gq_go_sum (V := V) hK
  refine ⟨fun t h => ?_, fun t q h => ?_, fun t e ht h => ?_⟩
  · unfold gq_pln
    rw [if_neg (by rw [hK t h]; omega), hS.1 t h]
  · unfold gq_pln at h
    split at h
    · cases h; have := hlt t (by omega); exact ⟨Nat.lt_succ_self _, this, by simp; omega⟩
    · cases h1 : gq_sum K V t with
      | inl e => rw [h1] at h; cases h
      | inr r =>
        rw [h1] at h
        simp only at h
        split at h
        · cases h2 : gq_sum K V (r.2 + 1) with
          | inl e => rw [h2] at h; cases h
          | inr r2 =>
            rw [h2] at h
            cases h
            have := hS.2.1 _ _ h1
            have := hS.2.1 _ _ h2
            simp only [List.length_append, List.length_singleton]
            omega
        · cases h
  · unfold gq_pln at h
    split at h
    · cases h
    · cases h1 : gq_sum K V t with
      | inl e2 => rw [h1] at h; cases h; exact hS.2.2 _ _ ht h1
      | inr r =>
        have h3 := hS.2.1 _ _ h1
        rw [h1] at h
        simp only at h
        split at h
        · rename_i hk
          have := hlt r.2 (by omega)
          cases h2 : gq_sum K V (r.2 + 1) with
          | inl e2 => rw [h2] at h; cases h; have := hS.2.2 _ _ (by omega) h2; omega
          | inr r2 => rw [h2] at h; cases h
        · cases h; omega
theorem gq_go_som (hA : gq_go T A) (hK : ∀ t, T ≤ t → K t = 0) : gq_go T (gq_som K A) := gq_go_lp (gq_go_lp hA hK (by omega) 400) hK (by omega) 400
theorem gq_go_atm (hK : ∀ t, T ≤ t → K t = 0) : ∀ e, gq_go T (gq_atm K V e) := by
  have hlt : ∀ t, ¬ K t = 0 → t < T := fun t h => by
    rcases Nat.lt_or_ge t T with c | c
    · exact c
    · exact absurd (hK t c) h
  have hP := gq_go_pln (V := V) hK
  intro e
  induction e with
  | zero =>
    refine ⟨fun t h => ?_, fun t q h => ?_, fun t e ht h => ?_⟩
    · unfold gq_atm; rw [if_neg (by rw [hK t h]; omega), hP.1 t h]
    · unfold gq_atm at h
      split at h
      · cases h
      · exact hP.2.1 t q h
    · unfold gq_atm at h
      split at h
      · cases h; exact ⟨Nat.le_refl _, ht⟩
      · exact hP.2.2 t e ht h
  | succ n ih =>
    have hS := gq_go_som ih hK
    refine ⟨fun t h => ?_, fun t q h => ?_, fun t e ht h => ?_⟩
    · unfold gq_atm; rw [if_neg (by rw [hK t h]; omega), if_neg (by rw [hK t h]; omega), hP.1 t h]
    · unfold gq_atm at h
      split at h
      · cases h1 : gq_atm K V n (t + 1) with
        | inl b => rw [h1] at h; cases h
        | inr r =>
          rw [h1] at h
          cases h
          have := ih.2.1 _ _ h1
          simp only [List.length_append, List.length_singleton]
          omega
      · split at h
        · cases h1 : gq_som K (gq_atm K V n) (t + 1) with
          | inl b => rw [h1] at h; cases h
          | inr r =>
            rw [h1] at h
            simp only at h
            split at h
            · cases h
              have := hS.2.1 _ _ h1
              have := hlt r.2 (by omega)
              simp only
              omega
            · cases h
        · exact hP.2.1 t q h
    · unfold gq_atm at h
      split at h
      · have := hlt t (by omega)
        cases h1 : gq_atm K V n (t + 1) with
        | inl b => rw [h1] at h; cases h; have := ih.2.2 _ _ (by omega) h1; omega
        | inr r => rw [h1] at h; cases h
      · split at h
        · have := hlt t (by omega)
          cases h1 : gq_som K (gq_atm K V n) (t + 1) with
          | inl b => rw [h1] at h; cases h; have := hS.2.2 _ _ (by omega) h1; omega
          | inr r =>
            rw [h1] at h
            simp only at h
            split at h
            · cases h
            · cases h; have := hS.2.1 _ _ h1; omega
        · exact hP.2.2 t e ht h
/-- the class's one loop reads what the reference's two read -/
theorem gq_C2 (hA : gq_go T A) (hK : ∀ t, T ≤ t → K t = 0) (hT : T ≤ 400) : ∀ n fl c t, T ≤ n + t → gq_cnd K A n true fl c t = gq_lp K (gq_evy K A) 33 n fl c t := by
  intro n
  have hE := gq_go_lp hA hK (sep := 34) (by omega) 400
  induction n with
  | zero => intro fl c t h; rfl
  | succ n ih =>
    intro fl c t h
    have e1 := gq_C1 (K := K) hA (n + 1) true fl c [] t h
    rw [List.append_nil] at e1
    rw [e1, gq_lp_fuel hA (n + 1) 400 true [] t h (by omega), gq_lp_s (A := gq_evy K A) n fl c t]
    show _ = match gq_lp K A 34 400 true [] t with | .inl e => _ | .inr q => _
    cases h1 : gq_lp K A 34 400 true [] t with
    | inl e => rfl
    | inr q =>
      have h2 := hE.2.1 t q h1
      simp only
      split
      · rw [gq_cnd_fuel hA (n + 1) n _ _ _ _ (by omega) (by omega)]
        exact ih false _ _ (by omega)
      · rfl
theorem gq_C3 (hA : gq_go T A) (hK : ∀ t, T ≤ t → K t = 0) (hT : T ≤ 400) (t : Nat) : gq_cnd K A 400 true true [] t = gq_som K A t := gq_C2 hA hK hT 400 true [] t (by omega)
end S_gram
