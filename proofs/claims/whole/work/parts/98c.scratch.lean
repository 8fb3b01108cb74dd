/-! WHAT IS SCRATCH: the law's stack, what is tried, rows of the reference -/
section CF98
variable {l : Launch} {E : mx_Env} {t t' x la n dv kv nv dm : Nat} {S : mx_S} {I K K' : mx_I} {P P2 : mx_P} {J : mx_G} {D : lwD} {b : Bool} {c0 : Nat} {bz : Bool} {Mv Mm : mx_M} {as bs : List Value} {f : Nat → String} {sp : Nat × Int32} {Z : Nat → Prop} {w : Int32}
/-- a law's stack is nothing of another law -/
theorem la_is.st {la2 : Nat} {D2 : lwD} (h2 : la_is S P I la2 D2) (h : la_is S P I la D) (e : ∀ c, la2 ≤ c → c < la2 + 5 → c ≠ la + 5 → K c = I c) : la_is S P K la2 D2 := by
  have ne : ∀ k, k < 5 → la2 + k ≠ la + 5 := by
    intro k hk q
    have s2 := h2.1.1
    obtain ⟨-, -, -, -, -, -, q1, q2, q3, q4, q5, -⟩ := h.1
    have hj : la2 = la + 1 ∨ la2 = la + 2 ∨ la2 = la + 3 ∨ la2 = la + 4 ∨ la2 = la + 5 := by omega
    rcases hj with j | j | j | j | j <;> rw [j] at s2
    · rw [q1] at s2; exact absurd (Option.some.inj s2) (by intro z; exact absurd (show (1 : Nat) = 0 from congrArg Prod.fst z) (by omega))
    · rw [q2] at s2; exact absurd (Option.some.inj s2) (by intro z; exact absurd (show (1 : Nat) = 0 from congrArg Prod.fst z) (by omega))
    · rw [q3] at s2; exact absurd (Option.some.inj s2) (by intro z; exact absurd (show (1 : Nat) = 0 from congrArg Prod.fst z) (by omega))
    · rw [q4] at s2; exact absurd (Option.some.inj s2) (by intro z; exact absurd (show (1 : Nat) = 0 from congrArg Prod.fst z) (by omega))
    · rw [q5] at s2; exact absurd (Option.some.inj s2) (by intro z; exact absurd (show (1 : Nat) = 0 from congrArg Prod.fst z) (by omega))
  obtain ⟨h1, h3, h4⟩ := h2
  refine ⟨h1, ?_, h4⟩
  unfold la_rel at h3 ⊢
  rw [e la2 (by omega) (by omega) (ne 0 (by omega)), e (la2 + 1) (by omega) (by omega) (ne 1 (by omega)), e (la2 + 2) (by omega) (by omega) (ne 2 (by omega)), e (la2 + 3) (by omega) (by omega) (ne 3 (by omega)), e (la2 + 4) (by omega) (by omega) (ne 4 (by omega))]
  exact h3
/-- the cells of which the relations tell, but for the two tapes -/
def al_d (x c : Nat) : Prop := (x + 17 ≤ c ∧ c < x + 37) ∨ (x + 53 ≤ c ∧ c < x + 67) ∨ (x + 69 ≤ c ∧ c < x + 250) ∨ c = x + 278 ∨ c = x + 279 ∨ c = x + 281 ∨ x + 292 ≤ c
def al_sc (I K : mx_I) (x la : Nat) : Prop := (∀ c, al_d x c → c ≠ la + 5 → K c = I c) ∧ K x 6 = I x 6 ∧ K (x + 68) 1 = I (x + 68) 1 ∧ K (x + 68) 2 = I (x + 68) 2 ∧ K (x + 277) 3 = I (x + 277) 3 ∧ K (x + 277) 6 = I (x + 277) 6
theorem al_ok.sc (h : al_ok t S I P x) (hla : P (x + 23) 2 = some la) (ht : t ≤ t') (hP : P2 = P ∨ P2 = mx_upP P (x + 38) 2 (some la) ∨ P2 = mx_upP P (x + 257) 2 (some la)) (e : al_sc I K x la) (hx : ∃ f L, te_tx K (x + 250) f L ∧ mp_tx K (x + 277) f L) (ef : K (x + 250) 2 = K (x + 277) 12) : al_ok t' S K P2 x := by
  obtain ⟨h1, h2, ⟨la0, D, ha, hs, hp⟩, ⟨b, hb1, hb2, hb3⟩, -, -⟩ := h
  have e0 : la0 = la := Option.some.inj (hs.2.2.1.symm.trans hla)
  subst e0
  obtain ⟨e1, e2, e3, e4, e5, e6⟩ := e
  have hsh : al_sh S P2 x := by
    rcases hP with rfl | rfl | rfl
    · exact h2
    · exact h2.law (by omega)
    · exact h2.law (by omega)
  have hPo : ∀ a, a ≠ x + 38 → a ≠ x + 257 → P2 a = P a := by
    intro a ha hb
    rcases hP with rfl | rfl | rfl
    · rfl
    · exact mx_upP_ne ha
    · exact mx_upP_ne hb
  have hl0 := hs.2.2.2.1
  have hll : ∀ la2 D2, al_at x t la2 → la_is S P I la2 D2 → la_is S P2 K la2 D2 := fun la2 D2 ha2 hl2 => by
    have hq := hl2.st hl0 (K := K) (fun c a b d => e1 c (by have := ha2.1; unfold al_d; omega) d)
    rcases hP with rfl | rfl | rfl
    · exact hq
    · exact la_ne hq (by have := ha2.1; omega)
    · exact la_ne hq (by have := ha2.1; omega)
  have hl := hll _ _ ha hl0
  have hne : ∀ c, (x + 23 ≤ c ∧ c < x + 250) ∨ c = x + 278 ∨ c = x + 279 ∨ c = x + 281 → c ≠ la0 + 5 := fun c hc => by have := ha.1; omega
  have r1 : K (x + 278) = I (x + 278) := e1 _ (by unfold al_d; omega) (hne _ (by omega))
  have r2 : K (x + 279) = I (x + 279) := e1 _ (by unfold al_d; omega) (hne _ (by omega))
  refine ⟨by omega, hsh, ⟨la0, D, ⟨ha.1, by have := ha.2; omega⟩, ?_, ?_⟩, ⟨b, e2.trans hb1, e5.trans hb2, fun hb => ?_⟩, hx, ef⟩
  · rw [r1]
    exact hs.cg (fun c a1 a2 => e1 c (by unfold al_d; omega) (hne _ (by omega))) (by rw [hPo _ (by omega) (by omega)]) hl
  · exact hp.cg (fun c a1 a2 => e1 c (by unfold al_d; omega) (hne _ (by omega))) e3 e4 e6 (e1 (x + 277 + 4) (by unfold al_d; omega) (hne _ (by omega))) (fun j _ => congrFun r1 j) (fun r hr => by rw [hPo _ (by omega) (by omega)]) hl
  · obtain ⟨la2, D2, ha2, hs2⟩ := hb3 hb
    refine ⟨la2, D2, ⟨ha2.1, by have := ha2.2; omega⟩, ?_⟩
    rw [r2]
    exact hs2.cg (fun c a1 a2 => e1 c (by unfold al_d; omega) (hne _ (by omega))) (by rw [hPo _ (by omega) (by omega)]) (hll _ _ ha2 hs2.2.2.2.1)
/-- what the class leaves alone when it only looks (b: the text's part is taken) -/
def al_cv (b : Bool) (I K : mx_I) (x la : Nat) : Prop := (∀ c, c = x ∨ (x + 17 ≤ c ∧ c ≠ x + 37 ∧ ¬ (x + 38 ≤ c ∧ c < x + 53)) → c ≠ la + 5 → c ≠ x + 250 → K c = I c) ∧ K (x + 250) 2 = I (x + 250) 2 ∧ K (x + 250) 1 = if b = true then nI 0 else I (x + 250) 1
/-- and the reference -/
def al_cm (b : Bool) (K K' : mx_I) (x c0 : Nat) : Prop := (∀ c, c < x + 277 ∨ c = x + 278 ∨ c = x + 279 ∨ c = x + 281 ∨ c = x + 282 ∨ x + 291 ≤ c → K' c = K c) ∧ K' (x + 277) 3 = K (x + 277) 3 ∧ K' (x + 277) 6 = K (x + 277) 6 ∧ K' (x + 277) 12 = K (x + 277) 12 ∧ K' (x + 277) 8 = (if b = true then nI 0 else K (x + 277) 8) ∧ K' (x + 277) 0 = nI c0
theorem al_cv.rf : al_cv false I I x la := ⟨fun _ _ _ _ => rfl, rfl, rfl⟩
theorem al_cv.t0 : al_cv true I (mx_up I (x + 250) 1 (nI 0)) x la := ⟨fun c _ _ h => mx_up_ne h, mu_n (by omega), mu_e⟩
theorem al_cv.off (h : al_cv b I K x la) (e : mx_off Z K K') (hz : ∀ c, Z c → (x < c ∧ c < x + 17) ∨ c = x + 37 ∨ (x + 38 ≤ c ∧ c < x + 53) ∨ c = la + 5) (hl : x + 250 ≠ la + 5) : al_cv b I K' x la := by
  obtain ⟨h1, h2, h3⟩ := h
  have e2 : K' (x + 250) = K (x + 250) := e _ (fun z => by have := hz _ z; omega)
  exact ⟨fun c a1 a2 a3 => (e c (fun z => by have := hz _ z; omega)).trans (h1 c a1 a2 a3), by rw [e2]; exact h2, by rw [e2]; exact h3⟩
theorem al_cm.e0 : al_cm false K (mx_up K (x + 277) 0 (nI c0)) x c0 := ⟨fun c hc => mx_up_ne (by omega), mu_n (by omega), mu_n (by omega), mu_n (by omega), mu_n (by omega), mu_e⟩
theorem al_cm.t0 : al_cm true K (mx_up (mx_up K (x + 277) 8 (nI 0)) (x + 277) 0 (nI c0)) x c0 := ⟨fun c hc => by rw [mx_up_ne (by omega), mx_up_ne (by omega)], by rw [mu_n (by omega), mu_n (by omega)], by rw [mu_n (by omega), mu_n (by omega)], by rw [mu_n (by omega), mu_n (by omega)], by rw [mu_n (by omega)]; exact mu_e, mu_e⟩
theorem al_cm.off {K2 : mx_I} (h : al_cm b K K2 x c0) (e : mx_off Z K2 K') (hz : ∀ c, Z c → c = x + 280 ∨ (x + 283 ≤ c ∧ c < x + 291)) : al_cm b K K' x c0 := by
  obtain ⟨h1, h2, h3, h4, h5, h6⟩ := h
  have e2 : K' (x + 277) = K2 (x + 277) := e _ (fun z => by have := hz _ z; omega)
  exact ⟨fun c hc => (e c (fun z => by have := hz _ z; omega)).trans (h1 c hc), by rw [e2]; exact h2, by rw [e2]; exact h3, by rw [e2]; exact h4, by rw [e2]; exact h5, by rw [e2]; exact h6⟩
theorem al_cm.az {K2 : mx_I} (h : al_cm b K K2 x c0) (e : az K2 K' (x + 277)) : al_cm b K K' x c0 := by
  obtain ⟨h1, h2, h3, h4, h5, h6⟩ := h
  exact ⟨fun c hc => (e.1 c (by omega) (by omega)).trans (h1 c hc), (e.2 3 (by omega)).trans h2, (e.2 6 (by omega)).trans h3, (e.2 12 (by omega)).trans h4, (e.2 8 (by omega)).trans h5, (e.2 0 (by omega)).trans h6⟩
theorem al_cm.ez {K2 : mx_I} (h : al_cm b K K2 x c0) (e : ez K2 K' (x + 277)) : al_cm b K K' x c0 := by
  obtain ⟨h1, h2, h3, h4, h5, h6⟩ := h
  exact ⟨fun c hc => (e.1 c (by omega) (by omega) (by omega)).trans (h1 c hc), (e.2 3 (by omega)).trans h2, (e.2 6 (by omega)).trans h3, (e.2 12 (by omega)).trans h4, (e.2 8 (by omega)).trans h5, (e.2 0 (by omega)).trans h6⟩
theorem al_cm.cz (e : cz K K' (x + 277) c0) : al_cm false K K' x c0 :=
  ⟨fun c hc => e.1 c (by omega) (by omega) (by omega), e.2.1 3 (by omega) (by omega), e.2.1 6 (by omega) (by omega), e.2.1 12 (by omega) (by omega), e.2.1 8 (by omega) (by omega), e.2.2⟩
theorem al_look (h : al_ok t S I P x) (hla : P (x + 23) 2 = some la) (ht : t ≤ t') (hP : P2 = P ∨ P2 = mx_upP P (x + 38) 2 (some la)) (hv : al_cv b I K x la) (hm : al_cm b K K' x c0) : al_ok t' S K' P2 x ∧ K' (x + 277) 0 = nI c0 := by
  have h0 := h
  obtain ⟨-, -, ⟨la0, D, ha, hs, -⟩, -, ⟨f, L, ⟨f1, f2, f3⟩, ⟨g1, g2, g3, g4⟩⟩, h6⟩ := h0
  have e0 : la0 = la := Option.some.inj (hs.2.2.1.symm.trans hla)
  subst e0
  obtain ⟨v1, v2, v3⟩ := hv
  obtain ⟨m1, m2, m3, m4, m5, m6⟩ := hm
  have hla5 : ∀ c, (c < x + 22 ∨ (x + 22 < c ∧ c < x + 297)) → c ≠ la0 + 5 := fun c hc => by have := ha.1; omega
  have kv : ∀ c, c = x ∨ c = x + 68 ∨ c = x + 251 ∨ c = x + 277 ∨ c = x + 282 → K c = I c := fun c hc => v1 c (by omega) (hla5 c (by omega)) (by omega)
  have r1 : K' (x + 250 + 1) = I (x + 250 + 1) := (m1 (x + 251) (by omega)).trans (kv (x + 251) (by omega))
  have r2 : K' (x + 277 + 5) = I (x + 277 + 5) := (m1 (x + 282) (by omega)).trans (kv (x + 282) (by omega))
  have r3 : K' (x + 250) = K (x + 250) := m1 _ (by omega)
  have k3 : K (x + 277) = I (x + 277) := kv _ (by omega)
  refine ⟨h.sc hla ht (hP.elim Or.inl (fun q => Or.inr (Or.inl q))) ⟨fun c a1 a2 => ?_, ?_, ?_, ?_, ?_, ?_⟩ ?_ ?_, m6⟩
  · rw [m1 c (by unfold al_d at a1; omega), v1 c (by unfold al_d at a1; omega) a2 (by unfold al_d at a1; omega)]
  · rw [m1 x (by omega), kv x (by omega)]
  · rw [m1 (x + 68) (by omega), kv (x + 68) (by omega)]
  · rw [m1 (x + 68) (by omega), kv (x + 68) (by omega)]
  · rw [m2, k3]
  · rw [m3, k3]
  · cases b with
    | true => exact ⟨f, 0, ⟨fun k hk => by rw [r1]; exact f1 k hk, by rw [r3]; exact v3, by omega⟩, ⟨m5, by omega, g3, fun k hk => by rw [r2]; exact g4 k hk⟩⟩
    | false => exact ⟨f, L, ⟨fun k hk => by rw [r1]; exact f1 k hk, by rw [r3]; exact v3.trans f2, f3⟩, ⟨m5.trans ((congrFun k3 8).trans g1), g2, g3, fun k hk => by rw [r2]; exact g4 k hk⟩⟩
  · rw [r3, v2, m4, k3]; exact h6
/-- an operation that only looks -/
theorem al_ro {R1 : mx_I → Prop} {R2 : mx_I → mx_I → Prop} (h : al_ok t S I P x) (hla : P (x + 23) 2 = some la) (hn : sp.1 ≤ n) (b : Bool)
    (hv : mx_C l E Mv dv kv nv (.ref x :: as) (t, S, I, P, J) (mx_pR f sp t S P J R1)) (h1 : ∀ K, R1 K → al_cv b I K x la)
    (hm : ∀ t' K J', al_cv b I K x la → mx_C l E Mm dm 0 0 (.ref (x + 277) :: bs) (t', S, K, P, J') (mx_sR (some (.int sp.2)) t' S P J' (R2 K))) (h2 : ∀ K K', R2 K K' → al_cm b K K' x sp.1) (hz9 : bz = true → ∃ r : Bool, sp.2 = bI r := by intro h; cases h) : al_op1 l E x n bz Mv Mm as bs f dv kv nv dm t S I P J := by
  refine ⟨sp.1, dv, sp.2, _, ⟨hn, hz9⟩, Nat.le_refl _, mx_C_mono hv (fun r X q => mx_pR_pg q), fun X1 hX => ?_⟩
  obtain ⟨K, t', ht', rfl, hK⟩ := hX
  refine ⟨t', S, K, P, rfl, ht', h.out, fun J' => ⟨sp.2, mx_C_mono (hm t' K J' (h1 K hK)) (fun r X q => ?_), fun _ => rfl⟩⟩
  obtain ⟨q1, K', q2, q3⟩ := q
  exact ⟨q1, K', q2, al_look h hla ht' (Or.inl rfl) (h1 K hK) (h2 K K' q3)⟩
/-- one that tries on a copy -/
theorem al_rt {R1 : mx_I → Prop} {R2 : mx_I → mx_I → Prop} (h : al_ok t S I P x) (hla : P (x + 23) 2 = some la) (hn : sp.1 ≤ n)
    (hv : mx_C l E Mv dv kv nv (.ref x :: as) (t, S, I, P, J) (mx_pkR f sp (t, S, I, P, J) t S (mx_upP P (x + 38) 2 (some la)) J R1)) (h1 : ∀ K, R1 K → al_cv false I K x la)
    (hm : ∀ t' K P2 J', mo_ok S P2 (x + 277) → K (x + 278) = I (x + 278) → mx_C l E Mm dm 0 0 (.ref (x + 277) :: bs) (t', S, K, P2, J') (mx_sR (some (.int sp.2)) t' S P2 J' (R2 K))) (h2 : ∀ K K', R2 K K' → al_cm false K K' x sp.1) (hz9 : bz = true → ∃ r : Bool, sp.2 = bI r := by intro h; cases h) : al_op1 l E x n bz Mv Mm as bs f dv kv nv dm t S I P J := by
  have h0 := h
  obtain ⟨-, hsh, ⟨la0, D, ha, hs, -⟩, -⟩ := h0
  have e0 : la0 = la := Option.some.inj (hs.2.2.1.symm.trans hla)
  subst e0
  have hne : x + 278 ≠ la0 + 5 := by have := ha.1; omega
  refine ⟨sp.1, dv, sp.2, _, ⟨hn, hz9⟩, Nat.le_refl _, mx_C_mono hv (fun r X q => mx_pkR_pg q), fun X1 hX => ?_⟩
  rcases hX with ⟨k0, K, rfl, hK⟩ | ⟨k0, t', ht', rfl⟩
  · refine ⟨t, S, K, _, rfl, Nat.le_refl _, h.out, fun J' => ⟨sp.2, mx_C_mono (hm t K _ J' (hsh.law (la := la0) (r := x + 38) (by omega)).2.2.2.2.2.2.2.2.2.2.2.2.1 ((h1 K hK).1 _ (by omega) hne (by omega))) (fun r X q => ?_), fun _ => rfl⟩⟩
    obtain ⟨q1, K', q2, q3⟩ := q
    exact ⟨q1, K', q2, al_look h hla (Nat.le_refl _) (Or.inr rfl) (h1 K hK) (h2 K K' q3)⟩
  · refine ⟨t', S, I, P, rfl, ht', h.out, fun J' => ⟨sp.2, mx_C_mono (hm t' I P J' hsh.2.2.2.2.2.2.2.2.2.2.2.2.1 rfl) (fun r X q => ?_), fun _ => rfl⟩⟩
    obtain ⟨q1, K', q2, q3⟩ := q
    exact ⟨q1, K', q2, al_look h hla ht' (Or.inl rfl) al_cv.rf (h2 I K' q3)⟩
/-- posts as al_ro wants them -/
theorem mx_po_R {I1 : mx_I} (r : mx_R) (X : mx_H) (h : mx_po f sp (t, S, I1, P, J) r X) : mx_pR f sp t S P J (fun K => K = I1) r X := by
  rcases h with ⟨h1, h2, h3⟩ | ⟨h1, h2, t', h3, h4⟩
  · exact Or.inl ⟨h1, h2, I1, h3, rfl⟩
  · exact Or.inr ⟨h1, h2, I1, t', h3, h4, rfl⟩
theorem mx_sR_R {R : mx_I → Prop} (r : mx_R) (X : mx_H) (h : mx_sR (some (.int w)) t S P J R r X) : mx_pR f (0, w) t S P J R r X := by
  obtain ⟨h1, K, h2, h3⟩ := h
  exact Or.inl ⟨rfl, h1, K, h2, h3⟩
theorem mx_ri_R {I1 : mx_I} (r : mx_R) (X : mx_H) (h : mx_ri w (t, S, I1, P, J) r X) : mx_pR f (0, w) t S P J (fun K => K = I1) r X := Or.inl ⟨rfl, h.1, I1, h.2, rfl⟩
theorem mx_ri_s {I1 : mx_I} (r : mx_R) (X : mx_H) (h : mx_ri w (t, S, I1, P, J) r X) : mx_sR (some (.int w)) t S P J (fun K => K = I1) r X := ⟨h.1, I1, h.2, rfl⟩
end CF98
