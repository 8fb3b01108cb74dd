/-! EACH METHOD: THE SAME ANSWER, AND ALL HOLDS AGAIN -/
/-- the class's method and the reference's: one number of what is thrown, one answer, and all holds again -/
def al_op1 (l : Launch) (E : mx_Env) (x n : Nat) (z : Bool) (Mv Mm : mx_M) (as bs : List Value) (f : Nat → String) (dv kv nv dm : Nat) (t : Nat) (S : mx_S) (I : mx_I) (P : mx_P) (J : mx_G) : Prop := ∃ (c d : Nat) (v : Int32) (A : mx_H → Prop), (c ≤ n ∧ (z = true → ∃ r : Bool, v = bI r)) ∧ d ≤ dv ∧ mx_C l E Mv d kv nv (.ref x :: as) (t, S, I, P, J) (mx_pg f c v A) ∧ ∀ X1, A X1 → ∃ t' S' I' P', X1 = (t', S', I', P', J) ∧ t ≤ t' ∧ (S' (x + 291) = some (3, 1) ∧ S' (x + 277) = some (0, 12)) ∧ ∀ J', ∃ w, mx_C l E Mm dm 0 0 (.ref (x + 277) :: bs) (t', S', I', P', J') (mx_sR (some (.int w)) t' S' P' J' (fun K => al_ok t' S' K P' x ∧ K (x + 277) 0 = nI c)) ∧ (c = 0 → w = v)
def al_op (l : Launch) (E : mx_Env) (x n : Nat) (z : Bool) (Mv Mm : mx_M) (as bs : List Value) (f : Nat → String) (dv kv nv dm : Nat) : Prop := ∀ (t : Nat) (S : mx_S) (I : mx_I) (P : mx_P) (J : mx_G), al_ok t S I P x → al_op1 l E x n z Mv Mm as bs f dv kv nv dm t S I P J
section CE98
variable {l : Launch} {E : mx_Env} {t x : Nat} {S : mx_S} {I : mx_I} {P : mx_P} {J : mx_G}
theorem al_ok.out (h : al_ok t S I P x) : S (x + 291) = some (3, 1) ∧ S (x + 277) = some (0, 12) := ⟨h.2.1.2.2.2.2.2.2.2.2.2.2.2.2.2, h.2.1.2.2.2.2.2.2.2.2.2.2.2.2.1.1⟩
theorem al_ok.mv {t' : Nat} (h : al_ok t S I P x) (ht : t ≤ t') : al_ok t' S I P x := h.cg ht ⟨fun _ _ => rfl, rfl, rfl, rfl, rfl, rfl, rfl, rfl⟩ h.2.2.2.2.2
theorem sp_mark_c {m : Nat → Int32} {G : Nat} {v w : Int32} : (sp_mark m G v w).1 ≤ 2 ∧ ((sp_mark m G v w).1 = 0 → vs_isN v G = true ∧ vs_isN w 64 = true) := by
  unfold sp_mark
  split
  · split
    · exact ⟨by show 0 ≤ 2; omega, fun _ => ⟨by assumption, by assumption⟩⟩
    · exact ⟨by show 2 ≤ 2; omega, fun h => by cases h⟩
  · exact ⟨by show 1 ≤ 2; omega, fun h => by cases h⟩
theorem vs_isN_cl {v : Int32} {n : Nat} (h : vs_isN v n = true) (hn : n < 2 ^ 31) : v.toNatClampNeg < n ∧ v = nI v.toNatClampNeg := by
  simp only [vs_isN, Bool.and_eq_true, decide_eq_true_eq] at h
  obtain ⟨h1, h2⟩ := h
  rw [Int32.le_iff_toInt_le] at h1
  rw [Int32.lt_iff_toInt_lt, nI_toInt hn] at h2
  have h1 : (0 : Int) ≤ v.toInt := h1
  have h3 : (v.toNatClampNeg : Int) = v.toInt := by unfold Int32.toNatClampNeg; omega
  refine ⟨by omega, Int32.toInt_inj.mp ?_⟩
  rw [nI_toInt (by omega)]; exact h3.symm
theorem op_mark (htr : l.stackTraces = false) {v w : Int32} : al_op l E x 2 false M_Vh_mark M_Mo_mark [.int v, .int w] [.int v, .int w] (fun c => if c = 1 then "java/lang/IndexOutOfBoundsException" else "java/lang/IllegalArgumentException") 7 3 18 2 := by
  intro t S I P J h
  have h0 := h
  obtain ⟨h1, hsh, ⟨la, D, ha, ⟨s1, s2, s3, s4, s5, s6⟩, hp⟩, -⟩ := h0
  obtain ⟨c1, -, -, -, c5, -, -, c8, -, -, -, -, c13, -⟩ := id hsh
  obtain ⟨H, G, T, g3, g4, gH, gG, gT, gT12, gin⟩ := s5.gin
  obtain ⟨A, z, a1, a2, a3, a4, a5⟩ := hp.fl
  have hc := sp_mark_c (m := I (x + 278)) (G := G) (v := v) (w := w)
  refine ⟨(sp_mark (I (x + 278)) G v w).1, 7, (sp_mark (I (x + 278)) G v w).2, _, ⟨by omega, fun h => by cases h⟩, Nat.le_refl _, mx_C_mono (c_Vh_mark htr c1 c5 s1 g4 gG c8 s3 a2 a5 a1 a4) (fun r X q => mx_pk_pg q), fun X1 hX => ?_⟩
  rcases hX with ⟨k0, hX⟩ | ⟨k0, t', ht', hX⟩
  · obtain ⟨b1, b2⟩ := hc.2 k0
    have d1 := vs_isN_cl b1 (by omega)
    have c13' : mo_ok S (mx_upP P (x + 68 + 2 + 15 * z) 2 (some la)) (x + 277) := (hsh.slot (la := la) a5).2.2.2.2.2.2.2.2.2.2.2.2.1
    refine ⟨t, S, _, _, hX, Nat.le_refl _, h.out, fun J' => ⟨(sp_mark (I (x + 278)) G v w).2, mx_C_mono (c_Mo_mark (mo := x + 277) c13' (m := I (x + 278)) (A := A) (G := G) ?_ g4 gG ?_ a4) (mx_ri_sR ⟨?_, ?_⟩), fun _ => rfl⟩⟩
    · unfold vs_keep
      rw [mx_up_ne (by omega), mx_up_ne (by omega), mx_up_ne (by omega), vs_stT_o (by omega)]
    · unfold vs_keep
      rw [mx_up_ne (by omega), mx_up_ne (by omega), mx_up_ne (by omega), vs_stT_o (by omega)]; exact a3
    · rw [k0]
      have q := al_write (c := x + 29) (j := v.toNatClampNeg) (wk := 43 + 3 * v.toNatClampNeg + 2) (v := w) h s3 a1 a4 a2 a5 (by omega) (by omega) (by omega) (fun I' m hm => st_upc (s := x + 23) (r := 5) (j := v.toNatClampNeg) (v := w) hm (by unfold pe_cor; omega)) (s5.up (Or.inr (Or.inr (Or.inr (Or.inl ⟨v.toNatClampNeg, by omega, rfl⟩)))))
      exact q
    · rw [k0]
      unfold vs_chg
      rw [if_pos rfl, mx_up_ne (by omega)]
      unfold vs_rem
      split
      · rw [mu_n (by omega), vs_cq_ne (by omega), mu_n (by omega), vs_cq_ne (by omega)]; exact mu_e
      · rw [mu_n (by omega), vs_cq_ne (by omega)]; exact mu_e
  · refine ⟨t', S, I, P, hX, ht', h.out, fun J' => ⟨(sp_mark (I (x + 278)) G v w).2, mx_C_mono (c_Mo_mark (mo := x + 277) c13 (m := I (x + 278)) (A := A) (G := G) rfl g4 gG a3 a4) (mx_ri_sR ⟨?_, ?_⟩), fun _ => rfl⟩⟩
    · unfold vs_chg
      rw [if_neg k0]
      exact h.mo0 ht'
    · unfold vs_chg
      rw [if_neg k0]; exact mu_e
end CE98
