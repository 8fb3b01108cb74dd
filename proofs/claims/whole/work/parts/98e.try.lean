/-! THE OPERATIONS THAT TRY ON A COPY -/
section CH98
variable {l : Launch} {E : mx_Env} {x : Nat} {I K : mx_I}
theorem op_gladder (htr : l.stackTraces = false) {v : Int32} : al_op l E x 1 false M_Vh_gladder M_Mo_gladder [.int v] [.int v] (fun _ => "java/lang/IllegalArgumentException") 8 1 6 36 := by
  intro t S I P J h
  obtain ⟨h1, hsh, ⟨la, D, ha, ⟨s1, ⟨N, zl, s2⟩, s3, s4, s5, s6⟩, hp⟩, -, ⟨fx, Lx, hf, hg⟩, h6⟩ := id h
  obtain ⟨c1, c2, c3, c4, c5, c6, c7, c8, c9, c10, c11, c12, c13, c14⟩ := id hsh
  obtain ⟨H, G, T, g1, g2, g3, g4, g5, g6, g7, g8, g9, g10, g11⟩ := id s5
  obtain ⟨gH, gG, gH8, gG8, g12⟩ := id g3
  replace gH8 : H ≤ 8 := gH8
  replace gG8 : G ≤ 8 := gG8
  replace gH : I (x + 278) 3 = nI H := gH
  replace gG : I (x + 278) 4 = nI G := gG
  have hla5 : x + 250 ≠ la + 5 := by have := ha.1; omega
  have hla6 : x + 278 ≠ la + 5 := by have := ha.1; omega
  have hla7 : x + 282 ≠ la + 5 := by have := ha.1; omega
  have hla8 : x + 277 ≠ la + 5 := by have := ha.1; omega
  have hd : la + 6 ≤ x + 23 ∨ x + 292 ≤ la := by have := ha.1; omega
  have hd2 : la + 6 ≤ x + 23 ∨ x + 23 + 15 ≤ la := by omega
  have hd3 : x + 17 ≤ la := by have := ha.1; omega
  refine al_rt (sp := sp_gladder D (I (x + 278)) H v) h s3 ?_ (c_Vh_gladder htr c1 c5 s1 c6 s3 s4 hd ⟨N, zl, s2⟩ ⟨gH, g6, g8⟩ gH8 gG8) ?_ (fun t' K P2 J' hM hm => c_Mo_gladder (mo := x + 277) hM hm (TX := tx_law D) (dd := 31) s6.1 (fun m I h g q a b c d e => c_Mo_asks hM b a c d e) (fun m m2 a b => a.cg (b 1 (by omega)) (b 2 (by omega)) (fun k hk => b k (by omega))) (by omega) ⟨gH, g6, g8⟩ gH8 gG8) ?_
  · unfold sp_gladder
    repeat' split
    all_goals first | exact Nat.zero_le _ | exact Nat.le_refl _ | exact Nat.le_succ _ | (simp; done)
  · intro K hK; exact al_cv.off al_cv.rf hK (fun c hc => by unfold wz at hc; omega) hla5
  · intro K K' hK; exact al_cm.cz hK
theorem op_settle (htr : l.stackTraces = false) {v : Int32} : al_op l E x 1 false M_Vh_settle M_Mo_settle [.int v] [.int v] (fun _ => "java/lang/IndexOutOfBoundsException") 7 1 6 36 := by
  intro t S I P J h
  obtain ⟨h1, hsh, ⟨la, D, ha, ⟨s1, ⟨N, zl, s2⟩, s3, s4, s5, s6⟩, hp⟩, -, ⟨fx, Lx, hf, hg⟩, h6⟩ := id h
  obtain ⟨c1, c2, c3, c4, c5, c6, c7, c8, c9, c10, c11, c12, c13, c14⟩ := id hsh
  obtain ⟨H, G, T, g1, g2, g3, g4, g5, g6, g7, g8, g9, g10, g11⟩ := id s5
  obtain ⟨gH, gG, gH8, gG8, g12⟩ := id g3
  replace gH8 : H ≤ 8 := gH8
  replace gG8 : G ≤ 8 := gG8
  replace gH : I (x + 278) 3 = nI H := gH
  replace gG : I (x + 278) 4 = nI G := gG
  have hla5 : x + 250 ≠ la + 5 := by have := ha.1; omega
  have hla6 : x + 278 ≠ la + 5 := by have := ha.1; omega
  have hla7 : x + 282 ≠ la + 5 := by have := ha.1; omega
  have hla8 : x + 277 ≠ la + 5 := by have := ha.1; omega
  have hd : la + 6 ≤ x + 23 ∨ x + 292 ≤ la := by have := ha.1; omega
  have hd2 : la + 6 ≤ x + 23 ∨ x + 23 + 15 ≤ la := by omega
  have hd3 : x + 17 ≤ la := by have := ha.1; omega
  refine al_rt (sp := sp_settle D (I (x + 278)) H v) h s3 ?_ (c_Vh_settle htr c1 c5 s1 c6 s3 s4 hd ⟨N, zl, s2⟩ ⟨gH, g6, g8⟩ gH8 gG8) ?_ (fun t' K P2 J' hM hm => c_Mo_settle (mo := x + 277) hM hm (TX := tx_law D) (dd := 31) s6.1 (fun m I h g q a b c d e => c_Mo_asks hM b a c d e) (fun m m2 a b => a.cg (b 1 (by omega)) (b 2 (by omega)) (fun k hk => b k (by omega))) (by omega) ⟨gH, g6, g8⟩ gH8 gG8) ?_
  · unfold sp_settle
    repeat' split
    all_goals first | exact Nat.zero_le _ | exact Nat.le_refl _ | exact Nat.le_succ _ | (simp; done)
  · intro K hK; exact al_cv.off al_cv.rf hK (fun c hc => by unfold wz at hc; omega) hla5
  · intro K K' hK; exact al_cm.cz hK
theorem op_ahead (htr : l.stackTraces = false) {v w u : Int32} : al_op l E x 3 false M_Vh_ahead M_Mo_ahead [.int v, .int w, .int u] [.int v, .int w, .int u] (fun c => if c = 1 then "java/lang/IndexOutOfBoundsException" else if c = 2 then "java/lang/IllegalArgumentException" else "java/util/NoSuchElementException") 8 3 18 36 := by
  intro t S I P J h
  obtain ⟨h1, hsh, ⟨la, D, ha, ⟨s1, ⟨N, zl, s2⟩, s3, s4, s5, s6⟩, hp⟩, -, ⟨fx, Lx, hf, hg⟩, h6⟩ := id h
  obtain ⟨c1, c2, c3, c4, c5, c6, c7, c8, c9, c10, c11, c12, c13, c14⟩ := id hsh
  obtain ⟨H, G, T, g1, g2, g3, g4, g5, g6, g7, g8, g9, g10, g11⟩ := id s5
  obtain ⟨gH, gG, gH8, gG8, g12⟩ := id g3
  replace gH8 : H ≤ 8 := gH8
  replace gG8 : G ≤ 8 := gG8
  replace gH : I (x + 278) 3 = nI H := gH
  replace gG : I (x + 278) 4 = nI G := gG
  have hla5 : x + 250 ≠ la + 5 := by have := ha.1; omega
  have hla6 : x + 278 ≠ la + 5 := by have := ha.1; omega
  have hla7 : x + 282 ≠ la + 5 := by have := ha.1; omega
  have hla8 : x + 277 ≠ la + 5 := by have := ha.1; omega
  have hd : la + 6 ≤ x + 23 ∨ x + 292 ≤ la := by have := ha.1; omega
  have hd2 : la + 6 ≤ x + 23 ∨ x + 23 + 15 ≤ la := by omega
  have hd3 : x + 17 ≤ la := by have := ha.1; omega
  refine al_rt (sp := sp_ahead D (I (x + 278)) H v w u) h s3 ?_ (c_Vh_ahead htr c1 c5 s1 c6 s3 s4 hd ⟨N, zl, s2⟩ ⟨gH, g6, g8⟩ gH8 gG8) ?_ (fun t' K P2 J' hM hm => c_Mo_ahead (mo := x + 277) hM hm (TX := tx_law D) (dd := 31) s6.1 (fun m I h g q a b c d e => c_Mo_asks hM b a c d e) (fun m m2 a b => a.cg (b 1 (by omega)) (b 2 (by omega)) (fun k hk => b k (by omega))) (by omega) ⟨gH, g6, g8⟩ gH8 gG8) ?_
  · unfold sp_ahead
    repeat' split
    all_goals first | exact Nat.zero_le _ | exact Nat.le_refl _ | exact Nat.le_succ _ | (simp; done)
  · intro K hK; exact al_cv.off al_cv.rf hK (fun c hc => by unfold wz at hc; omega) hla5
  · intro K K' hK; exact al_cm.cz hK
theorem op_trial (htr : l.stackTraces = false) {v : Int32} {b : Bool} : al_op l E x 1 false M_Vh_trial M_Mo_trial [.int v, .int (bI b)] [.int v, .int (bI b)] (fun _ => "java/lang/IllegalArgumentException") 8 1 6 36 := by
  intro t S I P J h
  obtain ⟨h1, hsh, ⟨la, D, ha, ⟨s1, ⟨N, zl, s2⟩, s3, s4, s5, s6⟩, hp⟩, -, ⟨fx, Lx, hf, hg⟩, h6⟩ := id h
  obtain ⟨c1, c2, c3, c4, c5, c6, c7, c8, c9, c10, c11, c12, c13, c14⟩ := id hsh
  obtain ⟨H, G, T, g1, g2, g3, g4, g5, g6, g7, g8, g9, g10, g11⟩ := id s5
  obtain ⟨gH, gG, gH8, gG8, g12⟩ := id g3
  replace gH8 : H ≤ 8 := gH8
  replace gG8 : G ≤ 8 := gG8
  replace gH : I (x + 278) 3 = nI H := gH
  replace gG : I (x + 278) 4 = nI G := gG
  have hla5 : x + 250 ≠ la + 5 := by have := ha.1; omega
  have hla6 : x + 278 ≠ la + 5 := by have := ha.1; omega
  have hla7 : x + 282 ≠ la + 5 := by have := ha.1; omega
  have hla8 : x + 277 ≠ la + 5 := by have := ha.1; omega
  have hd : la + 6 ≤ x + 23 ∨ x + 292 ≤ la := by have := ha.1; omega
  have hd2 : la + 6 ≤ x + 23 ∨ x + 23 + 15 ≤ la := by omega
  have hd3 : x + 17 ≤ la := by have := ha.1; omega
  refine al_rt (sp := sp_trial D (I (x + 278)) H v b) h s3 ?_ (c_Vh_trial htr c1 c5 s1 c6 s3 s4 hd ⟨N, zl, s2⟩ ⟨gH, g6, g8⟩ gH8 gG8) ?_ (fun t' K P2 J' hM hm => c_Mo_trial (mo := x + 277) hM hm (TX := tx_law D) (dd := 31) s6.1 (fun m I h g q a b c d e => c_Mo_asks hM b a c d e) (fun m m2 a b => a.cg (b 1 (by omega)) (b 2 (by omega)) (fun k hk => b k (by omega))) (by omega) ⟨gH, g6, g8⟩ gH8 gG8) ?_
  · unfold sp_trial
    repeat' split
    all_goals first | exact Nat.zero_le _ | exact Nat.le_refl _ | exact Nat.le_succ _ | (simp; done)
  · intro K hK; exact al_cv.off al_cv.rf hK (fun c hc => by unfold wz at hc; omega) hla5
  · intro K K' hK; exact al_cm.cz hK
theorem op_span (htr : l.stackTraces = false) {v : Int32} {b : Bool} : al_op l E x 1 false M_Vh_span M_Mo_span [.int v, .int (bI b)] [.int v, .int (bI b)] (fun _ => "java/lang/IllegalArgumentException") 8 1 6 36 := by
  intro t S I P J h
  obtain ⟨h1, hsh, ⟨la, D, ha, ⟨s1, ⟨N, zl, s2⟩, s3, s4, s5, s6⟩, hp⟩, -, ⟨fx, Lx, hf, hg⟩, h6⟩ := id h
  obtain ⟨c1, c2, c3, c4, c5, c6, c7, c8, c9, c10, c11, c12, c13, c14⟩ := id hsh
  obtain ⟨H, G, T, g1, g2, g3, g4, g5, g6, g7, g8, g9, g10, g11⟩ := id s5
  obtain ⟨gH, gG, gH8, gG8, g12⟩ := id g3
  replace gH8 : H ≤ 8 := gH8
  replace gG8 : G ≤ 8 := gG8
  replace gH : I (x + 278) 3 = nI H := gH
  replace gG : I (x + 278) 4 = nI G := gG
  have hla5 : x + 250 ≠ la + 5 := by have := ha.1; omega
  have hla6 : x + 278 ≠ la + 5 := by have := ha.1; omega
  have hla7 : x + 282 ≠ la + 5 := by have := ha.1; omega
  have hla8 : x + 277 ≠ la + 5 := by have := ha.1; omega
  have hd : la + 6 ≤ x + 23 ∨ x + 292 ≤ la := by have := ha.1; omega
  have hd2 : la + 6 ≤ x + 23 ∨ x + 23 + 15 ≤ la := by omega
  have hd3 : x + 17 ≤ la := by have := ha.1; omega
  refine al_rt (sp := sp_span D (I (x + 278)) H v b) h s3 ?_ (c_Vh_span htr c1 c5 s1 c6 s3 s4 hd ⟨N, zl, s2⟩ ⟨gH, g6, g8⟩ gH8 gG8) ?_ (fun t' K P2 J' hM hm => c_Mo_span (mo := x + 277) hM hm (TX := tx_law D) (dd := 31) s6.1 (fun m I h g q a b c d e => c_Mo_asks hM b a c d e) (fun m m2 a b => a.cg (b 1 (by omega)) (b 2 (by omega)) (fun k hk => b k (by omega))) (by omega) ⟨gH, g6, g8⟩ gH8 gG8) ?_
  · unfold sp_span
    repeat' split
    all_goals first | exact Nat.zero_le _ | exact Nat.le_refl _ | exact Nat.le_succ _ | (simp; done)
  · intro K hK; exact al_cv.off al_cv.rf hK (fun c hc => by unfold wz at hc; omega) hla5
  · intro K K' hK; exact al_cm.cz hK
end CH98
