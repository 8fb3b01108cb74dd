/-! THE OPERATIONS THAT ONLY LOOK -/
section CG98
variable {l : Launch} {E : mx_Env} {x : Nat} {I K : mx_I}
theorem al_cv.m {b : Bool} {la : Nat} (h : al_cv b I K x la) (ha : la = x + 17 ∨ x + 292 ≤ la) : K (x + 277 + 1) = I (x + 278) := h.1 (x + 278) (by omega) (by omega) (by omega)
theorem al_cv.tp {b : Bool} {la L : Nat} {f : Nat → Nat} (h : al_cv b I K x la) (ha : la = x + 17 ∨ x + 292 ≤ la) (hg : mp_tx I (x + 277) f L) : tp_rel K (x + 277 + 5) f := fun k hk => ⟨hg.2.2.1 k hk, (congrFun (h.1 (x + 277 + 5) (by omega) (by omega) (by omega)) k).trans (hg.2.2.2 k hk)⟩
theorem al_cv.tl {b : Bool} {la L : Nat} {f : Nat → Nat} (h : al_cv b I K x la) (ha : la = x + 17 ∨ x + 292 ≤ la) (hg : mp_tx I (x + 277) f L) : K (x + 277) 8 = nI L := (congrFun (h.1 (x + 277) (by omega) (by omega) (by omega)) 8).trans hg.1
theorem al_cv.a6 {b : Bool} {la A : Nat} (h : al_cv b I K x la) (ha : la = x + 17 ∨ x + 292 ≤ la) (hg : I (x + 277) 6 = nI A) : K (x + 277) 6 = nI A := (congrFun (h.1 (x + 277) (by omega) (by omega) (by omega)) 6).trans hg
theorem op_rank (htr : l.stackTraces = false) {v w : Int32} {b : Bool} : al_op l E x 1 false M_Vh_rank M_Mo_rank [.int v, .int w, .int (bI b)] [.int v, .int w, .int (bI b)] (fun _ => "java/lang/IndexOutOfBoundsException") 7 2 12 2 := by
  intro t S I P J h
  obtain ⟨h1, hsh, ⟨la, D, ha, ⟨s1, ⟨N, zl, s2⟩, s3, s4, s5, s6⟩, hp⟩, -, ⟨fx, Lx, hf, hg⟩, h6⟩ := id h
  obtain ⟨c1, c2, c3, c4, c5, c6, c7, c8, c9, c10, c11, c12, c13, c14⟩ := id hsh
  obtain ⟨H, G, T, g1, g2, g3, g4, g5, g6, g7, g8, g9, g10, g11⟩ := id s5
  obtain ⟨gH, gG, gH8, gG8, g12⟩ := id g3
  replace gH8 : H ≤ 8 := gH8
  replace gG8 : G ≤ 8 := gG8
  replace gH : I (x + 278) 3 = nI H := gH
  replace gG : I (x + 278) 4 = nI G := gG
  have hla5 : x + 250 ≠ la + 5 := by have := ha.1; omega
  have hla6 : x + 278 ≠ la + 5 := by have := ha.1; omega
  have hla7 : x + 282 ≠ la + 5 := by have := ha.1; omega
  have hla8 : x + 277 ≠ la + 5 := by have := ha.1; omega
  have hd : la + 6 ≤ x + 23 ∨ x + 292 ≤ la := by have := ha.1; omega
  have hd2 : la + 6 ≤ x + 23 ∨ x + 23 + 15 ≤ la := by omega
  have hd3 : x + 17 ≤ la := by have := ha.1; omega
  refine al_ro (sp := sp_rank (I (x + 278)) H G v w b) h s3 ?_ false (mx_C_mono (c_Vh_rank htr c1 c5 s1 gH gH8 gG gG8) mx_po_R) ?_ (fun t' K J' hK => (mx_C_mono (c_Mo_rank (mo := x + 277) c13 (hK.m ha.1) gH gH8 gG gG8) mx_ri_s)) ?_
  · unfold sp_rank
    repeat' split
    all_goals first | exact Nat.zero_le _ | exact Nat.le_refl _ | exact Nat.le_succ _ | (simp; done)
  · rintro K rfl; exact al_cv.rf
  · rintro K K' rfl; exact al_cm.e0
theorem op_booked (htr : l.stackTraces = false) {v u : Int32} : al_op l E x 1 false M_Vh_booked M_Mo_booked [.int v, .int u] [.int v, .int u] (fun _ => "java/lang/IndexOutOfBoundsException") 7 2 12 2 := by
  intro t S I P J h
  obtain ⟨h1, hsh, ⟨la, D, ha, ⟨s1, ⟨N, zl, s2⟩, s3, s4, s5, s6⟩, hp⟩, -, ⟨fx, Lx, hf, hg⟩, h6⟩ := id h
  obtain ⟨c1, c2, c3, c4, c5, c6, c7, c8, c9, c10, c11, c12, c13, c14⟩ := id hsh
  obtain ⟨H, G, T, g1, g2, g3, g4, g5, g6, g7, g8, g9, g10, g11⟩ := id s5
  obtain ⟨gH, gG, gH8, gG8, g12⟩ := id g3
  replace gH8 : H ≤ 8 := gH8
  replace gG8 : G ≤ 8 := gG8
  replace gH : I (x + 278) 3 = nI H := gH
  replace gG : I (x + 278) 4 = nI G := gG
  have hla5 : x + 250 ≠ la + 5 := by have := ha.1; omega
  have hla6 : x + 278 ≠ la + 5 := by have := ha.1; omega
  have hla7 : x + 282 ≠ la + 5 := by have := ha.1; omega
  have hla8 : x + 277 ≠ la + 5 := by have := ha.1; omega
  have hd : la + 6 ≤ x + 23 ∨ x + 292 ≤ la := by have := ha.1; omega
  have hd2 : la + 6 ≤ x + 23 ∨ x + 23 + 15 ≤ la := by omega
  have hd3 : x + 17 ≤ la := by have := ha.1; omega
  refine al_ro (sp := sp_booked (I (x + 278)) H v u) h s3 ?_ false (mx_C_mono (c_Vh_booked htr c1 c5 s1 gH gH8) mx_po_R) ?_ (fun t' K J' hK => (mx_C_mono (c_Mo_booked (mo := x + 277) c13 (hK.m ha.1) gH gH8) mx_ri_s)) ?_
  · unfold sp_booked
    repeat' split
    all_goals first | exact Nat.zero_le _ | exact Nat.le_refl _ | exact Nat.le_succ _ | (simp; done)
  · rintro K rfl; exact al_cv.rf
  · rintro K K' rfl; exact al_cm.e0
theorem op_can (htr : l.stackTraces = false) {v w u : Int32} : al_op l E x 1 true M_Vh_can M_Mo_can [.int v, .int w, .int u] [.int v, .int w, .int u] (fun _ => "java/lang/IndexOutOfBoundsException") 8 3 18 4 := by
  intro t S I P J h
  obtain ⟨h1, hsh, ⟨la, D, ha, ⟨s1, ⟨N, zl, s2⟩, s3, s4, s5, s6⟩, hp⟩, -, ⟨fx, Lx, hf, hg⟩, h6⟩ := id h
  obtain ⟨c1, c2, c3, c4, c5, c6, c7, c8, c9, c10, c11, c12, c13, c14⟩ := id hsh
  obtain ⟨H, G, T, g1, g2, g3, g4, g5, g6, g7, g8, g9, g10, g11⟩ := id s5
  obtain ⟨gH, gG, gH8, gG8, g12⟩ := id g3
  replace gH8 : H ≤ 8 := gH8
  replace gG8 : G ≤ 8 := gG8
  replace gH : I (x + 278) 3 = nI H := gH
  replace gG : I (x + 278) 4 = nI G := gG
  have hla5 : x + 250 ≠ la + 5 := by have := ha.1; omega
  have hla6 : x + 278 ≠ la + 5 := by have := ha.1; omega
  have hla7 : x + 282 ≠ la + 5 := by have := ha.1; omega
  have hla8 : x + 277 ≠ la + 5 := by have := ha.1; omega
  have hd : la + 6 ≤ x + 23 ∨ x + 292 ≤ la := by have := ha.1; omega
  have hd2 : la + 6 ≤ x + 23 ∨ x + 23 + 15 ≤ la := by omega
  have hd3 : x + 17 ≤ la := by have := ha.1; omega
  refine al_ro (sp := sp_can (I (x + 278)) H G v w u) (hz9 := fun _ => by
    unfold sp_can
    split
    · exact ⟨_, rfl⟩
    · exact ⟨false, rfl⟩) h s3 ?_ false (mx_C_mono (c_Vh_can htr c1 c5 s1 gH gH8 gG gG8 g6.ok) mx_po_R) ?_ (fun t' K J' hK => (mx_C_mono (c_Mo_can (mo := x + 277) c13 (hK.m ha.1) gH gH8 gG gG8) mx_ri_s)) ?_
  · unfold sp_can
    repeat' split
    all_goals first | exact Nat.zero_le _ | exact Nat.le_refl _ | exact Nat.le_succ _ | (simp; done)
  · rintro K rfl; exact al_cv.rf
  · rintro K K' rfl; exact al_cm.e0
theorem op_host (htr : l.stackTraces = false) {v w : Int32} : al_op l E x 2 false M_Vh_host M_Mo_host [.int v, .int w] [.int v, .int w] (fun c => if c = 1 then "java/lang/IndexOutOfBoundsException" else "java/util/NoSuchElementException") 7 2 12 3 := by
  intro t S I P J h
  obtain ⟨h1, hsh, ⟨la, D, ha, ⟨s1, ⟨N, zl, s2⟩, s3, s4, s5, s6⟩, hp⟩, -, ⟨fx, Lx, hf, hg⟩, h6⟩ := id h
  obtain ⟨c1, c2, c3, c4, c5, c6, c7, c8, c9, c10, c11, c12, c13, c14⟩ := id hsh
  obtain ⟨H, G, T, g1, g2, g3, g4, g5, g6, g7, g8, g9, g10, g11⟩ := id s5
  obtain ⟨gH, gG, gH8, gG8, g12⟩ := id g3
  replace gH8 : H ≤ 8 := gH8
  replace gG8 : G ≤ 8 := gG8
  replace gH : I (x + 278) 3 = nI H := gH
  replace gG : I (x + 278) 4 = nI G := gG
  have hla5 : x + 250 ≠ la + 5 := by have := ha.1; omega
  have hla6 : x + 278 ≠ la + 5 := by have := ha.1; omega
  have hla7 : x + 282 ≠ la + 5 := by have := ha.1; omega
  have hla8 : x + 277 ≠ la + 5 := by have := ha.1; omega
  have hd : la + 6 ≤ x + 23 ∨ x + 292 ≤ la := by have := ha.1; omega
  have hd2 : la + 6 ≤ x + 23 ∨ x + 23 + 15 ≤ la := by omega
  have hd3 : x + 17 ≤ la := by have := ha.1; omega
  refine al_ro (sp := sp_host (I (x + 278)) H v w) h s3 ?_ false (mx_C_mono (c_Vh_host htr c1 c5 s1 gH gH8 g4) mx_po_R) ?_ (fun t' K J' hK => (mx_C_mono (c_Mo_host (mo := x + 277) c13 (hK.m ha.1) gH gH8) mx_ri_s)) ?_
  · unfold sp_host
    repeat' split
    all_goals first | exact Nat.zero_le _ | exact Nat.le_refl _ | exact Nat.le_succ _ | (simp; done)
  · rintro K rfl; exact al_cv.rf
  · rintro K K' rfl; exact al_cm.e0
theorem op_guest (htr : l.stackTraces = false) {v w : Int32} : al_op l E x 2 false M_Vh_guest M_Mo_guest [.int v, .int w] [.int v, .int w] (fun c => if c = 1 then "java/lang/IndexOutOfBoundsException" else "java/util/NoSuchElementException") 7 2 12 3 := by
  intro t S I P J h
  obtain ⟨h1, hsh, ⟨la, D, ha, ⟨s1, ⟨N, zl, s2⟩, s3, s4, s5, s6⟩, hp⟩, -, ⟨fx, Lx, hf, hg⟩, h6⟩ := id h
  obtain ⟨c1, c2, c3, c4, c5, c6, c7, c8, c9, c10, c11, c12, c13, c14⟩ := id hsh
  obtain ⟨H, G, T, g1, g2, g3, g4, g5, g6, g7, g8, g9, g10, g11⟩ := id s5
  obtain ⟨gH, gG, gH8, gG8, g12⟩ := id g3
  replace gH8 : H ≤ 8 := gH8
  replace gG8 : G ≤ 8 := gG8
  replace gH : I (x + 278) 3 = nI H := gH
  replace gG : I (x + 278) 4 = nI G := gG
  have hla5 : x + 250 ≠ la + 5 := by have := ha.1; omega
  have hla6 : x + 278 ≠ la + 5 := by have := ha.1; omega
  have hla7 : x + 282 ≠ la + 5 := by have := ha.1; omega
  have hla8 : x + 277 ≠ la + 5 := by have := ha.1; omega
  have hd : la + 6 ≤ x + 23 ∨ x + 292 ≤ la := by have := ha.1; omega
  have hd2 : la + 6 ≤ x + 23 ∨ x + 23 + 15 ≤ la := by omega
  have hd3 : x + 17 ≤ la := by have := ha.1; omega
  refine al_ro (sp := sp_guest (I (x + 278)) H G v w) h s3 ?_ false (mx_C_mono (c_Vh_guest htr c1 c5 s1 gH gH8 gG gG8) mx_po_R) ?_ (fun t' K J' hK => (mx_C_mono (c_Mo_guest (mo := x + 277) c13 (hK.m ha.1) gH gH8 gG gG8) mx_ri_s)) ?_
  · unfold sp_guest
    repeat' split
    all_goals first | exact Nat.zero_le _ | exact Nat.le_refl _ | exact Nat.le_succ _ | (simp; done)
  · rintro K rfl; exact al_cv.rf
  · rintro K K' rfl; exact al_cm.e0
theorem op_rests (htr : l.stackTraces = false) {v w : Int32} : al_op l E x 1 false M_Vh_rests M_Mo_rests [.int v, .int w] [.int v, .int w] (fun _ => "java/lang/IndexOutOfBoundsException") 7 2 12 4 := by
  intro t S I P J h
  obtain ⟨h1, hsh, ⟨la, D, ha, ⟨s1, ⟨N, zl, s2⟩, s3, s4, s5, s6⟩, hp⟩, -, ⟨fx, Lx, hf, hg⟩, h6⟩ := id h
  obtain ⟨c1, c2, c3, c4, c5, c6, c7, c8, c9, c10, c11, c12, c13, c14⟩ := id hsh
  obtain ⟨H, G, T, g1, g2, g3, g4, g5, g6, g7, g8, g9, g10, g11⟩ := id s5
  obtain ⟨gH, gG, gH8, gG8, g12⟩ := id g3
  replace gH8 : H ≤ 8 := gH8
  replace gG8 : G ≤ 8 := gG8
  replace gH : I (x + 278) 3 = nI H := gH
  replace gG : I (x + 278) 4 = nI G := gG
  have hla5 : x + 250 ≠ la + 5 := by have := ha.1; omega
  have hla6 : x + 278 ≠ la + 5 := by have := ha.1; omega
  have hla7 : x + 282 ≠ la + 5 := by have := ha.1; omega
  have hla8 : x + 277 ≠ la + 5 := by have := ha.1; omega
  have hd : la + 6 ≤ x + 23 ∨ x + 292 ≤ la := by have := ha.1; omega
  have hd2 : la + 6 ≤ x + 23 ∨ x + 23 + 15 ≤ la := by omega
  have hd3 : x + 17 ≤ la := by have := ha.1; omega
  refine al_ro (sp := sp_rests (I (x + 278)) H G v w) h s3 ?_ false (mx_C_mono (c_Vh_rests htr c1 c5 s1 gH gH8 gG gG8) mx_po_R) ?_ (fun t' K J' hK => (mx_C_mono (c_Mo_rests (mo := x + 277) c13 (hK.m ha.1) gH gH8 gG gG8) mx_ri_s)) ?_
  · unfold sp_rests
    repeat' split
    all_goals first | exact Nat.zero_le _ | exact Nat.le_refl _ | exact Nat.le_succ _ | (simp; done)
  · rintro K rfl; exact al_cv.rf
  · rintro K K' rfl; exact al_cm.e0
theorem op_treaty (htr : l.stackTraces = false) {v w : Int32} : al_op l E x 2 false M_Vh_treaty M_Mo_treaty [.int v, .int w] [.int v, .int w] (fun c => if c = 1 then "java/lang/IndexOutOfBoundsException" else "java/lang/IllegalArgumentException") 7 3 18 4 := by
  intro t S I P J h
  obtain ⟨h1, hsh, ⟨la, D, ha, ⟨s1, ⟨N, zl, s2⟩, s3, s4, s5, s6⟩, hp⟩, -, ⟨fx, Lx, hf, hg⟩, h6⟩ := id h
  obtain ⟨c1, c2, c3, c4, c5, c6, c7, c8, c9, c10, c11, c12, c13, c14⟩ := id hsh
  obtain ⟨H, G, T, g1, g2, g3, g4, g5, g6, g7, g8, g9, g10, g11⟩ := id s5
  obtain ⟨gH, gG, gH8, gG8, g12⟩ := id g3
  replace gH8 : H ≤ 8 := gH8
  replace gG8 : G ≤ 8 := gG8
  replace gH : I (x + 278) 3 = nI H := gH
  replace gG : I (x + 278) 4 = nI G := gG
  have hla5 : x + 250 ≠ la + 5 := by have := ha.1; omega
  have hla6 : x + 278 ≠ la + 5 := by have := ha.1; omega
  have hla7 : x + 282 ≠ la + 5 := by have := ha.1; omega
  have hla8 : x + 277 ≠ la + 5 := by have := ha.1; omega
  have hd : la + 6 ≤ x + 23 ∨ x + 292 ≤ la := by have := ha.1; omega
  have hd2 : la + 6 ≤ x + 23 ∨ x + 23 + 15 ≤ la := by omega
  have hd3 : x + 17 ≤ la := by have := ha.1; omega
  refine al_ro (sp := sp_treaty (I (x + 278)) H v w) h s3 ?_ false (mx_C_mono (c_Vh_treaty htr c1 c5 s1 gH gH8 g5) mx_po_R) ?_ (fun t' K J' hK => (mx_C_mono (c_Mo_treaty (mo := x + 277) c13 (hK.m ha.1) gH gH8) mx_ri_s)) ?_
  · unfold sp_treaty
    repeat' split
    all_goals first | exact Nat.zero_le _ | exact Nat.le_refl _ | exact Nat.le_succ _ | (simp; done)
  · rintro K rfl; exact al_cv.rf
  · rintro K K' rfl; exact al_cm.e0
theorem op_led (htr : l.stackTraces = false) {v : Int32} {b : Bool} : al_op l E x 1 false M_Vh_led M_Mo_led [.int v, .int (bI b)] [.int v, .int (bI b)] (fun _ => "java/lang/IndexOutOfBoundsException") 7 1 6 2 := by
  intro t S I P J h
  obtain ⟨h1, hsh, ⟨la, D, ha, ⟨s1, ⟨N, zl, s2⟩, s3, s4, s5, s6⟩, hp⟩, -, ⟨fx, Lx, hf, hg⟩, h6⟩ := id h
  obtain ⟨c1, c2, c3, c4, c5, c6, c7, c8, c9, c10, c11, c12, c13, c14⟩ := id hsh
  obtain ⟨H, G, T, g1, g2, g3, g4, g5, g6, g7, g8, g9, g10, g11⟩ := id s5
  obtain ⟨gH, gG, gH8, gG8, g12⟩ := id g3
  replace gH8 : H ≤ 8 := gH8
  replace gG8 : G ≤ 8 := gG8
  replace gH : I (x + 278) 3 = nI H := gH
  replace gG : I (x + 278) 4 = nI G := gG
  have hla5 : x + 250 ≠ la + 5 := by have := ha.1; omega
  have hla6 : x + 278 ≠ la + 5 := by have := ha.1; omega
  have hla7 : x + 282 ≠ la + 5 := by have := ha.1; omega
  have hla8 : x + 277 ≠ la + 5 := by have := ha.1; omega
  have hd : la + 6 ≤ x + 23 ∨ x + 292 ≤ la := by have := ha.1; omega
  have hd2 : la + 6 ≤ x + 23 ∨ x + 23 + 15 ≤ la := by omega
  have hd3 : x + 17 ≤ la := by have := ha.1; omega
  refine al_ro (sp := sp_led (I (x + 278)) H N v b) h s3 ?_ false (mx_C_mono (c_Vh_led htr c1 c5 s1 gH gH8 s2) mx_po_R) ?_ (fun t' K J' hK => (mx_C_mono (c_Mo_led (mo := x + 277) c13 (hK.m ha.1) gH gH8 s2.2.1 s2.2.2.1) mx_ri_s)) ?_
  · unfold sp_led
    repeat' split
    all_goals first | exact Nat.zero_le _ | exact Nat.le_refl _ | exact Nat.le_succ _ | (simp; done)
  · rintro K rfl; exact al_cv.rf
  · rintro K K' rfl; exact al_cm.e0
theorem op_log (htr : l.stackTraces = false) {v w : Int32} : al_op l E x 1 false M_Vh_log M_Mo_log [.int v, .int w] [.int v, .int w] (fun _ => "java/util/NoSuchElementException") 6 1 6 1 := by
  intro t S I P J h
  obtain ⟨h1, hsh, ⟨la, D, ha, ⟨s1, ⟨N, zl, s2⟩, s3, s4, s5, s6⟩, hp⟩, -, ⟨fx, Lx, hf, hg⟩, h6⟩ := id h
  obtain ⟨c1, c2, c3, c4, c5, c6, c7, c8, c9, c10, c11, c12, c13, c14⟩ := id hsh
  obtain ⟨H, G, T, g1, g2, g3, g4, g5, g6, g7, g8, g9, g10, g11⟩ := id s5
  obtain ⟨gH, gG, gH8, gG8, g12⟩ := id g3
  replace gH8 : H ≤ 8 := gH8
  replace gG8 : G ≤ 8 := gG8
  replace gH : I (x + 278) 3 = nI H := gH
  replace gG : I (x + 278) 4 = nI G := gG
  have hla5 : x + 250 ≠ la + 5 := by have := ha.1; omega
  have hla6 : x + 278 ≠ la + 5 := by have := ha.1; omega
  have hla7 : x + 282 ≠ la + 5 := by have := ha.1; omega
  have hla8 : x + 277 ≠ la + 5 := by have := ha.1; omega
  have hd : la + 6 ≤ x + 23 ∨ x + 292 ≤ la := by have := ha.1; omega
  have hd2 : la + 6 ≤ x + 23 ∨ x + 23 + 15 ≤ la := by omega
  have hd3 : x + 17 ≤ la := by have := ha.1; omega
  refine al_ro (sp := sp_log (I (x + 278)) N v w) h s3 ?_ false (mx_C_mono (c_Vh_log htr c1 c5 s1 s2) mx_po_R) ?_ (fun t' K J' hK => (mx_C_mono (c_Mo_log (mo := x + 277) c13 (hK.m ha.1) s2.2.1 s2.2.2.1) mx_ri_s)) ?_
  · unfold sp_log
    repeat' split
    all_goals first | exact Nat.zero_le _ | exact Nat.le_refl _ | exact Nat.le_succ _ | (simp; done)
  · rintro K rfl; exact al_cv.rf
  · rintro K K' rfl; exact al_cm.e0
theorem op_waits (htr : l.stackTraces = false) {v u : Int32} : al_op l E x 2 false M_Vh_waits M_Mo_waits [.int v, .int u] [.int v, .int u] (fun c => if c = 1 then "java/lang/IndexOutOfBoundsException" else "java/lang/IllegalArgumentException") 7 2 12 2 := by
  intro t S I P J h
  obtain ⟨h1, hsh, ⟨la, D, ha, ⟨s1, ⟨N, zl, s2⟩, s3, s4, s5, s6⟩, hp⟩, -, ⟨fx, Lx, hf, hg⟩, h6⟩ := id h
  obtain ⟨c1, c2, c3, c4, c5, c6, c7, c8, c9, c10, c11, c12, c13, c14⟩ := id hsh
  obtain ⟨H, G, T, g1, g2, g3, g4, g5, g6, g7, g8, g9, g10, g11⟩ := id s5
  obtain ⟨gH, gG, gH8, gG8, g12⟩ := id g3
  replace gH8 : H ≤ 8 := gH8
  replace gG8 : G ≤ 8 := gG8
  replace gH : I (x + 278) 3 = nI H := gH
  replace gG : I (x + 278) 4 = nI G := gG
  have hla5 : x + 250 ≠ la + 5 := by have := ha.1; omega
  have hla6 : x + 278 ≠ la + 5 := by have := ha.1; omega
  have hla7 : x + 282 ≠ la + 5 := by have := ha.1; omega
  have hla8 : x + 277 ≠ la + 5 := by have := ha.1; omega
  have hd : la + 6 ≤ x + 23 ∨ x + 292 ≤ la := by have := ha.1; omega
  have hd2 : la + 6 ≤ x + 23 ∨ x + 23 + 15 ≤ la := by omega
  have hd3 : x + 17 ≤ la := by have := ha.1; omega
  refine al_ro (sp := sp_waits (I (x + 278)) v u) h s3 ?_ false (mx_C_mono (c_Vh_waits htr c1 c5 s1) mx_po_R) ?_ (fun t' K J' hK => (mx_C_mono (c_Mo_waits (mo := x + 277) c13 (hK.m ha.1) g9) mx_ri_s)) ?_
  · unfold sp_waits
    repeat' split
    all_goals first | exact Nat.zero_le _ | exact Nat.le_refl _ | exact Nat.le_succ _ | (simp; done)
  · rintro K rfl; exact al_cv.rf
  · rintro K K' rfl; exact al_cm.e0
theorem op_odds (htr : l.stackTraces = false) {v w : Int32} : al_op l E x 1 false M_Vh_odds M_Mo_odds [.int v, .int w] [.int v, .int w] (fun _ => "java/lang/IllegalArgumentException") 7 2 12 2 := by
  intro t S I P J h
  obtain ⟨h1, hsh, ⟨la, D, ha, ⟨s1, ⟨N, zl, s2⟩, s3, s4, s5, s6⟩, hp⟩, -, ⟨fx, Lx, hf, hg⟩, h6⟩ := id h
  obtain ⟨c1, c2, c3, c4, c5, c6, c7, c8, c9, c10, c11, c12, c13, c14⟩ := id hsh
  obtain ⟨H, G, T, g1, g2, g3, g4, g5, g6, g7, g8, g9, g10, g11⟩ := id s5
  obtain ⟨gH, gG, gH8, gG8, g12⟩ := id g3
  replace gH8 : H ≤ 8 := gH8
  replace gG8 : G ≤ 8 := gG8
  replace gH : I (x + 278) 3 = nI H := gH
  replace gG : I (x + 278) 4 = nI G := gG
  have hla5 : x + 250 ≠ la + 5 := by have := ha.1; omega
  have hla6 : x + 278 ≠ la + 5 := by have := ha.1; omega
  have hla7 : x + 282 ≠ la + 5 := by have := ha.1; omega
  have hla8 : x + 277 ≠ la + 5 := by have := ha.1; omega
  have hd : la + 6 ≤ x + 23 ∨ x + 292 ≤ la := by have := ha.1; omega
  have hd2 : la + 6 ≤ x + 23 ∨ x + 23 + 15 ≤ la := by omega
  have hd3 : x + 17 ≤ la := by have := ha.1; omega
  refine al_ro (sp := sp_odds (I (x + 278)) v w) h s3 ?_ false (mx_C_mono (c_Vh_odds htr c1 c5 s1) mx_po_R) ?_ (fun t' K J' hK => (mx_C_mono (c_Mo_odds (mo := x + 277) c13 (hK.m ha.1) ) mx_ri_s)) ?_
  · unfold sp_odds
    repeat' split
    all_goals first | exact Nat.zero_le _ | exact Nat.le_refl _ | exact Nat.le_succ _ | (simp; done)
  · rintro K rfl; exact al_cv.rf
  · rintro K K' rfl; exact al_cm.e0
theorem op_hand (htr : l.stackTraces = false) {b : Bool} : al_op l E x 1 false M_Vh_hand M_Mo_hand [.int (bI b)] [.int (bI b)] (fun _ => "java/lang/IllegalArgumentException") 7 1 6 3 := by
  intro t S I P J h
  obtain ⟨h1, hsh, ⟨la, D, ha, ⟨s1, ⟨N, zl, s2⟩, s3, s4, s5, s6⟩, hp⟩, -, ⟨fx, Lx, hf, hg⟩, h6⟩ := id h
  obtain ⟨c1, c2, c3, c4, c5, c6, c7, c8, c9, c10, c11, c12, c13, c14⟩ := id hsh
  obtain ⟨H, G, T, g1, g2, g3, g4, g5, g6, g7, g8, g9, g10, g11⟩ := id s5
  obtain ⟨gH, gG, gH8, gG8, g12⟩ := id g3
  replace gH8 : H ≤ 8 := gH8
  replace gG8 : G ≤ 8 := gG8
  replace gH : I (x + 278) 3 = nI H := gH
  replace gG : I (x + 278) 4 = nI G := gG
  have hla5 : x + 250 ≠ la + 5 := by have := ha.1; omega
  have hla6 : x + 278 ≠ la + 5 := by have := ha.1; omega
  have hla7 : x + 282 ≠ la + 5 := by have := ha.1; omega
  have hla8 : x + 277 ≠ la + 5 := by have := ha.1; omega
  have hd : la + 6 ≤ x + 23 ∨ x + 292 ≤ la := by have := ha.1; omega
  have hd2 : la + 6 ≤ x + 23 ∨ x + 23 + 15 ≤ la := by omega
  have hd3 : x + 17 ≤ la := by have := ha.1; omega
  refine al_ro (sp := sp_hand (I (x + 278)) fx Lx H G b) h s3 ?_ true (mx_C_mono (c_Vh_hand htr c1 c5 s1 gH gH8 gG gG8 c9 hf.1 hf.2.2 hf.2.1) mx_po_R) ?_ (fun t' K J' hK => (mx_C_mono (c_Mo_hand (mo := x + 277) c13 (hK.m ha.1) gH gH8 gG gG8 (hK.tp ha.1 hg) (hK.tl ha.1 hg) hf.2.2) mx_ri_s)) ?_
  · unfold sp_hand
    repeat' split
    all_goals first | exact Nat.zero_le _ | exact Nat.le_refl _ | exact Nat.le_succ _ | (simp; done)
  · rintro K rfl; exact al_cv.t0
  · rintro K K' rfl; exact al_cm.t0
theorem op_rather (htr : l.stackTraces = false) : al_op l E x 1 false M_Vh_rather M_Mo_rather [] [] (fun _ => "java/lang/IllegalArgumentException") 7 1 6 4 := by
  intro t S I P J h
  obtain ⟨h1, hsh, ⟨la, D, ha, ⟨s1, ⟨N, zl, s2⟩, s3, s4, s5, s6⟩, hp⟩, -, ⟨fx, Lx, hf, hg⟩, h6⟩ := id h
  obtain ⟨c1, c2, c3, c4, c5, c6, c7, c8, c9, c10, c11, c12, c13, c14⟩ := id hsh
  obtain ⟨H, G, T, g1, g2, g3, g4, g5, g6, g7, g8, g9, g10, g11⟩ := id s5
  obtain ⟨gH, gG, gH8, gG8, g12⟩ := id g3
  replace gH8 : H ≤ 8 := gH8
  replace gG8 : G ≤ 8 := gG8
  replace gH : I (x + 278) 3 = nI H := gH
  replace gG : I (x + 278) 4 = nI G := gG
  have hla5 : x + 250 ≠ la + 5 := by have := ha.1; omega
  have hla6 : x + 278 ≠ la + 5 := by have := ha.1; omega
  have hla7 : x + 282 ≠ la + 5 := by have := ha.1; omega
  have hla8 : x + 277 ≠ la + 5 := by have := ha.1; omega
  have hd : la + 6 ≤ x + 23 ∨ x + 292 ≤ la := by have := ha.1; omega
  have hd2 : la + 6 ≤ x + 23 ∨ x + 23 + 15 ≤ la := by omega
  have hd3 : x + 17 ≤ la := by have := ha.1; omega
  refine al_ro (sp := sp_rather (I (x + 278)) fx Lx H G) h s3 ?_ true (c_Vh_rather htr c1 c5 s1 gH gH8 gG gG8 c9 hf.1 hf.2.2 hf.2.1 c2 g6) ?_ (fun t' K J' hK => (c_Mo_rather (mo := x + 277) c13 (hK.m ha.1) gH gH8 gG gG8 g6 (hK.tp ha.1 hg) (hK.tl ha.1 hg) hf.2.2)) ?_
  · unfold sp_rather
    repeat' split
    all_goals first | exact Nat.zero_le _ | exact Nat.le_refl _ | exact Nat.le_succ _ | (simp; done)
  · intro K hK; exact al_cv.off al_cv.t0 hK (fun c hc => by first | omega | (unfold zs at hc; omega) | (unfold gz at hc; omega) | (unfold dw zs at hc; omega)) hla5
  · intro K K' hK; exact al_cm.off al_cm.t0 hK (fun c hc => by first | omega | (unfold pz3 at hc; omega))
theorem op_rules (htr : l.stackTraces = false) {b : Bool} : al_op l E x 1 false M_Vh_rules M_Mo_rules [.int (bI b)] [.int (bI b)] (fun _ => "java/lang/IllegalArgumentException") 8 1 6 2 := by
  intro t S I P J h
  obtain ⟨h1, hsh, ⟨la, D, ha, ⟨s1, ⟨N, zl, s2⟩, s3, s4, s5, s6⟩, hp⟩, -, ⟨fx, Lx, hf, hg⟩, h6⟩ := id h
  obtain ⟨c1, c2, c3, c4, c5, c6, c7, c8, c9, c10, c11, c12, c13, c14⟩ := id hsh
  obtain ⟨H, G, T, g1, g2, g3, g4, g5, g6, g7, g8, g9, g10, g11⟩ := id s5
  obtain ⟨gH, gG, gH8, gG8, g12⟩ := id g3
  replace gH8 : H ≤ 8 := gH8
  replace gG8 : G ≤ 8 := gG8
  replace gH : I (x + 278) 3 = nI H := gH
  replace gG : I (x + 278) 4 = nI G := gG
  have hla5 : x + 250 ≠ la + 5 := by have := ha.1; omega
  have hla6 : x + 278 ≠ la + 5 := by have := ha.1; omega
  have hla7 : x + 282 ≠ la + 5 := by have := ha.1; omega
  have hla8 : x + 277 ≠ la + 5 := by have := ha.1; omega
  have hd : la + 6 ≤ x + 23 ∨ x + 292 ≤ la := by have := ha.1; omega
  have hd2 : la + 6 ≤ x + 23 ∨ x + 23 + 15 ≤ la := by omega
  have hd3 : x + 17 ≤ la := by have := ha.1; omega
  cases hgh : vs_gh fx Lx with
  | true =>
    refine al_ro (sp := sp_rules fx Lx b) h s3 ?_ true (c_Vh_rules htr c1 c9 hf.1 hf.2.2 hf.2.1 c4) ?_ (fun t' K J' hK => (c_Mo_rulesT (mo := x + 277) c13 (hK.m ha.1) (hK.tp ha.1 hg) (hK.tl ha.1 hg) hf.2.2 hgh)) ?_
    · unfold sp_rules
      repeat' split
      all_goals first | exact Nat.zero_le _ | exact Nat.le_refl _ | exact Nat.le_succ _ | (simp; done)
    · intro K hK; exact al_cv.off al_cv.t0 hK (fun c hc => by first | omega | (unfold zs at hc; omega) | (unfold gz at hc; omega) | (unfold dw zs at hc; omega)) hla5
    · intro K K' hK; exact al_cm.off al_cm.t0 hK (fun c hc => by first | omega | (unfold pz3 at hc; omega))
  | false =>
    refine al_ro (sp := sp_rules fx Lx b) h s3 ?_ true (c_Vh_rules htr c1 c9 hf.1 hf.2.2 hf.2.1 c4) ?_ (fun t' K J' hK => (c_Mo_rulesF (mo := x + 277) c13 (hK.m ha.1) (hK.tp ha.1 hg) (hK.tl ha.1 hg) hf.2.2 hgh)) ?_
    · unfold sp_rules
      repeat' split
      all_goals first | exact Nat.zero_le _ | exact Nat.le_refl _ | exact Nat.le_succ _ | (simp; done)
    · intro K hK; exact al_cv.off al_cv.t0 hK (fun c hc => by first | omega | (unfold zs at hc; omega) | (unfold gz at hc; omega) | (unfold dw zs at hc; omega)) hla5
    · intro K K' hK; exact al_cm.off al_cm.t0 hK (fun c hc => by first | omega | (unfold pz3 at hc; omega))
theorem op_send (htr : l.stackTraces = false) : al_op l E x 1 false M_Vh_send M_Mo_send [] [] (fun _ => "java/lang/IllegalArgumentException") 8 1 6 2 := by
  intro t S I P J h
  obtain ⟨h1, hsh, ⟨la, D, ha, ⟨s1, ⟨N, zl, s2⟩, s3, s4, s5, s6⟩, hp⟩, -, ⟨fx, Lx, hf, hg⟩, h6⟩ := id h
  obtain ⟨c1, c2, c3, c4, c5, c6, c7, c8, c9, c10, c11, c12, c13, c14⟩ := id hsh
  obtain ⟨H, G, T, g1, g2, g3, g4, g5, g6, g7, g8, g9, g10, g11⟩ := id s5
  obtain ⟨gH, gG, gH8, gG8, g12⟩ := id g3
  replace gH8 : H ≤ 8 := gH8
  replace gG8 : G ≤ 8 := gG8
  replace gH : I (x + 278) 3 = nI H := gH
  replace gG : I (x + 278) 4 = nI G := gG
  have hla5 : x + 250 ≠ la + 5 := by have := ha.1; omega
  have hla6 : x + 278 ≠ la + 5 := by have := ha.1; omega
  have hla7 : x + 282 ≠ la + 5 := by have := ha.1; omega
  have hla8 : x + 277 ≠ la + 5 := by have := ha.1; omega
  have hd : la + 6 ≤ x + 23 ∨ x + 292 ≤ la := by have := ha.1; omega
  have hd2 : la + 6 ≤ x + 23 ∨ x + 23 + 15 ≤ la := by omega
  have hd3 : x + 17 ≤ la := by have := ha.1; omega
  cases hgh : vs_gh fx Lx with
  | true =>
    refine al_ro (sp := sp_send fx Lx) h s3 ?_ true (c_Vh_send htr c1 c9 hf.1 hf.2.2 hf.2.1 c4) ?_ (fun t' K J' hK => (c_Mo_sendT (mo := x + 277) c13 (hK.m ha.1) (hK.tp ha.1 hg) (hK.tl ha.1 hg) hf.2.2 hgh)) ?_
    · unfold sp_send
      repeat' split
      all_goals first | exact Nat.zero_le _ | exact Nat.le_refl _ | exact Nat.le_succ _ | (simp; done)
    · intro K hK; exact al_cv.off al_cv.t0 hK (fun c hc => by first | omega | (unfold zs at hc; omega) | (unfold gz at hc; omega) | (unfold dw zs at hc; omega)) hla5
    · intro K K' hK; exact al_cm.off al_cm.t0 hK (fun c hc => by first | omega | (unfold pz3 at hc; omega))
  | false =>
    refine al_ro (sp := sp_send fx Lx) h s3 ?_ true (c_Vh_send htr c1 c9 hf.1 hf.2.2 hf.2.1 c4) ?_ (fun t' K J' hK => (c_Mo_sendF (mo := x + 277) c13 (hK.m ha.1) (hK.tp ha.1 hg) (hK.tl ha.1 hg) hf.2.2 hgh)) ?_
    · unfold sp_send
      repeat' split
      all_goals first | exact Nat.zero_le _ | exact Nat.le_refl _ | exact Nat.le_succ _ | (simp; done)
    · intro K hK; exact al_cv.off al_cv.t0 hK (fun c hc => by first | omega | (unfold zs at hc; omega) | (unfold gz at hc; omega) | (unfold dw zs at hc; omega)) hla5
    · intro K K' hK; exact al_cm.off al_cm.t0 hK (fun c hc => by first | omega | (unfold pz3 at hc; omega))
theorem op_afternoon (htr : l.stackTraces = false) {v w : Int32} : al_op l E x 1 false M_Vh_afternoon M_Mo_afternoon [.int v, .int w] [.int v, .int w] (fun _ => "java/lang/IndexOutOfBoundsException") 7 2 12 6 := by
  intro t S I P J h
  obtain ⟨h1, hsh, ⟨la, D, ha, ⟨s1, ⟨N, zl, s2⟩, s3, s4, s5, s6⟩, hp⟩, -, ⟨fx, Lx, hf, hg⟩, h6⟩ := id h
  obtain ⟨c1, c2, c3, c4, c5, c6, c7, c8, c9, c10, c11, c12, c13, c14⟩ := id hsh
  obtain ⟨H, G, T, g1, g2, g3, g4, g5, g6, g7, g8, g9, g10, g11⟩ := id s5
  obtain ⟨gH, gG, gH8, gG8, g12⟩ := id g3
  replace gH8 : H ≤ 8 := gH8
  replace gG8 : G ≤ 8 := gG8
  replace gH : I (x + 278) 3 = nI H := gH
  replace gG : I (x + 278) 4 = nI G := gG
  have hla5 : x + 250 ≠ la + 5 := by have := ha.1; omega
  have hla6 : x + 278 ≠ la + 5 := by have := ha.1; omega
  have hla7 : x + 282 ≠ la + 5 := by have := ha.1; omega
  have hla8 : x + 277 ≠ la + 5 := by have := ha.1; omega
  have hd : la + 6 ≤ x + 23 ∨ x + 292 ≤ la := by have := ha.1; omega
  have hd2 : la + 6 ≤ x + 23 ∨ x + 23 + 15 ≤ la := by omega
  have hd3 : x + 17 ≤ la := by have := ha.1; omega
  refine al_ro (sp := sp_afternoon (I (x + 278)) H G v w) h s3 ?_ false (c_Vh_afternoon htr c1 c5 s1 gH gH8 gG gG8 c3 g6) ?_ (fun t' K J' hK => (c_Mo_afternoon (mo := x + 277) c13 (hK.m ha.1) gH gH8 gG gG8)) ?_
  · unfold sp_afternoon
    repeat' split
    all_goals first | exact Nat.zero_le _ | exact Nat.le_refl _ | exact Nat.le_succ _ | (simp; done)
  · intro K hK; exact al_cv.off al_cv.rf hK (fun c hc => by first | omega | (unfold zs at hc; omega) | (unfold gz at hc; omega) | (unfold dw zs at hc; omega)) hla5
  · intro K K' hK; exact al_cm.off al_cm.e0 hK (fun c hc => by first | omega | (unfold pz3 at hc; omega))
theorem op_lend (htr : l.stackTraces = false) {v : Int32} : al_op l E x 1 false M_Vh_lend M_Mo_lend [.int v] [.int v] (fun _ => "java/lang/IndexOutOfBoundsException") 7 1 6 6 := by
  intro t S I P J h
  obtain ⟨h1, hsh, ⟨la, D, ha, ⟨s1, ⟨N, zl, s2⟩, s3, s4, s5, s6⟩, hp⟩, -, ⟨fx, Lx, hf, hg⟩, h6⟩ := id h
  obtain ⟨c1, c2, c3, c4, c5, c6, c7, c8, c9, c10, c11, c12, c13, c14⟩ := id hsh
  obtain ⟨H, G, T, g1, g2, g3, g4, g5, g6, g7, g8, g9, g10, g11⟩ := id s5
  obtain ⟨gH, gG, gH8, gG8, g12⟩ := id g3
  replace gH8 : H ≤ 8 := gH8
  replace gG8 : G ≤ 8 := gG8
  replace gH : I (x + 278) 3 = nI H := gH
  replace gG : I (x + 278) 4 = nI G := gG
  have hla5 : x + 250 ≠ la + 5 := by have := ha.1; omega
  have hla6 : x + 278 ≠ la + 5 := by have := ha.1; omega
  have hla7 : x + 282 ≠ la + 5 := by have := ha.1; omega
  have hla8 : x + 277 ≠ la + 5 := by have := ha.1; omega
  have hd : la + 6 ≤ x + 23 ∨ x + 292 ≤ la := by have := ha.1; omega
  have hd2 : la + 6 ≤ x + 23 ∨ x + 23 + 15 ≤ la := by omega
  have hd3 : x + 17 ≤ la := by have := ha.1; omega
  refine al_ro (sp := sp_lend (I (x + 278)) H G v) h s3 ?_ false (c_Vh_lend htr c1 c5 s1 gH gH8 gG gG8 c3 g6) ?_ (fun t' K J' hK => (c_Mo_lend (mo := x + 277) c13 (hK.m ha.1) gH gH8 gG gG8 g6)) ?_
  · unfold sp_lend
    repeat' split
    all_goals first | exact Nat.zero_le _ | exact Nat.le_refl _ | exact Nat.le_succ _ | (simp; done)
  · intro K hK; exact al_cv.off al_cv.rf hK (fun c hc => by first | omega | (unfold zs at hc; omega) | (unfold gz at hc; omega) | (unfold dw zs at hc; omega)) hla5
  · intro K K' hK; exact al_cm.off al_cm.e0 hK (fun c hc => by first | omega | (unfold pz3 at hc; omega))
theorem op_row (htr : l.stackTraces = false) {v w : Int32} {b : Bool} : al_op l E x 1 false M_Vh_row M_Mo_row [.int v, .int w, .int (bI b)] [.int v, .int w, .int (bI b)] (fun _ => "java/lang/IndexOutOfBoundsException") 7 1 6 5 := by
  intro t S I P J h
  obtain ⟨h1, hsh, ⟨la, D, ha, ⟨s1, ⟨N, zl, s2⟩, s3, s4, s5, s6⟩, hp⟩, -, ⟨fx, Lx, hf, hg⟩, h6⟩ := id h
  obtain ⟨c1, c2, c3, c4, c5, c6, c7, c8, c9, c10, c11, c12, c13, c14⟩ := id hsh
  obtain ⟨H, G, T, g1, g2, g3, g4, g5, g6, g7, g8, g9, g10, g11⟩ := id s5
  obtain ⟨gH, gG, gH8, gG8, g12⟩ := id g3
  replace gH8 : H ≤ 8 := gH8
  replace gG8 : G ≤ 8 := gG8
  replace gH : I (x + 278) 3 = nI H := gH
  replace gG : I (x + 278) 4 = nI G := gG
  have hla5 : x + 250 ≠ la + 5 := by have := ha.1; omega
  have hla6 : x + 278 ≠ la + 5 := by have := ha.1; omega
  have hla7 : x + 282 ≠ la + 5 := by have := ha.1; omega
  have hla8 : x + 277 ≠ la + 5 := by have := ha.1; omega
  have hd : la + 6 ≤ x + 23 ∨ x + 292 ≤ la := by have := ha.1; omega
  have hd2 : la + 6 ≤ x + 23 ∨ x + 23 + 15 ≤ la := by omega
  have hd3 : x + 17 ≤ la := by have := ha.1; omega
  refine al_ro (sp := sp_row (I (x + 278)) H G v w b) h s3 ?_ false (c_Vh_row htr c1 c5 s1 gH gH8 gG gG8 g6 g5 g10) ?_ (fun t' K J' hK => (c_Mo_row (mo := x + 277) c13 (hK.m ha.1) gH gH8 gG gG8 g10)) ?_
  · unfold sp_row
    repeat' split
    all_goals first | exact Nat.zero_le _ | exact Nat.le_refl _ | exact Nat.le_succ _ | (simp; done)
  · intro K hK; exact al_cv.off al_cv.rf hK (fun c hc => by first | omega | (unfold zs at hc; omega) | (unfold gz at hc; omega) | (unfold dw zs at hc; omega)) hla5
  · intro K K' hK; exact al_cm.off al_cm.e0 hK (fun c hc => by first | omega | (unfold pz3 at hc; omega))
theorem op_hostBest (htr : l.stackTraces = false) {v : Int32} : al_op l E x 1 false M_Vh_hostBest M_Mo_hostBest [.int v] [.int v] (fun _ => "java/lang/IndexOutOfBoundsException") 7 1 6 5 := by
  intro t S I P J h
  obtain ⟨h1, hsh, ⟨la, D, ha, ⟨s1, ⟨N, zl, s2⟩, s3, s4, s5, s6⟩, hp⟩, -, ⟨fx, Lx, hf, hg⟩, h6⟩ := id h
  obtain ⟨c1, c2, c3, c4, c5, c6, c7, c8, c9, c10, c11, c12, c13, c14⟩ := id hsh
  obtain ⟨H, G, T, g1, g2, g3, g4, g5, g6, g7, g8, g9, g10, g11⟩ := id s5
  obtain ⟨gH, gG, gH8, gG8, g12⟩ := id g3
  replace gH8 : H ≤ 8 := gH8
  replace gG8 : G ≤ 8 := gG8
  replace gH : I (x + 278) 3 = nI H := gH
  replace gG : I (x + 278) 4 = nI G := gG
  have hla5 : x + 250 ≠ la + 5 := by have := ha.1; omega
  have hla6 : x + 278 ≠ la + 5 := by have := ha.1; omega
  have hla7 : x + 282 ≠ la + 5 := by have := ha.1; omega
  have hla8 : x + 277 ≠ la + 5 := by have := ha.1; omega
  have hd : la + 6 ≤ x + 23 ∨ x + 292 ≤ la := by have := ha.1; omega
  have hd2 : la + 6 ≤ x + 23 ∨ x + 23 + 15 ≤ la := by omega
  have hd3 : x + 17 ≤ la := by have := ha.1; omega
  refine al_ro (sp := sp_hostBest (I (x + 278)) H G v) h s3 ?_ false (c_Vh_hostBest htr c1 c5 s1 gH gH8 gG gG8 c2 g6) ?_ (fun t' K J' hK => (c_Mo_hostBest (mo := x + 277) c13 (hK.m ha.1) gH gH8 gG gG8 g6)) ?_
  · unfold sp_hostBest
    repeat' split
    all_goals first | exact Nat.zero_le _ | exact Nat.le_refl _ | exact Nat.le_succ _ | (simp; done)
  · intro K hK; exact al_cv.off al_cv.rf hK (fun c hc => by first | omega | (unfold zs at hc; omega) | (unfold gz at hc; omega) | (unfold dw zs at hc; omega)) hla5
  · intro K K' hK; exact al_cm.off al_cm.e0 hK (fun c hc => by first | omega | (unfold pz3 at hc; omega))
theorem op_guestBest (htr : l.stackTraces = false) {v : Int32} : al_op l E x 1 false M_Vh_guestBest M_Mo_guestBest [.int v] [.int v] (fun _ => "java/lang/IndexOutOfBoundsException") 7 1 6 5 := by
  intro t S I P J h
  obtain ⟨h1, hsh, ⟨la, D, ha, ⟨s1, ⟨N, zl, s2⟩, s3, s4, s5, s6⟩, hp⟩, -, ⟨fx, Lx, hf, hg⟩, h6⟩ := id h
  obtain ⟨c1, c2, c3, c4, c5, c6, c7, c8, c9, c10, c11, c12, c13, c14⟩ := id hsh
  obtain ⟨H, G, T, g1, g2, g3, g4, g5, g6, g7, g8, g9, g10, g11⟩ := id s5
  obtain ⟨gH, gG, gH8, gG8, g12⟩ := id g3
  replace gH8 : H ≤ 8 := gH8
  replace gG8 : G ≤ 8 := gG8
  replace gH : I (x + 278) 3 = nI H := gH
  replace gG : I (x + 278) 4 = nI G := gG
  have hla5 : x + 250 ≠ la + 5 := by have := ha.1; omega
  have hla6 : x + 278 ≠ la + 5 := by have := ha.1; omega
  have hla7 : x + 282 ≠ la + 5 := by have := ha.1; omega
  have hla8 : x + 277 ≠ la + 5 := by have := ha.1; omega
  have hd : la + 6 ≤ x + 23 ∨ x + 292 ≤ la := by have := ha.1; omega
  have hd2 : la + 6 ≤ x + 23 ∨ x + 23 + 15 ≤ la := by omega
  have hd3 : x + 17 ≤ la := by have := ha.1; omega
  refine al_ro (sp := sp_guestBest (I (x + 278)) H G v) h s3 ?_ false (c_Vh_guestBest htr c1 c5 s1 gH gH8 gG gG8 c2 g6) ?_ (fun t' K J' hK => (c_Mo_guestBest (mo := x + 277) c13 (hK.m ha.1) gH gH8 gG gG8 g6)) ?_
  · unfold sp_guestBest
    repeat' split
    all_goals first | exact Nat.zero_le _ | exact Nat.le_refl _ | exact Nat.le_succ _ | (simp; done)
  · intro K hK; exact al_cv.off al_cv.rf hK (fun c hc => by first | omega | (unfold zs at hc; omega) | (unfold gz at hc; omega) | (unfold dw zs at hc; omega)) hla5
  · intro K K' hK; exact al_cm.off al_cm.e0 hK (fun c hc => by first | omega | (unfold pz3 at hc; omega))
theorem op_lets (htr : l.stackTraces = false) {v w u : Int32} : al_op l E x 1 true M_Vh_lets M_Mo_lets [.int v, .int w, .int u] [.int v, .int w, .int u] (fun _ => "java/lang/IndexOutOfBoundsException") 8 3 18 34 := by
  intro t S I P J h
  obtain ⟨h1, hsh, ⟨la, D, ha, ⟨s1, ⟨N, zl, s2⟩, s3, s4, s5, s6⟩, hp⟩, -, ⟨fx, Lx, hf, hg⟩, h6⟩ := id h
  obtain ⟨c1, c2, c3, c4, c5, c6, c7, c8, c9, c10, c11, c12, c13, c14⟩ := id hsh
  obtain ⟨H, G, T, g1, g2, g3, g4, g5, g6, g7, g8, g9, g10, g11⟩ := id s5
  obtain ⟨gH, gG, gH8, gG8, g12⟩ := id g3
  replace gH8 : H ≤ 8 := gH8
  replace gG8 : G ≤ 8 := gG8
  replace gH : I (x + 278) 3 = nI H := gH
  replace gG : I (x + 278) 4 = nI G := gG
  have hla5 : x + 250 ≠ la + 5 := by have := ha.1; omega
  have hla6 : x + 278 ≠ la + 5 := by have := ha.1; omega
  have hla7 : x + 282 ≠ la + 5 := by have := ha.1; omega
  have hla8 : x + 277 ≠ la + 5 := by have := ha.1; omega
  have hd : la + 6 ≤ x + 23 ∨ x + 292 ≤ la := by have := ha.1; omega
  have hd2 : la + 6 ≤ x + 23 ∨ x + 23 + 15 ≤ la := by omega
  have hd3 : x + 17 ≤ la := by have := ha.1; omega
  refine al_ro (sp := sp_lets D (I (x + 278)) H G v w u) (hz9 := fun _ => by
    unfold sp_lets
    split
    · exact ⟨_, rfl⟩
    · exact ⟨false, rfl⟩) h s3 ?_ false (c_Vh_lets htr c1 c5 s1 gH gH8 gG gG8 s3 s4 hd2) ?_ (fun t' K J' hK => (c_Mo_lets (mo := x + 277) c13 (hK.m ha.1) gH gH8 gG gG8 (TX := tx_law D) (dd := 31) s6.1 (fun m I h g q a b c d e => c_Mo_asks c13 b a c d e) (by omega))) ?_
  · unfold sp_lets
    repeat' split
    all_goals first | exact Nat.zero_le _ | exact Nat.le_refl _ | exact Nat.le_succ _ | (simp; done)
  · intro K hK; exact al_cv.off al_cv.rf hK (fun c hc => by first | omega | (unfold zs at hc; omega) | (unfold gz at hc; omega) | (unfold dw zs at hc; omega)) hla5
  · intro K K' hK; exact al_cm.az al_cm.e0 hK
theorem op_joy (htr : l.stackTraces = false) {v w u : Int32} : al_op l E x 1 false M_Vh_joy M_Mo_joy [.int v, .int w, .int u] [.int v, .int w, .int u] (fun _ => "java/lang/IndexOutOfBoundsException") 8 3 18 34 := by
  intro t S I P J h
  obtain ⟨h1, hsh, ⟨la, D, ha, ⟨s1, ⟨N, zl, s2⟩, s3, s4, s5, s6⟩, hp⟩, -, ⟨fx, Lx, hf, hg⟩, h6⟩ := id h
  obtain ⟨c1, c2, c3, c4, c5, c6, c7, c8, c9, c10, c11, c12, c13, c14⟩ := id hsh
  obtain ⟨H, G, T, g1, g2, g3, g4, g5, g6, g7, g8, g9, g10, g11⟩ := id s5
  obtain ⟨gH, gG, gH8, gG8, g12⟩ := id g3
  replace gH8 : H ≤ 8 := gH8
  replace gG8 : G ≤ 8 := gG8
  replace gH : I (x + 278) 3 = nI H := gH
  replace gG : I (x + 278) 4 = nI G := gG
  have hla5 : x + 250 ≠ la + 5 := by have := ha.1; omega
  have hla6 : x + 278 ≠ la + 5 := by have := ha.1; omega
  have hla7 : x + 282 ≠ la + 5 := by have := ha.1; omega
  have hla8 : x + 277 ≠ la + 5 := by have := ha.1; omega
  have hd : la + 6 ≤ x + 23 ∨ x + 292 ≤ la := by have := ha.1; omega
  have hd2 : la + 6 ≤ x + 23 ∨ x + 23 + 15 ≤ la := by omega
  have hd3 : x + 17 ≤ la := by have := ha.1; omega
  refine al_ro (sp := sp_joy D (I (x + 278)) H G v w u) h s3 ?_ false (c_Vh_joy htr c1 c5 s1 gH gH8 gG gG8 s3 s4 hd2) ?_ (fun t' K J' hK => (c_Mo_joy (mo := x + 277) c13 (hK.m ha.1) gH gH8 gG gG8 (TX := tx_law D) (dd := 31) s6.1 (fun m I h g q a b c d e => c_Mo_asks c13 b a c d e) (by omega))) ?_
  · unfold sp_joy
    repeat' split
    all_goals first | exact Nat.zero_le _ | exact Nat.le_refl _ | exact Nat.le_succ _ | (simp; done)
  · intro K hK; exact al_cv.off al_cv.rf hK (fun c hc => by first | omega | (unfold zs at hc; omega) | (unfold gz at hc; omega) | (unfold dw zs at hc; omega)) hla5
  · intro K K' hK; exact al_cm.az al_cm.e0 hK
theorem op_saved (htr : l.stackTraces = false) {v w : Int32} : al_op l E x 1 false M_Vh_saved M_Mo_saved [.int v, .int w] [.int v, .int w] (fun _ => "java/lang/IndexOutOfBoundsException") 7 1 6 35 := by
  intro t S I P J h
  obtain ⟨h1, hsh, ⟨la, D, ha, ⟨s1, ⟨N, zl, s2⟩, s3, s4, s5, s6⟩, hp⟩, -, ⟨fx, Lx, hf, hg⟩, h6⟩ := id h
  obtain ⟨c1, c2, c3, c4, c5, c6, c7, c8, c9, c10, c11, c12, c13, c14⟩ := id hsh
  obtain ⟨H, G, T, g1, g2, g3, g4, g5, g6, g7, g8, g9, g10, g11⟩ := id s5
  obtain ⟨gH, gG, gH8, gG8, g12⟩ := id g3
  replace gH8 : H ≤ 8 := gH8
  replace gG8 : G ≤ 8 := gG8
  replace gH : I (x + 278) 3 = nI H := gH
  replace gG : I (x + 278) 4 = nI G := gG
  have hla5 : x + 250 ≠ la + 5 := by have := ha.1; omega
  have hla6 : x + 278 ≠ la + 5 := by have := ha.1; omega
  have hla7 : x + 282 ≠ la + 5 := by have := ha.1; omega
  have hla8 : x + 277 ≠ la + 5 := by have := ha.1; omega
  have hd : la + 6 ≤ x + 23 ∨ x + 292 ≤ la := by have := ha.1; omega
  have hd2 : la + 6 ≤ x + 23 ∨ x + 23 + 15 ≤ la := by omega
  have hd3 : x + 17 ≤ la := by have := ha.1; omega
  refine al_ro (sp := sp_saved D (I (x + 278)) H v w) h s3 ?_ false (c_Vh_saved htr c1 c5 s1 gH gH8 c3 s3 s4 hd2 hd3 g6 g8 gG8) ?_ (fun t' K J' hK => (c_Mo_saved (mo := x + 277) c13 (hK.m ha.1) gH gH8 (TX := tx_law D) (dd := 31) s6.1 (fun m I h g q a b c d e => c_Mo_asks c13 b a c d e) (by omega) g6 g8 gG8)) ?_
  · unfold sp_saved
    repeat' split
    all_goals first | exact Nat.zero_le _ | exact Nat.le_refl _ | exact Nat.le_succ _ | (simp; done)
  · intro K hK; exact al_cv.off al_cv.rf hK (fun c hc => by first | omega | (unfold zs at hc; omega) | (unfold gz at hc; omega) | (unfold dw zs at hc; omega)) hla5
  · intro K K' hK; exact al_cm.ez al_cm.e0 hK
theorem op_meetings (htr : l.stackTraces = false) {b : Bool} : al_op l E x 0 false M_Vh_meetings M_Mo_meetings [.int (bI b)] [.int (bI b)] (fun _ => "") 7 0 0 34 := by
  intro t S I P J h
  obtain ⟨h1, hsh, ⟨la, D, ha, ⟨s1, ⟨N, zl, s2⟩, s3, s4, s5, s6⟩, hp⟩, -, ⟨fx, Lx, hf, hg⟩, h6⟩ := id h
  obtain ⟨c1, c2, c3, c4, c5, c6, c7, c8, c9, c10, c11, c12, c13, c14⟩ := id hsh
  obtain ⟨H, G, T, g1, g2, g3, g4, g5, g6, g7, g8, g9, g10, g11⟩ := id s5
  obtain ⟨gH, gG, gH8, gG8, g12⟩ := id g3
  replace gH8 : H ≤ 8 := gH8
  replace gG8 : G ≤ 8 := gG8
  replace gH : I (x + 278) 3 = nI H := gH
  replace gG : I (x + 278) 4 = nI G := gG
  have hla5 : x + 250 ≠ la + 5 := by have := ha.1; omega
  have hla6 : x + 278 ≠ la + 5 := by have := ha.1; omega
  have hla7 : x + 282 ≠ la + 5 := by have := ha.1; omega
  have hla8 : x + 277 ≠ la + 5 := by have := ha.1; omega
  have hd : la + 6 ≤ x + 23 ∨ x + 292 ≤ la := by have := ha.1; omega
  have hd2 : la + 6 ≤ x + 23 ∨ x + 23 + 15 ≤ la := by omega
  have hd3 : x + 17 ≤ la := by have := ha.1; omega
  refine al_ro (sp := ((0 : Nat), vs_msH D (I (x + 278)) b H)) h s3 (Nat.zero_le _) false (mx_C_mono (c_Vh_meetings c1 c5 s1 gH gH8 s3 s4 hd2 g6 g8 gG8) mx_sR_R) ?_ (fun t' K J' hK => (c_Mo_meetings (mo := x + 277) c13 (hK.m ha.1) gH gH8 (TX := tx_law D) (dd := 31) s6.1 (fun m I h g q a b c d e => c_Mo_asks c13 b a c d e) (by omega) g6 g8 gG8)) ?_
  · intro K hK; exact al_cv.off al_cv.rf hK (fun c hc => by first | omega | (unfold zs at hc; omega) | (unfold gz at hc; omega) | (unfold dw zs at hc; omega)) hla5
  · intro K K' hK; exact al_cm.az al_cm.e0 hK
theorem op_taboo (htr : l.stackTraces = false) : al_op l E x 0 false M_Vh_taboo M_Mo_taboo [] [] (fun _ => "") 7 0 0 34 := by
  intro t S I P J h
  obtain ⟨h1, hsh, ⟨la, D, ha, ⟨s1, ⟨N, zl, s2⟩, s3, s4, s5, s6⟩, hp⟩, -, ⟨fx, Lx, hf, hg⟩, h6⟩ := id h
  obtain ⟨c1, c2, c3, c4, c5, c6, c7, c8, c9, c10, c11, c12, c13, c14⟩ := id hsh
  obtain ⟨H, G, T, g1, g2, g3, g4, g5, g6, g7, g8, g9, g10, g11⟩ := id s5
  obtain ⟨gH, gG, gH8, gG8, g12⟩ := id g3
  replace gH8 : H ≤ 8 := gH8
  replace gG8 : G ≤ 8 := gG8
  replace gH : I (x + 278) 3 = nI H := gH
  replace gG : I (x + 278) 4 = nI G := gG
  have hla5 : x + 250 ≠ la + 5 := by have := ha.1; omega
  have hla6 : x + 278 ≠ la + 5 := by have := ha.1; omega
  have hla7 : x + 282 ≠ la + 5 := by have := ha.1; omega
  have hla8 : x + 277 ≠ la + 5 := by have := ha.1; omega
  have hd : la + 6 ≤ x + 23 ∨ x + 292 ≤ la := by have := ha.1; omega
  have hd2 : la + 6 ≤ x + 23 ∨ x + 23 + 15 ≤ la := by omega
  have hd3 : x + 17 ≤ la := by have := ha.1; omega
  refine al_ro (sp := ((0 : Nat), nI (vs_tbH D (I (x + 278)) H))) h s3 (Nat.zero_le _) false (mx_C_mono (c_Vh_taboo c1 c5 s1 gH gH8 s3 s4 hd2 g6 g8 gG8) mx_sR_R) ?_ (fun t' K J' hK => (c_Mo_taboo (mo := x + 277) c13 (hK.m ha.1) gH gH8 (TX := tx_law D) (dd := 31) s6.1 (fun m I h g q a b c d e => c_Mo_asks c13 b a c d e) (by omega) g6 g8 gG8)) ?_
  · intro K hK; exact al_cv.off al_cv.rf hK (fun c hc => by first | omega | (unfold zs at hc; omega) | (unfold gz at hc; omega) | (unfold dw zs at hc; omega)) hla5
  · intro K K' hK; exact al_cm.az al_cm.e0 hK
theorem op_dry (htr : l.stackTraces = false) : al_op l E x 0 false M_Vh_dry M_Mo_dry [] [] (fun _ => "") 7 0 0 35 := by
  intro t S I P J h
  obtain ⟨h1, hsh, ⟨la, D, ha, ⟨s1, ⟨N, zl, s2⟩, s3, s4, s5, s6⟩, hp⟩, -, ⟨fx, Lx, hf, hg⟩, h6⟩ := id h
  obtain ⟨c1, c2, c3, c4, c5, c6, c7, c8, c9, c10, c11, c12, c13, c14⟩ := id hsh
  obtain ⟨H, G, T, g1, g2, g3, g4, g5, g6, g7, g8, g9, g10, g11⟩ := id s5
  obtain ⟨gH, gG, gH8, gG8, g12⟩ := id g3
  replace gH8 : H ≤ 8 := gH8
  replace gG8 : G ≤ 8 := gG8
  replace gH : I (x + 278) 3 = nI H := gH
  replace gG : I (x + 278) 4 = nI G := gG
  have hla5 : x + 250 ≠ la + 5 := by have := ha.1; omega
  have hla6 : x + 278 ≠ la + 5 := by have := ha.1; omega
  have hla7 : x + 282 ≠ la + 5 := by have := ha.1; omega
  have hla8 : x + 277 ≠ la + 5 := by have := ha.1; omega
  have hd : la + 6 ≤ x + 23 ∨ x + 292 ≤ la := by have := ha.1; omega
  have hd2 : la + 6 ≤ x + 23 ∨ x + 23 + 15 ≤ la := by omega
  have hd3 : x + 17 ≤ la := by have := ha.1; omega
  refine al_ro (sp := ((0 : Nat), nI (dr_f D (I (x + 278)) H 256))) h s3 (Nat.zero_le _) false (mx_C_mono (c_Vh_dry c1 c5 s1 gH gH8 s3 s4 hd2 hd3 g6 g8 gG8) mx_sR_R) ?_ (fun t' K J' hK => (c_Mo_dry (mo := x + 277) c13 (hK.m ha.1) gH gH8 (TX := tx_law D) (dd := 31) s6.1 (fun m I h g q a b c d e => c_Mo_asks c13 b a c d e) (by omega) g6 g8 gG8)) ?_
  · intro K hK; exact al_cv.off al_cv.rf hK (fun c hc => by first | omega | (unfold zs at hc; omega) | (unfold gz at hc; omega) | (unfold dw zs at hc; omega)) hla5
  · intro K K' hK; exact al_cm.ez al_cm.e0 hK
theorem op_ways (htr : l.stackTraces = false) : al_op l E x 0 false M_Vh_ways M_Mo_ways [] [] (fun _ => "") 21 0 0 6 := by
  intro t S I P J h
  obtain ⟨h1, hsh, ⟨la, D, ha, ⟨s1, ⟨N, zl, s2⟩, s3, s4, s5, s6⟩, hp⟩, -, ⟨fx, Lx, hf, hg⟩, h6⟩ := id h
  obtain ⟨c1, c2, c3, c4, c5, c6, c7, c8, c9, c10, c11, c12, c13, c14⟩ := id hsh
  obtain ⟨H, G, T, g1, g2, g3, g4, g5, g6, g7, g8, g9, g10, g11⟩ := id s5
  obtain ⟨gH, gG, gH8, gG8, g12⟩ := id g3
  replace gH8 : H ≤ 8 := gH8
  replace gG8 : G ≤ 8 := gG8
  replace gH : I (x + 278) 3 = nI H := gH
  replace gG : I (x + 278) 4 = nI G := gG
  have hla5 : x + 250 ≠ la + 5 := by have := ha.1; omega
  have hla6 : x + 278 ≠ la + 5 := by have := ha.1; omega
  have hla7 : x + 282 ≠ la + 5 := by have := ha.1; omega
  have hla8 : x + 277 ≠ la + 5 := by have := ha.1; omega
  have hd : la + 6 ≤ x + 23 ∨ x + 292 ≤ la := by have := ha.1; omega
  have hd2 : la + 6 ≤ x + 23 ∨ x + 23 + 15 ≤ la := by omega
  have hd3 : x + 17 ≤ la := by have := ha.1; omega
  refine al_ro (sp := ((0 : Nat), nI (sp_ways (I (x + 278)) H G))) h s3 (Nat.zero_le _) false (mx_C_mono (c_Vh_ways c1 c5 s1 gH gH8 gG gG8 c2 g6) mx_sR_R) ?_ (fun t' K J' hK => (c_Mo_ways (mo := x + 277) c13 (hK.m ha.1) gH gH8 gG gG8 g6)) ?_
  · intro K hK; exact al_cv.off al_cv.rf hK (fun c hc => by first | omega | (unfold zs at hc; omega) | (unfold gz at hc; omega) | (unfold dw zs at hc; omega)) hla5
  · intro K K' hK; exact al_cm.off al_cm.e0 hK (fun c hc => by first | omega | (unfold pz3 at hc; omega))
theorem op_twice (htr : l.stackTraces = false) : al_op l E x 0 false M_Vh_twice M_Mo_twice [] [] (fun _ => "") 3 0 0 3 := by
  intro t S I P J h
  obtain ⟨h1, hsh, ⟨la, D, ha, ⟨s1, ⟨N, zl, s2⟩, s3, s4, s5, s6⟩, hp⟩, -, ⟨fx, Lx, hf, hg⟩, h6⟩ := id h
  obtain ⟨c1, c2, c3, c4, c5, c6, c7, c8, c9, c10, c11, c12, c13, c14⟩ := id hsh
  obtain ⟨H, G, T, g1, g2, g3, g4, g5, g6, g7, g8, g9, g10, g11⟩ := id s5
  obtain ⟨gH, gG, gH8, gG8, g12⟩ := id g3
  replace gH8 : H ≤ 8 := gH8
  replace gG8 : G ≤ 8 := gG8
  replace gH : I (x + 278) 3 = nI H := gH
  replace gG : I (x + 278) 4 = nI G := gG
  have hla5 : x + 250 ≠ la + 5 := by have := ha.1; omega
  have hla6 : x + 278 ≠ la + 5 := by have := ha.1; omega
  have hla7 : x + 282 ≠ la + 5 := by have := ha.1; omega
  have hla8 : x + 277 ≠ la + 5 := by have := ha.1; omega
  have hd : la + 6 ≤ x + 23 ∨ x + 292 ≤ la := by have := ha.1; omega
  have hd2 : la + 6 ≤ x + 23 ∨ x + 23 + 15 ≤ la := by omega
  have hd3 : x + 17 ≤ la := by have := ha.1; omega
  have e9 := vs_tw_eq (m := (I (x + 278))) g8 gG8 gH8
  refine al_ro (sp := ((0 : Nat), vs_more (I (x + 278)) H)) h s3 (Nat.zero_le _) false (mx_C_mono (c_Vh_twice c1 c5 s1 gH gH8) mx_ri_R) ?_ (fun t' K J' hK => (by have q9 := (mx_C_mono (c_Mo_twice (l := l) (E := E) (t := t') (J := J') (mo := x + 277) c13 (hK.m ha.1) gH gH8 gG gG8) mx_ri_s); rw [← e9] at q9; exact q9)) ?_
  · rintro K rfl; exact al_cv.rf
  · rintro K K' rfl; exact al_cm.e0
theorem op_dearest (htr : l.stackTraces = false) : al_op l E x 0 false M_Vh_dearest M_Mo_dearest [] [] (fun _ => "") 3 0 0 3 := by
  intro t S I P J h
  obtain ⟨h1, hsh, ⟨la, D, ha, ⟨s1, ⟨N, zl, s2⟩, s3, s4, s5, s6⟩, hp⟩, -, ⟨fx, Lx, hf, hg⟩, h6⟩ := id h
  obtain ⟨c1, c2, c3, c4, c5, c6, c7, c8, c9, c10, c11, c12, c13, c14⟩ := id hsh
  obtain ⟨H, G, T, g1, g2, g3, g4, g5, g6, g7, g8, g9, g10, g11⟩ := id s5
  obtain ⟨gH, gG, gH8, gG8, g12⟩ := id g3
  replace gH8 : H ≤ 8 := gH8
  replace gG8 : G ≤ 8 := gG8
  replace gH : I (x + 278) 3 = nI H := gH
  replace gG : I (x + 278) 4 = nI G := gG
  have hla5 : x + 250 ≠ la + 5 := by have := ha.1; omega
  have hla6 : x + 278 ≠ la + 5 := by have := ha.1; omega
  have hla7 : x + 282 ≠ la + 5 := by have := ha.1; omega
  have hla8 : x + 277 ≠ la + 5 := by have := ha.1; omega
  have hd : la + 6 ≤ x + 23 ∨ x + 292 ≤ la := by have := ha.1; omega
  have hd2 : la + 6 ≤ x + 23 ∨ x + 23 + 15 ≤ la := by omega
  have hd3 : x + 17 ≤ la := by have := ha.1; omega
  refine al_ro (sp := ((0 : Nat), vs_dear (I (x + 278)) H G)) h s3 (Nat.zero_le _) false (mx_C_mono (c_Vh_dearest c1 c5 s1 gH gH8 gG gG8) mx_ri_R) ?_ (fun t' K J' hK => (mx_C_mono (c_Mo_dearest (mo := x + 277) c13 (hK.m ha.1) gH gH8 gG gG8) mx_ri_s)) ?_
  · rintro K rfl; exact al_cv.rf
  · rintro K K' rfl; exact al_cm.e0
theorem op_forlorn (htr : l.stackTraces = false) : al_op l E x 0 false M_Vh_forlorn M_Mo_forlorn [] [] (fun _ => "") 5 0 0 4 := by
  intro t S I P J h
  obtain ⟨h1, hsh, ⟨la, D, ha, ⟨s1, ⟨N, zl, s2⟩, s3, s4, s5, s6⟩, hp⟩, -, ⟨fx, Lx, hf, hg⟩, h6⟩ := id h
  obtain ⟨c1, c2, c3, c4, c5, c6, c7, c8, c9, c10, c11, c12, c13, c14⟩ := id hsh
  obtain ⟨H, G, T, g1, g2, g3, g4, g5, g6, g7, g8, g9, g10, g11⟩ := id s5
  obtain ⟨gH, gG, gH8, gG8, g12⟩ := id g3
  replace gH8 : H ≤ 8 := gH8
  replace gG8 : G ≤ 8 := gG8
  replace gH : I (x + 278) 3 = nI H := gH
  replace gG : I (x + 278) 4 = nI G := gG
  have hla5 : x + 250 ≠ la + 5 := by have := ha.1; omega
  have hla6 : x + 278 ≠ la + 5 := by have := ha.1; omega
  have hla7 : x + 282 ≠ la + 5 := by have := ha.1; omega
  have hla8 : x + 277 ≠ la + 5 := by have := ha.1; omega
  have hd : la + 6 ≤ x + 23 ∨ x + 292 ≤ la := by have := ha.1; omega
  have hd2 : la + 6 ≤ x + 23 ∨ x + 23 + 15 ≤ la := by omega
  have hd3 : x + 17 ≤ la := by have := ha.1; omega
  refine al_ro (sp := ((0 : Nat), vs_forlorn (I (x + 278)) G H)) h s3 (Nat.zero_le _) false (mx_C_mono (c_Vh_forlorn c1 c5 s1 gH gH8 gG gG8 g5 g6.ok) mx_ri_R) ?_ (fun t' K J' hK => (mx_C_mono (c_Mo_forlorn (mo := x + 277) c13 (hK.m ha.1) gH gH8 gG gG8) mx_ri_s)) ?_
  · rintro K rfl; exact al_cv.rf
  · rintro K K' rfl; exact al_cm.e0
theorem op_alike (htr : l.stackTraces = false) : al_op l E x 0 false M_Vh_alike M_Mo_alike [] [] (fun _ => "") 5 0 0 3 := by
  intro t S I P J h
  obtain ⟨h1, hsh, ⟨la, D, ha, ⟨s1, ⟨N, zl, s2⟩, s3, s4, s5, s6⟩, hp⟩, -, ⟨fx, Lx, hf, hg⟩, h6⟩ := id h
  obtain ⟨c1, c2, c3, c4, c5, c6, c7, c8, c9, c10, c11, c12, c13, c14⟩ := id hsh
  obtain ⟨H, G, T, g1, g2, g3, g4, g5, g6, g7, g8, g9, g10, g11⟩ := id s5
  obtain ⟨gH, gG, gH8, gG8, g12⟩ := id g3
  replace gH8 : H ≤ 8 := gH8
  replace gG8 : G ≤ 8 := gG8
  replace gH : I (x + 278) 3 = nI H := gH
  replace gG : I (x + 278) 4 = nI G := gG
  have hla5 : x + 250 ≠ la + 5 := by have := ha.1; omega
  have hla6 : x + 278 ≠ la + 5 := by have := ha.1; omega
  have hla7 : x + 282 ≠ la + 5 := by have := ha.1; omega
  have hla8 : x + 277 ≠ la + 5 := by have := ha.1; omega
  have hd : la + 6 ≤ x + 23 ∨ x + 292 ≤ la := by have := ha.1; omega
  have hd2 : la + 6 ≤ x + 23 ∨ x + 23 + 15 ≤ la := by omega
  have hd3 : x + 17 ≤ la := by have := ha.1; omega
  have e9 := vs_alk_eq (I (x + 278)) G gH8
  refine al_ro (sp := ((0 : Nat), nI (vs_alk1 (I (x + 278)) G H))) h s3 (Nat.zero_le _) false (mx_C_mono (c_Vh_alike c1 c5 s1 gH gH8 gG gG8) mx_ri_R) ?_ (fun t' K J' hK => (by have q9 := (mx_C_mono (c_Mo_alike (l := l) (E := E) (t := t') (J := J') (mo := x + 277) c13 (hK.m ha.1) gH gH8 gG gG8) mx_ri_s); rw [← e9] at q9; exact q9)) ?_
  · rintro K rfl; exact al_cv.rf
  · rintro K K' rfl; exact al_cm.e0
theorem op_count (htr : l.stackTraces = false) {w : Int32} : al_op l E x 0 false M_Vh_count M_Mo_count [.int w] [.int w] (fun _ => "") 3 0 0 3 := by
  intro t S I P J h
  obtain ⟨h1, hsh, ⟨la, D, ha, ⟨s1, ⟨N, zl, s2⟩, s3, s4, s5, s6⟩, hp⟩, -, ⟨fx, Lx, hf, hg⟩, h6⟩ := id h
  obtain ⟨c1, c2, c3, c4, c5, c6, c7, c8, c9, c10, c11, c12, c13, c14⟩ := id hsh
  obtain ⟨H, G, T, g1, g2, g3, g4, g5, g6, g7, g8, g9, g10, g11⟩ := id s5
  obtain ⟨gH, gG, gH8, gG8, g12⟩ := id g3
  replace gH8 : H ≤ 8 := gH8
  replace gG8 : G ≤ 8 := gG8
  replace gH : I (x + 278) 3 = nI H := gH
  replace gG : I (x + 278) 4 = nI G := gG
  have hla5 : x + 250 ≠ la + 5 := by have := ha.1; omega
  have hla6 : x + 278 ≠ la + 5 := by have := ha.1; omega
  have hla7 : x + 282 ≠ la + 5 := by have := ha.1; omega
  have hla8 : x + 277 ≠ la + 5 := by have := ha.1; omega
  have hd : la + 6 ≤ x + 23 ∨ x + 292 ≤ la := by have := ha.1; omega
  have hd2 : la + 6 ≤ x + 23 ∨ x + 23 + 15 ≤ la := by omega
  have hd3 : x + 17 ≤ la := by have := ha.1; omega
  obtain ⟨A, zz, a1, a2, a3, a4, a5⟩ := hp.fl
  refine al_ro (sp := ((0 : Nat), sp_count (I (x + 278)) H A w)) h s3 (Nat.zero_le _) false (mx_C_mono (c_Vh_count c1 c5 s1 gH gH8 s2 s3 s4.1.1 (s4.2.1.1.trans s6.2) a1 g7) mx_ri_R) ?_ (fun t' K J' hK => (mx_C_mono (c_Mo_count (mo := x + 277) c13 (hK.m ha.1) gH gH8 (hK.a6 ha.1 a3)) mx_ri_s)) ?_
  · rintro K rfl; exact al_cv.rf
  · rintro K K' rfl; exact al_cm.e0
end CG98
