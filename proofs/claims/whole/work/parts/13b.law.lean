/-! THE LAW'S HELPERS: one for each operation that may throw; what the operation leaves is told by A -/
/-- an operation's end: with 0 the answer v, else the exception f tells; A speaks of what it leaves -/
def mx_pg (f : Nat → String) (c : Nat) (v : Int32) (A : mx_H → Prop) : mx_R → mx_H → Prop := fun r X => A X ∧ ((c = 0 ∧ r = .inl (some (.int v))) ∨ (c ≠ 0 ∧ r = .inr (f c)))
/-- what the helper answers: the number c, and in out the answer -/
def mx_lw (c : Nat) (v : Int32) (out : Nat) (A : mx_H → Prop) : mx_R → mx_H → Prop := fun r X => r = .inl (some (.int (nI c))) ∧ ∃ X1, A X1 ∧ X = (X1.1, X1.2.1, X1.2.2.1, X1.2.2.2.1, if c = 0 then mx_upJ X1.2.2.2.2 out 0 v.toInt64 else X1.2.2.2.2)
section F09
variable {l : Launch} {E : mx_Env} {M M' : mx_M} {d d' k n k' n' pc nx idx c a b : Nat} {ls : List (Option Value)} {st : List Value} {X : mx_H} {Q : mx_R → mx_H → Prop} {f : Nat → String} {v : Int32} {A : mx_H → Prop}
theorem mx_lw_0 {out : Nat} {t : Nat} {S : mx_S} {I : mx_I} {P : mx_P} {J : mx_G} (hA : A (t, S, I, P, J)) {w : Int32} (hw : w = nI 0) : mx_lw 0 v out A (.inl (some (.int w))) (t, S, I, P, mx_upJ J out 0 v.toInt64) := by subst hw; exact ⟨rfl, _, hA, by simp⟩
theorem mx_lw_x {out : Nat} (hA : A X) {w : Int32} (h0 : c ≠ 0) (hw : w = nI c) : mx_lw c v out A (.inl (some (.int w))) X := by subst hw; exact ⟨rfl, _, hA, by simp [h0]⟩
theorem mx_lw_0b {out : Nat} {t : Nat} {S : mx_S} {I : mx_I} {P : mx_P} {J : mx_G} {r : Bool} {z : Int64} (hA : A (t, S, I, P, J)) (hz : z = (bI r).toInt64) {w : Int32} (hw : w = nI 0) : mx_lw 0 (bI r) out A (.inl (some (.int w))) (t, S, I, P, mx_upJ J out 0 z) := by subst hw; subst hz; exact ⟨rfl, _, hA, by simp⟩
theorem mx_pgV0 {q : vw_C} (hd : mx_d M pc (.invokevirtual idx) 3 nx) (hc : mx_C l E M' d' k' n' [.ref a] X (mx_pg f c v A)) (hM : mx_okM M' 0) (hw : Cond.methodLink (mx_own M) idx (mx_y M') ∈ mx_W ∧ Cond.instanceMethod (mx_y M') ∈ mx_W ∧ Cond.selects (mx_y M').cls (mx_y M') (mx_y M') ∈ mx_W) (hs : X.2.1 a = some (0, b)) (hq : mx_cl[b]? = some q ∧ q.1 = (mx_y M').cls) (hdd : d' + 1 ≤ d) (hk : k' ≤ k) (hn : n' ≤ n) (hcat : (st.map fun v => v.category).sum ≤ 8) (kk : c = 0 → ∀ X1, A X1 → mx_E l E M d (k - k') (n - n') nx ls (.int v :: st) X1 Q) (kx : c ≠ 0 → ∀ X1, A X1 → mx_EX l E M d (k - k') (n - n') pc ls st (f c) X1 Q) : mx_E l E M d k n pc ls (.ref a :: st) X Q :=
  mx_callV (k2 := k - k') (n2 := n - n') hd hc hM hw hs hq rfl rfl hcat hdd (by omega) (by omega) (fun w X9 h => by obtain ⟨h0, ⟨h1, h2⟩ | ⟨-, h2⟩⟩ := h <;> cases h2; exact kk h1 X9 h0) (fun C9 X9 h => by obtain ⟨h0, ⟨-, h2⟩ | ⟨h1, h2⟩⟩ := h <;> cases h2; exact kx h1 X9 h0)
theorem mx_pgV1 {v0 : Value} {q : vw_C} (hd : mx_d M pc (.invokevirtual idx) 3 nx) (hc : mx_C l E M' d' k' n' [.ref a, v0] X (mx_pg f c v A)) (hM : mx_okM M' 1) (hw : Cond.methodLink (mx_own M) idx (mx_y M') ∈ mx_W ∧ Cond.instanceMethod (mx_y M') ∈ mx_W ∧ Cond.selects (mx_y M').cls (mx_y M') (mx_y M') ∈ mx_W) (hs : X.2.1 a = some (0, b)) (hq : mx_cl[b]? = some q ∧ q.1 = (mx_y M').cls) (hdd : d' + 1 ≤ d) (hk : k' ≤ k) (hn : n' ≤ n) (hcat : (st.map fun v => v.category).sum ≤ 8) (kk : c = 0 → ∀ X1, A X1 → mx_E l E M d (k - k') (n - n') nx ls (.int v :: st) X1 Q) (kx : c ≠ 0 → ∀ X1, A X1 → mx_EX l E M d (k - k') (n - n') pc ls st (f c) X1 Q) : mx_E l E M d k n pc ls (v0 :: .ref a :: st) X Q :=
  mx_callV (k2 := k - k') (n2 := n - n') hd hc hM hw hs hq rfl rfl hcat hdd (by omega) (by omega) (fun w X9 h => by obtain ⟨h0, ⟨h1, h2⟩ | ⟨-, h2⟩⟩ := h <;> cases h2; exact kk h1 X9 h0) (fun C9 X9 h => by obtain ⟨h0, ⟨-, h2⟩ | ⟨h1, h2⟩⟩ := h <;> cases h2; exact kx h1 X9 h0)
theorem mx_pgV2 {v0 v1 : Value} {q : vw_C} (hd : mx_d M pc (.invokevirtual idx) 3 nx) (hc : mx_C l E M' d' k' n' [.ref a, v0, v1] X (mx_pg f c v A)) (hM : mx_okM M' 2) (hw : Cond.methodLink (mx_own M) idx (mx_y M') ∈ mx_W ∧ Cond.instanceMethod (mx_y M') ∈ mx_W ∧ Cond.selects (mx_y M').cls (mx_y M') (mx_y M') ∈ mx_W) (hs : X.2.1 a = some (0, b)) (hq : mx_cl[b]? = some q ∧ q.1 = (mx_y M').cls) (hdd : d' + 1 ≤ d) (hk : k' ≤ k) (hn : n' ≤ n) (hcat : (st.map fun v => v.category).sum ≤ 8) (kk : c = 0 → ∀ X1, A X1 → mx_E l E M d (k - k') (n - n') nx ls (.int v :: st) X1 Q) (kx : c ≠ 0 → ∀ X1, A X1 → mx_EX l E M d (k - k') (n - n') pc ls st (f c) X1 Q) : mx_E l E M d k n pc ls (v1 :: v0 :: .ref a :: st) X Q :=
  mx_callV (k2 := k - k') (n2 := n - n') hd hc hM hw hs hq rfl rfl hcat hdd (by omega) (by omega) (fun w X9 h => by obtain ⟨h0, ⟨h1, h2⟩ | ⟨-, h2⟩⟩ := h <;> cases h2; exact kk h1 X9 h0) (fun C9 X9 h => by obtain ⟨h0, ⟨-, h2⟩ | ⟨h1, h2⟩⟩ := h <;> cases h2; exact kx h1 X9 h0)
theorem mx_pgV3 {v0 v1 v2 : Value} {q : vw_C} (hd : mx_d M pc (.invokevirtual idx) 3 nx) (hc : mx_C l E M' d' k' n' [.ref a, v0, v1, v2] X (mx_pg f c v A)) (hM : mx_okM M' 3) (hw : Cond.methodLink (mx_own M) idx (mx_y M') ∈ mx_W ∧ Cond.instanceMethod (mx_y M') ∈ mx_W ∧ Cond.selects (mx_y M').cls (mx_y M') (mx_y M') ∈ mx_W) (hs : X.2.1 a = some (0, b)) (hq : mx_cl[b]? = some q ∧ q.1 = (mx_y M').cls) (hdd : d' + 1 ≤ d) (hk : k' ≤ k) (hn : n' ≤ n) (hcat : (st.map fun v => v.category).sum ≤ 8) (kk : c = 0 → ∀ X1, A X1 → mx_E l E M d (k - k') (n - n') nx ls (.int v :: st) X1 Q) (kx : c ≠ 0 → ∀ X1, A X1 → mx_EX l E M d (k - k') (n - n') pc ls st (f c) X1 Q) : mx_E l E M d k n pc ls (v2 :: v1 :: v0 :: .ref a :: st) X Q :=
  mx_callV (k2 := k - k') (n2 := n - n') hd hc hM hw hs hq rfl rfl hcat hdd (by omega) (by omega) (fun w X9 h => by obtain ⟨h0, ⟨h1, h2⟩ | ⟨-, h2⟩⟩ := h <;> cases h2; exact kk h1 X9 h0) (fun C9 X9 h => by obtain ⟨h0, ⟨-, h2⟩ | ⟨h1, h2⟩⟩ := h <;> cases h2; exact kx h1 X9 h0)
theorem mx_pgV4 {v0 v1 v2 v3 : Value} {q : vw_C} (hd : mx_d M pc (.invokevirtual idx) 3 nx) (hc : mx_C l E M' d' k' n' [.ref a, v0, v1, v2, v3] X (mx_pg f c v A)) (hM : mx_okM M' 4) (hw : Cond.methodLink (mx_own M) idx (mx_y M') ∈ mx_W ∧ Cond.instanceMethod (mx_y M') ∈ mx_W ∧ Cond.selects (mx_y M').cls (mx_y M') (mx_y M') ∈ mx_W) (hs : X.2.1 a = some (0, b)) (hq : mx_cl[b]? = some q ∧ q.1 = (mx_y M').cls) (hdd : d' + 1 ≤ d) (hk : k' ≤ k) (hn : n' ≤ n) (hcat : (st.map fun v => v.category).sum ≤ 8) (kk : c = 0 → ∀ X1, A X1 → mx_E l E M d (k - k') (n - n') nx ls (.int v :: st) X1 Q) (kx : c ≠ 0 → ∀ X1, A X1 → mx_EX l E M d (k - k') (n - n') pc ls st (f c) X1 Q) : mx_E l E M d k n pc ls (v3 :: v2 :: v1 :: v0 :: .ref a :: st) X Q :=
  mx_callV (k2 := k - k') (n2 := n - n') hd hc hM hw hs hq rfl rfl hcat hdd (by omega) (by omega) (fun w X9 h => by obtain ⟨h0, ⟨h1, h2⟩ | ⟨-, h2⟩⟩ := h <;> cases h2; exact kk h1 X9 h0) (fun C9 X9 h => by obtain ⟨h0, ⟨-, h2⟩ | ⟨h1, h2⟩⟩ := h <;> cases h2; exact kx h1 X9 h0)
theorem c_Lw_afternoon {t x out D K N : Nat} {S : mx_S} {I : mx_I} {P : mx_P} {J : mx_G} {v0 : Int32} {v1 : Int32} (hc : mx_C l E M_Vh_afternoon D K N [.ref (x), .int (v0), .int (v1)] (t, S, I, P, J) (mx_pg (fun c => "java/lang/IndexOutOfBoundsException") c v A)) (hx : S x = some (0, 11)) (hA : ∀ X1, A X1 → X1.2.1 out = some (3, 1)) (hcode : c = 0 ∨ c = 1) : mx_CW l E M_Lw_afternoon (D + 1) K N [.ref (x), .int (v0), .int (v1), .ref (out)] (t, S, I, P, J) (mx_lw c v out A) := by
  refine mx_CW_of (ls0 := [some (.ref (x)), some (.int (v0)), some (.int (v1)), some (.ref (out)), none]) (by decide +kernel) rfl (Nat.le_of_ble_eq_true rfl) rfl ?_
  refine mx_al3 d_Lw_afternoon_0 ?_
  refine mx_in_0 d_Lw_afternoon_1 ?_
  refine mx_al0 d_Lw_afternoon_2 ?_
  refine mx_il1 d_Lw_afternoon_3 ?_
  refine mx_il2 d_Lw_afternoon_4 ?_
  refine mx_pgV2 d_Lw_afternoon_5 hc ok_Vh_afternoon ml_Lw_86 (by assumption) ⟨rfl, rfl⟩ (by omega) (by omega) (by omega) (Nat.le_of_ble_eq_true rfl) (fun c0 X1 hX => ?_) (fun c0 X1 hX => ?_)
  · obtain ⟨t1, S1, I1, P1, J1⟩ := X1
    have hO : S1 out = some (3, 1) := hA _ hX
    subst c0
    refine mx_i2l d_Lw_afternoon_8 ?_
    refine mx_last d_Lw_afternoon_9 (by assumption) (nI_inb (by omega) (by omega)) ?_
    rw [nI_clamp (by omega)]
    refine mx_goto 17 d_Lw_afternoon_10 (by decide) ?_
    refine mx_in_0 d_Lw_afternoon_17 ?_
    exact mx_iret d_Lw_afternoon_18 rfl (mx_lw_0 hX rfl)
  · obtain ⟨t1, S1, I1, P1, J1⟩ := X1
    rcases hcode with h9 | h9
    · exact absurd h9 c0
    · subst h9
      refine mx_catch (nm := "java/lang/IndexOutOfBoundsException") (C := "java/lang/IndexOutOfBoundsException") [] (0, 10, 13, 24) [] rfl (by decide) (by decide) (by intro z hz; cases hz) cl_Lw_24 (by decide +kernel) (fun q9 => ?_)
      refine mx_as4 d_Lw_afternoon_13 ?_
      refine mx_in_1 d_Lw_afternoon_15 ?_
      exact mx_iret d_Lw_afternoon_16 rfl (mx_lw_x hX (by decide) rfl)
  
theorem c_Lw_ahead {t x out D K N : Nat} {S : mx_S} {I : mx_I} {P : mx_P} {J : mx_G} {v0 : Int32} {v1 : Int32} {v2 : Int32} (hc : mx_C l E M_Vh_ahead D K N [.ref (x), .int (v0), .int (v1), .int (v2)] (t, S, I, P, J) (mx_pg (fun c => if c = 1 then "java/lang/IndexOutOfBoundsException" else if c = 2 then "java/lang/IllegalArgumentException" else "java/util/NoSuchElementException") c v A)) (hx : S x = some (0, 11)) (hA : ∀ X1, A X1 → X1.2.1 out = some (3, 1)) (hcode : c = 0 ∨ c = 1 ∨ c = 2 ∨ c = 3) : mx_CW l E M_Lw_ahead (D + 1) K N [.ref (x), .int (v0), .int (v1), .int (v2), .ref (out)] (t, S, I, P, J) (mx_lw c v out A) := by
  refine mx_CW_of (ls0 := [some (.ref (x)), some (.int (v0)), some (.int (v1)), some (.int (v2)), some (.ref (out)), none]) (by decide +kernel) rfl (Nat.le_of_ble_eq_true rfl) rfl ?_
  refine mx_al4 d_Lw_ahead_0 ?_
  refine mx_in_0 d_Lw_ahead_2 ?_
  refine mx_al0 d_Lw_ahead_3 ?_
  refine mx_il1 d_Lw_ahead_4 ?_
  refine mx_il2 d_Lw_ahead_5 ?_
  refine mx_il3 d_Lw_ahead_6 ?_
  refine mx_pgV3 d_Lw_ahead_7 hc ok_Vh_ahead ml_Lw_123 (by assumption) ⟨rfl, rfl⟩ (by omega) (by omega) (by omega) (Nat.le_of_ble_eq_true rfl) (fun c0 X1 hX => ?_) (fun c0 X1 hX => ?_)
  · obtain ⟨t1, S1, I1, P1, J1⟩ := X1
    have hO : S1 out = some (3, 1) := hA _ hX
    subst c0
    refine mx_i2l d_Lw_ahead_10 ?_
    refine mx_last d_Lw_ahead_11 (by assumption) (nI_inb (by omega) (by omega)) ?_
    rw [nI_clamp (by omega)]
    refine mx_goto 27 d_Lw_ahead_12 (by decide) ?_
    refine mx_in_0 d_Lw_ahead_27 ?_
    exact mx_iret d_Lw_ahead_28 rfl (mx_lw_0 hX rfl)
  · obtain ⟨t1, S1, I1, P1, J1⟩ := X1
    rcases hcode with h9 | h9 | h9 | h9
    · exact absurd h9 c0
    · subst h9
      refine mx_catch (nm := "java/lang/IndexOutOfBoundsException") (C := "java/lang/IndexOutOfBoundsException") [] (0, 12, 15, 24) [(0, 12, 19, 13), (0, 12, 23, 26)] rfl (by decide) (by decide) (by intro z hz; cases hz) cl_Lw_24 (by decide +kernel) (fun q9 => ?_)
      refine mx_as5 d_Lw_ahead_15 ?_
      refine mx_in_1 d_Lw_ahead_17 ?_
      exact mx_iret d_Lw_ahead_18 rfl (mx_lw_x hX (by decide) rfl)
    · subst h9
      refine mx_catch (nm := "java/lang/IllegalArgumentException") (C := "java/lang/IllegalArgumentException") [(0, 12, 15, 24)] (0, 12, 19, 13) [(0, 12, 23, 26)] rfl (by decide) (by decide) (by intro z hz; simp only [List.mem_cons, List.not_mem_nil, or_false] at hz; rcases hz with rfl; first | exact ⟨by decide, _, cl_Lw_24, by decide⟩) cl_Lw_13 (by decide +kernel) (fun q9 => ?_)
      refine mx_as5 d_Lw_ahead_19 ?_
      refine mx_in_2 d_Lw_ahead_21 ?_
      exact mx_iret d_Lw_ahead_22 rfl (mx_lw_x hX (by decide) rfl)
    · subst h9
      refine mx_catch (nm := "java/util/NoSuchElementException") (C := "java/util/NoSuchElementException") [(0, 12, 15, 24), (0, 12, 19, 13)] (0, 12, 23, 26) [] rfl (by decide) (by decide) (by intro z hz; simp only [List.mem_cons, List.not_mem_nil, or_false] at hz; rcases hz with rfl | rfl <;> first | exact ⟨by decide, _, cl_Lw_24, by decide⟩ | exact ⟨by decide, _, cl_Lw_13, by decide⟩) cl_Lw_26 (by decide +kernel) (fun q9 => ?_)
      refine mx_as5 d_Lw_ahead_23 ?_
      refine mx_in_3 d_Lw_ahead_25 ?_
      exact mx_iret d_Lw_ahead_26 rfl (mx_lw_x hX (by decide) rfl)
  
theorem c_Lw_book {t x out D K N : Nat} {S : mx_S} {I : mx_I} {P : mx_P} {J : mx_G} {v0 : Int32} {v1 : Int32} {v2 : Int32} (hc : mx_C l E M_Vh_book D K N [.ref (x), .int (v0), .int (v1), .int (v2)] (t, S, I, P, J) (mx_pg (fun c => if c = 1 then "java/lang/IndexOutOfBoundsException" else "java/lang/IllegalStateException") c v A)) (hx : S x = some (0, 11)) (hA : ∀ X1, A X1 → X1.2.1 out = some (3, 1)) (hcode : c = 0 ∨ c = 1 ∨ c = 2) : mx_CW l E M_Lw_book (D + 1) K N [.ref (x), .int (v0), .int (v1), .int (v2), .ref (out)] (t, S, I, P, J) (mx_lw c v out A) := by
  refine mx_CW_of (ls0 := [some (.ref (x)), some (.int (v0)), some (.int (v1)), some (.int (v2)), some (.ref (out)), none]) (by decide +kernel) rfl (Nat.le_of_ble_eq_true rfl) rfl ?_
  refine mx_al4 d_Lw_book_0 ?_
  refine mx_in_0 d_Lw_book_2 ?_
  refine mx_al0 d_Lw_book_3 ?_
  refine mx_il1 d_Lw_book_4 ?_
  refine mx_il2 d_Lw_book_5 ?_
  refine mx_il3 d_Lw_book_6 ?_
  refine mx_pgV3 d_Lw_book_7 hc ok_Vh_book ml_Lw_49 (by assumption) ⟨rfl, rfl⟩ (by omega) (by omega) (by omega) (Nat.le_of_ble_eq_true rfl) (fun c0 X1 hX => ?_) (fun c0 X1 hX => ?_)
  · obtain ⟨t1, S1, I1, P1, J1⟩ := X1
    have hO : S1 out = some (3, 1) := hA _ hX
    subst c0
    refine mx_i2l d_Lw_book_10 ?_
    refine mx_last d_Lw_book_11 (by assumption) (nI_inb (by omega) (by omega)) ?_
    rw [nI_clamp (by omega)]
    refine mx_goto 23 d_Lw_book_12 (by decide) ?_
    refine mx_in_0 d_Lw_book_23 ?_
    exact mx_iret d_Lw_book_24 rfl (mx_lw_0 hX rfl)
  · obtain ⟨t1, S1, I1, P1, J1⟩ := X1
    rcases hcode with h9 | h9 | h9
    · exact absurd h9 c0
    · subst h9
      refine mx_catch (nm := "java/lang/IndexOutOfBoundsException") (C := "java/lang/IndexOutOfBoundsException") [] (0, 12, 15, 24) [(0, 12, 19, 52)] rfl (by decide) (by decide) (by intro z hz; cases hz) cl_Lw_24 (by decide +kernel) (fun q9 => ?_)
      refine mx_as5 d_Lw_book_15 ?_
      refine mx_in_1 d_Lw_book_17 ?_
      exact mx_iret d_Lw_book_18 rfl (mx_lw_x hX (by decide) rfl)
    · subst h9
      refine mx_catch (nm := "java/lang/IllegalStateException") (C := "java/lang/IllegalStateException") [(0, 12, 15, 24)] (0, 12, 19, 52) [] rfl (by decide) (by decide) (by intro z hz; simp only [List.mem_cons, List.not_mem_nil, or_false] at hz; rcases hz with rfl; first | exact ⟨by decide, _, cl_Lw_24, by decide⟩) cl_Lw_52 (by decide +kernel) (fun q9 => ?_)
      refine mx_as5 d_Lw_book_19 ?_
      refine mx_in_2 d_Lw_book_21 ?_
      exact mx_iret d_Lw_book_22 rfl (mx_lw_x hX (by decide) rfl)
  
theorem c_Lw_booked {t x out D K N : Nat} {S : mx_S} {I : mx_I} {P : mx_P} {J : mx_G} {v0 : Int32} {v1 : Int32} (hc : mx_C l E M_Vh_booked D K N [.ref (x), .int (v0), .int (v1)] (t, S, I, P, J) (mx_pg (fun c => "java/lang/IndexOutOfBoundsException") c v A)) (hx : S x = some (0, 11)) (hA : ∀ X1, A X1 → X1.2.1 out = some (3, 1)) (hcode : c = 0 ∨ c = 1) : mx_CW l E M_Lw_booked (D + 1) K N [.ref (x), .int (v0), .int (v1), .ref (out)] (t, S, I, P, J) (mx_lw c v out A) := by
  refine mx_CW_of (ls0 := [some (.ref (x)), some (.int (v0)), some (.int (v1)), some (.ref (out)), none]) (by decide +kernel) rfl (Nat.le_of_ble_eq_true rfl) rfl ?_
  refine mx_al3 d_Lw_booked_0 ?_
  refine mx_in_0 d_Lw_booked_1 ?_
  refine mx_al0 d_Lw_booked_2 ?_
  refine mx_il1 d_Lw_booked_3 ?_
  refine mx_il2 d_Lw_booked_4 ?_
  refine mx_pgV2 d_Lw_booked_5 hc ok_Vh_booked ml_Lw_35 (by assumption) ⟨rfl, rfl⟩ (by omega) (by omega) (by omega) (Nat.le_of_ble_eq_true rfl) (fun c0 X1 hX => ?_) (fun c0 X1 hX => ?_)
  · obtain ⟨t1, S1, I1, P1, J1⟩ := X1
    have hO : S1 out = some (3, 1) := hA _ hX
    subst c0
    refine mx_i2l d_Lw_booked_8 ?_
    refine mx_last d_Lw_booked_9 (by assumption) (nI_inb (by omega) (by omega)) ?_
    rw [nI_clamp (by omega)]
    refine mx_goto 17 d_Lw_booked_10 (by decide) ?_
    refine mx_in_0 d_Lw_booked_17 ?_
    exact mx_iret d_Lw_booked_18 rfl (mx_lw_0 hX rfl)
  · obtain ⟨t1, S1, I1, P1, J1⟩ := X1
    rcases hcode with h9 | h9
    · exact absurd h9 c0
    · subst h9
      refine mx_catch (nm := "java/lang/IndexOutOfBoundsException") (C := "java/lang/IndexOutOfBoundsException") [] (0, 10, 13, 24) [] rfl (by decide) (by decide) (by intro z hz; cases hz) cl_Lw_24 (by decide +kernel) (fun q9 => ?_)
      refine mx_as4 d_Lw_booked_13 ?_
      refine mx_in_1 d_Lw_booked_15 ?_
      exact mx_iret d_Lw_booked_16 rfl (mx_lw_x hX (by decide) rfl)
  
theorem c_Lw_can {t x out D K N : Nat} {S : mx_S} {I : mx_I} {P : mx_P} {J : mx_G} {v0 : Int32} {v1 : Int32} {v2 : Int32} {r : Bool} (hc : mx_C l E M_Vh_can D K N [.ref (x), .int (v0), .int (v1), .int (v2)] (t, S, I, P, J) (mx_pg (fun c => "java/lang/IndexOutOfBoundsException") c (bI r) A)) (hx : S x = some (0, 11)) (hA : ∀ X1, A X1 → X1.2.1 out = some (3, 1)) (hcode : c = 0 ∨ c = 1) : mx_CW l E M_Lw_can (D + 1) K N [.ref (x), .int (v0), .int (v1), .int (v2), .ref (out)] (t, S, I, P, J) (mx_lw c (bI r) out A) := by
  refine mx_CW_of (ls0 := [some (.ref (x)), some (.int (v0)), some (.int (v1)), some (.int (v2)), some (.ref (out)), none]) (by decide +kernel) rfl (Nat.le_of_ble_eq_true rfl) rfl ?_
  refine mx_al4 d_Lw_can_0 ?_
  refine mx_in_0 d_Lw_can_2 ?_
  refine mx_al0 d_Lw_can_3 ?_
  refine mx_il1 d_Lw_can_4 ?_
  refine mx_il2 d_Lw_can_5 ?_
  refine mx_il3 d_Lw_can_6 ?_
  refine mx_pgV3 d_Lw_can_7 hc ok_Vh_can ml_Lw_38 (by assumption) ⟨rfl, rfl⟩ (by omega) (by omega) (by omega) (Nat.le_of_ble_eq_true rfl) (fun c0 X1 hX => ?_) (fun c0 X1 hX => ?_)
  · obtain ⟨t1, S1, I1, P1, J1⟩ := X1
    have hO : S1 out = some (3, 1) := hA _ hX
    subst c0
    refine mx_ifB_eq 17 d_Lw_can_10 (by decide) (fun c_10 => ?_) (fun c_10 => ?_)
    · skip
      refine mx_lc_0 d_Lw_can_17 ?_
      refine mx_last d_Lw_can_18 (by assumption) (nI_inb (by omega) (by omega)) ?_
      rw [nI_clamp (by omega)]
      refine mx_goto 26 d_Lw_can_19 (by decide) ?_
      refine mx_in_0 d_Lw_can_26 ?_
      exact mx_iret d_Lw_can_27 rfl (mx_lw_0b hX (by rw [c_10]; rfl) rfl)
    · skip
      refine mx_lc_1 d_Lw_can_13 ?_
      refine mx_goto 18 d_Lw_can_14 (by decide) ?_
      refine mx_last d_Lw_can_18 (by assumption) (nI_inb (by omega) (by omega)) ?_
      rw [nI_clamp (by omega)]
      refine mx_goto 26 d_Lw_can_19 (by decide) ?_
      refine mx_in_0 d_Lw_can_26 ?_
      exact mx_iret d_Lw_can_27 rfl (mx_lw_0b hX (by rw [c_10]; rfl) rfl)
  · obtain ⟨t1, S1, I1, P1, J1⟩ := X1
    rcases hcode with h9 | h9
    · exact absurd h9 c0
    · subst h9
      refine mx_catch (nm := "java/lang/IndexOutOfBoundsException") (C := "java/lang/IndexOutOfBoundsException") [] (0, 19, 22, 24) [] rfl (by decide) (by decide) (by intro z hz; cases hz) cl_Lw_24 (by decide +kernel) (fun q9 => ?_)
      refine mx_as5 d_Lw_can_22 ?_
      refine mx_in_1 d_Lw_can_24 ?_
      exact mx_iret d_Lw_can_25 rfl (mx_lw_x hX (by decide) rfl)
  
theorem c_Lw_change {t x out D K N : Nat} {S : mx_S} {I : mx_I} {P : mx_P} {J : mx_G} {v0 : Int32} {v1 : Int32} {v2 : Int32} (hc : mx_C l E M_Vh_change D K N [.ref (x), .int (v0), .int (v1), .int (v2)] (t, S, I, P, J) (mx_pg (fun c => if c = 1 then "java/lang/IndexOutOfBoundsException" else "java/lang/IllegalArgumentException") c v A)) (hx : S x = some (0, 11)) (hA : ∀ X1, A X1 → X1.2.1 out = some (3, 1)) (hcode : c = 0 ∨ c = 1 ∨ c = 2) : mx_CW l E M_Lw_change (D + 1) K N [.ref (x), .int (v0), .int (v1), .int (v2), .ref (out)] (t, S, I, P, J) (mx_lw c v out A) := by
  refine mx_CW_of (ls0 := [some (.ref (x)), some (.int (v0)), some (.int (v1)), some (.int (v2)), some (.ref (out)), none]) (by decide +kernel) rfl (Nat.le_of_ble_eq_true rfl) rfl ?_
  refine mx_al4 d_Lw_change_0 ?_
  refine mx_in_0 d_Lw_change_2 ?_
  refine mx_al0 d_Lw_change_3 ?_
  refine mx_il1 d_Lw_change_4 ?_
  refine mx_il2 d_Lw_change_5 ?_
  refine mx_il3 d_Lw_change_6 ?_
  refine mx_pgV3 d_Lw_change_7 hc ok_Vh_change ml_Lw_57 (by assumption) ⟨rfl, rfl⟩ (by omega) (by omega) (by omega) (Nat.le_of_ble_eq_true rfl) (fun c0 X1 hX => ?_) (fun c0 X1 hX => ?_)
  · obtain ⟨t1, S1, I1, P1, J1⟩ := X1
    have hO : S1 out = some (3, 1) := hA _ hX
    subst c0
    refine mx_i2l d_Lw_change_10 ?_
    refine mx_last d_Lw_change_11 (by assumption) (nI_inb (by omega) (by omega)) ?_
    rw [nI_clamp (by omega)]
    refine mx_goto 23 d_Lw_change_12 (by decide) ?_
    refine mx_in_0 d_Lw_change_23 ?_
    exact mx_iret d_Lw_change_24 rfl (mx_lw_0 hX rfl)
  · obtain ⟨t1, S1, I1, P1, J1⟩ := X1
    rcases hcode with h9 | h9 | h9
    · exact absurd h9 c0
    · subst h9
      refine mx_catch (nm := "java/lang/IndexOutOfBoundsException") (C := "java/lang/IndexOutOfBoundsException") [] (0, 12, 15, 24) [(0, 12, 19, 13)] rfl (by decide) (by decide) (by intro z hz; cases hz) cl_Lw_24 (by decide +kernel) (fun q9 => ?_)
      refine mx_as5 d_Lw_change_15 ?_
      refine mx_in_1 d_Lw_change_17 ?_
      exact mx_iret d_Lw_change_18 rfl (mx_lw_x hX (by decide) rfl)
    · subst h9
      refine mx_catch (nm := "java/lang/IllegalArgumentException") (C := "java/lang/IllegalArgumentException") [(0, 12, 15, 24)] (0, 12, 19, 13) [] rfl (by decide) (by decide) (by intro z hz; simp only [List.mem_cons, List.not_mem_nil, or_false] at hz; rcases hz with rfl; first | exact ⟨by decide, _, cl_Lw_24, by decide⟩) cl_Lw_13 (by decide +kernel) (fun q9 => ?_)
      refine mx_as5 d_Lw_change_19 ?_
      refine mx_in_2 d_Lw_change_21 ?_
      exact mx_iret d_Lw_change_22 rfl (mx_lw_x hX (by decide) rfl)
  
theorem c_Lw_gate {t x out D K N : Nat} {S : mx_S} {I : mx_I} {P : mx_P} {J : mx_G} {v0 : Int32} {v1 : Int32} (hc : mx_C l E M_Vh_gate D K N [.ref (x), .int (v0), .int (v1)] (t, S, I, P, J) (mx_pg (fun c => "java/lang/IllegalArgumentException") c v A)) (hx : S x = some (0, 11)) (hA : ∀ X1, A X1 → X1.2.1 out = some (3, 1)) (hcode : c = 0 ∨ c = 1) : mx_CW l E M_Lw_gate (D + 1) K N [.ref (x), .int (v0), .int (v1), .ref (out)] (t, S, I, P, J) (mx_lw c v out A) := by
  refine mx_CW_of (ls0 := [some (.ref (x)), some (.int (v0)), some (.int (v1)), some (.ref (out)), none]) (by decide +kernel) rfl (Nat.le_of_ble_eq_true rfl) rfl ?_
  refine mx_al3 d_Lw_gate_0 ?_
  refine mx_in_0 d_Lw_gate_1 ?_
  refine mx_al0 d_Lw_gate_2 ?_
  refine mx_il1 d_Lw_gate_3 ?_
  refine mx_il2 d_Lw_gate_4 ?_
  refine mx_pgV2 d_Lw_gate_5 hc ok_Vh_gate ml_Lw_63 (by assumption) ⟨rfl, rfl⟩ (by omega) (by omega) (by omega) (Nat.le_of_ble_eq_true rfl) (fun c0 X1 hX => ?_) (fun c0 X1 hX => ?_)
  · obtain ⟨t1, S1, I1, P1, J1⟩ := X1
    have hO : S1 out = some (3, 1) := hA _ hX
    subst c0
    refine mx_i2l d_Lw_gate_8 ?_
    refine mx_last d_Lw_gate_9 (by assumption) (nI_inb (by omega) (by omega)) ?_
    rw [nI_clamp (by omega)]
    refine mx_goto 17 d_Lw_gate_10 (by decide) ?_
    refine mx_in_0 d_Lw_gate_17 ?_
    exact mx_iret d_Lw_gate_18 rfl (mx_lw_0 hX rfl)
  · obtain ⟨t1, S1, I1, P1, J1⟩ := X1
    rcases hcode with h9 | h9
    · exact absurd h9 c0
    · subst h9
      refine mx_catch (nm := "java/lang/IllegalArgumentException") (C := "java/lang/IllegalArgumentException") [] (0, 10, 13, 13) [] rfl (by decide) (by decide) (by intro z hz; cases hz) cl_Lw_13 (by decide +kernel) (fun q9 => ?_)
      refine mx_as4 d_Lw_gate_13 ?_
      refine mx_in_1 d_Lw_gate_15 ?_
      exact mx_iret d_Lw_gate_16 rfl (mx_lw_x hX (by decide) rfl)
  
theorem c_Lw_gladder {t x out D K N : Nat} {S : mx_S} {I : mx_I} {P : mx_P} {J : mx_G} {v0 : Int32} (hc : mx_C l E M_Vh_gladder D K N [.ref (x), .int (v0)] (t, S, I, P, J) (mx_pg (fun c => "java/lang/IllegalArgumentException") c v A)) (hx : S x = some (0, 11)) (hA : ∀ X1, A X1 → X1.2.1 out = some (3, 1)) (hcode : c = 0 ∨ c = 1) : mx_CW l E M_Lw_gladder (D + 1) K N [.ref (x), .int (v0), .ref (out)] (t, S, I, P, J) (mx_lw c v out A) := by
  refine mx_CW_of (ls0 := [some (.ref (x)), some (.int (v0)), some (.ref (out)), none]) (by decide +kernel) rfl (Nat.le_of_ble_eq_true rfl) rfl ?_
  refine mx_al2 d_Lw_gladder_0 ?_
  refine mx_in_0 d_Lw_gladder_1 ?_
  refine mx_al0 d_Lw_gladder_2 ?_
  refine mx_il1 d_Lw_gladder_3 ?_
  refine mx_pgV1 d_Lw_gladder_4 hc ok_Vh_gladder ml_Lw_120 (by assumption) ⟨rfl, rfl⟩ (by omega) (by omega) (by omega) (Nat.le_of_ble_eq_true rfl) (fun c0 X1 hX => ?_) (fun c0 X1 hX => ?_)
  · obtain ⟨t1, S1, I1, P1, J1⟩ := X1
    have hO : S1 out = some (3, 1) := hA _ hX
    subst c0
    refine mx_i2l d_Lw_gladder_7 ?_
    refine mx_last d_Lw_gladder_8 (by assumption) (nI_inb (by omega) (by omega)) ?_
    rw [nI_clamp (by omega)]
    refine mx_goto 15 d_Lw_gladder_9 (by decide) ?_
    refine mx_in_0 d_Lw_gladder_15 ?_
    exact mx_iret d_Lw_gladder_16 rfl (mx_lw_0 hX rfl)
  · obtain ⟨t1, S1, I1, P1, J1⟩ := X1
    rcases hcode with h9 | h9
    · exact absurd h9 c0
    · subst h9
      refine mx_catch (nm := "java/lang/IllegalArgumentException") (C := "java/lang/IllegalArgumentException") [] (0, 9, 12, 13) [] rfl (by decide) (by decide) (by intro z hz; cases hz) cl_Lw_13 (by decide +kernel) (fun q9 => ?_)
      refine mx_as3 d_Lw_gladder_12 ?_
      refine mx_in_1 d_Lw_gladder_13 ?_
      exact mx_iret d_Lw_gladder_14 rfl (mx_lw_x hX (by decide) rfl)
  
theorem c_Lw_ground {t x out D K N : Nat} {S : mx_S} {I : mx_I} {P : mx_P} {J : mx_G}  (hc : mx_C l E M_Vh_ground D K N [.ref (x)] (t, S, I, P, J) (mx_pg (fun c => if c = 1 then "java/lang/IllegalArgumentException" else "java/lang/UnsupportedOperationException") c v A)) (hx : S x = some (0, 11)) (hA : ∀ X1, A X1 → X1.2.1 out = some (3, 1)) (hcode : c = 0 ∨ c = 1 ∨ c = 2) : mx_CW l E M_Lw_ground (D + 1) K N [.ref (x), .ref (out)] (t, S, I, P, J) (mx_lw c v out A) := by
  refine mx_CW_of (ls0 := [some (.ref (x)), some (.ref (out)), none]) (by decide +kernel) rfl (Nat.le_of_ble_eq_true rfl) rfl ?_
  refine mx_al1 d_Lw_ground_0 ?_
  refine mx_in_0 d_Lw_ground_1 ?_
  refine mx_al0 d_Lw_ground_2 ?_
  refine mx_pgV0 d_Lw_ground_3 hc ok_Vh_ground ml_Lw_7 (by assumption) ⟨rfl, rfl⟩ (by omega) (by omega) (by omega) (Nat.le_of_ble_eq_true rfl) (fun c0 X1 hX => ?_) (fun c0 X1 hX => ?_)
  · obtain ⟨t1, S1, I1, P1, J1⟩ := X1
    have hO : S1 out = some (3, 1) := hA _ hX
    subst c0
    refine mx_i2l d_Lw_ground_6 ?_
    refine mx_last d_Lw_ground_7 (by assumption) (nI_inb (by omega) (by omega)) ?_
    rw [nI_clamp (by omega)]
    refine mx_goto 17 d_Lw_ground_8 (by decide) ?_
    refine mx_in_0 d_Lw_ground_17 ?_
    exact mx_iret d_Lw_ground_18 rfl (mx_lw_0 hX rfl)
  · obtain ⟨t1, S1, I1, P1, J1⟩ := X1
    rcases hcode with h9 | h9 | h9
    · exact absurd h9 c0
    · subst h9
      refine mx_catch (nm := "java/lang/IllegalArgumentException") (C := "java/lang/IllegalArgumentException") [] (0, 8, 11, 13) [(0, 8, 14, 15)] rfl (by decide) (by decide) (by intro z hz; cases hz) cl_Lw_13 (by decide +kernel) (fun q9 => ?_)
      refine mx_as2 d_Lw_ground_11 ?_
      refine mx_in_1 d_Lw_ground_12 ?_
      exact mx_iret d_Lw_ground_13 rfl (mx_lw_x hX (by decide) rfl)
    · subst h9
      refine mx_catch (nm := "java/lang/UnsupportedOperationException") (C := "java/lang/UnsupportedOperationException") [(0, 8, 11, 13)] (0, 8, 14, 15) [] rfl (by decide) (by decide) (by intro z hz; simp only [List.mem_cons, List.not_mem_nil, or_false] at hz; rcases hz with rfl; first | exact ⟨by decide, _, cl_Lw_13, by decide⟩) cl_Lw_15 (by decide +kernel) (fun q9 => ?_)
      refine mx_as2 d_Lw_ground_14 ?_
      refine mx_in_2 d_Lw_ground_15 ?_
      exact mx_iret d_Lw_ground_16 rfl (mx_lw_x hX (by decide) rfl)
  
theorem c_Lw_guest {t x out D K N : Nat} {S : mx_S} {I : mx_I} {P : mx_P} {J : mx_G} {v0 : Int32} {v1 : Int32} (hc : mx_C l E M_Vh_guest D K N [.ref (x), .int (v0), .int (v1)] (t, S, I, P, J) (mx_pg (fun c => if c = 1 then "java/lang/IndexOutOfBoundsException" else "java/util/NoSuchElementException") c v A)) (hx : S x = some (0, 11)) (hA : ∀ X1, A X1 → X1.2.1 out = some (3, 1)) (hcode : c = 0 ∨ c = 1 ∨ c = 2) : mx_CW l E M_Lw_guest (D + 1) K N [.ref (x), .int (v0), .int (v1), .ref (out)] (t, S, I, P, J) (mx_lw c v out A) := by
  refine mx_CW_of (ls0 := [some (.ref (x)), some (.int (v0)), some (.int (v1)), some (.ref (out)), none]) (by decide +kernel) rfl (Nat.le_of_ble_eq_true rfl) rfl ?_
  refine mx_al3 d_Lw_guest_0 ?_
  refine mx_in_0 d_Lw_guest_1 ?_
  refine mx_al0 d_Lw_guest_2 ?_
  refine mx_il1 d_Lw_guest_3 ?_
  refine mx_il2 d_Lw_guest_4 ?_
  refine mx_pgV2 d_Lw_guest_5 hc ok_Vh_guest ml_Lw_28 (by assumption) ⟨rfl, rfl⟩ (by omega) (by omega) (by omega) (Nat.le_of_ble_eq_true rfl) (fun c0 X1 hX => ?_) (fun c0 X1 hX => ?_)
  · obtain ⟨t1, S1, I1, P1, J1⟩ := X1
    have hO : S1 out = some (3, 1) := hA _ hX
    subst c0
    refine mx_i2l d_Lw_guest_8 ?_
    refine mx_last d_Lw_guest_9 (by assumption) (nI_inb (by omega) (by omega)) ?_
    rw [nI_clamp (by omega)]
    refine mx_goto 21 d_Lw_guest_10 (by decide) ?_
    refine mx_in_0 d_Lw_guest_21 ?_
    exact mx_iret d_Lw_guest_22 rfl (mx_lw_0 hX rfl)
  · obtain ⟨t1, S1, I1, P1, J1⟩ := X1
    rcases hcode with h9 | h9 | h9
    · exact absurd h9 c0
    · subst h9
      refine mx_catch (nm := "java/lang/IndexOutOfBoundsException") (C := "java/lang/IndexOutOfBoundsException") [] (0, 10, 13, 24) [(0, 10, 17, 26)] rfl (by decide) (by decide) (by intro z hz; cases hz) cl_Lw_24 (by decide +kernel) (fun q9 => ?_)
      refine mx_as4 d_Lw_guest_13 ?_
      refine mx_in_1 d_Lw_guest_15 ?_
      exact mx_iret d_Lw_guest_16 rfl (mx_lw_x hX (by decide) rfl)
    · subst h9
      refine mx_catch (nm := "java/util/NoSuchElementException") (C := "java/util/NoSuchElementException") [(0, 10, 13, 24)] (0, 10, 17, 26) [] rfl (by decide) (by decide) (by intro z hz; simp only [List.mem_cons, List.not_mem_nil, or_false] at hz; rcases hz with rfl; first | exact ⟨by decide, _, cl_Lw_24, by decide⟩) cl_Lw_26 (by decide +kernel) (fun q9 => ?_)
      refine mx_as4 d_Lw_guest_17 ?_
      refine mx_in_2 d_Lw_guest_19 ?_
      exact mx_iret d_Lw_guest_20 rfl (mx_lw_x hX (by decide) rfl)
  
theorem c_Lw_guestBest {t x out D K N : Nat} {S : mx_S} {I : mx_I} {P : mx_P} {J : mx_G} {v0 : Int32} (hc : mx_C l E M_Vh_guestBest D K N [.ref (x), .int (v0)] (t, S, I, P, J) (mx_pg (fun c => "java/lang/IndexOutOfBoundsException") c v A)) (hx : S x = some (0, 11)) (hA : ∀ X1, A X1 → X1.2.1 out = some (3, 1)) (hcode : c = 0 ∨ c = 1) : mx_CW l E M_Lw_guestBest (D + 1) K N [.ref (x), .int (v0), .ref (out)] (t, S, I, P, J) (mx_lw c v out A) := by
  refine mx_CW_of (ls0 := [some (.ref (x)), some (.int (v0)), some (.ref (out)), none]) (by decide +kernel) rfl (Nat.le_of_ble_eq_true rfl) rfl ?_
  refine mx_al2 d_Lw_guestBest_0 ?_
  refine mx_in_0 d_Lw_guestBest_1 ?_
  refine mx_al0 d_Lw_guestBest_2 ?_
  refine mx_il1 d_Lw_guestBest_3 ?_
  refine mx_pgV1 d_Lw_guestBest_4 hc ok_Vh_guestBest ml_Lw_77 (by assumption) ⟨rfl, rfl⟩ (by omega) (by omega) (by omega) (Nat.le_of_ble_eq_true rfl) (fun c0 X1 hX => ?_) (fun c0 X1 hX => ?_)
  · obtain ⟨t1, S1, I1, P1, J1⟩ := X1
    have hO : S1 out = some (3, 1) := hA _ hX
    subst c0
    refine mx_i2l d_Lw_guestBest_7 ?_
    refine mx_last d_Lw_guestBest_8 (by assumption) (nI_inb (by omega) (by omega)) ?_
    rw [nI_clamp (by omega)]
    refine mx_goto 15 d_Lw_guestBest_9 (by decide) ?_
    refine mx_in_0 d_Lw_guestBest_15 ?_
    exact mx_iret d_Lw_guestBest_16 rfl (mx_lw_0 hX rfl)
  · obtain ⟨t1, S1, I1, P1, J1⟩ := X1
    rcases hcode with h9 | h9
    · exact absurd h9 c0
    · subst h9
      refine mx_catch (nm := "java/lang/IndexOutOfBoundsException") (C := "java/lang/IndexOutOfBoundsException") [] (0, 9, 12, 24) [] rfl (by decide) (by decide) (by intro z hz; cases hz) cl_Lw_24 (by decide +kernel) (fun q9 => ?_)
      refine mx_as3 d_Lw_guestBest_12 ?_
      refine mx_in_1 d_Lw_guestBest_13 ?_
      exact mx_iret d_Lw_guestBest_14 rfl (mx_lw_x hX (by decide) rfl)
  
theorem c_Lw_hand {t x out D K N : Nat} {S : mx_S} {I : mx_I} {P : mx_P} {J : mx_G} {b0 : Bool} (hc : mx_C l E M_Vh_hand D K N [.ref (x), .int (bI (b0))] (t, S, I, P, J) (mx_pg (fun c => "java/lang/IllegalArgumentException") c v A)) (hx : S x = some (0, 11)) (hA : ∀ X1, A X1 → X1.2.1 out = some (3, 1)) (hcode : c = 0 ∨ c = 1) : mx_CW l E M_Lw_hand (D + 1) K N [.ref (x), .int (bI (b0)), .ref (out)] (t, S, I, P, J) (mx_lw c v out A) := by
  refine mx_CW_of (ls0 := [some (.ref (x)), some (.int (bI (b0))), some (.ref (out)), none]) (by decide +kernel) rfl (Nat.le_of_ble_eq_true rfl) rfl ?_
  refine mx_al2 d_Lw_hand_0 ?_
  refine mx_in_0 d_Lw_hand_1 ?_
  refine mx_al0 d_Lw_hand_2 ?_
  refine mx_il1 d_Lw_hand_3 ?_
  refine mx_pgV1 d_Lw_hand_4 hc ok_Vh_hand ml_Lw_96 (by assumption) ⟨rfl, rfl⟩ (by omega) (by omega) (by omega) (Nat.le_of_ble_eq_true rfl) (fun c0 X1 hX => ?_) (fun c0 X1 hX => ?_)
  · obtain ⟨t1, S1, I1, P1, J1⟩ := X1
    have hO : S1 out = some (3, 1) := hA _ hX
    subst c0
    refine mx_i2l d_Lw_hand_7 ?_
    refine mx_last d_Lw_hand_8 (by assumption) (nI_inb (by omega) (by omega)) ?_
    rw [nI_clamp (by omega)]
    refine mx_goto 15 d_Lw_hand_9 (by decide) ?_
    refine mx_in_0 d_Lw_hand_15 ?_
    exact mx_iret d_Lw_hand_16 rfl (mx_lw_0 hX rfl)
  · obtain ⟨t1, S1, I1, P1, J1⟩ := X1
    rcases hcode with h9 | h9
    · exact absurd h9 c0
    · subst h9
      refine mx_catch (nm := "java/lang/IllegalArgumentException") (C := "java/lang/IllegalArgumentException") [] (0, 9, 12, 13) [] rfl (by decide) (by decide) (by intro z hz; cases hz) cl_Lw_13 (by decide +kernel) (fun q9 => ?_)
      refine mx_as3 d_Lw_hand_12 ?_
      refine mx_in_1 d_Lw_hand_13 ?_
      exact mx_iret d_Lw_hand_14 rfl (mx_lw_x hX (by decide) rfl)
  
theorem c_Lw_host {t x out D K N : Nat} {S : mx_S} {I : mx_I} {P : mx_P} {J : mx_G} {v0 : Int32} {v1 : Int32} (hc : mx_C l E M_Vh_host D K N [.ref (x), .int (v0), .int (v1)] (t, S, I, P, J) (mx_pg (fun c => if c = 1 then "java/lang/IndexOutOfBoundsException" else "java/util/NoSuchElementException") c v A)) (hx : S x = some (0, 11)) (hA : ∀ X1, A X1 → X1.2.1 out = some (3, 1)) (hcode : c = 0 ∨ c = 1 ∨ c = 2) : mx_CW l E M_Lw_host (D + 1) K N [.ref (x), .int (v0), .int (v1), .ref (out)] (t, S, I, P, J) (mx_lw c v out A) := by
  refine mx_CW_of (ls0 := [some (.ref (x)), some (.int (v0)), some (.int (v1)), some (.ref (out)), none]) (by decide +kernel) rfl (Nat.le_of_ble_eq_true rfl) rfl ?_
  refine mx_al3 d_Lw_host_0 ?_
  refine mx_in_0 d_Lw_host_1 ?_
  refine mx_al0 d_Lw_host_2 ?_
  refine mx_il1 d_Lw_host_3 ?_
  refine mx_il2 d_Lw_host_4 ?_
  refine mx_pgV2 d_Lw_host_5 hc ok_Vh_host ml_Lw_20 (by assumption) ⟨rfl, rfl⟩ (by omega) (by omega) (by omega) (Nat.le_of_ble_eq_true rfl) (fun c0 X1 hX => ?_) (fun c0 X1 hX => ?_)
  · obtain ⟨t1, S1, I1, P1, J1⟩ := X1
    have hO : S1 out = some (3, 1) := hA _ hX
    subst c0
    refine mx_i2l d_Lw_host_8 ?_
    refine mx_last d_Lw_host_9 (by assumption) (nI_inb (by omega) (by omega)) ?_
    rw [nI_clamp (by omega)]
    refine mx_goto 21 d_Lw_host_10 (by decide) ?_
    refine mx_in_0 d_Lw_host_21 ?_
    exact mx_iret d_Lw_host_22 rfl (mx_lw_0 hX rfl)
  · obtain ⟨t1, S1, I1, P1, J1⟩ := X1
    rcases hcode with h9 | h9 | h9
    · exact absurd h9 c0
    · subst h9
      refine mx_catch (nm := "java/lang/IndexOutOfBoundsException") (C := "java/lang/IndexOutOfBoundsException") [] (0, 10, 13, 24) [(0, 10, 17, 26)] rfl (by decide) (by decide) (by intro z hz; cases hz) cl_Lw_24 (by decide +kernel) (fun q9 => ?_)
      refine mx_as4 d_Lw_host_13 ?_
      refine mx_in_1 d_Lw_host_15 ?_
      exact mx_iret d_Lw_host_16 rfl (mx_lw_x hX (by decide) rfl)
    · subst h9
      refine mx_catch (nm := "java/util/NoSuchElementException") (C := "java/util/NoSuchElementException") [(0, 10, 13, 24)] (0, 10, 17, 26) [] rfl (by decide) (by decide) (by intro z hz; simp only [List.mem_cons, List.not_mem_nil, or_false] at hz; rcases hz with rfl; first | exact ⟨by decide, _, cl_Lw_24, by decide⟩) cl_Lw_26 (by decide +kernel) (fun q9 => ?_)
      refine mx_as4 d_Lw_host_17 ?_
      refine mx_in_2 d_Lw_host_19 ?_
      exact mx_iret d_Lw_host_20 rfl (mx_lw_x hX (by decide) rfl)
  
theorem c_Lw_hostBest {t x out D K N : Nat} {S : mx_S} {I : mx_I} {P : mx_P} {J : mx_G} {v0 : Int32} (hc : mx_C l E M_Vh_hostBest D K N [.ref (x), .int (v0)] (t, S, I, P, J) (mx_pg (fun c => "java/lang/IndexOutOfBoundsException") c v A)) (hx : S x = some (0, 11)) (hA : ∀ X1, A X1 → X1.2.1 out = some (3, 1)) (hcode : c = 0 ∨ c = 1) : mx_CW l E M_Lw_hostBest (D + 1) K N [.ref (x), .int (v0), .ref (out)] (t, S, I, P, J) (mx_lw c v out A) := by
  refine mx_CW_of (ls0 := [some (.ref (x)), some (.int (v0)), some (.ref (out)), none]) (by decide +kernel) rfl (Nat.le_of_ble_eq_true rfl) rfl ?_
  refine mx_al2 d_Lw_hostBest_0 ?_
  refine mx_in_0 d_Lw_hostBest_1 ?_
  refine mx_al0 d_Lw_hostBest_2 ?_
  refine mx_il1 d_Lw_hostBest_3 ?_
  refine mx_pgV1 d_Lw_hostBest_4 hc ok_Vh_hostBest ml_Lw_74 (by assumption) ⟨rfl, rfl⟩ (by omega) (by omega) (by omega) (Nat.le_of_ble_eq_true rfl) (fun c0 X1 hX => ?_) (fun c0 X1 hX => ?_)
  · obtain ⟨t1, S1, I1, P1, J1⟩ := X1
    have hO : S1 out = some (3, 1) := hA _ hX
    subst c0
    refine mx_i2l d_Lw_hostBest_7 ?_
    refine mx_last d_Lw_hostBest_8 (by assumption) (nI_inb (by omega) (by omega)) ?_
    rw [nI_clamp (by omega)]
    refine mx_goto 15 d_Lw_hostBest_9 (by decide) ?_
    refine mx_in_0 d_Lw_hostBest_15 ?_
    exact mx_iret d_Lw_hostBest_16 rfl (mx_lw_0 hX rfl)
  · obtain ⟨t1, S1, I1, P1, J1⟩ := X1
    rcases hcode with h9 | h9
    · exact absurd h9 c0
    · subst h9
      refine mx_catch (nm := "java/lang/IndexOutOfBoundsException") (C := "java/lang/IndexOutOfBoundsException") [] (0, 9, 12, 24) [] rfl (by decide) (by decide) (by intro z hz; cases hz) cl_Lw_24 (by decide +kernel) (fun q9 => ?_)
      refine mx_as3 d_Lw_hostBest_12 ?_
      refine mx_in_1 d_Lw_hostBest_13 ?_
      exact mx_iret d_Lw_hostBest_14 rfl (mx_lw_x hX (by decide) rfl)
  
theorem c_Lw_joy {t x out D K N : Nat} {S : mx_S} {I : mx_I} {P : mx_P} {J : mx_G} {v0 : Int32} {v1 : Int32} {v2 : Int32} (hc : mx_C l E M_Vh_joy D K N [.ref (x), .int (v0), .int (v1), .int (v2)] (t, S, I, P, J) (mx_pg (fun c => "java/lang/IndexOutOfBoundsException") c v A)) (hx : S x = some (0, 11)) (hA : ∀ X1, A X1 → X1.2.1 out = some (3, 1)) (hcode : c = 0 ∨ c = 1) : mx_CW l E M_Lw_joy (D + 1) K N [.ref (x), .int (v0), .int (v1), .int (v2), .ref (out)] (t, S, I, P, J) (mx_lw c v out A) := by
  refine mx_CW_of (ls0 := [some (.ref (x)), some (.int (v0)), some (.int (v1)), some (.int (v2)), some (.ref (out)), none]) (by decide +kernel) rfl (Nat.le_of_ble_eq_true rfl) rfl ?_
  refine mx_al4 d_Lw_joy_0 ?_
  refine mx_in_0 d_Lw_joy_2 ?_
  refine mx_al0 d_Lw_joy_3 ?_
  refine mx_il1 d_Lw_joy_4 ?_
  refine mx_il2 d_Lw_joy_5 ?_
  refine mx_il3 d_Lw_joy_6 ?_
  refine mx_pgV3 d_Lw_joy_7 hc ok_Vh_joy ml_Lw_45 (by assumption) ⟨rfl, rfl⟩ (by omega) (by omega) (by omega) (Nat.le_of_ble_eq_true rfl) (fun c0 X1 hX => ?_) (fun c0 X1 hX => ?_)
  · obtain ⟨t1, S1, I1, P1, J1⟩ := X1
    have hO : S1 out = some (3, 1) := hA _ hX
    subst c0
    refine mx_i2l d_Lw_joy_10 ?_
    refine mx_last d_Lw_joy_11 (by assumption) (nI_inb (by omega) (by omega)) ?_
    rw [nI_clamp (by omega)]
    refine mx_goto 19 d_Lw_joy_12 (by decide) ?_
    refine mx_in_0 d_Lw_joy_19 ?_
    exact mx_iret d_Lw_joy_20 rfl (mx_lw_0 hX rfl)
  · obtain ⟨t1, S1, I1, P1, J1⟩ := X1
    rcases hcode with h9 | h9
    · exact absurd h9 c0
    · subst h9
      refine mx_catch (nm := "java/lang/IndexOutOfBoundsException") (C := "java/lang/IndexOutOfBoundsException") [] (0, 12, 15, 24) [] rfl (by decide) (by decide) (by intro z hz; cases hz) cl_Lw_24 (by decide +kernel) (fun q9 => ?_)
      refine mx_as5 d_Lw_joy_15 ?_
      refine mx_in_1 d_Lw_joy_17 ?_
      exact mx_iret d_Lw_joy_18 rfl (mx_lw_x hX (by decide) rfl)
  
theorem c_Lw_law {t x out D K N : Nat} {S : mx_S} {I : mx_I} {P : mx_P} {J : mx_G}  (hc : mx_C l E M_Vh_law D K N [.ref (x)] (t, S, I, P, J) (mx_pg (fun c => "java/lang/IllegalArgumentException") c v A)) (hx : S x = some (0, 11)) (hA : ∀ X1, A X1 → X1.2.1 out = some (3, 1)) (hcode : c = 0 ∨ c = 1) : mx_CW l E M_Lw_law (D + 1) K N [.ref (x), .ref (out)] (t, S, I, P, J) (mx_lw c v out A) := by
  refine mx_CW_of (ls0 := [some (.ref (x)), some (.ref (out)), none]) (by decide +kernel) rfl (Nat.le_of_ble_eq_true rfl) rfl ?_
  refine mx_al1 d_Lw_law_0 ?_
  refine mx_in_0 d_Lw_law_1 ?_
  refine mx_al0 d_Lw_law_2 ?_
  refine mx_pgV0 d_Lw_law_3 hc ok_Vh_law ml_Lw_17 (by assumption) ⟨rfl, rfl⟩ (by omega) (by omega) (by omega) (Nat.le_of_ble_eq_true rfl) (fun c0 X1 hX => ?_) (fun c0 X1 hX => ?_)
  · obtain ⟨t1, S1, I1, P1, J1⟩ := X1
    have hO : S1 out = some (3, 1) := hA _ hX
    subst c0
    refine mx_i2l d_Lw_law_6 ?_
    refine mx_last d_Lw_law_7 (by assumption) (nI_inb (by omega) (by omega)) ?_
    rw [nI_clamp (by omega)]
    refine mx_goto 14 d_Lw_law_8 (by decide) ?_
    refine mx_in_0 d_Lw_law_14 ?_
    exact mx_iret d_Lw_law_15 rfl (mx_lw_0 hX rfl)
  · obtain ⟨t1, S1, I1, P1, J1⟩ := X1
    rcases hcode with h9 | h9
    · exact absurd h9 c0
    · subst h9
      refine mx_catch (nm := "java/lang/IllegalArgumentException") (C := "java/lang/IllegalArgumentException") [] (0, 8, 11, 13) [] rfl (by decide) (by decide) (by intro z hz; cases hz) cl_Lw_13 (by decide +kernel) (fun q9 => ?_)
      refine mx_as2 d_Lw_law_11 ?_
      refine mx_in_1 d_Lw_law_12 ?_
      exact mx_iret d_Lw_law_13 rfl (mx_lw_x hX (by decide) rfl)
  
theorem c_Lw_led {t x out D K N : Nat} {S : mx_S} {I : mx_I} {P : mx_P} {J : mx_G} {v0 : Int32} {b1 : Bool} (hc : mx_C l E M_Vh_led D K N [.ref (x), .int (v0), .int (bI (b1))] (t, S, I, P, J) (mx_pg (fun c => "java/lang/IndexOutOfBoundsException") c v A)) (hx : S x = some (0, 11)) (hA : ∀ X1, A X1 → X1.2.1 out = some (3, 1)) (hcode : c = 0 ∨ c = 1) : mx_CW l E M_Lw_led (D + 1) K N [.ref (x), .int (v0), .int (bI (b1)), .ref (out)] (t, S, I, P, J) (mx_lw c v out A) := by
  refine mx_CW_of (ls0 := [some (.ref (x)), some (.int (v0)), some (.int (bI (b1))), some (.ref (out)), none]) (by decide +kernel) rfl (Nat.le_of_ble_eq_true rfl) rfl ?_
  refine mx_al3 d_Lw_led_0 ?_
  refine mx_in_0 d_Lw_led_1 ?_
  refine mx_al0 d_Lw_led_2 ?_
  refine mx_il1 d_Lw_led_3 ?_
  refine mx_il2 d_Lw_led_4 ?_
  refine mx_pgV2 d_Lw_led_5 hc ok_Vh_led ml_Lw_133 (by assumption) ⟨rfl, rfl⟩ (by omega) (by omega) (by omega) (Nat.le_of_ble_eq_true rfl) (fun c0 X1 hX => ?_) (fun c0 X1 hX => ?_)
  · obtain ⟨t1, S1, I1, P1, J1⟩ := X1
    have hO : S1 out = some (3, 1) := hA _ hX
    subst c0
    refine mx_i2l d_Lw_led_8 ?_
    refine mx_last d_Lw_led_9 (by assumption) (nI_inb (by omega) (by omega)) ?_
    rw [nI_clamp (by omega)]
    refine mx_goto 17 d_Lw_led_10 (by decide) ?_
    refine mx_in_0 d_Lw_led_17 ?_
    exact mx_iret d_Lw_led_18 rfl (mx_lw_0 hX rfl)
  · obtain ⟨t1, S1, I1, P1, J1⟩ := X1
    rcases hcode with h9 | h9
    · exact absurd h9 c0
    · subst h9
      refine mx_catch (nm := "java/lang/IndexOutOfBoundsException") (C := "java/lang/IndexOutOfBoundsException") [] (0, 10, 13, 24) [] rfl (by decide) (by decide) (by intro z hz; cases hz) cl_Lw_24 (by decide +kernel) (fun q9 => ?_)
      refine mx_as4 d_Lw_led_13 ?_
      refine mx_in_1 d_Lw_led_15 ?_
      exact mx_iret d_Lw_led_16 rfl (mx_lw_x hX (by decide) rfl)
  
theorem c_Lw_lend {t x out D K N : Nat} {S : mx_S} {I : mx_I} {P : mx_P} {J : mx_G} {v0 : Int32} (hc : mx_C l E M_Vh_lend D K N [.ref (x), .int (v0)] (t, S, I, P, J) (mx_pg (fun c => "java/lang/IndexOutOfBoundsException") c v A)) (hx : S x = some (0, 11)) (hA : ∀ X1, A X1 → X1.2.1 out = some (3, 1)) (hcode : c = 0 ∨ c = 1) : mx_CW l E M_Lw_lend (D + 1) K N [.ref (x), .int (v0), .ref (out)] (t, S, I, P, J) (mx_lw c v out A) := by
  refine mx_CW_of (ls0 := [some (.ref (x)), some (.int (v0)), some (.ref (out)), none]) (by decide +kernel) rfl (Nat.le_of_ble_eq_true rfl) rfl ?_
  refine mx_al2 d_Lw_lend_0 ?_
  refine mx_in_0 d_Lw_lend_1 ?_
  refine mx_al0 d_Lw_lend_2 ?_
  refine mx_il1 d_Lw_lend_3 ?_
  refine mx_pgV1 d_Lw_lend_4 hc ok_Vh_lend ml_Lw_102 (by assumption) ⟨rfl, rfl⟩ (by omega) (by omega) (by omega) (Nat.le_of_ble_eq_true rfl) (fun c0 X1 hX => ?_) (fun c0 X1 hX => ?_)
  · obtain ⟨t1, S1, I1, P1, J1⟩ := X1
    have hO : S1 out = some (3, 1) := hA _ hX
    subst c0
    refine mx_i2l d_Lw_lend_7 ?_
    refine mx_last d_Lw_lend_8 (by assumption) (nI_inb (by omega) (by omega)) ?_
    rw [nI_clamp (by omega)]
    refine mx_goto 15 d_Lw_lend_9 (by decide) ?_
    refine mx_in_0 d_Lw_lend_15 ?_
    exact mx_iret d_Lw_lend_16 rfl (mx_lw_0 hX rfl)
  · obtain ⟨t1, S1, I1, P1, J1⟩ := X1
    rcases hcode with h9 | h9
    · exact absurd h9 c0
    · subst h9
      refine mx_catch (nm := "java/lang/IndexOutOfBoundsException") (C := "java/lang/IndexOutOfBoundsException") [] (0, 9, 12, 24) [] rfl (by decide) (by decide) (by intro z hz; cases hz) cl_Lw_24 (by decide +kernel) (fun q9 => ?_)
      refine mx_as3 d_Lw_lend_12 ?_
      refine mx_in_1 d_Lw_lend_13 ?_
      exact mx_iret d_Lw_lend_14 rfl (mx_lw_x hX (by decide) rfl)
  
theorem c_Lw_lets {t x out D K N : Nat} {S : mx_S} {I : mx_I} {P : mx_P} {J : mx_G} {v0 : Int32} {v1 : Int32} {v2 : Int32} {r : Bool} (hc : mx_C l E M_Vh_lets D K N [.ref (x), .int (v0), .int (v1), .int (v2)] (t, S, I, P, J) (mx_pg (fun c => "java/lang/IndexOutOfBoundsException") c (bI r) A)) (hx : S x = some (0, 11)) (hA : ∀ X1, A X1 → X1.2.1 out = some (3, 1)) (hcode : c = 0 ∨ c = 1) : mx_CW l E M_Lw_lets (D + 1) K N [.ref (x), .int (v0), .int (v1), .int (v2), .ref (out)] (t, S, I, P, J) (mx_lw c (bI r) out A) := by
  refine mx_CW_of (ls0 := [some (.ref (x)), some (.int (v0)), some (.int (v1)), some (.int (v2)), some (.ref (out)), none]) (by decide +kernel) rfl (Nat.le_of_ble_eq_true rfl) rfl ?_
  refine mx_al4 d_Lw_lets_0 ?_
  refine mx_in_0 d_Lw_lets_2 ?_
  refine mx_al0 d_Lw_lets_3 ?_
  refine mx_il1 d_Lw_lets_4 ?_
  refine mx_il2 d_Lw_lets_5 ?_
  refine mx_il3 d_Lw_lets_6 ?_
  refine mx_pgV3 d_Lw_lets_7 hc ok_Vh_lets ml_Lw_42 (by assumption) ⟨rfl, rfl⟩ (by omega) (by omega) (by omega) (Nat.le_of_ble_eq_true rfl) (fun c0 X1 hX => ?_) (fun c0 X1 hX => ?_)
  · obtain ⟨t1, S1, I1, P1, J1⟩ := X1
    have hO : S1 out = some (3, 1) := hA _ hX
    subst c0
    refine mx_ifB_eq 17 d_Lw_lets_10 (by decide) (fun c_10 => ?_) (fun c_10 => ?_)
    · skip
      refine mx_lc_0 d_Lw_lets_17 ?_
      refine mx_last d_Lw_lets_18 (by assumption) (nI_inb (by omega) (by omega)) ?_
      rw [nI_clamp (by omega)]
      refine mx_goto 26 d_Lw_lets_19 (by decide) ?_
      refine mx_in_0 d_Lw_lets_26 ?_
      exact mx_iret d_Lw_lets_27 rfl (mx_lw_0b hX (by rw [c_10]; rfl) rfl)
    · skip
      refine mx_lc_1 d_Lw_lets_13 ?_
      refine mx_goto 18 d_Lw_lets_14 (by decide) ?_
      refine mx_last d_Lw_lets_18 (by assumption) (nI_inb (by omega) (by omega)) ?_
      rw [nI_clamp (by omega)]
      refine mx_goto 26 d_Lw_lets_19 (by decide) ?_
      refine mx_in_0 d_Lw_lets_26 ?_
      exact mx_iret d_Lw_lets_27 rfl (mx_lw_0b hX (by rw [c_10]; rfl) rfl)
  · obtain ⟨t1, S1, I1, P1, J1⟩ := X1
    rcases hcode with h9 | h9
    · exact absurd h9 c0
    · subst h9
      refine mx_catch (nm := "java/lang/IndexOutOfBoundsException") (C := "java/lang/IndexOutOfBoundsException") [] (0, 19, 22, 24) [] rfl (by decide) (by decide) (by intro z hz; cases hz) cl_Lw_24 (by decide +kernel) (fun q9 => ?_)
      refine mx_as5 d_Lw_lets_22 ?_
      refine mx_in_1 d_Lw_lets_24 ?_
      exact mx_iret d_Lw_lets_25 rfl (mx_lw_x hX (by decide) rfl)
  
theorem c_Lw_log {t x out D K N : Nat} {S : mx_S} {I : mx_I} {P : mx_P} {J : mx_G} {v0 : Int32} {v1 : Int32} (hc : mx_C l E M_Vh_log D K N [.ref (x), .int (v0), .int (v1)] (t, S, I, P, J) (mx_pg (fun c => "java/util/NoSuchElementException") c v A)) (hx : S x = some (0, 11)) (hA : ∀ X1, A X1 → X1.2.1 out = some (3, 1)) (hcode : c = 0 ∨ c = 1) : mx_CW l E M_Lw_log (D + 1) K N [.ref (x), .int (v0), .int (v1), .ref (out)] (t, S, I, P, J) (mx_lw c v out A) := by
  refine mx_CW_of (ls0 := [some (.ref (x)), some (.int (v0)), some (.int (v1)), some (.ref (out)), none]) (by decide +kernel) rfl (Nat.le_of_ble_eq_true rfl) rfl ?_
  refine mx_al3 d_Lw_log_0 ?_
  refine mx_in_0 d_Lw_log_1 ?_
  refine mx_al0 d_Lw_log_2 ?_
  refine mx_il1 d_Lw_log_3 ?_
  refine mx_il2 d_Lw_log_4 ?_
  refine mx_pgV2 d_Lw_log_5 hc ok_Vh_log ml_Lw_136 (by assumption) ⟨rfl, rfl⟩ (by omega) (by omega) (by omega) (Nat.le_of_ble_eq_true rfl) (fun c0 X1 hX => ?_) (fun c0 X1 hX => ?_)
  · obtain ⟨t1, S1, I1, P1, J1⟩ := X1
    have hO : S1 out = some (3, 1) := hA _ hX
    subst c0
    refine mx_i2l d_Lw_log_8 ?_
    refine mx_last d_Lw_log_9 (by assumption) (nI_inb (by omega) (by omega)) ?_
    rw [nI_clamp (by omega)]
    refine mx_goto 17 d_Lw_log_10 (by decide) ?_
    refine mx_in_0 d_Lw_log_17 ?_
    exact mx_iret d_Lw_log_18 rfl (mx_lw_0 hX rfl)
  · obtain ⟨t1, S1, I1, P1, J1⟩ := X1
    rcases hcode with h9 | h9
    · exact absurd h9 c0
    · subst h9
      refine mx_catch (nm := "java/util/NoSuchElementException") (C := "java/util/NoSuchElementException") [] (0, 10, 13, 26) [] rfl (by decide) (by decide) (by intro z hz; cases hz) cl_Lw_26 (by decide +kernel) (fun q9 => ?_)
      refine mx_as4 d_Lw_log_13 ?_
      refine mx_in_1 d_Lw_log_15 ?_
      exact mx_iret d_Lw_log_16 rfl (mx_lw_x hX (by decide) rfl)
  
theorem c_Lw_mark {t x out D K N : Nat} {S : mx_S} {I : mx_I} {P : mx_P} {J : mx_G} {v0 : Int32} {v1 : Int32} (hc : mx_C l E M_Vh_mark D K N [.ref (x), .int (v0), .int (v1)] (t, S, I, P, J) (mx_pg (fun c => if c = 1 then "java/lang/IndexOutOfBoundsException" else "java/lang/IllegalArgumentException") c v A)) (hx : S x = some (0, 11)) (hA : ∀ X1, A X1 → X1.2.1 out = some (3, 1)) (hcode : c = 0 ∨ c = 1 ∨ c = 2) : mx_CW l E M_Lw_mark (D + 1) K N [.ref (x), .int (v0), .int (v1), .ref (out)] (t, S, I, P, J) (mx_lw c v out A) := by
  refine mx_CW_of (ls0 := [some (.ref (x)), some (.int (v0)), some (.int (v1)), some (.ref (out)), none]) (by decide +kernel) rfl (Nat.le_of_ble_eq_true rfl) rfl ?_
  refine mx_al3 d_Lw_mark_0 ?_
  refine mx_in_0 d_Lw_mark_1 ?_
  refine mx_al0 d_Lw_mark_2 ?_
  refine mx_il1 d_Lw_mark_3 ?_
  refine mx_il2 d_Lw_mark_4 ?_
  refine mx_pgV2 d_Lw_mark_5 hc ok_Vh_mark ml_Lw_60 (by assumption) ⟨rfl, rfl⟩ (by omega) (by omega) (by omega) (Nat.le_of_ble_eq_true rfl) (fun c0 X1 hX => ?_) (fun c0 X1 hX => ?_)
  · obtain ⟨t1, S1, I1, P1, J1⟩ := X1
    have hO : S1 out = some (3, 1) := hA _ hX
    subst c0
    refine mx_i2l d_Lw_mark_8 ?_
    refine mx_last d_Lw_mark_9 (by assumption) (nI_inb (by omega) (by omega)) ?_
    rw [nI_clamp (by omega)]
    refine mx_goto 21 d_Lw_mark_10 (by decide) ?_
    refine mx_in_0 d_Lw_mark_21 ?_
    exact mx_iret d_Lw_mark_22 rfl (mx_lw_0 hX rfl)
  · obtain ⟨t1, S1, I1, P1, J1⟩ := X1
    rcases hcode with h9 | h9 | h9
    · exact absurd h9 c0
    · subst h9
      refine mx_catch (nm := "java/lang/IndexOutOfBoundsException") (C := "java/lang/IndexOutOfBoundsException") [] (0, 10, 13, 24) [(0, 10, 17, 13)] rfl (by decide) (by decide) (by intro z hz; cases hz) cl_Lw_24 (by decide +kernel) (fun q9 => ?_)
      refine mx_as4 d_Lw_mark_13 ?_
      refine mx_in_1 d_Lw_mark_15 ?_
      exact mx_iret d_Lw_mark_16 rfl (mx_lw_x hX (by decide) rfl)
    · subst h9
      refine mx_catch (nm := "java/lang/IllegalArgumentException") (C := "java/lang/IllegalArgumentException") [(0, 10, 13, 24)] (0, 10, 17, 13) [] rfl (by decide) (by decide) (by intro z hz; simp only [List.mem_cons, List.not_mem_nil, or_false] at hz; rcases hz with rfl; first | exact ⟨by decide, _, cl_Lw_24, by decide⟩) cl_Lw_13 (by decide +kernel) (fun q9 => ?_)
      refine mx_as4 d_Lw_mark_17 ?_
      refine mx_in_2 d_Lw_mark_19 ?_
      exact mx_iret d_Lw_mark_20 rfl (mx_lw_x hX (by decide) rfl)
  
theorem c_Lw_odds {t x out D K N : Nat} {S : mx_S} {I : mx_I} {P : mx_P} {J : mx_G} {v0 : Int32} {v1 : Int32} (hc : mx_C l E M_Vh_odds D K N [.ref (x), .int (v0), .int (v1)] (t, S, I, P, J) (mx_pg (fun c => "java/lang/IllegalArgumentException") c v A)) (hx : S x = some (0, 11)) (hA : ∀ X1, A X1 → X1.2.1 out = some (3, 1)) (hcode : c = 0 ∨ c = 1) : mx_CW l E M_Lw_odds (D + 1) K N [.ref (x), .int (v0), .int (v1), .ref (out)] (t, S, I, P, J) (mx_lw c v out A) := by
  refine mx_CW_of (ls0 := [some (.ref (x)), some (.int (v0)), some (.int (v1)), some (.ref (out)), none]) (by decide +kernel) rfl (Nat.le_of_ble_eq_true rfl) rfl ?_
  refine mx_al3 d_Lw_odds_0 ?_
  refine mx_in_0 d_Lw_odds_1 ?_
  refine mx_al0 d_Lw_odds_2 ?_
  refine mx_il1 d_Lw_odds_3 ?_
  refine mx_il2 d_Lw_odds_4 ?_
  refine mx_pgV2 d_Lw_odds_5 hc ok_Vh_odds ml_Lw_105 (by assumption) ⟨rfl, rfl⟩ (by omega) (by omega) (by omega) (Nat.le_of_ble_eq_true rfl) (fun c0 X1 hX => ?_) (fun c0 X1 hX => ?_)
  · obtain ⟨t1, S1, I1, P1, J1⟩ := X1
    have hO : S1 out = some (3, 1) := hA _ hX
    subst c0
    refine mx_i2l d_Lw_odds_8 ?_
    refine mx_last d_Lw_odds_9 (by assumption) (nI_inb (by omega) (by omega)) ?_
    rw [nI_clamp (by omega)]
    refine mx_goto 17 d_Lw_odds_10 (by decide) ?_
    refine mx_in_0 d_Lw_odds_17 ?_
    exact mx_iret d_Lw_odds_18 rfl (mx_lw_0 hX rfl)
  · obtain ⟨t1, S1, I1, P1, J1⟩ := X1
    rcases hcode with h9 | h9
    · exact absurd h9 c0
    · subst h9
      refine mx_catch (nm := "java/lang/IllegalArgumentException") (C := "java/lang/IllegalArgumentException") [] (0, 10, 13, 13) [] rfl (by decide) (by decide) (by intro z hz; cases hz) cl_Lw_13 (by decide +kernel) (fun q9 => ?_)
      refine mx_as4 d_Lw_odds_13 ?_
      refine mx_in_1 d_Lw_odds_15 ?_
      exact mx_iret d_Lw_odds_16 rfl (mx_lw_x hX (by decide) rfl)
  
theorem c_Lw_rank {t x out D K N : Nat} {S : mx_S} {I : mx_I} {P : mx_P} {J : mx_G} {v0 : Int32} {v1 : Int32} {b2 : Bool} (hc : mx_C l E M_Vh_rank D K N [.ref (x), .int (v0), .int (v1), .int (bI (b2))] (t, S, I, P, J) (mx_pg (fun c => "java/lang/IndexOutOfBoundsException") c v A)) (hx : S x = some (0, 11)) (hA : ∀ X1, A X1 → X1.2.1 out = some (3, 1)) (hcode : c = 0 ∨ c = 1) : mx_CW l E M_Lw_rank (D + 1) K N [.ref (x), .int (v0), .int (v1), .int (bI (b2)), .ref (out)] (t, S, I, P, J) (mx_lw c v out A) := by
  refine mx_CW_of (ls0 := [some (.ref (x)), some (.int (v0)), some (.int (v1)), some (.int (bI (b2))), some (.ref (out)), none]) (by decide +kernel) rfl (Nat.le_of_ble_eq_true rfl) rfl ?_
  refine mx_al4 d_Lw_rank_0 ?_
  refine mx_in_0 d_Lw_rank_2 ?_
  refine mx_al0 d_Lw_rank_3 ?_
  refine mx_il1 d_Lw_rank_4 ?_
  refine mx_il2 d_Lw_rank_5 ?_
  refine mx_il3 d_Lw_rank_6 ?_
  refine mx_pgV3 d_Lw_rank_7 hc ok_Vh_rank ml_Lw_31 (by assumption) ⟨rfl, rfl⟩ (by omega) (by omega) (by omega) (Nat.le_of_ble_eq_true rfl) (fun c0 X1 hX => ?_) (fun c0 X1 hX => ?_)
  · obtain ⟨t1, S1, I1, P1, J1⟩ := X1
    have hO : S1 out = some (3, 1) := hA _ hX
    subst c0
    refine mx_i2l d_Lw_rank_10 ?_
    refine mx_last d_Lw_rank_11 (by assumption) (nI_inb (by omega) (by omega)) ?_
    rw [nI_clamp (by omega)]
    refine mx_goto 19 d_Lw_rank_12 (by decide) ?_
    refine mx_in_0 d_Lw_rank_19 ?_
    exact mx_iret d_Lw_rank_20 rfl (mx_lw_0 hX rfl)
  · obtain ⟨t1, S1, I1, P1, J1⟩ := X1
    rcases hcode with h9 | h9
    · exact absurd h9 c0
    · subst h9
      refine mx_catch (nm := "java/lang/IndexOutOfBoundsException") (C := "java/lang/IndexOutOfBoundsException") [] (0, 12, 15, 24) [] rfl (by decide) (by decide) (by intro z hz; cases hz) cl_Lw_24 (by decide +kernel) (fun q9 => ?_)
      refine mx_as5 d_Lw_rank_15 ?_
      refine mx_in_1 d_Lw_rank_17 ?_
      exact mx_iret d_Lw_rank_18 rfl (mx_lw_x hX (by decide) rfl)
  
theorem c_Lw_rather {t x out D K N : Nat} {S : mx_S} {I : mx_I} {P : mx_P} {J : mx_G}  (hc : mx_C l E M_Vh_rather D K N [.ref (x)] (t, S, I, P, J) (mx_pg (fun c => "java/lang/IllegalArgumentException") c v A)) (hx : S x = some (0, 11)) (hA : ∀ X1, A X1 → X1.2.1 out = some (3, 1)) (hcode : c = 0 ∨ c = 1) : mx_CW l E M_Lw_rather (D + 1) K N [.ref (x), .ref (out)] (t, S, I, P, J) (mx_lw c v out A) := by
  refine mx_CW_of (ls0 := [some (.ref (x)), some (.ref (out)), none]) (by decide +kernel) rfl (Nat.le_of_ble_eq_true rfl) rfl ?_
  refine mx_al1 d_Lw_rather_0 ?_
  refine mx_in_0 d_Lw_rather_1 ?_
  refine mx_al0 d_Lw_rather_2 ?_
  refine mx_pgV0 d_Lw_rather_3 hc ok_Vh_rather ml_Lw_80 (by assumption) ⟨rfl, rfl⟩ (by omega) (by omega) (by omega) (Nat.le_of_ble_eq_true rfl) (fun c0 X1 hX => ?_) (fun c0 X1 hX => ?_)
  · obtain ⟨t1, S1, I1, P1, J1⟩ := X1
    have hO : S1 out = some (3, 1) := hA _ hX
    subst c0
    refine mx_i2l d_Lw_rather_6 ?_
    refine mx_last d_Lw_rather_7 (by assumption) (nI_inb (by omega) (by omega)) ?_
    rw [nI_clamp (by omega)]
    refine mx_goto 14 d_Lw_rather_8 (by decide) ?_
    refine mx_in_0 d_Lw_rather_14 ?_
    exact mx_iret d_Lw_rather_15 rfl (mx_lw_0 hX rfl)
  · obtain ⟨t1, S1, I1, P1, J1⟩ := X1
    rcases hcode with h9 | h9
    · exact absurd h9 c0
    · subst h9
      refine mx_catch (nm := "java/lang/IllegalArgumentException") (C := "java/lang/IllegalArgumentException") [] (0, 8, 11, 13) [] rfl (by decide) (by decide) (by intro z hz; cases hz) cl_Lw_13 (by decide +kernel) (fun q9 => ?_)
      refine mx_as2 d_Lw_rather_11 ?_
      refine mx_in_1 d_Lw_rather_12 ?_
      exact mx_iret d_Lw_rather_13 rfl (mx_lw_x hX (by decide) rfl)
  
theorem c_Lw_rests {t x out D K N : Nat} {S : mx_S} {I : mx_I} {P : mx_P} {J : mx_G} {v0 : Int32} {v1 : Int32} (hc : mx_C l E M_Vh_rests D K N [.ref (x), .int (v0), .int (v1)] (t, S, I, P, J) (mx_pg (fun c => "java/lang/IndexOutOfBoundsException") c v A)) (hx : S x = some (0, 11)) (hA : ∀ X1, A X1 → X1.2.1 out = some (3, 1)) (hcode : c = 0 ∨ c = 1) : mx_CW l E M_Lw_rests (D + 1) K N [.ref (x), .int (v0), .int (v1), .ref (out)] (t, S, I, P, J) (mx_lw c v out A) := by
  refine mx_CW_of (ls0 := [some (.ref (x)), some (.int (v0)), some (.int (v1)), some (.ref (out)), none]) (by decide +kernel) rfl (Nat.le_of_ble_eq_true rfl) rfl ?_
  refine mx_al3 d_Lw_rests_0 ?_
  refine mx_in_0 d_Lw_rests_1 ?_
  refine mx_al0 d_Lw_rests_2 ?_
  refine mx_il1 d_Lw_rests_3 ?_
  refine mx_il2 d_Lw_rests_4 ?_
  refine mx_pgV2 d_Lw_rests_5 hc ok_Vh_rests ml_Lw_114 (by assumption) ⟨rfl, rfl⟩ (by omega) (by omega) (by omega) (Nat.le_of_ble_eq_true rfl) (fun c0 X1 hX => ?_) (fun c0 X1 hX => ?_)
  · obtain ⟨t1, S1, I1, P1, J1⟩ := X1
    have hO : S1 out = some (3, 1) := hA _ hX
    subst c0
    refine mx_i2l d_Lw_rests_8 ?_
    refine mx_last d_Lw_rests_9 (by assumption) (nI_inb (by omega) (by omega)) ?_
    rw [nI_clamp (by omega)]
    refine mx_goto 17 d_Lw_rests_10 (by decide) ?_
    refine mx_in_0 d_Lw_rests_17 ?_
    exact mx_iret d_Lw_rests_18 rfl (mx_lw_0 hX rfl)
  · obtain ⟨t1, S1, I1, P1, J1⟩ := X1
    rcases hcode with h9 | h9
    · exact absurd h9 c0
    · subst h9
      refine mx_catch (nm := "java/lang/IndexOutOfBoundsException") (C := "java/lang/IndexOutOfBoundsException") [] (0, 10, 13, 24) [] rfl (by decide) (by decide) (by intro z hz; cases hz) cl_Lw_24 (by decide +kernel) (fun q9 => ?_)
      refine mx_as4 d_Lw_rests_13 ?_
      refine mx_in_1 d_Lw_rests_15 ?_
      exact mx_iret d_Lw_rests_16 rfl (mx_lw_x hX (by decide) rfl)
  
theorem c_Lw_row {t x out D K N : Nat} {S : mx_S} {I : mx_I} {P : mx_P} {J : mx_G} {v0 : Int32} {v1 : Int32} {b2 : Bool} (hc : mx_C l E M_Vh_row D K N [.ref (x), .int (v0), .int (v1), .int (bI (b2))] (t, S, I, P, J) (mx_pg (fun c => "java/lang/IndexOutOfBoundsException") c v A)) (hx : S x = some (0, 11)) (hA : ∀ X1, A X1 → X1.2.1 out = some (3, 1)) (hcode : c = 0 ∨ c = 1) : mx_CW l E M_Lw_row (D + 1) K N [.ref (x), .int (v0), .int (v1), .int (bI (b2)), .ref (out)] (t, S, I, P, J) (mx_lw c v out A) := by
  refine mx_CW_of (ls0 := [some (.ref (x)), some (.int (v0)), some (.int (v1)), some (.int (bI (b2))), some (.ref (out)), none]) (by decide +kernel) rfl (Nat.le_of_ble_eq_true rfl) rfl ?_
  refine mx_al4 d_Lw_row_0 ?_
  refine mx_in_0 d_Lw_row_2 ?_
  refine mx_al0 d_Lw_row_3 ?_
  refine mx_il1 d_Lw_row_4 ?_
  refine mx_il2 d_Lw_row_5 ?_
  refine mx_il3 d_Lw_row_6 ?_
  refine mx_pgV3 d_Lw_row_7 hc ok_Vh_row ml_Lw_83 (by assumption) ⟨rfl, rfl⟩ (by omega) (by omega) (by omega) (Nat.le_of_ble_eq_true rfl) (fun c0 X1 hX => ?_) (fun c0 X1 hX => ?_)
  · obtain ⟨t1, S1, I1, P1, J1⟩ := X1
    have hO : S1 out = some (3, 1) := hA _ hX
    subst c0
    refine mx_i2l d_Lw_row_10 ?_
    refine mx_last d_Lw_row_11 (by assumption) (nI_inb (by omega) (by omega)) ?_
    rw [nI_clamp (by omega)]
    refine mx_goto 19 d_Lw_row_12 (by decide) ?_
    refine mx_in_0 d_Lw_row_19 ?_
    exact mx_iret d_Lw_row_20 rfl (mx_lw_0 hX rfl)
  · obtain ⟨t1, S1, I1, P1, J1⟩ := X1
    rcases hcode with h9 | h9
    · exact absurd h9 c0
    · subst h9
      refine mx_catch (nm := "java/lang/IndexOutOfBoundsException") (C := "java/lang/IndexOutOfBoundsException") [] (0, 12, 15, 24) [] rfl (by decide) (by decide) (by intro z hz; cases hz) cl_Lw_24 (by decide +kernel) (fun q9 => ?_)
      refine mx_as5 d_Lw_row_15 ?_
      refine mx_in_1 d_Lw_row_17 ?_
      exact mx_iret d_Lw_row_18 rfl (mx_lw_x hX (by decide) rfl)
  
theorem c_Lw_rules {t x out D K N : Nat} {S : mx_S} {I : mx_I} {P : mx_P} {J : mx_G} {b0 : Bool} (hc : mx_C l E M_Vh_rules D K N [.ref (x), .int (bI (b0))] (t, S, I, P, J) (mx_pg (fun c => "java/lang/IllegalArgumentException") c v A)) (hx : S x = some (0, 11)) (hA : ∀ X1, A X1 → X1.2.1 out = some (3, 1)) (hcode : c = 0 ∨ c = 1) : mx_CW l E M_Lw_rules (D + 1) K N [.ref (x), .int (bI (b0)), .ref (out)] (t, S, I, P, J) (mx_lw c v out A) := by
  refine mx_CW_of (ls0 := [some (.ref (x)), some (.int (bI (b0))), some (.ref (out)), none]) (by decide +kernel) rfl (Nat.le_of_ble_eq_true rfl) rfl ?_
  refine mx_al2 d_Lw_rules_0 ?_
  refine mx_in_0 d_Lw_rules_1 ?_
  refine mx_al0 d_Lw_rules_2 ?_
  refine mx_il1 d_Lw_rules_3 ?_
  refine mx_pgV1 d_Lw_rules_4 hc ok_Vh_rules ml_Lw_89 (by assumption) ⟨rfl, rfl⟩ (by omega) (by omega) (by omega) (Nat.le_of_ble_eq_true rfl) (fun c0 X1 hX => ?_) (fun c0 X1 hX => ?_)
  · obtain ⟨t1, S1, I1, P1, J1⟩ := X1
    have hO : S1 out = some (3, 1) := hA _ hX
    subst c0
    refine mx_i2l d_Lw_rules_7 ?_
    refine mx_last d_Lw_rules_8 (by assumption) (nI_inb (by omega) (by omega)) ?_
    rw [nI_clamp (by omega)]
    refine mx_goto 15 d_Lw_rules_9 (by decide) ?_
    refine mx_in_0 d_Lw_rules_15 ?_
    exact mx_iret d_Lw_rules_16 rfl (mx_lw_0 hX rfl)
  · obtain ⟨t1, S1, I1, P1, J1⟩ := X1
    rcases hcode with h9 | h9
    · exact absurd h9 c0
    · subst h9
      refine mx_catch (nm := "java/lang/IllegalArgumentException") (C := "java/lang/IllegalArgumentException") [] (0, 9, 12, 13) [] rfl (by decide) (by decide) (by intro z hz; cases hz) cl_Lw_13 (by decide +kernel) (fun q9 => ?_)
      refine mx_as3 d_Lw_rules_12 ?_
      refine mx_in_1 d_Lw_rules_13 ?_
      exact mx_iret d_Lw_rules_14 rfl (mx_lw_x hX (by decide) rfl)
  
theorem c_Lw_saved {t x out D K N : Nat} {S : mx_S} {I : mx_I} {P : mx_P} {J : mx_G} {v0 : Int32} {v1 : Int32} (hc : mx_C l E M_Vh_saved D K N [.ref (x), .int (v0), .int (v1)] (t, S, I, P, J) (mx_pg (fun c => "java/lang/IndexOutOfBoundsException") c v A)) (hx : S x = some (0, 11)) (hA : ∀ X1, A X1 → X1.2.1 out = some (3, 1)) (hcode : c = 0 ∨ c = 1) : mx_CW l E M_Lw_saved (D + 1) K N [.ref (x), .int (v0), .int (v1), .ref (out)] (t, S, I, P, J) (mx_lw c v out A) := by
  refine mx_CW_of (ls0 := [some (.ref (x)), some (.int (v0)), some (.int (v1)), some (.ref (out)), none]) (by decide +kernel) rfl (Nat.le_of_ble_eq_true rfl) rfl ?_
  refine mx_al3 d_Lw_saved_0 ?_
  refine mx_in_0 d_Lw_saved_1 ?_
  refine mx_al0 d_Lw_saved_2 ?_
  refine mx_il1 d_Lw_saved_3 ?_
  refine mx_il2 d_Lw_saved_4 ?_
  refine mx_pgV2 d_Lw_saved_5 hc ok_Vh_saved ml_Lw_99 (by assumption) ⟨rfl, rfl⟩ (by omega) (by omega) (by omega) (Nat.le_of_ble_eq_true rfl) (fun c0 X1 hX => ?_) (fun c0 X1 hX => ?_)
  · obtain ⟨t1, S1, I1, P1, J1⟩ := X1
    have hO : S1 out = some (3, 1) := hA _ hX
    subst c0
    refine mx_i2l d_Lw_saved_8 ?_
    refine mx_last d_Lw_saved_9 (by assumption) (nI_inb (by omega) (by omega)) ?_
    rw [nI_clamp (by omega)]
    refine mx_goto 17 d_Lw_saved_10 (by decide) ?_
    refine mx_in_0 d_Lw_saved_17 ?_
    exact mx_iret d_Lw_saved_18 rfl (mx_lw_0 hX rfl)
  · obtain ⟨t1, S1, I1, P1, J1⟩ := X1
    rcases hcode with h9 | h9
    · exact absurd h9 c0
    · subst h9
      refine mx_catch (nm := "java/lang/IndexOutOfBoundsException") (C := "java/lang/IndexOutOfBoundsException") [] (0, 10, 13, 24) [] rfl (by decide) (by decide) (by intro z hz; cases hz) cl_Lw_24 (by decide +kernel) (fun q9 => ?_)
      refine mx_as4 d_Lw_saved_13 ?_
      refine mx_in_1 d_Lw_saved_15 ?_
      exact mx_iret d_Lw_saved_16 rfl (mx_lw_x hX (by decide) rfl)
  
theorem c_Lw_send {t x out D K N : Nat} {S : mx_S} {I : mx_I} {P : mx_P} {J : mx_G}  (hc : mx_C l E M_Vh_send D K N [.ref (x)] (t, S, I, P, J) (mx_pg (fun c => "java/lang/IllegalArgumentException") c v A)) (hx : S x = some (0, 11)) (hA : ∀ X1, A X1 → X1.2.1 out = some (3, 1)) (hcode : c = 0 ∨ c = 1) : mx_CW l E M_Lw_send (D + 1) K N [.ref (x), .ref (out)] (t, S, I, P, J) (mx_lw c v out A) := by
  refine mx_CW_of (ls0 := [some (.ref (x)), some (.ref (out)), none]) (by decide +kernel) rfl (Nat.le_of_ble_eq_true rfl) rfl ?_
  refine mx_al1 d_Lw_send_0 ?_
  refine mx_in_0 d_Lw_send_1 ?_
  refine mx_al0 d_Lw_send_2 ?_
  refine mx_pgV0 d_Lw_send_3 hc ok_Vh_send ml_Lw_93 (by assumption) ⟨rfl, rfl⟩ (by omega) (by omega) (by omega) (Nat.le_of_ble_eq_true rfl) (fun c0 X1 hX => ?_) (fun c0 X1 hX => ?_)
  · obtain ⟨t1, S1, I1, P1, J1⟩ := X1
    have hO : S1 out = some (3, 1) := hA _ hX
    subst c0
    refine mx_i2l d_Lw_send_6 ?_
    refine mx_last d_Lw_send_7 (by assumption) (nI_inb (by omega) (by omega)) ?_
    rw [nI_clamp (by omega)]
    refine mx_goto 14 d_Lw_send_8 (by decide) ?_
    refine mx_in_0 d_Lw_send_14 ?_
    exact mx_iret d_Lw_send_15 rfl (mx_lw_0 hX rfl)
  · obtain ⟨t1, S1, I1, P1, J1⟩ := X1
    rcases hcode with h9 | h9
    · exact absurd h9 c0
    · subst h9
      refine mx_catch (nm := "java/lang/IllegalArgumentException") (C := "java/lang/IllegalArgumentException") [] (0, 8, 11, 13) [] rfl (by decide) (by decide) (by intro z hz; cases hz) cl_Lw_13 (by decide +kernel) (fun q9 => ?_)
      refine mx_as2 d_Lw_send_11 ?_
      refine mx_in_1 d_Lw_send_12 ?_
      exact mx_iret d_Lw_send_13 rfl (mx_lw_x hX (by decide) rfl)
  
theorem c_Lw_settle {t x out D K N : Nat} {S : mx_S} {I : mx_I} {P : mx_P} {J : mx_G} {v0 : Int32} (hc : mx_C l E M_Vh_settle D K N [.ref (x), .int (v0)] (t, S, I, P, J) (mx_pg (fun c => "java/lang/IndexOutOfBoundsException") c v A)) (hx : S x = some (0, 11)) (hA : ∀ X1, A X1 → X1.2.1 out = some (3, 1)) (hcode : c = 0 ∨ c = 1) : mx_CW l E M_Lw_settle (D + 1) K N [.ref (x), .int (v0), .ref (out)] (t, S, I, P, J) (mx_lw c v out A) := by
  refine mx_CW_of (ls0 := [some (.ref (x)), some (.int (v0)), some (.ref (out)), none]) (by decide +kernel) rfl (Nat.le_of_ble_eq_true rfl) rfl ?_
  refine mx_al2 d_Lw_settle_0 ?_
  refine mx_in_0 d_Lw_settle_1 ?_
  refine mx_al0 d_Lw_settle_2 ?_
  refine mx_il1 d_Lw_settle_3 ?_
  refine mx_pgV1 d_Lw_settle_4 hc ok_Vh_settle ml_Lw_117 (by assumption) ⟨rfl, rfl⟩ (by omega) (by omega) (by omega) (Nat.le_of_ble_eq_true rfl) (fun c0 X1 hX => ?_) (fun c0 X1 hX => ?_)
  · obtain ⟨t1, S1, I1, P1, J1⟩ := X1
    have hO : S1 out = some (3, 1) := hA _ hX
    subst c0
    refine mx_i2l d_Lw_settle_7 ?_
    refine mx_last d_Lw_settle_8 (by assumption) (nI_inb (by omega) (by omega)) ?_
    rw [nI_clamp (by omega)]
    refine mx_goto 15 d_Lw_settle_9 (by decide) ?_
    refine mx_in_0 d_Lw_settle_15 ?_
    exact mx_iret d_Lw_settle_16 rfl (mx_lw_0 hX rfl)
  · obtain ⟨t1, S1, I1, P1, J1⟩ := X1
    rcases hcode with h9 | h9
    · exact absurd h9 c0
    · subst h9
      refine mx_catch (nm := "java/lang/IndexOutOfBoundsException") (C := "java/lang/IndexOutOfBoundsException") [] (0, 9, 12, 24) [] rfl (by decide) (by decide) (by intro z hz; cases hz) cl_Lw_24 (by decide +kernel) (fun q9 => ?_)
      refine mx_as3 d_Lw_settle_12 ?_
      refine mx_in_1 d_Lw_settle_13 ?_
      exact mx_iret d_Lw_settle_14 rfl (mx_lw_x hX (by decide) rfl)
  
theorem c_Lw_span {t x out D K N : Nat} {S : mx_S} {I : mx_I} {P : mx_P} {J : mx_G} {v0 : Int32} {b1 : Bool} (hc : mx_C l E M_Vh_span D K N [.ref (x), .int (v0), .int (bI (b1))] (t, S, I, P, J) (mx_pg (fun c => "java/lang/IllegalArgumentException") c v A)) (hx : S x = some (0, 11)) (hA : ∀ X1, A X1 → X1.2.1 out = some (3, 1)) (hcode : c = 0 ∨ c = 1) : mx_CW l E M_Lw_span (D + 1) K N [.ref (x), .int (v0), .int (bI (b1)), .ref (out)] (t, S, I, P, J) (mx_lw c v out A) := by
  refine mx_CW_of (ls0 := [some (.ref (x)), some (.int (v0)), some (.int (bI (b1))), some (.ref (out)), none]) (by decide +kernel) rfl (Nat.le_of_ble_eq_true rfl) rfl ?_
  refine mx_al3 d_Lw_span_0 ?_
  refine mx_in_0 d_Lw_span_1 ?_
  refine mx_al0 d_Lw_span_2 ?_
  refine mx_il1 d_Lw_span_3 ?_
  refine mx_il2 d_Lw_span_4 ?_
  refine mx_pgV2 d_Lw_span_5 hc ok_Vh_span ml_Lw_130 (by assumption) ⟨rfl, rfl⟩ (by omega) (by omega) (by omega) (Nat.le_of_ble_eq_true rfl) (fun c0 X1 hX => ?_) (fun c0 X1 hX => ?_)
  · obtain ⟨t1, S1, I1, P1, J1⟩ := X1
    have hO : S1 out = some (3, 1) := hA _ hX
    subst c0
    refine mx_i2l d_Lw_span_8 ?_
    refine mx_last d_Lw_span_9 (by assumption) (nI_inb (by omega) (by omega)) ?_
    rw [nI_clamp (by omega)]
    refine mx_goto 17 d_Lw_span_10 (by decide) ?_
    refine mx_in_0 d_Lw_span_17 ?_
    exact mx_iret d_Lw_span_18 rfl (mx_lw_0 hX rfl)
  · obtain ⟨t1, S1, I1, P1, J1⟩ := X1
    rcases hcode with h9 | h9
    · exact absurd h9 c0
    · subst h9
      refine mx_catch (nm := "java/lang/IllegalArgumentException") (C := "java/lang/IllegalArgumentException") [] (0, 10, 13, 13) [] rfl (by decide) (by decide) (by intro z hz; cases hz) cl_Lw_13 (by decide +kernel) (fun q9 => ?_)
      refine mx_as4 d_Lw_span_13 ?_
      refine mx_in_1 d_Lw_span_15 ?_
      exact mx_iret d_Lw_span_16 rfl (mx_lw_x hX (by decide) rfl)
  
theorem c_Lw_strike {t x out D K N : Nat} {S : mx_S} {I : mx_I} {P : mx_P} {J : mx_G} {v0 : Int32} {v1 : Int32} (hc : mx_C l E M_Vh_strike D K N [.ref (x), .int (v0), .int (v1)] (t, S, I, P, J) (mx_pg (fun c => if c = 1 then "java/lang/IndexOutOfBoundsException" else "java/lang/IllegalStateException") c v A)) (hx : S x = some (0, 11)) (hA : ∀ X1, A X1 → X1.2.1 out = some (3, 1)) (hcode : c = 0 ∨ c = 1 ∨ c = 2) : mx_CW l E M_Lw_strike (D + 1) K N [.ref (x), .int (v0), .int (v1), .ref (out)] (t, S, I, P, J) (mx_lw c v out A) := by
  refine mx_CW_of (ls0 := [some (.ref (x)), some (.int (v0)), some (.int (v1)), some (.ref (out)), none]) (by decide +kernel) rfl (Nat.le_of_ble_eq_true rfl) rfl ?_
  refine mx_al3 d_Lw_strike_0 ?_
  refine mx_in_0 d_Lw_strike_1 ?_
  refine mx_al0 d_Lw_strike_2 ?_
  refine mx_il1 d_Lw_strike_3 ?_
  refine mx_il2 d_Lw_strike_4 ?_
  refine mx_pgV2 d_Lw_strike_5 hc ok_Vh_strike ml_Lw_54 (by assumption) ⟨rfl, rfl⟩ (by omega) (by omega) (by omega) (Nat.le_of_ble_eq_true rfl) (fun c0 X1 hX => ?_) (fun c0 X1 hX => ?_)
  · obtain ⟨t1, S1, I1, P1, J1⟩ := X1
    have hO : S1 out = some (3, 1) := hA _ hX
    subst c0
    refine mx_i2l d_Lw_strike_8 ?_
    refine mx_last d_Lw_strike_9 (by assumption) (nI_inb (by omega) (by omega)) ?_
    rw [nI_clamp (by omega)]
    refine mx_goto 21 d_Lw_strike_10 (by decide) ?_
    refine mx_in_0 d_Lw_strike_21 ?_
    exact mx_iret d_Lw_strike_22 rfl (mx_lw_0 hX rfl)
  · obtain ⟨t1, S1, I1, P1, J1⟩ := X1
    rcases hcode with h9 | h9 | h9
    · exact absurd h9 c0
    · subst h9
      refine mx_catch (nm := "java/lang/IndexOutOfBoundsException") (C := "java/lang/IndexOutOfBoundsException") [] (0, 10, 13, 24) [(0, 10, 17, 52)] rfl (by decide) (by decide) (by intro z hz; cases hz) cl_Lw_24 (by decide +kernel) (fun q9 => ?_)
      refine mx_as4 d_Lw_strike_13 ?_
      refine mx_in_1 d_Lw_strike_15 ?_
      exact mx_iret d_Lw_strike_16 rfl (mx_lw_x hX (by decide) rfl)
    · subst h9
      refine mx_catch (nm := "java/lang/IllegalStateException") (C := "java/lang/IllegalStateException") [(0, 10, 13, 24)] (0, 10, 17, 52) [] rfl (by decide) (by decide) (by intro z hz; simp only [List.mem_cons, List.not_mem_nil, or_false] at hz; rcases hz with rfl; first | exact ⟨by decide, _, cl_Lw_24, by decide⟩) cl_Lw_52 (by decide +kernel) (fun q9 => ?_)
      refine mx_as4 d_Lw_strike_17 ?_
      refine mx_in_2 d_Lw_strike_19 ?_
      exact mx_iret d_Lw_strike_20 rfl (mx_lw_x hX (by decide) rfl)
  
theorem c_Lw_treaty {t x out D K N : Nat} {S : mx_S} {I : mx_I} {P : mx_P} {J : mx_G} {v0 : Int32} {v1 : Int32} (hc : mx_C l E M_Vh_treaty D K N [.ref (x), .int (v0), .int (v1)] (t, S, I, P, J) (mx_pg (fun c => if c = 1 then "java/lang/IndexOutOfBoundsException" else "java/lang/IllegalArgumentException") c v A)) (hx : S x = some (0, 11)) (hA : ∀ X1, A X1 → X1.2.1 out = some (3, 1)) (hcode : c = 0 ∨ c = 1 ∨ c = 2) : mx_CW l E M_Lw_treaty (D + 1) K N [.ref (x), .int (v0), .int (v1), .ref (out)] (t, S, I, P, J) (mx_lw c v out A) := by
  refine mx_CW_of (ls0 := [some (.ref (x)), some (.int (v0)), some (.int (v1)), some (.ref (out)), none]) (by decide +kernel) rfl (Nat.le_of_ble_eq_true rfl) rfl ?_
  refine mx_al3 d_Lw_treaty_0 ?_
  refine mx_in_0 d_Lw_treaty_1 ?_
  refine mx_al0 d_Lw_treaty_2 ?_
  refine mx_il1 d_Lw_treaty_3 ?_
  refine mx_il2 d_Lw_treaty_4 ?_
  refine mx_pgV2 d_Lw_treaty_5 hc ok_Vh_treaty ml_Lw_111 (by assumption) ⟨rfl, rfl⟩ (by omega) (by omega) (by omega) (Nat.le_of_ble_eq_true rfl) (fun c0 X1 hX => ?_) (fun c0 X1 hX => ?_)
  · obtain ⟨t1, S1, I1, P1, J1⟩ := X1
    have hO : S1 out = some (3, 1) := hA _ hX
    subst c0
    refine mx_i2l d_Lw_treaty_8 ?_
    refine mx_last d_Lw_treaty_9 (by assumption) (nI_inb (by omega) (by omega)) ?_
    rw [nI_clamp (by omega)]
    refine mx_goto 21 d_Lw_treaty_10 (by decide) ?_
    refine mx_in_0 d_Lw_treaty_21 ?_
    exact mx_iret d_Lw_treaty_22 rfl (mx_lw_0 hX rfl)
  · obtain ⟨t1, S1, I1, P1, J1⟩ := X1
    rcases hcode with h9 | h9 | h9
    · exact absurd h9 c0
    · subst h9
      refine mx_catch (nm := "java/lang/IndexOutOfBoundsException") (C := "java/lang/IndexOutOfBoundsException") [] (0, 10, 13, 24) [(0, 10, 17, 13)] rfl (by decide) (by decide) (by intro z hz; cases hz) cl_Lw_24 (by decide +kernel) (fun q9 => ?_)
      refine mx_as4 d_Lw_treaty_13 ?_
      refine mx_in_1 d_Lw_treaty_15 ?_
      exact mx_iret d_Lw_treaty_16 rfl (mx_lw_x hX (by decide) rfl)
    · subst h9
      refine mx_catch (nm := "java/lang/IllegalArgumentException") (C := "java/lang/IllegalArgumentException") [(0, 10, 13, 24)] (0, 10, 17, 13) [] rfl (by decide) (by decide) (by intro z hz; simp only [List.mem_cons, List.not_mem_nil, or_false] at hz; rcases hz with rfl; first | exact ⟨by decide, _, cl_Lw_24, by decide⟩) cl_Lw_13 (by decide +kernel) (fun q9 => ?_)
      refine mx_as4 d_Lw_treaty_17 ?_
      refine mx_in_2 d_Lw_treaty_19 ?_
      exact mx_iret d_Lw_treaty_20 rfl (mx_lw_x hX (by decide) rfl)
  
theorem c_Lw_trial {t x out D K N : Nat} {S : mx_S} {I : mx_I} {P : mx_P} {J : mx_G} {v0 : Int32} {b1 : Bool} (hc : mx_C l E M_Vh_trial D K N [.ref (x), .int (v0), .int (bI (b1))] (t, S, I, P, J) (mx_pg (fun c => "java/lang/IllegalArgumentException") c v A)) (hx : S x = some (0, 11)) (hA : ∀ X1, A X1 → X1.2.1 out = some (3, 1)) (hcode : c = 0 ∨ c = 1) : mx_CW l E M_Lw_trial (D + 1) K N [.ref (x), .int (v0), .int (bI (b1)), .ref (out)] (t, S, I, P, J) (mx_lw c v out A) := by
  refine mx_CW_of (ls0 := [some (.ref (x)), some (.int (v0)), some (.int (bI (b1))), some (.ref (out)), none]) (by decide +kernel) rfl (Nat.le_of_ble_eq_true rfl) rfl ?_
  refine mx_al3 d_Lw_trial_0 ?_
  refine mx_in_0 d_Lw_trial_1 ?_
  refine mx_al0 d_Lw_trial_2 ?_
  refine mx_il1 d_Lw_trial_3 ?_
  refine mx_il2 d_Lw_trial_4 ?_
  refine mx_pgV2 d_Lw_trial_5 hc ok_Vh_trial ml_Lw_126 (by assumption) ⟨rfl, rfl⟩ (by omega) (by omega) (by omega) (Nat.le_of_ble_eq_true rfl) (fun c0 X1 hX => ?_) (fun c0 X1 hX => ?_)
  · obtain ⟨t1, S1, I1, P1, J1⟩ := X1
    have hO : S1 out = some (3, 1) := hA _ hX
    subst c0
    refine mx_i2l d_Lw_trial_8 ?_
    refine mx_last d_Lw_trial_9 (by assumption) (nI_inb (by omega) (by omega)) ?_
    rw [nI_clamp (by omega)]
    refine mx_goto 17 d_Lw_trial_10 (by decide) ?_
    refine mx_in_0 d_Lw_trial_17 ?_
    exact mx_iret d_Lw_trial_18 rfl (mx_lw_0 hX rfl)
  · obtain ⟨t1, S1, I1, P1, J1⟩ := X1
    rcases hcode with h9 | h9
    · exact absurd h9 c0
    · subst h9
      refine mx_catch (nm := "java/lang/IllegalArgumentException") (C := "java/lang/IllegalArgumentException") [] (0, 10, 13, 13) [] rfl (by decide) (by decide) (by intro z hz; cases hz) cl_Lw_13 (by decide +kernel) (fun q9 => ?_)
      refine mx_as4 d_Lw_trial_13 ?_
      refine mx_in_1 d_Lw_trial_15 ?_
      exact mx_iret d_Lw_trial_16 rfl (mx_lw_x hX (by decide) rfl)
  
theorem c_Lw_value {t x out D K N : Nat} {S : mx_S} {I : mx_I} {P : mx_P} {J : mx_G} {v0 : Int32} {v1 : Int32} {b2 : Bool} {v3 : Int32} (hc : mx_C l E M_Vh_value D K N [.ref (x), .int (v0), .int (v1), .int (bI (b2)), .int (v3)] (t, S, I, P, J) (mx_pg (fun c => if c = 1 then "java/lang/IndexOutOfBoundsException" else "java/lang/IllegalArgumentException") c v A)) (hx : S x = some (0, 11)) (hA : ∀ X1, A X1 → X1.2.1 out = some (3, 1)) (hcode : c = 0 ∨ c = 1 ∨ c = 2) : mx_CW l E M_Lw_value (D + 1) K N [.ref (x), .int (v0), .int (v1), .int (bI (b2)), .int (v3), .ref (out)] (t, S, I, P, J) (mx_lw c v out A) := by
  refine mx_CW_of (ls0 := [some (.ref (x)), some (.int (v0)), some (.int (v1)), some (.int (bI (b2))), some (.int (v3)), some (.ref (out)), none]) (by decide +kernel) rfl (Nat.le_of_ble_eq_true rfl) rfl ?_
  refine mx_al5 d_Lw_value_0 ?_
  refine mx_in_0 d_Lw_value_2 ?_
  refine mx_al0 d_Lw_value_3 ?_
  refine mx_il1 d_Lw_value_4 ?_
  refine mx_il2 d_Lw_value_5 ?_
  refine mx_il3 d_Lw_value_6 ?_
  refine mx_il4 d_Lw_value_7 ?_
  refine mx_pgV4 d_Lw_value_9 hc ok_Vh_value ml_Lw_66 (by assumption) ⟨rfl, rfl⟩ (by omega) (by omega) (by omega) (Nat.le_of_ble_eq_true rfl) (fun c0 X1 hX => ?_) (fun c0 X1 hX => ?_)
  · obtain ⟨t1, S1, I1, P1, J1⟩ := X1
    have hO : S1 out = some (3, 1) := hA _ hX
    subst c0
    refine mx_i2l d_Lw_value_12 ?_
    refine mx_last d_Lw_value_13 (by assumption) (nI_inb (by omega) (by omega)) ?_
    rw [nI_clamp (by omega)]
    refine mx_goto 25 d_Lw_value_14 (by decide) ?_
    refine mx_in_0 d_Lw_value_25 ?_
    exact mx_iret d_Lw_value_26 rfl (mx_lw_0 hX rfl)
  · obtain ⟨t1, S1, I1, P1, J1⟩ := X1
    rcases hcode with h9 | h9 | h9
    · exact absurd h9 c0
    · subst h9
      refine mx_catch (nm := "java/lang/IndexOutOfBoundsException") (C := "java/lang/IndexOutOfBoundsException") [] (0, 14, 17, 24) [(0, 14, 21, 13)] rfl (by decide) (by decide) (by intro z hz; cases hz) cl_Lw_24 (by decide +kernel) (fun q9 => ?_)
      refine mx_as6 d_Lw_value_17 ?_
      refine mx_in_1 d_Lw_value_19 ?_
      exact mx_iret d_Lw_value_20 rfl (mx_lw_x hX (by decide) rfl)
    · subst h9
      refine mx_catch (nm := "java/lang/IllegalArgumentException") (C := "java/lang/IllegalArgumentException") [(0, 14, 17, 24)] (0, 14, 21, 13) [] rfl (by decide) (by decide) (by intro z hz; simp only [List.mem_cons, List.not_mem_nil, or_false] at hz; rcases hz with rfl; first | exact ⟨by decide, _, cl_Lw_24, by decide⟩) cl_Lw_13 (by decide +kernel) (fun q9 => ?_)
      refine mx_as6 d_Lw_value_21 ?_
      refine mx_in_2 d_Lw_value_23 ?_
      exact mx_iret d_Lw_value_24 rfl (mx_lw_x hX (by decide) rfl)
  
theorem c_Lw_waits {t x out D K N : Nat} {S : mx_S} {I : mx_I} {P : mx_P} {J : mx_G} {v0 : Int32} {v1 : Int32} (hc : mx_C l E M_Vh_waits D K N [.ref (x), .int (v0), .int (v1)] (t, S, I, P, J) (mx_pg (fun c => if c = 1 then "java/lang/IndexOutOfBoundsException" else "java/lang/IllegalArgumentException") c v A)) (hx : S x = some (0, 11)) (hA : ∀ X1, A X1 → X1.2.1 out = some (3, 1)) (hcode : c = 0 ∨ c = 1 ∨ c = 2) : mx_CW l E M_Lw_waits (D + 1) K N [.ref (x), .int (v0), .int (v1), .ref (out)] (t, S, I, P, J) (mx_lw c v out A) := by
  refine mx_CW_of (ls0 := [some (.ref (x)), some (.int (v0)), some (.int (v1)), some (.ref (out)), none]) (by decide +kernel) rfl (Nat.le_of_ble_eq_true rfl) rfl ?_
  refine mx_al3 d_Lw_waits_0 ?_
  refine mx_in_0 d_Lw_waits_1 ?_
  refine mx_al0 d_Lw_waits_2 ?_
  refine mx_il1 d_Lw_waits_3 ?_
  refine mx_il2 d_Lw_waits_4 ?_
  refine mx_pgV2 d_Lw_waits_5 hc ok_Vh_waits ml_Lw_108 (by assumption) ⟨rfl, rfl⟩ (by omega) (by omega) (by omega) (Nat.le_of_ble_eq_true rfl) (fun c0 X1 hX => ?_) (fun c0 X1 hX => ?_)
  · obtain ⟨t1, S1, I1, P1, J1⟩ := X1
    have hO : S1 out = some (3, 1) := hA _ hX
    subst c0
    refine mx_i2l d_Lw_waits_8 ?_
    refine mx_last d_Lw_waits_9 (by assumption) (nI_inb (by omega) (by omega)) ?_
    rw [nI_clamp (by omega)]
    refine mx_goto 21 d_Lw_waits_10 (by decide) ?_
    refine mx_in_0 d_Lw_waits_21 ?_
    exact mx_iret d_Lw_waits_22 rfl (mx_lw_0 hX rfl)
  · obtain ⟨t1, S1, I1, P1, J1⟩ := X1
    rcases hcode with h9 | h9 | h9
    · exact absurd h9 c0
    · subst h9
      refine mx_catch (nm := "java/lang/IndexOutOfBoundsException") (C := "java/lang/IndexOutOfBoundsException") [] (0, 10, 13, 24) [(0, 10, 17, 13)] rfl (by decide) (by decide) (by intro z hz; cases hz) cl_Lw_24 (by decide +kernel) (fun q9 => ?_)
      refine mx_as4 d_Lw_waits_13 ?_
      refine mx_in_1 d_Lw_waits_15 ?_
      exact mx_iret d_Lw_waits_16 rfl (mx_lw_x hX (by decide) rfl)
    · subst h9
      refine mx_catch (nm := "java/lang/IllegalArgumentException") (C := "java/lang/IllegalArgumentException") [(0, 10, 13, 24)] (0, 10, 17, 13) [] rfl (by decide) (by decide) (by intro z hz; simp only [List.mem_cons, List.not_mem_nil, or_false] at hz; rcases hz with rfl; first | exact ⟨by decide, _, cl_Lw_24, by decide⟩) cl_Lw_13 (by decide +kernel) (fun q9 => ?_)
      refine mx_as4 d_Lw_waits_17 ?_
      refine mx_in_2 d_Lw_waits_19 ?_
      exact mx_iret d_Lw_waits_20 rfl (mx_lw_x hX (by decide) rfl)
  
theorem c_Lw_weeks {t x out D K N : Nat} {S : mx_S} {I : mx_I} {P : mx_P} {J : mx_G} {v0 : Int32} (hc : mx_C l E M_Vh_weeks D K N [.ref (x), .int (v0)] (t, S, I, P, J) (mx_pg (fun c => "java/lang/IllegalArgumentException") c v A)) (hx : S x = some (0, 11)) (hA : ∀ X1, A X1 → X1.2.1 out = some (3, 1)) (hcode : c = 0 ∨ c = 1) : mx_CW l E M_Lw_weeks (D + 1) K N [.ref (x), .int (v0), .ref (out)] (t, S, I, P, J) (mx_lw c v out A) := by
  refine mx_CW_of (ls0 := [some (.ref (x)), some (.int (v0)), some (.ref (out)), none]) (by decide +kernel) rfl (Nat.le_of_ble_eq_true rfl) rfl ?_
  refine mx_al2 d_Lw_weeks_0 ?_
  refine mx_in_0 d_Lw_weeks_1 ?_
  refine mx_al0 d_Lw_weeks_2 ?_
  refine mx_il1 d_Lw_weeks_3 ?_
  refine mx_pgV1 d_Lw_weeks_4 hc ok_Vh_weeks ml_Lw_70 (by assumption) ⟨rfl, rfl⟩ (by omega) (by omega) (by omega) (Nat.le_of_ble_eq_true rfl) (fun c0 X1 hX => ?_) (fun c0 X1 hX => ?_)
  · obtain ⟨t1, S1, I1, P1, J1⟩ := X1
    have hO : S1 out = some (3, 1) := hA _ hX
    subst c0
    refine mx_i2l d_Lw_weeks_7 ?_
    refine mx_last d_Lw_weeks_8 (by assumption) (nI_inb (by omega) (by omega)) ?_
    rw [nI_clamp (by omega)]
    refine mx_goto 15 d_Lw_weeks_9 (by decide) ?_
    refine mx_in_0 d_Lw_weeks_15 ?_
    exact mx_iret d_Lw_weeks_16 rfl (mx_lw_0 hX rfl)
  · obtain ⟨t1, S1, I1, P1, J1⟩ := X1
    rcases hcode with h9 | h9
    · exact absurd h9 c0
    · subst h9
      refine mx_catch (nm := "java/lang/IllegalArgumentException") (C := "java/lang/IllegalArgumentException") [] (0, 9, 12, 13) [] rfl (by decide) (by decide) (by intro z hz; cases hz) cl_Lw_13 (by decide +kernel) (fun q9 => ?_)
      refine mx_as3 d_Lw_weeks_12 ?_
      refine mx_in_1 d_Lw_weeks_13 ?_
      exact mx_iret d_Lw_weeks_14 rfl (mx_lw_x hX (by decide) rfl)
  
end F09
