/-! STRINGS THAT STAND IN THE PROGRAM'S TEXT: how long, and what stands where -/
def sx_len (i : Nat) : Nat := (mx_sb.map List.length).getD i 0
def sx_ch (i k : Nat) : Int32 := (mx_sb.getD i []).getD k 0
theorem sx_fl38 : Cond.fieldLink "java/lang/String" 38 "java/lang/String" "COMPACT_STRINGS" "Z" ∈ mx_W := mx_in 872 (by decide +kernel) rfl
theorem sx_fl1053 : Cond.fieldLink "java/lang/String" 1053 "jdk/internal/util/Preconditions" "SIOOBE_FORMATTER" "Ljava/util/function/BiFunction;" ∈ mx_W := mx_in 888 (by decide +kernel) rfl
theorem sx_fl9 : Cond.fieldLink "java/lang/String" 9 "java/lang/String" "value" "[B" ∈ mx_W := mx_in 2385 (by decide +kernel) rfl
theorem sx_fl15 : Cond.fieldLink "java/lang/String" 15 "java/lang/String" "coder" "B" ∈ mx_W := mx_in 2386 (by decide +kernel) rfl
theorem sx_all : ∀ i, i < 69 → sx_len i < 100 ∧ ∀ k, k < sx_len i → (((sx_ch i k) &&& 255).toUInt32 % 65536).toInt32 = sx_ch i k ∧ narrow .char (.int (sx_ch i k)) = .int (sx_ch i k) := by decide +kernel
section L52
variable {l : Launch} {E : mx_Env} {M M' : mx_M} {d d' k n k' n' k2 n2 pc nx idx ar : Nat} {ls : List (Option Value)} {st st0 as : List Value} {Q Q' : mx_R → mx_H → Prop} {X : mx_H} {a i : Nat}
theorem sx_gets {C nm ds : String} {v : Value} (hd : mx_d M pc (.getstatic idx) 3 nx) (hw : Cond.fieldLink (mx_own M) idx C nm ds ∈ mx_W) (hZ : ∀ (s : State) (H : Heap), mx_Pic E X s H → va_Z C nm ds v (mx_A E) s H) (kk : mx_E l E M d k n nx ls (v :: st) X Q) : mx_E l E M d k n pc ls st X Q := by
  obtain ⟨hd, rfl⟩ := hd
  intro p e R s m args below meth c H locs cells slots mc ms A F h1 h2 h3 h4 hP hS hl
  obtain ⟨cf, kf, fi, f, b, cell, z1, z2, z3, z4, z5, z6, z7, -⟩ := hZ s H hP
  exact W.gets F.1 F.2.1 F.2.2.2.1 (F.2.2.2.2.1 _ hw) z1 z2 z3 z4 z5 (fun e => by rw [e] at z6; cases z6) z7 rfl hd (kk p e R s m args below meth c H locs cells slots mc ms A F h1 h2 h3 h4 hP hS hl)
theorem sx_getsQ {C nm ds : String} (hd : mx_d M pc (.getstatic idx) 3 nx) (hw : Cond.fieldLink (mx_own M) idx C nm ds ∈ mx_W) (hZ : ∀ (s : State) (H : Heap), mx_Pic E X s H → va_Zq C nm ds (mx_A E) s H) (kk : ∀ v, (v = .null ∨ ∃ q, v = .ref q) → mx_E l E M d k n nx ls (v :: st) X Q) : mx_E l E M d k n pc ls st X Q := by
  obtain ⟨hd, rfl⟩ := hd
  intro p e R s m args below meth c H locs cells slots mc ms A F h1 h2 h3 h4 hP hS hl
  rcases hZ s H hP with ⟨cf, kf, fi, f, b, cell, z1, z2, z3, z4, z5, z6, z7, -⟩ | ⟨q, cf, kf, fi, f, b, cell, z1, z2, z3, z4, z5, z6, z7, -⟩
  · exact W.gets F.1 F.2.1 F.2.2.2.1 (F.2.2.2.2.1 _ hw) z1 z2 z3 z4 z5 (fun e => by rw [e] at z6; cases z6) z7 rfl hd (kk _ (Or.inl rfl) p e R s m args below meth c H locs cells slots mc ms A F h1 h2 h3 h4 hP hS hl)
  · exact W.gets F.1 F.2.1 F.2.2.2.1 (F.2.2.2.2.1 _ hw) z1 z2 z3 z4 z5 (fun e => by rw [e] at z6; cases z6) z7 rfl hd (kk _ (Or.inr ⟨q, rfl⟩) p e R s m args below meth c H locs cells slots mc ms A F h1 h2 h3 h4 hP hS hl)
theorem sx_getf {nm ds : String} {v : Value} (hd : mx_d M pc (.getfield idx) 3 nx) (hw : Cond.fieldLink (mx_own M) idx "java/lang/String" nm ds ∈ mx_W) (hO : ∀ (s : State) (H : Heap), mx_Pic E X s H → va_OF "java/lang/String" nm ds v a (mx_A E) s H) (kk : mx_E l E M d k n nx ls (v :: st) X Q) : mx_E l E M d k n pc ls (.ref a :: st) X Q := by
  obtain ⟨hd, rfl⟩ := hd
  intro p e R s m args below meth c H locs cells slots mc ms A F h1 h2 h3 h4 hP hS hl
  obtain ⟨cf, kf, fi, f, cell, z1, z2, z3, z4, z5, z6⟩ := hO s H hP
  exact W.getf F.1 F.2.1 F.2.2.2.1 (F.2.2.2.2.1 _ hw) z1 z2 z3 z4 (v := v) z5 rfl rfl hd (kk p e R s m args below meth c H locs cells slots mc ms A F h1 h2 h3 h4 hP hS hl)
theorem sx_alen {N : Nat} {f : Nat → Value} (hd : mx_d M pc .arraylength 1 nx) (hT : ∀ (s : State) (H : Heap), mx_Pic E X s H → va_T .byte a N f (mx_A E) s H) (kk : mx_E l E M d k n nx ls (.int (nI N) :: st) X Q) : mx_E l E M d k n pc ls (.ref a :: st) X Q := by
  obtain ⟨hd, rfl⟩ := hd
  intro p e R s m args below meth c H locs cells slots mc ms A F h1 h2 h3 h4 hP hS hl
  obtain ⟨cell, z1, z2, z3, z4, z5, z6, z7⟩ := hT s H hP
  exact W.alen (n := Int32.ofNat N) F.1 F.2.1 z1 z2 z5 rfl rfl hd (kk p e R s m args below meth c H locs cells slots mc ms A F h1 h2 h3 h4 hP hS hl)
theorem sx_bald {N : Nat} {f : Nat → Value} {j : Nat} (hd : mx_d M pc .baload 1 nx) (hT : ∀ (s : State) (H : Heap), mx_Pic E X s H → va_T .byte a N f (mx_A E) s H) (hj : j < N) (hN : N < 2 ^ 31) (kk : mx_E l E M d k n nx ls (f j :: st) X Q) : mx_E l E M d k n pc ls (.int (nI j) :: .ref a :: st) X Q := by
  obtain ⟨hd, rfl⟩ := hd
  intro p e R s m args below meth c H locs cells slots mc ms A F h1 h2 h3 h4 hP hS hl
  obtain ⟨cell, z1, z2, z3, z4, z5, z6, z7⟩ := hT s H hP
  have hc : (nI j).toNatClampNeg = j := nI_clamp (by omega)
  have hin : ¬ (nI j < 0 ∨ cell.slots.size ≤ (nI j).toNatClampNeg) := by
    rintro (q | q)
    · exact nI_pos (by omega) q
    · rw [hc] at q; omega
  exact W.bald (v := f j) F.1 F.2.1 z1 z2 z3 hin (by rw [hc]; exact z6 j hj) rfl rfl hd (kk p e R s m args below meth c H locs cells slots mc ms A F h1 h2 h3 h4 hP hS hl)
theorem sx_i2c {x v : Int32} (hd : mx_d M pc .i2c 1 nx) (hv : (x.toUInt32 % 65536).toInt32 = v) (kk : mx_E l E M d k n nx ls (.int v :: st) X Q) : mx_E l E M d k n pc ls (.int x :: st) X Q := by
  obtain ⟨hd, rfl⟩ := hd
  intro p e R s m args below meth c H locs cells slots mc ms A F h1 h2 h3 h4 hP hS hl
  exact lv_i2c F.1 F.2.1 hd hv (kk p e R s m args below meth c H locs cells slots mc ms A F h1 h2 h3 h4 hP hS hl)
theorem sx_str {s : State} {H : Heap} (hP : mx_Pic E X s H) (hi : i < 69) : va_O "java/lang/String" (mx_aK E i) (mx_A E) s H ∧ va_OF "java/lang/String" "coder" "B" (.int 0) (mx_aK E i) (mx_A E) s H ∧ va_OF "java/lang/String" "value" "[B" (.ref (mx_aV E i)) (mx_aK E i) (mx_A E) s H ∧ va_T .byte (mx_aV E i) (sx_len i) (fun j => .int (sx_ch i j)) (mx_A E) s H := hP.1.2.2.2.2.2.1.1 i hi
theorem sx_callV (hd : mx_d M pc (.invokevirtual idx) 3 nx) (hi : i < 69) (hc : mx_C l E M' d' k' n' (.ref (mx_aK E i) :: as) X Q') (hM : mx_okM M' ar) (hw : Cond.methodLink (mx_own M) idx (mx_y M') ∈ mx_W ∧ Cond.instanceMethod (mx_y M') ∈ mx_W ∧ Cond.selects (mx_y M').cls (mx_y M') (mx_y M') ∈ mx_W)
    (hq : "java/lang/String" = (mx_y M').cls) (hst : st0 = as.reverse ++ .ref (mx_aK E i) :: st) (har : as.length = ar) (hcat : (st.map fun v => v.category).sum ≤ 8) (hdd : d' + 1 ≤ d) (hk : k' + k2 ≤ k) (hn : n' + n2 ≤ n)
    (kk : ∀ v X', Q' (.inl v) X' → mx_E l E M d k2 n2 nx ls (v.toList ++ st) X' Q) (kx : ∀ C X', Q' (.inr C) X' → mx_EX l E M d k2 n2 pc ls st C X' Q) : mx_E l E M d k n pc ls st0 X Q := by
  obtain ⟨hd, rfl⟩ := hd
  intro p e R s m args below meth c9 H locs cells slots mc ms A F h1 h2 h3 h4 hP hS hl
  obtain ⟨m1, m2, m3, m4, m5⟩ := hM
  have f1 := F.2.2.2.2.2.2.2.2.1
  have f2 := F.2.2.2.2.2.2.2.2.2.1
  refine mx_after hk hn kk kx F h1 h2 h3 h4 hP hS hl (vx_runV ⟨F.1, F.2.1, F.2.2.1, F.2.2.2.1, F.2.2.2.2.1⟩ hc (cwV (C := "java/lang/String") ar F.2.2.2.2.1 (mx_good1 ?_) rfl rfl rfl ⟨hq.symm, m3.1, m3.2, m4⟩ ⟨?_, ?_⟩) ⟨mx_blind, ?_, ?_⟩ rfl har hl.1 hst (lv_room hcat) hd ⟨by omega, by omega⟩)
  · intro w hw'
    simp only [wsV, List.cons_append, List.nil_append, List.mem_cons] at hw'
    rcases hw' with rfl | rfl | rfl | rfl | rfl | h
    · exact hw.1
    · exact hw.2.1
    · rw [hq]; exact hw.2.2
    · rw [hq]; exact m2
    · exact m1
    · exact h
  · show d' + 1 ≤ R.frames; omega
  · show 8 + (mx_nL M' + 11) + 42 * d' ≤ R.locals; omega
  · obtain ⟨cell, q1, q2, q3, -⟩ := (sx_str hP hi).1
    exact ⟨cell, q1, q2, q3⟩
  · exact fun U hU hW => ⟨rfl, by rw [hU]; exact hP.1.warm hW, by rw [hU]; exact hP.2⟩
theorem sx_call0 {v : Int32} {X1 : mx_H} (hd : mx_d M pc (.invokevirtual idx) 3 nx) (hi : i < 69) (hc : mx_C l E M' d' 0 0 [.ref (mx_aK E i)] X (mx_ri v X1)) (hM : mx_okM M' 0) (hw : Cond.methodLink (mx_own M) idx (mx_y M') ∈ mx_W ∧ Cond.instanceMethod (mx_y M') ∈ mx_W ∧ Cond.selects (mx_y M').cls (mx_y M') (mx_y M') ∈ mx_W) (hq : "java/lang/String" = (mx_y M').cls) (hdd : d' + 1 ≤ d) (hcat : (st.map fun v => v.category).sum ≤ 8) (kk : mx_E l E M d k n nx ls (.int v :: st) X1 Q) : mx_E l E M d k n pc ls (.ref (mx_aK E i) :: st) X Q :=
  sx_callV (k2 := k) (n2 := n) hd hi hc hM hw hq rfl rfl hcat hdd (by omega) (by omega) (fun w X9 h => by obtain ⟨h1, rfl⟩ := h; cases h1; exact kk) (fun C X9 h => by cases h.1)
theorem sx_call1 {v0 : Value} {v : Int32} {X1 : mx_H} (hd : mx_d M pc (.invokevirtual idx) 3 nx) (hi : i < 69) (hc : mx_C l E M' d' 0 0 [.ref (mx_aK E i), v0] X (mx_ri v X1)) (hM : mx_okM M' 1) (hw : Cond.methodLink (mx_own M) idx (mx_y M') ∈ mx_W ∧ Cond.instanceMethod (mx_y M') ∈ mx_W ∧ Cond.selects (mx_y M').cls (mx_y M') (mx_y M') ∈ mx_W) (hq : "java/lang/String" = (mx_y M').cls) (hdd : d' + 1 ≤ d) (hcat : (st.map fun v => v.category).sum ≤ 8) (kk : mx_E l E M d k n nx ls (.int v :: st) X1 Q) : mx_E l E M d k n pc ls (v0 :: .ref (mx_aK E i) :: st) X Q :=
  sx_callV (k2 := k) (n2 := n) hd hi hc hM hw hq rfl rfl hcat hdd (by omega) (by omega) (fun w X9 h => by obtain ⟨h1, rfl⟩ := h; cases h1; exact kk) (fun C X9 h => by cases h.1)
theorem c_Sx_coder (hi : i < 69) : mx_C l E M_Jd_String_coder 0 0 0 [.ref (mx_aK E i)] X (mx_ri 0 X) := by
  refine mx_C_of (ls0 := [some (.ref (mx_aK E i))]) (by decide +kernel) rfl rfl (Nat.le_of_ble_eq_true rfl) rfl ?_
  refine sx_gets (v := .int 1) d_Jd_String_coder_0 sx_fl38 (fun s H hP => hP.1.2.2.2.2.2.2.1.1) ?_
  refine mx_if_eq 13 d_Jd_String_coder_3 (by decide) (fun c => absurd c (by decide)) (fun _ => ?_)
  refine mx_al0 d_Jd_String_coder_6 ?_
  refine sx_getf (v := .int 0) d_Jd_String_coder_7 sx_fl15 (fun s H hP => (sx_str hP hi).2.1) ?_
  refine mx_goto 14 d_Jd_String_coder_10 (by decide) ?_
  exact mx_bret d_Jd_String_coder_14 rfl (by decide) ⟨rfl, rfl⟩
theorem c_Sx_isLatin1 (hi : i < 69) : mx_C l E M_Jd_String_isLatin1 0 0 0 [.ref (mx_aK E i)] X (mx_ri 1 X) := by
  refine mx_C_of (ls0 := [some (.ref (mx_aK E i))]) (by decide +kernel) rfl rfl (Nat.le_of_ble_eq_true rfl) rfl ?_
  refine sx_gets (v := .int 1) d_Jd_String_isLatin1_0 sx_fl38 (fun s H hP => hP.1.2.2.2.2.2.2.1.1) ?_
  refine mx_if_eq 17 d_Jd_String_isLatin1_3 (by decide) (fun c => absurd c (by decide)) (fun _ => ?_)
  refine mx_al0 d_Jd_String_isLatin1_6 ?_
  refine sx_getf (v := .int 0) d_Jd_String_isLatin1_7 sx_fl15 (fun s H hP => (sx_str hP hi).2.1) ?_
  refine mx_if_ne 17 d_Jd_String_isLatin1_10 (by decide) (fun c => absurd rfl c) (fun _ => ?_)
  refine mx_in_1 d_Jd_String_isLatin1_13 ?_
  refine mx_goto 18 d_Jd_String_isLatin1_14 (by decide) ?_
  exact mx_zret d_Jd_String_isLatin1_18 rfl (Or.inr rfl) ⟨rfl, rfl⟩
theorem c_Sx_length (hi : i < 69) : mx_C l E M_Jd_String_length 1 0 0 [.ref (mx_aK E i)] X (mx_ri (nI (sx_len i)) X) := by
  refine mx_C_of (ls0 := [some (.ref (mx_aK E i))]) (by decide +kernel) rfl rfl (Nat.le_of_ble_eq_true rfl) rfl ?_
  refine mx_al0 d_Jd_String_length_0 ?_
  refine sx_getf (v := .ref (mx_aV E i)) d_Jd_String_length_1 sx_fl9 (fun s H hP => (sx_str hP hi).2.2.1) ?_
  refine sx_alen (N := sx_len i) d_Jd_String_length_4 (fun s H hP => (sx_str hP hi).2.2.2) ?_
  refine mx_al0 d_Jd_String_length_5 ?_
  refine sx_call0 d_Jd_String_length_6 hi (c_Sx_coder hi) ok_Jd_String_coder ml_JdString_335 rfl (by decide) (Nat.le_of_ble_eq_true rfl) ?_
  refine mx_ishr d_Jd_String_length_9 ?_
  refine mx_ti (y := nI (sx_len i)) ?_ ?_
  · have := (sx_all i hi).1
    rw [show ((0 : Int32) &&& 31) = 0 from rfl]
    apply Int32.toInt_inj.mp
    simp
  exact mx_iret d_Jd_String_length_10 rfl ⟨rfl, rfl⟩
theorem c_Sx_pre {j N : Nat} {v : Value} (hv : v = .null ∨ ∃ q, v = .ref q) (hj : j < N) (hN : N < 2 ^ 31) : mx_C l E M_Jd_Preconditions_checkIndex 0 0 0 [.int (nI j), .int (nI N), v] X (mx_ri (nI j) X) := by
  rcases hv with rfl | ⟨q, rfl⟩
  · refine mx_C_of (ls0 := [some (.int (nI j)), some (.int (nI N)), some .null]) (by decide +kernel) rfl rfl (Nat.le_of_ble_eq_true rfl) rfl ?_
    refine mx_il0 d_Jd_Preconditions_checkIndex_0 ?_
    refine mx_if_lt 9 d_Jd_Preconditions_checkIndex_1 (by decide) (fun c => absurd c (nI_pos (by omega))) (fun _ => ?_)
    refine mx_il0 d_Jd_Preconditions_checkIndex_4 ?_
    refine mx_il1 d_Jd_Preconditions_checkIndex_5 ?_
    refine mx_icN_lt 16 d_Jd_Preconditions_checkIndex_6 (by decide) (by omega) (by omega) (fun _ => ?_) (fun c => absurd hj (by omega))
    refine mx_il0 d_Jd_Preconditions_checkIndex_16 ?_
    exact mx_iret d_Jd_Preconditions_checkIndex_17 rfl ⟨rfl, rfl⟩
  · refine mx_C_of (ls0 := [some (.int (nI j)), some (.int (nI N)), some (.ref q)]) (by decide +kernel) rfl rfl (Nat.le_of_ble_eq_true rfl) rfl ?_
    refine mx_il0 d_Jd_Preconditions_checkIndex_0 ?_
    refine mx_if_lt 9 d_Jd_Preconditions_checkIndex_1 (by decide) (fun c => absurd c (nI_pos (by omega))) (fun _ => ?_)
    refine mx_il0 d_Jd_Preconditions_checkIndex_4 ?_
    refine mx_il1 d_Jd_Preconditions_checkIndex_5 ?_
    refine mx_icN_lt 16 d_Jd_Preconditions_checkIndex_6 (by decide) (by omega) (by omega) (fun _ => ?_) (fun c => absurd hj (by omega))
    refine mx_il0 d_Jd_Preconditions_checkIndex_16 ?_
    exact mx_iret d_Jd_Preconditions_checkIndex_17 rfl ⟨rfl, rfl⟩
theorem c_Sx_check {j N : Nat} (hj : j < N) (hN : N < 2 ^ 31) : mx_C l E M_Jd_String_checkIndex 1 0 0 [.int (nI j), .int (nI N)] X (mx_rv X) := by
  refine mx_C_of (ls0 := [some (.int (nI j)), some (.int (nI N))]) (by decide +kernel) rfl rfl (Nat.le_of_ble_eq_true rfl) rfl ?_
  refine mx_il0 d_Jd_String_checkIndex_0 ?_
  refine mx_il1 d_Jd_String_checkIndex_1 ?_
  refine sx_getsQ d_Jd_String_checkIndex_2 sx_fl1053 (fun s H hP => hP.1.2.2.2.2.2.2.1.2) (fun v hv => ?_)
  refine mx_cS3i d_Jd_String_checkIndex_5 (c_Sx_pre hv hj hN) ok_Jd_Preconditions_checkIndex ml_JdString_1059 (by decide) (Nat.le_of_ble_eq_true rfl) ?_
  refine mx_pop d_Jd_String_checkIndex_8 rfl ?_
  exact mx_vret d_Jd_String_checkIndex_9 rfl ⟨rfl, rfl⟩
theorem c_Sx_charAt1 {j : Nat} (hi : i < 69) (hj : j < sx_len i) : mx_C l E M_Jd_StringLatin1_charAt 2 0 0 [.ref (mx_aV E i), .int (nI j)] X (mx_ri (sx_ch i j) X) := by
  have h1 := sx_all i hi
  refine mx_C_of (ls0 := [some (.ref (mx_aV E i)), some (.int (nI j))]) (by decide +kernel) rfl rfl (Nat.le_of_ble_eq_true rfl) rfl ?_
  refine mx_il1 d_Jd_StringLatin1_charAt_0 ?_
  refine mx_al0 d_Jd_StringLatin1_charAt_1 ?_
  refine sx_alen (N := sx_len i) d_Jd_StringLatin1_charAt_2 (fun s H hP => (sx_str hP hi).2.2.2) ?_
  refine mx_cS2v d_Jd_StringLatin1_charAt_3 (c_Sx_check hj (by omega)) ok_Jd_String_checkIndex ml_JdStringLatin1_9 (by decide) (Nat.le_of_ble_eq_true rfl) ?_
  refine mx_al0 d_Jd_StringLatin1_charAt_6 ?_
  refine mx_il1 d_Jd_StringLatin1_charAt_7 ?_
  refine sx_bald (N := sx_len i) d_Jd_StringLatin1_charAt_8 (fun s H hP => (sx_str hP hi).2.2.2) hj (by omega) ?_
  refine mx_sip 255 d_Jd_StringLatin1_charAt_9 (by decide) ?_
  refine mx_iand d_Jd_StringLatin1_charAt_12 ?_
  refine sx_i2c d_Jd_StringLatin1_charAt_13 (h1.2 j hj).1 ?_
  exact mx_cret d_Jd_StringLatin1_charAt_14 rfl (h1.2 j hj).2 ⟨rfl, rfl⟩
theorem c_Sx_charAt {j : Nat} (hi : i < 69) (hj : j < sx_len i) : mx_C l E M_Jd_String_charAt 3 0 0 [.ref (mx_aK E i), .int (nI j)] X (mx_ri (sx_ch i j) X) := by
  have h1 := sx_all i hi
  refine mx_C_of (ls0 := [some (.ref (mx_aK E i)), some (.int (nI j))]) (by decide +kernel) rfl rfl (Nat.le_of_ble_eq_true rfl) rfl ?_
  refine mx_al0 d_Jd_String_charAt_0 ?_
  refine sx_call0 d_Jd_String_charAt_1 hi (c_Sx_isLatin1 hi) ok_Jd_String_isLatin1 ml_JdString_492 rfl (by decide) (Nat.le_of_ble_eq_true rfl) ?_
  refine mx_if_eq 16 d_Jd_String_charAt_4 (by decide) (fun c => absurd c (by decide)) (fun _ => ?_)
  refine mx_al0 d_Jd_String_charAt_7 ?_
  refine sx_getf (v := .ref (mx_aV E i)) d_Jd_String_charAt_8 sx_fl9 (fun s H hP => (sx_str hP hi).2.2.1) ?_
  refine mx_il1 d_Jd_String_charAt_11 ?_
  refine mx_cS2i d_Jd_String_charAt_12 (c_Sx_charAt1 hi hj) ok_Jd_StringLatin1_charAt ml_JdString_495 (by decide) (Nat.le_of_ble_eq_true rfl) ?_
  exact mx_cret d_Jd_String_charAt_15 rfl (h1.2 j hj).2 ⟨rfl, rfl⟩
end L52
