/-! THE LAW'S LOOP: rules of its own -/
section CN98
variable {l : Launch} {E : mx_Env} {M : mx_M} {d k n k2 n2 pc p1 p2 p3 p4 p5 p6 nx idx i j t x c : Nat} {ls : List (Option Value)} {o5 o6 : Option Value} {st : List Value} {X : mx_H} {Q : mx_R → mx_H → Prop} {S : mx_S} {I : mx_I} {P : mx_P} {J : mx_G} {v w : Int32}
theorem mx_sload (hd : mx_d M pc .iaload 1 nx) (hj : j < mx_L E) (hL : mx_L E ≤ 3072) (kk : mx_E l E M d k n nx ls (.int (mx_xs E j) :: st) X Q) : mx_E l E M d k n pc ls (.int (nI j) :: .ref (mx_b E) :: st) X Q := by
  obtain ⟨hd, rfl⟩ := hd
  intro p e R s m args below meth c9 H locs cells slots mc ms A F h1 h2 h3 h4 hP hS hl
  obtain ⟨scr, b1, b2, b3, b4, b5⟩ := hP.1.2.2.1.2
  have hcl : (nI j).toNatClampNeg = j := nI_clamp (by omega)
  exact W.iald (v := .int (mx_xs E j)) F.1 F.2.1 b1 b2 b3 (by rw [b4]; exact nI_inb hj (by omega)) (by rw [hcl]; exact b5 j hj) rfl rfl hd (kk p e R s m args below meth c9 H locs cells slots mc ms A F h1 h2 h3 h4 hP hS hl)
theorem mx_slen (hd : mx_d M pc .arraylength 1 nx) (kk : mx_E l E M d k n nx ls (.int (nI (mx_L E)) :: st) X Q) : mx_E l E M d k n pc ls (.ref (mx_b E) :: st) X Q := by
  obtain ⟨hd, rfl⟩ := hd
  intro p e R s m args below meth c9 H locs cells slots mc ms A F h1 h2 h3 h4 hP hS hl
  obtain ⟨scr, b1, b2, b3, b4, b5⟩ := hP.1.2.2.1.2
  exact W.alen (n := nI (mx_L E)) F.1 F.2.1 b1 b2 (by rw [b4] <;> rfl) rfl rfl hd (kk p e R s m args below meth c9 H locs cells slots mc ms A F h1 h2 h3 h4 hP hS hl)
theorem mx_E_le (h : mx_E l E M d k2 n2 pc ls st X Q) (hk : k2 ≤ k) (hn : n2 ≤ n) : mx_E l E M d k n pc ls st X Q := fun p e R s m args below meth c H locs cells slots mc ms A F h1 h2 h3 h4 hP hS hl => h p e R s m args below meth c H locs cells slots mc ms A F (by omega) (by omega) h3 h4 hP hS hl
abbrev lw_ls (E : mx_Env) (x i : Nat) (o5 o6 : Option Value) : List (Option Value) := [some (.ref (mx_b E)), some (.ref x), some (.ref (x + 277)), some (.ref (x + 291)), some (.int (nI i)), o5, o6]
theorem mx_nez {t1 t2 q1 q2 : Nat} {o1 o2 : Int} (h1 : mx_d M pc (.ifCond .eq o1) 3 q1) (h2 : mx_d M q1 (.iconst 1) 1 q2) (h3 : mx_d M q2 (.goto o2) 3 t1) (h4 : mx_d M t1 (.iconst 0) 1 t2) (e1 : (pc : Int) + o1 = (t1 : Int)) (e2 : (q2 : Int) + o2 = (t2 : Int)) (kk : mx_E l E M d k n t2 ls (.int (bI (!(decide (v = 0)))) :: st) X Q) : mx_E l E M d k n pc ls (.int v :: st) X Q := by
  by_cases c : v = 0
  · subst c
    refine mx_if_eq t1 h1 e1 (fun _ => ?_) (fun c9 => absurd rfl c9)
    exact mx_in_0 h4 kk
  · refine mx_if_eq t1 h1 e1 (fun c9 => absurd c9 c) (fun _ => ?_)
    refine mx_in_1 h2 ?_
    refine mx_goto t2 h3 e2 ?_
    rw [show bI (!(decide (v = 0))) = nI 1 by simp [c]; rfl] at kk
    exact kk
theorem mx_arg_1 (h1 : mx_d M pc (.aload_n 0) 1 p1) (h2 : mx_d M p1 (.iload 4) 2 p2) (h3 : mx_d M p2 (.iconst 1) 1 p3) (h4 : mx_d M p3 .iadd 1 p4) (h5 : mx_d M p4 .iaload 1 p5) (hi : i + 1 < mx_L E) (hL : mx_L E ≤ 3072) (kk : mx_E l E M d k n p5 (lw_ls E x i o5 o6) (.int (mx_xs E (i + 1)) :: st) X Q) : mx_E l E M d k n pc (lw_ls E x i o5 o6) st X Q := by
  refine mx_al0 h1 ?_
  refine mx_il4 h2 ?_
  refine mx_in_1 h3 ?_
  refine mx_iadd h4 ?_
  rw [nI_add]
  exact mx_sload h5 hi hL kk
theorem mx_arg_2 (h1 : mx_d M pc (.aload_n 0) 1 p1) (h2 : mx_d M p1 (.iload 4) 2 p2) (h3 : mx_d M p2 (.iconst 2) 1 p3) (h4 : mx_d M p3 .iadd 1 p4) (h5 : mx_d M p4 .iaload 1 p5) (hi : i + 2 < mx_L E) (hL : mx_L E ≤ 3072) (kk : mx_E l E M d k n p5 (lw_ls E x i o5 o6) (.int (mx_xs E (i + 2)) :: st) X Q) : mx_E l E M d k n pc (lw_ls E x i o5 o6) st X Q := by
  refine mx_al0 h1 ?_
  refine mx_il4 h2 ?_
  refine mx_in_2 h3 ?_
  refine mx_iadd h4 ?_
  rw [nI_add]
  exact mx_sload h5 hi hL kk
theorem mx_arg_3 (h1 : mx_d M pc (.aload_n 0) 1 p1) (h2 : mx_d M p1 (.iload 4) 2 p2) (h3 : mx_d M p2 (.iconst 3) 1 p3) (h4 : mx_d M p3 .iadd 1 p4) (h5 : mx_d M p4 .iaload 1 p5) (hi : i + 3 < mx_L E) (hL : mx_L E ≤ 3072) (kk : mx_E l E M d k n p5 (lw_ls E x i o5 o6) (.int (mx_xs E (i + 3)) :: st) X Q) : mx_E l E M d k n pc (lw_ls E x i o5 o6) st X Q := by
  refine mx_al0 h1 ?_
  refine mx_il4 h2 ?_
  refine mx_in_3 h3 ?_
  refine mx_iadd h4 ?_
  rw [nI_add]
  exact mx_sload h5 hi hL kk
theorem mx_arg_4 (h1 : mx_d M pc (.aload_n 0) 1 p1) (h2 : mx_d M p1 (.iload 4) 2 p2) (h3 : mx_d M p2 (.iconst 4) 1 p3) (h4 : mx_d M p3 .iadd 1 p4) (h5 : mx_d M p4 .iaload 1 p5) (hi : i + 4 < mx_L E) (hL : mx_L E ≤ 3072) (kk : mx_E l E M d k n p5 (lw_ls E x i o5 o6) (.int (mx_xs E (i + 4)) :: st) X Q) : mx_E l E M d k n pc (lw_ls E x i o5 o6) st X Q := by
  refine mx_al0 h1 ?_
  refine mx_il4 h2 ?_
  refine mx_in_4 h3 ?_
  refine mx_iadd h4 ?_
  rw [nI_add]
  exact mx_sload h5 hi hL kk
theorem mx_arg_5 (h1 : mx_d M pc (.aload_n 0) 1 p1) (h2 : mx_d M p1 (.iload 4) 2 p2) (h3 : mx_d M p2 (.iconst 5) 1 p3) (h4 : mx_d M p3 .iadd 1 p4) (h5 : mx_d M p4 .iaload 1 p5) (hi : i + 5 < mx_L E) (hL : mx_L E ≤ 3072) (kk : mx_E l E M d k n p5 (lw_ls E x i o5 o6) (.int (mx_xs E (i + 5)) :: st) X Q) : mx_E l E M d k n pc (lw_ls E x i o5 o6) st X Q := by
  refine mx_al0 h1 ?_
  refine mx_il4 h2 ?_
  refine mx_in_5 h3 ?_
  refine mx_iadd h4 ?_
  rw [nI_add]
  exact mx_sload h5 hi hL kk
theorem lw_cmp0 {z : Int64} : lg_cmp z z = nI 0 := by unfold lg_cmp; simp; rfl
theorem lw_tail_i {p : Nat} (d1 : mx_d M_law p (.istore 6) 2 (p + 2)) (d2 : mx_d M_law (p + 2) (.aload_n 2) 1 (p + 3)) (d3 : mx_d M_law (p + 3) (.invokevirtual 159) 3 (p + 6)) (d4 : mx_d M_law (p + 6) (.iload 5) 2 (p + 8)) (d5 : mx_d M_law (p + 8) (.if_icmp .eq 5) 3 (p + 11)) (d6 : mx_d M_law (p + 13) (.iload 5) 2 (p + 15)) (d7 : mx_d M_law (p + 15) (.ifCond .ne 15) 3 (p + 18)) (d8 : mx_d M_law (p + 18) (.aload_n 3) 1 (p + 19)) (d9 : mx_d M_law (p + 19) (.iconst 0) 1 (p + 20)) (d10 : mx_d M_law (p + 20) .laload 1 (p + 21)) (d11 : mx_d M_law (p + 21) (.iload 6) 2 (p + 23)) (d12 : mx_d M_law (p + 23) .i2l 1 (p + 24)) (d13 : mx_d M_law (p + 24) .lcmp 1 (p + 25)) (d14 : mx_d M_law (p + 25) (.ifCond .eq 5) 3 (p + 28)) {o : Int} (d15 : mx_d M_law (p + 30) (.goto o) 3 (p + 33)) (e15 : ((p + 30 : Nat) : Int) + o = (3184 : Nat)) (hM : mo_ok S P (x + 277)) (h0 : I (x + 277) 0 = nI c) (hc : c ≤ 3) (hS : S (x + 291) = some (3, 1)) (hJ : c = 0 → J (x + 291) 0 = w.toInt64) (hd9 : 1 ≤ d) (kk : mx_E l E M_law d k n 3184 (lw_ls E x i (some (.int (nI c))) (some (.int w))) [] (t, S, I, P, J) Q) : mx_E l E M_law d k n p (lw_ls E x i (some (.int (nI c))) o6) [.int w] (t, S, I, P, J) Q := by
  refine mx_is6 d1 ?_
  refine mx_al2 d2 ?_
  refine mx_cV0i d3 (c_Mo_thrown hM) ok_Mo_thrown ml_Lw_159 hM.1 ⟨rfl, rfl⟩ (by omega) (Nat.le_of_ble_eq_true rfl) ?_
  rw [h0]
  refine mx_il5 d4 ?_
  refine mx_icmp_eq (p + 13) d5 (by omega) (fun _ => ?_) (fun c9 => absurd rfl c9)
  refine mx_il5 d6 ?_
  by_cases c0 : c = 0
  · subst c0
    refine mx_if_ne (p + 30) d7 (by omega) (fun c9 => absurd rfl c9) (fun _ => ?_)
    refine mx_al3 d8 ?_
    refine mx_in_0 d9 ?_
    refine mx_lald d10 hS (nI_inb (by omega) (by omega)) ?_
    rw [nI_clamp (by omega), hJ rfl]
    refine mx_il6 d11 ?_
    refine mx_i2l d12 ?_
    refine mx_lcmp d13 ?_
    rw [lw_cmp0]
    refine mx_if_eq (p + 30) d14 (by omega) (fun _ => ?_) (fun c9 => absurd rfl c9)
    exact mx_goto 3184 d15 e15 kk
  · refine mx_if_ne (p + 30) d7 (by omega) (fun _ => ?_) (fun c9 => absurd c9 (fun z => c0 ((nI_eq (by omega) (by omega)).mp z)))
    exact mx_goto 3184 d15 e15 kk
theorem lw_tail_z {p : Nat} (d1 : mx_d M_law p (.istore 6) 2 (p + 2)) (d2 : mx_d M_law (p + 2) (.aload_n 2) 1 (p + 3)) (d3 : mx_d M_law (p + 3) (.invokevirtual 159) 3 (p + 6)) (d4 : mx_d M_law (p + 6) (.iload 5) 2 (p + 8)) (d5 : mx_d M_law (p + 8) (.if_icmp .eq 5) 3 (p + 11)) (d6 : mx_d M_law (p + 13) (.iload 5) 2 (p + 15)) (d7 : mx_d M_law (p + 15) (.ifCond .ne 22) 3 (p + 18)) (d8 : mx_d M_law (p + 18) (.aload_n 3) 1 (p + 19)) (d9 : mx_d M_law (p + 19) (.iconst 0) 1 (p + 20)) (d10 : mx_d M_law (p + 20) .laload 1 (p + 21)) (d11 : mx_d M_law (p + 21) (.iload 6) 2 (p + 23)) (d12 : mx_d M_law (p + 23) (.ifCond .eq 7) 3 (p + 26)) (d13 : mx_d M_law (p + 26) (.lconst 1) 1 (p + 27)) (d14 : mx_d M_law (p + 27) (.goto 4) 3 (p + 30)) (d15 : mx_d M_law (p + 30) (.lconst 0) 1 (p + 31)) (d16 : mx_d M_law (p + 31) .lcmp 1 (p + 32)) (d17 : mx_d M_law (p + 32) (.ifCond .eq 5) 3 (p + 35)) {o : Int} (d18 : mx_d M_law (p + 37) (.goto o) 3 (p + 40)) (e18 : ((p + 37 : Nat) : Int) + o = (3184 : Nat)) {r : Bool} (hw : c = 0 → w = bI r) (hM : mo_ok S P (x + 277)) (h0 : I (x + 277) 0 = nI c) (hc : c ≤ 3) (hS : S (x + 291) = some (3, 1)) (hJ : c = 0 → J (x + 291) 0 = w.toInt64) (hd9 : 1 ≤ d) (kk : mx_E l E M_law d k n 3184 (lw_ls E x i (some (.int (nI c))) (some (.int w))) [] (t, S, I, P, J) Q) : mx_E l E M_law d k n p (lw_ls E x i (some (.int (nI c))) o6) [.int w] (t, S, I, P, J) Q := by
  refine mx_is6 d1 ?_
  refine mx_al2 d2 ?_
  refine mx_cV0i d3 (c_Mo_thrown hM) ok_Mo_thrown ml_Lw_159 hM.1 ⟨rfl, rfl⟩ (by omega) (Nat.le_of_ble_eq_true rfl) ?_
  rw [h0]
  refine mx_il5 d4 ?_
  refine mx_icmp_eq (p + 13) d5 (by omega) (fun _ => ?_) (fun c9 => absurd rfl c9)
  refine mx_il5 d6 ?_
  by_cases c0 : c = 0
  · subst c0
    have hw := hw rfl
    subst hw
    refine mx_if_ne (p + 37) d7 (by omega) (fun c9 => absurd rfl c9) (fun _ => ?_)
    refine mx_al3 d8 ?_
    refine mx_in_0 d9 ?_
    refine mx_lald d10 hS (nI_inb (by omega) (by omega)) ?_
    rw [nI_clamp (by omega), hJ rfl]
    refine mx_il6 d11 ?_
    cases r with
    | true =>
      refine mx_if_eq (p + 30) d12 (by omega) (fun c9 => absurd c9 (by decide)) (fun _ => ?_)
      refine mx_lc_1 d13 ?_
      refine mx_goto (p + 31) d14 (by omega) ?_
      refine mx_lcmp d16 ?_
      rw [show (bI true).toInt64 = 1 by decide, lw_cmp0]
      refine mx_if_eq (p + 37) d17 (by omega) (fun _ => ?_) (fun c9 => absurd rfl c9)
      exact mx_goto 3184 d18 e18 kk
    | false =>
      refine mx_if_eq (p + 30) d12 (by omega) (fun _ => ?_) (fun c9 => absurd rfl c9)
      refine mx_lc_0 d15 ?_
      refine mx_lcmp d16 ?_
      rw [show (bI false).toInt64 = 0 by decide, lw_cmp0]
      refine mx_if_eq (p + 37) d17 (by omega) (fun _ => ?_) (fun c9 => absurd rfl c9)
      exact mx_goto 3184 d18 e18 kk
  · refine mx_if_ne (p + 37) d7 (by omega) (fun _ => ?_) (fun c9 => absurd c9 (fun z => c0 ((nI_eq (by omega) (by omega)).mp z)))
    exact mx_goto 3184 d18 e18 kk
end CN98
