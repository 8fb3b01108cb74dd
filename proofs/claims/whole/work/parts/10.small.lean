/-! THE SMALL STATIC METHODS -/
section A10
variable {l : Launch} {E : mx_Env} {t : Nat} {S : mx_S} {I : mx_I} {P : mx_P} {J : mx_G}
theorem c_get {a k L : Nat} (hs : S a = some (1, L)) (hk : k < L) (hL : L ≤ 65536) : mx_C l E M_Vh_get 0 0 0 [.ref (a), .int (nI (k))] (t, S, I, P, J) (mx_ri (I a k) (t, S, I, P, J)) := by
  refine mx_C_of (ls0 := [some (.ref (a)), some (.int (nI (k)))]) (by decide +kernel) rfl rfl (Nat.le_of_ble_eq_true rfl) rfl ?_
  refine mx_al0 d_Vh_get_0 ?_
  refine mx_ifnull d_Vh_get_1 ?_
  refine mx_il1 d_Vh_get_4 ?_
  refine mx_if_lt 20 d_Vh_get_5 (by decide) (fun c_5 => absurd c_5 (nI_pos (by omega))) (fun c_5 => ?_)
  refine mx_il1 d_Vh_get_8 ?_
  refine mx_al0 d_Vh_get_9 ?_
  refine mx_alen d_Vh_get_10 (by assumption) ?_
  refine mx_icN_ge 20 d_Vh_get_11 (by decide) (by omega) (by omega) (fun c_11 => absurd c_11 (by omega)) (fun c_11 => ?_)
  refine mx_al0 d_Vh_get_14 ?_
  refine mx_il1 d_Vh_get_15 ?_
  refine mx_iald d_Vh_get_16 (by assumption) (nI_inb (by omega) (by omega)) ?_
  refine mx_ti (y := I (a) (k)) (by rw [nI_clamp (by omega)]) ?_
  refine mx_goto 21 d_Vh_get_17 (by decide) ?_
  exact mx_iret d_Vh_get_21 rfl (mx_ri_of (by rfl))
theorem c_put {a k L : Nat} {v : Int32} (hs : S a = some (1, L)) (hk : k < L) (hL : L ≤ 65536) : mx_C l E M_Vh_put 0 0 0 [.ref (a), .int (nI (k)), .int (v)] (t, S, I, P, J) (mx_rv (t, S, mx_up I a k v, P, J)) := by
  refine mx_C_of (ls0 := [some (.ref (a)), some (.int (nI (k))), some (.int (v))]) (by decide +kernel) rfl rfl (Nat.le_of_ble_eq_true rfl) rfl ?_
  refine mx_al0 d_Vh_put_0 ?_
  refine mx_ifnull d_Vh_put_1 ?_
  refine mx_il1 d_Vh_put_4 ?_
  refine mx_if_lt 18 d_Vh_put_5 (by decide) (fun c_5 => absurd c_5 (nI_pos (by omega))) (fun c_5 => ?_)
  refine mx_il1 d_Vh_put_8 ?_
  refine mx_al0 d_Vh_put_9 ?_
  refine mx_alen d_Vh_put_10 (by assumption) ?_
  refine mx_icN_ge 18 d_Vh_put_11 (by decide) (by omega) (by omega) (fun c_11 => absurd c_11 (by omega)) (fun c_11 => ?_)
  refine mx_al0 d_Vh_put_14 ?_
  refine mx_il1 d_Vh_put_15 ?_
  refine mx_il2 d_Vh_put_16 ?_
  refine mx_iast d_Vh_put_17 (by assumption) (nI_inb (by omega) (by omega)) ?_
  rw [nI_clamp (by omega)]
  exact mx_vret d_Vh_put_18 rfl (mx_rv_of (by rfl))
theorem c_get_neg {a L : Nat} (hs : S a = some (1, L)) : mx_C l E M_Vh_get 0 0 0 [.ref (a), .int ((-1))] (t, S, I, P, J) (mx_ri 0 (t, S, I, P, J)) := by
  refine mx_C_of (ls0 := [some (.ref (a)), some (.int ((-1)))]) (by decide +kernel) rfl rfl (Nat.le_of_ble_eq_true rfl) rfl ?_
  refine mx_al0 d_Vh_get_0 ?_
  refine mx_ifnull d_Vh_get_1 ?_
  refine mx_il1 d_Vh_get_4 ?_
  refine mx_if_lt 20 d_Vh_get_5 (by decide) (fun c_5 => ?_) (fun c_5 => absurd (by decide) c_5)
  refine mx_in_0 d_Vh_get_20 ?_
  exact mx_iret d_Vh_get_21 rfl (mx_ri_of (by rfl))
def vs_has (x : Int32) (j : Nat) : Bool := decide (¬ mx_ushr x (nI j) &&& nI 1 = 0)
theorem c_has {x : Int32} {j : Nat} (hj : j < 32) : mx_C l E M_Vh_has 0 0 0 [.int (x), .int (nI (j))] (t, S, I, P, J) (mx_ri (bI (vs_has x j)) (t, S, I, P, J)) := by
  refine mx_C_of (ls0 := [some (.int (x)), some (.int (nI (j)))]) (by decide +kernel) rfl rfl (Nat.le_of_ble_eq_true rfl) rfl ?_
  refine mx_il1 d_Vh_has_0 ?_
  refine mx_if_lt 22 d_Vh_has_1 (by decide) (fun c_1 => absurd c_1 (nI_pos (by omega))) (fun c_1 => ?_)
  refine mx_il1 d_Vh_has_4 ?_
  refine mx_bip 32 d_Vh_has_5 (by decide) ?_
  refine mx_icN_ge 22 d_Vh_has_7 (by decide) (by omega) (by omega) (fun c_7 => absurd c_7 (by omega)) (fun c_7 => ?_)
  refine mx_il0 d_Vh_has_10 ?_
  refine mx_il1 d_Vh_has_11 ?_
  refine mx_iushr d_Vh_has_12 ?_
  refine mx_in_1 d_Vh_has_13 ?_
  refine mx_iand d_Vh_has_14 ?_
  refine mx_if_eq 22 d_Vh_has_15 (by decide) (fun c_15 => ?_) (fun c_15 => ?_)
  · skip
    refine mx_in_0 d_Vh_has_22 ?_
    exact mx_zret d_Vh_has_23 rfl (by first | exact Or.inl rfl | exact Or.inr rfl) (mx_ri_of (by simp [bI, vs_has, *]))
  · skip
    refine mx_in_1 d_Vh_has_18 ?_
    refine mx_goto 23 d_Vh_has_19 (by decide) ?_
    exact mx_zret d_Vh_has_23 rfl (by first | exact Or.inl rfl | exact Or.inr rfl) (mx_ri_of (by simp [bI, vs_has, *]))
theorem vs_has_bt {x : Int32} {j : Nat} (hj : j < 32) : vs_has x j = bt x j := by
  have h : (mx_ushr x (nI j) &&& nI 1 = 0) ↔ bt x j = false := by
    constructor
    · intro h
      have h1 := congrArg (fun z => bt z 0) h
      simp only [b_and, b_0] at h1
      rw [show bt (mx_ushr x (nI j)) 0 = bt x (j + 0) from b_ushr j hj x 0, show bt (nI 1) 0 = true by decide] at h1
      simpa using h1
    · intro h
      apply b_ext
      intro i hi
      rw [b_and, b_0]
      by_cases h0 : i = 0
      · subst h0
        rw [show bt (mx_ushr x (nI j)) 0 = bt x (j + 0) from b_ushr j hj x 0]
        simp [h]
      · have : ∀ i, i < 32 → i ≠ 0 → bt (nI 1) i = false := by decide +kernel
        rw [this i hi h0]; simp
  unfold vs_has
  cases hb : bt x j
  · simp [h.mpr hb]
  · have : ¬ (mx_ushr x (nI j) &&& nI 1 = 0) := fun z => by rw [h.mp z] at hb; cases hb
    simp [this]
def vs_fill (I : mx_I) (a n : Nat) (v : Int32) : mx_I := fun b j => if b = a ∧ j < n then v else I b j
theorem vs_fill_0 {I : mx_I} {a : Nat} {v : Int32} : vs_fill I a 0 v = I := by funext b j; simp [vs_fill]
theorem vs_fill_s {I : mx_I} {a n : Nat} {v : Int32} : mx_up (vs_fill I a n v) a n v = vs_fill I a (n + 1) v := by
  funext b j
  simp only [mx_up, vs_fill]
  by_cases hb : b = a
  · subst hb
    by_cases h1 : j = n
    · simp [h1]
    · by_cases h2 : j < n
      · simp [h1, h2]; omega
      · have : ¬ j < n + 1 := by omega
        simp [h1, h2, this]
  · simp [hb]
theorem c_fill {a L : Nat} {v : Int32} (hs : S a = some (1, L)) (hL : L ≤ 65536) : mx_C l E M_Vh_fill 0 0 0 [.ref (a), .int (v)] (t, S, I, P, J) (mx_rv (t, S, vs_fill I a L v, P, J)) := by
  have e0 : (t, S, I, P, J) = (t, S, vs_fill I a 0 v, P, J) := by rw [vs_fill_0]
  rw [e0]
  refine mx_C_of (ls0 := [some (.ref (a)), some (.int (v)), none]) (by decide +kernel) rfl rfl (Nat.le_of_ble_eq_true rfl) rfl ?_
  refine mx_in_0 d_Vh_fill_0 ?_
  refine mx_is2 d_Vh_fill_1 ?_
  refine mx_loop (N := L) (ls := fun i => [some (.ref (a)), some (.int (v)), some (.int (nI (i)))]) (X := fun i => (t, S, (vs_fill I a i v), P, J)) (fun i hi ih => ?_) ?_
  · try dsimp only
    refine mx_al0 d_Vh_fill_2 ?_
    refine mx_ifnull d_Vh_fill_3 ?_
    refine mx_il2 d_Vh_fill_6 ?_
    refine mx_al0 d_Vh_fill_7 ?_
    refine mx_alen d_Vh_fill_8 (by assumption) ?_
    refine mx_icN_ge 22 d_Vh_fill_9 (by decide) (by omega) (by omega) (fun c_9 => absurd c_9 (by omega)) (fun c_9 => ?_)
    refine mx_al0 d_Vh_fill_12 ?_
    refine mx_il2 d_Vh_fill_13 ?_
    refine mx_il1 d_Vh_fill_14 ?_
    refine mx_iast d_Vh_fill_15 (by assumption) (nI_inb (by omega) (by omega)) ?_
    rw [nI_clamp (by omega)]
    refine mx_iN2 d_Vh_fill_16 ?_
    refine mx_goto 2 d_Vh_fill_19 (by decide) ?_
    rw [vs_fill_s]; exact ih
  · try dsimp only
    refine mx_al0 d_Vh_fill_2 ?_
    refine mx_ifnull d_Vh_fill_3 ?_
    refine mx_il2 d_Vh_fill_6 ?_
    refine mx_al0 d_Vh_fill_7 ?_
    refine mx_alen d_Vh_fill_8 (by assumption) ?_
    refine mx_icN_ge 22 d_Vh_fill_9 (by decide) (by omega) (by omega) (fun c_9 => ?_) (fun c_9 => absurd c_9 (by omega))
    exact mx_vret d_Vh_fill_22 rfl (mx_rv_of rfl)
def vs_div (x y : Int64) : Int64 := if y = 0 then 0 else x / y
theorem c_divide {x y : Int64} : mx_C l E M_Vh_divide 0 0 0 [.long (x), .long (y)] (t, S, I, P, J) (mx_rl (vs_div x y) (t, S, I, P, J)) := by
  refine mx_C_of (ls0 := [some (.long (x)), none, some (.long (y)), none]) (by decide +kernel) rfl rfl (Nat.le_of_ble_eq_true rfl) rfl ?_
  refine mx_ll2 d_Vh_divide_0 ?_
  refine mx_lc_0 d_Vh_divide_1 ?_
  refine mx_lcmp d_Vh_divide_2 ?_
  refine mx_if_ne 10 d_Vh_divide_3 (by decide) (fun c_3 => ?_) (fun c_3 => ?_)
  · skip
    have hy : ¬ y = 0 := fun z => c_3 (by subst z; simp [lg_cmp])
    refine mx_ll0 d_Vh_divide_10 ?_
    refine mx_ll2 d_Vh_divide_11 ?_
    refine mx_ldiv d_Vh_divide_12 (by assumption) ?_
    exact mx_lret d_Vh_divide_13 rfl (mx_rl_of (by simp [vs_div, hy]))
  · skip
    have hy : y = 0 := by unfold lg_cmp at c_3; split at c_3 <;> first | assumption | (split at c_3 <;> first | assumption | (exact absurd c_3 (by decide)) | omega) | (exact absurd c_3 (by decide))
    refine mx_lc_0 d_Vh_divide_6 ?_
    refine mx_goto 13 d_Vh_divide_7 (by decide) ?_
    exact mx_lret d_Vh_divide_13 rfl (mx_rl_of (by simp [vs_div, hy]))
def vs_pow (x : Int64) (n : Nat) : Int64 := vf n (fun _ a => a * x) 1
theorem c_power {x : Int64} {n : Nat} (hn : n < 1000) : mx_C l E M_Vh_power 0 0 0 [.long (x), .int (nI (n))] (t, S, I, P, J) (mx_rl (vs_pow x n) (t, S, I, P, J)) := by
  refine mx_C_of (ls0 := [some (.long (x)), none, some (.int (nI (n))), none, none, none]) (by decide +kernel) rfl rfl (Nat.le_of_ble_eq_true rfl) rfl ?_
  refine mx_lc_1 d_Vh_power_0 ?_
  refine mx_ls3 d_Vh_power_1 ?_
  refine mx_in_0 d_Vh_power_2 ?_
  refine mx_is5 d_Vh_power_3 ?_
  refine mx_loop (N := n) (ls := fun i => [some (.long (x)), none, some (.int (nI (n))), some (.long (vs_pow x i)), none, some (.int (nI (i)))]) (X := fun i => (t, S, I, P, J)) (fun i hi ih => ?_) ?_
  · try dsimp only
    refine mx_il5 d_Vh_power_5 ?_
    refine mx_il2 d_Vh_power_7 ?_
    refine mx_icN_ge 21 d_Vh_power_8 (by decide) (by omega) (by omega) (fun c_8 => absurd c_8 (by omega)) (fun c_8 => ?_)
    refine mx_ll3 d_Vh_power_11 ?_
    refine mx_ll0 d_Vh_power_12 ?_
    refine mx_lmul d_Vh_power_13 ?_
    refine mx_ls3 d_Vh_power_14 ?_
    refine mx_iN5 d_Vh_power_15 ?_
    refine mx_goto 5 d_Vh_power_18 (by decide) ?_
    have e3 : (vs_pow x i * x) = vs_pow x (i + 1) := by first | rfl | simp [vf_s, *]
    rw [e3]
    exact ih
  · try dsimp only
    refine mx_il5 d_Vh_power_5 ?_
    refine mx_il2 d_Vh_power_7 ?_
    refine mx_icN_ge 21 d_Vh_power_8 (by decide) (by omega) (by omega) (fun c_8 => ?_) (fun c_8 => absurd c_8 (by omega))
    refine mx_ll3 d_Vh_power_21 ?_
    exact mx_lret d_Vh_power_22 rfl (mx_rl_of (by rfl))
end A10
