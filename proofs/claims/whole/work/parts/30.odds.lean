/-! ODDS: what is plain of it -/
def vs_sm (f : Nat → Int64) (n : Nat) : Int64 := vf n (fun i s => s + f i) 0
theorem vs_sm_s (f : Nat → Int64) (n : Nat) : vs_sm f (n + 1) = vs_sm f n + f n := rfl
theorem vs_sm_congr {f g : Nat → Int64} {n : Nat} (h : ∀ i, i < n → f i = g i) : vs_sm f n = vs_sm g n := by
  induction n with
  | zero => rfl
  | succ n ih => rw [vs_sm_s, vs_sm_s, ih (fun i hi => h i (by omega)), h n (by omega)]
theorem vs_sm_split (f : Nat → Int64) (a b : Nat) : vs_sm f (a + b) = vs_sm f a + vs_sm (fun i => f (a + i)) b := by
  induction b with
  | zero => exact (Int64.add_zero _).symm
  | succ b ih => rw [← Nat.add_assoc, vs_sm_s, vs_sm_s, ih, Int64.add_assoc]
theorem vs_sm_head (f : Nat → Int64) (n : Nat) : vs_sm f (n + 1) = f 0 + vs_sm (fun i => f (i + 1)) n := by
  rw [Nat.add_comm n 1, vs_sm_split]
  have e : vs_sm f 1 = f 0 := Int64.zero_add _
  rw [e]
  congr 1
  exact vs_sm_congr (fun i _ => by rw [Nat.add_comm])
theorem vs_sm_add (f g : Nat → Int64) (n : Nat) : vs_sm (fun i => f i + g i) n = vs_sm f n + vs_sm g n := by
  induction n with
  | zero => rfl
  | succ n ih => rw [vs_sm_s, vs_sm_s, vs_sm_s, ih, Int64.add_assoc, Int64.add_assoc, ← Int64.add_assoc (vs_sm g n), Int64.add_comm (vs_sm g n) (f n), Int64.add_assoc]
theorem vs_sm_zero {f : Nat → Int64} {n : Nat} (h : ∀ i, i < n → f i = 0) : vs_sm f n = 0 := by
  induction n with
  | zero => rfl
  | succ n ih => rw [vs_sm_s, ih (fun i hi => h i (by omega)), h n (by omega)]; rfl
/-- the ways to choose k of n -/
def vs_ch : Nat → Nat → Nat
  | _, 0 => 1
  | 0, _ + 1 => 0
  | n + 1, k + 1 => vs_ch n k + vs_ch n (k + 1)
theorem vs_ch_out : ∀ (n k : Nat), n < k → vs_ch n k = 0
  | 0, k + 1, _ => rfl
  | n + 1, k + 1, h => by
    have h1 := vs_ch_out n k (by omega)
    have h2 := vs_ch_out n (k + 1) (by omega)
    show vs_ch n k + vs_ch n (k + 1) = 0
    omega
theorem vs_ch0 (n : Nat) : vs_ch n 0 = 1 := by cases n <;> rfl
/-- how many bits of a number less than 2^n -/
def vs_pc (k : Nat) : Nat := fb_ct (bt (nI k)) 31
theorem vs_bt_nI (k i : Nat) (hk : k < 2 ^ 31) : bt (nI k) i = k.testBit i := by
  show (BitVec.ofNat 32 k).getLsbD i = _
  rw [BitVec.getLsbD_ofNat]
  by_cases h : i < 32
  · simp [h]
  · have : k.testBit i = false := Nat.testBit_lt_two_pow (Nat.lt_of_lt_of_le hk (Nat.pow_le_pow_right (by omega) (by omega)))
    simp [this]
theorem vs_pc_hi {n s : Nat} (hn : n < 31) (hs : s < 2 ^ n) : vs_pc (2 ^ n + s) = vs_pc s + 1 := by
  have h2 : 2 ^ n + s < 2 ^ 31 := by
    have : 2 ^ (n + 1) ≤ 2 ^ 31 := Nat.pow_le_pow_right (by omega) (by omega)
    rw [Nat.pow_succ] at this; omega
  have e1 : vs_pc (2 ^ n + s) = fb_ct (fun k => if k = n then true else s.testBit k) 31 := by
    refine fb_ct_cong (fun i hi => ?_)
    rw [vs_bt_nI _ _ h2]
    by_cases h : i = n
    · subst h
      rw [Nat.testBit_two_pow_add_eq, Nat.testBit_lt_two_pow hs]; simp
    · rw [if_neg h]
      rcases Nat.lt_or_ge i n with q | q
      · rw [Nat.testBit_two_pow_add_gt q]
      · have h3 : 2 ^ n + s < 2 ^ i := by
          have : 2 ^ (n + 1) ≤ 2 ^ i := Nat.pow_le_pow_right (by omega) (by omega)
          rw [Nat.pow_succ] at this; omega
        rw [Nat.testBit_lt_two_pow h3, Nat.testBit_lt_two_pow (by omega)]
  have e2 : vs_pc s = fb_ct s.testBit 31 := fb_ct_cong (fun i _ => vs_bt_nI _ _ (by omega))
  have e3 := fb_ct_upd s.testBit true (n := 31) hn
  rw [Nat.testBit_lt_two_pow hs] at e3
  rw [e1, e2]
  simpa using e3
theorem vs_pc_sum (n : Nat) (hn : n < 31) : ∀ F : Nat → Int64, vs_sm (fun s => F (vs_pc s)) (2 ^ n) = vs_sm (fun j => lN (vs_ch n j) * F j) (n + 1) := by
  induction n with
  | zero =>
    intro F
    have e : vs_pc 0 = 0 := by decide +kernel
    show 0 + F (vs_pc 0) = 0 + lN 1 * F 0
    rw [e, show lN 1 = 1 from rfl, Int64.one_mul]
  | succ n ih =>
    intro F
    have ih := ih (by omega)
    have e0 : vs_sm (fun i => F (vs_pc (2 ^ n + i))) (2 ^ n) = vs_sm (fun s => (fun z => F (z + 1)) (vs_pc s)) (2 ^ n) := vs_sm_congr (fun s hs => by rw [vs_pc_hi (by omega) hs])
    rw [Nat.pow_succ, Nat.mul_two, vs_sm_split, ih F, e0, ih (fun z => F (z + 1))]
    rw [vs_sm_head (fun j => lN (vs_ch (n + 1) j) * F j) (n + 1)]
    have e1 : vs_sm (fun j => lN (vs_ch (n + 1) (j + 1)) * F (j + 1)) (n + 1) = vs_sm (fun j => lN (vs_ch n j) * F (j + 1)) (n + 1) + vs_sm (fun j => lN (vs_ch n (j + 1)) * F (j + 1)) (n + 1) := by
      rw [← vs_sm_add]
      exact vs_sm_congr (fun j _ => by show lN (vs_ch n j + vs_ch n (j + 1)) * F (j + 1) = _; rw [← lN_add, Int64.add_mul])
    rw [e1]
    have e2 : vs_sm (fun j => lN (vs_ch n (j + 1)) * F (j + 1)) (n + 1) = vs_sm (fun j => lN (vs_ch n (j + 1)) * F (j + 1)) n := by
      rw [vs_sm_s, vs_ch_out n (n + 1) (by omega), show lN 0 = 0 from rfl, Int64.zero_mul, Int64.add_zero]
    rw [e2, vs_sm_head (fun j => lN (vs_ch n j) * F j) n, vs_ch0, vs_ch0]
    rw [Int64.add_assoc]
    congr 1
    rw [Int64.add_comm]
/-- how the class counts them -/
def vs_cho (n k : Nat) : Int64 := vf k (fun i s => vs_div (s * (nI (n - i)).toInt64) (nI (i + 1)).toInt64) 1
theorem vs_cho_eq : ∀ n, n < 8 → ∀ k, k ≤ n → vs_cho n k = lN (vs_ch n k) := by decide +kernel
def vs_od (p r : Int64) (n k : Nat) : Int64 := vf (n + 1 - k) (fun j s => s + vs_cho n (k + j) * vs_pow p (k + j) * vs_pow r (n - (k + j))) 0
def vs_od2 (p r : Int64) (n k N : Nat) : Int64 := vf N (fun z s => if k ≤ vs_pc z then s + vs_pow p (vs_pc z) * vs_pow r (n - vs_pc z) else s) 0
theorem vs_od_eq (p r : Int64) {n k : Nat} (hn : n < 8) : vs_od2 p r n k (2 ^ n) = vs_od p r n k := by
  have e1 : vs_od2 p r n k (2 ^ n) = vs_sm (fun s => (fun j => if k ≤ j then vs_pow p j * vs_pow r (n - j) else 0) (vs_pc s)) (2 ^ n) := by
    refine vf_congr (fun z s _ => ?_)
    dsimp only
    split
    · rfl
    · rw [Int64.add_zero]
  rw [e1, vs_pc_sum n (by omega) (fun j => if k ≤ j then vs_pow p j * vs_pow r (n - j) else 0)]
  by_cases hk : k ≤ n + 1
  · have e2 : n + 1 = k + (n + 1 - k) := by omega
    rw [e2, vs_sm_split, vs_sm_zero (n := k) (fun i hi => by rw [if_neg (by omega), Int64.mul_zero]), Int64.zero_add]
    refine vf_congr (fun j s hj => ?_)
    dsimp only
    rw [if_pos (by omega), vs_cho_eq n hn (k + j) (by omega), Int64.mul_assoc]
  · rw [vs_sm_zero (fun i hi => by rw [if_neg (by omega), Int64.mul_zero])]
    unfold vs_od
    rw [show n + 1 - k = 0 by omega]
    rfl
section V30
variable {l : Launch} {E : mx_Env} {t : Nat} {S : mx_S} {I : mx_I} {P : mx_P} {J : mx_G} {m : Nat → Int32} {x mo H G : Nat}
theorem vs_shl1 {n : Nat} (hn : n < 31) : nI 1 <<< (nI n &&& 31) = nI (2 ^ n) := (by decide +kernel : ∀ n, n < 31 → nI 1 <<< (nI n &&& 31) = nI (2 ^ n)) n hn
theorem vs_two8 {n : Nat} (hn : n < 9) : 2 ^ n ≤ 256 := Nat.le_trans (Nat.pow_le_pow_right (by omega) (by omega : n ≤ 8)) (by decide)
theorem vs_pc31 (k : Nat) : vs_pc k ≤ 31 := fb_ct_le _ _
theorem vs_pcn {n k : Nat} (hn : n < 8) (hk : k < 2 ^ n) : vs_pc k ≤ n := (by decide +kernel : ∀ n, n < 8 → ∀ k, k < 2 ^ n → vs_pc k ≤ n) n hn k hk
def vs_odL (p r : Int64) (n k j : Nat) : Int64 := vf j (fun j s => s + vs_cho n (k + j) * vs_pow p (k + j) * vs_pow r (n - (k + j))) 0
theorem c_Mo_bitsN {k : Nat} : mx_C l E M_Mo_bits 0 0 0 [.int (nI (k))] (t, S, I, P, J) (mx_ri (nI (vs_pc k)) (t, S, I, P, J)) := c_Mo_bits
theorem vs_od2_s (p r : Int64) (n k z : Nat) : vs_od2 p r n k (z + 1) = if k ≤ vs_pc z then vs_od2 p r n k z + vs_pow p (vs_pc z) * vs_pow r (n - vs_pc z) else vs_od2 p r n k z := rfl
def vs_odV (m : Nat → Int32) (n k : Nat) : Int32 := (vs_div (10000 * vs_od (nI 100 - m 5).toInt64 (m 5).toInt64 n k) (vs_pow 100 n)).toInt32
def sp_odds (m : Nat → Int32) (v w : Int32) : Nat × Int32 := if vs_isN v 8 && vs_isN w 9 then (0, vs_odV m v.toNatClampNeg w.toNatClampNeg) else (1, nI 0)
theorem c_Vh_choices {n k : Nat} (hn : n < 8) (hk : k ≤ n) : mx_C l E M_Vh_choices 1 0 0 [.int (nI (n)), .int (nI (k))] (t, S, I, P, J) (mx_rl (vs_cho n k) (t, S, I, P, J)) := by
  refine mx_C_of (ls0 := [some (.int (nI (n))), some (.int (nI (k))), none, none, none]) (by decide +kernel) rfl rfl (Nat.le_of_ble_eq_true rfl) rfl ?_
  refine mx_lc_1 d_Vh_choices_0 ?_
  refine mx_ls2 d_Vh_choices_1 ?_
  refine mx_in_0 d_Vh_choices_2 ?_
  refine mx_is4 d_Vh_choices_3 ?_
  refine mx_loop (N := k) (ls := fun i => [some (.int (nI (n))), some (.int (nI (k))), some (.long ((vs_cho n i))), none, some (.int (nI (i)))]) (X := fun i => (t, S, I, P, J)) (fun i hi ih => ?_) ?_
  · try dsimp only
    refine mx_il4 d_Vh_choices_5 ?_
    refine mx_il1 d_Vh_choices_7 ?_
    refine mx_icN_ge 33 d_Vh_choices_8 (by decide) (by omega) (by omega) (fun c_8 => absurd c_8 (by omega)) (fun c_8 => ?_)
    refine mx_ll2 d_Vh_choices_11 ?_
    refine mx_il0 d_Vh_choices_12 ?_
    refine mx_il4 d_Vh_choices_13 ?_
    refine mx_isubN d_Vh_choices_15 (by omega) ?_
    refine mx_i2l d_Vh_choices_16 ?_
    refine mx_lmul d_Vh_choices_17 ?_
    refine mx_il4 d_Vh_choices_18 ?_
    refine mx_in_1 d_Vh_choices_20 ?_
    refine mx_iaddN d_Vh_choices_21 ?_
    refine mx_i2l d_Vh_choices_22 ?_
    refine mx_cS2l d_Vh_choices_23 (c_divide) ok_Vh_divide ml_Vh_395 (by decide) (Nat.le_of_ble_eq_true rfl) ?_
    refine mx_ls2 d_Vh_choices_26 ?_
    refine mx_iN4 d_Vh_choices_27 ?_
    refine mx_goto 5 d_Vh_choices_30 (by decide) ?_
    have e2 : (vs_div ((vs_cho n i) * (nI (n - i)).toInt64) (nI (i + 1)).toInt64) = (vs_cho n (i + 1)) := by rfl
    refine mx_lsc (congrArg (fun z9 => ([some (.int (nI (n))), some (.int (nI (k))), some (.long (z9)), none, some (.int (nI (i + 1)))] : List (Option Value))) e2) ?_
    exact ih
  · try dsimp only
    refine mx_il4 d_Vh_choices_5 ?_
    refine mx_il1 d_Vh_choices_7 ?_
    refine mx_icN_ge 33 d_Vh_choices_8 (by decide) (by omega) (by omega) (fun c_8 => ?_) (fun c_8 => absurd c_8 (by omega))
    refine mx_ll2 d_Vh_choices_33 ?_
    exact mx_lret d_Vh_choices_34 rfl (mx_rl_of rfl)
theorem c_Vh_odds (htr : l.stackTraces = false) (hV : vh_ok S P x) (hSt : st_ok S P (x + 23)) (hSr : st_rel I (x + 23) m) {v w : Int32} : mx_C l E M_Vh_odds 7 2 12 [.ref (x), .int (v), .int (w)] (t, S, I, P, J) (mx_po (fun _ => "java/lang/IllegalArgumentException") (sp_odds m v w) (t, S, I, P, J)) := by
  obtain ⟨hV0, hVp0, hVp1, hVp2, hVp3, hVp4, hVp5, hVp7, hVp8, hVp9, hVp10, hVp11, hVp12, hVs15, hVs16, hVs68⟩ := id hV
  obtain ⟨hC0, hC1, hC2, hC3, hC4, hC5, hC6, hD1, hD2, hD3, hD4, hPe, hLo⟩ := id hSt
  obtain ⟨hPr, u0, u1, u2, u3, u4, u5, u6, u7, u8⟩ := id hSr
  obtain ⟨hA0, hA1, hA2, hA3, hA4, hA5, hA6, hA7, hB1, hB2, hB3, hB4, hB5, hB6, hB7⟩ := id hPe
  obtain ⟨r0, r1, r2, r3, r4, r5, r6, r7, r8⟩ := id hPr
  refine mx_C_of (ls0 := [some (.ref (x)), some (.int (v)), some (.int (w)), none, none, none]) (by decide +kernel) rfl rfl (Nat.le_of_ble_eq_true rfl) rfl ?_
  obtain ⟨-, -, urain, -⟩ := id hSr
  refine mx_il1 d_Vh_odds_0 ?_
  refine mx_in_0 d_Vh_odds_1 ?_
  refine mx_bip 7 d_Vh_odds_2 (by decide) ?_
  refine mx_nS3 d_Vh_odds_4 (c_needNumber htr) ok_Vh_needNumber ml_Vh_269 rfl (by decide) (by decide) (by decide) (Nat.le_of_ble_eq_true rfl) (fun hb4 t9 ht => mx_po_x ht 0 (by have hnO := vs_nn0 (n := 7) (by omega) hb4; simp_all [sp_odds]) rfl) (fun hb4 => ?_)
  have hnv : vs_isN v 8 = true := by rw [← vs_isN_le2 (n := 7) (by omega)]; exact hb4
  obtain ⟨n, hnL, rfl⟩ := vs_isN_of (by omega) hnv
  have hnc : (nI n).toNatClampNeg = n := nI_clamp (by omega)
  refine mx_il2 d_Vh_odds_7 ?_
  refine mx_in_0 d_Vh_odds_8 ?_
  refine mx_bip 8 d_Vh_odds_9 (by decide) ?_
  refine mx_nS3 d_Vh_odds_11 (c_needNumber htr) ok_Vh_needNumber ml_Vh_269 rfl (by decide) (by decide) (by decide) (Nat.le_of_ble_eq_true rfl) (fun hb11 t9 ht => mx_po_x ht 0 (by have hnO := vs_nn0 (n := 8) (by omega) hb11; simp_all [sp_odds]) rfl) (fun hb11 => ?_)
  have hnw : vs_isN w 9 = true := by rw [← vs_isN_le2 (n := 8) (by omega)]; exact hb11
  obtain ⟨k, hkL, rfl⟩ := vs_isN_of (by omega) hnw
  have hkc : (nI k).toNatClampNeg = k := nI_clamp (by omega)
  refine mx_lc_0 d_Vh_odds_14 ?_
  refine mx_ls3 d_Vh_odds_15 ?_
  refine mx_il2 d_Vh_odds_16 ?_
  refine mx_is5 d_Vh_odds_17 ?_
  refine mx_loop (N := n + 1 - k) (ls := fun j => [some (.ref (x)), some (.int (nI (n))), some (.int (nI (k))), some (.long ((vs_odL (nI 100 - m 5).toInt64 (m 5).toInt64 n k j))), none, some (.int (nI (k + j)))]) (X := fun j => (t, S, I, P, J)) (fun j hj ih => ?_) ?_
  · try dsimp only
    refine mx_il5 d_Vh_odds_19 ?_
    refine mx_il1 d_Vh_odds_21 ?_
    refine mx_icN_gt 73 d_Vh_odds_22 (by decide) (by omega) (by omega) (fun c_22 => absurd c_22 (by omega)) (fun c_22 => ?_)
    refine mx_ll3 d_Vh_odds_25 ?_
    refine mx_il1 d_Vh_odds_26 ?_
    refine mx_il5 d_Vh_odds_27 ?_
    refine mx_cS2l d_Vh_odds_29 (c_Vh_choices (n := n) (k := k + j) (by omega) (by omega)) ok_Vh_choices ml_Vh_380 (by decide) (Nat.le_of_ble_eq_true rfl) ?_
    refine mx_bip 100 d_Vh_odds_32 (by decide) ?_
    refine mx_al0 d_Vh_odds_34 ?_
    refine mx_getR d_Vh_odds_35 fl_Vh_51 (by assumption) (by assumption) ?_
    refine mx_getI d_Vh_odds_38 fl_Vh_384 (by assumption) ?_
    refine mx_isub d_Vh_odds_41 ?_
    refine mx_i2l d_Vh_odds_42 ?_
    refine mx_il5 d_Vh_odds_43 ?_
    refine mx_cS2l d_Vh_odds_45 (c_power (n := k + j) (by omega)) ok_Vh_power ml_Vh_387 (by decide) (Nat.le_of_ble_eq_true rfl) ?_
    refine mx_lmul d_Vh_odds_48 ?_
    refine mx_al0 d_Vh_odds_49 ?_
    refine mx_getR d_Vh_odds_50 fl_Vh_51 (by assumption) (by assumption) ?_
    refine mx_getI d_Vh_odds_53 fl_Vh_384 (by assumption) ?_
    refine mx_i2l d_Vh_odds_56 ?_
    refine mx_il1 d_Vh_odds_57 ?_
    refine mx_il5 d_Vh_odds_58 ?_
    refine mx_isubN d_Vh_odds_60 (by omega) ?_
    refine mx_cS2l d_Vh_odds_61 (c_power (n := n - (k + j)) (by omega)) ok_Vh_power ml_Vh_387 (by decide) (Nat.le_of_ble_eq_true rfl) ?_
    refine mx_lmul d_Vh_odds_64 ?_
    refine mx_ladd d_Vh_odds_65 ?_
    refine mx_ls3 d_Vh_odds_66 ?_
    refine mx_iN5 d_Vh_odds_67 ?_
    refine mx_goto 19 d_Vh_odds_70 (by decide) ?_
    have e3 : ((vs_odL (nI 100 - m 5).toInt64 (m 5).toInt64 n k j) + (((vs_cho (n) (k + j)) * (vs_pow (((nI (100) - (I (x + 23) 4))).toInt64) (k + j))) * (vs_pow (((I (x + 23) 4)).toInt64) (n - (k + j))))) = (vs_odL (nI 100 - m 5).toInt64 (m 5).toInt64 n k (j + 1)) := by (rw [urain]; rfl)
    refine mx_lsc (congrArg (fun z9 => ([some (.ref (x)), some (.int (nI (n))), some (.int (nI (k))), some (.long (z9)), none, some (.int (nI (k + j + 1)))] : List (Option Value))) e3) ?_
    have e5 : nI (k + j + 1) = nI (k + (j + 1)) := by rfl
    refine mx_lsc (congrArg (fun z9 => ([some (.ref (x)), some (.int (nI (n))), some (.int (nI (k))), some (.long ((vs_odL (nI 100 - m 5).toInt64 (m 5).toInt64 n k (j + 1)))), none, some (.int (z9))] : List (Option Value))) e5) ?_
    exact ih
  · try dsimp only
    refine mx_il5 d_Vh_odds_19 ?_
    refine mx_il1 d_Vh_odds_21 ?_
    refine mx_icN_gt 73 d_Vh_odds_22 (by decide) (by omega) (by omega) (fun c_22 => ?_) (fun c_22 => absurd c_22 (by omega))
    refine mx_ldc2 d_Vh_odds_73 cn_Vh_391 ?_
    refine mx_ll3 d_Vh_odds_76 ?_
    refine mx_lmul d_Vh_odds_77 ?_
    refine mx_ldc2 d_Vh_odds_78 cn_Vh_393 ?_
    refine mx_il1 d_Vh_odds_81 ?_
    refine mx_cS2l d_Vh_odds_82 (c_power (n := n) (by omega)) ok_Vh_power ml_Vh_387 (by decide) (Nat.le_of_ble_eq_true rfl) ?_
    refine mx_cS2l d_Vh_odds_85 (c_divide) ok_Vh_divide ml_Vh_395 (by decide) (Nat.le_of_ble_eq_true rfl) ?_
    refine mx_l2i d_Vh_odds_88 ?_
    exact mx_iret d_Vh_odds_89 rfl (mx_po_i (by simp only [sp_odds, hnv, hnw, hnc, hkc, Bool.and_self, if_true]; rfl))
theorem c_Mo_odds (hM : mo_ok S P mo) (hm : I (mo + 1) = m) {v w : Int32} : mx_C l E M_Mo_odds 2 0 0 [.ref (mo), .int (v), .int (w)] (t, S, I, P, J) (mx_ri (sp_odds m v w).2 (t, S, mx_up I (mo) 0 (nI (sp_odds m v w).1), P, J)) := by
  obtain ⟨hM0, hMp1, hMp2, hMp4, hMp5, hMp7, hMp14, hMp21, hMp22, hMp23, hMp24, hMp25, hMp26, hMp27, hMs1, hMs2, hMs3, hMs4, hMs5, hMs6, hMs7, hMs8, hMs9, hMs10, hMs11, hMs12, hMs13⟩ := id hM
  refine mx_C_of (ls0 := [some (.ref (mo)), some (.int (v)), some (.int (w)), none, none, none]) (by decide +kernel) rfl rfl (Nat.le_of_ble_eq_true rfl) rfl ?_
  refine mx_al0 d_Mo_odds_0 ?_
  refine mx_il1 d_Mo_odds_1 ?_
  refine mx_in_0 d_Mo_odds_2 ?_
  refine mx_bip 7 d_Mo_odds_3 (by decide) ?_
  refine mx_cS3i d_Mo_odds_5 (cm_isIn0 (x := v) (n := 7) (by omega)) ok_Mo_isIn ml_Mo_57 (by decide) (Nat.le_of_ble_eq_true rfl) ?_
  refine mx_ifB_eq 21 d_Mo_odds_8 (by decide) (fun c_8 => ?_) (fun c_8 => ?_)
  · skip
    refine mx_in_1 d_Mo_odds_21 ?_
    refine mx_goto 26 d_Mo_odds_22 (by decide) ?_
    refine mx_putI d_Mo_odds_26 fl_Mo_54 (by assumption) ?_
    refine mx_al0 d_Mo_odds_29 ?_
    refine mx_getI d_Mo_odds_30 fl_Mo_54 (by assumption) ?_
    refine mx_ti (y := nI (1)) (vs_upx) ?_
    refine mx_if_le 38 d_Mo_odds_33 (by decide) (fun c_33 => absurd c_33 (by decide)) (fun c_33 => ?_)
    refine mx_in_0 d_Mo_odds_36 ?_
    exact mx_iret d_Mo_odds_37 rfl (mx_ri_of2 (by simp [sp_odds, *]) (by simp [sp_odds, *]))
  · skip
    obtain ⟨n, hnL, rfl⟩ := vs_isN_of (by omega) c_8
    have hnc : (nI n).toNatClampNeg = n := nI_clamp (by omega)
    refine mx_il2 d_Mo_odds_11 ?_
    refine mx_in_0 d_Mo_odds_12 ?_
    refine mx_bip 8 d_Mo_odds_13 (by decide) ?_
    refine mx_cS3i d_Mo_odds_15 (cm_isIn0 (x := w) (n := 8) (by omega)) ok_Mo_isIn ml_Mo_57 (by decide) (Nat.le_of_ble_eq_true rfl) ?_
    refine mx_ifB_ne 25 d_Mo_odds_18 (by decide) (fun c_18 => ?_) (fun c_18 => ?_)
    · skip
      obtain ⟨k, hkL, rfl⟩ := vs_isN_of (by omega) c_18
      have hkc : (nI k).toNatClampNeg = k := nI_clamp (by omega)
      obtain ⟨K, hK, hK2⟩ : ∃ K, nI 1 <<< (nI n &&& 31) = nI K ∧ K = 2 ^ n := ⟨_, vs_shl1 (by omega), rfl⟩
      have hK8 := vs_two8 (n := n) (by omega)
      rw [← hK2] at hK8
      refine mx_in_0 d_Mo_odds_25 ?_
      refine mx_putI d_Mo_odds_26 fl_Mo_54 (by assumption) ?_
      refine mx_al0 d_Mo_odds_29 ?_
      refine mx_getI d_Mo_odds_30 fl_Mo_54 (by assumption) ?_
      refine mx_ti (y := nI (0)) (vs_upx) ?_
      refine mx_if_le 38 d_Mo_odds_33 (by decide) (fun c_33 => ?_) (fun c_33 => absurd (by decide) c_33)
      refine mx_lc_0 d_Mo_odds_38 ?_
      refine mx_ls3 d_Mo_odds_39 ?_
      refine mx_in_0 d_Mo_odds_40 ?_
      refine mx_is5 d_Mo_odds_41 ?_
      refine mx_loop (N := K) (ls := fun z => [some (.ref (mo)), some (.int (nI (n))), some (.int (nI (k))), some (.long ((vs_od2 (nI 100 - m 5).toInt64 (m 5).toInt64 n k z))), none, some (.int (nI (z)))]) (X := fun z => (t, S, (mx_up I (mo) 0 (nI (0))), P, J)) (fun z hz ih => ?_) ?_
      · try dsimp only
        refine mx_il5 d_Mo_odds_43 ?_
        refine mx_in_1 d_Mo_odds_45 ?_
        refine mx_il1 d_Mo_odds_46 ?_
        refine mx_ishl d_Mo_odds_47 ?_
        refine mx_ti (y := nI (K)) (hK) ?_
        refine mx_icN_ge 103 d_Mo_odds_48 (by decide) (by omega) (by omega) (fun c_48 => absurd c_48 (by omega)) (fun c_48 => ?_)
        refine mx_il5 d_Mo_odds_51 ?_
        refine mx_cS1i d_Mo_odds_53 (c_Mo_bitsN (k := z)) ok_Mo_bits ml_Mo_303 (by decide) (Nat.le_of_ble_eq_true rfl) ?_
        have hpn : vs_pc z ≤ n := vs_pcn (by omega) (by omega)
        refine mx_il2 d_Mo_odds_56 ?_
        refine mx_icN_lt 97 d_Mo_odds_57 (by decide) (by omega) (by omega) (fun c_57 => ?_) (fun c_57 => ?_)
        · skip
          refine mx_iN5 d_Mo_odds_97 ?_
          refine mx_goto 43 d_Mo_odds_100 (by decide) ?_
          have e3 : (vs_od2 (nI 100 - m 5).toInt64 (m 5).toInt64 n k z) = (vs_od2 (nI 100 - m 5).toInt64 (m 5).toInt64 n k (z + 1)) := by first | (rw [vs_od2_s, if_neg (by omega)]; done) | (rw [vs_od2_s, if_pos (by omega)]; done)
          refine mx_lsc (congrArg (fun z9 => ([some (.ref (mo)), some (.int (nI (n))), some (.int (nI (k))), some (.long (z9)), none, some (.int (nI (z + 1)))] : List (Option Value))) e3) ?_
          exact ih
        · skip
          refine mx_ll3 d_Mo_odds_60 ?_
          refine mx_bip 100 d_Mo_odds_61 (by decide) ?_
          refine mx_al0 d_Mo_odds_63 ?_
          refine mx_getR d_Mo_odds_64 fl_Mo_7 (by assumption) (by assumption) ?_
          refine mx_in_5 d_Mo_odds_67 ?_
          refine mx_iald d_Mo_odds_68 (by assumption) (nI_inb (by omega) (by omega)) ?_
          refine mx_ti (y := (mx_up I (mo) 0 (nI (0))) (mo + 1) (5)) (by rw [nI_clamp (by omega)]) ?_
          refine mx_ti (y := (m 5)) (congrFun (vs_hm hm) 5) ?_
          refine mx_isub d_Mo_odds_69 ?_
          refine mx_il5 d_Mo_odds_70 ?_
          refine mx_cS1i d_Mo_odds_72 (c_Mo_bitsN (k := z)) ok_Mo_bits ml_Mo_303 (by decide) (Nat.le_of_ble_eq_true rfl) ?_
          refine mx_cS2l d_Mo_odds_75 (c_Mo_power (n := vs_pc (z)) (by omega)) ok_Mo_power ml_Mo_409 (by decide) (Nat.le_of_ble_eq_true rfl) ?_
          refine mx_al0 d_Mo_odds_78 ?_
          refine mx_getR d_Mo_odds_79 fl_Mo_7 (by assumption) (by assumption) ?_
          refine mx_in_5 d_Mo_odds_82 ?_
          refine mx_iald d_Mo_odds_83 (by assumption) (nI_inb (by omega) (by omega)) ?_
          refine mx_ti (y := (mx_up I (mo) 0 (nI (0))) (mo + 1) (5)) (by rw [nI_clamp (by omega)]) ?_
          refine mx_ti (y := (m 5)) (congrFun (vs_hm hm) 5) ?_
          refine mx_il1 d_Mo_odds_84 ?_
          refine mx_il5 d_Mo_odds_85 ?_
          refine mx_cS1i d_Mo_odds_87 (c_Mo_bitsN (k := z)) ok_Mo_bits ml_Mo_303 (by decide) (Nat.le_of_ble_eq_true rfl) ?_
          refine mx_isubN d_Mo_odds_90 (by omega) ?_
          refine mx_cS2l d_Mo_odds_91 (c_Mo_power (n := n - (vs_pc (z))) (by omega)) ok_Mo_power ml_Mo_409 (by decide) (Nat.le_of_ble_eq_true rfl) ?_
          refine mx_lmul d_Mo_odds_94 ?_
          refine mx_ladd d_Mo_odds_95 ?_
          refine mx_ls3 d_Mo_odds_96 ?_
          refine mx_iN5 d_Mo_odds_97 ?_
          refine mx_goto 43 d_Mo_odds_100 (by decide) ?_
          have e3 : ((vs_od2 (nI 100 - m 5).toInt64 (m 5).toInt64 n k z) + ((vs_pow ((nI (100) - (m 5))).toInt64 (vs_pc (z))) * (vs_pow ((m 5)).toInt64 (n - (vs_pc (z)))))) = (vs_od2 (nI 100 - m 5).toInt64 (m 5).toInt64 n k (z + 1)) := by first | (rw [vs_od2_s, if_neg (by omega)]; done) | (rw [vs_od2_s, if_pos (by omega)]; done)
          refine mx_lsc (congrArg (fun z9 => ([some (.ref (mo)), some (.int (nI (n))), some (.int (nI (k))), some (.long (z9)), none, some (.int (nI (z + 1)))] : List (Option Value))) e3) ?_
          exact ih
      · try dsimp only
        refine mx_il5 d_Mo_odds_43 ?_
        refine mx_in_1 d_Mo_odds_45 ?_
        refine mx_il1 d_Mo_odds_46 ?_
        refine mx_ishl d_Mo_odds_47 ?_
        refine mx_ti (y := nI (K)) (hK) ?_
        refine mx_icN_ge 103 d_Mo_odds_48 (by decide) (by omega) (by omega) (fun c_48 => ?_) (fun c_48 => absurd c_48 (by omega))
        refine mx_ldc2 d_Mo_odds_103 cn_Mo_413 ?_
        refine mx_ll3 d_Mo_odds_106 ?_
        refine mx_lmul d_Mo_odds_107 ?_
        refine mx_bip 100 d_Mo_odds_108 (by decide) ?_
        refine mx_il1 d_Mo_odds_110 ?_
        refine mx_cS2l d_Mo_odds_111 (c_Mo_power (n := n) (by omega)) ok_Mo_power ml_Mo_409 (by decide) (Nat.le_of_ble_eq_true rfl) ?_
        refine mx_ldiv d_Mo_odds_114 (by exact vs_pow0 (by omega)) ?_
        refine mx_l2i d_Mo_odds_115 ?_
        exact mx_iret d_Mo_odds_116 rfl (mx_ri_of2 (by simp only [sp_odds, c_8, c_18, hnc, hkc, Bool.and_self, if_true]; rw [hK2, vs_od_eq _ _ (by omega), vs_odV, vs_div, if_neg (vs_pow0 (by omega))]; rfl) (by simp [sp_odds, *]))
    · skip
      refine mx_in_1 d_Mo_odds_21 ?_
      refine mx_goto 26 d_Mo_odds_22 (by decide) ?_
      refine mx_putI d_Mo_odds_26 fl_Mo_54 (by assumption) ?_
      refine mx_al0 d_Mo_odds_29 ?_
      refine mx_getI d_Mo_odds_30 fl_Mo_54 (by assumption) ?_
      refine mx_ti (y := nI (1)) (vs_upx) ?_
      refine mx_if_le 38 d_Mo_odds_33 (by decide) (fun c_33 => absurd c_33 (by decide)) (fun c_33 => ?_)
      refine mx_in_0 d_Mo_odds_36 ?_
      exact mx_iret d_Mo_odds_37 rfl (mx_ri_of2 (by simp [sp_odds, *]) (by simp [sp_odds, *]))
end V30
