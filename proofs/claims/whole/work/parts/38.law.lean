/-! THE LAW AT WORK: its code on a stack -/
def lw_join (w a b : Int32) : Int32 := if w = nI 6 then bI (decide (a < b)) else if w = nI 7 then bI (decide (b < a)) else if w = nI 8 then a + b else if w = nI 34 then a &&& b else a ||| b
def updI (f : Nat → Int32) (k : Nat) (v : Int32) : Nat → Int32 := fun j => if j = k then v else f j
abbrev lw_psh (w : Int32) : Prop := 0 ≤ w ∨ (w ≤ -10 ∧ -18 ≤ w)
def lw_val (w : Int32) (fc : Nat → Int32) : Int32 := if 0 ≤ w then w else fc ((-w - nI 10).toNatClampNeg)
def lw_step (w : Int32) (fc : Nat → Int32) (z : (Nat → Int32) × Nat) : (Nat → Int32) × Nat :=
  if w = -35 then (updI z.1 (z.2 - 1) (nI 1 - z.1 (z.2 - 1)), z.2)
  else if lw_psh w then (updI z.1 z.2 (lw_val w fc), z.2 + 1)
  else (updI z.1 (z.2 - 1 - 1) (lw_join (-w) (z.1 (z.2 - 1 - 1)) (z.1 (z.2 - 1))), z.2 - 1)
/-- the stack is deep enough, and not too deep -/
def lw_fit (w : Int32) (d : Nat) : Prop := (w = -35 → 1 ≤ d) ∧ (¬ w = -35 → lw_psh w → d < 64) ∧ (¬ w = -35 → ¬ lw_psh w → 2 ≤ d) ∧ d ≤ 64
def lw_run (cs fc : Nat → Int32) (s : Nat) (f : Nat → Int32) (n : Nat) : (Nat → Int32) × Nat := vf n (fun i z => lw_step (cs (s + i)) fc z) (f, 0)
theorem lw_run_s (cs fc : Nat → Int32) (s : Nat) (f : Nat → Int32) (n : Nat) : lw_run cs fc s f (n + 1) = lw_step (cs (s + n)) fc (lw_run cs fc s f n) := rfl
/-- one row set aside -/
def vs_rw (I : mx_I) (a : Nat) (f : Nat → Int32) : mx_I := fun c => if c = a then f else I c
theorem vs_rw_id (I : mx_I) (a : Nat) : vs_rw I a (I a) = I := by
  funext c; unfold vs_rw
  by_cases h : c = a
  · subst h; rw [if_pos rfl]
  · rw [if_neg h]
theorem vs_rw_up (I : mx_I) (a : Nat) (f : Nat → Int32) (k : Nat) (v : Int32) : mx_up (vs_rw I a f) a k v = vs_rw I a (updI f k v) := by
  funext c j
  unfold mx_up vs_rw updI
  by_cases h : c = a
  · subst h; by_cases h2 : j = k <;> simp [h2]
  · simp [h]
theorem vs_rw_at (I : mx_I) (a : Nat) (f : Nat → Int32) : vs_rw I a f a = f := if_pos rfl
theorem vs_rw_ne {I : mx_I} {a c : Nat} {f : Nat → Int32} (h : c ≠ a) : vs_rw I a f c = I c := if_neg h
/-- lines, kinds, amounts, where each line's code ends, the code: where line j begins -/
def lw_from (e : Nat → Nat) (j : Nat) : Nat := if j = 0 then 0 else e (j - 1)
def la_ok (S : mx_S) (P : mx_P) (la n z : Nat) : Prop := S la = some (0, 3) ∧ P la 1 = some (la + 1) ∧ P la 2 = some (la + 2) ∧ P la 3 = some (la + 3) ∧ P la 4 = some (la + 4) ∧ P la 5 = some (la + 5) ∧ S (la + 1) = some (1, n) ∧ S (la + 2) = some (1, n) ∧ S (la + 3) = some (1, n) ∧ S (la + 4) = some (1, z) ∧ S (la + 5) = some (1, 64) ∧ n ≤ 12 ∧ z ≤ 400
/-- the law at la: n lines of kinds kd, amounts am, ends e, and the code cs of z words -/
def la_rel (I : mx_I) (la n z : Nat) (L : Int32) (kd am e : Nat → Nat) (cs : Nat → Int32) : Prop := I la 0 = L ∧ (L = nI n ∨ (n = 0 ∧ L = -1)) ∧ (∀ j, j < n → kd j < 64 ∧ am j < 100 ∧ I (la + 1) j = nI (kd j) ∧ I (la + 2) j = nI (am j) ∧ I (la + 3) j = nI (e j) ∧ lw_from e j ≤ e j ∧ e j ≤ z) ∧ ∀ k, k < z → I (la + 4) k = cs k
theorem ld_in {L : Int32} {n j : Nat} (h : L = nI n ∨ (n = 0 ∧ L = -1)) (hn : n ≤ 12) (hj : j < n) : ¬ L ≤ nI j := by
  rcases h with rfl | ⟨h1, -⟩
  · exact nI_ge hj (by omega)
  · omega
theorem ld_out {L : Int32} {n : Nat} (h : L = nI n ∨ (n = 0 ∧ L = -1)) : L ≤ nI n := by
  rcases h with rfl | ⟨rfl, rfl⟩
  · exact Int32.le_refl _
  · decide
/-- what the code of each line comes to with these facts, whatever lay on the stack -/
def lw_sem (n : Nat) (e : Nat → Nat) (cs fc : Nat → Int32) (hv : Nat → Bool) : Prop := ∀ j, j < n → (∀ f i, i < e j - lw_from e j → lw_fit (cs (lw_from e j + i)) (lw_run cs fc (lw_from e j) f i).2) ∧ (lw_from e j = e j → hv j = true) ∧ (lw_from e j < e j → ∀ f, decide (¬ (lw_run cs fc (lw_from e j) f (e j - lw_from e j)).1 0 = 0) = hv j)
def lw_adm (n : Nat) (kd : Nat → Nat) (hv : Nat → Bool) (mk : Bool) : Bool := vs_any (fun j => decide (kd j = 31) && hv j) n || (!(vs_any (fun j => decide (kd j = 31)) n) && mk)
def lw_gl (kd am : Nat → Nat) (hv : Nat → Bool) (n : Nat) : Int32 := vf n (fun j s => if ¬ kd j = 31 ∧ hv j = true then s + (if kd j = 29 then nI (am j) else -nI (am j)) else s) (nI 0)
theorem lw_gl_s (kd am : Nat → Nat) (hv : Nat → Bool) (n : Nat) : lw_gl kd am hv (n + 1) = if ¬ kd n = 31 ∧ hv n = true then lw_gl kd am hv n + (if kd n = 29 then nI (am n) else -nI (am n)) else lw_gl kd am hv n := rfl
theorem lw_neg10 {w : Int32} (h1 : ¬ 0 ≤ w) (h2 : w ≤ -10) (h3 : -18 ≤ w) : ∃ k, k < 9 ∧ -w - nI 10 = nI k := by
  rw [Int32.le_iff_toInt_le] at h2 h3
  have e1 : (-10 : Int32).toInt = -10 := by decide
  have e2 : (-18 : Int32).toInt = -18 := by decide
  rw [e1] at h2; rw [e2] at h3
  have key : ∀ k : Nat, k < 9 → w.toInt = -10 - (k : Int) → -w - nI 10 = nI k := fun k hk he => by
    have : w = -(nI (10 + k)) := by
      apply Int32.toInt_inj.mp
      rw [he]
      exact (by decide +kernel : ∀ k : Nat, k < 9 → (-10 - (k : Int)) = (-(nI (10 + k))).toInt) k hk
    rw [this, Int32.neg_neg, ← nI_add, Int32.add_comm, Int32.add_sub_cancel]
  exact ⟨(-10 - w.toInt).toNat, by omega, key _ (by omega) (by omega)⟩
theorem nI_dec {d : Nat} (h : 1 ≤ d) : nI d + -1 = nI (d - 1) := by
  rw [← nI_sub h, Int32.sub_eq_add_neg]; rfl
theorem la_rel.congr {I K : mx_I} {la n z : Nat} {L : Int32} {kd am e : Nat → Nat} {cs : Nat → Int32} (h : la_rel I la n z L kd am e cs) (e0 : ∀ c, la ≤ c → c < la + 5 → K c = I c) : la_rel K la n z L kd am e cs := by
  unfold la_rel
  rw [e0 la (by omega) (by omega), e0 (la + 1) (by omega) (by omega), e0 (la + 2) (by omega) (by omega), e0 (la + 3) (by omega) (by omega), e0 (la + 4) (by omega) (by omega)]
  exact h
section AD38
variable {l : Launch} {E : mx_Env} {t : Nat} {S : mx_S} {I : mx_I} {P : mx_P} {J : mx_G} {m : Nat → Int32} {la n z fa j : Nat} {L : Int32} {kd am e : Nat → Nat} {cs fc : Nat → Int32} {hv : Nat → Bool}
theorem c_La_joined {w a b : Int32} : mx_C l E M_La_joined 0 0 0 [.int (w), .int (a), .int (b)] (t, S, I, P, J) (mx_ri (lw_join w a b) (t, S, I, P, J)) := by
  refine mx_C_of (ls0 := [some (.int (w)), some (.int (a)), some (.int (b))]) (by decide +kernel) rfl rfl (Nat.le_of_ble_eq_true rfl) rfl ?_
  refine mx_il0 d_La_joined_0 ?_
  by_cases k_6 : w = nI 6
  · refine mx_lookup (off := 47) 48 d_La_joined_1 (by decide) (by rw [k_6]; decide) (by decide) ?_
    refine mx_il1 d_La_joined_48 ?_
    refine mx_il2 d_La_joined_49 ?_
    refine mx_icmp_ge 57 d_La_joined_50 (by decide) (fun c_50 => ?_) (fun c_50 => ?_)
    · skip
      refine mx_in_0 d_La_joined_57 ?_
      exact mx_iret d_La_joined_58 rfl (mx_ri_of (by unfold lw_join; rw [if_pos k_6, decide_eq_false (Int32.not_lt.mpr c_50)]; rfl))
    · skip
      refine mx_in_1 d_La_joined_53 ?_
      refine mx_goto 58 d_La_joined_54 (by decide) ?_
      exact mx_iret d_La_joined_58 rfl (mx_ri_of (by unfold lw_join; rw [if_pos k_6, decide_eq_true (Int32.not_le.mp c_50)]; rfl))
  by_cases k_7 : w = nI 7
  · refine mx_lookup (off := 58) 59 d_La_joined_1 (by decide) (by rw [k_7]; decide) (by decide) ?_
    refine mx_il1 d_La_joined_59 ?_
    refine mx_il2 d_La_joined_60 ?_
    refine mx_icmp_le 68 d_La_joined_61 (by decide) (fun c_61 => ?_) (fun c_61 => ?_)
    · skip
      refine mx_in_0 d_La_joined_68 ?_
      exact mx_iret d_La_joined_69 rfl (mx_ri_of (by unfold lw_join; rw [if_neg k_6, if_pos k_7, decide_eq_false (Int32.not_lt.mpr c_61)]; rfl))
    · skip
      refine mx_in_1 d_La_joined_64 ?_
      refine mx_goto 69 d_La_joined_65 (by decide) ?_
      exact mx_iret d_La_joined_69 rfl (mx_ri_of (by unfold lw_join; rw [if_neg k_6, if_pos k_7, decide_eq_true (Int32.not_le.mp c_61)]; rfl))
  by_cases k_8 : w = nI 8
  · refine mx_lookup (off := 43) 44 d_La_joined_1 (by decide) (by rw [k_8]; decide) (by decide) ?_
    refine mx_il1 d_La_joined_44 ?_
    refine mx_il2 d_La_joined_45 ?_
    refine mx_iadd d_La_joined_46 ?_
    exact mx_iret d_La_joined_47 rfl (mx_ri_of (by unfold lw_join; rw [if_neg k_6, if_neg k_7, if_pos k_8]))
  by_cases k_34 : w = nI 34
  · refine mx_lookup (off := 69) 70 d_La_joined_1 (by decide) (by rw [k_34]; decide) (by decide) ?_
    refine mx_il1 d_La_joined_70 ?_
    refine mx_il2 d_La_joined_71 ?_
    refine mx_iand d_La_joined_72 ?_
    exact mx_iret d_La_joined_73 rfl (mx_ri_of (by unfold lw_join; rw [if_neg k_6, if_neg k_7, if_neg k_8, if_pos k_34]))
  refine mx_lookup (off := 73) 74 d_La_joined_1 (by decide) ((lv_osw k_6 (by decide)).trans ((lv_osw k_7 (by decide)).trans ((lv_osw k_8 (by decide)).trans ((lv_osw k_34 (by decide)).trans (rfl))))) (by decide) ?_
  refine mx_il1 d_La_joined_74 ?_
  refine mx_il2 d_La_joined_75 ?_
  refine mx_ior d_La_joined_76 ?_
  exact mx_iret d_La_joined_77 rfl (mx_ri_of (by unfold lw_join; rw [if_neg k_6, if_neg k_7, if_neg k_8, if_neg k_34]))
theorem c_La_holds (hLa : la_ok S P la n z) (hR : la_rel I la n z L kd am e cs) (hsem : lw_sem n e cs fc hv) (hSf : S fa = some (1, 9)) (hF : ∀ k, k < 9 → I fa k = fc k) (hfa : fa < la ∨ la + 6 ≤ fa) (hj : j < n) : mx_C l E M_La_holds 1 0 0 [.ref (la), .int (nI (j)), .ref (fa)] (t, S, I, P, J) (mx_sR (some (.int (bI (hv j)))) t S P J (fun K => mx_off (fun c => c = la + 5) I K)) := by
  obtain ⟨hL0, hL1, hL2, hL3, hL4, hL5, hL6, hL7, hL8, hL9, hL10, hL11, hL12⟩ := id hLa
  have q1 := (hR.2.2.1 j hj).2.2.2.2.2.1
  have q2 := (hR.2.2.1 j hj).2.2.2.2.2.2
  refine mx_C_of (ls0 := [some (.ref (la)), some (.int (nI (j))), some (.ref (fa)), none, none, none, none, none]) (by decide +kernel) rfl rfl (Nat.le_of_ble_eq_true rfl) rfl ?_
  refine mx_il1 d_La_holds_0 ?_
  refine mx_if_ne 8 d_La_holds_1 (by decide) (fun c_1 => ?_) (fun c_1 => ?_)
  · skip
    have j0 := nI_gt c_1
    refine mx_al0 d_La_holds_8 ?_
    refine mx_getR d_La_holds_9 fl_La_25 (by assumption) (by assumption) ?_
    refine mx_il1 d_La_holds_12 ?_
    refine mx_in_1 d_La_holds_13 ?_
    refine mx_isubN d_La_holds_14 (by omega) ?_
    refine mx_cSN2i d_La_holds_15 (c_get (k := j - 1) (by assumption) (by omega) (by omega)) ok_Vh_get ml_La_31 (by decide) (Nat.le_of_ble_eq_true rfl) ?_
    refine mx_ti (y := nI (lw_from e j)) ((hR.2.2.1 (j - 1) (by omega)).2.2.2.2.1.trans (by rw [lw_from, if_neg (by omega)])) ?_
    refine mx_is3 d_La_holds_18 ?_
    refine mx_al0 d_La_holds_19 ?_
    refine mx_getR d_La_holds_20 fl_La_25 (by assumption) (by assumption) ?_
    refine mx_il1 d_La_holds_23 ?_
    refine mx_cSN2i d_La_holds_24 (c_get (k := j) (by assumption) (by omega) (by omega)) ok_Vh_get ml_La_31 (by decide) (Nat.le_of_ble_eq_true rfl) ?_
    refine mx_ti (y := nI (e j)) ((hR.2.2.1 j hj).2.2.2.2.1) ?_
    refine mx_is4 d_La_holds_27 ?_
    refine mx_in_0 d_La_holds_29 ?_
    refine mx_is5 d_La_holds_30 ?_
    refine mx_il3 d_La_holds_32 ?_
    have e0 : (t, S, I, P, J) = (t, S, vs_rw I (la + 5) (I (la + 5)), P, J) := by rw [vs_rw_id]
    rw [e0]
    refine mx_is6 d_La_holds_33 ?_
    refine mx_loop (N := e j - lw_from e j) (ls := fun i => [some (.ref (la)), some (.int (nI (j))), some (.ref (fa)), some (.int (nI (lw_from e j))), some (.int (nI (e j))), some (.int (nI ((lw_run cs fc (lw_from e j) (I (la + 5)) i).2))), some (.int (nI (lw_from e j + i))), none]) (X := fun i => (t, S, (vs_rw I (la + 5) (lw_run cs fc (lw_from e j) (I (la + 5)) i).1), P, J)) (fun i hi ih => ?_) ?_
    · try dsimp only
      refine mx_il6 d_La_holds_35 ?_
      refine mx_il4 d_La_holds_37 ?_
      refine mx_icN_ge 187 d_La_holds_39 (by decide) (by omega) (by omega) (fun c_39 => absurd c_39 (by omega)) (fun c_39 => ?_)
      have hfit : lw_fit (cs (lw_from e j + i)) (lw_run cs fc (lw_from e j) (I (la + 5)) i).2 := (hsem j hj).1 (I (la + 5)) i hi
      have hd64 := hfit.2.2.2
      refine mx_al0 d_La_holds_42 ?_
      refine mx_getR d_La_holds_43 fl_La_28 (by assumption) (by assumption) ?_
      refine mx_il6 d_La_holds_46 ?_
      refine mx_cSN2i d_La_holds_48 (c_get (k := lw_from e j + i) (by assumption) (by omega) (by omega)) ok_Vh_get ml_La_31 (by decide) (Nat.le_of_ble_eq_true rfl) ?_
      refine mx_ti (y := (cs (lw_from e j + i))) ((by rw [vs_rw_ne (by omega)]; exact hR.2.2.2 _ (by omega))) ?_
      refine mx_is7 d_La_holds_51 ?_
      refine mx_il7 d_La_holds_53 ?_
      refine mx_bipush (v := -35) d_La_holds_55 (by decide) ?_
      refine mx_icmp_ne 87 d_La_holds_57 (by decide) (fun c_57 => ?_) (fun c_57 => ?_)
      · skip
        refine mx_il7 d_La_holds_87 ?_
        refine mx_if_ge 106 d_La_holds_89 (by decide) (fun c_89 => ?_) (fun c_89 => ?_)
        · skip
          have hp : lw_psh (cs (lw_from e j + i)) := Or.inl c_89
          have d2 := hfit.2.1 c_57 hp
          have k0 : lw_step (cs (lw_from e j + i)) fc (lw_run cs fc (lw_from e j) (I (la + 5)) i) = (updI (lw_run cs fc (lw_from e j) (I (la + 5)) i).1 (lw_run cs fc (lw_from e j) (I (la + 5)) i).2 (cs (lw_from e j + i)), (lw_run cs fc (lw_from e j) (I (la + 5)) i).2 + 1) := by rw [lw_step, if_neg c_57, if_pos hp, lw_val, if_pos c_89]
          refine mx_al0 d_La_holds_106 ?_
          refine mx_getR d_La_holds_107 fl_La_9 (by assumption) (by assumption) ?_
          refine mx_il5 d_La_holds_110 ?_
          refine mx_il7 d_La_holds_112 ?_
          refine mx_if_lt 122 d_La_holds_114 (by decide) (fun c_114 => absurd c_114 (Int32.not_lt.mpr c_89)) (fun c_114 => ?_)
          refine mx_il7 d_La_holds_117 ?_
          refine mx_goto 132 d_La_holds_119 (by decide) ?_
          refine mx_ti (y := ((cs (lw_from e j + i)))) (rfl) ?_
          refine mx_cSN3v d_La_holds_132 (c_put (k := (lw_run cs fc (lw_from e j) (I (la + 5)) i).2) (by assumption) (by omega) (by omega)) ok_Vh_put ml_La_39 (by decide) (Nat.le_of_ble_eq_true rfl) ?_
          refine mx_iN5 d_La_holds_135 ?_
          refine mx_goto 181 d_La_holds_138 (by decide) ?_
          refine mx_iN6 d_La_holds_181 ?_
          refine mx_goto 35 d_La_holds_184 (by decide) ?_
          refine mx_dn7 ?_
          have e5 : nI ((lw_run cs fc (lw_from e j) (I (la + 5)) i).2 + 1) = nI ((lw_run cs fc (lw_from e j) (I (la + 5)) (i + 1)).2) := by rw [lw_run_s, k0]
          refine mx_lsc (congrArg (fun z9 => ([some (.ref (la)), some (.int (nI (j))), some (.ref (fa)), some (.int (nI (lw_from e j))), some (.int (nI (e j))), some (.int (z9)), some (.int (nI (lw_from e j + i + 1))), none] : List (Option Value))) e5) ?_
          have e6 : nI (lw_from e j + i + 1) = nI (lw_from e j + (i + 1)) := by rfl
          refine mx_lsc (congrArg (fun z9 => ([some (.ref (la)), some (.int (nI (j))), some (.ref (fa)), some (.int (nI (lw_from e j))), some (.int (nI (e j))), some (.int (nI ((lw_run cs fc (lw_from e j) (I (la + 5)) (i + 1)).2))), some (.int (z9)), none] : List (Option Value))) e6) ?_
          have eh2 : (mx_up (vs_rw I (la + 5) (lw_run cs fc (lw_from e j) (I (la + 5)) i).1) (la + 5) ((lw_run cs fc (lw_from e j) (I (la + 5)) i).2) (((cs (lw_from e j + i))))) = (vs_rw I (la + 5) (lw_run cs fc (lw_from e j) (I (la + 5)) (i + 1)).1) := by rw [vs_rw_up, lw_run_s, k0]
          rw [eh2]
          exact ih
        · skip
          refine mx_il7 d_La_holds_92 ?_
          refine mx_bipush (v := -10) d_La_holds_94 (by decide) ?_
          refine mx_icmp_gt 141 d_La_holds_96 (by decide) (fun c_96 => ?_) (fun c_96 => ?_)
          · skip
            have hp : ¬ lw_psh (cs (lw_from e j + i)) := fun q => q.elim c_89 (fun q => absurd c_96 (Int32.not_lt.mpr q.1))
            have d3 := hfit.2.2.1 c_57 hp
            have k0 : lw_step (cs (lw_from e j + i)) fc (lw_run cs fc (lw_from e j) (I (la + 5)) i) = (updI (lw_run cs fc (lw_from e j) (I (la + 5)) i).1 ((lw_run cs fc (lw_from e j) (I (la + 5)) i).2 - 1 - 1) (lw_join (-(cs (lw_from e j + i))) ((lw_run cs fc (lw_from e j) (I (la + 5)) i).1 ((lw_run cs fc (lw_from e j) (I (la + 5)) i).2 - 1 - 1)) ((lw_run cs fc (lw_from e j) (I (la + 5)) i).1 ((lw_run cs fc (lw_from e j) (I (la + 5)) i).2 - 1))), (lw_run cs fc (lw_from e j) (I (la + 5)) i).2 - 1) := by rw [lw_step, if_neg c_57, if_neg hp]
            refine mx_ii5 (v := -1) d_La_holds_141 (by decide) ?_
            refine mx_lsc (congrArg (fun z9 => ([some (.ref (la)), some (.int (nI (j))), some (.ref (fa)), some (.int (nI (lw_from e j))), some (.int (nI (e j))), some (.int (z9)), some (.int (nI (lw_from e j + i))), some (.int ((cs (lw_from e j + i))))] : List (Option Value))) (nI_dec (by omega))) ?_
            refine mx_al0 d_La_holds_144 ?_
            refine mx_getR d_La_holds_145 fl_La_9 (by assumption) (by assumption) ?_
            refine mx_il5 d_La_holds_148 ?_
            refine mx_in_1 d_La_holds_150 ?_
            refine mx_isubN d_La_holds_151 (by omega) ?_
            refine mx_il7 d_La_holds_152 ?_
            refine mx_ineg d_La_holds_154 ?_
            refine mx_al0 d_La_holds_155 ?_
            refine mx_getR d_La_holds_156 fl_La_9 (by assumption) (by assumption) ?_
            refine mx_il5 d_La_holds_159 ?_
            refine mx_in_1 d_La_holds_161 ?_
            refine mx_isubN d_La_holds_162 (by omega) ?_
            refine mx_cSN2i d_La_holds_163 (c_get (k := ((lw_run cs fc (lw_from e j) (I (la + 5)) i).2 - 1) - 1) (by assumption) (by omega) (by omega)) ok_Vh_get ml_La_31 (by decide) (Nat.le_of_ble_eq_true rfl) ?_
            refine mx_ti (y := ((lw_run cs fc (lw_from e j) (I (la + 5)) i).1 ((lw_run cs fc (lw_from e j) (I (la + 5)) i).2 - 1 - 1))) ((by rw [vs_rw_at])) ?_
            refine mx_al0 d_La_holds_166 ?_
            refine mx_getR d_La_holds_167 fl_La_9 (by assumption) (by assumption) ?_
            refine mx_il5 d_La_holds_170 ?_
            refine mx_cSN2i d_La_holds_172 (c_get (k := (lw_run cs fc (lw_from e j) (I (la + 5)) i).2 - 1) (by assumption) (by omega) (by omega)) ok_Vh_get ml_La_31 (by decide) (Nat.le_of_ble_eq_true rfl) ?_
            refine mx_ti (y := ((lw_run cs fc (lw_from e j) (I (la + 5)) i).1 ((lw_run cs fc (lw_from e j) (I (la + 5)) i).2 - 1))) ((by rw [vs_rw_at])) ?_
            refine mx_cS3i d_La_holds_175 (c_La_joined) ok_La_joined ml_La_43 (by decide) (Nat.le_of_ble_eq_true rfl) ?_
            refine mx_cSN3v d_La_holds_178 (c_put (k := ((lw_run cs fc (lw_from e j) (I (la + 5)) i).2 - 1) - 1) (by assumption) (by omega) (by omega)) ok_Vh_put ml_La_39 (by decide) (Nat.le_of_ble_eq_true rfl) ?_
            refine mx_iN6 d_La_holds_181 ?_
            refine mx_goto 35 d_La_holds_184 (by decide) ?_
            refine mx_dn7 ?_
            have e5 : nI ((lw_run cs fc (lw_from e j) (I (la + 5)) i).2 - 1) = nI ((lw_run cs fc (lw_from e j) (I (la + 5)) (i + 1)).2) := by rw [lw_run_s, k0]
            refine mx_lsc (congrArg (fun z9 => ([some (.ref (la)), some (.int (nI (j))), some (.ref (fa)), some (.int (nI (lw_from e j))), some (.int (nI (e j))), some (.int (z9)), some (.int (nI (lw_from e j + i + 1))), none] : List (Option Value))) e5) ?_
            have e6 : nI (lw_from e j + i + 1) = nI (lw_from e j + (i + 1)) := by rfl
            refine mx_lsc (congrArg (fun z9 => ([some (.ref (la)), some (.int (nI (j))), some (.ref (fa)), some (.int (nI (lw_from e j))), some (.int (nI (e j))), some (.int (nI ((lw_run cs fc (lw_from e j) (I (la + 5)) (i + 1)).2))), some (.int (z9)), none] : List (Option Value))) e6) ?_
            have eh2 : (mx_up (vs_rw I (la + 5) (lw_run cs fc (lw_from e j) (I (la + 5)) i).1) (la + 5) (((lw_run cs fc (lw_from e j) (I (la + 5)) i).2 - 1) - 1) ((lw_join (-(cs (lw_from e j + i))) ((lw_run cs fc (lw_from e j) (I (la + 5)) i).1 ((lw_run cs fc (lw_from e j) (I (la + 5)) i).2 - 1 - 1)) ((lw_run cs fc (lw_from e j) (I (la + 5)) i).1 ((lw_run cs fc (lw_from e j) (I (la + 5)) i).2 - 1))))) = (vs_rw I (la + 5) (lw_run cs fc (lw_from e j) (I (la + 5)) (i + 1)).1) := by rw [vs_rw_up, lw_run_s, k0]
            rw [eh2]
            exact ih
          · skip
            refine mx_il7 d_La_holds_99 ?_
            refine mx_bipush (v := -18) d_La_holds_101 (by decide) ?_
            refine mx_icmp_lt 141 d_La_holds_103 (by decide) (fun c_103 => ?_) (fun c_103 => ?_)
            · skip
              have hp : ¬ lw_psh (cs (lw_from e j + i)) := fun q => q.elim c_89 (fun q => absurd c_103 (Int32.not_lt.mpr q.2))
              have d3 := hfit.2.2.1 c_57 hp
              have k0 : lw_step (cs (lw_from e j + i)) fc (lw_run cs fc (lw_from e j) (I (la + 5)) i) = (updI (lw_run cs fc (lw_from e j) (I (la + 5)) i).1 ((lw_run cs fc (lw_from e j) (I (la + 5)) i).2 - 1 - 1) (lw_join (-(cs (lw_from e j + i))) ((lw_run cs fc (lw_from e j) (I (la + 5)) i).1 ((lw_run cs fc (lw_from e j) (I (la + 5)) i).2 - 1 - 1)) ((lw_run cs fc (lw_from e j) (I (la + 5)) i).1 ((lw_run cs fc (lw_from e j) (I (la + 5)) i).2 - 1))), (lw_run cs fc (lw_from e j) (I (la + 5)) i).2 - 1) := by rw [lw_step, if_neg c_57, if_neg hp]
              refine mx_ii5 (v := -1) d_La_holds_141 (by decide) ?_
              refine mx_lsc (congrArg (fun z9 => ([some (.ref (la)), some (.int (nI (j))), some (.ref (fa)), some (.int (nI (lw_from e j))), some (.int (nI (e j))), some (.int (z9)), some (.int (nI (lw_from e j + i))), some (.int ((cs (lw_from e j + i))))] : List (Option Value))) (nI_dec (by omega))) ?_
              refine mx_al0 d_La_holds_144 ?_
              refine mx_getR d_La_holds_145 fl_La_9 (by assumption) (by assumption) ?_
              refine mx_il5 d_La_holds_148 ?_
              refine mx_in_1 d_La_holds_150 ?_
              refine mx_isubN d_La_holds_151 (by omega) ?_
              refine mx_il7 d_La_holds_152 ?_
              refine mx_ineg d_La_holds_154 ?_
              refine mx_al0 d_La_holds_155 ?_
              refine mx_getR d_La_holds_156 fl_La_9 (by assumption) (by assumption) ?_
              refine mx_il5 d_La_holds_159 ?_
              refine mx_in_1 d_La_holds_161 ?_
              refine mx_isubN d_La_holds_162 (by omega) ?_
              refine mx_cSN2i d_La_holds_163 (c_get (k := ((lw_run cs fc (lw_from e j) (I (la + 5)) i).2 - 1) - 1) (by assumption) (by omega) (by omega)) ok_Vh_get ml_La_31 (by decide) (Nat.le_of_ble_eq_true rfl) ?_
              refine mx_ti (y := ((lw_run cs fc (lw_from e j) (I (la + 5)) i).1 ((lw_run cs fc (lw_from e j) (I (la + 5)) i).2 - 1 - 1))) ((by rw [vs_rw_at])) ?_
              refine mx_al0 d_La_holds_166 ?_
              refine mx_getR d_La_holds_167 fl_La_9 (by assumption) (by assumption) ?_
              refine mx_il5 d_La_holds_170 ?_
              refine mx_cSN2i d_La_holds_172 (c_get (k := (lw_run cs fc (lw_from e j) (I (la + 5)) i).2 - 1) (by assumption) (by omega) (by omega)) ok_Vh_get ml_La_31 (by decide) (Nat.le_of_ble_eq_true rfl) ?_
              refine mx_ti (y := ((lw_run cs fc (lw_from e j) (I (la + 5)) i).1 ((lw_run cs fc (lw_from e j) (I (la + 5)) i).2 - 1))) ((by rw [vs_rw_at])) ?_
              refine mx_cS3i d_La_holds_175 (c_La_joined) ok_La_joined ml_La_43 (by decide) (Nat.le_of_ble_eq_true rfl) ?_
              refine mx_cSN3v d_La_holds_178 (c_put (k := ((lw_run cs fc (lw_from e j) (I (la + 5)) i).2 - 1) - 1) (by assumption) (by omega) (by omega)) ok_Vh_put ml_La_39 (by decide) (Nat.le_of_ble_eq_true rfl) ?_
              refine mx_iN6 d_La_holds_181 ?_
              refine mx_goto 35 d_La_holds_184 (by decide) ?_
              refine mx_dn7 ?_
              have e5 : nI ((lw_run cs fc (lw_from e j) (I (la + 5)) i).2 - 1) = nI ((lw_run cs fc (lw_from e j) (I (la + 5)) (i + 1)).2) := by rw [lw_run_s, k0]
              refine mx_lsc (congrArg (fun z9 => ([some (.ref (la)), some (.int (nI (j))), some (.ref (fa)), some (.int (nI (lw_from e j))), some (.int (nI (e j))), some (.int (z9)), some (.int (nI (lw_from e j + i + 1))), none] : List (Option Value))) e5) ?_
              have e6 : nI (lw_from e j + i + 1) = nI (lw_from e j + (i + 1)) := by rfl
              refine mx_lsc (congrArg (fun z9 => ([some (.ref (la)), some (.int (nI (j))), some (.ref (fa)), some (.int (nI (lw_from e j))), some (.int (nI (e j))), some (.int (nI ((lw_run cs fc (lw_from e j) (I (la + 5)) (i + 1)).2))), some (.int (z9)), none] : List (Option Value))) e6) ?_
              have eh2 : (mx_up (vs_rw I (la + 5) (lw_run cs fc (lw_from e j) (I (la + 5)) i).1) (la + 5) (((lw_run cs fc (lw_from e j) (I (la + 5)) i).2 - 1) - 1) ((lw_join (-(cs (lw_from e j + i))) ((lw_run cs fc (lw_from e j) (I (la + 5)) i).1 ((lw_run cs fc (lw_from e j) (I (la + 5)) i).2 - 1 - 1)) ((lw_run cs fc (lw_from e j) (I (la + 5)) i).1 ((lw_run cs fc (lw_from e j) (I (la + 5)) i).2 - 1))))) = (vs_rw I (la + 5) (lw_run cs fc (lw_from e j) (I (la + 5)) (i + 1)).1) := by rw [vs_rw_up, lw_run_s, k0]
              rw [eh2]
              exact ih
            · skip
              obtain ⟨k9, hk9, ek9⟩ := lw_neg10 c_89 (Int32.not_lt.mp c_96) (Int32.not_lt.mp c_103)
              have hp : lw_psh (cs (lw_from e j + i)) := Or.inr ⟨Int32.not_lt.mp c_96, Int32.not_lt.mp c_103⟩
              have d2 := hfit.2.1 c_57 hp
              have k0 : lw_step (cs (lw_from e j + i)) fc (lw_run cs fc (lw_from e j) (I (la + 5)) i) = (updI (lw_run cs fc (lw_from e j) (I (la + 5)) i).1 (lw_run cs fc (lw_from e j) (I (la + 5)) i).2 (fc k9), (lw_run cs fc (lw_from e j) (I (la + 5)) i).2 + 1) := by rw [lw_step, if_neg c_57, if_pos hp, lw_val, if_neg c_89, ek9, nI_clamp (by omega)]
              refine mx_al0 d_La_holds_106 ?_
              refine mx_getR d_La_holds_107 fl_La_9 (by assumption) (by assumption) ?_
              refine mx_il5 d_La_holds_110 ?_
              refine mx_il7 d_La_holds_112 ?_
              refine mx_if_lt 122 d_La_holds_114 (by decide) (fun c_114 => ?_) (fun c_114 => absurd c_114 (fun q => c_89 (Int32.not_lt.mp q)))
              refine mx_al2 d_La_holds_122 ?_
              refine mx_il7 d_La_holds_123 ?_
              refine mx_ineg d_La_holds_125 ?_
              refine mx_bip 10 d_La_holds_126 (by decide) ?_
              refine mx_isub d_La_holds_128 ?_
              refine mx_ti (y := nI (k9)) (ek9) ?_
              refine mx_cSN2i d_La_holds_129 (c_get (k := k9) (by assumption) (by omega) (by omega)) ok_Vh_get ml_La_31 (by decide) (Nat.le_of_ble_eq_true rfl) ?_
              refine mx_ti (y := (fc k9)) ((by rw [vs_rw_ne (by omega)]; exact hF k9 hk9)) ?_
              refine mx_cSN3v d_La_holds_132 (c_put (k := (lw_run cs fc (lw_from e j) (I (la + 5)) i).2) (by assumption) (by omega) (by omega)) ok_Vh_put ml_La_39 (by decide) (Nat.le_of_ble_eq_true rfl) ?_
              refine mx_iN5 d_La_holds_135 ?_
              refine mx_goto 181 d_La_holds_138 (by decide) ?_
              refine mx_iN6 d_La_holds_181 ?_
              refine mx_goto 35 d_La_holds_184 (by decide) ?_
              refine mx_dn7 ?_
              have e5 : nI ((lw_run cs fc (lw_from e j) (I (la + 5)) i).2 + 1) = nI ((lw_run cs fc (lw_from e j) (I (la + 5)) (i + 1)).2) := by rw [lw_run_s, k0]
              refine mx_lsc (congrArg (fun z9 => ([some (.ref (la)), some (.int (nI (j))), some (.ref (fa)), some (.int (nI (lw_from e j))), some (.int (nI (e j))), some (.int (z9)), some (.int (nI (lw_from e j + i + 1))), none] : List (Option Value))) e5) ?_
              have e6 : nI (lw_from e j + i + 1) = nI (lw_from e j + (i + 1)) := by rfl
              refine mx_lsc (congrArg (fun z9 => ([some (.ref (la)), some (.int (nI (j))), some (.ref (fa)), some (.int (nI (lw_from e j))), some (.int (nI (e j))), some (.int (nI ((lw_run cs fc (lw_from e j) (I (la + 5)) (i + 1)).2))), some (.int (z9)), none] : List (Option Value))) e6) ?_
              have eh2 : (mx_up (vs_rw I (la + 5) (lw_run cs fc (lw_from e j) (I (la + 5)) i).1) (la + 5) ((lw_run cs fc (lw_from e j) (I (la + 5)) i).2) ((fc k9))) = (vs_rw I (la + 5) (lw_run cs fc (lw_from e j) (I (la + 5)) (i + 1)).1) := by rw [vs_rw_up, lw_run_s, k0]
              rw [eh2]
              exact ih
      · skip
        have d1 := hfit.1 c_57
        have k0 : lw_step (cs (lw_from e j + i)) fc (lw_run cs fc (lw_from e j) (I (la + 5)) i) = (updI (lw_run cs fc (lw_from e j) (I (la + 5)) i).1 ((lw_run cs fc (lw_from e j) (I (la + 5)) i).2 - 1) (nI 1 - (lw_run cs fc (lw_from e j) (I (la + 5)) i).1 ((lw_run cs fc (lw_from e j) (I (la + 5)) i).2 - 1)), (lw_run cs fc (lw_from e j) (I (la + 5)) i).2) := by rw [lw_step, if_pos c_57]
        refine mx_al0 d_La_holds_60 ?_
        refine mx_getR d_La_holds_61 fl_La_9 (by assumption) (by assumption) ?_
        refine mx_il5 d_La_holds_64 ?_
        refine mx_in_1 d_La_holds_66 ?_
        refine mx_isubN d_La_holds_67 (by omega) ?_
        refine mx_in_1 d_La_holds_68 ?_
        refine mx_al0 d_La_holds_69 ?_
        refine mx_getR d_La_holds_70 fl_La_9 (by assumption) (by assumption) ?_
        refine mx_il5 d_La_holds_73 ?_
        refine mx_in_1 d_La_holds_75 ?_
        refine mx_isubN d_La_holds_76 (by omega) ?_
        refine mx_cSN2i d_La_holds_77 (c_get (k := ((lw_run cs fc (lw_from e j) (I (la + 5)) i).2) - 1) (by assumption) (by omega) (by omega)) ok_Vh_get ml_La_31 (by decide) (Nat.le_of_ble_eq_true rfl) ?_
        refine mx_ti (y := ((lw_run cs fc (lw_from e j) (I (la + 5)) i).1 ((lw_run cs fc (lw_from e j) (I (la + 5)) i).2 - 1))) ((by rw [vs_rw_at])) ?_
        refine mx_isub d_La_holds_80 ?_
        refine mx_cSN3v d_La_holds_81 (c_put (k := ((lw_run cs fc (lw_from e j) (I (la + 5)) i).2) - 1) (by assumption) (by omega) (by omega)) ok_Vh_put ml_La_39 (by decide) (Nat.le_of_ble_eq_true rfl) ?_
        refine mx_goto 181 d_La_holds_84 (by decide) ?_
        refine mx_iN6 d_La_holds_181 ?_
        refine mx_goto 35 d_La_holds_184 (by decide) ?_
        refine mx_dn7 ?_
        have e5 : nI ((lw_run cs fc (lw_from e j) (I (la + 5)) i).2) = nI ((lw_run cs fc (lw_from e j) (I (la + 5)) (i + 1)).2) := by rw [lw_run_s, k0]
        refine mx_lsc (congrArg (fun z9 => ([some (.ref (la)), some (.int (nI (j))), some (.ref (fa)), some (.int (nI (lw_from e j))), some (.int (nI (e j))), some (.int (z9)), some (.int (nI (lw_from e j + i + 1))), none] : List (Option Value))) e5) ?_
        have e6 : nI (lw_from e j + i + 1) = nI (lw_from e j + (i + 1)) := by rfl
        refine mx_lsc (congrArg (fun z9 => ([some (.ref (la)), some (.int (nI (j))), some (.ref (fa)), some (.int (nI (lw_from e j))), some (.int (nI (e j))), some (.int (nI ((lw_run cs fc (lw_from e j) (I (la + 5)) (i + 1)).2))), some (.int (z9)), none] : List (Option Value))) e6) ?_
        have eh2 : (mx_up (vs_rw I (la + 5) (lw_run cs fc (lw_from e j) (I (la + 5)) i).1) (la + 5) (((lw_run cs fc (lw_from e j) (I (la + 5)) i).2) - 1) ((nI (1) - ((lw_run cs fc (lw_from e j) (I (la + 5)) i).1 ((lw_run cs fc (lw_from e j) (I (la + 5)) i).2 - 1))))) = (vs_rw I (la + 5) (lw_run cs fc (lw_from e j) (I (la + 5)) (i + 1)).1) := by rw [vs_rw_up, lw_run_s, k0]
        rw [eh2]
        exact ih
    · try dsimp only
      refine mx_il6 d_La_holds_35 ?_
      refine mx_il4 d_La_holds_37 ?_
      refine mx_icN_ge 187 d_La_holds_39 (by decide) (by omega) (by omega) (fun c_39 => ?_) (fun c_39 => absurd c_39 (by omega))
      refine mx_il3 d_La_holds_187 ?_
      refine mx_il4 d_La_holds_188 ?_
      refine mx_icN_eq 204 d_La_holds_190 (by decide) (by omega) (by omega) (fun c_190 => ?_) (fun c_190 => ?_)
      · skip
        refine mx_in_1 d_La_holds_204 ?_
        refine mx_goto 209 d_La_holds_205 (by decide) ?_
        exact mx_zret d_La_holds_209 rfl (by first | exact Or.inl rfl | exact Or.inr rfl) (mx_sR_i (by rw [show hv j = true from by first | exact (hsem j hj).2.1 c_190 | (rw [← (hsem j hj).2.2 (by omega) (I (la + 5))]; exact decide_eq_true c_201)]; rfl) (fun c hc => vs_rw_ne hc))
      · skip
        refine mx_al0 d_La_holds_193 ?_
        refine mx_getR d_La_holds_194 fl_La_9 (by assumption) (by assumption) ?_
        refine mx_in_0 d_La_holds_197 ?_
        refine mx_cSN2i d_La_holds_198 (c_get (k := 0) (by assumption) (by omega) (by omega)) ok_Vh_get ml_La_31 (by decide) (Nat.le_of_ble_eq_true rfl) ?_
        refine mx_ti (y := ((lw_run cs fc (lw_from e j) (I (la + 5)) (e j - lw_from e j)).1 0)) ((by rw [vs_rw_at])) ?_
        refine mx_if_eq 208 d_La_holds_201 (by decide) (fun c_201 => ?_) (fun c_201 => ?_)
        · skip
          refine mx_in_0 d_La_holds_208 ?_
          exact mx_zret d_La_holds_209 rfl (by first | exact Or.inl rfl | exact Or.inr rfl) (mx_sR_i (by rw [show hv j = false from by rw [← (hsem j hj).2.2 (by omega) (I (la + 5))]; exact decide_eq_false (fun q => q c_201)]; rfl) (fun c hc => vs_rw_ne hc))
        · skip
          refine mx_in_1 d_La_holds_204 ?_
          refine mx_goto 209 d_La_holds_205 (by decide) ?_
          exact mx_zret d_La_holds_209 rfl (by first | exact Or.inl rfl | exact Or.inr rfl) (mx_sR_i (by rw [show hv j = true from by first | exact (hsem j hj).2.1 c_190 | (rw [← (hsem j hj).2.2 (by omega) (I (la + 5))]; exact decide_eq_true c_201)]; rfl) (fun c hc => vs_rw_ne hc))
  · skip
    have j0 := nI_z (by omega) c_1
    refine mx_in_0 d_La_holds_4 ?_
    refine mx_goto 18 d_La_holds_5 (by decide) ?_
    refine mx_ti (y := nI (lw_from e j)) ((by rw [lw_from, if_pos (by omega)])) ?_
    refine mx_is3 d_La_holds_18 ?_
    refine mx_al0 d_La_holds_19 ?_
    refine mx_getR d_La_holds_20 fl_La_25 (by assumption) (by assumption) ?_
    refine mx_il1 d_La_holds_23 ?_
    refine mx_cSN2i d_La_holds_24 (c_get (k := j) (by assumption) (by omega) (by omega)) ok_Vh_get ml_La_31 (by decide) (Nat.le_of_ble_eq_true rfl) ?_
    refine mx_ti (y := nI (e j)) ((hR.2.2.1 j hj).2.2.2.2.1) ?_
    refine mx_is4 d_La_holds_27 ?_
    refine mx_in_0 d_La_holds_29 ?_
    refine mx_is5 d_La_holds_30 ?_
    refine mx_il3 d_La_holds_32 ?_
    have e0 : (t, S, I, P, J) = (t, S, vs_rw I (la + 5) (I (la + 5)), P, J) := by rw [vs_rw_id]
    rw [e0]
    refine mx_is6 d_La_holds_33 ?_
    refine mx_loop (N := e j - lw_from e j) (ls := fun i => [some (.ref (la)), some (.int (nI (j))), some (.ref (fa)), some (.int (nI (lw_from e j))), some (.int (nI (e j))), some (.int (nI ((lw_run cs fc (lw_from e j) (I (la + 5)) i).2))), some (.int (nI (lw_from e j + i))), none]) (X := fun i => (t, S, (vs_rw I (la + 5) (lw_run cs fc (lw_from e j) (I (la + 5)) i).1), P, J)) (fun i hi ih => ?_) ?_
    · try dsimp only
      refine mx_il6 d_La_holds_35 ?_
      refine mx_il4 d_La_holds_37 ?_
      refine mx_icN_ge 187 d_La_holds_39 (by decide) (by omega) (by omega) (fun c_39 => absurd c_39 (by omega)) (fun c_39 => ?_)
      have hfit : lw_fit (cs (lw_from e j + i)) (lw_run cs fc (lw_from e j) (I (la + 5)) i).2 := (hsem j hj).1 (I (la + 5)) i hi
      have hd64 := hfit.2.2.2
      refine mx_al0 d_La_holds_42 ?_
      refine mx_getR d_La_holds_43 fl_La_28 (by assumption) (by assumption) ?_
      refine mx_il6 d_La_holds_46 ?_
      refine mx_cSN2i d_La_holds_48 (c_get (k := lw_from e j + i) (by assumption) (by omega) (by omega)) ok_Vh_get ml_La_31 (by decide) (Nat.le_of_ble_eq_true rfl) ?_
      refine mx_ti (y := (cs (lw_from e j + i))) ((by rw [vs_rw_ne (by omega)]; exact hR.2.2.2 _ (by omega))) ?_
      refine mx_is7 d_La_holds_51 ?_
      refine mx_il7 d_La_holds_53 ?_
      refine mx_bipush (v := -35) d_La_holds_55 (by decide) ?_
      refine mx_icmp_ne 87 d_La_holds_57 (by decide) (fun c_57 => ?_) (fun c_57 => ?_)
      · skip
        refine mx_il7 d_La_holds_87 ?_
        refine mx_if_ge 106 d_La_holds_89 (by decide) (fun c_89 => ?_) (fun c_89 => ?_)
        · skip
          have hp : lw_psh (cs (lw_from e j + i)) := Or.inl c_89
          have d2 := hfit.2.1 c_57 hp
          have k0 : lw_step (cs (lw_from e j + i)) fc (lw_run cs fc (lw_from e j) (I (la + 5)) i) = (updI (lw_run cs fc (lw_from e j) (I (la + 5)) i).1 (lw_run cs fc (lw_from e j) (I (la + 5)) i).2 (cs (lw_from e j + i)), (lw_run cs fc (lw_from e j) (I (la + 5)) i).2 + 1) := by rw [lw_step, if_neg c_57, if_pos hp, lw_val, if_pos c_89]
          refine mx_al0 d_La_holds_106 ?_
          refine mx_getR d_La_holds_107 fl_La_9 (by assumption) (by assumption) ?_
          refine mx_il5 d_La_holds_110 ?_
          refine mx_il7 d_La_holds_112 ?_
          refine mx_if_lt 122 d_La_holds_114 (by decide) (fun c_114 => absurd c_114 (Int32.not_lt.mpr c_89)) (fun c_114 => ?_)
          refine mx_il7 d_La_holds_117 ?_
          refine mx_goto 132 d_La_holds_119 (by decide) ?_
          refine mx_ti (y := ((cs (lw_from e j + i)))) (rfl) ?_
          refine mx_cSN3v d_La_holds_132 (c_put (k := (lw_run cs fc (lw_from e j) (I (la + 5)) i).2) (by assumption) (by omega) (by omega)) ok_Vh_put ml_La_39 (by decide) (Nat.le_of_ble_eq_true rfl) ?_
          refine mx_iN5 d_La_holds_135 ?_
          refine mx_goto 181 d_La_holds_138 (by decide) ?_
          refine mx_iN6 d_La_holds_181 ?_
          refine mx_goto 35 d_La_holds_184 (by decide) ?_
          refine mx_dn7 ?_
          have e5 : nI ((lw_run cs fc (lw_from e j) (I (la + 5)) i).2 + 1) = nI ((lw_run cs fc (lw_from e j) (I (la + 5)) (i + 1)).2) := by rw [lw_run_s, k0]
          refine mx_lsc (congrArg (fun z9 => ([some (.ref (la)), some (.int (nI (j))), some (.ref (fa)), some (.int (nI (lw_from e j))), some (.int (nI (e j))), some (.int (z9)), some (.int (nI (lw_from e j + i + 1))), none] : List (Option Value))) e5) ?_
          have e6 : nI (lw_from e j + i + 1) = nI (lw_from e j + (i + 1)) := by rfl
          refine mx_lsc (congrArg (fun z9 => ([some (.ref (la)), some (.int (nI (j))), some (.ref (fa)), some (.int (nI (lw_from e j))), some (.int (nI (e j))), some (.int (nI ((lw_run cs fc (lw_from e j) (I (la + 5)) (i + 1)).2))), some (.int (z9)), none] : List (Option Value))) e6) ?_
          have eh2 : (mx_up (vs_rw I (la + 5) (lw_run cs fc (lw_from e j) (I (la + 5)) i).1) (la + 5) ((lw_run cs fc (lw_from e j) (I (la + 5)) i).2) (((cs (lw_from e j + i))))) = (vs_rw I (la + 5) (lw_run cs fc (lw_from e j) (I (la + 5)) (i + 1)).1) := by rw [vs_rw_up, lw_run_s, k0]
          rw [eh2]
          exact ih
        · skip
          refine mx_il7 d_La_holds_92 ?_
          refine mx_bipush (v := -10) d_La_holds_94 (by decide) ?_
          refine mx_icmp_gt 141 d_La_holds_96 (by decide) (fun c_96 => ?_) (fun c_96 => ?_)
          · skip
            have hp : ¬ lw_psh (cs (lw_from e j + i)) := fun q => q.elim c_89 (fun q => absurd c_96 (Int32.not_lt.mpr q.1))
            have d3 := hfit.2.2.1 c_57 hp
            have k0 : lw_step (cs (lw_from e j + i)) fc (lw_run cs fc (lw_from e j) (I (la + 5)) i) = (updI (lw_run cs fc (lw_from e j) (I (la + 5)) i).1 ((lw_run cs fc (lw_from e j) (I (la + 5)) i).2 - 1 - 1) (lw_join (-(cs (lw_from e j + i))) ((lw_run cs fc (lw_from e j) (I (la + 5)) i).1 ((lw_run cs fc (lw_from e j) (I (la + 5)) i).2 - 1 - 1)) ((lw_run cs fc (lw_from e j) (I (la + 5)) i).1 ((lw_run cs fc (lw_from e j) (I (la + 5)) i).2 - 1))), (lw_run cs fc (lw_from e j) (I (la + 5)) i).2 - 1) := by rw [lw_step, if_neg c_57, if_neg hp]
            refine mx_ii5 (v := -1) d_La_holds_141 (by decide) ?_
            refine mx_lsc (congrArg (fun z9 => ([some (.ref (la)), some (.int (nI (j))), some (.ref (fa)), some (.int (nI (lw_from e j))), some (.int (nI (e j))), some (.int (z9)), some (.int (nI (lw_from e j + i))), some (.int ((cs (lw_from e j + i))))] : List (Option Value))) (nI_dec (by omega))) ?_
            refine mx_al0 d_La_holds_144 ?_
            refine mx_getR d_La_holds_145 fl_La_9 (by assumption) (by assumption) ?_
            refine mx_il5 d_La_holds_148 ?_
            refine mx_in_1 d_La_holds_150 ?_
            refine mx_isubN d_La_holds_151 (by omega) ?_
            refine mx_il7 d_La_holds_152 ?_
            refine mx_ineg d_La_holds_154 ?_
            refine mx_al0 d_La_holds_155 ?_
            refine mx_getR d_La_holds_156 fl_La_9 (by assumption) (by assumption) ?_
            refine mx_il5 d_La_holds_159 ?_
            refine mx_in_1 d_La_holds_161 ?_
            refine mx_isubN d_La_holds_162 (by omega) ?_
            refine mx_cSN2i d_La_holds_163 (c_get (k := ((lw_run cs fc (lw_from e j) (I (la + 5)) i).2 - 1) - 1) (by assumption) (by omega) (by omega)) ok_Vh_get ml_La_31 (by decide) (Nat.le_of_ble_eq_true rfl) ?_
            refine mx_ti (y := ((lw_run cs fc (lw_from e j) (I (la + 5)) i).1 ((lw_run cs fc (lw_from e j) (I (la + 5)) i).2 - 1 - 1))) ((by rw [vs_rw_at])) ?_
            refine mx_al0 d_La_holds_166 ?_
            refine mx_getR d_La_holds_167 fl_La_9 (by assumption) (by assumption) ?_
            refine mx_il5 d_La_holds_170 ?_
            refine mx_cSN2i d_La_holds_172 (c_get (k := (lw_run cs fc (lw_from e j) (I (la + 5)) i).2 - 1) (by assumption) (by omega) (by omega)) ok_Vh_get ml_La_31 (by decide) (Nat.le_of_ble_eq_true rfl) ?_
            refine mx_ti (y := ((lw_run cs fc (lw_from e j) (I (la + 5)) i).1 ((lw_run cs fc (lw_from e j) (I (la + 5)) i).2 - 1))) ((by rw [vs_rw_at])) ?_
            refine mx_cS3i d_La_holds_175 (c_La_joined) ok_La_joined ml_La_43 (by decide) (Nat.le_of_ble_eq_true rfl) ?_
            refine mx_cSN3v d_La_holds_178 (c_put (k := ((lw_run cs fc (lw_from e j) (I (la + 5)) i).2 - 1) - 1) (by assumption) (by omega) (by omega)) ok_Vh_put ml_La_39 (by decide) (Nat.le_of_ble_eq_true rfl) ?_
            refine mx_iN6 d_La_holds_181 ?_
            refine mx_goto 35 d_La_holds_184 (by decide) ?_
            refine mx_dn7 ?_
            have e5 : nI ((lw_run cs fc (lw_from e j) (I (la + 5)) i).2 - 1) = nI ((lw_run cs fc (lw_from e j) (I (la + 5)) (i + 1)).2) := by rw [lw_run_s, k0]
            refine mx_lsc (congrArg (fun z9 => ([some (.ref (la)), some (.int (nI (j))), some (.ref (fa)), some (.int (nI (lw_from e j))), some (.int (nI (e j))), some (.int (z9)), some (.int (nI (lw_from e j + i + 1))), none] : List (Option Value))) e5) ?_
            have e6 : nI (lw_from e j + i + 1) = nI (lw_from e j + (i + 1)) := by rfl
            refine mx_lsc (congrArg (fun z9 => ([some (.ref (la)), some (.int (nI (j))), some (.ref (fa)), some (.int (nI (lw_from e j))), some (.int (nI (e j))), some (.int (nI ((lw_run cs fc (lw_from e j) (I (la + 5)) (i + 1)).2))), some (.int (z9)), none] : List (Option Value))) e6) ?_
            have eh2 : (mx_up (vs_rw I (la + 5) (lw_run cs fc (lw_from e j) (I (la + 5)) i).1) (la + 5) (((lw_run cs fc (lw_from e j) (I (la + 5)) i).2 - 1) - 1) ((lw_join (-(cs (lw_from e j + i))) ((lw_run cs fc (lw_from e j) (I (la + 5)) i).1 ((lw_run cs fc (lw_from e j) (I (la + 5)) i).2 - 1 - 1)) ((lw_run cs fc (lw_from e j) (I (la + 5)) i).1 ((lw_run cs fc (lw_from e j) (I (la + 5)) i).2 - 1))))) = (vs_rw I (la + 5) (lw_run cs fc (lw_from e j) (I (la + 5)) (i + 1)).1) := by rw [vs_rw_up, lw_run_s, k0]
            rw [eh2]
            exact ih
          · skip
            refine mx_il7 d_La_holds_99 ?_
            refine mx_bipush (v := -18) d_La_holds_101 (by decide) ?_
            refine mx_icmp_lt 141 d_La_holds_103 (by decide) (fun c_103 => ?_) (fun c_103 => ?_)
            · skip
              have hp : ¬ lw_psh (cs (lw_from e j + i)) := fun q => q.elim c_89 (fun q => absurd c_103 (Int32.not_lt.mpr q.2))
              have d3 := hfit.2.2.1 c_57 hp
              have k0 : lw_step (cs (lw_from e j + i)) fc (lw_run cs fc (lw_from e j) (I (la + 5)) i) = (updI (lw_run cs fc (lw_from e j) (I (la + 5)) i).1 ((lw_run cs fc (lw_from e j) (I (la + 5)) i).2 - 1 - 1) (lw_join (-(cs (lw_from e j + i))) ((lw_run cs fc (lw_from e j) (I (la + 5)) i).1 ((lw_run cs fc (lw_from e j) (I (la + 5)) i).2 - 1 - 1)) ((lw_run cs fc (lw_from e j) (I (la + 5)) i).1 ((lw_run cs fc (lw_from e j) (I (la + 5)) i).2 - 1))), (lw_run cs fc (lw_from e j) (I (la + 5)) i).2 - 1) := by rw [lw_step, if_neg c_57, if_neg hp]
              refine mx_ii5 (v := -1) d_La_holds_141 (by decide) ?_
              refine mx_lsc (congrArg (fun z9 => ([some (.ref (la)), some (.int (nI (j))), some (.ref (fa)), some (.int (nI (lw_from e j))), some (.int (nI (e j))), some (.int (z9)), some (.int (nI (lw_from e j + i))), some (.int ((cs (lw_from e j + i))))] : List (Option Value))) (nI_dec (by omega))) ?_
              refine mx_al0 d_La_holds_144 ?_
              refine mx_getR d_La_holds_145 fl_La_9 (by assumption) (by assumption) ?_
              refine mx_il5 d_La_holds_148 ?_
              refine mx_in_1 d_La_holds_150 ?_
              refine mx_isubN d_La_holds_151 (by omega) ?_
              refine mx_il7 d_La_holds_152 ?_
              refine mx_ineg d_La_holds_154 ?_
              refine mx_al0 d_La_holds_155 ?_
              refine mx_getR d_La_holds_156 fl_La_9 (by assumption) (by assumption) ?_
              refine mx_il5 d_La_holds_159 ?_
              refine mx_in_1 d_La_holds_161 ?_
              refine mx_isubN d_La_holds_162 (by omega) ?_
              refine mx_cSN2i d_La_holds_163 (c_get (k := ((lw_run cs fc (lw_from e j) (I (la + 5)) i).2 - 1) - 1) (by assumption) (by omega) (by omega)) ok_Vh_get ml_La_31 (by decide) (Nat.le_of_ble_eq_true rfl) ?_
              refine mx_ti (y := ((lw_run cs fc (lw_from e j) (I (la + 5)) i).1 ((lw_run cs fc (lw_from e j) (I (la + 5)) i).2 - 1 - 1))) ((by rw [vs_rw_at])) ?_
              refine mx_al0 d_La_holds_166 ?_
              refine mx_getR d_La_holds_167 fl_La_9 (by assumption) (by assumption) ?_
              refine mx_il5 d_La_holds_170 ?_
              refine mx_cSN2i d_La_holds_172 (c_get (k := (lw_run cs fc (lw_from e j) (I (la + 5)) i).2 - 1) (by assumption) (by omega) (by omega)) ok_Vh_get ml_La_31 (by decide) (Nat.le_of_ble_eq_true rfl) ?_
              refine mx_ti (y := ((lw_run cs fc (lw_from e j) (I (la + 5)) i).1 ((lw_run cs fc (lw_from e j) (I (la + 5)) i).2 - 1))) ((by rw [vs_rw_at])) ?_
              refine mx_cS3i d_La_holds_175 (c_La_joined) ok_La_joined ml_La_43 (by decide) (Nat.le_of_ble_eq_true rfl) ?_
              refine mx_cSN3v d_La_holds_178 (c_put (k := ((lw_run cs fc (lw_from e j) (I (la + 5)) i).2 - 1) - 1) (by assumption) (by omega) (by omega)) ok_Vh_put ml_La_39 (by decide) (Nat.le_of_ble_eq_true rfl) ?_
              refine mx_iN6 d_La_holds_181 ?_
              refine mx_goto 35 d_La_holds_184 (by decide) ?_
              refine mx_dn7 ?_
              have e5 : nI ((lw_run cs fc (lw_from e j) (I (la + 5)) i).2 - 1) = nI ((lw_run cs fc (lw_from e j) (I (la + 5)) (i + 1)).2) := by rw [lw_run_s, k0]
              refine mx_lsc (congrArg (fun z9 => ([some (.ref (la)), some (.int (nI (j))), some (.ref (fa)), some (.int (nI (lw_from e j))), some (.int (nI (e j))), some (.int (z9)), some (.int (nI (lw_from e j + i + 1))), none] : List (Option Value))) e5) ?_
              have e6 : nI (lw_from e j + i + 1) = nI (lw_from e j + (i + 1)) := by rfl
              refine mx_lsc (congrArg (fun z9 => ([some (.ref (la)), some (.int (nI (j))), some (.ref (fa)), some (.int (nI (lw_from e j))), some (.int (nI (e j))), some (.int (nI ((lw_run cs fc (lw_from e j) (I (la + 5)) (i + 1)).2))), some (.int (z9)), none] : List (Option Value))) e6) ?_
              have eh2 : (mx_up (vs_rw I (la + 5) (lw_run cs fc (lw_from e j) (I (la + 5)) i).1) (la + 5) (((lw_run cs fc (lw_from e j) (I (la + 5)) i).2 - 1) - 1) ((lw_join (-(cs (lw_from e j + i))) ((lw_run cs fc (lw_from e j) (I (la + 5)) i).1 ((lw_run cs fc (lw_from e j) (I (la + 5)) i).2 - 1 - 1)) ((lw_run cs fc (lw_from e j) (I (la + 5)) i).1 ((lw_run cs fc (lw_from e j) (I (la + 5)) i).2 - 1))))) = (vs_rw I (la + 5) (lw_run cs fc (lw_from e j) (I (la + 5)) (i + 1)).1) := by rw [vs_rw_up, lw_run_s, k0]
              rw [eh2]
              exact ih
            · skip
              obtain ⟨k9, hk9, ek9⟩ := lw_neg10 c_89 (Int32.not_lt.mp c_96) (Int32.not_lt.mp c_103)
              have hp : lw_psh (cs (lw_from e j + i)) := Or.inr ⟨Int32.not_lt.mp c_96, Int32.not_lt.mp c_103⟩
              have d2 := hfit.2.1 c_57 hp
              have k0 : lw_step (cs (lw_from e j + i)) fc (lw_run cs fc (lw_from e j) (I (la + 5)) i) = (updI (lw_run cs fc (lw_from e j) (I (la + 5)) i).1 (lw_run cs fc (lw_from e j) (I (la + 5)) i).2 (fc k9), (lw_run cs fc (lw_from e j) (I (la + 5)) i).2 + 1) := by rw [lw_step, if_neg c_57, if_pos hp, lw_val, if_neg c_89, ek9, nI_clamp (by omega)]
              refine mx_al0 d_La_holds_106 ?_
              refine mx_getR d_La_holds_107 fl_La_9 (by assumption) (by assumption) ?_
              refine mx_il5 d_La_holds_110 ?_
              refine mx_il7 d_La_holds_112 ?_
              refine mx_if_lt 122 d_La_holds_114 (by decide) (fun c_114 => ?_) (fun c_114 => absurd c_114 (fun q => c_89 (Int32.not_lt.mp q)))
              refine mx_al2 d_La_holds_122 ?_
              refine mx_il7 d_La_holds_123 ?_
              refine mx_ineg d_La_holds_125 ?_
              refine mx_bip 10 d_La_holds_126 (by decide) ?_
              refine mx_isub d_La_holds_128 ?_
              refine mx_ti (y := nI (k9)) (ek9) ?_
              refine mx_cSN2i d_La_holds_129 (c_get (k := k9) (by assumption) (by omega) (by omega)) ok_Vh_get ml_La_31 (by decide) (Nat.le_of_ble_eq_true rfl) ?_
              refine mx_ti (y := (fc k9)) ((by rw [vs_rw_ne (by omega)]; exact hF k9 hk9)) ?_
              refine mx_cSN3v d_La_holds_132 (c_put (k := (lw_run cs fc (lw_from e j) (I (la + 5)) i).2) (by assumption) (by omega) (by omega)) ok_Vh_put ml_La_39 (by decide) (Nat.le_of_ble_eq_true rfl) ?_
              refine mx_iN5 d_La_holds_135 ?_
              refine mx_goto 181 d_La_holds_138 (by decide) ?_
              refine mx_iN6 d_La_holds_181 ?_
              refine mx_goto 35 d_La_holds_184 (by decide) ?_
              refine mx_dn7 ?_
              have e5 : nI ((lw_run cs fc (lw_from e j) (I (la + 5)) i).2 + 1) = nI ((lw_run cs fc (lw_from e j) (I (la + 5)) (i + 1)).2) := by rw [lw_run_s, k0]
              refine mx_lsc (congrArg (fun z9 => ([some (.ref (la)), some (.int (nI (j))), some (.ref (fa)), some (.int (nI (lw_from e j))), some (.int (nI (e j))), some (.int (z9)), some (.int (nI (lw_from e j + i + 1))), none] : List (Option Value))) e5) ?_
              have e6 : nI (lw_from e j + i + 1) = nI (lw_from e j + (i + 1)) := by rfl
              refine mx_lsc (congrArg (fun z9 => ([some (.ref (la)), some (.int (nI (j))), some (.ref (fa)), some (.int (nI (lw_from e j))), some (.int (nI (e j))), some (.int (nI ((lw_run cs fc (lw_from e j) (I (la + 5)) (i + 1)).2))), some (.int (z9)), none] : List (Option Value))) e6) ?_
              have eh2 : (mx_up (vs_rw I (la + 5) (lw_run cs fc (lw_from e j) (I (la + 5)) i).1) (la + 5) ((lw_run cs fc (lw_from e j) (I (la + 5)) i).2) ((fc k9))) = (vs_rw I (la + 5) (lw_run cs fc (lw_from e j) (I (la + 5)) (i + 1)).1) := by rw [vs_rw_up, lw_run_s, k0]
              rw [eh2]
              exact ih
      · skip
        have d1 := hfit.1 c_57
        have k0 : lw_step (cs (lw_from e j + i)) fc (lw_run cs fc (lw_from e j) (I (la + 5)) i) = (updI (lw_run cs fc (lw_from e j) (I (la + 5)) i).1 ((lw_run cs fc (lw_from e j) (I (la + 5)) i).2 - 1) (nI 1 - (lw_run cs fc (lw_from e j) (I (la + 5)) i).1 ((lw_run cs fc (lw_from e j) (I (la + 5)) i).2 - 1)), (lw_run cs fc (lw_from e j) (I (la + 5)) i).2) := by rw [lw_step, if_pos c_57]
        refine mx_al0 d_La_holds_60 ?_
        refine mx_getR d_La_holds_61 fl_La_9 (by assumption) (by assumption) ?_
        refine mx_il5 d_La_holds_64 ?_
        refine mx_in_1 d_La_holds_66 ?_
        refine mx_isubN d_La_holds_67 (by omega) ?_
        refine mx_in_1 d_La_holds_68 ?_
        refine mx_al0 d_La_holds_69 ?_
        refine mx_getR d_La_holds_70 fl_La_9 (by assumption) (by assumption) ?_
        refine mx_il5 d_La_holds_73 ?_
        refine mx_in_1 d_La_holds_75 ?_
        refine mx_isubN d_La_holds_76 (by omega) ?_
        refine mx_cSN2i d_La_holds_77 (c_get (k := ((lw_run cs fc (lw_from e j) (I (la + 5)) i).2) - 1) (by assumption) (by omega) (by omega)) ok_Vh_get ml_La_31 (by decide) (Nat.le_of_ble_eq_true rfl) ?_
        refine mx_ti (y := ((lw_run cs fc (lw_from e j) (I (la + 5)) i).1 ((lw_run cs fc (lw_from e j) (I (la + 5)) i).2 - 1))) ((by rw [vs_rw_at])) ?_
        refine mx_isub d_La_holds_80 ?_
        refine mx_cSN3v d_La_holds_81 (c_put (k := ((lw_run cs fc (lw_from e j) (I (la + 5)) i).2) - 1) (by assumption) (by omega) (by omega)) ok_Vh_put ml_La_39 (by decide) (Nat.le_of_ble_eq_true rfl) ?_
        refine mx_goto 181 d_La_holds_84 (by decide) ?_
        refine mx_iN6 d_La_holds_181 ?_
        refine mx_goto 35 d_La_holds_184 (by decide) ?_
        refine mx_dn7 ?_
        have e5 : nI ((lw_run cs fc (lw_from e j) (I (la + 5)) i).2) = nI ((lw_run cs fc (lw_from e j) (I (la + 5)) (i + 1)).2) := by rw [lw_run_s, k0]
        refine mx_lsc (congrArg (fun z9 => ([some (.ref (la)), some (.int (nI (j))), some (.ref (fa)), some (.int (nI (lw_from e j))), some (.int (nI (e j))), some (.int (z9)), some (.int (nI (lw_from e j + i + 1))), none] : List (Option Value))) e5) ?_
        have e6 : nI (lw_from e j + i + 1) = nI (lw_from e j + (i + 1)) := by rfl
        refine mx_lsc (congrArg (fun z9 => ([some (.ref (la)), some (.int (nI (j))), some (.ref (fa)), some (.int (nI (lw_from e j))), some (.int (nI (e j))), some (.int (nI ((lw_run cs fc (lw_from e j) (I (la + 5)) (i + 1)).2))), some (.int (z9)), none] : List (Option Value))) e6) ?_
        have eh2 : (mx_up (vs_rw I (la + 5) (lw_run cs fc (lw_from e j) (I (la + 5)) i).1) (la + 5) (((lw_run cs fc (lw_from e j) (I (la + 5)) i).2) - 1) ((nI (1) - ((lw_run cs fc (lw_from e j) (I (la + 5)) i).1 ((lw_run cs fc (lw_from e j) (I (la + 5)) i).2 - 1))))) = (vs_rw I (la + 5) (lw_run cs fc (lw_from e j) (I (la + 5)) (i + 1)).1) := by rw [vs_rw_up, lw_run_s, k0]
        rw [eh2]
        exact ih
    · try dsimp only
      refine mx_il6 d_La_holds_35 ?_
      refine mx_il4 d_La_holds_37 ?_
      refine mx_icN_ge 187 d_La_holds_39 (by decide) (by omega) (by omega) (fun c_39 => ?_) (fun c_39 => absurd c_39 (by omega))
      refine mx_il3 d_La_holds_187 ?_
      refine mx_il4 d_La_holds_188 ?_
      refine mx_icN_eq 204 d_La_holds_190 (by decide) (by omega) (by omega) (fun c_190 => ?_) (fun c_190 => ?_)
      · skip
        refine mx_in_1 d_La_holds_204 ?_
        refine mx_goto 209 d_La_holds_205 (by decide) ?_
        exact mx_zret d_La_holds_209 rfl (by first | exact Or.inl rfl | exact Or.inr rfl) (mx_sR_i (by rw [show hv j = true from by first | exact (hsem j hj).2.1 c_190 | (rw [← (hsem j hj).2.2 (by omega) (I (la + 5))]; exact decide_eq_true c_201)]; rfl) (fun c hc => vs_rw_ne hc))
      · skip
        refine mx_al0 d_La_holds_193 ?_
        refine mx_getR d_La_holds_194 fl_La_9 (by assumption) (by assumption) ?_
        refine mx_in_0 d_La_holds_197 ?_
        refine mx_cSN2i d_La_holds_198 (c_get (k := 0) (by assumption) (by omega) (by omega)) ok_Vh_get ml_La_31 (by decide) (Nat.le_of_ble_eq_true rfl) ?_
        refine mx_ti (y := ((lw_run cs fc (lw_from e j) (I (la + 5)) (e j - lw_from e j)).1 0)) ((by rw [vs_rw_at])) ?_
        refine mx_if_eq 208 d_La_holds_201 (by decide) (fun c_201 => ?_) (fun c_201 => ?_)
        · skip
          refine mx_in_0 d_La_holds_208 ?_
          exact mx_zret d_La_holds_209 rfl (by first | exact Or.inl rfl | exact Or.inr rfl) (mx_sR_i (by rw [show hv j = false from by rw [← (hsem j hj).2.2 (by omega) (I (la + 5))]; exact decide_eq_false (fun q => q c_201)]; rfl) (fun c hc => vs_rw_ne hc))
        · skip
          refine mx_in_1 d_La_holds_204 ?_
          refine mx_goto 209 d_La_holds_205 (by decide) ?_
          exact mx_zret d_La_holds_209 rfl (by first | exact Or.inl rfl | exact Or.inr rfl) (mx_sR_i (by rw [show hv j = true from by first | exact (hsem j hj).2.1 c_190 | (rw [← (hsem j hj).2.2 (by omega) (I (la + 5))]; exact decide_eq_true c_201)]; rfl) (fun c hc => vs_rw_ne hc))
theorem c_La_admits (hLa : la_ok S P la n z) (hR : la_rel I la n z L kd am e cs) (hsem : lw_sem n e cs fc hv) (hSf : S fa = some (1, 9)) (hF : ∀ k, k < 9 → I fa k = fc k) (hfa : fa < la ∨ la + 6 ≤ fa)  : mx_C l E M_La_admits 2 0 0 [.ref (la), .ref (fa)] (t, S, I, P, J) (mx_sR (some (.int (bI (lw_adm n kd hv (decide (¬ fc 7 = 0)))))) t S P J (fun K => mx_off (fun c => c = la + 5) I K)) := by
  obtain ⟨hL0, hL1, hL2, hL3, hL4, hL5, hL6, hL7, hL8, hL9, hL10, hL11, hL12⟩ := id hLa
  refine mx_C_of (ls0 := [some (.ref (la)), some (.ref (fa)), none, none]) (by decide +kernel) rfl rfl (Nat.le_of_ble_eq_true rfl) rfl ?_
  refine mx_in_1 d_La_admits_0 ?_
  refine mx_is2 d_La_admits_1 ?_
  refine mx_in_0 d_La_admits_2 ?_
  refine mx_is3 d_La_admits_3 ?_
  refine mx_lsc (congrArg (fun z9 => ([some (.ref (la)), some (.ref (fa)), some (.int (z9)), some (.int (nI (0)))] : List (Option Value))) (rfl)) ?_
  refine mx_loopX (α := (mx_I)) (N := n) (a0 := I) (fun j z9 => mx_off (fun c => c = la + 5) I z9 ∧ ∀ a, a < j → (decide (kd a = 31) && hv a) = false) (ls := fun j z9 => [some (.ref (la)), some (.ref (fa)), some (.int (bI (!(vs_any (fun j9 => decide (kd j9 = 31)) j)))), some (.int (nI (j)))]) (X := fun j z9 => (t, S, z9, P, J)) (⟨mx_off.rf, fun a ha => absurd ha (by omega)⟩) (fun j hj z9 hinv ih => ?_) (fun z9 hinv => ?_)
  · skip
    obtain ⟨K, hz9⟩ : ∃ q, q = z9 := ⟨_, rfl⟩
    subst hz9
    try dsimp only at hinv ih ⊢
    have hR9 : la_rel K la n z L kd am e cs := hR.congr (fun c h1 h2 => hinv.1 c (by show ¬ c = la + 5; omega))
    have hF9 : ∀ k, k < 9 → K fa k = fc k := fun k hk => by rw [hinv.1 fa (by show ¬ fa = la + 5; omega)]; exact hF k hk
    refine mx_il3 d_La_admits_4 ?_
    refine mx_al0 d_La_admits_5 ?_
    refine mx_getI d_La_admits_6 fl_La_15 (by assumption) ?_
    refine mx_ti (y := L) (hR9.1) ?_
    refine mx_icmp_ge 44 d_La_admits_9 (by decide) (fun c_9 => absurd c_9 (ld_in hR.2.1 (by omega) hj)) (fun c_9 => ?_)
    refine mx_al0 d_La_admits_12 ?_
    refine mx_getR d_La_admits_13 fl_La_19 (by assumption) (by assumption) ?_
    refine mx_il3 d_La_admits_16 ?_
    refine mx_cSN2i d_La_admits_17 (c_get (k := j) (by assumption) (by omega) (by omega)) ok_Vh_get ml_La_31 (by decide) (Nat.le_of_ble_eq_true rfl) ?_
    have hkd := (hR9.2.2.1 j (by omega)).1
    refine mx_ti (y := nI (kd j)) ((hR9.2.2.1 j (by omega)).2.2.1) ?_
    refine mx_bip 31 d_La_admits_20 (by decide) ?_
    refine mx_icN_ne 38 d_La_admits_22 (by decide) (by omega) (by omega) (fun c_22 => ?_) (fun c_22 => ?_)
    · skip
      refine mx_iN3 d_La_admits_38 ?_
      refine mx_goto 4 d_La_admits_41 (by decide) ?_
      have e2 : bI (!(vs_any (fun j9 => decide (kd j9 = 31)) j)) = bI (!(vs_any (fun j9 => decide (kd j9 = 31)) (j + 1))) := by rw [vs_any_S]; first | (rw [decide_eq_false c_22, Bool.or_false]; done) | (rw [decide_eq_true c_22, Bool.or_true]; rfl)
      refine mx_lsc (congrArg (fun z9 => ([some (.ref (la)), some (.ref (fa)), some (.int (z9)), some (.int (nI (j + 1)))] : List (Option Value))) e2) ?_
      exact ih K (⟨hinv.1, vs_nextT hinv.2 (by rw [decide_eq_false c_22]; rfl)⟩)
    · skip
      refine mx_in_0 d_La_admits_25 ?_
      refine mx_is2 d_La_admits_26 ?_
      refine mx_al0 d_La_admits_27 ?_
      refine mx_il3 d_La_admits_28 ?_
      refine mx_al1 d_La_admits_29 ?_
      refine mx_cV2iR d_La_admits_30 (c_La_holds hLa hR9 hsem hSf hF9 hfa (j := j) (by omega)) ok_La_holds ml_La_35 (by assumption) ⟨rfl, rfl⟩ (by decide) (Nat.le_of_ble_eq_true rfl) (fun K2 hK2 => ?_)
      refine mx_ifB_eq 38 d_La_admits_33 (by decide) (fun c_33 => ?_) (fun c_33 => ?_)
      · skip
        refine mx_iN3 d_La_admits_38 ?_
        refine mx_goto 4 d_La_admits_41 (by decide) ?_
        have e2 : nI (0) = bI (!(vs_any (fun j9 => decide (kd j9 = 31)) (j + 1))) := by rw [vs_any_S]; first | (rw [decide_eq_false c_22, Bool.or_false]; done) | (rw [decide_eq_true c_22, Bool.or_true]; rfl)
        refine mx_lsc (congrArg (fun z9 => ([some (.ref (la)), some (.ref (fa)), some (.int (z9)), some (.int (nI (j + 1)))] : List (Option Value))) e2) ?_
        exact ih K2 (⟨mx_off.tr hinv.1 hK2, vs_nextT hinv.2 (by rw [c_33]; simp)⟩)
      · skip
        refine mx_in_1 d_La_admits_36 ?_
        exact mx_zret d_La_admits_37 rfl (by first | exact Or.inl rfl | exact Or.inr rfl) (mx_sR_i (by unfold lw_adm; rw [vs_any_t (g := j) (by omega) (by rw [decide_eq_true c_22, c_33]; rfl)]; rfl) (mx_off.tr hinv.1 hK2))
  · skip
    obtain ⟨K, hz9⟩ : ∃ q, q = z9 := ⟨_, rfl⟩
    subst hz9
    try dsimp only at hinv ⊢
    have hR9 : la_rel K la n z L kd am e cs := hR.congr (fun c h1 h2 => hinv.1 c (by show ¬ c = la + 5; omega))
    have hF9 : ∀ k, k < 9 → K fa k = fc k := fun k hk => by rw [hinv.1 fa (by show ¬ fa = la + 5; omega)]; exact hF k hk
    refine mx_il3 d_La_admits_4 ?_
    refine mx_al0 d_La_admits_5 ?_
    refine mx_getI d_La_admits_6 fl_La_15 (by assumption) ?_
    refine mx_ti (y := L) (hR9.1) ?_
    refine mx_icmp_ge 44 d_La_admits_9 (by decide) (fun c_9 => ?_) (fun c_9 => absurd (ld_out hR.2.1) c_9)
    refine mx_il2 d_La_admits_44 ?_
    refine mx_ifB_eq 61 d_La_admits_45 (by decide) (fun c_45 => ?_) (fun c_45 => ?_)
    · skip
      refine mx_in_0 d_La_admits_61 ?_
      exact mx_zret d_La_admits_62 rfl (by first | exact Or.inl rfl | exact Or.inr rfl) (mx_sR_i (by unfold lw_adm; rw [vs_any_f hinv.2]; first | (rw [c_45]; rfl) | (rw [decide_eq_false (fun q => q c_54)]; simp; rfl)) hinv.1)
    · skip
      refine mx_al1 d_La_admits_48 ?_
      refine mx_bip 7 d_La_admits_49 (by decide) ?_
      refine mx_cSN2i d_La_admits_51 (c_get (k := 7) (by assumption) (by omega) (by omega)) ok_Vh_get ml_La_31 (by decide) (Nat.le_of_ble_eq_true rfl) ?_
      refine mx_ti (y := (fc 7)) (hF9 7 (by omega)) ?_
      refine mx_if_eq 61 d_La_admits_54 (by decide) (fun c_54 => ?_) (fun c_54 => ?_)
      · skip
        refine mx_in_0 d_La_admits_61 ?_
        exact mx_zret d_La_admits_62 rfl (by first | exact Or.inl rfl | exact Or.inr rfl) (mx_sR_i (by unfold lw_adm; rw [vs_any_f hinv.2]; first | (rw [c_45]; rfl) | (rw [decide_eq_false (fun q => q c_54)]; simp; rfl)) hinv.1)
      · skip
        refine mx_in_1 d_La_admits_57 ?_
        refine mx_goto 62 d_La_admits_58 (by decide) ?_
        exact mx_zret d_La_admits_62 rfl (by first | exact Or.inl rfl | exact Or.inr rfl) (mx_sR_i (by unfold lw_adm; rw [vs_any_f hinv.2]; rw [c_45, decide_eq_true c_54]; rfl) hinv.1)
theorem c_La_gladness (hLa : la_ok S P la n z) (hR : la_rel I la n z L kd am e cs) (hsem : lw_sem n e cs fc hv) (hSf : S fa = some (1, 9)) (hF : ∀ k, k < 9 → I fa k = fc k) (hfa : fa < la ∨ la + 6 ≤ fa)  : mx_C l E M_La_gladness 2 0 0 [.ref (la), .ref (fa)] (t, S, I, P, J) (mx_sR (some (.int (lw_gl kd am hv n))) t S P J (fun K => mx_off (fun c => c = la + 5) I K)) := by
  obtain ⟨hL0, hL1, hL2, hL3, hL4, hL5, hL6, hL7, hL8, hL9, hL10, hL11, hL12⟩ := id hLa
  refine mx_C_of (ls0 := [some (.ref (la)), some (.ref (fa)), none, none, none]) (by decide +kernel) rfl rfl (Nat.le_of_ble_eq_true rfl) rfl ?_
  refine mx_in_0 d_La_gladness_0 ?_
  refine mx_is2 d_La_gladness_1 ?_
  refine mx_in_0 d_La_gladness_2 ?_
  refine mx_is3 d_La_gladness_3 ?_
  refine mx_loopX (α := (mx_I)) (N := n) (a0 := I) (fun j z9 => mx_off (fun c => c = la + 5) I z9 ∧ True) (ls := fun j z9 => [some (.ref (la)), some (.ref (fa)), some (.int ((lw_gl kd am hv j))), some (.int (nI (j))), none]) (X := fun j z9 => (t, S, z9, P, J)) (⟨mx_off.rf, trivial⟩) (fun j hj z9 hinv ih => ?_) (fun z9 hinv => ?_)
  · skip
    obtain ⟨K, hz9⟩ : ∃ q, q = z9 := ⟨_, rfl⟩
    subst hz9
    try dsimp only at hinv ih ⊢
    have hR9 : la_rel K la n z L kd am e cs := hR.congr (fun c h1 h2 => hinv.1 c (by show ¬ c = la + 5; omega))
    have hF9 : ∀ k, k < 9 → K fa k = fc k := fun k hk => by rw [hinv.1 fa (by show ¬ fa = la + 5; omega)]; exact hF k hk
    refine mx_il3 d_La_gladness_4 ?_
    refine mx_al0 d_La_gladness_5 ?_
    refine mx_getI d_La_gladness_6 fl_La_15 (by assumption) ?_
    refine mx_ti (y := L) (hR9.1) ?_
    refine mx_icmp_ge 74 d_La_gladness_9 (by decide) (fun c_9 => absurd c_9 (ld_in hR.2.1 (by omega) hj)) (fun c_9 => ?_)
    refine mx_al0 d_La_gladness_12 ?_
    refine mx_getR d_La_gladness_13 fl_La_19 (by assumption) (by assumption) ?_
    refine mx_il3 d_La_gladness_16 ?_
    refine mx_cSN2i d_La_gladness_17 (c_get (k := j) (by assumption) (by omega) (by omega)) ok_Vh_get ml_La_31 (by decide) (Nat.le_of_ble_eq_true rfl) ?_
    have hkd := (hR9.2.2.1 j (by omega)).1
    refine mx_ti (y := nI (kd j)) ((hR9.2.2.1 j (by omega)).2.2.1) ?_
    refine mx_is4 d_La_gladness_20 ?_
    refine mx_il4 d_La_gladness_22 ?_
    refine mx_bip 31 d_La_gladness_24 (by decide) ?_
    refine mx_icN_eq 68 d_La_gladness_26 (by decide) (by omega) (by omega) (fun c_26 => ?_) (fun c_26 => ?_)
    · skip
      refine mx_iN3 d_La_gladness_68 ?_
      refine mx_goto 4 d_La_gladness_71 (by decide) ?_
      refine mx_dn4 ?_
      have e2 : (lw_gl kd am hv j) = (lw_gl kd am hv (j + 1)) := by rw [lw_gl_s]; first | (rw [if_neg (fun q => q.1 c_26)]; done) | (rw [if_neg (fun q => absurd q.2 (by rw [c_35]; decide))]; done) | (rw [if_pos ⟨c_26, c_35⟩, if_neg c_43]; done) | (rw [if_pos ⟨c_26, c_35⟩, if_pos c_43]; done)
      refine mx_lsc (congrArg (fun z9 => ([some (.ref (la)), some (.ref (fa)), some (.int (z9)), some (.int (nI (j + 1))), none] : List (Option Value))) e2) ?_
      exact ih K (⟨hinv.1, trivial⟩)
    · skip
      refine mx_al0 d_La_gladness_29 ?_
      refine mx_il3 d_La_gladness_30 ?_
      refine mx_al1 d_La_gladness_31 ?_
      refine mx_cV2iR d_La_gladness_32 (c_La_holds hLa hR9 hsem hSf hF9 hfa (j := j) (by omega)) ok_La_holds ml_La_35 (by assumption) ⟨rfl, rfl⟩ (by decide) (Nat.le_of_ble_eq_true rfl) (fun K2 hK2 => ?_)
      refine mx_ifB_eq 68 d_La_gladness_35 (by decide) (fun c_35 => ?_) (fun c_35 => ?_)
      · skip
        refine mx_iN3 d_La_gladness_68 ?_
        refine mx_goto 4 d_La_gladness_71 (by decide) ?_
        refine mx_dn4 ?_
        have e2 : (lw_gl kd am hv j) = (lw_gl kd am hv (j + 1)) := by rw [lw_gl_s]; first | (rw [if_neg (fun q => q.1 c_26)]; done) | (rw [if_neg (fun q => absurd q.2 (by rw [c_35]; decide))]; done) | (rw [if_pos ⟨c_26, c_35⟩, if_neg c_43]; done) | (rw [if_pos ⟨c_26, c_35⟩, if_pos c_43]; done)
        refine mx_lsc (congrArg (fun z9 => ([some (.ref (la)), some (.ref (fa)), some (.int (z9)), some (.int (nI (j + 1))), none] : List (Option Value))) e2) ?_
        exact ih K2 (⟨mx_off.tr hinv.1 hK2, trivial⟩)
      · skip
        have hR8 : la_rel K2 la n z L kd am e cs := hR9.congr (fun c h1 h2 => hK2 c (by show ¬ c = la + 5; omega))
        refine mx_il2 d_La_gladness_38 ?_
        refine mx_il4 d_La_gladness_39 ?_
        refine mx_bip 29 d_La_gladness_41 (by decide) ?_
        refine mx_icN_ne 57 d_La_gladness_43 (by decide) (by omega) (by omega) (fun c_43 => ?_) (fun c_43 => ?_)
        · skip
          refine mx_al0 d_La_gladness_57 ?_
          refine mx_getR d_La_gladness_58 fl_La_22 (by assumption) (by assumption) ?_
          refine mx_il3 d_La_gladness_61 ?_
          refine mx_cSN2i d_La_gladness_62 (c_get (k := j) (by assumption) (by omega) (by omega)) ok_Vh_get ml_La_31 (by decide) (Nat.le_of_ble_eq_true rfl) ?_
          refine mx_ti (y := nI (am j)) ((hR8.2.2.1 j (by omega)).2.2.2.1) ?_
          refine mx_ineg d_La_gladness_65 ?_
          refine mx_iadd d_La_gladness_66 ?_
          refine mx_is2 d_La_gladness_67 ?_
          refine mx_iN3 d_La_gladness_68 ?_
          refine mx_goto 4 d_La_gladness_71 (by decide) ?_
          refine mx_dn4 ?_
          have e2 : ((lw_gl kd am hv j) + (-nI (am j))) = (lw_gl kd am hv (j + 1)) := by rw [lw_gl_s]; first | (rw [if_neg (fun q => q.1 c_26)]; done) | (rw [if_neg (fun q => absurd q.2 (by rw [c_35]; decide))]; done) | (rw [if_pos ⟨c_26, c_35⟩, if_neg c_43]; done) | (rw [if_pos ⟨c_26, c_35⟩, if_pos c_43]; done)
          refine mx_lsc (congrArg (fun z9 => ([some (.ref (la)), some (.ref (fa)), some (.int (z9)), some (.int (nI (j + 1))), none] : List (Option Value))) e2) ?_
          exact ih K2 (⟨mx_off.tr hinv.1 hK2, trivial⟩)
        · skip
          refine mx_al0 d_La_gladness_46 ?_
          refine mx_getR d_La_gladness_47 fl_La_22 (by assumption) (by assumption) ?_
          refine mx_il3 d_La_gladness_50 ?_
          refine mx_cSN2i d_La_gladness_51 (c_get (k := j) (by assumption) (by omega) (by omega)) ok_Vh_get ml_La_31 (by decide) (Nat.le_of_ble_eq_true rfl) ?_
          refine mx_ti (y := nI (am j)) ((hR8.2.2.1 j (by omega)).2.2.2.1) ?_
          refine mx_goto 66 d_La_gladness_54 (by decide) ?_
          refine mx_iadd d_La_gladness_66 ?_
          refine mx_is2 d_La_gladness_67 ?_
          refine mx_iN3 d_La_gladness_68 ?_
          refine mx_goto 4 d_La_gladness_71 (by decide) ?_
          refine mx_dn4 ?_
          have e2 : ((lw_gl kd am hv j) + nI (am j)) = (lw_gl kd am hv (j + 1)) := by rw [lw_gl_s]; first | (rw [if_neg (fun q => q.1 c_26)]; done) | (rw [if_neg (fun q => absurd q.2 (by rw [c_35]; decide))]; done) | (rw [if_pos ⟨c_26, c_35⟩, if_neg c_43]; done) | (rw [if_pos ⟨c_26, c_35⟩, if_pos c_43]; done)
          refine mx_lsc (congrArg (fun z9 => ([some (.ref (la)), some (.ref (fa)), some (.int (z9)), some (.int (nI (j + 1))), none] : List (Option Value))) e2) ?_
          exact ih K2 (⟨mx_off.tr hinv.1 hK2, trivial⟩)
  · skip
    obtain ⟨K, hz9⟩ : ∃ q, q = z9 := ⟨_, rfl⟩
    subst hz9
    try dsimp only at hinv ⊢
    have hR9 : la_rel K la n z L kd am e cs := hR.congr (fun c h1 h2 => hinv.1 c (by show ¬ c = la + 5; omega))
    have hF9 : ∀ k, k < 9 → K fa k = fc k := fun k hk => by rw [hinv.1 fa (by show ¬ fa = la + 5; omega)]; exact hF k hk
    refine mx_il3 d_La_gladness_4 ?_
    refine mx_al0 d_La_gladness_5 ?_
    refine mx_getI d_La_gladness_6 fl_La_15 (by assumption) ?_
    refine mx_ti (y := L) (hR9.1) ?_
    refine mx_icmp_ge 74 d_La_gladness_9 (by decide) (fun c_9 => ?_) (fun c_9 => absurd (ld_out hR.2.1) c_9)
    refine mx_il2 d_La_gladness_74 ?_
    exact mx_iret d_La_gladness_75 rfl (mx_sR_i rfl hinv.1)
end AD38
