/-! WHAT THE LAW SAYS OF A MEETING -/
abbrev lwD : Type := Nat × Nat × Int32 × (Nat → Nat) × (Nat → Nat) × (Nat → Nat) × (Nat → Int32) × ((Nat → Int32) → Nat → Bool)
def lwN (D : lwD) : Nat := D.1
def lwZ (D : lwD) : Nat := D.2.1
def lwL (D : lwD) : Int32 := D.2.2.1
def lwK (D : lwD) : Nat → Nat := D.2.2.2.1
def lwM (D : lwD) : Nat → Nat := D.2.2.2.2.1
def lwE (D : lwD) : Nat → Nat := D.2.2.2.2.2.1
def lwC (D : lwD) : Nat → Int32 := D.2.2.2.2.2.2.1
def lwV (D : lwD) : (Nat → Int32) → Nat → Bool := D.2.2.2.2.2.2.2
/-- the law of the class at la -/
def la_is (S : mx_S) (P : mx_P) (I : mx_I) (la : Nat) (D : lwD) : Prop := la_ok S P la (lwN D) (lwZ D) ∧ la_rel I la (lwN D) (lwZ D) (lwL D) (lwK D) (lwM D) (lwE D) (lwC D) ∧ ∀ fc, lw_sem (lwN D) (lwE D) (lwC D) fc (lwV D fc)
def vs_fc (m : Nat → Int32) (h g q : Nat) : Nat → Int32 := fun k => [nI h, nI g, nI q, m (11 + 4 * h + 3), m (67 + 8 * h + g), m (131 + 8 * g + h), m 6, bI (vs_pass m (m (43 + 3 * g + 2))), bI (decide (m (195 + 8 * h + q) = nI g))].getD k 0
def vs_lt (D : lwD) (m : Nat → Int32) (h g q : Nat) : Bool := lw_adm (lwN D) (lwK D) (lwV D (vs_fc m h g q)) (vs_pass m (m (43 + 3 * g + 2)))
def vs_gl (D : lwD) (m : Nat → Int32) (h g q : Nat) : Int32 := lw_gl (lwK D) (lwM D) (lwV D (vs_fc m h g q)) (lwN D)
def vs_jy (D : lwD) (m : Nat → Int32) (h g q : Nat) : Int32 := if m (67 + 8 * h + g) + vs_gl D m h g q < 0 then nI 0 else m (67 + 8 * h + g) + vs_gl D m h g q
def vs_mt (D : lwD) (m : Nat → Int32) (h q : Nat) : Bool := decide (¬ m (195 + 8 * h + q) = -1) && (vs_can m h (m (195 + 8 * h + q)).toNatClampNeg q && vs_lt D m h (m (195 + 8 * h + q)).toNatClampNeg q)
theorem vs_mt_n {D : lwD} {m : Nat → Int32} {h q : Nat} (e : m (195 + 8 * h + q) = -1) : vs_mt D m h q = false := by unfold vs_mt; rw [decide_eq_false (fun z => z e)]; rfl
theorem vs_mt_g {D : lwD} {m : Nat → Int32} {h q g : Nat} (hg : g < 8) (e : m (195 + 8 * h + q) = nI g) : vs_mt D m h q = (vs_can m h g q && vs_lt D m h g q) := by
  unfold vs_mt; rw [e, nI_clamp (by omega), decide_eq_true (nI_m1 hg)]; rfl
def vs_mq (D : lwD) (m : Nat → Int32) (h n : Nat) : Int32 := vf n (fun q s => if vs_mt D m h q = true then s ||| (nI 1 <<< (nI q &&& 31)) else s) (nI 0)
theorem vs_mq_s (D : lwD) (m : Nat → Int32) (h n : Nat) : vs_mq D m h (n + 1) = if vs_mt D m h n = true then vs_mq D m h n ||| (nI 1 <<< (nI n &&& 31)) else vs_mq D m h n := rfl
theorem bI_ne0 (b : Bool) : decide (¬ bI b = 0) = b := by cases b <;> decide
/-- the scratch of a question to the law -/
def zs (s la : Nat) : Nat → Prop := fun c => c = s + 14 ∨ c = la + 5
theorem st_rel.cg {I K : mx_I} {m : Nat → Int32} {r : Nat} (h : st_rel I r m) (e : ∀ c, r ≤ c → c < r + 14 → K c = I c) : st_rel K r m := by
  obtain ⟨hp, h⟩ := h
  refine ⟨hp.congr (fun c h1 h2 => e c (by omega) (by omega)), ?_⟩
  rw [e r (by omega) (by omega), e (r + 11) (by omega) (by omega), e (r + 12) (by omega) (by omega), e (r + 13) (by omega) (by omega)]
  exact h
theorem zs_st {I K : mx_I} {m : Nat → Int32} {s la : Nat} (hd : la + 6 ≤ s ∨ s + 15 ≤ la) (h : mx_off (zs s la) I K) (hs : st_rel I s m) : st_rel K s m := hs.cg (fun c h1 h2 => h c (by unfold zs; omega))
theorem zs_la {S : mx_S} {P : mx_P} {I K : mx_I} {D : lwD} {s la : Nat} (hd : la + 6 ≤ s ∨ s + 15 ≤ la) (h : mx_off (zs s la) I K) (hl : la_is S P I la D) : la_is S P K la D := ⟨hl.1, hl.2.1.congr (fun c h1 h2 => h c (by unfold zs; omega)), hl.2.2⟩
section AE39
variable {l : Launch} {E : mx_Env} {t : Nat} {S : mx_S} {I : mx_I} {P : mx_P} {J : mx_G} {m : Nat → Int32} {x mo H G n s la : Nat} {D : lwD}
theorem c_St_factsOf (hSt : st_ok S P s) (hSr : st_rel I s m) {h g q : Nat} (hh : h < 8) (hg : g < 8) (hq : q < 8) : mx_C l E M_St_factsOf 3 0 0 [.ref (s), .int (nI (h)), .int (nI (g)), .int (nI (q))] (t, S, I, P, J) (mx_sR (some (.ref (s + 14))) t S P J (fun K => mx_off (fun c => c = s + 14) I K ∧ ∀ k, k < 9 → K (s + 14) k = vs_fc m h g q k)) := by
  obtain ⟨hC0, hC1, hC2, hC3, hC4, hC5, hC6, hD1, hD2, hD3, hD4, hPe, hLo⟩ := id hSt
  obtain ⟨w0, w1, w2, w3, w4, w5, w6, w7, w8, w9⟩ := id hSr
  have hPe0 := hPe.1
  refine mx_C_of (ls0 := [some (.ref (s)), some (.int (nI (h))), some (.int (nI (g))), some (.int (nI (q)))]) (by decide +kernel) rfl rfl (Nat.le_of_ble_eq_true rfl) rfl ?_
  refine mx_al0 d_St_factsOf_0 ?_
  refine mx_getR d_St_factsOf_1 fl_St_57 (by assumption) (by assumption) ?_
  refine mx_in_0 d_St_factsOf_4 ?_
  refine mx_il1 d_St_factsOf_5 ?_
  refine mx_cSN3v d_St_factsOf_6 (c_put (k := 0) (by assumption) (by omega) (by omega)) ok_Vh_put ml_St_79 (by decide) (Nat.le_of_ble_eq_true rfl) ?_
  refine mx_al0 d_St_factsOf_9 ?_
  refine mx_getR d_St_factsOf_10 fl_St_57 (by assumption) (by assumption) ?_
  refine mx_in_1 d_St_factsOf_13 ?_
  refine mx_il2 d_St_factsOf_14 ?_
  refine mx_cSN3v d_St_factsOf_15 (c_put (k := 1) (by assumption) (by omega) (by omega)) ok_Vh_put ml_St_79 (by decide) (Nat.le_of_ble_eq_true rfl) ?_
  refine mx_al0 d_St_factsOf_18 ?_
  refine mx_getR d_St_factsOf_19 fl_St_57 (by assumption) (by assumption) ?_
  refine mx_in_2 d_St_factsOf_22 ?_
  refine mx_il3 d_St_factsOf_23 ?_
  refine mx_cSN3v d_St_factsOf_24 (c_put (k := 2) (by assumption) (by omega) (by omega)) ok_Vh_put ml_St_79 (by decide) (Nat.le_of_ble_eq_true rfl) ?_
  refine mx_al0 d_St_factsOf_27 ?_
  refine mx_getR d_St_factsOf_28 fl_St_57 (by assumption) (by assumption) ?_
  refine mx_in_3 d_St_factsOf_31 ?_
  refine mx_al0 d_St_factsOf_32 ?_
  refine mx_getR d_St_factsOf_33 fl_St_51 (by assumption) (by assumption) ?_
  refine mx_il1 d_St_factsOf_36 ?_
  refine mx_cSN2i d_St_factsOf_37 (c_get (k := h) (by assumption) (by omega) (by omega)) ok_Vh_get ml_St_75 (by decide) (Nat.le_of_ble_eq_true rfl) ?_
  refine mx_ti (y := (m (11 + 4 * h + 3))) ((by (repeat rw [mx_up_ne (by omega)]); exact w8 h hh)) ?_
  refine mx_cSN3v d_St_factsOf_40 (c_put (k := 3) (by assumption) (by omega) (by omega)) ok_Vh_put ml_St_79 (by decide) (Nat.le_of_ble_eq_true rfl) ?_
  refine mx_al0 d_St_factsOf_43 ?_
  refine mx_getR d_St_factsOf_44 fl_St_57 (by assumption) (by assumption) ?_
  refine mx_in_4 d_St_factsOf_47 ?_
  refine mx_al0 d_St_factsOf_48 ?_
  refine mx_getR d_St_factsOf_49 fl_St_12 (by assumption) (by assumption) ?_
  refine mx_il1 d_St_factsOf_52 ?_
  refine mx_il2 d_St_factsOf_53 ?_
  refine mx_in_1 d_St_factsOf_54 ?_
  refine mx_cV3i d_St_factsOf_55 (c_Pe_rank1 hPe (w0.congr (fun c h1 h2 => (by first | rfl | (repeat rw [mx_up_ne (by omega)])))) (h := h) (g := g) (by omega) (by omega)) ok_Pe_rankOf ml_St_96 (by assumption) ⟨rfl, rfl⟩ (by decide) (Nat.le_of_ble_eq_true rfl) ?_
  refine mx_cSN3v d_St_factsOf_58 (c_put (k := 4) (by assumption) (by omega) (by omega)) ok_Vh_put ml_St_79 (by decide) (Nat.le_of_ble_eq_true rfl) ?_
  refine mx_al0 d_St_factsOf_61 ?_
  refine mx_getR d_St_factsOf_62 fl_St_57 (by assumption) (by assumption) ?_
  refine mx_in_5 d_St_factsOf_65 ?_
  refine mx_al0 d_St_factsOf_66 ?_
  refine mx_getR d_St_factsOf_67 fl_St_12 (by assumption) (by assumption) ?_
  refine mx_il1 d_St_factsOf_70 ?_
  refine mx_il2 d_St_factsOf_71 ?_
  refine mx_in_0 d_St_factsOf_72 ?_
  refine mx_cV3i d_St_factsOf_73 (c_Pe_rank0 hPe (w0.congr (fun c h1 h2 => (by first | rfl | (repeat rw [mx_up_ne (by omega)])))) (h := h) (g := g) (by omega) (by omega)) ok_Pe_rankOf ml_St_96 (by assumption) ⟨rfl, rfl⟩ (by decide) (Nat.le_of_ble_eq_true rfl) ?_
  refine mx_cSN3v d_St_factsOf_76 (c_put (k := 5) (by assumption) (by omega) (by omega)) ok_Vh_put ml_St_79 (by decide) (Nat.le_of_ble_eq_true rfl) ?_
  refine mx_al0 d_St_factsOf_79 ?_
  refine mx_getR d_St_factsOf_80 fl_St_57 (by assumption) (by assumption) ?_
  refine mx_bip 6 d_St_factsOf_83 (by decide) ?_
  refine mx_al0 d_St_factsOf_85 ?_
  refine mx_getI d_St_factsOf_86 fl_St_32 (by assumption) ?_
  refine mx_ti (y := (m 6)) ((by (repeat rw [mx_up_ne (by omega)]); exact w3)) ?_
  refine mx_cSN3v d_St_factsOf_89 (c_put (k := 6) (by assumption) (by omega) (by omega)) ok_Vh_put ml_St_79 (by decide) (Nat.le_of_ble_eq_true rfl) ?_
  refine mx_al0 d_St_factsOf_92 ?_
  refine mx_getR d_St_factsOf_93 fl_St_57 (by assumption) (by assumption) ?_
  refine mx_bip 7 d_St_factsOf_96 (by decide) ?_
  refine mx_al0 d_St_factsOf_98 ?_
  refine mx_il2 d_St_factsOf_99 ?_
  refine mx_cV1i d_St_factsOf_100 (c_St_isMarked hSt (hSr.cg (fun c h1 h2 => (by first | rfl | (repeat rw [mx_up_ne (by omega)])))) (g := g) (by omega)) ok_St_isMarked ml_St_100 (by assumption) ⟨rfl, rfl⟩ (by decide) (Nat.le_of_ble_eq_true rfl) ?_
  refine mx_ifB_eq 110 d_St_factsOf_103 (by decide) (fun c_103 => ?_) (fun c_103 => ?_)
  · skip
    refine mx_in_0 d_St_factsOf_110 ?_
    refine mx_cSN3v d_St_factsOf_111 (c_put (k := 7) (by assumption) (by omega) (by omega)) ok_Vh_put ml_St_79 (by decide) (Nat.le_of_ble_eq_true rfl) ?_
    refine mx_al0 d_St_factsOf_114 ?_
    refine mx_getR d_St_factsOf_115 fl_St_57 (by assumption) (by assumption) ?_
    refine mx_bip 8 d_St_factsOf_118 (by decide) ?_
    refine mx_al0 d_St_factsOf_120 ?_
    refine mx_il1 d_St_factsOf_121 ?_
    refine mx_il3 d_St_factsOf_122 ?_
    refine mx_cV2i d_St_factsOf_123 (c_St_guestAt hSt (hSr.cg (fun c h1 h2 => (by first | rfl | (repeat rw [mx_up_ne (by omega)])))) (h := h) (q := q) (by omega) (by omega)) ok_St_guestAt ml_St_86 (by assumption) ⟨rfl, rfl⟩ (by decide) (Nat.le_of_ble_eq_true rfl) ?_
    refine mx_il2 d_St_factsOf_126 ?_
    refine mx_icmp_ne 134 d_St_factsOf_127 (by decide) (fun c_127 => ?_) (fun c_127 => ?_)
    · skip
      refine mx_in_0 d_St_factsOf_134 ?_
      refine mx_cSN3v d_St_factsOf_135 (c_put (k := 8) (by assumption) (by omega) (by omega)) ok_Vh_put ml_St_79 (by decide) (Nat.le_of_ble_eq_true rfl) ?_
      refine mx_al0 d_St_factsOf_138 ?_
      refine mx_getR d_St_factsOf_139 fl_St_57 (by assumption) (by assumption) ?_
      exact mx_aret d_St_factsOf_142 rfl (by first | exact Or.inl ⟨_, rfl⟩ | exact Or.inr ⟨_, rfl⟩) (mx_sR_of rfl ⟨fun c hc => (by (repeat rw [mx_up_ne hc])), fun k hk => by rcases (by omega : k = 0 ∨ k = 1 ∨ k = 2 ∨ k = 3 ∨ k = 4 ∨ k = 5 ∨ k = 6 ∨ k = 7 ∨ k = 8) with rfl | rfl | rfl | rfl | rfl | rfl | rfl | rfl | rfl <;> simp [mx_up, vs_fc, bI, *]⟩)
    · skip
      refine mx_in_1 d_St_factsOf_130 ?_
      refine mx_goto 135 d_St_factsOf_131 (by decide) ?_
      refine mx_cSN3v d_St_factsOf_135 (c_put (k := 8) (by assumption) (by omega) (by omega)) ok_Vh_put ml_St_79 (by decide) (Nat.le_of_ble_eq_true rfl) ?_
      refine mx_al0 d_St_factsOf_138 ?_
      refine mx_getR d_St_factsOf_139 fl_St_57 (by assumption) (by assumption) ?_
      exact mx_aret d_St_factsOf_142 rfl (by first | exact Or.inl ⟨_, rfl⟩ | exact Or.inr ⟨_, rfl⟩) (mx_sR_of rfl ⟨fun c hc => (by (repeat rw [mx_up_ne hc])), fun k hk => by rcases (by omega : k = 0 ∨ k = 1 ∨ k = 2 ∨ k = 3 ∨ k = 4 ∨ k = 5 ∨ k = 6 ∨ k = 7 ∨ k = 8) with rfl | rfl | rfl | rfl | rfl | rfl | rfl | rfl | rfl <;> simp [mx_up, vs_fc, bI, *]⟩)
  · skip
    refine mx_in_1 d_St_factsOf_106 ?_
    refine mx_goto 111 d_St_factsOf_107 (by decide) ?_
    refine mx_cSN3v d_St_factsOf_111 (c_put (k := 7) (by assumption) (by omega) (by omega)) ok_Vh_put ml_St_79 (by decide) (Nat.le_of_ble_eq_true rfl) ?_
    refine mx_al0 d_St_factsOf_114 ?_
    refine mx_getR d_St_factsOf_115 fl_St_57 (by assumption) (by assumption) ?_
    refine mx_bip 8 d_St_factsOf_118 (by decide) ?_
    refine mx_al0 d_St_factsOf_120 ?_
    refine mx_il1 d_St_factsOf_121 ?_
    refine mx_il3 d_St_factsOf_122 ?_
    refine mx_cV2i d_St_factsOf_123 (c_St_guestAt hSt (hSr.cg (fun c h1 h2 => (by first | rfl | (repeat rw [mx_up_ne (by omega)])))) (h := h) (q := q) (by omega) (by omega)) ok_St_guestAt ml_St_86 (by assumption) ⟨rfl, rfl⟩ (by decide) (Nat.le_of_ble_eq_true rfl) ?_
    refine mx_il2 d_St_factsOf_126 ?_
    refine mx_icmp_ne 134 d_St_factsOf_127 (by decide) (fun c_127 => ?_) (fun c_127 => ?_)
    · skip
      refine mx_in_0 d_St_factsOf_134 ?_
      refine mx_cSN3v d_St_factsOf_135 (c_put (k := 8) (by assumption) (by omega) (by omega)) ok_Vh_put ml_St_79 (by decide) (Nat.le_of_ble_eq_true rfl) ?_
      refine mx_al0 d_St_factsOf_138 ?_
      refine mx_getR d_St_factsOf_139 fl_St_57 (by assumption) (by assumption) ?_
      exact mx_aret d_St_factsOf_142 rfl (by first | exact Or.inl ⟨_, rfl⟩ | exact Or.inr ⟨_, rfl⟩) (mx_sR_of rfl ⟨fun c hc => (by (repeat rw [mx_up_ne hc])), fun k hk => by rcases (by omega : k = 0 ∨ k = 1 ∨ k = 2 ∨ k = 3 ∨ k = 4 ∨ k = 5 ∨ k = 6 ∨ k = 7 ∨ k = 8) with rfl | rfl | rfl | rfl | rfl | rfl | rfl | rfl | rfl <;> simp [mx_up, vs_fc, bI, *]⟩)
    · skip
      refine mx_in_1 d_St_factsOf_130 ?_
      refine mx_goto 135 d_St_factsOf_131 (by decide) ?_
      refine mx_cSN3v d_St_factsOf_135 (c_put (k := 8) (by assumption) (by omega) (by omega)) ok_Vh_put ml_St_79 (by decide) (Nat.le_of_ble_eq_true rfl) ?_
      refine mx_al0 d_St_factsOf_138 ?_
      refine mx_getR d_St_factsOf_139 fl_St_57 (by assumption) (by assumption) ?_
      exact mx_aret d_St_factsOf_142 rfl (by first | exact Or.inl ⟨_, rfl⟩ | exact Or.inr ⟨_, rfl⟩) (mx_sR_of rfl ⟨fun c hc => (by (repeat rw [mx_up_ne hc])), fun k hk => by rcases (by omega : k = 0 ∨ k = 1 ∨ k = 2 ∨ k = 3 ∨ k = 4 ∨ k = 5 ∨ k = 6 ∨ k = 7 ∨ k = 8) with rfl | rfl | rfl | rfl | rfl | rfl | rfl | rfl | rfl <;> simp [mx_up, vs_fc, bI, *]⟩)
theorem c_St_isLetIn (hSt : st_ok S P s) (hSr : st_rel I s m) (hla : P s 2 = some la) (hLw : la_is S P I la D) (hd : la + 6 ≤ s ∨ s + 15 ≤ la) {h g q : Nat} (hh : h < 8) (hg : g < 8) (hq : q < 8) : mx_C l E M_St_isLetIn 4 0 0 [.ref (s), .int (nI (h)), .int (nI (g)), .int (nI (q))] (t, S, I, P, J) (mx_sR (some (.int (bI (vs_lt D m h g q)))) t S P J (fun K => mx_off (zs s la) I K)) := by
  obtain ⟨hC0, hC1, hC2, hC3, hC4, hC5, hC6, hD1, hD2, hD3, hD4, hPe, hLo⟩ := id hSt
  have hC99 : S (s + 14) = some (1, 9) := hSt.2.2.2.2.2.2.2.2.2.2.1
  have hLa0 := hLw.1.1
  refine mx_C_of (ls0 := [some (.ref (s)), some (.int (nI (h))), some (.int (nI (g))), some (.int (nI (q)))]) (by decide +kernel) rfl rfl (Nat.le_of_ble_eq_true rfl) rfl ?_
  refine mx_al0 d_St_isLetIn_0 ?_
  refine mx_getR d_St_isLetIn_1 fl_St_60 (by assumption) (by assumption) ?_
  refine mx_al0 d_St_isLetIn_4 ?_
  refine mx_il1 d_St_isLetIn_5 ?_
  refine mx_il2 d_St_isLetIn_6 ?_
  refine mx_il3 d_St_isLetIn_7 ?_
  refine mx_cV3rR d_St_isLetIn_8 (c_St_factsOf hSt hSr (h := h) (g := g) (q := q) (by omega) (by omega) (by omega)) ok_St_factsOf ml_St_104 (by assumption) ⟨rfl, rfl⟩ (by decide) (Nat.le_of_ble_eq_true rfl) (fun K1 hK1 => ?_)
  refine mx_cV1iR d_St_isLetIn_11 (c_La_admits hLw.1 (hLw.2.1.congr (fun c h1 h2 => hK1.1 c (by show ¬ c = s + 14; omega))) (hLw.2.2 (vs_fc m h g q)) hC99 hK1.2 (by omega)) ok_La_admits ml_St_108 (by assumption) ⟨rfl, rfl⟩ (by decide) (Nat.le_of_ble_eq_true rfl) (fun K2 hK2 => ?_)
  exact mx_zret d_St_isLetIn_14 rfl (bI_01 _) (mx_sR_i (by unfold vs_lt; rw [show decide (¬ vs_fc m h g q 7 = 0) = vs_pass m (m (43 + 3 * g + 2)) from bI_ne0 _]) (fun c hc => (hK2 c (fun z => hc (Or.inr z))).trans (hK1.1 c (fun z => hc (Or.inl z)))))
theorem c_St_joyOf (hSt : st_ok S P s) (hSr : st_rel I s m) (hla : P s 2 = some la) (hLw : la_is S P I la D) (hd : la + 6 ≤ s ∨ s + 15 ≤ la) {h g q : Nat} (hh : h < 8) (hg : g < 8) (hq : q < 8) : mx_C l E M_St_joyOf 4 0 0 [.ref (s), .int (nI (h)), .int (nI (g)), .int (nI (q))] (t, S, I, P, J) (mx_sR (some (.int (vs_jy D m h g q))) t S P J (fun K => mx_off (zs s la) I K)) := by
  obtain ⟨hC0, hC1, hC2, hC3, hC4, hC5, hC6, hD1, hD2, hD3, hD4, hPe, hLo⟩ := id hSt
  obtain ⟨w0, w1, w2, w3, w4, w5, w6, w7, w8, w9⟩ := id hSr
  have hPe0 := hPe.1
  have hC99 : S (s + 14) = some (1, 9) := hSt.2.2.2.2.2.2.2.2.2.2.1
  have hLa0 := hLw.1.1
  refine mx_C_of (ls0 := [some (.ref (s)), some (.int (nI (h))), some (.int (nI (g))), some (.int (nI (q))), none]) (by decide +kernel) rfl rfl (Nat.le_of_ble_eq_true rfl) rfl ?_
  refine mx_al0 d_St_joyOf_0 ?_
  refine mx_getR d_St_joyOf_1 fl_St_12 (by assumption) (by assumption) ?_
  refine mx_il1 d_St_joyOf_4 ?_
  refine mx_il2 d_St_joyOf_5 ?_
  refine mx_in_1 d_St_joyOf_6 ?_
  refine mx_cV3i d_St_joyOf_7 (c_Pe_rank1 hPe (w0.congr (fun c h1 h2 => (by first | rfl | (repeat rw [mx_up_ne (by omega)])))) (h := h) (g := g) (by omega) (by omega)) ok_Pe_rankOf ml_St_96 (by assumption) ⟨rfl, rfl⟩ (by decide) (Nat.le_of_ble_eq_true rfl) ?_
  refine mx_al0 d_St_joyOf_10 ?_
  refine mx_getR d_St_joyOf_11 fl_St_60 (by assumption) (by assumption) ?_
  refine mx_al0 d_St_joyOf_14 ?_
  refine mx_il1 d_St_joyOf_15 ?_
  refine mx_il2 d_St_joyOf_16 ?_
  refine mx_il3 d_St_joyOf_17 ?_
  refine mx_cV3rR d_St_joyOf_18 (c_St_factsOf hSt hSr (h := h) (g := g) (q := q) (by omega) (by omega) (by omega)) ok_St_factsOf ml_St_104 (by assumption) ⟨rfl, rfl⟩ (by decide) (Nat.le_of_ble_eq_true rfl) (fun K1 hK1 => ?_)
  refine mx_cV1iR d_St_joyOf_21 (c_La_gladness hLw.1 (hLw.2.1.congr (fun c h1 h2 => hK1.1 c (by show ¬ c = s + 14; omega))) (hLw.2.2 (vs_fc m h g q)) hC99 hK1.2 (by omega)) ok_La_gladness ml_St_114 (by assumption) ⟨rfl, rfl⟩ (by decide) (Nat.le_of_ble_eq_true rfl) (fun K2 hK2 => ?_)
  refine mx_iadd d_St_joyOf_24 ?_
  refine mx_is4 d_St_joyOf_25 ?_
  refine mx_il4 d_St_joyOf_27 ?_
  refine mx_if_ge 36 d_St_joyOf_29 (by decide) (fun c_29 => ?_) (fun c_29 => ?_)
  · skip
    refine mx_il4 d_St_joyOf_36 ?_
    exact mx_iret d_St_joyOf_38 rfl (mx_sR_i (by unfold vs_jy vs_gl; first | (rw [if_pos (Int32.not_le.mp c_29)]; done) | (rw [if_neg (Int32.not_lt.mpr c_29)]; done)) (fun c hc => (hK2 c (fun z => hc (Or.inr z))).trans (hK1.1 c (fun z => hc (Or.inl z)))))
  · skip
    refine mx_in_0 d_St_joyOf_32 ?_
    refine mx_goto 38 d_St_joyOf_33 (by decide) ?_
    exact mx_iret d_St_joyOf_38 rfl (mx_sR_i (by unfold vs_jy vs_gl; first | (rw [if_pos (Int32.not_le.mp c_29)]; done) | (rw [if_neg (Int32.not_lt.mpr c_29)]; done)) (fun c hc => (hK2 c (fun z => hc (Or.inr z))).trans (hK1.1 c (fun z => hc (Or.inl z)))))
theorem c_St_meetsAt (hSt : st_ok S P s) (hSr : st_rel I s m) (hla : P s 2 = some la) (hLw : la_is S P I la D) (hd : la + 6 ≤ s ∨ s + 15 ≤ la) (hr : rk9 m) (hbr : br_ok m G) (hG8 : G ≤ 8) {h q : Nat} (hh : h < 8) (hq : q < 8) : mx_C l E M_St_meetsAt 5 0 0 [.ref (s), .int (nI (h)), .int (nI (q))] (t, S, I, P, J) (mx_sR (some (.int (bI (vs_mt D m h q)))) t S P J (fun K => mx_off (zs s la) I K)) := by
  obtain ⟨hC0, hC1, hC2, hC3, hC4, hC5, hC6, hD1, hD2, hD3, hD4, hPe, hLo⟩ := id hSt
  obtain ⟨w0, w1, w2, w3, w4, w5, w6, w7, w8, w9⟩ := id hSr
  have hPe0 := hPe.1
  have hk := hr.ok
  refine mx_C_of (ls0 := [some (.ref (s)), some (.int (nI (h))), some (.int (nI (q))), none]) (by decide +kernel) rfl rfl (Nat.le_of_ble_eq_true rfl) rfl ?_
  refine mx_al0 d_St_meetsAt_0 ?_
  refine mx_il1 d_St_meetsAt_1 ?_
  refine mx_il2 d_St_meetsAt_2 ?_
  refine mx_cV2i d_St_meetsAt_3 (c_St_guestAt hSt hSr (h := h) (q := q) (by omega) (by omega)) ok_St_guestAt ml_St_86 (by assumption) ⟨rfl, rfl⟩ (by decide) (Nat.le_of_ble_eq_true rfl) ?_
  refine mx_is3 d_St_meetsAt_6 ?_
  refine mx_il3 d_St_meetsAt_7 ?_
  refine mx_ic_m1 d_St_meetsAt_8 ?_
  refine mx_icmp_eq 39 d_St_meetsAt_9 (by decide) (fun c_9 => ?_) (fun c_9 => ?_)
  · skip
    refine mx_in_0 d_St_meetsAt_39 ?_
    exact mx_zret d_St_meetsAt_40 rfl (by first | exact Or.inl rfl | exact Or.inr rfl) (mx_sR_i (by first | (rw [vs_mt_n c_9]; rfl) | (rw [vs_mt_g hg8 eg, c_22]; rfl) | (rw [vs_mt_g hg8 eg, c_22, c_32]; rfl)) mx_off.rf)
  · skip
    obtain ⟨g, hgL, eg⟩ := (hbr h q (by omega) (by omega)).resolve_left c_9
    have hg8 : g < 8 := by omega
    rw [eg]
    refine mx_al0 d_St_meetsAt_12 ?_
    refine mx_getR d_St_meetsAt_13 fl_St_12 (by assumption) (by assumption) ?_
    refine mx_il1 d_St_meetsAt_16 ?_
    refine mx_il3 d_St_meetsAt_17 ?_
    refine mx_il2 d_St_meetsAt_18 ?_
    refine mx_cV3i d_St_meetsAt_19 (c_Pe_canMeet hPe w0 hk (h := h) (g := g) (q := q) (by omega) (by omega) (by omega)) ok_Pe_canMeet ml_St_117 (by assumption) ⟨rfl, rfl⟩ (by decide) (Nat.le_of_ble_eq_true rfl) ?_
    refine mx_ifB_eq 39 d_St_meetsAt_22 (by decide) (fun c_22 => ?_) (fun c_22 => ?_)
    · skip
      refine mx_in_0 d_St_meetsAt_39 ?_
      exact mx_zret d_St_meetsAt_40 rfl (by first | exact Or.inl rfl | exact Or.inr rfl) (mx_sR_i (by first | (rw [vs_mt_n c_9]; rfl) | (rw [vs_mt_g hg8 eg, c_22]; rfl) | (rw [vs_mt_g hg8 eg, c_22, c_32]; rfl)) mx_off.rf)
    · skip
      refine mx_al0 d_St_meetsAt_25 ?_
      refine mx_il1 d_St_meetsAt_26 ?_
      refine mx_il3 d_St_meetsAt_27 ?_
      refine mx_il2 d_St_meetsAt_28 ?_
      refine mx_cV3iR d_St_meetsAt_29 (c_St_isLetIn hSt hSr hla hLw hd (h := h) (g := g) (q := q) (by omega) (by omega) (by omega)) ok_St_isLetIn ml_St_121 (by assumption) ⟨rfl, rfl⟩ (by decide) (Nat.le_of_ble_eq_true rfl) (fun K2 hK2 => ?_)
      refine mx_ifB_eq 39 d_St_meetsAt_32 (by decide) (fun c_32 => ?_) (fun c_32 => ?_)
      · skip
        refine mx_in_0 d_St_meetsAt_39 ?_
        exact mx_zret d_St_meetsAt_40 rfl (by first | exact Or.inl rfl | exact Or.inr rfl) (mx_sR_i (by first | (rw [vs_mt_n c_9]; rfl) | (rw [vs_mt_g hg8 eg, c_22]; rfl) | (rw [vs_mt_g hg8 eg, c_22, c_32]; rfl)) hK2)
      · skip
        refine mx_in_1 d_St_meetsAt_35 ?_
        refine mx_goto 40 d_St_meetsAt_36 (by decide) ?_
        exact mx_zret d_St_meetsAt_40 rfl (by first | exact Or.inl rfl | exact Or.inr rfl) (mx_sR_i (by first | (rw [vs_mt_n c_9]; rfl) | (rw [vs_mt_g hg8 eg, c_22]; rfl) | (rw [vs_mt_g hg8 eg, c_22, c_32]; rfl)) hK2)
theorem c_St_meetingQuarters (hSt : st_ok S P s) (hSr : st_rel I s m) (hla : P s 2 = some la) (hLw : la_is S P I la D) (hd : la + 6 ≤ s ∨ s + 15 ≤ la) (hr : rk9 m) (hbr : br_ok m G) (hG8 : G ≤ 8) {h : Nat} (hh : h < 8) : mx_C l E M_St_meetingQuarters 6 0 0 [.ref (s), .int (nI (h))] (t, S, I, P, J) (mx_sR (some (.int (vs_mq D m h 8))) t S P J (fun K => mx_off (zs s la) I K)) := by
  obtain ⟨hC0, hC1, hC2, hC3, hC4, hC5, hC6, hD1, hD2, hD3, hD4, hPe, hLo⟩ := id hSt
  have hSrI := hSr
  have hLwI := hLw
  refine mx_C_of (ls0 := [some (.ref (s)), some (.int (nI (h))), none, none]) (by decide +kernel) rfl rfl (Nat.le_of_ble_eq_true rfl) rfl ?_
  refine mx_in_0 d_St_meetingQuarters_0 ?_
  refine mx_is2 d_St_meetingQuarters_1 ?_
  refine mx_in_0 d_St_meetingQuarters_2 ?_
  refine mx_is3 d_St_meetingQuarters_3 ?_
  refine mx_loopX (α := (mx_I)) (N := 8) (a0 := I) (fun q z9 => mx_off (zs s la) I z9) (ls := fun q z9 => [some (.ref (s)), some (.int (nI (h))), some (.int ((vs_mq D m h q))), some (.int (nI (q)))]) (X := fun q z9 => (t, S, z9, P, J)) (mx_off.rf) (fun q hq z9 hinv ih => ?_) (fun z9 hinv => ?_)
  · skip
    obtain ⟨K, hz9⟩ : ∃ q, q = z9 := ⟨_, rfl⟩
    subst hz9
    try dsimp only at hinv ih ⊢
    have hSr := zs_st hd hinv hSrI
    have hLw := zs_la hd hinv hLwI
    refine mx_il3 d_St_meetingQuarters_4 ?_
    refine mx_bip 8 d_St_meetingQuarters_5 (by decide) ?_
    refine mx_icN_ge 31 d_St_meetingQuarters_7 (by decide) (by omega) (by omega) (fun c_7 => absurd c_7 (by omega)) (fun c_7 => ?_)
    refine mx_al0 d_St_meetingQuarters_10 ?_
    refine mx_il1 d_St_meetingQuarters_11 ?_
    refine mx_il3 d_St_meetingQuarters_12 ?_
    refine mx_cV2iR d_St_meetingQuarters_13 (c_St_meetsAt hSt hSr hla hLw hd hr hbr hG8 (h := h) (q := q) (by omega) (by omega)) ok_St_meetsAt ml_St_124 (by assumption) ⟨rfl, rfl⟩ (by decide) (Nat.le_of_ble_eq_true rfl) (fun K2 hK2 => ?_)
    refine mx_ifB_eq 25 d_St_meetingQuarters_16 (by decide) (fun c_16 => ?_) (fun c_16 => ?_)
    · skip
      refine mx_iN3 d_St_meetingQuarters_25 ?_
      refine mx_goto 4 d_St_meetingQuarters_28 (by decide) ?_
      have e2 : (vs_mq D m h q) = (vs_mq D m h (q + 1)) := by rw [vs_mq_s]; first | (rw [if_pos c_16]; done) | (rw [if_neg (by rw [c_16]; decide)]; done)
      refine mx_lsc (congrArg (fun z9 => ([some (.ref (s)), some (.int (nI (h))), some (.int (z9)), some (.int (nI (q + 1)))] : List (Option Value))) e2) ?_
      exact ih K2 (hinv.tr hK2)
    · skip
      refine mx_il2 d_St_meetingQuarters_19 ?_
      refine mx_in_1 d_St_meetingQuarters_20 ?_
      refine mx_il3 d_St_meetingQuarters_21 ?_
      refine mx_ishl d_St_meetingQuarters_22 ?_
      refine mx_ior d_St_meetingQuarters_23 ?_
      refine mx_is2 d_St_meetingQuarters_24 ?_
      refine mx_iN3 d_St_meetingQuarters_25 ?_
      refine mx_goto 4 d_St_meetingQuarters_28 (by decide) ?_
      have e2 : ((vs_mq D m h q) ||| (nI (1) <<< (nI (q) &&& 31))) = (vs_mq D m h (q + 1)) := by rw [vs_mq_s]; first | (rw [if_pos c_16]; done) | (rw [if_neg (by rw [c_16]; decide)]; done)
      refine mx_lsc (congrArg (fun z9 => ([some (.ref (s)), some (.int (nI (h))), some (.int (z9)), some (.int (nI (q + 1)))] : List (Option Value))) e2) ?_
      exact ih K2 (hinv.tr hK2)
  · skip
    obtain ⟨K, hz9⟩ : ∃ q, q = z9 := ⟨_, rfl⟩
    subst hz9
    try dsimp only at hinv ⊢
    refine mx_il3 d_St_meetingQuarters_4 ?_
    refine mx_bip 8 d_St_meetingQuarters_5 (by decide) ?_
    refine mx_icN_ge 31 d_St_meetingQuarters_7 (by decide) (by omega) (by omega) (fun c_7 => ?_) (fun c_7 => absurd c_7 (by omega))
    refine mx_il2 d_St_meetingQuarters_31 ?_
    exact mx_iret d_St_meetingQuarters_32 rfl (mx_sR_i rfl hinv)
def sp_lets (D : lwD) (m : Nat → Int32) (H G : Nat) (v w u : Int32) : Nat × Int32 := if vs_isM3 v w u H G then (0, bI (vs_lt D m v.toNatClampNeg w.toNatClampNeg u.toNatClampNeg)) else (1, nI 0)
def sp_joy (D : lwD) (m : Nat → Int32) (H G : Nat) (v w u : Int32) : Nat × Int32 := if vs_isM3 v w u H G then (0, vs_jy D m v.toNatClampNeg w.toNatClampNeg u.toNatClampNeg) else (1, nI 0)
def vs_ms (D : lwD) (m : Nat → Int32) (b : Bool) (h q : Nat) : Int32 := if vs_mt D m h q = true then (if b then vs_jy D m h (m (195 + 8 * h + q)).toNatClampNeg q else nI 1) else nI 0
def vs_msQ (D : lwD) (m : Nat → Int32) (b : Bool) (h n : Nat) (s : Int32) : Int32 := vf n (fun q s => s + vs_ms D m b h q) s
def vs_msH (D : lwD) (m : Nat → Int32) (b : Bool) (n : Nat) : Int32 := vf n (fun h s => vs_msQ D m b h 8 s) (nI 0)
theorem vs_msQ_s (D : lwD) (m : Nat → Int32) (b : Bool) (h n : Nat) (s : Int32) : vs_msQ D m b h (n + 1) s = vs_msQ D m b h n s + vs_ms D m b h n := rfl
theorem vs_add0 (x : Int32) : x + nI 0 = x := Int32.add_zero x
def vs_tb (D : lwD) (m : Nat → Int32) (h q : Nat) : Nat := if m (195 + 8 * h + q) = -1 then 0 else if vs_mt D m h q = true then 0 else 1
def vs_tbQ (D : lwD) (m : Nat → Int32) (h n s : Nat) : Nat := vf n (fun q s => s + vs_tb D m h q) s
def vs_tbH (D : lwD) (m : Nat → Int32) (n : Nat) : Nat := vf n (fun h s => vs_tbQ D m h 8 s) 0
theorem vs_tbQ_s (D : lwD) (m : Nat → Int32) (h n s : Nat) : vs_tbQ D m h (n + 1) s = vs_tbQ D m h n s + vs_tb D m h n := rfl
theorem c_Vh_lets (htr : l.stackTraces = false) (hV : vh_ok S P x) (hSt : st_ok S P (x + 23)) (hSr : st_rel I (x + 23) m) (hH : m 3 = nI H) (hH8 : H ≤ 8) (hG : m 4 = nI G) (hG8 : G ≤ 8) (hla : P (x + 23) 2 = some la) (hLw : la_is S P I la D) (hd : la + 6 ≤ x + 23 ∨ x + 23 + 15 ≤ la) {v w u : Int32} : mx_C l E M_Vh_lets 8 3 18 [.ref (x), .int (v), .int (w), .int (u)] (t, S, I, P, J) (mx_pR (fun _ => "java/lang/IndexOutOfBoundsException") (sp_lets D m H G v w u) t S P J (fun K => mx_off (zs (x + 23) la) I K)) := by
  obtain ⟨hV0, hVp0, hVp1, hVp2, hVp3, hVp4, hVp5, hVp7, hVp8, hVp9, hVp10, hVp11, hVp12, hVs15, hVs16, hVs68⟩ := id hV
  obtain ⟨hC0, hC1, hC2, hC3, hC4, hC5, hC6, hD1, hD2, hD3, hD4, hPe, hLo⟩ := id hSt
  obtain ⟨hPr, u0, u1, u2, u3, u4, u5, u6, u7, u8⟩ := id hSr
  obtain ⟨hA0, hA1, hA2, hA3, hA4, hA5, hA6, hA7, hB1, hB2, hB3, hB4, hB5, hB6, hB7⟩ := id hPe
  obtain ⟨r0, r1, r2, r3, r4, r5, r6, r7, r8⟩ := id hPr
  refine mx_C_of (ls0 := [some (.ref (x)), some (.int (v)), some (.int (w)), some (.int (u))]) (by decide +kernel) rfl rfl (Nat.le_of_ble_eq_true rfl) rfl ?_
  refine mx_al0 d_Vh_lets_0 ?_
  refine mx_il1 d_Vh_lets_1 ?_
  refine mx_il2 d_Vh_lets_2 ?_
  refine mx_il3 d_Vh_lets_3 ?_
  refine mx_nV3M d_Vh_lets_4 (c_needMeeting htr hV hSt hSr hH hH8 hG hG8) ok_Vh_needMeeting ml_Vh_233 (by assumption) ⟨rfl, rfl⟩ rfl (by decide) (by decide) (by decide) (Nat.le_of_ble_eq_true rfl) (fun hb4 t9 ht => mx_pR_x ht 0 (by simp_all [sp_lets]) rfl mx_off.rf) (fun hb4 => ?_)
  obtain ⟨⟨h, hhL, rfl⟩, ⟨g, hgL, rfl⟩, ⟨q, hqL, rfl⟩⟩ := vs_isM hb4 hH8 hG8
  have hhc : (nI h).toNatClampNeg = h := nI_clamp (by omega)
  have hgc : (nI g).toNatClampNeg = g := nI_clamp (by omega)
  have hqc : (nI q).toNatClampNeg = q := nI_clamp (by omega)
  refine mx_al0 d_Vh_lets_7 ?_
  refine mx_getR d_Vh_lets_8 fl_Vh_51 (by assumption) (by assumption) ?_
  refine mx_il1 d_Vh_lets_11 ?_
  refine mx_il2 d_Vh_lets_12 ?_
  refine mx_il3 d_Vh_lets_13 ?_
  refine mx_cV3iR d_Vh_lets_14 (c_St_isLetIn hSt hSr hla hLw hd (h := h) (g := g) (q := q) (by omega) (by omega) (by omega)) ok_St_isLetIn ml_Vh_241 (by assumption) ⟨rfl, rfl⟩ (by decide) (Nat.le_of_ble_eq_true rfl) (fun K2 hK2 => ?_)
  exact mx_zret d_Vh_lets_17 rfl (bI_01 _) (mx_pR_i (by simp [sp_lets, hb4, *]) hK2)
theorem c_Vh_joy (htr : l.stackTraces = false) (hV : vh_ok S P x) (hSt : st_ok S P (x + 23)) (hSr : st_rel I (x + 23) m) (hH : m 3 = nI H) (hH8 : H ≤ 8) (hG : m 4 = nI G) (hG8 : G ≤ 8) (hla : P (x + 23) 2 = some la) (hLw : la_is S P I la D) (hd : la + 6 ≤ x + 23 ∨ x + 23 + 15 ≤ la) {v w u : Int32} : mx_C l E M_Vh_joy 8 3 18 [.ref (x), .int (v), .int (w), .int (u)] (t, S, I, P, J) (mx_pR (fun _ => "java/lang/IndexOutOfBoundsException") (sp_joy D m H G v w u) t S P J (fun K => mx_off (zs (x + 23) la) I K)) := by
  obtain ⟨hV0, hVp0, hVp1, hVp2, hVp3, hVp4, hVp5, hVp7, hVp8, hVp9, hVp10, hVp11, hVp12, hVs15, hVs16, hVs68⟩ := id hV
  obtain ⟨hC0, hC1, hC2, hC3, hC4, hC5, hC6, hD1, hD2, hD3, hD4, hPe, hLo⟩ := id hSt
  obtain ⟨hPr, u0, u1, u2, u3, u4, u5, u6, u7, u8⟩ := id hSr
  obtain ⟨hA0, hA1, hA2, hA3, hA4, hA5, hA6, hA7, hB1, hB2, hB3, hB4, hB5, hB6, hB7⟩ := id hPe
  obtain ⟨r0, r1, r2, r3, r4, r5, r6, r7, r8⟩ := id hPr
  refine mx_C_of (ls0 := [some (.ref (x)), some (.int (v)), some (.int (w)), some (.int (u))]) (by decide +kernel) rfl rfl (Nat.le_of_ble_eq_true rfl) rfl ?_
  refine mx_al0 d_Vh_joy_0 ?_
  refine mx_il1 d_Vh_joy_1 ?_
  refine mx_il2 d_Vh_joy_2 ?_
  refine mx_il3 d_Vh_joy_3 ?_
  refine mx_nV3M d_Vh_joy_4 (c_needMeeting htr hV hSt hSr hH hH8 hG hG8) ok_Vh_needMeeting ml_Vh_233 (by assumption) ⟨rfl, rfl⟩ rfl (by decide) (by decide) (by decide) (Nat.le_of_ble_eq_true rfl) (fun hb4 t9 ht => mx_pR_x ht 0 (by simp_all [sp_joy]) rfl mx_off.rf) (fun hb4 => ?_)
  obtain ⟨⟨h, hhL, rfl⟩, ⟨g, hgL, rfl⟩, ⟨q, hqL, rfl⟩⟩ := vs_isM hb4 hH8 hG8
  have hhc : (nI h).toNatClampNeg = h := nI_clamp (by omega)
  have hgc : (nI g).toNatClampNeg = g := nI_clamp (by omega)
  have hqc : (nI q).toNatClampNeg = q := nI_clamp (by omega)
  refine mx_al0 d_Vh_joy_7 ?_
  refine mx_getR d_Vh_joy_8 fl_Vh_51 (by assumption) (by assumption) ?_
  refine mx_il1 d_Vh_joy_11 ?_
  refine mx_il2 d_Vh_joy_12 ?_
  refine mx_il3 d_Vh_joy_13 ?_
  refine mx_cV3iR d_Vh_joy_14 (c_St_joyOf hSt hSr hla hLw hd (h := h) (g := g) (q := q) (by omega) (by omega) (by omega)) ok_St_joyOf ml_Vh_244 (by assumption) ⟨rfl, rfl⟩ (by decide) (Nat.le_of_ble_eq_true rfl) (fun K2 hK2 => ?_)
  exact mx_iret d_Vh_joy_17 rfl (mx_pR_i (by simp [sp_joy, hb4, *]) hK2)
theorem c_Vh_meetings (hV : vh_ok S P x) (hSt : st_ok S P (x + 23)) (hSr : st_rel I (x + 23) m) (hH : m 3 = nI H) (hH8 : H ≤ 8) (hla : P (x + 23) 2 = some la) (hLw : la_is S P I la D) (hd : la + 6 ≤ x + 23 ∨ x + 23 + 15 ≤ la) (hr : rk9 m) (hbr : br_ok m G) (hG8 : G ≤ 8) {b : Bool} : mx_C l E M_Vh_meetings 7 0 0 [.ref (x), .int (bI (b))] (t, S, I, P, J) (mx_sR (some (.int (vs_msH D m b H))) t S P J (fun K => mx_off (zs (x + 23) la) I K)) := by
  obtain ⟨hV0, hVp0, hVp1, hVp2, hVp3, hVp4, hVp5, hVp7, hVp8, hVp9, hVp10, hVp11, hVp12, hVs15, hVs16, hVs68⟩ := id hV
  obtain ⟨hC0, hC1, hC2, hC3, hC4, hC5, hC6, hD1, hD2, hD3, hD4, hPe, hLo⟩ := id hSt
  obtain ⟨hPr, u0, u1, u2, u3, u4, u5, u6, u7, u8⟩ := id hSr
  obtain ⟨hA0, hA1, hA2, hA3, hA4, hA5, hA6, hA7, hB1, hB2, hB3, hB4, hB5, hB6, hB7⟩ := id hPe
  obtain ⟨r0, r1, r2, r3, r4, r5, r6, r7, r8⟩ := id hPr
  have hSrI := hSr
  have hLwI := hLw
  refine mx_C_of (ls0 := [some (.ref (x)), some (.int (bI (b))), none, none, none]) (by decide +kernel) rfl rfl (Nat.le_of_ble_eq_true rfl) rfl ?_
  refine mx_in_0 d_Vh_meetings_0 ?_
  refine mx_is2 d_Vh_meetings_1 ?_
  refine mx_in_0 d_Vh_meetings_2 ?_
  refine mx_is3 d_Vh_meetings_3 ?_
  refine mx_loopX (α := (mx_I)) (N := H) (a0 := I) (fun h z9 => mx_off (zs (x + 23) la) I z9) (ls := fun h z9 => [some (.ref (x)), some (.int (bI (b))), some (.int ((vs_msH D m b h))), some (.int (nI (h))), none]) (X := fun h z9 => (t, S, z9, P, J)) (mx_off.rf) (fun h hh z9 hinv ih => ?_) (fun z9 hinv => ?_)
  · skip
    obtain ⟨K, hz9⟩ : ∃ q, q = z9 := ⟨_, rfl⟩
    subst hz9
    try dsimp only at hinv ih ⊢
    have hSr := zs_st hd hinv hSrI
    have hLw := zs_la hd hinv hLwI
    have hPr := hSr.1
    refine mx_il3 d_Vh_meetings_4 ?_
    refine mx_al0 d_Vh_meetings_5 ?_
    refine mx_getR d_Vh_meetings_6 fl_Vh_51 (by assumption) (by assumption) ?_
    refine mx_getR d_Vh_meetings_9 fl_Vh_162 (by assumption) (by assumption) ?_
    refine mx_getI d_Vh_meetings_12 fl_Vh_290 (by assumption) ?_
    refine mx_ti (y := nI (H)) (hPr.1.trans hH) ?_
    refine mx_icN_ge 84 d_Vh_meetings_15 (by decide) (by omega) (by omega) (fun c_15 => absurd c_15 (by omega)) (fun c_15 => ?_)
    refine mx_in_0 d_Vh_meetings_18 ?_
    refine mx_is4 d_Vh_meetings_19 ?_
    have ih4 := ih
    have hinv4 := hinv
    refine mx_loopX (α := (mx_I)) (N := 8) (a0 := K) (fun q z9 => mx_off (zs (x + 23) la) I z9) (ls := fun q z9 => [some (.ref (x)), some (.int (bI (b))), some (.int ((vs_msQ D m b h q (vs_msH D m b h)))), some (.int (nI (h))), some (.int (nI (q)))]) (X := fun q z9 => (t, S, z9, P, J)) (hinv) (fun q hq z9 hinv ih => ?_) (fun z9 hinv => ?_)
    · skip
      obtain ⟨K, hz9⟩ : ∃ q, q = z9 := ⟨_, rfl⟩
      subst hz9
      try dsimp only at hinv ih ⊢
      have hSr := zs_st hd hinv hSrI
      have hLw := zs_la hd hinv hLwI
      have hPr := hSr.1
      refine mx_il4 d_Vh_meetings_21 ?_
      refine mx_bip 8 d_Vh_meetings_23 (by decide) ?_
      refine mx_icN_ge 78 d_Vh_meetings_25 (by decide) (by omega) (by omega) (fun c_25 => absurd c_25 (by omega)) (fun c_25 => ?_)
      refine mx_al0 d_Vh_meetings_28 ?_
      refine mx_getR d_Vh_meetings_29 fl_Vh_51 (by assumption) (by assumption) ?_
      refine mx_il3 d_Vh_meetings_32 ?_
      refine mx_il4 d_Vh_meetings_33 ?_
      refine mx_cV2iR d_Vh_meetings_35 (c_St_meetsAt hSt hSr hla hLw hd hr hbr hG8 (h := h) (q := q) (by omega) (by omega)) ok_St_meetsAt ml_Vh_293 (by assumption) ⟨rfl, rfl⟩ (by decide) (Nat.le_of_ble_eq_true rfl) (fun K2 hK2 => ?_)
      refine mx_ifB_eq 72 d_Vh_meetings_38 (by decide) (fun c_38 => ?_) (fun c_38 => ?_)
      · skip
        refine mx_iN4 d_Vh_meetings_72 ?_
        refine mx_goto 21 d_Vh_meetings_75 (by decide) ?_
        have e2 : (vs_msQ D m b h q (vs_msH D m b h)) = (vs_msQ D m b h (q + 1) (vs_msH D m b h)) := by rw [vs_msQ_s, vs_ms]; first | (rw [if_neg (by rw [c_38]; decide), vs_add0]; done) | (rw [if_pos c_38, c_43, if_pos rfl, eg, nI_clamp (by omega)]; done) | (rw [if_pos c_38, c_43]; rfl)
        refine mx_lsc (congrArg (fun z9 => ([some (.ref (x)), some (.int (bI (b))), some (.int (z9)), some (.int (nI (h))), some (.int (nI (q + 1)))] : List (Option Value))) e2) ?_
        exact ih K2 (hinv.tr hK2)
      · skip
        refine mx_il2 d_Vh_meetings_41 ?_
        refine mx_il1 d_Vh_meetings_42 ?_
        refine mx_ifB_eq 69 d_Vh_meetings_43 (by decide) (fun c_43 => ?_) (fun c_43 => ?_)
        · skip
          refine mx_in_1 d_Vh_meetings_69 ?_
          refine mx_iadd d_Vh_meetings_70 ?_
          refine mx_is2 d_Vh_meetings_71 ?_
          refine mx_iN4 d_Vh_meetings_72 ?_
          refine mx_goto 21 d_Vh_meetings_75 (by decide) ?_
          have e2 : ((vs_msQ D m b h q (vs_msH D m b h)) + nI (1)) = (vs_msQ D m b h (q + 1) (vs_msH D m b h)) := by rw [vs_msQ_s, vs_ms]; first | (rw [if_neg (by rw [c_38]; decide), vs_add0]; done) | (rw [if_pos c_38, c_43, if_pos rfl, eg, nI_clamp (by omega)]; done) | (rw [if_pos c_38, c_43]; rfl)
          refine mx_lsc (congrArg (fun z9 => ([some (.ref (x)), some (.int (bI (b))), some (.int (z9)), some (.int (nI (h))), some (.int (nI (q + 1)))] : List (Option Value))) e2) ?_
          exact ih K2 (hinv.tr hK2)
        · skip
          have hSr2 := zs_st hd hK2 hSr
          have hLw2 := zs_la hd hK2 hLw
          obtain ⟨g, hgL, eg⟩ := (hbr h q (by omega) (by omega)).resolve_left (fun z => by rw [vs_mt_n z] at c_38; cases c_38)
          have hg8 : g < 8 := by omega
          refine mx_al0 d_Vh_meetings_46 ?_
          refine mx_getR d_Vh_meetings_47 fl_Vh_51 (by assumption) (by assumption) ?_
          refine mx_il3 d_Vh_meetings_50 ?_
          refine mx_al0 d_Vh_meetings_51 ?_
          refine mx_getR d_Vh_meetings_52 fl_Vh_51 (by assumption) (by assumption) ?_
          refine mx_il3 d_Vh_meetings_55 ?_
          refine mx_il4 d_Vh_meetings_56 ?_
          refine mx_cV2i d_Vh_meetings_58 (c_St_guestAt hSt hSr2 (h := h) (q := q) (by omega) (by omega)) ok_St_guestAt ml_Vh_229 (by assumption) ⟨rfl, rfl⟩ (by decide) (Nat.le_of_ble_eq_true rfl) ?_
          refine mx_ti (y := nI (g)) (eg) ?_
          refine mx_il4 d_Vh_meetings_61 ?_
          refine mx_cV3iR d_Vh_meetings_63 (c_St_joyOf hSt hSr2 hla hLw2 hd (h := h) (g := g) (q := q) (by omega) (by omega) (by omega)) ok_St_joyOf ml_Vh_244 (by assumption) ⟨rfl, rfl⟩ (by decide) (Nat.le_of_ble_eq_true rfl) (fun K3 hK3 => ?_)
          refine mx_goto 70 d_Vh_meetings_66 (by decide) ?_
          refine mx_iadd d_Vh_meetings_70 ?_
          refine mx_is2 d_Vh_meetings_71 ?_
          refine mx_iN4 d_Vh_meetings_72 ?_
          refine mx_goto 21 d_Vh_meetings_75 (by decide) ?_
          have e2 : ((vs_msQ D m b h q (vs_msH D m b h)) + (vs_jy D m h g q)) = (vs_msQ D m b h (q + 1) (vs_msH D m b h)) := by rw [vs_msQ_s, vs_ms]; first | (rw [if_neg (by rw [c_38]; decide), vs_add0]; done) | (rw [if_pos c_38, c_43, if_pos rfl, eg, nI_clamp (by omega)]; done) | (rw [if_pos c_38, c_43]; rfl)
          refine mx_lsc (congrArg (fun z9 => ([some (.ref (x)), some (.int (bI (b))), some (.int (z9)), some (.int (nI (h))), some (.int (nI (q + 1)))] : List (Option Value))) e2) ?_
          exact ih K3 ((hinv.tr hK2).tr hK3)
    · skip
      obtain ⟨K, hz9⟩ : ∃ q, q = z9 := ⟨_, rfl⟩
      subst hz9
      try dsimp only at hinv ⊢
      have hSr := zs_st hd hinv hSrI
      have hLw := zs_la hd hinv hLwI
      have hPr := hSr.1
      refine mx_il4 d_Vh_meetings_21 ?_
      refine mx_bip 8 d_Vh_meetings_23 (by decide) ?_
      refine mx_icN_ge 78 d_Vh_meetings_25 (by decide) (by omega) (by omega) (fun c_25 => ?_) (fun c_25 => absurd c_25 (by omega))
      refine mx_iN3 d_Vh_meetings_78 ?_
      refine mx_goto 4 d_Vh_meetings_81 (by decide) ?_
      refine mx_dn4 ?_
      have e2 : (vs_msQ D m b h 8 (vs_msH D m b h)) = (vs_msH D m b (h + 1)) := by rfl
      refine mx_lsc (congrArg (fun z9 => ([some (.ref (x)), some (.int (bI (b))), some (.int (z9)), some (.int (nI (h + 1))), none] : List (Option Value))) e2) ?_
      exact ih K (hinv)
  · skip
    obtain ⟨K, hz9⟩ : ∃ q, q = z9 := ⟨_, rfl⟩
    subst hz9
    try dsimp only at hinv ⊢
    have hSr := zs_st hd hinv hSrI
    have hLw := zs_la hd hinv hLwI
    have hPr := hSr.1
    refine mx_il3 d_Vh_meetings_4 ?_
    refine mx_al0 d_Vh_meetings_5 ?_
    refine mx_getR d_Vh_meetings_6 fl_Vh_51 (by assumption) (by assumption) ?_
    refine mx_getR d_Vh_meetings_9 fl_Vh_162 (by assumption) (by assumption) ?_
    refine mx_getI d_Vh_meetings_12 fl_Vh_290 (by assumption) ?_
    refine mx_ti (y := nI (H)) (hPr.1.trans hH) ?_
    refine mx_icN_ge 84 d_Vh_meetings_15 (by decide) (by omega) (by omega) (fun c_15 => ?_) (fun c_15 => absurd c_15 (by omega))
    refine mx_il2 d_Vh_meetings_84 ?_
    exact mx_iret d_Vh_meetings_85 rfl (mx_sR_i rfl hinv)
theorem c_Vh_taboo (hV : vh_ok S P x) (hSt : st_ok S P (x + 23)) (hSr : st_rel I (x + 23) m) (hH : m 3 = nI H) (hH8 : H ≤ 8) (hla : P (x + 23) 2 = some la) (hLw : la_is S P I la D) (hd : la + 6 ≤ x + 23 ∨ x + 23 + 15 ≤ la) (hr : rk9 m) (hbr : br_ok m G) (hG8 : G ≤ 8)  : mx_C l E M_Vh_taboo 7 0 0 [.ref (x)] (t, S, I, P, J) (mx_sR (some (.int (nI (vs_tbH D m H)))) t S P J (fun K => mx_off (zs (x + 23) la) I K)) := by
  obtain ⟨hV0, hVp0, hVp1, hVp2, hVp3, hVp4, hVp5, hVp7, hVp8, hVp9, hVp10, hVp11, hVp12, hVs15, hVs16, hVs68⟩ := id hV
  obtain ⟨hC0, hC1, hC2, hC3, hC4, hC5, hC6, hD1, hD2, hD3, hD4, hPe, hLo⟩ := id hSt
  obtain ⟨hPr, u0, u1, u2, u3, u4, u5, u6, u7, u8⟩ := id hSr
  obtain ⟨hA0, hA1, hA2, hA3, hA4, hA5, hA6, hA7, hB1, hB2, hB3, hB4, hB5, hB6, hB7⟩ := id hPe
  obtain ⟨r0, r1, r2, r3, r4, r5, r6, r7, r8⟩ := id hPr
  have hSrI := hSr
  have hLwI := hLw
  refine mx_C_of (ls0 := [some (.ref (x)), none, none, none]) (by decide +kernel) rfl rfl (Nat.le_of_ble_eq_true rfl) rfl ?_
  refine mx_in_0 d_Vh_taboo_0 ?_
  refine mx_is1 d_Vh_taboo_1 ?_
  refine mx_in_0 d_Vh_taboo_2 ?_
  refine mx_is2 d_Vh_taboo_3 ?_
  refine mx_loopX (α := (mx_I)) (N := H) (a0 := I) (fun h z9 => mx_off (zs (x + 23) la) I z9) (ls := fun h z9 => [some (.ref (x)), some (.int (nI (vs_tbH D m h))), some (.int (nI (h))), none]) (X := fun h z9 => (t, S, z9, P, J)) (mx_off.rf) (fun h hh z9 hinv ih => ?_) (fun z9 hinv => ?_)
  · skip
    obtain ⟨K, hz9⟩ : ∃ q, q = z9 := ⟨_, rfl⟩
    subst hz9
    try dsimp only at hinv ih ⊢
    have hSr := zs_st hd hinv hSrI
    have hLw := zs_la hd hinv hLwI
    have hPr := hSr.1
    refine mx_il2 d_Vh_taboo_4 ?_
    refine mx_al0 d_Vh_taboo_5 ?_
    refine mx_getR d_Vh_taboo_6 fl_Vh_51 (by assumption) (by assumption) ?_
    refine mx_getR d_Vh_taboo_9 fl_Vh_162 (by assumption) (by assumption) ?_
    refine mx_getI d_Vh_taboo_12 fl_Vh_290 (by assumption) ?_
    refine mx_ti (y := nI (H)) (hPr.1.trans hH) ?_
    refine mx_icN_ge 66 d_Vh_taboo_15 (by decide) (by omega) (by omega) (fun c_15 => absurd c_15 (by omega)) (fun c_15 => ?_)
    refine mx_in_0 d_Vh_taboo_18 ?_
    refine mx_is3 d_Vh_taboo_19 ?_
    have ih4 := ih
    have hinv4 := hinv
    refine mx_loopX (α := (mx_I)) (N := 8) (a0 := K) (fun q z9 => mx_off (zs (x + 23) la) I z9) (ls := fun q z9 => [some (.ref (x)), some (.int (nI (vs_tbQ D m h q (vs_tbH D m h)))), some (.int (nI (h))), some (.int (nI (q)))]) (X := fun q z9 => (t, S, z9, P, J)) (hinv) (fun q hq z9 hinv ih => ?_) (fun z9 hinv => ?_)
    · skip
      obtain ⟨K, hz9⟩ : ∃ q, q = z9 := ⟨_, rfl⟩
      subst hz9
      try dsimp only at hinv ih ⊢
      have hSr := zs_st hd hinv hSrI
      have hLw := zs_la hd hinv hLwI
      have hPr := hSr.1
      refine mx_il3 d_Vh_taboo_20 ?_
      refine mx_bip 8 d_Vh_taboo_21 (by decide) ?_
      refine mx_icN_ge 60 d_Vh_taboo_23 (by decide) (by omega) (by omega) (fun c_23 => absurd c_23 (by omega)) (fun c_23 => ?_)
      refine mx_al0 d_Vh_taboo_26 ?_
      refine mx_getR d_Vh_taboo_27 fl_Vh_51 (by assumption) (by assumption) ?_
      refine mx_il2 d_Vh_taboo_30 ?_
      refine mx_il3 d_Vh_taboo_31 ?_
      refine mx_cV2i d_Vh_taboo_32 (c_St_guestAt hSt hSr (h := h) (q := q) (by omega) (by omega)) ok_St_guestAt ml_Vh_229 (by assumption) ⟨rfl, rfl⟩ (by decide) (Nat.le_of_ble_eq_true rfl) ?_
      refine mx_ic_m1 d_Vh_taboo_35 ?_
      refine mx_icmp_eq 54 d_Vh_taboo_36 (by decide) (fun c_36 => ?_) (fun c_36 => ?_)
      · skip
        refine mx_iN3 d_Vh_taboo_54 ?_
        refine mx_goto 20 d_Vh_taboo_57 (by decide) ?_
        have e1 : nI (vs_tbQ D m h q (vs_tbH D m h)) = nI (vs_tbQ D m h (q + 1) (vs_tbH D m h)) := by rw [vs_tbQ_s, vs_tb]; first | (rw [if_pos c_36]; done) | (rw [if_neg c_36, if_pos c_48]; done) | (rw [if_neg c_36, if_neg (by rw [c_48]; decide)]; done) | (rw [if_pos c_36]; rfl) | (rw [if_neg c_36, if_pos c_48]; rfl) | (rw [if_neg c_36, if_neg (by rw [c_48]; decide)]; rfl)
        refine mx_lsc (congrArg (fun z9 => ([some (.ref (x)), some (.int (z9)), some (.int (nI (h))), some (.int (nI (q + 1)))] : List (Option Value))) e1) ?_
        exact ih K (hinv)
      · skip
        refine mx_al0 d_Vh_taboo_39 ?_
        refine mx_getR d_Vh_taboo_40 fl_Vh_51 (by assumption) (by assumption) ?_
        refine mx_il2 d_Vh_taboo_43 ?_
        refine mx_il3 d_Vh_taboo_44 ?_
        refine mx_cV2iR d_Vh_taboo_45 (c_St_meetsAt hSt hSr hla hLw hd hr hbr hG8 (h := h) (q := q) (by omega) (by omega)) ok_St_meetsAt ml_Vh_293 (by assumption) ⟨rfl, rfl⟩ (by decide) (Nat.le_of_ble_eq_true rfl) (fun K2 hK2 => ?_)
        refine mx_ifB_ne 54 d_Vh_taboo_48 (by decide) (fun c_48 => ?_) (fun c_48 => ?_)
        · skip
          refine mx_iN3 d_Vh_taboo_54 ?_
          refine mx_goto 20 d_Vh_taboo_57 (by decide) ?_
          have e1 : nI (vs_tbQ D m h q (vs_tbH D m h)) = nI (vs_tbQ D m h (q + 1) (vs_tbH D m h)) := by rw [vs_tbQ_s, vs_tb]; first | (rw [if_pos c_36]; done) | (rw [if_neg c_36, if_pos c_48]; done) | (rw [if_neg c_36, if_neg (by rw [c_48]; decide)]; done) | (rw [if_pos c_36]; rfl) | (rw [if_neg c_36, if_pos c_48]; rfl) | (rw [if_neg c_36, if_neg (by rw [c_48]; decide)]; rfl)
          refine mx_lsc (congrArg (fun z9 => ([some (.ref (x)), some (.int (z9)), some (.int (nI (h))), some (.int (nI (q + 1)))] : List (Option Value))) e1) ?_
          exact ih K2 (hinv.tr hK2)
        · skip
          refine mx_iN1 d_Vh_taboo_51 ?_
          refine mx_iN3 d_Vh_taboo_54 ?_
          refine mx_goto 20 d_Vh_taboo_57 (by decide) ?_
          have e1 : nI (vs_tbQ D m h q (vs_tbH D m h) + 1) = nI (vs_tbQ D m h (q + 1) (vs_tbH D m h)) := by rw [vs_tbQ_s, vs_tb]; first | (rw [if_pos c_36]; done) | (rw [if_neg c_36, if_pos c_48]; done) | (rw [if_neg c_36, if_neg (by rw [c_48]; decide)]; done) | (rw [if_pos c_36]; rfl) | (rw [if_neg c_36, if_pos c_48]; rfl) | (rw [if_neg c_36, if_neg (by rw [c_48]; decide)]; rfl)
          refine mx_lsc (congrArg (fun z9 => ([some (.ref (x)), some (.int (z9)), some (.int (nI (h))), some (.int (nI (q + 1)))] : List (Option Value))) e1) ?_
          exact ih K2 (hinv.tr hK2)
    · skip
      obtain ⟨K, hz9⟩ : ∃ q, q = z9 := ⟨_, rfl⟩
      subst hz9
      try dsimp only at hinv ⊢
      have hSr := zs_st hd hinv hSrI
      have hLw := zs_la hd hinv hLwI
      have hPr := hSr.1
      refine mx_il3 d_Vh_taboo_20 ?_
      refine mx_bip 8 d_Vh_taboo_21 (by decide) ?_
      refine mx_icN_ge 60 d_Vh_taboo_23 (by decide) (by omega) (by omega) (fun c_23 => ?_) (fun c_23 => absurd c_23 (by omega))
      refine mx_iN2 d_Vh_taboo_60 ?_
      refine mx_goto 4 d_Vh_taboo_63 (by decide) ?_
      refine mx_dn3 ?_
      have e1 : nI (vs_tbQ D m h 8 (vs_tbH D m h)) = nI (vs_tbH D m (h + 1)) := by rfl
      refine mx_lsc (congrArg (fun z9 => ([some (.ref (x)), some (.int (z9)), some (.int (nI (h + 1))), none] : List (Option Value))) e1) ?_
      exact ih K (hinv)
  · skip
    obtain ⟨K, hz9⟩ : ∃ q, q = z9 := ⟨_, rfl⟩
    subst hz9
    try dsimp only at hinv ⊢
    have hSr := zs_st hd hinv hSrI
    have hLw := zs_la hd hinv hLwI
    have hPr := hSr.1
    refine mx_il2 d_Vh_taboo_4 ?_
    refine mx_al0 d_Vh_taboo_5 ?_
    refine mx_getR d_Vh_taboo_6 fl_Vh_51 (by assumption) (by assumption) ?_
    refine mx_getR d_Vh_taboo_9 fl_Vh_162 (by assumption) (by assumption) ?_
    refine mx_getI d_Vh_taboo_12 fl_Vh_290 (by assumption) ?_
    refine mx_ti (y := nI (H)) (hPr.1.trans hH) ?_
    refine mx_icN_ge 66 d_Vh_taboo_15 (by decide) (by omega) (by omega) (fun c_15 => ?_) (fun c_15 => absurd c_15 (by omega))
    refine mx_il1 d_Vh_taboo_66 ?_
    exact mx_iret d_Vh_taboo_67 rfl (mx_sR_i rfl hinv)
/-- what a question to the law leaves in the reference -/
def ak_fin (I K : mx_I) (mo : Nat) (D : lwD) (m : Nat → Int32) (h g q : Nat) : Prop := (∀ c, c ≠ mo → c ≠ mo + 6 → K c = I c) ∧ (∀ f, f ≤ 8 ∨ f = 12 ∨ f = 14 ∨ 20 ≤ f → K mo f = I mo f) ∧ K mo 15 = bI (vs_pass m (m (43 + 3 * g + 2))) ∧ K mo 17 = vs_gl D m h g q ∧ K mo 18 = bI (vs_any (fun j => decide (lwK D j = 31)) (lwN D)) ∧ K mo 19 = bI (vs_any (fun j => decide (lwK D j = 31) && lwV D (vs_fc m h g q) j) (lwN D))
/-- the scratch of such a question -/
def az (I K : mx_I) (mo : Nat) : Prop := (∀ c, c ≠ mo → c ≠ mo + 6 → K c = I c) ∧ ∀ f, f ≤ 8 ∨ f = 12 ∨ f = 14 ∨ 20 ≤ f → K mo f = I mo f
theorem az.rf {I : mx_I} {mo : Nat} : az I I mo := ⟨fun _ _ _ => rfl, fun _ _ => rfl⟩
theorem az.tr {I K K2 : mx_I} {mo : Nat} (h1 : az I K mo) (h2 : az K K2 mo) : az I K2 mo := ⟨fun c a b => (h2.1 c a b).trans (h1.1 c a b), fun f hf => (h2.2 f hf).trans (h1.2 f hf)⟩
theorem ak_fin.az {I K : mx_I} {mo : Nat} {D : lwD} {m : Nat → Int32} {h g q : Nat} (h : ak_fin I K mo D m h g q) : az I K mo := ⟨h.1, h.2.1⟩
theorem az.row {I K : mx_I} {mo : Nat} {m : Nat → Int32} (h : az I K mo) (hm : I (mo + 1) = m) : K (mo + 1) = m := (h.1 (mo + 1) (by omega) (by omega)).trans hm
theorem az.up {I K : mx_I} {mo : Nat} {v : Int32} (h : az (mx_up I mo 0 v) K mo) : az (mx_up I mo 0 v) K mo := h
theorem vs_mayb {b c : Bool} (h : b = false) (hc : (if b = true then c else false) = c) : c = false := by rw [h] at hc; exact hc.symm
theorem vs_adm0 {n : Nat} {kd : Nat → Nat} {hv : Nat → Bool} {mk : Bool} (h : vs_any (fun j => decide (kd j = 31)) n = false) : lw_adm n kd hv mk = mk := by
  have h2 : vs_any (fun j => decide (kd j = 31) && hv j) n = false := vs_any_f (fun j hj => by
    cases e : decide (kd j = 31)
    · rfl
    · rw [vs_any_t hj e] at h; cases h)
  unfold lw_adm; rw [h, h2]; simp
theorem vs_adm1 {n : Nat} {kd : Nat → Nat} {hv : Nat → Bool} {mk : Bool} (h : vs_any (fun j => decide (kd j = 31)) n = true) : lw_adm n kd hv mk = vs_any (fun j => decide (kd j = 31) && hv j) n := by
  unfold lw_adm; rw [h]; simp
theorem vs_jy_max (D : lwD) (m : Nat → Int32) (h g q : Nat) : (if nI 0 ≤ m (67 + 8 * h + g) + vs_gl D m h g q then m (67 + 8 * h + g) + vs_gl D m h g q else nI 0) = vs_jy D m h g q := by
  unfold vs_jy
  rw [show (nI 0 : Int32) = 0 from rfl]
  by_cases z : m (67 + 8 * h + g) + vs_gl D m h g q < 0
  · rw [if_pos z, if_neg (Int32.not_le.mpr z)]
  · rw [if_neg z, if_pos (Int32.not_lt.mp z)]
theorem c_Mo_isLet (hM : mo_ok S P mo) (hm : I (mo + 1) = m) {dd : Nat} {TX : (Nat → Int32) → Prop} (hTX : TX m) (hask : ∀ (m : Nat → Int32) (I : mx_I) (h g q : Nat), TX m → I (mo + 1) = m → h < 8 → g < 8 → q < 8 → mx_C l E M_Mo_asks dd 0 0 [.ref (mo), .int (nI (h)), .int (nI (g)), .int (nI (q))] (t, S, I, P, J) (mx_sR none t S P J (fun K => ak_fin I K mo D m h g q))) {h g q : Nat} (hh : h < 8) (hg : g < 8) (hq : q < 8) : mx_C l E M_Mo_isLet (dd + 1) 0 0 [.ref (mo), .int (nI (h)), .int (nI (g)), .int (nI (q))] (t, S, I, P, J) (mx_sR (some (.int (bI (vs_lt D m h g q)))) t S P J (fun K => az I K mo)) := by
  obtain ⟨hM0, hMp1, hMp2, hMp4, hMp5, hMp7, hMp14, hMp21, hMp22, hMp23, hMp24, hMp25, hMp26, hMp27, hMs1, hMs2, hMs3, hMs4, hMs5, hMs6, hMs7, hMs8, hMs9, hMs10, hMs11, hMs12, hMs13⟩ := id hM
  refine mx_C_of (ls0 := [some (.ref (mo)), some (.int (nI (h))), some (.int (nI (g))), some (.int (nI (q)))]) (by decide +kernel) rfl rfl (Nat.le_of_ble_eq_true rfl) rfl ?_
  refine mx_al0 d_Mo_isLet_0 ?_
  refine mx_il1 d_Mo_isLet_1 ?_
  refine mx_il2 d_Mo_isLet_2 ?_
  refine mx_il3 d_Mo_isLet_3 ?_
  refine mx_cV3vR d_Mo_isLet_4 (hask m _ h g q hTX hm (by omega) (by omega) (by omega)) ok_Mo_asks ml_Mo_274 (by assumption) ⟨rfl, rfl⟩ (by omega) (Nat.le_of_ble_eq_true rfl) (fun K1 hK1 => ?_)
  refine mx_al0 d_Mo_isLet_7 ?_
  refine mx_getI d_Mo_isLet_8 fl_Mo_260 (by assumption) ?_
  refine mx_ti (y := bI (vs_any (fun j => decide (lwK D j = 31)) (lwN D))) (hK1.2.2.2.2.1) ?_
  refine mx_ifB_eq 21 d_Mo_isLet_11 (by decide) (fun c_11 => ?_) (fun c_11 => ?_)
  · skip
    refine mx_al0 d_Mo_isLet_21 ?_
    refine mx_getI d_Mo_isLet_22 fl_Mo_221 (by assumption) ?_
    refine mx_ti (y := bI (lw_adm (lwN D) (lwK D) (lwV D (vs_fc m h g q)) (vs_pass m (m (43 + 3 * g + 2))))) ((hK1.2.2.1.trans (by rw [vs_adm0 c_11]))) ?_
    exact mx_zret d_Mo_isLet_25 rfl (bI_01 _) (mx_sR_i rfl hK1.az)
  · skip
    refine mx_al0 d_Mo_isLet_14 ?_
    refine mx_getI d_Mo_isLet_15 fl_Mo_263 (by assumption) ?_
    refine mx_ti (y := bI (lw_adm (lwN D) (lwK D) (lwV D (vs_fc m h g q)) (vs_pass m (m (43 + 3 * g + 2))))) ((hK1.2.2.2.2.2.trans (by rw [← vs_adm1 c_11]))) ?_
    refine mx_goto 25 d_Mo_isLet_18 (by decide) ?_
    refine mx_ti (y := bI (lw_adm (lwN D) (lwK D) (lwV D (vs_fc m h g q)) (vs_pass m (m (43 + 3 * g + 2))))) (rfl) ?_
    exact mx_zret d_Mo_isLet_25 rfl (bI_01 _) (mx_sR_i rfl hK1.az)
theorem c_Mo_joyOf (hM : mo_ok S P mo) (hm : I (mo + 1) = m) {dd : Nat} {TX : (Nat → Int32) → Prop} (hTX : TX m) (hask : ∀ (m : Nat → Int32) (I : mx_I) (h g q : Nat), TX m → I (mo + 1) = m → h < 8 → g < 8 → q < 8 → mx_C l E M_Mo_asks dd 0 0 [.ref (mo), .int (nI (h)), .int (nI (g)), .int (nI (q))] (t, S, I, P, J) (mx_sR none t S P J (fun K => ak_fin I K mo D m h g q))) (hdd : 1 ≤ dd) {h g q : Nat} (hh : h < 8) (hg : g < 8) (hq : q < 8) : mx_C l E M_Mo_joyOf (dd + 1) 0 0 [.ref (mo), .int (nI (h)), .int (nI (g)), .int (nI (q))] (t, S, I, P, J) (mx_sR (some (.int (vs_jy D m h g q))) t S P J (fun K => az I K mo)) := by
  obtain ⟨hM0, hMp1, hMp2, hMp4, hMp5, hMp7, hMp14, hMp21, hMp22, hMp23, hMp24, hMp25, hMp26, hMp27, hMs1, hMs2, hMs3, hMs4, hMs5, hMs6, hMs7, hMs8, hMs9, hMs10, hMs11, hMs12, hMs13⟩ := id hM
  refine mx_C_of (ls0 := [some (.ref (mo)), some (.int (nI (h))), some (.int (nI (g))), some (.int (nI (q)))]) (by decide +kernel) rfl rfl (Nat.le_of_ble_eq_true rfl) rfl ?_
  refine mx_al0 d_Mo_joyOf_0 ?_
  refine mx_il1 d_Mo_joyOf_1 ?_
  refine mx_il2 d_Mo_joyOf_2 ?_
  refine mx_il3 d_Mo_joyOf_3 ?_
  refine mx_cV3vR d_Mo_joyOf_4 (hask m _ h g q hTX hm (by omega) (by omega) (by omega)) ok_Mo_asks ml_Mo_274 (by assumption) ⟨rfl, rfl⟩ (by omega) (Nat.le_of_ble_eq_true rfl) (fun K1 hK1 => ?_)
  refine mx_in_0 d_Mo_joyOf_7 ?_
  refine mx_al0 d_Mo_joyOf_8 ?_
  refine mx_il1 d_Mo_joyOf_9 ?_
  refine mx_il2 d_Mo_joyOf_10 ?_
  refine mx_cV2i d_Mo_joyOf_11 (cm_rankOf hM (hK1.az.row hm) (h := h) (g := g) (by omega) (by omega)) ok_Mo_rankOf ml_Mo_61 (by assumption) ⟨rfl, rfl⟩ (by omega) (Nat.le_of_ble_eq_true rfl) ?_
  refine mx_al0 d_Mo_joyOf_14 ?_
  refine mx_getI d_Mo_joyOf_15 fl_Mo_266 (by assumption) ?_
  refine mx_ti (y := (vs_gl D m h g q)) (hK1.2.2.2.1) ?_
  refine mx_iadd d_Mo_joyOf_18 ?_
  refine mx_cS2i d_Mo_joyOf_19 (c_Mo_greater) ok_Mo_greater ml_Mo_277 (by omega) (Nat.le_of_ble_eq_true rfl) ?_
  exact mx_iret d_Mo_joyOf_22 rfl (mx_sR_i (vs_jy_max D m h g q) hK1.az)
theorem c_Mo_wouldMeet (hM : mo_ok S P mo) (hm : I (mo + 1) = m) {dd : Nat} {TX : (Nat → Int32) → Prop} (hTX : TX m) (hask : ∀ (m : Nat → Int32) (I : mx_I) (h g q : Nat), TX m → I (mo + 1) = m → h < 8 → g < 8 → q < 8 → mx_C l E M_Mo_asks dd 0 0 [.ref (mo), .int (nI (h)), .int (nI (g)), .int (nI (q))] (t, S, I, P, J) (mx_sR none t S P J (fun K => ak_fin I K mo D m h g q))) (hdd : 2 ≤ dd) (hr : rk9 m) (hbr : br_ok m G) (hG8 : G ≤ 8) {h q : Nat} (hh : h < 8) (hq : q < 8) : mx_C l E M_Mo_wouldMeet (dd + 2) 0 0 [.ref (mo), .int (nI (h)), .int (nI (q))] (t, S, I, P, J) (mx_sR (some (.int (bI (vs_mt D m h q)))) t S P J (fun K => az I K mo)) := by
  obtain ⟨hM0, hMp1, hMp2, hMp4, hMp5, hMp7, hMp14, hMp21, hMp22, hMp23, hMp24, hMp25, hMp26, hMp27, hMs1, hMs2, hMs3, hMs4, hMs5, hMs6, hMs7, hMs8, hMs9, hMs10, hMs11, hMs12, hMs13⟩ := id hM
  refine mx_C_of (ls0 := [some (.ref (mo)), some (.int (nI (h))), some (.int (nI (q))), none]) (by decide +kernel) rfl rfl (Nat.le_of_ble_eq_true rfl) rfl ?_
  refine mx_al0 d_Mo_wouldMeet_0 ?_
  refine mx_il1 d_Mo_wouldMeet_1 ?_
  refine mx_il2 d_Mo_wouldMeet_2 ?_
  refine mx_cV2i d_Mo_wouldMeet_3 (cm_bookedIn hM hm (h := h) (q := q) (by omega) (by omega)) ok_Mo_bookedIn ml_Mo_271 (by assumption) ⟨rfl, rfl⟩ (by omega) (Nat.le_of_ble_eq_true rfl) ?_
  refine mx_is3 d_Mo_wouldMeet_6 ?_
  refine mx_il3 d_Mo_wouldMeet_7 ?_
  refine mx_ic_m1 d_Mo_wouldMeet_8 ?_
  refine mx_icmp_eq 36 d_Mo_wouldMeet_9 (by decide) (fun c_9 => ?_) (fun c_9 => ?_)
  · skip
    refine mx_in_0 d_Mo_wouldMeet_36 ?_
    exact mx_zret d_Mo_wouldMeet_37 rfl (by first | exact Or.inl rfl | exact Or.inr rfl) (mx_sR_i (by first | (rw [vs_mt_n c_9]; rfl) | (rw [vs_mt_g hg8 eg, c_19]; rfl) | (rw [vs_mt_g hg8 eg, c_19, c_29]; rfl)) az.rf)
  · skip
    obtain ⟨g, hgL, eg⟩ := (hbr h q (by omega) (by omega)).resolve_left c_9
    have hg8 : g < 8 := by omega
    rw [eg]
    refine mx_al0 d_Mo_wouldMeet_12 ?_
    refine mx_il1 d_Mo_wouldMeet_13 ?_
    refine mx_il3 d_Mo_wouldMeet_14 ?_
    refine mx_il2 d_Mo_wouldMeet_15 ?_
    refine mx_cV3i d_Mo_wouldMeet_16 (cm_canMeet hM hm (h := h) (g := g) (q := q) (by omega) (by omega) (by omega)) ok_Mo_canMeet ml_Mo_280 (by assumption) ⟨rfl, rfl⟩ (by omega) (Nat.le_of_ble_eq_true rfl) ?_
    refine mx_ifB_eq 36 d_Mo_wouldMeet_19 (by decide) (fun c_19 => ?_) (fun c_19 => ?_)
    · skip
      refine mx_in_0 d_Mo_wouldMeet_36 ?_
      exact mx_zret d_Mo_wouldMeet_37 rfl (by first | exact Or.inl rfl | exact Or.inr rfl) (mx_sR_i (by first | (rw [vs_mt_n c_9]; rfl) | (rw [vs_mt_g hg8 eg, c_19]; rfl) | (rw [vs_mt_g hg8 eg, c_19, c_29]; rfl)) az.rf)
    · skip
      refine mx_al0 d_Mo_wouldMeet_22 ?_
      refine mx_il1 d_Mo_wouldMeet_23 ?_
      refine mx_il3 d_Mo_wouldMeet_24 ?_
      refine mx_il2 d_Mo_wouldMeet_25 ?_
      refine mx_cV3iR d_Mo_wouldMeet_26 (c_Mo_isLet hM hm hTX hask (h := h) (g := g) (q := q) (by omega) (by omega) (by omega)) ok_Mo_isLet ml_Mo_283 (by assumption) ⟨rfl, rfl⟩ (by omega) (Nat.le_of_ble_eq_true rfl) (fun K2 hK2 => ?_)
      refine mx_ifB_eq 36 d_Mo_wouldMeet_29 (by decide) (fun c_29 => ?_) (fun c_29 => ?_)
      · skip
        refine mx_in_0 d_Mo_wouldMeet_36 ?_
        exact mx_zret d_Mo_wouldMeet_37 rfl (by first | exact Or.inl rfl | exact Or.inr rfl) (mx_sR_i (by first | (rw [vs_mt_n c_9]; rfl) | (rw [vs_mt_g hg8 eg, c_19]; rfl) | (rw [vs_mt_g hg8 eg, c_19, c_29]; rfl)) hK2)
      · skip
        refine mx_in_1 d_Mo_wouldMeet_32 ?_
        refine mx_goto 37 d_Mo_wouldMeet_33 (by decide) ?_
        exact mx_zret d_Mo_wouldMeet_37 rfl (by first | exact Or.inl rfl | exact Or.inr rfl) (mx_sR_i (by first | (rw [vs_mt_n c_9]; rfl) | (rw [vs_mt_g hg8 eg, c_19]; rfl) | (rw [vs_mt_g hg8 eg, c_19, c_29]; rfl)) hK2)
theorem c_Mo_lets (hM : mo_ok S P mo) (hm : I (mo + 1) = m) (hH : m 3 = nI H) (hH8 : H ≤ 8) (hG : m 4 = nI G) (hG8 : G ≤ 8) {dd : Nat} {TX : (Nat → Int32) → Prop} (hTX : TX m) (hask : ∀ (m : Nat → Int32) (I : mx_I) (h g q : Nat), TX m → I (mo + 1) = m → h < 8 → g < 8 → q < 8 → mx_C l E M_Mo_asks dd 0 0 [.ref (mo), .int (nI (h)), .int (nI (g)), .int (nI (q))] (t, S, I, P, J) (mx_sR none t S P J (fun K => ak_fin I K mo D m h g q))) (hdd : 2 ≤ dd) {v w u : Int32} : mx_C l E M_Mo_lets (dd + 3) 0 0 [.ref (mo), .int (v), .int (w), .int (u)] (t, S, I, P, J) (mx_sR (some (.int (sp_lets D m H G v w u).2)) t S P J (fun K => az (mx_up I mo 0 (nI (sp_lets D m H G v w u).1)) K mo)) := by
  obtain ⟨hM0, hMp1, hMp2, hMp4, hMp5, hMp7, hMp14, hMp21, hMp22, hMp23, hMp24, hMp25, hMp26, hMp27, hMs1, hMs2, hMs3, hMs4, hMs5, hMs6, hMs7, hMs8, hMs9, hMs10, hMs11, hMs12, hMs13⟩ := id hM
  refine mx_C_of (ls0 := [some (.ref (mo)), some (.int (v)), some (.int (w)), some (.int (u))]) (by decide +kernel) rfl rfl (Nat.le_of_ble_eq_true rfl) rfl ?_
  refine mx_al0 d_Mo_lets_0 ?_
  refine mx_il1 d_Mo_lets_1 ?_
  refine mx_il2 d_Mo_lets_2 ?_
  refine mx_il3 d_Mo_lets_3 ?_
  refine mx_cV3i d_Mo_lets_4 (c_Mo_areThere hM hm hH hH8 hG hG8) ok_Mo_areThere ml_Mo_334 (by assumption) ⟨rfl, rfl⟩ (by omega) (Nat.le_of_ble_eq_true rfl) ?_
  refine mx_ifB_eq 24 d_Mo_lets_7 (by decide) (fun c_7 => ?_) (fun c_7 => ?_)
  · skip
    refine mx_in_0 d_Mo_lets_24 ?_
    exact mx_zret d_Mo_lets_25 rfl (by first | exact Or.inl rfl | exact Or.inr rfl) (mx_sR_i (by simp [sp_lets, *]) (by rw [show (sp_lets D m H G _ _ _).1 = 1 from by simp [sp_lets, *]]; rw [c_7]; exact az.rf))
  · skip
    obtain ⟨⟨h, hhL, rfl⟩, ⟨g, hgL, rfl⟩, ⟨q, hqL, rfl⟩⟩ := vs_isM c_7 hH8 hG8
    have hhc : (nI h).toNatClampNeg = h := nI_clamp (by omega)
    have hgc : (nI g).toNatClampNeg = g := nI_clamp (by omega)
    have hqc : (nI q).toNatClampNeg = q := nI_clamp (by omega)
    refine mx_al0 d_Mo_lets_10 ?_
    refine mx_il1 d_Mo_lets_11 ?_
    refine mx_il2 d_Mo_lets_12 ?_
    refine mx_il3 d_Mo_lets_13 ?_
    refine mx_cV3iR d_Mo_lets_14 (c_Mo_isLet hM (vs_hm hm) hTX hask (h := h) (g := g) (q := q) (by omega) (by omega) (by omega)) ok_Mo_isLet ml_Mo_283 (by assumption) ⟨rfl, rfl⟩ (by omega) (Nat.le_of_ble_eq_true rfl) (fun K2 hK2 => ?_)
    refine mx_ifB_eq 24 d_Mo_lets_17 (by decide) (fun c_17 => ?_) (fun c_17 => ?_)
    · skip
      refine mx_in_0 d_Mo_lets_24 ?_
      exact mx_zret d_Mo_lets_25 rfl (by first | exact Or.inl rfl | exact Or.inr rfl) (mx_sR_i (by simp [sp_lets, bI, *]) (by rw [show (sp_lets D m H G _ _ _).1 = 0 from by simp [sp_lets, *]]; rw [c_7] at hK2; exact hK2))
    · skip
      refine mx_in_1 d_Mo_lets_20 ?_
      refine mx_goto 25 d_Mo_lets_21 (by decide) ?_
      exact mx_zret d_Mo_lets_25 rfl (by first | exact Or.inl rfl | exact Or.inr rfl) (mx_sR_i (by simp [sp_lets, bI, *]) (by rw [show (sp_lets D m H G _ _ _).1 = 0 from by simp [sp_lets, *]]; rw [c_7] at hK2; exact hK2))
theorem c_Mo_joy (hM : mo_ok S P mo) (hm : I (mo + 1) = m) (hH : m 3 = nI H) (hH8 : H ≤ 8) (hG : m 4 = nI G) (hG8 : G ≤ 8) {dd : Nat} {TX : (Nat → Int32) → Prop} (hTX : TX m) (hask : ∀ (m : Nat → Int32) (I : mx_I) (h g q : Nat), TX m → I (mo + 1) = m → h < 8 → g < 8 → q < 8 → mx_C l E M_Mo_asks dd 0 0 [.ref (mo), .int (nI (h)), .int (nI (g)), .int (nI (q))] (t, S, I, P, J) (mx_sR none t S P J (fun K => ak_fin I K mo D m h g q))) (hdd : 2 ≤ dd) {v w u : Int32} : mx_C l E M_Mo_joy (dd + 3) 0 0 [.ref (mo), .int (v), .int (w), .int (u)] (t, S, I, P, J) (mx_sR (some (.int (sp_joy D m H G v w u).2)) t S P J (fun K => az (mx_up I mo 0 (nI (sp_joy D m H G v w u).1)) K mo)) := by
  obtain ⟨hM0, hMp1, hMp2, hMp4, hMp5, hMp7, hMp14, hMp21, hMp22, hMp23, hMp24, hMp25, hMp26, hMp27, hMs1, hMs2, hMs3, hMs4, hMs5, hMs6, hMs7, hMs8, hMs9, hMs10, hMs11, hMs12, hMs13⟩ := id hM
  refine mx_C_of (ls0 := [some (.ref (mo)), some (.int (v)), some (.int (w)), some (.int (u))]) (by decide +kernel) rfl rfl (Nat.le_of_ble_eq_true rfl) rfl ?_
  refine mx_al0 d_Mo_joy_0 ?_
  refine mx_il1 d_Mo_joy_1 ?_
  refine mx_il2 d_Mo_joy_2 ?_
  refine mx_il3 d_Mo_joy_3 ?_
  refine mx_cV3i d_Mo_joy_4 (c_Mo_areThere hM hm hH hH8 hG hG8) ok_Mo_areThere ml_Mo_334 (by assumption) ⟨rfl, rfl⟩ (by omega) (Nat.le_of_ble_eq_true rfl) ?_
  refine mx_ifB_eq 20 d_Mo_joy_7 (by decide) (fun c_7 => ?_) (fun c_7 => ?_)
  · skip
    refine mx_in_0 d_Mo_joy_20 ?_
    exact mx_iret d_Mo_joy_21 rfl (mx_sR_i (by simp [sp_joy, *]) (by rw [show (sp_joy D m H G _ _ _).1 = 1 from by simp [sp_joy, *]]; rw [c_7]; exact az.rf))
  · skip
    obtain ⟨⟨h, hhL, rfl⟩, ⟨g, hgL, rfl⟩, ⟨q, hqL, rfl⟩⟩ := vs_isM c_7 hH8 hG8
    have hhc : (nI h).toNatClampNeg = h := nI_clamp (by omega)
    have hgc : (nI g).toNatClampNeg = g := nI_clamp (by omega)
    have hqc : (nI q).toNatClampNeg = q := nI_clamp (by omega)
    refine mx_al0 d_Mo_joy_10 ?_
    refine mx_il1 d_Mo_joy_11 ?_
    refine mx_il2 d_Mo_joy_12 ?_
    refine mx_il3 d_Mo_joy_13 ?_
    refine mx_cV3iR d_Mo_joy_14 (c_Mo_joyOf hM (vs_hm hm) hTX hask (by omega) (h := h) (g := g) (q := q) (by omega) (by omega) (by omega)) ok_Mo_joyOf ml_Mo_337 (by assumption) ⟨rfl, rfl⟩ (by omega) (Nat.le_of_ble_eq_true rfl) (fun K2 hK2 => ?_)
    refine mx_goto 21 d_Mo_joy_17 (by decide) ?_
    exact mx_iret d_Mo_joy_21 rfl (mx_sR_i (by simp [sp_joy, bI, *]) (by rw [show (sp_joy D m H G _ _ _).1 = 0 from by simp [sp_joy, *]]; rw [c_7] at hK2; exact hK2))
theorem c_Mo_meetings (hM : mo_ok S P mo) (hm : I (mo + 1) = m) (hH : m 3 = nI H) (hH8 : H ≤ 8) {dd : Nat} {TX : (Nat → Int32) → Prop} (hTX : TX m) (hask : ∀ (m : Nat → Int32) (I : mx_I) (h g q : Nat), TX m → I (mo + 1) = m → h < 8 → g < 8 → q < 8 → mx_C l E M_Mo_asks dd 0 0 [.ref (mo), .int (nI (h)), .int (nI (g)), .int (nI (q))] (t, S, I, P, J) (mx_sR none t S P J (fun K => ak_fin I K mo D m h g q))) (hdd : 2 ≤ dd) (hr : rk9 m) (hbr : br_ok m G) (hG8 : G ≤ 8) {b : Bool} : mx_C l E M_Mo_meetings (dd + 3) 0 0 [.ref (mo), .int (bI (b))] (t, S, I, P, J) (mx_sR (some (.int (vs_msH D m b H))) t S P J (fun K => az (mx_up I (mo) 0 (nI (0))) K mo)) := by
  obtain ⟨hM0, hMp1, hMp2, hMp4, hMp5, hMp7, hMp14, hMp21, hMp22, hMp23, hMp24, hMp25, hMp26, hMp27, hMs1, hMs2, hMs3, hMs4, hMs5, hMs6, hMs7, hMs8, hMs9, hMs10, hMs11, hMs12, hMs13⟩ := id hM
  have hm0 := hm
  refine mx_C_of (ls0 := [some (.ref (mo)), some (.int (bI (b))), none, none, none]) (by decide +kernel) rfl rfl (Nat.le_of_ble_eq_true rfl) rfl ?_
  refine mx_al0 d_Mo_meetings_0 ?_
  refine mx_in_0 d_Mo_meetings_1 ?_
  refine mx_putI d_Mo_meetings_2 fl_Mo_54 (by assumption) ?_
  refine mx_in_0 d_Mo_meetings_5 ?_
  refine mx_is2 d_Mo_meetings_6 ?_
  refine mx_in_0 d_Mo_meetings_7 ?_
  refine mx_is3 d_Mo_meetings_8 ?_
  refine mx_loopX (α := (mx_I)) (N := H) (a0 := (mx_up I (mo) 0 (nI (0)))) (fun h z9 => az (mx_up I (mo) 0 (nI (0))) z9 mo) (ls := fun h z9 => [some (.ref (mo)), some (.int (bI (b))), some (.int ((vs_msH D m b h))), some (.int (nI (h))), none]) (X := fun h z9 => (t, S, z9, P, J)) (az.rf) (fun h hh z9 hinv ih => ?_) (fun z9 hinv => ?_)
  · skip
    obtain ⟨K, hz9⟩ : ∃ q, q = z9 := ⟨_, rfl⟩
    subst hz9
    try dsimp only at hinv ih ⊢
    have hm : K (mo + 1) = m := hinv.row (vs_hm hm0)
    refine mx_il3 d_Mo_meetings_9 ?_
    refine mx_al0 d_Mo_meetings_10 ?_
    refine mx_getR d_Mo_meetings_11 fl_Mo_7 (by assumption) (by assumption) ?_
    refine mx_in_3 d_Mo_meetings_14 ?_
    refine mx_iald d_Mo_meetings_15 (by assumption) (nI_inb (by omega) (by omega)) ?_
    refine mx_ti (y := K (mo + 1) (3)) (by rw [nI_clamp (by omega)]) ?_
    refine mx_ti (y := nI (H)) ((congrFun hm 3).trans hH) ?_
    refine mx_icN_ge 80 d_Mo_meetings_16 (by decide) (by omega) (by omega) (fun c_16 => absurd c_16 (by omega)) (fun c_16 => ?_)
    refine mx_in_0 d_Mo_meetings_19 ?_
    refine mx_is4 d_Mo_meetings_20 ?_
    have ih9 := ih
    have hinv9 := hinv
    refine mx_loopX (α := (mx_I)) (N := 8) (a0 := K) (fun q z9 => az (mx_up I (mo) 0 (nI (0))) z9 mo) (ls := fun q z9 => [some (.ref (mo)), some (.int (bI (b))), some (.int ((vs_msQ D m b h q (vs_msH D m b h)))), some (.int (nI (h))), some (.int (nI (q)))]) (X := fun q z9 => (t, S, z9, P, J)) (hinv) (fun q hq z9 hinv ih => ?_) (fun z9 hinv => ?_)
    · skip
      obtain ⟨K, hz9⟩ : ∃ q, q = z9 := ⟨_, rfl⟩
      subst hz9
      try dsimp only at hinv ih ⊢
      have hm : K (mo + 1) = m := hinv.row (vs_hm hm0)
      refine mx_il4 d_Mo_meetings_22 ?_
      refine mx_bip 8 d_Mo_meetings_24 (by decide) ?_
      refine mx_icN_ge 74 d_Mo_meetings_26 (by decide) (by omega) (by omega) (fun c_26 => absurd c_26 (by omega)) (fun c_26 => ?_)
      refine mx_il2 d_Mo_meetings_29 ?_
      refine mx_al0 d_Mo_meetings_30 ?_
      refine mx_il3 d_Mo_meetings_31 ?_
      refine mx_il4 d_Mo_meetings_32 ?_
      refine mx_cV2iR d_Mo_meetings_34 (c_Mo_wouldMeet hM hm hTX hask hdd hr hbr hG8 (h := h) (q := q) (by omega) (by omega)) ok_Mo_wouldMeet ml_Mo_287 (by assumption) ⟨rfl, rfl⟩ (by omega) (Nat.le_of_ble_eq_true rfl) (fun K2 hK2 => ?_)
      refine mx_ifB_ne 44 d_Mo_meetings_37 (by decide) (fun c_37 => ?_) (fun c_37 => ?_)
      · skip
        refine mx_il1 d_Mo_meetings_44 ?_
        refine mx_ifB_eq 65 d_Mo_meetings_45 (by decide) (fun c_45 => ?_) (fun c_45 => ?_)
        · skip
          refine mx_in_1 d_Mo_meetings_65 ?_
          refine mx_iadd d_Mo_meetings_66 ?_
          refine mx_is2 d_Mo_meetings_67 ?_
          refine mx_iN4 d_Mo_meetings_68 ?_
          refine mx_goto 22 d_Mo_meetings_71 (by decide) ?_
          have e2 : ((vs_msQ D m b h q (vs_msH D m b h)) + nI (1)) = (vs_msQ D m b h (q + 1) (vs_msH D m b h)) := by rw [vs_msQ_s, vs_ms]; first | (rw [if_neg (by rw [c_37]; decide)]; done) | (rw [if_pos c_37, c_45, if_pos rfl, eg, nI_clamp (by omega)]; done) | (rw [if_pos c_37, c_45]; rfl)
          refine mx_lsc (congrArg (fun z9 => ([some (.ref (mo)), some (.int (bI (b))), some (.int (z9)), some (.int (nI (h))), some (.int (nI (q + 1)))] : List (Option Value))) e2) ?_
          exact ih K2 (hinv.tr hK2)
        · skip
          obtain ⟨g, hgL, eg⟩ := (hbr h q (by omega) (by omega)).resolve_left (fun z => by rw [vs_mt_n z] at c_37; cases c_37)
          have hg8 : g < 8 := by omega
          refine mx_al0 d_Mo_meetings_48 ?_
          refine mx_il3 d_Mo_meetings_49 ?_
          refine mx_al0 d_Mo_meetings_50 ?_
          refine mx_il3 d_Mo_meetings_51 ?_
          refine mx_il4 d_Mo_meetings_52 ?_
          refine mx_cV2i d_Mo_meetings_54 (cm_bookedIn hM (hK2.row hm) (h := h) (q := q) (by omega) (by omega)) ok_Mo_bookedIn ml_Mo_271 (by assumption) ⟨rfl, rfl⟩ (by omega) (Nat.le_of_ble_eq_true rfl) ?_
          refine mx_ti (y := nI (g)) (eg) ?_
          refine mx_il4 d_Mo_meetings_57 ?_
          refine mx_cV3iR d_Mo_meetings_59 (c_Mo_joyOf hM (hK2.row hm) hTX hask (by omega) (h := h) (g := g) (q := q) (by omega) (by omega) (by omega)) ok_Mo_joyOf ml_Mo_337 (by assumption) ⟨rfl, rfl⟩ (by omega) (Nat.le_of_ble_eq_true rfl) (fun K3 hK3 => ?_)
          refine mx_goto 66 d_Mo_meetings_62 (by decide) ?_
          refine mx_iadd d_Mo_meetings_66 ?_
          refine mx_is2 d_Mo_meetings_67 ?_
          refine mx_iN4 d_Mo_meetings_68 ?_
          refine mx_goto 22 d_Mo_meetings_71 (by decide) ?_
          have e2 : ((vs_msQ D m b h q (vs_msH D m b h)) + (vs_jy D m h g q)) = (vs_msQ D m b h (q + 1) (vs_msH D m b h)) := by rw [vs_msQ_s, vs_ms]; first | (rw [if_neg (by rw [c_37]; decide)]; done) | (rw [if_pos c_37, c_45, if_pos rfl, eg, nI_clamp (by omega)]; done) | (rw [if_pos c_37, c_45]; rfl)
          refine mx_lsc (congrArg (fun z9 => ([some (.ref (mo)), some (.int (bI (b))), some (.int (z9)), some (.int (nI (h))), some (.int (nI (q + 1)))] : List (Option Value))) e2) ?_
          exact ih K3 ((hinv.tr hK2).tr hK3)
      · skip
        refine mx_in_0 d_Mo_meetings_40 ?_
        refine mx_goto 66 d_Mo_meetings_41 (by decide) ?_
        refine mx_iadd d_Mo_meetings_66 ?_
        refine mx_is2 d_Mo_meetings_67 ?_
        refine mx_iN4 d_Mo_meetings_68 ?_
        refine mx_goto 22 d_Mo_meetings_71 (by decide) ?_
        have e2 : ((vs_msQ D m b h q (vs_msH D m b h)) + nI (0)) = (vs_msQ D m b h (q + 1) (vs_msH D m b h)) := by rw [vs_msQ_s, vs_ms]; first | (rw [if_neg (by rw [c_37]; decide)]; done) | (rw [if_pos c_37, c_45, if_pos rfl, eg, nI_clamp (by omega)]; done) | (rw [if_pos c_37, c_45]; rfl)
        refine mx_lsc (congrArg (fun z9 => ([some (.ref (mo)), some (.int (bI (b))), some (.int (z9)), some (.int (nI (h))), some (.int (nI (q + 1)))] : List (Option Value))) e2) ?_
        exact ih K2 (hinv.tr hK2)
    · skip
      obtain ⟨K, hz9⟩ : ∃ q, q = z9 := ⟨_, rfl⟩
      subst hz9
      try dsimp only at hinv ⊢
      have hm : K (mo + 1) = m := hinv.row (vs_hm hm0)
      refine mx_il4 d_Mo_meetings_22 ?_
      refine mx_bip 8 d_Mo_meetings_24 (by decide) ?_
      refine mx_icN_ge 74 d_Mo_meetings_26 (by decide) (by omega) (by omega) (fun c_26 => ?_) (fun c_26 => absurd c_26 (by omega))
      refine mx_iN3 d_Mo_meetings_74 ?_
      refine mx_goto 9 d_Mo_meetings_77 (by decide) ?_
      refine mx_dn4 ?_
      have e2 : (vs_msQ D m b h 8 (vs_msH D m b h)) = (vs_msH D m b (h + 1)) := by rfl
      refine mx_lsc (congrArg (fun z9 => ([some (.ref (mo)), some (.int (bI (b))), some (.int (z9)), some (.int (nI (h + 1))), none] : List (Option Value))) e2) ?_
      exact ih K (hinv)
  · skip
    obtain ⟨K, hz9⟩ : ∃ q, q = z9 := ⟨_, rfl⟩
    subst hz9
    try dsimp only at hinv ⊢
    have hm : K (mo + 1) = m := hinv.row (vs_hm hm0)
    refine mx_il3 d_Mo_meetings_9 ?_
    refine mx_al0 d_Mo_meetings_10 ?_
    refine mx_getR d_Mo_meetings_11 fl_Mo_7 (by assumption) (by assumption) ?_
    refine mx_in_3 d_Mo_meetings_14 ?_
    refine mx_iald d_Mo_meetings_15 (by assumption) (nI_inb (by omega) (by omega)) ?_
    refine mx_ti (y := K (mo + 1) (3)) (by rw [nI_clamp (by omega)]) ?_
    refine mx_ti (y := nI (H)) ((congrFun hm 3).trans hH) ?_
    refine mx_icN_ge 80 d_Mo_meetings_16 (by decide) (by omega) (by omega) (fun c_16 => ?_) (fun c_16 => absurd c_16 (by omega))
    refine mx_il2 d_Mo_meetings_80 ?_
    exact mx_iret d_Mo_meetings_81 rfl (mx_sR_i rfl hinv)
theorem c_Mo_taboo (hM : mo_ok S P mo) (hm : I (mo + 1) = m) (hH : m 3 = nI H) (hH8 : H ≤ 8) {dd : Nat} {TX : (Nat → Int32) → Prop} (hTX : TX m) (hask : ∀ (m : Nat → Int32) (I : mx_I) (h g q : Nat), TX m → I (mo + 1) = m → h < 8 → g < 8 → q < 8 → mx_C l E M_Mo_asks dd 0 0 [.ref (mo), .int (nI (h)), .int (nI (g)), .int (nI (q))] (t, S, I, P, J) (mx_sR none t S P J (fun K => ak_fin I K mo D m h g q))) (hdd : 2 ≤ dd) (hr : rk9 m) (hbr : br_ok m G) (hG8 : G ≤ 8)  : mx_C l E M_Mo_taboo (dd + 3) 0 0 [.ref (mo)] (t, S, I, P, J) (mx_sR (some (.int (nI (vs_tbH D m H)))) t S P J (fun K => az (mx_up I (mo) 0 (nI (0))) K mo)) := by
  obtain ⟨hM0, hMp1, hMp2, hMp4, hMp5, hMp7, hMp14, hMp21, hMp22, hMp23, hMp24, hMp25, hMp26, hMp27, hMs1, hMs2, hMs3, hMs4, hMs5, hMs6, hMs7, hMs8, hMs9, hMs10, hMs11, hMs12, hMs13⟩ := id hM
  have hm0 := hm
  refine mx_C_of (ls0 := [some (.ref (mo)), none, none, none]) (by decide +kernel) rfl rfl (Nat.le_of_ble_eq_true rfl) rfl ?_
  refine mx_al0 d_Mo_taboo_0 ?_
  refine mx_in_0 d_Mo_taboo_1 ?_
  refine mx_putI d_Mo_taboo_2 fl_Mo_54 (by assumption) ?_
  refine mx_in_0 d_Mo_taboo_5 ?_
  refine mx_is1 d_Mo_taboo_6 ?_
  refine mx_in_0 d_Mo_taboo_7 ?_
  refine mx_is2 d_Mo_taboo_8 ?_
  refine mx_loopX (α := (mx_I)) (N := H) (a0 := (mx_up I (mo) 0 (nI (0)))) (fun h z9 => az (mx_up I (mo) 0 (nI (0))) z9 mo) (ls := fun h z9 => [some (.ref (mo)), some (.int (nI (vs_tbH D m h))), some (.int (nI (h))), none]) (X := fun h z9 => (t, S, z9, P, J)) (az.rf) (fun h hh z9 hinv ih => ?_) (fun z9 hinv => ?_)
  · skip
    obtain ⟨K, hz9⟩ : ∃ q, q = z9 := ⟨_, rfl⟩
    subst hz9
    try dsimp only at hinv ih ⊢
    have hm : K (mo + 1) = m := hinv.row (vs_hm hm0)
    refine mx_il2 d_Mo_taboo_9 ?_
    refine mx_al0 d_Mo_taboo_10 ?_
    refine mx_getR d_Mo_taboo_11 fl_Mo_7 (by assumption) (by assumption) ?_
    refine mx_in_3 d_Mo_taboo_14 ?_
    refine mx_iald d_Mo_taboo_15 (by assumption) (nI_inb (by omega) (by omega)) ?_
    refine mx_ti (y := K (mo + 1) (3)) (by rw [nI_clamp (by omega)]) ?_
    refine mx_ti (y := nI (H)) ((congrFun hm 3).trans hH) ?_
    refine mx_icN_ge 66 d_Mo_taboo_16 (by decide) (by omega) (by omega) (fun c_16 => absurd c_16 (by omega)) (fun c_16 => ?_)
    refine mx_in_0 d_Mo_taboo_19 ?_
    refine mx_is3 d_Mo_taboo_20 ?_
    have ih9 := ih
    have hinv9 := hinv
    refine mx_loopX (α := (mx_I)) (N := 8) (a0 := K) (fun q z9 => az (mx_up I (mo) 0 (nI (0))) z9 mo) (ls := fun q z9 => [some (.ref (mo)), some (.int (nI (vs_tbQ D m h q (vs_tbH D m h)))), some (.int (nI (h))), some (.int (nI (q)))]) (X := fun q z9 => (t, S, z9, P, J)) (hinv) (fun q hq z9 hinv ih => ?_) (fun z9 hinv => ?_)
    · skip
      obtain ⟨K, hz9⟩ : ∃ q, q = z9 := ⟨_, rfl⟩
      subst hz9
      try dsimp only at hinv ih ⊢
      have hm : K (mo + 1) = m := hinv.row (vs_hm hm0)
      refine mx_il3 d_Mo_taboo_21 ?_
      refine mx_bip 8 d_Mo_taboo_22 (by decide) ?_
      refine mx_icN_ge 60 d_Mo_taboo_24 (by decide) (by omega) (by omega) (fun c_24 => absurd c_24 (by omega)) (fun c_24 => ?_)
      refine mx_il1 d_Mo_taboo_27 ?_
      refine mx_al0 d_Mo_taboo_28 ?_
      refine mx_il2 d_Mo_taboo_29 ?_
      refine mx_il3 d_Mo_taboo_30 ?_
      refine mx_cV2i d_Mo_taboo_31 (cm_bookedIn hM hm (h := h) (q := q) (by omega) (by omega)) ok_Mo_bookedIn ml_Mo_271 (by assumption) ⟨rfl, rfl⟩ (by omega) (Nat.le_of_ble_eq_true rfl) ?_
      refine mx_ic_m1 d_Mo_taboo_34 ?_
      refine mx_icmp_eq 51 d_Mo_taboo_35 (by decide) (fun c_35 => ?_) (fun c_35 => ?_)
      · skip
        refine mx_in_0 d_Mo_taboo_51 ?_
        refine mx_iaddN d_Mo_taboo_52 ?_
        refine mx_is1 d_Mo_taboo_53 ?_
        refine mx_iN3 d_Mo_taboo_54 ?_
        refine mx_goto 21 d_Mo_taboo_57 (by decide) ?_
        have e1 : nI (vs_tbQ D m h q (vs_tbH D m h) + 0) = nI (vs_tbQ D m h (q + 1) (vs_tbH D m h)) := by rw [vs_tbQ_s, vs_tb]; first | (rw [if_pos c_35]; done) | (rw [if_neg c_35, if_pos c_44]; done) | (rw [if_neg c_35, if_neg (by rw [c_44]; decide)]; done) | (rw [if_pos c_35]; rfl) | (rw [if_neg c_35, if_pos c_44]; rfl) | (rw [if_neg c_35, if_neg (by rw [c_44]; decide)]; rfl)
        refine mx_lsc (congrArg (fun z9 => ([some (.ref (mo)), some (.int (z9)), some (.int (nI (h))), some (.int (nI (q + 1)))] : List (Option Value))) e1) ?_
        exact ih K (hinv)
      · skip
        refine mx_al0 d_Mo_taboo_38 ?_
        refine mx_il2 d_Mo_taboo_39 ?_
        refine mx_il3 d_Mo_taboo_40 ?_
        refine mx_cV2iR d_Mo_taboo_41 (c_Mo_wouldMeet hM hm hTX hask hdd hr hbr hG8 (h := h) (q := q) (by omega) (by omega)) ok_Mo_wouldMeet ml_Mo_287 (by assumption) ⟨rfl, rfl⟩ (by omega) (Nat.le_of_ble_eq_true rfl) (fun K2 hK2 => ?_)
        refine mx_ifB_ne 51 d_Mo_taboo_44 (by decide) (fun c_44 => ?_) (fun c_44 => ?_)
        · skip
          refine mx_in_0 d_Mo_taboo_51 ?_
          refine mx_iaddN d_Mo_taboo_52 ?_
          refine mx_is1 d_Mo_taboo_53 ?_
          refine mx_iN3 d_Mo_taboo_54 ?_
          refine mx_goto 21 d_Mo_taboo_57 (by decide) ?_
          have e1 : nI (vs_tbQ D m h q (vs_tbH D m h) + 0) = nI (vs_tbQ D m h (q + 1) (vs_tbH D m h)) := by rw [vs_tbQ_s, vs_tb]; first | (rw [if_pos c_35]; done) | (rw [if_neg c_35, if_pos c_44]; done) | (rw [if_neg c_35, if_neg (by rw [c_44]; decide)]; done) | (rw [if_pos c_35]; rfl) | (rw [if_neg c_35, if_pos c_44]; rfl) | (rw [if_neg c_35, if_neg (by rw [c_44]; decide)]; rfl)
          refine mx_lsc (congrArg (fun z9 => ([some (.ref (mo)), some (.int (z9)), some (.int (nI (h))), some (.int (nI (q + 1)))] : List (Option Value))) e1) ?_
          exact ih K2 (hinv.tr hK2)
        · skip
          refine mx_in_1 d_Mo_taboo_47 ?_
          refine mx_goto 52 d_Mo_taboo_48 (by decide) ?_
          refine mx_iaddN d_Mo_taboo_52 ?_
          refine mx_is1 d_Mo_taboo_53 ?_
          refine mx_iN3 d_Mo_taboo_54 ?_
          refine mx_goto 21 d_Mo_taboo_57 (by decide) ?_
          have e1 : nI (vs_tbQ D m h q (vs_tbH D m h) + 1) = nI (vs_tbQ D m h (q + 1) (vs_tbH D m h)) := by rw [vs_tbQ_s, vs_tb]; first | (rw [if_pos c_35]; done) | (rw [if_neg c_35, if_pos c_44]; done) | (rw [if_neg c_35, if_neg (by rw [c_44]; decide)]; done) | (rw [if_pos c_35]; rfl) | (rw [if_neg c_35, if_pos c_44]; rfl) | (rw [if_neg c_35, if_neg (by rw [c_44]; decide)]; rfl)
          refine mx_lsc (congrArg (fun z9 => ([some (.ref (mo)), some (.int (z9)), some (.int (nI (h))), some (.int (nI (q + 1)))] : List (Option Value))) e1) ?_
          exact ih K2 (hinv.tr hK2)
    · skip
      obtain ⟨K, hz9⟩ : ∃ q, q = z9 := ⟨_, rfl⟩
      subst hz9
      try dsimp only at hinv ⊢
      have hm : K (mo + 1) = m := hinv.row (vs_hm hm0)
      refine mx_il3 d_Mo_taboo_21 ?_
      refine mx_bip 8 d_Mo_taboo_22 (by decide) ?_
      refine mx_icN_ge 60 d_Mo_taboo_24 (by decide) (by omega) (by omega) (fun c_24 => ?_) (fun c_24 => absurd c_24 (by omega))
      refine mx_iN2 d_Mo_taboo_60 ?_
      refine mx_goto 9 d_Mo_taboo_63 (by decide) ?_
      refine mx_dn3 ?_
      have e1 : nI (vs_tbQ D m h 8 (vs_tbH D m h)) = nI (vs_tbH D m (h + 1)) := by rfl
      refine mx_lsc (congrArg (fun z9 => ([some (.ref (mo)), some (.int (z9)), some (.int (nI (h + 1))), none] : List (Option Value))) e1) ?_
      exact ih K (hinv)
  · skip
    obtain ⟨K, hz9⟩ : ∃ q, q = z9 := ⟨_, rfl⟩
    subst hz9
    try dsimp only at hinv ⊢
    have hm : K (mo + 1) = m := hinv.row (vs_hm hm0)
    refine mx_il2 d_Mo_taboo_9 ?_
    refine mx_al0 d_Mo_taboo_10 ?_
    refine mx_getR d_Mo_taboo_11 fl_Mo_7 (by assumption) (by assumption) ?_
    refine mx_in_3 d_Mo_taboo_14 ?_
    refine mx_iald d_Mo_taboo_15 (by assumption) (nI_inb (by omega) (by omega)) ?_
    refine mx_ti (y := K (mo + 1) (3)) (by rw [nI_clamp (by omega)]) ?_
    refine mx_ti (y := nI (H)) ((congrFun hm 3).trans hH) ?_
    refine mx_icN_ge 66 d_Mo_taboo_16 (by decide) (by omega) (by omega) (fun c_16 => ?_) (fun c_16 => absurd c_16 (by omega))
    refine mx_il1 d_Mo_taboo_66 ?_
    exact mx_iret d_Mo_taboo_67 rfl (mx_sR_i rfl hinv)
theorem c_Mo_meetsIn (hM : mo_ok S P mo) (hm : I (mo + 1) = m) {dd : Nat} {TX : (Nat → Int32) → Prop} (hTX : TX m) (hask : ∀ (m : Nat → Int32) (I : mx_I) (h g q : Nat), TX m → I (mo + 1) = m → h < 8 → g < 8 → q < 8 → mx_C l E M_Mo_asks dd 0 0 [.ref (mo), .int (nI (h)), .int (nI (g)), .int (nI (q))] (t, S, I, P, J) (mx_sR none t S P J (fun K => ak_fin I K mo D m h g q))) (hdd : 2 ≤ dd) (hr : rk9 m) (hbr : br_ok m G) (hG8 : G ≤ 8) {h : Nat} (hh : h < 8) : mx_C l E M_Mo_meetsIn (dd + 3) 0 0 [.ref (mo), .int (nI (h))] (t, S, I, P, J) (mx_sR (some (.int (vs_mq D m h 8))) t S P J (fun K => az I K mo)) := by
  obtain ⟨hM0, hMp1, hMp2, hMp4, hMp5, hMp7, hMp14, hMp21, hMp22, hMp23, hMp24, hMp25, hMp26, hMp27, hMs1, hMs2, hMs3, hMs4, hMs5, hMs6, hMs7, hMs8, hMs9, hMs10, hMs11, hMs12, hMs13⟩ := id hM
  have hm0 := hm
  refine mx_C_of (ls0 := [some (.ref (mo)), some (.int (nI (h))), none, none]) (by decide +kernel) rfl rfl (Nat.le_of_ble_eq_true rfl) rfl ?_
  refine mx_in_0 d_Mo_meetsIn_0 ?_
  refine mx_is2 d_Mo_meetsIn_1 ?_
  refine mx_in_0 d_Mo_meetsIn_2 ?_
  refine mx_is3 d_Mo_meetsIn_3 ?_
  refine mx_loopX (α := (mx_I)) (N := 8) (a0 := I) (fun q z9 => az I z9 mo) (ls := fun q z9 => [some (.ref (mo)), some (.int (nI (h))), some (.int ((vs_mq D m h q))), some (.int (nI (q)))]) (X := fun q z9 => (t, S, z9, P, J)) (az.rf) (fun q hq z9 hinv ih => ?_) (fun z9 hinv => ?_)
  · skip
    obtain ⟨K, hz9⟩ : ∃ q, q = z9 := ⟨_, rfl⟩
    subst hz9
    try dsimp only at hinv ih ⊢
    have hm : K (mo + 1) = m := hinv.row hm0
    refine mx_il3 d_Mo_meetsIn_4 ?_
    refine mx_bip 8 d_Mo_meetsIn_5 (by decide) ?_
    refine mx_icN_ge 35 d_Mo_meetsIn_7 (by decide) (by omega) (by omega) (fun c_7 => absurd c_7 (by omega)) (fun c_7 => ?_)
    refine mx_il2 d_Mo_meetsIn_10 ?_
    refine mx_al0 d_Mo_meetsIn_11 ?_
    refine mx_il1 d_Mo_meetsIn_12 ?_
    refine mx_il3 d_Mo_meetsIn_13 ?_
    refine mx_cV2iR d_Mo_meetsIn_14 (c_Mo_wouldMeet hM hm hTX hask hdd hr hbr hG8 (h := h) (q := q) (by omega) (by omega)) ok_Mo_wouldMeet ml_Mo_287 (by assumption) ⟨rfl, rfl⟩ (by omega) (Nat.le_of_ble_eq_true rfl) (fun K2 hK2 => ?_)
    refine mx_ifB_eq 26 d_Mo_meetsIn_17 (by decide) (fun c_17 => ?_) (fun c_17 => ?_)
    · skip
      refine mx_in_0 d_Mo_meetsIn_26 ?_
      refine mx_ior d_Mo_meetsIn_27 ?_
      refine mx_is2 d_Mo_meetsIn_28 ?_
      refine mx_iN3 d_Mo_meetsIn_29 ?_
      refine mx_goto 4 d_Mo_meetsIn_32 (by decide) ?_
      have e2 : ((vs_mq D m h q) ||| nI (0)) = (vs_mq D m h (q + 1)) := by rw [vs_mq_s]; first | (rw [if_pos c_17]; done) | (rw [if_neg (by rw [c_17]; decide)]; exact Int32.or_zero)
      refine mx_lsc (congrArg (fun z9 => ([some (.ref (mo)), some (.int (nI (h))), some (.int (z9)), some (.int (nI (q + 1)))] : List (Option Value))) e2) ?_
      exact ih K2 (hinv.tr hK2)
    · skip
      refine mx_in_1 d_Mo_meetsIn_20 ?_
      refine mx_il3 d_Mo_meetsIn_21 ?_
      refine mx_ishl d_Mo_meetsIn_22 ?_
      refine mx_goto 27 d_Mo_meetsIn_23 (by decide) ?_
      refine mx_ior d_Mo_meetsIn_27 ?_
      refine mx_is2 d_Mo_meetsIn_28 ?_
      refine mx_iN3 d_Mo_meetsIn_29 ?_
      refine mx_goto 4 d_Mo_meetsIn_32 (by decide) ?_
      have e2 : ((vs_mq D m h q) ||| (nI (1) <<< (nI (q) &&& 31))) = (vs_mq D m h (q + 1)) := by rw [vs_mq_s]; first | (rw [if_pos c_17]; done) | (rw [if_neg (by rw [c_17]; decide)]; exact Int32.or_zero)
      refine mx_lsc (congrArg (fun z9 => ([some (.ref (mo)), some (.int (nI (h))), some (.int (z9)), some (.int (nI (q + 1)))] : List (Option Value))) e2) ?_
      exact ih K2 (hinv.tr hK2)
  · skip
    obtain ⟨K, hz9⟩ : ∃ q, q = z9 := ⟨_, rfl⟩
    subst hz9
    try dsimp only at hinv ⊢
    refine mx_il3 d_Mo_meetsIn_4 ?_
    refine mx_bip 8 d_Mo_meetsIn_5 (by decide) ?_
    refine mx_icN_ge 35 d_Mo_meetsIn_7 (by decide) (by omega) (by omega) (fun c_7 => ?_) (fun c_7 => absurd c_7 (by omega))
    refine mx_il2 d_Mo_meetsIn_35 ?_
    exact mx_iret d_Mo_meetsIn_36 rfl (mx_sR_i rfl hinv)
end AE39
