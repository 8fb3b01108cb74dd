/-! WHAT STAYS WHILE MORE IS MADE -/
/-- the cells from u up to v are as they were -/
def mx_sm (u v : Nat) (S S2 : mx_S) (I I2 : mx_I) (P P2 : mx_P) : Prop := ∀ c, u ≤ c → c < v → S2 c = S c ∧ I2 c = I c ∧ P2 c = P c
/-- all below u but x are as they were -/
def mx_kp (x u : Nat) (S S2 : mx_S) (I I2 : mx_I) (P P2 : mx_P) : Prop := ∀ c, c < u → c ≠ x → S2 c = S c ∧ I2 c = I c ∧ P2 c = P c
section BQ85
variable {S S2 S3 : mx_S} {I I2 I3 : mx_I} {P P2 P3 : mx_P} {a b x u v n z la te dr r : Nat} {m : Nat → Int32} {D : lwD} {N : Nat}
theorem mx_kp.rf : mx_kp x u S S I I P P := fun _ _ _ => ⟨rfl, rfl, rfl⟩
theorem mx_kp.tr (h : mx_kp x u S S2 I I2 P P2) (h2 : mx_kp x v S2 S3 I2 I3 P2 P3) (huv : u ≤ v) : mx_kp x u S S3 I I3 P P3 := fun c hc hx => ⟨(h2 c (by omega) hx).1.trans (h c hc hx).1, (h2 c (by omega) hx).2.1.trans (h c hc hx).2.1, (h2 c (by omega) hx).2.2.trans (h c hc hx).2.2⟩
theorem mx_kp.of (h : mx_bel u S S2 I I2 P P2) : mx_kp x u S S2 I I2 P P2 := fun c hc _ => h c hc
theorem mx_kp.sm (h : mx_kp x v S S2 I I2 P P2) (hx : x < u) : mx_sm u v S S2 I I2 P P2 := fun c h1 h2 => h c h2 (by omega)
theorem mx_kp.le (h : mx_kp x v S S2 I I2 P P2) (hu : u ≤ v) : mx_kp x u S S2 I I2 P P2 := fun c hc hx => h c (by omega) hx
theorem mx_kp.upx {k : Nat} {w : Int32} : mx_kp x u S S I (mx_up I x k w) P P := fun c _ hx => ⟨rfl, mx_up_ne hx, rfl⟩
theorem mx_kp.upPx {k : Nat} {w : Option Nat} : mx_kp x u S S I I P (mx_upP P x k w) := fun c _ hx => ⟨rfl, rfl, mx_upP_ne hx⟩
theorem mx_kp.nw {sh : mx_Sh} : mx_kp x u S (mx_ups S u sh) I (mx_z I u) P P := fun c hc _ => ⟨by simp only [mx_ups]; rw [if_neg (by omega)], mx_z_ne (by omega), rfl⟩
theorem mx_kp.nwo {sh : mx_Sh} : mx_kp x u S (mx_ups S u sh) I (mx_z I u) P (mx_zP P u) := fun c hc _ => ⟨by simp only [mx_ups]; rw [if_neg (by omega)], mx_z_ne (by omega), mx_zP_ne (by omega)⟩
theorem mx_sm.le {u2 v2 : Nat} (h : mx_sm u v S S2 I I2 P P2) (hu : u ≤ u2) (hv : v2 ≤ v) : mx_sm u2 v2 S S2 I I2 P P2 := fun c h1 h2 => h c (by omega) (by omega)
theorem pa_ok.sm (h : pa_ok S P a) (e : mx_sm a (a + 8) S S2 I I2 P P2) : pa_ok S2 P2 a := by
  unfold pa_ok at h ⊢
  rw [(e a (by omega) (by omega)).1, (e (a + 1) (by omega) (by omega)).1, (e (a + 2) (by omega) (by omega)).1, (e (a + 3) (by omega) (by omega)).1, (e (a + 4) (by omega) (by omega)).1, (e (a + 5) (by omega) (by omega)).1, (e (a + 6) (by omega) (by omega)).1, (e (a + 7) (by omega) (by omega)).1, (e a (by omega) (by omega)).2.2]
  exact h
theorem ma_ok.sm (h : ma_ok S P a) (e : mx_sm a (a + 3) S S2 I I2 P P2) : ma_ok S2 P2 a := by
  unfold ma_ok at h ⊢
  rw [(e a (by omega) (by omega)).1, (e (a + 1) (by omega) (by omega)).1, (e (a + 2) (by omega) (by omega)).1, (e a (by omega) (by omega)).2.2]
  exact h
theorem ga_ok.sm (h : ga_ok S P a) (e : mx_sm a (a + 3) S S2 I I2 P P2) : ga_ok S2 P2 a := by
  unfold ga_ok at h ⊢
  rw [(e a (by omega) (by omega)).1, (e (a + 1) (by omega) (by omega)).1, (e (a + 2) (by omega) (by omega)).1, (e a (by omega) (by omega)).2.2]
  exact h
theorem te_ok.sm (h : te_ok S P a) (e : mx_sm a (a + 6) S S2 I I2 P P2) : te_ok S2 P2 a := by
  unfold te_ok at h ⊢
  rw [(e a (by omega) (by omega)).1, (e (a + 1) (by omega) (by omega)).1, (e (a + 2) (by omega) (by omega)).1, (e (a + 3) (by omega) (by omega)).1, (e (a + 4) (by omega) (by omega)).1, (e (a + 5) (by omega) (by omega)).1, (e a (by omega) (by omega)).2.2]
  exact h
theorem lr_ok.sm (h : lr_ok S P a te) (e : mx_sm a (a + 5) S S2 I I2 P P2) : lr_ok S2 P2 a te := by
  unfold lr_ok at h ⊢
  rw [(e a (by omega) (by omega)).1, (e (a + 1) (by omega) (by omega)).1, (e (a + 2) (by omega) (by omega)).1, (e (a + 3) (by omega) (by omega)).1, (e (a + 4) (by omega) (by omega)).1, (e a (by omega) (by omega)).2.2]
  exact h
theorem gx_ok.sm (h : gx_ok S P a te dr) (e : mx_sm a (a + 1) S S2 I I2 P P2) : gx_ok S2 P2 a te dr := by
  unfold gx_ok at h ⊢
  rw [(e a (by omega) (by omega)).1, (e a (by omega) (by omega)).2.2]
  exact h
theorem la_ok.sm (h : la_ok S P a n z) (e : mx_sm a (a + 6) S S2 I I2 P P2) : la_ok S2 P2 a n z := by
  unfold la_ok at h ⊢
  rw [(e a (by omega) (by omega)).1, (e (a + 1) (by omega) (by omega)).1, (e (a + 2) (by omega) (by omega)).1, (e (a + 3) (by omega) (by omega)).1, (e (a + 4) (by omega) (by omega)).1, (e (a + 5) (by omega) (by omega)).1, (e a (by omega) (by omega)).2.2]
  exact h
theorem st_ok.sm (h : st_ok S P a) (e : mx_sm a (a + 15) S S2 I I2 P P2) : st_ok S2 P2 a := h.cg (fun c h1 h2 => ⟨(e c h1 h2).1, (e c h1 h2).2.2⟩)
theorem la_is.sm (h : la_is S P I a D) (e : mx_sm a (a + 6) S S2 I I2 P P2) : la_is S2 P2 I2 a D := by
  obtain ⟨h1, h2, h3⟩ := h
  refine ⟨h1.sm e, ?_, h3⟩
  unfold la_rel at h2 ⊢
  rw [(e a (by omega) (by omega)).2.1, (e (a + 1) (by omega) (by omega)).2.1, (e (a + 2) (by omega) (by omega)).2.1, (e (a + 3) (by omega) (by omega)).2.1, (e (a + 4) (by omega) (by omega)).2.1]
  exact h2
theorem lo_rel.cgr (h : lo_rel I a m N z) (e0 : I2 a = I a) (e1 : I2 (a + 1) = I (a + 1)) : lo_rel I2 a m N z := by
  unfold lo_rel at h ⊢
  rw [e0, e1]; exact h
theorem st_new.sm (h : st_new S I P a la) (e : mx_sm a (a + 15) S S2 I I2 P P2) : st_new S2 I2 P2 a la :=
  ⟨h.1.sm e, (congrFun (e a (by omega) (by omega)).2.2 2).trans h.2.1, h.2.2.1.congr (fun c h1 h2 => (e c (by omega) (by omega)).2.1), h.2.2.2.cgr (e (a + 9) (by omega) (by omega)).2.1 (e (a + 9 + 1) (by omega) (by omega)).2.1⟩
theorem pt_inv.ok {S0 : mx_S} {I0 : mx_I} {P0 : mx_P} (h : pt_inv S0 S I0 I P0 P a la 12) : pt_ok S P a := ⟨h.2.1, h.2.2.1, h.2.2.2.1, fun i hi => ⟨(h.2.2.2.2.2.2 i hi).1, (h.2.2.2.2.2.2 i hi).2.1⟩⟩
theorem pt_ok.sm (h : pt_ok S P a) (e : mx_sm a (a + 182) S S2 I I2 P P2) : pt_ok S2 P2 a := by
  obtain ⟨h1, h2, h3, h4⟩ := h
  refine ⟨(e a (by omega) (by omega)).1.trans h1, (congrFun (e a (by omega) (by omega)).2.2 0).trans h2, (e (a + 1) (by omega) (by omega)).1.trans h3, fun i hi => ⟨(congrFun (e (a + 1) (by omega) (by omega)).2.2 i).trans (h4 i hi).1, (h4 i hi).2.sm (e.le (by omega) (by omega))⟩⟩
end BQ85
