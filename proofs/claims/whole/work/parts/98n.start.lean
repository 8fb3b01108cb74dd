/-! WHAT THE LAW'S START GIVES -/
/-- the Strings' words in the start's own list -/
def sw_t (i : Nat) : Term := .string (mx_st.getD i ("", 0, "")).1 (mx_st.getD i ("", 0, "")).2.1
def sw_v (i : Nat) : Term := .field (sw_t i) "java/lang/String" "value" "[B"
def sw_n (i : Nat) : Nat := (mx_sb.getD i []).length
def sw_w (i : Nat) : List Cond := [.exactly (sw_t i) "java/lang/String", .eq (.field (sw_t i) "java/lang/String" "coder" "B") (.int 0), .arrayOf (sw_v i) .byte, .eq (.length (sw_v i)) (.int (Int32.ofNat (sw_n i)))] ++ (List.range (sw_n i)).map (fun j => .eq (.elem (sw_v i) (.int (Int32.ofNat j))) (.int ((mx_sb.getD i []).getD j 0)))
def sw_no : Cond → Bool
  | .eq (.string _ _) (.string _ _) => false
  | _ => true
theorem sw_all : ((flatC narrow_1).drop 94).filter sw_no = (List.range 69).flatMap sw_w := by decide +kernel
def sw_ps : List Nat := [859, 912, 913, 914, 915, 916, 917, 918, 919, 920, 921, 922, 923, 928, 929, 930, 931, 932, 933, 934, 935, 936, 937, 938, 939, 940, 1072, 1108, 1156, 1192, 1220, 1238, 1244, 1263, 1309, 1331, 1342, 1353, 1433, 1522, 1551, 1646, 1692, 1837, 1844, 1845, 1854, 1867, 1876, 1877, 1886, 1887, 1888, 1889, 1890, 1891, 1892, 1893, 1894, 1903, 1912, 1913, 1922, 1923, 1934, 1939, 1940, 1945, 1946]
theorem sw_ref : mx_st.map (fun q => some (Cond.stringRef q.1 q.2.1 q.2.2)) = sw_ps.map (fun i => lw_tbl[i]?) := by decide +kernel
def sw_nw : List Nat := [166, 202, 221, 319, 416, 555, 582, 589, 590, 609, 619, 624, 657, 662, 675, 683, 712, 790, 795, 796, 840, 945, 990, 1012, 1031, 1032, 1033, 1034, 1035, 1036, 1037, 1101, 1147, 1162, 1185, 1213, 1302, 1395, 1400, 1465, 1470, 1480, 1485, 1514, 1521, 1680]
theorem sw_NW : mx_NW.map some = sw_nw.map (fun i => lw_tbl[i]?) := by decide +kernel
theorem sw_in {L : List Cond} (ps : List Nat) (h : L.map some = ps.map (fun i => lw_tbl[i]?)) : ∀ w ∈ L, w ∈ lw_tbl := by
  intro w hw
  have h1 : some w ∈ L.map some := List.mem_map.mpr ⟨w, hw, rfl⟩
  rw [h] at h1
  obtain ⟨i, -, hi⟩ := List.mem_map.mp h1
  exact List.mem_of_getElem? hi
theorem sw_nc : (mx_nc.map (fun q => Cond.not (.castable q.1 q.2))).all (fun w => ((flatC narrow_1).take 94).contains w) = true := by decide +kernel
theorem sw_z : ([Cond.isRef (.static Bundle.tN "UNASSIGNED_STACK" Bundle.steD), Cond.isRef (.static Bundle.tN "SUPPRESSED_SENTINEL" Bundle.listD), Cond.eq (.static "java/lang/String" "COMPACT_STRINGS" "Z") (.int 1), Cond.isRef (.static "jdk/internal/util/Preconditions" "SIOOBE_FORMATTER" "Ljava/util/function/BiFunction;")] : List Cond).all (fun w => ((flatC narrow_1).take 94).contains w) = true := by decide +kernel
section CQ98
variable {s : State} {args : Array Value} {b L : Nat} {xs : Nat → Int32}
theorem sw_mem {i : Nat} (hi : i < 69) {w : Cond} (hw : w ∈ sw_w i) : w ∈ flatC narrow_1 := by
  have h1 : w ∈ (List.range 69).flatMap sw_w := List.mem_flatMap.mpr ⟨i, List.mem_range.mpr hi, hw⟩
  rw [← sw_all] at h1
  exact List.mem_of_mem_drop (List.mem_filter.mp h1).1
theorem sw_tk {w : Cond} (h : ((flatC narrow_1).take 94).contains w = true) : w ∈ flatC narrow_1 := List.mem_of_mem_take (by simpa using h)
/-- one String -/
theorem sw_one (hs : ∀ w ∈ flatC narrow_1, w.before args s = true) {A : Nat → Prop} (hA : ∀ a : Nat, a < s.heap.size → ¬ A a) {i : Nat} (hi : i < 69) : ∃ q : Nat × Nat, (va_O "java/lang/String" q.1 A s s.heap ∧ va_OF "java/lang/String" "coder" "B" (.int 0) q.1 A s s.heap ∧ va_OF "java/lang/String" "value" "[B" (.ref q.2) q.1 A s s.heap ∧ va_T .byte q.2 (sw_n i) (fun j => .int ((mx_sb.getD i []).getD j 0)) A s s.heap) ∧ (sw_t i).eval args s none [] s = some (.ref q.1) := by
  have hn : sw_n i < 2 ^ 31 := by
    have h : ∀ i, i < 69 → sw_n i < 100 := by decide +kernel
    have := h i hi
    omega
  have hw : ∀ w ∈ sw_w i, w.before args s = true := fun w h => hs w (sw_mem hi h)
  obtain ⟨adK, adV, h1, h2⟩ := vk_Sof (args := args) (s := s) (N := 1) (tm := fun _ => sw_t i) (len := [sw_n i]) (byt := [mx_sb.getD i []]) (A := A)
    (fun j hj => by obtain rfl : j = 0 := by omega
                    exact hn)
    (fun j hj => hw _ (by simp [sw_w]))
    (fun j hj => hw _ (by simp [sw_w]))
    (fun j hj => hw _ (by simp [sw_w, sw_v]))
    (fun j hj => by obtain rfl : j = 0 := by omega
                    exact hw _ (by simp [sw_w, sw_v]))
    (fun j hj k hk => by
      obtain rfl : j = 0 := by omega
      exact hw _ (List.mem_append.mpr (Or.inr (List.mem_map.mpr ⟨k, List.mem_range.mpr hk, rfl⟩))))
    (fun a b ha hb hab => absurd (show a = b by omega) hab) hA
  exact ⟨(adK 0, adV 0), h1.1 0 (by omega), h2 0 (by omega)⟩
theorem sw_arr (h : ∀ w ∈ lw_tbl, w.before args s = true) {ty : FieldType} (hw : Cond.arrayClass ty ∈ lw_tbl) : ∃ cA, ArrOfT s cA ty ∧ s.vm.findClass ("[" ++ ty.toString) = some cA := by
  obtain ⟨c, k, comp, h1, h2, h3⟩ := Cond.arrayClass_spec (h _ hw)
  exact ⟨c, fun n z => ⟨(fun k h => by cases h), k, h2, comp, h3⟩, h1⟩
/-- the start, as the walks see it -/
theorem sw_env (hts : ∀ w ∈ lw_tbl, w.before args s = true) (hs : ∀ w ∈ flatC narrow_1, w.before args s = true) (hX : va_X b L xs s s.heap) (hbl : b < s.heap.size) : ∃ E : mx_Env, mx_N E = s.heap.size ∧ mx_b E = b ∧ mx_L E = L ∧ mx_xs E = xs ∧ mx_Ext E s s.heap := by
  have hA : ∀ a : Nat, a < s.heap.size → ¬ (fun q : Nat => s.heap.size ≤ q) a := fun a h => Nat.not_le.mpr h
  have hW : ∀ w ∈ mx_W, w.before args s = true := fun w hw => hts w (List.mem_filter.mp hw).1
  have hk : ∀ c : Nat, ∃ q : ClassId × (Nat → Nat), ∀ r : vw_C, mx_cl[c]? = some r → u_Kn s r.1 r.2.1 r.2.2 q.1 q.2 := fun c => by
    cases hc : mx_cl[c]? with
    | none => exact ⟨(0, fun _ => 0), fun r h => by cases h⟩
    | some r =>
      obtain ⟨g1, -, -, g4, -⟩ := mx_clOk c r hc
      obtain ⟨cC, iS, h⟩ := u_known (C := r.1) (T := r.2.1) (N := r.2.2) (n := r.2.2) hW g1 (hW _ g4)
      exact ⟨(cC, iS), fun r2 h2 => by cases h2; exact h⟩
  obtain ⟨D, hD⟩ := Classical.axiomOfChoice hk
  obtain ⟨a0, b0, c0⟩ := sw_arr hts (ty := .int) (List.mem_of_getElem? (i := 199) (by decide +kernel))
  obtain ⟨a1, b1, c1⟩ := sw_arr hts (ty := .boolean) (List.mem_of_getElem? (i := 1789) (by decide +kernel))
  obtain ⟨a2, b2, c2⟩ := sw_arr hts (ty := .long) (List.mem_of_getElem? (i := 2363) (by decide +kernel))
  have hao : (Cond.arrayOver (.object "VisitingHours$State")).before args s = true := hts _ (List.mem_of_getElem? (i := 401) (by decide +kernel))
  obtain ⟨comp, a3, k3, e1, e2, e3, e4, e5⟩ := Cond.arrayOver_spec hao
  have hq : ∀ i : Nat, ∃ q : Nat × Nat, i < 69 → (va_O "java/lang/String" q.1 (fun q : Nat => s.heap.size ≤ q) s s.heap ∧ va_OF "java/lang/String" "coder" "B" (.int 0) q.1 (fun q : Nat => s.heap.size ≤ q) s s.heap ∧ va_OF "java/lang/String" "value" "[B" (.ref q.2) q.1 (fun q : Nat => s.heap.size ≤ q) s s.heap ∧ va_T .byte q.2 (sw_n i) (fun j => .int ((mx_sb.getD i []).getD j 0)) (fun q : Nat => s.heap.size ≤ q) s s.heap) ∧ (sw_t i).eval args s none [] s = some (.ref q.1) := fun i => by
    by_cases hi : i < 69
    · obtain ⟨q, h⟩ := sw_one hs hA hi
      exact ⟨q, fun _ => h⟩
    · exact ⟨(0, 0), fun h => absurd h hi⟩
  obtain ⟨ad, had⟩ := Classical.axiomOfChoice hq
  refine ⟨((fun c => (D c).1, fun c => (D c).2), (fun k => if k = 0 then a0 else if k = 1 then a1 else if k = 2 then a2 else a3), s.heap.size, (fun i => (ad i).1), (fun i => (ad i).2), b, L, xs), rfl, rfl, rfl, rfl, ⟨⟨fun c r hr => hD c r hr, fun k q hk => ?_⟩, fun w hw => va_Nw.of (mx_Nw_ot w hw) (hts w (sw_in sw_nw sw_NW w hw)), ⟨hbl, hX⟩, fun q hq => ?_, ⟨?_, ?_⟩, ⟨fun i hi => ?_, fun i q hi => ?_⟩, ⟨?_, ?_⟩, va_AO.of hao⟩⟩
  · match k, hk with
    | 0, hk => cases hk; exact ⟨b0, c0⟩
    | 1, hk => cases hk; exact ⟨b1, c1⟩
    | 2, hk => cases hk; exact ⟨b2, c2⟩
    | 3, hk => cases hk; exact ⟨fun n z => ⟨(fun k h => by cases h), k3, e3, comp, e4⟩, k3, comp, e3, e4, e1, e5⟩
    | k + 4, hk => simp [mx_tys] at hk
  · exact va_Nc.of (hs _ (sw_tk (List.all_eq_true.mp sw_nc _ (List.mem_map.mpr ⟨q, hq, rfl⟩))))
  · exact vx_Zqof (hts _ (List.mem_of_getElem? (i := 1056) (by decide +kernel))) (hts _ (List.mem_of_getElem? (i := 147) (by decide +kernel))) (hs _ (sw_tk (List.all_eq_true.mp sw_z _ (by simp)))) hA
  · exact vx_Zqof (hts _ (List.mem_of_getElem? (i := 1058) (by decide +kernel))) (hts _ (List.mem_of_getElem? (i := 147) (by decide +kernel))) (hs _ (sw_tk (List.all_eq_true.mp sw_z _ (by simp)))) hA
  · have h := (had i hi).1
    have e : (mx_sb.map List.length).getD i 0 = sw_n i := by
      unfold sw_n
      rw [List.getD_eq_getElem?_getD, List.getD_eq_getElem?_getD, List.getElem?_map]
      cases mx_sb[i]? <;> rfl
    rw [e]
    exact h
  · have hi9 : i < 69 := by
      have h : mx_st.length = 69 := by decide +kernel
      have := (List.getElem?_eq_some_iff.mp hi).1
      omega
    have hm : some (Cond.stringRef q.1 q.2.1 q.2.2) ∈ mx_st.map (fun q => some (Cond.stringRef q.1 q.2.1 q.2.2)) := List.mem_map.mpr ⟨q, List.mem_of_getElem? hi, rfl⟩
    rw [sw_ref] at hm
    obtain ⟨j, -, hj⟩ := List.mem_map.mp hm
    have ht : sw_t i = .string q.1 q.2.1 := by
      unfold sw_t
      rw [List.getD_eq_getElem?_getD, hi]; rfl
    have h2 := (had i hi9).2
    rw [ht] at h2
    exact vk_R.of (hts _ (List.mem_of_getElem? hj)) h2
  · exact va_Zof (hts _ (List.mem_of_getElem? (i := 873) (by decide +kernel))) (hts _ (List.mem_of_getElem? (i := 143) (by decide +kernel))) (va_eqt (hs _ (sw_tk (List.all_eq_true.mp sw_z _ (by simp))))) hA
  · exact va_Zqof (hts _ (List.mem_of_getElem? (i := 889) (by decide +kernel))) (hts _ (List.mem_of_getElem? (i := 145) (by decide +kernel))) (hs _ (sw_tk (List.all_eq_true.mp sw_z _ (by simp)))) hA
/-- what was made is not told of -/
theorem same_drop {s t : State} {Lo : List Loc} {k n : Nat} (h : s.sameButNew t Lo k n) (hL : ∀ z ∈ Lo, s.heap.size ≤ z.base) : s.sameButNew t [] k n := by
  obtain ⟨h1, h2, h3, h4, h5, h6⟩ := h
  refine ⟨h1, h2, h3, h4, h5, fun a c hc => ?_⟩
  obtain ⟨c2, g1, g2, g3, g4⟩ := h6 a c hc
  refine ⟨c2, g1, g2, g3, fun i _ => g4 i (fun hm => ?_)⟩
  have h7 := hL _ hm
  have h8 := (Array.getElem?_eq_some_iff.mp hc).1
  exact Nat.not_le.mpr h8 h7
end CQ98
