/-! NoSuchElementException, whose constructor has another pool entry than the kit's rows want -/
section NSE
variable {l : Launch} {E : mx_Env} {M : mx_M} {d k n pc : Nat} {ls : List (Option Value)} {st : List Value} {X : mx_H} {Q : mx_R → mx_H → Prop}
theorem mx_throwQ {tx : String} {is i : Nat} {n0 n3 n4 n6 n9 : Nat} (htr : l.stackTraces = false) (ho : mx_own M = "VisitingHours") (hi : mx_st[i]? = some ("VisitingHours", is, tx)) (hh : mx_hh M = [])
    (d0 : mx_d M pc (.new 194) 3 n0) (d3 : mx_d M (pc + 3) .dup 1 n3) (d4 : mx_d M (pc + 4) (.ldc is) 2 n4) (d6 : mx_d M (pc + 6) (.invokespecial 198) 3 n6) (d9 : mx_d M (pc + 9) .athrow 1 n9)
    (h6 : 6 ≤ d) (hk : 1 ≤ k) (hn : 6 ≤ n) (hcat : (st.map fun v => v.category).sum ≤ 8) (hq : ∀ t', X.1 ≤ t' → Q (.inr "java/util/NoSuchElementException") (t', X.2)) : mx_E l E M d k n pc ls st X Q := by
  sorry
theorem mx_throwQW {tx : String} {is i : Nat} {n0 n3 n4 n6 n9 : Nat} (htr : l.stackTraces = false) (ho : mx_own M = "VisitingHours") (hi : mx_st[i]? = some ("VisitingHours", is, tx)) (hh : mx_hh M = [])
    (d0 : mx_d M pc (.new 194) 3 n0) (d3 : mx_d M (pc + 3) .dup 1 n3) (d4 : mx_d M (pc + 4) (.ldc_w is) 3 n4) (d7 : mx_d M (pc + 7) (.invokespecial 198) 3 n6) (d10 : mx_d M (pc + 10) .athrow 1 n9)
    (h6 : 6 ≤ d) (hk : 1 ≤ k) (hn : 6 ≤ n) (hcat : (st.map fun v => v.category).sum ≤ 8) (hq : ∀ t', X.1 ≤ t' → Q (.inr "java/util/NoSuchElementException") (t', X.2)) : mx_E l E M d k n pc ls st X Q := by
  sorry
end NSE
