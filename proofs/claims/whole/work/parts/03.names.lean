/-! WORDS: the good ones of the tables; those that go from state to state by laws of their own -/
def mx_W : List Cond := lw_tbl.filter goodWord
theorem mx_in {w : Cond} (i : Nat) (h : lw_tbl[i]? = some w) (g : goodWord w = true) : w ∈ mx_W := List.mem_filter.mpr ⟨List.mem_of_getElem? h, g⟩
theorem mx_W_good : ∀ w ∈ mx_W, goodWord w = true := fun _ h => (List.mem_filter.mp h).2
def mx_NW : List Cond := [.methodLinkNest "VisitingHours" 15 ⟨"VisitingHours$Pairs", "<init>", "()V"⟩ "VisitingHours", .methodLinkNest "VisitingHours" 22 ⟨"VisitingHours$Match", "<init>", "()V"⟩ "VisitingHours", .methodLinkNest "VisitingHours" 29 ⟨"VisitingHours$Gates", "<init>", "()V"⟩ "VisitingHours", .methodLinkNest "VisitingHours$State" 20 ⟨"VisitingHours$Log", "<init>", "()V"⟩ "VisitingHours", .methodLinkNest "VisitingHours" 70 ⟨"VisitingHours$Text", "<init>", "()V"⟩ "VisitingHours", .methodLinkNest "VisitingHours$Text" 34 ⟨"VisitingHours", "put", "([III)V"⟩ "VisitingHours", .methodLinkNest "VisitingHours$State" 75 ⟨"VisitingHours", "get", "([II)I"⟩ "VisitingHours", .methodLinkNest "VisitingHours$People" 48 ⟨"VisitingHours", "get", "([II)I"⟩ "VisitingHours", .methodLinkNest "VisitingHours$People" 56 ⟨"VisitingHours", "has", "(II)Z"⟩ "VisitingHours", .methodLinkNest "VisitingHours$State" 79 ⟨"VisitingHours", "put", "([III)V"⟩ "VisitingHours", .methodLinkNest "VisitingHours$Law" 31 ⟨"VisitingHours", "get", "([II)I"⟩ "VisitingHours", .methodLinkNest "VisitingHours$Law" 39 ⟨"VisitingHours", "put", "([III)V"⟩ "VisitingHours", .methodLinkNest "VisitingHours$Pairs" 44 ⟨"VisitingHours", "fill", "([II)V"⟩ "VisitingHours", .methodLinkNest "VisitingHours$Pairs" 56 ⟨"VisitingHours", "put", "([III)V"⟩ "VisitingHours", .methodLinkNest "VisitingHours$Pairs" 64 ⟨"VisitingHours", "get", "([II)I"⟩ "VisitingHours", .methodLinkNest "VisitingHours$Pairs" 93 ⟨"VisitingHours", "copy", "([I[I)V"⟩ "VisitingHours", .methodLinkNest "VisitingHours$Pairs" 83 ⟨"VisitingHours", "has", "(II)Z"⟩ "VisitingHours", .methodLinkNest "VisitingHours$People" 40 ⟨"VisitingHours", "copy", "([I[I)V"⟩ "VisitingHours", .methodLinkNest "VisitingHours$Log" 22 ⟨"VisitingHours", "copy", "([I[I)V"⟩ "VisitingHours", .methodLinkNest "VisitingHours$State" 71 ⟨"VisitingHours", "copy", "([I[I)V"⟩ "VisitingHours", .methodLinkNest "VisitingHours$Text" 41 ⟨"VisitingHours", "get", "([II)I"⟩ "VisitingHours", .methodLinkNest "VisitingHours$Text" 83 ⟨"VisitingHours", "has", "(II)Z"⟩ "VisitingHours", .methodLinkNest "VisitingHours$People" 44 ⟨"VisitingHours", "put", "([III)V"⟩ "VisitingHours", .methodLinkNest "VisitingHours$GroundReade\x72" 103 ⟨"VisitingHours", "get", "([II)I"⟩ "VisitingHours", .castable "java/lang/IllegalArgumentException" "java/lang/IllegalArgumentException", .declares ⟨"java/lang/RuntimeException", "<init>", "()V"⟩, .declares ⟨"java/lang/RuntimeException", "<init>", "(Ljava/lang/String;)V"⟩, .declares ⟨"java/lang/Exception", "<init>", "()V"⟩, .declares ⟨"java/lang/Exception", "<init>", "(Ljava/lang/String;)V"⟩, .declares ⟨"java/lang/Throwable", "<init>", "()V"⟩, .declares ⟨"java/lang/Throwable", "<init>", "(Ljava/lang/String;)V"⟩, .castable "java/lang/UnsupportedOperationException" "java/lang/UnsupportedOperationException", .methodLinkNest "VisitingHours$LawReade\x72" 73 ⟨"VisitingHours", "put", "([III)V"⟩ "VisitingHours", .methodLinkNest "VisitingHours$LawReade\x72" 34 ⟨"VisitingHours", "firstOf", "([II)[I"⟩ "VisitingHours", .castable "java/lang/IndexOutOfBoundsException" "java/lang/IndexOutOfBoundsException", .castable "java/util/NoSuchElementException" "java/util/NoSuchElementException", .castable "java/lang/IllegalStateException" "java/lang/IllegalStateException", .methodLinkNest "VisitingHours$Log" 26 ⟨"VisitingHours", "put", "([III)V"⟩ "VisitingHours", .methodLinkNest "VisitingHours$State" 154 ⟨"VisitingHours", "has", "(II)Z"⟩ "VisitingHours", .methodLinkNest "VisitingHours$Match" 25 ⟨"VisitingHours", "fill", "([II)V"⟩ "VisitingHours", .methodLinkNest "VisitingHours$Match" 29 ⟨"VisitingHours", "put", "([III)V"⟩ "VisitingHours", .methodLinkNest "VisitingHours$Match" 43 ⟨"VisitingHours", "get", "([II)I"⟩ "VisitingHours", .methodLinkNest "VisitingHours$Match" 56 ⟨"VisitingHours", "has", "(II)Z"⟩ "VisitingHours", .methodLinkNest "VisitingHours$Gates" 30 ⟨"VisitingHours", "get", "([II)I"⟩ "VisitingHours", .methodLinkNest "VisitingHours$Gates" 38 ⟨"VisitingHours", "put", "([III)V"⟩ "VisitingHours", .methodLinkNest "VisitingHours$Log" 30 ⟨"VisitingHours", "get", "([II)I"⟩ "VisitingHours"]
theorem mx_NW_in : ∀ w ∈ mx_NW, w ∈ lw_tbl := by
  intro w hw
  simp only [mx_NW, List.mem_cons, List.not_mem_nil, or_false] at hw
  rcases hw with rfl | rfl | rfl | rfl | rfl | rfl | rfl | rfl | rfl | rfl | rfl | rfl | rfl | rfl | rfl | rfl | rfl | rfl | rfl | rfl | rfl | rfl | rfl | rfl | rfl | rfl | rfl | rfl | rfl | rfl | rfl | rfl | rfl | rfl | rfl | rfl | rfl | rfl | rfl | rfl | rfl | rfl | rfl | rfl | rfl | rfl
  · exact List.mem_of_getElem? (i := 166) (by decide +kernel)
  · exact List.mem_of_getElem? (i := 202) (by decide +kernel)
  · exact List.mem_of_getElem? (i := 221) (by decide +kernel)
  · exact List.mem_of_getElem? (i := 319) (by decide +kernel)
  · exact List.mem_of_getElem? (i := 416) (by decide +kernel)
  · exact List.mem_of_getElem? (i := 555) (by decide +kernel)
  · exact List.mem_of_getElem? (i := 582) (by decide +kernel)
  · exact List.mem_of_getElem? (i := 589) (by decide +kernel)
  · exact List.mem_of_getElem? (i := 590) (by decide +kernel)
  · exact List.mem_of_getElem? (i := 609) (by decide +kernel)
  · exact List.mem_of_getElem? (i := 619) (by decide +kernel)
  · exact List.mem_of_getElem? (i := 624) (by decide +kernel)
  · exact List.mem_of_getElem? (i := 657) (by decide +kernel)
  · exact List.mem_of_getElem? (i := 662) (by decide +kernel)
  · exact List.mem_of_getElem? (i := 675) (by decide +kernel)
  · exact List.mem_of_getElem? (i := 683) (by decide +kernel)
  · exact List.mem_of_getElem? (i := 712) (by decide +kernel)
  · exact List.mem_of_getElem? (i := 790) (by decide +kernel)
  · exact List.mem_of_getElem? (i := 795) (by decide +kernel)
  · exact List.mem_of_getElem? (i := 796) (by decide +kernel)
  · exact List.mem_of_getElem? (i := 840) (by decide +kernel)
  · exact List.mem_of_getElem? (i := 945) (by decide +kernel)
  · exact List.mem_of_getElem? (i := 990) (by decide +kernel)
  · exact List.mem_of_getElem? (i := 1012) (by decide +kernel)
  · exact List.mem_of_getElem? (i := 1031) (by decide +kernel)
  · exact List.mem_of_getElem? (i := 1032) (by decide +kernel)
  · exact List.mem_of_getElem? (i := 1033) (by decide +kernel)
  · exact List.mem_of_getElem? (i := 1034) (by decide +kernel)
  · exact List.mem_of_getElem? (i := 1035) (by decide +kernel)
  · exact List.mem_of_getElem? (i := 1036) (by decide +kernel)
  · exact List.mem_of_getElem? (i := 1037) (by decide +kernel)
  · exact List.mem_of_getElem? (i := 1101) (by decide +kernel)
  · exact List.mem_of_getElem? (i := 1147) (by decide +kernel)
  · exact List.mem_of_getElem? (i := 1162) (by decide +kernel)
  · exact List.mem_of_getElem? (i := 1185) (by decide +kernel)
  · exact List.mem_of_getElem? (i := 1213) (by decide +kernel)
  · exact List.mem_of_getElem? (i := 1302) (by decide +kernel)
  · exact List.mem_of_getElem? (i := 1395) (by decide +kernel)
  · exact List.mem_of_getElem? (i := 1400) (by decide +kernel)
  · exact List.mem_of_getElem? (i := 1465) (by decide +kernel)
  · exact List.mem_of_getElem? (i := 1470) (by decide +kernel)
  · exact List.mem_of_getElem? (i := 1480) (by decide +kernel)
  · exact List.mem_of_getElem? (i := 1485) (by decide +kernel)
  · exact List.mem_of_getElem? (i := 1514) (by decide +kernel)
  · exact List.mem_of_getElem? (i := 1521) (by decide +kernel)
  · exact List.mem_of_getElem? (i := 1680) (by decide +kernel)
def mx_f0 : u_T := fun k => match k with
  | 0 => ("VisitingHours$Pairs", "hosts", "I", false)
  | 1 => ("VisitingHours$Pairs", "guests", "I", false)
  | 2 => ("VisitingHours$Pairs", "wish", "[I", true)
  | 3 => ("VisitingHours$Pairs", "love", "[I", true)
  | 4 => ("VisitingHours$Pairs", "mate", "[I", true)
  | 5 => ("VisitingHours$Pairs", "mateOfGuest", "[I", true)
  | 6 => ("VisitingHours$Pairs", "asked", "[I", true)
  | 7 => ("VisitingHours$Pairs", "hostBests", "[I", true)
  | _ => ("VisitingHours$Pairs", "guestBests", "[I", true)
def mx_f1 : u_T := fun k => match k with
  | 0 => ("VisitingHours$Match", "rows", "I", false)
  | 1 => ("VisitingHours$Match", "columns", "I", false)
  | 2 => ("VisitingHours$Match", "gains", "[I", true)
  | _ => ("VisitingHours$Match", "most", "[I", true)
def mx_f2 : u_T := fun k => match k with
  | 0 => ("VisitingHours$Gates", "many", "I", false)
  | 1 => ("VisitingHours$Gates", "musts", "[I", true)
  | _ => ("VisitingHours$Gates", "nots", "[I", true)
def mx_f3 : u_T := fun k => match k with
  | 0 => ("VisitingHours$Law", "lines", "I", true)
  | 1 => ("VisitingHours$Law", "kinds", "[I", true)
  | 2 => ("VisitingHours$Law", "amounts", "[I", true)
  | 3 => ("VisitingHours$Law", "ends", "[I", true)
  | 4 => ("VisitingHours$Law", "code", "[I", true)
  | _ => ("VisitingHours$Law", "stack", "[I", true)
def mx_f4 : u_T := fun k => match k with
  | 0 => ("VisitingHours$People", "hosts", "I", false)
  | 1 => ("VisitingHours$People", "guests", "I", false)
  | 2 => ("VisitingHours$People", "patience", "[I", true)
  | 3 => ("VisitingHours$People", "hostHours", "[I", true)
  | 4 => ("VisitingHours$People", "stay", "[I", true)
  | 5 => ("VisitingHours$People", "guestHours", "[I", true)
  | 6 => ("VisitingHours$People", "marks", "[I", true)
  | 7 => ("VisitingHours$People", "byHost", "[I", true)
  | _ => ("VisitingHours$People", "byGuest", "[I", true)
def mx_f5 : u_T := fun k => match k with
  | 0 => ("VisitingHours$Log", "many", "I", false)
  | 1 => ("VisitingHours$Log", "newest", "I", false)
  | _ => ("VisitingHours$Log", "numbers", "[I", true)
def mx_f6 : u_T := fun k => match k with
  | 0 => ("VisitingHours$State", "people", "LVisitingHours$People;", true)
  | 1 => ("VisitingHours$State", "log", "LVisitingHours$Log;", true)
  | 2 => ("VisitingHours$State", "law", "LVisitingHours$Law;", false)
  | 3 => ("VisitingHours$State", "texts", "I", false)
  | 4 => ("VisitingHours$State", "rain", "I", false)
  | 5 => ("VisitingHours$State", "week", "I", false)
  | 6 => ("VisitingHours$State", "must", "I", false)
  | 7 => ("VisitingHours$State", "mustNot", "I", false)
  | 8 => ("VisitingHours$State", "seed", "I", false)
  | 9 => ("VisitingHours$State", "settlers", "I", false)
  | 10 => ("VisitingHours$State", "gladness", "[I", true)
  | 11 => ("VisitingHours$State", "lonely", "[I", true)
  | 12 => ("VisitingHours$State", "list", "[I", true)
  | _ => ("VisitingHours$State", "facts", "[I", true)
def mx_f7 : u_T := fun k => match k with
  | 0 => ("VisitingHours$Past", "states", "[LVisitingHours$State;", true)
  | 1 => ("VisitingHours$Past", "many", "I", false)
  | _ => ("VisitingHours$Past", "next", "I", false)
def mx_f8 : u_T := fun k => match k with
  | 0 => ("VisitingHours$Text", "bytes", "[I", true)
  | 1 => ("VisitingHours$Text", "length", "I", false)
  | 2 => ("VisitingHours$Text", "wrong", "I", false)
  | 3 => ("VisitingHours$Text", "kinds", "[I", true)
  | 4 => ("VisitingHours$Text", "begins", "[I", true)
  | 5 => ("VisitingHours$Text", "sizes", "[I", true)
  | 6 => ("VisitingHours$Text", "numbers", "[I", true)
  | 7 => ("VisitingHours$Text", "tokens", "I", false)
  | 8 => ("VisitingHours$Text", "token", "I", false)
  | _ => ("VisitingHours$Text", "kind", "I", false)
def mx_f9 : u_T := fun k => match k with
  | 0 => ("VisitingHours$GroundReade\x72", "text", "LVisitingHours$Text;", true)
  | _ => ("VisitingHours$GroundReade\x72", "draft", "LVisitingHours$State;", true)
def mx_f10 : u_T := fun k => match k with
  | 0 => ("VisitingHours$LawReade\x72", "text", "LVisitingHours$Text;", true)
  | 1 => ("VisitingHours$LawReade\x72", "lines", "I", false)
  | 2 => ("VisitingHours$LawReade\x72", "kinds", "[I", true)
  | 3 => ("VisitingHours$LawReade\x72", "amounts", "[I", true)
  | 4 => ("VisitingHours$LawReade\x72", "ends", "[I", true)
  | 5 => ("VisitingHours$LawReade\x72", "code", "[I", true)
  | _ => ("VisitingHours$LawReade\x72", "size", "I", false)
def mx_f11 : u_T := fun k => match k with
  | 0 => ("VisitingHours", "tape", "LVisitingHours$Text;", true)
  | 1 => ("VisitingHours", "groundReade\x72", "LVisitingHours$GroundReader;", true)
  | 2 => ("VisitingHours", "lawReade\x72", "LVisitingHours$LawReader;", true)
  | 3 => ("VisitingHours", "now", "LVisitingHours$State;", true)
  | 4 => ("VisitingHours", "tried", "LVisitingHours$State;", true)
  | 5 => ("VisitingHours", "kept", "LVisitingHours$State;", true)
  | 6 => ("VisitingHours", "isKept", "Z", false)
  | 7 => ("VisitingHours", "past", "LVisitingHours$Past;", true)
  | 8 => ("VisitingHours", "pairs", "LVisitingHours$Pairs;", true)
  | 9 => ("VisitingHours", "match", "LVisitingHours$Match;", true)
  | 10 => ("VisitingHours", "gates", "LVisitingHours$Gates;", true)
  | 11 => ("VisitingHours", "behind", "[I", true)
  | _ => ("VisitingHours", "wanted", "[I", true)
def mx_f12 : u_T := fun k => match k with
  | 0 => ("VisitingHoursModel", "thrown", "I", false)
  | 1 => ("VisitingHoursModel", "m", "[I", true)
  | 2 => ("VisitingHoursModel", "kept", "[I", true)
  | 3 => ("VisitingHoursModel", "hasImage", "Z", false)
  | 4 => ("VisitingHoursModel", "aside", "[I", true)
  | 5 => ("VisitingHoursModel", "acts", "[I", true)
  | 6 => ("VisitingHoursModel", "acted", "I", false)
  | 7 => ("VisitingHoursModel", "tape", "[I", true)
  | 8 => ("VisitingHoursModel", "taped", "I", false)
  | 9 => ("VisitingHoursModel", "base", "I", false)
  | 10 => ("VisitingHoursModel", "end", "I", false)
  | 11 => ("VisitingHoursModel", "at", "I", false)
  | 12 => ("VisitingHoursModel", "fault", "I", false)
  | 13 => ("VisitingHoursModel", "deep", "I", false)
  | 14 => ("VisitingHoursModel", "fact", "[I", true)
  | 15 => ("VisitingHoursModel", "isMarked", "Z", false)
  | 16 => ("VisitingHoursModel", "isExpected", "Z", false)
  | 17 => ("VisitingHoursModel", "glad", "I", false)
  | 18 => ("VisitingHoursModel", "hasAdmit", "Z", false)
  | 19 => ("VisitingHoursModel", "admits", "Z", false)
  | 20 => ("VisitingHoursModel", "settled", "I", false)
  | 21 => ("VisitingHoursModel", "guestOf", "[I", true)
  | 22 => ("VisitingHoursModel", "hostOf", "[I", true)
  | 23 => ("VisitingHoursModel", "refused", "[I", true)
  | 24 => ("VisitingHoursModel", "best", "[I", true)
  | 25 => ("VisitingHoursModel", "wide", "[I", true)
  | 26 => ("VisitingHoursModel", "fits", "[Z", true)
  | _ => ("VisitingHoursModel", "can", "[Z", true)
def mx_cl : List vw_C := [("VisitingHours$Pairs", mx_f0, 9), ("VisitingHours$Match", mx_f1, 4), ("VisitingHours$Gates", mx_f2, 3), ("VisitingHours$Law", mx_f3, 6), ("VisitingHours$People", mx_f4, 9), ("VisitingHours$Log", mx_f5, 3), ("VisitingHours$State", mx_f6, 14), ("VisitingHours$Past", mx_f7, 3), ("VisitingHours$Text", mx_f8, 10), ("VisitingHours$GroundReade\x72", mx_f9, 2), ("VisitingHours$LawReade\x72", mx_f10, 7), ("VisitingHours", mx_f11, 13), ("VisitingHoursModel", mx_f12, 28)]
def mx_ty (T : u_T) (k : Nat) : FieldType := (parseFieldDescriptor (T k).2.2.1).getD .int
def mx_isI (T : u_T) (k : Nat) : Bool := (T k).2.2.1 == "I" || (T k).2.2.1 == "Z"
/-- what the tables say of a class of the list -/
def mx_okC (q : vw_C) : Prop := (∀ w ∈ u_ws q.1 q.2.1 q.2.2, w ∈ mx_W) ∧ (∀ k, k < q.2.2 → parseFieldDescriptor (q.2.1 k).2.2.1 = some (mx_ty q.2.1 k)) ∧ (∀ a, a < q.2.2 → ∀ b, b < q.2.2 → a ≠ b → (q.2.1 a).2.1 ≠ (q.2.1 b).2.1) ∧ Cond.instantiable q.1 q.2.2 ∈ mx_W ∧ Cond.initialized q.1 ∈ mx_W
theorem mx_inL {L : List Cond} (ps : List Nat) (h : L.map some = ps.map (fun i => lw_tbl[i]?)) (g : L.all goodWord = true) : ∀ w ∈ L, w ∈ mx_W := by
  intro w hw
  have h1 : some w ∈ L.map some := List.mem_map.mpr ⟨w, hw, rfl⟩
  rw [h] at h1
  obtain ⟨i, -, hi⟩ := List.mem_map.mp h1
  exact mx_in i hi (List.all_eq_true.mp g w hw)
theorem mx_ok0 : mx_okC ("VisitingHours$Pairs", mx_f0, 9) := ⟨mx_inL [180, 182, 184, 186, 188, 190, 192, 194, 196] (by decide +kernel) (by decide +kernel), by decide +kernel, by decide +kernel, mx_in 165 (by decide +kernel) rfl, mx_in 129 (by decide +kernel) rfl⟩
theorem mx_ok1 : mx_okC ("VisitingHours$Match", mx_f1, 4) := ⟨mx_inL [210, 212, 214, 216] (by decide +kernel) (by decide +kernel), by decide +kernel, by decide +kernel, mx_in 201 (by decide +kernel) rfl, mx_in 130 (by decide +kernel) rfl⟩
theorem mx_ok2 : mx_okC ("VisitingHours$Gates", mx_f2, 3) := ⟨mx_inL [229, 231, 233] (by decide +kernel) (by decide +kernel), by decide +kernel, by decide +kernel, mx_in 220 (by decide +kernel) rfl, mx_in 131 (by decide +kernel) rfl⟩
theorem mx_ok3 : mx_okC ("VisitingHours$Law", mx_f3, 6) := ⟨mx_inL [249, 251, 253, 255, 257, 259] (by decide +kernel) (by decide +kernel), by decide +kernel, by decide +kernel, mx_in 237 (by decide +kernel) rfl, mx_in 132 (by decide +kernel) rfl⟩
theorem mx_ok4 : mx_okC ("VisitingHours$People", mx_f4, 9) := ⟨mx_inL [298, 300, 302, 304, 306, 308, 310, 312, 314] (by decide +kernel) (by decide +kernel), by decide +kernel, by decide +kernel, mx_in 269 (by decide +kernel) rfl, mx_in 134 (by decide +kernel) rfl⟩
theorem mx_ok5 : mx_okC ("VisitingHours$Log", mx_f5, 3) := ⟨mx_inL [327, 329, 331] (by decide +kernel) (by decide +kernel), by decide +kernel, by decide +kernel, mx_in 318 (by decide +kernel) rfl, mx_in 135 (by decide +kernel) rfl⟩
theorem mx_ok6 : mx_okC ("VisitingHours$State", mx_f6, 14) := ⟨mx_inL [365, 367, 369, 371, 373, 375, 377, 379, 381, 383, 385, 387, 389, 391] (by decide +kernel) (by decide +kernel), by decide +kernel, by decide +kernel, mx_in 263 (by decide +kernel) rfl, mx_in 133 (by decide +kernel) rfl⟩
theorem mx_ok7 : mx_okC ("VisitingHours$Past", mx_f7, 3) := ⟨mx_inL [407, 409, 411] (by decide +kernel) (by decide +kernel), by decide +kernel, by decide +kernel, mx_in 395 (by decide +kernel) rfl, mx_in 136 (by decide +kernel) rfl⟩
theorem mx_ok8 : mx_okC ("VisitingHours$Text", mx_f8, 10) := ⟨mx_inL [440, 442, 444, 446, 448, 450, 452, 454, 456, 458] (by decide +kernel) (by decide +kernel), by decide +kernel, by decide +kernel, mx_in 415 (by decide +kernel) rfl, mx_in 137 (by decide +kernel) rfl⟩
theorem mx_ok9 : mx_okC ("VisitingHours$GroundReade\x72", mx_f9, 2) := ⟨mx_inL [470, 472] (by decide +kernel) (by decide +kernel), by decide +kernel, by decide +kernel, mx_in 462 (by decide +kernel) rfl, mx_in 138 (by decide +kernel) rfl⟩
theorem mx_ok10 : mx_okC ("VisitingHours$LawReade\x72", mx_f10, 7) := ⟨mx_inL [488, 490, 492, 494, 496, 498, 500] (by decide +kernel) (by decide +kernel), by decide +kernel, by decide +kernel, mx_in 476 (by decide +kernel) rfl, mx_in 139 (by decide +kernel) rfl⟩
theorem mx_ok11 : mx_okC ("VisitingHours", mx_f11, 13) := ⟨mx_inL [516, 518, 520, 522, 524, 526, 528, 530, 532, 534, 536, 538, 540] (by decide +kernel) (by decide +kernel), by decide +kernel, by decide +kernel, mx_in 157 (by decide +kernel) rfl, mx_in 128 (by decide +kernel) rfl⟩
theorem mx_ok12 : mx_okC ("VisitingHoursModel", mx_f12, 28) := ⟨mx_inL [1732, 1734, 1736, 1738, 1740, 1742, 1744, 1746, 1748, 1750, 1752, 1754, 1756, 1758, 1760, 1762, 1764, 1766, 1768, 1770, 1772, 1774, 1776, 1778, 1780, 1782, 1784, 1786] (by decide +kernel) (by decide +kernel), by decide +kernel, by decide +kernel, mx_in 1699 (by decide +kernel) rfl, mx_in 140 (by decide +kernel) rfl⟩
theorem mx_clOk (c : Nat) (q : vw_C) (h : mx_cl[c]? = some q) : mx_okC q := by
  match c, h with
  | 0, h => cases h; exact mx_ok0
  | 1, h => cases h; exact mx_ok1
  | 2, h => cases h; exact mx_ok2
  | 3, h => cases h; exact mx_ok3
  | 4, h => cases h; exact mx_ok4
  | 5, h => cases h; exact mx_ok5
  | 6, h => cases h; exact mx_ok6
  | 7, h => cases h; exact mx_ok7
  | 8, h => cases h; exact mx_ok8
  | 9, h => cases h; exact mx_ok9
  | 10, h => cases h; exact mx_ok10
  | 11, h => cases h; exact mx_ok11
  | 12, h => cases h; exact mx_ok12
  | k + 13, h => simp [mx_cl] at h
/-- the text of a String that the Statement's own list names at a place: for a text that rows don't spell -/
def mx_wd (L : List Cond) (i : Nat) : String := match L[i]? with
  | some (.stringRef _ _ t) => t
  | _ => ""
/-- the String constants: the class, its entry, the text -/
def mx_st : List (String × Nat × String) := [("VisitingHours$Text", 96, "host"), ("VisitingHours$Text", 102, "guest"), ("VisitingHours$Text", 104, "week"), ("VisitingHours$Text", 106, "from"), ("VisitingHours$Text", 108, "to"), ("VisitingHours$Text", 110, "patience"), ("VisitingHours$Text", 112, "stay"), ("VisitingHours$Text", 114, "marks"), ("VisitingHours$Text", 116, "likes"), ("VisitingHours$Text", 118, "loves"), ("VisitingHours$Text", 120, "rain"), ("VisitingHours$Text", 122, "needs"), ("VisitingHours$Text", 124, "bars"), ("VisitingHours$Text", 129, "if"), ("VisitingHours$Text", 131, "o\x72"), ("VisitingHours$Text", 133, "and"), ("VisitingHours$Text", 135, "not"), ("VisitingHours$Text", 137, "glad"), ("VisitingHours$Text", 139, "sou\x72"), ("VisitingHours$Text", 141, mx_wd tables_1_4 87), ("VisitingHours$Text", 143, "quarte\x72"), ("VisitingHours$Text", 145, "lonely"), ("VisitingHours$Text", 147, "rank"), ("VisitingHours$Text", 149, "loved"), ("VisitingHours$Text", 151, "marked"), ("VisitingHours$Text", 153, "expected"), ("VisitingHours", 117, "the text of the ground is wrong"), ("VisitingHours", 127, "there are 12 texts"), ("VisitingHours", 143, "the text of the law is wrong"), ("VisitingHours", 465, "there is no such host"), ("VisitingHours", 196, "a host has no such numbe\x72"), ("VisitingHours", 468, "there is no such guest"), ("VisitingHours", 220, "a guest has no such numbe\x72"), ("VisitingHours", 470, "there is no such quarte\x72"), ("VisitingHours", 254, "the guest cannot be booked then"), ("VisitingHours", 263, "nobody is booked then"), ("VisitingHours", 472, "both are one"), ("VisitingHours", 474, "that number is none"), ("VisitingHours", 317, "that is no row of guests, one for each host"), ("VisitingHours", 480, "those are no rows of marks and let in or not"), ("VisitingHours", 366, "that is no row of unlike guests"), ("VisitingHours", 424, "nothing such is told of a host ahead"), ("VisitingHours", 444, "a row of the log has no such numbe\x72"), ("VisitingHoursModel", 252, "glad"), ("VisitingHoursModel", 254, "sou\x72"), ("VisitingHoursModel", 256, mx_wd tables_1_8 38), ("VisitingHoursModel", 258, "if"), ("VisitingHoursModel", 233, "not"), ("VisitingHoursModel", 219, "marked"), ("VisitingHoursModel", 225, "expected"), ("VisitingHoursModel", 151, "host"), ("VisitingHoursModel", 156, "guest"), ("VisitingHoursModel", 208, "quarte\x72"), ("VisitingHoursModel", 210, "lonely"), ("VisitingHoursModel", 212, "rank"), ("VisitingHoursModel", 214, "loved"), ("VisitingHoursModel", 173, "week"), ("VisitingHoursModel", 245, "and"), ("VisitingHoursModel", 250, "o\x72"), ("VisitingHoursModel", 135, "patience"), ("VisitingHoursModel", 127, "from"), ("VisitingHoursModel", 133, "to"), ("VisitingHoursModel", 144, "stay"), ("VisitingHoursModel", 146, "marks"), ("VisitingHoursModel", 161, "likes"), ("VisitingHoursModel", 166, "loves"), ("VisitingHoursModel", 168, "rain"), ("VisitingHoursModel", 175, "needs"), ("VisitingHoursModel", 177, "bars")]
def mx_sb : List (List Int32) := [[104, 111, 115, 116], [103, 117, 101, 115, 116], [119, 101, 101, 107], [102, 114, 111, 109], [116, 111], [112, 97, 116, 105, 101, 110, 99, 101], [115, 116, 97, 121], [109, 97, 114, 107, 115], [108, 105, 107, 101, 115], [108, 111, 118, 101, 115], [114, 97, 105, 110], [110, 101, 101, 100, 115], [98, 97, 114, 115], [105, 102], [111, 114], [97, 110, 100], [110, 111, 116], [103, 108, 97, 100], [115, 111, 117, 114], [97, 100, 109, 105, 116], [113, 117, 97, 114, 116, 101, 114], [108, 111, 110, 101, 108, 121], [114, 97, 110, 107], [108, 111, 118, 101, 100], [109, 97, 114, 107, 101, 100], [101, 120, 112, 101, 99, 116, 101, 100], [116, 104, 101, 32, 116, 101, 120, 116, 32, 111, 102, 32, 116, 104, 101, 32, 103, 114, 111, 117, 110, 100, 32, 105, 115, 32, 119, 114, 111, 110, 103], [116, 104, 101, 114, 101, 32, 97, 114, 101, 32, 49, 50, 32, 116, 101, 120, 116, 115], [116, 104, 101, 32, 116, 101, 120, 116, 32, 111, 102, 32, 116, 104, 101, 32, 108, 97, 119, 32, 105, 115, 32, 119, 114, 111, 110, 103], [116, 104, 101, 114, 101, 32, 105, 115, 32, 110, 111, 32, 115, 117, 99, 104, 32, 104, 111, 115, 116], [97, 32, 104, 111, 115, 116, 32, 104, 97, 115, 32, 110, 111, 32, 115, 117, 99, 104, 32, 110, 117, 109, 98, 101, 114], [116, 104, 101, 114, 101, 32, 105, 115, 32, 110, 111, 32, 115, 117, 99, 104, 32, 103, 117, 101, 115, 116], [97, 32, 103, 117, 101, 115, 116, 32, 104, 97, 115, 32, 110, 111, 32, 115, 117, 99, 104, 32, 110, 117, 109, 98, 101, 114], [116, 104, 101, 114, 101, 32, 105, 115, 32, 110, 111, 32, 115, 117, 99, 104, 32, 113, 117, 97, 114, 116, 101, 114], [116, 104, 101, 32, 103, 117, 101, 115, 116, 32, 99, 97, 110, 110, 111, 116, 32, 98, 101, 32, 98, 111, 111, 107, 101, 100, 32, 116, 104, 101, 110], [110, 111, 98, 111, 100, 121, 32, 105, 115, 32, 98, 111, 111, 107, 101, 100, 32, 116, 104, 101, 110], [98, 111, 116, 104, 32, 97, 114, 101, 32, 111, 110, 101], [116, 104, 97, 116, 32, 110, 117, 109, 98, 101, 114, 32, 105, 115, 32, 110, 111, 110, 101], [116, 104, 97, 116, 32, 105, 115, 32, 110, 111, 32, 114, 111, 119, 32, 111, 102, 32, 103, 117, 101, 115, 116, 115, 44, 32, 111, 110, 101, 32, 102, 111, 114, 32, 101, 97, 99, 104, 32, 104, 111, 115, 116], [116, 104, 111, 115, 101, 32, 97, 114, 101, 32, 110, 111, 32, 114, 111, 119, 115, 32, 111, 102, 32, 109, 97, 114, 107, 115, 32, 97, 110, 100, 32, 108, 101, 116, 32, 105, 110, 32, 111, 114, 32, 110, 111, 116], [116, 104, 97, 116, 32, 105, 115, 32, 110, 111, 32, 114, 111, 119, 32, 111, 102, 32, 117, 110, 108, 105, 107, 101, 32, 103, 117, 101, 115, 116, 115], [110, 111, 116, 104, 105, 110, 103, 32, 115, 117, 99, 104, 32, 105, 115, 32, 116, 111, 108, 100, 32, 111, 102, 32, 97, 32, 104, 111, 115, 116, 32, 97, 104, 101, 97, 100], [97, 32, 114, 111, 119, 32, 111, 102, 32, 116, 104, 101, 32, 108, 111, 103, 32, 104, 97, 115, 32, 110, 111, 32, 115, 117, 99, 104, 32, 110, 117, 109, 98, 101, 114], [103, 108, 97, 100], [115, 111, 117, 114], [97, 100, 109, 105, 116], [105, 102], [110, 111, 116], [109, 97, 114, 107, 101, 100], [101, 120, 112, 101, 99, 116, 101, 100], [104, 111, 115, 116], [103, 117, 101, 115, 116], [113, 117, 97, 114, 116, 101, 114], [108, 111, 110, 101, 108, 121], [114, 97, 110, 107], [108, 111, 118, 101, 100], [119, 101, 101, 107], [97, 110, 100], [111, 114], [112, 97, 116, 105, 101, 110, 99, 101], [102, 114, 111, 109], [116, 111], [115, 116, 97, 121], [109, 97, 114, 107, 115], [108, 105, 107, 101, 115], [108, 111, 118, 101, 115], [114, 97, 105, 110], [110, 101, 101, 100, 115], [98, 97, 114, 115]]
