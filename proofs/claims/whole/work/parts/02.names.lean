/-! Names, tables of fields, words, links: printed by gen/names.py out of the listing and the Statement. -/
def xa_gb : Cond → Bool
  | .castable .. => true
  | .declares _ => true
  | .methodLinkNest .. => true
  | .arrayOver (.object _) => true
  | w => goodWord w
theorem xa_gb_ok {w : Cond} (hg : xa_gb w = true) {args a' : Array Value} {s U : State} (hW : s.WarmedH U.vm) (h : w.before args s = true) : w.before a' U = true := by
  unfold xa_gb at hg
  split at hg
  · exact va_Nw.use rfl (va_Nw.warmC hW (va_Nw.of rfl h))
  · exact va_Nw.use rfl (va_Nw.warmD hW (va_Nw.of rfl h))
  · exact va_Nw.use rfl (va_Nw.warmM hW (va_Nw.of rfl h))
  · exact va_AO.use (va_AO.moved hW.alike (va_AO.of h))
  · exact word_at hW (good_of_word hg) h
def xa_ws : List Cond := lw_tbl.filter xa_gb
theorem xa_keep {w : Cond} (hw : w ∈ xa_ws) {args a' : Array Value} {s U : State} (hW : s.WarmedH U.vm) (h : w.before args s = true) : w.before a' U = true := xa_gb_ok (List.mem_filter.mp hw).2 hW h
theorem xa_m1 {w : Cond} (i : Nat) (h : tables_1_1[i]? = some w) (hg : xa_gb w = true) : w ∈ xa_ws := by
  have h1 : w ∈ tables_1_1 := List.mem_of_getElem? h
  have h2 : w ∈ tables_1 := List.mem_append_left _ (h1)
  exact List.mem_filter.mpr ⟨List.mem_append_right _ h2, hg⟩
theorem xa_m2 {w : Cond} (i : Nat) (h : tables_1_2[i]? = some w) (hg : xa_gb w = true) : w ∈ xa_ws := by
  have h1 : w ∈ tables_1_2 := List.mem_of_getElem? h
  have h2 : w ∈ tables_1 := List.mem_append_right _ (List.mem_append_left _ (h1))
  exact List.mem_filter.mpr ⟨List.mem_append_right _ h2, hg⟩
theorem xa_m3 {w : Cond} (i : Nat) (h : tables_1_3[i]? = some w) (hg : xa_gb w = true) : w ∈ xa_ws := by
  have h1 : w ∈ tables_1_3 := List.mem_of_getElem? h
  have h2 : w ∈ tables_1 := List.mem_append_right _ (List.mem_append_right _ (List.mem_append_left _ (h1)))
  exact List.mem_filter.mpr ⟨List.mem_append_right _ h2, hg⟩
theorem xa_m4 {w : Cond} (i : Nat) (h : tables_1_4[i]? = some w) (hg : xa_gb w = true) : w ∈ xa_ws := by
  have h1 : w ∈ tables_1_4 := List.mem_of_getElem? h
  have h2 : w ∈ tables_1 := List.mem_append_right _ (List.mem_append_right _ (List.mem_append_right _ (List.mem_append_left _ (h1))))
  exact List.mem_filter.mpr ⟨List.mem_append_right _ h2, hg⟩
theorem xa_m5 {w : Cond} (i : Nat) (h : tables_1_5[i]? = some w) (hg : xa_gb w = true) : w ∈ xa_ws := by
  have h1 : w ∈ tables_1_5 := List.mem_of_getElem? h
  have h2 : w ∈ tables_1 := List.mem_append_right _ (List.mem_append_right _ (List.mem_append_right _ (List.mem_append_right _ (h1))))
  exact List.mem_filter.mpr ⟨List.mem_append_right _ h2, hg⟩
theorem xa_ms {w : Cond} (i : Nat) (h : (k2_sels lw_privs)[i]? = some w) (hg : xa_gb w = true) : w ∈ xa_ws := List.mem_filter.mpr ⟨List.mem_append_left _ (List.mem_of_getElem? h), hg⟩
def TX_SB : u_T := fun k => match k with
  | 0 => ("StoneBoard", "n", "I", true)
  | 1 => ("StoneBoard", "grid", "LStoneBoard$Grid;", true)
  | 2 => ("StoneBoard", "stones", "[I", true)
  | 3 => ("StoneBoard", "chart", "LStoneBoard$Chart;", true)
  | 4 => ("StoneBoard", "trial", "LStoneBoard$Trial;", true)
  | 5 => ("StoneBoard", "history", "LStoneBoard$History;", true)
  | 6 => ("StoneBoard", "life", "LStoneBoard$Life;", true)
  | _ => ("StoneBoard", "firstSide", "I", false)
def ty_SB : Nat → FieldType := fun k => match k with
  | 0 => .int
  | 1 => .object "StoneBoard$Grid"
  | 2 => .array .int
  | 3 => .object "StoneBoard$Chart"
  | 4 => .object "StoneBoard$Trial"
  | 5 => .object "StoneBoard$History"
  | 6 => .object "StoneBoard$Life"
  | _ => .int
def TX_Areas : u_T := fun k => match k with
  | 0 => ("StoneBoard$Areas", "count", "I", false)
  | 1 => ("StoneBoard$Areas", "grid", "LStoneBoard$Grid;", true)
  | 2 => ("StoneBoard$Areas", "areaOf", "[I", true)
  | 3 => ("StoneBoard$Areas", "order", "[I", true)
  | _ => ("StoneBoard$Areas", "start", "[I", true)
def ty_Areas : Nat → FieldType := fun k => match k with
  | 0 => .int
  | 1 => .object "StoneBoard$Grid"
  | 2 => .array .int
  | 3 => .array .int
  | _ => .array .int
def TX_Chart : u_T := fun k => match k with
  | 0 => ("StoneBoard$Chart", "areas", "LStoneBoard$Areas;", true)
  | 1 => ("StoneBoard$Chart", "grid", "LStoneBoard$Grid;", true)
  | 2 => ("StoneBoard$Chart", "stones", "[I", true)
  | 3 => ("StoneBoard$Chart", "breaths", "[I", true)
  | 4 => ("StoneBoard$Chart", "leastBreath", "[I", true)
  | 5 => ("StoneBoard$Chart", "holder", "[I", true)
  | _ => ("StoneBoard$Chart", "countedBy", "[I", true)
def ty_Chart : Nat → FieldType := fun k => match k with
  | 0 => .object "StoneBoard$Areas"
  | 1 => .object "StoneBoard$Grid"
  | 2 => .array .int
  | 3 => .array .int
  | 4 => .array .int
  | 5 => .array .int
  | _ => .array .int
def TX_Grid : u_T := fun k => match k with
  | 0 => ("StoneBoard$Grid", "count", "I", true)
  | _ => ("StoneBoard$Grid", "around", "[I", true)
def ty_Grid : Nat → FieldType := fun k => match k with
  | 0 => .int
  | _ => .array .int
def TX_History : u_T := fun k => match k with
  | 0 => ("StoneBoard$History", "latest", "LStoneBoard$Position;", false)
  | _ => ("StoneBoard$History", "buckets", "[LStoneBoard$Position;", true)
def ty_History : Nat → FieldType := fun k => match k with
  | 0 => .object "StoneBoard$Position"
  | _ => .array (.object "StoneBoard$Position")
def TX_Life : u_T := fun k => match k with
  | 0 => ("StoneBoard$Life", "grid", "LStoneBoard$Grid;", true)
  | 1 => ("StoneBoard$Life", "stones", "[I", true)
  | 2 => ("StoneBoard$Life", "kinds", "[I", true)
  | 3 => ("StoneBoard$Life", "areas", "LStoneBoard$Areas;", true)
  | 4 => ("StoneBoard$Life", "stands", "[Z", true)
  | 5 => ("StoneBoard$Life", "belongsTo", "[I", true)
  | _ => ("StoneBoard$Life", "regionsOfString", "[I", true)
def ty_Life : Nat → FieldType := fun k => match k with
  | 0 => .object "StoneBoard$Grid"
  | 1 => .array .int
  | 2 => .array .int
  | 3 => .object "StoneBoard$Areas"
  | 4 => .array .boolean
  | 5 => .array .int
  | _ => .array .int
def TX_Pos : u_T := fun k => match k with
  | 0 => ("StoneBoard$Position", "before", "LStoneBoard$Position;", true)
  | 1 => ("StoneBoard$Position", "olderAlike", "LStoneBoard$Position;", true)
  | 2 => ("StoneBoard$Position", "board", "[J", true)
  | 3 => ("StoneBoard$Position", "number", "I", true)
  | 4 => ("StoneBoard$Position", "point", "I", true)
  | 5 => ("StoneBoard$Position", "takenBlack", "I", true)
  | _ => ("StoneBoard$Position", "takenWhite", "I", true)
def ty_Pos : Nat → FieldType := fun k => match k with
  | 0 => .object "StoneBoard$Position"
  | 1 => .object "StoneBoard$Position"
  | 2 => .array .long
  | 3 => .int
  | 4 => .int
  | 5 => .int
  | _ => .int
def TX_Trial : u_T := fun k => match k with
  | 0 => ("StoneBoard$Trial", "board", "[J", true)
  | 1 => ("StoneBoard$Trial", "takenOff", "I", false)
  | 2 => ("StoneBoard$Trial", "loser", "I", false)
  | 3 => ("StoneBoard$Trial", "grid", "LStoneBoard$Grid;", true)
  | 4 => ("StoneBoard$Trial", "stones", "[I", true)
  | _ => ("StoneBoard$Trial", "chart", "LStoneBoard$Chart;", true)
def ty_Trial : Nat → FieldType := fun k => match k with
  | 0 => .array .long
  | 1 => .int
  | 2 => .int
  | 3 => .object "StoneBoard$Grid"
  | 4 => .array .int
  | _ => .object "StoneBoard$Chart"
def TX_Ref : u_T := fun k => match k with
  | 0 => ("StoneBoardModel", "code", "I", false)
  | 1 => ("StoneBoardModel", "n", "I", true)
  | 2 => ("StoneBoardModel", "points", "I", true)
  | 3 => ("StoneBoardModel", "board", "[I", true)
  | 4 => ("StoneBoardModel", "trial", "[I", true)
  | 5 => ("StoneBoardModel", "trialTaken", "I", false)
  | 6 => ("StoneBoardModel", "trialOwn", "I", false)
  | 7 => ("StoneBoardModel", "stood", "[B", true)
  | 8 => ("StoneBoardModel", "moves", "[I", true)
  | 9 => ("StoneBoardModel", "tookBlack", "[I", true)
  | 10 => ("StoneBoardModel", "tookWhite", "[I", true)
  | 11 => ("StoneBoardModel", "made", "I", false)
  | 12 => ("StoneBoardModel", "begins", "I", false)
  | 13 => ("StoneBoardModel", "in", "[Z", true)
  | 14 => ("StoneBoardModel", "row", "[I", true)
  | 15 => ("StoneBoardModel", "rowSize", "I", false)
  | 16 => ("StoneBoardModel", "group", "[I", true)
  | 17 => ("StoneBoardModel", "region", "[I", true)
  | 18 => ("StoneBoardModel", "standsGroup", "[Z", true)
  | 19 => ("StoneBoardModel", "standsRegion", "[Z", true)
  | 20 => ("StoneBoardModel", "groups", "I", false)
  | 21 => ("StoneBoardModel", "regions", "I", false)
  | 22 => ("StoneBoardModel", "goes", "[Z", true)
  | _ => ("StoneBoardModel", "falls", "[Z", true)
def ty_Ref : Nat → FieldType := fun k => match k with
  | 0 => .int
  | 1 => .int
  | 2 => .int
  | 3 => .array .int
  | 4 => .array .int
  | 5 => .int
  | 6 => .int
  | 7 => .array .byte
  | 8 => .array .int
  | 9 => .array .int
  | 10 => .array .int
  | 11 => .int
  | 12 => .int
  | 13 => .array .boolean
  | 14 => .array .int
  | 15 => .int
  | 16 => .array .int
  | 17 => .array .int
  | 18 => .array .boolean
  | 19 => .array .boolean
  | 20 => .int
  | 21 => .int
  | 22 => .array .boolean
  | _ => .array .boolean
abbrev xa_cl : List vw_C := [("StoneBoard", TX_SB, 8), ("StoneBoard$Areas", TX_Areas, 5), ("StoneBoard$Chart", TX_Chart, 7), ("StoneBoard$Grid", TX_Grid, 2), ("StoneBoard$History", TX_History, 2), ("StoneBoard$Life", TX_Life, 7), ("StoneBoard$Position", TX_Pos, 7), ("StoneBoard$Trial", TX_Trial, 6), ("StoneBoardModel", TX_Ref, 24)]
def xa_pos : String := "StoneBoard$Position"
def xa_posN : Nat := 6
theorem xa_posC : xa_cl[xa_posN]? = some (xa_pos, TX_Pos, 7) := rfl
def xa_tys (D : va_G) : List (ClassId × FieldType) := [(D.1 100, .int), (D.1 101, .long), (D.1 102, .boolean), (D.1 103, .object xa_pos), (D.1 104, .byte)]
def xa_up : List String := ["java/lang/RuntimeException", "java/lang/Exception"]
theorem xa_up_fit : ∀ n ∈ xa_up, Bundle.fit n = true := by decide +kernel
