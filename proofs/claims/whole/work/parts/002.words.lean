/-! THE WORDS: all good ones of the tables, one list for every method -/
def GW : List Cond := lw_tbl.filter goodWord
theorem gwm {w : Cond} (i : Nat) (h : lw_tbl[i]? = some w ∧ goodWord w = true) : w ∈ GW := List.mem_filter.mpr ⟨List.mem_of_getElem? h.1, h.2⟩
theorem gws (ws : List Cond) (ps : List Nat) (h : ws = ps.filterMap (fun i => lw_tbl[i]?) ∧ ws.all goodWord = true) : ∀ w ∈ ws, w ∈ GW := by
  intro w hw
  have h2 := List.all_eq_true.mp h.2 w hw
  rw [h.1] at hw
  obtain ⟨i, -, hi⟩ := List.mem_filterMap.mp hw
  exact List.mem_filter.mpr ⟨List.mem_of_getElem? hi, h2⟩
theorem gwg {w : Cond} (h : w ∈ GW) : (w.onTables && w.keeps) = true ∨ ∃ ty, w = .arrayClass ty := good_of_word (List.mem_filter.mp h).2
theorem gwc {w x : Cond} (h : w ∈ GW) : w ∈ x :: GW := List.mem_cons_of_mem _ h
theorem gC {cx cy : Cond} (h : cy ∈ GW) : GoodIn (cx :: GW) (cy :: GW) := by
  intro w hw
  have h1 : w ∈ GW := by
    rcases List.mem_cons.mp hw with q | q
    · rw [q]; exact h
    · exact q
  exact ⟨gwc h1, gwg h1⟩
theorem gV {own C : String} {idx : Nat} {y : MethodName} {cx cy : Cond} (h1 : Cond.methodLink own idx y ∈ GW) (h2 : Cond.instanceMethod y ∈ GW) (h3 : Cond.selects C y y ∈ GW) (h4 : Cond.initialized C ∈ GW) (h5 : cy ∈ GW) : GoodIn (cx :: GW) (wsV own idx C y (cy :: GW)) := by
  intro w hw
  unfold wsV at hw
  rcases List.mem_append.mp hw with q | q
  · have h : w ∈ GW := by
      rcases List.mem_cons.mp q with q | q
      · rw [q]; exact h1
      rcases List.mem_cons.mp q with q | q
      · rw [q]; exact h2
      rcases List.mem_cons.mp q with q | q
      · rw [q]; exact h3
      rcases List.mem_cons.mp q with q | q
      · rw [q]; exact h4
      exact absurd q List.not_mem_nil
    exact ⟨gwc h, gwg h⟩
  · exact gC h5 w q
theorem gS {own : String} {idx : Nat} {y : MethodName} {cx cy : Cond} (h1 : Cond.methodLink own idx y ∈ GW) (h2 : Cond.static y ∈ GW) (h3 : Cond.initialized y.cls ∈ GW) (h5 : cy ∈ GW) : GoodIn (cx :: GW) (va_wsS own idx y (cy :: GW)) := by
  intro w hw
  unfold va_wsS at hw
  rcases List.mem_append.mp hw with q | q
  · have h : w ∈ GW := by
      rcases List.mem_cons.mp q with q | q
      · rw [q]; exact h1
      rcases List.mem_cons.mp q with q | q
      · rw [q]; exact h2
      rcases List.mem_cons.mp q with q | q
      · rw [q]; exact h3
      exact absurd q List.not_mem_nil
    exact ⟨gwc h, gwg h⟩
  · exact gC h5 w q

def rr_Bo : String := "BalancedSplits$Bounds"
def tt_Bo : u_T := fun k => match k with
  | 0 => ("BalancedSplits$Bounds", "k", "I", false)
  | 1 => ("BalancedSplits$Bounds", "least", "[I", true)
  | _ => ("BalancedSplits$Bounds", "most", "[I", true)
def tf_Bo : Nat → FieldType := fun k => match k with
  | 0 => .int
  | 1 => .array .int
  | _ => .array .int
theorem tn_Bo : ∀ a, a < 3 → ∀ b, b < 3 → a ≠ b → (tt_Bo a).2.1 ≠ (tt_Bo b).2.1 := by decide +kernel
theorem to_Bo : ∀ k, k < 3 → parseFieldDescriptor (tt_Bo k).2.2.1 = some (tf_Bo k) := by decide +kernel
theorem inn_Bo : ∀ w ∈ u_ws rr_Bo tt_Bo 3, w ∈ GW := gws _ [126, 128, 130] (by decide +kernel)
def rr_Gr : String := "BalancedSplits$Graph"
def tt_Gr : u_T := fun k => match k with
  | 0 => ("BalancedSplits$Graph", "size", "I", false)
  | 1 => ("BalancedSplits$Graph", "weight", "[I", true)
  | _ => ("BalancedSplits$Graph", "arcs", "[I", true)
def tf_Gr : Nat → FieldType := fun k => match k with
  | 0 => .int
  | 1 => .array .int
  | _ => .array .int
theorem tn_Gr : ∀ a, a < 3 → ∀ b, b < 3 → a ≠ b → (tt_Gr a).2.1 ≠ (tt_Gr b).2.1 := by decide +kernel
theorem to_Gr : ∀ k, k < 3 → parseFieldDescriptor (tt_Gr k).2.2.1 = some (tf_Gr k) := by decide +kernel
theorem inn_Gr : ∀ w ∈ u_ws rr_Gr tt_Gr 3, w ∈ GW := gws _ [99, 101, 103] (by decide +kernel)
def rr_Le : String := "BalancedSplits$Levels"
def tt_Le : u_T := fun k => match k with
  | 0 => ("BalancedSplits$Levels", "fresh", "Z", false)
  | 1 => ("BalancedSplits$Levels", "count", "I", false)
  | 2 => ("BalancedSplits$Levels", "size", "[I", true)
  | 3 => ("BalancedSplits$Levels", "holders", "[I", true)
  | 4 => ("BalancedSplits$Levels", "mate", "[I", true)
  | _ => ("BalancedSplits$Levels", "number", "[I", true)
def tf_Le : Nat → FieldType := fun k => match k with
  | 0 => .boolean
  | 1 => .int
  | 2 => .array .int
  | 3 => .array .int
  | 4 => .array .int
  | _ => .array .int
theorem tn_Le : ∀ a, a < 6 → ∀ b, b < 6 → a ≠ b → (tt_Le a).2.1 ≠ (tt_Le b).2.1 := by decide +kernel
theorem to_Le : ∀ k, k < 6 → parseFieldDescriptor (tt_Le k).2.2.1 = some (tf_Le k) := by decide +kernel
theorem inn_Le : ∀ w ∈ u_ws rr_Le tt_Le 6, w ∈ GW := gws _ [185, 187, 189, 191, 193, 195] (by decide +kernel)
def rr_Mo : String := "BalancedSplits$Mover"
def tt_Mo : u_T := fun k => match k with
  | 0 => ("BalancedSplits$Mover", "free", "[Z", true)
  | 1 => ("BalancedSplits$Mover", "best", "[I", true)
  | 2 => ("BalancedSplits$Mover", "bestOver", "I", false)
  | 3 => ("BalancedSplits$Mover", "bestCut", "I", false)
  | 4 => ("BalancedSplits$Mover", "nextNode", "I", false)
  | 5 => ("BalancedSplits$Mover", "nextPart", "I", false)
  | 6 => ("BalancedSplits$Mover", "nextOver", "I", false)
  | _ => ("BalancedSplits$Mover", "nextGain", "I", false)
def tf_Mo : Nat → FieldType := fun k => match k with
  | 0 => .array .boolean
  | 1 => .array .int
  | 2 => .int
  | 3 => .int
  | 4 => .int
  | 5 => .int
  | 6 => .int
  | _ => .int
theorem tn_Mo : ∀ a, a < 8 → ∀ b, b < 8 → a ≠ b → (tt_Mo a).2.1 ≠ (tt_Mo b).2.1 := by decide +kernel
theorem to_Mo : ∀ k, k < 8 → parseFieldDescriptor (tt_Mo k).2.2.1 = some (tf_Mo k) := by decide +kernel
theorem inn_Mo : ∀ w ∈ u_ws rr_Mo tt_Mo 8, w ∈ GW := gws _ [235, 237, 239, 241, 243, 245, 247, 249] (by decide +kernel)
def rr_Od : String := "BalancedSplits$Order"
def tt_Od : u_T := fun k => match k with
  | 0 => ("BalancedSplits$Order", "row", "[I", true)
  | _ => ("BalancedSplits$Order", "waiting", "[I", true)
def tf_Od : Nat → FieldType := fun k => match k with
  | 0 => .array .int
  | _ => .array .int
theorem tn_Od : ∀ a, a < 2 → ∀ b, b < 2 → a ≠ b → (tt_Od a).2.1 ≠ (tt_Od b).2.1 := by decide +kernel
theorem to_Od : ∀ k, k < 2 → parseFieldDescriptor (tt_Od k).2.2.1 = some (tf_Od k) := by decide +kernel
theorem inn_Od : ∀ w ∈ u_ws rr_Od tt_Od 2, w ∈ GW := gws _ [262, 264] (by decide +kernel)
def rr_Se : String := "BalancedSplits$Search"
def tt_Se : u_T := fun k => match k with
  | 0 => ("BalancedSplits$Search", "tried", "[I", true)
  | 1 => ("BalancedSplits$Search", "best", "[I", true)
  | 2 => ("BalancedSplits$Search", "sum", "[I", true)
  | 3 => ("BalancedSplits$Search", "bestOver", "I", false)
  | _ => ("BalancedSplits$Search", "bestCut", "I", false)
def tf_Se : Nat → FieldType := fun k => match k with
  | 0 => .array .int
  | 1 => .array .int
  | 2 => .array .int
  | 3 => .int
  | _ => .int
theorem tn_Se : ∀ a, a < 5 → ∀ b, b < 5 → a ≠ b → (tt_Se a).2.1 ≠ (tt_Se b).2.1 := by decide +kernel
theorem to_Se : ∀ k, k < 5 → parseFieldDescriptor (tt_Se k).2.2.1 = some (tf_Se k) := by decide +kernel
theorem inn_Se : ∀ w ∈ u_ws rr_Se tt_Se 5, w ∈ GW := gws _ [210, 212, 214, 216, 218] (by decide +kernel)
def rr_Di : String := "BalancedSplits$Separator"
def tt_Di : u_T := fun k => match k with
  | 0 => ("BalancedSplits$Separator", "inside", "[Z", true)
  | 1 => ("BalancedSplits$Separator", "open", "[I", true)
  | _ => ("BalancedSplits$Separator", "nodes", "I", false)
def tf_Di : Nat → FieldType := fun k => match k with
  | 0 => .array .boolean
  | 1 => .array .int
  | _ => .int
theorem tn_Di : ∀ a, a < 3 → ∀ b, b < 3 → a ≠ b → (tt_Di a).2.1 ≠ (tt_Di b).2.1 := by decide +kernel
theorem to_Di : ∀ k, k < 3 → parseFieldDescriptor (tt_Di k).2.2.1 = some (tf_Di k) := by decide +kernel
theorem inn_Di : ∀ w ∈ u_ws rr_Di tt_Di 3, w ∈ GW := gws _ [276, 278, 280] (by decide +kernel)
def rr_Sp : String := "BalancedSplits$Split"
def tt_Sp : u_T := fun k => match k with
  | 0 => ("BalancedSplits$Split", "graph", "LBalancedSplits$Graph;", true)
  | 1 => ("BalancedSplits$Split", "bounds", "LBalancedSplits$Bounds;", true)
  | 2 => ("BalancedSplits$Split", "home", "[I", true)
  | 3 => ("BalancedSplits$Split", "sum", "[I", true)
  | 4 => ("BalancedSplits$Split", "link", "[I", true)
  | 5 => ("BalancedSplits$Split", "cut", "I", false)
  | _ => ("BalancedSplits$Split", "over", "I", false)
def tf_Sp : Nat → FieldType := fun k => match k with
  | 0 => .object "BalancedSplits$Graph"
  | 1 => .object "BalancedSplits$Bounds"
  | 2 => .array .int
  | 3 => .array .int
  | 4 => .array .int
  | 5 => .int
  | _ => .int
theorem tn_Sp : ∀ a, a < 7 → ∀ b, b < 7 → a ≠ b → (tt_Sp a).2.1 ≠ (tt_Sp b).2.1 := by decide +kernel
theorem to_Sp : ∀ k, k < 7 → parseFieldDescriptor (tt_Sp k).2.2.1 = some (tf_Sp k) := by decide +kernel
theorem inn_Sp : ∀ w ∈ u_ws rr_Sp tt_Sp 7, w ∈ GW := gws _ [156, 158, 160, 162, 164, 166, 168] (by decide +kernel)
def rr_Ba : String := "BalancedSplits"
def tt_Ba : u_T := fun k => match k with
  | 0 => ("BalancedSplits", "top", "LBalancedSplits$Split;", true)
  | 1 => ("BalancedSplits", "low", "LBalancedSplits$Split;", true)
  | 2 => ("BalancedSplits", "levels", "LBalancedSplits$Levels;", true)
  | 3 => ("BalancedSplits", "search", "LBalancedSplits$Search;", true)
  | 4 => ("BalancedSplits", "mover", "LBalancedSplits$Mover;", true)
  | 5 => ("BalancedSplits", "orders", "LBalancedSplits$Order;", true)
  | _ => ("BalancedSplits", "divider", "LBalancedSplits$Separator;", true)
def tf_Ba : Nat → FieldType := fun k => match k with
  | 0 => .object "BalancedSplits$Split"
  | 1 => .object "BalancedSplits$Split"
  | 2 => .object "BalancedSplits$Levels"
  | 3 => .object "BalancedSplits$Search"
  | 4 => .object "BalancedSplits$Mover"
  | 5 => .object "BalancedSplits$Order"
  | _ => .object "BalancedSplits$Separator"
theorem tn_Ba : ∀ a, a < 7 → ∀ b, b < 7 → a ≠ b → (tt_Ba a).2.1 ≠ (tt_Ba b).2.1 := by decide +kernel
theorem to_Ba : ∀ k, k < 7 → parseFieldDescriptor (tt_Ba k).2.2.1 = some (tf_Ba k) := by decide +kernel
theorem inn_Ba : ∀ w ∈ u_ws rr_Ba tt_Ba 7, w ∈ GW := gws _ [290, 292, 294, 296, 298, 300, 302] (by decide +kernel)
def rr_Re : String := "BalancedSplitsModel"
def tt_Re : u_T := fun k => match k with
  | 0 => ("BalancedSplitsModel", "nodes", "I", false)
  | 1 => ("BalancedSplitsModel", "kinds", "I", false)
  | 2 => ("BalancedSplitsModel", "weight", "[I", true)
  | 3 => ("BalancedSplitsModel", "arcs", "[I", true)
  | 4 => ("BalancedSplitsModel", "split", "[I", true)
  | 5 => ("BalancedSplitsModel", "least", "[I", true)
  | 6 => ("BalancedSplitsModel", "most", "[I", true)
  | 7 => ("BalancedSplitsModel", "levels", "I", false)
  | 8 => ("BalancedSplitsModel", "levelNodes", "[I", true)
  | 9 => ("BalancedSplitsModel", "levelWeight", "[I", true)
  | 10 => ("BalancedSplitsModel", "levelArc", "[I", true)
  | 11 => ("BalancedSplitsModel", "levelIn", "[I", true)
  | 12 => ("BalancedSplitsModel", "size", "I", false)
  | 13 => ("BalancedSplitsModel", "base", "I", false)
  | 14 => ("BalancedSplitsModel", "row", "[I", true)
  | 15 => ("BalancedSplitsModel", "isFree", "[Z", true)
  | 16 => ("BalancedSplitsModel", "best", "[I", true)
  | 17 => ("BalancedSplitsModel", "above", "[I", true)
  | 18 => ("BalancedSplitsModel", "ordered", "[I", true)
  | _ => ("BalancedSplitsModel", "parts", "[Z", true)
def tf_Re : Nat → FieldType := fun k => match k with
  | 0 => .int
  | 1 => .int
  | 2 => .array .int
  | 3 => .array .int
  | 4 => .array .int
  | 5 => .array .int
  | 6 => .array .int
  | 7 => .int
  | 8 => .array .int
  | 9 => .array .int
  | 10 => .array .int
  | 11 => .array .int
  | 12 => .int
  | 13 => .int
  | 14 => .array .int
  | 15 => .array .boolean
  | 16 => .array .int
  | 17 => .array .int
  | 18 => .array .int
  | _ => .array .boolean
theorem tn_Re : ∀ a, a < 20 → ∀ b, b < 20 → a ≠ b → (tt_Re a).2.1 ≠ (tt_Re b).2.1 := by decide +kernel
theorem to_Re : ∀ k, k < 20 → parseFieldDescriptor (tt_Re k).2.2.1 = some (tf_Re k) := by decide +kernel
theorem inn_Re : ∀ w ∈ u_ws rr_Re tt_Re 20, w ∈ GW := gws _ [723, 725, 727, 729, 731, 733, 735, 737, 739, 741, 743, 745, 747, 749, 751, 753, 755, 757, 759, 761] (by decide +kernel)
abbrev clsL : List vw_C := [(rr_Bo, tt_Bo, 3), (rr_Gr, tt_Gr, 3), (rr_Le, tt_Le, 6), (rr_Mo, tt_Mo, 8), (rr_Od, tt_Od, 2), (rr_Se, tt_Se, 5), (rr_Di, tt_Di, 3), (rr_Sp, tt_Sp, 7), (rr_Ba, tt_Ba, 7), (rr_Re, tt_Re, 20)]
abbrev cc_Bo_has : ByteArray := prog_2_method_2_code
def yy_Bo_has : MethodName := ⟨rr_Bo, "has", "(I)Z"⟩
def wq_Bo_has : List Cond := .code yy_Bo_has cc_Bo_has 2 (some .boolean) :: GW
theorem yd_Bo_has : yy_Bo_has.cls = rr_Bo ∧ yy_Bo_has.cls ≠ "java/lang/invoke/MethodHandle" ∧ yy_Bo_has.cls ≠ "java/lang/invoke/VarHandle" ∧ (parseMethodDescriptor yy_Bo_has.desc).map (fun d => d.parameters.length) = some 1 := by decide +kernel
abbrev cc_Bo_start : ByteArray := prog_2_method_3_code
def yy_Bo_start : MethodName := ⟨rr_Bo, "start", "(I)V"⟩
def wq_Bo_start : List Cond := .code yy_Bo_start cc_Bo_start 2 none :: GW
theorem yd_Bo_start : yy_Bo_start.cls = rr_Bo ∧ yy_Bo_start.cls ≠ "java/lang/invoke/MethodHandle" ∧ yy_Bo_start.cls ≠ "java/lang/invoke/VarHandle" ∧ (parseMethodDescriptor yy_Bo_start.desc).map (fun d => d.parameters.length) = some 1 := by decide +kernel
abbrev cc_Bo_copyOf : ByteArray := prog_2_method_4_code
def yy_Bo_copyOf : MethodName := ⟨rr_Bo, "copyOf", "(LBalancedSplits$Bounds;)V"⟩
def wq_Bo_copyOf : List Cond := .code yy_Bo_copyOf cc_Bo_copyOf 2 none :: GW
theorem yd_Bo_copyOf : yy_Bo_copyOf.cls = rr_Bo ∧ yy_Bo_copyOf.cls ≠ "java/lang/invoke/MethodHandle" ∧ yy_Bo_copyOf.cls ≠ "java/lang/invoke/VarHandle" ∧ (parseMethodDescriptor yy_Bo_copyOf.desc).map (fun d => d.parameters.length) = some 1 := by decide +kernel
abbrev cc_Bo_miss : ByteArray := prog_2_method_5_code
def yy_Bo_miss : MethodName := ⟨rr_Bo, "miss", "(II)I"⟩
def wq_Bo_miss : List Cond := .code yy_Bo_miss cc_Bo_miss 3 (some .int) :: GW
theorem yd_Bo_miss : yy_Bo_miss.cls = rr_Bo ∧ yy_Bo_miss.cls ≠ "java/lang/invoke/MethodHandle" ∧ yy_Bo_miss.cls ≠ "java/lang/invoke/VarHandle" ∧ (parseMethodDescriptor yy_Bo_miss.desc).map (fun d => d.parameters.length) = some 2 := by decide +kernel
abbrev cc_Gr_has : ByteArray := prog_3_method_2_code
def yy_Gr_has : MethodName := ⟨rr_Gr, "has", "(I)Z"⟩
def wq_Gr_has : List Cond := .code yy_Gr_has cc_Gr_has 2 (some .boolean) :: GW
theorem yd_Gr_has : yy_Gr_has.cls = rr_Gr ∧ yy_Gr_has.cls ≠ "java/lang/invoke/MethodHandle" ∧ yy_Gr_has.cls ≠ "java/lang/invoke/VarHandle" ∧ (parseMethodDescriptor yy_Gr_has.desc).map (fun d => d.parameters.length) = some 1 := by decide +kernel
abbrev cc_Gr_empty : ByteArray := prog_3_method_3_code
def yy_Gr_empty : MethodName := ⟨rr_Gr, "empty", "(I)V"⟩
def wq_Gr_empty : List Cond := .code yy_Gr_empty cc_Gr_empty 2 none :: GW
theorem yd_Gr_empty : yy_Gr_empty.cls = rr_Gr ∧ yy_Gr_empty.cls ≠ "java/lang/invoke/MethodHandle" ∧ yy_Gr_empty.cls ≠ "java/lang/invoke/VarHandle" ∧ (parseMethodDescriptor yy_Gr_empty.desc).map (fun d => d.parameters.length) = some 1 := by decide +kernel
abbrev cc_Gr_arcOf : ByteArray := prog_3_method_4_code
def yy_Gr_arcOf : MethodName := ⟨rr_Gr, "arcOf", "(II)I"⟩
def wq_Gr_arcOf : List Cond := .code yy_Gr_arcOf cc_Gr_arcOf 3 (some .int) :: GW
theorem yd_Gr_arcOf : yy_Gr_arcOf.cls = rr_Gr ∧ yy_Gr_arcOf.cls ≠ "java/lang/invoke/MethodHandle" ∧ yy_Gr_arcOf.cls ≠ "java/lang/invoke/VarHandle" ∧ (parseMethodDescriptor yy_Gr_arcOf.desc).map (fun d => d.parameters.length) = some 2 := by decide +kernel
abbrev cc_Gr_addArc : ByteArray := prog_3_method_5_code
def yy_Gr_addArc : MethodName := ⟨rr_Gr, "addArc", "(III)V"⟩
def wq_Gr_addArc : List Cond := .code yy_Gr_addArc cc_Gr_addArc 4 none :: GW
theorem yd_Gr_addArc : yy_Gr_addArc.cls = rr_Gr ∧ yy_Gr_addArc.cls ≠ "java/lang/invoke/MethodHandle" ∧ yy_Gr_addArc.cls ≠ "java/lang/invoke/VarHandle" ∧ (parseMethodDescriptor yy_Gr_addArc.desc).map (fun d => d.parameters.length) = some 3 := by decide +kernel
abbrev cc_Gr_total : ByteArray := prog_3_method_6_code
def yy_Gr_total : MethodName := ⟨rr_Gr, "total", "()I"⟩
def wq_Gr_total : List Cond := .code yy_Gr_total cc_Gr_total 3 (some .int) :: GW
theorem yd_Gr_total : yy_Gr_total.cls = rr_Gr ∧ yy_Gr_total.cls ≠ "java/lang/invoke/MethodHandle" ∧ yy_Gr_total.cls ≠ "java/lang/invoke/VarHandle" ∧ (parseMethodDescriptor yy_Gr_total.desc).map (fun d => d.parameters.length) = some 0 := by decide +kernel
abbrev cc_Gr_neighbours : ByteArray := prog_3_method_7_code
def yy_Gr_neighbours : MethodName := ⟨rr_Gr, "neighbours", "(I)I"⟩
def wq_Gr_neighbours : List Cond := .code yy_Gr_neighbours cc_Gr_neighbours 4 (some .int) :: GW
theorem yd_Gr_neighbours : yy_Gr_neighbours.cls = rr_Gr ∧ yy_Gr_neighbours.cls ≠ "java/lang/invoke/MethodHandle" ∧ yy_Gr_neighbours.cls ≠ "java/lang/invoke/VarHandle" ∧ (parseMethodDescriptor yy_Gr_neighbours.desc).map (fun d => d.parameters.length) = some 1 := by decide +kernel
abbrev cc_Gr_arcCount : ByteArray := prog_3_method_8_code
def yy_Gr_arcCount : MethodName := ⟨rr_Gr, "arcCount", "()I"⟩
def wq_Gr_arcCount : List Cond := .code yy_Gr_arcCount cc_Gr_arcCount 3 (some .int) :: GW
theorem yd_Gr_arcCount : yy_Gr_arcCount.cls = rr_Gr ∧ yy_Gr_arcCount.cls ≠ "java/lang/invoke/MethodHandle" ∧ yy_Gr_arcCount.cls ≠ "java/lang/invoke/VarHandle" ∧ (parseMethodDescriptor yy_Gr_arcCount.desc).map (fun d => d.parameters.length) = some 0 := by decide +kernel
abbrev cc_Gr_arcSum : ByteArray := prog_3_method_9_code
def yy_Gr_arcSum : MethodName := ⟨rr_Gr, "arcSum", "()I"⟩
def wq_Gr_arcSum : List Cond := .code yy_Gr_arcSum cc_Gr_arcSum 4 (some .int) :: GW
theorem yd_Gr_arcSum : yy_Gr_arcSum.cls = rr_Gr ∧ yy_Gr_arcSum.cls ≠ "java/lang/invoke/MethodHandle" ∧ yy_Gr_arcSum.cls ≠ "java/lang/invoke/VarHandle" ∧ (parseMethodDescriptor yy_Gr_arcSum.desc).map (fun d => d.parameters.length) = some 0 := by decide +kernel
abbrev cc_Le_holder : ByteArray := prog_4_method_2_code
def yy_Le_holder : MethodName := ⟨rr_Le, "holder", "(II)I"⟩
def wq_Le_holder : List Cond := .code yy_Le_holder cc_Le_holder 3 (some .int) :: GW
theorem yd_Le_holder : yy_Le_holder.cls = rr_Le ∧ yy_Le_holder.cls ≠ "java/lang/invoke/MethodHandle" ∧ yy_Le_holder.cls ≠ "java/lang/invoke/VarHandle" ∧ (parseMethodDescriptor yy_Le_holder.desc).map (fun d => d.parameters.length) = some 2 := by decide +kernel
abbrev cc_Le_drawInto : ByteArray := prog_4_method_8_code
def yy_Le_drawInto : MethodName := ⟨rr_Le, "drawInto", "(ILBalancedSplits$Graph;LBalancedSplits$Graph;)V"⟩
def wq_Le_drawInto : List Cond := .code yy_Le_drawInto cc_Le_drawInto 8 none :: GW
theorem yd_Le_drawInto : yy_Le_drawInto.cls = rr_Le ∧ yy_Le_drawInto.cls ≠ "java/lang/invoke/MethodHandle" ∧ yy_Le_drawInto.cls ≠ "java/lang/invoke/VarHandle" ∧ (parseMethodDescriptor yy_Le_drawInto.desc).map (fun d => d.parameters.length) = some 3 := by decide +kernel
abbrev cc_Le_bestMate : ByteArray := prog_4_method_6_code
def yy_Le_bestMate : MethodName := ⟨rr_Le, "bestMate", "(LBalancedSplits$Graph;III)I"⟩
def wq_Le_bestMate : List Cond := .code yy_Le_bestMate cc_Le_bestMate 13 (some .int) :: GW
theorem yd_Le_bestMate : yy_Le_bestMate.cls = rr_Le ∧ yy_Le_bestMate.cls ≠ "java/lang/invoke/MethodHandle" ∧ yy_Le_bestMate.cls ≠ "java/lang/invoke/VarHandle" ∧ (parseMethodDescriptor yy_Le_bestMate.desc).map (fun d => d.parameters.length) = some 4 := by decide +kernel
abbrev cc_Le_joinAll : ByteArray := prog_4_method_5_code
def yy_Le_joinAll : MethodName := ⟨rr_Le, "joinAll", "(LBalancedSplits$Graph;I)Z"⟩
def wq_Le_joinAll : List Cond := .code yy_Le_joinAll cc_Le_joinAll 7 (some .boolean) :: GW
theorem yd_Le_joinAll : yy_Le_joinAll.cls = rr_Le ∧ yy_Le_joinAll.cls ≠ "java/lang/invoke/MethodHandle" ∧ yy_Le_joinAll.cls ≠ "java/lang/invoke/VarHandle" ∧ (parseMethodDescriptor yy_Le_joinAll.desc).map (fun d => d.parameters.length) = some 2 := by decide +kernel
abbrev cc_Le_numberJoined : ByteArray := prog_4_method_7_code
def yy_Le_numberJoined : MethodName := ⟨rr_Le, "numberJoined", "(I)I"⟩
def wq_Le_numberJoined : List Cond := .code yy_Le_numberJoined cc_Le_numberJoined 5 (some .int) :: GW
theorem yd_Le_numberJoined : yy_Le_numberJoined.cls = rr_Le ∧ yy_Le_numberJoined.cls ≠ "java/lang/invoke/MethodHandle" ∧ yy_Le_numberJoined.cls ≠ "java/lang/invoke/VarHandle" ∧ (parseMethodDescriptor yy_Le_numberJoined.desc).map (fun d => d.parameters.length) = some 1 := by decide +kernel
abbrev cc_Le_makeLevel : ByteArray := prog_4_method_4_code
def yy_Le_makeLevel : MethodName := ⟨rr_Le, "makeLevel", "(ILBalancedSplits$Graph;ILBalancedSplits$Graph;)Z"⟩
def wq_Le_makeLevel : List Cond := .code yy_Le_makeLevel cc_Le_makeLevel 6 (some .boolean) :: GW
theorem yd_Le_makeLevel : yy_Le_makeLevel.cls = rr_Le ∧ yy_Le_makeLevel.cls ≠ "java/lang/invoke/MethodHandle" ∧ yy_Le_makeLevel.cls ≠ "java/lang/invoke/VarHandle" ∧ (parseMethodDescriptor yy_Le_makeLevel.desc).map (fun d => d.parameters.length) = some 4 := by decide +kernel
abbrev cc_Le_renew : ByteArray := prog_4_method_3_code
def yy_Le_renew : MethodName := ⟨rr_Le, "renew", "(LBalancedSplits$Graph;ILBalancedSplits$Graph;)V"⟩
def wq_Le_renew : List Cond := .code yy_Le_renew cc_Le_renew 5 none :: GW
theorem yd_Le_renew : yy_Le_renew.cls = rr_Le ∧ yy_Le_renew.cls ≠ "java/lang/invoke/MethodHandle" ∧ yy_Le_renew.cls ≠ "java/lang/invoke/VarHandle" ∧ (parseMethodDescriptor yy_Le_renew.desc).map (fun d => d.parameters.length) = some 3 := by decide +kernel
abbrev cc_Le_bringDown : ByteArray := prog_4_method_9_code
def yy_Le_bringDown : MethodName := ⟨rr_Le, "bringDown", "(I[I[II)V"⟩
def wq_Le_bringDown : List Cond := .code yy_Le_bringDown cc_Le_bringDown 6 none :: GW
theorem yd_Le_bringDown : yy_Le_bringDown.cls = rr_Le ∧ yy_Le_bringDown.cls ≠ "java/lang/invoke/MethodHandle" ∧ yy_Le_bringDown.cls ≠ "java/lang/invoke/VarHandle" ∧ (parseMethodDescriptor yy_Le_bringDown.desc).map (fun d => d.parameters.length) = some 4 := by decide +kernel
abbrev cc_Le_bringUp : ByteArray := prog_4_method_10_code
def yy_Le_bringUp : MethodName := ⟨rr_Le, "bringUp", "(I[I[II)V"⟩
def wq_Le_bringUp : List Cond := .code yy_Le_bringUp cc_Le_bringUp 6 none :: GW
theorem yd_Le_bringUp : yy_Le_bringUp.cls = rr_Le ∧ yy_Le_bringUp.cls ≠ "java/lang/invoke/MethodHandle" ∧ yy_Le_bringUp.cls ≠ "java/lang/invoke/VarHandle" ∧ (parseMethodDescriptor yy_Le_bringUp.desc).map (fun d => d.parameters.length) = some 4 := by decide +kernel
abbrev cc_Sp_recountLinks : ByteArray := prog_9_method_3_code
def yy_Sp_recountLinks : MethodName := ⟨rr_Sp, "recountLinks", "(I)V"⟩
def wq_Sp_recountLinks : List Cond := .code yy_Sp_recountLinks cc_Sp_recountLinks 4 none :: GW
theorem yd_Sp_recountLinks : yy_Sp_recountLinks.cls = rr_Sp ∧ yy_Sp_recountLinks.cls ≠ "java/lang/invoke/MethodHandle" ∧ yy_Sp_recountLinks.cls ≠ "java/lang/invoke/VarHandle" ∧ (parseMethodDescriptor yy_Sp_recountLinks.desc).map (fun d => d.parameters.length) = some 1 := by decide +kernel
abbrev cc_Sp_recount : ByteArray := prog_9_method_2_code
def yy_Sp_recount : MethodName := ⟨rr_Sp, "recount", "()V"⟩
def wq_Sp_recount : List Cond := .code yy_Sp_recount cc_Sp_recount 2 none :: GW
theorem yd_Sp_recount : yy_Sp_recount.cls = rr_Sp ∧ yy_Sp_recount.cls ≠ "java/lang/invoke/MethodHandle" ∧ yy_Sp_recount.cls ≠ "java/lang/invoke/VarHandle" ∧ (parseMethodDescriptor yy_Sp_recount.desc).map (fun d => d.parameters.length) = some 0 := by decide +kernel
abbrev cc_Mo_keepBest : ByteArray := prog_5_method_4_code
def yy_Mo_keepBest : MethodName := ⟨rr_Mo, "keepBest", "(LBalancedSplits$Split;)V"⟩
def wq_Mo_keepBest : List Cond := .code yy_Mo_keepBest cc_Mo_keepBest 2 none :: GW
theorem yd_Mo_keepBest : yy_Mo_keepBest.cls = rr_Mo ∧ yy_Mo_keepBest.cls ≠ "java/lang/invoke/MethodHandle" ∧ yy_Mo_keepBest.cls ≠ "java/lang/invoke/VarHandle" ∧ (parseMethodDescriptor yy_Mo_keepBest.desc).map (fun d => d.parameters.length) = some 1 := by decide +kernel
abbrev cc_Sp_overBehind : ByteArray := prog_9_method_5_code
def yy_Sp_overBehind : MethodName := ⟨rr_Sp, "overBehind", "(II)I"⟩
def wq_Sp_overBehind : List Cond := .code yy_Sp_overBehind cc_Sp_overBehind 5 (some .int) :: GW
theorem yd_Sp_overBehind : yy_Sp_overBehind.cls = rr_Sp ∧ yy_Sp_overBehind.cls ≠ "java/lang/invoke/MethodHandle" ∧ yy_Sp_overBehind.cls ≠ "java/lang/invoke/VarHandle" ∧ (parseMethodDescriptor yy_Sp_overBehind.desc).map (fun d => d.parameters.length) = some 2 := by decide +kernel
abbrev cc_Sp_gainOf : ByteArray := prog_9_method_4_code
def yy_Sp_gainOf : MethodName := ⟨rr_Sp, "gainOf", "(II)I"⟩
def wq_Sp_gainOf : List Cond := .code yy_Sp_gainOf cc_Sp_gainOf 3 (some .int) :: GW
theorem yd_Sp_gainOf : yy_Sp_gainOf.cls = rr_Sp ∧ yy_Sp_gainOf.cls ≠ "java/lang/invoke/MethodHandle" ∧ yy_Sp_gainOf.cls ≠ "java/lang/invoke/VarHandle" ∧ (parseMethodDescriptor yy_Sp_gainOf.desc).map (fun d => d.parameters.length) = some 2 := by decide +kernel
abbrev cc_Mo_weigh : ByteArray := prog_5_method_7_code
def yy_Mo_weigh : MethodName := ⟨rr_Mo, "weigh", "(LBalancedSplits$Split;II)V"⟩
def wq_Mo_weigh : List Cond := .code yy_Mo_weigh cc_Mo_weigh 7 none :: GW
theorem yd_Mo_weigh : yy_Mo_weigh.cls = rr_Mo ∧ yy_Mo_weigh.cls ≠ "java/lang/invoke/MethodHandle" ∧ yy_Mo_weigh.cls ≠ "java/lang/invoke/VarHandle" ∧ (parseMethodDescriptor yy_Mo_weigh.desc).map (fun d => d.parameters.length) = some 3 := by decide +kernel
abbrev cc_Mo_findNext : ByteArray := prog_5_method_6_code
def yy_Mo_findNext : MethodName := ⟨rr_Mo, "findNext", "(LBalancedSplits$Split;)Z"⟩
def wq_Mo_findNext : List Cond := .code yy_Mo_findNext cc_Mo_findNext 4 (some .boolean) :: GW
theorem yd_Mo_findNext : yy_Mo_findNext.cls = rr_Mo ∧ yy_Mo_findNext.cls ≠ "java/lang/invoke/MethodHandle" ∧ yy_Mo_findNext.cls ≠ "java/lang/invoke/VarHandle" ∧ (parseMethodDescriptor yy_Mo_findNext.desc).map (fun d => d.parameters.length) = some 1 := by decide +kernel
abbrev cc_Sp_shift : ByteArray := prog_9_method_6_code
def yy_Sp_shift : MethodName := ⟨rr_Sp, "shift", "(II)V"⟩
def wq_Sp_shift : List Cond := .code yy_Sp_shift cc_Sp_shift 6 none :: GW
theorem yd_Sp_shift : yy_Sp_shift.cls = rr_Sp ∧ yy_Sp_shift.cls ≠ "java/lang/invoke/MethodHandle" ∧ yy_Sp_shift.cls ≠ "java/lang/invoke/VarHandle" ∧ (parseMethodDescriptor yy_Sp_shift.desc).map (fun d => d.parameters.length) = some 2 := by decide +kernel
abbrev cc_Mo_isBetter : ByteArray := prog_5_method_5_code
def yy_Mo_isBetter : MethodName := ⟨rr_Mo, "isBetter", "(LBalancedSplits$Split;)Z"⟩
def wq_Mo_isBetter : List Cond := .code yy_Mo_isBetter cc_Mo_isBetter 2 (some .boolean) :: GW
theorem yd_Mo_isBetter : yy_Mo_isBetter.cls = rr_Mo ∧ yy_Mo_isBetter.cls ≠ "java/lang/invoke/MethodHandle" ∧ yy_Mo_isBetter.cls ≠ "java/lang/invoke/VarHandle" ∧ (parseMethodDescriptor yy_Mo_isBetter.desc).map (fun d => d.parameters.length) = some 1 := by decide +kernel
abbrev cc_Mo_doPass : ByteArray := prog_5_method_3_code
def yy_Mo_doPass : MethodName := ⟨rr_Mo, "doPass", "(LBalancedSplits$Split;)Z"⟩
def wq_Mo_doPass : List Cond := .code yy_Mo_doPass cc_Mo_doPass 4 (some .boolean) :: GW
theorem yd_Mo_doPass : yy_Mo_doPass.cls = rr_Mo ∧ yy_Mo_doPass.cls ≠ "java/lang/invoke/MethodHandle" ∧ yy_Mo_doPass.cls ≠ "java/lang/invoke/VarHandle" ∧ (parseMethodDescriptor yy_Mo_doPass.desc).map (fun d => d.parameters.length) = some 1 := by decide +kernel
abbrev cc_Mo_doMoves : ByteArray := prog_5_method_2_code
def yy_Mo_doMoves : MethodName := ⟨rr_Mo, "doMoves", "(LBalancedSplits$Split;)I"⟩
def wq_Mo_doMoves : List Cond := .code yy_Mo_doMoves cc_Mo_doMoves 3 (some .int) :: GW
theorem yd_Mo_doMoves : yy_Mo_doMoves.cls = rr_Mo ∧ yy_Mo_doMoves.cls ≠ "java/lang/invoke/MethodHandle" ∧ yy_Mo_doMoves.cls ≠ "java/lang/invoke/VarHandle" ∧ (parseMethodDescriptor yy_Mo_doMoves.desc).map (fun d => d.parameters.length) = some 1 := by decide +kernel
abbrev cc_Od_draw : ByteArray := prog_6_method_2_code
def yy_Od_draw : MethodName := ⟨rr_Od, "draw", "(II)V"⟩
def wq_Od_draw : List Cond := .code yy_Od_draw cc_Od_draw 6 none :: GW
theorem yd_Od_draw : yy_Od_draw.cls = rr_Od ∧ yy_Od_draw.cls ≠ "java/lang/invoke/MethodHandle" ∧ yy_Od_draw.cls ≠ "java/lang/invoke/VarHandle" ∧ (parseMethodDescriptor yy_Od_draw.desc).map (fun d => d.parameters.length) = some 2 := by decide +kernel
abbrev cc_Se_leastOver : ByteArray := prog_7_method_4_code
def yy_Se_leastOver : MethodName := ⟨rr_Se, "leastOver", "(LBalancedSplits$Bounds;I)I"⟩
def wq_Se_leastOver : List Cond := .code yy_Se_leastOver cc_Se_leastOver 6 (some .int) :: GW
theorem yd_Se_leastOver : yy_Se_leastOver.cls = rr_Se ∧ yy_Se_leastOver.cls ≠ "java/lang/invoke/MethodHandle" ∧ yy_Se_leastOver.cls ≠ "java/lang/invoke/VarHandle" ∧ (parseMethodDescriptor yy_Se_leastOver.desc).map (fun d => d.parameters.length) = some 2 := by decide +kernel
abbrev cc_Se_cutBehind : ByteArray := prog_7_method_5_code
def yy_Se_cutBehind : MethodName := ⟨rr_Se, "cutBehind", "(LBalancedSplits$Graph;I)I"⟩
def wq_Se_cutBehind : List Cond := .code yy_Se_cutBehind cc_Se_cutBehind 5 (some .int) :: GW
theorem yd_Se_cutBehind : yy_Se_cutBehind.cls = rr_Se ∧ yy_Se_cutBehind.cls ≠ "java/lang/invoke/MethodHandle" ∧ yy_Se_cutBehind.cls ≠ "java/lang/invoke/VarHandle" ∧ (parseMethodDescriptor yy_Se_cutBehind.desc).map (fun d => d.parameters.length) = some 2 := by decide +kernel
abbrev cc_Se_tryFrom : ByteArray := prog_7_method_3_code
def yy_Se_tryFrom : MethodName := ⟨rr_Se, "tryFrom", "(LBalancedSplits$Split;III)V"⟩
def wq_Se_tryFrom : List Cond := .code yy_Se_tryFrom cc_Se_tryFrom 8 none :: GW
theorem yd_Se_tryFrom : yy_Se_tryFrom.cls = rr_Se ∧ yy_Se_tryFrom.cls ≠ "java/lang/invoke/MethodHandle" ∧ yy_Se_tryFrom.cls ≠ "java/lang/invoke/VarHandle" ∧ (parseMethodDescriptor yy_Se_tryFrom.desc).map (fun d => d.parameters.length) = some 4 := by decide +kernel
abbrev cc_Se_findBest : ByteArray := prog_7_method_2_code
def yy_Se_findBest : MethodName := ⟨rr_Se, "findBest", "(LBalancedSplits$Split;)V"⟩
def wq_Se_findBest : List Cond := .code yy_Se_findBest cc_Se_findBest 2 none :: GW
theorem yd_Se_findBest : yy_Se_findBest.cls = rr_Se ∧ yy_Se_findBest.cls ≠ "java/lang/invoke/MethodHandle" ∧ yy_Se_findBest.cls ≠ "java/lang/invoke/VarHandle" ∧ (parseMethodDescriptor yy_Se_findBest.desc).map (fun d => d.parameters.length) = some 1 := by decide +kernel
abbrev cc_Di_isCut : ByteArray := prog_8_method_3_code
def yy_Di_isCut : MethodName := ⟨rr_Di, "isCut", "(LBalancedSplits$Split;II)Z"⟩
def wq_Di_isCut : List Cond := .code yy_Di_isCut cc_Di_isCut 3 (some .boolean) :: GW
theorem yd_Di_isCut : yy_Di_isCut.cls = rr_Di ∧ yy_Di_isCut.cls ≠ "java/lang/invoke/MethodHandle" ∧ yy_Di_isCut.cls ≠ "java/lang/invoke/VarHandle" ∧ (parseMethodDescriptor yy_Di_isCut.desc).map (fun d => d.parameters.length) = some 3 := by decide +kernel
abbrev cc_Di_start : ByteArray := prog_8_method_4_code
def yy_Di_start : MethodName := ⟨rr_Di, "start", "(LBalancedSplits$Split;)V"⟩
def wq_Di_start : List Cond := .code yy_Di_start cc_Di_start 4 none :: GW
theorem yd_Di_start : yy_Di_start.cls = rr_Di ∧ yy_Di_start.cls ≠ "java/lang/invoke/MethodHandle" ∧ yy_Di_start.cls ≠ "java/lang/invoke/VarHandle" ∧ (parseMethodDescriptor yy_Di_start.desc).map (fun d => d.parameters.length) = some 1 := by decide +kernel
abbrev cc_Di_busiest : ByteArray := prog_8_method_5_code
def yy_Di_busiest : MethodName := ⟨rr_Di, "busiest", "(LBalancedSplits$Graph;)I"⟩
def wq_Di_busiest : List Cond := .code yy_Di_busiest cc_Di_busiest 5 (some .int) :: GW
theorem yd_Di_busiest : yy_Di_busiest.cls = rr_Di ∧ yy_Di_busiest.cls ≠ "java/lang/invoke/MethodHandle" ∧ yy_Di_busiest.cls ≠ "java/lang/invoke/VarHandle" ∧ (parseMethodDescriptor yy_Di_busiest.desc).map (fun d => d.parameters.length) = some 1 := by decide +kernel
abbrev cc_Di_takeIn : ByteArray := prog_8_method_6_code
def yy_Di_takeIn : MethodName := ⟨rr_Di, "takeIn", "(LBalancedSplits$Split;I)V"⟩
def wq_Di_takeIn : List Cond := .code yy_Di_takeIn cc_Di_takeIn 4 none :: GW
theorem yd_Di_takeIn : yy_Di_takeIn.cls = rr_Di ∧ yy_Di_takeIn.cls ≠ "java/lang/invoke/MethodHandle" ∧ yy_Di_takeIn.cls ≠ "java/lang/invoke/VarHandle" ∧ (parseMethodDescriptor yy_Di_takeIn.desc).map (fun d => d.parameters.length) = some 2 := by decide +kernel
abbrev cc_Di_isNeeded : ByteArray := prog_8_method_7_code
def yy_Di_isNeeded : MethodName := ⟨rr_Di, "isNeeded", "(LBalancedSplits$Split;I)Z"⟩
def wq_Di_isNeeded : List Cond := .code yy_Di_isNeeded cc_Di_isNeeded 4 (some .boolean) :: GW
theorem yd_Di_isNeeded : yy_Di_isNeeded.cls = rr_Di ∧ yy_Di_isNeeded.cls ≠ "java/lang/invoke/MethodHandle" ∧ yy_Di_isNeeded.cls ≠ "java/lang/invoke/VarHandle" ∧ (parseMethodDescriptor yy_Di_isNeeded.desc).map (fun d => d.parameters.length) = some 2 := by decide +kernel
abbrev cc_Di_find : ByteArray := prog_8_method_2_code
def yy_Di_find : MethodName := ⟨rr_Di, "find", "(LBalancedSplits$Split;)V"⟩
def wq_Di_find : List Cond := .code yy_Di_find cc_Di_find 4 none :: GW
theorem yd_Di_find : yy_Di_find.cls = rr_Di ∧ yy_Di_find.cls ≠ "java/lang/invoke/MethodHandle" ∧ yy_Di_find.cls ≠ "java/lang/invoke/VarHandle" ∧ (parseMethodDescriptor yy_Di_find.desc).map (fun d => d.parameters.length) = some 1 := by decide +kernel
abbrev cc_Di_held : ByteArray := prog_8_method_8_code
def yy_Di_held : MethodName := ⟨rr_Di, "held", "()I"⟩
def wq_Di_held : List Cond := .code yy_Di_held cc_Di_held 3 (some .int) :: GW
theorem yd_Di_held : yy_Di_held.cls = rr_Di ∧ yy_Di_held.cls ≠ "java/lang/invoke/MethodHandle" ∧ yy_Di_held.cls ≠ "java/lang/invoke/VarHandle" ∧ (parseMethodDescriptor yy_Di_held.desc).map (fun d => d.parameters.length) = some 0 := by decide +kernel
abbrev cc_Di_nodeAt : ByteArray := prog_8_method_9_code
def yy_Di_nodeAt : MethodName := ⟨rr_Di, "nodeAt", "(I)I"⟩
def wq_Di_nodeAt : List Cond := .code yy_Di_nodeAt cc_Di_nodeAt 4 (some .int) :: GW
theorem yd_Di_nodeAt : yy_Di_nodeAt.cls = rr_Di ∧ yy_Di_nodeAt.cls ≠ "java/lang/invoke/MethodHandle" ∧ yy_Di_nodeAt.cls ≠ "java/lang/invoke/VarHandle" ∧ (parseMethodDescriptor yy_Di_nodeAt.desc).map (fun d => d.parameters.length) = some 1 := by decide +kernel
abbrev cc_Sp_nodesIn : ByteArray := prog_9_method_7_code
def yy_Sp_nodesIn : MethodName := ⟨rr_Sp, "nodesIn", "(I)I"⟩
def wq_Sp_nodesIn : List Cond := .code yy_Sp_nodesIn cc_Sp_nodesIn 4 (some .int) :: GW
theorem yd_Sp_nodesIn : yy_Sp_nodesIn.cls = rr_Sp ∧ yy_Sp_nodesIn.cls ≠ "java/lang/invoke/MethodHandle" ∧ yy_Sp_nodesIn.cls ≠ "java/lang/invoke/VarHandle" ∧ (parseMethodDescriptor yy_Sp_nodesIn.desc).map (fun d => d.parameters.length) = some 1 := by decide +kernel
abbrev cc_Sp_volume : ByteArray := prog_9_method_8_code
def yy_Sp_volume : MethodName := ⟨rr_Sp, "volume", "(I)I"⟩
def wq_Sp_volume : List Cond := .code yy_Sp_volume cc_Sp_volume 4 (some .int) :: GW
theorem yd_Sp_volume : yy_Sp_volume.cls = rr_Sp ∧ yy_Sp_volume.cls ≠ "java/lang/invoke/MethodHandle" ∧ yy_Sp_volume.cls ≠ "java/lang/invoke/VarHandle" ∧ (parseMethodDescriptor yy_Sp_volume.desc).map (fun d => d.parameters.length) = some 1 := by decide +kernel
abbrev cc_Sp_volumes : ByteArray := prog_9_method_9_code
def yy_Sp_volumes : MethodName := ⟨rr_Sp, "volumes", "()I"⟩
def wq_Sp_volumes : List Cond := .code yy_Sp_volumes cc_Sp_volumes 3 (some .int) :: GW
theorem yd_Sp_volumes : yy_Sp_volumes.cls = rr_Sp ∧ yy_Sp_volumes.cls ≠ "java/lang/invoke/MethodHandle" ∧ yy_Sp_volumes.cls ≠ "java/lang/invoke/VarHandle" ∧ (parseMethodDescriptor yy_Sp_volumes.desc).map (fun d => d.parameters.length) = some 0 := by decide +kernel
abbrev cc_Sp_takeAllOut : ByteArray := prog_9_method_10_code
def yy_Sp_takeAllOut : MethodName := ⟨rr_Sp, "takeAllOut", "()V"⟩
def wq_Sp_takeAllOut : List Cond := .code yy_Sp_takeAllOut cc_Sp_takeAllOut 1 none :: GW
theorem yd_Sp_takeAllOut : yy_Sp_takeAllOut.cls = rr_Sp ∧ yy_Sp_takeAllOut.cls ≠ "java/lang/invoke/MethodHandle" ∧ yy_Sp_takeAllOut.cls ≠ "java/lang/invoke/VarHandle" ∧ (parseMethodDescriptor yy_Sp_takeAllOut.desc).map (fun d => d.parameters.length) = some 0 := by decide +kernel
abbrev cc_Sp_place : ByteArray := prog_9_method_11_code
def yy_Sp_place : MethodName := ⟨rr_Sp, "place", "(II)V"⟩
def wq_Sp_place : List Cond := .code yy_Sp_place cc_Sp_place 3 none :: GW
theorem yd_Sp_place : yy_Sp_place.cls = rr_Sp ∧ yy_Sp_place.cls ≠ "java/lang/invoke/MethodHandle" ∧ yy_Sp_place.cls ≠ "java/lang/invoke/VarHandle" ∧ (parseMethodDescriptor yy_Sp_place.desc).map (fun d => d.parameters.length) = some 2 := by decide +kernel
abbrev cc_Sp_heaviestOutside : ByteArray := prog_9_method_13_code
def yy_Sp_heaviestOutside : MethodName := ⟨rr_Sp, "heaviestOutside", "()I"⟩
def wq_Sp_heaviestOutside : List Cond := .code yy_Sp_heaviestOutside cc_Sp_heaviestOutside 4 (some .int) :: GW
theorem yd_Sp_heaviestOutside : yy_Sp_heaviestOutside.cls = rr_Sp ∧ yy_Sp_heaviestOutside.cls ≠ "java/lang/invoke/MethodHandle" ∧ yy_Sp_heaviestOutside.cls ≠ "java/lang/invoke/VarHandle" ∧ (parseMethodDescriptor yy_Sp_heaviestOutside.desc).map (fun d => d.parameters.length) = some 0 := by decide +kernel
abbrev cc_Sp_roomiestPart : ByteArray := prog_9_method_14_code
def yy_Sp_roomiestPart : MethodName := ⟨rr_Sp, "roomiestPart", "()I"⟩
def wq_Sp_roomiestPart : List Cond := .code yy_Sp_roomiestPart cc_Sp_roomiestPart 3 (some .int) :: GW
theorem yd_Sp_roomiestPart : yy_Sp_roomiestPart.cls = rr_Sp ∧ yy_Sp_roomiestPart.cls ≠ "java/lang/invoke/MethodHandle" ∧ yy_Sp_roomiestPart.cls ≠ "java/lang/invoke/VarHandle" ∧ (parseMethodDescriptor yy_Sp_roomiestPart.desc).map (fun d => d.parameters.length) = some 0 := by decide +kernel
abbrev cc_Sp_growAll : ByteArray := prog_9_method_12_code
def yy_Sp_growAll : MethodName := ⟨rr_Sp, "growAll", "()V"⟩
def wq_Sp_growAll : List Cond := .code yy_Sp_growAll cc_Sp_growAll 2 none :: GW
theorem yd_Sp_growAll : yy_Sp_growAll.cls = rr_Sp ∧ yy_Sp_growAll.cls ≠ "java/lang/invoke/MethodHandle" ∧ yy_Sp_growAll.cls ≠ "java/lang/invoke/VarHandle" ∧ (parseMethodDescriptor yy_Sp_growAll.desc).map (fun d => d.parameters.length) = some 0 := by decide +kernel
abbrev cc_Sp_arcsInto : ByteArray := prog_9_method_17_code
def yy_Sp_arcsInto : MethodName := ⟨rr_Sp, "arcsInto", "(II)I"⟩
def wq_Sp_arcsInto : List Cond := .code yy_Sp_arcsInto cc_Sp_arcsInto 5 (some .int) :: GW
theorem yd_Sp_arcsInto : yy_Sp_arcsInto.cls = rr_Sp ∧ yy_Sp_arcsInto.cls ≠ "java/lang/invoke/MethodHandle" ∧ yy_Sp_arcsInto.cls ≠ "java/lang/invoke/VarHandle" ∧ (parseMethodDescriptor yy_Sp_arcsInto.desc).map (fun d => d.parameters.length) = some 2 := by decide +kernel
abbrev cc_Sp_likedPart : ByteArray := prog_9_method_16_code
def yy_Sp_likedPart : MethodName := ⟨rr_Sp, "likedPart", "(II)I"⟩
def wq_Sp_likedPart : List Cond := .code yy_Sp_likedPart cc_Sp_likedPart 9 (some .int) :: GW
theorem yd_Sp_likedPart : yy_Sp_likedPart.cls = rr_Sp ∧ yy_Sp_likedPart.cls ≠ "java/lang/invoke/MethodHandle" ∧ yy_Sp_likedPart.cls ≠ "java/lang/invoke/VarHandle" ∧ (parseMethodDescriptor yy_Sp_likedPart.desc).map (fun d => d.parameters.length) = some 2 := by decide +kernel
abbrev cc_Sp_lightestPart : ByteArray := prog_9_method_18_code
def yy_Sp_lightestPart : MethodName := ⟨rr_Sp, "lightestPart", "()I"⟩
def wq_Sp_lightestPart : List Cond := .code yy_Sp_lightestPart cc_Sp_lightestPart 3 (some .int) :: GW
theorem yd_Sp_lightestPart : yy_Sp_lightestPart.cls = rr_Sp ∧ yy_Sp_lightestPart.cls ≠ "java/lang/invoke/MethodHandle" ∧ yy_Sp_lightestPart.cls ≠ "java/lang/invoke/VarHandle" ∧ (parseMethodDescriptor yy_Sp_lightestPart.desc).map (fun d => d.parameters.length) = some 0 := by decide +kernel
abbrev cc_Sp_streamAll : ByteArray := prog_9_method_15_code
def yy_Sp_streamAll : MethodName := ⟨rr_Sp, "streamAll", "([II)V"⟩
def wq_Sp_streamAll : List Cond := .code yy_Sp_streamAll cc_Sp_streamAll 6 none :: GW
theorem yd_Sp_streamAll : yy_Sp_streamAll.cls = rr_Sp ∧ yy_Sp_streamAll.cls ≠ "java/lang/invoke/MethodHandle" ∧ yy_Sp_streamAll.cls ≠ "java/lang/invoke/VarHandle" ∧ (parseMethodDescriptor yy_Sp_streamAll.desc).map (fun d => d.parameters.length) = some 2 := by decide +kernel
abbrev cc_Ba_node : ByteArray := prog_1_method_2_code
def yy_Ba_node : MethodName := ⟨rr_Ba, "node", "(I)I"⟩
def wq_Ba_node : List Cond := .code yy_Ba_node cc_Ba_node 4 (some .int) :: GW
theorem yd_Ba_node : yy_Ba_node.cls = rr_Ba ∧ yy_Ba_node.cls ≠ "java/lang/invoke/MethodHandle" ∧ yy_Ba_node.cls ≠ "java/lang/invoke/VarHandle" ∧ (parseMethodDescriptor yy_Ba_node.desc).map (fun d => d.parameters.length) = some 1 := by decide +kernel
abbrev cc_Ba_arc : ByteArray := prog_1_method_3_code
def yy_Ba_arc : MethodName := ⟨rr_Ba, "arc", "(III)I"⟩
def wq_Ba_arc : List Cond := .code yy_Ba_arc cc_Ba_arc 6 (some .int) :: GW
theorem yd_Ba_arc : yy_Ba_arc.cls = rr_Ba ∧ yy_Ba_arc.cls ≠ "java/lang/invoke/MethodHandle" ∧ yy_Ba_arc.cls ≠ "java/lang/invoke/VarHandle" ∧ (parseMethodDescriptor yy_Ba_arc.desc).map (fun d => d.parameters.length) = some 3 := by decide +kernel
abbrev cc_Ba_startParts : ByteArray := prog_1_method_25_code
def yy_Ba_startParts : MethodName := ⟨rr_Ba, "startParts", "(I)V"⟩
def wq_Ba_startParts : List Cond := .code yy_Ba_startParts cc_Ba_startParts 2 none :: GW
theorem yd_Ba_startParts : yy_Ba_startParts.cls = rr_Ba ∧ yy_Ba_startParts.cls ≠ "java/lang/invoke/MethodHandle" ∧ yy_Ba_startParts.cls ≠ "java/lang/invoke/VarHandle" ∧ (parseMethodDescriptor yy_Ba_startParts.desc).map (fun d => d.parameters.length) = some 1 := by decide +kernel
abbrev cc_Ba_parts : ByteArray := prog_1_method_4_code
def yy_Ba_parts : MethodName := ⟨rr_Ba, "parts", "(I)I"⟩
def wq_Ba_parts : List Cond := .code yy_Ba_parts cc_Ba_parts 3 (some .int) :: GW
theorem yd_Ba_parts : yy_Ba_parts.cls = rr_Ba ∧ yy_Ba_parts.cls ≠ "java/lang/invoke/MethodHandle" ∧ yy_Ba_parts.cls ≠ "java/lang/invoke/VarHandle" ∧ (parseMethodDescriptor yy_Ba_parts.desc).map (fun d => d.parameters.length) = some 1 := by decide +kernel
abbrev cc_Ba_bound : ByteArray := prog_1_method_5_code
def yy_Ba_bound : MethodName := ⟨rr_Ba, "bound", "(III)I"⟩
def wq_Ba_bound : List Cond := .code yy_Ba_bound cc_Ba_bound 4 (some .int) :: GW
theorem yd_Ba_bound : yy_Ba_bound.cls = rr_Ba ∧ yy_Ba_bound.cls ≠ "java/lang/invoke/MethodHandle" ∧ yy_Ba_bound.cls ≠ "java/lang/invoke/VarHandle" ∧ (parseMethodDescriptor yy_Ba_bound.desc).map (fun d => d.parameters.length) = some 3 := by decide +kernel
abbrev cc_Ba_put : ByteArray := prog_1_method_6_code
def yy_Ba_put : MethodName := ⟨rr_Ba, "put", "(II)I"⟩
def wq_Ba_put : List Cond := .code yy_Ba_put cc_Ba_put 4 (some .int) :: GW
theorem yd_Ba_put : yy_Ba_put.cls = rr_Ba ∧ yy_Ba_put.cls ≠ "java/lang/invoke/MethodHandle" ∧ yy_Ba_put.cls ≠ "java/lang/invoke/VarHandle" ∧ (parseMethodDescriptor yy_Ba_put.desc).map (fun d => d.parameters.length) = some 2 := by decide +kernel
abbrev cc_Ba_clear : ByteArray := prog_1_method_7_code
def yy_Ba_clear : MethodName := ⟨rr_Ba, "clear", "()I"⟩
def wq_Ba_clear : List Cond := .code yy_Ba_clear cc_Ba_clear 2 (some .int) :: GW
theorem yd_Ba_clear : yy_Ba_clear.cls = rr_Ba ∧ yy_Ba_clear.cls ≠ "java/lang/invoke/MethodHandle" ∧ yy_Ba_clear.cls ≠ "java/lang/invoke/VarHandle" ∧ (parseMethodDescriptor yy_Ba_clear.desc).map (fun d => d.parameters.length) = some 0 := by decide +kernel
abbrev cc_Ba_of : ByteArray := prog_1_method_8_code
def yy_Ba_of : MethodName := ⟨rr_Ba, "of", "(II)I"⟩
def wq_Ba_of : List Cond := .code yy_Ba_of cc_Ba_of 3 (some .int) :: GW
theorem yd_Ba_of : yy_Ba_of.cls = rr_Ba ∧ yy_Ba_of.cls ≠ "java/lang/invoke/MethodHandle" ∧ yy_Ba_of.cls ≠ "java/lang/invoke/VarHandle" ∧ (parseMethodDescriptor yy_Ba_of.desc).map (fun d => d.parameters.length) = some 2 := by decide +kernel
abbrev cc_Ba_between : ByteArray := prog_1_method_9_code
def yy_Ba_between : MethodName := ⟨rr_Ba, "between", "(II)I"⟩
def wq_Ba_between : List Cond := .code yy_Ba_between cc_Ba_between 3 (some .int) :: GW
theorem yd_Ba_between : yy_Ba_between.cls = rr_Ba ∧ yy_Ba_between.cls ≠ "java/lang/invoke/MethodHandle" ∧ yy_Ba_between.cls ≠ "java/lang/invoke/VarHandle" ∧ (parseMethodDescriptor yy_Ba_between.desc).map (fun d => d.parameters.length) = some 2 := by decide +kernel
abbrev cc_Ba_part : ByteArray := prog_1_method_10_code
def yy_Ba_part : MethodName := ⟨rr_Ba, "part", "(II)I"⟩
def wq_Ba_part : List Cond := .code yy_Ba_part cc_Ba_part 3 (some .int) :: GW
theorem yd_Ba_part : yy_Ba_part.cls = rr_Ba ∧ yy_Ba_part.cls ≠ "java/lang/invoke/MethodHandle" ∧ yy_Ba_part.cls ≠ "java/lang/invoke/VarHandle" ∧ (parseMethodDescriptor yy_Ba_part.desc).map (fun d => d.parameters.length) = some 2 := by decide +kernel
abbrev cc_Ba_cut : ByteArray := prog_1_method_11_code
def yy_Ba_cut : MethodName := ⟨rr_Ba, "cut", "()I"⟩
def wq_Ba_cut : List Cond := .code yy_Ba_cut cc_Ba_cut 1 (some .int) :: GW
theorem yd_Ba_cut : yy_Ba_cut.cls = rr_Ba ∧ yy_Ba_cut.cls ≠ "java/lang/invoke/MethodHandle" ∧ yy_Ba_cut.cls ≠ "java/lang/invoke/VarHandle" ∧ (parseMethodDescriptor yy_Ba_cut.desc).map (fun d => d.parameters.length) = some 0 := by decide +kernel
abbrev cc_Ba_over : ByteArray := prog_1_method_12_code
def yy_Ba_over : MethodName := ⟨rr_Ba, "over", "()I"⟩
def wq_Ba_over : List Cond := .code yy_Ba_over cc_Ba_over 1 (some .int) :: GW
theorem yd_Ba_over : yy_Ba_over.cls = rr_Ba ∧ yy_Ba_over.cls ≠ "java/lang/invoke/MethodHandle" ∧ yy_Ba_over.cls ≠ "java/lang/invoke/VarHandle" ∧ (parseMethodDescriptor yy_Ba_over.desc).map (fun d => d.parameters.length) = some 0 := by decide +kernel
abbrev cc_Ba_gain : ByteArray := prog_1_method_13_code
def yy_Ba_gain : MethodName := ⟨rr_Ba, "gain", "(II)I"⟩
def wq_Ba_gain : List Cond := .code yy_Ba_gain cc_Ba_gain 3 (some .int) :: GW
theorem yd_Ba_gain : yy_Ba_gain.cls = rr_Ba ∧ yy_Ba_gain.cls ≠ "java/lang/invoke/MethodHandle" ∧ yy_Ba_gain.cls ≠ "java/lang/invoke/VarHandle" ∧ (parseMethodDescriptor yy_Ba_gain.desc).map (fun d => d.parameters.length) = some 2 := by decide +kernel
abbrev cc_Ba_hasLevel : ByteArray := prog_1_method_26_code
def yy_Ba_hasLevel : MethodName := ⟨rr_Ba, "hasLevel", "(I)Z"⟩
def wq_Ba_hasLevel : List Cond := .code yy_Ba_hasLevel cc_Ba_hasLevel 2 (some .boolean) :: GW
theorem yd_Ba_hasLevel : yy_Ba_hasLevel.cls = rr_Ba ∧ yy_Ba_hasLevel.cls ≠ "java/lang/invoke/MethodHandle" ∧ yy_Ba_hasLevel.cls ≠ "java/lang/invoke/VarHandle" ∧ (parseMethodDescriptor yy_Ba_hasLevel.desc).map (fun d => d.parameters.length) = some 1 := by decide +kernel
abbrev cc_Ba_level : ByteArray := prog_1_method_14_code
def yy_Ba_level : MethodName := ⟨rr_Ba, "level", "(II)I"⟩
def wq_Ba_level : List Cond := .code yy_Ba_level cc_Ba_level 3 (some .int) :: GW
theorem yd_Ba_level : yy_Ba_level.cls = rr_Ba ∧ yy_Ba_level.cls ≠ "java/lang/invoke/MethodHandle" ∧ yy_Ba_level.cls ≠ "java/lang/invoke/VarHandle" ∧ (parseMethodDescriptor yy_Ba_level.desc).map (fun d => d.parameters.length) = some 2 := by decide +kernel
abbrev cc_Ba_inLevel : ByteArray := prog_1_method_15_code
def yy_Ba_inLevel : MethodName := ⟨rr_Ba, "inLevel", "(II)I"⟩
def wq_Ba_inLevel : List Cond := .code yy_Ba_inLevel cc_Ba_inLevel 3 (some .int) :: GW
theorem yd_Ba_inLevel : yy_Ba_inLevel.cls = rr_Ba ∧ yy_Ba_inLevel.cls ≠ "java/lang/invoke/MethodHandle" ∧ yy_Ba_inLevel.cls ≠ "java/lang/invoke/VarHandle" ∧ (parseMethodDescriptor yy_Ba_inLevel.desc).map (fun d => d.parameters.length) = some 2 := by decide +kernel
abbrev cc_Ba_levelOf : ByteArray := prog_1_method_16_code
def yy_Ba_levelOf : MethodName := ⟨rr_Ba, "levelOf", "(III)I"⟩
def wq_Ba_levelOf : List Cond := .code yy_Ba_levelOf cc_Ba_levelOf 4 (some .int) :: GW
theorem yd_Ba_levelOf : yy_Ba_levelOf.cls = rr_Ba ∧ yy_Ba_levelOf.cls ≠ "java/lang/invoke/MethodHandle" ∧ yy_Ba_levelOf.cls ≠ "java/lang/invoke/VarHandle" ∧ (parseMethodDescriptor yy_Ba_levelOf.desc).map (fun d => d.parameters.length) = some 3 := by decide +kernel
abbrev cc_Ba_splitFirst : ByteArray := prog_1_method_27_code
def yy_Ba_splitFirst : MethodName := ⟨rr_Ba, "splitFirst", "()V"⟩
def wq_Ba_splitFirst : List Cond := .code yy_Ba_splitFirst cc_Ba_splitFirst 1 none :: GW
theorem yd_Ba_splitFirst : yy_Ba_splitFirst.cls = rr_Ba ∧ yy_Ba_splitFirst.cls ≠ "java/lang/invoke/MethodHandle" ∧ yy_Ba_splitFirst.cls ≠ "java/lang/invoke/VarHandle" ∧ (parseMethodDescriptor yy_Ba_splitFirst.desc).map (fun d => d.parameters.length) = some 0 := by decide +kernel
abbrev cc_Ba_cutOrMiss : ByteArray := prog_1_method_29_code
def yy_Ba_cutOrMiss : MethodName := ⟨rr_Ba, "cutOrMiss", "()I"⟩
def wq_Ba_cutOrMiss : List Cond := .code yy_Ba_cutOrMiss cc_Ba_cutOrMiss 1 (some .int) :: GW
theorem yd_Ba_cutOrMiss : yy_Ba_cutOrMiss.cls = rr_Ba ∧ yy_Ba_cutOrMiss.cls ≠ "java/lang/invoke/MethodHandle" ∧ yy_Ba_cutOrMiss.cls ≠ "java/lang/invoke/VarHandle" ∧ (parseMethodDescriptor yy_Ba_cutOrMiss.desc).map (fun d => d.parameters.length) = some 0 := by decide +kernel
abbrev cc_Ba_run : ByteArray := prog_1_method_17_code
def yy_Ba_run : MethodName := ⟨rr_Ba, "run", "()I"⟩
def wq_Ba_run : List Cond := .code yy_Ba_run cc_Ba_run 3 (some .int) :: GW
theorem yd_Ba_run : yy_Ba_run.cls = rr_Ba ∧ yy_Ba_run.cls ≠ "java/lang/invoke/MethodHandle" ∧ yy_Ba_run.cls ≠ "java/lang/invoke/VarHandle" ∧ (parseMethodDescriptor yy_Ba_run.desc).map (fun d => d.parameters.length) = some 0 := by decide +kernel
abbrev cc_Ba_refine : ByteArray := prog_1_method_18_code
def yy_Ba_refine : MethodName := ⟨rr_Ba, "refine", "()I"⟩
def wq_Ba_refine : List Cond := .code yy_Ba_refine cc_Ba_refine 1 (some .int) :: GW
theorem yd_Ba_refine : yy_Ba_refine.cls = rr_Ba ∧ yy_Ba_refine.cls ≠ "java/lang/invoke/MethodHandle" ∧ yy_Ba_refine.cls ≠ "java/lang/invoke/VarHandle" ∧ (parseMethodDescriptor yy_Ba_refine.desc).map (fun d => d.parameters.length) = some 0 := by decide +kernel
abbrev cc_Ba_grow : ByteArray := prog_1_method_19_code
def yy_Ba_grow : MethodName := ⟨rr_Ba, "grow", "()I"⟩
def wq_Ba_grow : List Cond := .code yy_Ba_grow cc_Ba_grow 1 (some .int) :: GW
theorem yd_Ba_grow : yy_Ba_grow.cls = rr_Ba ∧ yy_Ba_grow.cls ≠ "java/lang/invoke/MethodHandle" ∧ yy_Ba_grow.cls ≠ "java/lang/invoke/VarHandle" ∧ (parseMethodDescriptor yy_Ba_grow.desc).map (fun d => d.parameters.length) = some 0 := by decide +kernel
abbrev cc_Ba_stream : ByteArray := prog_1_method_20_code
def yy_Ba_stream : MethodName := ⟨rr_Ba, "stream", "(II)I"⟩
def wq_Ba_stream : List Cond := .code yy_Ba_stream cc_Ba_stream 3 (some .int) :: GW
theorem yd_Ba_stream : yy_Ba_stream.cls = rr_Ba ∧ yy_Ba_stream.cls ≠ "java/lang/invoke/MethodHandle" ∧ yy_Ba_stream.cls ≠ "java/lang/invoke/VarHandle" ∧ (parseMethodDescriptor yy_Ba_stream.desc).map (fun d => d.parameters.length) = some 2 := by decide +kernel
abbrev cc_Ba_order : ByteArray := prog_1_method_21_code
def yy_Ba_order : MethodName := ⟨rr_Ba, "order", "(II)I"⟩
def wq_Ba_order : List Cond := .code yy_Ba_order cc_Ba_order 3 (some .int) :: GW
theorem yd_Ba_order : yy_Ba_order.cls = rr_Ba ∧ yy_Ba_order.cls ≠ "java/lang/invoke/MethodHandle" ∧ yy_Ba_order.cls ≠ "java/lang/invoke/VarHandle" ∧ (parseMethodDescriptor yy_Ba_order.desc).map (fun d => d.parameters.length) = some 2 := by decide +kernel
abbrev cc_Ba_hasTooManySplits : ByteArray := prog_1_method_28_code
def yy_Ba_hasTooManySplits : MethodName := ⟨rr_Ba, "hasTooManySplits", "()Z"⟩
def wq_Ba_hasTooManySplits : List Cond := .code yy_Ba_hasTooManySplits cc_Ba_hasTooManySplits 3 (some .boolean) :: GW
theorem yd_Ba_hasTooManySplits : yy_Ba_hasTooManySplits.cls = rr_Ba ∧ yy_Ba_hasTooManySplits.cls ≠ "java/lang/invoke/MethodHandle" ∧ yy_Ba_hasTooManySplits.cls ≠ "java/lang/invoke/VarHandle" ∧ (parseMethodDescriptor yy_Ba_hasTooManySplits.desc).map (fun d => d.parameters.length) = some 0 := by decide +kernel
abbrev cc_Ba_exact : ByteArray := prog_1_method_22_code
def yy_Ba_exact : MethodName := ⟨rr_Ba, "exact", "()I"⟩
def wq_Ba_exact : List Cond := .code yy_Ba_exact cc_Ba_exact 1 (some .int) :: GW
theorem yd_Ba_exact : yy_Ba_exact.cls = rr_Ba ∧ yy_Ba_exact.cls ≠ "java/lang/invoke/MethodHandle" ∧ yy_Ba_exact.cls ≠ "java/lang/invoke/VarHandle" ∧ (parseMethodDescriptor yy_Ba_exact.desc).map (fun d => d.parameters.length) = some 0 := by decide +kernel
abbrev cc_Ba_separator : ByteArray := prog_1_method_23_code
def yy_Ba_separator : MethodName := ⟨rr_Ba, "separator", "(I)I"⟩
def wq_Ba_separator : List Cond := .code yy_Ba_separator cc_Ba_separator 2 (some .int) :: GW
theorem yd_Ba_separator : yy_Ba_separator.cls = rr_Ba ∧ yy_Ba_separator.cls ≠ "java/lang/invoke/MethodHandle" ∧ yy_Ba_separator.cls ≠ "java/lang/invoke/VarHandle" ∧ (parseMethodDescriptor yy_Ba_separator.desc).map (fun d => d.parameters.length) = some 1 := by decide +kernel
abbrev cc_Ba_count : ByteArray := prog_1_method_24_code
def yy_Ba_count : MethodName := ⟨rr_Ba, "count", "(I)I"⟩
def wq_Ba_count : List Cond := .code yy_Ba_count cc_Ba_count 2 (some .int) :: GW
theorem yd_Ba_count : yy_Ba_count.cls = rr_Ba ∧ yy_Ba_count.cls ≠ "java/lang/invoke/MethodHandle" ∧ yy_Ba_count.cls ≠ "java/lang/invoke/VarHandle" ∧ (parseMethodDescriptor yy_Ba_count.desc).map (fun d => d.parameters.length) = some 1 := by decide +kernel
abbrev cc_Re_isIn : ByteArray := prog_11_method_2_code
def yy_Re_isIn : MethodName := ⟨rr_Re, "isIn", "(JJJ)Z"⟩
def wq_Re_isIn : List Cond := .code yy_Re_isIn cc_Re_isIn 6 (some .boolean) :: GW
theorem yd_Re_isIn : yy_Re_isIn.cls = rr_Re ∧ yy_Re_isIn.cls ≠ "java/lang/invoke/MethodHandle" ∧ yy_Re_isIn.cls ≠ "java/lang/invoke/VarHandle" ∧ (parseMethodDescriptor yy_Re_isIn.desc).map (fun d => d.parameters.length) = some 3 := by decide +kernel
abbrev cc_Re_node : ByteArray := prog_11_method_3_code
def yy_Re_node : MethodName := ⟨rr_Re, "node", "(I)I"⟩
def wq_Re_node : List Cond := .code yy_Re_node cc_Re_node 3 (some .int) :: GW
theorem yd_Re_node : yy_Re_node.cls = rr_Re ∧ yy_Re_node.cls ≠ "java/lang/invoke/MethodHandle" ∧ yy_Re_node.cls ≠ "java/lang/invoke/VarHandle" ∧ (parseMethodDescriptor yy_Re_node.desc).map (fun d => d.parameters.length) = some 1 := by decide +kernel
abbrev cc_Re_isNode : ByteArray := prog_11_method_4_code
def yy_Re_isNode : MethodName := ⟨rr_Re, "isNode", "(I)Z"⟩
def wq_Re_isNode : List Cond := .code yy_Re_isNode cc_Re_isNode 2 (some .boolean) :: GW
theorem yd_Re_isNode : yy_Re_isNode.cls = rr_Re ∧ yy_Re_isNode.cls ≠ "java/lang/invoke/MethodHandle" ∧ yy_Re_isNode.cls ≠ "java/lang/invoke/VarHandle" ∧ (parseMethodDescriptor yy_Re_isNode.desc).map (fun d => d.parameters.length) = some 1 := by decide +kernel
abbrev cc_Re_arc : ByteArray := prog_11_method_5_code
def yy_Re_arc : MethodName := ⟨rr_Re, "arc", "(III)I"⟩
def wq_Re_arc : List Cond := .code yy_Re_arc cc_Re_arc 5 (some .int) :: GW
theorem yd_Re_arc : yy_Re_arc.cls = rr_Re ∧ yy_Re_arc.cls ≠ "java/lang/invoke/MethodHandle" ∧ yy_Re_arc.cls ≠ "java/lang/invoke/VarHandle" ∧ (parseMethodDescriptor yy_Re_arc.desc).map (fun d => d.parameters.length) = some 3 := by decide +kernel
abbrev cc_Re_parts : ByteArray := prog_11_method_6_code
def yy_Re_parts : MethodName := ⟨rr_Re, "parts", "(I)I"⟩
def wq_Re_parts : List Cond := .code yy_Re_parts cc_Re_parts 4 (some .int) :: GW
theorem yd_Re_parts : yy_Re_parts.cls = rr_Re ∧ yy_Re_parts.cls ≠ "java/lang/invoke/MethodHandle" ∧ yy_Re_parts.cls ≠ "java/lang/invoke/VarHandle" ∧ (parseMethodDescriptor yy_Re_parts.desc).map (fun d => d.parameters.length) = some 1 := by decide +kernel
abbrev cc_Re_isPart : ByteArray := prog_11_method_7_code
def yy_Re_isPart : MethodName := ⟨rr_Re, "isPart", "(I)Z"⟩
def wq_Re_isPart : List Cond := .code yy_Re_isPart cc_Re_isPart 2 (some .boolean) :: GW
theorem yd_Re_isPart : yy_Re_isPart.cls = rr_Re ∧ yy_Re_isPart.cls ≠ "java/lang/invoke/MethodHandle" ∧ yy_Re_isPart.cls ≠ "java/lang/invoke/VarHandle" ∧ (parseMethodDescriptor yy_Re_isPart.desc).map (fun d => d.parameters.length) = some 1 := by decide +kernel
abbrev cc_Re_bound : ByteArray := prog_11_method_8_code
def yy_Re_bound : MethodName := ⟨rr_Re, "bound", "(III)I"⟩
def wq_Re_bound : List Cond := .code yy_Re_bound cc_Re_bound 4 (some .int) :: GW
theorem yd_Re_bound : yy_Re_bound.cls = rr_Re ∧ yy_Re_bound.cls ≠ "java/lang/invoke/MethodHandle" ∧ yy_Re_bound.cls ≠ "java/lang/invoke/VarHandle" ∧ (parseMethodDescriptor yy_Re_bound.desc).map (fun d => d.parameters.length) = some 3 := by decide +kernel
abbrev cc_Re_put : ByteArray := prog_11_method_9_code
def yy_Re_put : MethodName := ⟨rr_Re, "put", "(II)I"⟩
def wq_Re_put : List Cond := .code yy_Re_put cc_Re_put 4 (some .int) :: GW
theorem yd_Re_put : yy_Re_put.cls = rr_Re ∧ yy_Re_put.cls ≠ "java/lang/invoke/MethodHandle" ∧ yy_Re_put.cls ≠ "java/lang/invoke/VarHandle" ∧ (parseMethodDescriptor yy_Re_put.desc).map (fun d => d.parameters.length) = some 2 := by decide +kernel
abbrev cc_Re_clear : ByteArray := prog_11_method_10_code
def yy_Re_clear : MethodName := ⟨rr_Re, "clear", "()I"⟩
def wq_Re_clear : List Cond := .code yy_Re_clear cc_Re_clear 2 (some .int) :: GW
theorem yd_Re_clear : yy_Re_clear.cls = rr_Re ∧ yy_Re_clear.cls ≠ "java/lang/invoke/MethodHandle" ∧ yy_Re_clear.cls ≠ "java/lang/invoke/VarHandle" ∧ (parseMethodDescriptor yy_Re_clear.desc).map (fun d => d.parameters.length) = some 0 := by decide +kernel
abbrev cc_Re_mate : ByteArray := prog_11_method_12_code
def yy_Re_mate : MethodName := ⟨rr_Re, "mate", "(IIJ)I"⟩
def wq_Re_mate : List Cond := .code yy_Re_mate cc_Re_mate 10 (some .int) :: GW
theorem yd_Re_mate : yy_Re_mate.cls = rr_Re ∧ yy_Re_mate.cls ≠ "java/lang/invoke/MethodHandle" ∧ yy_Re_mate.cls ≠ "java/lang/invoke/VarHandle" ∧ (parseMethodDescriptor yy_Re_mate.desc).map (fun d => d.parameters.length) = some 3 := by decide +kernel
abbrev cc_Re_next : ByteArray := prog_11_method_13_code
def yy_Re_next : MethodName := ⟨rr_Re, "next", "(I)Z"⟩
def wq_Re_next : List Cond := .code yy_Re_next cc_Re_next 11 (some .boolean) :: GW
theorem yd_Re_next : yy_Re_next.cls = rr_Re ∧ yy_Re_next.cls ≠ "java/lang/invoke/MethodHandle" ∧ yy_Re_next.cls ≠ "java/lang/invoke/VarHandle" ∧ (parseMethodDescriptor yy_Re_next.desc).map (fun d => d.parameters.length) = some 1 := by decide +kernel
abbrev cc_Re_makeLevels : ByteArray := prog_11_method_11_code
def yy_Re_makeLevels : MethodName := ⟨rr_Re, "makeLevels", "()V"⟩
def wq_Re_makeLevels : List Cond := .code yy_Re_makeLevels cc_Re_makeLevels 3 none :: GW
theorem yd_Re_makeLevels : yy_Re_makeLevels.cls = rr_Re ∧ yy_Re_makeLevels.cls ≠ "java/lang/invoke/MethodHandle" ∧ yy_Re_makeLevels.cls ≠ "java/lang/invoke/VarHandle" ∧ (parseMethodDescriptor yy_Re_makeLevels.desc).map (fun d => d.parameters.length) = some 0 := by decide +kernel
abbrev cc_Re_level : ByteArray := prog_11_method_14_code
def yy_Re_level : MethodName := ⟨rr_Re, "level", "(II)I"⟩
def wq_Re_level : List Cond := .code yy_Re_level cc_Re_level 7 (some .int) :: GW
theorem yd_Re_level : yy_Re_level.cls = rr_Re ∧ yy_Re_level.cls ≠ "java/lang/invoke/MethodHandle" ∧ yy_Re_level.cls ≠ "java/lang/invoke/VarHandle" ∧ (parseMethodDescriptor yy_Re_level.desc).map (fun d => d.parameters.length) = some 2 := by decide +kernel
abbrev cc_Re_inLevel : ByteArray := prog_11_method_15_code
def yy_Re_inLevel : MethodName := ⟨rr_Re, "inLevel", "(II)I"⟩
def wq_Re_inLevel : List Cond := .code yy_Re_inLevel cc_Re_inLevel 5 (some .int) :: GW
theorem yd_Re_inLevel : yy_Re_inLevel.cls = rr_Re ∧ yy_Re_inLevel.cls ≠ "java/lang/invoke/MethodHandle" ∧ yy_Re_inLevel.cls ≠ "java/lang/invoke/VarHandle" ∧ (parseMethodDescriptor yy_Re_inLevel.desc).map (fun d => d.parameters.length) = some 2 := by decide +kernel
abbrev cc_Re_levelOf : ByteArray := prog_11_method_16_code
def yy_Re_levelOf : MethodName := ⟨rr_Re, "levelOf", "(III)I"⟩
def wq_Re_levelOf : List Cond := .code yy_Re_levelOf cc_Re_levelOf 4 (some .int) :: GW
theorem yd_Re_levelOf : yy_Re_levelOf.cls = rr_Re ∧ yy_Re_levelOf.cls ≠ "java/lang/invoke/MethodHandle" ∧ yy_Re_levelOf.cls ≠ "java/lang/invoke/VarHandle" ∧ (parseMethodDescriptor yy_Re_levelOf.desc).map (fun d => d.parameters.length) = some 3 := by decide +kernel
abbrev cc_Re_take : ByteArray := prog_11_method_17_code
def yy_Re_take : MethodName := ⟨rr_Re, "take", "(I)V"⟩
def wq_Re_take : List Cond := .code yy_Re_take cc_Re_take 2 none :: GW
theorem yd_Re_take : yy_Re_take.cls = rr_Re ∧ yy_Re_take.cls ≠ "java/lang/invoke/MethodHandle" ∧ yy_Re_take.cls ≠ "java/lang/invoke/VarHandle" ∧ (parseMethodDescriptor yy_Re_take.desc).map (fun d => d.parameters.length) = some 1 := by decide +kernel
abbrev cc_Re_weightOf : ByteArray := prog_11_method_18_code
def yy_Re_weightOf : MethodName := ⟨rr_Re, "weightOf", "(I)I"⟩
def wq_Re_weightOf : List Cond := .code yy_Re_weightOf cc_Re_weightOf 2 (some .int) :: GW
theorem yd_Re_weightOf : yy_Re_weightOf.cls = rr_Re ∧ yy_Re_weightOf.cls ≠ "java/lang/invoke/MethodHandle" ∧ yy_Re_weightOf.cls ≠ "java/lang/invoke/VarHandle" ∧ (parseMethodDescriptor yy_Re_weightOf.desc).map (fun d => d.parameters.length) = some 1 := by decide +kernel
abbrev cc_Re_arcOf : ByteArray := prog_11_method_19_code
def yy_Re_arcOf : MethodName := ⟨rr_Re, "arcOf", "(II)I"⟩
def wq_Re_arcOf : List Cond := .code yy_Re_arcOf cc_Re_arcOf 3 (some .int) :: GW
theorem yd_Re_arcOf : yy_Re_arcOf.cls = rr_Re ∧ yy_Re_arcOf.cls ≠ "java/lang/invoke/MethodHandle" ∧ yy_Re_arcOf.cls ≠ "java/lang/invoke/VarHandle" ∧ (parseMethodDescriptor yy_Re_arcOf.desc).map (fun d => d.parameters.length) = some 2 := by decide +kernel
abbrev cc_Re_sumOf : ByteArray := prog_11_method_20_code
def yy_Re_sumOf : MethodName := ⟨rr_Re, "sumOf", "(I)J"⟩
def wq_Re_sumOf : List Cond := .code yy_Re_sumOf cc_Re_sumOf 5 (some .long) :: GW
theorem yd_Re_sumOf : yy_Re_sumOf.cls = rr_Re ∧ yy_Re_sumOf.cls ≠ "java/lang/invoke/MethodHandle" ∧ yy_Re_sumOf.cls ≠ "java/lang/invoke/VarHandle" ∧ (parseMethodDescriptor yy_Re_sumOf.desc).map (fun d => d.parameters.length) = some 1 := by decide +kernel
abbrev cc_Re_rowOver : ByteArray := prog_11_method_21_code
def yy_Re_rowOver : MethodName := ⟨rr_Re, "rowOver", "()J"⟩
def wq_Re_rowOver : List Cond := .code yy_Re_rowOver cc_Re_rowOver 6 (some .long) :: GW
theorem yd_Re_rowOver : yy_Re_rowOver.cls = rr_Re ∧ yy_Re_rowOver.cls ≠ "java/lang/invoke/MethodHandle" ∧ yy_Re_rowOver.cls ≠ "java/lang/invoke/VarHandle" ∧ (parseMethodDescriptor yy_Re_rowOver.desc).map (fun d => d.parameters.length) = some 0 := by decide +kernel
abbrev cc_Re_rowCut : ByteArray := prog_11_method_22_code
def yy_Re_rowCut : MethodName := ⟨rr_Re, "rowCut", "()J"⟩
def wq_Re_rowCut : List Cond := .code yy_Re_rowCut cc_Re_rowCut 5 (some .long) :: GW
theorem yd_Re_rowCut : yy_Re_rowCut.cls = rr_Re ∧ yy_Re_rowCut.cls ≠ "java/lang/invoke/MethodHandle" ∧ yy_Re_rowCut.cls ≠ "java/lang/invoke/VarHandle" ∧ (parseMethodDescriptor yy_Re_rowCut.desc).map (fun d => d.parameters.length) = some 0 := by decide +kernel
abbrev cc_Re_rowGain : ByteArray := prog_11_method_23_code
def yy_Re_rowGain : MethodName := ⟨rr_Re, "rowGain", "(II)J"⟩
def wq_Re_rowGain : List Cond := .code yy_Re_rowGain cc_Re_rowGain 6 (some .long) :: GW
theorem yd_Re_rowGain : yy_Re_rowGain.cls = rr_Re ∧ yy_Re_rowGain.cls ≠ "java/lang/invoke/MethodHandle" ∧ yy_Re_rowGain.cls ≠ "java/lang/invoke/VarHandle" ∧ (parseMethodDescriptor yy_Re_rowGain.desc).map (fun d => d.parameters.length) = some 2 := by decide +kernel
abbrev cc_Re_takeSplit : ByteArray := prog_11_method_24_code
def yy_Re_takeSplit : MethodName := ⟨rr_Re, "takeSplit", "()V"⟩
def wq_Re_takeSplit : List Cond := .code yy_Re_takeSplit cc_Re_takeSplit 2 none :: GW
theorem yd_Re_takeSplit : yy_Re_takeSplit.cls = rr_Re ∧ yy_Re_takeSplit.cls ≠ "java/lang/invoke/MethodHandle" ∧ yy_Re_takeSplit.cls ≠ "java/lang/invoke/VarHandle" ∧ (parseMethodDescriptor yy_Re_takeSplit.desc).map (fun d => d.parameters.length) = some 0 := by decide +kernel
abbrev cc_Re_giveSplit : ByteArray := prog_11_method_25_code
def yy_Re_giveSplit : MethodName := ⟨rr_Re, "giveSplit", "()V"⟩
def wq_Re_giveSplit : List Cond := .code yy_Re_giveSplit cc_Re_giveSplit 2 none :: GW
theorem yd_Re_giveSplit : yy_Re_giveSplit.cls = rr_Re ∧ yy_Re_giveSplit.cls ≠ "java/lang/invoke/MethodHandle" ∧ yy_Re_giveSplit.cls ≠ "java/lang/invoke/VarHandle" ∧ (parseMethodDescriptor yy_Re_giveSplit.desc).map (fun d => d.parameters.length) = some 0 := by decide +kernel
abbrev cc_Re_of : ByteArray := prog_11_method_26_code
def yy_Re_of : MethodName := ⟨rr_Re, "of", "(II)I"⟩
def wq_Re_of : List Cond := .code yy_Re_of cc_Re_of 7 (some .int) :: GW
theorem yd_Re_of : yy_Re_of.cls = rr_Re ∧ yy_Re_of.cls ≠ "java/lang/invoke/MethodHandle" ∧ yy_Re_of.cls ≠ "java/lang/invoke/VarHandle" ∧ (parseMethodDescriptor yy_Re_of.desc).map (fun d => d.parameters.length) = some 2 := by decide +kernel
abbrev cc_Re_between : ByteArray := prog_11_method_27_code
def yy_Re_between : MethodName := ⟨rr_Re, "between", "(II)I"⟩
def wq_Re_between : List Cond := .code yy_Re_between cc_Re_between 3 (some .int) :: GW
theorem yd_Re_between : yy_Re_between.cls = rr_Re ∧ yy_Re_between.cls ≠ "java/lang/invoke/MethodHandle" ∧ yy_Re_between.cls ≠ "java/lang/invoke/VarHandle" ∧ (parseMethodDescriptor yy_Re_between.desc).map (fun d => d.parameters.length) = some 2 := by decide +kernel
abbrev cc_Re_part : ByteArray := prog_11_method_28_code
def yy_Re_part : MethodName := ⟨rr_Re, "part", "(II)I"⟩
def wq_Re_part : List Cond := .code yy_Re_part cc_Re_part 5 (some .int) :: GW
theorem yd_Re_part : yy_Re_part.cls = rr_Re ∧ yy_Re_part.cls ≠ "java/lang/invoke/MethodHandle" ∧ yy_Re_part.cls ≠ "java/lang/invoke/VarHandle" ∧ (parseMethodDescriptor yy_Re_part.desc).map (fun d => d.parameters.length) = some 2 := by decide +kernel
abbrev cc_Re_cut : ByteArray := prog_11_method_29_code
def yy_Re_cut : MethodName := ⟨rr_Re, "cut", "()I"⟩
def wq_Re_cut : List Cond := .code yy_Re_cut cc_Re_cut 1 (some .int) :: GW
theorem yd_Re_cut : yy_Re_cut.cls = rr_Re ∧ yy_Re_cut.cls ≠ "java/lang/invoke/MethodHandle" ∧ yy_Re_cut.cls ≠ "java/lang/invoke/VarHandle" ∧ (parseMethodDescriptor yy_Re_cut.desc).map (fun d => d.parameters.length) = some 0 := by decide +kernel
abbrev cc_Re_over : ByteArray := prog_11_method_30_code
def yy_Re_over : MethodName := ⟨rr_Re, "over", "()I"⟩
def wq_Re_over : List Cond := .code yy_Re_over cc_Re_over 1 (some .int) :: GW
theorem yd_Re_over : yy_Re_over.cls = rr_Re ∧ yy_Re_over.cls ≠ "java/lang/invoke/MethodHandle" ∧ yy_Re_over.cls ≠ "java/lang/invoke/VarHandle" ∧ (parseMethodDescriptor yy_Re_over.desc).map (fun d => d.parameters.length) = some 0 := by decide +kernel
abbrev cc_Re_gain : ByteArray := prog_11_method_31_code
def yy_Re_gain : MethodName := ⟨rr_Re, "gain", "(II)I"⟩
def wq_Re_gain : List Cond := .code yy_Re_gain cc_Re_gain 3 (some .int) :: GW
theorem yd_Re_gain : yy_Re_gain.cls = rr_Re ∧ yy_Re_gain.cls ≠ "java/lang/invoke/MethodHandle" ∧ yy_Re_gain.cls ≠ "java/lang/invoke/VarHandle" ∧ (parseMethodDescriptor yy_Re_gain.desc).map (fun d => d.parameters.length) = some 2 := by decide +kernel
abbrev cc_Re_pass : ByteArray := prog_11_method_32_code
def yy_Re_pass : MethodName := ⟨rr_Re, "pass", "()Z"⟩
def wq_Re_pass : List Cond := .code yy_Re_pass cc_Re_pass 25 (some .boolean) :: GW
theorem yd_Re_pass : yy_Re_pass.cls = rr_Re ∧ yy_Re_pass.cls ≠ "java/lang/invoke/MethodHandle" ∧ yy_Re_pass.cls ≠ "java/lang/invoke/VarHandle" ∧ (parseMethodDescriptor yy_Re_pass.desc).map (fun d => d.parameters.length) = some 0 := by decide +kernel
abbrev cc_Re_passes : ByteArray := prog_11_method_33_code
def yy_Re_passes : MethodName := ⟨rr_Re, "passes", "()I"⟩
def wq_Re_passes : List Cond := .code yy_Re_passes cc_Re_passes 2 (some .int) :: GW
theorem yd_Re_passes : yy_Re_passes.cls = rr_Re ∧ yy_Re_passes.cls ≠ "java/lang/invoke/MethodHandle" ∧ yy_Re_passes.cls ≠ "java/lang/invoke/VarHandle" ∧ (parseMethodDescriptor yy_Re_passes.desc).map (fun d => d.parameters.length) = some 0 := by decide +kernel
abbrev cc_Re_grows : ByteArray := prog_11_method_34_code
def yy_Re_grows : MethodName := ⟨rr_Re, "grows", "()V"⟩
def wq_Re_grows : List Cond := .code yy_Re_grows cc_Re_grows 5 none :: GW
theorem yd_Re_grows : yy_Re_grows.cls = rr_Re ∧ yy_Re_grows.cls ≠ "java/lang/invoke/MethodHandle" ∧ yy_Re_grows.cls ≠ "java/lang/invoke/VarHandle" ∧ (parseMethodDescriptor yy_Re_grows.desc).map (fun d => d.parameters.length) = some 0 := by decide +kernel
abbrev cc_Re_tries : ByteArray := prog_11_method_35_code
def yy_Re_tries : MethodName := ⟨rr_Re, "tries", "()V"⟩
def wq_Re_tries : List Cond := .code yy_Re_tries cc_Re_tries 11 none :: GW
theorem yd_Re_tries : yy_Re_tries.cls = rr_Re ∧ yy_Re_tries.cls ≠ "java/lang/invoke/MethodHandle" ∧ yy_Re_tries.cls ≠ "java/lang/invoke/VarHandle" ∧ (parseMethodDescriptor yy_Re_tries.desc).map (fun d => d.parameters.length) = some 0 := by decide +kernel
abbrev cc_Re_told : ByteArray := prog_11_method_36_code
def yy_Re_told : MethodName := ⟨rr_Re, "told", "()I"⟩
def wq_Re_told : List Cond := .code yy_Re_told cc_Re_told 3 (some .int) :: GW
theorem yd_Re_told : yy_Re_told.cls = rr_Re ∧ yy_Re_told.cls ≠ "java/lang/invoke/MethodHandle" ∧ yy_Re_told.cls ≠ "java/lang/invoke/VarHandle" ∧ (parseMethodDescriptor yy_Re_told.desc).map (fun d => d.parameters.length) = some 0 := by decide +kernel
abbrev cc_Re_run : ByteArray := prog_11_method_37_code
def yy_Re_run : MethodName := ⟨rr_Re, "run", "()I"⟩
def wq_Re_run : List Cond := .code yy_Re_run cc_Re_run 3 (some .int) :: GW
theorem yd_Re_run : yy_Re_run.cls = rr_Re ∧ yy_Re_run.cls ≠ "java/lang/invoke/MethodHandle" ∧ yy_Re_run.cls ≠ "java/lang/invoke/VarHandle" ∧ (parseMethodDescriptor yy_Re_run.desc).map (fun d => d.parameters.length) = some 0 := by decide +kernel
abbrev cc_Re_refine : ByteArray := prog_11_method_38_code
def yy_Re_refine : MethodName := ⟨rr_Re, "refine", "()I"⟩
def wq_Re_refine : List Cond := .code yy_Re_refine cc_Re_refine 2 (some .int) :: GW
theorem yd_Re_refine : yy_Re_refine.cls = rr_Re ∧ yy_Re_refine.cls ≠ "java/lang/invoke/MethodHandle" ∧ yy_Re_refine.cls ≠ "java/lang/invoke/VarHandle" ∧ (parseMethodDescriptor yy_Re_refine.desc).map (fun d => d.parameters.length) = some 0 := by decide +kernel
abbrev cc_Re_grow : ByteArray := prog_11_method_39_code
def yy_Re_grow : MethodName := ⟨rr_Re, "grow", "()I"⟩
def wq_Re_grow : List Cond := .code yy_Re_grow cc_Re_grow 1 (some .int) :: GW
theorem yd_Re_grow : yy_Re_grow.cls = rr_Re ∧ yy_Re_grow.cls ≠ "java/lang/invoke/MethodHandle" ∧ yy_Re_grow.cls ≠ "java/lang/invoke/VarHandle" ∧ (parseMethodDescriptor yy_Re_grow.desc).map (fun d => d.parameters.length) = some 0 := by decide +kernel
abbrev cc_Re_makeOrder : ByteArray := prog_11_method_40_code
def yy_Re_makeOrder : MethodName := ⟨rr_Re, "makeOrder", "(I)V"⟩
def wq_Re_makeOrder : List Cond := .code yy_Re_makeOrder cc_Re_makeOrder 7 none :: GW
theorem yd_Re_makeOrder : yy_Re_makeOrder.cls = rr_Re ∧ yy_Re_makeOrder.cls ≠ "java/lang/invoke/MethodHandle" ∧ yy_Re_makeOrder.cls ≠ "java/lang/invoke/VarHandle" ∧ (parseMethodDescriptor yy_Re_makeOrder.desc).map (fun d => d.parameters.length) = some 1 := by decide +kernel
abbrev cc_Re_order : ByteArray := prog_11_method_41_code
def yy_Re_order : MethodName := ⟨rr_Re, "order", "(II)I"⟩
def wq_Re_order : List Cond := .code yy_Re_order cc_Re_order 3 (some .int) :: GW
theorem yd_Re_order : yy_Re_order.cls = rr_Re ∧ yy_Re_order.cls ≠ "java/lang/invoke/MethodHandle" ∧ yy_Re_order.cls ≠ "java/lang/invoke/VarHandle" ∧ (parseMethodDescriptor yy_Re_order.desc).map (fun d => d.parameters.length) = some 2 := by decide +kernel
abbrev cc_Re_stream : ByteArray := prog_11_method_42_code
def yy_Re_stream : MethodName := ⟨rr_Re, "stream", "(II)I"⟩
def wq_Re_stream : List Cond := .code yy_Re_stream cc_Re_stream 14 (some .int) :: GW
theorem yd_Re_stream : yy_Re_stream.cls = rr_Re ∧ yy_Re_stream.cls ≠ "java/lang/invoke/MethodHandle" ∧ yy_Re_stream.cls ≠ "java/lang/invoke/VarHandle" ∧ (parseMethodDescriptor yy_Re_stream.desc).map (fun d => d.parameters.length) = some 2 := by decide +kernel
abbrev cc_Re_exact : ByteArray := prog_11_method_43_code
def yy_Re_exact : MethodName := ⟨rr_Re, "exact", "()I"⟩
def wq_Re_exact : List Cond := .code yy_Re_exact cc_Re_exact 4 (some .int) :: GW
theorem yd_Re_exact : yy_Re_exact.cls = rr_Re ∧ yy_Re_exact.cls ≠ "java/lang/invoke/MethodHandle" ∧ yy_Re_exact.cls ≠ "java/lang/invoke/VarHandle" ∧ (parseMethodDescriptor yy_Re_exact.desc).map (fun d => d.parameters.length) = some 0 := by decide +kernel
abbrev cc_Re_isOpen : ByteArray := prog_11_method_44_code
def yy_Re_isOpen : MethodName := ⟨rr_Re, "isOpen", "(II)Z"⟩
def wq_Re_isOpen : List Cond := .code yy_Re_isOpen cc_Re_isOpen 3 (some .boolean) :: GW
theorem yd_Re_isOpen : yy_Re_isOpen.cls = rr_Re ∧ yy_Re_isOpen.cls ≠ "java/lang/invoke/MethodHandle" ∧ yy_Re_isOpen.cls ≠ "java/lang/invoke/VarHandle" ∧ (parseMethodDescriptor yy_Re_isOpen.desc).map (fun d => d.parameters.length) = some 2 := by decide +kernel
abbrev cc_Re_separate : ByteArray := prog_11_method_45_code
def yy_Re_separate : MethodName := ⟨rr_Re, "separate", "()V"⟩
def wq_Re_separate : List Cond := .code yy_Re_separate cc_Re_separate 6 none :: GW
theorem yd_Re_separate : yy_Re_separate.cls = rr_Re ∧ yy_Re_separate.cls ≠ "java/lang/invoke/MethodHandle" ∧ yy_Re_separate.cls ≠ "java/lang/invoke/VarHandle" ∧ (parseMethodDescriptor yy_Re_separate.desc).map (fun d => d.parameters.length) = some 0 := by decide +kernel
abbrev cc_Re_separator : ByteArray := prog_11_method_46_code
def yy_Re_separator : MethodName := ⟨rr_Re, "separator", "(I)I"⟩
def wq_Re_separator : List Cond := .code yy_Re_separator cc_Re_separator 4 (some .int) :: GW
theorem yd_Re_separator : yy_Re_separator.cls = rr_Re ∧ yy_Re_separator.cls ≠ "java/lang/invoke/MethodHandle" ∧ yy_Re_separator.cls ≠ "java/lang/invoke/VarHandle" ∧ (parseMethodDescriptor yy_Re_separator.desc).map (fun d => d.parameters.length) = some 1 := by decide +kernel
abbrev cc_Re_count : ByteArray := prog_11_method_47_code
def yy_Re_count : MethodName := ⟨rr_Re, "count", "(I)I"⟩
def wq_Re_count : List Cond := .code yy_Re_count cc_Re_count 5 (some .int) :: GW
theorem yd_Re_count : yy_Re_count.cls = rr_Re ∧ yy_Re_count.cls ≠ "java/lang/invoke/MethodHandle" ∧ yy_Re_count.cls ≠ "java/lang/invoke/VarHandle" ∧ (parseMethodDescriptor yy_Re_count.desc).map (fun d => d.parameters.length) = some 1 := by decide +kernel
abbrev cc_Bo_new : ByteArray := prog_2_method_1_code
def yy_Bo_new : MethodName := ⟨rr_Bo, "<init>", "()V"⟩
def wq_Bo_new : List Cond := .code yy_Bo_new cc_Bo_new 1 none :: GW
theorem yd_Bo_new : yy_Bo_new.cls = rr_Bo ∧ yy_Bo_new.cls ≠ "java/lang/invoke/MethodHandle" ∧ yy_Bo_new.cls ≠ "java/lang/invoke/VarHandle" ∧ (parseMethodDescriptor yy_Bo_new.desc).map (fun d => d.parameters.length) = some 0 := by decide +kernel
abbrev cc_Gr_new : ByteArray := prog_3_method_1_code
def yy_Gr_new : MethodName := ⟨rr_Gr, "<init>", "()V"⟩
def wq_Gr_new : List Cond := .code yy_Gr_new cc_Gr_new 1 none :: GW
theorem yd_Gr_new : yy_Gr_new.cls = rr_Gr ∧ yy_Gr_new.cls ≠ "java/lang/invoke/MethodHandle" ∧ yy_Gr_new.cls ≠ "java/lang/invoke/VarHandle" ∧ (parseMethodDescriptor yy_Gr_new.desc).map (fun d => d.parameters.length) = some 0 := by decide +kernel
abbrev cc_Le_new : ByteArray := prog_4_method_1_code
def yy_Le_new : MethodName := ⟨rr_Le, "<init>", "()V"⟩
def wq_Le_new : List Cond := .code yy_Le_new cc_Le_new 1 none :: GW
theorem yd_Le_new : yy_Le_new.cls = rr_Le ∧ yy_Le_new.cls ≠ "java/lang/invoke/MethodHandle" ∧ yy_Le_new.cls ≠ "java/lang/invoke/VarHandle" ∧ (parseMethodDescriptor yy_Le_new.desc).map (fun d => d.parameters.length) = some 0 := by decide +kernel
abbrev cc_Mo_new : ByteArray := prog_5_method_1_code
def yy_Mo_new : MethodName := ⟨rr_Mo, "<init>", "()V"⟩
def wq_Mo_new : List Cond := .code yy_Mo_new cc_Mo_new 1 none :: GW
theorem yd_Mo_new : yy_Mo_new.cls = rr_Mo ∧ yy_Mo_new.cls ≠ "java/lang/invoke/MethodHandle" ∧ yy_Mo_new.cls ≠ "java/lang/invoke/VarHandle" ∧ (parseMethodDescriptor yy_Mo_new.desc).map (fun d => d.parameters.length) = some 0 := by decide +kernel
abbrev cc_Od_new : ByteArray := prog_6_method_1_code
def yy_Od_new : MethodName := ⟨rr_Od, "<init>", "()V"⟩
def wq_Od_new : List Cond := .code yy_Od_new cc_Od_new 1 none :: GW
theorem yd_Od_new : yy_Od_new.cls = rr_Od ∧ yy_Od_new.cls ≠ "java/lang/invoke/MethodHandle" ∧ yy_Od_new.cls ≠ "java/lang/invoke/VarHandle" ∧ (parseMethodDescriptor yy_Od_new.desc).map (fun d => d.parameters.length) = some 0 := by decide +kernel
abbrev cc_Se_new : ByteArray := prog_7_method_1_code
def yy_Se_new : MethodName := ⟨rr_Se, "<init>", "()V"⟩
def wq_Se_new : List Cond := .code yy_Se_new cc_Se_new 1 none :: GW
theorem yd_Se_new : yy_Se_new.cls = rr_Se ∧ yy_Se_new.cls ≠ "java/lang/invoke/MethodHandle" ∧ yy_Se_new.cls ≠ "java/lang/invoke/VarHandle" ∧ (parseMethodDescriptor yy_Se_new.desc).map (fun d => d.parameters.length) = some 0 := by decide +kernel
abbrev cc_Di_new : ByteArray := prog_8_method_1_code
def yy_Di_new : MethodName := ⟨rr_Di, "<init>", "()V"⟩
def wq_Di_new : List Cond := .code yy_Di_new cc_Di_new 1 none :: GW
theorem yd_Di_new : yy_Di_new.cls = rr_Di ∧ yy_Di_new.cls ≠ "java/lang/invoke/MethodHandle" ∧ yy_Di_new.cls ≠ "java/lang/invoke/VarHandle" ∧ (parseMethodDescriptor yy_Di_new.desc).map (fun d => d.parameters.length) = some 0 := by decide +kernel
abbrev cc_Sp_new : ByteArray := prog_9_method_1_code
def yy_Sp_new : MethodName := ⟨rr_Sp, "<init>", "()V"⟩
def wq_Sp_new : List Cond := .code yy_Sp_new cc_Sp_new 1 none :: GW
theorem yd_Sp_new : yy_Sp_new.cls = rr_Sp ∧ yy_Sp_new.cls ≠ "java/lang/invoke/MethodHandle" ∧ yy_Sp_new.cls ≠ "java/lang/invoke/VarHandle" ∧ (parseMethodDescriptor yy_Sp_new.desc).map (fun d => d.parameters.length) = some 0 := by decide +kernel
abbrev cc_Ba_new : ByteArray := prog_1_method_1_code
def yy_Ba_new : MethodName := ⟨rr_Ba, "<init>", "()V"⟩
def wq_Ba_new : List Cond := .code yy_Ba_new cc_Ba_new 1 none :: GW
theorem yd_Ba_new : yy_Ba_new.cls = rr_Ba ∧ yy_Ba_new.cls ≠ "java/lang/invoke/MethodHandle" ∧ yy_Ba_new.cls ≠ "java/lang/invoke/VarHandle" ∧ (parseMethodDescriptor yy_Ba_new.desc).map (fun d => d.parameters.length) = some 0 := by decide +kernel
abbrev cc_Re_new : ByteArray := prog_11_method_1_code
def yy_Re_new : MethodName := ⟨rr_Re, "<init>", "()V"⟩
def wq_Re_new : List Cond := .code yy_Re_new cc_Re_new 1 none :: GW
theorem yd_Re_new : yy_Re_new.cls = rr_Re ∧ yy_Re_new.cls ≠ "java/lang/invoke/MethodHandle" ∧ yy_Re_new.cls ≠ "java/lang/invoke/VarHandle" ∧ (parseMethodDescriptor yy_Re_new.desc).map (fun d => d.parameters.length) = some 0 := by decide +kernel
abbrev cc_fill : ByteArray := prog_14_method_103_code
def yy_fill : MethodName := ⟨"java/util/Arrays", "fill", "([II)V"⟩
def wq_fill : List Cond := .code yy_fill cc_fill 4 none :: GW
theorem yd_fill : yy_fill.cls ≠ "java/lang/invoke/MethodHandle" ∧ yy_fill.cls ≠ "java/lang/invoke/VarHandle" ∧ (parseMethodDescriptor yy_fill.desc).map (fun d => d.parameters.length) = some 2 := by decide +kernel
def nestM : List (String × Nat × MethodName × String) := [(rr_Ba, 9, yy_Sp_new, "BalancedSplits"), (rr_Sp, 11, yy_Gr_new, "BalancedSplits"), (rr_Sp, 20, yy_Bo_new, "BalancedSplits"), (rr_Ba, 21, yy_Le_new, "BalancedSplits"), (rr_Ba, 28, yy_Se_new, "BalancedSplits"), (rr_Ba, 35, yy_Mo_new, "BalancedSplits"), (rr_Ba, 42, yy_Od_new, "BalancedSplits"), (rr_Ba, 49, yy_Di_new, "BalancedSplits")]
