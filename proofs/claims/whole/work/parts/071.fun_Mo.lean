def f_Mo_keepBest (t_best : Nat → Int32) (p1_cut : Int32) (p1_over : Int32) (p1_home : Nat → Int32) : Option (Int32 × Int32 × (Nat → Int32)) :=
  ck (okc 0 0 40 40 40) (
  some (p1_over, p1_cut, va_cpy p1_home t_best (0 : Int32).toNatClampNeg (0 : Int32).toNatClampNeg (40 : Int32).toNatClampNeg))
def J_Mo_weigh_63 (x2 : Int32) (x3 : Int32) (x4 : Int32) (x5 : Int32) : Option (Int32 × Int32 × Int32 × Int32) :=
  some (x2, x3, x4, x5)
def J_Mo_weigh_38 (x2 : Int32) (x3 : Int32) (t_nextNode : Int32) (t_nextPart : Int32) (t_nextOver : Int32) (t_nextGain : Int32) (y0 : Int32) (x4 : Int32) (x5 : Int32) : Option (Int32 × Int32 × Int32 × Int32) :=
  if x4 < t_nextOver then
    J_Mo_weigh_63 x2 x3 x4 x5
  else
    if x4 = t_nextOver then
      if y0 = 0 then
        some (t_nextNode, t_nextPart, t_nextOver, t_nextGain)
      else
        J_Mo_weigh_63 x2 x3 x4 x5
    else
      some (t_nextNode, t_nextPart, t_nextOver, t_nextGain)
def J_Mo_weigh_33 (x2 : Int32) (x3 : Int32) (t_nextNode : Int32) (t_nextPart : Int32) (t_nextOver : Int32) (t_nextGain : Int32) (x4 : Int32) (x5 : Int32) : Option (Int32 × Int32 × Int32 × Int32) :=
  J_Mo_weigh_38 x2 x3 t_nextNode t_nextPart t_nextOver t_nextGain 1 x4 x5
def f_Mo_weigh (x2 : Int32) (x3 : Int32) (t_nextNode : Int32) (t_nextPart : Int32) (t_nextOver : Int32) (t_nextGain : Int32) (p1_over : Int32) (p1_bounds_least : Nat → Int32) (p1_bounds_most : Nat → Int32) (p1_graph_weight : Nat → Int32) (p1_home : Nat → Int32) (p1_link : Nat → Int32) (p1_sum : Nat → Int32) : Option (Int32 × Int32 × Int32 × Int32) :=
  (f_Sp_overBehind x2 x3 p1_over p1_bounds_least p1_bounds_most p1_graph_weight p1_home p1_sum).bind (fun r3 =>
  (f_Sp_gainOf x2 x3 p1_home p1_link).bind (fun r11 =>
  if t_nextNode = (-1) then
    J_Mo_weigh_33 x2 x3 t_nextNode t_nextPart t_nextOver t_nextGain r3 r11
  else
    if r11 ≤ t_nextGain then
      J_Mo_weigh_38 x2 x3 t_nextNode t_nextPart t_nextOver t_nextGain 0 r3 r11
    else
      J_Mo_weigh_33 x2 x3 t_nextNode t_nextPart t_nextOver t_nextGain r3 r11))
def L_Mo_findNext_33 (t_free : Nat → Int32) (p1_over : Int32) (p1_bounds_k : Int32) (p1_bounds_least : Nat → Int32) (p1_bounds_most : Nat → Int32) (p1_graph_weight : Nat → Int32) (p1_home : Nat → Int32) (p1_link : Nat → Int32) (p1_sum : Nat → Int32) (k20 : Int32 → Int32 → Int32 → Int32 → Int32 → Option (Int32 × Int32 × Int32 × Int32 × Int32)) : Nat → Int32 → Int32 → Int32 → Int32 → Int32 → Int32 → Option (Int32 × Int32 × Int32 × Int32 × Int32)
  | 0, _, _, _, _, _, _ => none
  | n + 1, x2, x3, t_nextNode, t_nextPart, t_nextOver, t_nextGain =>
    ck (okb x2 40) (
    if (t_free (x2).toNatClampNeg) = 0 then
      k20 (x2 + 1) t_nextNode t_nextPart t_nextOver t_nextGain
    else
      if p1_bounds_k ≤ x3 then
        k20 (x2 + 1) t_nextNode t_nextPart t_nextOver t_nextGain
      else
        ck (okb x2 40) (
        if x3 = (p1_home (x2).toNatClampNeg) then
          L_Mo_findNext_33 t_free p1_over p1_bounds_k p1_bounds_least p1_bounds_most p1_graph_weight p1_home p1_link p1_sum k20 n x2 (x3 + 1) t_nextNode t_nextPart t_nextOver t_nextGain
        else
          (f_Mo_weigh x2 x3 t_nextNode t_nextPart t_nextOver t_nextGain p1_over p1_bounds_least p1_bounds_most p1_graph_weight p1_home p1_link p1_sum).bind (fun r67 =>
          L_Mo_findNext_33 t_free p1_over p1_bounds_k p1_bounds_least p1_bounds_most p1_graph_weight p1_home p1_link p1_sum k20 n x2 (x3 + 1) r67.1 r67.2.1 r67.2.2.1 r67.2.2.2)))
def J_Mo_findNext_82 (t_nextNode : Int32) (t_nextPart : Int32) (t_nextOver : Int32) (t_nextGain : Int32) : Option (Int32 × Int32 × Int32 × Int32 × Int32) :=
  if t_nextNode = (-1) then
    some (0, t_nextNode, t_nextPart, t_nextOver, t_nextGain)
  else
    some (1, t_nextNode, t_nextPart, t_nextOver, t_nextGain)
def L_Mo_findNext_20 (t_free : Nat → Int32) (p1_over : Int32) (p1_bounds_k : Int32) (p1_bounds_least : Nat → Int32) (p1_bounds_most : Nat → Int32) (p1_graph_size : Int32) (p1_graph_weight : Nat → Int32) (p1_home : Nat → Int32) (p1_link : Nat → Int32) (p1_sum : Nat → Int32) : Nat → Int32 → Int32 → Int32 → Int32 → Int32 → Option (Int32 × Int32 × Int32 × Int32 × Int32)
  | 0, _, _, _, _, _ => none
  | n + 1, x2, t_nextNode, t_nextPart, t_nextOver, t_nextGain =>
    if p1_graph_size ≤ x2 then
      J_Mo_findNext_82 t_nextNode t_nextPart t_nextOver t_nextGain
    else
      L_Mo_findNext_33 t_free p1_over p1_bounds_k p1_bounds_least p1_bounds_most p1_graph_weight p1_home p1_link p1_sum (L_Mo_findNext_20 t_free p1_over p1_bounds_k p1_bounds_least p1_bounds_most p1_graph_size p1_graph_weight p1_home p1_link p1_sum n) 64 x2 0 t_nextNode t_nextPart t_nextOver t_nextGain
def f_Mo_findNext (t_nextPart : Int32) (t_free : Nat → Int32) (p1_over : Int32) (p1_bounds_k : Int32) (p1_bounds_least : Nat → Int32) (p1_bounds_most : Nat → Int32) (p1_graph_size : Int32) (p1_graph_weight : Nat → Int32) (p1_home : Nat → Int32) (p1_link : Nat → Int32) (p1_sum : Nat → Int32) : Option (Int32 × Int32 × Int32 × Int32 × Int32) :=
  L_Mo_findNext_20 t_free p1_over p1_bounds_k p1_bounds_least p1_bounds_most p1_graph_size p1_graph_weight p1_home p1_link p1_sum 64 0 (-1) t_nextPart p1_over 0
def f_Mo_isBetter (t_bestOver : Int32) (t_bestCut : Int32) (p1_cut : Int32) (p1_over : Int32) : Option (Int32) :=
  if p1_over < t_bestOver then
    some 1
  else
    if p1_over = t_bestOver then
      if t_bestCut ≤ p1_cut then
        some 0
      else
        some 1
    else
      some 0
def J_Mo_doPass_96 (x2 : Int32) (t_bestOver : Int32) (t_bestCut : Int32) (t_nextNode : Int32) (t_nextPart : Int32) (t_nextOver : Int32) (t_nextGain : Int32) (t_best : Nat → Int32) (t_free : Nat → Int32) (p1_cut : Int32) (p1_over : Int32) (p1_home : Nat → Int32) (p1_link : Nat → Int32) (p1_sum : Nat → Int32) : Option (Int32 × Int32 × Int32 × Int32 × Int32 × Int32 × Int32 × (Nat → Int32) × (Nat → Int32) × Int32 × Int32 × (Nat → Int32) × (Nat → Int32) × (Nat → Int32)) :=
  ck (okc 0 0 40 40 40) (
  ck (okB x2) (
  some (x2, t_bestOver, t_bestCut, t_nextNode, t_nextPart, t_nextOver, t_nextGain, t_best, t_free, p1_cut, p1_over, va_cpy t_best p1_home (0 : Int32).toNatClampNeg (0 : Int32).toNatClampNeg (40 : Int32).toNatClampNeg, p1_link, p1_sum)))
def L_Mo_doPass_34 (p1_bounds_k : Int32) (p1_bounds_least : Nat → Int32) (p1_bounds_most : Nat → Int32) (p1_graph_size : Int32) (p1_graph_arcs : Nat → Int32) (p1_graph_weight : Nat → Int32) : Nat → Int32 → Int32 → Int32 → Int32 → Int32 → Int32 → Int32 → Int32 → (Nat → Int32) → (Nat → Int32) → Int32 → Int32 → (Nat → Int32) → (Nat → Int32) → (Nat → Int32) → Option (Int32 × Int32 × Int32 × Int32 × Int32 × Int32 × Int32 × (Nat → Int32) × (Nat → Int32) × Int32 × Int32 × (Nat → Int32) × (Nat → Int32) × (Nat → Int32))
  | 0, _, _, _, _, _, _, _, _, _, _, _, _, _, _, _ => none
  | n + 1, x2, x3, t_bestOver, t_bestCut, t_nextNode, t_nextPart, t_nextOver, t_nextGain, t_best, t_free, p1_cut, p1_over, p1_home, p1_link, p1_sum =>
    if p1_graph_size ≤ x3 then
      J_Mo_doPass_96 x2 t_bestOver t_bestCut t_nextNode t_nextPart t_nextOver t_nextGain t_best t_free p1_cut p1_over p1_home p1_link p1_sum
    else
      (f_Mo_findNext t_nextPart t_free p1_over p1_bounds_k p1_bounds_least p1_bounds_most p1_graph_size p1_graph_weight p1_home p1_link p1_sum).bind (fun r47 =>
      if r47.1 = 0 then
        J_Mo_doPass_96 x2 t_bestOver t_bestCut r47.2.1 r47.2.2.1 r47.2.2.2.1 r47.2.2.2.2 t_best t_free p1_cut p1_over p1_home p1_link p1_sum
      else
        (f_Sp_shift r47.2.1 r47.2.2.1 p1_cut p1_over p1_bounds_least p1_bounds_most p1_graph_size p1_graph_arcs p1_graph_weight p1_home p1_link p1_sum).bind (fun r62 =>
        ck (okb r47.2.1 40) (
        (f_Mo_isBetter t_bestOver t_bestCut r62.1 r62.2.1).bind (fun r77 =>
        if r77 = 0 then
          L_Mo_doPass_34 p1_bounds_k p1_bounds_least p1_bounds_most p1_graph_size p1_graph_arcs p1_graph_weight n x2 (x3 + 1) t_bestOver t_bestCut r47.2.1 r47.2.2.1 r47.2.2.2.1 r47.2.2.2.2 t_best (upd t_free (r47.2.1).toNatClampNeg (vp_nar .boolean 0)) r62.1 r62.2.1 r62.2.2.1 r62.2.2.2.1 r62.2.2.2.2
        else
          (f_Mo_keepBest t_best r62.1 r62.2.1 r62.2.2.1).bind (fun r85 =>
          L_Mo_doPass_34 p1_bounds_k p1_bounds_least p1_bounds_most p1_graph_size p1_graph_arcs p1_graph_weight n 1 (x3 + 1) r85.1 r85.2.1 r47.2.1 r47.2.2.1 r47.2.2.2.1 r47.2.2.2.2 r85.2.2 (upd t_free (r47.2.1).toNatClampNeg (vp_nar .boolean 0)) r62.1 r62.2.1 r62.2.2.1 r62.2.2.2.1 r62.2.2.2.2)))))
def J_Mo_doPass_25 (t_nextNode : Int32) (t_nextPart : Int32) (t_nextOver : Int32) (t_nextGain : Int32) (t_best : Nat → Int32) (p1_bounds_k : Int32) (p1_bounds_least : Nat → Int32) (p1_bounds_most : Nat → Int32) (p1_graph_size : Int32) (p1_graph_arcs : Nat → Int32) (p1_graph_weight : Nat → Int32) (p1_home : Nat → Int32) (t_free : Nat → Int32) (p1_cut : Int32) (p1_over : Int32) (p1_link : Nat → Int32) (p1_sum : Nat → Int32) : Option (Int32 × Int32 × Int32 × Int32 × Int32 × Int32 × Int32 × (Nat → Int32) × (Nat → Int32) × Int32 × Int32 × (Nat → Int32) × (Nat → Int32) × (Nat → Int32)) :=
  (f_Mo_keepBest t_best p1_cut p1_over p1_home).bind (fun r27 =>
  L_Mo_doPass_34 p1_bounds_k p1_bounds_least p1_bounds_most p1_graph_size p1_graph_arcs p1_graph_weight 64 0 0 r27.1 r27.2.1 t_nextNode t_nextPart t_nextOver t_nextGain r27.2.2 t_free p1_cut p1_over p1_home p1_link p1_sum)
def L_Mo_doPass_6 (t_nextNode : Int32) (t_nextPart : Int32) (t_nextOver : Int32) (t_nextGain : Int32) (t_best : Nat → Int32) (p1_bounds_k : Int32) (p1_bounds_least : Nat → Int32) (p1_bounds_most : Nat → Int32) (p1_graph_size : Int32) (p1_graph_arcs : Nat → Int32) (p1_graph_weight : Nat → Int32) (p1_home : Nat → Int32) : Nat → Int32 → (Nat → Int32) → Int32 → Int32 → (Nat → Int32) → (Nat → Int32) → Option (Int32 × Int32 × Int32 × Int32 × Int32 × Int32 × Int32 × (Nat → Int32) × (Nat → Int32) × Int32 × Int32 × (Nat → Int32) × (Nat → Int32) × (Nat → Int32))
  | 0, _, _, _, _, _, _ => none
  | n + 1, x2, t_free, p1_cut, p1_over, p1_link, p1_sum =>
    if 40 ≤ x2 then
      J_Mo_doPass_25 t_nextNode t_nextPart t_nextOver t_nextGain t_best p1_bounds_k p1_bounds_least p1_bounds_most p1_graph_size p1_graph_arcs p1_graph_weight p1_home t_free p1_cut p1_over p1_link p1_sum
    else
      ck (okb x2 40) (
      L_Mo_doPass_6 t_nextNode t_nextPart t_nextOver t_nextGain t_best p1_bounds_k p1_bounds_least p1_bounds_most p1_graph_size p1_graph_arcs p1_graph_weight p1_home n (x2 + 1) (upd t_free (x2).toNatClampNeg (vp_nar .boolean 1)) p1_cut p1_over p1_link p1_sum)
def f_Mo_doPass (t_nextNode : Int32) (t_nextPart : Int32) (t_nextOver : Int32) (t_nextGain : Int32) (t_best : Nat → Int32) (t_free : Nat → Int32) (p1_bounds_k : Int32) (p1_bounds_least : Nat → Int32) (p1_bounds_most : Nat → Int32) (p1_graph_size : Int32) (p1_graph_arcs : Nat → Int32) (p1_graph_weight : Nat → Int32) (p1_home : Nat → Int32) : Option (Int32 × Int32 × Int32 × Int32 × Int32 × Int32 × Int32 × (Nat → Int32) × (Nat → Int32) × Int32 × Int32 × (Nat → Int32) × (Nat → Int32) × (Nat → Int32)) :=
  (f_Sp_recount p1_bounds_k p1_bounds_least p1_bounds_most p1_graph_size p1_graph_arcs p1_graph_weight p1_home).bind (fun r1 =>
  L_Mo_doPass_6 t_nextNode t_nextPart t_nextOver t_nextGain t_best p1_bounds_k p1_bounds_least p1_bounds_most p1_graph_size p1_graph_arcs p1_graph_weight p1_home 64 0 t_free r1.1 r1.2.1 r1.2.2.1 r1.2.2.2)
def L_Mo_doMoves_2 (p1_bounds_k : Int32) (p1_bounds_least : Nat → Int32) (p1_bounds_most : Nat → Int32) (p1_graph_size : Int32) (p1_graph_arcs : Nat → Int32) (p1_graph_weight : Nat → Int32) : Nat → Int32 → Int32 → Int32 → Int32 → Int32 → Int32 → Int32 → (Nat → Int32) → (Nat → Int32) → Int32 → Int32 → (Nat → Int32) → (Nat → Int32) → (Nat → Int32) → Option (Int32 × Int32 × Int32 × Int32 × Int32 × Int32 × Int32 × (Nat → Int32) × (Nat → Int32) × Int32 × Int32 × (Nat → Int32) × (Nat → Int32) × (Nat → Int32))
  | 0, _, _, _, _, _, _, _, _, _, _, _, _, _, _ => none
  | n + 1, x2, t_bestOver, t_bestCut, t_nextNode, t_nextPart, t_nextOver, t_nextGain, t_best, t_free, p1_cut, p1_over, p1_home, p1_link, p1_sum =>
    if 8 ≤ x2 then
      some (x2, t_bestOver, t_bestCut, t_nextNode, t_nextPart, t_nextOver, t_nextGain, t_best, t_free, p1_cut, p1_over, p1_home, p1_link, p1_sum)
    else
      (f_Mo_doPass t_nextNode t_nextPart t_nextOver t_nextGain t_best t_free p1_bounds_k p1_bounds_least p1_bounds_most p1_graph_size p1_graph_arcs p1_graph_weight p1_home).bind (fun r10 =>
      if r10.1 = 0 then
        some (x2, r10.2.1, r10.2.2.1, r10.2.2.2.1, r10.2.2.2.2.1, r10.2.2.2.2.2.1, r10.2.2.2.2.2.2.1, r10.2.2.2.2.2.2.2.1, r10.2.2.2.2.2.2.2.2.1, r10.2.2.2.2.2.2.2.2.2.1, r10.2.2.2.2.2.2.2.2.2.2.1, r10.2.2.2.2.2.2.2.2.2.2.2.1, r10.2.2.2.2.2.2.2.2.2.2.2.2.1, r10.2.2.2.2.2.2.2.2.2.2.2.2.2)
      else
        L_Mo_doMoves_2 p1_bounds_k p1_bounds_least p1_bounds_most p1_graph_size p1_graph_arcs p1_graph_weight n (x2 + 1) r10.2.1 r10.2.2.1 r10.2.2.2.1 r10.2.2.2.2.1 r10.2.2.2.2.2.1 r10.2.2.2.2.2.2.1 r10.2.2.2.2.2.2.2.1 r10.2.2.2.2.2.2.2.2.1 r10.2.2.2.2.2.2.2.2.2.1 r10.2.2.2.2.2.2.2.2.2.2.1 r10.2.2.2.2.2.2.2.2.2.2.2.1 r10.2.2.2.2.2.2.2.2.2.2.2.2.1 r10.2.2.2.2.2.2.2.2.2.2.2.2.2)
def f_Mo_doMoves (t_bestOver : Int32) (t_bestCut : Int32) (t_nextNode : Int32) (t_nextPart : Int32) (t_nextOver : Int32) (t_nextGain : Int32) (t_best : Nat → Int32) (t_free : Nat → Int32) (p1_cut : Int32) (p1_over : Int32) (p1_bounds_k : Int32) (p1_bounds_least : Nat → Int32) (p1_bounds_most : Nat → Int32) (p1_graph_size : Int32) (p1_graph_arcs : Nat → Int32) (p1_graph_weight : Nat → Int32) (p1_home : Nat → Int32) (p1_link : Nat → Int32) (p1_sum : Nat → Int32) : Option (Int32 × Int32 × Int32 × Int32 × Int32 × Int32 × Int32 × (Nat → Int32) × (Nat → Int32) × Int32 × Int32 × (Nat → Int32) × (Nat → Int32) × (Nat → Int32)) :=
  L_Mo_doMoves_2 p1_bounds_k p1_bounds_least p1_bounds_most p1_graph_size p1_graph_arcs p1_graph_weight 64 0 t_bestOver t_bestCut t_nextNode t_nextPart t_nextOver t_nextGain t_best t_free p1_cut p1_over p1_home p1_link p1_sum
