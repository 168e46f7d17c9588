def f_Di_isCut (x1 : Int32) (x2 : Int32) (p0_graph_arcs : Nat → Int32) (p0_home : Nat → Int32) : Option (Int32) :=
  (f_Gr_arcOf x1 x2 p0_graph_arcs).bind (fun r6 =>
  if r6 ≤ 0 then
    some 0
  else
    ck (okb x1 40) (
    ck (okb x2 40) (
    if (p0_home (x1).toNatClampNeg) = (p0_home (x2).toNatClampNeg) then
      some 0
    else
      some 1)))
def L_Di_start_26 (t_nodes : Int32) (p1_graph_arcs : Nat → Int32) (p1_home : Nat → Int32) (k2 : Int32 → (Nat → Int32) → (Nat → Int32) → Option ((Nat → Int32) × (Nat → Int32))) : Nat → Int32 → Int32 → (Nat → Int32) → (Nat → Int32) → Option ((Nat → Int32) × (Nat → Int32))
  | 0, _, _, _, _ => none
  | n + 1, x2, x3, t_inside, t_open =>
    if t_nodes ≤ x3 then
      k2 (x2 + 1) t_inside t_open
    else
      (f_Di_isCut x2 x3 p1_graph_arcs p1_home).bind (fun r37 =>
      if r37 = 0 then
        L_Di_start_26 t_nodes p1_graph_arcs p1_home k2 n x2 (x3 + 1) t_inside t_open
      else
        ck (okb x2 40) (
        ck (okb x2 40) (
        L_Di_start_26 t_nodes p1_graph_arcs p1_home k2 n x2 (x3 + 1) t_inside (upd t_open (x2).toNatClampNeg ((t_open (x2).toNatClampNeg) + 1)))))
def L_Di_start_2 (t_nodes : Int32) (p1_graph_arcs : Nat → Int32) (p1_home : Nat → Int32) : Nat → Int32 → (Nat → Int32) → (Nat → Int32) → Option ((Nat → Int32) × (Nat → Int32))
  | 0, _, _, _ => none
  | n + 1, x2, t_inside, t_open =>
    if t_nodes ≤ x2 then
      some (t_inside, t_open)
    else
      ck (okb x2 40) (
      ck (okb x2 40) (
      L_Di_start_26 t_nodes p1_graph_arcs p1_home (L_Di_start_2 t_nodes p1_graph_arcs p1_home n) 64 x2 0 (upd t_inside (x2).toNatClampNeg (vp_nar .boolean 0)) (upd t_open (x2).toNatClampNeg 0)))
def f_Di_start (t_nodes : Int32) (t_inside : Nat → Int32) (t_open : Nat → Int32) (p1_graph_arcs : Nat → Int32) (p1_home : Nat → Int32) : Option ((Nat → Int32) × (Nat → Int32)) :=
  L_Di_start_2 t_nodes p1_graph_arcs p1_home 64 0 t_inside t_open
def J_Di_busiest_32 (t_open : Nat → Int32) (k4 : Int32 → Int32 → Option (Int32)) (y0 : Int32) (x2 : Int32) (x3 : Int32) : Option (Int32) :=
  ck (okb x3 40) (
  ck (okb x2 40) (
  if (t_open (x2).toNatClampNeg) < (t_open (x3).toNatClampNeg) then
    k4 x3 (x3 + 1)
  else
    ck (okb x3 40) (
    ck (okb x2 40) (
    if (t_open (x3).toNatClampNeg) = (t_open (x2).toNatClampNeg) then
      if y0 = 0 then
        k4 x2 (x3 + 1)
      else
        k4 x3 (x3 + 1)
    else
      k4 x2 (x3 + 1)))))
def L_Di_busiest_4 (t_nodes : Int32) (t_open : Nat → Int32) (p1_weight : Nat → Int32) : Nat → Int32 → Int32 → Option (Int32)
  | 0, _, _ => none
  | n + 1, x2, x3 =>
    if t_nodes ≤ x3 then
      some x2
    else
      ck (okb x3 40) (
      ck (okb x2 40) (
      if (p1_weight (x2).toNatClampNeg) ≤ (p1_weight (x3).toNatClampNeg) then
        J_Di_busiest_32 t_open (L_Di_busiest_4 t_nodes t_open p1_weight n) 0 x2 x3
      else
        J_Di_busiest_32 t_open (L_Di_busiest_4 t_nodes t_open p1_weight n) 1 x2 x3))
def f_Di_busiest (t_nodes : Int32) (t_open : Nat → Int32) (p1_weight : Nat → Int32) : Option (Int32) :=
  L_Di_busiest_4 t_nodes t_open p1_weight 64 0 1
def L_Di_takeIn_16 (x2 : Int32) (t_nodes : Int32) (p1_graph_arcs : Nat → Int32) (p1_home : Nat → Int32) : Nat → Int32 → (Nat → Int32) → (Nat → Int32) → Option ((Nat → Int32) × (Nat → Int32))
  | 0, _, _, _ => none
  | n + 1, x3, t_inside, t_open =>
    if t_nodes ≤ x3 then
      some (t_inside, t_open)
    else
      ck (okb x3 40) (
      if (t_inside (x3).toNatClampNeg) = 0 then
        (f_Di_isCut x2 x3 p1_graph_arcs p1_home).bind (fun r36 =>
        if r36 = 0 then
          L_Di_takeIn_16 x2 t_nodes p1_graph_arcs p1_home n (x3 + 1) t_inside t_open
        else
          ck (okb x3 40) (
          ck (okb x3 40) (
          L_Di_takeIn_16 x2 t_nodes p1_graph_arcs p1_home n (x3 + 1) t_inside (upd t_open (x3).toNatClampNeg ((t_open (x3).toNatClampNeg) - 1)))))
      else
        L_Di_takeIn_16 x2 t_nodes p1_graph_arcs p1_home n (x3 + 1) t_inside t_open)
def f_Di_takeIn (x2 : Int32) (t_nodes : Int32) (t_inside : Nat → Int32) (t_open : Nat → Int32) (p1_graph_arcs : Nat → Int32) (p1_home : Nat → Int32) : Option ((Nat → Int32) × (Nat → Int32)) :=
  ck (okb x2 40) (
  ck (okb x2 40) (
  L_Di_takeIn_16 x2 t_nodes p1_graph_arcs p1_home 64 0 (upd t_inside (x2).toNatClampNeg (vp_nar .boolean 1)) (upd t_open (x2).toNatClampNeg 0)))
def L_Di_isNeeded_2 (x2 : Int32) (t_nodes : Int32) (t_inside : Nat → Int32) (p1_graph_arcs : Nat → Int32) (p1_home : Nat → Int32) : Nat → Int32 → Option (Int32)
  | 0, _ => none
  | n + 1, x3 =>
    if t_nodes ≤ x3 then
      some 0
    else
      ck (okb x3 40) (
      if (t_inside (x3).toNatClampNeg) = 0 then
        (f_Di_isCut x2 x3 p1_graph_arcs p1_home).bind (fun r22 =>
        if r22 = 0 then
          L_Di_isNeeded_2 x2 t_nodes t_inside p1_graph_arcs p1_home n (x3 + 1)
        else
          some 1)
      else
        L_Di_isNeeded_2 x2 t_nodes t_inside p1_graph_arcs p1_home n (x3 + 1))
def f_Di_isNeeded (x2 : Int32) (t_nodes : Int32) (t_inside : Nat → Int32) (p1_graph_arcs : Nat → Int32) (p1_home : Nat → Int32) : Option (Int32) :=
  L_Di_isNeeded_2 x2 t_nodes t_inside p1_graph_arcs p1_home 64 0
def L_Di_find_63 (p1_graph_arcs : Nat → Int32) (p1_home : Nat → Int32) : Nat → Int32 → Int32 → (Nat → Int32) → (Nat → Int32) → Option (Int32 × (Nat → Int32) × (Nat → Int32))
  | 0, _, _, _, _ => none
  | n + 1, x2, t_nodes, t_inside, t_open =>
    if x2 < 0 then
      some (t_nodes, t_inside, t_open)
    else
      ck (okb x2 40) (
      if (t_inside (x2).toNatClampNeg) = 0 then
        ck (okb x2 40) (
        L_Di_find_63 p1_graph_arcs p1_home n (x2 + (-1)) t_nodes (upd t_inside (x2).toNatClampNeg (vp_nar .boolean 0)) t_open)
      else
        (f_Di_isNeeded x2 t_nodes t_inside p1_graph_arcs p1_home).bind (fun r84 =>
        if r84 = 0 then
          ck (okb x2 40) (
          L_Di_find_63 p1_graph_arcs p1_home n (x2 + (-1)) t_nodes (upd t_inside (x2).toNatClampNeg (vp_nar .boolean 0)) t_open)
        else
          ck (okb x2 40) (
          L_Di_find_63 p1_graph_arcs p1_home n (x2 + (-1)) t_nodes (upd t_inside (x2).toNatClampNeg (vp_nar .boolean 1)) t_open)))
def L_Di_find_18 (p1_graph_arcs : Nat → Int32) (p1_graph_weight : Nat → Int32) (p1_home : Nat → Int32) : Nat → Int32 → Int32 → (Nat → Int32) → (Nat → Int32) → Option (Int32 × (Nat → Int32) × (Nat → Int32))
  | 0, _, _, _, _ => none
  | n + 1, x2, t_nodes, t_inside, t_open =>
    if t_nodes ≤ x2 then
      L_Di_find_63 p1_graph_arcs p1_home 64 (t_nodes - 1) t_nodes t_inside t_open
    else
      (f_Di_busiest t_nodes t_open p1_graph_weight).bind (fun r31 =>
      ck (okb r31 40) (
      if (t_open (r31).toNatClampNeg) ≤ 0 then
        L_Di_find_18 p1_graph_arcs p1_graph_weight p1_home n (x2 + 1) t_nodes t_inside t_open
      else
        (f_Di_takeIn r31 t_nodes t_inside t_open p1_graph_arcs p1_home).bind (fun r47 =>
        L_Di_find_18 p1_graph_arcs p1_graph_weight p1_home n (x2 + 1) t_nodes r47.1 r47.2)))
def f_Di_find (t_inside : Nat → Int32) (t_open : Nat → Int32) (p1_graph_size : Int32) (p1_graph_arcs : Nat → Int32) (p1_graph_weight : Nat → Int32) (p1_home : Nat → Int32) : Option (Int32 × (Nat → Int32) × (Nat → Int32)) :=
  (f_Di_start p1_graph_size t_inside t_open p1_graph_arcs p1_home).bind (fun r13 =>
  L_Di_find_18 p1_graph_arcs p1_graph_weight p1_home 64 0 p1_graph_size r13.1 r13.2)
def L_Di_held_4 (t_nodes : Int32) (t_inside : Nat → Int32) : Nat → Int32 → Int32 → Option (Int32)
  | 0, _, _ => none
  | n + 1, x1, x2 =>
    if t_nodes ≤ x2 then
      some x1
    else
      ck (okb x2 40) (
      if (t_inside (x2).toNatClampNeg) = 0 then
        L_Di_held_4 t_nodes t_inside n (x1 + 0) (x2 + 1)
      else
        L_Di_held_4 t_nodes t_inside n (x1 + 1) (x2 + 1))
def f_Di_held (t_nodes : Int32) (t_inside : Nat → Int32) : Option (Int32) :=
  L_Di_held_4 t_nodes t_inside 64 0 0
def L_Di_nodeAt_4 (x1 : Int32) (t_nodes : Int32) (t_inside : Nat → Int32) : Nat → Int32 → Int32 → Option (Int32)
  | 0, _, _ => none
  | n + 1, x2, x3 =>
    if t_nodes ≤ x3 then
      some (-2)
    else
      ck (okb x3 40) (
      if (t_inside (x3).toNatClampNeg) = 0 then
        L_Di_nodeAt_4 x1 t_nodes t_inside n x2 (x3 + 1)
      else
        if x2 = x1 then
          some x3
        else
          L_Di_nodeAt_4 x1 t_nodes t_inside n (x2 + 1) (x3 + 1))
def f_Di_nodeAt (x1 : Int32) (t_nodes : Int32) (t_inside : Nat → Int32) : Option (Int32) :=
  L_Di_nodeAt_4 x1 t_nodes t_inside 64 0 0
