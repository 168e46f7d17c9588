def f_Gr_has (x1 : Int32) (t_size : Int32) : Option (Int32) :=
  if x1 < 0 then
    some 0
  else
    if t_size ≤ x1 then
      some 0
    else
      some 1
def f_Gr_empty (x1 : Int32) : Option (Int32 × (Nat → Int32) × (Nat → Int32)) :=
  some (x1, fun _ => 0, fun _ => 0)
def f_Gr_arcOf (x1 : Int32) (x2 : Int32) (t_arcs : Nat → Int32) : Option (Int32) :=
  ck (okb ((x1 * 40) + x2) 1600) (
  some (t_arcs ((x1 * 40) + x2).toNatClampNeg))
def f_Gr_addArc (x1 : Int32) (x2 : Int32) (x3 : Int32) (t_arcs : Nat → Int32) : Option ((Nat → Int32)) :=
  ck (okb ((x1 * 40) + x2) 1600) (
  ck (okb ((x1 * 40) + x2) 1600) (
  ck (okb ((x2 * 40) + x1) 1600) (
  ck (okb ((x2 * 40) + x1) 1600) (
  some (upd (upd t_arcs ((x1 * 40) + x2).toNatClampNeg ((t_arcs ((x1 * 40) + x2).toNatClampNeg) + x3)) ((x2 * 40) + x1).toNatClampNeg (((upd t_arcs ((x1 * 40) + x2).toNatClampNeg ((t_arcs ((x1 * 40) + x2).toNatClampNeg) + x3)) ((x2 * 40) + x1).toNatClampNeg) + x3))))))
def L_Gr_total_4 (t_size : Int32) (t_weight : Nat → Int32) : Nat → Int32 → Int32 → Option (Int32)
  | 0, _, _ => none
  | n + 1, x1, x2 =>
    if t_size ≤ x2 then
      some x1
    else
      ck (okb x2 40) (
      L_Gr_total_4 t_size t_weight n (x1 + (t_weight (x2).toNatClampNeg)) (x2 + 1))
def f_Gr_total (t_size : Int32) (t_weight : Nat → Int32) : Option (Int32) :=
  L_Gr_total_4 t_size t_weight 64 0 0
def L_Gr_neighbours_4 (x1 : Int32) (t_size : Int32) (t_arcs : Nat → Int32) : Nat → Int32 → Int32 → Option (Int32)
  | 0, _, _ => none
  | n + 1, x2, x3 =>
    if t_size ≤ x3 then
      some x2
    else
      (f_Gr_arcOf x1 x3 t_arcs).bind (fun r15 =>
      if r15 ≤ 0 then
        L_Gr_neighbours_4 x1 t_size t_arcs n x2 (x3 + 1)
      else
        L_Gr_neighbours_4 x1 t_size t_arcs n (x2 + 1) (x3 + 1))
def f_Gr_neighbours (x1 : Int32) (t_size : Int32) (t_arcs : Nat → Int32) : Option (Int32) :=
  L_Gr_neighbours_4 x1 t_size t_arcs 64 0 0
def L_Gr_arcCount_4 (t_size : Int32) (t_arcs : Nat → Int32) : Nat → Int32 → Int32 → Option (Int32)
  | 0, _, _ => none
  | n + 1, x1, x2 =>
    if t_size ≤ x2 then
      some (x1 >>> (1 &&& 31))
    else
      (f_Gr_neighbours x2 t_size t_arcs).bind (fun r15 =>
      L_Gr_arcCount_4 t_size t_arcs n (x1 + r15) (x2 + 1))
def f_Gr_arcCount (t_size : Int32) (t_arcs : Nat → Int32) : Option (Int32) :=
  L_Gr_arcCount_4 t_size t_arcs 64 0 0
def L_Gr_arcSum_16 (t_size : Int32) (t_arcs : Nat → Int32) (k4 : Int32 → Int32 → Option (Int32)) : Nat → Int32 → Int32 → Int32 → Option (Int32)
  | 0, _, _, _ => none
  | n + 1, x1, x2, x3 =>
    if t_size ≤ x3 then
      k4 x1 (x2 + 1)
    else
      (f_Gr_arcOf x2 x3 t_arcs).bind (fun r28 =>
      L_Gr_arcSum_16 t_size t_arcs k4 n (x1 + r28) x2 (x3 + 1))
def L_Gr_arcSum_4 (t_size : Int32) (t_arcs : Nat → Int32) : Nat → Int32 → Int32 → Option (Int32)
  | 0, _, _ => none
  | n + 1, x1, x2 =>
    if t_size ≤ x2 then
      some x1
    else
      L_Gr_arcSum_16 t_size t_arcs (L_Gr_arcSum_4 t_size t_arcs n) 64 x1 x2 (x2 + 1)
def f_Gr_arcSum (t_size : Int32) (t_arcs : Nat → Int32) : Option (Int32) :=
  L_Gr_arcSum_4 t_size t_arcs 64 0 0
