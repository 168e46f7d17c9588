def f_Le_holder (x1 : Int32) (x2 : Int32) (t_holders : Nat → Int32) : Option (Int32) :=
  ck (okb ((x1 * 40) + x2) 1600) (
  some (t_holders ((x1 * 40) + x2).toNatClampNeg))
def L_Le_drawInto_54 (x1 : Int32) (t_holders : Nat → Int32) (p2_size : Int32) (p2_arcs : Nat → Int32) (k13 : Int32 → Int32 → (Nat → Int32) → (Nat → Int32) → Option (Int32 × (Nat → Int32) × (Nat → Int32))) : Nat → Int32 → Int32 → Int32 → Int32 → (Nat → Int32) → (Nat → Int32) → Option (Int32 × (Nat → Int32) × (Nat → Int32))
  | 0, _, _, _, _, _, _ => none
  | n + 1, x4, x5, x6, p3_size, p3_arcs, p3_weight =>
    if p2_size ≤ x6 then
      k13 (x4 + 1) p3_size p3_arcs p3_weight
    else
      (f_Le_holder x1 x6 t_holders).bind (fun r67 =>
      if x5 = r67 then
        L_Le_drawInto_54 x1 t_holders p2_size p2_arcs k13 n x4 x5 (x6 + 1) p3_size p3_arcs p3_weight
      else
        (f_Gr_arcOf x4 x6 p2_arcs).bind (fun r89 =>
        (f_Gr_addArc x5 r67 r89 p3_arcs).bind (fun r92 =>
        L_Le_drawInto_54 x1 t_holders p2_size p2_arcs k13 n x4 x5 (x6 + 1) p3_size r92 p3_weight)))
def L_Le_drawInto_13 (x1 : Int32) (t_holders : Nat → Int32) (p2_size : Int32) (p2_arcs : Nat → Int32) (p2_weight : Nat → Int32) : Nat → Int32 → Int32 → (Nat → Int32) → (Nat → Int32) → Option (Int32 × (Nat → Int32) × (Nat → Int32))
  | 0, _, _, _, _ => none
  | n + 1, x4, p3_size, p3_arcs, p3_weight =>
    if p2_size ≤ x4 then
      some (p3_size, p3_arcs, p3_weight)
    else
      (f_Le_holder x1 x4 t_holders).bind (fun r26 =>
      ck (okb r26 40) (
      ck (okb x4 40) (
      ck (okb r26 40) (
      L_Le_drawInto_54 x1 t_holders p2_size p2_arcs (L_Le_drawInto_13 x1 t_holders p2_size p2_arcs p2_weight n) 64 x4 r26 (x4 + 1) p3_size p3_arcs (upd p3_weight (r26).toNatClampNeg ((p3_weight (r26).toNatClampNeg) + (p2_weight (x4).toNatClampNeg)))))))
def f_Le_drawInto (x1 : Int32) (t_holders : Nat → Int32) (t_size : Nat → Int32) (p2_size : Int32) (p2_arcs : Nat → Int32) (p2_weight : Nat → Int32) : Option (Int32 × (Nat → Int32) × (Nat → Int32)) :=
  ck (okb x1 40) (
  (f_Gr_empty (t_size (x1).toNatClampNeg)).bind (fun r7 =>
  L_Le_drawInto_13 x1 t_holders p2_size p2_arcs p2_weight 64 0 r7.1 r7.2.1 r7.2.2))
def J_Le_bestMate_108 (k12 : Int32 → Int32 → Int32 → Int32 → Option (Int32)) (y0 : Int32) (x5 : Int32) (x6 : Int32) (x7 : Int32) (x8 : Int32) (x9 : Int32) (x10 : Int32) (x11 : Int32) : Option (Int32) :=
  if x11 = 0 then
    k12 x5 x6 x7 (x8 + 1)
  else
    if y0 = 0 then
      k12 x5 x6 x7 (x8 + 1)
    else
      k12 x8 x9 x10 (x8 + 1)
def J_Le_bestMate_103 (k12 : Int32 → Int32 → Int32 → Int32 → Option (Int32)) (x5 : Int32) (x6 : Int32) (x7 : Int32) (x8 : Int32) (x9 : Int32) (x10 : Int32) (x11 : Int32) : Option (Int32) :=
  J_Le_bestMate_108 k12 1 x5 x6 x7 x8 x9 x10 x11
def J_Le_bestMate_107 (k12 : Int32 → Int32 → Int32 → Int32 → Option (Int32)) (x5 : Int32) (x6 : Int32) (x7 : Int32) (x8 : Int32) (x9 : Int32) (x10 : Int32) (x11 : Int32) : Option (Int32) :=
  J_Le_bestMate_108 k12 0 x5 x6 x7 x8 x9 x10 x11
def J_Le_bestMate_75 (k12 : Int32 → Int32 → Int32 → Int32 → Option (Int32)) (y0 : Int32) (x5 : Int32) (x6 : Int32) (x7 : Int32) (x8 : Int32) (x9 : Int32) (x10 : Int32) : Option (Int32) :=
  if x6 < x9 then
    J_Le_bestMate_103 k12 x5 x6 x7 x8 x9 x10 y0
  else
    if x9 ≤ 0 then
      J_Le_bestMate_107 k12 x5 x6 x7 x8 x9 x10 y0
    else
      if x9 = x6 then
        if x7 ≤ x10 then
          J_Le_bestMate_107 k12 x5 x6 x7 x8 x9 x10 y0
        else
          J_Le_bestMate_103 k12 x5 x6 x7 x8 x9 x10 y0
      else
        J_Le_bestMate_107 k12 x5 x6 x7 x8 x9 x10 y0
def J_Le_bestMate_43 (x2 : Int32) (x3 : Int32) (x4 : Int32) (p1_weight : Nat → Int32) (k12 : Int32 → Int32 → Int32 → Int32 → Option (Int32)) (y0 : Int32) (x5 : Int32) (x6 : Int32) (x7 : Int32) (x8 : Int32) : Option (Int32) :=
  ck (okb x8 40) (
  ck (okb x2 40) (
  if x3 < (((p1_weight (x2).toNatClampNeg) + (p1_weight (x8).toNatClampNeg)) * x4) then
    J_Le_bestMate_75 k12 0 x5 x6 x7 x8 y0 (p1_weight (x8).toNatClampNeg)
  else
    J_Le_bestMate_75 k12 1 x5 x6 x7 x8 y0 (p1_weight (x8).toNatClampNeg)))
def L_Le_bestMate_12 (x2 : Int32) (x3 : Int32) (x4 : Int32) (t_mate : Nat → Int32) (p1_size : Int32) (p1_arcs : Nat → Int32) (p1_weight : Nat → Int32) : Nat → Int32 → Int32 → Int32 → Int32 → Option (Int32)
  | 0, _, _, _, _ => none
  | n + 1, x5, x6, x7, x8 =>
    if p1_size ≤ x8 then
      some x5
    else
      ck (okb x8 40) (
      if (t_mate (x8).toNatClampNeg) = (-1) then
        (f_Gr_arcOf x2 x8 p1_arcs).bind (fun r36 =>
        J_Le_bestMate_43 x2 x3 x4 p1_weight (L_Le_bestMate_12 x2 x3 x4 t_mate p1_size p1_arcs p1_weight n) r36 x5 x6 x7 x8)
      else
        J_Le_bestMate_43 x2 x3 x4 p1_weight (L_Le_bestMate_12 x2 x3 x4 t_mate p1_size p1_arcs p1_weight n) 0 x5 x6 x7 x8)
def f_Le_bestMate (x2 : Int32) (x3 : Int32) (x4 : Int32) (t_mate : Nat → Int32) (p1_size : Int32) (p1_arcs : Nat → Int32) (p1_weight : Nat → Int32) : Option (Int32) :=
  L_Le_bestMate_12 x2 x3 x4 t_mate p1_size p1_arcs p1_weight 64 (-1) 0 0 0
def J_Le_joinAll_54 (k19 : Int32 → Int32 → Int32 → (Nat → Int32) → Option (Int32 × (Nat → Int32))) (y0 : Int32) (x3 : Int32) (x4 : Int32) (x5 : Int32) (t_mate : Nat → Int32) : Option (Int32 × (Nat → Int32)) :=
  if y0 = (-1) then
    k19 x3 x4 (x5 + 1) t_mate
  else
    ck (okb x5 40) (
    ck (okb y0 40) (
    k19 x3 1 (x5 + 1) (upd (upd t_mate (x5).toNatClampNeg y0) (y0).toNatClampNeg x5)))
def L_Le_joinAll_19 (x2 : Int32) (p1_size : Int32) (p1_arcs : Nat → Int32) (p1_weight : Nat → Int32) : Nat → Int32 → Int32 → Int32 → (Nat → Int32) → Option (Int32 × (Nat → Int32))
  | 0, _, _, _, _ => none
  | n + 1, x3, x4, x5, t_mate =>
    if p1_size ≤ x5 then
      ck (okB x4) (
      some (x4, t_mate))
    else
      ck (okb x5 40) (
      if (t_mate (x5).toNatClampNeg) = (-1) then
        (f_Le_bestMate x5 x3 (2 * x2) t_mate p1_size p1_arcs p1_weight).bind (fun r47 =>
        J_Le_joinAll_54 (L_Le_joinAll_19 x2 p1_size p1_arcs p1_weight n) r47 x3 x4 x5 t_mate)
      else
        J_Le_joinAll_54 (L_Le_joinAll_19 x2 p1_size p1_arcs p1_weight n) (-1) x3 x4 x5 t_mate)
def f_Le_joinAll (x2 : Int32) (p1_size : Int32) (p1_arcs : Nat → Int32) (p1_weight : Nat → Int32) : Option (Int32 × (Nat → Int32)) :=
  (f_Gr_total p1_size p1_weight).bind (fun r9 =>
  L_Le_joinAll_19 x2 p1_size p1_arcs p1_weight 64 r9 0 0 (fun _ => -1))
def J_Le_numberJoined_61 (k4 : Int32 → Int32 → (Nat → Int32) → Option (Int32 × (Nat → Int32))) (y1 : Int32) (y2 : Int32) (x2 : Int32) (x3 : Int32) (x4 : Int32) (t_number : Nat → Int32) : Option (Int32 × (Nat → Int32)) :=
  ck (okb y1 40) (
  if x4 = 0 then
    k4 (x2 + 0) (x3 + 1) (upd t_number (y1).toNatClampNeg y2)
  else
    k4 (x2 + 1) (x3 + 1) (upd t_number (y1).toNatClampNeg y2))
def J_Le_numberJoined_34 (t_mate : Nat → Int32) (k4 : Int32 → Int32 → (Nat → Int32) → Option (Int32 × (Nat → Int32))) (y0 : Int32) (x2 : Int32) (x3 : Int32) (t_number : Nat → Int32) : Option (Int32 × (Nat → Int32)) :=
  if y0 = 0 then
    ck (okb x3 40) (
    ck (okb (t_mate (x3).toNatClampNeg) 40) (
    J_Le_numberJoined_61 k4 x3 (t_number (t_mate (x3).toNatClampNeg).toNatClampNeg) x2 x3 y0 t_number))
  else
    J_Le_numberJoined_61 k4 x3 x2 x2 x3 y0 t_number
def J_Le_numberJoined_29 (t_mate : Nat → Int32) (k4 : Int32 → Int32 → (Nat → Int32) → Option (Int32 × (Nat → Int32))) (x2 : Int32) (x3 : Int32) (t_number : Nat → Int32) : Option (Int32 × (Nat → Int32)) :=
  J_Le_numberJoined_34 t_mate k4 1 x2 x3 t_number
def L_Le_numberJoined_4 (x1 : Int32) (t_mate : Nat → Int32) : Nat → Int32 → Int32 → (Nat → Int32) → Option (Int32 × (Nat → Int32))
  | 0, _, _, _ => none
  | n + 1, x2, x3, t_number =>
    if x1 ≤ x3 then
      some (x2, t_number)
    else
      ck (okb x3 40) (
      if (t_mate (x3).toNatClampNeg) = (-1) then
        J_Le_numberJoined_29 t_mate (L_Le_numberJoined_4 x1 t_mate n) x2 x3 t_number
      else
        ck (okb x3 40) (
        if (t_mate (x3).toNatClampNeg) ≤ x3 then
          J_Le_numberJoined_34 t_mate (L_Le_numberJoined_4 x1 t_mate n) 0 x2 x3 t_number
        else
          J_Le_numberJoined_29 t_mate (L_Le_numberJoined_4 x1 t_mate n) x2 x3 t_number))
def f_Le_numberJoined (x1 : Int32) (t_mate : Nat → Int32) (t_number : Nat → Int32) : Option (Int32 × (Nat → Int32)) :=
  L_Le_numberJoined_4 x1 t_mate 64 0 0 t_number
def L_Le_makeLevel_55 (x1 : Int32) (p2_size : Int32) : Nat → Int32 → (Nat → Int32) → (Nat → Int32) → (Nat → Int32) → (Nat → Int32) → Int32 → (Nat → Int32) → (Nat → Int32) → Option (Int32 × (Nat → Int32) × (Nat → Int32) × (Nat → Int32) × (Nat → Int32) × Int32 × (Nat → Int32) × (Nat → Int32))
  | 0, _, _, _, _, _, _, _, _ => none
  | n + 1, x5, t_holders, t_mate, t_number, t_size, p4_size, p4_arcs, p4_weight =>
    if p2_size ≤ x5 then
      some (1, t_holders, t_mate, t_number, t_size, p4_size, p4_arcs, p4_weight)
    else
      (f_Le_holder (x1 - 1) x5 t_holders).bind (fun r85 =>
      ck (okb r85 40) (
      ck (okb ((x1 * 40) + x5) 1600) (
      L_Le_makeLevel_55 x1 p2_size n (x5 + 1) (upd t_holders ((x1 * 40) + x5).toNatClampNeg (t_number (r85).toNatClampNeg)) t_mate t_number t_size p4_size p4_arcs p4_weight)))
def f_Le_makeLevel (x1 : Int32) (x3 : Int32) (t_holders : Nat → Int32) (t_mate : Nat → Int32) (t_number : Nat → Int32) (t_size : Nat → Int32) (p2_size : Int32) (p2_arcs : Nat → Int32) (p2_weight : Nat → Int32) (p4_size : Int32) (p4_arcs : Nat → Int32) (p4_weight : Nat → Int32) : Option (Int32 × (Nat → Int32) × (Nat → Int32) × (Nat → Int32) × (Nat → Int32) × Int32 × (Nat → Int32) × (Nat → Int32)) :=
  ck (okb (x1 - 1) 40) (
  if 6 < (t_size (x1 - 1).toNatClampNeg) then
    (f_Le_drawInto (x1 - 1) t_holders t_size p2_size p2_arcs p2_weight).bind (fun r22 =>
    (f_Le_joinAll x3 r22.1 r22.2.1 r22.2.2).bind (fun r29 =>
    if r29.1 = 0 then
      some (0, t_holders, r29.2, t_number, t_size, r22.1, r22.2.1, r22.2.2)
    else
      (f_Le_numberJoined r22.1 r29.2 t_number).bind (fun r48 =>
      ck (okb x1 40) (
      L_Le_makeLevel_55 x1 p2_size 64 0 t_holders r29.2 r48.2 (upd t_size (x1).toNatClampNeg r48.1) r22.1 r22.2.1 r22.2.2))))
  else
    some (0, t_holders, t_mate, t_number, t_size, p4_size, p4_arcs, p4_weight))
def L_Le_renew_58 (x2 : Int32) (p1_size : Int32) (p1_arcs : Nat → Int32) (p1_weight : Nat → Int32) : Nat → Int32 → Int32 → Int32 → (Nat → Int32) → (Nat → Int32) → (Nat → Int32) → (Nat → Int32) → Int32 → (Nat → Int32) → (Nat → Int32) → Option (Int32 × Int32 × (Nat → Int32) × (Nat → Int32) × (Nat → Int32) × (Nat → Int32) × Int32 × (Nat → Int32) × (Nat → Int32))
  | 0, _, _, _, _, _, _, _, _, _, _ => none
  | n + 1, x4, t_fresh, t_count, t_holders, t_mate, t_number, t_size, p3_size, p3_arcs, p3_weight =>
    if 40 ≤ x4 then
      some (t_fresh, t_count, t_holders, t_mate, t_number, t_size, p3_size, p3_arcs, p3_weight)
    else
      (f_Le_makeLevel x4 x2 t_holders t_mate t_number t_size p1_size p1_arcs p1_weight p3_size p3_arcs p3_weight).bind (fun r71 =>
      if r71.1 = 0 then
        some (t_fresh, t_count, r71.2.1, r71.2.2.1, r71.2.2.2.1, r71.2.2.2.2.1, r71.2.2.2.2.2.1, r71.2.2.2.2.2.2.1, r71.2.2.2.2.2.2.2)
      else
        L_Le_renew_58 x2 p1_size p1_arcs p1_weight n (x4 + 1) t_fresh (x4 + 1) r71.2.1 r71.2.2.1 r71.2.2.2.1 r71.2.2.2.2.1 r71.2.2.2.2.2.1 r71.2.2.2.2.2.2.1 r71.2.2.2.2.2.2.2)
def L_Le_renew_31 (x2 : Int32) (t_mate : Nat → Int32) (t_number : Nat → Int32) (p1_size : Int32) (p1_arcs : Nat → Int32) (p1_weight : Nat → Int32) (p3_size : Int32) (p3_arcs : Nat → Int32) (p3_weight : Nat → Int32) : Nat → Int32 → Int32 → Int32 → (Nat → Int32) → (Nat → Int32) → Option (Int32 × Int32 × (Nat → Int32) × (Nat → Int32) × (Nat → Int32) × (Nat → Int32) × Int32 × (Nat → Int32) × (Nat → Int32))
  | 0, _, _, _, _, _ => none
  | n + 1, x4, t_fresh, t_count, t_holders, t_size =>
    if p1_size ≤ x4 then
      L_Le_renew_58 x2 p1_size p1_arcs p1_weight 64 1 t_fresh t_count t_holders t_mate t_number t_size p3_size p3_arcs p3_weight
    else
      ck (okb x4 1600) (
      L_Le_renew_31 x2 t_mate t_number p1_size p1_arcs p1_weight p3_size p3_arcs p3_weight n (x4 + 1) t_fresh t_count (upd t_holders (x4).toNatClampNeg x4) t_size)
def f_Le_renew (x2 : Int32) (t_fresh : Int32) (t_count : Int32) (t_holders : Nat → Int32) (t_mate : Nat → Int32) (t_number : Nat → Int32) (t_size : Nat → Int32) (p1_size : Int32) (p1_arcs : Nat → Int32) (p1_weight : Nat → Int32) (p3_size : Int32) (p3_arcs : Nat → Int32) (p3_weight : Nat → Int32) : Option (Int32 × Int32 × (Nat → Int32) × (Nat → Int32) × (Nat → Int32) × (Nat → Int32) × Int32 × (Nat → Int32) × (Nat → Int32)) :=
  if t_fresh = 0 then
    ck (okb 0 40) (
    L_Le_renew_31 x2 t_mate t_number p1_size p1_arcs p1_weight p3_size p3_arcs p3_weight 64 0 1 1 t_holders (upd t_size (0 : Int32).toNatClampNeg p1_size))
  else
    some (t_fresh, t_count, t_holders, t_mate, t_number, t_size, p3_size, p3_arcs, p3_weight)
def L_Le_bringDown_3 (x1 : Int32) (x4 : Int32) (t_holders : Nat → Int32) (p2 : Nat → Int32) : Nat → Int32 → (Nat → Int32) → Option ((Nat → Int32))
  | 0, _, _ => none
  | n + 1, x5, p3 =>
    if x4 ≤ x5 then
      some p3
    else
      (f_Le_holder x1 x5 t_holders).bind (fun r15 =>
      ck (okb x5 40) (
      ck (okb r15 40) (
      L_Le_bringDown_3 x1 x4 t_holders p2 n (x5 + 1) (upd p3 (r15).toNatClampNeg (p2 (x5).toNatClampNeg)))))
def f_Le_bringDown (x1 : Int32) (x4 : Int32) (t_holders : Nat → Int32) (p2 : Nat → Int32) (p3 : Nat → Int32) : Option ((Nat → Int32)) :=
  L_Le_bringDown_3 x1 x4 t_holders p2 64 0 p3
def L_Le_bringUp_3 (x1 : Int32) (x4 : Int32) (t_holders : Nat → Int32) (p2 : Nat → Int32) : Nat → Int32 → (Nat → Int32) → Option ((Nat → Int32))
  | 0, _, _ => none
  | n + 1, x5, p3 =>
    if x4 ≤ x5 then
      some p3
    else
      (f_Le_holder x1 x5 t_holders).bind (fun r18 =>
      ck (okb r18 40) (
      ck (okb x5 40) (
      L_Le_bringUp_3 x1 x4 t_holders p2 n (x5 + 1) (upd p3 (x5).toNatClampNeg (p2 (r18).toNatClampNeg)))))
def f_Le_bringUp (x1 : Int32) (x4 : Int32) (t_holders : Nat → Int32) (p2 : Nat → Int32) (p3 : Nat → Int32) : Option ((Nat → Int32)) :=
  L_Le_bringUp_3 x1 x4 t_holders p2 64 0 p3
