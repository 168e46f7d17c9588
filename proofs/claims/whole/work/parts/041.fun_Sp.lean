def L_Sp_recountLinks_2 (x1 : Int32) (t_graph_size : Int32) (t_graph_arcs : Nat → Int32) (t_home : Nat → Int32) : Nat → Int32 → Int32 → (Nat → Int32) → Option (Int32 × (Nat → Int32))
  | 0, _, _, _ => none
  | n + 1, x2, t_cut, t_link =>
    if t_graph_size ≤ x2 then
      some (t_cut, t_link)
    else
      (f_Gr_arcOf x1 x2 t_graph_arcs).bind (fun r19 =>
      ck (okb x2 40) (
      ck (okb ((x1 * 4) + (t_home (x2).toNatClampNeg)) 160) (
      ck (okb ((x1 * 4) + (t_home (x2).toNatClampNeg)) 160) (
      if x1 ≤ x2 then
        L_Sp_recountLinks_2 x1 t_graph_size t_graph_arcs t_home n (x2 + 1) t_cut (upd t_link ((x1 * 4) + (t_home (x2).toNatClampNeg)).toNatClampNeg ((t_link ((x1 * 4) + (t_home (x2).toNatClampNeg)).toNatClampNeg) + r19))
      else
        ck (okb x2 40) (
        ck (okb x1 40) (
        if (t_home (x2).toNatClampNeg) = (t_home (x1).toNatClampNeg) then
          L_Sp_recountLinks_2 x1 t_graph_size t_graph_arcs t_home n (x2 + 1) t_cut (upd t_link ((x1 * 4) + (t_home (x2).toNatClampNeg)).toNatClampNeg ((t_link ((x1 * 4) + (t_home (x2).toNatClampNeg)).toNatClampNeg) + r19))
        else
          L_Sp_recountLinks_2 x1 t_graph_size t_graph_arcs t_home n (x2 + 1) (t_cut + r19) (upd t_link ((x1 * 4) + (t_home (x2).toNatClampNeg)).toNatClampNeg ((t_link ((x1 * 4) + (t_home (x2).toNatClampNeg)).toNatClampNeg) + r19))))))))
def f_Sp_recountLinks (x1 : Int32) (t_cut : Int32) (t_graph_size : Int32) (t_graph_arcs : Nat → Int32) (t_home : Nat → Int32) (t_link : Nat → Int32) : Option (Int32 × (Nat → Int32)) :=
  L_Sp_recountLinks_2 x1 t_graph_size t_graph_arcs t_home 64 0 t_cut t_link
def L_Sp_recount_75 (t_bounds_k : Int32) (t_bounds_least : Nat → Int32) (t_bounds_most : Nat → Int32) : Nat → Int32 → Int32 → Int32 → (Nat → Int32) → (Nat → Int32) → Option (Int32 × Int32 × (Nat → Int32) × (Nat → Int32))
  | 0, _, _, _, _, _ => none
  | n + 1, x1, t_cut, t_over, t_link, t_sum =>
    if t_bounds_k ≤ x1 then
      some (t_cut, t_over, t_link, t_sum)
    else
      ck (okb x1 4) (
      (f_Bo_miss x1 (t_sum (x1).toNatClampNeg) t_bounds_least t_bounds_most).bind (fun r102 =>
      L_Sp_recount_75 t_bounds_k t_bounds_least t_bounds_most n (x1 + 1) t_cut (t_over + r102) t_link t_sum))
def L_Sp_recount_23 (t_bounds_k : Int32) (t_bounds_least : Nat → Int32) (t_bounds_most : Nat → Int32) (t_graph_size : Int32) (t_graph_arcs : Nat → Int32) (t_graph_weight : Nat → Int32) (t_home : Nat → Int32) : Nat → Int32 → Int32 → (Nat → Int32) → (Nat → Int32) → Option (Int32 × Int32 × (Nat → Int32) × (Nat → Int32))
  | 0, _, _, _, _ => none
  | n + 1, x1, t_cut, t_link, t_sum =>
    if t_graph_size ≤ x1 then
      L_Sp_recount_75 t_bounds_k t_bounds_least t_bounds_most 64 0 t_cut 0 t_link t_sum
    else
      ck (okb x1 40) (
      ck (okb (t_home (x1).toNatClampNeg) 4) (
      ck (okb x1 40) (
      ck (okb (t_home (x1).toNatClampNeg) 4) (
      (f_Sp_recountLinks x1 t_cut t_graph_size t_graph_arcs t_home t_link).bind (fun r59 =>
      L_Sp_recount_23 t_bounds_k t_bounds_least t_bounds_most t_graph_size t_graph_arcs t_graph_weight t_home n (x1 + 1) r59.1 r59.2 (upd t_sum (t_home (x1).toNatClampNeg).toNatClampNeg ((t_sum (t_home (x1).toNatClampNeg).toNatClampNeg) + (t_graph_weight (x1).toNatClampNeg))))))))
def f_Sp_recount (t_bounds_k : Int32) (t_bounds_least : Nat → Int32) (t_bounds_most : Nat → Int32) (t_graph_size : Int32) (t_graph_arcs : Nat → Int32) (t_graph_weight : Nat → Int32) (t_home : Nat → Int32) : Option (Int32 × Int32 × (Nat → Int32) × (Nat → Int32)) :=
  L_Sp_recount_23 t_bounds_k t_bounds_least t_bounds_most t_graph_size t_graph_arcs t_graph_weight t_home 64 0 0 (fun _ => 0) (fun _ => 0)
def f_Sp_overBehind (x1 : Int32) (x2 : Int32) (t_over : Int32) (t_bounds_least : Nat → Int32) (t_bounds_most : Nat → Int32) (t_graph_weight : Nat → Int32) (t_home : Nat → Int32) (t_sum : Nat → Int32) : Option (Int32) :=
  ck (okb x1 40) (
  if (t_home (x1).toNatClampNeg) = x2 then
    some t_over
  else
    ck (okb x1 40) (
    ck (okb (t_home (x1).toNatClampNeg) 4) (
    (f_Bo_miss (t_home (x1).toNatClampNeg) (t_sum (t_home (x1).toNatClampNeg).toNatClampNeg) t_bounds_least t_bounds_most).bind (fun r43 =>
    ck (okb x2 4) (
    (f_Bo_miss x2 (t_sum (x2).toNatClampNeg) t_bounds_least t_bounds_most).bind (fun r58 =>
    ck (okb (t_home (x1).toNatClampNeg) 4) (
    (f_Bo_miss (t_home (x1).toNatClampNeg) ((t_sum (t_home (x1).toNatClampNeg).toNatClampNeg) - (t_graph_weight (x1).toNatClampNeg)) t_bounds_least t_bounds_most).bind (fun r76 =>
    ck (okb x2 4) (
    (f_Bo_miss x2 ((t_sum (x2).toNatClampNeg) + (t_graph_weight (x1).toNatClampNeg)) t_bounds_least t_bounds_most).bind (fun r94 =>
    some ((((t_over - r43) - r58) + r76) + r94)))))))))))
def f_Sp_gainOf (x1 : Int32) (x2 : Int32) (t_home : Nat → Int32) (t_link : Nat → Int32) : Option (Int32) :=
  ck (okb ((x1 * 4) + x2) 160) (
  ck (okb x1 40) (
  ck (okb ((x1 * 4) + (t_home (x1).toNatClampNeg)) 160) (
  some ((t_link ((x1 * 4) + x2).toNatClampNeg) - (t_link ((x1 * 4) + (t_home (x1).toNatClampNeg)).toNatClampNeg)))))
def L_Sp_shift_71 (x1 : Int32) (x2 : Int32) (t_graph_size : Int32) (t_graph_arcs : Nat → Int32) (t_home : Nat → Int32) : Nat → Int32 → Int32 → Int32 → Int32 → (Nat → Int32) → (Nat → Int32) → Option (Int32 × Int32 × (Nat → Int32) × (Nat → Int32) × (Nat → Int32))
  | 0, _, _, _, _, _, _ => none
  | n + 1, x3, x4, t_cut, t_over, t_link, t_sum =>
    if t_graph_size ≤ x4 then
      ck (okb x1 40) (
      some (t_cut, t_over, upd t_home (x1).toNatClampNeg x2, t_link, t_sum))
    else
      (f_Gr_arcOf x1 x4 t_graph_arcs).bind (fun r90 =>
      ck (okb ((x4 * 4) + x3) 160) (
      ck (okb ((x4 * 4) + x3) 160) (
      ck (okb ((x4 * 4) + x2) 160) (
      ck (okb ((x4 * 4) + x2) 160) (
      L_Sp_shift_71 x1 x2 t_graph_size t_graph_arcs t_home n x3 (x4 + 1) t_cut t_over (upd (upd t_link ((x4 * 4) + x3).toNatClampNeg ((t_link ((x4 * 4) + x3).toNatClampNeg) - r90)) ((x4 * 4) + x2).toNatClampNeg (((upd t_link ((x4 * 4) + x3).toNatClampNeg ((t_link ((x4 * 4) + x3).toNatClampNeg) - r90)) ((x4 * 4) + x2).toNatClampNeg) + r90)) t_sum)))))
def f_Sp_shift (x1 : Int32) (x2 : Int32) (t_cut : Int32) (t_over : Int32) (t_bounds_least : Nat → Int32) (t_bounds_most : Nat → Int32) (t_graph_size : Int32) (t_graph_arcs : Nat → Int32) (t_graph_weight : Nat → Int32) (t_home : Nat → Int32) (t_link : Nat → Int32) (t_sum : Nat → Int32) : Option (Int32 × Int32 × (Nat → Int32) × (Nat → Int32) × (Nat → Int32)) :=
  ck (okb x1 40) (
  (f_Sp_overBehind x1 x2 t_over t_bounds_least t_bounds_most t_graph_weight t_home t_sum).bind (fun r11 =>
  (f_Sp_gainOf x1 x2 t_home t_link).bind (fun r25 =>
  ck (okb (t_home (x1).toNatClampNeg) 4) (
  ck (okb x1 40) (
  ck (okb (t_home (x1).toNatClampNeg) 4) (
  ck (okb x2 4) (
  ck (okb x1 40) (
  ck (okb x2 4) (
  L_Sp_shift_71 x1 x2 t_graph_size t_graph_arcs t_home 64 (t_home (x1).toNatClampNeg) 0 (t_cut - r25) r11 t_link (upd (upd t_sum (t_home (x1).toNatClampNeg).toNatClampNeg ((t_sum (t_home (x1).toNatClampNeg).toNatClampNeg) - (t_graph_weight (x1).toNatClampNeg))) (x2).toNatClampNeg (((upd t_sum (t_home (x1).toNatClampNeg).toNatClampNeg ((t_sum (t_home (x1).toNatClampNeg).toNatClampNeg) - (t_graph_weight (x1).toNatClampNeg))) (x2).toNatClampNeg) + (t_graph_weight (x1).toNatClampNeg))))))))))))
def L_Sp_nodesIn_4 (x1 : Int32) (t_graph_size : Int32) (t_home : Nat → Int32) : Nat → Int32 → Int32 → Option (Int32)
  | 0, _, _ => none
  | n + 1, x2, x3 =>
    if t_graph_size ≤ x3 then
      some x2
    else
      ck (okb x3 40) (
      if (t_home (x3).toNatClampNeg) = x1 then
        L_Sp_nodesIn_4 x1 t_graph_size t_home n (x2 + 1) (x3 + 1)
      else
        L_Sp_nodesIn_4 x1 t_graph_size t_home n x2 (x3 + 1))
def f_Sp_nodesIn (x1 : Int32) (t_graph_size : Int32) (t_home : Nat → Int32) : Option (Int32) :=
  L_Sp_nodesIn_4 x1 t_graph_size t_home 64 0 0
def L_Sp_volume_4 (x1 : Int32) (t_bounds_k : Int32) (t_home : Nat → Int32) (t_link : Nat → Int32) : Nat → Int32 → Int32 → Option (Int32)
  | 0, _, _ => none
  | n + 1, x2, x3 =>
    if t_bounds_k ≤ x3 then
      some x2
    else
      ck (okb x1 40) (
      if x3 = (t_home (x1).toNatClampNeg) then
        L_Sp_volume_4 x1 t_bounds_k t_home t_link n x2 (x3 + 1)
      else
        ck (okb ((x1 * 4) + x3) 160) (
        if (t_link ((x1 * 4) + x3).toNatClampNeg) ≤ 0 then
          L_Sp_volume_4 x1 t_bounds_k t_home t_link n x2 (x3 + 1)
        else
          L_Sp_volume_4 x1 t_bounds_k t_home t_link n (x2 + 1) (x3 + 1)))
def f_Sp_volume (x1 : Int32) (t_bounds_k : Int32) (t_home : Nat → Int32) (t_link : Nat → Int32) : Option (Int32) :=
  L_Sp_volume_4 x1 t_bounds_k t_home t_link 64 0 0
def L_Sp_volumes_4 (t_bounds_k : Int32) (t_graph_size : Int32) (t_home : Nat → Int32) (t_link : Nat → Int32) : Nat → Int32 → Int32 → Option (Int32)
  | 0, _, _ => none
  | n + 1, x1, x2 =>
    if t_graph_size ≤ x2 then
      some x1
    else
      (f_Sp_volume x2 t_bounds_k t_home t_link).bind (fun r18 =>
      L_Sp_volumes_4 t_bounds_k t_graph_size t_home t_link n (x1 + r18) (x2 + 1))
def f_Sp_volumes (t_bounds_k : Int32) (t_graph_size : Int32) (t_home : Nat → Int32) (t_link : Nat → Int32) : Option (Int32) :=
  L_Sp_volumes_4 t_bounds_k t_graph_size t_home t_link 64 0 0
def f_Sp_takeAllOut : Option ((Nat → Int32) × (Nat → Int32)) :=
  some (fun _ => -1, fun _ => 0)
def f_Sp_place (x1 : Int32) (x2 : Int32) (t_graph_weight : Nat → Int32) (t_home : Nat → Int32) (t_sum : Nat → Int32) : Option ((Nat → Int32) × (Nat → Int32)) :=
  ck (okb x1 40) (
  ck (okb x2 4) (
  ck (okb x1 40) (
  ck (okb x2 4) (
  some (upd t_home (x1).toNatClampNeg x2, upd t_sum (x2).toNatClampNeg ((t_sum (x2).toNatClampNeg) + (t_graph_weight (x1).toNatClampNeg)))))))
def L_Sp_heaviestOutside_6 (t_graph_size : Int32) (t_graph_weight : Nat → Int32) (t_home : Nat → Int32) : Nat → Int32 → Int32 → Int32 → Option (Int32)
  | 0, _, _, _ => none
  | n + 1, x1, x2, x3 =>
    if t_graph_size ≤ x3 then
      some x1
    else
      ck (okb x3 40) (
      if (t_home (x3).toNatClampNeg) = (-1) then
        ck (okb x3 40) (
        if (t_graph_weight (x3).toNatClampNeg) ≤ x2 then
          L_Sp_heaviestOutside_6 t_graph_size t_graph_weight t_home n x1 x2 (x3 + 1)
        else
          ck (okb x3 40) (
          L_Sp_heaviestOutside_6 t_graph_size t_graph_weight t_home n x3 (t_graph_weight (x3).toNatClampNeg) (x3 + 1)))
      else
        L_Sp_heaviestOutside_6 t_graph_size t_graph_weight t_home n x1 x2 (x3 + 1))
def f_Sp_heaviestOutside (t_graph_size : Int32) (t_graph_weight : Nat → Int32) (t_home : Nat → Int32) : Option (Int32) :=
  L_Sp_heaviestOutside_6 t_graph_size t_graph_weight t_home 64 0 0 0
def L_Sp_roomiestPart_4 (t_bounds_k : Int32) (t_bounds_most : Nat → Int32) (t_sum : Nat → Int32) : Nat → Int32 → Int32 → Option (Int32)
  | 0, _, _ => none
  | n + 1, x1, x2 =>
    if t_bounds_k ≤ x2 then
      some x1
    else
      ck (okb x2 4) (
      ck (okb x2 4) (
      ck (okb x1 4) (
      ck (okb x1 4) (
      if ((t_bounds_most (x2).toNatClampNeg) - (t_sum (x2).toNatClampNeg)) ≤ ((t_bounds_most (x1).toNatClampNeg) - (t_sum (x1).toNatClampNeg)) then
        L_Sp_roomiestPart_4 t_bounds_k t_bounds_most t_sum n x1 (x2 + 1)
      else
        L_Sp_roomiestPart_4 t_bounds_k t_bounds_most t_sum n x2 (x2 + 1)))))
def f_Sp_roomiestPart (t_bounds_k : Int32) (t_bounds_most : Nat → Int32) (t_sum : Nat → Int32) : Option (Int32) :=
  L_Sp_roomiestPart_4 t_bounds_k t_bounds_most t_sum 64 0 1
def L_Sp_growAll_6 (t_bounds_k : Int32) (t_bounds_most : Nat → Int32) (t_graph_size : Int32) (t_graph_weight : Nat → Int32) : Nat → Int32 → (Nat → Int32) → (Nat → Int32) → Option ((Nat → Int32) × (Nat → Int32))
  | 0, _, _, _ => none
  | n + 1, x1, t_home, t_sum =>
    if t_graph_size ≤ x1 then
      some (t_home, t_sum)
    else
      (f_Sp_heaviestOutside t_graph_size t_graph_weight t_home).bind (fun r19 =>
      (f_Sp_roomiestPart t_bounds_k t_bounds_most t_sum).bind (fun r23 =>
      (f_Sp_place r19 r23 t_graph_weight t_home t_sum).bind (fun r26 =>
      L_Sp_growAll_6 t_bounds_k t_bounds_most t_graph_size t_graph_weight n (x1 + 1) r26.1 r26.2)))
def f_Sp_growAll (t_bounds_k : Int32) (t_bounds_most : Nat → Int32) (t_graph_size : Int32) (t_graph_weight : Nat → Int32) : Option ((Nat → Int32) × (Nat → Int32)) :=
  (f_Sp_takeAllOut).bind (fun r1 =>
  L_Sp_growAll_6 t_bounds_k t_bounds_most t_graph_size t_graph_weight 64 0 r1.1 r1.2)
def L_Sp_arcsInto_5 (x1 : Int32) (x2 : Int32) (t_graph_size : Int32) (t_graph_arcs : Nat → Int32) (t_home : Nat → Int32) : Nat → Int32 → Int32 → Option (Int32)
  | 0, _, _ => none
  | n + 1, x3, x4 =>
    if t_graph_size ≤ x4 then
      some x3
    else
      ck (okb x4 40) (
      if (t_home (x4).toNatClampNeg) = x2 then
        (f_Gr_arcOf x1 x4 t_graph_arcs).bind (fun r36 =>
        L_Sp_arcsInto_5 x1 x2 t_graph_size t_graph_arcs t_home n (x3 + r36) (x4 + 1))
      else
        L_Sp_arcsInto_5 x1 x2 t_graph_size t_graph_arcs t_home n x3 (x4 + 1))
def f_Sp_arcsInto (x1 : Int32) (x2 : Int32) (t_graph_size : Int32) (t_graph_arcs : Nat → Int32) (t_home : Nat → Int32) : Option (Int32) :=
  L_Sp_arcsInto_5 x1 x2 t_graph_size t_graph_arcs t_home 64 0 0
def L_Sp_likedPart_8 (x1 : Int32) (x2 : Int32) (t_bounds_k : Int32) (t_bounds_most : Nat → Int32) (t_graph_size : Int32) (t_graph_arcs : Nat → Int32) (t_graph_weight : Nat → Int32) (t_home : Nat → Int32) (t_sum : Nat → Int32) : Nat → Int32 → Int64 → Int32 → Option (Int32)
  | 0, _, _, _ => none
  | n + 1, x3, x4, x6 =>
    if t_bounds_k ≤ x6 then
      some x3
    else
      ck (okb x6 4) (
      ck (okb x1 40) (
      ck (okb x6 4) (
      if (t_bounds_most (x6).toNatClampNeg) < ((t_sum (x6).toNatClampNeg) + (t_graph_weight (x1).toNatClampNeg)) then
        L_Sp_likedPart_8 x1 x2 t_bounds_k t_bounds_most t_graph_size t_graph_arcs t_graph_weight t_home t_sum n x3 x4 (x6 + 1)
      else
        (f_Sp_arcsInto x1 x6 t_graph_size t_graph_arcs t_home).bind (fun r57 =>
        ck (okb x6 4) (
        if x3 = (-1) then
          L_Sp_likedPart_8 x1 x2 t_bounds_k t_bounds_most t_graph_size t_graph_arcs t_graph_weight t_home t_sum n x6 (((1000 : Int64) * r57.toInt64) - (x2.toInt64 * ((t_sum (x6).toNatClampNeg).toInt64))) (x6 + 1)
        else
          if (lg_cmp (((1000 : Int64) * r57.toInt64) - (x2.toInt64 * ((t_sum (x6).toNatClampNeg).toInt64))) x4) ≤ 0 then
            L_Sp_likedPart_8 x1 x2 t_bounds_k t_bounds_most t_graph_size t_graph_arcs t_graph_weight t_home t_sum n x3 x4 (x6 + 1)
          else
            L_Sp_likedPart_8 x1 x2 t_bounds_k t_bounds_most t_graph_size t_graph_arcs t_graph_weight t_home t_sum n x6 (((1000 : Int64) * r57.toInt64) - (x2.toInt64 * ((t_sum (x6).toNatClampNeg).toInt64))) (x6 + 1))))))
def f_Sp_likedPart (x1 : Int32) (x2 : Int32) (t_bounds_k : Int32) (t_bounds_most : Nat → Int32) (t_graph_size : Int32) (t_graph_arcs : Nat → Int32) (t_graph_weight : Nat → Int32) (t_home : Nat → Int32) (t_sum : Nat → Int32) : Option (Int32) :=
  L_Sp_likedPart_8 x1 x2 t_bounds_k t_bounds_most t_graph_size t_graph_arcs t_graph_weight t_home t_sum 64 (-1) (0 : Int64) 0
def L_Sp_lightestPart_4 (t_bounds_k : Int32) (t_sum : Nat → Int32) : Nat → Int32 → Int32 → Option (Int32)
  | 0, _, _ => none
  | n + 1, x1, x2 =>
    if t_bounds_k ≤ x2 then
      some x1
    else
      ck (okb x2 4) (
      ck (okb x1 4) (
      if (t_sum (x1).toNatClampNeg) ≤ (t_sum (x2).toNatClampNeg) then
        L_Sp_lightestPart_4 t_bounds_k t_sum n x1 (x2 + 1)
      else
        L_Sp_lightestPart_4 t_bounds_k t_sum n x2 (x2 + 1)))
def f_Sp_lightestPart (t_bounds_k : Int32) (t_sum : Nat → Int32) : Option (Int32) :=
  L_Sp_lightestPart_4 t_bounds_k t_sum 64 0 1
def J_Sp_streamAll_49 (t_graph_weight : Nat → Int32) (k6 : Int32 → (Nat → Int32) → (Nat → Int32) → Option ((Nat → Int32) × (Nat → Int32))) (y1 : Int32) (y2 : Int32) (x3 : Int32) (t_home : Nat → Int32) (t_sum : Nat → Int32) : Option ((Nat → Int32) × (Nat → Int32)) :=
  (f_Sp_place y1 y2 t_graph_weight t_home t_sum).bind (fun r49 =>
  k6 (x3 + 1) r49.1 r49.2)
def L_Sp_streamAll_6 (x2 : Int32) (t_bounds_k : Int32) (t_bounds_most : Nat → Int32) (t_graph_size : Int32) (t_graph_arcs : Nat → Int32) (t_graph_weight : Nat → Int32) (p1 : Nat → Int32) : Nat → Int32 → (Nat → Int32) → (Nat → Int32) → Option ((Nat → Int32) × (Nat → Int32))
  | 0, _, _, _ => none
  | n + 1, x3, t_home, t_sum =>
    if t_graph_size ≤ x3 then
      some (t_home, t_sum)
    else
      ck (okb x3 40) (
      (f_Sp_likedPart (p1 (x3).toNatClampNeg) x2 t_bounds_k t_bounds_most t_graph_size t_graph_arcs t_graph_weight t_home t_sum).bind (fun r26 =>
      if r26 = (-1) then
        (f_Sp_lightestPart t_bounds_k t_sum).bind (fun r41 =>
        J_Sp_streamAll_49 t_graph_weight (L_Sp_streamAll_6 x2 t_bounds_k t_bounds_most t_graph_size t_graph_arcs t_graph_weight p1 n) (p1 (x3).toNatClampNeg) r41 x3 t_home t_sum)
      else
        J_Sp_streamAll_49 t_graph_weight (L_Sp_streamAll_6 x2 t_bounds_k t_bounds_most t_graph_size t_graph_arcs t_graph_weight p1 n) (p1 (x3).toNatClampNeg) r26 x3 t_home t_sum))
def f_Sp_streamAll (x2 : Int32) (t_bounds_k : Int32) (t_bounds_most : Nat → Int32) (t_graph_size : Int32) (t_graph_arcs : Nat → Int32) (t_graph_weight : Nat → Int32) (p1 : Nat → Int32) : Option ((Nat → Int32) × (Nat → Int32)) :=
  (f_Sp_takeAllOut).bind (fun r1 =>
  L_Sp_streamAll_6 x2 t_bounds_k t_bounds_most t_graph_size t_graph_arcs t_graph_weight p1 64 0 r1.1 r1.2)
