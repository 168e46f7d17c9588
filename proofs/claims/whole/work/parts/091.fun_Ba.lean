def f_Ba_node (x1 : Int32) (t_levels_fresh : Int32) (t_top_graph_size : Int32) (t_top_graph_weight : Nat → Int32) (t_top_home : Nat → Int32) : Option (Int32 × Int32 × Int32 × (Nat → Int32) × (Nat → Int32)) :=
  if x1 < 1 then
    some (-1, t_levels_fresh, t_top_graph_size, t_top_graph_weight, t_top_home)
  else
    if x1 ≤ 1000 then
      if t_top_graph_size < 40 then
        ck (okb t_top_graph_size 40) (
        ck (okb t_top_graph_size 40) (
        some (t_top_graph_size, 0, t_top_graph_size + 1, upd t_top_graph_weight (t_top_graph_size).toNatClampNeg x1, upd t_top_home (t_top_graph_size).toNatClampNeg 0)))
      else
        some (-3, t_levels_fresh, t_top_graph_size, t_top_graph_weight, t_top_home)
    else
      some (-1, t_levels_fresh, t_top_graph_size, t_top_graph_weight, t_top_home)
def f_Ba_arc (x1 : Int32) (x2 : Int32) (x3 : Int32) (t_levels_fresh : Int32) (t_top_graph_size : Int32) (t_top_graph_arcs : Nat → Int32) : Option (Int32 × Int32 × (Nat → Int32)) :=
  (f_Gr_has x1 t_top_graph_size).bind (fun r12 =>
  if r12 = 0 then
    some (-1, t_levels_fresh, t_top_graph_arcs)
  else
    (f_Gr_has x2 t_top_graph_size).bind (fun r21 =>
    if r21 = 0 then
      some (-1, t_levels_fresh, t_top_graph_arcs)
    else
      if x1 = x2 then
        some (-1, t_levels_fresh, t_top_graph_arcs)
      else
        if x3 < 1 then
          some (-1, t_levels_fresh, t_top_graph_arcs)
        else
          if x3 ≤ 1000 then
            (f_Gr_arcOf x1 x2 t_top_graph_arcs).bind (fun r50 =>
            if (r50 + x3) ≤ 1000000 then
              (f_Gr_addArc x1 x2 x3 t_top_graph_arcs).bind (fun r72 =>
              some (r50 + x3, 0, r72))
            else
              some (-3, t_levels_fresh, t_top_graph_arcs))
          else
            some (-1, t_levels_fresh, t_top_graph_arcs)))
def f_Ba_startParts (x1 : Int32) : Option (Int32 × Int32 × (Nat → Int32) × (Nat → Int32) × (Nat → Int32)) :=
  (f_Bo_start x1).bind (fun r8 =>
  some (0, r8.1, r8.2.1, r8.2.2, fun _ => 0))
def f_Ba_parts (x1 : Int32) (t_levels_fresh : Int32) (t_top_bounds_k : Int32) (t_top_bounds_least : Nat → Int32) (t_top_bounds_most : Nat → Int32) (t_top_home : Nat → Int32) : Option (Int32 × Int32 × Int32 × (Nat → Int32) × (Nat → Int32) × (Nat → Int32)) :=
  if x1 < 2 then
    some (-1, t_levels_fresh, t_top_bounds_k, t_top_bounds_least, t_top_bounds_most, t_top_home)
  else
    if x1 ≤ 4 then
      (f_Ba_startParts x1).bind (fun r25 =>
      some (t_top_bounds_k, r25.1, r25.2.1, r25.2.2.1, r25.2.2.2.1, r25.2.2.2.2))
    else
      some (-1, t_levels_fresh, t_top_bounds_k, t_top_bounds_least, t_top_bounds_most, t_top_home)
def f_Ba_bound (x1 : Int32) (x2 : Int32) (x3 : Int32) (t_top_bounds_k : Int32) (t_top_bounds_least : Nat → Int32) (t_top_bounds_most : Nat → Int32) : Option (Int32 × (Nat → Int32) × (Nat → Int32)) :=
  (f_Bo_has x1 t_top_bounds_k).bind (fun r8 =>
  if r8 = 0 then
    some (-1, t_top_bounds_least, t_top_bounds_most)
  else
    if x2 < 0 then
      some (-1, t_top_bounds_least, t_top_bounds_most)
    else
      if 1000000 < x3 then
        some (-1, t_top_bounds_least, t_top_bounds_most)
      else
        if x2 ≤ x3 then
          ck (okb x1 4) (
          ck (okb x1 4) (
          some (0, upd t_top_bounds_least (x1).toNatClampNeg x2, upd t_top_bounds_most (x1).toNatClampNeg x3)))
        else
          some (-1, t_top_bounds_least, t_top_bounds_most))
def f_Ba_put (x1 : Int32) (x2 : Int32) (t_top_bounds_k : Int32) (t_top_graph_size : Int32) (t_top_home : Nat → Int32) : Option (Int32 × (Nat → Int32)) :=
  (f_Gr_has x1 t_top_graph_size).bind (fun r8 =>
  if r8 = 0 then
    some (-1, t_top_home)
  else
    (f_Bo_has x2 t_top_bounds_k).bind (fun r22 =>
    if r22 = 0 then
      some (-1, t_top_home)
    else
      ck (okb x1 40) (
      ck (okb x1 40) (
      some (t_top_home (x1).toNatClampNeg, upd t_top_home (x1).toNatClampNeg x2)))))
def f_Ba_clear (t_top_graph_size : Int32) : Option (Int32 × Int32 × Int32 × (Nat → Int32) × (Nat → Int32) × Int32 × (Nat → Int32) × (Nat → Int32) × (Nat → Int32)) :=
  (f_Gr_empty 0).bind (fun r19 =>
  (f_Ba_startParts 2).bind (fun r24 =>
  some (t_top_graph_size, r24.1, r24.2.1, r24.2.2.1, r24.2.2.2.1, r19.1, r19.2.1, r19.2.2, r24.2.2.2.2)))
def f_Ba_of (x1 : Int32) (x2 : Int32) (t_top_cut : Int32) (t_top_over : Int32) (t_top_bounds_k : Int32) (t_top_bounds_least : Nat → Int32) (t_top_bounds_most : Nat → Int32) (t_top_graph_size : Int32) (t_top_graph_arcs : Nat → Int32) (t_top_graph_weight : Nat → Int32) (t_top_home : Nat → Int32) (t_top_link : Nat → Int32) (t_top_sum : Nat → Int32) : Option (Int32 × Int32 × Int32 × (Nat → Int32) × (Nat → Int32)) :=
  (f_Gr_has x1 t_top_graph_size).bind (fun r8 =>
  if r8 = 0 then
    some (-1, t_top_cut, t_top_over, t_top_link, t_top_sum)
  else
    if x2 = 0 then
      ck (okb x1 40) (
      some (t_top_graph_weight (x1).toNatClampNeg, t_top_cut, t_top_over, t_top_link, t_top_sum))
    else
      if x2 = 1 then
        ck (okb x1 40) (
        some (t_top_home (x1).toNatClampNeg, t_top_cut, t_top_over, t_top_link, t_top_sum))
      else
        if x2 = 2 then
          (f_Sp_recount t_top_bounds_k t_top_bounds_least t_top_bounds_most t_top_graph_size t_top_graph_arcs t_top_graph_weight t_top_home).bind (fun r75 =>
          (f_Sp_volume x1 t_top_bounds_k t_top_home r75.2.2.1).bind (fun r83 =>
          some (r83, r75.1, r75.2.1, r75.2.2.1, r75.2.2.2)))
        else
          if x2 = 3 then
            (f_Gr_neighbours x1 t_top_graph_size t_top_graph_arcs).bind (fun r95 =>
            some (r95, t_top_cut, t_top_over, t_top_link, t_top_sum))
          else
            some (-1, t_top_cut, t_top_over, t_top_link, t_top_sum))
def f_Ba_between (x1 : Int32) (x2 : Int32) (t_top_graph_size : Int32) (t_top_graph_arcs : Nat → Int32) : Option (Int32) :=
  (f_Gr_has x1 t_top_graph_size).bind (fun r8 =>
  if r8 = 0 then
    some (-1)
  else
    (f_Gr_has x2 t_top_graph_size).bind (fun r22 =>
    if r22 = 0 then
      some (-1)
    else
      (f_Gr_arcOf x1 x2 t_top_graph_arcs).bind (fun r39 =>
      some r39)))
def f_Ba_part (x1 : Int32) (x2 : Int32) (t_top_cut : Int32) (t_top_over : Int32) (t_top_bounds_k : Int32) (t_top_bounds_least : Nat → Int32) (t_top_bounds_most : Nat → Int32) (t_top_graph_size : Int32) (t_top_graph_arcs : Nat → Int32) (t_top_graph_weight : Nat → Int32) (t_top_home : Nat → Int32) (t_top_link : Nat → Int32) (t_top_sum : Nat → Int32) : Option (Int32 × Int32 × Int32 × (Nat → Int32) × (Nat → Int32)) :=
  (f_Bo_has x1 t_top_bounds_k).bind (fun r8 =>
  if r8 = 0 then
    some (-1, t_top_cut, t_top_over, t_top_link, t_top_sum)
  else
    if x2 = 0 then
      (f_Sp_recount t_top_bounds_k t_top_bounds_least t_top_bounds_most t_top_graph_size t_top_graph_arcs t_top_graph_weight t_top_home).bind (fun r52 =>
      ck (okb x1 4) (
      some (r52.2.2.2 (x1).toNatClampNeg, r52.1, r52.2.1, r52.2.2.1, r52.2.2.2)))
    else
      if x2 = 1 then
        (f_Sp_nodesIn x1 t_top_graph_size t_top_home).bind (fun r70 =>
        some (r70, t_top_cut, t_top_over, t_top_link, t_top_sum))
      else
        if x2 = 2 then
          ck (okb x1 4) (
          some (t_top_bounds_least (x1).toNatClampNeg, t_top_cut, t_top_over, t_top_link, t_top_sum))
        else
          if x2 = 3 then
            ck (okb x1 4) (
            some (t_top_bounds_most (x1).toNatClampNeg, t_top_cut, t_top_over, t_top_link, t_top_sum))
          else
            some (-1, t_top_cut, t_top_over, t_top_link, t_top_sum))
def f_Ba_cut (t_top_bounds_k : Int32) (t_top_bounds_least : Nat → Int32) (t_top_bounds_most : Nat → Int32) (t_top_graph_size : Int32) (t_top_graph_arcs : Nat → Int32) (t_top_graph_weight : Nat → Int32) (t_top_home : Nat → Int32) : Option (Int32 × Int32 × Int32 × (Nat → Int32) × (Nat → Int32)) :=
  (f_Sp_recount t_top_bounds_k t_top_bounds_least t_top_bounds_most t_top_graph_size t_top_graph_arcs t_top_graph_weight t_top_home).bind (fun r4 =>
  some (r4.1, r4.1, r4.2.1, r4.2.2.1, r4.2.2.2))
def f_Ba_over (t_top_bounds_k : Int32) (t_top_bounds_least : Nat → Int32) (t_top_bounds_most : Nat → Int32) (t_top_graph_size : Int32) (t_top_graph_arcs : Nat → Int32) (t_top_graph_weight : Nat → Int32) (t_top_home : Nat → Int32) : Option (Int32 × Int32 × Int32 × (Nat → Int32) × (Nat → Int32)) :=
  (f_Sp_recount t_top_bounds_k t_top_bounds_least t_top_bounds_most t_top_graph_size t_top_graph_arcs t_top_graph_weight t_top_home).bind (fun r4 =>
  some (r4.2.1, r4.1, r4.2.1, r4.2.2.1, r4.2.2.2))
def f_Ba_gain (x1 : Int32) (x2 : Int32) (t_top_cut : Int32) (t_top_over : Int32) (t_top_bounds_k : Int32) (t_top_bounds_least : Nat → Int32) (t_top_bounds_most : Nat → Int32) (t_top_graph_size : Int32) (t_top_graph_arcs : Nat → Int32) (t_top_graph_weight : Nat → Int32) (t_top_home : Nat → Int32) (t_top_link : Nat → Int32) (t_top_sum : Nat → Int32) : Option (Int32 × Int32 × Int32 × (Nat → Int32) × (Nat → Int32)) :=
  (f_Gr_has x1 t_top_graph_size).bind (fun r8 =>
  if r8 = 0 then
    some (-100000000, t_top_cut, t_top_over, t_top_link, t_top_sum)
  else
    (f_Bo_has x2 t_top_bounds_k).bind (fun r22 =>
    if r22 = 0 then
      some (-100000000, t_top_cut, t_top_over, t_top_link, t_top_sum)
    else
      (f_Sp_recount t_top_bounds_k t_top_bounds_least t_top_bounds_most t_top_graph_size t_top_graph_arcs t_top_graph_weight t_top_home).bind (fun r35 =>
      (f_Sp_gainOf x1 x2 t_top_home r35.2.2.1).bind (fun r44 =>
      some (r44, r35.1, r35.2.1, r35.2.2.1, r35.2.2.2)))))
def f_Ba_hasLevel (x1 : Int32) (t_levels_fresh : Int32) (t_levels_count : Int32) (t_levels_holders : Nat → Int32) (t_levels_mate : Nat → Int32) (t_levels_number : Nat → Int32) (t_levels_size : Nat → Int32) (t_low_graph_size : Int32) (t_low_graph_arcs : Nat → Int32) (t_low_graph_weight : Nat → Int32) (t_top_bounds_k : Int32) (t_top_graph_size : Int32) (t_top_graph_arcs : Nat → Int32) (t_top_graph_weight : Nat → Int32) : Option (Int32 × Int32 × Int32 × (Nat → Int32) × (Nat → Int32) × (Nat → Int32) × (Nat → Int32) × Int32 × (Nat → Int32) × (Nat → Int32)) :=
  (f_Le_renew t_top_bounds_k t_levels_fresh t_levels_count t_levels_holders t_levels_mate t_levels_number t_levels_size t_top_graph_size t_top_graph_arcs t_top_graph_weight t_low_graph_size t_low_graph_arcs t_low_graph_weight).bind (fun r28 =>
  if x1 < 0 then
    some (0, r28.1, r28.2.1, r28.2.2.1, r28.2.2.2.1, r28.2.2.2.2.1, r28.2.2.2.2.2.1, r28.2.2.2.2.2.2.1, r28.2.2.2.2.2.2.2.1, r28.2.2.2.2.2.2.2.2)
  else
    if r28.2.1 ≤ x1 then
      some (0, r28.1, r28.2.1, r28.2.2.1, r28.2.2.2.1, r28.2.2.2.2.1, r28.2.2.2.2.2.1, r28.2.2.2.2.2.2.1, r28.2.2.2.2.2.2.2.1, r28.2.2.2.2.2.2.2.2)
    else
      some (1, r28.1, r28.2.1, r28.2.2.1, r28.2.2.2.1, r28.2.2.2.2.1, r28.2.2.2.2.2.1, r28.2.2.2.2.2.2.1, r28.2.2.2.2.2.2.2.1, r28.2.2.2.2.2.2.2.2))
def f_Ba_level (x1 : Int32) (x2 : Int32) (t_levels_fresh : Int32) (t_levels_count : Int32) (t_levels_holders : Nat → Int32) (t_levels_mate : Nat → Int32) (t_levels_number : Nat → Int32) (t_levels_size : Nat → Int32) (t_low_graph_size : Int32) (t_low_graph_arcs : Nat → Int32) (t_low_graph_weight : Nat → Int32) (t_top_bounds_k : Int32) (t_top_graph_size : Int32) (t_top_graph_arcs : Nat → Int32) (t_top_graph_weight : Nat → Int32) : Option (Int32 × Int32 × Int32 × (Nat → Int32) × (Nat → Int32) × (Nat → Int32) × (Nat → Int32) × Int32 × (Nat → Int32) × (Nat → Int32)) :=
  if x1 < 0 then
    some (-1, t_levels_fresh, t_levels_count, t_levels_holders, t_levels_mate, t_levels_number, t_levels_size, t_low_graph_size, t_low_graph_arcs, t_low_graph_weight)
  else
    if x2 < 0 then
      some (-1, t_levels_fresh, t_levels_count, t_levels_holders, t_levels_mate, t_levels_number, t_levels_size, t_low_graph_size, t_low_graph_arcs, t_low_graph_weight)
    else
      if x2 ≤ 2 then
        (f_Ba_hasLevel x1 t_levels_fresh t_levels_count t_levels_holders t_levels_mate t_levels_number t_levels_size t_low_graph_size t_low_graph_arcs t_low_graph_weight t_top_bounds_k t_top_graph_size t_top_graph_arcs t_top_graph_weight).bind (fun r17 =>
        if r17.1 = 0 then
          some (-2, r17.2.1, r17.2.2.1, r17.2.2.2.1, r17.2.2.2.2.1, r17.2.2.2.2.2.1, r17.2.2.2.2.2.2.1, r17.2.2.2.2.2.2.2.1, r17.2.2.2.2.2.2.2.2.1, r17.2.2.2.2.2.2.2.2.2)
        else
          (f_Le_drawInto x1 r17.2.2.2.1 r17.2.2.2.2.2.2.1 t_top_graph_size t_top_graph_arcs t_top_graph_weight).bind (fun r45 =>
          if x2 = 0 then
            some (r45.1, r17.2.1, r17.2.2.1, r17.2.2.2.1, r17.2.2.2.2.1, r17.2.2.2.2.2.1, r17.2.2.2.2.2.2.1, r45.1, r45.2.1, r45.2.2)
          else
            if x2 = 1 then
              (f_Gr_arcCount r45.1 r45.2.1).bind (fun r94 =>
              some (r94, r17.2.1, r17.2.2.1, r17.2.2.2.1, r17.2.2.2.2.1, r17.2.2.2.2.2.1, r17.2.2.2.2.2.2.1, r45.1, r45.2.1, r45.2.2))
            else
              (f_Gr_arcSum r45.1 r45.2.1).bind (fun r105 =>
              some (r105, r17.2.1, r17.2.2.1, r17.2.2.2.1, r17.2.2.2.2.1, r17.2.2.2.2.2.1, r17.2.2.2.2.2.2.1, r45.1, r45.2.1, r45.2.2))))
      else
        some (-1, t_levels_fresh, t_levels_count, t_levels_holders, t_levels_mate, t_levels_number, t_levels_size, t_low_graph_size, t_low_graph_arcs, t_low_graph_weight)
def f_Ba_inLevel (x1 : Int32) (x2 : Int32) (t_levels_fresh : Int32) (t_levels_count : Int32) (t_levels_holders : Nat → Int32) (t_levels_mate : Nat → Int32) (t_levels_number : Nat → Int32) (t_levels_size : Nat → Int32) (t_low_graph_size : Int32) (t_low_graph_arcs : Nat → Int32) (t_low_graph_weight : Nat → Int32) (t_top_bounds_k : Int32) (t_top_graph_size : Int32) (t_top_graph_arcs : Nat → Int32) (t_top_graph_weight : Nat → Int32) : Option (Int32 × Int32 × Int32 × (Nat → Int32) × (Nat → Int32) × (Nat → Int32) × (Nat → Int32) × Int32 × (Nat → Int32) × (Nat → Int32)) :=
  (f_Gr_has x2 t_top_graph_size).bind (fun r8 =>
  if r8 = 0 then
    some (-1, t_levels_fresh, t_levels_count, t_levels_holders, t_levels_mate, t_levels_number, t_levels_size, t_low_graph_size, t_low_graph_arcs, t_low_graph_weight)
  else
    (f_Ba_hasLevel x1 t_levels_fresh t_levels_count t_levels_holders t_levels_mate t_levels_number t_levels_size t_low_graph_size t_low_graph_arcs t_low_graph_weight t_top_bounds_k t_top_graph_size t_top_graph_arcs t_top_graph_weight).bind (fun r16 =>
    if r16.1 = 0 then
      some (-1, r16.2.1, r16.2.2.1, r16.2.2.2.1, r16.2.2.2.2.1, r16.2.2.2.2.2.1, r16.2.2.2.2.2.2.1, r16.2.2.2.2.2.2.2.1, r16.2.2.2.2.2.2.2.2.1, r16.2.2.2.2.2.2.2.2.2)
    else
      (f_Le_holder x1 x2 r16.2.2.2.1).bind (fun r30 =>
      some (r30, r16.2.1, r16.2.2.1, r16.2.2.2.1, r16.2.2.2.2.1, r16.2.2.2.2.2.1, r16.2.2.2.2.2.2.1, r16.2.2.2.2.2.2.2.1, r16.2.2.2.2.2.2.2.2.1, r16.2.2.2.2.2.2.2.2.2))))
def f_Ba_levelOf (x1 : Int32) (x2 : Int32) (x3 : Int32) (t_levels_fresh : Int32) (t_levels_count : Int32) (t_levels_holders : Nat → Int32) (t_levels_mate : Nat → Int32) (t_levels_number : Nat → Int32) (t_levels_size : Nat → Int32) (t_low_graph_size : Int32) (t_low_graph_arcs : Nat → Int32) (t_low_graph_weight : Nat → Int32) (t_top_bounds_k : Int32) (t_top_graph_size : Int32) (t_top_graph_arcs : Nat → Int32) (t_top_graph_weight : Nat → Int32) : Option (Int32 × Int32 × Int32 × (Nat → Int32) × (Nat → Int32) × (Nat → Int32) × (Nat → Int32) × Int32 × (Nat → Int32) × (Nat → Int32)) :=
  (f_Ba_hasLevel x1 t_levels_fresh t_levels_count t_levels_holders t_levels_mate t_levels_number t_levels_size t_low_graph_size t_low_graph_arcs t_low_graph_weight t_top_bounds_k t_top_graph_size t_top_graph_arcs t_top_graph_weight).bind (fun r2 =>
  if r2.1 = 0 then
    some (-1, r2.2.1, r2.2.2.1, r2.2.2.2.1, r2.2.2.2.2.1, r2.2.2.2.2.2.1, r2.2.2.2.2.2.2.1, r2.2.2.2.2.2.2.2.1, r2.2.2.2.2.2.2.2.2.1, r2.2.2.2.2.2.2.2.2.2)
  else
    (f_Le_drawInto x1 r2.2.2.2.1 r2.2.2.2.2.2.2.1 t_top_graph_size t_top_graph_arcs t_top_graph_weight).bind (fun r29 =>
    (f_Gr_has x2 r29.1).bind (fun r40 =>
    if r40 = 0 then
      some (-1, r2.2.1, r2.2.2.1, r2.2.2.2.1, r2.2.2.2.2.1, r2.2.2.2.2.2.1, r2.2.2.2.2.2.2.1, r29.1, r29.2.1, r29.2.2)
    else
      if x3 = (-1) then
        ck (okb x2 40) (
        some (r29.2.2 (x2).toNatClampNeg, r2.2.1, r2.2.2.1, r2.2.2.2.1, r2.2.2.2.2.1, r2.2.2.2.2.2.1, r2.2.2.2.2.2.2.1, r29.1, r29.2.1, r29.2.2))
      else
        (f_Gr_has x3 r29.1).bind (fun r74 =>
        if r74 = 0 then
          some (-1, r2.2.1, r2.2.2.1, r2.2.2.2.1, r2.2.2.2.2.1, r2.2.2.2.2.2.1, r2.2.2.2.2.2.2.1, r29.1, r29.2.1, r29.2.2)
        else
          (f_Gr_arcOf x2 x3 r29.2.1).bind (fun r89 =>
          some (r89, r2.2.1, r2.2.2.1, r2.2.2.2.1, r2.2.2.2.2.1, r2.2.2.2.2.2.1, r2.2.2.2.2.2.2.1, r29.1, r29.2.1, r29.2.2))))))
def f_Ba_splitFirst (t_low_bounds_k : Int32) (t_low_bounds_least : Nat → Int32) (t_low_bounds_most : Nat → Int32) (t_low_graph_size : Int32) (t_low_graph_arcs : Nat → Int32) (t_low_graph_weight : Nat → Int32) (t_low_home : Nat → Int32) (t_low_sum : Nat → Int32) (t_search_bestOver : Int32) (t_search_bestCut : Int32) (t_search_best : Nat → Int32) (t_search_sum : Nat → Int32) (t_search_tried : Nat → Int32) : Option ((Nat → Int32) × (Nat → Int32) × Int32 × Int32 × (Nat → Int32) × (Nat → Int32) × (Nat → Int32)) :=
  if 6 < t_low_graph_size then
    (f_Sp_growAll t_low_bounds_k t_low_bounds_most t_low_graph_size t_low_graph_weight).bind (fun r33 =>
    some (r33.1, r33.2, t_search_bestOver, t_search_bestCut, t_search_best, t_search_sum, t_search_tried))
  else
    (f_Se_findBest t_search_best t_search_tried t_low_bounds_k t_low_bounds_least t_low_bounds_most t_low_graph_size t_low_graph_arcs t_low_graph_weight t_low_home).bind (fun r23 =>
    some (r23.2.2.2.2.2, t_low_sum, r23.1, r23.2.1, r23.2.2.1, r23.2.2.2.1, r23.2.2.2.2.1))
def f_Ba_cutOrMiss (t_top_bounds_k : Int32) (t_top_bounds_least : Nat → Int32) (t_top_bounds_most : Nat → Int32) (t_top_graph_size : Int32) (t_top_graph_arcs : Nat → Int32) (t_top_graph_weight : Nat → Int32) (t_top_home : Nat → Int32) : Option (Int32 × Int32 × Int32 × (Nat → Int32) × (Nat → Int32)) :=
  (f_Sp_recount t_top_bounds_k t_top_bounds_least t_top_bounds_most t_top_graph_size t_top_graph_arcs t_top_graph_weight t_top_home).bind (fun r4 =>
  if r4.2.1 = 0 then
    some (r4.1, r4.1, r4.2.1, r4.2.2.1, r4.2.2.2)
  else
    some ((-10) - r4.2.1, r4.1, r4.2.1, r4.2.2.1, r4.2.2.2))
def J_Ba_run_130 (t_top_graph_size : Int32) (k60 : Int32 → Int32 → Int32 → Int32 → (Nat → Int32) → (Nat → Int32) → (Nat → Int32) → (Nat → Int32) → Int32 → Int32 → Int32 → (Nat → Int32) → (Nat → Int32) → Int32 → (Nat → Int32) → (Nat → Int32) → (Nat → Int32) → (Nat → Int32) → (Nat → Int32) → Int32 → Int32 → Int32 → Int32 → Int32 → Int32 → (Nat → Int32) → (Nat → Int32) → Int32 → Int32 → (Nat → Int32) → (Nat → Int32) → (Nat → Int32) → (Nat → Int32) → Option (Int32 × Int32 × Int32 × (Nat → Int32) × (Nat → Int32) × (Nat → Int32) × (Nat → Int32) × Int32 × Int32 × Int32 × (Nat → Int32) × (Nat → Int32) × Int32 × (Nat → Int32) × (Nat → Int32) × (Nat → Int32) × (Nat → Int32) × (Nat → Int32) × Int32 × Int32 × Int32 × Int32 × Int32 × Int32 × (Nat → Int32) × (Nat → Int32) × Int32 × Int32 × (Nat → Int32) × (Nat → Int32) × (Nat → Int32) × Int32 × Int32 × (Nat → Int32) × (Nat → Int32) × (Nat → Int32))) (x1 : Int32) (x2 : Int32) (t_levels_fresh : Int32) (t_levels_count : Int32) (t_levels_holders : Nat → Int32) (t_levels_mate : Nat → Int32) (t_levels_number : Nat → Int32) (t_levels_size : Nat → Int32) (t_low_cut : Int32) (t_low_over : Int32) (t_low_bounds_k : Int32) (t_low_bounds_least : Nat → Int32) (t_low_bounds_most : Nat → Int32) (t_low_graph_size : Int32) (t_low_graph_arcs : Nat → Int32) (t_low_graph_weight : Nat → Int32) (t_low_home : Nat → Int32) (t_low_link : Nat → Int32) (t_low_sum : Nat → Int32) (t_mover_bestOver : Int32) (t_mover_bestCut : Int32) (t_mover_nextNode : Int32) (t_mover_nextPart : Int32) (t_mover_nextOver : Int32) (t_mover_nextGain : Int32) (t_mover_best : Nat → Int32) (t_mover_free : Nat → Int32) (t_search_bestOver : Int32) (t_search_bestCut : Int32) (t_search_best : Nat → Int32) (t_search_sum : Nat → Int32) (t_search_tried : Nat → Int32) (t_top_home : Nat → Int32) : Option (Int32 × Int32 × Int32 × (Nat → Int32) × (Nat → Int32) × (Nat → Int32) × (Nat → Int32) × Int32 × Int32 × Int32 × (Nat → Int32) × (Nat → Int32) × Int32 × (Nat → Int32) × (Nat → Int32) × (Nat → Int32) × (Nat → Int32) × (Nat → Int32) × Int32 × Int32 × Int32 × Int32 × Int32 × Int32 × (Nat → Int32) × (Nat → Int32) × Int32 × Int32 × (Nat → Int32) × (Nat → Int32) × (Nat → Int32) × Int32 × Int32 × (Nat → Int32) × (Nat → Int32) × (Nat → Int32)) :=
  (f_Mo_doMoves t_mover_bestOver t_mover_bestCut t_mover_nextNode t_mover_nextPart t_mover_nextOver t_mover_nextGain t_mover_best t_mover_free t_low_cut t_low_over t_low_bounds_k t_low_bounds_least t_low_bounds_most t_low_graph_size t_low_graph_arcs t_low_graph_weight t_low_home t_low_link t_low_sum).bind (fun r138 =>
  (f_Le_bringUp x2 t_top_graph_size t_levels_holders r138.2.2.2.2.2.2.2.2.2.2.2.1 t_top_home).bind (fun r171 =>
  k60 x1 (x2 + (-1)) t_levels_fresh t_levels_count t_levels_holders t_levels_mate t_levels_number t_levels_size r138.2.2.2.2.2.2.2.2.2.1 r138.2.2.2.2.2.2.2.2.2.2.1 t_low_bounds_k t_low_bounds_least t_low_bounds_most t_low_graph_size t_low_graph_arcs t_low_graph_weight r138.2.2.2.2.2.2.2.2.2.2.2.1 r138.2.2.2.2.2.2.2.2.2.2.2.2.1 r138.2.2.2.2.2.2.2.2.2.2.2.2.2 r138.2.1 r138.2.2.1 r138.2.2.2.1 r138.2.2.2.2.1 r138.2.2.2.2.2.1 r138.2.2.2.2.2.2.1 r138.2.2.2.2.2.2.2.1 r138.2.2.2.2.2.2.2.2.1 t_search_bestOver t_search_bestCut t_search_best t_search_sum t_search_tried r171))
def J_Ba_run_180 (t_top_bounds_k : Int32) (t_top_bounds_least : Nat → Int32) (t_top_bounds_most : Nat → Int32) (t_top_graph_size : Int32) (t_top_graph_arcs : Nat → Int32) (t_top_graph_weight : Nat → Int32) (t_levels_fresh : Int32) (t_levels_count : Int32) (t_levels_holders : Nat → Int32) (t_levels_mate : Nat → Int32) (t_levels_number : Nat → Int32) (t_levels_size : Nat → Int32) (t_low_cut : Int32) (t_low_over : Int32) (t_low_bounds_k : Int32) (t_low_bounds_least : Nat → Int32) (t_low_bounds_most : Nat → Int32) (t_low_graph_size : Int32) (t_low_graph_arcs : Nat → Int32) (t_low_graph_weight : Nat → Int32) (t_low_home : Nat → Int32) (t_low_link : Nat → Int32) (t_low_sum : Nat → Int32) (t_mover_bestOver : Int32) (t_mover_bestCut : Int32) (t_mover_nextNode : Int32) (t_mover_nextPart : Int32) (t_mover_nextOver : Int32) (t_mover_nextGain : Int32) (t_mover_best : Nat → Int32) (t_mover_free : Nat → Int32) (t_search_bestOver : Int32) (t_search_bestCut : Int32) (t_search_best : Nat → Int32) (t_search_sum : Nat → Int32) (t_search_tried : Nat → Int32) (t_top_home : Nat → Int32) : Option (Int32 × Int32 × Int32 × (Nat → Int32) × (Nat → Int32) × (Nat → Int32) × (Nat → Int32) × Int32 × Int32 × Int32 × (Nat → Int32) × (Nat → Int32) × Int32 × (Nat → Int32) × (Nat → Int32) × (Nat → Int32) × (Nat → Int32) × (Nat → Int32) × Int32 × Int32 × Int32 × Int32 × Int32 × Int32 × (Nat → Int32) × (Nat → Int32) × Int32 × Int32 × (Nat → Int32) × (Nat → Int32) × (Nat → Int32) × Int32 × Int32 × (Nat → Int32) × (Nat → Int32) × (Nat → Int32)) :=
  (f_Ba_cutOrMiss t_top_bounds_k t_top_bounds_least t_top_bounds_most t_top_graph_size t_top_graph_arcs t_top_graph_weight t_top_home).bind (fun r181 =>
  some (r181.1, t_levels_fresh, t_levels_count, t_levels_holders, t_levels_mate, t_levels_number, t_levels_size, t_low_cut, t_low_over, t_low_bounds_k, t_low_bounds_least, t_low_bounds_most, t_low_graph_size, t_low_graph_arcs, t_low_graph_weight, t_low_home, t_low_link, t_low_sum, t_mover_bestOver, t_mover_bestCut, t_mover_nextNode, t_mover_nextPart, t_mover_nextOver, t_mover_nextGain, t_mover_best, t_mover_free, t_search_bestOver, t_search_bestCut, t_search_best, t_search_sum, t_search_tried, r181.2.1, r181.2.2.1, t_top_home, r181.2.2.2.1, r181.2.2.2.2))
def L_Ba_run_60 (t_top_bounds_k : Int32) (t_top_bounds_least : Nat → Int32) (t_top_bounds_most : Nat → Int32) (t_top_graph_size : Int32) (t_top_graph_arcs : Nat → Int32) (t_top_graph_weight : Nat → Int32) : Nat → Int32 → Int32 → Int32 → Int32 → (Nat → Int32) → (Nat → Int32) → (Nat → Int32) → (Nat → Int32) → Int32 → Int32 → Int32 → (Nat → Int32) → (Nat → Int32) → Int32 → (Nat → Int32) → (Nat → Int32) → (Nat → Int32) → (Nat → Int32) → (Nat → Int32) → Int32 → Int32 → Int32 → Int32 → Int32 → Int32 → (Nat → Int32) → (Nat → Int32) → Int32 → Int32 → (Nat → Int32) → (Nat → Int32) → (Nat → Int32) → (Nat → Int32) → Option (Int32 × Int32 × Int32 × (Nat → Int32) × (Nat → Int32) × (Nat → Int32) × (Nat → Int32) × Int32 × Int32 × Int32 × (Nat → Int32) × (Nat → Int32) × Int32 × (Nat → Int32) × (Nat → Int32) × (Nat → Int32) × (Nat → Int32) × (Nat → Int32) × Int32 × Int32 × Int32 × Int32 × Int32 × Int32 × (Nat → Int32) × (Nat → Int32) × Int32 × Int32 × (Nat → Int32) × (Nat → Int32) × (Nat → Int32) × Int32 × Int32 × (Nat → Int32) × (Nat → Int32) × (Nat → Int32))
  | 0, _, _, _, _, _, _, _, _, _, _, _, _, _, _, _, _, _, _, _, _, _, _, _, _, _, _, _, _, _, _, _, _, _ => none
  | n + 1, x1, x2, t_levels_fresh, t_levels_count, t_levels_holders, t_levels_mate, t_levels_number, t_levels_size, t_low_cut, t_low_over, t_low_bounds_k, t_low_bounds_least, t_low_bounds_most, t_low_graph_size, t_low_graph_arcs, t_low_graph_weight, t_low_home, t_low_link, t_low_sum, t_mover_bestOver, t_mover_bestCut, t_mover_nextNode, t_mover_nextPart, t_mover_nextOver, t_mover_nextGain, t_mover_best, t_mover_free, t_search_bestOver, t_search_bestCut, t_search_best, t_search_sum, t_search_tried, t_top_home =>
    if x2 < 0 then
      J_Ba_run_180 t_top_bounds_k t_top_bounds_least t_top_bounds_most t_top_graph_size t_top_graph_arcs t_top_graph_weight t_levels_fresh t_levels_count t_levels_holders t_levels_mate t_levels_number t_levels_size t_low_cut t_low_over t_low_bounds_k t_low_bounds_least t_low_bounds_most t_low_graph_size t_low_graph_arcs t_low_graph_weight t_low_home t_low_link t_low_sum t_mover_bestOver t_mover_bestCut t_mover_nextNode t_mover_nextPart t_mover_nextOver t_mover_nextGain t_mover_best t_mover_free t_search_bestOver t_search_bestCut t_search_best t_search_sum t_search_tried t_top_home
    else
      (f_Le_drawInto x2 t_levels_holders t_levels_size t_top_graph_size t_top_graph_arcs t_top_graph_weight).bind (fun r83 =>
      if x2 = x1 then
        (f_Ba_splitFirst t_low_bounds_k t_low_bounds_least t_low_bounds_most r83.1 r83.2.1 r83.2.2 t_low_home t_low_sum t_search_bestOver t_search_bestCut t_search_best t_search_sum t_search_tried).bind (fun r92 =>
        J_Ba_run_130 t_top_graph_size (L_Ba_run_60 t_top_bounds_k t_top_bounds_least t_top_bounds_most t_top_graph_size t_top_graph_arcs t_top_graph_weight n) x1 x2 t_levels_fresh t_levels_count t_levels_holders t_levels_mate t_levels_number t_levels_size t_low_cut t_low_over t_low_bounds_k t_low_bounds_least t_low_bounds_most r83.1 r83.2.1 r83.2.2 r92.1 t_low_link r92.2.1 t_mover_bestOver t_mover_bestCut t_mover_nextNode t_mover_nextPart t_mover_nextOver t_mover_nextGain t_mover_best t_mover_free r92.2.2.1 r92.2.2.2.1 r92.2.2.2.2.1 r92.2.2.2.2.2.1 r92.2.2.2.2.2.2 t_top_home)
      else
        (f_Le_bringDown x2 t_top_graph_size t_levels_holders t_top_home t_low_home).bind (fun r127 =>
        J_Ba_run_130 t_top_graph_size (L_Ba_run_60 t_top_bounds_k t_top_bounds_least t_top_bounds_most t_top_graph_size t_top_graph_arcs t_top_graph_weight n) x1 x2 t_levels_fresh t_levels_count t_levels_holders t_levels_mate t_levels_number t_levels_size t_low_cut t_low_over t_low_bounds_k t_low_bounds_least t_low_bounds_most r83.1 r83.2.1 r83.2.2 r127 t_low_link t_low_sum t_mover_bestOver t_mover_bestCut t_mover_nextNode t_mover_nextPart t_mover_nextOver t_mover_nextGain t_mover_best t_mover_free t_search_bestOver t_search_bestCut t_search_best t_search_sum t_search_tried t_top_home))
def f_Ba_run (t_levels_fresh : Int32) (t_levels_count : Int32) (t_levels_holders : Nat → Int32) (t_levels_mate : Nat → Int32) (t_levels_number : Nat → Int32) (t_levels_size : Nat → Int32) (t_low_cut : Int32) (t_low_over : Int32) (t_low_bounds_least : Nat → Int32) (t_low_bounds_most : Nat → Int32) (t_low_graph_size : Int32) (t_low_graph_arcs : Nat → Int32) (t_low_graph_weight : Nat → Int32) (t_low_home : Nat → Int32) (t_low_link : Nat → Int32) (t_low_sum : Nat → Int32) (t_mover_bestOver : Int32) (t_mover_bestCut : Int32) (t_mover_nextNode : Int32) (t_mover_nextPart : Int32) (t_mover_nextOver : Int32) (t_mover_nextGain : Int32) (t_mover_best : Nat → Int32) (t_mover_free : Nat → Int32) (t_search_bestOver : Int32) (t_search_bestCut : Int32) (t_search_best : Nat → Int32) (t_search_sum : Nat → Int32) (t_search_tried : Nat → Int32) (t_top_bounds_k : Int32) (t_top_bounds_least : Nat → Int32) (t_top_bounds_most : Nat → Int32) (t_top_graph_size : Int32) (t_top_graph_arcs : Nat → Int32) (t_top_graph_weight : Nat → Int32) (t_top_home : Nat → Int32) : Option (Int32 × Int32 × Int32 × (Nat → Int32) × (Nat → Int32) × (Nat → Int32) × (Nat → Int32) × Int32 × Int32 × Int32 × (Nat → Int32) × (Nat → Int32) × Int32 × (Nat → Int32) × (Nat → Int32) × (Nat → Int32) × (Nat → Int32) × (Nat → Int32) × Int32 × Int32 × Int32 × Int32 × Int32 × Int32 × (Nat → Int32) × (Nat → Int32) × Int32 × Int32 × (Nat → Int32) × (Nat → Int32) × (Nat → Int32) × Int32 × Int32 × (Nat → Int32) × (Nat → Int32) × (Nat → Int32)) :=
  (f_Le_renew t_top_bounds_k t_levels_fresh t_levels_count t_levels_holders t_levels_mate t_levels_number t_levels_size t_top_graph_size t_top_graph_arcs t_top_graph_weight t_low_graph_size t_low_graph_arcs t_low_graph_weight).bind (fun r28 =>
  (f_Bo_copyOf t_low_bounds_least t_low_bounds_most t_top_bounds_k t_top_bounds_least t_top_bounds_most).bind (fun r45 =>
  L_Ba_run_60 t_top_bounds_k t_top_bounds_least t_top_bounds_most t_top_graph_size t_top_graph_arcs t_top_graph_weight 64 (r28.2.1 - 1) (r28.2.1 - 1) r28.1 r28.2.1 r28.2.2.1 r28.2.2.2.1 r28.2.2.2.2.1 r28.2.2.2.2.2.1 t_low_cut t_low_over r45.1 r45.2.1 r45.2.2 r28.2.2.2.2.2.2.1 r28.2.2.2.2.2.2.2.1 r28.2.2.2.2.2.2.2.2 t_low_home t_low_link t_low_sum t_mover_bestOver t_mover_bestCut t_mover_nextNode t_mover_nextPart t_mover_nextOver t_mover_nextGain t_mover_best t_mover_free t_search_bestOver t_search_bestCut t_search_best t_search_sum t_search_tried t_top_home))
def f_Ba_refine (t_mover_bestOver : Int32) (t_mover_bestCut : Int32) (t_mover_nextNode : Int32) (t_mover_nextPart : Int32) (t_mover_nextOver : Int32) (t_mover_nextGain : Int32) (t_mover_best : Nat → Int32) (t_mover_free : Nat → Int32) (t_top_cut : Int32) (t_top_over : Int32) (t_top_bounds_k : Int32) (t_top_bounds_least : Nat → Int32) (t_top_bounds_most : Nat → Int32) (t_top_graph_size : Int32) (t_top_graph_arcs : Nat → Int32) (t_top_graph_weight : Nat → Int32) (t_top_home : Nat → Int32) (t_top_link : Nat → Int32) (t_top_sum : Nat → Int32) : Option (Int32 × Int32 × Int32 × Int32 × Int32 × Int32 × Int32 × (Nat → Int32) × (Nat → Int32) × Int32 × Int32 × (Nat → Int32) × (Nat → Int32) × (Nat → Int32)) :=
  (f_Mo_doMoves t_mover_bestOver t_mover_bestCut t_mover_nextNode t_mover_nextPart t_mover_nextOver t_mover_nextGain t_mover_best t_mover_free t_top_cut t_top_over t_top_bounds_k t_top_bounds_least t_top_bounds_most t_top_graph_size t_top_graph_arcs t_top_graph_weight t_top_home t_top_link t_top_sum).bind (fun r8 =>
  some (r8.1, r8.2.1, r8.2.2.1, r8.2.2.2.1, r8.2.2.2.2.1, r8.2.2.2.2.2.1, r8.2.2.2.2.2.2.1, r8.2.2.2.2.2.2.2.1, r8.2.2.2.2.2.2.2.2.1, r8.2.2.2.2.2.2.2.2.2.1, r8.2.2.2.2.2.2.2.2.2.2.1, r8.2.2.2.2.2.2.2.2.2.2.2.1, r8.2.2.2.2.2.2.2.2.2.2.2.2.1, r8.2.2.2.2.2.2.2.2.2.2.2.2.2))
def f_Ba_grow (t_top_bounds_k : Int32) (t_top_bounds_least : Nat → Int32) (t_top_bounds_most : Nat → Int32) (t_top_graph_size : Int32) (t_top_graph_arcs : Nat → Int32) (t_top_graph_weight : Nat → Int32) : Option (Int32 × Int32 × Int32 × (Nat → Int32) × (Nat → Int32) × (Nat → Int32)) :=
  (f_Sp_growAll t_top_bounds_k t_top_bounds_most t_top_graph_size t_top_graph_weight).bind (fun r4 =>
  (f_Sp_recount t_top_bounds_k t_top_bounds_least t_top_bounds_most t_top_graph_size t_top_graph_arcs t_top_graph_weight r4.1).bind (fun r11 =>
  some (r11.1, r11.1, r11.2.1, r4.1, r11.2.2.1, r11.2.2.2)))
def f_Ba_stream (x1 : Int32) (x2 : Int32) (t_orders_row : Nat → Int32) (t_orders_waiting : Nat → Int32) (t_top_cut : Int32) (t_top_over : Int32) (t_top_bounds_k : Int32) (t_top_bounds_least : Nat → Int32) (t_top_bounds_most : Nat → Int32) (t_top_graph_size : Int32) (t_top_graph_arcs : Nat → Int32) (t_top_graph_weight : Nat → Int32) (t_top_home : Nat → Int32) (t_top_link : Nat → Int32) (t_top_sum : Nat → Int32) : Option (Int32 × (Nat → Int32) × (Nat → Int32) × Int32 × Int32 × (Nat → Int32) × (Nat → Int32) × (Nat → Int32)) :=
  if x2 < 0 then
    some (-1, t_orders_row, t_orders_waiting, t_top_cut, t_top_over, t_top_home, t_top_link, t_top_sum)
  else
    if x2 ≤ 1000 then
      (f_Od_draw x1 t_top_graph_size t_orders_row t_orders_waiting).bind (fun r28 =>
      (f_Sp_streamAll x2 t_top_bounds_k t_top_bounds_most t_top_graph_size t_top_graph_arcs t_top_graph_weight r28.1).bind (fun r43 =>
      (f_Sp_recount t_top_bounds_k t_top_bounds_least t_top_bounds_most t_top_graph_size t_top_graph_arcs t_top_graph_weight r43.1).bind (fun r50 =>
      some (r50.1, r28.1, r28.2, r50.1, r50.2.1, r43.1, r50.2.2.1, r50.2.2.2))))
    else
      some (-1, t_orders_row, t_orders_waiting, t_top_cut, t_top_over, t_top_home, t_top_link, t_top_sum)
def f_Ba_order (x1 : Int32) (x2 : Int32) (t_orders_row : Nat → Int32) (t_orders_waiting : Nat → Int32) (t_top_graph_size : Int32) : Option (Int32 × (Nat → Int32) × (Nat → Int32)) :=
  (f_Gr_has x2 t_top_graph_size).bind (fun r8 =>
  if r8 = 0 then
    some (-2, t_orders_row, t_orders_waiting)
  else
    (f_Od_draw x1 t_top_graph_size t_orders_row t_orders_waiting).bind (fun r32 =>
    ck (okb x2 40) (
    some (r32.1 (x2).toNatClampNeg, r32.1, r32.2))))
def J_Ba_hasTooManySplits_43 (x1 : Int32) : Option (Int32) :=
  if x1 ≤ 60000 then
    some 0
  else
    some 1
def L_Ba_hasTooManySplits_4 (t_top_bounds_k : Int32) (t_top_graph_size : Int32) : Nat → Int32 → Int32 → Option (Int32)
  | 0, _, _ => none
  | n + 1, x1, x2 =>
    if t_top_graph_size ≤ x2 then
      J_Ba_hasTooManySplits_43 x1
    else
      if 60000 < x1 then
        J_Ba_hasTooManySplits_43 x1
      else
        L_Ba_hasTooManySplits_4 t_top_bounds_k t_top_graph_size n (x1 * t_top_bounds_k) (x2 + 1)
def f_Ba_hasTooManySplits (t_top_bounds_k : Int32) (t_top_graph_size : Int32) : Option (Int32) :=
  L_Ba_hasTooManySplits_4 t_top_bounds_k t_top_graph_size 64 1 0
def f_Ba_exact (t_search_bestOver : Int32) (t_search_bestCut : Int32) (t_search_best : Nat → Int32) (t_search_sum : Nat → Int32) (t_search_tried : Nat → Int32) (t_top_cut : Int32) (t_top_over : Int32) (t_top_bounds_k : Int32) (t_top_bounds_least : Nat → Int32) (t_top_bounds_most : Nat → Int32) (t_top_graph_size : Int32) (t_top_graph_arcs : Nat → Int32) (t_top_graph_weight : Nat → Int32) (t_top_home : Nat → Int32) (t_top_link : Nat → Int32) (t_top_sum : Nat → Int32) : Option (Int32 × Int32 × Int32 × (Nat → Int32) × (Nat → Int32) × (Nat → Int32) × Int32 × Int32 × (Nat → Int32) × (Nat → Int32) × (Nat → Int32)) :=
  (f_Ba_hasTooManySplits t_top_bounds_k t_top_graph_size).bind (fun r1 =>
  if r1 = 0 then
    (f_Se_findBest t_search_best t_search_tried t_top_bounds_k t_top_bounds_least t_top_bounds_most t_top_graph_size t_top_graph_arcs t_top_graph_weight t_top_home).bind (fun r18 =>
    (f_Ba_cutOrMiss t_top_bounds_k t_top_bounds_least t_top_bounds_most t_top_graph_size t_top_graph_arcs t_top_graph_weight r18.2.2.2.2.2).bind (fun r22 =>
    some (r22.1, r18.1, r18.2.1, r18.2.2.1, r18.2.2.2.1, r18.2.2.2.2.1, r22.2.1, r22.2.2.1, r18.2.2.2.2.2, r22.2.2.2.1, r22.2.2.2.2)))
  else
    some (-4, t_search_bestOver, t_search_bestCut, t_search_best, t_search_sum, t_search_tried, t_top_cut, t_top_over, t_top_home, t_top_link, t_top_sum))
def f_Ba_separator (x1 : Int32) (t_divider_inside : Nat → Int32) (t_divider_open : Nat → Int32) (t_top_graph_size : Int32) (t_top_graph_arcs : Nat → Int32) (t_top_graph_weight : Nat → Int32) (t_top_home : Nat → Int32) : Option (Int32 × Int32 × (Nat → Int32) × (Nat → Int32)) :=
  (f_Di_find t_divider_inside t_divider_open t_top_graph_size t_top_graph_arcs t_top_graph_weight t_top_home).bind (fun r8 =>
  (f_Di_nodeAt x1 r8.1 r8.2.1).bind (fun r16 =>
  some (r16, r8.1, r8.2.1, r8.2.2)))
def f_Ba_count (x1 : Int32) (t_divider_nodes : Int32) (t_divider_inside : Nat → Int32) (t_divider_open : Nat → Int32) (t_levels_fresh : Int32) (t_levels_count : Int32) (t_levels_holders : Nat → Int32) (t_levels_mate : Nat → Int32) (t_levels_number : Nat → Int32) (t_levels_size : Nat → Int32) (t_low_graph_size : Int32) (t_low_graph_arcs : Nat → Int32) (t_low_graph_weight : Nat → Int32) (t_top_cut : Int32) (t_top_over : Int32) (t_top_bounds_k : Int32) (t_top_bounds_least : Nat → Int32) (t_top_bounds_most : Nat → Int32) (t_top_graph_size : Int32) (t_top_graph_arcs : Nat → Int32) (t_top_graph_weight : Nat → Int32) (t_top_home : Nat → Int32) (t_top_link : Nat → Int32) (t_top_sum : Nat → Int32) : Option (Int32 × Int32 × (Nat → Int32) × (Nat → Int32) × Int32 × Int32 × (Nat → Int32) × (Nat → Int32) × (Nat → Int32) × (Nat → Int32) × Int32 × (Nat → Int32) × (Nat → Int32) × Int32 × Int32 × (Nat → Int32) × (Nat → Int32)) :=
  if x1 = 0 then
    some (t_top_graph_size, t_divider_nodes, t_divider_inside, t_divider_open, t_levels_fresh, t_levels_count, t_levels_holders, t_levels_mate, t_levels_number, t_levels_size, t_low_graph_size, t_low_graph_arcs, t_low_graph_weight, t_top_cut, t_top_over, t_top_link, t_top_sum)
  else
    if x1 = 1 then
      some (t_top_bounds_k, t_divider_nodes, t_divider_inside, t_divider_open, t_levels_fresh, t_levels_count, t_levels_holders, t_levels_mate, t_levels_number, t_levels_size, t_low_graph_size, t_low_graph_arcs, t_low_graph_weight, t_top_cut, t_top_over, t_top_link, t_top_sum)
    else
      if x1 = 2 then
        (f_Gr_arcCount t_top_graph_size t_top_graph_arcs).bind (fun r69 =>
        some (r69, t_divider_nodes, t_divider_inside, t_divider_open, t_levels_fresh, t_levels_count, t_levels_holders, t_levels_mate, t_levels_number, t_levels_size, t_low_graph_size, t_low_graph_arcs, t_low_graph_weight, t_top_cut, t_top_over, t_top_link, t_top_sum))
      else
        if x1 = 3 then
          (f_Le_renew t_top_bounds_k t_levels_fresh t_levels_count t_levels_holders t_levels_mate t_levels_number t_levels_size t_top_graph_size t_top_graph_arcs t_top_graph_weight t_low_graph_size t_low_graph_arcs t_low_graph_weight).bind (fun r101 =>
          some (r101.2.1, t_divider_nodes, t_divider_inside, t_divider_open, r101.1, r101.2.1, r101.2.2.1, r101.2.2.2.1, r101.2.2.2.2.1, r101.2.2.2.2.2.1, r101.2.2.2.2.2.2.1, r101.2.2.2.2.2.2.2.1, r101.2.2.2.2.2.2.2.2, t_top_cut, t_top_over, t_top_link, t_top_sum))
        else
          if x1 = 4 then
            (f_Di_find t_divider_inside t_divider_open t_top_graph_size t_top_graph_arcs t_top_graph_weight t_top_home).bind (fun r120 =>
            (f_Di_held r120.1 r120.2.1).bind (fun r127 =>
            some (r127, r120.1, r120.2.1, r120.2.2, t_levels_fresh, t_levels_count, t_levels_holders, t_levels_mate, t_levels_number, t_levels_size, t_low_graph_size, t_low_graph_arcs, t_low_graph_weight, t_top_cut, t_top_over, t_top_link, t_top_sum)))
          else
            if x1 = 5 then
              (f_Sp_recount t_top_bounds_k t_top_bounds_least t_top_bounds_most t_top_graph_size t_top_graph_arcs t_top_graph_weight t_top_home).bind (fun r135 =>
              (f_Sp_volumes t_top_bounds_k t_top_graph_size t_top_home r135.2.2.1).bind (fun r142 =>
              some (r142, t_divider_nodes, t_divider_inside, t_divider_open, t_levels_fresh, t_levels_count, t_levels_holders, t_levels_mate, t_levels_number, t_levels_size, t_low_graph_size, t_low_graph_arcs, t_low_graph_weight, r135.1, r135.2.1, r135.2.2.1, r135.2.2.2)))
            else
              some (-1, t_divider_nodes, t_divider_inside, t_divider_open, t_levels_fresh, t_levels_count, t_levels_holders, t_levels_mate, t_levels_number, t_levels_size, t_low_graph_size, t_low_graph_arcs, t_low_graph_weight, t_top_cut, t_top_over, t_top_link, t_top_sum)
