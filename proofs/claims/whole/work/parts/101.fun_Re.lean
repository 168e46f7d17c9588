def f_Re_isIn (x0 : Int64) (x2 : Int64) (x4 : Int64) : Option (Int32) :=
  if (lg_cmp x0 x2) < 0 then
    some 0
  else
    if 0 < (lg_cmp x0 x4) then
      some 0
    else
      some 1
def J_Re_node_92 (t_nodes : Int32) (t_arcs : Nat → Int32) (t_split : Nat → Int32) (t_weight : Nat → Int32) : Option (Int32 × Int32 × (Nat → Int32) × (Nat → Int32) × (Nat → Int32)) :=
  some (t_nodes, t_nodes + 1, t_arcs, t_split, t_weight)
def L_Re_node_48 (t_nodes : Int32) : Nat → Int32 → (Nat → Int32) → (Nat → Int32) → (Nat → Int32) → Option (Int32 × Int32 × (Nat → Int32) × (Nat → Int32) × (Nat → Int32))
  | 0, _, _, _, _ => none
  | n + 1, x2, t_arcs, t_split, t_weight =>
    if t_nodes < x2 then
      J_Re_node_92 t_nodes t_arcs t_split t_weight
    else
      ck (okb ((40 * t_nodes) + x2) 1600) (
      ck (okb ((40 * x2) + t_nodes) 1600) (
      L_Re_node_48 t_nodes n (x2 + 1) (upd (upd t_arcs ((40 * t_nodes) + x2).toNatClampNeg 0) ((40 * x2) + t_nodes).toNatClampNeg 0) t_split t_weight))
def f_Re_node (x1 : Int32) (t_nodes : Int32) (t_arcs : Nat → Int32) (t_split : Nat → Int32) (t_weight : Nat → Int32) : Option (Int32 × Int32 × (Nat → Int32) × (Nat → Int32) × (Nat → Int32)) :=
  (f_Re_isIn x1.toInt64 (1 : Int64) (1000 : Int64)).bind (fun r6 =>
  if r6 = 0 then
    some (-1, t_nodes, t_arcs, t_split, t_weight)
  else
    if t_nodes = 40 then
      some (-3, t_nodes, t_arcs, t_split, t_weight)
    else
      ck (okb t_nodes 40) (
      ck (okb t_nodes 40) (
      L_Re_node_48 t_nodes 64 0 t_arcs (upd t_split (t_nodes).toNatClampNeg 0) (upd t_weight (t_nodes).toNatClampNeg x1))))
def f_Re_isNode (x1 : Int32) (t_nodes : Int32) : Option (Int32) :=
  (f_Re_isIn x1.toInt64 (0 : Int64) ((t_nodes - 1).toInt64)).bind (fun r10 =>
  ck (okB r10) (
  some r10))
def f_Re_arc (x1 : Int32) (x2 : Int32) (x3 : Int32) (t_nodes : Int32) (t_arcs : Nat → Int32) : Option (Int32 × (Nat → Int32)) :=
  (f_Re_isNode x1 t_nodes).bind (fun r2 =>
  if r2 = 0 then
    some (-1, t_arcs)
  else
    (f_Re_isNode x2 t_nodes).bind (fun r10 =>
    if r10 = 0 then
      some (-1, t_arcs)
    else
      if x1 = x2 then
        some (-1, t_arcs)
      else
        (f_Re_isIn x3.toInt64 (1 : Int64) (1000 : Int64)).bind (fun r27 =>
        if r27 = 0 then
          some (-1, t_arcs)
        else
          ck (okb ((40 * x1) + x2) 1600) (
          if ((t_arcs ((40 * x1) + x2).toNatClampNeg) + x3) ≤ 1000000 then
            ck (okb ((40 * x1) + x2) 1600) (
            ck (okb ((40 * x2) + x1) 1600) (
            some ((t_arcs ((40 * x1) + x2).toNatClampNeg) + x3, upd (upd t_arcs ((40 * x1) + x2).toNatClampNeg ((t_arcs ((40 * x1) + x2).toNatClampNeg) + x3)) ((40 * x2) + x1).toNatClampNeg ((t_arcs ((40 * x1) + x2).toNatClampNeg) + x3))))
          else
            some (-3, t_arcs)))))
def L_Re_parts_56 (t_nodes : Int32) : Nat → Int32 → Int32 → Int32 → (Nat → Int32) → (Nat → Int32) → (Nat → Int32) → Option (Int32 × Int32 × (Nat → Int32) × (Nat → Int32) × (Nat → Int32))
  | 0, _, _, _, _, _, _ => none
  | n + 1, x2, x3, t_kinds, t_least, t_most, t_split =>
    if t_nodes ≤ x3 then
      some (x2, t_kinds, t_least, t_most, t_split)
    else
      ck (okb x3 40) (
      L_Re_parts_56 t_nodes n x2 (x3 + 1) t_kinds t_least t_most (upd t_split (x3).toNatClampNeg 0))
def L_Re_parts_28 (t_nodes : Int32) (t_split : Nat → Int32) : Nat → Int32 → Int32 → Int32 → (Nat → Int32) → (Nat → Int32) → Option (Int32 × Int32 × (Nat → Int32) × (Nat → Int32) × (Nat → Int32))
  | 0, _, _, _, _, _ => none
  | n + 1, x2, x3, t_kinds, t_least, t_most =>
    if 4 ≤ x3 then
      L_Re_parts_56 t_nodes 64 x2 0 t_kinds t_least t_most t_split
    else
      ck (okb x3 4) (
      ck (okb x3 4) (
      L_Re_parts_28 t_nodes t_split n x2 (x3 + 1) t_kinds (upd t_least (x3).toNatClampNeg 0) (upd t_most (x3).toNatClampNeg 1000000)))
def f_Re_parts (x1 : Int32) (t_nodes : Int32) (t_kinds : Int32) (t_least : Nat → Int32) (t_most : Nat → Int32) (t_split : Nat → Int32) : Option (Int32 × Int32 × (Nat → Int32) × (Nat → Int32) × (Nat → Int32)) :=
  (f_Re_isIn x1.toInt64 (2 : Int64) (4 : Int64)).bind (fun r8 =>
  if r8 = 0 then
    some (-1, t_kinds, t_least, t_most, t_split)
  else
    L_Re_parts_28 t_nodes t_split 64 t_kinds 0 x1 t_least t_most)
def f_Re_isPart (x1 : Int32) (t_kinds : Int32) : Option (Int32) :=
  (f_Re_isIn x1.toInt64 (0 : Int64) ((t_kinds - 1).toInt64)).bind (fun r10 =>
  ck (okB r10) (
  some r10))
def f_Re_bound (x1 : Int32) (x2 : Int32) (x3 : Int32) (t_kinds : Int32) (t_least : Nat → Int32) (t_most : Nat → Int32) : Option (Int32 × (Nat → Int32) × (Nat → Int32)) :=
  (f_Re_isPart x1 t_kinds).bind (fun r2 =>
  if r2 = 0 then
    some (-1, t_least, t_most)
  else
    (f_Re_isIn x2.toInt64 (0 : Int64) (1000000 : Int64)).bind (fun r14 =>
    if r14 = 0 then
      some (-1, t_least, t_most)
    else
      (f_Re_isIn x3.toInt64 x2.toInt64 (1000000 : Int64)).bind (fun r27 =>
      if r27 = 0 then
        some (-1, t_least, t_most)
      else
        ck (okb x1 4) (
        ck (okb x1 4) (
        some (0, upd t_least (x1).toNatClampNeg x2, upd t_most (x1).toNatClampNeg x3))))))
def f_Re_put (x1 : Int32) (x2 : Int32) (t_nodes : Int32) (t_kinds : Int32) (t_split : Nat → Int32) : Option (Int32 × (Nat → Int32)) :=
  (f_Re_isNode x1 t_nodes).bind (fun r2 =>
  if r2 = 0 then
    some (-1, t_split)
  else
    (f_Re_isPart x2 t_kinds).bind (fun r10 =>
    if r10 = 0 then
      some (-1, t_split)
    else
      ck (okb x1 40) (
      ck (okb x1 40) (
      some (t_split (x1).toNatClampNeg, upd t_split (x1).toNatClampNeg x2)))))
def f_Re_clear (t_nodes : Int32) (t_kinds : Int32) (t_least : Nat → Int32) (t_most : Nat → Int32) (t_split : Nat → Int32) : Option (Int32 × Int32 × Int32 × (Nat → Int32) × (Nat → Int32) × (Nat → Int32)) :=
  (f_Re_parts 2 0 t_kinds t_least t_most t_split).bind (fun r12 =>
  some (t_nodes, 0, r12.2.1, r12.2.2.1, r12.2.2.2.1, r12.2.2.2.2))
def J_Re_mate_150 (k9 : Int32 → Int32 → Int32 → Option (Int32)) (y0 : Int32) (x5 : Int32) (x6 : Int32) (x7 : Int32) (x8 : Int32) : Option (Int32) :=
  if y0 = 0 then
    k9 x5 x6 (x7 + 1)
  else
    k9 x7 x8 (x7 + 1)
def J_Re_mate_145 (k9 : Int32 → Int32 → Int32 → Option (Int32)) (x5 : Int32) (x6 : Int32) (x7 : Int32) (x8 : Int32) : Option (Int32) :=
  J_Re_mate_150 k9 1 x5 x6 x7 x8
def J_Re_mate_149 (k9 : Int32 → Int32 → Int32 → Option (Int32)) (x5 : Int32) (x6 : Int32) (x7 : Int32) (x8 : Int32) : Option (Int32) :=
  J_Re_mate_150 k9 0 x5 x6 x7 x8
def L_Re_mate_9 (x1 : Int32) (x2 : Int32) (x3 : Int64) (t_levelArc : Nat → Int32) (t_levelIn : Nat → Int32) (t_levelNodes : Nat → Int32) (t_levelWeight : Nat → Int32) : Nat → Int32 → Int32 → Int32 → Option (Int32)
  | 0, _, _, _ => none
  | n + 1, x5, x6, x7 =>
    ck (okb x1 41) (
    if (t_levelNodes (x1).toNatClampNeg) ≤ x7 then
      some x5
    else
      ck (okb (((1600 * x1) + (40 * x2)) + x7) 65600) (
      if x7 = x2 then
        L_Re_mate_9 x1 x2 x3 t_levelArc t_levelIn t_levelNodes t_levelWeight n x5 x6 (x7 + 1)
      else
        if (t_levelArc (((1600 * x1) + (40 * x2)) + x7).toNatClampNeg) = 0 then
          L_Re_mate_9 x1 x2 x3 t_levelArc t_levelIn t_levelNodes t_levelWeight n x5 x6 (x7 + 1)
        else
          ck (okb ((40 * x1) + x7) 1640) (
          if 0 ≤ (t_levelIn ((40 * x1) + x7).toNatClampNeg) then
            L_Re_mate_9 x1 x2 x3 t_levelArc t_levelIn t_levelNodes t_levelWeight n x5 x6 (x7 + 1)
          else
            ck (okb ((40 * x1) + x2) 1640) (
            ck (okb ((40 * x1) + x7) 1640) (
            if (lg_cmp (((t_levelWeight ((40 * x1) + x2).toNatClampNeg) + (t_levelWeight ((40 * x1) + x7).toNatClampNeg)).toInt64) x3) ≤ 0 then
              if x5 < 0 then
                J_Re_mate_145 (L_Re_mate_9 x1 x2 x3 t_levelArc t_levelIn t_levelNodes t_levelWeight n) x5 x6 x7 (t_levelArc (((1600 * x1) + (40 * x2)) + x7).toNatClampNeg)
              else
                if x6 < (t_levelArc (((1600 * x1) + (40 * x2)) + x7).toNatClampNeg) then
                  J_Re_mate_145 (L_Re_mate_9 x1 x2 x3 t_levelArc t_levelIn t_levelNodes t_levelWeight n) x5 x6 x7 (t_levelArc (((1600 * x1) + (40 * x2)) + x7).toNatClampNeg)
                else
                  if (t_levelArc (((1600 * x1) + (40 * x2)) + x7).toNatClampNeg) = x6 then
                    ck (okb ((40 * x1) + x7) 1640) (
                    ck (okb ((40 * x1) + x5) 1640) (
                    if (t_levelWeight ((40 * x1) + x5).toNatClampNeg) ≤ (t_levelWeight ((40 * x1) + x7).toNatClampNeg) then
                      J_Re_mate_149 (L_Re_mate_9 x1 x2 x3 t_levelArc t_levelIn t_levelNodes t_levelWeight n) x5 x6 x7 (t_levelArc (((1600 * x1) + (40 * x2)) + x7).toNatClampNeg)
                    else
                      J_Re_mate_145 (L_Re_mate_9 x1 x2 x3 t_levelArc t_levelIn t_levelNodes t_levelWeight n) x5 x6 x7 (t_levelArc (((1600 * x1) + (40 * x2)) + x7).toNatClampNeg)))
                  else
                    J_Re_mate_149 (L_Re_mate_9 x1 x2 x3 t_levelArc t_levelIn t_levelNodes t_levelWeight n) x5 x6 x7 (t_levelArc (((1600 * x1) + (40 * x2)) + x7).toNatClampNeg)
            else
              L_Re_mate_9 x1 x2 x3 t_levelArc t_levelIn t_levelNodes t_levelWeight n x5 x6 (x7 + 1))))))
def f_Re_mate (x1 : Int32) (x2 : Int32) (x3 : Int64) (t_levelArc : Nat → Int32) (t_levelIn : Nat → Int32) (t_levelNodes : Nat → Int32) (t_levelWeight : Nat → Int32) : Option (Int32) :=
  L_Re_mate_9 x1 x2 x3 t_levelArc t_levelIn t_levelNodes t_levelWeight 64 (-1) 0 0
def L_Re_next_195 (t_levels : Int32) (k169 : Int32 → Int32 → Int32 → (Nat → Int32) → (Nat → Int32) → (Nat → Int32) → (Nat → Int32) → Option (Int32 × Int32 × (Nat → Int32) × (Nat → Int32) × (Nat → Int32) × (Nat → Int32))) : Nat → Int32 → Int32 → Int32 → Int32 → (Nat → Int32) → (Nat → Int32) → (Nat → Int32) → (Nat → Int32) → Option (Int32 × Int32 × (Nat → Int32) × (Nat → Int32) × (Nat → Int32) × (Nat → Int32))
  | 0, _, _, _, _, _, _, _, _ => none
  | n + 1, x2, x7, x8, x9, t_levelArc, t_levelIn, t_levelNodes, t_levelWeight =>
    if x7 ≤ x9 then
      k169 x2 x7 (x8 + 1) t_levelArc t_levelIn t_levelNodes t_levelWeight
    else
      ck (okb (((1600 * t_levels) + (40 * x8)) + x9) 65600) (
      L_Re_next_195 t_levels k169 n x2 x7 x8 (x9 + 1) (upd t_levelArc (((1600 * t_levels) + (40 * x8)) + x9).toNatClampNeg 0) t_levelIn t_levelNodes t_levelWeight)
def L_Re_next_293 (x1 : Int32) (t_levels : Int32) (k240 : Int32 → Int32 → (Nat → Int32) → (Nat → Int32) → (Nat → Int32) → (Nat → Int32) → Option (Int32 × Int32 × (Nat → Int32) × (Nat → Int32) × (Nat → Int32) × (Nat → Int32))) : Nat → Int32 → Int32 → Int32 → Int32 → (Nat → Int32) → (Nat → Int32) → (Nat → Int32) → (Nat → Int32) → Option (Int32 × Int32 × (Nat → Int32) × (Nat → Int32) × (Nat → Int32) × (Nat → Int32))
  | 0, _, _, _, _, _, _, _, _ => none
  | n + 1, x2, x8, x9, x10, t_levelArc, t_levelIn, t_levelNodes, t_levelWeight =>
    if x2 ≤ x10 then
      k240 x2 (x8 + 1) t_levelArc t_levelIn t_levelNodes t_levelWeight
    else
      ck (okb ((40 * x1) + x10) 1640) (
      if (t_levelIn ((40 * x1) + x10).toNatClampNeg) = x9 then
        L_Re_next_293 x1 t_levels k240 n x2 x8 x9 (x10 + 1) t_levelArc t_levelIn t_levelNodes t_levelWeight
      else
        ck (okb ((40 * x1) + x10) 1640) (
        ck (okb (((1600 * t_levels) + (40 * x9)) + (t_levelIn ((40 * x1) + x10).toNatClampNeg)) 65600) (
        ck (okb (((1600 * x1) + (40 * x8)) + x10) 65600) (
        ck (okb (((1600 * t_levels) + (40 * x9)) + (t_levelIn ((40 * x1) + x10).toNatClampNeg)) 65600) (
        L_Re_next_293 x1 t_levels k240 n x2 x8 x9 (x10 + 1) (upd t_levelArc (((1600 * t_levels) + (40 * x9)) + (t_levelIn ((40 * x1) + x10).toNatClampNeg)).toNatClampNeg ((t_levelArc (((1600 * t_levels) + (40 * x9)) + (t_levelIn ((40 * x1) + x10).toNatClampNeg)).toNatClampNeg) + (t_levelArc (((1600 * x1) + (40 * x8)) + x10).toNatClampNeg))) t_levelIn t_levelNodes t_levelWeight)))))
def J_Re_next_382 (t_levels : Int32) (t_levelArc : Nat → Int32) (t_levelIn : Nat → Int32) (t_levelNodes : Nat → Int32) (t_levelWeight : Nat → Int32) : Option (Int32 × Int32 × (Nat → Int32) × (Nat → Int32) × (Nat → Int32) × (Nat → Int32)) :=
  some (1, t_levels + 1, t_levelArc, t_levelIn, t_levelNodes, t_levelWeight)
def L_Re_next_240 (x1 : Int32) (t_levels : Int32) : Nat → Int32 → Int32 → (Nat → Int32) → (Nat → Int32) → (Nat → Int32) → (Nat → Int32) → Option (Int32 × Int32 × (Nat → Int32) × (Nat → Int32) × (Nat → Int32) × (Nat → Int32))
  | 0, _, _, _, _, _, _ => none
  | n + 1, x2, x8, t_levelArc, t_levelIn, t_levelNodes, t_levelWeight =>
    if x2 ≤ x8 then
      J_Re_next_382 t_levels t_levelArc t_levelIn t_levelNodes t_levelWeight
    else
      ck (okb ((40 * x1) + x8) 1640) (
      ck (okb ((40 * t_levels) + (t_levelIn ((40 * x1) + x8).toNatClampNeg)) 1640) (
      ck (okb ((40 * x1) + x8) 1640) (
      ck (okb ((40 * t_levels) + (t_levelIn ((40 * x1) + x8).toNatClampNeg)) 1640) (
      L_Re_next_293 x1 t_levels (L_Re_next_240 x1 t_levels n) 64 x2 x8 (t_levelIn ((40 * x1) + x8).toNatClampNeg) 0 t_levelArc t_levelIn t_levelNodes (upd t_levelWeight ((40 * t_levels) + (t_levelIn ((40 * x1) + x8).toNatClampNeg)).toNatClampNeg ((t_levelWeight ((40 * t_levels) + (t_levelIn ((40 * x1) + x8).toNatClampNeg)).toNatClampNeg) + (t_levelWeight ((40 * x1) + x8).toNatClampNeg)))))))
def L_Re_next_169 (x1 : Int32) (t_levels : Int32) : Nat → Int32 → Int32 → Int32 → (Nat → Int32) → (Nat → Int32) → (Nat → Int32) → (Nat → Int32) → Option (Int32 × Int32 × (Nat → Int32) × (Nat → Int32) × (Nat → Int32) × (Nat → Int32))
  | 0, _, _, _, _, _, _, _ => none
  | n + 1, x2, x7, x8, t_levelArc, t_levelIn, t_levelNodes, t_levelWeight =>
    if x7 ≤ x8 then
      L_Re_next_240 x1 t_levels 64 x2 0 t_levelArc t_levelIn t_levelNodes t_levelWeight
    else
      ck (okb ((40 * t_levels) + x8) 1640) (
      L_Re_next_195 t_levels (L_Re_next_169 x1 t_levels n) 64 x2 x7 x8 0 t_levelArc t_levelIn t_levelNodes (upd t_levelWeight ((40 * t_levels) + x8).toNatClampNeg 0))
def J_Re_next_147 (x1 : Int32) (t_levels : Int32) (t_levelArc : Nat → Int32) (t_levelNodes : Nat → Int32) (t_levelWeight : Nat → Int32) (x2 : Int32) (x7 : Int32) (t_levelIn : Nat → Int32) : Option (Int32 × Int32 × (Nat → Int32) × (Nat → Int32) × (Nat → Int32) × (Nat → Int32)) :=
  if x7 = x2 then
    some (0, t_levels, t_levelArc, t_levelIn, t_levelNodes, t_levelWeight)
  else
    ck (okb t_levels 41) (
    L_Re_next_169 x1 t_levels 64 x2 x7 0 t_levelArc t_levelIn (upd t_levelNodes (t_levels).toNatClampNeg x7) t_levelWeight)
def L_Re_next_70 (x1 : Int32) (t_levels : Int32) (t_levelArc : Nat → Int32) (t_levelNodes : Nat → Int32) (t_levelWeight : Nat → Int32) : Nat → Int32 → Int64 → Int32 → Int32 → (Nat → Int32) → Option (Int32 × Int32 × (Nat → Int32) × (Nat → Int32) × (Nat → Int32) × (Nat → Int32))
  | 0, _, _, _, _, _ => none
  | n + 1, x2, x5, x7, x8, t_levelIn =>
    if x2 ≤ x8 then
      J_Re_next_147 x1 t_levels t_levelArc t_levelNodes t_levelWeight x2 x7 t_levelIn
    else
      ck (okb ((40 * x1) + x8) 1640) (
      if (t_levelIn ((40 * x1) + x8).toNatClampNeg) < 0 then
        (f_Re_mate x1 x8 x5 t_levelArc t_levelIn t_levelNodes t_levelWeight).bind (fun r100 =>
        ck (okb ((40 * x1) + x8) 1640) (
        if r100 < 0 then
          L_Re_next_70 x1 t_levels t_levelArc t_levelNodes t_levelWeight n x2 x5 (x7 + 1) (x8 + 1) (upd t_levelIn ((40 * x1) + x8).toNatClampNeg x7)
        else
          ck (okb ((40 * x1) + r100) 1640) (
          L_Re_next_70 x1 t_levels t_levelArc t_levelNodes t_levelWeight n x2 x5 (x7 + 1) (x8 + 1) (upd (upd t_levelIn ((40 * x1) + x8).toNatClampNeg x7) ((40 * x1) + r100).toNatClampNeg x7))))
      else
        L_Re_next_70 x1 t_levels t_levelArc t_levelNodes t_levelWeight n x2 x5 x7 (x8 + 1) t_levelIn)
def J_Re_next_53 (x1 : Int32) (t_kinds : Int32) (t_levels : Int32) (t_levelArc : Nat → Int32) (t_levelNodes : Nat → Int32) (t_levelWeight : Nat → Int32) (x2 : Int32) (x3 : Int64) (t_levelIn : Nat → Int32) : Option (Int32 × Int32 × (Nat → Int32) × (Nat → Int32) × (Nat → Int32) × (Nat → Int32)) :=
  ck (nzl ((2 * t_kinds).toInt64)) (
  L_Re_next_70 x1 t_levels t_levelArc t_levelNodes t_levelWeight 64 x2 (x3 / ((2 * t_kinds).toInt64)) 0 0 t_levelIn)
def L_Re_next_12 (x1 : Int32) (t_kinds : Int32) (t_levels : Int32) (t_levelArc : Nat → Int32) (t_levelNodes : Nat → Int32) (t_levelWeight : Nat → Int32) : Nat → Int32 → Int64 → Int32 → (Nat → Int32) → Option (Int32 × Int32 × (Nat → Int32) × (Nat → Int32) × (Nat → Int32) × (Nat → Int32))
  | 0, _, _, _, _ => none
  | n + 1, x2, x3, x5, t_levelIn =>
    if x2 ≤ x5 then
      J_Re_next_53 x1 t_kinds t_levels t_levelArc t_levelNodes t_levelWeight x2 x3 t_levelIn
    else
      ck (okb ((40 * x1) + x5) 1640) (
      ck (okb ((40 * x1) + x5) 1640) (
      L_Re_next_12 x1 t_kinds t_levels t_levelArc t_levelNodes t_levelWeight n x2 (x3 + ((t_levelWeight ((40 * x1) + x5).toNatClampNeg).toInt64)) (x5 + 1) (upd t_levelIn ((40 * x1) + x5).toNatClampNeg (-1))))
def f_Re_next (x1 : Int32) (t_kinds : Int32) (t_levels : Int32) (t_levelArc : Nat → Int32) (t_levelIn : Nat → Int32) (t_levelNodes : Nat → Int32) (t_levelWeight : Nat → Int32) : Option (Int32 × Int32 × (Nat → Int32) × (Nat → Int32) × (Nat → Int32) × (Nat → Int32)) :=
  ck (okb x1 41) (
  L_Re_next_12 x1 t_kinds t_levels t_levelArc t_levelNodes t_levelWeight 64 (t_levelNodes (x1).toNatClampNeg) (0 : Int64) 0 t_levelIn)
def L_Re_makeLevels_39 (t_nodes : Int32) (t_arcs : Nat → Int32) (k17 : Int32 → Int32 → (Nat → Int32) → (Nat → Int32) → (Nat → Int32) → Option (Int32 × (Nat → Int32) × (Nat → Int32) × (Nat → Int32) × (Nat → Int32))) : Nat → Int32 → Int32 → Int32 → (Nat → Int32) → (Nat → Int32) → (Nat → Int32) → Option (Int32 × (Nat → Int32) × (Nat → Int32) × (Nat → Int32) × (Nat → Int32))
  | 0, _, _, _, _, _, _ => none
  | n + 1, x1, x2, t_levels, t_levelArc, t_levelNodes, t_levelWeight =>
    if t_nodes ≤ x2 then
      k17 (x1 + 1) t_levels t_levelArc t_levelNodes t_levelWeight
    else
      ck (okb ((40 * x1) + x2) 1600) (
      ck (okb ((40 * x1) + x2) 65600) (
      L_Re_makeLevels_39 t_nodes t_arcs k17 n x1 (x2 + 1) t_levels (upd t_levelArc ((40 * x1) + x2).toNatClampNeg (t_arcs ((40 * x1) + x2).toNatClampNeg)) t_levelNodes t_levelWeight))
def L_Re_makeLevels_96 (t_kinds : Int32) : Nat → Int32 → Int32 → (Nat → Int32) → (Nat → Int32) → (Nat → Int32) → (Nat → Int32) → Option (Int32 × (Nat → Int32) × (Nat → Int32) × (Nat → Int32) × (Nat → Int32))
  | 0, _, _, _, _, _, _ => none
  | n + 1, x1, t_levels, t_levelArc, t_levelIn, t_levelNodes, t_levelWeight =>
    if x1 = 0 then
      some (t_levels, t_levelArc, t_levelIn, t_levelNodes, t_levelWeight)
    else
      (f_Re_next (t_levels - 1) t_kinds t_levels t_levelArc t_levelIn t_levelNodes t_levelWeight).bind (fun r107 =>
      if r107.1 = 0 then
        L_Re_makeLevels_96 t_kinds n 0 r107.2.1 r107.2.2.1 r107.2.2.2.1 r107.2.2.2.2.1 r107.2.2.2.2.2
      else
        ck (okb (r107.2.1 - 1) 41) (
        if (r107.2.2.2.2.1 (r107.2.1 - 1).toNatClampNeg) ≤ 6 then
          L_Re_makeLevels_96 t_kinds n 0 r107.2.1 r107.2.2.1 r107.2.2.2.1 r107.2.2.2.2.1 r107.2.2.2.2.2
        else
          L_Re_makeLevels_96 t_kinds n 1 r107.2.1 r107.2.2.1 r107.2.2.2.1 r107.2.2.2.2.1 r107.2.2.2.2.2))
def J_Re_makeLevels_81 (t_nodes : Int32) (t_kinds : Int32) (t_levelIn : Nat → Int32) (t_levels : Int32) (t_levelArc : Nat → Int32) (t_levelNodes : Nat → Int32) (t_levelWeight : Nat → Int32) : Option (Int32 × (Nat → Int32) × (Nat → Int32) × (Nat → Int32) × (Nat → Int32)) :=
  if t_nodes ≤ 6 then
    L_Re_makeLevels_96 t_kinds 64 0 t_levels t_levelArc t_levelIn t_levelNodes t_levelWeight
  else
    L_Re_makeLevels_96 t_kinds 64 1 t_levels t_levelArc t_levelIn t_levelNodes t_levelWeight
def L_Re_makeLevels_17 (t_nodes : Int32) (t_kinds : Int32) (t_arcs : Nat → Int32) (t_levelIn : Nat → Int32) (t_weight : Nat → Int32) : Nat → Int32 → Int32 → (Nat → Int32) → (Nat → Int32) → (Nat → Int32) → Option (Int32 × (Nat → Int32) × (Nat → Int32) × (Nat → Int32) × (Nat → Int32))
  | 0, _, _, _, _, _ => none
  | n + 1, x1, t_levels, t_levelArc, t_levelNodes, t_levelWeight =>
    if t_nodes ≤ x1 then
      J_Re_makeLevels_81 t_nodes t_kinds t_levelIn t_levels t_levelArc t_levelNodes t_levelWeight
    else
      ck (okb x1 40) (
      ck (okb x1 1640) (
      L_Re_makeLevels_39 t_nodes t_arcs (L_Re_makeLevels_17 t_nodes t_kinds t_arcs t_levelIn t_weight n) 64 x1 0 t_levels t_levelArc t_levelNodes (upd t_levelWeight (x1).toNatClampNeg (t_weight (x1).toNatClampNeg))))
def f_Re_makeLevels (t_nodes : Int32) (t_kinds : Int32) (t_arcs : Nat → Int32) (t_levelArc : Nat → Int32) (t_levelIn : Nat → Int32) (t_levelNodes : Nat → Int32) (t_levelWeight : Nat → Int32) (t_weight : Nat → Int32) : Option (Int32 × (Nat → Int32) × (Nat → Int32) × (Nat → Int32) × (Nat → Int32)) :=
  ck (okb 0 41) (
  L_Re_makeLevels_17 t_nodes t_kinds t_arcs t_levelIn t_weight 64 0 1 t_levelArc (upd t_levelNodes (0 : Int32).toNatClampNeg t_nodes) t_levelWeight)
def L_Re_level_63 (x1 : Int32) (x2 : Int32) (k49 : Int32 → Int32 → Int32 → (Nat → Int32) → (Nat → Int32) → (Nat → Int32) → (Nat → Int32) → Option (Int32 × Int32 × (Nat → Int32) × (Nat → Int32) × (Nat → Int32) × (Nat → Int32))) : Nat → Int32 → Int32 → Int32 → Int32 → (Nat → Int32) → (Nat → Int32) → (Nat → Int32) → (Nat → Int32) → Option (Int32 × Int32 × (Nat → Int32) × (Nat → Int32) × (Nat → Int32) × (Nat → Int32))
  | 0, _, _, _, _, _, _, _, _ => none
  | n + 1, x3, x4, x5, t_levels, t_levelArc, t_levelIn, t_levelNodes, t_levelWeight =>
    if x4 ≤ x5 then
      k49 x3 (x4 + 1) t_levels t_levelArc t_levelIn t_levelNodes t_levelWeight
    else
      ck (okb (((1600 * x1) + (40 * x4)) + x5) 65600) (
      if x2 = 2 then
        L_Re_level_63 x1 x2 k49 n (x3 + (t_levelArc (((1600 * x1) + (40 * x4)) + x5).toNatClampNeg)) x4 (x5 + 1) t_levels t_levelArc t_levelIn t_levelNodes t_levelWeight
      else
        if (t_levelArc (((1600 * x1) + (40 * x4)) + x5).toNatClampNeg) ≤ 0 then
          L_Re_level_63 x1 x2 k49 n (x3 + 0) x4 (x5 + 1) t_levels t_levelArc t_levelIn t_levelNodes t_levelWeight
        else
          L_Re_level_63 x1 x2 k49 n (x3 + 1) x4 (x5 + 1) t_levels t_levelArc t_levelIn t_levelNodes t_levelWeight)
def L_Re_level_49 (x1 : Int32) (x2 : Int32) : Nat → Int32 → Int32 → Int32 → (Nat → Int32) → (Nat → Int32) → (Nat → Int32) → (Nat → Int32) → Option (Int32 × Int32 × (Nat → Int32) × (Nat → Int32) × (Nat → Int32) × (Nat → Int32))
  | 0, _, _, _, _, _, _, _ => none
  | n + 1, x3, x4, t_levels, t_levelArc, t_levelIn, t_levelNodes, t_levelWeight =>
    ck (okb x1 41) (
    if (t_levelNodes (x1).toNatClampNeg) ≤ x4 then
      some (x3, t_levels, t_levelArc, t_levelIn, t_levelNodes, t_levelWeight)
    else
      L_Re_level_63 x1 x2 (L_Re_level_49 x1 x2 n) 64 x3 x4 0 t_levels t_levelArc t_levelIn t_levelNodes t_levelWeight)
def f_Re_level (x1 : Int32) (x2 : Int32) (t_nodes : Int32) (t_kinds : Int32) (t_levels : Int32) (t_arcs : Nat → Int32) (t_levelArc : Nat → Int32) (t_levelIn : Nat → Int32) (t_levelNodes : Nat → Int32) (t_levelWeight : Nat → Int32) (t_weight : Nat → Int32) : Option (Int32 × Int32 × (Nat → Int32) × (Nat → Int32) × (Nat → Int32) × (Nat → Int32)) :=
  if x1 < 0 then
    some (-1, t_levels, t_levelArc, t_levelIn, t_levelNodes, t_levelWeight)
  else
    (f_Re_isIn x2.toInt64 (0 : Int64) (2 : Int64)).bind (fun r10 =>
    if r10 = 0 then
      some (-1, t_levels, t_levelArc, t_levelIn, t_levelNodes, t_levelWeight)
    else
      (f_Re_makeLevels t_nodes t_kinds t_arcs t_levelArc t_levelIn t_levelNodes t_levelWeight t_weight).bind (fun r19 =>
      if x1 < r19.1 then
        if x2 = 0 then
          ck (okb x1 41) (
          some (r19.2.2.2.1 (x1).toNatClampNeg, r19.1, r19.2.1, r19.2.2.1, r19.2.2.2.1, r19.2.2.2.2))
        else
          L_Re_level_49 x1 x2 64 0 0 r19.1 r19.2.1 r19.2.2.1 r19.2.2.2.1 r19.2.2.2.2
      else
        some (-2, r19.1, r19.2.1, r19.2.2.1, r19.2.2.2.1, r19.2.2.2.2)))
def L_Re_inLevel_35 (x1 : Int32) : Nat → Int32 → Int32 → Int32 → (Nat → Int32) → (Nat → Int32) → (Nat → Int32) → (Nat → Int32) → Option (Int32 × Int32 × (Nat → Int32) × (Nat → Int32) × (Nat → Int32) × (Nat → Int32))
  | 0, _, _, _, _, _, _, _ => none
  | n + 1, x3, x4, t_levels, t_levelArc, t_levelIn, t_levelNodes, t_levelWeight =>
    if x1 ≤ x4 then
      some (x3, t_levels, t_levelArc, t_levelIn, t_levelNodes, t_levelWeight)
    else
      ck (okb ((40 * x4) + x3) 1640) (
      L_Re_inLevel_35 x1 n (t_levelIn ((40 * x4) + x3).toNatClampNeg) (x4 + 1) t_levels t_levelArc t_levelIn t_levelNodes t_levelWeight)
def f_Re_inLevel (x1 : Int32) (x2 : Int32) (t_nodes : Int32) (t_kinds : Int32) (t_arcs : Nat → Int32) (t_levelArc : Nat → Int32) (t_levelIn : Nat → Int32) (t_levelNodes : Nat → Int32) (t_levelWeight : Nat → Int32) (t_weight : Nat → Int32) : Option (Int32 × Int32 × (Nat → Int32) × (Nat → Int32) × (Nat → Int32) × (Nat → Int32)) :=
  (f_Re_makeLevels t_nodes t_kinds t_arcs t_levelArc t_levelIn t_levelNodes t_levelWeight t_weight).bind (fun r1 =>
  (f_Re_isIn x1.toInt64 (0 : Int64) ((r1.1 - 1).toInt64)).bind (fun r14 =>
  if r14 = 0 then
    some (-1, r1.1, r1.2.1, r1.2.2.1, r1.2.2.2.1, r1.2.2.2.2)
  else
    (f_Re_isNode x2 t_nodes).bind (fun r22 =>
    if r22 = 0 then
      some (-1, r1.1, r1.2.1, r1.2.2.1, r1.2.2.2.1, r1.2.2.2.2)
    else
      L_Re_inLevel_35 x1 64 x2 0 r1.1 r1.2.1 r1.2.2.1 r1.2.2.2.1 r1.2.2.2.2)))
def f_Re_levelOf (x1 : Int32) (x2 : Int32) (x3 : Int32) (t_nodes : Int32) (t_kinds : Int32) (t_arcs : Nat → Int32) (t_levelArc : Nat → Int32) (t_levelIn : Nat → Int32) (t_levelNodes : Nat → Int32) (t_levelWeight : Nat → Int32) (t_weight : Nat → Int32) : Option (Int32 × Int32 × (Nat → Int32) × (Nat → Int32) × (Nat → Int32) × (Nat → Int32)) :=
  (f_Re_makeLevels t_nodes t_kinds t_arcs t_levelArc t_levelIn t_levelNodes t_levelWeight t_weight).bind (fun r1 =>
  (f_Re_isIn x1.toInt64 (0 : Int64) ((r1.1 - 1).toInt64)).bind (fun r14 =>
  if r14 = 0 then
    some (-1, r1.1, r1.2.1, r1.2.2.1, r1.2.2.2.1, r1.2.2.2.2)
  else
    ck (okb x1 41) (
    (f_Re_isIn x2.toInt64 (0 : Int64) (((r1.2.2.2.1 (x1).toNatClampNeg) - 1).toInt64)).bind (fun r32 =>
    if r32 = 0 then
      some (-1, r1.1, r1.2.1, r1.2.2.1, r1.2.2.2.1, r1.2.2.2.2)
    else
      ck (okb x1 41) (
      (f_Re_isIn x3.toInt64 (-1 : Int64) (((r1.2.2.2.1 (x1).toNatClampNeg) - 1).toInt64)).bind (fun r52 =>
      if r52 = 0 then
        some (-1, r1.1, r1.2.1, r1.2.2.1, r1.2.2.2.1, r1.2.2.2.2)
      else
        if 0 ≤ x3 then
          ck (okb (((1600 * x1) + (40 * x2)) + x3) 65600) (
          some (r1.2.1 (((1600 * x1) + (40 * x2)) + x3).toNatClampNeg, r1.1, r1.2.1, r1.2.2.1, r1.2.2.2.1, r1.2.2.2.2))
        else
          ck (okb ((40 * x1) + x2) 1640) (
          some (r1.2.2.2.2 ((40 * x1) + x2).toNatClampNeg, r1.1, r1.2.1, r1.2.2.1, r1.2.2.2.1, r1.2.2.2.2))))))))
def f_Re_take (x1 : Int32) (t_levelNodes : Nat → Int32) : Option (Int32 × Int32) :=
  ck (okb x1 41) (
  some (t_levelNodes (x1).toNatClampNeg, x1))
def f_Re_weightOf (x1 : Int32) (t_base : Int32) (t_levelWeight : Nat → Int32) : Option (Int32) :=
  ck (okb ((40 * t_base) + x1) 1640) (
  some (t_levelWeight ((40 * t_base) + x1).toNatClampNeg))
def f_Re_arcOf (x1 : Int32) (x2 : Int32) (t_base : Int32) (t_levelArc : Nat → Int32) : Option (Int32) :=
  ck (okb (((1600 * t_base) + (40 * x1)) + x2) 65600) (
  some (t_levelArc (((1600 * t_base) + (40 * x1)) + x2).toNatClampNeg))
def L_Re_sumOf_5 (x1 : Int32) (t_size : Int32) (t_base : Int32) (t_levelWeight : Nat → Int32) (t_row : Nat → Int32) : Nat → Int64 → Int32 → Option (Int64)
  | 0, _, _ => none
  | n + 1, x2, x4 =>
    if t_size ≤ x4 then
      some x2
    else
      ck (okb x4 40) (
      if (t_row (x4).toNatClampNeg) = x1 then
        (f_Re_weightOf x4 t_base t_levelWeight).bind (fun r29 =>
        L_Re_sumOf_5 x1 t_size t_base t_levelWeight t_row n (x2 + r29.toInt64) (x4 + 1))
      else
        L_Re_sumOf_5 x1 t_size t_base t_levelWeight t_row n (x2 + (0 : Int64)) (x4 + 1))
def f_Re_sumOf (x1 : Int32) (t_size : Int32) (t_base : Int32) (t_levelWeight : Nat → Int32) (t_row : Nat → Int32) : Option (Int64) :=
  L_Re_sumOf_5 x1 t_size t_base t_levelWeight t_row 64 (0 : Int64) 0
def L_Re_rowOver_4 (t_kinds : Int32) (t_size : Int32) (t_base : Int32) (t_least : Nat → Int32) (t_levelWeight : Nat → Int32) (t_most : Nat → Int32) (t_row : Nat → Int32) : Nat → Int64 → Int32 → Option (Int64)
  | 0, _, _ => none
  | n + 1, x1, x3 =>
    if t_kinds ≤ x3 then
      some x1
    else
      (f_Re_sumOf x3 t_size t_base t_levelWeight t_row).bind (fun r14 =>
      ck (okb x3 4) (
      if 0 ≤ (lg_cmp r14 ((t_least (x3).toNatClampNeg).toInt64)) then
        ck (okb x3 4) (
        if (lg_cmp r14 ((t_most (x3).toNatClampNeg).toInt64)) ≤ 0 then
          L_Re_rowOver_4 t_kinds t_size t_base t_least t_levelWeight t_most t_row n (x1 + (0 : Int64)) (x3 + 1)
        else
          ck (okb x3 4) (
          L_Re_rowOver_4 t_kinds t_size t_base t_least t_levelWeight t_most t_row n (x1 + (r14 - ((t_most (x3).toNatClampNeg).toInt64))) (x3 + 1)))
      else
        ck (okb x3 4) (
        L_Re_rowOver_4 t_kinds t_size t_base t_least t_levelWeight t_most t_row n (x1 + (((t_least (x3).toNatClampNeg).toInt64) - r14)) (x3 + 1))))
def f_Re_rowOver (t_kinds : Int32) (t_size : Int32) (t_base : Int32) (t_least : Nat → Int32) (t_levelWeight : Nat → Int32) (t_most : Nat → Int32) (t_row : Nat → Int32) : Option (Int64) :=
  L_Re_rowOver_4 t_kinds t_size t_base t_least t_levelWeight t_most t_row 64 (0 : Int64) 0
def L_Re_rowCut_15 (t_base : Int32) (t_levelArc : Nat → Int32) (t_row : Nat → Int32) (k4 : Int64 → Int32 → Option (Int64)) : Nat → Int64 → Int32 → Int32 → Option (Int64)
  | 0, _, _, _ => none
  | n + 1, x1, x3, x4 =>
    if x3 ≤ x4 then
      k4 x1 (x3 + 1)
    else
      ck (okb x3 40) (
      ck (okb x4 40) (
      if (t_row (x3).toNatClampNeg) = (t_row (x4).toNatClampNeg) then
        L_Re_rowCut_15 t_base t_levelArc t_row k4 n (x1 + (0 : Int64)) x3 (x4 + 1)
      else
        (f_Re_arcOf x3 x4 t_base t_levelArc).bind (fun r42 =>
        L_Re_rowCut_15 t_base t_levelArc t_row k4 n (x1 + r42.toInt64) x3 (x4 + 1))))
def L_Re_rowCut_4 (t_size : Int32) (t_base : Int32) (t_levelArc : Nat → Int32) (t_row : Nat → Int32) : Nat → Int64 → Int32 → Option (Int64)
  | 0, _, _ => none
  | n + 1, x1, x3 =>
    if t_size ≤ x3 then
      some x1
    else
      L_Re_rowCut_15 t_base t_levelArc t_row (L_Re_rowCut_4 t_size t_base t_levelArc t_row n) 64 x1 x3 0
def f_Re_rowCut (t_size : Int32) (t_base : Int32) (t_levelArc : Nat → Int32) (t_row : Nat → Int32) : Option (Int64) :=
  L_Re_rowCut_4 t_size t_base t_levelArc t_row 64 (0 : Int64) 0
def J_Re_rowGain_80 (x1 : Int32) (x2 : Int32) (t_row : Nat → Int32) (x3 : Int64) : Option (Int64) :=
  ck (okb x1 40) (
  if x2 = (t_row (x1).toNatClampNeg) then
    some (0 : Int64)
  else
    some x3)
def L_Re_rowGain_5 (x1 : Int32) (x2 : Int32) (t_size : Int32) (t_base : Int32) (t_levelArc : Nat → Int32) (t_row : Nat → Int32) : Nat → Int64 → Int32 → Option (Int64)
  | 0, _, _ => none
  | n + 1, x3, x5 =>
    if t_size ≤ x5 then
      J_Re_rowGain_80 x1 x2 t_row x3
    else
      if x5 = x1 then
        L_Re_rowGain_5 x1 x2 t_size t_base t_levelArc t_row n x3 (x5 + 1)
      else
        ck (okb x5 40) (
        if (t_row (x5).toNatClampNeg) = x2 then
          (f_Re_arcOf x1 x5 t_base t_levelArc).bind (fun r36 =>
          L_Re_rowGain_5 x1 x2 t_size t_base t_levelArc t_row n (x3 + r36.toInt64) (x5 + 1))
        else
          ck (okb x5 40) (
          ck (okb x1 40) (
          if (t_row (x5).toNatClampNeg) = (t_row (x1).toNatClampNeg) then
            (f_Re_arcOf x1 x5 t_base t_levelArc).bind (fun r63 =>
            L_Re_rowGain_5 x1 x2 t_size t_base t_levelArc t_row n (x3 + ((-r63).toInt64)) (x5 + 1))
          else
            L_Re_rowGain_5 x1 x2 t_size t_base t_levelArc t_row n (x3 + (0 : Int64)) (x5 + 1))))
def f_Re_rowGain (x1 : Int32) (x2 : Int32) (t_size : Int32) (t_base : Int32) (t_levelArc : Nat → Int32) (t_row : Nat → Int32) : Option (Int64) :=
  L_Re_rowGain_5 x1 x2 t_size t_base t_levelArc t_row 64 (0 : Int64) 0
def L_Re_takeSplit_11 (t_nodes : Int32) (t_split : Nat → Int32) : Nat → Int32 → Int32 → Int32 → Int32 → (Nat → Int32) → (Nat → Int32) → (Nat → Int32) → (Nat → Int32) → (Nat → Int32) → Option (Int32 × Int32 × Int32 × (Nat → Int32) × (Nat → Int32) × (Nat → Int32) × (Nat → Int32) × (Nat → Int32))
  | 0, _, _, _, _, _, _, _, _, _ => none
  | n + 1, x1, t_levels, t_size, t_base, t_levelArc, t_levelIn, t_levelNodes, t_levelWeight, t_row =>
    if t_nodes ≤ x1 then
      some (t_levels, t_size, t_base, t_levelArc, t_levelIn, t_levelNodes, t_levelWeight, t_row)
    else
      ck (okb x1 40) (
      ck (okb x1 40) (
      L_Re_takeSplit_11 t_nodes t_split n (x1 + 1) t_levels t_size t_base t_levelArc t_levelIn t_levelNodes t_levelWeight (upd t_row (x1).toNatClampNeg (t_split (x1).toNatClampNeg))))
def f_Re_takeSplit (t_nodes : Int32) (t_kinds : Int32) (t_arcs : Nat → Int32) (t_levelArc : Nat → Int32) (t_levelIn : Nat → Int32) (t_levelNodes : Nat → Int32) (t_levelWeight : Nat → Int32) (t_row : Nat → Int32) (t_split : Nat → Int32) (t_weight : Nat → Int32) : Option (Int32 × Int32 × Int32 × (Nat → Int32) × (Nat → Int32) × (Nat → Int32) × (Nat → Int32) × (Nat → Int32)) :=
  (f_Re_makeLevels t_nodes t_kinds t_arcs t_levelArc t_levelIn t_levelNodes t_levelWeight t_weight).bind (fun r1 =>
  (f_Re_take 0 r1.2.2.2.1).bind (fun r6 =>
  L_Re_takeSplit_11 t_nodes t_split 64 0 r1.1 r6.1 r6.2 r1.2.1 r1.2.2.1 r1.2.2.2.1 r1.2.2.2.2 t_row))
def L_Re_giveSplit_2 (t_nodes : Int32) (t_row : Nat → Int32) : Nat → Int32 → (Nat → Int32) → Option ((Nat → Int32))
  | 0, _, _ => none
  | n + 1, x1, t_split =>
    if t_nodes ≤ x1 then
      some t_split
    else
      ck (okb x1 40) (
      ck (okb x1 40) (
      L_Re_giveSplit_2 t_nodes t_row n (x1 + 1) (upd t_split (x1).toNatClampNeg (t_row (x1).toNatClampNeg))))
def f_Re_giveSplit (t_nodes : Int32) (t_row : Nat → Int32) (t_split : Nat → Int32) : Option ((Nat → Int32)) :=
  L_Re_giveSplit_2 t_nodes t_row 64 0 t_split
def J_Re_of_117 (x1 : Int32) (t_split : Nat → Int32) (k50 : Int32 → Int32 → Option (Int32)) (x3 : Int32) (x4 : Int32) (x5 : Int32) : Option (Int32) :=
  if x5 = 0 then
    k50 (x3 + 0) (x4 + 1)
  else
    ck (okb x1 40) (
    if x4 = (t_split (x1).toNatClampNeg) then
      k50 (x3 + 0) (x4 + 1)
    else
      k50 (x3 + 1) (x4 + 1))
def L_Re_of_65 (x1 : Int32) (t_nodes : Int32) (t_arcs : Nat → Int32) (t_split : Nat → Int32) (k50 : Int32 → Int32 → Option (Int32)) : Nat → Int32 → Int32 → Int32 → Int32 → Option (Int32)
  | 0, _, _, _, _ => none
  | n + 1, x3, x4, x5, x6 =>
    if t_nodes ≤ x6 then
      J_Re_of_117 x1 t_split k50 x3 x4 x5
    else
      ck (okb ((40 * x1) + x6) 1600) (
      if (t_arcs ((40 * x1) + x6).toNatClampNeg) ≤ 0 then
        L_Re_of_65 x1 t_nodes t_arcs t_split k50 n x3 x4 (x5 ||| 0) (x6 + 1)
      else
        ck (okb x6 40) (
        if (t_split (x6).toNatClampNeg) = x4 then
          L_Re_of_65 x1 t_nodes t_arcs t_split k50 n x3 x4 (x5 ||| 1) (x6 + 1)
        else
          L_Re_of_65 x1 t_nodes t_arcs t_split k50 n x3 x4 (x5 ||| 0) (x6 + 1)))
def J_Re_of_193 (x2 : Int32) (x3 : Int32) (x4 : Int32) : Option (Int32) :=
  if x2 = 2 then
    some x3
  else
    some x4
def L_Re_of_153 (x1 : Int32) (x2 : Int32) (t_nodes : Int32) (t_arcs : Nat → Int32) : Nat → Int32 → Int32 → Int32 → Option (Int32)
  | 0, _, _, _ => none
  | n + 1, x3, x4, x5 =>
    if t_nodes ≤ x5 then
      J_Re_of_193 x2 x3 x4
    else
      ck (okb ((40 * x1) + x5) 1600) (
      if (t_arcs ((40 * x1) + x5).toNatClampNeg) ≤ 0 then
        L_Re_of_153 x1 x2 t_nodes t_arcs n x3 (x4 + 0) (x5 + 1)
      else
        L_Re_of_153 x1 x2 t_nodes t_arcs n x3 (x4 + 1) (x5 + 1))
def L_Re_of_50 (x1 : Int32) (x2 : Int32) (t_nodes : Int32) (t_kinds : Int32) (t_arcs : Nat → Int32) (t_split : Nat → Int32) : Nat → Int32 → Int32 → Option (Int32)
  | 0, _, _ => none
  | n + 1, x3, x4 =>
    if t_kinds ≤ x4 then
      L_Re_of_153 x1 x2 t_nodes t_arcs 64 x3 0 0
    else
      L_Re_of_65 x1 t_nodes t_arcs t_split (L_Re_of_50 x1 x2 t_nodes t_kinds t_arcs t_split n) 64 x3 x4 0 0
def f_Re_of (x1 : Int32) (x2 : Int32) (t_nodes : Int32) (t_kinds : Int32) (t_arcs : Nat → Int32) (t_split : Nat → Int32) (t_weight : Nat → Int32) : Option (Int32) :=
  (f_Re_isNode x1 t_nodes).bind (fun r2 =>
  if r2 = 0 then
    some (-1)
  else
    (f_Re_isIn x2.toInt64 (0 : Int64) (3 : Int64)).bind (fun r14 =>
    if r14 = 0 then
      some (-1)
    else
      if x2 = 0 then
        ck (okb x1 40) (
        some (t_weight (x1).toNatClampNeg))
      else
        if x2 = 1 then
          ck (okb x1 40) (
          some (t_split (x1).toNatClampNeg))
        else
          L_Re_of_50 x1 x2 t_nodes t_kinds t_arcs t_split 64 0 0))
def f_Re_between (x1 : Int32) (x2 : Int32) (t_nodes : Int32) (t_arcs : Nat → Int32) : Option (Int32) :=
  (f_Re_isNode x1 t_nodes).bind (fun r2 =>
  if r2 = 0 then
    some (-1)
  else
    (f_Re_isNode x2 t_nodes).bind (fun r10 =>
    if r10 = 0 then
      some (-1)
    else
      ck (okb ((40 * x1) + x2) 1600) (
      some (t_arcs ((40 * x1) + x2).toNatClampNeg))))
def J_Re_part_65 (x1 : Int32) (x2 : Int32) (t_least : Nat → Int32) (t_most : Nat → Int32) (x3 : Int32) (t_levels : Int32) (t_size : Int32) (t_base : Int32) (t_levelArc : Nat → Int32) (t_levelIn : Nat → Int32) (t_levelNodes : Nat → Int32) (t_levelWeight : Nat → Int32) (t_row : Nat → Int32) : Option (Int32 × Int32 × Int32 × Int32 × (Nat → Int32) × (Nat → Int32) × (Nat → Int32) × (Nat → Int32) × (Nat → Int32)) :=
  if x2 = 0 then
    (f_Re_sumOf x1 t_size t_base t_levelWeight t_row).bind (fun r71 =>
    some (r71.toInt32, t_levels, t_size, t_base, t_levelArc, t_levelIn, t_levelNodes, t_levelWeight, t_row))
  else
    if x2 = 1 then
      some (x3, t_levels, t_size, t_base, t_levelArc, t_levelIn, t_levelNodes, t_levelWeight, t_row)
    else
      if x2 = 2 then
        ck (okb x1 4) (
        some (t_least (x1).toNatClampNeg, t_levels, t_size, t_base, t_levelArc, t_levelIn, t_levelNodes, t_levelWeight, t_row))
      else
        ck (okb x1 4) (
        some (t_most (x1).toNatClampNeg, t_levels, t_size, t_base, t_levelArc, t_levelIn, t_levelNodes, t_levelWeight, t_row))
def L_Re_part_31 (x1 : Int32) (x2 : Int32) (t_nodes : Int32) (t_least : Nat → Int32) (t_most : Nat → Int32) (t_split : Nat → Int32) : Nat → Int32 → Int32 → Int32 → Int32 → Int32 → (Nat → Int32) → (Nat → Int32) → (Nat → Int32) → (Nat → Int32) → (Nat → Int32) → Option (Int32 × Int32 × Int32 × Int32 × (Nat → Int32) × (Nat → Int32) × (Nat → Int32) × (Nat → Int32) × (Nat → Int32))
  | 0, _, _, _, _, _, _, _, _, _, _ => none
  | n + 1, x3, x4, t_levels, t_size, t_base, t_levelArc, t_levelIn, t_levelNodes, t_levelWeight, t_row =>
    if t_nodes ≤ x4 then
      J_Re_part_65 x1 x2 t_least t_most x3 t_levels t_size t_base t_levelArc t_levelIn t_levelNodes t_levelWeight t_row
    else
      ck (okb x4 40) (
      if (t_split (x4).toNatClampNeg) = x1 then
        L_Re_part_31 x1 x2 t_nodes t_least t_most t_split n (x3 + 1) (x4 + 1) t_levels t_size t_base t_levelArc t_levelIn t_levelNodes t_levelWeight t_row
      else
        L_Re_part_31 x1 x2 t_nodes t_least t_most t_split n (x3 + 0) (x4 + 1) t_levels t_size t_base t_levelArc t_levelIn t_levelNodes t_levelWeight t_row)
def f_Re_part (x1 : Int32) (x2 : Int32) (t_nodes : Int32) (t_kinds : Int32) (t_levels : Int32) (t_size : Int32) (t_base : Int32) (t_arcs : Nat → Int32) (t_least : Nat → Int32) (t_levelArc : Nat → Int32) (t_levelIn : Nat → Int32) (t_levelNodes : Nat → Int32) (t_levelWeight : Nat → Int32) (t_most : Nat → Int32) (t_row : Nat → Int32) (t_split : Nat → Int32) (t_weight : Nat → Int32) : Option (Int32 × Int32 × Int32 × Int32 × (Nat → Int32) × (Nat → Int32) × (Nat → Int32) × (Nat → Int32) × (Nat → Int32)) :=
  (f_Re_isPart x1 t_kinds).bind (fun r2 =>
  if r2 = 0 then
    some (-1, t_levels, t_size, t_base, t_levelArc, t_levelIn, t_levelNodes, t_levelWeight, t_row)
  else
    (f_Re_isIn x2.toInt64 (0 : Int64) (3 : Int64)).bind (fun r14 =>
    if r14 = 0 then
      some (-1, t_levels, t_size, t_base, t_levelArc, t_levelIn, t_levelNodes, t_levelWeight, t_row)
    else
      (f_Re_takeSplit t_nodes t_kinds t_arcs t_levelArc t_levelIn t_levelNodes t_levelWeight t_row t_split t_weight).bind (fun r23 =>
      L_Re_part_31 x1 x2 t_nodes t_least t_most t_split 64 0 0 r23.1 r23.2.1 r23.2.2.1 r23.2.2.2.1 r23.2.2.2.2.1 r23.2.2.2.2.2.1 r23.2.2.2.2.2.2.1 r23.2.2.2.2.2.2.2)))
def f_Re_cut (t_nodes : Int32) (t_kinds : Int32) (t_arcs : Nat → Int32) (t_levelArc : Nat → Int32) (t_levelIn : Nat → Int32) (t_levelNodes : Nat → Int32) (t_levelWeight : Nat → Int32) (t_row : Nat → Int32) (t_split : Nat → Int32) (t_weight : Nat → Int32) : Option (Int32 × Int32 × Int32 × Int32 × (Nat → Int32) × (Nat → Int32) × (Nat → Int32) × (Nat → Int32) × (Nat → Int32)) :=
  (f_Re_takeSplit t_nodes t_kinds t_arcs t_levelArc t_levelIn t_levelNodes t_levelWeight t_row t_split t_weight).bind (fun r1 =>
  (f_Re_rowCut r1.2.1 r1.2.2.1 r1.2.2.2.1 r1.2.2.2.2.2.2.2).bind (fun r5 =>
  some (r5.toInt32, r1.1, r1.2.1, r1.2.2.1, r1.2.2.2.1, r1.2.2.2.2.1, r1.2.2.2.2.2.1, r1.2.2.2.2.2.2.1, r1.2.2.2.2.2.2.2)))
def f_Re_over (t_nodes : Int32) (t_kinds : Int32) (t_arcs : Nat → Int32) (t_least : Nat → Int32) (t_levelArc : Nat → Int32) (t_levelIn : Nat → Int32) (t_levelNodes : Nat → Int32) (t_levelWeight : Nat → Int32) (t_most : Nat → Int32) (t_row : Nat → Int32) (t_split : Nat → Int32) (t_weight : Nat → Int32) : Option (Int32 × Int32 × Int32 × Int32 × (Nat → Int32) × (Nat → Int32) × (Nat → Int32) × (Nat → Int32) × (Nat → Int32)) :=
  (f_Re_takeSplit t_nodes t_kinds t_arcs t_levelArc t_levelIn t_levelNodes t_levelWeight t_row t_split t_weight).bind (fun r1 =>
  (f_Re_rowOver t_kinds r1.2.1 r1.2.2.1 t_least r1.2.2.2.2.2.2.1 t_most r1.2.2.2.2.2.2.2).bind (fun r5 =>
  some (r5.toInt32, r1.1, r1.2.1, r1.2.2.1, r1.2.2.2.1, r1.2.2.2.2.1, r1.2.2.2.2.2.1, r1.2.2.2.2.2.2.1, r1.2.2.2.2.2.2.2)))
def f_Re_gain (x1 : Int32) (x2 : Int32) (t_nodes : Int32) (t_kinds : Int32) (t_levels : Int32) (t_size : Int32) (t_base : Int32) (t_arcs : Nat → Int32) (t_levelArc : Nat → Int32) (t_levelIn : Nat → Int32) (t_levelNodes : Nat → Int32) (t_levelWeight : Nat → Int32) (t_row : Nat → Int32) (t_split : Nat → Int32) (t_weight : Nat → Int32) : Option (Int32 × Int32 × Int32 × Int32 × (Nat → Int32) × (Nat → Int32) × (Nat → Int32) × (Nat → Int32) × (Nat → Int32)) :=
  (f_Re_isNode x1 t_nodes).bind (fun r2 =>
  if r2 = 0 then
    some (-100000000, t_levels, t_size, t_base, t_levelArc, t_levelIn, t_levelNodes, t_levelWeight, t_row)
  else
    (f_Re_isPart x2 t_kinds).bind (fun r10 =>
    if r10 = 0 then
      some (-100000000, t_levels, t_size, t_base, t_levelArc, t_levelIn, t_levelNodes, t_levelWeight, t_row)
    else
      (f_Re_takeSplit t_nodes t_kinds t_arcs t_levelArc t_levelIn t_levelNodes t_levelWeight t_row t_split t_weight).bind (fun r20 =>
      (f_Re_rowGain x1 x2 r20.2.1 r20.2.2.1 r20.2.2.2.1 r20.2.2.2.2.2.2.2).bind (fun r26 =>
      some (r26.toInt32, r20.1, r20.2.1, r20.2.2.1, r20.2.2.2.1, r20.2.2.2.2.1, r20.2.2.2.2.2.1, r20.2.2.2.2.2.2.1, r20.2.2.2.2.2.2.2)))))
def J_Re_pass_214 (k107 : Int64 → Int64 → Int64 → Int64 → Int32 → Int32 → Int32 → Int32 → Int64 → Int64 → Int32 → Int32 → Int32 → (Nat → Int32) → (Nat → Int32) → (Nat → Int32) → Option (Int32 × (Nat → Int32) × (Nat → Int32) × (Nat → Int32))) (y0 : Int32) (x1 : Int64) (x3 : Int64) (x5 : Int64) (x7 : Int64) (x9 : Int32) (x10 : Int32) (x11 : Int32) (x12 : Int32) (x13 : Int64) (x15 : Int64) (x17 : Int32) (x18 : Int32) (x19 : Int32) (x20 : Int64) (x22 : Int64) (t_best : Nat → Int32) (t_isFree : Nat → Int32) (t_row : Nat → Int32) : Option (Int32 × (Nat → Int32) × (Nat → Int32) × (Nat → Int32)) :=
  if y0 = 0 then
    k107 x1 x3 x5 x7 x9 x10 x11 x12 x13 x15 x17 x18 (x19 + 1) t_best t_isFree t_row
  else
    k107 x1 x3 x5 x7 x9 x10 x17 x19 x22 x20 x17 x18 (x19 + 1) t_best t_isFree t_row
def J_Re_pass_209 (k107 : Int64 → Int64 → Int64 → Int64 → Int32 → Int32 → Int32 → Int32 → Int64 → Int64 → Int32 → Int32 → Int32 → (Nat → Int32) → (Nat → Int32) → (Nat → Int32) → Option (Int32 × (Nat → Int32) × (Nat → Int32) × (Nat → Int32))) (x1 : Int64) (x3 : Int64) (x5 : Int64) (x7 : Int64) (x9 : Int32) (x10 : Int32) (x11 : Int32) (x12 : Int32) (x13 : Int64) (x15 : Int64) (x17 : Int32) (x18 : Int32) (x19 : Int32) (x20 : Int64) (x22 : Int64) (t_best : Nat → Int32) (t_isFree : Nat → Int32) (t_row : Nat → Int32) : Option (Int32 × (Nat → Int32) × (Nat → Int32) × (Nat → Int32)) :=
  J_Re_pass_214 k107 1 x1 x3 x5 x7 x9 x10 x11 x12 x13 x15 x17 x18 x19 x20 x22 t_best t_isFree t_row
def J_Re_pass_213 (k107 : Int64 → Int64 → Int64 → Int64 → Int32 → Int32 → Int32 → Int32 → Int64 → Int64 → Int32 → Int32 → Int32 → (Nat → Int32) → (Nat → Int32) → (Nat → Int32) → Option (Int32 × (Nat → Int32) × (Nat → Int32) × (Nat → Int32))) (x1 : Int64) (x3 : Int64) (x5 : Int64) (x7 : Int64) (x9 : Int32) (x10 : Int32) (x11 : Int32) (x12 : Int32) (x13 : Int64) (x15 : Int64) (x17 : Int32) (x18 : Int32) (x19 : Int32) (x20 : Int64) (x22 : Int64) (t_best : Nat → Int32) (t_isFree : Nat → Int32) (t_row : Nat → Int32) : Option (Int32 × (Nat → Int32) × (Nat → Int32) × (Nat → Int32)) :=
  J_Re_pass_214 k107 0 x1 x3 x5 x7 x9 x10 x11 x12 x13 x15 x17 x18 x19 x20 x22 t_best t_isFree t_row
def L_Re_pass_107 (t_kinds : Int32) (t_size : Int32) (t_base : Int32) (t_least : Nat → Int32) (t_levelArc : Nat → Int32) (t_levelWeight : Nat → Int32) (t_most : Nat → Int32) (k86 : Int64 → Int64 → Int64 → Int64 → Int32 → Int32 → Int32 → Int32 → Int64 → Int64 → Int32 → (Nat → Int32) → (Nat → Int32) → (Nat → Int32) → Option (Int32 × (Nat → Int32) × (Nat → Int32) × (Nat → Int32))) : Nat → Int64 → Int64 → Int64 → Int64 → Int32 → Int32 → Int32 → Int32 → Int64 → Int64 → Int32 → Int32 → Int32 → (Nat → Int32) → (Nat → Int32) → (Nat → Int32) → Option (Int32 × (Nat → Int32) × (Nat → Int32) × (Nat → Int32))
  | 0, _, _, _, _, _, _, _, _, _, _, _, _, _, _, _, _ => none
  | n + 1, x1, x3, x5, x7, x9, x10, x11, x12, x13, x15, x17, x18, x19, t_best, t_isFree, t_row =>
    if t_kinds ≤ x19 then
      k86 x1 x3 x5 x7 x9 x10 x11 x12 x13 x15 (x17 + 1) t_best t_isFree t_row
    else
      ck (okb x17 40) (
      if (t_isFree (x17).toNatClampNeg) = 0 then
        k86 x1 x3 x5 x7 x9 x10 x11 x12 x13 x15 (x17 + 1) t_best t_isFree t_row
      else
        if x19 = x18 then
          L_Re_pass_107 t_kinds t_size t_base t_least t_levelArc t_levelWeight t_most k86 n x1 x3 x5 x7 x9 x10 x11 x12 x13 x15 x17 x18 (x19 + 1) t_best t_isFree t_row
        else
          (f_Re_rowGain x17 x19 t_size t_base t_levelArc t_row).bind (fun r141 =>
          ck (okb x17 40) (
          (f_Re_rowOver t_kinds t_size t_base t_least t_levelWeight t_most (upd t_row (x17).toNatClampNeg x19)).bind (fun r156 =>
          ck (okb x17 40) (
          if (lg_cmp r156 x1) ≤ 0 then
            if x11 < 0 then
              J_Re_pass_209 (L_Re_pass_107 t_kinds t_size t_base t_least t_levelArc t_levelWeight t_most k86 n) x1 x3 x5 x7 x9 x10 x11 x12 x13 x15 x17 x18 x19 r141 r156 t_best t_isFree (upd (upd t_row (x17).toNatClampNeg x19) (x17).toNatClampNeg x18)
            else
              if (lg_cmp r156 x13) < 0 then
                J_Re_pass_209 (L_Re_pass_107 t_kinds t_size t_base t_least t_levelArc t_levelWeight t_most k86 n) x1 x3 x5 x7 x9 x10 x11 x12 x13 x15 x17 x18 x19 r141 r156 t_best t_isFree (upd (upd t_row (x17).toNatClampNeg x19) (x17).toNatClampNeg x18)
              else
                if (lg_cmp r156 x13) = 0 then
                  if (lg_cmp r141 x15) ≤ 0 then
                    J_Re_pass_213 (L_Re_pass_107 t_kinds t_size t_base t_least t_levelArc t_levelWeight t_most k86 n) x1 x3 x5 x7 x9 x10 x11 x12 x13 x15 x17 x18 x19 r141 r156 t_best t_isFree (upd (upd t_row (x17).toNatClampNeg x19) (x17).toNatClampNeg x18)
                  else
                    J_Re_pass_209 (L_Re_pass_107 t_kinds t_size t_base t_least t_levelArc t_levelWeight t_most k86 n) x1 x3 x5 x7 x9 x10 x11 x12 x13 x15 x17 x18 x19 r141 r156 t_best t_isFree (upd (upd t_row (x17).toNatClampNeg x19) (x17).toNatClampNeg x18)
                else
                  J_Re_pass_213 (L_Re_pass_107 t_kinds t_size t_base t_least t_levelArc t_levelWeight t_most k86 n) x1 x3 x5 x7 x9 x10 x11 x12 x13 x15 x17 x18 x19 r141 r156 t_best t_isFree (upd (upd t_row (x17).toNatClampNeg x19) (x17).toNatClampNeg x18)
          else
            L_Re_pass_107 t_kinds t_size t_base t_least t_levelArc t_levelWeight t_most k86 n x1 x3 x5 x7 x9 x10 x11 x12 x13 x15 x17 x18 (x19 + 1) t_best t_isFree (upd (upd t_row (x17).toNatClampNeg x19) (x17).toNatClampNeg x18))))))
def L_Re_pass_321 (t_size : Int32) (k62 : Int64 → Int64 → Int64 → Int64 → Int32 → Int32 → (Nat → Int32) → (Nat → Int32) → (Nat → Int32) → Option (Int32 × (Nat → Int32) × (Nat → Int32) × (Nat → Int32))) : Nat → Int64 → Int64 → Int64 → Int64 → Int32 → Int32 → Int32 → (Nat → Int32) → (Nat → Int32) → (Nat → Int32) → Option (Int32 × (Nat → Int32) × (Nat → Int32) × (Nat → Int32))
  | 0, _, _, _, _, _, _, _, _, _, _ => none
  | n + 1, x1, x3, x5, x7, x9, x10, x17, t_best, t_isFree, t_row =>
    if t_size ≤ x17 then
      k62 x1 x3 x5 x7 x9 (x10 + 1) t_best t_isFree t_row
    else
      ck (okb x17 40) (
      ck (okb x17 40) (
      L_Re_pass_321 t_size k62 n x1 x3 x5 x7 x9 x10 (x17 + 1) (upd t_best (x17).toNatClampNeg (t_row (x17).toNatClampNeg)) t_isFree t_row))
def J_Re_pass_309 (t_size : Int32) (k62 : Int64 → Int64 → Int64 → Int64 → Int32 → Int32 → (Nat → Int32) → (Nat → Int32) → (Nat → Int32) → Option (Int32 × (Nat → Int32) × (Nat → Int32) × (Nat → Int32))) (x1 : Int64) (x3 : Int64) (x10 : Int32) (t_best : Nat → Int32) (t_isFree : Nat → Int32) (t_row : Nat → Int32) : Option (Int32 × (Nat → Int32) × (Nat → Int32) × (Nat → Int32)) :=
  L_Re_pass_321 t_size k62 64 x1 x3 x1 x3 1 x10 0 t_best t_isFree t_row
def L_Re_pass_359 (t_size : Int32) : Nat → Int32 → Int32 → (Nat → Int32) → (Nat → Int32) → (Nat → Int32) → Option (Int32 × (Nat → Int32) × (Nat → Int32) × (Nat → Int32))
  | 0, _, _, _, _, _ => none
  | n + 1, x9, x10, t_best, t_isFree, t_row =>
    if t_size ≤ x10 then
      ck (okB x9) (
      some (x9, t_best, t_isFree, t_row))
    else
      ck (okb x10 40) (
      ck (okb x10 40) (
      L_Re_pass_359 t_size n x9 (x10 + 1) t_best t_isFree (upd t_row (x10).toNatClampNeg (t_best (x10).toNatClampNeg))))
def J_Re_pass_252 (t_size : Int32) (k62 : Int64 → Int64 → Int64 → Int64 → Int32 → Int32 → (Nat → Int32) → (Nat → Int32) → (Nat → Int32) → Option (Int32 × (Nat → Int32) × (Nat → Int32) × (Nat → Int32))) (x3 : Int64) (x5 : Int64) (x7 : Int64) (x9 : Int32) (x10 : Int32) (x11 : Int32) (x12 : Int32) (x13 : Int64) (x15 : Int64) (t_best : Nat → Int32) (t_isFree : Nat → Int32) (t_row : Nat → Int32) : Option (Int32 × (Nat → Int32) × (Nat → Int32) × (Nat → Int32)) :=
  if 0 ≤ x11 then
    ck (okb x11 40) (
    ck (okb x11 40) (
    if 0 < (lg_cmp x13 x5) then
      k62 x13 (x3 - x15) x5 x7 x9 (x10 + 1) t_best (upd t_isFree (x11).toNatClampNeg (vp_nar .boolean 0)) (upd t_row (x11).toNatClampNeg x12)
    else
      if (lg_cmp x13 x5) = 0 then
        if (lg_cmp (x3 - x15) x7) < 0 then
          J_Re_pass_309 t_size k62 x13 (x3 - x15) x10 t_best (upd t_isFree (x11).toNatClampNeg (vp_nar .boolean 0)) (upd t_row (x11).toNatClampNeg x12)
        else
          k62 x13 (x3 - x15) x5 x7 x9 (x10 + 1) t_best (upd t_isFree (x11).toNatClampNeg (vp_nar .boolean 0)) (upd t_row (x11).toNatClampNeg x12)
      else
        J_Re_pass_309 t_size k62 x13 (x3 - x15) x10 t_best (upd t_isFree (x11).toNatClampNeg (vp_nar .boolean 0)) (upd t_row (x11).toNatClampNeg x12)))
  else
    L_Re_pass_359 t_size 64 x9 0 t_best t_isFree t_row
def L_Re_pass_86 (t_kinds : Int32) (t_size : Int32) (t_base : Int32) (t_least : Nat → Int32) (t_levelArc : Nat → Int32) (t_levelWeight : Nat → Int32) (t_most : Nat → Int32) (k62 : Int64 → Int64 → Int64 → Int64 → Int32 → Int32 → (Nat → Int32) → (Nat → Int32) → (Nat → Int32) → Option (Int32 × (Nat → Int32) × (Nat → Int32) × (Nat → Int32))) : Nat → Int64 → Int64 → Int64 → Int64 → Int32 → Int32 → Int32 → Int32 → Int64 → Int64 → Int32 → (Nat → Int32) → (Nat → Int32) → (Nat → Int32) → Option (Int32 × (Nat → Int32) × (Nat → Int32) × (Nat → Int32))
  | 0, _, _, _, _, _, _, _, _, _, _, _, _, _, _ => none
  | n + 1, x1, x3, x5, x7, x9, x10, x11, x12, x13, x15, x17, t_best, t_isFree, t_row =>
    if t_size ≤ x17 then
      J_Re_pass_252 t_size k62 x3 x5 x7 x9 x10 x11 x12 x13 x15 t_best t_isFree t_row
    else
      ck (okb x17 40) (
      L_Re_pass_107 t_kinds t_size t_base t_least t_levelArc t_levelWeight t_most (L_Re_pass_86 t_kinds t_size t_base t_least t_levelArc t_levelWeight t_most k62 n) 64 x1 x3 x5 x7 x9 x10 x11 x12 x13 x15 x17 (t_row (x17).toNatClampNeg) 0 t_best t_isFree t_row)
def L_Re_pass_62 (t_kinds : Int32) (t_size : Int32) (t_base : Int32) (t_least : Nat → Int32) (t_levelArc : Nat → Int32) (t_levelWeight : Nat → Int32) (t_most : Nat → Int32) : Nat → Int64 → Int64 → Int64 → Int64 → Int32 → Int32 → (Nat → Int32) → (Nat → Int32) → (Nat → Int32) → Option (Int32 × (Nat → Int32) × (Nat → Int32) × (Nat → Int32))
  | 0, _, _, _, _, _, _, _, _, _ => none
  | n + 1, x1, x3, x5, x7, x9, x10, t_best, t_isFree, t_row =>
    if t_size ≤ x10 then
      L_Re_pass_359 t_size 64 x9 0 t_best t_isFree t_row
    else
      L_Re_pass_86 t_kinds t_size t_base t_least t_levelArc t_levelWeight t_most (L_Re_pass_62 t_kinds t_size t_base t_least t_levelArc t_levelWeight t_most n) 64 x1 x3 x5 x7 x9 x10 (-1) 0 (0 : Int64) (0 : Int64) 0 t_best t_isFree t_row
def L_Re_pass_19 (t_kinds : Int32) (t_size : Int32) (t_base : Int32) (t_least : Nat → Int32) (t_levelArc : Nat → Int32) (t_levelWeight : Nat → Int32) (t_most : Nat → Int32) (t_row : Nat → Int32) : Nat → Int64 → Int64 → Int64 → Int64 → Int32 → (Nat → Int32) → (Nat → Int32) → Option (Int32 × (Nat → Int32) × (Nat → Int32) × (Nat → Int32))
  | 0, _, _, _, _, _, _, _ => none
  | n + 1, x1, x3, x5, x7, x9, t_best, t_isFree =>
    if t_size ≤ x9 then
      L_Re_pass_62 t_kinds t_size t_base t_least t_levelArc t_levelWeight t_most 64 x1 x3 x5 x7 0 0 t_best t_isFree t_row
    else
      ck (okb x9 40) (
      ck (okb x9 40) (
      ck (okb x9 40) (
      L_Re_pass_19 t_kinds t_size t_base t_least t_levelArc t_levelWeight t_most t_row n x1 x3 x5 x7 (x9 + 1) (upd t_best (x9).toNatClampNeg (t_row (x9).toNatClampNeg)) (upd t_isFree (x9).toNatClampNeg (vp_nar .boolean 1)))))
def f_Re_pass (t_kinds : Int32) (t_size : Int32) (t_base : Int32) (t_best : Nat → Int32) (t_isFree : Nat → Int32) (t_least : Nat → Int32) (t_levelArc : Nat → Int32) (t_levelWeight : Nat → Int32) (t_most : Nat → Int32) (t_row : Nat → Int32) : Option (Int32 × (Nat → Int32) × (Nat → Int32) × (Nat → Int32)) :=
  (f_Re_rowOver t_kinds t_size t_base t_least t_levelWeight t_most t_row).bind (fun r1 =>
  (f_Re_rowCut t_size t_base t_levelArc t_row).bind (fun r6 =>
  L_Re_pass_19 t_kinds t_size t_base t_least t_levelArc t_levelWeight t_most t_row 64 r1 r6 r1 r6 0 t_best t_isFree))
def L_Re_passes_2 (t_kinds : Int32) (t_size : Int32) (t_base : Int32) (t_least : Nat → Int32) (t_levelArc : Nat → Int32) (t_levelWeight : Nat → Int32) (t_most : Nat → Int32) : Nat → Int32 → (Nat → Int32) → (Nat → Int32) → (Nat → Int32) → Option (Int32 × (Nat → Int32) × (Nat → Int32) × (Nat → Int32))
  | 0, _, _, _, _ => none
  | n + 1, x1, t_best, t_isFree, t_row =>
    if 8 ≤ x1 then
      some (x1, t_best, t_isFree, t_row)
    else
      (f_Re_pass t_kinds t_size t_base t_best t_isFree t_least t_levelArc t_levelWeight t_most t_row).bind (fun r9 =>
      if r9.1 = 0 then
        some (x1, r9.2.1, r9.2.2.1, r9.2.2.2)
      else
        L_Re_passes_2 t_kinds t_size t_base t_least t_levelArc t_levelWeight t_most n (x1 + 1) r9.2.1 r9.2.2.1 r9.2.2.2)
def f_Re_passes (t_kinds : Int32) (t_size : Int32) (t_base : Int32) (t_best : Nat → Int32) (t_isFree : Nat → Int32) (t_least : Nat → Int32) (t_levelArc : Nat → Int32) (t_levelWeight : Nat → Int32) (t_most : Nat → Int32) (t_row : Nat → Int32) : Option (Int32 × (Nat → Int32) × (Nat → Int32) × (Nat → Int32)) :=
  L_Re_passes_2 t_kinds t_size t_base t_least t_levelArc t_levelWeight t_most 64 0 t_best t_isFree t_row
def J_Re_grows_141 (k32 : Int32 → (Nat → Int32) → (Nat → Int32) → Option ((Nat → Int32) × (Nat → Int32))) (x1 : Int32) (x2 : Int32) (x3 : Int32) (t_isFree : Nat → Int32) (t_row : Nat → Int32) : Option ((Nat → Int32) × (Nat → Int32)) :=
  ck (okb x2 40) (
  ck (okb x2 40) (
  k32 (x1 + 1) (upd t_isFree (x2).toNatClampNeg (vp_nar .boolean 0)) (upd t_row (x2).toNatClampNeg x3)))
def L_Re_grows_91 (t_kinds : Int32) (t_size : Int32) (t_base : Int32) (t_levelWeight : Nat → Int32) (t_most : Nat → Int32) (k32 : Int32 → (Nat → Int32) → (Nat → Int32) → Option ((Nat → Int32) × (Nat → Int32))) : Nat → Int32 → Int32 → Int32 → Int32 → (Nat → Int32) → (Nat → Int32) → Option ((Nat → Int32) × (Nat → Int32))
  | 0, _, _, _, _, _, _ => none
  | n + 1, x1, x2, x3, x4, t_isFree, t_row =>
    if t_kinds ≤ x4 then
      J_Re_grows_141 k32 x1 x2 x3 t_isFree t_row
    else
      ck (okb x4 4) (
      (f_Re_sumOf x4 t_size t_base t_levelWeight t_row).bind (fun r111 =>
      ck (okb x3 4) (
      (f_Re_sumOf x3 t_size t_base t_levelWeight t_row).bind (fun r124 =>
      if (lg_cmp (((t_most (x4).toNatClampNeg).toInt64) - r111) (((t_most (x3).toNatClampNeg).toInt64) - r124)) ≤ 0 then
        L_Re_grows_91 t_kinds t_size t_base t_levelWeight t_most k32 n x1 x2 x3 (x4 + 1) t_isFree t_row
      else
        L_Re_grows_91 t_kinds t_size t_base t_levelWeight t_most k32 n x1 x2 x4 (x4 + 1) t_isFree t_row))))
def L_Re_grows_44 (t_kinds : Int32) (t_size : Int32) (t_base : Int32) (t_levelWeight : Nat → Int32) (t_most : Nat → Int32) (k32 : Int32 → (Nat → Int32) → (Nat → Int32) → Option ((Nat → Int32) × (Nat → Int32))) : Nat → Int32 → Int32 → Int32 → (Nat → Int32) → (Nat → Int32) → Option ((Nat → Int32) × (Nat → Int32))
  | 0, _, _, _, _, _ => none
  | n + 1, x1, x2, x3, t_isFree, t_row =>
    if t_size ≤ x3 then
      L_Re_grows_91 t_kinds t_size t_base t_levelWeight t_most k32 64 x1 x2 0 1 t_isFree t_row
    else
      ck (okb x3 40) (
      if (t_isFree (x3).toNatClampNeg) = 0 then
        L_Re_grows_44 t_kinds t_size t_base t_levelWeight t_most k32 n x1 x2 (x3 + 1) t_isFree t_row
      else
        if x2 < 0 then
          L_Re_grows_44 t_kinds t_size t_base t_levelWeight t_most k32 n x1 x3 (x3 + 1) t_isFree t_row
        else
          (f_Re_weightOf x3 t_base t_levelWeight).bind (fun r67 =>
          (f_Re_weightOf x2 t_base t_levelWeight).bind (fun r72 =>
          if r67 ≤ r72 then
            L_Re_grows_44 t_kinds t_size t_base t_levelWeight t_most k32 n x1 x2 (x3 + 1) t_isFree t_row
          else
            L_Re_grows_44 t_kinds t_size t_base t_levelWeight t_most k32 n x1 x3 (x3 + 1) t_isFree t_row)))
def L_Re_grows_32 (t_kinds : Int32) (t_size : Int32) (t_base : Int32) (t_levelWeight : Nat → Int32) (t_most : Nat → Int32) : Nat → Int32 → (Nat → Int32) → (Nat → Int32) → Option ((Nat → Int32) × (Nat → Int32))
  | 0, _, _, _ => none
  | n + 1, x1, t_isFree, t_row =>
    if t_size ≤ x1 then
      some (t_isFree, t_row)
    else
      L_Re_grows_44 t_kinds t_size t_base t_levelWeight t_most (L_Re_grows_32 t_kinds t_size t_base t_levelWeight t_most n) 64 x1 (-1) 0 t_isFree t_row
def L_Re_grows_2 (t_kinds : Int32) (t_size : Int32) (t_base : Int32) (t_levelWeight : Nat → Int32) (t_most : Nat → Int32) : Nat → Int32 → (Nat → Int32) → (Nat → Int32) → Option ((Nat → Int32) × (Nat → Int32))
  | 0, _, _, _ => none
  | n + 1, x1, t_isFree, t_row =>
    if t_size ≤ x1 then
      L_Re_grows_32 t_kinds t_size t_base t_levelWeight t_most 64 0 t_isFree t_row
    else
      ck (okb x1 40) (
      ck (okb x1 40) (
      L_Re_grows_2 t_kinds t_size t_base t_levelWeight t_most n (x1 + 1) (upd t_isFree (x1).toNatClampNeg (vp_nar .boolean 1)) (upd t_row (x1).toNatClampNeg (-1))))
def f_Re_grows (t_kinds : Int32) (t_size : Int32) (t_base : Int32) (t_isFree : Nat → Int32) (t_levelWeight : Nat → Int32) (t_most : Nat → Int32) (t_row : Nat → Int32) : Option ((Nat → Int32) × (Nat → Int32)) :=
  L_Re_grows_2 t_kinds t_size t_base t_levelWeight t_most 64 0 t_isFree t_row
def J_Re_tries_184 (k32 : Int64 → Int64 → Int32 → (Nat → Int32) → (Nat → Int32) → Option ((Nat → Int32) × (Nat → Int32))) (y0 : Int32) (x1 : Int64) (x3 : Int64) (x10 : Int32) (t_best : Nat → Int32) (t_row : Nat → Int32) : Option ((Nat → Int32) × (Nat → Int32)) :=
  if y0 = 0 then
    k32 x1 x3 y0 t_best t_row
  else
    ck (okb x10 40) (
    ck (okb x10 40) (
    k32 x1 x3 y0 t_best (upd t_row (x10).toNatClampNeg ((t_row (x10).toNatClampNeg) + 1))))
def J_Re_tries_174 (k32 : Int64 → Int64 → Int32 → (Nat → Int32) → (Nat → Int32) → Option ((Nat → Int32) × (Nat → Int32))) (x1 : Int64) (x3 : Int64) (x10 : Int32) (t_best : Nat → Int32) (t_row : Nat → Int32) : Option ((Nat → Int32) × (Nat → Int32)) :=
  if x10 < 0 then
    J_Re_tries_184 k32 0 x1 x3 x10 t_best t_row
  else
    J_Re_tries_184 k32 1 x1 x3 x10 t_best t_row
def L_Re_tries_139 (t_kinds : Int32) (k32 : Int64 → Int64 → Int32 → (Nat → Int32) → (Nat → Int32) → Option ((Nat → Int32) × (Nat → Int32))) : Nat → Int64 → Int64 → Int32 → (Nat → Int32) → (Nat → Int32) → Option ((Nat → Int32) × (Nat → Int32))
  | 0, _, _, _, _, _ => none
  | n + 1, x1, x3, x10, t_best, t_row =>
    if x10 < 0 then
      J_Re_tries_174 k32 x1 x3 x10 t_best t_row
    else
      ck (okb x10 40) (
      if (t_row (x10).toNatClampNeg) = (t_kinds - 1) then
        ck (okb x10 40) (
        L_Re_tries_139 t_kinds k32 n x1 x3 (x10 + (-1)) t_best (upd t_row (x10).toNatClampNeg 0))
      else
        J_Re_tries_174 k32 x1 x3 x10 t_best t_row)
def L_Re_tries_102 (t_kinds : Int32) (t_size : Int32) (k32 : Int64 → Int64 → Int32 → (Nat → Int32) → (Nat → Int32) → Option ((Nat → Int32) × (Nat → Int32))) : Nat → Int64 → Int64 → Int32 → (Nat → Int32) → (Nat → Int32) → Option ((Nat → Int32) × (Nat → Int32))
  | 0, _, _, _, _, _ => none
  | n + 1, x1, x3, x10, t_best, t_row =>
    if t_size ≤ x10 then
      L_Re_tries_139 t_kinds k32 64 x1 x3 (t_size - 1) t_best t_row
    else
      ck (okb x10 40) (
      ck (okb x10 40) (
      L_Re_tries_102 t_kinds t_size k32 n x1 x3 (x10 + 1) (upd t_best (x10).toNatClampNeg (t_row (x10).toNatClampNeg)) t_row))
def J_Re_tries_64 (t_kinds : Int32) (t_size : Int32) (k32 : Int64 → Int64 → Int32 → (Nat → Int32) → (Nat → Int32) → Option ((Nat → Int32) × (Nat → Int32))) (y0 : Int64) (x1 : Int64) (x3 : Int64) (x6 : Int64) (t_best : Nat → Int32) (t_row : Nat → Int32) : Option ((Nat → Int32) × (Nat → Int32)) :=
  if (lg_cmp x1 (0 : Int64)) < 0 then
    L_Re_tries_102 t_kinds t_size k32 64 x6 y0 0 t_best t_row
  else
    if (lg_cmp x6 x1) < 0 then
      L_Re_tries_102 t_kinds t_size k32 64 x6 y0 0 t_best t_row
    else
      if (lg_cmp x6 x1) = 0 then
        if 0 ≤ (lg_cmp y0 x3) then
          L_Re_tries_139 t_kinds k32 64 x1 x3 (t_size - 1) t_best t_row
        else
          L_Re_tries_102 t_kinds t_size k32 64 x6 y0 0 t_best t_row
      else
        L_Re_tries_139 t_kinds k32 64 x1 x3 (t_size - 1) t_best t_row
def J_Re_tries_56 (t_kinds : Int32) (t_size : Int32) (t_base : Int32) (t_levelArc : Nat → Int32) (k32 : Int64 → Int64 → Int32 → (Nat → Int32) → (Nat → Int32) → Option ((Nat → Int32) × (Nat → Int32))) (x1 : Int64) (x3 : Int64) (x6 : Int64) (t_best : Nat → Int32) (t_row : Nat → Int32) : Option ((Nat → Int32) × (Nat → Int32)) :=
  (f_Re_rowCut t_size t_base t_levelArc t_row).bind (fun r57 =>
  J_Re_tries_64 t_kinds t_size k32 r57 x1 x3 x6 t_best t_row)
def L_Re_tries_208 (t_size : Int32) : Nat → Int32 → (Nat → Int32) → (Nat → Int32) → Option ((Nat → Int32) × (Nat → Int32))
  | 0, _, _, _ => none
  | n + 1, x6, t_best, t_row =>
    if t_size ≤ x6 then
      some (t_best, t_row)
    else
      ck (okb x6 40) (
      ck (okb x6 40) (
      L_Re_tries_208 t_size n (x6 + 1) t_best (upd t_row (x6).toNatClampNeg (t_best (x6).toNatClampNeg))))
def L_Re_tries_32 (t_kinds : Int32) (t_size : Int32) (t_base : Int32) (t_least : Nat → Int32) (t_levelArc : Nat → Int32) (t_levelWeight : Nat → Int32) (t_most : Nat → Int32) : Nat → Int64 → Int64 → Int32 → (Nat → Int32) → (Nat → Int32) → Option ((Nat → Int32) × (Nat → Int32))
  | 0, _, _, _, _, _ => none
  | n + 1, x1, x3, x5, t_best, t_row =>
    if x5 = 0 then
      L_Re_tries_208 t_size 64 0 t_best t_row
    else
      (f_Re_rowOver t_kinds t_size t_base t_least t_levelWeight t_most t_row).bind (fun r38 =>
      if (lg_cmp x1 (0 : Int64)) < 0 then
        J_Re_tries_56 t_kinds t_size t_base t_levelArc (L_Re_tries_32 t_kinds t_size t_base t_least t_levelArc t_levelWeight t_most n) x1 x3 r38 t_best t_row
      else
        if 0 < (lg_cmp r38 x1) then
          J_Re_tries_64 t_kinds t_size (L_Re_tries_32 t_kinds t_size t_base t_least t_levelArc t_levelWeight t_most n) (0 : Int64) x1 x3 r38 t_best t_row
        else
          J_Re_tries_56 t_kinds t_size t_base t_levelArc (L_Re_tries_32 t_kinds t_size t_base t_least t_levelArc t_levelWeight t_most n) x1 x3 r38 t_best t_row)
def L_Re_tries_2 (t_kinds : Int32) (t_size : Int32) (t_base : Int32) (t_best : Nat → Int32) (t_least : Nat → Int32) (t_levelArc : Nat → Int32) (t_levelWeight : Nat → Int32) (t_most : Nat → Int32) : Nat → Int32 → (Nat → Int32) → Option ((Nat → Int32) × (Nat → Int32))
  | 0, _, _ => none
  | n + 1, x1, t_row =>
    if t_size ≤ x1 then
      L_Re_tries_32 t_kinds t_size t_base t_least t_levelArc t_levelWeight t_most 70000 (-1 : Int64) (0 : Int64) 1 t_best t_row
    else
      ck (okb x1 40) (
      L_Re_tries_2 t_kinds t_size t_base t_best t_least t_levelArc t_levelWeight t_most n (x1 + 1) (upd t_row (x1).toNatClampNeg 0))
def f_Re_tries (t_kinds : Int32) (t_size : Int32) (t_base : Int32) (t_best : Nat → Int32) (t_least : Nat → Int32) (t_levelArc : Nat → Int32) (t_levelWeight : Nat → Int32) (t_most : Nat → Int32) (t_row : Nat → Int32) : Option ((Nat → Int32) × (Nat → Int32)) :=
  L_Re_tries_2 t_kinds t_size t_base t_best t_least t_levelArc t_levelWeight t_most 64 0 t_row
def f_Re_told (t_kinds : Int32) (t_size : Int32) (t_base : Int32) (t_least : Nat → Int32) (t_levelArc : Nat → Int32) (t_levelWeight : Nat → Int32) (t_most : Nat → Int32) (t_row : Nat → Int32) : Option (Int32) :=
  (f_Re_rowOver t_kinds t_size t_base t_least t_levelWeight t_most t_row).bind (fun r1 =>
  if (lg_cmp r1 (0 : Int64)) = 0 then
    (f_Re_rowCut t_size t_base t_levelArc t_row).bind (fun r12 =>
    some r12.toInt32)
  else
    some (((-10 : Int64) - r1).toInt32))
def J_Re_run_121 (t_kinds : Int32) (t_least : Nat → Int32) (t_most : Nat → Int32) (k46 : Int32 → Int32 → Int32 → Int32 → (Nat → Int32) → (Nat → Int32) → (Nat → Int32) → (Nat → Int32) → (Nat → Int32) → (Nat → Int32) → (Nat → Int32) → (Nat → Int32) → Option (Int32 × Int32 × Int32 × Int32 × (Nat → Int32) × (Nat → Int32) × (Nat → Int32) × (Nat → Int32) × (Nat → Int32) × (Nat → Int32) × (Nat → Int32) × (Nat → Int32) × (Nat → Int32))) (x1 : Int32) (t_levels : Int32) (t_size : Int32) (t_base : Int32) (t_above : Nat → Int32) (t_best : Nat → Int32) (t_isFree : Nat → Int32) (t_levelArc : Nat → Int32) (t_levelIn : Nat → Int32) (t_levelNodes : Nat → Int32) (t_levelWeight : Nat → Int32) (t_row : Nat → Int32) : Option (Int32 × Int32 × Int32 × Int32 × (Nat → Int32) × (Nat → Int32) × (Nat → Int32) × (Nat → Int32) × (Nat → Int32) × (Nat → Int32) × (Nat → Int32) × (Nat → Int32) × (Nat → Int32)) :=
  (f_Re_passes t_kinds t_size t_base t_best t_isFree t_least t_levelArc t_levelWeight t_most t_row).bind (fun r122 =>
  k46 (x1 + (-1)) t_levels t_size t_base t_above r122.2.1 r122.2.2.1 t_levelArc t_levelIn t_levelNodes t_levelWeight r122.2.2.2)
def L_Re_run_95 (t_kinds : Int32) (t_least : Nat → Int32) (t_most : Nat → Int32) (k46 : Int32 → Int32 → Int32 → Int32 → (Nat → Int32) → (Nat → Int32) → (Nat → Int32) → (Nat → Int32) → (Nat → Int32) → (Nat → Int32) → (Nat → Int32) → (Nat → Int32) → Option (Int32 × Int32 × Int32 × Int32 × (Nat → Int32) × (Nat → Int32) × (Nat → Int32) × (Nat → Int32) × (Nat → Int32) × (Nat → Int32) × (Nat → Int32) × (Nat → Int32) × (Nat → Int32))) : Nat → Int32 → Int32 → Int32 → Int32 → Int32 → (Nat → Int32) → (Nat → Int32) → (Nat → Int32) → (Nat → Int32) → (Nat → Int32) → (Nat → Int32) → (Nat → Int32) → (Nat → Int32) → Option (Int32 × Int32 × Int32 × Int32 × (Nat → Int32) × (Nat → Int32) × (Nat → Int32) × (Nat → Int32) × (Nat → Int32) × (Nat → Int32) × (Nat → Int32) × (Nat → Int32) × (Nat → Int32))
  | 0, _, _, _, _, _, _, _, _, _, _, _, _, _ => none
  | n + 1, x1, x2, t_levels, t_size, t_base, t_above, t_best, t_isFree, t_levelArc, t_levelIn, t_levelNodes, t_levelWeight, t_row =>
    if t_size ≤ x2 then
      J_Re_run_121 t_kinds t_least t_most k46 x1 t_levels t_size t_base t_above t_best t_isFree t_levelArc t_levelIn t_levelNodes t_levelWeight t_row
    else
      ck (okb x2 40) (
      ck (okb x2 40) (
      L_Re_run_95 t_kinds t_least t_most k46 n x1 (x2 + 1) t_levels t_size t_base t_above t_best t_isFree t_levelArc t_levelIn t_levelNodes t_levelWeight (upd t_row (x2).toNatClampNeg (t_above (x2).toNatClampNeg))))
def L_Re_run_57 (t_kinds : Int32) (t_least : Nat → Int32) (t_most : Nat → Int32) (k46 : Int32 → Int32 → Int32 → Int32 → (Nat → Int32) → (Nat → Int32) → (Nat → Int32) → (Nat → Int32) → (Nat → Int32) → (Nat → Int32) → (Nat → Int32) → (Nat → Int32) → Option (Int32 × Int32 × Int32 × Int32 × (Nat → Int32) × (Nat → Int32) × (Nat → Int32) × (Nat → Int32) × (Nat → Int32) × (Nat → Int32) × (Nat → Int32) × (Nat → Int32) × (Nat → Int32))) : Nat → Int32 → Int32 → Int32 → Int32 → Int32 → (Nat → Int32) → (Nat → Int32) → (Nat → Int32) → (Nat → Int32) → (Nat → Int32) → (Nat → Int32) → (Nat → Int32) → (Nat → Int32) → Option (Int32 × Int32 × Int32 × Int32 × (Nat → Int32) × (Nat → Int32) × (Nat → Int32) × (Nat → Int32) × (Nat → Int32) × (Nat → Int32) × (Nat → Int32) × (Nat → Int32) × (Nat → Int32))
  | 0, _, _, _, _, _, _, _, _, _, _, _, _, _ => none
  | n + 1, x1, x2, t_levels, t_size, t_base, t_above, t_best, t_isFree, t_levelArc, t_levelIn, t_levelNodes, t_levelWeight, t_row =>
    if t_size ≤ x2 then
      L_Re_run_95 t_kinds t_least t_most k46 64 x1 0 t_levels t_size t_base t_above t_best t_isFree t_levelArc t_levelIn t_levelNodes t_levelWeight t_row
    else
      ck (okb ((40 * x1) + x2) 1640) (
      ck (okb (t_levelIn ((40 * x1) + x2).toNatClampNeg) 40) (
      ck (okb x2 40) (
      L_Re_run_57 t_kinds t_least t_most k46 n x1 (x2 + 1) t_levels t_size t_base (upd t_above (x2).toNatClampNeg (t_row (t_levelIn ((40 * x1) + x2).toNatClampNeg).toNatClampNeg)) t_best t_isFree t_levelArc t_levelIn t_levelNodes t_levelWeight t_row)))
def J_Re_run_132 (t_nodes : Int32) (t_kinds : Int32) (t_least : Nat → Int32) (t_most : Nat → Int32) (t_split : Nat → Int32) (t_levels : Int32) (t_size : Int32) (t_base : Int32) (t_above : Nat → Int32) (t_best : Nat → Int32) (t_isFree : Nat → Int32) (t_levelArc : Nat → Int32) (t_levelIn : Nat → Int32) (t_levelNodes : Nat → Int32) (t_levelWeight : Nat → Int32) (t_row : Nat → Int32) : Option (Int32 × Int32 × Int32 × Int32 × (Nat → Int32) × (Nat → Int32) × (Nat → Int32) × (Nat → Int32) × (Nat → Int32) × (Nat → Int32) × (Nat → Int32) × (Nat → Int32) × (Nat → Int32)) :=
  (f_Re_giveSplit t_nodes t_row t_split).bind (fun r133 =>
  (f_Re_told t_kinds t_size t_base t_least t_levelArc t_levelWeight t_most t_row).bind (fun r137 =>
  some (r137, t_levels, t_size, t_base, t_above, t_best, t_isFree, t_levelArc, t_levelIn, t_levelNodes, t_levelWeight, t_row, r133)))
def L_Re_run_46 (t_nodes : Int32) (t_kinds : Int32) (t_least : Nat → Int32) (t_most : Nat → Int32) (t_split : Nat → Int32) : Nat → Int32 → Int32 → Int32 → Int32 → (Nat → Int32) → (Nat → Int32) → (Nat → Int32) → (Nat → Int32) → (Nat → Int32) → (Nat → Int32) → (Nat → Int32) → (Nat → Int32) → Option (Int32 × Int32 × Int32 × Int32 × (Nat → Int32) × (Nat → Int32) × (Nat → Int32) × (Nat → Int32) × (Nat → Int32) × (Nat → Int32) × (Nat → Int32) × (Nat → Int32) × (Nat → Int32))
  | 0, _, _, _, _, _, _, _, _, _, _, _, _ => none
  | n + 1, x1, t_levels, t_size, t_base, t_above, t_best, t_isFree, t_levelArc, t_levelIn, t_levelNodes, t_levelWeight, t_row =>
    if x1 < 0 then
      J_Re_run_132 t_nodes t_kinds t_least t_most t_split t_levels t_size t_base t_above t_best t_isFree t_levelArc t_levelIn t_levelNodes t_levelWeight t_row
    else
      (f_Re_take x1 t_levelNodes).bind (fun r52 =>
      L_Re_run_57 t_kinds t_least t_most (L_Re_run_46 t_nodes t_kinds t_least t_most t_split n) 64 x1 0 t_levels r52.1 r52.2 t_above t_best t_isFree t_levelArc t_levelIn t_levelNodes t_levelWeight t_row)
def J_Re_run_34 (t_nodes : Int32) (t_kinds : Int32) (t_above : Nat → Int32) (t_least : Nat → Int32) (t_most : Nat → Int32) (t_split : Nat → Int32) (t_levels : Int32) (t_size : Int32) (t_base : Int32) (t_best : Nat → Int32) (t_isFree : Nat → Int32) (t_levelArc : Nat → Int32) (t_levelIn : Nat → Int32) (t_levelNodes : Nat → Int32) (t_levelWeight : Nat → Int32) (t_row : Nat → Int32) : Option (Int32 × Int32 × Int32 × Int32 × (Nat → Int32) × (Nat → Int32) × (Nat → Int32) × (Nat → Int32) × (Nat → Int32) × (Nat → Int32) × (Nat → Int32) × (Nat → Int32) × (Nat → Int32)) :=
  (f_Re_passes t_kinds t_size t_base t_best t_isFree t_least t_levelArc t_levelWeight t_most t_row).bind (fun r35 =>
  L_Re_run_46 t_nodes t_kinds t_least t_most t_split 64 (t_levels - 2) t_levels t_size t_base t_above r35.2.1 r35.2.2.1 t_levelArc t_levelIn t_levelNodes t_levelWeight r35.2.2.2)
def f_Re_run (t_nodes : Int32) (t_kinds : Int32) (t_above : Nat → Int32) (t_arcs : Nat → Int32) (t_best : Nat → Int32) (t_isFree : Nat → Int32) (t_least : Nat → Int32) (t_levelArc : Nat → Int32) (t_levelIn : Nat → Int32) (t_levelNodes : Nat → Int32) (t_levelWeight : Nat → Int32) (t_most : Nat → Int32) (t_row : Nat → Int32) (t_split : Nat → Int32) (t_weight : Nat → Int32) : Option (Int32 × Int32 × Int32 × Int32 × (Nat → Int32) × (Nat → Int32) × (Nat → Int32) × (Nat → Int32) × (Nat → Int32) × (Nat → Int32) × (Nat → Int32) × (Nat → Int32) × (Nat → Int32)) :=
  (f_Re_makeLevels t_nodes t_kinds t_arcs t_levelArc t_levelIn t_levelNodes t_levelWeight t_weight).bind (fun r1 =>
  (f_Re_take (r1.1 - 1) r1.2.2.2.1).bind (fun r11 =>
  if 6 < r11.1 then
    (f_Re_grows t_kinds r11.1 r11.2 t_isFree r1.2.2.2.2 t_most t_row).bind (fun r31 =>
    J_Re_run_34 t_nodes t_kinds t_above t_least t_most t_split r1.1 r11.1 r11.2 t_best r31.1 r1.2.1 r1.2.2.1 r1.2.2.2.1 r1.2.2.2.2 r31.2)
  else
    (f_Re_tries t_kinds r11.1 r11.2 t_best t_least r1.2.1 r1.2.2.2.2 t_most t_row).bind (fun r24 =>
    J_Re_run_34 t_nodes t_kinds t_above t_least t_most t_split r1.1 r11.1 r11.2 r24.1 t_isFree r1.2.1 r1.2.2.1 r1.2.2.2.1 r1.2.2.2.2 r24.2)))
def f_Re_refine (t_nodes : Int32) (t_kinds : Int32) (t_arcs : Nat → Int32) (t_best : Nat → Int32) (t_isFree : Nat → Int32) (t_least : Nat → Int32) (t_levelArc : Nat → Int32) (t_levelIn : Nat → Int32) (t_levelNodes : Nat → Int32) (t_levelWeight : Nat → Int32) (t_most : Nat → Int32) (t_row : Nat → Int32) (t_split : Nat → Int32) (t_weight : Nat → Int32) : Option (Int32 × Int32 × Int32 × Int32 × (Nat → Int32) × (Nat → Int32) × (Nat → Int32) × (Nat → Int32) × (Nat → Int32) × (Nat → Int32) × (Nat → Int32) × (Nat → Int32)) :=
  (f_Re_takeSplit t_nodes t_kinds t_arcs t_levelArc t_levelIn t_levelNodes t_levelWeight t_row t_split t_weight).bind (fun r1 =>
  (f_Re_passes t_kinds r1.2.1 r1.2.2.1 t_best t_isFree t_least r1.2.2.2.1 r1.2.2.2.2.2.2.1 t_most r1.2.2.2.2.2.2.2).bind (fun r5 =>
  (f_Re_giveSplit t_nodes r5.2.2.2 t_split).bind (fun r10 =>
  some (r5.1, r1.1, r1.2.1, r1.2.2.1, r5.2.1, r5.2.2.1, r1.2.2.2.1, r1.2.2.2.2.1, r1.2.2.2.2.2.1, r1.2.2.2.2.2.2.1, r5.2.2.2, r10))))
def f_Re_grow (t_nodes : Int32) (t_kinds : Int32) (t_arcs : Nat → Int32) (t_isFree : Nat → Int32) (t_levelArc : Nat → Int32) (t_levelIn : Nat → Int32) (t_levelNodes : Nat → Int32) (t_levelWeight : Nat → Int32) (t_most : Nat → Int32) (t_row : Nat → Int32) (t_split : Nat → Int32) (t_weight : Nat → Int32) : Option (Int32 × Int32 × Int32 × Int32 × (Nat → Int32) × (Nat → Int32) × (Nat → Int32) × (Nat → Int32) × (Nat → Int32) × (Nat → Int32) × (Nat → Int32)) :=
  (f_Re_takeSplit t_nodes t_kinds t_arcs t_levelArc t_levelIn t_levelNodes t_levelWeight t_row t_split t_weight).bind (fun r1 =>
  (f_Re_grows t_kinds r1.2.1 r1.2.2.1 t_isFree r1.2.2.2.2.2.2.1 t_most r1.2.2.2.2.2.2.2).bind (fun r5 =>
  (f_Re_giveSplit t_nodes r5.2 t_split).bind (fun r9 =>
  (f_Re_rowCut r1.2.1 r1.2.2.1 r1.2.2.2.1 r5.2).bind (fun r13 =>
  some (r13.toInt32, r1.1, r1.2.1, r1.2.2.1, r5.1, r1.2.2.2.1, r1.2.2.2.2.1, r1.2.2.2.2.2.1, r1.2.2.2.2.2.2.1, r5.2, r9)))))
def L_Re_makeOrder_82 (k27 : Int32 → Int32 → (Nat → Int32) → (Nat → Int32) → Option ((Nat → Int32) × (Nat → Int32))) : Nat → Int32 → Int32 → Int32 → Int32 → (Nat → Int32) → (Nat → Int32) → Option ((Nat → Int32) × (Nat → Int32))
  | 0, _, _, _, _, _, _ => none
  | n + 1, x2, x3, x4, x6, t_above, t_ordered =>
    if (x4 - 1) ≤ x6 then
      k27 x2 (x3 + 1) t_above t_ordered
    else
      ck (okb (x6 + 1) 40) (
      ck (okb x6 40) (
      L_Re_makeOrder_82 k27 n x2 x3 x4 (x6 + 1) (upd t_above (x6).toNatClampNeg (t_above (x6 + 1).toNatClampNeg)) t_ordered))
def L_Re_makeOrder_27 (t_nodes : Int32) : Nat → Int32 → Int32 → (Nat → Int32) → (Nat → Int32) → Option ((Nat → Int32) × (Nat → Int32))
  | 0, _, _, _, _ => none
  | n + 1, x2, x3, t_above, t_ordered =>
    if t_nodes ≤ x3 then
      some (t_above, t_ordered)
    else
      ck (nz (t_nodes - x3)) (
      ck (okb (((ushr ((x2 * 1103515245) + 12345) 16) &&& 32767) - ((ushr ((x2 * 1103515245) + 12345) 16) &&& 32767) / (t_nodes - x3) * (t_nodes - x3)) 40) (
      ck (okb x3 40) (
      L_Re_makeOrder_82 (L_Re_makeOrder_27 t_nodes n) 64 ((x2 * 1103515245) + 12345) x3 (t_nodes - x3) (((ushr ((x2 * 1103515245) + 12345) 16) &&& 32767) - ((ushr ((x2 * 1103515245) + 12345) 16) &&& 32767) / (t_nodes - x3) * (t_nodes - x3)) t_above (upd t_ordered (x3).toNatClampNeg (t_above (((ushr ((x2 * 1103515245) + 12345) 16) &&& 32767) - ((ushr ((x2 * 1103515245) + 12345) 16) &&& 32767) / (t_nodes - x3) * (t_nodes - x3)).toNatClampNeg)))))
def L_Re_makeOrder_4 (t_nodes : Int32) (t_ordered : Nat → Int32) : Nat → Int32 → Int32 → (Nat → Int32) → Option ((Nat → Int32) × (Nat → Int32))
  | 0, _, _, _ => none
  | n + 1, x2, x3, t_above =>
    if t_nodes ≤ x3 then
      L_Re_makeOrder_27 t_nodes 64 x2 0 t_above t_ordered
    else
      ck (okb x3 40) (
      L_Re_makeOrder_4 t_nodes t_ordered n x2 (x3 + 1) (upd t_above (x3).toNatClampNeg x3))
def f_Re_makeOrder (x1 : Int32) (t_nodes : Int32) (t_above : Nat → Int32) (t_ordered : Nat → Int32) : Option ((Nat → Int32) × (Nat → Int32)) :=
  L_Re_makeOrder_4 t_nodes t_ordered 64 x1 0 t_above
def f_Re_order (x1 : Int32) (x2 : Int32) (t_nodes : Int32) (t_above : Nat → Int32) (t_ordered : Nat → Int32) : Option (Int32 × (Nat → Int32) × (Nat → Int32)) :=
  (f_Re_makeOrder x1 t_nodes t_above t_ordered).bind (fun r2 =>
  (f_Re_isIn x2.toInt64 (0 : Int64) ((t_nodes - 1).toInt64)).bind (fun r15 =>
  if r15 = 0 then
    some (-2, r2.1, r2.2)
  else
    ck (okb x2 40) (
    some (r2.2 (x2).toNatClampNeg, r2.1, r2.2))))
def J_Re_stream_177 (k73 : Int32 → Int32 → Int32 → Int64 → Int32 → Int32 → Int32 → Int32 → (Nat → Int32) → (Nat → Int32) → (Nat → Int32) → (Nat → Int32) → (Nat → Int32) → (Nat → Int32) → (Nat → Int32) → Option (Int32 × Int32 × Int32 × Int32 × (Nat → Int32) × (Nat → Int32) × (Nat → Int32) × (Nat → Int32) × (Nat → Int32) × (Nat → Int32) × (Nat → Int32) × (Nat → Int32))) (x3 : Int32) (x4 : Int32) (x5 : Int32) (x6 : Int64) (x8 : Int32) (x11 : Int64) (t_levels : Int32) (t_size : Int32) (t_base : Int32) (t_above : Nat → Int32) (t_levelArc : Nat → Int32) (t_levelIn : Nat → Int32) (t_levelNodes : Nat → Int32) (t_levelWeight : Nat → Int32) (t_ordered : Nat → Int32) (t_row : Nat → Int32) : Option (Int32 × Int32 × Int32 × Int32 × (Nat → Int32) × (Nat → Int32) × (Nat → Int32) × (Nat → Int32) × (Nat → Int32) × (Nat → Int32) × (Nat → Int32) × (Nat → Int32)) :=
  if x5 < 0 then
    k73 x3 x4 x8 x11 (x8 + 1) t_levels t_size t_base t_above t_levelArc t_levelIn t_levelNodes t_levelWeight t_ordered t_row
  else
    if 0 < (lg_cmp x11 x6) then
      k73 x3 x4 x8 x11 (x8 + 1) t_levels t_size t_base t_above t_levelArc t_levelIn t_levelNodes t_levelWeight t_ordered t_row
    else
      k73 x3 x4 x5 x6 (x8 + 1) t_levels t_size t_base t_above t_levelArc t_levelIn t_levelNodes t_levelWeight t_ordered t_row
def L_Re_stream_127 (t_nodes : Int32) (t_arcs : Nat → Int32) (k73 : Int32 → Int32 → Int32 → Int64 → Int32 → Int32 → Int32 → Int32 → (Nat → Int32) → (Nat → Int32) → (Nat → Int32) → (Nat → Int32) → (Nat → Int32) → (Nat → Int32) → (Nat → Int32) → Option (Int32 × Int32 × Int32 × Int32 × (Nat → Int32) × (Nat → Int32) × (Nat → Int32) × (Nat → Int32) × (Nat → Int32) × (Nat → Int32) × (Nat → Int32) × (Nat → Int32))) : Nat → Int32 → Int32 → Int32 → Int64 → Int32 → Int64 → Int32 → Int32 → Int32 → Int32 → (Nat → Int32) → (Nat → Int32) → (Nat → Int32) → (Nat → Int32) → (Nat → Int32) → (Nat → Int32) → (Nat → Int32) → Option (Int32 × Int32 × Int32 × Int32 × (Nat → Int32) × (Nat → Int32) × (Nat → Int32) × (Nat → Int32) × (Nat → Int32) × (Nat → Int32) × (Nat → Int32) × (Nat → Int32))
  | 0, _, _, _, _, _, _, _, _, _, _, _, _, _, _, _, _, _ => none
  | n + 1, x3, x4, x5, x6, x8, x11, x13, t_levels, t_size, t_base, t_above, t_levelArc, t_levelIn, t_levelNodes, t_levelWeight, t_ordered, t_row =>
    if t_nodes ≤ x13 then
      J_Re_stream_177 k73 x3 x4 x5 x6 x8 x11 t_levels t_size t_base t_above t_levelArc t_levelIn t_levelNodes t_levelWeight t_ordered t_row
    else
      ck (okb x13 40) (
      if (t_row (x13).toNatClampNeg) = x8 then
        ck (okb ((40 * x4) + x13) 1600) (
        L_Re_stream_127 t_nodes t_arcs k73 n x3 x4 x5 x6 x8 (x11 + ((1000 : Int64) * ((t_arcs ((40 * x4) + x13).toNatClampNeg).toInt64))) (x13 + 1) t_levels t_size t_base t_above t_levelArc t_levelIn t_levelNodes t_levelWeight t_ordered t_row)
      else
        L_Re_stream_127 t_nodes t_arcs k73 n x3 x4 x5 x6 x8 x11 (x13 + 1) t_levels t_size t_base t_above t_levelArc t_levelIn t_levelNodes t_levelWeight t_ordered t_row)
def J_Re_stream_253 (k48 : Int32 → Int32 → Int32 → Int32 → (Nat → Int32) → (Nat → Int32) → (Nat → Int32) → (Nat → Int32) → (Nat → Int32) → (Nat → Int32) → (Nat → Int32) → Option (Int32 × Int32 × Int32 × Int32 × (Nat → Int32) × (Nat → Int32) × (Nat → Int32) × (Nat → Int32) × (Nat → Int32) × (Nat → Int32) × (Nat → Int32) × (Nat → Int32))) (x3 : Int32) (x4 : Int32) (x5 : Int32) (t_levels : Int32) (t_size : Int32) (t_base : Int32) (t_above : Nat → Int32) (t_levelArc : Nat → Int32) (t_levelIn : Nat → Int32) (t_levelNodes : Nat → Int32) (t_levelWeight : Nat → Int32) (t_ordered : Nat → Int32) (t_row : Nat → Int32) : Option (Int32 × Int32 × Int32 × Int32 × (Nat → Int32) × (Nat → Int32) × (Nat → Int32) × (Nat → Int32) × (Nat → Int32) × (Nat → Int32) × (Nat → Int32) × (Nat → Int32)) :=
  ck (okb x4 40) (
  k48 (x3 + 1) t_levels t_size t_base t_above t_levelArc t_levelIn t_levelNodes t_levelWeight t_ordered (upd t_row (x4).toNatClampNeg x5))
def L_Re_stream_218 (t_kinds : Int32) (k48 : Int32 → Int32 → Int32 → Int32 → (Nat → Int32) → (Nat → Int32) → (Nat → Int32) → (Nat → Int32) → (Nat → Int32) → (Nat → Int32) → (Nat → Int32) → Option (Int32 × Int32 × Int32 × Int32 × (Nat → Int32) × (Nat → Int32) × (Nat → Int32) × (Nat → Int32) × (Nat → Int32) × (Nat → Int32) × (Nat → Int32) × (Nat → Int32))) : Nat → Int32 → Int32 → Int32 → Int32 → Int32 → Int32 → Int32 → (Nat → Int32) → (Nat → Int32) → (Nat → Int32) → (Nat → Int32) → (Nat → Int32) → (Nat → Int32) → (Nat → Int32) → Option (Int32 × Int32 × Int32 × Int32 × (Nat → Int32) × (Nat → Int32) × (Nat → Int32) × (Nat → Int32) × (Nat → Int32) × (Nat → Int32) × (Nat → Int32) × (Nat → Int32))
  | 0, _, _, _, _, _, _, _, _, _, _, _, _, _, _ => none
  | n + 1, x3, x4, x5, x8, t_levels, t_size, t_base, t_above, t_levelArc, t_levelIn, t_levelNodes, t_levelWeight, t_ordered, t_row =>
    if t_kinds ≤ x8 then
      J_Re_stream_253 k48 x3 x4 x5 t_levels t_size t_base t_above t_levelArc t_levelIn t_levelNodes t_levelWeight t_ordered t_row
    else
      (f_Re_sumOf x8 t_size t_base t_levelWeight t_row).bind (fun r230 =>
      (f_Re_sumOf x5 t_size t_base t_levelWeight t_row).bind (fun r236 =>
      if 0 ≤ (lg_cmp r230 r236) then
        L_Re_stream_218 t_kinds k48 n x3 x4 x5 (x8 + 1) t_levels t_size t_base t_above t_levelArc t_levelIn t_levelNodes t_levelWeight t_ordered t_row
      else
        L_Re_stream_218 t_kinds k48 n x3 x4 x8 (x8 + 1) t_levels t_size t_base t_above t_levelArc t_levelIn t_levelNodes t_levelWeight t_ordered t_row))
def J_Re_stream_207 (t_kinds : Int32) (k48 : Int32 → Int32 → Int32 → Int32 → (Nat → Int32) → (Nat → Int32) → (Nat → Int32) → (Nat → Int32) → (Nat → Int32) → (Nat → Int32) → (Nat → Int32) → Option (Int32 × Int32 × Int32 × Int32 × (Nat → Int32) × (Nat → Int32) × (Nat → Int32) × (Nat → Int32) × (Nat → Int32) × (Nat → Int32) × (Nat → Int32) × (Nat → Int32))) (x3 : Int32) (x4 : Int32) (x5 : Int32) (t_levels : Int32) (t_size : Int32) (t_base : Int32) (t_above : Nat → Int32) (t_levelArc : Nat → Int32) (t_levelIn : Nat → Int32) (t_levelNodes : Nat → Int32) (t_levelWeight : Nat → Int32) (t_ordered : Nat → Int32) (t_row : Nat → Int32) : Option (Int32 × Int32 × Int32 × Int32 × (Nat → Int32) × (Nat → Int32) × (Nat → Int32) × (Nat → Int32) × (Nat → Int32) × (Nat → Int32) × (Nat → Int32) × (Nat → Int32)) :=
  if 0 ≤ x5 then
    J_Re_stream_253 k48 x3 x4 x5 t_levels t_size t_base t_above t_levelArc t_levelIn t_levelNodes t_levelWeight t_ordered t_row
  else
    L_Re_stream_218 t_kinds k48 64 x3 x4 0 1 t_levels t_size t_base t_above t_levelArc t_levelIn t_levelNodes t_levelWeight t_ordered t_row
def L_Re_stream_73 (x2 : Int32) (t_nodes : Int32) (t_kinds : Int32) (t_arcs : Nat → Int32) (t_most : Nat → Int32) (t_weight : Nat → Int32) (k48 : Int32 → Int32 → Int32 → Int32 → (Nat → Int32) → (Nat → Int32) → (Nat → Int32) → (Nat → Int32) → (Nat → Int32) → (Nat → Int32) → (Nat → Int32) → Option (Int32 × Int32 × Int32 × Int32 × (Nat → Int32) × (Nat → Int32) × (Nat → Int32) × (Nat → Int32) × (Nat → Int32) × (Nat → Int32) × (Nat → Int32) × (Nat → Int32))) : Nat → Int32 → Int32 → Int32 → Int64 → Int32 → Int32 → Int32 → Int32 → (Nat → Int32) → (Nat → Int32) → (Nat → Int32) → (Nat → Int32) → (Nat → Int32) → (Nat → Int32) → (Nat → Int32) → Option (Int32 × Int32 × Int32 × Int32 × (Nat → Int32) × (Nat → Int32) × (Nat → Int32) × (Nat → Int32) × (Nat → Int32) × (Nat → Int32) × (Nat → Int32) × (Nat → Int32))
  | 0, _, _, _, _, _, _, _, _, _, _, _, _, _, _, _ => none
  | n + 1, x3, x4, x5, x6, x8, t_levels, t_size, t_base, t_above, t_levelArc, t_levelIn, t_levelNodes, t_levelWeight, t_ordered, t_row =>
    if t_kinds ≤ x8 then
      J_Re_stream_207 t_kinds k48 x3 x4 x5 t_levels t_size t_base t_above t_levelArc t_levelIn t_levelNodes t_levelWeight t_ordered t_row
    else
      (f_Re_sumOf x8 t_size t_base t_levelWeight t_row).bind (fun r85 =>
      ck (okb x4 40) (
      ck (okb x8 4) (
      if (lg_cmp (r85 + ((t_weight (x4).toNatClampNeg).toInt64)) ((t_most (x8).toNatClampNeg).toInt64)) ≤ 0 then
        L_Re_stream_127 t_nodes t_arcs (L_Re_stream_73 x2 t_nodes t_kinds t_arcs t_most t_weight k48 n) 64 x3 x4 x5 x6 x8 ((-x2.toInt64) * r85) 0 t_levels t_size t_base t_above t_levelArc t_levelIn t_levelNodes t_levelWeight t_ordered t_row
      else
        L_Re_stream_73 x2 t_nodes t_kinds t_arcs t_most t_weight k48 n x3 x4 x5 x6 (x8 + 1) t_levels t_size t_base t_above t_levelArc t_levelIn t_levelNodes t_levelWeight t_ordered t_row)))
def J_Re_stream_268 (t_nodes : Int32) (t_split : Nat → Int32) (t_levels : Int32) (t_size : Int32) (t_base : Int32) (t_above : Nat → Int32) (t_levelArc : Nat → Int32) (t_levelIn : Nat → Int32) (t_levelNodes : Nat → Int32) (t_levelWeight : Nat → Int32) (t_ordered : Nat → Int32) (t_row : Nat → Int32) : Option (Int32 × Int32 × Int32 × Int32 × (Nat → Int32) × (Nat → Int32) × (Nat → Int32) × (Nat → Int32) × (Nat → Int32) × (Nat → Int32) × (Nat → Int32) × (Nat → Int32)) :=
  (f_Re_giveSplit t_nodes t_row t_split).bind (fun r269 =>
  (f_Re_rowCut t_size t_base t_levelArc t_row).bind (fun r273 =>
  some (r273.toInt32, t_levels, t_size, t_base, t_above, t_levelArc, t_levelIn, t_levelNodes, t_levelWeight, t_ordered, t_row, r269)))
def L_Re_stream_48 (x2 : Int32) (t_nodes : Int32) (t_kinds : Int32) (t_arcs : Nat → Int32) (t_most : Nat → Int32) (t_split : Nat → Int32) (t_weight : Nat → Int32) : Nat → Int32 → Int32 → Int32 → Int32 → (Nat → Int32) → (Nat → Int32) → (Nat → Int32) → (Nat → Int32) → (Nat → Int32) → (Nat → Int32) → (Nat → Int32) → Option (Int32 × Int32 × Int32 × Int32 × (Nat → Int32) × (Nat → Int32) × (Nat → Int32) × (Nat → Int32) × (Nat → Int32) × (Nat → Int32) × (Nat → Int32) × (Nat → Int32))
  | 0, _, _, _, _, _, _, _, _, _, _, _ => none
  | n + 1, x3, t_levels, t_size, t_base, t_above, t_levelArc, t_levelIn, t_levelNodes, t_levelWeight, t_ordered, t_row =>
    if t_nodes ≤ x3 then
      J_Re_stream_268 t_nodes t_split t_levels t_size t_base t_above t_levelArc t_levelIn t_levelNodes t_levelWeight t_ordered t_row
    else
      ck (okb x3 40) (
      L_Re_stream_73 x2 t_nodes t_kinds t_arcs t_most t_weight (L_Re_stream_48 x2 t_nodes t_kinds t_arcs t_most t_split t_weight n) 64 x3 (t_ordered (x3).toNatClampNeg) (-1) (0 : Int64) 0 t_levels t_size t_base t_above t_levelArc t_levelIn t_levelNodes t_levelWeight t_ordered t_row)
def L_Re_stream_25 (x2 : Int32) (t_nodes : Int32) (t_kinds : Int32) (t_arcs : Nat → Int32) (t_most : Nat → Int32) (t_split : Nat → Int32) (t_weight : Nat → Int32) : Nat → Int32 → Int32 → Int32 → Int32 → (Nat → Int32) → (Nat → Int32) → (Nat → Int32) → (Nat → Int32) → (Nat → Int32) → (Nat → Int32) → (Nat → Int32) → Option (Int32 × Int32 × Int32 × Int32 × (Nat → Int32) × (Nat → Int32) × (Nat → Int32) × (Nat → Int32) × (Nat → Int32) × (Nat → Int32) × (Nat → Int32) × (Nat → Int32))
  | 0, _, _, _, _, _, _, _, _, _, _, _ => none
  | n + 1, x3, t_levels, t_size, t_base, t_above, t_levelArc, t_levelIn, t_levelNodes, t_levelWeight, t_ordered, t_row =>
    if t_nodes ≤ x3 then
      L_Re_stream_48 x2 t_nodes t_kinds t_arcs t_most t_split t_weight 64 0 t_levels t_size t_base t_above t_levelArc t_levelIn t_levelNodes t_levelWeight t_ordered t_row
    else
      ck (okb x3 40) (
      L_Re_stream_25 x2 t_nodes t_kinds t_arcs t_most t_split t_weight n (x3 + 1) t_levels t_size t_base t_above t_levelArc t_levelIn t_levelNodes t_levelWeight t_ordered (upd t_row (x3).toNatClampNeg (-1)))
def f_Re_stream (x1 : Int32) (x2 : Int32) (t_nodes : Int32) (t_kinds : Int32) (t_levels : Int32) (t_size : Int32) (t_base : Int32) (t_above : Nat → Int32) (t_arcs : Nat → Int32) (t_levelArc : Nat → Int32) (t_levelIn : Nat → Int32) (t_levelNodes : Nat → Int32) (t_levelWeight : Nat → Int32) (t_most : Nat → Int32) (t_ordered : Nat → Int32) (t_row : Nat → Int32) (t_split : Nat → Int32) (t_weight : Nat → Int32) : Option (Int32 × Int32 × Int32 × Int32 × (Nat → Int32) × (Nat → Int32) × (Nat → Int32) × (Nat → Int32) × (Nat → Int32) × (Nat → Int32) × (Nat → Int32) × (Nat → Int32)) :=
  (f_Re_isIn x2.toInt64 (0 : Int64) (1000 : Int64)).bind (fun r6 =>
  if r6 = 0 then
    some (-1, t_levels, t_size, t_base, t_above, t_levelArc, t_levelIn, t_levelNodes, t_levelWeight, t_ordered, t_row, t_split)
  else
    (f_Re_makeOrder x1 t_nodes t_above t_ordered).bind (fun r16 =>
    (f_Re_takeSplit t_nodes t_kinds t_arcs t_levelArc t_levelIn t_levelNodes t_levelWeight t_row t_split t_weight).bind (fun r20 =>
    L_Re_stream_25 x2 t_nodes t_kinds t_arcs t_most t_split t_weight 64 0 r20.1 r20.2.1 r20.2.2.1 r16.1 r20.2.2.2.1 r20.2.2.2.2.1 r20.2.2.2.2.2.1 r20.2.2.2.2.2.2.1 r16.2 r20.2.2.2.2.2.2.2)))
def J_Re_exact_34 (t_nodes : Int32) (t_kinds : Int32) (t_levels : Int32) (t_size : Int32) (t_base : Int32) (t_arcs : Nat → Int32) (t_best : Nat → Int32) (t_least : Nat → Int32) (t_levelArc : Nat → Int32) (t_levelIn : Nat → Int32) (t_levelNodes : Nat → Int32) (t_levelWeight : Nat → Int32) (t_most : Nat → Int32) (t_row : Nat → Int32) (t_split : Nat → Int32) (t_weight : Nat → Int32) (x1 : Int64) : Option (Int32 × Int32 × Int32 × Int32 × (Nat → Int32) × (Nat → Int32) × (Nat → Int32) × (Nat → Int32) × (Nat → Int32) × (Nat → Int32) × (Nat → Int32)) :=
  if (lg_cmp x1 (60000 : Int64)) ≤ 0 then
    (f_Re_takeSplit t_nodes t_kinds t_arcs t_levelArc t_levelIn t_levelNodes t_levelWeight t_row t_split t_weight).bind (fun r46 =>
    (f_Re_tries t_kinds r46.2.1 r46.2.2.1 t_best t_least r46.2.2.2.1 r46.2.2.2.2.2.2.1 t_most r46.2.2.2.2.2.2.2).bind (fun r50 =>
    (f_Re_giveSplit t_nodes r50.2 t_split).bind (fun r54 =>
    (f_Re_told t_kinds r46.2.1 r46.2.2.1 t_least r46.2.2.2.1 r46.2.2.2.2.2.2.1 t_most r50.2).bind (fun r58 =>
    some (r58, r46.1, r46.2.1, r46.2.2.1, r50.1, r46.2.2.2.1, r46.2.2.2.2.1, r46.2.2.2.2.2.1, r46.2.2.2.2.2.2.1, r50.2, r54)))))
  else
    some (-4, t_levels, t_size, t_base, t_best, t_levelArc, t_levelIn, t_levelNodes, t_levelWeight, t_row, t_split)
def L_Re_exact_4 (t_nodes : Int32) (t_kinds : Int32) (t_levels : Int32) (t_size : Int32) (t_base : Int32) (t_arcs : Nat → Int32) (t_best : Nat → Int32) (t_least : Nat → Int32) (t_levelArc : Nat → Int32) (t_levelIn : Nat → Int32) (t_levelNodes : Nat → Int32) (t_levelWeight : Nat → Int32) (t_most : Nat → Int32) (t_row : Nat → Int32) (t_split : Nat → Int32) (t_weight : Nat → Int32) : Nat → Int64 → Int32 → Option (Int32 × Int32 × Int32 × Int32 × (Nat → Int32) × (Nat → Int32) × (Nat → Int32) × (Nat → Int32) × (Nat → Int32) × (Nat → Int32) × (Nat → Int32))
  | 0, _, _ => none
  | n + 1, x1, x3 =>
    if t_nodes ≤ x3 then
      J_Re_exact_34 t_nodes t_kinds t_levels t_size t_base t_arcs t_best t_least t_levelArc t_levelIn t_levelNodes t_levelWeight t_most t_row t_split t_weight x1
    else
      if 0 < (lg_cmp x1 (60000 : Int64)) then
        J_Re_exact_34 t_nodes t_kinds t_levels t_size t_base t_arcs t_best t_least t_levelArc t_levelIn t_levelNodes t_levelWeight t_most t_row t_split t_weight x1
      else
        L_Re_exact_4 t_nodes t_kinds t_levels t_size t_base t_arcs t_best t_least t_levelArc t_levelIn t_levelNodes t_levelWeight t_most t_row t_split t_weight n (x1 * t_kinds.toInt64) (x3 + 1)
def f_Re_exact (t_nodes : Int32) (t_kinds : Int32) (t_levels : Int32) (t_size : Int32) (t_base : Int32) (t_arcs : Nat → Int32) (t_best : Nat → Int32) (t_least : Nat → Int32) (t_levelArc : Nat → Int32) (t_levelIn : Nat → Int32) (t_levelNodes : Nat → Int32) (t_levelWeight : Nat → Int32) (t_most : Nat → Int32) (t_row : Nat → Int32) (t_split : Nat → Int32) (t_weight : Nat → Int32) : Option (Int32 × Int32 × Int32 × Int32 × (Nat → Int32) × (Nat → Int32) × (Nat → Int32) × (Nat → Int32) × (Nat → Int32) × (Nat → Int32) × (Nat → Int32)) :=
  L_Re_exact_4 t_nodes t_kinds t_levels t_size t_base t_arcs t_best t_least t_levelArc t_levelIn t_levelNodes t_levelWeight t_most t_row t_split t_weight 64 (1 : Int64) 0
def f_Re_isOpen (x1 : Int32) (x2 : Int32) (t_arcs : Nat → Int32) (t_parts : Nat → Int32) (t_split : Nat → Int32) : Option (Int32) :=
  ck (okb ((40 * x1) + x2) 1600) (
  if (t_arcs ((40 * x1) + x2).toNatClampNeg) ≤ 0 then
    some 0
  else
    ck (okb x1 40) (
    ck (okb x2 40) (
    if (t_split (x1).toNatClampNeg) = (t_split (x2).toNatClampNeg) then
      some 0
    else
      ck (okb x1 40) (
      if (t_parts (x1).toNatClampNeg) = 0 then
        ck (okb x2 40) (
        if (t_parts (x2).toNatClampNeg) = 0 then
          some 1
        else
          some 0)
      else
        some 0))))
def J_Re_separate_78 (t_weight : Nat → Int32) (k29 : Int32 → Int32 → Int32 → (Nat → Int32) → Option ((Nat → Int32))) (x1 : Int32) (x2 : Int32) (x3 : Int32) (x4 : Int32) (t_parts : Nat → Int32) : Option ((Nat → Int32)) :=
  if x4 = 0 then
    k29 x1 x2 (x3 + 1) t_parts
  else
    if x4 < x2 then
      k29 x1 x2 (x3 + 1) t_parts
    else
      if x4 = x2 then
        ck (okb x3 40) (
        ck (okb x1 40) (
        if (t_weight (x3).toNatClampNeg) < (t_weight (x1).toNatClampNeg) then
          k29 x3 x4 (x3 + 1) t_parts
        else
          k29 x1 x2 (x3 + 1) t_parts))
      else
        k29 x3 x4 (x3 + 1) t_parts
def L_Re_separate_43 (t_nodes : Int32) (t_arcs : Nat → Int32) (t_split : Nat → Int32) (t_weight : Nat → Int32) (k29 : Int32 → Int32 → Int32 → (Nat → Int32) → Option ((Nat → Int32))) : Nat → Int32 → Int32 → Int32 → Int32 → Int32 → (Nat → Int32) → Option ((Nat → Int32))
  | 0, _, _, _, _, _, _ => none
  | n + 1, x1, x2, x3, x4, x5, t_parts =>
    if t_nodes ≤ x5 then
      J_Re_separate_78 t_weight k29 x1 x2 x3 x4 t_parts
    else
      (f_Re_isOpen x3 x5 t_arcs t_parts t_split).bind (fun r58 =>
      if r58 = 0 then
        L_Re_separate_43 t_nodes t_arcs t_split t_weight k29 n x1 x2 x3 (x4 + 0) (x5 + 1) t_parts
      else
        L_Re_separate_43 t_nodes t_arcs t_split t_weight k29 n x1 x2 x3 (x4 + 1) (x5 + 1) t_parts)
def J_Re_separate_198 (k148 : Int32 → (Nat → Int32) → Option ((Nat → Int32))) (x1 : Int32) (x2 : Int32) (t_parts : Nat → Int32) : Option ((Nat → Int32)) :=
  ck (okb x1 40) (
  k148 (x1 + (-1)) (upd t_parts (x1).toNatClampNeg (vp_nar .boolean x2)))
def L_Re_separate_175 (t_nodes : Int32) (t_arcs : Nat → Int32) (t_split : Nat → Int32) (k148 : Int32 → (Nat → Int32) → Option ((Nat → Int32))) : Nat → Int32 → Int32 → Int32 → (Nat → Int32) → Option ((Nat → Int32))
  | 0, _, _, _, _ => none
  | n + 1, x1, x2, x3, t_parts =>
    if t_nodes ≤ x3 then
      J_Re_separate_198 k148 x1 x2 t_parts
    else
      (f_Re_isOpen x1 x3 t_arcs t_parts t_split).bind (fun r187 =>
      L_Re_separate_175 t_nodes t_arcs t_split k148 n x1 (x2 ||| r187) (x3 + 1) t_parts)
def L_Re_separate_148 (t_nodes : Int32) (t_arcs : Nat → Int32) (t_split : Nat → Int32) : Nat → Int32 → (Nat → Int32) → Option ((Nat → Int32))
  | 0, _, _ => none
  | n + 1, x1, t_parts =>
    if x1 < 0 then
      some t_parts
    else
      ck (okb x1 40) (
      if (t_parts (x1).toNatClampNeg) = 0 then
        L_Re_separate_148 t_nodes t_arcs t_split n (x1 + (-1)) t_parts
      else
        ck (okb x1 40) (
        L_Re_separate_175 t_nodes t_arcs t_split (L_Re_separate_148 t_nodes t_arcs t_split n) 64 x1 0 0 (upd t_parts (x1).toNatClampNeg (vp_nar .boolean 0))))
def J_Re_separate_124 (t_nodes : Int32) (t_arcs : Nat → Int32) (t_split : Nat → Int32) (k23 : (Nat → Int32) → Option ((Nat → Int32))) (x1 : Int32) (t_parts : Nat → Int32) : Option ((Nat → Int32)) :=
  if 0 ≤ x1 then
    ck (okb x1 40) (
    k23 (upd t_parts (x1).toNatClampNeg (vp_nar .boolean 1)))
  else
    L_Re_separate_148 t_nodes t_arcs t_split 64 (t_nodes - 1) t_parts
def L_Re_separate_29 (t_nodes : Int32) (t_arcs : Nat → Int32) (t_split : Nat → Int32) (t_weight : Nat → Int32) (k23 : (Nat → Int32) → Option ((Nat → Int32))) : Nat → Int32 → Int32 → Int32 → (Nat → Int32) → Option ((Nat → Int32))
  | 0, _, _, _, _ => none
  | n + 1, x1, x2, x3, t_parts =>
    if t_nodes ≤ x3 then
      J_Re_separate_124 t_nodes t_arcs t_split k23 x1 t_parts
    else
      L_Re_separate_43 t_nodes t_arcs t_split t_weight (L_Re_separate_29 t_nodes t_arcs t_split t_weight k23 n) 64 x1 x2 x3 0 0 t_parts
def L_Re_separate_23 (t_nodes : Int32) (t_arcs : Nat → Int32) (t_split : Nat → Int32) (t_weight : Nat → Int32) : Nat → (Nat → Int32) → Option ((Nat → Int32))
  | 0, _ => none
  | n + 1, t_parts =>
    L_Re_separate_29 t_nodes t_arcs t_split t_weight (L_Re_separate_23 t_nodes t_arcs t_split t_weight n) 64 (-1) 0 0 t_parts
def L_Re_separate_2 (t_nodes : Int32) (t_arcs : Nat → Int32) (t_split : Nat → Int32) (t_weight : Nat → Int32) : Nat → Int32 → (Nat → Int32) → Option ((Nat → Int32))
  | 0, _, _ => none
  | n + 1, x1, t_parts =>
    if t_nodes ≤ x1 then
      L_Re_separate_23 t_nodes t_arcs t_split t_weight 64 t_parts
    else
      ck (okb x1 40) (
      L_Re_separate_2 t_nodes t_arcs t_split t_weight n (x1 + 1) (upd t_parts (x1).toNatClampNeg (vp_nar .boolean 0)))
def f_Re_separate (t_nodes : Int32) (t_arcs : Nat → Int32) (t_parts : Nat → Int32) (t_split : Nat → Int32) (t_weight : Nat → Int32) : Option ((Nat → Int32)) :=
  L_Re_separate_2 t_nodes t_arcs t_split t_weight 64 0 t_parts
def L_Re_separator_8 (x1 : Int32) (t_nodes : Int32) : Nat → Int32 → Int32 → (Nat → Int32) → Option (Int32 × (Nat → Int32))
  | 0, _, _, _ => none
  | n + 1, x2, x3, t_parts =>
    if t_nodes ≤ x3 then
      some (-2, t_parts)
    else
      if x1 < 0 then
        some (-2, t_parts)
      else
        ck (okb x3 40) (
        if (t_parts (x3).toNatClampNeg) = 0 then
          L_Re_separator_8 x1 t_nodes n x2 (x3 + 1) t_parts
        else
          if x2 = 0 then
            some (x3, t_parts)
          else
            L_Re_separator_8 x1 t_nodes n (x2 + (-1)) (x3 + 1) t_parts)
def f_Re_separator (x1 : Int32) (t_nodes : Int32) (t_arcs : Nat → Int32) (t_parts : Nat → Int32) (t_split : Nat → Int32) (t_weight : Nat → Int32) : Option (Int32 × (Nat → Int32)) :=
  (f_Re_separate t_nodes t_arcs t_parts t_split t_weight).bind (fun r1 =>
  L_Re_separator_8 x1 t_nodes 64 x1 0 r1)
def L_Re_count_63 (t_arcs : Nat → Int32) (k52 : Int32 → Int32 → Option (Int32 × Int32 × (Nat → Int32) × (Nat → Int32) × (Nat → Int32) × (Nat → Int32) × (Nat → Int32))) : Nat → Int32 → Int32 → Int32 → Option (Int32 × Int32 × (Nat → Int32) × (Nat → Int32) × (Nat → Int32) × (Nat → Int32) × (Nat → Int32))
  | 0, _, _, _ => none
  | n + 1, x2, x3, x4 =>
    if x3 ≤ x4 then
      k52 x2 (x3 + 1)
    else
      ck (okb ((40 * x3) + x4) 1600) (
      if (t_arcs ((40 * x3) + x4).toNatClampNeg) ≤ 0 then
        L_Re_count_63 t_arcs k52 n (x2 + 0) x3 (x4 + 1)
      else
        L_Re_count_63 t_arcs k52 n (x2 + 1) x3 (x4 + 1))
def L_Re_count_52 (t_nodes : Int32) (t_levels : Int32) (t_arcs : Nat → Int32) (t_levelArc : Nat → Int32) (t_levelIn : Nat → Int32) (t_levelNodes : Nat → Int32) (t_levelWeight : Nat → Int32) (t_parts : Nat → Int32) : Nat → Int32 → Int32 → Option (Int32 × Int32 × (Nat → Int32) × (Nat → Int32) × (Nat → Int32) × (Nat → Int32) × (Nat → Int32))
  | 0, _, _ => none
  | n + 1, x2, x3 =>
    if t_nodes ≤ x3 then
      some (x2, t_levels, t_levelArc, t_levelIn, t_levelNodes, t_levelWeight, t_parts)
    else
      L_Re_count_63 t_arcs (L_Re_count_52 t_nodes t_levels t_arcs t_levelArc t_levelIn t_levelNodes t_levelWeight t_parts n) 64 x2 x3 0
def L_Re_count_121 (t_nodes : Int32) (t_levels : Int32) (t_levelArc : Nat → Int32) (t_levelIn : Nat → Int32) (t_levelNodes : Nat → Int32) (t_levelWeight : Nat → Int32) : Nat → Int32 → Int32 → (Nat → Int32) → Option (Int32 × Int32 × (Nat → Int32) × (Nat → Int32) × (Nat → Int32) × (Nat → Int32) × (Nat → Int32))
  | 0, _, _, _ => none
  | n + 1, x2, x3, t_parts =>
    if t_nodes ≤ x3 then
      some (x2, t_levels, t_levelArc, t_levelIn, t_levelNodes, t_levelWeight, t_parts)
    else
      ck (okb x3 40) (
      if (t_parts (x3).toNatClampNeg) = 0 then
        L_Re_count_121 t_nodes t_levels t_levelArc t_levelIn t_levelNodes t_levelWeight n (x2 + 0) (x3 + 1) t_parts
      else
        L_Re_count_121 t_nodes t_levels t_levelArc t_levelIn t_levelNodes t_levelWeight n (x2 + 1) (x3 + 1) t_parts)
def L_Re_count_156 (t_nodes : Int32) (t_kinds : Int32) (t_levels : Int32) (t_arcs : Nat → Int32) (t_levelArc : Nat → Int32) (t_levelIn : Nat → Int32) (t_levelNodes : Nat → Int32) (t_levelWeight : Nat → Int32) (t_parts : Nat → Int32) (t_split : Nat → Int32) (t_weight : Nat → Int32) : Nat → Int32 → Int32 → Option (Int32 × Int32 × (Nat → Int32) × (Nat → Int32) × (Nat → Int32) × (Nat → Int32) × (Nat → Int32))
  | 0, _, _ => none
  | n + 1, x2, x3 =>
    if t_nodes ≤ x3 then
      some (x2, t_levels, t_levelArc, t_levelIn, t_levelNodes, t_levelWeight, t_parts)
    else
      (f_Re_of x3 2 t_nodes t_kinds t_arcs t_split t_weight).bind (fun r168 =>
      L_Re_count_156 t_nodes t_kinds t_levels t_arcs t_levelArc t_levelIn t_levelNodes t_levelWeight t_parts t_split t_weight n (x2 + r168) (x3 + 1))
def f_Re_count (x1 : Int32) (t_nodes : Int32) (t_kinds : Int32) (t_levels : Int32) (t_arcs : Nat → Int32) (t_levelArc : Nat → Int32) (t_levelIn : Nat → Int32) (t_levelNodes : Nat → Int32) (t_levelWeight : Nat → Int32) (t_parts : Nat → Int32) (t_split : Nat → Int32) (t_weight : Nat → Int32) : Option (Int32 × Int32 × (Nat → Int32) × (Nat → Int32) × (Nat → Int32) × (Nat → Int32) × (Nat → Int32)) :=
  if x1 = 0 then
    some (t_nodes, t_levels, t_levelArc, t_levelIn, t_levelNodes, t_levelWeight, t_parts)
  else
    if x1 = 1 then
      some (t_kinds, t_levels, t_levelArc, t_levelIn, t_levelNodes, t_levelWeight, t_parts)
    else
      if x1 = 2 then
        L_Re_count_52 t_nodes t_levels t_arcs t_levelArc t_levelIn t_levelNodes t_levelWeight t_parts 64 0 0
      else
        if x1 = 3 then
          (f_Re_makeLevels t_nodes t_kinds t_arcs t_levelArc t_levelIn t_levelNodes t_levelWeight t_weight).bind (fun r107 =>
          some (r107.1, r107.1, r107.2.1, r107.2.2.1, r107.2.2.2.1, r107.2.2.2.2, t_parts))
        else
          if x1 = 4 then
            (f_Re_separate t_nodes t_arcs t_parts t_split t_weight).bind (fun r116 =>
            L_Re_count_121 t_nodes t_levels t_levelArc t_levelIn t_levelNodes t_levelWeight 64 0 0 r116)
          else
            if x1 = 5 then
              L_Re_count_156 t_nodes t_kinds t_levels t_arcs t_levelArc t_levelIn t_levelNodes t_levelWeight t_parts t_split t_weight 64 0 0
            else
              some (-1, t_levels, t_levelArc, t_levelIn, t_levelNodes, t_levelWeight, t_parts)
