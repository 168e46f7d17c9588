def J_Se_leastOver_69 (x2 : Int32) (x3 : Int32) (x4 : Int32) : Option (Int32) :=
  some (x4 + (mx 0 (x3 - x2)))
def L_Se_leastOver_8 (x2 : Int32) (t_sum : Nat → Int32) (p1_k : Int32) (p1_least : Nat → Int32) (p1_most : Nat → Int32) : Nat → Int32 → Int32 → Int32 → Option (Int32)
  | 0, _, _, _ => none
  | n + 1, x3, x4, x5 =>
    if p1_k ≤ x5 then
      J_Se_leastOver_69 x2 x3 x4
    else
      ck (okb x5 4) (
      ck (okb x5 4) (
      ck (okb x5 4) (
      ck (okb x5 4) (
      L_Se_leastOver_8 x2 t_sum p1_k p1_least p1_most n (x3 + (mx 0 ((p1_least (x5).toNatClampNeg) - (t_sum (x5).toNatClampNeg)))) (x4 + (mx 0 ((t_sum (x5).toNatClampNeg) - (p1_most (x5).toNatClampNeg)))) (x5 + 1)))))
def f_Se_leastOver (x2 : Int32) (t_sum : Nat → Int32) (p1_k : Int32) (p1_least : Nat → Int32) (p1_most : Nat → Int32) : Option (Int32) :=
  L_Se_leastOver_8 x2 t_sum p1_k p1_least p1_most 64 0 0 0
def L_Se_cutBehind_5 (x2 : Int32) (t_tried : Nat → Int32) (p1_arcs : Nat → Int32) : Nat → Int32 → Int32 → Option (Int32)
  | 0, _, _ => none
  | n + 1, x3, x4 =>
    if x2 ≤ x4 then
      some x3
    else
      ck (okb x4 40) (
      ck (okb x2 40) (
      if (t_tried (x4).toNatClampNeg) = (t_tried (x2).toNatClampNeg) then
        L_Se_cutBehind_5 x2 t_tried p1_arcs n x3 (x4 + 1)
      else
        (f_Gr_arcOf x2 x4 p1_arcs).bind (fun r32 =>
        L_Se_cutBehind_5 x2 t_tried p1_arcs n (x3 + r32) (x4 + 1))))
def f_Se_cutBehind (x2 : Int32) (t_tried : Nat → Int32) (p1_arcs : Nat → Int32) : Option (Int32) :=
  L_Se_cutBehind_5 x2 t_tried p1_arcs 64 0 0
def J_Se_tryFrom_56 (x3 : Int32) (t_best : Nat → Int32) (t_sum : Nat → Int32) (t_tried : Nat → Int32) (x5 : Int32) : Option (Int32 × Int32 × (Nat → Int32) × (Nat → Int32) × (Nat → Int32)) :=
  ck (okc 0 0 40 40 40) (
  some (x5, x3, va_cpy t_tried t_best (0 : Int32).toNatClampNeg (0 : Int32).toNatClampNeg (40 : Int32).toNatClampNeg, t_sum, t_tried))
def L_Se_tryFrom_97 (self : Int32 → Int32 → Int32 → Int32 → Int32 → (Nat → Int32) → (Nat → Int32) → (Nat → Int32) → Int32 → (Nat → Int32) → (Nat → Int32) → Int32 → (Nat → Int32) → (Nat → Int32) → Option (Int32 × Int32 × (Nat → Int32) × (Nat → Int32) × (Nat → Int32))) (x2 : Int32) (x3 : Int32) (x4 : Int32) (p1_bounds_k : Int32) (p1_bounds_least : Nat → Int32) (p1_bounds_most : Nat → Int32) (p1_graph_size : Int32) (p1_graph_arcs : Nat → Int32) (p1_graph_weight : Nat → Int32) : Nat → Int32 → Int32 → Int32 → Int32 → (Nat → Int32) → (Nat → Int32) → (Nat → Int32) → Option (Int32 × Int32 × (Nat → Int32) × (Nat → Int32) × (Nat → Int32))
  | 0, _, _, _, _, _, _, _ => none
  | n + 1, x6, x7, t_bestOver, t_bestCut, t_best, t_sum, t_tried =>
    if p1_bounds_k ≤ x7 then
      some (t_bestOver, t_bestCut, t_best, t_sum, t_tried)
    else
      ck (okb x2 40) (
      ck (okb x7 4) (
      ck (okb x7 4) (
      (f_Se_cutBehind x2 (upd t_tried (x2).toNatClampNeg x7) p1_graph_arcs).bind (fun r141 =>
      (self (x2 + 1) (x3 + r141) (x4 - x6) t_bestOver t_bestCut t_best (upd t_sum (x7).toNatClampNeg ((t_sum (x7).toNatClampNeg) + x6)) (upd t_tried (x2).toNatClampNeg x7) p1_bounds_k p1_bounds_least p1_bounds_most p1_graph_size p1_graph_arcs p1_graph_weight).bind (fun r150 =>
      ck (okb x7 4) (
      ck (okb x7 4) (
      L_Se_tryFrom_97 self x2 x3 x4 p1_bounds_k p1_bounds_least p1_bounds_most p1_graph_size p1_graph_arcs p1_graph_weight n x6 (x7 + 1) r150.1 r150.2.1 r150.2.2.1 (upd r150.2.2.2.1 (x7).toNatClampNeg ((r150.2.2.2.1 (x7).toNatClampNeg) - x6)) r150.2.2.2.2)))))))
def J_Se_tryFrom_39 (self : Int32 → Int32 → Int32 → Int32 → Int32 → (Nat → Int32) → (Nat → Int32) → (Nat → Int32) → Int32 → (Nat → Int32) → (Nat → Int32) → Int32 → (Nat → Int32) → (Nat → Int32) → Option (Int32 × Int32 × (Nat → Int32) × (Nat → Int32) × (Nat → Int32))) (x2 : Int32) (x3 : Int32) (x4 : Int32) (t_bestOver : Int32) (t_bestCut : Int32) (t_best : Nat → Int32) (t_sum : Nat → Int32) (t_tried : Nat → Int32) (p1_bounds_k : Int32) (p1_bounds_least : Nat → Int32) (p1_bounds_most : Nat → Int32) (p1_graph_size : Int32) (p1_graph_arcs : Nat → Int32) (p1_graph_weight : Nat → Int32) (x5 : Int32) : Option (Int32 × Int32 × (Nat → Int32) × (Nat → Int32) × (Nat → Int32)) :=
  if p1_graph_size ≤ x2 then
    J_Se_tryFrom_56 x3 t_best t_sum t_tried x5
  else
    if x2 < 16 then
      ck (okb x2 40) (
      L_Se_tryFrom_97 self x2 x3 x4 p1_bounds_k p1_bounds_least p1_bounds_most p1_graph_size p1_graph_arcs p1_graph_weight 64 (p1_graph_weight (x2).toNatClampNeg) 0 t_bestOver t_bestCut t_best t_sum t_tried)
    else
      J_Se_tryFrom_56 x3 t_best t_sum t_tried x5
def f_Se_tryFrom : Nat → Int32 → Int32 → Int32 → Int32 → Int32 → (Nat → Int32) → (Nat → Int32) → (Nat → Int32) → Int32 → (Nat → Int32) → (Nat → Int32) → Int32 → (Nat → Int32) → (Nat → Int32) → Option (Int32 × Int32 × (Nat → Int32) × (Nat → Int32) × (Nat → Int32))
  | 0, _, _, _, _, _, _, _, _, _, _, _, _, _, _ => none
  | d + 1, x2, x3, x4, t_bestOver, t_bestCut, t_best, t_sum, t_tried, p1_bounds_k, p1_bounds_least, p1_bounds_most, p1_graph_size, p1_graph_arcs, p1_graph_weight =>
    (f_Se_leastOver x4 t_sum p1_bounds_k p1_bounds_least p1_bounds_most).bind (fun r7 =>
    if t_bestOver < r7 then
      some (t_bestOver, t_bestCut, t_best, t_sum, t_tried)
    else
      if r7 = t_bestOver then
        if x3 < t_bestCut then
          J_Se_tryFrom_39 (f_Se_tryFrom d) x2 x3 x4 t_bestOver t_bestCut t_best t_sum t_tried p1_bounds_k p1_bounds_least p1_bounds_most p1_graph_size p1_graph_arcs p1_graph_weight r7
        else
          some (t_bestOver, t_bestCut, t_best, t_sum, t_tried)
      else
        J_Se_tryFrom_39 (f_Se_tryFrom d) x2 x3 x4 t_bestOver t_bestCut t_best t_sum t_tried p1_bounds_k p1_bounds_least p1_bounds_most p1_graph_size p1_graph_arcs p1_graph_weight r7)
def f_Se_findBest (t_best : Nat → Int32) (t_tried : Nat → Int32) (p1_bounds_k : Int32) (p1_bounds_least : Nat → Int32) (p1_bounds_most : Nat → Int32) (p1_graph_size : Int32) (p1_graph_arcs : Nat → Int32) (p1_graph_weight : Nat → Int32) (p1_home : Nat → Int32) : Option (Int32 × Int32 × (Nat → Int32) × (Nat → Int32) × (Nat → Int32) × (Nat → Int32)) :=
  (f_Gr_total p1_graph_size p1_graph_weight).bind (fun r28 =>
  (f_Se_tryFrom 20 0 0 r28 2000000000 2000000000 t_best (fun _ => 0) t_tried p1_bounds_k p1_bounds_least p1_bounds_most p1_graph_size p1_graph_arcs p1_graph_weight).bind (fun r31 =>
  ck (okc 0 0 p1_graph_size 40 40) (
  some (r31.1, r31.2.1, r31.2.2.1, r31.2.2.2.1, r31.2.2.2.2, va_cpy r31.2.2.1 p1_home (0 : Int32).toNatClampNeg (0 : Int32).toNatClampNeg p1_graph_size.toNatClampNeg))))
