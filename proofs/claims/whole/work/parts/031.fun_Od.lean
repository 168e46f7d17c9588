def L_Od_draw_25 (x2 : Int32) : Nat → Int32 → Int32 → (Nat → Int32) → (Nat → Int32) → Option ((Nat → Int32) × (Nat → Int32))
  | 0, _, _, _, _ => none
  | n + 1, x3, x4, t_row, t_waiting =>
    if x4 ≤ 0 then
      some (t_row, t_waiting)
    else
      ck (nz x4) (
      ck (okb (((ushr ((x3 * 1103515245) + 12345) 16) &&& 32767) - ((ushr ((x3 * 1103515245) + 12345) 16) &&& 32767) / x4 * x4) 40) (
      ck (okb (x2 - x4) 40) (
      ck (okc ((((ushr ((x3 * 1103515245) + 12345) 16) &&& 32767) - ((ushr ((x3 * 1103515245) + 12345) 16) &&& 32767) / x4 * x4) + 1) (((ushr ((x3 * 1103515245) + 12345) 16) &&& 32767) - ((ushr ((x3 * 1103515245) + 12345) 16) &&& 32767) / x4 * x4) ((x4 - 1) - (((ushr ((x3 * 1103515245) + 12345) 16) &&& 32767) - ((ushr ((x3 * 1103515245) + 12345) 16) &&& 32767) / x4 * x4)) 40 40) (
      L_Od_draw_25 x2 n ((x3 * 1103515245) + 12345) (x4 + (-1)) (upd t_row (x2 - x4).toNatClampNeg (t_waiting (((ushr ((x3 * 1103515245) + 12345) 16) &&& 32767) - ((ushr ((x3 * 1103515245) + 12345) 16) &&& 32767) / x4 * x4).toNatClampNeg)) (va_cpy t_waiting t_waiting ((((ushr ((x3 * 1103515245) + 12345) 16) &&& 32767) - ((ushr ((x3 * 1103515245) + 12345) 16) &&& 32767) / x4 * x4) + 1).toNatClampNeg (((ushr ((x3 * 1103515245) + 12345) 16) &&& 32767) - ((ushr ((x3 * 1103515245) + 12345) 16) &&& 32767) / x4 * x4).toNatClampNeg ((x4 - 1) - (((ushr ((x3 * 1103515245) + 12345) 16) &&& 32767) - ((ushr ((x3 * 1103515245) + 12345) 16) &&& 32767) / x4 * x4)).toNatClampNeg)))))
def L_Od_draw_2 (x1 : Int32) (x2 : Int32) (t_row : Nat → Int32) : Nat → Int32 → (Nat → Int32) → Option ((Nat → Int32) × (Nat → Int32))
  | 0, _, _ => none
  | n + 1, x3, t_waiting =>
    if x2 ≤ x3 then
      L_Od_draw_25 x2 64 x1 x2 t_row t_waiting
    else
      ck (okb x3 40) (
      L_Od_draw_2 x1 x2 t_row n (x3 + 1) (upd t_waiting (x3).toNatClampNeg x3))
def f_Od_draw (x1 : Int32) (x2 : Int32) (t_row : Nat → Int32) (t_waiting : Nat → Int32) : Option ((Nat → Int32) × (Nat → Int32)) :=
  L_Od_draw_2 x1 x2 t_row 64 0 t_waiting
