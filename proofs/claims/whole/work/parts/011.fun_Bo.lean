def f_Bo_has (x1 : Int32) (t_k : Int32) : Option (Int32) :=
  if x1 < 0 then
    some 0
  else
    if t_k ≤ x1 then
      some 0
    else
      some 1
def f_Bo_start (x1 : Int32) : Option (Int32 × (Nat → Int32) × (Nat → Int32)) :=
  some (x1, fun _ => 0, fun _ => 1000000)
def f_Bo_copyOf (t_least : Nat → Int32) (t_most : Nat → Int32) (p1_k : Int32) (p1_least : Nat → Int32) (p1_most : Nat → Int32) : Option (Int32 × (Nat → Int32) × (Nat → Int32)) :=
  ck (okc 0 0 4 4 4) (
  ck (okc 0 0 4 4 4) (
  some (p1_k, va_cpy p1_least t_least (0 : Int32).toNatClampNeg (0 : Int32).toNatClampNeg (4 : Int32).toNatClampNeg, va_cpy p1_most t_most (0 : Int32).toNatClampNeg (0 : Int32).toNatClampNeg (4 : Int32).toNatClampNeg)))
def f_Bo_miss (x1 : Int32) (x2 : Int32) (t_least : Nat → Int32) (t_most : Nat → Int32) : Option (Int32) :=
  ck (okb x1 4) (
  if (t_least (x1).toNatClampNeg) ≤ x2 then
    ck (okb x1 4) (
    if x2 ≤ (t_most (x1).toNatClampNeg) then
      some 0
    else
      ck (okb x1 4) (
      some (x2 - (t_most (x1).toNatClampNeg))))
  else
    ck (okb x1 4) (
    some ((t_least (x1).toNatClampNeg) - x2)))
