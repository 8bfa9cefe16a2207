def x_cal (sc : List Int) : Nat → Nat → Nat → List xPV → xMem → Option (Option xPV × xMem)
  | 0, _ => fun _ _ _ => none
  | d + 1, f => fun μ as m => match x_mts[μ]? with
    | some M => if x_words as ≤ M.2.1 then x_run (x_cal sc d f) sc M f 0 (x_args 0 as) [] m else none
    | none => none
def x_m0 : xMem := ([], fun _ _ => 0, fun _ _ => 0)
/-- the shapes of all cells once both objects are made -/
def x_shp (o : Option (Option xPV × xMem)) : List xShp := match o with
  | some (_, m) => m.1
  | none => []
