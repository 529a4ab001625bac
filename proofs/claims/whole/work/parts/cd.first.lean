/-! THE FIRST STATE -/
section FST
def S0 : XS := (fun a => if a = 0 then (fun k => if k = 17 then -1 else if k = 18 then 2 else 0) else if a = 2 then (fun k => if k = 8 then -1 else 0) else if a = 16 then (fun k => if k = 2 then nI 240 else 0) else if a = 23 then (fun k => if k = 2 then nI 16 else 0) else if a = 351 then (fun k => if k = 35 then -1 else if k = 36 then 2 else 0) else fun _ => 0, fun _ _ => 0, fun a => if a = 2 then 3 else if a = 10 then 11 else if a = 13 then 14 else if a = 301 then 303 else 352)
def mkL (S : XS) : Nat → List SH → List xa_C
  | _, [] => []
  | i, x :: xs => mkC S i x :: mkL S (i + 1) xs
theorem mkL_get (S : XS) : ∀ (xs : List SH) (i a : Nat), (mkL S i xs)[a]? = (xs[a]?).map (mkC S (i + a))
  | [], i, a => rfl
  | x :: xs, i, 0 => rfl
  | x :: xs, i, a + 1 => by
    show (mkL S (i + 1) xs)[a]? = (xs[a]?).map (mkC S (i + (a + 1)))
    rw [mkL_get S xs (i + 1) a, show i + 1 + a = i + (a + 1) by omega]
def FL : List xa_C := (clO :: clT) ++ mdC 351 ++ [zL 1]
set_option maxRecDepth 100000 in
theorem FL_eq : FL = mkL S0 0 shL := rfl
end FST
