/-! shares of twelve among six rings -/
/-- so many numbers, from s down -/
def zDt : Nat → Nat → List Nat
  | _, 0 => []
  | s, c + 1 => s :: zDt (s - 1) c
/-- all below c, from above -/
def zDl : Nat → List Nat
  | 0 => []
  | c + 1 => c :: zDl c
/-- what the class goes through: shares of the rings that are left, zeros behind left out -/
def zCls : Nat → Nat → Nat → List (List Nat)
  | 0, left, _ => if left = 0 then [[]] else []
  | k + 1, left, b => if left = 0 then [[]] else if 3 ≤ b then [] else (zDt left (if k = 0 ∨ b + 1 = 3 then 1 else left) ++ [0]).flatMap (fun s => (zCls k (left - s) (if s = 0 then b else b + 1)).map (fun t => s :: t))
def zPad (t : List Nat) : List Nat := t ++ List.replicate (6 - t.length) 0
def zUs (t : List Nat) : Nat := (t.filter (fun x => x != 0)).length
/-- what the reference goes through -/
def zM1 (a b c d : Nat) : List (List Nat) := (zDl (13 - a - b - c - d)).map (fun e => [a, b, c, d, e, 12 - a - b - c - d - e])
def zM2 (a b c : Nat) : List (List Nat) := (zDl (13 - a - b - c)).flatMap (fun d => zM1 a b c d)
def zM3 (a b : Nat) : List (List Nat) := (zDl (13 - a - b)).flatMap (fun c => zM2 a b c)
def zM4 (a : Nat) : List (List Nat) := (zDl (13 - a)).flatMap (fun b => zM3 a b)
def zM5 : List (List Nat) := (zDl 13).flatMap (fun a => zM4 a)
set_option maxRecDepth 100000 in
theorem zM_eq : (zCls 6 12 0).map zPad = zM5.filter (fun t => decide (zUs t ≤ 3)) := by decide +kernel
