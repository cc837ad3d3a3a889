/-! the two constructors -/
def f73 : Nat → Int32 := upd (upd (upd (upd (fun _ => 0) 0 (-1)) 1 (-1)) 2 (-1)) 3 (-1)
def fr7 : Nat → Option Nat := va_up (va_up (va_up (va_up (fun _ => none) 0 (some 45)) 1 (some 50)) 2 (some 55)) 3 (some 60)
def M0 : mm_T := (fun a => if a = 73 ∨ a = 74 then f73 else if a = 45 ∨ a = 50 ∨ a = 55 ∨ a = 60 then (fun i => if i = 7 ∨ i = 8 then -1 else 0) else fun _ => 0, fun _ _ => 0, fun a => if a = 7 then fr7 else fun _ => none)
set_option maxRecDepth 100000 in
set_option maxHeartbeats 4000000 in
theorem run_D (L : Nat) (xs : Nat → Int32) : sm_call L xs 10 40 0 [.ref 0] [.inr (0, sm_dflt.getD 0 [])] = some (none, (wm sh0 M0).take 65) := by rfl
set_option maxRecDepth 100000 in
set_option maxHeartbeats 4000000 in
theorem run_M (L : Nat) (xs : Nat → Int32) : sm_call L xs 10 40 147 [.ref 65] ((wm sh0 M0).take 65 ++ [.inr (6, sm_dflt.getD 6 [])]) = some (none, wm sh0 M0) := by rfl
