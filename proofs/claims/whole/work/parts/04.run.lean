def sm_vl : List (Nat × Nat × Nat) → Nat → Nat → Option Nat
  | [], _, _ => none
  | (a, b, y) :: r, v, ci => bif Nat.beq a v && Nat.beq b ci then some y else sm_vl r v ci
def sm_vt (v c ci : Nat) : Option Nat := bif Nat.beq ci c && Nat.ble v 299 then some v else sm_vl sm_vtab v ci
def sm_bo (y : Nat) : Bool := match sm_prog[y]? with | some q => q.1 | none => false
def sm_code (y b : Nat) : List sm_I := match sm_prog[y]? with | some q => (match q.2[b]? with | some is => is | none => []) | none => []
/-- whom a call reaches: k 0 static, 1 by name, 2 by the receiver's kind -/
def sm_tg (k n : Nat) (as : List Value) (w : sm_W) : Option Nat := match k with
  | 0 => some (n / 256)
  | 1 => (match as with | .ref a :: _ => (match w[a]? with | some (.inr (ci, _)) => bif sm_sub ci (n / 16 % 16) then some (n / 256) else none | _ => none) | _ => none)
  | _ => (match as with | .ref a :: _ => (match w[a]? with | some (.inr (ci, _)) => sm_vt (n / 256) (n / 16 % 16) ci | _ => none) | _ => none)
def sm_inv (calls : Nat → List Value → sm_W → sm_O) (k n : Nat) (st : List Value) (w : sm_W) : Option (List Value × sm_W) :=
  bif Nat.ble (n % 16) st.length && Nat.ble (sm_words (st.drop (n % 16))) 8 then
    (match sm_tg k n (st.take (n % 16)).reverse w with
    | some y => (match calls y (st.take (n % 16)).reverse w with
      | some (r, w1) => some (r.toList ++ st.drop (n % 16), w1)
      | none => none)
    | none => none)
  else none
def sm_blk (L : Nat) (xs : Nat → Int32) (calls : Nat → List Value → sm_W → sm_O) (jump : Nat → sm_L → List Value → sm_W → sm_O) (bo : Bool) (cb : Nat) : List sm_I → sm_L → List Value → sm_W → sm_O
  | [], _, _, _ => none
  | i :: is, lv, st, w => match i with
    | .goto t => jump t.toNat lv st w
    | .goto_w t => jump t.toNat lv st w
    | .ifCond c t => (match st with | .int x :: r => sm_br c x 0 (jump t.toNat lv r w) (jump (cb + 1) lv r w) | _ => none)
    | .if_icmp c t => (match st with | .int y :: .int x :: r => sm_br c x y (jump t.toNat lv r w) (jump (cb + 1) lv r w) | _ => none)
    | .ifnull t => (match st with | .null :: r => jump t.toNat lv r w | .ref _ :: r => jump (cb + 1) lv r w | _ => none)
    | .ifnonnull t => (match st with | .ref _ :: r => jump t.toNat lv r w | .null :: r => jump (cb + 1) lv r w | _ => none)
    | .tableswitch d lo hi offs => (match st with
      | .int x :: r => if x.toInt < lo ∨ hi < x.toInt then jump d.toNat lv r w else (match offs[(x.toInt - lo).toNat]? with | some t => jump t.toNat lv r w | none => none)
      | _ => none)
    | .ireturn => (match st with | [.int x] => if bo = true ∧ ¬ (x = 0 ∨ x = 1) then none else some (some (.int x), w) | _ => none)
    | .lreturn => (match st with | [.long x] => some (some (.long x), w) | _ => none)
    | .areturn => (match st with | [.ref x] => some (some (.ref x), w) | [.null] => some (some .null, w) | _ => none)
    | .return_ => (match st with | [] => some (none, w) | _ => none)
    | .invokestatic n => (match sm_inv calls 0 n st w with | some (st1, w1) => sm_blk L xs calls jump bo cb is lv st1 w1 | none => none)
    | .invokespecial n => (match sm_inv calls 1 n st w with | some (st1, w1) => sm_blk L xs calls jump bo cb is lv st1 w1 | none => none)
    | .invokevirtual n => (match sm_inv calls 2 n st w with | some (st1, w1) => sm_blk L xs calls jump bo cb is lv st1 w1 | none => none)
    | j => (match sm_op L xs j lv st w with | some (lv1, st1, w1) => sm_blk L xs calls jump bo cb is lv1 st1 w1 | none => none)
def sm_meth (L : Nat) (xs : Nat → Int32) (calls : Nat → List Value → sm_W → sm_O) (y : Nat) : Nat → Nat → sm_L → List Value → sm_W → sm_O
  | 0, _, _, _, _ => none
  | n + 1, b, lv, st, w => sm_blk L xs calls (sm_meth L xs calls y n) (sm_bo y) b (sm_code y b) lv st w
def sm_call (L : Nat) (xs : Nat → Int32) : Nat → Nat → Nat → List Value → sm_W → sm_O
  | 0, _, _, _, _ => none
  | d + 1, n, y, as, w => bif Nat.beq y 400 then sm_copy as w else bif Nat.beq y 401 then (match as with | [.ref _] => some (none, w) | _ => none) else bif Nat.ble (sm_words as) (sm_nLs.getD y 0) then sm_meth L xs (sm_call L xs d n) y n 0 (lv_args 0 as) [] w else none
