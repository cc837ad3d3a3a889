/-! A SMALL MACHINE: places for addresses, blocks for jumps; its runs are runs of the machine (shown behind). -/
abbrev sm_I : Type := Jvm.ClassFile.Instr
abbrev sm_L : Type := List (Nat × Value)
abbrev sm_W : Type := List va_E
abbrev sm_O : Type := Option (Option Value × sm_W)
def sm_get : sm_L → Nat → Option Value
  | [], _ => none
  | (k, v) :: r, i => bif Nat.beq k i then some v else sm_get r i
def sm_put (lv : sm_L) (i : Nat) (v : Value) : sm_L := (i, v) :: lv.filter (fun q => !(q.1 == i) && !(q.1 + 1 == i && q.2.category == 2))
def sm_put2 (lv : sm_L) (i : Nat) (v : Value) : sm_L := (i, v) :: lv.filter (fun q => !(q.1 == i) && (!(q.1 == i + 1) && !(q.1 + 1 == i && q.2.category == 2)))
/-- kinds of objects: 0 .. 11; 12 all lists' common one; 13 any -/
def sm_sub (ci d : Nat) : Bool := Nat.beq ci d || (Nat.beq d 12 && (Nat.ble 7 ci && Nat.ble ci 11)) || (Nat.beq d 7 && (Nat.beq ci 8 || Nat.beq ci 9)) || Nat.beq d 13
def sm_fd (w : sm_W) (a n : Nat) : Option Value := match w[a]? with
  | some (.inr (ci, fs)) => bif sm_sub ci (n / 512) then fs[n / 4 % 128]? else none
  | _ => none
def sm_fok (t : Nat) (v : Value) : Bool := match v with
  | .int x => Nat.beq t 0 || (Nat.beq t 2 && (x == 0 || x == 1))
  | .long _ => Nat.beq t 1
  | .ref _ => Nat.beq t 3
  | .null => Nat.beq t 3
  | _ => false
def sm_pf (w : sm_W) (a n : Nat) (v : Value) : Option sm_W := match w[a]? with
  | some (.inr (ci, fs)) => bif sm_sub ci (n / 512) && (Nat.ble (n / 4 % 128 + 1) fs.length && sm_fok (n % 4) v) then some (w.set a (.inr (ci, fs.set (n / 4 % 128) v))) else none
  | _ => none
def sm_out (i : Int32) (n : Nat) : Prop := i < 0 ∨ n ≤ i.toNatClampNeg
/-- what a new object of a kind holds -/
def sm_dflt : List (List Value) := [
  [.null, .null, .null, .null, .null, .null, .null, .int 0, .int 0, .null, .int 0, .int 0, .int 0, .int 0],
  [.null, .null, .int 0, .int 0, .int 0, .int 0],
  [.null, .null, .null, .int 0],
  [.null, .null, .null, .null, .int 0],
  [.null, .null, .null, .null, .null, .null, .null, .null, .null, .null, .null, .null, .int 0, .int 0, .int 0, .int 0, .int 0],
  [.null, .null, .null, .null, .int 0, .int 0, .int 0, .int 0, .int 0],
  [.null, .null, .null, .null, .null, .null, .null, .null, .null, .int 0, .null, .null, .null, .null, .null, .null, .null, .null, .null, .int 0, .null, .null, .int 0, .int 0, .int 0, .null, .null, .null, .null, .null, .long 0, .int 0, .int 0, .null, .null, .null, .null, .null, .int 0, .int 0, .null, .null, .null, .null, .null, .null, .null, .null, .null, .null, .null, .null, .null, .int 0, .int 0, .int 0, .int 0, .null, .int 0, .int 0, .null, .int 0, .null, .null, .null],
  [.int 0, .null, .null, .int 0],
  [.int 0, .null, .null, .int 0, .null],
  [.int 0, .null, .null, .int 0],
  [.int 0, .null, .null, .int 0, .int 0, .long 0, .long 0],
  [.int 0, .null, .null, .int 0, .int 0]]
def sm_op (L : Nat) (xs : Nat → Int32) (i : sm_I) (lv : sm_L) (st : List Value) (w : sm_W) : Option (sm_L × List Value × sm_W) :=
  match i with
  | .iconst n => some (lv, .int (Int32.ofInt n) :: st, w)
  | .ldc2_w n => some (lv, .long (Int64.ofNat n) :: st, w)
  | .aconst_null => some (lv, .null :: st, w)
  | .iload k => (match sm_get lv k with | some (.int x) => some (lv, .int x :: st, w) | _ => none)
  | .lload k => (match sm_get lv k with | some (.long x) => some (lv, .long x :: st, w) | _ => none)
  | .aload k => (match sm_get lv k with | some (.ref x) => some (lv, .ref x :: st, w) | some .null => some (lv, .null :: st, w) | some (.retAddr x) => some (lv, .retAddr x :: st, w) | _ => none)
  | .istore k => (match st with | .int x :: r => some (sm_put lv k (.int x), r, w) | _ => none)
  | .lstore k => (match st with | .long x :: r => some (sm_put2 lv k (.long x), r, w) | _ => none)
  | .astore k => (match st with | .ref x :: r => some (sm_put lv k (.ref x), r, w) | .null :: r => some (sm_put lv k .null, r, w) | _ => none)
  | .iinc k n => (match sm_get lv k with | some (.int x) => some (sm_put lv k (.int (x + Int32.ofInt n)), st, w) | _ => none)
  | .iadd => (match st with | .int y :: .int x :: r => some (lv, .int (x + y) :: r, w) | _ => none)
  | .isub => (match st with | .int y :: .int x :: r => some (lv, .int (x - y) :: r, w) | _ => none)
  | .imul => (match st with | .int y :: .int x :: r => some (lv, .int (x * y) :: r, w) | _ => none)
  | .idiv => (match st with | .int y :: .int x :: r => if y = 0 then none else some (lv, .int (x / y) :: r, w) | _ => none)
  | .irem => (match st with | .int y :: .int x :: r => if y = 0 then none else some (lv, .int (x - x / y * y) :: r, w) | _ => none)
  | .iand => (match st with | .int y :: .int x :: r => some (lv, .int (x &&& y) :: r, w) | _ => none)
  | .ior => (match st with | .int y :: .int x :: r => some (lv, .int (x ||| y) :: r, w) | _ => none)
  | .ixor => (match st with | .int y :: .int x :: r => some (lv, .int (x ^^^ y) :: r, w) | _ => none)
  | .ishl => (match st with | .int y :: .int x :: r => some (lv, .int (x <<< (y &&& 31)) :: r, w) | _ => none)
  | .ishr => (match st with | .int y :: .int x :: r => some (lv, .int (x >>> (y &&& 31)) :: r, w) | _ => none)
  | .ladd => (match st with | .long y :: .long x :: r => some (lv, .long (x + y) :: r, w) | _ => none)
  | .lsub => (match st with | .long y :: .long x :: r => some (lv, .long (x - y) :: r, w) | _ => none)
  | .lmul => (match st with | .long y :: .long x :: r => some (lv, .long (x * y) :: r, w) | _ => none)
  | .land => (match st with | .long y :: .long x :: r => some (lv, .long (x &&& y) :: r, w) | _ => none)
  | .lor => (match st with | .long y :: .long x :: r => some (lv, .long (x ||| y) :: r, w) | _ => none)
  | .lxor => (match st with | .long y :: .long x :: r => some (lv, .long (x ^^^ y) :: r, w) | _ => none)
  | .lshl => (match st with | .int y :: .long x :: r => some (lv, .long (x <<< (y.toInt64 &&& 63)) :: r, w) | _ => none)
  | .lushr => (match st with | .int y :: .long x :: r => some (lv, .long (x.toUInt64 >>> (y.toInt64.toUInt64 &&& Int64.toUInt64 63)).toInt64 :: r, w) | _ => none)
  | .lcmp => (match st with | .long y :: .long x :: r => some (lv, .int (lg_cmp x y) :: r, w) | _ => none)
  | .i2l => (match st with | .int x :: r => some (lv, .long x.toInt64 :: r, w) | _ => none)
  | .l2i => (match st with | .long x :: r => some (lv, .int x.toInt32 :: r, w) | _ => none)
  | .dup => (match st with | .int x :: r => some (lv, .int x :: .int x :: r, w) | .ref x :: r => some (lv, .ref x :: .ref x :: r, w) | _ => none)
  | .dup2 => (match st with | .int y :: .ref x :: r => some (lv, .int y :: .ref x :: .int y :: .ref x :: r, w) | _ => none)
  | .pop => (match st with | .int _ :: r => some (lv, r, w) | _ => none)
  | .getfield n => (match st with | .ref a :: r => (match sm_fd w a n with | some v => some (lv, v :: r, w) | none => none) | _ => none)
  | .putfield n => (match st with | v :: .ref a :: r => (match sm_pf w a n v with | some w' => some (lv, r, w') | none => none) | _ => none)
  | .iaload => (match st with
    | .int i :: .ref a :: r => (match w[a]? with | some (.inl (0, n, .inl f)) => if i < 0 ∨ n ≤ i.toNatClampNeg then none else some (lv, .int (f i.toNatClampNeg) :: r, w) | _ => none)
    | .int i :: .retAddr _ :: r => if i < 0 ∨ L ≤ i.toNatClampNeg then none else some (lv, .int (xs i.toNatClampNeg) :: r, w)
    | _ => none)
  | .baload => (match st with
    | .int i :: .ref a :: r => (match w[a]? with | some (.inl (2, n, .inl f)) => if i < 0 ∨ n ≤ i.toNatClampNeg then none else some (lv, .int (f i.toNatClampNeg) :: r, w) | _ => none)
    | _ => none)
  | .laload => (match st with
    | .int i :: .ref a :: r => (match w[a]? with | some (.inl (1, n, .inr (.inl f))) => if i < 0 ∨ n ≤ i.toNatClampNeg then none else some (lv, .long (f i.toNatClampNeg) :: r, w) | _ => none)
    | _ => none)
  | .aaload => (match st with
    | .int i :: .ref a :: r => (match w[a]? with | some (.inl (t, n, .inr (.inr (.inr (.inr f))))) => bif Nat.beq t 3 || Nat.beq t 4 then (if i < 0 ∨ n ≤ i.toNatClampNeg then none else some (lv, va_rf (f i.toNatClampNeg) :: r, w)) else none | _ => none)
    | _ => none)
  | .iastore => (match st with
    | .int x :: .int i :: .ref a :: r => (match w[a]? with | some (.inl (0, n, .inl f)) => if i < 0 ∨ n ≤ i.toNatClampNeg then none else some (lv, r, w.set a (.inl (0, n, .inl (upd f i.toNatClampNeg x)))) | _ => none)
    | _ => none)
  | .bastore => (match st with
    | .int x :: .int i :: .ref a :: r => (match w[a]? with | some (.inl (2, n, .inl f)) => if (i < 0 ∨ n ≤ i.toNatClampNeg) ∨ ¬ (x = 0 ∨ x = 1) then none else some (lv, r, w.set a (.inl (2, n, .inl (upd f i.toNatClampNeg x)))) | _ => none)
    | _ => none)
  | .lastore => (match st with
    | .long x :: .int i :: .ref a :: r => (match w[a]? with | some (.inl (1, n, .inr (.inl f))) => if i < 0 ∨ n ≤ i.toNatClampNeg then none else some (lv, r, w.set a (.inl (1, n, .inr (.inl (vp_updL f i.toNatClampNeg x))))) | _ => none)
    | _ => none)
  | .aastore => (match st with
    | .ref v :: .int i :: .ref a :: r => (match w[a]?, w[v]? with
      | some (.inl (t, n, .inr (.inr (.inr (.inr f))))), some (.inr (ci, _)) => bif (Nat.beq t 3 && Nat.beq ci 5) || (Nat.beq t 4 && sm_sub ci 12) then (if i < 0 ∨ n ≤ i.toNatClampNeg then none else some (lv, r, w.set a (.inl (t, n, .inr (.inr (.inr (.inr (va_up f i.toNatClampNeg (some v))))))))) else none
      | _, _ => none)
    | .null :: .int i :: .ref a :: r => (match w[a]? with
      | some (.inl (t, n, .inr (.inr (.inr (.inr f))))) => bif Nat.beq t 4 then (if i < 0 ∨ n ≤ i.toNatClampNeg then none else some (lv, r, w.set a (.inl (t, n, .inr (.inr (.inr (.inr (va_up f i.toNatClampNeg none)))))))) else none
      | _ => none)
    | _ => none)
  | .arraylength => (match st with
    | .ref a :: r => (match w[a]? with | some (.inl (0, n, .inl _)) => some (lv, .int (Int32.ofNat n) :: r, w) | _ => none)
    | .retAddr _ :: r => some (lv, .int (Int32.ofNat L) :: r, w)
    | _ => none)
  | .new ci => (match sm_dflt[ci]? with | some fs => some (lv, .ref w.length :: st, w ++ [.inr (ci, fs)]) | none => none)
  | .newarray t => (match st with
    | .int n :: r => if n < 0 ∨ 100000 ≤ n then none else (match t with
      | .int => some (lv, .ref w.length :: r, w ++ [.inl (0, n.toNatClampNeg, .inl (fun _ => 0))])
      | .long => some (lv, .ref w.length :: r, w ++ [.inl (1, n.toNatClampNeg, .inr (.inl (fun _ => 0)))])
      | .boolean => some (lv, .ref w.length :: r, w ++ [.inl (2, n.toNatClampNeg, .inl (fun _ => 0))])
      | _ => none)
    | _ => none)
  | .anewarray t => (match st with
    | .int n :: r => if n < 0 ∨ 100000 ≤ n then none else bif Nat.beq t 3 || Nat.beq t 4 then some (lv, .ref w.length :: r, w ++ [.inl (t, n.toNatClampNeg, .inr (.inr (.inr (.inr (fun _ => none)))))]) else none
    | _ => none)
  | .checkcast n => (match st with
    | .ref a :: r => (match w[a]? with | some (.inr (ci, _)) => bif sm_sub ci n then some (lv, .ref a :: r, w) else none | _ => none)
    | _ => none)
  | .instanceof n => (match st with
    | .ref a :: r => (match w[a]? with | some (.inr (ci, _)) => bif sm_sub ci 12 then some (lv, .int (bif sm_sub ci n then 1 else 0) :: r, w) else none | _ => none)
    | _ => none)
  | _ => none
def sm_br (c : Jvm.ClassFile.Cond) (x y : Int32) (a b : sm_O) : sm_O := match c with
  | .eq => if x = y then a else b
  | .ne => if x = y then b else a
  | .lt => if x < y then a else b
  | .ge => if y ≤ x then a else b
  | .gt => if y < x then a else b
  | .le => if x ≤ y then a else b
def sm_copy (as : List Value) (w : sm_W) : sm_O := match as with
  | [.ref a, .int sp, .ref b, .int dp, .int n] => (match w[a]?, w[b]? with
    | some (.inl (0, n0, .inl f)), some (.inl (0, n1, .inl g)) => if sp < 0 ∨ dp < 0 ∨ n < 0 ∨ n0 < sp.toNatClampNeg + n.toNatClampNeg ∨ n1 < dp.toNatClampNeg + n.toNatClampNeg then none else some (none, w.set b (.inl (0, n1, .inl (va_cpy f g sp.toNatClampNeg dp.toNatClampNeg n.toNatClampNeg))))
    | _, _ => none)
  | _ => none
def sm_words (st : List Value) : Nat := (st.map fun v => v.category).sum
