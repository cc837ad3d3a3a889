/-! the small machine's instructions against the machine's -/
def sm_tgt (bp : List Nat) (pc : Nat) (off t : Int) : Bool := match bp[t.toNat]? with | some q => decide ((pc : Int) + off = (q : Int)) | none => false
def sm_nxt (bp : List Nat) (b pc : Nat) : Bool := match bp[b]? with | some q => Nat.beq q pc | none => false
def sm_inLF (o idx n : Nat) : Bool := sm_LF.any (fun e => Nat.beq e.1 o && Nat.beq e.2.1 idx && Nat.beq e.2.2.1 n)
def sm_inLC (o idx n : Nat) : Bool := sm_LC.any (fun e => Nat.beq e.1 o && Nat.beq e.2.1 idx && Nat.beq e.2.2.1 n)
def sm_inLK (o idx n k : Nat) : Bool := sm_LK.any (fun e => Nat.beq e.1 o && Nat.beq e.2.1 idx && Nat.beq e.2.2.1 n && Nat.beq e.2.2.2.1 k)
def sm_enc (o : Nat) (ini : Bool) (nL : Nat) (ret : Option FieldType) (bo : Bool) (bp : List Nat) (cb pc len : Nat) (rc si : sm_I) : Bool := match si with
  | .iconst n => (match rc with
    | .iconst k => decide (k = n) && Nat.beq len 1
    | .bipush k => decide ((Int8.ofInt k).toInt32 = Int32.ofInt n) && Nat.beq len 2
    | .sipush k => decide ((Int16.ofInt k).toInt32 = Int32.ofInt n) && Nat.beq len 3
    | .ldc idx => decide (Int.ofNat n.toNat = n) && sm_inLK o idx n.toNat 0 && Nat.beq len 2
    | _ => false)
  | .ldc2_w n => (match rc with
    | .lconst k => Nat.beq k.val n && Nat.beq len 1
    | .ldc2_w idx => sm_inLK o idx n 1 && Nat.beq len 3
    | _ => false)
  | .iload k => (match rc with | .iload j => Nat.beq j k && Nat.beq len 2 | .iload_n j => Nat.beq j.val k && Nat.beq len 1 | _ => false)
  | .lload k => (match rc with | .lload j => Nat.beq j k && Nat.beq len 2 | .lload_n j => Nat.beq j.val k && Nat.beq len 1 | _ => false)
  | .aload k => (match rc with | .aload j => Nat.beq j k && Nat.beq len 2 | .aload_n j => Nat.beq j.val k && Nat.beq len 1 | _ => false)
  | .istore k => (match rc with | .istore j => Nat.beq j k && Nat.beq len 2 | .istore_n j => Nat.beq j.val k && Nat.beq len 1 | _ => false) && Nat.ble (k + 1) nL
  | .lstore k => (match rc with | .lstore j => Nat.beq j k && Nat.beq len 2 | .lstore_n j => Nat.beq j.val k && Nat.beq len 1 | _ => false) && Nat.ble (k + 2) nL
  | .astore k => (match rc with | .astore j => Nat.beq j k && Nat.beq len 2 | .astore_n j => Nat.beq j.val k && Nat.beq len 1 | _ => false) && Nat.ble (k + 1) nL
  | .iinc k n => (match rc with | .iinc j i => Nat.beq j k && decide (i = n) && Nat.beq len 3 | _ => false) && Nat.ble (k + 1) nL
  | .getfield n => (match rc with | .getfield idx => sm_inLF o idx n && Nat.beq len 3 | _ => false)
  | .putfield n => (match rc with | .putfield idx => sm_inLF o idx n && Nat.beq len 3 | _ => false) && (List.range 12).all (fun ci => !(sm_sub ci (n / 512)) || !((sm_T ci (n / 4 % 128)).2.2.2) || (ini && decide ((sm_T ci (n / 4 % 128)).1 = sm_cn o)))
  | .new c => (match rc with | .new idx => sm_inLC o idx c && Nat.ble (c + 1) 12 && Nat.beq len 3 | _ => false)
  | .anewarray t => (match rc with | .anewarray idx => sm_inLC o idx (100 + t) && Nat.beq len 3 | _ => false)
  | .checkcast n => (match rc with | .checkcast idx => sm_inLC o idx n && Nat.beq n 7 && Nat.beq len 3 | _ => false)
  | .instanceof n => (match rc with | .instanceof idx => sm_inLC o idx n && Nat.beq n 7 && Nat.beq len 3 | _ => false)
  | .newarray _ => decide (rc = si) && Nat.beq len 2
  | .goto t => (match rc with | .goto off => sm_tgt bp pc off t && Nat.beq len 3 | _ => false)
  | .goto_w _ => false
  | .ifCond c t => (match rc with | .ifCond c2 off => decide (c2 = c) && sm_tgt bp pc off t && sm_nxt bp (cb + 1) (pc + 3) && Nat.beq len 3 | _ => false)
  | .if_icmp c t => (match rc with | .if_icmp c2 off => decide (c2 = c) && sm_tgt bp pc off t && sm_nxt bp (cb + 1) (pc + 3) && Nat.beq len 3 | _ => false)
  | .ifnull t => (match rc with | .ifnull off => sm_tgt bp pc off t && sm_nxt bp (cb + 1) (pc + 3) && Nat.beq len 3 | _ => false)
  | .ifnonnull t => (match rc with | .ifnonnull off => sm_tgt bp pc off t && sm_nxt bp (cb + 1) (pc + 3) && Nat.beq len 3 | _ => false)
  | .tableswitch d lo hi offs => (match rc with
    | .tableswitch d2 lo2 hi2 offs2 => sm_tgt bp pc d2 d && decide (lo2 = lo) && decide (hi2 = hi) && Nat.beq offs2.size offs.size && (List.range offs.size).all (fun k => (match offs2[k]?, offs[k]? with | some a, some t => sm_tgt bp pc a t | _, _ => false))
    | _ => false)
  | .ireturn => decide (rc = si) && Nat.beq len 1 && (bif bo then decide (ret = some .boolean) else decide (ret = some .int))
  | .lreturn => decide (rc = si) && Nat.beq len 1 && decide (ret = some .long)
  | .areturn => decide (rc = si) && Nat.beq len 1 && (match ret with | some (.object _) => true | _ => false)
  | .return_ => decide (rc = si) && Nat.beq len 1 && decide (ret = none)
  | .invokestatic n => (match rc with
    | .invokestatic idx => Nat.beq len 3 && (bif Nat.beq (n / 256) 400 then Nat.beq (n % 16) 5 && sm_LA.any (fun e => Nat.beq e.1 o && Nat.beq e.2.1 idx) else Nat.beq (n % 16) (sm_np (n / 256)) && !(Nat.beq (n / 256) 401) && sm_LS.any (fun e => Nat.beq e.1 o && Nat.beq e.2.1 idx && Nat.beq e.2.2.1 (n / 256)))
    | _ => false)
  | .invokespecial n => (match rc with
    | .invokespecial idx => Nat.beq len 3 && (bif Nat.beq (n / 256) 401 then Nat.beq (n % 16) 1 && sm_LO.any (fun e => Nat.beq e.1 o && Nat.beq e.2.1 idx) else Nat.beq (n % 16) (sm_np (n / 256) + 1) && !(Nat.beq (n / 256) 400) && (sm_LI.any (fun e => Nat.beq e.1 o && Nat.beq e.2.1 idx && Nat.beq e.2.2.1 (n / 256)) || sm_LP.any (fun e => Nat.beq e.1 o && Nat.beq e.2.1 idx && Nat.beq e.2.2.1 (n / 256))))
    | _ => false)
  | .invokevirtual n => (match rc with
    | .invokevirtual idx => Nat.beq len 3 && (List.range 12).all (fun ci => (match sm_vt (n / 256) (n / 16 % 16) ci with
      | none => true
      | some y => Nat.beq (n % 16) (sm_np y + 1) && !(Nat.beq y 400) && !(Nat.beq y 401) && (sm_LV.any (fun e => Nat.beq e.1 o && Nat.beq e.2.1 idx && Nat.beq e.2.2.1 ci && Nat.beq e.2.2.2.1 y) || sm_LU.any (fun e => Nat.beq e.1 o && Nat.beq e.2.1 idx && Nat.beq e.2.2.1 ci && Nat.beq e.2.2.2.1 y))))
    | _ => false)
  | _ => decide (rc = si) && Nat.beq len 1
def sm_isEnd (si : sm_I) : Bool := match si with
  | .goto _ | .ifCond _ _ | .if_icmp _ _ | .ifnull _ | .ifnonnull _ | .tableswitch _ _ _ _ | .ireturn | .lreturn | .areturn | .return_ => true
  | _ => false
def sm_okB (code : ByteArray) (o : Nat) (ini : Bool) (nL : Nat) (ret : Option FieldType) (bo : Bool) (bp : List Nat) (cb : Nat) : Nat → List sm_I → Bool
  | _, [] => true
  | pc, si :: is => match si with
    | .goto_w t => sm_nxt bp t.toNat pc
    | si => (match decode code pc with
      | .ok (rc, len) => sm_enc o ini nL ret bo bp cb pc len rc si && (sm_isEnd si || sm_okB code o ini nL ret bo bp cb (pc + len) is)
      | .error _ => false)
def sm_okQ (code : ByteArray) (o : Nat) (ini : Bool) (nL : Nat) (ret : Option FieldType) (bo : Bool) (bp : List Nat) (q : List (List sm_I)) : Bool :=
  Nat.beq bp.length q.length && (match bp[0]? with | some 0 => true | _ => false) && (List.range q.length).all (fun b => sm_okB code o ini nL ret bo bp b (bp.getD b 0) (q.getD b []))
def sm_okM (y : Nat) : Bool := sm_okQ (sm_bytes y) (sm_own y) (decide ((sm_y y).name = "<init>")) (sm_nL y) (sm_ret y) (sm_bo y) (sm_bp.getD y []) ((sm_prog.getD y (false, [])).2)
