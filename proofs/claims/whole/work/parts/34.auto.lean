/-! rules that fit any instruction at the head, for walks of whole trees -/
def ifI (i : sm_I) : Option (Jvm.ClassFile.Cond × Nat) := match i with | .ifCond c t => some (c, t.toNat) | _ => none
def icI (i : sm_I) : Option (Jvm.ClassFile.Cond × Nat) := match i with | .if_icmp c t => some (c, t.toNat) | _ => none
def rtI (i : sm_I) : Nat := match i with | .ireturn => 1 | .lreturn => 2 | .areturn => 3 | .return_ => 4 | .iaload => 5 | .baload => 6 | .laload => 7 | .aaload => 8 | .iastore => 9 | .bastore => 10 | .lastore => 11 | .aastore => 12 | .idiv => 13 | .irem => 14 | _ => 0
def pfI (i : sm_I) : Option Nat := match i with | .putfield k => some k | _ => none
def ivI (i : sm_I) : Option (Nat × Nat) := match i with | .invokestatic k => some (0, k) | .invokespecial k => some (1, k) | .invokevirtual k => some (2, k) | _ => none
def stR (st : List Value) : Nat := match st with | _ :: .ref a :: _ => a | _ => 0
theorem tnf {b : Bool} (h : b = true) : ¬ b = false := by rw [h]; decide
theorem fnt {b : Bool} (h : b = false) : ¬ b = true := by rw [h]; decide
def isIf (i : sm_I) : Bool := match i with | .ifCond _ _ => true | _ => false
def isIc (i : sm_I) : Bool := match i with | .if_icmp _ _ => true | _ => false
def isGf (i : sm_I) : Bool := match i with | .getfield _ => true | _ => false
def isPf (i : sm_I) : Bool := match i with | .putfield _ => true | _ => false
def isIv (i : sm_I) : Bool := match i with | .invokestatic _ => true | .invokevirtual _ => true | .invokespecial _ => true | _ => false
def isAr (i : sm_I) : Bool := Nat.ble 5 (rtI i)
def isRt (i : sm_I) : Bool := Nat.ble 1 (rtI i) && Nat.ble (rtI i) 4
section AU
variable {L : Nat} {xs : Nat → Int32} {d y cb : Nat} {is : List sm_I} {lv : sm_L} {st st0 : List Value} {w : sm_W} {Q : Option Value → sm_W → Prop} {i : sm_I} {sh : List sh_T} {M : mm_T} {a n : Nat} {s : sh_T} {x z : Int32} {t : Nat}
theorem a_at (f : sm_I → Bool) (hi : f i = true) (h : sm_X L xs d y cb (i :: is) lv st0 w Q) : sm_X L xs d y cb (i :: is) lv st0 w Q := h
theorem a_stop (b : Nat) (hb : Nat.beq cb b = true) (h : sm_X L xs d y cb is lv st0 w Q) : sm_X L xs d y cb is lv st0 w Q := h
theorem a_if {cd : Jvm.ClassFile.Cond} {P : Prop} (hi : ifI i = some (cd, t)) (hst : st0 = .int x :: st) (hP : ∀ a b : sm_O, (P → sm_br cd x 0 a b = a) ∧ (¬ P → sm_br cd x 0 a b = b)) (h1 : P → sm_X L xs d y t (sm_code y t) lv st w Q) (h2 : ¬ P → sm_X L xs d y (cb + 1) (sm_code y (cb + 1)) lv st w Q) : sm_X L xs d y cb (i :: is) lv st0 w Q := by
  unfold ifI at hi
  split at hi
  · cases hi
    subst hst
    exact x_ifc hP h1 h2
  · cases hi
theorem a_ic {cd : Jvm.ClassFile.Cond} {P : Prop} (hi : icI i = some (cd, t)) (hst : st0 = .int z :: .int x :: st) (hP : ∀ a b : sm_O, (P → sm_br cd x z a b = a) ∧ (¬ P → sm_br cd x z a b = b)) (h1 : P → sm_X L xs d y t (sm_code y t) lv st w Q) (h2 : ¬ P → sm_X L xs d y (cb + 1) (sm_code y (cb + 1)) lv st w Q) : sm_X L xs d y cb (i :: is) lv st0 w Q := by
  unfold icI at hi
  split at hi
  · cases hi
    subst hst
    exact x_icm hP h1 h2
  · cases hi
theorem a_ifT {cd : Jvm.ClassFile.Cond} {P : Prop} (hi : ifI i = some (cd, t)) (hst : st0 = .int x :: st) (hP : ∀ a b : sm_O, (P → sm_br cd x 0 a b = a) ∧ (¬ P → sm_br cd x 0 a b = b)) (hp : P) (h1 : sm_X L xs d y t (sm_code y t) lv st w Q) : sm_X L xs d y cb (i :: is) lv st0 w Q := a_if hi hst hP (fun _ => h1) (fun h => absurd hp h)
theorem a_ifF {cd : Jvm.ClassFile.Cond} {P : Prop} (hi : ifI i = some (cd, t)) (hst : st0 = .int x :: st) (hP : ∀ a b : sm_O, (P → sm_br cd x 0 a b = a) ∧ (¬ P → sm_br cd x 0 a b = b)) (hp : ¬ P) (h2 : sm_X L xs d y (cb + 1) (sm_code y (cb + 1)) lv st w Q) : sm_X L xs d y cb (i :: is) lv st0 w Q := a_if hi hst hP (fun h => absurd h hp) (fun _ => h2)
theorem a_icT {cd : Jvm.ClassFile.Cond} {P : Prop} (hi : icI i = some (cd, t)) (hst : st0 = .int z :: .int x :: st) (hP : ∀ a b : sm_O, (P → sm_br cd x z a b = a) ∧ (¬ P → sm_br cd x z a b = b)) (hp : P) (h1 : sm_X L xs d y t (sm_code y t) lv st w Q) : sm_X L xs d y cb (i :: is) lv st0 w Q := a_ic hi hst hP (fun _ => h1) (fun h => absurd hp h)
theorem a_icF {cd : Jvm.ClassFile.Cond} {P : Prop} (hi : icI i = some (cd, t)) (hst : st0 = .int z :: .int x :: st) (hP : ∀ a b : sm_O, (P → sm_br cd x z a b = a) ∧ (¬ P → sm_br cd x z a b = b)) (hp : ¬ P) (h2 : sm_X L xs d y (cb + 1) (sm_code y (cb + 1)) lv st w Q) : sm_X L xs d y cb (i :: is) lv st0 w Q := a_ic hi hst hP (fun h => absurd h hp) (fun _ => h2)
theorem a_iret (hi : rtI i = 1) (hst : st0 = [.int x]) (hb : sm_bo y = false) (h : Q (some (.int x)) w) : sm_X L xs d y cb (i :: is) lv st0 w Q := by
  subst hst
  cases i <;> first | exact x_iret hb h | cases hi
theorem a_zret (hi : rtI i = 1) (hst : st0 = [.int x]) (hx : x = 0 ∨ x = 1) (h : Q (some (.int x)) w) : sm_X L xs d y cb (i :: is) lv st0 w Q := by
  subst hst
  cases i <;> first | exact x_zret hx h | cases hi
theorem a_lret {v : Int64} (hi : rtI i = 2) (hst : st0 = [.long v]) (h : Q (some (.long v)) w) : sm_X L xs d y cb (i :: is) lv st0 w Q := by
  subst hst
  cases i <;> first | exact x_lret h | cases hi
theorem a_ret (hi : rtI i = 4) (hst : st0 = []) (h : Q none w) : sm_X L xs d y cb (i :: is) lv st0 w Q := by
  subst hst
  cases i <;> first | exact x_ret h | cases hi
theorem a_ialdN {k : Nat} (hs : sh[a]? = some (arrI n)) (hi : rtI i = 5) (ha : stR st0 = a) (hst : st0 = .int (nI k) :: .ref a :: st) (hk : k < n) (hn : n < 2 ^ 31) (h : sm_X L xs d y cb is lv (.int (M.1 a k) :: st) (wm sh M) Q) : sm_X L xs d y cb (i :: is) lv st0 (wm sh M) Q := by
  subst hst
  have e : (nI k).toNatClampNeg = k := nI_clamp (by omega)
  cases i <;> first | exact m_iald hs (vp_in_nI hk hn) (by rw [e]; exact h) | cases hi
theorem a_baldN {k : Nat} (hs : sh[a]? = some (arrZ n)) (hi : rtI i = 6) (ha : stR st0 = a) (hst : st0 = .int (nI k) :: .ref a :: st) (hk : k < n) (hn : n < 2 ^ 31) (h : sm_X L xs d y cb is lv (.int (M.1 a k) :: st) (wm sh M) Q) : sm_X L xs d y cb (i :: is) lv st0 (wm sh M) Q := by
  subst hst
  have e : (nI k).toNatClampNeg = k := nI_clamp (by omega)
  cases i <;> first | exact m_bald hs (vp_in_nI hk hn) (by rw [e]; exact h) | cases hi
theorem a_laldN {k : Nat} (hs : sh[a]? = some (arrL n)) (hi : rtI i = 7) (ha : stR st0 = a) (hst : st0 = .int (nI k) :: .ref a :: st) (hk : k < n) (hn : n < 2 ^ 31) (h : sm_X L xs d y cb is lv (.long (M.2.1 a k) :: st) (wm sh M) Q) : sm_X L xs d y cb (i :: is) lv st0 (wm sh M) Q := by
  subst hst
  have e : (nI k).toNatClampNeg = k := nI_clamp (by omega)
  cases i <;> first | exact m_lald hs (vp_in_nI hk hn) (by rw [e]; exact h) | cases hi
theorem a_iastN {k : Nat} {v : Int32} (hs : sh[a]? = some (arrI n)) (hi : rtI i = 9) (ha : stR (st0.drop 1) = a) (hst : st0 = .int v :: .int (nI k) :: .ref a :: st) (hk : k < n) (hn : n < 2 ^ 31) (h : sm_X L xs d y cb is lv st (wm sh (m_setI M a k v)) Q) : sm_X L xs d y cb (i :: is) lv st0 (wm sh M) Q := by
  subst hst
  have e : (nI k).toNatClampNeg = k := nI_clamp (by omega)
  cases i <;> first | exact m_iast hs (vp_in_nI hk hn) (by rw [e]; exact h) | cases hi
theorem a_bastN {k : Nat} {v : Int32} (hs : sh[a]? = some (arrZ n)) (hi : rtI i = 10) (ha : stR (st0.drop 1) = a) (hst : st0 = .int v :: .int (nI k) :: .ref a :: st) (hk : k < n) (hn : n < 2 ^ 31) (hv : v = 0 ∨ v = 1) (h : sm_X L xs d y cb is lv st (wm sh (m_setI M a k v)) Q) : sm_X L xs d y cb (i :: is) lv st0 (wm sh M) Q := by
  subst hst
  have e : (nI k).toNatClampNeg = k := nI_clamp (by omega)
  cases i <;> first | exact m_bast hs (vp_in_nI hk hn) hv (by rw [e]; exact h) | cases hi
theorem a_lastN {k : Nat} {v : Int64} (hs : sh[a]? = some (arrL n)) (hi : rtI i = 11) (ha : stR (st0.drop 1) = a) (hst : st0 = .long v :: .int (nI k) :: .ref a :: st) (hk : k < n) (hn : n < 2 ^ 31) (h : sm_X L xs d y cb is lv st (wm sh (m_setL M a k v)) Q) : sm_X L xs d y cb (i :: is) lv st0 (wm sh M) Q := by
  subst hst
  have e : (nI k).toNatClampNeg = k := nI_clamp (by omega)
  cases i <;> first | exact m_last hs (vp_in_nI hk hn) (by rw [e]; exact h) | cases hi
theorem a_iald {j : Int32} (hs : sh[a]? = some (arrI n)) (hi : rtI i = 5) (hst : st0 = .int j :: .ref a :: st) (hj : vp_in j n) (h : sm_X L xs d y cb is lv (.int (M.1 a j.toNatClampNeg) :: st) (wm sh M) Q) : sm_X L xs d y cb (i :: is) lv st0 (wm sh M) Q := by
  subst hst
  cases i <;> first | exact m_iald hs hj h | cases hi
theorem a_bald {j : Int32} (hs : sh[a]? = some (arrZ n)) (hi : rtI i = 6) (hst : st0 = .int j :: .ref a :: st) (hj : vp_in j n) (h : sm_X L xs d y cb is lv (.int (M.1 a j.toNatClampNeg) :: st) (wm sh M) Q) : sm_X L xs d y cb (i :: is) lv st0 (wm sh M) Q := by
  subst hst
  cases i <;> first | exact m_bald hs hj h | cases hi
theorem a_lald {j : Int32} (hs : sh[a]? = some (arrL n)) (hi : rtI i = 7) (hst : st0 = .int j :: .ref a :: st) (hj : vp_in j n) (h : sm_X L xs d y cb is lv (.long (M.2.1 a j.toNatClampNeg) :: st) (wm sh M) Q) : sm_X L xs d y cb (i :: is) lv st0 (wm sh M) Q := by
  subst hst
  cases i <;> first | exact m_lald hs hj h | cases hi
theorem a_iast {j v : Int32} (hs : sh[a]? = some (arrI n)) (hi : rtI i = 9) (hst : st0 = .int v :: .int j :: .ref a :: st) (hj : vp_in j n) (h : sm_X L xs d y cb is lv st (wm sh (m_setI M a j.toNatClampNeg v)) Q) : sm_X L xs d y cb (i :: is) lv st0 (wm sh M) Q := by
  subst hst
  cases i <;> first | exact m_iast hs hj h | cases hi
theorem a_bast {j v : Int32} (hs : sh[a]? = some (arrZ n)) (hi : rtI i = 10) (hst : st0 = .int v :: .int j :: .ref a :: st) (hj : vp_in j n) (hv : v = 0 ∨ v = 1) (h : sm_X L xs d y cb is lv st (wm sh (m_setI M a j.toNatClampNeg v)) Q) : sm_X L xs d y cb (i :: is) lv st0 (wm sh M) Q := by
  subst hst
  cases i <;> first | exact m_bast hs hj hv h | cases hi
theorem a_last {j : Int32} {v : Int64} (hs : sh[a]? = some (arrL n)) (hi : rtI i = 11) (hst : st0 = .long v :: .int j :: .ref a :: st) (hj : vp_in j n) (h : sm_X L xs d y cb is lv st (wm sh (m_setL M a j.toNatClampNeg v)) Q) : sm_X L xs d y cb (i :: is) lv st0 (wm sh M) Q := by
  subst hst
  cases i <;> first | exact m_last hs hj h | cases hi
theorem a_putI {k : Nat} {v : Int32} (hs : sh[a]? = some s) (hi : pfI i = some k) (hst : st0 = .int v :: .ref a :: st) (hv : m_pf (s (M.1 a) (M.2.1 a) (M.2.2 a)) k (.int v) = some (s (upd (M.1 a) (k / 4 % 128) v) (M.2.1 a) (M.2.2 a))) (h : sm_X L xs d y cb is lv st (wm sh (m_setI M a (k / 4 % 128) v)) Q) : sm_X L xs d y cb (i :: is) lv st0 (wm sh M) Q := by
  subst hst
  cases i <;> first | (cases hi; exact m_putI hs hv h) | cases hi
theorem a_putL {k : Nat} {v : Int64} (hs : sh[a]? = some s) (hi : pfI i = some k) (hst : st0 = .long v :: .ref a :: st) (hv : m_pf (s (M.1 a) (M.2.1 a) (M.2.2 a)) k (.long v) = some (s (M.1 a) (vp_updL (M.2.1 a) (k / 4 % 128) v) (M.2.2 a))) (h : sm_X L xs d y cb is lv st (wm sh (m_setL M a (k / 4 % 128) v)) Q) : sm_X L xs d y cb (i :: is) lv st0 (wm sh M) Q := by
  subst hst
  cases i <;> first | (cases hi; exact m_putL hs hv h) | cases hi
theorem a_callV {k yy : Nat} {as : List Value} (hs : sh[a]? = some s) (hi : ivI i = some (2, k)) (ht : m_vt (s (M.1 a) (M.2.1 a) (M.2.2 a)) k = some yy) (hb : (Nat.ble (k % 16) st.length && Nat.ble (sm_words (st.drop (k % 16))) 8) = true) (hst : (st.take (k % 16)).reverse = .ref a :: as) (he : sm_E L xs d yy (.ref a :: as) (wm sh M) (fun r w1 => sm_X L xs d y cb is lv (r.toList ++ st.drop (k % 16)) w1 Q)) : sm_X L xs d y cb (i :: is) lv st (wm sh M) Q := by
  unfold ivI at hi
  split at hi
  · cases hi
  · cases hi
  · cases hi
    exact m_callV hs ht hb hst he
  · cases hi
theorem a_callS {k yy : Nat} {as : List Value} (hi : ivI i = some (0, k)) (ht : k / 256 = yy) (hb : (Nat.ble (k % 16) st.length && Nat.ble (sm_words (st.drop (k % 16))) 8) = true) (hst : (st.take (k % 16)).reverse = as) (he : sm_E L xs d yy as (wm sh M) (fun r w1 => sm_X L xs d y cb is lv (r.toList ++ st.drop (k % 16)) w1 Q)) : sm_X L xs d y cb (i :: is) lv st (wm sh M) Q := by
  unfold ivI at hi
  split at hi
  · cases hi
    subst ht
    exact m_callS hb hst he
  · cases hi
  · cases hi
  · cases hi
end AU
theorem zz0 (b : Bool) : (zz b = 0) = (b = false) := by cases b <;> simp [zz]
theorem zz1 (b : Bool) : (zz b = 1) = (b = true) := by cases b <;> simp [zz]
theorem zzn (b : Bool) : (zz b ≠ 0) = (b = true) := by cases b <;> simp [zz]
theorem lc0 (u v : Int64) : (lg_cmp u v = 0) = (u = v) := by
  have h := br_leq (x := u) (z := v) none (some (none, []))
  apply propext
  constructor
  · intro e
    by_cases g : u = v
    · exact g
    · have h2 := h.2 g
      rw [e] at h2
      cases h2
  · intro e
    by_cases g : lg_cmp u v = 0
    · exact g
    · have h1 := h.1 e
      unfold sm_br at h1
      dsimp only at h1
      rw [if_neg g] at h1
      cases h1
theorem lcg (u v : Int64) : (0 < lg_cmp u v) = (v < u) := by
  have h := br_lgt (x := u) (z := v) none (some (none, []))
  apply propext
  constructor
  · intro e
    by_cases g : v < u
    · exact g
    · have h2 := h.2 g
      unfold sm_br at h2
      dsimp only at h2
      rw [if_pos e] at h2
      cases h2
  · intro e
    by_cases g : 0 < lg_cmp u v
    · exact g
    · have h1 := h.1 e
      unfold sm_br at h1
      dsimp only at h1
      rw [if_neg g] at h1
      cases h1
