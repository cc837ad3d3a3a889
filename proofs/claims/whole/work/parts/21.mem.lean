/-! shapes and memory: what a world holds, apart from what its cells are -/
abbrev sh_T : Type := (Nat → Int32) → (Nat → Int64) → (Nat → Option Nat) → va_E
abbrev mm_T : Type := (Nat → Nat → Int32) × (Nat → Nat → Int64) × (Nat → Nat → Option Nat)
def wm (sh : List sh_T) (M : mm_T) : sm_W := sh.mapIdx (fun a s => s (M.1 a) (M.2.1 a) (M.2.2 a))
def m_setI (M : mm_T) (a i : Nat) (v : Int32) : mm_T := (va_up M.1 a (upd (M.1 a) i v), M.2)
def m_setL (M : mm_T) (a i : Nat) (v : Int64) : mm_T := (M.1, va_up M.2.1 a (vp_updL (M.2.1 a) i v), M.2.2)
def m_setR (M : mm_T) (a i : Nat) (v : Option Nat) : mm_T := (M.1, M.2.1, va_up M.2.2 a (va_up (M.2.2 a) i v))
def m_setA (M : mm_T) (a : Nat) (f : Nat → Int32) : mm_T := (va_up M.1 a f, M.2)
abbrev arrI (n : Nat) : sh_T := fun f _ _ => .inl (0, n, .inl f)
abbrev arrL (n : Nat) : sh_T := fun _ f _ => .inl (1, n, .inr (.inl f))
abbrev arrZ (n : Nat) : sh_T := fun f _ _ => .inl (2, n, .inl f)
abbrev arrG (n : Nat) : sh_T := fun _ _ f => .inl (3, n, .inr (.inr (.inr (.inr f))))
abbrev arrW (n : Nat) : sh_T := fun _ _ f => .inl (4, n, .inr (.inr (.inr (.inr f))))
abbrev gridS (c l sp re : Nat) : sh_T := fun f _ _ => .inr (5, [.ref c, .ref l, .ref sp, .ref re, .int (f 4), .int (f 5), .int (f 6), .int (f 7), .int (f 8)])
abbrev notesS (ri ti : Nat) : sh_T := fun f _ _ => .inr (1, [.ref ri, .ref ti, .int (f 2), .int (f 3), .int (f 4), .int (f 5)])
abbrev shelfS (no ls we : Nat) : sh_T := fun f _ _ => .inr (2, [.ref no, .ref ls, .ref we, .int (f 3)])
abbrev tableS (st dn le nu : Nat) : sh_T := fun f _ _ => .inr (3, [.ref st, .ref dn, .ref le, .ref nu, .int (f 4)])
abbrev searchS (no sf ta wo ma sc od ce lo sd mk se : Nat) : sh_T := fun f _ _ => .inr (4, [.ref no, .ref sf, .ref ta, .ref wo, .ref ma, .ref sc, .ref od, .ref ce, .ref lo, .ref sd, .ref mk, .ref se, .int (f 12), .int (f 13), .int (f 14), .int (f 15), .int (f 16)])
abbrev deskS (no sf gr ta fi so ke te : Nat) : sh_T := fun f _ _ => .inr (0, [.ref no, .ref sf, .ref gr, .ref ta, .ref fi, .ref so, .ref ke, .int (f 7), .int (f 8), .ref te, .int (f 10), .int (f 11), .int (f 12), .int (f 13)])
abbrev plainS (no wo : Nat) : sh_T := fun f _ _ => .inr (7, [.int (f 0), .ref no, .ref wo, .int (f 3)])
abbrev scoredS (no wo nu : Nat) : sh_T := fun f _ _ => .inr (8, [.int (f 0), .ref no, .ref wo, .int (f 3), .ref nu])
abbrev bannedS (no wo : Nat) : sh_T := fun f _ _ => .inr (9, [.int (f 0), .ref no, .ref wo, .int (f 3)])
abbrev patternS (no sf : Nat) : sh_T := fun f g _ => .inr (10, [.int (f 0), .ref no, .ref sf, .int (f 3), .int (f 4), .long (g 5), .long (g 6)])
abbrev joinedS (no sf : Nat) : sh_T := fun f _ _ => .inr (11, [.int (f 0), .ref no, .ref sf, .int (f 3), .int (f 4)])
def m_fd (x : va_E) (n : Nat) : Option Value := match x with
  | .inr (ci, fs) => bif sm_sub ci (n / 512) then fs[n / 4 % 128]? else none
  | _ => none
def m_pf (x : va_E) (n : Nat) (v : Value) : Option va_E := match x with
  | .inr (ci, fs) => bif sm_sub ci (n / 512) && (Nat.ble (n / 4 % 128 + 1) fs.length && sm_fok (n % 4) v) then some (.inr (ci, fs.set (n / 4 % 128) v)) else none
  | _ => none
theorem wm_get {sh : List sh_T} {M : mm_T} {a : Nat} {s : sh_T} (h : sh[a]? = some s) : (wm sh M)[a]? = some (s (M.1 a) (M.2.1 a) (M.2.2 a)) := by
  unfold wm
  rw [List.getElem?_mapIdx, h]
  rfl
theorem wm_setI {sh : List sh_T} {M : mm_T} {a i : Nat} {v : Int32} {s : sh_T} (h : sh[a]? = some s) : (wm sh M).set a (s (upd (M.1 a) i v) (M.2.1 a) (M.2.2 a)) = wm sh (m_setI M a i v) := by
  apply List.ext_getElem?
  intro j
  simp only [wm, List.getElem?_set, List.getElem?_mapIdx, List.length_mapIdx, m_setI]
  by_cases hj : a = j
  · subst hj
    obtain ⟨hl, hx⟩ := List.getElem?_eq_some_iff.mp h
    simp [hl, hx, va_up]
  · simp only [hj, if_false]
    cases sh[j]? with
    | none => rfl
    | some t => simp [va_up, Ne.symm hj]
theorem wm_setA {sh : List sh_T} {M : mm_T} {a : Nat} {f : Nat → Int32} {s : sh_T} (h : sh[a]? = some s) : (wm sh M).set a (s f (M.2.1 a) (M.2.2 a)) = wm sh (m_setA M a f) := by
  apply List.ext_getElem?
  intro j
  simp only [wm, List.getElem?_set, List.getElem?_mapIdx, List.length_mapIdx, m_setA]
  by_cases hj : a = j
  · subst hj
    obtain ⟨hl, hx⟩ := List.getElem?_eq_some_iff.mp h
    simp [hl, hx, va_up]
  · simp only [hj, if_false]
    cases sh[j]? with
    | none => rfl
    | some t => simp [va_up, Ne.symm hj]
theorem wm_setL {sh : List sh_T} {M : mm_T} {a i : Nat} {v : Int64} {s : sh_T} (h : sh[a]? = some s) : (wm sh M).set a (s (M.1 a) (vp_updL (M.2.1 a) i v) (M.2.2 a)) = wm sh (m_setL M a i v) := by
  apply List.ext_getElem?
  intro j
  simp only [wm, List.getElem?_set, List.getElem?_mapIdx, List.length_mapIdx, m_setL]
  by_cases hj : a = j
  · subst hj
    obtain ⟨hl, hx⟩ := List.getElem?_eq_some_iff.mp h
    simp [hl, hx, va_up]
  · simp only [hj, if_false]
    cases sh[j]? with
    | none => rfl
    | some t => simp [va_up, Ne.symm hj]
theorem wm_setR {sh : List sh_T} {M : mm_T} {a i : Nat} {v : Option Nat} {s : sh_T} (h : sh[a]? = some s) : (wm sh M).set a (s (M.1 a) (M.2.1 a) (va_up (M.2.2 a) i v)) = wm sh (m_setR M a i v) := by
  apply List.ext_getElem?
  intro j
  simp only [wm, List.getElem?_set, List.getElem?_mapIdx, List.length_mapIdx, m_setR]
  by_cases hj : a = j
  · subst hj
    obtain ⟨hl, hx⟩ := List.getElem?_eq_some_iff.mp h
    simp [hl, hx, va_up]
  · simp only [hj, if_false]
    cases sh[j]? with
    | none => rfl
    | some t => simp [va_up, Ne.symm hj]
section MR
variable {L : Nat} {xs : Nat → Int32} {d y cb : Nat} {is : List sm_I} {lv lv' : sm_L} {st st' : List Value} {sh : List sh_T} {M : mm_T} {Q : Option Value → sm_W → Prop} {a n : Nat} {s : sh_T}
theorem m_get {k : Nat} {v : Value} (hs : sh[a]? = some s) (hv : m_fd (s (M.1 a) (M.2.1 a) (M.2.2 a)) k = some v) (h : sm_X L xs d y cb is lv (v :: st) (wm sh M) Q) : sm_X L xs d y cb (.getfield k :: is) lv (.ref a :: st) (wm sh M) Q := by
  refine x_op ?_ h
  simp only [sm_op, sm_fd, wm_get hs]
  unfold m_fd at hv
  split at hv
  · rename_i h1; rw [h1]; dsimp only; rw [hv]
  · cases hv
theorem m_putI {k : Nat} {v : Int32} (hs : sh[a]? = some s) (hv : m_pf (s (M.1 a) (M.2.1 a) (M.2.2 a)) k (.int v) = some (s (upd (M.1 a) (k / 4 % 128) v) (M.2.1 a) (M.2.2 a))) (h : sm_X L xs d y cb is lv st (wm sh (m_setI M a (k / 4 % 128) v)) Q) : sm_X L xs d y cb (.putfield k :: is) lv (.int v :: .ref a :: st) (wm sh M) Q := by
  refine x_op ?_ h
  simp only [sm_op, sm_pf, wm_get hs]
  rw [← wm_setI hs]
  unfold m_pf at hv
  split at hv
  · rename_i ci fs h1
    rw [h1]
    dsimp only
    rw [cond_eq_ite] at hv ⊢
    split at hv
    · rename_i h2
      rw [if_pos h2, ← Option.some.inj hv]
    · cases hv
  · cases hv
theorem m_putL {k : Nat} {v : Int64} (hs : sh[a]? = some s) (hv : m_pf (s (M.1 a) (M.2.1 a) (M.2.2 a)) k (.long v) = some (s (M.1 a) (vp_updL (M.2.1 a) (k / 4 % 128) v) (M.2.2 a))) (h : sm_X L xs d y cb is lv st (wm sh (m_setL M a (k / 4 % 128) v)) Q) : sm_X L xs d y cb (.putfield k :: is) lv (.long v :: .ref a :: st) (wm sh M) Q := by
  refine x_op ?_ h
  simp only [sm_op, sm_pf, wm_get hs]
  rw [← wm_setL hs]
  unfold m_pf at hv
  split at hv
  · rename_i ci fs h1
    rw [h1]
    dsimp only
    rw [cond_eq_ite] at hv ⊢
    split at hv
    · rename_i h2
      rw [if_pos h2, ← Option.some.inj hv]
    · cases hv
  · cases hv
theorem m_iald {i : Int32} (hs : sh[a]? = some (arrI n)) (hi : vp_in i n) (h : sm_X L xs d y cb is lv (.int (M.1 a i.toNatClampNeg) :: st) (wm sh M) Q) : sm_X L xs d y cb (.iaload :: is) lv (.int i :: .ref a :: st) (wm sh M) Q := by
  refine x_op ?_ h
  simp only [sm_op, wm_get hs]
  exact if_neg hi
theorem m_bald {i : Int32} (hs : sh[a]? = some (arrZ n)) (hi : vp_in i n) (h : sm_X L xs d y cb is lv (.int (M.1 a i.toNatClampNeg) :: st) (wm sh M) Q) : sm_X L xs d y cb (.baload :: is) lv (.int i :: .ref a :: st) (wm sh M) Q := by
  refine x_op ?_ h
  simp only [sm_op, wm_get hs]
  exact if_neg hi
theorem m_lald {i : Int32} (hs : sh[a]? = some (arrL n)) (hi : vp_in i n) (h : sm_X L xs d y cb is lv (.long (M.2.1 a i.toNatClampNeg) :: st) (wm sh M) Q) : sm_X L xs d y cb (.laload :: is) lv (.int i :: .ref a :: st) (wm sh M) Q := by
  refine x_op ?_ h
  simp only [sm_op, wm_get hs]
  exact if_neg hi
theorem m_aaldG {i : Int32} {q : Option Nat} (hs : sh[a]? = some (arrG n)) (hi : vp_in i n) (hq : M.2.2 a i.toNatClampNeg = q) (h : sm_X L xs d y cb is lv (va_rf q :: st) (wm sh M) Q) : sm_X L xs d y cb (.aaload :: is) lv (.int i :: .ref a :: st) (wm sh M) Q := by
  subst hq
  refine x_op ?_ h
  simp only [sm_op, wm_get hs]
  exact if_neg hi
theorem m_aaldW {i : Int32} {q : Option Nat} (hs : sh[a]? = some (arrW n)) (hi : vp_in i n) (hq : M.2.2 a i.toNatClampNeg = q) (h : sm_X L xs d y cb is lv (va_rf q :: st) (wm sh M) Q) : sm_X L xs d y cb (.aaload :: is) lv (.int i :: .ref a :: st) (wm sh M) Q := by
  subst hq
  refine x_op ?_ h
  simp only [sm_op, wm_get hs]
  exact if_neg hi
theorem m_iast {i x : Int32} (hs : sh[a]? = some (arrI n)) (hi : vp_in i n) (h : sm_X L xs d y cb is lv st (wm sh (m_setI M a i.toNatClampNeg x)) Q) : sm_X L xs d y cb (.iastore :: is) lv (.int x :: .int i :: .ref a :: st) (wm sh M) Q := by
  refine x_op ?_ h
  simp only [sm_op, wm_get hs]
  rw [← wm_setI hs]
  exact if_neg hi
theorem m_bast {i x : Int32} (hs : sh[a]? = some (arrZ n)) (hi : vp_in i n) (hx : x = 0 ∨ x = 1) (h : sm_X L xs d y cb is lv st (wm sh (m_setI M a i.toNatClampNeg x)) Q) : sm_X L xs d y cb (.bastore :: is) lv (.int x :: .int i :: .ref a :: st) (wm sh M) Q := by
  refine x_op ?_ h
  simp only [sm_op, wm_get hs]
  rw [← wm_setI hs]
  exact if_neg (fun g => g.elim hi (fun g => g hx))
theorem m_last {i : Int32} {x : Int64} (hs : sh[a]? = some (arrL n)) (hi : vp_in i n) (h : sm_X L xs d y cb is lv st (wm sh (m_setL M a i.toNatClampNeg x)) Q) : sm_X L xs d y cb (.lastore :: is) lv (.long x :: .int i :: .ref a :: st) (wm sh M) Q := by
  refine x_op ?_ h
  simp only [sm_op, wm_get hs]
  rw [← wm_setL hs]
  exact if_neg hi
theorem m_invS {k : Nat} {Q1 : Option Value → sm_W → Prop} (hb : (Nat.ble (k % 16) st.length && Nat.ble (sm_words (st.drop (k % 16))) 8) = true) (he : sm_E L xs d (k / 256) (st.take (k % 16)).reverse (wm sh M) Q1) (h : ∀ r w1, Q1 r w1 → sm_X L xs d y cb is lv (r.toList ++ st.drop (k % 16)) w1 Q) : sm_X L xs d y cb (.invokestatic k :: is) lv st (wm sh M) Q := x_invS hb he h
/-- whom a call by the receiver's kind reaches -/
def m_vt (x : va_E) (k : Nat) : Option Nat := match x with
  | .inr (ci, _) => sm_vt (k / 256) (k / 16 % 16) ci
  | _ => none
theorem m_invV {k yy : Nat} {as : List Value} {Q1 : Option Value → sm_W → Prop} (hs : sh[a]? = some s) (ht : m_vt (s (M.1 a) (M.2.1 a) (M.2.2 a)) k = some yy) (hb : (Nat.ble (k % 16) st.length && Nat.ble (sm_words (st.drop (k % 16))) 8) = true) (hst : (st.take (k % 16)).reverse = .ref a :: as) (he : sm_E L xs d yy (.ref a :: as) (wm sh M) Q1) (h : ∀ r w1, Q1 r w1 → sm_X L xs d y cb is lv (r.toList ++ st.drop (k % 16)) w1 Q) : sm_X L xs d y cb (.invokevirtual k :: is) lv st (wm sh M) Q := by
  unfold m_vt at ht
  split at ht
  · rename_i ci fs h1
    exact x_invV hb hst (by rw [wm_get hs, h1]) ht he h
  · cases ht
end MR
def kL : List (Nat × Int32) := [(0, 0), (1, 1), (2, 2), (7, 7), (3, 3), (4, 4), (49, 49), (40, 40), (48, 48), (27, 27), (42, 42), (5, 5), (100, 100), (16, 16), (26, 26), (31, 31), (32, 32), (10, 10), (30, 30), (64, 64), (96, 96), (6, 6), (8, 8), (13, 13), (20, 20), (21, 21), (28, 28), (47, 47), (95, 95), (98, 98), (126, 126), (144, 144), (196, 196), (640, 640), (672, 672), (1000, 1000), (1680, 1680), (3840, 3840), (5000, 5000), (1000000, 1000000)]
def kM : List (Nat × Int32) := [(0, -1), (3, -4), (1, -2), (2, -3), (4, -5), (9, -10), (99, -100), (64, -65), (32, -33), (31, -32)]
def kG : List (Nat × Int32) → Nat → Option Int32
  | [], _ => none
  | (k, v) :: r, n => bif Nat.beq k n then some v else kG r n
def kC (n : Int) : Option Int32 := match n with
  | .ofNat k => kG kL k
  | .negSucc k => kG kM k
theorem kG_mem : ∀ {l : List (Nat × Int32)} {n : Nat} {v : Int32}, kG l n = some v → (n, v) ∈ l
  | [], _, _, h => by cases h
  | (k, u) :: r, n, v, h => by
    unfold kG at h
    cases hb : Nat.beq k n with
    | true =>
      rw [hb] at h
      have e := Nat.eq_of_beq_eq_true hb
      subst e
      cases h
      exact List.mem_cons_self
    | false =>
      rw [hb] at h
      exact List.mem_cons_of_mem _ (kG_mem h)
theorem kL_ok : kL.all (fun q => decide (Int32.ofInt (Int.ofNat q.1) = q.2)) = true := by decide +kernel
theorem kM_ok : kM.all (fun q => decide (Int32.ofInt (Int.negSucc q.1) = q.2)) = true := by decide +kernel
theorem kC_ok {n : Int} {v : Int32} (h : kC n = some v) : Int32.ofInt n = v := by
  unfold kC at h
  split at h
  · have h2 := List.all_eq_true.mp kL_ok _ (kG_mem h)
    rw [decide_eq_true_eq] at h2
    exact h2
  · have h2 := List.all_eq_true.mp kM_ok _ (kG_mem h)
    rw [decide_eq_true_eq] at h2
    exact h2
theorem x_kc {L : Nat} {xs : Nat → Int32} {d y cb : Nat} {is : List sm_I} {lv : sm_L} {st : List Value} {w : sm_W} {Q : Option Value → sm_W → Prop} {n : Int} {v : Int32} (hv : kC n = some v) (h : sm_X L xs d y cb is lv (.int v :: st) w Q) : sm_X L xs d y cb (.iconst n :: is) lv st w Q := by
  refine x_op ?_ h
  simp only [sm_op]
  rw [kC_ok hv]
/-- instructions that don't look at the world -/
def sm_pu (i : sm_I) : Bool := match i with
  | .getfield _ | .putfield _ | .iaload | .baload | .laload | .aaload | .iastore | .bastore | .lastore | .aastore | .arraylength | .new _ | .newarray _ | .anewarray _ | .checkcast _ | .instanceof _ | .idiv | .irem => false
  | .invokestatic _ | .invokespecial _ | .invokevirtual _ | .goto _ | .goto_w _ | .ifCond _ _ | .if_icmp _ _ | .ifnull _ | .ifnonnull _ | .tableswitch _ _ _ _ | .ireturn | .lreturn | .areturn | .return_ => false
  | _ => true
theorem x_opp {L : Nat} {xs : Nat → Int32} {d y cb : Nat} {is : List sm_I} {lv lv' : sm_L} {st st' : List Value} {w w' : sm_W} {Q : Option Value → sm_W → Prop} {i : sm_I} (hp : sm_pu i = true) (ho : sm_op L xs i lv st w = some (lv', st', w')) (h : sm_X L xs d y cb is lv' st' w' Q) : sm_X L xs d y cb (i :: is) lv st w Q := x_op ho h
/-! the same rules with any instruction at the head: what fits is found by computing (a rule that doesn't fit fails at once) -/
def kI (i : sm_I) : Option Int32 := match i with | .iconst n => kC n | _ => none
def goI (i : sm_I) : Option Nat := match i with | .goto t => some t.toNat | .goto_w t => some t.toNat | _ => none
def gfI (i : sm_I) : Option Nat := match i with | .getfield k => some k | _ => none
def inI (i : sm_I) : Option Nat := match i with | .iinc k (.ofNat 1) => some k | _ => none
section GEN
variable {L : Nat} {xs : Nat → Int32} {d y cb : Nat} {is : List sm_I} {lv : sm_L} {st st0 : List Value} {w : sm_W} {Q : Option Value → sm_W → Prop} {i : sm_I} {sh : List sh_T} {M : mm_T} {a : Nat} {s : sh_T}
theorem x_kcg {v : Int32} (hv : kI i = some v) (h : sm_X L xs d y cb is lv (.int v :: st) w Q) : sm_X L xs d y cb (i :: is) lv st w Q := by
  unfold kI at hv
  split at hv
  · exact x_kc hv h
  · cases hv
theorem x_go {t : Nat} (hv : goI i = some t) (h : sm_X L xs d y t (sm_code y t) lv st w Q) : sm_X L xs d y cb (i :: is) lv st w Q := by
  unfold goI at hv
  split at hv
  · cases hv
    exact x_goto h
  · cases hv
    exact x_fall h
  · cases hv
theorem m_getg {k : Nat} {v : Value} (hs : sh[a]? = some s) (hi : gfI i = some k) (hst : st0 = .ref a :: st) (hv : m_fd (s (M.1 a) (M.2.1 a) (M.2.2 a)) k = some v) (h : sm_X L xs d y cb is lv (v :: st) (wm sh M) Q) : sm_X L xs d y cb (i :: is) lv st0 (wm sh M) Q := by
  unfold gfI at hi
  split at hi
  · cases hi
    subst hst
    exact m_get hs hv h
  · cases hi
theorem x_incN {k j : Nat} (hg : sm_get lv k = some (.int (nI j))) (h : sm_X L xs d y cb is (sm_put lv k (.int (nI (j + 1)))) st w Q) : sm_X L xs d y cb (.iinc k 1 :: is) lv st w Q := by
  refine x_op ?_ h
  simp only [sm_op, hg]
  rw [show Int32.ofInt 1 = 1 from rfl, nI_1]
theorem x_incg {k j : Nat} (hi : inI i = some k) (hg : sm_get lv k = some (.int (nI j))) (h : sm_X L xs d y cb is (sm_put lv k (.int (nI (j + 1)))) st w Q) : sm_X L xs d y cb (i :: is) lv st w Q := by
  unfold inI at hi
  split at hi
  · cases hi
    exact x_incN hg h
  · cases hi
end GEN
