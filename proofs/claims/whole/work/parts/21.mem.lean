/-! shapes and memory: what a world holds, apart from what its cells are -/
abbrev sh_T : Type := (Nat → Int32) → (Nat → Int64) → (Nat → Option Nat) → va_E
abbrev mm_T : Type := (Nat → Nat → Int32) × (Nat → Nat → Int64) × (Nat → Nat → Option Nat)
def wm (sh : List sh_T) (M : mm_T) : sm_W := sh.mapIdx (fun a s => s (M.1 a) (M.2.1 a) (M.2.2 a))
def m_setI (M : mm_T) (a i : Nat) (v : Int32) : mm_T := (va_up M.1 a (upd (M.1 a) i v), M.2)
def m_setL (M : mm_T) (a i : Nat) (v : Int64) : mm_T := (M.1, va_up M.2.1 a (vp_updL (M.2.1 a) i v), M.2.2)
def m_setR (M : mm_T) (a i : Nat) (v : Option Nat) : mm_T := (M.1, M.2.1, va_up M.2.2 a (va_up (M.2.2 a) i v))
def m_setA (M : mm_T) (a : Nat) (f : Nat → Int32) : mm_T := (va_up M.1 a f, M.2)
abbrev arrI (n : Nat) : sh_T := fun f _ _ => .inl (0, n, .inl f)
abbrev arrL (n : Nat) : sh_T := fun _ f _ => .inl (1, n, .inr (.inl f))
abbrev arrZ (n : Nat) : sh_T := fun f _ _ => .inl (2, n, .inl f)
abbrev arrG (n : Nat) : sh_T := fun _ _ f => .inl (3, n, .inr (.inr (.inr (.inr f))))
abbrev arrW (n : Nat) : sh_T := fun _ _ f => .inl (4, n, .inr (.inr (.inr (.inr f))))
abbrev gridS (c l sp re : Nat) : sh_T := fun f _ _ => .inr (5, [.ref c, .ref l, .ref sp, .ref re, .int (f 4), .int (f 5), .int (f 6), .int (f 7), .int (f 8)])
abbrev notesS (ri ti : Nat) : sh_T := fun f _ _ => .inr (1, [.ref ri, .ref ti, .int (f 2), .int (f 3), .int (f 4), .int (f 5)])
abbrev shelfS (no ls we : Nat) : sh_T := fun f _ _ => .inr (2, [.ref no, .ref ls, .ref we, .int (f 3)])
abbrev tableS (st dn le nu : Nat) : sh_T := fun f _ _ => .inr (3, [.ref st, .ref dn, .ref le, .ref nu, .int (f 4)])
abbrev searchS (no sf ta wo ma sc od ce lo sd mk se : Nat) : sh_T := fun f _ _ => .inr (4, [.ref no, .ref sf, .ref ta, .ref wo, .ref ma, .ref sc, .ref od, .ref ce, .ref lo, .ref sd, .ref mk, .ref se, .int (f 12), .int (f 13), .int (f 14), .int (f 15), .int (f 16)])
abbrev deskS (no sf gr ta fi so ke te : Nat) : sh_T := fun f _ _ => .inr (0, [.ref no, .ref sf, .ref gr, .ref ta, .ref fi, .ref so, .ref ke, .int (f 7), .int (f 8), .ref te, .int (f 10), .int (f 11), .int (f 12), .int (f 13)])
abbrev plainS (no wo : Nat) : sh_T := fun f _ _ => .inr (7, [.int (f 0), .ref no, .ref wo, .int (f 3)])
abbrev scoredS (no wo nu : Nat) : sh_T := fun f _ _ => .inr (8, [.int (f 0), .ref no, .ref wo, .int (f 3), .ref nu])
abbrev bannedS (no wo : Nat) : sh_T := fun f _ _ => .inr (9, [.int (f 0), .ref no, .ref wo, .int (f 3)])
abbrev patternS (no sf : Nat) : sh_T := fun f g _ => .inr (10, [.int (f 0), .ref no, .ref sf, .int (f 3), .int (f 4), .long (g 5), .long (g 6)])
abbrev joinedS (no sf : Nat) : sh_T := fun f _ _ => .inr (11, [.int (f 0), .ref no, .ref sf, .int (f 3), .int (f 4)])
def m_fd (x : va_E) (n : Nat) : Option Value := match x with
  | .inr (ci, fs) => bif sm_sub ci (n / 512) then fs[n / 4 % 128]? else none
  | _ => none
def m_pf (x : va_E) (n : Nat) (v : Value) : Option va_E := match x with
  | .inr (ci, fs) => bif sm_sub ci (n / 512) && (Nat.ble (n / 4 % 128 + 1) fs.length && sm_fok (n % 4) v) then some (.inr (ci, fs.set (n / 4 % 128) v)) else none
  | _ => none
theorem wm_get {sh : List sh_T} {M : mm_T} {a : Nat} {s : sh_T} (h : sh[a]? = some s) : (wm sh M)[a]? = some (s (M.1 a) (M.2.1 a) (M.2.2 a)) := by
  unfold wm
  rw [List.getElem?_mapIdx, h]
  rfl
theorem wm_setI {sh : List sh_T} {M : mm_T} {a i : Nat} {v : Int32} {s : sh_T} (h : sh[a]? = some s) : (wm sh M).set a (s (upd (M.1 a) i v) (M.2.1 a) (M.2.2 a)) = wm sh (m_setI M a i v) := by
  apply List.ext_getElem?
  intro j
  simp only [wm, List.getElem?_set, List.getElem?_mapIdx, List.length_mapIdx, m_setI]
  by_cases hj : a = j
  · subst hj
    obtain ⟨hl, hx⟩ := List.getElem?_eq_some_iff.mp h
    simp [hl, hx, va_up]
  · simp only [hj, if_false]
    cases sh[j]? with
    | none => rfl
    | some t => simp [va_up, Ne.symm hj]
theorem wm_setA {sh : List sh_T} {M : mm_T} {a : Nat} {f : Nat → Int32} {s : sh_T} (h : sh[a]? = some s) : (wm sh M).set a (s f (M.2.1 a) (M.2.2 a)) = wm sh (m_setA M a f) := by
  apply List.ext_getElem?
  intro j
  simp only [wm, List.getElem?_set, List.getElem?_mapIdx, List.length_mapIdx, m_setA]
  by_cases hj : a = j
  · subst hj
    obtain ⟨hl, hx⟩ := List.getElem?_eq_some_iff.mp h
    simp [hl, hx, va_up]
  · simp only [hj, if_false]
    cases sh[j]? with
    | none => rfl
    | some t => simp [va_up, Ne.symm hj]
theorem wm_setL {sh : List sh_T} {M : mm_T} {a i : Nat} {v : Int64} {s : sh_T} (h : sh[a]? = some s) : (wm sh M).set a (s (M.1 a) (vp_updL (M.2.1 a) i v) (M.2.2 a)) = wm sh (m_setL M a i v) := by
  apply List.ext_getElem?
  intro j
  simp only [wm, List.getElem?_set, List.getElem?_mapIdx, List.length_mapIdx, m_setL]
  by_cases hj : a = j
  · subst hj
    obtain ⟨hl, hx⟩ := List.getElem?_eq_some_iff.mp h
    simp [hl, hx, va_up]
  · simp only [hj, if_false]
    cases sh[j]? with
    | none => rfl
    | some t => simp [va_up, Ne.symm hj]
theorem wm_setR {sh : List sh_T} {M : mm_T} {a i : Nat} {v : Option Nat} {s : sh_T} (h : sh[a]? = some s) : (wm sh M).set a (s (M.1 a) (M.2.1 a) (va_up (M.2.2 a) i v)) = wm sh (m_setR M a i v) := by
  apply List.ext_getElem?
  intro j
  simp only [wm, List.getElem?_set, List.getElem?_mapIdx, List.length_mapIdx, m_setR]
  by_cases hj : a = j
  · subst hj
    obtain ⟨hl, hx⟩ := List.getElem?_eq_some_iff.mp h
    simp [hl, hx, va_up]
  · simp only [hj, if_false]
    cases sh[j]? with
    | none => rfl
    | some t => simp [va_up, Ne.symm hj]
section MR
variable {L : Nat} {xs : Nat → Int32} {d y cb : Nat} {is : List sm_I} {lv lv' : sm_L} {st st' : List Value} {sh : List sh_T} {M : mm_T} {Q : Option Value → sm_W → Prop} {a n : Nat} {s : sh_T}
theorem m_get {k : Nat} {v : Value} (hs : sh[a]? = some s) (hv : m_fd (s (M.1 a) (M.2.1 a) (M.2.2 a)) k = some v) (h : sm_X L xs d y cb is lv (v :: st) (wm sh M) Q) : sm_X L xs d y cb (.getfield k :: is) lv (.ref a :: st) (wm sh M) Q := by
  refine x_op ?_ h
  simp only [sm_op, sm_fd, wm_get hs]
  unfold m_fd at hv
  split at hv
  · rename_i h1; rw [h1]; dsimp only; rw [hv]
  · cases hv
theorem m_putI {k : Nat} {v : Int32} (hs : sh[a]? = some s) (hv : m_pf (s (M.1 a) (M.2.1 a) (M.2.2 a)) k (.int v) = some (s (upd (M.1 a) (k / 4 % 128) v) (M.2.1 a) (M.2.2 a))) (h : sm_X L xs d y cb is lv st (wm sh (m_setI M a (k / 4 % 128) v)) Q) : sm_X L xs d y cb (.putfield k :: is) lv (.int v :: .ref a :: st) (wm sh M) Q := by
  refine x_op ?_ h
  simp only [sm_op, sm_pf, wm_get hs]
  rw [← wm_setI hs]
  unfold m_pf at hv
  split at hv
  · rename_i ci fs h1
    rw [h1]
    dsimp only
    rw [cond_eq_ite] at hv ⊢
    split at hv
    · rename_i h2
      rw [if_pos h2, ← Option.some.inj hv]
    · cases hv
  · cases hv
theorem m_putL {k : Nat} {v : Int64} (hs : sh[a]? = some s) (hv : m_pf (s (M.1 a) (M.2.1 a) (M.2.2 a)) k (.long v) = some (s (M.1 a) (vp_updL (M.2.1 a) (k / 4 % 128) v) (M.2.2 a))) (h : sm_X L xs d y cb is lv st (wm sh (m_setL M a (k / 4 % 128) v)) Q) : sm_X L xs d y cb (.putfield k :: is) lv (.long v :: .ref a :: st) (wm sh M) Q := by
  refine x_op ?_ h
  simp only [sm_op, sm_pf, wm_get hs]
  rw [← wm_setL hs]
  unfold m_pf at hv
  split at hv
  · rename_i ci fs h1
    rw [h1]
    dsimp only
    rw [cond_eq_ite] at hv ⊢
    split at hv
    · rename_i h2
      rw [if_pos h2, ← Option.some.inj hv]
    · cases hv
  · cases hv
theorem m_iald {i : Int32} (hs : sh[a]? = some (arrI n)) (hi : vp_in i n) (h : sm_X L xs d y cb is lv (.int (M.1 a i.toNatClampNeg) :: st) (wm sh M) Q) : sm_X L xs d y cb (.iaload :: is) lv (.int i :: .ref a :: st) (wm sh M) Q := by
  refine x_op ?_ h
  simp only [sm_op, wm_get hs]
  exact if_neg hi
theorem m_bald {i : Int32} (hs : sh[a]? = some (arrZ n)) (hi : vp_in i n) (h : sm_X L xs d y cb is lv (.int (M.1 a i.toNatClampNeg) :: st) (wm sh M) Q) : sm_X L xs d y cb (.baload :: is) lv (.int i :: .ref a :: st) (wm sh M) Q := by
  refine x_op ?_ h
  simp only [sm_op, wm_get hs]
  exact if_neg hi
theorem m_lald {i : Int32} (hs : sh[a]? = some (arrL n)) (hi : vp_in i n) (h : sm_X L xs d y cb is lv (.long (M.2.1 a i.toNatClampNeg) :: st) (wm sh M) Q) : sm_X L xs d y cb (.laload :: is) lv (.int i :: .ref a :: st) (wm sh M) Q := by
  refine x_op ?_ h
  simp only [sm_op, wm_get hs]
  exact if_neg hi
theorem m_aaldG {i : Int32} {q : Option Nat} (hs : sh[a]? = some (arrG n)) (hi : vp_in i n) (hq : M.2.2 a i.toNatClampNeg = q) (h : sm_X L xs d y cb is lv (va_rf q :: st) (wm sh M) Q) : sm_X L xs d y cb (.aaload :: is) lv (.int i :: .ref a :: st) (wm sh M) Q := by
  subst hq
  refine x_op ?_ h
  simp only [sm_op, wm_get hs]
  exact if_neg hi
theorem m_aaldW {i : Int32} {q : Option Nat} (hs : sh[a]? = some (arrW n)) (hi : vp_in i n) (hq : M.2.2 a i.toNatClampNeg = q) (h : sm_X L xs d y cb is lv (va_rf q :: st) (wm sh M) Q) : sm_X L xs d y cb (.aaload :: is) lv (.int i :: .ref a :: st) (wm sh M) Q := by
  subst hq
  refine x_op ?_ h
  simp only [sm_op, wm_get hs]
  exact if_neg hi
theorem m_iast {i x : Int32} (hs : sh[a]? = some (arrI n)) (hi : vp_in i n) (h : sm_X L xs d y cb is lv st (wm sh (m_setI M a i.toNatClampNeg x)) Q) : sm_X L xs d y cb (.iastore :: is) lv (.int x :: .int i :: .ref a :: st) (wm sh M) Q := by
  refine x_op ?_ h
  simp only [sm_op, wm_get hs]
  rw [← wm_setI hs]
  exact if_neg hi
theorem m_bast {i x : Int32} (hs : sh[a]? = some (arrZ n)) (hi : vp_in i n) (hx : x = 0 ∨ x = 1) (h : sm_X L xs d y cb is lv st (wm sh (m_setI M a i.toNatClampNeg x)) Q) : sm_X L xs d y cb (.bastore :: is) lv (.int x :: .int i :: .ref a :: st) (wm sh M) Q := by
  refine x_op ?_ h
  simp only [sm_op, wm_get hs]
  rw [← wm_setI hs]
  exact if_neg (fun g => g.elim hi (fun g => g hx))
theorem m_last {i : Int32} {x : Int64} (hs : sh[a]? = some (arrL n)) (hi : vp_in i n) (h : sm_X L xs d y cb is lv st (wm sh (m_setL M a i.toNatClampNeg x)) Q) : sm_X L xs d y cb (.lastore :: is) lv (.long x :: .int i :: .ref a :: st) (wm sh M) Q := by
  refine x_op ?_ h
  simp only [sm_op, wm_get hs]
  rw [← wm_setL hs]
  exact if_neg hi
theorem m_invS {k : Nat} {Q1 : Option Value → sm_W → Prop} (hb : (Nat.ble (k % 16) st.length && Nat.ble (sm_words (st.drop (k % 16))) 8) = true) (he : sm_E L xs d (k / 256) (st.take (k % 16)).reverse (wm sh M) Q1) (h : ∀ r w1, Q1 r w1 → sm_X L xs d y cb is lv (r.toList ++ st.drop (k % 16)) w1 Q) : sm_X L xs d y cb (.invokestatic k :: is) lv st (wm sh M) Q := x_invS hb he h
/-- whom a call by the receiver's kind reaches -/
def m_vt (x : va_E) (k : Nat) : Option Nat := match x with
  | .inr (ci, _) => sm_vt (k / 256) (k / 16 % 16) ci
  | _ => none
theorem m_invV {k yy : Nat} {as : List Value} {Q1 : Option Value → sm_W → Prop} (hs : sh[a]? = some s) (ht : m_vt (s (M.1 a) (M.2.1 a) (M.2.2 a)) k = some yy) (hb : (Nat.ble (k % 16) st.length && Nat.ble (sm_words (st.drop (k % 16))) 8) = true) (hst : (st.take (k % 16)).reverse = .ref a :: as) (he : sm_E L xs d yy (.ref a :: as) (wm sh M) Q1) (h : ∀ r w1, Q1 r w1 → sm_X L xs d y cb is lv (r.toList ++ st.drop (k % 16)) w1 Q) : sm_X L xs d y cb (.invokevirtual k :: is) lv st (wm sh M) Q := by
  unfold m_vt at ht
  split at ht
  · rename_i ci fs h1
    exact x_invV hb hst (by rw [wm_get hs, h1]) ht he h
  · cases ht
end MR
section KON
variable {L : Nat} {xs : Nat → Int32} {d y cb : Nat} {is : List sm_I} {lv : sm_L} {st : List Value} {w : sm_W} {Q : Option Value → sm_W → Prop}
theorem x_k0 (h : sm_X L xs d y cb is lv (.int (0) :: st) w Q) : sm_X L xs d y cb (.iconst (0) :: is) lv st w Q := x_op rfl h
theorem x_k1 (h : sm_X L xs d y cb is lv (.int (1) :: st) w Q) : sm_X L xs d y cb (.iconst (1) :: is) lv st w Q := x_op rfl h
theorem x_k2 (h : sm_X L xs d y cb is lv (.int (2) :: st) w Q) : sm_X L xs d y cb (.iconst (2) :: is) lv st w Q := x_op rfl h
theorem x_k3 (h : sm_X L xs d y cb is lv (.int (3) :: st) w Q) : sm_X L xs d y cb (.iconst (3) :: is) lv st w Q := x_op rfl h
theorem x_k4 (h : sm_X L xs d y cb is lv (.int (4) :: st) w Q) : sm_X L xs d y cb (.iconst (4) :: is) lv st w Q := x_op rfl h
theorem x_k5 (h : sm_X L xs d y cb is lv (.int (5) :: st) w Q) : sm_X L xs d y cb (.iconst (5) :: is) lv st w Q := x_op rfl h
theorem x_km1 (h : sm_X L xs d y cb is lv (.int (-1) :: st) w Q) : sm_X L xs d y cb (.iconst (-1) :: is) lv st w Q := x_op rfl h
theorem x_km2 (h : sm_X L xs d y cb is lv (.int (-2) :: st) w Q) : sm_X L xs d y cb (.iconst (-2) :: is) lv st w Q := x_op rfl h
theorem x_km3 (h : sm_X L xs d y cb is lv (.int (-3) :: st) w Q) : sm_X L xs d y cb (.iconst (-3) :: is) lv st w Q := x_op rfl h
theorem x_km4 (h : sm_X L xs d y cb is lv (.int (-4) :: st) w Q) : sm_X L xs d y cb (.iconst (-4) :: is) lv st w Q := x_op rfl h
theorem x_km5 (h : sm_X L xs d y cb is lv (.int (-5) :: st) w Q) : sm_X L xs d y cb (.iconst (-5) :: is) lv st w Q := x_op rfl h
theorem x_k6 (h : sm_X L xs d y cb is lv (.int (6) :: st) w Q) : sm_X L xs d y cb (.iconst (6) :: is) lv st w Q := x_op rfl h
theorem x_k7 (h : sm_X L xs d y cb is lv (.int (7) :: st) w Q) : sm_X L xs d y cb (.iconst (7) :: is) lv st w Q := x_op rfl h
theorem x_k10 (h : sm_X L xs d y cb is lv (.int (10) :: st) w Q) : sm_X L xs d y cb (.iconst (10) :: is) lv st w Q := x_op rfl h
theorem x_k26 (h : sm_X L xs d y cb is lv (.int (26) :: st) w Q) : sm_X L xs d y cb (.iconst (26) :: is) lv st w Q := x_op rfl h
theorem x_k27 (h : sm_X L xs d y cb is lv (.int (27) :: st) w Q) : sm_X L xs d y cb (.iconst (27) :: is) lv st w Q := x_op rfl h
theorem x_k30 (h : sm_X L xs d y cb is lv (.int (30) :: st) w Q) : sm_X L xs d y cb (.iconst (30) :: is) lv st w Q := x_op rfl h
theorem x_k31 (h : sm_X L xs d y cb is lv (.int (31) :: st) w Q) : sm_X L xs d y cb (.iconst (31) :: is) lv st w Q := x_op rfl h
theorem x_k32 (h : sm_X L xs d y cb is lv (.int (32) :: st) w Q) : sm_X L xs d y cb (.iconst (32) :: is) lv st w Q := x_op rfl h
theorem x_k40 (h : sm_X L xs d y cb is lv (.int (40) :: st) w Q) : sm_X L xs d y cb (.iconst (40) :: is) lv st w Q := x_op rfl h
theorem x_k42 (h : sm_X L xs d y cb is lv (.int (42) :: st) w Q) : sm_X L xs d y cb (.iconst (42) :: is) lv st w Q := x_op rfl h
theorem x_k48 (h : sm_X L xs d y cb is lv (.int (48) :: st) w Q) : sm_X L xs d y cb (.iconst (48) :: is) lv st w Q := x_op rfl h
theorem x_k49 (h : sm_X L xs d y cb is lv (.int (49) :: st) w Q) : sm_X L xs d y cb (.iconst (49) :: is) lv st w Q := x_op rfl h
theorem x_k64 (h : sm_X L xs d y cb is lv (.int (64) :: st) w Q) : sm_X L xs d y cb (.iconst (64) :: is) lv st w Q := x_op rfl h
theorem x_k100 (h : sm_X L xs d y cb is lv (.int (100) :: st) w Q) : sm_X L xs d y cb (.iconst (100) :: is) lv st w Q := x_op rfl h
end KON
