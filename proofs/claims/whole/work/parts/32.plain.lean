/-! the shelf's other methods; lists of words -/
section P1
variable {L : Nat} {xs : Nat → Int32} {d : Nat} {sh : List sh_T} {M : mm_T} {Q : Option Value → sm_W → Prop} {sf no ls we ri ti a wo : Nat} {s : sh_T}
def wgt (we : Nat → Int32) (k p q : Int32) : Int32 := (if k < 3 then 1 else 1 + we p.toNatClampNeg) + (if k = 4 then we q.toNatClampNeg else 0)
theorem c_weightOf {k p q : Int32} (hs : sSh sh sf no ls we ri ti) (hp : ¬ k < 3 → vp_in p 16) (hr : k = 4 → vp_in q 16) (hq : Q (some (.int (wgt (M.1 we) k p q))) (wm sh M)) : sm_E L xs (d + 1) 29 [.ref sf, .int k, .int p, .int q] (wm sh M) Q := by
  refine e_intro rfl rfl ?_
  unfold wgt at hq
  have tail : ∀ n : Int32, Q (some (.int (n + (if k = 4 then M.1 we q.toNatClampNeg else 0)))) (wm sh M) → sm_X L xs d 29 2 (sm_code 29 2) [(0, .ref sf), (1, .int k), (2, .int p), (3, .int q), (4, .int n)] [] (wm sh M) Q := by
    intro n hn
    repeat (first | refine x_kcg rfl ?_ | refine x_opp rfl rfl ?_ | refine x_go rfl ?_)
    refine x_icm br_ne (fun h1 => ?_) (fun h1 => ?_)
    · have h1 : k ≠ 4 := h1
      rw [if_neg h1, Int32.add_zero] at hn
      repeat (first | refine x_kcg rfl ?_ | refine x_opp rfl rfl ?_ | refine x_go rfl ?_)
      exact x_iret rfl hn
    · have h1 : k = 4 := Decidable.not_not.mp h1
      rw [if_pos h1] at hn
      repeat (first | refine x_kcg rfl ?_ | refine x_opp rfl rfl ?_ | refine x_go rfl ?_ | refine m_getg hs.1 rfl rfl rfl ?_)
      refine m_iald hs.2.2.1 (hr h1) ?_
      repeat (first | refine x_kcg rfl ?_ | refine x_opp rfl rfl ?_ | refine x_go rfl ?_)
      exact x_iret rfl hn
  repeat (first | refine x_kcg rfl ?_ | refine x_opp rfl rfl ?_ | refine x_go rfl ?_)
  refine x_icm br_lt (fun h1 => ?_) (fun h1 => ?_)
  · rw [if_pos h1] at hq
    refine x_lvs [(0, .ref sf), (1, .int k), (2, .int p), (3, .int q), (4, .int 1)] rfl rfl rfl ⟨rfl, rfl, rfl, rfl, rfl, trivial⟩ ?_
    exact tail 1 hq
  · rw [if_neg h1] at hq
    repeat (first | refine x_kcg rfl ?_ | refine x_opp rfl rfl ?_ | refine x_go rfl ?_ | refine m_getg hs.1 rfl rfl rfl ?_)
    refine m_iald hs.2.2.1 (hp h1) ?_
    repeat (first | refine x_kcg rfl ?_ | refine x_incg rfl rfl ?_ | refine x_opp rfl rfl ?_)
    refine x_fall ?_
    refine x_lvs [(0, .ref sf), (1, .int k), (2, .int p), (3, .int q), (4, .int (1 + M.1 we p.toNatClampNeg))] rfl rfl rfl ⟨rfl, rfl, rfl, rfl, rfl, trivial⟩ ?_
    exact tail _ hq
/-- lists that are there -/
def thr (r : Nat → Option Nat) : Nat → Bool := fun i => (r i).isSome
theorem c_those {n : Nat} (hs : sSh sh sf no ls we ri ti) (hn : M.1 sf 3 = nI n) (h16 : n ≤ 16) (hq : Q (some (.int (nI (cnt (thr (M.2.2 ls)) n)))) (wm sh M)) : sm_E L xs (d + 1) 145 [.ref sf] (wm sh M) Q := by
  refine e_intro rfl rfl ?_
  repeat (first | refine x_kcg rfl ?_ | refine x_incg rfl rfl ?_ | refine x_opp rfl rfl ?_)
  refine x_fall ?_
  refine x_lvs [(0, .ref sf), (1, .int (nI 0)), (2, .int (nI 0))] rfl rfl rfl ⟨rfl, rfl, rfl, trivial⟩ ?_
  refine loop_dn (P := fun i => sm_X L xs d 145 1 (sm_code 145 1) [(0, .ref sf), (1, .int (nI (cnt (thr (M.2.2 ls)) i))), (2, .int (nI i))] [] (wm sh M) Q) n ?_ ?_
  · repeat (first | refine x_kcg rfl ?_ | refine x_opp rfl rfl ?_ | refine x_go rfl ?_ | refine m_getg hs.1 rfl rfl rfl ?_)
    rw [hn]
    refine x_icm br_ge (fun _ => ?_) (fun h1 => absurd (nI_le (Nat.le_refl n) (by omega)) h1)
    repeat (first | refine x_kcg rfl ?_ | refine x_opp rfl rfl ?_ | refine x_go rfl ?_)
    exact x_iret rfl hq
  · intro i hi hP
    repeat (first | refine x_kcg rfl ?_ | refine x_opp rfl rfl ?_ | refine x_go rfl ?_ | refine m_getg hs.1 rfl rfl rfl ?_)
    rw [hn]
    refine x_icm br_ge (fun h1 => absurd h1 (nI_ge hi (by omega))) (fun _ => ?_)
    repeat (first | refine x_kcg rfl ?_ | refine x_opp rfl rfl ?_ | refine x_go rfl ?_ | refine m_getg hs.1 rfl rfl rfl ?_)
    refine m_aaldW hs.2.1 (vp_in_nI (n := i) (by omega) (by decide)) rfl ?_
    rw [nI_clamp (by omega)]
    cases hr : M.2.2 ls i with
    | none =>
      show sm_X L xs d _ _ _ _ [Value.null] _ _
      refine x_ifnullN ?_
      rw [cnt_f (show thr (M.2.2 ls) i = false by unfold thr; rw [hr]; rfl)] at hP
      repeat (first | refine x_kcg rfl ?_ | refine x_incg rfl rfl ?_ | refine x_opp rfl rfl ?_)
      refine x_goto ?_
      refine x_lvs [(0, .ref sf), (1, .int (nI (cnt (thr (M.2.2 ls)) i))), (2, .int (nI (i + 1)))] rfl rfl rfl ⟨rfl, rfl, rfl, trivial⟩ ?_
      exact hP
    | some q =>
      show sm_X L xs d _ _ _ _ [Value.ref q] _ _
      refine x_ifnullR ?_
      rw [cnt_t (show thr (M.2.2 ls) i = true by unfold thr; rw [hr]; rfl)] at hP
      repeat (first | refine x_kcg rfl ?_ | refine x_incg rfl rfl ?_ | refine x_opp rfl rfl ?_)
      refine x_fall ?_
      repeat (first | refine x_kcg rfl ?_ | refine x_incg rfl rfl ?_ | refine x_opp rfl rfl ?_)
      refine x_goto ?_
      refine x_lvs [(0, .ref sf), (1, .int (nI (cnt (thr (M.2.2 ls)) i + 1))), (2, .int (nI (i + 1)))] rfl rfl rfl ⟨rfl, rfl, rfl, trivial⟩ ?_
      exact hP
/-- a shape of the plain family: its notes, its words, its size -/
def pSh (s : sh_T) (no wo : Nat) : Prop := (∀ f g r, m_fd (s f g r) 3595 = some (.ref wo)) ∧ (∀ f g r, m_fd (s f g r) 3596 = some (.int (f 3))) ∧ (∀ f g r, m_fd (s f g r) 6151 = some (.ref no)) ∧ (∀ f g r v, m_pf (s f g r) 3596 (.int v) = some (s (upd f 3 v) g r)) ∧ (∀ f g r, m_vt (s f g r) 11634 = some 45)
theorem pSh_plain (no wo : Nat) : pSh (plainS no wo) no wo := ⟨fun _ _ _ => rfl, fun _ _ _ => rfl, fun _ _ _ => rfl, fun _ _ _ _ => rfl, fun _ _ _ => rfl⟩
theorem pSh_scored (no wo nu : Nat) : pSh (scoredS no wo nu) no wo := ⟨fun _ _ _ => rfl, fun _ _ _ => rfl, fun _ _ _ => rfl, fun _ _ _ _ => rfl, fun _ _ _ => rfl⟩
theorem pSh_banned (no wo : Nat) : pSh (bannedS no wo) no wo := ⟨fun _ _ _ => rfl, fun _ _ _ => rfl, fun _ _ _ => rfl, fun _ _ _ _ => rfl, fun _ _ _ => rfl⟩
/-- where a word first stands, from i on, k places -/
def pIx (f : Nat → Int64) (v : Int64) : Nat → Nat → Option Nat
  | _, 0 => none
  | i, k + 1 => if f i = v then some i else pIx f v (i + 1) k
def ixI (q : Option Nat) : Int32 := match q with | some i => nI i | none => -1
theorem l_placeOf {v : Int64} {n : Nat} (hs : sh[a]? = some s) (hp : pSh s no wo) (hw : sh[wo]? = some (arrL 40)) (hn : M.1 a 3 = nI n) (h40 : n ≤ 40) : ∀ k i, i + k = n → Q (some (.int (ixI (pIx (M.2.1 wo) v i k)))) (wm sh M) → sm_X L xs d 45 1 (sm_code 45 1) [(0, .ref a), (1, .long v), (3, .int (nI i))] [] (wm sh M) Q := by
  intro k
  induction k with
  | zero =>
    intro i hi hq
    have e : i = n := hi
    subst e
    repeat (first | refine x_kcg rfl ?_ | refine x_opp rfl rfl ?_ | refine x_go rfl ?_)
    refine m_getg hs rfl rfl (hp.2.1 _ _ _) ?_
    rw [hn]
    refine x_icm br_ge (fun _ => ?_) (fun h1 => absurd (nI_le (Nat.le_refl i) (by omega)) h1)
    repeat (first | refine x_kcg rfl ?_ | refine x_opp rfl rfl ?_ | refine x_go rfl ?_)
    exact x_iret rfl hq
  | succ k ih =>
    intro i hi hq
    repeat (first | refine x_kcg rfl ?_ | refine x_opp rfl rfl ?_ | refine x_go rfl ?_)
    refine m_getg hs rfl rfl (hp.2.1 _ _ _) ?_
    rw [hn]
    refine x_icm br_ge (fun h1 => absurd h1 (nI_ge (by omega) (by omega))) (fun _ => ?_)
    repeat (first | refine x_kcg rfl ?_ | refine x_opp rfl rfl ?_ | refine x_go rfl ?_)
    refine m_getg hs rfl rfl (hp.1 _ _ _) ?_
    repeat (first | refine x_kcg rfl ?_ | refine x_opp rfl rfl ?_ | refine x_go rfl ?_)
    refine m_lald hw (vp_in_nI (by omega) (by decide)) ?_
    rw [nI_clamp (by omega)]
    repeat (first | refine x_kcg rfl ?_ | refine x_opp rfl rfl ?_ | refine x_go rfl ?_)
    unfold pIx at hq
    refine x_ifc br_lne (fun h1 => ?_) (fun h1 => ?_)
    · rw [if_neg h1] at hq
      repeat (first | refine x_kcg rfl ?_ | refine x_incg rfl rfl ?_ | refine x_opp rfl rfl ?_)
      refine x_goto ?_
      refine x_lvs [(0, .ref a), (1, .long v), (3, .int (nI (i + 1)))] rfl rfl rfl ⟨rfl, rfl, rfl, trivial⟩ ?_
      exact ih (i + 1) (by omega) hq
    · rw [if_pos (Decidable.not_not.mp h1)] at hq
      repeat (first | refine x_kcg rfl ?_ | refine x_opp rfl rfl ?_ | refine x_go rfl ?_)
      exact x_iret rfl hq
theorem c_placeOf {v : Int64} {n : Nat} (hs : sh[a]? = some s) (hp : pSh s no wo) (hw : sh[wo]? = some (arrL 40)) (hn : M.1 a 3 = nI n) (h40 : n ≤ 40) (hq : Q (some (.int (ixI (pIx (M.2.1 wo) v 0 n)))) (wm sh M)) : sm_E L xs (d + 1) 45 [.ref a, .long v] (wm sh M) Q := by
  refine e_intro rfl rfl ?_
  repeat (first | refine x_kcg rfl ?_ | refine x_incg rfl rfl ?_ | refine x_opp rfl rfl ?_)
  refine x_fall ?_
  refine x_lvs [(0, .ref a), (1, .long v), (3, .int (nI 0))] rfl rfl rfl ⟨rfl, rfl, rfl, trivial⟩ ?_
  exact l_placeOf hs hp hw hn h40 n 0 (Nat.zero_add n) hq
theorem pIx_lt {f : Nat → Int64} {v : Int64} : ∀ {k i j}, pIx f v i k = some j → i ≤ j ∧ j < i + k
  | 0, _, _, h => by cases h
  | k + 1, i, j, h => by
    unfold pIx at h
    split at h
    · cases h
      omega
    · have := pIx_lt h
      omega
theorem ixI_neg {q : Option Nat} (h : ixI q < 0) (hb : ∀ i, q = some i → i < 40) : q = none := by
  cases q with
  | none => rfl
  | some i =>
    have hi := hb i rfl
    exact absurd h (nI_pos (by omega))
/-- a word comes into a list of the plain family: the memory then; (0: it is full) -/
def pTake (M : mm_T) (a wo n : Nat) (v : Int64) : mm_T × Int32 := match pIx (M.2.1 wo) v 0 n with
  | some _ => (M, 1)
  | none => if n = 40 then (M, 0) else (m_setI (m_setL M wo n v) a 3 (nI (n + 1)), 1)
theorem c_ptake {v : Int64} {e : Int32} {n : Nat} (hs : sh[a]? = some s) (hp : pSh s no wo) (hw : sh[wo]? = some (arrL 40)) (hn : M.1 a 3 = nI n) (h40 : n ≤ 40) (hq : Q (some (.int (pTake M a wo n v).2)) (wm sh (pTake M a wo n v).1)) : sm_E L xs (d + 2) 46 [.ref a, .long v, .int e] (wm sh M) Q := by
  refine e_intro rfl rfl ?_
  have hb : ∀ i, pIx (M.2.1 wo) v 0 n = some i → i < 40 := fun i h => by
    have := pIx_lt h
    omega
  repeat (first | refine x_kcg rfl ?_ | refine x_opp rfl rfl ?_ | refine x_go rfl ?_)
  refine m_callV hs (hp.2.2.2.2 _ _ _) rfl rfl (c_placeOf hs hp hw hn h40 ?_)
  unfold pTake at hq
  refine x_ifc br_lt (fun h1 => ?_) (fun h1 => ?_)
  · rw [ixI_neg h1 hb] at hq
    dsimp only at hq
    repeat (first | refine x_kcg rfl ?_ | refine x_opp rfl rfl ?_ | refine x_go rfl ?_)
    refine m_getg hs rfl rfl (hp.2.1 _ _ _) ?_
    rw [hn]
    repeat (first | refine x_kcg rfl ?_ | refine x_opp rfl rfl ?_ | refine x_go rfl ?_)
    refine x_icm br_ne (fun h2 => ?_) (fun h2 => ?_)
    · have h3 : n ≠ 40 := fun g => h2 (by rw [g]; rfl)
      rw [if_neg h3] at hq
      repeat (first | refine x_kcg rfl ?_ | refine x_opp rfl rfl ?_ | refine x_go rfl ?_)
      refine m_getg hs rfl rfl (hp.1 _ _ _) ?_
      repeat (first | refine x_kcg rfl ?_ | refine x_opp rfl rfl ?_ | refine x_go rfl ?_)
      refine m_getg hs rfl rfl (hp.2.1 _ _ _) ?_
      rw [hn]
      repeat (first | refine x_kcg rfl ?_ | refine x_opp rfl rfl ?_ | refine x_go rfl ?_)
      refine m_last hw (vp_in_nI (by omega) (by decide)) ?_
      rw [nI_clamp (by omega)]
      repeat (first | refine x_kcg rfl ?_ | refine x_opp rfl rfl ?_ | refine x_go rfl ?_)
      refine m_getg hs rfl rfl (hp.2.1 _ _ _) ?_
      rw [show (m_setL M wo n v).1 a 3 = nI n from hn]
      repeat (first | refine x_kcg rfl ?_ | refine x_opp rfl rfl ?_ | refine x_go rfl ?_)
      refine m_putI hs (hp.2.2.2.1 _ _ _ _) ?_
      repeat (first | refine x_kcg rfl ?_ | refine x_opp rfl rfl ?_ | refine x_go rfl ?_)
      refine x_zret (Or.inr rfl) ?_
      rw [nI_1]
      exact hq
    · have h3 : n = 40 := by
        have h4 : nI n = 40 := Decidable.not_not.mp h2
        exact (nI_eq (a := n) (b := 40) (by omega) (by decide)).mp h4
      rw [if_pos h3] at hq
      repeat (first | refine x_kcg rfl ?_ | refine x_opp rfl rfl ?_ | refine x_go rfl ?_)
      exact x_zret (Or.inl rfl) hq
  · cases hx : pIx (M.2.1 wo) v 0 n with
    | none =>
      rw [hx] at h1
      exact absurd (show ixI none < 0 from by decide) h1
    | some i =>
      rw [hx] at hq
      dsimp only at hq
      repeat (first | refine x_kcg rfl ?_ | refine x_opp rfl rfl ?_ | refine x_go rfl ?_)
      exact x_zret (Or.inr rfl) hq
end P1
