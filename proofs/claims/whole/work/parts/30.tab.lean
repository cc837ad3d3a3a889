/-! the table of entries: its small methods -/
def tSh (sh : List sh_T) (t sa dn le nu : Nat) : Prop := sh[t]? = some (tableS sa dn le nu) ∧ sh[sa]? = some (arrI 42) ∧ sh[dn]? = some (arrZ 42) ∧ sh[le]? = some (arrI 42) ∧ sh[nu]? = some (arrI 42) ∧ sa ≠ t ∧ dn ≠ t ∧ le ≠ t ∧ nu ≠ t ∧ dn ≠ sa ∧ le ≠ sa ∧ nu ≠ sa ∧ le ≠ dn ∧ nu ≠ dn ∧ nu ≠ le
/-- how far a run goes: from m on while p, k places more at most -/
def runF (p : Nat → Bool) : Nat → Nat → Nat
  | m, 0 => m
  | m, k + 1 => if p m = true then runF p (m + 1) k else m
theorem sub1 {a b : Nat} (h : 1 ≤ b) : nI a + nI b - 1 = nI (a + b - 1) := by
  rw [nI_add, show (1 : Int32) = nI 1 from rfl, pk_sub (by omega)]
section T2
variable {L : Nat} {xs : Nat → Int32} {d : Nat} {sh : List sh_T} {M : mm_T} {Q : Option Value → sm_W → Prop} {g c l sp re t sa dn le nu : Nat}
theorem c_has {k : Int32} (ht : tSh sh t sa dn le nu) (hq : Q (some (.int (zz (gRow (M.1 t 4) k)))) (wm sh M)) : sm_E L xs (d + 1) 82 [.ref t, .int k] (wm sh M) Q := by
  refine e_intro rfl rfl ?_
  repeat (first | refine x_kcg rfl ?_ | refine x_opp rfl rfl ?_ | refine x_go rfl ?_ | refine m_getg ht.1 rfl rfl rfl ?_)
  refine x_ifc br_lt (fun h1 => ?_) (fun h1 => ?_)
  · repeat (first | refine x_kcg rfl ?_ | refine x_opp rfl rfl ?_ | refine x_go rfl ?_ | refine m_getg ht.1 rfl rfl rfl ?_)
    refine x_zret (Or.inl rfl) ?_
    simp only [gRow, h1, if_true, zz_f] at hq
    exact hq
  · repeat (first | refine x_kcg rfl ?_ | refine x_opp rfl rfl ?_ | refine x_go rfl ?_ | refine m_getg ht.1 rfl rfl rfl ?_)
    refine x_icm br_ge (fun h2 => ?_) (fun h2 => ?_)
    · repeat (first | refine x_kcg rfl ?_ | refine x_opp rfl rfl ?_ | refine x_go rfl ?_)
      refine x_zret (Or.inl rfl) ?_
      simp only [gRow, h1, h2, if_true, if_false, zz_f] at hq
      exact hq
    · repeat (first | refine x_kcg rfl ?_ | refine x_opp rfl rfl ?_ | refine x_go rfl ?_)
      refine x_zret (Or.inr rfl) ?_
      simp only [gRow, h1, h2, if_false, zz_t] at hq
      exact hq
def tCell (st dn : Nat → Int32) (k : Nat) (p : Int32) : Int32 := st k + p * (if dn k = 0 then 1 else 7)
theorem c_cellOf {k : Nat} {p : Int32} (ht : tSh sh t sa dn le nu) (hk : k < 42) (hq : Q (some (.int (tCell (M.1 sa) (M.1 dn) k p))) (wm sh M)) : sm_E L xs (d + 1) 85 [.ref t, .int (nI k), .int p] (wm sh M) Q := by
  refine e_intro rfl rfl ?_
  repeat (first | refine x_kcg rfl ?_ | refine x_opp rfl rfl ?_ | refine x_go rfl ?_ | refine m_getg ht.1 rfl rfl rfl ?_)
  refine m_iald ht.2.1 (vp_in_nI hk (by decide)) ?_
  rw [nI_clamp (by omega)]
  repeat (first | refine x_kcg rfl ?_ | refine x_opp rfl rfl ?_ | refine x_go rfl ?_ | refine m_getg ht.1 rfl rfl rfl ?_)
  refine m_bald ht.2.2.1 (vp_in_nI hk (by decide)) ?_
  rw [nI_clamp (by omega)]
  unfold tCell at hq
  refine x_ifc br_eq (fun h1 => ?_) (fun h1 => ?_)
  · rw [if_pos h1] at hq
    repeat (first | refine x_kcg rfl ?_ | refine x_opp rfl rfl ?_ | refine x_go rfl ?_)
    exact x_iret rfl hq
  · rw [if_neg h1] at hq
    repeat (first | refine x_kcg rfl ?_ | refine x_opp rfl rfl ?_ | refine x_go rfl ?_)
    exact x_iret rfl hq
def tAdd (M : mm_T) (t sa dn le nu k : Nat) (a b c e : Int32) : mm_T := m_setI (m_setI (m_setI (m_setI (m_setI M sa k a) dn k b) le k c) nu k e) t 4 (nI (k + 1))
theorem c_add {k : Nat} {a b cc e : Int32} (ht : tSh sh t sa dn le nu) (hs : M.1 t 4 = nI k) (hk : k < 42) (hb : b = 0 ∨ b = 1) (hq : Q none (wm sh (tAdd M t sa dn le nu k a b cc e))) : sm_E L xs (d + 1) 79 [.ref t, .int a, .int b, .int cc, .int e] (wm sh M) Q := by
  refine e_intro rfl rfl ?_
  obtain ⟨h1, h2, h3, h4, h5, n1, n2, n3, n4, -⟩ := ht
  have e0 := Ne.symm n1
  have e1 := Ne.symm n2
  have e2 := Ne.symm n3
  have e3 := Ne.symm n4
  have hin : vp_in (nI k) 42 := vp_in_nI hk (by decide)
  have hcl : (nI k).toNatClampNeg = k := nI_clamp (by omega)
  repeat (first | refine x_kcg rfl ?_ | refine x_opp rfl rfl ?_ | refine x_go rfl ?_ | refine m_getg h1 rfl rfl rfl ?_)
  rw [hs]
  refine x_icm br_ge (fun g1 => absurd g1 (nI_ge (b := 42) hk (by decide))) (fun _ => ?_)
  repeat (first | refine x_kcg rfl ?_ | refine x_opp rfl rfl ?_ | refine x_go rfl ?_ | refine m_getg h1 rfl rfl rfl ?_)
  rw [hs]
  refine m_iast h2 hin ?_
  rw [hcl]
  repeat (first | refine x_kcg rfl ?_ | refine x_opp rfl rfl ?_ | refine x_go rfl ?_ | refine m_getg h1 rfl rfl rfl ?_)
  rw [mI_ne _ _ _ e0, hs]
  refine m_bast h3 hin hb ?_
  rw [hcl]
  repeat (first | refine x_kcg rfl ?_ | refine x_opp rfl rfl ?_ | refine x_go rfl ?_ | refine m_getg h1 rfl rfl rfl ?_)
  rw [mI_ne _ _ _ e1, mI_ne _ _ _ e0, hs]
  refine m_iast h4 hin ?_
  rw [hcl]
  repeat (first | refine x_kcg rfl ?_ | refine x_opp rfl rfl ?_ | refine x_go rfl ?_ | refine m_getg h1 rfl rfl rfl ?_)
  rw [mI_ne _ _ _ e2, mI_ne _ _ _ e1, mI_ne _ _ _ e0, hs]
  refine m_iast h5 hin ?_
  rw [hcl]
  repeat (first | refine x_kcg rfl ?_ | refine x_opp rfl rfl ?_ | refine x_go rfl ?_ | refine m_getg h1 rfl rfl rfl ?_)
  rw [mI_ne _ _ _ e3, mI_ne _ _ _ e2, mI_ne _ _ _ e1, mI_ne _ _ _ e0, hs]
  refine m_putI h1 rfl ?_
  repeat (first | refine x_kcg rfl ?_ | refine x_opp rfl rfl ?_ | refine x_go rfl ?_)
  refine x_ret ?_
  rw [nI_1]
  exact hq
theorem l_across {i j : Nat} (hg : gSh sh g c l sp re) (hk : gOK M g l) : ∀ k m, m + k = 7 → 1 ≤ m → Q (some (.int (nI (runF (fun n => gJR (M.1 g 5) (M.1 l) (M.1 c) (nI i) (nI (j + n - 1))) m k)))) (wm sh M) → sm_X L xs (d + 3) 78 1 (sm_code 78 1) [(0, .ref g), (1, .int (nI i)), (2, .int (nI j)), (3, .int (nI m))] [] (wm sh M) Q := by
  intro k
  induction k with
  | zero =>
    intro m hm h1m hq
    have e : m = 7 := hm
    subst e
    repeat (first | refine x_kcg rfl ?_ | refine x_opp rfl rfl ?_ | refine x_go rfl ?_)
    refine x_icm br_ge (fun _ => ?_) (fun h1 => absurd (nI_le (a := 7) (Nat.le_refl 7) (by decide)) h1)
    repeat (first | refine x_kcg rfl ?_ | refine x_opp rfl rfl ?_ | refine x_go rfl ?_)
    exact x_iret rfl hq
  | succ k ih =>
    intro m hm h1m hq
    repeat (first | refine x_kcg rfl ?_ | refine x_opp rfl rfl ?_ | refine x_go rfl ?_)
    refine x_icm br_ge (fun h1 => absurd h1 (nI_ge (b := 7) (by omega) (by decide))) (fun _ => ?_)
    repeat (first | refine x_kcg rfl ?_ | refine x_opp rfl rfl ?_ | refine x_go rfl ?_)
    rw [sub1 h1m]
    refine m_callV hg.1 rfl rfl rfl (c_joinsRight hg hk ?_)
    unfold runF at hq
    refine x_ifc br_eqz (fun h2 => ?_) (fun h2 => ?_)
    · rw [if_neg (by rw [h2]; exact Bool.false_ne_true)] at hq
      repeat (first | refine x_kcg rfl ?_ | refine x_opp rfl rfl ?_ | refine x_go rfl ?_)
      exact x_iret rfl hq
    · rw [if_pos (nf_t h2)] at hq
      repeat (first | refine x_kcg rfl ?_ | refine x_incg rfl rfl ?_ | refine x_opp rfl rfl ?_)
      refine x_goto ?_
      refine x_lvs [(0, .ref g), (1, .int (nI i)), (2, .int (nI j)), (3, .int (nI (m + 1)))] rfl rfl rfl ⟨rfl, rfl, rfl, rfl, trivial⟩ ?_
      exact ih (m + 1) (by omega) (by omega) hq
theorem c_across {i j : Nat} (hg : gSh sh g c l sp re) (hk : gOK M g l) (hq : Q (some (.int (nI (runF (fun n => gJR (M.1 g 5) (M.1 l) (M.1 c) (nI i) (nI (j + n - 1))) 1 6)))) (wm sh M)) : sm_E L xs (d + 4) 78 [.ref g, .int (nI i), .int (nI j)] (wm sh M) Q := by
  refine e_intro rfl rfl ?_
  repeat (first | refine x_kcg rfl ?_ | refine x_incg rfl rfl ?_ | refine x_opp rfl rfl ?_)
  refine x_fall ?_
  refine x_lvs [(0, .ref g), (1, .int (nI i)), (2, .int (nI j)), (3, .int (nI 1))] rfl rfl rfl ⟨rfl, rfl, rfl, rfl, trivial⟩ ?_
  exact l_across hg hk 6 1 rfl (Nat.le_refl 1) hq
theorem l_downL {i j : Nat} (hg : gSh sh g c l sp re) (hk : gOK M g l) : ∀ k m, m + k = 7 → 1 ≤ m → Q (some (.int (nI (runF (fun n => gJB (M.1 g 5) (M.1 l) (M.1 c) (nI (i + n - 1)) (nI j)) m k)))) (wm sh M) → sm_X L xs (d + 3) 80 1 (sm_code 80 1) [(0, .ref g), (1, .int (nI i)), (2, .int (nI j)), (3, .int (nI m))] [] (wm sh M) Q := by
  intro k
  induction k with
  | zero =>
    intro m hm h1m hq
    have e : m = 7 := hm
    subst e
    repeat (first | refine x_kcg rfl ?_ | refine x_opp rfl rfl ?_ | refine x_go rfl ?_)
    refine x_icm br_ge (fun _ => ?_) (fun h1 => absurd (nI_le (a := 7) (Nat.le_refl 7) (by decide)) h1)
    repeat (first | refine x_kcg rfl ?_ | refine x_opp rfl rfl ?_ | refine x_go rfl ?_)
    exact x_iret rfl hq
  | succ k ih =>
    intro m hm h1m hq
    repeat (first | refine x_kcg rfl ?_ | refine x_opp rfl rfl ?_ | refine x_go rfl ?_)
    refine x_icm br_ge (fun h1 => absurd h1 (nI_ge (b := 7) (by omega) (by decide))) (fun _ => ?_)
    repeat (first | refine x_kcg rfl ?_ | refine x_opp rfl rfl ?_ | refine x_go rfl ?_)
    rw [sub1 h1m]
    refine m_callV hg.1 rfl rfl rfl (c_joinsBelow hg hk ?_)
    unfold runF at hq
    refine x_ifc br_eqz (fun h2 => ?_) (fun h2 => ?_)
    · rw [if_neg (by rw [h2]; exact Bool.false_ne_true)] at hq
      repeat (first | refine x_kcg rfl ?_ | refine x_opp rfl rfl ?_ | refine x_go rfl ?_)
      exact x_iret rfl hq
    · rw [if_pos (nf_t h2)] at hq
      repeat (first | refine x_kcg rfl ?_ | refine x_incg rfl rfl ?_ | refine x_opp rfl rfl ?_)
      refine x_goto ?_
      refine x_lvs [(0, .ref g), (1, .int (nI i)), (2, .int (nI j)), (3, .int (nI (m + 1)))] rfl rfl rfl ⟨rfl, rfl, rfl, rfl, trivial⟩ ?_
      exact ih (m + 1) (by omega) (by omega) hq
theorem c_downL {i j : Nat} (hg : gSh sh g c l sp re) (hk : gOK M g l) (hq : Q (some (.int (nI (runF (fun n => gJB (M.1 g 5) (M.1 l) (M.1 c) (nI (i + n - 1)) (nI j)) 1 6)))) (wm sh M)) : sm_E L xs (d + 4) 80 [.ref g, .int (nI i), .int (nI j)] (wm sh M) Q := by
  refine e_intro rfl rfl ?_
  repeat (first | refine x_kcg rfl ?_ | refine x_incg rfl rfl ?_ | refine x_opp rfl rfl ?_)
  refine x_fall ?_
  refine x_lvs [(0, .ref g), (1, .int (nI i)), (2, .int (nI j)), (3, .int (nI 1))] rfl rfl rfl ⟨rfl, rfl, rfl, rfl, trivial⟩ ?_
  exact l_downL hg hk 6 1 rfl (Nat.le_refl 1) hq
/-- what stands in an entry: its letters, five bits each -/
def stF (f : Nat → Int32) : Nat → Int64
  | 0 => 0
  | i + 1 => stF f i ||| ((f i &&& 31).toInt64 <<< ((5 * nI i).toInt64 &&& 63))
theorem c_standing {k N q : Nat} (ht : tSh sh t sa dn le nu) (hc : sh[q]? = some (arrI 49)) (hk : k < 42) (hN : M.1 le k = nI N) (hN7 : N ≤ 7) (hin : ∀ i, i < N → vp_in (tCell (M.1 sa) (M.1 dn) k (nI i)) 49)
    (hq : Q (some (.long (stF (fun i => M.1 q (tCell (M.1 sa) (M.1 dn) k (nI i)).toNatClampNeg) N))) (wm sh M)) : sm_E L xs (d + 2) 84 [.ref t, .int (nI k), .ref q] (wm sh M) Q := by
  have hi42 : vp_in (nI k) 42 := vp_in_nI hk (by decide)
  have hcl : (nI k).toNatClampNeg = k := nI_clamp (by omega)
  refine e_intro rfl rfl ?_
  repeat (first | refine x_kcg rfl ?_ | refine x_incg rfl rfl ?_ | refine x_opp rfl rfl ?_)
  refine x_fall ?_
  refine x_lvs [(0, .ref t), (1, .int (nI k)), (2, .ref q), (3, .long (stF (fun i => M.1 q (tCell (M.1 sa) (M.1 dn) k (nI i)).toNatClampNeg) 0)), (5, .int (nI 0))] rfl rfl rfl ⟨rfl, rfl, rfl, rfl, rfl, trivial⟩ ?_
  refine loop_dn (P := fun i => sm_X L xs (d + 1) 84 1 (sm_code 84 1) [(0, .ref t), (1, .int (nI k)), (2, .ref q), (3, .long (stF (fun i => M.1 q (tCell (M.1 sa) (M.1 dn) k (nI i)).toNatClampNeg) i)), (5, .int (nI i))] [] (wm sh M) Q) N ?_ ?_
  · repeat (first | refine x_kcg rfl ?_ | refine x_opp rfl rfl ?_ | refine x_go rfl ?_ | refine m_getg ht.1 rfl rfl rfl ?_)
    refine m_iald ht.2.2.2.1 hi42 ?_
    rw [hcl, hN]
    refine x_icm br_ge (fun _ => ?_) (fun h1 => absurd (nI_le (Nat.le_refl N) (by omega)) h1)
    repeat (first | refine x_kcg rfl ?_ | refine x_opp rfl rfl ?_ | refine x_go rfl ?_)
    exact x_lret hq
  · intro i hi hP
    repeat (first | refine x_kcg rfl ?_ | refine x_opp rfl rfl ?_ | refine x_go rfl ?_ | refine m_getg ht.1 rfl rfl rfl ?_)
    refine m_iald ht.2.2.2.1 hi42 ?_
    rw [hcl, hN]
    refine x_icm br_ge (fun h1 => absurd h1 (nI_ge hi (by omega))) (fun _ => ?_)
    repeat (first | refine x_kcg rfl ?_ | refine x_opp rfl rfl ?_ | refine x_go rfl ?_ | refine m_getg ht.1 rfl rfl rfl ?_)
    refine m_callV ht.1 rfl rfl rfl (c_cellOf ht hk ?_)
    refine m_iald hc (hin i hi) ?_
    repeat (first | refine x_kcg rfl ?_ | refine x_incg rfl rfl ?_ | refine x_opp rfl rfl ?_)
    refine x_goto ?_
    refine x_lvs [(0, .ref t), (1, .int (nI k)), (2, .ref q), (3, .long (stF (fun i => M.1 q (tCell (M.1 sa) (M.1 dn) k (nI i)).toNatClampNeg) (i + 1))), (5, .int (nI (i + 1)))] rfl rfl rfl ⟨rfl, rfl, rfl, rfl, rfl, trivial⟩ ?_
    exact hP
end T2
