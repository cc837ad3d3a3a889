/-! the grid: questions that end early; what goes through a square -/
def anyB (p : Nat → Bool) : Nat → Bool
  | 0 => false
  | n + 1 => anyB p n || p n
theorem anyB_t {p : Nat → Bool} {i : Nat} (h : p i = true) : ∀ {n}, i < n → anyB p n = true
  | 0, hn => by omega
  | n + 1, hn => by
    unfold anyB
    by_cases e : i = n
    · subst e
      rw [h, Bool.or_true]
    · rw [anyB_t h (by omega), Bool.true_or]
theorem anyB_f {p : Nat → Bool} : ∀ {n}, (∀ i, i < n → p i = false) → anyB p n = false
  | 0, _ => rfl
  | n + 1, h => by
    unfold anyB
    rw [anyB_f (fun i hi => h i (by omega)), h n (by omega)]
    rfl
section G4
variable {L : Nat} {xs : Nat → Int32} {d : Nat} {sh : List sh_T} {M : mm_T} {Q : Option Value → sm_W → Prop} {g c l sp re : Nat}
def gLack (ln : Nat → Int32) : Nat → Bool := fun i => decide (¬ 0 ≤ ln i)
def gCut (ln : Nat → Int32) (w : Int32) : Nat → Bool := fun i => decide (ln i ≠ w)
theorem c_lacksRow {H : Nat} (hg : gSh sh g c l sp re) (hH : M.1 g 5 = nI H) (hH7 : H ≤ 7) (hq : Q (some (.int (zz (anyB (gLack (M.1 l)) H)))) (wm sh M)) : sm_E L xs (d + 1) 131 [.ref g] (wm sh M) Q := by
  refine e_intro rfl rfl ?_
  repeat (first | refine x_kcg rfl ?_ | refine x_incg rfl rfl ?_ | refine x_opp rfl rfl ?_)
  refine x_fall ?_
  refine x_lvs [(0, .ref g), (1, .int (nI 0))] rfl rfl rfl ⟨rfl, rfl, trivial⟩ ?_
  refine loop_dn (P := fun i => (∀ a, a < i → gLack (M.1 l) a = false) → sm_X L xs d 131 1 (sm_code 131 1) [(0, .ref g), (1, .int (nI i))] [] (wm sh M) Q) H ?_ ?_ (fun a ha => absurd ha (Nat.not_lt_zero a))
  · intro hall
    repeat (first | refine x_kcg rfl ?_ | refine x_opp rfl rfl ?_ | refine x_go rfl ?_ | refine m_getg hg.1 rfl rfl rfl ?_)
    rw [hH]
    refine x_icm br_ge (fun _ => ?_) (fun h1 => absurd (nI_le (Nat.le_refl H) (by omega)) h1)
    repeat (first | refine x_kcg rfl ?_ | refine x_opp rfl rfl ?_ | refine x_go rfl ?_)
    refine x_zret (Or.inl rfl) ?_
    rw [anyB_f hall] at hq
    exact hq
  · intro i hi hP hall
    have hi7 : i < 7 := by omega
    repeat (first | refine x_kcg rfl ?_ | refine x_opp rfl rfl ?_ | refine x_go rfl ?_ | refine m_getg hg.1 rfl rfl rfl ?_)
    rw [hH]
    refine x_icm br_ge (fun h1 => absurd h1 (nI_ge hi (by omega))) (fun _ => ?_)
    repeat (first | refine x_kcg rfl ?_ | refine x_opp rfl rfl ?_ | refine x_go rfl ?_ | refine m_getg hg.1 rfl rfl rfl ?_)
    refine m_iald hg.2.2.1 (in7 hi7) ?_
    rw [nI_clamp (by omega)]
    refine x_ifc br_ge (fun h2 => ?_) (fun h2 => ?_)
    · repeat (first | refine x_kcg rfl ?_ | refine x_incg rfl rfl ?_ | refine x_opp rfl rfl ?_)
      refine x_goto ?_
      refine x_lvs [(0, .ref g), (1, .int (nI (i + 1)))] rfl rfl rfl ⟨rfl, rfl, trivial⟩ ?_
      refine hP (fun a ha => ?_)
      by_cases e : a = i
      · subst e
        exact decide_eq_false (fun h => h h2)
      · exact hall a (by omega)
    · repeat (first | refine x_kcg rfl ?_ | refine x_opp rfl rfl ?_ | refine x_go rfl ?_)
      refine x_zret (Or.inr rfl) ?_
      rw [anyB_t (i := i) (decide_eq_true h2) hi] at hq
      exact hq
theorem c_isUncut {H : Nat} (hg : gSh sh g c l sp re) (hH : M.1 g 5 = nI H) (hH7 : H ≤ 7) (hq : Q (some (.int (zz (!(anyB (gCut (M.1 l) (M.1 g 6)) H))))) (wm sh M)) : sm_E L xs (d + 1) 132 [.ref g] (wm sh M) Q := by
  refine e_intro rfl rfl ?_
  repeat (first | refine x_kcg rfl ?_ | refine x_incg rfl rfl ?_ | refine x_opp rfl rfl ?_)
  refine x_fall ?_
  refine x_lvs [(0, .ref g), (1, .int (nI 0))] rfl rfl rfl ⟨rfl, rfl, trivial⟩ ?_
  refine loop_dn (P := fun i => (∀ a, a < i → gCut (M.1 l) (M.1 g 6) a = false) → sm_X L xs d 132 1 (sm_code 132 1) [(0, .ref g), (1, .int (nI i))] [] (wm sh M) Q) H ?_ ?_ (fun a ha => absurd ha (Nat.not_lt_zero a))
  · intro hall
    repeat (first | refine x_kcg rfl ?_ | refine x_opp rfl rfl ?_ | refine x_go rfl ?_ | refine m_getg hg.1 rfl rfl rfl ?_)
    rw [hH]
    refine x_icm br_ge (fun _ => ?_) (fun h1 => absurd (nI_le (Nat.le_refl H) (by omega)) h1)
    repeat (first | refine x_kcg rfl ?_ | refine x_opp rfl rfl ?_ | refine x_go rfl ?_)
    refine x_zret (Or.inr rfl) ?_
    rw [anyB_f hall] at hq
    exact hq
  · intro i hi hP hall
    have hi7 : i < 7 := by omega
    repeat (first | refine x_kcg rfl ?_ | refine x_opp rfl rfl ?_ | refine x_go rfl ?_ | refine m_getg hg.1 rfl rfl rfl ?_)
    rw [hH]
    refine x_icm br_ge (fun h1 => absurd h1 (nI_ge hi (by omega))) (fun _ => ?_)
    repeat (first | refine x_kcg rfl ?_ | refine x_opp rfl rfl ?_ | refine x_go rfl ?_ | refine m_getg hg.1 rfl rfl rfl ?_)
    refine m_iald hg.2.2.1 (in7 hi7) ?_
    rw [nI_clamp (by omega)]
    repeat (first | refine x_kcg rfl ?_ | refine x_opp rfl rfl ?_ | refine x_go rfl ?_ | refine m_getg hg.1 rfl rfl rfl ?_)
    refine x_icm br_eq (fun h2 => ?_) (fun h2 => ?_)
    · repeat (first | refine x_kcg rfl ?_ | refine x_incg rfl rfl ?_ | refine x_opp rfl rfl ?_)
      refine x_goto ?_
      refine x_lvs [(0, .ref g), (1, .int (nI (i + 1)))] rfl rfl rfl ⟨rfl, rfl, trivial⟩ ?_
      refine hP (fun a ha => ?_)
      by_cases e : a = i
      · subst e
        exact decide_eq_false (fun h => h h2)
      · exact hall a (by omega)
    · repeat (first | refine x_kcg rfl ?_ | refine x_opp rfl rfl ?_ | refine x_go rfl ?_)
      refine x_zret (Or.inl rfl) ?_
      rw [anyB_t (i := i) (decide_eq_true h2) hi] at hq
      exact hq
/-- in how many entries a white square is -/
def gTh (h : Int32) (ln cs : Nat → Int32) (r k : Int32) : Int32 :=
  (if gJR h ln cs r k = true then 1 else if gJR h ln cs r (k - 1) = true then 1 else 0) + (if gJB h ln cs r k = true then 1 else if gJB h ln cs (r - 1) k = true then 1 else 0)
theorem c_entriesThrough {r k : Int32} (hg : gSh sh g c l sp re) (hk : gOK M g l) (hq : Q (some (.int (gTh (M.1 g 5) (M.1 l) (M.1 c) r k))) (wm sh M)) : sm_E L xs (d + 4) 117 [.ref g, .int r, .int k] (wm sh M) Q := by
  refine e_intro rfl rfl ?_
  have tail : ∀ n : Int32, (Q (some (.int (n + (if gJB (M.1 g 5) (M.1 l) (M.1 c) r k = true then 1 else if gJB (M.1 g 5) (M.1 l) (M.1 c) (r - 1) k = true then 1 else 0)))) (wm sh M)) → sm_X L xs (d + 3) 117 3 (sm_code 117 3) [(0, .ref g), (1, .int r), (2, .int k), (3, .int n)] [] (wm sh M) Q := by
    intro n hn
    repeat (first | refine x_kcg rfl ?_ | refine x_opp rfl rfl ?_ | refine x_go rfl ?_)
    refine m_callV hg.1 rfl rfl rfl (c_joinsBelow hg hk ?_)
    refine x_ifc br_nez (fun h1 => ?_) (fun h1 => ?_)
    · rw [if_pos h1] at hn
      repeat (first | refine x_kcg rfl ?_ | refine x_opp rfl rfl ?_ | refine x_go rfl ?_)
      exact x_iret rfl hn
    · rw [if_neg h1] at hn
      repeat (first | refine x_kcg rfl ?_ | refine x_opp rfl rfl ?_ | refine x_go rfl ?_)
      refine m_callV hg.1 rfl rfl rfl (c_joinsBelow hg hk ?_)
      refine x_ifc br_eqz (fun h2 => ?_) (fun h2 => ?_)
      · rw [if_neg (by rw [h2]; exact Bool.false_ne_true)] at hn
        repeat (first | refine x_kcg rfl ?_ | refine x_opp rfl rfl ?_ | refine x_go rfl ?_)
        refine x_iret rfl ?_
        rw [Int32.add_zero] at hn
        exact hn
      · rw [if_pos (nf_t h2)] at hn
        repeat (first | refine x_kcg rfl ?_ | refine x_opp rfl rfl ?_ | refine x_go rfl ?_)
        exact x_iret rfl hn
  unfold gTh at hq
  repeat (first | refine x_kcg rfl ?_ | refine x_opp rfl rfl ?_ | refine x_go rfl ?_)
  refine m_callV hg.1 rfl rfl rfl (c_joinsRight hg hk ?_)
  refine x_ifc br_nez (fun h1 => ?_) (fun h1 => ?_)
  · rw [if_pos h1] at hq
    repeat (first | refine x_kcg rfl ?_ | refine x_incg rfl rfl ?_ | refine x_opp rfl rfl ?_)
    refine x_fall ?_
    refine x_lvs [(0, .ref g), (1, .int r), (2, .int k), (3, .int 1)] rfl rfl rfl ⟨rfl, rfl, rfl, rfl, trivial⟩ ?_
    exact tail 1 hq
  · rw [if_neg h1] at hq
    repeat (first | refine x_kcg rfl ?_ | refine x_opp rfl rfl ?_ | refine x_go rfl ?_)
    refine m_callV hg.1 rfl rfl rfl (c_joinsRight hg hk ?_)
    refine x_ifc br_eqz (fun h2 => ?_) (fun h2 => ?_)
    · rw [if_neg (by rw [h2]; exact Bool.false_ne_true)] at hq
      refine x_lvs [(0, .ref g), (1, .int r), (2, .int k), (3, .int 0)] rfl rfl rfl ⟨rfl, rfl, rfl, rfl, trivial⟩ ?_
      exact tail 0 hq
    · rw [if_pos (nf_t h2)] at hq
      repeat (first | refine x_kcg rfl ?_ | refine x_incg rfl rfl ?_ | refine x_opp rfl rfl ?_)
      refine x_fall ?_
      refine x_lvs [(0, .ref g), (1, .int r), (2, .int k), (3, .int 1)] rfl rfl rfl ⟨rfl, rfl, rfl, rfl, trivial⟩ ?_
      exact tail 1 hq
end G4
