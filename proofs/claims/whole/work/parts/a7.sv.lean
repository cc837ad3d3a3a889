/-! solving: the desk -/
def dK (M : mm_T) (D : sD) (fs : List (Nat → Int64)) : Prop := M.1 0 7 = nI (min fs.length 3) ∧ ∀ j tk, j < 3 → fs[j]? = some tk → ∀ k, k < D.1.length → M.2.1 43 (42 * j + D.2.2.1 k) = tk k
def svF (M M' : mm_T) : Prop := M'.2.2 = M.2.2 ∧ (∀ a, a ≠ 0 → a ≠ 28 → a ≠ 38 → a ≠ 39 → M'.1 a = M.1 a) ∧ (∀ i, i ≠ 7 → M'.1 0 i = M.1 0 i) ∧ (∀ a, a < 40 ∨ 43 < a → M'.2.1 a = M.2.1 a) ∧ M'.1 28 14 = M.1 28 14 ∧ M'.1 28 16 = M.1 28 16
theorem svF_tr {M M1 M2 : mm_T} (h : svF M M1) (k : svF M1 M2) : svF M M2 := by
  obtain ⟨a1, a2, a3, a4, a5, a6⟩ := h
  obtain ⟨b1, b2, b3, b4, b5, b6⟩ := k
  exact ⟨b1.trans a1, fun a p1 p2 p3 p4 => (b2 a p1 p2 p3 p4).trans (a2 a p1 p2 p3 p4), fun i p => (b3 i p).trans (a3 i p), fun a p => (b4 a p).trans (a4 a p), b5.trans a5, b6.trans a6⟩
theorem svF_s {M M1 : mm_T} (h : sFr M M1 28) : svF M M1 := by
  obtain ⟨a1, a2, a3, a4, a5⟩ := h
  exact ⟨a1, fun a _ p2 p3 p4 => a2 a p2 p3 p4, fun i _ => by rw [a2 0 (by decide) (by decide) (by decide)], fun a p => a3 a (by omega), a4, a5⟩
theorem dK_s {M M1 : mm_T} {D : sD} {fs : List (Nat → Int64)} (h : sFr M M1 28) (k : dK M D fs) : dK M1 D fs := by
  obtain ⟨a1, a2, a3, a4, a5⟩ := h
  unfold dK
  rw [a2 0 (by decide) (by decide) (by decide), a3 43 (by omega)]
  exact k
/-- ready to look for the next filling from S -/
def rdy (M : mm_T) (D : sD) (S : sS) : Prop := (M.1 28 13 = 0 ∧ cS M 28 D S ∧ sI D S) ∨ (M.1 28 13 = 1 ∧ ∃ S2 k, S2.1 = k + 1 ∧ sBack S2 = S ∧ cS M 28 D S2 ∧ sI D S2)
section SV
variable {L : Nat} {xs : Nat → Int32} {t d : Nat} {dy : List sh_T} {M : mm_T} {Q : Option Value → sm_W → Prop} {n G : Nat} {D : sD}
theorem c_nextR {S : sS} {lim p : Nat} {r : Nat × sS × Nat} (hd : dOK D) (hD : cD M 28 D) (h16 : M.1 28 16 = nI lim) (hl : lim ≤ 5000) (hr : sNx D lim (2 * lim + 50) S p = some r) (hp : p ≤ lim) (hR : rdy M D S) (e15 : M.1 28 15 = nI p)
    (q1 : r.1 = 1 → ∀ M', sI D r.2.1 → cS M' 28 D r.2.1 → r.2.1.1 = D.1.length → r.2.2 ≤ lim → sFr M M' 28 → M'.1 28 15 = nI r.2.2 → M'.1 28 13 = 1 → Q (some (.int 1)) (wm (sh0 ++ dy) M'))
    (q0 : r.1 = 0 → ∀ M', sFr M M' 28 → M'.1 28 15 = nI r.2.2 → Q (some (.int 0)) (wm (sh0 ++ dy) M'))
    (q2 : r.1 = 2 → ∀ M', sFr M M' 28 → M'.1 28 15 = nI r.2.2 → Q (some (.int (-4))) (wm (sh0 ++ dy) M')) : sm_E L xs (d + 5) 99 [.ref 28] (wm (sh0 ++ dy) M) Q := by
  rcases hR with ⟨h1, h2, h3⟩ | ⟨h1, S2, k, h4, h5, h2, h3⟩
  · exact c_next0 (srSh_28 dy) hd hD h16 hl hr hp h3 h2 e15 h1 q1 (fun a M' b c _ => q0 a M' b c) (fun a M' _ _ _ _ b c _ => q2 a M' b c)
  · rw [← h5] at hr
    exact c_next1 (srSh_28 dy) hd hD h16 hl h4 hr hp h3 h2 e15 h1 q1 (fun a M' b c _ => q0 a M' b c) (fun a M' _ _ _ _ b c _ => q2 a M' b c)
set_option maxRecDepth 4000 in
theorem c_keep {k : Nat} {tk : Nat → Int64} {fs : List (Nat → Int64)} (hd : dOK D) (hin : ∀ i j, i < D.1.length → j < D.1.length → D.2.2.1 i = D.2.2.1 j → i = j) (hD : cD M 28 D) (hk : k ≤ 1000) (hf : fs.length = k) (h42 : ∀ j, j < D.1.length → M.2.1 42 j = tk j) (hK : dK M D fs)
    (hq : ∀ M', svF M M' → (∀ a, a ≠ 0 → M'.1 a = M.1 a) → (∀ a, a ≠ 43 → M'.2.1 a = M.2.1 a) → dK M' D (fs ++ [tk]) → Q none (wm (sh0 ++ dy) M')) : sm_E L xs (d + 2) 108 [.ref 0, .int (nI k)] (wm (sh0 ++ dy) M) Q := by
  refine e_intro rfl rfl ?_
  by_cases c : k < 3
  · have g : ¬ (3 : Int32) ≤ nI k := nI_ge (b := 3) c (by decide)
    have m42 : nI k * 42 = nI (42 * k) := by
      rw [show (42 : Int32) = nI 42 from rfl, pk_mul, Nat.mul_comm]
    refine x_opp rfl rfl ?_
    refine x_kcg rfl ?_
    refine a_icF rfl rfl br_ge (by first | exact g | exact nt_f g | exact tnf g | exact fnt g | exact Int32.not_lt.mp g | exact Int32.not_le.mp g | exact Int32.not_lt.mpr g | exact Int32.not_le.mpr g) ?_
    refine x_opp rfl rfl ?_
    refine m_getg (s_0 dy) rfl rfl rfl ?_
    refine x_opp rfl rfl ?_
    refine m_getg (s_0 dy) rfl rfl rfl ?_
    refine x_opp rfl rfl ?_
    refine x_kcg rfl ?_
    refine x_opp rfl rfl ?_
    rw [m42]
    refine a_callV (s_28 dy) rfl rfl rfl rfl (c_tell (tk := tk) (srSh_28 dy) hd hin hD (s_43 dy) (by decide) (by omega) h42 (fun M' y1 y2 y3 y4 y5 => ?_))
    refine x_opp rfl rfl ?_
    refine x_opp rfl rfl ?_
    refine x_kcg rfl ?_
    refine x_opp rfl rfl ?_
    refine a_putJ 7 (s_0 dy) rfl rfl rfl rfl ?_
    refine x_go rfl ?_
    rw [show nI k + 1 = nI (k + 1) from nI_add k 1]
    refine a_ret rfl rfl ?_
    refine hq _ ⟨y2, fun a p1 p2 p3 p4 => by rw [mI_ne _ _ _ p1, y1], fun i p => by rw [mI_at, if_neg (by omega), y1], fun a p => y3 a (by omega), by rw [mI_ne _ _ _ (by decide), y1], by rw [mI_ne _ _ _ (by decide), y1]⟩ (fun a p => by rw [mI_ne _ _ _ p, y1]) (fun a p => y3 a p) ⟨?_, fun j tk2 hj e x hx => ?_⟩
    · rw [mI_at, if_pos ⟨rfl, rfl⟩, List.length_append, hf, show ([tk] : List (Nat → Int64)).length = 1 from rfl, Nat.min_eq_left (by omega)]
    · show M'.2.1 43 _ = _
      have lt := hd.2.2.1 x hx
      have := hd.1
      by_cases q : j < k
      · rw [y4 _ (by omega)]
        rw [List.getElem?_append_left (by omega)] at e
        exact hK.2 j tk2 hj e x hx
      · rw [List.getElem?_append_right (by omega)] at e
        by_cases q2 : j = k
        · subst q2
          rw [hf, Nat.sub_self] at e
          have e : some tk = some tk2 := e
          injection e with e
          rw [← e]
          exact y5 x hx
        · rw [hf] at e
          have : ([tk] : List (Nat → Int64))[j - k]? = none := List.getElem?_eq_none (by show 1 ≤ j - k; omega)
          rw [this] at e
          cases e
  · have g : (3 : Int32) ≤ nI k := nI_le (a := 3) (by omega) (by omega)
    refine x_opp rfl rfl ?_
    refine x_kcg rfl ?_
    refine a_icT rfl rfl br_ge (by first | exact g | exact nt_f g | exact tnf g | exact fnt g | exact Int32.not_lt.mp g | exact Int32.not_le.mp g | exact Int32.not_lt.mpr g | exact Int32.not_le.mpr g) ?_
    refine a_ret rfl rfl ?_
    refine hq _ ⟨rfl, fun _ _ _ _ _ => rfl, fun _ _ => rfl, fun _ _ => rfl, rfl, rfl⟩ (fun _ _ => rfl) (fun _ _ => rfl) ⟨?_, fun j tk2 hj e x hx => ?_⟩
    · rw [hK.1, List.length_append, hf, show ([tk] : List (Nat → Int64)).length = 1 from rfl, Nat.min_eq_right (by omega), Nat.min_eq_right (by omega)]
    · rw [List.getElem?_append_left (by omega)] at e
      exact hK.2 j tk2 hj e x hx
abbrev lvS (G : Nat) (mo lim fl : Nat) (o : Int32) : sm_L := [(0, .ref 0), (1, .int (nI G)), (2, .int (nI mo)), (3, .int (nI lim)), (4, .int (nI fl)), (5, .int o)]
set_option maxRecDepth 4000 in
theorem l_svn {lim mo p fl : Nat} {S : sS} {r : Nat × sS × Nat} {fs : List (Nat → Int64)} (hd : dOK D) (hin : ∀ i j, i < D.1.length → j < D.1.length → D.2.2.1 i = D.2.2.1 j → i = j) (hl : lim ≤ 5000) (hmo : mo ≤ 1000) (hfl : fl < mo) (hp : p ≤ lim) (hD : cD M 28 D) (hR : rdy M D S) (e15 : M.1 28 15 = nI p) (h16 : M.1 28 16 = nI lim) (hf : fs.length = fl) (hK : dK M D fs) (hr : sNx D lim (2 * lim + 50) S p = some r)
    (hN : r.1 ≠ 1 → ∀ M', sFr M M' 28 → M'.1 28 15 = nI r.2.2 → sm_X L xs (d + 5) 107 14 (sm_code 107 14) (lvS G mo lim fl (aI r.1)) [] (wm (sh0 ++ dy) M') Q)
    (h1 : r.1 = 1 → ∀ M', svF M M' → cD M' 28 D → sI D r.2.1 → cS M' 28 D r.2.1 → r.2.1.1 = D.1.length → r.2.2 ≤ lim → M'.1 28 13 = 1 → M'.1 28 15 = nI r.2.2 → M'.1 28 16 = nI lim → dK M' D (fs ++ [r.2.1.2.2]) → sm_X L xs (d + 5) 107 10 (sm_code 107 10) (lvS G mo lim (fl + 1) 1) [] (wm (sh0 ++ dy) M') Q) : sm_X L xs (d + 5) 107 10 (sm_code 107 10) (lvS G mo lim fl 1) [] (wm (sh0 ++ dy) M) Q := by
  have g : ¬ nI mo ≤ nI fl := nI_ge hfl (by omega)
  rcases sNx_012 D lim _ S p r hr with h | h | h
  · rw [h] at hN
    refine x_opp rfl rfl ?_
    refine x_kcg rfl ?_
    refine a_icF rfl rfl br_ne (by decide) ?_
    refine x_opp rfl rfl ?_
    refine x_opp rfl rfl ?_
    refine a_icF rfl rfl br_ge (by first | exact g | exact nt_f g | exact tnf g | exact fnt g | exact Int32.not_lt.mp g | exact Int32.not_le.mp g | exact Int32.not_lt.mpr g | exact Int32.not_le.mpr g) ?_
    refine x_opp rfl rfl ?_
    refine m_getg (s_0 dy) rfl rfl rfl ?_
    refine a_callV (s_28 dy) rfl rfl rfl rfl (c_nextR hd hD h16 hl hr hp hR e15 (fun q => absurd (h.symm.trans q) (by decide)) (fun _ M' y1 y2 => ?_) (fun q => absurd (h.symm.trans q) (by decide)))
    refine x_opp rfl rfl ?_
    refine x_opp rfl rfl ?_
    refine x_kcg rfl ?_
    refine a_icT rfl rfl br_ne (by decide) ?_
    refine x_opp rfl rfl ?_
    refine x_kcg rfl ?_
    refine a_icT rfl rfl br_ne (by decide) ?_
    refine x_lvs [(0, .ref 0), (1, .int (nI G)), (2, .int (nI mo)), (3, .int (nI lim)), (4, .int (nI fl)), (5, .int (aI 0))] rfl rfl rfl ⟨rfl, rfl, rfl, rfl, rfl, rfl, trivial⟩ ?_
    exact hN (by decide) M' y1 y2
  · refine x_opp rfl rfl ?_
    refine x_kcg rfl ?_
    refine a_icF rfl rfl br_ne (by decide) ?_
    refine x_opp rfl rfl ?_
    refine x_opp rfl rfl ?_
    refine a_icF rfl rfl br_ge (by first | exact g | exact nt_f g | exact tnf g | exact fnt g | exact Int32.not_lt.mp g | exact Int32.not_le.mp g | exact Int32.not_lt.mpr g | exact Int32.not_le.mpr g) ?_
    refine x_opp rfl rfl ?_
    refine m_getg (s_0 dy) rfl rfl rfl ?_
    refine a_callV (s_28 dy) rfl rfl rfl rfl (c_nextR hd hD h16 hl hr hp hR e15 (fun _ M' y1 y2 y3 y4 y5 y6 y7 => ?_) (fun q => absurd (h.symm.trans q) (by decide)) (fun q => absurd (h.symm.trans q) (by decide)))
    refine x_opp rfl rfl ?_
    refine x_opp rfl rfl ?_
    refine x_kcg rfl ?_
    refine a_icF rfl rfl br_ne (by decide) ?_
    refine x_opp rfl rfl ?_
    refine x_opp rfl rfl ?_
    refine a_callV (s_0 dy) rfl rfl rfl rfl (c_keep (fs := fs) (tk := r.2.1.2.2) hd hin (cD_fr y5 hD) (by omega) hf (fun j hj => y2.2.2.1 j (by rw [y3]; exact hj)) (dK_s y5 hK) (fun M2 z1 z2 z3 z4 => ?_))
    first | refine x_incg rfl rfl ?_ | refine x_opp rfl rfl ?_
    refine x_go rfl ?_
    refine x_lvs [(0, .ref 0), (1, .int (nI G)), (2, .int (nI mo)), (3, .int (nI lim)), (4, .int (nI (fl + 1))), (5, .int 1)] rfl rfl rfl ⟨rfl, rfl, rfl, rfl, rfl, rfl, trivial⟩ ?_
    exact h1 h M2 (svF_tr (svF_s y5) z1) (cD_ex2 (M := M') (fun a i _ _ => by rw [z2 a (by omega)]) (fun a _ => z3 a (by omega)) (cD_fr y5 hD)) y1 (cS_ex2 (M := M') (fun a i _ => by rw [z2 a (by omega)]) (fun a _ _ => z3 a (by omega)) y2) y3 y4 (by rw [z2 28 (by decide)]; exact y7) (by rw [z2 28 (by decide)]; exact y6) (by rw [z2 28 (by decide), y5.2.2.2.2]; exact h16) z4
  · rw [h] at hN
    refine x_opp rfl rfl ?_
    refine x_kcg rfl ?_
    refine a_icF rfl rfl br_ne (by decide) ?_
    refine x_opp rfl rfl ?_
    refine x_opp rfl rfl ?_
    refine a_icF rfl rfl br_ge (by first | exact g | exact nt_f g | exact tnf g | exact fnt g | exact Int32.not_lt.mp g | exact Int32.not_le.mp g | exact Int32.not_lt.mpr g | exact Int32.not_le.mpr g) ?_
    refine x_opp rfl rfl ?_
    refine m_getg (s_0 dy) rfl rfl rfl ?_
    refine a_callV (s_28 dy) rfl rfl rfl rfl (c_nextR hd hD h16 hl hr hp hR e15 (fun q => absurd (h.symm.trans q) (by decide)) (fun q => absurd (h.symm.trans q) (by decide)) (fun _ M' y1 y2 => ?_))
    refine x_opp rfl rfl ?_
    refine x_opp rfl rfl ?_
    refine x_kcg rfl ?_
    refine a_icT rfl rfl br_ne (by decide) ?_
    refine x_opp rfl rfl ?_
    refine x_kcg rfl ?_
    refine a_icT rfl rfl br_ne (by decide) ?_
    refine x_lvs [(0, .ref 0), (1, .int (nI G)), (2, .int (nI mo)), (3, .int (nI lim)), (4, .int (nI fl)), (5, .int (aI 2))] rfl rfl rfl ⟨rfl, rfl, rfl, rfl, rfl, rfl, trivial⟩ ?_
    exact hN (by decide) M' y1 y2
set_option maxRecDepth 4000 in
set_option maxHeartbeats 1000000 in
theorem l_solve {lim mo : Nat} (hd : dOK D) (hin : ∀ i j, i < D.1.length → j < D.1.length → D.2.2.1 i = D.2.2.1 j → i = j) (hl : lim ≤ 5000) (hmo : mo ≤ 1000) : ∀ m S p fl M fs, fl + (m + 1) = mo → p ≤ lim → cD M 28 D → rdy M D S → M.1 28 15 = nI p → M.1 28 16 = nI lim → fs.length = fl → S.1 ≤ D.1.length → dK M D fs →
    (∀ M', svF M M' → dK M' D (fs ++ (sGo D lim (m + 1) S p).2.2.2) → M'.1 28 15 = nI (sGo D lim (m + 1) S p).2.2.1 → sm_X L xs (d + 5) 107 14 (sm_code 107 14) (lvS G mo lim (fl + (sGo D lim (m + 1) S p).2.2.2.length) (aI (sGo D lim (m + 1) S p).1)) [] (wm (sh0 ++ dy) M') Q) →
    sm_X L xs (d + 5) 107 10 (sm_code 107 10) (lvS G mo lim fl 1) [] (wm (sh0 ++ dy) M) Q := by
  intro m
  induction m with
  | zero =>
    intro S p fl M fs hfl hp hD hR e15 h16 hf hS1 hK hq
    have dl := hd.1
    obtain ⟨⟨o, S', p'⟩, hr⟩ := sNx_some D lim (2 * lim + 50) S p hp (by omega)
    have g : nI mo ≤ nI (fl + 1) := by rw [show fl + 1 = mo by omega]; exact Int32.le_refl _
    refine l_svn hd hin hl hmo (by omega) hp hD hR e15 h16 hf hK hr (fun hn M' y1 y2 => ?_) (fun h1 M' y1 y2 y3 y4 y5 y6 y7 y8 y9 y10 => ?_)
    · have e : sGo D lim (0 + 1) S p = (o, S', p', []) := by
        rcases sNx_012 D lim _ S p _ hr with h | h | h
        · have h : o = 0 := h
          subst h; exact sGo_0 hr
        · exact absurd h hn
        · have h : o = 2 := h
          subst h; exact sGo_2 hr
      rw [e] at hq
      exact hq M' (svF_s y1) (by rw [List.append_nil]; exact dK_s y1 hK) y2
    · have h1 : o = 1 := h1
      subst h1
      rw [show sGo D lim (0 + 1) S p = (1, S', p', [S'.2.2]) from sGo_1 hr] at hq
      have fin := hq M' y1 y10 y8
      refine x_opp rfl rfl ?_
      refine x_kcg rfl ?_
      refine a_icF rfl rfl br_ne (by decide) ?_
      refine x_opp rfl rfl ?_
      refine x_opp rfl rfl ?_
      refine a_icT rfl rfl br_ge (by first | exact g | exact nt_f g | exact tnf g | exact fnt g | exact Int32.not_lt.mp g | exact Int32.not_le.mp g | exact Int32.not_lt.mpr g | exact Int32.not_le.mpr g) ?_
      exact fin
  | succ m ih =>
    intro S p fl M fs hfl hp hD hR e15 h16 hf hS1 hK hq
    have dl := hd.1
    obtain ⟨⟨o, S', p'⟩, hr⟩ := sNx_some D lim (2 * lim + 50) S p hp (by omega)
    refine l_svn hd hin hl hmo (by omega) hp hD hR e15 h16 hf hK hr (fun hn M' y1 y2 => ?_) (fun h1 M' y1 y2 y3 y4 y5 y6 y7 y8 y9 y10 => ?_)
    · have e : sGo D lim (m + 1 + 1) S p = (o, S', p', []) := by
        rcases sNx_012 D lim _ S p _ hr with h | h | h
        · have h : o = 0 := h
          subst h; exact sGo_0 hr
        · exact absurd h hn
        · have h : o = 2 := h
          subst h; exact sGo_2 hr
      rw [e] at hq
      exact hq M' (svF_s y1) (by rw [List.append_nil]; exact dK_s y1 hK) y2
    · have h1 : o = 1 := h1
      subst h1
      have e := sGo_1 (m := m + 1) hr
      rw [if_neg (by omega)] at e
      have y5 : S'.1 = D.1.length := y5
      by_cases z : D.1.length = 0
      · rw [if_pos z] at e
        rw [e] at hq
        have g : ¬ nI mo ≤ nI (fl + 1) := nI_ge (by omega) (by omega)
        have y12 : M'.1 28 12 = nI 0 := by rw [y4.1, y5, z]
        refine x_opp rfl rfl ?_
        refine x_kcg rfl ?_
        refine a_icF rfl rfl br_ne (by decide) ?_
        refine x_opp rfl rfl ?_
        refine x_opp rfl rfl ?_
        refine a_icF rfl rfl br_ge (by first | exact g | exact nt_f g | exact tnf g | exact fnt g | exact Int32.not_lt.mp g | exact Int32.not_le.mp g | exact Int32.not_lt.mpr g | exact Int32.not_le.mpr g) ?_
        refine x_opp rfl rfl ?_
        refine m_getg (s_0 dy) rfl rfl rfl ?_
        refine a_callV (s_28 dy) rfl rfl rfl rfl (c_next1z (srSh_28 dy) y12 y7 (fun M2 z1 z2 => ?_))
        refine x_opp rfl rfl ?_
        refine x_opp rfl rfl ?_
        refine x_kcg rfl ?_
        refine a_icT rfl rfl br_ne (by decide) ?_
        refine x_opp rfl rfl ?_
        refine x_kcg rfl ?_
        refine a_icT rfl rfl br_ne (by decide) ?_
        refine x_lvs [(0, .ref 0), (1, .int (nI G)), (2, .int (nI mo)), (3, .int (nI lim)), (4, .int (nI (fl + 1))), (5, .int (aI 0))] rfl rfl rfl ⟨rfl, rfl, rfl, rfl, rfl, rfl, trivial⟩ ?_
        exact hq M2 (svF_tr y1 (svF_s z1)) (dK_s z1 y10) (by rw [z2]; exact y8)
      · rw [if_neg z] at e
        rw [e] at hq
        refine ih (sBack S') p' (fl + 1) M' (fs ++ [S'.2.2]) (by omega) y6 y2 (Or.inr ⟨y7, S', D.1.length - 1, by omega, rfl, y4, y3⟩) y8 y9 (by rw [List.length_append, hf]; rfl) (by show S'.1 - 1 ≤ _; omega) y10 (fun M2 z1 z2 z3 => ?_)
        have := hq M2 (svF_tr y1 z1) (by rw [List.append_assoc] at z2; exact z2) z3
        rw [show fl + ((1 : Nat), (sGo D lim (m + 1) (sBack S') p').2.1, (sGo D lim (m + 1) (sBack S') p').2.2.1, S'.2.2 :: (sGo D lim (m + 1) (sBack S') p').2.2.2).2.2.2.length = fl + 1 + (sGo D lim (m + 1) (sBack S') p').2.2.2.length from by show fl + (_ + 1) = _; omega] at this
        exact this
end SV
