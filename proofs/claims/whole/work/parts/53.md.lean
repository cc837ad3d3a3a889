/-! the reference's questions of lists: the loop -/
abbrev lvA (l0 a0 : Int32) (o0 : Int64) : sm_L := [(0, .ref 65), (1, .int l0), (2, .int a0), (3, .long o0)]
section MR2
variable {L : Nat} {xs : Nat → Int32} {d : Nat} {dy : List sh_T} {M : mm_T} {Q : Option Value → sm_W → Prop} {E : Nat → lT} {n : Nat} {l0 a0 : Int32} {o0 : Int64}
/-- the loop's head -/
abbrev hAsk (L : Nat) (xs : Nat → Int32) (d : Nat) (dy : List sh_T) (Q : Option Value → sm_W → Prop) (l0 a0 : Int32) (o0 : Int64) (M : mm_T) : Prop := sm_X L xs (d + 3) 171 1 (sm_code 171 1) (lvA l0 a0 o0) [] (wm (sh0 ++ dy) M) Q
theorem t_sub (t : Nat) : nI (t + 1) - 1 = nI t := nI_pred t
set_option maxRecDepth 4000 in
theorem l_it {l t act ph : Nat} {o : Int64} {k : Nat} (ht : t < 40) (hl : l < 16) (h24 : M.1 65 24 = nI (t + 1)) (h31 : M.1 65 31 = 0) (h86 : M.1 86 t = nI l) (h87 : M.1 87 t = nI act) (h88 : M.2.1 88 t = o) (h89 : M.1 89 t = nI ph) (hp : ph ≤ 2) (h75 : M.1 75 l = nI k) (hk : k ≤ 4) (hd : ph = 0 → M.1 80 l = 0)
    (h0 : k < 3 → sm_E L xs (d + 3) 173 [.ref 65, .int (nI l), .int (nI act), .long o] (wm (sh0 ++ dy) (m_setI M 89 t (nI (ph + 1)))) (fun r w => ∃ M', r = none ∧ w = wm (sh0 ++ dy) M' ∧ hAsk L xs d dy Q l0 a0 o0 M'))
    (h3 : k = 3 → sm_E L xs (d + 3) 176 [.ref 65, .int (nI t), .int (nI l), .int (nI act), .long o, .int (nI ph)] (wm (sh0 ++ dy) (m_setI M 89 t (nI (ph + 1)))) (fun r w => ∃ M', r = none ∧ w = wm (sh0 ++ dy) M' ∧ hAsk L xs d dy Q l0 a0 o0 M'))
    (h4 : k = 4 → sm_E L xs (d + 3) 178 [.ref 65, .int (nI t), .int (nI l), .int (nI act), .long o, .int (nI ph)] (wm (sh0 ++ dy) (m_setI M 89 t (nI (ph + 1)))) (fun r w => ∃ M', r = none ∧ w = wm (sh0 ++ dy) M' ∧ hAsk L xs d dy Q l0 a0 o0 M')) : hAsk L xs d dy Q l0 a0 o0 M := by
  have hm := s_65 dy
  have p24 : ¬ nI (t + 1) ≤ 0 := nI_nle (by omega) (by omega)
  have et := t_sub t
  have e1 : nI ph + 1 = nI (ph + 1) := nI_1 ph
  generalize hM1 : m_setI M 89 t (nI (ph + 1)) = M1 at h0 h3 h4
  have g75 : M1.1 75 l = nI k := by rw [← hM1, mI_ne _ _ _ (by decide)]; exact h75
  have g80 : M1.1 80 l = M.1 80 l := by rw [← hM1, mI_ne _ _ _ (by decide)]
  have g87 : M1.1 87 t = nI act := by rw [← hM1, mI_ne _ _ _ (by decide)]; exact h87
  have g88 : M1.2.1 88 t = o := by rw [← hM1]; exact h88
  have T6 : sm_X L xs (d + 3) 171 6 (sm_code 171 6) [(0, .ref 65), (1, .int l0), (2, .int a0), (3, .long o0), (5, .int (nI t)), (6, .int (nI l)), (7, .int (nI ph))] [] (wm (sh0 ++ dy) M1) Q := by
    by_cases k3 : k < 3
    · have c1 : ¬ (3 : Int32) ≤ nI k := nI_ge (b := 3) k3 (by decide)
      have hc := h0 k3
      repeat (first | refine x_kcg rfl ?_ | refine x_opp rfl rfl ?_ | refine x_go rfl ?_ | refine m_getg hm rfl rfl rfl ?_)
      refine m_iald (s_75 dy) (vp_in_nI hl (by decide)) ?_
      rw [nI_clamp (by omega), g75]
      repeat (first | refine x_kcg rfl ?_ | refine x_opp rfl rfl ?_ | refine x_go rfl ?_)
      refine x_icm br_ge (fun h => absurd h c1) (fun _ => ?_)
      repeat (first | refine x_kcg rfl ?_ | refine x_opp rfl rfl ?_ | refine x_go rfl ?_ | refine m_getg hm rfl rfl rfl ?_)
      refine m_iald (s_87 dy) (vp_in_nI ht (by decide)) ?_
      rw [nI_clamp (by omega), g87]
      repeat (first | refine x_kcg rfl ?_ | refine x_opp rfl rfl ?_ | refine x_go rfl ?_ | refine m_getg hm rfl rfl rfl ?_)
      refine m_lald (s_88 dy) (vp_in_nI ht (by decide)) ?_
      rw [nI_clamp (by omega), g88]
      refine m_callV hm rfl rfl rfl (e_mono hc ?_)
      rintro _ _ ⟨M', rfl, rfl, hx⟩
      refine x_goto ?_
      refine x_goto ?_
      refine x_lvs [(0, .ref 65), (1, .int l0), (2, .int a0), (3, .long o0)] rfl rfl rfl ⟨rfl, rfl, rfl, rfl, trivial⟩ ?_
      exact hx
    · have c1 : (3 : Int32) ≤ nI k := nI_le (a := 3) (by omega) (by omega)
      by_cases k4 : k = 3
      · have c2 : nI k = 3 := by rw [k4]; rfl
        have hc := h3 k4
        repeat (first | refine x_kcg rfl ?_ | refine x_opp rfl rfl ?_ | refine x_go rfl ?_ | refine m_getg hm rfl rfl rfl ?_)
        refine m_iald (s_75 dy) (vp_in_nI hl (by decide)) ?_
        rw [nI_clamp (by omega), g75]
        repeat (first | refine x_kcg rfl ?_ | refine x_opp rfl rfl ?_ | refine x_go rfl ?_)
        refine x_icm br_ge (fun _ => ?_) (fun h => absurd c1 h)
        repeat (first | refine x_kcg rfl ?_ | refine x_opp rfl rfl ?_ | refine x_go rfl ?_ | refine m_getg hm rfl rfl rfl ?_)
        refine m_iald (s_75 dy) (vp_in_nI hl (by decide)) ?_
        rw [nI_clamp (by omega), g75]
        repeat (first | refine x_kcg rfl ?_ | refine x_opp rfl rfl ?_ | refine x_go rfl ?_)
        refine x_icm br_ne (fun h => absurd c2 h) (fun _ => ?_)
        repeat (first | refine x_kcg rfl ?_ | refine x_opp rfl rfl ?_ | refine x_go rfl ?_ | refine m_getg hm rfl rfl rfl ?_)
        refine m_iald (s_87 dy) (vp_in_nI ht (by decide)) ?_
        rw [nI_clamp (by omega), g87]
        repeat (first | refine x_kcg rfl ?_ | refine x_opp rfl rfl ?_ | refine x_go rfl ?_ | refine m_getg hm rfl rfl rfl ?_)
        refine m_lald (s_88 dy) (vp_in_nI ht (by decide)) ?_
        rw [nI_clamp (by omega), g88]
        repeat (first | refine x_kcg rfl ?_ | refine x_opp rfl rfl ?_ | refine x_go rfl ?_)
        refine m_callV hm rfl rfl rfl (e_mono hc ?_)
        rintro _ _ ⟨M', rfl, rfl, hx⟩
        refine x_goto ?_
        refine x_goto ?_
        refine x_lvs [(0, .ref 65), (1, .int l0), (2, .int a0), (3, .long o0)] rfl rfl rfl ⟨rfl, rfl, rfl, rfl, trivial⟩ ?_
        exact hx
      · have c2 : ¬ nI k = 3 := fun e => k4 ((nI_eq (b := 3) (by omega) (by decide)).mp e)
        have hc := h4 (by omega)
        repeat (first | refine x_kcg rfl ?_ | refine x_opp rfl rfl ?_ | refine x_go rfl ?_ | refine m_getg hm rfl rfl rfl ?_)
        refine m_iald (s_75 dy) (vp_in_nI hl (by decide)) ?_
        rw [nI_clamp (by omega), g75]
        repeat (first | refine x_kcg rfl ?_ | refine x_opp rfl rfl ?_ | refine x_go rfl ?_)
        refine x_icm br_ge (fun _ => ?_) (fun h => absurd c1 h)
        repeat (first | refine x_kcg rfl ?_ | refine x_opp rfl rfl ?_ | refine x_go rfl ?_ | refine m_getg hm rfl rfl rfl ?_)
        refine m_iald (s_75 dy) (vp_in_nI hl (by decide)) ?_
        rw [nI_clamp (by omega), g75]
        repeat (first | refine x_kcg rfl ?_ | refine x_opp rfl rfl ?_ | refine x_go rfl ?_)
        refine x_icm br_ne (fun _ => ?_) (fun h => absurd c2 h)
        repeat (first | refine x_kcg rfl ?_ | refine x_opp rfl rfl ?_ | refine x_go rfl ?_ | refine m_getg hm rfl rfl rfl ?_)
        refine m_iald (s_87 dy) (vp_in_nI ht (by decide)) ?_
        rw [nI_clamp (by omega), g87]
        repeat (first | refine x_kcg rfl ?_ | refine x_opp rfl rfl ?_ | refine x_go rfl ?_ | refine m_getg hm rfl rfl rfl ?_)
        refine m_lald (s_88 dy) (vp_in_nI ht (by decide)) ?_
        rw [nI_clamp (by omega), g88]
        repeat (first | refine x_kcg rfl ?_ | refine x_opp rfl rfl ?_ | refine x_go rfl ?_)
        refine m_callV hm rfl rfl rfl (e_mono hc ?_)
        rintro _ _ ⟨M', rfl, rfl, hx⟩
        refine x_fall ?_
        refine x_goto ?_
        refine x_lvs [(0, .ref 65), (1, .int l0), (2, .int a0), (3, .long o0)] rfl rfl rfl ⟨rfl, rfl, rfl, rfl, trivial⟩ ?_
        exact hx
  have z0 := z00
  repeat (first | refine x_kcg rfl ?_ | refine x_opp rfl rfl ?_ | refine x_go rfl ?_ | refine m_getg hm rfl rfl rfl ?_)
  rw [h24]
  refine x_ifc br_le (fun h => absurd h p24) (fun _ => ?_)
  repeat (first | refine x_kcg rfl ?_ | refine x_opp rfl rfl ?_ | refine x_go rfl ?_ | refine m_getg hm rfl rfl rfl ?_)
  rw [h31]
  refine x_ifc br_ne (fun h => absurd rfl h) (fun _ => ?_)
  repeat (first | refine x_kcg rfl ?_ | refine x_opp rfl rfl ?_ | refine x_go rfl ?_ | refine m_getg hm rfl rfl rfl ?_)
  rw [h24, et]
  repeat (first | refine x_kcg rfl ?_ | refine x_opp rfl rfl ?_ | refine x_go rfl ?_ | refine m_getg hm rfl rfl rfl ?_)
  refine m_iald (s_86 dy) (vp_in_nI ht (by decide)) ?_
  rw [nI_clamp (by omega), h86]
  repeat (first | refine x_kcg rfl ?_ | refine x_opp rfl rfl ?_ | refine x_go rfl ?_ | refine m_getg hm rfl rfl rfl ?_)
  refine m_iald (s_89 dy) (vp_in_nI ht (by decide)) ?_
  rw [nI_clamp (by omega), h89]
  repeat (first | refine x_kcg rfl ?_ | refine x_opp rfl rfl ?_ | refine x_go rfl ?_ | refine m_getg hm rfl rfl rfl ?_)
  refine m_iald (s_89 dy) (vp_in_nI ht (by decide)) ?_
  rw [nI_clamp (by omega), h89]
  repeat (first | refine x_kcg rfl ?_ | refine x_opp rfl rfl ?_ | refine x_go rfl ?_ | refine m_getg hm rfl rfl rfl ?_)
  rw [e1]
  refine m_iast (s_89 dy) (vp_in_nI ht (by decide)) ?_
  rw [nI_clamp (by omega), hM1]
  repeat (first | refine x_kcg rfl ?_ | refine x_opp rfl rfl ?_ | refine x_go rfl ?_)
  by_cases p0 : ph = 0
  · have c3 : nI ph = 0 := by rw [p0]; rfl
    have c4 : M1.1 80 l = 0 := by rw [g80]; exact hd p0
    refine x_ifc br_ne (fun h => absurd c3 h) (fun _ => ?_)
    repeat (first | refine x_kcg rfl ?_ | refine x_opp rfl rfl ?_ | refine x_go rfl ?_ | refine m_getg hm rfl rfl rfl ?_)
    refine m_bald (s_80 dy) (vp_in_nI hl (by decide)) ?_
    rw [nI_clamp (by omega), c4]
    refine x_ifc br_eq (fun _ => ?_) (fun h => absurd rfl h)
    refine x_lvs [(0, .ref 65), (1, .int l0), (2, .int a0), (3, .long o0), (5, .int (nI t)), (6, .int (nI l)), (7, .int (nI ph))] rfl rfl rfl ⟨rfl, rfl, rfl, rfl, rfl, rfl, rfl, trivial⟩ ?_
    exact T6
  · have c3 : ¬ nI ph = 0 := fun e => p0 ((nI_eq (b := 0) (by omega) (by decide)).mp e)
    refine x_ifc br_ne (fun _ => ?_) (fun h => absurd c3 h)
    refine x_lvs [(0, .ref 65), (1, .int l0), (2, .int a0), (3, .long o0), (5, .int (nI t)), (6, .int (nI l)), (7, .int (nI ph))] rfl rfl rfl ⟨rfl, rfl, rfl, rfl, rfl, rfl, rfl, trivial⟩ ?_
    exact T6
set_option maxRecDepth 4000 in
theorem l_itD {l t : Nat} (ht : t < 40) (hl : l < 16) (h24 : M.1 65 24 = nI (t + 1)) (h31 : M.1 65 31 = 0) (h86 : M.1 86 t = nI l) (h89 : M.1 89 t = 0) (hd : M.1 80 l = 1) (hx : hAsk L xs d dy Q l0 a0 o0 (m_setI (m_setI M 89 t 1) 65 31 1)) : hAsk L xs d dy Q l0 a0 o0 M := by
  have hm := s_65 dy
  have p24 : ¬ nI (t + 1) ≤ 0 := nI_nle (by omega) (by omega)
  have et := t_sub t
  have g80 : (m_setI M 89 t 1).1 80 l = 1 := by rw [mI_ne _ _ _ (by decide)]; exact hd
  repeat (first | refine x_kcg rfl ?_ | refine x_opp rfl rfl ?_ | refine x_go rfl ?_ | refine m_getg hm rfl rfl rfl ?_)
  rw [h24]
  refine x_ifc br_le (fun h => absurd h p24) (fun _ => ?_)
  repeat (first | refine x_kcg rfl ?_ | refine x_opp rfl rfl ?_ | refine x_go rfl ?_ | refine m_getg hm rfl rfl rfl ?_)
  rw [h31]
  refine x_ifc br_ne (fun h => absurd rfl h) (fun _ => ?_)
  repeat (first | refine x_kcg rfl ?_ | refine x_opp rfl rfl ?_ | refine x_go rfl ?_ | refine m_getg hm rfl rfl rfl ?_)
  rw [h24, et]
  repeat (first | refine x_kcg rfl ?_ | refine x_opp rfl rfl ?_ | refine x_go rfl ?_ | refine m_getg hm rfl rfl rfl ?_)
  refine m_iald (s_86 dy) (vp_in_nI ht (by decide)) ?_
  rw [nI_clamp (by omega), h86]
  repeat (first | refine x_kcg rfl ?_ | refine x_opp rfl rfl ?_ | refine x_go rfl ?_ | refine m_getg hm rfl rfl rfl ?_)
  refine m_iald (s_89 dy) (vp_in_nI ht (by decide)) ?_
  rw [nI_clamp (by omega), h89]
  repeat (first | refine x_kcg rfl ?_ | refine x_opp rfl rfl ?_ | refine x_go rfl ?_ | refine m_getg hm rfl rfl rfl ?_)
  refine m_iald (s_89 dy) (vp_in_nI ht (by decide)) ?_
  rw [nI_clamp (by omega), h89]
  repeat (first | refine x_kcg rfl ?_ | refine x_opp rfl rfl ?_ | refine x_go rfl ?_ | refine m_getg hm rfl rfl rfl ?_)
  rw [show (0 : Int32) + 1 = 1 from rfl]
  refine m_iast (s_89 dy) (vp_in_nI ht (by decide)) ?_
  rw [nI_clamp (by omega)]
  repeat (first | refine x_kcg rfl ?_ | refine x_opp rfl rfl ?_ | refine x_go rfl ?_)
  refine x_ifc br_ne (fun h => absurd rfl h) (fun _ => ?_)
  repeat (first | refine x_kcg rfl ?_ | refine x_opp rfl rfl ?_ | refine x_go rfl ?_ | refine m_getg hm rfl rfl rfl ?_)
  refine m_bald (s_80 dy) (vp_in_nI hl (by decide)) ?_
  rw [nI_clamp (by omega), g80]
  refine x_ifc br_eq (fun h => absurd h z10) (fun _ => ?_)
  repeat (first | refine x_kcg rfl ?_ | refine x_opp rfl rfl ?_ | refine x_go rfl ?_)
  refine m_putI hm rfl ?_
  refine x_goto ?_
  refine x_goto ?_
  refine x_lvs [(0, .ref 65), (1, .int l0), (2, .int a0), (3, .long o0)] rfl rfl rfl ⟨rfl, rfl, rfl, rfl, trivial⟩ ?_
  exact hx
end MR2
