/-! the searching of the desk: arrive, go back -/
theorem mA_1ne (M : mm_T) {a c : Nat} (f : Nat → Int32) (h : c ≠ a) : (m_setA M a f).1 c = M.1 c := mA_ne M f h
theorem mA_2 (M : mm_T) (a : Nat) (f : Nat → Int32) : (m_setA M a f).2 = M.2 := rfl
/-- behind an arrival at depth k -/
def arM (M : mm_T) (b : Nat) (D : sD) (f : Nat → Nat) (k : Nat) : mm_T := if k < D.1.length then m_setL (m_setL (m_setI M (b + 11) k 0) (b + 12) k (stF (fun i => nI (f (mPl (sE D k) i))) (sE D k).2.2.1)) (b + 13) k (mkF (stF (fun i => nI (f (mPl (sE D k) i))) (sE D k).2.2.1) 7) else M
section CT
variable {L : Nat} {xs : Nat → Int32} {d : Nat} {sh : List sh_T} {M : mm_T} {Q : Option Value → sm_W → Prop} {b : Nat} {D : sD} {S : sS}
theorem c_arrive {k : Nat} {f : Nat → Nat} (hs : srSh sh b) (hd : dOK D) (hD : cD M b D) (h12 : M.1 b 12 = nI k) (hk : k ≤ D.1.length) (hf : ∀ e, e ∈ D.1 → ∀ i, i < e.2.2.1 → sg5 (M.1 (b + 10) (mPl e i)) = f (mPl e i)) (hq : Q none (wm sh (arM M b D f k))) : sm_E L xs (d + 3) 96 [.ref b] (wm sh M) Q := by
  have hs' := hs
  obtain ⟨s0, s1, -, -, -, s9, s10, s11, s12, s13, -⟩ := hs
  have h42 := hd.1
  have hsz := hD.1.1
  refine e_intro rfl rfl ?_
  unfold arM at hq
  by_cases g : k < D.1.length
  · rw [if_pos g] at hq
    have ho := hd.2.2.1 k g
    have e9 := hD.2.2.2 k g
    have M1f : sFr M (m_setI M (b + 11) k 0) b := ⟨rfl, fun a x y z => mI_ne _ _ _ z, fun _ _ => rfl, by rw [mI_ne _ _ _ (by omega)], by rw [mI_ne _ _ _ (by omega)]⟩
    have D1 := cD_fr M1f hD
    have e12 : (m_setI M (b + 11) k 0).1 b 12 = nI k := by rw [mI_ne _ _ _ (by omega)]; exact h12
    have e9b : (m_setI M (b + 11) k 0).1 (b + 9) k = nI (D.2.2.1 k) := by rw [mI_ne _ _ _ (by omega)]; exact e9
    repeat (first | refine x_kcg rfl ?_ | refine x_opp rfl rfl ?_ | refine x_go rfl ?_ | refine m_getg s0 rfl rfl rfl ?_)
    rw [h12]
    refine m_get s1.1 rfl ?_
    rw [hsz]
    refine x_icm br_ge (fun h => absurd h (nI_ge g (by omega))) (fun _ => ?_)
    repeat (first | refine x_kcg rfl ?_ | refine x_opp rfl rfl ?_ | refine x_go rfl ?_ | refine m_getg s0 rfl rfl rfl ?_)
    rw [h12]
    refine m_iast s11 (vp_in_nI (by omega) (by decide)) ?_
    rw [nI_clamp (by omega)]
    repeat (first | refine x_kcg rfl ?_ | refine x_opp rfl rfl ?_ | refine x_go rfl ?_ | refine m_getg s0 rfl rfl rfl ?_)
    rw [e12]
    refine m_iald s9 (vp_in_nI (by omega) (by decide)) ?_
    rw [nI_clamp (by omega), e9b]
    repeat (first | refine x_kcg rfl ?_ | refine x_opp rfl rfl ?_ | refine x_go rfl ?_ | refine m_getg s0 rfl rfl rfl ?_)
    refine m_callV s1.1 rfl rfl rfl (c_stand2 (f := f) hs' hd D1 ho (fun i hi => ?_) ?_)
    · rw [mI_ne _ _ _ (by omega)]
      exact hf _ (List.mem_of_getElem? (eAt_get ho)) i hi
    · repeat (first | refine x_kcg rfl ?_ | refine x_opp rfl rfl ?_ | refine x_go rfl ?_ | refine m_getg s0 rfl rfl rfl ?_)
      refine m_last s12 (vp_in_nI (by omega) (by decide)) ?_
      rw [nI_clamp (by omega)]
      generalize hst : stF (fun i => nI (f (mPl (sE D k) i))) (sE D k).2.2.1 = st at hq
      rw [show stF (fun i => nI (f (mPl (eAt D.1 (D.2.2.1 k)) i))) (eAt D.1 (D.2.2.1 k)).2.2.1 = st from hst]
      have e12b : (m_setL (m_setI M (b + 11) k 0) (b + 12) k st).1 b 12 = nI k := e12
      repeat (first | refine x_kcg rfl ?_ | refine x_opp rfl rfl ?_ | refine x_go rfl ?_ | refine m_getg s0 rfl rfl rfl ?_)
      rw [e12b]
      refine m_lald s12 (vp_in_nI (by omega) (by decide)) ?_
      rw [nI_clamp (by omega), mL_at, if_pos ⟨rfl, rfl⟩]
      refine m_callS rfl rfl (c_maskOf ?_)
      repeat (first | refine x_kcg rfl ?_ | refine x_opp rfl rfl ?_ | refine x_go rfl ?_)
      refine m_last s13 (vp_in_nI (by omega) (by decide)) ?_
      rw [nI_clamp (by omega)]
      refine x_fall ?_
      exact x_ret hq
  · rw [if_neg g] at hq
    have e : k = D.1.length := by omega
    repeat (first | refine x_kcg rfl ?_ | refine x_opp rfl rfl ?_ | refine x_go rfl ?_ | refine m_getg s0 rfl rfl rfl ?_)
    rw [h12]
    refine m_get s1.1 rfl ?_
    rw [hsz]
    refine x_icm br_ge (fun _ => ?_) (fun h => absurd (nI_le (by omega) (by omega)) h)
    exact x_ret hq
theorem c_goBack {k : Nat} (hs : srSh sh b) (hd : dOK D) (hD : cD M b D) (h12 : M.1 b 12 = nI (k + 1)) (hk : k < D.1.length) (hq : Q none (wm sh (m_setA (m_setI M b 12 (nI k)) (b + 10) (wrF (M.1 (b + 10)) (sE D k) (M.2.1 (b + 12) k) (sE D k).2.2.1)))) : sm_E L xs (d + 3) 100 [.ref b] (wm sh M) Q := by
  have hs' := hs
  obtain ⟨s0, s1, -, -, -, s9, s10, s11, s12, s13, -⟩ := hs
  have h42 := hd.1
  have M1f : sFr M (m_setI M b 12 (nI k)) b := ⟨rfl, fun a x y z => mI_ne _ _ _ x, fun _ _ => rfl, by rw [mI_at, if_neg (by omega)], by rw [mI_at, if_neg (by omega)]⟩
  have D1 := cD_fr M1f hD
  have e12 : (m_setI M b 12 (nI k)).1 b 12 = nI k := by rw [mI_at, if_pos ⟨rfl, rfl⟩]
  have e9 := D1.2.2.2 k hk
  have g : ¬ nI k < 0 := nI_pos (by omega)
  refine e_intro rfl rfl ?_
  repeat (first | refine x_kcg rfl ?_ | refine x_opp rfl rfl ?_ | refine x_go rfl ?_ | refine m_getg s0 rfl rfl rfl ?_)
  rw [h12, nI_pred]
  refine m_putI s0 rfl ?_
  repeat (first | refine x_kcg rfl ?_ | refine x_opp rfl rfl ?_ | refine x_go rfl ?_ | refine m_getg s0 rfl rfl rfl ?_)
  rw [show (m_setI M b (2096 / 4 % 128) (nI k)).1 b 12 = nI k from e12]
  refine x_ifc br_lt (fun h => absurd h g) (fun _ => ?_)
  repeat (first | refine x_kcg rfl ?_ | refine x_opp rfl rfl ?_ | refine x_go rfl ?_ | refine m_getg s0 rfl rfl rfl ?_)
  rw [show (m_setI M b (2096 / 4 % 128) (nI k)).1 b 12 = nI k from e12]
  refine m_iald s9 (vp_in_nI (by omega) (by decide)) ?_
  rw [nI_clamp (by omega), show (m_setI M b (2096 / 4 % 128) (nI k)).1 (b + 9) k = nI (D.2.2.1 k) from e9]
  repeat (first | refine x_kcg rfl ?_ | refine x_opp rfl rfl ?_ | refine x_go rfl ?_ | refine m_getg s0 rfl rfl rfl ?_)
  rw [show (m_setI M b (2096 / 4 % 128) (nI k)).1 b 12 = nI k from e12]
  refine m_lald s12 (vp_in_nI (by omega) (by decide)) ?_
  rw [nI_clamp (by omega)]
  refine m_callV s0 rfl rfl rfl (c_write hs' hd D1 (hd.2.2.1 k hk) ?_)
  rw [mI_ne _ _ _ (show b + 10 ≠ b by omega)]
  refine x_fall ?_
  exact x_ret hq
theorem c_goBack0 (hs : srSh sh b) (h12 : M.1 b 12 = nI 0) (hq : Q none (wm sh (m_setI M b 12 (-1)))) : sm_E L xs (d + 3) 100 [.ref b] (wm sh M) Q := by
  obtain ⟨s0, -⟩ := hs
  have e12 : (m_setI M b 12 (-1)).1 b 12 = -1 := by rw [mI_at, if_pos ⟨rfl, rfl⟩]
  refine e_intro rfl rfl ?_
  repeat (first | refine x_kcg rfl ?_ | refine x_opp rfl rfl ?_ | refine x_go rfl ?_ | refine m_getg s0 rfl rfl rfl ?_)
  rw [h12, show nI 0 - 1 = -1 from rfl]
  refine m_putI s0 rfl ?_
  repeat (first | refine x_kcg rfl ?_ | refine x_opp rfl rfl ?_ | refine x_go rfl ?_ | refine m_getg s0 rfl rfl rfl ?_)
  rw [show (m_setI M b (2096 / 4 % 128) (-1)).1 b 12 = -1 from e12]
  refine x_ifc br_lt (fun _ => ?_) (fun h => absurd (by decide) h)
  exact x_ret hq
/-- the state behind going back -/
theorem cS_back (hd : dOK D) (hI : sI D S) (h1 : 1 ≤ S.1) (h : cS M b D S) : cS (m_setA (m_setI M b 12 (nI (S.1 - 1))) (b + 10) (wrF (M.1 (b + 10)) (sE D (S.1 - 1)) (M.2.1 (b + 12) (S.1 - 1)) (sE D (S.1 - 1)).2.2.1)) b D (sBack S) ∧ sFr M (m_setA (m_setI M b 12 (nI (S.1 - 1))) (b + 10) (wrF (M.1 (b + 10)) (sE D (S.1 - 1)) (M.2.1 (b + 12) (S.1 - 1)) (sE D (S.1 - 1)).2.2.1)) b := by
  obtain ⟨a1, a2, a3, a4, a5⟩ := h
  obtain ⟨i1, i2, i3⟩ := hI
  have hk : S.1 - 1 < D.1.length := by omega
  refine ⟨⟨?_, fun k hk1 hk2 => ?_, fun k hk1 => ?_, fun k hk1 hk2 => ?_, fun e he i hi => ?_⟩, rfl, fun a x y z => ?_, fun a x => rfl, ?_, ?_⟩
  · rw [mA_1ne _ _ (by omega), mI_at, if_pos ⟨rfl, rfl⟩]
    rfl
  · have hk1 : k ≤ S.1 - 1 := hk1
    rw [mA_1ne _ _ (by omega), mI_ne _ _ _ (by omega)]
    exact a2 k (by omega) hk2
  · have hk1 : k < S.1 - 1 := hk1
    exact a3 k (by omega)
  · have hk1 : k ≤ S.1 - 1 := hk1
    exact a4 k (by omega) hk2
  · rw [mA_eq]
    have hb := a5 e he i hi
    rw [wrF_sg (b := sB D S.2.2 S.1) hb]
    show _ = sB D S.2.2 (S.1 - 1) (mPl e i)
    have eS : S.1 = (S.1 - 1) + 1 := by omega
    obtain ⟨st1, -⟩ := a4 (S.1 - 1) (by omega) hk
    have ho := dOK_e hd hk
    have h7 : (sE D (S.1 - 1)).2.2.1 ≤ 7 := by
      have := ho.2.2
      split at this <;> omega
    by_cases g : ∃ j, j < (sE D (S.1 - 1)).2.2.1 ∧ mPl e i = mPl (sE D (S.1 - 1)) j
    · obtain ⟨j, hj, e1⟩ := g
      rw [e1, putN_at _ _ _ hj, st1, (stF_ok _ _ h7).2 j, if_pos hj]
      exact (n32_dec _ (sB_lt hd _ _ _)).2.1
    · rw [putN_ne _ _ _ (fun j hj e1 => g ⟨j, hj, e1⟩)]
      conv => lhs; rw [eS]
      show putN (sB D S.2.2 (S.1 - 1)) (sE D (S.1 - 1)) (lt5 (S.2.2 (S.1 - 1))) (sE D (S.1 - 1)).2.2.1 (mPl e i) = _
      rw [putN_ne _ _ _ (fun j hj e1 => g ⟨j, hj, e1⟩)]
  · rw [mA_1ne _ _ y, mI_ne _ _ _ x]
  · rw [mA_1ne _ _ (by omega), mI_at, if_neg (by omega)]
  · rw [mA_1ne _ _ (by omega), mI_at, if_neg (by omega)]
end CT
