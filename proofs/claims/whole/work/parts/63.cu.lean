/-! the searching of the desk: the next candidate, the next filling -/
theorem g40r (x k : Nat) : nI x * 40 + nI k = nI (40 * x + k) := by
  rw [show (40 : Int32) = nI 40 from rfl, pk_mul, nI_add, Nat.mul_comm]
section CU
variable {L : Nat} {xs : Nat → Int32} {d : Nat} {sh : List sh_T} {M : mm_T} {Q : Option Value → sm_W → Prop} {b : Nat} {D : sD} {S : sS}
/-- a step that sets nothing -/
theorem cS_step {p : Nat} (h : cS M b D S) : cS (m_setI (m_setI M (b + 11) S.1 (nI (S.2.1 S.1 + 1))) b 15 (nI p)) b D (S.1, updN S.2.1 S.1 (S.2.1 S.1 + 1), S.2.2) ∧ sFr M (m_setI (m_setI M (b + 11) S.1 (nI (S.2.1 S.1 + 1))) b 15 (nI p)) b := by
  obtain ⟨a1, a2, a3, a4, a5⟩ := h
  refine ⟨⟨?_, fun k hk1 hk2 => ?_, a3, a4, fun e he i hi => ?_⟩, rfl, fun a x y z => ?_, fun a x => rfl, ?_, ?_⟩
  · rw [mI_at, if_neg (by omega), mI_ne _ _ _ (by omega)]
    exact a1
  · rw [mI_ne _ _ _ (by omega), mI_at]
    show _ = nI (updN S.2.1 S.1 (S.2.1 S.1 + 1) k)
    unfold updN
    by_cases e : k = S.1
    · rw [if_pos ⟨rfl, e⟩, if_pos e]
    · rw [if_neg (fun h => e h.2), if_neg e]
      exact a2 k hk1 hk2
  · rw [mI_ne _ _ _ (by omega), mI_ne _ _ _ (by omega)]
    exact a5 e he i hi
  · rw [mI_ne _ _ _ x, mI_ne _ _ _ z]
  · rw [mI_at, if_neg (by omega), mI_ne _ _ _ (by omega)]
  · rw [mI_at, if_neg (by omega), mI_ne _ _ _ (by omega)]
/-- a step that sets a word -/
theorem cS_put {nx : Nat → Nat} {w : Int64} (h : cS M b D (S.1, nx, S.2.2)) (hlt : S.1 < D.1.length) (M4 : mm_T) (hM4 : M4 = m_setI (m_setA (m_setL M (b + 14) S.1 w) (b + 10) (wrF (M.1 (b + 10)) (sE D S.1) w (sE D S.1).2.2.1)) b 12 (nI (S.1 + 1))) :
    (∀ e, e ∈ D.1 → ∀ i, i < e.2.2.1 → sg5 (M4.1 (b + 10) (mPl e i)) = sB D (updW S.2.2 S.1 w) (S.1 + 1) (mPl e i)) ∧ sFr M M4 b ∧ M4.1 b 12 = nI (S.1 + 1) ∧ M4.1 b 13 = M.1 b 13 ∧ M4.1 b 15 = M.1 b 15 ∧ cS (arM M4 b D (sB D (updW S.2.2 S.1 w) (S.1 + 1)) (S.1 + 1)) b D (S.1 + 1, updN nx (S.1 + 1) 0, updW S.2.2 S.1 w) ∧ sFr M4 (arM M4 b D (sB D (updW S.2.2 S.1 w) (S.1 + 1)) (S.1 + 1)) b ∧ (arM M4 b D (sB D (updW S.2.2 S.1 w) (S.1 + 1)) (S.1 + 1)).1 b = M4.1 b := by
  obtain ⟨a1, a2, a3, a4, a5⟩ := h
  have key : ∀ k, k ≤ S.1 → sB D (updW S.2.2 S.1 w) k = sB D S.2.2 k := fun k hk => sB_ext D (fun j hj => by unfold updW; rw [if_neg (by omega)])
  have hb : ∀ e, e ∈ D.1 → ∀ i, i < e.2.2.1 → sg5 (M4.1 (b + 10) (mPl e i)) = sB D (updW S.2.2 S.1 w) (S.1 + 1) (mPl e i) := by
    intro e he i hi
    rw [hM4, mI_ne _ _ _ (by omega), mA_eq, wrF_sg (b := sB D S.2.2 S.1) (a5 e he i hi)]
    show _ = putN (sB D (updW S.2.2 S.1 w) S.1) (sE D S.1) (lt5 (updW S.2.2 S.1 w S.1)) (sE D S.1).2.2.1 (mPl e i)
    rw [key S.1 (Nat.le_refl _), show updW S.2.2 S.1 w S.1 = w by unfold updW; rw [if_pos rfl]]
  have f4 : sFr M M4 b := by
    rw [hM4]
    refine ⟨rfl, fun a x y z => ?_, fun a x => ?_, ?_, ?_⟩
    · rw [mI_ne _ _ _ x, mA_1ne _ _ y]
      rfl
    · show (m_setL M (b + 14) S.1 w).2.1 a = M.2.1 a
      rw [mL_ne _ _ _ (by omega)]
    · rw [mI_at, if_neg (by omega), mA_1ne _ _ (by omega)]
      rfl
    · rw [mI_at, if_neg (by omega), mA_1ne _ _ (by omega)]
      rfl
  have e12 : M4.1 b 12 = nI (S.1 + 1) := by rw [hM4, mI_at, if_pos ⟨rfl, rfl⟩]
  have e13 : M4.1 b 13 = M.1 b 13 := by rw [hM4, mI_at, if_neg (by omega), mA_1ne _ _ (by omega)]; rfl
  have e15 : M4.1 b 15 = M.1 b 15 := by rw [hM4, mI_at, if_neg (by omega), mA_1ne _ _ (by omega)]; rfl
  have l11 : M4.1 (b + 11) = M.1 (b + 11) := by rw [hM4, mI_ne _ _ _ (by omega), mA_1ne _ _ (by omega)]; rfl
  have l14 : ∀ k, k < S.1 + 1 → M4.2.1 (b + 14) k = updW S.2.2 S.1 w k := by
    intro k hk
    rw [hM4]
    show (m_setL M (b + 14) S.1 w).2.1 (b + 14) k = _
    rw [mL_at]
    unfold updW
    by_cases e : k = S.1
    · rw [if_pos ⟨rfl, e⟩, if_pos e]
    · rw [if_neg (fun h => e h.2), if_neg e]
      exact a3 k (show k < S.1 by omega)
  have l12 : ∀ a, a ≠ b + 14 → M4.2.1 a = M.2.1 a := by
    intro a ha
    rw [hM4]
    show (m_setL M (b + 14) S.1 w).2.1 a = M.2.1 a
    rw [mL_ne _ _ _ ha]
  refine ⟨hb, f4, e12, e13, e15, ?_⟩
  unfold arM
  by_cases g : S.1 + 1 < D.1.length
  · rw [if_pos g]
    refine ⟨⟨?_, fun k hk1 hk2 => ?_, fun k hk1 => ?_, fun k hk1 hk2 => ?_, fun e he i hi => ?_⟩, ⟨rfl, fun a x y z => ?_, fun a x => ?_, ?_, ?_⟩, ?_⟩
    · show (m_setI M4 (b + 11) (S.1 + 1) 0).1 b 12 = _
      rw [mI_ne _ _ _ (by omega)]
      exact e12
    · have hk1 : k ≤ S.1 + 1 := hk1
      show (m_setI M4 (b + 11) (S.1 + 1) 0).1 (b + 11) k = nI (updN nx (S.1 + 1) 0 k)
      rw [mI_at]
      unfold updN
      by_cases e : k = S.1 + 1
      · rw [if_pos ⟨rfl, e⟩, if_pos e]
        rfl
      · rw [if_neg (fun h => e h.2), if_neg e, l11]
        exact a2 k (show k ≤ S.1 by omega) hk2
    · rw [mL_ne _ _ _ (by omega), mL_ne _ _ _ (by omega)]
      exact l14 k hk1
    · have hk1 : k ≤ S.1 + 1 := hk1
      have v12 : ∀ st m, (m_setL (m_setL (m_setI M4 (b + 11) (S.1 + 1) 0) (b + 12) (S.1 + 1) st) (b + 13) (S.1 + 1) m).2.1 (b + 12) k = if k = S.1 + 1 then st else M4.2.1 (b + 12) k := by
        intro st m
        rw [mL_ne _ _ _ (by omega), mL_at]
        by_cases e : k = S.1 + 1
        · rw [if_pos ⟨rfl, e⟩, if_pos e]
        · rw [if_neg (fun h => e h.2), if_neg e]
          rfl
      have v13 : ∀ st m, (m_setL (m_setL (m_setI M4 (b + 11) (S.1 + 1) 0) (b + 12) (S.1 + 1) st) (b + 13) (S.1 + 1) m).2.1 (b + 13) k = if k = S.1 + 1 then m else M4.2.1 (b + 13) k := by
        intro st m
        rw [mL_at]
        by_cases e : k = S.1 + 1
        · rw [if_pos ⟨rfl, e⟩, if_pos e]
        · rw [if_neg (fun h => e h.2), if_neg e, mL_ne _ _ _ (by omega)]
          rfl
      rw [v12, v13]
      by_cases e : k = S.1 + 1
      · rw [if_pos e, if_pos e, e]
        exact ⟨rfl, rfl⟩
      · rw [if_neg e, if_neg e]
        have h4 := a4 k (show k ≤ S.1 by omega) hk2
        show M4.2.1 (b + 12) k = _ ∧ M4.2.1 (b + 13) k = mkF (M4.2.1 (b + 12) k) 7
        rw [l12 (b + 12) (by omega), l12 (b + 13) (by omega)]
        rw [show sB D (S.1 + 1, updN nx (S.1 + 1) 0, updW S.2.2 S.1 w).2.2 k = sB D S.2.2 k from key k (by omega)]
        exact h4
    · show sg5 ((m_setI M4 (b + 11) (S.1 + 1) 0).1 (b + 10) (mPl e i)) = _
      rw [mI_ne _ _ _ (by omega)]
      exact hb e he i hi
    · show (m_setI M4 (b + 11) (S.1 + 1) 0).1 a = _
      rw [mI_ne _ _ _ z]
    · rw [mL_ne _ _ _ (by omega), mL_ne _ _ _ (by omega)]
      rfl
    · show (m_setI M4 (b + 11) (S.1 + 1) 0).1 b 14 = _
      rw [mI_ne _ _ _ (by omega)]
    · show (m_setI M4 (b + 11) (S.1 + 1) 0).1 b 16 = _
      rw [mI_ne _ _ _ (by omega)]
    · show (m_setI M4 (b + 11) (S.1 + 1) 0).1 b = _
      rw [mI_ne _ _ _ (by omega)]
  · rw [if_neg g]
    refine ⟨⟨e12, fun k hk1 hk2 => ?_, l14, fun k hk1 hk2 => ?_, hb⟩, sFr_rfl _ _, rfl⟩
    · have hk1 : k ≤ S.1 + 1 := hk1
      show M4.1 (b + 11) k = nI (updN nx (S.1 + 1) 0 k)
      unfold updN
      rw [if_neg (by omega), l11]
      exact a2 k (show k ≤ S.1 by omega) hk2
    · have hk1 : k ≤ S.1 + 1 := hk1
      have h4 := a4 k (show k ≤ S.1 by omega) hk2
      rw [l12 (b + 12) (by omega), l12 (b + 13) (by omega)]
      rw [show sB D (S.1 + 1, updN nx (S.1 + 1) 0, updW S.2.2 S.1 w).2.2 k = sB D S.2.2 k from key k (by omega)]
      exact h4
theorem c_look {p : Nat} (hs : srSh sh b) (hd : dOK D) (hD : cD M b D) (hS : cS M b D S) (hlt : S.1 < D.1.length) (hnx : S.2.1 S.1 < (sC D S.1).length) (h15 : M.1 b 15 = nI p)
    (hq : ∀ M', cS M' b D (sLook D S) → sFr M M' b → M'.1 b 15 = nI (p + 1) → M'.1 b 13 = M.1 b 13 → Q none (wm sh M')) : sm_E L xs (d + 4) 102 [.ref b] (wm sh M) Q := by
  have hs' := hs
  obtain ⟨s0, s1, s6, -, -, s9, s10, s11, s12, s13, s14⟩ := hs
  obtain ⟨a1, a2, a3, a4, a5⟩ := id hS
  have h42 := hd.1
  have hx := hd.2.2.1 S.1 hlt
  have e9 := hD.2.2.2 S.1 hlt
  have e11 := a2 S.1 (Nat.le_refl _) hlt
  have hc40 := hd.2.2.2.1 _ hx
  have hnx2 : S.2.1 S.1 < (D.2.1 (D.2.2.1 S.1)).length := hnx
  have e6 : M.2.1 (b + 6) (40 * D.2.2.1 S.1 + S.2.1 S.1) = sW D S := hD.2.2.1 _ _ hx hnx2
  obtain ⟨st1, st2⟩ := a4 S.1 (Nat.le_refl _) hlt
  have ho : eOK (sE D S.1) := dOK_e hd hlt
  have h7 : (sE D S.1).2.2.1 ≤ 7 := by
    have := ho.2.2
    split at this <;> omega
  have hw : wOK 26 (sW D S) (sE D S.1).2.2.1 := by
    have hm : sW D S ∈ D.2.1 (D.2.2.1 S.1) := by
      show (D.2.1 (D.2.2.1 S.1)).getD (S.2.1 S.1) 0 ∈ _
      rw [List.getD_eq_getElem?_getD, List.getElem?_eq_getElem hnx2]
      exact List.getElem_mem hnx2
    exact hd.2.2.2.2.1 _ _ hx hm
  have hagr : ((sW D S ^^^ M.2.1 (b + 12) S.1) &&& M.2.1 (b + 13) S.1 = 0) ↔ agrB (sV (sE D S.1) (sB D S.2.2 S.1)) (sE D S.1).2.2.1 (sW D S) = true := by
    rw [st2, st1, agrB_iff]
    have k1 := agr_sz (f := fun i => nI (sB D S.2.2 S.1 (mPl (sE D S.1) i))) (w := sW D S) (Or.inr ⟨_, hw⟩) ho.2.1 h7
    have k2 : (fun i => sg5 (nI (sB D S.2.2 S.1 (mPl (sE D S.1) i)))) = sV (sE D S.1) (sB D S.2.2 S.1) := by
      funext i
      exact (n32_dec _ (sB_lt hd _ _ _)).2.1
    rw [k2] at k1
    rw [← k1]
    exact ⟨fun h => ⟨lenU_ok (by decide) hw, h⟩, fun h => h.2⟩
  obtain ⟨t1, t2⟩ := cS_step (p := p + 1) hS
  refine e_intro rfl rfl ?_
  repeat (first | refine x_kcg rfl ?_ | refine x_opp rfl rfl ?_ | refine x_go rfl ?_ | refine m_getg s0 rfl rfl rfl ?_)
  rw [a1]
  refine m_iald s9 (vp_in_nI (by omega) (by decide)) ?_
  rw [nI_clamp (by omega), e9]
  repeat (first | refine x_kcg rfl ?_ | refine x_opp rfl rfl ?_ | refine x_go rfl ?_ | refine m_getg s0 rfl rfl rfl ?_)
  rw [a1]
  refine m_iald s11 (vp_in_nI (by omega) (by decide)) ?_
  rw [nI_clamp (by omega), e11]
  repeat (first | refine x_kcg rfl ?_ | refine x_opp rfl rfl ?_ | refine x_go rfl ?_)
  rw [g40r]
  refine m_lald s6 (vp_in_nI (by omega) (by decide)) ?_
  rw [nI_clamp (by omega), e6]
  repeat (first | refine x_kcg rfl ?_ | refine x_opp rfl rfl ?_ | refine x_go rfl ?_ | refine m_getg s0 rfl rfl rfl ?_)
  rw [a1]
  repeat (first | refine x_kcg rfl ?_ | refine x_opp rfl rfl ?_ | refine x_go rfl ?_)
  refine m_iald s11 (vp_in_nI (by omega) (by decide)) ?_
  rw [nI_clamp (by omega), e11]
  repeat (first | refine x_kcg rfl ?_ | refine x_opp rfl rfl ?_ | refine x_go rfl ?_)
  rw [nI_1]
  refine m_iast s11 (vp_in_nI (by omega) (by decide)) ?_
  rw [nI_clamp (by omega)]
  have b15 : (m_setI M (b + 11) S.1 (nI (S.2.1 S.1 + 1))).1 b 15 = nI p := by rw [mI_ne _ _ _ (by omega)]; exact h15
  repeat (first | refine x_kcg rfl ?_ | refine x_opp rfl rfl ?_ | refine x_go rfl ?_ | refine m_getg s0 rfl rfl rfl ?_)
  rw [b15, nI_1]
  refine m_putI s0 rfl ?_
  rw [show m_setI (m_setI M (b + 11) S.1 (nI (S.2.1 S.1 + 1))) b (2108 / 4 % 128) (nI (p + 1)) = m_setI (m_setI M (b + 11) S.1 (nI (S.2.1 S.1 + 1))) b 15 (nI (p + 1)) from rfl]
  have c12 : (m_setI (m_setI M (b + 11) S.1 (nI (S.2.1 S.1 + 1))) b 15 (nI (p + 1))).1 b 12 = nI S.1 := t1.1
  have c15 : (m_setI (m_setI M (b + 11) S.1 (nI (S.2.1 S.1 + 1))) b 15 (nI (p + 1))).1 b 15 = nI (p + 1) := by rw [mI_at, if_pos ⟨rfl, rfl⟩]
  have c13 : (m_setI (m_setI M (b + 11) S.1 (nI (S.2.1 S.1 + 1))) b 15 (nI (p + 1))).1 b 13 = M.1 b 13 := by rw [mI_at, if_neg (by omega), mI_ne _ _ _ (by omega)]
  have cL : (m_setI (m_setI M (b + 11) S.1 (nI (S.2.1 S.1 + 1))) b 15 (nI (p + 1))).2.1 = M.2.1 := rfl
  have D2 := cD_fr t2 hD
  generalize hM2 : m_setI (m_setI M (b + 11) S.1 (nI (S.2.1 S.1 + 1))) b 15 (nI (p + 1)) = M2 at t1 t2 c12 c15 c13 cL D2 ⊢
  repeat (first | refine x_kcg rfl ?_ | refine x_opp rfl rfl ?_ | refine x_go rfl ?_ | refine m_getg s0 rfl rfl rfl ?_)
  rw [c12]
  refine m_lald s12 (vp_in_nI (by omega) (by decide)) ?_
  rw [nI_clamp (by omega), cL]
  repeat (first | refine x_kcg rfl ?_ | refine x_opp rfl rfl ?_ | refine x_go rfl ?_ | refine m_getg s0 rfl rfl rfl ?_)
  rw [c12]
  refine m_lald s13 (vp_in_nI (by omega) (by decide)) ?_
  rw [nI_clamp (by omega), cL]
  repeat (first | refine x_kcg rfl ?_ | refine x_opp rfl rfl ?_ | refine x_go rfl ?_)
  by_cases g1 : agrB (sV (sE D S.1) (sB D S.2.2 S.1)) (sE D S.1).2.2.1 (sW D S) = true
  · have g1' := hagr.mpr g1
    refine x_ifc br_lne (fun h => absurd g1' h) (fun _ => ?_)
    repeat (first | refine x_kcg rfl ?_ | refine x_opp rfl rfl ?_ | refine x_go rfl ?_)
    refine m_callV s0 rfl rfl rfl (c_isSet (tk := S.2.2) hs' c12 (by omega) (fun k hk => by rw [cL]; exact a3 k hk) ?_)
    by_cases g2 : anyW S.2.2 (sW D S) S.1 = true
    · have hno : sOk D S = false := by unfold sOk; rw [g1, g2]; rfl
      have eL : sLook D S = (S.1, updN S.2.1 S.1 (S.2.1 S.1 + 1), S.2.2) := by unfold sLook; rw [if_neg (by rw [hno]; decide)]
      rw [eL] at hq
      have fin := hq M2 t1 t2 c15 c13
      rw [g2]
      refine x_ifc br_nez (fun _ => ?_) (fun h => absurd rfl h)
      exact x_ret fin
    · have hyes : sOk D S = true := by unfold sOk; rw [g1, nt_f g2]; rfl
      have eL : sLook D S = (S.1 + 1, updN (updN S.2.1 S.1 (S.2.1 S.1 + 1)) (S.1 + 1) 0, updW S.2.2 S.1 (sW D S)) := by unfold sLook; rw [if_pos hyes]
      rw [eL] at hq
      rw [nt_f g2]
      refine x_ifc br_nez (fun h => by cases h) (fun _ => ?_)
      obtain ⟨q1, q2, q3, q4, q5, q6, q7, q8⟩ := cS_put (S := S) (nx := updN S.2.1 S.1 (S.2.1 S.1 + 1)) (w := sW D S) t1 hlt _ rfl
      have f3 : sFr M2 (m_setL M2 (b + 14) S.1 (sW D S)) b := ⟨rfl, fun _ _ _ _ => rfl, fun a x => by rw [mL_ne _ _ _ (by omega)], rfl, rfl⟩
      have D3 := cD_fr f3 D2
      repeat (first | refine x_kcg rfl ?_ | refine x_opp rfl rfl ?_ | refine x_go rfl ?_ | refine m_getg s0 rfl rfl rfl ?_)
      rw [c12]
      repeat (first | refine x_kcg rfl ?_ | refine x_opp rfl rfl ?_ | refine x_go rfl ?_)
      refine m_last s14 (vp_in_nI (by omega) (by decide)) ?_
      rw [nI_clamp (by omega)]
      repeat (first | refine x_kcg rfl ?_ | refine x_opp rfl rfl ?_ | refine x_go rfl ?_)
      refine m_callV s0 rfl rfl rfl (c_write hs' hd D3 hx ?_)
      have w12 : (m_setA (m_setL M2 (b + 14) S.1 (sW D S)) (b + 10) (wrF ((m_setL M2 (b + 14) S.1 (sW D S)).1 (b + 10)) (eAt D.1 (D.2.2.1 S.1)) (sW D S) (eAt D.1 (D.2.2.1 S.1)).2.2.1)).1 b 12 = nI S.1 := by rw [mA_1ne _ _ (by omega)]; exact c12
      repeat (first | refine x_kcg rfl ?_ | refine x_opp rfl rfl ?_ | refine x_go rfl ?_ | refine m_getg s0 rfl rfl rfl ?_)
      rw [w12, nI_1]
      refine m_putI s0 rfl ?_
      generalize hM4 : m_setI (m_setA (m_setL M2 (b + 14) S.1 (sW D S)) (b + 10) (wrF (M2.1 (b + 10)) (sE D S.1) (sW D S) (sE D S.1).2.2.1)) b 12 (nI (S.1 + 1)) = M4 at q1 q2 q3 q4 q5 q6 q7 q8
      rw [show m_setI (m_setA (m_setL M2 (b + 14) S.1 (sW D S)) (b + 10) (wrF ((m_setL M2 (b + 14) S.1 (sW D S)).1 (b + 10)) (eAt D.1 (D.2.2.1 S.1)) (sW D S) (eAt D.1 (D.2.2.1 S.1)).2.2.1)) b (2096 / 4 % 128) (nI (S.1 + 1)) = M4 from hM4]
      have D4 := cD_fr q2 D2
      repeat (first | refine x_kcg rfl ?_ | refine x_opp rfl rfl ?_ | refine x_go rfl ?_)
      refine m_callV s0 rfl rfl rfl (c_arrive hs' hd D4 q3 (by omega) q1 ?_)
      refine x_fall ?_
      refine x_ret (hq _ q6 (sFr_tr t2 (sFr_tr q2 q7)) ?_ ?_)
      · rw [q8, q5]
        exact c15
      · rw [q8, q4]
        exact c13
  · have hno : sOk D S = false := by unfold sOk; rw [nt_f g1]; rfl
    have eL : sLook D S = (S.1, updN S.2.1 S.1 (S.2.1 S.1 + 1), S.2.2) := by unfold sLook; rw [if_neg (by rw [hno]; decide)]
    rw [eL] at hq
    have fin := hq M2 t1 t2 c15 c13
    have g1' : ¬ ((sW D S ^^^ M.2.1 (b + 12) S.1) &&& M.2.1 (b + 13) S.1 = 0) := fun h => g1 (hagr.mp h)
    refine x_ifc br_lne (fun _ => ?_) (fun h => absurd g1' h)
    exact x_ret fin
/-- on to the next filling -/
theorem l_next {lim p0 : Nat} (hs : srSh sh b) (hd : dOK D) (hD : cD M b D) (h16 : M.1 b 16 = nI lim) (hl : lim ≤ 5000) : ∀ k S p i M1 r, sNx D lim k S p = some r → p ≤ lim → i + k + 2 ≤ 1000000 → sI D S → cS M1 b D S → sFr M M1 b → M1.1 b 15 = nI p → M1.1 b 13 = 0 →
    (r.1 = 1 → ∀ M', sI D r.2.1 → cS M' b D r.2.1 → r.2.1.1 = D.1.length → r.2.2 ≤ lim → sFr M M' b → M'.1 b 15 = nI r.2.2 → M'.1 b 13 = 1 → Q (some (.int 1)) (wm sh M')) →
    (r.1 = 0 → ∀ M', sFr M M' b → M'.1 b 15 = nI r.2.2 → r.2.2 ≤ lim → Q (some (.int 0)) (wm sh M')) →
    (r.1 = 2 → ∀ M', sI D r.2.1 → cS M' b D r.2.1 → r.2.1.1 < D.1.length → r.2.2 ≤ lim → sFr M M' b → M'.1 b 15 = nI r.2.2 → M'.1 b 13 = 0 → Q (some (.int (-4))) (wm sh M')) →
    sm_X L xs (d + 4) 99 3 (sm_code 99 3) [(0, .ref b), (1, .int (nI i))] [] (wm sh M1) Q := by
  have hs' := hs
  obtain ⟨s0, s1, s6, s7, -, s9, s10, s11, s12, s13, s14⟩ := hs
  have h42 := hd.1
  intro k
  induction k with
  | zero => intro S p i M1 r h; cases h
  | succ k ih =>
    intro S p i M1 r h hp hi hI hS hF e15 e13 q1 q0 q2
    have D1 := cD_fr hF hD
    have hI1 := hI.1
    have a1 := hS.1
    have gi : ¬ (1000000 : Int32) ≤ nI i := nI_ge (b := 1000000) (by omega) (by decide)
    have gd : ¬ nI S.1 < 0 := nI_pos (by omega)
    have esz := D1.1.1
    unfold sNx at h
    repeat (first | refine x_kcg rfl ?_ | refine x_opp rfl rfl ?_ | refine x_go rfl ?_)
    refine x_icm br_ge (fun h => absurd h gi) (fun _ => ?_)
    repeat (first | refine x_kcg rfl ?_ | refine x_opp rfl rfl ?_ | refine x_go rfl ?_ | refine m_getg s0 rfl rfl rfl ?_)
    rw [a1]
    refine x_ifc br_lt (fun h => absurd h gd) (fun _ => ?_)
    repeat (first | refine x_kcg rfl ?_ | refine x_opp rfl rfl ?_ | refine x_go rfl ?_ | refine m_getg s0 rfl rfl rfl ?_)
    rw [a1]
    refine m_get s1.1 rfl ?_
    rw [esz]
    by_cases g1 : S.1 = D.1.length
    · rw [if_pos g1] at h
      cases h
      refine x_icm br_ne (fun h => absurd (by rw [g1]) h) (fun _ => ?_)
      repeat (first | refine x_kcg rfl ?_ | refine x_opp rfl rfl ?_ | refine x_go rfl ?_)
      refine m_putI s0 rfl ?_
      repeat (first | refine x_kcg rfl ?_ | refine x_opp rfl rfl ?_ | refine x_go rfl ?_)
      refine x_iret rfl (q1 rfl _ hI ?_ g1 hp (sFr_tr hF ?_) ?_ ?_)
      · obtain ⟨b1, b2, b3, b4, b5⟩ := hS
        refine ⟨?_, fun k x y => ?_, b3, b4, fun e he j hj => ?_⟩
        · rw [mI_at, if_neg (by omega)]; exact b1
        · rw [mI_ne _ _ _ (by omega)]; exact b2 k x y
        · rw [mI_ne _ _ _ (by omega)]; exact b5 e he j hj
      · exact ⟨rfl, fun a x y z => mI_ne _ _ _ x, fun _ _ => rfl, by rw [mI_at, if_neg (by omega)], by rw [mI_at, if_neg (by omega)]⟩
      · rw [mI_at, if_neg (by omega)]; exact e15
      · rw [mI_at, if_pos ⟨rfl, rfl⟩]
    · rw [if_neg g1] at h
      have hlt : S.1 < D.1.length := by omega
      have hx := hd.2.2.1 S.1 hlt
      have c9 := D1.2.2.2 S.1 hlt
      have c7 := D1.2.1 _ hx
      have c11 := hS.2.1 S.1 (Nat.le_refl _) hlt
      have hc40 := hd.2.2.2.1 _ hx
      have hnx := hI.2.2 S.1 (Nat.le_refl _) hlt
      have hscl : (sC D S.1).length = (D.2.1 (D.2.2.1 S.1)).length := rfl
      refine x_icm br_ne (fun _ => ?_) (fun h => absurd (fun e => g1 ((nI_eq (by omega) (by omega)).mp e)) h)
      repeat (first | refine x_kcg rfl ?_ | refine x_opp rfl rfl ?_ | refine x_go rfl ?_ | refine m_getg s0 rfl rfl rfl ?_)
      rw [a1]
      refine m_iald s11 (vp_in_nI (by omega) (by decide)) ?_
      rw [nI_clamp (by omega), c11]
      repeat (first | refine x_kcg rfl ?_ | refine x_opp rfl rfl ?_ | refine x_go rfl ?_ | refine m_getg s0 rfl rfl rfl ?_)
      rw [a1]
      refine m_iald s9 (vp_in_nI (by omega) (by decide)) ?_
      rw [nI_clamp (by omega), c9]
      refine m_iald s7 (vp_in_nI (by omega) (by decide)) ?_
      rw [nI_clamp (by omega), c7]
      by_cases g2 : (sC D S.1).length ≤ S.2.1 S.1
      · rw [if_pos g2] at h
        refine x_icm br_lt (fun h => absurd h (nI_nlt (by omega) (by omega))) (fun _ => ?_)
        by_cases g3 : S.1 = 0
        · rw [if_pos g3] at h
          cases h
          repeat (first | refine x_kcg rfl ?_ | refine x_opp rfl rfl ?_ | refine x_go rfl ?_)
          refine m_callV s0 rfl rfl rfl (c_goBack0 hs' (by rw [a1, g3]) ?_)
          have f0 : sFr M (m_setI M1 b 12 (-1)) b := sFr_tr hF ⟨rfl, fun a x y z => mI_ne _ _ _ x, fun _ _ => rfl, by rw [mI_at, if_neg (by omega)], by rw [mI_at, if_neg (by omega)]⟩
          have fin := q0 rfl (m_setI M1 b 12 (-1)) f0 (by rw [mI_at, if_neg (by omega)]; exact e15) hp
          have gi2 : ¬ (1000000 : Int32) ≤ nI (i + 1) := nI_ge (b := 1000000) (by omega) (by decide)
          have z12 : (m_setI M1 b 12 (-1)).1 b 12 < 0 := by rw [mI_at, if_pos ⟨rfl, rfl⟩]; decide
          repeat' (first | refine x_kcg rfl ?_ | refine x_incg rfl rfl ?_ | refine x_opp rfl rfl ?_ | refine x_go rfl ?_ | (refine a_at isGf rfl ?_; first | refine m_getg s0 rfl rfl rfl ?_) | (refine a_at isPf rfl ?_; first | refine a_putI s0 rfl rfl rfl ?_ | refine a_putL s0 rfl rfl rfl ?_) | (refine a_at isAr rfl ?_; first | refine a_iald s0 rfl rfl ?_ ?_ | refine a_bald s0 rfl rfl ?_ ?_ | refine a_lald s0 rfl rfl ?_ ?_ | refine a_iast s0 rfl rfl ?_ ?_ | refine a_last s0 rfl rfl ?_ ?_ | refine a_bast s0 rfl rfl ?_ ?_ ?_) | (refine a_at isIf rfl ?_; first | (refine a_ifT rfl rfl br_eqz (by assumption) ?_) | (refine a_ifF rfl rfl br_eqz (by assumption) ?_) | (refine a_ifT rfl rfl br_nez (by assumption) ?_) | (refine a_ifF rfl rfl br_nez (by assumption) ?_) | (refine a_ifT rfl rfl br_eqz (nt_f (by assumption)) ?_) | (refine a_ifF rfl rfl br_eqz (tnf (by assumption)) ?_) | (refine a_ifF rfl rfl br_nez (fnt (by assumption)) ?_) | (refine a_if rfl rfl br_eqz (fun _ => ?_) (fun _ => ?_)) | (refine a_if rfl rfl br_nez (fun _ => ?_) (fun _ => ?_)) | (refine a_ifF rfl rfl br_ne (fun h => h (by assumption)) ?_) | (refine a_ifT rfl rfl br_eq (by assumption) ?_) | (refine a_ifF rfl rfl br_eq (by assumption) ?_) | (refine a_ifT rfl rfl br_ne (by assumption) ?_) | (refine a_ifF rfl rfl br_ne (by assumption) ?_) | (refine a_ifT rfl rfl br_lt (by assumption) ?_) | (refine a_ifF rfl rfl br_lt (by assumption) ?_) | (refine a_ifT rfl rfl br_ge (by assumption) ?_) | (refine a_ifF rfl rfl br_ge (by assumption) ?_) | (refine a_ifT rfl rfl br_gt (by assumption) ?_) | (refine a_ifF rfl rfl br_gt (by assumption) ?_) | (refine a_ifT rfl rfl br_le (by assumption) ?_) | (refine a_ifF rfl rfl br_le (by assumption) ?_) | (refine a_if rfl rfl br_eq (fun _ => ?_) (fun _ => ?_)) | (refine a_if rfl rfl br_ne (fun _ => ?_) (fun _ => ?_)) | (refine a_if rfl rfl br_lt (fun _ => ?_) (fun _ => ?_)) | (refine a_if rfl rfl br_ge (fun _ => ?_) (fun _ => ?_)) | (refine a_if rfl rfl br_gt (fun _ => ?_) (fun _ => ?_)) | (refine a_if rfl rfl br_le (fun _ => ?_) (fun _ => ?_))) | (refine a_at isIc rfl ?_; first | (refine a_icF rfl rfl br_ne (fun h => h (by assumption)) ?_) | (refine a_icT rfl rfl br_eq (by assumption) ?_) | (refine a_icF rfl rfl br_eq (by assumption) ?_) | (refine a_icT rfl rfl br_ne (by assumption) ?_) | (refine a_icF rfl rfl br_ne (by assumption) ?_) | (refine a_icT rfl rfl br_lt (by assumption) ?_) | (refine a_icF rfl rfl br_lt (by assumption) ?_) | (refine a_icT rfl rfl br_ge (by assumption) ?_) | (refine a_icF rfl rfl br_ge (by assumption) ?_) | (refine a_icT rfl rfl br_gt (by assumption) ?_) | (refine a_icF rfl rfl br_gt (by assumption) ?_) | (refine a_icT rfl rfl br_le (by assumption) ?_) | (refine a_icF rfl rfl br_le (by assumption) ?_) | (refine a_ic rfl rfl br_eq (fun _ => ?_) (fun _ => ?_)) | (refine a_ic rfl rfl br_ne (fun _ => ?_) (fun _ => ?_)) | (refine a_ic rfl rfl br_lt (fun _ => ?_) (fun _ => ?_)) | (refine a_ic rfl rfl br_ge (fun _ => ?_) (fun _ => ?_)) | (refine a_ic rfl rfl br_gt (fun _ => ?_) (fun _ => ?_)) | (refine a_ic rfl rfl br_le (fun _ => ?_) (fun _ => ?_))) | (refine a_at isRt rfl ?_; first | refine a_iret rfl rfl rfl ?_ | refine a_zret rfl rfl ?_ ?_ | refine a_lret rfl rfl ?_ | refine a_ret rfl rfl ?_))
          exact fin
        · rw [if_neg g3] at h
          have e1 : S.1 = S.1 - 1 + 1 := by omega
          obtain ⟨t1, t2⟩ := cS_back hd hI (by omega) hS
          repeat (first | refine x_kcg rfl ?_ | refine x_opp rfl rfl ?_ | refine x_go rfl ?_)
          refine m_callV s0 rfl rfl rfl (c_goBack (k := S.1 - 1) hs' hd D1 (by rw [← e1]; exact a1) (by omega) ?_)
          refine x_goto ?_
          repeat (first | refine x_kcg rfl ?_ | refine x_incg rfl rfl ?_ | refine x_opp rfl rfl ?_)
          refine x_goto ?_
          refine x_lvs [(0, .ref b), (1, .int (nI (i + 1)))] rfl rfl rfl ⟨rfl, rfl, trivial⟩ ?_
          refine ih (sBack S) p (i + 1) _ r h hp (by omega) (sI_back hI) t1 (sFr_tr hF t2) ?_ ?_ q1 q0 q2
          · rw [mA_1ne _ _ (by omega), mI_at, if_neg (by omega)]; exact e15
          · rw [mA_1ne _ _ (by omega), mI_at, if_neg (by omega)]; exact e13
      · rw [if_neg g2] at h
        refine x_icm br_lt (fun _ => ?_) (fun h => absurd (nI_lt (by omega) (by omega)) h)
        have f16 : M1.1 b 16 = nI lim := by rw [hF.2.2.2.2]; exact h16
        repeat (first | refine x_kcg rfl ?_ | refine x_opp rfl rfl ?_ | refine x_go rfl ?_ | refine m_getg s0 rfl rfl rfl ?_)
        rw [e15, f16]
        by_cases g3 : p = lim
        · rw [if_pos g3] at h
          cases h
          refine x_icm br_ne (fun h => absurd (by rw [g3]) h) (fun _ => ?_)
          repeat (first | refine x_kcg rfl ?_ | refine x_opp rfl rfl ?_ | refine x_go rfl ?_)
          exact x_iret rfl (q2 rfl M1 hI hS hlt hp hF e15 e13)
        · rw [if_neg g3] at h
          refine x_icm br_ne (fun _ => ?_) (fun h => absurd (fun e => g3 ((nI_eq (by omega) (by omega)).mp e)) h)
          repeat (first | refine x_kcg rfl ?_ | refine x_opp rfl rfl ?_ | refine x_go rfl ?_)
          refine m_callV s0 rfl rfl rfl (c_look (d := d) hs' hd D1 hS hlt (by omega) e15 (fun M2 t1 t2 t3 t4 => ?_))
          refine x_fall ?_
          repeat (first | refine x_kcg rfl ?_ | refine x_incg rfl rfl ?_ | refine x_opp rfl rfl ?_)
          refine x_goto ?_
          refine x_lvs [(0, .ref b), (1, .int (nI (i + 1)))] rfl rfl rfl ⟨rfl, rfl, trivial⟩ ?_
          exact ih (sLook D S) (p + 1) (i + 1) M2 r h (by omega) (by omega) (sI_look hI hlt (by omega)) t1 (sFr_tr hF t2) t3 (t4.trans e13) q1 q0 q2
end CU
