/-! the searching of the desk: the next filling, what is written, what is told -/
theorem wi_dec : ∀ a, a < 128 → ∀ t, t < 32 → (nI a &&& (-32) ||| nI t = nI (a / 32 * 32 + t)) ∧ a / 32 * 32 + t < 128 ∧ (a / 32 * 32 + t) / 32 * 32 = a / 32 * 32 := by decide +kernel
section CNF
variable {L : Nat} {xs : Nat → Int32} {d : Nat} {sh : List sh_T} {M : mm_T} {Q : Option Value → sm_W → Prop} {b : Nat} {D : sD} {S : sS}
theorem c_allow {v : Int32} (hs : srSh sh b) (hq : Q none (wm sh (m_setI (m_setI M b 15 0) b 16 v))) : sm_E L xs (d + 1) 98 [.ref b, .int v] (wm sh M) Q := by
  obtain ⟨s0, -⟩ := hs
  refine e_intro rfl rfl ?_
  repeat (first | refine x_kcg rfl ?_ | refine x_opp rfl rfl ?_ | refine x_go rfl ?_)
  refine m_putI s0 rfl ?_
  repeat (first | refine x_kcg rfl ?_ | refine x_opp rfl rfl ?_ | refine x_go rfl ?_)
  refine m_putI s0 rfl ?_
  exact x_ret hq
theorem c_next0 {lim p : Nat} {r : Nat × sS × Nat} (hs : srSh sh b) (hd : dOK D) (hD : cD M b D) (h16 : M.1 b 16 = nI lim) (hl : lim ≤ 5000) (hr : sNx D lim (2 * lim + 50) S p = some r) (hp : p ≤ lim) (hI : sI D S) (hS : cS M b D S) (e15 : M.1 b 15 = nI p) (e13 : M.1 b 13 = 0)
    (q1 : r.1 = 1 → ∀ M', sI D r.2.1 → cS M' b D r.2.1 → r.2.1.1 = D.1.length → r.2.2 ≤ lim → sFr M M' b → M'.1 b 15 = nI r.2.2 → M'.1 b 13 = 1 → Q (some (.int 1)) (wm sh M'))
    (q0 : r.1 = 0 → ∀ M', sFr M M' b → M'.1 b 15 = nI r.2.2 → r.2.2 ≤ lim → Q (some (.int 0)) (wm sh M'))
    (q2 : r.1 = 2 → ∀ M', sI D r.2.1 → cS M' b D r.2.1 → r.2.1.1 < D.1.length → r.2.2 ≤ lim → sFr M M' b → M'.1 b 15 = nI r.2.2 → M'.1 b 13 = 0 → Q (some (.int (-4))) (wm sh M')) : sm_E L xs (d + 5) 99 [.ref b] (wm sh M) Q := by
  have hs' := hs
  obtain ⟨s0, -⟩ := hs
  refine e_intro rfl rfl ?_
  have fin := l_next (L := L) (xs := xs) (d := d) (Q := Q) (p0 := 0) hs' hd hD h16 hl (2 * lim + 50) S p 0 M r hr hp (by omega) hI hS (sFr_rfl M b) e15 e13 q1 q0 q2
  repeat (first | refine x_kcg rfl ?_ | refine x_opp rfl rfl ?_ | refine x_go rfl ?_ | refine m_getg s0 rfl rfl rfl ?_)
  rw [e13]
  refine x_ifc br_eq (fun _ => ?_) (fun h => absurd rfl h)
  repeat (first | refine x_kcg rfl ?_ | refine x_opp rfl rfl ?_ | refine x_go rfl ?_)
  refine x_lvs [(0, .ref b), (1, .int (nI 0))] rfl rfl rfl ⟨rfl, rfl, trivial⟩ ?_
  exact fin
/-- behind a filling that stood: back by one, and on -/
theorem c_next1 {lim p k : Nat} {r : Nat × sS × Nat} (hs : srSh sh b) (hd : dOK D) (hD : cD M b D) (h16 : M.1 b 16 = nI lim) (hl : lim ≤ 5000) (hk : S.1 = k + 1) (hr : sNx D lim (2 * lim + 50) (sBack S) p = some r) (hp : p ≤ lim) (hI : sI D S) (hS : cS M b D S) (e15 : M.1 b 15 = nI p) (e13 : M.1 b 13 = 1)
    (q1 : r.1 = 1 → ∀ M', sI D r.2.1 → cS M' b D r.2.1 → r.2.1.1 = D.1.length → r.2.2 ≤ lim → sFr M M' b → M'.1 b 15 = nI r.2.2 → M'.1 b 13 = 1 → Q (some (.int 1)) (wm sh M'))
    (q0 : r.1 = 0 → ∀ M', sFr M M' b → M'.1 b 15 = nI r.2.2 → r.2.2 ≤ lim → Q (some (.int 0)) (wm sh M'))
    (q2 : r.1 = 2 → ∀ M', sI D r.2.1 → cS M' b D r.2.1 → r.2.1.1 < D.1.length → r.2.2 ≤ lim → sFr M M' b → M'.1 b 15 = nI r.2.2 → M'.1 b 13 = 0 → Q (some (.int (-4))) (wm sh M')) : sm_E L xs (d + 5) 99 [.ref b] (wm sh M) Q := by
  have hs' := hs
  obtain ⟨s0, -⟩ := hs
  have hI1 := hI.1
  refine e_intro rfl rfl ?_
  generalize hM1 : m_setI M b 13 0 = M1
  have f1 : sFr M M1 b := by rw [← hM1]; exact ⟨rfl, fun a x y z => mI_ne _ _ _ x, fun _ _ => rfl, by rw [mI_at, if_neg (by omega)], by rw [mI_at, if_neg (by omega)]⟩
  have S1 : cS M1 b D S := by
    obtain ⟨b1, b2, b3, b4, b5⟩ := hS
    rw [← hM1]
    refine ⟨?_, fun k x y => ?_, b3, b4, fun e he j hj => ?_⟩
    · rw [mI_at, if_neg (by omega)]; exact b1
    · rw [mI_ne _ _ _ (by omega)]; exact b2 k x y
    · rw [mI_ne _ _ _ (by omega)]; exact b5 e he j hj
  have D1 := cD_fr f1 hD
  have c15 : M1.1 b 15 = nI p := by rw [← hM1, mI_at, if_neg (by omega)]; exact e15
  have c13 : M1.1 b 13 = 0 := by rw [← hM1, mI_at, if_pos ⟨rfl, rfl⟩]
  have c16 : M1.1 b 16 = nI lim := by rw [f1.2.2.2.2]; exact h16
  obtain ⟨t1, t2⟩ := cS_back hd hI (by omega) S1
  have kk : S.1 - 1 = k := by omega
  rw [kk] at t1 t2
  generalize hM2 : m_setA (m_setI M1 b 12 (nI k)) (b + 10) (wrF (M1.1 (b + 10)) (sE D k) (M1.2.1 (b + 12) k) (sE D k).2.2.1) = M2 at t1 t2
  have f2 := sFr_tr f1 t2
  have D2 := cD_fr f2 hD
  have d15 : M2.1 b 15 = nI p := by rw [← hM2, mA_1ne _ _ (by omega), mI_at, if_neg (by omega)]; exact c15
  have d13 : M2.1 b 13 = 0 := by rw [← hM2, mA_1ne _ _ (by omega), mI_at, if_neg (by omega)]; exact c13
  have d16 : M2.1 b 16 = nI lim := by rw [f2.2.2.2.2]; exact h16
  have fin := l_next (L := L) (xs := xs) (d := d) (Q := Q) (p0 := 0) hs' hd D2 d16 hl (2 * lim + 50) (sBack S) p 0 M2 r hr hp (by omega) (sI_back hI) t1 (sFr_rfl M2 b) d15 d13 (fun e M' y1 y2 y3 y4 y5 => q1 e M' y1 y2 y3 y4 (sFr_tr f2 y5)) (fun e M' y1 => q0 e M' (sFr_tr f2 y1)) (fun e M' y1 y2 y3 y4 y5 => q2 e M' y1 y2 y3 y4 (sFr_tr f2 y5))
  repeat (first | refine x_kcg rfl ?_ | refine x_opp rfl rfl ?_ | refine x_go rfl ?_ | refine m_getg s0 rfl rfl rfl ?_)
  rw [e13]
  refine x_ifc br_eq (fun h => absurd h z10) (fun _ => ?_)
  repeat (first | refine x_kcg rfl ?_ | refine x_opp rfl rfl ?_ | refine x_go rfl ?_)
  refine m_putI s0 rfl ?_
  rw [show m_setI M b (2102 / 4 % 128) 0 = M1 from hM1]
  repeat (first | refine x_kcg rfl ?_ | refine x_opp rfl rfl ?_ | refine x_go rfl ?_)
  refine m_callV s0 rfl rfl rfl (c_goBack (d := d + 1) (k := k) hs' hd D1 (by rw [S1.1, hk]) (by omega) ?_)
  rw [hM2]
  refine x_fall ?_
  repeat (first | refine x_kcg rfl ?_ | refine x_opp rfl rfl ?_ | refine x_go rfl ?_)
  refine x_lvs [(0, .ref b), (1, .int (nI 0))] rfl rfl rfl ⟨rfl, rfl, trivial⟩ ?_
  exact fin
/-- no entries: behind the one filling there is none -/
theorem c_next1z (hs : srSh sh b) (h12 : M.1 b 12 = nI 0) (e13 : M.1 b 13 = 1) (q0 : ∀ M', sFr M M' b → M'.1 b 15 = M.1 b 15 → Q (some (.int 0)) (wm sh M')) : sm_E L xs (d + 5) 99 [.ref b] (wm sh M) Q := by
  have hs' := hs
  obtain ⟨s0, -⟩ := hs
  have fin := q0 (m_setI (m_setI M b 13 0) b 12 (-1)) ⟨rfl, fun a x y z => by rw [mI_ne _ _ _ x, mI_ne _ _ _ x], fun _ _ => rfl, by rw [mI_at, if_neg (by omega), mI_at, if_neg (by omega)], by rw [mI_at, if_neg (by omega), mI_at, if_neg (by omega)]⟩ (by rw [mI_at, if_neg (by omega), mI_at, if_neg (by omega)])
  have c12 : (m_setI M b 13 0).1 b 12 = nI 0 := by rw [mI_at, if_neg (by omega)]; exact h12
  have z12 : (m_setI (m_setI M b 13 0) b 12 (-1)).1 b 12 < 0 := by rw [mI_at, if_pos ⟨rfl, rfl⟩]; decide
  have gi : ¬ (1000000 : Int32) ≤ 0 := by decide
  refine e_intro rfl rfl ?_
  repeat (first | refine x_kcg rfl ?_ | refine x_opp rfl rfl ?_ | refine x_go rfl ?_ | refine m_getg s0 rfl rfl rfl ?_)
  rw [e13]
  refine x_ifc br_eq (fun h => absurd h z10) (fun _ => ?_)
  repeat (first | refine x_kcg rfl ?_ | refine x_opp rfl rfl ?_ | refine x_go rfl ?_)
  refine m_putI s0 rfl ?_
  repeat (first | refine x_kcg rfl ?_ | refine x_opp rfl rfl ?_ | refine x_go rfl ?_)
  refine m_callV s0 rfl rfl rfl (c_goBack0 (d := d + 1) hs' c12 ?_)
  repeat' (first | refine x_kcg rfl ?_ | refine x_incg rfl rfl ?_ | refine x_opp rfl rfl ?_ | refine x_go rfl ?_ | (refine a_at isGf rfl ?_; first | refine m_getg s0 rfl rfl rfl ?_) | (refine a_at isPf rfl ?_; first | refine a_putI s0 rfl rfl rfl ?_ | refine a_putL s0 rfl rfl rfl ?_) | (refine a_at isAr rfl ?_; first | refine a_iald s0 rfl rfl ?_ ?_ | refine a_bald s0 rfl rfl ?_ ?_ | refine a_lald s0 rfl rfl ?_ ?_ | refine a_iast s0 rfl rfl ?_ ?_ | refine a_last s0 rfl rfl ?_ ?_ | refine a_bast s0 rfl rfl ?_ ?_ ?_) | (refine a_at isIf rfl ?_; first | (refine a_ifT rfl rfl br_eqz (by assumption) ?_) | (refine a_ifF rfl rfl br_eqz (by assumption) ?_) | (refine a_ifT rfl rfl br_nez (by assumption) ?_) | (refine a_ifF rfl rfl br_nez (by assumption) ?_) | (refine a_ifT rfl rfl br_eqz (nt_f (by assumption)) ?_) | (refine a_ifF rfl rfl br_eqz (tnf (by assumption)) ?_) | (refine a_ifF rfl rfl br_nez (fnt (by assumption)) ?_) | (refine a_if rfl rfl br_eqz (fun _ => ?_) (fun _ => ?_)) | (refine a_if rfl rfl br_nez (fun _ => ?_) (fun _ => ?_)) | (refine a_ifF rfl rfl br_ne (fun h => h (by assumption)) ?_) | (refine a_ifT rfl rfl br_eq (by assumption) ?_) | (refine a_ifF rfl rfl br_eq (by assumption) ?_) | (refine a_ifT rfl rfl br_ne (by assumption) ?_) | (refine a_ifF rfl rfl br_ne (by assumption) ?_) | (refine a_ifT rfl rfl br_lt (by assumption) ?_) | (refine a_ifF rfl rfl br_lt (by assumption) ?_) | (refine a_ifT rfl rfl br_ge (by assumption) ?_) | (refine a_ifF rfl rfl br_ge (by assumption) ?_) | (refine a_ifT rfl rfl br_gt (by assumption) ?_) | (refine a_ifF rfl rfl br_gt (by assumption) ?_) | (refine a_ifT rfl rfl br_le (by assumption) ?_) | (refine a_ifF rfl rfl br_le (by assumption) ?_) | (refine a_if rfl rfl br_eq (fun _ => ?_) (fun _ => ?_)) | (refine a_if rfl rfl br_ne (fun _ => ?_) (fun _ => ?_)) | (refine a_if rfl rfl br_lt (fun _ => ?_) (fun _ => ?_)) | (refine a_if rfl rfl br_ge (fun _ => ?_) (fun _ => ?_)) | (refine a_if rfl rfl br_gt (fun _ => ?_) (fun _ => ?_)) | (refine a_if rfl rfl br_le (fun _ => ?_) (fun _ => ?_))) | (refine a_at isIc rfl ?_; first | (refine a_icF rfl rfl br_ne (fun h => h (by assumption)) ?_) | (refine a_icT rfl rfl br_eq (by assumption) ?_) | (refine a_icF rfl rfl br_eq (by assumption) ?_) | (refine a_icT rfl rfl br_ne (by assumption) ?_) | (refine a_icF rfl rfl br_ne (by assumption) ?_) | (refine a_icT rfl rfl br_lt (by assumption) ?_) | (refine a_icF rfl rfl br_lt (by assumption) ?_) | (refine a_icT rfl rfl br_ge (by assumption) ?_) | (refine a_icF rfl rfl br_ge (by assumption) ?_) | (refine a_icT rfl rfl br_gt (by assumption) ?_) | (refine a_icF rfl rfl br_gt (by assumption) ?_) | (refine a_icT rfl rfl br_le (by assumption) ?_) | (refine a_icF rfl rfl br_le (by assumption) ?_) | (refine a_ic rfl rfl br_eq (fun _ => ?_) (fun _ => ?_)) | (refine a_ic rfl rfl br_ne (fun _ => ?_) (fun _ => ?_)) | (refine a_ic rfl rfl br_lt (fun _ => ?_) (fun _ => ?_)) | (refine a_ic rfl rfl br_ge (fun _ => ?_) (fun _ => ?_)) | (refine a_ic rfl rfl br_gt (fun _ => ?_) (fun _ => ?_)) | (refine a_ic rfl rfl br_le (fun _ => ?_) (fun _ => ?_))) | (refine a_at isRt rfl ?_; first | refine a_iret rfl rfl rfl ?_ | refine a_zret rfl rfl ?_ ?_ | refine a_lret rfl rfl ?_ | refine a_ret rfl rfl ?_))
  exact fin
/-- a filling is told into an array -/
theorem c_tell {to from_ : Nat} {tk : Nat → Int64} (hs : srSh sh b) (hd : dOK D) (hin : ∀ i j, i < D.1.length → j < D.1.length → D.2.2.1 i = D.2.2.1 j → i = j) (hD : cD M b D) (hto : sh[to]? = some (arrL 126)) (hne : to ≠ b + 14) (hfr : from_ + 42 ≤ 126) (h14 : ∀ k, k < D.1.length → M.2.1 (b + 14) k = tk k)
    (hq : ∀ M', M'.1 = M.1 → M'.2.2 = M.2.2 → (∀ a, a ≠ to → M'.2.1 a = M.2.1 a) → (∀ j, (j < from_ ∨ from_ + 42 ≤ j) → M'.2.1 to j = M.2.1 to j) → (∀ k, k < D.1.length → M'.2.1 to (from_ + D.2.2.1 k) = tk k) → Q none (wm sh M')) : sm_E L xs (d + 1) 109 [.ref b, .ref to, .int (nI from_)] (wm sh M) Q := by
  obtain ⟨s0, s1, -, -, -, s9, -, -, -, -, s14⟩ := hs
  have h42 := hd.1
  refine e_intro rfl rfl ?_
  have lp : ∀ M1, M1.1 = M.1 → M1.2.2 = M.2.2 → (∀ a, a ≠ to → M1.2.1 a = M.2.1 a) → (∀ j, (j < from_ ∨ from_ + 42 ≤ j) → M1.2.1 to j = M.2.1 to j) → (∀ k, k < 0 → M1.2.1 to (from_ + D.2.2.1 k) = tk k) → sm_X L xs d 109 1 (sm_code 109 1) [(0, .ref b), (1, .ref to), (2, .int (nI from_)), (3, .int (nI 0))] [] (wm sh M1) Q := by
    refine loop_dn (P := fun i => ∀ M1, M1.1 = M.1 → M1.2.2 = M.2.2 → (∀ a, a ≠ to → M1.2.1 a = M.2.1 a) → (∀ j, (j < from_ ∨ from_ + 42 ≤ j) → M1.2.1 to j = M.2.1 to j) → (∀ k, k < i → M1.2.1 to (from_ + D.2.2.1 k) = tk k) → sm_X L xs d 109 1 (sm_code 109 1) [(0, .ref b), (1, .ref to), (2, .int (nI from_)), (3, .int (nI i))] [] (wm sh M1) Q) D.1.length ?_ ?_
    · intro M1 f1 f2 f3 f4 f5
      have fin := hq M1 f1 f2 f3 f4 f5
      repeat (first | refine x_kcg rfl ?_ | refine x_opp rfl rfl ?_ | refine x_go rfl ?_ | refine m_getg s0 rfl rfl rfl ?_)
      refine m_get s1.1 rfl ?_
      rw [show M1.1 (b + 1) 4 = nI D.1.length by rw [f1]; exact hD.1.1]
      refine x_icm br_ge (fun _ => ?_) (fun h => absurd (nI_le (Nat.le_refl _) (by omega)) h)
      exact x_ret fin
    · intro i hi ih M1 f1 f2 f3 f4 f5
      have hoi := hd.2.2.1 i hi
      have e9 : M1.1 (b + 9) i = nI (D.2.2.1 i) := by rw [f1]; exact hD.2.2.2 i hi
      have e14 : M1.2.1 (b + 14) i = tk i := by rw [f3 _ (Ne.symm hne)]; exact h14 i hi
      have fin := ih (m_setL M1 to (from_ + D.2.2.1 i) (tk i)) f1 f2 (fun a ha => by rw [mL_ne _ _ _ ha]; exact f3 a ha) (fun j hj => by rw [mL_at, if_neg (fun h => by have := h.2; omega)]; exact f4 j hj) (fun k hk => by
        rw [mL_at]
        by_cases e : k = i
        · rw [if_pos ⟨rfl, by rw [e]⟩, e]
        · rw [if_neg (fun h => e (hin k i (by omega) hi (by have := h.2; omega)))]
          exact f5 k (by omega))
      repeat (first | refine x_kcg rfl ?_ | refine x_opp rfl rfl ?_ | refine x_go rfl ?_ | refine m_getg s0 rfl rfl rfl ?_)
      refine m_get s1.1 rfl ?_
      rw [show M1.1 (b + 1) 4 = nI D.1.length by rw [f1]; exact hD.1.1]
      refine x_icm br_ge (fun h => absurd h (nI_ge hi (by omega))) (fun _ => ?_)
      repeat (first | refine x_kcg rfl ?_ | refine x_opp rfl rfl ?_ | refine x_go rfl ?_ | refine m_getg s0 rfl rfl rfl ?_)
      refine m_iald s9 (vp_in_nI (by omega) (by decide)) ?_
      rw [nI_clamp (by omega), e9]
      repeat (first | refine x_kcg rfl ?_ | refine x_opp rfl rfl ?_ | refine x_go rfl ?_ | refine m_getg s0 rfl rfl rfl ?_)
      rw [nI_add]
      refine m_lald s14 (vp_in_nI (by omega) (by decide)) ?_
      rw [nI_clamp (by omega), e14]
      refine m_last hto (vp_in_nI (by omega) (by decide)) ?_
      rw [nI_clamp (by omega)]
      repeat (first | refine x_kcg rfl ?_ | refine x_incg rfl rfl ?_ | refine x_opp rfl rfl ?_)
      refine x_goto ?_
      refine x_lvs [(0, .ref b), (1, .ref to), (2, .int (nI from_)), (3, .int (nI (i + 1)))] rfl rfl rfl ⟨rfl, rfl, rfl, rfl, trivial⟩ ?_
      exact fin
  have fin := lp M rfl rfl (fun _ _ => rfl) (fun _ _ => rfl) (fun k hk => absurd hk (Nat.not_lt_zero k))
  repeat (first | refine x_kcg rfl ?_ | refine x_incg rfl rfl ?_ | refine x_opp rfl rfl ?_)
  refine x_fall ?_
  refine x_lvs [(0, .ref b), (1, .ref to), (2, .int (nI from_)), (3, .int (nI 0))] rfl rfl rfl ⟨rfl, rfl, rfl, rfl, trivial⟩ ?_
  exact fin
end CNF
