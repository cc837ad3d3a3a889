/-! the desk puts entries in order -/
/-- gathering for entries from e on -/
def gR (E : Nat → lT) (lf : Nat → Option Nat) (v : Nat → Nat → Nat) (ln : Nat → Nat) : Nat → Nat → List (List wsT) → List Nat × Nat × List (List wsT)
  | 0, _, acc => ([], 0, acc)
  | r + 1, e, acc => match lf e with
    | none => ([], 1, acc)
    | some l => if (gL E l (v e) (ln e)).2.1 ≠ 0 then ((gL E l (v e) (ln e)).1, (gL E l (v e) (ln e)).2.1, acc)
        else ((gL E l (v e) (ln e)).1 ++ (gR E lf v ln r (e + 1) (acc ++ [(gL E l (v e) (ln e)).2.2])).1, (gR E lf v ln r (e + 1) (acc ++ [(gL E l (v e) (ln e)).2.2])).2)
section CGA
variable {L : Nat} {xs : Nat → Int32} {d : Nat} {sh : List sh_T} {M : mm_T} {Q : Option Value → sm_W → Prop} {b : Nat}
theorem c_copy {a c na nc sp dp k : Nat} (ha : sh[a]? = some (arrI na)) (hc : sh[c]? = some (arrI nc)) (h1 : sp + k ≤ na) (h2 : dp + k ≤ nc) (hna : na < 2 ^ 31) (hnc : nc < 2 ^ 31) (hq : Q none (wm sh (m_setA M c (va_cpy (M.1 a) (M.1 c) sp dp k)))) : sm_E L xs (d + 1) 400 [.ref a, .int (nI sp), .ref c, .int (nI dp), .int (nI k)] (wm sh M) Q := by
  refine ⟨0, none, _, ?_, hq⟩
  show sm_copy [.ref a, .int (nI sp), .ref c, .int (nI dp), .int (nI k)] (wm sh M) = _
  simp only [sm_copy, wm_get ha, wm_get hc]
  have e1 : (nI sp).toNatClampNeg = sp := nI_clamp (by omega)
  have e2 : (nI dp).toNatClampNeg = dp := nI_clamp (by omega)
  have e3 : (nI k).toNatClampNeg = k := nI_clamp (by omega)
  rw [e1, e2, e3, ← wm_setA hc]
  refine if_neg ?_
  rintro (h | h | h | h | h)
  · exact nI_pos (by omega) h
  · exact nI_pos (by omega) h
  · exact nI_pos (by omega) h
  · omega
  · omega
/-- only the order has changed -/
def oFr (M M' : mm_T) (b : Nat) : Prop := M'.2 = M.2 ∧ ∀ a, a ≠ b + 9 → M'.1 a = M.1 a
theorem c_order {nn : Nat} {mn : Nat → Nat} (hs : srSh sh b) (h42 : nn ≤ 42) (hsz : M.1 (b + 1) 4 = nI nn) (hmn : ∀ e, e < nn → M.1 (b + 7) e = nI (mn e) ∧ mn e ≤ 40) (hq : ∀ M', oFr M M' b → (∀ k, k < nn → M'.1 (b + 9) k = nI ((oAll mn nn).getD k 0)) → Q none (wm sh M')) : sm_E L xs (d + 1) 95 [.ref b] (wm sh M) Q := by
  obtain ⟨s0, s1, -, s7, -, s9, -⟩ := hs
  refine e_intro rfl rfl ?_
  have lp : ∀ M1, oFr M M1 b → (∀ k, k < 0 → M1.1 (b + 9) k = nI ((oAll mn 0).getD k 0)) → sm_X L xs d 95 1 (sm_code 95 1) [(0, .ref b), (1, .int (nI 0))] [] (wm sh M1) Q := by
    refine loop_dn (P := fun e => ∀ M1, oFr M M1 b → (∀ k, k < e → M1.1 (b + 9) k = nI ((oAll mn e).getD k 0)) → sm_X L xs d 95 1 (sm_code 95 1) [(0, .ref b), (1, .int (nI e))] [] (wm sh M1) Q) nn ?_ ?_
    · intro M1 f o
      have fin := hq M1 f o
      repeat (first | refine x_kcg rfl ?_ | refine x_opp rfl rfl ?_ | refine x_go rfl ?_ | refine m_getg s0 rfl rfl rfl ?_)
      refine m_get s1.1 rfl ?_
      rw [show M1.1 (b + 1) 4 = nI nn by rw [f.2 (b + 1) (by omega)]; exact hsz]
      refine x_icm br_ge (fun _ => ?_) (fun h => absurd (nI_le (Nat.le_refl _) (by omega)) h)
      exact x_ret fin
    · intro e he ih M1 f o
      have hlen : (oAll mn e).length = e := oAll_len mn e
      generalize hp : (fun i => Nat.ble (mn e + 1) (mn ((oAll mn e).getD i 0))) = p
      have hO : oAll mn (e + 1) = lIns (oAll mn e) (insI p e) e := by
        show oIns mn (oAll mn e) e = _
        unfold oIns
        rw [hlen, ← hp]
      have fin : ∀ i, i ≤ e → insI p e = i → ∀ M2, oFr M M2 b → (∀ j, j < i → M2.1 (b + 9) j = nI ((oAll mn e).getD j 0)) → (∀ j, i < j → j ≤ e → M2.1 (b + 9) j = nI ((oAll mn e).getD (j - 1) 0)) → sm_X L xs d 95 6 (sm_code 95 6) [(0, .ref b), (1, .int (nI e)), (2, .int (nI i))] [] (wm sh M2) Q := by
        intro i hi hI M2 f2 o1 o2
        have fin := ih (m_setI M2 (b + 9) i (nI e)) ⟨f2.1, fun a ha => by rw [mI_ne _ _ _ ha]; exact f2.2 a ha⟩ (fun k hk => by
          rw [hO, hI, lIns_get _ _ (by omega), mI_at]
          by_cases g1 : k < i
          · rw [if_pos g1, if_neg (fun h => by have := h.2; omega)]
            exact o1 k g1
          · rw [if_neg g1]
            by_cases g2 : k = i
            · rw [if_pos g2, if_pos ⟨rfl, g2⟩]
            · rw [if_neg g2, if_neg (fun h => g2 h.2)]
              exact o2 k (by omega) (by omega))
        repeat (first | refine x_kcg rfl ?_ | refine x_opp rfl rfl ?_ | refine x_go rfl ?_ | refine m_getg s0 rfl rfl rfl ?_)
        refine m_iast s9 (vp_in_nI (by omega) (by decide)) ?_
        rw [nI_clamp (by omega)]
        repeat (first | refine x_kcg rfl ?_ | refine x_incg rfl rfl ?_ | refine x_opp rfl rfl ?_)
        refine x_goto ?_
        refine x_lvs [(0, .ref b), (1, .int (nI (e + 1)))] rfl rfl rfl ⟨rfl, rfl, trivial⟩ ?_
        exact fin
      have lp2 : ∀ i, i ≤ e → insI p e = insI p i → ∀ M2, oFr M M2 b → (∀ j, j < i → M2.1 (b + 9) j = nI ((oAll mn e).getD j 0)) → (∀ j, i < j → j ≤ e → M2.1 (b + 9) j = nI ((oAll mn e).getD (j - 1) 0)) → sm_X L xs d 95 3 (sm_code 95 3) [(0, .ref b), (1, .int (nI e)), (2, .int (nI i))] [] (wm sh M2) Q := by
        intro i
        induction i with
        | zero =>
          intro hi hI M2 f2 o1 o2
          have f := fin 0 hi hI M2 f2 o1 o2
          repeat (first | refine x_kcg rfl ?_ | refine x_opp rfl rfl ?_ | refine x_go rfl ?_)
          refine x_ifc br_le (fun _ => ?_) (fun h => absurd (by decide) h)
          exact f
        | succ i ih2 =>
          intro hi hI M2 f2 o1 o2
          have x2 : nI (i + 1) - 1 = nI i := nI_pred i
          have w1 := o1 i (by omega)
          have hm : (oAll mn e).getD i 0 < e := by
            rw [List.getD_eq_getElem?_getD, List.getElem?_eq_getElem (by omega)]
            exact (oAll_mem mn e _).mp (List.getElem_mem _)
          obtain ⟨m1, m2⟩ := hmn ((oAll mn e).getD i 0) (by omega)
          obtain ⟨m3, m4⟩ := hmn e he
          have e7 : ∀ j, M2.1 (b + 7) j = M.1 (b + 7) j := fun j => by rw [f2.2 (b + 7) (by omega)]
          repeat (first | refine x_kcg rfl ?_ | refine x_opp rfl rfl ?_ | refine x_go rfl ?_)
          refine x_ifc br_le (fun h => absurd h (nI_nle (by omega) (by omega))) (fun _ => ?_)
          repeat (first | refine x_kcg rfl ?_ | refine x_opp rfl rfl ?_ | refine x_go rfl ?_ | refine m_getg s0 rfl rfl rfl ?_)
          rw [x2]
          refine m_iald s9 (vp_in_nI (by omega) (by decide)) ?_
          rw [nI_clamp (by omega), w1]
          refine m_iald s7 (vp_in_nI (by omega) (by decide)) ?_
          rw [nI_clamp (by omega), e7, m1]
          repeat (first | refine x_kcg rfl ?_ | refine x_opp rfl rfl ?_ | refine x_go rfl ?_ | refine m_getg s0 rfl rfl rfl ?_)
          refine m_iald s7 (vp_in_nI (by omega) (by decide)) ?_
          rw [nI_clamp (by omega), e7, m3]
          have pI : p i = Nat.ble (mn e + 1) (mn ((oAll mn e).getD i 0)) := by rw [← hp]
          by_cases g : mn e < mn ((oAll mn e).getD i 0)
          · have gT : p i = true := by rw [pI]; exact Nat.ble_eq_true_of_le g
            refine x_icm br_le (fun h => absurd h (nI_ge g (by omega))) (fun _ => ?_)
            have f := ih2 (by omega) (by rw [hI]; conv => lhs; unfold insI; rw [if_pos gT]) (m_setI M2 (b + 9) (i + 1) (nI ((oAll mn e).getD i 0))) ⟨f2.1, fun a ha => by rw [mI_ne _ _ _ ha]; exact f2.2 a ha⟩ (fun j hj => by rw [mI_at, if_neg (fun h => by have := h.2; omega)]; exact o1 j (by omega)) (fun j hj1 hj2 => by
              rw [mI_at]
              by_cases e1 : j = i + 1
              · rw [if_pos ⟨rfl, e1⟩, e1, Nat.add_sub_cancel]
              · rw [if_neg (fun h => e1 h.2)]
                exact o2 j (by omega) hj2)
            repeat (first | refine x_kcg rfl ?_ | refine x_opp rfl rfl ?_ | refine x_go rfl ?_ | refine m_getg s0 rfl rfl rfl ?_)
            rw [x2]
            refine m_iald s9 (vp_in_nI (by omega) (by decide)) ?_
            rw [nI_clamp (by omega), w1]
            refine m_iast s9 (vp_in_nI (by omega) (by decide)) ?_
            rw [nI_clamp (by omega)]
            refine x_decN (j := i) rfl ?_
            refine x_goto ?_
            refine x_lvs [(0, .ref b), (1, .int (nI e)), (2, .int (nI i))] rfl rfl rfl ⟨rfl, rfl, rfl, trivial⟩ ?_
            exact f
          · have gF : ¬ p i = true := by rw [pI]; exact fun h => g (Nat.le_of_ble_eq_true h)
            have f := fin (i + 1) hi (by rw [hI]; unfold insI; rw [if_neg gF]) M2 f2 o1 o2
            refine x_icm br_le (fun _ => ?_) (fun h => absurd (nI_le (by omega) (by omega)) h)
            exact f
      have f3 := lp2 e (Nat.le_refl _) rfl M1 f o (fun j h1 h2 => by omega)
      repeat (first | refine x_kcg rfl ?_ | refine x_opp rfl rfl ?_ | refine x_go rfl ?_ | refine m_getg s0 rfl rfl rfl ?_)
      refine m_get s1.1 rfl ?_
      rw [show M1.1 (b + 1) 4 = nI nn by rw [f.2 (b + 1) (by omega)]; exact hsz]
      refine x_icm br_ge (fun h => absurd h (nI_ge he (by omega))) (fun _ => ?_)
      repeat (first | refine x_kcg rfl ?_ | refine x_incg rfl rfl ?_ | refine x_opp rfl rfl ?_)
      refine x_fall ?_
      refine x_lvs [(0, .ref b), (1, .int (nI e)), (2, .int (nI e))] rfl rfl rfl ⟨rfl, rfl, rfl, trivial⟩ ?_
      exact f3
  have fin := lp M ⟨rfl, fun _ _ => rfl⟩ (fun k hk => absurd hk (Nat.not_lt_zero k))
  repeat (first | refine x_kcg rfl ?_ | refine x_incg rfl rfl ?_ | refine x_opp rfl rfl ?_)
  refine x_fall ?_
  refine x_lvs [(0, .ref b), (1, .int (nI 0))] rfl rfl rfl ⟨rfl, rfl, trivial⟩ ?_
  exact fin
end CGA
