/-! a filling is written into a grid of the desk -/
section CWI
variable {L : Nat} {xs : Nat → Int32} {d : Nat} {sh : List sh_T} {M : mm_T} {Q : Option Value → sm_W → Prop} {b : Nat} {D : sD} {g c l sp re : Nat}
/-- some squares of a grid have new letters -/
def wiI (M M1 : mm_T) (c : Nat) (ca bb : Nat → Nat) (D : sD) (W : Nat → Prop) : Prop := M1.2 = M.2 ∧ (∀ a, a ≠ c → M1.1 a = M.1 a) ∧ (∀ s, s < 49 → M1.1 c s = nI (ca s) ∨ M1.1 c s = nI (ca s / 32 * 32 + bb s)) ∧ (∀ s, W s → M1.1 c s = nI (ca s / 32 * 32 + bb s)) ∧ ∀ s, s < 49 → ¬ sCov D s → M1.1 c s = nI (ca s)
theorem c_writeInto {ca bb : Nat → Nat} (hs : srSh sh b) (hg : gSh sh g c l sp re) (hbc : c ≠ b + 10 ∧ c ≠ b + 1 ∧ c ≠ b + 2 ∧ c ≠ b + 3 ∧ c ≠ b + 4 ∧ c ≠ b + 5) (hd : dOK D) (hD : cD M b D) (hca : ∀ s, s < 49 → M.1 c s = nI (ca s) ∧ ca s < 128) (hbb : ∀ s, sCov D s → sg5 (M.1 (b + 10) s) = bb s)
    (hq : ∀ M', wiI M M' c ca bb D (sCov D) → Q none (wm sh M')) : sm_E L xs (d + 2) 104 [.ref b, .ref g] (wm sh M) Q := by
  obtain ⟨s0, s1, -, -, -, -, s10, -⟩ := hs
  have h1 := hg.1
  have hc := hg.2.1
  have h42 := hd.1
  have tab : ∀ M1 : mm_T, (∀ a, a ≠ c → M1.1 a = M.1 a) → tabIs M1 (b + 1) (b + 2) (b + 3) (b + 4) (b + 5) D.1 := by
    intro M1 f
    unfold tabIs
    rw [f (b + 1) (Ne.symm hbc.2.1), f (b + 2) (Ne.symm hbc.2.2.1), f (b + 3) (Ne.symm hbc.2.2.2.1), f (b + 4) (Ne.symm hbc.2.2.2.2.1), f (b + 5) (Ne.symm hbc.2.2.2.2.2)]
    exact hD.1
  refine e_intro rfl rfl ?_
  have lp : ∀ M1, wiI M M1 c ca bb D (fun s => ∃ e, e < 0 ∧ ∃ i, i < (eAt D.1 e).2.2.1 ∧ s = mPl (eAt D.1 e) i) → sm_X L xs (d + 1) 104 1 (sm_code 104 1) [(0, .ref b), (1, .ref g), (2, .int (nI 0))] [] (wm sh M1) Q := by
    refine loop_dn (P := fun k => ∀ M1, wiI M M1 c ca bb D (fun s => ∃ e, e < k ∧ ∃ i, i < (eAt D.1 e).2.2.1 ∧ s = mPl (eAt D.1 e) i) → sm_X L xs (d + 1) 104 1 (sm_code 104 1) [(0, .ref b), (1, .ref g), (2, .int (nI k))] [] (wm sh M1) Q) D.1.length ?_ ?_
    · intro M1 f
      have fin := hq M1 ⟨f.1, f.2.1, f.2.2.1, fun s hs => by
        obtain ⟨e, he, i, hi, rfl⟩ := hs
        obtain ⟨k, hk, ek⟩ := List.getElem_of_mem he
        have e2 : eAt D.1 k = e := by
          have := eAt_get hk
          rw [List.getElem?_eq_getElem hk, ek] at this
          exact (Option.some.inj this).symm
        exact f.2.2.2.1 _ ⟨k, hk, i, by rw [e2]; exact hi, by rw [e2]⟩, f.2.2.2.2⟩
      repeat (first | refine x_kcg rfl ?_ | refine x_opp rfl rfl ?_ | refine x_go rfl ?_ | refine m_getg s0 rfl rfl rfl ?_)
      refine m_get s1.1 rfl ?_
      rw [(tab M1 f.2.1).1]
      refine x_icm br_ge (fun _ => ?_) (fun h => absurd (nI_le (Nat.le_refl _) (by omega)) h)
      exact x_ret fin
    · intro k hk ih M1 f
      have hmem : eAt D.1 k ∈ D.1 := List.mem_of_getElem? (eAt_get hk)
      have hok : eOK (eAt D.1 k) := hd.2.1 _ hmem
      have h7 : (eAt D.1 k).2.2.1 ≤ 7 := by
        have := hok.2.2
        split at this <;> omega
      have lp2 : ∀ M2, wiI M M2 c ca bb D (fun s => (∃ e, e < k ∧ ∃ i, i < (eAt D.1 e).2.2.1 ∧ s = mPl (eAt D.1 e) i) ∨ ∃ i, i < 0 ∧ s = mPl (eAt D.1 k) i) → sm_X L xs (d + 1) 104 3 (sm_code 104 3) [(0, .ref b), (1, .ref g), (2, .int (nI k)), (3, .int (nI 0))] [] (wm sh M2) Q := by
        refine loop_dn (P := fun i => ∀ M2, wiI M M2 c ca bb D (fun s => (∃ e, e < k ∧ ∃ i, i < (eAt D.1 e).2.2.1 ∧ s = mPl (eAt D.1 e) i) ∨ ∃ j, j < i ∧ s = mPl (eAt D.1 k) j) → sm_X L xs (d + 1) 104 3 (sm_code 104 3) [(0, .ref b), (1, .ref g), (2, .int (nI k)), (3, .int (nI i))] [] (wm sh M2) Q) (eAt D.1 k).2.2.1 ?_ ?_
        · intro M2 f2
          obtain ⟨-, tl⟩ := tCell_eq (tab M2 f2.2.1) hk 0
          have fin := ih M2 ⟨f2.1, f2.2.1, f2.2.2.1, fun s hs => by
            obtain ⟨e, he, i, hi, e2⟩ := hs
            by_cases ee : e = k
            · subst ee
              exact f2.2.2.2.1 s (Or.inr ⟨i, hi, e2⟩)
            · exact f2.2.2.2.1 s (Or.inl ⟨e, by omega, i, hi, e2⟩), f2.2.2.2.2⟩
          repeat (first | refine x_kcg rfl ?_ | refine x_opp rfl rfl ?_ | refine x_go rfl ?_ | refine m_getg s0 rfl rfl rfl ?_)
          refine m_get s1.1 rfl ?_
          repeat (first | refine x_kcg rfl ?_ | refine x_opp rfl rfl ?_ | refine x_go rfl ?_)
          refine m_iald s1.2.2.2.1 (vp_in_nI (by omega) (by decide)) ?_
          rw [nI_clamp (by omega), tl]
          refine x_icm br_ge (fun _ => ?_) (fun h => absurd (nI_le (Nat.le_refl _) (by omega)) h)
          repeat (first | refine x_kcg rfl ?_ | refine x_incg rfl rfl ?_ | refine x_opp rfl rfl ?_)
          refine x_goto ?_
          refine x_lvs [(0, .ref b), (1, .ref g), (2, .int (nI (k + 1)))] rfl rfl rfl ⟨rfl, rfl, rfl, trivial⟩ ?_
          exact fin
        · intro i hi ih2 M2 f2
          obtain ⟨tc, tl⟩ := tCell_eq (tab M2 f2.2.1) hk i
          have hm := mPl_lt hok hi
          have cov : sCov D (mPl (eAt D.1 k) i) := ⟨_, hmem, i, hi, rfl⟩
          obtain ⟨c1, c2⟩ := hca _ hm
          have eb := hbb _ cov
          obtain ⟨g1, g2⟩ := sg5_eq (M.1 (b + 10) (mPl (eAt D.1 k) i))
          rw [eb] at g1 g2
          have e10 : M2.1 (b + 10) (mPl (eAt D.1 k) i) &&& 31 = nI (bb (mPl (eAt D.1 k) i)) := by rw [f2.2.1 _ (Ne.symm hbc.1)]; exact g1
          have eval : M2.1 c (mPl (eAt D.1 k) i) &&& (-32) ||| nI (bb (mPl (eAt D.1 k) i)) = nI (ca (mPl (eAt D.1 k) i) / 32 * 32 + bb (mPl (eAt D.1 k) i)) := by
            obtain ⟨w1, w2, w3⟩ := wi_dec _ c2 _ g2
            rcases f2.2.2.1 _ hm with h | h
            · rw [h]
              exact w1
            · rw [h, (wi_dec _ w2 _ g2).1, w3]
          have fin := ih2 (m_setI M2 c (mPl (eAt D.1 k) i) (nI (ca (mPl (eAt D.1 k) i) / 32 * 32 + bb (mPl (eAt D.1 k) i)))) (by
            refine ⟨f2.1, fun a ha => by rw [mI_ne _ _ _ ha]; exact f2.2.1 a ha, fun s hs => ?_, fun s hs => ?_, fun s hs hn => ?_⟩
            · rw [mI_at]
              by_cases e : s = mPl (eAt D.1 k) i
              · rw [if_pos ⟨rfl, e⟩, e]
                exact Or.inr rfl
              · rw [if_neg (fun h => e h.2)]
                exact f2.2.2.1 s hs
            · rw [mI_at]
              by_cases e : s = mPl (eAt D.1 k) i
              · rw [if_pos ⟨rfl, e⟩, e]
              · rw [if_neg (fun h => e h.2)]
                refine f2.2.2.2.1 s ?_
                rcases hs with h | ⟨j, hj, e2⟩
                · exact Or.inl h
                · refine Or.inr ⟨j, ?_, e2⟩
                  rcases Nat.lt_or_ge j i with h | h
                  · exact h
                  · have : j = i := by omega
                    subst this
                    exact absurd e2 e
            · rw [mI_at, if_neg (fun h => hn (by rw [h.2]; exact cov))]
              exact f2.2.2.2.2 s hs hn)
          repeat (first | refine x_kcg rfl ?_ | refine x_opp rfl rfl ?_ | refine x_go rfl ?_ | refine m_getg s0 rfl rfl rfl ?_)
          refine m_get s1.1 rfl ?_
          repeat (first | refine x_kcg rfl ?_ | refine x_opp rfl rfl ?_ | refine x_go rfl ?_)
          refine m_iald s1.2.2.2.1 (vp_in_nI (by omega) (by decide)) ?_
          rw [nI_clamp (by omega), tl]
          refine x_icm br_ge (fun h => absurd h (nI_ge hi (by omega))) (fun _ => ?_)
          repeat (first | refine x_kcg rfl ?_ | refine x_opp rfl rfl ?_ | refine x_go rfl ?_ | refine m_getg s0 rfl rfl rfl ?_)
          refine m_callV s1.1 rfl rfl rfl (c_cellOf (d := d) s1 (by omega) ?_)
          rw [tc]
          repeat (first | refine x_kcg rfl ?_ | refine x_opp rfl rfl ?_ | refine x_go rfl ?_ | refine m_getg h1 rfl rfl rfl ?_)
          refine m_iald hc (vp_in_nI hm (by decide)) ?_
          rw [nI_clamp (by omega)]
          repeat (first | refine x_kcg rfl ?_ | refine x_opp rfl rfl ?_ | refine x_go rfl ?_ | refine m_getg s0 rfl rfl rfl ?_)
          refine m_iald s10 (vp_in_nI hm (by decide)) ?_
          rw [nI_clamp (by omega)]
          repeat (first | refine x_kcg rfl ?_ | refine x_opp rfl rfl ?_ | refine x_go rfl ?_)
          rw [e10, eval]
          refine m_iast hc (vp_in_nI hm (by decide)) ?_
          rw [nI_clamp (by omega)]
          repeat (first | refine x_kcg rfl ?_ | refine x_incg rfl rfl ?_ | refine x_opp rfl rfl ?_)
          refine x_goto ?_
          refine x_lvs [(0, .ref b), (1, .ref g), (2, .int (nI k)), (3, .int (nI (i + 1)))] rfl rfl rfl ⟨rfl, rfl, rfl, rfl, trivial⟩ ?_
          exact fin
      have fin := lp2 M1 ⟨f.1, f.2.1, f.2.2.1, fun s hs => by
        rcases hs with h | ⟨i, hi, _⟩
        · exact f.2.2.2.1 s h
        · omega, f.2.2.2.2⟩
      repeat (first | refine x_kcg rfl ?_ | refine x_opp rfl rfl ?_ | refine x_go rfl ?_ | refine m_getg s0 rfl rfl rfl ?_)
      refine m_get s1.1 rfl ?_
      rw [(tab M1 f.2.1).1]
      refine x_icm br_ge (fun h => absurd h (nI_ge hk (by omega))) (fun _ => ?_)
      repeat (first | refine x_kcg rfl ?_ | refine x_incg rfl rfl ?_ | refine x_opp rfl rfl ?_)
      refine x_fall ?_
      refine x_lvs [(0, .ref b), (1, .ref g), (2, .int (nI k)), (3, .int (nI 0))] rfl rfl rfl ⟨rfl, rfl, rfl, rfl, trivial⟩ ?_
      exact fin
  have fin := lp M ⟨rfl, fun _ _ => rfl, fun s hs => Or.inl (hca s hs).1, fun s hs => by obtain ⟨e, he, _⟩ := hs; omega, fun s hs _ => (hca s hs).1⟩
  repeat (first | refine x_kcg rfl ?_ | refine x_incg rfl rfl ?_ | refine x_opp rfl rfl ?_)
  refine x_fall ?_
  refine x_lvs [(0, .ref b), (1, .ref g), (2, .int (nI 0))] rfl rfl rfl ⟨rfl, rfl, rfl, trivial⟩ ?_
  exact fin
end CWI
