/-! candidates, in the reference -/
/-- the candidates of entry x so far -/
def mCl (M : mm_T) (x : Nat) (l : List wsT) : Prop := M.1 101 x = nI l.length ∧ ∀ j, j < l.length → M.2.1 99 (40 * x + j) = (l.getD j (0, 0)).1 ∧ M.1 100 (40 * x + j) = (l.getD j (0, 0)).2
/-- only candidates of entry x have changed -/
def mCf (M M' : mm_T) (x : Nat) : Prop := M'.2.2 = M.2.2 ∧ (∀ a, a ≠ 101 → a ≠ 100 → M'.1 a = M.1 a) ∧ (∀ j, j ≠ x → M'.1 101 j = M.1 101 j) ∧ (∀ a, a ≠ 99 → M'.2.1 a = M.2.1 a) ∧ ∀ j, (j < 40 * x ∨ 40 * x + 40 ≤ j) → M'.2.1 99 j = M.2.1 99 j ∧ M'.1 100 j = M.1 100 j
section MCD
variable {L : Nat} {xs : Nat → Int32} {d : Nat} {dy : List sh_T} {M : mm_T} {Q : Option Value → sm_W → Prop}
set_option maxRecDepth 4000 in
theorem k_addCand {x : Nat} {l : List wsT} {w : Int64} {s : Int32} (hx : x < 96) (hl : l.length < 40) (hc : mCl M x l) (hq : ∀ M', mCl M' x (cIns l (w, s)) → mCf M M' x → Q none (wm (sh0 ++ dy) M')) : sm_E L xs (d + 3) 197 [.ref 65, .int (nI x), .long w, .int s] (wm (sh0 ++ dy) M) Q := by
  have hm := s_65 dy
  obtain ⟨h7, hj⟩ := hc
  have hle : cIx l (w, s) ≤ l.length := insI_le _ _
  generalize hp : (fun i => ahd (w, s) (l.getD i (0, 0))) = p
  have hix : cIx l (w, s) = insI p l.length := by rw [← hp]; rfl
  refine e_intro rfl rfl ?_
  have fin : ∀ i, i ≤ l.length → insI p l.length = i → ∀ M1, M1.2.2 = M.2.2 → (∀ a, a ≠ 100 → M1.1 a = M.1 a) → (∀ a, a ≠ 99 → M1.2.1 a = M.2.1 a) → (∀ j, (j < 40 * x ∨ 40 * x + 40 ≤ j) → M1.2.1 99 j = M.2.1 99 j ∧ M1.1 100 j = M.1 100 j) → (∀ j, j < i → M1.2.1 99 (40 * x + j) = (l.getD j (0, 0)).1 ∧ M1.1 100 (40 * x + j) = (l.getD j (0, 0)).2) → (∀ j, i < j → j ≤ l.length → M1.2.1 99 (40 * x + j) = (l.getD (j - 1) (0, 0)).1 ∧ M1.1 100 (40 * x + j) = (l.getD (j - 1) (0, 0)).2) →
      sm_X L xs (d + 2) 197 6 (sm_code 197 6) [(0, .ref 65), (1, .int (nI x)), (2, .long w), (4, .int s), (5, .int (nI i))] [] (wm (sh0 ++ dy) M1) Q := by
    intro i hi hI M1 f1 f2 f3 f4 f5 f6
    have fin := hq (m_setI (m_setI (m_setL M1 99 (40 * x + i) w) 100 (40 * x + i) s) 101 x (nI (l.length + 1))) (by
      unfold cIns
      rw [hix, hI]
      refine ⟨?_, fun j hj1 => ?_⟩
      · rw [mI_at, if_pos ⟨rfl, rfl⟩, lIns_len _ hi]
      · rw [lIns_len _ hi] at hj1
        rw [lIns_get _ _ hi, mI_2, mI_2, mL_at, mI_ne _ _ _ (show 100 ≠ 101 by decide), mI_at]
        by_cases g1 : j < i
        · rw [if_pos g1, if_neg (fun h => by have := h.2; omega), if_neg (fun h => by have := h.2; omega)]
          exact f5 j g1
        · rw [if_neg g1]
          by_cases g2 : j = i
          · rw [if_pos g2, if_pos ⟨rfl, by omega⟩, if_pos ⟨rfl, by omega⟩]
            exact ⟨rfl, rfl⟩
          · rw [if_neg g2, if_neg (fun h => by have := h.2; omega), if_neg (fun h => g2 (by have := h.2; omega))]
            exact f6 j (by omega) (by omega)) (by
      refine ⟨f1, fun a y1 y2 => ?_, fun j hj1 => ?_, fun a y1 => ?_, fun j hj1 => ⟨?_, ?_⟩⟩
      · rw [mI_ne _ _ _ y1, mI_ne _ _ _ y2]
        exact f2 a y2
      · rw [mI_at, if_neg (fun h => hj1 h.2), mI_ne _ _ _ (by decide)]
        exact congrFun (f2 101 (by decide)) j
      · rw [mI_2, mI_2, mL_ne _ _ _ y1]
        exact f3 a y1
      · rw [mI_2, mI_2, mL_at, if_neg (fun h => by have := h.2; omega)]
        exact (f4 j hj1).1
      · rw [mI_ne _ _ _ (by decide), mI_at, if_neg (fun h => by have := h.2; omega)]
        exact (f4 j hj1).2)
    have x1 := g40 x i
    have e7 : (m_setI (m_setL M1 99 (40 * x + i) w) 100 (40 * x + i) s).1 101 x = nI l.length := by rw [mI_ne _ _ _ (by decide)]; show M1.1 101 x = _; rw [f2 _ (by decide)]; exact h7
    repeat (first | refine x_kcg rfl ?_ | refine x_opp rfl rfl ?_ | refine x_go rfl ?_ | refine m_getg hm rfl rfl rfl ?_)
    rw [x1]
    refine m_last (s_99 dy) (vp_in_nI (by omega) (by decide)) ?_
    rw [nI_clamp (by omega)]
    repeat (first | refine x_kcg rfl ?_ | refine x_opp rfl rfl ?_ | refine x_go rfl ?_ | refine m_getg hm rfl rfl rfl ?_)
    rw [x1]
    refine m_iast (s_100 dy) (vp_in_nI (by omega) (by decide)) ?_
    rw [nI_clamp (by omega)]
    repeat (first | refine x_kcg rfl ?_ | refine x_opp rfl rfl ?_ | refine x_go rfl ?_ | refine m_getg hm rfl rfl rfl ?_)
    refine m_iald (s_101 dy) (vp_in_nI (by omega) (by decide)) ?_
    rw [nI_clamp (by omega), e7]
    repeat (first | refine x_kcg rfl ?_ | refine x_opp rfl rfl ?_ | refine x_go rfl ?_)
    rw [nI_1]
    refine m_iast (s_101 dy) (vp_in_nI (by omega) (by decide)) ?_
    rw [nI_clamp (by omega)]
    exact x_ret fin
  have lp : ∀ i, i ≤ l.length → insI p l.length = insI p i → ∀ M1, M1.2.2 = M.2.2 → (∀ a, a ≠ 100 → M1.1 a = M.1 a) → (∀ a, a ≠ 99 → M1.2.1 a = M.2.1 a) → (∀ j, (j < 40 * x ∨ 40 * x + 40 ≤ j) → M1.2.1 99 j = M.2.1 99 j ∧ M1.1 100 j = M.1 100 j) → (∀ j, j < i → M1.2.1 99 (40 * x + j) = (l.getD j (0, 0)).1 ∧ M1.1 100 (40 * x + j) = (l.getD j (0, 0)).2) → (∀ j, i < j → j ≤ l.length → M1.2.1 99 (40 * x + j) = (l.getD (j - 1) (0, 0)).1 ∧ M1.1 100 (40 * x + j) = (l.getD (j - 1) (0, 0)).2) →
      sm_X L xs (d + 2) 197 1 (sm_code 197 1) [(0, .ref 65), (1, .int (nI x)), (2, .long w), (4, .int s), (5, .int (nI i))] [] (wm (sh0 ++ dy) M1) Q := by
    intro i
    induction i with
    | zero =>
      intro hi hI M1 f1 f2 f3 f4 f5 f6
      have f := fin 0 hi hI M1 f1 f2 f3 f4 f5 f6
      repeat (first | refine x_kcg rfl ?_ | refine x_opp rfl rfl ?_ | refine x_go rfl ?_)
      refine x_ifc br_le (fun _ => ?_) (fun h => absurd (by decide) h)
      exact f
    | succ i ih =>
      intro hi hI M1 f1 f2 f3 f4 f5 f6
      have x3 := g40 x (i + 1)
      have x1 : nI (40 * x + (i + 1)) - 1 = nI (40 * x + i) := by rw [← Nat.add_assoc, nI_pred]
      obtain ⟨w1, w2⟩ := f5 i (by omega)
      have pI : p i = (decide ((l.getD i (0, 0)).2 < s) || (decide (s = (l.getD i (0, 0)).2) && bfN w (l.getD i (0, 0)).1 7 0)) := by rw [← hp]; rfl
      have T5 : p i = true → sm_X L xs (d + 2) 197 5 (sm_code 197 5) [(0, .ref 65), (1, .int (nI x)), (2, .long w), (4, .int s), (5, .int (nI (i + 1)))] [] (wm (sh0 ++ dy) M1) Q := by
        intro g
        have w2b : (m_setL M1 99 (40 * x + (i + 1)) (l.getD i (0, 0)).1).1 100 (40 * x + i) = (l.getD i (0, 0)).2 := w2
        have f := ih (by omega) (by rw [hI]; conv => lhs; unfold insI; rw [if_pos g]) (m_setI (m_setL M1 99 (40 * x + (i + 1)) (l.getD i (0, 0)).1) 100 (40 * x + (i + 1)) (l.getD i (0, 0)).2) f1 (fun a ha => by rw [mI_ne _ _ _ ha]; exact f2 a ha) (fun a ha => by rw [mI_2, mL_ne _ _ _ ha]; exact f3 a ha) (fun j hj1 => by rw [mI_2, mL_at, if_neg (fun h => by have := h.2; omega), mI_at, if_neg (fun h => by have := h.2; omega)]; exact f4 j hj1) (fun j hj1 => by
            rw [mI_2, mL_at, if_neg (fun h => by have := h.2; omega), mI_at, if_neg (fun h => by have := h.2; omega)]
            exact f5 j (by omega)) (fun j hj1 hj2 => by
            rw [mI_2, mL_at, mI_at]
            by_cases e1 : j = i + 1
            · rw [if_pos ⟨rfl, by omega⟩, if_pos ⟨rfl, by omega⟩, e1, Nat.add_sub_cancel]
              exact ⟨rfl, rfl⟩
            · rw [if_neg (fun h => e1 (by have := h.2; omega)), if_neg (fun h => e1 (by have := h.2; omega))]
              exact f6 j (by omega) hj2)
        repeat (first | refine x_kcg rfl ?_ | refine x_opp rfl rfl ?_ | refine x_go rfl ?_ | refine m_getg hm rfl rfl rfl ?_)
        rw [x3, x1]
        refine m_lald (s_99 dy) (vp_in_nI (by omega) (by decide)) ?_
        rw [nI_clamp (by omega), w1]
        refine m_last (s_99 dy) (vp_in_nI (by omega) (by decide)) ?_
        rw [nI_clamp (by omega)]
        repeat (first | refine x_kcg rfl ?_ | refine x_opp rfl rfl ?_ | refine x_go rfl ?_ | refine m_getg hm rfl rfl rfl ?_)
        rw [x3, x1]
        refine m_iald (s_100 dy) (vp_in_nI (by omega) (by decide)) ?_
        rw [nI_clamp (by omega), w2b]
        refine m_iast (s_100 dy) (vp_in_nI (by omega) (by decide)) ?_
        rw [nI_clamp (by omega)]
        refine x_decN (j := i) rfl ?_
        refine x_goto ?_
        refine x_lvs [(0, .ref 65), (1, .int (nI x)), (2, .long w), (4, .int s), (5, .int (nI i))] rfl rfl rfl ⟨rfl, rfl, rfl, rfl, rfl, trivial⟩ ?_
        exact f
      have T6 : p i = false → sm_X L xs (d + 2) 197 6 (sm_code 197 6) [(0, .ref 65), (1, .int (nI x)), (2, .long w), (4, .int s), (5, .int (nI (i + 1)))] [] (wm (sh0 ++ dy) M1) Q := fun g => fin (i + 1) hi (by rw [hI]; unfold insI; rw [if_neg (by rw [g]; decide)]) M1 f1 f2 f3 f4 f5 f6
      repeat (first | refine x_kcg rfl ?_ | refine x_opp rfl rfl ?_ | refine x_go rfl ?_)
      refine x_ifc br_le (fun h => absurd h (nI_nle (by omega) (by omega))) (fun _ => ?_)
      repeat (first | refine x_kcg rfl ?_ | refine x_opp rfl rfl ?_ | refine x_go rfl ?_ | refine m_getg hm rfl rfl rfl ?_)
      rw [x3, x1]
      refine m_iald (s_100 dy) (vp_in_nI (by omega) (by decide)) ?_
      rw [nI_clamp (by omega), w2]
      repeat (first | refine x_kcg rfl ?_ | refine x_opp rfl rfl ?_ | refine x_go rfl ?_)
      by_cases g1 : (l.getD i (0, 0)).2 < s
      · refine x_icm br_lt (fun _ => ?_) (fun h => absurd g1 h)
        exact T5 (by rw [pI, decide_eq_true g1]; rfl)
      · refine x_icm br_lt (fun h => absurd h g1) (fun _ => ?_)
        repeat (first | refine x_kcg rfl ?_ | refine x_opp rfl rfl ?_ | refine x_go rfl ?_ | refine m_getg hm rfl rfl rfl ?_)
        rw [x3, x1]
        refine m_iald (s_100 dy) (vp_in_nI (by omega) (by decide)) ?_
        rw [nI_clamp (by omega), w2]
        repeat (first | refine x_kcg rfl ?_ | refine x_opp rfl rfl ?_ | refine x_go rfl ?_)
        by_cases g2 : (l.getD i (0, 0)).2 = s
        · refine x_icm br_ne (fun h => absurd g2 h) (fun _ => ?_)
          repeat (first | refine x_kcg rfl ?_ | refine x_opp rfl rfl ?_ | refine x_go rfl ?_ | refine m_getg hm rfl rfl rfl ?_)
          rw [x3, x1]
          refine m_lald (s_99 dy) (vp_in_nI (by omega) (by decide)) ?_
          rw [nI_clamp (by omega), w1]
          refine m_callS rfl rfl (k_isBefore (d := d) ?_)
          have pI2 : p i = bfN w (l.getD i (0, 0)).1 7 0 := by rw [pI, decide_eq_false g1, decide_eq_true g2.symm]; rfl
          by_cases g3 : bfN w (l.getD i (0, 0)).1 7 0 = true
          · rw [g3]
            refine x_ifc br_eqz (fun h => by cases h) (fun _ => ?_)
            exact T5 (pI2.trans g3)
          · rw [nt_f g3]
            refine x_ifc br_eqz (fun _ => ?_) (fun h => absurd rfl h)
            exact T6 (pI2.trans (nt_f g3))
        · refine x_icm br_ne (fun _ => ?_) (fun h => absurd g2 h)
          exact T6 (by rw [pI, decide_eq_false g1, decide_eq_false (fun h => g2 h.symm)]; rfl)
  have f := lp l.length (Nat.le_refl _) rfl M rfl (fun _ _ => rfl) (fun _ _ => rfl) (fun _ _ => ⟨rfl, rfl⟩) (fun j hj1 => hj j hj1) (fun j h1 h2 => by omega)
  repeat (first | refine x_kcg rfl ?_ | refine x_opp rfl rfl ?_ | refine x_go rfl ?_ | refine m_getg hm rfl rfl rfl ?_)
  refine m_iald (s_101 dy) (vp_in_nI (by omega) (by decide)) ?_
  rw [nI_clamp (by omega), h7]
  repeat (first | refine x_kcg rfl ?_ | refine x_incg rfl rfl ?_ | refine x_opp rfl rfl ?_)
  refine x_fall ?_
  refine x_lvs [(0, .ref 65), (1, .int (nI x)), (2, .long w), (4, .int s), (5, .int (nI l.length))] rfl rfl rfl ⟨rfl, rfl, rfl, rfl, rfl, trivial⟩ ?_
  exact f
end MCD
