/-! the reference begins a searching -/
def bF (M M' : mm_T) (q : Nat) : Prop := M'.2.2 = M.2.2 ∧ (∀ a, (a < 65 ∨ (66 ≤ a ∧ a ≤ 84) ∨ a = 90 ∨ a = 104 ∨ a = 105 ∨ 109 ≤ a) → M'.1 a = M.1 a) ∧ (∀ f, f ≠ 22 → f ≠ 24 → f ≠ 31 → f ≠ 32 → M'.1 65 f = M.1 65 f) ∧ (∀ a, a ≠ 65 → a ≠ 88 → a ≠ 90 → a ≠ 99 → M'.2.1 a = M.2.1 a) ∧ (∀ j, j ≠ q → M'.1 96 j = M.1 96 j ∧ M'.1 97 j = M.1 97 j ∧ M'.1 98 j = M.1 98 j) ∧ (∀ j, (j < 48 * q ∨ 48 * q + 48 ≤ j) → M'.1 101 j = M.1 101 j ∧ M'.1 102 j = M.1 102 j ∧ M'.1 103 j = M.1 103 j ∧ M'.1 108 j = M.1 108 j) ∧ (∀ j, (j < 49 * q ∨ 49 * q + 49 ≤ j) → M'.1 106 j = M.1 106 j) ∧ (∀ j, (j < 336 * q ∨ 336 * q + 336 ≤ j) → M'.1 107 j = M.1 107 j) ∧ ∀ j, (j < 1920 * q ∨ 1920 * q + 1920 ≤ j) → M'.2.1 99 j = M.2.1 99 j ∧ M'.1 100 j = M.1 100 j
theorem bF_I {M M1 : mm_T} {q a i : Nat} {v : Int32} (h : bF M M1 q) (ha : (a = 65 ∧ (i = 22 ∨ i = 24 ∨ i = 31 ∨ i = 32)) ∨ ((a = 96 ∨ a = 97 ∨ a = 98) ∧ i = q) ∨ ((a = 101 ∨ a = 102 ∨ a = 103 ∨ a = 108) ∧ 48 * q ≤ i ∧ i < 48 * q + 48) ∨ (a = 106 ∧ 49 * q ≤ i ∧ i < 49 * q + 49) ∨ (a = 107 ∧ 336 * q ≤ i ∧ i < 336 * q + 336)) : bF M (m_setI M1 a i v) q := by
  obtain ⟨h1, h2, h3, h4, h5, h6, h7, h8, h9⟩ := h
  refine ⟨h1, fun b hb => ?_, fun f x y z w => ?_, h4, fun j hj => ?_, fun j hj => ?_, fun j hj => ?_, fun j hj => ?_, fun j hj => ⟨(h9 j hj).1, ?_⟩⟩
  · rw [mI_ne _ _ _ (by omega)]
    exact h2 b hb
  · rw [mI_at, if_neg (by omega)]
    exact h3 f x y z w
  · rw [mI_at, mI_at, mI_at, if_neg (by omega), if_neg (by omega), if_neg (by omega)]
    exact h5 j hj
  · rw [mI_at, mI_at, mI_at, mI_at, if_neg (by omega), if_neg (by omega), if_neg (by omega), if_neg (by omega)]
    exact h6 j hj
  · rw [mI_at, if_neg (by omega)]
    exact h7 j hj
  · rw [mI_at, if_neg (by omega)]
    exact h8 j hj
  · rw [mI_at, if_neg (by omega)]
    exact (h9 j hj).2
theorem bF_m {M M1 : mm_T} {q : Nat} (h : mFr M M1) : bF M M1 q := by
  obtain ⟨h1, h2, h3⟩ := h
  have e : ∀ a, a ≠ 65 → (a < 91 ∨ 95 < a) → M1.1 a = M.1 a := h2
  refine ⟨by rw [h1], fun a ha => e a (by omega) (by omega), fun f _ _ _ w => h3 f w, fun a _ _ _ _ => by rw [h1], fun j _ => ⟨by rw [e 96 (by decide) (by decide)], by rw [e 97 (by decide) (by decide)], by rw [e 98 (by decide) (by decide)]⟩, fun j _ => ⟨by rw [e 101 (by decide) (by decide)], by rw [e 102 (by decide) (by decide)], by rw [e 103 (by decide) (by decide)], by rw [e 108 (by decide) (by decide)]⟩, fun j _ => by rw [e 106 (by decide) (by decide)], fun j _ => by rw [e 107 (by decide) (by decide)], fun j _ => ⟨by rw [h1], by rw [e 100 (by decide) (by decide)]⟩⟩
theorem bF_f {M M1 M2 : mm_T} {q x : Nat} (hx : x < 48) (h : bF M M1 q) (f : fF M1 M2 (48 * q + x)) : bF M M2 q := by
  obtain ⟨h1, h2, h3, h4, h5, h6, h7, h8, h9⟩ := h
  obtain ⟨f1, f2, f3, f4, f5, f6⟩ := f
  have e : ∀ a, a ≠ 65 → a ≠ 85 → (a < 86 ∨ 89 < a) → a ≠ 100 → a ≠ 101 → M2.1 a = M1.1 a := f2
  refine ⟨f1.trans h1, fun a ha => (e a (by omega) (by omega) (by omega) (by omega) (by omega)).trans (h2 a ha), fun f x y z w => (f3 f x y z).trans (h3 f x y z w), fun a x y z w => (f5 a x y z w).trans (h4 a x y z w), fun j hj => ?_, fun j hj => ?_, fun j hj => ?_, fun j hj => ?_, fun j hj => ?_⟩
  · rw [e 96 (by decide) (by decide) (by decide) (by decide) (by decide), e 97 (by decide) (by decide) (by decide) (by decide) (by decide), e 98 (by decide) (by decide) (by decide) (by decide) (by decide)]
    exact h5 j hj
  · rw [f4 j (by omega), e 102 (by decide) (by decide) (by decide) (by decide) (by decide), e 103 (by decide) (by decide) (by decide) (by decide) (by decide), e 108 (by decide) (by decide) (by decide) (by decide) (by decide)]
    exact h6 j hj
  · rw [e 106 (by decide) (by decide) (by decide) (by decide) (by decide)]
    exact h7 j hj
  · rw [e 107 (by decide) (by decide) (by decide) (by decide) (by decide)]
    exact h8 j hj
  · have := f6 j (by omega)
    exact ⟨this.1.trans (h9 j hj).1, this.2.trans (h9 j hj).2⟩
section MBS
variable {L : Nat} {xs : Nat → Int32} {d : Nat} {dy : List sh_T} {M : mm_T} {Q : Option Value → sm_W → Prop} {q G : Nat}
/-- the letters are copied -/
theorem l_bsA {M0 : mm_T} (hq1 : q ≤ 1) (hG : G < 4) (hq : ∀ M', bF M M' q → (∀ a, a ≠ 106 → M'.1 a = M0.1 a) → M'.2 = M0.2 → (∀ s, s < 49 → M'.1 106 (49 * q + s) = M0.1 70 (49 * G + s)) → sm_X L xs d 194 3 (sm_code 194 3) [(0, .ref 65), (1, .int (nI q)), (2, .int (nI G))] [] (wm (sh0 ++ dy) M') Q) (h0 : bF M M0 q) :
    sm_X L xs d 194 1 (sm_code 194 1) [(0, .ref 65), (1, .int (nI q)), (2, .int (nI G)), (3, .int (nI 0))] [] (wm (sh0 ++ dy) M0) Q := by
  have hm := s_65 dy
  have lp : ∀ M1, bF M M1 q → (∀ a, a ≠ 106 → M1.1 a = M0.1 a) → M1.2 = M0.2 → (∀ s, s < 0 → M1.1 106 (49 * q + s) = M0.1 70 (49 * G + s)) → sm_X L xs d 194 1 (sm_code 194 1) [(0, .ref 65), (1, .int (nI q)), (2, .int (nI G)), (3, .int (nI 0))] [] (wm (sh0 ++ dy) M1) Q := by
    refine loop_dn (P := fun k => ∀ M1, bF M M1 q → (∀ a, a ≠ 106 → M1.1 a = M0.1 a) → M1.2 = M0.2 → (∀ s, s < k → M1.1 106 (49 * q + s) = M0.1 70 (49 * G + s)) → sm_X L xs d 194 1 (sm_code 194 1) [(0, .ref 65), (1, .int (nI q)), (2, .int (nI G)), (3, .int (nI k))] [] (wm (sh0 ++ dy) M1) Q) 49 ?_ ?_
    · intro M1 f1 f2 f3 f4
      have fin := hq M1 f1 f2 f3 f4
      repeat (first | refine x_kcg rfl ?_ | refine x_opp rfl rfl ?_ | refine x_go rfl ?_)
      refine x_icm br_ge (fun _ => ?_) (fun h => absurd (by decide) h)
      refine x_lvs [(0, .ref 65), (1, .int (nI q)), (2, .int (nI G))] rfl rfl rfl ⟨rfl, rfl, rfl, trivial⟩ ?_
      exact fin
    · intro k hk ih M1 f1 f2 f3 f4
      have x1 := g49 q k
      have x2 := g49 G k
      have e70 : M1.1 70 (49 * G + k) = M0.1 70 (49 * G + k) := by rw [f2 70 (by decide)]
      have fin := ih (m_setI M1 106 (49 * q + k) (M0.1 70 (49 * G + k))) (bF_I f1 (by omega)) (fun a ha => by rw [mI_ne _ _ _ ha]; exact f2 a ha) f3 (fun s hs => by
        rw [mI_at]
        by_cases e : s = k
        · rw [if_pos ⟨rfl, by omega⟩, e]
        · rw [if_neg (fun h => e (by have := h.2; omega))]
          exact f4 s (by omega))
      repeat (first | refine x_kcg rfl ?_ | refine x_opp rfl rfl ?_ | refine x_go rfl ?_)
      refine x_icm br_ge (fun h => absurd h (nI_ge (b := 49) hk (by decide))) (fun _ => ?_)
      repeat (first | refine x_kcg rfl ?_ | refine x_opp rfl rfl ?_ | refine x_go rfl ?_ | refine m_getg hm rfl rfl rfl ?_)
      rw [x1, x2]
      refine m_iald (s_70 dy) (vp_in_nI (by omega) (by decide)) ?_
      rw [nI_clamp (by omega), e70]
      refine m_iast (s_106 dy) (vp_in_nI (by omega) (by decide)) ?_
      rw [nI_clamp (by omega)]
      repeat (first | refine x_kcg rfl ?_ | refine x_incg rfl rfl ?_ | refine x_opp rfl rfl ?_)
      refine x_goto ?_
      refine x_lvs [(0, .ref 65), (1, .int (nI q)), (2, .int (nI G)), (3, .int (nI (k + 1)))] rfl rfl rfl ⟨rfl, rfl, rfl, rfl, trivial⟩ ?_
      exact fin
  exact lp M0 h0 (fun _ _ => rfl) rfl (fun s hs => absurd hs (Nat.not_lt_zero s))
/-- sizes and squares of entries are copied -/
theorem l_bsB {M0 : mm_T} {es : List eT} (hq1 : q ≤ 1) (h42 : es.length ≤ 42) (hoks : ∀ e, e ∈ es → eOK e) (t0 : mTab M0 es) (hq : ∀ M', bF M M' q → (∀ a, a ≠ 107 → a ≠ 108 → M'.1 a = M0.1 a) → M'.2 = M0.2 → (∀ e, e < es.length → M'.1 108 (48 * q + e) = nI (eAt es e).2.2.1) → (∀ e i, e < es.length → i < (eAt es e).2.2.1 → M'.1 107 (7 * (48 * q + e) + i) = nI (mPl (eAt es e) i)) → sm_X L xs (d + 1) 194 9 (sm_code 194 9) [(0, .ref 65), (1, .int (nI q)), (2, .int (nI G)), (3, .int (nI 0))] [] (wm (sh0 ++ dy) M') Q) (h0 : bF M M0 q) :
    sm_X L xs (d + 1) 194 4 (sm_code 194 4) [(0, .ref 65), (1, .int (nI q)), (2, .int (nI G)), (3, .int (nI 0)), (4, .int (nI 0))] [] (wm (sh0 ++ dy) M0) Q := by
  have hm := s_65 dy
  have tab : ∀ M1 : mm_T, (∀ a, a ≠ 107 → a ≠ 108 → M1.1 a = M0.1 a) → mTab M1 es := by
    intro M1 f
    unfold mTab
    rw [f 65 (by decide) (by decide), f 91 (by decide) (by decide), f 92 (by decide) (by decide), f 93 (by decide) (by decide), f 94 (by decide) (by decide), f 95 (by decide) (by decide)]
    exact t0
  have lp : ∀ M1, bF M M1 q → (∀ a, a ≠ 107 → a ≠ 108 → M1.1 a = M0.1 a) → M1.2 = M0.2 → (∀ e, e < 0 → M1.1 108 (48 * q + e) = nI (eAt es e).2.2.1) → (∀ e i, e < 0 → i < (eAt es e).2.2.1 → M1.1 107 (7 * (48 * q + e) + i) = nI (mPl (eAt es e) i)) → sm_X L xs (d + 1) 194 4 (sm_code 194 4) [(0, .ref 65), (1, .int (nI q)), (2, .int (nI G)), (3, .int (nI 0)), (4, .int (nI 0))] [] (wm (sh0 ++ dy) M1) Q := by
    refine loop_dn (P := fun k => ∀ M1, bF M M1 q → (∀ a, a ≠ 107 → a ≠ 108 → M1.1 a = M0.1 a) → M1.2 = M0.2 → (∀ e, e < k → M1.1 108 (48 * q + e) = nI (eAt es e).2.2.1) → (∀ e i, e < k → i < (eAt es e).2.2.1 → M1.1 107 (7 * (48 * q + e) + i) = nI (mPl (eAt es e) i)) → sm_X L xs (d + 1) 194 4 (sm_code 194 4) [(0, .ref 65), (1, .int (nI q)), (2, .int (nI G)), (3, .int (nI 0)), (4, .int (nI k))] [] (wm (sh0 ++ dy) M1) Q) es.length ?_ ?_
    · intro M1 f1 f2 f3 f4 f5
      have fin := hq M1 f1 f2 f3 f4 f5
      repeat (first | refine x_kcg rfl ?_ | refine x_opp rfl rfl ?_ | refine x_go rfl ?_ | refine m_getg hm rfl rfl rfl ?_)
      rw [(tab M1 f2).1]
      refine x_icm br_ge (fun _ => ?_) (fun h => absurd (nI_le (Nat.le_refl _) (by omega)) h)
      refine x_lvs [(0, .ref 65), (1, .int (nI q)), (2, .int (nI G)), (3, .int (nI 0))] rfl rfl rfl ⟨rfl, rfl, rfl, rfl, trivial⟩ ?_
      exact fin
    · intro k hk ih M1 f1 f2 f3 f4 f5
      have hok : eOK (eAt es k) := hoks _ (List.mem_of_getElem? (eAt_get hk))
      have h7 : (eAt es k).2.2.1 ≤ 7 := by
        have := hok.2.2
        split at this <;> omega
      have x1 := g48 q k
      obtain ⟨-, -, -, t4, -⟩ := (tab M1 f2).2 k _ (eAt_get hk)
      have lp2 : ∀ M2, bF M M2 q → (∀ a, a ≠ 107 → a ≠ 108 → M2.1 a = M0.1 a) → M2.2 = M0.2 → (∀ e, e < k + 1 → M2.1 108 (48 * q + e) = nI (eAt es e).2.2.1) → (∀ e i, e < k → i < (eAt es e).2.2.1 → M2.1 107 (7 * (48 * q + e) + i) = nI (mPl (eAt es e) i)) → (∀ i, i < 0 → M2.1 107 (7 * (48 * q + k) + i) = nI (mPl (eAt es k) i)) → sm_X L xs (d + 1) 194 6 (sm_code 194 6) [(0, .ref 65), (1, .int (nI q)), (2, .int (nI G)), (3, .int (nI 0)), (4, .int (nI k)), (5, .int (nI (48 * q + k))), (6, .int (nI 0))] [] (wm (sh0 ++ dy) M2) Q := by
        refine loop_dn (P := fun i => ∀ M2, bF M M2 q → (∀ a, a ≠ 107 → a ≠ 108 → M2.1 a = M0.1 a) → M2.2 = M0.2 → (∀ e, e < k + 1 → M2.1 108 (48 * q + e) = nI (eAt es e).2.2.1) → (∀ e i, e < k → i < (eAt es e).2.2.1 → M2.1 107 (7 * (48 * q + e) + i) = nI (mPl (eAt es e) i)) → (∀ j, j < i → M2.1 107 (7 * (48 * q + k) + j) = nI (mPl (eAt es k) j)) → sm_X L xs (d + 1) 194 6 (sm_code 194 6) [(0, .ref 65), (1, .int (nI q)), (2, .int (nI G)), (3, .int (nI 0)), (4, .int (nI k)), (5, .int (nI (48 * q + k))), (6, .int (nI i))] [] (wm (sh0 ++ dy) M2) Q) (eAt es k).2.2.1 ?_ ?_
        · intro M2 g1 g2 g3 g4 g5 g6
          obtain ⟨-, -, -, u4, -⟩ := (tab M2 g2).2 k _ (eAt_get hk)
          have fin := ih M2 g1 g2 g3 g4 (fun e i he hi => by
            by_cases ee : e = k
            · subst ee
              exact g6 i hi
            · exact g5 e i (by omega) hi)
          repeat (first | refine x_kcg rfl ?_ | refine x_opp rfl rfl ?_ | refine x_go rfl ?_ | refine m_getg hm rfl rfl rfl ?_)
          refine m_iald (s_94 dy) (vp_in_nI (by omega) (by decide)) ?_
          rw [nI_clamp (by omega), u4]
          refine x_icm br_ge (fun _ => ?_) (fun h => absurd (nI_le (Nat.le_refl _) (by omega)) h)
          repeat (first | refine x_kcg rfl ?_ | refine x_incg rfl rfl ?_ | refine x_opp rfl rfl ?_)
          refine x_goto ?_
          refine x_lvs [(0, .ref 65), (1, .int (nI q)), (2, .int (nI G)), (3, .int (nI 0)), (4, .int (nI (k + 1)))] rfl rfl rfl ⟨rfl, rfl, rfl, rfl, rfl, trivial⟩ ?_
          exact fin
        · intro i hi ih2 M2 g1 g2 g3 g4 g5 g6
          obtain ⟨-, -, -, u4, -⟩ := (tab M2 g2).2 k _ (eAt_get hk)
          have x2 := g7 (48 * q + k) i
          have fin := ih2 (m_setI M2 107 (7 * (48 * q + k) + i) (nI (mPl (eAt es k) i))) (bF_I g1 (by omega)) (fun a y1 y2 => by rw [mI_ne _ _ _ y1]; exact g2 a y1 y2) g3 (fun e he => by rw [mI_ne _ _ _ (by decide)]; exact g4 e he) (fun e j he hj => by
            have hok2 : eOK (eAt es e) := hoks _ (List.mem_of_getElem? (eAt_get (by omega)))
            have h72 : (eAt es e).2.2.1 ≤ 7 := by
              have := hok2.2.2
              split at this <;> omega
            rw [mI_at, if_neg (fun h => by have := h.2; omega)]
            exact g5 e j he hj) (fun j hj => by
            rw [mI_at]
            by_cases ee : j = i
            · rw [if_pos ⟨rfl, by omega⟩, ee]
            · rw [if_neg (fun h => ee (by have := h.2; omega))]
              exact g6 j (by omega))
          repeat (first | refine x_kcg rfl ?_ | refine x_opp rfl rfl ?_ | refine x_go rfl ?_ | refine m_getg hm rfl rfl rfl ?_)
          refine m_iald (s_94 dy) (vp_in_nI (by omega) (by decide)) ?_
          rw [nI_clamp (by omega), u4]
          refine x_icm br_ge (fun h => absurd h (nI_ge hi (by omega))) (fun _ => ?_)
          repeat (first | refine x_kcg rfl ?_ | refine x_opp rfl rfl ?_ | refine x_go rfl ?_ | refine m_getg hm rfl rfl rfl ?_)
          rw [x2]
          refine m_callV hm rfl rfl rfl (k_placeOf (tab M2 g2) (eAt_get hk) (by omega) ?_)
          refine m_iast (s_107 dy) (vp_in_nI (by omega) (by decide)) ?_
          rw [nI_clamp (by omega)]
          repeat (first | refine x_kcg rfl ?_ | refine x_incg rfl rfl ?_ | refine x_opp rfl rfl ?_)
          refine x_goto ?_
          refine x_lvs [(0, .ref 65), (1, .int (nI q)), (2, .int (nI G)), (3, .int (nI 0)), (4, .int (nI k)), (5, .int (nI (48 * q + k))), (6, .int (nI (i + 1)))] rfl rfl rfl ⟨rfl, rfl, rfl, rfl, rfl, rfl, rfl, trivial⟩ ?_
          exact fin
      have fin := lp2 (m_setI M1 108 (48 * q + k) (nI (eAt es k).2.2.1)) (bF_I f1 (by omega)) (fun a y1 y2 => by rw [mI_ne _ _ _ y2]; exact f2 a y1 y2) f3 (fun e he => by
        rw [mI_at]
        by_cases ee : e = k
        · rw [if_pos ⟨rfl, by omega⟩, ee]
        · rw [if_neg (fun h => ee (by have := h.2; omega))]
          exact f4 e (by omega)) (fun e i he hi => by rw [mI_ne _ _ _ (by decide)]; exact f5 e i he hi) (fun i hi => absurd hi (Nat.not_lt_zero i))
      repeat (first | refine x_kcg rfl ?_ | refine x_opp rfl rfl ?_ | refine x_go rfl ?_ | refine m_getg hm rfl rfl rfl ?_)
      rw [(tab M1 f2).1]
      refine x_icm br_ge (fun h => absurd h (nI_ge hk (by omega))) (fun _ => ?_)
      repeat (first | refine x_kcg rfl ?_ | refine x_opp rfl rfl ?_ | refine x_go rfl ?_ | refine m_getg hm rfl rfl rfl ?_)
      rw [x1]
      refine m_iald (s_94 dy) (vp_in_nI (by omega) (by decide)) ?_
      rw [nI_clamp (by omega), t4]
      refine m_iast (s_108 dy) (vp_in_nI (by omega) (by decide)) ?_
      rw [nI_clamp (by omega)]
      repeat (first | refine x_kcg rfl ?_ | refine x_incg rfl rfl ?_ | refine x_opp rfl rfl ?_)
      refine x_fall ?_
      refine x_lvs [(0, .ref 65), (1, .int (nI q)), (2, .int (nI G)), (3, .int (nI 0)), (4, .int (nI k)), (5, .int (nI (48 * q + k))), (6, .int (nI 0))] rfl rfl rfl ⟨rfl, rfl, rfl, rfl, rfl, rfl, rfl, trivial⟩ ?_
      exact fin
  exact lp M0 h0 (fun _ _ _ => rfl) rfl (fun e he => absurd he (Nat.not_lt_zero e)) (fun e i he => absurd he (Nat.not_lt_zero e))
end MBS
