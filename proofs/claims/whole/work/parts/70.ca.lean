/-! candidates, in the desk -/
theorem decN (i : Nat) : nI (i + 1) + (-1) = nI i := pk_m1 i
theorem x_decN {L : Nat} {xs : Nat → Int32} {d y cb k j : Nat} {is : List sm_I} {lv : sm_L} {st : List Value} {w : sm_W} {Q : Option Value → sm_W → Prop} (hg : sm_get lv k = some (.int (nI (j + 1)))) (h : sm_X L xs d y cb is (sm_put lv k (.int (nI j))) st w Q) : sm_X L xs d y cb (.iinc k (Int.negSucc 0) :: is) lv st w Q := by
  refine x_op ?_ h
  simp only [sm_op, hg]
  rw [show Int32.ofInt (Int.negSucc 0) = -1 from rfl, decN]
/-- the candidates of entry e so far -/
def cCl (M : mm_T) (b e : Nat) (l : List wsT) : Prop := M.1 (b + 7) e = nI l.length ∧ ∀ j, j < l.length → M.2.1 (b + 6) (40 * e + j) = (l.getD j (0, 0)).1 ∧ M.1 (b + 8) j = (l.getD j (0, 0)).2
/-- only candidates of entry e have changed -/
def cCf (M M' : mm_T) (b e : Nat) : Prop := M'.2.2 = M.2.2 ∧ (∀ a, a ≠ b + 7 → a ≠ b + 8 → M'.1 a = M.1 a) ∧ (∀ j, j ≠ e → M'.1 (b + 7) j = M.1 (b + 7) j) ∧ (∀ a, a ≠ b + 6 → M'.2.1 a = M.2.1 a) ∧ ∀ j, (j < 40 * e ∨ 40 * e + 40 ≤ j) → M'.2.1 (b + 6) j = M.2.1 (b + 6) j
section CA
variable {L : Nat} {xs : Nat → Int32} {d : Nat} {sh : List sh_T} {M : mm_T} {Q : Option Value → sm_W → Prop} {b : Nat}
theorem c_isAhead {w w2 : Int64} {s s2 : Int32} (hq : Q (some (.int (zz (ahd (w, s) (w2, s2))))) (wm sh M)) : sm_E L xs (d + 3) 93 [.long w, .int s, .long w2, .int s2] (wm sh M) Q := by
  refine e_intro rfl rfl ?_
  unfold ahd at hq
  dsimp only at hq
  by_cases g : s = s2
  · subst g
    rw [decide_eq_false (Int32.lt_irrefl : ¬ s < s), decide_eq_true rfl, Bool.false_or, Bool.true_and, ← bfF_eq w w2 7 0 rfl] at hq
    have g : s = s := rfl
    repeat (first | refine x_kcg rfl ?_ | refine x_opp rfl rfl ?_ | refine x_go rfl ?_)
    refine x_icm br_eq (fun _ => ?_) (fun h => absurd rfl h)
    repeat (first | refine x_kcg rfl ?_ | refine x_opp rfl rfl ?_ | refine x_go rfl ?_)
    refine m_callS rfl rfl (c_isBefore ?_)
    repeat (first | refine x_kcg rfl ?_ | refine x_opp rfl rfl ?_ | refine x_go rfl ?_)
    exact x_zret (zz_01 _) hq
  · rw [decide_eq_false g, Bool.false_and, Bool.or_false] at hq
    by_cases g2 : s2 < s
    · rw [decide_eq_true g2] at hq
      have g3 : ¬ s ≤ s2 := Int32.not_le.mpr g2
      repeat' (first | refine x_kcg rfl ?_ | refine x_incg rfl rfl ?_ | refine x_opp rfl rfl ?_ | refine x_go rfl ?_ | (refine a_at isIf rfl ?_; first | (refine a_ifT rfl rfl br_eqz (by assumption) ?_) | (refine a_ifF rfl rfl br_eqz (by assumption) ?_) | (refine a_ifT rfl rfl br_nez (by assumption) ?_) | (refine a_ifF rfl rfl br_nez (by assumption) ?_) | (refine a_ifT rfl rfl br_eqz (nt_f (by assumption)) ?_) | (refine a_ifF rfl rfl br_eqz (tnf (by assumption)) ?_) | (refine a_ifF rfl rfl br_nez (fnt (by assumption)) ?_) | (refine a_if rfl rfl br_eqz (fun _ => ?_) (fun _ => ?_)) | (refine a_if rfl rfl br_nez (fun _ => ?_) (fun _ => ?_)) | (refine a_ifF rfl rfl br_ne (fun h => h (by assumption)) ?_) | (refine a_ifT rfl rfl br_eq (by assumption) ?_) | (refine a_ifF rfl rfl br_eq (by assumption) ?_) | (refine a_ifT rfl rfl br_ne (by assumption) ?_) | (refine a_ifF rfl rfl br_ne (by assumption) ?_) | (refine a_ifT rfl rfl br_lt (by assumption) ?_) | (refine a_ifF rfl rfl br_lt (by assumption) ?_) | (refine a_ifT rfl rfl br_ge (by assumption) ?_) | (refine a_ifF rfl rfl br_ge (by assumption) ?_) | (refine a_ifT rfl rfl br_gt (by assumption) ?_) | (refine a_ifF rfl rfl br_gt (by assumption) ?_) | (refine a_ifT rfl rfl br_le (by assumption) ?_) | (refine a_ifF rfl rfl br_le (by assumption) ?_) | (refine a_if rfl rfl br_eq (fun _ => ?_) (fun _ => ?_)) | (refine a_if rfl rfl br_ne (fun _ => ?_) (fun _ => ?_)) | (refine a_if rfl rfl br_lt (fun _ => ?_) (fun _ => ?_)) | (refine a_if rfl rfl br_ge (fun _ => ?_) (fun _ => ?_)) | (refine a_if rfl rfl br_gt (fun _ => ?_) (fun _ => ?_)) | (refine a_if rfl rfl br_le (fun _ => ?_) (fun _ => ?_))) | (refine a_at isIc rfl ?_; first | (refine a_icF rfl rfl br_ne (fun h => h (by assumption)) ?_) | (refine a_icT rfl rfl br_eq (by assumption) ?_) | (refine a_icF rfl rfl br_eq (by assumption) ?_) | (refine a_icT rfl rfl br_ne (by assumption) ?_) | (refine a_icF rfl rfl br_ne (by assumption) ?_) | (refine a_icT rfl rfl br_lt (by assumption) ?_) | (refine a_icF rfl rfl br_lt (by assumption) ?_) | (refine a_icT rfl rfl br_ge (by assumption) ?_) | (refine a_icF rfl rfl br_ge (by assumption) ?_) | (refine a_icT rfl rfl br_gt (by assumption) ?_) | (refine a_icF rfl rfl br_gt (by assumption) ?_) | (refine a_icT rfl rfl br_le (by assumption) ?_) | (refine a_icF rfl rfl br_le (by assumption) ?_) | (refine a_ic rfl rfl br_eq (fun _ => ?_) (fun _ => ?_)) | (refine a_ic rfl rfl br_ne (fun _ => ?_) (fun _ => ?_)) | (refine a_ic rfl rfl br_lt (fun _ => ?_) (fun _ => ?_)) | (refine a_ic rfl rfl br_ge (fun _ => ?_) (fun _ => ?_)) | (refine a_ic rfl rfl br_gt (fun _ => ?_) (fun _ => ?_)) | (refine a_ic rfl rfl br_le (fun _ => ?_) (fun _ => ?_))) | (refine a_at isRt rfl ?_; first | refine a_iret rfl rfl rfl ?_ | refine a_zret rfl rfl ?_ ?_ | refine a_lret rfl rfl ?_ | refine a_ret rfl rfl ?_))
      · exact Or.inr rfl
      · exact hq
    · rw [decide_eq_false g2] at hq
      have g3 : s ≤ s2 := Int32.not_lt.mp g2
      repeat' (first | refine x_kcg rfl ?_ | refine x_incg rfl rfl ?_ | refine x_opp rfl rfl ?_ | refine x_go rfl ?_ | (refine a_at isIf rfl ?_; first | (refine a_ifT rfl rfl br_eqz (by assumption) ?_) | (refine a_ifF rfl rfl br_eqz (by assumption) ?_) | (refine a_ifT rfl rfl br_nez (by assumption) ?_) | (refine a_ifF rfl rfl br_nez (by assumption) ?_) | (refine a_ifT rfl rfl br_eqz (nt_f (by assumption)) ?_) | (refine a_ifF rfl rfl br_eqz (tnf (by assumption)) ?_) | (refine a_ifF rfl rfl br_nez (fnt (by assumption)) ?_) | (refine a_if rfl rfl br_eqz (fun _ => ?_) (fun _ => ?_)) | (refine a_if rfl rfl br_nez (fun _ => ?_) (fun _ => ?_)) | (refine a_ifF rfl rfl br_ne (fun h => h (by assumption)) ?_) | (refine a_ifT rfl rfl br_eq (by assumption) ?_) | (refine a_ifF rfl rfl br_eq (by assumption) ?_) | (refine a_ifT rfl rfl br_ne (by assumption) ?_) | (refine a_ifF rfl rfl br_ne (by assumption) ?_) | (refine a_ifT rfl rfl br_lt (by assumption) ?_) | (refine a_ifF rfl rfl br_lt (by assumption) ?_) | (refine a_ifT rfl rfl br_ge (by assumption) ?_) | (refine a_ifF rfl rfl br_ge (by assumption) ?_) | (refine a_ifT rfl rfl br_gt (by assumption) ?_) | (refine a_ifF rfl rfl br_gt (by assumption) ?_) | (refine a_ifT rfl rfl br_le (by assumption) ?_) | (refine a_ifF rfl rfl br_le (by assumption) ?_) | (refine a_if rfl rfl br_eq (fun _ => ?_) (fun _ => ?_)) | (refine a_if rfl rfl br_ne (fun _ => ?_) (fun _ => ?_)) | (refine a_if rfl rfl br_lt (fun _ => ?_) (fun _ => ?_)) | (refine a_if rfl rfl br_ge (fun _ => ?_) (fun _ => ?_)) | (refine a_if rfl rfl br_gt (fun _ => ?_) (fun _ => ?_)) | (refine a_if rfl rfl br_le (fun _ => ?_) (fun _ => ?_))) | (refine a_at isIc rfl ?_; first | (refine a_icF rfl rfl br_ne (fun h => h (by assumption)) ?_) | (refine a_icT rfl rfl br_eq (by assumption) ?_) | (refine a_icF rfl rfl br_eq (by assumption) ?_) | (refine a_icT rfl rfl br_ne (by assumption) ?_) | (refine a_icF rfl rfl br_ne (by assumption) ?_) | (refine a_icT rfl rfl br_lt (by assumption) ?_) | (refine a_icF rfl rfl br_lt (by assumption) ?_) | (refine a_icT rfl rfl br_ge (by assumption) ?_) | (refine a_icF rfl rfl br_ge (by assumption) ?_) | (refine a_icT rfl rfl br_gt (by assumption) ?_) | (refine a_icF rfl rfl br_gt (by assumption) ?_) | (refine a_icT rfl rfl br_le (by assumption) ?_) | (refine a_icF rfl rfl br_le (by assumption) ?_) | (refine a_ic rfl rfl br_eq (fun _ => ?_) (fun _ => ?_)) | (refine a_ic rfl rfl br_ne (fun _ => ?_) (fun _ => ?_)) | (refine a_ic rfl rfl br_lt (fun _ => ?_) (fun _ => ?_)) | (refine a_ic rfl rfl br_ge (fun _ => ?_) (fun _ => ?_)) | (refine a_ic rfl rfl br_gt (fun _ => ?_) (fun _ => ?_)) | (refine a_ic rfl rfl br_le (fun _ => ?_) (fun _ => ?_))) | (refine a_at isRt rfl ?_; first | refine a_iret rfl rfl rfl ?_ | refine a_zret rfl rfl ?_ ?_ | refine a_lret rfl rfl ?_ | refine a_ret rfl rfl ?_))
      · exact Or.inl rfl
      · exact hq
theorem c_addCand {e : Nat} {l : List wsT} {w : Int64} {s : Int32} (hs : srSh sh b) (he : e < 42) (hl : l.length < 40) (hc : cCl M b e l) (hq : ∀ M', cCl M' b e (cIns l (w, s)) → cCf M M' b e → Q none (wm sh M')) : sm_E L xs (d + 4) 92 [.ref b, .int (nI e), .long w, .int s] (wm sh M) Q := by
  obtain ⟨s0, -, s6, s7, s8, -⟩ := hs
  obtain ⟨h7, hj⟩ := hc
  have hle : cIx l (w, s) ≤ l.length := insI_le _ _
  generalize hp : (fun i => ahd (w, s) (l.getD i (0, 0))) = p
  have hix : cIx l (w, s) = insI p l.length := by rw [← hp]; rfl
  have x40 : nI e * 40 = nI (40 * e) := by rw [show (40 : Int32) = nI 40 from rfl, pk_mul, Nat.mul_comm]
  refine e_intro rfl rfl ?_
  have fin : ∀ i, i ≤ l.length → insI p l.length = i → ∀ M1, M1.2.2 = M.2.2 → (∀ a, a ≠ b + 8 → M1.1 a = M.1 a) → (∀ a, a ≠ b + 6 → M1.2.1 a = M.2.1 a) → (∀ j, (j < 40 * e ∨ 40 * e + 40 ≤ j) → M1.2.1 (b + 6) j = M.2.1 (b + 6) j) → (∀ j, j < i → M1.2.1 (b + 6) (40 * e + j) = (l.getD j (0, 0)).1 ∧ M1.1 (b + 8) j = (l.getD j (0, 0)).2) → (∀ j, i < j → j ≤ l.length → M1.2.1 (b + 6) (40 * e + j) = (l.getD (j - 1) (0, 0)).1 ∧ M1.1 (b + 8) j = (l.getD (j - 1) (0, 0)).2) →
      sm_X L xs (d + 3) 92 6 (sm_code 92 6) [(0, .ref b), (1, .int (nI e)), (2, .long w), (4, .int s), (5, .int (nI (40 * e))), (6, .int (nI i))] [] (wm sh M1) Q := by
    intro i hi hI M1 f1 f2 f3 f4 f5 f6
    have fin := hq (m_setI (m_setI (m_setL M1 (b + 6) (40 * e + i) w) (b + 8) i s) (b + 7) e (nI (l.length + 1))) (by
      unfold cIns
      rw [hix, hI]
      refine ⟨?_, fun j hj1 => ?_⟩
      · rw [mI_at, if_pos ⟨rfl, rfl⟩, lIns_len _ hi]
      · rw [lIns_len _ hi] at hj1
        rw [lIns_get _ _ hi, mI_2, mI_2, mL_at, mI_ne _ _ _ (show b + 8 ≠ b + 7 by omega), mI_at]
        by_cases g1 : j < i
        · rw [if_pos g1, if_neg (fun h => by have := h.2; omega), if_neg (fun h => by have := h.2; omega)]
          exact f5 j g1
        · rw [if_neg g1]
          by_cases g2 : j = i
          · rw [if_pos g2, if_pos ⟨rfl, by omega⟩, if_pos ⟨rfl, g2⟩]
            exact ⟨rfl, rfl⟩
          · rw [if_neg g2, if_neg (fun h => by have := h.2; omega), if_neg (fun h => g2 h.2)]
            exact f6 j (by omega) (by omega)) (by
      refine ⟨f1, fun a y1 y2 => ?_, fun j hj1 => ?_, fun a y1 => ?_, fun j hj1 => ?_⟩
      · rw [mI_ne _ _ _ y1, mI_ne _ _ _ y2]
        exact f2 a y2
      · rw [mI_at, if_neg (fun h => hj1 h.2), mI_ne _ _ _ (by omega)]
        exact congrFun (f2 (b + 7) (by omega)) j
      · rw [mI_2, mI_2, mL_ne _ _ _ y1]
        exact f3 a y1
      · rw [mI_2, mI_2, mL_at, if_neg (fun h => by have := h.2; omega)]
        exact f4 j hj1)
    have x1 : nI (40 * e) + nI i = nI (40 * e + i) := nI_add _ _
    have e7 : (m_setI (m_setL M1 (b + 6) (40 * e + i) w) (b + 8) i s).1 (b + 7) e = nI l.length := by rw [mI_ne _ _ _ (by omega)]; show M1.1 (b + 7) e = _; rw [f2 _ (by omega)]; exact h7
    repeat (first | refine x_kcg rfl ?_ | refine x_opp rfl rfl ?_ | refine x_go rfl ?_ | refine m_getg s0 rfl rfl rfl ?_)
    rw [x1]
    refine m_last s6 (vp_in_nI (by omega) (by decide)) ?_
    rw [nI_clamp (by omega)]
    repeat (first | refine x_kcg rfl ?_ | refine x_opp rfl rfl ?_ | refine x_go rfl ?_ | refine m_getg s0 rfl rfl rfl ?_)
    refine m_iast s8 (vp_in_nI (by omega) (by decide)) ?_
    rw [nI_clamp (by omega)]
    repeat (first | refine x_kcg rfl ?_ | refine x_opp rfl rfl ?_ | refine x_go rfl ?_ | refine m_getg s0 rfl rfl rfl ?_)
    refine m_iald s7 (vp_in_nI (by omega) (by decide)) ?_
    rw [nI_clamp (by omega), e7]
    repeat (first | refine x_kcg rfl ?_ | refine x_opp rfl rfl ?_ | refine x_go rfl ?_)
    rw [nI_1]
    refine m_iast s7 (vp_in_nI (by omega) (by decide)) ?_
    rw [nI_clamp (by omega)]
    exact x_ret fin
  have lp : ∀ i, i ≤ l.length → insI p l.length = insI p i → ∀ M1, M1.2.2 = M.2.2 → (∀ a, a ≠ b + 8 → M1.1 a = M.1 a) → (∀ a, a ≠ b + 6 → M1.2.1 a = M.2.1 a) → (∀ j, (j < 40 * e ∨ 40 * e + 40 ≤ j) → M1.2.1 (b + 6) j = M.2.1 (b + 6) j) → (∀ j, j < i → M1.2.1 (b + 6) (40 * e + j) = (l.getD j (0, 0)).1 ∧ M1.1 (b + 8) j = (l.getD j (0, 0)).2) → (∀ j, i < j → j ≤ l.length → M1.2.1 (b + 6) (40 * e + j) = (l.getD (j - 1) (0, 0)).1 ∧ M1.1 (b + 8) j = (l.getD (j - 1) (0, 0)).2) →
      sm_X L xs (d + 3) 92 3 (sm_code 92 3) [(0, .ref b), (1, .int (nI e)), (2, .long w), (4, .int s), (5, .int (nI (40 * e))), (6, .int (nI i))] [] (wm sh M1) Q := by
    intro i
    induction i with
    | zero =>
      intro hi hI M1 f1 f2 f3 f4 f5 f6
      have f := fin 0 hi hI M1 f1 f2 f3 f4 f5 f6
      repeat (first | refine x_kcg rfl ?_ | refine x_opp rfl rfl ?_ | refine x_go rfl ?_)
      refine x_ifc br_le (fun _ => ?_) (fun h => absurd (by decide) h)
      exact f
    | succ i ih =>
      intro hi hI M1 f1 f2 f3 f4 f5 f6
      have x1 : nI (40 * e) + nI (i + 1) - 1 = nI (40 * e + i) := by rw [nI_add, ← Nat.add_assoc, nI_pred]
      have x2 : nI (i + 1) - 1 = nI i := nI_pred i
      have x3 : nI (40 * e) + nI (i + 1) = nI (40 * e + (i + 1)) := nI_add _ _
      obtain ⟨w1, w2⟩ := f5 i (by omega)
      have pI : ahd (w, s) ((l.getD i (0, 0)).1, (l.getD i (0, 0)).2) = p i := by rw [← hp]
      repeat (first | refine x_kcg rfl ?_ | refine x_opp rfl rfl ?_ | refine x_go rfl ?_)
      refine x_ifc br_le (fun h => absurd h (nI_nle (by omega) (by omega))) (fun _ => ?_)
      repeat (first | refine x_kcg rfl ?_ | refine x_opp rfl rfl ?_ | refine x_go rfl ?_ | refine m_getg s0 rfl rfl rfl ?_)
      rw [x1]
      refine m_lald s6 (vp_in_nI (by omega) (by decide)) ?_
      rw [nI_clamp (by omega), w1]
      repeat (first | refine x_kcg rfl ?_ | refine x_opp rfl rfl ?_ | refine x_go rfl ?_ | refine m_getg s0 rfl rfl rfl ?_)
      rw [x2]
      refine m_iald s8 (vp_in_nI (by omega) (by decide)) ?_
      rw [nI_clamp (by omega), w2]
      refine m_callS rfl rfl (c_isAhead (d := d) ?_)
      rw [pI]
      by_cases g : p i = true
      · rw [g]
        refine x_ifc br_eqz (fun h => by cases h) (fun _ => ?_)
        have w2b : (m_setL M1 (b + 6) (40 * e + (i + 1)) (l.getD i (0, 0)).1).1 (b + 8) i = (l.getD i (0, 0)).2 := w2
        have f := ih (by omega) (by rw [hI]; conv => lhs; unfold insI; rw [if_pos g]) (m_setI (m_setL M1 (b + 6) (40 * e + (i + 1)) (l.getD i (0, 0)).1) (b + 8) (i + 1) (l.getD i (0, 0)).2) f1 (fun a ha => by rw [mI_ne _ _ _ ha]; exact f2 a ha) (fun a ha => by rw [mI_2, mL_ne _ _ _ ha]; exact f3 a ha) (fun j hj1 => by rw [mI_2, mL_at, if_neg (fun h => by have := h.2; omega)]; exact f4 j hj1) (fun j hj1 => by
            rw [mI_2, mL_at, if_neg (fun h => by have := h.2; omega), mI_at, if_neg (fun h => by have := h.2; omega)]
            exact f5 j (by omega)) (fun j hj1 hj2 => by
            rw [mI_2, mL_at, mI_at]
            by_cases e1 : j = i + 1
            · rw [if_pos ⟨rfl, by omega⟩, if_pos ⟨rfl, e1⟩, e1, Nat.add_sub_cancel]
              exact ⟨rfl, rfl⟩
            · rw [if_neg (fun h => by have := h.2; omega), if_neg (fun h => e1 h.2)]
              exact f6 j (by omega) hj2)
        repeat (first | refine x_kcg rfl ?_ | refine x_opp rfl rfl ?_ | refine x_go rfl ?_ | refine m_getg s0 rfl rfl rfl ?_)
        rw [x1, x3]
        refine m_lald s6 (vp_in_nI (by omega) (by decide)) ?_
        rw [nI_clamp (by omega), w1]
        refine m_last s6 (vp_in_nI (by omega) (by decide)) ?_
        rw [nI_clamp (by omega)]
        repeat (first | refine x_kcg rfl ?_ | refine x_opp rfl rfl ?_ | refine x_go rfl ?_ | refine m_getg s0 rfl rfl rfl ?_)
        rw [x2]
        refine m_iald s8 (vp_in_nI (by omega) (by decide)) ?_
        rw [nI_clamp (by omega), w2b]
        refine m_iast s8 (vp_in_nI (by omega) (by decide)) ?_
        rw [nI_clamp (by omega)]
        refine x_decN (j := i) rfl ?_
        refine x_goto ?_
        refine x_lvs [(0, .ref b), (1, .int (nI e)), (2, .long w), (4, .int s), (5, .int (nI (40 * e))), (6, .int (nI i))] rfl rfl rfl ⟨rfl, rfl, rfl, rfl, rfl, rfl, trivial⟩ ?_
        exact f
      · rw [nt_f g]
        have f := fin (i + 1) hi (by rw [hI]; unfold insI; rw [if_neg g]) M1 f1 f2 f3 f4 f5 f6
        refine x_ifc br_eqz (fun _ => ?_) (fun h => absurd rfl h)
        exact f
  have f := lp l.length (Nat.le_refl _) rfl M rfl (fun _ _ => rfl) (fun _ _ => rfl) (fun _ _ => rfl) (fun j hj1 => hj j hj1) (fun j h1 h2 => by omega)
  repeat (first | refine x_kcg rfl ?_ | refine x_opp rfl rfl ?_ | refine x_go rfl ?_ | refine m_getg s0 rfl rfl rfl ?_)
  refine m_iald s7 (vp_in_nI (by omega) (by decide)) ?_
  rw [nI_clamp (by omega), h7]
  repeat (first | refine x_kcg rfl ?_ | refine x_opp rfl rfl ?_ | refine x_go rfl ?_)
  refine x_icm br_lt (fun _ => ?_) (fun h => absurd (nI_lt (b := 40) hl (by decide)) h)
  repeat (first | refine x_kcg rfl ?_ | refine x_opp rfl rfl ?_ | refine x_go rfl ?_ | refine m_getg s0 rfl rfl rfl ?_)
  refine m_iald s7 (vp_in_nI (by omega) (by decide)) ?_
  rw [nI_clamp (by omega), h7]
  repeat (first | refine x_kcg rfl ?_ | refine x_incg rfl rfl ?_ | refine x_opp rfl rfl ?_)
  refine x_fall ?_
  rw [x40]
  refine x_lvs [(0, .ref b), (1, .int (nI e)), (2, .long w), (4, .int s), (5, .int (nI (40 * e))), (6, .int (nI l.length))] rfl rfl rfl ⟨rfl, rfl, rfl, rfl, rfl, rfl, trivial⟩ ?_
  exact f
end CA
