/-! the searching of the reference: what is remembered, the loop -/
/-- on to the m-th filling from here -/
def sGo (D : sD) (lim : Nat) : Nat → sS → Nat → Nat × sS × Nat × List (Nat → Int64)
  | 0, S, p => (1, S, p, [])
  | m + 1, S, p => match sNx D lim (2 * lim + 50) S p with
    | some (1, S', p') => if m = 0 then (1, S', p', [S'.2.2]) else if D.1.length = 0 then (0, S', p', [S'.2.2]) else
        ((sGo D lim m (sBack S') p').1, (sGo D lim m (sBack S') p').2.1, (sGo D lim m (sBack S') p').2.2.1, S'.2.2 :: (sGo D lim m (sBack S') p').2.2.2)
    | some (o, S', p') => (o, S', p', [])
    | none => (0, S, p, [])
/-- the fillings that were remembered first -/
def rK (M : mm_T) (D : sD) (fs : List (Nat → Int64)) : Prop := M.1 65 58 = nI (min fs.length 3) ∧ ∀ j tk, j < 3 → fs[j]? = some tk → ∀ k, k < D.1.length → M.2.1 109 (48 * j + D.2.2.1 k) = tk k
/-- only what is remembered has changed -/
def rFr (M M' : mm_T) : Prop := M'.2.2 = M.2.2 ∧ (∀ a, a ≠ 65 → M'.1 a = M.1 a) ∧ (∀ f, f ≠ 58 → M'.1 65 f = M.1 65 f) ∧ ∀ a, a ≠ 109 → M'.2.1 a = M.2.1 a
theorem rFr_rfl (M : mm_T) : rFr M M := ⟨rfl, fun _ _ => rfl, fun _ _ => rfl, fun _ _ => rfl⟩
section MU
variable {L : Nat} {xs : Nat → Int32} {d : Nat} {dy : List sh_T} {M : mm_T} {Q : Option Value → sm_W → Prop} {q : Nat} {D : sD} {S : sS}
set_option maxRecDepth 4000 in
theorem k_rem0 (hq : Q none (wm (sh0 ++ dy) M)) : sm_E L xs (d + 1) 201 [.ref 65, .int (nI 0)] (wm (sh0 ++ dy) M) Q := by
  have g : ¬ nI 0 = 1 := by decide
  refine e_intro rfl rfl ?_
  repeat' (first | refine x_kcg rfl ?_ | refine x_incg rfl rfl ?_ | refine x_opp rfl rfl ?_ | refine x_go rfl ?_ | (refine a_at isIf rfl ?_; first | (refine a_ifT rfl rfl br_eqz (by assumption) ?_) | (refine a_ifF rfl rfl br_eqz (by assumption) ?_) | (refine a_ifT rfl rfl br_nez (by assumption) ?_) | (refine a_ifF rfl rfl br_nez (by assumption) ?_) | (refine a_ifT rfl rfl br_eqz (nt_f (by assumption)) ?_) | (refine a_ifF rfl rfl br_eqz (tnf (by assumption)) ?_) | (refine a_ifF rfl rfl br_nez (fnt (by assumption)) ?_) | (refine a_if rfl rfl br_eqz (fun _ => ?_) (fun _ => ?_)) | (refine a_if rfl rfl br_nez (fun _ => ?_) (fun _ => ?_)) | (refine a_ifF rfl rfl br_ne (fun h => h (by assumption)) ?_) | (refine a_ifT rfl rfl br_eq (by assumption) ?_) | (refine a_ifF rfl rfl br_eq (by assumption) ?_) | (refine a_ifT rfl rfl br_ne (by assumption) ?_) | (refine a_ifF rfl rfl br_ne (by assumption) ?_) | (refine a_ifT rfl rfl br_lt (by assumption) ?_) | (refine a_ifF rfl rfl br_lt (by assumption) ?_) | (refine a_ifT rfl rfl br_ge (by assumption) ?_) | (refine a_ifF rfl rfl br_ge (by assumption) ?_) | (refine a_ifT rfl rfl br_gt (by assumption) ?_) | (refine a_ifF rfl rfl br_gt (by assumption) ?_) | (refine a_ifT rfl rfl br_le (by assumption) ?_) | (refine a_ifF rfl rfl br_le (by assumption) ?_) | (refine a_if rfl rfl br_eq (fun _ => ?_) (fun _ => ?_)) | (refine a_if rfl rfl br_ne (fun _ => ?_) (fun _ => ?_)) | (refine a_if rfl rfl br_lt (fun _ => ?_) (fun _ => ?_)) | (refine a_if rfl rfl br_ge (fun _ => ?_) (fun _ => ?_)) | (refine a_if rfl rfl br_gt (fun _ => ?_) (fun _ => ?_)) | (refine a_if rfl rfl br_le (fun _ => ?_) (fun _ => ?_))) | (refine a_at isIc rfl ?_; first | (refine a_icF rfl rfl br_ne (fun h => h (by assumption)) ?_) | (refine a_icT rfl rfl br_eq (by assumption) ?_) | (refine a_icF rfl rfl br_eq (by assumption) ?_) | (refine a_icT rfl rfl br_ne (by assumption) ?_) | (refine a_icF rfl rfl br_ne (by assumption) ?_) | (refine a_icT rfl rfl br_lt (by assumption) ?_) | (refine a_icF rfl rfl br_lt (by assumption) ?_) | (refine a_icT rfl rfl br_ge (by assumption) ?_) | (refine a_icF rfl rfl br_ge (by assumption) ?_) | (refine a_icT rfl rfl br_gt (by assumption) ?_) | (refine a_icF rfl rfl br_gt (by assumption) ?_) | (refine a_icT rfl rfl br_le (by assumption) ?_) | (refine a_icF rfl rfl br_le (by assumption) ?_) | (refine a_ic rfl rfl br_eq (fun _ => ?_) (fun _ => ?_)) | (refine a_ic rfl rfl br_ne (fun _ => ?_) (fun _ => ?_)) | (refine a_ic rfl rfl br_lt (fun _ => ?_) (fun _ => ?_)) | (refine a_ic rfl rfl br_ge (fun _ => ?_) (fun _ => ?_)) | (refine a_ic rfl rfl br_gt (fun _ => ?_) (fun _ => ?_)) | (refine a_ic rfl rfl br_le (fun _ => ?_) (fun _ => ?_))) | (refine a_at isRt rfl ?_; first | refine a_iret rfl rfl rfl ?_ | refine a_zret rfl rfl ?_ ?_ | refine a_lret rfl rfl ?_ | refine a_ret rfl rfl ?_))
  exact hq
set_option maxRecDepth 4000 in
theorem k_rem1 {fs : List (Nat → Int64)} {tk : Nat → Int64} (hd : dOK D) (hin : ∀ i j, i < D.1.length → j < D.1.length → D.2.2.1 i = D.2.2.1 j → i = j) (h96 : M.1 96 1 = nI D.1.length) (h102 : ∀ k, k < D.1.length → M.1 102 (48 + k) = nI (D.2.2.1 k)) (h104 : ∀ k, k < D.1.length → M.2.1 104 (48 + k) = tk k) (hr : rK M D fs)
    (hq : ∀ M', rK M' D (fs ++ [tk]) → rFr M M' → Q none (wm (sh0 ++ dy) M')) : sm_E L xs (d + 1) 201 [.ref 65, .int (nI 1)] (wm (sh0 ++ dy) M) Q := by
  have hm := s_65 dy
  have h42 := hd.1
  have g1 : nI 1 = 1 := rfl
  refine e_intro rfl rfl ?_
  by_cases h3 : fs.length < 3
  · have em : min fs.length 3 = fs.length := by omega
    have e58 : M.1 65 58 = nI fs.length := by rw [hr.1, em]
    have g3 : ¬ (3 : Int32) ≤ M.1 65 58 := by rw [e58]; exact nI_ge (b := 3) h3 (by decide)
    have lp : ∀ M1, rFr M M1 → M1.1 = M.1 → (∀ j, j < 48 * fs.length ∨ 48 * fs.length + 48 ≤ j → M1.2.1 109 j = M.2.1 109 j) → (∀ k, k < 0 → M1.2.1 109 (48 * fs.length + D.2.2.1 k) = tk k) → sm_X L xs d 201 3 (sm_code 201 3) [(0, .ref 65), (1, .int (nI 1)), (2, .int (nI 0))] [] (wm (sh0 ++ dy) M1) Q := by
      refine loop_dn (P := fun i => ∀ M1, rFr M M1 → M1.1 = M.1 → (∀ j, j < 48 * fs.length ∨ 48 * fs.length + 48 ≤ j → M1.2.1 109 j = M.2.1 109 j) → (∀ k, k < i → M1.2.1 109 (48 * fs.length + D.2.2.1 k) = tk k) → sm_X L xs d 201 3 (sm_code 201 3) [(0, .ref 65), (1, .int (nI 1)), (2, .int (nI i))] [] (wm (sh0 ++ dy) M1) Q) D.1.length ?_ ?_
      · intro M1 f1 f2 f3 f4
        have g : M1.1 96 1 ≤ nI D.1.length := by rw [f2, h96]; exact nI_le (Nat.le_refl _) (by omega)
        have c58 : M1.1 65 58 = nI fs.length := by rw [f2]; exact e58
        have fin := hq (m_setI M1 65 58 (nI (fs.length + 1))) (by
          refine ⟨?_, fun j t hj ht k hk => ?_⟩
          · rw [mI_at, if_pos ⟨rfl, rfl⟩, List.length_append]
            congr 1
            simp
            omega
          · show M1.2.1 109 (48 * j + D.2.2.1 k) = t k
            have hok := hd.2.2.1 k hk
            by_cases hl : j < fs.length
            · rw [List.getElem?_append_left hl] at ht
              rw [f3 _ (by omega)]
              exact hr.2 j t hj ht k hk
            · rw [List.getElem?_append_right (by omega)] at ht
              have h1 : j - fs.length < 1 := (List.getElem?_eq_some_iff.mp ht).1
              have h2 : j = fs.length := by omega
              subst h2
              rw [Nat.sub_self] at ht
              cases ht
              exact f4 k hk) (by
          refine ⟨f1.1, fun a ha => ?_, fun f hf => ?_, f1.2.2.2⟩
          · rw [mI_ne _ _ _ ha]
            exact f1.2.1 a ha
          · rw [mI_at, if_neg (fun h => hf h.2)]
            exact f1.2.2.1 f hf)
        repeat (first | refine x_kcg rfl ?_ | refine x_opp rfl rfl ?_ | refine x_go rfl ?_ | refine m_getg hm rfl rfl rfl ?_)
        rw [show (nI 1) = nI 1 from rfl]
        refine m_iald (s_96 dy) (vp_in_nI (by decide) (by decide)) ?_
        rw [nI_clamp (by decide)]
        refine x_icm br_ge (fun _ => ?_) (fun h => absurd g h)
        repeat (first | refine x_kcg rfl ?_ | refine x_opp rfl rfl ?_ | refine x_go rfl ?_ | refine m_getg hm rfl rfl rfl ?_)
        rw [c58, nI_1]
        refine m_putI hm rfl ?_
        refine x_fall ?_
        exact x_ret fin
      · intro i hi ih M1 f1 f2 f3 f4
        have g : ¬ M1.1 96 1 ≤ nI i := by rw [f2, h96]; exact nI_ge hi (by omega)
        have c58 : M1.1 65 58 = nI fs.length := by rw [f2]; exact e58
        have c102 : M1.1 102 (48 * 1 + i) = nI (D.2.2.1 i) := by rw [f2]; exact h102 i hi
        have c104 : M1.2.1 104 (48 * 1 + i) = tk i := by rw [f1.2.2.2 104 (by decide)]; exact h104 i hi
        have hok := hd.2.2.1 i hi
        have fin := ih (m_setL M1 109 (48 * fs.length + D.2.2.1 i) (tk i)) ⟨f1.1, f1.2.1, f1.2.2.1, fun a ha => by rw [mL_ne _ _ _ ha]; exact f1.2.2.2 a ha⟩ f2 (fun j hj => by rw [mL_at, if_neg (fun h => by have := h.2; omega)]; exact f3 j hj) (fun k hk => by
          rw [mL_at]
          by_cases e : k = i
          · rw [if_pos ⟨rfl, by rw [e]⟩, e]
          · rw [if_neg (fun h => e (hin k i (by omega) hi (by have := h.2; omega)))]
            exact f4 k (by omega))
        have x1 := g48 1 i
        have x2 := g48 fs.length (D.2.2.1 i)
        repeat (first | refine x_kcg rfl ?_ | refine x_opp rfl rfl ?_ | refine x_go rfl ?_ | refine m_getg hm rfl rfl rfl ?_)
        refine m_iald (s_96 dy) (vp_in_nI (by decide) (by decide)) ?_
        rw [nI_clamp (by decide)]
        refine x_icm br_ge (fun h => absurd h g) (fun _ => ?_)
        repeat (first | refine x_kcg rfl ?_ | refine x_opp rfl rfl ?_ | refine x_go rfl ?_ | refine m_getg hm rfl rfl rfl ?_)
        rw [c58, x1]
        refine m_iald (s_102 dy) (vp_in_nI (by omega) (by decide)) ?_
        rw [nI_clamp (by omega), c102]
        repeat (first | refine x_kcg rfl ?_ | refine x_opp rfl rfl ?_ | refine x_go rfl ?_ | refine m_getg hm rfl rfl rfl ?_)
        rw [x2, x1]
        refine m_lald (s_104 dy) (vp_in_nI (by omega) (by decide)) ?_
        rw [nI_clamp (by omega), c104]
        refine m_last (s_109 dy) (vp_in_nI (by omega) (by decide)) ?_
        rw [nI_clamp (by omega)]
        repeat (first | refine x_kcg rfl ?_ | refine x_incg rfl rfl ?_ | refine x_opp rfl rfl ?_)
        refine x_goto ?_
        refine x_lvs [(0, .ref 65), (1, .int (nI 1)), (2, .int (nI (i + 1)))] rfl rfl rfl ⟨rfl, rfl, rfl, trivial⟩ ?_
        exact fin
    have fin := lp M (rFr_rfl M) rfl (fun _ _ => rfl) (fun k hk => absurd hk (Nat.not_lt_zero k))
    repeat' (first | (refine a_stop 3 rfl ?_; (refine x_lvs [(0, .ref 65), (1, .int (nI 1)), (2, .int (nI 0))] rfl rfl rfl ⟨rfl, rfl, rfl, trivial⟩ ?_; exact fin)) | refine x_kcg rfl ?_ | refine x_incg rfl rfl ?_ | refine x_opp rfl rfl ?_ | refine x_go rfl ?_ | (refine a_at isGf rfl ?_; first | refine m_getg hm rfl rfl rfl ?_) | (refine a_at isPf rfl ?_; first | refine a_putI hm rfl rfl rfl ?_ | refine a_putL hm rfl rfl rfl ?_) | (refine a_at isAr rfl ?_; first | refine a_iald hm rfl rfl ?_ ?_ | refine a_bald hm rfl rfl ?_ ?_ | refine a_lald hm rfl rfl ?_ ?_ | refine a_iast hm rfl rfl ?_ ?_ | refine a_last hm rfl rfl ?_ ?_ | refine a_bast hm rfl rfl ?_ ?_ ?_) | (refine a_at isIf rfl ?_; first | (refine a_ifT rfl rfl br_eqz (by assumption) ?_) | (refine a_ifF rfl rfl br_eqz (by assumption) ?_) | (refine a_ifT rfl rfl br_nez (by assumption) ?_) | (refine a_ifF rfl rfl br_nez (by assumption) ?_) | (refine a_ifT rfl rfl br_eqz (nt_f (by assumption)) ?_) | (refine a_ifF rfl rfl br_eqz (tnf (by assumption)) ?_) | (refine a_ifF rfl rfl br_nez (fnt (by assumption)) ?_) | (refine a_if rfl rfl br_eqz (fun _ => ?_) (fun _ => ?_)) | (refine a_if rfl rfl br_nez (fun _ => ?_) (fun _ => ?_)) | (refine a_ifF rfl rfl br_ne (fun h => h (by assumption)) ?_) | (refine a_ifT rfl rfl br_eq (by assumption) ?_) | (refine a_ifF rfl rfl br_eq (by assumption) ?_) | (refine a_ifT rfl rfl br_ne (by assumption) ?_) | (refine a_ifF rfl rfl br_ne (by assumption) ?_) | (refine a_ifT rfl rfl br_lt (by assumption) ?_) | (refine a_ifF rfl rfl br_lt (by assumption) ?_) | (refine a_ifT rfl rfl br_ge (by assumption) ?_) | (refine a_ifF rfl rfl br_ge (by assumption) ?_) | (refine a_ifT rfl rfl br_gt (by assumption) ?_) | (refine a_ifF rfl rfl br_gt (by assumption) ?_) | (refine a_ifT rfl rfl br_le (by assumption) ?_) | (refine a_ifF rfl rfl br_le (by assumption) ?_) | (refine a_if rfl rfl br_eq (fun _ => ?_) (fun _ => ?_)) | (refine a_if rfl rfl br_ne (fun _ => ?_) (fun _ => ?_)) | (refine a_if rfl rfl br_lt (fun _ => ?_) (fun _ => ?_)) | (refine a_if rfl rfl br_ge (fun _ => ?_) (fun _ => ?_)) | (refine a_if rfl rfl br_gt (fun _ => ?_) (fun _ => ?_)) | (refine a_if rfl rfl br_le (fun _ => ?_) (fun _ => ?_))) | (refine a_at isIc rfl ?_; first | (refine a_icF rfl rfl br_ne (fun h => h (by assumption)) ?_) | (refine a_icT rfl rfl br_eq (by assumption) ?_) | (refine a_icF rfl rfl br_eq (by assumption) ?_) | (refine a_icT rfl rfl br_ne (by assumption) ?_) | (refine a_icF rfl rfl br_ne (by assumption) ?_) | (refine a_icT rfl rfl br_lt (by assumption) ?_) | (refine a_icF rfl rfl br_lt (by assumption) ?_) | (refine a_icT rfl rfl br_ge (by assumption) ?_) | (refine a_icF rfl rfl br_ge (by assumption) ?_) | (refine a_icT rfl rfl br_gt (by assumption) ?_) | (refine a_icF rfl rfl br_gt (by assumption) ?_) | (refine a_icT rfl rfl br_le (by assumption) ?_) | (refine a_icF rfl rfl br_le (by assumption) ?_) | (refine a_ic rfl rfl br_eq (fun _ => ?_) (fun _ => ?_)) | (refine a_ic rfl rfl br_ne (fun _ => ?_) (fun _ => ?_)) | (refine a_ic rfl rfl br_lt (fun _ => ?_) (fun _ => ?_)) | (refine a_ic rfl rfl br_ge (fun _ => ?_) (fun _ => ?_)) | (refine a_ic rfl rfl br_gt (fun _ => ?_) (fun _ => ?_)) | (refine a_ic rfl rfl br_le (fun _ => ?_) (fun _ => ?_))) | (refine a_at isRt rfl ?_; first | refine a_iret rfl rfl rfl ?_ | refine a_zret rfl rfl ?_ ?_ | refine a_lret rfl rfl ?_ | refine a_ret rfl rfl ?_))
  · have g3 : (3 : Int32) ≤ M.1 65 58 := by rw [hr.1, show min fs.length 3 = 3 by omega]; decide
    have fin := hq M ⟨by rw [hr.1, List.length_append]; congr 1; simp; omega, fun j t hj ht k hk => by
      rw [List.getElem?_append_left (by omega)] at ht
      exact hr.2 j t hj ht k hk⟩ (rFr_rfl M)
    repeat' (first | refine x_kcg rfl ?_ | refine x_incg rfl rfl ?_ | refine x_opp rfl rfl ?_ | refine x_go rfl ?_ | (refine a_at isGf rfl ?_; first | refine m_getg hm rfl rfl rfl ?_) | (refine a_at isPf rfl ?_; first | refine a_putI hm rfl rfl rfl ?_ | refine a_putL hm rfl rfl rfl ?_) | (refine a_at isAr rfl ?_; first | refine a_iald hm rfl rfl ?_ ?_ | refine a_bald hm rfl rfl ?_ ?_ | refine a_lald hm rfl rfl ?_ ?_ | refine a_iast hm rfl rfl ?_ ?_ | refine a_last hm rfl rfl ?_ ?_ | refine a_bast hm rfl rfl ?_ ?_ ?_) | (refine a_at isIf rfl ?_; first | (refine a_ifT rfl rfl br_eqz (by assumption) ?_) | (refine a_ifF rfl rfl br_eqz (by assumption) ?_) | (refine a_ifT rfl rfl br_nez (by assumption) ?_) | (refine a_ifF rfl rfl br_nez (by assumption) ?_) | (refine a_ifT rfl rfl br_eqz (nt_f (by assumption)) ?_) | (refine a_ifF rfl rfl br_eqz (tnf (by assumption)) ?_) | (refine a_ifF rfl rfl br_nez (fnt (by assumption)) ?_) | (refine a_if rfl rfl br_eqz (fun _ => ?_) (fun _ => ?_)) | (refine a_if rfl rfl br_nez (fun _ => ?_) (fun _ => ?_)) | (refine a_ifF rfl rfl br_ne (fun h => h (by assumption)) ?_) | (refine a_ifT rfl rfl br_eq (by assumption) ?_) | (refine a_ifF rfl rfl br_eq (by assumption) ?_) | (refine a_ifT rfl rfl br_ne (by assumption) ?_) | (refine a_ifF rfl rfl br_ne (by assumption) ?_) | (refine a_ifT rfl rfl br_lt (by assumption) ?_) | (refine a_ifF rfl rfl br_lt (by assumption) ?_) | (refine a_ifT rfl rfl br_ge (by assumption) ?_) | (refine a_ifF rfl rfl br_ge (by assumption) ?_) | (refine a_ifT rfl rfl br_gt (by assumption) ?_) | (refine a_ifF rfl rfl br_gt (by assumption) ?_) | (refine a_ifT rfl rfl br_le (by assumption) ?_) | (refine a_ifF rfl rfl br_le (by assumption) ?_) | (refine a_if rfl rfl br_eq (fun _ => ?_) (fun _ => ?_)) | (refine a_if rfl rfl br_ne (fun _ => ?_) (fun _ => ?_)) | (refine a_if rfl rfl br_lt (fun _ => ?_) (fun _ => ?_)) | (refine a_if rfl rfl br_ge (fun _ => ?_) (fun _ => ?_)) | (refine a_if rfl rfl br_gt (fun _ => ?_) (fun _ => ?_)) | (refine a_if rfl rfl br_le (fun _ => ?_) (fun _ => ?_))) | (refine a_at isIc rfl ?_; first | (refine a_icF rfl rfl br_ne (fun h => h (by assumption)) ?_) | (refine a_icT rfl rfl br_eq (by assumption) ?_) | (refine a_icF rfl rfl br_eq (by assumption) ?_) | (refine a_icT rfl rfl br_ne (by assumption) ?_) | (refine a_icF rfl rfl br_ne (by assumption) ?_) | (refine a_icT rfl rfl br_lt (by assumption) ?_) | (refine a_icF rfl rfl br_lt (by assumption) ?_) | (refine a_icT rfl rfl br_ge (by assumption) ?_) | (refine a_icF rfl rfl br_ge (by assumption) ?_) | (refine a_icT rfl rfl br_gt (by assumption) ?_) | (refine a_icF rfl rfl br_gt (by assumption) ?_) | (refine a_icT rfl rfl br_le (by assumption) ?_) | (refine a_icF rfl rfl br_le (by assumption) ?_) | (refine a_ic rfl rfl br_eq (fun _ => ?_) (fun _ => ?_)) | (refine a_ic rfl rfl br_ne (fun _ => ?_) (fun _ => ?_)) | (refine a_ic rfl rfl br_lt (fun _ => ?_) (fun _ => ?_)) | (refine a_ic rfl rfl br_ge (fun _ => ?_) (fun _ => ?_)) | (refine a_ic rfl rfl br_gt (fun _ => ?_) (fun _ => ?_)) | (refine a_ic rfl rfl br_le (fun _ => ?_) (fun _ => ?_))) | (refine a_at isRt rfl ?_; first | refine a_iret rfl rfl rfl ?_ | refine a_zret rfl rfl ?_ ?_ | refine a_lret rfl rfl ?_ | refine a_ret rfl rfl ?_))
    exact fin
end MU
