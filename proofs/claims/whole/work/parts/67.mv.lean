/-! the searching of the reference: the loop -/
section MV
variable {L : Nat} {xs : Nat → Int32} {d : Nat} {dy : List sh_T} {Q : Option Value → sm_W → Prop} {q : Nat} {D : sD}
theorem mS_step {M : mm_T} {S : sS} (hlt : S.1 < D.1.length) (h42 : D.1.length ≤ 42) (h : mS M q D S) : mS (m_setI M 103 (48 * q + S.1) (nI (S.2.1 S.1 + 1))) q D (S.1, updN S.2.1 S.1 (S.2.1 S.1 + 1), S.2.2) ∧ gFr M (m_setI M 103 (48 * q + S.1) (nI (S.2.1 S.1 + 1))) q D := by
  obtain ⟨a1, a2, a3, a4, a5⟩ := h
  refine ⟨⟨?_, fun k hk1 hk2 => ?_, a3, fun k hk => ?_, fun s hs => ?_⟩, rfl, fun a y1 y2 y3 y4 => mI_ne _ _ _ y2, fun _ _ => rfl, fun j _ => ?_, fun j hj => ⟨?_, ?_, rfl⟩, fun j _ => ?_⟩
  · rw [mI_ne _ _ _ (by decide)]
    exact a1
  · rw [mI_at]
    show _ = nI (updN S.2.1 S.1 (S.2.1 S.1 + 1) k)
    unfold updN
    by_cases e : k = S.1
    · rw [if_pos ⟨rfl, by omega⟩, if_pos e]
    · rw [if_neg (fun h => e (by have := h.2; omega)), if_neg e]
      exact a2 k hk1 hk2
  · rw [mI_ne _ _ _ (by decide)]
    exact a4 k hk
  · rw [mI_ne _ _ _ (by decide)]
    exact a5 s hs
  · rw [mI_ne _ _ _ (by decide)]
  · rw [mI_at, if_neg (fun h => by have := h.2; omega)]
  · rw [mI_ne _ _ _ (by decide)]
  · rw [mI_ne _ _ _ (by decide)]
abbrev lvG (q : Nat) (most : Int32) (lim p fl : Nat) (a : Int32) : sm_L := [(0, .ref 65), (1, .int (nI q)), (2, .int most), (3, .int (nI lim)), (4, .int (nI p)), (5, .int (nI fl)), (6, .int a)]
set_option maxRecDepth 4000 in
theorem l_goN {lim fl : Nat} {most : Int32} (hq1 : q ≤ 1) (hd : dOK D) (hl : lim ≤ 5000) : ∀ k S p M r, sNx D lim k S p = some r → p ≤ lim → sI D S → mD M q D → mS M q D S →
    (r.1 = 1 → ∀ M', sI D r.2.1 → mS M' q D r.2.1 → r.2.1.1 = D.1.length → gFr M M' q D → r.2.2 ≤ lim → sm_X L xs (d + 3) 200 1 (sm_code 200 1) (lvG q most lim r.2.2 fl 2) [] (wm (sh0 ++ dy) M') Q) →
    (r.1 = 0 → ∀ M', gFr M M' q D → r.2.2 ≤ lim → sm_X L xs (d + 3) 200 18 (sm_code 200 18) (lvG q most lim r.2.2 fl 0) [] (wm (sh0 ++ dy) M') Q) →
    (r.1 = 2 → ∀ M', sI D r.2.1 → mS M' q D r.2.1 → r.2.1.1 < D.1.length → gFr M M' q D → r.2.2 ≤ lim → sm_X L xs (d + 3) 200 18 (sm_code 200 18) (lvG q most lim r.2.2 fl (-4)) [] (wm (sh0 ++ dy) M') Q) →
    sm_X L xs (d + 3) 200 1 (sm_code 200 1) (lvG q most lim p fl 2) [] (wm (sh0 ++ dy) M) Q := by
  intro k
  induction k with
  | zero => intro S p M r h; cases h
  | succ k ih =>
    intro S p M r h hp hI hD hS q1 q0 q2
    unfold sNx at h
    by_cases g1 : S.1 = D.1.length
    · rw [if_pos g1] at h
      cases h
      exact q1 rfl M hI hS g1 (gFr_rfl M q D) hp
    · rw [if_neg g1] at h
      have hm := s_65 dy
      have h42 := hd.1
      have hq2 : q < 2 := by omega
      have hI1 := hI.1
      have hlt : S.1 < D.1.length := by omega
      obtain ⟨a1, a2, a3, a4, a5⟩ := id hS
      have hx := hd.2.2.1 S.1 hlt
      have e96 := hD.1
      have e102 := hD.2.2.2.2.2 S.1 hlt
      have e101 := hD.2.2.2.1 _ hx
      have e103 := a2 S.1 (Nat.le_refl _) hlt
      have hc40 := hd.2.2.2.1 _ hx
      have hnx := hI.2.2 S.1 (Nat.le_refl _) hlt
      have hscl : (sC D S.1).length = (D.2.1 (D.2.2.1 S.1)).length := rfl
      have x1 := g48 q S.1
      have x2 := g48 q (D.2.2.1 S.1)
      have ne1 : ¬ nI S.1 = nI D.1.length := fun e => g1 ((nI_eq (by omega) (by omega)).mp e)
      have T8 : sm_X L xs (d + 3) 200 8 (sm_code 200 8) [(0, .ref 65), (1, .int (nI q)), (2, .int most), (3, .int (nI lim)), (4, .int (nI p)), (5, .int (nI fl)), (6, .int 2), (7, .int (nI D.1.length)), (8, .int (nI (48 * q + S.1)))] [] (wm (sh0 ++ dy) M) Q := by
        repeat (first | refine x_kcg rfl ?_ | refine x_opp rfl rfl ?_ | refine x_go rfl ?_ | refine m_getg hm rfl rfl rfl ?_)
        refine m_iald (s_103 dy) (vp_in_nI (by omega) (by decide)) ?_
        rw [nI_clamp (by omega), e103]
        repeat (first | refine x_kcg rfl ?_ | refine x_opp rfl rfl ?_ | refine x_go rfl ?_ | refine m_getg hm rfl rfl rfl ?_)
        refine m_iald (s_102 dy) (vp_in_nI (by omega) (by decide)) ?_
        rw [nI_clamp (by omega), e102]
        repeat (first | refine x_kcg rfl ?_ | refine x_opp rfl rfl ?_ | refine x_go rfl ?_)
        rw [x2]
        refine m_iald (s_101 dy) (vp_in_nI (by omega) (by decide)) ?_
        rw [nI_clamp (by omega), e101]
        by_cases g2 : (sC D S.1).length ≤ S.2.1 S.1
        · rw [if_pos g2] at h
          have eq1 : nI (S.2.1 S.1) = nI (D.2.1 (D.2.2.1 S.1)).length := by congr 1; omega
          refine x_icm br_ne (fun h => absurd eq1 h) (fun _ => ?_)
          by_cases g3 : S.1 = 0
          · rw [if_pos g3] at h
            cases h
            have fin := q0 rfl M (gFr_rfl M q D) hp
            have z0 : M.1 97 q = 0 := by rw [a1, g3]; rfl
            have n02 : ¬ (0 : Int32) = 2 := by decide
            repeat' (first | (refine a_stop 18 rfl ?_; (refine x_lvs [(0, .ref 65), (1, .int (nI q)), (2, .int most), (3, .int (nI lim)), (4, .int (nI p)), (5, .int (nI fl)), (6, .int 0)] rfl rfl rfl ⟨rfl, rfl, rfl, rfl, rfl, rfl, rfl, trivial⟩ ?_; exact fin)) | refine x_kcg rfl ?_ | refine x_incg rfl rfl ?_ | refine x_opp rfl rfl ?_ | refine x_go rfl ?_ | (refine a_at isGf rfl ?_; first | refine m_getg hm rfl rfl rfl ?_) | (refine a_at isPf rfl ?_; first | refine a_putI hm rfl rfl rfl ?_ | refine a_putL hm rfl rfl rfl ?_) | (refine a_at isAr rfl ?_; first | refine a_ialdN (s_97 dy) (k := q) rfl rfl rfl (by omega) (by decide) ?_ | refine a_baldN (s_97 dy) (k := q) rfl rfl rfl (by omega) (by decide) ?_ | refine a_laldN (s_97 dy) (k := q) rfl rfl rfl (by omega) (by decide) ?_ | refine a_iastN (s_97 dy) (k := q) rfl rfl rfl (by omega) (by decide) ?_ | refine a_lastN (s_97 dy) (k := q) rfl rfl rfl (by omega) (by decide) ?_ | refine a_bastN (s_97 dy) (k := q) rfl rfl rfl (by omega) (by decide) ?_ ?_ | refine a_iald hm rfl rfl ?_ ?_ | refine a_bald hm rfl rfl ?_ ?_ | refine a_lald hm rfl rfl ?_ ?_ | refine a_iast hm rfl rfl ?_ ?_ | refine a_last hm rfl rfl ?_ ?_ | refine a_bast hm rfl rfl ?_ ?_ ?_) | (refine a_at isIf rfl ?_; first | (refine a_ifT rfl rfl br_eqz (by assumption) ?_) | (refine a_ifF rfl rfl br_eqz (by assumption) ?_) | (refine a_ifT rfl rfl br_nez (by assumption) ?_) | (refine a_ifF rfl rfl br_nez (by assumption) ?_) | (refine a_ifT rfl rfl br_eqz (nt_f (by assumption)) ?_) | (refine a_ifF rfl rfl br_eqz (tnf (by assumption)) ?_) | (refine a_ifF rfl rfl br_nez (fnt (by assumption)) ?_) | (refine a_if rfl rfl br_eqz (fun _ => ?_) (fun _ => ?_)) | (refine a_if rfl rfl br_nez (fun _ => ?_) (fun _ => ?_)) | (refine a_ifF rfl rfl br_ne (fun h => h (by assumption)) ?_) | (refine a_ifT rfl rfl br_eq (by assumption) ?_) | (refine a_ifF rfl rfl br_eq (by assumption) ?_) | (refine a_ifT rfl rfl br_ne (by assumption) ?_) | (refine a_ifF rfl rfl br_ne (by assumption) ?_) | (refine a_ifT rfl rfl br_lt (by assumption) ?_) | (refine a_ifF rfl rfl br_lt (by assumption) ?_) | (refine a_ifT rfl rfl br_ge (by assumption) ?_) | (refine a_ifF rfl rfl br_ge (by assumption) ?_) | (refine a_ifT rfl rfl br_gt (by assumption) ?_) | (refine a_ifF rfl rfl br_gt (by assumption) ?_) | (refine a_ifT rfl rfl br_le (by assumption) ?_) | (refine a_ifF rfl rfl br_le (by assumption) ?_) | (refine a_if rfl rfl br_eq (fun _ => ?_) (fun _ => ?_)) | (refine a_if rfl rfl br_ne (fun _ => ?_) (fun _ => ?_)) | (refine a_if rfl rfl br_lt (fun _ => ?_) (fun _ => ?_)) | (refine a_if rfl rfl br_ge (fun _ => ?_) (fun _ => ?_)) | (refine a_if rfl rfl br_gt (fun _ => ?_) (fun _ => ?_)) | (refine a_if rfl rfl br_le (fun _ => ?_) (fun _ => ?_))) | (refine a_at isIc rfl ?_; first | (refine a_icF rfl rfl br_ne (fun h => h (by assumption)) ?_) | (refine a_icT rfl rfl br_eq (by assumption) ?_) | (refine a_icF rfl rfl br_eq (by assumption) ?_) | (refine a_icT rfl rfl br_ne (by assumption) ?_) | (refine a_icF rfl rfl br_ne (by assumption) ?_) | (refine a_icT rfl rfl br_lt (by assumption) ?_) | (refine a_icF rfl rfl br_lt (by assumption) ?_) | (refine a_icT rfl rfl br_ge (by assumption) ?_) | (refine a_icF rfl rfl br_ge (by assumption) ?_) | (refine a_icT rfl rfl br_gt (by assumption) ?_) | (refine a_icF rfl rfl br_gt (by assumption) ?_) | (refine a_icT rfl rfl br_le (by assumption) ?_) | (refine a_icF rfl rfl br_le (by assumption) ?_) | (refine a_ic rfl rfl br_eq (fun _ => ?_) (fun _ => ?_)) | (refine a_ic rfl rfl br_ne (fun _ => ?_) (fun _ => ?_)) | (refine a_ic rfl rfl br_lt (fun _ => ?_) (fun _ => ?_)) | (refine a_ic rfl rfl br_ge (fun _ => ?_) (fun _ => ?_)) | (refine a_ic rfl rfl br_gt (fun _ => ?_) (fun _ => ?_)) | (refine a_ic rfl rfl br_le (fun _ => ?_) (fun _ => ?_))) | (refine a_at isRt rfl ?_; first | refine a_iret rfl rfl rfl ?_ | refine a_zret rfl rfl ?_ ?_ | refine a_lret rfl rfl ?_ | refine a_ret rfl rfl ?_))
          · rw [if_neg g3] at h
            have z0 : ¬ nI S.1 = 0 := fun e => g3 ((nI_eq (b := 0) (by omega) (by decide)).mp e)
            repeat (first | refine x_kcg rfl ?_ | refine x_opp rfl rfl ?_ | refine x_go rfl ?_ | refine m_getg hm rfl rfl rfl ?_)
            refine m_iald (s_97 dy) (vp_in_nI hq2 (by decide)) ?_
            rw [nI_clamp (by omega), a1]
            refine x_ifc br_ne (fun _ => ?_) (fun h => absurd z0 h)
            repeat (first | refine x_kcg rfl ?_ | refine x_opp rfl rfl ?_ | refine x_go rfl ?_)
            refine m_callV hm rfl rfl rfl (k_takeBack (k := S.1 - 1) hq1 hd hD hI hS (by omega) (fun M' t1 t2 => ?_))
            refine x_goto ?_
            refine x_goto ?_
            refine x_lvs [(0, .ref 65), (1, .int (nI q)), (2, .int most), (3, .int (nI lim)), (4, .int (nI p)), (5, .int (nI fl)), (6, .int 2)] rfl rfl rfl ⟨rfl, rfl, rfl, rfl, rfl, rfl, rfl, trivial⟩ ?_
            exact ih (sBack S) p M' r h hp (sI_back hI) (mD_fr t2 hD) t1 (fun e M2 y1 y2 y3 y4 y5 => q1 e M2 y1 y2 y3 (gFr_tr t2 y4) y5) (fun e M2 y1 y2 => q0 e M2 (gFr_tr t2 y1) y2) (fun e M2 y1 y2 y3 y4 y5 => q2 e M2 y1 y2 y3 (gFr_tr t2 y4) y5)
        · rw [if_neg g2] at h
          have ne2 : ¬ nI (S.2.1 S.1) = nI (D.2.1 (D.2.2.1 S.1)).length := fun e => g2 (by have := (nI_eq (by omega) (by omega)).mp e; omega)
          refine x_icm br_ne (fun _ => ?_) (fun h => absurd ne2 h)
          repeat (first | refine x_kcg rfl ?_ | refine x_opp rfl rfl ?_ | refine x_go rfl ?_)
          by_cases g3 : p = lim
          · rw [if_pos g3] at h
            cases h
            have fin := q2 rfl M hI hS hlt (gFr_rfl M q D) hp
            have ep : nI p = nI lim := by rw [g3]
            have n42 : ¬ (-4 : Int32) = 2 := by decide
            refine x_icm br_ne (fun h => absurd ep h) (fun _ => ?_)
            repeat' (first | (refine a_stop 18 rfl ?_; (refine x_lvs [(0, .ref 65), (1, .int (nI q)), (2, .int most), (3, .int (nI lim)), (4, .int (nI p)), (5, .int (nI fl)), (6, .int (-4))] rfl rfl rfl ⟨rfl, rfl, rfl, rfl, rfl, rfl, rfl, trivial⟩ ?_; exact fin)) | refine x_kcg rfl ?_ | refine x_incg rfl rfl ?_ | refine x_opp rfl rfl ?_ | refine x_go rfl ?_ | (refine a_at isGf rfl ?_; first | refine m_getg hm rfl rfl rfl ?_) | (refine a_at isPf rfl ?_; first | refine a_putI hm rfl rfl rfl ?_ | refine a_putL hm rfl rfl rfl ?_) | (refine a_at isAr rfl ?_; first | refine a_iald hm rfl rfl ?_ ?_ | refine a_bald hm rfl rfl ?_ ?_ | refine a_lald hm rfl rfl ?_ ?_ | refine a_iast hm rfl rfl ?_ ?_ | refine a_last hm rfl rfl ?_ ?_ | refine a_bast hm rfl rfl ?_ ?_ ?_) | (refine a_at isIf rfl ?_; first | (refine a_ifT rfl rfl br_eqz (by assumption) ?_) | (refine a_ifF rfl rfl br_eqz (by assumption) ?_) | (refine a_ifT rfl rfl br_nez (by assumption) ?_) | (refine a_ifF rfl rfl br_nez (by assumption) ?_) | (refine a_ifT rfl rfl br_eqz (nt_f (by assumption)) ?_) | (refine a_ifF rfl rfl br_eqz (tnf (by assumption)) ?_) | (refine a_ifF rfl rfl br_nez (fnt (by assumption)) ?_) | (refine a_if rfl rfl br_eqz (fun _ => ?_) (fun _ => ?_)) | (refine a_if rfl rfl br_nez (fun _ => ?_) (fun _ => ?_)) | (refine a_ifF rfl rfl br_ne (fun h => h (by assumption)) ?_) | (refine a_ifT rfl rfl br_eq (by assumption) ?_) | (refine a_ifF rfl rfl br_eq (by assumption) ?_) | (refine a_ifT rfl rfl br_ne (by assumption) ?_) | (refine a_ifF rfl rfl br_ne (by assumption) ?_) | (refine a_ifT rfl rfl br_lt (by assumption) ?_) | (refine a_ifF rfl rfl br_lt (by assumption) ?_) | (refine a_ifT rfl rfl br_ge (by assumption) ?_) | (refine a_ifF rfl rfl br_ge (by assumption) ?_) | (refine a_ifT rfl rfl br_gt (by assumption) ?_) | (refine a_ifF rfl rfl br_gt (by assumption) ?_) | (refine a_ifT rfl rfl br_le (by assumption) ?_) | (refine a_ifF rfl rfl br_le (by assumption) ?_) | (refine a_if rfl rfl br_eq (fun _ => ?_) (fun _ => ?_)) | (refine a_if rfl rfl br_ne (fun _ => ?_) (fun _ => ?_)) | (refine a_if rfl rfl br_lt (fun _ => ?_) (fun _ => ?_)) | (refine a_if rfl rfl br_ge (fun _ => ?_) (fun _ => ?_)) | (refine a_if rfl rfl br_gt (fun _ => ?_) (fun _ => ?_)) | (refine a_if rfl rfl br_le (fun _ => ?_) (fun _ => ?_))) | (refine a_at isIc rfl ?_; first | (refine a_icF rfl rfl br_ne (fun h => h (by assumption)) ?_) | (refine a_icT rfl rfl br_eq (by assumption) ?_) | (refine a_icF rfl rfl br_eq (by assumption) ?_) | (refine a_icT rfl rfl br_ne (by assumption) ?_) | (refine a_icF rfl rfl br_ne (by assumption) ?_) | (refine a_icT rfl rfl br_lt (by assumption) ?_) | (refine a_icF rfl rfl br_lt (by assumption) ?_) | (refine a_icT rfl rfl br_ge (by assumption) ?_) | (refine a_icF rfl rfl br_ge (by assumption) ?_) | (refine a_icT rfl rfl br_gt (by assumption) ?_) | (refine a_icF rfl rfl br_gt (by assumption) ?_) | (refine a_icT rfl rfl br_le (by assumption) ?_) | (refine a_icF rfl rfl br_le (by assumption) ?_) | (refine a_ic rfl rfl br_eq (fun _ => ?_) (fun _ => ?_)) | (refine a_ic rfl rfl br_ne (fun _ => ?_) (fun _ => ?_)) | (refine a_ic rfl rfl br_lt (fun _ => ?_) (fun _ => ?_)) | (refine a_ic rfl rfl br_ge (fun _ => ?_) (fun _ => ?_)) | (refine a_ic rfl rfl br_gt (fun _ => ?_) (fun _ => ?_)) | (refine a_ic rfl rfl br_le (fun _ => ?_) (fun _ => ?_))) | (refine a_at isRt rfl ?_; first | refine a_iret rfl rfl rfl ?_ | refine a_zret rfl rfl ?_ ?_ | refine a_lret rfl rfl ?_ | refine a_ret rfl rfl ?_))
          · rw [if_neg g3] at h
            have np : ¬ nI p = nI lim := fun e => g3 ((nI_eq (by omega) (by omega)).mp e)
            have hnx2 : S.2.1 S.1 < (D.2.1 (D.2.2.1 S.1)).length := by omega
            have e99 : M.2.1 99 (40 * (48 * q + D.2.2.1 S.1) + S.2.1 S.1) = sW D S := hD.2.2.2.2.1 _ _ hx hnx2
            obtain ⟨t1, t2⟩ := mS_step hlt h42 hS
            have D2 := mD_fr t2 hD
            have x3 := g40 (48 * q + D.2.2.1 S.1) (S.2.1 S.1)
            have ho : eOK (sE D S.1) := dOK_e hd hlt
            refine x_icm br_ne (fun _ => ?_) (fun h => absurd np h)
            repeat (first | refine x_kcg rfl ?_ | refine x_incg rfl rfl ?_ | refine x_opp rfl rfl ?_)
            refine m_get hm rfl ?_
            repeat (first | refine x_kcg rfl ?_ | refine x_opp rfl rfl ?_ | refine x_go rfl ?_)
            refine m_iald (s_102 dy) (vp_in_nI (by omega) (by decide)) ?_
            rw [nI_clamp (by omega), e102]
            repeat (first | refine x_kcg rfl ?_ | refine x_opp rfl rfl ?_ | refine x_go rfl ?_)
            rw [x2]
            repeat (first | refine x_kcg rfl ?_ | refine x_opp rfl rfl ?_ | refine x_go rfl ?_ | refine m_getg hm rfl rfl rfl ?_)
            refine m_iald (s_103 dy) (vp_in_nI (by omega) (by decide)) ?_
            rw [nI_clamp (by omega), e103]
            repeat (first | refine x_kcg rfl ?_ | refine x_opp rfl rfl ?_ | refine x_go rfl ?_)
            rw [x3]
            refine m_lald (s_99 dy) (vp_in_nI (by omega) (by decide)) ?_
            rw [nI_clamp (by omega), e99]
            repeat (first | refine x_kcg rfl ?_ | refine x_opp rfl rfl ?_ | refine x_go rfl ?_ | refine m_getg hm rfl rfl rfl ?_)
            refine m_iald (s_103 dy) (vp_in_nI (by omega) (by decide)) ?_
            rw [nI_clamp (by omega), e103]
            repeat (first | refine x_kcg rfl ?_ | refine x_opp rfl rfl ?_ | refine x_go rfl ?_)
            rw [nI_1]
            refine m_iast (s_103 dy) (vp_in_nI (by omega) (by decide)) ?_
            rw [nI_clamp (by omega)]
            generalize hM2 : m_setI M 103 (48 * q + S.1) (nI (S.2.1 S.1 + 1)) = M2 at t1 t2 D2 ⊢
            have back : ∀ M3, mS M3 q D (sLook D S) → gFr M M3 q D → ∀ (v9 : Int32) (w10 : Int64), sm_X L xs (d + 3) 200 17 (sm_code 200 17) [(0, .ref 65), (1, .int (nI q)), (2, .int most), (3, .int (nI lim)), (4, .int (nI (p + 1))), (5, .int (nI fl)), (6, .int 2)] [] (wm (sh0 ++ dy) M3) Q := by
              intro M3 u1 u2 _ _
              refine x_goto ?_
              exact ih (sLook D S) (p + 1) M3 r h (by omega) (sI_look hI hlt (by omega)) (mD_fr u2 hD) u1 (fun e M2 y1 y2 y3 y4 y5 => q1 e M2 y1 y2 y3 (gFr_tr u2 y4) y5) (fun e M2 y1 y2 => q0 e M2 (gFr_tr u2 y1) y2) (fun e M2 y1 y2 y3 y4 y5 => q2 e M2 y1 y2 y3 (gFr_tr u2 y4) y5)
            repeat (first | refine x_kcg rfl ?_ | refine x_opp rfl rfl ?_ | refine x_go rfl ?_)
            refine m_callV hm rfl rfl rfl (k_agrees (v := sV (sE D S.1) (sB D S.2.2 S.1)) hq1 hd D2 hx (fun i hi => ⟨t1.2.2.2.2 _ (sCov_e hd hlt hi), sB_lt hd _ _ _⟩) ?_)
            rw [show agrB (sV (sE D S.1) (sB D S.2.2 S.1)) (eAt D.1 (D.2.2.1 S.1)).2.2.1 (sW D S) = agrB (sV (sE D S.1) (sB D S.2.2 S.1)) (sE D S.1).2.2.1 (sW D S) from rfl]
            by_cases g4 : agrB (sV (sE D S.1) (sB D S.2.2 S.1)) (sE D S.1).2.2.1 (sW D S) = true
            · rw [g4]
              refine x_ifc br_eqz (fun h => by cases h) (fun _ => ?_)
              repeat (first | refine x_kcg rfl ?_ | refine x_opp rfl rfl ?_ | refine x_go rfl ?_)
              refine m_callV hm rfl rfl rfl (k_isTaken (tk := S.2.2) hq1 t1.1 (show S.1 ≤ 42 by omega) t1.2.2.1 ?_)
              by_cases g5 : anyW S.2.2 (sW D S) S.1 = true
              · have hno : sOk D S = false := by unfold sOk; rw [g4, g5]; rfl
                have eL : sLook D S = (S.1, updN S.2.1 S.1 (S.2.1 S.1 + 1), S.2.2) := by unfold sLook; rw [if_neg (by rw [hno]; decide)]
                have fin := back M2 (by rw [eL]; exact t1) t2 0 0
                rw [show anyW S.2.2 (sW D S) (S.1, updN S.2.1 S.1 (S.2.1 S.1 + 1), S.2.2).1 = anyW S.2.2 (sW D S) S.1 from rfl, g5]
                refine x_ifc br_nez (fun _ => ?_) (fun h => absurd rfl h)
                refine x_lvs [(0, .ref 65), (1, .int (nI q)), (2, .int most), (3, .int (nI lim)), (4, .int (nI (p + 1))), (5, .int (nI fl)), (6, .int 2)] rfl rfl rfl ⟨rfl, rfl, rfl, rfl, rfl, rfl, rfl, trivial⟩ ?_
                exact fin
              · have hyes : sOk D S = true := by unfold sOk; rw [g4, nt_f g5]; rfl
                have eL : sLook D S = (S.1 + 1, updN (updN S.2.1 S.1 (S.2.1 S.1 + 1)) (S.1 + 1) 0, updW S.2.2 S.1 (sW D S)) := by unfold sLook; rw [if_pos hyes]
                rw [show anyW S.2.2 (sW D S) (S.1, updN S.2.1 S.1 (S.2.1 S.1 + 1), S.2.2).1 = anyW S.2.2 (sW D S) S.1 from rfl, nt_f g5]
                refine x_ifc br_nez (fun h => by cases h) (fun _ => ?_)
                repeat (first | refine x_kcg rfl ?_ | refine x_opp rfl rfl ?_ | refine x_go rfl ?_)
                refine m_callV hm rfl rfl rfl (k_setWord (S := S) hq1 hd D2 t1 hlt ((agrB_iff _ _ _).mp g4) (fun M3 u1 u2 => ?_))
                have fin := back M3 (by rw [eL]; exact u1) (gFr_tr t2 u2) 0 0
                refine x_fall ?_
                refine x_lvs [(0, .ref 65), (1, .int (nI q)), (2, .int most), (3, .int (nI lim)), (4, .int (nI (p + 1))), (5, .int (nI fl)), (6, .int 2)] rfl rfl rfl ⟨rfl, rfl, rfl, rfl, rfl, rfl, rfl, trivial⟩ ?_
                exact fin
            · have hno : sOk D S = false := by unfold sOk; rw [nt_f g4]; rfl
              have eL : sLook D S = (S.1, updN S.2.1 S.1 (S.2.1 S.1 + 1), S.2.2) := by unfold sLook; rw [if_neg (by rw [hno]; decide)]
              have fin := back M2 (by rw [eL]; exact t1) t2 0 0
              rw [nt_f g4]
              refine x_ifc br_eqz (fun _ => ?_) (fun h => absurd rfl h)
              refine x_lvs [(0, .ref 65), (1, .int (nI q)), (2, .int most), (3, .int (nI lim)), (4, .int (nI (p + 1))), (5, .int (nI fl)), (6, .int 2)] rfl rfl rfl ⟨rfl, rfl, rfl, rfl, rfl, rfl, rfl, trivial⟩ ?_
              exact fin
      have z22 : (2 : Int32) = 2 := rfl
      repeat (first | refine x_kcg rfl ?_ | refine x_opp rfl rfl ?_ | refine x_go rfl ?_)
      refine x_icm br_ne (fun h => absurd rfl h) (fun _ => ?_)
      repeat (first | refine x_kcg rfl ?_ | refine x_opp rfl rfl ?_ | refine x_go rfl ?_ | refine m_getg hm rfl rfl rfl ?_)
      refine m_iald (s_96 dy) (vp_in_nI hq2 (by decide)) ?_
      rw [nI_clamp (by omega), e96]
      repeat (first | refine x_kcg rfl ?_ | refine x_opp rfl rfl ?_ | refine x_go rfl ?_ | refine m_getg hm rfl rfl rfl ?_)
      refine m_iald (s_97 dy) (vp_in_nI hq2 (by decide)) ?_
      rw [nI_clamp (by omega), a1]
      repeat (first | refine x_kcg rfl ?_ | refine x_opp rfl rfl ?_ | refine x_go rfl ?_)
      rw [x1]
      repeat (first | refine x_kcg rfl ?_ | refine x_opp rfl rfl ?_ | refine x_go rfl ?_ | refine m_getg hm rfl rfl rfl ?_)
      refine m_iald (s_97 dy) (vp_in_nI hq2 (by decide)) ?_
      rw [nI_clamp (by omega), a1]
      repeat (first | refine x_kcg rfl ?_ | refine x_opp rfl rfl ?_ | refine x_go rfl ?_)
      refine x_icm br_ne (fun _ => ?_) (fun h => absurd ne1 h)
      refine x_lvs [(0, .ref 65), (1, .int (nI q)), (2, .int most), (3, .int (nI lim)), (4, .int (nI p)), (5, .int (nI fl)), (6, .int 2), (7, .int (nI D.1.length)), (8, .int (nI (48 * q + S.1)))] rfl rfl rfl ⟨rfl, rfl, rfl, rfl, rfl, rfl, rfl, rfl, rfl, trivial⟩ ?_
      exact T8
end MV
