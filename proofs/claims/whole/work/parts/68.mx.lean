/-! the searching of the reference: a whole call -/
def aI (o : Nat) : Int32 := if o = 1 then 1 else if o = 2 then -4 else 0
def wFr (M M' : mm_T) (q : Nat) (D : sD) : Prop := (M'.2.2 = M.2.2 ∧ (∀ a, a ≠ 65 → a ≠ 97 → a ≠ 103 → a ≠ 105 → a ≠ 106 → M'.1 a = M.1 a) ∧ (∀ f, f ≠ 58 → M'.1 65 f = M.1 65 f) ∧ (∀ a, a ≠ 104 → a ≠ 109 → M'.2.1 a = M.2.1 a)) ∧ (∀ j, j ≠ q → M'.1 97 j = M.1 97 j) ∧ (∀ j, (j < 48 * q ∨ 48 * q + 48 ≤ j) → M'.1 103 j = M.1 103 j ∧ M'.1 105 j = M.1 105 j ∧ M'.2.1 104 j = M.2.1 104 j) ∧ (∀ j, (∀ s, sCov D s → j ≠ 49 * q + s) → M'.1 106 j = M.1 106 j) ∧ (q = 0 → M'.1 65 58 = M.1 65 58 ∧ M'.2.1 109 = M.2.1 109)
theorem wFr_rfl (M : mm_T) (q : Nat) (D : sD) : wFr M M q D := ⟨⟨rfl, fun _ _ _ _ _ _ => rfl, fun _ _ => rfl, fun _ _ _ => rfl⟩, fun _ _ => rfl, fun _ _ => ⟨rfl, rfl, rfl⟩, fun _ _ => rfl, fun _ => ⟨rfl, rfl⟩⟩
theorem wFr_tr {M M1 M2 : mm_T} {q : Nat} {D : sD} (h : wFr M M1 q D) (h2 : wFr M1 M2 q D) : wFr M M2 q D := by
  obtain ⟨⟨a1, a2, a3, a4⟩, a5, a6, a7, a8⟩ := h
  obtain ⟨⟨b1, b2, b3, b4⟩, b5, b6, b7, b8⟩ := h2
  refine ⟨⟨b1.trans a1, fun a x y z w v => (b2 a x y z w v).trans (a2 a x y z w v), fun f x => (b3 f x).trans (a3 f x), fun a x y => (b4 a x y).trans (a4 a x y)⟩, fun j x => (b5 j x).trans (a5 j x), fun j x => ?_, fun j x => (b7 j x).trans (a7 j x), fun x => ⟨(b8 x).1.trans (a8 x).1, (b8 x).2.trans (a8 x).2⟩⟩
  obtain ⟨c1, c2, c3⟩ := a6 j x
  obtain ⟨d1, d2, d3⟩ := b6 j x
  exact ⟨d1.trans c1, d2.trans c2, d3.trans c3⟩
theorem wFr_g {M M' : mm_T} {q : Nat} {D : sD} (h : gFr M M' q D) : wFr M M' q D := by
  obtain ⟨a1, a2, a3, a4, a5, a6⟩ := h
  exact ⟨⟨a1, fun a _ y z w v => a2 a y z w v, fun f _ => by rw [a2 65 (by decide) (by decide) (by decide) (by decide)], fun a x _ => a3 a x⟩, a4, a5, a6, fun _ => ⟨by rw [a2 65 (by decide) (by decide) (by decide) (by decide)], a3 109 (by decide)⟩⟩
theorem wFr_r {M M' : mm_T} {D : sD} (h : rFr M M') : wFr M M' 1 D := by
  obtain ⟨a1, a2, a3, a4⟩ := h
  refine ⟨⟨a1, fun a x _ _ _ _ => a2 a x, a3, fun a _ x => a4 a x⟩, fun j _ => by rw [a2 97 (by decide)], fun j _ => ⟨by rw [a2 103 (by decide)], by rw [a2 105 (by decide)], by rw [a4 104 (by decide)]⟩, fun j _ => by rw [a2 106 (by decide)], fun e => by cases e⟩
theorem mS_r {M M' : mm_T} {q : Nat} {D : sD} {S : sS} (h : rFr M M') (hs : mS M q D S) : mS M' q D S := by
  unfold mS
  rw [h.2.1 97 (by decide), h.2.1 103 (by decide), h.2.1 105 (by decide), h.2.1 106 (by decide), h.2.2.2 104 (by decide)]
  exact hs
theorem mD_r {M M' : mm_T} {q : Nat} {D : sD} (h : rFr M M') (hs : mD M q D) : mD M' q D := by
  unfold mD
  rw [h.2.1 96 (by decide), h.2.1 108 (by decide), h.2.1 107 (by decide), h.2.1 101 (by decide), h.2.1 102 (by decide), h.2.2.2 99 (by decide)]
  exact hs
theorem rK_g {M M' : mm_T} {q : Nat} {D : sD} {fs : List (Nat → Int64)} (h : gFr M M' q D) (hr : rK M D fs) : rK M' D fs := by
  unfold rK
  rw [h.2.1 65 (by decide) (by decide) (by decide) (by decide), h.2.2.1 109 (by decide)]
  exact hr
theorem sGo_1 {D : sD} {lim m p p' : Nat} {S S' : sS} (h : sNx D lim (2 * lim + 50) S p = some (1, S', p')) : sGo D lim (m + 1) S p = if m = 0 then (1, S', p', [S'.2.2]) else if D.1.length = 0 then (0, S', p', [S'.2.2]) else ((sGo D lim m (sBack S') p').1, (sGo D lim m (sBack S') p').2.1, (sGo D lim m (sBack S') p').2.2.1, S'.2.2 :: (sGo D lim m (sBack S') p').2.2.2) := by
  conv => lhs; unfold sGo
  rw [h]
  rfl
theorem sGo_0 {D : sD} {lim m p p' : Nat} {S S' : sS} (h : sNx D lim (2 * lim + 50) S p = some (0, S', p')) : sGo D lim (m + 1) S p = (0, S', p', []) := by
  conv => lhs; unfold sGo
  rw [h]
  rfl
theorem sGo_2 {D : sD} {lim m p p' : Nat} {S S' : sS} (h : sNx D lim (2 * lim + 50) S p = some (2, S', p')) : sGo D lim (m + 1) S p = (2, S', p', []) := by
  conv => lhs; unfold sGo
  rw [h]
  rfl
section MX
variable {L : Nat} {xs : Nat → Int32} {d : Nat} {dy : List sh_T} {Q : Option Value → sm_W → Prop} {q : Nat} {D : sD}
set_option maxRecDepth 4000 in
theorem l_goes {lim mo : Nat} (hq1 : q ≤ 1) (hd : dOK D) (hin : ∀ i j, i < D.1.length → j < D.1.length → D.2.2.1 i = D.2.2.1 j → i = j) (hl : lim ≤ 5000) (hmo : mo ≤ 1000) : ∀ m S p fl M fs, fl + (m + 1) = mo → p ≤ lim → sI D S → mD M q D → mS M q D S → (q = 1 → rK M D fs) →
    (∀ M', wFr M M' q D → (q = 1 → rK M' D (fs ++ (sGo D lim (m + 1) S p).2.2.2)) → ((sGo D lim (m + 1) S p).1 ≠ 0 → sI D (sGo D lim (m + 1) S p).2.1 ∧ mS M' q D (sGo D lim (m + 1) S p).2.1) → (sGo D lim (m + 1) S p).2.2.1 ≤ lim → sm_X L xs (d + 3) 200 18 (sm_code 200 18) (lvG q (nI mo) lim (sGo D lim (m + 1) S p).2.2.1 (fl + (sGo D lim (m + 1) S p).2.2.2.length) (aI (sGo D lim (m + 1) S p).1)) [] (wm (sh0 ++ dy) M') Q) →
    sm_X L xs (d + 3) 200 1 (sm_code 200 1) (lvG q (nI mo) lim p fl 2) [] (wm (sh0 ++ dy) M) Q := by
  intro m
  induction m using Nat.strongRecOn with
  | _ m ih =>
    intro S p fl M fs hfl hp hI hD hS hr hq
    have hm := s_65 dy
    have h42 := hd.1
    have hq2 : q < 2 := by omega
    obtain ⟨r, hr0⟩ := sNx_some D lim (2 * lim + 50) S p hp (by have := hI.1; omega)
    obtain ⟨o, S', p'⟩ := r
    refine l_goN hq1 hd hl (2 * lim + 50) S p M (o, S', p') hr0 hp hI hD hS ?_ ?_ ?_
    · intro e1 M' yI yS yn yf yl
      have e1 : o = 1 := e1
      have yI : sI D S' := yI
      have yS : mS M' q D S' := yS
      have yn : S'.1 = D.1.length := yn
      have yl : p' ≤ lim := yl
      subst e1
      rw [sGo_1 hr0] at hq
      have D1 := mD_fr yf hD
      have hrem : ∀ Q', (∀ M2, (q = 1 → rK M2 D (fs ++ [S'.2.2])) → wFr M M2 q D → mS M2 q D S' → mD M2 q D → Q' none (wm (sh0 ++ dy) M2)) → sm_E L xs (d + 3) 201 [.ref 65, .int (nI q)] (wm (sh0 ++ dy) M') Q' := by
        intro Q' hQ'
        by_cases e : q = 0
        · subst e
          exact e_up (by omega : d + 1 ≤ d + 3) (k_rem0 (hQ' M' (fun h => by cases h) (wFr_g yf) yS D1))
        · have e : q = 1 := by omega
          subst e
          refine e_up (by omega : d + 1 ≤ d + 3) (k_rem1 (fs := fs) (tk := S'.2.2) hd hin D1.1 (fun k hk => ?_) (fun k hk => ?_) (rK_g yf (hr rfl)) (fun M2 u1 u2 => ?_))
          · exact D1.2.2.2.2.2 k hk
          · exact yS.2.2.1 k (by omega)
          · exact hQ' M2 (fun _ => u1) (wFr_tr (wFr_g yf) (wFr_r u2)) (mS_r u2 yS) (mD_r u2 D1)
      have z22 : (2 : Int32) = 2 := rfl
      have e96 := D1.1
      have e97 := yS.1
      rw [yn] at e97
      have x1 := g48 q D.1.length
      show sm_X L xs (d + 3) 200 1 (sm_code 200 1) (lvG q (nI mo) lim p' fl 2) [] (wm (sh0 ++ dy) M') Q
      repeat (first | refine x_kcg rfl ?_ | refine x_opp rfl rfl ?_ | refine x_go rfl ?_)
      refine x_icm br_ne (fun h => absurd rfl h) (fun _ => ?_)
      repeat (first | refine x_kcg rfl ?_ | refine x_opp rfl rfl ?_ | refine x_go rfl ?_ | refine m_getg hm rfl rfl rfl ?_)
      refine m_iald (s_96 dy) (vp_in_nI hq2 (by decide)) ?_
      rw [nI_clamp (by omega), e96]
      repeat (first | refine x_kcg rfl ?_ | refine x_opp rfl rfl ?_ | refine x_go rfl ?_ | refine m_getg hm rfl rfl rfl ?_)
      refine m_iald (s_97 dy) (vp_in_nI hq2 (by decide)) ?_
      rw [nI_clamp (by omega), e97]
      repeat (first | refine x_kcg rfl ?_ | refine x_opp rfl rfl ?_ | refine x_go rfl ?_)
      rw [x1]
      repeat (first | refine x_kcg rfl ?_ | refine x_opp rfl rfl ?_ | refine x_go rfl ?_ | refine m_getg hm rfl rfl rfl ?_)
      refine m_iald (s_97 dy) (vp_in_nI hq2 (by decide)) ?_
      rw [nI_clamp (by omega), e97]
      repeat (first | refine x_kcg rfl ?_ | refine x_opp rfl rfl ?_ | refine x_go rfl ?_)
      refine x_icm br_ne (fun h => absurd rfl h) (fun _ => ?_)
      repeat (first | refine x_kcg rfl ?_ | refine x_incg rfl rfl ?_ | refine x_opp rfl rfl ?_)
      refine m_callV hm rfl rfl rfl (hrem _ (fun M2 u1 u2 u3 u4 => ?_))
      repeat (first | refine x_kcg rfl ?_ | refine x_opp rfl rfl ?_ | refine x_go rfl ?_)
      by_cases m0 : m = 0
      · subst m0
        rw [if_pos rfl] at hq
        have fin := hq M2 u2 u1 (fun _ => ⟨yI, u3⟩) yl
        have eqm : nI (fl + 1) = nI mo := by rw [← hfl]
        have n12 : ¬ (1 : Int32) = 2 := by decide
        refine x_icm br_ne (fun h => absurd eqm h) (fun _ => ?_)
        repeat' (first | (refine a_stop 18 rfl ?_; (refine x_lvs [(0, .ref 65), (1, .int (nI q)), (2, .int (nI mo)), (3, .int (nI lim)), (4, .int (nI p')), (5, .int (nI (fl + 1))), (6, .int 1)] rfl rfl rfl ⟨rfl, rfl, rfl, rfl, rfl, rfl, rfl, trivial⟩ ?_; exact fin)) | refine x_kcg rfl ?_ | refine x_incg rfl rfl ?_ | refine x_opp rfl rfl ?_ | refine x_go rfl ?_ | (refine a_at isGf rfl ?_; first | refine m_getg hm rfl rfl rfl ?_) | (refine a_at isPf rfl ?_; first | refine a_putI hm rfl rfl rfl ?_ | refine a_putL hm rfl rfl rfl ?_) | (refine a_at isAr rfl ?_; first | refine a_iald hm rfl rfl ?_ ?_ | refine a_bald hm rfl rfl ?_ ?_ | refine a_lald hm rfl rfl ?_ ?_ | refine a_iast hm rfl rfl ?_ ?_ | refine a_last hm rfl rfl ?_ ?_ | refine a_bast hm rfl rfl ?_ ?_ ?_) | (refine a_at isIf rfl ?_; first | (refine a_ifT rfl rfl br_eqz (by assumption) ?_) | (refine a_ifF rfl rfl br_eqz (by assumption) ?_) | (refine a_ifT rfl rfl br_nez (by assumption) ?_) | (refine a_ifF rfl rfl br_nez (by assumption) ?_) | (refine a_ifT rfl rfl br_eqz (nt_f (by assumption)) ?_) | (refine a_ifF rfl rfl br_eqz (tnf (by assumption)) ?_) | (refine a_ifF rfl rfl br_nez (fnt (by assumption)) ?_) | (refine a_if rfl rfl br_eqz (fun _ => ?_) (fun _ => ?_)) | (refine a_if rfl rfl br_nez (fun _ => ?_) (fun _ => ?_)) | (refine a_ifF rfl rfl br_ne (fun h => h (by assumption)) ?_) | (refine a_ifT rfl rfl br_eq (by assumption) ?_) | (refine a_ifF rfl rfl br_eq (by assumption) ?_) | (refine a_ifT rfl rfl br_ne (by assumption) ?_) | (refine a_ifF rfl rfl br_ne (by assumption) ?_) | (refine a_ifT rfl rfl br_lt (by assumption) ?_) | (refine a_ifF rfl rfl br_lt (by assumption) ?_) | (refine a_ifT rfl rfl br_ge (by assumption) ?_) | (refine a_ifF rfl rfl br_ge (by assumption) ?_) | (refine a_ifT rfl rfl br_gt (by assumption) ?_) | (refine a_ifF rfl rfl br_gt (by assumption) ?_) | (refine a_ifT rfl rfl br_le (by assumption) ?_) | (refine a_ifF rfl rfl br_le (by assumption) ?_) | (refine a_if rfl rfl br_eq (fun _ => ?_) (fun _ => ?_)) | (refine a_if rfl rfl br_ne (fun _ => ?_) (fun _ => ?_)) | (refine a_if rfl rfl br_lt (fun _ => ?_) (fun _ => ?_)) | (refine a_if rfl rfl br_ge (fun _ => ?_) (fun _ => ?_)) | (refine a_if rfl rfl br_gt (fun _ => ?_) (fun _ => ?_)) | (refine a_if rfl rfl br_le (fun _ => ?_) (fun _ => ?_))) | (refine a_at isIc rfl ?_; first | (refine a_icF rfl rfl br_ne (fun h => h (by assumption)) ?_) | (refine a_icT rfl rfl br_eq (by assumption) ?_) | (refine a_icF rfl rfl br_eq (by assumption) ?_) | (refine a_icT rfl rfl br_ne (by assumption) ?_) | (refine a_icF rfl rfl br_ne (by assumption) ?_) | (refine a_icT rfl rfl br_lt (by assumption) ?_) | (refine a_icF rfl rfl br_lt (by assumption) ?_) | (refine a_icT rfl rfl br_ge (by assumption) ?_) | (refine a_icF rfl rfl br_ge (by assumption) ?_) | (refine a_icT rfl rfl br_gt (by assumption) ?_) | (refine a_icF rfl rfl br_gt (by assumption) ?_) | (refine a_icT rfl rfl br_le (by assumption) ?_) | (refine a_icF rfl rfl br_le (by assumption) ?_) | (refine a_ic rfl rfl br_eq (fun _ => ?_) (fun _ => ?_)) | (refine a_ic rfl rfl br_ne (fun _ => ?_) (fun _ => ?_)) | (refine a_ic rfl rfl br_lt (fun _ => ?_) (fun _ => ?_)) | (refine a_ic rfl rfl br_ge (fun _ => ?_) (fun _ => ?_)) | (refine a_ic rfl rfl br_gt (fun _ => ?_) (fun _ => ?_)) | (refine a_ic rfl rfl br_le (fun _ => ?_) (fun _ => ?_))) | (refine a_at isRt rfl ?_; first | refine a_iret rfl rfl rfl ?_ | refine a_zret rfl rfl ?_ ?_ | refine a_lret rfl rfl ?_ | refine a_ret rfl rfl ?_))
      · rw [if_neg m0] at hq
        have nem : ¬ nI (fl + 1) = nI mo := fun e => m0 (by have := (nI_eq (by omega) (by omega)).mp e; omega)
        refine x_icm br_ne (fun _ => ?_) (fun h => absurd nem h)
        by_cases n0 : D.1.length = 0
        · rw [if_pos n0] at hq
          have fin := hq M2 u2 u1 (fun h => absurd rfl h) yl
          have z0 : nI D.1.length = 0 := by rw [n0]; rfl
          have n02 : ¬ (0 : Int32) = 2 := by decide
          repeat' (first | (refine a_stop 18 rfl ?_; (refine x_lvs [(0, .ref 65), (1, .int (nI q)), (2, .int (nI mo)), (3, .int (nI lim)), (4, .int (nI p')), (5, .int (nI (fl + 1))), (6, .int 0)] rfl rfl rfl ⟨rfl, rfl, rfl, rfl, rfl, rfl, rfl, trivial⟩ ?_; exact fin)) | refine x_kcg rfl ?_ | refine x_incg rfl rfl ?_ | refine x_opp rfl rfl ?_ | refine x_go rfl ?_ | (refine a_at isGf rfl ?_; first | refine m_getg hm rfl rfl rfl ?_) | (refine a_at isPf rfl ?_; first | refine a_putI hm rfl rfl rfl ?_ | refine a_putL hm rfl rfl rfl ?_) | (refine a_at isAr rfl ?_; first | refine a_iald hm rfl rfl ?_ ?_ | refine a_bald hm rfl rfl ?_ ?_ | refine a_lald hm rfl rfl ?_ ?_ | refine a_iast hm rfl rfl ?_ ?_ | refine a_last hm rfl rfl ?_ ?_ | refine a_bast hm rfl rfl ?_ ?_ ?_) | (refine a_at isIf rfl ?_; first | (refine a_ifT rfl rfl br_eqz (by assumption) ?_) | (refine a_ifF rfl rfl br_eqz (by assumption) ?_) | (refine a_ifT rfl rfl br_nez (by assumption) ?_) | (refine a_ifF rfl rfl br_nez (by assumption) ?_) | (refine a_ifT rfl rfl br_eqz (nt_f (by assumption)) ?_) | (refine a_ifF rfl rfl br_eqz (tnf (by assumption)) ?_) | (refine a_ifF rfl rfl br_nez (fnt (by assumption)) ?_) | (refine a_if rfl rfl br_eqz (fun _ => ?_) (fun _ => ?_)) | (refine a_if rfl rfl br_nez (fun _ => ?_) (fun _ => ?_)) | (refine a_ifF rfl rfl br_ne (fun h => h (by assumption)) ?_) | (refine a_ifT rfl rfl br_eq (by assumption) ?_) | (refine a_ifF rfl rfl br_eq (by assumption) ?_) | (refine a_ifT rfl rfl br_ne (by assumption) ?_) | (refine a_ifF rfl rfl br_ne (by assumption) ?_) | (refine a_ifT rfl rfl br_lt (by assumption) ?_) | (refine a_ifF rfl rfl br_lt (by assumption) ?_) | (refine a_ifT rfl rfl br_ge (by assumption) ?_) | (refine a_ifF rfl rfl br_ge (by assumption) ?_) | (refine a_ifT rfl rfl br_gt (by assumption) ?_) | (refine a_ifF rfl rfl br_gt (by assumption) ?_) | (refine a_ifT rfl rfl br_le (by assumption) ?_) | (refine a_ifF rfl rfl br_le (by assumption) ?_) | (refine a_if rfl rfl br_eq (fun _ => ?_) (fun _ => ?_)) | (refine a_if rfl rfl br_ne (fun _ => ?_) (fun _ => ?_)) | (refine a_if rfl rfl br_lt (fun _ => ?_) (fun _ => ?_)) | (refine a_if rfl rfl br_ge (fun _ => ?_) (fun _ => ?_)) | (refine a_if rfl rfl br_gt (fun _ => ?_) (fun _ => ?_)) | (refine a_if rfl rfl br_le (fun _ => ?_) (fun _ => ?_))) | (refine a_at isIc rfl ?_; first | (refine a_icF rfl rfl br_ne (fun h => h (by assumption)) ?_) | (refine a_icT rfl rfl br_eq (by assumption) ?_) | (refine a_icF rfl rfl br_eq (by assumption) ?_) | (refine a_icT rfl rfl br_ne (by assumption) ?_) | (refine a_icF rfl rfl br_ne (by assumption) ?_) | (refine a_icT rfl rfl br_lt (by assumption) ?_) | (refine a_icF rfl rfl br_lt (by assumption) ?_) | (refine a_icT rfl rfl br_ge (by assumption) ?_) | (refine a_icF rfl rfl br_ge (by assumption) ?_) | (refine a_icT rfl rfl br_gt (by assumption) ?_) | (refine a_icF rfl rfl br_gt (by assumption) ?_) | (refine a_icT rfl rfl br_le (by assumption) ?_) | (refine a_icF rfl rfl br_le (by assumption) ?_) | (refine a_ic rfl rfl br_eq (fun _ => ?_) (fun _ => ?_)) | (refine a_ic rfl rfl br_ne (fun _ => ?_) (fun _ => ?_)) | (refine a_ic rfl rfl br_lt (fun _ => ?_) (fun _ => ?_)) | (refine a_ic rfl rfl br_ge (fun _ => ?_) (fun _ => ?_)) | (refine a_ic rfl rfl br_gt (fun _ => ?_) (fun _ => ?_)) | (refine a_ic rfl rfl br_le (fun _ => ?_) (fun _ => ?_))) | (refine a_at isRt rfl ?_; first | refine a_iret rfl rfl rfl ?_ | refine a_zret rfl rfl ?_ ?_ | refine a_lret rfl rfl ?_ | refine a_ret rfl rfl ?_))
        · rw [if_neg n0] at hq
          have z0 : ¬ nI D.1.length = 0 := fun e => n0 ((nI_eq (b := 0) (by omega) (by decide)).mp e)
          repeat (first | refine x_kcg rfl ?_ | refine x_opp rfl rfl ?_ | refine x_go rfl ?_)
          refine x_ifc br_ne (fun _ => ?_) (fun h => absurd z0 h)
          repeat (first | refine x_kcg rfl ?_ | refine x_opp rfl rfl ?_ | refine x_go rfl ?_)
          refine m_callV hm rfl rfl rfl (k_takeBack (d := d + 1) (k := S'.1 - 1) hq1 hd u4 yI u3 (by omega) (fun M3 v1 v2 => ?_))
          refine x_goto ?_
          refine x_goto ?_
          refine x_lvs [(0, .ref 65), (1, .int (nI q)), (2, .int (nI mo)), (3, .int (nI lim)), (4, .int (nI p')), (5, .int (nI (fl + 1))), (6, .int 2)] rfl rfl rfl ⟨rfl, rfl, rfl, rfl, rfl, rfl, rfl, trivial⟩ ?_
          obtain ⟨m1, rfl⟩ : ∃ m1, m = m1 + 1 := ⟨m - 1, by omega⟩
          refine ih m1 (by omega) (sBack S') p' (fl + 1) M3 (fs ++ [S'.2.2]) (by omega) yl (sI_back yI) (mD_fr v2 u4) v1 (fun h => rK_g v2 (u1 h)) (fun M4 w1 w2 w3 w4 => ?_)
          have fin := hq M4 (wFr_tr u2 (wFr_tr (wFr_g v2) w1)) (fun h => by
            have := w2 h
            rw [List.append_assoc] at this
            exact this) w3 w4
          rw [List.length_cons, show fl + ((sGo D lim (m1 + 1) (sBack S') p').2.2.2.length + 1) = fl + 1 + (sGo D lim (m1 + 1) (sBack S') p').2.2.2.length by omega] at fin
          exact fin
    · intro e1 M' yf yl
      have e1 : o = 0 := e1
      subst e1
      rw [sGo_0 hr0] at hq
      exact hq M' (wFr_g yf) (fun h => by rw [List.append_nil]; exact rK_g yf (hr h)) (fun h => absurd rfl h) yl
    · intro e1 M' yI yS yn yf yl
      have e1 : o = 2 := e1
      subst e1
      rw [sGo_2 hr0] at hq
      exact hq M' (wFr_g yf) (fun h => by rw [List.append_nil]; exact rK_g yf (hr h)) (fun _ => ⟨yI, yS⟩) yl
/-- what a call leaves: its steps, fillings, entries, candidates -/
def goM (M : mm_T) (p fl : Nat) (n : Int32) (c : Int32) : mm_T := m_setI (m_setI (m_setI (m_setI (m_setI M 65 23 (M.1 65 23 + nI p)) 65 53 (nI p)) 65 54 (nI fl)) 65 55 n) 65 56 c
set_option maxRecDepth 4000 in
theorem k_goes {M : mm_T} {S : sS} {lim mo : Nat} {fs : List (Nat → Int64)} (hq1 : q ≤ 1) (hd : dOK D) (hin : ∀ i j, i < D.1.length → j < D.1.length → D.2.2.1 i = D.2.2.1 j → i = j) (hl : lim ≤ 5000) (hm1 : 1 ≤ mo) (hmo : mo ≤ 1000) (hI : sI D S) (hD : mD M q D) (hS : mS M q D S) (hr : q = 1 → rK M D fs)
    (hq : ∀ M', wFr M M' q D → (q = 1 → rK M' D (fs ++ (sGo D lim mo S 0).2.2.2)) → ((sGo D lim mo S 0).1 ≠ 0 → sI D (sGo D lim mo S 0).2.1 ∧ mS M' q D (sGo D lim mo S 0).2.1) → (sGo D lim mo S 0).2.2.1 ≤ lim → Q (some (.int (aI (sGo D lim mo S 0).1))) (wm (sh0 ++ dy) (goM M' (sGo D lim mo S 0).2.2.1 (sGo D lim mo S 0).2.2.2.length (nI D.1.length) (M.1 98 q)))) : sm_E L xs (d + 4) 200 [.ref 65, .int (nI q), .int (nI mo), .int (nI lim)] (wm (sh0 ++ dy) M) Q := by
  have hm := s_65 dy
  have hq2 : q < 2 := by omega
  obtain ⟨m, rfl⟩ : ∃ m, mo = m + 1 := ⟨mo - 1, by omega⟩
  refine e_intro rfl rfl ?_
  have fin := l_goes (L := L) (xs := xs) (d := d) (dy := dy) (Q := Q) hq1 hd hin hl hmo m S 0 0 M fs (by omega) (Nat.zero_le _) hI hD hS hr (fun M' w1 w2 w3 w4 => ?_)
  · repeat (first | refine x_kcg rfl ?_ | refine x_incg rfl rfl ?_ | refine x_opp rfl rfl ?_)
    refine x_fall ?_
    refine x_lvs [(0, .ref 65), (1, .int (nI q)), (2, .int (nI (m + 1))), (3, .int (nI lim)), (4, .int (nI 0)), (5, .int (nI 0)), (6, .int 2)] rfl rfl rfl ⟨rfl, rfl, rfl, rfl, rfl, rfl, rfl, trivial⟩ ?_
    exact fin
  · have fin := hq M' w1 w2 w3 w4
    rw [Nat.zero_add]
    generalize (sGo D lim (m + 1) S 0).2.2.1 = p at fin ⊢
    generalize (sGo D lim (m + 1) S 0).2.2.2.length = fl at fin ⊢
    generalize aI (sGo D lim (m + 1) S 0).1 = an at fin ⊢
    have e96 : M'.1 96 q = nI D.1.length := by rw [w1.1.2.1 96 (by decide) (by decide) (by decide) (by decide) (by decide)]; exact hD.1
    have e98 : M'.1 98 q = M.1 98 q := by rw [w1.1.2.1 98 (by decide) (by decide) (by decide) (by decide) (by decide)]
    have f96 : ∀ a b c, (m_setI (m_setI (m_setI M' 65 23 a) 65 53 b) 65 54 c).1 96 q = nI D.1.length := fun a b c => by rw [mI_ne _ _ _ (by decide), mI_ne _ _ _ (by decide), mI_ne _ _ _ (by decide)]; exact e96
    have f98 : ∀ a b c e, (m_setI (m_setI (m_setI (m_setI M' 65 23 a) 65 53 b) 65 54 c) 65 55 e).1 98 q = M.1 98 q := fun a b c e => by rw [mI_ne _ _ _ (by decide), mI_ne _ _ _ (by decide), mI_ne _ _ _ (by decide), mI_ne _ _ _ (by decide)]; exact e98
    repeat (first | refine x_kcg rfl ?_ | refine x_opp rfl rfl ?_ | refine x_go rfl ?_ | refine m_getg hm rfl rfl rfl ?_)
    refine m_putI hm rfl ?_
    repeat (first | refine x_kcg rfl ?_ | refine x_opp rfl rfl ?_ | refine x_go rfl ?_ | refine m_getg hm rfl rfl rfl ?_)
    refine m_putI hm rfl ?_
    repeat (first | refine x_kcg rfl ?_ | refine x_opp rfl rfl ?_ | refine x_go rfl ?_ | refine m_getg hm rfl rfl rfl ?_)
    refine m_putI hm rfl ?_
    repeat (first | refine x_kcg rfl ?_ | refine x_opp rfl rfl ?_ | refine x_go rfl ?_ | refine m_getg hm rfl rfl rfl ?_)
    refine m_iald (s_96 dy) (vp_in_nI hq2 (by decide)) ?_
    rw [nI_clamp (by omega), f96]
    refine m_putI hm rfl ?_
    repeat (first | refine x_kcg rfl ?_ | refine x_opp rfl rfl ?_ | refine x_go rfl ?_ | refine m_getg hm rfl rfl rfl ?_)
    refine m_iald (s_98 dy) (vp_in_nI hq2 (by decide)) ?_
    rw [nI_clamp (by omega), f98]
    refine m_putI hm rfl ?_
    repeat (first | refine x_kcg rfl ?_ | refine x_opp rfl rfl ?_ | refine x_go rfl ?_)
    exact x_iret rfl fin
end MX
