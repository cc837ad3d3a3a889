/-! the lists of the desk: how many, scores, words -/
section CQ
variable {L : Nat} {xs : Nat → Int32} {dy : List sh_T} {E : Nat → lT} {P : Nat → Nat} {n : Nat}
theorem c_many (hE : lOK E n) : ∀ l, l < n → lDr (E l) = false → ∀ (d : Nat) (o : Int64) (M : mm_T) (B : Nat) (f : Nat → Int32) (Q : Option Value → sm_W → Prop), cLs (sh0 ++ dy) M E P n → cTr M (B, f) → M.1 1 5 = 0 →
    ((askF E l 1 o).2.1 = 0 → ∀ M', cft M M' (trc (B, f) (askF E l 1 o).1) → Q (some (.int (askF E l 1 o).2.2.toInt32)) (wm (sh0 ++ dy) M')) →
    ((askF E l 1 o).2.1 ≠ 0 → ∀ M' x, cff M M' (trc (B, f) (askF E l 1 o).1) (askF E l 1 o).2.1 → Q (some (.int x)) (wm (sh0 ++ dy) M')) →
    sm_E L xs (d + 2 * l + 6) (mA1 (lK (E l))) [.ref (P l)] (wm (sh0 ++ dy) M) Q := by
  intro l
  induction l using Nat.strongRecOn with
  | _ l ih =>
    intro hl hdr d o M B f Q hs tr h5 hS hF
    obtain ⟨h0, h1, h2, -⟩ := hE.2 l hl
    rw [askF_eq hE hl, if_neg (by rw [hdr]; decide)] at hS hF
    by_cases g2 : lK (E l) < 3
    · rw [if_pos g2] at hS hF
      exact e_up (by omega : d + 4 ≤ d + 2 * l + 6) (c_my3 (o := o) hE hl g2 hs tr (fun M' ct => hS (by unfold askL; rw [if_neg (by decide), if_pos rfl]) M' ct))
    · rw [if_neg g2] at hS hF
      have a1 := h1 (by omega)
      by_cases g3 : lK (E l) = 3
      · rw [if_pos g3, if_neg (fun h => by cases h.1)] at hS hF
        rw [show mA1 (lK (E l)) = 60 by rw [g3]; rfl]
        obtain ⟨s1, s2, s3⟩ := pat_sh hl g3 hs
        dsimp only at hS hF
        refine e_intro rfl rfl ?_
        repeat (first | refine x_kcg rfl ?_ | refine x_opp rfl rfl ?_ | refine x_go rfl ?_ | refine m_getg s1 rfl rfl rfl ?_)
        refine m_callV (s_1 dy) rfl rfl rfl (c_beg (c := nI 31) tr rfl (fun ct => ?_))
        have hs1 := cLs_cft ct hs
        have e3 : (nBeg M 1 2 3 1).1 (P l) 3 = nI (lA1 (E l)) := by rw [ct.2.1 (P l) (by omega) (by omega)]; exact s2
        repeat (first | refine x_kcg rfl ?_ | refine x_opp rfl rfl ?_ | refine x_go rfl ?_ | refine m_getg s1 rfl rfl rfl ?_)
        rw [e3]
        refine m_callV (s_4 dy) rfl rfl rfl (c_want hE (by omega : lA1 (E l) < n) hs1 (fun hd => ?_) (fun hd => ?_))
        · obtain ⟨-, sa, -⟩ := hs1.2 (lA1 (E l)) (by omega)
          obtain ⟨s, v1, v2⟩ := cSh_v sa
          repeat (first | refine x_kcg rfl ?_ | refine x_opp rfl rfl ?_ | refine x_go rfl ?_)
          refine x_ifnonR ?_
          repeat (first | refine x_kcg rfl ?_ | refine x_opp rfl rfl ?_ | refine x_go rfl ?_)
          refine m_callV v1 (v2 _ _ _).2.1 rfl rfl (e_up (by omega : d + 2 * lA1 (E l) + 6 ≤ d + 2 * l + 5) (ih _ a1 (by omega) hd d o _ (B + 1) _ _ hs1 ct.2.2.2 (by rw [ct.2.2.1]; exact h5) (fun r0 M' ct2 => ?_) (fun r0 M' x cf => ?_)))
          · rw [if_pos r0] at hS
            have fin := hS rfl M' (cft_tr ct ct2)
            simp only [show ¬ (1 : Nat) = 2 by decide, show ¬ (1 : Nat) = 3 by decide, if_false] at fin
            repeat (first | refine x_kcg rfl ?_ | refine x_opp rfl rfl ?_ | refine x_go rfl ?_)
            exact x_iret rfl fin
          · rw [if_neg r0] at hF
            have fin := hF r0 M' x (cft_ff ct cf)
            repeat (first | refine x_kcg rfl ?_ | refine x_opp rfl rfl ?_ | refine x_go rfl ?_)
            exact x_iret rfl fin
        · have r0 : (askF E (lA1 (E l)) 1 o) = ([], 1, 0) := askF_dr hE (by omega) hd 1 o
          rw [r0, if_neg (by decide)] at hF
          have fin := hF (by decide) _ 0 (cff_n ct)
          repeat (first | refine x_kcg rfl ?_ | refine x_opp rfl rfl ?_ | refine x_go rfl ?_)
          refine x_ifnonN ?_
          repeat (first | refine x_kcg rfl ?_ | refine x_opp rfl rfl ?_ | refine x_go rfl ?_)
          exact x_iret rfl fin
      · rw [if_neg g3] at hS hF
        have g4 : lK (E l) = 4 := by omega
        rw [show mA1 (lK (E l)) = 59 by rw [g4]; rfl]
        obtain ⟨s1, s2, s2b, s3⟩ := joi_sh hl g4 hs
        dsimp only at hS hF
        refine e_intro rfl rfl ?_
        repeat (first | refine x_kcg rfl ?_ | refine x_opp rfl rfl ?_ | refine x_go rfl ?_ | refine m_getg s1 rfl rfl rfl ?_)
        refine m_callV (s_1 dy) rfl rfl rfl (c_beg (c := nI 41) tr rfl (fun ct => ?_))
        have hs1 := cLs_cft ct hs
        have e3 : (nBeg M 1 2 4 1).1 (P l) 3 = nI (lA1 (E l)) := by rw [ct.2.1 (P l) (by omega) (by omega)]; exact s2
        repeat (first | refine x_kcg rfl ?_ | refine x_opp rfl rfl ?_ | refine x_go rfl ?_ | refine m_getg s1 rfl rfl rfl ?_)
        rw [e3]
        refine m_callV (s_4 dy) rfl rfl rfl (c_want hE (by omega : lA1 (E l) < n) hs1 (fun hd => ?_) (fun hd => ?_))
        · obtain ⟨-, sa, -⟩ := hs1.2 (lA1 (E l)) (by omega)
          obtain ⟨s, v1, v2⟩ := cSh_v sa
          repeat (first | refine x_kcg rfl ?_ | refine x_opp rfl rfl ?_ | refine x_go rfl ?_)
          refine x_ifnonR ?_
          repeat (first | refine x_kcg rfl ?_ | refine x_opp rfl rfl ?_ | refine x_go rfl ?_)
          refine m_callV v1 (v2 _ _ _).2.1 rfl rfl (e_up (by omega : d + 2 * lA1 (E l) + 6 ≤ d + 2 * l + 5) (ih _ a1 (by omega) hd d o _ (B + 1) _ _ hs1 ct.2.2.2 (by rw [ct.2.2.1]; exact h5) (fun r0 M' ct2 => ?_) (fun r0 M' x cf => ?_)))
          · rw [if_pos r0, if_neg (fun h => h.1 rfl)] at hS
            have fin := hS rfl M' (cft_tr ct ct2)
            repeat (first | refine x_kcg rfl ?_ | refine x_opp rfl rfl ?_ | refine x_go rfl ?_)
            exact x_iret rfl fin
          · rw [if_neg r0] at hF
            have fin := hF r0 M' x (cft_ff ct cf)
            repeat (first | refine x_kcg rfl ?_ | refine x_opp rfl rfl ?_ | refine x_go rfl ?_)
            exact x_iret rfl fin
        · have r0 : (askF E (lA1 (E l)) 1 o) = ([], 1, 0) := askF_dr hE (by omega) hd 1 o
          rw [r0, if_neg (by decide)] at hF
          have fin := hF (by decide) _ 0 (cff_n ct)
          repeat (first | refine x_kcg rfl ?_ | refine x_opp rfl rfl ?_ | refine x_go rfl ?_)
          refine x_ifnonN ?_
          repeat (first | refine x_kcg rfl ?_ | refine x_opp rfl rfl ?_ | refine x_go rfl ?_)
          exact x_iret rfl fin
theorem ti_add (v w : Int64) : (v + w).toInt32 = v.toInt32 + w.toInt32 := Int64.toInt32_add v w
theorem c_score (hE : lOK E n) : ∀ l, l < n → lDr (E l) = false → ∀ (d : Nat) (o : Int64) (M : mm_T) (B : Nat) (f : Nat → Int32) (Q : Option Value → sm_W → Prop), cLs (sh0 ++ dy) M E P n → cTr M (B, f) → M.1 1 5 = 0 →
    ((askF E l 3 o).2.1 = 0 → ∀ M', cft M M' (trc (B, f) (askF E l 3 o).1) → Q (some (.int (askF E l 3 o).2.2.toInt32)) (wm (sh0 ++ dy) M')) →
    ((askF E l 3 o).2.1 ≠ 0 → ∀ M' x, cff M M' (trc (B, f) (askF E l 3 o).1) (askF E l 3 o).2.1 → Q (some (.int x)) (wm (sh0 ++ dy) M')) →
    sm_E L xs (d + 2 * l + 6) (mA3 (lK (E l))) [.ref (P l), .long o] (wm (sh0 ++ dy) M) Q := by
  intro l
  induction l using Nat.strongRecOn with
  | _ l ih =>
    intro hl hdr d o M B f Q hs tr h5 hS hF
    obtain ⟨h0, h1, h2, -⟩ := hE.2 l hl
    rw [askF_eq hE hl, if_neg (by rw [hdr]; decide)] at hS hF
    by_cases g2 : lK (E l) < 3
    · rw [if_pos g2] at hS hF
      exact e_up (by omega : d + 4 ≤ d + 2 * l + 6) (c_sc3 (o := o) hE hl g2 hs tr (fun M' ct => hS (by unfold askL; rw [if_neg (by decide), if_neg (by decide), if_neg (by decide)]) M' ct))
    · rw [if_neg g2] at hS hF
      have a1 := h1 (by omega)
      by_cases g3 : lK (E l) = 3
      · rw [if_pos g3, if_neg (fun h => by cases h.1)] at hS hF
        rw [show mA3 (lK (E l)) = 64 by rw [g3]; rfl]
        obtain ⟨s1, s2, s3⟩ := pat_sh hl g3 hs
        dsimp only at hS hF
        refine e_intro rfl rfl ?_
        repeat (first | refine x_kcg rfl ?_ | refine x_opp rfl rfl ?_ | refine x_go rfl ?_ | refine m_getg s1 rfl rfl rfl ?_)
        refine m_callV (s_1 dy) rfl rfl rfl (c_beg (c := nI 33) tr rfl (fun ct => ?_))
        have hs1 := cLs_cft ct hs
        have e3 : (nBeg M 1 2 3 3).1 (P l) 3 = nI (lA1 (E l)) := by rw [ct.2.1 (P l) (by omega) (by omega)]; exact s2
        repeat (first | refine x_kcg rfl ?_ | refine x_opp rfl rfl ?_ | refine x_go rfl ?_ | refine m_getg s1 rfl rfl rfl ?_)
        rw [e3]
        refine m_callV (s_4 dy) rfl rfl rfl (c_want hE (by omega : lA1 (E l) < n) hs1 (fun hd => ?_) (fun hd => ?_))
        · obtain ⟨-, sa, -⟩ := hs1.2 (lA1 (E l)) (by omega)
          obtain ⟨s, v1, v2⟩ := cSh_v sa
          repeat (first | refine x_kcg rfl ?_ | refine x_opp rfl rfl ?_ | refine x_go rfl ?_)
          refine x_ifnonR ?_
          repeat (first | refine x_kcg rfl ?_ | refine x_opp rfl rfl ?_ | refine x_go rfl ?_)
          refine m_callV v1 (v2 _ _ _).2.2.2 rfl rfl (e_up (by omega : d + 2 * lA1 (E l) + 6 ≤ d + 2 * l + 5) (ih _ a1 (by omega) hd d o _ (B + 1) _ _ hs1 ct.2.2.2 (by rw [ct.2.2.1]; exact h5) (fun r0 M' ct2 => ?_) (fun r0 M' x cf => ?_)))
          · rw [if_pos r0] at hS
            have fin := hS rfl M' (cft_tr ct ct2)
            simp only [show ¬ (3 : Nat) = 2 by decide, if_true, if_false] at fin
            rw [ti_add] at fin
            repeat (first | refine x_kcg rfl ?_ | refine x_opp rfl rfl ?_ | refine x_go rfl ?_)
            exact x_iret rfl fin
          · rw [if_neg r0] at hF
            have fin := hF r0 M' (x + 1) (cft_ff ct cf)
            repeat (first | refine x_kcg rfl ?_ | refine x_opp rfl rfl ?_ | refine x_go rfl ?_)
            exact x_iret rfl fin
        · have r0 : (askF E (lA1 (E l)) 3 o) = ([], 1, 0) := askF_dr hE (by omega) hd 3 o
          rw [r0, if_neg (by decide)] at hF
          have fin := hF (by decide) _ 0 (cff_n ct)
          repeat (first | refine x_kcg rfl ?_ | refine x_opp rfl rfl ?_ | refine x_go rfl ?_)
          refine x_ifnonN ?_
          repeat (first | refine x_kcg rfl ?_ | refine x_opp rfl rfl ?_ | refine x_go rfl ?_)
          exact x_iret rfl fin
      · rw [if_neg g3] at hS hF
        have g4 : lK (E l) = 4 := by omega
        have a2 := h2 g4
        rw [show mA3 (lK (E l)) = 63 by rw [g4]; rfl]
        obtain ⟨s1, s2, s2b, s3⟩ := joi_sh hl g4 hs
        dsimp only at hS hF
        refine e_intro rfl rfl ?_
        repeat (first | refine x_kcg rfl ?_ | refine x_opp rfl rfl ?_ | refine x_go rfl ?_ | refine m_getg s1 rfl rfl rfl ?_)
        refine m_callV (s_1 dy) rfl rfl rfl (c_beg (c := nI 43) tr rfl (fun ct => ?_))
        have hs1 := cLs_cft ct hs
        have e3 : (nBeg M 1 2 4 3).1 (P l) 3 = nI (lA1 (E l)) := by rw [ct.2.1 (P l) (by omega) (by omega)]; exact s2
        have bad : ∀ M' (x : Int32) lv, sm_get (sm_put lv 4 (.int x)) 0 = some (.ref (P l)) → M'.1 1 5 ≠ 0 → Q (some (.int 0)) (wm (sh0 ++ dy) M') → sm_X L xs (d + 2 * l + 5) 63 3 (sm_code 63 3) lv [.int x] (wm (sh0 ++ dy) M') Q := by
          intro M' x lv l1 hne fin
          have hmet : zz (decide (M'.1 1 5 ≠ 0)) = 1 := by rw [decide_eq_true hne]; rfl
          have z := z10
          refine x_op rfl ?_
          refine x_op (by simp only [sm_op, l1]; rfl) ?_
          refine m_get s1 rfl ?_
          refine m_callV (s_1 dy) rfl rfl rfl (c_met (s_1 dy) ?_)
          rw [hmet]
          refine x_ifc br_eq (fun h => absurd h z) (fun _ => ?_)
          repeat (first | refine x_kcg rfl ?_ | refine x_opp rfl rfl ?_ | refine x_go rfl ?_)
          exact x_iret rfl fin
        repeat (first | refine x_kcg rfl ?_ | refine x_opp rfl rfl ?_ | refine x_go rfl ?_ | refine m_getg s1 rfl rfl rfl ?_)
        rw [e3]
        refine m_callV (s_4 dy) rfl rfl rfl (c_want hE (by omega : lA1 (E l) < n) hs1 (fun hd => ?_) (fun hd => ?_))
        · obtain ⟨-, sa, -⟩ := hs1.2 (lA1 (E l)) (by omega)
          obtain ⟨s, v1, v2⟩ := cSh_v sa
          repeat (first | refine x_kcg rfl ?_ | refine x_opp rfl rfl ?_ | refine x_go rfl ?_)
          refine x_ifnonR ?_
          repeat (first | refine x_kcg rfl ?_ | refine x_opp rfl rfl ?_ | refine x_go rfl ?_)
          refine m_callV v1 (v2 _ _ _).2.2.2 rfl rfl (e_up (by omega : d + 2 * lA1 (E l) + 6 ≤ d + 2 * l + 5) (ih _ a1 (by omega) hd d o _ (B + 1) _ _ hs1 ct.2.2.2 (by rw [ct.2.2.1]; exact h5) (fun r0 M' ct2 => ?_) (fun r0 M' x cf => ?_)))
          · have c1 : ((3 : Nat) ≠ 1 ∧ ((3 : Nat) = 3 ∨ (askF E (lA1 (E l)) 3 o).2.2 ≠ 0)) := ⟨by decide, Or.inl rfl⟩
            rw [if_pos r0, if_pos c1] at hS hF
            simp only [show ¬ (3 : Nat) = 2 by decide, if_false] at hS hF
            have ct3 := cft_tr ct ct2
            have hs2 := cLs_cft ct3 hs
            have h5b : M'.1 1 5 = 0 := by rw [ct3.2.2.1]; exact h5
            have hmet : zz (decide (M'.1 1 5 ≠ 0)) = 0 := by rw [decide_eq_false (by rw [h5b]; exact fun h => h rfl)]; rfl
            have e4 : M'.1 (P l) 4 = nI (lA2 (E l)) := by rw [ct3.2.1 (P l) (by omega) (by omega)]; exact s2b
            have eapp : ∀ cs, trc (B, f) (43 :: ((askF E (lA1 (E l)) 3 o).1 ++ cs)) = trc (trc (B + 1, upd f (B % 100) (nI 43)) (askF E (lA1 (E l)) 3 o).1) cs := fun cs => by rw [trc_cons, trc_app]
            repeat (first | refine x_kcg rfl ?_ | refine x_opp rfl rfl ?_ | refine x_go rfl ?_ | refine m_getg s1 rfl rfl rfl ?_)
            refine m_callV (s_1 dy) rfl rfl rfl (c_met (s_1 dy) ?_)
            rw [hmet]
            refine x_ifc br_eq (fun _ => ?_) (fun h => absurd rfl h)
            repeat (first | refine x_kcg rfl ?_ | refine x_opp rfl rfl ?_ | refine x_go rfl ?_ | refine m_getg s1 rfl rfl rfl ?_)
            rw [e4]
            refine m_callV (s_4 dy) rfl rfl rfl (c_want hE (by omega : lA2 (E l) < n) hs2 (fun hd2 => ?_) (fun hd2 => ?_))
            · obtain ⟨-, sb, -⟩ := hs2.2 (lA2 (E l)) (by omega)
              obtain ⟨s', v1', v2'⟩ := cSh_v sb
              repeat (first | refine x_kcg rfl ?_ | refine x_opp rfl rfl ?_ | refine x_go rfl ?_)
              refine x_ifnonR ?_
              repeat (first | refine x_kcg rfl ?_ | refine x_opp rfl rfl ?_ | refine x_go rfl ?_)
              refine m_callV v1' (v2' _ _ _).2.2.2 rfl rfl (e_up (by omega : d + 2 * lA2 (E l) + 6 ≤ d + 2 * l + 5) (ih _ a2 (by omega) hd2 d o _ _ _ _ hs2 ct3.2.2.2 h5b (fun r1 M2 ct4 => ?_) (fun r1 M2 x cf => ?_)))
              · rw [if_pos r1] at hS
                have fin := hS rfl M2 (by rw [eapp]; exact cft_tr ct3 ct4)
                rw [show askJ 3 (askF E (lA1 (E l)) 3 o).2.2 (askF E (lA2 (E l)) 3 o).2.2 = (askF E (lA1 (E l)) 3 o).2.2 + (askF E (lA2 (E l)) 3 o).2.2 from rfl, ti_add] at fin
                repeat (first | refine x_kcg rfl ?_ | refine x_opp rfl rfl ?_ | refine x_go rfl ?_)
                exact x_iret rfl fin
              · rw [if_neg r1] at hF
                have fin := fun y => hF r1 M2 y (by rw [eapp]; exact cft_ff ct3 cf)
                repeat (first | refine x_kcg rfl ?_ | refine x_opp rfl rfl ?_ | refine x_go rfl ?_)
                exact x_iret rfl (fin _)
            · have r1 : (askF E (lA2 (E l)) 3 o) = ([], 1, 0) := askF_dr hE (by omega) hd2 3 o
              rw [r1, if_neg (by decide)] at hF
              have fin := hF (by show (1 : Nat) ≠ 0; decide) _ 0 (by rw [eapp]; exact cff_n ct3)
              repeat (first | refine x_kcg rfl ?_ | refine x_opp rfl rfl ?_ | refine x_go rfl ?_)
              refine x_ifnonN ?_
              repeat (first | refine x_kcg rfl ?_ | refine x_opp rfl rfl ?_ | refine x_go rfl ?_)
              exact x_iret rfl fin
          · rw [if_neg r0] at hF
            have fin := hF r0 M' 0 (cft_ff ct cf)
            have hne : M'.1 1 5 ≠ 0 := by
              rw [cf.2.2.1]
              intro e
              have := askF_f hE (lA1 (E l)) (by omega) 3 o
              exact r0 ((nI_eq (b := 0) (by omega) (by decide)).mp e)
            refine x_fall ?_
            exact bad M' x _ rfl hne fin
        · have r0 : (askF E (lA1 (E l)) 3 o) = ([], 1, 0) := askF_dr hE (by omega) hd 3 o
          rw [r0, if_neg (by decide)] at hF
          have cf := cff_n ct
          have fin := hF (by decide) _ 0 cf
          repeat (first | refine x_kcg rfl ?_ | refine x_opp rfl rfl ?_ | refine x_go rfl ?_)
          refine x_ifnonN ?_
          refine x_kcg rfl ?_
          refine x_goto ?_
          exact bad _ 0 _ rfl (by rw [cf.2.2.1]; decide) fin
theorem wdP_0 : wdP 0 := Or.inl rfl
theorem c_word (hE : lOK E n) : ∀ l, l < n → lDr (E l) = false → ∀ (d : Nat) (k : Int32) (M : mm_T) (B : Nat) (f : Nat → Int32) (Q : Option Value → sm_W → Prop), cLs (sh0 ++ dy) M E P n → cTr M (B, f) → M.1 1 5 = 0 →
    ((askF E l 2 k.toInt64).2.1 = 0 → ∀ M', cft M M' (trc (B, f) (askF E l 2 k.toInt64).1) → Q (some (.long (askF E l 2 k.toInt64).2.2)) (wm (sh0 ++ dy) M')) →
    ((askF E l 2 k.toInt64).2.1 ≠ 0 → ∀ M' w, wdP w → cff M M' (trc (B, f) (askF E l 2 k.toInt64).1) (askF E l 2 k.toInt64).2.1 → Q (some (.long w)) (wm (sh0 ++ dy) M')) →
    sm_E L xs (d + 2 * l + 6) (mA2 (lK (E l))) [.ref (P l), .int k] (wm (sh0 ++ dy) M) Q := by
  intro l
  induction l using Nat.strongRecOn with
  | _ l ih =>
    intro hl hdr d k M B f Q hs tr h5 hS hF
    obtain ⟨h0, h1, h2, -⟩ := hE.2 l hl
    rw [askF_eq hE hl, if_neg (by rw [hdr]; decide)] at hS hF
    by_cases g2 : lK (E l) < 3
    · rw [if_pos g2] at hS hF
      rw [show mA2 (lK (E l)) = 67 by unfold mA2; rw [if_pos g2]]
      exact e_up (by omega : d + 3 ≤ d + 2 * l + 6) (c_plainWd hE hl g2 hs tr hS (fun h M' cf => hF (by rw [h]; decide) M' 0 wdP_0 (by rw [h]; exact cf)))
    · rw [if_neg g2] at hS hF
      have a1 := h1 (by omega)
      by_cases g3 : lK (E l) = 3
      · rw [if_pos g3, if_neg (fun h => by cases h.1)] at hS hF
        rw [show mA2 (lK (E l)) = 69 by rw [g3]; rfl]
        obtain ⟨s1, s2, s3⟩ := pat_sh hl g3 hs
        dsimp only at hS hF
        refine e_intro rfl rfl ?_
        repeat (first | refine x_kcg rfl ?_ | refine x_opp rfl rfl ?_ | refine x_go rfl ?_ | refine m_getg s1 rfl rfl rfl ?_)
        refine m_callV (s_1 dy) rfl rfl rfl (c_beg (c := nI 32) tr rfl (fun ct => ?_))
        have hs1 := cLs_cft ct hs
        have e3 : (nBeg M 1 2 3 2).1 (P l) 3 = nI (lA1 (E l)) := by rw [ct.2.1 (P l) (by omega) (by omega)]; exact s2
        have hf0 : fitB (lPt (E l)) 0 = false := by
          refine nt_f (fun h => ?_)
          have h := ((fitB_iff _ _).mp h).1
          obtain ⟨m, hm⟩ := (hE.2 l hl).2.2.2.1 g3
          rw [szf_eq hm, szf_0 rfl] at h
          have := hm.1
          omega
        repeat (first | refine x_kcg rfl ?_ | refine x_opp rfl rfl ?_ | refine x_go rfl ?_ | refine m_getg s1 rfl rfl rfl ?_)
        rw [e3]
        refine m_callV (s_4 dy) rfl rfl rfl (c_want hE (by omega : lA1 (E l) < n) hs1 (fun hd => ?_) (fun hd => ?_))
        · obtain ⟨-, sa, -⟩ := hs1.2 (lA1 (E l)) (by omega)
          obtain ⟨s, v1, v2⟩ := cSh_v sa
          repeat (first | refine x_kcg rfl ?_ | refine x_opp rfl rfl ?_ | refine x_go rfl ?_)
          refine x_ifnonR ?_
          repeat (first | refine x_kcg rfl ?_ | refine x_opp rfl rfl ?_ | refine x_go rfl ?_)
          refine m_callV v1 (v2 _ _ _).2.2.1 rfl rfl (e_up (by omega : d + 2 * lA1 (E l) + 6 ≤ d + 2 * l + 5) (ih _ a1 (by omega) hd d k _ (B + 1) _ _ hs1 ct.2.2.2 (by rw [ct.2.2.1]; exact h5) (fun r0 M' ct2 => ?_) (fun r0 M' w hw cf => ?_)))
          · rw [if_pos r0] at hS
            have fin := hS rfl M' (cft_tr ct ct2)
            rw [if_pos rfl] at fin
            have hw2 := (askF_val hE _ (by omega) 2 k.toInt64 r0).2.2 rfl
            have hs2 := cLs_cft (cft_tr ct ct2) hs
            repeat (first | refine x_kcg rfl ?_ | refine x_opp rfl rfl ?_ | refine x_go rfl ?_)
            refine m_callV s1 rfl rfl rfl (c_pfits hl g3 hs2 hw2 ?_)
            by_cases c1 : fitB (lPt (E l)) (askF E (lA1 (E l)) 2 k.toInt64).2.2 = true
            · rw [if_pos c1] at fin
              rw [c1]
              refine x_ifc br_eqz (fun h => by cases h) (fun _ => ?_)
              repeat (first | refine x_kcg rfl ?_ | refine x_opp rfl rfl ?_ | refine x_go rfl ?_)
              exact x_lret fin
            · rw [if_neg c1] at fin
              rw [nt_f c1]
              refine x_ifc br_eqz (fun _ => ?_) (fun h => absurd rfl h)
              repeat (first | refine x_kcg rfl ?_ | refine x_opp rfl rfl ?_ | refine x_go rfl ?_)
              exact x_lret fin
          · rw [if_neg r0] at hF
            have hs2 := cLs_fr (M1 := M') cf.1 (fun a x y z => cf.2.1 a x y z) hs1
            repeat (first | refine x_kcg rfl ?_ | refine x_opp rfl rfl ?_ | refine x_go rfl ?_)
            refine m_callV s1 rfl rfl rfl (c_pfits hl g3 hs2 hw ?_)
            by_cases c1 : fitB (lPt (E l)) w = true
            · have fin := hF r0 M' w hw (cft_ff ct cf)
              rw [c1]
              refine x_ifc br_eqz (fun h => by cases h) (fun _ => ?_)
              repeat (first | refine x_kcg rfl ?_ | refine x_opp rfl rfl ?_ | refine x_go rfl ?_)
              exact x_lret fin
            · have fin := hF r0 M' 0 wdP_0 (cft_ff ct cf)
              rw [nt_f c1]
              refine x_ifc br_eqz (fun _ => ?_) (fun h => absurd rfl h)
              repeat (first | refine x_kcg rfl ?_ | refine x_opp rfl rfl ?_ | refine x_go rfl ?_)
              exact x_lret fin
        · have r0 : (askF E (lA1 (E l)) 2 k.toInt64) = ([], 1, 0) := askF_dr hE (by omega) hd 2 _
          rw [r0, if_neg (by decide)] at hF
          have cf := cff_n ct
          have fin := hF (by decide) _ 0 wdP_0 cf
          have hf0 : fitB (lPt (E l)) (Int64.ofNat 0) = false := hf0
          have hs2 := cLs_fr (M1 := nFind (nBeg M 1 2 3 2) 1 3 (nI 1)) cf.1 (fun a x y z => cf.2.1 a x y z) hs
          repeat (first | refine x_kcg rfl ?_ | refine x_opp rfl rfl ?_ | refine x_go rfl ?_)
          refine x_ifnonN ?_
          repeat (first | refine x_kcg rfl ?_ | refine x_opp rfl rfl ?_ | refine x_go rfl ?_)
          refine m_callV s1 rfl rfl rfl (c_pfits hl g3 hs2 wdP_0 ?_)
          rw [hf0]
          refine x_ifc br_eqz (fun _ => ?_) (fun h => absurd rfl h)
          repeat (first | refine x_kcg rfl ?_ | refine x_opp rfl rfl ?_ | refine x_go rfl ?_)
          exact x_lret fin
      · rw [if_neg g3] at hS hF
        have g4 : lK (E l) = 4 := by omega
        have a2 := h2 g4
        rw [show mA2 (lK (E l)) = 68 by rw [g4]; rfl]
        obtain ⟨s1, s2, s2b, s3⟩ := joi_sh hl g4 hs
        dsimp only at hS hF
        refine e_intro rfl rfl ?_
        repeat (first | refine x_kcg rfl ?_ | refine x_opp rfl rfl ?_ | refine x_go rfl ?_ | refine m_getg s1 rfl rfl rfl ?_)
        refine m_callV (s_1 dy) rfl rfl rfl (c_beg (c := nI 42) tr rfl (fun ct => ?_))
        have hs1 := cLs_cft ct hs
        have e3 : (nBeg M 1 2 4 2).1 (P l) 3 = nI (lA1 (E l)) := by rw [ct.2.1 (P l) (by omega) (by omega)]; exact s2
        repeat (first | refine x_kcg rfl ?_ | refine x_opp rfl rfl ?_ | refine x_go rfl ?_ | refine m_getg s1 rfl rfl rfl ?_)
        rw [e3]
        refine m_callV (s_4 dy) rfl rfl rfl (c_want hE (by omega : lA1 (E l) < n) hs1 (fun hd => ?_) (fun hd => ?_))
        · obtain ⟨-, sa, -⟩ := hs1.2 (lA1 (E l)) (by omega)
          obtain ⟨s, v1, v2⟩ := cSh_v sa
          repeat (first | refine x_kcg rfl ?_ | refine x_opp rfl rfl ?_ | refine x_go rfl ?_)
          refine x_ifnonR ?_
          repeat (first | refine x_kcg rfl ?_ | refine x_opp rfl rfl ?_ | refine x_go rfl ?_)
          refine m_callV v1 (v2 _ _ _).2.2.1 rfl rfl (e_up (by omega : d + 2 * lA1 (E l) + 6 ≤ d + 2 * l + 5) (ih _ a1 (by omega) hd d k _ (B + 1) _ _ hs1 ct.2.2.2 (by rw [ct.2.2.1]; exact h5) (fun r0 M' ct2 => ?_) (fun r0 M' w hw cf => ?_)))
          · rw [if_pos r0] at hS hF
            have ct3 := cft_tr ct ct2
            have hs2 := cLs_cft ct3 hs
            have hw2 := (askF_val hE _ (by omega) 2 k.toInt64 r0).2.2 rfl
            generalize hr : askF E (lA1 (E l)) 2 k.toInt64 = r at r0 ct2 ct3 hw2 hS hF ⊢
            by_cases v0 : r.2.2 = 0
            · have c1 : ¬ ((2 : Nat) ≠ 1 ∧ ((2 : Nat) = 3 ∨ r.2.2 ≠ 0)) := fun h => by
                rcases h.2 with h | h
                · cases h
                · exact h v0
              rw [if_neg c1] at hS hF
              have fin := hS rfl M' ct3
              dsimp only at fin
              rw [v0] at fin
              repeat (first | refine x_kcg rfl ?_ | refine x_opp rfl rfl ?_ | refine x_go rfl ?_)
              refine x_ifc br_leq (fun _ => ?_) (fun h => absurd v0 h)
              repeat (first | refine x_kcg rfl ?_ | refine x_opp rfl rfl ?_ | refine x_go rfl ?_)
              exact x_lret fin
            · have c1 : ((2 : Nat) ≠ 1 ∧ ((2 : Nat) = 3 ∨ r.2.2 ≠ 0)) := ⟨by decide, Or.inr v0⟩
              rw [if_pos c1] at hS hF
              simp only [if_true] at hS hF
              have h5b : M'.1 1 5 = 0 := by rw [ct3.2.2.1]; exact h5
              have hmet : zz (decide (M'.1 1 5 ≠ 0)) = 0 := by rw [decide_eq_false (by rw [h5b]; exact fun h => h rfl)]; rfl
              have e4 : M'.1 (P l) 4 = nI (lA2 (E l)) := by rw [ct3.2.1 (P l) (by omega) (by omega)]; exact s2b
              have eapp : ∀ cs, trc (B, f) (42 :: (r.1 ++ cs)) = trc (trc (B + 1, upd f (B % 100) (nI 42)) r.1) cs := fun cs => by rw [trc_cons, trc_app]
              have z := z10
              have zz0 := z00
              have o1 : ∀ Q', (∀ M2 x, (x = 0 ∨ x = 1) → ((askF E (lA2 (E l)) 0 r.2.2).2.1 = 0 → cft M M2 (trc (B, f) (42 :: (r.1 ++ (askF E (lA2 (E l)) 0 r.2.2).1))) ∧ x = (askF E (lA2 (E l)) 0 r.2.2).2.2.toInt32) → ((askF E (lA2 (E l)) 0 r.2.2).2.1 ≠ 0 → cff M M2 (trc (B, f) (42 :: (r.1 ++ (askF E (lA2 (E l)) 0 r.2.2).1))) (askF E (lA2 (E l)) 0 r.2.2).2.1) → Q' (some (.int x)) (wm (sh0 ++ dy) M2)) → sm_E L xs (d + 2 * l + 5) 57 [.ref (P l), .long r.2.2] (wm (sh0 ++ dy) M') Q' := by
                intro Q' hQ'
                refine e_intro rfl rfl ?_
                repeat (first | refine x_kcg rfl ?_ | refine x_opp rfl rfl ?_ | refine x_go rfl ?_ | refine m_getg s1 rfl rfl rfl ?_)
                rw [e4]
                refine m_callV (s_4 dy) rfl rfl rfl (c_want hE (by omega : lA2 (E l) < n) hs2 (fun hd2 => ?_) (fun hd2 => ?_))
                · obtain ⟨-, sb, -⟩ := hs2.2 (lA2 (E l)) (by omega)
                  obtain ⟨s', v1', v2'⟩ := cSh_v sb
                  repeat (first | refine x_kcg rfl ?_ | refine x_opp rfl rfl ?_ | refine x_go rfl ?_)
                  refine x_ifnullR ?_
                  repeat (first | refine x_kcg rfl ?_ | refine x_opp rfl rfl ?_ | refine x_go rfl ?_)
                  refine m_callV v1' (v2' _ _ _).1 rfl rfl (e_up (by omega : d + 2 * lA2 (E l) + 6 ≤ d + 2 * l + 4) (c_allows hE _ (by omega) hd2 d r.2.2 _ _ _ _ hw2 hs2 ct3.2.2.2 h5b (fun r1 M2 ct4 => ?_) (fun r1 M2 x hx cf => ?_)))
                  · obtain ⟨u1, u2⟩ := i01 _ ((askF_val hE _ (by omega) 0 r.2.2 r1).1 rfl)
                    have fin := hQ' M2 _ u2 (fun _ => ⟨by rw [eapp]; exact cft_tr ct3 ct4, rfl⟩) (fun h => absurd r1 h)
                    rcases u2 with u2 | u2
                    · rw [u2] at fin ⊢
                      repeat' (first | refine x_kcg rfl ?_ | refine x_incg rfl rfl ?_ | refine x_opp rfl rfl ?_ | refine x_go rfl ?_ | (refine a_at isIf rfl ?_; first | (refine a_ifT rfl rfl br_eqz (by assumption) ?_) | (refine a_ifF rfl rfl br_eqz (by assumption) ?_) | (refine a_ifT rfl rfl br_nez (by assumption) ?_) | (refine a_ifF rfl rfl br_nez (by assumption) ?_) | (refine a_ifT rfl rfl br_eqz (nt_f (by assumption)) ?_) | (refine a_ifF rfl rfl br_eqz (tnf (by assumption)) ?_) | (refine a_ifF rfl rfl br_nez (fnt (by assumption)) ?_) | (refine a_if rfl rfl br_eqz (fun _ => ?_) (fun _ => ?_)) | (refine a_if rfl rfl br_nez (fun _ => ?_) (fun _ => ?_)) | (refine a_ifF rfl rfl br_ne (fun h => h (by assumption)) ?_) | (refine a_ifT rfl rfl br_eq (by assumption) ?_) | (refine a_ifF rfl rfl br_eq (by assumption) ?_) | (refine a_ifT rfl rfl br_ne (by assumption) ?_) | (refine a_ifF rfl rfl br_ne (by assumption) ?_) | (refine a_ifT rfl rfl br_lt (by assumption) ?_) | (refine a_ifF rfl rfl br_lt (by assumption) ?_) | (refine a_ifT rfl rfl br_ge (by assumption) ?_) | (refine a_ifF rfl rfl br_ge (by assumption) ?_) | (refine a_ifT rfl rfl br_gt (by assumption) ?_) | (refine a_ifF rfl rfl br_gt (by assumption) ?_) | (refine a_ifT rfl rfl br_le (by assumption) ?_) | (refine a_ifF rfl rfl br_le (by assumption) ?_) | (refine a_if rfl rfl br_eq (fun _ => ?_) (fun _ => ?_)) | (refine a_if rfl rfl br_ne (fun _ => ?_) (fun _ => ?_)) | (refine a_if rfl rfl br_lt (fun _ => ?_) (fun _ => ?_)) | (refine a_if rfl rfl br_ge (fun _ => ?_) (fun _ => ?_)) | (refine a_if rfl rfl br_gt (fun _ => ?_) (fun _ => ?_)) | (refine a_if rfl rfl br_le (fun _ => ?_) (fun _ => ?_))) | (refine a_at isIc rfl ?_; first | (refine a_icF rfl rfl br_ne (fun h => h (by assumption)) ?_) | (refine a_icT rfl rfl br_eq (by assumption) ?_) | (refine a_icF rfl rfl br_eq (by assumption) ?_) | (refine a_icT rfl rfl br_ne (by assumption) ?_) | (refine a_icF rfl rfl br_ne (by assumption) ?_) | (refine a_icT rfl rfl br_lt (by assumption) ?_) | (refine a_icF rfl rfl br_lt (by assumption) ?_) | (refine a_icT rfl rfl br_ge (by assumption) ?_) | (refine a_icF rfl rfl br_ge (by assumption) ?_) | (refine a_icT rfl rfl br_gt (by assumption) ?_) | (refine a_icF rfl rfl br_gt (by assumption) ?_) | (refine a_icT rfl rfl br_le (by assumption) ?_) | (refine a_icF rfl rfl br_le (by assumption) ?_) | (refine a_ic rfl rfl br_eq (fun _ => ?_) (fun _ => ?_)) | (refine a_ic rfl rfl br_ne (fun _ => ?_) (fun _ => ?_)) | (refine a_ic rfl rfl br_lt (fun _ => ?_) (fun _ => ?_)) | (refine a_ic rfl rfl br_ge (fun _ => ?_) (fun _ => ?_)) | (refine a_ic rfl rfl br_gt (fun _ => ?_) (fun _ => ?_)) | (refine a_ic rfl rfl br_le (fun _ => ?_) (fun _ => ?_))) | (refine a_at isRt rfl ?_; first | refine a_iret rfl rfl rfl ?_ | refine a_zret rfl rfl ?_ ?_ | refine a_lret rfl rfl ?_ | refine a_ret rfl rfl ?_))
                      · exact Or.inl rfl
                      · exact fin
                    · rw [u2] at fin ⊢
                      repeat' (first | refine x_kcg rfl ?_ | refine x_incg rfl rfl ?_ | refine x_opp rfl rfl ?_ | refine x_go rfl ?_ | (refine a_at isIf rfl ?_; first | (refine a_ifT rfl rfl br_eqz (by assumption) ?_) | (refine a_ifF rfl rfl br_eqz (by assumption) ?_) | (refine a_ifT rfl rfl br_nez (by assumption) ?_) | (refine a_ifF rfl rfl br_nez (by assumption) ?_) | (refine a_ifT rfl rfl br_eqz (nt_f (by assumption)) ?_) | (refine a_ifF rfl rfl br_eqz (tnf (by assumption)) ?_) | (refine a_ifF rfl rfl br_nez (fnt (by assumption)) ?_) | (refine a_if rfl rfl br_eqz (fun _ => ?_) (fun _ => ?_)) | (refine a_if rfl rfl br_nez (fun _ => ?_) (fun _ => ?_)) | (refine a_ifF rfl rfl br_ne (fun h => h (by assumption)) ?_) | (refine a_ifT rfl rfl br_eq (by assumption) ?_) | (refine a_ifF rfl rfl br_eq (by assumption) ?_) | (refine a_ifT rfl rfl br_ne (by assumption) ?_) | (refine a_ifF rfl rfl br_ne (by assumption) ?_) | (refine a_ifT rfl rfl br_lt (by assumption) ?_) | (refine a_ifF rfl rfl br_lt (by assumption) ?_) | (refine a_ifT rfl rfl br_ge (by assumption) ?_) | (refine a_ifF rfl rfl br_ge (by assumption) ?_) | (refine a_ifT rfl rfl br_gt (by assumption) ?_) | (refine a_ifF rfl rfl br_gt (by assumption) ?_) | (refine a_ifT rfl rfl br_le (by assumption) ?_) | (refine a_ifF rfl rfl br_le (by assumption) ?_) | (refine a_if rfl rfl br_eq (fun _ => ?_) (fun _ => ?_)) | (refine a_if rfl rfl br_ne (fun _ => ?_) (fun _ => ?_)) | (refine a_if rfl rfl br_lt (fun _ => ?_) (fun _ => ?_)) | (refine a_if rfl rfl br_ge (fun _ => ?_) (fun _ => ?_)) | (refine a_if rfl rfl br_gt (fun _ => ?_) (fun _ => ?_)) | (refine a_if rfl rfl br_le (fun _ => ?_) (fun _ => ?_))) | (refine a_at isIc rfl ?_; first | (refine a_icF rfl rfl br_ne (fun h => h (by assumption)) ?_) | (refine a_icT rfl rfl br_eq (by assumption) ?_) | (refine a_icF rfl rfl br_eq (by assumption) ?_) | (refine a_icT rfl rfl br_ne (by assumption) ?_) | (refine a_icF rfl rfl br_ne (by assumption) ?_) | (refine a_icT rfl rfl br_lt (by assumption) ?_) | (refine a_icF rfl rfl br_lt (by assumption) ?_) | (refine a_icT rfl rfl br_ge (by assumption) ?_) | (refine a_icF rfl rfl br_ge (by assumption) ?_) | (refine a_icT rfl rfl br_gt (by assumption) ?_) | (refine a_icF rfl rfl br_gt (by assumption) ?_) | (refine a_icT rfl rfl br_le (by assumption) ?_) | (refine a_icF rfl rfl br_le (by assumption) ?_) | (refine a_ic rfl rfl br_eq (fun _ => ?_) (fun _ => ?_)) | (refine a_ic rfl rfl br_ne (fun _ => ?_) (fun _ => ?_)) | (refine a_ic rfl rfl br_lt (fun _ => ?_) (fun _ => ?_)) | (refine a_ic rfl rfl br_ge (fun _ => ?_) (fun _ => ?_)) | (refine a_ic rfl rfl br_gt (fun _ => ?_) (fun _ => ?_)) | (refine a_ic rfl rfl br_le (fun _ => ?_) (fun _ => ?_))) | (refine a_at isRt rfl ?_; first | refine a_iret rfl rfl rfl ?_ | refine a_zret rfl rfl ?_ ?_ | refine a_lret rfl rfl ?_ | refine a_ret rfl rfl ?_))
                      · exact Or.inr rfl
                      · exact fin
                  · have fin := hQ' M2 x hx (fun h => absurd h r1) (fun _ => by rw [eapp]; exact cft_ff ct3 cf)
                    rcases hx with rfl | rfl
                    · repeat' (first | refine x_kcg rfl ?_ | refine x_incg rfl rfl ?_ | refine x_opp rfl rfl ?_ | refine x_go rfl ?_ | (refine a_at isIf rfl ?_; first | (refine a_ifT rfl rfl br_eqz (by assumption) ?_) | (refine a_ifF rfl rfl br_eqz (by assumption) ?_) | (refine a_ifT rfl rfl br_nez (by assumption) ?_) | (refine a_ifF rfl rfl br_nez (by assumption) ?_) | (refine a_ifT rfl rfl br_eqz (nt_f (by assumption)) ?_) | (refine a_ifF rfl rfl br_eqz (tnf (by assumption)) ?_) | (refine a_ifF rfl rfl br_nez (fnt (by assumption)) ?_) | (refine a_if rfl rfl br_eqz (fun _ => ?_) (fun _ => ?_)) | (refine a_if rfl rfl br_nez (fun _ => ?_) (fun _ => ?_)) | (refine a_ifF rfl rfl br_ne (fun h => h (by assumption)) ?_) | (refine a_ifT rfl rfl br_eq (by assumption) ?_) | (refine a_ifF rfl rfl br_eq (by assumption) ?_) | (refine a_ifT rfl rfl br_ne (by assumption) ?_) | (refine a_ifF rfl rfl br_ne (by assumption) ?_) | (refine a_ifT rfl rfl br_lt (by assumption) ?_) | (refine a_ifF rfl rfl br_lt (by assumption) ?_) | (refine a_ifT rfl rfl br_ge (by assumption) ?_) | (refine a_ifF rfl rfl br_ge (by assumption) ?_) | (refine a_ifT rfl rfl br_gt (by assumption) ?_) | (refine a_ifF rfl rfl br_gt (by assumption) ?_) | (refine a_ifT rfl rfl br_le (by assumption) ?_) | (refine a_ifF rfl rfl br_le (by assumption) ?_) | (refine a_if rfl rfl br_eq (fun _ => ?_) (fun _ => ?_)) | (refine a_if rfl rfl br_ne (fun _ => ?_) (fun _ => ?_)) | (refine a_if rfl rfl br_lt (fun _ => ?_) (fun _ => ?_)) | (refine a_if rfl rfl br_ge (fun _ => ?_) (fun _ => ?_)) | (refine a_if rfl rfl br_gt (fun _ => ?_) (fun _ => ?_)) | (refine a_if rfl rfl br_le (fun _ => ?_) (fun _ => ?_))) | (refine a_at isIc rfl ?_; first | (refine a_icF rfl rfl br_ne (fun h => h (by assumption)) ?_) | (refine a_icT rfl rfl br_eq (by assumption) ?_) | (refine a_icF rfl rfl br_eq (by assumption) ?_) | (refine a_icT rfl rfl br_ne (by assumption) ?_) | (refine a_icF rfl rfl br_ne (by assumption) ?_) | (refine a_icT rfl rfl br_lt (by assumption) ?_) | (refine a_icF rfl rfl br_lt (by assumption) ?_) | (refine a_icT rfl rfl br_ge (by assumption) ?_) | (refine a_icF rfl rfl br_ge (by assumption) ?_) | (refine a_icT rfl rfl br_gt (by assumption) ?_) | (refine a_icF rfl rfl br_gt (by assumption) ?_) | (refine a_icT rfl rfl br_le (by assumption) ?_) | (refine a_icF rfl rfl br_le (by assumption) ?_) | (refine a_ic rfl rfl br_eq (fun _ => ?_) (fun _ => ?_)) | (refine a_ic rfl rfl br_ne (fun _ => ?_) (fun _ => ?_)) | (refine a_ic rfl rfl br_lt (fun _ => ?_) (fun _ => ?_)) | (refine a_ic rfl rfl br_ge (fun _ => ?_) (fun _ => ?_)) | (refine a_ic rfl rfl br_gt (fun _ => ?_) (fun _ => ?_)) | (refine a_ic rfl rfl br_le (fun _ => ?_) (fun _ => ?_))) | (refine a_at isRt rfl ?_; first | refine a_iret rfl rfl rfl ?_ | refine a_zret rfl rfl ?_ ?_ | refine a_lret rfl rfl ?_ | refine a_ret rfl rfl ?_))
                      · exact Or.inl rfl
                      · exact fin
                    · repeat' (first | refine x_kcg rfl ?_ | refine x_incg rfl rfl ?_ | refine x_opp rfl rfl ?_ | refine x_go rfl ?_ | (refine a_at isIf rfl ?_; first | (refine a_ifT rfl rfl br_eqz (by assumption) ?_) | (refine a_ifF rfl rfl br_eqz (by assumption) ?_) | (refine a_ifT rfl rfl br_nez (by assumption) ?_) | (refine a_ifF rfl rfl br_nez (by assumption) ?_) | (refine a_ifT rfl rfl br_eqz (nt_f (by assumption)) ?_) | (refine a_ifF rfl rfl br_eqz (tnf (by assumption)) ?_) | (refine a_ifF rfl rfl br_nez (fnt (by assumption)) ?_) | (refine a_if rfl rfl br_eqz (fun _ => ?_) (fun _ => ?_)) | (refine a_if rfl rfl br_nez (fun _ => ?_) (fun _ => ?_)) | (refine a_ifF rfl rfl br_ne (fun h => h (by assumption)) ?_) | (refine a_ifT rfl rfl br_eq (by assumption) ?_) | (refine a_ifF rfl rfl br_eq (by assumption) ?_) | (refine a_ifT rfl rfl br_ne (by assumption) ?_) | (refine a_ifF rfl rfl br_ne (by assumption) ?_) | (refine a_ifT rfl rfl br_lt (by assumption) ?_) | (refine a_ifF rfl rfl br_lt (by assumption) ?_) | (refine a_ifT rfl rfl br_ge (by assumption) ?_) | (refine a_ifF rfl rfl br_ge (by assumption) ?_) | (refine a_ifT rfl rfl br_gt (by assumption) ?_) | (refine a_ifF rfl rfl br_gt (by assumption) ?_) | (refine a_ifT rfl rfl br_le (by assumption) ?_) | (refine a_ifF rfl rfl br_le (by assumption) ?_) | (refine a_if rfl rfl br_eq (fun _ => ?_) (fun _ => ?_)) | (refine a_if rfl rfl br_ne (fun _ => ?_) (fun _ => ?_)) | (refine a_if rfl rfl br_lt (fun _ => ?_) (fun _ => ?_)) | (refine a_if rfl rfl br_ge (fun _ => ?_) (fun _ => ?_)) | (refine a_if rfl rfl br_gt (fun _ => ?_) (fun _ => ?_)) | (refine a_if rfl rfl br_le (fun _ => ?_) (fun _ => ?_))) | (refine a_at isIc rfl ?_; first | (refine a_icF rfl rfl br_ne (fun h => h (by assumption)) ?_) | (refine a_icT rfl rfl br_eq (by assumption) ?_) | (refine a_icF rfl rfl br_eq (by assumption) ?_) | (refine a_icT rfl rfl br_ne (by assumption) ?_) | (refine a_icF rfl rfl br_ne (by assumption) ?_) | (refine a_icT rfl rfl br_lt (by assumption) ?_) | (refine a_icF rfl rfl br_lt (by assumption) ?_) | (refine a_icT rfl rfl br_ge (by assumption) ?_) | (refine a_icF rfl rfl br_ge (by assumption) ?_) | (refine a_icT rfl rfl br_gt (by assumption) ?_) | (refine a_icF rfl rfl br_gt (by assumption) ?_) | (refine a_icT rfl rfl br_le (by assumption) ?_) | (refine a_icF rfl rfl br_le (by assumption) ?_) | (refine a_ic rfl rfl br_eq (fun _ => ?_) (fun _ => ?_)) | (refine a_ic rfl rfl br_ne (fun _ => ?_) (fun _ => ?_)) | (refine a_ic rfl rfl br_lt (fun _ => ?_) (fun _ => ?_)) | (refine a_ic rfl rfl br_ge (fun _ => ?_) (fun _ => ?_)) | (refine a_ic rfl rfl br_gt (fun _ => ?_) (fun _ => ?_)) | (refine a_ic rfl rfl br_le (fun _ => ?_) (fun _ => ?_))) | (refine a_at isRt rfl ?_; first | refine a_iret rfl rfl rfl ?_ | refine a_zret rfl rfl ?_ ?_ | refine a_lret rfl rfl ?_ | refine a_ret rfl rfl ?_))
                      · exact Or.inr rfl
                      · exact fin
                · have r1 : (askF E (lA2 (E l)) 0 r.2.2) = ([], 1, 0) := askF_dr hE (by omega) hd2 0 _
                  have fin := hQ' _ 0 (Or.inl rfl) (fun h => by rw [r1] at h; cases h) (fun _ => by rw [r1, eapp]; exact cff_n ct3)
                  repeat (first | refine x_kcg rfl ?_ | refine x_opp rfl rfl ?_ | refine x_go rfl ?_)
                  refine x_ifnullN ?_
                  repeat (first | refine x_kcg rfl ?_ | refine x_opp rfl rfl ?_ | refine x_go rfl ?_)
                  exact x_zret (Or.inl rfl) fin
              repeat (first | refine x_kcg rfl ?_ | refine x_opp rfl rfl ?_ | refine x_go rfl ?_)
              refine x_ifc br_leq (fun h => absurd h v0) (fun _ => ?_)
              repeat (first | refine x_kcg rfl ?_ | refine x_opp rfl rfl ?_ | refine x_go rfl ?_ | refine m_getg s1 rfl rfl rfl ?_)
              refine m_callV (s_1 dy) rfl rfl rfl (c_met (s_1 dy) ?_)
              rw [hmet]
              refine x_ifc br_ne (fun h => absurd rfl h) (fun _ => ?_)
              repeat (first | refine x_kcg rfl ?_ | refine x_opp rfl rfl ?_ | refine x_go rfl ?_)
              refine m_callV s1 rfl rfl rfl (o1 _ (fun M2 x hx q1 q2 => ?_))
              by_cases r1 : (askF E (lA2 (E l)) 0 r.2.2).2.1 = 0
              · rw [if_pos r1] at hS
                obtain ⟨q3, q4⟩ := q1 r1
                have fin := hS rfl M2 q3
                obtain ⟨u1, u2⟩ := i01 _ ((askF_val hE _ (by omega) 0 r.2.2 r1).1 rfl)
                dsimp only at fin
                unfold askJ at fin
                rw [if_neg (by decide), if_neg (by decide)] at fin
                rw [q4]
                by_cases y0 : (askF E (lA2 (E l)) 0 r.2.2).2.2 = 0
                · rw [if_pos y0] at fin
                  rw [u1.mpr y0]
                  refine x_ifc br_eq (fun _ => ?_) (fun h => absurd rfl h)
                  repeat (first | refine x_kcg rfl ?_ | refine x_opp rfl rfl ?_ | refine x_go rfl ?_)
                  exact x_lret fin
                · rw [if_neg y0] at fin
                  rw [u2.resolve_left (fun h => y0 (u1.mp h))]
                  refine x_ifc br_eq (fun h => absurd h z10) (fun _ => ?_)
                  repeat (first | refine x_kcg rfl ?_ | refine x_opp rfl rfl ?_ | refine x_go rfl ?_)
                  exact x_lret fin
              · rw [if_neg r1] at hF
                have fin := fun w hw => hF r1 M2 w hw (q2 r1)
                rcases hx with rfl | rfl
                · refine x_ifc br_eq (fun _ => ?_) (fun h => absurd rfl h)
                  repeat (first | refine x_kcg rfl ?_ | refine x_opp rfl rfl ?_ | refine x_go rfl ?_)
                  exact x_lret (fin 0 wdP_0)
                · refine x_ifc br_eq (fun h => absurd h z10) (fun _ => ?_)
                  repeat (first | refine x_kcg rfl ?_ | refine x_opp rfl rfl ?_ | refine x_go rfl ?_)
                  exact x_lret (fin _ hw2)
          · rw [if_neg r0] at hF
            have fin := hF r0 M' 0 wdP_0 (cft_ff ct cf)
            by_cases v0 : w = 0
            · repeat (first | refine x_kcg rfl ?_ | refine x_opp rfl rfl ?_ | refine x_go rfl ?_)
              refine x_ifc br_leq (fun _ => ?_) (fun h => absurd v0 h)
              repeat (first | refine x_kcg rfl ?_ | refine x_opp rfl rfl ?_ | refine x_go rfl ?_)
              exact x_lret fin
            · have hne : M'.1 1 5 ≠ 0 := by
                rw [cf.2.2.1]
                intro e
                have := askF_f hE (lA1 (E l)) (by omega) 2 k.toInt64
                exact r0 ((nI_eq (b := 0) (by omega) (by decide)).mp e)
              have hmet : zz (decide (M'.1 1 5 ≠ 0)) = 1 := by rw [decide_eq_true hne]; rfl
              repeat (first | refine x_kcg rfl ?_ | refine x_opp rfl rfl ?_ | refine x_go rfl ?_)
              refine x_ifc br_leq (fun h => absurd h v0) (fun _ => ?_)
              repeat (first | refine x_kcg rfl ?_ | refine x_opp rfl rfl ?_ | refine x_go rfl ?_ | refine m_getg s1 rfl rfl rfl ?_)
              refine m_callV (s_1 dy) rfl rfl rfl (c_met (s_1 dy) ?_)
              rw [hmet]
              refine x_ifc br_ne (fun _ => ?_) (fun h => absurd z10 h)
              repeat (first | refine x_kcg rfl ?_ | refine x_opp rfl rfl ?_ | refine x_go rfl ?_)
              exact x_lret fin
        · have r0 : (askF E (lA1 (E l)) 2 k.toInt64) = ([], 1, 0) := askF_dr hE (by omega) hd 2 _
          rw [r0, if_neg (by decide)] at hF
          have fin := hF (by decide) _ 0 wdP_0 (cff_n ct)
          have v0 : (0 : Int64) = 0 := rfl
          repeat (first | refine x_kcg rfl ?_ | refine x_opp rfl rfl ?_ | refine x_go rfl ?_)
          refine x_ifnonN ?_
          repeat (first | refine x_kcg rfl ?_ | refine x_opp rfl rfl ?_ | refine x_go rfl ?_)
          refine x_ifc br_leq (fun _ => ?_) (fun h => absurd v0 h)
          repeat (first | refine x_kcg rfl ?_ | refine x_opp rfl rfl ?_ | refine x_go rfl ?_)
          exact x_lret fin
end CQ
