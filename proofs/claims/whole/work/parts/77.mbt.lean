/-! the reference begins a searching: candidates, order -/
def mAll (M : mm_T) (q : Nat) (acc : List (List wsT)) : Prop := ∀ e, e < acc.length → (acc.getD e []).length ≤ 40 ∧ M.1 101 (48 * q + e) = nI (acc.getD e []).length ∧ ∀ j, j < (acc.getD e []).length → M.2.1 99 (40 * (48 * q + e) + j) = ((acc.getD e []).getD j (0, 0)).1
def fC (M M' : mm_T) : Prop := (∀ a, a ≠ 65 → a ≠ 85 → (a < 86 ∨ 89 < a) → a ≠ 100 → a ≠ 101 → M'.1 a = M.1 a) ∧ (∀ f, f ≠ 22 → f ≠ 24 → f ≠ 31 → M'.1 65 f = M.1 65 f) ∧ ∀ a, a ≠ 65 → a ≠ 88 → a ≠ 90 → a ≠ 99 → M'.2.1 a = M.2.1 a
theorem fC_f {M M1 M2 : mm_T} {x : Nat} (h : fC M M1) (f : fF M1 M2 x) : fC M M2 := ⟨fun a y1 y2 y3 y4 y5 => (f.2.1 a y1 y2 y3 y4 y5).trans (h.1 a y1 y2 y3 y4 y5), fun g y1 y2 y3 => (f.2.2.1 g y1 y2 y3).trans (h.2.1 g y1 y2 y3), fun a y1 y2 y3 y4 => (f.2.2.2.2.1 a y1 y2 y3 y4).trans (h.2.2 a y1 y2 y3 y4)⟩
theorem fC_tab {M M1 : mm_T} {es : List eT} (h : fC M M1) (t : mTab M es) : mTab M1 es := by
  unfold mTab
  rw [h.2.1 32 (by decide) (by decide) (by decide), h.1 91 (by decide) (by decide) (by decide) (by decide) (by decide), h.1 92 (by decide) (by decide) (by decide) (by decide) (by decide), h.1 93 (by decide) (by decide) (by decide) (by decide) (by decide), h.1 94 (by decide) (by decide) (by decide) (by decide) (by decide), h.1 95 (by decide) (by decide) (by decide) (by decide) (by decide)]
  exact t
theorem fC_ls {M M1 : mm_T} {E : Nat → lT} {n : Nat} (h : fC M M1) (hl : mLs M E n) : mLs M1 E n := by
  obtain ⟨a2, -, a4⟩ := h
  unfold mLs
  rw [a2 75 (by decide) (by decide) (by decide) (by decide) (by decide), a2 76 (by decide) (by decide) (by decide) (by decide) (by decide), a2 77 (by decide) (by decide) (by decide) (by decide) (by decide), a4 78 (by decide) (by decide) (by decide) (by decide), a2 80 (by decide) (by decide) (by decide) (by decide) (by decide), a2 81 (by decide) (by decide) (by decide) (by decide) (by decide), a4 82 (by decide) (by decide) (by decide) (by decide), a2 83 (by decide) (by decide) (by decide) (by decide) (by decide)]
  exact hl
section MBT
variable {L : Nat} {xs : Nat → Int32} {d : Nat} {dy : List sh_T} {M : mm_T} {Q : Option Value → sm_W → Prop} {q G : Nat} {E : Nat → lT} {n : Nat}
set_option maxRecDepth 4000 in
theorem l_bsC {M0 : mm_T} {es : List eT} {al dl : Option Nat} {v : Nat → Nat → Nat} (hq1 : q ≤ 1) (hG : G < 4) (hE : lOK E n) (hal : ∀ k, al = some k → k < n) (hdl : ∀ k, dl = some k → k < n) (h73 : M0.1 73 G = loI al) (h74 : M0.1 74 G = loI dl) (hL : mLs M0 E n) (h42 : es.length ≤ 42) (hoks : ∀ e, e ∈ es → eOK e) (t0 : mTab M0 es) (h108 : ∀ e, e < es.length → M0.1 108 (48 * q + e) = nI (eAt es e).2.2.1) (h107 : ∀ e i, e < es.length → i < (eAt es e).2.2.1 → M0.1 107 (7 * (48 * q + e) + i) = nI (mPl (eAt es e) i)) (hv : ∀ e i, e < es.length → i < (eAt es e).2.2.1 → M0.1 106 (49 * q + mPl (eAt es e) i) = nI (v e i) ∧ v e i < 32) :
    ∀ r e acc M1 s, e + r = es.length → bF M M1 q → fC M0 M1 → acc.length = e → mAll M1 q acc → mTr M1 s → s.1 + (gR E (fun e => if (eAt es e).2.1 = true then dl else al) v (fun e => (eAt es e).2.2.1) r e acc).1.length + 2 < 2 ^ 31 →
      ((gR E (fun e => if (eAt es e).2.1 = true then dl else al) v (fun e => (eAt es e).2.2.1) r e acc).2.1 = 0 → ∀ M', bF M M' q → fC M0 M' → (gR E (fun e => if (eAt es e).2.1 = true then dl else al) v (fun e => (eAt es e).2.2.1) r e acc).2.2.length = es.length → mAll M' q (gR E (fun e => if (eAt es e).2.1 = true then dl else al) v (fun e => (eAt es e).2.2.1) r e acc).2.2 → mTr M' (trc s (gR E (fun e => if (eAt es e).2.1 = true then dl else al) v (fun e => (eAt es e).2.2.1) r e acc).1) → sm_X L xs (d + 5) 194 17 (sm_code 194 17) [(0, .ref 65), (1, .int (nI q)), (2, .int (nI G)), (3, .int (nI (lsL (gR E (fun e => if (eAt es e).2.1 = true then dl else al) v (fun e => (eAt es e).2.2.1) r e acc).2.2)))] [] (wm (sh0 ++ dy) M') Q) →
      ((gR E (fun e => if (eAt es e).2.1 = true then dl else al) v (fun e => (eAt es e).2.2.1) r e acc).2.1 ≠ 0 → ∀ M', bF M M' q → fC M0 M' → mTr M' (trc s (gR E (fun e => if (eAt es e).2.1 = true then dl else al) v (fun e => (eAt es e).2.2.1) r e acc).1) → M'.1 65 31 = nI (gR E (fun e => if (eAt es e).2.1 = true then dl else al) v (fun e => (eAt es e).2.2.1) r e acc).2.1 → Q (some (.int 0)) (wm (sh0 ++ dy) M')) →
      sm_X L xs (d + 5) 194 10 (sm_code 194 10) [(0, .ref 65), (1, .int (nI q)), (2, .int (nI G)), (3, .int (nI (lsL acc))), (4, .int (nI e))] [] (wm (sh0 ++ dy) M1) Q := by
  have hm := s_65 dy
  have hn := hE.1
  intro r
  induction r with
  | zero =>
    intro e acc M1 s he f fc ha ca tr hB hS hF
    have he : e = es.length := he
    have fin := hS rfl M1 f fc (by show acc.length = _; omega) ca tr
    repeat (first | refine x_kcg rfl ?_ | refine x_opp rfl rfl ?_ | refine x_go rfl ?_ | refine m_getg hm rfl rfl rfl ?_)
    rw [(fC_tab fc t0).1]
    refine x_icm br_ge (fun _ => ?_) (fun h => absurd (nI_le (by omega) (by omega)) h)
    refine x_lvs [(0, .ref 65), (1, .int (nI q)), (2, .int (nI G)), (3, .int (nI (lsL acc)))] rfl rfl rfl ⟨rfl, rfl, rfl, rfl, trivial⟩ ?_
    exact fin
  | succ r ih =>
    intro e acc M1 s he f fc ha ca tr hB hS hF
    have hlt : e < es.length := by omega
    have t1 := fC_tab fc t0
    obtain ⟨-, -, u3, -, -⟩ := t1.2 e _ (eAt_get hlt)
    have L1 := fC_ls fc hL
    have e108 : ∀ e, e < es.length → M1.1 108 (48 * q + e) = nI (eAt es e).2.2.1 := by rw [fc.1 108 (by decide) (by decide) (by decide) (by decide) (by decide)]; exact h108
    have e107 : ∀ e i, e < es.length → i < (eAt es e).2.2.1 → M1.1 107 (7 * (48 * q + e) + i) = nI (mPl (eAt es e) i) := by rw [fc.1 107 (by decide) (by decide) (by decide) (by decide) (by decide)]; exact h107
    have ev : ∀ i, i < (eAt es e).2.2.1 → M1.1 106 (49 * q + mPl (eAt es e) i) = nI (v e i) ∧ v e i < 32 := fun i hi => by rw [fc.1 106 (by decide) (by decide) (by decide) (by decide) (by decide)]; exact hv e i hlt hi
    have e73 : M1.1 73 G = loI al := by rw [fc.1 73 (by decide) (by decide) (by decide) (by decide) (by decide)]; exact h73
    have e74 : M1.1 74 G = loI dl := by rw [fc.1 74 (by decide) (by decide) (by decide) (by decide) (by decide)]; exact h74
    unfold gR at hB hS hF
    have hlv : ∀ k, (if (eAt es e).2.1 = true then dl else al) = some k → k < n := by
      intro k hk
      cases hb : (eAt es e).2.1 with
      | true => rw [hb] at hk; exact hdl k hk
      | false => rw [hb] at hk; exact hal k hk
    have x1 := g48 q e
    have T14 : sm_X L xs (d + 5) 194 14 (sm_code 194 14) [(0, .ref 65), (1, .int (nI q)), (2, .int (nI G)), (3, .int (nI (lsL acc))), (4, .int (nI e)), (5, .int (nI (48 * q + e)))] [.int (loI (if (eAt es e).2.1 = true then dl else al)), .int (nI (48 * q + e)), .int (nI q), .ref 65] (wm (sh0 ++ dy) M1) Q := by
      generalize hlo : (if (eAt es e).2.1 = true then dl else al) = lo at hlv
      rw [hlo] at hB hS hF
      obtain ⟨B, fr⟩ := s
      cases lo with
      | none =>
        dsimp only at hB hS hF
        refine m_callV hm rfl rfl rfl (k_findNone (d := d) hq1 (by omega) (fun M2 f2 y1 y2 y3 => ?_))
        have fin := hF (by show (1 : Nat) ≠ 0; decide) M2 (bF_f (by omega) f f2) (fC_f fc f2) (by
          unfold mTr
          rw [y1, y2]
          exact tr) y3
        refine x_ifc br_ne (fun h => absurd rfl h) (fun _ => ?_)
        repeat (first | refine x_kcg rfl ?_ | refine x_opp rfl rfl ?_ | refine x_go rfl ?_)
        exact x_zret (Or.inl rfl) fin
      | some ll =>
        dsimp only at hB hS hF
        have hll := hlv ll rfl
        have lenb : B + (gL E ll (v e) (eAt es e).2.2.1).1.length + 2 < 2 ^ 31 := by
          by_cases r0 : (gL E ll (v e) (eAt es e).2.2.1).2.1 ≠ 0
          · rw [if_pos r0] at hB
            exact hB
          · rw [if_neg r0, List.length_append] at hB
            omega
        refine m_callV hm rfl rfl rfl (k_findCand (d := d) (v := v e) hq1 hE hll L1 h42 hlt hoks e108 e107 ev tr lenb (fun r0 M2 f2 c2 tr2 => ?_) (fun r0 M2 f2 tr2 e31 => ?_))
        · rw [if_neg (fun h => h r0)] at hB hS hF
          have glen := gL_len hE hll (v e) (eAt es e).2.2.1
          generalize hgl : gL E ll (v e) (eAt es e).2.2.1 = gl at hB hS hF r0 c2 tr2 glen
          have tl : (trc (B, fr) gl.1).1 = B + gl.1.length := trc_len _ _
          have fin := ih (e + 1) (acc ++ [gl.2.2]) M2 (trc (B, fr) gl.1) (by omega) (bF_f (by omega) f f2) (fC_f fc f2) (by simp; omega) (by
            intro e' he'
            rw [List.length_append] at he'
            rw [getD_app]
            by_cases ge : e' < acc.length
            · rw [if_pos ge]
              obtain ⟨q0, q1, q2⟩ := ca e' ge
              refine ⟨q0, ?_, fun j hj => ?_⟩
              · rw [f2.2.2.2.1 _ (by omega)]
                exact q1
              · rw [(f2.2.2.2.2.2 _ (by omega)).1]
                exact q2 j hj
            · rw [if_neg ge, if_pos (by simp at he'; omega)]
              have ee : e' = e := by simp at he'; omega
              subst ee
              exact ⟨glen, c2.1, fun j hj => (c2.2 j hj).1⟩) tr2 (by rw [List.length_append] at hB; rw [tl]; omega) (fun q0 M' q1 q2 q3 q4 q5 => hS q0 M' q1 q2 q3 q4 (by rw [trc_app]; exact q5)) (fun q0 M' q1 q2 q3 q4 => hF q0 M' q1 q2 (by rw [trc_app]; exact q3) q4)
          rw [lsL_app] at fin
          refine x_ifc br_ne (fun _ => ?_) (fun h => absurd z10 h)
          repeat (first | refine x_kcg rfl ?_ | refine x_opp rfl rfl ?_ | refine x_go rfl ?_ | refine m_getg hm rfl rfl rfl ?_)
          refine m_iald (s_101 dy) (vp_in_nI (by omega) (by decide)) ?_
          rw [nI_clamp (by omega), c2.1]
          repeat (first | refine x_kcg rfl ?_ | refine x_incg rfl rfl ?_ | refine x_opp rfl rfl ?_)
          rw [nI_add]
          refine x_goto ?_
          refine x_lvs [(0, .ref 65), (1, .int (nI q)), (2, .int (nI G)), (3, .int (nI (lsL acc + gl.2.2.length))), (4, .int (nI (e + 1)))] rfl rfl rfl ⟨rfl, rfl, rfl, rfl, rfl, trivial⟩ ?_
          exact fin
        · rw [if_pos r0] at hF
          have fin := hF r0 M2 (bF_f (by omega) f f2) (fC_f fc f2) tr2 e31
          refine x_ifc br_ne (fun h => absurd rfl h) (fun _ => ?_)
          repeat (first | refine x_kcg rfl ?_ | refine x_opp rfl rfl ?_ | refine x_go rfl ?_)
          exact x_zret (Or.inl rfl) fin
    repeat (first | refine x_kcg rfl ?_ | refine x_opp rfl rfl ?_ | refine x_go rfl ?_ | refine m_getg hm rfl rfl rfl ?_)
    rw [t1.1]
    refine x_icm br_ge (fun h => absurd h (nI_ge hlt (by omega))) (fun _ => ?_)
    repeat (first | refine x_kcg rfl ?_ | refine x_opp rfl rfl ?_ | refine x_go rfl ?_ | refine m_getg hm rfl rfl rfl ?_)
    rw [x1]
    repeat (first | refine x_kcg rfl ?_ | refine x_opp rfl rfl ?_ | refine x_go rfl ?_ | refine m_getg hm rfl rfl rfl ?_)
    refine m_bald (s_93 dy) (vp_in_nI (by omega) (by decide)) ?_
    rw [nI_clamp (by omega), u3]
    cases hb : (eAt es e).2.1 with
    | true =>
      rw [hb] at T14
      rw [show (if true = true then dl else al) = dl from rfl, ← e74] at T14
      have g0 : (true : Bool) = true := rfl
      repeat' (first | (refine a_stop 14 rfl ?_; (refine x_lvs [(0, .ref 65), (1, .int (nI q)), (2, .int (nI G)), (3, .int (nI (lsL acc))), (4, .int (nI e)), (5, .int (nI (48 * q + e)))] rfl rfl rfl ⟨rfl, rfl, rfl, rfl, rfl, rfl, trivial⟩ ?_; exact T14)) | refine x_kcg rfl ?_ | refine x_incg rfl rfl ?_ | refine x_opp rfl rfl ?_ | refine x_go rfl ?_ | (refine a_at isGf rfl ?_; first | refine m_getg hm rfl rfl rfl ?_) | (refine a_at isPf rfl ?_; first | refine a_putI hm rfl rfl rfl ?_ | refine a_putL hm rfl rfl rfl ?_) | (refine a_at isAr rfl ?_; first | refine a_ialdN (s_74 dy) (k := G) rfl rfl rfl (by omega) (by decide) ?_ | refine a_baldN (s_74 dy) (k := G) rfl rfl rfl (by omega) (by decide) ?_ | refine a_laldN (s_74 dy) (k := G) rfl rfl rfl (by omega) (by decide) ?_ | refine a_iastN (s_74 dy) (k := G) rfl rfl rfl (by omega) (by decide) ?_ | refine a_lastN (s_74 dy) (k := G) rfl rfl rfl (by omega) (by decide) ?_ | refine a_bastN (s_74 dy) (k := G) rfl rfl rfl (by omega) (by decide) ?_ ?_ | refine a_iald hm rfl rfl ?_ ?_ | refine a_bald hm rfl rfl ?_ ?_ | refine a_lald hm rfl rfl ?_ ?_ | refine a_iast hm rfl rfl ?_ ?_ | refine a_last hm rfl rfl ?_ ?_ | refine a_bast hm rfl rfl ?_ ?_ ?_) | (refine a_at isIf rfl ?_; first | (refine a_ifT rfl rfl br_eqz (by assumption) ?_) | (refine a_ifF rfl rfl br_eqz (by assumption) ?_) | (refine a_ifT rfl rfl br_nez (by assumption) ?_) | (refine a_ifF rfl rfl br_nez (by assumption) ?_) | (refine a_ifT rfl rfl br_eqz (nt_f (by assumption)) ?_) | (refine a_ifF rfl rfl br_eqz (tnf (by assumption)) ?_) | (refine a_ifF rfl rfl br_nez (fnt (by assumption)) ?_) | (refine a_if rfl rfl br_eqz (fun _ => ?_) (fun _ => ?_)) | (refine a_if rfl rfl br_nez (fun _ => ?_) (fun _ => ?_)) | (refine a_ifF rfl rfl br_ne (fun h => h (by assumption)) ?_) | (refine a_ifT rfl rfl br_eq (by assumption) ?_) | (refine a_ifF rfl rfl br_eq (by assumption) ?_) | (refine a_ifT rfl rfl br_ne (by assumption) ?_) | (refine a_ifF rfl rfl br_ne (by assumption) ?_) | (refine a_ifT rfl rfl br_lt (by assumption) ?_) | (refine a_ifF rfl rfl br_lt (by assumption) ?_) | (refine a_ifT rfl rfl br_ge (by assumption) ?_) | (refine a_ifF rfl rfl br_ge (by assumption) ?_) | (refine a_ifT rfl rfl br_gt (by assumption) ?_) | (refine a_ifF rfl rfl br_gt (by assumption) ?_) | (refine a_ifT rfl rfl br_le (by assumption) ?_) | (refine a_ifF rfl rfl br_le (by assumption) ?_) | (refine a_if rfl rfl br_eq (fun _ => ?_) (fun _ => ?_)) | (refine a_if rfl rfl br_ne (fun _ => ?_) (fun _ => ?_)) | (refine a_if rfl rfl br_lt (fun _ => ?_) (fun _ => ?_)) | (refine a_if rfl rfl br_ge (fun _ => ?_) (fun _ => ?_)) | (refine a_if rfl rfl br_gt (fun _ => ?_) (fun _ => ?_)) | (refine a_if rfl rfl br_le (fun _ => ?_) (fun _ => ?_))) | (refine a_at isIc rfl ?_; first | (refine a_icF rfl rfl br_ne (fun h => h (by assumption)) ?_) | (refine a_icT rfl rfl br_eq (by assumption) ?_) | (refine a_icF rfl rfl br_eq (by assumption) ?_) | (refine a_icT rfl rfl br_ne (by assumption) ?_) | (refine a_icF rfl rfl br_ne (by assumption) ?_) | (refine a_icT rfl rfl br_lt (by assumption) ?_) | (refine a_icF rfl rfl br_lt (by assumption) ?_) | (refine a_icT rfl rfl br_ge (by assumption) ?_) | (refine a_icF rfl rfl br_ge (by assumption) ?_) | (refine a_icT rfl rfl br_gt (by assumption) ?_) | (refine a_icF rfl rfl br_gt (by assumption) ?_) | (refine a_icT rfl rfl br_le (by assumption) ?_) | (refine a_icF rfl rfl br_le (by assumption) ?_) | (refine a_ic rfl rfl br_eq (fun _ => ?_) (fun _ => ?_)) | (refine a_ic rfl rfl br_ne (fun _ => ?_) (fun _ => ?_)) | (refine a_ic rfl rfl br_lt (fun _ => ?_) (fun _ => ?_)) | (refine a_ic rfl rfl br_ge (fun _ => ?_) (fun _ => ?_)) | (refine a_ic rfl rfl br_gt (fun _ => ?_) (fun _ => ?_)) | (refine a_ic rfl rfl br_le (fun _ => ?_) (fun _ => ?_))) | (refine a_at isRt rfl ?_; first | refine a_iret rfl rfl rfl ?_ | refine a_zret rfl rfl ?_ ?_ | refine a_lret rfl rfl ?_ | refine a_ret rfl rfl ?_))
    | false =>
      rw [hb] at T14
      rw [show (if false = true then dl else al) = al from rfl, ← e73] at T14
      have g0 : (false : Bool) = false := rfl
      repeat' (first | (refine a_stop 14 rfl ?_; (refine x_lvs [(0, .ref 65), (1, .int (nI q)), (2, .int (nI G)), (3, .int (nI (lsL acc))), (4, .int (nI e)), (5, .int (nI (48 * q + e)))] rfl rfl rfl ⟨rfl, rfl, rfl, rfl, rfl, rfl, trivial⟩ ?_; exact T14)) | refine x_kcg rfl ?_ | refine x_incg rfl rfl ?_ | refine x_opp rfl rfl ?_ | refine x_go rfl ?_ | (refine a_at isGf rfl ?_; first | refine m_getg hm rfl rfl rfl ?_) | (refine a_at isPf rfl ?_; first | refine a_putI hm rfl rfl rfl ?_ | refine a_putL hm rfl rfl rfl ?_) | (refine a_at isAr rfl ?_; first | refine a_ialdN (s_73 dy) (k := G) rfl rfl rfl (by omega) (by decide) ?_ | refine a_baldN (s_73 dy) (k := G) rfl rfl rfl (by omega) (by decide) ?_ | refine a_laldN (s_73 dy) (k := G) rfl rfl rfl (by omega) (by decide) ?_ | refine a_iastN (s_73 dy) (k := G) rfl rfl rfl (by omega) (by decide) ?_ | refine a_lastN (s_73 dy) (k := G) rfl rfl rfl (by omega) (by decide) ?_ | refine a_bastN (s_73 dy) (k := G) rfl rfl rfl (by omega) (by decide) ?_ ?_ | refine a_iald hm rfl rfl ?_ ?_ | refine a_bald hm rfl rfl ?_ ?_ | refine a_lald hm rfl rfl ?_ ?_ | refine a_iast hm rfl rfl ?_ ?_ | refine a_last hm rfl rfl ?_ ?_ | refine a_bast hm rfl rfl ?_ ?_ ?_) | (refine a_at isIf rfl ?_; first | (refine a_ifT rfl rfl br_eqz (by assumption) ?_) | (refine a_ifF rfl rfl br_eqz (by assumption) ?_) | (refine a_ifT rfl rfl br_nez (by assumption) ?_) | (refine a_ifF rfl rfl br_nez (by assumption) ?_) | (refine a_ifT rfl rfl br_eqz (nt_f (by assumption)) ?_) | (refine a_ifF rfl rfl br_eqz (tnf (by assumption)) ?_) | (refine a_ifF rfl rfl br_nez (fnt (by assumption)) ?_) | (refine a_if rfl rfl br_eqz (fun _ => ?_) (fun _ => ?_)) | (refine a_if rfl rfl br_nez (fun _ => ?_) (fun _ => ?_)) | (refine a_ifF rfl rfl br_ne (fun h => h (by assumption)) ?_) | (refine a_ifT rfl rfl br_eq (by assumption) ?_) | (refine a_ifF rfl rfl br_eq (by assumption) ?_) | (refine a_ifT rfl rfl br_ne (by assumption) ?_) | (refine a_ifF rfl rfl br_ne (by assumption) ?_) | (refine a_ifT rfl rfl br_lt (by assumption) ?_) | (refine a_ifF rfl rfl br_lt (by assumption) ?_) | (refine a_ifT rfl rfl br_ge (by assumption) ?_) | (refine a_ifF rfl rfl br_ge (by assumption) ?_) | (refine a_ifT rfl rfl br_gt (by assumption) ?_) | (refine a_ifF rfl rfl br_gt (by assumption) ?_) | (refine a_ifT rfl rfl br_le (by assumption) ?_) | (refine a_ifF rfl rfl br_le (by assumption) ?_) | (refine a_if rfl rfl br_eq (fun _ => ?_) (fun _ => ?_)) | (refine a_if rfl rfl br_ne (fun _ => ?_) (fun _ => ?_)) | (refine a_if rfl rfl br_lt (fun _ => ?_) (fun _ => ?_)) | (refine a_if rfl rfl br_ge (fun _ => ?_) (fun _ => ?_)) | (refine a_if rfl rfl br_gt (fun _ => ?_) (fun _ => ?_)) | (refine a_if rfl rfl br_le (fun _ => ?_) (fun _ => ?_))) | (refine a_at isIc rfl ?_; first | (refine a_icF rfl rfl br_ne (fun h => h (by assumption)) ?_) | (refine a_icT rfl rfl br_eq (by assumption) ?_) | (refine a_icF rfl rfl br_eq (by assumption) ?_) | (refine a_icT rfl rfl br_ne (by assumption) ?_) | (refine a_icF rfl rfl br_ne (by assumption) ?_) | (refine a_icT rfl rfl br_lt (by assumption) ?_) | (refine a_icF rfl rfl br_lt (by assumption) ?_) | (refine a_icT rfl rfl br_ge (by assumption) ?_) | (refine a_icF rfl rfl br_ge (by assumption) ?_) | (refine a_icT rfl rfl br_gt (by assumption) ?_) | (refine a_icF rfl rfl br_gt (by assumption) ?_) | (refine a_icT rfl rfl br_le (by assumption) ?_) | (refine a_icF rfl rfl br_le (by assumption) ?_) | (refine a_ic rfl rfl br_eq (fun _ => ?_) (fun _ => ?_)) | (refine a_ic rfl rfl br_ne (fun _ => ?_) (fun _ => ?_)) | (refine a_ic rfl rfl br_lt (fun _ => ?_) (fun _ => ?_)) | (refine a_ic rfl rfl br_ge (fun _ => ?_) (fun _ => ?_)) | (refine a_ic rfl rfl br_gt (fun _ => ?_) (fun _ => ?_)) | (refine a_ic rfl rfl br_le (fun _ => ?_) (fun _ => ?_))) | (refine a_at isRt rfl ?_; first | refine a_iret rfl rfl rfl ?_ | refine a_zret rfl rfl ?_ ?_ | refine a_lret rfl rfl ?_ | refine a_ret rfl rfl ?_))
end MBT
