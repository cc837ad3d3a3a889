/-! the desk gathers candidates for an entry -/
theorem cLs_fr2 {sh : List sh_T} {M M1 : mm_T} {E : Nat → lT} {P : Nat → Nat} {n : Nat} (h4 : M1.1 4 = M.1 4) (h5 : M1.2.2 = M.2.2) (h1 : ∀ a, 114 ≤ a → M1.1 a = M.1 a ∧ M1.2.1 a = M.2.1 a) (h : cLs sh M E P n) : cLs sh M1 E P n := by
  refine ⟨by rw [h4]; exact h.1, fun l hl => ?_⟩
  obtain ⟨p1, p2, p3, p4⟩ := h.2 l hl
  refine ⟨p1, p2, ?_, by rw [h5]; exact p4⟩
  unfold cMem
  rw [(h1 (P l) p1).1, (h1 (P l + 2) (by omega)).1, (h1 (P l) p1).2, (h1 (P l + 1) (by omega)).2]
  exact p3
/-- what gathering for entry e may change; z: the finding (0: none) -/
def kF (M M' : mm_T) (b e z : Nat) : Prop := (M'.2.2 = M.2.2 ∧ (∀ a, a ≠ 1 → a ≠ 2 → a ≠ 3 → a ≠ b + 7 → a ≠ b + 8 → M'.1 a = M.1 a) ∧ (∀ j, j ≠ e → M'.1 (b + 7) j = M.1 (b + 7) j) ∧ (∀ a, a ≠ b + 6 → M'.2.1 a = M.2.1 a) ∧ ∀ j, (j < 40 * e ∨ 40 * e + 40 ≤ j) → M'.2.1 (b + 6) j = M.2.1 (b + 6) j) ∧ M'.1 1 5 = nI z ∧ M'.1 3 = if z = 0 then M.1 3 else upd (M.1 3) z (M.1 3 z + 1)
theorem kF_ls {dy : List sh_T} {M M1 : mm_T} {E : Nat → lT} {P : Nat → Nat} {n b e z : Nat} (hb : b ≤ 28) (h : kF M M1 b e z) (hl : cLs (sh0 ++ dy) M E P n) : cLs (sh0 ++ dy) M1 E P n := cLs_fr2 (h.1.2.1 4 (by decide) (by decide) (by decide) (by omega) (by omega)) h.1.1 (fun a ha => ⟨h.1.2.1 a (by omega) (by omega) (by omega) (by omega) (by omega), h.1.2.2.2.1 a (by omega)⟩) hl
theorem kF_cft {M M1 M2 : mm_T} {b e : Nat} {s : Nat × (Nat → Int32)} (hb : 13 ≤ b) (h : kF M M1 b e 0) (c : cft M1 M2 s) : kF M M2 b e 0 := by
  obtain ⟨⟨a1, a2, a3, a4, a5⟩, a6, a7⟩ := h
  obtain ⟨c1, c2, c3, c4⟩ := c
  refine ⟨⟨by rw [c1]; exact a1, fun a x y z w v => by rw [c2 a x y]; exact a2 a x y z w v, fun j hj => by rw [c2 (b + 7) (by omega) (by omega)]; exact a3 j hj, fun a x => by rw [c1]; exact a4 a x, fun j hj => by rw [c1]; exact a5 j hj⟩, by rw [c3]; exact a6, by rw [c2 3 (by decide) (by decide)]; exact a7⟩
theorem kF_cff {M M1 M2 : mm_T} {b e k : Nat} {s : Nat × (Nat → Int32)} (hb : 13 ≤ b) (hk : k ≠ 0) (h : kF M M1 b e 0) (c : cff M1 M2 s k) : kF M M2 b e k := by
  obtain ⟨⟨a1, a2, a3, a4, a5⟩, a6, a7⟩ := h
  obtain ⟨c1, c2, c3, c4, c5⟩ := c
  rw [if_pos rfl] at a7
  refine ⟨⟨by rw [c1]; exact a1, fun a x y z w v => by rw [c2 a x y z]; exact a2 a x y z w v, fun j hj => by rw [c2 (b + 7) (by omega) (by omega) (by omega)]; exact a3 j hj, fun a x => by rw [c1]; exact a4 a x, fun j hj => by rw [c1]; exact a5 j hj⟩, c3, by rw [if_neg hk, c5, a7]⟩
theorem kF_add {M M1 M2 : mm_T} {b e z : Nat} (hb : 13 ≤ b) (h : kF M M1 b e z) (c : cCf M1 M2 b e) : kF M M2 b e z := by
  obtain ⟨⟨a1, a2, a3, a4, a5⟩, a6, a7⟩ := h
  obtain ⟨c1, c2, c3, c4, c5⟩ := c
  refine ⟨⟨c1.trans a1, fun a x y z w v => by rw [c2 a w v]; exact a2 a x y z w v, fun j hj => by rw [c3 j hj]; exact a3 j hj, fun a x => by rw [c4 a x]; exact a4 a x, fun j hj => by rw [c5 j hj]; exact a5 j hj⟩, by rw [c2 1 (by omega) (by omega)]; exact a6, by rw [c2 3 (by omega) (by omega)]; exact a7⟩
theorem cTr_add {M1 M2 : mm_T} {b e : Nat} {s : Nat × (Nat → Int32)} (hb : 13 ≤ b) (c : cCf M1 M2 b e) (h : cTr M1 s) : cTr M2 s := by
  unfold cTr
  rw [c.2.1 1 (by omega) (by omega), c.2.1 2 (by omega) (by omega)]
  exact h
section CG
variable {L : Nat} {xs : Nat → Int32} {d : Nat} {dy : List sh_T} {M : mm_T} {Q : Option Value → sm_W → Prop} {b : Nat} {E : Nat → lT} {P : Nat → Nat} {n : Nat}
theorem c_stand3 {sh : List sh_T} {es : List eT} {x : Nat} {v : Nat → Nat} (hs : srSh sh b) (ht : tabIs M (b + 1) (b + 2) (b + 3) (b + 4) (b + 5) es) (h42 : es.length ≤ 42) (hx : x < es.length) (hok : eOK (eAt es x)) (hv : ∀ i, i < (eAt es x).2.2.1 → sg5 (M.1 (b + 10) (mPl (eAt es x) i)) = v i) (hq : Q (some (.long (stF (fun i => nI (v i)) (eAt es x).2.2.1))) (wm sh M)) : sm_E L xs (d + 2) 84 [.ref (b + 1), .int (nI x), .ref (b + 10)] (wm sh M) Q := by
  obtain ⟨s0, s1, -, -, -, -, s10, -⟩ := hs
  have h7 : (eAt es x).2.2.1 ≤ 7 := by
    have := hok.2.2
    split at this <;> omega
  refine c_standing s1 s10 (by omega) (tCell_eq ht hx 0).2 h7 (fun i hi => ?_) ?_
  · rw [(tCell_eq ht hx i).1]
    exact vp_in_nI (mPl_lt hok hi) (by decide)
  · rw [stF_ext (g := fun i => nI (v i)) (fun i hi => ?_)]
    · exact hq
    · have hm := mPl_lt hok hi
      rw [(tCell_eq ht hx i).1, nI_clamp (by omega)]
      obtain ⟨e1, e2⟩ := sg5_eq (M.1 (b + 10) (mPl (eAt es x) i))
      rw [hv i hi] at e1 e2
      rw [e1, (n32_dec _ e2).1]
theorem l_gather {es : List eT} {e l : Nat} {v : Nat → Nat} {n0 : Nat} (hb1 : 13 ≤ b) (hb2 : b ≤ 28) (hs : srSh (sh0 ++ dy) b) (hE : lOK E n) (hl : l < n) (hdr : lDr (E l) = false) (hL : cLs (sh0 ++ dy) M E P n) (ht : tabIs M (b + 1) (b + 2) (b + 3) (b + 4) (b + 5) es) (h42 : es.length ≤ 42) (he : e < es.length) (hok : eOK (eAt es e)) (hv : ∀ i, i < (eAt es e).2.2.1 → v i < 32) (hn0 : n0 ≤ 40) {lv : Int32} :
    ∀ r k acc M1 s, k + r = n0 → kF M M1 b e 0 → cCl M1 b e acc → acc.length ≤ k → cTr M1 s →
      ((gF E l v (eAt es e).2.2.1 r k acc).2.1 = 0 → ∀ M', kF M M' b e 0 → cCl M' b e (gF E l v (eAt es e).2.2.1 r k acc).2.2 → cTr M' (trc s (gF E l v (eAt es e).2.2.1 r k acc).1) → Q (some (.int 1)) (wm (sh0 ++ dy) M')) →
      ((gF E l v (eAt es e).2.2.1 r k acc).2.1 ≠ 0 → ∀ M', kF M M' b e (gF E l v (eAt es e).2.2.1 r k acc).2.1 → cTr M' (trc s (gF E l v (eAt es e).2.2.1 r k acc).1) → Q (some (.int 0)) (wm (sh0 ++ dy) M')) →
      sm_X L xs (d + 2 * l + 7) 91 3 (sm_code 91 3) [(0, .ref b), (1, .int (nI e)), (2, .int lv), (3, .ref (P l)), (4, .int (nI n0)), (5, .long (stF (fun i => nI (v i)) (eAt es e).2.2.1)), (7, .long (mkF (stF (fun i => nI (v i)) (eAt es e).2.2.1) 7)), (9, .int (nI k))] [] (wm (sh0 ++ dy) M1) Q := by
  have hs' := hs
  obtain ⟨s0, s1, s6, s7, s8, -, s10, -⟩ := hs
  have h7 : (eAt es e).2.2.1 ≤ 7 := by
    have := hok.2.2
    split at this <;> omega
  have met0 : ∀ M1 : mm_T, M1.1 1 5 = 0 → zz (decide (M1.1 1 5 ≠ 0)) = 0 := fun M1 h => by rw [decide_eq_false (by rw [h]; exact fun h => h rfl)]; rfl
  have met1 : ∀ M1 : mm_T, M1.1 1 5 ≠ 0 → zz (decide (M1.1 1 5 ≠ 0)) = 1 := fun M1 h => by rw [decide_eq_true h]; rfl
  have bad : ∀ (k : Nat) (M1 : mm_T), M1.1 1 5 ≠ 0 → Q (some (.int 0)) (wm (sh0 ++ dy) M1) → sm_X L xs (d + 2 * l + 7) 91 3 (sm_code 91 3) [(0, .ref b), (1, .int (nI e)), (2, .int lv), (3, .ref (P l)), (4, .int (nI n0)), (5, .long (stF (fun i => nI (v i)) (eAt es e).2.2.1)), (7, .long (mkF (stF (fun i => nI (v i)) (eAt es e).2.2.1) 7)), (9, .int (nI k))] [] (wm (sh0 ++ dy) M1) Q := by
    intro k M1 hne fin
    have hm := met1 M1 hne
    have z := z10
    by_cases g : nI n0 ≤ nI k
    · repeat' (first | refine x_kcg rfl ?_ | refine x_incg rfl rfl ?_ | refine x_opp rfl rfl ?_ | refine x_go rfl ?_ | (refine a_at isGf rfl ?_; first | refine m_getg s0 rfl rfl rfl ?_) | (refine a_at isPf rfl ?_; first | refine a_putI s0 rfl rfl rfl ?_ | refine a_putL s0 rfl rfl rfl ?_) | (refine a_at isIv rfl ?_; first | (refine a_callV (s_1 dy) rfl rfl rfl rfl (c_met (s_1 dy) ?_); rw [hm])) | (refine a_at isAr rfl ?_; first | refine a_iald s0 rfl rfl ?_ ?_ | refine a_bald s0 rfl rfl ?_ ?_ | refine a_lald s0 rfl rfl ?_ ?_ | refine a_iast s0 rfl rfl ?_ ?_ | refine a_last s0 rfl rfl ?_ ?_ | refine a_bast s0 rfl rfl ?_ ?_ ?_) | (refine a_at isIf rfl ?_; first | (refine a_ifT rfl rfl br_eqz (by assumption) ?_) | (refine a_ifF rfl rfl br_eqz (by assumption) ?_) | (refine a_ifT rfl rfl br_nez (by assumption) ?_) | (refine a_ifF rfl rfl br_nez (by assumption) ?_) | (refine a_ifT rfl rfl br_eqz (nt_f (by assumption)) ?_) | (refine a_ifF rfl rfl br_eqz (tnf (by assumption)) ?_) | (refine a_ifF rfl rfl br_nez (fnt (by assumption)) ?_) | (refine a_if rfl rfl br_eqz (fun _ => ?_) (fun _ => ?_)) | (refine a_if rfl rfl br_nez (fun _ => ?_) (fun _ => ?_)) | (refine a_ifF rfl rfl br_ne (fun h => h (by assumption)) ?_) | (refine a_ifT rfl rfl br_eq (by assumption) ?_) | (refine a_ifF rfl rfl br_eq (by assumption) ?_) | (refine a_ifT rfl rfl br_ne (by assumption) ?_) | (refine a_ifF rfl rfl br_ne (by assumption) ?_) | (refine a_ifT rfl rfl br_lt (by assumption) ?_) | (refine a_ifF rfl rfl br_lt (by assumption) ?_) | (refine a_ifT rfl rfl br_ge (by assumption) ?_) | (refine a_ifF rfl rfl br_ge (by assumption) ?_) | (refine a_ifT rfl rfl br_gt (by assumption) ?_) | (refine a_ifF rfl rfl br_gt (by assumption) ?_) | (refine a_ifT rfl rfl br_le (by assumption) ?_) | (refine a_ifF rfl rfl br_le (by assumption) ?_) | (refine a_if rfl rfl br_eq (fun _ => ?_) (fun _ => ?_)) | (refine a_if rfl rfl br_ne (fun _ => ?_) (fun _ => ?_)) | (refine a_if rfl rfl br_lt (fun _ => ?_) (fun _ => ?_)) | (refine a_if rfl rfl br_ge (fun _ => ?_) (fun _ => ?_)) | (refine a_if rfl rfl br_gt (fun _ => ?_) (fun _ => ?_)) | (refine a_if rfl rfl br_le (fun _ => ?_) (fun _ => ?_))) | (refine a_at isIc rfl ?_; first | (refine a_icF rfl rfl br_ne (fun h => h (by assumption)) ?_) | (refine a_icT rfl rfl br_eq (by assumption) ?_) | (refine a_icF rfl rfl br_eq (by assumption) ?_) | (refine a_icT rfl rfl br_ne (by assumption) ?_) | (refine a_icF rfl rfl br_ne (by assumption) ?_) | (refine a_icT rfl rfl br_lt (by assumption) ?_) | (refine a_icF rfl rfl br_lt (by assumption) ?_) | (refine a_icT rfl rfl br_ge (by assumption) ?_) | (refine a_icF rfl rfl br_ge (by assumption) ?_) | (refine a_icT rfl rfl br_gt (by assumption) ?_) | (refine a_icF rfl rfl br_gt (by assumption) ?_) | (refine a_icT rfl rfl br_le (by assumption) ?_) | (refine a_icF rfl rfl br_le (by assumption) ?_) | (refine a_ic rfl rfl br_eq (fun _ => ?_) (fun _ => ?_)) | (refine a_ic rfl rfl br_ne (fun _ => ?_) (fun _ => ?_)) | (refine a_ic rfl rfl br_lt (fun _ => ?_) (fun _ => ?_)) | (refine a_ic rfl rfl br_ge (fun _ => ?_) (fun _ => ?_)) | (refine a_ic rfl rfl br_gt (fun _ => ?_) (fun _ => ?_)) | (refine a_ic rfl rfl br_le (fun _ => ?_) (fun _ => ?_))) | (refine a_at isRt rfl ?_; first | refine a_iret rfl rfl rfl ?_ | refine a_zret rfl rfl ?_ ?_ | refine a_lret rfl rfl ?_ | refine a_ret rfl rfl ?_))
      · exact Or.inl rfl
      · exact fin
    · repeat' (first | refine x_kcg rfl ?_ | refine x_incg rfl rfl ?_ | refine x_opp rfl rfl ?_ | refine x_go rfl ?_ | (refine a_at isGf rfl ?_; first | refine m_getg s0 rfl rfl rfl ?_) | (refine a_at isPf rfl ?_; first | refine a_putI s0 rfl rfl rfl ?_ | refine a_putL s0 rfl rfl rfl ?_) | (refine a_at isIv rfl ?_; first | (refine a_callV (s_1 dy) rfl rfl rfl rfl (c_met (s_1 dy) ?_); rw [hm])) | (refine a_at isAr rfl ?_; first | refine a_iald s0 rfl rfl ?_ ?_ | refine a_bald s0 rfl rfl ?_ ?_ | refine a_lald s0 rfl rfl ?_ ?_ | refine a_iast s0 rfl rfl ?_ ?_ | refine a_last s0 rfl rfl ?_ ?_ | refine a_bast s0 rfl rfl ?_ ?_ ?_) | (refine a_at isIf rfl ?_; first | (refine a_ifT rfl rfl br_eqz (by assumption) ?_) | (refine a_ifF rfl rfl br_eqz (by assumption) ?_) | (refine a_ifT rfl rfl br_nez (by assumption) ?_) | (refine a_ifF rfl rfl br_nez (by assumption) ?_) | (refine a_ifT rfl rfl br_eqz (nt_f (by assumption)) ?_) | (refine a_ifF rfl rfl br_eqz (tnf (by assumption)) ?_) | (refine a_ifF rfl rfl br_nez (fnt (by assumption)) ?_) | (refine a_if rfl rfl br_eqz (fun _ => ?_) (fun _ => ?_)) | (refine a_if rfl rfl br_nez (fun _ => ?_) (fun _ => ?_)) | (refine a_ifF rfl rfl br_ne (fun h => h (by assumption)) ?_) | (refine a_ifT rfl rfl br_eq (by assumption) ?_) | (refine a_ifF rfl rfl br_eq (by assumption) ?_) | (refine a_ifT rfl rfl br_ne (by assumption) ?_) | (refine a_ifF rfl rfl br_ne (by assumption) ?_) | (refine a_ifT rfl rfl br_lt (by assumption) ?_) | (refine a_ifF rfl rfl br_lt (by assumption) ?_) | (refine a_ifT rfl rfl br_ge (by assumption) ?_) | (refine a_ifF rfl rfl br_ge (by assumption) ?_) | (refine a_ifT rfl rfl br_gt (by assumption) ?_) | (refine a_ifF rfl rfl br_gt (by assumption) ?_) | (refine a_ifT rfl rfl br_le (by assumption) ?_) | (refine a_ifF rfl rfl br_le (by assumption) ?_) | (refine a_if rfl rfl br_eq (fun _ => ?_) (fun _ => ?_)) | (refine a_if rfl rfl br_ne (fun _ => ?_) (fun _ => ?_)) | (refine a_if rfl rfl br_lt (fun _ => ?_) (fun _ => ?_)) | (refine a_if rfl rfl br_ge (fun _ => ?_) (fun _ => ?_)) | (refine a_if rfl rfl br_gt (fun _ => ?_) (fun _ => ?_)) | (refine a_if rfl rfl br_le (fun _ => ?_) (fun _ => ?_))) | (refine a_at isIc rfl ?_; first | (refine a_icF rfl rfl br_ne (fun h => h (by assumption)) ?_) | (refine a_icT rfl rfl br_eq (by assumption) ?_) | (refine a_icF rfl rfl br_eq (by assumption) ?_) | (refine a_icT rfl rfl br_ne (by assumption) ?_) | (refine a_icF rfl rfl br_ne (by assumption) ?_) | (refine a_icT rfl rfl br_lt (by assumption) ?_) | (refine a_icF rfl rfl br_lt (by assumption) ?_) | (refine a_icT rfl rfl br_ge (by assumption) ?_) | (refine a_icF rfl rfl br_ge (by assumption) ?_) | (refine a_icT rfl rfl br_gt (by assumption) ?_) | (refine a_icF rfl rfl br_gt (by assumption) ?_) | (refine a_icT rfl rfl br_le (by assumption) ?_) | (refine a_icF rfl rfl br_le (by assumption) ?_) | (refine a_ic rfl rfl br_eq (fun _ => ?_) (fun _ => ?_)) | (refine a_ic rfl rfl br_ne (fun _ => ?_) (fun _ => ?_)) | (refine a_ic rfl rfl br_lt (fun _ => ?_) (fun _ => ?_)) | (refine a_ic rfl rfl br_ge (fun _ => ?_) (fun _ => ?_)) | (refine a_ic rfl rfl br_gt (fun _ => ?_) (fun _ => ?_)) | (refine a_ic rfl rfl br_le (fun _ => ?_) (fun _ => ?_))) | (refine a_at isRt rfl ?_; first | refine a_iret rfl rfl rfl ?_ | refine a_zret rfl rfl ?_ ?_ | refine a_lret rfl rfl ?_ | refine a_ret rfl rfl ?_))
      · exact Or.inl rfl
      · exact fin
  intro r
  induction r with
  | zero =>
    intro k acc M1 s hk f c hc tr hS hF
    have fin := hS rfl M1 f c tr
    have g : nI n0 ≤ nI k := nI_le (by omega) (by omega)
    have h50 : M1.1 1 5 = 0 := f.2.1
    have hm := met0 M1 h50
    have z := z00
    repeat' (first | refine x_kcg rfl ?_ | refine x_incg rfl rfl ?_ | refine x_opp rfl rfl ?_ | refine x_go rfl ?_ | (refine a_at isGf rfl ?_; first | refine m_getg s0 rfl rfl rfl ?_) | (refine a_at isPf rfl ?_; first | refine a_putI s0 rfl rfl rfl ?_ | refine a_putL s0 rfl rfl rfl ?_) | (refine a_at isIv rfl ?_; first | (refine a_callV (s_1 dy) rfl rfl rfl rfl (c_met (s_1 dy) ?_); rw [hm])) | (refine a_at isAr rfl ?_; first | refine a_iald s0 rfl rfl ?_ ?_ | refine a_bald s0 rfl rfl ?_ ?_ | refine a_lald s0 rfl rfl ?_ ?_ | refine a_iast s0 rfl rfl ?_ ?_ | refine a_last s0 rfl rfl ?_ ?_ | refine a_bast s0 rfl rfl ?_ ?_ ?_) | (refine a_at isIf rfl ?_; first | (refine a_ifT rfl rfl br_eqz (by assumption) ?_) | (refine a_ifF rfl rfl br_eqz (by assumption) ?_) | (refine a_ifT rfl rfl br_nez (by assumption) ?_) | (refine a_ifF rfl rfl br_nez (by assumption) ?_) | (refine a_ifT rfl rfl br_eqz (nt_f (by assumption)) ?_) | (refine a_ifF rfl rfl br_eqz (tnf (by assumption)) ?_) | (refine a_ifF rfl rfl br_nez (fnt (by assumption)) ?_) | (refine a_if rfl rfl br_eqz (fun _ => ?_) (fun _ => ?_)) | (refine a_if rfl rfl br_nez (fun _ => ?_) (fun _ => ?_)) | (refine a_ifF rfl rfl br_ne (fun h => h (by assumption)) ?_) | (refine a_ifT rfl rfl br_eq (by assumption) ?_) | (refine a_ifF rfl rfl br_eq (by assumption) ?_) | (refine a_ifT rfl rfl br_ne (by assumption) ?_) | (refine a_ifF rfl rfl br_ne (by assumption) ?_) | (refine a_ifT rfl rfl br_lt (by assumption) ?_) | (refine a_ifF rfl rfl br_lt (by assumption) ?_) | (refine a_ifT rfl rfl br_ge (by assumption) ?_) | (refine a_ifF rfl rfl br_ge (by assumption) ?_) | (refine a_ifT rfl rfl br_gt (by assumption) ?_) | (refine a_ifF rfl rfl br_gt (by assumption) ?_) | (refine a_ifT rfl rfl br_le (by assumption) ?_) | (refine a_ifF rfl rfl br_le (by assumption) ?_) | (refine a_if rfl rfl br_eq (fun _ => ?_) (fun _ => ?_)) | (refine a_if rfl rfl br_ne (fun _ => ?_) (fun _ => ?_)) | (refine a_if rfl rfl br_lt (fun _ => ?_) (fun _ => ?_)) | (refine a_if rfl rfl br_ge (fun _ => ?_) (fun _ => ?_)) | (refine a_if rfl rfl br_gt (fun _ => ?_) (fun _ => ?_)) | (refine a_if rfl rfl br_le (fun _ => ?_) (fun _ => ?_))) | (refine a_at isIc rfl ?_; first | (refine a_icF rfl rfl br_ne (fun h => h (by assumption)) ?_) | (refine a_icT rfl rfl br_eq (by assumption) ?_) | (refine a_icF rfl rfl br_eq (by assumption) ?_) | (refine a_icT rfl rfl br_ne (by assumption) ?_) | (refine a_icF rfl rfl br_ne (by assumption) ?_) | (refine a_icT rfl rfl br_lt (by assumption) ?_) | (refine a_icF rfl rfl br_lt (by assumption) ?_) | (refine a_icT rfl rfl br_ge (by assumption) ?_) | (refine a_icF rfl rfl br_ge (by assumption) ?_) | (refine a_icT rfl rfl br_gt (by assumption) ?_) | (refine a_icF rfl rfl br_gt (by assumption) ?_) | (refine a_icT rfl rfl br_le (by assumption) ?_) | (refine a_icF rfl rfl br_le (by assumption) ?_) | (refine a_ic rfl rfl br_eq (fun _ => ?_) (fun _ => ?_)) | (refine a_ic rfl rfl br_ne (fun _ => ?_) (fun _ => ?_)) | (refine a_ic rfl rfl br_lt (fun _ => ?_) (fun _ => ?_)) | (refine a_ic rfl rfl br_ge (fun _ => ?_) (fun _ => ?_)) | (refine a_ic rfl rfl br_gt (fun _ => ?_) (fun _ => ?_)) | (refine a_ic rfl rfl br_le (fun _ => ?_) (fun _ => ?_))) | (refine a_at isRt rfl ?_; first | refine a_iret rfl rfl rfl ?_ | refine a_zret rfl rfl ?_ ?_ | refine a_lret rfl rfl ?_ | refine a_ret rfl rfl ?_))
    · exact Or.inr rfl
    · exact fin
  | succ r ih =>
    intro k acc M1 s hk f c hc tr hS hF
    have g : ¬ nI n0 ≤ nI k := nI_ge (by omega) (by omega)
    have h50 : M1.1 1 5 = 0 := f.2.1
    have hm := met0 M1 h50
    have L1 := kF_ls hb2 f hL
    obtain ⟨B, fr⟩ := s
    unfold gF at hS hF
    obtain ⟨-, sa, -⟩ := L1.2 l hl
    obtain ⟨sx, v1, v2⟩ := cSh_v sa
    repeat (first | refine x_kcg rfl ?_ | refine x_opp rfl rfl ?_ | refine x_go rfl ?_)
    refine x_icm br_ge (fun h => absurd h g) (fun _ => ?_)
    repeat (first | refine x_kcg rfl ?_ | refine x_opp rfl rfl ?_ | refine x_go rfl ?_ | refine m_getg s0 rfl rfl rfl ?_)
    refine m_callV (s_1 dy) rfl rfl rfl (c_met (s_1 dy) ?_)
    rw [hm]
    refine x_ifc br_ne (fun h => absurd rfl h) (fun _ => ?_)
    repeat (first | refine x_kcg rfl ?_ | refine x_opp rfl rfl ?_ | refine x_go rfl ?_)
    refine m_callV v1 (v2 _ _ _).2.2.1 rfl rfl (e_up (by omega : d + 2 * l + 6 ≤ d + 2 * l + 7) (c_word hE l hl hdr d (nI k) M1 B fr _ L1 tr h50 (fun r0 M2 ct => ?_) (fun r0 M2 w hw cf => ?_)))
    · have r0 : (askF E l 2 (i64 k)).2.1 = 0 := r0
      have ct : cft M1 M2 (trc (B, fr) (askF E l 2 (i64 k)).1) := ct
      show sm_X L xs _ _ _ _ _ ((some (Value.long (askF E l 2 (i64 k)).2.2)).toList ++ _) _ _
      rw [if_neg (fun h => h r0)] at hS hF
      have hw := (askF_val hE l hl 2 (i64 k) r0).2.2 rfl
      have f2 := kF_cft hb1 f ct
      have L2 := kF_ls hb2 f2 hL
      have c2 : cCl M2 b e acc := by
        unfold cCl
        rw [ct.2.1 (b + 7) (by omega) (by omega), ct.2.1 (b + 8) (by omega) (by omega), ct.1]
        exact c
      have t2 : M2.1 (b + 4) e = nI (eAt es e).2.2.1 := by
        rw [f2.1.2.1 (b + 4) (by omega) (by omega) (by omega) (by omega) (by omega)]
        exact (tCell_eq ht he 0).2
      have h502 : M2.1 1 5 = 0 := f2.2.1
      have hm2 := met0 M2 h502
      generalize hr : askF E l 2 (i64 k) = r2 at hS hF hw ct ⊢
      have key := (agr_sz (f := fun i => nI (v i)) (w := r2.2.2) hw hok.2.1 h7).trans (agrB_iff _ _ _).symm
      have ev : agrB (fun i => sg5 (nI (v i))) (eAt es e).2.2.1 r2.2.2 = agrB v (eAt es e).2.2.1 r2.2.2 := by
        have h1 := agrB_iff (fun i => sg5 (nI (v i))) (eAt es e).2.2.1 r2.2.2
        have h2 := agrB_iff v (eAt es e).2.2.1 r2.2.2
        have h3 : agrP (fun i => sg5 (nI (v i))) (eAt es e).2.2.1 r2.2.2 ↔ agrP v (eAt es e).2.2.1 r2.2.2 := by
          unfold agrP
          constructor
          · rintro ⟨q1, q2⟩
            refine ⟨q1, fun i hi => ?_⟩
            have h5 : sg5 (nI (v i)) = 0 ∨ sg5 (nI (v i)) = lt5 r2.2.2 i := q2 i hi
            rw [(n32_dec _ (hv i hi)).2.1] at h5
            exact h5
          · rintro ⟨q1, q2⟩
            refine ⟨q1, fun i hi => ?_⟩
            show sg5 (nI (v i)) = 0 ∨ sg5 (nI (v i)) = lt5 r2.2.2 i
            rw [(n32_dec _ (hv i hi)).2.1]
            exact q2 i hi
        rw [← h1, ← h2] at h3
        cases h4 : agrB v (eAt es e).2.2.1 r2.2.2 with
        | true => exact h3.mpr h4
        | false => exact nt_f (fun h => by rw [h3.mp h] at h4; cases h4)
      rw [ev] at key
      have next : ∀ M3 acc2 s3, kF M M3 b e 0 → cCl M3 b e acc2 → acc2.length ≤ k + 1 → cTr M3 s3 → ((gF E l v (eAt es e).2.2.1 r (k + 1) acc2).2.1 = 0 → ∀ M', kF M M' b e 0 → cCl M' b e (gF E l v (eAt es e).2.2.1 r (k + 1) acc2).2.2 → cTr M' (trc s3 (gF E l v (eAt es e).2.2.1 r (k + 1) acc2).1) → Q (some (.int 1)) (wm (sh0 ++ dy) M')) → ((gF E l v (eAt es e).2.2.1 r (k + 1) acc2).2.1 ≠ 0 → ∀ M', kF M M' b e (gF E l v (eAt es e).2.2.1 r (k + 1) acc2).2.1 → cTr M' (trc s3 (gF E l v (eAt es e).2.2.1 r (k + 1) acc2).1) → Q (some (.int 0)) (wm (sh0 ++ dy) M')) → ∀ (w10 : Int64) (v12 : Int32), sm_X L xs (d + 2 * l + 7) 91 12 (sm_code 91 12) [(0, .ref b), (1, .int (nI e)), (2, .int lv), (3, .ref (P l)), (4, .int (nI n0)), (5, .long (stF (fun i => nI (v i)) (eAt es e).2.2.1)), (7, .long (mkF (stF (fun i => nI (v i)) (eAt es e).2.2.1) 7)), (9, .int (nI k))] [] (wm (sh0 ++ dy) M3) Q := by
        intro M3 acc2 s3 q1 q2 q3 q4 q5 q6 _ _
        have fin := ih (k + 1) acc2 M3 s3 (by omega) q1 q2 q3 q4 q5 q6
        repeat (first | refine x_kcg rfl ?_ | refine x_incg rfl rfl ?_ | refine x_opp rfl rfl ?_)
        refine x_goto ?_
        refine x_lvs [(0, .ref b), (1, .int (nI e)), (2, .int lv), (3, .ref (P l)), (4, .int (nI n0)), (5, .long (stF (fun i => nI (v i)) (eAt es e).2.2.1)), (7, .long (mkF (stF (fun i => nI (v i)) (eAt es e).2.2.1) 7)), (9, .int (nI (k + 1)))] rfl rfl rfl ⟨rfl, rfl, rfl, rfl, rfl, rfl, rfl, rfl, trivial⟩ ?_
        exact fin
      have T9 : ∀ bb : Bool, bb = agrB v (eAt es e).2.2.1 r2.2.2 → sm_X L xs (d + 2 * l + 7) 91 9 (sm_code 91 9) [(0, .ref b), (1, .int (nI e)), (2, .int lv), (3, .ref (P l)), (4, .int (nI n0)), (5, .long (stF (fun i => nI (v i)) (eAt es e).2.2.1)), (7, .long (mkF (stF (fun i => nI (v i)) (eAt es e).2.2.1) 7)), (9, .int (nI k)), (10, .long r2.2.2)] [.int (zz bb)] (wm (sh0 ++ dy) M2) Q := by
        intro bb hbb
        by_cases g2 : agrB v (eAt es e).2.2.1 r2.2.2 = true
        · rw [g2] at hbb
          subst hbb
          rw [if_pos g2] at hS hF
          obtain ⟨-, sa2, -⟩ := L2.2 l hl
          obtain ⟨sx2, v12, v22⟩ := cSh_v sa2
          have tr2 := ct.2.2.2
          obtain ⟨⟨B2, fr2⟩, hs2⟩ : ∃ t, trc (B, fr) r2.1 = t := ⟨_, rfl⟩
          repeat (first | refine x_kcg rfl ?_ | refine x_opp rfl rfl ?_ | refine x_go rfl ?_)
          refine x_ifc br_eqz (fun h => by cases h) (fun _ => ?_)
          repeat (first | refine x_kcg rfl ?_ | refine x_opp rfl rfl ?_ | refine x_go rfl ?_ | refine m_getg s0 rfl rfl rfl ?_)
          refine m_callV (s_1 dy) rfl rfl rfl (c_met (s_1 dy) ?_)
          rw [hm2]
          refine x_ifc br_ne (fun h => absurd rfl h) (fun _ => ?_)
          repeat (first | refine x_kcg rfl ?_ | refine x_opp rfl rfl ?_ | refine x_go rfl ?_)
          refine m_callV v12 (v22 _ _ _).2.2.2 rfl rfl (e_up (by omega : d + 2 * l + 6 ≤ d + 2 * l + 7) (c_score hE l hl hdr d r2.2.2 M2 B2 fr2 _ L2 (by rw [← hs2]; exact tr2) h502 (fun r1 M3 ct3 => ?_) (fun r1 M3 sc cf3 => ?_)))
          · rw [if_neg (fun h => h r1)] at hS hF
            have f3 := kF_cft hb1 f2 ct3
            have c3 : cCl M3 b e acc := by
              unfold cCl
              rw [ct3.2.1 (b + 7) (by omega) (by omega), ct3.2.1 (b + 8) (by omega) (by omega), ct3.1]
              exact c2
            refine m_callV s0 rfl rfl rfl (c_addCand (d := d + 2 * l + 3) hs' (by omega) (by omega) c3 (fun M4 c4 f4 => ?_))
            have f5 := kF_add hb1 f3 f4
            have tr4 := cTr_add hb1 f4 ct3.2.2.2
            have fin := next M4 _ _ f5 c4 (by rw [cIns_len]; omega) tr4 (fun q0 M' q1 q2 q3 => hS q0 M' q1 q2 (by rw [trc_app, trc_app, hs2]; exact q3)) (fun q0 M' q1 q2 => hF q0 M' q1 (by rw [trc_app, trc_app, hs2]; exact q2)) 0 0
            refine x_fall ?_
            refine x_lvs [(0, .ref b), (1, .int (nI e)), (2, .int lv), (3, .ref (P l)), (4, .int (nI n0)), (5, .long (stF (fun i => nI (v i)) (eAt es e).2.2.1)), (7, .long (mkF (stF (fun i => nI (v i)) (eAt es e).2.2.1) 7)), (9, .int (nI k))] rfl rfl rfl ⟨rfl, rfl, rfl, rfl, rfl, rfl, rfl, rfl, trivial⟩ ?_
            exact fin
          · rw [if_pos r1] at hF
            have f3 := kF_cff hb1 r1 f2 cf3
            have c3 : cCl M3 b e acc := by
              unfold cCl
              rw [cf3.2.1 (b + 7) (by omega) (by omega) (by omega), cf3.2.1 (b + 8) (by omega) (by omega) (by omega), cf3.1]
              exact c2
            refine m_callV s0 rfl rfl rfl (c_addCand (d := d + 2 * l + 3) hs' (by omega) (by omega) c3 (fun M4 c4 f4 => ?_))
            have f5 := kF_add hb1 f3 f4
            have tr4 := cTr_add hb1 f4 cf3.2.2.2.1
            have hne : M4.1 1 5 ≠ 0 := by
              rw [f5.2.1]
              intro h
              have := askF_f hE l hl 3 r2.2.2
              exact r1 ((nI_eq (b := 0) (by omega) (by decide)).mp h)
            have fin := bad (k + 1) M4 hne (hF r1 M4 f5 (by rw [trc_app, hs2]; exact tr4))
            refine x_fall ?_
            repeat (first | refine x_kcg rfl ?_ | refine x_incg rfl rfl ?_ | refine x_opp rfl rfl ?_)
            refine x_goto ?_
            refine x_lvs [(0, .ref b), (1, .int (nI e)), (2, .int lv), (3, .ref (P l)), (4, .int (nI n0)), (5, .long (stF (fun i => nI (v i)) (eAt es e).2.2.1)), (7, .long (mkF (stF (fun i => nI (v i)) (eAt es e).2.2.1) 7)), (9, .int (nI (k + 1)))] rfl rfl rfl ⟨rfl, rfl, rfl, rfl, rfl, rfl, rfl, rfl, trivial⟩ ?_
            exact fin
        · rw [nt_f g2] at hbb
          subst hbb
          rw [if_neg g2] at hS hF
          have fin := next M2 acc _ f2 c2 (by omega) ct.2.2.2 (fun q0 M' q1 q2 q3 => hS q0 M' q1 q2 (by rw [trc_app]; exact q3)) (fun q0 M' q1 q2 => hF q0 M' q1 (by rw [trc_app]; exact q2)) 0 0
          repeat (first | refine x_kcg rfl ?_ | refine x_opp rfl rfl ?_ | refine x_go rfl ?_)
          refine x_ifc br_eqz (fun _ => ?_) (fun h => absurd rfl h)
          refine x_lvs [(0, .ref b), (1, .int (nI e)), (2, .int lv), (3, .ref (P l)), (4, .int (nI n0)), (5, .long (stF (fun i => nI (v i)) (eAt es e).2.2.1)), (7, .long (mkF (stF (fun i => nI (v i)) (eAt es e).2.2.1) 7)), (9, .int (nI k))] rfl rfl rfl ⟨rfl, rfl, rfl, rfl, rfl, rfl, rfl, rfl, trivial⟩ ?_
          exact fin
      repeat (first | refine x_kcg rfl ?_ | refine x_opp rfl rfl ?_ | refine x_go rfl ?_)
      refine m_callS rfl rfl (c_lengthUpTo ?_)
      repeat (first | refine x_kcg rfl ?_ | refine x_opp rfl rfl ?_ | refine x_go rfl ?_ | refine m_getg s0 rfl rfl rfl ?_)
      refine m_get s1.1 rfl ?_
      repeat (first | refine x_kcg rfl ?_ | refine x_opp rfl rfl ?_ | refine x_go rfl ?_)
      refine m_iald s1.2.2.2.1 (vp_in_nI (by omega) (by decide)) ?_
      rw [nI_clamp (by omega), t2]
      by_cases g3 : lenU r2.2.2 26 = nI (eAt es e).2.2.1
      · refine x_icm br_ne (fun h => absurd g3 h) (fun _ => ?_)
        repeat (first | refine x_kcg rfl ?_ | refine x_opp rfl rfl ?_ | refine x_go rfl ?_)
        by_cases g4 : (r2.2.2 ^^^ stF (fun i => nI (v i)) (eAt es e).2.2.1) &&& mkF (stF (fun i => nI (v i)) (eAt es e).2.2.1) 7 = 0
        · refine x_ifc br_lne (fun h => absurd g4 h) (fun _ => ?_)
          have fin := T9 true (key.mp ⟨g3, g4⟩).symm
          repeat' (first | (refine a_stop 9 rfl ?_; (refine x_lvs [(0, .ref b), (1, .int (nI e)), (2, .int lv), (3, .ref (P l)), (4, .int (nI n0)), (5, .long (stF (fun i => nI (v i)) (eAt es e).2.2.1)), (7, .long (mkF (stF (fun i => nI (v i)) (eAt es e).2.2.1) 7)), (9, .int (nI k)), (10, .long r2.2.2)] rfl rfl rfl ⟨rfl, rfl, rfl, rfl, rfl, rfl, rfl, rfl, rfl, trivial⟩ ?_; exact fin)) | refine x_kcg rfl ?_ | refine x_incg rfl rfl ?_ | refine x_opp rfl rfl ?_ | refine x_go rfl ?_ | (refine a_at isIf rfl ?_; first | (refine a_ifT rfl rfl br_eqz (by assumption) ?_) | (refine a_ifF rfl rfl br_eqz (by assumption) ?_) | (refine a_ifT rfl rfl br_nez (by assumption) ?_) | (refine a_ifF rfl rfl br_nez (by assumption) ?_) | (refine a_ifT rfl rfl br_eqz (nt_f (by assumption)) ?_) | (refine a_ifF rfl rfl br_eqz (tnf (by assumption)) ?_) | (refine a_ifF rfl rfl br_nez (fnt (by assumption)) ?_) | (refine a_if rfl rfl br_eqz (fun _ => ?_) (fun _ => ?_)) | (refine a_if rfl rfl br_nez (fun _ => ?_) (fun _ => ?_)) | (refine a_ifF rfl rfl br_ne (fun h => h (by assumption)) ?_) | (refine a_ifT rfl rfl br_eq (by assumption) ?_) | (refine a_ifF rfl rfl br_eq (by assumption) ?_) | (refine a_ifT rfl rfl br_ne (by assumption) ?_) | (refine a_ifF rfl rfl br_ne (by assumption) ?_) | (refine a_ifT rfl rfl br_lt (by assumption) ?_) | (refine a_ifF rfl rfl br_lt (by assumption) ?_) | (refine a_ifT rfl rfl br_ge (by assumption) ?_) | (refine a_ifF rfl rfl br_ge (by assumption) ?_) | (refine a_ifT rfl rfl br_gt (by assumption) ?_) | (refine a_ifF rfl rfl br_gt (by assumption) ?_) | (refine a_ifT rfl rfl br_le (by assumption) ?_) | (refine a_ifF rfl rfl br_le (by assumption) ?_) | (refine a_if rfl rfl br_eq (fun _ => ?_) (fun _ => ?_)) | (refine a_if rfl rfl br_ne (fun _ => ?_) (fun _ => ?_)) | (refine a_if rfl rfl br_lt (fun _ => ?_) (fun _ => ?_)) | (refine a_if rfl rfl br_ge (fun _ => ?_) (fun _ => ?_)) | (refine a_if rfl rfl br_gt (fun _ => ?_) (fun _ => ?_)) | (refine a_if rfl rfl br_le (fun _ => ?_) (fun _ => ?_))) | (refine a_at isIc rfl ?_; first | (refine a_icF rfl rfl br_ne (fun h => h (by assumption)) ?_) | (refine a_icT rfl rfl br_eq (by assumption) ?_) | (refine a_icF rfl rfl br_eq (by assumption) ?_) | (refine a_icT rfl rfl br_ne (by assumption) ?_) | (refine a_icF rfl rfl br_ne (by assumption) ?_) | (refine a_icT rfl rfl br_lt (by assumption) ?_) | (refine a_icF rfl rfl br_lt (by assumption) ?_) | (refine a_icT rfl rfl br_ge (by assumption) ?_) | (refine a_icF rfl rfl br_ge (by assumption) ?_) | (refine a_icT rfl rfl br_gt (by assumption) ?_) | (refine a_icF rfl rfl br_gt (by assumption) ?_) | (refine a_icT rfl rfl br_le (by assumption) ?_) | (refine a_icF rfl rfl br_le (by assumption) ?_) | (refine a_ic rfl rfl br_eq (fun _ => ?_) (fun _ => ?_)) | (refine a_ic rfl rfl br_ne (fun _ => ?_) (fun _ => ?_)) | (refine a_ic rfl rfl br_lt (fun _ => ?_) (fun _ => ?_)) | (refine a_ic rfl rfl br_ge (fun _ => ?_) (fun _ => ?_)) | (refine a_ic rfl rfl br_gt (fun _ => ?_) (fun _ => ?_)) | (refine a_ic rfl rfl br_le (fun _ => ?_) (fun _ => ?_))) | (refine a_at isRt rfl ?_; first | refine a_iret rfl rfl rfl ?_ | refine a_zret rfl rfl ?_ ?_ | refine a_lret rfl rfl ?_ | refine a_ret rfl rfl ?_))
        · refine x_ifc br_lne (fun _ => ?_) (fun h => absurd g4 h)
          have fin := T9 false (nt_f (fun h => g4 (key.mpr h).2)).symm
          repeat' (first | (refine a_stop 9 rfl ?_; (refine x_lvs [(0, .ref b), (1, .int (nI e)), (2, .int lv), (3, .ref (P l)), (4, .int (nI n0)), (5, .long (stF (fun i => nI (v i)) (eAt es e).2.2.1)), (7, .long (mkF (stF (fun i => nI (v i)) (eAt es e).2.2.1) 7)), (9, .int (nI k)), (10, .long r2.2.2)] rfl rfl rfl ⟨rfl, rfl, rfl, rfl, rfl, rfl, rfl, rfl, rfl, trivial⟩ ?_; exact fin)) | refine x_kcg rfl ?_ | refine x_incg rfl rfl ?_ | refine x_opp rfl rfl ?_ | refine x_go rfl ?_ | (refine a_at isIf rfl ?_; first | (refine a_ifT rfl rfl br_eqz (by assumption) ?_) | (refine a_ifF rfl rfl br_eqz (by assumption) ?_) | (refine a_ifT rfl rfl br_nez (by assumption) ?_) | (refine a_ifF rfl rfl br_nez (by assumption) ?_) | (refine a_ifT rfl rfl br_eqz (nt_f (by assumption)) ?_) | (refine a_ifF rfl rfl br_eqz (tnf (by assumption)) ?_) | (refine a_ifF rfl rfl br_nez (fnt (by assumption)) ?_) | (refine a_if rfl rfl br_eqz (fun _ => ?_) (fun _ => ?_)) | (refine a_if rfl rfl br_nez (fun _ => ?_) (fun _ => ?_)) | (refine a_ifF rfl rfl br_ne (fun h => h (by assumption)) ?_) | (refine a_ifT rfl rfl br_eq (by assumption) ?_) | (refine a_ifF rfl rfl br_eq (by assumption) ?_) | (refine a_ifT rfl rfl br_ne (by assumption) ?_) | (refine a_ifF rfl rfl br_ne (by assumption) ?_) | (refine a_ifT rfl rfl br_lt (by assumption) ?_) | (refine a_ifF rfl rfl br_lt (by assumption) ?_) | (refine a_ifT rfl rfl br_ge (by assumption) ?_) | (refine a_ifF rfl rfl br_ge (by assumption) ?_) | (refine a_ifT rfl rfl br_gt (by assumption) ?_) | (refine a_ifF rfl rfl br_gt (by assumption) ?_) | (refine a_ifT rfl rfl br_le (by assumption) ?_) | (refine a_ifF rfl rfl br_le (by assumption) ?_) | (refine a_if rfl rfl br_eq (fun _ => ?_) (fun _ => ?_)) | (refine a_if rfl rfl br_ne (fun _ => ?_) (fun _ => ?_)) | (refine a_if rfl rfl br_lt (fun _ => ?_) (fun _ => ?_)) | (refine a_if rfl rfl br_ge (fun _ => ?_) (fun _ => ?_)) | (refine a_if rfl rfl br_gt (fun _ => ?_) (fun _ => ?_)) | (refine a_if rfl rfl br_le (fun _ => ?_) (fun _ => ?_))) | (refine a_at isIc rfl ?_; first | (refine a_icF rfl rfl br_ne (fun h => h (by assumption)) ?_) | (refine a_icT rfl rfl br_eq (by assumption) ?_) | (refine a_icF rfl rfl br_eq (by assumption) ?_) | (refine a_icT rfl rfl br_ne (by assumption) ?_) | (refine a_icF rfl rfl br_ne (by assumption) ?_) | (refine a_icT rfl rfl br_lt (by assumption) ?_) | (refine a_icF rfl rfl br_lt (by assumption) ?_) | (refine a_icT rfl rfl br_ge (by assumption) ?_) | (refine a_icF rfl rfl br_ge (by assumption) ?_) | (refine a_icT rfl rfl br_gt (by assumption) ?_) | (refine a_icF rfl rfl br_gt (by assumption) ?_) | (refine a_icT rfl rfl br_le (by assumption) ?_) | (refine a_icF rfl rfl br_le (by assumption) ?_) | (refine a_ic rfl rfl br_eq (fun _ => ?_) (fun _ => ?_)) | (refine a_ic rfl rfl br_ne (fun _ => ?_) (fun _ => ?_)) | (refine a_ic rfl rfl br_lt (fun _ => ?_) (fun _ => ?_)) | (refine a_ic rfl rfl br_ge (fun _ => ?_) (fun _ => ?_)) | (refine a_ic rfl rfl br_gt (fun _ => ?_) (fun _ => ?_)) | (refine a_ic rfl rfl br_le (fun _ => ?_) (fun _ => ?_))) | (refine a_at isRt rfl ?_; first | refine a_iret rfl rfl rfl ?_ | refine a_zret rfl rfl ?_ ?_ | refine a_lret rfl rfl ?_ | refine a_ret rfl rfl ?_))
      · refine x_icm br_ne (fun _ => ?_) (fun h => absurd g3 h)
        have fin := T9 false (nt_f (fun h => g3 (key.mpr h).1)).symm
        repeat' (first | (refine a_stop 9 rfl ?_; (refine x_lvs [(0, .ref b), (1, .int (nI e)), (2, .int lv), (3, .ref (P l)), (4, .int (nI n0)), (5, .long (stF (fun i => nI (v i)) (eAt es e).2.2.1)), (7, .long (mkF (stF (fun i => nI (v i)) (eAt es e).2.2.1) 7)), (9, .int (nI k)), (10, .long r2.2.2)] rfl rfl rfl ⟨rfl, rfl, rfl, rfl, rfl, rfl, rfl, rfl, rfl, trivial⟩ ?_; exact fin)) | refine x_kcg rfl ?_ | refine x_incg rfl rfl ?_ | refine x_opp rfl rfl ?_ | refine x_go rfl ?_ | (refine a_at isIf rfl ?_; first | (refine a_ifT rfl rfl br_eqz (by assumption) ?_) | (refine a_ifF rfl rfl br_eqz (by assumption) ?_) | (refine a_ifT rfl rfl br_nez (by assumption) ?_) | (refine a_ifF rfl rfl br_nez (by assumption) ?_) | (refine a_ifT rfl rfl br_eqz (nt_f (by assumption)) ?_) | (refine a_ifF rfl rfl br_eqz (tnf (by assumption)) ?_) | (refine a_ifF rfl rfl br_nez (fnt (by assumption)) ?_) | (refine a_if rfl rfl br_eqz (fun _ => ?_) (fun _ => ?_)) | (refine a_if rfl rfl br_nez (fun _ => ?_) (fun _ => ?_)) | (refine a_ifF rfl rfl br_ne (fun h => h (by assumption)) ?_) | (refine a_ifT rfl rfl br_eq (by assumption) ?_) | (refine a_ifF rfl rfl br_eq (by assumption) ?_) | (refine a_ifT rfl rfl br_ne (by assumption) ?_) | (refine a_ifF rfl rfl br_ne (by assumption) ?_) | (refine a_ifT rfl rfl br_lt (by assumption) ?_) | (refine a_ifF rfl rfl br_lt (by assumption) ?_) | (refine a_ifT rfl rfl br_ge (by assumption) ?_) | (refine a_ifF rfl rfl br_ge (by assumption) ?_) | (refine a_ifT rfl rfl br_gt (by assumption) ?_) | (refine a_ifF rfl rfl br_gt (by assumption) ?_) | (refine a_ifT rfl rfl br_le (by assumption) ?_) | (refine a_ifF rfl rfl br_le (by assumption) ?_) | (refine a_if rfl rfl br_eq (fun _ => ?_) (fun _ => ?_)) | (refine a_if rfl rfl br_ne (fun _ => ?_) (fun _ => ?_)) | (refine a_if rfl rfl br_lt (fun _ => ?_) (fun _ => ?_)) | (refine a_if rfl rfl br_ge (fun _ => ?_) (fun _ => ?_)) | (refine a_if rfl rfl br_gt (fun _ => ?_) (fun _ => ?_)) | (refine a_if rfl rfl br_le (fun _ => ?_) (fun _ => ?_))) | (refine a_at isIc rfl ?_; first | (refine a_icF rfl rfl br_ne (fun h => h (by assumption)) ?_) | (refine a_icT rfl rfl br_eq (by assumption) ?_) | (refine a_icF rfl rfl br_eq (by assumption) ?_) | (refine a_icT rfl rfl br_ne (by assumption) ?_) | (refine a_icF rfl rfl br_ne (by assumption) ?_) | (refine a_icT rfl rfl br_lt (by assumption) ?_) | (refine a_icF rfl rfl br_lt (by assumption) ?_) | (refine a_icT rfl rfl br_ge (by assumption) ?_) | (refine a_icF rfl rfl br_ge (by assumption) ?_) | (refine a_icT rfl rfl br_gt (by assumption) ?_) | (refine a_icF rfl rfl br_gt (by assumption) ?_) | (refine a_icT rfl rfl br_le (by assumption) ?_) | (refine a_icF rfl rfl br_le (by assumption) ?_) | (refine a_ic rfl rfl br_eq (fun _ => ?_) (fun _ => ?_)) | (refine a_ic rfl rfl br_ne (fun _ => ?_) (fun _ => ?_)) | (refine a_ic rfl rfl br_lt (fun _ => ?_) (fun _ => ?_)) | (refine a_ic rfl rfl br_ge (fun _ => ?_) (fun _ => ?_)) | (refine a_ic rfl rfl br_gt (fun _ => ?_) (fun _ => ?_)) | (refine a_ic rfl rfl br_le (fun _ => ?_) (fun _ => ?_))) | (refine a_at isRt rfl ?_; first | refine a_iret rfl rfl rfl ?_ | refine a_zret rfl rfl ?_ ?_ | refine a_lret rfl rfl ?_ | refine a_ret rfl rfl ?_))
    · have r0 : (askF E l 2 (i64 k)).2.1 ≠ 0 := r0
      have cf : cff M1 M2 (trc (B, fr) (askF E l 2 (i64 k)).1) (askF E l 2 (i64 k)).2.1 := cf
      rw [if_pos r0] at hF
      have f2 := kF_cff hb1 r0 f cf
      have t2 : M2.1 (b + 4) e = nI (eAt es e).2.2.1 := by
        rw [f2.1.2.1 (b + 4) (by omega) (by omega) (by omega) (by omega) (by omega)]
        exact (tCell_eq ht he 0).2
      have hne : M2.1 1 5 ≠ 0 := by
        rw [f2.2.1]
        intro h
        have := askF_f hE l hl 2 (i64 k)
        exact r0 ((nI_eq (b := 0) (by omega) (by decide)).mp h)
      have hm2 := met1 M2 hne
      have fin0 := bad (k + 1) M2 hne (hF r0 M2 f2 cf.2.2.2.1)
      have T9 : ∀ bb : Bool, sm_X L xs (d + 2 * l + 7) 91 9 (sm_code 91 9) [(0, .ref b), (1, .int (nI e)), (2, .int lv), (3, .ref (P l)), (4, .int (nI n0)), (5, .long (stF (fun i => nI (v i)) (eAt es e).2.2.1)), (7, .long (mkF (stF (fun i => nI (v i)) (eAt es e).2.2.1) 7)), (9, .int (nI k)), (10, .long w)] [.int (zz bb)] (wm (sh0 ++ dy) M2) Q := by
        intro bb
        have z := z10
        cases bb with
        | true =>
          have g0 : (true : Bool) = true := rfl
          repeat' (first | (refine x_go (t := 3) rfl ?_; refine x_lvs [(0, .ref b), (1, .int (nI e)), (2, .int lv), (3, .ref (P l)), (4, .int (nI n0)), (5, .long (stF (fun i => nI (v i)) (eAt es e).2.2.1)), (7, .long (mkF (stF (fun i => nI (v i)) (eAt es e).2.2.1) 7)), (9, .int (nI (k + 1)))] rfl rfl rfl ⟨rfl, rfl, rfl, rfl, rfl, rfl, rfl, rfl, trivial⟩ ?_; exact fin0) | refine x_kcg rfl ?_ | refine x_incg rfl rfl ?_ | refine x_opp rfl rfl ?_ | refine x_go (t := 99) rfl ?_ | (refine a_at isGf rfl ?_; first | refine m_getg s0 rfl rfl rfl ?_) | (refine a_at isPf rfl ?_; first | refine a_putI s0 rfl rfl rfl ?_ | refine a_putL s0 rfl rfl rfl ?_) | (refine a_at isIv rfl ?_; first | (refine a_callV (s_1 dy) rfl rfl rfl rfl (c_met (s_1 dy) ?_); rw [hm2])) | (refine a_at isAr rfl ?_; first | refine a_iald s0 rfl rfl ?_ ?_ | refine a_bald s0 rfl rfl ?_ ?_ | refine a_lald s0 rfl rfl ?_ ?_ | refine a_iast s0 rfl rfl ?_ ?_ | refine a_last s0 rfl rfl ?_ ?_ | refine a_bast s0 rfl rfl ?_ ?_ ?_) | (refine a_at isIf rfl ?_; first | (refine a_ifT rfl rfl br_eqz (by assumption) ?_) | (refine a_ifF rfl rfl br_eqz (by assumption) ?_) | (refine a_ifT rfl rfl br_nez (by assumption) ?_) | (refine a_ifF rfl rfl br_nez (by assumption) ?_) | (refine a_ifT rfl rfl br_eqz (nt_f (by assumption)) ?_) | (refine a_ifF rfl rfl br_eqz (tnf (by assumption)) ?_) | (refine a_ifF rfl rfl br_nez (fnt (by assumption)) ?_) | (refine a_if rfl rfl br_eqz (fun _ => ?_) (fun _ => ?_)) | (refine a_if rfl rfl br_nez (fun _ => ?_) (fun _ => ?_)) | (refine a_ifF rfl rfl br_ne (fun h => h (by assumption)) ?_) | (refine a_ifT rfl rfl br_eq (by assumption) ?_) | (refine a_ifF rfl rfl br_eq (by assumption) ?_) | (refine a_ifT rfl rfl br_ne (by assumption) ?_) | (refine a_ifF rfl rfl br_ne (by assumption) ?_) | (refine a_ifT rfl rfl br_lt (by assumption) ?_) | (refine a_ifF rfl rfl br_lt (by assumption) ?_) | (refine a_ifT rfl rfl br_ge (by assumption) ?_) | (refine a_ifF rfl rfl br_ge (by assumption) ?_) | (refine a_ifT rfl rfl br_gt (by assumption) ?_) | (refine a_ifF rfl rfl br_gt (by assumption) ?_) | (refine a_ifT rfl rfl br_le (by assumption) ?_) | (refine a_ifF rfl rfl br_le (by assumption) ?_) | (refine a_if rfl rfl br_eq (fun _ => ?_) (fun _ => ?_)) | (refine a_if rfl rfl br_ne (fun _ => ?_) (fun _ => ?_)) | (refine a_if rfl rfl br_lt (fun _ => ?_) (fun _ => ?_)) | (refine a_if rfl rfl br_ge (fun _ => ?_) (fun _ => ?_)) | (refine a_if rfl rfl br_gt (fun _ => ?_) (fun _ => ?_)) | (refine a_if rfl rfl br_le (fun _ => ?_) (fun _ => ?_))) | (refine a_at isIc rfl ?_; first | (refine a_icF rfl rfl br_ne (fun h => h (by assumption)) ?_) | (refine a_icT rfl rfl br_eq (by assumption) ?_) | (refine a_icF rfl rfl br_eq (by assumption) ?_) | (refine a_icT rfl rfl br_ne (by assumption) ?_) | (refine a_icF rfl rfl br_ne (by assumption) ?_) | (refine a_icT rfl rfl br_lt (by assumption) ?_) | (refine a_icF rfl rfl br_lt (by assumption) ?_) | (refine a_icT rfl rfl br_ge (by assumption) ?_) | (refine a_icF rfl rfl br_ge (by assumption) ?_) | (refine a_icT rfl rfl br_gt (by assumption) ?_) | (refine a_icF rfl rfl br_gt (by assumption) ?_) | (refine a_icT rfl rfl br_le (by assumption) ?_) | (refine a_icF rfl rfl br_le (by assumption) ?_) | (refine a_ic rfl rfl br_eq (fun _ => ?_) (fun _ => ?_)) | (refine a_ic rfl rfl br_ne (fun _ => ?_) (fun _ => ?_)) | (refine a_ic rfl rfl br_lt (fun _ => ?_) (fun _ => ?_)) | (refine a_ic rfl rfl br_ge (fun _ => ?_) (fun _ => ?_)) | (refine a_ic rfl rfl br_gt (fun _ => ?_) (fun _ => ?_)) | (refine a_ic rfl rfl br_le (fun _ => ?_) (fun _ => ?_))) | (refine a_at isRt rfl ?_; first | refine a_iret rfl rfl rfl ?_ | refine a_zret rfl rfl ?_ ?_ | refine a_lret rfl rfl ?_ | refine a_ret rfl rfl ?_))
        | false =>
          have g0 : (false : Bool) = false := rfl
          repeat' (first | (refine x_go (t := 3) rfl ?_; refine x_lvs [(0, .ref b), (1, .int (nI e)), (2, .int lv), (3, .ref (P l)), (4, .int (nI n0)), (5, .long (stF (fun i => nI (v i)) (eAt es e).2.2.1)), (7, .long (mkF (stF (fun i => nI (v i)) (eAt es e).2.2.1) 7)), (9, .int (nI (k + 1)))] rfl rfl rfl ⟨rfl, rfl, rfl, rfl, rfl, rfl, rfl, rfl, trivial⟩ ?_; exact fin0) | refine x_kcg rfl ?_ | refine x_incg rfl rfl ?_ | refine x_opp rfl rfl ?_ | refine x_go (t := 99) rfl ?_ | (refine a_at isGf rfl ?_; first | refine m_getg s0 rfl rfl rfl ?_) | (refine a_at isPf rfl ?_; first | refine a_putI s0 rfl rfl rfl ?_ | refine a_putL s0 rfl rfl rfl ?_) | (refine a_at isAr rfl ?_; first | refine a_iald s0 rfl rfl ?_ ?_ | refine a_bald s0 rfl rfl ?_ ?_ | refine a_lald s0 rfl rfl ?_ ?_ | refine a_iast s0 rfl rfl ?_ ?_ | refine a_last s0 rfl rfl ?_ ?_ | refine a_bast s0 rfl rfl ?_ ?_ ?_) | (refine a_at isIf rfl ?_; first | (refine a_ifT rfl rfl br_eqz (by assumption) ?_) | (refine a_ifF rfl rfl br_eqz (by assumption) ?_) | (refine a_ifT rfl rfl br_nez (by assumption) ?_) | (refine a_ifF rfl rfl br_nez (by assumption) ?_) | (refine a_ifT rfl rfl br_eqz (nt_f (by assumption)) ?_) | (refine a_ifF rfl rfl br_eqz (tnf (by assumption)) ?_) | (refine a_ifF rfl rfl br_nez (fnt (by assumption)) ?_) | (refine a_if rfl rfl br_eqz (fun _ => ?_) (fun _ => ?_)) | (refine a_if rfl rfl br_nez (fun _ => ?_) (fun _ => ?_)) | (refine a_ifF rfl rfl br_ne (fun h => h (by assumption)) ?_) | (refine a_ifT rfl rfl br_eq (by assumption) ?_) | (refine a_ifF rfl rfl br_eq (by assumption) ?_) | (refine a_ifT rfl rfl br_ne (by assumption) ?_) | (refine a_ifF rfl rfl br_ne (by assumption) ?_) | (refine a_ifT rfl rfl br_lt (by assumption) ?_) | (refine a_ifF rfl rfl br_lt (by assumption) ?_) | (refine a_ifT rfl rfl br_ge (by assumption) ?_) | (refine a_ifF rfl rfl br_ge (by assumption) ?_) | (refine a_ifT rfl rfl br_gt (by assumption) ?_) | (refine a_ifF rfl rfl br_gt (by assumption) ?_) | (refine a_ifT rfl rfl br_le (by assumption) ?_) | (refine a_ifF rfl rfl br_le (by assumption) ?_) | (refine a_if rfl rfl br_eq (fun _ => ?_) (fun _ => ?_)) | (refine a_if rfl rfl br_ne (fun _ => ?_) (fun _ => ?_)) | (refine a_if rfl rfl br_lt (fun _ => ?_) (fun _ => ?_)) | (refine a_if rfl rfl br_ge (fun _ => ?_) (fun _ => ?_)) | (refine a_if rfl rfl br_gt (fun _ => ?_) (fun _ => ?_)) | (refine a_if rfl rfl br_le (fun _ => ?_) (fun _ => ?_))) | (refine a_at isIc rfl ?_; first | (refine a_icF rfl rfl br_ne (fun h => h (by assumption)) ?_) | (refine a_icT rfl rfl br_eq (by assumption) ?_) | (refine a_icF rfl rfl br_eq (by assumption) ?_) | (refine a_icT rfl rfl br_ne (by assumption) ?_) | (refine a_icF rfl rfl br_ne (by assumption) ?_) | (refine a_icT rfl rfl br_lt (by assumption) ?_) | (refine a_icF rfl rfl br_lt (by assumption) ?_) | (refine a_icT rfl rfl br_ge (by assumption) ?_) | (refine a_icF rfl rfl br_ge (by assumption) ?_) | (refine a_icT rfl rfl br_gt (by assumption) ?_) | (refine a_icF rfl rfl br_gt (by assumption) ?_) | (refine a_icT rfl rfl br_le (by assumption) ?_) | (refine a_icF rfl rfl br_le (by assumption) ?_) | (refine a_ic rfl rfl br_eq (fun _ => ?_) (fun _ => ?_)) | (refine a_ic rfl rfl br_ne (fun _ => ?_) (fun _ => ?_)) | (refine a_ic rfl rfl br_lt (fun _ => ?_) (fun _ => ?_)) | (refine a_ic rfl rfl br_ge (fun _ => ?_) (fun _ => ?_)) | (refine a_ic rfl rfl br_gt (fun _ => ?_) (fun _ => ?_)) | (refine a_ic rfl rfl br_le (fun _ => ?_) (fun _ => ?_))) | (refine a_at isRt rfl ?_; first | refine a_iret rfl rfl rfl ?_ | refine a_zret rfl rfl ?_ ?_ | refine a_lret rfl rfl ?_ | refine a_ret rfl rfl ?_))
      repeat (first | refine x_kcg rfl ?_ | refine x_opp rfl rfl ?_ | refine x_go rfl ?_)
      refine m_callS rfl rfl (c_lengthUpTo ?_)
      repeat (first | refine x_kcg rfl ?_ | refine x_opp rfl rfl ?_ | refine x_go rfl ?_ | refine m_getg s0 rfl rfl rfl ?_)
      refine m_get s1.1 rfl ?_
      repeat (first | refine x_kcg rfl ?_ | refine x_opp rfl rfl ?_ | refine x_go rfl ?_)
      refine m_iald s1.2.2.2.1 (vp_in_nI (by omega) (by decide)) ?_
      rw [nI_clamp (by omega), t2]
      by_cases g3 : lenU w 26 = nI (eAt es e).2.2.1
      · refine x_icm br_ne (fun h => absurd g3 h) (fun _ => ?_)
        repeat (first | refine x_kcg rfl ?_ | refine x_opp rfl rfl ?_ | refine x_go rfl ?_)
        by_cases g4 : (w ^^^ stF (fun i => nI (v i)) (eAt es e).2.2.1) &&& mkF (stF (fun i => nI (v i)) (eAt es e).2.2.1) 7 = 0
        · refine x_ifc br_lne (fun h => absurd g4 h) (fun _ => ?_)
          have fin := T9 true
          repeat' (first | (refine a_stop 9 rfl ?_; (refine x_lvs [(0, .ref b), (1, .int (nI e)), (2, .int lv), (3, .ref (P l)), (4, .int (nI n0)), (5, .long (stF (fun i => nI (v i)) (eAt es e).2.2.1)), (7, .long (mkF (stF (fun i => nI (v i)) (eAt es e).2.2.1) 7)), (9, .int (nI k)), (10, .long w)] rfl rfl rfl ⟨rfl, rfl, rfl, rfl, rfl, rfl, rfl, rfl, rfl, trivial⟩ ?_; exact fin)) | refine x_kcg rfl ?_ | refine x_incg rfl rfl ?_ | refine x_opp rfl rfl ?_ | refine x_go rfl ?_ | (refine a_at isIf rfl ?_; first | (refine a_ifT rfl rfl br_eqz (by assumption) ?_) | (refine a_ifF rfl rfl br_eqz (by assumption) ?_) | (refine a_ifT rfl rfl br_nez (by assumption) ?_) | (refine a_ifF rfl rfl br_nez (by assumption) ?_) | (refine a_ifT rfl rfl br_eqz (nt_f (by assumption)) ?_) | (refine a_ifF rfl rfl br_eqz (tnf (by assumption)) ?_) | (refine a_ifF rfl rfl br_nez (fnt (by assumption)) ?_) | (refine a_if rfl rfl br_eqz (fun _ => ?_) (fun _ => ?_)) | (refine a_if rfl rfl br_nez (fun _ => ?_) (fun _ => ?_)) | (refine a_ifF rfl rfl br_ne (fun h => h (by assumption)) ?_) | (refine a_ifT rfl rfl br_eq (by assumption) ?_) | (refine a_ifF rfl rfl br_eq (by assumption) ?_) | (refine a_ifT rfl rfl br_ne (by assumption) ?_) | (refine a_ifF rfl rfl br_ne (by assumption) ?_) | (refine a_ifT rfl rfl br_lt (by assumption) ?_) | (refine a_ifF rfl rfl br_lt (by assumption) ?_) | (refine a_ifT rfl rfl br_ge (by assumption) ?_) | (refine a_ifF rfl rfl br_ge (by assumption) ?_) | (refine a_ifT rfl rfl br_gt (by assumption) ?_) | (refine a_ifF rfl rfl br_gt (by assumption) ?_) | (refine a_ifT rfl rfl br_le (by assumption) ?_) | (refine a_ifF rfl rfl br_le (by assumption) ?_) | (refine a_if rfl rfl br_eq (fun _ => ?_) (fun _ => ?_)) | (refine a_if rfl rfl br_ne (fun _ => ?_) (fun _ => ?_)) | (refine a_if rfl rfl br_lt (fun _ => ?_) (fun _ => ?_)) | (refine a_if rfl rfl br_ge (fun _ => ?_) (fun _ => ?_)) | (refine a_if rfl rfl br_gt (fun _ => ?_) (fun _ => ?_)) | (refine a_if rfl rfl br_le (fun _ => ?_) (fun _ => ?_))) | (refine a_at isIc rfl ?_; first | (refine a_icF rfl rfl br_ne (fun h => h (by assumption)) ?_) | (refine a_icT rfl rfl br_eq (by assumption) ?_) | (refine a_icF rfl rfl br_eq (by assumption) ?_) | (refine a_icT rfl rfl br_ne (by assumption) ?_) | (refine a_icF rfl rfl br_ne (by assumption) ?_) | (refine a_icT rfl rfl br_lt (by assumption) ?_) | (refine a_icF rfl rfl br_lt (by assumption) ?_) | (refine a_icT rfl rfl br_ge (by assumption) ?_) | (refine a_icF rfl rfl br_ge (by assumption) ?_) | (refine a_icT rfl rfl br_gt (by assumption) ?_) | (refine a_icF rfl rfl br_gt (by assumption) ?_) | (refine a_icT rfl rfl br_le (by assumption) ?_) | (refine a_icF rfl rfl br_le (by assumption) ?_) | (refine a_ic rfl rfl br_eq (fun _ => ?_) (fun _ => ?_)) | (refine a_ic rfl rfl br_ne (fun _ => ?_) (fun _ => ?_)) | (refine a_ic rfl rfl br_lt (fun _ => ?_) (fun _ => ?_)) | (refine a_ic rfl rfl br_ge (fun _ => ?_) (fun _ => ?_)) | (refine a_ic rfl rfl br_gt (fun _ => ?_) (fun _ => ?_)) | (refine a_ic rfl rfl br_le (fun _ => ?_) (fun _ => ?_))) | (refine a_at isRt rfl ?_; first | refine a_iret rfl rfl rfl ?_ | refine a_zret rfl rfl ?_ ?_ | refine a_lret rfl rfl ?_ | refine a_ret rfl rfl ?_))
        · refine x_ifc br_lne (fun _ => ?_) (fun h => absurd g4 h)
          have fin := T9 false
          repeat' (first | (refine a_stop 9 rfl ?_; (refine x_lvs [(0, .ref b), (1, .int (nI e)), (2, .int lv), (3, .ref (P l)), (4, .int (nI n0)), (5, .long (stF (fun i => nI (v i)) (eAt es e).2.2.1)), (7, .long (mkF (stF (fun i => nI (v i)) (eAt es e).2.2.1) 7)), (9, .int (nI k)), (10, .long w)] rfl rfl rfl ⟨rfl, rfl, rfl, rfl, rfl, rfl, rfl, rfl, rfl, trivial⟩ ?_; exact fin)) | refine x_kcg rfl ?_ | refine x_incg rfl rfl ?_ | refine x_opp rfl rfl ?_ | refine x_go rfl ?_ | (refine a_at isIf rfl ?_; first | (refine a_ifT rfl rfl br_eqz (by assumption) ?_) | (refine a_ifF rfl rfl br_eqz (by assumption) ?_) | (refine a_ifT rfl rfl br_nez (by assumption) ?_) | (refine a_ifF rfl rfl br_nez (by assumption) ?_) | (refine a_ifT rfl rfl br_eqz (nt_f (by assumption)) ?_) | (refine a_ifF rfl rfl br_eqz (tnf (by assumption)) ?_) | (refine a_ifF rfl rfl br_nez (fnt (by assumption)) ?_) | (refine a_if rfl rfl br_eqz (fun _ => ?_) (fun _ => ?_)) | (refine a_if rfl rfl br_nez (fun _ => ?_) (fun _ => ?_)) | (refine a_ifF rfl rfl br_ne (fun h => h (by assumption)) ?_) | (refine a_ifT rfl rfl br_eq (by assumption) ?_) | (refine a_ifF rfl rfl br_eq (by assumption) ?_) | (refine a_ifT rfl rfl br_ne (by assumption) ?_) | (refine a_ifF rfl rfl br_ne (by assumption) ?_) | (refine a_ifT rfl rfl br_lt (by assumption) ?_) | (refine a_ifF rfl rfl br_lt (by assumption) ?_) | (refine a_ifT rfl rfl br_ge (by assumption) ?_) | (refine a_ifF rfl rfl br_ge (by assumption) ?_) | (refine a_ifT rfl rfl br_gt (by assumption) ?_) | (refine a_ifF rfl rfl br_gt (by assumption) ?_) | (refine a_ifT rfl rfl br_le (by assumption) ?_) | (refine a_ifF rfl rfl br_le (by assumption) ?_) | (refine a_if rfl rfl br_eq (fun _ => ?_) (fun _ => ?_)) | (refine a_if rfl rfl br_ne (fun _ => ?_) (fun _ => ?_)) | (refine a_if rfl rfl br_lt (fun _ => ?_) (fun _ => ?_)) | (refine a_if rfl rfl br_ge (fun _ => ?_) (fun _ => ?_)) | (refine a_if rfl rfl br_gt (fun _ => ?_) (fun _ => ?_)) | (refine a_if rfl rfl br_le (fun _ => ?_) (fun _ => ?_))) | (refine a_at isIc rfl ?_; first | (refine a_icF rfl rfl br_ne (fun h => h (by assumption)) ?_) | (refine a_icT rfl rfl br_eq (by assumption) ?_) | (refine a_icF rfl rfl br_eq (by assumption) ?_) | (refine a_icT rfl rfl br_ne (by assumption) ?_) | (refine a_icF rfl rfl br_ne (by assumption) ?_) | (refine a_icT rfl rfl br_lt (by assumption) ?_) | (refine a_icF rfl rfl br_lt (by assumption) ?_) | (refine a_icT rfl rfl br_ge (by assumption) ?_) | (refine a_icF rfl rfl br_ge (by assumption) ?_) | (refine a_icT rfl rfl br_gt (by assumption) ?_) | (refine a_icF rfl rfl br_gt (by assumption) ?_) | (refine a_icT rfl rfl br_le (by assumption) ?_) | (refine a_icF rfl rfl br_le (by assumption) ?_) | (refine a_ic rfl rfl br_eq (fun _ => ?_) (fun _ => ?_)) | (refine a_ic rfl rfl br_ne (fun _ => ?_) (fun _ => ?_)) | (refine a_ic rfl rfl br_lt (fun _ => ?_) (fun _ => ?_)) | (refine a_ic rfl rfl br_ge (fun _ => ?_) (fun _ => ?_)) | (refine a_ic rfl rfl br_gt (fun _ => ?_) (fun _ => ?_)) | (refine a_ic rfl rfl br_le (fun _ => ?_) (fun _ => ?_))) | (refine a_at isRt rfl ?_; first | refine a_iret rfl rfl rfl ?_ | refine a_zret rfl rfl ?_ ?_ | refine a_lret rfl rfl ?_ | refine a_ret rfl rfl ?_))
      · refine x_icm br_ne (fun _ => ?_) (fun h => absurd g3 h)
        have fin := T9 false
        repeat' (first | (refine a_stop 9 rfl ?_; (refine x_lvs [(0, .ref b), (1, .int (nI e)), (2, .int lv), (3, .ref (P l)), (4, .int (nI n0)), (5, .long (stF (fun i => nI (v i)) (eAt es e).2.2.1)), (7, .long (mkF (stF (fun i => nI (v i)) (eAt es e).2.2.1) 7)), (9, .int (nI k)), (10, .long w)] rfl rfl rfl ⟨rfl, rfl, rfl, rfl, rfl, rfl, rfl, rfl, rfl, trivial⟩ ?_; exact fin)) | refine x_kcg rfl ?_ | refine x_incg rfl rfl ?_ | refine x_opp rfl rfl ?_ | refine x_go rfl ?_ | (refine a_at isIf rfl ?_; first | (refine a_ifT rfl rfl br_eqz (by assumption) ?_) | (refine a_ifF rfl rfl br_eqz (by assumption) ?_) | (refine a_ifT rfl rfl br_nez (by assumption) ?_) | (refine a_ifF rfl rfl br_nez (by assumption) ?_) | (refine a_ifT rfl rfl br_eqz (nt_f (by assumption)) ?_) | (refine a_ifF rfl rfl br_eqz (tnf (by assumption)) ?_) | (refine a_ifF rfl rfl br_nez (fnt (by assumption)) ?_) | (refine a_if rfl rfl br_eqz (fun _ => ?_) (fun _ => ?_)) | (refine a_if rfl rfl br_nez (fun _ => ?_) (fun _ => ?_)) | (refine a_ifF rfl rfl br_ne (fun h => h (by assumption)) ?_) | (refine a_ifT rfl rfl br_eq (by assumption) ?_) | (refine a_ifF rfl rfl br_eq (by assumption) ?_) | (refine a_ifT rfl rfl br_ne (by assumption) ?_) | (refine a_ifF rfl rfl br_ne (by assumption) ?_) | (refine a_ifT rfl rfl br_lt (by assumption) ?_) | (refine a_ifF rfl rfl br_lt (by assumption) ?_) | (refine a_ifT rfl rfl br_ge (by assumption) ?_) | (refine a_ifF rfl rfl br_ge (by assumption) ?_) | (refine a_ifT rfl rfl br_gt (by assumption) ?_) | (refine a_ifF rfl rfl br_gt (by assumption) ?_) | (refine a_ifT rfl rfl br_le (by assumption) ?_) | (refine a_ifF rfl rfl br_le (by assumption) ?_) | (refine a_if rfl rfl br_eq (fun _ => ?_) (fun _ => ?_)) | (refine a_if rfl rfl br_ne (fun _ => ?_) (fun _ => ?_)) | (refine a_if rfl rfl br_lt (fun _ => ?_) (fun _ => ?_)) | (refine a_if rfl rfl br_ge (fun _ => ?_) (fun _ => ?_)) | (refine a_if rfl rfl br_gt (fun _ => ?_) (fun _ => ?_)) | (refine a_if rfl rfl br_le (fun _ => ?_) (fun _ => ?_))) | (refine a_at isIc rfl ?_; first | (refine a_icF rfl rfl br_ne (fun h => h (by assumption)) ?_) | (refine a_icT rfl rfl br_eq (by assumption) ?_) | (refine a_icF rfl rfl br_eq (by assumption) ?_) | (refine a_icT rfl rfl br_ne (by assumption) ?_) | (refine a_icF rfl rfl br_ne (by assumption) ?_) | (refine a_icT rfl rfl br_lt (by assumption) ?_) | (refine a_icF rfl rfl br_lt (by assumption) ?_) | (refine a_icT rfl rfl br_ge (by assumption) ?_) | (refine a_icF rfl rfl br_ge (by assumption) ?_) | (refine a_icT rfl rfl br_gt (by assumption) ?_) | (refine a_icF rfl rfl br_gt (by assumption) ?_) | (refine a_icT rfl rfl br_le (by assumption) ?_) | (refine a_icF rfl rfl br_le (by assumption) ?_) | (refine a_ic rfl rfl br_eq (fun _ => ?_) (fun _ => ?_)) | (refine a_ic rfl rfl br_ne (fun _ => ?_) (fun _ => ?_)) | (refine a_ic rfl rfl br_lt (fun _ => ?_) (fun _ => ?_)) | (refine a_ic rfl rfl br_ge (fun _ => ?_) (fun _ => ?_)) | (refine a_ic rfl rfl br_gt (fun _ => ?_) (fun _ => ?_)) | (refine a_ic rfl rfl br_le (fun _ => ?_) (fun _ => ?_))) | (refine a_at isRt rfl ?_; first | refine a_iret rfl rfl rfl ?_ | refine a_zret rfl rfl ?_ ?_ | refine a_lret rfl rfl ?_ | refine a_ret rfl rfl ?_))
theorem c_gatherFor {es : List eT} {e l B : Nat} {f : Nat → Int32} {v : Nat → Nat} (hb1 : 13 ≤ b) (hb2 : b ≤ 28) (hs : srSh (sh0 ++ dy) b) (hE : lOK E n) (hl : l < n) (hL : cLs (sh0 ++ dy) M E P n) (ht : tabIs M (b + 1) (b + 2) (b + 3) (b + 4) (b + 5) es) (h42 : es.length ≤ 42) (he : e < es.length) (hok : eOK (eAt es e)) (hv : ∀ i, i < (eAt es e).2.2.1 → v i < 32 ∧ sg5 (M.1 (b + 10) (mPl (eAt es e) i)) = v i) (tr : cTr M (B, f)) (h5 : M.1 1 5 = 0)
    (hS : (gL E l v (eAt es e).2.2.1).2.1 = 0 → ∀ M', kF M M' b e 0 → cCl M' b e (gL E l v (eAt es e).2.2.1).2.2 → cTr M' (trc (B, f) (gL E l v (eAt es e).2.2.1).1) → Q (some (.int 1)) (wm (sh0 ++ dy) M'))
    (hF : (gL E l v (eAt es e).2.2.1).2.1 ≠ 0 → ∀ M', kF M M' b e (gL E l v (eAt es e).2.2.1).2.1 → cTr M' (trc (B, f) (gL E l v (eAt es e).2.2.1).1) → Q (some (.int 0)) (wm (sh0 ++ dy) M')) : sm_E L xs (d + 2 * l + 8) 91 [.ref b, .int (nI e), .int (nI l)] (wm (sh0 ++ dy) M) Q := by
  have hs' := hs
  obtain ⟨s0, s1, s6, s7, s8, -, s10, -⟩ := hs
  have h7 : (eAt es e).2.2.1 ≤ 7 := by
    have := hok.2.2
    split at this <;> omega
  have f0 : kF M (m_setI M (b + 7) e 0) b e 0 := ⟨⟨rfl, fun a _ _ _ x _ => mI_ne _ _ _ x, fun j hj => by rw [mI_at, if_neg (fun h => hj h.2)], fun _ _ => rfl, fun _ _ => rfl⟩, by rw [mI_ne _ _ _ (by omega)]; exact h5, by rw [if_pos rfl, mI_ne _ _ _ (by omega)]⟩
  have L0 := kF_ls hb2 f0 hL
  have tr0 : cTr (m_setI M (b + 7) e 0) (B, f) := by
    unfold cTr
    rw [mI_ne _ _ _ (by omega), mI_ne _ _ _ (by omega)]
    exact tr
  have h50 : (m_setI M (b + 7) e 0).1 1 5 = 0 := f0.2.1
  have c0 : cCl (m_setI M (b + 7) e 0) b e [] := ⟨by rw [mI_at, if_pos ⟨rfl, rfl⟩]; rfl, fun j hj => absurd hj (Nat.not_lt_zero j)⟩
  generalize hM0 : m_setI M (b + 7) e 0 = M0 at f0 L0 tr0 h50 c0
  refine e_intro rfl rfl ?_
  repeat (first | refine x_kcg rfl ?_ | refine x_opp rfl rfl ?_ | refine x_go rfl ?_ | refine m_getg s0 rfl rfl rfl ?_)
  refine m_iast s7 (vp_in_nI (by omega) (by decide)) ?_
  rw [nI_clamp (by omega), hM0]
  repeat (first | refine x_kcg rfl ?_ | refine x_opp rfl rfl ?_ | refine x_go rfl ?_ | refine m_getg s0 rfl rfl rfl ?_)
  refine m_callV (s_4 dy) rfl rfl rfl (c_want (d := d + 2 * l + 4) hE hl L0 (fun hd => ?_) (fun hd => ?_))
  · obtain ⟨-, sa, -⟩ := L0.2 l hl
    obtain ⟨sx, v1, v2⟩ := cSh_v sa
    repeat (first | refine x_kcg rfl ?_ | refine x_opp rfl rfl ?_ | refine x_go rfl ?_)
    refine x_ifnonR ?_
    repeat (first | refine x_kcg rfl ?_ | refine x_opp rfl rfl ?_ | refine x_go rfl ?_)
    refine m_callV v1 (v2 _ _ _).2.1 rfl rfl (e_up (by omega : d + 2 * l + 6 ≤ d + 2 * l + 7) (c_many hE l hl hd d 0 M0 B f _ L0 tr0 h50 (fun r0 M2 ct => ?_) (fun r0 M2 xx cf => ?_)))
    · have f2 := kF_cft hb1 f0 ct
      have t2 : tabIs M2 (b + 1) (b + 2) (b + 3) (b + 4) (b + 5) es := by
        unfold tabIs
        rw [f2.1.2.1 (b + 1) (by omega) (by omega) (by omega) (by omega) (by omega), f2.1.2.1 (b + 2) (by omega) (by omega) (by omega) (by omega) (by omega), f2.1.2.1 (b + 3) (by omega) (by omega) (by omega) (by omega) (by omega), f2.1.2.1 (b + 4) (by omega) (by omega) (by omega) (by omega) (by omega), f2.1.2.1 (b + 5) (by omega) (by omega) (by omega) (by omega) (by omega)]
        exact ht
      have c2 : cCl M2 b e [] := by
        unfold cCl
        rw [ct.2.1 (b + 7) (by omega) (by omega), ct.2.1 (b + 8) (by omega) (by omega), ct.1]
        exact c0
      obtain ⟨m0, hm0, em0⟩ := (askF_val hE l hl 1 0 r0).2.1 rfl
      have en : (askF E l 1 0).2.2.toInt32 = nI m0 := by rw [em0, k64_i]
      unfold gL at hS hF
      rw [if_neg (fun h => h r0), en, nI_clamp (by omega)] at hS hF
      repeat (first | refine x_kcg rfl ?_ | refine x_opp rfl rfl ?_ | refine x_go rfl ?_ | refine m_getg s0 rfl rfl rfl ?_)
      refine m_callV s1.1 rfl rfl rfl (c_stand3 (v := v) hs' t2 h42 he hok (fun i hi => ?_) ?_)
      · rw [f2.1.2.1 (b + 10) (by omega) (by omega) (by omega) (by omega) (by omega)]
        exact (hv i hi).2
      · repeat (first | refine x_kcg rfl ?_ | refine x_opp rfl rfl ?_ | refine x_go rfl ?_)
        refine m_callS rfl rfl (c_maskOf ?_)
        have fin := l_gather (L := L) (xs := xs) (d := d) (Q := Q) (lv := nI l) hb1 hb2 hs' hE hl hd hL ht h42 he hok (fun i hi => (hv i hi).1) hm0 m0 0 [] M2 (trc (B, f) (askF E l 1 0).1) (by omega) f2 c2 (Nat.zero_le _) ct.2.2.2 (fun q0 M' q1 q2 q3 => hS q0 M' q1 q2 (by rw [trc_app]; exact q3)) (fun q0 M' q1 q2 => hF q0 M' q1 (by rw [trc_app]; exact q2))
        rw [← en] at fin
        repeat (first | refine x_kcg rfl ?_ | refine x_incg rfl rfl ?_ | refine x_opp rfl rfl ?_)
        refine x_fall ?_
        refine x_lvs [(0, .ref b), (1, .int (nI e)), (2, .int (nI l)), (3, .ref (P l)), (4, .int (askF E l 1 0).2.2.toInt32), (5, .long (stF (fun i => nI (v i)) (eAt es e).2.2.1)), (7, .long (mkF (stF (fun i => nI (v i)) (eAt es e).2.2.1) 7)), (9, .int (nI 0))] rfl rfl rfl ⟨rfl, rfl, rfl, rfl, rfl, rfl, rfl, rfl, trivial⟩ ?_
        exact fin
    · have f2 := kF_cff hb1 r0 f0 cf
      have t2 : tabIs M2 (b + 1) (b + 2) (b + 3) (b + 4) (b + 5) es := by
        unfold tabIs
        rw [f2.1.2.1 (b + 1) (by omega) (by omega) (by omega) (by omega) (by omega), f2.1.2.1 (b + 2) (by omega) (by omega) (by omega) (by omega) (by omega), f2.1.2.1 (b + 3) (by omega) (by omega) (by omega) (by omega) (by omega), f2.1.2.1 (b + 4) (by omega) (by omega) (by omega) (by omega) (by omega), f2.1.2.1 (b + 5) (by omega) (by omega) (by omega) (by omega) (by omega)]
        exact ht
      have hne : M2.1 1 5 ≠ 0 := by
        rw [f2.2.1]
        intro h
        have := askF_f hE l hl 1 0
        exact r0 ((nI_eq (b := 0) (by omega) (by decide)).mp h)
      have hmet : zz (decide (M2.1 1 5 ≠ 0)) = 1 := by rw [decide_eq_true hne]; rfl
      unfold gL at hF
      rw [if_pos r0] at hF
      have fin := hF r0 M2 f2 cf.2.2.2.1
      have z := z10
      repeat (first | refine x_kcg rfl ?_ | refine x_opp rfl rfl ?_ | refine x_go rfl ?_ | refine m_getg s0 rfl rfl rfl ?_)
      refine m_callV s1.1 rfl rfl rfl (c_stand3 (v := v) hs' t2 h42 he hok (fun i hi => ?_) ?_)
      · rw [f2.1.2.1 (b + 10) (by omega) (by omega) (by omega) (by omega) (by omega)]
        exact (hv i hi).2
      · repeat (first | refine x_kcg rfl ?_ | refine x_opp rfl rfl ?_ | refine x_go rfl ?_)
        refine m_callS rfl rfl (c_maskOf ?_)
        repeat (first | refine x_kcg rfl ?_ | refine x_incg rfl rfl ?_ | refine x_opp rfl rfl ?_)
        refine x_fall ?_
        by_cases g : xx ≤ 0
        · repeat' (first | refine x_kcg rfl ?_ | refine x_incg rfl rfl ?_ | refine x_opp rfl rfl ?_ | refine x_go rfl ?_ | (refine a_at isGf rfl ?_; first | refine m_getg s0 rfl rfl rfl ?_) | (refine a_at isPf rfl ?_; first | refine a_putI s0 rfl rfl rfl ?_ | refine a_putL s0 rfl rfl rfl ?_) | (refine a_at isIv rfl ?_; first | (refine a_callV (s_1 dy) rfl rfl rfl rfl (c_met (s_1 dy) ?_); rw [hmet])) | (refine a_at isAr rfl ?_; first | refine a_iald s0 rfl rfl ?_ ?_ | refine a_bald s0 rfl rfl ?_ ?_ | refine a_lald s0 rfl rfl ?_ ?_ | refine a_iast s0 rfl rfl ?_ ?_ | refine a_last s0 rfl rfl ?_ ?_ | refine a_bast s0 rfl rfl ?_ ?_ ?_) | (refine a_at isIf rfl ?_; first | (refine a_ifT rfl rfl br_eqz (by assumption) ?_) | (refine a_ifF rfl rfl br_eqz (by assumption) ?_) | (refine a_ifT rfl rfl br_nez (by assumption) ?_) | (refine a_ifF rfl rfl br_nez (by assumption) ?_) | (refine a_ifT rfl rfl br_eqz (nt_f (by assumption)) ?_) | (refine a_ifF rfl rfl br_eqz (tnf (by assumption)) ?_) | (refine a_ifF rfl rfl br_nez (fnt (by assumption)) ?_) | (refine a_if rfl rfl br_eqz (fun _ => ?_) (fun _ => ?_)) | (refine a_if rfl rfl br_nez (fun _ => ?_) (fun _ => ?_)) | (refine a_ifF rfl rfl br_ne (fun h => h (by assumption)) ?_) | (refine a_ifT rfl rfl br_eq (by assumption) ?_) | (refine a_ifF rfl rfl br_eq (by assumption) ?_) | (refine a_ifT rfl rfl br_ne (by assumption) ?_) | (refine a_ifF rfl rfl br_ne (by assumption) ?_) | (refine a_ifT rfl rfl br_lt (by assumption) ?_) | (refine a_ifF rfl rfl br_lt (by assumption) ?_) | (refine a_ifT rfl rfl br_ge (by assumption) ?_) | (refine a_ifF rfl rfl br_ge (by assumption) ?_) | (refine a_ifT rfl rfl br_gt (by assumption) ?_) | (refine a_ifF rfl rfl br_gt (by assumption) ?_) | (refine a_ifT rfl rfl br_le (by assumption) ?_) | (refine a_ifF rfl rfl br_le (by assumption) ?_) | (refine a_if rfl rfl br_eq (fun _ => ?_) (fun _ => ?_)) | (refine a_if rfl rfl br_ne (fun _ => ?_) (fun _ => ?_)) | (refine a_if rfl rfl br_lt (fun _ => ?_) (fun _ => ?_)) | (refine a_if rfl rfl br_ge (fun _ => ?_) (fun _ => ?_)) | (refine a_if rfl rfl br_gt (fun _ => ?_) (fun _ => ?_)) | (refine a_if rfl rfl br_le (fun _ => ?_) (fun _ => ?_))) | (refine a_at isIc rfl ?_; first | (refine a_icF rfl rfl br_ne (fun h => h (by assumption)) ?_) | (refine a_icT rfl rfl br_eq (by assumption) ?_) | (refine a_icF rfl rfl br_eq (by assumption) ?_) | (refine a_icT rfl rfl br_ne (by assumption) ?_) | (refine a_icF rfl rfl br_ne (by assumption) ?_) | (refine a_icT rfl rfl br_lt (by assumption) ?_) | (refine a_icF rfl rfl br_lt (by assumption) ?_) | (refine a_icT rfl rfl br_ge (by assumption) ?_) | (refine a_icF rfl rfl br_ge (by assumption) ?_) | (refine a_icT rfl rfl br_gt (by assumption) ?_) | (refine a_icF rfl rfl br_gt (by assumption) ?_) | (refine a_icT rfl rfl br_le (by assumption) ?_) | (refine a_icF rfl rfl br_le (by assumption) ?_) | (refine a_ic rfl rfl br_eq (fun _ => ?_) (fun _ => ?_)) | (refine a_ic rfl rfl br_ne (fun _ => ?_) (fun _ => ?_)) | (refine a_ic rfl rfl br_lt (fun _ => ?_) (fun _ => ?_)) | (refine a_ic rfl rfl br_ge (fun _ => ?_) (fun _ => ?_)) | (refine a_ic rfl rfl br_gt (fun _ => ?_) (fun _ => ?_)) | (refine a_ic rfl rfl br_le (fun _ => ?_) (fun _ => ?_))) | (refine a_at isRt rfl ?_; first | refine a_iret rfl rfl rfl ?_ | refine a_zret rfl rfl ?_ ?_ | refine a_lret rfl rfl ?_ | refine a_ret rfl rfl ?_))
          · exact Or.inl rfl
          · exact fin
        · repeat' (first | refine x_kcg rfl ?_ | refine x_incg rfl rfl ?_ | refine x_opp rfl rfl ?_ | refine x_go rfl ?_ | (refine a_at isGf rfl ?_; first | refine m_getg s0 rfl rfl rfl ?_) | (refine a_at isPf rfl ?_; first | refine a_putI s0 rfl rfl rfl ?_ | refine a_putL s0 rfl rfl rfl ?_) | (refine a_at isIv rfl ?_; first | (refine a_callV (s_1 dy) rfl rfl rfl rfl (c_met (s_1 dy) ?_); rw [hmet])) | (refine a_at isAr rfl ?_; first | refine a_iald s0 rfl rfl ?_ ?_ | refine a_bald s0 rfl rfl ?_ ?_ | refine a_lald s0 rfl rfl ?_ ?_ | refine a_iast s0 rfl rfl ?_ ?_ | refine a_last s0 rfl rfl ?_ ?_ | refine a_bast s0 rfl rfl ?_ ?_ ?_) | (refine a_at isIf rfl ?_; first | (refine a_ifT rfl rfl br_eqz (by assumption) ?_) | (refine a_ifF rfl rfl br_eqz (by assumption) ?_) | (refine a_ifT rfl rfl br_nez (by assumption) ?_) | (refine a_ifF rfl rfl br_nez (by assumption) ?_) | (refine a_ifT rfl rfl br_eqz (nt_f (by assumption)) ?_) | (refine a_ifF rfl rfl br_eqz (tnf (by assumption)) ?_) | (refine a_ifF rfl rfl br_nez (fnt (by assumption)) ?_) | (refine a_if rfl rfl br_eqz (fun _ => ?_) (fun _ => ?_)) | (refine a_if rfl rfl br_nez (fun _ => ?_) (fun _ => ?_)) | (refine a_ifF rfl rfl br_ne (fun h => h (by assumption)) ?_) | (refine a_ifT rfl rfl br_eq (by assumption) ?_) | (refine a_ifF rfl rfl br_eq (by assumption) ?_) | (refine a_ifT rfl rfl br_ne (by assumption) ?_) | (refine a_ifF rfl rfl br_ne (by assumption) ?_) | (refine a_ifT rfl rfl br_lt (by assumption) ?_) | (refine a_ifF rfl rfl br_lt (by assumption) ?_) | (refine a_ifT rfl rfl br_ge (by assumption) ?_) | (refine a_ifF rfl rfl br_ge (by assumption) ?_) | (refine a_ifT rfl rfl br_gt (by assumption) ?_) | (refine a_ifF rfl rfl br_gt (by assumption) ?_) | (refine a_ifT rfl rfl br_le (by assumption) ?_) | (refine a_ifF rfl rfl br_le (by assumption) ?_) | (refine a_if rfl rfl br_eq (fun _ => ?_) (fun _ => ?_)) | (refine a_if rfl rfl br_ne (fun _ => ?_) (fun _ => ?_)) | (refine a_if rfl rfl br_lt (fun _ => ?_) (fun _ => ?_)) | (refine a_if rfl rfl br_ge (fun _ => ?_) (fun _ => ?_)) | (refine a_if rfl rfl br_gt (fun _ => ?_) (fun _ => ?_)) | (refine a_if rfl rfl br_le (fun _ => ?_) (fun _ => ?_))) | (refine a_at isIc rfl ?_; first | (refine a_icF rfl rfl br_ne (fun h => h (by assumption)) ?_) | (refine a_icT rfl rfl br_eq (by assumption) ?_) | (refine a_icF rfl rfl br_eq (by assumption) ?_) | (refine a_icT rfl rfl br_ne (by assumption) ?_) | (refine a_icF rfl rfl br_ne (by assumption) ?_) | (refine a_icT rfl rfl br_lt (by assumption) ?_) | (refine a_icF rfl rfl br_lt (by assumption) ?_) | (refine a_icT rfl rfl br_ge (by assumption) ?_) | (refine a_icF rfl rfl br_ge (by assumption) ?_) | (refine a_icT rfl rfl br_gt (by assumption) ?_) | (refine a_icF rfl rfl br_gt (by assumption) ?_) | (refine a_icT rfl rfl br_le (by assumption) ?_) | (refine a_icF rfl rfl br_le (by assumption) ?_) | (refine a_ic rfl rfl br_eq (fun _ => ?_) (fun _ => ?_)) | (refine a_ic rfl rfl br_ne (fun _ => ?_) (fun _ => ?_)) | (refine a_ic rfl rfl br_lt (fun _ => ?_) (fun _ => ?_)) | (refine a_ic rfl rfl br_ge (fun _ => ?_) (fun _ => ?_)) | (refine a_ic rfl rfl br_gt (fun _ => ?_) (fun _ => ?_)) | (refine a_ic rfl rfl br_le (fun _ => ?_) (fun _ => ?_))) | (refine a_at isRt rfl ?_; first | refine a_iret rfl rfl rfl ?_ | refine a_zret rfl rfl ?_ ?_ | refine a_lret rfl rfl ?_ | refine a_ret rfl rfl ?_))
          · exact Or.inl rfl
          · exact fin
  · have r0 : askF E l 1 0 = ([], 1, 0) := askF_dr hE hl hd 1 0
    unfold gL at hF
    rw [r0, if_pos (by decide)] at hF
    have f1 := kF_cff hb1 (by decide : (1 : Nat) ≠ 0) f0 (cff_find (k := 1) tr0 (by decide))
    have fin := hF (by decide) _ f1 (cff_find (k := 1) tr0 (by decide)).2.2.2.1
    repeat (first | refine x_kcg rfl ?_ | refine x_opp rfl rfl ?_ | refine x_go rfl ?_)
    refine x_ifnonN ?_
    repeat (first | refine x_kcg rfl ?_ | refine x_opp rfl rfl ?_ | refine x_go rfl ?_)
    exact x_zret (Or.inl rfl) fin
end CG
