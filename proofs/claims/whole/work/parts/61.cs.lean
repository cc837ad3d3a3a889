/-! the searching of the desk: its steps -/
def srSh (sh : List sh_T) (b : Nat) : Prop := sh[b]? = some (searchS 1 4 (b + 1) (b + 6) (b + 7) (b + 8) (b + 9) (b + 10) (b + 11) (b + 12) (b + 13) (b + 14)) ∧ tSh sh (b + 1) (b + 2) (b + 3) (b + 4) (b + 5) ∧ sh[b + 6]? = some (arrL 1680) ∧ sh[b + 7]? = some (arrI 42) ∧ sh[b + 8]? = some (arrI 40) ∧ sh[b + 9]? = some (arrI 42) ∧ sh[b + 10]? = some (arrI 49) ∧ sh[b + 11]? = some (arrI 42) ∧ sh[b + 12]? = some (arrL 42) ∧ sh[b + 13]? = some (arrL 42) ∧ sh[b + 14]? = some (arrL 42)
theorem srSh_13 (dy : List sh_T) : srSh (sh0 ++ dy) 13 := ⟨rfl, ⟨rfl, rfl, rfl, rfl, rfl, by decide, by decide, by decide, by decide, by decide, by decide, by decide, by decide, by decide, by decide⟩, rfl, rfl, rfl, rfl, rfl, rfl, rfl, rfl, rfl⟩
theorem srSh_28 (dy : List sh_T) : srSh (sh0 ++ dy) 28 := ⟨rfl, ⟨rfl, rfl, rfl, rfl, rfl, by decide, by decide, by decide, by decide, by decide, by decide, by decide, by decide, by decide, by decide⟩, rfl, rfl, rfl, rfl, rfl, rfl, rfl, rfl, rfl⟩
def cD (M : mm_T) (b : Nat) (D : sD) : Prop := tabIs M (b + 1) (b + 2) (b + 3) (b + 4) (b + 5) D.1 ∧ (∀ e, e < D.1.length → M.1 (b + 7) e = nI (D.2.1 e).length) ∧ (∀ e k, e < D.1.length → k < (D.2.1 e).length → M.2.1 (b + 6) (40 * e + k) = (D.2.1 e).getD k 0) ∧ ∀ k, k < D.1.length → M.1 (b + 9) k = nI (D.2.2.1 k)
def cS (M : mm_T) (b : Nat) (D : sD) (S : sS) : Prop := M.1 b 12 = nI S.1 ∧ (∀ k, k ≤ S.1 → k < D.1.length → M.1 (b + 11) k = nI (S.2.1 k)) ∧ (∀ k, k < S.1 → M.2.1 (b + 14) k = S.2.2 k) ∧ (∀ k, k ≤ S.1 → k < D.1.length → M.2.1 (b + 12) k = stF (fun i => nI (sB D S.2.2 k (mPl (sE D k) i))) (sE D k).2.2.1 ∧ M.2.1 (b + 13) k = mkF (M.2.1 (b + 12) k) 7) ∧ ∀ e, e ∈ D.1 → ∀ i, i < e.2.2.1 → sg5 (M.1 (b + 10) (mPl e i)) = sB D S.2.2 S.1 (mPl e i)
/-- what a searching's steps may change -/
def sFr (M M' : mm_T) (b : Nat) : Prop := M'.2.2 = M.2.2 ∧ (∀ a, a ≠ b → a ≠ b + 10 → a ≠ b + 11 → M'.1 a = M.1 a) ∧ (∀ a, a < b + 12 ∨ b + 14 < a → M'.2.1 a = M.2.1 a) ∧ M'.1 b 14 = M.1 b 14 ∧ M'.1 b 16 = M.1 b 16
theorem sFr_rfl (M : mm_T) (b : Nat) : sFr M M b := ⟨rfl, fun _ _ _ _ => rfl, fun _ _ => rfl, rfl, rfl⟩
theorem sFr_tr {M M1 M2 : mm_T} {b : Nat} (h : sFr M M1 b) (h2 : sFr M1 M2 b) : sFr M M2 b := ⟨h2.1.trans h.1, fun a x y z => (h2.2.1 a x y z).trans (h.2.1 a x y z), fun a x => (h2.2.2.1 a x).trans (h.2.2.1 a x), h2.2.2.2.1.trans h.2.2.2.1, h2.2.2.2.2.trans h.2.2.2.2⟩
theorem cD_fr {M M1 : mm_T} {b : Nat} {D : sD} (h : sFr M M1 b) (hd : cD M b D) : cD M1 b D := by
  unfold cD tabIs
  rw [h.2.1 (b + 1) (by omega) (by omega) (by omega), h.2.1 (b + 2) (by omega) (by omega) (by omega), h.2.1 (b + 3) (by omega) (by omega) (by omega), h.2.1 (b + 4) (by omega) (by omega) (by omega), h.2.1 (b + 5) (by omega) (by omega) (by omega), h.2.1 (b + 7) (by omega) (by omega) (by omega), h.2.1 (b + 9) (by omega) (by omega) (by omega), h.2.2.1 (b + 6) (by omega)]
  exact hd
theorem tCell_eq {M : mm_T} {t sa dn le nu : Nat} {es : List eT} {k : Nat} (h : tabIs M t sa dn le nu es) (hk : k < es.length) (i : Nat) : tCell (M.1 sa) (M.1 dn) k (nI i) = nI (mPl (eAt es k) i) ∧ M.1 le k = nI (eAt es k).2.2.1 := by
  obtain ⟨h1, h2, h3, -⟩ := h.2 k _ (eAt_get hk)
  refine ⟨?_, h3⟩
  unfold tCell mPl
  rw [h1, h2]
  cases (eAt es k).2.1 with
  | true =>
    have e : (if zz true = 0 then (1 : Int32) else 7) = nI 7 := if_neg z10
    rw [e, pk_mul, nI_add]
    rfl
  | false =>
    have e : (if zz false = 0 then (1 : Int32) else 7) = nI 1 := if_pos z00
    rw [e, pk_mul, nI_add]
    rfl
theorem stF_ext {f g : Nat → Int32} : ∀ {n}, (∀ i, i < n → f i &&& 31 = g i &&& 31) → stF f n = stF g n
  | 0, _ => rfl
  | n + 1, h => by
    have e : stF f n = stF g n := stF_ext (fun i hi => h i (Nat.lt_succ_of_lt hi))
    have e2 : f n &&& 31 = g n &&& 31 := h n (Nat.lt_succ_self n)
    show stF f n ||| ((f n &&& 31).toInt64 <<< ((5 * nI n).toInt64 &&& 63)) = stF g n ||| ((g n &&& 31).toInt64 <<< ((5 * nI n).toInt64 &&& 63))
    rw [e, e2]
/-- letters written into an entry's squares -/
def wrF (f : Nat → Int32) (e : eT) (w : Int64) : Nat → Nat → Int32
  | 0 => f
  | k + 1 => upd (wrF f e w k) (mPl e k) (nI (lt5 w k))
theorem wrF_sg {f : Nat → Int32} {b : Nat → Nat} {e : eT} {w : Int64} {s : Nat} (h : sg5 (f s) = b s) : ∀ k, sg5 (wrF f e w k s) = putN b e (lt5 w) k s
  | 0 => h
  | k + 1 => by
    have ih := wrF_sg (e := e) (w := w) h k
    have e1 : wrF f e w (k + 1) s = if s = mPl e k then nI (lt5 w k) else wrF f e w k s := rfl
    have e2 : putN b e (lt5 w) (k + 1) s = if s = mPl e k then lt5 w k else putN b e (lt5 w) k s := rfl
    rw [e1, e2]
    by_cases g : s = mPl e k
    · rw [if_pos g, if_pos g]
      exact (n32_dec _ (lt5_lt w k)).2.1
    · rw [if_neg g, if_neg g]
      exact ih
section CS
variable {L : Nat} {xs : Nat → Int32} {d : Nat} {sh : List sh_T} {M : mm_T} {Q : Option Value → sm_W → Prop} {b : Nat} {D : sD} {S : sS}
theorem c_write {x : Nat} {w : Int64} (hs : srSh sh b) (hd : dOK D) (hD : cD M b D) (hx : x < D.1.length) (hq : Q none (wm sh (m_setA M (b + 10) (wrF (M.1 (b + 10)) (eAt D.1 x) w (eAt D.1 x).2.2.1)))) : sm_E L xs (d + 2) 101 [.ref b, .int (nI x), .long w] (wm sh M) Q := by
  obtain ⟨s0, s1, -, -, -, -, s10, -⟩ := hs
  have hok : eOK (eAt D.1 x) := hd.2.1 _ (List.mem_of_getElem? (eAt_get hx))
  have h42 := hd.1
  have h7 : (eAt D.1 x).2.2.1 ≤ 7 := by
    have := hok.2.2
    split at this <;> omega
  have fr : ∀ g, ∀ a, a ≠ b + 10 → (m_setA M (b + 10) g).1 a = M.1 a := fun g a ha => mA_ne _ _ ha
  have tb : ∀ g, tabIs (m_setA M (b + 10) g) (b + 1) (b + 2) (b + 3) (b + 4) (b + 5) D.1 := by
    intro g
    unfold tabIs
    rw [fr g (b + 1) (by omega), fr g (b + 2) (by omega), fr g (b + 3) (by omega), fr g (b + 4) (by omega), fr g (b + 5) (by omega)]
    exact hD.1
  refine e_intro rfl rfl ?_
  have lp : sm_X L xs (d + 1) 101 1 (sm_code 101 1) [(0, .ref b), (1, .int (nI x)), (2, .long w), (4, .int (nI 0))] [] (wm sh (m_setA M (b + 10) (wrF (M.1 (b + 10)) (eAt D.1 x) w 0))) Q := by
    refine loop_dn (P := fun k => sm_X L xs (d + 1) 101 1 (sm_code 101 1) [(0, .ref b), (1, .int (nI x)), (2, .long w), (4, .int (nI k))] [] (wm sh (m_setA M (b + 10) (wrF (M.1 (b + 10)) (eAt D.1 x) w k))) Q) (eAt D.1 x).2.2.1 ?_ ?_
    · obtain ⟨-, tl⟩ := tCell_eq (tb (wrF (M.1 (b + 10)) (eAt D.1 x) w (eAt D.1 x).2.2.1)) hx 0
      repeat (first | refine x_kcg rfl ?_ | refine x_opp rfl rfl ?_ | refine x_go rfl ?_ | refine m_getg s0 rfl rfl rfl ?_)
      refine m_get s1.1 rfl ?_
      repeat (first | refine x_kcg rfl ?_ | refine x_opp rfl rfl ?_ | refine x_go rfl ?_)
      refine m_iald s1.2.2.2.1 (vp_in_nI (by omega) (by decide)) ?_
      rw [nI_clamp (by omega), tl]
      refine x_icm br_ge (fun _ => ?_) (fun h => absurd (nI_le (Nat.le_refl _) (by omega)) h)
      exact x_ret hq
    · intro k hk ih
      obtain ⟨tc, tl⟩ := tCell_eq (tb (wrF (M.1 (b + 10)) (eAt D.1 x) w k)) hx k
      have hm := mPl_lt hok hk
      repeat (first | refine x_kcg rfl ?_ | refine x_opp rfl rfl ?_ | refine x_go rfl ?_ | refine m_getg s0 rfl rfl rfl ?_)
      refine m_get s1.1 rfl ?_
      repeat (first | refine x_kcg rfl ?_ | refine x_opp rfl rfl ?_ | refine x_go rfl ?_)
      refine m_iald s1.2.2.2.1 (vp_in_nI (by omega) (by decide)) ?_
      rw [nI_clamp (by omega), tl]
      refine x_icm br_ge (fun h => absurd h (nI_ge hk (by omega))) (fun _ => ?_)
      repeat (first | refine x_kcg rfl ?_ | refine x_opp rfl rfl ?_ | refine x_go rfl ?_ | refine m_getg s0 rfl rfl rfl ?_)
      refine m_callV s1.1 rfl rfl rfl (c_cellOf s1 (by omega) ?_)
      rw [tc]
      repeat (first | refine x_kcg rfl ?_ | refine x_opp rfl rfl ?_ | refine x_go rfl ?_)
      refine m_callS rfl rfl (c_letterOf ?_)
      rw [ltr_eq w (by omega)]
      repeat (first | refine x_kcg rfl ?_ | refine x_opp rfl rfl ?_ | refine x_go rfl ?_)
      refine m_iast s10 (vp_in_nI hm (by decide)) ?_
      rw [nI_clamp (by omega), mA_I]
      repeat (first | refine x_kcg rfl ?_ | refine x_incg rfl rfl ?_ | refine x_opp rfl rfl ?_)
      refine x_goto ?_
      refine x_lvs [(0, .ref b), (1, .int (nI x)), (2, .long w), (4, .int (nI (k + 1)))] rfl rfl rfl ⟨rfl, rfl, rfl, rfl, trivial⟩ ?_
      exact ih
  rw [show wrF (M.1 (b + 10)) (eAt D.1 x) w 0 = M.1 (b + 10) from rfl, mA_self] at lp
  repeat (first | refine x_kcg rfl ?_ | refine x_incg rfl rfl ?_ | refine x_opp rfl rfl ?_)
  refine x_fall ?_
  refine x_lvs [(0, .ref b), (1, .int (nI x)), (2, .long w), (4, .int (nI 0))] rfl rfl rfl ⟨rfl, rfl, rfl, rfl, trivial⟩ ?_
  exact lp
/-- what stands in an entry of a board -/
theorem c_stand2 {x : Nat} {f : Nat → Nat} (hs : srSh sh b) (hd : dOK D) (hD : cD M b D) (hx : x < D.1.length) (hf : ∀ i, i < (eAt D.1 x).2.2.1 → sg5 (M.1 (b + 10) (mPl (eAt D.1 x) i)) = f (mPl (eAt D.1 x) i)) (hq : Q (some (.long (stF (fun i => nI (f (mPl (eAt D.1 x) i))) (eAt D.1 x).2.2.1))) (wm sh M)) : sm_E L xs (d + 2) 84 [.ref (b + 1), .int (nI x), .ref (b + 10)] (wm sh M) Q := by
  obtain ⟨s0, s1, -, -, -, -, s10, -⟩ := hs
  have hok : eOK (eAt D.1 x) := hd.2.1 _ (List.mem_of_getElem? (eAt_get hx))
  have h42 := hd.1
  have h7 : (eAt D.1 x).2.2.1 ≤ 7 := by
    have := hok.2.2
    split at this <;> omega
  refine c_standing s1 s10 (by omega) (tCell_eq hD.1 hx 0).2 h7 (fun i hi => ?_) ?_
  · rw [(tCell_eq hD.1 hx i).1]
    exact vp_in_nI (mPl_lt hok hi) (by decide)
  · rw [stF_ext (g := fun i => nI (f (mPl (eAt D.1 x) i))) (fun i hi => ?_)]
    · exact hq
    · have hm := mPl_lt hok hi
      rw [(tCell_eq hD.1 hx i).1, nI_clamp (by omega)]
      obtain ⟨e1, e2⟩ := sg5_eq (M.1 (b + 10) (mPl (eAt D.1 x) i))
      rw [hf i hi] at e1 e2
      rw [e1, (n32_dec _ e2).1]
theorem c_isSet {w : Int64} {dd : Nat} {tk : Nat → Int64} (hs : srSh sh b) (h12 : M.1 b 12 = nI dd) (h42 : dd ≤ 42) (ht : ∀ k, k < dd → M.2.1 (b + 14) k = tk k) (hq : Q (some (.int (zz (anyW tk w dd)))) (wm sh M)) : sm_E L xs (d + 1) 103 [.ref b, .long w] (wm sh M) Q := by
  obtain ⟨s0, -, -, -, -, -, -, -, -, -, s14⟩ := hs
  refine e_intro rfl rfl ?_
  have lp : anyW tk w 0 = false → sm_X L xs d 103 1 (sm_code 103 1) [(0, .ref b), (1, .long w), (3, .int (nI 0))] [] (wm sh M) Q := by
    refine loop_dn (P := fun k => anyW tk w k = false → sm_X L xs d 103 1 (sm_code 103 1) [(0, .ref b), (1, .long w), (3, .int (nI k))] [] (wm sh M) Q) dd ?_ ?_
    · intro h
      rw [h] at hq
      have g : M.1 b 12 ≤ nI dd := by rw [h12]; exact nI_le (Nat.le_refl _) (by omega)
      repeat' (first | refine x_kcg rfl ?_ | refine x_incg rfl rfl ?_ | refine x_opp rfl rfl ?_ | refine x_go rfl ?_ | (refine a_at isGf rfl ?_; first | refine m_getg s0 rfl rfl rfl ?_) | (refine a_at isPf rfl ?_; first | refine a_putI s0 rfl rfl rfl ?_ | refine a_putL s0 rfl rfl rfl ?_) | (refine a_at isAr rfl ?_; first | refine a_iald s0 rfl rfl ?_ ?_ | refine a_bald s0 rfl rfl ?_ ?_ | refine a_lald s0 rfl rfl ?_ ?_ | refine a_iast s0 rfl rfl ?_ ?_ | refine a_last s0 rfl rfl ?_ ?_ | refine a_bast s0 rfl rfl ?_ ?_ ?_) | (refine a_at isIf rfl ?_; first | (refine a_ifT rfl rfl br_eqz (by assumption) ?_) | (refine a_ifF rfl rfl br_eqz (by assumption) ?_) | (refine a_ifT rfl rfl br_nez (by assumption) ?_) | (refine a_ifF rfl rfl br_nez (by assumption) ?_) | (refine a_ifT rfl rfl br_eqz (nt_f (by assumption)) ?_) | (refine a_ifF rfl rfl br_eqz (tnf (by assumption)) ?_) | (refine a_ifF rfl rfl br_nez (fnt (by assumption)) ?_) | (refine a_if rfl rfl br_eqz (fun _ => ?_) (fun _ => ?_)) | (refine a_if rfl rfl br_nez (fun _ => ?_) (fun _ => ?_)) | (refine a_ifF rfl rfl br_ne (fun h => h (by assumption)) ?_) | (refine a_ifT rfl rfl br_eq (by assumption) ?_) | (refine a_ifF rfl rfl br_eq (by assumption) ?_) | (refine a_ifT rfl rfl br_ne (by assumption) ?_) | (refine a_ifF rfl rfl br_ne (by assumption) ?_) | (refine a_ifT rfl rfl br_lt (by assumption) ?_) | (refine a_ifF rfl rfl br_lt (by assumption) ?_) | (refine a_ifT rfl rfl br_ge (by assumption) ?_) | (refine a_ifF rfl rfl br_ge (by assumption) ?_) | (refine a_ifT rfl rfl br_gt (by assumption) ?_) | (refine a_ifF rfl rfl br_gt (by assumption) ?_) | (refine a_ifT rfl rfl br_le (by assumption) ?_) | (refine a_ifF rfl rfl br_le (by assumption) ?_) | (refine a_if rfl rfl br_eq (fun _ => ?_) (fun _ => ?_)) | (refine a_if rfl rfl br_ne (fun _ => ?_) (fun _ => ?_)) | (refine a_if rfl rfl br_lt (fun _ => ?_) (fun _ => ?_)) | (refine a_if rfl rfl br_ge (fun _ => ?_) (fun _ => ?_)) | (refine a_if rfl rfl br_gt (fun _ => ?_) (fun _ => ?_)) | (refine a_if rfl rfl br_le (fun _ => ?_) (fun _ => ?_))) | (refine a_at isIc rfl ?_; first | (refine a_icF rfl rfl br_ne (fun h => h (by assumption)) ?_) | (refine a_icT rfl rfl br_eq (by assumption) ?_) | (refine a_icF rfl rfl br_eq (by assumption) ?_) | (refine a_icT rfl rfl br_ne (by assumption) ?_) | (refine a_icF rfl rfl br_ne (by assumption) ?_) | (refine a_icT rfl rfl br_lt (by assumption) ?_) | (refine a_icF rfl rfl br_lt (by assumption) ?_) | (refine a_icT rfl rfl br_ge (by assumption) ?_) | (refine a_icF rfl rfl br_ge (by assumption) ?_) | (refine a_icT rfl rfl br_gt (by assumption) ?_) | (refine a_icF rfl rfl br_gt (by assumption) ?_) | (refine a_icT rfl rfl br_le (by assumption) ?_) | (refine a_icF rfl rfl br_le (by assumption) ?_) | (refine a_ic rfl rfl br_eq (fun _ => ?_) (fun _ => ?_)) | (refine a_ic rfl rfl br_ne (fun _ => ?_) (fun _ => ?_)) | (refine a_ic rfl rfl br_lt (fun _ => ?_) (fun _ => ?_)) | (refine a_ic rfl rfl br_ge (fun _ => ?_) (fun _ => ?_)) | (refine a_ic rfl rfl br_gt (fun _ => ?_) (fun _ => ?_)) | (refine a_ic rfl rfl br_le (fun _ => ?_) (fun _ => ?_))) | (refine a_at isRt rfl ?_; first | refine a_iret rfl rfl rfl ?_ | refine a_zret rfl rfl ?_ ?_ | refine a_lret rfl rfl ?_ | refine a_ret rfl rfl ?_))
      · exact Or.inl rfl
      · exact hq
    · intro k hk ih h
      have g : ¬ M.1 b 12 ≤ nI k := by rw [h12]; exact nI_ge hk (by omega)
      have ek := ht k hk
      by_cases g2 : tk k = w
      · have hT : anyW tk w dd = true := anyB_t (p := fun k => decide (tk k = w)) (decide_eq_true g2) hk
        rw [hT] at hq
        have g3 : lg_cmp (M.2.1 (b + 14) k) w = 0 := by rw [ek, lc0]; exact g2
        repeat' (first | refine x_kcg rfl ?_ | refine x_incg rfl rfl ?_ | refine x_opp rfl rfl ?_ | refine x_go rfl ?_ | (refine a_at isGf rfl ?_; first | refine m_getg s0 rfl rfl rfl ?_) | (refine a_at isPf rfl ?_; first | refine a_putI s0 rfl rfl rfl ?_ | refine a_putL s0 rfl rfl rfl ?_) | (refine a_at isAr rfl ?_; first | refine a_ialdN s14 (k := k) rfl rfl rfl (by omega) (by decide) ?_ | refine a_baldN s14 (k := k) rfl rfl rfl (by omega) (by decide) ?_ | refine a_laldN s14 (k := k) rfl rfl rfl (by omega) (by decide) ?_ | refine a_iastN s14 (k := k) rfl rfl rfl (by omega) (by decide) ?_ | refine a_lastN s14 (k := k) rfl rfl rfl (by omega) (by decide) ?_ | refine a_bastN s14 (k := k) rfl rfl rfl (by omega) (by decide) ?_ ?_ | refine a_iald s0 rfl rfl ?_ ?_ | refine a_bald s0 rfl rfl ?_ ?_ | refine a_lald s0 rfl rfl ?_ ?_ | refine a_iast s0 rfl rfl ?_ ?_ | refine a_last s0 rfl rfl ?_ ?_ | refine a_bast s0 rfl rfl ?_ ?_ ?_) | (refine a_at isIf rfl ?_; first | (refine a_ifT rfl rfl br_eqz (by assumption) ?_) | (refine a_ifF rfl rfl br_eqz (by assumption) ?_) | (refine a_ifT rfl rfl br_nez (by assumption) ?_) | (refine a_ifF rfl rfl br_nez (by assumption) ?_) | (refine a_ifT rfl rfl br_eqz (nt_f (by assumption)) ?_) | (refine a_ifF rfl rfl br_eqz (tnf (by assumption)) ?_) | (refine a_ifF rfl rfl br_nez (fnt (by assumption)) ?_) | (refine a_if rfl rfl br_eqz (fun _ => ?_) (fun _ => ?_)) | (refine a_if rfl rfl br_nez (fun _ => ?_) (fun _ => ?_)) | (refine a_ifF rfl rfl br_ne (fun h => h (by assumption)) ?_) | (refine a_ifT rfl rfl br_eq (by assumption) ?_) | (refine a_ifF rfl rfl br_eq (by assumption) ?_) | (refine a_ifT rfl rfl br_ne (by assumption) ?_) | (refine a_ifF rfl rfl br_ne (by assumption) ?_) | (refine a_ifT rfl rfl br_lt (by assumption) ?_) | (refine a_ifF rfl rfl br_lt (by assumption) ?_) | (refine a_ifT rfl rfl br_ge (by assumption) ?_) | (refine a_ifF rfl rfl br_ge (by assumption) ?_) | (refine a_ifT rfl rfl br_gt (by assumption) ?_) | (refine a_ifF rfl rfl br_gt (by assumption) ?_) | (refine a_ifT rfl rfl br_le (by assumption) ?_) | (refine a_ifF rfl rfl br_le (by assumption) ?_) | (refine a_if rfl rfl br_eq (fun _ => ?_) (fun _ => ?_)) | (refine a_if rfl rfl br_ne (fun _ => ?_) (fun _ => ?_)) | (refine a_if rfl rfl br_lt (fun _ => ?_) (fun _ => ?_)) | (refine a_if rfl rfl br_ge (fun _ => ?_) (fun _ => ?_)) | (refine a_if rfl rfl br_gt (fun _ => ?_) (fun _ => ?_)) | (refine a_if rfl rfl br_le (fun _ => ?_) (fun _ => ?_))) | (refine a_at isIc rfl ?_; first | (refine a_icF rfl rfl br_ne (fun h => h (by assumption)) ?_) | (refine a_icT rfl rfl br_eq (by assumption) ?_) | (refine a_icF rfl rfl br_eq (by assumption) ?_) | (refine a_icT rfl rfl br_ne (by assumption) ?_) | (refine a_icF rfl rfl br_ne (by assumption) ?_) | (refine a_icT rfl rfl br_lt (by assumption) ?_) | (refine a_icF rfl rfl br_lt (by assumption) ?_) | (refine a_icT rfl rfl br_ge (by assumption) ?_) | (refine a_icF rfl rfl br_ge (by assumption) ?_) | (refine a_icT rfl rfl br_gt (by assumption) ?_) | (refine a_icF rfl rfl br_gt (by assumption) ?_) | (refine a_icT rfl rfl br_le (by assumption) ?_) | (refine a_icF rfl rfl br_le (by assumption) ?_) | (refine a_ic rfl rfl br_eq (fun _ => ?_) (fun _ => ?_)) | (refine a_ic rfl rfl br_ne (fun _ => ?_) (fun _ => ?_)) | (refine a_ic rfl rfl br_lt (fun _ => ?_) (fun _ => ?_)) | (refine a_ic rfl rfl br_ge (fun _ => ?_) (fun _ => ?_)) | (refine a_ic rfl rfl br_gt (fun _ => ?_) (fun _ => ?_)) | (refine a_ic rfl rfl br_le (fun _ => ?_) (fun _ => ?_))) | (refine a_at isRt rfl ?_; first | refine a_iret rfl rfl rfl ?_ | refine a_zret rfl rfl ?_ ?_ | refine a_lret rfl rfl ?_ | refine a_ret rfl rfl ?_))
        · exact Or.inr rfl
        · exact hq
      · have g3 : ¬ lg_cmp (M.2.1 (b + 14) k) w = 0 := by rw [ek, lc0]; exact g2
        have fin := ih (by
          show (anyW tk w k || decide (tk k = w)) = false
          rw [h, decide_eq_false g2]
          rfl)
        repeat' (first | (refine x_go (t := 1) rfl ?_; refine x_lvs [(0, .ref b), (1, .long w), (3, .int (nI (k + 1)))] rfl rfl rfl ⟨rfl, rfl, rfl, trivial⟩ ?_; exact fin) | refine x_kcg rfl ?_ | refine x_incg rfl rfl ?_ | refine x_opp rfl rfl ?_ | refine x_go (t := 4) rfl ?_ | (refine a_at isGf rfl ?_; first | refine m_getg s0 rfl rfl rfl ?_) | (refine a_at isPf rfl ?_; first | refine a_putI s0 rfl rfl rfl ?_ | refine a_putL s0 rfl rfl rfl ?_) | (refine a_at isAr rfl ?_; first | refine a_ialdN s14 (k := k) rfl rfl rfl (by omega) (by decide) ?_ | refine a_baldN s14 (k := k) rfl rfl rfl (by omega) (by decide) ?_ | refine a_laldN s14 (k := k) rfl rfl rfl (by omega) (by decide) ?_ | refine a_iastN s14 (k := k) rfl rfl rfl (by omega) (by decide) ?_ | refine a_lastN s14 (k := k) rfl rfl rfl (by omega) (by decide) ?_ | refine a_bastN s14 (k := k) rfl rfl rfl (by omega) (by decide) ?_ ?_ | refine a_iald s0 rfl rfl ?_ ?_ | refine a_bald s0 rfl rfl ?_ ?_ | refine a_lald s0 rfl rfl ?_ ?_ | refine a_iast s0 rfl rfl ?_ ?_ | refine a_last s0 rfl rfl ?_ ?_ | refine a_bast s0 rfl rfl ?_ ?_ ?_) | (refine a_at isIf rfl ?_; first | (refine a_ifT rfl rfl br_eqz (by assumption) ?_) | (refine a_ifF rfl rfl br_eqz (by assumption) ?_) | (refine a_ifT rfl rfl br_nez (by assumption) ?_) | (refine a_ifF rfl rfl br_nez (by assumption) ?_) | (refine a_ifT rfl rfl br_eqz (nt_f (by assumption)) ?_) | (refine a_ifF rfl rfl br_eqz (tnf (by assumption)) ?_) | (refine a_ifF rfl rfl br_nez (fnt (by assumption)) ?_) | (refine a_if rfl rfl br_eqz (fun _ => ?_) (fun _ => ?_)) | (refine a_if rfl rfl br_nez (fun _ => ?_) (fun _ => ?_)) | (refine a_ifF rfl rfl br_ne (fun h => h (by assumption)) ?_) | (refine a_ifT rfl rfl br_eq (by assumption) ?_) | (refine a_ifF rfl rfl br_eq (by assumption) ?_) | (refine a_ifT rfl rfl br_ne (by assumption) ?_) | (refine a_ifF rfl rfl br_ne (by assumption) ?_) | (refine a_ifT rfl rfl br_lt (by assumption) ?_) | (refine a_ifF rfl rfl br_lt (by assumption) ?_) | (refine a_ifT rfl rfl br_ge (by assumption) ?_) | (refine a_ifF rfl rfl br_ge (by assumption) ?_) | (refine a_ifT rfl rfl br_gt (by assumption) ?_) | (refine a_ifF rfl rfl br_gt (by assumption) ?_) | (refine a_ifT rfl rfl br_le (by assumption) ?_) | (refine a_ifF rfl rfl br_le (by assumption) ?_) | (refine a_if rfl rfl br_eq (fun _ => ?_) (fun _ => ?_)) | (refine a_if rfl rfl br_ne (fun _ => ?_) (fun _ => ?_)) | (refine a_if rfl rfl br_lt (fun _ => ?_) (fun _ => ?_)) | (refine a_if rfl rfl br_ge (fun _ => ?_) (fun _ => ?_)) | (refine a_if rfl rfl br_gt (fun _ => ?_) (fun _ => ?_)) | (refine a_if rfl rfl br_le (fun _ => ?_) (fun _ => ?_))) | (refine a_at isIc rfl ?_; first | (refine a_icF rfl rfl br_ne (fun h => h (by assumption)) ?_) | (refine a_icT rfl rfl br_eq (by assumption) ?_) | (refine a_icF rfl rfl br_eq (by assumption) ?_) | (refine a_icT rfl rfl br_ne (by assumption) ?_) | (refine a_icF rfl rfl br_ne (by assumption) ?_) | (refine a_icT rfl rfl br_lt (by assumption) ?_) | (refine a_icF rfl rfl br_lt (by assumption) ?_) | (refine a_icT rfl rfl br_ge (by assumption) ?_) | (refine a_icF rfl rfl br_ge (by assumption) ?_) | (refine a_icT rfl rfl br_gt (by assumption) ?_) | (refine a_icF rfl rfl br_gt (by assumption) ?_) | (refine a_icT rfl rfl br_le (by assumption) ?_) | (refine a_icF rfl rfl br_le (by assumption) ?_) | (refine a_ic rfl rfl br_eq (fun _ => ?_) (fun _ => ?_)) | (refine a_ic rfl rfl br_ne (fun _ => ?_) (fun _ => ?_)) | (refine a_ic rfl rfl br_lt (fun _ => ?_) (fun _ => ?_)) | (refine a_ic rfl rfl br_ge (fun _ => ?_) (fun _ => ?_)) | (refine a_ic rfl rfl br_gt (fun _ => ?_) (fun _ => ?_)) | (refine a_ic rfl rfl br_le (fun _ => ?_) (fun _ => ?_))) | (refine a_at isRt rfl ?_; first | refine a_iret rfl rfl rfl ?_ | refine a_zret rfl rfl ?_ ?_ | refine a_lret rfl rfl ?_ | refine a_ret rfl rfl ?_))
  have fin := lp rfl
  repeat (first | refine x_kcg rfl ?_ | refine x_incg rfl rfl ?_ | refine x_opp rfl rfl ?_)
  refine x_fall ?_
  refine x_lvs [(0, .ref b), (1, .long w), (3, .int (nI 0))] rfl rfl rfl ⟨rfl, rfl, rfl, trivial⟩ ?_
  exact fin
end CS
