/-! islands, in the desk -/
theorem wS_t {H : Nat} {h : Int32} {ln cs : Nat → Int32} {s : Nat} (hH : h = nI H) (hH7 : H ≤ 7) (hl : ∀ i, i < 7 → -1 ≤ ln i ∧ ln i ≤ 7) (hs : s < 49) (hw : wS h ln cs s = true) : s / 7 < H ∧ s % 7 < (ln (s / 7)).toNatClampNeg := by
  unfold wS gWh at hw
  split at hw
  · cases hw
  · split at hw
    · cases hw
    · rename_i h1 h2
      have h1 := nf_t h1
      have h2 := nf_t h2
      rw [nI_clamp (by omega)] at h2
      unfold gRow at h1
      unfold gPl at h2
      split at h1
      · cases h1
      · split at h1
        · cases h1
        · rename_i k1 k2
          split at h2
          · cases h2
          · split at h2
            · cases h2
            · rename_i k3 k4
              constructor
              · rw [hH] at k2
                rcases Nat.lt_or_ge (s / 7) H with g | g
                · exact g
                · exact absurd (nI_le g (by omega)) k2
              · have hb := hl (s / 7) (by omega)
                obtain ⟨l7, lj⟩ := ln_nat hb.1 hb.2
                rcases Nat.lt_or_ge (s % 7) (ln (s / 7)).toNatClampNeg with g | g
                · exact g
                · have h5 := (lj (s % 7) (by omega)).2 g
                  exfalso
                  apply k4
                  rw [Int32.le_iff_toInt_le] at h5
                  rw [Int32.lt_iff_toInt_lt]
                  have h6 := hb.1
                  have h7 := hb.2
                  rw [Int32.le_iff_toInt_le] at h6 h7
                  have e7 : (7 : Int32).toInt = 7 := by decide
                  have em : (-1 : Int32).toInt = -1 := by decide
                  have e1 : (1 : Int32).toInt = 1 := by decide
                  have es : (ln (s / 7) - 1).toInt = (ln (s / 7)).toInt - 1 := by
                    rw [Int32.toInt_sub, e1]
                    apply Int.bmod_eq_of_le <;> omega
                  omega
theorem bnb_fold (wv : Nat → Bool) (x : Nat) (st : (Nat → Bool) × List Nat) : (bnb x).foldl (bst wv) st =
    (let s1 := if x % 7 < 6 then bst wv st (x + 1) else st
     let s2 := if 0 < x % 7 then bst wv s1 (x - 1) else s1
     let s3 := if x < 42 then bst wv s2 (x + 7) else s2
     if 7 ≤ x then bst wv s3 (x - 7) else s3) := by
  unfold bnb
  rw [List.foldl_append, List.foldl_append, List.foldl_append]
  have e : ∀ (P : Prop) [Decidable P] (t : Nat) (s : (Nat → Bool) × List Nat), List.foldl (bst wv) s (if P then [t] else []) = if P then bst wv s t else s := by
    intro P _ t s
    split <;> rfl
  rw [e, e, e, e]
def bMem (M : mm_T) (sp re : Nat) (st : (Nat → Bool) × List Nat) : Prop := (∀ s, s < 49 → M.1 re s = zz (st.1 s)) ∧ ∀ k x, st.2[k]? = some x → M.1 sp k = nI x
def bFr (M M' : mm_T) (sp re : Nat) : Prop := M'.2 = M.2 ∧ ∀ a, a ≠ sp → a ≠ re → M'.1 a = M.1 a
theorem bFr_rfl (M : mm_T) (sp re : Nat) : bFr M M sp re := ⟨rfl, fun _ _ _ => rfl⟩
theorem bFr_tr {M M' M'' : mm_T} {sp re : Nat} (h1 : bFr M M' sp re) (h2 : bFr M' M'' sp re) : bFr M M'' sp re := ⟨h2.1.trans h1.1, fun a g1 g2 => by rw [h2.2 a g1 g2, h1.2 a g1 g2]⟩
section CI
variable {L : Nat} {xs : Nat → Int32} {d : Nat} {sh : List sh_T} {M : mm_T} {Q : Option Value → sm_W → Prop} {g c l sp re : Nat}
theorem bFr_v {M' : mm_T} (hg : gSh sh g c l sp re) (h : bFr M M' sp re) : M'.1 g = M.1 g ∧ M'.1 l = M.1 l ∧ M'.1 c = M.1 c ∧ (gOK M g l → gOK M' g l) := by
  obtain ⟨h1, h2, h3, h4, h5, hne⟩ := hg
  have e1 : M'.1 g = M.1 g := h.2 g (by intro e; subst e; simp_all) (by intro e; subst e; simp_all)
  have e2 : M'.1 l = M.1 l := h.2 l (by intro e; subst e; simp_all) (by intro e; subst e; simp_all)
  have e3 : M'.1 c = M.1 c := h.2 c (by intro e; subst e; simp_all) (by intro e; subst e; simp_all)
  refine ⟨e1, e2, e3, ?_⟩
  unfold gOK
  rw [e1, e2]
  exact id
theorem bst_t {wv : Nat → Bool} {st : (Nat → Bool) × List Nat} {t : Nat} (h : (wv t && !st.1 t) = true) : bst wv st t = (fun s => if s = t then true else st.1 s, st.2 ++ [t]) := if_pos h
theorem bst_f {wv : Nat → Bool} {st : (Nat → Bool) × List Nat} {t : Nat} (h : ¬ (wv t && !st.1 t) = true) : bst wv st t = st := if_neg h
/-- reach a square, if there is one -/
def bso (wv : Nat → Bool) (st : (Nat → Bool) × List Nat) (o : Bool) (t : Nat) : (Nat → Bool) × List Nat := if o = true then bst wv st t else st
theorem c_reach {wv : Nat → Bool} {st : (Nat → Bool) × List Nat} {r k : Int32} {o : Bool} {t : Nat} (hg : gSh sh g c l sp re) (hk : gOK M g l) (hwv : wS (M.1 g 5) (M.1 l) (M.1 c) = wv)
    (hT : o = true → r = nI (t / 7) ∧ k = nI (t % 7) ∧ t < 49) (hF : o = false → gWh (M.1 g 5) (M.1 l) (M.1 c) r k = false) (hm : bMem M sp re st) (hl : (wv t && !st.1 t) = true → o = true → st.2.length < 49)
    (hq : ∀ M', bMem M' sp re (bso wv st o t) → bFr M M' sp re → Q (some (.int (nI (bso wv st o t).2.length))) (wm sh M')) : sm_E L xs (d + 3) 119 [.ref g, .int r, .int k, .int (nI st.2.length)] (wm sh M) Q := by
  have h1 := hg.1
  have hre := hg.2.2.2.2.1
  have hsp := hg.2.2.2.1
  refine e_intro rfl rfl ?_
  unfold bso at hq
  by_cases go : o = true
  · obtain ⟨rfl, rfl, ht⟩ := hT go
    rw [if_pos go] at hq
    have hw : gWh (M.1 g 5) (M.1 l) (M.1 c) (nI (t / 7)) (nI (t % 7)) = wv t := by rw [← hwv]; rfl
    have ei : nI (t / 7) * 7 + nI (t % 7) = nI t := by rw [mul7]; congr 1; omega
    have er := hm.1 t ht
    by_cases g1 : wv t = true
    · by_cases g2 : st.1 t = true
      · have hc : ¬ (wv t && !st.1 t) = true := by rw [g1, g2]; decide
        rw [bst_f hc] at hq
        have e1 : ¬ M.1 re t = 0 := by rw [er, g2]; decide
        have fin := hq M hm (bFr_rfl M sp re)
        repeat' (first | (rw [ei]) | refine x_kcg rfl ?_ | refine x_incg rfl rfl ?_ | refine x_opp rfl rfl ?_ | refine x_go rfl ?_ | (refine a_at isGf rfl ?_; first | refine m_getg h1 rfl rfl rfl ?_) | (refine a_at isPf rfl ?_; first | refine a_putI h1 rfl rfl rfl ?_ | refine a_putL h1 rfl rfl rfl ?_) | (refine a_at isIv rfl ?_; first | (refine a_callV h1 rfl rfl rfl rfl (c_isWhite h1 hg.2.2.1 hg.2.1 hk.1.2 (gOK_7 hk) ?_); rw [hw])) | (refine a_at isAr rfl ?_; first | refine a_ialdN hre (k := t) rfl rfl rfl (by omega) (by decide) ?_ | refine a_baldN hre (k := t) rfl rfl rfl (by omega) (by decide) ?_ | refine a_laldN hre (k := t) rfl rfl rfl (by omega) (by decide) ?_ | refine a_iastN hre (k := t) rfl rfl rfl (by omega) (by decide) ?_ | refine a_lastN hre (k := t) rfl rfl rfl (by omega) (by decide) ?_ | refine a_bastN hre (k := t) rfl rfl rfl (by omega) (by decide) ?_ ?_ | refine a_iald h1 rfl rfl ?_ ?_ | refine a_bald h1 rfl rfl ?_ ?_ | refine a_lald h1 rfl rfl ?_ ?_ | refine a_iast h1 rfl rfl ?_ ?_ | refine a_last h1 rfl rfl ?_ ?_ | refine a_bast h1 rfl rfl ?_ ?_ ?_) | (refine a_at isIf rfl ?_; first | (refine a_ifT rfl rfl br_eqz (by assumption) ?_) | (refine a_ifF rfl rfl br_eqz (by assumption) ?_) | (refine a_ifT rfl rfl br_nez (by assumption) ?_) | (refine a_ifF rfl rfl br_nez (by assumption) ?_) | (refine a_ifT rfl rfl br_eqz (nt_f (by assumption)) ?_) | (refine a_ifF rfl rfl br_eqz (tnf (by assumption)) ?_) | (refine a_ifF rfl rfl br_nez (fnt (by assumption)) ?_) | (refine a_if rfl rfl br_eqz (fun _ => ?_) (fun _ => ?_)) | (refine a_if rfl rfl br_nez (fun _ => ?_) (fun _ => ?_)) | (refine a_ifF rfl rfl br_ne (fun h => h (by assumption)) ?_) | (refine a_ifT rfl rfl br_eq (by assumption) ?_) | (refine a_ifF rfl rfl br_eq (by assumption) ?_) | (refine a_ifT rfl rfl br_ne (by assumption) ?_) | (refine a_ifF rfl rfl br_ne (by assumption) ?_) | (refine a_ifT rfl rfl br_lt (by assumption) ?_) | (refine a_ifF rfl rfl br_lt (by assumption) ?_) | (refine a_ifT rfl rfl br_ge (by assumption) ?_) | (refine a_ifF rfl rfl br_ge (by assumption) ?_) | (refine a_ifT rfl rfl br_gt (by assumption) ?_) | (refine a_ifF rfl rfl br_gt (by assumption) ?_) | (refine a_ifT rfl rfl br_le (by assumption) ?_) | (refine a_ifF rfl rfl br_le (by assumption) ?_) | (refine a_if rfl rfl br_eq (fun _ => ?_) (fun _ => ?_)) | (refine a_if rfl rfl br_ne (fun _ => ?_) (fun _ => ?_)) | (refine a_if rfl rfl br_lt (fun _ => ?_) (fun _ => ?_)) | (refine a_if rfl rfl br_ge (fun _ => ?_) (fun _ => ?_)) | (refine a_if rfl rfl br_gt (fun _ => ?_) (fun _ => ?_)) | (refine a_if rfl rfl br_le (fun _ => ?_) (fun _ => ?_))) | (refine a_at isIc rfl ?_; first | (refine a_icF rfl rfl br_ne (fun h => h (by assumption)) ?_) | (refine a_icT rfl rfl br_eq (by assumption) ?_) | (refine a_icF rfl rfl br_eq (by assumption) ?_) | (refine a_icT rfl rfl br_ne (by assumption) ?_) | (refine a_icF rfl rfl br_ne (by assumption) ?_) | (refine a_icT rfl rfl br_lt (by assumption) ?_) | (refine a_icF rfl rfl br_lt (by assumption) ?_) | (refine a_icT rfl rfl br_ge (by assumption) ?_) | (refine a_icF rfl rfl br_ge (by assumption) ?_) | (refine a_icT rfl rfl br_gt (by assumption) ?_) | (refine a_icF rfl rfl br_gt (by assumption) ?_) | (refine a_icT rfl rfl br_le (by assumption) ?_) | (refine a_icF rfl rfl br_le (by assumption) ?_) | (refine a_ic rfl rfl br_eq (fun _ => ?_) (fun _ => ?_)) | (refine a_ic rfl rfl br_ne (fun _ => ?_) (fun _ => ?_)) | (refine a_ic rfl rfl br_lt (fun _ => ?_) (fun _ => ?_)) | (refine a_ic rfl rfl br_ge (fun _ => ?_) (fun _ => ?_)) | (refine a_ic rfl rfl br_gt (fun _ => ?_) (fun _ => ?_)) | (refine a_ic rfl rfl br_le (fun _ => ?_) (fun _ => ?_))) | (refine a_at isRt rfl ?_; first | refine a_iret rfl rfl rfl ?_ | refine a_zret rfl rfl ?_ ?_ | refine a_lret rfl rfl ?_ | refine a_ret rfl rfl ?_))
        exact fin
      · have hc : (wv t && !st.1 t) = true := by rw [g1, nt_f g2]; rfl
        rw [bst_t hc] at hq
        have hlen := hl hc go
        have e1 : M.1 re t = 0 := by rw [er, nt_f g2]; rfl
        have fin := hq (m_setI (m_setI M re t 1) sp st.2.length (nI t)) (by
          have hne : re ≠ sp := hg.2.2.2.2.2.2.2.2.2.2.2.2.2.2
          refine ⟨fun s hs => ?_, fun q x hx => ?_⟩
          · rw [mI_ne _ _ _ hne, mI_at]
            by_cases e : s = t
            · subst e
              rw [if_pos ⟨rfl, rfl⟩]
              show (1 : Int32) = zz (if s = s then true else st.1 s)
              rw [if_pos rfl]
              rfl
            · rw [if_neg (fun h => e h.2)]
              show _ = zz (if s = t then true else st.1 s)
              rw [if_neg e]
              exact hm.1 s hs
          · rw [mI_at]
            have hx2 : (st.2 ++ [t])[q]? = some x := hx
            by_cases hlt : q < st.2.length
            · rw [List.getElem?_append_left hlt] at hx2
              rw [if_neg (fun h => by have := h.2; omega), mI_ne _ _ _ (Ne.symm hne)]
              exact hm.2 q x hx2
            · rw [List.getElem?_append_right (by omega)] at hx2
              have h1 : q - st.2.length < 1 := (List.getElem?_eq_some_iff.mp hx2).1
              have h2 : q = st.2.length := by omega
              subst h2
              rw [Nat.sub_self] at hx2
              cases hx2
              rw [if_pos ⟨rfl, rfl⟩]) ⟨rfl, fun a n1 n2 => by rw [mI_ne _ _ _ n1, mI_ne _ _ _ n2]⟩
        rw [show ((fun s => if s = t then true else st.1 s, st.2 ++ [t]) : (Nat → Bool) × List Nat).2.length = st.2.length + 1 by simp, ← nI_1] at fin
        repeat' (first | (rw [ei]) | refine x_kcg rfl ?_ | refine x_incg rfl rfl ?_ | refine x_opp rfl rfl ?_ | refine x_go rfl ?_ | (refine a_at isGf rfl ?_; first | refine m_getg h1 rfl rfl rfl ?_) | (refine a_at isPf rfl ?_; first | refine a_putI h1 rfl rfl rfl ?_ | refine a_putL h1 rfl rfl rfl ?_) | (refine a_at isIv rfl ?_; first | (refine a_callV h1 rfl rfl rfl rfl (c_isWhite h1 hg.2.2.1 hg.2.1 hk.1.2 (gOK_7 hk) ?_); rw [hw])) | (refine a_at isAr rfl ?_; first | refine a_ialdN hre (k := t) rfl rfl rfl (by omega) (by decide) ?_ | refine a_baldN hre (k := t) rfl rfl rfl (by omega) (by decide) ?_ | refine a_laldN hre (k := t) rfl rfl rfl (by omega) (by decide) ?_ | refine a_iastN hre (k := t) rfl rfl rfl (by omega) (by decide) ?_ | refine a_lastN hre (k := t) rfl rfl rfl (by omega) (by decide) ?_ | refine a_bastN hre (k := t) rfl rfl rfl (by omega) (by decide) ?_ ?_ | refine a_ialdN hsp (k := st.2.length) rfl rfl rfl (by omega) (by decide) ?_ | refine a_baldN hsp (k := st.2.length) rfl rfl rfl (by omega) (by decide) ?_ | refine a_laldN hsp (k := st.2.length) rfl rfl rfl (by omega) (by decide) ?_ | refine a_iastN hsp (k := st.2.length) rfl rfl rfl (by omega) (by decide) ?_ | refine a_lastN hsp (k := st.2.length) rfl rfl rfl (by omega) (by decide) ?_ | refine a_bastN hsp (k := st.2.length) rfl rfl rfl (by omega) (by decide) ?_ ?_ | refine a_iald h1 rfl rfl ?_ ?_ | refine a_bald h1 rfl rfl ?_ ?_ | refine a_lald h1 rfl rfl ?_ ?_ | refine a_iast h1 rfl rfl ?_ ?_ | refine a_last h1 rfl rfl ?_ ?_ | refine a_bast h1 rfl rfl ?_ ?_ ?_) | (refine a_at isIf rfl ?_; first | (refine a_ifT rfl rfl br_eqz (by assumption) ?_) | (refine a_ifF rfl rfl br_eqz (by assumption) ?_) | (refine a_ifT rfl rfl br_nez (by assumption) ?_) | (refine a_ifF rfl rfl br_nez (by assumption) ?_) | (refine a_ifT rfl rfl br_eqz (nt_f (by assumption)) ?_) | (refine a_ifF rfl rfl br_eqz (tnf (by assumption)) ?_) | (refine a_ifF rfl rfl br_nez (fnt (by assumption)) ?_) | (refine a_if rfl rfl br_eqz (fun _ => ?_) (fun _ => ?_)) | (refine a_if rfl rfl br_nez (fun _ => ?_) (fun _ => ?_)) | (refine a_ifF rfl rfl br_ne (fun h => h (by assumption)) ?_) | (refine a_ifT rfl rfl br_eq (by assumption) ?_) | (refine a_ifF rfl rfl br_eq (by assumption) ?_) | (refine a_ifT rfl rfl br_ne (by assumption) ?_) | (refine a_ifF rfl rfl br_ne (by assumption) ?_) | (refine a_ifT rfl rfl br_lt (by assumption) ?_) | (refine a_ifF rfl rfl br_lt (by assumption) ?_) | (refine a_ifT rfl rfl br_ge (by assumption) ?_) | (refine a_ifF rfl rfl br_ge (by assumption) ?_) | (refine a_ifT rfl rfl br_gt (by assumption) ?_) | (refine a_ifF rfl rfl br_gt (by assumption) ?_) | (refine a_ifT rfl rfl br_le (by assumption) ?_) | (refine a_ifF rfl rfl br_le (by assumption) ?_) | (refine a_if rfl rfl br_eq (fun _ => ?_) (fun _ => ?_)) | (refine a_if rfl rfl br_ne (fun _ => ?_) (fun _ => ?_)) | (refine a_if rfl rfl br_lt (fun _ => ?_) (fun _ => ?_)) | (refine a_if rfl rfl br_ge (fun _ => ?_) (fun _ => ?_)) | (refine a_if rfl rfl br_gt (fun _ => ?_) (fun _ => ?_)) | (refine a_if rfl rfl br_le (fun _ => ?_) (fun _ => ?_))) | (refine a_at isIc rfl ?_; first | (refine a_icF rfl rfl br_ne (fun h => h (by assumption)) ?_) | (refine a_icT rfl rfl br_eq (by assumption) ?_) | (refine a_icF rfl rfl br_eq (by assumption) ?_) | (refine a_icT rfl rfl br_ne (by assumption) ?_) | (refine a_icF rfl rfl br_ne (by assumption) ?_) | (refine a_icT rfl rfl br_lt (by assumption) ?_) | (refine a_icF rfl rfl br_lt (by assumption) ?_) | (refine a_icT rfl rfl br_ge (by assumption) ?_) | (refine a_icF rfl rfl br_ge (by assumption) ?_) | (refine a_icT rfl rfl br_gt (by assumption) ?_) | (refine a_icF rfl rfl br_gt (by assumption) ?_) | (refine a_icT rfl rfl br_le (by assumption) ?_) | (refine a_icF rfl rfl br_le (by assumption) ?_) | (refine a_ic rfl rfl br_eq (fun _ => ?_) (fun _ => ?_)) | (refine a_ic rfl rfl br_ne (fun _ => ?_) (fun _ => ?_)) | (refine a_ic rfl rfl br_lt (fun _ => ?_) (fun _ => ?_)) | (refine a_ic rfl rfl br_ge (fun _ => ?_) (fun _ => ?_)) | (refine a_ic rfl rfl br_gt (fun _ => ?_) (fun _ => ?_)) | (refine a_ic rfl rfl br_le (fun _ => ?_) (fun _ => ?_))) | (refine a_at isRt rfl ?_; first | refine a_iret rfl rfl rfl ?_ | refine a_zret rfl rfl ?_ ?_ | refine a_lret rfl rfl ?_ | refine a_ret rfl rfl ?_))
        exact fin
    · have hc : ¬ (wv t && !st.1 t) = true := by rw [nt_f g1]; exact Bool.false_ne_true
      rw [bst_f hc] at hq
      have fin := hq M hm (bFr_rfl M sp re)
      repeat' (first | (rw [ei]) | refine x_kcg rfl ?_ | refine x_incg rfl rfl ?_ | refine x_opp rfl rfl ?_ | refine x_go rfl ?_ | (refine a_at isGf rfl ?_; first | refine m_getg h1 rfl rfl rfl ?_) | (refine a_at isPf rfl ?_; first | refine a_putI h1 rfl rfl rfl ?_ | refine a_putL h1 rfl rfl rfl ?_) | (refine a_at isIv rfl ?_; first | (refine a_callV h1 rfl rfl rfl rfl (c_isWhite h1 hg.2.2.1 hg.2.1 hk.1.2 (gOK_7 hk) ?_); rw [hw])) | (refine a_at isAr rfl ?_; first | refine a_ialdN hre (k := t) rfl rfl rfl (by omega) (by decide) ?_ | refine a_baldN hre (k := t) rfl rfl rfl (by omega) (by decide) ?_ | refine a_laldN hre (k := t) rfl rfl rfl (by omega) (by decide) ?_ | refine a_iastN hre (k := t) rfl rfl rfl (by omega) (by decide) ?_ | refine a_lastN hre (k := t) rfl rfl rfl (by omega) (by decide) ?_ | refine a_bastN hre (k := t) rfl rfl rfl (by omega) (by decide) ?_ ?_ | refine a_iald h1 rfl rfl ?_ ?_ | refine a_bald h1 rfl rfl ?_ ?_ | refine a_lald h1 rfl rfl ?_ ?_ | refine a_iast h1 rfl rfl ?_ ?_ | refine a_last h1 rfl rfl ?_ ?_ | refine a_bast h1 rfl rfl ?_ ?_ ?_) | (refine a_at isIf rfl ?_; first | (refine a_ifT rfl rfl br_eqz (by assumption) ?_) | (refine a_ifF rfl rfl br_eqz (by assumption) ?_) | (refine a_ifT rfl rfl br_nez (by assumption) ?_) | (refine a_ifF rfl rfl br_nez (by assumption) ?_) | (refine a_ifT rfl rfl br_eqz (nt_f (by assumption)) ?_) | (refine a_ifF rfl rfl br_eqz (tnf (by assumption)) ?_) | (refine a_ifF rfl rfl br_nez (fnt (by assumption)) ?_) | (refine a_if rfl rfl br_eqz (fun _ => ?_) (fun _ => ?_)) | (refine a_if rfl rfl br_nez (fun _ => ?_) (fun _ => ?_)) | (refine a_ifF rfl rfl br_ne (fun h => h (by assumption)) ?_) | (refine a_ifT rfl rfl br_eq (by assumption) ?_) | (refine a_ifF rfl rfl br_eq (by assumption) ?_) | (refine a_ifT rfl rfl br_ne (by assumption) ?_) | (refine a_ifF rfl rfl br_ne (by assumption) ?_) | (refine a_ifT rfl rfl br_lt (by assumption) ?_) | (refine a_ifF rfl rfl br_lt (by assumption) ?_) | (refine a_ifT rfl rfl br_ge (by assumption) ?_) | (refine a_ifF rfl rfl br_ge (by assumption) ?_) | (refine a_ifT rfl rfl br_gt (by assumption) ?_) | (refine a_ifF rfl rfl br_gt (by assumption) ?_) | (refine a_ifT rfl rfl br_le (by assumption) ?_) | (refine a_ifF rfl rfl br_le (by assumption) ?_) | (refine a_if rfl rfl br_eq (fun _ => ?_) (fun _ => ?_)) | (refine a_if rfl rfl br_ne (fun _ => ?_) (fun _ => ?_)) | (refine a_if rfl rfl br_lt (fun _ => ?_) (fun _ => ?_)) | (refine a_if rfl rfl br_ge (fun _ => ?_) (fun _ => ?_)) | (refine a_if rfl rfl br_gt (fun _ => ?_) (fun _ => ?_)) | (refine a_if rfl rfl br_le (fun _ => ?_) (fun _ => ?_))) | (refine a_at isIc rfl ?_; first | (refine a_icF rfl rfl br_ne (fun h => h (by assumption)) ?_) | (refine a_icT rfl rfl br_eq (by assumption) ?_) | (refine a_icF rfl rfl br_eq (by assumption) ?_) | (refine a_icT rfl rfl br_ne (by assumption) ?_) | (refine a_icF rfl rfl br_ne (by assumption) ?_) | (refine a_icT rfl rfl br_lt (by assumption) ?_) | (refine a_icF rfl rfl br_lt (by assumption) ?_) | (refine a_icT rfl rfl br_ge (by assumption) ?_) | (refine a_icF rfl rfl br_ge (by assumption) ?_) | (refine a_icT rfl rfl br_gt (by assumption) ?_) | (refine a_icF rfl rfl br_gt (by assumption) ?_) | (refine a_icT rfl rfl br_le (by assumption) ?_) | (refine a_icF rfl rfl br_le (by assumption) ?_) | (refine a_ic rfl rfl br_eq (fun _ => ?_) (fun _ => ?_)) | (refine a_ic rfl rfl br_ne (fun _ => ?_) (fun _ => ?_)) | (refine a_ic rfl rfl br_lt (fun _ => ?_) (fun _ => ?_)) | (refine a_ic rfl rfl br_ge (fun _ => ?_) (fun _ => ?_)) | (refine a_ic rfl rfl br_gt (fun _ => ?_) (fun _ => ?_)) | (refine a_ic rfl rfl br_le (fun _ => ?_) (fun _ => ?_))) | (refine a_at isRt rfl ?_; first | refine a_iret rfl rfl rfl ?_ | refine a_zret rfl rfl ?_ ?_ | refine a_lret rfl rfl ?_ | refine a_ret rfl rfl ?_))
      exact fin
  · have hw := hF (nt_f go)
    rw [if_neg go] at hq
    have fin := hq M hm (bFr_rfl M sp re)
    repeat' (first | refine x_kcg rfl ?_ | refine x_incg rfl rfl ?_ | refine x_opp rfl rfl ?_ | refine x_go rfl ?_ | (refine a_at isGf rfl ?_; first | refine m_getg h1 rfl rfl rfl ?_) | (refine a_at isPf rfl ?_; first | refine a_putI h1 rfl rfl rfl ?_ | refine a_putL h1 rfl rfl rfl ?_) | (refine a_at isIv rfl ?_; first | refine a_callV h1 rfl rfl rfl rfl (c_isWhite h1 hg.2.2.1 hg.2.1 hk.1.2 (gOK_7 hk) ?_)) | (refine a_at isAr rfl ?_; first | refine a_iald h1 rfl rfl ?_ ?_ | refine a_bald h1 rfl rfl ?_ ?_ | refine a_lald h1 rfl rfl ?_ ?_ | refine a_iast h1 rfl rfl ?_ ?_ | refine a_last h1 rfl rfl ?_ ?_ | refine a_bast h1 rfl rfl ?_ ?_ ?_) | (refine a_at isIf rfl ?_; first | (refine a_ifT rfl rfl br_eqz (by assumption) ?_) | (refine a_ifF rfl rfl br_eqz (by assumption) ?_) | (refine a_ifT rfl rfl br_nez (by assumption) ?_) | (refine a_ifF rfl rfl br_nez (by assumption) ?_) | (refine a_ifT rfl rfl br_eqz (nt_f (by assumption)) ?_) | (refine a_ifF rfl rfl br_eqz (tnf (by assumption)) ?_) | (refine a_ifF rfl rfl br_nez (fnt (by assumption)) ?_) | (refine a_if rfl rfl br_eqz (fun _ => ?_) (fun _ => ?_)) | (refine a_if rfl rfl br_nez (fun _ => ?_) (fun _ => ?_)) | (refine a_ifF rfl rfl br_ne (fun h => h (by assumption)) ?_) | (refine a_ifT rfl rfl br_eq (by assumption) ?_) | (refine a_ifF rfl rfl br_eq (by assumption) ?_) | (refine a_ifT rfl rfl br_ne (by assumption) ?_) | (refine a_ifF rfl rfl br_ne (by assumption) ?_) | (refine a_ifT rfl rfl br_lt (by assumption) ?_) | (refine a_ifF rfl rfl br_lt (by assumption) ?_) | (refine a_ifT rfl rfl br_ge (by assumption) ?_) | (refine a_ifF rfl rfl br_ge (by assumption) ?_) | (refine a_ifT rfl rfl br_gt (by assumption) ?_) | (refine a_ifF rfl rfl br_gt (by assumption) ?_) | (refine a_ifT rfl rfl br_le (by assumption) ?_) | (refine a_ifF rfl rfl br_le (by assumption) ?_) | (refine a_if rfl rfl br_eq (fun _ => ?_) (fun _ => ?_)) | (refine a_if rfl rfl br_ne (fun _ => ?_) (fun _ => ?_)) | (refine a_if rfl rfl br_lt (fun _ => ?_) (fun _ => ?_)) | (refine a_if rfl rfl br_ge (fun _ => ?_) (fun _ => ?_)) | (refine a_if rfl rfl br_gt (fun _ => ?_) (fun _ => ?_)) | (refine a_if rfl rfl br_le (fun _ => ?_) (fun _ => ?_))) | (refine a_at isIc rfl ?_; first | (refine a_icF rfl rfl br_ne (fun h => h (by assumption)) ?_) | (refine a_icT rfl rfl br_eq (by assumption) ?_) | (refine a_icF rfl rfl br_eq (by assumption) ?_) | (refine a_icT rfl rfl br_ne (by assumption) ?_) | (refine a_icF rfl rfl br_ne (by assumption) ?_) | (refine a_icT rfl rfl br_lt (by assumption) ?_) | (refine a_icF rfl rfl br_lt (by assumption) ?_) | (refine a_icT rfl rfl br_ge (by assumption) ?_) | (refine a_icF rfl rfl br_ge (by assumption) ?_) | (refine a_icT rfl rfl br_gt (by assumption) ?_) | (refine a_icF rfl rfl br_gt (by assumption) ?_) | (refine a_icT rfl rfl br_le (by assumption) ?_) | (refine a_icF rfl rfl br_le (by assumption) ?_) | (refine a_ic rfl rfl br_eq (fun _ => ?_) (fun _ => ?_)) | (refine a_ic rfl rfl br_ne (fun _ => ?_) (fun _ => ?_)) | (refine a_ic rfl rfl br_lt (fun _ => ?_) (fun _ => ?_)) | (refine a_ic rfl rfl br_ge (fun _ => ?_) (fun _ => ?_)) | (refine a_ic rfl rfl br_gt (fun _ => ?_) (fun _ => ?_)) | (refine a_ic rfl rfl br_le (fun _ => ?_) (fun _ => ?_))) | (refine a_at isRt rfl ?_; first | refine a_iret rfl rfl rfl ?_ | refine a_zret rfl rfl ?_ ?_ | refine a_lret rfl rfl ?_ | refine a_ret rfl rfl ?_))
    exact fin
theorem gWh_o {h : Int32} {ln cs : Nat → Int32} {r k : Int32} (h7 : h ≤ 7) (hl : ∀ i, i < 7 → -1 ≤ ln i ∧ ln i ≤ 7) (hn : ∀ i j, i < 7 → j < 7 → r = nI i → k = nI j → False) : gWh h ln cs r k = false := by
  cases hb : gWh h ln cs r k with
  | false => rfl
  | true =>
    obtain ⟨i, j, hi, hj, e1, e2⟩ := gWh_t hb h7 hl
    exact (hn i j hi hj e1 e2).elim
theorem nb_d0 : ∀ x, x < 49 → (x % 7 < 6 → nI (x / 7) = nI ((x + 1) / 7) ∧ nI (x % 7) + 1 = nI ((x + 1) % 7) ∧ x + 1 < 49) := by decide +kernel
theorem nb_d1 : ∀ x, x < 49 → (¬ x % 7 < 6 → ∀ j, j < 7 → nI (x % 7) + 1 ≠ nI j) := by decide +kernel
theorem nb_d2 : ∀ x, x < 49 → (0 < x % 7 → nI (x / 7) = nI ((x - 1) / 7) ∧ nI (x % 7) - 1 = nI ((x - 1) % 7) ∧ x - 1 < 49) := by decide +kernel
theorem nb_d3 : ∀ x, x < 49 → (¬ 0 < x % 7 → ∀ j, j < 7 → nI (x % 7) - 1 ≠ nI j) := by decide +kernel
theorem nb_d4 : ∀ x, x < 49 → (x < 42 → nI (x / 7) + 1 = nI ((x + 7) / 7) ∧ nI (x % 7) = nI ((x + 7) % 7) ∧ x + 7 < 49) := by decide +kernel
theorem nb_d5 : ∀ x, x < 49 → (¬ x < 42 → ∀ j, j < 7 → nI (x / 7) + 1 ≠ nI j) := by decide +kernel
theorem nb_d6 : ∀ x, x < 49 → (7 ≤ x → nI (x / 7) - 1 = nI ((x - 7) / 7) ∧ nI (x % 7) = nI ((x - 7) % 7) ∧ x - 7 < 49) := by decide +kernel
theorem nb_d7 : ∀ x, x < 49 → (¬ 7 ≤ x → ∀ j, j < 7 → nI (x / 7) - 1 ≠ nI j) := by decide +kernel
theorem nb_dec (x : Nat) (h : x < 49) : (x % 7 < 6 → nI (x / 7) = nI ((x + 1) / 7) ∧ nI (x % 7) + 1 = nI ((x + 1) % 7) ∧ x + 1 < 49) ∧ (¬ x % 7 < 6 → ∀ j, j < 7 → nI (x % 7) + 1 ≠ nI j) ∧ (0 < x % 7 → nI (x / 7) = nI ((x - 1) / 7) ∧ nI (x % 7) - 1 = nI ((x - 1) % 7) ∧ x - 1 < 49) ∧ (¬ 0 < x % 7 → ∀ j, j < 7 → nI (x % 7) - 1 ≠ nI j) ∧ (x < 42 → nI (x / 7) + 1 = nI ((x + 7) / 7) ∧ nI (x % 7) = nI ((x + 7) % 7) ∧ x + 7 < 49) ∧ (¬ x < 42 → ∀ j, j < 7 → nI (x / 7) + 1 ≠ nI j) ∧ (7 ≤ x → nI (x / 7) - 1 = nI ((x - 7) / 7) ∧ nI (x % 7) = nI ((x - 7) % 7) ∧ x - 7 < 49) ∧ (¬ 7 ≤ x → ∀ j, j < 7 → nI (x / 7) - 1 ≠ nI j) := ⟨nb_d0 x h, nb_d1 x h, nb_d2 x h, nb_d3 x h, nb_d4 x h, nb_d5 x h, nb_d6 x h, nb_d7 x h⟩
theorem bso_if (wv : Nat → Bool) (st : (Nat → Bool) × List Nat) (P : Prop) [Decidable P] (t : Nat) : bso wv st (decide P) t = if P then bst wv st t else st := by
  unfold bso
  by_cases h : P <;> simp [h]
theorem bJ_so {wv re0 : Nat → Bool} {s : Nat} {st : (Nat → Bool) × List Nat} {x t : Nat} {o : Bool} (h : bJ wv re0 s st) (hx : x ∈ st.2) (ht : o = true → t < 49 ∧ t ∈ bnb x) : bJ wv re0 s (bso wv st o t) ∧ x ∈ (bso wv st o t).2 ∧ ((wv t && !st.1 t) = true → o = true → st.2.length < 49) := by
  unfold bso
  by_cases go : o = true
  · rw [if_pos go]
    obtain ⟨h1, ⟨m, e⟩, -⟩ := bJ_st h hx (ht go).1 (ht go).2
    refine ⟨h1, by rw [e]; exact List.mem_append_left _ hx, ?_⟩
    intro hc _
    have := bJ_len h1
    rw [bst_t hc] at this
    simp at this
    omega
  · rw [if_neg go]
    exact ⟨h, hx, fun _ h2 => absurd h2 go⟩
theorem c_spread {wv re0 : Nat → Bool} {s0 : Nat} (hg : gSh sh g c l sp re) (hk : gOK M g l) (hwv : wS (M.1 g 5) (M.1 l) (M.1 c) = wv) {st : (Nat → Bool) × List Nat} (hJ : bJ wv re0 s0 st) (h1 : st.2.length = 1) (hm : bMem M sp re st)
    (hq : ∀ M', (∀ s, s < 49 → M'.1 re s = zz ((bsp wv 49 0 st).1 s)) → bFr M M' sp re → Q none (wm sh M')) : sm_E L xs (d + 4) 120 [.ref g] (wm sh M) Q := by
  have hg1 := hg.1
  have hsp := hg.2.2.2.1
  refine e_intro rfl rfl ?_
  have key : ∀ k i M1 (st : (Nat → Bool) × List Nat), i + k = 49 → bJ wv re0 s0 st → bMem M1 sp re st → bFr M M1 sp re → (∀ M', (∀ s, s < 49 → M'.1 re s = zz ((bsp wv k i st).1 s)) → bFr M M' sp re → Q none (wm sh M')) →
      sm_X L xs (d + 3) 120 1 (sm_code 120 1) [(0, .ref g), (1, .int (nI st.2.length)), (2, .int (nI i))] [] (wm sh M1) Q := by
    intro k
    induction k with
    | zero =>
      intro i M1 st hi hJ hm hf hq
      have hl := bJ_len hJ
      have e : nI st.2.length ≤ nI i := nI_le (by omega) (by omega)
      have fin := hq M1 hm.1 hf
      repeat' (first | refine x_kcg rfl ?_ | refine x_incg rfl rfl ?_ | refine x_opp rfl rfl ?_ | refine x_go rfl ?_ | (refine a_at isIf rfl ?_; first | (refine a_ifT rfl rfl br_eqz (by assumption) ?_) | (refine a_ifF rfl rfl br_eqz (by assumption) ?_) | (refine a_ifT rfl rfl br_nez (by assumption) ?_) | (refine a_ifF rfl rfl br_nez (by assumption) ?_) | (refine a_ifT rfl rfl br_eqz (nt_f (by assumption)) ?_) | (refine a_ifF rfl rfl br_eqz (tnf (by assumption)) ?_) | (refine a_ifF rfl rfl br_nez (fnt (by assumption)) ?_) | (refine a_if rfl rfl br_eqz (fun _ => ?_) (fun _ => ?_)) | (refine a_if rfl rfl br_nez (fun _ => ?_) (fun _ => ?_)) | (refine a_ifF rfl rfl br_ne (fun h => h (by assumption)) ?_) | (refine a_ifT rfl rfl br_eq (by assumption) ?_) | (refine a_ifF rfl rfl br_eq (by assumption) ?_) | (refine a_ifT rfl rfl br_ne (by assumption) ?_) | (refine a_ifF rfl rfl br_ne (by assumption) ?_) | (refine a_ifT rfl rfl br_lt (by assumption) ?_) | (refine a_ifF rfl rfl br_lt (by assumption) ?_) | (refine a_ifT rfl rfl br_ge (by assumption) ?_) | (refine a_ifF rfl rfl br_ge (by assumption) ?_) | (refine a_ifT rfl rfl br_gt (by assumption) ?_) | (refine a_ifF rfl rfl br_gt (by assumption) ?_) | (refine a_ifT rfl rfl br_le (by assumption) ?_) | (refine a_ifF rfl rfl br_le (by assumption) ?_) | (refine a_if rfl rfl br_eq (fun _ => ?_) (fun _ => ?_)) | (refine a_if rfl rfl br_ne (fun _ => ?_) (fun _ => ?_)) | (refine a_if rfl rfl br_lt (fun _ => ?_) (fun _ => ?_)) | (refine a_if rfl rfl br_ge (fun _ => ?_) (fun _ => ?_)) | (refine a_if rfl rfl br_gt (fun _ => ?_) (fun _ => ?_)) | (refine a_if rfl rfl br_le (fun _ => ?_) (fun _ => ?_))) | (refine a_at isIc rfl ?_; first | (refine a_icF rfl rfl br_ne (fun h => h (by assumption)) ?_) | (refine a_icT rfl rfl br_eq (by assumption) ?_) | (refine a_icF rfl rfl br_eq (by assumption) ?_) | (refine a_icT rfl rfl br_ne (by assumption) ?_) | (refine a_icF rfl rfl br_ne (by assumption) ?_) | (refine a_icT rfl rfl br_lt (by assumption) ?_) | (refine a_icF rfl rfl br_lt (by assumption) ?_) | (refine a_icT rfl rfl br_ge (by assumption) ?_) | (refine a_icF rfl rfl br_ge (by assumption) ?_) | (refine a_icT rfl rfl br_gt (by assumption) ?_) | (refine a_icF rfl rfl br_gt (by assumption) ?_) | (refine a_icT rfl rfl br_le (by assumption) ?_) | (refine a_icF rfl rfl br_le (by assumption) ?_) | (refine a_ic rfl rfl br_eq (fun _ => ?_) (fun _ => ?_)) | (refine a_ic rfl rfl br_ne (fun _ => ?_) (fun _ => ?_)) | (refine a_ic rfl rfl br_lt (fun _ => ?_) (fun _ => ?_)) | (refine a_ic rfl rfl br_ge (fun _ => ?_) (fun _ => ?_)) | (refine a_ic rfl rfl br_gt (fun _ => ?_) (fun _ => ?_)) | (refine a_ic rfl rfl br_le (fun _ => ?_) (fun _ => ?_))) | (refine a_at isRt rfl ?_; first | refine a_iret rfl rfl rfl ?_ | refine a_zret rfl rfl ?_ ?_ | refine a_lret rfl rfl ?_ | refine a_ret rfl rfl ?_))
      exact fin
    | succ k ih =>
      intro i M1 st hi hJ hm hf hq
      have hl := bJ_len hJ
      unfold bsp at hq
      cases hx : st.2[i]? with
      | none =>
        rw [hx] at hq
        have e : nI st.2.length ≤ nI i := nI_le (List.getElem?_eq_none_iff.mp hx) (by omega)
        have fin := hq M1 hm.1 hf
        repeat' (first | refine x_kcg rfl ?_ | refine x_incg rfl rfl ?_ | refine x_opp rfl rfl ?_ | refine x_go rfl ?_ | (refine a_at isIf rfl ?_; first | (refine a_ifT rfl rfl br_eqz (by assumption) ?_) | (refine a_ifF rfl rfl br_eqz (by assumption) ?_) | (refine a_ifT rfl rfl br_nez (by assumption) ?_) | (refine a_ifF rfl rfl br_nez (by assumption) ?_) | (refine a_ifT rfl rfl br_eqz (nt_f (by assumption)) ?_) | (refine a_ifF rfl rfl br_eqz (tnf (by assumption)) ?_) | (refine a_ifF rfl rfl br_nez (fnt (by assumption)) ?_) | (refine a_if rfl rfl br_eqz (fun _ => ?_) (fun _ => ?_)) | (refine a_if rfl rfl br_nez (fun _ => ?_) (fun _ => ?_)) | (refine a_ifF rfl rfl br_ne (fun h => h (by assumption)) ?_) | (refine a_ifT rfl rfl br_eq (by assumption) ?_) | (refine a_ifF rfl rfl br_eq (by assumption) ?_) | (refine a_ifT rfl rfl br_ne (by assumption) ?_) | (refine a_ifF rfl rfl br_ne (by assumption) ?_) | (refine a_ifT rfl rfl br_lt (by assumption) ?_) | (refine a_ifF rfl rfl br_lt (by assumption) ?_) | (refine a_ifT rfl rfl br_ge (by assumption) ?_) | (refine a_ifF rfl rfl br_ge (by assumption) ?_) | (refine a_ifT rfl rfl br_gt (by assumption) ?_) | (refine a_ifF rfl rfl br_gt (by assumption) ?_) | (refine a_ifT rfl rfl br_le (by assumption) ?_) | (refine a_ifF rfl rfl br_le (by assumption) ?_) | (refine a_if rfl rfl br_eq (fun _ => ?_) (fun _ => ?_)) | (refine a_if rfl rfl br_ne (fun _ => ?_) (fun _ => ?_)) | (refine a_if rfl rfl br_lt (fun _ => ?_) (fun _ => ?_)) | (refine a_if rfl rfl br_ge (fun _ => ?_) (fun _ => ?_)) | (refine a_if rfl rfl br_gt (fun _ => ?_) (fun _ => ?_)) | (refine a_if rfl rfl br_le (fun _ => ?_) (fun _ => ?_))) | (refine a_at isIc rfl ?_; first | (refine a_icF rfl rfl br_ne (fun h => h (by assumption)) ?_) | (refine a_icT rfl rfl br_eq (by assumption) ?_) | (refine a_icF rfl rfl br_eq (by assumption) ?_) | (refine a_icT rfl rfl br_ne (by assumption) ?_) | (refine a_icF rfl rfl br_ne (by assumption) ?_) | (refine a_icT rfl rfl br_lt (by assumption) ?_) | (refine a_icF rfl rfl br_lt (by assumption) ?_) | (refine a_icT rfl rfl br_ge (by assumption) ?_) | (refine a_icF rfl rfl br_ge (by assumption) ?_) | (refine a_icT rfl rfl br_gt (by assumption) ?_) | (refine a_icF rfl rfl br_gt (by assumption) ?_) | (refine a_icT rfl rfl br_le (by assumption) ?_) | (refine a_icF rfl rfl br_le (by assumption) ?_) | (refine a_ic rfl rfl br_eq (fun _ => ?_) (fun _ => ?_)) | (refine a_ic rfl rfl br_ne (fun _ => ?_) (fun _ => ?_)) | (refine a_ic rfl rfl br_lt (fun _ => ?_) (fun _ => ?_)) | (refine a_ic rfl rfl br_ge (fun _ => ?_) (fun _ => ?_)) | (refine a_ic rfl rfl br_gt (fun _ => ?_) (fun _ => ?_)) | (refine a_ic rfl rfl br_le (fun _ => ?_) (fun _ => ?_))) | (refine a_at isRt rfl ?_; first | refine a_iret rfl rfl rfl ?_ | refine a_zret rfl rfl ?_ ?_ | refine a_lret rfl rfl ?_ | refine a_ret rfl rfl ?_))
        exact fin
      | some x =>
        rw [hx] at hq
        dsimp only at hq
        have hlt := (List.getElem?_eq_some_iff.mp hx).1
        have e : ¬ nI st.2.length ≤ nI i := nI_ge hlt (by omega)
        have e49 : ¬ (49 : Int32) ≤ nI i := nI_ge (b := 49) (by omega) (by decide)
        have hxm : x ∈ st.2 := List.mem_of_getElem? hx
        have hx49 := (hJ.2.1 x hxm).1
        have ex := hm.2 i x hx
        obtain ⟨d1, d2⟩ := d7_dec x hx49
        rw [bnb_fold] at hq
        dsimp only at hq
        rw [← bso_if, ← bso_if, ← bso_if, ← bso_if] at hq
        obtain ⟨a1, a2, b1, b2, c1, c2, f1, f2⟩ := nb_dec x hx49
        obtain ⟨j1, m1, l1⟩ := bJ_so (o := decide (x % 7 < 6)) (t := x + 1) hJ hxm (fun h => ⟨(a1 (of_decide_eq_true h)).2.2, by rw [bnb_iff]; exact Or.inl ⟨of_decide_eq_true h, rfl⟩⟩)
        obtain ⟨j2, m2, l2⟩ := bJ_so (o := decide (0 < x % 7)) (t := x - 1) j1 m1 (fun h => ⟨(b1 (of_decide_eq_true h)).2.2, by rw [bnb_iff]; exact Or.inr (Or.inl ⟨of_decide_eq_true h, rfl⟩)⟩)
        obtain ⟨j3, m3, l3⟩ := bJ_so (o := decide (x < 42)) (t := x + 7) j2 m2 (fun h => ⟨(c1 (of_decide_eq_true h)).2.2, by rw [bnb_iff]; exact Or.inr (Or.inr (Or.inl ⟨of_decide_eq_true h, rfl⟩))⟩)
        obtain ⟨j4, m4, l4⟩ := bJ_so (o := decide (7 ≤ x)) (t := x - 7) j3 m3 (fun h => ⟨(f1 (of_decide_eq_true h)).2.2, by rw [bnb_iff]; exact Or.inr (Or.inr (Or.inr ⟨of_decide_eq_true h, rfl⟩))⟩)
        generalize hs1 : bso wv st (decide (x % 7 < 6)) (x + 1) = s1 at *
        generalize hs2 : bso wv s1 (decide (0 < x % 7)) (x - 1) = s2 at *
        generalize hs3 : bso wv s2 (decide (x < 42)) (x + 7) = s3 at *
        generalize hs4 : bso wv s3 (decide (7 ≤ x)) (x - 7) = s4 at *
        have vv : ∀ M2, bFr M M2 sp re → gOK M2 g l ∧ wS (M2.1 g 5) (M2.1 l) (M2.1 c) = wv := by
          intro M2 h2
          obtain ⟨v1, v2, v3, v4⟩ := bFr_v hg h2
          exact ⟨v4 hk, by rw [v1, v2, v3]; exact hwv⟩
        have v0 := vv M1 hf
        have wo : ∀ M2 (r q : Int32), bFr M M2 sp re → (∀ i j, i < 7 → j < 7 → r = nI i → q = nI j → False) → gWh (M2.1 g 5) (M2.1 l) (M2.1 c) r q = false := fun M2 r q h2 h3 => gWh_o (vv M2 h2).1.1.2 (gOK_7 (vv M2 h2).1) h3
        repeat (first | refine x_kcg rfl ?_ | refine x_opp rfl rfl ?_ | refine x_go rfl ?_ | refine m_getg hg1 rfl rfl rfl ?_)
        refine x_icm br_ge (fun h => absurd h e) (fun _ => ?_)
        repeat (first | refine x_kcg rfl ?_ | refine x_opp rfl rfl ?_ | refine x_go rfl ?_ | refine m_getg hg1 rfl rfl rfl ?_)
        refine x_icm br_ge (fun h => absurd h e49) (fun _ => ?_)
        repeat (first | refine x_kcg rfl ?_ | refine x_opp rfl rfl ?_ | refine x_go rfl ?_ | refine m_getg hg1 rfl rfl rfl ?_)
        refine m_iald hsp (vp_in_nI (by omega) (by decide)) ?_
        rw [nI_clamp (by omega), ex]
        repeat (first | refine x_kcg rfl ?_ | refine x_opp rfl rfl ?_ | refine x_go rfl ?_ | refine m_getg hg1 rfl rfl rfl ?_)
        refine x_idiv z7 ?_
        rw [d1]
        repeat (first | refine x_kcg rfl ?_ | refine x_opp rfl rfl ?_ | refine x_go rfl ?_ | refine m_getg hg1 rfl rfl rfl ?_)
        refine m_iald hsp (vp_in_nI (by omega) (by decide)) ?_
        rw [nI_clamp (by omega), ex]
        repeat (first | refine x_kcg rfl ?_ | refine x_opp rfl rfl ?_ | refine x_go rfl ?_ | refine m_getg hg1 rfl rfl rfl ?_)
        refine x_irem z7 ?_
        rw [d2]
        repeat (first | refine x_kcg rfl ?_ | refine x_opp rfl rfl ?_ | refine x_go rfl ?_ | refine m_getg hg1 rfl rfl rfl ?_)
        refine m_callV hg1 rfl rfl rfl (c_reach (wv := wv) (st := st) (o := decide (x % 7 < 6)) (t := x + 1) hg v0.1 v0.2 (fun h => a1 (of_decide_eq_true h)) (fun h => wo M1 _ _ hf (fun i j _ hj _ e2 => a2 (of_decide_eq_false h) j hj e2)) hm l1 (fun M2 p2 q2 => ?_))
        rw [hs1] at p2 ⊢
        have q2 := bFr_tr hf q2
        repeat (first | refine x_kcg rfl ?_ | refine x_opp rfl rfl ?_ | refine x_go rfl ?_ | refine m_getg hg1 rfl rfl rfl ?_)
        refine m_callV hg1 rfl rfl rfl (c_reach (wv := wv) (st := s1) (o := decide (0 < x % 7)) (t := x - 1) hg (vv M2 q2).1 (vv M2 q2).2 (fun h => b1 (of_decide_eq_true h)) (fun h => wo M2 _ _ q2 (fun i j _ hj _ e2 => b2 (of_decide_eq_false h) j hj e2)) p2 l2 (fun M3 p3 q3 => ?_))
        rw [hs2] at p3 ⊢
        have q3 := bFr_tr q2 q3
        repeat (first | refine x_kcg rfl ?_ | refine x_opp rfl rfl ?_ | refine x_go rfl ?_ | refine m_getg hg1 rfl rfl rfl ?_)
        refine m_callV hg1 rfl rfl rfl (c_reach (wv := wv) (st := s2) (o := decide (x < 42)) (t := x + 7) hg (vv M3 q3).1 (vv M3 q3).2 (fun h => c1 (of_decide_eq_true h)) (fun h => wo M3 _ _ q3 (fun i j hi _ e1 _ => c2 (of_decide_eq_false h) i hi e1)) p3 l3 (fun M4 p4 q4 => ?_))
        rw [hs3] at p4 ⊢
        have q4 := bFr_tr q3 q4
        repeat (first | refine x_kcg rfl ?_ | refine x_opp rfl rfl ?_ | refine x_go rfl ?_ | refine m_getg hg1 rfl rfl rfl ?_)
        refine m_callV hg1 rfl rfl rfl (c_reach (wv := wv) (st := s3) (o := decide (7 ≤ x)) (t := x - 7) hg (vv M4 q4).1 (vv M4 q4).2 (fun h => f1 (of_decide_eq_true h)) (fun h => wo M4 _ _ q4 (fun i j hi _ e1 _ => f2 (of_decide_eq_false h) i hi e1)) p4 l4 (fun M5 p5 q5 => ?_))
        rw [hs4] at p5 ⊢
        have q5 := bFr_tr q4 q5
        repeat (first | refine x_kcg rfl ?_ | refine x_incg rfl rfl ?_ | refine x_opp rfl rfl ?_)
        refine x_goto ?_
        refine x_lvs [(0, .ref g), (1, .int (nI s4.2.length)), (2, .int (nI (i + 1)))] rfl rfl rfl ⟨rfl, rfl, rfl, trivial⟩ ?_
        exact ih (i + 1) M5 s4 (by omega) j4 p5 q5 hq
  repeat (first | refine x_kcg rfl ?_ | refine x_incg rfl rfl ?_ | refine x_opp rfl rfl ?_)
  refine x_fall ?_
  have e1 : nI 1 = nI st.2.length := by rw [h1]
  have fin := key 49 0 M st rfl hJ hm (bFr_rfl M sp re) hq
  rw [← e1] at fin
  refine x_lvs [(0, .ref g), (1, .int (nI 1)), (2, .int (nI 0))] rfl rfl rfl ⟨rfl, rfl, rfl, trivial⟩ ?_
  exact fin
theorem c_islands {H : Nat} (hg : gSh sh g c l sp re) (hk : gOK M g l) (hH : M.1 g 5 = nI H) (hH7 : H ≤ 7)
    (hq : ∀ M', bFr M M' sp re → Q (some (.int (nI (uAll (wS (M.1 g 5) (M.1 l) (M.1 c)) 49).2))) (wm sh M')) : sm_E L xs (d + 5) 118 [.ref g] (wm sh M) Q := by
  have hg1 := hg.1
  have hl1 := hg.2.2.1
  have hre := hg.2.2.2.2.1
  have hsr : re ≠ sp := hg.2.2.2.2.2.2.2.2.2.2.2.2.2.2
  have hwt : ∀ s, s < 49 → wS (M.1 g 5) (M.1 l) (M.1 c) s = true → s / 7 < H ∧ s % 7 < (M.1 l (s / 7)).toNatClampNeg := fun s hs hw => wS_t hH hH7 (gOK_7 hk) hs hw
  generalize hwv : wS (M.1 g 5) (M.1 l) (M.1 c) = wv at hq hwt
  have vv : ∀ M2, bFr M M2 sp re → M2.1 g = M.1 g ∧ M2.1 l = M.1 l ∧ gOK M2 g l ∧ wS (M2.1 g 5) (M2.1 l) (M2.1 c) = wv := by
    intro M2 h2
    obtain ⟨v1, v2, v3, v4⟩ := bFr_v hg h2
    exact ⟨v1, v2, v4 hk, by rw [v1, v2, v3]; exact hwv⟩
  refine e_intro rfl rfl ?_
  have lp : ∀ M1 (st : (Nat → Bool) × Nat), bFr M M1 sp re → (∀ s, s < 49 → M1.1 re s = zz (st.1 s)) → bI wv st → (∀ a, a < 0 * 7 → wv a = true → st.1 a = true) → sm_X L xs (d + 4) 118 1 (sm_code 118 1) [(0, .ref g), (1, .int (nI st.2)), (2, .int (nI 0))] [] (wm sh M1) Q := by
    refine loop_dn (P := fun i => ∀ M1 (st : (Nat → Bool) × Nat), bFr M M1 sp re → (∀ s, s < 49 → M1.1 re s = zz (st.1 s)) → bI wv st → (∀ a, a < i * 7 → wv a = true → st.1 a = true) → sm_X L xs (d + 4) 118 1 (sm_code 118 1) [(0, .ref g), (1, .int (nI st.2)), (2, .int (nI i))] [] (wm sh M1) Q) H ?_ ?_
    · intro M1 st h1 h2 h3 h4
      have hle : M1.1 g 5 ≤ nI H := by rw [(vv M1 h1).1, hH]; exact nI_le (Nat.le_refl _) (by omega)
      have e := isl_eq wv st h3 (fun a ha hw => h4 a (by have := (hwt a ha hw).1; omega) hw)
      have fin := hq M1 h1
      rw [← e] at fin
      repeat' (first | refine x_kcg rfl ?_ | refine x_incg rfl rfl ?_ | refine x_opp rfl rfl ?_ | refine x_go rfl ?_ | (refine a_at isGf rfl ?_; first | refine m_getg hg1 rfl rfl rfl ?_) | (refine a_at isPf rfl ?_; first | refine a_putI hg1 rfl rfl rfl ?_ | refine a_putL hg1 rfl rfl rfl ?_) | (refine a_at isAr rfl ?_; first | refine a_iald hg1 rfl rfl ?_ ?_ | refine a_bald hg1 rfl rfl ?_ ?_ | refine a_lald hg1 rfl rfl ?_ ?_ | refine a_iast hg1 rfl rfl ?_ ?_ | refine a_last hg1 rfl rfl ?_ ?_ | refine a_bast hg1 rfl rfl ?_ ?_ ?_) | (refine a_at isIf rfl ?_; first | (refine a_ifT rfl rfl br_eqz (by assumption) ?_) | (refine a_ifF rfl rfl br_eqz (by assumption) ?_) | (refine a_ifT rfl rfl br_nez (by assumption) ?_) | (refine a_ifF rfl rfl br_nez (by assumption) ?_) | (refine a_ifT rfl rfl br_eqz (nt_f (by assumption)) ?_) | (refine a_ifF rfl rfl br_eqz (tnf (by assumption)) ?_) | (refine a_ifF rfl rfl br_nez (fnt (by assumption)) ?_) | (refine a_if rfl rfl br_eqz (fun _ => ?_) (fun _ => ?_)) | (refine a_if rfl rfl br_nez (fun _ => ?_) (fun _ => ?_)) | (refine a_ifF rfl rfl br_ne (fun h => h (by assumption)) ?_) | (refine a_ifT rfl rfl br_eq (by assumption) ?_) | (refine a_ifF rfl rfl br_eq (by assumption) ?_) | (refine a_ifT rfl rfl br_ne (by assumption) ?_) | (refine a_ifF rfl rfl br_ne (by assumption) ?_) | (refine a_ifT rfl rfl br_lt (by assumption) ?_) | (refine a_ifF rfl rfl br_lt (by assumption) ?_) | (refine a_ifT rfl rfl br_ge (by assumption) ?_) | (refine a_ifF rfl rfl br_ge (by assumption) ?_) | (refine a_ifT rfl rfl br_gt (by assumption) ?_) | (refine a_ifF rfl rfl br_gt (by assumption) ?_) | (refine a_ifT rfl rfl br_le (by assumption) ?_) | (refine a_ifF rfl rfl br_le (by assumption) ?_) | (refine a_if rfl rfl br_eq (fun _ => ?_) (fun _ => ?_)) | (refine a_if rfl rfl br_ne (fun _ => ?_) (fun _ => ?_)) | (refine a_if rfl rfl br_lt (fun _ => ?_) (fun _ => ?_)) | (refine a_if rfl rfl br_ge (fun _ => ?_) (fun _ => ?_)) | (refine a_if rfl rfl br_gt (fun _ => ?_) (fun _ => ?_)) | (refine a_if rfl rfl br_le (fun _ => ?_) (fun _ => ?_))) | (refine a_at isIc rfl ?_; first | (refine a_icF rfl rfl br_ne (fun h => h (by assumption)) ?_) | (refine a_icT rfl rfl br_eq (by assumption) ?_) | (refine a_icF rfl rfl br_eq (by assumption) ?_) | (refine a_icT rfl rfl br_ne (by assumption) ?_) | (refine a_icF rfl rfl br_ne (by assumption) ?_) | (refine a_icT rfl rfl br_lt (by assumption) ?_) | (refine a_icF rfl rfl br_lt (by assumption) ?_) | (refine a_icT rfl rfl br_ge (by assumption) ?_) | (refine a_icF rfl rfl br_ge (by assumption) ?_) | (refine a_icT rfl rfl br_gt (by assumption) ?_) | (refine a_icF rfl rfl br_gt (by assumption) ?_) | (refine a_icT rfl rfl br_le (by assumption) ?_) | (refine a_icF rfl rfl br_le (by assumption) ?_) | (refine a_ic rfl rfl br_eq (fun _ => ?_) (fun _ => ?_)) | (refine a_ic rfl rfl br_ne (fun _ => ?_) (fun _ => ?_)) | (refine a_ic rfl rfl br_lt (fun _ => ?_) (fun _ => ?_)) | (refine a_ic rfl rfl br_ge (fun _ => ?_) (fun _ => ?_)) | (refine a_ic rfl rfl br_gt (fun _ => ?_) (fun _ => ?_)) | (refine a_ic rfl rfl br_le (fun _ => ?_) (fun _ => ?_))) | (refine a_at isRt rfl ?_; first | refine a_iret rfl rfl rfl ?_ | refine a_zret rfl rfl ?_ ?_ | refine a_lret rfl rfl ?_ | refine a_ret rfl rfl ?_))
      exact fin
    · intro i hi ih M1 st h1 h2 h3 h4
      have hle : ¬ M1.1 g 5 ≤ nI i := by rw [(vv M1 h1).1, hH]; exact nI_ge hi (by omega)
      have hb := gOK_7 hk i (by omega)
      obtain ⟨l7, lj⟩ := ln_nat hb.1 hb.2
      generalize hn : (M.1 l i).toNatClampNeg = n at l7 lj
      have lp2 : ∀ M1 (st : (Nat → Bool) × Nat), bFr M M1 sp re → (∀ s, s < 49 → M1.1 re s = zz (st.1 s)) → bI wv st → (∀ a, a < i * 7 + 0 → wv a = true → st.1 a = true) → sm_X L xs (d + 4) 118 3 (sm_code 118 3) [(0, .ref g), (1, .int (nI st.2)), (2, .int (nI i)), (3, .int (nI 0))] [] (wm sh M1) Q := by
        refine loop_dn (P := fun j => ∀ M1 (st : (Nat → Bool) × Nat), bFr M M1 sp re → (∀ s, s < 49 → M1.1 re s = zz (st.1 s)) → bI wv st → (∀ a, a < i * 7 + j → wv a = true → st.1 a = true) → sm_X L xs (d + 4) 118 3 (sm_code 118 3) [(0, .ref g), (1, .int (nI st.2)), (2, .int (nI i)), (3, .int (nI j))] [] (wm sh M1) Q) n ?_ ?_
        · intro M1 st h1 h2 h3 h4
          have hl2 : M1.1 l i ≤ nI n := by rw [(vv M1 h1).2.1]; exact (lj n l7).2 (Nat.le_refl _)
          have fin := ih M1 st h1 h2 h3 (fun a ha hw => by
            by_cases g1 : a < i * 7 + n
            · exact h4 a g1 hw
            · have := (hwt a (by omega) hw).2
              have e : a / 7 = i := by omega
              rw [e, hn] at this
              omega)
          repeat' (first | (refine x_go (t := 1) rfl ?_; refine x_lvs [(0, .ref g), (1, .int (nI st.2)), (2, .int (nI (i + 1)))] rfl rfl rfl ⟨rfl, rfl, rfl, trivial⟩ ?_; exact fin) | refine x_kcg rfl ?_ | refine x_incg rfl rfl ?_ | refine x_opp rfl rfl ?_ | refine x_go (t := 7) rfl ?_ | (refine a_at isGf rfl ?_; first | refine m_getg hg1 rfl rfl rfl ?_) | (refine a_at isPf rfl ?_; first | refine a_putI hg1 rfl rfl rfl ?_ | refine a_putL hg1 rfl rfl rfl ?_) | (refine a_at isAr rfl ?_; first | refine a_ialdN hl1 (k := i) rfl rfl rfl (by omega) (by decide) ?_ | refine a_baldN hl1 (k := i) rfl rfl rfl (by omega) (by decide) ?_ | refine a_laldN hl1 (k := i) rfl rfl rfl (by omega) (by decide) ?_ | refine a_iastN hl1 (k := i) rfl rfl rfl (by omega) (by decide) ?_ | refine a_lastN hl1 (k := i) rfl rfl rfl (by omega) (by decide) ?_ | refine a_bastN hl1 (k := i) rfl rfl rfl (by omega) (by decide) ?_ ?_ | refine a_iald hg1 rfl rfl ?_ ?_ | refine a_bald hg1 rfl rfl ?_ ?_ | refine a_lald hg1 rfl rfl ?_ ?_ | refine a_iast hg1 rfl rfl ?_ ?_ | refine a_last hg1 rfl rfl ?_ ?_ | refine a_bast hg1 rfl rfl ?_ ?_ ?_) | (refine a_at isIf rfl ?_; first | (refine a_ifT rfl rfl br_eqz (by assumption) ?_) | (refine a_ifF rfl rfl br_eqz (by assumption) ?_) | (refine a_ifT rfl rfl br_nez (by assumption) ?_) | (refine a_ifF rfl rfl br_nez (by assumption) ?_) | (refine a_ifT rfl rfl br_eqz (nt_f (by assumption)) ?_) | (refine a_ifF rfl rfl br_eqz (tnf (by assumption)) ?_) | (refine a_ifF rfl rfl br_nez (fnt (by assumption)) ?_) | (refine a_if rfl rfl br_eqz (fun _ => ?_) (fun _ => ?_)) | (refine a_if rfl rfl br_nez (fun _ => ?_) (fun _ => ?_)) | (refine a_ifF rfl rfl br_ne (fun h => h (by assumption)) ?_) | (refine a_ifT rfl rfl br_eq (by assumption) ?_) | (refine a_ifF rfl rfl br_eq (by assumption) ?_) | (refine a_ifT rfl rfl br_ne (by assumption) ?_) | (refine a_ifF rfl rfl br_ne (by assumption) ?_) | (refine a_ifT rfl rfl br_lt (by assumption) ?_) | (refine a_ifF rfl rfl br_lt (by assumption) ?_) | (refine a_ifT rfl rfl br_ge (by assumption) ?_) | (refine a_ifF rfl rfl br_ge (by assumption) ?_) | (refine a_ifT rfl rfl br_gt (by assumption) ?_) | (refine a_ifF rfl rfl br_gt (by assumption) ?_) | (refine a_ifT rfl rfl br_le (by assumption) ?_) | (refine a_ifF rfl rfl br_le (by assumption) ?_) | (refine a_if rfl rfl br_eq (fun _ => ?_) (fun _ => ?_)) | (refine a_if rfl rfl br_ne (fun _ => ?_) (fun _ => ?_)) | (refine a_if rfl rfl br_lt (fun _ => ?_) (fun _ => ?_)) | (refine a_if rfl rfl br_ge (fun _ => ?_) (fun _ => ?_)) | (refine a_if rfl rfl br_gt (fun _ => ?_) (fun _ => ?_)) | (refine a_if rfl rfl br_le (fun _ => ?_) (fun _ => ?_))) | (refine a_at isIc rfl ?_; first | (refine a_icF rfl rfl br_ne (fun h => h (by assumption)) ?_) | (refine a_icT rfl rfl br_eq (by assumption) ?_) | (refine a_icF rfl rfl br_eq (by assumption) ?_) | (refine a_icT rfl rfl br_ne (by assumption) ?_) | (refine a_icF rfl rfl br_ne (by assumption) ?_) | (refine a_icT rfl rfl br_lt (by assumption) ?_) | (refine a_icF rfl rfl br_lt (by assumption) ?_) | (refine a_icT rfl rfl br_ge (by assumption) ?_) | (refine a_icF rfl rfl br_ge (by assumption) ?_) | (refine a_icT rfl rfl br_gt (by assumption) ?_) | (refine a_icF rfl rfl br_gt (by assumption) ?_) | (refine a_icT rfl rfl br_le (by assumption) ?_) | (refine a_icF rfl rfl br_le (by assumption) ?_) | (refine a_ic rfl rfl br_eq (fun _ => ?_) (fun _ => ?_)) | (refine a_ic rfl rfl br_ne (fun _ => ?_) (fun _ => ?_)) | (refine a_ic rfl rfl br_lt (fun _ => ?_) (fun _ => ?_)) | (refine a_ic rfl rfl br_ge (fun _ => ?_) (fun _ => ?_)) | (refine a_ic rfl rfl br_gt (fun _ => ?_) (fun _ => ?_)) | (refine a_ic rfl rfl br_le (fun _ => ?_) (fun _ => ?_))) | (refine a_at isRt rfl ?_; first | refine a_iret rfl rfl rfl ?_ | refine a_zret rfl rfl ?_ ?_ | refine a_lret rfl rfl ?_ | refine a_ret rfl rfl ?_))
        · intro j hj ih2 M1 st h1 h2 h3 h4
          have hl2 : ¬ M1.1 l i ≤ nI j := by
            rw [(vv M1 h1).2.1]
            intro e
            have := (lj j (by omega)).1 e
            omega
          have hs49 : i * 7 + j < 49 := by omega
          have e7 : (i * 7 + j) / 7 = i ∧ (i * 7 + j) % 7 = j := by omega
          obtain ⟨o1, o2, o3⟩ := bI_out (wv := wv) hs49 h3
          have o4 : ∀ a, a < i * 7 + (j + 1) → wv a = true → (bout wv (i * 7 + j) st).1 a = true := by
            intro a ha hw
            by_cases e : a = i * 7 + j
            · subst e
              exact o2 hw
            · exact o3 a (h4 a (by omega) hw)
          have v1 := vv M1 h1
          repeat (first | refine x_kcg rfl ?_ | refine x_opp rfl rfl ?_ | refine x_go rfl ?_ | refine m_getg hg1 rfl rfl rfl ?_)
          refine m_iald hl1 (vp_in_nI (by omega) (by decide)) ?_
          rw [nI_clamp (by omega)]
          refine x_icm br_ge (fun h => absurd h hl2) (fun _ => ?_)
          repeat (first | refine x_kcg rfl ?_ | refine x_opp rfl rfl ?_ | refine x_go rfl ?_ | refine m_getg hg1 rfl rfl rfl ?_)
          refine m_callV hg1 rfl rfl rfl (c_reach (wv := wv) (st := (st.1, [])) (o := true) (t := i * 7 + j) hg v1.2.2.1 v1.2.2.2 (fun _ => by rw [e7.1, e7.2]; exact ⟨rfl, rfl, hs49⟩) (fun h => by cases h) ⟨h2, fun k x hx => by cases hx⟩ (fun _ _ => by simp) (fun M2 p2 q2 => ?_))
          have q2 := bFr_tr h1 q2
          rw [show bso wv (st.1, []) true (i * 7 + j) = bst wv (st.1, []) (i * 7 + j) from rfl] at p2 ⊢
          by_cases hc : (wv (i * 7 + j) && !st.1 (i * 7 + j)) = true
          · have hc2 : (wv (i * 7 + j) && !((st.1, []) : (Nat → Bool) × List Nat).1 (i * 7 + j)) = true := hc
            have eo : bout wv (i * 7 + j) st = ((bsp wv 49 0 (fun x => if x = i * 7 + j then true else st.1 x, [i * 7 + j])).1, st.2 + 1) := if_pos hc
            rw [eo] at o1 o4
            rw [bst_t hc2] at p2 ⊢
            rw [Bool.and_eq_true, Bool.not_eq_true'] at hc
            have v2 := vv M2 q2
            have hJ : bJ wv st.1 (i * 7 + j) (fun s => if s = i * 7 + j then true else st.1 s, [] ++ [i * 7 + j]) := by
              refine ⟨by simp, ?_, ?_⟩
              · intro a ha
                have : a = i * 7 + j := by simpa using ha
                subst this
                exact ⟨hs49, hc.1, hc.2, con_rfl _⟩
              · intro a
                by_cases e : a = i * 7 + j <;> simp [e]
            have e1 : nI ([] ++ [i * 7 + j] : List Nat).length = 1 := rfl
            repeat (first | refine x_kcg rfl ?_ | refine x_opp rfl rfl ?_ | refine x_go rfl ?_ | refine m_getg hg1 rfl rfl rfl ?_)
            refine x_icm br_ne (fun h => absurd e1 h) (fun _ => ?_)
            repeat (first | refine x_kcg rfl ?_ | refine x_opp rfl rfl ?_ | refine x_go rfl ?_ | refine m_getg hg1 rfl rfl rfl ?_)
            refine m_callV hg1 rfl rfl rfl (c_spread hg v2.2.2.1 v2.2.2.2 hJ rfl p2 (fun M3 p3 q3 => ?_))
            have q3 := bFr_tr q2 q3
            repeat (first | refine x_kcg rfl ?_ | refine x_incg rfl rfl ?_ | refine x_opp rfl rfl ?_)
            refine x_fall ?_
            repeat (first | refine x_kcg rfl ?_ | refine x_incg rfl rfl ?_ | refine x_opp rfl rfl ?_)
            refine x_goto ?_
            refine x_lvs [(0, .ref g), (1, .int (nI (st.2 + 1))), (2, .int (nI i)), (3, .int (nI (j + 1)))] rfl rfl rfl ⟨rfl, rfl, rfl, rfl, trivial⟩ ?_
            exact ih2 M3 _ q3 p3 o1 o4
          · have hc2 : ¬ (wv (i * 7 + j) && !((st.1, []) : (Nat → Bool) × List Nat).1 (i * 7 + j)) = true := hc
            have eo : bout wv (i * 7 + j) st = st := if_neg hc
            rw [eo] at o1 o4
            rw [bst_f hc2] at p2 ⊢
            have e1 : ¬ nI ((st.1, []) : (Nat → Bool) × List Nat).2.length = 1 := by show ¬ nI 0 = 1; decide
            repeat (first | refine x_kcg rfl ?_ | refine x_opp rfl rfl ?_ | refine x_go rfl ?_ | refine m_getg hg1 rfl rfl rfl ?_)
            refine x_icm br_ne (fun _ => ?_) (fun h => absurd e1 h)
            repeat (first | refine x_kcg rfl ?_ | refine x_incg rfl rfl ?_ | refine x_opp rfl rfl ?_)
            refine x_goto ?_
            refine x_lvs [(0, .ref g), (1, .int (nI st.2)), (2, .int (nI i)), (3, .int (nI (j + 1)))] rfl rfl rfl ⟨rfl, rfl, rfl, rfl, trivial⟩ ?_
            exact ih2 M2 st q2 p2.1 o1 o4
      have fin := lp2 M1 st h1 h2 h3 h4
      repeat' (first | (refine a_stop 3 rfl ?_; (refine x_lvs [(0, .ref g), (1, .int (nI st.2)), (2, .int (nI i)), (3, .int (nI 0))] rfl rfl rfl ⟨rfl, rfl, rfl, rfl, trivial⟩ ?_; exact fin)) | refine x_kcg rfl ?_ | refine x_incg rfl rfl ?_ | refine x_opp rfl rfl ?_ | refine x_go rfl ?_ | (refine a_at isGf rfl ?_; first | refine m_getg hg1 rfl rfl rfl ?_) | (refine a_at isPf rfl ?_; first | refine a_putI hg1 rfl rfl rfl ?_ | refine a_putL hg1 rfl rfl rfl ?_) | (refine a_at isAr rfl ?_; first | refine a_iald hg1 rfl rfl ?_ ?_ | refine a_bald hg1 rfl rfl ?_ ?_ | refine a_lald hg1 rfl rfl ?_ ?_ | refine a_iast hg1 rfl rfl ?_ ?_ | refine a_last hg1 rfl rfl ?_ ?_ | refine a_bast hg1 rfl rfl ?_ ?_ ?_) | (refine a_at isIf rfl ?_; first | (refine a_ifT rfl rfl br_eqz (by assumption) ?_) | (refine a_ifF rfl rfl br_eqz (by assumption) ?_) | (refine a_ifT rfl rfl br_nez (by assumption) ?_) | (refine a_ifF rfl rfl br_nez (by assumption) ?_) | (refine a_ifT rfl rfl br_eqz (nt_f (by assumption)) ?_) | (refine a_ifF rfl rfl br_eqz (tnf (by assumption)) ?_) | (refine a_ifF rfl rfl br_nez (fnt (by assumption)) ?_) | (refine a_if rfl rfl br_eqz (fun _ => ?_) (fun _ => ?_)) | (refine a_if rfl rfl br_nez (fun _ => ?_) (fun _ => ?_)) | (refine a_ifF rfl rfl br_ne (fun h => h (by assumption)) ?_) | (refine a_ifT rfl rfl br_eq (by assumption) ?_) | (refine a_ifF rfl rfl br_eq (by assumption) ?_) | (refine a_ifT rfl rfl br_ne (by assumption) ?_) | (refine a_ifF rfl rfl br_ne (by assumption) ?_) | (refine a_ifT rfl rfl br_lt (by assumption) ?_) | (refine a_ifF rfl rfl br_lt (by assumption) ?_) | (refine a_ifT rfl rfl br_ge (by assumption) ?_) | (refine a_ifF rfl rfl br_ge (by assumption) ?_) | (refine a_ifT rfl rfl br_gt (by assumption) ?_) | (refine a_ifF rfl rfl br_gt (by assumption) ?_) | (refine a_ifT rfl rfl br_le (by assumption) ?_) | (refine a_ifF rfl rfl br_le (by assumption) ?_) | (refine a_if rfl rfl br_eq (fun _ => ?_) (fun _ => ?_)) | (refine a_if rfl rfl br_ne (fun _ => ?_) (fun _ => ?_)) | (refine a_if rfl rfl br_lt (fun _ => ?_) (fun _ => ?_)) | (refine a_if rfl rfl br_ge (fun _ => ?_) (fun _ => ?_)) | (refine a_if rfl rfl br_gt (fun _ => ?_) (fun _ => ?_)) | (refine a_if rfl rfl br_le (fun _ => ?_) (fun _ => ?_))) | (refine a_at isIc rfl ?_; first | (refine a_icF rfl rfl br_ne (fun h => h (by assumption)) ?_) | (refine a_icT rfl rfl br_eq (by assumption) ?_) | (refine a_icF rfl rfl br_eq (by assumption) ?_) | (refine a_icT rfl rfl br_ne (by assumption) ?_) | (refine a_icF rfl rfl br_ne (by assumption) ?_) | (refine a_icT rfl rfl br_lt (by assumption) ?_) | (refine a_icF rfl rfl br_lt (by assumption) ?_) | (refine a_icT rfl rfl br_ge (by assumption) ?_) | (refine a_icF rfl rfl br_ge (by assumption) ?_) | (refine a_icT rfl rfl br_gt (by assumption) ?_) | (refine a_icF rfl rfl br_gt (by assumption) ?_) | (refine a_icT rfl rfl br_le (by assumption) ?_) | (refine a_icF rfl rfl br_le (by assumption) ?_) | (refine a_ic rfl rfl br_eq (fun _ => ?_) (fun _ => ?_)) | (refine a_ic rfl rfl br_ne (fun _ => ?_) (fun _ => ?_)) | (refine a_ic rfl rfl br_lt (fun _ => ?_) (fun _ => ?_)) | (refine a_ic rfl rfl br_ge (fun _ => ?_) (fun _ => ?_)) | (refine a_ic rfl rfl br_gt (fun _ => ?_) (fun _ => ?_)) | (refine a_ic rfl rfl br_le (fun _ => ?_) (fun _ => ?_))) | (refine a_at isRt rfl ?_; first | refine a_iret rfl rfl rfl ?_ | refine a_zret rfl rfl ?_ ?_ | refine a_lret rfl rfl ?_ | refine a_ret rfl rfl ?_))
  repeat (first | refine x_kcg rfl ?_ | refine x_opp rfl rfl ?_ | refine x_go rfl ?_ | refine m_getg hg1 rfl rfl rfl ?_)
  refine m_callS rfl rfl (c_fill hre (by decide) ?_)
  have hf : bFr M (m_setA M re (aFill (M.1 re) 49 0)) sp re := ⟨rfl, fun a _ h2 => mA_ne _ _ h2⟩
  have fin := lp (m_setA M re (aFill (M.1 re) 49 0)) (fun _ => false, 0) hf (fun s hs => by
    rw [mA_eq]
    unfold aFill
    rw [if_pos hs]
    rfl) (bI_0 wv) (fun a ha => by omega)
  repeat (first | refine x_kcg rfl ?_ | refine x_incg rfl rfl ?_ | refine x_opp rfl rfl ?_)
  refine x_fall ?_
  refine x_lvs [(0, .ref g), (1, .int (nI 0)), (2, .int (nI 0))] rfl rfl rfl ⟨rfl, rfl, rfl, trivial⟩ ?_
  exact fin
end CI
