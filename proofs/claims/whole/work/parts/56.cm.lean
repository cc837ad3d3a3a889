/-! the lists of the desk: plain bodies -/
/-- a call of a parent's body -/
def m_sb (x : va_E) (k : Nat) : Bool := match x with | .inr (ci, _) => sm_sub ci (k / 16 % 16) | _ => false
theorem m_callP {L : Nat} {xs : Nat → Int32} {d y cb : Nat} {is : List sm_I} {lv : sm_L} {st : List Value} {sh : List sh_T} {M : mm_T} {Q : Option Value → sm_W → Prop} {a : Nat} {s : sh_T} {k : Nat} {as : List Value} (hs : sh[a]? = some s) (ht : m_sb (s (M.1 a) (M.2.1 a) (M.2.2 a)) k = true) (hb : (Nat.ble (k % 16) st.length && Nat.ble (sm_words (st.drop (k % 16))) 8) = true) (hst : (st.take (k % 16)).reverse = .ref a :: as) (he : sm_E L xs d (k / 256) (.ref a :: as) (wm sh M) (fun r w1 => sm_X L xs d y cb is lv (r.toList ++ st.drop (k % 16)) w1 Q)) : sm_X L xs d y cb (.invokespecial k :: is) lv st (wm sh M) Q := by
  unfold m_sb at ht
  split at ht
  · rename_i ci fs h1
    exact x_invP hb hst (by rw [wm_get hs, h1]) ht he (fun _ _ h => h)
  · cases ht
section CB
variable {L : Nat} {xs : Nat → Int32} {d : Nat} {dy : List sh_T} {M : mm_T} {Q : Option Value → sm_W → Prop} {E : Nat → lT} {P : Nat → Nat} {n l B : Nat} {f : Nat → Int32} {o : Int64}
theorem b64_t : (b64 true).toInt32 = 1 := by decide
theorem b64_f : (b64 false).toInt32 = 0 := by decide
theorem m_getp {s : sh_T} {a k y cb : Nat} {is : List sm_I} {lv : sm_L} {st : List Value} {v : Value} {sh : List sh_T} (hs : sh[a]? = some s) (hv : ∀ f g r, m_fd (s f g r) k = some v) (h : sm_X L xs d y cb is lv (v :: st) (wm sh M) Q) : sm_X L xs d y cb (.getfield k :: is) lv (.ref a :: st) (wm sh M) Q := m_get hs (hv _ _ _) h
theorem c_plainAl (hE : lOK E n) (hl : l < n) (hk : lK (E l) < 3) (hs : cLs (sh0 ++ dy) M E P n) (tr : cTr M (B, f)) (hq : ∀ M', cft M M' (B + 1, upd f (B % 100) 0) → Q (some (.int (zz (sAt (lWd (E l)) o (lMy (E l))).isSome))) (wm (sh0 ++ dy) M')) : sm_E L xs (d + 3) 52 [.ref (P l), .long o] (wm (sh0 ++ dy) M) Q := by
  obtain ⟨p1, p2, p3, p4⟩ := hs.2 l hl
  obtain ⟨s, h1, h2, h3⟩ := cSh_p p2 hk
  obtain ⟨-, -, -, -, h40, -⟩ := hE.2 l hl
  refine e_intro rfl rfl ?_
  repeat (first | refine x_kcg rfl ?_ | refine x_opp rfl rfl ?_ | refine x_go rfl ?_)
  refine m_getp h1 h2.2.2.1 ?_
  repeat (first | refine x_kcg rfl ?_ | refine x_opp rfl rfl ?_ | refine x_go rfl ?_)
  refine m_callV (s_1 dy) rfl rfl rfl (c_beg (c := 0) tr rfl (fun ct => ?_))
  repeat (first | refine x_kcg rfl ?_ | refine x_opp rfl rfl ?_ | refine x_go rfl ?_)
  refine m_callV h1 (h2.2.2.2.2 _ _ _) rfl rfl (c_place2 hE hl hk (cLs_cft ct hs) ?_)
  have fin := hq _ ct
  have hlt : ∀ k, sAt (lWd (E l)) o (lMy (E l)) = some k → k < 2 ^ 31 := fun k hk => by have := (sAt_lt hk).1; omega
  have hneg := sIx_neg hlt
  cases hst : sAt (lWd (E l)) o (lMy (E l)) with
  | none =>
    rw [hst] at fin
    have g : sIx none < 0 := by decide
    repeat' (first | refine x_kcg rfl ?_ | refine x_incg rfl rfl ?_ | refine x_opp rfl rfl ?_ | refine x_go rfl ?_ | (refine a_at isIf rfl ?_; first | (refine a_ifT rfl rfl br_eqz (by assumption) ?_) | (refine a_ifF rfl rfl br_eqz (by assumption) ?_) | (refine a_ifT rfl rfl br_nez (by assumption) ?_) | (refine a_ifF rfl rfl br_nez (by assumption) ?_) | (refine a_ifT rfl rfl br_eqz (nt_f (by assumption)) ?_) | (refine a_ifF rfl rfl br_eqz (tnf (by assumption)) ?_) | (refine a_ifF rfl rfl br_nez (fnt (by assumption)) ?_) | (refine a_if rfl rfl br_eqz (fun _ => ?_) (fun _ => ?_)) | (refine a_if rfl rfl br_nez (fun _ => ?_) (fun _ => ?_)) | (refine a_ifF rfl rfl br_ne (fun h => h (by assumption)) ?_) | (refine a_ifT rfl rfl br_eq (by assumption) ?_) | (refine a_ifF rfl rfl br_eq (by assumption) ?_) | (refine a_ifT rfl rfl br_ne (by assumption) ?_) | (refine a_ifF rfl rfl br_ne (by assumption) ?_) | (refine a_ifT rfl rfl br_lt (by assumption) ?_) | (refine a_ifF rfl rfl br_lt (by assumption) ?_) | (refine a_ifT rfl rfl br_ge (by assumption) ?_) | (refine a_ifF rfl rfl br_ge (by assumption) ?_) | (refine a_ifT rfl rfl br_gt (by assumption) ?_) | (refine a_ifF rfl rfl br_gt (by assumption) ?_) | (refine a_ifT rfl rfl br_le (by assumption) ?_) | (refine a_ifF rfl rfl br_le (by assumption) ?_) | (refine a_if rfl rfl br_eq (fun _ => ?_) (fun _ => ?_)) | (refine a_if rfl rfl br_ne (fun _ => ?_) (fun _ => ?_)) | (refine a_if rfl rfl br_lt (fun _ => ?_) (fun _ => ?_)) | (refine a_if rfl rfl br_ge (fun _ => ?_) (fun _ => ?_)) | (refine a_if rfl rfl br_gt (fun _ => ?_) (fun _ => ?_)) | (refine a_if rfl rfl br_le (fun _ => ?_) (fun _ => ?_))) | (refine a_at isIc rfl ?_; first | (refine a_icF rfl rfl br_ne (fun h => h (by assumption)) ?_) | (refine a_icT rfl rfl br_eq (by assumption) ?_) | (refine a_icF rfl rfl br_eq (by assumption) ?_) | (refine a_icT rfl rfl br_ne (by assumption) ?_) | (refine a_icF rfl rfl br_ne (by assumption) ?_) | (refine a_icT rfl rfl br_lt (by assumption) ?_) | (refine a_icF rfl rfl br_lt (by assumption) ?_) | (refine a_icT rfl rfl br_ge (by assumption) ?_) | (refine a_icF rfl rfl br_ge (by assumption) ?_) | (refine a_icT rfl rfl br_gt (by assumption) ?_) | (refine a_icF rfl rfl br_gt (by assumption) ?_) | (refine a_icT rfl rfl br_le (by assumption) ?_) | (refine a_icF rfl rfl br_le (by assumption) ?_) | (refine a_ic rfl rfl br_eq (fun _ => ?_) (fun _ => ?_)) | (refine a_ic rfl rfl br_ne (fun _ => ?_) (fun _ => ?_)) | (refine a_ic rfl rfl br_lt (fun _ => ?_) (fun _ => ?_)) | (refine a_ic rfl rfl br_ge (fun _ => ?_) (fun _ => ?_)) | (refine a_ic rfl rfl br_gt (fun _ => ?_) (fun _ => ?_)) | (refine a_ic rfl rfl br_le (fun _ => ?_) (fun _ => ?_))) | (refine a_at isRt rfl ?_; first | refine a_iret rfl rfl rfl ?_ | refine a_zret rfl rfl ?_ ?_ | refine a_lret rfl rfl ?_ | refine a_ret rfl rfl ?_))
    · exact Or.inl rfl
    · exact fin
  | some k =>
    rw [hst] at fin hneg
    have g : ¬ sIx (some k) < 0 := fun h => by cases hneg.mp h
    repeat' (first | refine x_kcg rfl ?_ | refine x_incg rfl rfl ?_ | refine x_opp rfl rfl ?_ | refine x_go rfl ?_ | (refine a_at isIf rfl ?_; first | (refine a_ifT rfl rfl br_eqz (by assumption) ?_) | (refine a_ifF rfl rfl br_eqz (by assumption) ?_) | (refine a_ifT rfl rfl br_nez (by assumption) ?_) | (refine a_ifF rfl rfl br_nez (by assumption) ?_) | (refine a_ifT rfl rfl br_eqz (nt_f (by assumption)) ?_) | (refine a_ifF rfl rfl br_eqz (tnf (by assumption)) ?_) | (refine a_ifF rfl rfl br_nez (fnt (by assumption)) ?_) | (refine a_if rfl rfl br_eqz (fun _ => ?_) (fun _ => ?_)) | (refine a_if rfl rfl br_nez (fun _ => ?_) (fun _ => ?_)) | (refine a_ifF rfl rfl br_ne (fun h => h (by assumption)) ?_) | (refine a_ifT rfl rfl br_eq (by assumption) ?_) | (refine a_ifF rfl rfl br_eq (by assumption) ?_) | (refine a_ifT rfl rfl br_ne (by assumption) ?_) | (refine a_ifF rfl rfl br_ne (by assumption) ?_) | (refine a_ifT rfl rfl br_lt (by assumption) ?_) | (refine a_ifF rfl rfl br_lt (by assumption) ?_) | (refine a_ifT rfl rfl br_ge (by assumption) ?_) | (refine a_ifF rfl rfl br_ge (by assumption) ?_) | (refine a_ifT rfl rfl br_gt (by assumption) ?_) | (refine a_ifF rfl rfl br_gt (by assumption) ?_) | (refine a_ifT rfl rfl br_le (by assumption) ?_) | (refine a_ifF rfl rfl br_le (by assumption) ?_) | (refine a_if rfl rfl br_eq (fun _ => ?_) (fun _ => ?_)) | (refine a_if rfl rfl br_ne (fun _ => ?_) (fun _ => ?_)) | (refine a_if rfl rfl br_lt (fun _ => ?_) (fun _ => ?_)) | (refine a_if rfl rfl br_ge (fun _ => ?_) (fun _ => ?_)) | (refine a_if rfl rfl br_gt (fun _ => ?_) (fun _ => ?_)) | (refine a_if rfl rfl br_le (fun _ => ?_) (fun _ => ?_))) | (refine a_at isIc rfl ?_; first | (refine a_icF rfl rfl br_ne (fun h => h (by assumption)) ?_) | (refine a_icT rfl rfl br_eq (by assumption) ?_) | (refine a_icF rfl rfl br_eq (by assumption) ?_) | (refine a_icT rfl rfl br_ne (by assumption) ?_) | (refine a_icF rfl rfl br_ne (by assumption) ?_) | (refine a_icT rfl rfl br_lt (by assumption) ?_) | (refine a_icF rfl rfl br_lt (by assumption) ?_) | (refine a_icT rfl rfl br_ge (by assumption) ?_) | (refine a_icF rfl rfl br_ge (by assumption) ?_) | (refine a_icT rfl rfl br_gt (by assumption) ?_) | (refine a_icF rfl rfl br_gt (by assumption) ?_) | (refine a_icT rfl rfl br_le (by assumption) ?_) | (refine a_icF rfl rfl br_le (by assumption) ?_) | (refine a_ic rfl rfl br_eq (fun _ => ?_) (fun _ => ?_)) | (refine a_ic rfl rfl br_ne (fun _ => ?_) (fun _ => ?_)) | (refine a_ic rfl rfl br_lt (fun _ => ?_) (fun _ => ?_)) | (refine a_ic rfl rfl br_ge (fun _ => ?_) (fun _ => ?_)) | (refine a_ic rfl rfl br_gt (fun _ => ?_) (fun _ => ?_)) | (refine a_ic rfl rfl br_le (fun _ => ?_) (fun _ => ?_))) | (refine a_at isRt rfl ?_; first | refine a_iret rfl rfl rfl ?_ | refine a_zret rfl rfl ?_ ?_ | refine a_lret rfl rfl ?_ | refine a_ret rfl rfl ?_))
    · exact Or.inr rfl
    · exact fin
theorem c_plainMy (hE : lOK E n) (hl : l < n) (hk : lK (E l) < 3) (hs : cLs (sh0 ++ dy) M E P n) (tr : cTr M (B, f)) (hq : ∀ M', cft M M' (B + 1, upd f (B % 100) 1) → Q (some (.int (nI (lMy (E l))))) (wm (sh0 ++ dy) M')) : sm_E L xs (d + 3) 61 [.ref (P l)] (wm (sh0 ++ dy) M) Q := by
  obtain ⟨p1, p2, p3, p4⟩ := hs.2 l hl
  obtain ⟨s, h1, h2, h3⟩ := cSh_p p2 hk
  refine e_intro rfl rfl ?_
  repeat (first | refine x_kcg rfl ?_ | refine x_opp rfl rfl ?_ | refine x_go rfl ?_)
  refine m_getp h1 h2.2.2.1 ?_
  repeat (first | refine x_kcg rfl ?_ | refine x_opp rfl rfl ?_ | refine x_go rfl ?_)
  refine m_callV (s_1 dy) rfl rfl rfl (c_beg (c := 1) tr rfl (fun ct => ?_))
  have fin := hq _ ct
  repeat (first | refine x_kcg rfl ?_ | refine x_opp rfl rfl ?_ | refine x_go rfl ?_)
  refine m_get h1 (h2.2.1 _ _ _) ?_
  refine x_iret rfl ?_
  rw [show (nBeg M 1 2 0 1).1 (P l) 3 = nI (lMy (E l)) by rw [ct.2.1 (P l) (by omega) (by omega)]; exact (p3.2.1 hk).1]
  exact fin
theorem k64_lt (k : Int32) : (k.toInt64 < 0) = (k < 0) := by
  rw [Int64.lt_iff_toInt_lt, Int32.lt_iff_toInt_lt, Int32.toInt_toInt64]
  rfl
theorem k64_le (k j : Int32) : (k.toInt64 ≤ j.toInt64) = (k ≤ j) := by
  rw [Int64.le_iff_toInt_le, Int32.le_iff_toInt_le, Int32.toInt_toInt64, Int32.toInt_toInt64]
theorem k64_i (k : Int32) : k.toInt64.toInt32 = k := Int32.toInt32_toInt64 k
theorem c_plainWd {k : Int32} (hE : lOK E n) (hl : l < n) (hk : lK (E l) < 3) (hs : cLs (sh0 ++ dy) M E P n) (tr : cTr M (B, f))
    (hq : (askL (E l) 2 k.toInt64).2.1 = 0 → ∀ M', cft M M' (trc (B, f) (askL (E l) 2 k.toInt64).1) → Q (some (.long (askL (E l) 2 k.toInt64).2.2)) (wm (sh0 ++ dy) M'))
    (hqF : (askL (E l) 2 k.toInt64).2.1 = 2 → ∀ M', cff M M' (trc (B, f) (askL (E l) 2 k.toInt64).1) 2 → Q (some (.long 0)) (wm (sh0 ++ dy) M')) : sm_E L xs (d + 3) 67 [.ref (P l), .int k] (wm (sh0 ++ dy) M) Q := by
  obtain ⟨p1, p2, p3, p4⟩ := hs.2 l hl
  obtain ⟨s, h1, h2, h3⟩ := cSh_p p2 hk
  obtain ⟨-, -, -, -, h40, -⟩ := hE.2 l hl
  unfold askL at hq hqF
  rw [if_neg (by decide), if_neg (by decide), if_pos rfl] at hq hqF
  simp only [k64_lt, k64_le, k64_i] at hq hqF
  refine e_intro rfl rfl ?_
  repeat (first | refine x_kcg rfl ?_ | refine x_opp rfl rfl ?_ | refine x_go rfl ?_)
  refine m_getp h1 h2.2.2.1 ?_
  repeat (first | refine x_kcg rfl ?_ | refine x_opp rfl rfl ?_ | refine x_go rfl ?_)
  refine m_callV (s_1 dy) rfl rfl rfl (c_beg (c := 2) tr rfl (fun ct => ?_))
  have es : (nBeg M 1 2 0 2).1 (P l) 3 = nI (lMy (E l)) := by rw [ct.2.1 (P l) (by omega) (by omega)]; exact (p3.2.1 hk).1
  have bad : (∀ M', cff M M' (trc (B, f) [2]) 2 → Q (some (.long 0)) (wm (sh0 ++ dy) M')) → sm_X L xs (d + 2) 67 2 (sm_code 67 2) (lv_args 0 [.ref (P l), .int k]) [] (wm (sh0 ++ dy) (nBeg M 1 2 0 2)) Q := by
    intro h
    have fin := h _ (cft_ff ct (cff_find (k := 2) ct.2.2.2 (by decide)))
    repeat (first | refine x_kcg rfl ?_ | refine x_opp rfl rfl ?_ | refine x_go rfl ?_)
    refine m_getp h1 h2.2.2.1 ?_
    repeat (first | refine x_kcg rfl ?_ | refine x_opp rfl rfl ?_ | refine x_go rfl ?_)
    refine m_callV (s_1 dy) rfl rfl rfl (c_find (k := 2) (s_1 dy) (s_3 dy) (by decide) (vp_in_nI (n := 2) (by decide) (by decide)) ?_)
    repeat (first | refine x_kcg rfl ?_ | refine x_opp rfl rfl ?_ | refine x_go rfl ?_)
    exact x_lret fin
  repeat (first | refine x_kcg rfl ?_ | refine x_opp rfl rfl ?_ | refine x_go rfl ?_)
  by_cases g1 : k < 0
  · rw [if_pos g1] at hq hqF
    refine x_ifc br_lt (fun _ => ?_) (fun h => absurd g1 h)
    exact bad (hqF rfl)
  · rw [if_neg g1] at hq hqF
    refine x_ifc br_lt (fun h => absurd h g1) (fun _ => ?_)
    repeat (first | refine x_kcg rfl ?_ | refine x_opp rfl rfl ?_ | refine x_go rfl ?_)
    refine m_get h1 (h2.2.1 _ _ _) ?_
    rw [es]
    by_cases g2 : nI (lMy (E l)) ≤ k
    · rw [if_pos g2] at hq hqF
      refine x_icm br_lt (fun h => absurd h (Int32.not_lt.mpr g2)) (fun _ => ?_)
      exact bad (hqF rfl)
    · rw [if_neg g2] at hq hqF
      refine x_icm br_lt (fun _ => ?_) (fun h => absurd (Int32.not_le.mp g2) h)
      obtain ⟨j, hj, rfl⟩ := nI_of g1
      have hj2 : j < lMy (E l) := by
        rcases Nat.lt_or_ge j (lMy (E l)) with h | h
        · exact h
        · exact absurd (nI_le h hj) g2
      have fin := hq rfl _ ct
      rw [nI_clamp hj] at fin
      repeat (first | refine x_kcg rfl ?_ | refine x_opp rfl rfl ?_ | refine x_go rfl ?_)
      refine m_getp h1 h2.1 ?_
      repeat (first | refine x_kcg rfl ?_ | refine x_opp rfl rfl ?_ | refine x_go rfl ?_)
      refine m_lald h3 (vp_in_nI (by omega) (by decide)) ?_
      rw [nI_clamp hj, show (nBeg M 1 2 0 2).2.1 (P l + 1) j = lWd (E l) j by rw [ct.1]; exact (p3.2.1 hk).2 j hj2]
      exact x_lret fin
theorem c_plainSc (hE : lOK E n) (hl : l < n) (hk : lK (E l) < 3) (hs : cLs (sh0 ++ dy) M E P n) (tr : cTr M (B, f)) (hq : ∀ M', cft M M' (B + 1, upd f (B % 100) 3) → Q (some (.int 0)) (wm (sh0 ++ dy) M')) : sm_E L xs (d + 3) 62 [.ref (P l), .long o] (wm (sh0 ++ dy) M) Q := by
  obtain ⟨p1, p2, p3, p4⟩ := hs.2 l hl
  obtain ⟨s, h1, h2, h3⟩ := cSh_p p2 hk
  refine e_intro rfl rfl ?_
  repeat (first | refine x_kcg rfl ?_ | refine x_opp rfl rfl ?_ | refine x_go rfl ?_)
  refine m_getp h1 h2.2.2.1 ?_
  repeat (first | refine x_kcg rfl ?_ | refine x_opp rfl rfl ?_ | refine x_go rfl ?_)
  refine m_callV (s_1 dy) rfl rfl rfl (c_beg (c := 3) tr rfl (fun ct => ?_))
  have fin := hq _ ct
  repeat (first | refine x_kcg rfl ?_ | refine x_opp rfl rfl ?_ | refine x_go rfl ?_)
  exact x_iret rfl fin
/-- what was held of a list: a kind's own bodies -/
theorem c_al3 (hE : lOK E n) (hl : l < n) (hk : lK (E l) < 3) (hs : cLs (sh0 ++ dy) M E P n) (tr : cTr M (B, f)) (hq : ∀ M', cft M M' (trc (B, f) (askL (E l) 0 o).1) → Q (some (.int (askL (E l) 0 o).2.2.toInt32)) (wm (sh0 ++ dy) M')) : sm_E L xs (d + 4) (mA0 (lK (E l))) [.ref (P l), .long o] (wm (sh0 ++ dy) M) Q := by
  unfold askL at hq
  rw [if_pos rfl] at hq
  dsimp only at hq
  unfold mA0
  by_cases k2 : lK (E l) = 2
  · rw [if_neg (by omega), if_pos k2]
    rw [if_pos k2, show Nat.beq (lK (E l)) 2 = true by rw [k2]; rfl] at hq
    obtain ⟨p1, p2, p3, p4⟩ := hs.2 l hl
    have h1 : (sh0 ++ dy)[P l]? = some (bannedS 1 (P l + 1)) := by
      rcases p2 with ⟨h, _⟩ | ⟨h, _⟩ | ⟨_, h, _⟩ | ⟨h, _⟩ | ⟨h, _⟩
      · omega
      · omega
      · exact h
      · omega
      · omega
    refine e_intro rfl rfl ?_
    repeat (first | refine x_kcg rfl ?_ | refine x_opp rfl rfl ?_ | refine x_go rfl ?_ | refine m_getg h1 rfl rfl rfl ?_)
    refine m_callV (s_1 dy) rfl rfl rfl (c_beg (c := 20) tr rfl (fun ct => ?_))
    repeat (first | refine x_kcg rfl ?_ | refine x_opp rfl rfl ?_ | refine x_go rfl ?_)
    refine m_callP h1 rfl rfl rfl (c_plainAl hE hl hk (cLs_cft ct hs) ct.2.2.2 (fun M' c2 => ?_))
    have fin := hq M' (cft_tr ct c2)
    cases hst : (sAt (lWd (E l)) o (lMy (E l))).isSome with
    | true =>
      rw [hst] at fin
      have g : (true : Bool) = true := rfl
      repeat' (first | refine x_kcg rfl ?_ | refine x_incg rfl rfl ?_ | refine x_opp rfl rfl ?_ | refine x_go rfl ?_ | (refine a_at isIf rfl ?_; first | (refine a_ifT rfl rfl br_eqz (by assumption) ?_) | (refine a_ifF rfl rfl br_eqz (by assumption) ?_) | (refine a_ifT rfl rfl br_nez (by assumption) ?_) | (refine a_ifF rfl rfl br_nez (by assumption) ?_) | (refine a_ifT rfl rfl br_eqz (nt_f (by assumption)) ?_) | (refine a_ifF rfl rfl br_eqz (tnf (by assumption)) ?_) | (refine a_ifF rfl rfl br_nez (fnt (by assumption)) ?_) | (refine a_if rfl rfl br_eqz (fun _ => ?_) (fun _ => ?_)) | (refine a_if rfl rfl br_nez (fun _ => ?_) (fun _ => ?_)) | (refine a_ifF rfl rfl br_ne (fun h => h (by assumption)) ?_) | (refine a_ifT rfl rfl br_eq (by assumption) ?_) | (refine a_ifF rfl rfl br_eq (by assumption) ?_) | (refine a_ifT rfl rfl br_ne (by assumption) ?_) | (refine a_ifF rfl rfl br_ne (by assumption) ?_) | (refine a_ifT rfl rfl br_lt (by assumption) ?_) | (refine a_ifF rfl rfl br_lt (by assumption) ?_) | (refine a_ifT rfl rfl br_ge (by assumption) ?_) | (refine a_ifF rfl rfl br_ge (by assumption) ?_) | (refine a_ifT rfl rfl br_gt (by assumption) ?_) | (refine a_ifF rfl rfl br_gt (by assumption) ?_) | (refine a_ifT rfl rfl br_le (by assumption) ?_) | (refine a_ifF rfl rfl br_le (by assumption) ?_) | (refine a_if rfl rfl br_eq (fun _ => ?_) (fun _ => ?_)) | (refine a_if rfl rfl br_ne (fun _ => ?_) (fun _ => ?_)) | (refine a_if rfl rfl br_lt (fun _ => ?_) (fun _ => ?_)) | (refine a_if rfl rfl br_ge (fun _ => ?_) (fun _ => ?_)) | (refine a_if rfl rfl br_gt (fun _ => ?_) (fun _ => ?_)) | (refine a_if rfl rfl br_le (fun _ => ?_) (fun _ => ?_))) | (refine a_at isIc rfl ?_; first | (refine a_icF rfl rfl br_ne (fun h => h (by assumption)) ?_) | (refine a_icT rfl rfl br_eq (by assumption) ?_) | (refine a_icF rfl rfl br_eq (by assumption) ?_) | (refine a_icT rfl rfl br_ne (by assumption) ?_) | (refine a_icF rfl rfl br_ne (by assumption) ?_) | (refine a_icT rfl rfl br_lt (by assumption) ?_) | (refine a_icF rfl rfl br_lt (by assumption) ?_) | (refine a_icT rfl rfl br_ge (by assumption) ?_) | (refine a_icF rfl rfl br_ge (by assumption) ?_) | (refine a_icT rfl rfl br_gt (by assumption) ?_) | (refine a_icF rfl rfl br_gt (by assumption) ?_) | (refine a_icT rfl rfl br_le (by assumption) ?_) | (refine a_icF rfl rfl br_le (by assumption) ?_) | (refine a_ic rfl rfl br_eq (fun _ => ?_) (fun _ => ?_)) | (refine a_ic rfl rfl br_ne (fun _ => ?_) (fun _ => ?_)) | (refine a_ic rfl rfl br_lt (fun _ => ?_) (fun _ => ?_)) | (refine a_ic rfl rfl br_ge (fun _ => ?_) (fun _ => ?_)) | (refine a_ic rfl rfl br_gt (fun _ => ?_) (fun _ => ?_)) | (refine a_ic rfl rfl br_le (fun _ => ?_) (fun _ => ?_))) | (refine a_at isRt rfl ?_; first | refine a_iret rfl rfl rfl ?_ | refine a_zret rfl rfl ?_ ?_ | refine a_lret rfl rfl ?_ | refine a_ret rfl rfl ?_))
      · exact Or.inl rfl
      · exact fin
    | false =>
      rw [hst] at fin
      have g : (false : Bool) = false := rfl
      repeat' (first | refine x_kcg rfl ?_ | refine x_incg rfl rfl ?_ | refine x_opp rfl rfl ?_ | refine x_go rfl ?_ | (refine a_at isIf rfl ?_; first | (refine a_ifT rfl rfl br_eqz (by assumption) ?_) | (refine a_ifF rfl rfl br_eqz (by assumption) ?_) | (refine a_ifT rfl rfl br_nez (by assumption) ?_) | (refine a_ifF rfl rfl br_nez (by assumption) ?_) | (refine a_ifT rfl rfl br_eqz (nt_f (by assumption)) ?_) | (refine a_ifF rfl rfl br_eqz (tnf (by assumption)) ?_) | (refine a_ifF rfl rfl br_nez (fnt (by assumption)) ?_) | (refine a_if rfl rfl br_eqz (fun _ => ?_) (fun _ => ?_)) | (refine a_if rfl rfl br_nez (fun _ => ?_) (fun _ => ?_)) | (refine a_ifF rfl rfl br_ne (fun h => h (by assumption)) ?_) | (refine a_ifT rfl rfl br_eq (by assumption) ?_) | (refine a_ifF rfl rfl br_eq (by assumption) ?_) | (refine a_ifT rfl rfl br_ne (by assumption) ?_) | (refine a_ifF rfl rfl br_ne (by assumption) ?_) | (refine a_ifT rfl rfl br_lt (by assumption) ?_) | (refine a_ifF rfl rfl br_lt (by assumption) ?_) | (refine a_ifT rfl rfl br_ge (by assumption) ?_) | (refine a_ifF rfl rfl br_ge (by assumption) ?_) | (refine a_ifT rfl rfl br_gt (by assumption) ?_) | (refine a_ifF rfl rfl br_gt (by assumption) ?_) | (refine a_ifT rfl rfl br_le (by assumption) ?_) | (refine a_ifF rfl rfl br_le (by assumption) ?_) | (refine a_if rfl rfl br_eq (fun _ => ?_) (fun _ => ?_)) | (refine a_if rfl rfl br_ne (fun _ => ?_) (fun _ => ?_)) | (refine a_if rfl rfl br_lt (fun _ => ?_) (fun _ => ?_)) | (refine a_if rfl rfl br_ge (fun _ => ?_) (fun _ => ?_)) | (refine a_if rfl rfl br_gt (fun _ => ?_) (fun _ => ?_)) | (refine a_if rfl rfl br_le (fun _ => ?_) (fun _ => ?_))) | (refine a_at isIc rfl ?_; first | (refine a_icF rfl rfl br_ne (fun h => h (by assumption)) ?_) | (refine a_icT rfl rfl br_eq (by assumption) ?_) | (refine a_icF rfl rfl br_eq (by assumption) ?_) | (refine a_icT rfl rfl br_ne (by assumption) ?_) | (refine a_icF rfl rfl br_ne (by assumption) ?_) | (refine a_icT rfl rfl br_lt (by assumption) ?_) | (refine a_icF rfl rfl br_lt (by assumption) ?_) | (refine a_icT rfl rfl br_ge (by assumption) ?_) | (refine a_icF rfl rfl br_ge (by assumption) ?_) | (refine a_icT rfl rfl br_gt (by assumption) ?_) | (refine a_icF rfl rfl br_gt (by assumption) ?_) | (refine a_icT rfl rfl br_le (by assumption) ?_) | (refine a_icF rfl rfl br_le (by assumption) ?_) | (refine a_ic rfl rfl br_eq (fun _ => ?_) (fun _ => ?_)) | (refine a_ic rfl rfl br_ne (fun _ => ?_) (fun _ => ?_)) | (refine a_ic rfl rfl br_lt (fun _ => ?_) (fun _ => ?_)) | (refine a_ic rfl rfl br_ge (fun _ => ?_) (fun _ => ?_)) | (refine a_ic rfl rfl br_gt (fun _ => ?_) (fun _ => ?_)) | (refine a_ic rfl rfl br_le (fun _ => ?_) (fun _ => ?_))) | (refine a_at isRt rfl ?_; first | refine a_iret rfl rfl rfl ?_ | refine a_zret rfl rfl ?_ ?_ | refine a_lret rfl rfl ?_ | refine a_ret rfl rfl ?_))
      · exact Or.inr rfl
      · exact fin
  · rw [if_pos (by omega)]
    rw [if_neg k2, show Nat.beq (lK (E l)) 2 = false from beq_f k2] at hq
    refine e_up (by omega : d + 3 ≤ d + 4) (c_plainAl hE hl hk hs tr (fun M' ct => ?_))
    have fin := hq M' ct
    cases hst : (sAt (lWd (E l)) o (lMy (E l))).isSome with
    | true => rw [hst] at fin; exact fin
    | false => rw [hst] at fin; exact fin
theorem c_my3 (hE : lOK E n) (hl : l < n) (hk : lK (E l) < 3) (hs : cLs (sh0 ++ dy) M E P n) (tr : cTr M (B, f)) (hq : ∀ M', cft M M' (trc (B, f) (askL (E l) 1 o).1) → Q (some (.int (askL (E l) 1 o).2.2.toInt32)) (wm (sh0 ++ dy) M')) : sm_E L xs (d + 4) (mA1 (lK (E l))) [.ref (P l)] (wm (sh0 ++ dy) M) Q := by
  unfold askL at hq
  rw [if_neg (by decide), if_pos rfl] at hq
  dsimp only at hq
  unfold mA1
  by_cases k2 : lK (E l) = 2
  · rw [if_neg (by omega), if_pos k2]
    rw [if_pos k2, if_pos k2] at hq
    obtain ⟨p1, p2, p3, p4⟩ := hs.2 l hl
    have h1 : (sh0 ++ dy)[P l]? = some (bannedS 1 (P l + 1)) := by
      rcases p2 with ⟨h, _⟩ | ⟨h, _⟩ | ⟨_, h, _⟩ | ⟨h, _⟩ | ⟨h, _⟩
      · omega
      · omega
      · exact h
      · omega
      · omega
    refine e_intro rfl rfl ?_
    repeat (first | refine x_kcg rfl ?_ | refine x_opp rfl rfl ?_ | refine x_go rfl ?_ | refine m_getg h1 rfl rfl rfl ?_)
    refine m_callV (s_1 dy) rfl rfl rfl (c_beg (c := 21) tr rfl (fun ct => ?_))
    have fin := hq _ ct
    repeat (first | refine x_kcg rfl ?_ | refine x_opp rfl rfl ?_ | refine x_go rfl ?_)
    exact x_iret rfl fin
  · rw [if_pos (by omega)]
    rw [if_neg k2, if_neg k2, k64_i] at hq
    exact e_up (by omega : d + 3 ≤ d + 4) (c_plainMy hE hl hk hs tr hq)
theorem c_sc3 (hE : lOK E n) (hl : l < n) (hk : lK (E l) < 3) (hs : cLs (sh0 ++ dy) M E P n) (tr : cTr M (B, f)) (hq : ∀ M', cft M M' (trc (B, f) (askL (E l) 3 o).1) → Q (some (.int (askL (E l) 3 o).2.2.toInt32)) (wm (sh0 ++ dy) M')) : sm_E L xs (d + 4) (mA3 (lK (E l))) [.ref (P l), .long o] (wm (sh0 ++ dy) M) Q := by
  unfold askL at hq
  rw [if_neg (by decide), if_neg (by decide), if_neg (by decide)] at hq
  dsimp only at hq
  unfold mA3
  by_cases k1 : lK (E l) = 1
  · rw [if_pos k1]
    rw [if_pos k1] at hq
    obtain ⟨p1, p2, p3, p4⟩ := hs.2 l hl
    obtain ⟨-, -, -, -, h40, -⟩ := hE.2 l hl
    have h1 : (sh0 ++ dy)[P l]? = some (scoredS 1 (P l + 1) (P l + 2)) ∧ (sh0 ++ dy)[P l + 2]? = some (arrI 40) := by
      rcases p2 with ⟨h, _⟩ | ⟨_, h, _, h3⟩ | ⟨h, _⟩ | ⟨h, _⟩ | ⟨h, _⟩
      · omega
      · exact ⟨h, h3⟩
      · omega
      · omega
      · omega
    obtain ⟨h1, h3⟩ := h1
    refine e_intro rfl rfl ?_
    repeat (first | refine x_kcg rfl ?_ | refine x_opp rfl rfl ?_ | refine x_go rfl ?_ | refine m_getg h1 rfl rfl rfl ?_)
    refine m_callV (s_1 dy) rfl rfl rfl (c_beg (c := 13) tr rfl (fun ct => ?_))
    repeat (first | refine x_kcg rfl ?_ | refine x_opp rfl rfl ?_ | refine x_go rfl ?_)
    refine m_callP h1 rfl rfl rfl (c_plainSc hE hl hk (cLs_cft ct hs) ct.2.2.2 (fun M' c2 => ?_))
    have c3 := cft_tr ct c2
    have fin := hq M' c3
    repeat (first | refine x_kcg rfl ?_ | refine x_opp rfl rfl ?_ | refine x_go rfl ?_)
    refine m_callV h1 rfl rfl rfl (c_place2 hE hl hk (cLs_cft c3 hs) ?_)
    have hlt : ∀ k, sAt (lWd (E l)) o (lMy (E l)) = some k → k < 2 ^ 31 := fun k hk => by have := (sAt_lt hk).1; omega
    have hneg := sIx_neg hlt
    cases hst : sAt (lWd (E l)) o (lMy (E l)) with
    | none =>
      rw [hst] at fin
      have g : ¬ 0 ≤ sIx none := by decide
      repeat' (first | refine x_kcg rfl ?_ | refine x_incg rfl rfl ?_ | refine x_opp rfl rfl ?_ | refine x_go rfl ?_ | (refine a_at isIf rfl ?_; first | (refine a_ifT rfl rfl br_eqz (by assumption) ?_) | (refine a_ifF rfl rfl br_eqz (by assumption) ?_) | (refine a_ifT rfl rfl br_nez (by assumption) ?_) | (refine a_ifF rfl rfl br_nez (by assumption) ?_) | (refine a_ifT rfl rfl br_eqz (nt_f (by assumption)) ?_) | (refine a_ifF rfl rfl br_eqz (tnf (by assumption)) ?_) | (refine a_ifF rfl rfl br_nez (fnt (by assumption)) ?_) | (refine a_if rfl rfl br_eqz (fun _ => ?_) (fun _ => ?_)) | (refine a_if rfl rfl br_nez (fun _ => ?_) (fun _ => ?_)) | (refine a_ifF rfl rfl br_ne (fun h => h (by assumption)) ?_) | (refine a_ifT rfl rfl br_eq (by assumption) ?_) | (refine a_ifF rfl rfl br_eq (by assumption) ?_) | (refine a_ifT rfl rfl br_ne (by assumption) ?_) | (refine a_ifF rfl rfl br_ne (by assumption) ?_) | (refine a_ifT rfl rfl br_lt (by assumption) ?_) | (refine a_ifF rfl rfl br_lt (by assumption) ?_) | (refine a_ifT rfl rfl br_ge (by assumption) ?_) | (refine a_ifF rfl rfl br_ge (by assumption) ?_) | (refine a_ifT rfl rfl br_gt (by assumption) ?_) | (refine a_ifF rfl rfl br_gt (by assumption) ?_) | (refine a_ifT rfl rfl br_le (by assumption) ?_) | (refine a_ifF rfl rfl br_le (by assumption) ?_) | (refine a_if rfl rfl br_eq (fun _ => ?_) (fun _ => ?_)) | (refine a_if rfl rfl br_ne (fun _ => ?_) (fun _ => ?_)) | (refine a_if rfl rfl br_lt (fun _ => ?_) (fun _ => ?_)) | (refine a_if rfl rfl br_ge (fun _ => ?_) (fun _ => ?_)) | (refine a_if rfl rfl br_gt (fun _ => ?_) (fun _ => ?_)) | (refine a_if rfl rfl br_le (fun _ => ?_) (fun _ => ?_))) | (refine a_at isIc rfl ?_; first | (refine a_icF rfl rfl br_ne (fun h => h (by assumption)) ?_) | (refine a_icT rfl rfl br_eq (by assumption) ?_) | (refine a_icF rfl rfl br_eq (by assumption) ?_) | (refine a_icT rfl rfl br_ne (by assumption) ?_) | (refine a_icF rfl rfl br_ne (by assumption) ?_) | (refine a_icT rfl rfl br_lt (by assumption) ?_) | (refine a_icF rfl rfl br_lt (by assumption) ?_) | (refine a_icT rfl rfl br_ge (by assumption) ?_) | (refine a_icF rfl rfl br_ge (by assumption) ?_) | (refine a_icT rfl rfl br_gt (by assumption) ?_) | (refine a_icF rfl rfl br_gt (by assumption) ?_) | (refine a_icT rfl rfl br_le (by assumption) ?_) | (refine a_icF rfl rfl br_le (by assumption) ?_) | (refine a_ic rfl rfl br_eq (fun _ => ?_) (fun _ => ?_)) | (refine a_ic rfl rfl br_ne (fun _ => ?_) (fun _ => ?_)) | (refine a_ic rfl rfl br_lt (fun _ => ?_) (fun _ => ?_)) | (refine a_ic rfl rfl br_ge (fun _ => ?_) (fun _ => ?_)) | (refine a_ic rfl rfl br_gt (fun _ => ?_) (fun _ => ?_)) | (refine a_ic rfl rfl br_le (fun _ => ?_) (fun _ => ?_))) | (refine a_at isRt rfl ?_; first | refine a_iret rfl rfl rfl ?_ | refine a_zret rfl rfl ?_ ?_ | refine a_lret rfl rfl ?_ | refine a_ret rfl rfl ?_))
      exact fin
    | some k =>
      have hk2 := (sAt_lt hst).1
      rw [hst] at fin hneg
      have g : 0 ≤ sIx (some k) := nI_pos' (by omega)
      have e3 : M'.1 (P l + 2) k = lSc (E l) k := by rw [c3.2.1 (P l + 2) (by omega) (by omega)]; exact p3.2.2.1 k1 k hk2
      dsimp only at fin
      rw [if_pos k1, k64_i, ← e3] at fin
      repeat (first | refine x_kcg rfl ?_ | refine x_opp rfl rfl ?_ | refine x_go rfl ?_)
      refine x_ifc br_ge (fun _ => ?_) (fun h => absurd g h)
      repeat (first | refine x_kcg rfl ?_ | refine x_opp rfl rfl ?_ | refine x_go rfl ?_ | refine m_getg h1 rfl rfl rfl ?_)
      rw [show sIx (some k) = nI k from rfl]
      refine m_iald h3 (vp_in_nI (by omega) (by decide)) ?_
      rw [nI_clamp (by omega)]
      repeat (first | refine x_kcg rfl ?_ | refine x_opp rfl rfl ?_ | refine x_go rfl ?_)
      refine x_iret rfl ?_
      rw [Int32.zero_add]
      exact fin
  · rw [if_neg k1, if_pos hk]
    rw [if_neg k1] at hq
    refine e_up (by omega : d + 3 ≤ d + 4) (c_plainSc hE hl hk hs tr (fun M' ct => ?_))
    have fin := hq M' ct
    cases hst : sAt (lWd (E l)) o (lMy (E l)) with
    | none => rw [hst] at fin; exact fin
    | some k =>
      rw [hst] at fin
      dsimp only at fin
      rw [if_neg k1] at fin
      exact fin
end CB
