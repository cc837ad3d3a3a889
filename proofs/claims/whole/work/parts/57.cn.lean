/-! the lists of the desk: lists that ask lists -/
theorem ssh (dy : List sh_T) : sSh (sh0 ++ dy) 4 1 5 6 2 3 := ⟨rfl, rfl, rfl, rfl, rfl, rfl, by decide, by decide, by decide, by decide, by decide, by decide, by decide, by decide, by decide, by decide⟩
section CN
variable {L : Nat} {xs : Nat → Int32} {d : Nat} {dy : List sh_T} {M : mm_T} {Q : Option Value → sm_W → Prop} {E : Nat → lT} {P : Nat → Nat} {n l B : Nat} {f : Nat → Int32} {o : Int64}
theorem gRow_n {n l : Nat} (hn : n ≤ 16) (hl : l < n) : gRow (nI n) (nI l) = true := by
  unfold gRow
  rw [if_neg (nI_pos (by omega)), if_neg (nI_ge hl (by omega))]
theorem c_want (hE : lOK E n) (hl : l < n) (hs : cLs (sh0 ++ dy) M E P n) (hq1 : lDr (E l) = false → Q (some (.ref (P l))) (wm (sh0 ++ dy) M)) (hq2 : lDr (E l) = true → Q (some .null) (wm (sh0 ++ dy) (nFind M 1 3 (nI 1)))) : sm_E L xs (d + 3) 41 [.ref 4, .int (nI l)] (wm (sh0 ++ dy) M) Q := by
  obtain ⟨p1, p2, p3, p4⟩ := hs.2 l hl
  have hn := hE.1
  have hw : wantP M 4 5 (nI l) = if lDr (E l) = true then none else some (P l) := by
    unfold wantP
    rw [hs.1, if_pos (gRow_n hn hl), nI_clamp (by omega)]
    exact p4
  refine c_wanted (ssh dy) (by rw [hs.1]; exact nI_le (b := 16) hn (by decide)) ?_ ?_
  · intro a ha
    rw [hw] at ha
    by_cases g : lDr (E l) = true
    · rw [if_pos g] at ha
      cases ha
    · rw [if_neg g] at ha
      cases ha
      exact hq1 (nt_f g)
  · intro ha
    rw [hw] at ha
    by_cases g : lDr (E l) = true
    · exact hq2 g
    · rw [if_neg g] at ha
      cases ha
theorem c_pfits {v : Int64} (hl : l < n) (hk : lK (E l) = 3) (hs : cLs (sh0 ++ dy) M E P n) (hw : wdP v) (hq : Q (some (.int (zz (fitB (lPt (E l)) v)))) (wm (sh0 ++ dy) M)) : sm_E L xs (d + 2) 55 [.ref (P l), .long v] (wm (sh0 ++ dy) M) Q := by
  obtain ⟨p1, p2, p3, p4⟩ := hs.2 l hl
  have h1 : (sh0 ++ dy)[P l]? = some (patternS 1 4) := by
    rcases p2 with ⟨h, _⟩ | ⟨h, _⟩ | ⟨h, _⟩ | ⟨_, h⟩ | ⟨h, _⟩
    · omega
    · omega
    · omega
    · exact h
    · omega
  obtain ⟨-, m, m1, m2, m3, m4⟩ := p3.2.2.2.1 hk
  have key := (fit_iff m1 hw).trans (fitB_iff (lPt (E l)) v).symm
  refine e_intro rfl rfl ?_
  repeat (first | refine x_kcg rfl ?_ | refine x_opp rfl rfl ?_ | refine x_go rfl ?_ | refine m_getg h1 rfl rfl rfl ?_)
  refine m_callS rfl rfl (c_lengthUpTo ?_)
  repeat (first | refine x_kcg rfl ?_ | refine x_opp rfl rfl ?_ | refine x_go rfl ?_ | refine m_getg h1 rfl rfl rfl ?_)
  rw [m2]
  by_cases g1 : lenU v 26 = nI m
  · refine x_icm br_ne (fun h => absurd g1 h) (fun _ => ?_)
    repeat (first | refine x_kcg rfl ?_ | refine x_opp rfl rfl ?_ | refine x_go rfl ?_ | refine m_getg h1 rfl rfl rfl ?_)
    rw [m3, m4]
    by_cases g2 : (v ^^^ tdF (lPt (E l)) m) &&& mkF (tdF (lPt (E l)) m) 7 = 0
    · rw [key.mp ⟨g1, g2⟩] at hq
      refine x_ifc br_lne (fun h => absurd g2 h) (fun _ => ?_)
      repeat (first | refine x_kcg rfl ?_ | refine x_opp rfl rfl ?_ | refine x_go rfl ?_)
      exact x_zret (Or.inr rfl) hq
    · rw [nt_f (fun h => g2 (key.mpr h).2)] at hq
      refine x_ifc br_lne (fun _ => ?_) (fun h => absurd g2 h)
      repeat (first | refine x_kcg rfl ?_ | refine x_opp rfl rfl ?_ | refine x_go rfl ?_)
      exact x_zret (Or.inl rfl) hq
  · rw [nt_f (fun h => g1 (key.mpr h).1)] at hq
    refine x_icm br_ne (fun _ => ?_) (fun h => absurd g1 h)
    repeat (first | refine x_kcg rfl ?_ | refine x_opp rfl rfl ?_ | refine x_go rfl ?_)
    exact x_zret (Or.inl rfl) hq
theorem pat_sh (hl : l < n) (hk : lK (E l) = 3) (hs : cLs (sh0 ++ dy) M E P n) : (sh0 ++ dy)[P l]? = some (patternS 1 4) ∧ M.1 (P l) 3 = nI (lA1 (E l)) ∧ 114 ≤ P l := by
  obtain ⟨p1, p2, p3, p4⟩ := hs.2 l hl
  refine ⟨?_, (p3.2.2.2.1 hk).1, p1⟩
  rcases p2 with ⟨h, _⟩ | ⟨h, _⟩ | ⟨h, _⟩ | ⟨_, h⟩ | ⟨h, _⟩
  · omega
  · omega
  · omega
  · exact h
  · omega
theorem joi_sh (hl : l < n) (hk : lK (E l) = 4) (hs : cLs (sh0 ++ dy) M E P n) : (sh0 ++ dy)[P l]? = some (joinedS 1 4) ∧ M.1 (P l) 3 = nI (lA1 (E l)) ∧ M.1 (P l) 4 = nI (lA2 (E l)) ∧ 114 ≤ P l := by
  obtain ⟨p1, p2, p3, p4⟩ := hs.2 l hl
  refine ⟨?_, (p3.2.2.2.2 hk).1, (p3.2.2.2.2 hk).2, p1⟩
  rcases p2 with ⟨h, _⟩ | ⟨h, _⟩ | ⟨h, _⟩ | ⟨h, _⟩ | ⟨_, h⟩
  · omega
  · omega
  · omega
  · omega
  · exact h
/-- wanted, then asked: of a list that may be dropped -/
theorem askF_dr {E : Nat → lT} {n l : Nat} (hE : lOK E n) (hl : l < n) (h : lDr (E l) = true) (act : Nat) (o : Int64) : askF E l act o = ([], 1, 0) := by
  rw [askF_eq hE hl, if_pos h]
theorem i01 (v : Int64) (h : v = 0 ∨ v = 1) : (v.toInt32 = 0 ↔ v = 0) ∧ (v.toInt32 = 0 ∨ v.toInt32 = 1) := by
  rcases h with rfl | rfl <;> decide
end CN
