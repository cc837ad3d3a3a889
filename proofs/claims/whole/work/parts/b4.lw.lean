/-! the law's run -/
section LW
variable {L : Nat} {xs : Nat → Int32} {t d : Nat} {dy : List sh_T} {M : mm_T} {Q : Option Value → sm_W → Prop}
theorem L_gt {L t : Nat} (hL : L ≤ 4608) (ht : t ≤ 512) : Int32.ofNat L - 9 < nI (9 * t) ↔ L < 9 * t + 9 := by
  have e : (Int32.ofNat L - 9).toInt = (L : Int) - 9 := by
    rw [show Int32.ofNat L = nI L from rfl, show (9 : Int32) = nI 9 from rfl, Int32.toInt_sub, nI_toInt (by omega), nI_toInt (by omega)]
    rw [Int.bmod_eq_of_le (by omega) (by omega)]
    rfl
  rw [Int32.lt_iff_toInt_lt, e, nI_toInt (by omega)]
  omega
set_option maxRecDepth 4000 in
theorem l_one (hd : 100 ≤ d) (hi : 9 * t + 9 ≤ L ∧ L ≤ 4608) (h : rR t dy M) (next : ∀ dy1 M1, rR (t + 1) dy1 M1 → sm_X L xs d 231 89 (sm_code 231 89) (lvL t) [] (wm (sh0 ++ dy1) M1) Q) : sm_X L xs d 231 2 (sm_code 231 2) (lvL t) [] (wm (sh0 ++ dy) M) Q := by
  obtain ⟨c, hc, e⟩ := and31_nat (xs (9 * t))
  refine x_opp rfl rfl ?_
  refine x_opp rfl rfl ?_
  refine x_scr rfl (by omega) ?_
  refine x_kcg rfl ?_
  refine x_opp rfl rfl ?_
  rw [e]
  rcases (show c = 0 ∨ c = 1 ∨ c = 2 ∨ c = 3 ∨ c = 4 ∨ c = 5 ∨ c = 6 ∨ c = 7 ∨ c = 8 ∨ c = 9 ∨ c = 10 ∨ c = 11 ∨ c = 12 ∨ c = 13 ∨ c = 14 ∨ c = 15 ∨ c = 16 ∨ c = 17 ∨ c = 18 ∨ c = 19 ∨ c = 20 ∨ c = 21 ∨ c = 22 ∨ c = 23 ∨ c = 24 ∨ c = 25 ∨ c = 26 ∨ c = 27 ∨ c = 28 ∨ c = 29 ∨ c = 30 ∨ c = 31 by omega) with rfl | rfl | rfl | rfl | rfl | rfl | rfl | rfl | rfl | rfl | rfl | rfl | rfl | rfl | rfl | rfl | rfl | rfl | rfl | rfl | rfl | rfl | rfl | rfl | rfl | rfl | rfl | rfl | rfl | rfl | rfl | rfl
  · exact x_tabIn (t := 3) (by decide) rfl (lw_grid hd hi h next)
  · exact x_tabIn (t := 5) (by decide) rfl (lw_cut hd hi h next)
  · exact x_tabIn (t := 7) (by decide) rfl (lw_letter hd hi h next)
  · exact x_tabIn (t := 9) (by decide) rfl (lw_black hd hi h next)
  · exact x_tabIn (t := 17) (by decide) rfl (lw_bar hd hi h next)
  · exact x_tabIn (t := 31) (by decide) rfl (lw_at hd hi h next)
  · exact x_tabIn (t := 33) (by decide) rfl (lw_list hd hi h next)
  · exact x_tabIn (t := 35) (by decide) rfl (lw_drop hd hi h next)
  · exact x_tabIn (t := 37) (by decide) rfl (lw_word hd hi h next)
  · exact x_tabIn (t := 39) (by decide) rfl (lw_ask hd hi h next)
  · exact x_tabIn (t := 41) (by decide) rfl (lw_wordOf hd hi h next)
  · exact x_tabIn (t := 43) (by decide) rfl (lw_uses hd hi h next)
  · exact x_tabIn (t := 51) (by decide) rfl (lw_entries hd hi h next)
  · exact x_tabIn (t := 53) (by decide) rfl (lw_entry hd hi h next)
  · exact x_tabIn (t := 55) (by decide) rfl (lw_stands hd hi h next)
  · exact x_tabIn (t := 57) (by decide) rfl (lw_crossing hd hi h next)
  · exact x_tabIn (t := 59) (by decide) rfl (lw_fill hd hi h next)
  · exact x_tabIn (t := 61) (by decide) rfl (lw_goOn hd hi h next)
  · exact x_tabIn (t := 63) (by decide) rfl (lw_solve hd hi h next)
  · exact x_tabIn (t := 65) (by decide) rfl (lw_first hd hi h next)
  · exact x_tabIn (t := 67) (by decide) rfl (lw_searched hd hi h next)
  · exact x_tabIn (t := 69) (by decide) rfl (lw_judge hd hi h next)
  · exact x_tabIn (t := 71) (by decide) rfl (lw_move hd hi h next)
  · exact x_tabIn (t := 73) (by decide) rfl (lw_moved hd hi h next)
  · exact x_tabIn (t := 75) (by decide) rfl (lw_turn hd hi h next)
  · exact x_tabIn (t := 77) (by decide) rfl (lw_mirror hd hi h next)
  · exact x_tabIn (t := 79) (by decide) rfl (lw_trace hd hi h next)
  · exact x_tabIn (t := 81) (by decide) rfl (lw_finding hd hi h next)
  · exact x_tabIn (t := 83) (by decide) rfl (lw_found hd hi h next)
  · exact x_tabIn (t := 85) (by decide) rfl (lw_digest hd hi h next)
  · exact x_tabIn (t := 87) (by decide) rfl (lw_count hd hi h next)
  · exact x_tabOut (by decide) (next dy M (R_up h))
set_option maxRecDepth 4000 in
theorem l_law (hd : 100 ≤ d) (hL : L ≤ 4608) (hq : ∀ t dy M, rR t dy M → Q (some (.int 1)) (wm (sh0 ++ dy) M)) : ∀ dy M, rR 0 dy M → sm_X L xs d 231 1 (sm_code 231 1) (lvL 0) [] (wm (sh0 ++ dy) M) Q := by
  refine loop_dn (P := fun t => ∀ dy M, rR t dy M → sm_X L xs d 231 1 (sm_code 231 1) (lvL t) [] (wm (sh0 ++ dy) M) Q) (L / 9) ?_ ?_
  · intro dy M h
    refine x_opp rfl rfl ?_
    refine x_opp rfl rfl ?_
    refine x_op rfl ?_
    refine x_opp rfl rfl ?_
    refine x_opp rfl rfl ?_
    refine a_icT rfl rfl br_gt ((L_gt hL (by omega)).mpr (by omega)) ?_
    refine x_kcg rfl ?_
    refine x_zret (Or.inr rfl) ?_
    exact hq _ dy M h
  · intro t ht ih dy M h
    refine x_opp rfl rfl ?_
    refine x_opp rfl rfl ?_
    refine x_op rfl ?_
    refine x_opp rfl rfl ?_
    refine x_opp rfl rfl ?_
    refine a_icF rfl rfl br_gt (fun q => absurd ((L_gt hL (by omega)).mp q) (by omega)) ?_
    refine l_one hd (by omega) h (fun dy1 M1 h1 => ?_)
    have e : nI (9 * t) + 9 = nI (9 * (t + 1)) := nI_add (9 * t) 9
    refine x_op rfl ?_
    refine x_go rfl ?_
    have fin := ih dy1 M1 h1
    rw [show nI (9 * t) + Int32.ofInt 9 = nI (9 * (t + 1)) from nI_add (9 * t) 9]
    refine x_lvs [(0, .retAddr 0), (1, .ref 0), (2, .ref 65), (3, .int (nI (9 * (t + 1))))] rfl rfl rfl ⟨rfl, rfl, rfl, rfl, trivial⟩ ?_
    exact fin
end LW
