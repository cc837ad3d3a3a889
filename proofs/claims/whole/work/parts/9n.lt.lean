/-! pairs: a new list -/
theorem nwP_any {M M' : mm_T} {A K a1 a2 b1 b2 : Nat} {p : Int64} (h : nwP M M' A K a1 a2 p) (h1 : 3 ≤ K → a1 = b1) (h2 : K = 4 → a2 = b2) : nwP M M' A K b1 b2 p := by
  obtain ⟨x, y, p1, p2, p3, p4, p5⟩ := h
  refine ⟨x, y, p1, p2, p3, fun hk => ?_, fun hk => ?_⟩
  · have : K = 3 := hk
    rw [← h1 (by omega)]
    exact p4 hk
  · have : K = 4 := hk
    rw [← h1 (by omega), ← h2 this]
    exact p5 hk
section LT
variable {L : Nat} {xs : Nat → Int32} {t d : Nat} {dy : List sh_T} {M : mm_T} {Q : Option Value → sm_W → Prop} {n A : Nat} {E : Nat → lT} {P w : Nat → Nat}
theorem c_newK {K a1 a2 m : Nat} {u v : Int32} {p : Int64} (hA : 114 + dy.length = A) (hK : K ≤ 4) (h1 : 3 ≤ K → u = nI a1) (h2 : K = 4 → v = nI a2) (h3 : K = 3 → wOK 27 p m) (hq : ∀ M', nwP M M' A K a1 a2 p → Q (some (.ref (A + 0))) (wm (sh0 ++ (dy ++ nSh K A)) M')) : sm_E L xs (d + 6) 30 [.ref 0, .int (nI K), .int u, .int v, .long p] (wm (sh0 ++ dy) M) Q := by
  rcases (show K = 0 ∨ K = 1 ∨ K = 2 ∨ K = 3 ∨ K = 4 by omega) with rfl | rfl | rfl | rfl | rfl
  · exact c_newPlain hA (fun M' h => hq M' (nwP_any h (fun q => absurd q (by decide)) (fun q => absurd q (by decide))))
  · exact c_newScored hA (fun M' h => hq M' (nwP_any h (fun q => absurd q (by decide)) (fun q => absurd q (by decide))))
  · exact c_newBanned hA (fun M' h => hq M' (nwP_any h (fun q => absurd q (by decide)) (fun q => absurd q (by decide))))
  · rw [h1 (by decide)]
    exact c_newPattern hA (h3 rfl) (fun M' h => hq M' (nwP_any h (fun _ => rfl) (fun q => absurd q (by decide))))
  · rw [h1 (by decide), h2 rfl]
    exact c_newJoined hA hq
theorem wgt_eq {we : Nat → Int32} {K a1 a2 W : Nat} {u v : Int32} (hK : K ≤ 4) (h1 : 3 ≤ K → u = nI a1 ∧ a1 < n) (h2 : K = 4 → v = nI a2 ∧ a2 < n) (hn : n ≤ 16) (hw : ∀ l, l < n → we l = nI (w l)) (hW : W = 1 + (if 3 ≤ K then w a1 else 0) + (if K = 4 then w a2 else 0)) : wgt we (nI K) u v = nI W := by
  subst hW
  unfold wgt
  rcases (show K < 3 ∨ K = 3 ∨ K = 4 by omega) with c | rfl | rfl
  · have k3 : nI K < (3 : Int32) := nI_lt (b := 3) c (by decide)
    have k4 : ¬ nI K = (4 : Int32) := fun h => absurd ((nI_eq (a := K) (b := 4) (by omega) (by decide)).mp h) (by omega)
    rw [if_pos k3, if_neg k4, if_neg (by omega), if_neg (by omega)]
    rfl
  · obtain ⟨rfl, ha⟩ := h1 (by decide)
    rw [if_neg (by decide), if_neg (by decide), nI_clamp (by omega), hw _ ha, if_pos (by decide), if_neg (by decide), show (1 : Int32) = nI 1 from rfl, show (0 : Int32) = nI 0 from rfl, nI_add, nI_add]
  · obtain ⟨rfl, ha⟩ := h1 (by decide)
    obtain ⟨rfl, hb⟩ := h2 rfl
    rw [if_neg (by decide), if_pos (by rfl), nI_clamp (by omega), nI_clamp (by omega), hw _ ha, hw _ hb, if_pos (by decide), if_pos rfl, show (1 : Int32) = nI 1 from rfl, nI_add, nI_add]
set_option maxRecDepth 4000 in
theorem l_ml {K a1 a2 W : Nat} {u v : Int32} {p : Int64} (hK : K ≤ 4) (h1 : 3 ≤ K → u = nI a1 ∧ a1 < n) (h2 : K = 4 → v = nI a2 ∧ a2 < n) (h3 : K = 3 → decide (lenU p 27 ≠ 0) = true) (hn : n ≤ 16) (h9 : (m_setI M 65 19 0).1 65 9 = nI n) (hw : ∀ l, l < n → (m_setI M 65 19 0).1 79 l = nI (w l)) (hW : W = 1 + (if 3 ≤ K then w a1 else 0) + (if K = 4 then w a2 else 0))
    (hq : ∀ x y, x + y = nI W → sm_X L xs (d + 3) 162 14 (sm_code 162 14) [(0, .ref 65), (1, .int (nI K)), (2, .int u), (3, .int v), (4, .long p)] [.int y, .int x] (wm (sh0 ++ dy) (m_setI M 65 19 0)) Q) : sm_X L xs (d + 3) 162 0 (sm_code 162 0) (lv_args 0 [.ref 65, .int (nI K), .int u, .int v, .long p]) [] (wm (sh0 ++ dy) M) Q := by
  subst hW
  rcases (show K < 3 ∨ K = 3 ∨ K = 4 by omega) with c | rfl | rfl
  · have i4 : inR (nI K) 0 4 = true := by
      rw [show (0 : Int32) = nI 0 from rfl, show (4 : Int32) = nI 4 from rfl, inR_n (by omega) (by decide) (by decide)]
      exact decide_eq_true ⟨by omega, by omega⟩
    have k2 : nI K ≤ 2 := nI_le (b := 2) (by omega) (by decide)
    have k4 : nI K ≠ 4 := fun h => absurd ((nI_eq (a := K) (b := 4) (by omega) (by decide)).mp h) (by omega)
    have k3 : nI K ≠ 3 := fun h => absurd ((nI_eq (a := K) (b := 3) (by omega) (by decide)).mp h) (by omega)
    have fin := hq (1 + 0) 0 (by rw [if_neg (by omega), if_neg (by omega)]; rfl)
    refine x_opp rfl rfl ?_
    refine x_kcg rfl ?_
    refine a_putJ 19 (s_65 dy) rfl rfl rfl rfl ?_
    refine x_opp rfl rfl ?_
    refine x_kcg rfl ?_
    refine x_kcg rfl ?_
    refine a_callS rfl rfl rfl rfl (k_in ?_)
    refine a_ifF rfl rfl br_eqz (by first | exact i4 | exact nt_f i4 | exact tnf i4 | exact fnt i4 | exact Int32.not_lt.mp i4 | exact Int32.not_le.mp i4 | exact Int32.not_lt.mpr i4 | exact Int32.not_le.mpr i4) ?_
    refine x_opp rfl rfl ?_
    refine x_kcg rfl ?_
    refine a_icT rfl rfl br_le (by first | exact k2 | exact nt_f k2 | exact tnf k2 | exact fnt k2 | exact Int32.not_lt.mp k2 | exact Int32.not_le.mp k2 | exact Int32.not_lt.mpr k2 | exact Int32.not_le.mpr k2) ?_
    refine x_opp rfl rfl ?_
    refine x_kcg rfl ?_
    refine a_icT rfl rfl br_ne (by first | exact k4 | exact nt_f k4 | exact tnf k4 | exact fnt k4 | exact Int32.not_lt.mp k4 | exact Int32.not_le.mp k4 | exact Int32.not_lt.mpr k4 | exact Int32.not_le.mpr k4) ?_
    refine x_opp rfl rfl ?_
    refine x_kcg rfl ?_
    refine a_icT rfl rfl br_ne (by first | exact k3 | exact nt_f k3 | exact tnf k3 | exact fnt k3 | exact Int32.not_lt.mp k3 | exact Int32.not_le.mp k3 | exact Int32.not_lt.mpr k3 | exact Int32.not_le.mpr k3) ?_
    refine x_kcg rfl ?_
    refine x_opp rfl rfl ?_
    refine x_kcg rfl ?_
    refine a_icT rfl rfl br_le (by first | exact k2 | exact nt_f k2 | exact tnf k2 | exact fnt k2 | exact Int32.not_lt.mp k2 | exact Int32.not_le.mp k2 | exact Int32.not_lt.mpr k2 | exact Int32.not_le.mpr k2) ?_
    refine x_kcg rfl ?_
    refine x_go rfl ?_
    refine x_opp rfl rfl ?_
    refine x_opp rfl rfl ?_
    refine x_kcg rfl ?_
    refine a_icT rfl rfl br_ne (by first | exact k4 | exact nt_f k4 | exact tnf k4 | exact fnt k4 | exact Int32.not_lt.mp k4 | exact Int32.not_le.mp k4 | exact Int32.not_lt.mpr k4 | exact Int32.not_le.mpr k4) ?_
    refine x_kcg rfl ?_
    refine x_go rfl ?_
    refine x_lvs [(0, .ref 65), (1, .int (nI K)), (2, .int u), (3, .int v), (4, .long p)] rfl rfl rfl ⟨rfl, rfl, rfl, rfl, rfl, trivial⟩ ?_
    exact fin
  · obtain ⟨rfl, ha⟩ := h1 (by decide)
    have gm : gRow (nI n) (nI a1) = true := gRow_n hn ha
    have hwd := h3 rfl
    have fin := hq (1 + nI (w a1)) 0 (by rw [if_pos (by decide), if_neg (by decide), show (1 : Int32) = nI 1 from rfl, show (0 : Int32) = nI 0 from rfl, nI_add, nI_add])
    refine x_opp rfl rfl ?_
    refine x_kcg rfl ?_
    refine a_putJ 19 (s_65 dy) rfl rfl rfl rfl ?_
    refine x_opp rfl rfl ?_
    refine x_kcg rfl ?_
    refine x_kcg rfl ?_
    refine a_callS rfl rfl rfl rfl (k_in ?_)
    refine a_ifF rfl rfl br_eqz (by decide) ?_
    refine x_opp rfl rfl ?_
    refine x_kcg rfl ?_
    refine a_icF rfl rfl br_le (by decide) ?_
    refine x_opp rfl rfl ?_
    refine x_opp rfl rfl ?_
    refine a_callV (s_65 dy) rfl rfl rfl rfl (k_made hn h9 ?_)
    refine a_ifF rfl rfl br_eqz (by first | exact gm | exact nt_f gm | exact tnf gm | exact fnt gm | exact Int32.not_lt.mp gm | exact Int32.not_le.mp gm | exact Int32.not_lt.mpr gm | exact Int32.not_le.mpr gm) ?_
    refine x_opp rfl rfl ?_
    refine x_kcg rfl ?_
    refine a_icT rfl rfl br_ne (by decide) ?_
    refine x_opp rfl rfl ?_
    refine x_kcg rfl ?_
    refine a_icF rfl rfl br_ne (fun h => h rfl) ?_
    refine x_opp rfl rfl ?_
    refine x_kcg rfl ?_
    refine a_callS rfl rfl rfl rfl (k_isWord (t := 27) (by decide) ?_)
    refine a_ifT rfl rfl br_nez (by first | exact hwd | exact nt_f hwd | exact tnf hwd | exact fnt hwd | exact Int32.not_lt.mp hwd | exact Int32.not_le.mp hwd | exact Int32.not_lt.mpr hwd | exact Int32.not_le.mpr hwd) ?_
    refine x_kcg rfl ?_
    refine x_opp rfl rfl ?_
    refine x_kcg rfl ?_
    refine a_icF rfl rfl br_le (by decide) ?_
    refine x_opp rfl rfl ?_
    refine m_getg (s_65 dy) rfl rfl rfl ?_
    refine x_opp rfl rfl ?_
    refine a_ialdN (s_79 dy) (k := a1) rfl rfl rfl (by omega) (by decide) ?_
    refine x_go rfl ?_
    refine x_opp rfl rfl ?_
    refine x_opp rfl rfl ?_
    refine x_kcg rfl ?_
    rw [hw a1 ha]
    refine a_icT rfl rfl br_ne (by decide) ?_
    refine x_kcg rfl ?_
    refine x_go rfl ?_
    refine x_lvs [(0, .ref 65), (1, .int (nI 3)), (2, .int (nI a1)), (3, .int v), (4, .long p)] rfl rfl rfl ⟨rfl, rfl, rfl, rfl, rfl, trivial⟩ ?_
    exact fin
  · obtain ⟨rfl, ha⟩ := h1 (by decide)
    obtain ⟨rfl, hb⟩ := h2 rfl
    have gm : gRow (nI n) (nI a1) = true := gRow_n hn ha
    have gm2 : gRow (nI n) (nI a2) = true := gRow_n hn hb
    have fin := hq (1 + nI (w a1)) (nI (w a2)) (by rw [if_pos (by decide), if_pos rfl, show (1 : Int32) = nI 1 from rfl, nI_add, nI_add])
    refine x_opp rfl rfl ?_
    refine x_kcg rfl ?_
    refine a_putJ 19 (s_65 dy) rfl rfl rfl rfl ?_
    refine x_opp rfl rfl ?_
    refine x_kcg rfl ?_
    refine x_kcg rfl ?_
    refine a_callS rfl rfl rfl rfl (k_in ?_)
    refine a_ifF rfl rfl br_eqz (by decide) ?_
    refine x_opp rfl rfl ?_
    refine x_kcg rfl ?_
    refine a_icF rfl rfl br_le (by decide) ?_
    refine x_opp rfl rfl ?_
    refine x_opp rfl rfl ?_
    refine a_callV (s_65 dy) rfl rfl rfl rfl (k_made hn h9 ?_)
    refine a_ifF rfl rfl br_eqz (by first | exact gm | exact nt_f gm | exact tnf gm | exact fnt gm | exact Int32.not_lt.mp gm | exact Int32.not_le.mp gm | exact Int32.not_lt.mpr gm | exact Int32.not_le.mpr gm) ?_
    refine x_opp rfl rfl ?_
    refine x_kcg rfl ?_
    refine a_icF rfl rfl br_ne (fun h => h rfl) ?_
    refine x_opp rfl rfl ?_
    refine x_opp rfl rfl ?_
    refine a_callV (s_65 dy) rfl rfl rfl rfl (k_made hn h9 ?_)
    refine a_ifF rfl rfl br_eqz (by first | exact gm2 | exact nt_f gm2 | exact tnf gm2 | exact fnt gm2 | exact Int32.not_lt.mp gm2 | exact Int32.not_le.mp gm2 | exact Int32.not_lt.mpr gm2 | exact Int32.not_le.mpr gm2) ?_
    refine x_opp rfl rfl ?_
    refine x_kcg rfl ?_
    refine a_icT rfl rfl br_ne (by decide) ?_
    refine x_kcg rfl ?_
    refine x_opp rfl rfl ?_
    refine x_kcg rfl ?_
    refine a_icF rfl rfl br_le (by decide) ?_
    refine x_opp rfl rfl ?_
    refine m_getg (s_65 dy) rfl rfl rfl ?_
    refine x_opp rfl rfl ?_
    refine a_ialdN (s_79 dy) (k := a1) rfl rfl rfl (by omega) (by decide) ?_
    refine x_go rfl ?_
    refine x_opp rfl rfl ?_
    refine x_opp rfl rfl ?_
    refine x_kcg rfl ?_
    rw [hw a1 ha]
    refine a_icF rfl rfl br_ne (fun h => h rfl) ?_
    refine x_opp rfl rfl ?_
    refine m_getg (s_65 dy) rfl rfl rfl ?_
    refine x_opp rfl rfl ?_
    refine a_ialdN (s_79 dy) (k := a2) rfl rfl rfl (by omega) (by decide) ?_
    refine x_go rfl ?_
    rw [hw a2 hb]
    refine x_lvs [(0, .ref 65), (1, .int (nI 4)), (2, .int (nI a1)), (3, .int (nI a2)), (4, .long p)] rfl rfl rfl ⟨rfl, rfl, rfl, rfl, rfl, trivial⟩ ?_
    exact fin
set_option maxRecDepth 4000 in
theorem l_dl {K a1 a2 : Nat} {u v : Int32} {p : Int64} (hK : K ≤ 4) (h1 : 3 ≤ K → u = nI a1 ∧ a1 < n) (h2 : K = 4 → v = nI a2 ∧ a2 < n) (h3 : K = 3 → decide (lenU p 27 ≠ 0) = true) (hn : n ≤ 16) (c43 : (m_setI M 1 5 0).1 4 3 = nI n)
    (hq : sm_X L xs (d + 3) 26 11 (sm_code 26 11) [(0, .ref 0), (1, .int (nI K)), (2, .int u), (3, .int v), (4, .long p)] [] (wm (sh0 ++ dy) (m_setI M 1 5 0)) Q) : sm_X L xs (d + 3) 26 0 (sm_code 26 0) (lv_args 0 [.ref 0, .int (nI K), .int u, .int v, .long p]) [] (wm (sh0 ++ dy) M) Q := by
  have k0 : ¬ nI K < 0 := nI_pos (by omega)
  have k4 : nI K ≤ 4 := nI_le (b := 4) hK (by decide)
  rcases (show K < 3 ∨ K = 3 ∨ K = 4 by omega) with c | rfl | rfl
  · have k3 : nI K < 3 := nI_lt (b := 3) c (by decide)
    have n4 : nI K ≠ 4 := fun h => absurd ((nI_eq (a := K) (b := 4) (by omega) (by decide)).mp h) (by omega)
    have n3 : nI K ≠ 3 := fun h => absurd ((nI_eq (a := K) (b := 3) (by omega) (by decide)).mp h) (by omega)
    refine x_opp rfl rfl ?_
    refine m_getg (s_0 dy) rfl rfl rfl ?_
    refine a_callV (s_1 dy) rfl rfl rfl rfl (c_clear (s_1 dy) ?_)
    refine x_opp rfl rfl ?_
    refine a_ifF rfl rfl br_lt (by first | exact k0 | exact nt_f k0 | exact tnf k0 | exact fnt k0 | exact Int32.not_lt.mp k0 | exact Int32.not_le.mp k0 | exact Int32.not_lt.mpr k0 | exact Int32.not_le.mpr k0) ?_
    refine x_opp rfl rfl ?_
    refine x_kcg rfl ?_
    refine a_icT rfl rfl br_le (by first | exact k4 | exact nt_f k4 | exact tnf k4 | exact fnt k4 | exact Int32.not_lt.mp k4 | exact Int32.not_le.mp k4 | exact Int32.not_lt.mpr k4 | exact Int32.not_le.mpr k4) ?_
    refine x_opp rfl rfl ?_
    refine x_kcg rfl ?_
    refine a_icT rfl rfl br_lt (by first | exact k3 | exact nt_f k3 | exact tnf k3 | exact fnt k3 | exact Int32.not_lt.mp k3 | exact Int32.not_le.mp k3 | exact Int32.not_lt.mpr k3 | exact Int32.not_le.mpr k3) ?_
    refine x_opp rfl rfl ?_
    refine x_kcg rfl ?_
    refine a_icT rfl rfl br_ne (by first | exact n4 | exact nt_f n4 | exact tnf n4 | exact fnt n4 | exact Int32.not_lt.mp n4 | exact Int32.not_le.mp n4 | exact Int32.not_lt.mpr n4 | exact Int32.not_le.mpr n4) ?_
    refine x_opp rfl rfl ?_
    refine x_kcg rfl ?_
    refine a_icT rfl rfl br_ne (by first | exact n3 | exact nt_f n3 | exact tnf n3 | exact fnt n3 | exact Int32.not_lt.mp n3 | exact Int32.not_le.mp n3 | exact Int32.not_lt.mpr n3 | exact Int32.not_le.mpr n3) ?_
    refine x_lvs [(0, .ref 0), (1, .int (nI K)), (2, .int u), (3, .int v), (4, .long p)] rfl rfl rfl ⟨rfl, rfl, rfl, rfl, rfl, trivial⟩ ?_
    exact hq
  · obtain ⟨rfl, ha⟩ := h1 (by decide)
    have gm : gRow (nI n) (nI a1) = true := gRow_n hn ha
    have hwd : lenU p 27 ≠ 0 := of_decide_eq_true (h3 rfl)
    refine x_opp rfl rfl ?_
    refine m_getg (s_0 dy) rfl rfl rfl ?_
    refine a_callV (s_1 dy) rfl rfl rfl rfl (c_clear (s_1 dy) ?_)
    refine x_opp rfl rfl ?_
    refine a_ifF rfl rfl br_lt (by first | exact k0 | exact nt_f k0 | exact tnf k0 | exact fnt k0 | exact Int32.not_lt.mp k0 | exact Int32.not_le.mp k0 | exact Int32.not_lt.mpr k0 | exact Int32.not_le.mpr k0) ?_
    refine x_opp rfl rfl ?_
    refine x_kcg rfl ?_
    refine a_icT rfl rfl br_le (by first | exact k4 | exact nt_f k4 | exact tnf k4 | exact fnt k4 | exact Int32.not_lt.mp k4 | exact Int32.not_le.mp k4 | exact Int32.not_lt.mpr k4 | exact Int32.not_le.mpr k4) ?_
    refine x_opp rfl rfl ?_
    refine x_kcg rfl ?_
    refine a_icF rfl rfl br_lt (by decide) ?_
    refine x_opp rfl rfl ?_
    refine m_getg (s_0 dy) rfl rfl rfl ?_
    refine x_opp rfl rfl ?_
    refine a_callV (s_4 dy) rfl rfl rfl rfl (c_made c43 ?_)
    refine a_ifF rfl rfl br_eqz (by first | exact gm | exact nt_f gm | exact tnf gm | exact fnt gm | exact Int32.not_lt.mp gm | exact Int32.not_le.mp gm | exact Int32.not_lt.mpr gm | exact Int32.not_le.mpr gm) ?_
    refine x_opp rfl rfl ?_
    refine x_kcg rfl ?_
    refine a_icT rfl rfl br_ne (by decide) ?_
    refine x_opp rfl rfl ?_
    refine x_kcg rfl ?_
    refine a_icF rfl rfl br_ne (fun h => h rfl) ?_
    refine x_opp rfl rfl ?_
    refine x_kcg rfl ?_
    refine a_callS rfl rfl rfl rfl (c_lengthUpTo ?_)
    refine a_ifT rfl rfl br_ne (by first | exact hwd | exact nt_f hwd | exact tnf hwd | exact fnt hwd | exact Int32.not_lt.mp hwd | exact Int32.not_le.mp hwd | exact Int32.not_lt.mpr hwd | exact Int32.not_le.mpr hwd) ?_
    refine x_lvs [(0, .ref 0), (1, .int (nI 3)), (2, .int (nI a1)), (3, .int v), (4, .long p)] rfl rfl rfl ⟨rfl, rfl, rfl, rfl, rfl, trivial⟩ ?_
    exact hq
  · obtain ⟨rfl, ha⟩ := h1 (by decide)
    obtain ⟨rfl, hb⟩ := h2 rfl
    have gm : gRow (nI n) (nI a1) = true := gRow_n hn ha
    have gm2 : gRow (nI n) (nI a2) = true := gRow_n hn hb
    refine x_opp rfl rfl ?_
    refine m_getg (s_0 dy) rfl rfl rfl ?_
    refine a_callV (s_1 dy) rfl rfl rfl rfl (c_clear (s_1 dy) ?_)
    refine x_opp rfl rfl ?_
    refine a_ifF rfl rfl br_lt (by first | exact k0 | exact nt_f k0 | exact tnf k0 | exact fnt k0 | exact Int32.not_lt.mp k0 | exact Int32.not_le.mp k0 | exact Int32.not_lt.mpr k0 | exact Int32.not_le.mpr k0) ?_
    refine x_opp rfl rfl ?_
    refine x_kcg rfl ?_
    refine a_icT rfl rfl br_le (by first | exact k4 | exact nt_f k4 | exact tnf k4 | exact fnt k4 | exact Int32.not_lt.mp k4 | exact Int32.not_le.mp k4 | exact Int32.not_lt.mpr k4 | exact Int32.not_le.mpr k4) ?_
    refine x_opp rfl rfl ?_
    refine x_kcg rfl ?_
    refine a_icF rfl rfl br_lt (by decide) ?_
    refine x_opp rfl rfl ?_
    refine m_getg (s_0 dy) rfl rfl rfl ?_
    refine x_opp rfl rfl ?_
    refine a_callV (s_4 dy) rfl rfl rfl rfl (c_made c43 ?_)
    refine a_ifF rfl rfl br_eqz (by first | exact gm | exact nt_f gm | exact tnf gm | exact fnt gm | exact Int32.not_lt.mp gm | exact Int32.not_le.mp gm | exact Int32.not_lt.mpr gm | exact Int32.not_le.mpr gm) ?_
    refine x_opp rfl rfl ?_
    refine x_kcg rfl ?_
    refine a_icF rfl rfl br_ne (fun h => h rfl) ?_
    refine x_opp rfl rfl ?_
    refine m_getg (s_0 dy) rfl rfl rfl ?_
    refine x_opp rfl rfl ?_
    refine a_callV (s_4 dy) rfl rfl rfl rfl (c_made c43 ?_)
    refine a_ifT rfl rfl br_nez (by first | exact gm2 | exact nt_f gm2 | exact tnf gm2 | exact fnt gm2 | exact Int32.not_lt.mp gm2 | exact Int32.not_le.mp gm2 | exact Int32.not_lt.mpr gm2 | exact Int32.not_le.mpr gm2) ?_
    refine x_opp rfl rfl ?_
    refine x_kcg rfl ?_
    refine a_icT rfl rfl br_ne (by decide) ?_
    refine x_lvs [(0, .ref 0), (1, .int (nI 4)), (2, .int (nI a1)), (3, .int (nI a2)), (4, .long p)] rfl rfl rfl ⟨rfl, rfl, rfl, rfl, rfl, trivial⟩ ?_
    exact hq
set_option maxRecDepth 4000 in
theorem p_listK {K a1 a2 : Nat} {u v : Int32} {p : Int64} (h : rR t dy M) (hK : K ≤ 4) (h1 : ∀ n, M.1 65 9 = nI n → n ≤ 16 → 3 ≤ K → u = nI a1 ∧ a1 < n) (h2 : ∀ n, M.1 65 9 = nI n → n ≤ 16 → K = 4 → v = nI a2 ∧ a2 < n) (h3 : K = 3 → decide (lenU p 27 ≠ 0) = true) : pr L xs t dy M 26 162 [.int (nI K), .int u, .int v, .long p] := by
  have hR := h; obtain ⟨s, E, P, w, n, hG, hN, hL, hS, hQ⟩ := h; have z0 : (0 : Int32) = 0 := rfl; have z1 : (0 : Int32) ≤ 0 := (by decide); have z11 : ¬ (1 : Int32) = 0 := (by decide); have z12 : ¬ (1 : Int32) ≤ 0 := (by decide); obtain ⟨M1, hM1⟩ : ∃ M1, m_setI M 1 5 0 = M1 := ⟨_, rfl⟩; have g1 : rG M1 n := hM1 ▸ rG_c hG; obtain ⟨M2, hM2⟩ : ∃ M2, m_setI M1 65 19 0 = M2 := ⟨_, rfl⟩; have g2 : rG M2 n := hM2 ▸ rG_z g1
  have hn16 : n ≤ 16 := hL.1.1
  have hn2 : M.1 65 9 = nI n := hL.2.2.2.1
  have h1 := h1 n hn2 hn16
  have h2 := h2 n hn2 hn16
  have c43 : (m_setI M 1 5 0).1 4 3 = nI n := hL.2.1.1
  obtain ⟨W, hW⟩ : ∃ W, W = 1 + (if 3 ≤ K then w a1 else 0) + (if K = 4 then w a2 else 0) := ⟨_, rfl⟩
  have w30 : ∀ l, l < n → w l ≤ 30 := fun l hl => (hL.2.2.2.2.2.1 l hl).1
  have W61 : W ≤ 61 := by
    rw [hW]
    rcases (show K < 3 ∨ K = 3 ∨ K = 4 by omega) with c | c | c
    · rw [if_neg (by omega), if_neg (by omega)]; omega
    · rw [if_pos (by omega), if_neg (by omega)]
      have := w30 a1 (h1 (by omega)).2
      omega
    · rw [if_pos (by omega), if_pos c]
      have := w30 a1 (h1 (by omega)).2
      have := w30 a2 (h2 c).2
      omega
  have w6 : ∀ l, l < n → (m_setI M 1 5 0).1 6 l = nI (w l) := fun l hl => (hL.2.2.2.2.2.1 l hl).2.1
  have w79 : ∀ l, l < n → M.1 79 l = nI (w l) := fun l hl => (hL.2.2.2.2.2.1 l hl).2.2
  have we := wgt_eq (we := (m_setI M 1 5 0).1 6) hK h1 h2 hn16 w6 hW
  unfold pr
  refine e_intro rfl rfl ?_
  refine l_dl hK h1 h2 h3 hn16 c43 ?_
  have vp : ¬ nI K < 3 → vp_in u 16 := fun q => by
    have k3 : 3 ≤ K := by
      by_cases c : K < 3
      · exact absurd (nI_lt (b := 3) c (by decide)) q
      · omega
    obtain ⟨rfl, ha⟩ := h1 k3
    exact vp_in_nI (by omega) (by decide)
  have vq : nI K = 4 → vp_in v 16 := fun q => by
    have k4 : K = 4 := (nI_eq (a := K) (b := 4) (by omega) (by decide)).mp q
    obtain ⟨rfl, hb⟩ := h2 k4
    exact vp_in_nI (by omega) (by decide)
  have full : ∀ v0 : Int32, v0 = -3 → (n = 16 ∨ 30 < W) → sm_E L xs 100 162 [.ref 65, .int (nI K), .int u, .int v, .long p] (wm (sh0 ++ dy) (m_setI M 1 5 0)) (fun r wo => r = some (.int v0) ∧ ∃ M2, wo = wm (sh0 ++ dy) M2 ∧ rR (t + 1) dy M2) := by
    intro v0 hv0 hf
    subst hv0
    refine e_intro rfl rfl ?_
    refine l_ml (w := w) hK h1 h2 h3 hn16 hn2 w79 hW (fun x y hxy => ?_)
    by_cases q : n = 16
    · have q1 : nI n = 16 := by rw [q]; rfl
      iterate 3 (refine x_opp rfl rfl ?_)
      refine m_getg (s_65 dy) rfl rfl rfl ?_
      refine x_kcg rfl ?_
      rw [hxy, show (m_setI (m_setI M 1 5 0) 65 19 0).1 65 9 = nI n from hn2]
      refine a_icT rfl rfl br_eq (by first | exact q1 | exact nt_f q1 | exact tnf q1 | exact fnt q1 | exact Int32.not_lt.mp q1 | exact Int32.not_le.mp q1 | exact Int32.not_lt.mpr q1 | exact Int32.not_le.mpr q1) ?_
      refine x_kcg rfl ?_
      refine a_iret rfl rfl rfl ?_
      exact ⟨rfl, _, rfl, R_cl hR⟩
    · have q1 : ¬ nI n = 16 := fun e => q ((nI_eq (a := n) (b := 16) (by omega) (by decide)).mp e)
      have q2 : ¬ nI W ≤ 30 := nI_ge (a := 30) (by omega) (by omega)
      iterate 3 (refine x_opp rfl rfl ?_)
      refine m_getg (s_65 dy) rfl rfl rfl ?_
      refine x_kcg rfl ?_
      rw [hxy, show (m_setI (m_setI M 1 5 0) 65 19 0).1 65 9 = nI n from hn2]
      refine a_icF rfl rfl br_eq (by first | exact q1 | exact nt_f q1 | exact tnf q1 | exact fnt q1 | exact Int32.not_lt.mp q1 | exact Int32.not_le.mp q1 | exact Int32.not_lt.mpr q1 | exact Int32.not_le.mpr q1) ?_
      refine x_opp rfl rfl ?_
      refine x_kcg rfl ?_
      refine a_icF rfl rfl br_le (by first | exact q2 | exact nt_f q2 | exact tnf q2 | exact fnt q2 | exact Int32.not_lt.mp q2 | exact Int32.not_le.mp q2 | exact Int32.not_lt.mpr q2 | exact Int32.not_le.mpr q2) ?_
      refine x_kcg rfl ?_
      refine a_iret rfl rfl rfl ?_
      exact ⟨rfl, _, rfl, R_cl hR⟩
  by_cases q : n = 16
  · have q1 : nI n = 16 := by rw [q]; rfl
    refine x_opp rfl rfl ?_
    refine m_getg (s_0 dy) rfl rfl rfl ?_
    iterate 3 (refine x_opp rfl rfl ?_)
    refine a_callV (s_4 dy) rfl rfl rfl rfl (c_weightOf (ssh dy) vp vq ?_)
    rw [we]
    refine x_opp rfl rfl ?_
    refine x_opp rfl rfl ?_
    refine m_getg (s_0 dy) rfl rfl rfl ?_
    refine m_getg (s_4 dy) rfl rfl rfl ?_
    refine x_kcg rfl ?_
    rw [c43]
    refine a_icT rfl rfl br_eq (by first | exact q1 | exact nt_f q1 | exact tnf q1 | exact fnt q1 | exact Int32.not_lt.mp q1 | exact Int32.not_le.mp q1 | exact Int32.not_lt.mpr q1 | exact Int32.not_le.mpr q1) ?_
    refine x_kcg rfl ?_
    refine a_iret rfl rfl rfl ?_
    exact ⟨_, dy, _, rfl, rfl, full _ rfl (Or.inl q)⟩
  · have q1 : ¬ nI n = 16 := fun e => q ((nI_eq (a := n) (b := 16) (by omega) (by decide)).mp e)
    by_cases q2 : W ≤ 30
    · have q3 : nI W ≤ 30 := nI_le (b := 30) q2 (by decide)
      obtain ⟨A, hA⟩ : ∃ A, 114 + dy.length = A := ⟨_, rfl⟩
      have hm : ∃ m, K = 3 → wOK 27 p m := by
        by_cases c : K = 3
        · obtain ⟨m, hm⟩ := lenU_ne (t := 27) (by decide) (of_decide_eq_true (h3 c))
          exact ⟨m, fun _ => hm⟩
        · exact ⟨0, fun e => absurd e c⟩
      obtain ⟨m, hm⟩ := hm
      obtain ⟨sx, hx1, hx2⟩ := nSh_cc (A := A) hK
      have c43' : (m_setI (m_setI M 1 5 0) 0 11 0).1 4 3 = nI n := hL.2.1.1
      refine x_opp rfl rfl ?_
      refine m_getg (s_0 dy) rfl rfl rfl ?_
      iterate 3 (refine x_opp rfl rfl ?_)
      refine a_callV (s_4 dy) rfl rfl rfl rfl (c_weightOf (ssh dy) vp vq ?_)
      rw [we]
      refine x_opp rfl rfl ?_
      refine x_opp rfl rfl ?_
      refine m_getg (s_0 dy) rfl rfl rfl ?_
      refine m_getg (s_4 dy) rfl rfl rfl ?_
      refine x_kcg rfl ?_
      rw [c43]
      refine a_icF rfl rfl br_eq (by first | exact q1 | exact nt_f q1 | exact tnf q1 | exact fnt q1 | exact Int32.not_lt.mp q1 | exact Int32.not_le.mp q1 | exact Int32.not_lt.mpr q1 | exact Int32.not_le.mpr q1) ?_
      refine x_opp rfl rfl ?_
      refine x_kcg rfl ?_
      refine a_icT rfl rfl br_le (by first | exact q3 | exact nt_f q3 | exact tnf q3 | exact fnt q3 | exact Int32.not_lt.mp q3 | exact Int32.not_le.mp q3 | exact Int32.not_lt.mpr q3 | exact Int32.not_le.mpr q3) ?_
      refine x_opp rfl rfl ?_
      refine x_kcg rfl ?_
      refine a_putJ 11 (s_0 dy) rfl rfl rfl rfl ?_
      refine x_opp rfl rfl ?_
      refine m_getg (s_0 dy) rfl rfl rfl ?_
      iterate 5 (refine x_opp rfl rfl ?_)
      refine a_callV (s_0 dy) rfl rfl rfl rfl (c_newK (m := m) hA hK (fun q => (h1 q).1) (fun q => (h2 q).1) hm (fun Mb hb => ?_))
      refine x_opp rfl rfl ?_
      refine a_callV (s_4 _) rfl rfl rfl rfl (c_place3 (n_at (j := 0) hA hx1) hx2 (n := n) (by rw [(hb.1 4 (by omega)).1]; exact c43') (by omega) ?_)
      refine a_iret rfl rfl rfl ?_
      obtain ⟨Mc, hMc⟩ : ∃ Mc, m_setI (m_setI (m_setR Mb 5 n (some (A + 0))) 6 n (nI W)) 4 3 (nI (n + 1)) = Mc := ⟨_, rfl⟩
      rw [hMc]
      refine ⟨_, dy ++ nSh K A, _, rfl, rfl, ?_⟩
      have f65 : ∀ x i, 65 ≤ x → x < 114 → Mc.1 x i = M.1 x i := fun x i g1 g2 => by
        rw [← hMc, mI_ne _ _ _ (by omega), mI_ne _ _ _ (by omega), mR_1, (hb.1 x (by omega)).1, mI_ne _ _ _ (by omega), mI_ne _ _ _ (by omega)]
      refine e_intro rfl rfl ?_
      refine l_ml (w := w) hK h1 h2 h3 hn16 (by rw [mI_at, if_neg (by decide), f65 _ _ (by decide) (by decide)]; exact hn2) (fun l hl => by rw [mI_ne _ _ _ (by decide), f65 _ _ (by decide) (by decide)]; exact w79 l hl) hW (fun x y hxy => ?_)
      obtain ⟨M5, hM5⟩ : ∃ M5, m_setI Mc 65 19 0 = M5 := ⟨_, rfl⟩
      have h9 : M5.1 65 9 = nI n := by rw [← hM5, mI_at, if_neg (by decide), f65 _ _ (by decide) (by decide)]; exact hn2
      rw [hM5]
      iterate 3 (refine x_opp rfl rfl ?_)
      refine m_getg (s_65 _) rfl rfl rfl ?_
      refine x_kcg rfl ?_
      rw [hxy, h9]
      refine a_icF rfl rfl br_eq (by first | exact q1 | exact nt_f q1 | exact tnf q1 | exact fnt q1 | exact Int32.not_lt.mp q1 | exact Int32.not_le.mp q1 | exact Int32.not_lt.mpr q1 | exact Int32.not_le.mpr q1) ?_
      refine x_opp rfl rfl ?_
      refine x_kcg rfl ?_
      refine a_icT rfl rfl br_le (by first | exact q3 | exact nt_f q3 | exact tnf q3 | exact fnt q3 | exact Int32.not_lt.mp q3 | exact Int32.not_le.mp q3 | exact Int32.not_lt.mpr q3 | exact Int32.not_le.mpr q3) ?_
      refine x_opp rfl rfl ?_
      refine m_getg (s_65 _) rfl rfl rfl ?_
      refine x_opp rfl rfl ?_
      refine m_getg (s_65 _) rfl rfl rfl ?_
      refine x_opp rfl rfl ?_
      rw [show M5.1 65 9 = nI n from h9]
      refine a_iastN (s_75 _) (k := n) rfl rfl rfl (by omega) (by decide) ?_
      refine x_opp rfl rfl ?_
      refine m_getg (s_65 _) rfl rfl rfl ?_
      refine x_opp rfl rfl ?_
      refine m_getg (s_65 _) rfl rfl rfl ?_
      refine x_opp rfl rfl ?_
      rw [show (m_setI M5 75 n (nI K)).1 65 9 = nI n from h9]
      refine a_iastN (s_76 _) (k := n) rfl rfl rfl (by omega) (by decide) ?_
      refine x_opp rfl rfl ?_
      refine m_getg (s_65 _) rfl rfl rfl ?_
      refine x_opp rfl rfl ?_
      refine m_getg (s_65 _) rfl rfl rfl ?_
      refine x_opp rfl rfl ?_
      rw [show (m_setI (m_setI M5 75 n (nI K)) 76 n u).1 65 9 = nI n from h9]
      refine a_iastN (s_77 _) (k := n) rfl rfl rfl (by omega) (by decide) ?_
      refine x_opp rfl rfl ?_
      refine m_getg (s_65 _) rfl rfl rfl ?_
      refine x_opp rfl rfl ?_
      refine m_getg (s_65 _) rfl rfl rfl ?_
      refine x_opp rfl rfl ?_
      rw [show (m_setI (m_setI (m_setI M5 75 n (nI K)) 76 n u) 77 n v).1 65 9 = nI n from h9]
      refine a_lastN (s_78 _) (k := n) rfl rfl rfl (by omega) (by decide) ?_
      refine x_opp rfl rfl ?_
      refine m_getg (s_65 _) rfl rfl rfl ?_
      refine x_opp rfl rfl ?_
      refine m_getg (s_65 _) rfl rfl rfl ?_
      refine x_opp rfl rfl ?_
      rw [show (m_setL (m_setI (m_setI (m_setI M5 75 n (nI K)) 76 n u) 77 n v) 78 n p).1 65 9 = nI n from h9]
      refine a_iastN (s_79 _) (k := n) rfl rfl rfl (by omega) (by decide) ?_
      refine x_opp rfl rfl ?_
      refine x_opp rfl rfl ?_
      refine m_getg (s_65 _) rfl rfl rfl ?_
      refine x_kcg rfl ?_
      refine x_opp rfl rfl ?_
      refine a_putJ 9 (s_65 _) rfl rfl rfl rfl ?_
      refine x_opp rfl rfl ?_
      rw [show (m_setI (m_setL (m_setI (m_setI (m_setI M5 75 n (nI K)) 76 n u) 77 n v) 78 n p) 79 n (nI W)).1 65 9 = nI n from h9, nI_1]
      skip
      refine a_callV (s_65 _) rfl rfl rfl rfl (k_changed ?_)
      refine x_opp rfl rfl ?_
      refine m_getg (s_65 _) rfl rfl rfl ?_
      refine x_kcg rfl ?_
      refine x_opp rfl rfl ?_
      rw [show (m_setI (m_setI (m_setI (m_setL (m_setI (m_setI (m_setI M5 75 n (nI K)) 76 n u) 77 n v) 78 n p) 79 n (nI W)) 65 9 (nI (n + 1))) 65 38 0).1 65 9 = nI (n + 1) from (by rw [mI_at, if_neg (by decide), mI_at, if_pos ⟨rfl, rfl⟩]), nI_pred]
      refine a_iret rfl rfl rfl ?_
      refine ⟨rfl, _, rfl, ?_⟩
      subst hM5
      subst hMc
      exact R_list hG hN hL hQ (by omega) hA hK h1 h2 (fun c => ⟨m, hm c⟩) hW q2 hb rfl
    · have q3 : ¬ nI W ≤ 30 := nI_ge (a := 30) (by omega) (by omega)
      refine x_opp rfl rfl ?_
      refine m_getg (s_0 dy) rfl rfl rfl ?_
      iterate 3 (refine x_opp rfl rfl ?_)
      refine a_callV (s_4 dy) rfl rfl rfl rfl (c_weightOf (ssh dy) vp vq ?_)
      rw [we]
      refine x_opp rfl rfl ?_
      refine x_opp rfl rfl ?_
      refine m_getg (s_0 dy) rfl rfl rfl ?_
      refine m_getg (s_4 dy) rfl rfl rfl ?_
      refine x_kcg rfl ?_
      rw [c43]
      refine a_icF rfl rfl br_eq (by first | exact q1 | exact nt_f q1 | exact tnf q1 | exact fnt q1 | exact Int32.not_lt.mp q1 | exact Int32.not_le.mp q1 | exact Int32.not_lt.mpr q1 | exact Int32.not_le.mpr q1) ?_
      refine x_opp rfl rfl ?_
      refine x_kcg rfl ?_
      refine a_icF rfl rfl br_le (by first | exact q3 | exact nt_f q3 | exact tnf q3 | exact fnt q3 | exact Int32.not_lt.mp q3 | exact Int32.not_le.mp q3 | exact Int32.not_lt.mpr q3 | exact Int32.not_le.mpr q3) ?_
      refine x_kcg rfl ?_
      refine a_iret rfl rfl rfl ?_
      exact ⟨_, dy, _, rfl, rfl, full _ rfl (Or.inr (by omega))⟩
set_option maxRecDepth 4000 in
theorem p_list {k u v : Int32} {p : Int64} (h : rR t dy M) : pr L xs t dy M 26 162 [.int k, .int u, .int v, .long p] := by
  have h0 := h
  have hR := h; obtain ⟨s, E, P, w, n, hG, hN, hL, hS, hQ⟩ := h; have z0 : (0 : Int32) = 0 := rfl; have z1 : (0 : Int32) ≤ 0 := (by decide); have z11 : ¬ (1 : Int32) = 0 := (by decide); have z12 : ¬ (1 : Int32) ≤ 0 := (by decide); obtain ⟨M1, hM1⟩ : ∃ M1, m_setI M 1 5 0 = M1 := ⟨_, rfl⟩; have g1 : rG M1 n := hM1 ▸ rG_c hG; obtain ⟨M2, hM2⟩ : ∃ M2, m_setI M1 65 19 0 = M2 := ⟨_, rfl⟩; have g2 : rG M2 n := hM2 ▸ rG_z g1
  have hn16 : n ≤ 16 := hL.1.1
  have hn2 : M.1 65 9 = nI n := hL.2.2.2.1
  have c43 : M1.1 4 3 = nI n := by subst hM1; exact hL.2.1.1
  have k42 : M2.1 65 9 = nI n := by subst hM2; subst hM1; exact hn2
  have uniq : ∀ m, M.1 65 9 = nI m → m ≤ 16 → m = n := fun m e q => by
    rw [hn2, nI_eq (by omega) (by omega)] at e
    omega
  by_cases hk : inR k 0 4 = true
  · have k0 : ¬ k < 0 := fun h => by unfold inR at hk; rw [if_pos h] at hk; cases hk
    have k4 : k ≤ 4 := by
      unfold inR at hk
      rw [if_neg k0] at hk
      by_cases q : (4 : Int32) < k
      · rw [if_pos q] at hk; cases hk
      · exact Int32.not_lt.mp q
    obtain ⟨K, hK, rfl⟩ := nI_ofm (m := 4) k0 k4 (by decide)
    by_cases c3 : K < 3
    · exact p_listK (a1 := 0) (a2 := 0) h0 hK (fun _ _ _ q => absurd q (by omega)) (fun _ _ _ q => absurd q (by omega)) (fun q => absurd q (by omega))
    · by_cases hu : gRow (nI n) u = true
      · obtain ⟨a1, ha, rfl⟩ := gRow_nn hn16 hu
        by_cases c4 : K = 4
        · subst c4
          by_cases hv : gRow (nI n) v = true
          · obtain ⟨a2, hb, rfl⟩ := gRow_nn hn16 hv
            exact p_listK (a1 := a1) (a2 := a2) h0 hK (fun m e q _ => ⟨rfl, by rw [uniq m e q]; exact ha⟩) (fun m e q _ => ⟨rfl, by rw [uniq m e q]; exact hb⟩) (fun q => absurd q (by decide))
          · unfold pr; refine e_intro rfl rfl ?_
            refine x_opp rfl rfl ?_
            refine m_getg (s_0 dy) rfl rfl rfl ?_
            refine a_callV (s_1 dy) rfl rfl rfl rfl (c_clear (s_1 dy) ?_)
            refine x_opp rfl rfl ?_
            rw [hM1]
            refine a_ifF rfl rfl br_lt (by first | exact k0 | exact nt_f k0 | exact tnf k0 | exact fnt k0 | exact Int32.not_lt.mp k0 | exact Int32.not_le.mp k0 | exact Int32.not_lt.mpr k0 | exact Int32.not_le.mpr k0) ?_
            refine x_opp rfl rfl ?_
            refine x_kcg rfl ?_
            refine a_icT rfl rfl br_le (by first | exact k4 | exact nt_f k4 | exact tnf k4 | exact fnt k4 | exact Int32.not_lt.mp k4 | exact Int32.not_le.mp k4 | exact Int32.not_lt.mpr k4 | exact Int32.not_le.mpr k4) ?_
            refine x_opp rfl rfl ?_
            refine x_kcg rfl ?_
            refine a_icF rfl rfl br_lt (by decide) ?_
            refine x_opp rfl rfl ?_
            refine m_getg (s_0 dy) rfl rfl rfl ?_
            refine x_opp rfl rfl ?_
            refine a_callV (s_4 dy) rfl rfl rfl rfl (c_made c43 ?_)
            refine a_ifF rfl rfl br_eqz (by first | exact hu | exact nt_f hu | exact tnf hu | exact fnt hu | exact Int32.not_lt.mp hu | exact Int32.not_le.mp hu | exact Int32.not_lt.mpr hu | exact Int32.not_le.mpr hu) ?_
            refine x_opp rfl rfl ?_
            refine x_kcg rfl ?_
            refine a_icF rfl rfl br_ne (fun h => h rfl) ?_
            refine x_opp rfl rfl ?_
            refine m_getg (s_0 dy) rfl rfl rfl ?_
            refine x_opp rfl rfl ?_
            refine a_callV (s_4 dy) rfl rfl rfl rfl (c_made c43 ?_)
            refine a_ifF rfl rfl br_nez (by first | exact hv | exact nt_f hv | exact tnf hv | exact fnt hv | exact Int32.not_lt.mp hv | exact Int32.not_le.mp hv | exact Int32.not_lt.mpr hv | exact Int32.not_le.mpr hv) ?_
            refine x_kcg rfl ?_
            refine a_iret rfl rfl rfl ?_
            refine ⟨_, dy, _, rfl, rfl, ?_⟩; refine e_intro rfl rfl ?_
            refine x_opp rfl rfl ?_
            refine x_kcg rfl ?_
            refine a_putJ 19 (s_65 dy) rfl rfl rfl rfl ?_
            refine x_opp rfl rfl ?_
            refine x_kcg rfl ?_
            refine x_kcg rfl ?_
            refine a_callS rfl rfl rfl rfl (k_in ?_)
            rw [hM2]
            refine a_ifF rfl rfl br_eqz (by first | exact hk | exact nt_f hk | exact tnf hk | exact fnt hk | exact Int32.not_lt.mp hk | exact Int32.not_le.mp hk | exact Int32.not_lt.mpr hk | exact Int32.not_le.mpr hk) ?_
            refine x_opp rfl rfl ?_
            refine x_kcg rfl ?_
            refine a_icF rfl rfl br_le (by decide) ?_
            refine x_opp rfl rfl ?_
            refine x_opp rfl rfl ?_
            refine a_callV (s_65 dy) rfl rfl rfl rfl (k_made hn16 k42 ?_)
            refine a_ifF rfl rfl br_eqz (by first | exact hu | exact nt_f hu | exact tnf hu | exact fnt hu | exact Int32.not_lt.mp hu | exact Int32.not_le.mp hu | exact Int32.not_lt.mpr hu | exact Int32.not_le.mpr hu) ?_
            refine x_opp rfl rfl ?_
            refine x_kcg rfl ?_
            refine a_icF rfl rfl br_ne (fun h => h rfl) ?_
            refine x_opp rfl rfl ?_
            refine x_opp rfl rfl ?_
            refine a_callV (s_65 dy) rfl rfl rfl rfl (k_made hn16 k42 ?_)
            refine a_ifT rfl rfl br_eqz (by first | exact hv | exact nt_f hv | exact tnf hv | exact fnt hv | exact Int32.not_lt.mp hv | exact Int32.not_le.mp hv | exact Int32.not_lt.mpr hv | exact Int32.not_le.mpr hv) ?_
            refine x_kcg rfl ?_
            refine a_iret rfl rfl rfl ?_
            subst hM2; subst hM1; exact ⟨rfl, _, rfl, R_cl hR⟩
        · have c33 : K = 3 := by omega
          subst c33
          by_cases hw : decide (lenU p 27 ≠ 0) = true
          · exact p_listK (a1 := a1) (a2 := 0) h0 hK (fun m e q _ => ⟨rfl, by rw [uniq m e q]; exact ha⟩) (fun _ _ _ q => absurd q (by decide)) (fun _ => hw)
          · have hw' : ¬ lenU p 27 ≠ 0 := fun q => hw (decide_eq_true q)
            unfold pr; refine e_intro rfl rfl ?_
            refine x_opp rfl rfl ?_
            refine m_getg (s_0 dy) rfl rfl rfl ?_
            refine a_callV (s_1 dy) rfl rfl rfl rfl (c_clear (s_1 dy) ?_)
            refine x_opp rfl rfl ?_
            rw [hM1]
            refine a_ifF rfl rfl br_lt (by first | exact k0 | exact nt_f k0 | exact tnf k0 | exact fnt k0 | exact Int32.not_lt.mp k0 | exact Int32.not_le.mp k0 | exact Int32.not_lt.mpr k0 | exact Int32.not_le.mpr k0) ?_
            refine x_opp rfl rfl ?_
            refine x_kcg rfl ?_
            refine a_icT rfl rfl br_le (by first | exact k4 | exact nt_f k4 | exact tnf k4 | exact fnt k4 | exact Int32.not_lt.mp k4 | exact Int32.not_le.mp k4 | exact Int32.not_lt.mpr k4 | exact Int32.not_le.mpr k4) ?_
            refine x_opp rfl rfl ?_
            refine x_kcg rfl ?_
            refine a_icF rfl rfl br_lt (by decide) ?_
            refine x_opp rfl rfl ?_
            refine m_getg (s_0 dy) rfl rfl rfl ?_
            refine x_opp rfl rfl ?_
            refine a_callV (s_4 dy) rfl rfl rfl rfl (c_made c43 ?_)
            refine a_ifF rfl rfl br_eqz (by first | exact hu | exact nt_f hu | exact tnf hu | exact fnt hu | exact Int32.not_lt.mp hu | exact Int32.not_le.mp hu | exact Int32.not_lt.mpr hu | exact Int32.not_le.mpr hu) ?_
            refine x_opp rfl rfl ?_
            refine x_kcg rfl ?_
            refine a_icT rfl rfl br_ne (by decide) ?_
            refine x_opp rfl rfl ?_
            refine x_kcg rfl ?_
            refine a_icF rfl rfl br_ne (fun h => h rfl) ?_
            refine x_opp rfl rfl ?_
            refine x_kcg rfl ?_
            refine a_callS rfl rfl rfl rfl (c_lengthUpTo ?_)
            refine a_ifF rfl rfl br_ne (by first | exact hw' | exact nt_f hw' | exact tnf hw' | exact fnt hw' | exact Int32.not_lt.mp hw' | exact Int32.not_le.mp hw' | exact Int32.not_lt.mpr hw' | exact Int32.not_le.mpr hw') ?_
            refine x_kcg rfl ?_
            refine a_iret rfl rfl rfl ?_
            refine ⟨_, dy, _, rfl, rfl, ?_⟩; refine e_intro rfl rfl ?_
            refine x_opp rfl rfl ?_
            refine x_kcg rfl ?_
            refine a_putJ 19 (s_65 dy) rfl rfl rfl rfl ?_
            refine x_opp rfl rfl ?_
            refine x_kcg rfl ?_
            refine x_kcg rfl ?_
            refine a_callS rfl rfl rfl rfl (k_in ?_)
            rw [hM2]
            refine a_ifF rfl rfl br_eqz (by first | exact hk | exact nt_f hk | exact tnf hk | exact fnt hk | exact Int32.not_lt.mp hk | exact Int32.not_le.mp hk | exact Int32.not_lt.mpr hk | exact Int32.not_le.mpr hk) ?_
            refine x_opp rfl rfl ?_
            refine x_kcg rfl ?_
            refine a_icF rfl rfl br_le (by decide) ?_
            refine x_opp rfl rfl ?_
            refine x_opp rfl rfl ?_
            refine a_callV (s_65 dy) rfl rfl rfl rfl (k_made hn16 k42 ?_)
            refine a_ifF rfl rfl br_eqz (by first | exact hu | exact nt_f hu | exact tnf hu | exact fnt hu | exact Int32.not_lt.mp hu | exact Int32.not_le.mp hu | exact Int32.not_lt.mpr hu | exact Int32.not_le.mpr hu) ?_
            refine x_opp rfl rfl ?_
            refine x_kcg rfl ?_
            refine a_icT rfl rfl br_ne (by decide) ?_
            refine x_opp rfl rfl ?_
            refine x_kcg rfl ?_
            refine a_icF rfl rfl br_ne (fun h => h rfl) ?_
            refine x_opp rfl rfl ?_
            refine x_kcg rfl ?_
            refine a_callS rfl rfl rfl rfl (k_isWord (t := 27) (by decide) ?_)
            refine a_ifF rfl rfl br_nez (by first | exact hw | exact nt_f hw | exact tnf hw | exact fnt hw | exact Int32.not_lt.mp hw | exact Int32.not_le.mp hw | exact Int32.not_lt.mpr hw | exact Int32.not_le.mpr hw) ?_
            refine x_kcg rfl ?_
            refine a_iret rfl rfl rfl ?_
            subst hM2; subst hM1; exact ⟨rfl, _, rfl, R_cl hR⟩
      · have k2 : ¬ nI K ≤ 2 := nI_ge (a := 2) (by omega) (by omega)
        have k3 : ¬ nI K < 3 := nI_nlt (b := 3) (by omega) (by omega)
        unfold pr; refine e_intro rfl rfl ?_
        refine x_opp rfl rfl ?_
        refine m_getg (s_0 dy) rfl rfl rfl ?_
        refine a_callV (s_1 dy) rfl rfl rfl rfl (c_clear (s_1 dy) ?_)
        refine x_opp rfl rfl ?_
        rw [hM1]
        refine a_ifF rfl rfl br_lt (by first | exact k0 | exact nt_f k0 | exact tnf k0 | exact fnt k0 | exact Int32.not_lt.mp k0 | exact Int32.not_le.mp k0 | exact Int32.not_lt.mpr k0 | exact Int32.not_le.mpr k0) ?_
        refine x_opp rfl rfl ?_
        refine x_kcg rfl ?_
        refine a_icT rfl rfl br_le (by first | exact k4 | exact nt_f k4 | exact tnf k4 | exact fnt k4 | exact Int32.not_lt.mp k4 | exact Int32.not_le.mp k4 | exact Int32.not_lt.mpr k4 | exact Int32.not_le.mpr k4) ?_
        refine x_opp rfl rfl ?_
        refine x_kcg rfl ?_
        refine a_icF rfl rfl br_lt (by first | exact k3 | exact nt_f k3 | exact tnf k3 | exact fnt k3 | exact Int32.not_lt.mp k3 | exact Int32.not_le.mp k3 | exact Int32.not_lt.mpr k3 | exact Int32.not_le.mpr k3) ?_
        refine x_opp rfl rfl ?_
        refine m_getg (s_0 dy) rfl rfl rfl ?_
        refine x_opp rfl rfl ?_
        refine a_callV (s_4 dy) rfl rfl rfl rfl (c_made c43 ?_)
        refine a_ifT rfl rfl br_eqz (by first | exact hu | exact nt_f hu | exact tnf hu | exact fnt hu | exact Int32.not_lt.mp hu | exact Int32.not_le.mp hu | exact Int32.not_lt.mpr hu | exact Int32.not_le.mpr hu) ?_
        refine x_kcg rfl ?_
        refine a_iret rfl rfl rfl ?_
        refine ⟨_, dy, _, rfl, rfl, ?_⟩; refine e_intro rfl rfl ?_
        refine x_opp rfl rfl ?_
        refine x_kcg rfl ?_
        refine a_putJ 19 (s_65 dy) rfl rfl rfl rfl ?_
        refine x_opp rfl rfl ?_
        refine x_kcg rfl ?_
        refine x_kcg rfl ?_
        refine a_callS rfl rfl rfl rfl (k_in ?_)
        rw [hM2]
        refine a_ifF rfl rfl br_eqz (by first | exact hk | exact nt_f hk | exact tnf hk | exact fnt hk | exact Int32.not_lt.mp hk | exact Int32.not_le.mp hk | exact Int32.not_lt.mpr hk | exact Int32.not_le.mpr hk) ?_
        refine x_opp rfl rfl ?_
        refine x_kcg rfl ?_
        refine a_icF rfl rfl br_le (by first | exact k2 | exact nt_f k2 | exact tnf k2 | exact fnt k2 | exact Int32.not_lt.mp k2 | exact Int32.not_le.mp k2 | exact Int32.not_lt.mpr k2 | exact Int32.not_le.mpr k2) ?_
        refine x_opp rfl rfl ?_
        refine x_opp rfl rfl ?_
        refine a_callV (s_65 dy) rfl rfl rfl rfl (k_made hn16 k42 ?_)
        refine a_ifT rfl rfl br_eqz (by first | exact hu | exact nt_f hu | exact tnf hu | exact fnt hu | exact Int32.not_lt.mp hu | exact Int32.not_le.mp hu | exact Int32.not_lt.mpr hu | exact Int32.not_le.mpr hu) ?_
        refine x_kcg rfl ?_
        refine a_iret rfl rfl rfl ?_
        subst hM2; subst hM1; exact ⟨rfl, _, rfl, R_cl hR⟩
  · have fin : sm_E L xs 100 162 [.ref 65, .int k, .int u, .int v, .long p] (wm (sh0 ++ dy) M1) (fun r wo => r = some (.int (-1)) ∧ ∃ M2, wo = wm (sh0 ++ dy) M2 ∧ rR (t + 1) dy M2) := by
      refine e_intro rfl rfl ?_
      refine x_opp rfl rfl ?_
      refine x_kcg rfl ?_
      refine a_putJ 19 (s_65 dy) rfl rfl rfl rfl ?_
      refine x_opp rfl rfl ?_
      refine x_kcg rfl ?_
      refine x_kcg rfl ?_
      refine a_callS rfl rfl rfl rfl (k_in ?_)
      rw [hM2]
      refine a_ifT rfl rfl br_eqz (by first | exact hk | exact nt_f hk | exact tnf hk | exact fnt hk | exact Int32.not_lt.mp hk | exact Int32.not_le.mp hk | exact Int32.not_lt.mpr hk | exact Int32.not_le.mpr hk) ?_
      refine x_kcg rfl ?_
      refine a_iret rfl rfl rfl ?_
      subst hM2; subst hM1; exact ⟨rfl, _, rfl, R_cl hR⟩
    unfold pr; refine e_intro rfl rfl ?_
    by_cases k0 : k < 0
    · refine x_opp rfl rfl ?_
      refine m_getg (s_0 dy) rfl rfl rfl ?_
      refine a_callV (s_1 dy) rfl rfl rfl rfl (c_clear (s_1 dy) ?_)
      refine x_opp rfl rfl ?_
      rw [hM1]
      refine a_ifT rfl rfl br_lt (by first | exact k0 | exact nt_f k0 | exact tnf k0 | exact fnt k0 | exact Int32.not_lt.mp k0 | exact Int32.not_le.mp k0 | exact Int32.not_lt.mpr k0 | exact Int32.not_le.mpr k0) ?_
      refine x_kcg rfl ?_
      refine a_iret rfl rfl rfl ?_
      exact ⟨_, dy, _, rfl, rfl, fin⟩
    · have k4 : ¬ k ≤ 4 := fun q => hk (by unfold inR; rw [if_neg k0, if_neg (Int32.not_lt.mpr q)])
      refine x_opp rfl rfl ?_
      refine m_getg (s_0 dy) rfl rfl rfl ?_
      refine a_callV (s_1 dy) rfl rfl rfl rfl (c_clear (s_1 dy) ?_)
      refine x_opp rfl rfl ?_
      rw [hM1]
      refine a_ifF rfl rfl br_lt (by first | exact k0 | exact nt_f k0 | exact tnf k0 | exact fnt k0 | exact Int32.not_lt.mp k0 | exact Int32.not_le.mp k0 | exact Int32.not_lt.mpr k0 | exact Int32.not_le.mpr k0) ?_
      refine x_opp rfl rfl ?_
      refine x_kcg rfl ?_
      refine a_icF rfl rfl br_le (by first | exact k4 | exact nt_f k4 | exact tnf k4 | exact fnt k4 | exact Int32.not_lt.mp k4 | exact Int32.not_le.mp k4 | exact Int32.not_lt.mpr k4 | exact Int32.not_le.mpr k4) ?_
      refine x_kcg rfl ?_
      refine a_iret rfl rfl rfl ?_
      exact ⟨_, dy, _, rfl, rfl, fin⟩
end LT
