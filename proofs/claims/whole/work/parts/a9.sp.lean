/-! pairs: a grid is solved: the calls -/
section SP
variable {L : Nat} {xs : Nat → Int32} {t d : Nat} {dy : List sh_T} {M : mm_T} {Q : Option Value → sm_W → Prop} {n G : Nat}
theorem gDs_ord {R : List Nat × Nat × List (List wsT)} : ∀ e, e < (gDs M G R).1.length → ∃ k, k < (gDs M G R).1.length ∧ (gDs M G R).2.2.1 k = e := by
  intro e he
  have he : e < (gE M G).length := he
  have h := (oAll_mem (fun e => (R.2.2.getD e []).length) (gE M G).length e).mpr he
  obtain ⟨k, hk, hk2⟩ := List.getElem_of_mem h
  have hk' := hk
  rw [oAll_len] at hk'
  refine ⟨k, hk', ?_⟩
  show (oAll (fun e => (R.2.2.getD e []).length) (gE M G).length).getD k 0 = e
  rw [List.getD_eq_getElem?_getD, List.getElem?_eq_getElem hk, hk2]
  rfl
set_option maxRecDepth 4000 in
set_option maxHeartbeats 1000000 in
theorem p_solve {g y v : Int32} (ht : t ≤ 512) (h : rR t dy M) : pr L xs t dy M 107 206 [.int g, .int y, .int v] := by
  have hR := h; obtain ⟨s, E, P, w, n, hG, hN, hL, hS, hQ⟩ := h; have z0 : (0 : Int32) = 0 := rfl; have z1 : (0 : Int32) ≤ 0 := (by decide); have z11 : ¬ (1 : Int32) = 0 := (by decide); have z12 : ¬ (1 : Int32) ≤ 0 := (by decide); obtain ⟨M1, hM1⟩ : ∃ M1, m_setI M 1 5 0 = M1 := ⟨_, rfl⟩; have g1 : rG M1 n := hM1 ▸ rG_c hG; obtain ⟨M2, hM2⟩ : ∃ M2, m_setI M1 65 19 0 = M2 := ⟨_, rfl⟩; have g2 : rG M2 n := hM2 ▸ rG_z g1
  unfold pr; refine e_intro rfl rfl ?_
  by_cases hg : gRow 4 g = true
  · by_cases m1 : y < 1
    · have n1 : ¬ inR y 1 1000 = true := by unfold inR; rw [if_pos m1]; decide
      refine x_opp rfl rfl ?_
      refine m_getg (s_0 dy) rfl rfl rfl ?_
      refine a_callV (s_1 dy) rfl rfl rfl rfl (c_clear (s_1 dy) ?_)
      refine x_opp rfl rfl ?_
      refine a_callS rfl rfl rfl rfl (c_isGridNumber ?_)
      rw [hM1]
      refine a_ifF rfl rfl br_eqz (by first | exact hg | exact nt_f hg | exact tnf hg | exact fnt hg | exact Int32.not_lt.mp hg | exact Int32.not_le.mp hg | exact Int32.not_lt.mpr hg | exact Int32.not_le.mpr hg) ?_
      refine x_opp rfl rfl ?_
      refine x_kcg rfl ?_
      refine a_icT rfl rfl br_lt (by first | exact m1 | exact nt_f m1 | exact tnf m1 | exact fnt m1 | exact Int32.not_lt.mp m1 | exact Int32.not_le.mp m1 | exact Int32.not_lt.mpr m1 | exact Int32.not_le.mpr m1) ?_
      refine x_kcg rfl ?_
      refine a_iret rfl rfl rfl ?_
      refine ⟨_, dy, _, rfl, rfl, ?_⟩; refine e_intro rfl rfl ?_
      refine x_opp rfl rfl ?_
      refine x_kcg rfl ?_
      refine a_putJ 19 (s_65 dy) rfl rfl rfl rfl ?_
      refine x_opp rfl rfl ?_
      refine a_callS rfl rfl rfl rfl (k_isGrid ?_)
      rw [hM2]
      refine a_ifF rfl rfl br_eqz (by first | exact hg | exact nt_f hg | exact tnf hg | exact fnt hg | exact Int32.not_lt.mp hg | exact Int32.not_le.mp hg | exact Int32.not_lt.mpr hg | exact Int32.not_le.mpr hg) ?_
      refine x_opp rfl rfl ?_
      refine x_kcg rfl ?_
      refine x_kcg rfl ?_
      refine a_callS rfl rfl rfl rfl (k_in ?_)
      refine a_ifT rfl rfl br_eqz (by first | exact n1 | exact nt_f n1 | exact tnf n1 | exact fnt n1 | exact Int32.not_lt.mp n1 | exact Int32.not_le.mp n1 | exact Int32.not_lt.mpr n1 | exact Int32.not_le.mpr n1) ?_
      refine x_kcg rfl ?_
      refine a_iret rfl rfl rfl ?_
      subst hM2; subst hM1; exact ⟨rfl, _, rfl, R_cl hR⟩
    · by_cases m2 : 1000 < y
      · have n1 : ¬ inR y 1 1000 = true := by unfold inR; rw [if_neg m1, if_pos m2]; decide
        refine x_opp rfl rfl ?_
        refine m_getg (s_0 dy) rfl rfl rfl ?_
        refine a_callV (s_1 dy) rfl rfl rfl rfl (c_clear (s_1 dy) ?_)
        refine x_opp rfl rfl ?_
        refine a_callS rfl rfl rfl rfl (c_isGridNumber ?_)
        rw [hM1]
        refine a_ifF rfl rfl br_eqz (by first | exact hg | exact nt_f hg | exact tnf hg | exact fnt hg | exact Int32.not_lt.mp hg | exact Int32.not_le.mp hg | exact Int32.not_lt.mpr hg | exact Int32.not_le.mpr hg) ?_
        refine x_opp rfl rfl ?_
        refine x_kcg rfl ?_
        refine a_icF rfl rfl br_lt (by first | exact m1 | exact nt_f m1 | exact tnf m1 | exact fnt m1 | exact Int32.not_lt.mp m1 | exact Int32.not_le.mp m1 | exact Int32.not_lt.mpr m1 | exact Int32.not_le.mpr m1) ?_
        refine x_opp rfl rfl ?_
        refine x_kcg rfl ?_
        refine a_icT rfl rfl br_gt (by first | exact m2 | exact nt_f m2 | exact tnf m2 | exact fnt m2 | exact Int32.not_lt.mp m2 | exact Int32.not_le.mp m2 | exact Int32.not_lt.mpr m2 | exact Int32.not_le.mpr m2) ?_
        refine x_kcg rfl ?_
        refine a_iret rfl rfl rfl ?_
        refine ⟨_, dy, _, rfl, rfl, ?_⟩; refine e_intro rfl rfl ?_
        refine x_opp rfl rfl ?_
        refine x_kcg rfl ?_
        refine a_putJ 19 (s_65 dy) rfl rfl rfl rfl ?_
        refine x_opp rfl rfl ?_
        refine a_callS rfl rfl rfl rfl (k_isGrid ?_)
        rw [hM2]
        refine a_ifF rfl rfl br_eqz (by first | exact hg | exact nt_f hg | exact tnf hg | exact fnt hg | exact Int32.not_lt.mp hg | exact Int32.not_le.mp hg | exact Int32.not_lt.mpr hg | exact Int32.not_le.mpr hg) ?_
        refine x_opp rfl rfl ?_
        refine x_kcg rfl ?_
        refine x_kcg rfl ?_
        refine a_callS rfl rfl rfl rfl (k_in ?_)
        refine a_ifT rfl rfl br_eqz (by first | exact n1 | exact nt_f n1 | exact tnf n1 | exact fnt n1 | exact Int32.not_lt.mp n1 | exact Int32.not_le.mp n1 | exact Int32.not_lt.mpr n1 | exact Int32.not_le.mpr n1) ?_
        refine x_kcg rfl ?_
        refine a_iret rfl rfl rfl ?_
        subst hM2; subst hM1; exact ⟨rfl, _, rfl, R_cl hR⟩
      · have hy : inR y 1 1000 = true := by unfold inR; rw [if_neg m1, if_neg m2]
        by_cases hv : inR v 1 5000 = true
        · obtain ⟨G, hG4, rfl⟩ := gRow4 hg
          obtain ⟨lim, rfl, l1, l5⟩ := stp_n hv
          obtain ⟨mo, rfl, mo1, mo2⟩ := mst_n m1 m2
          obtain ⟨sg, -⟩ := gsh_at dy G hG4
          have gr : M1.2.2 7 G = some (45 + 5 * G) := g1.2.1 G hG4
          have fa : ∀ a i, ¬ (a = 1 ∧ i = 5) → M1.1 a i = M.1 a i := fun a i h2 => by rw [← hM1, mI_at, if_neg h2]
          have ma : M1.2 = M.2 := by rw [← hM1]; rfl
          have a1 : M1.1 (45 + 5 * G) 4 = M1.1 66 G := (g1.2.2 G hG4).1.1
          by_cases th : M1.1 66 G = 0
          · have th1 : M1.1 (45 + 5 * G) 4 = 0 := a1.trans th
            have th2 : (m_setI (nFind M1 1 3 (nI 1)) 65 19 0).1 66 G = 0 := th
            refine x_opp rfl rfl ?_
            refine m_getg (s_0 dy) rfl rfl rfl ?_
            refine a_callV (s_1 dy) rfl rfl rfl rfl (c_clear (s_1 dy) ?_)
            refine x_opp rfl rfl ?_
            refine a_callS rfl rfl rfl rfl (c_isGridNumber ?_)
            rw [hM1]
            refine a_ifF rfl rfl br_eqz (by first | exact hg | exact nt_f hg | exact tnf hg | exact fnt hg | exact Int32.not_lt.mp hg | exact Int32.not_le.mp hg | exact Int32.not_lt.mpr hg | exact Int32.not_le.mpr hg) ?_
            refine x_opp rfl rfl ?_
            refine x_kcg rfl ?_
            refine a_icF rfl rfl br_lt (by first | exact m1 | exact nt_f m1 | exact tnf m1 | exact fnt m1 | exact Int32.not_lt.mp m1 | exact Int32.not_le.mp m1 | exact Int32.not_lt.mpr m1 | exact Int32.not_le.mpr m1) ?_
            refine x_opp rfl rfl ?_
            refine x_kcg rfl ?_
            refine a_icF rfl rfl br_gt (by first | exact m2 | exact nt_f m2 | exact tnf m2 | exact fnt m2 | exact Int32.not_lt.mp m2 | exact Int32.not_le.mp m2 | exact Int32.not_lt.mpr m2 | exact Int32.not_le.mpr m2) ?_
            refine x_opp rfl rfl ?_
            refine a_callS rfl rfl rfl rfl (c_isStepNumber ?_)
            refine a_ifT rfl rfl br_nez (by first | exact hv | exact nt_f hv | exact tnf hv | exact fnt hv | exact Int32.not_lt.mp hv | exact Int32.not_le.mp hv | exact Int32.not_lt.mpr hv | exact Int32.not_le.mpr hv) ?_
            refine x_opp rfl rfl ?_
            refine m_getg (s_0 dy) rfl rfl rfl ?_
            refine x_opp rfl rfl ?_
            refine a_gr hG4 rfl rfl gr ?_
            refine m_getg sg rfl rfl rfl ?_
            refine a_ifF rfl rfl br_ne (fun q => q th1) ?_
            refine x_opp rfl rfl ?_
            refine m_getg (s_0 dy) rfl rfl rfl ?_
            refine x_kcg rfl ?_
            refine a_callV (s_1 dy) rfl rfl rfl rfl (c_find (s_1 dy) (s_3 dy) (by decide) (vp_in_nI (n := 1) (by decide) (by decide)) ?_)
            refine a_iret rfl rfl rfl ?_
            refine ⟨_, dy, _, rfl, rfl, ?_⟩; refine e_intro rfl rfl ?_
            refine x_opp rfl rfl ?_
            refine x_kcg rfl ?_
            refine a_putJ 19 (s_65 dy) rfl rfl rfl rfl ?_
            refine x_opp rfl rfl ?_
            refine a_callS rfl rfl rfl rfl (k_isGrid ?_)
            refine a_ifF rfl rfl br_eqz (by first | exact hg | exact nt_f hg | exact tnf hg | exact fnt hg | exact Int32.not_lt.mp hg | exact Int32.not_le.mp hg | exact Int32.not_lt.mpr hg | exact Int32.not_le.mpr hg) ?_
            refine x_opp rfl rfl ?_
            refine x_kcg rfl ?_
            refine x_kcg rfl ?_
            refine a_callS rfl rfl rfl rfl (k_in ?_)
            refine a_ifF rfl rfl br_eqz (by first | exact hy | exact nt_f hy | exact tnf hy | exact fnt hy | exact Int32.not_lt.mp hy | exact Int32.not_le.mp hy | exact Int32.not_lt.mpr hy | exact Int32.not_le.mpr hy) ?_
            refine x_opp rfl rfl ?_
            refine x_kcg rfl ?_
            refine x_kcg rfl ?_
            refine a_callS rfl rfl rfl rfl (k_in ?_)
            refine a_ifT rfl rfl br_nez (by first | exact hv | exact nt_f hv | exact tnf hv | exact fnt hv | exact Int32.not_lt.mp hv | exact Int32.not_le.mp hv | exact Int32.not_lt.mpr hv | exact Int32.not_le.mpr hv) ?_
            refine x_opp rfl rfl ?_
            refine m_getg (s_65 dy) rfl rfl rfl ?_
            refine x_opp rfl rfl ?_
            refine a_baldN (s_66 dy) (k := G) rfl rfl rfl (by omega) (by decide) ?_
            refine a_ifF rfl rfl br_ne (fun q => q th2) ?_
            refine x_opp rfl rfl ?_
            refine x_kcg rfl ?_
            refine a_callV (s_65 dy) rfl rfl rfl rfl (k_met (vp_in_nI (n := 1) (by decide) (by decide)) ?_)
            refine a_iret rfl rfl rfl ?_
            subst hM1
            exact ⟨rfl, _, rfl, R_fd (k := 1) (by decide) hR⟩
          · have th1 : ¬ M1.1 (45 + 5 * G) 4 = 0 := by rw [a1]; exact th
            have La : rL dy M1 E P w n := rL_fr hL (fun a i h => fa a i (by omega)) (fun a _ => by rw [ma]) (by rw [ma])
            have Qa : rQ M1 := rQ_fr hQ (fun a i h => fa a i (by omega)) (fun a _ => by rw [ma])
            have Sa : rS M1 := rS_fr hS (fun a i h => fa a i (by omega)) (fun a _ => by rw [ma])
            have tra : cTr M1 s := cTr_ex (fun a i h => fa a i (by omega)) hN.1
            have h5a : M1.1 1 5 = 0 := by rw [← hM1]; rfl
            obtain ⟨al, dl, d1, d2, d3, d4, d5, d6⟩ := (g1.2.2 G hG4).2.2.2
            obtain ⟨R, hRR⟩ : ∃ R, R = gRs M1 G E al dl := ⟨_, rfl⟩
            have len := gRs_len g1 hG4 La d5 d6
            have fd2 := gRs_2 (M := M1) (G := G) La.1 d5 d6
            rw [← hRR] at len fd2
            have sb := hN.2.2.2.2
            by_cases z : R.2.1 = 0
            · have hd : dOK (gDs M1 G R) := gDs_ok g1 hG4 La.1 d5 d6 hRR z
              have hin : ∀ i j, i < (gDs M1 G R).1.length → j < (gDs M1 G R).1.length → (gDs M1 G R).2.2.1 i = (gDs M1 G R).2.2.1 j → i = j := gD_inj
              have ord := gDs_ord (M := M1) (G := G) (R := R)
              obtain ⟨m, rfl⟩ : ∃ m, mo = m + 1 := ⟨mo - 1, by omega⟩
              obtain ⟨D, hDD⟩ : ∃ D, gDs M1 G R = D := ⟨_, rfl⟩
              rw [hDD] at hd hin ord
              obtain ⟨o, S', p, fs, hsg⟩ : ∃ o S' p fs, sGo D lim (m + 1) s00 0 = (o, S', p, fs) := ⟨_, _, _, _, rfl⟩
              refine x_opp rfl rfl ?_
              refine m_getg (s_0 dy) rfl rfl rfl ?_
              refine a_callV (s_1 dy) rfl rfl rfl rfl (c_clear (s_1 dy) ?_)
              refine x_opp rfl rfl ?_
              refine a_callS rfl rfl rfl rfl (c_isGridNumber ?_)
              rw [hM1]
              refine a_ifF rfl rfl br_eqz (by first | exact hg | exact nt_f hg | exact tnf hg | exact fnt hg | exact Int32.not_lt.mp hg | exact Int32.not_le.mp hg | exact Int32.not_lt.mpr hg | exact Int32.not_le.mpr hg) ?_
              refine x_opp rfl rfl ?_
              refine x_kcg rfl ?_
              refine a_icF rfl rfl br_lt (by first | exact m1 | exact nt_f m1 | exact tnf m1 | exact fnt m1 | exact Int32.not_lt.mp m1 | exact Int32.not_le.mp m1 | exact Int32.not_lt.mpr m1 | exact Int32.not_le.mpr m1) ?_
              refine x_opp rfl rfl ?_
              refine x_kcg rfl ?_
              refine a_icF rfl rfl br_gt (by first | exact m2 | exact nt_f m2 | exact tnf m2 | exact fnt m2 | exact Int32.not_lt.mp m2 | exact Int32.not_le.mp m2 | exact Int32.not_lt.mpr m2 | exact Int32.not_le.mpr m2) ?_
              refine x_opp rfl rfl ?_
              refine a_callS rfl rfl rfl rfl (c_isStepNumber ?_)
              refine a_ifT rfl rfl br_nez (by first | exact hv | exact nt_f hv | exact tnf hv | exact fnt hv | exact Int32.not_lt.mp hv | exact Int32.not_le.mp hv | exact Int32.not_lt.mpr hv | exact Int32.not_le.mpr hv) ?_
              refine x_opp rfl rfl ?_
              refine m_getg (s_0 dy) rfl rfl rfl ?_
              refine x_opp rfl rfl ?_
              refine a_gr hG4 rfl rfl gr ?_
              refine m_getg sg rfl rfl rfl ?_
              refine a_ifT rfl rfl br_ne (by first | exact th1 | exact nt_f th1 | exact tnf th1 | exact fnt th1 | exact Int32.not_lt.mp th1 | exact Int32.not_le.mp th1 | exact Int32.not_lt.mpr th1 | exact Int32.not_le.mpr th1) ?_
              refine x_opp rfl rfl ?_
              refine m_getg (s_0 dy) rfl rfl rfl ?_
              refine x_opp rfl rfl ?_
              refine m_getg (s_0 dy) rfl rfl rfl ?_
              refine x_opp rfl rfl ?_
              refine a_gr hG4 rfl rfl gr ?_
              refine a_callV (s_28 dy) rfl rfl rfl rfl (c_gat (Or.inr rfl) g1 La hG4 tra h5a d1 d3 d5 d6 hRR (fun _ M3 y1 y2 y3 y4 y5 y6 => ?_) (fun q => absurd z q))
              refine a_ifT rfl rfl br_ne (by decide) ?_
              refine x_opp rfl rfl ?_
              refine m_getg (s_0 dy) rfl rfl rfl ?_
              refine x_opp rfl rfl ?_
              rw [hDD] at y2 y3
              refine a_callV (s_28 dy) rfl rfl rfl rfl (c_allow (srSh_28 dy) ?_)
              refine x_opp rfl rfl ?_
              refine x_kcg rfl ?_
              refine a_putJ 7 (s_0 dy) rfl rfl rfl rfl ?_
              refine x_opp rfl rfl ?_
              refine x_opp rfl rfl ?_
              refine m_getg (s_0 dy) rfl rfl rfl ?_
              refine m_getg (s_28 dy) rfl rfl rfl ?_
              refine m_getg (s_29 dy) rfl rfl rfl ?_
              refine a_putJ 8 (s_0 dy) rfl rfl rfl rfl ?_
              refine x_kcg rfl ?_
              refine x_opp rfl rfl ?_
              refine x_kcg rfl ?_
              refine x_opp rfl rfl ?_
              refine x_go rfl ?_
              have e29 : (m_setI (m_setI (m_setI M3 28 15 0) 28 16 (nI lim)) 0 7 0).1 29 4 = nI D.1.length := y2.1.1
              rw [e29]
              obtain ⟨Mx, hMx⟩ : ∃ Mx, Mx = m_setI (m_setI (m_setI (m_setI M3 28 15 0) 28 16 (nI lim)) 0 7 0) 0 8 (nI D.1.length) := ⟨_, rfl⟩
              rw [← hMx]
              have fx : ∀ a i, ¬ (a = 28 ∧ (i = 15 ∨ i = 16)) → ¬ (a = 0 ∧ (i = 7 ∨ i = 8)) → Mx.1 a i = M3.1 a i := fun a i p1 p2 => by
                rw [hMx, mI_at, if_neg (by omega), mI_at, if_neg (by omega), mI_at, if_neg (by omega), mI_at, if_neg (by omega)]
              have mx : Mx.2 = M3.2 := by rw [hMx]; rfl
              refine x_lvs [(0, .ref 0), (1, .int (nI G)), (2, .int (nI (m + 1))), (3, .int (nI lim)), (4, .int (nI 0)), (5, .int 1)] rfl rfl rfl ⟨rfl, rfl, rfl, rfl, rfl, rfl, trivial⟩ ?_
              refine l_solve hd hin l5 mo2 m s00 0 0 Mx [] (by omega) (Nat.zero_le _) (cD_ex2 (M := M3) (fun a i _ _ => fx a i (by omega) (by omega)) (fun _ _ => by rw [mx]) y2) (Or.inl ⟨by rw [fx _ _ (by omega) (by omega)]; exact y4, cS_ex2 (M := M3) (fun a i _ => fx a i (by omega) (by omega)) (fun _ _ _ => by rw [mx]) y3, s00_I D⟩) (by rw [hMx]; rfl) (by rw [hMx]; rfl) rfl (Nat.zero_le _) ⟨by rw [hMx]; rfl, fun j tk _ e => by cases e⟩ (fun Ms z1 z2 z3 => ?_)
              rw [hsg] at z2 z3 ⊢
              dsimp only at z2 z3 ⊢
              rw [List.nil_append] at z2
              rw [Nat.zero_add]
              -- the reference, behind it
              have two : sm_E L xs 100 206 [.ref 65, .int (nI G), .int (nI (m + 1)), .int (nI lim)] (wm (sh0 ++ dy) (tlM Ms 28 (nI fs.length))) (fun r w => r = some (.int (if o = 2 then -4 else nI fs.length)) ∧ ∃ M2, w = wm (sh0 ++ dy) M2 ∧ rR (t + 1) dy M2) := by
                refine e_intro rfl rfl ?_
                obtain ⟨Mr, hMr⟩ : ∃ Mr, Mr = m_setI (tlM Ms 28 (nI fs.length)) 65 19 0 := ⟨_, rfl⟩
                have fr : ∀ a i, a = 4 ∨ a = 6 ∨ 66 ≤ a ∨ (a = 65 ∧ i ≠ 19) → Mr.1 a i = M1.1 a i := fun a i q => by
                  rw [hMr, mI_at, if_neg (by omega), tl_at _ _ _ _ _ (by omega) (by omega), z1.2.1 a (by omega) (by omega) (by omega) (by omega), fx a i (by omega) (by omega), y1.2.1 a (by omega) (by omega) (by omega) (by omega)]
                have lr : ∀ a, 43 < a → Mr.2.1 a = M1.2.1 a := fun a q => by
                  rw [show Mr.2 = Ms.2 from (by rw [hMr]; rfl), z1.2.2.2.1 a (by omega), mx, y1.2.2.1 a (by omega)]
                have rr : Mr.2.2 = M1.2.2 := by rw [show Mr.2 = Ms.2 from (by rw [hMr]; rfl), z1.1, mx, y1.1]
                have th2 : ¬ Mr.1 66 G = 0 := by rw [fr _ _ (by omega)]; exact th
                have trr : mTr Mr s := mTr_ex (M := M) (fun a i h => by rw [fr a i (by omega), fa a i (by omega)]) hN.2.1
                have n4 : ∀ i, i < 6 → M1.1 3 i = M1.1 84 i := fun i hi => by rw [fa _ _ (by omega), fa _ _ (by omega)]; exact hN.2.2.2.1 i hi
                refine x_opp rfl rfl ?_
                refine x_kcg rfl ?_
                refine a_putJ 19 (s_65 dy) rfl rfl rfl rfl ?_
                refine x_opp rfl rfl ?_
                refine a_callS rfl rfl rfl rfl (k_isGrid ?_)
                rw [← hMr]
                refine a_ifF rfl rfl br_eqz (by first | exact hg | exact nt_f hg | exact tnf hg | exact fnt hg | exact Int32.not_lt.mp hg | exact Int32.not_le.mp hg | exact Int32.not_lt.mpr hg | exact Int32.not_le.mpr hg) ?_
                refine x_opp rfl rfl ?_
                refine x_kcg rfl ?_
                refine x_kcg rfl ?_
                refine a_callS rfl rfl rfl rfl (k_in ?_)
                refine a_ifF rfl rfl br_eqz (by first | exact hy | exact nt_f hy | exact tnf hy | exact fnt hy | exact Int32.not_lt.mp hy | exact Int32.not_le.mp hy | exact Int32.not_lt.mpr hy | exact Int32.not_le.mpr hy) ?_
                refine x_opp rfl rfl ?_
                refine x_kcg rfl ?_
                refine x_kcg rfl ?_
                refine a_callS rfl rfl rfl rfl (k_in ?_)
                refine a_ifT rfl rfl br_nez (by first | exact hv | exact nt_f hv | exact tnf hv | exact fnt hv | exact Int32.not_lt.mp hv | exact Int32.not_le.mp hv | exact Int32.not_lt.mpr hv | exact Int32.not_le.mpr hv) ?_
                refine x_opp rfl rfl ?_
                refine m_getg (s_65 dy) rfl rfl rfl ?_
                refine x_opp rfl rfl ?_
                refine a_baldN (s_66 dy) (k := G) rfl rfl rfl (by omega) (by decide) ?_
                refine a_ifT rfl rfl br_ne (by first | exact th2 | exact nt_f th2 | exact tnf th2 | exact fnt th2 | exact Int32.not_lt.mp th2 | exact Int32.not_le.mp th2 | exact Int32.not_lt.mpr th2 | exact Int32.not_le.mpr th2) ?_
                refine x_opp rfl rfl ?_
                refine x_kcg rfl ?_
                refine x_opp rfl rfl ?_
                refine a_callV (s_65 dy) rfl rfl rfl rfl (k_beg (q := 1) (by decide) g1 La hG4 (fun a i h => fr a i (by omega)) (fun a h => lr a (by omega)) (by rw [rr]) trr d2 d4 d5 d6 hRR (by omega) (fun _ Mc w1 w2 w3 w4 w5 w6 => ?_) (fun q => absurd z q))
                refine a_ifT rfl rfl br_ne (by decide) ?_
                refine x_opp rfl rfl ?_
                refine x_kcg rfl ?_
                refine a_putJ 58 (s_65 dy) rfl rfl rfl rfl ?_
                refine x_opp rfl rfl ?_
                refine x_opp rfl rfl ?_
                refine m_getg (s_65 dy) rfl rfl rfl ?_
                refine x_kcg rfl ?_
                refine a_ialdN (s_96 dy) (k := 1) rfl rfl rfl (by omega) (by decide) ?_
                refine a_putJ 59 (s_65 dy) rfl rfl rfl rfl ?_
                refine x_opp rfl rfl ?_
                refine x_kcg rfl ?_
                refine x_opp rfl rfl ?_
                refine x_opp rfl rfl ?_
                rw [hDD] at w2 w3
                have e96 : (m_setI Mc 65 58 0).1 96 1 = nI D.1.length := w2.1
                rw [e96]
                obtain ⟨Me, hMe⟩ : ∃ Me, Me = m_setI (m_setI Mc 65 58 0) 65 59 (nI D.1.length) := ⟨_, rfl⟩
                rw [← hMe]
                have fe : ∀ a, a ≠ 65 → Me.1 a = Mc.1 a := fun a q => by funext i; rw [hMe, mI_ne _ _ _ q, mI_ne _ _ _ q]
                have le : Me.2 = Mc.2 := by rw [hMe]; rfl
                refine a_callV (s_65 dy) rfl rfl rfl rfl (k_goes (q := 1) (fs := []) (by decide) hd hin l5 mo1 mo2 (s00_I D) (mD_ex (M := Mc) (fun a q => fe a (by omega)) (by rw [le]) w2) (mS_ex (M := Mc) (fun a q => fe a (by omega)) (by rw [le]) w3) (fun _ => ⟨by rw [hMe]; rfl, fun j tk _ e => by cases e⟩) (fun M' q1 q2 q3 q4 => ?_))
                rw [hsg] at q2 ⊢
                dsimp only at q2 ⊢
                rw [List.nil_append] at q2
                have fin := R_sv (t := t) (lim := lim) g1 La Qa Sa n4 sb len hd ord y1 y6 y2 hMx z1 z2 z3 hMr w1 w6 (by rw [w4, y5]) hMe q1 (q2 rfl)
                refine x_opp rfl rfl ?_
                refine x_opp rfl rfl ?_
                refine x_kcg rfl ?_
                by_cases ho : o = 2
                · subst ho
                  refine a_icF rfl rfl br_ne (by decide) ?_
                  refine x_kcg rfl ?_
                  refine x_go rfl ?_
                  refine a_iret rfl rfl rfl ?_
                  exact ⟨rfl, _, rfl, fin⟩
                · refine a_icT rfl rfl br_ne (aI_n4 ho) ?_
                  refine x_opp rfl rfl ?_
                  refine m_getg (s_65 dy) rfl rfl rfl ?_
                  refine x_go rfl ?_
                  refine a_iret rfl rfl rfl ?_
                  exact ⟨by rw [if_neg ho]; rfl, _, rfl, fin⟩
              by_cases ho : o = 2
              · rw [if_pos ho] at two
                subst ho
                refine x_opp rfl rfl ?_
                refine x_opp rfl rfl ?_
                refine m_getg (s_0 dy) rfl rfl rfl ?_
                refine x_opp rfl rfl ?_
                refine a_callV (s_0 dy) rfl rfl rfl rfl (c_tellS ?_)
                refine x_opp rfl rfl ?_
                refine x_kcg rfl ?_
                refine a_icF rfl rfl br_ne (by decide) ?_
                refine x_kcg rfl ?_
                refine x_go rfl ?_
                refine a_iret rfl rfl rfl ?_
                exact ⟨_, dy, _, rfl, rfl, two⟩
              · rw [if_neg ho] at two
                refine x_opp rfl rfl ?_
                refine x_opp rfl rfl ?_
                refine m_getg (s_0 dy) rfl rfl rfl ?_
                refine x_opp rfl rfl ?_
                refine a_callV (s_0 dy) rfl rfl rfl rfl (c_tellS ?_)
                refine x_opp rfl rfl ?_
                refine x_kcg rfl ?_
                refine a_icT rfl rfl br_ne (aI_n4 ho) ?_
                refine x_opp rfl rfl ?_
                refine x_go rfl ?_
                refine a_iret rfl rfl rfl ?_
                exact ⟨_, dy, _, rfl, rfl, two⟩
            · refine x_opp rfl rfl ?_
              refine m_getg (s_0 dy) rfl rfl rfl ?_
              refine a_callV (s_1 dy) rfl rfl rfl rfl (c_clear (s_1 dy) ?_)
              refine x_opp rfl rfl ?_
              refine a_callS rfl rfl rfl rfl (c_isGridNumber ?_)
              rw [hM1]
              refine a_ifF rfl rfl br_eqz (by first | exact hg | exact nt_f hg | exact tnf hg | exact fnt hg | exact Int32.not_lt.mp hg | exact Int32.not_le.mp hg | exact Int32.not_lt.mpr hg | exact Int32.not_le.mpr hg) ?_
              refine x_opp rfl rfl ?_
              refine x_kcg rfl ?_
              refine a_icF rfl rfl br_lt (by first | exact m1 | exact nt_f m1 | exact tnf m1 | exact fnt m1 | exact Int32.not_lt.mp m1 | exact Int32.not_le.mp m1 | exact Int32.not_lt.mpr m1 | exact Int32.not_le.mpr m1) ?_
              refine x_opp rfl rfl ?_
              refine x_kcg rfl ?_
              refine a_icF rfl rfl br_gt (by first | exact m2 | exact nt_f m2 | exact tnf m2 | exact fnt m2 | exact Int32.not_lt.mp m2 | exact Int32.not_le.mp m2 | exact Int32.not_lt.mpr m2 | exact Int32.not_le.mpr m2) ?_
              refine x_opp rfl rfl ?_
              refine a_callS rfl rfl rfl rfl (c_isStepNumber ?_)
              refine a_ifT rfl rfl br_nez (by first | exact hv | exact nt_f hv | exact tnf hv | exact fnt hv | exact Int32.not_lt.mp hv | exact Int32.not_le.mp hv | exact Int32.not_lt.mpr hv | exact Int32.not_le.mpr hv) ?_
              refine x_opp rfl rfl ?_
              refine m_getg (s_0 dy) rfl rfl rfl ?_
              refine x_opp rfl rfl ?_
              refine a_gr hG4 rfl rfl gr ?_
              refine m_getg sg rfl rfl rfl ?_
              refine a_ifT rfl rfl br_ne (by first | exact th1 | exact nt_f th1 | exact tnf th1 | exact fnt th1 | exact Int32.not_lt.mp th1 | exact Int32.not_le.mp th1 | exact Int32.not_lt.mpr th1 | exact Int32.not_le.mpr th1) ?_
              refine x_opp rfl rfl ?_
              refine m_getg (s_0 dy) rfl rfl rfl ?_
              refine x_opp rfl rfl ?_
              refine m_getg (s_0 dy) rfl rfl rfl ?_
              refine x_opp rfl rfl ?_
              refine a_gr hG4 rfl rfl gr ?_
              refine a_callV (s_28 dy) rfl rfl rfl rfl (c_gat (Or.inr rfl) g1 La hG4 tra h5a d1 d3 d5 d6 hRR (fun q => absurd q z) (fun _ M3 y1 y6 => ?_))
              refine a_ifF rfl rfl br_ne (by decide) ?_
              refine x_opp rfl rfl ?_
              refine m_getg (s_0 dy) rfl rfl rfl ?_
              refine a_callV (s_1 dy) rfl rfl rfl rfl (c_answer (s_1 dy) ?_)
              rw [y1.2.2.2.1]
              refine a_iret rfl rfl rfl ?_
              have y1' := y1
              obtain ⟨x1, x2, x3, x4, x5⟩ := y1'
              refine ⟨_, dy, _, rfl, rfl, ?_⟩; refine e_intro rfl rfl ?_
              obtain ⟨Mr, hMr⟩ : ∃ Mr, m_setI M3 65 19 0 = Mr := ⟨_, rfl⟩
              have fr : ∀ a i, ¬ (a = 65 ∧ i = 19) → Mr.1 a i = M3.1 a i := fun a i h => by rw [← hMr, mI_at, if_neg (by omega)]
              have mr : Mr.2 = M3.2 := by rw [← hMr]; rfl
              have fb : ∀ a i, a = 0 ∨ (4 ≤ a ∧ a ≤ 27) ∨ 43 ≤ a → M3.1 a i = M1.1 a i := fun a i h => by rw [x2 a (by omega) (by omega) (by omega) (by omega)]
              have th2 : ¬ Mr.1 66 G = 0 := by rw [fr _ _ (by omega), fb _ _ (by omega)]; exact th
              have trr : mTr Mr s := mTr_ex (M := M) (fun a i h => by rw [fr _ _ (by omega), fb _ _ (by omega), fa _ _ (by omega)]) hN.2.1
              refine x_opp rfl rfl ?_
              refine x_kcg rfl ?_
              refine a_putJ 19 (s_65 dy) rfl rfl rfl rfl ?_
              refine x_opp rfl rfl ?_
              refine a_callS rfl rfl rfl rfl (k_isGrid ?_)
              refine a_ifF rfl rfl br_eqz (by first | exact hg | exact nt_f hg | exact tnf hg | exact fnt hg | exact Int32.not_lt.mp hg | exact Int32.not_le.mp hg | exact Int32.not_lt.mpr hg | exact Int32.not_le.mpr hg) ?_
              refine x_opp rfl rfl ?_
              refine x_kcg rfl ?_
              refine x_kcg rfl ?_
              refine a_callS rfl rfl rfl rfl (k_in ?_)
              refine a_ifF rfl rfl br_eqz (by first | exact hy | exact nt_f hy | exact tnf hy | exact fnt hy | exact Int32.not_lt.mp hy | exact Int32.not_le.mp hy | exact Int32.not_lt.mpr hy | exact Int32.not_le.mpr hy) ?_
              refine x_opp rfl rfl ?_
              refine x_kcg rfl ?_
              refine x_kcg rfl ?_
              refine a_callS rfl rfl rfl rfl (k_in ?_)
              refine a_ifT rfl rfl br_nez (by first | exact hv | exact nt_f hv | exact tnf hv | exact fnt hv | exact Int32.not_lt.mp hv | exact Int32.not_le.mp hv | exact Int32.not_lt.mpr hv | exact Int32.not_le.mpr hv) ?_
              refine x_opp rfl rfl ?_
              refine m_getg (s_65 dy) rfl rfl rfl ?_
              refine x_opp rfl rfl ?_
              rw [hMr]
              refine a_baldN (s_66 dy) (k := G) rfl rfl rfl (by omega) (by decide) ?_
              refine a_ifT rfl rfl br_ne (by first | exact th2 | exact nt_f th2 | exact tnf th2 | exact fnt th2 | exact Int32.not_lt.mp th2 | exact Int32.not_le.mp th2 | exact Int32.not_lt.mpr th2 | exact Int32.not_le.mpr th2) ?_
              refine x_opp rfl rfl ?_
              refine x_kcg rfl ?_
              refine x_opp rfl rfl ?_
              refine a_callV (s_65 dy) rfl rfl rfl rfl (k_beg (q := 1) (by decide) g1 La hG4 (fun a i h => by rw [fr a i (by omega), fb a i (by omega)]) (fun a h => by rw [mr, x3 a (by omega)]) (by rw [mr, x1]) trr d2 d4 d5 d6 hRR (by omega) (fun q => absurd q z) (fun _ Mc w1 w6 w31 => ?_))
              refine a_ifF rfl rfl br_ne (by decide) ?_
              refine x_opp rfl rfl ?_
              refine x_opp rfl rfl ?_
              refine m_getg (s_65 dy) rfl rfl rfl ?_
              rw [w31]
              refine a_callV (s_65 dy) rfl rfl rfl rfl (k_met (vp_in_nI (n := R.2.1) (by omega) (by decide)) ?_)
              refine a_iret rfl rfl rfl ?_
              refine ⟨rfl, _, rfl, ?_⟩
              have rn := rN_gf (b := 28) hN (funext fun i => fa 3 i (by omega)) y1 y6 len (fun a i h => fr a i (by omega)) (fun i => by rw [fr _ _ (by omega), fb _ _ (by omega), fa _ _ (by omega)]) w1 w6 (by omega) z
              obtain ⟨v1, v2, v3, v4, v5, v6, v7, v8, v9⟩ := w1
              have fm : ∀ a i, ¬ (a = 65 ∧ i = 19) → a ≠ 84 → (mMet Mc (nI R.2.1)).1 a i = Mc.1 a i := fun a i p1 p2 => by
                unfold mMet
                rw [mI_at, if_neg (by omega), mI_at, if_neg (by omega)]
              have f65 : ∀ i, i ≠ 19 → i ≠ 22 → i ≠ 24 → i ≠ 31 → i ≠ 32 → (mMet Mc (nI R.2.1)).1 65 i = M1.1 65 i := fun i p1 p2 p3 p4 p5 => by
                rw [fm _ _ (by omega) (by omega), v3 i p2 p3 p4 p5, fr _ _ (by omega), fb _ _ (by omega)]
              have fz : ∀ a i, a = 0 ∨ (4 ≤ a ∧ a ≤ 27) ∨ (43 ≤ a ∧ a ≤ 64) ∨ (66 ≤ a ∧ a ≤ 83) ∨ 114 ≤ a → (mMet Mc (nI R.2.1)).1 a i = M1.1 a i := fun a i h => by
                rw [fm a i (by omega) (by omega), v2 a (by omega), fr _ _ (by omega), fb _ _ (by omega)]
              have own : ∀ a i, 85 ≤ a → Mc.1 a i = Mr.1 a i → (mMet Mc (nI R.2.1)).1 a i = M1.1 a i := fun a i p low => by
                rw [fm a i (by omega) (by omega), low, fr _ _ (by omega), fb _ _ (by omega)]
              have lz : ∀ a, a ≠ 65 → a ≠ 88 → a ≠ 90 → a ≠ 99 → (a < 28 ∨ 42 < a) → (mMet Mc (nI R.2.1)).2.1 a = M1.2.1 a := fun a p1 p2 p3 p4 p5 => by
                show Mc.2.1 a = _
                rw [v4 a p1 p2 p3 p4, mr, x3 a (by omega)]
              refine R_x (M := M1) g1 La Qa rn (rS_f2 Sa (fun a i h => ?_) (fun a h => lz a (by omega) (by omega) (by omega) (by omega) (by omega)) (fun i hi => ?_) (fun i hi => by rw [lz 104 (by decide) (by decide) (by decide) (by decide) (by decide)])) (fun a i h => ?_) (fun a h => lz a (by omega) (by omega) (by omega) (by omega) (by omega)) ?_
              · rcases h with ⟨rfl, h⟩ | h | rfl | ⟨rfl | rfl | rfl, k⟩ | ⟨rfl | rfl | rfl | rfl | rfl, k⟩ | ⟨rfl, k⟩ | ⟨rfl, k⟩ | ⟨rfl, h⟩
                · exact fz _ i (by decide)
                · exact fz a i (by omega)
                · exact fz _ i (by decide)
                · exact own _ i (by decide) (v5 i (by omega)).1
                · exact own _ i (by decide) (v5 i (by omega)).2.1
                · exact own _ i (by decide) (v5 i (by omega)).2.2
                · exact own _ i (by decide) (v6 i (by omega)).1
                · exact own _ i (by decide) (v6 i (by omega)).2.1
                · exact own _ i (by decide) (v6 i (by omega)).2.2.1
                · exact own _ i (by decide) (by rw [v2 105 (by decide)])
                · exact own _ i (by decide) (v6 i (by omega)).2.2.2
                · exact own _ i (by decide) (v7 i (by omega))
                · exact own _ i (by decide) (v8 i (by omega))
                · exact f65 i (by omega) (by omega) (by omega) (by omega) (by omega)
              · show Mc.2.1 99 i = _
                rw [(v9 i (by omega)).1, mr, x3 99 (by omega)]
              · by_cases q : a = 65
                · subst q; exact f65 i (by omega) (by omega) (by omega) (by omega) (by omega)
                · exact fz a i (by omega)
              · show Mc.2.2 = _
                rw [v1, mr, x1]
        · refine x_opp rfl rfl ?_
          refine m_getg (s_0 dy) rfl rfl rfl ?_
          refine a_callV (s_1 dy) rfl rfl rfl rfl (c_clear (s_1 dy) ?_)
          refine x_opp rfl rfl ?_
          refine a_callS rfl rfl rfl rfl (c_isGridNumber ?_)
          rw [hM1]
          refine a_ifF rfl rfl br_eqz (by first | exact hg | exact nt_f hg | exact tnf hg | exact fnt hg | exact Int32.not_lt.mp hg | exact Int32.not_le.mp hg | exact Int32.not_lt.mpr hg | exact Int32.not_le.mpr hg) ?_
          refine x_opp rfl rfl ?_
          refine x_kcg rfl ?_
          refine a_icF rfl rfl br_lt (by first | exact m1 | exact nt_f m1 | exact tnf m1 | exact fnt m1 | exact Int32.not_lt.mp m1 | exact Int32.not_le.mp m1 | exact Int32.not_lt.mpr m1 | exact Int32.not_le.mpr m1) ?_
          refine x_opp rfl rfl ?_
          refine x_kcg rfl ?_
          refine a_icF rfl rfl br_gt (by first | exact m2 | exact nt_f m2 | exact tnf m2 | exact fnt m2 | exact Int32.not_lt.mp m2 | exact Int32.not_le.mp m2 | exact Int32.not_lt.mpr m2 | exact Int32.not_le.mpr m2) ?_
          refine x_opp rfl rfl ?_
          refine a_callS rfl rfl rfl rfl (c_isStepNumber ?_)
          refine a_ifF rfl rfl br_nez (by first | exact hv | exact nt_f hv | exact tnf hv | exact fnt hv | exact Int32.not_lt.mp hv | exact Int32.not_le.mp hv | exact Int32.not_lt.mpr hv | exact Int32.not_le.mpr hv) ?_
          refine x_kcg rfl ?_
          refine a_iret rfl rfl rfl ?_
          refine ⟨_, dy, _, rfl, rfl, ?_⟩; refine e_intro rfl rfl ?_
          refine x_opp rfl rfl ?_
          refine x_kcg rfl ?_
          refine a_putJ 19 (s_65 dy) rfl rfl rfl rfl ?_
          refine x_opp rfl rfl ?_
          refine a_callS rfl rfl rfl rfl (k_isGrid ?_)
          rw [hM2]
          refine a_ifF rfl rfl br_eqz (by first | exact hg | exact nt_f hg | exact tnf hg | exact fnt hg | exact Int32.not_lt.mp hg | exact Int32.not_le.mp hg | exact Int32.not_lt.mpr hg | exact Int32.not_le.mpr hg) ?_
          refine x_opp rfl rfl ?_
          refine x_kcg rfl ?_
          refine x_kcg rfl ?_
          refine a_callS rfl rfl rfl rfl (k_in ?_)
          refine a_ifF rfl rfl br_eqz (by first | exact hy | exact nt_f hy | exact tnf hy | exact fnt hy | exact Int32.not_lt.mp hy | exact Int32.not_le.mp hy | exact Int32.not_lt.mpr hy | exact Int32.not_le.mpr hy) ?_
          refine x_opp rfl rfl ?_
          refine x_kcg rfl ?_
          refine x_kcg rfl ?_
          refine a_callS rfl rfl rfl rfl (k_in ?_)
          refine a_ifF rfl rfl br_nez (by first | exact hv | exact nt_f hv | exact tnf hv | exact fnt hv | exact Int32.not_lt.mp hv | exact Int32.not_le.mp hv | exact Int32.not_lt.mpr hv | exact Int32.not_le.mpr hv) ?_
          refine x_kcg rfl ?_
          refine a_iret rfl rfl rfl ?_
          subst hM2; subst hM1; exact ⟨rfl, _, rfl, R_cl hR⟩
  · refine x_opp rfl rfl ?_
    refine m_getg (s_0 dy) rfl rfl rfl ?_
    refine a_callV (s_1 dy) rfl rfl rfl rfl (c_clear (s_1 dy) ?_)
    refine x_opp rfl rfl ?_
    refine a_callS rfl rfl rfl rfl (c_isGridNumber ?_)
    rw [hM1]
    refine a_ifT rfl rfl br_eqz (by first | exact hg | exact nt_f hg | exact tnf hg | exact fnt hg | exact Int32.not_lt.mp hg | exact Int32.not_le.mp hg | exact Int32.not_lt.mpr hg | exact Int32.not_le.mpr hg) ?_
    refine x_kcg rfl ?_
    refine a_iret rfl rfl rfl ?_
    refine ⟨_, dy, _, rfl, rfl, ?_⟩; refine e_intro rfl rfl ?_
    refine x_opp rfl rfl ?_
    refine x_kcg rfl ?_
    refine a_putJ 19 (s_65 dy) rfl rfl rfl rfl ?_
    refine x_opp rfl rfl ?_
    refine a_callS rfl rfl rfl rfl (k_isGrid ?_)
    rw [hM2]
    refine a_ifT rfl rfl br_eqz (by first | exact hg | exact nt_f hg | exact tnf hg | exact fnt hg | exact Int32.not_lt.mp hg | exact Int32.not_le.mp hg | exact Int32.not_lt.mpr hg | exact Int32.not_le.mpr hg) ?_
    refine x_kcg rfl ?_
    refine a_iret rfl rfl rfl ?_
    subst hM2; subst hM1; exact ⟨rfl, _, rfl, R_cl hR⟩
end SP
