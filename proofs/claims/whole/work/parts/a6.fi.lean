/-! pairs: a grid is filled -/
theorem cTr_ex {M M' : mm_T} {s : Nat × (Nat → Int32)} (h : ∀ a i, (a = 1 ∧ i ≠ 5) ∨ a = 2 → M'.1 a i = M.1 a i) (c : cTr M s) : cTr M' s := by
  obtain ⟨c1, c2, c3, c4⟩ := c
  refine ⟨?_, ?_, ?_, fun i hi => ?_⟩
  · rw [h 1 _ (by omega)]; exact c1
  · rw [h 1 _ (by omega)]; exact c2
  · rw [h 1 _ (by omega)]; exact c3
  · rw [h 2 _ (by omega)]; exact c4 i hi
theorem mTr_ex {M M' : mm_T} {s : Nat × (Nat → Int32)} (h : ∀ a i, (a = 65 ∧ i = 22) ∨ a = 85 → M'.1 a i = M.1 a i) (c : mTr M s) : mTr M' s := by
  obtain ⟨m1, m2⟩ := c
  refine ⟨?_, fun i hi => ?_⟩
  · rw [h 65 _ (by omega)]; exact m1
  · rw [h 85 _ (by omega)]; exact m2 i hi
theorem R_fdo {t : Nat} {dy : List sh_T} {M : mm_T} {k : Nat} (hk : k < 6) (h : rR t dy M) : rR (t + 1) dy (mMet (m_setI (m_setI (nFind (m_setI (m_setI M 1 5 0) 0 11 0) 1 3 (nI k)) 65 19 0) 65 38 0) (nI k)) := by
  obtain ⟨s, E, P, w, n, hG, hN, hL, hS, hQ⟩ := h
  unfold mMet nFind
  rw [nI_clamp (by omega)]
  refine ⟨s, E, P, w, n, rG_fr hG (Nat.le_refl n) (fun a i h => by repeat (first | rw [mI_at, if_neg (by omega)] | rw [mA_at, if_neg (by omega)] | rw [mL_1] | rw [mR_1])) rfl, ?_, rL_fr hL (fun a i h => by repeat (first | rw [mI_at, if_neg (by omega)] | rw [mA_at, if_neg (by omega)] | rw [mL_1] | rw [mR_1])) (fun _ _ => rfl) rfl, rS_0 rfl rfl, rQ_fr hQ (fun a i h => by repeat (first | rw [mI_at, if_neg (by omega)] | rw [mA_at, if_neg (by omega)] | rw [mL_1] | rw [mR_1])) (fun _ _ => rfl)⟩
  obtain ⟨⟨c1, c2, c3, c4⟩, ⟨m1, m2⟩, n3, n4, n5⟩ := hN
  refine ⟨⟨c1, c2, c3, c4⟩, ⟨m1, m2⟩, rfl, fun i hi => ?_, by omega⟩
  by_cases e : i = k
  · subst e
    have := n4 i hi
    simp only [mI_at]
    simp [this]
  · have := n4 i hi
    simp only [mI_at]
    simp [e, this]
section FI
variable {L : Nat} {xs : Nat → Int32} {t d : Nat} {dy : List sh_T} {M : mm_T} {Q : Option Value → sm_W → Prop} {n G : Nat}
theorem rN_gf {Ma M3 Mr M4 : mm_T} {s : Nat × (Nat → Int32)} {cs : List Nat} {b q z : Nat} (hN : rN M t s) (fa : Ma.1 3 = M.1 3) (g : gaF Ma M3 b z) (c : cTr M3 (trc s cs)) (hlen : cs.length ≤ 204120) (f3 : ∀ a i, a ≤ 64 → Mr.1 a i = M3.1 a i) (f84 : ∀ i, Mr.1 84 i = M.1 84 i) (bf : bF Mr M4 q) (m : mTr M4 (trc s cs)) (hz : z < 6) (hz0 : z ≠ 0) : rN (mMet M4 (nI z)) (t + 1) (trc s cs) := by
  obtain ⟨g1, g2, g3, g4, g5⟩ := g
  rw [if_neg hz0] at g5
  obtain ⟨h1, h2, h3, -⟩ := bf
  have f1 : ∀ a i, a ≤ 64 → (mMet M4 (nI z)).1 a i = M3.1 a i := fun a i h => by
    unfold mMet
    rw [mI_ne _ _ _ (by omega), mI_ne _ _ _ (by omega), h2 a (by omega), f3 a i h]
  obtain ⟨-, -, n3, n4, n5⟩ := hN
  refine ⟨cTr_ex (fun a i h => f1 a i (by omega)) c, mTr_ex (fun a i h => ?_) m, ?_, fun i hi => ?_, by rw [trc_len]; omega⟩
  · unfold mMet
    rw [mI_at, if_neg (by omega), mI_at, if_neg (by omega)]
  · rw [f1 _ _ (by omega), g4]
    unfold mMet
    rw [mI_at, if_neg (by omega), mI_at, if_pos ⟨rfl, rfl⟩]
  · rw [f1 _ _ (by omega), g5]
    unfold mMet upd
    rw [nI_clamp (by omega), mI_at, fa]
    have k84 : ∀ j, M4.1 84 j = M.1 84 j := fun j => by rw [h2 84 (by omega), f84]
    by_cases e : i = z
    · rw [if_pos e, if_pos ⟨rfl, e⟩, k84, n4 z hz]
    · rw [if_neg e, if_neg (fun x => e x.2), mI_ne _ _ _ (by decide), k84, n4 i hi]
theorem R_x {M' : mm_T} {s : Nat × (Nat → Int32)} {E : Nat → lT} {P w : Nat → Nat} (hG : rG M n) (hL : rL dy M E P w n) (hQ : rQ M) (hN : rN M' t s) (hS : rS M') (fr : ∀ a i, (a = 0 ∧ (i = 7 ∨ i = 8 ∨ i = 12 ∨ i = 13)) ∨ a = 4 ∨ a = 6 ∨ (44 ≤ a ∧ a ≤ 64) ∨ (66 ≤ a ∧ a ≤ 83) ∨ 114 ≤ a ∨ (a = 65 ∧ (i = 9 ∨ i = 23 ∨ 53 ≤ i)) → M'.1 a i = M.1 a i) (f2 : ∀ a, a = 43 ∨ a = 109 ∨ a = 78 ∨ a = 82 ∨ 114 ≤ a → M'.2.1 a = M.2.1 a) (f3 : M'.2.2 = M.2.2) : rR t dy M' :=
  ⟨s, E, P, w, n, rG_fr hG (Nat.le_refl n) (fun a i h => fr a i (by omega)) (by rw [f3]), hN, rL_fr hL (fun a i h => fr a i (by omega)) (fun a h => f2 a (by omega)) (by rw [f3]), hS, rQ_fr hQ (fun a i h => fr a i (by omega)) (fun a h => f2 a (by omega))⟩
set_option maxRecDepth 4000 in
set_option maxHeartbeats 1000000 in
theorem p_fill {g v : Int32} (ht : t ≤ 512) (h : rR t dy M) : pr L xs t dy M 88 193 [.int g, .int v] := by
  have hR := h; obtain ⟨s, E, P, w, n, hG, hN, hL, hS, hQ⟩ := h; have z0 : (0 : Int32) = 0 := rfl; have z1 : (0 : Int32) ≤ 0 := (by decide); have z11 : ¬ (1 : Int32) = 0 := (by decide); have z12 : ¬ (1 : Int32) ≤ 0 := (by decide); obtain ⟨M1, hM1⟩ : ∃ M1, m_setI M 1 5 0 = M1 := ⟨_, rfl⟩; have g1 : rG M1 n := hM1 ▸ rG_c hG; obtain ⟨M2, hM2⟩ : ∃ M2, m_setI M1 65 19 0 = M2 := ⟨_, rfl⟩; have g2 : rG M2 n := hM2 ▸ rG_z g1
  unfold pr; refine e_intro rfl rfl ?_
  by_cases hg : gRow 4 g = true
  · by_cases hv : inR v 1 5000 = true
    · obtain ⟨G, hG4, rfl⟩ := gRow4 hg
      obtain ⟨lim, rfl, l1, l5⟩ := stp_n hv
      obtain ⟨sg, -⟩ := gsh_at dy G hG4
      have gr : (m_setI M1 0 11 0).2.2 7 G = some (45 + 5 * G) := by rw [← hM1]; exact hG.2.1 G hG4
      have a1 : M.1 (45 + 5 * G) 4 = M.1 66 G := (hG.2.2 G hG4).1.1
      have ea : (m_setI M1 0 11 0).1 (45 + 5 * G) 4 = M.1 66 G := by rw [← hM1, mI_ne _ _ _ (by omega), mI_ne _ _ _ (by omega)]; exact a1
      by_cases th : M.1 66 G = 0
      · have th1 : (m_setI M1 0 11 0).1 (45 + 5 * G) 4 = 0 := ea.trans th
        have th2 : (m_setI (m_setI (nFind (m_setI M1 0 11 0) 1 3 (nI 1)) 65 19 0) 65 38 0).1 66 G = 0 := by rw [← hM1]; exact th
        refine x_opp rfl rfl ?_
        refine m_getg (s_0 dy) rfl rfl rfl ?_
        refine a_callV (s_1 dy) rfl rfl rfl rfl (c_clear (s_1 dy) ?_)
        refine x_opp rfl rfl ?_
        refine a_callS rfl rfl rfl rfl (c_isGridNumber ?_)
        rw [hM1]
        refine a_ifF rfl rfl br_eqz (by first | exact hg | exact nt_f hg | exact tnf hg | exact fnt hg | exact Int32.not_lt.mp hg | exact Int32.not_le.mp hg | exact Int32.not_lt.mpr hg | exact Int32.not_le.mpr hg) ?_
        refine x_opp rfl rfl ?_
        refine a_callS rfl rfl rfl rfl (c_isStepNumber ?_)
        refine a_ifT rfl rfl br_nez (by first | exact hv | exact nt_f hv | exact tnf hv | exact fnt hv | exact Int32.not_lt.mp hv | exact Int32.not_le.mp hv | exact Int32.not_lt.mpr hv | exact Int32.not_le.mpr hv) ?_
        refine x_opp rfl rfl ?_
        refine x_kcg rfl ?_
        refine a_putJ 11 (s_0 dy) rfl rfl rfl rfl ?_
        refine x_opp rfl rfl ?_
        refine m_getg (s_0 dy) rfl rfl rfl ?_
        refine x_opp rfl rfl ?_
        refine a_gr hG4 rfl rfl gr ?_
        refine m_getg sg rfl rfl rfl ?_
        refine a_ifF rfl rfl br_ne (fun q => q th1) ?_
        refine x_opp rfl rfl ?_
        refine m_getg (s_0 dy) rfl rfl rfl ?_
        refine x_kcg rfl ?_
        refine a_callV (s_1 dy) rfl rfl rfl rfl (c_find (s_1 dy) (s_3 dy) (by decide) (vp_in_nI (n := 1) (by decide) (by decide)) ?_)
        refine a_iret rfl rfl rfl ?_
        refine ⟨_, dy, _, rfl, rfl, ?_⟩; refine e_intro rfl rfl ?_
        refine x_opp rfl rfl ?_
        refine x_kcg rfl ?_
        refine a_putJ 19 (s_65 dy) rfl rfl rfl rfl ?_
        refine x_opp rfl rfl ?_
        refine a_callS rfl rfl rfl rfl (k_isGrid ?_)
        refine a_ifF rfl rfl br_eqz (by first | exact hg | exact nt_f hg | exact tnf hg | exact fnt hg | exact Int32.not_lt.mp hg | exact Int32.not_le.mp hg | exact Int32.not_lt.mpr hg | exact Int32.not_le.mpr hg) ?_
        refine x_opp rfl rfl ?_
        refine x_kcg rfl ?_
        refine x_kcg rfl ?_
        refine a_callS rfl rfl rfl rfl (k_in ?_)
        refine a_ifT rfl rfl br_nez (by first | exact hv | exact nt_f hv | exact tnf hv | exact fnt hv | exact Int32.not_lt.mp hv | exact Int32.not_le.mp hv | exact Int32.not_lt.mpr hv | exact Int32.not_le.mpr hv) ?_
        refine x_opp rfl rfl ?_
        refine x_kcg rfl ?_
        refine a_putJ 38 (s_65 dy) rfl rfl rfl rfl ?_
        refine x_opp rfl rfl ?_
        refine m_getg (s_65 dy) rfl rfl rfl ?_
        refine x_opp rfl rfl ?_
        refine a_baldN (s_66 dy) (k := G) rfl rfl rfl (by omega) (by decide) ?_
        refine a_ifF rfl rfl br_ne (fun q => q th2) ?_
        refine x_opp rfl rfl ?_
        refine x_kcg rfl ?_
        refine a_callV (s_65 dy) rfl rfl rfl rfl (k_met (vp_in_nI (n := 1) (by decide) (by decide)) ?_)
        refine a_iret rfl rfl rfl ?_
        subst hM1
        exact ⟨rfl, _, rfl, R_fdo (k := 1) (by decide) hR⟩
      · have th1 : ¬ (m_setI M1 0 11 0).1 (45 + 5 * G) 4 = 0 := by rw [ea]; exact th
        obtain ⟨Ma, hMa⟩ : ∃ Ma, m_setI M1 0 11 0 = Ma := ⟨_, rfl⟩
        rw [hMa] at th1 gr
        have fa : ∀ a i, ¬ (a = 0 ∧ i = 11) → ¬ (a = 1 ∧ i = 5) → Ma.1 a i = M.1 a i := fun a i h1 h2 => by rw [← hMa, ← hM1, mI_at, if_neg h1, mI_at, if_neg h2]
        have ma : Ma.2 = M.2 := by rw [← hMa, ← hM1]; rfl
        have ga : rG Ma n := rG_fr hG (Nat.le_refl n) (fun a i h => fa a i (by omega) (by omega)) (by rw [ma])
        have La : rL dy Ma E P w n := rL_fr hL (fun a i h => fa a i (by omega) (by omega)) (fun a _ => by rw [ma]) (by rw [ma])
        have Qa : rQ Ma := rQ_fr hQ (fun a i h => fa a i (by omega) (by omega)) (fun a _ => by rw [ma])
        have tra : cTr Ma s := cTr_ex (fun a i h => fa a i (by omega) (by omega)) hN.1
        have h5a : Ma.1 1 5 = 0 := by rw [← hMa, ← hM1]; rfl
        obtain ⟨al, dl, d1, d2, d3, d4, d5, d6⟩ := (ga.2.2 G hG4).2.2.2
        obtain ⟨R, hRR⟩ : ∃ R, R = gRs Ma G E al dl := ⟨_, rfl⟩
        have len := gRs_len ga hG4 La d5 d6
        have fd2 := gRs_2 (M := Ma) (G := G) La.1 d5 d6
        rw [← hRR] at len fd2
        have sb := hN.2.2.2.2
        by_cases z : R.2.1 = 0
        · have hd : dOK (gDs Ma G R) := gDs_ok ga hG4 La.1 d5 d6 hRR z
          have hin : ∀ i j, i < (gDs Ma G R).1.length → j < (gDs Ma G R).1.length → (gDs Ma G R).2.2.1 i = (gDs Ma G R).2.2.1 j → i = j := gD_inj
          obtain ⟨r, hr⟩ := sNx_some (gDs Ma G R) lim (2 * lim + 50) s00 0 (Nat.zero_le _) (by show 2 * (lim - 0) + 0 < _; omega)
          obtain ⟨ca, hca⟩ := rG_ca ga hG4
          refine x_opp rfl rfl ?_
          refine m_getg (s_0 dy) rfl rfl rfl ?_
          refine a_callV (s_1 dy) rfl rfl rfl rfl (c_clear (s_1 dy) ?_)
          refine x_opp rfl rfl ?_
          refine a_callS rfl rfl rfl rfl (c_isGridNumber ?_)
          rw [hM1]
          refine a_ifF rfl rfl br_eqz (by first | exact hg | exact nt_f hg | exact tnf hg | exact fnt hg | exact Int32.not_lt.mp hg | exact Int32.not_le.mp hg | exact Int32.not_lt.mpr hg | exact Int32.not_le.mpr hg) ?_
          refine x_opp rfl rfl ?_
          refine a_callS rfl rfl rfl rfl (c_isStepNumber ?_)
          refine a_ifT rfl rfl br_nez (by first | exact hv | exact nt_f hv | exact tnf hv | exact fnt hv | exact Int32.not_lt.mp hv | exact Int32.not_le.mp hv | exact Int32.not_lt.mpr hv | exact Int32.not_le.mpr hv) ?_
          refine x_opp rfl rfl ?_
          refine x_kcg rfl ?_
          refine a_putJ 11 (s_0 dy) rfl rfl rfl rfl ?_
          refine x_opp rfl rfl ?_
          refine m_getg (s_0 dy) rfl rfl rfl ?_
          refine x_opp rfl rfl ?_
          rw [hMa]
          refine a_gr hG4 rfl rfl gr ?_
          refine m_getg sg rfl rfl rfl ?_
          refine a_ifT rfl rfl br_ne (by first | exact th1 | exact nt_f th1 | exact tnf th1 | exact fnt th1 | exact Int32.not_lt.mp th1 | exact Int32.not_le.mp th1 | exact Int32.not_lt.mpr th1 | exact Int32.not_le.mpr th1) ?_
          refine x_opp rfl rfl ?_
          refine m_getg (s_0 dy) rfl rfl rfl ?_
          refine x_opp rfl rfl ?_
          refine m_getg (s_0 dy) rfl rfl rfl ?_
          refine x_opp rfl rfl ?_
          refine a_gr hG4 rfl rfl gr ?_
          refine a_callV (s_13 dy) rfl rfl rfl rfl (c_gat (Or.inl rfl) ga La hG4 tra h5a d1 d3 d5 d6 hRR (fun _ M3 y1 y2 y3 y4 y5 y6 => ?_) (fun q => absurd z q))
          refine a_ifT rfl rfl br_ne (by decide) ?_
          refine x_opp rfl rfl ?_
          refine x_opp rfl rfl ?_
          refine a_putJ 10 (s_0 dy) rfl rfl rfl rfl ?_
          refine x_opp rfl rfl ?_
          refine x_opp rfl rfl ?_
          obtain ⟨x1, x2, x3, x4, x5⟩ := y1
          obtain ⟨Mx, hMx⟩ : ∃ Mx, m_setI M3 0 10 (nI G) = Mx := ⟨_, rfl⟩
          have fx : ∀ a i, ¬ (a = 0 ∧ i = 10) → Mx.1 a i = M3.1 a i := fun a i h => by rw [← hMx, mI_at, if_neg h]
          have mx : Mx.2 = M3.2 := by rw [← hMx]; rfl
          have x10 : Mx.1 0 10 = nI G := by rw [← hMx]; rfl
          have fxa : ∀ a i, ¬ (a = 0 ∧ i = 10) → a ≠ 1 → a ≠ 2 → a ≠ 3 → (a < 13 ∨ 27 < a) → Mx.1 a i = Ma.1 a i := fun a i h1 h2 h3 h4 h5 => by rw [fx a i h1, x2 a h2 h3 h4 (by omega)]
          rw [hMx]
          refine a_callV (s_0 dy) rfl rfl rfl rfl (c_fillOn (ca := ca) hG4 x10 (by rw [mx, x1]; exact gr) hd l5 hr (s00_I _) (cD_ex2 (M := M3) (fun a i _ _ => fx a i (by omega)) (fun _ _ => by rw [mx]) y2) (cS_ex2 (M := M3) (fun a i _ => fx a i (by omega)) (fun _ _ _ => by rw [mx]) y3) ((fx 13 13 (by decide)).trans y4) (fun s hs => by rw [fxa _ _ (by omega) (by omega) (by omega) (by omega) (by omega)]; exact hca s hs) (fun Mb hb => ?_))
          refine a_iret rfl rfl rfl ?_
          refine ⟨_, dy, _, rfl, rfl, ?_⟩; refine e_intro rfl rfl ?_
          have hb' := hb
          obtain ⟨b1, b2, b3, b4, b5, b6, -, -, -, -⟩ := hb'
          obtain ⟨Mr, hMr⟩ : ∃ Mr, m_setI (m_setI Mb 65 19 0) 65 38 0 = Mr := ⟨_, rfl⟩
          have fr : ∀ a i, ¬ (a = 65 ∧ (i = 19 ∨ i = 38)) → Mr.1 a i = Mb.1 a i := fun a i h => by rw [← hMr, mI_at, if_neg (by omega), mI_at, if_neg (by omega)]
          have mr : Mr.2 = Mb.2 := by rw [← hMr]; rfl
          have fb : ∀ a i, a = 4 ∨ a = 6 ∨ 65 ≤ a → Mb.1 a i = Ma.1 a i := fun a i h => by rw [b2 a (by omega) (by omega) (by omega) (by omega) (by omega) (by omega), fxa a i (by omega) (by omega) (by omega) (by omega) (by omega)]
          have lb : ∀ a, a < 13 ∨ 27 < a → Mb.2.1 a = Ma.2.1 a := fun a h => by rw [b4 a (by omega), mx, x3 a (by omega)]
          have th2 : ¬ Mr.1 66 G = 0 := by rw [fr _ _ (by omega), fb _ _ (by omega), fa _ _ (by omega) (by omega)]; exact th
          have trr : mTr Mr s := mTr_ex (M := M) (fun a i h => by rw [fr _ _ (by omega), fb _ _ (by omega), fa _ _ (by omega) (by omega)]) hN.2.1
          refine x_opp rfl rfl ?_
          refine x_kcg rfl ?_
          refine a_putJ 19 (s_65 dy) rfl rfl rfl rfl ?_
          refine x_opp rfl rfl ?_
          refine a_callS rfl rfl rfl rfl (k_isGrid ?_)
          refine a_ifF rfl rfl br_eqz (by first | exact hg | exact nt_f hg | exact tnf hg | exact fnt hg | exact Int32.not_lt.mp hg | exact Int32.not_le.mp hg | exact Int32.not_lt.mpr hg | exact Int32.not_le.mpr hg) ?_
          refine x_opp rfl rfl ?_
          refine x_kcg rfl ?_
          refine x_kcg rfl ?_
          refine a_callS rfl rfl rfl rfl (k_in ?_)
          refine a_ifT rfl rfl br_nez (by first | exact hv | exact nt_f hv | exact tnf hv | exact fnt hv | exact Int32.not_lt.mp hv | exact Int32.not_le.mp hv | exact Int32.not_lt.mpr hv | exact Int32.not_le.mpr hv) ?_
          refine x_opp rfl rfl ?_
          refine x_kcg rfl ?_
          refine a_putJ 38 (s_65 dy) rfl rfl rfl rfl ?_
          refine x_opp rfl rfl ?_
          refine m_getg (s_65 dy) rfl rfl rfl ?_
          refine x_opp rfl rfl ?_
          rw [hMr]
          refine a_baldN (s_66 dy) (k := G) rfl rfl rfl (by omega) (by decide) ?_
          refine a_ifT rfl rfl br_ne (by first | exact th2 | exact nt_f th2 | exact tnf th2 | exact fnt th2 | exact Int32.not_lt.mp th2 | exact Int32.not_le.mp th2 | exact Int32.not_lt.mpr th2 | exact Int32.not_le.mpr th2) ?_
          refine x_opp rfl rfl ?_
          refine x_kcg rfl ?_
          refine x_opp rfl rfl ?_
          refine a_callV (s_65 dy) rfl rfl rfl rfl (k_beg (q := 0) (by decide) ga La hG4 (fun a i h => by rw [fr a i (by omega), fb a i (by omega)]) (fun a h => by rw [mr, lb a (by omega)]) (by rw [mr, b1, mx, x1]) trr d2 d4 d5 d6 hRR (by omega) (fun _ Mc w1 w2 w3 w4 w5 w6 => ?_) (fun q => absurd z q))
          refine a_ifF rfl rfl br_eq (by decide) ?_
          iterate 3 (refine x_opp rfl rfl ?_)
          refine a_callV (s_65 dy) rfl rfl rfl rfl (k_fillOn hG4 hd hin l5 hr (s00_I _) w2 w3 (fun Md he => ?_))
          refine x_go rfl ?_
          refine a_iret rfl rfl rfl ?_
          refine ⟨rfl, _, rfl, ?_⟩
          have he' := he
          obtain ⟨k1, k2, k3, -⟩ := he'
          obtain ⟨v1, v2, v3, v4, -⟩ := w1
          have fc : ∀ a i, a ≤ 64 ∨ (66 ≤ a ∧ a ≤ 84) ∨ 109 ≤ a ∨ (a = 65 ∧ (i = 9 ∨ i = 23 ∨ 53 ≤ i)) → Mc.1 a i = Mb.1 a i := fun a i h => by
            by_cases q : a = 65
            · subst q
              rw [v3 i (by omega) (by omega) (by omega) (by omega), fr _ _ (by omega)]
            · rw [v2 a (by omega), fr _ _ (by omega)]
          have c19 : Mc.1 65 19 = 0 := by rw [v3 19 (by decide) (by decide) (by decide) (by decide), ← hMr]; rfl
          have f64 : ∀ a i, a = 1 ∨ a = 2 ∨ a = 3 → Md.1 a i = M3.1 a i := fun a i h => by
            rw [k2 a (by omega) (by omega) (by omega) (by omega) (by omega) (by omega), fc a i (by omega), b2 a (by omega) (by omega) (by omega) (by omega) (by omega) (by omega), fx a i (by omega)]
          have rn : rN Md (t + 1) (trc s R.1) := by
            refine ⟨cTr_ex (fun a i h => f64 a i (by omega)) y6, mTr_ex (fun a i h => ?_) w6, ?_, fun i hi => ?_, by rw [trc_len]; omega⟩
            · by_cases q : a = 65
              · subst q; rw [k3 i (by omega) (by omega) (by omega) (by omega)]
              · rw [k2 a q (by omega) (by omega) (by omega) (by omega) (by omega)]
            · rw [f64 _ _ (by omega), x4, k3 19 (by decide) (by decide) (by decide) (by decide), c19]
              rfl
            · rw [f64 _ _ (by omega), x5, if_pos rfl, k2 84 (by decide) (by decide) (by decide) (by decide) (by decide) (by decide), fc _ _ (by omega), fb _ _ (by omega), fa _ _ (by omega) (by omega), fa _ _ (by omega) (by omega)]
              exact hN.2.2.2.1 i hi
          exact R_fo (M := Ma) (Ma := Mx) (Mb := Mb) (Mc := Mc) ga La Qa rn hG4 hca (fun a i h => fxa a i (by omega) (by omega) (by omega) (by omega) (by omega)) (fun a h => by rw [mx, x3 a (by omega)]) (by rw [mx, x1]) x10 hb (fun a i h => fc a i (by omega)) (fun a h => by rw [v4 a (by omega) (by omega) (by omega) (by omega), mr]) (by rw [v1, mr]) hd hin (by rw [fx _ _ (by omega), y5, w4]) (fun x hx _ => by have := w5 x hx; rw [Nat.mul_zero, Nat.zero_add] at this; exact this) he
        · refine x_opp rfl rfl ?_
          refine m_getg (s_0 dy) rfl rfl rfl ?_
          refine a_callV (s_1 dy) rfl rfl rfl rfl (c_clear (s_1 dy) ?_)
          refine x_opp rfl rfl ?_
          refine a_callS rfl rfl rfl rfl (c_isGridNumber ?_)
          rw [hM1]
          refine a_ifF rfl rfl br_eqz (by first | exact hg | exact nt_f hg | exact tnf hg | exact fnt hg | exact Int32.not_lt.mp hg | exact Int32.not_le.mp hg | exact Int32.not_lt.mpr hg | exact Int32.not_le.mpr hg) ?_
          refine x_opp rfl rfl ?_
          refine a_callS rfl rfl rfl rfl (c_isStepNumber ?_)
          refine a_ifT rfl rfl br_nez (by first | exact hv | exact nt_f hv | exact tnf hv | exact fnt hv | exact Int32.not_lt.mp hv | exact Int32.not_le.mp hv | exact Int32.not_lt.mpr hv | exact Int32.not_le.mpr hv) ?_
          refine x_opp rfl rfl ?_
          refine x_kcg rfl ?_
          refine a_putJ 11 (s_0 dy) rfl rfl rfl rfl ?_
          refine x_opp rfl rfl ?_
          refine m_getg (s_0 dy) rfl rfl rfl ?_
          refine x_opp rfl rfl ?_
          rw [hMa]
          refine a_gr hG4 rfl rfl gr ?_
          refine m_getg sg rfl rfl rfl ?_
          refine a_ifT rfl rfl br_ne (by first | exact th1 | exact nt_f th1 | exact tnf th1 | exact fnt th1 | exact Int32.not_lt.mp th1 | exact Int32.not_le.mp th1 | exact Int32.not_lt.mpr th1 | exact Int32.not_le.mpr th1) ?_
          refine x_opp rfl rfl ?_
          refine m_getg (s_0 dy) rfl rfl rfl ?_
          refine x_opp rfl rfl ?_
          refine m_getg (s_0 dy) rfl rfl rfl ?_
          refine x_opp rfl rfl ?_
          refine a_gr hG4 rfl rfl gr ?_
          refine a_callV (s_13 dy) rfl rfl rfl rfl (c_gat (Or.inl rfl) ga La hG4 tra h5a d1 d3 d5 d6 hRR (fun q => absurd q z) (fun _ M3 y1 y6 => ?_))
          refine a_ifF rfl rfl br_ne (by decide) ?_
          refine x_opp rfl rfl ?_
          refine m_getg (s_0 dy) rfl rfl rfl ?_
          refine a_callV (s_1 dy) rfl rfl rfl rfl (c_answer (s_1 dy) ?_)
          rw [y1.2.2.2.1]
          refine a_iret rfl rfl rfl ?_
          have y1' := y1
          obtain ⟨x1, x2, x3, x4, x5⟩ := y1'
          refine ⟨_, dy, _, rfl, rfl, ?_⟩; refine e_intro rfl rfl ?_
          obtain ⟨Mr, hMr⟩ : ∃ Mr, m_setI (m_setI M3 65 19 0) 65 38 0 = Mr := ⟨_, rfl⟩
          have fr : ∀ a i, ¬ (a = 65 ∧ (i = 19 ∨ i = 38)) → Mr.1 a i = M3.1 a i := fun a i h => by rw [← hMr, mI_at, if_neg (by omega), mI_at, if_neg (by omega)]
          have mr : Mr.2 = M3.2 := by rw [← hMr]; rfl
          have fb : ∀ a i, a = 4 ∨ a = 6 ∨ 28 ≤ a → M3.1 a i = Ma.1 a i := fun a i h => by rw [x2 a (by omega) (by omega) (by omega) (by omega)]
          have th2 : ¬ Mr.1 66 G = 0 := by rw [fr _ _ (by omega), fb _ _ (by omega), fa _ _ (by omega) (by omega)]; exact th
          have trr : mTr Mr s := mTr_ex (M := M) (fun a i h => by rw [fr _ _ (by omega), fb _ _ (by omega), fa _ _ (by omega) (by omega)]) hN.2.1
          refine x_opp rfl rfl ?_
          refine x_kcg rfl ?_
          refine a_putJ 19 (s_65 dy) rfl rfl rfl rfl ?_
          refine x_opp rfl rfl ?_
          refine a_callS rfl rfl rfl rfl (k_isGrid ?_)
          refine a_ifF rfl rfl br_eqz (by first | exact hg | exact nt_f hg | exact tnf hg | exact fnt hg | exact Int32.not_lt.mp hg | exact Int32.not_le.mp hg | exact Int32.not_lt.mpr hg | exact Int32.not_le.mpr hg) ?_
          refine x_opp rfl rfl ?_
          refine x_kcg rfl ?_
          refine x_kcg rfl ?_
          refine a_callS rfl rfl rfl rfl (k_in ?_)
          refine a_ifT rfl rfl br_nez (by first | exact hv | exact nt_f hv | exact tnf hv | exact fnt hv | exact Int32.not_lt.mp hv | exact Int32.not_le.mp hv | exact Int32.not_lt.mpr hv | exact Int32.not_le.mpr hv) ?_
          refine x_opp rfl rfl ?_
          refine x_kcg rfl ?_
          refine a_putJ 38 (s_65 dy) rfl rfl rfl rfl ?_
          refine x_opp rfl rfl ?_
          refine m_getg (s_65 dy) rfl rfl rfl ?_
          refine x_opp rfl rfl ?_
          rw [hMr]
          refine a_baldN (s_66 dy) (k := G) rfl rfl rfl (by omega) (by decide) ?_
          refine a_ifT rfl rfl br_ne (by first | exact th2 | exact nt_f th2 | exact tnf th2 | exact fnt th2 | exact Int32.not_lt.mp th2 | exact Int32.not_le.mp th2 | exact Int32.not_lt.mpr th2 | exact Int32.not_le.mpr th2) ?_
          refine x_opp rfl rfl ?_
          refine x_kcg rfl ?_
          refine x_opp rfl rfl ?_
          refine a_callV (s_65 dy) rfl rfl rfl rfl (k_beg (q := 0) (by decide) ga La hG4 (fun a i h => by rw [fr a i (by omega), fb a i (by omega)]) (fun a h => by rw [mr, x3 a (by omega)]) (by rw [mr, x1]) trr d2 d4 d5 d6 hRR (by omega) (fun q => absurd q z) (fun _ Mc w1 w6 w31 => ?_))
          refine a_ifT rfl rfl br_eq (by decide) ?_
          refine x_opp rfl rfl ?_
          refine x_opp rfl rfl ?_
          refine m_getg (s_65 dy) rfl rfl rfl ?_
          rw [w31]
          refine a_callV (s_65 dy) rfl rfl rfl rfl (k_met (vp_in_nI (n := R.2.1) (by omega) (by decide)) ?_)
          refine x_go rfl ?_
          refine a_iret rfl rfl rfl ?_
          refine ⟨rfl, _, rfl, ?_⟩
          have rn := rN_gf (b := 13) hN (funext fun i => fa 3 i (by omega) (by omega)) y1 y6 len (fun a i h => fr a i (by omega)) (fun i => by rw [fr _ _ (by omega), fb _ _ (by omega), fa _ _ (by omega) (by omega)]) w1 w6 (by omega) z
          obtain ⟨v1, v2, v3, v4, -⟩ := w1
          have fm : ∀ a i, ¬ (a = 65 ∧ i = 19) → a ≠ 84 → (mMet Mc (nI R.2.1)).1 a i = Mc.1 a i := fun a i p1 p2 => by
            unfold mMet
            rw [mI_at, if_neg (by omega), mI_at, if_neg (by omega)]
          have fz : ∀ a i, (a = 0 ∧ i ≠ 5) ∨ a = 4 ∨ a = 6 ∨ (44 ≤ a ∧ a ≤ 64) ∨ (66 ≤ a ∧ a ≤ 83) ∨ 114 ≤ a ∨ (a = 65 ∧ (i = 9 ∨ i = 23 ∨ 53 ≤ i)) → (mMet Mc (nI R.2.1)).1 a i = Ma.1 a i := fun a i h => by
            rw [fm a i (by omega) (by omega)]
            by_cases q : a = 65
            · subst q
              rw [v3 i (by omega) (by omega) (by omega) (by omega), fr _ _ (by omega), fb _ _ (by omega)]
            · rw [v2 a (by omega), fr _ _ (by omega), x2 a (by omega) (by omega) (by omega) (by omega)]
          refine R_x (M := Ma) ga La Qa rn (rS_0 ?_ ?_) (fun a i h => fz a i (by omega)) (fun a h => ?_) ?_
          · rw [fz 0 11 (by omega), ← hMa]
            rfl
          · rw [fm _ _ (by omega) (by omega), v3 38 (by decide) (by decide) (by decide) (by decide), ← hMr]
            rfl
          · show Mc.2.1 a = _
            rw [v4 a (by omega) (by omega) (by omega) (by omega), mr, x3 a (by omega)]
          · show Mc.2.2 = _
            rw [v1, mr, x1]
    · refine x_opp rfl rfl ?_
      refine m_getg (s_0 dy) rfl rfl rfl ?_
      refine a_callV (s_1 dy) rfl rfl rfl rfl (c_clear (s_1 dy) ?_)
      refine x_opp rfl rfl ?_
      refine a_callS rfl rfl rfl rfl (c_isGridNumber ?_)
      rw [hM1]
      refine a_ifF rfl rfl br_eqz (by first | exact hg | exact nt_f hg | exact tnf hg | exact fnt hg | exact Int32.not_lt.mp hg | exact Int32.not_le.mp hg | exact Int32.not_lt.mpr hg | exact Int32.not_le.mpr hg) ?_
      refine x_opp rfl rfl ?_
      refine a_callS rfl rfl rfl rfl (c_isStepNumber ?_)
      refine a_ifF rfl rfl br_nez (by first | exact hv | exact nt_f hv | exact tnf hv | exact fnt hv | exact Int32.not_lt.mp hv | exact Int32.not_le.mp hv | exact Int32.not_lt.mpr hv | exact Int32.not_le.mpr hv) ?_
      refine x_kcg rfl ?_
      refine a_iret rfl rfl rfl ?_
      refine ⟨_, dy, _, rfl, rfl, ?_⟩; refine e_intro rfl rfl ?_
      refine x_opp rfl rfl ?_
      refine x_kcg rfl ?_
      refine a_putJ 19 (s_65 dy) rfl rfl rfl rfl ?_
      refine x_opp rfl rfl ?_
      refine a_callS rfl rfl rfl rfl (k_isGrid ?_)
      rw [hM2]
      refine a_ifF rfl rfl br_eqz (by first | exact hg | exact nt_f hg | exact tnf hg | exact fnt hg | exact Int32.not_lt.mp hg | exact Int32.not_le.mp hg | exact Int32.not_lt.mpr hg | exact Int32.not_le.mpr hg) ?_
      refine x_opp rfl rfl ?_
      refine x_kcg rfl ?_
      refine x_kcg rfl ?_
      refine a_callS rfl rfl rfl rfl (k_in ?_)
      refine a_ifF rfl rfl br_nez (by first | exact hv | exact nt_f hv | exact tnf hv | exact fnt hv | exact Int32.not_lt.mp hv | exact Int32.not_le.mp hv | exact Int32.not_lt.mpr hv | exact Int32.not_le.mpr hv) ?_
      refine x_kcg rfl ?_
      refine a_iret rfl rfl rfl ?_
      subst hM2; subst hM1; exact ⟨rfl, _, rfl, R_cl hR⟩
  · refine x_opp rfl rfl ?_
    refine m_getg (s_0 dy) rfl rfl rfl ?_
    refine a_callV (s_1 dy) rfl rfl rfl rfl (c_clear (s_1 dy) ?_)
    refine x_opp rfl rfl ?_
    refine a_callS rfl rfl rfl rfl (c_isGridNumber ?_)
    rw [hM1]
    refine a_ifT rfl rfl br_eqz (by first | exact hg | exact nt_f hg | exact tnf hg | exact fnt hg | exact Int32.not_lt.mp hg | exact Int32.not_le.mp hg | exact Int32.not_lt.mpr hg | exact Int32.not_le.mpr hg) ?_
    refine x_kcg rfl ?_
    refine a_iret rfl rfl rfl ?_
    refine ⟨_, dy, _, rfl, rfl, ?_⟩; refine e_intro rfl rfl ?_
    refine x_opp rfl rfl ?_
    refine x_kcg rfl ?_
    refine a_putJ 19 (s_65 dy) rfl rfl rfl rfl ?_
    refine x_opp rfl rfl ?_
    refine a_callS rfl rfl rfl rfl (k_isGrid ?_)
    rw [hM2]
    refine a_ifT rfl rfl br_eqz (by first | exact hg | exact nt_f hg | exact tnf hg | exact fnt hg | exact Int32.not_lt.mp hg | exact Int32.not_le.mp hg | exact Int32.not_lt.mpr hg | exact Int32.not_le.mpr hg) ?_
    refine x_kcg rfl ?_
    refine a_iret rfl rfl rfl ?_
    subst hM2; subst hM1; exact ⟨rfl, _, rfl, R_cl hR⟩
end FI
