/-! pairs: a row is cut -/
theorem cl_mono {v x : Int32} (h : v ≤ x) : v.toNatClampNeg ≤ x.toNatClampNeg := by
  rw [Int32.le_iff_toInt_le] at h
  show v.toInt.toNat ≤ x.toInt.toNat
  omega
/-- the length of one row has changed, on both sides -/
theorem rG_len {M M' : mm_T} {n G i0 : Nat} {v : Int32} (h : rG M n) (hG : G < 4) (hi : i0 < 7) (hH : ∀ H, H ≤ 7 → M.1 67 G = nI H → i0 < H) (fr : ∀ a i, (45 ≤ a ∧ a ≤ 64 ∧ (a - 45) % 5 < 3) ∨ (66 ≤ a ∧ a ≤ 74) → ¬ (a = 47 + 5 * G ∧ i = i0) → ¬ (a = 69 ∧ i = 7 * G + i0) → M'.1 a i = M.1 a i) (h2 : M'.2.2 7 = M.2.2 7)
    (k1 : M'.1 (47 + 5 * G) i0 = v) (k2 : M'.1 69 (7 * G + i0) = v) (k3 : -1 ≤ v) (k4 : v ≤ mL M G i0) : rG M' n := by
  obtain ⟨g1, g2, g3⟩ := h
  refine ⟨fun s hs => ?_, fun K hK => by rw [h2]; exact g2 K hK, fun K hK => ?_⟩
  · rw [fr 70 s (by omega) (by omega) (by omega), fr 71 s (by omega) (by omega) (by omega), fr 72 s (by omega) (by omega) (by omega)]
    exact g1 s hs
  · by_cases e : K = G
    · subst e
      obtain ⟨⟨a1, a2⟩, ⟨H, W, b1, b2, b3, b4, b5, b6, b7, b8, b9⟩, c1, ⟨al, dl, d1, d2, d3, d4, d5, d6⟩⟩ := g3 K hK
      have eL : ∀ i, i ≠ i0 → mL M' K i = mL M K i := fun i hi => fr 69 _ (by omega) (by omega) (by omega)
      have e0 : mL M' K i0 = v := k2
      have lc : ∀ i, (mL M' K i).toNatClampNeg ≤ (mL M K i).toNatClampNeg := by
        intro i
        by_cases q : i = i0
        · subst q; rw [e0]; exact cl_mono k4
        · rw [eL i q]; exact Nat.le_refl _
      have l7 : ∀ i, i < 7 → (mL M K i).toNatClampNeg ≤ 7 := fun i hi => ln_cl (b7 i hi).2.1 (Int32.le_trans (b7 i hi).2.2.1 (nI_le (b := 7) b2 (by decide)))
      refine ⟨⟨?_, ?_⟩, ⟨H, W, b1, b2, ?_, ?_, ?_, ?_, fun i hi => ?_, fun i j hi hj => ?_, fun i hi hj hw => ?_⟩, fun s hs => ?_, ⟨al, dl, ?_, ?_, ?_, ?_, d5, d6⟩⟩
      · rw [fr _ _ (by omega) (by omega) (by omega), fr _ _ (by omega) (by omega) (by omega)]; exact a1
      · rw [fr _ _ (by omega) (by omega) (by omega)]; exact a2
      · rw [fr _ _ (by omega) (by omega) (by omega)]; exact b3
      · rw [fr _ _ (by omega) (by omega) (by omega)]; exact b4
      · rw [fr _ _ (by omega) (by omega) (by omega)]; exact b5
      · rw [fr _ _ (by omega) (by omega) (by omega)]; exact b6
      · by_cases q : i = i0
        · subst q
          rw [k1, e0]
          exact ⟨rfl, k3, Int32.le_trans k4 (b7 i hi).2.2.1, fun hx => absurd (hH H b1 b4) (by omega)⟩
        · rw [fr _ _ (by omega) (by omega) (by omega), eL i q]; exact b7 i hi
      · have := lc i
        have := l7 i (by omega)
        unfold mC tld
        rw [fr _ _ (by omega) (by omega) (by omega), fr 70 _ (by omega) (by omega) (by omega), fr 71 _ (by omega) (by omega) (by omega), fr 72 _ (by omega) (by omega) (by omega)]
        exact b8 i j hi (by omega)
      · have := lc i
        rw [fr 71 _ (by omega) (by omega) (by omega)]; exact b9 i hi (by omega) hw
      · rw [fr _ _ (by omega) (by omega) (by omega)]; exact c1 s hs
      · rw [fr _ _ (by omega) (by omega) (by omega)]; exact d1
      · rw [fr _ _ (by omega) (by omega) (by omega)]; exact d2
      · rw [fr _ _ (by omega) (by omega) (by omega)]; exact d3
      · rw [fr _ _ (by omega) (by omega) (by omega)]; exact d4
    · exact rg_fr (Nat.le_refl n) (fun a i x y => fr a i (by omega) (by omega) (by omega)) (fun a x => fr a K (by omega) (by omega) (by omega)) (fun i _ => fr 69 _ (by omega) (by omega) (by omega)) (fun a s x y _ => fr a _ (by omega) (by omega) (by omega)) (g3 K hK)
section PG
variable {L : Nat} {xs : Nat → Int32} {t d : Nat} {dy : List sh_T} {M : mm_T} {Q : Option Value → sm_W → Prop} {n G : Nat}
theorem R_cut {M' : mm_T} {s : Nat × (Nat → Int32)} {E : Nat → lT} {P w : Nat → Nat} {i : Nat} {v : Int32} (hN : rN M t s) (hL : rL dy M E P w n) (hQ : rQ M) (hg : rG M n) (hG : G < 4) (hi : ∀ H, H ≤ 7 → M.1 67 G = nI H → i < H) (i7 : i < 7) (k3 : -1 ≤ v) (k4 : v ≤ mL M G i)
    (e : M' = m_setI (m_setI (m_setI (m_setI (m_setI (m_setI M 1 5 0) (47 + 5 * G) i v) 0 11 0) 65 19 0) 69 (7 * G + i) v) 65 38 0) : rR (t + 1) dy M' := by
  refine R_g hN hL hQ (rG_len (i0 := i) (v := v) hg hG i7 hi (fun a i h x y => by subst e; repeat (first | rw [mI_at, if_neg (by omega)])) (by rw [e]; rfl) (by subst e; (repeat (first | rw [mI_at, if_neg (by omega)] | rw [mI_at, if_pos ⟨rfl, rfl⟩] | rw [mA_at, if_neg (by omega)] | rw [mA_at, if_pos rfl] | rw [mL_1] | rw [mR_1]))) (by subst e; (repeat (first | rw [mI_at, if_neg (by omega)] | rw [mI_at, if_pos ⟨rfl, rfl⟩] | rw [mA_at, if_neg (by omega)] | rw [mA_at, if_pos rfl] | rw [mL_1] | rw [mR_1]))) k3 k4) (by subst e; exact (fun a i h => by repeat (first | rw [mI_at, if_neg (by omega)] | rw [mA_at, if_neg (by omega)] | rw [mL_1] | rw [mR_1]))) (by rw [e]; rfl) (by rw [e]; rfl) (by subst e; (repeat (first | rw [mI_at, if_neg (by omega)] | rw [mI_at, if_pos ⟨rfl, rfl⟩] | rw [mA_at, if_neg (by omega)] | rw [mA_at, if_pos rfl] | rw [mL_1] | rw [mR_1]))) (by subst e; (repeat (first | rw [mI_at, if_neg (by omega)] | rw [mI_at, if_pos ⟨rfl, rfl⟩] | rw [mA_at, if_neg (by omega)] | rw [mA_at, if_pos rfl] | rw [mL_1] | rw [mR_1]))) (by subst e; (repeat (first | rw [mI_at, if_neg (by omega)] | rw [mI_at, if_pos ⟨rfl, rfl⟩] | rw [mA_at, if_neg (by omega)] | rw [mA_at, if_pos rfl] | rw [mL_1] | rw [mR_1])))
/-- the finding of a row, and how both come to it -/
theorem rr_1 {r : Int32} (h : M.1 66 G = 0) : rr M G r = nI 1 := by
  unfold rr gRR
  rw [if_neg (fun g => g h)]
  rfl
theorem rr_2 {r : Int32} (h : ¬ M.1 66 G = 0) (hr : ¬ gRow (M.1 67 G) r = true) : rr M G r = nI 2 := by
  unfold rr gRR
  rw [if_pos h, if_neg hr]
  rfl
theorem rr_3 {i : Nat} (h : ¬ M.1 66 G = 0) (hr : gRow (M.1 67 G) (nI i) = true) (hi : i < 7) (hl : ¬ 0 ≤ mL M G i) : rr M G (nI i) = nI 1 := by
  unfold rr gRR
  rw [if_pos h, if_pos hr, nI_clamp (by omega), if_neg hl]
  rfl
theorem rr_4 {i : Nat} (h : ¬ M.1 66 G = 0) (hr : gRow (M.1 67 G) (nI i) = true) (hi : i < 7) (hl : 0 ≤ mL M G i) : rr M G (nI i) = 0 := by
  unfold rr gRR
  rw [if_pos h, if_pos hr, nI_clamp (by omega), if_pos hl]
theorem k_rowOf2 {i : Nat} {v : Int32} (hG : G < 4) (hi : i < 7) (hv : mL M G i = v) (hq : Q (some (.int v)) (wm (sh0 ++ dy) M)) : sm_E L xs (d + 1) 154 [.ref 65, .int (nI G), .int (nI i)] (wm (sh0 ++ dy) M) Q := k_rowOf hG hi (by rw [hv]; exact hq)
set_option maxRecDepth 4000 in
theorem p_cut {g r c : Int32} (h : rR t dy M) : pr L xs t dy M 14 153 [.int g, .int r, .int c] := by
  have hR := h; obtain ⟨s, E, P, w, n, hG, hN, hL, hS, hQ⟩ := h; have z0 : (0 : Int32) = 0 := rfl; have z1 : (0 : Int32) ≤ 0 := (by decide); have z11 : ¬ (1 : Int32) = 0 := (by decide); have z12 : ¬ (1 : Int32) ≤ 0 := (by decide); obtain ⟨M1, hM1⟩ : ∃ M1, m_setI M 1 5 0 = M1 := ⟨_, rfl⟩; have g1 : rG M1 n := hM1 ▸ rG_c hG; obtain ⟨M2, hM2⟩ : ∃ M2, m_setI M1 65 19 0 = M2 := ⟨_, rfl⟩; have g2 : rG M2 n := hM2 ▸ rG_z g1
  unfold pr; refine e_intro rfl rfl ?_
  by_cases hg : gRow 4 g = true
  · obtain ⟨G, hG4, rfl⟩ := gRow4 hg
    have hgr := g1.2.1 G hG4; obtain ⟨sg, sc, sl, ssp, sre, sne⟩ := gsh_at dy G hG4
    by_cases hv : -1 ≤ c
    · obtain ⟨H, W, b1, b2, b3, b4, b5, b6, gk, mk, v1, v2, a1, a2⟩ := rG_v g1 hG4
      have l7 := v2.1
      have z1 : ∀ k, k < 6 → vp_in (nI k) 6 := fun k hk => vp_in_nI hk (by decide)
      obtain ⟨MF, hMF⟩ : ∃ MF : Nat → mm_T, (fun k => m_setI (nFind M1 1 3 (nI k)) 65 19 0) = MF := ⟨_, rfl⟩
      have fF : ∀ k a i, 66 ≤ a → a ≤ 69 → (MF k).1 a i = M1.1 a i := by
        intro k a i x y
        subst hMF
        dsimp only
        unfold nFind
        repeat (first | rw [mI_at, if_neg (by omega)])
      have h0 : ∀ k, 0 ≤ (MF k).1 67 G := fun k => by rw [fF k _ _ (by decide) (by decide)]; exact mk.1.1
      by_cases th : M1.1 66 G = 0
      · have e1 : rr M1 G r = nI 1 := rr_1 th
        have t2 : (MF 1).1 66 G = 0 := by rw [fF 1 _ _ (by decide) (by decide)]; exact th
        refine x_opp rfl rfl ?_
        refine m_getg (s_0 dy) rfl rfl rfl ?_
        refine a_callV (s_1 dy) rfl rfl rfl rfl (c_clear (s_1 dy) ?_)
        refine x_opp rfl rfl ?_
        refine a_callS rfl rfl rfl rfl (c_isGridNumber ?_)
        rw [hM1]
        refine a_ifF rfl rfl br_eqz (by first | exact hg | exact nt_f hg | exact tnf hg | exact fnt hg | exact Int32.not_lt.mp hg | exact Int32.not_le.mp hg | exact Int32.not_lt.mpr hg | exact Int32.not_le.mpr hg) ?_
        refine x_opp rfl rfl ?_
        refine x_kcg rfl ?_
        refine a_icT rfl rfl br_ge (by first | exact hv | exact nt_f hv | exact tnf hv | exact fnt hv | exact Int32.not_lt.mp hv | exact Int32.not_le.mp hv | exact Int32.not_lt.mpr hv | exact Int32.not_le.mpr hv) ?_
        refine x_opp rfl rfl ?_
        refine m_getg (s_0 dy) rfl rfl rfl ?_
        refine x_opp rfl rfl ?_
        refine a_gr hG4 rfl rfl hgr ?_
        iterate 3 (refine x_opp rfl rfl ?_)
        refine a_callV sg rfl rfl rfl rfl (c_rr hG4 g1 ?_)
        rw [e1]
        refine x_opp rfl rfl ?_
        refine x_opp rfl rfl ?_
        refine a_ifF rfl rfl br_eq (by decide) ?_
        refine x_opp rfl rfl ?_
        refine m_getg (s_0 dy) rfl rfl rfl ?_
        refine x_opp rfl rfl ?_
        refine a_callV (s_1 dy) rfl rfl rfl rfl (c_find (s_1 dy) (s_3 dy) (by decide) (z1 1 (by decide)) ?_)
        refine a_iret rfl rfl rfl ?_
        refine ⟨_, dy, _, rfl, rfl, ?_⟩; refine e_intro rfl rfl ?_
        refine x_opp rfl rfl ?_
        refine x_kcg rfl ?_
        refine a_putJ 19 (s_65 dy) rfl rfl rfl rfl ?_
        refine x_opp rfl rfl ?_
        refine a_callS rfl rfl rfl rfl (k_isGrid ?_)
        rw [show m_setI (nFind M1 1 3 (nI 1)) 65 19 0 = MF 1 from congrFun hMF 1]
        refine a_ifF rfl rfl br_eqz (by first | exact hg | exact nt_f hg | exact tnf hg | exact fnt hg | exact Int32.not_lt.mp hg | exact Int32.not_le.mp hg | exact Int32.not_lt.mpr hg | exact Int32.not_le.mpr hg) ?_
        refine x_opp rfl rfl ?_
        refine x_kcg rfl ?_
        refine a_icT rfl rfl br_ge (by first | exact hv | exact nt_f hv | exact tnf hv | exact fnt hv | exact Int32.not_lt.mp hv | exact Int32.not_le.mp hv | exact Int32.not_lt.mpr hv | exact Int32.not_le.mpr hv) ?_
        refine x_opp rfl rfl ?_
        refine m_getg (s_65 dy) rfl rfl rfl ?_
        refine x_opp rfl rfl ?_
        refine a_baldN (s_66 dy) (k := G) rfl rfl rfl (by omega) (by decide) ?_
        rw [t2]
        refine a_ifF rfl rfl br_ne (by decide) ?_
        refine x_opp rfl rfl ?_
        refine x_kcg rfl ?_
        refine a_callV (s_65 dy) rfl rfl rfl rfl (k_met (z1 1 (by decide)) ?_)
        refine a_iret rfl rfl rfl ?_
        subst hMF
        subst hM1
        exact ⟨rfl, _, rfl, R_fd (k := 1) (by decide) hR⟩
      · by_cases hr : gRow (M1.1 67 G) r = true
        · obtain ⟨i, i7, rfl⟩ := gRow_t hr (by rw [b4]; exact nI_le (b := 7) b1 (by decide))
          have iH : i < H := by rw [b4, gRow_vis b1 (by omega)] at hr; exact of_decide_eq_true hr
          have hl1 : M1.1 (47 + 5 * G) i = mL M1 G i := l7 i i7
          by_cases hl : 0 ≤ mL M1 G i
          · have e1 := rr_4 th hr i7 hl
            by_cases hn : c ≤ mL M1 G i
            · refine x_opp rfl rfl ?_
              refine m_getg (s_0 dy) rfl rfl rfl ?_
              refine a_callV (s_1 dy) rfl rfl rfl rfl (c_clear (s_1 dy) ?_)
              refine x_opp rfl rfl ?_
              refine a_callS rfl rfl rfl rfl (c_isGridNumber ?_)
              rw [hM1]
              refine a_ifF rfl rfl br_eqz (by first | exact hg | exact nt_f hg | exact tnf hg | exact fnt hg | exact Int32.not_lt.mp hg | exact Int32.not_le.mp hg | exact Int32.not_lt.mpr hg | exact Int32.not_le.mpr hg) ?_
              refine x_opp rfl rfl ?_
              refine x_kcg rfl ?_
              refine a_icT rfl rfl br_ge (by first | exact hv | exact nt_f hv | exact tnf hv | exact fnt hv | exact Int32.not_lt.mp hv | exact Int32.not_le.mp hv | exact Int32.not_lt.mpr hv | exact Int32.not_le.mpr hv) ?_
              refine x_opp rfl rfl ?_
              refine m_getg (s_0 dy) rfl rfl rfl ?_
              refine x_opp rfl rfl ?_
              refine a_gr hG4 rfl rfl hgr ?_
              iterate 3 (refine x_opp rfl rfl ?_)
              refine a_callV sg rfl rfl rfl rfl (c_rr hG4 g1 ?_)
              rw [e1]
              refine x_opp rfl rfl ?_
              refine x_opp rfl rfl ?_
              refine a_ifT rfl rfl br_eq (by decide) ?_
              refine x_opp rfl rfl ?_
              refine m_getg sg rfl rfl rfl ?_
              refine x_opp rfl rfl ?_
              refine a_ialdN sl (k := i) rfl rfl rfl (by omega) (by decide) ?_
              iterate 3 (refine x_opp rfl rfl ?_)
              rw [hl1]
              refine a_icT rfl rfl br_le (by first | exact hn | exact nt_f hn | exact tnf hn | exact fnt hn | exact Int32.not_lt.mp hn | exact Int32.not_le.mp hn | exact Int32.not_lt.mpr hn | exact Int32.not_le.mpr hn) ?_
              refine x_opp rfl rfl ?_
              refine m_getg sg rfl rfl rfl ?_
              refine x_opp rfl rfl ?_
              refine x_opp rfl rfl ?_
              refine a_iastN sl (k := i) rfl rfl rfl (by omega) (by decide) ?_
              refine x_opp rfl rfl ?_
              refine x_kcg rfl ?_
              refine a_putJ 11 (s_0 dy) rfl rfl rfl rfl ?_
              refine x_opp rfl rfl ?_
              refine a_iret rfl rfl rfl ?_
              obtain ⟨M3, hM3⟩ : ∃ M3, m_setI (m_setI M1 (47 + 5 * G) i c) 0 11 0 = M3 := ⟨_, rfl⟩
              rw [hM3]
              refine ⟨_, dy, _, rfl, rfl, ?_⟩; refine e_intro rfl rfl ?_
              obtain ⟨M4, hM4⟩ : ∃ M4, m_setI M3 65 19 0 = M4 := ⟨_, rfl⟩
              have f4 : ∀ a i, 66 ≤ a → a ≤ 69 → M4.1 a i = M1.1 a i := fun a i x y => by rw [← hM4, ← hM3]; repeat (first | rw [mI_at, if_neg (by omega)])
              have t4 : ¬ M4.1 66 G = 0 := by rw [f4 _ _ (by decide) (by decide)]; exact th
              have r4 : gRow (M4.1 67 G) (nI i) = true := by rw [f4 _ _ (by decide) (by decide)]; exact hr
              have h4 : 0 ≤ M4.1 67 G := by rw [f4 _ _ (by decide) (by decide)]; exact mk.1.1
              have m4 : mL M4 G i = mL M1 G i := f4 69 _ (by decide) (by decide)
              refine x_opp rfl rfl ?_
              refine x_kcg rfl ?_
              refine a_putJ 19 (s_65 dy) rfl rfl rfl rfl ?_
              refine x_opp rfl rfl ?_
              refine a_callS rfl rfl rfl rfl (k_isGrid ?_)
              rw [hM4]
              refine a_ifF rfl rfl br_eqz (by first | exact hg | exact nt_f hg | exact tnf hg | exact fnt hg | exact Int32.not_lt.mp hg | exact Int32.not_le.mp hg | exact Int32.not_lt.mpr hg | exact Int32.not_le.mpr hg) ?_
              refine x_opp rfl rfl ?_
              refine x_kcg rfl ?_
              refine a_icT rfl rfl br_ge (by first | exact hv | exact nt_f hv | exact tnf hv | exact fnt hv | exact Int32.not_lt.mp hv | exact Int32.not_le.mp hv | exact Int32.not_lt.mpr hv | exact Int32.not_le.mpr hv) ?_
              refine x_opp rfl rfl ?_
              refine m_getg (s_65 dy) rfl rfl rfl ?_
              refine x_opp rfl rfl ?_
              refine a_baldN (s_66 dy) (k := G) rfl rfl rfl (by omega) (by decide) ?_
              refine a_ifT rfl rfl br_ne (by first | exact t4 | exact nt_f t4 | exact tnf t4 | exact fnt t4 | exact Int32.not_lt.mp t4 | exact Int32.not_le.mp t4 | exact Int32.not_lt.mpr t4 | exact Int32.not_le.mpr t4) ?_
              refine x_opp rfl rfl ?_
              refine x_kcg rfl ?_
              refine x_opp rfl rfl ?_
              refine m_getg (s_65 dy) rfl rfl rfl ?_
              refine x_opp rfl rfl ?_
              refine a_ialdN (s_67 dy) (k := G) rfl rfl rfl (by omega) (by decide) ?_
              refine x_kcg rfl ?_
              refine x_opp rfl rfl ?_
              refine a_callS rfl rfl rfl rfl (k_inRow h4 ?_)
              refine a_ifT rfl rfl br_nez (by first | exact r4 | exact nt_f r4 | exact tnf r4 | exact fnt r4 | exact Int32.not_lt.mp r4 | exact Int32.not_le.mp r4 | exact Int32.not_lt.mpr r4 | exact Int32.not_le.mpr r4) ?_
              iterate 3 (refine x_opp rfl rfl ?_)
              refine a_callV (s_65 dy) rfl rfl rfl rfl (k_rowOf2 hG4 i7 m4 ?_)
              refine x_opp rfl rfl ?_
              refine x_opp rfl rfl ?_
              refine a_ifT rfl rfl br_ge (by first | exact hl | exact nt_f hl | exact tnf hl | exact fnt hl | exact Int32.not_lt.mp hl | exact Int32.not_le.mp hl | exact Int32.not_lt.mpr hl | exact Int32.not_le.mpr hl) ?_
              refine x_opp rfl rfl ?_
              refine x_opp rfl rfl ?_
              refine a_icT rfl rfl br_le (by first | exact hn | exact nt_f hn | exact tnf hn | exact fnt hn | exact Int32.not_lt.mp hn | exact Int32.not_le.mp hn | exact Int32.not_lt.mpr hn | exact Int32.not_le.mpr hn) ?_
              refine x_opp rfl rfl ?_
              refine m_getg (s_65 dy) rfl rfl rfl ?_
              refine x_kcg rfl ?_
              iterate 5 (refine x_opp rfl rfl ?_)
              rw [rw_eq]
              refine a_iastN (s_69 dy) (k := 7 * G + i) rfl rfl rfl (by omega) (by decide) ?_
              refine x_opp rfl rfl ?_
              refine a_callV (s_65 dy) rfl rfl rfl rfl (k_changed ?_)
              refine x_opp rfl rfl ?_
              refine a_iret rfl rfl rfl ?_
              refine ⟨rfl, _, rfl, ?_⟩
              subst hM4
              subst hM3
              subst hM1
              exact R_cut hN hL hQ hG hG4 (fun K hK eK => by have := nI_H b1 hK b4 eK; omega) i7 hv hn rfl
            · have t4 : ¬ (MF 2).1 66 G = 0 := by rw [fF 2 _ _ (by decide) (by decide)]; exact th
              have r4 : gRow ((MF 2).1 67 G) (nI i) = true := by rw [fF 2 _ _ (by decide) (by decide)]; exact hr
              have m4 : mL (MF 2) G i = mL M1 G i := fF 2 69 _ (by decide) (by decide)
              refine x_opp rfl rfl ?_
              refine m_getg (s_0 dy) rfl rfl rfl ?_
              refine a_callV (s_1 dy) rfl rfl rfl rfl (c_clear (s_1 dy) ?_)
              refine x_opp rfl rfl ?_
              refine a_callS rfl rfl rfl rfl (c_isGridNumber ?_)
              rw [hM1]
              refine a_ifF rfl rfl br_eqz (by first | exact hg | exact nt_f hg | exact tnf hg | exact fnt hg | exact Int32.not_lt.mp hg | exact Int32.not_le.mp hg | exact Int32.not_lt.mpr hg | exact Int32.not_le.mpr hg) ?_
              refine x_opp rfl rfl ?_
              refine x_kcg rfl ?_
              refine a_icT rfl rfl br_ge (by first | exact hv | exact nt_f hv | exact tnf hv | exact fnt hv | exact Int32.not_lt.mp hv | exact Int32.not_le.mp hv | exact Int32.not_lt.mpr hv | exact Int32.not_le.mpr hv) ?_
              refine x_opp rfl rfl ?_
              refine m_getg (s_0 dy) rfl rfl rfl ?_
              refine x_opp rfl rfl ?_
              refine a_gr hG4 rfl rfl hgr ?_
              iterate 3 (refine x_opp rfl rfl ?_)
              refine a_callV sg rfl rfl rfl rfl (c_rr hG4 g1 ?_)
              rw [e1]
              refine x_opp rfl rfl ?_
              refine x_opp rfl rfl ?_
              refine a_ifT rfl rfl br_eq (by decide) ?_
              refine x_opp rfl rfl ?_
              refine m_getg sg rfl rfl rfl ?_
              refine x_opp rfl rfl ?_
              refine a_ialdN sl (k := i) rfl rfl rfl (by omega) (by decide) ?_
              iterate 3 (refine x_opp rfl rfl ?_)
              rw [hl1]
              refine a_icF rfl rfl br_le (by first | exact hn | exact nt_f hn | exact tnf hn | exact fnt hn | exact Int32.not_lt.mp hn | exact Int32.not_le.mp hn | exact Int32.not_lt.mpr hn | exact Int32.not_le.mpr hn) ?_
              refine x_opp rfl rfl ?_
              refine m_getg (s_0 dy) rfl rfl rfl ?_
              refine x_kcg rfl ?_
              refine a_callV (s_1 dy) rfl rfl rfl rfl (c_find (s_1 dy) (s_3 dy) (by decide) (z1 2 (by decide)) ?_)
              refine a_iret rfl rfl rfl ?_
              refine ⟨_, dy, _, rfl, rfl, ?_⟩; refine e_intro rfl rfl ?_
              refine x_opp rfl rfl ?_
              refine x_kcg rfl ?_
              refine a_putJ 19 (s_65 dy) rfl rfl rfl rfl ?_
              refine x_opp rfl rfl ?_
              refine a_callS rfl rfl rfl rfl (k_isGrid ?_)
              rw [show m_setI (nFind M1 1 3 2) 65 19 0 = MF 2 from congrFun hMF 2]
              refine a_ifF rfl rfl br_eqz (by first | exact hg | exact nt_f hg | exact tnf hg | exact fnt hg | exact Int32.not_lt.mp hg | exact Int32.not_le.mp hg | exact Int32.not_lt.mpr hg | exact Int32.not_le.mpr hg) ?_
              refine x_opp rfl rfl ?_
              refine x_kcg rfl ?_
              refine a_icT rfl rfl br_ge (by first | exact hv | exact nt_f hv | exact tnf hv | exact fnt hv | exact Int32.not_lt.mp hv | exact Int32.not_le.mp hv | exact Int32.not_lt.mpr hv | exact Int32.not_le.mpr hv) ?_
              refine x_opp rfl rfl ?_
              refine m_getg (s_65 dy) rfl rfl rfl ?_
              refine x_opp rfl rfl ?_
              refine a_baldN (s_66 dy) (k := G) rfl rfl rfl (by omega) (by decide) ?_
              refine a_ifT rfl rfl br_ne (by first | exact t4 | exact nt_f t4 | exact tnf t4 | exact fnt t4 | exact Int32.not_lt.mp t4 | exact Int32.not_le.mp t4 | exact Int32.not_lt.mpr t4 | exact Int32.not_le.mpr t4) ?_
              refine x_opp rfl rfl ?_
              refine x_kcg rfl ?_
              refine x_opp rfl rfl ?_
              refine m_getg (s_65 dy) rfl rfl rfl ?_
              refine x_opp rfl rfl ?_
              refine a_ialdN (s_67 dy) (k := G) rfl rfl rfl (by omega) (by decide) ?_
              refine x_kcg rfl ?_
              refine x_opp rfl rfl ?_
              refine a_callS rfl rfl rfl rfl (k_inRow (h0 2) ?_)
              refine a_ifT rfl rfl br_nez (by first | exact r4 | exact nt_f r4 | exact tnf r4 | exact fnt r4 | exact Int32.not_lt.mp r4 | exact Int32.not_le.mp r4 | exact Int32.not_lt.mpr r4 | exact Int32.not_le.mpr r4) ?_
              iterate 3 (refine x_opp rfl rfl ?_)
              refine a_callV (s_65 dy) rfl rfl rfl rfl (k_rowOf2 hG4 i7 m4 ?_)
              refine x_opp rfl rfl ?_
              refine x_opp rfl rfl ?_
              refine a_ifT rfl rfl br_ge (by first | exact hl | exact nt_f hl | exact tnf hl | exact fnt hl | exact Int32.not_lt.mp hl | exact Int32.not_le.mp hl | exact Int32.not_lt.mpr hl | exact Int32.not_le.mpr hl) ?_
              refine x_opp rfl rfl ?_
              refine x_opp rfl rfl ?_
              refine a_icF rfl rfl br_le (by first | exact hn | exact nt_f hn | exact tnf hn | exact fnt hn | exact Int32.not_lt.mp hn | exact Int32.not_le.mp hn | exact Int32.not_lt.mpr hn | exact Int32.not_le.mpr hn) ?_
              refine x_opp rfl rfl ?_
              refine x_kcg rfl ?_
              refine a_callV (s_65 dy) rfl rfl rfl rfl (k_met (z1 2 (by decide)) ?_)
              refine a_iret rfl rfl rfl ?_
              subst hMF
              subst hM1
              exact ⟨rfl, _, rfl, R_fd (k := 2) (by decide) hR⟩
          · have e1 := rr_3 th hr i7 hl
            have t4 : ¬ (MF 1).1 66 G = 0 := by rw [fF 1 _ _ (by decide) (by decide)]; exact th
            have r4 : gRow ((MF 1).1 67 G) (nI i) = true := by rw [fF 1 _ _ (by decide) (by decide)]; exact hr
            have m4 : mL (MF 1) G i = mL M1 G i := fF 1 69 _ (by decide) (by decide)
            refine x_opp rfl rfl ?_
            refine m_getg (s_0 dy) rfl rfl rfl ?_
            refine a_callV (s_1 dy) rfl rfl rfl rfl (c_clear (s_1 dy) ?_)
            refine x_opp rfl rfl ?_
            refine a_callS rfl rfl rfl rfl (c_isGridNumber ?_)
            rw [hM1]
            refine a_ifF rfl rfl br_eqz (by first | exact hg | exact nt_f hg | exact tnf hg | exact fnt hg | exact Int32.not_lt.mp hg | exact Int32.not_le.mp hg | exact Int32.not_lt.mpr hg | exact Int32.not_le.mpr hg) ?_
            refine x_opp rfl rfl ?_
            refine x_kcg rfl ?_
            refine a_icT rfl rfl br_ge (by first | exact hv | exact nt_f hv | exact tnf hv | exact fnt hv | exact Int32.not_lt.mp hv | exact Int32.not_le.mp hv | exact Int32.not_lt.mpr hv | exact Int32.not_le.mpr hv) ?_
            refine x_opp rfl rfl ?_
            refine m_getg (s_0 dy) rfl rfl rfl ?_
            refine x_opp rfl rfl ?_
            refine a_gr hG4 rfl rfl hgr ?_
            iterate 3 (refine x_opp rfl rfl ?_)
            refine a_callV sg rfl rfl rfl rfl (c_rr hG4 g1 ?_)
            rw [e1]
            refine x_opp rfl rfl ?_
            refine x_opp rfl rfl ?_
            refine a_ifF rfl rfl br_eq (by decide) ?_
            refine x_opp rfl rfl ?_
            refine m_getg (s_0 dy) rfl rfl rfl ?_
            refine x_opp rfl rfl ?_
            refine a_callV (s_1 dy) rfl rfl rfl rfl (c_find (s_1 dy) (s_3 dy) (by decide) (z1 1 (by decide)) ?_)
            refine a_iret rfl rfl rfl ?_
            refine ⟨_, dy, _, rfl, rfl, ?_⟩; refine e_intro rfl rfl ?_
            refine x_opp rfl rfl ?_
            refine x_kcg rfl ?_
            refine a_putJ 19 (s_65 dy) rfl rfl rfl rfl ?_
            refine x_opp rfl rfl ?_
            refine a_callS rfl rfl rfl rfl (k_isGrid ?_)
            rw [show m_setI (nFind M1 1 3 (nI 1)) 65 19 0 = MF 1 from congrFun hMF 1]
            refine a_ifF rfl rfl br_eqz (by first | exact hg | exact nt_f hg | exact tnf hg | exact fnt hg | exact Int32.not_lt.mp hg | exact Int32.not_le.mp hg | exact Int32.not_lt.mpr hg | exact Int32.not_le.mpr hg) ?_
            refine x_opp rfl rfl ?_
            refine x_kcg rfl ?_
            refine a_icT rfl rfl br_ge (by first | exact hv | exact nt_f hv | exact tnf hv | exact fnt hv | exact Int32.not_lt.mp hv | exact Int32.not_le.mp hv | exact Int32.not_lt.mpr hv | exact Int32.not_le.mpr hv) ?_
            refine x_opp rfl rfl ?_
            refine m_getg (s_65 dy) rfl rfl rfl ?_
            refine x_opp rfl rfl ?_
            refine a_baldN (s_66 dy) (k := G) rfl rfl rfl (by omega) (by decide) ?_
            refine a_ifT rfl rfl br_ne (by first | exact t4 | exact nt_f t4 | exact tnf t4 | exact fnt t4 | exact Int32.not_lt.mp t4 | exact Int32.not_le.mp t4 | exact Int32.not_lt.mpr t4 | exact Int32.not_le.mpr t4) ?_
            refine x_opp rfl rfl ?_
            refine x_kcg rfl ?_
            refine x_opp rfl rfl ?_
            refine m_getg (s_65 dy) rfl rfl rfl ?_
            refine x_opp rfl rfl ?_
            refine a_ialdN (s_67 dy) (k := G) rfl rfl rfl (by omega) (by decide) ?_
            refine x_kcg rfl ?_
            refine x_opp rfl rfl ?_
            refine a_callS rfl rfl rfl rfl (k_inRow (h0 1) ?_)
            refine a_ifT rfl rfl br_nez (by first | exact r4 | exact nt_f r4 | exact tnf r4 | exact fnt r4 | exact Int32.not_lt.mp r4 | exact Int32.not_le.mp r4 | exact Int32.not_lt.mpr r4 | exact Int32.not_le.mpr r4) ?_
            iterate 3 (refine x_opp rfl rfl ?_)
            refine a_callV (s_65 dy) rfl rfl rfl rfl (k_rowOf2 hG4 i7 m4 ?_)
            refine x_opp rfl rfl ?_
            refine x_opp rfl rfl ?_
            refine a_ifF rfl rfl br_ge (by first | exact hl | exact nt_f hl | exact tnf hl | exact fnt hl | exact Int32.not_lt.mp hl | exact Int32.not_le.mp hl | exact Int32.not_lt.mpr hl | exact Int32.not_le.mpr hl) ?_
            refine x_opp rfl rfl ?_
            refine x_kcg rfl ?_
            refine a_callV (s_65 dy) rfl rfl rfl rfl (k_met (z1 1 (by decide)) ?_)
            refine a_iret rfl rfl rfl ?_
            subst hMF
            subst hM1
            exact ⟨rfl, _, rfl, R_fd (k := 1) (by decide) hR⟩
        · have e1 := rr_2 th hr
          have t4 : ¬ (MF 2).1 66 G = 0 := by rw [fF 2 _ _ (by decide) (by decide)]; exact th
          have r4 : ¬ gRow ((MF 2).1 67 G) r = true := by rw [fF 2 _ _ (by decide) (by decide)]; exact hr
          refine x_opp rfl rfl ?_
          refine m_getg (s_0 dy) rfl rfl rfl ?_
          refine a_callV (s_1 dy) rfl rfl rfl rfl (c_clear (s_1 dy) ?_)
          refine x_opp rfl rfl ?_
          refine a_callS rfl rfl rfl rfl (c_isGridNumber ?_)
          rw [hM1]
          refine a_ifF rfl rfl br_eqz (by first | exact hg | exact nt_f hg | exact tnf hg | exact fnt hg | exact Int32.not_lt.mp hg | exact Int32.not_le.mp hg | exact Int32.not_lt.mpr hg | exact Int32.not_le.mpr hg) ?_
          refine x_opp rfl rfl ?_
          refine x_kcg rfl ?_
          refine a_icT rfl rfl br_ge (by first | exact hv | exact nt_f hv | exact tnf hv | exact fnt hv | exact Int32.not_lt.mp hv | exact Int32.not_le.mp hv | exact Int32.not_lt.mpr hv | exact Int32.not_le.mpr hv) ?_
          refine x_opp rfl rfl ?_
          refine m_getg (s_0 dy) rfl rfl rfl ?_
          refine x_opp rfl rfl ?_
          refine a_gr hG4 rfl rfl hgr ?_
          iterate 3 (refine x_opp rfl rfl ?_)
          refine a_callV sg rfl rfl rfl rfl (c_rr hG4 g1 ?_)
          rw [e1]
          refine x_opp rfl rfl ?_
          refine x_opp rfl rfl ?_
          refine a_ifF rfl rfl br_eq (by decide) ?_
          refine x_opp rfl rfl ?_
          refine m_getg (s_0 dy) rfl rfl rfl ?_
          refine x_opp rfl rfl ?_
          refine a_callV (s_1 dy) rfl rfl rfl rfl (c_find (s_1 dy) (s_3 dy) (by decide) (z1 2 (by decide)) ?_)
          refine a_iret rfl rfl rfl ?_
          refine ⟨_, dy, _, rfl, rfl, ?_⟩; refine e_intro rfl rfl ?_
          refine x_opp rfl rfl ?_
          refine x_kcg rfl ?_
          refine a_putJ 19 (s_65 dy) rfl rfl rfl rfl ?_
          refine x_opp rfl rfl ?_
          refine a_callS rfl rfl rfl rfl (k_isGrid ?_)
          rw [show m_setI (nFind M1 1 3 (nI 2)) 65 19 0 = MF 2 from congrFun hMF 2]
          refine a_ifF rfl rfl br_eqz (by first | exact hg | exact nt_f hg | exact tnf hg | exact fnt hg | exact Int32.not_lt.mp hg | exact Int32.not_le.mp hg | exact Int32.not_lt.mpr hg | exact Int32.not_le.mpr hg) ?_
          refine x_opp rfl rfl ?_
          refine x_kcg rfl ?_
          refine a_icT rfl rfl br_ge (by first | exact hv | exact nt_f hv | exact tnf hv | exact fnt hv | exact Int32.not_lt.mp hv | exact Int32.not_le.mp hv | exact Int32.not_lt.mpr hv | exact Int32.not_le.mpr hv) ?_
          refine x_opp rfl rfl ?_
          refine m_getg (s_65 dy) rfl rfl rfl ?_
          refine x_opp rfl rfl ?_
          refine a_baldN (s_66 dy) (k := G) rfl rfl rfl (by omega) (by decide) ?_
          refine a_ifT rfl rfl br_ne (by first | exact t4 | exact nt_f t4 | exact tnf t4 | exact fnt t4 | exact Int32.not_lt.mp t4 | exact Int32.not_le.mp t4 | exact Int32.not_lt.mpr t4 | exact Int32.not_le.mpr t4) ?_
          refine x_opp rfl rfl ?_
          refine x_kcg rfl ?_
          refine x_opp rfl rfl ?_
          refine m_getg (s_65 dy) rfl rfl rfl ?_
          refine x_opp rfl rfl ?_
          refine a_ialdN (s_67 dy) (k := G) rfl rfl rfl (by omega) (by decide) ?_
          refine x_kcg rfl ?_
          refine x_opp rfl rfl ?_
          refine a_callS rfl rfl rfl rfl (k_inRow (h0 2) ?_)
          refine a_ifF rfl rfl br_nez (by first | exact r4 | exact nt_f r4 | exact tnf r4 | exact fnt r4 | exact Int32.not_lt.mp r4 | exact Int32.not_le.mp r4 | exact Int32.not_lt.mpr r4 | exact Int32.not_le.mpr r4) ?_
          refine x_opp rfl rfl ?_
          refine x_kcg rfl ?_
          refine a_callV (s_65 dy) rfl rfl rfl rfl (k_met (z1 2 (by decide)) ?_)
          refine a_iret rfl rfl rfl ?_
          subst hMF
          subst hM1
          exact ⟨rfl, _, rfl, R_fd (k := 2) (by decide) hR⟩
    · refine x_opp rfl rfl ?_
      refine m_getg (s_0 dy) rfl rfl rfl ?_
      refine a_callV (s_1 dy) rfl rfl rfl rfl (c_clear (s_1 dy) ?_)
      refine x_opp rfl rfl ?_
      refine a_callS rfl rfl rfl rfl (c_isGridNumber ?_)
      rw [hM1]
      refine a_ifF rfl rfl br_eqz (by first | exact hg | exact nt_f hg | exact tnf hg | exact fnt hg | exact Int32.not_lt.mp hg | exact Int32.not_le.mp hg | exact Int32.not_lt.mpr hg | exact Int32.not_le.mpr hg) ?_
      refine x_opp rfl rfl ?_
      refine x_kcg rfl ?_
      refine a_icF rfl rfl br_ge (by first | exact hv | exact nt_f hv | exact tnf hv | exact fnt hv | exact Int32.not_lt.mp hv | exact Int32.not_le.mp hv | exact Int32.not_lt.mpr hv | exact Int32.not_le.mpr hv) ?_
      refine x_kcg rfl ?_
      refine a_iret rfl rfl rfl ?_
      refine ⟨_, dy, _, rfl, rfl, ?_⟩; refine e_intro rfl rfl ?_
      refine x_opp rfl rfl ?_
      refine x_kcg rfl ?_
      refine a_putJ 19 (s_65 dy) rfl rfl rfl rfl ?_
      refine x_opp rfl rfl ?_
      refine a_callS rfl rfl rfl rfl (k_isGrid ?_)
      rw [hM2]
      refine a_ifF rfl rfl br_eqz (by first | exact hg | exact nt_f hg | exact tnf hg | exact fnt hg | exact Int32.not_lt.mp hg | exact Int32.not_le.mp hg | exact Int32.not_lt.mpr hg | exact Int32.not_le.mpr hg) ?_
      refine x_opp rfl rfl ?_
      refine x_kcg rfl ?_
      refine a_icF rfl rfl br_ge (by first | exact hv | exact nt_f hv | exact tnf hv | exact fnt hv | exact Int32.not_lt.mp hv | exact Int32.not_le.mp hv | exact Int32.not_lt.mpr hv | exact Int32.not_le.mpr hv) ?_
      refine x_kcg rfl ?_
      refine a_iret rfl rfl rfl ?_
      subst hM2; subst hM1; exact ⟨rfl, _, rfl, R_cl hR⟩
  · refine x_opp rfl rfl ?_
    refine m_getg (s_0 dy) rfl rfl rfl ?_
    refine a_callV (s_1 dy) rfl rfl rfl rfl (c_clear (s_1 dy) ?_)
    refine x_opp rfl rfl ?_
    refine a_callS rfl rfl rfl rfl (c_isGridNumber ?_)
    rw [hM1]
    refine a_ifT rfl rfl br_eqz (by first | exact hg | exact nt_f hg | exact tnf hg | exact fnt hg | exact Int32.not_lt.mp hg | exact Int32.not_le.mp hg | exact Int32.not_lt.mpr hg | exact Int32.not_le.mpr hg) ?_
    refine x_kcg rfl ?_
    refine a_iret rfl rfl rfl ?_
    refine ⟨_, dy, _, rfl, rfl, ?_⟩; refine e_intro rfl rfl ?_
    refine x_opp rfl rfl ?_
    refine x_kcg rfl ?_
    refine a_putJ 19 (s_65 dy) rfl rfl rfl rfl ?_
    refine x_opp rfl rfl ?_
    refine a_callS rfl rfl rfl rfl (k_isGrid ?_)
    rw [hM2]
    refine a_ifT rfl rfl br_eqz (by first | exact hg | exact nt_f hg | exact tnf hg | exact fnt hg | exact Int32.not_lt.mp hg | exact Int32.not_le.mp hg | exact Int32.not_lt.mpr hg | exact Int32.not_le.mpr hg) ?_
    refine x_kcg rfl ?_
    refine a_iret rfl rfl rfl ?_
    subst hM2; subst hM1; exact ⟨rfl, _, rfl, R_cl hR⟩
end PG
