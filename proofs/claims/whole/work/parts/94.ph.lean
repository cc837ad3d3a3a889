/-! pairs: which lists a grid uses -/
/-- one of the lists of a grid has changed, on both sides -/
theorem rG_lst {M M' : mm_T} {n G f : Nat} {lo : Option Nat} (h : rG M n) (hG : G < 4) (hf : f = 7 ∨ f = 8) (fr : ∀ a i, (45 ≤ a ∧ a ≤ 64 ∧ (a - 45) % 5 < 3) ∨ (66 ≤ a ∧ a ≤ 74) → ¬ (a = 45 + 5 * G ∧ i = f) → ¬ (a = 66 + f ∧ i = G) → M'.1 a i = M.1 a i) (h2 : M'.2.2 7 = M.2.2 7)
    (k1 : M'.1 (45 + 5 * G) f = loI lo) (k2 : M'.1 (66 + f) G = loI lo) (k3 : ∀ l, lo = some l → l < n) : rG M' n := by
  obtain ⟨g1, g2, g3⟩ := h
  refine ⟨fun s hs => ?_, fun K hK => by rw [h2]; exact g2 K hK, fun K hK => ?_⟩
  · rw [fr 70 s (by omega) (by omega) (by omega), fr 71 s (by omega) (by omega) (by omega), fr 72 s (by omega) (by omega) (by omega)]
    exact g1 s hs
  · by_cases e : K = G
    · subst e
      obtain ⟨⟨a1, a2⟩, ⟨H, W, b1, b2, b3, b4, b5, b6, b7, b8, b9⟩, c1, ⟨al, dl, d1, d2, d3, d4, d5, d6⟩⟩ := g3 K hK
      have eL : ∀ i, mL M' K i = mL M K i := fun i => fr 69 _ (by omega) (by omega) (by omega)
      have l7 : ∀ i, i < 7 → (mL M K i).toNatClampNeg ≤ 7 := fun i hi => ln_cl (b7 i hi).2.1 (Int32.le_trans (b7 i hi).2.2.1 (nI_le (b := 7) b2 (by decide)))
      refine ⟨⟨?_, ?_⟩, ⟨H, W, b1, b2, ?_, ?_, ?_, ?_, fun i hi => ?_, fun i j hi hj => ?_, fun i hi hj hw => ?_⟩, fun s hs => ?_, ?_⟩
      · rw [fr _ _ (by omega) (by omega) (by omega), fr _ _ (by omega) (by omega) (by omega)]; exact a1
      · rw [fr _ _ (by omega) (by omega) (by omega)]; exact a2
      · rw [fr _ _ (by omega) (by omega) (by omega)]; exact b3
      · rw [fr _ _ (by omega) (by omega) (by omega)]; exact b4
      · rw [fr _ _ (by omega) (by omega) (by omega)]; exact b5
      · rw [fr _ _ (by omega) (by omega) (by omega)]; exact b6
      · rw [fr _ _ (by omega) (by omega) (by omega), eL i]; exact b7 i hi
      · rw [eL i] at hj
        have := l7 i (by omega)
        unfold mC tld
        rw [fr _ _ (by omega) (by omega) (by omega), fr 70 _ (by omega) (by omega) (by omega), fr 71 _ (by omega) (by omega) (by omega), fr 72 _ (by omega) (by omega) (by omega)]
        exact b8 i j hi hj
      · rw [eL i] at hj
        rw [fr 71 _ (by omega) (by omega) (by omega)]; exact b9 i hi hj hw
      · rw [fr _ _ (by omega) (by omega) (by omega)]; exact c1 s hs
      · rcases hf with rfl | rfl
        · refine ⟨lo, dl, k1, k2, ?_, ?_, k3, d6⟩
          · rw [fr _ _ (by omega) (by omega) (by omega)]; exact d3
          · rw [fr _ _ (by omega) (by omega) (by omega)]; exact d4
        · refine ⟨al, lo, ?_, ?_, k1, k2, d5, k3⟩
          · rw [fr _ _ (by omega) (by omega) (by omega)]; exact d1
          · rw [fr _ _ (by omega) (by omega) (by omega)]; exact d2
    · exact rg_fr (Nat.le_refl n) (fun a i x y => fr a i (by omega) (by omega) (by omega)) (fun a x => fr a K (by omega) (by omega) (by omega)) (fun i _ => fr 69 _ (by omega) (by omega) (by omega)) (fun a s x y _ => fr a _ (by omega) (by omega) (by omega)) (g3 K hK)
section PH
variable {L : Nat} {xs : Nat → Int32} {t d : Nat} {dy : List sh_T} {M : mm_T} {Q : Option Value → sm_W → Prop} {n G : Nat}
theorem R_uses {M' : mm_T} {s : Nat × (Nat → Int32)} {E : Nat → lT} {P w : Nat → Nat} {f : Nat} {v : Int32} {lo : Option Nat} (hN : rN M t s) (hL : rL dy M E P w n) (hQ : rQ M) (hg : rG M n) (hG : G < 4) (hf : f = 7 ∨ f = 8) (hv : v = loI lo) (k3 : ∀ l, lo = some l → l < n)
    (e : M' = m_setI (m_setI (m_setI (m_setI (m_setI (m_setI M 1 5 0) (45 + 5 * G) f v) 0 11 0) 65 19 0) (66 + f) G v) 65 38 0) : rR (t + 1) dy M' := by
  subst hv
  refine R_g hN hL hQ (rG_lst (f := f) (lo := lo) hg hG hf (fun a i h x y => by subst e; repeat (first | rw [mI_at, if_neg (by omega)])) (by rw [e]; rfl) (by subst e; (repeat (first | rw [mI_at, if_neg (by omega)] | rw [mI_at, if_pos ⟨rfl, rfl⟩] | rw [mA_at, if_neg (by omega)] | rw [mA_at, if_pos rfl] | rw [mL_1] | rw [mR_1]))) (by subst e; (repeat (first | rw [mI_at, if_neg (by omega)] | rw [mI_at, if_pos ⟨rfl, rfl⟩] | rw [mA_at, if_neg (by omega)] | rw [mA_at, if_pos rfl] | rw [mL_1] | rw [mR_1]))) k3) (by subst e; exact (fun a i h => by repeat (first | rw [mI_at, if_neg (by omega)] | rw [mA_at, if_neg (by omega)] | rw [mL_1] | rw [mR_1]))) (by rw [e]; rfl) (by rw [e]; rfl) (by subst e; (repeat (first | rw [mI_at, if_neg (by omega)] | rw [mI_at, if_pos ⟨rfl, rfl⟩] | rw [mA_at, if_neg (by omega)] | rw [mA_at, if_pos rfl] | rw [mL_1] | rw [mR_1]))) (by subst e; (repeat (first | rw [mI_at, if_neg (by omega)] | rw [mI_at, if_pos ⟨rfl, rfl⟩] | rw [mA_at, if_neg (by omega)] | rw [mA_at, if_pos rfl] | rw [mL_1] | rw [mR_1]))) (by subst e; (repeat (first | rw [mI_at, if_neg (by omega)] | rw [mI_at, if_pos ⟨rfl, rfl⟩] | rw [mA_at, if_neg (by omega)] | rw [mA_at, if_pos rfl] | rw [mL_1] | rw [mR_1])))
theorem gRow_nn {m : Nat} {v : Int32} (hm : m ≤ 16) (h : gRow (nI m) v = true) : ∃ k, k < m ∧ v = nI k := by
  obtain ⟨k, hk, rfl⟩ := in16 h (nI_le (b := 16) hm (by decide))
  refine ⟨k, ?_, rfl⟩
  unfold gRow at h
  rw [if_neg (nI_pos (by omega))] at h
  by_cases q : nI m ≤ nI k
  · rw [if_pos q] at h; cases h
  · rw [nI_leI (by omega) (by omega)] at q
    omega
theorem c_made {v : Int32} (h : M.1 4 3 = nI n) (hq : Q (some (.int (zz (gRow (nI n) v)))) (wm (sh0 ++ dy) M)) : sm_E L xs (d + 1) 27 [.ref 4, .int v] (wm (sh0 ++ dy) M) Q := c_wasMade (ssh dy) (by rw [h]; exact hq)
theorem k_made {v : Int32} (hn : n ≤ 16) (h : M.1 65 9 = nI n) (hq : Q (some (.int (zz (gRow (nI n) v)))) (wm (sh0 ++ dy) M)) : sm_E L xs (d + 2) 163 [.ref 65, .int v] (wm (sh0 ++ dy) M) Q := k_isList (by rw [h]; exact nI_pos' (by omega)) (by rw [h]; exact hq)
theorem c_lF (hG : G < 4) {b : Bool} (hq : Q (some (.int (if b = true then M.1 (45 + 5 * G) 8 else M.1 (45 + 5 * G) 7))) (wm (sh0 ++ dy) M)) : sm_E L xs (d + 1) 71 [.ref (45 + 5 * G), .int (zz b)] (wm (sh0 ++ dy) M) Q := c_listFor (gsh_at dy G hG) hq
set_option maxRecDepth 4000 in
theorem p_uses {g v : Int32} {b : Bool} (h : rR t dy M) : pr L xs t dy M 70 181 [.int g, .int (zz b), .int v] := by
  have hR := h; obtain ⟨s, E, P, w, n, hG, hN, hL, hS, hQ⟩ := h; have z0 : (0 : Int32) = 0 := rfl; have z1 : (0 : Int32) ≤ 0 := (by decide); have z11 : ¬ (1 : Int32) = 0 := (by decide); have z12 : ¬ (1 : Int32) ≤ 0 := (by decide); obtain ⟨M1, hM1⟩ : ∃ M1, m_setI M 1 5 0 = M1 := ⟨_, rfl⟩; have g1 : rG M1 n := hM1 ▸ rG_c hG; obtain ⟨M2, hM2⟩ : ∃ M2, m_setI M1 65 19 0 = M2 := ⟨_, rfl⟩; have g2 : rG M2 n := hM2 ▸ rG_z g1
  unfold pr; refine e_intro rfl rfl ?_
  have hn16 : n ≤ 16 := hL.1.1
  have c43 : M1.1 4 3 = nI n := by subst hM1; exact hL.2.1.1
  have k65 : M1.1 65 9 = nI n := by subst hM1; exact hL.2.2.2.1
  by_cases hg : gRow 4 g = true
  · obtain ⟨G, hG4, rfl⟩ := gRow4 hg
    have hgr := g1.2.1 G hG4; obtain ⟨sg, sc, sl, ssp, sre, sne⟩ := gsh_at dy G hG4
    obtain ⟨H, W, b1, b2, b3, b4, b5, b6, gk, mk, v1, v2, a1, a2⟩ := rG_v g1 hG4
    obtain ⟨-, -, -, al, dl, d1, d2, d3, d4, d5, d6⟩ := g1.2.2 G hG4
    have k12' : M2.1 65 9 = nI n := by subst hM2; exact k65
    -- the list: none, one, or a wrong number
    have lst : (v = -1 ∨ (¬ v = -1 ∧ gRow (nI n) v = true)) ∨ (¬ v = -1 ∧ ¬ gRow (nI n) v = true) := by
      by_cases q : v = -1
      · exact Or.inl (Or.inl q)
      · by_cases q2 : gRow (nI n) v = true
        · exact Or.inl (Or.inr ⟨q, q2⟩)
        · exact Or.inr ⟨q, q2⟩
    rcases lst with lst | ⟨q1, q2⟩
    · have hlo : ∃ lo, v = loI lo ∧ ∀ l, lo = some l → l < n := by
        rcases lst with rfl | ⟨-, q⟩
        · exact ⟨none, rfl, fun l h => by cases h⟩
        · obtain ⟨k, hk, rfl⟩ := gRow_nn hn16 q
          exact ⟨some k, rfl, fun l h => by cases h; exact hk⟩
      obtain ⟨lo, hv, k3⟩ := hlo
      by_cases th : M1.1 66 G = 0
      · have th1 : M1.1 (45 + 5 * G) 4 = 0 := by rw [a1]; exact th
        obtain ⟨MF, hMF⟩ : ∃ MF, m_setI (nFind M1 1 3 1) 65 19 0 = MF := ⟨_, rfl⟩
        have tF : MF.1 66 G = 0 := by rw [← hMF]; exact th
        have kF : MF.1 65 9 = nI n := by rw [← hMF]; exact k65
        have fin : rR (t + 1) dy (mMet MF 1) := by subst hMF; subst hM1; exact R_fd (k := 1) (by decide) hR
        rcases lst with rfl | ⟨q, q2⟩
        · refine x_opp rfl rfl ?_
          refine m_getg (s_0 dy) rfl rfl rfl ?_
          refine a_callV (s_1 dy) rfl rfl rfl rfl (c_clear (s_1 dy) ?_)
          refine x_opp rfl rfl ?_
          refine a_callS rfl rfl rfl rfl (c_isGridNumber ?_)
          rw [hM1]
          refine a_ifF rfl rfl br_eqz (by first | exact hg | exact nt_f hg | exact tnf hg | exact fnt hg | exact Int32.not_lt.mp hg | exact Int32.not_le.mp hg | exact Int32.not_lt.mpr hg | exact Int32.not_le.mpr hg) ?_
          refine x_opp rfl rfl ?_
          refine x_kcg rfl ?_
          refine a_icT rfl rfl br_eq (by first | exact rfl | exact nt_f rfl | exact tnf rfl | exact fnt rfl | exact Int32.not_lt.mp rfl | exact Int32.not_le.mp rfl | exact Int32.not_lt.mpr rfl | exact Int32.not_le.mpr rfl) ?_
          refine x_opp rfl rfl ?_
          refine m_getg (s_0 dy) rfl rfl rfl ?_
          refine x_opp rfl rfl ?_
          refine a_gr hG4 rfl rfl hgr ?_
          refine x_opp rfl rfl ?_
          refine x_opp rfl rfl ?_
          refine m_getg sg rfl rfl rfl ?_
          rw [th1]
          refine a_ifF rfl rfl br_ne (fun h => h rfl) ?_
          refine x_opp rfl rfl ?_
          refine m_getg (s_0 dy) rfl rfl rfl ?_
          refine x_kcg rfl ?_
          refine a_callV (s_1 dy) rfl rfl rfl rfl (c_find (s_1 dy) (s_3 dy) (by decide) (vp_in_nI (n := 1) (by decide) (by decide)) ?_)
          refine a_iret rfl rfl rfl ?_
          refine ⟨_, dy, _, rfl, rfl, ?_⟩; refine e_intro rfl rfl ?_
          refine x_opp rfl rfl ?_
          refine x_kcg rfl ?_
          refine a_putJ 19 (s_65 dy) rfl rfl rfl rfl ?_
          refine x_opp rfl rfl ?_
          refine a_callS rfl rfl rfl rfl (k_isGrid ?_)
          rw [hMF]
          refine a_ifF rfl rfl br_eqz (by first | exact hg | exact nt_f hg | exact tnf hg | exact fnt hg | exact Int32.not_lt.mp hg | exact Int32.not_le.mp hg | exact Int32.not_lt.mpr hg | exact Int32.not_le.mpr hg) ?_
          refine x_opp rfl rfl ?_
          refine x_kcg rfl ?_
          refine a_icT rfl rfl br_eq (by first | exact rfl | exact nt_f rfl | exact tnf rfl | exact fnt rfl | exact Int32.not_lt.mp rfl | exact Int32.not_le.mp rfl | exact Int32.not_lt.mpr rfl | exact Int32.not_le.mpr rfl) ?_
          refine x_opp rfl rfl ?_
          refine m_getg (s_65 dy) rfl rfl rfl ?_
          refine x_opp rfl rfl ?_
          refine a_baldN (s_66 dy) (k := G) rfl rfl rfl (by omega) (by decide) ?_
          rw [tF]
          refine a_ifF rfl rfl br_ne (fun h => h rfl) ?_
          refine x_opp rfl rfl ?_
          refine x_kcg rfl ?_
          refine a_callV (s_65 dy) rfl rfl rfl rfl (k_met (vp_in_nI (n := 1) (by decide) (by decide)) ?_)
          refine a_iret rfl rfl rfl ?_
          exact ⟨rfl, _, rfl, fin⟩
        · refine x_opp rfl rfl ?_
          refine m_getg (s_0 dy) rfl rfl rfl ?_
          refine a_callV (s_1 dy) rfl rfl rfl rfl (c_clear (s_1 dy) ?_)
          refine x_opp rfl rfl ?_
          refine a_callS rfl rfl rfl rfl (c_isGridNumber ?_)
          rw [hM1]
          refine a_ifF rfl rfl br_eqz (by first | exact hg | exact nt_f hg | exact tnf hg | exact fnt hg | exact Int32.not_lt.mp hg | exact Int32.not_le.mp hg | exact Int32.not_lt.mpr hg | exact Int32.not_le.mpr hg) ?_
          refine x_opp rfl rfl ?_
          refine x_kcg rfl ?_
          refine a_icF rfl rfl br_eq (by first | exact q | exact nt_f q | exact tnf q | exact fnt q | exact Int32.not_lt.mp q | exact Int32.not_le.mp q | exact Int32.not_lt.mpr q | exact Int32.not_le.mpr q) ?_
          refine x_opp rfl rfl ?_
          refine m_getg (s_0 dy) rfl rfl rfl ?_
          refine x_opp rfl rfl ?_
          refine a_callV (s_4 dy) rfl rfl rfl rfl (c_made c43 ?_)
          refine a_ifT rfl rfl br_nez (by first | exact q2 | exact nt_f q2 | exact tnf q2 | exact fnt q2 | exact Int32.not_lt.mp q2 | exact Int32.not_le.mp q2 | exact Int32.not_lt.mpr q2 | exact Int32.not_le.mpr q2) ?_
          refine x_opp rfl rfl ?_
          refine m_getg (s_0 dy) rfl rfl rfl ?_
          refine x_opp rfl rfl ?_
          refine a_gr hG4 rfl rfl hgr ?_
          refine x_opp rfl rfl ?_
          refine x_opp rfl rfl ?_
          refine m_getg sg rfl rfl rfl ?_
          rw [th1]
          refine a_ifF rfl rfl br_ne (fun h => h rfl) ?_
          refine x_opp rfl rfl ?_
          refine m_getg (s_0 dy) rfl rfl rfl ?_
          refine x_kcg rfl ?_
          refine a_callV (s_1 dy) rfl rfl rfl rfl (c_find (s_1 dy) (s_3 dy) (by decide) (vp_in_nI (n := 1) (by decide) (by decide)) ?_)
          refine a_iret rfl rfl rfl ?_
          refine ⟨_, dy, _, rfl, rfl, ?_⟩; refine e_intro rfl rfl ?_
          refine x_opp rfl rfl ?_
          refine x_kcg rfl ?_
          refine a_putJ 19 (s_65 dy) rfl rfl rfl rfl ?_
          refine x_opp rfl rfl ?_
          refine a_callS rfl rfl rfl rfl (k_isGrid ?_)
          rw [hMF]
          refine a_ifF rfl rfl br_eqz (by first | exact hg | exact nt_f hg | exact tnf hg | exact fnt hg | exact Int32.not_lt.mp hg | exact Int32.not_le.mp hg | exact Int32.not_lt.mpr hg | exact Int32.not_le.mpr hg) ?_
          refine x_opp rfl rfl ?_
          refine x_kcg rfl ?_
          refine a_icF rfl rfl br_eq (by first | exact q | exact nt_f q | exact tnf q | exact fnt q | exact Int32.not_lt.mp q | exact Int32.not_le.mp q | exact Int32.not_lt.mpr q | exact Int32.not_le.mpr q) ?_
          refine x_opp rfl rfl ?_
          refine x_opp rfl rfl ?_
          refine a_callV (s_65 dy) rfl rfl rfl rfl (k_made hn16 kF ?_)
          refine a_ifT rfl rfl br_nez (by first | exact q2 | exact nt_f q2 | exact tnf q2 | exact fnt q2 | exact Int32.not_lt.mp q2 | exact Int32.not_le.mp q2 | exact Int32.not_lt.mpr q2 | exact Int32.not_le.mpr q2) ?_
          refine x_opp rfl rfl ?_
          refine m_getg (s_65 dy) rfl rfl rfl ?_
          refine x_opp rfl rfl ?_
          refine a_baldN (s_66 dy) (k := G) rfl rfl rfl (by omega) (by decide) ?_
          rw [tF]
          refine a_ifF rfl rfl br_ne (fun h => h rfl) ?_
          refine x_opp rfl rfl ?_
          refine x_kcg rfl ?_
          refine a_callV (s_65 dy) rfl rfl rfl rfl (k_met (vp_in_nI (n := 1) (by decide) (by decide)) ?_)
          refine a_iret rfl rfl rfl ?_
          exact ⟨rfl, _, rfl, fin⟩
      · have th1 : ¬ M1.1 (45 + 5 * G) 4 = 0 := by rw [a1]; exact th
        cases b with
        | true =>
          obtain ⟨M3, hM3⟩ : ∃ M3, m_setI (m_setI M1 (45 + 5 * G) 8 v) 0 11 0 = M3 := ⟨_, rfl⟩
          obtain ⟨M4, hM4⟩ : ∃ M4, m_setI M3 65 19 0 = M4 := ⟨_, rfl⟩
          have t4 : ¬ M4.1 66 G = 0 := by rw [← hM4, ← hM3, mI_ne _ _ _ (by decide), mI_ne _ _ _ (by decide), mI_ne _ _ _ (by omega)]; exact th
          have s4 : M4.1 74 = M1.1 74 := by rw [← hM4, ← hM3, mI_ne _ _ _ (by decide), mI_ne _ _ _ (by decide), mI_ne _ _ _ (by omega)]
          have k4 : M4.1 65 9 = nI n := by rw [← hM4, mI_at, if_neg (by decide), ← hM3, mI_ne _ _ _ (by decide), mI_ne _ _ _ (by omega)]; exact k65
          have an : M1.1 74 G = M1.1 (45 + 5 * G) 8 := by rw [d3, d4]
          have fin : rR (t + 1) dy (m_setI (m_setI M4 74 G v) 65 38 0) := by
            subst hM4; subst hM3; subst hM1
            exact R_uses (f := 8) hN hL hQ hG hG4 (Or.inr rfl) hv k3 rfl
          rcases lst with rfl | ⟨q, q2⟩
          · refine x_opp rfl rfl ?_
            refine m_getg (s_0 dy) rfl rfl rfl ?_
            refine a_callV (s_1 dy) rfl rfl rfl rfl (c_clear (s_1 dy) ?_)
            refine x_opp rfl rfl ?_
            refine a_callS rfl rfl rfl rfl (c_isGridNumber ?_)
            rw [hM1]
            refine a_ifF rfl rfl br_eqz (by first | exact hg | exact nt_f hg | exact tnf hg | exact fnt hg | exact Int32.not_lt.mp hg | exact Int32.not_le.mp hg | exact Int32.not_lt.mpr hg | exact Int32.not_le.mpr hg) ?_
            refine x_opp rfl rfl ?_
            refine x_kcg rfl ?_
            refine a_icT rfl rfl br_eq (by first | exact rfl | exact nt_f rfl | exact tnf rfl | exact fnt rfl | exact Int32.not_lt.mp rfl | exact Int32.not_le.mp rfl | exact Int32.not_lt.mpr rfl | exact Int32.not_le.mpr rfl) ?_
            refine x_opp rfl rfl ?_
            refine m_getg (s_0 dy) rfl rfl rfl ?_
            refine x_opp rfl rfl ?_
            refine a_gr hG4 rfl rfl hgr ?_
            refine x_opp rfl rfl ?_
            refine x_opp rfl rfl ?_
            refine m_getg sg rfl rfl rfl ?_
            refine a_ifT rfl rfl br_ne (by first | exact th1 | exact nt_f th1 | exact tnf th1 | exact fnt th1 | exact Int32.not_lt.mp th1 | exact Int32.not_le.mp th1 | exact Int32.not_lt.mpr th1 | exact Int32.not_le.mpr th1) ?_
            refine x_opp rfl rfl ?_
            refine x_opp rfl rfl ?_
            refine a_callV sg rfl rfl rfl rfl (c_lF hG4 ?_)
            refine x_opp rfl rfl ?_
            refine x_opp rfl rfl ?_
            refine a_ifF rfl rfl br_eqz (tnf rfl) ?_
            refine x_opp rfl rfl ?_
            refine x_opp rfl rfl ?_
            refine a_putJ 8 sg rfl rfl rfl rfl ?_
            refine x_go rfl ?_
            refine x_opp rfl rfl ?_
            refine x_kcg rfl ?_
            refine a_putJ 11 (s_0 dy) rfl rfl rfl rfl ?_
            refine x_opp rfl rfl ?_
            refine a_iret rfl rfl rfl ?_
            rw [hM3]
            refine ⟨_, dy, _, rfl, rfl, ?_⟩; refine e_intro rfl rfl ?_
            refine x_opp rfl rfl ?_
            refine x_kcg rfl ?_
            refine a_putJ 19 (s_65 dy) rfl rfl rfl rfl ?_
            refine x_opp rfl rfl ?_
            refine a_callS rfl rfl rfl rfl (k_isGrid ?_)
            rw [hM4]
            refine a_ifF rfl rfl br_eqz (by first | exact hg | exact nt_f hg | exact tnf hg | exact fnt hg | exact Int32.not_lt.mp hg | exact Int32.not_le.mp hg | exact Int32.not_lt.mpr hg | exact Int32.not_le.mpr hg) ?_
            refine x_opp rfl rfl ?_
            refine x_kcg rfl ?_
            refine a_icT rfl rfl br_eq (by first | exact rfl | exact nt_f rfl | exact tnf rfl | exact fnt rfl | exact Int32.not_lt.mp rfl | exact Int32.not_le.mp rfl | exact Int32.not_lt.mpr rfl | exact Int32.not_le.mpr rfl) ?_
            refine x_opp rfl rfl ?_
            refine m_getg (s_65 dy) rfl rfl rfl ?_
            refine x_opp rfl rfl ?_
            refine a_baldN (s_66 dy) (k := G) rfl rfl rfl (by omega) (by decide) ?_
            refine a_ifT rfl rfl br_ne (by first | exact t4 | exact nt_f t4 | exact tnf t4 | exact fnt t4 | exact Int32.not_lt.mp t4 | exact Int32.not_le.mp t4 | exact Int32.not_lt.mpr t4 | exact Int32.not_le.mpr t4) ?_
            refine x_opp rfl rfl ?_
            refine a_ifF rfl rfl br_eqz (tnf rfl) ?_
            refine x_opp rfl rfl ?_
            refine m_getg (s_65 dy) rfl rfl rfl ?_
            refine x_opp rfl rfl ?_
            refine a_ialdN (s_74 dy) (k := G) rfl rfl rfl (by omega) (by decide) ?_
            refine x_go rfl ?_
            refine x_opp rfl rfl ?_
            refine x_opp rfl rfl ?_
            rw [s4]
            refine a_ifF rfl rfl br_eqz (tnf rfl) ?_
            refine x_opp rfl rfl ?_
            refine m_getg (s_65 dy) rfl rfl rfl ?_
            refine x_opp rfl rfl ?_
            refine x_opp rfl rfl ?_
            refine a_iastN (s_74 dy) (k := G) rfl rfl rfl (by omega) (by decide) ?_
            refine x_go rfl ?_
            refine x_opp rfl rfl ?_
            refine a_callV (s_65 dy) rfl rfl rfl rfl (k_changed ?_)
            refine x_opp rfl rfl ?_
            refine a_iret rfl rfl rfl ?_
            exact ⟨congrArg (fun x => some (Value.int x)) an, _, rfl, fin⟩
          · refine x_opp rfl rfl ?_
            refine m_getg (s_0 dy) rfl rfl rfl ?_
            refine a_callV (s_1 dy) rfl rfl rfl rfl (c_clear (s_1 dy) ?_)
            refine x_opp rfl rfl ?_
            refine a_callS rfl rfl rfl rfl (c_isGridNumber ?_)
            rw [hM1]
            refine a_ifF rfl rfl br_eqz (by first | exact hg | exact nt_f hg | exact tnf hg | exact fnt hg | exact Int32.not_lt.mp hg | exact Int32.not_le.mp hg | exact Int32.not_lt.mpr hg | exact Int32.not_le.mpr hg) ?_
            refine x_opp rfl rfl ?_
            refine x_kcg rfl ?_
            refine a_icF rfl rfl br_eq (by first | exact q | exact nt_f q | exact tnf q | exact fnt q | exact Int32.not_lt.mp q | exact Int32.not_le.mp q | exact Int32.not_lt.mpr q | exact Int32.not_le.mpr q) ?_
            refine x_opp rfl rfl ?_
            refine m_getg (s_0 dy) rfl rfl rfl ?_
            refine x_opp rfl rfl ?_
            refine a_callV (s_4 dy) rfl rfl rfl rfl (c_made c43 ?_)
            refine a_ifT rfl rfl br_nez (by first | exact q2 | exact nt_f q2 | exact tnf q2 | exact fnt q2 | exact Int32.not_lt.mp q2 | exact Int32.not_le.mp q2 | exact Int32.not_lt.mpr q2 | exact Int32.not_le.mpr q2) ?_
            refine x_opp rfl rfl ?_
            refine m_getg (s_0 dy) rfl rfl rfl ?_
            refine x_opp rfl rfl ?_
            refine a_gr hG4 rfl rfl hgr ?_
            refine x_opp rfl rfl ?_
            refine x_opp rfl rfl ?_
            refine m_getg sg rfl rfl rfl ?_
            refine a_ifT rfl rfl br_ne (by first | exact th1 | exact nt_f th1 | exact tnf th1 | exact fnt th1 | exact Int32.not_lt.mp th1 | exact Int32.not_le.mp th1 | exact Int32.not_lt.mpr th1 | exact Int32.not_le.mpr th1) ?_
            refine x_opp rfl rfl ?_
            refine x_opp rfl rfl ?_
            refine a_callV sg rfl rfl rfl rfl (c_lF hG4 ?_)
            refine x_opp rfl rfl ?_
            refine x_opp rfl rfl ?_
            refine a_ifF rfl rfl br_eqz (tnf rfl) ?_
            refine x_opp rfl rfl ?_
            refine x_opp rfl rfl ?_
            refine a_putJ 8 sg rfl rfl rfl rfl ?_
            refine x_go rfl ?_
            refine x_opp rfl rfl ?_
            refine x_kcg rfl ?_
            refine a_putJ 11 (s_0 dy) rfl rfl rfl rfl ?_
            refine x_opp rfl rfl ?_
            refine a_iret rfl rfl rfl ?_
            rw [hM3]
            refine ⟨_, dy, _, rfl, rfl, ?_⟩; refine e_intro rfl rfl ?_
            refine x_opp rfl rfl ?_
            refine x_kcg rfl ?_
            refine a_putJ 19 (s_65 dy) rfl rfl rfl rfl ?_
            refine x_opp rfl rfl ?_
            refine a_callS rfl rfl rfl rfl (k_isGrid ?_)
            rw [hM4]
            refine a_ifF rfl rfl br_eqz (by first | exact hg | exact nt_f hg | exact tnf hg | exact fnt hg | exact Int32.not_lt.mp hg | exact Int32.not_le.mp hg | exact Int32.not_lt.mpr hg | exact Int32.not_le.mpr hg) ?_
            refine x_opp rfl rfl ?_
            refine x_kcg rfl ?_
            refine a_icF rfl rfl br_eq (by first | exact q | exact nt_f q | exact tnf q | exact fnt q | exact Int32.not_lt.mp q | exact Int32.not_le.mp q | exact Int32.not_lt.mpr q | exact Int32.not_le.mpr q) ?_
            refine x_opp rfl rfl ?_
            refine x_opp rfl rfl ?_
            refine a_callV (s_65 dy) rfl rfl rfl rfl (k_made hn16 k4 ?_)
            refine a_ifT rfl rfl br_nez (by first | exact q2 | exact nt_f q2 | exact tnf q2 | exact fnt q2 | exact Int32.not_lt.mp q2 | exact Int32.not_le.mp q2 | exact Int32.not_lt.mpr q2 | exact Int32.not_le.mpr q2) ?_
            refine x_opp rfl rfl ?_
            refine m_getg (s_65 dy) rfl rfl rfl ?_
            refine x_opp rfl rfl ?_
            refine a_baldN (s_66 dy) (k := G) rfl rfl rfl (by omega) (by decide) ?_
            refine a_ifT rfl rfl br_ne (by first | exact t4 | exact nt_f t4 | exact tnf t4 | exact fnt t4 | exact Int32.not_lt.mp t4 | exact Int32.not_le.mp t4 | exact Int32.not_lt.mpr t4 | exact Int32.not_le.mpr t4) ?_
            refine x_opp rfl rfl ?_
            refine a_ifF rfl rfl br_eqz (tnf rfl) ?_
            refine x_opp rfl rfl ?_
            refine m_getg (s_65 dy) rfl rfl rfl ?_
            refine x_opp rfl rfl ?_
            refine a_ialdN (s_74 dy) (k := G) rfl rfl rfl (by omega) (by decide) ?_
            refine x_go rfl ?_
            refine x_opp rfl rfl ?_
            refine x_opp rfl rfl ?_
            rw [s4]
            refine a_ifF rfl rfl br_eqz (tnf rfl) ?_
            refine x_opp rfl rfl ?_
            refine m_getg (s_65 dy) rfl rfl rfl ?_
            refine x_opp rfl rfl ?_
            refine x_opp rfl rfl ?_
            refine a_iastN (s_74 dy) (k := G) rfl rfl rfl (by omega) (by decide) ?_
            refine x_go rfl ?_
            refine x_opp rfl rfl ?_
            refine a_callV (s_65 dy) rfl rfl rfl rfl (k_changed ?_)
            refine x_opp rfl rfl ?_
            refine a_iret rfl rfl rfl ?_
            exact ⟨congrArg (fun x => some (Value.int x)) an, _, rfl, fin⟩
        | false =>
          obtain ⟨M3, hM3⟩ : ∃ M3, m_setI (m_setI M1 (45 + 5 * G) 7 v) 0 11 0 = M3 := ⟨_, rfl⟩
          obtain ⟨M4, hM4⟩ : ∃ M4, m_setI M3 65 19 0 = M4 := ⟨_, rfl⟩
          have t4 : ¬ M4.1 66 G = 0 := by rw [← hM4, ← hM3, mI_ne _ _ _ (by decide), mI_ne _ _ _ (by decide), mI_ne _ _ _ (by omega)]; exact th
          have s4 : M4.1 73 = M1.1 73 := by rw [← hM4, ← hM3, mI_ne _ _ _ (by decide), mI_ne _ _ _ (by decide), mI_ne _ _ _ (by omega)]
          have k4 : M4.1 65 9 = nI n := by rw [← hM4, mI_at, if_neg (by decide), ← hM3, mI_ne _ _ _ (by decide), mI_ne _ _ _ (by omega)]; exact k65
          have an : M1.1 73 G = M1.1 (45 + 5 * G) 7 := by rw [d1, d2]
          have fin : rR (t + 1) dy (m_setI (m_setI M4 73 G v) 65 38 0) := by
            subst hM4; subst hM3; subst hM1
            exact R_uses (f := 7) hN hL hQ hG hG4 (Or.inl rfl) hv k3 rfl
          rcases lst with rfl | ⟨q, q2⟩
          · refine x_opp rfl rfl ?_
            refine m_getg (s_0 dy) rfl rfl rfl ?_
            refine a_callV (s_1 dy) rfl rfl rfl rfl (c_clear (s_1 dy) ?_)
            refine x_opp rfl rfl ?_
            refine a_callS rfl rfl rfl rfl (c_isGridNumber ?_)
            rw [hM1]
            refine a_ifF rfl rfl br_eqz (by first | exact hg | exact nt_f hg | exact tnf hg | exact fnt hg | exact Int32.not_lt.mp hg | exact Int32.not_le.mp hg | exact Int32.not_lt.mpr hg | exact Int32.not_le.mpr hg) ?_
            refine x_opp rfl rfl ?_
            refine x_kcg rfl ?_
            refine a_icT rfl rfl br_eq (by first | exact rfl | exact nt_f rfl | exact tnf rfl | exact fnt rfl | exact Int32.not_lt.mp rfl | exact Int32.not_le.mp rfl | exact Int32.not_lt.mpr rfl | exact Int32.not_le.mpr rfl) ?_
            refine x_opp rfl rfl ?_
            refine m_getg (s_0 dy) rfl rfl rfl ?_
            refine x_opp rfl rfl ?_
            refine a_gr hG4 rfl rfl hgr ?_
            refine x_opp rfl rfl ?_
            refine x_opp rfl rfl ?_
            refine m_getg sg rfl rfl rfl ?_
            refine a_ifT rfl rfl br_ne (by first | exact th1 | exact nt_f th1 | exact tnf th1 | exact fnt th1 | exact Int32.not_lt.mp th1 | exact Int32.not_le.mp th1 | exact Int32.not_lt.mpr th1 | exact Int32.not_le.mpr th1) ?_
            refine x_opp rfl rfl ?_
            refine x_opp rfl rfl ?_
            refine a_callV sg rfl rfl rfl rfl (c_lF hG4 ?_)
            refine x_opp rfl rfl ?_
            refine x_opp rfl rfl ?_
            refine a_ifT rfl rfl br_eqz (by first | exact rfl | exact nt_f rfl | exact tnf rfl | exact fnt rfl | exact Int32.not_lt.mp rfl | exact Int32.not_le.mp rfl | exact Int32.not_lt.mpr rfl | exact Int32.not_le.mpr rfl) ?_
            refine x_opp rfl rfl ?_
            refine x_opp rfl rfl ?_
            refine a_putJ 7 sg rfl rfl rfl rfl ?_
            refine x_go rfl ?_
            refine x_opp rfl rfl ?_
            refine x_kcg rfl ?_
            refine a_putJ 11 (s_0 dy) rfl rfl rfl rfl ?_
            refine x_opp rfl rfl ?_
            refine a_iret rfl rfl rfl ?_
            rw [hM3]
            refine ⟨_, dy, _, rfl, rfl, ?_⟩; refine e_intro rfl rfl ?_
            refine x_opp rfl rfl ?_
            refine x_kcg rfl ?_
            refine a_putJ 19 (s_65 dy) rfl rfl rfl rfl ?_
            refine x_opp rfl rfl ?_
            refine a_callS rfl rfl rfl rfl (k_isGrid ?_)
            rw [hM4]
            refine a_ifF rfl rfl br_eqz (by first | exact hg | exact nt_f hg | exact tnf hg | exact fnt hg | exact Int32.not_lt.mp hg | exact Int32.not_le.mp hg | exact Int32.not_lt.mpr hg | exact Int32.not_le.mpr hg) ?_
            refine x_opp rfl rfl ?_
            refine x_kcg rfl ?_
            refine a_icT rfl rfl br_eq (by first | exact rfl | exact nt_f rfl | exact tnf rfl | exact fnt rfl | exact Int32.not_lt.mp rfl | exact Int32.not_le.mp rfl | exact Int32.not_lt.mpr rfl | exact Int32.not_le.mpr rfl) ?_
            refine x_opp rfl rfl ?_
            refine m_getg (s_65 dy) rfl rfl rfl ?_
            refine x_opp rfl rfl ?_
            refine a_baldN (s_66 dy) (k := G) rfl rfl rfl (by omega) (by decide) ?_
            refine a_ifT rfl rfl br_ne (by first | exact t4 | exact nt_f t4 | exact tnf t4 | exact fnt t4 | exact Int32.not_lt.mp t4 | exact Int32.not_le.mp t4 | exact Int32.not_lt.mpr t4 | exact Int32.not_le.mpr t4) ?_
            refine x_opp rfl rfl ?_
            refine a_ifT rfl rfl br_eqz (by first | exact rfl | exact nt_f rfl | exact tnf rfl | exact fnt rfl | exact Int32.not_lt.mp rfl | exact Int32.not_le.mp rfl | exact Int32.not_lt.mpr rfl | exact Int32.not_le.mpr rfl) ?_
            refine x_opp rfl rfl ?_
            refine m_getg (s_65 dy) rfl rfl rfl ?_
            refine x_opp rfl rfl ?_
            refine a_ialdN (s_73 dy) (k := G) rfl rfl rfl (by omega) (by decide) ?_
            refine x_go rfl ?_
            refine x_opp rfl rfl ?_
            refine x_opp rfl rfl ?_
            rw [s4]
            refine a_ifT rfl rfl br_eqz (by first | exact rfl | exact nt_f rfl | exact tnf rfl | exact fnt rfl | exact Int32.not_lt.mp rfl | exact Int32.not_le.mp rfl | exact Int32.not_lt.mpr rfl | exact Int32.not_le.mpr rfl) ?_
            refine x_opp rfl rfl ?_
            refine m_getg (s_65 dy) rfl rfl rfl ?_
            refine x_opp rfl rfl ?_
            refine x_opp rfl rfl ?_
            refine a_iastN (s_73 dy) (k := G) rfl rfl rfl (by omega) (by decide) ?_
            refine x_go rfl ?_
            refine x_opp rfl rfl ?_
            refine a_callV (s_65 dy) rfl rfl rfl rfl (k_changed ?_)
            refine x_opp rfl rfl ?_
            refine a_iret rfl rfl rfl ?_
            exact ⟨congrArg (fun x => some (Value.int x)) an, _, rfl, fin⟩
          · refine x_opp rfl rfl ?_
            refine m_getg (s_0 dy) rfl rfl rfl ?_
            refine a_callV (s_1 dy) rfl rfl rfl rfl (c_clear (s_1 dy) ?_)
            refine x_opp rfl rfl ?_
            refine a_callS rfl rfl rfl rfl (c_isGridNumber ?_)
            rw [hM1]
            refine a_ifF rfl rfl br_eqz (by first | exact hg | exact nt_f hg | exact tnf hg | exact fnt hg | exact Int32.not_lt.mp hg | exact Int32.not_le.mp hg | exact Int32.not_lt.mpr hg | exact Int32.not_le.mpr hg) ?_
            refine x_opp rfl rfl ?_
            refine x_kcg rfl ?_
            refine a_icF rfl rfl br_eq (by first | exact q | exact nt_f q | exact tnf q | exact fnt q | exact Int32.not_lt.mp q | exact Int32.not_le.mp q | exact Int32.not_lt.mpr q | exact Int32.not_le.mpr q) ?_
            refine x_opp rfl rfl ?_
            refine m_getg (s_0 dy) rfl rfl rfl ?_
            refine x_opp rfl rfl ?_
            refine a_callV (s_4 dy) rfl rfl rfl rfl (c_made c43 ?_)
            refine a_ifT rfl rfl br_nez (by first | exact q2 | exact nt_f q2 | exact tnf q2 | exact fnt q2 | exact Int32.not_lt.mp q2 | exact Int32.not_le.mp q2 | exact Int32.not_lt.mpr q2 | exact Int32.not_le.mpr q2) ?_
            refine x_opp rfl rfl ?_
            refine m_getg (s_0 dy) rfl rfl rfl ?_
            refine x_opp rfl rfl ?_
            refine a_gr hG4 rfl rfl hgr ?_
            refine x_opp rfl rfl ?_
            refine x_opp rfl rfl ?_
            refine m_getg sg rfl rfl rfl ?_
            refine a_ifT rfl rfl br_ne (by first | exact th1 | exact nt_f th1 | exact tnf th1 | exact fnt th1 | exact Int32.not_lt.mp th1 | exact Int32.not_le.mp th1 | exact Int32.not_lt.mpr th1 | exact Int32.not_le.mpr th1) ?_
            refine x_opp rfl rfl ?_
            refine x_opp rfl rfl ?_
            refine a_callV sg rfl rfl rfl rfl (c_lF hG4 ?_)
            refine x_opp rfl rfl ?_
            refine x_opp rfl rfl ?_
            refine a_ifT rfl rfl br_eqz (by first | exact rfl | exact nt_f rfl | exact tnf rfl | exact fnt rfl | exact Int32.not_lt.mp rfl | exact Int32.not_le.mp rfl | exact Int32.not_lt.mpr rfl | exact Int32.not_le.mpr rfl) ?_
            refine x_opp rfl rfl ?_
            refine x_opp rfl rfl ?_
            refine a_putJ 7 sg rfl rfl rfl rfl ?_
            refine x_go rfl ?_
            refine x_opp rfl rfl ?_
            refine x_kcg rfl ?_
            refine a_putJ 11 (s_0 dy) rfl rfl rfl rfl ?_
            refine x_opp rfl rfl ?_
            refine a_iret rfl rfl rfl ?_
            rw [hM3]
            refine ⟨_, dy, _, rfl, rfl, ?_⟩; refine e_intro rfl rfl ?_
            refine x_opp rfl rfl ?_
            refine x_kcg rfl ?_
            refine a_putJ 19 (s_65 dy) rfl rfl rfl rfl ?_
            refine x_opp rfl rfl ?_
            refine a_callS rfl rfl rfl rfl (k_isGrid ?_)
            rw [hM4]
            refine a_ifF rfl rfl br_eqz (by first | exact hg | exact nt_f hg | exact tnf hg | exact fnt hg | exact Int32.not_lt.mp hg | exact Int32.not_le.mp hg | exact Int32.not_lt.mpr hg | exact Int32.not_le.mpr hg) ?_
            refine x_opp rfl rfl ?_
            refine x_kcg rfl ?_
            refine a_icF rfl rfl br_eq (by first | exact q | exact nt_f q | exact tnf q | exact fnt q | exact Int32.not_lt.mp q | exact Int32.not_le.mp q | exact Int32.not_lt.mpr q | exact Int32.not_le.mpr q) ?_
            refine x_opp rfl rfl ?_
            refine x_opp rfl rfl ?_
            refine a_callV (s_65 dy) rfl rfl rfl rfl (k_made hn16 k4 ?_)
            refine a_ifT rfl rfl br_nez (by first | exact q2 | exact nt_f q2 | exact tnf q2 | exact fnt q2 | exact Int32.not_lt.mp q2 | exact Int32.not_le.mp q2 | exact Int32.not_lt.mpr q2 | exact Int32.not_le.mpr q2) ?_
            refine x_opp rfl rfl ?_
            refine m_getg (s_65 dy) rfl rfl rfl ?_
            refine x_opp rfl rfl ?_
            refine a_baldN (s_66 dy) (k := G) rfl rfl rfl (by omega) (by decide) ?_
            refine a_ifT rfl rfl br_ne (by first | exact t4 | exact nt_f t4 | exact tnf t4 | exact fnt t4 | exact Int32.not_lt.mp t4 | exact Int32.not_le.mp t4 | exact Int32.not_lt.mpr t4 | exact Int32.not_le.mpr t4) ?_
            refine x_opp rfl rfl ?_
            refine a_ifT rfl rfl br_eqz (by first | exact rfl | exact nt_f rfl | exact tnf rfl | exact fnt rfl | exact Int32.not_lt.mp rfl | exact Int32.not_le.mp rfl | exact Int32.not_lt.mpr rfl | exact Int32.not_le.mpr rfl) ?_
            refine x_opp rfl rfl ?_
            refine m_getg (s_65 dy) rfl rfl rfl ?_
            refine x_opp rfl rfl ?_
            refine a_ialdN (s_73 dy) (k := G) rfl rfl rfl (by omega) (by decide) ?_
            refine x_go rfl ?_
            refine x_opp rfl rfl ?_
            refine x_opp rfl rfl ?_
            rw [s4]
            refine a_ifT rfl rfl br_eqz (by first | exact rfl | exact nt_f rfl | exact tnf rfl | exact fnt rfl | exact Int32.not_lt.mp rfl | exact Int32.not_le.mp rfl | exact Int32.not_lt.mpr rfl | exact Int32.not_le.mpr rfl) ?_
            refine x_opp rfl rfl ?_
            refine m_getg (s_65 dy) rfl rfl rfl ?_
            refine x_opp rfl rfl ?_
            refine x_opp rfl rfl ?_
            refine a_iastN (s_73 dy) (k := G) rfl rfl rfl (by omega) (by decide) ?_
            refine x_go rfl ?_
            refine x_opp rfl rfl ?_
            refine a_callV (s_65 dy) rfl rfl rfl rfl (k_changed ?_)
            refine x_opp rfl rfl ?_
            refine a_iret rfl rfl rfl ?_
            exact ⟨congrArg (fun x => some (Value.int x)) an, _, rfl, fin⟩
    · refine x_opp rfl rfl ?_
      refine m_getg (s_0 dy) rfl rfl rfl ?_
      refine a_callV (s_1 dy) rfl rfl rfl rfl (c_clear (s_1 dy) ?_)
      refine x_opp rfl rfl ?_
      refine a_callS rfl rfl rfl rfl (c_isGridNumber ?_)
      rw [hM1]
      refine a_ifF rfl rfl br_eqz (by first | exact hg | exact nt_f hg | exact tnf hg | exact fnt hg | exact Int32.not_lt.mp hg | exact Int32.not_le.mp hg | exact Int32.not_lt.mpr hg | exact Int32.not_le.mpr hg) ?_
      refine x_opp rfl rfl ?_
      refine x_kcg rfl ?_
      refine a_icF rfl rfl br_eq (by first | exact q1 | exact nt_f q1 | exact tnf q1 | exact fnt q1 | exact Int32.not_lt.mp q1 | exact Int32.not_le.mp q1 | exact Int32.not_lt.mpr q1 | exact Int32.not_le.mpr q1) ?_
      refine x_opp rfl rfl ?_
      refine m_getg (s_0 dy) rfl rfl rfl ?_
      refine x_opp rfl rfl ?_
      refine a_callV (s_4 dy) rfl rfl rfl rfl (c_made c43 ?_)
      refine a_ifF rfl rfl br_nez (by first | exact q2 | exact nt_f q2 | exact tnf q2 | exact fnt q2 | exact Int32.not_lt.mp q2 | exact Int32.not_le.mp q2 | exact Int32.not_lt.mpr q2 | exact Int32.not_le.mpr q2) ?_
      refine x_kcg rfl ?_
      refine a_iret rfl rfl rfl ?_
      refine ⟨_, dy, _, rfl, rfl, ?_⟩; refine e_intro rfl rfl ?_
      refine x_opp rfl rfl ?_
      refine x_kcg rfl ?_
      refine a_putJ 19 (s_65 dy) rfl rfl rfl rfl ?_
      refine x_opp rfl rfl ?_
      refine a_callS rfl rfl rfl rfl (k_isGrid ?_)
      rw [hM2]
      refine a_ifF rfl rfl br_eqz (by first | exact hg | exact nt_f hg | exact tnf hg | exact fnt hg | exact Int32.not_lt.mp hg | exact Int32.not_le.mp hg | exact Int32.not_lt.mpr hg | exact Int32.not_le.mpr hg) ?_
      refine x_opp rfl rfl ?_
      refine x_kcg rfl ?_
      refine a_icF rfl rfl br_eq (by first | exact q1 | exact nt_f q1 | exact tnf q1 | exact fnt q1 | exact Int32.not_lt.mp q1 | exact Int32.not_le.mp q1 | exact Int32.not_lt.mpr q1 | exact Int32.not_le.mpr q1) ?_
      refine x_opp rfl rfl ?_
      refine x_opp rfl rfl ?_
      refine a_callV (s_65 dy) rfl rfl rfl rfl (k_made hn16 k12' ?_)
      refine a_ifF rfl rfl br_nez (by first | exact q2 | exact nt_f q2 | exact tnf q2 | exact fnt q2 | exact Int32.not_lt.mp q2 | exact Int32.not_le.mp q2 | exact Int32.not_lt.mpr q2 | exact Int32.not_le.mpr q2) ?_
      refine x_kcg rfl ?_
      refine a_iret rfl rfl rfl ?_
      subst hM2; subst hM1; exact ⟨rfl, _, rfl, R_cl hR⟩
  · refine x_opp rfl rfl ?_
    refine m_getg (s_0 dy) rfl rfl rfl ?_
    refine a_callV (s_1 dy) rfl rfl rfl rfl (c_clear (s_1 dy) ?_)
    refine x_opp rfl rfl ?_
    refine a_callS rfl rfl rfl rfl (c_isGridNumber ?_)
    rw [hM1]
    refine a_ifT rfl rfl br_eqz (by first | exact hg | exact nt_f hg | exact tnf hg | exact fnt hg | exact Int32.not_lt.mp hg | exact Int32.not_le.mp hg | exact Int32.not_lt.mpr hg | exact Int32.not_le.mpr hg) ?_
    refine x_kcg rfl ?_
    refine a_iret rfl rfl rfl ?_
    refine ⟨_, dy, _, rfl, rfl, ?_⟩; refine e_intro rfl rfl ?_
    refine x_opp rfl rfl ?_
    refine x_kcg rfl ?_
    refine a_putJ 19 (s_65 dy) rfl rfl rfl rfl ?_
    refine x_opp rfl rfl ?_
    refine a_callS rfl rfl rfl rfl (k_isGrid ?_)
    rw [hM2]
    refine a_ifT rfl rfl br_eqz (by first | exact hg | exact nt_f hg | exact tnf hg | exact fnt hg | exact Int32.not_lt.mp hg | exact Int32.not_le.mp hg | exact Int32.not_lt.mpr hg | exact Int32.not_le.mpr hg) ?_
    refine x_kcg rfl ?_
    refine a_iret rfl rfl rfl ?_
    subst hM2; subst hM1; exact ⟨rfl, _, rfl, R_cl hR⟩
end PH
