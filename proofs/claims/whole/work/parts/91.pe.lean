/-! pairs: a black, a bar -/
theorem mI_self (M : mm_T) (a i : Nat) : m_setI M a i (M.1 a i) = M := by
  refine Prod.ext (funext fun b => funext fun j => ?_) rfl
  rw [mI_at]
  split
  · rename_i h
    obtain ⟨rfl, rfl⟩ := h
    rfl
  · rfl
theorem bar_new {m : Nat} (hm : m < 32) (x y : Int32) (o : Bool) : ((if o = true then (nI m + (if x = 0 then 0 else 32) + (if y = 0 then 0 else 64)) ||| 32 else (nI m + (if x = 0 then 0 else 32) + (if y = 0 then 0 else 64)) &&& (32 ^^^ (-1))) = nI m + (if zz o = 0 then 0 else 32) + (if y = 0 then 0 else 64)) ∧ ((if o = true then (nI m + (if x = 0 then 0 else 32) + (if y = 0 then 0 else 64)) ||| 64 else (nI m + (if x = 0 then 0 else 32) + (if y = 0 then 0 else 64)) &&& (64 ^^^ (-1))) = nI m + (if x = 0 then 0 else 32) + (if zz o = 0 then 0 else 64)) := by
  have k := br_dec m hm (decide (x = 0)) (decide (y = 0))
  simp only [decide_eq_true_eq] at k
  cases o
  · exact ⟨k.2.1, k.2.2.2⟩
  · exact ⟨k.1, k.2.2.1⟩
section PE
variable {L : Nat} {xs : Nat → Int32} {t d : Nat} {dy : List sh_T} {M : mm_T} {Q : Option Value → sm_W → Prop} {n G : Nat}
/-- nothing has changed but that a searching can't go on -/
theorem R_same {M' : mm_T} {x : Nat} (h : rR t dy M) (e : M' = m_setI (m_setI (m_setI (m_setI (m_setI M 1 5 0) 0 11 0) 65 19 0) 70 x (M.1 70 x)) 65 38 0) : rR (t + 1) dy M' := by
  obtain ⟨s, E, P, w, n, hG, hN, hL, hS, hQ⟩ := h
  have e' : M' = m_setI (m_setI (m_setI (m_setI M 1 5 0) 0 11 0) 65 19 0) 65 38 0 := by
    have := mI_self (m_setI (m_setI (m_setI M 1 5 0) 0 11 0) 65 19 0) 70 x
    rw [e]
    exact congrArg (fun K => m_setI K 65 38 0) this
  exact R_g hN hL hQ (rG_fr hG (Nat.le_refl n) (by subst e'; exact (fun a i h => by repeat (first | rw [mI_at, if_neg (by omega)] | rw [mA_at, if_neg (by omega)] | rw [mL_1] | rw [mR_1]))) (by rw [e']; rfl)) (by subst e'; exact (fun a i h => by repeat (first | rw [mI_at, if_neg (by omega)] | rw [mA_at, if_neg (by omega)] | rw [mL_1] | rw [mR_1]))) (by rw [e']; rfl) (by rw [e']; rfl) (by subst e'; (repeat (first | rw [mI_at, if_neg (by omega)] | rw [mI_at, if_pos ⟨rfl, rfl⟩] | rw [mA_at, if_neg (by omega)] | rw [mA_at, if_pos rfl] | rw [mL_1] | rw [mR_1]))) (by subst e'; (repeat (first | rw [mI_at, if_neg (by omega)] | rw [mI_at, if_pos ⟨rfl, rfl⟩] | rw [mA_at, if_neg (by omega)] | rw [mA_at, if_pos rfl] | rw [mL_1] | rw [mR_1]))) (by subst e'; (repeat (first | rw [mI_at, if_neg (by omega)] | rw [mI_at, if_pos ⟨rfl, rfl⟩] | rw [mA_at, if_neg (by omega)] | rw [mA_at, if_pos rfl] | rw [mL_1] | rw [mR_1])))
set_option maxRecDepth 4000 in
theorem p_black {g r c : Int32} {b : Bool} (h : rR t dy M) : pr L xs t dy M 22 158 [.int g, .int r, .int c, .int (zz b)] := by
  have hR := h; obtain ⟨s, E, P, w, n, hG, hN, hL, hS, hQ⟩ := h; have z0 : (0 : Int32) = 0 := rfl; have z1 : (0 : Int32) ≤ 0 := (by decide); have z11 : ¬ (1 : Int32) = 0 := (by decide); have z12 : ¬ (1 : Int32) ≤ 0 := (by decide); obtain ⟨M1, hM1⟩ : ∃ M1, m_setI M 1 5 0 = M1 := ⟨_, rfl⟩; have g1 : rG M1 n := hM1 ▸ rG_c hG; obtain ⟨M2, hM2⟩ : ∃ M2, m_setI M1 65 19 0 = M2 := ⟨_, rfl⟩; have g2 : rG M2 n := hM2 ▸ rG_z g1
  unfold pr; refine e_intro rfl rfl ?_
  by_cases hg : gRow 4 g = true
  · obtain ⟨G, hG4, rfl⟩ := gRow4 hg
    have hgr := g1.2.1 G hG4; obtain ⟨sg, sc, sl, ssp, sre, sne⟩ := gsh_at dy G hG4
    rcases gSR_r (M1.1 66 G) (M1.1 67 G) (mL M1 G) r c with e | ⟨k, hk, e⟩
    · obtain ⟨i, j, rfl, rfl, i1, i2, i3, i4, i5⟩ := sr_0 g1 hG4 e
      have e1 : sr M1 G (nI i) (nI j) = 0 := e
      obtain ⟨u1, u2, u3, u4⟩ := rG_vis g1 hG4 i3 i4 i1 i2
      obtain ⟨-, -, -, -, -, -, -, -, -, mk, -⟩ := rG_v g1 hG4
      have wr : ∀ M4, (∀ a i, 66 ≤ a → a ≤ 69 → M4.1 a i = M1.1 a i) → gSR (M4.1 66 G) (M4.1 67 G) (mL M4 G) (nI i) (nI j) = 0 ∧ mgOK M4 G := fun M4 f4 => ⟨(sr_fr (r := nI i) (c := nI j) (G := G) f4).trans e, mgOK_fr f4 mk⟩
      have on : ∀ v : Nat, v < 32 → ((b = true ∧ v = 27) ∨ (b = false ∧ M1.1 70 (49 * G + (i * 7 + j)) = 27 ∧ v = 0)) → sm_X L xs 99 22 0 (sm_code 22 0) (lv_args 0 [.ref 0, .int (nI G), .int (nI i), .int (nI j), .int (zz b)]) [] (wm (sh0 ++ dy) M) (fun r w => ∃ v dy1 M1, r = some v ∧ w = wm (sh0 ++ dy1) M1 ∧ sm_E L xs 100 158 (.ref 65 :: [.int (nI G), .int (nI i), .int (nI j), .int (zz b)]) (wm (sh0 ++ dy1) M1) (fun r w => r = some v ∧ ∃ M2, w = wm (sh0 ++ dy1) M2 ∧ rR (t + 1) dy1 M2)) := by
        intro v hv hb
        rcases hb with ⟨rfl, rfl⟩ | ⟨rfl, q, rfl⟩
        · refine x_opp rfl rfl ?_
          refine m_getg (s_0 dy) rfl rfl rfl ?_
          refine a_callV (s_1 dy) rfl rfl rfl rfl (c_clear (s_1 dy) ?_)
          refine x_opp rfl rfl ?_
          refine a_callS rfl rfl rfl rfl (c_isGridNumber ?_)
          rw [hM1]
          refine a_ifT rfl rfl br_nez (by first | exact hg | exact nt_f hg | exact tnf hg | exact fnt hg | exact Int32.not_lt.mp hg | exact Int32.not_le.mp hg | exact Int32.not_lt.mpr hg | exact Int32.not_le.mpr hg) ?_
          refine x_opp rfl rfl ?_
          refine m_getg (s_0 dy) rfl rfl rfl ?_
          refine x_opp rfl rfl ?_
          refine a_gr hG4 rfl rfl hgr ?_
          iterate 4 (refine x_opp rfl rfl ?_)
          refine a_callV sg rfl rfl rfl rfl (c_sq hG4 g1 ?_)
          rw [e1]
          refine x_opp rfl rfl ?_
          refine x_opp rfl rfl ?_
          refine a_ifT rfl rfl br_eq (by decide) ?_
          iterate 3 (refine x_opp rfl rfl ?_)
          refine a_callV sg rfl rfl rfl rfl (c_sign hG4 i1 i2 ?_)
          rw [u2]
          refine x_opp rfl rfl ?_
          refine x_opp rfl rfl ?_
          refine a_ifF rfl rfl br_eqz (tnf rfl) ?_
          iterate 3 (refine x_opp rfl rfl ?_)
          refine x_kcg rfl ?_
          refine a_callV sg rfl rfl rfl rfl (c_pSign hG4 i1 i2 ?_)
          refine x_go rfl ?_
          refine x_opp rfl rfl ?_
          refine x_kcg rfl ?_
          refine a_putJ 11 (s_0 dy) rfl rfl rfl rfl ?_
          refine x_opp rfl rfl ?_
          refine a_iret rfl rfl rfl ?_
          obtain ⟨M3, hM3⟩ : ∃ M3, m_setI (m_setI M1 (46 + 5 * G) (i * 7 + j) (M1.1 (46 + 5 * G) (i * 7 + j) &&& (-32) ||| 27)) 0 11 0 = M3 := ⟨_, rfl⟩
          rw [hM3]
          refine ⟨_, dy, _, rfl, rfl, ?_⟩; refine e_intro rfl rfl ?_
          obtain ⟨M4, hM4⟩ : ∃ M4, m_setI M3 65 19 0 = M4 := ⟨_, rfl⟩
          have f4 : ∀ a i, 66 ≤ a → a ≤ 69 → M4.1 a i = M1.1 a i := fun a i x y => by rw [← hM4, ← hM3]; repeat (first | rw [mI_at, if_neg (by omega)])
          obtain ⟨e2, mk4⟩ := wr M4 f4
          have s4 : M4.1 70 = M1.1 70 := by rw [← hM4, ← hM3, mI_ne _ _ _ (by decide), mI_ne _ _ _ (by decide), mI_ne _ _ _ (by omega)]
          refine x_opp rfl rfl ?_
          refine x_kcg rfl ?_
          refine a_putJ 19 (s_65 dy) rfl rfl rfl rfl ?_
          refine x_opp rfl rfl ?_
          refine a_callS rfl rfl rfl rfl (k_isGrid ?_)
          rw [hM4]
          refine a_ifT rfl rfl br_nez (by first | exact hg | exact nt_f hg | exact tnf hg | exact fnt hg | exact Int32.not_lt.mp hg | exact Int32.not_le.mp hg | exact Int32.not_lt.mpr hg | exact Int32.not_le.mpr hg) ?_
          iterate 4 (refine x_opp rfl rfl ?_)
          refine a_callV (s_65 dy) rfl rfl rfl rfl (k_wrong hG4 mk4 ?_)
          rw [e2]
          refine x_opp rfl rfl ?_
          refine x_opp rfl rfl ?_
          refine a_ifT rfl rfl br_le (by decide) ?_
          refine x_opp rfl rfl ?_
          refine m_getg (s_65 dy) rfl rfl rfl ?_
          iterate 3 (refine x_opp rfl rfl ?_)
          refine a_callS rfl rfl rfl rfl (k_sq ?_)
          refine a_ialdN (s_70 dy) (k := 49 * G + (i * 7 + j)) rfl rfl rfl (by omega) (by decide) ?_
          refine x_opp rfl rfl ?_
          refine x_opp rfl rfl ?_
          refine m_getg (s_65 dy) rfl rfl rfl ?_
          iterate 3 (refine x_opp rfl rfl ?_)
          rw [s4]
          refine a_callS rfl rfl rfl rfl (k_sq ?_)
          refine x_opp rfl rfl ?_
          refine a_ifF rfl rfl br_eqz (tnf rfl) ?_
          refine x_kcg rfl ?_
          refine x_go rfl ?_
          refine a_iastN (s_70 dy) (k := 49 * G + (i * 7 + j)) rfl rfl rfl (by omega) (by decide) ?_
          refine x_opp rfl rfl ?_
          refine a_callV (s_65 dy) rfl rfl rfl rfl (k_changed ?_)
          refine x_opp rfl rfl ?_
          refine a_iret rfl rfl rfl ?_
          refine ⟨rfl, _, rfl, ?_⟩
          subst hM4
          subst hM3
          subst hM1
          exact R_sign hN hL hQ hG hG4 hv i3 i4 i1 i2 (by rw [mI_ne _ _ _ (by omega)]) rfl
        · have qn : ¬ (27 : Int32) ≠ 27 := fun h => h rfl
          refine x_opp rfl rfl ?_
          refine m_getg (s_0 dy) rfl rfl rfl ?_
          refine a_callV (s_1 dy) rfl rfl rfl rfl (c_clear (s_1 dy) ?_)
          refine x_opp rfl rfl ?_
          refine a_callS rfl rfl rfl rfl (c_isGridNumber ?_)
          rw [hM1]
          refine a_ifT rfl rfl br_nez (by first | exact hg | exact nt_f hg | exact tnf hg | exact fnt hg | exact Int32.not_lt.mp hg | exact Int32.not_le.mp hg | exact Int32.not_lt.mpr hg | exact Int32.not_le.mpr hg) ?_
          refine x_opp rfl rfl ?_
          refine m_getg (s_0 dy) rfl rfl rfl ?_
          refine x_opp rfl rfl ?_
          refine a_gr hG4 rfl rfl hgr ?_
          iterate 4 (refine x_opp rfl rfl ?_)
          refine a_callV sg rfl rfl rfl rfl (c_sq hG4 g1 ?_)
          rw [e1]
          refine x_opp rfl rfl ?_
          refine x_opp rfl rfl ?_
          refine a_ifT rfl rfl br_eq (by decide) ?_
          iterate 3 (refine x_opp rfl rfl ?_)
          refine a_callV sg rfl rfl rfl rfl (c_sign hG4 i1 i2 ?_)
          rw [u2, q]
          refine x_opp rfl rfl ?_
          refine x_opp rfl rfl ?_
          refine a_ifT rfl rfl br_eqz (by first | exact rfl | exact nt_f rfl | exact tnf rfl | exact fnt rfl | exact Int32.not_lt.mp rfl | exact Int32.not_le.mp rfl | exact Int32.not_lt.mpr rfl | exact Int32.not_le.mpr rfl) ?_
          refine x_opp rfl rfl ?_
          refine x_kcg rfl ?_
          refine a_icF rfl rfl br_ne (by first | exact qn | exact nt_f qn | exact tnf qn | exact fnt qn | exact Int32.not_lt.mp qn | exact Int32.not_le.mp qn | exact Int32.not_lt.mpr qn | exact Int32.not_le.mpr qn) ?_
          iterate 3 (refine x_opp rfl rfl ?_)
          refine x_kcg rfl ?_
          refine a_callV sg rfl rfl rfl rfl (c_pSign hG4 i1 i2 ?_)
          refine x_go rfl ?_
          refine x_opp rfl rfl ?_
          refine x_kcg rfl ?_
          refine a_putJ 11 (s_0 dy) rfl rfl rfl rfl ?_
          refine x_opp rfl rfl ?_
          refine a_iret rfl rfl rfl ?_
          obtain ⟨M3, hM3⟩ : ∃ M3, m_setI (m_setI M1 (46 + 5 * G) (i * 7 + j) (M1.1 (46 + 5 * G) (i * 7 + j) &&& (-32) ||| 0)) 0 11 0 = M3 := ⟨_, rfl⟩
          rw [hM3]
          refine ⟨_, dy, _, rfl, rfl, ?_⟩; refine e_intro rfl rfl ?_
          obtain ⟨M4, hM4⟩ : ∃ M4, m_setI M3 65 19 0 = M4 := ⟨_, rfl⟩
          have f4 : ∀ a i, 66 ≤ a → a ≤ 69 → M4.1 a i = M1.1 a i := fun a i x y => by rw [← hM4, ← hM3]; repeat (first | rw [mI_at, if_neg (by omega)])
          obtain ⟨e2, mk4⟩ := wr M4 f4
          have s4 : M4.1 70 = M1.1 70 := by rw [← hM4, ← hM3, mI_ne _ _ _ (by decide), mI_ne _ _ _ (by decide), mI_ne _ _ _ (by omega)]
          refine x_opp rfl rfl ?_
          refine x_kcg rfl ?_
          refine a_putJ 19 (s_65 dy) rfl rfl rfl rfl ?_
          refine x_opp rfl rfl ?_
          refine a_callS rfl rfl rfl rfl (k_isGrid ?_)
          rw [hM4]
          refine a_ifT rfl rfl br_nez (by first | exact hg | exact nt_f hg | exact tnf hg | exact fnt hg | exact Int32.not_lt.mp hg | exact Int32.not_le.mp hg | exact Int32.not_lt.mpr hg | exact Int32.not_le.mpr hg) ?_
          iterate 4 (refine x_opp rfl rfl ?_)
          refine a_callV (s_65 dy) rfl rfl rfl rfl (k_wrong hG4 mk4 ?_)
          rw [e2]
          refine x_opp rfl rfl ?_
          refine x_opp rfl rfl ?_
          refine a_ifT rfl rfl br_le (by decide) ?_
          refine x_opp rfl rfl ?_
          refine m_getg (s_65 dy) rfl rfl rfl ?_
          iterate 3 (refine x_opp rfl rfl ?_)
          refine a_callS rfl rfl rfl rfl (k_sq ?_)
          refine a_ialdN (s_70 dy) (k := 49 * G + (i * 7 + j)) rfl rfl rfl (by omega) (by decide) ?_
          refine x_opp rfl rfl ?_
          refine x_opp rfl rfl ?_
          refine m_getg (s_65 dy) rfl rfl rfl ?_
          iterate 3 (refine x_opp rfl rfl ?_)
          rw [s4, q]
          refine a_callS rfl rfl rfl rfl (k_sq ?_)
          refine x_opp rfl rfl ?_
          refine a_ifT rfl rfl br_eqz (by first | exact rfl | exact nt_f rfl | exact tnf rfl | exact fnt rfl | exact Int32.not_lt.mp rfl | exact Int32.not_le.mp rfl | exact Int32.not_lt.mpr rfl | exact Int32.not_le.mpr rfl) ?_
          refine x_opp rfl rfl ?_
          refine x_kcg rfl ?_
          refine a_icF rfl rfl br_ne (by first | exact qn | exact nt_f qn | exact tnf qn | exact fnt qn | exact Int32.not_lt.mp qn | exact Int32.not_le.mp qn | exact Int32.not_lt.mpr qn | exact Int32.not_le.mpr qn) ?_
          refine x_kcg rfl ?_
          refine x_go rfl ?_
          refine a_iastN (s_70 dy) (k := 49 * G + (i * 7 + j)) rfl rfl rfl (by omega) (by decide) ?_
          refine x_opp rfl rfl ?_
          refine a_callV (s_65 dy) rfl rfl rfl rfl (k_changed ?_)
          refine x_opp rfl rfl ?_
          refine a_iret rfl rfl rfl ?_
          refine ⟨rfl, _, rfl, ?_⟩
          subst hM4
          subst hM3
          subst hM1
          exact R_sign hN hL hQ hG hG4 hv i3 i4 i1 i2 (by rw [mI_ne _ _ _ (by omega)]) rfl
      cases b with
      | true => exact on 27 (by decide) (Or.inl ⟨rfl, rfl⟩)
      | false =>
        by_cases q : M1.1 70 (49 * G + (i * 7 + j)) = 27
        · exact on 0 (by decide) (Or.inr ⟨rfl, q, rfl⟩)
        · refine x_opp rfl rfl ?_
          refine m_getg (s_0 dy) rfl rfl rfl ?_
          refine a_callV (s_1 dy) rfl rfl rfl rfl (c_clear (s_1 dy) ?_)
          refine x_opp rfl rfl ?_
          refine a_callS rfl rfl rfl rfl (c_isGridNumber ?_)
          rw [hM1]
          refine a_ifT rfl rfl br_nez (by first | exact hg | exact nt_f hg | exact tnf hg | exact fnt hg | exact Int32.not_lt.mp hg | exact Int32.not_le.mp hg | exact Int32.not_lt.mpr hg | exact Int32.not_le.mpr hg) ?_
          refine x_opp rfl rfl ?_
          refine m_getg (s_0 dy) rfl rfl rfl ?_
          refine x_opp rfl rfl ?_
          refine a_gr hG4 rfl rfl hgr ?_
          iterate 4 (refine x_opp rfl rfl ?_)
          refine a_callV sg rfl rfl rfl rfl (c_sq hG4 g1 ?_)
          rw [e1]
          refine x_opp rfl rfl ?_
          refine x_opp rfl rfl ?_
          refine a_ifT rfl rfl br_eq (by decide) ?_
          iterate 3 (refine x_opp rfl rfl ?_)
          refine a_callV sg rfl rfl rfl rfl (c_sign hG4 i1 i2 ?_)
          rw [u2]
          refine x_opp rfl rfl ?_
          refine x_opp rfl rfl ?_
          refine a_ifT rfl rfl br_eqz (by first | exact rfl | exact nt_f rfl | exact tnf rfl | exact fnt rfl | exact Int32.not_lt.mp rfl | exact Int32.not_le.mp rfl | exact Int32.not_lt.mpr rfl | exact Int32.not_le.mpr rfl) ?_
          refine x_opp rfl rfl ?_
          refine x_kcg rfl ?_
          refine a_icT rfl rfl br_ne (by first | exact q | exact nt_f q | exact tnf q | exact fnt q | exact Int32.not_lt.mp q | exact Int32.not_le.mp q | exact Int32.not_lt.mpr q | exact Int32.not_le.mpr q) ?_
          refine x_opp rfl rfl ?_
          refine x_kcg rfl ?_
          refine a_putJ 11 (s_0 dy) rfl rfl rfl rfl ?_
          refine x_opp rfl rfl ?_
          refine a_iret rfl rfl rfl ?_
          obtain ⟨M3, hM3⟩ : ∃ M3, m_setI M1 0 11 0 = M3 := ⟨_, rfl⟩
          rw [hM3]
          refine ⟨_, dy, _, rfl, rfl, ?_⟩; refine e_intro rfl rfl ?_
          obtain ⟨M4, hM4⟩ : ∃ M4, m_setI M3 65 19 0 = M4 := ⟨_, rfl⟩
          have f4 : ∀ a i, 66 ≤ a → a ≤ 69 → M4.1 a i = M1.1 a i := fun a i x y => by rw [← hM4, ← hM3]; repeat (first | rw [mI_at, if_neg (by omega)])
          obtain ⟨e2, mk4⟩ := wr M4 f4
          have s4 : M4.1 70 = M1.1 70 := by rw [← hM4, ← hM3, mI_ne _ _ _ (by decide), mI_ne _ _ _ (by decide)]
          refine x_opp rfl rfl ?_
          refine x_kcg rfl ?_
          refine a_putJ 19 (s_65 dy) rfl rfl rfl rfl ?_
          refine x_opp rfl rfl ?_
          refine a_callS rfl rfl rfl rfl (k_isGrid ?_)
          rw [hM4]
          refine a_ifT rfl rfl br_nez (by first | exact hg | exact nt_f hg | exact tnf hg | exact fnt hg | exact Int32.not_lt.mp hg | exact Int32.not_le.mp hg | exact Int32.not_lt.mpr hg | exact Int32.not_le.mpr hg) ?_
          iterate 4 (refine x_opp rfl rfl ?_)
          refine a_callV (s_65 dy) rfl rfl rfl rfl (k_wrong hG4 mk4 ?_)
          rw [e2]
          refine x_opp rfl rfl ?_
          refine x_opp rfl rfl ?_
          refine a_ifT rfl rfl br_le (by decide) ?_
          refine x_opp rfl rfl ?_
          refine m_getg (s_65 dy) rfl rfl rfl ?_
          iterate 3 (refine x_opp rfl rfl ?_)
          refine a_callS rfl rfl rfl rfl (k_sq ?_)
          refine a_ialdN (s_70 dy) (k := 49 * G + (i * 7 + j)) rfl rfl rfl (by omega) (by decide) ?_
          refine x_opp rfl rfl ?_
          refine x_opp rfl rfl ?_
          refine m_getg (s_65 dy) rfl rfl rfl ?_
          iterate 3 (refine x_opp rfl rfl ?_)
          rw [s4]
          refine a_callS rfl rfl rfl rfl (k_sq ?_)
          refine x_opp rfl rfl ?_
          refine a_ifT rfl rfl br_eqz (by first | exact rfl | exact nt_f rfl | exact tnf rfl | exact fnt rfl | exact Int32.not_lt.mp rfl | exact Int32.not_le.mp rfl | exact Int32.not_lt.mpr rfl | exact Int32.not_le.mpr rfl) ?_
          refine x_opp rfl rfl ?_
          refine x_kcg rfl ?_
          refine a_icT rfl rfl br_ne (by first | exact q | exact nt_f q | exact tnf q | exact fnt q | exact Int32.not_lt.mp q | exact Int32.not_le.mp q | exact Int32.not_lt.mpr q | exact Int32.not_le.mpr q) ?_
          refine x_opp rfl rfl ?_
          refine x_go rfl ?_
          refine a_iastN (s_70 dy) (k := 49 * G + (i * 7 + j)) rfl rfl rfl (by omega) (by decide) ?_
          refine x_opp rfl rfl ?_
          refine a_callV (s_65 dy) rfl rfl rfl rfl (k_changed ?_)
          refine x_opp rfl rfl ?_
          refine a_iret rfl rfl rfl ?_
          refine ⟨rfl, _, rfl, ?_⟩
          subst hM4
          subst hM3
          subst hM1
          exact R_same hR rfl
    · have e1 : sr M1 G r c = nI k := e
      have e2 : sr (m_setI (nFind M1 1 3 (nI k)) 65 19 0) G r c = nI k := by rw [sr_f]; exact e
      have g3 : rG (m_setI (nFind M1 1 3 (nI k)) 65 19 0) n := rG_z (rG_f g1)
      obtain ⟨hk0, hk1, hk6⟩ := k12 hk
      refine x_opp rfl rfl ?_
      refine m_getg (s_0 dy) rfl rfl rfl ?_
      refine a_callV (s_1 dy) rfl rfl rfl rfl (c_clear (s_1 dy) ?_)
      refine x_opp rfl rfl ?_
      refine a_callS rfl rfl rfl rfl (c_isGridNumber ?_)
      rw [hM1]
      refine a_ifT rfl rfl br_nez (by first | exact hg | exact nt_f hg | exact tnf hg | exact fnt hg | exact Int32.not_lt.mp hg | exact Int32.not_le.mp hg | exact Int32.not_lt.mpr hg | exact Int32.not_le.mpr hg) ?_
      refine x_opp rfl rfl ?_
      refine m_getg (s_0 dy) rfl rfl rfl ?_
      refine x_opp rfl rfl ?_
      refine a_gr hG4 rfl rfl hgr ?_
      iterate 4 (refine x_opp rfl rfl ?_)
      refine a_callV sg rfl rfl rfl rfl (c_sq hG4 g1 ?_)
      rw [e1]
      refine x_opp rfl rfl ?_
      refine x_opp rfl rfl ?_
      refine a_ifF rfl rfl br_eq (by first | exact hk0 | exact nt_f hk0 | exact tnf hk0 | exact fnt hk0 | exact Int32.not_lt.mp hk0 | exact Int32.not_le.mp hk0 | exact Int32.not_lt.mpr hk0 | exact Int32.not_le.mpr hk0) ?_
      refine x_opp rfl rfl ?_
      refine m_getg (s_0 dy) rfl rfl rfl ?_
      refine x_opp rfl rfl ?_
      refine a_callV (s_1 dy) rfl rfl rfl rfl (c_find (s_1 dy) (s_3 dy) (by decide) (vp_in_nI hk6 (by decide)) ?_)
      refine a_iret rfl rfl rfl ?_
      refine ⟨_, dy, _, rfl, rfl, ?_⟩; refine e_intro rfl rfl ?_
      refine x_opp rfl rfl ?_
      refine x_kcg rfl ?_
      refine a_putJ 19 (s_65 dy) rfl rfl rfl rfl ?_
      refine x_opp rfl rfl ?_
      refine a_callS rfl rfl rfl rfl (k_isGrid ?_)
      refine a_ifT rfl rfl br_nez (by first | exact hg | exact nt_f hg | exact tnf hg | exact fnt hg | exact Int32.not_lt.mp hg | exact Int32.not_le.mp hg | exact Int32.not_lt.mpr hg | exact Int32.not_le.mpr hg) ?_
      iterate 4 (refine x_opp rfl rfl ?_)
      refine a_callV (s_65 dy) rfl rfl rfl rfl (k_wr hG4 g3 ?_)
      rw [e2]
      refine x_opp rfl rfl ?_
      refine x_opp rfl rfl ?_
      refine a_ifF rfl rfl br_le (by first | exact hk1 | exact nt_f hk1 | exact tnf hk1 | exact fnt hk1 | exact Int32.not_lt.mp hk1 | exact Int32.not_le.mp hk1 | exact Int32.not_lt.mpr hk1 | exact Int32.not_le.mpr hk1) ?_
      refine x_opp rfl rfl ?_
      refine x_opp rfl rfl ?_
      refine a_callV (s_65 dy) rfl rfl rfl rfl (k_met (vp_in_nI hk6 (by decide)) ?_)
      refine a_iret rfl rfl rfl ?_
      subst hM1
      exact ⟨rfl, _, rfl, R_fd hk6 hR⟩
  · refine x_opp rfl rfl ?_
    refine m_getg (s_0 dy) rfl rfl rfl ?_
    refine a_callV (s_1 dy) rfl rfl rfl rfl (c_clear (s_1 dy) ?_)
    refine x_opp rfl rfl ?_
    refine a_callS rfl rfl rfl rfl (c_isGridNumber ?_)
    rw [hM1]
    refine a_ifF rfl rfl br_nez (by first | exact hg | exact nt_f hg | exact tnf hg | exact fnt hg | exact Int32.not_lt.mp hg | exact Int32.not_le.mp hg | exact Int32.not_lt.mpr hg | exact Int32.not_le.mpr hg) ?_
    refine x_kcg rfl ?_
    refine a_iret rfl rfl rfl ?_
    refine ⟨_, dy, _, rfl, rfl, ?_⟩; refine e_intro rfl rfl ?_
    refine x_opp rfl rfl ?_
    refine x_kcg rfl ?_
    refine a_putJ 19 (s_65 dy) rfl rfl rfl rfl ?_
    refine x_opp rfl rfl ?_
    refine a_callS rfl rfl rfl rfl (k_isGrid ?_)
    rw [hM2]
    refine a_ifF rfl rfl br_nez (by first | exact hg | exact nt_f hg | exact tnf hg | exact fnt hg | exact Int32.not_lt.mp hg | exact Int32.not_le.mp hg | exact Int32.not_lt.mpr hg | exact Int32.not_le.mpr hg) ?_
    refine x_kcg rfl ?_
    refine a_iret rfl rfl rfl ?_
    subst hM2; subst hM1; exact ⟨rfl, _, rfl, R_cl hR⟩
end PE
