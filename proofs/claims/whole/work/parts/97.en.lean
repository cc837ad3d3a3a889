/-! pairs: entries, one entry, crossings -/
theorem gRow_m {m : Nat} {v : Int32} (hm : m < 2 ^ 31) (h : gRow (nI m) v = true) : ∃ k, k < m ∧ v = nI k := by
  unfold gRow at h
  by_cases h1 : v < 0
  · rw [if_pos h1] at h; cases h
  · rw [if_neg h1] at h
    obtain ⟨k, hk, rfl⟩ := nI_of h1
    by_cases q : nI m ≤ nI k
    · rw [if_pos q] at h; cases h
    · rw [nI_leI hm hk] at q
      exact ⟨k, by omega, rfl⟩
def enV (e : eT) (w : Nat) : Int32 := if w = 0 then nI (e.1 / 7) else if w = 1 then nI (e.1 % 7) else if w = 2 then zz e.2.1 else if w = 3 then nI e.2.2.1 else nI e.2.2.2
section EN
variable {L : Nat} {xs : Nat → Int32} {t d : Nat} {dy : List sh_T} {M : mm_T} {Q : Option Value → sm_W → Prop} {n G : Nat} {es : List eT}
theorem R_2 {M1 M2 : mm_T} (hR : rR t dy M) (r1 : rel (m_setI M 1 5 0) M1) (r2 : rel (m_setI M1 65 19 0) M2) : rR (t + 1) dy M2 := R_rel (rel_tr (rel_I r1 65 19 0) r2) (R_cl hR)
theorem R_2f {M1 M2 : mm_T} {k : Nat} (hk : k < 6) (hR : rR t dy M) (r1 : rel (m_setI M 1 5 0) M1) (r2 : rel (m_setI (nFind M1 1 3 (nI k)) 65 19 0) M2) : rR (t + 1) dy (mMet M2 (nI k)) := R_rel (rel_mt (rel_tr (rel_I (rel_fd r1 k hk) 65 19 0) r2) k hk) (R_fd hk hR)
theorem c_has2 {v : Int32} (ht : tabIs M 8 9 10 11 12 es) (hq : Q (some (.int (zz (gRow (nI es.length) v)))) (wm (sh0 ++ dy) M)) : sm_E L xs (d + 1) 82 [.ref 8, .int v] (wm (sh0 ++ dy) M) Q := c_has (tsh_8 dy) (by rw [ht.1]; exact hq)
theorem k_inN {v : Int32} {m : Nat} (hm : m < 2 ^ 31) (hq : Q (some (.int (zz (gRow (nI m) v)))) (wm (sh0 ++ dy) M)) : sm_E L xs (d + 1) 150 [.int v, .int 0, .int (nI m - 1)] (wm (sh0 ++ dy) M) Q := k_inRow (nI_pos' hm) hq
set_option maxRecDepth 4000 in
theorem p_entries {g : Int32} (h : rR t dy M) : pr L xs t dy M 72 182 [.int g] := by
  have hR := h; obtain ⟨s, E, P, w, n, hG, hN, hL, hS, hQ⟩ := h; have z0 : (0 : Int32) = 0 := rfl; have z1 : (0 : Int32) ≤ 0 := (by decide); have z11 : ¬ (1 : Int32) = 0 := (by decide); have z12 : ¬ (1 : Int32) ≤ 0 := (by decide); obtain ⟨M1, hM1⟩ : ∃ M1, m_setI M 1 5 0 = M1 := ⟨_, rfl⟩; have g1 : rG M1 n := hM1 ▸ rG_c hG; obtain ⟨M2, hM2⟩ : ∃ M2, m_setI M1 65 19 0 = M2 := ⟨_, rfl⟩; have g2 : rG M2 n := hM2 ▸ rG_z g1
  unfold pr; refine e_intro rfl rfl ?_
  by_cases hg : gRow 4 g = true
  · obtain ⟨G, hG4, rfl⟩ := gRow4 hg
    by_cases th : M1.1 66 G = 0
    · refine x_opp rfl rfl ?_
      refine m_getg (s_0 dy) rfl rfl rfl ?_
      refine a_callV (s_1 dy) rfl rfl rfl rfl (c_clear (s_1 dy) ?_)
      refine x_opp rfl rfl ?_
      refine a_callS rfl rfl rfl rfl (c_isGridNumber ?_)
      rw [hM1]
      refine a_ifT rfl rfl br_nez (by first | exact hg | exact nt_f hg | exact tnf hg | exact fnt hg | exact Int32.not_lt.mp hg | exact Int32.not_le.mp hg | exact Int32.not_lt.mpr hg | exact Int32.not_le.mpr hg) ?_
      refine x_opp rfl rfl ?_
      refine x_opp rfl rfl ?_
      refine a_callV (s_0 dy) rfl rfl rfl rfl (c_look0 g1 hG4 th ?_)
      refine a_ifF rfl rfl br_ne (fun h => h rfl) ?_
      refine x_opp rfl rfl ?_
      refine m_getg (s_0 dy) rfl rfl rfl ?_
      refine a_callV (s_1 dy) rfl rfl rfl rfl (c_answer (s_1 dy) ?_)
      refine a_iret rfl rfl rfl ?_
      refine ⟨_, dy, _, rfl, rfl, ?_⟩; refine e_intro rfl rfl ?_
      refine x_opp rfl rfl ?_
      refine x_kcg rfl ?_
      refine a_putJ 19 (s_65 dy) rfl rfl rfl rfl ?_
      refine x_opp rfl rfl ?_
      refine a_callS rfl rfl rfl rfl (k_isGrid ?_)
      refine a_ifT rfl rfl br_nez (by first | exact hg | exact nt_f hg | exact tnf hg | exact fnt hg | exact Int32.not_lt.mp hg | exact Int32.not_le.mp hg | exact Int32.not_lt.mpr hg | exact Int32.not_le.mpr hg) ?_
      refine x_opp rfl rfl ?_
      refine m_getg (s_65 dy) rfl rfl rfl ?_
      refine x_opp rfl rfl ?_
      refine a_baldN (s_66 dy) (k := G) rfl rfl rfl (by omega) (by decide) ?_
      refine a_ifF rfl rfl br_ne (fun h => h th) ?_
      refine x_opp rfl rfl ?_
      refine x_kcg rfl ?_
      refine a_callV (s_65 dy) rfl rfl rfl rfl (k_met (vp_in_nI (n := 1) (by decide) (by decide)) ?_)
      refine a_iret rfl rfl rfl ?_
      subst hM1
      exact ⟨rfl, _, rfl, R_fd (k := 1) (by decide) hR⟩
    · refine x_opp rfl rfl ?_
      refine m_getg (s_0 dy) rfl rfl rfl ?_
      refine a_callV (s_1 dy) rfl rfl rfl rfl (c_clear (s_1 dy) ?_)
      refine x_opp rfl rfl ?_
      refine a_callS rfl rfl rfl rfl (c_isGridNumber ?_)
      rw [hM1]
      refine a_ifT rfl rfl br_nez (by first | exact hg | exact nt_f hg | exact tnf hg | exact fnt hg | exact Int32.not_lt.mp hg | exact Int32.not_le.mp hg | exact Int32.not_lt.mpr hg | exact Int32.not_le.mpr hg) ?_
      refine x_opp rfl rfl ?_
      refine x_opp rfl rfl ?_
      refine a_callV (s_0 dy) rfl rfl rfl rfl (c_look1 g1 hG4 th (fun M3 t3 r3 => ?_))
      refine a_ifT rfl rfl br_ne (by decide) ?_
      refine x_opp rfl rfl ?_
      refine m_getg (s_0 dy) rfl rfl rfl ?_
      refine m_getg (s_8 dy) rfl rfl rfl ?_
      refine a_iret rfl rfl rfl ?_
      refine ⟨_, dy, _, rfl, rfl, ?_⟩; refine e_intro rfl rfl ?_
      have g3 : rG (m_setI M3 65 19 0) n := rG_z (rG_rel r3 g1)
      have th3 : ¬ (m_setI M3 65 19 0).1 66 G = 0 := by rw [mI_ne _ _ _ (by decide), r3.1 66 G (by unfold irr; omega)]; exact th
      refine x_opp rfl rfl ?_
      refine x_kcg rfl ?_
      refine a_putJ 19 (s_65 dy) rfl rfl rfl rfl ?_
      refine x_opp rfl rfl ?_
      refine a_callS rfl rfl rfl rfl (k_isGrid ?_)
      refine a_ifT rfl rfl br_nez (by first | exact hg | exact nt_f hg | exact tnf hg | exact fnt hg | exact Int32.not_lt.mp hg | exact Int32.not_le.mp hg | exact Int32.not_lt.mpr hg | exact Int32.not_le.mpr hg) ?_
      refine x_opp rfl rfl ?_
      refine m_getg (s_65 dy) rfl rfl rfl ?_
      refine x_opp rfl rfl ?_
      refine a_baldN (s_66 dy) (k := G) rfl rfl rfl (by omega) (by decide) ?_
      refine a_ifT rfl rfl br_ne (by first | exact th3 | exact nt_f th3 | exact tnf th3 | exact fnt th3 | exact Int32.not_lt.mp th3 | exact Int32.not_le.mp th3 | exact Int32.not_lt.mpr th3 | exact Int32.not_le.mpr th3) ?_
      refine x_opp rfl rfl ?_
      refine x_opp rfl rfl ?_
      refine a_callV (s_65 dy) rfl rfl rfl rfl (k_ents g3 hG4 (fun M4 t4 r4 => ?_))
      refine x_opp rfl rfl ?_
      refine m_getg (s_65 dy) rfl rfl rfl ?_
      refine a_iret rfl rfl rfl ?_
      have e4 : gE (m_setI M3 65 19 0) G = gE M1 G := (gE_rel (rel_I r3 65 19 0) G).trans rfl
      subst hM1
      exact ⟨by rw [t3.1, t4.1, e4], _, rfl, R_2 hR r3 r4⟩
  · refine x_opp rfl rfl ?_
    refine m_getg (s_0 dy) rfl rfl rfl ?_
    refine a_callV (s_1 dy) rfl rfl rfl rfl (c_clear (s_1 dy) ?_)
    refine x_opp rfl rfl ?_
    refine a_callS rfl rfl rfl rfl (c_isGridNumber ?_)
    rw [hM1]
    refine a_ifF rfl rfl br_nez (by first | exact hg | exact nt_f hg | exact tnf hg | exact fnt hg | exact Int32.not_lt.mp hg | exact Int32.not_le.mp hg | exact Int32.not_lt.mpr hg | exact Int32.not_le.mpr hg) ?_
    refine x_kcg rfl ?_
    refine a_iret rfl rfl rfl ?_
    refine ⟨_, dy, _, rfl, rfl, ?_⟩; refine e_intro rfl rfl ?_
    refine x_opp rfl rfl ?_
    refine x_kcg rfl ?_
    refine a_putJ 19 (s_65 dy) rfl rfl rfl rfl ?_
    refine x_opp rfl rfl ?_
    refine a_callS rfl rfl rfl rfl (k_isGrid ?_)
    rw [hM2]
    refine a_ifF rfl rfl br_nez (by first | exact hg | exact nt_f hg | exact tnf hg | exact fnt hg | exact Int32.not_lt.mp hg | exact Int32.not_le.mp hg | exact Int32.not_lt.mpr hg | exact Int32.not_le.mpr hg) ?_
    refine x_kcg rfl ?_
    refine a_iret rfl rfl rfl ?_
    subst hM2; subst hM1; exact ⟨rfl, _, rfl, R_cl hR⟩
theorem enV_0 (e : eT) : enV e 0 = nI (e.1 / 7) := rfl
theorem enV_1 (e : eT) : enV e 1 = nI (e.1 % 7) := rfl
theorem enV_2 (e : eT) : enV e 2 = zz e.2.1 := rfl
theorem enV_3 (e : eT) : enV e 3 = nI e.2.2.1 := rfl
theorem enV_4 (e : eT) : enV e 4 = nI e.2.2.2 := rfl
set_option maxRecDepth 4000 in
theorem l_enD {k w : Nat} {e : eT} {u : Int32} (ht : tabIs M 8 9 10 11 12 es) (h42 : es.length ≤ 42) (he : es[k]? = some e) (h49 : e.1 < 49) (hw : w < 5) (hq : Q (some (.int (enV e w))) (wm (sh0 ++ dy) M)) : sm_X L xs d 81 8 (sm_code 81 8) [(0, .ref 0), (1, .int u), (2, .int (nI k)), (3, .int (nI w))] [] (wm (sh0 ++ dy) M) Q := by
  have hk : k < es.length := (List.getElem?_eq_some_iff.mp he).1
  obtain ⟨t1, t2, t3, t4⟩ := ht.2 k e he
  rcases (show w = 0 ∨ w = 1 ∨ w = 2 ∨ w = 3 ∨ w = 4 by omega) with rfl | rfl | rfl | rfl | rfl
  · refine x_opp rfl rfl ?_
    refine x_tabIn (by decide) rfl ?_
    refine x_opp rfl rfl ?_
    refine m_getg (s_0 dy) rfl rfl rfl ?_
    refine m_getg (s_8 dy) rfl rfl rfl ?_
    refine x_opp rfl rfl ?_
    refine a_ialdN (s_9 dy) (k := k) rfl rfl rfl (by omega) (by decide) ?_
    refine x_kcg rfl ?_
    rw [t1]
    refine x_idiv (by first | exact z7 | exact nt_f z7 | exact tnf z7 | exact fnt z7 | exact Int32.not_lt.mp z7 | exact Int32.not_le.mp z7 | exact Int32.not_lt.mpr z7 | exact Int32.not_le.mpr z7) ?_
    refine a_iret rfl rfl rfl ?_
    rw [(d7_dec _ h49).1]
    exact hq
  · refine x_opp rfl rfl ?_
    refine x_tabIn (by decide) rfl ?_
    refine x_opp rfl rfl ?_
    refine m_getg (s_0 dy) rfl rfl rfl ?_
    refine m_getg (s_8 dy) rfl rfl rfl ?_
    refine x_opp rfl rfl ?_
    refine a_ialdN (s_9 dy) (k := k) rfl rfl rfl (by omega) (by decide) ?_
    refine x_kcg rfl ?_
    rw [t1]
    refine x_irem (by first | exact z7 | exact nt_f z7 | exact tnf z7 | exact fnt z7 | exact Int32.not_lt.mp z7 | exact Int32.not_le.mp z7 | exact Int32.not_lt.mpr z7 | exact Int32.not_le.mpr z7) ?_
    refine a_iret rfl rfl rfl ?_
    rw [(d7_dec _ h49).2]
    exact hq
  · cases hb : e.2.1 with
    | true =>
      rw [enV_2, hb] at hq
      rw [hb] at t2
      refine x_opp rfl rfl ?_
      refine x_tabIn (by decide) rfl ?_
      refine x_opp rfl rfl ?_
      refine m_getg (s_0 dy) rfl rfl rfl ?_
      refine m_getg (s_8 dy) rfl rfl rfl ?_
      refine x_opp rfl rfl ?_
      refine a_baldN (s_10 dy) (k := k) rfl rfl rfl (by omega) (by decide) ?_
      rw [t2]
      refine a_ifF rfl rfl br_eq (by decide) ?_
      refine x_kcg rfl ?_
      refine x_go rfl ?_
      refine a_iret rfl rfl rfl ?_
      exact hq
    | false =>
      rw [enV_2, hb] at hq
      rw [hb] at t2
      refine x_opp rfl rfl ?_
      refine x_tabIn (by decide) rfl ?_
      refine x_opp rfl rfl ?_
      refine m_getg (s_0 dy) rfl rfl rfl ?_
      refine m_getg (s_8 dy) rfl rfl rfl ?_
      refine x_opp rfl rfl ?_
      refine a_baldN (s_10 dy) (k := k) rfl rfl rfl (by omega) (by decide) ?_
      rw [t2]
      refine a_ifT rfl rfl br_eq (by decide) ?_
      refine x_kcg rfl ?_
      refine x_go rfl ?_
      refine a_iret rfl rfl rfl ?_
      exact hq
  · refine x_opp rfl rfl ?_
    refine x_tabIn (by decide) rfl ?_
    refine x_opp rfl rfl ?_
    refine m_getg (s_0 dy) rfl rfl rfl ?_
    refine m_getg (s_8 dy) rfl rfl rfl ?_
    refine x_opp rfl rfl ?_
    refine a_ialdN (s_11 dy) (k := k) rfl rfl rfl (by omega) (by decide) ?_
    rw [t3]
    refine a_iret rfl rfl rfl ?_
    exact hq
  · refine x_opp rfl rfl ?_
    refine x_tabOut (by decide) ?_
    refine x_opp rfl rfl ?_
    refine m_getg (s_0 dy) rfl rfl rfl ?_
    refine m_getg (s_8 dy) rfl rfl rfl ?_
    refine x_opp rfl rfl ?_
    refine a_ialdN (s_12 dy) (k := k) rfl rfl rfl (by omega) (by decide) ?_
    rw [t4]
    refine a_iret rfl rfl rfl ?_
    exact hq
set_option maxRecDepth 4000 in
theorem l_enM {k w : Nat} {e : eT} {u : Int32} (ht : mTab M es) (h42 : es.length ≤ 42) (he : es[k]? = some e) (hw : w < 5) (hq : Q (some (.int (enV e w))) (wm (sh0 ++ dy) M)) : sm_X L xs d 189 7 (sm_code 189 7) [(0, .ref 65), (1, .int u), (2, .int (nI k)), (3, .int (nI w))] [] (wm (sh0 ++ dy) M) Q := by
  have hk : k < es.length := (List.getElem?_eq_some_iff.mp he).1
  obtain ⟨t1, t2, t3, t4, t5⟩ := ht.2 k e he
  rcases (show w = 0 ∨ w = 1 ∨ w = 2 ∨ w = 3 ∨ w = 4 by omega) with rfl | rfl | rfl | rfl | rfl
  · refine x_opp rfl rfl ?_
    refine a_ifF rfl rfl br_ne (by decide) ?_
    refine x_opp rfl rfl ?_
    refine m_getg (s_65 dy) rfl rfl rfl ?_
    refine x_opp rfl rfl ?_
    refine a_ialdN (s_91 dy) (k := k) rfl rfl rfl (by omega) (by decide) ?_
    refine x_go rfl ?_
    rw [t1]
    refine a_iret rfl rfl rfl ?_
    exact hq
  · refine x_opp rfl rfl ?_
    refine a_ifT rfl rfl br_ne (by decide) ?_
    refine x_opp rfl rfl ?_
    refine x_kcg rfl ?_
    refine a_icF rfl rfl br_ne (by decide) ?_
    refine x_opp rfl rfl ?_
    refine m_getg (s_65 dy) rfl rfl rfl ?_
    refine x_opp rfl rfl ?_
    refine a_ialdN (s_92 dy) (k := k) rfl rfl rfl (by omega) (by decide) ?_
    refine x_go rfl ?_
    rw [t2]
    refine a_iret rfl rfl rfl ?_
    exact hq
  · cases hb : e.2.1 with
    | true =>
      rw [enV_2, hb] at hq
      rw [hb] at t3
      refine x_opp rfl rfl ?_
      refine a_ifT rfl rfl br_ne (by decide) ?_
      refine x_opp rfl rfl ?_
      refine x_kcg rfl ?_
      refine a_icT rfl rfl br_ne (by decide) ?_
      refine x_opp rfl rfl ?_
      refine x_kcg rfl ?_
      refine a_icF rfl rfl br_ne (by decide) ?_
      refine x_opp rfl rfl ?_
      refine m_getg (s_65 dy) rfl rfl rfl ?_
      refine x_opp rfl rfl ?_
      refine a_baldN (s_93 dy) (k := k) rfl rfl rfl (by omega) (by decide) ?_
      rw [t3]
      refine a_ifF rfl rfl br_eq (by decide) ?_
      refine x_kcg rfl ?_
      refine x_go rfl ?_
      refine a_iret rfl rfl rfl ?_
      exact hq
    | false =>
      rw [enV_2, hb] at hq
      rw [hb] at t3
      refine x_opp rfl rfl ?_
      refine a_ifT rfl rfl br_ne (by decide) ?_
      refine x_opp rfl rfl ?_
      refine x_kcg rfl ?_
      refine a_icT rfl rfl br_ne (by decide) ?_
      refine x_opp rfl rfl ?_
      refine x_kcg rfl ?_
      refine a_icF rfl rfl br_ne (by decide) ?_
      refine x_opp rfl rfl ?_
      refine m_getg (s_65 dy) rfl rfl rfl ?_
      refine x_opp rfl rfl ?_
      refine a_baldN (s_93 dy) (k := k) rfl rfl rfl (by omega) (by decide) ?_
      rw [t3]
      refine a_ifT rfl rfl br_eq (by decide) ?_
      refine x_kcg rfl ?_
      refine x_go rfl ?_
      refine a_iret rfl rfl rfl ?_
      exact hq
  · refine x_opp rfl rfl ?_
    refine a_ifT rfl rfl br_ne (by decide) ?_
    refine x_opp rfl rfl ?_
    refine x_kcg rfl ?_
    refine a_icT rfl rfl br_ne (by decide) ?_
    refine x_opp rfl rfl ?_
    refine x_kcg rfl ?_
    refine a_icT rfl rfl br_ne (by decide) ?_
    refine x_opp rfl rfl ?_
    refine x_kcg rfl ?_
    refine a_icF rfl rfl br_ne (by decide) ?_
    refine x_opp rfl rfl ?_
    refine m_getg (s_65 dy) rfl rfl rfl ?_
    refine x_opp rfl rfl ?_
    refine a_ialdN (s_94 dy) (k := k) rfl rfl rfl (by omega) (by decide) ?_
    refine x_go rfl ?_
    rw [t4]
    refine a_iret rfl rfl rfl ?_
    exact hq
  · refine x_opp rfl rfl ?_
    refine a_ifT rfl rfl br_ne (by decide) ?_
    refine x_opp rfl rfl ?_
    refine x_kcg rfl ?_
    refine a_icT rfl rfl br_ne (by decide) ?_
    refine x_opp rfl rfl ?_
    refine x_kcg rfl ?_
    refine a_icT rfl rfl br_ne (by decide) ?_
    refine x_opp rfl rfl ?_
    refine x_kcg rfl ?_
    refine a_icT rfl rfl br_ne (by decide) ?_
    refine x_opp rfl rfl ?_
    refine m_getg (s_65 dy) rfl rfl rfl ?_
    refine x_opp rfl rfl ?_
    refine a_ialdN (s_95 dy) (k := k) rfl rfl rfl (by omega) (by decide) ?_
    refine x_go rfl ?_
    rw [t5]
    refine a_iret rfl rfl rfl ?_
    exact hq
set_option maxRecDepth 4000 in
theorem p_entry {g v u : Int32} (h : rR t dy M) : pr L xs t dy M 81 189 [.int g, .int v, .int u] := by
  have hR := h; obtain ⟨s, E, P, w, n, hG, hN, hL, hS, hQ⟩ := h; have z0 : (0 : Int32) = 0 := rfl; have z1 : (0 : Int32) ≤ 0 := (by decide); have z11 : ¬ (1 : Int32) = 0 := (by decide); have z12 : ¬ (1 : Int32) ≤ 0 := (by decide); obtain ⟨M1, hM1⟩ : ∃ M1, m_setI M 1 5 0 = M1 := ⟨_, rfl⟩; have g1 : rG M1 n := hM1 ▸ rG_c hG; obtain ⟨M2, hM2⟩ : ∃ M2, m_setI M1 65 19 0 = M2 := ⟨_, rfl⟩; have g2 : rG M2 n := hM2 ▸ rG_z g1
  unfold pr; refine e_intro rfl rfl ?_
  by_cases hg : gRow 4 g = true
  · obtain ⟨G, hG4, rfl⟩ := gRow4 hg
    by_cases hu : inR u 0 4 = true
    · have u0 : ¬ u < 0 := fun h => by unfold inR at hu; rw [if_pos h] at hu; cases hu
      have u4 : u ≤ 4 := by
        unfold inR at hu
        rw [if_neg u0] at hu
        by_cases q : (4 : Int32) < u
        · rw [if_pos q] at hu; cases hu
        · exact Int32.not_lt.mp q
      obtain ⟨w', hw, rfl⟩ := nI_ofm (m := 4) u0 u4 (by decide)
      by_cases th : M1.1 66 G = 0
      · refine x_opp rfl rfl ?_
        refine m_getg (s_0 dy) rfl rfl rfl ?_
        refine a_callV (s_1 dy) rfl rfl rfl rfl (c_clear (s_1 dy) ?_)
        refine x_opp rfl rfl ?_
        refine a_callS rfl rfl rfl rfl (c_isGridNumber ?_)
        rw [hM1]
        refine a_ifF rfl rfl br_eqz (by first | exact hg | exact nt_f hg | exact tnf hg | exact fnt hg | exact Int32.not_lt.mp hg | exact Int32.not_le.mp hg | exact Int32.not_lt.mpr hg | exact Int32.not_le.mpr hg) ?_
        refine x_opp rfl rfl ?_
        refine a_ifF rfl rfl br_lt (by first | exact u0 | exact nt_f u0 | exact tnf u0 | exact fnt u0 | exact Int32.not_lt.mp u0 | exact Int32.not_le.mp u0 | exact Int32.not_lt.mpr u0 | exact Int32.not_le.mpr u0) ?_
        refine x_opp rfl rfl ?_
        refine x_kcg rfl ?_
        refine a_icT rfl rfl br_le (by first | exact u4 | exact nt_f u4 | exact tnf u4 | exact fnt u4 | exact Int32.not_lt.mp u4 | exact Int32.not_le.mp u4 | exact Int32.not_lt.mpr u4 | exact Int32.not_le.mpr u4) ?_
        refine x_opp rfl rfl ?_
        refine x_opp rfl rfl ?_
        refine a_callV (s_0 dy) rfl rfl rfl rfl (c_look0 g1 hG4 th ?_)
        refine a_ifF rfl rfl br_ne (fun h => h rfl) ?_
        refine x_opp rfl rfl ?_
        refine m_getg (s_0 dy) rfl rfl rfl ?_
        refine a_callV (s_1 dy) rfl rfl rfl rfl (c_answer (s_1 dy) ?_)
        refine a_iret rfl rfl rfl ?_
        refine ⟨_, dy, _, rfl, rfl, ?_⟩; refine e_intro rfl rfl ?_
        refine x_opp rfl rfl ?_
        refine x_kcg rfl ?_
        refine a_putJ 19 (s_65 dy) rfl rfl rfl rfl ?_
        refine x_opp rfl rfl ?_
        refine a_callS rfl rfl rfl rfl (k_isGrid ?_)
        refine a_ifF rfl rfl br_eqz (by first | exact hg | exact nt_f hg | exact tnf hg | exact fnt hg | exact Int32.not_lt.mp hg | exact Int32.not_le.mp hg | exact Int32.not_lt.mpr hg | exact Int32.not_le.mpr hg) ?_
        refine x_opp rfl rfl ?_
        refine x_kcg rfl ?_
        refine x_kcg rfl ?_
        refine a_callS rfl rfl rfl rfl (k_in ?_)
        refine a_ifT rfl rfl br_nez (by first | exact hu | exact nt_f hu | exact tnf hu | exact fnt hu | exact Int32.not_lt.mp hu | exact Int32.not_le.mp hu | exact Int32.not_lt.mpr hu | exact Int32.not_le.mpr hu) ?_
        refine x_opp rfl rfl ?_
        refine m_getg (s_65 dy) rfl rfl rfl ?_
        refine x_opp rfl rfl ?_
        refine a_baldN (s_66 dy) (k := G) rfl rfl rfl (by omega) (by decide) ?_
        refine a_ifF rfl rfl br_ne (fun h => h th) ?_
        refine x_opp rfl rfl ?_
        refine x_kcg rfl ?_
        refine a_callV (s_65 dy) rfl rfl rfl rfl (k_met (vp_in_nI (n := 1) (by decide) (by decide)) ?_)
        refine a_iret rfl rfl rfl ?_
        subst hM1
        exact ⟨rfl, _, rfl, R_fd (k := 1) (by decide) hR⟩
      · obtain ⟨o42, oks, -⟩ := gE_ok g1 hG4
        have tail : ∀ M3, rel M1 M3 → gE (m_setI M3 65 19 0) G = gE M1 G ∧ rG (m_setI M3 65 19 0) n ∧ ¬ (m_setI M3 65 19 0).1 66 G = 0 := fun M3 r3 => ⟨(gE_rel (rel_I r3 65 19 0) G).trans rfl, rG_z (rG_rel r3 g1), by rw [mI_ne _ _ _ (by decide), r3.1 66 G (by unfold irr; omega)]; exact th⟩
        by_cases hk : gRow (nI (gE M1 G).length) v = true
        · obtain ⟨k, hkl, rfl⟩ := gRow_m (by omega) hk
          have he := eAt_get hkl
          have ok := oks _ (List.mem_of_getElem? he)
          refine x_opp rfl rfl ?_
          refine m_getg (s_0 dy) rfl rfl rfl ?_
          refine a_callV (s_1 dy) rfl rfl rfl rfl (c_clear (s_1 dy) ?_)
          refine x_opp rfl rfl ?_
          refine a_callS rfl rfl rfl rfl (c_isGridNumber ?_)
          rw [hM1]
          refine a_ifF rfl rfl br_eqz (by first | exact hg | exact nt_f hg | exact tnf hg | exact fnt hg | exact Int32.not_lt.mp hg | exact Int32.not_le.mp hg | exact Int32.not_lt.mpr hg | exact Int32.not_le.mpr hg) ?_
          refine x_opp rfl rfl ?_
          refine a_ifF rfl rfl br_lt (by first | exact u0 | exact nt_f u0 | exact tnf u0 | exact fnt u0 | exact Int32.not_lt.mp u0 | exact Int32.not_le.mp u0 | exact Int32.not_lt.mpr u0 | exact Int32.not_le.mpr u0) ?_
          refine x_opp rfl rfl ?_
          refine x_kcg rfl ?_
          refine a_icT rfl rfl br_le (by first | exact u4 | exact nt_f u4 | exact tnf u4 | exact fnt u4 | exact Int32.not_lt.mp u4 | exact Int32.not_le.mp u4 | exact Int32.not_lt.mpr u4 | exact Int32.not_le.mpr u4) ?_
          refine x_opp rfl rfl ?_
          refine x_opp rfl rfl ?_
          refine a_callV (s_0 dy) rfl rfl rfl rfl (c_look1 g1 hG4 th (fun M3 t3 r3 => ?_))
          refine a_ifT rfl rfl br_ne (by decide) ?_
          refine x_opp rfl rfl ?_
          refine m_getg (s_0 dy) rfl rfl rfl ?_
          refine x_opp rfl rfl ?_
          refine a_callV (s_8 dy) rfl rfl rfl rfl (c_has2 t3 ?_)
          refine a_ifT rfl rfl br_nez (by first | exact hk | exact nt_f hk | exact tnf hk | exact fnt hk | exact Int32.not_lt.mp hk | exact Int32.not_le.mp hk | exact Int32.not_lt.mpr hk | exact Int32.not_le.mpr hk) ?_
          refine x_lvs [(0, .ref 0), (1, .int (nI G)), (2, .int (nI k)), (3, .int (nI w'))] rfl rfl rfl ⟨rfl, rfl, rfl, rfl, trivial⟩ ?_
          refine l_enD t3 o42 he ok.1 (by omega) ?_
          refine ⟨_, dy, _, rfl, rfl, ?_⟩; refine e_intro rfl rfl ?_
          obtain ⟨e4, g3, th3⟩ := tail M3 r3
          refine x_opp rfl rfl ?_
          refine x_kcg rfl ?_
          refine a_putJ 19 (s_65 dy) rfl rfl rfl rfl ?_
          refine x_opp rfl rfl ?_
          refine a_callS rfl rfl rfl rfl (k_isGrid ?_)
          refine a_ifF rfl rfl br_eqz (by first | exact hg | exact nt_f hg | exact tnf hg | exact fnt hg | exact Int32.not_lt.mp hg | exact Int32.not_le.mp hg | exact Int32.not_lt.mpr hg | exact Int32.not_le.mpr hg) ?_
          refine x_opp rfl rfl ?_
          refine x_kcg rfl ?_
          refine x_kcg rfl ?_
          refine a_callS rfl rfl rfl rfl (k_in ?_)
          refine a_ifT rfl rfl br_nez (by first | exact hu | exact nt_f hu | exact tnf hu | exact fnt hu | exact Int32.not_lt.mp hu | exact Int32.not_le.mp hu | exact Int32.not_lt.mpr hu | exact Int32.not_le.mpr hu) ?_
          refine x_opp rfl rfl ?_
          refine m_getg (s_65 dy) rfl rfl rfl ?_
          refine x_opp rfl rfl ?_
          refine a_baldN (s_66 dy) (k := G) rfl rfl rfl (by omega) (by decide) ?_
          refine a_ifT rfl rfl br_ne (by first | exact th3 | exact nt_f th3 | exact tnf th3 | exact fnt th3 | exact Int32.not_lt.mp th3 | exact Int32.not_le.mp th3 | exact Int32.not_lt.mpr th3 | exact Int32.not_le.mpr th3) ?_
          refine x_opp rfl rfl ?_
          refine x_opp rfl rfl ?_
          refine a_callV (s_65 dy) rfl rfl rfl rfl (k_ents g3 hG4 (fun M4 t4 r4 => ?_))
          refine x_opp rfl rfl ?_
          refine x_kcg rfl ?_
          refine x_opp rfl rfl ?_
          refine m_getg (s_65 dy) rfl rfl rfl ?_
          refine x_kcg rfl ?_
          refine x_opp rfl rfl ?_
          rw [e4] at t4; rw [t4.1]
          refine a_callS rfl rfl rfl rfl (k_inN (by omega) ?_)
          refine a_ifT rfl rfl br_nez (by first | exact hk | exact nt_f hk | exact tnf hk | exact fnt hk | exact Int32.not_lt.mp hk | exact Int32.not_le.mp hk | exact Int32.not_lt.mpr hk | exact Int32.not_le.mpr hk) ?_
          refine x_lvs [(0, .ref 65), (1, .int (nI G)), (2, .int (nI k)), (3, .int (nI w'))] rfl rfl rfl ⟨rfl, rfl, rfl, rfl, trivial⟩ ?_
          refine l_enM t4 o42 he (by omega) ?_
          subst hM1
          exact ⟨rfl, _, rfl, R_2 hR r3 r4⟩
        · refine x_opp rfl rfl ?_
          refine m_getg (s_0 dy) rfl rfl rfl ?_
          refine a_callV (s_1 dy) rfl rfl rfl rfl (c_clear (s_1 dy) ?_)
          refine x_opp rfl rfl ?_
          refine a_callS rfl rfl rfl rfl (c_isGridNumber ?_)
          rw [hM1]
          refine a_ifF rfl rfl br_eqz (by first | exact hg | exact nt_f hg | exact tnf hg | exact fnt hg | exact Int32.not_lt.mp hg | exact Int32.not_le.mp hg | exact Int32.not_lt.mpr hg | exact Int32.not_le.mpr hg) ?_
          refine x_opp rfl rfl ?_
          refine a_ifF rfl rfl br_lt (by first | exact u0 | exact nt_f u0 | exact tnf u0 | exact fnt u0 | exact Int32.not_lt.mp u0 | exact Int32.not_le.mp u0 | exact Int32.not_lt.mpr u0 | exact Int32.not_le.mpr u0) ?_
          refine x_opp rfl rfl ?_
          refine x_kcg rfl ?_
          refine a_icT rfl rfl br_le (by first | exact u4 | exact nt_f u4 | exact tnf u4 | exact fnt u4 | exact Int32.not_lt.mp u4 | exact Int32.not_le.mp u4 | exact Int32.not_lt.mpr u4 | exact Int32.not_le.mpr u4) ?_
          refine x_opp rfl rfl ?_
          refine x_opp rfl rfl ?_
          refine a_callV (s_0 dy) rfl rfl rfl rfl (c_look1 g1 hG4 th (fun M3 t3 r3 => ?_))
          refine a_ifT rfl rfl br_ne (by decide) ?_
          refine x_opp rfl rfl ?_
          refine m_getg (s_0 dy) rfl rfl rfl ?_
          refine x_opp rfl rfl ?_
          refine a_callV (s_8 dy) rfl rfl rfl rfl (c_has2 t3 ?_)
          refine a_ifF rfl rfl br_nez (by first | exact hk | exact nt_f hk | exact tnf hk | exact fnt hk | exact Int32.not_lt.mp hk | exact Int32.not_le.mp hk | exact Int32.not_lt.mpr hk | exact Int32.not_le.mpr hk) ?_
          refine x_opp rfl rfl ?_
          refine m_getg (s_0 dy) rfl rfl rfl ?_
          refine x_kcg rfl ?_
          refine a_callV (s_1 dy) rfl rfl rfl rfl (c_find (s_1 dy) (s_3 dy) (by decide) (vp_in_nI (n := 2) (by decide) (by decide)) ?_)
          refine a_iret rfl rfl rfl ?_
          refine ⟨_, dy, _, rfl, rfl, ?_⟩; refine e_intro rfl rfl ?_
          have r3' : rel (nFind M1 1 3 (nI 2)) (nFind M3 1 3 (nI 2)) := rel_fd r3 2 (by decide)
          have g3 : rG (m_setI (nFind M3 1 3 (nI 2)) 65 19 0) n := rG_z (rG_rel r3' (rG_f g1))
          have e4 : gE (m_setI (nFind M3 1 3 2) 65 19 0) G = gE M1 G := (gE_rel (rel_I r3' 65 19 0) G).trans rfl
          have th3 : ¬ (m_setI (nFind M3 1 3 (nI 2)) 65 19 0).1 66 G = 0 := by rw [mI_ne _ _ _ (by decide), r3'.1 66 G (by unfold irr; omega)]; exact th
          refine x_opp rfl rfl ?_
          refine x_kcg rfl ?_
          refine a_putJ 19 (s_65 dy) rfl rfl rfl rfl ?_
          refine x_opp rfl rfl ?_
          refine a_callS rfl rfl rfl rfl (k_isGrid ?_)
          refine a_ifF rfl rfl br_eqz (by first | exact hg | exact nt_f hg | exact tnf hg | exact fnt hg | exact Int32.not_lt.mp hg | exact Int32.not_le.mp hg | exact Int32.not_lt.mpr hg | exact Int32.not_le.mpr hg) ?_
          refine x_opp rfl rfl ?_
          refine x_kcg rfl ?_
          refine x_kcg rfl ?_
          refine a_callS rfl rfl rfl rfl (k_in ?_)
          refine a_ifT rfl rfl br_nez (by first | exact hu | exact nt_f hu | exact tnf hu | exact fnt hu | exact Int32.not_lt.mp hu | exact Int32.not_le.mp hu | exact Int32.not_lt.mpr hu | exact Int32.not_le.mpr hu) ?_
          refine x_opp rfl rfl ?_
          refine m_getg (s_65 dy) rfl rfl rfl ?_
          refine x_opp rfl rfl ?_
          refine a_baldN (s_66 dy) (k := G) rfl rfl rfl (by omega) (by decide) ?_
          refine a_ifT rfl rfl br_ne (by first | exact th3 | exact nt_f th3 | exact tnf th3 | exact fnt th3 | exact Int32.not_lt.mp th3 | exact Int32.not_le.mp th3 | exact Int32.not_lt.mpr th3 | exact Int32.not_le.mpr th3) ?_
          refine x_opp rfl rfl ?_
          refine x_opp rfl rfl ?_
          refine a_callV (s_65 dy) rfl rfl rfl rfl (k_ents g3 hG4 (fun M4 t4 r4 => ?_))
          refine x_opp rfl rfl ?_
          refine x_kcg rfl ?_
          refine x_opp rfl rfl ?_
          refine m_getg (s_65 dy) rfl rfl rfl ?_
          refine x_kcg rfl ?_
          refine x_opp rfl rfl ?_
          rw [e4] at t4; rw [t4.1]
          refine a_callS rfl rfl rfl rfl (k_inN (by omega) ?_)
          refine a_ifF rfl rfl br_nez (by first | exact hk | exact nt_f hk | exact tnf hk | exact fnt hk | exact Int32.not_lt.mp hk | exact Int32.not_le.mp hk | exact Int32.not_lt.mpr hk | exact Int32.not_le.mpr hk) ?_
          refine x_opp rfl rfl ?_
          refine x_kcg rfl ?_
          refine a_callV (s_65 dy) rfl rfl rfl rfl (k_met (vp_in_nI (n := 2) (by decide) (by decide)) ?_)
          refine a_iret rfl rfl rfl ?_
          subst hM1
          exact ⟨rfl, _, rfl, R_2f (k := 2) (by decide) hR r3 r4⟩
    · by_cases u0 : u < 0
      · refine x_opp rfl rfl ?_
        refine m_getg (s_0 dy) rfl rfl rfl ?_
        refine a_callV (s_1 dy) rfl rfl rfl rfl (c_clear (s_1 dy) ?_)
        refine x_opp rfl rfl ?_
        refine a_callS rfl rfl rfl rfl (c_isGridNumber ?_)
        rw [hM1]
        refine a_ifF rfl rfl br_eqz (by first | exact hg | exact nt_f hg | exact tnf hg | exact fnt hg | exact Int32.not_lt.mp hg | exact Int32.not_le.mp hg | exact Int32.not_lt.mpr hg | exact Int32.not_le.mpr hg) ?_
        refine x_opp rfl rfl ?_
        refine a_ifT rfl rfl br_lt (by first | exact u0 | exact nt_f u0 | exact tnf u0 | exact fnt u0 | exact Int32.not_lt.mp u0 | exact Int32.not_le.mp u0 | exact Int32.not_lt.mpr u0 | exact Int32.not_le.mpr u0) ?_
        refine x_kcg rfl ?_
        refine a_iret rfl rfl rfl ?_
        refine ⟨_, dy, _, rfl, rfl, ?_⟩; refine e_intro rfl rfl ?_
        refine x_opp rfl rfl ?_
        refine x_kcg rfl ?_
        refine a_putJ 19 (s_65 dy) rfl rfl rfl rfl ?_
        refine x_opp rfl rfl ?_
        refine a_callS rfl rfl rfl rfl (k_isGrid ?_)
        rw [hM2]
        refine a_ifF rfl rfl br_eqz (by first | exact hg | exact nt_f hg | exact tnf hg | exact fnt hg | exact Int32.not_lt.mp hg | exact Int32.not_le.mp hg | exact Int32.not_lt.mpr hg | exact Int32.not_le.mpr hg) ?_
        refine x_opp rfl rfl ?_
        refine x_kcg rfl ?_
        refine x_kcg rfl ?_
        refine a_callS rfl rfl rfl rfl (k_in ?_)
        refine a_ifF rfl rfl br_nez (by first | exact hu | exact nt_f hu | exact tnf hu | exact fnt hu | exact Int32.not_lt.mp hu | exact Int32.not_le.mp hu | exact Int32.not_lt.mpr hu | exact Int32.not_le.mpr hu) ?_
        refine x_kcg rfl ?_
        refine a_iret rfl rfl rfl ?_
        subst hM2; subst hM1; exact ⟨rfl, _, rfl, R_cl hR⟩
      · have u4 : ¬ u ≤ 4 := fun q => hu (by unfold inR; rw [if_neg u0, if_neg (Int32.not_lt.mpr q)])
        refine x_opp rfl rfl ?_
        refine m_getg (s_0 dy) rfl rfl rfl ?_
        refine a_callV (s_1 dy) rfl rfl rfl rfl (c_clear (s_1 dy) ?_)
        refine x_opp rfl rfl ?_
        refine a_callS rfl rfl rfl rfl (c_isGridNumber ?_)
        rw [hM1]
        refine a_ifF rfl rfl br_eqz (by first | exact hg | exact nt_f hg | exact tnf hg | exact fnt hg | exact Int32.not_lt.mp hg | exact Int32.not_le.mp hg | exact Int32.not_lt.mpr hg | exact Int32.not_le.mpr hg) ?_
        refine x_opp rfl rfl ?_
        refine a_ifF rfl rfl br_lt (by first | exact u0 | exact nt_f u0 | exact tnf u0 | exact fnt u0 | exact Int32.not_lt.mp u0 | exact Int32.not_le.mp u0 | exact Int32.not_lt.mpr u0 | exact Int32.not_le.mpr u0) ?_
        refine x_opp rfl rfl ?_
        refine x_kcg rfl ?_
        refine a_icF rfl rfl br_le (by first | exact u4 | exact nt_f u4 | exact tnf u4 | exact fnt u4 | exact Int32.not_lt.mp u4 | exact Int32.not_le.mp u4 | exact Int32.not_lt.mpr u4 | exact Int32.not_le.mpr u4) ?_
        refine x_kcg rfl ?_
        refine a_iret rfl rfl rfl ?_
        refine ⟨_, dy, _, rfl, rfl, ?_⟩; refine e_intro rfl rfl ?_
        refine x_opp rfl rfl ?_
        refine x_kcg rfl ?_
        refine a_putJ 19 (s_65 dy) rfl rfl rfl rfl ?_
        refine x_opp rfl rfl ?_
        refine a_callS rfl rfl rfl rfl (k_isGrid ?_)
        rw [hM2]
        refine a_ifF rfl rfl br_eqz (by first | exact hg | exact nt_f hg | exact tnf hg | exact fnt hg | exact Int32.not_lt.mp hg | exact Int32.not_le.mp hg | exact Int32.not_lt.mpr hg | exact Int32.not_le.mpr hg) ?_
        refine x_opp rfl rfl ?_
        refine x_kcg rfl ?_
        refine x_kcg rfl ?_
        refine a_callS rfl rfl rfl rfl (k_in ?_)
        refine a_ifF rfl rfl br_nez (by first | exact hu | exact nt_f hu | exact tnf hu | exact fnt hu | exact Int32.not_lt.mp hu | exact Int32.not_le.mp hu | exact Int32.not_lt.mpr hu | exact Int32.not_le.mpr hu) ?_
        refine x_kcg rfl ?_
        refine a_iret rfl rfl rfl ?_
        subst hM2; subst hM1; exact ⟨rfl, _, rfl, R_cl hR⟩
  · refine x_opp rfl rfl ?_
    refine m_getg (s_0 dy) rfl rfl rfl ?_
    refine a_callV (s_1 dy) rfl rfl rfl rfl (c_clear (s_1 dy) ?_)
    refine x_opp rfl rfl ?_
    refine a_callS rfl rfl rfl rfl (c_isGridNumber ?_)
    rw [hM1]
    refine a_ifT rfl rfl br_eqz (by first | exact hg | exact nt_f hg | exact tnf hg | exact fnt hg | exact Int32.not_lt.mp hg | exact Int32.not_le.mp hg | exact Int32.not_lt.mpr hg | exact Int32.not_le.mpr hg) ?_
    refine x_kcg rfl ?_
    refine a_iret rfl rfl rfl ?_
    refine ⟨_, dy, _, rfl, rfl, ?_⟩; refine e_intro rfl rfl ?_
    refine x_opp rfl rfl ?_
    refine x_kcg rfl ?_
    refine a_putJ 19 (s_65 dy) rfl rfl rfl rfl ?_
    refine x_opp rfl rfl ?_
    refine a_callS rfl rfl rfl rfl (k_isGrid ?_)
    rw [hM2]
    refine a_ifT rfl rfl br_eqz (by first | exact hg | exact nt_f hg | exact tnf hg | exact fnt hg | exact Int32.not_lt.mp hg | exact Int32.not_le.mp hg | exact Int32.not_lt.mpr hg | exact Int32.not_le.mpr hg) ?_
    refine x_kcg rfl ?_
    refine a_iret rfl rfl rfl ?_
    subst hM2; subst hM1; exact ⟨rfl, _, rfl, R_cl hR⟩
end EN
