/-! pairs: a list is dropped -/
def dropE (e : lT) : lT := (e.1, e.2.1, e.2.2.1, e.2.2.2.1, true, e.2.2.2.2.2)
def updE (E : Nat → lT) (l : Nat) (e : lT) : Nat → lT := fun m => if m = l then e else E m
theorem updE_at (E : Nat → lT) (l : Nat) (e : lT) : updE E l e l = e := if_pos rfl
theorem updE_ne (E : Nat → lT) {l m : Nat} (e : lT) (h : m ≠ l) : updE E l e m = E m := if_neg h
theorem mR_at (M : mm_T) (a i : Nat) (v : Option Nat) (b j : Nat) : (m_setR M a i v).2.2 b j = if b = a ∧ j = i then v else M.2.2 b j := by
  unfold m_setR va_up
  dsimp only
  by_cases h : b = a
  · subst h
    rw [if_pos rfl]
    by_cases q : j = i
    · rw [if_pos q, if_pos ⟨rfl, q⟩]
    · rw [if_neg q, if_neg (fun h => q h.2)]
  · rw [if_neg h, if_neg (fun q => h q.1)]
section DR
variable {L : Nat} {xs : Nat → Int32} {t d : Nat} {dy : List sh_T} {M : mm_T} {Q : Option Value → sm_W → Prop} {n G : Nat}
theorem a_aastZ {y cb a m k : Nat} {is : List sm_I} {lv : sm_L} {st st0 : List Value} {i : sm_I} {sh : List sh_T} (hs : sh[a]? = some (arrW m)) (hi : rtI i = 12) (hst : st0 = .null :: .int (nI k) :: .ref a :: st) (hk : k < m) (hm : m < 2 ^ 31) (h : sm_X L xs d y cb is lv st (wm sh (m_setR M a k none)) Q) : sm_X L xs d y cb (i :: is) lv st0 (wm sh M) Q := by
  subst hst
  cases i <;> first | (cases hi; done) | skip
  refine x_op ?_ h
  simp only [sm_op, wm_get hs]
  rw [← wm_setR hs, if_neg (vp_in_nI hk hm), nI_clamp (by omega)]
  rfl
/-- the same lists, but one has other words or is dropped -/
theorem rL_upd {M' : mm_T} {E : Nat → lT} {P w : Nat → Nat} {l : Nat} {e : lT} (h : rL dy M E P w n) (hl : l < n) (eK : lK e = lK (E l)) (e1 : lA1 e = lA1 (E l)) (e2 : lA2 e = lA2 (E l)) (eP : lPt e = lPt (E l))
    (o1 : lMy e ≤ 40) (o2 : ∀ i, i < lMy e → ∃ m, wOK 26 (lWd e i) m) (o3 : ∀ i j, i < lMy e → j < lMy e → lWd e i = lWd e j → i = j)
    (f4 : M'.1 4 3 = M.1 4 3) (f9 : M'.1 65 9 = M.1 65 9) (f6 : ∀ i, M'.1 6 i = M.1 6 i ∧ M'.1 79 i = M.1 79 i) (f75 : ∀ i, M'.1 75 i = M.1 75 i ∧ M'.1 76 i = M.1 76 i ∧ M'.1 77 i = M.1 77 i ∧ M'.2.1 78 i = M.2.1 78 i) (fo : ∀ i, i ≠ l → M'.1 80 i = M.1 80 i ∧ M'.1 81 i = M.1 81 i) (fw : ∀ i, (i < 40 * l ∨ 40 * l + 40 ≤ i) → M'.2.1 82 i = M.2.1 82 i ∧ M'.1 83 i = M.1 83 i)
    (fr : ∀ i, i ≠ l → M'.2.2 5 i = M.2.2 5 i) (fp : ∀ m, m < n → m ≠ l → ∀ a, P m ≤ a → a < P m + lSz (lK (E m)) → (∀ i, M'.1 a i = M.1 a i) ∧ ∀ i, M'.2.1 a i = M.2.1 a i)
    (k1 : cMem M' (P l) e) (k2 : M'.2.2 5 l = if lDr e = true then none else some (P l)) (k3 : M'.1 80 l = zz (lDr e)) (k4 : M'.1 81 l = nI (lMy e)) (k5 : ∀ k, k < lMy e → M'.2.1 82 (40 * l + k) = lWd e k) (k6 : lK e = 1 → ∀ k, k < lMy e → M'.1 83 (40 * l + k) = lSc e k) : rL dy M' (updE E l e) P w n := by
  obtain ⟨l1, l2, l3, l4, l5, l6, l7, l8, l9, l10⟩ := h
  have eKm : ∀ m, lK (updE E l e m) = lK (E m) := by
    intro m
    by_cases q : m = l
    · subst q; rw [updE_at, eK]
    · rw [updE_ne _ _ q]
  have e1m : ∀ m, lA1 (updE E l e m) = lA1 (E m) := by
    intro m
    by_cases q : m = l
    · subst q; rw [updE_at, e1]
    · rw [updE_ne _ _ q]
  have e2m : ∀ m, lA2 (updE E l e m) = lA2 (E m) := by
    intro m
    by_cases q : m = l
    · subst q; rw [updE_at, e2]
    · rw [updE_ne _ _ q]
  have ePm : ∀ m, lPt (updE E l e m) = lPt (E m) := by
    intro m
    by_cases q : m = l
    · subst q; rw [updE_at, eP]
    · rw [updE_ne _ _ q]
  refine ⟨⟨l1.1, fun m hm => ?_⟩, ⟨by rw [f4]; exact l2.1, fun m hm => ?_⟩, fun m hm => ?_, by rw [f9]; exact l4, fun m hm => ?_, fun m hm => ?_, fun m hm => by rw [eKm]; exact l7 m hm, fun a b x y => by rw [eKm]; exact l8 a b x y, l9, fun m x y => ?_⟩
  · obtain ⟨q1, q2, q3, q4, q5, q6, q7⟩ := l1.2 m hm
    refine ⟨by rw [eKm]; exact q1, by rw [eKm, e1m]; exact q2, by rw [eKm, e2m]; exact q3, by rw [eKm, ePm]; exact q4, ?_, ?_, ?_⟩
    · by_cases q : m = l
      · subst q; rw [updE_at]; exact o1
      · rw [updE_ne _ _ q]; exact q5
    · by_cases q : m = l
      · subst q; rw [updE_at]; exact o2
      · rw [updE_ne _ _ q]; exact q6
    · by_cases q : m = l
      · subst q; rw [updE_at]; exact o3
      · rw [updE_ne _ _ q]; exact q7
  · obtain ⟨q1, q2, q3, q4⟩ := l2.2 m hm
    refine ⟨q1, by rw [eKm]; exact q2, ?_, ?_⟩
    · by_cases q : m = l
      · subst q; rw [updE_at]; exact k1
      · rw [updE_ne _ _ q]
        have f0 := fp m hm q
        obtain ⟨p1, p2, p3, p4, p5⟩ := q3
        have a0 := f0 (P m) (Nat.le_refl _) (by unfold lSz; split <;> (try split) <;> omega)
        refine ⟨by rw [a0.1]; exact p1, fun hk => ⟨by rw [a0.1]; exact (p2 hk).1, fun k hk2 => ?_⟩, fun hk k hk2 => ?_, fun hk => ?_, fun hk => ?_⟩
        · rw [(f0 (P m + 1) (by omega) (by unfold lSz; split <;> (try split) <;> omega)).2]; exact (p2 hk).2 k hk2
        · rw [(f0 (P m + 2) (by omega) (by unfold lSz; rw [if_pos hk]; omega)).1]; exact p3 hk k hk2
        · rw [a0.1, a0.1, a0.2, a0.2]; exact p4 hk
        · rw [a0.1, a0.1]; exact p5 hk
    · by_cases q : m = l
      · subst q; rw [updE_at]; exact k2
      · rw [updE_ne _ _ q, fr m q]; exact q4
  · obtain ⟨q1, q2, q3, q4, q5, q6, q7, q8⟩ := l3 m hm
    refine ⟨by rw [(f75 m).1, eKm]; exact q1, by rw [(f75 m).2.1, eKm, e1m]; exact q2, by rw [(f75 m).2.2.1, eKm, e2m]; exact q3, by rw [(f75 m).2.2.2, eKm, ePm]; exact q4, ?_, ?_, ?_, ?_⟩
    · by_cases q : m = l
      · subst q; rw [updE_at]; exact k3
      · rw [updE_ne _ _ q, (fo m q).1]; exact q5
    · by_cases q : m = l
      · subst q; rw [updE_at]; exact k4
      · rw [updE_ne _ _ q, (fo m q).2]; exact q6
    · by_cases q : m = l
      · subst q; rw [updE_at]; exact k5
      · rw [updE_ne _ _ q]
        have := (l1.2 m hm).2.2.2.2.1
        exact fun k hk => by rw [(fw _ (by omega)).1]; exact q7 k hk
    · by_cases q : m = l
      · subst q; rw [updE_at]; exact k6
      · rw [updE_ne _ _ q]
        have := (l1.2 m hm).2.2.2.2.1
        exact fun hk k hk2 => by rw [(fw _ (by omega)).2]; exact q8 hk k hk2
  · rw [eKm, e1m, e2m]; exact l5 m hm
  · rw [(f6 m).1, (f6 m).2]; exact l6 m hm
  · rw [(fo m (by omega)).1, (fo m (by omega)).2]; exact l10 m x y
theorem R_drop {M' : mm_T} {s : Nat × (Nat → Int32)} {E : Nat → lT} {P w : Nat → Nat} {l : Nat} (hG : rG M n) (hN : rN M t s) (hL : rL dy M E P w n) (hQ : rQ M) (hl : l < n)
    (e : M' = m_setI (m_setI (m_setI (m_setI (m_setR (m_setI M 1 5 0) 5 l none) 0 11 0) 65 19 0) 80 l 1) 65 38 0) : rR (t + 1) dy M' := by
  have e2 : M'.2.1 = M.2.1 := by rw [e]; rfl
  have er : ∀ a i, M'.2.2 a i = if a = 5 ∧ i = l then none else M.2.2 a i := fun a i => by rw [e]; exact mR_at M 5 l none a i
  have ef : ∀ a i, ¬ (a = 1 ∧ i = 5) → ¬ (a = 0 ∧ i = 11) → ¬ (a = 65 ∧ i = 19) → ¬ (a = 65 ∧ i = 38) → ¬ (a = 80 ∧ i = l) → M'.1 a i = M.1 a i := fun a i h1 h2 h3 h4 h5 => by
    subst e
    rw [mI_at, if_neg h4, mI_at, if_neg h5, mI_at, if_neg h3, mI_at, if_neg h2, mR_1, mI_at, if_neg h1]
  obtain ⟨q1, q2, q3, q4, q5, q6, q7, q8⟩ := hL.2.2.1 l hl
  obtain ⟨r1, r2, r3, r4⟩ := hL.2.1.2 l hl
  obtain ⟨o1, o2, o3, o4, o5, o6, o7⟩ := hL.1.2 l hl
  have hl7 := hL.2.2.2.2.2.2.1
  have hn := hL.1.1
  have c14 : ∀ m, m < n → 114 ≤ P m := fun m hm => (hL.2.1.2 m hm).1
  refine ⟨s, updE E l (dropE (E l)), P, w, n, rG_fr hG (Nat.le_refl n) (fun a i h => ef a i (by omega) (by omega) (by omega) (by omega) (by omega)) ?_, rN_cl hN (Nat.le_succ t) (fun a i h => ef a i (by omega) (by omega) (by omega) (by omega) (by omega)) (by subst e; rfl), ?_, rS_0 (by subst e; rfl) (by subst e; rfl), rQ_fr hQ (fun a i h => ef a i (by omega) (by omega) (by omega) (by omega) (by omega)) (fun a _ => by rw [e2])⟩
  · funext i
    rw [er, if_neg (by omega)]
  · refine rL_upd hL hl rfl rfl rfl rfl o5 o6 o7 (ef _ _ (by omega) (by omega) (by omega) (by omega) (by omega)) (ef _ _ (by omega) (by omega) (by omega) (by omega) (by omega)) (fun i => ⟨ef _ _ (by omega) (by omega) (by omega) (by omega) (by omega), ef _ _ (by omega) (by omega) (by omega) (by omega) (by omega)⟩) (fun i => ⟨ef _ _ (by omega) (by omega) (by omega) (by omega) (by omega), ef _ _ (by omega) (by omega) (by omega) (by omega) (by omega), ef _ _ (by omega) (by omega) (by omega) (by omega) (by omega), by rw [e2]⟩) (fun i hi => ⟨ef _ _ (by omega) (by omega) (by omega) (by omega) (by omega), ef _ _ (by omega) (by omega) (by omega) (by omega) (by omega)⟩) (fun i hi => ⟨by rw [e2], ef _ _ (by omega) (by omega) (by omega) (by omega) (by omega)⟩) (fun i hi => by rw [er, if_neg (by omega)]) (fun m hm hml a x y => ?_) ?_ ?_ ?_ ?_ ?_ ?_
    · have := c14 m hm
      exact ⟨fun i => ef _ _ (by omega) (by omega) (by omega) (by omega) (by omega), fun i => by rw [e2]⟩
    · obtain ⟨p1, p2, p3, p4, p5⟩ := r3
      have ea : ∀ a i, P l ≤ a → M'.1 a i = M.1 a i := fun a i h => ef _ _ (by omega) (by omega) (by omega) (by omega) (by omega)
      refine ⟨by rw [ea _ _ (Nat.le_refl _)]; exact p1, fun hk => ⟨by rw [ea _ _ (Nat.le_refl _)]; exact (p2 hk).1, fun k hk2 => by rw [e2]; exact (p2 hk).2 k hk2⟩, fun hk k hk2 => by rw [ea _ _ (by omega)]; exact p3 hk k hk2, fun hk => by rw [ea _ _ (Nat.le_refl _), ea _ _ (Nat.le_refl _), e2]; exact p4 hk, fun hk => by rw [ea _ _ (Nat.le_refl _), ea _ _ (Nat.le_refl _)]; exact p5 hk⟩
    · rw [er, if_pos ⟨rfl, rfl⟩]; rfl
    · show M'.1 80 l = (1 : Int32)
      subst e
      (repeat (first | rw [mI_at, if_neg (by omega)] | rw [mI_at, if_pos ⟨rfl, rfl⟩] | rw [mA_at, if_neg (by omega)] | rw [mA_at, if_pos rfl] | rw [mL_1] | rw [mR_1]))
    · rw [ef _ _ (by omega) (by omega) (by omega) (by omega) (by omega)]; exact q6
    · intro k hk
      rw [e2]; exact q7 k hk
    · intro hk k hk2
      rw [ef _ _ (by omega) (by omega) (by omega) (by omega) (by omega)]; exact q8 hk k hk2
theorem c_wantN {E : Nat → lT} {P : Nat → Nat} {l : Nat} (hE : lOK E n) (hl : l < n) (hs : cLs (sh0 ++ dy) M E P n) (hd : lDr (E l) = true) (hq : Q (some .null) (wm (sh0 ++ dy) (nFind M 1 3 (nI 1)))) : sm_E L xs (d + 3) 41 [.ref 4, .int (nI l)] (wm (sh0 ++ dy) M) Q := c_want hE hl hs (fun h => by rw [hd] at h; cases h) (fun _ => hq)
theorem c_wantR {E : Nat → lT} {P : Nat → Nat} {l : Nat} (hE : lOK E n) (hl : l < n) (hs : cLs (sh0 ++ dy) M E P n) (hd : lDr (E l) = false) (hq : Q (some (.ref (P l))) (wm (sh0 ++ dy) M)) : sm_E L xs (d + 3) 41 [.ref 4, .int (nI l)] (wm (sh0 ++ dy) M) Q := c_want hE hl hs (fun _ => hq) (fun h => by rw [hd] at h; cases h)
theorem zz_n0 {x : Int32} {b : Bool} (h : x = zz b) (hb : b = true) : ¬ x = 0 := by rw [h, hb]; decide
theorem zz_e0 {x : Int32} {b : Bool} (h : x = zz b) (hb : b = false) : x = 0 := by rw [h, hb]; rfl
set_option maxRecDepth 4000 in
theorem p_drop {v : Int32} (h : rR t dy M) : pr L xs t dy M 40 167 [.int v] := by
  have hR := h; obtain ⟨s, E, P, w, n, hG, hN, hL, hS, hQ⟩ := h; have z0 : (0 : Int32) = 0 := rfl; have z1 : (0 : Int32) ≤ 0 := (by decide); have z11 : ¬ (1 : Int32) = 0 := (by decide); have z12 : ¬ (1 : Int32) ≤ 0 := (by decide); obtain ⟨M1, hM1⟩ : ∃ M1, m_setI M 1 5 0 = M1 := ⟨_, rfl⟩; have g1 : rG M1 n := hM1 ▸ rG_c hG; obtain ⟨M2, hM2⟩ : ∃ M2, m_setI M1 65 19 0 = M2 := ⟨_, rfl⟩; have g2 : rG M2 n := hM2 ▸ rG_z g1
  unfold pr; refine e_intro rfl rfl ?_
  have hn16 : n ≤ 16 := hL.1.1
  have c43 : M1.1 4 3 = nI n := by subst hM1; exact hL.2.1.1
  have k65 : M1.1 65 9 = nI n := by subst hM1; exact hL.2.2.2.1
  have k65' : M2.1 65 9 = nI n := by subst hM2; exact k65
  by_cases hv : gRow (nI n) v = true
  · obtain ⟨l, hl, rfl⟩ := gRow_nn hn16 hv
    have hs1 : cLs (sh0 ++ dy) M1 E P n := by subst hM1; exact (rL_fr (M' := m_setI M 1 5 0) hL (fun a i h => by repeat (first | rw [mI_at, if_neg (by omega)] | rw [mA_at, if_neg (by omega)] | rw [mL_1] | rw [mR_1])) (fun _ _ => rfl) rfl).2.1
    have q5 : M.1 80 l = zz (lDr (E l)) := (hL.2.2.1 l hl).2.2.2.2.1
    cases hd : lDr (E l) with
    | true =>
      obtain ⟨MF, hMF⟩ : ∃ MF, m_setI (nFind M1 1 3 (nI 1)) 65 19 0 = MF := ⟨_, rfl⟩
      have kF : MF.1 65 9 = nI n := by rw [← hMF]; exact k65
      have dF : ¬ MF.1 80 l = 0 := by
        have : MF.1 80 l = M.1 80 l := by rw [← hMF]; subst hM1; rfl
        rw [this]; exact zz_n0 q5 hd
      refine x_opp rfl rfl ?_
      refine m_getg (s_0 dy) rfl rfl rfl ?_
      refine a_callV (s_1 dy) rfl rfl rfl rfl (c_clear (s_1 dy) ?_)
      refine x_opp rfl rfl ?_
      refine m_getg (s_0 dy) rfl rfl rfl ?_
      refine x_opp rfl rfl ?_
      rw [hM1]
      refine a_callV (s_4 dy) rfl rfl rfl rfl (c_made c43 ?_)
      refine a_ifT rfl rfl br_nez (by first | exact hv | exact nt_f hv | exact tnf hv | exact fnt hv | exact Int32.not_lt.mp hv | exact Int32.not_le.mp hv | exact Int32.not_lt.mpr hv | exact Int32.not_le.mpr hv) ?_
      refine x_opp rfl rfl ?_
      refine m_getg (s_0 dy) rfl rfl rfl ?_
      refine x_opp rfl rfl ?_
      refine a_callV (s_4 dy) rfl rfl rfl rfl (c_wantN hL.1 hl hs1 hd ?_)
      refine x_ifnonN ?_
      refine x_opp rfl rfl ?_
      refine m_getg (s_0 dy) rfl rfl rfl ?_
      refine a_callV (s_1 dy) rfl rfl rfl rfl (c_answer (s_1 dy) ?_)
      refine a_iret rfl rfl rfl ?_
      refine ⟨_, dy, _, rfl, rfl, ?_⟩; refine e_intro rfl rfl ?_
      refine x_opp rfl rfl ?_
      refine x_kcg rfl ?_
      refine a_putJ 19 (s_65 dy) rfl rfl rfl rfl ?_
      refine x_opp rfl rfl ?_
      refine x_opp rfl rfl ?_
      rw [hMF]
      refine a_callV (s_65 dy) rfl rfl rfl rfl (k_made hn16 kF ?_)
      refine a_ifT rfl rfl br_nez (by first | exact hv | exact nt_f hv | exact tnf hv | exact fnt hv | exact Int32.not_lt.mp hv | exact Int32.not_le.mp hv | exact Int32.not_lt.mpr hv | exact Int32.not_le.mpr hv) ?_
      refine x_opp rfl rfl ?_
      refine m_getg (s_65 dy) rfl rfl rfl ?_
      refine x_opp rfl rfl ?_
      refine a_baldN (s_80 dy) (k := l) rfl rfl rfl (by omega) (by decide) ?_
      refine a_ifF rfl rfl br_eq (by first | exact dF | exact nt_f dF | exact tnf dF | exact fnt dF | exact Int32.not_lt.mp dF | exact Int32.not_le.mp dF | exact Int32.not_lt.mpr dF | exact Int32.not_le.mpr dF) ?_
      refine x_opp rfl rfl ?_
      refine x_kcg rfl ?_
      refine a_callV (s_65 dy) rfl rfl rfl rfl (k_met (vp_in_nI (n := 1) (by decide) (by decide)) ?_)
      refine a_iret rfl rfl rfl ?_
      subst hMF; subst hM1
      exact ⟨rfl, _, rfl, R_fd (k := 1) (by decide) hR⟩
    | false =>
      refine x_opp rfl rfl ?_
      refine m_getg (s_0 dy) rfl rfl rfl ?_
      refine a_callV (s_1 dy) rfl rfl rfl rfl (c_clear (s_1 dy) ?_)
      refine x_opp rfl rfl ?_
      refine m_getg (s_0 dy) rfl rfl rfl ?_
      refine x_opp rfl rfl ?_
      rw [hM1]
      refine a_callV (s_4 dy) rfl rfl rfl rfl (c_made c43 ?_)
      refine a_ifT rfl rfl br_nez (by first | exact hv | exact nt_f hv | exact tnf hv | exact fnt hv | exact Int32.not_lt.mp hv | exact Int32.not_le.mp hv | exact Int32.not_lt.mpr hv | exact Int32.not_le.mpr hv) ?_
      refine x_opp rfl rfl ?_
      refine m_getg (s_0 dy) rfl rfl rfl ?_
      refine x_opp rfl rfl ?_
      refine a_callV (s_4 dy) rfl rfl rfl rfl (c_wantR hL.1 hl hs1 hd ?_)
      refine x_ifnonR ?_
      refine x_opp rfl rfl ?_
      refine m_getg (s_0 dy) rfl rfl rfl ?_
      refine m_getg (s_4 dy) rfl rfl rfl ?_
      refine x_opp rfl rfl ?_
      refine x_opp rfl rfl ?_
      refine a_aastZ (s_5 dy) rfl rfl (show l < 16 by omega) (by decide) ?_
      refine x_opp rfl rfl ?_
      refine x_kcg rfl ?_
      refine a_putJ 11 (s_0 dy) rfl rfl rfl rfl ?_
      refine x_kcg rfl ?_
      refine a_iret rfl rfl rfl ?_
      obtain ⟨M3, hM3⟩ : ∃ M3, m_setI (m_setR M1 5 l none) 0 11 0 = M3 := ⟨_, rfl⟩
      rw [hM3]
      refine ⟨_, dy, _, rfl, rfl, ?_⟩; refine e_intro rfl rfl ?_
      obtain ⟨M4, hM4⟩ : ∃ M4, m_setI M3 65 19 0 = M4 := ⟨_, rfl⟩
      have k4 : M4.1 65 9 = nI n := by rw [← hM4, ← hM3]; exact k65
      have d4 : M4.1 80 l = 0 := by
        have : M4.1 80 l = M.1 80 l := by rw [← hM4, ← hM3]; subst hM1; rfl
        rw [this]; exact zz_e0 q5 hd
      refine x_opp rfl rfl ?_
      refine x_kcg rfl ?_
      refine a_putJ 19 (s_65 dy) rfl rfl rfl rfl ?_
      refine x_opp rfl rfl ?_
      refine x_opp rfl rfl ?_
      rw [hM4]
      refine a_callV (s_65 dy) rfl rfl rfl rfl (k_made hn16 k4 ?_)
      refine a_ifT rfl rfl br_nez (by first | exact hv | exact nt_f hv | exact tnf hv | exact fnt hv | exact Int32.not_lt.mp hv | exact Int32.not_le.mp hv | exact Int32.not_lt.mpr hv | exact Int32.not_le.mpr hv) ?_
      refine x_opp rfl rfl ?_
      refine m_getg (s_65 dy) rfl rfl rfl ?_
      refine x_opp rfl rfl ?_
      refine a_baldN (s_80 dy) (k := l) rfl rfl rfl (by omega) (by decide) ?_
      refine a_ifT rfl rfl br_eq (by first | exact d4 | exact nt_f d4 | exact tnf d4 | exact fnt d4 | exact Int32.not_lt.mp d4 | exact Int32.not_le.mp d4 | exact Int32.not_lt.mpr d4 | exact Int32.not_le.mpr d4) ?_
      refine x_opp rfl rfl ?_
      refine m_getg (s_65 dy) rfl rfl rfl ?_
      refine x_opp rfl rfl ?_
      refine x_kcg rfl ?_
      refine a_bastN (s_80 dy) (k := l) rfl rfl rfl (by omega) (by decide) (by first | exact zz_01 _ | exact Or.inl rfl | exact Or.inr rfl) ?_
      refine x_opp rfl rfl ?_
      refine a_callV (s_65 dy) rfl rfl rfl rfl (k_changed ?_)
      refine x_kcg rfl ?_
      refine a_iret rfl rfl rfl ?_
      subst hM4; subst hM3; subst hM1
      exact ⟨rfl, _, rfl, R_drop hG hN hL hQ hl rfl⟩
  · refine x_opp rfl rfl ?_
    refine m_getg (s_0 dy) rfl rfl rfl ?_
    refine a_callV (s_1 dy) rfl rfl rfl rfl (c_clear (s_1 dy) ?_)
    refine x_opp rfl rfl ?_
    refine m_getg (s_0 dy) rfl rfl rfl ?_
    refine x_opp rfl rfl ?_
    rw [hM1]
    refine a_callV (s_4 dy) rfl rfl rfl rfl (c_made c43 ?_)
    refine a_ifF rfl rfl br_nez (by first | exact hv | exact nt_f hv | exact tnf hv | exact fnt hv | exact Int32.not_lt.mp hv | exact Int32.not_le.mp hv | exact Int32.not_lt.mpr hv | exact Int32.not_le.mpr hv) ?_
    refine x_kcg rfl ?_
    refine a_iret rfl rfl rfl ?_
    refine ⟨_, dy, _, rfl, rfl, ?_⟩; refine e_intro rfl rfl ?_
    refine x_opp rfl rfl ?_
    refine x_kcg rfl ?_
    refine a_putJ 19 (s_65 dy) rfl rfl rfl rfl ?_
    refine x_opp rfl rfl ?_
    refine x_opp rfl rfl ?_
    rw [hM2]
    refine a_callV (s_65 dy) rfl rfl rfl rfl (k_made hn16 k65' ?_)
    refine a_ifF rfl rfl br_nez (by first | exact hv | exact nt_f hv | exact tnf hv | exact fnt hv | exact Int32.not_lt.mp hv | exact Int32.not_le.mp hv | exact Int32.not_lt.mpr hv | exact Int32.not_le.mpr hv) ?_
    refine x_kcg rfl ?_
    refine a_iret rfl rfl rfl ?_
    subst hM2; subst hM1; exact ⟨rfl, _, rfl, R_cl hR⟩
end DR
