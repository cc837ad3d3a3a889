/-! the reference begins a searching: order, and all of it -/
section MBU
variable {L : Nat} {xs : Nat → Int32} {d : Nat} {dy : List sh_T} {M : mm_T} {Q : Option Value → sm_W → Prop} {q G : Nat} {E : Nat → lT} {n : Nat}
set_option maxRecDepth 4000 in
theorem l_bsD {M0 : mm_T} {nn : Nat} {mn : Nat → Nat} {v3 : Int32} (hq1 : q ≤ 1) (h42 : nn ≤ 42) (hsz : M0.1 65 32 = nI nn) (hmn : ∀ e, e < nn → M0.1 101 (48 * q + e) = nI (mn e) ∧ mn e ≤ 40) (hq : ∀ M', bF M M' q → (∀ a, a ≠ 102 → M'.1 a = M0.1 a) → M'.2 = M0.2 → (∀ k, k < nn → M'.1 102 (48 * q + k) = nI ((oAll mn nn).getD k 0)) → sm_X L xs d 194 24 (sm_code 194 24) [(0, .ref 65), (1, .int (nI q)), (2, .int (nI G))] [] (wm (sh0 ++ dy) M') Q) (h0 : bF M M0 q) :
    sm_X L xs d 194 18 (sm_code 194 18) [(0, .ref 65), (1, .int (nI q)), (2, .int (nI G)), (3, .int v3), (4, .int (nI 0))] [] (wm (sh0 ++ dy) M0) Q := by
  have hm := s_65 dy
  have lp : ∀ M1, bF M M1 q → (∀ a, a ≠ 102 → M1.1 a = M0.1 a) → M1.2 = M0.2 → (∀ k, k < 0 → M1.1 102 (48 * q + k) = nI ((oAll mn 0).getD k 0)) → sm_X L xs d 194 18 (sm_code 194 18) [(0, .ref 65), (1, .int (nI q)), (2, .int (nI G)), (3, .int v3), (4, .int (nI 0))] [] (wm (sh0 ++ dy) M1) Q := by
    refine loop_dn (P := fun e => ∀ M1, bF M M1 q → (∀ a, a ≠ 102 → M1.1 a = M0.1 a) → M1.2 = M0.2 → (∀ k, k < e → M1.1 102 (48 * q + k) = nI ((oAll mn e).getD k 0)) → sm_X L xs d 194 18 (sm_code 194 18) [(0, .ref 65), (1, .int (nI q)), (2, .int (nI G)), (3, .int v3), (4, .int (nI e))] [] (wm (sh0 ++ dy) M1) Q) nn ?_ ?_
    · intro M1 b1 f b2 o
      have fin := hq M1 b1 f b2 o
      repeat (first | refine x_kcg rfl ?_ | refine x_opp rfl rfl ?_ | refine x_go rfl ?_ | refine m_getg hm rfl rfl rfl ?_)
      rw [show M1.1 65 32 = nI nn by rw [f 65 (by decide)]; exact hsz]
      refine x_icm br_ge (fun _ => ?_) (fun h => absurd (nI_le (Nat.le_refl _) (by omega)) h)
      refine x_lvs [(0, .ref 65), (1, .int (nI q)), (2, .int (nI G))] rfl rfl rfl ⟨rfl, rfl, rfl, trivial⟩ ?_
      exact fin
    · intro e he ih M1 b1 f b2 o
      have hlen : (oAll mn e).length = e := oAll_len mn e
      generalize hp : (fun i => Nat.ble (mn e + 1) (mn ((oAll mn e).getD i 0))) = p
      have hO : oAll mn (e + 1) = lIns (oAll mn e) (insI p e) e := by
        show oIns mn (oAll mn e) e = _
        unfold oIns
        rw [hlen, ← hp]
      have fin : ∀ i, i ≤ e → insI p e = i → ∀ M2, bF M M2 q → (∀ a, a ≠ 102 → M2.1 a = M0.1 a) → M2.2 = M0.2 → (∀ j, j < i → M2.1 102 (48 * q + j) = nI ((oAll mn e).getD j 0)) → (∀ j, i < j → j ≤ e → M2.1 102 (48 * q + j) = nI ((oAll mn e).getD (j - 1) 0)) → sm_X L xs d 194 23 (sm_code 194 23) [(0, .ref 65), (1, .int (nI q)), (2, .int (nI G)), (3, .int v3), (4, .int (nI e)), (5, .int (nI i))] [] (wm (sh0 ++ dy) M2) Q := by
        intro i hi hI M2 b3 f2 b4 o1 o2
        have x1 := g48 q i
        have fin := ih (m_setI M2 102 (48 * q + i) (nI e)) (bF_I b3 (by omega)) (fun a ha => by rw [mI_ne _ _ _ ha]; exact f2 a ha) b4 (fun k hk => by
          rw [hO, hI, lIns_get _ _ (by omega), mI_at]
          by_cases g1 : k < i
          · rw [if_pos g1, if_neg (fun h => by have := h.2; omega)]
            exact o1 k g1
          · rw [if_neg g1]
            by_cases g2 : k = i
            · rw [if_pos g2, if_pos ⟨rfl, by omega⟩]
            · rw [if_neg g2, if_neg (fun h => g2 (by have := h.2; omega))]
              exact o2 k (by omega) (by omega))
        repeat (first | refine x_kcg rfl ?_ | refine x_opp rfl rfl ?_ | refine x_go rfl ?_ | refine m_getg hm rfl rfl rfl ?_)
        rw [x1]
        refine m_iast (s_102 dy) (vp_in_nI (by omega) (by decide)) ?_
        rw [nI_clamp (by omega)]
        repeat (first | refine x_kcg rfl ?_ | refine x_incg rfl rfl ?_ | refine x_opp rfl rfl ?_)
        refine x_goto ?_
        refine x_lvs [(0, .ref 65), (1, .int (nI q)), (2, .int (nI G)), (3, .int v3), (4, .int (nI (e + 1)))] rfl rfl rfl ⟨rfl, rfl, rfl, rfl, rfl, trivial⟩ ?_
        exact fin
      have lp2 : ∀ i, i ≤ e → insI p e = insI p i → ∀ M2, bF M M2 q → (∀ a, a ≠ 102 → M2.1 a = M0.1 a) → M2.2 = M0.2 → (∀ j, j < i → M2.1 102 (48 * q + j) = nI ((oAll mn e).getD j 0)) → (∀ j, i < j → j ≤ e → M2.1 102 (48 * q + j) = nI ((oAll mn e).getD (j - 1) 0)) → sm_X L xs d 194 20 (sm_code 194 20) [(0, .ref 65), (1, .int (nI q)), (2, .int (nI G)), (3, .int v3), (4, .int (nI e)), (5, .int (nI i))] [] (wm (sh0 ++ dy) M2) Q := by
        intro i
        induction i with
        | zero =>
          intro hi hI M2 b3 f2 b4 o1 o2
          have f := fin 0 hi hI M2 b3 f2 b4 o1 o2
          repeat (first | refine x_kcg rfl ?_ | refine x_opp rfl rfl ?_ | refine x_go rfl ?_)
          refine x_ifc br_le (fun _ => ?_) (fun h => absurd (by decide) h)
          exact f
        | succ i ih2 =>
          intro hi hI M2 b3 f2 b4 o1 o2
          have x3 := g48 q (i + 1)
          have x2 : nI (48 * q + (i + 1)) - 1 = nI (48 * q + i) := by rw [← Nat.add_assoc, nI_pred]
          have w1 := o1 i (by omega)
          have hmm : (oAll mn e).getD i 0 < e := by
            rw [List.getD_eq_getElem?_getD, List.getElem?_eq_getElem (by omega)]
            exact (oAll_mem mn e _).mp (List.getElem_mem _)
          obtain ⟨m1, m2⟩ := hmn ((oAll mn e).getD i 0) (by omega)
          obtain ⟨m3, m4⟩ := hmn e he
          have e7 : ∀ j, M2.1 101 j = M0.1 101 j := fun j => by rw [f2 101 (by decide)]
          have x4 := g48 q ((oAll mn e).getD i 0)
          have x5 := g48 q e
          repeat (first | refine x_kcg rfl ?_ | refine x_opp rfl rfl ?_ | refine x_go rfl ?_)
          refine x_ifc br_le (fun h => absurd h (nI_nle (by omega) (by omega))) (fun _ => ?_)
          repeat (first | refine x_kcg rfl ?_ | refine x_opp rfl rfl ?_ | refine x_go rfl ?_ | refine m_getg hm rfl rfl rfl ?_)
          rw [x3, x2]
          refine m_iald (s_102 dy) (vp_in_nI (by omega) (by decide)) ?_
          rw [nI_clamp (by omega), w1]
          repeat (first | refine x_kcg rfl ?_ | refine x_opp rfl rfl ?_ | refine x_go rfl ?_)
          rw [x4]
          refine m_iald (s_101 dy) (vp_in_nI (by omega) (by decide)) ?_
          rw [nI_clamp (by omega), e7, m1]
          repeat (first | refine x_kcg rfl ?_ | refine x_opp rfl rfl ?_ | refine x_go rfl ?_ | refine m_getg hm rfl rfl rfl ?_)
          rw [x5]
          refine m_iald (s_101 dy) (vp_in_nI (by omega) (by decide)) ?_
          rw [nI_clamp (by omega), e7, m3]
          have pI : p i = Nat.ble (mn e + 1) (mn ((oAll mn e).getD i 0)) := by rw [← hp]
          by_cases g : mn e < mn ((oAll mn e).getD i 0)
          · have gT : p i = true := by rw [pI]; exact Nat.ble_eq_true_of_le g
            refine x_icm br_le (fun h => absurd h (nI_ge g (by omega))) (fun _ => ?_)
            have f := ih2 (by omega) (by rw [hI]; conv => lhs; unfold insI; rw [if_pos gT]) (m_setI M2 102 (48 * q + (i + 1)) (nI ((oAll mn e).getD i 0))) (bF_I b3 (by omega)) (fun a ha => by rw [mI_ne _ _ _ ha]; exact f2 a ha) b4 (fun j hj => by rw [mI_at, if_neg (fun h => by have := h.2; omega)]; exact o1 j (by omega)) (fun j hj1 hj2 => by
              rw [mI_at]
              by_cases e1 : j = i + 1
              · rw [if_pos ⟨rfl, by omega⟩, e1, Nat.add_sub_cancel]
              · rw [if_neg (fun h => e1 (by have := h.2; omega))]
                exact o2 j (by omega) hj2)
            repeat (first | refine x_kcg rfl ?_ | refine x_opp rfl rfl ?_ | refine x_go rfl ?_ | refine m_getg hm rfl rfl rfl ?_)
            rw [x3, x2]
            refine m_iald (s_102 dy) (vp_in_nI (by omega) (by decide)) ?_
            rw [nI_clamp (by omega), w1]
            refine m_iast (s_102 dy) (vp_in_nI (by omega) (by decide)) ?_
            rw [nI_clamp (by omega)]
            refine x_decN (j := i) rfl ?_
            refine x_goto ?_
            refine x_lvs [(0, .ref 65), (1, .int (nI q)), (2, .int (nI G)), (3, .int v3), (4, .int (nI e)), (5, .int (nI i))] rfl rfl rfl ⟨rfl, rfl, rfl, rfl, rfl, rfl, trivial⟩ ?_
            exact f
          · have gF : ¬ p i = true := by rw [pI]; exact fun h => g (Nat.le_of_ble_eq_true h)
            have f := fin (i + 1) hi (by rw [hI]; unfold insI; rw [if_neg gF]) M2 b3 f2 b4 o1 o2
            refine x_icm br_le (fun _ => ?_) (fun h => absurd (nI_le (by omega) (by omega)) h)
            exact f
      have f3 := lp2 e (Nat.le_refl _) rfl M1 b1 f b2 o (fun j h1 h2 => by omega)
      repeat (first | refine x_kcg rfl ?_ | refine x_opp rfl rfl ?_ | refine x_go rfl ?_ | refine m_getg hm rfl rfl rfl ?_)
      rw [show M1.1 65 32 = nI nn by rw [f 65 (by decide)]; exact hsz]
      refine x_icm br_ge (fun h => absurd h (nI_ge he (by omega))) (fun _ => ?_)
      repeat (first | refine x_kcg rfl ?_ | refine x_incg rfl rfl ?_ | refine x_opp rfl rfl ?_)
      refine x_fall ?_
      refine x_lvs [(0, .ref 65), (1, .int (nI q)), (2, .int (nI G)), (3, .int v3), (4, .int (nI e)), (5, .int (nI e))] rfl rfl rfl ⟨rfl, rfl, rfl, rfl, rfl, rfl, trivial⟩ ?_
      exact f3
  exact lp M0 h0 (fun _ _ => rfl) rfl (fun k hk => absurd hk (Nat.not_lt_zero k))
set_option maxRecDepth 4000 in
theorem k_beginSearch {H Wd B : Nat} {al dl : Option Nat} {f : Nat → Int32} {B0 : Nat → Nat} (hq1 : q ≤ 1) (hG : G < 4) (hk : mgOK M G) (hms : msOK M) (hH : M.1 67 G = nI H) (hH7 : H ≤ 7) (hW : M.1 68 G = nI Wd) (hW7 : Wd ≤ 7) (hE : lOK E n) (hal : ∀ k, al = some k → k < n) (hdl : ∀ k, dl = some k → k < n) (h73 : M.1 73 G = loI al) (h74 : M.1 74 G = loI dl) (hL : mLs M E n) (es : List eT) (hes : es = ents (M.1 67 G) (mL M G) (mC M G) Wd H) (h42 : es.length ≤ 42) (hoks : ∀ e, e ∈ es → eOK e) (tr : mTr M (B, f)) (hB0 : ∀ e, e ∈ es → ∀ i, i < e.2.2.1 → M.1 70 (49 * G + mPl e i) = nI (B0 (mPl e i)) ∧ B0 (mPl e i) < 32) (R : List Nat × Nat × List (List wsT)) (hR : R = gR E (fun e => if (eAt es e).2.1 = true then dl else al) (fun e i => B0 (mPl (eAt es e) i)) (fun e => (eAt es e).2.2.1) es.length 0 []) (hB : B + R.1.length + 2 < 2 ^ 31)
    (hS : R.2.1 = 0 → ∀ M', bF M M' q → mD M' q (gD es R.2.2 B0) → mS M' q (gD es R.2.2 B0) (0, fun _ => 0, fun _ => 0) → M'.1 98 q = nI (lsL R.2.2) → (∀ s, s < 49 → M'.1 106 (49 * q + s) = M.1 70 (49 * G + s)) → mTr M' (trc (B, f) R.1) → Q (some (.int 1)) (wm (sh0 ++ dy) M'))
    (hF : R.2.1 ≠ 0 → ∀ M', bF M M' q → mTr M' (trc (B, f) R.1) → M'.1 65 31 = nI R.2.1 → Q (some (.int 0)) (wm (sh0 ++ dy) M')) : sm_E L xs (d + 7) 194 [.ref 65, .int (nI q), .int (nI G)] (wm (sh0 ++ dy) M) Q := by
  have hm := s_65 dy
  have hq2 : q < 2 := by omega
  refine e_intro rfl rfl ?_
  repeat (first | refine x_kcg rfl ?_ | refine x_opp rfl rfl ?_ | refine x_go rfl ?_)
  refine m_callV hm rfl rfl rfl (k_findEntries (d := d) hG hk hms hH hH7 hW hW7 (by rw [← hes]; omega) (fun M1 t1 f1 => ?_))
  rw [← hes] at t1
  have b1 : bF M M1 q := bF_m f1
  have finA := l_bsA (L := L) (xs := xs) (d := d + 6) (dy := dy) (M := M) (Q := Q) (M0 := M1) hq1 hG (fun M2 b2 m2 m2L w2 => ?_) b1
  · repeat (first | refine x_kcg rfl ?_ | refine x_incg rfl rfl ?_ | refine x_opp rfl rfl ?_)
    refine x_fall ?_
    refine x_lvs [(0, .ref 65), (1, .int (nI q)), (2, .int (nI G)), (3, .int (nI 0))] rfl rfl rfl ⟨rfl, rfl, rfl, rfl, trivial⟩ ?_
    exact finA
  · have t2 : mTab M2 es := by
      unfold mTab
      rw [m2 65 (by decide), m2 91 (by decide), m2 92 (by decide), m2 93 (by decide), m2 94 (by decide), m2 95 (by decide)]
      exact t1
    have w2m : ∀ s, s < 49 → M2.1 106 (49 * q + s) = M.1 70 (49 * G + s) := fun s hs => by rw [w2 s hs, f1.2.1 70 (by decide) (by decide)]
    have finB := l_bsB (L := L) (xs := xs) (d := d + 5) (dy := dy) (M := M) (Q := Q) (M0 := M2) (G := G) hq1 h42 hoks t2 (fun M3 b3 m3 m3L e108 e107 => ?_) b2
    · repeat (first | refine x_kcg rfl ?_ | refine x_incg rfl rfl ?_ | refine x_opp rfl rfl ?_)
      refine x_fall ?_
      refine x_lvs [(0, .ref 65), (1, .int (nI q)), (2, .int (nI G)), (3, .int (nI 0)), (4, .int (nI 0))] rfl rfl rfl ⟨rfl, rfl, rfl, rfl, rfl, trivial⟩ ?_
      exact finB
    · have t3 : mTab M3 es := by
        unfold mTab
        rw [m3 65 (by decide) (by decide), m3 91 (by decide) (by decide), m3 92 (by decide) (by decide), m3 93 (by decide) (by decide), m3 94 (by decide) (by decide), m3 95 (by decide) (by decide)]
        exact t2
      have w3 : ∀ s, s < 49 → M3.1 106 (49 * q + s) = M.1 70 (49 * G + s) := fun s hs => by rw [m3 106 (by decide) (by decide)]; exact w2m s hs
      have L3 : mLs M3 E n := by
        have hh : M3.2 = M.2 := by rw [m3L, m2L, f1.1]
        unfold mLs
        rw [hh, m3 75 (by decide) (by decide), m2 75 (by decide), f1.2.1 75 (by decide) (by decide), m3 76 (by decide) (by decide), m2 76 (by decide), f1.2.1 76 (by decide) (by decide), m3 77 (by decide) (by decide), m2 77 (by decide), f1.2.1 77 (by decide) (by decide), m3 80 (by decide) (by decide), m2 80 (by decide), f1.2.1 80 (by decide) (by decide), m3 81 (by decide) (by decide), m2 81 (by decide), f1.2.1 81 (by decide) (by decide), m3 83 (by decide) (by decide), m2 83 (by decide), f1.2.1 83 (by decide) (by decide)]
        exact hL
      have tr3 : mTr M3 (B, f) := by
        unfold mTr
        rw [m3 65 (by decide) (by decide), m2 65 (by decide), m3 85 (by decide) (by decide), m2 85 (by decide), f1.2.1 85 (by decide) (by decide), f1.2.2 22 (by decide)]
        exact tr
      have e73 : M3.1 73 G = loI al := by rw [b3.2.1 73 (by decide)]; exact h73
      have e74 : M3.1 74 G = loI dl := by rw [b3.2.1 74 (by decide)]; exact h74
      have fc3 : fC M3 M3 := ⟨fun _ _ _ _ _ _ => rfl, fun _ _ _ _ => rfl, fun _ _ _ _ _ => rfl⟩
      have finC := l_bsC (L := L) (xs := xs) (d := d + 1) (dy := dy) (M := M) (Q := Q) (M0 := M3) (v := fun e i => B0 (mPl (eAt es e) i)) hq1 hG hE hal hdl e73 e74 L3 h42 hoks t3 e108 e107 (fun e i he hi => by
        have hmem : eAt es e ∈ es := List.mem_of_getElem? (eAt_get he)
        rw [w3 _ (mPl_lt (hoks _ hmem) hi)]
        exact hB0 _ hmem i hi) es.length 0 [] M3 (B, f) (by omega) b3 fc3 rfl (fun e he => absurd he (Nat.not_lt_zero e)) tr3 (by rw [← hR]; exact hB) (by
        rw [← hR]
        intro r0 M4 b4 fc4 len4 ca4 tr4
        have t4 := fC_tab fc4 t3
        generalize hM5 : m_setI (m_setI M4 96 q (nI es.length)) 98 q (nI (lsL R.2.2)) = M5
        have m5 : ∀ a, a ≠ 96 → a ≠ 98 → M5.1 a = M4.1 a := fun a y1 y2 => by rw [← hM5, mI_ne _ _ _ y2, mI_ne _ _ _ y1]
        have b5 : bF M M5 q := by rw [← hM5]; exact bF_I (bF_I b4 (by omega)) (by omega)
        have finD := l_bsD (L := L) (xs := xs) (d := d + 6) (dy := dy) (M := M) (Q := Q) (M0 := M5) (G := G) (nn := es.length) (mn := fun e => (R.2.2.getD e []).length) (v3 := nI (lsL R.2.2)) hq1 h42 (by rw [m5 65 (by decide) (by decide)]; exact t4.1) (fun e he => by
          obtain ⟨q0, q1, -⟩ := ca4 e (by omega)
          rw [m5 101 (by decide) (by decide)]
          exact ⟨q1, q0⟩) (fun M6 b6 m6 m6L o6 => ?_) b5
        · have e32 : M4.1 65 32 = nI es.length := t4.1
          repeat (first | refine x_kcg rfl ?_ | refine x_opp rfl rfl ?_ | refine x_go rfl ?_ | refine m_getg hm rfl rfl rfl ?_)
          rw [e32]
          refine m_iast (s_96 dy) (vp_in_nI hq2 (by decide)) ?_
          rw [nI_clamp (by omega)]
          repeat (first | refine x_kcg rfl ?_ | refine x_opp rfl rfl ?_ | refine x_go rfl ?_ | refine m_getg hm rfl rfl rfl ?_)
          refine m_iast (s_98 dy) (vp_in_nI hq2 (by decide)) ?_
          rw [nI_clamp (by omega), hM5]
          repeat (first | refine x_kcg rfl ?_ | refine x_incg rfl rfl ?_ | refine x_opp rfl rfl ?_)
          refine x_fall ?_
          refine x_lvs [(0, .ref 65), (1, .int (nI q)), (2, .int (nI G)), (3, .int (nI (lsL R.2.2))), (4, .int (nI 0))] rfl rfl rfl ⟨rfl, rfl, rfl, rfl, rfl, trivial⟩ ?_
          exact finD
        · generalize hM7 : m_setI (m_setI M6 97 q 0) 103 (48 * q) 0 = M7
          have m7 : ∀ a, a ≠ 97 → a ≠ 103 → M7.1 a = M6.1 a := fun a y1 y2 => by rw [← hM7, mI_ne _ _ _ y2, mI_ne _ _ _ y1]
          have m7L : M7.2 = M4.2 := by rw [← hM7]; show M6.2 = _; rw [m6L, ← hM5]; rfl
          have c74 : ∀ a, a ≠ 96 → a ≠ 97 → a ≠ 98 → a ≠ 102 → a ≠ 103 → M7.1 a = M4.1 a := fun a y1 y2 y3 y4 y5 => by rw [m7 a y2 y5, m6 a y4, m5 a y1 y3]
          have e96 : M7.1 96 q = nI es.length := by rw [m7 96 (by decide) (by decide), m6 96 (by decide), ← hM5, mI_ne _ _ _ (by decide), mI_at, if_pos ⟨rfl, rfl⟩]
          have e98 : M7.1 98 q = nI (lsL R.2.2) := by rw [m7 98 (by decide) (by decide), m6 98 (by decide), ← hM5, mI_at, if_pos ⟨rfl, rfl⟩]
          have w7 : ∀ s, s < 49 → M7.1 106 (49 * q + s) = M.1 70 (49 * G + s) := fun s hs => by rw [c74 106 (by decide) (by decide) (by decide) (by decide) (by decide), fc4.1 106 (by decide) (by decide) (by decide) (by decide) (by decide)]; exact w3 s hs
          have b7 : bF M M7 q := by rw [← hM7]; exact bF_I (bF_I b6 (by omega)) (by omega)
          have tr7 : mTr M7 (trc (B, f) R.1) := by
            unfold mTr
            rw [c74 65 (by decide) (by decide) (by decide) (by decide) (by decide), c74 85 (by decide) (by decide) (by decide) (by decide) (by decide)]
            exact tr4
          have res := hS r0 M7 b7 (by
            refine ⟨e96, fun e he => ?_, fun e i he hi => ?_, fun e he => ?_, fun e k he hk => ?_, fun k hk => ?_⟩
            · rw [c74 108 (by decide) (by decide) (by decide) (by decide) (by decide), fc4.1 108 (by decide) (by decide) (by decide) (by decide) (by decide)]
              exact e108 e he
            · rw [c74 107 (by decide) (by decide) (by decide) (by decide) (by decide), fc4.1 107 (by decide) (by decide) (by decide) (by decide) (by decide)]
              exact e107 e i he hi
            · rw [c74 101 (by decide) (by decide) (by decide) (by decide) (by decide)]
              show _ = nI ((R.2.2.getD e []).map (fun x => x.1)).length
              rw [List.length_map]
              have he : e < es.length := he
              exact (ca4 e (by omega)).2.1
            · have hk : k < ((R.2.2.getD e []).map (fun x => x.1)).length := hk
              rw [List.length_map] at hk
              have he : e < es.length := he
              rw [m7L]
              show _ = ((R.2.2.getD e []).map (fun x => x.1)).getD k 0
              rw [map_getD]
              exact (ca4 e (by omega)).2.2 k hk
            · have hk : k < es.length := hk
              rw [m7 102 (by decide) (by decide)]
              exact o6 k hk) (by
            refine ⟨?_, fun k hk1 hk2 => ?_, fun k hk1 => absurd hk1 (Nat.not_lt_zero k), fun k hk1 => absurd hk1 (Nat.not_lt_zero k), fun s hs => ?_⟩
            · rw [← hM7, mI_ne _ _ _ (by decide), mI_at, if_pos ⟨rfl, rfl⟩]
              rfl
            · have hk1 : k ≤ 0 := hk1
              have ek : k = 0 := by omega
              subst ek
              rw [← hM7, mI_at, if_pos ⟨rfl, rfl⟩]
              rfl
            · obtain ⟨e, he, i, hi, rfl⟩ := hs
              have he : e ∈ es := he
              rw [w7 _ (mPl_lt (hoks e he) hi)]
              exact (hB0 e he i hi).1) e98 w7 tr7
          have x48 : 48 * nI q = nI (48 * q) := by rw [show (48 : Int32) = nI 48 from rfl, pk_mul]
          repeat (first | refine x_kcg rfl ?_ | refine x_opp rfl rfl ?_ | refine x_go rfl ?_ | refine m_getg hm rfl rfl rfl ?_)
          refine m_iast (s_97 dy) (vp_in_nI hq2 (by decide)) ?_
          rw [nI_clamp (by omega)]
          repeat (first | refine x_kcg rfl ?_ | refine x_opp rfl rfl ?_ | refine x_go rfl ?_ | refine m_getg hm rfl rfl rfl ?_)
          rw [x48]
          refine m_iast (s_103 dy) (vp_in_nI (by omega) (by decide)) ?_
          rw [nI_clamp (by omega), hM7]
          repeat (first | refine x_kcg rfl ?_ | refine x_opp rfl rfl ?_ | refine x_go rfl ?_)
          exact x_zret (Or.inr rfl) res) (by
        rw [← hR]
        intro r0 M4 b4 _ tr4 e31
        exact hF r0 M4 b4 tr4 e31)
      repeat (first | refine x_kcg rfl ?_ | refine x_incg rfl rfl ?_ | refine x_opp rfl rfl ?_)
      refine x_fall ?_
      refine x_lvs [(0, .ref 65), (1, .int (nI q)), (2, .int (nI G)), (3, .int (nI (lsL []))), (4, .int (nI 0))] rfl rfl rfl ⟨rfl, rfl, rfl, rfl, rfl, trivial⟩ ?_
      exact finC
end MBU
