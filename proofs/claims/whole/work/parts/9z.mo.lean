/-! pairs: rows are moved -/
def dInv (M B : mm_T) (G T r0 s0 c0 d0 w0 k : Nat) (Mk : mm_T) : Prop := Mk.2 = B.2 ∧ (∀ x i, x ≠ 46 + 5 * T → ¬ (x = 0 ∧ i = 13) → Mk.1 x i = B.1 x i) ∧ Mk.1 0 13 = nI k ∧ Mk.1 (46 + 5 * T) = cdT M G T r0 s0 c0 d0 w0 k
def rInv (M B : mm_T) (G T r0 s0 c0 d0 w0 k : Nat) (Mk : mm_T) : Prop := Mk.2 = B.2 ∧ (∀ x i, ¬ (70 ≤ x ∧ x ≤ 72) → ¬ (111 ≤ x ∧ x ≤ 113) → ¬ (x = 65 ∧ i = 61) → Mk.1 x i = B.1 x i) ∧ Mk.1 65 61 = nI k ∧ Mk.1 70 = sgS M G T r0 s0 c0 d0 w0 k ∧ Mk.1 71 = rtS M G T r0 s0 c0 d0 w0 k ∧ Mk.1 72 = udS M G T r0 s0 c0 d0 w0 k
section MO
variable {L : Nat} {xs : Nat → Int32} {t d : Nat} {dy : List sh_T} {M B : mm_T} {Q : Option Value → sm_W → Prop} {n G T : Nat}
abbrev lvM (a : Nat) (v1 r c v4 s e v7 w : Int32) (k : Nat) : sm_L := [(0, .ref a), (1, .int v1), (2, .int r), (3, .int c), (4, .int v4), (5, .int s), (6, .int e), (7, .int v7), (8, .int w), (9, .int (nI k))]
set_option maxRecDepth 4000 in
theorem l_row {r s c e w v1 v4 v7 : Int32} {k : Nat} (hq : sm_X L xs d 216 15 (sm_code 216 15) [(0, .ref 65), (1, .int v1), (2, .int r), (3, .int c), (4, .int v4), (5, .int s), (6, .int e), (7, .int v7), (8, .int w), (9, .int (nI k)), (10, .int (rowF r k))] [.int (rowF s k)] (wm (sh0 ++ dy) M) Q) : sm_X L xs d 216 7 (sm_code 216 7) (lvM 65 v1 r c v4 s e v7 w k) [] (wm (sh0 ++ dy) M) Q := by
  have second : ∀ rr, rr = rowF r k → sm_X L xs d 216 11 (sm_code 216 11) (lvM 65 v1 r c v4 s e v7 w k) [.int rr] (wm (sh0 ++ dy) M) Q := by
    intro rr hrr
    subst hrr
    by_cases c1 : 100 < s
    · have ef : rowF s k = -1 := by unfold rowF; rw [if_pos c1]
      rw [ef] at hq
      refine x_opp rfl rfl ?_
      refine x_opp rfl rfl ?_
      refine x_kcg rfl ?_
      refine a_icT rfl rfl br_gt (by first | exact c1 | exact nt_f c1 | exact tnf c1 | exact fnt c1 | exact Int32.not_lt.mp c1 | exact Int32.not_le.mp c1 | exact Int32.not_lt.mpr c1 | exact Int32.not_le.mpr c1) ?_
      refine x_kcg rfl ?_
      refine x_go rfl ?_
      refine x_lvs [(0, .ref 65), (1, .int v1), (2, .int r), (3, .int c), (4, .int v4), (5, .int s), (6, .int e), (7, .int v7), (8, .int w), (9, .int (nI k)), (10, .int (rowF r k))] rfl rfl rfl ⟨rfl, rfl, rfl, rfl, rfl, rfl, rfl, rfl, rfl, rfl, rfl, trivial⟩ ?_
      exact hq
    · by_cases c2 : -100 ≤ s
      · rw [rowF_in c1 c2] at hq
        refine x_opp rfl rfl ?_
        refine x_opp rfl rfl ?_
        refine x_kcg rfl ?_
        refine a_icF rfl rfl br_gt (by first | exact c1 | exact nt_f c1 | exact tnf c1 | exact fnt c1 | exact Int32.not_lt.mp c1 | exact Int32.not_le.mp c1 | exact Int32.not_lt.mpr c1 | exact Int32.not_le.mpr c1) ?_
        refine x_opp rfl rfl ?_
        refine x_kcg rfl ?_
        refine a_icT rfl rfl br_ge (by first | exact c2 | exact nt_f c2 | exact tnf c2 | exact fnt c2 | exact Int32.not_lt.mp c2 | exact Int32.not_le.mp c2 | exact Int32.not_lt.mpr c2 | exact Int32.not_le.mpr c2) ?_
        iterate 3 (refine x_opp rfl rfl ?_)
        refine x_go rfl ?_
        refine x_lvs [(0, .ref 65), (1, .int v1), (2, .int r), (3, .int c), (4, .int v4), (5, .int s), (6, .int e), (7, .int v7), (8, .int w), (9, .int (nI k)), (10, .int (rowF r k))] rfl rfl rfl ⟨rfl, rfl, rfl, rfl, rfl, rfl, rfl, rfl, rfl, rfl, rfl, trivial⟩ ?_
        exact hq
      · have ef : rowF s k = -1 := by unfold rowF; rw [if_neg c1, if_neg c2]
        rw [ef] at hq
        refine x_opp rfl rfl ?_
        refine x_opp rfl rfl ?_
        refine x_kcg rfl ?_
        refine a_icF rfl rfl br_gt (by first | exact c1 | exact nt_f c1 | exact tnf c1 | exact fnt c1 | exact Int32.not_lt.mp c1 | exact Int32.not_le.mp c1 | exact Int32.not_lt.mpr c1 | exact Int32.not_le.mpr c1) ?_
        refine x_opp rfl rfl ?_
        refine x_kcg rfl ?_
        refine a_icF rfl rfl br_ge (by first | exact c2 | exact nt_f c2 | exact tnf c2 | exact fnt c2 | exact Int32.not_lt.mp c2 | exact Int32.not_le.mp c2 | exact Int32.not_lt.mpr c2 | exact Int32.not_le.mpr c2) ?_
        refine x_kcg rfl ?_
        refine x_go rfl ?_
        refine x_lvs [(0, .ref 65), (1, .int v1), (2, .int r), (3, .int c), (4, .int v4), (5, .int s), (6, .int e), (7, .int v7), (8, .int w), (9, .int (nI k)), (10, .int (rowF r k))] rfl rfl rfl ⟨rfl, rfl, rfl, rfl, rfl, rfl, rfl, rfl, rfl, rfl, rfl, trivial⟩ ?_
        exact hq
  by_cases c1 : 100 < r
  · have fin := second (-1) (by unfold rowF; rw [if_pos c1])
    refine x_opp rfl rfl ?_
    refine x_kcg rfl ?_
    refine a_icT rfl rfl br_gt (by first | exact c1 | exact nt_f c1 | exact tnf c1 | exact fnt c1 | exact Int32.not_lt.mp c1 | exact Int32.not_le.mp c1 | exact Int32.not_lt.mpr c1 | exact Int32.not_le.mpr c1) ?_
    refine x_kcg rfl ?_
    refine x_go rfl ?_
    exact fin
  · by_cases c2 : -100 ≤ r
    · have fin := second (r + nI k) (rowF_in c1 c2).symm
      refine x_opp rfl rfl ?_
      refine x_kcg rfl ?_
      refine a_icF rfl rfl br_gt (by first | exact c1 | exact nt_f c1 | exact tnf c1 | exact fnt c1 | exact Int32.not_lt.mp c1 | exact Int32.not_le.mp c1 | exact Int32.not_lt.mpr c1 | exact Int32.not_le.mpr c1) ?_
      refine x_opp rfl rfl ?_
      refine x_kcg rfl ?_
      refine a_icT rfl rfl br_ge (by first | exact c2 | exact nt_f c2 | exact tnf c2 | exact fnt c2 | exact Int32.not_lt.mp c2 | exact Int32.not_le.mp c2 | exact Int32.not_lt.mpr c2 | exact Int32.not_le.mpr c2) ?_
      iterate 3 (refine x_opp rfl rfl ?_)
      refine x_go rfl ?_
      exact fin
    · have fin := second (-1) (by unfold rowF; rw [if_neg c1, if_neg c2])
      refine x_opp rfl rfl ?_
      refine x_kcg rfl ?_
      refine a_icF rfl rfl br_gt (by first | exact c1 | exact nt_f c1 | exact tnf c1 | exact fnt c1 | exact Int32.not_lt.mp c1 | exact Int32.not_le.mp c1 | exact Int32.not_lt.mpr c1 | exact Int32.not_le.mpr c1) ?_
      refine x_opp rfl rfl ?_
      refine x_kcg rfl ?_
      refine a_icF rfl rfl br_ge (by first | exact c2 | exact nt_f c2 | exact tnf c2 | exact fnt c2 | exact Int32.not_lt.mp c2 | exact Int32.not_le.mp c2 | exact Int32.not_lt.mpr c2 | exact Int32.not_le.mpr c2) ?_
      refine x_kcg rfl ?_
      refine x_go rfl ?_
      exact fin
theorem vw_fr {Mk : mm_T} (h : rG M n) (hG : G < 4) (f : ∀ x i, x ≠ 46 + 5 * T → ¬ (x = 0 ∧ i = 13) → Mk.1 x i = B.1 x i) (g : ∀ x i, x ≠ 1 → x ≠ 0 → B.1 x i = M.1 x i) (hT4 : T < 4) : vwG Mk G := by
  obtain ⟨HG, WG, b1, b2, b3, b4, b5, b6, gk, mk, v1, v2, a1, a2⟩ := rG_v h hG
  have e : ∀ x i, x ≠ 46 + 5 * T → x ≠ 1 → x ≠ 0 → Mk.1 x i = M.1 x i := fun x i p1 p2 p3 => (f x i p1 (by omega)).trans (g x i p2 p3)
  refine ⟨HG, b1, ?_, ?_, fun i hi => ?_, ?_⟩
  · rw [e _ _ (by omega) (by omega) (by omega)]; exact b3
  · rw [e _ _ (by omega) (by omega) (by omega)]; exact b4
  · unfold mL
    rw [e _ _ (by omega) (by omega) (by omega), e _ _ (by omega) (by omega) (by omega)]; exact v2.1 i hi
  · rw [e _ _ (by omega) (by omega) (by omega), e _ _ (by omega) (by omega) (by omega)]; exact a1
set_option maxRecDepth 4000 in
set_option maxHeartbeats 1000000 in
/-- the desk: K rows can be moved -/
theorem l_mvD {r s c e : Int32} {K h0 w0 r0 s0 c0 d0 : Nat} (h : rG M n) (hG4 : G < 4) (hT4 : T < 4) (gB : ∀ x i, x ≠ 1 → x ≠ 0 → B.1 x i = M.1 x i) (rB : B.2 = M.2) (hK : K ≤ h0) (h7 : h0 ≤ 7) (w7 : w0 ≤ 7) (z : ∀ j, j < K → mvR M G T (r + nI j) c (s + nI j) e (nI w0) = 0) (er : 0 < K → (r = nI r0 ∧ s = nI s0 ∧ c = nI c0 ∧ e = nI d0) ∧ r0 < 8 ∧ s0 < 8 ∧ c0 < 8 ∧ d0 < 8)
    (hq : ∀ Mk, dInv M B G T r0 s0 c0 d0 w0 K Mk → sm_X L xs (d + 2) 124 8 (sm_code 124 8) (lvM 0 (nI G) r c (nI T) s e (nI h0) (nI w0) K) [] (wm (sh0 ++ dy) Mk) Q) : ∀ Mk, dInv M B G T r0 s0 c0 d0 w0 0 Mk → sm_X L xs (d + 2) 124 8 (sm_code 124 8) (lvM 0 (nI G) r c (nI T) s e (nI h0) (nI w0) 0) [] (wm (sh0 ++ dy) Mk) Q := by
  refine loop_dn (P := fun k => ∀ Mk, dInv M B G T r0 s0 c0 d0 w0 k Mk → sm_X L xs (d + 2) 124 8 (sm_code 124 8) (lvM 0 (nI G) r c (nI T) s e (nI h0) (nI w0) k) [] (wm (sh0 ++ dy) Mk) Q) K hq ?_
  intro k hk ih Mk ⟨i1, i2, i3, i4⟩
  obtain ⟨⟨rfl, rfl, rfl, rfl⟩, r8, s8, c8, d8⟩ := er (by omega)
  have z0 := z k hk
  rw [nI_add, nI_add] at z0
  obtain ⟨a, b, c1, d1, ea, eb, ec, ed, hHG, ha7, hHT, hb7, hc, hd, hl0⟩ := mv_facts h hG4 hT4 w7 z0
  obtain ⟨HG, WG, b1, b2, b3, b4, b5, b6, gk, mk, v1, v2, a1, a2⟩ := rG_v h hG4
  obtain ⟨H', W', b1', b2', b3', b4', b5', b6', gk', mk', v1', v2', a1', a2'⟩ := rG_v h hT4
  have lG7 := ln_cl (mgOK_7 mk a ha7).1 (mgOK_7 mk a ha7).2
  have lT7 := ln_cl (mgOK_7 mk' b hb7).1 (mgOK_7 mk' b hb7).2
  obtain rfl : r0 + k = a := (nI_eq (by omega) (by omega)).mp ea
  obtain rfl : s0 + k = b := (nI_eq (by omega) (by omega)).mp eb
  obtain rfl : c0 = c1 := (nI_eq (by omega) (by omega)).mp ec
  obtain rfl : d0 = d1 := (nI_eq (by omega) (by omega)).mp ed
  obtain ⟨len, hl7, el⟩ := n7 hl0 (mgOK_7 mk' _ hb7).2
  have fr : ∀ x i, x ≠ 46 + 5 * T → x ≠ 0 → x ≠ 1 → Mk.1 x i = M.1 x i := fun x i p1 p2 p3 => (i2 x i p1 (by omega)).trans (gB x i p3 p2)
  have hrG : Mk.2.2 7 G = some (45 + 5 * G) := by rw [i1, rB]; exact h.2.1 G hG4
  have hrT : Mk.2.2 7 T = some (45 + 5 * T) := by rw [i1, rB]; exact h.2.1 T hT4
  obtain ⟨sg, -⟩ := gsh_at dy G hG4
  obtain ⟨sg', -⟩ := gsh_at dy T hT4
  have g : ¬ nI h0 ≤ nI k := nI_ge (by omega) (by omega)
  have mz : mvR Mk G T (nI (r0 + k)) (nI c0) (nI (s0 + k)) (nI d0) (nI w0) = 0 := by rw [mvR_fr (fun x i p1 p2 => fr x i (by omega) (by omega) (by omega))]; exact z0
  have cG : Mk.1 (46 + 5 * G) = if G = T then cdT M G T r0 s0 c0 d0 w0 k else M.1 (46 + 5 * G) := by
    by_cases q : G = T
    · subst q; rw [if_pos rfl]; exact i4
    · rw [if_neg q]; funext x; exact fr _ x (by omega) (by omega) (by omega)
  have fin : ∀ M', M'.2 = Mk.2 → (∀ x, x ≠ 46 + 5 * T → M'.1 x = Mk.1 x) → (∀ s, M'.1 (46 + 5 * T) s = dOut (dCp (Mk.1 (46 + 5 * T)) (Mk.1 (46 + 5 * G)) (r0 + k) c0 (s0 + k) d0 w0) (s0 + k) len H' W' s) → dInv M B G T r0 s0 c0 d0 w0 (k + 1) (m_setI M' 0 13 (M'.1 0 13 + 1)) := by
    intro M' q1 q2 q3
    refine ⟨q1.trans i1, fun x i p1 p2 => ?_, ?_, ?_⟩
    · rw [mI_at, if_neg p2, q2 x p1]; exact i2 x i p1 p2
    · rw [mI_at, if_pos ⟨rfl, rfl⟩, q2 0 (by omega), i3]; exact nI_add k 1
    · funext x
      rw [mI_ne _ _ _ (by omega), q3 x, i4, cG]
      have e1 : hT M T = H' := by unfold hT; rw [b4', nI_clamp (by omega)]
      have e2 : wT M T = W' := by unfold wT; rw [b6', nI_clamp (by omega)]
      have e3 : (mL M T (s0 + k)).toNatClampNeg = len := by rw [el, nI_clamp (by omega)]
      rw [← e1, ← e2, ← e3]
      rfl
  have vG := vw_fr h hG4 i2 gB hT4
  have vT := vw_fr h hT4 i2 gB hT4
  have e5 : Mk.1 (45 + 5 * T) 5 = nI H' := by rw [fr _ _ (by omega) (by omega) (by omega)]; exact b3'
  have e6 : Mk.1 (45 + 5 * T) 6 = nI W' := by rw [fr _ _ (by omega) (by omega) (by omega)]; exact b5'
  have hl : Mk.1 (47 + 5 * T) (s0 + k) = nI len := by rw [fr _ _ (by omega) (by omega) (by omega), v2'.1 _ hb7]; exact el
  refine x_opp rfl rfl ?_
  refine x_opp rfl rfl ?_
  refine a_icF rfl rfl br_ge (by first | exact g | exact nt_f g | exact tnf g | exact fnt g | exact Int32.not_lt.mp g | exact Int32.not_le.mp g | exact Int32.not_lt.mpr g | exact Int32.not_le.mpr g) ?_
  refine x_opp rfl rfl ?_
  refine m_getg (s_0 dy) rfl rfl rfl ?_
  refine x_opp rfl rfl ?_
  refine a_gr hG4 rfl rfl hrG ?_
  iterate 5 (refine x_opp rfl rfl ?_)
  refine m_getg (s_0 dy) rfl rfl rfl ?_
  refine x_opp rfl rfl ?_
  refine a_gr hT4 rfl rfl hrT ?_
  iterate 5 (refine x_opp rfl rfl ?_)
  rw [nI_add, nI_add]
  refine a_callS rfl rfl rfl rfl (c_mref vG vT hG4 hT4 ?_)
  rw [mz]
  refine x_opp rfl rfl ?_
  refine x_opp rfl rfl ?_
  refine a_ifT rfl rfl br_eq (by decide) ?_
  refine x_opp rfl rfl ?_
  refine m_getg (s_0 dy) rfl rfl rfl ?_
  refine x_opp rfl rfl ?_
  refine a_gr hT4 rfl rfl hrT ?_
  iterate 5 (refine x_opp rfl rfl ?_)
  refine m_getg (s_0 dy) rfl rfl rfl ?_
  refine x_opp rfl rfl ?_
  refine a_gr hG4 rfl rfl hrG ?_
  iterate 5 (refine x_opp rfl rfl ?_)
  rw [nI_add, nI_add]
  refine a_callV sg' rfl rfl rfl rfl (c_takeRow hG4 hT4 ha7 (hHT H' b1' b4') b1' b2' (by omega) (by omega) e5 e6 hl hl7 (fun M' q1 q2 q3 => ?_))
  refine x_opp rfl rfl ?_
  refine x_opp rfl rfl ?_
  refine m_getg (s_0 dy) rfl rfl rfl ?_
  refine x_kcg rfl ?_
  refine x_opp rfl rfl ?_
  refine a_putJ 13 (s_0 dy) rfl rfl rfl rfl ?_
  first | refine x_incg rfl rfl ?_ | refine x_opp rfl rfl ?_
  refine x_go rfl ?_
  refine x_lvs [(0, .ref 0), (1, .int (nI G)), (2, .int (nI r0)), (3, .int (nI c0)), (4, .int (nI T)), (5, .int (nI s0)), (6, .int (nI d0)), (7, .int (nI h0)), (8, .int (nI w0)), (9, .int (nI (k + 1)))] rfl rfl rfl ⟨rfl, rfl, rfl, rfl, rfl, rfl, rfl, rfl, rfl, rfl, trivial⟩ ?_
  exact ih _ (fin M' q1 q2 q3)
end MO
