/-! the reference mirrors a grid -/
def mmI (M : mm_T) (G H W : Nat) (hs hr hu : Nat → Int32) (i j : Nat) : Prop := ∀ a b, a < H → b < W →
  M.1 70 (49 * G + (a * 7 + (W - 1 - b))) = (if a < i ∨ (a = i ∧ b < j) then hs (a * 7 + b) else 0) ∧
  M.1 72 (49 * G + (a * 7 + (W - 1 - b))) = (if a < i ∨ (a = i ∧ b < j) then hu (a * 7 + b) else 0) ∧
  M.1 71 (49 * G + (a * 7 + (W - 1 - b))) = (if 1 ≤ b ∧ (a < i ∨ (a = i ∧ b - 1 < j)) ∧ ¬ hr (a * 7 + (b - 1)) = 0 then 1 else 0)
theorem mm_row {M : mm_T} {G H W i : Nat} {hs hr hu : Nat → Int32} (h : mmI M G H W hs hr hu i W) : mmI M G H W hs hr hu (i + 1) 0 := by
  intro a b ha hb
  obtain ⟨h1, h2, h3⟩ := h a b ha hb
  refine ⟨?_, ?_, ?_⟩
  · rw [h1]; exact ifc (by omega)
  · rw [h2]; exact ifc (by omega)
  · rw [h3]; exact ifc (by constructor <;> (intro q; exact ⟨q.1, by omega, q.2.2⟩))
theorem mm_step {M M' : mm_T} {G H W i j : Nat} {hs hr hu : Nat → Int32} (h : mmI M G H W hs hr hu i j) (hi : i < H) (hj : j < W) (hH : H ≤ 7) (hW : W ≤ 7)
    (e1 : M'.1 70 (49 * G + (i * 7 + (W - 1 - j))) = hs (i * 7 + j)) (f1 : ∀ s, s ≠ 49 * G + (i * 7 + (W - 1 - j)) → M'.1 70 s = M.1 70 s)
    (e2 : M'.1 72 (49 * G + (i * 7 + (W - 1 - j))) = hu (i * 7 + j)) (f2 : ∀ s, s ≠ 49 * G + (i * 7 + (W - 1 - j)) → M'.1 72 s = M.1 72 s)
    (e3 : j + 1 < W → ¬ hr (i * 7 + j) = 0 → M'.1 71 (49 * G + (i * 7 + (W - 1 - (j + 1)))) = 1) (f3 : ∀ s, (j + 1 < W → ¬ hr (i * 7 + j) = 0 → s ≠ 49 * G + (i * 7 + (W - 1 - (j + 1)))) → M'.1 71 s = M.1 71 s) : mmI M' G H W hs hr hu i (j + 1) := by
  intro a b ha hb
  obtain ⟨h1, h2, h3⟩ := h a b ha hb
  refine ⟨?_, ?_, ?_⟩
  · by_cases q : a = i ∧ b = j
    · obtain ⟨rfl, rfl⟩ := q
      rw [e1, if_pos (by omega)]
    · rw [f1 _ (by omega), h1]
      exact ifc (by omega)
  · by_cases q : a = i ∧ b = j
    · obtain ⟨rfl, rfl⟩ := q
      rw [e2, if_pos (by omega)]
    · rw [f2 _ (by omega), h2]
      exact ifc (by omega)
  · by_cases q : a = i ∧ b = j + 1
    · obtain ⟨rfl, rfl⟩ := q
      by_cases z : hr (a * 7 + j) = 0
      · rw [f3 _ (fun _ g => absurd z g), h3, if_neg (fun g => by have := g.2.1; omega), if_neg (fun g => g.2.2 (by rw [Nat.add_sub_cancel]; exact z))]
      · rw [e3 hb z, if_pos ⟨by omega, by omega, by rw [Nat.add_sub_cancel]; exact z⟩]
    · rw [f3 _ (fun g _ => by omega), h3]
      exact ifc (by constructor <;> (intro q; exact ⟨q.1, by omega, q.2.2⟩))
section MI
variable {L : Nat} {xs : Nat → Int32} {t d : Nat} {dy : List sh_T} {M : mm_T} {Q : Option Value → sm_W → Prop} {n G : Nat}
set_option maxRecDepth 4000 in
set_option maxHeartbeats 2000000 in
theorem l_miM {H W : Nat} {hs hr hu : Nat → Int32} (hG : G < 4) (hH7 : H ≤ 7) (hW7 : W ≤ 7) (b4 : M.1 67 G = nI H) (e111 : ∀ s, s < 49 → M.1 111 s = hs s ∧ M.1 112 s = hr s ∧ M.1 113 s = hu s) (hok : ∀ s, s < 49 → (∃ n, n < 32 ∧ hs s = nI n) ∧ (hr s = 0 ∨ hr s = 1) ∧ (hu s = 0 ∨ hu s = 1))
    (hq : ∀ M', qFr M M' G → msG M' G → mmI M' G H W hs hr hu H 0 → sm_X L xs (d + 1) 225 13 (sm_code 225 13) [(0, .ref 65), (3, .int (nI W))] [] (wm (sh0 ++ dy) M') Q)
    (h0 : msG M G) (t0 : mmI M G H W hs hr hu 0 0) : sm_X L xs (d + 1) 225 5 (sm_code 225 5) [(0, .ref 65), (1, .int (nI G)), (3, .int (nI W)), (4, .int (nI 0))] [] (wm (sh0 ++ dy) M) Q := by
  refine loop_dn (P := fun i => ∀ M1, qFr M M1 G → msG M1 G → mmI M1 G H W hs hr hu i 0 → sm_X L xs (d + 1) 225 5 (sm_code 225 5) [(0, .ref 65), (1, .int (nI G)), (3, .int (nI W)), (4, .int (nI i))] [] (wm (sh0 ++ dy) M1) Q) H ?_ ?_ M (qFr_rfl M G) h0 t0
  · intro M1 f1 f2 f3
    have g : nI H ≤ nI H := Int32.le_refl _
    have e67 : M1.1 67 G = nI H := by rw [f1.2.1 67 (by decide)]; exact b4
    have fin := hq M1 f1 f2 f3
    refine x_opp rfl rfl ?_
    refine x_opp rfl rfl ?_
    refine m_getg (s_65 dy) rfl rfl rfl ?_
    refine x_opp rfl rfl ?_
    refine a_ialdN (s_67 dy) (k := G) rfl rfl rfl (by omega) (by decide) ?_
    rw [e67]
    refine a_icT rfl rfl br_ge (by first | exact g | exact nt_f g | exact tnf g | exact fnt g | exact Int32.not_lt.mp g | exact Int32.not_le.mp g | exact Int32.not_lt.mpr g | exact Int32.not_le.mpr g) ?_
    refine x_lvs [(0, .ref 65), (3, .int (nI W))] rfl rfl rfl ⟨rfl, rfl, trivial⟩ ?_
    exact fin
  · intro i hi ih M1 f1 f2 f3
    have g : ¬ nI H ≤ nI i := nI_ge hi (by omega)
    have e67 : M1.1 67 G = nI H := by rw [f1.2.1 67 (by decide)]; exact b4
    have inner : ∀ M2, qFr M M2 G → msG M2 G → mmI M2 G H W hs hr hu i 0 → sm_X L xs (d + 1) 225 7 (sm_code 225 7) [(0, .ref 65), (1, .int (nI G)), (3, .int (nI W)), (4, .int (nI i)), (5, .int (nI 0))] [] (wm (sh0 ++ dy) M2) Q := by
      refine loop_dn (P := fun j => ∀ M2, qFr M M2 G → msG M2 G → mmI M2 G H W hs hr hu i j → sm_X L xs (d + 1) 225 7 (sm_code 225 7) [(0, .ref 65), (1, .int (nI G)), (3, .int (nI W)), (4, .int (nI i)), (5, .int (nI j))] [] (wm (sh0 ++ dy) M2) Q) W ?_ ?_
      · intro M2 k1 k2 k3
        have g2 : nI W ≤ nI W := Int32.le_refl _
        have fin := ih M2 k1 k2 (mm_row k3)
        refine x_opp rfl rfl ?_
        refine x_opp rfl rfl ?_
        refine a_icT rfl rfl br_ge (by first | exact g2 | exact nt_f g2 | exact tnf g2 | exact fnt g2 | exact Int32.not_lt.mp g2 | exact Int32.not_le.mp g2 | exact Int32.not_lt.mpr g2 | exact Int32.not_le.mpr g2) ?_
        first | refine x_incg rfl rfl ?_ | refine x_opp rfl rfl ?_
        refine x_go rfl ?_
        refine x_lvs [(0, .ref 65), (1, .int (nI G)), (3, .int (nI W)), (4, .int (nI (i + 1)))] rfl rfl rfl ⟨rfl, rfl, rfl, rfl, trivial⟩ ?_
        exact fin
      · intro j hj ih2 M2 k1 k2 k3
        have g2 : ¬ nI W ≤ nI j := nI_ge hj (by omega)
        obtain ⟨e1, e2, e3⟩ := e111 (i * 7 + j) (by omega)
        obtain ⟨⟨m, hm, em⟩, o2, o3⟩ := hok (i * 7 + j) (by omega)
        have r1 : M2.1 111 (i * 7 + j) = hs (i * 7 + j) := by rw [k1.2.1 111 (by omega)]; exact e1
        have x7 : 7 * nI i + nI j = nI (i * 7 + j) := by rw [rw_eq, Nat.mul_comm]
        have xw : nI W - 1 = nI (W - 1) := pk_sub (b := 1) (by omega)
        have last : ∀ M5, qFr M M5 G → msG M5 G → mmI M5 G H W hs hr hu i (j + 1) → sm_X L xs (d + 1) 225 11 (sm_code 225 11) [(0, .ref 65), (1, .int (nI G)), (3, .int (nI W)), (4, .int (nI i)), (5, .int (nI j))] [] (wm (sh0 ++ dy) M5) Q := by
          intro M5 q1 q2 q3
          have fin := ih2 M5 q1 q2 q3
          first | refine x_incg rfl rfl ?_ | refine x_opp rfl rfl ?_
          refine x_go rfl ?_
          refine x_lvs [(0, .ref 65), (1, .int (nI G)), (3, .int (nI W)), (4, .int (nI i)), (5, .int (nI (j + 1)))] rfl rfl rfl ⟨rfl, rfl, rfl, rfl, rfl, trivial⟩ ?_
          exact fin
        obtain ⟨M4, hM4⟩ : ∃ M4, m_setI (m_setI M2 70 (49 * G + (i * 7 + (W - 1 - j))) (hs (i * 7 + j))) 72 (49 * G + (i * 7 + (W - 1 - j))) (hu (i * 7 + j)) = M4 := ⟨_, rfl⟩
        have q4 : qFr M M4 G := by rw [← hM4]; exact qFr_set (qFr_set k1 (by decide) (by omega)) (by decide) (by omega)
        have m4 : msG M4 G := by rw [← hM4, em]; exact (msG_1 (msG_0 k2 hm) o3).2
        have a70 : M4.1 70 (49 * G + (i * 7 + (W - 1 - j))) = hs (i * 7 + j) ∧ ∀ s, s ≠ 49 * G + (i * 7 + (W - 1 - j)) → M4.1 70 s = M2.1 70 s := by
          rw [← hM4]
          exact ⟨by rw [mI_ne _ _ _ (by decide), mI_at, if_pos ⟨rfl, rfl⟩], fun s hs => by rw [mI_ne _ _ _ (by decide), mI_at, if_neg (fun h => hs h.2)]⟩
        have a72 : M4.1 72 (49 * G + (i * 7 + (W - 1 - j))) = hu (i * 7 + j) ∧ ∀ s, s ≠ 49 * G + (i * 7 + (W - 1 - j)) → M4.1 72 s = M2.1 72 s := by
          rw [← hM4]
          exact ⟨by rw [mI_at, if_pos ⟨rfl, rfl⟩], fun s hs => by rw [mI_at, if_neg (fun h => hs h.2), mI_ne _ _ _ (by decide)]⟩
        have a71 : ∀ s, M4.1 71 s = M2.1 71 s := fun s => by rw [← hM4, mI_ne _ _ _ (by decide), mI_ne _ _ _ (by decide)]
        have r3 : (m_setI M2 70 (49 * G + (i * 7 + (W - 1 - j))) (hs (i * 7 + j))).1 113 (i * 7 + j) = hu (i * 7 + j) := by rw [mI_ne _ _ _ (by decide), k1.2.1 113 (by omega)]; exact e3
        have r2 : M4.1 112 (i * 7 + j) = hr (i * 7 + j) := by rw [q4.2.1 112 (by omega)]; exact e2
        by_cases c1 : hr (i * 7 + j) = 0
        · have fin := last M4 q4 m4 (mm_step k3 hi hj hH7 hW7 a70.1 a70.2 a72.1 a72.2 (fun _ g => absurd c1 g) (fun s _ => a71 s))
          refine x_opp rfl rfl ?_
          refine x_opp rfl rfl ?_
          refine a_icF rfl rfl br_ge (by first | exact g2 | exact nt_f g2 | exact tnf g2 | exact fnt g2 | exact Int32.not_lt.mp g2 | exact Int32.not_le.mp g2 | exact Int32.not_lt.mpr g2 | exact Int32.not_le.mpr g2) ?_
          refine x_kcg rfl ?_
          iterate 8 (refine x_opp rfl rfl ?_)
          refine x_kcg rfl ?_
          iterate 3 (refine x_opp rfl rfl ?_)
          rw [x7, x_h1 hj]
          refine a_callS rfl rfl rfl rfl (k_sq ?_)
          refine x_opp rfl rfl ?_
          refine x_opp rfl rfl ?_
          refine m_getg (s_65 dy) rfl rfl rfl ?_
          refine x_opp rfl rfl ?_
          refine x_opp rfl rfl ?_
          refine m_getg (s_65 dy) rfl rfl rfl ?_
          refine x_opp rfl rfl ?_
          refine a_ialdN (s_111 dy) (k := i * 7 + j) rfl rfl rfl (by omega) (by decide) ?_
          rw [r1]
          refine a_iastN (s_70 dy) (k := 49 * G + (i * 7 + (W - 1 - j))) rfl rfl rfl (by omega) (by decide) ?_
          refine x_opp rfl rfl ?_
          refine m_getg (s_65 dy) rfl rfl rfl ?_
          refine x_opp rfl rfl ?_
          refine x_opp rfl rfl ?_
          refine m_getg (s_65 dy) rfl rfl rfl ?_
          refine x_opp rfl rfl ?_
          refine a_baldN (s_113 dy) (k := i * 7 + j) rfl rfl rfl (by omega) (by decide) ?_
          rw [r3]
          refine a_bastN (s_72 dy) (k := 49 * G + (i * 7 + (W - 1 - j))) rfl rfl rfl (by omega) (by decide) (o3) ?_
          refine x_opp rfl rfl ?_
          refine m_getg (s_65 dy) rfl rfl rfl ?_
          refine x_opp rfl rfl ?_
          rw [hM4]
          refine a_baldN (s_112 dy) (k := i * 7 + j) rfl rfl rfl (by omega) (by decide) ?_
          rw [r2]
          refine a_ifT rfl rfl br_eq (by first | exact c1 | exact nt_f c1 | exact tnf c1 | exact fnt c1 | exact Int32.not_lt.mp c1 | exact Int32.not_le.mp c1 | exact Int32.not_lt.mpr c1 | exact Int32.not_le.mpr c1) ?_
          refine x_lvs [(0, .ref 65), (1, .int (nI G)), (3, .int (nI W)), (4, .int (nI i)), (5, .int (nI j))] rfl rfl rfl ⟨rfl, rfl, rfl, rfl, rfl, trivial⟩ ?_
          exact fin
        · by_cases c2 : j + 1 < W
          · have g3 : ¬ nI (W - 1) ≤ nI j := nI_ge (by omega) (by omega)
            have fin := last (m_setI M4 71 (49 * G + (i * 7 + (W - 1 - (j + 1)))) 1) (qFr_set q4 (by decide) (by omega)) (msG_1 m4 (Or.inr rfl)).1 (mm_step k3 hi hj hH7 hW7 a70.1 a70.2 (by rw [mI_ne _ _ _ (by decide)]; exact a72.1) (fun s hs => by rw [mI_ne _ _ _ (by decide)]; exact a72.2 s hs) (fun _ _ => by rw [mI_at, if_pos ⟨rfl, rfl⟩]) (fun s hs => by rw [mI_at, if_neg (fun h => hs c2 c1 h.2)]; exact a71 s))
            refine x_opp rfl rfl ?_
            refine x_opp rfl rfl ?_
            refine a_icF rfl rfl br_ge (by first | exact g2 | exact nt_f g2 | exact tnf g2 | exact fnt g2 | exact Int32.not_lt.mp g2 | exact Int32.not_le.mp g2 | exact Int32.not_lt.mpr g2 | exact Int32.not_le.mpr g2) ?_
            refine x_kcg rfl ?_
            iterate 8 (refine x_opp rfl rfl ?_)
            refine x_kcg rfl ?_
            iterate 3 (refine x_opp rfl rfl ?_)
            rw [x7, x_h1 hj]
            refine a_callS rfl rfl rfl rfl (k_sq ?_)
            refine x_opp rfl rfl ?_
            refine x_opp rfl rfl ?_
            refine m_getg (s_65 dy) rfl rfl rfl ?_
            refine x_opp rfl rfl ?_
            refine x_opp rfl rfl ?_
            refine m_getg (s_65 dy) rfl rfl rfl ?_
            refine x_opp rfl rfl ?_
            refine a_ialdN (s_111 dy) (k := i * 7 + j) rfl rfl rfl (by omega) (by decide) ?_
            rw [r1]
            refine a_iastN (s_70 dy) (k := 49 * G + (i * 7 + (W - 1 - j))) rfl rfl rfl (by omega) (by decide) ?_
            refine x_opp rfl rfl ?_
            refine m_getg (s_65 dy) rfl rfl rfl ?_
            refine x_opp rfl rfl ?_
            refine x_opp rfl rfl ?_
            refine m_getg (s_65 dy) rfl rfl rfl ?_
            refine x_opp rfl rfl ?_
            refine a_baldN (s_113 dy) (k := i * 7 + j) rfl rfl rfl (by omega) (by decide) ?_
            rw [r3]
            refine a_bastN (s_72 dy) (k := 49 * G + (i * 7 + (W - 1 - j))) rfl rfl rfl (by omega) (by decide) (o3) ?_
            refine x_opp rfl rfl ?_
            refine m_getg (s_65 dy) rfl rfl rfl ?_
            refine x_opp rfl rfl ?_
            rw [hM4]
            refine a_baldN (s_112 dy) (k := i * 7 + j) rfl rfl rfl (by omega) (by decide) ?_
            rw [r2]
            refine a_ifF rfl rfl br_eq (by first | exact c1 | exact nt_f c1 | exact tnf c1 | exact fnt c1 | exact Int32.not_lt.mp c1 | exact Int32.not_le.mp c1 | exact Int32.not_lt.mpr c1 | exact Int32.not_le.mpr c1) ?_
            refine x_opp rfl rfl ?_
            refine x_opp rfl rfl ?_
            refine x_kcg rfl ?_
            refine x_opp rfl rfl ?_
            rw [xw]
            refine a_icF rfl rfl br_ge (by first | exact g3 | exact nt_f g3 | exact tnf g3 | exact fnt g3 | exact Int32.not_lt.mp g3 | exact Int32.not_le.mp g3 | exact Int32.not_lt.mpr g3 | exact Int32.not_le.mpr g3) ?_
            refine x_opp rfl rfl ?_
            refine m_getg (s_65 dy) rfl rfl rfl ?_
            iterate 3 (refine x_opp rfl rfl ?_)
            refine x_kcg rfl ?_
            iterate 3 (refine x_opp rfl rfl ?_)
            rw [x_h2 c2]
            refine a_callS rfl rfl rfl rfl (k_sq ?_)
            refine x_kcg rfl ?_
            refine a_bastN (s_71 dy) (k := 49 * G + (i * 7 + (W - 1 - (j + 1)))) rfl rfl rfl (by omega) (by decide) (by first | exact zz_01 _ | exact Or.inl rfl | exact Or.inr rfl) ?_
            refine x_go rfl ?_
            refine x_lvs [(0, .ref 65), (1, .int (nI G)), (3, .int (nI W)), (4, .int (nI i)), (5, .int (nI j))] rfl rfl rfl ⟨rfl, rfl, rfl, rfl, rfl, trivial⟩ ?_
            exact fin
          · have g3 : nI (W - 1) ≤ nI j := nI_le (by omega) (by omega)
            have fin := last M4 q4 m4 (mm_step k3 hi hj hH7 hW7 a70.1 a70.2 a72.1 a72.2 (fun g _ => absurd g c2) (fun s _ => a71 s))
            refine x_opp rfl rfl ?_
            refine x_opp rfl rfl ?_
            refine a_icF rfl rfl br_ge (by first | exact g2 | exact nt_f g2 | exact tnf g2 | exact fnt g2 | exact Int32.not_lt.mp g2 | exact Int32.not_le.mp g2 | exact Int32.not_lt.mpr g2 | exact Int32.not_le.mpr g2) ?_
            refine x_kcg rfl ?_
            iterate 8 (refine x_opp rfl rfl ?_)
            refine x_kcg rfl ?_
            iterate 3 (refine x_opp rfl rfl ?_)
            rw [x7, x_h1 hj]
            refine a_callS rfl rfl rfl rfl (k_sq ?_)
            refine x_opp rfl rfl ?_
            refine x_opp rfl rfl ?_
            refine m_getg (s_65 dy) rfl rfl rfl ?_
            refine x_opp rfl rfl ?_
            refine x_opp rfl rfl ?_
            refine m_getg (s_65 dy) rfl rfl rfl ?_
            refine x_opp rfl rfl ?_
            refine a_ialdN (s_111 dy) (k := i * 7 + j) rfl rfl rfl (by omega) (by decide) ?_
            rw [r1]
            refine a_iastN (s_70 dy) (k := 49 * G + (i * 7 + (W - 1 - j))) rfl rfl rfl (by omega) (by decide) ?_
            refine x_opp rfl rfl ?_
            refine m_getg (s_65 dy) rfl rfl rfl ?_
            refine x_opp rfl rfl ?_
            refine x_opp rfl rfl ?_
            refine m_getg (s_65 dy) rfl rfl rfl ?_
            refine x_opp rfl rfl ?_
            refine a_baldN (s_113 dy) (k := i * 7 + j) rfl rfl rfl (by omega) (by decide) ?_
            rw [r3]
            refine a_bastN (s_72 dy) (k := 49 * G + (i * 7 + (W - 1 - j))) rfl rfl rfl (by omega) (by decide) (o3) ?_
            refine x_opp rfl rfl ?_
            refine m_getg (s_65 dy) rfl rfl rfl ?_
            refine x_opp rfl rfl ?_
            rw [hM4]
            refine a_baldN (s_112 dy) (k := i * 7 + j) rfl rfl rfl (by omega) (by decide) ?_
            rw [r2]
            refine a_ifF rfl rfl br_eq (by first | exact c1 | exact nt_f c1 | exact tnf c1 | exact fnt c1 | exact Int32.not_lt.mp c1 | exact Int32.not_le.mp c1 | exact Int32.not_lt.mpr c1 | exact Int32.not_le.mpr c1) ?_
            refine x_opp rfl rfl ?_
            refine x_opp rfl rfl ?_
            refine x_kcg rfl ?_
            refine x_opp rfl rfl ?_
            rw [xw]
            refine a_icT rfl rfl br_ge (by first | exact g3 | exact nt_f g3 | exact tnf g3 | exact fnt g3 | exact Int32.not_lt.mp g3 | exact Int32.not_le.mp g3 | exact Int32.not_lt.mpr g3 | exact Int32.not_le.mpr g3) ?_
            refine x_lvs [(0, .ref 65), (1, .int (nI G)), (3, .int (nI W)), (4, .int (nI i)), (5, .int (nI j))] rfl rfl rfl ⟨rfl, rfl, rfl, rfl, rfl, trivial⟩ ?_
            exact fin
    have fin := inner M1 f1 f2 f3
    refine x_opp rfl rfl ?_
    refine x_opp rfl rfl ?_
    refine m_getg (s_65 dy) rfl rfl rfl ?_
    refine x_opp rfl rfl ?_
    refine a_ialdN (s_67 dy) (k := G) rfl rfl rfl (by omega) (by decide) ?_
    rw [e67]
    refine a_icF rfl rfl br_ge (by first | exact g | exact nt_f g | exact tnf g | exact fnt g | exact Int32.not_lt.mp g | exact Int32.not_le.mp g | exact Int32.not_lt.mpr g | exact Int32.not_le.mpr g) ?_
    refine x_kcg rfl ?_
    refine x_opp rfl rfl ?_
    refine x_go rfl ?_
    refine x_lvs [(0, .ref 65), (1, .int (nI G)), (3, .int (nI W)), (4, .int (nI i)), (5, .int (nI 0))] rfl rfl rfl ⟨rfl, rfl, rfl, rfl, rfl, trivial⟩ ?_
    exact fin
set_option maxHeartbeats 1000000 in
theorem R_mirror {M3 M4 M5 M' : mm_T} {s : Nat × (Nat → Int32)} {E : Nat → lT} {P w : Nat → Nat} {H W : Nat} {ca : Nat → Nat} (hN : rN M t s) (hL : rL dy M E P w n) (hQ : rQ M) (hg : rG M n) (hG : G < 4) (b1 : H ≤ 7) (b2 : W ≤ 7) (b4 : M.1 67 G = nI H) (b6 : M.1 68 G = nI W) (hc : ctG M G = false) (hca : ∀ s, s < 49 → M.1 (46 + 5 * G) s = nI (ca s) ∧ ca s < 128)
    (c1 : M3.2 = M.2) (c2 : ∀ a, a ≠ 45 + 5 * G → a ≠ 46 + 5 * G → a ≠ 47 + 5 * G → a ≠ 48 + 5 * G → M3.1 a = (m_setI M 1 5 0).1 a) (c3 : ∀ a b, a < H → b < W → M3.1 (46 + 5 * G) (a * 7 + (W - 1 - b)) = nI (32 * swX ca H 0 a b + swT ca a b)) (c4 : ∀ f, f ≠ 5 → f ≠ 6 → M3.1 (45 + 5 * G) f = (m_setI M 1 5 0).1 (45 + 5 * G) f) (c5 : M3.1 (45 + 5 * G) 5 = nI H) (c6 : M3.1 (45 + 5 * G) 6 = nI W) (c7 : ∀ i, i < 7 → M3.1 (47 + 5 * G) i = nI W) (c8 : ∀ s, s < 49 → ∃ v, v < 128 ∧ M3.1 (46 + 5 * G) s = nI v)
    (e4 : M4 = m_setI (m_setI M3 0 11 0) 65 19 0) (f5 : ∀ a, a < 70 ∨ (72 < a ∧ a < 111) ∨ 113 < a → M5.1 a = M4.1 a) (m5 : M5.2 = M4.2) (g5 : ∀ a s, 70 ≤ a → a ≤ 72 → (s < 49 * G ∨ 49 * G + 49 ≤ s) → M5.1 a s = M4.1 a s) (ms : msG M5 G) (tm : mmI M5 G H W (fun s => M.1 70 (49 * G + s)) (fun s => M.1 71 (49 * G + s)) (fun s => M.1 72 (49 * G + s)) H 0) (e : M' = m_setI M5 65 38 0) : rR (t + 1) dy M' := by
  have rows := ct_rows hg hG b1 b4 b6 hc
  have clw : ∀ i, i < H → (mL M G i).toNatClampNeg = W := fun i hi => by rw [rows i hi, nI_clamp (by omega)]
  have Hd : ∀ a, a < H → ∀ K, K ≤ 7 → M.1 67 G = nI K → a < K := fun a ha K hK eK => by have := nI_H b1 hK b4 eK; omega
  have m2 : M'.2 = M.2 := by rw [e, mI_2, m5, e4, mI_2, mI_2, c1]
  have fa : ∀ a i, ¬ (a = 65 ∧ (i = 38 ∨ i = 19)) → ¬ (a = 0 ∧ i = 11) → (a < 70 ∨ (72 < a ∧ a < 111) ∨ 113 < a) → M'.1 a i = M3.1 a i := fun a i h1 h2 h4 => by
    rw [e, mI_at, if_neg (by omega), f5 a (by omega), e4, mI_at, if_neg (by omega), mI_at, if_neg (by omega)]
  have fb : ∀ a i, ¬ (45 + 5 * G ≤ a ∧ a ≤ 48 + 5 * G) → ¬ (a = 1 ∧ i = 5) → M3.1 a i = M.1 a i := fun a i h1 h2 => by
    rw [c2 a (by omega) (by omega) (by omega) (by omega), mI_at, if_neg h2]
  have fo : ∀ a s, (s < 49 * G ∨ 49 * G + 49 ≤ s) → 70 ≤ a → a ≤ 72 → M'.1 a s = M.1 a s := fun a s h1 h2 h3 => by
    rw [e, mI_at, if_neg (by omega), g5 a s h2 h3 h1, e4, mI_at, if_neg (by omega), mI_at, if_neg (by omega), fb a s (by omega) (by omega)]
  have f7 : ∀ a s, 70 ≤ a → a ≤ 72 → M'.1 a s = M5.1 a s := fun a s h2 h3 => by
    rw [e, mI_at, if_neg (by omega)]
  obtain ⟨⟨a1, a2⟩, ⟨H0, W0, z1, z2, z3, z4, z5, z6, z7, z8, z9⟩, z10, ⟨al, dl, d1, d2, d3, d4, d5, d6⟩⟩ := hg.2.2 G hG
  have eW : W0 = W := nI_H z2 b2 z6 b6
  have eH : H0 = H := nI_H z1 b1 z4 b4
  have ml : ∀ i, i < 7 → mL M' G i = nI W := fun i hi => by
    have e0 : mL M' G i = mL M G i := by
      unfold mL
      rw [fa _ _ (by omega) (by omega) (by omega), fb _ _ (by omega) (by omega)]
    rw [e0]
    by_cases q : i < H
    · exact rows i q
    · rw [← eW]; exact (z7 i hi).2.2.2 (by omega)
  refine R_g hN hL hQ (rG_one (G := G) hg hG (fun a i h1 h2 => ?_) (by rw [m2]) (fun s hs => ?_) ⟨⟨?_, ?_⟩, ⟨H, W, b1, b2, ?_, ?_, ?_, ?_, fun i hi => ⟨?_, ?_, ?_, fun _ => ml i hi⟩, fun i j hi hj => ?_, fun i hi hj hw => ?_⟩, fun s hs => ?_, al, dl, ?_, ?_, ?_, ?_, d5, d6⟩) (fun a i h => ?_) (by rw [m2]) (by rw [m2]) ?_ ?_ ?_
  · unfold ownG at h2
    by_cases q2 : 70 ≤ a ∧ a ≤ 72
    · exact fo a i (by omega) q2.1 q2.2
    · rw [fa a i (by omega) (by omega) (by omega), fb _ _ (by omega) (by omega)]
  · rw [f7 _ _ (by omega) (by omega), f7 _ _ (by omega) (by omega), f7 _ _ (by omega) (by omega)]
    exact ms s hs
  · rw [fa _ _ (by omega) (by omega) (by omega), fa _ _ (by omega) (by omega) (by omega), c4 4 (by decide) (by decide), mI_ne _ _ _ (by omega), fb _ _ (by omega) (by omega)]
    exact a1
  · rw [fa _ _ (by omega) (by omega) (by omega), fb _ _ (by omega) (by omega)]; exact a2
  · rw [fa _ _ (by omega) (by omega) (by omega)]; exact c5
  · rw [fa _ _ (by omega) (by omega) (by omega), fb _ _ (by omega) (by omega)]; exact b4
  · rw [fa _ _ (by omega) (by omega) (by omega)]; exact c6
  · rw [fa _ _ (by omega) (by omega) (by omega), fb _ _ (by omega) (by omega)]; exact b6
  · rw [fa _ _ (by omega) (by omega) (by omega), c7 i hi, ml i hi]
  · rw [ml i hi]; exact Int32.le_trans (by decide) (nI_pos' (by omega))
  · rw [ml i hi]; exact Int32.le_refl _
  · have j7 : j < W := by rw [ml i (by omega), nI_clamp (by omega)] at hj; exact hj
    obtain ⟨b, hb, rfl⟩ : ∃ b, b < W ∧ j = W - 1 - b := ⟨W - 1 - j, by omega, by omega⟩
    rw [fa _ _ (by omega) (by omega) (by omega), c3 i b hi hb]
    unfold mC tld
    rw [f7 _ _ (by omega) (by omega), f7 _ _ (by omega) (by omega), f7 _ _ (by omega) (by omega)]
    obtain ⟨t1, t2, t3⟩ := tm i b hi hb
    dsimp only at t1 t2 t3
    obtain ⟨v1, v2, v3⟩ := ca_vis (i := i) (j := b) hg hG hca (Hd i hi) (by rw [clw i hi]; exact hb) (by omega) (by omega)
    rw [t1, t2, t3, if_pos (Or.inl hi), if_pos (Or.inl hi), v1]
    have lt0 := (hca (i * 7 + b) (by omega)).2
    have x3 : (1 ≤ b ∧ (i < H ∨ i = H ∧ b - 1 < 0) ∧ ¬ M.1 71 (49 * G + (i * 7 + (b - 1))) = 0) ↔ swX ca H 0 i b = 1 := by
      unfold swX
      by_cases q : 1 ≤ b
      · obtain ⟨w1, w2, w3⟩ := ca_vis (i := i) (j := b - 1) hg hG hca (Hd i hi) (by rw [clw i hi]; omega) (by omega) (by omega)
        constructor
        · intro qq
          have : ¬ ca (i * 7 + (b - 1)) / 32 % 2 = 0 := fun z => qq.2.2 (w2.mpr z)
          rw [if_pos ⟨q, Or.inl hi, by omega⟩]
        · intro qq
          refine ⟨q, Or.inl hi, fun z => ?_⟩
          have := w2.mp z
          rw [if_neg (fun z2 => by have := z2.2.2; omega)] at qq
          cases qq
      · constructor
        · intro qq; exact absurd qq.1 q
        · intro qq
          rw [if_neg (fun z2 => q z2.1)] at qq
          cases qq
    have xl := swX_lt ca H 0 i b
    have y3 : (if (if 1 ≤ b ∧ (i < H ∨ i = H ∧ b - 1 < 0) ∧ ¬ M.1 71 (49 * G + (i * 7 + (b - 1))) = 0 then (1 : Int32) else 0) = 0 then (0 : Int32) else 32) = nI (32 * swX ca H 0 i b) := by
      by_cases q : swX ca H 0 i b = 1
      · rw [if_pos (x3.mpr q), q]; decide
      · have q0 : swX ca H 0 i b = 0 := by omega
        rw [if_neg (fun z => q (x3.mp z)), q0]; decide
    have y2 : (if M.1 72 (49 * G + (i * 7 + b)) = 0 then (0 : Int32) else 64) = nI (if ca (i * 7 + b) / 64 = 1 then 64 else 0) := by
      by_cases q : M.1 72 (49 * G + (i * 7 + b)) = 0
      · rw [if_pos q, if_neg (by have := v3.mp q; omega)]; rfl
      · have : ¬ ca (i * 7 + b) / 64 = 0 := fun z => q (v3.mpr z)
        rw [if_neg q, if_pos (by omega)]; rfl
    rw [y2, y3, nI_add, nI_add]
    unfold swT
    congr 1
    omega
  · rw [f7 _ _ (by omega) (by omega)]
    have := (tm i 0 hi (by omega)).2.2
    rw [if_neg (fun q => absurd q.1 (by decide)), Nat.sub_zero] at this
    exact this
  · rw [fa _ _ (by omega) (by omega) (by omega)]; exact c8 s hs
  · rw [fa _ _ (by omega) (by omega) (by omega), c4 7 (by decide) (by decide), mI_ne _ _ _ (by omega)]; exact d1
  · rw [fa _ _ (by omega) (by omega) (by omega), fb _ _ (by omega) (by omega)]; exact d2
  · rw [fa _ _ (by omega) (by omega) (by omega), c4 8 (by decide) (by decide), mI_ne _ _ _ (by omega)]; exact d3
  · rw [fa _ _ (by omega) (by omega) (by omega), fb _ _ (by omega) (by omega)]; exact d4
  · rw [fa a i (by omega) (by omega) (by omega), fb _ _ (by omega) (by omega)]
  · have x1 : M'.1 1 5 = 0 := by
      rw [fa _ _ (by omega) (by omega) (by omega), c2 1 (by omega) (by omega) (by omega) (by omega)]
      rfl
    rw [x1, e, mI_at, if_neg (by omega), f5 _ (by omega), e4, mI_at, if_pos ⟨rfl, rfl⟩]
  · rw [e, mI_at, if_neg (by omega), f5 _ (by omega), e4, mI_at, if_neg (by omega), mI_at, if_pos ⟨rfl, rfl⟩]
  · rw [e, mI_at, if_pos ⟨rfl, rfl⟩]
end MI
