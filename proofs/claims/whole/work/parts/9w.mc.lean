/-! the reference brings a row -/
/-- the three rows of a grid's squares, copied k places -/
def bgI (M M1 : mm_T) (G T a c0 b d0 k : Nat) : Prop := ∀ x, M1.1 70 x = rfC (M.1 70) G T a c0 b d0 k x ∧ M1.1 71 x = rfC (M.1 71) G T a c0 b d0 k x ∧ M1.1 72 x = rfC (M.1 72) G T a c0 b d0 k x
def bgF (M M1 : mm_T) : Prop := M1.2 = M.2 ∧ ∀ x, x < 70 ∨ (72 < x ∧ x < 111) ∨ 113 < x → M1.1 x = M.1 x
section MC
variable {L : Nat} {xs : Nat → Int32} {t d : Nat} {dy : List sh_T} {M : mm_T} {Q : Option Value → sm_W → Prop} {n G T : Nat}
set_option maxRecDepth 4000 in
theorem k_bring {a c0 b d0 w0 H W : Nat} (hG : G < 4) (hT : T < 4) (ha : a < 7) (hb : b < H) (hH : H ≤ 7) (hW7 : W ≤ 7) (hc : c0 + w0 ≤ 7) (hd : d0 + w0 ≤ 7) (e67 : M.1 67 T = nI H) (e68 : M.1 68 T = nI W) (ms : msOK M)
    (hq : ∀ M', bgF M M' → (∀ x, M'.1 70 x = rfC (M.1 70) G T a c0 b d0 w0 x ∧ M'.1 71 x = (if 1 ≤ W ∧ x = 49 * T + (b * 7 + (W - 1)) then 0 else rfC (M.1 71) G T a c0 b d0 w0 x) ∧ M'.1 72 x = (if b + 1 = H ∧ 49 * T + b * 7 ≤ x ∧ x < 49 * T + b * 7 + 7 then 0 else rfC (M.1 72) G T a c0 b d0 w0 x)) → Q none (wm (sh0 ++ dy) M')) : sm_E L xs (d + 2) 219 [.ref 65, .int (nI G), .int (nI a), .int (nI c0), .int (nI T), .int (nI b), .int (nI d0), .int (nI w0)] (wm (sh0 ++ dy) M) Q := by
  refine e_intro rfl rfl ?_
  refine x_opp rfl rfl ?_
  refine x_opp rfl rfl ?_
  refine a_callV (s_65 dy) rfl rfl rfl rfl (k_hold hG ms (fun M0 h0 p0 => ?_))
  refine x_kcg rfl ?_
  refine x_opp rfl rfl ?_
  refine x_go rfl ?_
  refine x_lvs [(0, .ref 65), (2, .int (nI a)), (3, .int (nI c0)), (4, .int (nI T)), (5, .int (nI b)), (6, .int (nI d0)), (7, .int (nI w0)), (8, .int (nI 0))] rfl rfl rfl ⟨rfl, rfl, rfl, rfl, rfl, rfl, rfl, rfl, trivial⟩ ?_
  refine loop_dn (P := fun k => ∀ M1, bgF M M1 → hIs M M1 G 49 → bgI M M1 G T a c0 b d0 k → sm_X L xs (d + 1) 219 1 (sm_code 219 1) [(0, .ref 65), (2, .int (nI a)), (3, .int (nI c0)), (4, .int (nI T)), (5, .int (nI b)), (6, .int (nI d0)), (7, .int (nI w0)), (8, .int (nI k))] [] (wm (sh0 ++ dy) M1) Q) w0 ?_ ?_ M0 ⟨p0.1, fun x hx => p0.2 x (by omega)⟩ h0 (fun x => ?_)
  · intro M1 f1 f2 f3
    have g : nI w0 ≤ nI w0 := Int32.le_refl _
    have e671 : M1.1 67 T = nI H := by rw [f1.2 67 (by omega)]; exact e67
    have e681 : M1.1 68 T = nI W := by rw [f1.2 68 (by omega)]; exact e68
    -- the bars below
    have low : ∀ M3, bgF M M3 → (∀ x, M3.1 70 x = rfC (M.1 70) G T a c0 b d0 w0 x ∧ M3.1 71 x = (if 1 ≤ W ∧ x = 49 * T + (b * 7 + (W - 1)) then 0 else rfC (M.1 71) G T a c0 b d0 w0 x) ∧ M3.1 72 x = rfC (M.1 72) G T a c0 b d0 w0 x) → sm_X L xs (d + 1) 219 6 (sm_code 219 6) [(0, .ref 65), (4, .int (nI T)), (5, .int (nI b)), (8, .int (nI 0))] [] (wm (sh0 ++ dy) M3) Q := by
      intro M3 q1 q2
      by_cases c1 : b + 1 = H
      · have key : ∀ M4, bgF M M4 → (∀ x, M4.1 70 x = rfC (M.1 70) G T a c0 b d0 w0 x ∧ M4.1 71 x = (if 1 ≤ W ∧ x = 49 * T + (b * 7 + (W - 1)) then 0 else rfC (M.1 71) G T a c0 b d0 w0 x) ∧ M4.1 72 x = (if 49 * T + b * 7 ≤ x ∧ x < 49 * T + b * 7 + 0 then 0 else rfC (M.1 72) G T a c0 b d0 w0 x)) → sm_X L xs (d + 1) 219 6 (sm_code 219 6) [(0, .ref 65), (4, .int (nI T)), (5, .int (nI b)), (8, .int (nI 0))] [] (wm (sh0 ++ dy) M4) Q := by
          refine loop_dn (P := fun k => ∀ M4, bgF M M4 → (∀ x, M4.1 70 x = rfC (M.1 70) G T a c0 b d0 w0 x ∧ M4.1 71 x = (if 1 ≤ W ∧ x = 49 * T + (b * 7 + (W - 1)) then 0 else rfC (M.1 71) G T a c0 b d0 w0 x) ∧ M4.1 72 x = (if 49 * T + b * 7 ≤ x ∧ x < 49 * T + b * 7 + k then 0 else rfC (M.1 72) G T a c0 b d0 w0 x)) → sm_X L xs (d + 1) 219 6 (sm_code 219 6) [(0, .ref 65), (4, .int (nI T)), (5, .int (nI b)), (8, .int (nI k))] [] (wm (sh0 ++ dy) M4) Q) 7 ?_ ?_
          · intro M4 k1 k2
            have g7 : (7 : Int32) ≤ nI 7 := by decide
            have fin := hq M4 k1 (fun x => by
              obtain ⟨y1, y2, y3⟩ := k2 x
              refine ⟨y1, y2, ?_⟩
              rw [y3]
              exact ifc (by constructor <;> (intro q; first | exact ⟨c1, q⟩ | exact q.2)))
            refine x_opp rfl rfl ?_
            refine x_kcg rfl ?_
            refine a_icT rfl rfl br_ge (by first | exact g7 | exact nt_f g7 | exact tnf g7 | exact fnt g7 | exact Int32.not_lt.mp g7 | exact Int32.not_le.mp g7 | exact Int32.not_lt.mpr g7 | exact Int32.not_le.mpr g7) ?_
            refine a_ret rfl rfl ?_
            exact fin
          · intro k hk ih M4 k1 k2
            have g7 : ¬ (7 : Int32) ≤ nI k := nI_ge (b := 7) hk (by decide)
            have e674 : M4.1 67 T = nI H := by rw [k1.2 67 (by omega)]; exact e67
            have n2 : ¬ nI b ≠ nI H - 1 := fun h => h (by rw [← c1]; exact (nI_pred b).symm)
            have fin := ih (m_setI M4 72 (49 * T + (b * 7 + k)) 0) ⟨k1.1, fun x hx => by rw [mI_ne _ _ _ (by omega)]; exact k1.2 x hx⟩ (fun x => by
              obtain ⟨y1, y2, y3⟩ := k2 x
              refine ⟨by rw [mI_ne _ _ _ (by decide)]; exact y1, by rw [mI_ne _ _ _ (by decide)]; exact y2, ?_⟩
              rw [mI_at]
              by_cases e : x = 49 * T + (b * 7 + k)
              · rw [if_pos ⟨rfl, e⟩, if_pos (by omega)]
              · rw [if_neg (fun h => e h.2), y3]
                exact ifc (by omega))
            refine x_opp rfl rfl ?_
            refine x_kcg rfl ?_
            refine a_icF rfl rfl br_ge (by first | exact g7 | exact nt_f g7 | exact tnf g7 | exact fnt g7 | exact Int32.not_lt.mp g7 | exact Int32.not_le.mp g7 | exact Int32.not_lt.mpr g7 | exact Int32.not_le.mpr g7) ?_
            refine x_opp rfl rfl ?_
            refine x_opp rfl rfl ?_
            refine m_getg (s_65 dy) rfl rfl rfl ?_
            refine x_opp rfl rfl ?_
            refine a_ialdN (s_67 dy) (k := T) rfl rfl rfl (by omega) (by decide) ?_
            refine x_kcg rfl ?_
            refine x_opp rfl rfl ?_
            rw [e674]
            refine a_icF rfl rfl br_ne (by first | exact n2 | exact nt_f n2 | exact tnf n2 | exact fnt n2 | exact Int32.not_lt.mp n2 | exact Int32.not_le.mp n2 | exact Int32.not_lt.mpr n2 | exact Int32.not_le.mpr n2) ?_
            refine x_opp rfl rfl ?_
            refine m_getg (s_65 dy) rfl rfl rfl ?_
            iterate 3 (refine x_opp rfl rfl ?_)
            refine a_callS rfl rfl rfl rfl (k_sq ?_)
            refine x_kcg rfl ?_
            refine a_bastN (s_72 dy) (k := 49 * T + (b * 7 + k)) rfl rfl rfl (by omega) (by decide) (by first | exact zz_01 _ | exact Or.inl rfl | exact Or.inr rfl) ?_
            first | refine x_incg rfl rfl ?_ | refine x_opp rfl rfl ?_
            refine x_go rfl ?_
            refine x_lvs [(0, .ref 65), (4, .int (nI T)), (5, .int (nI b)), (8, .int (nI (k + 1)))] rfl rfl rfl ⟨rfl, rfl, rfl, rfl, trivial⟩ ?_
            exact fin
        exact key M3 q1 (fun x => by
          obtain ⟨y1, y2, y3⟩ := q2 x
          refine ⟨y1, y2, ?_⟩
          rw [y3, if_neg (by omega)])
      · have g7 : ¬ (7 : Int32) ≤ nI 0 := by decide
        have e673 : M3.1 67 T = nI H := by rw [q1.2 67 (by omega)]; exact e67
        have n2 : nI b ≠ nI H - 1 := fun h => by
          rw [show nI H - 1 = nI (H - 1) from pk_sub (b := 1) (by omega), nI_eq (by omega) (by omega)] at h
          omega
        have fin := hq M3 q1 (fun x => by
          obtain ⟨y1, y2, y3⟩ := q2 x
          refine ⟨y1, y2, ?_⟩
          rw [y3, if_neg (fun q => c1 q.1)])
        refine x_opp rfl rfl ?_
        refine x_kcg rfl ?_
        refine a_icF rfl rfl br_ge (by first | exact g7 | exact nt_f g7 | exact tnf g7 | exact fnt g7 | exact Int32.not_lt.mp g7 | exact Int32.not_le.mp g7 | exact Int32.not_lt.mpr g7 | exact Int32.not_le.mpr g7) ?_
        refine x_opp rfl rfl ?_
        refine x_opp rfl rfl ?_
        refine m_getg (s_65 dy) rfl rfl rfl ?_
        refine x_opp rfl rfl ?_
        refine a_ialdN (s_67 dy) (k := T) rfl rfl rfl (by omega) (by decide) ?_
        refine x_kcg rfl ?_
        refine x_opp rfl rfl ?_
        rw [e673]
        refine a_icT rfl rfl br_ne (by first | exact n2 | exact nt_f n2 | exact tnf n2 | exact fnt n2 | exact Int32.not_lt.mp n2 | exact Int32.not_le.mp n2 | exact Int32.not_lt.mpr n2 | exact Int32.not_le.mpr n2) ?_
        refine a_ret rfl rfl ?_
        exact fin
    by_cases c2 : 1 ≤ W
    · have n3 : ¬ nI W ≤ 0 := nI_nle (by omega) (by omega)
      have xw : nI W - 1 = nI (W - 1) := pk_sub (b := 1) c2
      have fin := low (m_setI M1 71 (49 * T + (b * 7 + (W - 1))) 0) ⟨f1.1, fun x hx => by rw [mI_ne _ _ _ (by omega)]; exact f1.2 x hx⟩ (fun x => by
        obtain ⟨y1, y2, y3⟩ := f3 x
        refine ⟨by rw [mI_ne _ _ _ (by decide)]; exact y1, ?_, by rw [mI_ne _ _ _ (by decide)]; exact y3⟩
        rw [mI_at]
        by_cases e : x = 49 * T + (b * 7 + (W - 1))
        · rw [if_pos ⟨rfl, e⟩, if_pos ⟨c2, e⟩]
        · rw [if_neg (fun h => e h.2), if_neg (fun h => e h.2)]; exact y2)
      refine x_opp rfl rfl ?_
      refine x_opp rfl rfl ?_
      refine a_icT rfl rfl br_ge (by first | exact g | exact nt_f g | exact tnf g | exact fnt g | exact Int32.not_lt.mp g | exact Int32.not_le.mp g | exact Int32.not_lt.mpr g | exact Int32.not_le.mpr g) ?_
      refine x_opp rfl rfl ?_
      refine m_getg (s_65 dy) rfl rfl rfl ?_
      refine x_opp rfl rfl ?_
      refine a_ialdN (s_68 dy) (k := T) rfl rfl rfl (by omega) (by decide) ?_
      rw [e681]
      refine a_ifF rfl rfl br_le (by first | exact n3 | exact nt_f n3 | exact tnf n3 | exact fnt n3 | exact Int32.not_lt.mp n3 | exact Int32.not_le.mp n3 | exact Int32.not_lt.mpr n3 | exact Int32.not_le.mpr n3) ?_
      refine x_opp rfl rfl ?_
      refine m_getg (s_65 dy) rfl rfl rfl ?_
      iterate 3 (refine x_opp rfl rfl ?_)
      refine m_getg (s_65 dy) rfl rfl rfl ?_
      refine x_opp rfl rfl ?_
      refine a_ialdN (s_68 dy) (k := T) rfl rfl rfl (by omega) (by decide) ?_
      refine x_kcg rfl ?_
      refine x_opp rfl rfl ?_
      rw [e681, xw]
      refine a_callS rfl rfl rfl rfl (k_sq ?_)
      refine x_kcg rfl ?_
      refine a_bastN (s_71 dy) (k := 49 * T + (b * 7 + (W - 1))) rfl rfl rfl (by omega) (by decide) (by first | exact zz_01 _ | exact Or.inl rfl | exact Or.inr rfl) ?_
      refine x_go rfl ?_
      refine x_kcg rfl ?_
      refine x_opp rfl rfl ?_
      refine x_go rfl ?_
      refine x_lvs [(0, .ref 65), (4, .int (nI T)), (5, .int (nI b)), (8, .int (nI 0))] rfl rfl rfl ⟨rfl, rfl, rfl, rfl, trivial⟩ ?_
      exact fin
    · have n3 : nI W ≤ 0 := by rw [show W = 0 by omega]; decide
      have fin := low M1 f1 (fun x => by
        obtain ⟨y1, y2, y3⟩ := f3 x
        exact ⟨y1, by rw [if_neg (fun h => c2 h.1)]; exact y2, y3⟩)
      refine x_opp rfl rfl ?_
      refine x_opp rfl rfl ?_
      refine a_icT rfl rfl br_ge (by first | exact g | exact nt_f g | exact tnf g | exact fnt g | exact Int32.not_lt.mp g | exact Int32.not_le.mp g | exact Int32.not_lt.mpr g | exact Int32.not_le.mpr g) ?_
      refine x_opp rfl rfl ?_
      refine m_getg (s_65 dy) rfl rfl rfl ?_
      refine x_opp rfl rfl ?_
      refine a_ialdN (s_68 dy) (k := T) rfl rfl rfl (by omega) (by decide) ?_
      rw [e681]
      refine a_ifT rfl rfl br_le (by first | exact n3 | exact nt_f n3 | exact tnf n3 | exact fnt n3 | exact Int32.not_lt.mp n3 | exact Int32.not_le.mp n3 | exact Int32.not_lt.mpr n3 | exact Int32.not_le.mpr n3) ?_
      refine x_kcg rfl ?_
      refine x_opp rfl rfl ?_
      refine x_go rfl ?_
      refine x_lvs [(0, .ref 65), (4, .int (nI T)), (5, .int (nI b)), (8, .int (nI 0))] rfl rfl rfl ⟨rfl, rfl, rfl, rfl, trivial⟩ ?_
      exact fin
  · intro k hk ih M1 f1 f2 f3
    have g : ¬ nI w0 ≤ nI k := nI_ge hk (by omega)
    have x1 : 7 * nI a + nI c0 + nI k = nI (a * 7 + (c0 + k)) := by
      rw [rw_eq, nI_add]
      congr 1
      omega
    obtain ⟨r1, r2, r3⟩ := f2 (a * 7 + (c0 + k)) (by omega)
    obtain ⟨-, o1, o2⟩ := ms (49 * G + (a * 7 + (c0 + k))) (by omega)
    obtain ⟨M5, hM5⟩ : ∃ M5, m_setI (m_setI (m_setI M1 70 (49 * T + (b * 7 + (d0 + k))) (M.1 70 (49 * G + (a * 7 + (c0 + k))))) 71 (49 * T + (b * 7 + (d0 + k))) (M.1 71 (49 * G + (a * 7 + (c0 + k))))) 72 (49 * T + (b * 7 + (d0 + k))) (M.1 72 (49 * G + (a * 7 + (c0 + k)))) = M5 := ⟨_, rfl⟩
    have fin := ih M5 ⟨by rw [← hM5]; exact f1.1, fun x hx => by rw [← hM5, mI_ne _ _ _ (by omega), mI_ne _ _ _ (by omega), mI_ne _ _ _ (by omega)]; exact f1.2 x hx⟩ (fun s hs => by
      rw [← hM5, mI_ne _ _ _ (by decide), mI_ne _ _ _ (by decide), mI_ne _ _ _ (by decide), mI_ne _ _ _ (by decide), mI_ne _ _ _ (by decide), mI_ne _ _ _ (by decide), mI_ne _ _ _ (by decide), mI_ne _ _ _ (by decide), mI_ne _ _ _ (by decide)]
      exact f2 s hs) (fun x => by
      obtain ⟨y1, y2, y3⟩ := f3 x
      rw [rfC_s, rfC_s, rfC_s, ← hM5]
      by_cases e : x = 49 * T + (b * 7 + (d0 + k))
      · rw [if_pos e, if_pos e, if_pos e]
        refine ⟨?_, ?_, ?_⟩
        · rw [mI_ne _ _ _ (by decide), mI_ne _ _ _ (by decide), mI_at, if_pos ⟨rfl, e⟩]
        · rw [mI_ne _ _ _ (by decide), mI_at, if_pos ⟨rfl, e⟩]
        · rw [mI_at, if_pos ⟨rfl, e⟩]
      · rw [if_neg e, if_neg e, if_neg e]
        refine ⟨?_, ?_, ?_⟩
        · rw [mI_ne _ _ _ (by decide), mI_ne _ _ _ (by decide), mI_at, if_neg (fun h => e h.2)]; exact y1
        · rw [mI_ne _ _ _ (by decide), mI_at, if_neg (fun h => e h.2), mI_ne _ _ _ (by decide)]; exact y2
        · rw [mI_at, if_neg (fun h => e h.2), mI_ne _ _ _ (by decide), mI_ne _ _ _ (by decide)]; exact y3)
    have s2 : (m_setI M1 70 (49 * T + (b * 7 + (d0 + k))) (M.1 70 (49 * G + (a * 7 + (c0 + k))))).1 112 (a * 7 + (c0 + k)) = M.1 71 (49 * G + (a * 7 + (c0 + k))) := by rw [mI_ne _ _ _ (by decide)]; exact r2
    have s3 : (m_setI (m_setI M1 70 (49 * T + (b * 7 + (d0 + k))) (M.1 70 (49 * G + (a * 7 + (c0 + k))))) 71 (49 * T + (b * 7 + (d0 + k))) (M.1 71 (49 * G + (a * 7 + (c0 + k))))).1 113 (a * 7 + (c0 + k)) = M.1 72 (49 * G + (a * 7 + (c0 + k))) := by rw [mI_ne _ _ _ (by decide), mI_ne _ _ _ (by decide)]; exact r3
    refine x_opp rfl rfl ?_
    refine x_opp rfl rfl ?_
    refine a_icF rfl rfl br_ge (by first | exact g | exact nt_f g | exact tnf g | exact fnt g | exact Int32.not_lt.mp g | exact Int32.not_le.mp g | exact Int32.not_lt.mpr g | exact Int32.not_le.mpr g) ?_
    refine x_kcg rfl ?_
    iterate 12 (refine x_opp rfl rfl ?_)
    rw [x1, nI_add]
    refine a_callS rfl rfl rfl rfl (k_sq ?_)
    refine x_opp rfl rfl ?_
    refine x_opp rfl rfl ?_
    refine m_getg (s_65 dy) rfl rfl rfl ?_
    refine x_opp rfl rfl ?_
    refine x_opp rfl rfl ?_
    refine m_getg (s_65 dy) rfl rfl rfl ?_
    refine x_opp rfl rfl ?_
    refine a_ialdN (s_111 dy) (k := a * 7 + (c0 + k)) rfl rfl rfl (by omega) (by decide) ?_
    rw [r1]
    refine a_iastN (s_70 dy) (k := 49 * T + (b * 7 + (d0 + k))) rfl rfl rfl (by omega) (by decide) ?_
    refine x_opp rfl rfl ?_
    refine m_getg (s_65 dy) rfl rfl rfl ?_
    refine x_opp rfl rfl ?_
    refine x_opp rfl rfl ?_
    refine m_getg (s_65 dy) rfl rfl rfl ?_
    refine x_opp rfl rfl ?_
    refine a_baldN (s_112 dy) (k := a * 7 + (c0 + k)) rfl rfl rfl (by omega) (by decide) ?_
    rw [s2]
    refine a_bastN (s_71 dy) (k := 49 * T + (b * 7 + (d0 + k))) rfl rfl rfl (by omega) (by decide) (o1) ?_
    refine x_opp rfl rfl ?_
    refine m_getg (s_65 dy) rfl rfl rfl ?_
    refine x_opp rfl rfl ?_
    refine x_opp rfl rfl ?_
    refine m_getg (s_65 dy) rfl rfl rfl ?_
    refine x_opp rfl rfl ?_
    refine a_baldN (s_113 dy) (k := a * 7 + (c0 + k)) rfl rfl rfl (by omega) (by decide) ?_
    rw [s3]
    refine a_bastN (s_72 dy) (k := 49 * T + (b * 7 + (d0 + k))) rfl rfl rfl (by omega) (by decide) (o2) ?_
    first | refine x_incg rfl rfl ?_ | refine x_opp rfl rfl ?_
    refine x_go rfl ?_
    rw [hM5]
    refine x_lvs [(0, .ref 65), (2, .int (nI a)), (3, .int (nI c0)), (4, .int (nI T)), (5, .int (nI b)), (6, .int (nI d0)), (7, .int (nI w0)), (8, .int (nI (k + 1)))] rfl rfl rfl ⟨rfl, rfl, rfl, rfl, rfl, rfl, rfl, rfl, trivial⟩ ?_
    exact fin
  · rw [p0.2 70 (by omega), p0.2 71 (by omega), p0.2 72 (by omega)]
    unfold rfC
    rw [if_neg (by omega), if_neg (by omega), if_neg (by omega)]
    exact ⟨rfl, rfl, rfl⟩
end MC
