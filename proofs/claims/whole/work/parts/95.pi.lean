/-! pairs: a new grid -/
/-- what is grid G's own -/
def ownG (G a i : Nat) : Prop := (45 + 5 * G ≤ a ∧ a < 48 + 5 * G) ∨ (((66 ≤ a ∧ a ≤ 68) ∨ a = 73 ∨ a = 74) ∧ i = G) ∨ (a = 69 ∧ 7 * G ≤ i ∧ i < 7 * G + 7) ∨ (70 ≤ a ∧ a ≤ 72 ∧ 49 * G ≤ i ∧ i < 49 * G + 49)
/-- one grid is all new, on both sides -/
theorem rG_one {M M' : mm_T} {n G : Nat} (h : rG M n) (hG : G < 4) (fr : ∀ a i, (45 ≤ a ∧ a ≤ 64 ∧ (a - 45) % 5 < 3) ∨ (66 ≤ a ∧ a ≤ 74) → ¬ ownG G a i → M'.1 a i = M.1 a i) (h2 : M'.2.2 7 = M.2.2 7)
    (m : ∀ s, s < 49 → (∃ n, n < 32 ∧ M'.1 70 (49 * G + s) = nI n) ∧ (M'.1 71 (49 * G + s) = 0 ∨ M'.1 71 (49 * G + s) = 1) ∧ (M'.1 72 (49 * G + s) = 0 ∨ M'.1 72 (49 * G + s) = 1)) (k : rg M' n G) : rG M' n := by
  obtain ⟨g1, g2, g3⟩ := h
  refine ⟨fun s hs => ?_, fun K hK => by rw [h2]; exact g2 K hK, fun K hK => ?_⟩
  · by_cases q : 49 * G ≤ s ∧ s < 49 * G + 49
    · have := m (s - 49 * G) (by omega)
      rw [show 49 * G + (s - 49 * G) = s by omega] at this
      exact this
    · rw [fr 70 s (by omega) (by unfold ownG; omega), fr 71 s (by omega) (by unfold ownG; omega), fr 72 s (by omega) (by unfold ownG; omega)]
      exact g1 s hs
  · by_cases e : K = G
    · subst e; exact k
    · exact rg_fr (Nat.le_refl n) (fun a i x y => fr a i (by omega) (by unfold ownG; omega)) (fun a x => fr a K (by omega) (by unfold ownG; omega)) (fun i _ => fr 69 _ (by omega) (by unfold ownG; omega)) (fun a s x y _ => fr a _ (by omega) (by unfold ownG; omega)) (g3 K hK)
/-- the rows' lengths of grid G are set, the first k -/
def lnI (M M' : mm_T) (G k : Nat) (w : Int32) : Prop := M'.2 = M.2 ∧ (∀ a, a ≠ 69 → M'.1 a = M.1 a) ∧ (∀ i, i < k → M'.1 69 (7 * G + i) = w) ∧ ∀ j, (j < 7 * G ∨ 7 * G + 7 ≤ j) → M'.1 69 j = M.1 69 j
theorem lnI_0 (M : mm_T) (G : Nat) (w : Int32) : lnI M M G 0 w := ⟨rfl, fun _ _ => rfl, fun i h => absurd h (Nat.not_lt_zero i), fun _ _ => rfl⟩
theorem lnI_s {M M' : mm_T} {G k : Nat} {w : Int32} (hk : k < 7) (h : lnI M M' G k w) : lnI M (m_setI M' 69 (7 * G + k) w) G (k + 1) w := by
  obtain ⟨h1, h2, h3, h4⟩ := h
  refine ⟨h1, fun a ha => by rw [mI_ne _ _ _ ha]; exact h2 a ha, fun i hi => ?_, fun j hj => ?_⟩
  · by_cases e : i = k
    · subst e; rw [mI_at, if_pos ⟨rfl, rfl⟩]
    · rw [mI_at, if_neg (by omega)]; exact h3 i (by omega)
  · rw [mI_at, if_neg (by omega)]; exact h4 j hj
section PI
variable {L : Nat} {xs : Nat → Int32} {t d : Nat} {dy : List sh_T} {M : mm_T} {Q : Option Value → sm_W → Prop} {n G : Nat}
theorem l_gridL {h w : Int32} (hG : G < 4) (hq : ∀ M', lnI M M' G 7 w → sm_X L xs d 148 11 (sm_code 148 11) [(0, .ref 65), (1, .int (nI G)), (2, .int h), (4, .int (nI 0))] [] (wm (sh0 ++ dy) M') Q) : ∀ M1, lnI M M1 G 0 w → sm_X L xs d 148 8 (sm_code 148 8) [(0, .ref 65), (1, .int (nI G)), (2, .int h), (3, .int w), (4, .int (nI 0))] [] (wm (sh0 ++ dy) M1) Q := by
  refine loop_dn (P := fun k => ∀ M1, lnI M M1 G k w → sm_X L xs d 148 8 (sm_code 148 8) [(0, .ref 65), (1, .int (nI G)), (2, .int h), (3, .int w), (4, .int (nI k))] [] (wm (sh0 ++ dy) M1) Q) 7 ?_ ?_
  · intro M1 h1
    have hl : (7 : Int32) ≤ nI 7 := by decide
    have fin := hq M1 h1
    refine x_opp rfl rfl ?_
    refine x_kcg rfl ?_
    refine a_icT rfl rfl br_ge (by first | exact hl | exact nt_f hl | exact tnf hl | exact fnt hl | exact Int32.not_lt.mp hl | exact Int32.not_le.mp hl | exact Int32.not_lt.mpr hl | exact Int32.not_le.mpr hl) ?_
    refine x_kcg rfl ?_
    refine x_opp rfl rfl ?_
    refine x_go rfl ?_
    refine x_lvs [(0, .ref 65), (1, .int (nI G)), (2, .int h), (4, .int (nI 0))] rfl rfl rfl ⟨rfl, rfl, rfl, rfl, trivial⟩ ?_
    exact fin
  · intro k hk ih M1 h1
    have hl : ¬ (7 : Int32) ≤ nI k := nI_ge (b := 7) hk (by decide)
    have fin := ih _ (lnI_s hk h1)
    refine x_opp rfl rfl ?_
    refine x_kcg rfl ?_
    refine a_icF rfl rfl br_ge (by first | exact hl | exact nt_f hl | exact tnf hl | exact fnt hl | exact Int32.not_lt.mp hl | exact Int32.not_le.mp hl | exact Int32.not_lt.mpr hl | exact Int32.not_le.mpr hl) ?_
    refine x_opp rfl rfl ?_
    refine m_getg (s_65 dy) rfl rfl rfl ?_
    refine x_kcg rfl ?_
    iterate 5 (refine x_opp rfl rfl ?_)
    rw [rw_eq]
    refine a_iastN (s_69 dy) (k := 7 * G + k) rfl rfl rfl (by omega) (by decide) ?_
    first | refine x_incg rfl rfl ?_ | refine x_opp rfl rfl ?_
    refine x_go rfl ?_
    refine x_lvs [(0, .ref 65), (1, .int (nI G)), (2, .int h), (3, .int w), (4, .int (nI (k + 1)))] rfl rfl rfl ⟨rfl, rfl, rfl, rfl, rfl, trivial⟩ ?_
    exact fin
theorem l_gridZ {h : Int32} (hG : G < 4) (hq : ∀ M', qZ M' G 49 → qFr M M' G → sm_X L xs d 148 13 (sm_code 148 13) [(0, .ref 65), (1, .int (nI G)), (2, .int h)] [] (wm (sh0 ++ dy) M') Q) : sm_X L xs d 148 11 (sm_code 148 11) [(0, .ref 65), (1, .int (nI G)), (2, .int h), (4, .int (nI 0))] [] (wm (sh0 ++ dy) M) Q := by
  refine loop_dn (P := fun k => ∀ M1, qZ M1 G k → qFr M M1 G → sm_X L xs d 148 11 (sm_code 148 11) [(0, .ref 65), (1, .int (nI G)), (2, .int h), (4, .int (nI k))] [] (wm (sh0 ++ dy) M1) Q) 49 ?_ ?_ M (fun s hs => absurd hs (Nat.not_lt_zero s)) (qFr_rfl M G)
  · intro M1 h1 h2
    have hl : (49 : Int32) ≤ nI 49 := by decide
    have fin := hq M1 h1 h2
    refine x_opp rfl rfl ?_
    refine x_kcg rfl ?_
    refine a_icT rfl rfl br_ge (by first | exact hl | exact nt_f hl | exact tnf hl | exact fnt hl | exact Int32.not_lt.mp hl | exact Int32.not_le.mp hl | exact Int32.not_lt.mpr hl | exact Int32.not_le.mpr hl) ?_
    refine x_lvs [(0, .ref 65), (1, .int (nI G)), (2, .int h)] rfl rfl rfl ⟨rfl, rfl, rfl, trivial⟩ ?_
    exact fin
  · intro k hk ih M1 h1 h2
    have hl : ¬ (49 : Int32) ≤ nI k := nI_ge (b := 49) hk (by decide)
    have fin := ih _ (qZ_s h1) (qFr_set (qFr_set (qFr_set h2 (by decide) (by omega)) (by decide) (by omega)) (by decide) (by omega))
    refine x_opp rfl rfl ?_
    refine x_kcg rfl ?_
    refine a_icF rfl rfl br_ge (by first | exact hl | exact nt_f hl | exact tnf hl | exact fnt hl | exact Int32.not_lt.mp hl | exact Int32.not_le.mp hl | exact Int32.not_lt.mpr hl | exact Int32.not_le.mpr hl) ?_
    refine x_opp rfl rfl ?_
    refine m_getg (s_65 dy) rfl rfl rfl ?_
    refine x_kcg rfl ?_
    iterate 4 (refine x_opp rfl rfl ?_)
    refine x_kcg rfl ?_
    rw [g49]
    refine a_iastN (s_70 dy) (k := 49 * G + k) rfl rfl rfl (by omega) (by decide) ?_
    refine x_opp rfl rfl ?_
    refine m_getg (s_65 dy) rfl rfl rfl ?_
    refine x_kcg rfl ?_
    iterate 4 (refine x_opp rfl rfl ?_)
    refine x_kcg rfl ?_
    rw [g49]
    refine a_bastN (s_71 dy) (k := 49 * G + k) rfl rfl rfl (by omega) (by decide) (by first | exact zz_01 _ | exact Or.inl rfl | exact Or.inr rfl) ?_
    refine x_opp rfl rfl ?_
    refine m_getg (s_65 dy) rfl rfl rfl ?_
    refine x_kcg rfl ?_
    iterate 4 (refine x_opp rfl rfl ?_)
    refine x_kcg rfl ?_
    rw [g49]
    refine a_bastN (s_72 dy) (k := 49 * G + k) rfl rfl rfl (by omega) (by decide) (by first | exact zz_01 _ | exact Or.inl rfl | exact Or.inr rfl) ?_
    first | refine x_incg rfl rfl ?_ | refine x_opp rfl rfl ?_
    refine x_go rfl ?_
    refine x_lvs [(0, .ref 65), (1, .int (nI G)), (2, .int h), (4, .int (nI (k + 1)))] rfl rfl rfl ⟨rfl, rfl, rfl, rfl, trivial⟩ ?_
    exact fin
theorem c_gb {h w : Int32} (hG : G < 4) (hq : Q none (wm (sh0 ++ dy) (gNew M (45 + 5 * G) (46 + 5 * G) (47 + 5 * G) h w))) : sm_E L xs (d + 2) 12 [.ref (45 + 5 * G), .int h, .int w] (wm (sh0 ++ dy) M) Q := c_gbegin (gsh_at dy G hG) hq
theorem R_grid {M5 M6 M7 M' : mm_T} {s : Nat × (Nat → Int32)} {E : Nat → lT} {P w : Nat → Nat} {H W : Nat} (hN : rN M t s) (hL : rL dy M E P w n) (hQ : rQ M) (hg : rG M n) (hG : G < 4) (hH : H ≤ 7) (hW : W ≤ 7)
    (e5 : M5 = m_setI (m_setI (m_setI (m_setI (m_setI (m_setI (m_setI (gNew (m_setI M 1 5 0) (45 + 5 * G) (46 + 5 * G) (47 + 5 * G) (nI H) (nI W)) 0 11 0) 65 19 0) 66 G 1) 67 G (nI H)) 68 G (nI W)) 73 G (-1)) 74 G (-1)) (e6 : lnI M5 M6 G 7 (nI W)) (e7 : qZ M7 G 49) (f7 : qFr M6 M7 G) (e : M' = m_setI M7 65 38 0) : rR (t + 1) dy M' := by
  obtain ⟨l1, l2, l3, l4⟩ := e6
  obtain ⟨z1, z2, z3⟩ := f7
  have fa : ∀ a i, ¬ (a = 65 ∧ i = 38) → (a < 69 ∨ 72 < a) → M'.1 a i = M5.1 a i := by
    intro a i h1 h2
    rw [e, mI_at, if_neg h1, z2 a (by omega), l2 a (by omega)]
  have fb : ∀ a i, ¬ (45 + 5 * G ≤ a ∧ a ≤ 47 + 5 * G) → ¬ (a = 0 ∧ i = 11) → ¬ (a = 1 ∧ i = 5) → ¬ (a = 65 ∧ i = 19) → ¬ (i = G ∧ ((66 ≤ a ∧ a ≤ 68) ∨ a = 73 ∨ a = 74)) → M5.1 a i = M.1 a i := by
    intro a i h1 h2 h3 h4 h5
    subst e5
    unfold gNew
    repeat (first | rw [mI_at, if_neg (by omega)] | rw [mA_at, if_neg (by omega)])
  have fo : ∀ a s, (s < 49 * G ∨ 49 * G + 49 ≤ s) → 70 ≤ a → a ≤ 72 → M'.1 a s = M.1 a s := by
    intro a s h1 h2 h3
    rw [e, mI_at, if_neg (by omega), z3 a s h1, l2 a (by omega), fb a s (by omega) (by omega) (by omega) (by omega) (by omega)]
  have f69 : ∀ j, M'.1 69 j = M6.1 69 j := by
    intro j
    rw [e, mI_at, if_neg (by omega), z2 69 (by omega)]
  have m2 : M'.2 = M.2 := by rw [e, mI_2, z1, l1, e5]; rfl
  have c0 : ∀ s, s < 49 → M'.1 70 (49 * G + s) = 0 ∧ M'.1 71 (49 * G + s) = 0 ∧ M'.1 72 (49 * G + s) = 0 := by
    intro s hs
    rw [e, mI_ne _ _ _ (by decide), mI_ne _ _ _ (by decide), mI_ne _ _ _ (by decide)]
    exact e7 s hs
  have d0 : ∀ s, s < 49 → M'.1 (46 + 5 * G) s = 0 := by
    intro s hs
    rw [fa _ _ (by omega) (by omega)]
    subst e5
    unfold gNew
    repeat (first | rw [mI_at, if_neg (by omega)] | rw [mA_at, if_neg (by omega)])
    rw [mA_at, if_pos rfl]
    exact if_pos hs
  have dl : ∀ i, i < 7 → M'.1 (47 + 5 * G) i = nI W := by
    intro i hi
    rw [fa _ _ (by omega) (by omega)]
    subst e5
    unfold gNew
    repeat (first | rw [mI_at, if_neg (by omega)])
    rw [mA_at, if_pos rfl]
    exact if_pos hi
  have ml : ∀ i, i < 7 → mL M' G i = nI W := fun i hi => (f69 _).trans (l3 i hi)
  have v5 : ∀ a i, (66 ≤ a ∧ a ≤ 68) ∨ a = 73 ∨ a = 74 ∨ a = 45 + 5 * G → M'.1 a i = M5.1 a i := fun a i h => fa a i (by omega) (by omega)
  refine R_g hN hL hQ (rG_one (G := G) hg hG (fun a i h1 h2 => ?_) (by rw [m2]) (fun s hs => ?_) ⟨⟨?_, ?_⟩, ⟨H, W, hH, hW, ?_, ?_, ?_, ?_, fun i hi => ⟨?_, ?_, ?_, fun _ => ml i hi⟩, fun i j hi hj => ?_, fun i hi hj hw => ?_⟩, fun s hs => ⟨0, by decide, d0 s hs⟩, none, none, ?_, ?_, ?_, ?_, fun l h => (by cases h), fun l h => by cases h⟩) (fun a i h => ?_) (by rw [m2]) (by rw [m2]) ?_ ?_ ?_
  · unfold ownG at h2
    by_cases q : a = 69
    · subst q
      rw [f69, l4 i (by omega), fb _ _ (by omega) (by omega) (by omega) (by omega) (by omega)]
    · by_cases q2 : 70 ≤ a ∧ a ≤ 72
      · exact fo a i (by omega) q2.1 q2.2
      · rw [fa a i (by omega) (by omega), fb _ _ (by omega) (by omega) (by omega) (by omega) (by omega)]
  · obtain ⟨x, y, z⟩ := c0 s hs
    exact ⟨⟨0, by decide, x⟩, Or.inl y, Or.inl z⟩
  · rw [v5 _ _ (by omega), v5 _ _ (by omega)]; subst e5; unfold gNew; exact (show _ = (1 : Int32) from (by repeat (first | rw [mI_at, if_neg (by omega)] | rw [mI_at, if_pos ⟨rfl, rfl⟩] | rw [mA_at, if_neg (by omega)] | rw [mA_at, if_pos rfl] | rw [mL_1] | rw [mR_1]))).trans (show (1 : Int32) = _ from (show _ = (1 : Int32) from (by repeat (first | rw [mI_at, if_neg (by omega)] | rw [mI_at, if_pos ⟨rfl, rfl⟩] | rw [mA_at, if_neg (by omega)] | rw [mA_at, if_pos rfl] | rw [mL_1] | rw [mR_1]))).symm)
  · rw [v5 _ _ (by omega)]; subst e5; exact Or.inr (by repeat (first | rw [mI_at, if_neg (by omega)] | rw [mI_at, if_pos ⟨rfl, rfl⟩] | rw [mA_at, if_neg (by omega)] | rw [mA_at, if_pos rfl] | rw [mL_1] | rw [mR_1]))
  · rw [v5 _ _ (by omega)]; subst e5; unfold gNew; (repeat (first | rw [mI_at, if_neg (by omega)] | rw [mI_at, if_pos ⟨rfl, rfl⟩] | rw [mA_at, if_neg (by omega)] | rw [mA_at, if_pos rfl] | rw [mL_1] | rw [mR_1]))
  · rw [v5 _ _ (by omega)]; subst e5; (repeat (first | rw [mI_at, if_neg (by omega)] | rw [mI_at, if_pos ⟨rfl, rfl⟩] | rw [mA_at, if_neg (by omega)] | rw [mA_at, if_pos rfl] | rw [mL_1] | rw [mR_1]))
  · rw [v5 _ _ (by omega)]; subst e5; unfold gNew; (repeat (first | rw [mI_at, if_neg (by omega)] | rw [mI_at, if_pos ⟨rfl, rfl⟩] | rw [mA_at, if_neg (by omega)] | rw [mA_at, if_pos rfl] | rw [mL_1] | rw [mR_1]))
  · rw [v5 _ _ (by omega)]; subst e5; (repeat (first | rw [mI_at, if_neg (by omega)] | rw [mI_at, if_pos ⟨rfl, rfl⟩] | rw [mA_at, if_neg (by omega)] | rw [mA_at, if_pos rfl] | rw [mL_1] | rw [mR_1]))
  · rw [dl i hi, ml i hi]
  · rw [ml i hi]; exact Int32.le_trans (by decide) (nI_pos' (by omega))
  · rw [ml i hi]; exact Int32.le_refl _
  · have j7 : j < 7 := by rw [ml i (by omega), nI_clamp (by omega)] at hj; omega
    obtain ⟨x, y, z⟩ := c0 (i * 7 + j) (by omega)
    unfold mC tld
    rw [d0 _ (by omega), x, y, z]
    decide
  · exact (c0 (i * 7 + (W - 1)) (by omega)).2.1
  · rw [v5 _ _ (by omega)]; subst e5; unfold gNew; show _ = (-1 : Int32); (repeat (first | rw [mI_at, if_neg (by omega)] | rw [mI_at, if_pos ⟨rfl, rfl⟩] | rw [mA_at, if_neg (by omega)] | rw [mA_at, if_pos rfl] | rw [mL_1] | rw [mR_1]))
  · rw [v5 _ _ (by omega)]; subst e5; show _ = (-1 : Int32); (repeat (first | rw [mI_at, if_neg (by omega)] | rw [mI_at, if_pos ⟨rfl, rfl⟩] | rw [mA_at, if_neg (by omega)] | rw [mA_at, if_pos rfl] | rw [mL_1] | rw [mR_1]))
  · rw [v5 _ _ (by omega)]; subst e5; unfold gNew; show _ = (-1 : Int32); (repeat (first | rw [mI_at, if_neg (by omega)] | rw [mI_at, if_pos ⟨rfl, rfl⟩] | rw [mA_at, if_neg (by omega)] | rw [mA_at, if_pos rfl] | rw [mL_1] | rw [mR_1]))
  · rw [v5 _ _ (by omega)]; subst e5; show _ = (-1 : Int32); (repeat (first | rw [mI_at, if_neg (by omega)] | rw [mI_at, if_pos ⟨rfl, rfl⟩] | rw [mA_at, if_neg (by omega)] | rw [mA_at, if_pos rfl] | rw [mL_1] | rw [mR_1]))
  · rw [fa a i (by omega) (by omega), fb _ _ (by omega) (by omega) (by omega) (by omega) (by omega)]
  · rw [fa _ _ (by omega) (by omega), fa _ _ (by omega) (by omega)]; subst e5; unfold gNew; exact (show _ = (0 : Int32) from (by repeat (first | rw [mI_at, if_neg (by omega)] | rw [mI_at, if_pos ⟨rfl, rfl⟩] | rw [mA_at, if_neg (by omega)] | rw [mA_at, if_pos rfl] | rw [mL_1] | rw [mR_1]))).trans (show (0 : Int32) = _ from (show _ = (0 : Int32) from (by repeat (first | rw [mI_at, if_neg (by omega)] | rw [mI_at, if_pos ⟨rfl, rfl⟩] | rw [mA_at, if_neg (by omega)] | rw [mA_at, if_pos rfl] | rw [mL_1] | rw [mR_1]))).symm)
  · rw [fa _ _ (by omega) (by omega)]; subst e5; (repeat (first | rw [mI_at, if_neg (by omega)] | rw [mI_at, if_pos ⟨rfl, rfl⟩] | rw [mA_at, if_neg (by omega)] | rw [mA_at, if_pos rfl] | rw [mL_1] | rw [mR_1]))
  · rw [e]; (repeat (first | rw [mI_at, if_neg (by omega)] | rw [mI_at, if_pos ⟨rfl, rfl⟩] | rw [mA_at, if_neg (by omega)] | rw [mA_at, if_pos rfl] | rw [mL_1] | rw [mR_1]))
set_option maxRecDepth 4000 in
theorem p_grid {g u v : Int32} (h : rR t dy M) : pr L xs t dy M 7 148 [.int g, .int u, .int v] := by
  have hR := h; obtain ⟨s, E, P, w, n, hG, hN, hL, hS, hQ⟩ := h; have z0 : (0 : Int32) = 0 := rfl; have z1 : (0 : Int32) ≤ 0 := (by decide); have z11 : ¬ (1 : Int32) = 0 := (by decide); have z12 : ¬ (1 : Int32) ≤ 0 := (by decide); obtain ⟨M1, hM1⟩ : ∃ M1, m_setI M 1 5 0 = M1 := ⟨_, rfl⟩; have g1 : rG M1 n := hM1 ▸ rG_c hG; obtain ⟨M2, hM2⟩ : ∃ M2, m_setI M1 65 19 0 = M2 := ⟨_, rfl⟩; have g2 : rG M2 n := hM2 ▸ rG_z g1
  unfold pr; refine e_intro rfl rfl ?_
  by_cases hg : gRow 4 g = true
  · obtain ⟨G, hG4, rfl⟩ := gRow4 hg
    have hgr := g1.2.1 G hG4; obtain ⟨sg, sc, sl, ssp, sre, sne⟩ := gsh_at dy G hG4
    by_cases hu : u ≤ 7
    · by_cases hv : v ≤ 7
      · by_cases u0 : u < 0
        · refine x_opp rfl rfl ?_
          refine m_getg (s_0 dy) rfl rfl rfl ?_
          refine a_callV (s_1 dy) rfl rfl rfl rfl (c_clear (s_1 dy) ?_)
          refine x_opp rfl rfl ?_
          refine a_callS rfl rfl rfl rfl (c_isGridNumber ?_)
          rw [hM1]
          refine a_ifF rfl rfl br_eqz (by first | exact hg | exact nt_f hg | exact tnf hg | exact fnt hg | exact Int32.not_lt.mp hg | exact Int32.not_le.mp hg | exact Int32.not_lt.mpr hg | exact Int32.not_le.mpr hg) ?_
          refine x_opp rfl rfl ?_
          refine x_kcg rfl ?_
          refine a_icF rfl rfl br_gt (by first | exact hu | exact nt_f hu | exact tnf hu | exact fnt hu | exact Int32.not_lt.mp hu | exact Int32.not_le.mp hu | exact Int32.not_lt.mpr hu | exact Int32.not_le.mpr hu) ?_
          refine x_opp rfl rfl ?_
          refine x_kcg rfl ?_
          refine a_icT rfl rfl br_le (by first | exact hv | exact nt_f hv | exact tnf hv | exact fnt hv | exact Int32.not_lt.mp hv | exact Int32.not_le.mp hv | exact Int32.not_lt.mpr hv | exact Int32.not_le.mpr hv) ?_
          refine x_opp rfl rfl ?_
          refine a_ifT rfl rfl br_lt (by first | exact u0 | exact nt_f u0 | exact tnf u0 | exact fnt u0 | exact Int32.not_lt.mp u0 | exact Int32.not_le.mp u0 | exact Int32.not_lt.mpr u0 | exact Int32.not_le.mpr u0) ?_
          refine x_opp rfl rfl ?_
          refine m_getg (s_0 dy) rfl rfl rfl ?_
          refine x_kcg rfl ?_
          refine a_callV (s_1 dy) rfl rfl rfl rfl (c_find (s_1 dy) (s_3 dy) (by decide) (vp_in_nI (n := 4) (by decide) (by decide)) ?_)
          refine a_iret rfl rfl rfl ?_
          refine ⟨_, dy, _, rfl, rfl, ?_⟩; refine e_intro rfl rfl ?_
          refine x_opp rfl rfl ?_
          refine x_kcg rfl ?_
          refine a_putJ 19 (s_65 dy) rfl rfl rfl rfl ?_
          refine x_opp rfl rfl ?_
          refine a_callS rfl rfl rfl rfl (k_isGrid ?_)
          refine a_ifF rfl rfl br_eqz (by first | exact hg | exact nt_f hg | exact tnf hg | exact fnt hg | exact Int32.not_lt.mp hg | exact Int32.not_le.mp hg | exact Int32.not_lt.mpr hg | exact Int32.not_le.mpr hg) ?_
          refine x_opp rfl rfl ?_
          refine x_kcg rfl ?_
          refine a_icF rfl rfl br_gt (by first | exact hu | exact nt_f hu | exact tnf hu | exact fnt hu | exact Int32.not_lt.mp hu | exact Int32.not_le.mp hu | exact Int32.not_lt.mpr hu | exact Int32.not_le.mpr hu) ?_
          refine x_opp rfl rfl ?_
          refine x_kcg rfl ?_
          refine a_icT rfl rfl br_le (by first | exact hv | exact nt_f hv | exact tnf hv | exact fnt hv | exact Int32.not_lt.mp hv | exact Int32.not_le.mp hv | exact Int32.not_lt.mpr hv | exact Int32.not_le.mpr hv) ?_
          refine x_opp rfl rfl ?_
          refine a_ifT rfl rfl br_lt (by first | exact u0 | exact nt_f u0 | exact tnf u0 | exact fnt u0 | exact Int32.not_lt.mp u0 | exact Int32.not_le.mp u0 | exact Int32.not_lt.mpr u0 | exact Int32.not_le.mpr u0) ?_
          refine x_opp rfl rfl ?_
          refine x_kcg rfl ?_
          refine a_callV (s_65 dy) rfl rfl rfl rfl (k_met (vp_in_nI (n := 4) (by decide) (by decide)) ?_)
          refine a_iret rfl rfl rfl ?_
          subst hM1
          exact ⟨rfl, _, rfl, R_fd (k := 4) (by decide) hR⟩
        · by_cases v0 : v < 0
          · refine x_opp rfl rfl ?_
            refine m_getg (s_0 dy) rfl rfl rfl ?_
            refine a_callV (s_1 dy) rfl rfl rfl rfl (c_clear (s_1 dy) ?_)
            refine x_opp rfl rfl ?_
            refine a_callS rfl rfl rfl rfl (c_isGridNumber ?_)
            rw [hM1]
            refine a_ifF rfl rfl br_eqz (by first | exact hg | exact nt_f hg | exact tnf hg | exact fnt hg | exact Int32.not_lt.mp hg | exact Int32.not_le.mp hg | exact Int32.not_lt.mpr hg | exact Int32.not_le.mpr hg) ?_
            refine x_opp rfl rfl ?_
            refine x_kcg rfl ?_
            refine a_icF rfl rfl br_gt (by first | exact hu | exact nt_f hu | exact tnf hu | exact fnt hu | exact Int32.not_lt.mp hu | exact Int32.not_le.mp hu | exact Int32.not_lt.mpr hu | exact Int32.not_le.mpr hu) ?_
            refine x_opp rfl rfl ?_
            refine x_kcg rfl ?_
            refine a_icT rfl rfl br_le (by first | exact hv | exact nt_f hv | exact tnf hv | exact fnt hv | exact Int32.not_lt.mp hv | exact Int32.not_le.mp hv | exact Int32.not_lt.mpr hv | exact Int32.not_le.mpr hv) ?_
            refine x_opp rfl rfl ?_
            refine a_ifF rfl rfl br_lt (by first | exact u0 | exact nt_f u0 | exact tnf u0 | exact fnt u0 | exact Int32.not_lt.mp u0 | exact Int32.not_le.mp u0 | exact Int32.not_lt.mpr u0 | exact Int32.not_le.mpr u0) ?_
            refine x_opp rfl rfl ?_
            refine a_ifF rfl rfl br_ge (by first | exact v0 | exact nt_f v0 | exact tnf v0 | exact fnt v0 | exact Int32.not_lt.mp v0 | exact Int32.not_le.mp v0 | exact Int32.not_lt.mpr v0 | exact Int32.not_le.mpr v0) ?_
            refine x_opp rfl rfl ?_
            refine m_getg (s_0 dy) rfl rfl rfl ?_
            refine x_kcg rfl ?_
            refine a_callV (s_1 dy) rfl rfl rfl rfl (c_find (s_1 dy) (s_3 dy) (by decide) (vp_in_nI (n := 4) (by decide) (by decide)) ?_)
            refine a_iret rfl rfl rfl ?_
            refine ⟨_, dy, _, rfl, rfl, ?_⟩; refine e_intro rfl rfl ?_
            refine x_opp rfl rfl ?_
            refine x_kcg rfl ?_
            refine a_putJ 19 (s_65 dy) rfl rfl rfl rfl ?_
            refine x_opp rfl rfl ?_
            refine a_callS rfl rfl rfl rfl (k_isGrid ?_)
            refine a_ifF rfl rfl br_eqz (by first | exact hg | exact nt_f hg | exact tnf hg | exact fnt hg | exact Int32.not_lt.mp hg | exact Int32.not_le.mp hg | exact Int32.not_lt.mpr hg | exact Int32.not_le.mpr hg) ?_
            refine x_opp rfl rfl ?_
            refine x_kcg rfl ?_
            refine a_icF rfl rfl br_gt (by first | exact hu | exact nt_f hu | exact tnf hu | exact fnt hu | exact Int32.not_lt.mp hu | exact Int32.not_le.mp hu | exact Int32.not_lt.mpr hu | exact Int32.not_le.mpr hu) ?_
            refine x_opp rfl rfl ?_
            refine x_kcg rfl ?_
            refine a_icT rfl rfl br_le (by first | exact hv | exact nt_f hv | exact tnf hv | exact fnt hv | exact Int32.not_lt.mp hv | exact Int32.not_le.mp hv | exact Int32.not_lt.mpr hv | exact Int32.not_le.mpr hv) ?_
            refine x_opp rfl rfl ?_
            refine a_ifF rfl rfl br_lt (by first | exact u0 | exact nt_f u0 | exact tnf u0 | exact fnt u0 | exact Int32.not_lt.mp u0 | exact Int32.not_le.mp u0 | exact Int32.not_lt.mpr u0 | exact Int32.not_le.mpr u0) ?_
            refine x_opp rfl rfl ?_
            refine a_ifF rfl rfl br_ge (by first | exact v0 | exact nt_f v0 | exact tnf v0 | exact fnt v0 | exact Int32.not_lt.mp v0 | exact Int32.not_le.mp v0 | exact Int32.not_lt.mpr v0 | exact Int32.not_le.mpr v0) ?_
            refine x_opp rfl rfl ?_
            refine x_kcg rfl ?_
            refine a_callV (s_65 dy) rfl rfl rfl rfl (k_met (vp_in_nI (n := 4) (by decide) (by decide)) ?_)
            refine a_iret rfl rfl rfl ?_
            subst hM1
            exact ⟨rfl, _, rfl, R_fd (k := 4) (by decide) hR⟩
          · obtain ⟨H, hH, rfl⟩ := nI_ofm (m := 7) u0 hu (by decide)
            obtain ⟨W, hW, rfl⟩ := nI_ofm (m := 7) v0 hv (by decide)
            refine x_opp rfl rfl ?_
            refine m_getg (s_0 dy) rfl rfl rfl ?_
            refine a_callV (s_1 dy) rfl rfl rfl rfl (c_clear (s_1 dy) ?_)
            refine x_opp rfl rfl ?_
            refine a_callS rfl rfl rfl rfl (c_isGridNumber ?_)
            rw [hM1]
            refine a_ifF rfl rfl br_eqz (by first | exact hg | exact nt_f hg | exact tnf hg | exact fnt hg | exact Int32.not_lt.mp hg | exact Int32.not_le.mp hg | exact Int32.not_lt.mpr hg | exact Int32.not_le.mpr hg) ?_
            refine x_opp rfl rfl ?_
            refine x_kcg rfl ?_
            refine a_icF rfl rfl br_gt (by first | exact hu | exact nt_f hu | exact tnf hu | exact fnt hu | exact Int32.not_lt.mp hu | exact Int32.not_le.mp hu | exact Int32.not_lt.mpr hu | exact Int32.not_le.mpr hu) ?_
            refine x_opp rfl rfl ?_
            refine x_kcg rfl ?_
            refine a_icT rfl rfl br_le (by first | exact hv | exact nt_f hv | exact tnf hv | exact fnt hv | exact Int32.not_lt.mp hv | exact Int32.not_le.mp hv | exact Int32.not_lt.mpr hv | exact Int32.not_le.mpr hv) ?_
            refine x_opp rfl rfl ?_
            refine a_ifF rfl rfl br_lt (by first | exact u0 | exact nt_f u0 | exact tnf u0 | exact fnt u0 | exact Int32.not_lt.mp u0 | exact Int32.not_le.mp u0 | exact Int32.not_lt.mpr u0 | exact Int32.not_le.mpr u0) ?_
            refine x_opp rfl rfl ?_
            refine a_ifT rfl rfl br_ge (by first | exact v0 | exact nt_f v0 | exact tnf v0 | exact fnt v0 | exact Int32.not_lt.mp v0 | exact Int32.not_le.mp v0 | exact Int32.not_lt.mpr v0 | exact Int32.not_le.mpr v0) ?_
            refine x_opp rfl rfl ?_
            refine m_getg (s_0 dy) rfl rfl rfl ?_
            refine x_opp rfl rfl ?_
            refine a_gr hG4 rfl rfl hgr ?_
            refine x_opp rfl rfl ?_
            refine x_opp rfl rfl ?_
            refine a_callV sg rfl rfl rfl rfl (c_gb hG4 ?_)
            refine x_opp rfl rfl ?_
            refine x_kcg rfl ?_
            refine a_putJ 11 (s_0 dy) rfl rfl rfl rfl ?_
            refine x_opp rfl rfl ?_
            refine a_iret rfl rfl rfl ?_
            obtain ⟨M3, hM3⟩ : ∃ M3, m_setI (gNew M1 (45 + 5 * G) (46 + 5 * G) (47 + 5 * G) (nI H) (nI W)) 0 11 0 = M3 := ⟨_, rfl⟩
            rw [hM3]
            refine ⟨_, dy, _, rfl, rfl, ?_⟩; refine e_intro rfl rfl ?_
            refine x_opp rfl rfl ?_
            refine x_kcg rfl ?_
            refine a_putJ 19 (s_65 dy) rfl rfl rfl rfl ?_
            refine x_opp rfl rfl ?_
            refine a_callS rfl rfl rfl rfl (k_isGrid ?_)
            refine a_ifF rfl rfl br_eqz (by first | exact hg | exact nt_f hg | exact tnf hg | exact fnt hg | exact Int32.not_lt.mp hg | exact Int32.not_le.mp hg | exact Int32.not_lt.mpr hg | exact Int32.not_le.mpr hg) ?_
            refine x_opp rfl rfl ?_
            refine x_kcg rfl ?_
            refine a_icF rfl rfl br_gt (by first | exact hu | exact nt_f hu | exact tnf hu | exact fnt hu | exact Int32.not_lt.mp hu | exact Int32.not_le.mp hu | exact Int32.not_lt.mpr hu | exact Int32.not_le.mpr hu) ?_
            refine x_opp rfl rfl ?_
            refine x_kcg rfl ?_
            refine a_icT rfl rfl br_le (by first | exact hv | exact nt_f hv | exact tnf hv | exact fnt hv | exact Int32.not_lt.mp hv | exact Int32.not_le.mp hv | exact Int32.not_lt.mpr hv | exact Int32.not_le.mpr hv) ?_
            refine x_opp rfl rfl ?_
            refine a_ifF rfl rfl br_lt (by first | exact u0 | exact nt_f u0 | exact tnf u0 | exact fnt u0 | exact Int32.not_lt.mp u0 | exact Int32.not_le.mp u0 | exact Int32.not_lt.mpr u0 | exact Int32.not_le.mpr u0) ?_
            refine x_opp rfl rfl ?_
            refine a_ifT rfl rfl br_ge (by first | exact v0 | exact nt_f v0 | exact tnf v0 | exact fnt v0 | exact Int32.not_lt.mp v0 | exact Int32.not_le.mp v0 | exact Int32.not_lt.mpr v0 | exact Int32.not_le.mpr v0) ?_
            refine x_opp rfl rfl ?_
            refine m_getg (s_65 dy) rfl rfl rfl ?_
            refine x_opp rfl rfl ?_
            refine x_kcg rfl ?_
            refine a_bastN (s_66 dy) (k := G) rfl rfl rfl (by omega) (by decide) (by first | exact zz_01 _ | exact Or.inl rfl | exact Or.inr rfl) ?_
            refine x_opp rfl rfl ?_
            refine m_getg (s_65 dy) rfl rfl rfl ?_
            refine x_opp rfl rfl ?_
            refine x_opp rfl rfl ?_
            refine a_iastN (s_67 dy) (k := G) rfl rfl rfl (by omega) (by decide) ?_
            refine x_opp rfl rfl ?_
            refine m_getg (s_65 dy) rfl rfl rfl ?_
            refine x_opp rfl rfl ?_
            refine x_opp rfl rfl ?_
            refine a_iastN (s_68 dy) (k := G) rfl rfl rfl (by omega) (by decide) ?_
            refine x_opp rfl rfl ?_
            refine m_getg (s_65 dy) rfl rfl rfl ?_
            refine x_opp rfl rfl ?_
            refine x_kcg rfl ?_
            refine a_iastN (s_73 dy) (k := G) rfl rfl rfl (by omega) (by decide) ?_
            refine x_opp rfl rfl ?_
            refine m_getg (s_65 dy) rfl rfl rfl ?_
            refine x_opp rfl rfl ?_
            refine x_kcg rfl ?_
            refine a_iastN (s_74 dy) (k := G) rfl rfl rfl (by omega) (by decide) ?_
            refine x_kcg rfl ?_
            refine x_opp rfl rfl ?_
            refine x_go rfl ?_
            obtain ⟨M5, hM5⟩ : ∃ M5, m_setI (m_setI (m_setI (m_setI (m_setI (m_setI M3 65 19 0) 66 G 1) 67 G (nI H)) 68 G (nI W)) 73 G (-1)) 74 G (-1) = M5 := ⟨_, rfl⟩
            rw [hM5]
            refine x_lvs [(0, .ref 65), (1, .int (nI G)), (2, .int (nI H)), (3, .int (nI W)), (4, .int (nI 0))] rfl rfl rfl ⟨rfl, rfl, rfl, rfl, rfl, trivial⟩ ?_
            refine l_gridL hG4 (fun M6 h6 => ?_) M5 (lnI_0 M5 G (nI W))
            refine l_gridZ hG4 (fun M7 h7 f7 => ?_)
            refine x_opp rfl rfl ?_
            refine a_callV (s_65 dy) rfl rfl rfl rfl (k_changed ?_)
            refine x_opp rfl rfl ?_
            refine a_iret rfl rfl rfl ?_
            refine ⟨rfl, _, rfl, ?_⟩
            subst hM3
            subst hM1
            exact R_grid hN hL hQ hG hG4 hH hW hM5.symm h6 h7 f7 rfl
      · refine x_opp rfl rfl ?_
        refine m_getg (s_0 dy) rfl rfl rfl ?_
        refine a_callV (s_1 dy) rfl rfl rfl rfl (c_clear (s_1 dy) ?_)
        refine x_opp rfl rfl ?_
        refine a_callS rfl rfl rfl rfl (c_isGridNumber ?_)
        rw [hM1]
        refine a_ifF rfl rfl br_eqz (by first | exact hg | exact nt_f hg | exact tnf hg | exact fnt hg | exact Int32.not_lt.mp hg | exact Int32.not_le.mp hg | exact Int32.not_lt.mpr hg | exact Int32.not_le.mpr hg) ?_
        refine x_opp rfl rfl ?_
        refine x_kcg rfl ?_
        refine a_icF rfl rfl br_gt (by first | exact hu | exact nt_f hu | exact tnf hu | exact fnt hu | exact Int32.not_lt.mp hu | exact Int32.not_le.mp hu | exact Int32.not_lt.mpr hu | exact Int32.not_le.mpr hu) ?_
        refine x_opp rfl rfl ?_
        refine x_kcg rfl ?_
        refine a_icF rfl rfl br_le (by first | exact hv | exact nt_f hv | exact tnf hv | exact fnt hv | exact Int32.not_lt.mp hv | exact Int32.not_le.mp hv | exact Int32.not_lt.mpr hv | exact Int32.not_le.mpr hv) ?_
        refine x_kcg rfl ?_
        refine a_iret rfl rfl rfl ?_
        refine ⟨_, dy, _, rfl, rfl, ?_⟩; refine e_intro rfl rfl ?_
        refine x_opp rfl rfl ?_
        refine x_kcg rfl ?_
        refine a_putJ 19 (s_65 dy) rfl rfl rfl rfl ?_
        refine x_opp rfl rfl ?_
        refine a_callS rfl rfl rfl rfl (k_isGrid ?_)
        rw [hM2]
        refine a_ifF rfl rfl br_eqz (by first | exact hg | exact nt_f hg | exact tnf hg | exact fnt hg | exact Int32.not_lt.mp hg | exact Int32.not_le.mp hg | exact Int32.not_lt.mpr hg | exact Int32.not_le.mpr hg) ?_
        refine x_opp rfl rfl ?_
        refine x_kcg rfl ?_
        refine a_icF rfl rfl br_gt (by first | exact hu | exact nt_f hu | exact tnf hu | exact fnt hu | exact Int32.not_lt.mp hu | exact Int32.not_le.mp hu | exact Int32.not_lt.mpr hu | exact Int32.not_le.mpr hu) ?_
        refine x_opp rfl rfl ?_
        refine x_kcg rfl ?_
        refine a_icF rfl rfl br_le (by first | exact hv | exact nt_f hv | exact tnf hv | exact fnt hv | exact Int32.not_lt.mp hv | exact Int32.not_le.mp hv | exact Int32.not_lt.mpr hv | exact Int32.not_le.mpr hv) ?_
        refine x_kcg rfl ?_
        refine a_iret rfl rfl rfl ?_
        subst hM2; subst hM1; exact ⟨rfl, _, rfl, R_cl hR⟩
    · refine x_opp rfl rfl ?_
      refine m_getg (s_0 dy) rfl rfl rfl ?_
      refine a_callV (s_1 dy) rfl rfl rfl rfl (c_clear (s_1 dy) ?_)
      refine x_opp rfl rfl ?_
      refine a_callS rfl rfl rfl rfl (c_isGridNumber ?_)
      rw [hM1]
      refine a_ifF rfl rfl br_eqz (by first | exact hg | exact nt_f hg | exact tnf hg | exact fnt hg | exact Int32.not_lt.mp hg | exact Int32.not_le.mp hg | exact Int32.not_lt.mpr hg | exact Int32.not_le.mpr hg) ?_
      refine x_opp rfl rfl ?_
      refine x_kcg rfl ?_
      refine a_icT rfl rfl br_gt (by first | exact hu | exact nt_f hu | exact tnf hu | exact fnt hu | exact Int32.not_lt.mp hu | exact Int32.not_le.mp hu | exact Int32.not_lt.mpr hu | exact Int32.not_le.mpr hu) ?_
      refine x_kcg rfl ?_
      refine a_iret rfl rfl rfl ?_
      refine ⟨_, dy, _, rfl, rfl, ?_⟩; refine e_intro rfl rfl ?_
      refine x_opp rfl rfl ?_
      refine x_kcg rfl ?_
      refine a_putJ 19 (s_65 dy) rfl rfl rfl rfl ?_
      refine x_opp rfl rfl ?_
      refine a_callS rfl rfl rfl rfl (k_isGrid ?_)
      rw [hM2]
      refine a_ifF rfl rfl br_eqz (by first | exact hg | exact nt_f hg | exact tnf hg | exact fnt hg | exact Int32.not_lt.mp hg | exact Int32.not_le.mp hg | exact Int32.not_lt.mpr hg | exact Int32.not_le.mpr hg) ?_
      refine x_opp rfl rfl ?_
      refine x_kcg rfl ?_
      refine a_icT rfl rfl br_gt (by first | exact hu | exact nt_f hu | exact tnf hu | exact fnt hu | exact Int32.not_lt.mp hu | exact Int32.not_le.mp hu | exact Int32.not_lt.mpr hu | exact Int32.not_le.mpr hu) ?_
      refine x_kcg rfl ?_
      refine a_iret rfl rfl rfl ?_
      subst hM2; subst hM1; exact ⟨rfl, _, rfl, R_cl hR⟩
  · refine x_opp rfl rfl ?_
    refine m_getg (s_0 dy) rfl rfl rfl ?_
    refine a_callV (s_1 dy) rfl rfl rfl rfl (c_clear (s_1 dy) ?_)
    refine x_opp rfl rfl ?_
    refine a_callS rfl rfl rfl rfl (c_isGridNumber ?_)
    rw [hM1]
    refine a_ifT rfl rfl br_eqz (by first | exact hg | exact nt_f hg | exact tnf hg | exact fnt hg | exact Int32.not_lt.mp hg | exact Int32.not_le.mp hg | exact Int32.not_lt.mpr hg | exact Int32.not_le.mpr hg) ?_
    refine x_kcg rfl ?_
    refine a_iret rfl rfl rfl ?_
    refine ⟨_, dy, _, rfl, rfl, ?_⟩; refine e_intro rfl rfl ?_
    refine x_opp rfl rfl ?_
    refine x_kcg rfl ?_
    refine a_putJ 19 (s_65 dy) rfl rfl rfl rfl ?_
    refine x_opp rfl rfl ?_
    refine a_callS rfl rfl rfl rfl (k_isGrid ?_)
    rw [hM2]
    refine a_ifT rfl rfl br_eqz (by first | exact hg | exact nt_f hg | exact tnf hg | exact fnt hg | exact Int32.not_lt.mp hg | exact Int32.not_le.mp hg | exact Int32.not_lt.mpr hg | exact Int32.not_le.mpr hg) ?_
    refine x_kcg rfl ?_
    refine a_iret rfl rfl rfl ?_
    subst hM2; subst hM1; exact ⟨rfl, _, rfl, R_cl hR⟩
end PI
