/-! pairs: a grid is turned -/
section TP
variable {L : Nat} {xs : Nat → Int32} {t d : Nat} {dy : List sh_T} {M : mm_T} {Q : Option Value → sm_W → Prop} {n G : Nat}
theorem l_turnL {w v4 : Int32} (hG : G < 4) (hq : ∀ M', lnI M M' G 7 w → sm_X L xs d 222 20 (sm_code 222 20) [(0, .ref 65), (4, .int v4)] [] (wm (sh0 ++ dy) M') Q) : ∀ M1, lnI M M1 G 0 w → sm_X L xs d 222 18 (sm_code 222 18) [(0, .ref 65), (1, .int (nI G)), (3, .int w), (4, .int v4), (5, .int (nI 0))] [] (wm (sh0 ++ dy) M1) Q := by
  refine loop_dn (P := fun k => ∀ M1, lnI M M1 G k w → sm_X L xs d 222 18 (sm_code 222 18) [(0, .ref 65), (1, .int (nI G)), (3, .int w), (4, .int v4), (5, .int (nI k))] [] (wm (sh0 ++ dy) M1) Q) 7 ?_ ?_
  · intro M1 h1
    have hl : (7 : Int32) ≤ nI 7 := by decide
    have fin := hq M1 h1
    refine x_opp rfl rfl ?_
    refine x_kcg rfl ?_
    refine a_icT rfl rfl br_ge (by first | exact hl | exact nt_f hl | exact tnf hl | exact fnt hl | exact Int32.not_lt.mp hl | exact Int32.not_le.mp hl | exact Int32.not_lt.mpr hl | exact Int32.not_le.mpr hl) ?_
    refine x_lvs [(0, .ref 65), (4, .int v4)] rfl rfl rfl ⟨rfl, rfl, trivial⟩ ?_
    exact fin
  · intro k hk ih M1 h1
    have hl : ¬ (7 : Int32) ≤ nI k := nI_ge (b := 7) hk (by decide)
    have fin := ih _ (lnI_s hk h1)
    refine x_opp rfl rfl ?_
    refine x_kcg rfl ?_
    refine a_icF rfl rfl br_ge (by first | exact hl | exact nt_f hl | exact tnf hl | exact fnt hl | exact Int32.not_lt.mp hl | exact Int32.not_le.mp hl | exact Int32.not_lt.mpr hl | exact Int32.not_le.mpr hl) ?_
    refine x_opp rfl rfl ?_
    refine m_getg (s_65 dy) rfl rfl rfl ?_
    refine x_kcg rfl ?_
    iterate 5 (refine x_opp rfl rfl ?_)
    rw [rw_eq]
    refine a_iastN (s_69 dy) (k := 7 * G + k) rfl rfl rfl (by omega) (by decide) ?_
    first | refine x_incg rfl rfl ?_ | refine x_opp rfl rfl ?_
    refine x_go rfl ?_
    refine x_lvs [(0, .ref 65), (1, .int (nI G)), (3, .int w), (4, .int v4), (5, .int (nI (k + 1)))] rfl rfl rfl ⟨rfl, rfl, rfl, rfl, rfl, trivial⟩ ?_
    exact fin
/-- the cells of a grid as numbers -/
theorem rG_ca (h : rG M n) (hG : G < 4) : ∃ ca : Nat → Nat, ∀ s, s < 49 → M.1 (46 + 5 * G) s = nI (ca s) ∧ ca s < 128 := by
  have c := (h.2.2 G hG).2.2.1
  refine ⟨fun s => (M.1 (46 + 5 * G) s).toNatClampNeg, fun s hs => ?_⟩
  obtain ⟨v, hv, e⟩ := c s hs
  dsimp only
  rw [e, nI_clamp (by omega)]
  exact ⟨rfl, hv⟩
/-- a visible square of the reference, by the number of the desk's cell -/
theorem ca_vis {ca : Nat → Nat} {i j : Nat} (h : rG M n) (hG : G < 4) (hca : ∀ s, s < 49 → M.1 (46 + 5 * G) s = nI (ca s) ∧ ca s < 128) (hi : ∀ H, H ≤ 7 → M.1 67 G = nI H → i < H) (hj : j < (mL M G i).toNatClampNeg) (i7 : i < 7) (j7 : j < 7) : M.1 70 (49 * G + (i * 7 + j)) = nI (ca (i * 7 + j) % 32) ∧ (M.1 71 (49 * G + (i * 7 + j)) = 0 ↔ ca (i * 7 + j) / 32 % 2 = 0) ∧ (M.1 72 (49 * G + (i * 7 + j)) = 0 ↔ ca (i * 7 + j) / 64 = 0) := by
  obtain ⟨u1, u2, u3, u4⟩ := rG_vis h hG hi hj i7 j7
  obtain ⟨e1, e2⟩ := hca (i * 7 + j) (by omega)
  obtain ⟨-, -, d3, d4⟩ := tq_dec _ e2 0 (by decide)
  rw [e1] at u2 u3 u4
  refine ⟨by rw [← u2, nI_and31], ?_, ?_⟩
  · rw [← d3, u3]
    by_cases q : M.1 71 (49 * G + (i * 7 + j)) = 0
    · rw [if_pos q]; exact ⟨fun _ => rfl, fun _ => q⟩
    · rw [if_neg q]; exact ⟨fun z => absurd z q, fun z => absurd z (by decide)⟩
  · rw [← d4, u4]
    by_cases q : M.1 72 (49 * G + (i * 7 + j)) = 0
    · rw [if_pos q]; exact ⟨fun _ => rfl, fun _ => q⟩
    · rw [if_neg q]; exact ⟨fun z => absurd z q, fun z => absurd z (by decide)⟩
theorem nI_3 (a x y : Nat) : nI a + (if x = 0 then 0 else 32) + (if y = 0 then 0 else 64) = nI (a + (if x = 0 then 0 else 32) + (if y = 0 then 0 else 64)) := by
  rw [← nI_add, ← nI_add]
  congr 1
  · congr 1
    split <;> rfl
  · split <;> rfl
/-- rows that aren't cut -/
theorem ct_rows {H W : Nat} (h : rG M n) (hG : G < 4) (b1 : H ≤ 7) (b4 : M.1 67 G = nI H) (b6 : M.1 68 G = nI W) (hc : ctG M G = false) : ∀ i, i < H → mL M G i = nI W := by
  intro i hi
  unfold ctG at hc
  rw [b4, nI_clamp (by omega)] at hc
  have := (anyB_iff _ _).mp hc i hi
  unfold gCut at this
  have := of_decide_eq_false this
  rw [b6] at this
  exact Decidable.not_not.mp this
set_option maxHeartbeats 1000000 in
theorem R_turn {M3 M4 M5 M6 M7 M' : mm_T} {s : Nat × (Nat → Int32)} {E : Nat → lT} {P w : Nat → Nat} {H W : Nat} {ca : Nat → Nat} (hN : rN M t s) (hL : rL dy M E P w n) (hQ : rQ M) (hg : rG M n) (hG : G < 4) (b1 : H ≤ 7) (b2 : W ≤ 7) (b4 : M.1 67 G = nI H) (b6 : M.1 68 G = nI W) (hc : ctG M G = false) (th : M.1 66 G ≠ 0) (hca : ∀ s, s < 49 → M.1 (46 + 5 * G) s = nI (ca s) ∧ ca s < 128)
    (c1 : M3.2 = M.2) (c2 : ∀ a, a ≠ 45 + 5 * G → a ≠ 46 + 5 * G → a ≠ 47 + 5 * G → a ≠ 48 + 5 * G → M3.1 a = (m_setI M 1 5 0).1 a) (c3 : ∀ a b, a < H → b < W → M3.1 (46 + 5 * G) (b * 7 + (H - 1 - a)) = nI (32 * tqX ca H 0 a b + tqT ca a b)) (c4 : ∀ f, f ≠ 5 → f ≠ 6 → M3.1 (45 + 5 * G) f = (m_setI M 1 5 0).1 (45 + 5 * G) f) (c5 : M3.1 (45 + 5 * G) 5 = nI W) (c6 : M3.1 (45 + 5 * G) 6 = nI H) (c7 : ∀ i, i < 7 → M3.1 (47 + 5 * G) i = nI H) (c8 : ∀ s, s < 49 → ∃ v, v < 128 ∧ M3.1 (46 + 5 * G) s = nI v)
    (e4 : M4 = m_setI (m_setI M3 0 11 0) 65 19 0) (f5 : ∀ a, a < 70 ∨ (72 < a ∧ a < 111) ∨ 113 < a → M5.1 a = M4.1 a) (m5 : M5.2 = M4.2) (g5 : ∀ a s, 70 ≤ a → a ≤ 72 → (s < 49 * G ∨ 49 * G + 49 ≤ s) → M5.1 a s = M4.1 a s) (ms : msG M5 G) (tm : tmI M5 G H W (fun s => M.1 70 (49 * G + s)) (fun s => M.1 71 (49 * G + s)) (fun s => M.1 72 (49 * G + s)) H 0)
    (e6 : M6 = m_setI (m_setI M5 67 G (nI W)) 68 G (nI H)) (e7 : lnI M6 M7 G 7 (nI H)) (e : M' = m_setI M7 65 38 0) : rR (t + 1) dy M' := by
  obtain ⟨l1, l2, l3, l4⟩ := e7
  have rows := ct_rows hg hG b1 b4 b6 hc
  have clw : ∀ i, i < H → (mL M G i).toNatClampNeg = W := fun i hi => by rw [rows i hi, nI_clamp (by omega)]
  have Hd : ∀ a, a < H → ∀ K, K ≤ 7 → M.1 67 G = nI K → a < K := fun a ha K hK eK => by have := nI_H b1 hK b4 eK; omega
  have m2 : M'.2 = M.2 := by rw [e, mI_2, l1, e6, mI_2, mI_2, m5, e4, mI_2, mI_2, c1]
  have fa : ∀ a i, ¬ (a = 65 ∧ (i = 38 ∨ i = 19)) → ¬ (a = 0 ∧ i = 11) → ¬ ((a = 67 ∨ a = 68) ∧ i = G) → (a < 69 ∨ (72 < a ∧ a < 111) ∨ 113 < a) → M'.1 a i = M3.1 a i := fun a i h1 h2 h3 h4 => by
    rw [e, mI_at, if_neg (by omega), l2 a (by omega), e6, mI_at, if_neg (by omega), mI_at, if_neg (by omega), f5 a (by omega), e4, mI_at, if_neg (by omega), mI_at, if_neg (by omega)]
  have fb : ∀ a i, ¬ (45 + 5 * G ≤ a ∧ a ≤ 48 + 5 * G) → ¬ (a = 1 ∧ i = 5) → M3.1 a i = M.1 a i := fun a i h1 h2 => by
    rw [c2 a (by omega) (by omega) (by omega) (by omega), mI_at, if_neg h2]
  have fo : ∀ a s, (s < 49 * G ∨ 49 * G + 49 ≤ s) → 70 ≤ a → a ≤ 72 → M'.1 a s = M.1 a s := fun a s h1 h2 h3 => by
    rw [e, mI_at, if_neg (by omega), l2 a (by omega), e6, mI_at, if_neg (by omega), mI_at, if_neg (by omega), g5 a s h2 h3 h1, e4, mI_at, if_neg (by omega), mI_at, if_neg (by omega), fb a s (by omega) (by omega)]
  have f7 : ∀ a s, 70 ≤ a → a ≤ 72 → M'.1 a s = M5.1 a s := fun a s h2 h3 => by
    rw [e, mI_at, if_neg (by omega), l2 a (by omega), e6, mI_at, if_neg (by omega), mI_at, if_neg (by omega)]
  have f69 : ∀ j, M'.1 69 j = M7.1 69 j := fun j => by rw [e, mI_at, if_neg (by omega)]
  have ml : ∀ i, i < 7 → mL M' G i = nI H := fun i hi => (f69 _).trans (l3 i hi)
  obtain ⟨⟨a1, a2⟩, ⟨H0, W0, z1, z2, z3, z4, z5, z6, z7, z8, z9⟩, z10, ⟨al, dl, d1, d2, d3, d4, d5, d6⟩⟩ := hg.2.2 G hG
  have eW : W0 = W := nI_H z2 b2 z6 b6
  have eH : H0 = H := nI_H z1 b1 z4 b4
  refine R_g hN hL hQ (rG_one (G := G) hg hG (fun a i h1 h2 => ?_) (by rw [m2]) (fun s hs => ?_) ⟨⟨?_, ?_⟩, ⟨W, H, b2, b1, ?_, ?_, ?_, ?_, fun i hi => ⟨?_, ?_, ?_, fun _ => ml i hi⟩, fun i j hi hj => ?_, fun i hi hj hw => ?_⟩, fun s hs => ?_, al, dl, ?_, ?_, ?_, ?_, d5, d6⟩) (fun a i h => ?_) (by rw [m2]) (by rw [m2]) ?_ ?_ ?_
  · unfold ownG at h2
    by_cases q : a = 69
    · subst q
      rw [f69, l4 i (by omega), e6, mI_at, if_neg (by omega), mI_at, if_neg (by omega), f5 _ (by omega), e4, mI_at, if_neg (by omega), mI_at, if_neg (by omega), fb _ _ (by omega) (by omega)]
    · by_cases q2 : 70 ≤ a ∧ a ≤ 72
      · exact fo a i (by omega) q2.1 q2.2
      · rw [fa a i (by omega) (by omega) (by omega) (by omega), fb _ _ (by omega) (by omega)]
  · rw [f7 _ _ (by omega) (by omega), f7 _ _ (by omega) (by omega), f7 _ _ (by omega) (by omega)]
    exact ms s hs
  · rw [fa _ _ (by omega) (by omega) (by omega) (by omega), fa _ _ (by omega) (by omega) (by omega) (by omega), c4 4 (by decide) (by decide), mI_ne _ _ _ (by omega), fb _ _ (by omega) (by omega)]
    exact a1
  · rw [fa _ _ (by omega) (by omega) (by omega) (by omega), fb _ _ (by omega) (by omega)]; exact a2
  · rw [fa _ _ (by omega) (by omega) (by omega) (by omega)]; exact c5
  · rw [e, mI_ne _ _ _ (by decide), l2 _ (by decide), e6, mI_ne _ _ _ (by decide), mI_at, if_pos ⟨rfl, rfl⟩]
  · rw [fa _ _ (by omega) (by omega) (by omega) (by omega)]; exact c6
  · rw [e, mI_ne _ _ _ (by decide), l2 _ (by decide), e6, mI_at, if_pos ⟨rfl, rfl⟩]
  · rw [fa _ _ (by omega) (by omega) (by omega) (by omega), c7 i hi, ml i hi]
  · rw [ml i hi]; exact Int32.le_trans (by decide) (nI_pos' (by omega))
  · rw [ml i hi]; exact Int32.le_refl _
  · have j7 : j < H := by rw [ml i (by omega), nI_clamp (by omega)] at hj; exact hj
    obtain ⟨a, ha, rfl⟩ : ∃ a, a < H ∧ j = H - 1 - a := ⟨H - 1 - j, by omega, by omega⟩
    rw [fa _ _ (by omega) (by omega) (by omega) (by omega), c3 a i ha hi]
    unfold mC tld
    rw [f7 _ _ (by omega) (by omega), f7 _ _ (by omega) (by omega), f7 _ _ (by omega) (by omega)]
    obtain ⟨t1, t2, t3⟩ := tm a i ha hi
    dsimp only at t1 t2 t3
    obtain ⟨v1, v2, v3⟩ := ca_vis (i := a) (j := i) hg hG hca (Hd a ha) (by rw [clw a ha]; exact hi) (by omega) (by omega)
    rw [t1, t2, t3, if_pos (Or.inl ha), v1]
    have x2 : ((a < H ∨ a = H ∧ i < 0) ∧ ¬ M.1 71 (49 * G + (a * 7 + i)) = 0 ∧ i + 1 < W) ↔ ca (a * 7 + i) / 32 % 2 = 1 := by
      constructor
      · intro q
        have : ¬ ca (a * 7 + i) / 32 % 2 = 0 := fun z => q.2.1 (v2.mpr z)
        omega
      · intro q
        have nz : ¬ M.1 71 (49 * G + (a * 7 + i)) = 0 := fun z => by have := v2.mp z; omega
        refine ⟨Or.inl ha, nz, ?_⟩
        by_cases qq : i + 1 < W
        · exact qq
        · exfalso
          have := z9 a (by omega) (by rw [clw a ha]; omega) (by omega)
          rw [eW, show W - 1 = i by omega] at this
          exact nz this
    have x3 : (1 ≤ a ∧ (a - 1 < H ∨ a - 1 = H ∧ i < 0) ∧ ¬ M.1 72 (49 * G + ((a - 1) * 7 + i)) = 0) ↔ tqX ca H 0 a i = 1 := by
      unfold tqX
      by_cases q : 1 ≤ a
      · obtain ⟨w1, w2, w3⟩ := ca_vis (i := a - 1) (j := i) hg hG hca (Hd (a - 1) (by omega)) (by rw [clw (a - 1) (by omega)]; exact hi) (by omega) (by omega)
        have lt := (hca ((a - 1) * 7 + i) (by omega)).2
        constructor
        · intro qq
          have : ¬ ca ((a - 1) * 7 + i) / 64 = 0 := fun z => qq.2.2 (w3.mpr z)
          rw [if_pos ⟨q, Or.inl (by omega), by omega⟩]
        · intro qq
          refine ⟨q, Or.inl (by omega), fun z => ?_⟩
          have := w3.mp z
          rw [if_neg (fun z2 => by have := z2.2.2; omega)] at qq
          cases qq
      · constructor
        · intro qq; exact absurd qq.1 q
        · intro qq
          rw [if_neg (fun z2 => q z2.1)] at qq
          cases qq
    have xl := tqX_lt ca H 0 a i
    have y3 : (if (if 1 ≤ a ∧ (a - 1 < H ∨ a - 1 = H ∧ i < 0) ∧ ¬ M.1 72 (49 * G + ((a - 1) * 7 + i)) = 0 then (1 : Int32) else 0) = 0 then (0 : Int32) else 32) = nI (32 * tqX ca H 0 a i) := by
      by_cases q : tqX ca H 0 a i = 1
      · rw [if_pos (x3.mpr q), q]; decide
      · have q0 : tqX ca H 0 a i = 0 := by omega
        rw [if_neg (fun z => q (x3.mp z)), q0]; decide
    have y2 : (if (if (a < H ∨ a = H ∧ i < 0) ∧ ¬ M.1 71 (49 * G + (a * 7 + i)) = 0 ∧ i + 1 < W then (1 : Int32) else 0) = 0 then (0 : Int32) else 64) = nI (if ca (a * 7 + i) / 32 % 2 = 1 then 64 else 0) := by
      by_cases q : ca (a * 7 + i) / 32 % 2 = 1
      · rw [if_pos (x2.mpr q), if_pos q]; decide
      · rw [if_neg (fun z => q (x2.mp z)), if_neg q]; decide
    rw [y2, y3, nI_add, nI_add]
    unfold tqT
    congr 1
    omega
  · rw [f7 _ _ (by omega) (by omega)]
    have := (tm 0 i (by omega) hi).2.2
    rw [if_neg (fun q => absurd q.1 (by decide))] at this
    exact this
  · rw [fa _ _ (by omega) (by omega) (by omega) (by omega)]; exact c8 s hs
  · rw [fa _ _ (by omega) (by omega) (by omega) (by omega), c4 7 (by decide) (by decide), mI_ne _ _ _ (by omega)]; exact d1
  · rw [fa _ _ (by omega) (by omega) (by omega) (by omega), fb _ _ (by omega) (by omega)]; exact d2
  · rw [fa _ _ (by omega) (by omega) (by omega) (by omega), c4 8 (by decide) (by decide), mI_ne _ _ _ (by omega)]; exact d3
  · rw [fa _ _ (by omega) (by omega) (by omega) (by omega), fb _ _ (by omega) (by omega)]; exact d4
  · rw [fa a i (by omega) (by omega) (by omega) (by omega), fb _ _ (by omega) (by omega)]
  · have x1 : M'.1 1 5 = 0 := by
      rw [fa _ _ (by omega) (by omega) (by omega) (by omega), c2 1 (by omega) (by omega) (by omega) (by omega)]
      rfl
    rw [x1, e, mI_at, if_neg (by omega), l2 _ (by omega), e6, mI_at, if_neg (by omega), mI_at, if_neg (by omega), f5 _ (by omega), e4, mI_at, if_pos ⟨rfl, rfl⟩]
  · rw [e, mI_at, if_neg (by omega), l2 _ (by omega), e6, mI_at, if_neg (by omega), mI_at, if_neg (by omega), f5 _ (by omega), e4, mI_at, if_neg (by omega), mI_at, if_pos ⟨rfl, rfl⟩]
  · rw [e, mI_at, if_pos ⟨rfl, rfl⟩]
theorem c_tref0 {g : Int32} (hg : ¬ gRow 4 g = true) (hq : Q (some (.int (-1))) (wm (sh0 ++ dy) M)) : sm_E L xs (d + 2) 130 [.ref 0, .int g] (wm (sh0 ++ dy) M) Q := by
  refine e_intro rfl rfl ?_
  refine x_opp rfl rfl ?_
  refine a_callS rfl rfl rfl rfl (c_isGridNumber ?_)
  refine a_ifF rfl rfl br_nez (by first | exact hg | exact nt_f hg | exact tnf hg | exact fnt hg | exact Int32.not_lt.mp hg | exact Int32.not_le.mp hg | exact Int32.not_lt.mpr hg | exact Int32.not_le.mpr hg) ?_
  refine x_kcg rfl ?_
  refine a_iret rfl rfl rfl ?_
  exact hq
theorem msG_z {M : mm_T} {G : Nat} (h : qZ M G 49) : msG M G := fun s hs => ⟨⟨0, by decide, (h s hs).1⟩, Or.inl (h s hs).2.1, Or.inl (h s hs).2.2⟩
set_option maxRecDepth 4000 in
theorem p_turn {g : Int32} (h : rR t dy M) : pr L xs t dy M 129 222 [.int g] := by
  have hR := h; obtain ⟨s, E, P, w, n, hG, hN, hL, hS, hQ⟩ := h; have z0 : (0 : Int32) = 0 := rfl; have z1 : (0 : Int32) ≤ 0 := (by decide); have z11 : ¬ (1 : Int32) = 0 := (by decide); have z12 : ¬ (1 : Int32) ≤ 0 := (by decide); obtain ⟨M1, hM1⟩ : ∃ M1, m_setI M 1 5 0 = M1 := ⟨_, rfl⟩; have g1 : rG M1 n := hM1 ▸ rG_c hG; obtain ⟨M2, hM2⟩ : ∃ M2, m_setI M1 65 19 0 = M2 := ⟨_, rfl⟩; have g2 : rG M2 n := hM2 ▸ rG_z g1
  unfold pr; refine e_intro rfl rfl ?_
  by_cases hg : gRow 4 g = true
  · obtain ⟨G, hG4, rfl⟩ := gRow4 hg
    have hgr := g1.2.1 G hG4
    have gs := gsh_at dy G hG4
    obtain ⟨sg, -⟩ := gsh_at dy G hG4
    by_cases hb : M1.1 66 G = 0 ∨ (¬ M1.1 66 G = 0 ∧ lkG M1 G = true)
    · have g3 : rG (m_setI (nFind M1 1 3 (nI 1)) 65 19 0) n := rG_z (rG_f g1)
      have hb3 : (m_setI (nFind M1 1 3 (nI 1)) 65 19 0).1 66 G = 0 ∨ (¬ (m_setI (nFind M1 1 3 (nI 1)) 65 19 0).1 66 G = 0 ∧ lkG (m_setI (nFind M1 1 3 (nI 1)) 65 19 0) G = true) := hb
      refine x_opp rfl rfl ?_
      refine m_getg (s_0 dy) rfl rfl rfl ?_
      refine a_callV (s_1 dy) rfl rfl rfl rfl (c_clear (s_1 dy) ?_)
      refine x_opp rfl rfl ?_
      refine x_opp rfl rfl ?_
      rw [hM1]
      refine a_callV (s_0 dy) rfl rfl rfl rfl (c_tref1 g1 hG4 hb ?_)
      refine x_opp rfl rfl ?_
      refine x_opp rfl rfl ?_
      refine a_ifF rfl rfl br_eq (by decide) ?_
      refine x_opp rfl rfl ?_
      refine a_iret rfl rfl rfl ?_
      refine ⟨_, dy, _, rfl, rfl, ?_⟩; refine e_intro rfl rfl ?_
      refine x_opp rfl rfl ?_
      refine x_kcg rfl ?_
      refine a_putJ 19 (s_65 dy) rfl rfl rfl rfl ?_
      refine x_opp rfl rfl ?_
      refine a_callS rfl rfl rfl rfl (k_isGrid ?_)
      refine a_ifT rfl rfl br_nez (by first | exact hg | exact nt_f hg | exact tnf hg | exact fnt hg | exact Int32.not_lt.mp hg | exact Int32.not_le.mp hg | exact Int32.not_lt.mpr hg | exact Int32.not_le.mpr hg) ?_
      refine x_opp rfl rfl ?_
      refine x_opp rfl rfl ?_
      refine a_callV (s_65 dy) rfl rfl rfl rfl (k_unfit1 g3 hG4 hb3 ?_)
      refine x_opp rfl rfl ?_
      refine x_opp rfl rfl ?_
      refine a_ifF rfl rfl br_ge (by decide) ?_
      refine x_opp rfl rfl ?_
      refine a_iret rfl rfl rfl ?_
      subst hM1
      exact ⟨rfl, _, rfl, R_fd (k := 1) (by decide) hR⟩
    · have th : ¬ M1.1 66 G = 0 := fun q => hb (Or.inl q)
      have lk : lkG M1 G = false := nt_f (fun q => hb (Or.inr ⟨th, q⟩))
      cases hc : ctG M1 G with
      | true =>
        have lk2 : lkG M2 G = false := by subst hM2; exact lk
        have hc2 : ctG M2 G = true := by subst hM2; exact hc
        have th2 : ¬ M2.1 66 G = 0 := by subst hM2; exact th
        refine x_opp rfl rfl ?_
        refine m_getg (s_0 dy) rfl rfl rfl ?_
        refine a_callV (s_1 dy) rfl rfl rfl rfl (c_clear (s_1 dy) ?_)
        refine x_opp rfl rfl ?_
        refine x_opp rfl rfl ?_
        rw [hM1]
        refine a_callV (s_0 dy) rfl rfl rfl rfl (c_tref2 g1 hG4 th lk hc ?_)
        refine x_opp rfl rfl ?_
        refine x_opp rfl rfl ?_
        refine a_ifF rfl rfl br_eq (by decide) ?_
        refine x_opp rfl rfl ?_
        refine a_iret rfl rfl rfl ?_
        refine ⟨_, dy, _, rfl, rfl, ?_⟩; refine e_intro rfl rfl ?_
        refine x_opp rfl rfl ?_
        refine x_kcg rfl ?_
        refine a_putJ 19 (s_65 dy) rfl rfl rfl rfl ?_
        refine x_opp rfl rfl ?_
        refine a_callS rfl rfl rfl rfl (k_isGrid ?_)
        rw [hM2]
        refine a_ifT rfl rfl br_nez (by first | exact hg | exact nt_f hg | exact tnf hg | exact fnt hg | exact Int32.not_lt.mp hg | exact Int32.not_le.mp hg | exact Int32.not_lt.mpr hg | exact Int32.not_le.mpr hg) ?_
        refine x_opp rfl rfl ?_
        refine x_opp rfl rfl ?_
        refine a_callV (s_65 dy) rfl rfl rfl rfl (k_unfit2 g2 hG4 th2 lk2 hc2 ?_)
        refine x_opp rfl rfl ?_
        refine x_opp rfl rfl ?_
        refine a_ifF rfl rfl br_ge (by decide) ?_
        refine x_opp rfl rfl ?_
        refine a_iret rfl rfl rfl ?_
        subst hM2; subst hM1; exact ⟨rfl, _, rfl, R_cl hR⟩
      | false =>
        obtain ⟨H, W, b1, b2, b3, b4, b5, b6, gk, mk, v1, v2, a1, a2⟩ := rG_v g1 hG4
        obtain ⟨ca, hca⟩ := rG_ca g1 hG4
        refine x_opp rfl rfl ?_
        refine m_getg (s_0 dy) rfl rfl rfl ?_
        refine a_callV (s_1 dy) rfl rfl rfl rfl (c_clear (s_1 dy) ?_)
        refine x_opp rfl rfl ?_
        refine x_opp rfl rfl ?_
        rw [hM1]
        refine a_callV (s_0 dy) rfl rfl rfl rfl (c_tref2 g1 hG4 th lk hc ?_)
        refine x_opp rfl rfl ?_
        refine x_opp rfl rfl ?_
        refine a_ifT rfl rfl br_eq (by decide) ?_
        refine x_opp rfl rfl ?_
        refine m_getg (s_0 dy) rfl rfl rfl ?_
        refine x_opp rfl rfl ?_
        refine a_gr hG4 rfl rfl hgr ?_
        refine a_callV sg rfl rfl rfl rfl (c_turn gs b3 b1 b5 b2 hca (fun M3 c1 c2 c3 c4 c5 c6 c7 c8 => ?_))
        refine x_opp rfl rfl ?_
        refine x_kcg rfl ?_
        refine a_putJ 11 (s_0 dy) rfl rfl rfl rfl ?_
        refine x_opp rfl rfl ?_
        refine m_getg (s_0 dy) rfl rfl rfl ?_
        refine x_opp rfl rfl ?_
        refine a_gr hG4 rfl rfl (by rw [show (m_setI M3 0 11 0).2.2 = M1.2.2 from congrArg Prod.snd c1]; exact hgr) ?_
        refine m_getg sg rfl rfl rfl ?_
        rw [show (m_setI M3 0 11 0).1 (45 + 5 * G) 5 = nI W from (by rw [mI_ne _ _ _ (by omega)]; exact c5)]
        refine a_iret rfl rfl rfl ?_
        refine ⟨_, dy, _, rfl, rfl, ?_⟩; refine e_intro rfl rfl ?_
        obtain ⟨M4, hM4⟩ : ∃ M4, m_setI (m_setI M3 0 11 0) 65 19 0 = M4 := ⟨_, rfl⟩
        have f4 : ∀ a i, 66 ≤ a → M4.1 a i = M1.1 a i := fun a i x => by
          rw [← hM4, mI_ne _ _ _ (by omega), mI_ne _ _ _ (by omega), c2 a (by omega) (by omega) (by omega) (by omega)]
        have fL : mL M4 G = mL M1 G := funext fun i => f4 69 _ (by decide)
        have ms4 : msOK M4 := fun s hs => by
          rw [f4 70 _ (by decide), f4 71 _ (by decide), f4 72 _ (by decide)]
          exact g1.1 s hs
        -- the reference's own view is as it was
        have un : ∀ Q', Q' (some (.int 0)) (wm (sh0 ++ dy) M4) → sm_E L xs 99 223 [.ref 65, .int (nI G)] (wm (sh0 ++ dy) M4) Q' := by
          intro Q' hq'
          have lk4 : anyB (gLack (mL M4 G)) H = false := by
            rw [fL]
            unfold lkG at lk
            rw [b4, nI_clamp (by omega)] at lk
            exact lk
          have ct4 : anyB (gCut (mL M4 G) (M4.1 68 G)) H = false := by
            rw [fL, f4 68 _ (by decide)]
            unfold ctG at hc
            rw [b4, nI_clamp (by omega)] at hc
            exact hc
          have th4 : ¬ M4.1 66 G = 0 := by rw [f4 66 _ (by decide)]; exact th
          have mk4 : mgOK M4 G := mgOK_fr (fun a i x _ => f4 a i x) mk
          refine e_intro rfl rfl ?_
          refine x_opp rfl rfl ?_
          refine m_getg (s_65 dy) rfl rfl rfl ?_
          refine x_opp rfl rfl ?_
          refine a_baldN (s_66 dy) (k := G) rfl rfl rfl (by omega) (by decide) ?_
          refine a_ifT rfl rfl br_ne (by first | exact th4 | exact nt_f th4 | exact tnf th4 | exact fnt th4 | exact Int32.not_lt.mp th4 | exact Int32.not_le.mp th4 | exact Int32.not_lt.mpr th4 | exact Int32.not_le.mpr th4) ?_
          refine x_kcg rfl ?_
          refine x_opp rfl rfl ?_
          refine x_kcg rfl ?_
          refine x_opp rfl rfl ?_
          refine x_kcg rfl ?_
          refine x_opp rfl rfl ?_
          refine x_go rfl ?_
          refine x_lvs [(0, .ref 65), (1, .int (nI G)), (2, .int 0), (3, .int 0), (4, .int (nI 0))] rfl rfl rfl ⟨rfl, rfl, rfl, rfl, rfl, trivial⟩ ?_
          refine l_unfit (d := 97) hG4 mk4 (by rw [f4 67 _ (by decide)]; exact b4) b1 ?_
          rw [lk4, ct4]
          refine x_opp rfl rfl ?_
          refine a_ifT rfl rfl br_eqz (by first | exact rfl | exact nt_f rfl | exact tnf rfl | exact fnt rfl | exact Int32.not_lt.mp rfl | exact Int32.not_le.mp rfl | exact Int32.not_lt.mpr rfl | exact Int32.not_le.mpr rfl) ?_
          refine x_opp rfl rfl ?_
          refine a_ifT rfl rfl br_eqz (by first | exact rfl | exact nt_f rfl | exact tnf rfl | exact fnt rfl | exact Int32.not_lt.mp rfl | exact Int32.not_le.mp rfl | exact Int32.not_lt.mpr rfl | exact Int32.not_le.mpr rfl) ?_
          refine x_kcg rfl ?_
          refine x_go rfl ?_
          refine a_iret rfl rfl rfl ?_
          exact hq'
        refine x_opp rfl rfl ?_
        refine x_kcg rfl ?_
        refine a_putJ 19 (s_65 dy) rfl rfl rfl rfl ?_
        refine x_opp rfl rfl ?_
        refine a_callS rfl rfl rfl rfl (k_isGrid ?_)
        rw [hM4]
        refine a_ifT rfl rfl br_nez (by first | exact hg | exact nt_f hg | exact tnf hg | exact fnt hg | exact Int32.not_lt.mp hg | exact Int32.not_le.mp hg | exact Int32.not_lt.mpr hg | exact Int32.not_le.mpr hg) ?_
        refine x_opp rfl rfl ?_
        refine x_opp rfl rfl ?_
        refine a_callV (s_65 dy) rfl rfl rfl rfl (un _ ?_)
        refine x_opp rfl rfl ?_
        refine x_opp rfl rfl ?_
        refine a_ifT rfl rfl br_ge (by decide) ?_
        refine x_opp rfl rfl ?_
        refine x_opp rfl rfl ?_
        refine a_callV (s_65 dy) rfl rfl rfl rfl (k_hold hG4 ms4 (fun M5 h5 p5 => ?_))
        refine x_opp rfl rfl ?_
        refine x_opp rfl rfl ?_
        refine a_callV (s_65 dy) rfl rfl rfl rfl (k_clear hG4 (fun M6 z6 q6 => ?_))
        refine x_opp rfl rfl ?_
        refine m_getg (s_65 dy) rfl rfl rfl ?_
        refine x_opp rfl rfl ?_
        have e67 : M6.1 67 G = nI H := by rw [q6.2.1 67 (by decide), p5.2 67 (by decide), f4 67 _ (by decide)]; exact b4
        have e68 : M6.1 68 G = nI W := by rw [q6.2.1 68 (by decide), p5.2 68 (by decide), f4 68 _ (by decide)]; exact b6
        refine a_ialdN (s_67 dy) (k := G) rfl rfl rfl (by omega) (by decide) ?_
        refine x_opp rfl rfl ?_
        refine x_opp rfl rfl ?_
        refine m_getg (s_65 dy) rfl rfl rfl ?_
        refine x_opp rfl rfl ?_
        rw [e67]
        refine a_ialdN (s_68 dy) (k := G) rfl rfl rfl (by omega) (by decide) ?_
        refine x_opp rfl rfl ?_
        refine x_kcg rfl ?_
        refine x_opp rfl rfl ?_
        refine x_go rfl ?_
        rw [e68]
        refine x_lvs [(0, .ref 65), (1, .int (nI G)), (3, .int (nI H)), (4, .int (nI W)), (5, .int (nI 0))] rfl rfl rfl ⟨rfl, rfl, rfl, rfl, rfl, trivial⟩ ?_
        refine l_tnM (hs := fun s => M1.1 70 (49 * G + s)) (hr := fun s => M1.1 71 (49 * G + s)) (hu := fun s => M1.1 72 (49 * G + s)) hG4 b1 b2 (fun s hs => ?_) (fun s hs => g1.1 (49 * G + s) (by omega)) (fun M7 q7 ms7 tm7 => ?_) (msG_z z6) (fun a b ha hb => ?_)
        · rw [q6.2.1 111 (by decide), q6.2.1 112 (by decide), q6.2.1 113 (by decide), (h5 s hs).1, (h5 s hs).2.1, (h5 s hs).2.2, f4 70 _ (by decide), f4 71 _ (by decide), f4 72 _ (by decide)]
          exact ⟨rfl, rfl, rfl⟩
        · refine x_opp rfl rfl ?_
          refine m_getg (s_65 dy) rfl rfl rfl ?_
          refine x_opp rfl rfl ?_
          refine x_opp rfl rfl ?_
          refine a_iastN (s_67 dy) (k := G) rfl rfl rfl (by omega) (by decide) ?_
          refine x_opp rfl rfl ?_
          refine m_getg (s_65 dy) rfl rfl rfl ?_
          refine x_opp rfl rfl ?_
          refine x_opp rfl rfl ?_
          refine a_iastN (s_68 dy) (k := G) rfl rfl rfl (by omega) (by decide) ?_
          refine x_kcg rfl ?_
          refine x_opp rfl rfl ?_
          refine x_go rfl ?_
          obtain ⟨M8, hM8⟩ : ∃ M8, m_setI (m_setI M7 67 G (nI W)) 68 G (nI H) = M8 := ⟨_, rfl⟩
          rw [hM8]
          refine x_lvs [(0, .ref 65), (1, .int (nI G)), (3, .int (nI H)), (4, .int (nI W)), (5, .int (nI 0))] rfl rfl rfl ⟨rfl, rfl, rfl, rfl, rfl, trivial⟩ ?_
          refine l_turnL hG4 (fun M9 h9 => ?_) M8 (lnI_0 M8 G (nI H))
          refine x_opp rfl rfl ?_
          refine a_callV (s_65 dy) rfl rfl rfl rfl (k_changed ?_)
          refine x_opp rfl rfl ?_
          refine a_iret rfl rfl rfl ?_
          refine ⟨rfl, _, rfl, ?_⟩
          subst hM1
          refine R_turn (M3 := M3) (M4 := M4) (M5 := M7) (M6 := M8) (M7 := M9) hN hL hQ hG hG4 b1 b2 b4 b6 hc th (fun s hs => by have := hca s hs; rw [mI_ne _ _ _ (by omega)] at this; exact this) c1 c2 c3 c4 c5 c6 c7 c8 hM4.symm (fun a ha => ?_) ?_ (fun a s x y z => ?_) ms7 tm7 hM8.symm h9 rfl
          · rw [q7.2.1 a (by omega), q6.2.1 a (by omega), p5.2 a (by omega)]
          · rw [q7.1, q6.1, p5.1]
          · rw [q7.2.2 a s z, q6.2.2 a s z, p5.2 a (by omega)]
        · have p : b * 7 + (H - 1 - a) < 49 := by omega
          obtain ⟨y1, y2, y3⟩ := z6 _ p
          refine ⟨?_, ?_, ?_⟩
          · rw [y1, if_neg (by omega)]
          · rw [y3, if_neg (fun q => absurd q.1 (by omega))]
          · rw [y2, if_neg (fun q => absurd q.2.1 (by omega))]
  · refine x_opp rfl rfl ?_
    refine m_getg (s_0 dy) rfl rfl rfl ?_
    refine a_callV (s_1 dy) rfl rfl rfl rfl (c_clear (s_1 dy) ?_)
    refine x_opp rfl rfl ?_
    refine x_opp rfl rfl ?_
    rw [hM1]
    refine a_callV (s_0 dy) rfl rfl rfl rfl (c_tref0 hg ?_)
    refine x_opp rfl rfl ?_
    refine x_opp rfl rfl ?_
    refine a_ifF rfl rfl br_eq (by decide) ?_
    refine x_opp rfl rfl ?_
    refine a_iret rfl rfl rfl ?_
    refine ⟨_, dy, _, rfl, rfl, ?_⟩; refine e_intro rfl rfl ?_
    refine x_opp rfl rfl ?_
    refine x_kcg rfl ?_
    refine a_putJ 19 (s_65 dy) rfl rfl rfl rfl ?_
    refine x_opp rfl rfl ?_
    refine a_callS rfl rfl rfl rfl (k_isGrid ?_)
    rw [hM2]
    refine a_ifF rfl rfl br_nez (by first | exact hg | exact nt_f hg | exact tnf hg | exact fnt hg | exact Int32.not_lt.mp hg | exact Int32.not_le.mp hg | exact Int32.not_lt.mpr hg | exact Int32.not_le.mpr hg) ?_
    refine x_kcg rfl ?_
    refine a_iret rfl rfl rfl ?_
    subst hM2; subst hM1; exact ⟨rfl, _, rfl, R_cl hR⟩
end TP
