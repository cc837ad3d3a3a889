/-! pairs: rows are moved: the reference, and both -/
theorem lo_dec : ∀ m, m < 8 → ¬ (100 : Int32) < nI m ∧ (-100 : Int32) ≤ nI m := by decide
theorem rowF_8 {r0 k : Nat} (h : r0 < 8) : rowF (nI r0) k = nI (r0 + k) := by rw [rowF_in (lo_dec r0 h).1 (lo_dec r0 h).2, nI_add]
section MQ
variable {L : Nat} {xs : Nat → Int32} {t d : Nat} {dy : List sh_T} {M B : mm_T} {Q : Option Value → sm_W → Prop} {n G T : Nat}
theorem rG_cmb {r s c e : Int32} {K w0 r0 s0 c0 d0 : Nat} (h : rG M n) (hG4 : G < 4) (hT4 : T < 4) (K7 : K ≤ 7) (w7 : w0 ≤ 7) (z : ∀ j, j < K → mvR M G T (r + nI j) c (s + nI j) e (nI w0) = 0) (er : 0 < K → (r = nI r0 ∧ s = nI s0 ∧ c = nI c0 ∧ e = nI d0) ∧ r0 < 8 ∧ s0 < 8 ∧ c0 < 8 ∧ d0 < 8) : ∀ k, k ≤ K → rG (cmb M G T r0 s0 c0 d0 w0 k) n
  | 0, _ => by rw [cmb_0 hT4]; exact h
  | k + 1, hk => by
    obtain ⟨⟨rfl, rfl, rfl, rfl⟩, r8, s8, c8, d8⟩ := er (by omega)
    have z0 := z k (by omega)
    rw [nI_add, nI_add] at z0
    obtain ⟨a, b, c1, d1, ea, eb, ec, ed, hHG, ha7, hHT, hb7, hc, hd, hl0⟩ := mv_facts h hG4 hT4 w7 z0
    obtain ⟨HG, WG, b1, b2, b3, b4, b5, b6, gk, mk, v1, v2, a1, a2⟩ := rG_v h hG4
    obtain ⟨H', W', b1', b2', b3', b4', b5', b6', gk', mk', v1', v2', a1', a2'⟩ := rG_v h hT4
    have lG7 := ln_cl (mgOK_7 mk a ha7).1 (mgOK_7 mk a ha7).2
    have lT7 := ln_cl (mgOK_7 mk' b hb7).1 (mgOK_7 mk' b hb7).2
    obtain rfl : r0 + k = a := (nI_eq (by omega) (by omega)).mp ea
    obtain rfl : s0 + k = b := (nI_eq (by omega) (by omega)).mp eb
    obtain rfl : c0 = c1 := (nI_eq (by omega) (by omega)).mp ec
    obtain rfl : d0 = d1 := (nI_eq (by omega) (by omega)).mp ed
    exact rG_row (rG_cmb h hG4 hT4 K7 w7 z er k (by omega)) hG4 hT4 b4 b1 b4' b1' b6' b2' (hHG HG b1 b4) (hHT H' b1' b4') hc hd
set_option maxRecDepth 4000 in
set_option maxHeartbeats 1000000 in
/-- the reference: K rows can be moved -/
theorem l_mvM {r s c e : Int32} {K h0 w0 r0 s0 c0 d0 : Nat} (h : rG M n) (hG4 : G < 4) (hT4 : T < 4) (gB : ∀ x i, 66 ≤ x → x ≤ 72 → B.1 x i = M.1 x i) (hK : K ≤ h0) (h7 : h0 ≤ 7) (w7 : w0 ≤ 7) (z : ∀ j, j < K → mvR M G T (r + nI j) c (s + nI j) e (nI w0) = 0) (er : 0 < K → (r = nI r0 ∧ s = nI s0 ∧ c = nI c0 ∧ e = nI d0) ∧ r0 < 8 ∧ s0 < 8 ∧ c0 < 8 ∧ d0 < 8)
    (hq : ∀ Mk, rInv M B G T r0 s0 c0 d0 w0 K Mk → sm_X L xs (d + 3) 216 6 (sm_code 216 6) (lvM 65 (nI G) r c (nI T) s e (nI h0) (nI w0) K) [] (wm (sh0 ++ dy) Mk) Q) : ∀ Mk, rInv M B G T r0 s0 c0 d0 w0 0 Mk → sm_X L xs (d + 3) 216 6 (sm_code 216 6) (lvM 65 (nI G) r c (nI T) s e (nI h0) (nI w0) 0) [] (wm (sh0 ++ dy) Mk) Q := by
  refine loop_dn (P := fun k => ∀ Mk, rInv M B G T r0 s0 c0 d0 w0 k Mk → sm_X L xs (d + 3) 216 6 (sm_code 216 6) (lvM 65 (nI G) r c (nI T) s e (nI h0) (nI w0) k) [] (wm (sh0 ++ dy) Mk) Q) K hq ?_
  intro k hk ih Mk ⟨i1, i2, i3, i4, i5, i6⟩
  have hr := rG_cmb h hG4 hT4 (by omega) w7 z er k (by omega)
  obtain ⟨⟨rfl, rfl, rfl, rfl⟩, r8, s8, c8, d8⟩ := er (by omega)
  have z0 := z k hk
  have z1 := z0
  rw [nI_add, nI_add] at z0
  obtain ⟨a, b, c1, d1, ea, eb, ec, ed, hHG, ha7, hHT, hb7, hc, hd, hl0⟩ := mv_facts h hG4 hT4 w7 z0
  obtain ⟨HG, WG, b1, b2, b3, b4, b5, b6, gk, mk, v1, v2, a1, a2⟩ := rG_v h hG4
  obtain ⟨H', W', b1', b2', b3', b4', b5', b6', gk', mk', v1', v2', a1', a2'⟩ := rG_v h hT4
  have lG7 := ln_cl (mgOK_7 mk a ha7).1 (mgOK_7 mk a ha7).2
  have lT7 := ln_cl (mgOK_7 mk' b hb7).1 (mgOK_7 mk' b hb7).2
  obtain rfl : r0 + k = a := (nI_eq (by omega) (by omega)).mp ea
  obtain rfl : s0 + k = b := (nI_eq (by omega) (by omega)).mp eb
  obtain rfl : c0 = c1 := (nI_eq (by omega) (by omega)).mp ec
  obtain rfl : d0 = d1 := (nI_eq (by omega) (by omega)).mp ed
  have fr : ∀ x i, 66 ≤ x → x ≤ 69 → Mk.1 x i = M.1 x i := fun x i p1 p2 => (i2 x i (by omega) (by omega) (by omega)).trans (gB x i p1 (by omega))
  have g : ¬ nI h0 ≤ nI k := nI_ge (by omega) (by omega)
  have f1 : rowF (nI r0) k = nI (r0 + k) := rowF_8 (by omega)
  have f2 : rowF (nI s0) k = nI (s0 + k) := rowF_8 (by omega)
  have mz : mvR Mk G T (nI (r0 + k)) (nI c0) (nI (s0 + k)) (nI d0) (nI w0) = 0 := by rw [mvR_fr fr]; exact z0
  have ms : msOK Mk := by
    have q := hr.1
    obtain ⟨x70, x71, x72⟩ := cmb_s (M := M) (G := G) (r0 := r0) (s0 := s0) (c0 := c0) (d0 := d0) (w0 := w0) (k := k) hT4
    unfold msOK at q ⊢
    rw [x70, x71, x72] at q
    rw [i4, i5, i6]
    exact q
  have mg := mgOK_fr (fun x i p1 p2 => fr x i p1 p2) mk
  have mg' := mgOK_fr (fun x i p1 p2 => fr x i p1 p2) mk'
  have e67 : Mk.1 67 T = nI H' := by rw [fr _ _ (by decide) (by decide)]; exact b4'
  have e68 : Mk.1 68 T = nI W' := by rw [fr _ _ (by decide) (by decide)]; exact b6'
  have fin : ∀ M', bgF Mk M' → (∀ x, M'.1 70 x = rfC (Mk.1 70) G T (r0 + k) c0 (s0 + k) d0 w0 x ∧ M'.1 71 x = (if 1 ≤ W' ∧ x = 49 * T + ((s0 + k) * 7 + (W' - 1)) then 0 else rfC (Mk.1 71) G T (r0 + k) c0 (s0 + k) d0 w0 x) ∧ M'.1 72 x = (if s0 + k + 1 = H' ∧ 49 * T + (s0 + k) * 7 ≤ x ∧ x < 49 * T + (s0 + k) * 7 + 7 then 0 else rfC (Mk.1 72) G T (r0 + k) c0 (s0 + k) d0 w0 x)) → rInv M B G T r0 s0 c0 d0 w0 (k + 1) (m_setI M' 65 61 (M'.1 65 61 + 1)) := by
    intro M' q1 q2
    have e1 : hT M T = H' := by unfold hT; rw [b4', nI_clamp (by omega)]
    have e2 : wT M T = W' := by unfold wT; rw [b6', nI_clamp (by omega)]
    refine ⟨q1.1.trans i1, fun x i p1 p2 p3 => ?_, ?_, ?_, ?_, ?_⟩
    · rw [mI_at, if_neg p3, q1.2 x (by omega)]; exact i2 x i p1 p2 p3
    · rw [mI_at, if_pos ⟨rfl, rfl⟩, q1.2 65 (by omega), i3]; exact nI_add k 1
    · funext x
      rw [mI_ne _ _ _ (by decide), (q2 x).1, i4]
      rfl
    · funext x
      rw [mI_ne _ _ _ (by decide), (q2 x).2.1, i5, ← e2]
      rfl
    · funext x
      rw [mI_ne _ _ _ (by decide), (q2 x).2.2, i6, ← e1]
      rfl
  refine x_opp rfl rfl ?_
  refine x_opp rfl rfl ?_
  refine a_icF rfl rfl br_ge (by first | exact g | exact nt_f g | exact tnf g | exact fnt g | exact Int32.not_lt.mp g | exact Int32.not_le.mp g | exact Int32.not_lt.mpr g | exact Int32.not_le.mpr g) ?_
  refine l_row ?_
  rw [f1, f2]
  iterate 9 (refine x_opp rfl rfl ?_)
  refine a_callV (s_65 dy) rfl rfl rfl rfl (k_bringWrong hG4 hT4 mg mg' ?_)
  rw [mz]
  refine x_opp rfl rfl ?_
  refine x_opp rfl rfl ?_
  refine a_ifT rfl rfl br_le (by decide) ?_
  iterate 8 (refine x_opp rfl rfl ?_)
  refine a_callV (s_65 dy) rfl rfl rfl rfl (k_bring hG4 hT4 ha7 (hHT H' b1' b4') b1' b2' (by omega) (by omega) e67 e68 ms (fun M' q1 q2 => ?_))
  refine x_opp rfl rfl ?_
  refine x_opp rfl rfl ?_
  refine m_getg (s_65 dy) rfl rfl rfl ?_
  refine x_kcg rfl ?_
  refine x_opp rfl rfl ?_
  refine a_putJ 61 (s_65 dy) rfl rfl rfl rfl ?_
  first | refine x_incg rfl rfl ?_ | refine x_opp rfl rfl ?_
  refine x_go rfl ?_
  refine x_lvs [(0, .ref 65), (1, .int (nI G)), (2, .int (nI r0)), (3, .int (nI c0)), (4, .int (nI T)), (5, .int (nI s0)), (6, .int (nI d0)), (7, .int (nI h0)), (8, .int (nI w0)), (9, .int (nI (k + 1)))] rfl rfl rfl ⟨rfl, rfl, rfl, rfl, rfl, rfl, rfl, rfl, rfl, rfl, trivial⟩ ?_
  exact ih _ (fin M' q1 q2)
theorem R_mv {M' : mm_T} {s : Nat × (Nat → Int32)} {E : Nat → lT} {P w : Nat → Nat} (hN : rN M t s) (hL : rL dy M E P w n) (hQ : rQ M) (hG : rG M' n)
    (fr : ∀ a i, (a = 0 ∧ i ≠ 11 ∧ i ≠ 13) ∨ (a = 1 ∧ i ≠ 5) ∨ a = 2 ∨ a = 4 ∨ a = 6 ∨ a = 44 ∨ (a = 65 ∧ i ≠ 19 ∧ i ≠ 38 ∧ i ≠ 61) ∨ (75 ≤ a ∧ a ≤ 83) ∨ a = 85 ∨ 114 ≤ a → M'.1 a i = M.1 a i) (f2 : M'.2 = M.2) (h5 : M'.1 1 5 = M'.1 65 19) (h3 : ∀ i, i < 6 → M'.1 3 i = M'.1 84 i) (h11 : M'.1 0 11 = 0) (h38 : M'.1 65 38 = 0) (h13 : M'.1 0 13 = M'.1 65 61) : rR (t + 1) dy M' := by
  refine ⟨s, E, P, w, n, hG, ?_, rL_fr hL (fun a i h => fr a i (by omega)) (fun a _ => by rw [f2]) (by rw [f2]), rS_0 h11 h38, ?_⟩
  · obtain ⟨⟨c1, c2, c3, c4⟩, ⟨m1, m2⟩, n3, n4, n5⟩ := hN
    refine ⟨⟨?_, ?_, ?_, fun i hi => ?_⟩, ⟨?_, fun i hi => ?_⟩, h5, h3, by omega⟩
    · rw [fr 1 _ (by omega)]; exact c1
    · rw [fr 1 _ (by omega)]; exact c2
    · rw [fr 1 _ (by omega)]; exact c3
    · rw [fr 2 _ (by omega)]; exact c4 i hi
    · rw [fr 65 _ (by omega)]; exact m1
    · rw [fr 85 _ (by omega)]; exact m2 i hi
  · obtain ⟨⟨k, m, q1, q2, q3, q4, q5, q6, q7⟩, ⟨q8, q9, q10, q11⟩, q12, q13⟩ := hQ
    refine ⟨⟨k, m, q1, q2, by rw [fr _ _ (by omega)]; exact q3, by rw [fr _ _ (by omega)]; exact q4, by rw [fr _ _ (by omega)]; exact q5, by rw [fr _ _ (by omega)]; exact q6, fun j e x y => by rw [f2]; exact q7 j e x y⟩, ⟨?_, ?_, ?_, ?_⟩, ?_, h13⟩
    · rw [fr _ _ (by omega), fr _ _ (by omega)]; exact q8
    · rw [fr _ _ (by omega), fr _ _ (by omega)]; exact q9
    · rw [fr _ _ (by omega), fr _ _ (by omega)]; exact q10
    · rw [fr _ _ (by omega), fr _ _ (by omega)]; exact q11
    · rw [fr _ _ (by omega), fr _ _ (by omega)]; exact q12
/-- the end, with or without a finding -/
theorem R_mve {Md Md' Mr M' : mm_T} {s : Nat × (Nat → Int32)} {E : Nat → lT} {P w : Nat → Nat} {r0 s0 c0 d0 w0 K : Nat} (hT4 : T < 4) (hN : rN M t s) (hL : rL dy M E P w n) (hQ : rQ M) (hc : rG (cmb (m_setI M 1 5 0) G T r0 s0 c0 d0 w0 K) n) (i : dInv (m_setI M 1 5 0) (m_setI (m_setI (m_setI M 1 5 0) 0 11 0) 0 13 0) G T r0 s0 c0 d0 w0 K Md) (j : rInv (m_setI M 1 5 0) (m_setI (m_setI (m_setI Md' 65 19 0) 65 38 0) 65 61 0) G T r0 s0 c0 d0 w0 K Mr)
    (e1 : ∀ a i, ¬ (a = 1 ∧ i = 5) → a ≠ 3 → Md'.1 a i = Md.1 a i) (e2 : Md'.2 = Md.2) (e3 : ∀ a i, ¬ (a = 65 ∧ i = 19) → a ≠ 84 → M'.1 a i = Mr.1 a i) (e4 : M'.2 = Mr.2) (h5 : M'.1 1 5 = M'.1 65 19) (h3 : ∀ i, i < 6 → M'.1 3 i = M'.1 84 i) : rR (t + 1) dy M' := by
  obtain ⟨i1, i2, i3, i4⟩ := i
  obtain ⟨j1, j2, j3, j4, j5, j6⟩ := j
  have f2 : M'.2 = M.2 := by rw [e4, j1]; exact (e2.trans i1)
  -- through the reference
  have fa : ∀ a i, ¬ (70 ≤ a ∧ a ≤ 72) → ¬ (111 ≤ a ∧ a ≤ 113) → ¬ (a = 65 ∧ (i = 61 ∨ i = 38 ∨ i = 19)) → a ≠ 84 → a ≠ 3 → ¬ (a = 1 ∧ i = 5) → M'.1 a i = Md.1 a i := fun a i p1 p2 p3 p4 p5 p6 => by
    rw [e3 a i (by omega) p4, j2 a i p1 p2 (by omega), mI_at, if_neg (by omega), mI_at, if_neg (by omega), mI_at, if_neg (by omega), e1 a i p6 p5]
  have fb : ∀ a i, a ≠ 46 + 5 * T → ¬ (a = 0 ∧ (i = 13 ∨ i = 11)) → ¬ (a = 1 ∧ i = 5) → Md.1 a i = M.1 a i := fun a i p1 p2 p3 => by
    rw [i2 a i p1 (by omega), mI_at, if_neg (by omega), mI_at, if_neg (by omega), mI_at, if_neg (by omega)]
  obtain ⟨x70, x71, x72⟩ := cmb_s (M := m_setI M 1 5 0) (G := G) (r0 := r0) (s0 := s0) (c0 := c0) (d0 := d0) (w0 := w0) (k := K) hT4
  refine R_mv hN hL hQ (rG_fr hc (Nat.le_refl n) (fun a i h => ?_) (by rw [f2]; rfl)) (fun a i h => ?_) f2 h5 h3 ?_ ?_ ?_
  · by_cases q0 : a = 46 + 5 * T
    · subst q0
      rw [fa _ _ (by omega) (by omega) (by omega) (by omega) (by omega) (by omega), i4, cmb_c]
    · by_cases q1 : a = 70
      · subst q1; rw [e3 _ _ (by omega) (by omega), j4, x70]
      · by_cases q2 : a = 71
        · subst q2; rw [e3 _ _ (by omega) (by omega), j5, x71]
        · by_cases q3 : a = 72
          · subst q3; rw [e3 _ _ (by omega) (by omega), j6, x72]
          · rw [cmb_o q0 q1 q2 q3, fa _ _ (by omega) (by omega) (by omega) (by omega) (by omega) (by omega), fb _ _ q0 (by omega) (by omega), mI_at, if_neg (by omega)]
  · rw [fa _ _ (by omega) (by omega) (by omega) (by omega) (by omega) (by omega), fb _ _ (by omega) (by omega) (by omega)]
  · rw [fa _ _ (by omega) (by omega) (by omega) (by omega) (by omega) (by omega), i2 _ _ (by omega) (by omega)]
    rfl
  · rw [e3 _ _ (by omega) (by omega), j2 _ _ (by omega) (by omega) (by omega)]
    rfl
  · rw [fa _ _ (by omega) (by omega) (by omega) (by omega) (by omega) (by omega), i3, e3 _ _ (by omega) (by omega), j3]
theorem in_7 {v : Int32} : inR v 0 7 = true ↔ ¬ v < 0 ∧ v ≤ 7 := by
  unfold inR
  by_cases h : v < 0
  · rw [if_pos h]
    exact ⟨fun q => absurd q (by decide), fun q => absurd h q.1⟩
  · rw [if_neg h]
    by_cases k : v ≤ 7
    · rw [if_neg (Int32.not_lt.mpr k)]
      exact ⟨fun _ => ⟨h, k⟩, fun _ => rfl⟩
    · rw [if_pos (Int32.not_le.mp k)]
      exact ⟨fun q => absurd q (by decide), fun q => absurd q.2 k⟩
set_option maxRecDepth 4000 in
set_option maxHeartbeats 1000000 in
theorem p_move {g r c to ss e hh ww : Int32} (h : rR t dy M) : pr L xs t dy M 124 216 [.int g, .int r, .int c, .int to, .int ss, .int e, .int hh, .int ww] := by
  have hR := h; obtain ⟨s, E, P, w, n, hG, hN, hL, hS, hQ⟩ := h; have z0 : (0 : Int32) = 0 := rfl; have z1 : (0 : Int32) ≤ 0 := (by decide); have z11 : ¬ (1 : Int32) = 0 := (by decide); have z12 : ¬ (1 : Int32) ≤ 0 := (by decide); obtain ⟨M1, hM1⟩ : ∃ M1, m_setI M 1 5 0 = M1 := ⟨_, rfl⟩; have g1 : rG M1 n := hM1 ▸ rG_c hG; obtain ⟨M2, hM2⟩ : ∃ M2, m_setI M1 65 19 0 = M2 := ⟨_, rfl⟩; have g2 : rG M2 n := hM2 ▸ rG_z g1
  unfold pr; refine e_intro rfl rfl ?_
  by_cases hg : gRow 4 g = true
  · by_cases ht : gRow 4 to = true
    · by_cases x1 : hh < 0
      · have n1 : ¬ inR hh 0 7 = true := fun q => (in_7.mp q).1 x1
        refine x_opp rfl rfl ?_
        refine m_getg (s_0 dy) rfl rfl rfl ?_
        refine a_callV (s_1 dy) rfl rfl rfl rfl (c_clear (s_1 dy) ?_)
        refine x_opp rfl rfl ?_
        refine a_callS rfl rfl rfl rfl (c_isGridNumber ?_)
        rw [hM1]
        refine a_ifF rfl rfl br_eqz (by first | exact hg | exact nt_f hg | exact tnf hg | exact fnt hg | exact Int32.not_lt.mp hg | exact Int32.not_le.mp hg | exact Int32.not_lt.mpr hg | exact Int32.not_le.mpr hg) ?_
        refine x_opp rfl rfl ?_
        refine a_callS rfl rfl rfl rfl (c_isGridNumber ?_)
        refine a_ifF rfl rfl br_eqz (by first | exact ht | exact nt_f ht | exact tnf ht | exact fnt ht | exact Int32.not_lt.mp ht | exact Int32.not_le.mp ht | exact Int32.not_lt.mpr ht | exact Int32.not_le.mpr ht) ?_
        refine x_opp rfl rfl ?_
        refine a_ifT rfl rfl br_lt (by first | exact x1 | exact nt_f x1 | exact tnf x1 | exact fnt x1 | exact Int32.not_lt.mp x1 | exact Int32.not_le.mp x1 | exact Int32.not_lt.mpr x1 | exact Int32.not_le.mpr x1) ?_
        refine x_kcg rfl ?_
        refine a_iret rfl rfl rfl ?_
        refine ⟨_, dy, _, rfl, rfl, ?_⟩; refine e_intro rfl rfl ?_
        refine x_opp rfl rfl ?_
        refine x_kcg rfl ?_
        refine a_putJ 19 (s_65 dy) rfl rfl rfl rfl ?_
        refine x_opp rfl rfl ?_
        refine a_callS rfl rfl rfl rfl (k_isGrid ?_)
        rw [hM2]
        refine a_ifF rfl rfl br_eqz (by first | exact hg | exact nt_f hg | exact tnf hg | exact fnt hg | exact Int32.not_lt.mp hg | exact Int32.not_le.mp hg | exact Int32.not_lt.mpr hg | exact Int32.not_le.mpr hg) ?_
        refine x_opp rfl rfl ?_
        refine a_callS rfl rfl rfl rfl (k_isGrid ?_)
        refine a_ifF rfl rfl br_eqz (by first | exact ht | exact nt_f ht | exact tnf ht | exact fnt ht | exact Int32.not_lt.mp ht | exact Int32.not_le.mp ht | exact Int32.not_lt.mpr ht | exact Int32.not_le.mpr ht) ?_
        refine x_opp rfl rfl ?_
        refine x_kcg rfl ?_
        refine x_kcg rfl ?_
        refine a_callS rfl rfl rfl rfl (k_in ?_)
        refine a_ifT rfl rfl br_eqz (by first | exact n1 | exact nt_f n1 | exact tnf n1 | exact fnt n1 | exact Int32.not_lt.mp n1 | exact Int32.not_le.mp n1 | exact Int32.not_lt.mpr n1 | exact Int32.not_le.mpr n1) ?_
        refine x_kcg rfl ?_
        refine a_iret rfl rfl rfl ?_
        subst hM2; subst hM1; exact ⟨rfl, _, rfl, R_cl hR⟩
      · by_cases x2 : hh ≤ 7
        · have n1 : inR hh 0 7 = true := in_7.mpr ⟨x1, x2⟩
          by_cases x3 : ww < 0
          · have n2 : ¬ inR ww 0 7 = true := fun q => (in_7.mp q).1 x3
            refine x_opp rfl rfl ?_
            refine m_getg (s_0 dy) rfl rfl rfl ?_
            refine a_callV (s_1 dy) rfl rfl rfl rfl (c_clear (s_1 dy) ?_)
            refine x_opp rfl rfl ?_
            refine a_callS rfl rfl rfl rfl (c_isGridNumber ?_)
            rw [hM1]
            refine a_ifF rfl rfl br_eqz (by first | exact hg | exact nt_f hg | exact tnf hg | exact fnt hg | exact Int32.not_lt.mp hg | exact Int32.not_le.mp hg | exact Int32.not_lt.mpr hg | exact Int32.not_le.mpr hg) ?_
            refine x_opp rfl rfl ?_
            refine a_callS rfl rfl rfl rfl (c_isGridNumber ?_)
            refine a_ifF rfl rfl br_eqz (by first | exact ht | exact nt_f ht | exact tnf ht | exact fnt ht | exact Int32.not_lt.mp ht | exact Int32.not_le.mp ht | exact Int32.not_lt.mpr ht | exact Int32.not_le.mpr ht) ?_
            refine x_opp rfl rfl ?_
            refine a_ifF rfl rfl br_lt (by first | exact x1 | exact nt_f x1 | exact tnf x1 | exact fnt x1 | exact Int32.not_lt.mp x1 | exact Int32.not_le.mp x1 | exact Int32.not_lt.mpr x1 | exact Int32.not_le.mpr x1) ?_
            refine x_opp rfl rfl ?_
            refine x_kcg rfl ?_
            refine a_icF rfl rfl br_gt (by first | exact x2 | exact nt_f x2 | exact tnf x2 | exact fnt x2 | exact Int32.not_lt.mp x2 | exact Int32.not_le.mp x2 | exact Int32.not_lt.mpr x2 | exact Int32.not_le.mpr x2) ?_
            refine x_opp rfl rfl ?_
            refine a_ifT rfl rfl br_lt (by first | exact x3 | exact nt_f x3 | exact tnf x3 | exact fnt x3 | exact Int32.not_lt.mp x3 | exact Int32.not_le.mp x3 | exact Int32.not_lt.mpr x3 | exact Int32.not_le.mpr x3) ?_
            refine x_kcg rfl ?_
            refine a_iret rfl rfl rfl ?_
            refine ⟨_, dy, _, rfl, rfl, ?_⟩; refine e_intro rfl rfl ?_
            refine x_opp rfl rfl ?_
            refine x_kcg rfl ?_
            refine a_putJ 19 (s_65 dy) rfl rfl rfl rfl ?_
            refine x_opp rfl rfl ?_
            refine a_callS rfl rfl rfl rfl (k_isGrid ?_)
            rw [hM2]
            refine a_ifF rfl rfl br_eqz (by first | exact hg | exact nt_f hg | exact tnf hg | exact fnt hg | exact Int32.not_lt.mp hg | exact Int32.not_le.mp hg | exact Int32.not_lt.mpr hg | exact Int32.not_le.mpr hg) ?_
            refine x_opp rfl rfl ?_
            refine a_callS rfl rfl rfl rfl (k_isGrid ?_)
            refine a_ifF rfl rfl br_eqz (by first | exact ht | exact nt_f ht | exact tnf ht | exact fnt ht | exact Int32.not_lt.mp ht | exact Int32.not_le.mp ht | exact Int32.not_lt.mpr ht | exact Int32.not_le.mpr ht) ?_
            refine x_opp rfl rfl ?_
            refine x_kcg rfl ?_
            refine x_kcg rfl ?_
            refine a_callS rfl rfl rfl rfl (k_in ?_)
            refine a_ifF rfl rfl br_eqz (by first | exact n1 | exact nt_f n1 | exact tnf n1 | exact fnt n1 | exact Int32.not_lt.mp n1 | exact Int32.not_le.mp n1 | exact Int32.not_lt.mpr n1 | exact Int32.not_le.mpr n1) ?_
            refine x_opp rfl rfl ?_
            refine x_kcg rfl ?_
            refine x_kcg rfl ?_
            refine a_callS rfl rfl rfl rfl (k_in ?_)
            refine a_ifF rfl rfl br_nez (by first | exact n2 | exact nt_f n2 | exact tnf n2 | exact fnt n2 | exact Int32.not_lt.mp n2 | exact Int32.not_le.mp n2 | exact Int32.not_lt.mpr n2 | exact Int32.not_le.mpr n2) ?_
            refine x_kcg rfl ?_
            refine a_iret rfl rfl rfl ?_
            subst hM2; subst hM1; exact ⟨rfl, _, rfl, R_cl hR⟩
          · by_cases x4 : ww ≤ 7
            · have n2 : inR ww 0 7 = true := in_7.mpr ⟨x3, x4⟩
              obtain ⟨G, hG4, rfl⟩ := gRow4 hg
              obtain ⟨T, hT4, rfl⟩ := gRow4 ht
              obtain ⟨h0, h7, rfl⟩ := nI_ofm (m := 7) x1 x2 (by decide)
              obtain ⟨w0, w7, rfl⟩ := nI_ofm (m := 7) x3 x4 (by decide)
              obtain ⟨K, hK, z, hend⟩ := first_ne (fun j => mvR M1 G T (r + nI j) c (ss + nI j) e (nI w0)) h0
              obtain ⟨HG, WG, b1, b2, b3, b4, b5, b6, gk, mk, v1, v2, a1, a2⟩ := rG_v g1 hG4
              obtain ⟨H', W', b1', b2', b3', b4', b5', b6', gk', mk', v1', v2', a1', a2'⟩ := rG_v g1 hT4
              obtain ⟨r0, s0, c0, d0, er⟩ : ∃ r0 s0 c0 d0, 0 < K → (r = nI r0 ∧ ss = nI s0 ∧ c = nI c0 ∧ e = nI d0) ∧ r0 < 8 ∧ s0 < 8 ∧ c0 < 8 ∧ d0 < 8 := by
                by_cases k0 : 0 < K
                · have z0 := z 0 k0
                  rw [show nI 0 = 0 from rfl, Int32.add_zero, Int32.add_zero] at z0
                  obtain ⟨a, b, c1, d1, ea, eb, ec, ed, hHG, ha7, hHT, hb7, hc, hd, hl0⟩ := mv_facts g1 hG4 hT4 w7 z0
                  have lG7 := ln_cl (mgOK_7 mk a ha7).1 (mgOK_7 mk a ha7).2
                  have lT7 := ln_cl (mgOK_7 mk' b hb7).1 (mgOK_7 mk' b hb7).2
                  exact ⟨a, b, c1, d1, fun _ => ⟨⟨ea, eb, ec, ed⟩, by omega, by omega, by omega, by omega⟩⟩
                · exact ⟨0, 0, 0, 0, fun q => absurd q k0⟩
              have hcm := rG_cmb g1 hG4 hT4 (by omega) w7 z er K (Nat.le_refl K)
              obtain ⟨B, hB⟩ : ∃ B, m_setI (m_setI M1 0 11 0) 0 13 0 = B := ⟨_, rfl⟩
              have gB : ∀ x i, x ≠ 1 → x ≠ 0 → B.1 x i = M1.1 x i := fun x i p1 p2 => by rw [← hB, mI_at, if_neg (by omega), mI_at, if_neg (by omega)]
              have rB : B.2 = M1.2 := by rw [← hB]; rfl
              have b15 : B.1 1 5 = 0 := by rw [← hB, ← hM1]; rfl
              have b3 : ∀ i, i < 6 → B.1 3 i = B.1 84 i := fun i hi => by
                rw [gB _ _ (by decide) (by decide), gB _ _ (by decide) (by decide), ← hM1]
                exact hN.2.2.2.1 i hi
              refine x_opp rfl rfl ?_
              refine m_getg (s_0 dy) rfl rfl rfl ?_
              refine a_callV (s_1 dy) rfl rfl rfl rfl (c_clear (s_1 dy) ?_)
              refine x_opp rfl rfl ?_
              refine a_callS rfl rfl rfl rfl (c_isGridNumber ?_)
              rw [hM1]
              refine a_ifF rfl rfl br_eqz (by first | exact hg | exact nt_f hg | exact tnf hg | exact fnt hg | exact Int32.not_lt.mp hg | exact Int32.not_le.mp hg | exact Int32.not_lt.mpr hg | exact Int32.not_le.mpr hg) ?_
              refine x_opp rfl rfl ?_
              refine a_callS rfl rfl rfl rfl (c_isGridNumber ?_)
              refine a_ifF rfl rfl br_eqz (by first | exact ht | exact nt_f ht | exact tnf ht | exact fnt ht | exact Int32.not_lt.mp ht | exact Int32.not_le.mp ht | exact Int32.not_lt.mpr ht | exact Int32.not_le.mpr ht) ?_
              refine x_opp rfl rfl ?_
              refine a_ifF rfl rfl br_lt (by first | exact x1 | exact nt_f x1 | exact tnf x1 | exact fnt x1 | exact Int32.not_lt.mp x1 | exact Int32.not_le.mp x1 | exact Int32.not_lt.mpr x1 | exact Int32.not_le.mpr x1) ?_
              refine x_opp rfl rfl ?_
              refine x_kcg rfl ?_
              refine a_icF rfl rfl br_gt (by first | exact x2 | exact nt_f x2 | exact tnf x2 | exact fnt x2 | exact Int32.not_lt.mp x2 | exact Int32.not_le.mp x2 | exact Int32.not_lt.mpr x2 | exact Int32.not_le.mpr x2) ?_
              refine x_opp rfl rfl ?_
              refine a_ifF rfl rfl br_lt (by first | exact x3 | exact nt_f x3 | exact tnf x3 | exact fnt x3 | exact Int32.not_lt.mp x3 | exact Int32.not_le.mp x3 | exact Int32.not_lt.mpr x3 | exact Int32.not_le.mpr x3) ?_
              refine x_opp rfl rfl ?_
              refine x_kcg rfl ?_
              refine a_icT rfl rfl br_le (by first | exact x4 | exact nt_f x4 | exact tnf x4 | exact fnt x4 | exact Int32.not_lt.mp x4 | exact Int32.not_le.mp x4 | exact Int32.not_lt.mpr x4 | exact Int32.not_le.mpr x4) ?_
              refine x_opp rfl rfl ?_
              refine x_kcg rfl ?_
              refine a_putJ 11 (s_0 dy) rfl rfl rfl rfl ?_
              refine x_opp rfl rfl ?_
              refine x_kcg rfl ?_
              refine a_putJ 13 (s_0 dy) rfl rfl rfl rfl ?_
              refine x_kcg rfl ?_
              refine x_opp rfl rfl ?_
              refine x_go rfl ?_
              rw [hB]
              refine x_lvs [(0, .ref 0), (1, .int (nI G)), (2, .int r), (3, .int c), (4, .int (nI T)), (5, .int ss), (6, .int e), (7, .int (nI h0)), (8, .int (nI w0)), (9, .int (nI 0))] rfl rfl rfl ⟨rfl, rfl, rfl, rfl, rfl, rfl, rfl, rfl, rfl, rfl, trivial⟩ ?_
              refine l_mvD g1 hG4 hT4 gB rB hK h7 w7 z er ?_ B ⟨rfl, fun _ _ _ _ => rfl, by rw [← hB]; rfl, funext fun i => gB _ i (by omega) (by omega)⟩
              intro Md hMd
              have hMd' := hMd
              obtain ⟨i1, i2, i3, i4⟩ := hMd'
              -- the reference's beginning
              have two : ∀ Md' : mm_T, (∀ a i, ¬ (a = 1 ∧ i = 5) → a ≠ 3 → Md'.1 a i = Md.1 a i) → (∀ x i, 66 ≤ x → x ≤ 72 → (m_setI (m_setI (m_setI Md' 65 19 0) 65 38 0) 65 61 0).1 x i = M1.1 x i) := fun Md' q x i p1 p2 => by
                rw [mI_at, if_neg (by omega), mI_at, if_neg (by omega), mI_at, if_neg (by omega), q x i (by omega) (by omega), i2 x i (by omega) (by omega), gB x i (by omega) (by omega)]
              by_cases hKh : K = h0
              · subst hKh
                have g : nI K ≤ nI K := Int32.le_refl _
                refine x_opp rfl rfl ?_
                refine x_opp rfl rfl ?_
                refine a_icT rfl rfl br_ge (by first | exact g | exact nt_f g | exact tnf g | exact fnt g | exact Int32.not_lt.mp g | exact Int32.not_le.mp g | exact Int32.not_lt.mpr g | exact Int32.not_le.mpr g) ?_
                refine x_opp rfl rfl ?_
                refine a_iret rfl rfl rfl ?_
                refine ⟨_, dy, _, rfl, rfl, ?_⟩; refine e_intro rfl rfl ?_
                have gB2 := two Md (fun _ _ _ _ => rfl)
                obtain ⟨B2, hB2⟩ : ∃ B2, m_setI (m_setI (m_setI Md 65 19 0) 65 38 0) 65 61 0 = B2 := ⟨_, rfl⟩
                rw [hB2] at gB2
                refine x_opp rfl rfl ?_
                refine x_kcg rfl ?_
                refine a_putJ 19 (s_65 dy) rfl rfl rfl rfl ?_
                refine x_opp rfl rfl ?_
                refine a_callS rfl rfl rfl rfl (k_isGrid ?_)
                refine a_ifF rfl rfl br_eqz (by first | exact hg | exact nt_f hg | exact tnf hg | exact fnt hg | exact Int32.not_lt.mp hg | exact Int32.not_le.mp hg | exact Int32.not_lt.mpr hg | exact Int32.not_le.mpr hg) ?_
                refine x_opp rfl rfl ?_
                refine a_callS rfl rfl rfl rfl (k_isGrid ?_)
                refine a_ifF rfl rfl br_eqz (by first | exact ht | exact nt_f ht | exact tnf ht | exact fnt ht | exact Int32.not_lt.mp ht | exact Int32.not_le.mp ht | exact Int32.not_lt.mpr ht | exact Int32.not_le.mpr ht) ?_
                refine x_opp rfl rfl ?_
                refine x_kcg rfl ?_
                refine x_kcg rfl ?_
                refine a_callS rfl rfl rfl rfl (k_in ?_)
                refine a_ifF rfl rfl br_eqz (by first | exact n1 | exact nt_f n1 | exact tnf n1 | exact fnt n1 | exact Int32.not_lt.mp n1 | exact Int32.not_le.mp n1 | exact Int32.not_lt.mpr n1 | exact Int32.not_le.mpr n1) ?_
                refine x_opp rfl rfl ?_
                refine x_kcg rfl ?_
                refine x_kcg rfl ?_
                refine a_callS rfl rfl rfl rfl (k_in ?_)
                refine a_ifT rfl rfl br_nez (by first | exact n2 | exact nt_f n2 | exact tnf n2 | exact fnt n2 | exact Int32.not_lt.mp n2 | exact Int32.not_le.mp n2 | exact Int32.not_lt.mpr n2 | exact Int32.not_le.mpr n2) ?_
                refine x_opp rfl rfl ?_
                refine a_callV (s_65 dy) rfl rfl rfl rfl (k_changed ?_)
                refine x_opp rfl rfl ?_
                refine x_kcg rfl ?_
                refine a_putJ 61 (s_65 dy) rfl rfl rfl rfl ?_
                refine x_kcg rfl ?_
                refine x_opp rfl rfl ?_
                refine x_go rfl ?_
                rw [hB2]
                refine x_lvs [(0, .ref 65), (1, .int (nI G)), (2, .int r), (3, .int c), (4, .int (nI T)), (5, .int ss), (6, .int e), (7, .int (nI K)), (8, .int (nI w0)), (9, .int (nI 0))] rfl rfl rfl ⟨rfl, rfl, rfl, rfl, rfl, rfl, rfl, rfl, rfl, rfl, trivial⟩ ?_
                refine l_mvM g1 hG4 hT4 gB2 hK h7 w7 z er ?_ B2 ⟨rfl, fun _ _ _ _ _ => rfl, by rw [← hB2]; rfl, funext fun i => gB2 _ i (by omega) (by omega), funext fun i => gB2 _ i (by omega) (by omega), funext fun i => gB2 _ i (by omega) (by omega)⟩
                intro Mr hMr
                refine x_opp rfl rfl ?_
                refine x_opp rfl rfl ?_
                refine a_icT rfl rfl br_ge (by first | exact g | exact nt_f g | exact tnf g | exact fnt g | exact Int32.not_lt.mp g | exact Int32.not_le.mp g | exact Int32.not_lt.mpr g | exact Int32.not_le.mpr g) ?_
                refine x_opp rfl rfl ?_
                refine a_iret rfl rfl rfl ?_
                refine ⟨rfl, _, rfl, ?_⟩
                have j2 := hMr.2.1
                subst hB2
                have h5 : Mr.1 1 5 = Mr.1 65 19 := by
                  rw [j2 _ _ (by omega) (by omega) (by omega), j2 _ _ (by omega) (by omega) (by omega)]
                  exact (i2 1 5 (by omega) (by omega)).trans b15
                have h3 : ∀ i, i < 6 → Mr.1 3 i = Mr.1 84 i := fun i hi => by
                  rw [j2 _ _ (by omega) (by omega) (by omega), j2 _ _ (by omega) (by omega) (by omega)]
                  exact (i2 3 i (by omega) (by omega)).trans ((b3 i hi).trans (i2 84 i (by omega) (by omega)).symm)
                subst hB
                subst hM1
                exact R_mve hT4 hN hL hQ hcm hMd hMr (fun _ _ _ _ => rfl) rfl (fun _ _ _ _ => rfl) rfl h5 h3
              · have hne := hend.resolve_left hKh
                obtain ⟨k, hk, ek⟩ := (mvR_12 (M := M1) (G := G) (T := T) (r + nI K) c (ss + nI K) e (nI w0)).resolve_left hne
                have k6 : k < 6 := by omega
                have nk : ¬ nI k = 0 := fun q => hne (ek.trans q)
                have nk2 : ¬ nI k ≤ 0 := nI_nle (by omega) (by omega)
                have g : ¬ nI h0 ≤ nI K := nI_ge (by omega) (by omega)
                have fr : ∀ x i, x ≠ 46 + 5 * T → x ≠ 0 → x ≠ 1 → Md.1 x i = M1.1 x i := fun x i p1 p2 p3 => (i2 x i p1 (by omega)).trans (gB x i p3 p2)
                have hrG : Md.2.2 7 G = some (45 + 5 * G) := by rw [i1, rB]; exact g1.2.1 G hG4
                have hrT : Md.2.2 7 T = some (45 + 5 * T) := by rw [i1, rB]; exact g1.2.1 T hT4
                obtain ⟨sg, -⟩ := gsh_at dy G hG4
                obtain ⟨sg', -⟩ := gsh_at dy T hT4
                have mz : mvR Md G T (r + nI K) c (ss + nI K) e (nI w0) = nI k := by rw [mvR_fr (fun x i p1 p2 => fr x i (by omega) (by omega) (by omega))]; exact ek
                have vG := vw_fr g1 hG4 i2 gB hT4
                have vT := vw_fr g1 hT4 i2 gB hT4
                refine x_opp rfl rfl ?_
                refine x_opp rfl rfl ?_
                refine a_icF rfl rfl br_ge (by first | exact g | exact nt_f g | exact tnf g | exact fnt g | exact Int32.not_lt.mp g | exact Int32.not_le.mp g | exact Int32.not_lt.mpr g | exact Int32.not_le.mpr g) ?_
                refine x_opp rfl rfl ?_
                refine m_getg (s_0 dy) rfl rfl rfl ?_
                refine x_opp rfl rfl ?_
                refine a_gr hG4 rfl rfl hrG ?_
                iterate 5 (refine x_opp rfl rfl ?_)
                refine m_getg (s_0 dy) rfl rfl rfl ?_
                refine x_opp rfl rfl ?_
                refine a_gr hT4 rfl rfl hrT ?_
                iterate 5 (refine x_opp rfl rfl ?_)
                refine a_callS rfl rfl rfl rfl (c_mref vG vT hG4 hT4 ?_)
                rw [mz]
                refine x_opp rfl rfl ?_
                refine x_opp rfl rfl ?_
                refine a_ifF rfl rfl br_eq (by first | exact nk | exact nt_f nk | exact tnf nk | exact fnt nk | exact Int32.not_lt.mp nk | exact Int32.not_le.mp nk | exact Int32.not_lt.mpr nk | exact Int32.not_le.mpr nk) ?_
                refine x_opp rfl rfl ?_
                refine m_getg (s_0 dy) rfl rfl rfl ?_
                refine x_opp rfl rfl ?_
                refine a_callV (s_1 dy) rfl rfl rfl rfl (c_find (s_1 dy) (s_3 dy) (by decide) (vp_in_nI k6 (by decide)) ?_)
                refine a_iret rfl rfl rfl ?_
                have fN : ∀ a i, ¬ (a = 1 ∧ i = 5) → a ≠ 3 → (nFind Md 1 3 (nI k)).1 a i = Md.1 a i := fun a i p1 p2 => by
                  unfold nFind
                  rw [mI_at, if_neg (by omega), mI_at, if_neg (by omega)]
                have fN3 : ∀ i, (nFind Md 1 3 (nI k)).1 3 i = if i = k then Md.1 3 k + 1 else Md.1 3 i := fun i => by
                  unfold nFind
                  rw [nI_clamp (by omega), mI_at]
                  by_cases q : i = k
                  · rw [if_pos ⟨rfl, q⟩, if_pos q]
                  · rw [if_neg (fun z => q z.2), if_neg q, mI_at, if_neg (by omega)]
                have fN1 : (nFind Md 1 3 (nI k)).1 1 5 = nI k := by
                  unfold nFind
                  rw [mI_at, if_neg (by omega), mI_at, if_pos ⟨rfl, rfl⟩]
                have fN2 : (nFind Md 1 3 (nI k)).2 = Md.2 := rfl
                obtain ⟨Md2, hMd2⟩ : ∃ Md2, nFind Md 1 3 (nI k) = Md2 := ⟨_, rfl⟩
                rw [hMd2] at fN fN3 fN1 fN2 ⊢
                refine ⟨_, dy, _, rfl, rfl, ?_⟩; refine e_intro rfl rfl ?_
                have gB2 := two Md2 fN
                obtain ⟨B2, hB2⟩ : ∃ B2, m_setI (m_setI (m_setI Md2 65 19 0) 65 38 0) 65 61 0 = B2 := ⟨_, rfl⟩
                rw [hB2] at gB2
                refine x_opp rfl rfl ?_
                refine x_kcg rfl ?_
                refine a_putJ 19 (s_65 dy) rfl rfl rfl rfl ?_
                refine x_opp rfl rfl ?_
                refine a_callS rfl rfl rfl rfl (k_isGrid ?_)
                refine a_ifF rfl rfl br_eqz (by first | exact hg | exact nt_f hg | exact tnf hg | exact fnt hg | exact Int32.not_lt.mp hg | exact Int32.not_le.mp hg | exact Int32.not_lt.mpr hg | exact Int32.not_le.mpr hg) ?_
                refine x_opp rfl rfl ?_
                refine a_callS rfl rfl rfl rfl (k_isGrid ?_)
                refine a_ifF rfl rfl br_eqz (by first | exact ht | exact nt_f ht | exact tnf ht | exact fnt ht | exact Int32.not_lt.mp ht | exact Int32.not_le.mp ht | exact Int32.not_lt.mpr ht | exact Int32.not_le.mpr ht) ?_
                refine x_opp rfl rfl ?_
                refine x_kcg rfl ?_
                refine x_kcg rfl ?_
                refine a_callS rfl rfl rfl rfl (k_in ?_)
                refine a_ifF rfl rfl br_eqz (by first | exact n1 | exact nt_f n1 | exact tnf n1 | exact fnt n1 | exact Int32.not_lt.mp n1 | exact Int32.not_le.mp n1 | exact Int32.not_lt.mpr n1 | exact Int32.not_le.mpr n1) ?_
                refine x_opp rfl rfl ?_
                refine x_kcg rfl ?_
                refine x_kcg rfl ?_
                refine a_callS rfl rfl rfl rfl (k_in ?_)
                refine a_ifT rfl rfl br_nez (by first | exact n2 | exact nt_f n2 | exact tnf n2 | exact fnt n2 | exact Int32.not_lt.mp n2 | exact Int32.not_le.mp n2 | exact Int32.not_lt.mpr n2 | exact Int32.not_le.mpr n2) ?_
                refine x_opp rfl rfl ?_
                refine a_callV (s_65 dy) rfl rfl rfl rfl (k_changed ?_)
                refine x_opp rfl rfl ?_
                refine x_kcg rfl ?_
                refine a_putJ 61 (s_65 dy) rfl rfl rfl rfl ?_
                refine x_kcg rfl ?_
                refine x_opp rfl rfl ?_
                refine x_go rfl ?_
                rw [hB2]
                refine x_lvs [(0, .ref 65), (1, .int (nI G)), (2, .int r), (3, .int c), (4, .int (nI T)), (5, .int ss), (6, .int e), (7, .int (nI h0)), (8, .int (nI w0)), (9, .int (nI 0))] rfl rfl rfl ⟨rfl, rfl, rfl, rfl, rfl, rfl, rfl, rfl, rfl, rfl, trivial⟩ ?_
                refine l_mvM g1 hG4 hT4 gB2 hK h7 w7 z er ?_ B2 ⟨rfl, fun _ _ _ _ _ => rfl, by rw [← hB2]; rfl, funext fun i => gB2 _ i (by omega) (by omega), funext fun i => gB2 _ i (by omega) (by omega), funext fun i => gB2 _ i (by omega) (by omega)⟩
                intro Mr hMr
                have j2 := hMr.2.1
                have fr2 : ∀ x i, 66 ≤ x → x ≤ 69 → Mr.1 x i = M1.1 x i := fun x i p1 p2 => (j2 x i (by omega) (by omega) (by omega)).trans (gB2 x i p1 (by omega))
                have mz2 : mvR Mr G T (rowF r K) c (rowF ss K) e (nI w0) = nI k := by rw [mvR_fr fr2, mv_row (by omega) b4 b1 b4' b1']; exact ek
                have mg := mgOK_fr (fun x i p1 p2 => fr2 x i p1 p2) mk
                have mg' := mgOK_fr (fun x i p1 p2 => fr2 x i p1 p2) mk'
                refine x_opp rfl rfl ?_
                refine x_opp rfl rfl ?_
                refine a_icF rfl rfl br_ge (by first | exact g | exact nt_f g | exact tnf g | exact fnt g | exact Int32.not_lt.mp g | exact Int32.not_le.mp g | exact Int32.not_lt.mpr g | exact Int32.not_le.mpr g) ?_
                refine l_row ?_
                iterate 9 (refine x_opp rfl rfl ?_)
                refine a_callV (s_65 dy) rfl rfl rfl rfl (k_bringWrong hG4 hT4 mg mg' ?_)
                rw [mz2]
                refine x_opp rfl rfl ?_
                refine x_opp rfl rfl ?_
                refine a_ifF rfl rfl br_le (by first | exact nk2 | exact nt_f nk2 | exact tnf nk2 | exact fnt nk2 | exact Int32.not_lt.mp nk2 | exact Int32.not_le.mp nk2 | exact Int32.not_lt.mpr nk2 | exact Int32.not_le.mpr nk2) ?_
                refine x_opp rfl rfl ?_
                refine x_opp rfl rfl ?_
                refine a_callV (s_65 dy) rfl rfl rfl rfl (k_met (vp_in_nI k6 (by decide)) ?_)
                refine a_iret rfl rfl rfl ?_
                refine ⟨rfl, _, rfl, ?_⟩
                subst hB2
                have fM : ∀ a i, ¬ (a = 65 ∧ i = 19) → a ≠ 84 → (mMet Mr (nI k)).1 a i = Mr.1 a i := fun a i p1 p2 => by
                  unfold mMet
                  rw [mI_at, if_neg (by omega), mI_at, if_neg (by omega)]
                have fM3 : ∀ i, (mMet Mr (nI k)).1 84 i = if i = k then Mr.1 84 k + 1 else Mr.1 84 i := fun i => by
                  unfold mMet
                  rw [nI_clamp (by omega), mI_at]
                  by_cases q : i = k
                  · rw [if_pos ⟨rfl, q⟩, if_pos q]
                  · rw [if_neg (fun z => q z.2), if_neg q, mI_at, if_neg (by omega)]
                have fM1 : (mMet Mr (nI k)).1 65 19 = nI k := by
                  unfold mMet
                  rw [mI_at, if_neg (by omega), mI_at, if_pos ⟨rfl, rfl⟩]
                have r84 : ∀ i, Mr.1 84 i = B.1 84 i := fun i => by
                  rw [j2 _ _ (by omega) (by omega) (by omega)]
                  exact (fN 84 i (by omega) (by omega)).trans (i2 84 i (by omega) (by omega))
                have h5 : (mMet Mr (nI k)).1 1 5 = (mMet Mr (nI k)).1 65 19 := by
                  rw [fM1, fM _ _ (by omega) (by omega), j2 _ _ (by omega) (by omega) (by omega)]
                  exact fN1
                have h3 : ∀ i, i < 6 → (mMet Mr (nI k)).1 3 i = (mMet Mr (nI k)).1 84 i := fun i hi => by
                  have r3 : Mr.1 3 i = Md2.1 3 i := j2 _ _ (by omega) (by omega) (by omega)
                  rw [fM3, fM _ _ (by omega) (by omega), r3, fN3 i, r84, r84, i2 3 k (by omega) (by omega), i2 3 i (by omega) (by omega), b3 k k6, b3 i hi]
                subst hB
                subst hM1
                exact R_mve hT4 hN hL hQ hcm hMd hMr fN fN2 fM rfl h5 h3
            · have n2 : ¬ inR ww 0 7 = true := fun q => x4 (in_7.mp q).2
              refine x_opp rfl rfl ?_
              refine m_getg (s_0 dy) rfl rfl rfl ?_
              refine a_callV (s_1 dy) rfl rfl rfl rfl (c_clear (s_1 dy) ?_)
              refine x_opp rfl rfl ?_
              refine a_callS rfl rfl rfl rfl (c_isGridNumber ?_)
              rw [hM1]
              refine a_ifF rfl rfl br_eqz (by first | exact hg | exact nt_f hg | exact tnf hg | exact fnt hg | exact Int32.not_lt.mp hg | exact Int32.not_le.mp hg | exact Int32.not_lt.mpr hg | exact Int32.not_le.mpr hg) ?_
              refine x_opp rfl rfl ?_
              refine a_callS rfl rfl rfl rfl (c_isGridNumber ?_)
              refine a_ifF rfl rfl br_eqz (by first | exact ht | exact nt_f ht | exact tnf ht | exact fnt ht | exact Int32.not_lt.mp ht | exact Int32.not_le.mp ht | exact Int32.not_lt.mpr ht | exact Int32.not_le.mpr ht) ?_
              refine x_opp rfl rfl ?_
              refine a_ifF rfl rfl br_lt (by first | exact x1 | exact nt_f x1 | exact tnf x1 | exact fnt x1 | exact Int32.not_lt.mp x1 | exact Int32.not_le.mp x1 | exact Int32.not_lt.mpr x1 | exact Int32.not_le.mpr x1) ?_
              refine x_opp rfl rfl ?_
              refine x_kcg rfl ?_
              refine a_icF rfl rfl br_gt (by first | exact x2 | exact nt_f x2 | exact tnf x2 | exact fnt x2 | exact Int32.not_lt.mp x2 | exact Int32.not_le.mp x2 | exact Int32.not_lt.mpr x2 | exact Int32.not_le.mpr x2) ?_
              refine x_opp rfl rfl ?_
              refine a_ifF rfl rfl br_lt (by first | exact x3 | exact nt_f x3 | exact tnf x3 | exact fnt x3 | exact Int32.not_lt.mp x3 | exact Int32.not_le.mp x3 | exact Int32.not_lt.mpr x3 | exact Int32.not_le.mpr x3) ?_
              refine x_opp rfl rfl ?_
              refine x_kcg rfl ?_
              refine a_icF rfl rfl br_le (by first | exact x4 | exact nt_f x4 | exact tnf x4 | exact fnt x4 | exact Int32.not_lt.mp x4 | exact Int32.not_le.mp x4 | exact Int32.not_lt.mpr x4 | exact Int32.not_le.mpr x4) ?_
              refine x_kcg rfl ?_
              refine a_iret rfl rfl rfl ?_
              refine ⟨_, dy, _, rfl, rfl, ?_⟩; refine e_intro rfl rfl ?_
              refine x_opp rfl rfl ?_
              refine x_kcg rfl ?_
              refine a_putJ 19 (s_65 dy) rfl rfl rfl rfl ?_
              refine x_opp rfl rfl ?_
              refine a_callS rfl rfl rfl rfl (k_isGrid ?_)
              rw [hM2]
              refine a_ifF rfl rfl br_eqz (by first | exact hg | exact nt_f hg | exact tnf hg | exact fnt hg | exact Int32.not_lt.mp hg | exact Int32.not_le.mp hg | exact Int32.not_lt.mpr hg | exact Int32.not_le.mpr hg) ?_
              refine x_opp rfl rfl ?_
              refine a_callS rfl rfl rfl rfl (k_isGrid ?_)
              refine a_ifF rfl rfl br_eqz (by first | exact ht | exact nt_f ht | exact tnf ht | exact fnt ht | exact Int32.not_lt.mp ht | exact Int32.not_le.mp ht | exact Int32.not_lt.mpr ht | exact Int32.not_le.mpr ht) ?_
              refine x_opp rfl rfl ?_
              refine x_kcg rfl ?_
              refine x_kcg rfl ?_
              refine a_callS rfl rfl rfl rfl (k_in ?_)
              refine a_ifF rfl rfl br_eqz (by first | exact n1 | exact nt_f n1 | exact tnf n1 | exact fnt n1 | exact Int32.not_lt.mp n1 | exact Int32.not_le.mp n1 | exact Int32.not_lt.mpr n1 | exact Int32.not_le.mpr n1) ?_
              refine x_opp rfl rfl ?_
              refine x_kcg rfl ?_
              refine x_kcg rfl ?_
              refine a_callS rfl rfl rfl rfl (k_in ?_)
              refine a_ifF rfl rfl br_nez (by first | exact n2 | exact nt_f n2 | exact tnf n2 | exact fnt n2 | exact Int32.not_lt.mp n2 | exact Int32.not_le.mp n2 | exact Int32.not_lt.mpr n2 | exact Int32.not_le.mpr n2) ?_
              refine x_kcg rfl ?_
              refine a_iret rfl rfl rfl ?_
              subst hM2; subst hM1; exact ⟨rfl, _, rfl, R_cl hR⟩
        · have n1 : ¬ inR hh 0 7 = true := fun q => x2 (in_7.mp q).2
          refine x_opp rfl rfl ?_
          refine m_getg (s_0 dy) rfl rfl rfl ?_
          refine a_callV (s_1 dy) rfl rfl rfl rfl (c_clear (s_1 dy) ?_)
          refine x_opp rfl rfl ?_
          refine a_callS rfl rfl rfl rfl (c_isGridNumber ?_)
          rw [hM1]
          refine a_ifF rfl rfl br_eqz (by first | exact hg | exact nt_f hg | exact tnf hg | exact fnt hg | exact Int32.not_lt.mp hg | exact Int32.not_le.mp hg | exact Int32.not_lt.mpr hg | exact Int32.not_le.mpr hg) ?_
          refine x_opp rfl rfl ?_
          refine a_callS rfl rfl rfl rfl (c_isGridNumber ?_)
          refine a_ifF rfl rfl br_eqz (by first | exact ht | exact nt_f ht | exact tnf ht | exact fnt ht | exact Int32.not_lt.mp ht | exact Int32.not_le.mp ht | exact Int32.not_lt.mpr ht | exact Int32.not_le.mpr ht) ?_
          refine x_opp rfl rfl ?_
          refine a_ifF rfl rfl br_lt (by first | exact x1 | exact nt_f x1 | exact tnf x1 | exact fnt x1 | exact Int32.not_lt.mp x1 | exact Int32.not_le.mp x1 | exact Int32.not_lt.mpr x1 | exact Int32.not_le.mpr x1) ?_
          refine x_opp rfl rfl ?_
          refine x_kcg rfl ?_
          refine a_icT rfl rfl br_gt (by first | exact x2 | exact nt_f x2 | exact tnf x2 | exact fnt x2 | exact Int32.not_lt.mp x2 | exact Int32.not_le.mp x2 | exact Int32.not_lt.mpr x2 | exact Int32.not_le.mpr x2) ?_
          refine x_kcg rfl ?_
          refine a_iret rfl rfl rfl ?_
          refine ⟨_, dy, _, rfl, rfl, ?_⟩; refine e_intro rfl rfl ?_
          refine x_opp rfl rfl ?_
          refine x_kcg rfl ?_
          refine a_putJ 19 (s_65 dy) rfl rfl rfl rfl ?_
          refine x_opp rfl rfl ?_
          refine a_callS rfl rfl rfl rfl (k_isGrid ?_)
          rw [hM2]
          refine a_ifF rfl rfl br_eqz (by first | exact hg | exact nt_f hg | exact tnf hg | exact fnt hg | exact Int32.not_lt.mp hg | exact Int32.not_le.mp hg | exact Int32.not_lt.mpr hg | exact Int32.not_le.mpr hg) ?_
          refine x_opp rfl rfl ?_
          refine a_callS rfl rfl rfl rfl (k_isGrid ?_)
          refine a_ifF rfl rfl br_eqz (by first | exact ht | exact nt_f ht | exact tnf ht | exact fnt ht | exact Int32.not_lt.mp ht | exact Int32.not_le.mp ht | exact Int32.not_lt.mpr ht | exact Int32.not_le.mpr ht) ?_
          refine x_opp rfl rfl ?_
          refine x_kcg rfl ?_
          refine x_kcg rfl ?_
          refine a_callS rfl rfl rfl rfl (k_in ?_)
          refine a_ifT rfl rfl br_eqz (by first | exact n1 | exact nt_f n1 | exact tnf n1 | exact fnt n1 | exact Int32.not_lt.mp n1 | exact Int32.not_le.mp n1 | exact Int32.not_lt.mpr n1 | exact Int32.not_le.mpr n1) ?_
          refine x_kcg rfl ?_
          refine a_iret rfl rfl rfl ?_
          subst hM2; subst hM1; exact ⟨rfl, _, rfl, R_cl hR⟩
    · refine x_opp rfl rfl ?_
      refine m_getg (s_0 dy) rfl rfl rfl ?_
      refine a_callV (s_1 dy) rfl rfl rfl rfl (c_clear (s_1 dy) ?_)
      refine x_opp rfl rfl ?_
      refine a_callS rfl rfl rfl rfl (c_isGridNumber ?_)
      rw [hM1]
      refine a_ifF rfl rfl br_eqz (by first | exact hg | exact nt_f hg | exact tnf hg | exact fnt hg | exact Int32.not_lt.mp hg | exact Int32.not_le.mp hg | exact Int32.not_lt.mpr hg | exact Int32.not_le.mpr hg) ?_
      refine x_opp rfl rfl ?_
      refine a_callS rfl rfl rfl rfl (c_isGridNumber ?_)
      refine a_ifT rfl rfl br_eqz (by first | exact ht | exact nt_f ht | exact tnf ht | exact fnt ht | exact Int32.not_lt.mp ht | exact Int32.not_le.mp ht | exact Int32.not_lt.mpr ht | exact Int32.not_le.mpr ht) ?_
      refine x_kcg rfl ?_
      refine a_iret rfl rfl rfl ?_
      refine ⟨_, dy, _, rfl, rfl, ?_⟩; refine e_intro rfl rfl ?_
      refine x_opp rfl rfl ?_
      refine x_kcg rfl ?_
      refine a_putJ 19 (s_65 dy) rfl rfl rfl rfl ?_
      refine x_opp rfl rfl ?_
      refine a_callS rfl rfl rfl rfl (k_isGrid ?_)
      rw [hM2]
      refine a_ifF rfl rfl br_eqz (by first | exact hg | exact nt_f hg | exact tnf hg | exact fnt hg | exact Int32.not_lt.mp hg | exact Int32.not_le.mp hg | exact Int32.not_lt.mpr hg | exact Int32.not_le.mpr hg) ?_
      refine x_opp rfl rfl ?_
      refine a_callS rfl rfl rfl rfl (k_isGrid ?_)
      refine a_ifT rfl rfl br_eqz (by first | exact ht | exact nt_f ht | exact tnf ht | exact fnt ht | exact Int32.not_lt.mp ht | exact Int32.not_le.mp ht | exact Int32.not_lt.mpr ht | exact Int32.not_le.mpr ht) ?_
      refine x_kcg rfl ?_
      refine a_iret rfl rfl rfl ?_
      subst hM2; subst hM1; exact ⟨rfl, _, rfl, R_cl hR⟩
  · refine x_opp rfl rfl ?_
    refine m_getg (s_0 dy) rfl rfl rfl ?_
    refine a_callV (s_1 dy) rfl rfl rfl rfl (c_clear (s_1 dy) ?_)
    refine x_opp rfl rfl ?_
    refine a_callS rfl rfl rfl rfl (c_isGridNumber ?_)
    rw [hM1]
    refine a_ifT rfl rfl br_eqz (by first | exact hg | exact nt_f hg | exact tnf hg | exact fnt hg | exact Int32.not_lt.mp hg | exact Int32.not_le.mp hg | exact Int32.not_lt.mpr hg | exact Int32.not_le.mpr hg) ?_
    refine x_kcg rfl ?_
    refine a_iret rfl rfl rfl ?_
    refine ⟨_, dy, _, rfl, rfl, ?_⟩; refine e_intro rfl rfl ?_
    refine x_opp rfl rfl ?_
    refine x_kcg rfl ?_
    refine a_putJ 19 (s_65 dy) rfl rfl rfl rfl ?_
    refine x_opp rfl rfl ?_
    refine a_callS rfl rfl rfl rfl (k_isGrid ?_)
    rw [hM2]
    refine a_ifT rfl rfl br_eqz (by first | exact hg | exact nt_f hg | exact tnf hg | exact fnt hg | exact Int32.not_lt.mp hg | exact Int32.not_le.mp hg | exact Int32.not_lt.mpr hg | exact Int32.not_le.mpr hg) ?_
    refine x_kcg rfl ?_
    refine a_iret rfl rfl rfl ?_
    subst hM2; subst hM1; exact ⟨rfl, _, rfl, R_cl hR⟩
end MQ
