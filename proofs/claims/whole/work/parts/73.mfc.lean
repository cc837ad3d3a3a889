/-! the reference finds candidates for an entry -/
/-- what finding candidates for entry x may change -/
def fF (M M' : mm_T) (x : Nat) : Prop := M'.2.2 = M.2.2 ∧ (∀ a, a ≠ 65 → a ≠ 85 → (a < 86 ∨ 89 < a) → a ≠ 100 → a ≠ 101 → M'.1 a = M.1 a) ∧ (∀ f, f ≠ 22 → f ≠ 24 → f ≠ 31 → M'.1 65 f = M.1 65 f) ∧ (∀ j, j ≠ x → M'.1 101 j = M.1 101 j) ∧ (∀ a, a ≠ 65 → a ≠ 88 → a ≠ 90 → a ≠ 99 → M'.2.1 a = M.2.1 a) ∧ ∀ j, (j < 40 * x ∨ 40 * x + 40 ≤ j) → M'.2.1 99 j = M.2.1 99 j ∧ M'.1 100 j = M.1 100 j
theorem fF_aft {M M1 M2 : mm_T} {x : Nat} {s : Nat × (Nat → Int32)} (h : fF M M1 x) (c : aft M1 M2 0 s) : fF M M2 x := by
  obtain ⟨a1, a2, a3, a4, a5, a6⟩ := h
  obtain ⟨⟨c1, c2, c3, c4⟩, -, -⟩ := c
  refine ⟨c1.trans a1, fun a y1 y2 y3 y4 y5 => (c2 a y1 y2 y3).trans (a2 a y1 y2 y3 y4 y5), fun f y1 y2 y3 => (c3 f y1 y2 y3).trans (a3 f y1 y2 y3), fun j hj => ?_, fun a y1 y2 y3 y4 => (c4 a y1 y2 y3).trans (a5 a y1 y2 y3 y4), fun j hj => ⟨?_, ?_⟩⟩
  · rw [c2 101 (by decide) (by decide) (by decide)]
    exact a4 j hj
  · rw [c4 99 (by decide) (by decide) (by decide)]
    exact (a6 j hj).1
  · rw [c2 100 (by decide) (by decide) (by decide)]
    exact (a6 j hj).2
theorem fF_add {M M1 M2 : mm_T} {x : Nat} (h : fF M M1 x) (c : mCf M1 M2 x) : fF M M2 x := by
  obtain ⟨a1, a2, a3, a4, a5, a6⟩ := h
  obtain ⟨c1, c2, c3, c4, c5⟩ := c
  refine ⟨c1.trans a1, fun a y1 y2 y3 y4 y5 => (c2 a y5 y4).trans (a2 a y1 y2 y3 y4 y5), fun f y1 y2 y3 => by rw [c2 65 (by decide) (by decide)]; exact a3 f y1 y2 y3, fun j hj => (c3 j hj).trans (a4 j hj), fun a y1 y2 y3 y4 => (c4 a y4).trans (a5 a y1 y2 y3 y4), fun j hj => ⟨(c5 j hj).1.trans (a6 j hj).1, (c5 j hj).2.trans (a6 j hj).2⟩⟩
theorem mLs_fF {M M1 : mm_T} {x n : Nat} {E : Nat → lT} (h : fF M M1 x) (hl : mLs M E n) : mLs M1 E n := by
  obtain ⟨-, a2, -, -, a4, -⟩ := h
  unfold mLs
  rw [a2 75 (by decide) (by decide) (by decide) (by decide) (by decide), a2 76 (by decide) (by decide) (by decide) (by decide) (by decide), a2 77 (by decide) (by decide) (by decide) (by decide) (by decide), a4 78 (by decide) (by decide) (by decide) (by decide), a2 80 (by decide) (by decide) (by decide) (by decide) (by decide), a2 81 (by decide) (by decide) (by decide) (by decide) (by decide), a4 82 (by decide) (by decide) (by decide) (by decide), a2 83 (by decide) (by decide) (by decide) (by decide) (by decide)]
  exact hl
theorem mCl_aft {M1 M2 : mm_T} {x : Nat} {s : Nat × (Nat → Int32)} {l : List wsT} (c : aft M1 M2 0 s) (h : mCl M1 x l) : mCl M2 x l := by
  unfold mCl
  rw [c.1.2.1 101 (by decide) (by decide) (by decide), c.1.2.1 100 (by decide) (by decide) (by decide), c.1.2.2.2 99 (by decide) (by decide) (by decide)]
  exact h
theorem mTr_add {M1 M2 : mm_T} {x : Nat} {s : Nat × (Nat → Int32)} (c : mCf M1 M2 x) (h : mTr M1 s) : mTr M2 s := by
  unfold mTr
  rw [c.2.1 65 (by decide) (by decide), c.2.1 85 (by decide) (by decide)]
  exact h
theorem i64_s (k : Nat) (h : k < 40) : i64 k + 1 = i64 (k + 1) := by
  have : ∀ k, k < 40 → i64 k + 1 = i64 (k + 1) := by decide +kernel
  exact this k h
theorem i64_lt (a b : Nat) (ha : a ≤ 40) (hb : b ≤ 40) : (i64 a < i64 b) ↔ a < b := by
  rw [Int64.lt_iff_toInt_lt]
  unfold i64
  rw [Int32.toInt_toInt64, Int32.toInt_toInt64, nI_toInt (by omega), nI_toInt (by omega)]
  omega
theorem br_lge {x z : Int64} (a b : sm_O) : (z ≤ x → sm_br .ge (lg_cmp x z) 0 a b = a) ∧ (¬ z ≤ x → sm_br .ge (lg_cmp x z) 0 a b = b) := by
  have h := lcl x z
  constructor
  · intro g
    exact (br_ge a b).1 (Int32.not_lt.mp (fun h2 => by rw [h] at h2; exact absurd g (Int64.not_le.mpr h2)))
  · intro g
    exact (br_ge a b).2 (Int32.not_le.mpr (by rw [h]; exact Int64.not_le.mp g))
section MFC
variable {L : Nat} {xs : Nat → Int32} {d : Nat} {dy : List sh_T} {M : mm_T} {Q : Option Value → sm_W → Prop} {E : Nat → lT} {n q : Nat}
set_option maxRecDepth 4000 in
theorem l_find {es : List eT} {x l : Nat} {v : Nat → Nat} {n0 : Nat} (hq1 : q ≤ 1) (hE : lOK E n) (hl : l < n) (hL : mLs M E n) (h42 : es.length ≤ 42) (hx : x < es.length) (hoks : ∀ e, e ∈ es → eOK e) (h108 : ∀ e, e < es.length → M.1 108 (48 * q + e) = nI (eAt es e).2.2.1) (h107 : ∀ e i, e < es.length → i < (eAt es e).2.2.1 → M.1 107 (7 * (48 * q + e) + i) = nI (mPl (eAt es e) i)) (hv : ∀ i, i < (eAt es x).2.2.1 → M.1 106 (49 * q + mPl (eAt es x) i) = nI (v i) ∧ v i < 32) (hn0 : n0 ≤ 40) :
    ∀ r k acc M1 s, k + r = n0 → fF M M1 (48 * q + x) → mCl M1 (48 * q + x) acc → acc.length ≤ k → mTr M1 s → s.1 + (gF E l v (eAt es x).2.2.1 r k acc).1.length + 2 < 2 ^ 31 →
      ((gF E l v (eAt es x).2.2.1 r k acc).2.1 = 0 → ∀ M', fF M M' (48 * q + x) → mCl M' (48 * q + x) (gF E l v (eAt es x).2.2.1 r k acc).2.2 → mTr M' (trc s (gF E l v (eAt es x).2.2.1 r k acc).1) → Q (some (.int 1)) (wm (sh0 ++ dy) M')) →
      ((gF E l v (eAt es x).2.2.1 r k acc).2.1 ≠ 0 → ∀ M', fF M M' (48 * q + x) → mTr M' (trc s (gF E l v (eAt es x).2.2.1 r k acc).1) → M'.1 65 31 = nI (gF E l v (eAt es x).2.2.1 r k acc).2.1 → Q (some (.int 0)) (wm (sh0 ++ dy) M')) →
      sm_X L xs (d + 4) 195 5 (sm_code 195 5) [(0, .ref 65), (1, .int (nI q)), (2, .int (nI (48 * q + x))), (3, .int (nI l)), (4, .long (i64 n0)), (6, .long (i64 k))] [] (wm (sh0 ++ dy) M1) Q := by
  have hm := s_65 dy
  intro r
  induction r with
  | zero =>
    intro k acc M1 s hk f c hc tr hB hS hF
    have fin := hS rfl M1 f c tr
    have g : i64 n0 ≤ i64 k := Int64.not_lt.mp (fun h => by have := (i64_lt k n0 (by omega) hn0).mp h; omega)
    repeat (first | refine x_kcg rfl ?_ | refine x_opp rfl rfl ?_ | refine x_go rfl ?_)
    refine x_ifc br_lge (fun _ => ?_) (fun h => absurd g h)
    repeat (first | refine x_kcg rfl ?_ | refine x_opp rfl rfl ?_ | refine x_go rfl ?_)
    exact x_zret (Or.inr rfl) fin
  | succ r ih =>
    intro k acc M1 s hk f c hc tr hB hS hF
    have g : ¬ i64 n0 ≤ i64 k := Int64.not_le.mpr ((i64_lt k n0 (by omega) hn0).mpr (by omega))
    have L1 := mLs_fF f hL
    obtain ⟨B, fr⟩ := s
    unfold gF at hB hS hF
    repeat (first | refine x_kcg rfl ?_ | refine x_opp rfl rfl ?_ | refine x_go rfl ?_)
    refine x_ifc br_lge (fun h => absurd h g) (fun _ => ?_)
    repeat (first | refine x_kcg rfl ?_ | refine x_opp rfl rfl ?_ | refine x_go rfl ?_)
    have next : ∀ (M3 : mm_T) acc2 s3, fF M M3 (48 * q + x) → mCl M3 (48 * q + x) acc2 → acc2.length ≤ k + 1 → mTr M3 s3 → s3.1 + (gF E l v (eAt es x).2.2.1 r (k + 1) acc2).1.length + 2 < 2 ^ 31 → ((gF E l v (eAt es x).2.2.1 r (k + 1) acc2).2.1 = 0 → ∀ M', fF M M' (48 * q + x) → mCl M' (48 * q + x) (gF E l v (eAt es x).2.2.1 r (k + 1) acc2).2.2 → mTr M' (trc s3 (gF E l v (eAt es x).2.2.1 r (k + 1) acc2).1) → Q (some (.int 1)) (wm (sh0 ++ dy) M')) → ((gF E l v (eAt es x).2.2.1 r (k + 1) acc2).2.1 ≠ 0 → ∀ M', fF M M' (48 * q + x) → mTr M' (trc s3 (gF E l v (eAt es x).2.2.1 r (k + 1) acc2).1) → M'.1 65 31 = nI (gF E l v (eAt es x).2.2.1 r (k + 1) acc2).2.1 → Q (some (.int 0)) (wm (sh0 ++ dy) M')) → sm_X L xs (d + 4) 195 13 (sm_code 195 13) [(0, .ref 65), (1, .int (nI q)), (2, .int (nI (48 * q + x))), (3, .int (nI l)), (4, .long (i64 n0)), (6, .long (i64 k))] [] (wm (sh0 ++ dy) M3) Q := by
      intro M3 acc2 s3 q1 q2 q3 q4 q5 q6 q7
      have fin := ih (k + 1) acc2 M3 s3 (by omega) q1 q2 q3 q4 q5 q6 q7
      have es1 := i64_s k (by omega)
      repeat (first | refine x_kcg rfl ?_ | refine x_incg rfl rfl ?_ | refine x_opp rfl rfl ?_)
      rw [show i64 k + Int64.ofNat 1 = i64 (k + 1) from es1]
      refine x_goto ?_
      refine x_lvs [(0, .ref 65), (1, .int (nI q)), (2, .int (nI (48 * q + x))), (3, .int (nI l)), (4, .long (i64 n0)), (6, .long (i64 (k + 1)))] rfl rfl rfl ⟨rfl, rfl, rfl, rfl, rfl, rfl, trivial⟩ ?_
      exact fin
    have lenw : B + (askF E l 2 (i64 k)).1.length + 2 < 2 ^ 31 := by
      by_cases r0 : (askF E l 2 (i64 k)).2.1 ≠ 0
      · rw [if_pos r0] at hB
        exact hB
      · rw [if_neg r0] at hB
        by_cases g2 : agrB v (eAt es x).2.2.1 (askF E l 2 (i64 k)).2.2 = true
        · rw [if_pos g2] at hB
          by_cases r1 : (askF E l 3 (askF E l 2 (i64 k)).2.2).2.1 ≠ 0
          · rw [if_pos r1, List.length_append] at hB
            omega
          · rw [if_neg r1, List.length_append] at hB
            omega
        · rw [if_neg g2, List.length_append] at hB
          omega
    refine m_callV hm rfl rfl rfl (k_asks (d := d) (act := 2) hE hl (by decide) L1 tr lenw (fun r0 M2 ct e30 => ?_) (fun r0 M2 ct e31 => ?_))
    · rw [if_neg (fun h => h r0)] at hB hS hF
      have f2 := fF_aft f ct
      have c2 := mCl_aft ct c
      have L2 := mLs_fF f2 hL
      have hw := (askF_val hE l hl 2 (i64 k) r0).2.2 rfl
      have tr2 := ct.2.2
      have h108' : ∀ e, e < es.length → M2.1 108 (48 * q + e) = nI (eAt es e).2.2.1 := by rw [f2.2.1 108 (by decide) (by decide) (by decide) (by decide) (by decide)]; exact h108
      have h107' : ∀ e i, e < es.length → i < (eAt es e).2.2.1 → M2.1 107 (7 * (48 * q + e) + i) = nI (mPl (eAt es e) i) := by rw [f2.2.1 107 (by decide) (by decide) (by decide) (by decide) (by decide)]; exact h107
      have hv' : ∀ i, i < (eAt es x).2.2.1 → M2.1 106 (49 * q + mPl (eAt es x) i) = nI (v i) ∧ v i < 32 := by rw [f2.2.1 106 (by decide) (by decide) (by decide) (by decide) (by decide)]; exact hv
      generalize hr : askF E l 2 (i64 k) = r2 at hB hS hF hw ct tr2 e30 lenw
      have tl : (trc (B, fr) r2.1).1 = B + r2.1.length := trc_len _ _
      refine x_ifc br_ne (fun _ => ?_) (fun h => absurd z10 h)
      repeat (first | refine x_kcg rfl ?_ | refine x_opp rfl rfl ?_ | refine x_go rfl ?_ | refine m_getg hm rfl rfl rfl ?_)
      rw [e30]
      repeat (first | refine x_kcg rfl ?_ | refine x_opp rfl rfl ?_ | refine x_go rfl ?_)
      have skip : agrB v (eAt es x).2.2.1 r2.2.2 = false → sm_X L xs (d + 4) 195 13 (sm_code 195 13) [(0, .ref 65), (1, .int (nI q)), (2, .int (nI (48 * q + x))), (3, .int (nI l)), (4, .long (i64 n0)), (6, .long (i64 k))] [] (wm (sh0 ++ dy) M2) Q := by
        intro g2
        rw [if_neg (by rw [g2]; decide)] at hB hS hF
        exact next M2 acc _ f2 c2 (by omega) tr2 (by rw [List.length_append] at hB; rw [tl]; omega) (fun q0 M' q1 q2 q3 => hS q0 M' q1 q2 (by rw [trc_app]; exact q3)) (fun q0 M' q1 q2 q3 => hF q0 M' q1 (by rw [trc_app]; exact q2) q3)
      by_cases w0 : r2.2.2 = 0
      · have g2 : agrB v (eAt es x).2.2.1 r2.2.2 = false := nt_f (fun h => by
          have h1 := ((agrB_iff _ _ _).mp h).1
          rw [szf_0 w0] at h1
          have := (hoks _ (List.mem_of_getElem? (eAt_get hx))).2.1
          omega)
        have fin := skip g2
        refine x_ifc br_leq (fun _ => ?_) (fun h => absurd w0 h)
        refine x_lvs [(0, .ref 65), (1, .int (nI q)), (2, .int (nI (48 * q + x))), (3, .int (nI l)), (4, .long (i64 n0)), (6, .long (i64 k))] rfl rfl rfl ⟨rfl, rfl, rfl, rfl, rfl, rfl, trivial⟩ ?_
        exact fin
      · refine x_ifc br_leq (fun h => absurd h w0) (fun _ => ?_)
        repeat (first | refine x_kcg rfl ?_ | refine x_opp rfl rfl ?_ | refine x_go rfl ?_)
        refine m_callV hm rfl rfl rfl (k_agr (d := d + 2) hq1 h42 hx hoks h108' h107' hv' ?_)
        by_cases g2 : agrB v (eAt es x).2.2.1 r2.2.2 = true
        · rw [if_pos g2] at hB hS hF
          rw [g2]
          refine x_ifc br_eqz (fun h => by cases h) (fun _ => ?_)
          repeat (first | refine x_kcg rfl ?_ | refine x_opp rfl rfl ?_ | refine x_go rfl ?_)
          obtain ⟨⟨B2, fr2⟩, hs2⟩ : ∃ t, trc (B, fr) r2.1 = t := ⟨_, rfl⟩
          rw [hs2] at tr2 tl
          have tl : B2 = B + r2.1.length := tl
          have lens : B2 + (askF E l 3 r2.2.2).1.length + 2 < 2 ^ 31 := by
            by_cases r1 : (askF E l 3 r2.2.2).2.1 ≠ 0
            · rw [if_pos r1, List.length_append] at hB
              omega
            · rw [if_neg r1, List.length_append, List.length_append] at hB
              omega
          refine m_callV hm rfl rfl rfl (k_asks (d := d) (act := 3) hE hl (by decide) L2 tr2 lens (fun r1 M3 ct3 e303 => ?_) (fun r1 M3 ct3 e313 => ?_))
          · rw [if_neg (fun h => h r1)] at hB hS hF
            have f3 := fF_aft f2 ct3
            have c3 := mCl_aft ct3 c2
            refine x_ifc br_ne (fun _ => ?_) (fun h => absurd z10 h)
            repeat (first | refine x_kcg rfl ?_ | refine x_opp rfl rfl ?_ | refine x_go rfl ?_ | refine m_getg hm rfl rfl rfl ?_)
            rw [e303]
            repeat (first | refine x_kcg rfl ?_ | refine x_opp rfl rfl ?_ | refine x_go rfl ?_)
            refine m_callV hm rfl rfl rfl (k_addCand (d := d + 1) (by omega) (by omega) c3 (fun M4 c4 f4 => ?_))
            have f5 := fF_add f3 f4
            have tr4 := mTr_add f4 ct3.2.2
            have tl3 : (trc (B2, fr2) (askF E l 3 r2.2.2).1).1 = B2 + (askF E l 3 r2.2.2).1.length := trc_len _ _
            have fin := next M4 _ _ f5 c4 (by rw [cIns_len]; omega) tr4 (by rw [List.length_append, List.length_append] at hB; rw [tl3]; omega) (fun q0 M' q1 q2 q3 => hS q0 M' q1 q2 (by rw [trc_app, trc_app, hs2]; exact q3)) (fun q0 M' q1 q2 q3 => hF q0 M' q1 (by rw [trc_app, trc_app, hs2]; exact q2) q3)
            refine x_fall ?_
            refine x_lvs [(0, .ref 65), (1, .int (nI q)), (2, .int (nI (48 * q + x))), (3, .int (nI l)), (4, .long (i64 n0)), (6, .long (i64 k))] rfl rfl rfl ⟨rfl, rfl, rfl, rfl, rfl, rfl, trivial⟩ ?_
            exact fin
          · rw [if_pos r1] at hF
            have f3 := fF_aft f2 ct3
            have fin := hF r1 M3 f3 (by rw [trc_app, hs2]; exact ct3.2.2) e313
            refine x_ifc br_ne (fun h => absurd rfl h) (fun _ => ?_)
            repeat (first | refine x_kcg rfl ?_ | refine x_opp rfl rfl ?_ | refine x_go rfl ?_)
            exact x_zret (Or.inl rfl) fin
        · have fin := skip (nt_f g2)
          rw [nt_f g2]
          refine x_ifc br_eqz (fun _ => ?_) (fun h => absurd rfl h)
          refine x_lvs [(0, .ref 65), (1, .int (nI q)), (2, .int (nI (48 * q + x))), (3, .int (nI l)), (4, .long (i64 n0)), (6, .long (i64 k))] rfl rfl rfl ⟨rfl, rfl, rfl, rfl, rfl, rfl, trivial⟩ ?_
          exact fin
    · rw [if_pos r0] at hF
      have fin := hF r0 M2 (fF_aft f ct) ct.2.2 e31
      refine x_ifc br_ne (fun h => absurd rfl h) (fun _ => ?_)
      repeat (first | refine x_kcg rfl ?_ | refine x_opp rfl rfl ?_ | refine x_go rfl ?_)
      exact x_zret (Or.inl rfl) fin
set_option maxRecDepth 4000 in
theorem k_findCand {es : List eT} {x l B : Nat} {f : Nat → Int32} {v : Nat → Nat} (hq1 : q ≤ 1) (hE : lOK E n) (hl : l < n) (hL : mLs M E n) (h42 : es.length ≤ 42) (hx : x < es.length) (hoks : ∀ e, e ∈ es → eOK e) (h108 : ∀ e, e < es.length → M.1 108 (48 * q + e) = nI (eAt es e).2.2.1) (h107 : ∀ e i, e < es.length → i < (eAt es e).2.2.1 → M.1 107 (7 * (48 * q + e) + i) = nI (mPl (eAt es e) i)) (hv : ∀ i, i < (eAt es x).2.2.1 → M.1 106 (49 * q + mPl (eAt es x) i) = nI (v i) ∧ v i < 32) (tr : mTr M (B, f)) (hB : B + (gL E l v (eAt es x).2.2.1).1.length + 2 < 2 ^ 31)
    (hS : (gL E l v (eAt es x).2.2.1).2.1 = 0 → ∀ M', fF M M' (48 * q + x) → mCl M' (48 * q + x) (gL E l v (eAt es x).2.2.1).2.2 → mTr M' (trc (B, f) (gL E l v (eAt es x).2.2.1).1) → Q (some (.int 1)) (wm (sh0 ++ dy) M'))
    (hF : (gL E l v (eAt es x).2.2.1).2.1 ≠ 0 → ∀ M', fF M M' (48 * q + x) → mTr M' (trc (B, f) (gL E l v (eAt es x).2.2.1).1) → M'.1 65 31 = nI (gL E l v (eAt es x).2.2.1).2.1 → Q (some (.int 0)) (wm (sh0 ++ dy) M')) : sm_E L xs (d + 5) 195 [.ref 65, .int (nI q), .int (nI (48 * q + x)), .int (nI l)] (wm (sh0 ++ dy) M) Q := by
  have hm := s_65 dy
  have hn := hE.1
  have f0 : fF M (m_setI M 101 (48 * q + x) 0) (48 * q + x) := ⟨rfl, fun a _ _ _ _ y => mI_ne _ _ _ y, fun f _ _ _ => by rw [mI_ne _ _ _ (by decide)], fun j hj => by rw [mI_at, if_neg (fun h => hj h.2)], fun _ _ _ _ _ => rfl, fun j _ => ⟨rfl, by rw [mI_ne _ _ _ (by decide)]⟩⟩
  have L0 := mLs_fF f0 hL
  have c0 : mCl (m_setI M 101 (48 * q + x) 0) (48 * q + x) [] := ⟨by rw [mI_at, if_pos ⟨rfl, rfl⟩]; rfl, fun j hj => absurd hj (Nat.not_lt_zero j)⟩
  have tr0 : mTr (m_setI M 101 (48 * q + x) 0) (B, f) := by
    unfold mTr
    rw [mI_ne _ _ _ (by decide), mI_ne _ _ _ (by decide)]
    exact tr
  generalize hM0 : m_setI M 101 (48 * q + x) 0 = M0 at f0 L0 c0 tr0
  unfold gL at hB hS hF
  have lenm : B + (askF E l 1 0).1.length + 2 < 2 ^ 31 := by
    by_cases r0 : (askF E l 1 0).2.1 ≠ 0
    · rw [if_pos r0] at hB
      exact hB
    · rw [if_neg r0, List.length_append] at hB
      omega
  refine e_intro rfl rfl ?_
  repeat (first | refine x_kcg rfl ?_ | refine x_opp rfl rfl ?_ | refine x_go rfl ?_ | refine m_getg hm rfl rfl rfl ?_)
  refine m_iast (s_101 dy) (vp_in_nI (by omega) (by decide)) ?_
  rw [nI_clamp (by omega), hM0]
  repeat (first | refine x_kcg rfl ?_ | refine x_opp rfl rfl ?_ | refine x_go rfl ?_)
  refine x_ifc br_ge (fun _ => ?_) (fun h => absurd (nI_pos' (by omega)) h)
  repeat (first | refine x_kcg rfl ?_ | refine x_opp rfl rfl ?_ | refine x_go rfl ?_)
  refine m_callV hm rfl rfl rfl (k_asks (d := d) (act := 1) (o := 0) hE hl (by decide) L0 tr0 lenm (fun r0 M2 ct e30 => ?_) (fun r0 M2 ct e31 => ?_))
  · rw [if_neg (fun h => h r0)] at hB hS hF
    have f2 := fF_aft f0 ct
    have c2 := mCl_aft ct c0
    obtain ⟨m0, hm0, em0⟩ := (askF_val hE l hl 1 0 r0).2.1 rfl
    have en : (askF E l 1 0).2.2.toInt32 = nI m0 := by rw [em0, k64_i]
    rw [en, nI_clamp (by omega)] at hB hS hF
    have tl : (trc (B, f) (askF E l 1 0).1).1 = B + (askF E l 1 0).1.length := trc_len _ _
    have fin := l_find (L := L) (xs := xs) (d := d) (dy := dy) (Q := Q) hq1 hE hl hL h42 hx hoks h108 h107 hv hm0 m0 0 [] M2 (trc (B, f) (askF E l 1 0).1) (by omega) f2 c2 (Nat.zero_le _) ct.2.2 (by rw [List.length_append] at hB; rw [tl]; omega) (fun q0 M' q1 q2 q3 => hS q0 M' q1 q2 (by rw [trc_app]; exact q3)) (fun q0 M' q1 q2 q3 => hF q0 M' q1 (by rw [trc_app]; exact q2) q3)
    have e30b : M2.2.1 65 30 = i64 m0 := by rw [e30, em0]; rfl
    refine x_ifc br_ne (fun _ => ?_) (fun h => absurd z10 h)
    repeat (first | refine x_kcg rfl ?_ | refine x_opp rfl rfl ?_ | refine x_go rfl ?_ | refine m_getg hm rfl rfl rfl ?_)
    rw [e30b]
    refine x_lvs [(0, .ref 65), (1, .int (nI q)), (2, .int (nI (48 * q + x))), (3, .int (nI l)), (4, .long (i64 m0)), (6, .long (i64 0))] rfl rfl rfl ⟨rfl, rfl, rfl, rfl, rfl, rfl, trivial⟩ ?_
    exact fin
  · rw [if_pos r0] at hF
    have fin := hF r0 M2 (fF_aft f0 ct) ct.2.2 e31
    refine x_ifc br_ne (fun h => absurd rfl h) (fun _ => ?_)
    repeat (first | refine x_kcg rfl ?_ | refine x_opp rfl rfl ?_ | refine x_go rfl ?_)
    exact x_zret (Or.inl rfl) fin
set_option maxRecDepth 4000 in
theorem k_findNone {x : Nat} (hq1 : q ≤ 1) (hx : x < 42) (hq : ∀ M', fF M M' (48 * q + x) → M'.1 65 22 = M.1 65 22 → M'.1 85 = M.1 85 → M'.1 65 31 = 1 → Q (some (.int 0)) (wm (sh0 ++ dy) M')) : sm_E L xs (d + 5) 195 [.ref 65, .int (nI q), .int (nI (48 * q + x)), .int (-1)] (wm (sh0 ++ dy) M) Q := by
  have hm := s_65 dy
  have fin := hq (m_setI (m_setI M 101 (48 * q + x) 0) 65 31 1) ⟨rfl, fun a y1 _ _ _ y => by rw [mI_ne _ _ _ y1, mI_ne _ _ _ y], fun f _ _ y => by rw [mI_at, if_neg (fun h => y h.2), mI_ne _ _ _ (by decide)], fun j hj => by rw [mI_ne _ _ _ (by decide), mI_at, if_neg (fun h => hj h.2)], fun _ _ _ _ _ => rfl, fun j _ => ⟨rfl, by rw [mI_ne _ _ _ (by decide), mI_ne _ _ _ (by decide)]⟩⟩ (by rw [mI_at, if_neg (by decide), mI_ne _ _ _ (by decide)]) (by rw [mI_ne _ _ _ (by decide), mI_ne _ _ _ (by decide)]) (by rw [mI_at, if_pos ⟨rfl, rfl⟩])
  refine e_intro rfl rfl ?_
  repeat (first | refine x_kcg rfl ?_ | refine x_opp rfl rfl ?_ | refine x_go rfl ?_ | refine m_getg hm rfl rfl rfl ?_)
  refine m_iast (s_101 dy) (vp_in_nI (by omega) (by decide)) ?_
  rw [nI_clamp (by omega)]
  repeat (first | refine x_kcg rfl ?_ | refine x_opp rfl rfl ?_ | refine x_go rfl ?_)
  refine x_ifc br_ge (fun h => absurd h (by decide)) (fun _ => ?_)
  repeat (first | refine x_kcg rfl ?_ | refine x_opp rfl rfl ?_ | refine x_go rfl ?_)
  refine m_putI hm rfl ?_
  repeat (first | refine x_kcg rfl ?_ | refine x_opp rfl rfl ?_ | refine x_go rfl ?_)
  exact x_zret (Or.inl rfl) fin
end MFC
