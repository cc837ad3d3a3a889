/-! what no promise reads: two memories that are alike but for that -/
def irr (a i : Nat) : Prop := (8 ≤ a ∧ a ≤ 12) ∨ (28 ≤ a ∧ a ≤ 42) ∨ (45 ≤ a ∧ a ≤ 64 ∧ 3 ≤ (a - 45) % 5) ∨ (86 ≤ a ∧ a ≤ 95) ∨ (110 ≤ a ∧ a ≤ 113) ∨ (a = 65 ∧ (i = 24 ∨ i = 31 ∨ i = 32))
def rel (M M' : mm_T) : Prop := (∀ a i, ¬ irr a i → M'.1 a i = M.1 a i) ∧ (∀ a, ¬ (28 ≤ a ∧ a ≤ 42) → a ≠ 65 → a ≠ 88 → a ≠ 90 → M'.2.1 a = M.2.1 a) ∧ M'.2.2 = M.2.2
theorem rel_rfl (M : mm_T) : rel M M := ⟨fun _ _ _ => rfl, fun _ _ _ _ _ => rfl, rfl⟩
theorem rel_tr {M M1 M2 : mm_T} (h : rel M M1) (h2 : rel M1 M2) : rel M M2 := ⟨fun a i g => (h2.1 a i g).trans (h.1 a i g), fun a g1 g2 g3 g4 => (h2.2.1 a g1 g2 g3 g4).trans (h.2.1 a g1 g2 g3 g4), h2.2.2.trans h.2.2⟩
theorem rel_I {M M' : mm_T} (h : rel M M') (a i : Nat) (v : Int32) : rel (m_setI M a i v) (m_setI M' a i v) := by
  refine ⟨fun b j g => ?_, h.2.1, h.2.2⟩
  rw [mI_at, mI_at, h.1 b j g]
theorem rel_fd {M M' : mm_T} (h : rel M M') (k : Nat) (hk : k < 6) : rel (nFind M 1 3 (nI k)) (nFind M' 1 3 (nI k)) := by
  unfold nFind
  rw [nI_clamp (by omega), h.1 3 k (by unfold irr; omega)]
  exact rel_I (rel_I h _ _ _) _ _ _
theorem rel_mt {M M' : mm_T} (h : rel M M') (k : Nat) (hk : k < 6) : rel (mMet M (nI k)) (mMet M' (nI k)) := by
  unfold mMet
  rw [nI_clamp (by omega), h.1 84 k (by unfold irr; omega)]
  exact rel_I (rel_I h _ _ _) _ _ _
theorem rG_rel {M M' : mm_T} {n : Nat} (h : rel M M') (hg : rG M n) : rG M' n := rG_fr hg (Nat.le_refl n) (fun a i g => h.1 a i (by unfold irr; omega)) (by rw [h.2.2])
theorem rN_rel {M M' : mm_T} {t : Nat} {s : Nat × (Nat → Int32)} (h : rel M M') (hn : rN M t s) : rN M' t s := rN_fr hn (Nat.le_refl t) (fun a i g => h.1 a i (by unfold irr; omega))
theorem rL_rel {M M' : mm_T} {dy : List sh_T} {E : Nat → lT} {P w : Nat → Nat} {n : Nat} (h : rel M M') (hl : rL dy M E P w n) : rL dy M' E P w n := rL_fr hl (fun a i g => h.1 a i (by unfold irr; omega)) (fun a g => h.2.1 a (by omega) (by omega) (by omega) (by omega)) (by rw [h.2.2])
theorem rS_rel {M M' : mm_T} (h : rel M M') (hs : rS M) : rS M' := rS_fr hs (fun a i g => h.1 a i (by unfold irr; omega)) (fun a g => h.2.1 a (by omega) (by omega) (by omega) (by omega))
theorem rQ_rel {M M' : mm_T} (h : rel M M') (hs : rQ M) : rQ M' := rQ_fr hs (fun a i g => h.1 a i (by unfold irr; omega)) (fun a g => h.2.1 a (by omega) (by omega) (by omega) (by omega))
theorem R_rel {t : Nat} {dy : List sh_T} {M M' : mm_T} (h : rel M M') (hr : rR t dy M) : rR t dy M' := by
  obtain ⟨s, E, P, w, n, hG, hN, hL, hS, hQ⟩ := hr
  exact ⟨s, E, P, w, n, rG_rel h hG, rN_rel h hN, rL_rel h hL, rS_rel h hS, rQ_rel h hQ⟩
theorem rel_t {M M' : mm_T} (h : tFr M M' 8 9 10 11 12) : rel M M' := ⟨fun a i g => by rw [h.2 a (by unfold irr at g; omega) (by unfold irr at g; omega) (by unfold irr at g; omega) (by unfold irr at g; omega) (by unfold irr at g; omega)], fun a _ _ _ _ => by rw [h.1], by rw [h.1]⟩
theorem rel_m {M M' : mm_T} (h : mFr M M') : rel M M' := by
  refine ⟨fun a i g => ?_, fun a _ _ _ _ => by rw [h.1], by rw [h.1]⟩
  unfold irr at g
  by_cases q : a = 65
  · subst q; exact h.2.2 i (by omega)
  · rw [h.2.1 a q (by omega)]
theorem rel_b {M M' : mm_T} {G : Nat} (hG : G < 4) (h : bFr M M' (48 + 5 * G) (49 + 5 * G)) : rel M M' := ⟨fun a i g => by rw [h.2 a (by unfold irr at g; omega) (by unfold irr at g; omega)], fun a _ _ _ _ => by rw [h.1], by rw [h.1]⟩
theorem rel_i {M M' : mm_T} (h : iFr M M') : rel M M' := ⟨fun a i g => by rw [h.2 a (by unfold irr at g; omega)], fun a _ _ _ _ => by rw [h.1], by rw [h.1]⟩
/-- the entries of grid G -/
def gE (M : mm_T) (G : Nat) : List eT := ents (M.1 67 G) (mL M G) (mC M G) (M.1 68 G).toNatClampNeg (M.1 67 G).toNatClampNeg
theorem rel_mL {M M' : mm_T} (h : rel M M') (G : Nat) : mL M' G = mL M G := funext fun i => h.1 69 _ (by unfold irr; omega)
theorem rel_mC {M M' : mm_T} (h : rel M M') (G : Nat) : mC M' G = mC M G := funext fun i => by
  unfold mC tld
  rw [h.1 70 _ (by unfold irr; omega), h.1 71 _ (by unfold irr; omega), h.1 72 _ (by unfold irr; omega)]
theorem gE_rel {M M' : mm_T} (h : rel M M') (G : Nat) : gE M' G = gE M G := by
  unfold gE
  rw [rel_mL h, rel_mC h, h.1 67 _ (by unfold irr; omega), h.1 68 _ (by unfold irr; omega)]
theorem runF_t {p : Nat → Bool} : ∀ {k m}, ∀ j, m ≤ j → j < runF p m k → p j = true
  | 0, m, j, h1, h2 => by unfold runF at h2; omega
  | k + 1, m, j, h1, h2 => by
    unfold runF at h2
    by_cases q : p m = true
    · rw [if_pos q] at h2
      by_cases e : j = m
      · subst e; exact q
      · exact runF_t (k := k) (m := m + 1) j (by omega) h2
    · rw [if_neg q] at h2; omega
theorem lA_t {p : Nat → Bool} {j : Nat} (h : lA p j = true) : p j = true := by
  unfold lA at h
  rw [Bool.and_eq_true] at h
  exact h.1
/-- all squares of an entry are white -/
theorem v_wh {h : Int32} {ln cs : Nat → Int32} {H Wd : Nat} (v : vOK h ln H Wd) : ∀ e, e ∈ ents h ln cs Wd H → ∀ i, i < e.2.2.1 → wS h ln cs (mPl e i) = true := by
  have hj := v_jOK (cs := cs) v
  have hW := v.2.2.1
  have hH := v.2.1
  rw [v_ents v]
  unfold eAl
  refine eAll_mem (P := fun e => ∀ i, i < e.2.2.1 → wS h ln cs (mPl e i) = true) H ?_ ?_
  · intro k j hk hjw ha m i hi
    have l1 := (lin_all (vJR h ln cs k) (jOK_r hj k)).2.1 j (by omega) ha
    have hi : i < lL (vJR h ln cs k) j := hi
    have l2 : j + lL (vJR h ln cs k) j ≤ 7 := l1.2
    unfold wS mPl
    dsimp only
    rw [if_neg (by decide), show (k * 7 + j + i * 1) / 7 = k by omega, show (k * 7 + j + i * 1) % 7 = j + i by omega]
    cases i with
    | zero =>
      have := lA_t ha
      rw [v_R (by omega) (by omega)] at this
      exact (gJR_w this).1
    | succ i =>
      have := runF_t (p := fun n => vJR h ln cs k (j + n - 1)) (k := 6) (m := 1) (i + 1) (by omega) hi
      try dsimp only at this
      rw [show j + (i + 1) - 1 = j + i by omega, v_R (by omega) (by omega)] at this
      have := (gJR_w this).2
      rw [nI_1] at this
      exact this
  · intro k j hk hjw ha m i hi
    have l1 := (lin_all (fun i => vJB h ln cs i j) (jOK_b hj j)).2.1 k (by omega) ha
    have hi : i < lL (fun i => vJB h ln cs i j) k := hi
    have l2 : k + lL (fun i => vJB h ln cs i j) k ≤ 7 := l1.2
    unfold wS mPl
    dsimp only
    rw [if_pos rfl, show (k * 7 + j + i * 7) / 7 = k + i by omega, show (k * 7 + j + i * 7) % 7 = j by omega]
    cases i with
    | zero =>
      have := lA_t (p := fun i => vJB h ln cs i j) ha
      try dsimp only at this
      rw [v_B (by omega) (by omega)] at this
      exact (gJB_w this).1
    | succ i =>
      have := runF_t (p := fun n => vJB h ln cs (k + n - 1) j) (k := 6) (m := 1) (i + 1) (by omega) hi
      try dsimp only at this
      rw [show k + (i + 1) - 1 = k + i by omega, v_B (by omega) (by omega)] at this
      have := (gJB_w this).2
      rw [nI_1] at this
      exact this
section RL
variable {L : Nat} {xs : Nat → Int32} {t d : Nat} {dy : List sh_T} {M : mm_T} {Q : Option Value → sm_W → Prop} {n G : Nat}
theorem gE_ok (h : rG M n) (hG : G < 4) : (gE M G).length ≤ 42 ∧ (∀ e, e ∈ gE M G → eOK e) ∧ ∀ e, e ∈ gE M G → ∀ i, i < e.2.2.1 → M.1 (46 + 5 * G) (mPl e i) &&& 31 = M.1 70 (49 * G + mPl e i) := by
  obtain ⟨H, W, b1, b2, b3, b4, b5, b6, gk, mk, v1, v2, a1, a2⟩ := rG_v h hG
  have e : gE M G = ents (M.1 67 G) (mL M G) (mC M G) W H := by
    unfold gE
    rw [b4, b6, nI_clamp (by omega), nI_clamp (by omega)]
  rw [e]
  refine ⟨v_len v1, v_eok v1, fun x hx i hi => ?_⟩
  have ok := v_eok v1 x hx
  have lt := mPl_lt ok hi
  obtain ⟨w1, w2⟩ := wS_t v1.1 v1.2.1 (vOK_7 v1) lt (v_wh v1 x hx i hi)
  have := rG_vis (i := mPl x i / 7) (j := mPl x i % 7) h hG (fun K hK eK => by have := nI_H b1 hK b4 eK; omega) w2 (by omega) (by omega)
  rw [show mPl x i / 7 * 7 + mPl x i % 7 = mPl x i by omega] at this
  exact this.2.1
theorem tsh_8 (dy : List sh_T) : tSh (sh0 ++ dy) 8 9 10 11 12 := ⟨rfl, rfl, rfl, rfl, rfl, by decide, by decide, by decide, by decide, by decide, by decide, by decide, by decide, by decide, by decide⟩
theorem c_ents (h : rG M n) (hG : G < 4) (hq : ∀ M', tabIs M' 8 9 10 11 12 (gE M G) → rel M M' → Q none (wm (sh0 ++ dy) M')) : sm_E L xs (d + 5) 74 [.ref 8, .ref (45 + 5 * G)] (wm (sh0 ++ dy) M) Q := by
  obtain ⟨H, W, b1, b2, b3, b4, b5, b6, gk, mk, v1, v2, a1, a2⟩ := rG_v h hG
  have v0 : vOK (M.1 67 G) (M.1 (47 + 5 * G)) H W := ⟨b4, b1, b2, fun i hi => by rw [v2.1 i hi]; exact v1.2.2.2 i hi⟩
  have e : ents (M.1 (45 + 5 * G) 5) (M.1 (47 + 5 * G)) (M.1 (46 + 5 * G)) W H = gE M G := by
    unfold gE
    rw [b3, ← b4, vEq_ents v0 v2, b6, b4, nI_clamp (by omega), nI_clamp (by omega)]
  refine c_lookAt (gsh_at dy G hG) (tsh_8 dy) gk b3 b1 b5 b2 (by omega) (by omega) (by omega) (by rw [e]; exact (gE_ok h hG).1) (fun M' h1 h2 => ?_)
  rw [e] at h1
  exact hq M' h1 (rel_t h2)
theorem k_ents (h : rG M n) (hG : G < 4) (hq : ∀ M', mTab M' (gE M G) → rel M M' → Q none (wm (sh0 ++ dy) M')) : sm_E L xs (d + 6) 183 [.ref 65, .int (nI G)] (wm (sh0 ++ dy) M) Q := by
  obtain ⟨H, W, b1, b2, b3, b4, b5, b6, gk, mk, v1, v2, a1, a2⟩ := rG_v h hG
  have e : ents (M.1 67 G) (mL M G) (mC M G) W H = gE M G := by
    unfold gE
    rw [b4, b6, nI_clamp (by omega), nI_clamp (by omega)]
  refine k_findEntries hG mk h.1 b4 b1 b6 b2 (by rw [e]; have := (gE_ok h hG).1; omega) (fun M' h1 h2 => ?_)
  rw [e] at h1
  exact hq M' h1 (rel_m h2)
set_option maxRecDepth 4000 in
theorem c_look1 (h : rG M n) (hG4 : G < 4) (th : ¬ M.1 66 G = 0) (hq : ∀ M', tabIs M' 8 9 10 11 12 (gE M G) → rel M M' → Q (some (.int 1)) (wm (sh0 ++ dy) M')) : sm_E L xs (d + 6) 73 [.ref 0, .int (nI G)] (wm (sh0 ++ dy) M) Q := by
  have hgr := h.2.1 G hG4
  obtain ⟨sg, -⟩ := gsh_at dy G hG4
  obtain ⟨H, W, b1, b2, b3, b4, b5, b6, gk, mk, v1, v2, a1, a2⟩ := rG_v h hG4
  have th1 : ¬ M.1 (45 + 5 * G) 4 = 0 := by rw [a1]; exact th
  refine e_intro rfl rfl ?_
  refine x_opp rfl rfl ?_
  refine m_getg (s_0 dy) rfl rfl rfl ?_
  refine x_opp rfl rfl ?_
  refine a_gr hG4 rfl rfl hgr ?_
  refine m_getg sg rfl rfl rfl ?_
  refine a_ifT rfl rfl br_ne (by first | exact th1 | exact nt_f th1 | exact tnf th1 | exact fnt th1 | exact Int32.not_lt.mp th1 | exact Int32.not_le.mp th1 | exact Int32.not_lt.mpr th1 | exact Int32.not_le.mpr th1) ?_
  refine x_opp rfl rfl ?_
  refine m_getg (s_0 dy) rfl rfl rfl ?_
  refine x_opp rfl rfl ?_
  refine m_getg (s_0 dy) rfl rfl rfl ?_
  refine x_opp rfl rfl ?_
  refine a_gr hG4 rfl rfl hgr ?_
  refine a_callV (s_8 dy) rfl rfl rfl rfl (c_ents h hG4 (fun M' h1 h2 => ?_))
  refine x_kcg rfl ?_
  refine a_zret rfl rfl (by first | exact zz_01 _ | exact Or.inl rfl | exact Or.inr rfl) ?_
  exact hq M' h1 h2
set_option maxRecDepth 4000 in
theorem c_look0 (h : rG M n) (hG4 : G < 4) (th : M.1 66 G = 0) (hq : Q (some (.int 0)) (wm (sh0 ++ dy) (nFind M 1 3 (nI 1)))) : sm_E L xs (d + 6) 73 [.ref 0, .int (nI G)] (wm (sh0 ++ dy) M) Q := by
  have hgr := h.2.1 G hG4
  obtain ⟨sg, -⟩ := gsh_at dy G hG4
  obtain ⟨H, W, b1, b2, b3, b4, b5, b6, gk, mk, v1, v2, a1, a2⟩ := rG_v h hG4
  have th1 : M.1 (45 + 5 * G) 4 = 0 := by rw [a1]; exact th
  refine e_intro rfl rfl ?_
  refine x_opp rfl rfl ?_
  refine m_getg (s_0 dy) rfl rfl rfl ?_
  refine x_opp rfl rfl ?_
  refine a_gr hG4 rfl rfl hgr ?_
  refine m_getg sg rfl rfl rfl ?_
  rw [th1]
  refine a_ifF rfl rfl br_ne (fun h => h rfl) ?_
  refine x_opp rfl rfl ?_
  refine m_getg (s_0 dy) rfl rfl rfl ?_
  refine x_kcg rfl ?_
  refine a_callV (s_1 dy) rfl rfl rfl rfl (c_find (s_1 dy) (s_3 dy) (by decide) (vp_in_nI (n := 1) (by decide) (by decide)) ?_)
  refine x_opp rfl rfl ?_
  refine x_kcg rfl ?_
  refine a_zret rfl rfl (by first | exact zz_01 _ | exact Or.inl rfl | exact Or.inr rfl) ?_
  exact hq
end RL
