/-! the entries of a grid, in the reference: all of them -/
theorem mI_at (M : mm_T) (a i : Nat) (v : Int32) (b j : Nat) : (m_setI M a i v).1 b j = if b = a ∧ j = i then v else M.1 b j := by
  by_cases h : b = a
  · subst h
    rw [mI_eq]
    unfold upd
    by_cases h2 : j = i <;> simp [h2]
  · rw [mI_ne _ _ _ h]
    simp [h]
def mTab (M : mm_T) (es : List eT) : Prop := M.1 65 32 = nI es.length ∧ ∀ k q, es[k]? = some q → M.1 91 k = nI (q.1 / 7) ∧ M.1 92 k = nI (q.1 % 7) ∧ M.1 93 k = zz q.2.1 ∧ M.1 94 k = nI q.2.2.1 ∧ M.1 95 k = nI q.2.2.2
def mFr (M M' : mm_T) : Prop := M'.2 = M.2 ∧ (∀ a, a ≠ 65 → (a < 91 ∨ 95 < a) → M'.1 a = M.1 a) ∧ ∀ f, f ≠ 32 → M'.1 65 f = M.1 65 f
theorem mFr_rfl (M : mm_T) : mFr M M := ⟨rfl, fun _ _ _ => rfl, fun _ _ => rfl⟩
theorem mTab_add {M M0 : mm_T} {es : List eT} {i j n m : Nat} {b : Bool} (hj : j < 7) (h : mTab M es) (hf : mFr M0 M) :
    mTab (mAdd M es.length (nI i) (nI j) (zz b) (nI n) (nI m)) (es ++ [(i * 7 + j, b, n, m)]) ∧ mFr M0 (mAdd M es.length (nI i) (nI j) (zz b) (nI n) (nI m)) := by
  unfold mAdd
  refine ⟨⟨?_, ?_⟩, hf.1, ?_, ?_⟩
  · rw [mI_at, if_pos ⟨rfl, rfl⟩, List.length_append]
    rfl
  · intro k q hk
    simp only [mI_at]
    by_cases hl : k < es.length
    · rw [List.getElem?_append_left hl] at hk
      have hne : k ≠ es.length := by omega
      simp only [hne, and_false, if_false]
      simpa using h.2 k q hk
    · rw [List.getElem?_append_right (by omega)] at hk
      have h1 : k - es.length < 1 := (List.getElem?_eq_some_iff.mp hk).1
      have h2 : k = es.length := by omega
      subst h2
      rw [Nat.sub_self] at hk
      cases hk
      have e1 : (i * 7 + j) / 7 = i := by omega
      have e2 : (i * 7 + j) % 7 = j := by omega
      simp [e1, e2]
  · intro a h1 h2
    funext x
    simp only [mI_at]
    have e : ∀ y, y = 65 ∨ (91 ≤ y ∧ y ≤ 95) → a ≠ y := by omega
    simp only [e 65 (by decide), e 91 (by decide), e 92 (by decide), e 93 (by decide), e 94 (by decide), e 95 (by decide), false_and, if_false]
    rw [hf.2.1 a h1 h2]
  · intro f h1
    simp only [mI_at]
    simp [h1]
    exact hf.2.2 f h1
theorem mFr_v {M M' : mm_T} {G : Nat} (h : mFr M M') : (M'.1 66 = M.1 66 ∧ M'.1 67 = M.1 67 ∧ M'.1 68 = M.1 68) ∧ mL M' G = mL M G ∧ mC M' G = mC M G ∧ (mgOK M G → mgOK M' G) ∧ (msOK M → msOK M') := by
  have e : ∀ a, a ≠ 65 → (a < 91 ∨ 95 < a) → M'.1 a = M.1 a := h.2.1
  have e66 := e 66 (by decide) (by decide)
  have e67 := e 67 (by decide) (by decide)
  have e68 := e 68 (by decide) (by decide)
  have e69 := e 69 (by decide) (by decide)
  have e70 := e 70 (by decide) (by decide)
  have e71 := e 71 (by decide) (by decide)
  have e72 := e 72 (by decide) (by decide)
  refine ⟨⟨e66, e67, e68⟩, ?_, ?_, ?_, ?_⟩
  · unfold mL
    rw [e69]
  · unfold mC tld
    rw [e70, e71, e72]
  · unfold mgOK mL
    rw [e67, e68, e69]
    exact id
  · unfold msOK
    rw [e70, e71, e72]
    exact id
section ME
variable {L : Nat} {xs : Nat → Int32} {d : Nat} {dy : List sh_T} {M : mm_T} {Q : Option Value → sm_W → Prop} {G : Nat}
set_option maxRecDepth 4000 in
theorem k_findEntries {H Wd : Nat} (hG : G < 4) (hk : mgOK M G) (hs : msOK M) (hH : M.1 67 G = nI H) (hH7 : H ≤ 7) (hW : M.1 68 G = nI Wd) (hW7 : Wd ≤ 7)
    (h48 : (ents (M.1 67 G) (mL M G) (mC M G) Wd H).length ≤ 48)
    (hq : ∀ M', mTab M' (ents (M.1 67 G) (mL M G) (mC M G) Wd H) → mFr M M' → Q none (wm (sh0 ++ dy) M')) : sm_E L xs (d + 6) 183 [.ref 65, .int (nI G)] (wm (sh0 ++ dy) M) Q := by
  unfold ents at h48 hq
  generalize hA : eA (M.1 67 G) (mL M G) (mC M G) = A at h48 hq
  generalize hB : eB (M.1 67 G) (mL M G) (mC M G) = B at h48 hq
  generalize hla : eLa (M.1 67 G) (mL M G) (mC M G) = la at h48 hq
  generalize hlb : eLb (M.1 67 G) (mL M G) (mC M G) = lb at h48 hq
  have hm := s_65 dy
  refine e_intro rfl rfl ?_
  repeat (first | refine x_kcg rfl ?_ | refine x_incg rfl rfl ?_ | refine x_opp rfl rfl ?_)
  refine m_putI hm rfl ?_
  repeat (first | refine x_kcg rfl ?_ | refine x_incg rfl rfl ?_ | refine x_opp rfl rfl ?_)
  refine x_fall ?_
  refine x_lvs [(0, .ref 65), (1, .int (nI G)), (2, .int (nI (0 + 1))), (3, .int (nI 0))] rfl rfl rfl ⟨rfl, rfl, rfl, rfl, trivial⟩ ?_
  have hstart : mTab (m_setI M 65 32 0) [] ∧ mFr M (m_setI M 65 32 0) := by
    refine ⟨⟨by rw [mI_at, if_pos ⟨rfl, rfl⟩]; rfl, fun k q h => (by cases h)⟩, rfl, fun a h1 _ => mI_ne _ _ _ h1, fun f h1 => ?_⟩
    rw [mI_at, if_neg (fun h => h1 h.2)]
  refine loop_dn (P := fun i => ∀ M', mTab M' (eAll A B la lb Wd i).1 → mFr M M' → sm_X L xs (d + 5) 183 1 (sm_code 183 1) [(0, .ref 65), (1, .int (nI G)), (2, .int (nI ((eAll A B la lb Wd i).2 + 1))), (3, .int (nI i))] [] (wm (sh0 ++ dy) M') Q) H ?_ ?_ _ hstart.1 hstart.2
  · intro M' h1 h2
    obtain ⟨⟨-, k1, -⟩, -⟩ := mFr_v (G := G) h2
    have kk : M'.1 67 G = nI H := by rw [k1, hH]
    have hle : nI H ≤ nI H := nI_le (Nat.le_refl H) (by omega)
    repeat (first | refine x_kcg rfl ?_ | refine x_opp rfl rfl ?_ | refine x_go rfl ?_ | refine m_getg hm rfl rfl rfl ?_)
    refine m_iald (s_67 dy) (vp_in_nI hG (by decide)) ?_
    rw [nI_clamp (by omega), kk]
    refine x_icm br_ge (fun _ => ?_) (fun h3 => absurd hle h3)
    exact x_ret (hq M' h1 h2)
  · intro i hi hP M' h1 h2
    obtain ⟨⟨-, k1, -⟩, -⟩ := mFr_v (G := G) h2
    repeat (first | refine x_kcg rfl ?_ | refine x_opp rfl rfl ?_ | refine x_go rfl ?_ | refine m_getg hm rfl rfl rfl ?_)
    refine m_iald (s_67 dy) (vp_in_nI hG (by decide)) ?_
    rw [nI_clamp (by omega), k1, hH]
    refine x_icm br_ge (fun h3 => absurd h3 (nI_ge hi (by omega))) (fun _ => ?_)
    repeat (first | refine x_kcg rfl ?_ | refine x_incg rfl rfl ?_ | refine x_opp rfl rfl ?_)
    refine x_fall ?_
    refine x_lvs [(0, .ref 65), (1, .int (nI G)), (2, .int (nI ((eRow A B la lb i (eAll A B la lb Wd i) 0).2 + 1))), (3, .int (nI i)), (4, .int (nI 0))] rfl rfl rfl ⟨rfl, rfl, rfl, rfl, rfl, trivial⟩ ?_
    refine loop_dn (P := fun j => ∀ M', mTab M' (eRow A B la lb i (eAll A B la lb Wd i) j).1 → mFr M M' → sm_X L xs (d + 5) 183 3 (sm_code 183 3) [(0, .ref 65), (1, .int (nI G)), (2, .int (nI ((eRow A B la lb i (eAll A B la lb Wd i) j).2 + 1))), (3, .int (nI i)), (4, .int (nI j))] [] (wm (sh0 ++ dy) M') Q) Wd ?_ ?_ M' h1 h2
    · intro M1 g1 g2
      obtain ⟨⟨-, -, k1⟩, -⟩ := mFr_v (G := G) g2
      repeat (first | refine x_kcg rfl ?_ | refine x_opp rfl rfl ?_ | refine x_go rfl ?_ | refine m_getg hm rfl rfl rfl ?_)
      refine m_iald (s_68 dy) (vp_in_nI hG (by decide)) ?_
      rw [nI_clamp (by omega), k1, hW]
      refine x_icm br_ge (fun _ => ?_) (fun h3 => absurd (nI_le (Nat.le_refl Wd) (by omega)) h3)
      repeat (first | refine x_kcg rfl ?_ | refine x_incg rfl rfl ?_ | refine x_opp rfl rfl ?_)
      refine x_goto ?_
      refine x_lvs [(0, .ref 65), (1, .int (nI G)), (2, .int (nI ((eAll A B la lb Wd (i + 1)).2 + 1))), (3, .int (nI (i + 1)))] rfl rfl rfl ⟨rfl, rfl, rfl, rfl, trivial⟩ ?_
      exact hP M1 g1 g2
    · intro j hj hP2 M1 g1 g2
      have hle : (eStep A B la lb i j (eRow A B la lb i (eAll A B la lb Wd i) j)).1.length ≤ 48 := by
        refine Nat.le_trans ?_ h48
        refine Nat.le_trans ?_ (eAll_le A B la lb Wd (show i + 1 ≤ H by omega))
        exact eRow_le A B la lb i _ (show j + 1 ≤ Wd by omega)
      have hP3 : ∀ M', mTab M' (eStep A B la lb i j (eRow A B la lb i (eAll A B la lb Wd i) j)).1 → mFr M M' → sm_X L xs (d + 5) 183 3 (sm_code 183 3) [(0, .ref 65), (1, .int (nI G)), (2, .int (nI ((eStep A B la lb i j (eRow A B la lb i (eAll A B la lb Wd i) j)).2 + 1))), (3, .int (nI i)), (4, .int (nI (j + 1)))] [] (wm (sh0 ++ dy) M') Q := hP2
      generalize eRow A B la lb i (eAll A B la lb Wd i) j = s at g1 hle hP3 ⊢
      obtain ⟨es, num⟩ := s
      dsimp only at g1 ⊢
      unfold eStep at hle hP3
      dsimp only at hle hP3
      generalize hn1 : num + (if (A i j || B i j) = true then 1 else 0) = n1 at hle hP3
      rw [List.length_append, List.length_append] at hle
      have T12 : ∀ M2 (v : Int32), nI (num + 1) + v = nI (n1 + 1) → mTab M2 (es ++ ((if A i j = true then [(i * 7 + j, false, la i j, n1)] else []) ++ (if B i j = true then [(i * 7 + j, true, lb i j, n1)] else []))) → mFr M M2 → sm_X L xs (d + 5) 183 12 (sm_code 183 12) [(0, .ref 65), (1, .int (nI G)), (2, .int (nI (num + 1))), (3, .int (nI i)), (4, .int (nI j)), (5, .int (zz (A i j))), (6, .int (zz (B i j)))] [.int v, .int (nI (num + 1))] (wm (sh0 ++ dy) M2) Q := by
        intro M2 v e q1 q2
        repeat (first | refine x_kcg rfl ?_ | refine x_incg rfl rfl ?_ | refine x_opp rfl rfl ?_)
        rw [e]
        refine x_goto ?_
        refine x_lvs [(0, .ref 65), (1, .int (nI G)), (2, .int (nI (n1 + 1))), (3, .int (nI i)), (4, .int (nI (j + 1)))] rfl rfl rfl ⟨rfl, rfl, rfl, rfl, rfl, trivial⟩ ?_
        exact hP3 M2 q1 q2
      have T8 : ∀ M2, mTab M2 (es ++ ((if A i j = true then [(i * 7 + j, false, la i j, n1)] else []) ++ (if B i j = true then [(i * 7 + j, true, lb i j, n1)] else []))) → mFr M M2 → sm_X L xs (d + 5) 183 8 (sm_code 183 8) [(0, .ref 65), (1, .int (nI G)), (2, .int (nI (num + 1))), (3, .int (nI i)), (4, .int (nI j)), (5, .int (zz (A i j))), (6, .int (zz (B i j)))] [] (wm (sh0 ++ dy) M2) Q := by
        intro M2 q1 q2
        have e1 : (A i j || B i j) = true → nI (num + 1) + 1 = nI (n1 + 1) := by
          intro h
          rw [if_pos h] at hn1
          subst hn1
          rw [nI_1]
        have e0 : ¬ (A i j || B i j) = true → nI (num + 1) + 0 = nI (n1 + 1) := by
          intro h
          rw [if_neg h] at hn1
          subst hn1
          exact Int32.add_zero _
        by_cases a1 : A i j = true
        · have e2 := e1 (by rw [a1]; rfl)
          repeat' (first | (refine a_stop 12 rfl ?_; exact T12 M2 _ e2 q1 q2) | refine x_kcg rfl ?_ | refine x_incg rfl rfl ?_ | refine x_opp rfl rfl ?_ | refine x_go rfl ?_ | (refine a_at isIf rfl ?_; first | (refine a_ifT rfl rfl br_eqz (by assumption) ?_) | (refine a_ifF rfl rfl br_eqz (by assumption) ?_) | (refine a_ifT rfl rfl br_nez (by assumption) ?_) | (refine a_ifF rfl rfl br_nez (by assumption) ?_) | (refine a_ifT rfl rfl br_eqz (nt_f (by assumption)) ?_) | (refine a_ifF rfl rfl br_eqz (tnf (by assumption)) ?_) | (refine a_ifF rfl rfl br_nez (fnt (by assumption)) ?_) | (refine a_if rfl rfl br_eqz (fun _ => ?_) (fun _ => ?_)) | (refine a_if rfl rfl br_nez (fun _ => ?_) (fun _ => ?_)) | (refine a_ifF rfl rfl br_ne (fun h => h (by assumption)) ?_) | (refine a_ifT rfl rfl br_eq (by assumption) ?_) | (refine a_ifF rfl rfl br_eq (by assumption) ?_) | (refine a_ifT rfl rfl br_ne (by assumption) ?_) | (refine a_ifF rfl rfl br_ne (by assumption) ?_) | (refine a_ifT rfl rfl br_lt (by assumption) ?_) | (refine a_ifF rfl rfl br_lt (by assumption) ?_) | (refine a_ifT rfl rfl br_ge (by assumption) ?_) | (refine a_ifF rfl rfl br_ge (by assumption) ?_) | (refine a_ifT rfl rfl br_gt (by assumption) ?_) | (refine a_ifF rfl rfl br_gt (by assumption) ?_) | (refine a_ifT rfl rfl br_le (by assumption) ?_) | (refine a_ifF rfl rfl br_le (by assumption) ?_) | (refine a_if rfl rfl br_eq (fun _ => ?_) (fun _ => ?_)) | (refine a_if rfl rfl br_ne (fun _ => ?_) (fun _ => ?_)) | (refine a_if rfl rfl br_lt (fun _ => ?_) (fun _ => ?_)) | (refine a_if rfl rfl br_ge (fun _ => ?_) (fun _ => ?_)) | (refine a_if rfl rfl br_gt (fun _ => ?_) (fun _ => ?_)) | (refine a_if rfl rfl br_le (fun _ => ?_) (fun _ => ?_))) | (refine a_at isIc rfl ?_; first | (refine a_icF rfl rfl br_ne (fun h => h (by assumption)) ?_) | (refine a_icT rfl rfl br_eq (by assumption) ?_) | (refine a_icF rfl rfl br_eq (by assumption) ?_) | (refine a_icT rfl rfl br_ne (by assumption) ?_) | (refine a_icF rfl rfl br_ne (by assumption) ?_) | (refine a_icT rfl rfl br_lt (by assumption) ?_) | (refine a_icF rfl rfl br_lt (by assumption) ?_) | (refine a_icT rfl rfl br_ge (by assumption) ?_) | (refine a_icF rfl rfl br_ge (by assumption) ?_) | (refine a_icT rfl rfl br_gt (by assumption) ?_) | (refine a_icF rfl rfl br_gt (by assumption) ?_) | (refine a_icT rfl rfl br_le (by assumption) ?_) | (refine a_icF rfl rfl br_le (by assumption) ?_) | (refine a_ic rfl rfl br_eq (fun _ => ?_) (fun _ => ?_)) | (refine a_ic rfl rfl br_ne (fun _ => ?_) (fun _ => ?_)) | (refine a_ic rfl rfl br_lt (fun _ => ?_) (fun _ => ?_)) | (refine a_ic rfl rfl br_ge (fun _ => ?_) (fun _ => ?_)) | (refine a_ic rfl rfl br_gt (fun _ => ?_) (fun _ => ?_)) | (refine a_ic rfl rfl br_le (fun _ => ?_) (fun _ => ?_))) | (refine a_at isRt rfl ?_; first | refine a_iret rfl rfl rfl ?_ | refine a_zret rfl rfl ?_ ?_ | refine a_lret rfl rfl ?_ | refine a_ret rfl rfl ?_))
        · by_cases b1 : B i j = true
          · have e2 := e1 (by rw [b1, Bool.or_true])
            repeat' (first | (refine a_stop 12 rfl ?_; exact T12 M2 _ e2 q1 q2) | refine x_kcg rfl ?_ | refine x_incg rfl rfl ?_ | refine x_opp rfl rfl ?_ | refine x_go rfl ?_ | (refine a_at isIf rfl ?_; first | (refine a_ifT rfl rfl br_eqz (by assumption) ?_) | (refine a_ifF rfl rfl br_eqz (by assumption) ?_) | (refine a_ifT rfl rfl br_nez (by assumption) ?_) | (refine a_ifF rfl rfl br_nez (by assumption) ?_) | (refine a_ifT rfl rfl br_eqz (nt_f (by assumption)) ?_) | (refine a_ifF rfl rfl br_eqz (tnf (by assumption)) ?_) | (refine a_ifF rfl rfl br_nez (fnt (by assumption)) ?_) | (refine a_if rfl rfl br_eqz (fun _ => ?_) (fun _ => ?_)) | (refine a_if rfl rfl br_nez (fun _ => ?_) (fun _ => ?_)) | (refine a_ifF rfl rfl br_ne (fun h => h (by assumption)) ?_) | (refine a_ifT rfl rfl br_eq (by assumption) ?_) | (refine a_ifF rfl rfl br_eq (by assumption) ?_) | (refine a_ifT rfl rfl br_ne (by assumption) ?_) | (refine a_ifF rfl rfl br_ne (by assumption) ?_) | (refine a_ifT rfl rfl br_lt (by assumption) ?_) | (refine a_ifF rfl rfl br_lt (by assumption) ?_) | (refine a_ifT rfl rfl br_ge (by assumption) ?_) | (refine a_ifF rfl rfl br_ge (by assumption) ?_) | (refine a_ifT rfl rfl br_gt (by assumption) ?_) | (refine a_ifF rfl rfl br_gt (by assumption) ?_) | (refine a_ifT rfl rfl br_le (by assumption) ?_) | (refine a_ifF rfl rfl br_le (by assumption) ?_) | (refine a_if rfl rfl br_eq (fun _ => ?_) (fun _ => ?_)) | (refine a_if rfl rfl br_ne (fun _ => ?_) (fun _ => ?_)) | (refine a_if rfl rfl br_lt (fun _ => ?_) (fun _ => ?_)) | (refine a_if rfl rfl br_ge (fun _ => ?_) (fun _ => ?_)) | (refine a_if rfl rfl br_gt (fun _ => ?_) (fun _ => ?_)) | (refine a_if rfl rfl br_le (fun _ => ?_) (fun _ => ?_))) | (refine a_at isIc rfl ?_; first | (refine a_icF rfl rfl br_ne (fun h => h (by assumption)) ?_) | (refine a_icT rfl rfl br_eq (by assumption) ?_) | (refine a_icF rfl rfl br_eq (by assumption) ?_) | (refine a_icT rfl rfl br_ne (by assumption) ?_) | (refine a_icF rfl rfl br_ne (by assumption) ?_) | (refine a_icT rfl rfl br_lt (by assumption) ?_) | (refine a_icF rfl rfl br_lt (by assumption) ?_) | (refine a_icT rfl rfl br_ge (by assumption) ?_) | (refine a_icF rfl rfl br_ge (by assumption) ?_) | (refine a_icT rfl rfl br_gt (by assumption) ?_) | (refine a_icF rfl rfl br_gt (by assumption) ?_) | (refine a_icT rfl rfl br_le (by assumption) ?_) | (refine a_icF rfl rfl br_le (by assumption) ?_) | (refine a_ic rfl rfl br_eq (fun _ => ?_) (fun _ => ?_)) | (refine a_ic rfl rfl br_ne (fun _ => ?_) (fun _ => ?_)) | (refine a_ic rfl rfl br_lt (fun _ => ?_) (fun _ => ?_)) | (refine a_ic rfl rfl br_ge (fun _ => ?_) (fun _ => ?_)) | (refine a_ic rfl rfl br_gt (fun _ => ?_) (fun _ => ?_)) | (refine a_ic rfl rfl br_le (fun _ => ?_) (fun _ => ?_))) | (refine a_at isRt rfl ?_; first | refine a_iret rfl rfl rfl ?_ | refine a_zret rfl rfl ?_ ?_ | refine a_lret rfl rfl ?_ | refine a_ret rfl rfl ?_))
          · have e2 := e0 (by rw [nt_f a1, nt_f b1]; exact Bool.false_ne_true)
            repeat' (first | (refine a_stop 12 rfl ?_; exact T12 M2 _ e2 q1 q2) | refine x_kcg rfl ?_ | refine x_incg rfl rfl ?_ | refine x_opp rfl rfl ?_ | refine x_go rfl ?_ | (refine a_at isIf rfl ?_; first | (refine a_ifT rfl rfl br_eqz (by assumption) ?_) | (refine a_ifF rfl rfl br_eqz (by assumption) ?_) | (refine a_ifT rfl rfl br_nez (by assumption) ?_) | (refine a_ifF rfl rfl br_nez (by assumption) ?_) | (refine a_ifT rfl rfl br_eqz (nt_f (by assumption)) ?_) | (refine a_ifF rfl rfl br_eqz (tnf (by assumption)) ?_) | (refine a_ifF rfl rfl br_nez (fnt (by assumption)) ?_) | (refine a_if rfl rfl br_eqz (fun _ => ?_) (fun _ => ?_)) | (refine a_if rfl rfl br_nez (fun _ => ?_) (fun _ => ?_)) | (refine a_ifF rfl rfl br_ne (fun h => h (by assumption)) ?_) | (refine a_ifT rfl rfl br_eq (by assumption) ?_) | (refine a_ifF rfl rfl br_eq (by assumption) ?_) | (refine a_ifT rfl rfl br_ne (by assumption) ?_) | (refine a_ifF rfl rfl br_ne (by assumption) ?_) | (refine a_ifT rfl rfl br_lt (by assumption) ?_) | (refine a_ifF rfl rfl br_lt (by assumption) ?_) | (refine a_ifT rfl rfl br_ge (by assumption) ?_) | (refine a_ifF rfl rfl br_ge (by assumption) ?_) | (refine a_ifT rfl rfl br_gt (by assumption) ?_) | (refine a_ifF rfl rfl br_gt (by assumption) ?_) | (refine a_ifT rfl rfl br_le (by assumption) ?_) | (refine a_ifF rfl rfl br_le (by assumption) ?_) | (refine a_if rfl rfl br_eq (fun _ => ?_) (fun _ => ?_)) | (refine a_if rfl rfl br_ne (fun _ => ?_) (fun _ => ?_)) | (refine a_if rfl rfl br_lt (fun _ => ?_) (fun _ => ?_)) | (refine a_if rfl rfl br_ge (fun _ => ?_) (fun _ => ?_)) | (refine a_if rfl rfl br_gt (fun _ => ?_) (fun _ => ?_)) | (refine a_if rfl rfl br_le (fun _ => ?_) (fun _ => ?_))) | (refine a_at isIc rfl ?_; first | (refine a_icF rfl rfl br_ne (fun h => h (by assumption)) ?_) | (refine a_icT rfl rfl br_eq (by assumption) ?_) | (refine a_icF rfl rfl br_eq (by assumption) ?_) | (refine a_icT rfl rfl br_ne (by assumption) ?_) | (refine a_icF rfl rfl br_ne (by assumption) ?_) | (refine a_icT rfl rfl br_lt (by assumption) ?_) | (refine a_icF rfl rfl br_lt (by assumption) ?_) | (refine a_icT rfl rfl br_ge (by assumption) ?_) | (refine a_icF rfl rfl br_ge (by assumption) ?_) | (refine a_icT rfl rfl br_gt (by assumption) ?_) | (refine a_icF rfl rfl br_gt (by assumption) ?_) | (refine a_icT rfl rfl br_le (by assumption) ?_) | (refine a_icF rfl rfl br_le (by assumption) ?_) | (refine a_ic rfl rfl br_eq (fun _ => ?_) (fun _ => ?_)) | (refine a_ic rfl rfl br_ne (fun _ => ?_) (fun _ => ?_)) | (refine a_ic rfl rfl br_lt (fun _ => ?_) (fun _ => ?_)) | (refine a_ic rfl rfl br_ge (fun _ => ?_) (fun _ => ?_)) | (refine a_ic rfl rfl br_gt (fun _ => ?_) (fun _ => ?_)) | (refine a_ic rfl rfl br_le (fun _ => ?_) (fun _ => ?_))) | (refine a_at isRt rfl ?_; first | refine a_iret rfl rfl rfl ?_ | refine a_zret rfl rfl ?_ ?_ | refine a_lret rfl rfl ?_ | refine a_ret rfl rfl ?_))
      have num1 : (A i j || B i j) = true → n1 = num + 1 := by
        intro h
        rw [if_pos h] at hn1
        exact hn1.symm
      have T6 : ∀ M2, mTab M2 (es ++ (if A i j = true then [(i * 7 + j, false, la i j, n1)] else [])) → mFr M M2 → sm_X L xs (d + 5) 183 6 (sm_code 183 6) [(0, .ref 65), (1, .int (nI G)), (2, .int (nI (num + 1))), (3, .int (nI i)), (4, .int (nI j)), (5, .int (zz (A i j))), (6, .int (zz (B i j)))] [] (wm (sh0 ++ dy) M2) Q := by
        intro M2 q1 q2
        repeat (first | refine x_kcg rfl ?_ | refine x_opp rfl rfl ?_ | refine x_go rfl ?_)
        refine x_ifc br_eqz (fun h3 => ?_) (fun h3 => ?_)
        · refine T8 M2 ?_ q2
          rw [if_neg (show ¬ B i j = true by rw [h3]; exact Bool.false_ne_true), List.append_nil]
          exact q1
        · have h3 := nf_t h3
          obtain ⟨⟨-, u1, -⟩, u2, u3, u4, u5⟩ := mFr_v (G := G) q2
          rw [if_pos h3] at hle
          rw [show ([(i * 7 + j, true, lb i j, n1)] : List eT).length = 1 from rfl] at hle
          have hlen : (es ++ (if A i j = true then [(i * 7 + j, false, la i j, n1)] else [])).length < 48 := by
            rw [List.length_append]
            omega
          repeat (first | refine x_kcg rfl ?_ | refine x_opp rfl rfl ?_ | refine x_go rfl ?_)
          refine m_callV hm rfl rfl rfl (k_addB hG (u4 hk) (u5 hs) (by omega) hlen q1.1 ?_)
          rw [u1, u2, u3, show eLb (M.1 67 G) (mL M G) (mC M G) i j = lb i j by rw [hlb]]
          obtain ⟨v1, v2⟩ := mTab_add (i := i) (j := j) (b := true) (n := lb i j) (m := num + 1) (by omega) q1 q2
          repeat (first | refine x_kcg rfl ?_ | refine x_incg rfl rfl ?_ | refine x_opp rfl rfl ?_)
          refine x_fall ?_
          refine x_lvs [(0, .ref 65), (1, .int (nI G)), (2, .int (nI (num + 1))), (3, .int (nI i)), (4, .int (nI j)), (5, .int (zz (A i j))), (6, .int (zz (B i j)))] rfl rfl rfl ⟨rfl, rfl, rfl, rfl, rfl, rfl, rfl, trivial⟩ ?_
          refine T8 _ ?_ v2
          rw [if_pos h3, ← List.append_assoc]
          have en := num1 (by rw [h3, Bool.or_true])
          rw [en]
          rw [en] at v1
          exact v1
      have ea : eA (M.1 67 G) (mL M G) (mC M G) i j = A i j := by rw [hA]
      have eb : eB (M.1 67 G) (mL M G) (mC M G) i j = B i j := by rw [hB]
      obtain ⟨⟨-, u1, k68⟩, u2, u3, u4, u5⟩ := mFr_v (G := G) g2
      repeat (first | refine x_kcg rfl ?_ | refine x_opp rfl rfl ?_ | refine x_go rfl ?_ | refine m_getg hm rfl rfl rfl ?_)
      refine m_iald (s_68 dy) (vp_in_nI hG (by decide)) ?_
      rw [nI_clamp (by omega), k68, hW]
      refine x_icm br_ge (fun h3 => absurd h3 (nI_ge hj (by omega))) (fun _ => ?_)
      repeat (first | refine x_kcg rfl ?_ | refine x_opp rfl rfl ?_ | refine x_go rfl ?_)
      refine m_callV hm rfl rfl rfl (k_beginsA hG (u4 hk) (u5 hs) ?_)
      rw [u1, u2, u3, ea]
      repeat (first | refine x_kcg rfl ?_ | refine x_opp rfl rfl ?_ | refine x_go rfl ?_)
      refine m_callV hm rfl rfl rfl (k_beginsB hG (u4 hk) (u5 hs) ?_)
      rw [u1, u2, u3, eb]
      repeat (first | refine x_kcg rfl ?_ | refine x_opp rfl rfl ?_ | refine x_go rfl ?_)
      refine x_ifc br_eqz (fun h3 => ?_) (fun h3 => ?_)
      · refine x_lvs [(0, .ref 65), (1, .int (nI G)), (2, .int (nI (num + 1))), (3, .int (nI i)), (4, .int (nI j)), (5, .int (zz (A i j))), (6, .int (zz (B i j)))] rfl rfl rfl ⟨rfl, rfl, rfl, rfl, rfl, rfl, rfl, trivial⟩ ?_
        refine T6 M1 ?_ g2
        rw [if_neg (show ¬ A i j = true by rw [h3]; exact Bool.false_ne_true), List.append_nil]
        exact g1
      · have h3 := nf_t h3
        rw [if_pos h3] at hle
        rw [show ([(i * 7 + j, false, la i j, n1)] : List eT).length = 1 from rfl] at hle
        have hlen : es.length < 48 := by omega
        repeat (first | refine x_kcg rfl ?_ | refine x_opp rfl rfl ?_ | refine x_go rfl ?_)
        refine m_callV hm rfl rfl rfl (k_addA hG (u4 hk) (u5 hs) (by omega) hlen g1.1 ?_)
        rw [u1, u2, u3, show eLa (M.1 67 G) (mL M G) (mC M G) i j = la i j by rw [hla]]
        obtain ⟨v1, v2⟩ := mTab_add (i := i) (j := j) (b := false) (n := la i j) (m := num + 1) (by omega) g1 g2
        repeat (first | refine x_kcg rfl ?_ | refine x_incg rfl rfl ?_ | refine x_opp rfl rfl ?_)
        refine x_fall ?_
        refine x_lvs [(0, .ref 65), (1, .int (nI G)), (2, .int (nI (num + 1))), (3, .int (nI i)), (4, .int (nI j)), (5, .int (zz (A i j))), (6, .int (zz (B i j)))] rfl rfl rfl ⟨rfl, rfl, rfl, rfl, rfl, rfl, rfl, trivial⟩ ?_
        refine T6 _ ?_ v2
        rw [if_pos h3]
        have en := num1 (by rw [h3]; rfl)
        rw [en]
        exact v1
def mPl (e : eT) (i : Nat) : Nat := e.1 + i * (if e.2.1 = true then 7 else 1)
set_option maxRecDepth 4000 in
theorem k_placeOf {es : List eT} {k i : Nat} {e : eT} (ht : mTab M es) (he : es[k]? = some e) (h48 : k < 48) (hq : Q (some (.int (nI (mPl e i)))) (wm (sh0 ++ dy) M)) : sm_E L xs (d + 1) 191 [.ref 65, .int (nI k), .int (nI i)] (wm (sh0 ++ dy) M) Q := by
  obtain ⟨t1, t2, t3, -, -⟩ := ht.2 k e he
  refine e_intro rfl rfl ?_
  unfold mPl at hq
  cases hb : e.2.1 with
  | true =>
    rw [hb] at t3
    have z := z10
    have e1 : 7 * (nI (e.1 / 7) + nI i) + nI (e.1 % 7) = nI (e.1 + i * 7) := by
      rw [nI_add, show (7 : Int32) = nI 7 from rfl, pk_mul, nI_add]
      congr 1
      omega
    rw [hb, if_pos rfl, ← e1, ← t1, ← t2] at hq
    have t3 : ¬ M.1 93 k = 0 := by rw [t3]; exact z
    repeat' (first | refine x_kcg rfl ?_ | refine x_incg rfl rfl ?_ | refine x_opp rfl rfl ?_ | refine x_go rfl ?_ | (refine a_at isGf rfl ?_; first | refine m_getg (s_65 dy) rfl rfl rfl ?_) | (refine a_at isPf rfl ?_; first | refine a_putI (s_65 dy) rfl rfl rfl ?_ | refine a_putL (s_65 dy) rfl rfl rfl ?_) | (refine a_at isAr rfl ?_; first | refine a_ialdN (s_91 dy) (k := k) rfl rfl rfl (by omega) (by decide) ?_ | refine a_baldN (s_91 dy) (k := k) rfl rfl rfl (by omega) (by decide) ?_ | refine a_laldN (s_91 dy) (k := k) rfl rfl rfl (by omega) (by decide) ?_ | refine a_iastN (s_91 dy) (k := k) rfl rfl rfl (by omega) (by decide) ?_ | refine a_lastN (s_91 dy) (k := k) rfl rfl rfl (by omega) (by decide) ?_ | refine a_bastN (s_91 dy) (k := k) rfl rfl rfl (by omega) (by decide) ?_ ?_ | refine a_ialdN (s_92 dy) (k := k) rfl rfl rfl (by omega) (by decide) ?_ | refine a_baldN (s_92 dy) (k := k) rfl rfl rfl (by omega) (by decide) ?_ | refine a_laldN (s_92 dy) (k := k) rfl rfl rfl (by omega) (by decide) ?_ | refine a_iastN (s_92 dy) (k := k) rfl rfl rfl (by omega) (by decide) ?_ | refine a_lastN (s_92 dy) (k := k) rfl rfl rfl (by omega) (by decide) ?_ | refine a_bastN (s_92 dy) (k := k) rfl rfl rfl (by omega) (by decide) ?_ ?_ | refine a_ialdN (s_93 dy) (k := k) rfl rfl rfl (by omega) (by decide) ?_ | refine a_baldN (s_93 dy) (k := k) rfl rfl rfl (by omega) (by decide) ?_ | refine a_laldN (s_93 dy) (k := k) rfl rfl rfl (by omega) (by decide) ?_ | refine a_iastN (s_93 dy) (k := k) rfl rfl rfl (by omega) (by decide) ?_ | refine a_lastN (s_93 dy) (k := k) rfl rfl rfl (by omega) (by decide) ?_ | refine a_bastN (s_93 dy) (k := k) rfl rfl rfl (by omega) (by decide) ?_ ?_) | (refine a_at isIf rfl ?_; first | (refine a_ifF rfl rfl br_ne (fun h => h (by assumption)) ?_) | (refine a_ifT rfl rfl br_eq (by assumption) ?_) | (refine a_ifF rfl rfl br_eq (by assumption) ?_) | (refine a_ifT rfl rfl br_ne (by assumption) ?_) | (refine a_ifF rfl rfl br_ne (by assumption) ?_) | (refine a_ifT rfl rfl br_lt (by assumption) ?_) | (refine a_ifF rfl rfl br_lt (by assumption) ?_) | (refine a_ifT rfl rfl br_ge (by assumption) ?_) | (refine a_ifF rfl rfl br_ge (by assumption) ?_) | (refine a_ifT rfl rfl br_gt (by assumption) ?_) | (refine a_ifF rfl rfl br_gt (by assumption) ?_) | (refine a_ifT rfl rfl br_le (by assumption) ?_) | (refine a_ifF rfl rfl br_le (by assumption) ?_) | (refine a_if rfl rfl br_eq (fun _ => ?_) (fun _ => ?_)) | (refine a_if rfl rfl br_ne (fun _ => ?_) (fun _ => ?_)) | (refine a_if rfl rfl br_lt (fun _ => ?_) (fun _ => ?_)) | (refine a_if rfl rfl br_ge (fun _ => ?_) (fun _ => ?_)) | (refine a_if rfl rfl br_gt (fun _ => ?_) (fun _ => ?_)) | (refine a_if rfl rfl br_le (fun _ => ?_) (fun _ => ?_))) | (refine a_at isIc rfl ?_; first | (refine a_icF rfl rfl br_ne (fun h => h (by assumption)) ?_) | (refine a_icT rfl rfl br_eq (by assumption) ?_) | (refine a_icF rfl rfl br_eq (by assumption) ?_) | (refine a_icT rfl rfl br_ne (by assumption) ?_) | (refine a_icF rfl rfl br_ne (by assumption) ?_) | (refine a_icT rfl rfl br_lt (by assumption) ?_) | (refine a_icF rfl rfl br_lt (by assumption) ?_) | (refine a_icT rfl rfl br_ge (by assumption) ?_) | (refine a_icF rfl rfl br_ge (by assumption) ?_) | (refine a_icT rfl rfl br_gt (by assumption) ?_) | (refine a_icF rfl rfl br_gt (by assumption) ?_) | (refine a_icT rfl rfl br_le (by assumption) ?_) | (refine a_icF rfl rfl br_le (by assumption) ?_) | (refine a_ic rfl rfl br_eq (fun _ => ?_) (fun _ => ?_)) | (refine a_ic rfl rfl br_ne (fun _ => ?_) (fun _ => ?_)) | (refine a_ic rfl rfl br_lt (fun _ => ?_) (fun _ => ?_)) | (refine a_ic rfl rfl br_ge (fun _ => ?_) (fun _ => ?_)) | (refine a_ic rfl rfl br_gt (fun _ => ?_) (fun _ => ?_)) | (refine a_ic rfl rfl br_le (fun _ => ?_) (fun _ => ?_))) | (refine a_at isRt rfl ?_; first | refine a_iret rfl rfl rfl ?_ | refine a_zret rfl rfl ?_ ?_ | refine a_lret rfl rfl ?_ | refine a_ret rfl rfl ?_))
    exact hq
  | false =>
    rw [hb] at t3
    have e1 : 7 * nI (e.1 / 7) + nI (e.1 % 7) + nI i = nI (e.1 + i * 1) := by
      rw [show (7 : Int32) = nI 7 from rfl, pk_mul, nI_add, nI_add]
      congr 1
      omega
    rw [hb, if_neg (by decide), ← e1, ← t1, ← t2] at hq
    have t3 : M.1 93 k = 0 := t3
    repeat' (first | refine x_kcg rfl ?_ | refine x_incg rfl rfl ?_ | refine x_opp rfl rfl ?_ | refine x_go rfl ?_ | (refine a_at isGf rfl ?_; first | refine m_getg (s_65 dy) rfl rfl rfl ?_) | (refine a_at isPf rfl ?_; first | refine a_putI (s_65 dy) rfl rfl rfl ?_ | refine a_putL (s_65 dy) rfl rfl rfl ?_) | (refine a_at isAr rfl ?_; first | refine a_ialdN (s_91 dy) (k := k) rfl rfl rfl (by omega) (by decide) ?_ | refine a_baldN (s_91 dy) (k := k) rfl rfl rfl (by omega) (by decide) ?_ | refine a_laldN (s_91 dy) (k := k) rfl rfl rfl (by omega) (by decide) ?_ | refine a_iastN (s_91 dy) (k := k) rfl rfl rfl (by omega) (by decide) ?_ | refine a_lastN (s_91 dy) (k := k) rfl rfl rfl (by omega) (by decide) ?_ | refine a_bastN (s_91 dy) (k := k) rfl rfl rfl (by omega) (by decide) ?_ ?_ | refine a_ialdN (s_92 dy) (k := k) rfl rfl rfl (by omega) (by decide) ?_ | refine a_baldN (s_92 dy) (k := k) rfl rfl rfl (by omega) (by decide) ?_ | refine a_laldN (s_92 dy) (k := k) rfl rfl rfl (by omega) (by decide) ?_ | refine a_iastN (s_92 dy) (k := k) rfl rfl rfl (by omega) (by decide) ?_ | refine a_lastN (s_92 dy) (k := k) rfl rfl rfl (by omega) (by decide) ?_ | refine a_bastN (s_92 dy) (k := k) rfl rfl rfl (by omega) (by decide) ?_ ?_ | refine a_ialdN (s_93 dy) (k := k) rfl rfl rfl (by omega) (by decide) ?_ | refine a_baldN (s_93 dy) (k := k) rfl rfl rfl (by omega) (by decide) ?_ | refine a_laldN (s_93 dy) (k := k) rfl rfl rfl (by omega) (by decide) ?_ | refine a_iastN (s_93 dy) (k := k) rfl rfl rfl (by omega) (by decide) ?_ | refine a_lastN (s_93 dy) (k := k) rfl rfl rfl (by omega) (by decide) ?_ | refine a_bastN (s_93 dy) (k := k) rfl rfl rfl (by omega) (by decide) ?_ ?_) | (refine a_at isIf rfl ?_; first | (refine a_ifF rfl rfl br_ne (fun h => h (by assumption)) ?_) | (refine a_ifT rfl rfl br_eq (by assumption) ?_) | (refine a_ifF rfl rfl br_eq (by assumption) ?_) | (refine a_ifT rfl rfl br_ne (by assumption) ?_) | (refine a_ifF rfl rfl br_ne (by assumption) ?_) | (refine a_ifT rfl rfl br_lt (by assumption) ?_) | (refine a_ifF rfl rfl br_lt (by assumption) ?_) | (refine a_ifT rfl rfl br_ge (by assumption) ?_) | (refine a_ifF rfl rfl br_ge (by assumption) ?_) | (refine a_ifT rfl rfl br_gt (by assumption) ?_) | (refine a_ifF rfl rfl br_gt (by assumption) ?_) | (refine a_ifT rfl rfl br_le (by assumption) ?_) | (refine a_ifF rfl rfl br_le (by assumption) ?_) | (refine a_if rfl rfl br_eq (fun _ => ?_) (fun _ => ?_)) | (refine a_if rfl rfl br_ne (fun _ => ?_) (fun _ => ?_)) | (refine a_if rfl rfl br_lt (fun _ => ?_) (fun _ => ?_)) | (refine a_if rfl rfl br_ge (fun _ => ?_) (fun _ => ?_)) | (refine a_if rfl rfl br_gt (fun _ => ?_) (fun _ => ?_)) | (refine a_if rfl rfl br_le (fun _ => ?_) (fun _ => ?_))) | (refine a_at isIc rfl ?_; first | (refine a_icF rfl rfl br_ne (fun h => h (by assumption)) ?_) | (refine a_icT rfl rfl br_eq (by assumption) ?_) | (refine a_icF rfl rfl br_eq (by assumption) ?_) | (refine a_icT rfl rfl br_ne (by assumption) ?_) | (refine a_icF rfl rfl br_ne (by assumption) ?_) | (refine a_icT rfl rfl br_lt (by assumption) ?_) | (refine a_icF rfl rfl br_lt (by assumption) ?_) | (refine a_icT rfl rfl br_ge (by assumption) ?_) | (refine a_icF rfl rfl br_ge (by assumption) ?_) | (refine a_icT rfl rfl br_gt (by assumption) ?_) | (refine a_icF rfl rfl br_gt (by assumption) ?_) | (refine a_icT rfl rfl br_le (by assumption) ?_) | (refine a_icF rfl rfl br_le (by assumption) ?_) | (refine a_ic rfl rfl br_eq (fun _ => ?_) (fun _ => ?_)) | (refine a_ic rfl rfl br_ne (fun _ => ?_) (fun _ => ?_)) | (refine a_ic rfl rfl br_lt (fun _ => ?_) (fun _ => ?_)) | (refine a_ic rfl rfl br_ge (fun _ => ?_) (fun _ => ?_)) | (refine a_ic rfl rfl br_gt (fun _ => ?_) (fun _ => ?_)) | (refine a_ic rfl rfl br_le (fun _ => ?_) (fun _ => ?_))) | (refine a_at isRt rfl ?_; first | refine a_iret rfl rfl rfl ?_ | refine a_zret rfl rfl ?_ ?_ | refine a_lret rfl rfl ?_ | refine a_ret rfl rfl ?_))
    exact hq
end ME
