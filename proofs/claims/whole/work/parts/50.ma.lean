/-! the reference's questions of lists: the stack -/
theorem mL_at (M : mm_T) (a i : Nat) (v : Int64) (b j : Nat) : (m_setL M a i v).2.1 b j = if b = a ∧ j = i then v else M.2.1 b j := by
  by_cases h : b = a
  · subst h
    by_cases h2 : j = i <;> simp [m_setL, va_up, vp_updL, h2]
  · simp [m_setL, va_up, h]
theorem mL_1 (M : mm_T) (a i : Nat) (v : Int64) : (m_setL M a i v).1 = M.1 := rfl
theorem mL_22 (M : mm_T) (a i : Nat) (v : Int64) : (m_setL M a i v).2.2 = M.2.2 := rfl
theorem mL_ne (M : mm_T) {a b : Nat} (i : Nat) (v : Int64) (h : b ≠ a) : (m_setL M a i v).2.1 b = M.2.1 b := by simp [m_setL, va_up, h]
/-- the trace of the reference -/
def mTr (M : mm_T) (s : Nat × (Nat → Int32)) : Prop := M.1 65 22 = nI s.1 ∧ ∀ i, i < 100 → M.1 85 i = s.2 i
/-- behind some steps of a question: what may have changed -/
def aft (M M' : mm_T) (t : Nat) (s : Nat × (Nat → Int32)) : Prop := (M'.2.2 = M.2.2 ∧ (∀ a, a ≠ 65 → a ≠ 85 → (a < 86 ∨ 89 < a) → M'.1 a = M.1 a) ∧ (∀ f, f ≠ 22 → f ≠ 24 → f ≠ 31 → M'.1 65 f = M.1 65 f) ∧ ∀ a, a ≠ 65 → a ≠ 88 → a ≠ 90 → M'.2.1 a = M.2.1 a)
  ∧ (∀ i, i < t → M'.1 86 i = M.1 86 i ∧ M'.1 87 i = M.1 87 i ∧ M'.1 89 i = M.1 89 i ∧ M'.2.1 88 i = M.2.1 88 i ∧ M'.2.1 90 i = M.2.1 90 i) ∧ mTr M' s
theorem aft_rfl {M : mm_T} {s : Nat × (Nat → Int32)} (t : Nat) (h : mTr M s) : aft M M t s := ⟨⟨rfl, fun _ _ _ _ => rfl, fun _ _ _ _ => rfl, fun _ _ _ _ => rfl⟩, fun _ _ => ⟨rfl, rfl, rfl, rfl, rfl⟩, h⟩
theorem aft_tr {M M1 M2 : mm_T} {t : Nat} {s s2 : Nat × (Nat → Int32)} (h : aft M M1 t s) (h2 : aft M1 M2 t s2) : aft M M2 t s2 := by
  obtain ⟨⟨a1, a2, a3, a4⟩, a5, a6⟩ := h
  obtain ⟨⟨b1, b2, b3, b4⟩, b5, b6⟩ := h2
  refine ⟨⟨b1.trans a1, fun a x y z => (b2 a x y z).trans (a2 a x y z), fun f x y z => (b3 f x y z).trans (a3 f x y z), fun a x y z => (b4 a x y z).trans (a4 a x y z)⟩, fun i hi => ?_, b6⟩
  obtain ⟨c1, c2, c3, c4, c5⟩ := a5 i hi
  obtain ⟨d1, d2, d3, d4, d5⟩ := b5 i hi
  exact ⟨d1.trans c1, d2.trans c2, d3.trans c3, d4.trans c4, d5.trans c5⟩
theorem aft_le {M M1 : mm_T} {t t2 : Nat} {s : Nat × (Nat → Int32)} (h : aft M M1 t s) (ht : t2 ≤ t) : aft M M1 t2 s := ⟨h.1, fun i hi => h.2.1 i (by omega), h.2.2⟩
theorem aft_I {M M1 : mm_T} {t a i : Nat} {v : Int32} {s : Nat × (Nat → Int32)} (h : aft M M1 t s) (ha : (a = 65 ∧ (i = 24 ∨ i = 31)) ∨ ((a = 86 ∨ a = 87 ∨ a = 89) ∧ t ≤ i)) : aft M (m_setI M1 a i v) t s := by
  obtain ⟨⟨a1, a2, a3, a4⟩, a5, a6, a7⟩ := h
  refine ⟨⟨a1, fun b x y z => ?_, fun f x y z => ?_, a4⟩, fun j hj => ?_, ?_, fun j hj => ?_⟩
  · rw [mI_ne _ _ _ (by omega)]
    exact a2 b x y z
  · rw [mI_at, if_neg (by omega)]
    exact a3 f x y z
  · rw [mI_at, mI_at, mI_at, if_neg (by omega), if_neg (by omega), if_neg (by omega)]
    exact a5 j hj
  · rw [mI_at, if_neg (by omega)]
    exact a6
  · rw [mI_at, if_neg (by omega)]
    exact a7 j hj
theorem aft_L {M M1 : mm_T} {t a i : Nat} {v : Int64} {s : Nat × (Nat → Int32)} (h : aft M M1 t s) (ha : a = 65 ∨ ((a = 88 ∨ a = 90) ∧ t ≤ i)) : aft M (m_setL M1 a i v) t s := by
  obtain ⟨⟨a1, a2, a3, a4⟩, a5, a6, a7⟩ := h
  refine ⟨⟨a1, a2, a3, fun b x y z => ?_⟩, fun j hj => ?_, a6, a7⟩
  · rw [mL_ne _ _ _ (by omega)]
    exact a4 b x y z
  · rw [mL_at, mL_at, if_neg (by omega), if_neg (by omega)]
    exact a5 j hj
def mBeg (M : mm_T) (B : Nat) (c : Int32) : mm_T := m_setI (m_setI M 85 (B % 100) c) 65 22 (nI (B + 1))
theorem mBeg_22 (M : mm_T) (B : Nat) (c : Int32) : (mBeg M B c).1 65 22 = nI (B + 1) := by
  unfold mBeg
  rw [mI_at, if_pos ⟨rfl, rfl⟩]
theorem aft_B {M M1 : mm_T} {t B : Nat} {f : Nat → Int32} {c : Int32} (h : aft M M1 t (B, f)) : aft M (mBeg M1 B c) t (B + 1, upd f (B % 100) c) := by
  obtain ⟨⟨a1, a2, a3, a4⟩, a5, a6, a7⟩ := h
  unfold mBeg
  refine ⟨⟨a1, fun b x y z => ?_, fun f x y z => ?_, a4⟩, fun j hj => ?_, ?_, fun j hj => ?_⟩
  · rw [mI_ne _ _ _ x, mI_ne _ _ _ y]
    exact a2 b x y z
  · rw [mI_at, if_neg (by omega), mI_at, if_neg (by omega)]
    exact a3 f x y z
  · simp only [mI_at]
    simp
    exact a5 j hj
  · rw [mI_at, if_pos ⟨rfl, rfl⟩]
  · rw [mI_at, if_neg (by omega), mI_at]
    unfold upd
    by_cases e : j = B % 100
    · rw [if_pos ⟨rfl, e⟩]
      show c = if j = B % 100 then c else f j
      rw [if_pos e]
    · rw [if_neg (fun h => e h.2)]
      show _ = if j = B % 100 then c else f j
      rw [if_neg e]
      exact a7 j hj
/-- the lists of the reference -/
def mLs (M : mm_T) (E : Nat → lT) (n : Nat) : Prop := ∀ l, l < n → M.1 75 l = nI (lK (E l)) ∧ (3 ≤ lK (E l) → M.1 76 l = nI (lA1 (E l))) ∧ (lK (E l) = 4 → M.1 77 l = nI (lA2 (E l))) ∧ (lK (E l) = 3 → M.2.1 78 l = lPt (E l)) ∧ M.1 80 l = zz (lDr (E l)) ∧ M.1 81 l = nI (lMy (E l)) ∧ (∀ k, k < lMy (E l) → M.2.1 82 (40 * l + k) = lWd (E l) k) ∧ (lK (E l) = 1 → ∀ k, k < lMy (E l) → M.1 83 (40 * l + k) = lSc (E l) k)
theorem mLs_aft {M M1 : mm_T} {t n : Nat} {s : Nat × (Nat → Int32)} {E : Nat → lT} (h : aft M M1 t s) (hl : mLs M E n) : mLs M1 E n := by
  obtain ⟨⟨-, a2, -, a4⟩, -⟩ := h
  unfold mLs
  rw [a2 75 (by decide) (by decide) (by decide), a2 76 (by decide) (by decide) (by decide), a2 77 (by decide) (by decide) (by decide), a4 78 (by decide) (by decide) (by decide), a2 80 (by decide) (by decide) (by decide), a2 81 (by decide) (by decide) (by decide), a4 82 (by decide) (by decide) (by decide), a2 83 (by decide) (by decide) (by decide)]
  exact hl
theorem sAt_ext {f g : Nat → Int64} {w : Int64} : ∀ {n}, (∀ k, k < n → f k = g k) → sAt f w n = sAt g w n
  | 0, _ => rfl
  | n + 1, h => by
    unfold sAt
    rw [h n (by omega), sAt_ext (fun k hk => h k (by omega))]
theorem sAt_lt {f : Nat → Int64} {w : Int64} : ∀ {n k}, sAt f w n = some k → k < n ∧ f k = w
  | 0, k, h => by cases h
  | n + 1, k, h => by
    unfold sAt at h
    split at h
    · rename_i g
      cases h
      exact ⟨by omega, g⟩
    · have := sAt_lt h
      exact ⟨by omega, this.2⟩
section MS
variable {L : Nat} {xs : Nat → Int32} {d : Nat} {dy : List sh_T} {M : mm_T} {Q : Option Value → sm_W → Prop}
theorem z100 : ¬ (100 : Int32) = 0 := by decide
set_option maxRecDepth 4000 in
theorem k_began {B : Nat} {c : Int32} (h22 : M.1 65 22 = nI B) (hB : B < 2 ^ 31) (hq : Q none (wm (sh0 ++ dy) (mBeg M B c))) : sm_E L xs (d + 1) 174 [.ref 65, .int c] (wm (sh0 ++ dy) M) Q := by
  have hm := s_65 dy
  refine e_intro rfl rfl ?_
  repeat (first | refine x_kcg rfl ?_ | refine x_opp rfl rfl ?_ | refine x_go rfl ?_ | refine m_getg hm rfl rfl rfl ?_)
  refine x_irem z100 ?_
  have e : nI B - nI B / 100 * 100 = nI (B % 100) := pk_rem (d := 100) hB (by decide) (by decide)
  rw [h22, e]
  repeat (first | refine x_kcg rfl ?_ | refine x_opp rfl rfl ?_ | refine x_go rfl ?_ | refine m_getg hm rfl rfl rfl ?_)
  refine m_iast (s_85 dy) (vp_in_nI (by omega) (by decide)) ?_
  rw [nI_clamp (by omega)]
  have e2 : (m_setI M 85 (B % 100) c).1 65 22 = nI B := by rw [mI_at, if_neg (by omega)]; exact h22
  repeat (first | refine x_kcg rfl ?_ | refine x_opp rfl rfl ?_ | refine x_go rfl ?_ | refine m_getg hm rfl rfl rfl ?_)
  rw [e2, nI_1]
  refine m_putI hm rfl ?_
  repeat (first | refine x_kcg rfl ?_ | refine x_opp rfl rfl ?_ | refine x_go rfl ?_)
  exact x_ret hq
def mPush (M : mm_T) (t : Nat) (l act : Int32) (o : Int64) : mm_T := m_setI (m_setI (m_setL (m_setI (m_setI M 86 t l) 87 t act) 88 t o) 89 t 0) 65 24 (nI (t + 1))
set_option maxRecDepth 4000 in
theorem k_push {t : Nat} {l act : Int32} {o : Int64} (h24 : M.1 65 24 = nI t) (ht : t < 40) (hq : Q none (wm (sh0 ++ dy) (mPush M t l act o))) : sm_E L xs (d + 1) 172 [.ref 65, .int l, .int act, .long o] (wm (sh0 ++ dy) M) Q := by
  have hm := s_65 dy
  refine e_intro rfl rfl ?_
  repeat (first | refine x_kcg rfl ?_ | refine x_opp rfl rfl ?_ | refine x_go rfl ?_ | refine m_getg hm rfl rfl rfl ?_)
  rw [h24]
  refine m_iast (s_86 dy) (vp_in_nI ht (by decide)) ?_
  rw [nI_clamp (by omega)]
  have e1 : (m_setI M 86 t l).1 65 24 = nI t := by rw [mI_at, if_neg (by omega)]; exact h24
  repeat (first | refine x_kcg rfl ?_ | refine x_opp rfl rfl ?_ | refine x_go rfl ?_ | refine m_getg hm rfl rfl rfl ?_)
  rw [e1]
  refine m_iast (s_87 dy) (vp_in_nI ht (by decide)) ?_
  rw [nI_clamp (by omega)]
  have e2 : (m_setI (m_setI M 86 t l) 87 t act).1 65 24 = nI t := by rw [mI_at, if_neg (by omega)]; exact e1
  repeat (first | refine x_kcg rfl ?_ | refine x_opp rfl rfl ?_ | refine x_go rfl ?_ | refine m_getg hm rfl rfl rfl ?_)
  rw [e2]
  refine m_last (s_88 dy) (vp_in_nI ht (by decide)) ?_
  rw [nI_clamp (by omega)]
  repeat (first | refine x_kcg rfl ?_ | refine x_opp rfl rfl ?_ | refine x_go rfl ?_ | refine m_getg hm rfl rfl rfl ?_)
  rw [mL_1, e2]
  refine m_iast (s_89 dy) (vp_in_nI ht (by decide)) ?_
  rw [nI_clamp (by omega)]
  have e3 : (m_setI (m_setL (m_setI (m_setI M 86 t l) 87 t act) 88 t o) 89 t 0).1 65 24 = nI t := by rw [mI_at, if_neg (by omega)]; exact e2
  repeat (first | refine x_kcg rfl ?_ | refine x_opp rfl rfl ?_ | refine x_go rfl ?_ | refine m_getg hm rfl rfl rfl ?_)
  rw [e3, nI_1]
  refine m_putI hm rfl ?_
  repeat (first | refine x_kcg rfl ?_ | refine x_opp rfl rfl ?_ | refine x_go rfl ?_)
  exact x_ret hq
def mPop (M : mm_T) (t : Nat) (v : Int64) : mm_T := m_setI (m_setL M 65 30 v) 65 24 (nI t)
set_option maxRecDepth 4000 in
theorem k_pop {t : Nat} {v : Int64} (h24 : M.1 65 24 = nI (t + 1)) (hq : Q none (wm (sh0 ++ dy) (mPop M t v))) : sm_E L xs (d + 1) 175 [.ref 65, .long v] (wm (sh0 ++ dy) M) Q := by
  have hm := s_65 dy
  refine e_intro rfl rfl ?_
  repeat (first | refine x_kcg rfl ?_ | refine x_opp rfl rfl ?_ | refine x_go rfl ?_)
  refine m_putL hm rfl ?_
  repeat (first | refine x_kcg rfl ?_ | refine x_opp rfl rfl ?_ | refine x_go rfl ?_ | refine m_getg hm rfl rfl rfl ?_)
  rw [mL_1, h24, nI_pred]
  refine m_putI hm rfl ?_
  repeat (first | refine x_kcg rfl ?_ | refine x_opp rfl rfl ?_ | refine x_go rfl ?_)
  exact x_ret hq
end MS
