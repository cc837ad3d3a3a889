/-! the lists of the desk: notes, objects, plain bodies -/
def cTr (M : mm_T) (s : Nat × (Nat → Int32)) : Prop := M.1 1 2 = nI (s.1 % 100) ∧ M.1 1 3 = nI (min s.1 100) ∧ M.1 1 4 = nI s.1 ∧ ∀ i, i < 100 → M.1 2 i = s.2 i
def cft (M M' : mm_T) (s : Nat × (Nat → Int32)) : Prop := M'.2 = M.2 ∧ (∀ a, a ≠ 1 → a ≠ 2 → M'.1 a = M.1 a) ∧ M'.1 1 5 = M.1 1 5 ∧ cTr M' s
def cff (M M' : mm_T) (s : Nat × (Nat → Int32)) (k : Nat) : Prop := M'.2 = M.2 ∧ (∀ a, a ≠ 1 → a ≠ 2 → a ≠ 3 → M'.1 a = M.1 a) ∧ M'.1 1 5 = nI k ∧ cTr M' s ∧ M'.1 3 = upd (M.1 3) k (M.1 3 k + 1)
theorem cft_rfl {M : mm_T} {s : Nat × (Nat → Int32)} (h : cTr M s) : cft M M s := ⟨rfl, fun _ _ _ => rfl, rfl, h⟩
theorem cft_tr {M M1 M2 : mm_T} {s s2 : Nat × (Nat → Int32)} (h : cft M M1 s) (h2 : cft M1 M2 s2) : cft M M2 s2 := ⟨h2.1.trans h.1, fun a x y => (h2.2.1 a x y).trans (h.2.1 a x y), h2.2.2.1.trans h.2.2.1, h2.2.2.2⟩
theorem cft_ff {M M1 M2 : mm_T} {s s2 : Nat × (Nat → Int32)} {k : Nat} (h : cft M M1 s) (h2 : cff M1 M2 s2 k) : cff M M2 s2 k := by
  refine ⟨h2.1.trans h.1, fun a x y z => (h2.2.1 a x y z).trans (h.2.1 a x y), h2.2.2.1, h2.2.2.2.1, ?_⟩
  rw [h2.2.2.2.2, h.2.1 3 (by decide) (by decide)]
theorem cff_find {M : mm_T} {s : Nat × (Nat → Int32)} {k : Nat} (h : cTr M s) (hk : k < 6) : cff M (nFind M 1 3 (nI k)) s k := by
  obtain ⟨h1, h2, h3, h4⟩ := h
  unfold nFind
  rw [nI_clamp (by omega)]
  refine ⟨rfl, fun a x y z => ?_, ?_, ⟨?_, ?_, ?_, fun i hi => ?_⟩, ?_⟩
  · rw [mI_ne _ _ _ z, mI_ne _ _ _ x]
  · rw [mI_ne _ _ _ (by decide), mI_at, if_pos ⟨rfl, rfl⟩]
  · rw [mI_ne _ _ _ (by decide), mI_at, if_neg (by decide)]; exact h1
  · rw [mI_ne _ _ _ (by decide), mI_at, if_neg (by decide)]; exact h2
  · rw [mI_ne _ _ _ (by decide), mI_at, if_neg (by decide)]; exact h3
  · rw [mI_ne _ _ _ (by decide), mI_ne _ _ _ (by decide)]; exact h4 i hi
  · rw [mI_eq, mI_ne _ _ _ (by decide)]
theorem b100 : ∀ r, r < 100 → (if (100 : Int32) ≤ nI r + 1 then 0 else nI r + 1) = nI ((r + 1) % 100) := by decide +kernel
theorem k100 : ∀ r, r ≤ 100 → (if (100 : Int32) < nI r + 1 then 100 else nI r + 1) = nI (min (r + 1) 100) := by decide +kernel
theorem cTr_beg {M : mm_T} {B : Nat} {f : Nat → Int32} {c : Int32} {k t : Int32} (h : cTr M (B, f)) (hc : 10 * k + t = c) : cft M (nBeg M 1 2 k t) (B + 1, upd f (B % 100) c) := by
  obtain ⟨h1, h2, h3, h4⟩ := h
  have hr : B % 100 < 100 := Nat.mod_lt _ (by decide)
  have e1 := b100 (B % 100) hr
  have e2 := k100 (min B 100) (Nat.min_le_right B 100)
  rw [show min (min B 100 + 1) 100 = min (B + 1) 100 by omega] at e2
  unfold nBeg
  rw [h1, h2, h3]
  dsimp only
  rw [e1, e2, hc, nI_1, nI_clamp (by omega)]
  refine ⟨rfl, fun a x y => ?_, ?_, ?_, ?_, ?_, fun i hi => ?_⟩
  · rw [mI_ne _ _ _ x, mI_ne _ _ _ x, mI_ne _ _ _ x, mI_ne _ _ _ y]
  · simp [mI_at]
  · simp only [mI_at]
    simp
  · simp only [mI_at]
    simp
  · simp [mI_at]
  · simp only [mI_at]
    simp
    unfold upd
    by_cases e : i = B % 100
    · simp [e]
    · simp [e]
      exact h4 i hi
/-- the shapes of a list -/
def cSh (sh : List sh_T) (a k : Nat) : Prop := (k = 0 ∧ sh[a]? = some (plainS 1 (a + 1)) ∧ sh[a + 1]? = some (arrL 40)) ∨ (k = 1 ∧ sh[a]? = some (scoredS 1 (a + 1) (a + 2)) ∧ sh[a + 1]? = some (arrL 40) ∧ sh[a + 2]? = some (arrI 40)) ∨ (k = 2 ∧ sh[a]? = some (bannedS 1 (a + 1)) ∧ sh[a + 1]? = some (arrL 40)) ∨ (k = 3 ∧ sh[a]? = some (patternS 1 4)) ∨ (k = 4 ∧ sh[a]? = some (joinedS 1 4))
def cMem (M : mm_T) (a : Nat) (e : lT) : Prop := M.1 a 0 = nI (lK e) ∧ (lK e < 3 → M.1 a 3 = nI (lMy e) ∧ ∀ k, k < lMy e → M.2.1 (a + 1) k = lWd e k) ∧ (lK e = 1 → ∀ k, k < lMy e → M.1 (a + 2) k = lSc e k) ∧ (lK e = 3 → M.1 a 3 = nI (lA1 e) ∧ ∃ m, wOK 27 (lPt e) m ∧ M.1 a 4 = nI m ∧ M.2.1 a 5 = tdF (lPt e) m ∧ M.2.1 a 6 = mkF (tdF (lPt e) m) 7) ∧ (lK e = 4 → M.1 a 3 = nI (lA1 e) ∧ M.1 a 4 = nI (lA2 e))
def cLs (sh : List sh_T) (M : mm_T) (E : Nat → lT) (P : Nat → Nat) (n : Nat) : Prop := M.1 4 3 = nI n ∧ ∀ l, l < n → 114 ≤ P l ∧ cSh sh (P l) (lK (E l)) ∧ cMem M (P l) (E l) ∧ M.2.2 5 l = if lDr (E l) = true then none else some (P l)
theorem cLs_fr {sh : List sh_T} {M M1 : mm_T} {E : Nat → lT} {P : Nat → Nat} {n : Nat} (h2 : M1.2 = M.2) (h1 : ∀ a, a ≠ 1 → a ≠ 2 → a ≠ 3 → M1.1 a = M.1 a) (h : cLs sh M E P n) : cLs sh M1 E P n := by
  refine ⟨by rw [h1 4 (by decide) (by decide) (by decide)]; exact h.1, fun l hl => ?_⟩
  obtain ⟨p1, p2, p3, p4⟩ := h.2 l hl
  refine ⟨p1, p2, ?_, by rw [h2]; exact p4⟩
  unfold cMem
  rw [h1 (P l) (by omega) (by omega) (by omega), h1 (P l + 2) (by omega) (by omega) (by omega), h2]
  exact p3
theorem cLs_cft {sh : List sh_T} {M M1 : mm_T} {E : Nat → lT} {P : Nat → Nat} {n : Nat} {s : Nat × (Nat → Int32)} (h : cft M M1 s) (hl : cLs sh M E P n) : cLs sh M1 E P n := cLs_fr h.1 (fun a x y _ => h.2.1 a x y) hl
def mA0 (k : Nat) : Nat := if k < 2 then 52 else if k = 2 then 49 else if k = 3 then 54 else 53
def mA1 (k : Nat) : Nat := if k < 2 then 61 else if k = 2 then 58 else if k = 3 then 60 else 59
def mA2 (k : Nat) : Nat := if k < 3 then 67 else if k = 3 then 69 else 68
def mA3 (k : Nat) : Nat := if k = 1 then 65 else if k < 3 then 62 else if k = 3 then 64 else 63
theorem cSh_v {sh : List sh_T} {a k : Nat} (h : cSh sh a k) : ∃ s, sh[a]? = some s ∧ ∀ f g r, m_vt (s f g r) 76994 = some (mA0 k) ∧ m_vt (s f g r) 77249 = some (mA1 k) ∧ m_vt (s f g r) 77506 = some (mA2 k) ∧ m_vt (s f g r) 77762 = some (mA3 k) := by
  rcases h with ⟨rfl, h, -⟩ | ⟨rfl, h, -⟩ | ⟨rfl, h, -⟩ | ⟨rfl, h⟩ | ⟨rfl, h⟩
  · exact ⟨_, h, fun _ _ _ => ⟨rfl, rfl, rfl, rfl⟩⟩
  · exact ⟨_, h, fun _ _ _ => ⟨rfl, rfl, rfl, rfl⟩⟩
  · exact ⟨_, h, fun _ _ _ => ⟨rfl, rfl, rfl, rfl⟩⟩
  · exact ⟨_, h, fun _ _ _ => ⟨rfl, rfl, rfl, rfl⟩⟩
  · exact ⟨_, h, fun _ _ _ => ⟨rfl, rfl, rfl, rfl⟩⟩
/-- the plain family -/
theorem cSh_p {sh : List sh_T} {a k : Nat} (h : cSh sh a k) (hk : k < 3) : ∃ s, sh[a]? = some s ∧ pSh s 1 (a + 1) ∧ sh[a + 1]? = some (arrL 40) := by
  rcases h with ⟨rfl, h, h2⟩ | ⟨rfl, h, h2, -⟩ | ⟨rfl, h, h2⟩ | ⟨rfl, h⟩ | ⟨rfl, h⟩
  · exact ⟨_, h, pSh_plain 1 (a + 1), h2⟩
  · exact ⟨_, h, pSh_scored 1 (a + 1) (a + 2), h2⟩
  · exact ⟨_, h, pSh_banned 1 (a + 1), h2⟩
  · omega
  · omega
theorem pIx_none {f : Nat → Int64} {v : Int64} : ∀ {k i}, pIx f v i k = none → ∀ j, i ≤ j → j < i + k → f j ≠ v
  | 0, i, _, j, h1, h2 => by omega
  | k + 1, i, h, j, h1, h2 => by
    unfold pIx at h
    split at h
    · cases h
    · rename_i g
      by_cases e : j = i
      · subst e
        exact g
      · exact pIx_none h j (by omega) (by omega)
theorem pIx_some {f : Nat → Int64} {v : Int64} : ∀ {k i j}, pIx f v i k = some j → f j = v
  | 0, i, j, h => by cases h
  | k + 1, i, j, h => by
    unfold pIx at h
    split at h
    · rename_i g
      cases h
      exact g
    · exact pIx_some h
theorem sAt_none {f : Nat → Int64} {w : Int64} : ∀ {n}, sAt f w n = none → ∀ k, k < n → f k ≠ w
  | 0, _, k, h => by omega
  | n + 1, h, k, hk => by
    unfold sAt at h
    split at h
    · cases h
    · rename_i g
      by_cases e : k = n
      · subst e
        exact g
      · exact sAt_none h k (by omega)
theorem pIx_sAt {f : Nat → Int64} {v : Int64} {n : Nat} (hd : ∀ i j, i < n → j < n → f i = f j → i = j) : pIx f v 0 n = sAt f v n := by
  cases h1 : pIx f v 0 n with
  | none =>
    cases h2 : sAt f v n with
    | none => rfl
    | some k =>
      obtain ⟨a1, a2⟩ := sAt_lt h2
      exact absurd a2 (pIx_none h1 k (by omega) (by omega))
  | some j =>
    have hj := pIx_lt h1
    have e1 := pIx_some h1
    cases h2 : sAt f v n with
    | none => exact absurd e1 (sAt_none h2 j (by omega))
    | some k =>
      obtain ⟨a1, a2⟩ := sAt_lt h2
      rw [hd j k (by omega) a1 (by rw [e1, a2])]
theorem pIx_ext {f g : Nat → Int64} {v : Int64} : ∀ {k i}, (∀ j, i ≤ j → j < i + k → f j = g j) → pIx f v i k = pIx g v i k
  | 0, _, _ => rfl
  | k + 1, i, h => by
    unfold pIx
    rw [h i (by omega) (by omega), pIx_ext (fun j h1 h2 => h j (by omega) (by omega))]
theorem ixI_sIx (q : Option Nat) : ixI q = sIx q := by cases q <;> rfl
section CP
variable {L : Nat} {xs : Nat → Int32} {d : Nat} {dy : List sh_T} {M : mm_T} {Q : Option Value → sm_W → Prop} {E : Nat → lT} {P : Nat → Nat} {n l B : Nat} {f : Nat → Int32} {o : Int64}
theorem c_beg {k t : Int32} {c : Int32} (tr : cTr M (B, f)) (hc : 10 * k + t = c) (hq : cft M (nBeg M 1 2 k t) (B + 1, upd f (B % 100) c) → Q none (wm (sh0 ++ dy) (nBeg M 1 2 k t))) : sm_E L xs (d + 2) 50 [.ref 1, .int k, .int t] (wm (sh0 ++ dy) M) Q := by
  refine c_begin (s_1 dy) (s_2 dy) (by decide) ?_ (hq (cTr_beg tr hc))
  rw [tr.1]
  exact vp_in_nI (Nat.mod_lt _ (by decide)) (by decide)
theorem c_place2 {v : Int64} (hE : lOK E n) (hl : l < n) (hk : lK (E l) < 3) (hs : cLs (sh0 ++ dy) M E P n) (hq : Q (some (.int (sIx (sAt (lWd (E l)) v (lMy (E l)))))) (wm (sh0 ++ dy) M)) : sm_E L xs (d + 1) 45 [.ref (P l), .long v] (wm (sh0 ++ dy) M) Q := by
  obtain ⟨p1, p2, p3, p4⟩ := hs.2 l hl
  obtain ⟨s, h1, h2, h3⟩ := cSh_p p2 hk
  obtain ⟨-, -, -, -, h40, -, hd⟩ := hE.2 l hl
  obtain ⟨m1, m2⟩ := p3.2.1 hk
  refine c_placeOf h1 h2 h3 m1 h40 ?_
  rw [pIx_ext (g := lWd (E l)) (fun j _ hj => m2 j (by omega)), pIx_sAt hd, ixI_sIx]
  exact hq
end CP
