/-! what holds between two calls: the desk and the reference side by side -/
/-- one grid, on both sides -/
def rg (M : mm_T) (n G : Nat) : Prop := (M.1 (45 + 5 * G) 4 = M.1 66 G ∧ (M.1 66 G = 0 ∨ M.1 66 G = 1)) ∧
  (∃ H W, H ≤ 7 ∧ W ≤ 7 ∧ M.1 (45 + 5 * G) 5 = nI H ∧ M.1 67 G = nI H ∧ M.1 (45 + 5 * G) 6 = nI W ∧ M.1 68 G = nI W ∧ (∀ i, i < 7 → M.1 (47 + 5 * G) i = mL M G i ∧ -1 ≤ mL M G i ∧ mL M G i ≤ nI W ∧ (H ≤ i → mL M G i = nI W)) ∧ (∀ i j, i < H → j < (mL M G i).toNatClampNeg → M.1 (46 + 5 * G) (i * 7 + j) = mC M G (i * 7 + j)) ∧ (∀ i, i < H → W ≤ (mL M G i).toNatClampNeg → 1 ≤ W → M.1 71 (49 * G + (i * 7 + (W - 1))) = 0)) ∧
  (∀ s, s < 49 → ∃ ca, ca < 128 ∧ M.1 (46 + 5 * G) s = nI ca) ∧
  (∃ al dl, M.1 (45 + 5 * G) 7 = loI al ∧ M.1 73 G = loI al ∧ M.1 (45 + 5 * G) 8 = loI dl ∧ M.1 74 G = loI dl ∧ (∀ l, al = some l → l < n) ∧ ∀ l, dl = some l → l < n)
def rG (M : mm_T) (n : Nat) : Prop := msOK M ∧ (∀ G, G < 4 → M.2.2 7 G = some (45 + 5 * G)) ∧ ∀ G, G < 4 → rg M n G
def rN (M : mm_T) (t : Nat) (s : Nat × (Nat → Int32)) : Prop := cTr M s ∧ mTr M s ∧ M.1 1 5 = M.1 65 19 ∧ (∀ i, i < 6 → M.1 3 i = M.1 84 i) ∧ s.1 ≤ 204120 * t
/-- how many objects a list is -/
def lSz (k : Nat) : Nat := if k = 1 then 3 else if k < 3 then 2 else 1
/-- shapes that lists are made of -/
def dyOK (dy : List sh_T) (n : Nat) : Prop := dy.length ≤ 3 * n ∧ ∀ s, s ∈ dy → s = arrL 40 ∨ s = arrI 40 ∨ s = patternS 1 4 ∨ s = joinedS 1 4 ∨ (∃ a, s = plainS 1 a) ∨ (∃ a, s = bannedS 1 a) ∨ ∃ a b, s = scoredS 1 a b
def rL (dy : List sh_T) (M : mm_T) (E : Nat → lT) (P w : Nat → Nat) (n : Nat) : Prop := lOK E n ∧ cLs (sh0 ++ dy) M E P n ∧ mLs M E n ∧ M.1 65 9 = nI n ∧ lWt E w n ∧ (∀ l, l < n → w l ≤ 30 ∧ M.1 6 l = nI (w l) ∧ M.1 79 l = nI (w l)) ∧ (∀ l, l < n → P l + lSz (lK (E l)) ≤ 114 + dy.length) ∧ (∀ l m, l < m → m < n → P l + lSz (lK (E l)) ≤ P m) ∧ dyOK dy n ∧ ∀ l, n ≤ l → l < 16 → M.1 80 l = 0 ∧ M.1 81 l = 0
/-- a searching that can go on -/
def rS1 (M : mm_T) : Prop := ∃ G D S, G < 4 ∧ M.1 0 10 = nI G ∧ M.1 65 39 = nI G ∧ dOK D ∧ (∀ i j, i < D.1.length → j < D.1.length → D.2.2.1 i = D.2.2.1 j → i = j) ∧ sI D S ∧ cD M 13 D ∧ cS M 13 D S ∧ M.1 13 13 = 0 ∧ mD M 0 D ∧ mS M 0 D S ∧ M.1 13 14 = M.1 98 0 ∧ ∀ s, s < 49 → ¬ sCov D s → M.1 106 s = M.1 70 (49 * G + s)
def rS (M : mm_T) : Prop := M.1 0 11 = M.1 65 38 ∧ (M.1 0 11 = 0 ∨ (M.1 0 11 = 1 ∧ rS1 M))
def rQ (M : mm_T) : Prop := (∃ k m, k ≤ 3 ∧ m ≤ 42 ∧ M.1 0 7 = nI k ∧ M.1 65 58 = nI k ∧ M.1 0 8 = nI m ∧ M.1 65 59 = nI m ∧ ∀ j e, j < k → e < m → M.2.1 43 (42 * j + e) = M.2.1 109 (48 * j + e)) ∧ (M.1 44 0 = M.1 65 53 ∧ M.1 44 1 = M.1 65 54 ∧ M.1 44 2 = M.1 65 55 ∧ M.1 44 3 = M.1 65 56) ∧ M.1 0 12 = M.1 65 23 ∧ M.1 0 13 = M.1 65 61
def rR (t : Nat) (dy : List sh_T) (M : mm_T) : Prop := ∃ s E P w n, rG M n ∧ rN M t s ∧ rL dy M E P w n ∧ rS M ∧ rQ M
/-- a call of the desk, then the same call of the reference: one answer, and all holds again -/
def pr (L : Nat) (xs : Nat → Int32) (t : Nat) (dy : List sh_T) (M : mm_T) (y1 y2 : Nat) (as : List Value) : Prop :=
  sm_E L xs 100 y1 (.ref 0 :: as) (wm (sh0 ++ dy) M) (fun r w => ∃ v dy1 M1, r = some v ∧ w = wm (sh0 ++ dy1) M1 ∧ sm_E L xs 100 y2 (.ref 65 :: as) (wm (sh0 ++ dy1) M1) (fun r w => r = some v ∧ ∃ M2, w = wm (sh0 ++ dy1) M2 ∧ rR (t + 1) dy1 M2))
/-- frames -/
theorem mA_at (M : mm_T) (a : Nat) (f : Nat → Int32) (b j : Nat) : (m_setA M a f).1 b j = if b = a then f j else M.1 b j := by
  by_cases h : b = a
  · subst h; rw [if_pos rfl, mA_eq]
  · rw [if_neg h, mA_1ne _ _ h]
theorem mL_ext {M M' : mm_T} {G : Nat} (h : ∀ i, i < 7 → M'.1 69 (7 * G + i) = M.1 69 (7 * G + i)) : ∀ i, i < 7 → mL M' G i = mL M G i := h
theorem mC_ext {M M' : mm_T} {G : Nat} (h : ∀ a s, 70 ≤ a → a ≤ 72 → s < 49 → M'.1 a (49 * G + s) = M.1 a (49 * G + s)) : ∀ s, s < 49 → mC M' G s = mC M G s := by
  intro s hs
  unfold mC tld
  rw [h 70 s (by decide) (by decide) hs, h 71 s (by decide) (by decide) hs, h 72 s (by decide) (by decide) hs]
/-- a grid whose numbers are the same -/
theorem rg_fr {M M' : mm_T} {n n' G : Nat} (hn : n ≤ n') (h1 : ∀ a i, 45 + 5 * G ≤ a → a < 48 + 5 * G → M'.1 a i = M.1 a i) (h2 : ∀ a, (66 ≤ a ∧ a ≤ 68) ∨ a = 73 ∨ a = 74 → M'.1 a G = M.1 a G) (h3 : ∀ i, i < 7 → M'.1 69 (7 * G + i) = M.1 69 (7 * G + i)) (h4 : ∀ a s, 70 ≤ a → a ≤ 72 → s < 49 → M'.1 a (49 * G + s) = M.1 a (49 * G + s)) (h : rg M n G) : rg M' n' G := by
  obtain ⟨⟨a1, a2⟩, ⟨H, W, b1, b2, b3, b4, b5, b6, b7, b8, b9⟩, c1, ⟨al, dl, d1, d2, d3, d4, d5, d6⟩⟩ := h
  have e3 := mL_ext h3
  have e4 := mC_ext h4
  refine ⟨⟨?_, ?_⟩, ⟨H, W, b1, b2, ?_, ?_, ?_, ?_, fun i hi => ?_, fun i j hi hj => ?_, fun i hi hj hw => ?_⟩, fun s hs => ?_, ⟨al, dl, ?_, ?_, ?_, ?_, fun l hl => Nat.lt_of_lt_of_le (d5 l hl) hn, fun l hl => Nat.lt_of_lt_of_le (d6 l hl) hn⟩⟩
  · rw [h1 _ _ (by omega) (by omega), h2 _ (by omega)]; exact a1
  · rw [h2 _ (by omega)]; exact a2
  · rw [h1 _ _ (by omega) (by omega)]; exact b3
  · rw [h2 _ (by omega)]; exact b4
  · rw [h1 _ _ (by omega) (by omega)]; exact b5
  · rw [h2 _ (by omega)]; exact b6
  · rw [h1 _ _ (by omega) (by omega), e3 i hi]; exact b7 i hi
  · rw [e3 i (by omega)] at hj
    have := ln_cl (b7 i (by omega)).2.1 (Int32.le_trans (b7 i (by omega)).2.2.1 (nI_le (b := 7) b2 (by decide)))
    rw [h1 _ _ (by omega) (by omega), e4 _ (by omega)]; exact b8 i j hi hj
  · rw [e3 i (by omega)] at hj
    rw [h4 _ _ (by omega) (by omega) (by omega)]; exact b9 i hi hj hw
  · rw [h1 _ _ (by omega) (by omega)]; exact c1 s hs
  · rw [h1 _ _ (by omega) (by omega)]; exact d1
  · rw [h2 _ (by omega)]; exact d2
  · rw [h1 _ _ (by omega) (by omega)]; exact d3
  · rw [h2 _ (by omega)]; exact d4
theorem rG_fr {M M' : mm_T} {n n' : Nat} (hg : rG M n) (hn : n ≤ n') (h : ∀ a i, (45 ≤ a ∧ a ≤ 64 ∧ (a - 45) % 5 < 3) ∨ (66 ≤ a ∧ a ≤ 74) → M'.1 a i = M.1 a i) (h2 : M'.2.2 7 = M.2.2 7) : rG M' n' := by
  obtain ⟨g1, g2, g3⟩ := hg
  refine ⟨fun s hs => ?_, fun G hG => by rw [h2]; exact g2 G hG, fun G hG => rg_fr hn (fun a i x y => h a i (Or.inl (by omega))) (fun a x => h a G (by omega)) (fun i _ => h 69 _ (by omega)) (fun a s x y _ => h a _ (by omega)) (g3 G hG)⟩
  rw [h 70 _ (by omega), h 71 _ (by omega), h 72 _ (by omega)]
  exact g1 s hs
theorem rN_fr {M M' : mm_T} {t t' : Nat} {s : Nat × (Nat → Int32)} (hn : rN M t s) (ht : t ≤ t') (h : ∀ a i, a = 1 ∨ a = 2 ∨ a = 3 ∨ a = 84 ∨ a = 85 ∨ (a = 65 ∧ (i = 19 ∨ i = 22)) → M'.1 a i = M.1 a i) : rN M' t' s := by
  obtain ⟨⟨c1, c2, c3, c4⟩, ⟨m1, m2⟩, n3, n4, n5⟩ := hn
  refine ⟨⟨?_, ?_, ?_, fun i hi => ?_⟩, ⟨?_, fun i hi => ?_⟩, ?_, fun i hi => ?_, by omega⟩
  · rw [h 1 _ (by omega)]; exact c1
  · rw [h 1 _ (by omega)]; exact c2
  · rw [h 1 _ (by omega)]; exact c3
  · rw [h 2 _ (by omega)]; exact c4 i hi
  · rw [h 65 _ (by omega)]; exact m1
  · rw [h 85 _ (by omega)]; exact m2 i hi
  · rw [h 1 _ (by omega), h 65 _ (by omega)]; exact n3
  · rw [h 3 _ (by omega), h 84 _ (by omega)]; exact n4 i hi
theorem rL_fr {dy : List sh_T} {M M' : mm_T} {E : Nat → lT} {P w : Nat → Nat} {n : Nat} (hl : rL dy M E P w n) (h : ∀ a i, a = 4 ∨ a = 6 ∨ (75 ≤ a ∧ a ≤ 83) ∨ 114 ≤ a ∨ (a = 65 ∧ i = 9) → M'.1 a i = M.1 a i) (h2 : ∀ a, a = 78 ∨ a = 82 ∨ 114 ≤ a → M'.2.1 a = M.2.1 a) (h3 : M'.2.2 5 = M.2.2 5) : rL dy M' E P w n := by
  obtain ⟨l1, l2, l3, l4, l5, l6, l7, l8, l9, l10⟩ := hl
  refine ⟨l1, ⟨?_, fun l hl => ?_⟩, fun l hl => ?_, ?_, l5, fun l hl => ?_, l7, l8, l9, fun l x y => ?_⟩
  · rw [h 4 _ (by omega)]; exact l2.1
  · obtain ⟨q1, q2, ⟨p1, p2, p3, p4, p5⟩, q4⟩ := l2.2 l hl
    refine ⟨q1, q2, ⟨?_, fun hk => ?_, fun hk k hk2 => ?_, fun hk => ?_, fun hk => ?_⟩, ?_⟩
    · rw [h _ _ (by omega)]; exact p1
    · rw [h _ _ (by omega), h2 _ (by omega)]; exact p2 hk
    · rw [h _ _ (by omega)]; exact p3 hk k hk2
    · rw [h _ _ (by omega), h _ _ (by omega), h2 _ (by omega)]; exact p4 hk
    · rw [h _ _ (by omega), h _ _ (by omega)]; exact p5 hk
    · rw [h3]; exact q4
  · obtain ⟨q1, q2, q3, q4, q5, q6, q7, q8⟩ := l3 l hl
    refine ⟨?_, fun hk => ?_, fun hk => ?_, fun hk => ?_, ?_, ?_, fun k hk => ?_, fun hk k hk2 => ?_⟩
    · rw [h _ _ (by omega)]; exact q1
    · rw [h _ _ (by omega)]; exact q2 hk
    · rw [h _ _ (by omega)]; exact q3 hk
    · rw [h2 _ (by omega)]; exact q4 hk
    · rw [h _ _ (by omega)]; exact q5
    · rw [h _ _ (by omega)]; exact q6
    · rw [h2 _ (by omega)]; exact q7 k hk
    · rw [h _ _ (by omega)]; exact q8 hk k hk2
  · rw [h 65 _ (by omega)]; exact l4
  · rw [h 6 _ (by omega), h 79 _ (by omega)]; exact l6 l hl
  · rw [h 80 _ (by omega), h 81 _ (by omega)]; exact l10 l x y
theorem rS_0 {M : mm_T} (h1 : M.1 0 11 = 0) (h2 : M.1 65 38 = 0) : rS M := ⟨by rw [h1, h2], Or.inl h1⟩
theorem cD_ex {M M' : mm_T} {b : Nat} {D : sD} (h : ∀ a i, b ≤ a → a ≤ b + 14 → M'.1 a i = M.1 a i) (h2 : ∀ a, b ≤ a → a ≤ b + 14 → M'.2.1 a = M.2.1 a) (hd : cD M b D) : cD M' b D := by
  obtain ⟨⟨t1, t2⟩, d2, d3, d4⟩ := hd
  refine ⟨⟨?_, fun k q hk => ?_⟩, fun e he => ?_, fun e k he hk => ?_, fun k hk => ?_⟩
  · rw [h _ _ (by omega) (by omega)]; exact t1
  · rw [h _ _ (by omega) (by omega), h _ _ (by omega) (by omega), h _ _ (by omega) (by omega), h _ _ (by omega) (by omega)]; exact t2 k q hk
  · rw [h _ _ (by omega) (by omega)]; exact d2 e he
  · rw [h2 _ (by omega) (by omega)]; exact d3 e k he hk
  · rw [h _ _ (by omega) (by omega)]; exact d4 k hk
theorem cS_ex {M M' : mm_T} {b : Nat} {D : sD} {S : sS} (h : ∀ a i, b ≤ a → a ≤ b + 14 → ¬ (a = b ∧ 13 ≤ i) → M'.1 a i = M.1 a i) (h2 : ∀ a, b ≤ a → a ≤ b + 14 → M'.2.1 a = M.2.1 a) (hd : cS M b D S) : cS M' b D S := by
  obtain ⟨t1, t2, d2, d3, d4⟩ := hd
  refine ⟨?_, fun k x y => ?_, fun k x => ?_, fun k x y => ?_, fun e he i hi => ?_⟩
  · rw [h _ _ (by omega) (by omega) (by omega)]; exact t1
  · rw [h _ _ (by omega) (by omega) (by omega)]; exact t2 k x y
  · rw [h2 _ (by omega) (by omega)]; exact d2 k x
  · rw [h2 _ (by omega) (by omega), h2 _ (by omega) (by omega)]; exact d3 k x y
  · rw [h _ _ (by omega) (by omega) (by omega)]; exact d4 e he i hi
theorem rS_fr {M M' : mm_T} (hs : rS M) (h : ∀ a i, (a = 0 ∧ (i = 10 ∨ i = 11)) ∨ (13 ≤ a ∧ a ≤ 27) ∨ a = 70 ∨ (96 ≤ a ∧ a ≤ 108) ∨ (a = 65 ∧ (i = 38 ∨ i = 39)) → M'.1 a i = M.1 a i) (h2 : ∀ a, (13 ≤ a ∧ a ≤ 27) ∨ (96 ≤ a ∧ a ≤ 108) → M'.2.1 a = M.2.1 a) : rS M' := by
  obtain ⟨s1, s2⟩ := hs
  refine ⟨by rw [h 0 11 (by omega), h 65 38 (by omega)]; exact s1, s2.elim (fun g => Or.inl (by rw [h 0 11 (by omega)]; exact g)) (fun g => Or.inr ⟨by rw [h 0 11 (by omega)]; exact g.1, ?_⟩)⟩
  obtain ⟨G, D, S, g1, g2, g3, g4, g5, g6, g7, g8, g9, g10, g11, g12, g13⟩ := g.2
  refine ⟨G, D, S, g1, by rw [h _ _ (by omega)]; exact g2, by rw [h _ _ (by omega)]; exact g3, g4, g5, g6, cD_ex (fun a i x y => h a i (by omega)) (fun a x y => h2 a (by omega)) g7, cS_ex (fun a i x y _ => h a i (by omega)) (fun a x y => h2 a (by omega)) g8, by rw [h _ _ (by omega)]; exact g9, ?_, ?_, by rw [h _ _ (by omega), h _ _ (by omega)]; exact g12, fun s hs hc => by rw [h _ _ (by omega), h _ _ (by omega)]; exact g13 s hs hc⟩
  · obtain ⟨q1, q2, q3, q4, q5, q6⟩ := g10
    refine ⟨by rw [h _ _ (by omega)]; exact q1, fun e he => by rw [h _ _ (by omega)]; exact q2 e he, fun e i he hi => by rw [h _ _ (by omega)]; exact q3 e i he hi, fun e he => by rw [h _ _ (by omega)]; exact q4 e he, fun e k he hk => by rw [h2 _ (by omega)]; exact q5 e k he hk, fun k hk => by rw [h _ _ (by omega)]; exact q6 k hk⟩
  · obtain ⟨q1, q2, q3, q4, q5⟩ := g11
    exact ⟨by rw [h _ _ (by omega)]; exact q1, fun k x y => by rw [h _ _ (by omega)]; exact q2 k x y, fun k x => by rw [h2 _ (by omega)]; exact q3 k x, fun k x => by rw [h _ _ (by omega)]; exact q4 k x, fun s hs => by rw [h _ _ (by omega)]; exact q5 s hs⟩
theorem rQ_fr {M M' : mm_T} (hs : rQ M) (h : ∀ a i, (a = 0 ∧ (i = 7 ∨ i = 8 ∨ i = 12 ∨ i = 13)) ∨ a = 44 ∨ (a = 65 ∧ (i = 23 ∨ (53 ≤ i ∧ i ≤ 56) ∨ i = 58 ∨ i = 59 ∨ i = 61)) → M'.1 a i = M.1 a i) (h2 : ∀ a, a = 43 ∨ a = 109 → M'.2.1 a = M.2.1 a) : rQ M' := by
  obtain ⟨⟨k, m, q1, q2, q3, q4, q5, q6, q7⟩, ⟨q8, q9, q10, q11⟩, q12, q13⟩ := hs
  refine ⟨⟨k, m, q1, q2, by rw [h _ _ (by omega)]; exact q3, by rw [h _ _ (by omega)]; exact q4, by rw [h _ _ (by omega)]; exact q5, by rw [h _ _ (by omega)]; exact q6, fun j e x y => by rw [h2 _ (by omega), h2 _ (by omega)]; exact q7 j e x y⟩, ⟨?_, ?_, ?_, ?_⟩, ?_, ?_⟩
  · rw [h _ _ (by omega), h _ _ (by omega)]; exact q8
  · rw [h _ _ (by omega), h _ _ (by omega)]; exact q9
  · rw [h _ _ (by omega), h _ _ (by omega)]; exact q10
  · rw [h _ _ (by omega), h _ _ (by omega)]; exact q11
  · rw [h _ _ (by omega), h _ _ (by omega)]; exact q12
  · rw [h _ _ (by omega), h _ _ (by omega)]; exact q13
