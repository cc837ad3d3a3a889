/-! pairs: a word comes into a list, both sides -/
def wordE (x : lT) (my : Nat) (wd : Nat → Int64) (sc : Nat → Int32) : lT := (x.1, x.2.1, x.2.2.1, x.2.2.2.1, x.2.2.2.2.1, my, wd, sc)
section WE
variable {L : Nat} {xs : Nat → Int32} {t d : Nat} {dy : List sh_T} {M : mm_T} {Q : Option Value → sm_W → Prop} {n G : Nat} {E : Nat → lT} {P w : Nat → Nat}
theorem R_word {M' : mm_T} {s : Nat × (Nat → Int32)} {l my : Nat} {wd : Nat → Int64} {sc : Nat → Int32} (hG : rG M n) (hN : rN M t s) (hL : rL dy M E P w n) (hQ : rQ M) (hl : l < n) (hk : lK (E l) < 3)
    (o1 : my ≤ 40) (o2 : ∀ i, i < my → ∃ m, wOK 26 (wd i) m) (o3 : ∀ i j, i < my → j < my → wd i = wd j → i = j)
    (f0 : ∀ a i, a < 114 → ¬ (a = 1 ∧ i = 5) → ¬ (a = 0 ∧ i = 11) → ¬ (a = 65 ∧ (i = 19 ∨ i = 38)) → ¬ (a = 81 ∧ i = l) → ¬ (a = 83 ∧ 40 * l ≤ i ∧ i < 40 * l + 40) → M'.1 a i = M.1 a i)
    (f1 : ∀ a i, 114 ≤ a → ¬ (P l ≤ a ∧ a < P l + lSz (lK (E l))) → M'.1 a i = M.1 a i) (fl : ∀ a i, ¬ (a = 82 ∧ 40 * l ≤ i ∧ i < 40 * l + 40) → ¬ (a = P l + 1) → M'.2.1 a i = M.2.1 a i) (fr : M'.2.2 = M.2.2)
    (h5 : M'.1 1 5 = M'.1 65 19) (h11 : M'.1 0 11 = 0) (h38 : M'.1 65 38 = 0) (k0 : M'.1 (P l) 0 = M.1 (P l) 0) (k1 : M'.1 (P l) 3 = nI my) (k2 : ∀ k, k < my → M'.2.1 (P l + 1) k = wd k) (k3 : lK (E l) = 1 → ∀ k, k < my → M'.1 (P l + 2) k = sc k) (k4 : M'.1 81 l = nI my) (k5 : ∀ k, k < my → M'.2.1 82 (40 * l + k) = wd k) (k6 : lK (E l) = 1 → ∀ k, k < my → M'.1 83 (40 * l + k) = sc k) : rR (t + 1) dy M' := by
  obtain ⟨q1, q2, q3, q4, q5, q6, q7, q8⟩ := hL.2.2.1 l hl
  obtain ⟨r1, r2, r3, r4⟩ := hL.2.1.2 l hl
  have hn := hL.1.1
  have c14 : ∀ m, m < n → 114 ≤ P m := fun m hm => (hL.2.1.2 m hm).1
  have sz : 2 ≤ lSz (lK (E l)) := by unfold lSz; split <;> (try split) <;> omega
  have sz1 : lK (E l) = 1 → lSz (lK (E l)) = 3 := fun h => by unfold lSz; rw [if_pos h]
  have r8 := hL.2.2.2.2.2.2.2.1
  refine ⟨s, updE E l (wordE (E l) my wd sc), P, w, n, rG_fr hG (Nat.le_refl n) (fun a i h => f0 a i (by omega) (by omega) (by omega) (by omega) (by omega) (by omega)) (by rw [fr]), rN_cl hN (Nat.le_succ t) (fun a i h => f0 a i (by omega) (by omega) (by omega) (by omega) (by omega) (by omega)) h5, ?_, rS_0 h11 h38, rQ_fr hQ (fun a i h => f0 a i (by omega) (by omega) (by omega) (by omega) (by omega) (by omega)) (fun a h => funext fun i => fl a i (by omega) (by omega))⟩
  refine rL_upd hL hl rfl rfl rfl rfl o1 o2 o3 (f0 _ _ (by omega) (by omega) (by omega) (by omega) (by omega) (by omega)) (f0 _ _ (by omega) (by omega) (by omega) (by omega) (by omega) (by omega)) (fun i => ⟨f0 _ _ (by omega) (by omega) (by omega) (by omega) (by omega) (by omega), f0 _ _ (by omega) (by omega) (by omega) (by omega) (by omega) (by omega)⟩) (fun i => ⟨f0 _ _ (by omega) (by omega) (by omega) (by omega) (by omega) (by omega), f0 _ _ (by omega) (by omega) (by omega) (by omega) (by omega) (by omega), f0 _ _ (by omega) (by omega) (by omega) (by omega) (by omega) (by omega), fl _ _ (by omega) (by omega)⟩) (fun i hi => ⟨f0 _ _ (by omega) (by omega) (by omega) (by omega) (by omega) (by omega), f0 _ _ (by omega) (by omega) (by omega) (by omega) (by omega) (by omega)⟩) (fun i hi => ⟨fl _ _ (by omega) (by omega), f0 _ _ (by omega) (by omega) (by omega) (by omega) (by omega) (by omega)⟩) (fun i hi => by rw [fr]) (fun m hm hml a x y => ?_) ⟨?_, fun _ => ⟨k1, k2⟩, fun h => k3 h, fun h => ?_, fun h => ?_⟩ ?_ ?_ k4 k5 (fun h => k6 h)
  · have := c14 m hm
    have := c14 l hl
    have ds : P m + lSz (lK (E m)) ≤ P l ∨ P l + lSz (lK (E l)) ≤ P m := by
      rcases Nat.lt_or_gt_of_ne hml with g | g
      · exact Or.inl (r8 m l g hl)
      · exact Or.inr (r8 l m g hm)
    exact ⟨fun i => f1 _ _ (by omega) (by omega), fun i => fl _ _ (by omega) (by omega)⟩
  · rw [k0]; exact r3.1
  · have : lK (E l) = 3 := h
    omega
  · have : lK (E l) = 4 := h
    omega
  · rw [fr]; exact r4
  · rw [f0 _ _ (by omega) (by omega) (by omega) (by omega) (by omega) (by omega)]; exact q5
theorem R_wA {M3 M' : mm_T} {s : Nat × (Nat → Int32)} {l k : Nat} {e : Int32} (hG : rG M n) (hN : rN M t s) (hL : rL dy M E P w n) (hQ : rQ M) (hl : l < n) (hk : lK (E l) < 3) (hkm : k < lMy (E l)) (c : tkA (m_setI M 1 5 0) M3 (P l) (lK (E l)) k e)
    (h : M' = m_setI (m_setI (m_setI (m_setI M3 0 11 0) 65 19 0) 83 (40 * l + k) e) 65 38 0) : rR (t + 1) dy M' := by
  obtain ⟨c1, c2, c3⟩ := c
  obtain ⟨q1, q2, q3, q4, q5, q6, q7, q8⟩ := hL.2.2.1 l hl
  obtain ⟨r1, r2, r3, r4⟩ := hL.2.1.2 l hl
  obtain ⟨o1, o2, o3, o4, o5, o6, o7⟩ := hL.1.2 l hl
  have hn := hL.1.1
  have m2 : M'.2 = M.2 := by rw [h]; exact c1
  have fa : ∀ a i, ¬ (a = 1 ∧ i = 5) → ¬ (a = 0 ∧ i = 11) → ¬ (a = 65 ∧ (i = 19 ∨ i = 38)) → ¬ (a = 83 ∧ i = 40 * l + k) → ¬ (a = P l + 2 ∧ i = k ∧ lK (E l) = 1) → M'.1 a i = M.1 a i := fun a i h1 h2 h3 h4 h5 => by
    rw [h, mI_at, if_neg (by omega), mI_at, if_neg h4, mI_at, if_neg (by omega), mI_at, if_neg h2, c2 a i h5, mI_at, if_neg h1]
  have l2 : lK (E l) = 1 → lSz (lK (E l)) = 3 := fun g => by unfold lSz; rw [if_pos g]
  refine R_word (my := lMy (E l)) (wd := lWd (E l)) (sc := upd (lSc (E l)) k e) hG hN hL hQ hl hk o5 o6 o7 (fun a i h0 h1 h2 h3 h4 h5 => fa a i h1 h2 h3 (by omega) (by omega)) (fun a i h0 h1 => fa a i (by omega) (by omega) (by omega) (by omega) (fun z => h1 (by have := l2 z.2.2; omega))) (fun a i _ _ => by rw [m2]) (by rw [m2]) ?_ ?_ ?_ (fa _ _ (by omega) (by omega) (by omega) (by omega) (by omega)) ?_ (fun j hj => ?_) (fun g j hj => ?_) ?_ (fun j hj => ?_) (fun g j hj => ?_)
  · have e1 : M'.1 1 5 = 0 := by
      rw [h, mI_ne _ _ _ (by decide), mI_ne _ _ _ (by decide), mI_ne _ _ _ (by decide), mI_ne _ _ _ (by decide), c2 1 5 (by omega)]
      rfl
    rw [e1, h, mI_at, if_neg (by omega), mI_ne _ _ _ (by decide), mI_at, if_pos ⟨rfl, rfl⟩]
  · rw [h, mI_ne _ _ _ (by decide), mI_ne _ _ _ (by decide), mI_ne _ _ _ (by decide), mI_at, if_pos ⟨rfl, rfl⟩]
  · rw [h, mI_at, if_pos ⟨rfl, rfl⟩]
  · rw [fa _ _ (by omega) (by omega) (by omega) (by omega) (by omega)]; exact (r3.2.1 hk).1
  · rw [m2]; exact (r3.2.1 hk).2 j hj
  · unfold upd
    by_cases q : j = k
    · subst q
      rw [if_pos rfl, h, mI_ne _ _ _ (by omega), mI_ne _ _ _ (by omega), mI_ne _ _ _ (by omega), mI_ne _ _ _ (by omega)]
      exact c3 g
    · rw [if_neg q, fa _ _ (by omega) (by omega) (by omega) (by omega) (by omega)]; exact r3.2.2.1 g j hj
  · rw [fa _ _ (by omega) (by omega) (by omega) (by omega) (by omega)]; exact q6
  · rw [m2]; exact q7 j hj
  · unfold upd
    by_cases q : j = k
    · subst q
      rw [if_pos rfl, h, mI_ne _ _ _ (by omega), mI_at, if_pos ⟨rfl, rfl⟩]
    · rw [if_neg q, fa _ _ (by omega) (by omega) (by omega) (by omega) (by omega)]; exact q8 g j hj
theorem R_wC {M3 M' : mm_T} {s : Nat × (Nat → Int32)} {l m26 : Nat} {o : Int64} {e : Int32} (hG : rG M n) (hN : rN M t s) (hL : rL dy M E P w n) (hQ : rQ M) (hl : l < n) (hk : lK (E l) < 3) (h40 : lMy (E l) < 40) (ho : wOK 26 o m26) (hno : sAt (lWd (E l)) o (lMy (E l)) = none) (c : tkC (m_setI M 1 5 0) M3 (P l) (lK (E l)) (lMy (E l)) o e)
    (h : M' = m_setI (m_setI (m_setI (m_setL (m_setI (m_setI M3 0 11 0) 65 19 0) 82 (40 * l + lMy (E l)) o) 81 l (nI (lMy (E l) + 1))) 83 (40 * l + lMy (E l)) e) 65 38 0) : rR (t + 1) dy M' := by
  obtain ⟨c1, c2, c3, c4, c5, c6⟩ := c
  obtain ⟨q1, q2, q3, q4, q5, q6, q7, q8⟩ := hL.2.2.1 l hl
  obtain ⟨r1, r2, r3, r4⟩ := hL.2.1.2 l hl
  obtain ⟨o1, o2, o3, o4, o5, o6, o7⟩ := hL.1.2 l hl
  have hn := hL.1.1
  generalize hmy : lMy (E l) = my at *
  have fa : ∀ a i, ¬ (a = 1 ∧ i = 5) → ¬ (a = 0 ∧ i = 11) → ¬ (a = 65 ∧ (i = 19 ∨ i = 38)) → ¬ (a = 81 ∧ i = l) → ¬ (a = 83 ∧ i = 40 * l + my) → ¬ (a = P l ∧ i = 3) → ¬ (a = P l + 2 ∧ i = my ∧ lK (E l) = 1) → M'.1 a i = M.1 a i := fun a i h1 h2 h3 h4 h5 h6 h7 => by
    rw [h, mI_at, if_neg (by omega), mI_at, if_neg h5, mI_at, if_neg h4, mL_1, mI_at, if_neg (by omega), mI_at, if_neg h2, c2 a i h6 h7, mI_at, if_neg h1]
  have fb : ∀ a i, (M'.2.1 a i = if a = 82 ∧ i = 40 * l + my then o else M3.2.1 a i) := fun a i => by
    rw [h]
    exact mL_at _ 82 (40 * l + my) o a i
  have m22 : M'.2.2 = M.2.2 := by rw [h]; exact c1
  have sz : 2 ≤ lSz (lK (E l)) := by unfold lSz; split <;> (try split) <;> omega
  have l2 : lK (E l) = 1 → lSz (lK (E l)) = 3 := fun g => by unfold lSz; rw [if_pos g]
  have wdn : ∀ j, j < my → lWd (E l) j ≠ o := fun j hj => sAt_none hno j hj
  refine R_word (my := my + 1) (wd := updW (lWd (E l)) my o) (sc := upd (lSc (E l)) my e) hG hN hL hQ hl hk (by omega) (fun i hi => ?_) (fun i j hi hj he => ?_) (fun a i h0 h1 h2 h3 h4 h5 => fa a i h1 h2 h3 h4 (by omega) (by omega) (by omega)) (fun a i h0 h1 => fa a i (by omega) (by omega) (by omega) (by omega) (by omega) (by omega) (fun z => h1 (by have := l2 z.2.2; omega))) (fun a i h0 h1 => ?_) m22 ?_ ?_ ?_ (fa _ _ (by omega) (by omega) (by omega) (by omega) (by omega) (by omega) (by omega)) ?_ (fun j hj => ?_) (fun g j hj => ?_) ?_ (fun j hj => ?_) (fun g j hj => ?_)
  · unfold updW
    by_cases q : i = my
    · rw [if_pos q]; exact ⟨m26, ho⟩
    · rw [if_neg q]; exact o6 i (by omega)
  · unfold updW at he
    by_cases q1 : i = my
    · by_cases q2 : j = my
      · omega
      · rw [if_pos q1, if_neg q2] at he
        exact absurd he.symm (wdn j (by omega))
    · by_cases q2 : j = my
      · rw [if_neg q1, if_pos q2] at he
        exact absurd he (wdn i (by omega))
      · rw [if_neg q1, if_neg q2] at he
        exact o7 i j (by omega) (by omega) he
  · rw [fb, if_neg (by omega), c5 a i (by omega)]
    rfl
  · have e1 : M'.1 1 5 = 0 := by
      rw [h, mI_ne _ _ _ (by decide), mI_ne _ _ _ (by decide), mI_ne _ _ _ (by decide), mL_1, mI_ne _ _ _ (by decide), mI_ne _ _ _ (by decide), c2 1 5 (by omega) (by omega)]
      rfl
    rw [e1, h, mI_at, if_neg (by omega), mI_ne _ _ _ (by decide), mI_ne _ _ _ (by decide), mL_1, mI_at, if_pos ⟨rfl, rfl⟩]
  · rw [h, mI_ne _ _ _ (by decide), mI_ne _ _ _ (by decide), mI_ne _ _ _ (by decide), mL_1, mI_ne _ _ _ (by decide), mI_at, if_pos ⟨rfl, rfl⟩]
  · rw [h, mI_at, if_pos ⟨rfl, rfl⟩]
  · rw [h, mI_ne _ _ _ (by omega), mI_ne _ _ _ (by omega), mI_ne _ _ _ (by omega), mL_1, mI_ne _ _ _ (by omega), mI_ne _ _ _ (by omega)]
    exact c3
  · rw [fb, if_neg (by omega)]
    unfold updW
    by_cases q : j = my
    · subst q; rw [if_pos rfl]; exact c6
    · rw [if_neg q, c5 _ _ (by omega)]; exact (r3.2.1 hk).2 j (by omega)
  · unfold upd
    by_cases q : j = my
    · subst q
      rw [if_pos rfl, h, mI_ne _ _ _ (by omega), mI_ne _ _ _ (by omega), mI_ne _ _ _ (by omega), mL_1, mI_ne _ _ _ (by omega), mI_ne _ _ _ (by omega)]
      exact c4 g
    · rw [if_neg q, fa _ _ (by omega) (by omega) (by omega) (by omega) (by omega) (by omega) (by omega)]; exact r3.2.2.1 g j (by omega)
  · rw [h, mI_ne _ _ _ (by decide), mI_ne _ _ _ (by decide), mI_at, if_pos ⟨rfl, rfl⟩]
  · rw [fb]
    unfold updW
    by_cases q : j = my
    · subst q; rw [if_pos ⟨rfl, rfl⟩, if_pos rfl]
    · rw [if_neg (by omega), if_neg q, c5 _ _ (by omega)]; exact q7 j (by omega)
  · unfold upd
    by_cases q : j = my
    · subst q
      rw [if_pos rfl, h, mI_ne _ _ _ (by omega), mI_at, if_pos ⟨rfl, rfl⟩]
    · rw [if_neg q, fa _ _ (by omega) (by omega) (by omega) (by omega) (by omega) (by omega) (by omega)]; exact q8 g j (by omega)
end WE
