/-! pairs: a new list, what holds behind it -/
theorem nSh_len {K A : Nat} (hK : K ≤ 4) : (nSh K A).length = lSz K := by
  rcases (show K = 0 ∨ K = 1 ∨ K = 2 ∨ K = 3 ∨ K = 4 by omega) with rfl | rfl | rfl | rfl | rfl <;> rfl
theorem app_at {sh tl : List sh_T} {a : Nat} {s : sh_T} (h : sh[a]? = some s) : (sh ++ tl)[a]? = some s := by
  have := (List.getElem?_eq_some_iff.mp h).1
  rw [List.getElem?_append_left this]
  exact h
theorem cSh_app {sh tl : List sh_T} {a k : Nat} (h : cSh sh a k) : cSh (sh ++ tl) a k := by
  rcases h with ⟨h0, h1, h2⟩ | ⟨h0, h1, h2, h3⟩ | ⟨h0, h1, h2⟩ | ⟨h0, h1⟩ | ⟨h0, h1⟩
  · exact Or.inl ⟨h0, app_at h1, app_at h2⟩
  · exact Or.inr (Or.inl ⟨h0, app_at h1, app_at h2, app_at h3⟩)
  · exact Or.inr (Or.inr (Or.inl ⟨h0, app_at h1, app_at h2⟩))
  · exact Or.inr (Or.inr (Or.inr (Or.inl ⟨h0, app_at h1⟩)))
  · exact Or.inr (Or.inr (Or.inr (Or.inr ⟨h0, app_at h1⟩)))
theorem cSh_new {dy : List sh_T} {A K : Nat} (hA : 114 + dy.length = A) (hK : K ≤ 4) : cSh (sh0 ++ (dy ++ nSh K A)) A K := by
  have h0 : ∀ s, (nSh K A)[0]? = some s → (sh0 ++ (dy ++ nSh K A))[A]? = some s := fun s h => n_at (j := 0) hA h
  have h1 : ∀ s, (nSh K A)[1]? = some s → (sh0 ++ (dy ++ nSh K A))[A + 1]? = some s := fun s h => n_at hA h
  have h2 : ∀ s, (nSh K A)[2]? = some s → (sh0 ++ (dy ++ nSh K A))[A + 2]? = some s := fun s h => n_at hA h
  rcases (show K = 0 ∨ K = 1 ∨ K = 2 ∨ K = 3 ∨ K = 4 by omega) with rfl | rfl | rfl | rfl | rfl
  · exact Or.inl ⟨rfl, h0 _ rfl, h1 _ rfl⟩
  · exact Or.inr (Or.inl ⟨rfl, h0 _ rfl, h1 _ rfl, h2 _ rfl⟩)
  · exact Or.inr (Or.inr (Or.inl ⟨rfl, h0 _ rfl, h1 _ rfl⟩))
  · exact Or.inr (Or.inr (Or.inr (Or.inl ⟨rfl, h0 _ rfl⟩)))
  · exact Or.inr (Or.inr (Or.inr (Or.inr ⟨rfl, h0 _ rfl⟩)))
theorem nSh_cc {K A : Nat} (hK : K ≤ 4) : ∃ s, (nSh K A)[0]? = some s ∧ ∀ f g r, m_cc (s f g r) 12 = true := by
  rcases (show K = 0 ∨ K = 1 ∨ K = 2 ∨ K = 3 ∨ K = 4 by omega) with rfl | rfl | rfl | rfl | rfl
  · exact ⟨_, rfl, fun _ _ _ => rfl⟩
  · exact ⟨_, rfl, fun _ _ _ => rfl⟩
  · exact ⟨_, rfl, fun _ _ _ => rfl⟩
  · exact ⟨_, rfl, fun _ _ _ => rfl⟩
  · exact ⟨_, rfl, fun _ _ _ => rfl⟩
theorem nSh_ok {K A : Nat} (hK : K ≤ 4) : ∀ s, s ∈ nSh K A → s = arrL 40 ∨ s = arrI 40 ∨ s = patternS 1 4 ∨ s = joinedS 1 4 ∨ (∃ a, s = plainS 1 a) ∨ (∃ a, s = bannedS 1 a) ∨ ∃ a b, s = scoredS 1 a b := by
  intro s hs
  rcases (show K = 0 ∨ K = 1 ∨ K = 2 ∨ K = 3 ∨ K = 4 by omega) with rfl | rfl | rfl | rfl | rfl
  · rcases List.mem_cons.mp hs with h | h
    · exact Or.inr (Or.inr (Or.inr (Or.inr (Or.inl ⟨_, h⟩))))
    · rcases List.mem_cons.mp h with h | h
      · exact Or.inl h
      · cases h
  · rcases List.mem_cons.mp hs with h | h
    · exact Or.inr (Or.inr (Or.inr (Or.inr (Or.inr (Or.inr ⟨_, _, h⟩)))))
    · rcases List.mem_cons.mp h with h | h
      · exact Or.inl h
      · rcases List.mem_cons.mp h with h | h
        · exact Or.inr (Or.inl h)
        · cases h
  · rcases List.mem_cons.mp hs with h | h
    · exact Or.inr (Or.inr (Or.inr (Or.inr (Or.inr (Or.inl ⟨_, h⟩)))))
    · rcases List.mem_cons.mp h with h | h
      · exact Or.inl h
      · cases h
  · rcases List.mem_cons.mp hs with h | h
    · exact Or.inr (Or.inr (Or.inl h))
    · cases h
  · rcases List.mem_cons.mp hs with h | h
    · exact Or.inr (Or.inr (Or.inr (Or.inl h)))
    · cases h
theorem updN_at (f : Nat → Nat) (k v : Nat) : updN f k v k = v := if_pos rfl
theorem updN_ne (f : Nat → Nat) {k j : Nat} (v : Nat) (h : j ≠ k) : updN f k v j = f j := if_neg h
section LS
variable {L : Nat} {xs : Nat → Int32} {t d : Nat} {dy : List sh_T} {M : mm_T} {Q : Option Value → sm_W → Prop} {n A : Nat} {E : Nat → lT} {P w : Nat → Nat}
theorem a_aastR {y cb a m k v : Nat} {is : List sm_I} {lv : sm_L} {st st0 : List Value} {i : sm_I} {sh : List sh_T} {s : sh_T} (hs : sh[a]? = some (arrW m)) (hv : sh[v]? = some s) (hc : m_cc (s (M.1 v) (M.2.1 v) (M.2.2 v)) 12 = true) (hi : rtI i = 12) (hst : st0 = .ref v :: .int (nI k) :: .ref a :: st) (hk : k < m) (hm : m < 2 ^ 31) (h : sm_X L xs d y cb is lv st (wm sh (m_setR M a k (some v))) Q) : sm_X L xs d y cb (i :: is) lv st0 (wm sh M) Q := by
  subst hst
  cases i <;> first | (cases hi; done) | skip
  refine x_op ?_ h
  simp only [sm_op, wm_get hs, wm_get hv]
  unfold m_cc at hc
  split at hc
  · rename_i ci fs h1
    rw [h1]
    dsimp only
    rw [← wm_setR hs, hc, if_neg (vp_in_nI hk hm), nI_clamp (by omega)]
    rfl
  · cases hc
theorem c_place3 {A : Nat} {v : Int32} {s : sh_T} (hs : (sh0 ++ dy)[A]? = some s) (hc : ∀ f g r, m_cc (s f g r) 12 = true) (hn : M.1 4 3 = nI n) (h16 : n < 16) (hq : Q (some (.int (nI n))) (wm (sh0 ++ dy) (m_setI (m_setI (m_setR M 5 n (some A)) 6 n v) 4 3 (nI (n + 1))))) : sm_E L xs (d + 1) 39 [.ref 4, .ref A, .int v] (wm (sh0 ++ dy) M) Q := by
  have hn' : (m_setI (m_setR M 5 n (some A)) 6 n v).1 4 3 = nI n := hn
  refine e_intro rfl rfl ?_
  refine x_opp rfl rfl ?_
  refine m_getg (s_4 dy) rfl rfl rfl ?_
  refine x_opp rfl rfl ?_
  refine x_opp rfl rfl ?_
  refine m_getg (s_4 dy) rfl rfl rfl ?_
  refine x_opp rfl rfl ?_
  refine x_opp rfl rfl ?_
  rw [hn]
  refine a_aastR (s_5 dy) hs (hc _ _ _) rfl rfl h16 (by decide) ?_
  refine x_opp rfl rfl ?_
  refine m_getg (s_4 dy) rfl rfl rfl ?_
  refine x_opp rfl rfl ?_
  refine x_opp rfl rfl ?_
  refine a_iastN (s_6 dy) (k := n) rfl rfl rfl (by omega) (by decide) ?_
  refine x_opp rfl rfl ?_
  refine x_opp rfl rfl ?_
  refine m_getg (s_4 dy) rfl rfl rfl ?_
  refine x_kcg rfl ?_
  refine x_opp rfl rfl ?_
  refine a_putJ 3 (s_4 dy) rfl rfl rfl rfl ?_
  refine x_opp rfl rfl ?_
  rw [hn', nI_1]
  refine a_iret rfl rfl rfl ?_
  exact hq
theorem R_list {Mb M' : mm_T} {s : Nat × (Nat → Int32)} {K a1 a2 W : Nat} {u v : Int32} {p : Int64} (hG : rG M n) (hN : rN M t s) (hL : rL dy M E P w n) (hQ : rQ M) (h16 : n < 16) (hA : 114 + dy.length = A) (hK : K ≤ 4) (h1 : 3 ≤ K → u = nI a1 ∧ a1 < n) (h2 : K = 4 → v = nI a2 ∧ a2 < n) (h3 : K = 3 → ∃ m, wOK 27 p m) (hW : W = 1 + (if 3 ≤ K then w a1 else 0) + (if K = 4 then w a2 else 0)) (h30 : W ≤ 30)
    (hb : nwP (m_setI (m_setI M 1 5 0) 0 11 0) Mb A K a1 a2 p)
    (e : M' = m_setI (m_setI (m_setI (m_setL (m_setI (m_setI (m_setI (m_setI (m_setI (m_setI (m_setR Mb 5 n (some A)) 6 n (nI W)) 4 3 (nI (n + 1))) 65 19 0) 75 n (nI K)) 76 n u) 77 n v) 78 n p) 79 n (nI W)) 65 9 (nI (n + 1))) 65 38 0) : rR (t + 1) (dy ++ nSh K A) M' := by
  obtain ⟨b1, b2, b3⟩ := hb
  obtain ⟨l1, l2, l3, l4, l5, l6, l7, l8, l9, l10⟩ := hL
  have z0 := l10 n (Nat.le_refl n) h16
  have fA : ∀ x i, A ≤ x → M'.1 x i = Mb.1 x i ∧ M'.2.1 x i = Mb.2.1 x i := by
    intro x i hx
    refine ⟨?_, ?_⟩
    · rw [e]
      repeat (first | rw [mI_ne _ _ _ (by omega)] | rw [mL_1] | rw [mR_1])
    · rw [e]
      show (m_setL _ 78 n p).2.1 x i = _
      rw [mL_at, if_neg (by omega)]
      rfl
  have fB : ∀ x i, x < A → ¬ (x = 1 ∧ i = 5) → ¬ (x = 0 ∧ i = 11) → ¬ (x = 6 ∧ i = n) → ¬ (x = 4 ∧ i = 3) → ¬ (x = 65 ∧ (i = 19 ∨ i = 9 ∨ i = 38)) → ¬ (75 ≤ x ∧ x ≤ 79 ∧ i = n) → M'.1 x i = M.1 x i := by
    intro x i hx g1 g2 g3 g4 g5 g6
    rw [e, mI_at, if_neg (by omega), mI_at, if_neg (by omega), mI_at, if_neg (by omega), mL_1, mI_at, if_neg (by omega), mI_at, if_neg (by omega), mI_at, if_neg (by omega), mI_at, if_neg (by omega), mI_at, if_neg (by omega), mI_at, if_neg (by omega), mR_1, (b1 x hx).1, mI_at, if_neg (by omega), mI_at, if_neg (by omega)]
  have fL : ∀ x i, x < A → ¬ (x = 78 ∧ i = n) → M'.2.1 x i = M.2.1 x i := by
    intro x i hx g
    rw [e]
    show (m_setL _ 78 n p).2.1 x i = _
    rw [mL_at, if_neg g]
    exact congrFun (b1 x hx).2 i
  have fR : ∀ x i, M'.2.2 x i = if x = 5 ∧ i = n then some A else M.2.2 x i := by
    intro x i
    rw [e]
    show (m_setR Mb 5 n (some A)).2.2 x i = _
    rw [mR_at, b2]
    rfl
  have pos : ∀ m, m < n → 114 ≤ P m ∧ P m + lSz (lK (E m)) ≤ A := fun m hm => ⟨(l2.2 m hm).1, by have := l7 m hm; omega⟩
  have sz : ∀ k, 1 ≤ lSz k := fun k => by unfold lSz; split <;> (try split) <;> omega
  have len : (dy ++ nSh K A).length = dy.length + lSz K := by rw [List.length_append, nSh_len hK]
  refine ⟨s, updE E n (nE K a1 a2 p), updN P n A, updN w n W, n + 1, rG_fr hG (Nat.le_succ n) (fun a i h => fB a i (by omega) (by omega) (by omega) (by omega) (by omega) (by omega) (by omega)) ?_, rN_cl hN (Nat.le_succ t) (fun a i h => fB a i (by omega) (by omega) (by omega) (by omega) (by omega) (by omega) (by omega)) ?_, ⟨⟨by omega, fun m hm => ?_⟩, ⟨?_, fun m hm => ?_⟩, fun m hm => ?_, ?_, fun m hm => ?_, fun m hm => ?_, fun m hm => ?_, fun m m' hmm hm => ?_, ⟨?_, fun s hs => ?_⟩, fun m x y => ?_⟩, rS_0 ?_ ?_, rQ_fr hQ (fun a i h => fB a i (by omega) (by omega) (by omega) (by omega) (by omega) (by omega) (by omega)) (fun a h => funext fun i => fL a i (by omega) (by omega))⟩
  · funext i
    rw [fR, if_neg (by omega)]
  · have x1 : M'.1 1 5 = 0 := by
      rw [e]
      repeat (first | rw [mI_ne _ _ _ (by omega)] | rw [mL_1] | rw [mR_1])
      rw [(b1 1 (by omega)).1]
      rfl
    rw [x1, e, mI_at, if_neg (by omega), mI_at, if_neg (by omega), mI_ne _ _ _ (by decide), mL_1, mI_ne _ _ _ (by decide), mI_ne _ _ _ (by decide), mI_ne _ _ _ (by decide), mI_at, if_pos ⟨rfl, rfl⟩]
  · by_cases q : m = n
    · subst q
      rw [updE_at]
      exact ⟨hK, fun h => (h1 h).2, fun h => (h2 h).2, fun h => h3 h, Nat.zero_le _, fun i hi => absurd hi (Nat.not_lt_zero i), fun i j hi => absurd hi (Nat.not_lt_zero i)⟩
    · rw [updE_ne _ _ q]
      exact l1.2 m (by omega)
  · rw [e]
    repeat (first | rw [mI_ne _ _ _ (by omega)] | rw [mL_1] | rw [mR_1])
    rw [mI_at, if_pos ⟨rfl, rfl⟩]
  · by_cases q : m = n
    · subst q
      rw [updE_at, updN_at]
      refine ⟨by omega, cSh_new hA hK, ?_, by rw [fR, if_pos ⟨rfl, rfl⟩]; rfl⟩
      obtain ⟨p1, p2, p3, p4, p5⟩ := b3
      refine ⟨by rw [(fA _ _ (Nat.le_refl _)).1]; exact p1, fun hk => ⟨by rw [(fA _ _ (Nat.le_refl _)).1]; exact (p2 hk).1, fun k hk2 => absurd hk2 (Nat.not_lt_zero k)⟩, fun hk k hk2 => absurd hk2 (Nat.not_lt_zero k), fun hk => ?_, fun hk => ?_⟩
      · rw [(fA _ _ (Nat.le_refl _)).1, (fA _ _ (Nat.le_refl _)).1, (fA _ _ (Nat.le_refl _)).2, (fA _ _ (Nat.le_refl _)).2]; exact p4 hk
      · rw [(fA _ _ (Nat.le_refl _)).1, (fA _ _ (Nat.le_refl _)).1]; exact p5 hk
    · rw [updE_ne _ _ q, updN_ne _ _ q]
      obtain ⟨q1, q2, ⟨p1, p2, p3, p4, p5⟩, q4⟩ := l2.2 m (by omega)
      obtain ⟨x1, x2⟩ := pos m (by omega)
      have x3 := sz (lK (E m))
      have ga : ∀ i, M'.1 (P m) i = M.1 (P m) i := fun i => fB _ _ (by omega) (by omega) (by omega) (by omega) (by omega) (by omega) (by omega)
      have gl : ∀ i, M'.2.1 (P m) i = M.2.1 (P m) i := fun i => fL _ _ (by omega) (by omega)
      refine ⟨q1, by rw [← List.append_assoc]; exact cSh_app q2, ⟨by rw [ga]; exact p1, fun hk => ⟨by rw [ga]; exact (p2 hk).1, fun k hk2 => ?_⟩, fun hk k hk2 => ?_, fun hk => by rw [ga, ga, gl, gl]; exact p4 hk, fun hk => by rw [ga, ga]; exact p5 hk⟩, ?_⟩
      · have : 2 ≤ lSz (lK (E m)) := by unfold lSz; split <;> (try split) <;> omega
        rw [fL _ _ (by omega) (by omega)]; exact (p2 hk).2 k hk2
      · have : lSz (lK (E m)) = 3 := by unfold lSz; rw [if_pos hk]
        rw [fB _ _ (by omega) (by omega) (by omega) (by omega) (by omega) (by omega) (by omega)]; exact p3 hk k hk2
      · rw [fR, if_neg (by omega)]; exact q4
  · by_cases q : m = n
    · subst q
      rw [updE_at]
      refine ⟨?_, fun hk => ?_, fun hk => ?_, fun hk => ?_, ?_, ?_, fun k hk => absurd hk (Nat.not_lt_zero k), fun hk k hk2 => absurd hk2 (Nat.not_lt_zero k)⟩
      · rw [e]
        repeat (first | rw [mI_ne _ _ _ (by omega)] | rw [mL_1])
        rw [mI_at, if_pos ⟨rfl, rfl⟩]
        rfl
      · rw [e]
        repeat (first | rw [mI_ne _ _ _ (by omega)] | rw [mL_1])
        rw [mI_at, if_pos ⟨rfl, rfl⟩]
        exact (h1 hk).1
      · rw [e]
        repeat (first | rw [mI_ne _ _ _ (by omega)] | rw [mL_1])
        rw [mI_at, if_pos ⟨rfl, rfl⟩]
        exact (h2 hk).1
      · rw [e]
        show (m_setL _ 78 m p).2.1 78 m = _
        rw [mL_at, if_pos ⟨rfl, rfl⟩]
        rfl
      · rw [fB _ _ (by omega) (by omega) (by omega) (by omega) (by omega) (by omega) (by omega), z0.1]
        rfl
      · rw [fB _ _ (by omega) (by omega) (by omega) (by omega) (by omega) (by omega) (by omega), z0.2]
        rfl
    · rw [updE_ne _ _ q]
      obtain ⟨q1, q2, q3, q4, q5, q6, q7, q8⟩ := l3 m (by omega)
      exact ⟨by rw [fB _ _ (by omega) (by omega) (by omega) (by omega) (by omega) (by omega) (by omega)]; exact q1, by rw [fB _ _ (by omega) (by omega) (by omega) (by omega) (by omega) (by omega) (by omega)]; exact q2, by rw [fB _ _ (by omega) (by omega) (by omega) (by omega) (by omega) (by omega) (by omega)]; exact q3, by rw [fL _ _ (by omega) (by omega)]; exact q4, by rw [fB _ _ (by omega) (by omega) (by omega) (by omega) (by omega) (by omega) (by omega)]; exact q5, by rw [fB _ _ (by omega) (by omega) (by omega) (by omega) (by omega) (by omega) (by omega)]; exact q6, fun k hk => by rw [fL _ _ (by omega) (by omega)]; exact q7 k hk, fun hk k hk2 => by rw [fB _ _ (by omega) (by omega) (by omega) (by omega) (by omega) (by omega) (by omega)]; exact q8 hk k hk2⟩
  · rw [e, mI_at, if_neg (by omega), mI_at, if_pos ⟨rfl, rfl⟩]
  · by_cases q : m = n
    · subst q
      rw [updE_at, updN_at]
      show W = 1 + (if 3 ≤ K then updN w m W a1 else 0) + (if K = 4 then updN w m W a2 else 0)
      rw [hW]
      congr 1
      · congr 1
        by_cases c : 3 ≤ K
        · rw [if_pos c, if_pos c, updN_ne _ _ (by have := (h1 c).2; omega)]
        · rw [if_neg c, if_neg c]
      · by_cases c : K = 4
        · rw [if_pos c, if_pos c, updN_ne _ _ (by have := (h2 c).2; omega)]
        · rw [if_neg c, if_neg c]
    · rw [updE_ne _ _ q, updN_ne _ _ q]
      obtain ⟨-, o2, o3, -⟩ := l1.2 m (by omega)
      have := l5 m (by omega)
      rw [this]
      congr 1
      · congr 1
        by_cases c : 3 ≤ lK (E m)
        · rw [if_pos c, if_pos c, updN_ne _ _ (by have := o2 c; omega)]
        · rw [if_neg c, if_neg c]
      · by_cases c : lK (E m) = 4
        · rw [if_pos c, if_pos c, updN_ne _ _ (by have := o3 c; omega)]
        · rw [if_neg c, if_neg c]
  · by_cases q : m = n
    · subst q
      rw [updN_at]
      refine ⟨h30, ?_, ?_⟩
      · rw [e]
        repeat (first | rw [mI_ne _ _ _ (by omega)] | rw [mL_1])
        rw [mI_at, if_pos ⟨rfl, rfl⟩]
      · rw [e]
        repeat (first | rw [mI_ne _ _ _ (by omega)] | rw [mL_1])
        rw [mI_at, if_pos ⟨rfl, rfl⟩]
    · rw [updN_ne _ _ q, fB _ _ (by omega) (by omega) (by omega) (by omega) (by omega) (by omega) (by omega), fB _ _ (by omega) (by omega) (by omega) (by omega) (by omega) (by omega) (by omega)]
      exact l6 m (by omega)
  · rw [len]
    by_cases q : m = n
    · subst q
      rw [updE_at, updN_at]
      show A + lSz K ≤ _
      omega
    · rw [updE_ne _ _ q, updN_ne _ _ q]
      have := l7 m (by omega)
      omega
  · by_cases q : m' = n
    · subst q
      rw [updN_at, updE_ne _ _ (by omega), updN_ne _ _ (by omega)]
      exact (pos m (by omega)).2
    · rw [updN_ne _ _ q, updE_ne _ _ (by omega), updN_ne _ _ (by omega)]
      exact l8 m m' hmm (by omega)
  · rw [len]
    have : lSz K ≤ 3 := by unfold lSz; split <;> (try split) <;> omega
    have := l9.1
    omega
  · rcases List.mem_append.mp hs with g | g
    · exact l9.2 s g
    · exact nSh_ok hK s g
  · rw [fB _ _ (by omega) (by omega) (by omega) (by omega) (by omega) (by omega) (by omega), fB _ _ (by omega) (by omega) (by omega) (by omega) (by omega) (by omega) (by omega)]
    exact l10 m (by omega) y
  · rw [e]
    repeat (first | rw [mI_ne _ _ _ (by omega)] | rw [mL_1] | rw [mR_1])
    rw [(b1 0 (by omega)).1, mI_at, if_pos ⟨rfl, rfl⟩]
  · rw [e, mI_at, if_pos ⟨rfl, rfl⟩]
end LS
