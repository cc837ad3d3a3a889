/-! pairs: lists are asked -/
/-- what a question of the desk comes to -/
def aPo (E : Nat → lT) (l act : Nat) (o : Int64) (M M' : mm_T) (s : Nat × (Nat → Int32)) (x : Int32) : Prop := ((askF E l act o).2.1 = 0 ∧ cft M M' (trc s (askF E l act o).1) ∧ x = (askF E l act o).2.2.toInt32) ∨ ((askF E l act o).2.1 ≠ 0 ∧ cff M M' (trc s (askF E l act o).1) (askF E l act o).2.1)
def wPo (E : Nat → lT) (l : Nat) (k : Int32) (M M' : mm_T) (s : Nat × (Nat → Int32)) (x : Int64) : Prop := ((askF E l 2 k.toInt64).2.1 = 0 ∧ cft M M' (trc s (askF E l 2 k.toInt64).1) ∧ x = (askF E l 2 k.toInt64).2.2) ∨ ((askF E l 2 k.toInt64).2.1 ≠ 0 ∧ cff M M' (trc s (askF E l 2 k.toInt64).1) (askF E l 2 k.toInt64).2.1)
/-- findings of questions: 0, 1 or 2 -/
theorem askF_fd {E : Nat → lT} {n : Nat} (h : lOK E n) : ∀ l, l < n → ∀ act o, (askF E l act o).2.1 ≤ 2 := by
  intro l
  induction l using Nat.strongRecOn with
  | ind l ih =>
    intro hl act o
    obtain ⟨q1, q2, q3, -⟩ := h.2 l hl
    rw [askF_eq h hl]
    by_cases c1 : lDr (E l) = true
    · rw [if_pos c1]; decide
    · rw [if_neg c1]
      by_cases c2 : lK (E l) < 3
      · rw [if_pos c2]
        unfold askL
        split
        · exact Nat.zero_le _
        · split
          · exact Nat.zero_le _
          · split
            · split
              · exact Nat.le_refl _
              · split
                · exact Nat.le_refl _
                · exact Nat.zero_le _
            · exact Nat.zero_le _
      · rw [if_neg c2]
        have i1 := ih (lA1 (E l)) (q2 (by omega)) (Nat.lt_trans (q2 (by omega)) hl)
        by_cases c3 : lK (E l) = 3
        · rw [if_pos c3]
          split
          · exact Nat.zero_le _
          · dsimp only
            split
            · exact Nat.zero_le _
            · exact i1 act o
        · rw [if_neg c3]
          have i2 := ih (lA2 (E l)) (q3 (by omega)) (Nat.lt_trans (q3 (by omega)) hl)
          dsimp only
          have i2' := i2 (if act = 2 then 0 else act) (if act = 2 then (askF E (lA1 (E l)) act o).2.2 else o)
          generalize askF E (lA2 (E l)) (if act = 2 then 0 else act) (if act = 2 then (askF E (lA1 (E l)) act o).2.2 else o) = r2 at i2' ⊢
          split
          · split
            · split
              · exact Nat.zero_le _
              · exact i2'
            · exact Nat.zero_le _
          · exact i1 act o
section AK
variable {L : Nat} {xs : Nat → Int32} {t d : Nat} {dy : List sh_T} {M : mm_T} {Q : Option Value → sm_W → Prop} {n G : Nat} {E : Nat → lT} {P : Nat → Nat}
theorem cSh_kd {sh : List sh_T} {a k : Nat} (h : cSh sh a k) : ∃ s, sh[a]? = some s ∧ ∀ f g r, m_fd (s f g r) 6144 = some (.int (f 0)) := by
  rcases h with ⟨-, h, -⟩ | ⟨-, h, -⟩ | ⟨-, h, -⟩ | ⟨-, h⟩ | ⟨-, h⟩
  · exact ⟨_, h, fun _ _ _ => rfl⟩
  · exact ⟨_, h, fun _ _ _ => rfl⟩
  · exact ⟨_, h, fun _ _ _ => rfl⟩
  · exact ⟨_, h, fun _ _ _ => rfl⟩
  · exact ⟨_, h, fun _ _ _ => rfl⟩
/-- behind a question that was answered on both sides -/
theorem R_ask {M3 M4 : mm_T} {s : Nat × (Nat → Int32)} {cs : List Nat} {w : Nat → Nat} (hG : rG M n) (hN : rN M t s) (hL : rL dy M E P w n) (hS : rS M) (hQ : rQ M) (c : cft (m_setI M 1 5 0) M3 (trc s cs)) (a : aft (m_setI M3 65 19 0) M4 0 (trc s cs)) (hlen : cs.length ≤ 204120) : rR (t + 1) dy M4 := by
  obtain ⟨⟨a1, a2, a3, a4⟩, -, a6⟩ := a
  obtain ⟨c1, c2, c3, c4⟩ := c
  have f1 : ∀ a i, a ≠ 1 → a ≠ 2 → a ≠ 65 → a ≠ 85 → (a < 86 ∨ 89 < a) → M4.1 a i = M.1 a i := fun a i h1 h2 h3 h4 h5 => by
    rw [a2 a h3 h4 h5, mI_ne _ _ _ h3, c2 a h1 h2, mI_ne _ _ _ h1]
  have f65 : ∀ f, f ≠ 22 → f ≠ 24 → f ≠ 31 → f ≠ 19 → M4.1 65 f = M.1 65 f := fun f h1 h2 h3 h4 => by
    rw [a3 f h1 h2 h3, mI_at, if_neg (by omega), c2 65 (by decide) (by decide), mI_ne _ _ _ (by decide)]
  have fl : ∀ a, a ≠ 65 → a ≠ 88 → a ≠ 90 → M4.2.1 a = M.2.1 a := fun a h1 h2 h3 => by
    rw [a4 a h1 h2 h3, mI_2, c1, mI_2]
  have fr : M4.2.2 = M.2.2 := by rw [a1, mI_2, c1, mI_2]
  have fa : ∀ a i, a ≠ 1 → a ≠ 2 → a ≠ 85 → (a < 86 ∨ 89 < a) → ¬ (a = 65 ∧ (i = 22 ∨ i = 24 ∨ i = 31 ∨ i = 19)) → M4.1 a i = M.1 a i := fun a i h1 h2 h3 h4 h5 => by
    by_cases q : a = 65
    · subst q; exact f65 i (by omega) (by omega) (by omega) (by omega)
    · exact f1 a i h1 h2 q h3 h4
  obtain ⟨n1, n2, n3, n4, n5⟩ := hN
  have e1 : M4.1 1 = M3.1 1 := by rw [a2 1 (by decide) (by decide) (by decide), mI_ne _ _ _ (by decide)]
  have e2 : M4.1 2 = M3.1 2 := by rw [a2 2 (by decide) (by decide) (by decide), mI_ne _ _ _ (by decide)]
  refine ⟨trc s cs, E, P, w, n, rG_fr hG (Nat.le_refl n) (fun a i h => fa a i (by omega) (by omega) (by omega) (by omega) (by omega)) (by rw [fr]), ⟨?_, a6, ?_, fun i hi => ?_, ?_⟩, rL_fr hL (fun a i h => fa a i (by omega) (by omega) (by omega) (by omega) (by omega)) (fun a h => fl a (by omega) (by omega) (by omega)) (by rw [fr]), rS_fr hS (fun a i h => fa a i (by omega) (by omega) (by omega) (by omega) (by omega)) (fun a h => fl a (by omega) (by omega) (by omega)), rQ_fr hQ (fun a i h => fa a i (by omega) (by omega) (by omega) (by omega) (by omega)) (fun a h => fl a (by omega) (by omega) (by omega))⟩
  · unfold cTr
    rw [e1, e2]
    exact c4
  · rw [e1, c3, a3 19 (by decide) (by decide) (by decide)]
    rfl
  · rw [f1 3 i (by decide) (by decide) (by decide) (by decide) (by decide), f1 84 i (by decide) (by decide) (by decide) (by decide) (by decide)]
    exact n4 i hi
  · rw [trc_len]
    omega
/-- behind a question that came to a finding on both sides -/
theorem R_askF {M3 M4 : mm_T} {s : Nat × (Nat → Int32)} {cs : List Nat} {w : Nat → Nat} {k : Nat} (hk : k < 6) (hG : rG M n) (hN : rN M t s) (hL : rL dy M E P w n) (hS : rS M) (hQ : rQ M) (c : cff (m_setI M 1 5 0) M3 (trc s cs) k) (a : aft (m_setI M3 65 19 0) M4 0 (trc s cs)) (hlen : cs.length ≤ 204120) : rR (t + 1) dy (mMet M4 (nI k)) := by
  obtain ⟨⟨a1, a2, a3, a4⟩, -, a6⟩ := a
  obtain ⟨c1, c2, c3, c4, c5⟩ := c
  unfold mMet
  rw [nI_clamp (by omega)]
  have f1 : ∀ a i, a ≠ 1 → a ≠ 2 → a ≠ 3 → a ≠ 65 → a ≠ 85 → (a < 86 ∨ 89 < a) → M4.1 a i = M.1 a i := fun a i h1 h2 h2' h3 h4 h5 => by
    rw [a2 a h3 h4 h5, mI_ne _ _ _ h3, c2 a h1 h2 h2', mI_ne _ _ _ h1]
  have f65 : ∀ f, f ≠ 22 → f ≠ 24 → f ≠ 31 → f ≠ 19 → M4.1 65 f = M.1 65 f := fun f h1 h2 h3 h4 => by
    rw [a3 f h1 h2 h3, mI_at, if_neg (by omega), c2 65 (by decide) (by decide) (by decide), mI_ne _ _ _ (by decide)]
  have fl : ∀ a, a ≠ 65 → a ≠ 88 → a ≠ 90 → M4.2.1 a = M.2.1 a := fun a h1 h2 h3 => by
    rw [a4 a h1 h2 h3, mI_2, c1, mI_2]
  have fr : M4.2.2 = M.2.2 := by rw [a1, mI_2, c1, mI_2]
  generalize hM5 : m_setI (m_setI M4 65 19 (nI k)) 84 k (M4.1 84 k + 1) = M5
  have m2 : M5.2 = M4.2 := by rw [← hM5]; rfl
  have fa : ∀ a i, a ≠ 1 → a ≠ 2 → a ≠ 3 → a ≠ 84 → a ≠ 85 → (a < 86 ∨ 89 < a) → ¬ (a = 65 ∧ (i = 22 ∨ i = 24 ∨ i = 31 ∨ i = 19)) → M5.1 a i = M.1 a i := fun a i h1 h2 h2' h2'' h3 h4 h5 => by
    rw [← hM5, mI_at, if_neg (by omega), mI_at, if_neg (by omega)]
    by_cases q : a = 65
    · subst q; exact f65 i (by omega) (by omega) (by omega) (by omega)
    · exact f1 a i h1 h2 h2' q h3 h4
  obtain ⟨n1, n2, n3, n4, n5⟩ := hN
  have e1 : M5.1 1 = M3.1 1 := by rw [← hM5, mI_ne _ _ _ (by decide), mI_ne _ _ _ (by decide), a2 1 (by decide) (by decide) (by decide), mI_ne _ _ _ (by decide)]
  have e2 : M5.1 2 = M3.1 2 := by rw [← hM5, mI_ne _ _ _ (by decide), mI_ne _ _ _ (by decide), a2 2 (by decide) (by decide) (by decide), mI_ne _ _ _ (by decide)]
  have e3 : M5.1 3 = M3.1 3 := by rw [← hM5, mI_ne _ _ _ (by decide), mI_ne _ _ _ (by decide), a2 3 (by decide) (by decide) (by decide), mI_ne _ _ _ (by decide)]
  have e84 : ∀ i, M4.1 84 i = M.1 84 i := fun i => f1 84 i (by decide) (by decide) (by decide) (by decide) (by decide) (by decide)
  refine ⟨trc s cs, E, P, w, n, rG_fr hG (Nat.le_refl n) (fun a i h => fa a i (by omega) (by omega) (by omega) (by omega) (by omega) (by omega) (by omega)) (by rw [m2, fr]), ⟨?_, ⟨?_, fun i hi => ?_⟩, ?_, fun i hi => ?_, ?_⟩, rL_fr hL (fun a i h => fa a i (by omega) (by omega) (by omega) (by omega) (by omega) (by omega) (by omega)) (fun a h => by rw [m2]; exact fl a (by omega) (by omega) (by omega)) (by rw [m2, fr]), rS_fr hS (fun a i h => fa a i (by omega) (by omega) (by omega) (by omega) (by omega) (by omega) (by omega)) (fun a h => by rw [m2]; exact fl a (by omega) (by omega) (by omega)), rQ_fr hQ (fun a i h => fa a i (by omega) (by omega) (by omega) (by omega) (by omega) (by omega) (by omega)) (fun a h => by rw [m2]; exact fl a (by omega) (by omega) (by omega))⟩
  · unfold cTr
    rw [e1, e2]
    exact c4
  · rw [← hM5, mI_ne _ _ _ (by decide), mI_at, if_neg (by decide)]
    exact a6.1
  · rw [← hM5, mI_ne _ _ _ (by decide), mI_ne _ _ _ (by decide)]
    exact a6.2 i hi
  · rw [e1, c3, ← hM5, mI_ne _ _ _ (by decide), mI_at, if_pos ⟨rfl, rfl⟩]
  · have v3 : M5.1 3 i = if i = k then M.1 3 k + 1 else M.1 3 i := by
      rw [e3, c5, mI_ne M 5 0 (show (3 : Nat) ≠ 1 by decide)]
      rfl
    have v84 : M5.1 84 i = if i = k then M.1 84 k + 1 else M.1 84 i := by
      rw [← hM5, mI_at, e84, mI_ne _ _ _ (by decide), e84]
      by_cases q : i = k
      · rw [if_pos q, if_pos ⟨rfl, q⟩]
      · rw [if_neg q, if_neg (fun h => q h.2)]
    rw [v3, v84]
    by_cases q : i = k
    · subst q; rw [if_pos rfl, if_pos rfl, n4 i hi]
    · rw [if_neg q, if_neg q]; exact n4 i hi
  · rw [trc_len]
    omega
/-- one list of the desk is asked -/
theorem c_asked {l act B : Nat} {o : Int64} {f : Nat → Int32} (hE : lOK E n) (hl : l < n) (hd : lDr (E l) = false) (ha : act = 0 ∨ act = 1 ∨ act = 3) (ho : act = 0 → wdP o) (hs : cLs (sh0 ++ dy) M E P n) (tr : cTr M (B, f)) (h5 : M.1 1 5 = 0) (hq : ∀ M' x, aPo E l act o M M' (B, f) x → Q (some (.int x)) (wm (sh0 ++ dy) M')) : sm_E L xs (d + 40) 48 [.ref (P l), .int (nI act), .long o] (wm (sh0 ++ dy) M) Q := by
  have hn := hE.1
  obtain ⟨s0, hsh, hvt⟩ := cSh_v (hs.2 l hl).2.1
  refine e_intro rfl rfl ?_
  rcases ha with rfl | rfl | rfl
  · have sub : ∀ M' x, (x = 0 ∨ x = 1) → aPo E l 0 o M M' (B, f) x → sm_X L xs (d + 39) 48 1 [.ifCond .eq 3] [(0, .ref (P l))] [.int x] (wm (sh0 ++ dy) M') Q := by
      intro M' x hx hP
      rcases hx with rfl | rfl
      · refine a_ifT rfl rfl br_eq (by decide) ?_
        refine x_kcg rfl ?_
        refine x_go rfl ?_
        refine a_iret rfl rfl rfl ?_
        exact hq M' 0 hP
      · refine a_ifF rfl rfl br_eq (by decide) ?_
        refine x_kcg rfl ?_
        refine x_go rfl ?_
        refine a_iret rfl rfl rfl ?_
        exact hq M' 1 hP
    refine x_opp rfl rfl ?_
    refine x_tabIn (by decide) rfl ?_
    refine x_opp rfl rfl ?_
    refine x_opp rfl rfl ?_
    refine a_callV hsh rfl (hvt _ _ _).1 rfl rfl (e_up (show 0 + 2 * l + 6 ≤ d + 39 by omega) (c_allows hE l hl hd 0 o M B f _ (ho rfl) hs tr h5 (fun hz M' c' => ?_) (fun hz M' x hx c' => ?_)))
    · have h01 := ((askF_val hE l hl 0 o hz).1 rfl)
      refine x_lvs [(0, .ref (P l))] rfl rfl rfl ⟨rfl, trivial⟩ ?_
      exact sub M' _ (i01 _ h01).2 (Or.inl ⟨hz, c', rfl⟩)
    · refine x_lvs [(0, .ref (P l))] rfl rfl rfl ⟨rfl, trivial⟩ ?_
      exact sub M' x hx (Or.inr ⟨hz, c'⟩)
  · refine x_opp rfl rfl ?_
    refine x_tabIn (by decide) rfl ?_
    refine x_opp rfl rfl ?_
    refine a_callV hsh rfl (hvt _ _ _).2.1 rfl rfl (e_up (show 0 + 2 * l + 6 ≤ d + 39 by omega) (c_many hE l hl hd 0 o M B f _ hs tr h5 (fun hz M' c' => ?_) (fun hz M' x c' => ?_)))
    · refine a_iret rfl rfl rfl ?_
      exact hq M' _ (Or.inl ⟨hz, c', rfl⟩)
    · refine a_iret rfl rfl rfl ?_
      exact hq M' x (Or.inr ⟨hz, c'⟩)
  · refine x_opp rfl rfl ?_
    refine x_tabIn (by decide) rfl ?_
    refine x_opp rfl rfl ?_
    refine x_opp rfl rfl ?_
    refine a_callV hsh rfl (hvt _ _ _).2.2.2 rfl rfl (e_up (show 0 + 2 * l + 6 ≤ d + 39 by omega) (c_score hE l hl hd 0 o M B f _ hs tr h5 (fun hz M' c' => ?_) (fun hz M' x c' => ?_)))
    · refine a_iret rfl rfl rfl ?_
      exact hq M' _ (Or.inl ⟨hz, c', rfl⟩)
    · refine a_iret rfl rfl rfl ?_
      exact hq M' x (Or.inr ⟨hz, c'⟩)
/-- the reference is asked -/
theorem k_asks2 {l act B : Nat} {o : Int64} {f : Nat → Int32} (hE : lOK E n) (hl : l < n) (ha : act ≤ 3) (hs : mLs M E n) (tr : mTr M (B, f)) (hB : B + (askF E l act o).1.length + 2 < 2 ^ 31)
    (hq : ∀ M' b, aft M M' 0 (trc (B, f) (askF E l act o).1) → ((b = true ∧ (askF E l act o).2.1 = 0 ∧ M'.2.1 65 30 = (askF E l act o).2.2) ∨ (b = false ∧ (askF E l act o).2.1 ≠ 0 ∧ M'.1 65 31 = nI (askF E l act o).2.1)) → Q (some (.int (zz b))) (wm (sh0 ++ dy) M')) : sm_E L xs (d + 4) 171 [.ref 65, .int (nI l), .int (nI act), .long o] (wm (sh0 ++ dy) M) Q := k_asks hE hl ha hs tr hB (fun hz M' a h => hq M' true a (Or.inl ⟨rfl, hz, h⟩)) (fun hz M' a h => hq M' false a (Or.inr ⟨rfl, hz, h⟩))
end AK
