/-! pairs: a word comes into a list -/
def m_io (x : va_E) (n : Nat) : Option Int32 := match x with
  | .inr (ci, _) => bif sm_sub ci 12 then some (bif sm_sub ci n then 1 else 0) else none
  | _ => none
def m_cc (x : va_E) (n : Nat) : Bool := match x with
  | .inr (ci, _) => sm_sub ci n
  | _ => false
theorem pIx_app {f : Nat → Int64} {v : Int64} : ∀ {k i}, pIx f v i k = none → f (i + k) = v → pIx f v i (k + 1) = some (i + k)
  | 0, i, _, h => by
    have h : f i = v := h
    unfold pIx
    rw [if_pos h]
    rfl
  | k + 1, i, h0, h => by
    unfold pIx at h0
    by_cases q : f i = v
    · rw [if_pos q] at h0; cases h0
    · rw [if_neg q] at h0
      unfold pIx
      rw [if_neg q, pIx_app h0 (by rw [show i + 1 + k = i + (k + 1) by omega]; exact h), show i + 1 + k = i + (k + 1) by omega]
def mTk (k : Nat) : Nat := if k = 1 then 44 else 46
/-- a word that stood there: only a score is new -/
def tkA (M M' : mm_T) (a kd k : Nat) (e : Int32) : Prop := M'.2 = M.2 ∧ (∀ b i, ¬ (b = a + 2 ∧ i = k ∧ kd = 1) → M'.1 b i = M.1 b i) ∧ (kd = 1 → M'.1 (a + 2) k = e)
/-- a new word behind the last -/
def tkC (M M' : mm_T) (a kd my : Nat) (v : Int64) (e : Int32) : Prop := M'.2.2 = M.2.2 ∧ (∀ b i, ¬ (b = a ∧ i = 3) → ¬ (b = a + 2 ∧ i = my ∧ kd = 1) → M'.1 b i = M.1 b i) ∧ M'.1 a 3 = nI (my + 1) ∧ (kd = 1 → M'.1 (a + 2) my = e) ∧ (∀ b i, ¬ (b = a + 1 ∧ i = my) → M'.2.1 b i = M.2.1 b i) ∧ M'.2.1 (a + 1) my = v
section WD
variable {L : Nat} {xs : Nat → Int32} {t d : Nat} {dy : List sh_T} {M : mm_T} {Q : Option Value → sm_W → Prop} {n G : Nat} {E : Nat → lT} {P : Nat → Nat}
theorem m_inst {y cb a k : Nat} {is : List sm_I} {lv : sm_L} {st : List Value} {sh : List sh_T} {s : sh_T} {v : Int32} (hs : sh[a]? = some s) (hv : m_io (s (M.1 a) (M.2.1 a) (M.2.2 a)) k = some v) (h : sm_X L xs d y cb is lv (.int v :: st) (wm sh M) Q) : sm_X L xs d y cb (.instanceof k :: is) lv (.ref a :: st) (wm sh M) Q := by
  refine x_op ?_ h
  simp only [sm_op, wm_get hs]
  unfold m_io at hv
  split at hv
  · rename_i ci fs h1
    rw [h1]
    dsimp only
    cases hb : sm_sub ci 12 with
    | false => rw [hb] at hv; cases hv
    | true =>
      rw [hb] at hv
      cases hv
      rfl
  · cases hv
theorem m_cast {y cb a k : Nat} {is : List sm_I} {lv : sm_L} {st : List Value} {sh : List sh_T} {s : sh_T} (hs : sh[a]? = some s) (hv : m_cc (s (M.1 a) (M.2.1 a) (M.2.2 a)) k = true) (h : sm_X L xs d y cb is lv (.ref a :: st) (wm sh M) Q) : sm_X L xs d y cb (.checkcast k :: is) lv (.ref a :: st) (wm sh M) Q := by
  refine x_op ?_ h
  simp only [sm_op, wm_get hs]
  unfold m_cc at hv
  split at hv
  · rename_i ci fs h1
    rw [h1]
    dsimp only
    rw [hv]
    rfl
  · cases hv
theorem cSh_t {sh : List sh_T} {a k : Nat} (h : cSh sh a k) (hk : k < 3) : ∃ s, sh[a]? = some s ∧ ∀ f g r, m_io (s f g r) 7 = some 1 ∧ m_cc (s f g r) 7 = true ∧ m_vt (s f g r) 11891 = some (mTk k) ∧ m_fd (s f g r) 3596 = some (.int (f 3)) := by
  rcases h with ⟨rfl, h, -⟩ | ⟨rfl, h, -⟩ | ⟨rfl, h, -⟩ | ⟨rfl, h⟩ | ⟨rfl, h⟩
  · exact ⟨_, h, fun _ _ _ => ⟨rfl, rfl, rfl, rfl⟩⟩
  · exact ⟨_, h, fun _ _ _ => ⟨rfl, rfl, rfl, rfl⟩⟩
  · exact ⟨_, h, fun _ _ _ => ⟨rfl, rfl, rfl, rfl⟩⟩
  · omega
  · omega
theorem cSh_t3 {sh : List sh_T} {a k : Nat} (h : cSh sh a k) (hk : 3 ≤ k) : ∃ s, sh[a]? = some s ∧ ∀ f g r, m_io (s f g r) 7 = some 0 := by
  rcases h with ⟨rfl, h, -⟩ | ⟨rfl, h, -⟩ | ⟨rfl, h, -⟩ | ⟨rfl, h⟩ | ⟨rfl, h⟩
  · omega
  · omega
  · omega
  · exact ⟨_, h, fun _ _ _ => rfl⟩
  · exact ⟨_, h, fun _ _ _ => rfl⟩
/-- a word comes into a scored list -/
theorem c_stake {sh : List sh_T} {a m : Nat} {v : Int64} {e : Int32} (hs : sh[a]? = some (scoredS 1 (a + 1) (a + 2))) (hw : sh[a + 1]? = some (arrL 40)) (hu : sh[a + 2]? = some (arrI 40)) (hn : M.1 a 3 = nI m) (h40 : m ≤ 40)
    (qA : ∀ k, pIx (M.2.1 (a + 1)) v 0 m = some k → Q (some (.int 1)) (wm sh (m_setI M (a + 2) k e))) (qB : pIx (M.2.1 (a + 1)) v 0 m = none → m = 40 → Q (some (.int 0)) (wm sh M)) (qC : pIx (M.2.1 (a + 1)) v 0 m = none → m < 40 → Q (some (.int 1)) (wm sh (m_setI (m_setI (m_setL M (a + 1) m v) a 3 (nI (m + 1))) (a + 2) m e))) : sm_E L xs (d + 3) 44 [.ref a, .long v, .int e] (wm sh M) Q := by
  have hp := pSh_scored 1 (a + 1) (a + 2)
  refine e_intro rfl rfl ?_
  cases hx : pIx (M.2.1 (a + 1)) v 0 m with
  | some k =>
    have hk := pIx_lt hx
    have et : pTake M a (a + 1) m v = (M, 1) := by unfold pTake; rw [hx]
    have fin := qA k hx
    have g : ¬ nI k < 0 := nI_pos (by omega)
    iterate 3 (refine x_opp rfl rfl ?_)
    refine m_callP hs rfl rfl rfl (c_ptake hs hp hw hn h40 ?_)
    rw [et]
    iterate 3 (refine x_opp rfl rfl ?_)
    refine a_callV hs rfl rfl rfl rfl (c_placeOf hs hp hw hn h40 ?_)
    rw [hx]
    refine x_opp rfl rfl ?_
    refine x_opp rfl rfl ?_
    show sm_X _ _ _ _ _ _ _ [Value.int (nI k)] _ _
    refine a_ifF rfl rfl br_lt (by first | exact g | exact nt_f g | exact tnf g | exact fnt g | exact Int32.not_lt.mp g | exact Int32.not_le.mp g | exact Int32.not_lt.mpr g | exact Int32.not_le.mpr g) ?_
    refine x_opp rfl rfl ?_
    refine m_get hs rfl ?_
    refine x_opp rfl rfl ?_
    refine x_opp rfl rfl ?_
    refine a_iastN hu (k := k) rfl rfl rfl (by omega) (by decide) ?_
    refine x_go rfl ?_
    refine x_opp rfl rfl ?_
    refine a_zret rfl rfl (by first | exact zz_01 _ | exact Or.inl rfl | exact Or.inr rfl) ?_
    exact fin
  | none =>
    by_cases q40 : m = 40
    · have et : pTake M a (a + 1) m v = (M, 0) := by unfold pTake; rw [hx]; dsimp only; rw [if_pos q40]
      have fin := qB hx q40
      iterate 3 (refine x_opp rfl rfl ?_)
      refine m_callP hs rfl rfl rfl (c_ptake hs hp hw hn h40 ?_)
      rw [et]
      iterate 3 (refine x_opp rfl rfl ?_)
      refine a_callV hs rfl rfl rfl rfl (c_placeOf hs hp hw hn h40 ?_)
      rw [hx]
      refine x_opp rfl rfl ?_
      refine x_opp rfl rfl ?_
      show sm_X _ _ _ _ _ _ _ [Value.int (-1)] _ _
      refine a_ifT rfl rfl br_lt (by decide) ?_
      refine x_opp rfl rfl ?_
      refine a_zret rfl rfl (by first | exact zz_01 _ | exact Or.inl rfl | exact Or.inr rfl) ?_
      exact fin
    · have et : pTake M a (a + 1) m v = (m_setI (m_setL M (a + 1) m v) a 3 (nI (m + 1)), 1) := by unfold pTake; rw [hx]; dsimp only; rw [if_neg q40]
      have fin := qC hx (by omega)
      have n3 : (m_setI (m_setL M (a + 1) m v) a 3 (nI (m + 1))).1 a 3 = nI (m + 1) := by rw [mI_at, if_pos ⟨rfl, rfl⟩]
      have hx2 : pIx ((m_setI (m_setL M (a + 1) m v) a 3 (nI (m + 1))).2.1 (a + 1)) v 0 (m + 1) = some m := by
        have := pIx_app (f := (m_setL M (a + 1) m v).2.1 (a + 1)) (v := v) (k := m) (i := 0) (by
          rw [pIx_ext (g := M.2.1 (a + 1)) (fun j h1 h2 => by rw [mL_at, if_neg (by omega)])]
          exact hx) (by rw [mL_at, if_pos ⟨rfl, by omega⟩])
        rw [Nat.zero_add] at this
        exact this
      have g : ¬ nI m < 0 := nI_pos (by omega)
      iterate 3 (refine x_opp rfl rfl ?_)
      refine m_callP hs rfl rfl rfl (c_ptake hs hp hw hn h40 ?_)
      rw [et]
      iterate 3 (refine x_opp rfl rfl ?_)
      refine a_callV hs rfl rfl rfl rfl (c_placeOf hs hp hw n3 (by omega) ?_)
      rw [hx2]
      refine x_opp rfl rfl ?_
      refine x_opp rfl rfl ?_
      show sm_X _ _ _ _ _ _ _ [Value.int (nI m)] _ _
      refine a_ifF rfl rfl br_lt (by first | exact g | exact nt_f g | exact tnf g | exact fnt g | exact Int32.not_lt.mp g | exact Int32.not_le.mp g | exact Int32.not_lt.mpr g | exact Int32.not_le.mpr g) ?_
      refine x_opp rfl rfl ?_
      refine m_get hs rfl ?_
      refine x_opp rfl rfl ?_
      refine x_opp rfl rfl ?_
      refine a_iastN hu (k := m) rfl rfl rfl (by omega) (by decide) ?_
      refine x_go rfl ?_
      refine x_opp rfl rfl ?_
      refine a_zret rfl rfl (by first | exact zz_01 _ | exact Or.inl rfl | exact Or.inr rfl) ?_
      exact fin
theorem c_take3 {l : Nat} {v : Int64} {e : Int32} (hE : lOK E n) (hl : l < n) (hk : lK (E l) < 3) (hs : cLs (sh0 ++ dy) M E P n)
    (qA : ∀ k, sAt (lWd (E l)) v (lMy (E l)) = some k → ∀ M', tkA M M' (P l) (lK (E l)) k e → Q (some (.int 1)) (wm (sh0 ++ dy) M')) (qB : sAt (lWd (E l)) v (lMy (E l)) = none → lMy (E l) = 40 → Q (some (.int 0)) (wm (sh0 ++ dy) M)) (qC : sAt (lWd (E l)) v (lMy (E l)) = none → lMy (E l) < 40 → ∀ M', tkC M M' (P l) (lK (E l)) (lMy (E l)) v e → Q (some (.int 1)) (wm (sh0 ++ dy) M')) : sm_E L xs (d + 3) (mTk (lK (E l))) [.ref (P l), .long v, .int e] (wm (sh0 ++ dy) M) Q := by
  obtain ⟨q1, q2, ⟨p1, p2, p3, -⟩, q4⟩ := hs.2 l hl
  obtain ⟨o1, o2, o3, o4, o5, o6, o7⟩ := hE.2 l hl
  obtain ⟨hn, hwd⟩ := p2 hk
  have ep : pIx (M.2.1 (P l + 1)) v 0 (lMy (E l)) = sAt (lWd (E l)) v (lMy (E l)) := by
    rw [pIx_ext (g := lWd (E l)) (fun j h1 h2 => hwd j (by omega)), pIx_sAt o7]
  by_cases k1 : lK (E l) = 1
  · rw [k1] at qA qC
    unfold mTk
    rw [if_pos k1]
    obtain ⟨-, s1, s2, s3⟩ : lK (E l) = 1 ∧ (sh0 ++ dy)[P l]? = some (scoredS 1 (P l + 1) (P l + 2)) ∧ (sh0 ++ dy)[P l + 1]? = some (arrL 40) ∧ (sh0 ++ dy)[P l + 2]? = some (arrI 40) := by
      rcases q2 with ⟨z, -⟩ | z | ⟨z, -⟩ | ⟨z, -⟩ | ⟨z, -⟩
      · omega
      · exact z
      · omega
      · omega
      · omega
    refine c_stake s1 s2 s3 hn o5 (fun k h => qA k (ep ▸ h) _ ⟨rfl, fun b i g => by rw [mI_at, if_neg (fun z => g ⟨z.1, z.2, rfl⟩)], fun _ => by rw [mI_at, if_pos ⟨rfl, rfl⟩]⟩) (fun h g => qB (ep ▸ h) g) (fun h g => qC (ep ▸ h) g _ ⟨rfl, fun b i g1 g2 => ?_, ?_, fun _ => ?_, fun b i g1 => ?_, ?_⟩)
    · rw [mI_at, if_neg (fun z => g2 ⟨z.1, z.2, rfl⟩), mI_at, if_neg g1, mL_1]
    · rw [mI_at, if_neg (by omega), mI_at, if_pos ⟨rfl, rfl⟩]
    · rw [mI_at, if_pos ⟨rfl, rfl⟩]
    · show (m_setL M (P l + 1) (lMy (E l)) v).2.1 b i = _
      rw [mL_at, if_neg g1]
    · show (m_setL M (P l + 1) (lMy (E l)) v).2.1 (P l + 1) (lMy (E l)) = _
      rw [mL_at, if_pos ⟨rfl, rfl⟩]
  · unfold mTk
    rw [if_neg k1]
    obtain ⟨s0, hs0, hp, hw⟩ := cSh_p q2 hk
    refine e_up (show 0 + 2 ≤ d + 3 by omega) (c_ptake hs0 hp hw hn o5 ?_)
    unfold pTake
    rw [ep]
    cases hx : sAt (lWd (E l)) v (lMy (E l)) with
    | some k => exact qA k hx M ⟨rfl, fun _ _ _ => rfl, fun h => absurd h k1⟩
    | none =>
      dsimp only
      by_cases q40 : lMy (E l) = 40
      · rw [if_pos q40]; exact qB hx q40
      · rw [if_neg q40]
        refine qC hx (by omega) _ ⟨rfl, fun b i g1 g2 => ?_, ?_, fun h => absurd h k1, fun b i g1 => ?_, ?_⟩
        · rw [mI_at, if_neg g1, mL_1]
        · rw [mI_at, if_pos ⟨rfl, rfl⟩]
        · show (m_setL M (P l + 1) (lMy (E l)) v).2.1 b i = _
          rw [mL_at, if_neg g1]
        · show (m_setL M (P l + 1) (lMy (E l)) v).2.1 (P l + 1) (lMy (E l)) = _
          rw [mL_at, if_pos ⟨rfl, rfl⟩]
end WD
