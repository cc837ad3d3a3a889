/-! new lists of the five kinds -/
def nE (k a1 a2 : Nat) (p : Int64) : lT := (k, a1, a2, p, false, 0, fun _ => 0, fun _ => 0)
def nSh (k A : Nat) : List sh_T := if k = 0 then [plainS 1 (A + 1), arrL 40] else if k = 1 then [scoredS 1 (A + 1) (A + 2), arrL 40, arrI 40] else if k = 2 then [bannedS 1 (A + 1), arrL 40] else if k = 3 then [patternS 1 4] else [joinedS 1 4]
def newM (M : mm_T) (A : Nat) (f : Nat → Int32) (g : Nat → Int64) : mm_T := (va_up (va_up M.1 A f) (A + 2) (fun _ => 0), va_up (va_up M.2.1 A g) (A + 1) (fun _ => 0), M.2.2)
def nwP (M M' : mm_T) (A k a1 a2 : Nat) (p : Int64) : Prop := (∀ x, x < A → M'.1 x = M.1 x ∧ M'.2.1 x = M.2.1 x) ∧ M'.2.2 = M.2.2 ∧ cMem M' A (nE k a1 a2 p)
theorem newM_1 (M : mm_T) (A : Nat) (f : Nat → Int32) (g : Nat → Int64) : (newM M A f g).1 A = f ∧ (newM M A f g).1 (A + 2) = (fun _ => 0) ∧ (newM M A f g).2.1 A = g ∧ (newM M A f g).2.1 (A + 1) = (fun _ => 0) := by
  unfold newM va_up
  simp
theorem newM_lt (M : mm_T) (A : Nat) (f : Nat → Int32) (g : Nat → Int64) : ∀ x, x < A → (newM M A f g).1 x = M.1 x ∧ (newM M A f g).2.1 x = M.2.1 x := by
  intro x hx
  unfold newM va_up
  dsimp only
  rw [if_neg (by omega), if_neg (by omega), if_neg (by omega), if_neg (by omega)]
  exact ⟨rfl, rfl⟩
section NL
variable {L : Nat} {xs : Nat → Int32} {d : Nat} {dy : List sh_T} {M : mm_T} {Q : Option Value → sm_W → Prop} {A : Nat}
/-- a tail of raw cells is a tail of shapes -/
theorem nw_conv {tl tl' : List sh_T} {f : Nat → Int32} {g : Nat → Int64} (hA : 114 + dy.length = A) (hl : tl.length = tl'.length) (h2 : ∀ (j : Nat) (s s' : sh_T), tl[j]? = some s → tl'[j]? = some s' → s (M.1 (A + j)) (M.2.1 (A + j)) (M.2.2 (A + j)) = s' ((newM M A f g).1 (A + j)) ((newM M A f g).2.1 (A + j)) ((newM M A f g).2.2 (A + j))) : wm (sh0 ++ (dy ++ tl)) M = wm (sh0 ++ (dy ++ tl')) (newM M A f g) := by
  have e : (sh0 ++ dy).length = A := by rw [List.length_append, sh0_len]; exact hA
  rw [← List.append_assoc, ← List.append_assoc]
  refine wm_tail hl (fun a ha => ?_) (fun j s s' x y => ?_)
  · have := newM_lt M A f g a (by omega)
    exact ⟨this.1, this.2, rfl⟩
  · rw [e]; exact h2 j s s' x y
set_option maxRecDepth 4000 in
theorem c_newPlain {u v : Int32} {p : Int64} (hA : 114 + dy.length = A) (hq : ∀ M', nwP M M' A 0 0 0 p → Q (some (.ref (A + 0))) (wm (sh0 ++ (dy ++ nSh 0 A)) M')) : sm_E L xs (d + 4) 30 [.ref 0, .int (nI 0), .int u, .int v, .long p] (wm (sh0 ++ dy) M) Q := by
  refine e_intro rfl rfl ?_
  refine x_opp rfl rfl ?_
  refine x_tabOut (by decide) ?_
  refine n_new0 hA rfl ?_
  refine x_opp rfl rfl ?_
  refine x_kcg rfl ?_
  refine x_opp rfl rfl ?_
  refine m_getg (s_0 _) rfl rfl rfl ?_
  refine m_callP (n_at hA rfl) rfl rfl rfl (c_plI hA rfl rfl rfl rfl rfl ?_)
  refine x_aret ?_
  have e := nw_conv (M := M) (tl' := nSh 0 A) (tl := [shC (.inr (7, [.int 0, .ref 1, .ref (A + 1), .int 0])), shC (.inl (1, 40, .inr (.inl (fun _ => 0))))]) (f := fun _ => 0) (g := fun _ => 0) hA rfl (fun j s s' h1 h2 => by
    match j, h1, h2 with
    | 0, h1, h2 => cases h1; cases h2; simp only [newM_1, Nat.add_zero]; rfl
    | 1, h1, h2 => cases h1; cases h2; simp only [newM_1]; rfl
    | j + 2, h1, h2 => cases h1)
  have fin := hq (newM M A (fun _ => 0) (fun _ => 0)) ⟨newM_lt M A _ _, rfl, by rw [(newM_1 M A _ _).1]; rfl, fun _ => ⟨by rw [(newM_1 M A _ _).1]; rfl, fun k hk => absurd hk (Nat.not_lt_zero k)⟩, fun h => absurd h (by show ¬ (0 : Nat) = 1; decide), fun h => absurd h (by show ¬ (0 : Nat) = 3; decide), fun h => absurd h (by show ¬ (0 : Nat) = 4; decide)⟩
  rw [← e] at fin
  exact fin
set_option maxRecDepth 4000 in
theorem c_newBanned {u v : Int32} {p : Int64} (hA : 114 + dy.length = A) (hq : ∀ M', nwP M M' A 2 0 0 p → Q (some (.ref (A + 0))) (wm (sh0 ++ (dy ++ nSh 2 A)) M')) : sm_E L xs (d + 5) 30 [.ref 0, .int (nI 2), .int u, .int v, .long p] (wm (sh0 ++ dy) M) Q := by
  refine e_intro rfl rfl ?_
  refine x_opp rfl rfl ?_
  refine x_tabIn (by decide) rfl ?_
  refine n_new0 hA rfl ?_
  refine x_opp rfl rfl ?_
  refine x_opp rfl rfl ?_
  refine m_getg (s_0 _) rfl rfl rfl ?_
  refine m_callP (n_at hA rfl) rfl rfl rfl (e_intro rfl rfl ?_)
  refine x_opp rfl rfl ?_
  refine x_kcg rfl ?_
  refine x_opp rfl rfl ?_
  refine m_callP (n_at hA rfl) rfl rfl rfl (c_plI hA rfl rfl rfl rfl rfl ?_)
  refine a_ret rfl rfl ?_
  refine x_aret ?_
  have e := nw_conv (M := M) (tl' := nSh 2 A) (tl := [shC (.inr (9, [.int 2, .ref 1, .ref (A + 1), .int 0])), shC (.inl (1, 40, .inr (.inl (fun _ => 0))))]) (f := fun i => if i = 0 then 2 else 0) (g := fun _ => 0) hA rfl (fun j s s' h1 h2 => by
    match j, h1, h2 with
    | 0, h1, h2 => cases h1; cases h2; simp only [newM_1, Nat.add_zero]; rfl
    | 1, h1, h2 => cases h1; cases h2; simp only [newM_1]; rfl
    | j + 2, h1, h2 => cases h1)
  have fin := hq (newM M A (fun i => if i = 0 then 2 else 0) (fun _ => 0)) ⟨newM_lt M A _ _, rfl, by rw [(newM_1 M A _ _).1]; rfl, fun _ => ⟨by rw [(newM_1 M A _ _).1]; rfl, fun k hk => absurd hk (Nat.not_lt_zero k)⟩, fun h => absurd h (by show ¬ (2 : Nat) = 1; decide), fun h => absurd h (by show ¬ (2 : Nat) = 3; decide), fun h => absurd h (by show ¬ (2 : Nat) = 4; decide)⟩
  rw [← e] at fin
  exact fin
set_option maxRecDepth 4000 in
theorem c_newScored {u v : Int32} {p : Int64} (hA : 114 + dy.length = A) (hq : ∀ M', nwP M M' A 1 0 0 p → Q (some (.ref (A + 0))) (wm (sh0 ++ (dy ++ nSh 1 A)) M')) : sm_E L xs (d + 5) 30 [.ref 0, .int (nI 1), .int u, .int v, .long p] (wm (sh0 ++ dy) M) Q := by
  refine e_intro rfl rfl ?_
  refine x_opp rfl rfl ?_
  refine x_tabIn (by decide) rfl ?_
  refine n_new0 hA rfl ?_
  refine x_opp rfl rfl ?_
  refine x_opp rfl rfl ?_
  refine m_getg (s_0 _) rfl rfl rfl ?_
  refine m_callP (n_at hA rfl) rfl rfl rfl (e_intro rfl rfl ?_)
  refine x_opp rfl rfl ?_
  refine x_kcg rfl ?_
  refine x_opp rfl rfl ?_
  refine m_callP (n_at hA rfl) rfl rfl rfl (c_plI hA rfl rfl rfl rfl rfl ?_)
  refine x_opp rfl rfl ?_
  refine x_kcg rfl ?_
  refine n_arrI hA rfl (by decide) rfl ?_
  refine n_put (j := 0) hA rfl rfl rfl ?_
  refine a_ret rfl rfl ?_
  refine x_aret ?_
  have e := nw_conv (M := M) (tl' := nSh 1 A) (tl := [shC (.inr (8, [.int 1, .ref 1, .ref (A + 1), .int 0, .ref (A + 2)])), shC (.inl (1, 40, .inr (.inl (fun _ => 0)))), shC (.inl (0, 40, .inl (fun _ => 0)))]) (f := fun i => if i = 0 then 1 else 0) (g := fun _ => 0) hA rfl (fun j s s' h1 h2 => by
    match j, h1, h2 with
    | 0, h1, h2 => cases h1; cases h2; simp only [newM_1, Nat.add_zero]; rfl
    | 1, h1, h2 => cases h1; cases h2; simp only [newM_1]; rfl
    | 2, h1, h2 => cases h1; cases h2; simp only [newM_1]; rfl
    | j + 3, h1, h2 => cases h1)
  have fin := hq (newM M A (fun i => if i = 0 then 1 else 0) (fun _ => 0)) ⟨newM_lt M A _ _, rfl, by rw [(newM_1 M A _ _).1]; rfl, fun _ => ⟨by rw [(newM_1 M A _ _).1]; rfl, fun k hk => absurd hk (Nat.not_lt_zero k)⟩, fun h k hk => absurd hk (Nat.not_lt_zero k), fun h => absurd h (by show ¬ (1 : Nat) = 3; decide), fun h => absurd h (by show ¬ (1 : Nat) = 4; decide)⟩
  rw [← e] at fin
  exact fin
set_option maxRecDepth 4000 in
theorem c_newJoined {a1 a2 : Nat} {p : Int64} (hA : 114 + dy.length = A) (hq : ∀ M', nwP M M' A 4 a1 a2 p → Q (some (.ref (A + 0))) (wm (sh0 ++ (dy ++ nSh 4 A)) M')) : sm_E L xs (d + 5) 30 [.ref 0, .int (nI 4), .int (nI a1), .int (nI a2), .long p] (wm (sh0 ++ dy) M) Q := by
  refine e_intro rfl rfl ?_
  refine x_opp rfl rfl ?_
  refine x_tabIn (by decide) rfl ?_
  refine n_new0 hA rfl ?_
  refine x_opp rfl rfl ?_
  refine x_opp rfl rfl ?_
  refine m_getg (s_0 _) rfl rfl rfl ?_
  refine x_opp rfl rfl ?_
  refine m_getg (s_0 _) rfl rfl rfl ?_
  refine x_opp rfl rfl ?_
  refine x_opp rfl rfl ?_
  refine m_callP (n_at hA rfl) rfl rfl rfl (e_intro rfl rfl ?_)
  refine x_opp rfl rfl ?_
  refine x_kcg rfl ?_
  refine x_opp rfl rfl ?_
  refine m_callP (n_at hA rfl) rfl rfl rfl (c_wlI hA rfl rfl rfl ?_)
  refine x_opp rfl rfl ?_
  refine x_opp rfl rfl ?_
  refine n_put hA rfl rfl rfl ?_
  refine x_opp rfl rfl ?_
  refine x_opp rfl rfl ?_
  refine n_put hA rfl rfl rfl ?_
  refine x_opp rfl rfl ?_
  refine x_opp rfl rfl ?_
  refine n_put hA rfl rfl rfl ?_
  refine a_ret rfl rfl ?_
  refine x_aret ?_
  have e := nw_conv (M := M) (tl' := nSh 4 A) (tl := [shC (.inr (11, [.int 4, .ref 1, .ref 4, .int (nI a1), .int (nI a2)]))]) (f := fun i => if i = 0 then 4 else if i = 3 then nI a1 else nI a2) (g := fun _ => 0) hA rfl (fun j s s' h1 h2 => by
    match j, h1, h2 with
    | 0, h1, h2 => cases h1; cases h2; simp only [newM_1, Nat.add_zero]; rfl
    | j + 1, h1, h2 => cases h1)
  have fin := hq (newM M A (fun i => if i = 0 then 4 else if i = 3 then nI a1 else nI a2) (fun _ => 0)) ⟨newM_lt M A _ _, rfl, by rw [(newM_1 M A _ _).1]; rfl, fun h => absurd h (by show ¬ (4 : Nat) < 3; decide), fun h k hk => absurd hk (Nat.not_lt_zero k), fun h => absurd h (by show ¬ (4 : Nat) = 3; decide), fun h => ⟨by rw [(newM_1 M A _ _).1]; rfl, by rw [(newM_1 M A _ _).1]; rfl⟩⟩
  rw [← e] at fin
  exact fin
set_option maxRecDepth 4000 in
theorem c_newPattern {a1 m : Nat} {v : Int32} {p : Int64} (hA : 114 + dy.length = A) (hp : wOK 27 p m) (hq : ∀ M', nwP M M' A 3 a1 0 p → Q (some (.ref (A + 0))) (wm (sh0 ++ (dy ++ nSh 3 A)) M')) : sm_E L xs (d + 6) 30 [.ref 0, .int (nI 3), .int (nI a1), .int v, .long p] (wm (sh0 ++ dy) M) Q := by
  have hlu : lenU p 27 = nI m := lenU_ok (t := 27) (by decide) hp
  have m7 : m ≤ 7 := hp.2.1
  refine e_intro rfl rfl ?_
  refine x_opp rfl rfl ?_
  refine x_tabIn (by decide) rfl ?_
  refine n_new0 hA rfl ?_
  refine x_opp rfl rfl ?_
  refine x_opp rfl rfl ?_
  refine m_getg (s_0 _) rfl rfl rfl ?_
  refine x_opp rfl rfl ?_
  refine m_getg (s_0 _) rfl rfl rfl ?_
  refine x_opp rfl rfl ?_
  refine x_opp rfl rfl ?_
  refine m_callP (n_at hA rfl) rfl rfl rfl (e_intro rfl rfl ?_)
  refine x_opp rfl rfl ?_
  refine x_kcg rfl ?_
  refine x_opp rfl rfl ?_
  refine m_callP (n_at hA rfl) rfl rfl rfl (c_wlI hA rfl rfl rfl ?_)
  refine x_opp rfl rfl ?_
  refine x_opp rfl rfl ?_
  refine n_put hA rfl rfl rfl ?_
  refine x_opp rfl rfl ?_
  refine x_opp rfl rfl ?_
  refine n_put hA rfl rfl rfl ?_
  refine x_opp rfl rfl ?_
  refine x_opp rfl rfl ?_
  refine x_kcg rfl ?_
  refine a_callS rfl rfl rfl rfl (c_lengthUpTo ?_)
  rw [hlu]
  refine n_put hA rfl rfl rfl ?_
  refine x_opp rfl rfl ?_
  refine x_opp rfl rfl ?_
  refine x_kcg rfl ?_
  refine x_opp rfl rfl ?_
  refine x_go rfl ?_
  refine x_lvs [(0, .ref (A + 0)), (4, .long p), (6, .long (tdF p 0)), (8, .int (nI 0))] rfl rfl rfl ⟨rfl, rfl, rfl, rfl, trivial⟩ ?_
  refine loop_dn (P := fun i => sm_X L xs (d + 4) 35 1 (sm_code 35 1) [(0, .ref (A + 0)), (4, .long p), (6, .long (tdF p i)), (8, .int (nI i))] [] (wm (sh0 ++ (dy ++ [shC (.inr (10, [.int 3, .ref 1, .ref 4, .int (nI a1), .int (nI m), .long 0, .long 0]))])) M) _) m ?_ ?_
  · have g : nI m ≤ nI m := Int32.le_refl _
    refine x_opp rfl rfl ?_
    refine x_opp rfl rfl ?_
    refine n_get hA rfl rfl ?_
    refine a_icT rfl rfl br_ge (by first | exact g | exact nt_f g | exact tnf g | exact fnt g | exact Int32.not_lt.mp g | exact Int32.not_le.mp g | exact Int32.not_lt.mpr g | exact Int32.not_le.mpr g) ?_
    refine x_opp rfl rfl ?_
    refine x_opp rfl rfl ?_
    refine n_put hA rfl rfl rfl ?_
    refine x_opp rfl rfl ?_
    refine x_opp rfl rfl ?_
    refine a_callS rfl rfl rfl rfl (c_maskOf ?_)
    refine n_put hA rfl rfl rfl ?_
    refine a_ret rfl rfl ?_
    refine x_aret ?_
    have e := nw_conv (M := M) (tl' := nSh 3 A) (tl := [shC (.inr (10, [.int 3, .ref 1, .ref 4, .int (nI a1), .int (nI m), .long (tdF p m), .long (mkF (tdF p m) 7)]))]) (f := fun i => if i = 0 then 3 else if i = 3 then nI a1 else nI m) (g := fun i => if i = 5 then tdF p m else mkF (tdF p m) 7) hA rfl (fun j s s' h1 h2 => by
      match j, h1, h2 with
      | 0, h1, h2 => cases h1; cases h2; simp only [newM_1, Nat.add_zero]; rfl
      | j + 1, h1, h2 => cases h1)
    have fin := hq (newM M A (fun i => if i = 0 then 3 else if i = 3 then nI a1 else nI m) (fun i => if i = 5 then tdF p m else mkF (tdF p m) 7)) ⟨newM_lt M A _ _, rfl, by rw [(newM_1 M A _ _).1]; rfl, fun h => absurd h (by show ¬ (3 : Nat) < 3; decide), fun h k hk => absurd hk (Nat.not_lt_zero k), fun _ => ⟨by rw [(newM_1 M A _ _).1]; rfl, m, hp, by rw [(newM_1 M A _ _).1]; rfl, by rw [(newM_1 M A _ _).2.2.1]; rfl, by rw [(newM_1 M A _ _).2.2.1]; rfl⟩, fun h => absurd h (by show ¬ (3 : Nat) = 4; decide)⟩
    rw [← e] at fin
    exact fin
  · intro i hi ih
    have g : ¬ nI m ≤ nI i := nI_ge hi (by omega)
    have et : tdF p (i + 1) = if ltr p (nI i) = 27 then tdF p i else tdF p i ||| ((ltr p (nI i)).toInt64 <<< ((5 * nI i).toInt64 &&& 63)) := rfl
    by_cases q : ltr p (nI i) = 27
    · rw [et, if_pos q] at ih
      refine x_opp rfl rfl ?_
      refine x_opp rfl rfl ?_
      refine n_get hA rfl rfl ?_
      refine a_icF rfl rfl br_ge (by first | exact g | exact nt_f g | exact tnf g | exact fnt g | exact Int32.not_lt.mp g | exact Int32.not_le.mp g | exact Int32.not_lt.mpr g | exact Int32.not_le.mpr g) ?_
      refine x_opp rfl rfl ?_
      refine x_opp rfl rfl ?_
      refine a_callS rfl rfl rfl rfl (c_letterOf ?_)
      refine x_opp rfl rfl ?_
      refine x_opp rfl rfl ?_
      refine x_kcg rfl ?_
      refine a_icT rfl rfl br_eq (by first | exact q | exact nt_f q | exact tnf q | exact fnt q | exact Int32.not_lt.mp q | exact Int32.not_le.mp q | exact Int32.not_lt.mpr q | exact Int32.not_le.mpr q) ?_
      first | refine x_incg rfl rfl ?_ | refine x_opp rfl rfl ?_
      refine x_go rfl ?_
      refine x_lvs [(0, .ref (A + 0)), (4, .long p), (6, .long (tdF p i)), (8, .int (nI (i + 1)))] rfl rfl rfl ⟨rfl, rfl, rfl, rfl, trivial⟩ ?_
      exact ih
    · rw [et, if_neg q] at ih
      refine x_opp rfl rfl ?_
      refine x_opp rfl rfl ?_
      refine n_get hA rfl rfl ?_
      refine a_icF rfl rfl br_ge (by first | exact g | exact nt_f g | exact tnf g | exact fnt g | exact Int32.not_lt.mp g | exact Int32.not_le.mp g | exact Int32.not_lt.mpr g | exact Int32.not_le.mpr g) ?_
      refine x_opp rfl rfl ?_
      refine x_opp rfl rfl ?_
      refine a_callS rfl rfl rfl rfl (c_letterOf ?_)
      refine x_opp rfl rfl ?_
      refine x_opp rfl rfl ?_
      refine x_kcg rfl ?_
      refine a_icF rfl rfl br_eq (by first | exact q | exact nt_f q | exact tnf q | exact fnt q | exact Int32.not_lt.mp q | exact Int32.not_le.mp q | exact Int32.not_lt.mpr q | exact Int32.not_le.mpr q) ?_
      iterate 3 (refine x_opp rfl rfl ?_)
      refine x_kcg rfl ?_
      iterate 5 (refine x_opp rfl rfl ?_)
      refine x_go rfl ?_
      first | refine x_incg rfl rfl ?_ | refine x_opp rfl rfl ?_
      refine x_go rfl ?_
      refine x_lvs [(0, .ref (A + 0)), (4, .long p), (6, .long (tdF p i ||| ((ltr p (nI i)).toInt64 <<< ((5 * nI i).toInt64 &&& 63)))), (8, .int (nI (i + 1)))] rfl rfl rfl ⟨rfl, rfl, rfl, rfl, trivial⟩ ?_
      exact ih
end NL
