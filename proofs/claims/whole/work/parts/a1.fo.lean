/-! filling goes on: the desk -/
/-- what is told of a searching -/
def tlM (M : mm_T) (b : Nat) (fl : Int32) : mm_T := m_setI (m_setI (m_setI (m_setI (m_setI M 44 0 (M.1 b 15)) 44 1 fl) 44 2 (M.1 (b + 1) 4)) 44 3 (M.1 b 14)) 0 12 (M.1 0 12 + M.1 b 15)
section FO
variable {L : Nat} {xs : Nat → Int32} {t d : Nat} {dy : List sh_T} {M : mm_T} {Q : Option Value → sm_W → Prop} {n G : Nat}
set_option maxRecDepth 4000 in
theorem c_tellF {fl : Int32} (hq : Q none (wm (sh0 ++ dy) (tlM M 13 fl))) : sm_E L xs (d + 1) 105 [.ref 0, .ref 13, .int fl] (wm (sh0 ++ dy) M) Q := by
  refine e_intro rfl rfl ?_
  refine x_opp rfl rfl ?_
  refine m_getg (s_0 dy) rfl rfl rfl ?_
  refine x_kcg rfl ?_
  refine x_opp rfl rfl ?_
  refine m_getg (s_13 dy) rfl rfl rfl ?_
  refine a_iastN (s_44 dy) (k := 0) rfl rfl rfl (by omega) (by decide) ?_
  refine x_opp rfl rfl ?_
  refine m_getg (s_0 dy) rfl rfl rfl ?_
  refine x_kcg rfl ?_
  refine x_opp rfl rfl ?_
  refine a_iastN (s_44 dy) (k := 1) rfl rfl rfl (by omega) (by decide) ?_
  refine x_opp rfl rfl ?_
  refine m_getg (s_0 dy) rfl rfl rfl ?_
  refine x_kcg rfl ?_
  refine x_opp rfl rfl ?_
  refine m_getg (s_13 dy) rfl rfl rfl ?_
  refine m_getg (s_14 dy) rfl rfl rfl ?_
  refine a_iastN (s_44 dy) (k := 2) rfl rfl rfl (by omega) (by decide) ?_
  refine x_opp rfl rfl ?_
  refine m_getg (s_0 dy) rfl rfl rfl ?_
  refine x_kcg rfl ?_
  refine x_opp rfl rfl ?_
  refine m_getg (s_13 dy) rfl rfl rfl ?_
  refine a_iastN (s_44 dy) (k := 3) rfl rfl rfl (by omega) (by decide) ?_
  refine x_opp rfl rfl ?_
  refine x_opp rfl rfl ?_
  refine m_getg (s_0 dy) rfl rfl rfl ?_
  refine x_opp rfl rfl ?_
  refine m_getg (s_13 dy) rfl rfl rfl ?_
  refine x_opp rfl rfl ?_
  refine a_putJ 12 (s_0 dy) rfl rfl rfl rfl ?_
  refine a_ret rfl rfl ?_
  exact hq
set_option maxRecDepth 4000 in
theorem c_tellS {fl : Int32} (hq : Q none (wm (sh0 ++ dy) (tlM M 28 fl))) : sm_E L xs (d + 1) 105 [.ref 0, .ref 28, .int fl] (wm (sh0 ++ dy) M) Q := by
  refine e_intro rfl rfl ?_
  refine x_opp rfl rfl ?_
  refine m_getg (s_0 dy) rfl rfl rfl ?_
  refine x_kcg rfl ?_
  refine x_opp rfl rfl ?_
  refine m_getg (s_28 dy) rfl rfl rfl ?_
  refine a_iastN (s_44 dy) (k := 0) rfl rfl rfl (by omega) (by decide) ?_
  refine x_opp rfl rfl ?_
  refine m_getg (s_0 dy) rfl rfl rfl ?_
  refine x_kcg rfl ?_
  refine x_opp rfl rfl ?_
  refine a_iastN (s_44 dy) (k := 1) rfl rfl rfl (by omega) (by decide) ?_
  refine x_opp rfl rfl ?_
  refine m_getg (s_0 dy) rfl rfl rfl ?_
  refine x_kcg rfl ?_
  refine x_opp rfl rfl ?_
  refine m_getg (s_28 dy) rfl rfl rfl ?_
  refine m_getg (s_29 dy) rfl rfl rfl ?_
  refine a_iastN (s_44 dy) (k := 2) rfl rfl rfl (by omega) (by decide) ?_
  refine x_opp rfl rfl ?_
  refine m_getg (s_0 dy) rfl rfl rfl ?_
  refine x_kcg rfl ?_
  refine x_opp rfl rfl ?_
  refine m_getg (s_28 dy) rfl rfl rfl ?_
  refine a_iastN (s_44 dy) (k := 3) rfl rfl rfl (by omega) (by decide) ?_
  refine x_opp rfl rfl ?_
  refine x_opp rfl rfl ?_
  refine m_getg (s_0 dy) rfl rfl rfl ?_
  refine x_opp rfl rfl ?_
  refine m_getg (s_28 dy) rfl rfl rfl ?_
  refine x_opp rfl rfl ?_
  refine a_putJ 12 (s_0 dy) rfl rfl rfl rfl ?_
  refine a_ret rfl rfl ?_
  exact hq
/-- the desk behind a filling's steps -/
def dFo (M M' : mm_T) (D : sD) (G : Nat) (ca : Nat → Nat) (r : Nat × sS × Nat) : Prop :=
  M'.2.2 = M.2.2 ∧ (∀ a, a ≠ 0 → a ≠ 13 → a ≠ 23 → a ≠ 24 → a ≠ 44 → a ≠ 46 + 5 * G → M'.1 a = M.1 a) ∧ (∀ i, i ≠ 11 → i ≠ 12 → M'.1 0 i = M.1 0 i) ∧ (∀ a, a < 25 ∨ 27 < a → M'.2.1 a = M.2.1 a) ∧ M'.1 0 11 = (if r.1 = 2 then 1 else 0) ∧ M'.1 0 12 = M.1 0 12 + nI r.2.2 ∧ (M'.1 44 0 = nI r.2.2 ∧ M'.1 44 1 = (if r.1 = 1 then 1 else 0) ∧ M'.1 44 2 = nI D.1.length ∧ M'.1 44 3 = M.1 13 14) ∧ (r.1 = 2 → sI D r.2.1 ∧ cS M' 13 D r.2.1 ∧ cD M' 13 D ∧ M'.1 13 13 = 0 ∧ M'.1 13 14 = M.1 13 14) ∧ (r.1 ≠ 1 → M'.1 (46 + 5 * G) = M.1 (46 + 5 * G)) ∧ (r.1 = 1 → (∀ s, sCov D s → M'.1 (46 + 5 * G) s = nI (ca s / 32 * 32 + sB D r.2.1.2.2 r.2.1.1 s)) ∧ ∀ s, s < 49 → ¬ sCov D s → M'.1 (46 + 5 * G) s = nI (ca s))
theorem sNx_012 (D : sD) (lim : Nat) : ∀ k S p r, sNx D lim k S p = some r → r.1 = 0 ∨ r.1 = 1 ∨ r.1 = 2
  | 0, S, p, r, h => by cases h
  | k + 1, S, p, r, h => by
    unfold sNx at h
    by_cases g1 : S.1 = D.1.length
    · rw [if_pos g1] at h
      injection h with h
      rw [← h]
      exact Or.inr (Or.inl rfl)
    · rw [if_neg g1] at h
      by_cases g2 : (sC D S.1).length ≤ S.2.1 S.1
      · rw [if_pos g2] at h
        by_cases g3 : S.1 = 0
        · rw [if_pos g3] at h
          injection h with h
          rw [← h]
          exact Or.inl rfl
        · rw [if_neg g3] at h
          exact sNx_012 D lim k _ p r h
      · rw [if_neg g2] at h
        by_cases g3 : p = lim
        · rw [if_pos g3] at h
          injection h with h
          rw [← h]
          exact Or.inr (Or.inr rfl)
        · rw [if_neg g3] at h
          exact sNx_012 D lim k _ (p + 1) r h
theorem cD_ex2 {M M' : mm_T} {b : Nat} {D : sD} (h : ∀ a i, b + 1 ≤ a → a ≤ b + 9 → M'.1 a i = M.1 a i) (h2 : ∀ a, a = b + 6 → M'.2.1 a = M.2.1 a) (hd : cD M b D) : cD M' b D := by
  obtain ⟨⟨t1, t2⟩, d2, d3, d4⟩ := hd
  refine ⟨⟨?_, fun k q hk => ?_⟩, fun e he => ?_, fun e k he hk => ?_, fun k hk => ?_⟩
  · rw [h _ _ (by omega) (by omega)]; exact t1
  · rw [h _ _ (by omega) (by omega), h _ _ (by omega) (by omega), h _ _ (by omega) (by omega), h _ _ (by omega) (by omega)]; exact t2 k q hk
  · rw [h _ _ (by omega) (by omega)]; exact d2 e he
  · rw [h2 _ (by omega)]; exact d3 e k he hk
  · rw [h _ _ (by omega) (by omega)]; exact d4 k hk
theorem cS_ex2 {M M' : mm_T} {b : Nat} {D : sD} {S : sS} (h : ∀ a i, a = b ∧ i = 12 ∨ a = b + 10 ∨ a = b + 11 → M'.1 a i = M.1 a i) (h2 : ∀ a, b + 12 ≤ a → a ≤ b + 14 → M'.2.1 a = M.2.1 a) (hs : cS M b D S) : cS M' b D S := by
  obtain ⟨s1, s2, s3, s4, s5⟩ := hs
  refine ⟨?_, fun k x y => ?_, fun k x => ?_, fun k x y => ?_, fun e he i hi => ?_⟩
  · rw [h _ _ (by omega)]; exact s1
  · rw [h _ _ (by omega)]; exact s2 k x y
  · rw [h2 _ (by omega) (by omega)]; exact s3 k x
  · rw [h2 _ (by omega) (by omega), h2 _ (by omega) (by omega)]; exact s4 k x y
  · rw [h _ _ (by omega)]; exact s5 e he i hi
theorem tl_at (M : mm_T) (b : Nat) (fl : Int32) (a i : Nat) (h1 : ¬ (a = 0 ∧ i = 12)) (h2 : ¬ (a = 44 ∧ i ≤ 3)) : (tlM M b fl).1 a i = M.1 a i := by
  unfold tlM
  rw [mI_at, if_neg h1, mI_at, if_neg (by omega), mI_at, if_neg (by omega), mI_at, if_neg (by omega), mI_at, if_neg (by omega)]
theorem dFo_end {M1 M2 M4 : mm_T} {D : sD} {r : Nat × sS × Nat} {ca : Nat → Nat} {lim : Nat} {fl : Int32} (hG : G < 4) (hM1 : m_setI (m_setI M 13 15 0) 13 16 (nI lim) = M1) (hD : cD M 13 D) (fr : sFr M1 M2 13) (e15 : M2.1 13 15 = nI r.2.2) (m4 : M4.2 = M2.2) (f4 : ∀ a i, ¬ (a = 0 ∧ i = 11) → a ≠ 46 + 5 * G → M4.1 a i = M2.1 a i) (e11 : M4.1 0 11 = if r.1 = 2 then 1 else 0) (hfl : fl = if r.1 = 1 then 1 else 0)
    (h2 : r.1 = 2 → sI D r.2.1 ∧ cS M2 13 D r.2.1 ∧ M2.1 13 13 = 0) (h1 : r.1 ≠ 1 → M4.1 (46 + 5 * G) = M.1 (46 + 5 * G)) (h3 : r.1 = 1 → (∀ s, sCov D s → M4.1 (46 + 5 * G) s = nI (ca s / 32 * 32 + sB D r.2.1.2.2 r.2.1.1 s)) ∧ ∀ s, s < 49 → ¬ sCov D s → M4.1 (46 + 5 * G) s = nI (ca s)) : dFo M (tlM M4 13 fl) D G ca r := by
  obtain ⟨g1, g2, g3, g4, g5⟩ := fr
  have f1 : ∀ a i, a ≠ 13 → M1.1 a i = M.1 a i := fun a i h => by rw [← hM1, mI_ne _ _ _ h, mI_ne _ _ _ h]
  have f1b : ∀ i, i ≠ 15 → i ≠ 16 → M1.1 13 i = M.1 13 i := fun i h h2 => by rw [← hM1, mI_at, if_neg (by omega), mI_at, if_neg (by omega)]
  have m1 : M1.2 = M.2 := by rw [← hM1]; rfl
  have t2 : (tlM M4 13 fl).2 = M4.2 := rfl
  have fa : ∀ a i, a ≠ 0 → a ≠ 13 → a ≠ 23 → a ≠ 24 → a ≠ 44 → a ≠ 46 + 5 * G → (tlM M4 13 fl).1 a i = M.1 a i := fun a i p0 p1 p2 p3 p4 p5 => by
    rw [tl_at _ _ _ _ _ (by omega) (by omega), f4 a i (by omega) p5, g2 a (by omega) (by omega) (by omega), f1 a i (by omega)]
  have b15 : M4.1 13 15 = nI r.2.2 := by rw [f4 _ _ (by omega) (by omega)]; exact e15
  have b14 : M4.1 13 14 = M.1 13 14 := by rw [f4 _ _ (by omega) (by omega), g4]; exact f1b 14 (by decide) (by decide)
  have t4 : M4.1 14 4 = nI D.1.length := by rw [f4 _ _ (by omega) (by omega), g2 _ (by decide) (by decide) (by decide), f1 _ _ (by decide)]; exact hD.1.1
  have z12 : M4.1 0 12 = M.1 0 12 := by rw [f4 _ _ (by omega) (by omega), g2 _ (by decide) (by decide) (by decide), f1 _ _ (by decide)]
  refine ⟨by rw [t2, m4, g1, m1], fun a p0 p1 p2 p3 p4 p5 => funext fun i => fa a i p0 p1 p2 p3 p4 p5, fun i p1 p2 => ?_, fun a ha => ?_, ?_, ?_, ⟨?_, ?_, ?_, ?_⟩, fun q => ?_, fun q => ?_, fun q => ?_⟩
  · rw [tl_at _ _ _ _ _ (by omega) (by omega), f4 _ _ (by omega) (by omega), g2 _ (by decide) (by decide) (by decide), f1 _ _ (by decide)]
  · rw [t2, m4, g3 a (by omega), m1]
  · rw [tl_at _ _ _ _ _ (by omega) (by omega), e11]
  · show M4.1 0 12 + M4.1 13 15 = _
    rw [z12, b15]
  · exact b15
  · exact hfl
  · exact t4
  · exact b14
  · obtain ⟨q1, q2, q3⟩ := h2 q
    refine ⟨q1, cS_ex2 (fun a i x => ?_) (fun a _ _ => by rw [t2, m4]) q2, cD_ex2 (fun a i x y => fa a i (by omega) (by omega) (by omega) (by omega) (by omega) (by omega)) (fun a x => ?_) hD, ?_, ?_⟩
    · rw [tl_at _ _ _ _ _ (by omega) (by omega), f4 _ _ (by omega) (by omega)]
    · rw [t2, m4, g3 a (by omega), m1]
    · rw [tl_at _ _ _ _ _ (by omega) (by omega), f4 _ _ (by omega) (by omega)]; exact q3
    · rw [tl_at _ _ _ _ _ (by omega) (by omega)]; exact b14
  · rw [← h1 q]
    funext i
    exact tl_at _ _ _ _ _ (by omega) (by omega)
  · refine ⟨fun s hs => ?_, fun s hs hn => ?_⟩
    · rw [tl_at _ _ _ _ _ (by omega) (by omega)]; exact (h3 q).1 s hs
    · rw [tl_at _ _ _ _ _ (by omega) (by omega)]; exact (h3 q).2 s hs hn
set_option maxRecDepth 4000 in
set_option maxHeartbeats 1000000 in
theorem c_fillOn {D : sD} {S : sS} {lim : Nat} {r : Nat × sS × Nat} {ca : Nat → Nat} (hG : G < 4) (h10 : M.1 0 10 = nI G) (hgr : M.2.2 7 G = some (45 + 5 * G)) (hd : dOK D) (hl : lim ≤ 5000) (hr : sNx D lim (2 * lim + 50) S 0 = some r) (hI : sI D S) (hD : cD M 13 D) (hS : cS M 13 D S) (e13 : M.1 13 13 = 0) (hca : ∀ s, s < 49 → M.1 (46 + 5 * G) s = nI (ca s) ∧ ca s < 128)
    (hq : ∀ M', dFo M M' D G ca r → Q (some (.int (aI r.1))) (wm (sh0 ++ dy) M')) : sm_E L xs (d + 6) 97 [.ref 0, .int (nI lim)] (wm (sh0 ++ dy) M) Q := by
  have hs := srSh_13 dy
  have gs := gsh_at dy G hG
  obtain ⟨sg, -⟩ := gsh_at dy G hG
  obtain ⟨M1, hM1⟩ : ∃ M1, m_setI (m_setI M 13 15 0) 13 16 (nI lim) = M1 := ⟨_, rfl⟩
  have f1 : ∀ a i, a ≠ 13 → M1.1 a i = M.1 a i := fun a i h => by rw [← hM1, mI_ne _ _ _ h, mI_ne _ _ _ h]
  have f1b : ∀ i, i ≠ 15 → i ≠ 16 → M1.1 13 i = M.1 13 i := fun i h h2 => by rw [← hM1, mI_at, if_neg (by omega), mI_at, if_neg (by omega)]
  have m1 : M1.2 = M.2 := by rw [← hM1]; rfl
  have hD1 : cD M1 13 D := cD_ex2 (fun a i x y => f1 a i (by omega)) (fun a _ => by rw [m1]) hD
  have hS1 : cS M1 13 D S := cS_ex2 (fun a i x => by
    by_cases z : a = 13
    · subst z
      exact f1b i (by omega) (by omega)
    · exact f1 a i z) (fun a _ _ => by rw [m1]) hS
  have h16 : M1.1 13 16 = nI lim := by rw [← hM1, mI_at, if_pos ⟨rfl, rfl⟩]
  have e15 : M1.1 13 15 = nI 0 := by rw [← hM1, mI_at, if_neg (by omega), mI_at, if_pos ⟨rfl, rfl⟩]; rfl
  have e131 : M1.1 13 13 = 0 := by rw [f1b _ (by decide) (by decide)]; exact e13
  refine e_intro rfl rfl ?_
  rcases sNx_012 D lim _ S 0 r hr with h0 | h1 | h2
  · rw [h0] at hq
    refine x_opp rfl rfl ?_
    refine m_getg (s_0 dy) rfl rfl rfl ?_
    refine x_opp rfl rfl ?_
    refine a_callV (s_13 dy) rfl rfl rfl rfl (c_allow hs ?_)
    rw [hM1]
    refine x_opp rfl rfl ?_
    refine m_getg (s_0 dy) rfl rfl rfl ?_
    refine a_callV (s_13 dy) rfl rfl rfl rfl (c_next0 hs hd hD1 h16 hl hr (Nat.zero_le _) hI hS1 e15 e131 (fun q => absurd (h0.symm.trans q) (by decide)) (fun q M2 fr2 x15 xl => ?_) (fun q => absurd (h0.symm.trans q) (by decide)))
    iterate 3 (refine x_opp rfl rfl ?_)
    refine x_kcg rfl ?_
    refine a_icT rfl rfl br_ne (by decide) ?_
    refine x_kcg rfl ?_
    refine x_go rfl ?_
    refine a_putJ 11 (s_0 dy) rfl rfl rfl rfl ?_
    refine x_opp rfl rfl ?_
    refine x_kcg rfl ?_
    refine a_icT rfl rfl br_ne (by decide) ?_
    refine x_opp rfl rfl ?_
    refine x_opp rfl rfl ?_
    refine m_getg (s_0 dy) rfl rfl rfl ?_
    refine x_opp rfl rfl ?_
    refine x_kcg rfl ?_
    refine a_icT rfl rfl br_ne (by decide) ?_
    refine x_kcg rfl ?_
    refine x_go rfl ?_
    refine a_callV (s_0 dy) rfl rfl rfl rfl (c_tellF ?_)
    refine x_opp rfl rfl ?_
    refine a_iret rfl rfl rfl ?_
    refine hq _ (dFo_end (M1 := M1) (M2 := M2) hG hM1 hD fr2 x15 rfl (fun a i p1 p2 => by rw [mI_at, if_neg p1]) (by rw [h0]; rfl) (by rw [h0]; rfl) (fun q => absurd (h0.symm.trans q) (by decide)) (fun _ => ?_) (fun q => absurd (h0.symm.trans q) (by decide)))
    rw [mI_ne _ _ _ (by omega), fr2.2.1 _ (by omega) (by omega) (by omega)]
    funext i
    exact f1 _ i (by omega)
  · rw [h1] at hq
    refine x_opp rfl rfl ?_
    refine m_getg (s_0 dy) rfl rfl rfl ?_
    refine x_opp rfl rfl ?_
    refine a_callV (s_13 dy) rfl rfl rfl rfl (c_allow hs ?_)
    rw [hM1]
    refine x_opp rfl rfl ?_
    refine m_getg (s_0 dy) rfl rfl rfl ?_
    refine a_callV (s_13 dy) rfl rfl rfl rfl (c_next0 hs hd hD1 h16 hl hr (Nat.zero_le _) hI hS1 e15 e131 (fun q M2 i2 s2 xd xl fr2 x15 x13 => ?_) (fun q => absurd (h1.symm.trans q) (by decide)) (fun q => absurd (h1.symm.trans q) (by decide)))
    iterate 3 (refine x_opp rfl rfl ?_)
    refine x_kcg rfl ?_
    refine a_icT rfl rfl br_ne (by decide) ?_
    refine x_kcg rfl ?_
    refine x_go rfl ?_
    refine a_putJ 11 (s_0 dy) rfl rfl rfl rfl ?_
    refine x_opp rfl rfl ?_
    refine x_kcg rfl ?_
    refine a_icF rfl rfl br_ne (by decide) ?_
    refine x_opp rfl rfl ?_
    refine m_getg (s_0 dy) rfl rfl rfl ?_
    refine x_opp rfl rfl ?_
    refine m_getg (s_0 dy) rfl rfl rfl ?_
    refine x_opp rfl rfl ?_
    refine m_getg (s_0 dy) rfl rfl rfl ?_
    have m10 : (m_setI M2 0 11 0).1 0 10 = nI G := by rw [mI_at, if_neg (by omega), fr2.2.1 _ (by decide) (by decide) (by decide), f1 _ _ (by decide)]; exact h10
    have mgr : (m_setI M2 0 11 0).2.2 7 G = some (45 + 5 * G) := by rw [show (m_setI M2 0 11 0).2.2 = M2.2.2 from rfl, fr2.1, m1]; exact hgr
    have hD2 : cD (m_setI M2 0 11 0) 13 D := cD_ex2 (M := M2) (fun a i x y => by rw [mI_ne _ _ _ (by omega)]) (fun _ _ => rfl) (cD_fr fr2 hD1)
    have hca2 : ∀ s, s < 49 → (m_setI M2 0 11 0).1 (46 + 5 * G) s = nI (ca s) ∧ ca s < 128 := fun s hs => by rw [mI_ne _ _ _ (by omega), fr2.2.1 _ (by omega) (by omega) (by omega), f1 _ _ (by omega)]; exact hca s hs
    rw [m10]
    refine a_gr hG rfl rfl mgr ?_
    refine a_callV (s_13 dy) rfl rfl rfl rfl (c_writeInto (bb := fun s => sB D r.2.1.2.2 r.2.1.1 s) hs gs (by omega) hd hD2 hca2 (fun s hs => ?_) (fun M4 w4 => ?_))
    · obtain ⟨e, he, i, hi, rfl⟩ := hs
      rw [mI_ne _ _ _ (by decide)]
      exact s2.2.2.2.2 e he i hi
    · obtain ⟨w1, w2, w3, w5, w6⟩ := w4
      refine x_go rfl ?_
      refine x_opp rfl rfl ?_
      refine x_opp rfl rfl ?_
      refine m_getg (s_0 dy) rfl rfl rfl ?_
      refine x_opp rfl rfl ?_
      refine x_kcg rfl ?_
      refine a_icF rfl rfl br_ne (by decide) ?_
      refine x_kcg rfl ?_
      refine x_go rfl ?_
      refine a_callV (s_0 dy) rfl rfl rfl rfl (c_tellF ?_)
      refine x_opp rfl rfl ?_
      refine a_iret rfl rfl rfl ?_
      refine hq _ (dFo_end (M1 := M1) (M2 := M2) hG hM1 hD fr2 x15 w1 (fun a i p1 p2 => by rw [w2 a p2, mI_at, if_neg p1]) (by rw [h1, w2 0 (by omega)]; rfl) (by rw [h1]; rfl) (fun q => absurd (h1.symm.trans q) (by decide)) (fun q => absurd h1 q) (fun _ => ⟨w5, w6⟩))
  · rw [h2] at hq
    refine x_opp rfl rfl ?_
    refine m_getg (s_0 dy) rfl rfl rfl ?_
    refine x_opp rfl rfl ?_
    refine a_callV (s_13 dy) rfl rfl rfl rfl (c_allow hs ?_)
    rw [hM1]
    refine x_opp rfl rfl ?_
    refine m_getg (s_0 dy) rfl rfl rfl ?_
    refine a_callV (s_13 dy) rfl rfl rfl rfl (c_next0 hs hd hD1 h16 hl hr (Nat.zero_le _) hI hS1 e15 e131 (fun q => absurd (h2.symm.trans q) (by decide)) (fun q => absurd (h2.symm.trans q) (by decide)) (fun q M2 i2 s2 xd xl fr2 x15 x13 => ?_))
    iterate 3 (refine x_opp rfl rfl ?_)
    refine x_kcg rfl ?_
    refine a_icF rfl rfl br_ne (by decide) ?_
    refine x_kcg rfl ?_
    refine x_go rfl ?_
    refine a_putJ 11 (s_0 dy) rfl rfl rfl rfl ?_
    refine x_opp rfl rfl ?_
    refine x_kcg rfl ?_
    refine a_icT rfl rfl br_ne (by decide) ?_
    refine x_opp rfl rfl ?_
    refine x_opp rfl rfl ?_
    refine m_getg (s_0 dy) rfl rfl rfl ?_
    refine x_opp rfl rfl ?_
    refine x_kcg rfl ?_
    refine a_icT rfl rfl br_ne (by decide) ?_
    refine x_kcg rfl ?_
    refine x_go rfl ?_
    refine a_callV (s_0 dy) rfl rfl rfl rfl (c_tellF ?_)
    refine x_opp rfl rfl ?_
    refine a_iret rfl rfl rfl ?_
    refine hq _ (dFo_end (M1 := M1) (M2 := M2) hG hM1 hD fr2 x15 rfl (fun a i p1 p2 => by rw [mI_at, if_neg p1]) (by rw [h2]; rfl) (by rw [h2]; rfl) (fun _ => ⟨i2, s2, x13⟩) (fun _ => ?_) (fun q => absurd (h2.symm.trans q) (by decide)))
    rw [mI_ne _ _ _ (by omega), fr2.2.1 _ (by omega) (by omega) (by omega)]
    funext i
    exact f1 _ i (by omega)
end FO
