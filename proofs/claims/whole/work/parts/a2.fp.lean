/-! filling goes on: the reference -/
def kFo (M M' : mm_T) (D : sD) (G : Nat) (r : Nat × sS × Nat) : Prop :=
  M'.2.2 = M.2.2 ∧ (∀ a, a ≠ 65 → a ≠ 70 → a ≠ 97 → a ≠ 103 → a ≠ 105 → a ≠ 106 → M'.1 a = M.1 a) ∧ (∀ i, i ≠ 23 → i ≠ 38 → i ≠ 39 → (i < 53 ∨ 56 < i) → M'.1 65 i = M.1 65 i) ∧ (∀ a, a ≠ 104 → M'.2.1 a = M.2.1 a) ∧ M'.1 65 38 = (if r.1 = 2 then 1 else 0) ∧ M'.1 65 39 = nI G ∧ M'.1 65 23 = M.1 65 23 + nI r.2.2 ∧ (M'.1 65 53 = nI r.2.2 ∧ M'.1 65 54 = (if r.1 = 1 then 1 else 0) ∧ M'.1 65 55 = nI D.1.length ∧ M'.1 65 56 = M.1 98 0) ∧ (r.1 = 2 → sI D r.2.1 ∧ mS M' 0 D r.2.1 ∧ mD M' 0 D ∧ ∀ s, ¬ sCov D s → M'.1 106 s = M.1 106 s) ∧ (∀ s, (s < 49 * G ∨ 49 * G + 49 ≤ s) → M'.1 70 s = M.1 70 s) ∧ (r.1 ≠ 1 → M'.1 70 = M.1 70) ∧ (r.1 = 1 → (∀ s, s < 49 → sCov D s → M'.1 70 (49 * G + s) = nI (sB D r.2.1.2.2 r.2.1.1 s)) ∧ ∀ s, s < 49 → ¬ sCov D s → M'.1 70 (49 * G + s) = M.1 106 s)
def cpI (M M1 : mm_T) (G k : Nat) : Prop := M1.2 = M.2 ∧ (∀ a, a ≠ 70 → M1.1 a = M.1 a) ∧ ∀ s, M1.1 70 s = if 49 * G ≤ s ∧ s < 49 * G + k then M.1 106 (s - 49 * G) else M.1 70 s
section FP
variable {L : Nat} {xs : Nat → Int32} {t d : Nat} {dy : List sh_T} {M : mm_T} {Q : Option Value → sm_W → Prop} {n G : Nat}
theorem l_cpy {v2 : Int32} (hG : G < 4) (hq : ∀ M', cpI M M' G 49 → Q (some (.int 1)) (wm (sh0 ++ dy) M')) : sm_X L xs d 199 4 (sm_code 199 4) [(0, .ref 65), (1, .int (nI G)), (2, .int v2), (3, .int 1), (4, .int (nI 0))] [] (wm (sh0 ++ dy) M) Q := by
  have key : ∀ M1, cpI M M1 G 0 → sm_X L xs d 199 4 (sm_code 199 4) [(0, .ref 65), (1, .int (nI G)), (2, .int v2), (3, .int 1), (4, .int (nI 0))] [] (wm (sh0 ++ dy) M1) Q := by
    refine loop_dn (P := fun k => ∀ M1, cpI M M1 G k → sm_X L xs d 199 4 (sm_code 199 4) [(0, .ref 65), (1, .int (nI G)), (2, .int v2), (3, .int 1), (4, .int (nI k))] [] (wm (sh0 ++ dy) M1) Q) 49 ?_ ?_
    · intro M1 h1
      have g : (49 : Int32) ≤ nI 49 := by decide
      have fin := hq M1 h1
      refine x_opp rfl rfl ?_
      refine x_kcg rfl ?_
      refine a_icT rfl rfl br_ge (by first | exact g | exact nt_f g | exact tnf g | exact fnt g | exact Int32.not_lt.mp g | exact Int32.not_le.mp g | exact Int32.not_lt.mpr g | exact Int32.not_le.mpr g) ?_
      refine x_opp rfl rfl ?_
      refine a_iret rfl rfl rfl ?_
      exact fin
    · intro k hk ih M1 h1
      have g : ¬ (49 : Int32) ≤ nI k := nI_ge (b := 49) hk (by decide)
      obtain ⟨a1, a2, a3⟩ := h1
      have fin := ih (m_setI M1 70 (49 * G + k) (M1.1 106 k)) ⟨a1, fun a ha => by rw [mI_ne _ _ _ ha]; exact a2 a ha, fun s => by
        rw [mI_at]
        by_cases e : s = 49 * G + k
        · rw [if_pos ⟨rfl, e⟩, if_pos (by omega), a2 106 (by decide), show s - 49 * G = k by omega]
        · rw [if_neg (fun q => e q.2), a3]
          exact ifc (by omega)⟩
      refine x_opp rfl rfl ?_
      refine x_kcg rfl ?_
      refine a_icF rfl rfl br_ge (by first | exact g | exact nt_f g | exact tnf g | exact fnt g | exact Int32.not_lt.mp g | exact Int32.not_le.mp g | exact Int32.not_lt.mpr g | exact Int32.not_le.mpr g) ?_
      refine x_opp rfl rfl ?_
      refine x_kcg rfl ?_
      refine a_icF rfl rfl br_ne (by decide) ?_
      refine x_opp rfl rfl ?_
      refine m_getg (s_65 dy) rfl rfl rfl ?_
      refine x_kcg rfl ?_
      iterate 5 (refine x_opp rfl rfl ?_)
      refine m_getg (s_65 dy) rfl rfl rfl ?_
      refine x_opp rfl rfl ?_
      refine a_ialdN (s_106 dy) (k := k) rfl rfl rfl (by omega) (by decide) ?_
      rw [g49]
      refine a_iastN (s_70 dy) (k := 49 * G + k) rfl rfl rfl (by omega) (by decide) ?_
      first | refine x_incg rfl rfl ?_ | refine x_opp rfl rfl ?_
      refine x_go rfl ?_
      refine x_lvs [(0, .ref 65), (1, .int (nI G)), (2, .int v2), (3, .int 1), (4, .int (nI (k + 1)))] rfl rfl rfl ⟨rfl, rfl, rfl, rfl, rfl, trivial⟩ ?_
      exact fin
  exact key M ⟨rfl, fun _ _ => rfl, fun s => by rw [if_neg (by omega)]⟩
theorem sGo_r {D : sD} {S : sS} {lim : Nat} {r : Nat × sS × Nat} (hr : sNx D lim (2 * lim + 50) S 0 = some r) : sGo D lim 1 S 0 = (r.1, r.2.1, r.2.2, if r.1 = 1 then [r.2.1.2.2] else []) := by
  obtain ⟨o, S', p⟩ := r
  rcases sNx_012 D lim _ S 0 _ hr with h | h | h
  · have h : o = 0 := h
    subst h
    rw [sGo_0 hr]
    rfl
  · have h : o = 1 := h
    subst h
    rw [sGo_1 hr]
    rfl
  · have h : o = 2 := h
    subst h
    rw [sGo_2 hr]
    rfl
theorem go_at (M : mm_T) (p fl : Nat) (n c : Int32) (a i : Nat) (h : ¬ (a = 65 ∧ (i = 23 ∨ (53 ≤ i ∧ i ≤ 56)))) : (goM M p fl n c).1 a i = M.1 a i := by
  unfold goM
  rw [mI_at, if_neg (by omega), mI_at, if_neg (by omega), mI_at, if_neg (by omega), mI_at, if_neg (by omega), mI_at, if_neg (by omega)]
theorem mD_ex {M M' : mm_T} {q : Nat} {D : sD} (h : ∀ a, a = 96 ∨ a = 101 ∨ a = 102 ∨ a = 107 ∨ a = 108 → M'.1 a = M.1 a) (h2 : M'.2.1 99 = M.2.1 99) (hd : mD M q D) : mD M' q D := by
  obtain ⟨d1, d2, d3, d4, d5, d6⟩ := hd
  unfold mD
  rw [h 96 (by omega), h 101 (by omega), h 102 (by omega), h 107 (by omega), h 108 (by omega), h2]
  exact ⟨d1, d2, d3, d4, d5, d6⟩
theorem mS_ex {M M' : mm_T} {q : Nat} {D : sD} {S : sS} (h : ∀ a, a = 97 ∨ a = 103 ∨ a = 105 ∨ a = 106 → M'.1 a = M.1 a) (h2 : M'.2.1 104 = M.2.1 104) (hd : mS M q D S) : mS M' q D S := by
  obtain ⟨d1, d2, d3, d4, d5⟩ := hd
  unfold mS
  rw [h 97 (by omega), h 103 (by omega), h 105 (by omega), h 106 (by omega), h2]
  exact ⟨d1, d2, d3, d4, d5⟩
theorem kFo_end {M2 M3 M' : mm_T} {D : sD} {r : Nat × sS × Nat} {fl : Nat} (hD : mD M 0 D) (fr : wFr M M2 0 D) (hfl : nI fl = if r.1 = 1 then 1 else 0) (h3 : M3 = m_setI (m_setI (goM M2 r.2.2 fl (nI D.1.length) (M.1 98 0)) 65 38 (if r.1 = 2 then 1 else 0)) 65 39 (nI G)) (h0 : r.1 ≠ 0 → sI D r.2.1 ∧ mS M2 0 D r.2.1) (c : r.1 ≠ 1 → M' = M3) (c1 : r.1 = 1 → cpI M3 M' G 49) : kFo M M' D G r := by
  obtain ⟨⟨w1, w2, w3, w4⟩, w5, w6, w7, w8⟩ := fr
  have f3 : ∀ a i, ¬ (a = 65 ∧ (i = 38 ∨ i = 39 ∨ i = 23 ∨ (53 ≤ i ∧ i ≤ 56))) → M3.1 a i = M2.1 a i := fun a i h => by
    rw [h3, mI_at, if_neg (by omega), mI_at, if_neg (by omega), go_at _ _ _ _ _ _ _ (by omega)]
  have m3 : M3.2 = M2.2 := by rw [h3]; rfl
  have f' : ∀ a, a ≠ 70 → M'.1 a = M3.1 a := fun a ha => by
    by_cases q : r.1 = 1
    · exact (c1 q).2.1 a ha
    · rw [c q]
  have m' : M'.2 = M3.2 := by
    by_cases q : r.1 = 1
    · exact (c1 q).1
    · rw [c q]
  have l2 : ∀ a, a ≠ 104 → M'.2.1 a = M.2.1 a := fun a ha => by
    rw [m', m3]
    by_cases q : a = 109
    · subst q; exact (w8 rfl).2
    · exact w4 a ha q
  have f23 : M2.1 65 23 = M.1 65 23 := w3 23 (by decide)
  refine ⟨by rw [m', m3]; exact w1, fun a p1 p2 p3 p4 p5 p6 => ?_, fun i p1 p2 p3 p4 => ?_, l2, ?_, ?_, ?_, ⟨?_, ?_, ?_, ?_⟩, fun q => ?_, fun s hs => ?_, fun q => ?_, fun q => ?_⟩
  · funext i
    rw [f' a p2, f3 a i (by omega), w2 a p1 p3 p4 p5 p6]
  · rw [f' _ (by decide), f3 _ _ (by omega)]
    by_cases q : i = 58
    · subst q; exact (w8 rfl).1
    · exact w3 i q
  · rw [f' _ (by decide), h3]; rfl
  · rw [f' _ (by decide), h3]; rfl
  · rw [f' _ (by decide), h3, ← f23]; rfl
  · rw [f' _ (by decide), h3]; rfl
  · rw [f' _ (by decide), h3, ← hfl]; rfl
  · rw [f' _ (by decide), h3]; rfl
  · rw [f' _ (by decide), h3]; rfl
  · obtain ⟨z1, z2⟩ := h0 (by omega)
    have e := c (by omega)
    refine ⟨z1, mS_ex (M := M2) (fun a ha => ?_) (by rw [m', m3]) z2, mD_ex (M := M) (fun a ha => ?_) (l2 99 (by decide)) hD, fun s hs => ?_⟩
    · funext i
      rw [e, f3 a i (by omega)]
    · funext i
      rw [e, f3 a i (by omega), w2 a (by omega) (by omega) (by omega) (by omega) (by omega)]
    · rw [e, f3 _ _ (by omega)]
      exact w7 s (fun s2 h2 h => hs (by rw [h, Nat.mul_zero, Nat.zero_add]; exact h2))
  · by_cases q : r.1 = 1
    · rw [(c1 q).2.2 s, if_neg (by omega), f3 _ _ (by omega), w2 70 (by decide) (by decide) (by decide) (by decide) (by decide)]
    · rw [c q, f3 _ _ (by omega), w2 70 (by decide) (by decide) (by decide) (by decide) (by decide)]
  · funext s
    rw [c q, f3 _ _ (by omega), w2 70 (by decide) (by decide) (by decide) (by decide) (by decide)]
  · obtain ⟨z1, z2⟩ := h0 (by omega)
    refine ⟨fun s hs hc => ?_, fun s hs hc => ?_⟩
    · rw [(c1 q).2.2 _, if_pos (by omega), Nat.add_sub_cancel_left, f3 _ _ (by omega)]
      have := z2.2.2.2.2 s hc
      rw [Nat.mul_zero, Nat.zero_add] at this
      exact this
    · rw [(c1 q).2.2 _, if_pos (by omega), Nat.add_sub_cancel_left, f3 _ _ (by omega)]
      exact w7 s (fun s2 h2 h => hc (by rw [h, Nat.mul_zero, Nat.zero_add]; exact h2))
set_option maxRecDepth 4000 in
theorem k_fillOn {D : sD} {S : sS} {lim : Nat} {r : Nat × sS × Nat} (hG : G < 4) (hd : dOK D) (hin : ∀ i j, i < D.1.length → j < D.1.length → D.2.2.1 i = D.2.2.1 j → i = j) (hl : lim ≤ 5000) (hr : sNx D lim (2 * lim + 50) S 0 = some r) (hI : sI D S) (hD : mD M 0 D) (hS : mS M 0 D S)
    (hq : ∀ M', kFo M M' D G r → Q (some (.int (aI r.1))) (wm (sh0 ++ dy) M')) : sm_E L xs (d + 5) 199 [.ref 65, .int (nI G), .int (nI lim)] (wm (sh0 ++ dy) M) Q := by
  have e := sGo_r hr
  have kg : ∀ Q' : Option Value → sm_W → Prop, (∀ M2 fl, wFr M M2 0 D → nI fl = (if r.1 = 1 then 1 else 0) → (r.1 ≠ 0 → sI D r.2.1 ∧ mS M2 0 D r.2.1) → Q' (some (.int (aI r.1))) (wm (sh0 ++ dy) (goM M2 r.2.2 fl (nI D.1.length) (M.1 98 0)))) → sm_E L xs (d + 4) 200 [.ref 65, .int (nI 0), .int (nI 1), .int (nI lim)] (wm (sh0 ++ dy) M) Q' := by
    intro Q' h
    refine k_goes (q := 0) (mo := 1) (fs := []) (by decide) hd hin hl (by decide) (by decide) hI hD hS (fun q => absurd q (by decide)) (fun M2 f1 f2 f3 f4 => ?_)
    rw [e] at f3 f4 ⊢
    dsimp only at f3 f4 ⊢
    refine h M2 _ f1 ?_ f3
    split <;> rfl
  refine e_intro rfl rfl ?_
  rcases sNx_012 D lim _ S 0 r hr with h0 | h1 | h2
  · rw [h0] at hq kg
    refine x_opp rfl rfl ?_
    refine x_kcg rfl ?_
    refine x_kcg rfl ?_
    refine x_opp rfl rfl ?_
    refine a_callV (s_65 dy) rfl rfl rfl rfl (kg _ (fun M2 fl f1 f2 f3 => ?_))
    iterate 3 (refine x_opp rfl rfl ?_)
    refine x_kcg rfl ?_
    refine a_icT rfl rfl br_ne (by decide) ?_
    refine x_kcg rfl ?_
    refine x_go rfl ?_
    refine a_putJ 38 (s_65 dy) rfl rfl rfl rfl ?_
    refine x_opp rfl rfl ?_
    refine x_opp rfl rfl ?_
    refine a_putJ 39 (s_65 dy) rfl rfl rfl rfl ?_
    refine x_kcg rfl ?_
    refine x_opp rfl rfl ?_
    refine x_go rfl ?_
    refine x_opp rfl rfl ?_
    refine x_kcg rfl ?_
    refine a_icF rfl rfl br_ge (by decide) ?_
    refine x_opp rfl rfl ?_
    refine x_kcg rfl ?_
    refine a_icT rfl rfl br_ne (by decide) ?_
    refine x_opp rfl rfl ?_
    refine a_iret rfl rfl rfl ?_
    exact hq _ (kFo_end (M2 := M2) (fl := fl) hD f1 (by rw [h0]; exact f2) rfl (fun q => absurd h0 q) (fun _ => by rw [h0]; rfl) (fun q => absurd (h0.symm.trans q) (by decide)))
  · rw [h1] at hq kg
    refine x_opp rfl rfl ?_
    refine x_kcg rfl ?_
    refine x_kcg rfl ?_
    refine x_opp rfl rfl ?_
    refine a_callV (s_65 dy) rfl rfl rfl rfl (kg _ (fun M2 fl f1 f2 f3 => ?_))
    iterate 3 (refine x_opp rfl rfl ?_)
    refine x_kcg rfl ?_
    refine a_icT rfl rfl br_ne (by decide) ?_
    refine x_kcg rfl ?_
    refine x_go rfl ?_
    refine a_putJ 38 (s_65 dy) rfl rfl rfl rfl ?_
    refine x_opp rfl rfl ?_
    refine x_opp rfl rfl ?_
    refine a_putJ 39 (s_65 dy) rfl rfl rfl rfl ?_
    refine x_kcg rfl ?_
    refine x_opp rfl rfl ?_
    refine x_go rfl ?_
    refine x_lvs [(0, .ref 65), (1, .int (nI G)), (2, .int (nI lim)), (3, .int 1), (4, .int (nI 0))] rfl rfl rfl ⟨rfl, rfl, rfl, rfl, rfl, trivial⟩ ?_
    refine l_cpy hG (fun M' c => ?_)
    exact hq _ (kFo_end (M2 := M2) (fl := fl) hD f1 (by rw [h1]; exact f2) rfl (fun _ => f3 (by decide)) (fun q => absurd h1 q) (fun _ => by rw [h1]; exact c))
  · rw [h2] at hq kg
    refine x_opp rfl rfl ?_
    refine x_kcg rfl ?_
    refine x_kcg rfl ?_
    refine x_opp rfl rfl ?_
    refine a_callV (s_65 dy) rfl rfl rfl rfl (kg _ (fun M2 fl f1 f2 f3 => ?_))
    iterate 3 (refine x_opp rfl rfl ?_)
    refine x_kcg rfl ?_
    refine a_icF rfl rfl br_ne (by decide) ?_
    refine x_kcg rfl ?_
    refine x_go rfl ?_
    refine a_putJ 38 (s_65 dy) rfl rfl rfl rfl ?_
    refine x_opp rfl rfl ?_
    refine x_opp rfl rfl ?_
    refine a_putJ 39 (s_65 dy) rfl rfl rfl rfl ?_
    refine x_kcg rfl ?_
    refine x_opp rfl rfl ?_
    refine x_go rfl ?_
    refine x_opp rfl rfl ?_
    refine x_kcg rfl ?_
    refine a_icF rfl rfl br_ge (by decide) ?_
    refine x_opp rfl rfl ?_
    refine x_kcg rfl ?_
    refine a_icT rfl rfl br_ne (by decide) ?_
    refine x_opp rfl rfl ?_
    refine a_iret rfl rfl rfl ?_
    exact hq _ (kFo_end (M2 := M2) (fl := fl) hD f1 (by rw [h2]; exact f2) rfl (fun _ => f3 (by decide)) (fun _ => by rw [h2]; rfl) (fun q => absurd (h2.symm.trans q) (by decide)))
end FP
