/-! pairs: a grid is solved -/
theorem rS_f2 {M M' : mm_T} (hs : rS M) (h : ∀ a i, (a = 0 ∧ (i = 10 ∨ i = 11)) ∨ (13 ≤ a ∧ a ≤ 27) ∨ a = 70 ∨ ((a = 96 ∨ a = 97 ∨ a = 98) ∧ i = 0) ∨ ((a = 101 ∨ a = 102 ∨ a = 103 ∨ a = 105 ∨ a = 108) ∧ i < 48) ∨ (a = 106 ∧ i < 49) ∨ (a = 107 ∧ i < 336) ∨ (a = 65 ∧ (i = 38 ∨ i = 39)) → M'.1 a i = M.1 a i) (h2 : ∀ a, 13 ≤ a ∧ a ≤ 27 → M'.2.1 a = M.2.1 a) (h3 : ∀ i, i < 1920 → M'.2.1 99 i = M.2.1 99 i) (h4 : ∀ i, i < 48 → M'.2.1 104 i = M.2.1 104 i) : rS M' := by
  obtain ⟨s1, s2⟩ := hs
  refine ⟨by rw [h 0 11 (by omega), h 65 38 (by omega)]; exact s1, s2.elim (fun g => Or.inl (by rw [h 0 11 (by omega)]; exact g)) (fun g => Or.inr ⟨by rw [h 0 11 (by omega)]; exact g.1, ?_⟩)⟩
  obtain ⟨-, G, D, S, hG4, h10, h39, hd, hin, hI, hD, hSt, e13, ⟨d1, d2, d3, d4, d5, d6⟩, ⟨t1, t2, t3, t4, t5⟩, e14, hout⟩ := g
  have l42 := hd.1
  have sl := hI.1
  have cov : ∀ s, sCov D s → s < 49 := fun s hs => by
    obtain ⟨e, he, i, hi, rfl⟩ := hs
    exact mPl_lt (hd.2.1 e he) hi
  have e7 : ∀ e, e < D.1.length → (eAt D.1 e).2.2.1 ≤ 7 := fun e he => eOK_7 (hd.2.1 _ (List.mem_of_getElem? (eAt_get he)))
  refine ⟨G, D, S, hG4, by rw [h _ _ (by omega)]; exact h10, by rw [h _ _ (by omega)]; exact h39, hd, hin, hI, cD_ex2 (M := M) (fun a i x y => h a i (by omega)) (fun a x => h2 a (by omega)) hD, cS_ex2 (M := M) (fun a i x => h a i (by omega)) (fun a x y => h2 a (by omega)) hSt, by rw [h _ _ (by omega)]; exact e13, ⟨?_, fun e he => ?_, fun e i he hi => ?_, fun e he => ?_, fun e k he hk => ?_, fun k hk => ?_⟩, ⟨?_, fun k hk hk2 => ?_, fun k hk => ?_, fun k hk => ?_, fun s hs => ?_⟩, ?_, fun s hs hc => ?_⟩
  · rw [h _ _ (by omega)]; exact d1
  · rw [h _ _ (by omega)]; exact d2 e he
  · have := e7 e he
    rw [h _ _ (by omega)]; exact d3 e i he hi
  · rw [h _ _ (by omega)]; exact d4 e he
  · have := hd.2.2.2.1 e he
    rw [h3 _ (by omega)]; exact d5 e k he hk
  · rw [h _ _ (by omega)]; exact d6 k hk
  · rw [h _ _ (by omega)]; exact t1
  · rw [h _ _ (by omega)]; exact t2 k hk hk2
  · rw [h4 _ (by omega)]; exact t3 k hk
  · rw [h _ _ (by omega)]; exact t4 k hk
  · have := cov s hs
    rw [h _ _ (by omega)]; exact t5 s hs
  · rw [h _ _ (by omega), h _ _ (by omega)]; exact e14
  · rw [h _ _ (by omega), h _ _ (by omega)]; exact hout s hs hc
theorem aI_n4 {o : Nat} (h : o ≠ 2) : aI o ≠ -4 := by
  unfold aI
  rw [if_neg h]
  split <;> decide
section SO
variable {L : Nat} {xs : Nat → Int32} {t d : Nat} {dy : List sh_T} {M : mm_T} {Q : Option Value → sm_W → Prop} {n G : Nat}
theorem mst_n {v : Int32} (h1 : ¬ v < 1) (h2 : ¬ 1000 < v) : ∃ mo, v = nI mo ∧ 1 ≤ mo ∧ mo ≤ 1000 := by
  have v0 : ¬ v < 0 := fun q => h1 (Int32.lt_trans q (by decide))
  obtain ⟨m, hm, rfl⟩ := nI_ofm (m := 1000) v0 (Int32.not_lt.mp h2) (by decide)
  refine ⟨m, rfl, ?_, hm⟩
  by_cases z : m = 0
  · subst z; exact absurd (by decide) h1
  · omega
set_option maxHeartbeats 400000 in
theorem R_sv {Ma M3 Mx Ms Mr Mc Me M' : mm_T} {s : Nat × (Nat → Int32)} {cs : List Nat} {E : Nat → lT} {P w : Nat → Nat} {D : sD} {lim p : Nat} {fs : List (Nat → Int64)} (hG : rG Ma n) (hL : rL dy Ma E P w n) (hQ : rQ Ma) (hS : rS Ma) (n4 : ∀ i, i < 6 → Ma.1 3 i = Ma.1 84 i) (n5 : s.1 ≤ 204120 * t) (hlen : cs.length ≤ 204120) (hd : dOK D) (ord : ∀ e, e < D.1.length → ∃ k, k < D.1.length ∧ D.2.2.1 k = e)
    (g : gaF Ma M3 28 0) (c3 : cTr M3 (trc s cs)) (hD3 : cD M3 28 D)
    (hx : Mx = m_setI (m_setI (m_setI (m_setI M3 28 15 0) 28 16 (nI lim)) 0 7 0) 0 8 (nI D.1.length)) (f : svF Mx Ms) (kd : dK Ms D fs) (e15 : Ms.1 28 15 = nI p) (hr : Mr = m_setI (tlM Ms 28 (nI fs.length)) 65 19 0)
    (bf : bF Mr Mc 1) (mt : mTr Mc (trc s cs)) (h98 : Mc.1 98 1 = M3.1 28 14) (he : Me = m_setI (m_setI Mc 65 58 0) 65 59 (nI D.1.length)) (wf : wFr Me M' 1 D) (kr : rK M' D fs) : rR (t + 1) dy (goM M' p fs.length (nI D.1.length) (Me.1 98 1)) := by
  obtain ⟨g1, g2, g3, g4, g5⟩ := g
  rw [if_pos rfl] at g5
  obtain ⟨f1, f2, f3, f4, f5, f6⟩ := f
  obtain ⟨h1, h2, h3, h4, h5, h6, h7, h8, h9⟩ := bf
  obtain ⟨⟨w1, w2, w3, w4⟩, w5, w6, w7, w8⟩ := wf
  obtain ⟨MF, hMF⟩ : ∃ MF, goM M' p fs.length (nI D.1.length) (Me.1 98 1) = MF := ⟨_, rfl⟩
  rw [hMF]
  have mF : MF.2 = M'.2 := by rw [← hMF]; rfl
  -- the desk
  have x1 : ∀ a i, ¬ (a = 28 ∧ (i = 15 ∨ i = 16)) → ¬ (a = 0 ∧ (i = 7 ∨ i = 8)) → Mx.1 a i = M3.1 a i := fun a i p1 p2 => by
    rw [hx, mI_at, if_neg (by omega), mI_at, if_neg (by omega), mI_at, if_neg (by omega), mI_at, if_neg (by omega)]
  have x2 : Mx.2 = M3.2 := by rw [hx]; rfl
  have r1 : ∀ a i, ¬ (a = 0 ∧ i = 12) → ¬ (a = 44 ∧ i ≤ 3) → ¬ (a = 65 ∧ i = 19) → Mr.1 a i = Ms.1 a i := fun a i p1 p2 p3 => by
    rw [hr, mI_at, if_neg p3, tl_at _ _ _ _ _ p1 p2]
  have r2 : Mr.2 = Ms.2 := by rw [hr]; rfl
  have F1 : ∀ a i, a ≤ 64 → MF.1 a i = Mr.1 a i := fun a i q => by
    rw [← hMF, go_at _ _ _ _ _ _ _ (by omega), w2 a (by omega) (by omega) (by omega) (by omega) (by omega), he, mI_ne _ _ _ (by omega), mI_ne _ _ _ (by omega), h2 a (by omega)]
  have F2 : ∀ a i, a ≠ 0 → a ≠ 28 → a ≠ 38 → a ≠ 39 → ¬ (a = 44 ∧ i ≤ 3) → ¬ (a = 65 ∧ i = 19) → Mr.1 a i = M3.1 a i := fun a i p0 p1 p2 p3 p4 p5 => by
    rw [r1 a i (by omega) p4 p5, f2 a p0 p1 p2 p3, x1 a i (by omega) (by omega)]
  have F3 : ∀ a i, a ≠ 1 → a ≠ 2 → a ≠ 3 → (a < 28 ∨ 42 < a) → M3.1 a i = Ma.1 a i := fun a i p1 p2 p3 p4 => by rw [g2 a p1 p2 p3 (by omega)]
  have F0 : ∀ i, i ≠ 7 → i ≠ 8 → i ≠ 12 → Mr.1 0 i = Ma.1 0 i := fun i p1 p2 p3 => by
    rw [r1 0 i (by omega) (by omega) (by omega), f3 i p1, x1 0 i (by omega) (by omega), F3 0 i (by omega) (by omega) (by omega) (by omega)]
  have F5 : ∀ a i, 4 ≤ a → a ≤ 64 → (a < 28 ∨ 44 < a) → MF.1 a i = Ma.1 a i := fun a i p1 p2 p3 => by
    rw [F1 a i p2, F2 a i (by omega) (by omega) (by omega) (by omega) (by omega) (by omega), F3 a i (by omega) (by omega) (by omega) (by omega)]
  -- the reference
  have K1 : ∀ a i, 66 ≤ a → Mr.1 a i = Ma.1 a i := fun a i p => by
    rw [F2 a i (by omega) (by omega) (by omega) (by omega) (by omega) (by omega), F3 a i (by omega) (by omega) (by omega) (by omega)]
  have K65 : ∀ i, i ≠ 19 → Mr.1 65 i = Ma.1 65 i := fun i p => by
    rw [F2 65 i (by omega) (by omega) (by omega) (by omega) (by omega) (by omega), F3 65 i (by omega) (by omega) (by omega) (by omega)]
  have K2 : ∀ a i, (66 ≤ a ∧ a ≤ 84) ∨ 109 ≤ a → MF.1 a i = Ma.1 a i := fun a i p => by
    rw [← hMF, go_at _ _ _ _ _ _ _ (by omega), w2 a (by omega) (by omega) (by omega) (by omega) (by omega), he, mI_ne _ _ _ (by omega), mI_ne _ _ _ (by omega), h2 a (by omega), K1 a i (by omega)]
  have M65 : ∀ i, i ≠ 58 → i ≠ 59 → i ≠ 23 → (i < 53 ∨ 56 < i) → MF.1 65 i = Mc.1 65 i := fun i p1 p2 p3 p4 => by
    rw [← hMF, go_at _ _ _ _ _ _ _ (by omega), w3 i p1, he, mI_at, if_neg (by omega), mI_at, if_neg (by omega)]
  have C65 : ∀ i, i ≠ 22 → i ≠ 24 → i ≠ 31 → i ≠ 32 → i ≠ 19 → Mc.1 65 i = Ma.1 65 i := fun i p1 p2 p3 p4 p5 => by rw [h3 i p1 p2 p3 p4, K65 i p5]
  have lE : Me.2 = Mc.2 := by rw [he]; rfl
  have L1 : ∀ a, a ≠ 104 → a ≠ 109 → a ≠ 65 → a ≠ 88 → a ≠ 90 → a ≠ 99 → (a < 28 ∨ 43 < a) → MF.2.1 a = Ma.2.1 a := fun a p1 p2 p3 p4 p5 p6 p7 => by
    rw [mF, w4 a p1 p2, lE, h4 a p3 p4 p5 p6, r2, f4 a (by omega), x2, g3 a (by omega)]
  have m3 : MF.2.2 = Ma.2.2 := by rw [mF, w1, lE, h1, r2, f1, x2, g1]
  have t12 : MF.1 0 12 = Ma.1 0 12 + nI p := by
    rw [F1 _ _ (by omega), hr, ← e15]
    show Ms.1 0 12 + Ms.1 28 15 = _
    rw [f3 12 (by decide), x1 0 12 (by omega) (by omega), F3 0 12 (by omega) (by omega) (by omega) (by omega)]
  have m14 : Ms.1 28 14 = M3.1 28 14 := by rw [f5, x1 _ _ (by omega) (by omega)]
  have s29 : Ms.1 29 4 = nI D.1.length := by rw [f2 29 (by decide) (by decide) (by decide) (by decide), x1 _ _ (by omega) (by omega)]; exact hD3.1.1
  have e98 : Me.1 98 1 = M3.1 28 14 := by rw [he, mI_ne _ _ _ (by decide), mI_ne _ _ _ (by decide)]; exact h98
  refine ⟨trc s cs, E, P, w, n, rG_fr hG (Nat.le_refl n) (fun a i h => ?_) (by rw [m3]), ?_, rL_fr hL (fun a i h => ?_) (fun a h => L1 a (by omega) (by omega) (by omega) (by omega) (by omega) (by omega) (by omega)) (by rw [m3]), rS_f2 hS (fun a i h => ?_) (fun a h => L1 a (by omega) (by omega) (by omega) (by omega) (by omega) (by omega) (by omega)) (fun i hi => ?_) (fun i hi => ?_), ?_⟩
  · by_cases q : a ≤ 64
    · exact F5 a i (by omega) q (by omega)
    · exact K2 a i (by omega)
  · have f13 : ∀ a i, a = 1 ∨ a = 2 ∨ a = 3 → MF.1 a i = M3.1 a i := fun a i q => by rw [F1 a i (by omega), F2 a i (by omega) (by omega) (by omega) (by omega) (by omega) (by omega)]
    refine ⟨cTr_ex (fun a i q => f13 a i (by omega)) c3, mTr_ex (fun a i q => ?_) mt, ?_, fun i hi => ?_, by rw [trc_len]; omega⟩
    · by_cases z : a = 65
      · subst z; exact M65 i (by omega) (by omega) (by omega) (by omega)
      · rw [← hMF, go_at _ _ _ _ _ _ _ (by omega), w2 a (by omega) (by omega) (by omega) (by omega) (by omega), he, mI_ne _ _ _ (by omega), mI_ne _ _ _ (by omega)]
    · rw [f13 _ _ (by omega), g4, M65 19 (by decide) (by decide) (by decide) (by decide), h3 19 (by decide) (by decide) (by decide) (by decide), hr]
      rfl
    · rw [f13 _ _ (by omega), g5, K2 _ _ (by omega)]
      exact n4 i hi
  · by_cases q : a ≤ 64
    · exact F5 a i (by omega) q (by omega)
    · by_cases z : a = 65
      · subst z
        rw [M65 i (by omega) (by omega) (by omega) (by omega), C65 i (by omega) (by omega) (by omega) (by omega) (by omega)]
      · exact K2 a i (by omega)
  · have own : ∀ a i, 66 ≤ a → M'.1 a i = Me.1 a i → Mc.1 a i = Mr.1 a i → MF.1 a i = Ma.1 a i := fun a i p mid low => by
      have up : MF.1 a i = M'.1 a i := by rw [← hMF, go_at _ _ _ _ _ _ _ (fun z => by omega)]
      have ec : Me.1 a i = Mc.1 a i := by rw [he, mI_ne _ _ _ (by omega), mI_ne _ _ _ (by omega)]
      rw [up, mid, ec, low, K1 a i p]
    have w2' : ∀ a i, a ≠ 65 → a ≠ 97 → a ≠ 103 → a ≠ 105 → a ≠ 106 → M'.1 a i = Me.1 a i := fun a i p1 p2 p3 p4 p5 => by rw [w2 a p1 p2 p3 p4 p5]
    rcases h with ⟨rfl, h⟩ | h | rfl | ⟨rfl | rfl | rfl, k⟩ | ⟨rfl | rfl | rfl | rfl | rfl, k⟩ | ⟨rfl, k⟩ | ⟨rfl, k⟩ | ⟨rfl, h⟩
    · rw [F1 _ _ (by decide), F0 i (by omega) (by omega) (by omega)]
    · exact F5 a i (by omega) (by omega) (by omega)
    · exact K2 _ i (by decide)
    · exact own _ i (by decide) (w2' _ i (by decide) (by decide) (by decide) (by decide) (by decide)) (h5 i (by omega)).1
    · exact own _ i (by decide) (w5 i (by omega)) (h5 i (by omega)).2.1
    · exact own _ i (by decide) (w2' _ i (by decide) (by decide) (by decide) (by decide) (by decide)) (h5 i (by omega)).2.2
    · exact own _ i (by decide) (w2' _ i (by decide) (by decide) (by decide) (by decide) (by decide)) (h6 i (by omega)).1
    · exact own _ i (by decide) (w2' _ i (by decide) (by decide) (by decide) (by decide) (by decide)) (h6 i (by omega)).2.1
    · exact own _ i (by decide) (w6 i (by omega)).1 (h6 i (by omega)).2.2.1
    · exact own _ i (by decide) (w6 i (by omega)).2.1 (by rw [h2 105 (by decide)])
    · exact own _ i (by decide) (w2' _ i (by decide) (by decide) (by decide) (by decide) (by decide)) (h6 i (by omega)).2.2.2
    · exact own _ i (by decide) (w7 i (fun s2 _ q2 => by omega)) (h7 i (by omega))
    · exact own _ i (by decide) (w2' _ i (by decide) (by decide) (by decide) (by decide) (by decide)) (h8 i (by omega))
    · rw [M65 i (by omega) (by omega) (by omega) (by omega), C65 i (by omega) (by omega) (by omega) (by omega) (by omega)]
  · rw [mF, w4 99 (by decide) (by decide), lE, (h9 i (by omega)).1, r2, f4 99 (by omega), x2, g3 99 (by omega)]
  · rw [mF, (w6 i (by omega)).2.2, lE, h4 104 (by decide) (by decide) (by decide) (by decide), r2, f4 104 (by omega), x2, g3 104 (by omega)]
  · obtain ⟨-, -, q12, q13⟩ := hQ
    have l43 : MF.2.1 43 = Ms.2.1 43 := by rw [mF, w4 43 (by decide) (by decide), lE, h4 43 (by decide) (by decide) (by decide) (by decide), r2]
    have c23 : M'.1 65 23 = Ma.1 65 23 := by rw [w3 23 (by decide), he, mI_at, if_neg (by omega), mI_at, if_neg (by omega), C65 23 (by decide) (by decide) (by decide) (by decide) (by decide)]
    refine ⟨⟨min fs.length 3, D.1.length, Nat.min_le_right _ _, hd.1, ?_, ?_, ?_, ?_, fun j e hj hE => ?_⟩, ⟨?_, ?_, ?_, ?_⟩, ?_, ?_⟩
    · rw [F1 _ _ (by omega), r1 _ _ (by omega) (by omega) (by omega)]; exact kd.1
    · rw [← hMF]
      exact kr.1
    · rw [F1 _ _ (by omega), r1 _ _ (by omega) (by omega) (by omega), f3 8 (by decide), hx]
      rfl
    · rw [← hMF, go_at _ _ _ _ _ _ _ (by omega), w3 59 (by decide), he]
      rfl
    · obtain ⟨k, hk, rfl⟩ := ord e hE
      have hj2 : j < fs.length := by omega
      obtain ⟨tk, htk⟩ : ∃ tk, fs[j]? = some tk := ⟨_, List.getElem?_eq_getElem hj2⟩
      rw [l43, kd.2 j tk (by omega) htk k hk, mF]
      exact (kr.2 j tk (by omega) htk k hk).symm
    · rw [F1 _ _ (by omega), hr, ← hMF]
      exact e15
    · rw [F1 _ _ (by omega), hr, ← hMF]
      rfl
    · rw [F1 _ _ (by omega), hr, ← hMF]
      exact s29
    · rw [F1 _ _ (by omega), hr, ← hMF, e98, ← m14]
      rfl
    · rw [t12, ← hMF, q12, ← c23]
      rfl
    · rw [F1 _ _ (by omega), F0 13 (by decide) (by decide) (by decide), M65 61 (by decide) (by decide) (by decide) (by decide), C65 61 (by decide) (by decide) (by decide) (by decide) (by decide)]
      exact q13
end SO
