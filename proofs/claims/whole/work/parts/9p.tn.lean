/-! the reference turns a grid -/
theorem ifc {P Q : Prop} [Decidable P] [Decidable Q] {x y : Int32} (h : P ↔ Q) : (if P then x else y) = (if Q then x else y) := by
  by_cases p : P
  · rw [if_pos p, if_pos (h.mp p)]
  · rw [if_neg p, if_neg (fun q => p (h.mpr q))]
def tmI (M : mm_T) (G H W : Nat) (hs hr hu : Nat → Int32) (i j : Nat) : Prop := ∀ a b, a < H → b < W →
  M.1 70 (49 * G + (b * 7 + (H - 1 - a))) = (if a < i ∨ (a = i ∧ b < j) then hs (a * 7 + b) else 0) ∧
  M.1 72 (49 * G + (b * 7 + (H - 1 - a))) = (if (a < i ∨ (a = i ∧ b < j)) ∧ ¬ hr (a * 7 + b) = 0 ∧ b + 1 < W then 1 else 0) ∧
  M.1 71 (49 * G + (b * 7 + (H - 1 - a))) = (if 1 ≤ a ∧ (a - 1 < i ∨ (a - 1 = i ∧ b < j)) ∧ ¬ hu ((a - 1) * 7 + b) = 0 then 1 else 0)
/-- signs and bars of grid G are as they must be -/
def msG (M : mm_T) (G : Nat) : Prop := ∀ s, s < 49 → (∃ n, n < 32 ∧ M.1 70 (49 * G + s) = nI n) ∧ (M.1 71 (49 * G + s) = 0 ∨ M.1 71 (49 * G + s) = 1) ∧ (M.1 72 (49 * G + s) = 0 ∨ M.1 72 (49 * G + s) = 1)
theorem msG_0 {M : mm_T} {G s m : Nat} (h : msG M G) (hm : m < 32) : msG (m_setI M 70 (49 * G + s) (nI m)) G := by
  intro k hk
  obtain ⟨h1, h2, h3⟩ := h k hk
  refine ⟨?_, h2, h3⟩
  rw [mI_at]
  split
  · exact ⟨m, hm, rfl⟩
  · exact h1
theorem msG_1 {M : mm_T} {G s : Nat} {v : Int32} (h : msG M G) (hv : v = 0 ∨ v = 1) : msG (m_setI M 71 (49 * G + s) v) G ∧ msG (m_setI M 72 (49 * G + s) v) G := by
  constructor
  · intro k hk
    obtain ⟨h1, h2, h3⟩ := h k hk
    refine ⟨h1, ?_, h3⟩
    rw [mI_at]
    split
    · exact hv
    · exact h2
  · intro k hk
    obtain ⟨h1, h2, h3⟩ := h k hk
    refine ⟨h1, h2, ?_⟩
    rw [mI_at]
    split
    · exact hv
    · exact h3
theorem tm_row {M : mm_T} {G H W i : Nat} {hs hr hu : Nat → Int32} (h : tmI M G H W hs hr hu i W) : tmI M G H W hs hr hu (i + 1) 0 := by
  intro a b ha hb
  obtain ⟨h1, h2, h3⟩ := h a b ha hb
  refine ⟨?_, ?_, ?_⟩
  · rw [h1]; exact ifc (by omega)
  · rw [h2]; exact ifc (by constructor <;> (intro q; exact ⟨by omega, q.2⟩))
  · rw [h3]; exact ifc (by constructor <;> (intro q; exact ⟨q.1, by omega, q.2.2⟩))
theorem tm_step {M M' : mm_T} {G H W i j : Nat} {hs hr hu : Nat → Int32} (h : tmI M G H W hs hr hu i j) (hi : i < H) (hj : j < W) (hH : H ≤ 7) (hW : W ≤ 7)
    (e1 : M'.1 70 (49 * G + (j * 7 + (H - 1 - i))) = hs (i * 7 + j)) (f1 : ∀ s, s ≠ 49 * G + (j * 7 + (H - 1 - i)) → M'.1 70 s = M.1 70 s)
    (e2 : M'.1 72 (49 * G + (j * 7 + (H - 1 - i))) = if ¬ hr (i * 7 + j) = 0 ∧ j + 1 < W then 1 else 0) (f2 : ∀ s, s ≠ 49 * G + (j * 7 + (H - 1 - i)) → M'.1 72 s = M.1 72 s)
    (e3 : i + 1 < H → ¬ hu (i * 7 + j) = 0 → M'.1 71 (49 * G + (j * 7 + (H - 1 - (i + 1)))) = 1) (f3 : ∀ s, (i + 1 < H → ¬ hu (i * 7 + j) = 0 → s ≠ 49 * G + (j * 7 + (H - 1 - (i + 1)))) → M'.1 71 s = M.1 71 s) : tmI M' G H W hs hr hu i (j + 1) := by
  intro a b ha hb
  obtain ⟨h1, h2, h3⟩ := h a b ha hb
  refine ⟨?_, ?_, ?_⟩
  · by_cases q : a = i ∧ b = j
    · obtain ⟨rfl, rfl⟩ := q
      rw [e1, if_pos (by omega)]
    · rw [f1 _ (by omega), h1]
      exact ifc (by omega)
  · by_cases q : a = i ∧ b = j
    · obtain ⟨rfl, rfl⟩ := q
      rw [e2]
      exact ifc (by constructor <;> (intro q; first | exact ⟨by omega, q⟩ | exact q.2))
    · rw [f2 _ (by omega), h2]
      exact ifc (by constructor <;> (intro q; exact ⟨by omega, q.2⟩))
  · by_cases q : a = i + 1 ∧ b = j
    · obtain ⟨rfl, rfl⟩ := q
      by_cases z : hu (i * 7 + b) = 0
      · rw [f3 _ (fun _ g => absurd z g), h3, if_neg (fun g => by have := g.2.1; omega), if_neg (fun g => g.2.2 (by rw [Nat.add_sub_cancel]; exact z))]
      · rw [e3 ha z, if_pos ⟨by omega, by omega, by rw [Nat.add_sub_cancel]; exact z⟩]
    · rw [f3 _ (fun g _ => by omega), h3]
      exact ifc (by constructor <;> (intro q; exact ⟨q.1, by omega, q.2.2⟩))
section TN
variable {L : Nat} {xs : Nat → Int32} {t d : Nat} {dy : List sh_T} {M : mm_T} {Q : Option Value → sm_W → Prop} {n G : Nat}
abbrev lvT (G H W i j : Nat) : sm_L := [(0, .ref 65), (1, .int (nI G)), (3, .int (nI H)), (4, .int (nI W)), (5, .int (nI i)), (6, .int (nI j))]
theorem x_h1 {H i : Nat} (hi : i < H) : nI H - 1 - nI i = nI (H - 1 - i) := by
  rw [show (1 : Int32) = nI 1 from rfl, pk_sub (by omega), pk_sub (by omega)]
theorem x_h2 {H i : Nat} (hi : i + 1 < H) : nI H - 2 - nI i = nI (H - 1 - (i + 1)) := by
  rw [show (2 : Int32) = nI 2 from rfl, pk_sub (by omega), pk_sub (by omega)]
  congr 1
  omega
set_option maxRecDepth 4000 in
set_option maxHeartbeats 2000000 in
theorem l_tnM {H W : Nat} {hs hr hu : Nat → Int32} (hG : G < 4) (hH7 : H ≤ 7) (hW7 : W ≤ 7) (e111 : ∀ s, s < 49 → M.1 111 s = hs s ∧ M.1 112 s = hr s ∧ M.1 113 s = hu s) (hok : ∀ s, s < 49 → (∃ n, n < 32 ∧ hs s = nI n) ∧ (hr s = 0 ∨ hr s = 1) ∧ (hu s = 0 ∨ hu s = 1))
    (hq : ∀ M', qFr M M' G → msG M' G → tmI M' G H W hs hr hu H 0 → sm_X L xs (d + 1) 222 17 (sm_code 222 17) [(0, .ref 65), (1, .int (nI G)), (3, .int (nI H)), (4, .int (nI W))] [] (wm (sh0 ++ dy) M') Q)
    (h0 : msG M G) (t0 : tmI M G H W hs hr hu 0 0) : sm_X L xs (d + 1) 222 5 (sm_code 222 5) [(0, .ref 65), (1, .int (nI G)), (3, .int (nI H)), (4, .int (nI W)), (5, .int (nI 0))] [] (wm (sh0 ++ dy) M) Q := by
  refine loop_dn (P := fun i => ∀ M1, qFr M M1 G → msG M1 G → tmI M1 G H W hs hr hu i 0 → sm_X L xs (d + 1) 222 5 (sm_code 222 5) [(0, .ref 65), (1, .int (nI G)), (3, .int (nI H)), (4, .int (nI W)), (5, .int (nI i))] [] (wm (sh0 ++ dy) M1) Q) H ?_ ?_ M (qFr_rfl M G) h0 t0
  · intro M1 f1 f2 f3
    have g : nI H ≤ nI H := Int32.le_refl _
    have fin := hq M1 f1 f2 f3
    refine x_opp rfl rfl ?_
    refine x_opp rfl rfl ?_
    refine a_icT rfl rfl br_ge (by first | exact g | exact nt_f g | exact tnf g | exact fnt g | exact Int32.not_lt.mp g | exact Int32.not_le.mp g | exact Int32.not_lt.mpr g | exact Int32.not_le.mpr g) ?_
    refine x_lvs [(0, .ref 65), (1, .int (nI G)), (3, .int (nI H)), (4, .int (nI W))] rfl rfl rfl ⟨rfl, rfl, rfl, rfl, trivial⟩ ?_
    exact fin
  · intro i hi ih M1 f1 f2 f3
    have g : ¬ nI H ≤ nI i := nI_ge hi (by omega)
    have inner : ∀ M2, qFr M M2 G → msG M2 G → tmI M2 G H W hs hr hu i 0 → sm_X L xs (d + 1) 222 7 (sm_code 222 7) (lvT G H W i 0) [] (wm (sh0 ++ dy) M2) Q := by
      refine loop_dn (P := fun j => ∀ M2, qFr M M2 G → msG M2 G → tmI M2 G H W hs hr hu i j → sm_X L xs (d + 1) 222 7 (sm_code 222 7) (lvT G H W i j) [] (wm (sh0 ++ dy) M2) Q) W ?_ ?_
      · intro M2 k1 k2 k3
        have g2 : nI W ≤ nI W := Int32.le_refl _
        have fin := ih M2 k1 k2 (tm_row k3)
        refine x_opp rfl rfl ?_
        refine x_opp rfl rfl ?_
        refine a_icT rfl rfl br_ge (by first | exact g2 | exact nt_f g2 | exact tnf g2 | exact fnt g2 | exact Int32.not_lt.mp g2 | exact Int32.not_le.mp g2 | exact Int32.not_lt.mpr g2 | exact Int32.not_le.mpr g2) ?_
        first | refine x_incg rfl rfl ?_ | refine x_opp rfl rfl ?_
        refine x_go rfl ?_
        refine x_lvs [(0, .ref 65), (1, .int (nI G)), (3, .int (nI H)), (4, .int (nI W)), (5, .int (nI (i + 1)))] rfl rfl rfl ⟨rfl, rfl, rfl, rfl, rfl, trivial⟩ ?_
        exact fin
      · intro j hj ih2 M2 k1 k2 k3
        have g2 : ¬ nI W ≤ nI j := nI_ge hj (by omega)
        obtain ⟨e1, e2, e3⟩ := e111 (i * 7 + j) (by omega)
        obtain ⟨⟨m, hm, em⟩, o2, o3⟩ := hok (i * 7 + j) (by omega)
        have r1 : M2.1 111 (i * 7 + j) = hs (i * 7 + j) := by rw [k1.2.1 111 (by omega)]; exact e1
        have r2 : M2.1 112 (i * 7 + j) = hr (i * 7 + j) := by rw [k1.2.1 112 (by omega)]; exact e2
        have r3 : M2.1 113 (i * 7 + j) = hu (i * 7 + j) := by rw [k1.2.1 113 (by omega)]; exact e3
        have x7 : 7 * nI i + nI j = nI (i * 7 + j) := by rw [rw_eq, Nat.mul_comm]
        have xw : nI W - 1 = nI (W - 1) := pk_sub (b := 1) (by omega)
        have xh : nI H - 1 = nI (H - 1) := pk_sub (b := 1) (by omega)
        -- behind the third bar
        have last : ∀ M5, qFr M M5 G → msG M5 G → tmI M5 G H W hs hr hu i (j + 1) → sm_X L xs (d + 1) 222 15 (sm_code 222 15) (lvT G H W i j) [] (wm (sh0 ++ dy) M5) Q := by
          intro M5 q1 q2 q3
          have fin := ih2 M5 q1 q2 q3
          first | refine x_incg rfl rfl ?_ | refine x_opp rfl rfl ?_
          refine x_go rfl ?_
          refine x_lvs [(0, .ref 65), (1, .int (nI G)), (3, .int (nI H)), (4, .int (nI W)), (5, .int (nI i)), (6, .int (nI (j + 1)))] rfl rfl rfl ⟨rfl, rfl, rfl, rfl, rfl, rfl, trivial⟩ ?_
          exact fin
        -- with the bar below
        have mid : ∀ z : Int32, z = (if ¬ hr (i * 7 + j) = 0 ∧ j + 1 < W then 1 else 0) → sm_X L xs (d + 1) 222 12 (sm_code 222 12) [(0, .ref 65), (1, .int (nI G)), (3, .int (nI H)), (4, .int (nI W)), (5, .int (nI i)), (6, .int (nI j)), (7, .int (nI (i * 7 + j)))] [.int z, .int (nI (49 * G + (j * 7 + (H - 1 - i)))), .ref 72] (wm (sh0 ++ dy) (m_setI M2 70 (49 * G + (j * 7 + (H - 1 - i))) (hs (i * 7 + j)))) Q := by
          intro z hz
          have z01 : z = 0 ∨ z = 1 := by rw [hz]; split <;> first | exact Or.inr rfl | exact Or.inl rfl
          obtain ⟨M4, hM4⟩ : ∃ M4, m_setI (m_setI M2 70 (49 * G + (j * 7 + (H - 1 - i))) (hs (i * 7 + j))) 72 (49 * G + (j * 7 + (H - 1 - i))) z = M4 := ⟨_, rfl⟩
          have q4 : qFr M M4 G := by rw [← hM4]; exact qFr_set (qFr_set k1 (by decide) (by omega)) (by decide) (by omega)
          have m4 : msG M4 G := by rw [← hM4, em]; exact (msG_1 (msG_0 k2 hm) z01).2
          have a70 : M4.1 70 (49 * G + (j * 7 + (H - 1 - i))) = hs (i * 7 + j) ∧ ∀ s, s ≠ 49 * G + (j * 7 + (H - 1 - i)) → M4.1 70 s = M2.1 70 s := by
            rw [← hM4]
            exact ⟨by rw [mI_ne _ _ _ (by decide), mI_at, if_pos ⟨rfl, rfl⟩], fun s hs => by rw [mI_ne _ _ _ (by decide), mI_at, if_neg (fun h => hs h.2)]⟩
          have a72 : M4.1 72 (49 * G + (j * 7 + (H - 1 - i))) = z ∧ ∀ s, s ≠ 49 * G + (j * 7 + (H - 1 - i)) → M4.1 72 s = M2.1 72 s := by
            rw [← hM4]
            exact ⟨by rw [mI_at, if_pos ⟨rfl, rfl⟩], fun s hs => by rw [mI_at, if_neg (fun h => hs h.2), mI_ne _ _ _ (by decide)]⟩
          have a71 : ∀ s, M4.1 71 s = M2.1 71 s := fun s => by rw [← hM4, mI_ne _ _ _ (by decide), mI_ne _ _ _ (by decide)]
          have r3' : M4.1 113 (i * 7 + j) = hu (i * 7 + j) := by rw [q4.2.1 113 (by omega)]; exact e3
          by_cases c1 : hu (i * 7 + j) = 0
          · have fin := last M4 q4 m4 (tm_step k3 hi hj hH7 hW7 a70.1 a70.2 (by rw [a72.1]; exact hz) a72.2 (fun _ g => absurd c1 g) (fun s _ => a71 s))
            refine a_bastN (s_72 dy) (k := 49 * G + (j * 7 + (H - 1 - i))) rfl rfl rfl (by omega) (by decide) (z01) ?_
            refine x_opp rfl rfl ?_
            refine m_getg (s_65 dy) rfl rfl rfl ?_
            refine x_opp rfl rfl ?_
            rw [hM4]
            refine a_baldN (s_113 dy) (k := i * 7 + j) rfl rfl rfl (by omega) (by decide) ?_
            rw [r3']
            refine a_ifT rfl rfl br_eq (by first | exact c1 | exact nt_f c1 | exact tnf c1 | exact fnt c1 | exact Int32.not_lt.mp c1 | exact Int32.not_le.mp c1 | exact Int32.not_lt.mpr c1 | exact Int32.not_le.mpr c1) ?_
            refine x_lvs [(0, .ref 65), (1, .int (nI G)), (3, .int (nI H)), (4, .int (nI W)), (5, .int (nI i)), (6, .int (nI j))] rfl rfl rfl ⟨rfl, rfl, rfl, rfl, rfl, rfl, trivial⟩ ?_
            exact fin
          · by_cases c2 : i + 1 < H
            · have g3 : ¬ nI (H - 1) ≤ nI i := nI_ge (by omega) (by omega)
              have fin := last (m_setI M4 71 (49 * G + (j * 7 + (H - 1 - (i + 1)))) 1) (qFr_set q4 (by decide) (by omega)) (msG_1 m4 (Or.inr rfl)).1 (tm_step k3 hi hj hH7 hW7 a70.1 a70.2 (by rw [mI_ne _ _ _ (by decide), a72.1]; exact hz) (fun s hs => by rw [mI_ne _ _ _ (by decide)]; exact a72.2 s hs) (fun _ _ => by rw [mI_at, if_pos ⟨rfl, rfl⟩]) (fun s hs => by rw [mI_at, if_neg (fun h => hs c2 c1 h.2)]; exact a71 s))
              refine a_bastN (s_72 dy) (k := 49 * G + (j * 7 + (H - 1 - i))) rfl rfl rfl (by omega) (by decide) (z01) ?_
              refine x_opp rfl rfl ?_
              refine m_getg (s_65 dy) rfl rfl rfl ?_
              refine x_opp rfl rfl ?_
              rw [hM4]
              refine a_baldN (s_113 dy) (k := i * 7 + j) rfl rfl rfl (by omega) (by decide) ?_
              rw [r3']
              refine a_ifF rfl rfl br_eq (by first | exact c1 | exact nt_f c1 | exact tnf c1 | exact fnt c1 | exact Int32.not_lt.mp c1 | exact Int32.not_le.mp c1 | exact Int32.not_lt.mpr c1 | exact Int32.not_le.mpr c1) ?_
              refine x_opp rfl rfl ?_
              refine x_opp rfl rfl ?_
              refine x_kcg rfl ?_
              refine x_opp rfl rfl ?_
              rw [xh]
              refine a_icF rfl rfl br_ge (by first | exact g3 | exact nt_f g3 | exact tnf g3 | exact fnt g3 | exact Int32.not_lt.mp g3 | exact Int32.not_le.mp g3 | exact Int32.not_lt.mpr g3 | exact Int32.not_le.mpr g3) ?_
              refine x_opp rfl rfl ?_
              refine m_getg (s_65 dy) rfl rfl rfl ?_
              iterate 3 (refine x_opp rfl rfl ?_)
              refine x_kcg rfl ?_
              iterate 3 (refine x_opp rfl rfl ?_)
              rw [x_h2 c2]
              refine a_callS rfl rfl rfl rfl (k_sq ?_)
              refine x_kcg rfl ?_
              refine a_bastN (s_71 dy) (k := 49 * G + (j * 7 + (H - 1 - (i + 1)))) rfl rfl rfl (by omega) (by decide) (by first | exact zz_01 _ | exact Or.inl rfl | exact Or.inr rfl) ?_
              refine x_go rfl ?_
              refine x_lvs [(0, .ref 65), (1, .int (nI G)), (3, .int (nI H)), (4, .int (nI W)), (5, .int (nI i)), (6, .int (nI j))] rfl rfl rfl ⟨rfl, rfl, rfl, rfl, rfl, rfl, trivial⟩ ?_
              exact fin
            · have g3 : nI (H - 1) ≤ nI i := nI_le (by omega) (by omega)
              have fin := last M4 q4 m4 (tm_step k3 hi hj hH7 hW7 a70.1 a70.2 (by rw [a72.1]; exact hz) a72.2 (fun g _ => absurd g c2) (fun s _ => a71 s))
              refine a_bastN (s_72 dy) (k := 49 * G + (j * 7 + (H - 1 - i))) rfl rfl rfl (by omega) (by decide) (z01) ?_
              refine x_opp rfl rfl ?_
              refine m_getg (s_65 dy) rfl rfl rfl ?_
              refine x_opp rfl rfl ?_
              rw [hM4]
              refine a_baldN (s_113 dy) (k := i * 7 + j) rfl rfl rfl (by omega) (by decide) ?_
              rw [r3']
              refine a_ifF rfl rfl br_eq (by first | exact c1 | exact nt_f c1 | exact tnf c1 | exact fnt c1 | exact Int32.not_lt.mp c1 | exact Int32.not_le.mp c1 | exact Int32.not_lt.mpr c1 | exact Int32.not_le.mpr c1) ?_
              refine x_opp rfl rfl ?_
              refine x_opp rfl rfl ?_
              refine x_kcg rfl ?_
              refine x_opp rfl rfl ?_
              rw [xh]
              refine a_icT rfl rfl br_ge (by first | exact g3 | exact nt_f g3 | exact tnf g3 | exact fnt g3 | exact Int32.not_lt.mp g3 | exact Int32.not_le.mp g3 | exact Int32.not_lt.mpr g3 | exact Int32.not_le.mpr g3) ?_
              refine x_lvs [(0, .ref 65), (1, .int (nI G)), (3, .int (nI H)), (4, .int (nI W)), (5, .int (nI i)), (6, .int (nI j))] rfl rfl rfl ⟨rfl, rfl, rfl, rfl, rfl, rfl, trivial⟩ ?_
              exact fin
        have s2 : (m_setI M2 70 (49 * G + (j * 7 + (H - 1 - i))) (hs (i * 7 + j))).1 112 (i * 7 + j) = hr (i * 7 + j) := by rw [mI_ne _ _ _ (by decide)]; exact r2
        by_cases c1 : hr (i * 7 + j) = 0
        · have fin := mid 0 (by rw [if_neg (fun h => h.1 c1)])
          refine x_opp rfl rfl ?_
          refine x_opp rfl rfl ?_
          refine a_icF rfl rfl br_ge (by first | exact g2 | exact nt_f g2 | exact tnf g2 | exact fnt g2 | exact Int32.not_lt.mp g2 | exact Int32.not_le.mp g2 | exact Int32.not_lt.mpr g2 | exact Int32.not_le.mpr g2) ?_
          refine x_kcg rfl ?_
          iterate 8 (refine x_opp rfl rfl ?_)
          refine x_kcg rfl ?_
          iterate 3 (refine x_opp rfl rfl ?_)
          rw [x7, x_h1 hi]
          refine a_callS rfl rfl rfl rfl (k_sq ?_)
          refine x_opp rfl rfl ?_
          refine x_opp rfl rfl ?_
          refine m_getg (s_65 dy) rfl rfl rfl ?_
          refine x_opp rfl rfl ?_
          refine x_opp rfl rfl ?_
          refine m_getg (s_65 dy) rfl rfl rfl ?_
          refine x_opp rfl rfl ?_
          refine a_ialdN (s_111 dy) (k := i * 7 + j) rfl rfl rfl (by omega) (by decide) ?_
          rw [r1]
          refine a_iastN (s_70 dy) (k := 49 * G + (j * 7 + (H - 1 - i))) rfl rfl rfl (by omega) (by decide) ?_
          refine x_opp rfl rfl ?_
          refine m_getg (s_65 dy) rfl rfl rfl ?_
          refine x_opp rfl rfl ?_
          refine x_opp rfl rfl ?_
          refine m_getg (s_65 dy) rfl rfl rfl ?_
          refine x_opp rfl rfl ?_
          refine a_baldN (s_112 dy) (k := i * 7 + j) rfl rfl rfl (by omega) (by decide) ?_
          rw [s2]
          refine a_ifT rfl rfl br_eq (by first | exact c1 | exact nt_f c1 | exact tnf c1 | exact fnt c1 | exact Int32.not_lt.mp c1 | exact Int32.not_le.mp c1 | exact Int32.not_lt.mpr c1 | exact Int32.not_le.mpr c1) ?_
          refine x_kcg rfl ?_
          refine x_go rfl ?_
          refine x_lvs [(0, .ref 65), (1, .int (nI G)), (3, .int (nI H)), (4, .int (nI W)), (5, .int (nI i)), (6, .int (nI j)), (7, .int (nI (i * 7 + j)))] rfl rfl rfl ⟨rfl, rfl, rfl, rfl, rfl, rfl, rfl, trivial⟩ ?_
          exact fin
        · by_cases c2 : j + 1 < W
          · have fin := mid 1 (by rw [if_pos ⟨c1, c2⟩])
            have g3 : ¬ nI (W - 1) ≤ nI j := nI_ge (by omega) (by omega)
            refine x_opp rfl rfl ?_
            refine x_opp rfl rfl ?_
            refine a_icF rfl rfl br_ge (by first | exact g2 | exact nt_f g2 | exact tnf g2 | exact fnt g2 | exact Int32.not_lt.mp g2 | exact Int32.not_le.mp g2 | exact Int32.not_lt.mpr g2 | exact Int32.not_le.mpr g2) ?_
            refine x_kcg rfl ?_
            iterate 8 (refine x_opp rfl rfl ?_)
            refine x_kcg rfl ?_
            iterate 3 (refine x_opp rfl rfl ?_)
            rw [x7, x_h1 hi]
            refine a_callS rfl rfl rfl rfl (k_sq ?_)
            refine x_opp rfl rfl ?_
            refine x_opp rfl rfl ?_
            refine m_getg (s_65 dy) rfl rfl rfl ?_
            refine x_opp rfl rfl ?_
            refine x_opp rfl rfl ?_
            refine m_getg (s_65 dy) rfl rfl rfl ?_
            refine x_opp rfl rfl ?_
            refine a_ialdN (s_111 dy) (k := i * 7 + j) rfl rfl rfl (by omega) (by decide) ?_
            rw [r1]
            refine a_iastN (s_70 dy) (k := 49 * G + (j * 7 + (H - 1 - i))) rfl rfl rfl (by omega) (by decide) ?_
            refine x_opp rfl rfl ?_
            refine m_getg (s_65 dy) rfl rfl rfl ?_
            refine x_opp rfl rfl ?_
            refine x_opp rfl rfl ?_
            refine m_getg (s_65 dy) rfl rfl rfl ?_
            refine x_opp rfl rfl ?_
            refine a_baldN (s_112 dy) (k := i * 7 + j) rfl rfl rfl (by omega) (by decide) ?_
            rw [s2]
            refine a_ifF rfl rfl br_eq (by first | exact c1 | exact nt_f c1 | exact tnf c1 | exact fnt c1 | exact Int32.not_lt.mp c1 | exact Int32.not_le.mp c1 | exact Int32.not_lt.mpr c1 | exact Int32.not_le.mpr c1) ?_
            refine x_opp rfl rfl ?_
            refine x_opp rfl rfl ?_
            refine x_kcg rfl ?_
            refine x_opp rfl rfl ?_
            rw [xw]
            refine a_icF rfl rfl br_ge (by first | exact g3 | exact nt_f g3 | exact tnf g3 | exact fnt g3 | exact Int32.not_lt.mp g3 | exact Int32.not_le.mp g3 | exact Int32.not_lt.mpr g3 | exact Int32.not_le.mpr g3) ?_
            refine x_kcg rfl ?_
            refine x_go rfl ?_
            refine x_lvs [(0, .ref 65), (1, .int (nI G)), (3, .int (nI H)), (4, .int (nI W)), (5, .int (nI i)), (6, .int (nI j)), (7, .int (nI (i * 7 + j)))] rfl rfl rfl ⟨rfl, rfl, rfl, rfl, rfl, rfl, rfl, trivial⟩ ?_
            exact fin
          · have fin := mid 0 (by rw [if_neg (fun h => c2 h.2)])
            have g3 : nI (W - 1) ≤ nI j := nI_le (by omega) (by omega)
            refine x_opp rfl rfl ?_
            refine x_opp rfl rfl ?_
            refine a_icF rfl rfl br_ge (by first | exact g2 | exact nt_f g2 | exact tnf g2 | exact fnt g2 | exact Int32.not_lt.mp g2 | exact Int32.not_le.mp g2 | exact Int32.not_lt.mpr g2 | exact Int32.not_le.mpr g2) ?_
            refine x_kcg rfl ?_
            iterate 8 (refine x_opp rfl rfl ?_)
            refine x_kcg rfl ?_
            iterate 3 (refine x_opp rfl rfl ?_)
            rw [x7, x_h1 hi]
            refine a_callS rfl rfl rfl rfl (k_sq ?_)
            refine x_opp rfl rfl ?_
            refine x_opp rfl rfl ?_
            refine m_getg (s_65 dy) rfl rfl rfl ?_
            refine x_opp rfl rfl ?_
            refine x_opp rfl rfl ?_
            refine m_getg (s_65 dy) rfl rfl rfl ?_
            refine x_opp rfl rfl ?_
            refine a_ialdN (s_111 dy) (k := i * 7 + j) rfl rfl rfl (by omega) (by decide) ?_
            rw [r1]
            refine a_iastN (s_70 dy) (k := 49 * G + (j * 7 + (H - 1 - i))) rfl rfl rfl (by omega) (by decide) ?_
            refine x_opp rfl rfl ?_
            refine m_getg (s_65 dy) rfl rfl rfl ?_
            refine x_opp rfl rfl ?_
            refine x_opp rfl rfl ?_
            refine m_getg (s_65 dy) rfl rfl rfl ?_
            refine x_opp rfl rfl ?_
            refine a_baldN (s_112 dy) (k := i * 7 + j) rfl rfl rfl (by omega) (by decide) ?_
            rw [s2]
            refine a_ifF rfl rfl br_eq (by first | exact c1 | exact nt_f c1 | exact tnf c1 | exact fnt c1 | exact Int32.not_lt.mp c1 | exact Int32.not_le.mp c1 | exact Int32.not_lt.mpr c1 | exact Int32.not_le.mpr c1) ?_
            refine x_opp rfl rfl ?_
            refine x_opp rfl rfl ?_
            refine x_kcg rfl ?_
            refine x_opp rfl rfl ?_
            rw [xw]
            refine a_icT rfl rfl br_ge (by first | exact g3 | exact nt_f g3 | exact tnf g3 | exact fnt g3 | exact Int32.not_lt.mp g3 | exact Int32.not_le.mp g3 | exact Int32.not_lt.mpr g3 | exact Int32.not_le.mpr g3) ?_
            refine x_kcg rfl ?_
            refine x_go rfl ?_
            refine x_lvs [(0, .ref 65), (1, .int (nI G)), (3, .int (nI H)), (4, .int (nI W)), (5, .int (nI i)), (6, .int (nI j)), (7, .int (nI (i * 7 + j)))] rfl rfl rfl ⟨rfl, rfl, rfl, rfl, rfl, rfl, rfl, trivial⟩ ?_
            exact fin
    have fin := inner M1 f1 f2 f3
    refine x_opp rfl rfl ?_
    refine x_opp rfl rfl ?_
    refine a_icF rfl rfl br_ge (by first | exact g | exact nt_f g | exact tnf g | exact fnt g | exact Int32.not_lt.mp g | exact Int32.not_le.mp g | exact Int32.not_lt.mpr g | exact Int32.not_le.mpr g) ?_
    refine x_kcg rfl ?_
    refine x_opp rfl rfl ?_
    refine x_go rfl ?_
    refine x_lvs [(0, .ref 65), (1, .int (nI G)), (3, .int (nI H)), (4, .int (nI W)), (5, .int (nI i)), (6, .int (nI 0))] rfl rfl rfl ⟨rfl, rfl, rfl, rfl, rfl, rfl, trivial⟩ ?_
    exact fin
end TN
