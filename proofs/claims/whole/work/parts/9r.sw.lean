/-! a grid of the desk is mirrored -/
theorem sw_dec : ∀ ca, ca < 128 → ∀ x, x < 2 → (nI (32 * x) ||| (nI ca &&& 95) = nI (32 * x + (ca % 32 + (if ca / 64 = 1 then 64 else 0)))) ∧ ((nI ca &&& 32 = 0) ↔ ca / 32 % 2 = 0) := by decide +kernel
def swX (ca : Nat → Nat) (i j a b : Nat) : Nat := if 1 ≤ b ∧ (a < i ∨ (a = i ∧ b - 1 < j)) ∧ ca (a * 7 + (b - 1)) / 32 % 2 = 1 then 1 else 0
def swT (ca : Nat → Nat) (a b : Nat) : Nat := ca (a * 7 + b) % 32 + (if ca (a * 7 + b) / 64 = 1 then 64 else 0)
def swY (ca : Nat → Nat) (i j a b : Nat) : Nat := if a < i ∨ (a = i ∧ b < j) then swT ca a b else 0
theorem ifn {P Q : Prop} [Decidable P] [Decidable Q] {x y : Nat} (h : P ↔ Q) : (if P then x else y) = (if Q then x else y) := by
  by_cases p : P
  · rw [if_pos p, if_pos (h.mp p)]
  · rw [if_neg p, if_neg (fun q => p (h.mpr q))]
theorem swX_lt (ca : Nat → Nat) (i j a b : Nat) : swX ca i j a b < 2 := by
  unfold swX
  split <;> omega
def swQ (M1 : mm_T) (sp H W : Nat) (ca : Nat → Nat) (i j : Nat) : Prop := ∀ a b, a < H → b < W → M1.1 sp (a * 7 + (W - 1 - b)) = nI (32 * swX ca i j a b + swY ca i j a b)
theorem sw_row {M : mm_T} {sp H W i : Nat} {ca : Nat → Nat} (h : swQ M sp H W ca i W) : swQ M sp H W ca (i + 1) 0 := by
  intro a b ha hb
  rw [h a b ha hb]
  have e1 : swX ca i W a b = swX ca (i + 1) 0 a b := by
    unfold swX
    exact ifn (by constructor <;> (intro q; exact ⟨q.1, by omega, q.2.2⟩))
  have e2 : swY ca i W a b = swY ca (i + 1) 0 a b := by
    unfold swY
    exact ifn (by omega)
  rw [e1, e2]
theorem sw_step {M M' : mm_T} {sp H W i j : Nat} {ca : Nat → Nat} (h : swQ M sp H W ca i j) (hi : i < H) (hj : j < W) (hH : H ≤ 7) (hW : W ≤ 7) (e1 : M'.1 sp (i * 7 + (W - 1 - j)) = nI (32 * swX ca i j i j + swT ca i j)) (e2 : j + 1 < W → ca (i * 7 + j) / 32 % 2 = 1 → M'.1 sp (i * 7 + (W - 1 - (j + 1))) = nI 32) (f : ∀ s, s ≠ i * 7 + (W - 1 - j) → (j + 1 < W → ca (i * 7 + j) / 32 % 2 = 1 → s ≠ i * 7 + (W - 1 - (j + 1))) → M'.1 sp s = M.1 sp s) : swQ M' sp H W ca i (j + 1) := by
  intro a b ha hb
  by_cases q : a = i ∧ b = j
  · obtain ⟨rfl, rfl⟩ := q
    rw [e1]
    have x1 : swX ca a (b + 1) a b = swX ca a b a b := by
      unfold swX
      exact ifn (by constructor <;> (intro q; exact ⟨q.1, by omega, q.2.2⟩))
    have x2 : swY ca a (b + 1) a b = swT ca a b := by
      unfold swY
      rw [if_pos (by omega)]
    rw [x1, x2]
  · have x2 : swY ca i (j + 1) a b = swY ca i j a b := by
      unfold swY
      exact ifn (by omega)
    rw [x2]
    by_cases q2 : a = i ∧ b = j + 1
    · obtain ⟨rfl, rfl⟩ := q2
      have y0 : swY ca a j a (j + 1) = 0 := by unfold swY; rw [if_neg (by omega)]
      rw [y0]
      by_cases z : ca (a * 7 + j) / 32 % 2 = 1
      · have x1 : swX ca a (j + 1) a (j + 1) = 1 := by
          unfold swX
          rw [if_pos ⟨by omega, by omega, by rw [Nat.add_sub_cancel]; exact z⟩]
        rw [e2 hb z, x1]
      · have x1 : swX ca a (j + 1) a (j + 1) = 0 := by
          unfold swX
          rw [if_neg (fun g => z (by have := g.2.2; rw [Nat.add_sub_cancel] at this; exact this))]
        have x0 : swX ca a j a (j + 1) = 0 := by
          unfold swX
          rw [if_neg (fun g => by have := g.2.1; omega)]
        rw [f _ (by omega) (fun _ g => absurd g z), h a (j + 1) ha hb, x0, x1, y0]
    · have x1 : swX ca i (j + 1) a b = swX ca i j a b := by
        unfold swX
        exact ifn (by constructor <;> (intro q; exact ⟨q.1, by omega, q.2.2⟩))
      rw [x1, f _ (by omega) (fun _ _ => by omega)]
      exact h a b ha hb
section SW
variable {L : Nat} {xs : Nat → Int32} {d : Nat} {sh : List sh_T} {M : mm_T} {Q : Option Value → sm_W → Prop} {g c l sp re : Nat}
set_option maxRecDepth 4000 in
set_option maxHeartbeats 1000000 in
theorem c_swap {H W : Nat} {ca : Nat → Nat} (hg : gSh sh g c l sp re) (hH : M.1 g 5 = nI H) (hH7 : H ≤ 7) (hW : M.1 g 6 = nI W) (hW7 : W ≤ 7) (hca : ∀ s, s < 49 → M.1 c s = nI (ca s) ∧ ca s < 128)
    (hq : ∀ M', M'.2 = M.2 → (∀ a, a ≠ g → a ≠ c → a ≠ l → a ≠ sp → M'.1 a = M.1 a) → (∀ a b, a < H → b < W → M'.1 c (a * 7 + (W - 1 - b)) = nI (32 * swX ca H 0 a b + swT ca a b)) → (∀ f, f ≠ 5 → f ≠ 6 → M'.1 g f = M.1 g f) → M'.1 g 5 = nI H → M'.1 g 6 = nI W → (∀ i, i < 7 → M'.1 l i = nI W) → (∀ s, s < 49 → ∃ v, v < 128 ∧ M'.1 c s = nI v) → Q none (wm sh M')) : sm_E L xs (d + 3) 136 [.ref g] (wm sh M) Q := by
  have hg' := hg
  obtain ⟨sg, sc, sl, ssp, sre, n1, n2, n3, n4, n5, n6, n7, n8, n9, n10⟩ := hg
  refine e_intro rfl rfl ?_
  have fz : ∀ s, s < 49 → (m_setA M sp (aFill (M.1 sp) 49 0)).1 sp s = 0 := fun s hs => by
    rw [mA_eq]
    unfold aFill
    rw [if_pos hs]
  refine x_opp rfl rfl ?_
  refine m_getg sg rfl rfl rfl ?_
  refine x_kcg rfl ?_
  refine a_callS rfl rfl rfl rfl (c_fill ssp (by decide) ?_)
  refine x_kcg rfl ?_
  refine x_opp rfl rfl ?_
  refine x_go rfl ?_
  refine x_lvs [(0, .ref g), (1, .int (nI 0))] rfl rfl rfl ⟨rfl, rfl, trivial⟩ ?_
  refine loop_dn (P := fun i => ∀ M1, M1.2 = M.2 → (∀ a, a ≠ sp → M1.1 a = M.1 a) → (∀ s, s < 49 → ∃ v, v < 128 ∧ M1.1 sp s = nI v) → swQ M1 sp H W ca i 0 → sm_X L xs (d + 2) 136 1 (sm_code 136 1) [(0, .ref g), (1, .int (nI i))] [] (wm sh M1) Q) H ?_ ?_ (m_setA M sp (aFill (M.1 sp) 49 0)) rfl (fun a ha => mA_ne _ _ ha) (fun s hs => ⟨0, by decide, fz s hs⟩) (fun a b ha hb => by
    have x0 : swX ca 0 0 a b = 0 := by unfold swX; rw [if_neg (fun g => by have := g.2.1; omega)]
    have y0 : swY ca 0 0 a b = 0 := by unfold swY; rw [if_neg (by omega)]
    rw [fz _ (by omega), x0, y0]
    rfl)
  · intro M1 f1 f2 f3 f4
    have e5 : M1.1 g 5 = nI H := by rw [f2 g (Ne.symm n4)]; exact hH
    have e6 : M1.1 g 6 = nI W := by rw [f2 g (Ne.symm n4)]; exact hW
    have g0 : nI H ≤ nI H := Int32.le_refl _
    refine x_opp rfl rfl ?_
    refine x_opp rfl rfl ?_
    refine m_getg sg rfl rfl rfl ?_
    rw [e5]
    refine a_icT rfl rfl br_ge (by first | exact g0 | exact nt_f g0 | exact tnf g0 | exact fnt g0 | exact Int32.not_lt.mp g0 | exact Int32.not_le.mp g0 | exact Int32.not_lt.mpr g0 | exact Int32.not_le.mpr g0) ?_
    refine x_opp rfl rfl ?_
    refine x_opp rfl rfl ?_
    refine m_getg sg rfl rfl rfl ?_
    refine x_opp rfl rfl ?_
    refine m_getg sg rfl rfl rfl ?_
    rw [e5, e6]
    refine a_callV sg rfl rfl rfl rfl (c_takeSpare (d := d) hg' (fun M2 t1 t2 t3 t4 t5 t6 t7 => ?_))
    refine a_ret rfl rfl ?_
    refine hq M2 (t1.trans f1) (fun a y1 y2 y3 y4 => by rw [t2 a y1 y2 y3]; exact f2 a y4) (fun a b ha hb => ?_) (fun f x y => by rw [t4 f x y, f2 g (Ne.symm n4)]) t5 t6 t7 (fun s hs => by rw [t3 s hs]; exact f3 s hs)
    rw [t3 _ (by omega), f4 a b ha hb]
    unfold swY
    rw [if_pos (Or.inl ha)]
  · intro i hi ih M1 f1 f2 f3 f4
    have e5 : M1.1 g 5 = nI H := by rw [f2 g (Ne.symm n4)]; exact hH
    have g0 : ¬ nI H ≤ nI i := nI_ge hi (by omega)
    have inner : ∀ M2, M2.2 = M.2 → (∀ a, a ≠ sp → M2.1 a = M.1 a) → (∀ s, s < 49 → ∃ v, v < 128 ∧ M2.1 sp s = nI v) → swQ M2 sp H W ca i 0 → sm_X L xs (d + 2) 136 3 (sm_code 136 3) [(0, .ref g), (1, .int (nI i)), (2, .int (nI 0))] [] (wm sh M2) Q := by
      refine loop_dn (P := fun j => ∀ M2, M2.2 = M.2 → (∀ a, a ≠ sp → M2.1 a = M.1 a) → (∀ s, s < 49 → ∃ v, v < 128 ∧ M2.1 sp s = nI v) → swQ M2 sp H W ca i j → sm_X L xs (d + 2) 136 3 (sm_code 136 3) [(0, .ref g), (1, .int (nI i)), (2, .int (nI j))] [] (wm sh M2) Q) W ?_ ?_
      · intro M2 k1 k2 k3 k4
        have e6 : M2.1 g 6 = nI W := by rw [k2 g (Ne.symm n4)]; exact hW
        have g1 : nI W ≤ nI W := Int32.le_refl _
        have fin := ih M2 k1 k2 k3 (sw_row k4)
        refine x_opp rfl rfl ?_
        refine x_opp rfl rfl ?_
        refine m_getg sg rfl rfl rfl ?_
        rw [e6]
        refine a_icT rfl rfl br_ge (by first | exact g1 | exact nt_f g1 | exact tnf g1 | exact fnt g1 | exact Int32.not_lt.mp g1 | exact Int32.not_le.mp g1 | exact Int32.not_lt.mpr g1 | exact Int32.not_le.mpr g1) ?_
        first | refine x_incg rfl rfl ?_ | refine x_opp rfl rfl ?_
        refine x_go rfl ?_
        refine x_lvs [(0, .ref g), (1, .int (nI (i + 1)))] rfl rfl rfl ⟨rfl, rfl, trivial⟩ ?_
        exact fin
      · intro j hj ih2 M2 k1 k2 k3 k4
        have e6 : M2.1 g 6 = nI W := by rw [k2 g (Ne.symm n4)]; exact hW
        have g1 : ¬ nI W ≤ nI j := nI_ge hj (by omega)
        obtain ⟨c1, c2⟩ := hca (i * 7 + j) (by omega)
        have ec : M2.1 c (i * 7 + j) = nI (ca (i * 7 + j)) := by rw [k2 c (Ne.symm n5)]; exact c1
        have xt := swX_lt ca i j i j
        obtain ⟨d1, d3⟩ := sw_dec _ c2 _ xt
        have x1 : nI i * 7 + nI W - 1 - nI j = nI (i * 7 + (W - 1 - j)) := by
          rw [show (7 : Int32) = nI 7 from rfl, pk_mul, nI_add, show (1 : Int32) = nI 1 from rfl, pk_sub (by omega), pk_sub (by omega)]
          congr 1
          omega
        have y0 : swY ca i j i j = 0 := by unfold swY; rw [if_neg (by omega)]
        have ev : M2.1 sp (i * 7 + (W - 1 - j)) = nI (32 * swX ca i j i j) := by rw [k4 i j hi hj, y0, Nat.add_zero]
        have xw : nI W - 1 = nI (W - 1) := pk_sub (b := 1) (by omega)
        obtain ⟨M4, hM4⟩ : ∃ M4, m_setI M2 sp (i * 7 + (W - 1 - j)) (nI (32 * swX ca i j i j + swT ca i j)) = M4 := ⟨_, rfl⟩
        have a1 : M4.1 sp (i * 7 + (W - 1 - j)) = nI (32 * swX ca i j i j + swT ca i j) := by rw [← hM4, mI_at, if_pos ⟨rfl, rfl⟩]
        have a2 : ∀ s, s ≠ i * 7 + (W - 1 - j) → M4.1 sp s = M2.1 sp s := fun s hs => by rw [← hM4, mI_at, if_neg (fun h => hs h.2)]
        have a3 : M4.2 = M.2 := by rw [← hM4, mI_2]; exact k1
        have a4 : ∀ a, a ≠ sp → M4.1 a = M.1 a := fun a ha => by rw [← hM4, mI_ne _ _ _ ha]; exact k2 a ha
        have lt : 32 * swX ca i j i j + swT ca i j < 128 := by
          unfold swT
          split <;> omega
        have a5 : ∀ s, s < 49 → ∃ v, v < 128 ∧ M4.1 sp s = nI v := fun s hs => by
          by_cases e : s = i * 7 + (W - 1 - j)
          · rw [e]; exact ⟨_, lt, a1⟩
          · rw [a2 s e]; exact k3 s hs
        have e6' : M4.1 g 6 = nI W := by rw [a4 g (Ne.symm n4)]; exact hW
        have d1' : nI (32 * swX ca i j i j) ||| (nI (ca (i * 7 + j)) &&& 95) = nI (32 * swX ca i j i j + swT ca i j) := d1
        by_cases b0 : nI (ca (i * 7 + j)) &&& 32 = 0
        · have z := d3.mp b0
          have fin := ih2 M4 a3 a4 a5 (sw_step k4 hi hj hH7 hW7 a1 (fun _ q => absurd q (by omega)) (fun s hs _ => a2 s hs))
          refine x_opp rfl rfl ?_
          refine x_opp rfl rfl ?_
          refine m_getg sg rfl rfl rfl ?_
          rw [e6]
          refine a_icF rfl rfl br_ge (by first | exact g1 | exact nt_f g1 | exact tnf g1 | exact fnt g1 | exact Int32.not_lt.mp g1 | exact Int32.not_le.mp g1 | exact Int32.not_lt.mpr g1 | exact Int32.not_le.mpr g1) ?_
          refine x_opp rfl rfl ?_
          refine m_getg sg rfl rfl rfl ?_
          refine x_opp rfl rfl ?_
          refine x_kcg rfl ?_
          iterate 3 (refine x_opp rfl rfl ?_)
          rw [mul7]
          refine a_ialdN sc (k := i * 7 + j) rfl rfl rfl (by omega) (by decide) ?_
          refine x_opp rfl rfl ?_
          refine x_opp rfl rfl ?_
          refine x_kcg rfl ?_
          refine x_opp rfl rfl ?_
          refine x_opp rfl rfl ?_
          refine m_getg sg rfl rfl rfl ?_
          refine x_opp rfl rfl ?_
          refine x_kcg rfl ?_
          iterate 5 (refine x_opp rfl rfl ?_)
          refine m_getg sg rfl rfl rfl ?_
          refine x_opp rfl rfl ?_
          refine x_opp rfl rfl ?_
          rw [ec, e6, x1]
          refine a_ialdN ssp (k := i * 7 + (W - 1 - j)) rfl rfl rfl (by omega) (by decide) ?_
          refine x_opp rfl rfl ?_
          refine x_kcg rfl ?_
          refine x_opp rfl rfl ?_
          refine x_opp rfl rfl ?_
          rw [ev, d1']
          refine a_iastN ssp (k := i * 7 + (W - 1 - j)) rfl rfl rfl (by omega) (by decide) ?_
          refine x_opp rfl rfl ?_
          refine x_kcg rfl ?_
          refine x_opp rfl rfl ?_
          rw [hM4]
          refine a_ifT rfl rfl br_eq (by first | exact b0 | exact nt_f b0 | exact tnf b0 | exact fnt b0 | exact Int32.not_lt.mp b0 | exact Int32.not_le.mp b0 | exact Int32.not_lt.mpr b0 | exact Int32.not_le.mpr b0) ?_
          first | refine x_incg rfl rfl ?_ | refine x_opp rfl rfl ?_
          refine x_go rfl ?_
          refine x_lvs [(0, .ref g), (1, .int (nI i)), (2, .int (nI (j + 1)))] rfl rfl rfl ⟨rfl, rfl, rfl, trivial⟩ ?_
          exact fin
        · have z : ca (i * 7 + j) / 32 % 2 = 1 := by
            have : ¬ ca (i * 7 + j) / 32 % 2 = 0 := fun h => b0 (d3.mpr h)
            omega
          by_cases c3 : j + 1 < W
          · have g2 : ¬ nI (W - 1) ≤ nI j := nI_ge (by omega) (by omega)
            have x6 : nI (i * 7 + (W - 1 - j)) - 1 = nI (i * 7 + (W - 1 - (j + 1))) := by
              rw [show (1 : Int32) = nI 1 from rfl, pk_sub (by omega)]
              congr 1
              omega
            have e7 : M4.1 sp (i * 7 + (W - 1 - (j + 1))) = nI 0 := by
              have x0 : swX ca i j i (j + 1) = 0 := by unfold swX; rw [if_neg (fun g => by have := g.2.1; omega)]
              have y1 : swY ca i j i (j + 1) = 0 := by unfold swY; rw [if_neg (by omega)]
              rw [a2 _ (by omega), k4 i (j + 1) hi c3, x0, y1]
            have fin := ih2 (m_setI M4 sp (i * 7 + (W - 1 - (j + 1))) (nI 32)) a3 (fun a ha => by rw [mI_ne _ _ _ ha]; exact a4 a ha) (fun s hs => by
              rw [mI_at]
              by_cases e : s = i * 7 + (W - 1 - (j + 1))
              · rw [if_pos ⟨rfl, e⟩]; exact ⟨32, by decide, rfl⟩
              · rw [if_neg (fun h => e h.2)]; exact a5 s hs) (sw_step k4 hi hj hH7 hW7 (by rw [mI_at, if_neg (fun h => by have := h.2; omega)]; exact a1) (fun _ _ => by rw [mI_at, if_pos ⟨rfl, rfl⟩]) (fun s hs hs2 => by rw [mI_at, if_neg (fun h => hs2 c3 z h.2)]; exact a2 s hs))
            refine x_opp rfl rfl ?_
            refine x_opp rfl rfl ?_
            refine m_getg sg rfl rfl rfl ?_
            rw [e6]
            refine a_icF rfl rfl br_ge (by first | exact g1 | exact nt_f g1 | exact tnf g1 | exact fnt g1 | exact Int32.not_lt.mp g1 | exact Int32.not_le.mp g1 | exact Int32.not_lt.mpr g1 | exact Int32.not_le.mpr g1) ?_
            refine x_opp rfl rfl ?_
            refine m_getg sg rfl rfl rfl ?_
            refine x_opp rfl rfl ?_
            refine x_kcg rfl ?_
            iterate 3 (refine x_opp rfl rfl ?_)
            rw [mul7]
            refine a_ialdN sc (k := i * 7 + j) rfl rfl rfl (by omega) (by decide) ?_
            refine x_opp rfl rfl ?_
            refine x_opp rfl rfl ?_
            refine x_kcg rfl ?_
            refine x_opp rfl rfl ?_
            refine x_opp rfl rfl ?_
            refine m_getg sg rfl rfl rfl ?_
            refine x_opp rfl rfl ?_
            refine x_kcg rfl ?_
            iterate 5 (refine x_opp rfl rfl ?_)
            refine m_getg sg rfl rfl rfl ?_
            refine x_opp rfl rfl ?_
            refine x_opp rfl rfl ?_
            rw [ec, e6, x1]
            refine a_ialdN ssp (k := i * 7 + (W - 1 - j)) rfl rfl rfl (by omega) (by decide) ?_
            refine x_opp rfl rfl ?_
            refine x_kcg rfl ?_
            refine x_opp rfl rfl ?_
            refine x_opp rfl rfl ?_
            rw [ev, d1']
            refine a_iastN ssp (k := i * 7 + (W - 1 - j)) rfl rfl rfl (by omega) (by decide) ?_
            refine x_opp rfl rfl ?_
            refine x_kcg rfl ?_
            refine x_opp rfl rfl ?_
            rw [hM4]
            refine a_ifF rfl rfl br_eq (by first | exact b0 | exact nt_f b0 | exact tnf b0 | exact fnt b0 | exact Int32.not_lt.mp b0 | exact Int32.not_le.mp b0 | exact Int32.not_lt.mpr b0 | exact Int32.not_le.mpr b0) ?_
            refine x_opp rfl rfl ?_
            refine x_opp rfl rfl ?_
            refine m_getg sg rfl rfl rfl ?_
            refine x_kcg rfl ?_
            refine x_opp rfl rfl ?_
            rw [e6', xw]
            refine a_icF rfl rfl br_ge (by first | exact g2 | exact nt_f g2 | exact tnf g2 | exact fnt g2 | exact Int32.not_lt.mp g2 | exact Int32.not_le.mp g2 | exact Int32.not_lt.mpr g2 | exact Int32.not_le.mpr g2) ?_
            refine x_opp rfl rfl ?_
            refine m_getg sg rfl rfl rfl ?_
            refine x_opp rfl rfl ?_
            refine x_kcg rfl ?_
            refine x_opp rfl rfl ?_
            refine x_opp rfl rfl ?_
            rw [x6]
            refine a_ialdN ssp (k := i * 7 + (W - 1 - (j + 1))) rfl rfl rfl (by omega) (by decide) ?_
            refine x_kcg rfl ?_
            refine x_opp rfl rfl ?_
            rw [e7, show nI 0 ||| 32 = nI 32 by decide]
            refine a_iastN ssp (k := i * 7 + (W - 1 - (j + 1))) rfl rfl rfl (by omega) (by decide) ?_
            refine x_go rfl ?_
            first | refine x_incg rfl rfl ?_ | refine x_opp rfl rfl ?_
            refine x_go rfl ?_
            refine x_lvs [(0, .ref g), (1, .int (nI i)), (2, .int (nI (j + 1)))] rfl rfl rfl ⟨rfl, rfl, rfl, trivial⟩ ?_
            exact fin
          · have g2 : nI (W - 1) ≤ nI j := nI_le (by omega) (by omega)
            have fin := ih2 M4 a3 a4 a5 (sw_step k4 hi hj hH7 hW7 a1 (fun q _ => absurd q c3) (fun s hs _ => a2 s hs))
            refine x_opp rfl rfl ?_
            refine x_opp rfl rfl ?_
            refine m_getg sg rfl rfl rfl ?_
            rw [e6]
            refine a_icF rfl rfl br_ge (by first | exact g1 | exact nt_f g1 | exact tnf g1 | exact fnt g1 | exact Int32.not_lt.mp g1 | exact Int32.not_le.mp g1 | exact Int32.not_lt.mpr g1 | exact Int32.not_le.mpr g1) ?_
            refine x_opp rfl rfl ?_
            refine m_getg sg rfl rfl rfl ?_
            refine x_opp rfl rfl ?_
            refine x_kcg rfl ?_
            iterate 3 (refine x_opp rfl rfl ?_)
            rw [mul7]
            refine a_ialdN sc (k := i * 7 + j) rfl rfl rfl (by omega) (by decide) ?_
            refine x_opp rfl rfl ?_
            refine x_opp rfl rfl ?_
            refine x_kcg rfl ?_
            refine x_opp rfl rfl ?_
            refine x_opp rfl rfl ?_
            refine m_getg sg rfl rfl rfl ?_
            refine x_opp rfl rfl ?_
            refine x_kcg rfl ?_
            iterate 5 (refine x_opp rfl rfl ?_)
            refine m_getg sg rfl rfl rfl ?_
            refine x_opp rfl rfl ?_
            refine x_opp rfl rfl ?_
            rw [ec, e6, x1]
            refine a_ialdN ssp (k := i * 7 + (W - 1 - j)) rfl rfl rfl (by omega) (by decide) ?_
            refine x_opp rfl rfl ?_
            refine x_kcg rfl ?_
            refine x_opp rfl rfl ?_
            refine x_opp rfl rfl ?_
            rw [ev, d1']
            refine a_iastN ssp (k := i * 7 + (W - 1 - j)) rfl rfl rfl (by omega) (by decide) ?_
            refine x_opp rfl rfl ?_
            refine x_kcg rfl ?_
            refine x_opp rfl rfl ?_
            rw [hM4]
            refine a_ifF rfl rfl br_eq (by first | exact b0 | exact nt_f b0 | exact tnf b0 | exact fnt b0 | exact Int32.not_lt.mp b0 | exact Int32.not_le.mp b0 | exact Int32.not_lt.mpr b0 | exact Int32.not_le.mpr b0) ?_
            refine x_opp rfl rfl ?_
            refine x_opp rfl rfl ?_
            refine m_getg sg rfl rfl rfl ?_
            refine x_kcg rfl ?_
            refine x_opp rfl rfl ?_
            rw [e6', xw]
            refine a_icT rfl rfl br_ge (by first | exact g2 | exact nt_f g2 | exact tnf g2 | exact fnt g2 | exact Int32.not_lt.mp g2 | exact Int32.not_le.mp g2 | exact Int32.not_lt.mpr g2 | exact Int32.not_le.mpr g2) ?_
            first | refine x_incg rfl rfl ?_ | refine x_opp rfl rfl ?_
            refine x_go rfl ?_
            refine x_lvs [(0, .ref g), (1, .int (nI i)), (2, .int (nI (j + 1)))] rfl rfl rfl ⟨rfl, rfl, rfl, trivial⟩ ?_
            exact fin
    have fin := inner M1 f1 f2 f3 f4
    refine x_opp rfl rfl ?_
    refine x_opp rfl rfl ?_
    refine m_getg sg rfl rfl rfl ?_
    rw [e5]
    refine a_icF rfl rfl br_ge (by first | exact g0 | exact nt_f g0 | exact tnf g0 | exact fnt g0 | exact Int32.not_lt.mp g0 | exact Int32.not_le.mp g0 | exact Int32.not_lt.mpr g0 | exact Int32.not_le.mpr g0) ?_
    refine x_kcg rfl ?_
    refine x_opp rfl rfl ?_
    refine x_go rfl ?_
    refine x_lvs [(0, .ref g), (1, .int (nI i)), (2, .int (nI 0))] rfl rfl rfl ⟨rfl, rfl, rfl, trivial⟩ ?_
    exact fin
end SW
