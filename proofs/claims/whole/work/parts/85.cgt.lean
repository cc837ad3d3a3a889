/-! a grid of the desk is turned -/
theorem tq_dec : ∀ ca, ca < 128 → ∀ x, x < 2 → (nI (32 * x) ||| (nI ca &&& 31) = nI (32 * x + ca % 32)) ∧ (nI (32 * x + ca % 32) ||| 64 = nI (32 * x + ca % 32 + 64)) ∧ ((nI ca &&& 32 = 0) ↔ ca / 32 % 2 = 0) ∧ ((nI ca &&& 64 = 0) ↔ ca / 64 = 0) := by decide +kernel
/-- what a turned square shows so far: the bar below its upper neighbour as a right bar; its sign, its right bar as a bar below -/
def tqX (ca : Nat → Nat) (i j a b : Nat) : Nat := if 1 ≤ a ∧ (a - 1 < i ∨ (a - 1 = i ∧ b < j)) ∧ ca ((a - 1) * 7 + b) / 64 = 1 then 1 else 0
def tqT (ca : Nat → Nat) (a b : Nat) : Nat := ca (a * 7 + b) % 32 + (if ca (a * 7 + b) / 32 % 2 = 1 then 64 else 0)
def tqY (ca : Nat → Nat) (i j a b : Nat) : Nat := if a < i ∨ (a = i ∧ b < j) then tqT ca a b else 0
theorem tqX_lt (ca : Nat → Nat) (i j a b : Nat) : tqX ca i j a b < 2 := by
  unfold tqX
  split <;> omega
theorem tqX_ne {ca : Nat → Nat} {i j a b : Nat} (h : ¬ (a = i + 1 ∧ b = j)) : tqX ca i (j + 1) a b = tqX ca i j a b := by
  unfold tqX
  by_cases c : 1 ≤ a ∧ (a - 1 < i ∨ (a - 1 = i ∧ b < j)) ∧ ca ((a - 1) * 7 + b) / 64 = 1
  · rw [if_pos c, if_pos ⟨c.1, by omega, c.2.2⟩]
  · rw [if_neg c, if_neg (fun h2 => c ⟨h2.1, by omega, h2.2.2⟩)]
theorem tqX_at (ca : Nat → Nat) (i j : Nat) : tqX ca i j (i + 1) j = 0 ∧ tqX ca i (j + 1) (i + 1) j = if ca (i * 7 + j) / 64 = 1 then 1 else 0 := by
  unfold tqX
  constructor
  · rw [if_neg (fun h => by have := h.2.1; omega)]
  · rw [Nat.add_sub_cancel]
    by_cases c : ca (i * 7 + j) / 64 = 1
    · rw [if_pos c, if_pos ⟨by omega, by omega, c⟩]
    · rw [if_neg c, if_neg (fun h => c h.2.2)]
theorem tqY_ne {ca : Nat → Nat} {i j a b : Nat} (h : ¬ (a = i ∧ b = j)) : tqY ca i (j + 1) a b = tqY ca i j a b := by
  unfold tqY
  by_cases c : a < i ∨ (a = i ∧ b < j)
  · rw [if_pos c, if_pos (by omega)]
  · rw [if_neg c, if_neg (by omega)]
theorem tqY_at (ca : Nat → Nat) (i j : Nat) : tqY ca i j i j = 0 ∧ tqY ca i (j + 1) i j = tqT ca i j := by
  unfold tqY
  constructor
  · rw [if_neg (by omega)]
  · rw [if_pos (by omega)]
theorem tq_row {ca : Nat → Nat} {i W a b : Nat} (hb : b < W) : tqX ca i W a b = tqX ca (i + 1) 0 a b ∧ tqY ca i W a b = tqY ca (i + 1) 0 a b := by
  unfold tqX tqY
  constructor
  · by_cases c : 1 ≤ a ∧ (a - 1 < i ∨ (a - 1 = i ∧ b < W)) ∧ ca ((a - 1) * 7 + b) / 64 = 1
    · rw [if_pos c, if_pos ⟨c.1, by omega, c.2.2⟩]
    · rw [if_neg c, if_neg (fun h2 => c ⟨h2.1, by omega, h2.2.2⟩)]
  · by_cases c : a < i ∨ (a = i ∧ b < W)
    · rw [if_pos c, if_pos (by omega)]
    · rw [if_neg c, if_neg (by omega)]
theorem tq_0 {ca : Nat → Nat} {a b : Nat} : tqX ca 0 0 a b = 0 ∧ tqY ca 0 0 a b = 0 := by
  unfold tqX tqY
  exact ⟨if_neg (fun h => by have := h.2.1; omega), if_neg (by omega)⟩
section CGT
variable {L : Nat} {xs : Nat → Int32} {d : Nat} {sh : List sh_T} {M : mm_T} {Q : Option Value → sm_W → Prop} {g c l sp re : Nat}
theorem c_takeSpare {h w : Int32} (hg : gSh sh g c l sp re) (hq : ∀ M', M'.2 = M.2 → (∀ a, a ≠ g → a ≠ c → a ≠ l → M'.1 a = M.1 a) → (∀ s, s < 49 → M'.1 c s = M.1 sp s) → (∀ f, f ≠ 5 → f ≠ 6 → M'.1 g f = M.1 g f) → M'.1 g 5 = h → M'.1 g 6 = w → (∀ i, i < 7 → M'.1 l i = w) → Q none (wm sh M')) : sm_E L xs (d + 2) 134 [.ref g, .int h, .int w] (wm sh M) Q := by
  obtain ⟨h1, hc, hl, hsp, hre, n1, n2, n3, n4, n5, n6, n7, n8, n9, n10⟩ := hg
  have fin := hq (m_setA (m_setI (m_setI (m_setA M c (va_cpy (M.1 sp) (M.1 c) 0 0 49)) g 5 h) g 6 w) l (aFill ((m_setI (m_setI (m_setA M c (va_cpy (M.1 sp) (M.1 c) 0 0 49)) g 5 h) g 6 w).1 l) 7 w)) rfl (fun a y1 y2 y3 => by rw [mA_1ne _ _ y3, mI_ne _ _ _ y1, mI_ne _ _ _ y1, mA_1ne _ _ y2]) (fun s hs => by
      rw [mA_1ne _ _ (Ne.symm n3), mI_ne _ _ _ n1, mI_ne _ _ _ n1, mA_eq]
      show (if 0 ≤ s ∧ s < 0 + 49 then M.1 sp (0 + (s - 0)) else _) = _
      rw [if_pos ⟨Nat.zero_le _, by omega⟩, Nat.zero_add, Nat.sub_zero]) (fun f f5 f6 => by rw [mA_1ne _ _ (Ne.symm n2), mI_at, if_neg (fun h => f6 h.2), mI_at, if_neg (fun h => f5 h.2), mA_1ne _ _ (Ne.symm n1)]) (by rw [mA_1ne _ _ (Ne.symm n2), mI_at, if_neg (by omega), mI_at, if_pos ⟨rfl, rfl⟩]) (by rw [mA_1ne _ _ (Ne.symm n2), mI_at, if_pos ⟨rfl, rfl⟩]) (fun i hi => by
      rw [mA_eq]
      unfold aFill
      rw [if_pos hi])
  refine e_intro rfl rfl ?_
  repeat (first | refine x_kcg rfl ?_ | refine x_opp rfl rfl ?_ | refine x_go rfl ?_ | refine m_getg h1 rfl rfl rfl ?_)
  refine x_invS (Q1 := fun r w => ∃ M2, r = none ∧ w = wm sh M2 ∧ M2 = m_setA M c (va_cpy (M.1 sp) (M.1 c) 0 0 49)) rfl (c_copy (sp := 0) (dp := 0) (k := 49) hsp hc (by decide) (by decide) (by decide) (by decide) ⟨_, rfl, rfl, rfl⟩) ?_
  rintro _ _ ⟨M2, rfl, rfl, rfl⟩
  repeat (first | refine x_kcg rfl ?_ | refine x_opp rfl rfl ?_ | refine x_go rfl ?_)
  refine m_putI h1 rfl ?_
  repeat (first | refine x_kcg rfl ?_ | refine x_opp rfl rfl ?_ | refine x_go rfl ?_)
  refine m_putI h1 rfl ?_
  repeat (first | refine x_kcg rfl ?_ | refine x_opp rfl rfl ?_ | refine x_go rfl ?_ | refine m_getg h1 rfl rfl rfl ?_)
  refine m_callS rfl rfl (c_fill hl (by decide) ?_)
  exact x_ret fin
/-- the spare squares while a grid is turned -/
def tqI (M1 : mm_T) (sp H W : Nat) (ca : Nat → Nat) (i j : Nat) : Prop := ∀ a b, a < H → b < W → M1.1 sp (b * 7 + (H - 1 - a)) = nI (32 * tqX ca i j a b + tqY ca i j a b)
theorem c_turn {H W : Nat} {ca : Nat → Nat} (hg : gSh sh g c l sp re) (hH : M.1 g 5 = nI H) (hH7 : H ≤ 7) (hW : M.1 g 6 = nI W) (hW7 : W ≤ 7) (hca : ∀ s, s < 49 → M.1 c s = nI (ca s) ∧ ca s < 128)
    (hq : ∀ M', M'.2 = M.2 → (∀ a, a ≠ g → a ≠ c → a ≠ l → a ≠ sp → M'.1 a = M.1 a) → (∀ a b, a < H → b < W → M'.1 c (b * 7 + (H - 1 - a)) = nI (32 * tqX ca H 0 a b + tqT ca a b)) → (∀ f, f ≠ 5 → f ≠ 6 → M'.1 g f = M.1 g f) → M'.1 g 5 = nI W → M'.1 g 6 = nI H → (∀ i, i < 7 → M'.1 l i = nI H) → (∀ s, s < 49 → ∃ v, v < 128 ∧ M'.1 c s = nI v) → Q none (wm sh M')) : sm_E L xs (d + 3) 133 [.ref g] (wm sh M) Q := by
  have hg' := hg
  obtain ⟨h1, hc, hl, hsp, hre, n1, n2, n3, n4, n5, n6, n7, n8, n9, n10⟩ := hg
  refine e_intro rfl rfl ?_
  have lp : ∀ M1, M1.2 = M.2 → (∀ a, a ≠ sp → M1.1 a = M.1 a) → (∀ s, s < 49 → ∃ v, v < 128 ∧ M1.1 sp s = nI v) → tqI M1 sp H W ca 0 0 → sm_X L xs (d + 2) 133 1 (sm_code 133 1) [(0, .ref g), (1, .int (nI 0))] [] (wm sh M1) Q := by
    refine loop_dn (P := fun i => ∀ M1, M1.2 = M.2 → (∀ a, a ≠ sp → M1.1 a = M.1 a) → (∀ s, s < 49 → ∃ v, v < 128 ∧ M1.1 sp s = nI v) → tqI M1 sp H W ca i 0 → sm_X L xs (d + 2) 133 1 (sm_code 133 1) [(0, .ref g), (1, .int (nI i))] [] (wm sh M1) Q) H ?_ ?_
    · intro M1 f1 f2 f3 f4
      have e5 : M1.1 g 5 = nI H := by rw [f2 g (Ne.symm n4)]; exact hH
      have e6 : M1.1 g 6 = nI W := by rw [f2 g (Ne.symm n4)]; exact hW
      repeat (first | refine x_kcg rfl ?_ | refine x_opp rfl rfl ?_ | refine x_go rfl ?_ | refine m_getg h1 rfl rfl rfl ?_)
      rw [e5]
      refine x_icm br_ge (fun _ => ?_) (fun h => absurd (nI_le (Nat.le_refl _) (by omega)) h)
      repeat (first | refine x_kcg rfl ?_ | refine x_opp rfl rfl ?_ | refine x_go rfl ?_ | refine m_getg h1 rfl rfl rfl ?_)
      rw [e5, e6]
      refine m_callV h1 rfl rfl rfl (c_takeSpare (d := d) hg' (fun M2 t1 t2 t3 t4 t5 t6 t7 => ?_))
      refine x_ret (hq M2 (t1.trans f1) (fun a y1 y2 y3 y4 => by rw [t2 a y1 y2 y3]; exact f2 a y4) (fun a b ha hb => ?_) (fun f x y => by rw [t4 f x y, f2 g (Ne.symm n4)]) t5 t6 t7 (fun s hs => by rw [t3 s hs]; exact f3 s hs))
      rw [t3 _ (by omega), f4 a b ha hb]
      unfold tqY
      rw [if_pos (Or.inl ha)]
    · intro i hi ih M1 f1 f2 f3 f4
      have e5 : M1.1 g 5 = nI H := by rw [f2 g (Ne.symm n4)]; exact hH
      have lp2 : ∀ M2, M2.2 = M.2 → (∀ a, a ≠ sp → M2.1 a = M.1 a) → (∀ s, s < 49 → ∃ v, v < 128 ∧ M2.1 sp s = nI v) → tqI M2 sp H W ca i 0 → sm_X L xs (d + 2) 133 3 (sm_code 133 3) [(0, .ref g), (1, .int (nI i)), (2, .int (nI 0))] [] (wm sh M2) Q := by
        refine loop_dn (P := fun j => ∀ M2, M2.2 = M.2 → (∀ a, a ≠ sp → M2.1 a = M.1 a) → (∀ s, s < 49 → ∃ v, v < 128 ∧ M2.1 sp s = nI v) → tqI M2 sp H W ca i j → sm_X L xs (d + 2) 133 3 (sm_code 133 3) [(0, .ref g), (1, .int (nI i)), (2, .int (nI j))] [] (wm sh M2) Q) W ?_ ?_
        · intro M2 k1 k2 k3 k4
          have e6 : M2.1 g 6 = nI W := by rw [k2 g (Ne.symm n4)]; exact hW
          have fin := ih M2 k1 k2 k3 (fun a b ha hb => by rw [k4 a b ha hb, (tq_row hb).1, (tq_row hb).2])
          repeat (first | refine x_kcg rfl ?_ | refine x_opp rfl rfl ?_ | refine x_go rfl ?_ | refine m_getg h1 rfl rfl rfl ?_)
          rw [e6]
          refine x_icm br_ge (fun _ => ?_) (fun h => absurd (nI_le (Nat.le_refl _) (by omega)) h)
          repeat (first | refine x_kcg rfl ?_ | refine x_incg rfl rfl ?_ | refine x_opp rfl rfl ?_)
          refine x_goto ?_
          refine x_lvs [(0, .ref g), (1, .int (nI (i + 1)))] rfl rfl rfl ⟨rfl, rfl, trivial⟩ ?_
          exact fin
        · intro j hj ih2 M2 k1 k2 k3 k4
          have e5b : M2.1 g 5 = nI H := by rw [k2 g (Ne.symm n4)]; exact hH
          have e6b : M2.1 g 6 = nI W := by rw [k2 g (Ne.symm n4)]; exact hW
          obtain ⟨c1, c2⟩ := hca (i * 7 + j) (by omega)
          have ec : M2.1 c (i * 7 + j) = nI (ca (i * 7 + j)) := by rw [k2 c (Ne.symm n5)]; exact c1
          have xt := tqX_lt ca i j i j
          obtain ⟨d1, d2, d3, d4⟩ := tq_dec _ c2 _ xt
          have x1 : nI j * 7 + nI H - 1 - nI i = nI (j * 7 + (H - 1 - i)) := by
            rw [show (7 : Int32) = nI 7 from rfl, pk_mul, nI_add, show (1 : Int32) = nI 1 from rfl, pk_sub (by omega), pk_sub (by omega)]
            congr 1
            omega
          have ev : M2.1 sp (j * 7 + (H - 1 - i)) = nI (32 * tqX ca i j i j) := by rw [k4 i j hi hj, (tqY_at ca i j).1, Nat.add_zero]
          have fin : ∀ M5, M5.2 = M.2 → (∀ a, a ≠ sp → M5.1 a = M.1 a) → (∀ s, s < 49 → ∃ v, v < 128 ∧ M5.1 sp s = nI v) → M5.1 sp (j * 7 + (H - 1 - i)) = nI (32 * tqX ca i j i j + tqT ca i j) → (i + 1 < H → M5.1 sp (j * 7 + (H - 1 - (i + 1))) = nI (32 * (if ca (i * 7 + j) / 64 = 1 then 1 else 0))) → (∀ s, s ≠ j * 7 + (H - 1 - i) → (i + 1 < H → s ≠ j * 7 + (H - 1 - (i + 1))) → M5.1 sp s = M2.1 sp s) → ∀ (v3 v4 : Int32), sm_X L xs (d + 2) 133 9 (sm_code 133 9) [(0, .ref g), (1, .int (nI i)), (2, .int (nI j))] [] (wm sh M5) Q := by
            intro M5 q1 q2 q3 q4 q5 q6 _ _
            have fin := ih2 M5 q1 q2 q3 (fun a b ha hb => by
              by_cases g1 : a = i ∧ b = j
              · obtain ⟨rfl, rfl⟩ := g1
                rw [q4, (tqY_at ca a b).2, tqX_ne (by omega)]
              · rw [tqY_ne g1]
                by_cases g2 : a = i + 1 ∧ b = j
                · obtain ⟨rfl, rfl⟩ := g2
                  have y0 : tqY ca i b (i + 1) b = 0 := by
                    unfold tqY
                    rw [if_neg (by omega)]
                  rw [q5 ha, (tqX_at ca i b).2, y0, Nat.add_zero]
                · rw [tqX_ne g2, ← k4 a b ha hb]
                  refine q6 _ ?_ (fun _ => ?_)
                  · intro h
                    exact g1 (by omega)
                  · intro h
                    exact g2 (by omega))
            repeat (first | refine x_kcg rfl ?_ | refine x_incg rfl rfl ?_ | refine x_opp rfl rfl ?_)
            refine x_goto ?_
            refine x_lvs [(0, .ref g), (1, .int (nI i)), (2, .int (nI (j + 1)))] rfl rfl rfl ⟨rfl, rfl, rfl, trivial⟩ ?_
            exact fin
          have T6 : ∀ M4, M4.2 = M.2 → (∀ a, a ≠ sp → M4.1 a = M.1 a) → (∀ s, s < 49 → ∃ v, v < 128 ∧ M4.1 sp s = nI v) → M4.1 sp (j * 7 + (H - 1 - i)) = nI (32 * tqX ca i j i j + tqT ca i j) → (∀ s, s ≠ j * 7 + (H - 1 - i) → M4.1 sp s = M2.1 sp s) → sm_X L xs (d + 2) 133 6 (sm_code 133 6) [(0, .ref g), (1, .int (nI i)), (2, .int (nI j)), (3, .int (nI (ca (i * 7 + j)))), (4, .int (nI (j * 7 + (H - 1 - i))))] [] (wm sh M4) Q := by
            intro M4 q1 q2 q3 q4 q5
            have e5c : M4.1 g 5 = nI H := by rw [q2 g (Ne.symm n4)]; exact hH
            have z2 : i + 1 < H → M2.1 sp (j * 7 + (H - 1 - (i + 1))) = nI 0 := fun h => by
              rw [k4 (i + 1) j h hj, (tqX_at ca i j).1]
              unfold tqY
              rw [if_neg (by omega)]
            have keep : ca (i * 7 + j) / 64 ≠ 1 ∨ ¬ i + 1 < H → sm_X L xs (d + 2) 133 9 (sm_code 133 9) [(0, .ref g), (1, .int (nI i)), (2, .int (nI j))] [] (wm sh M4) Q := fun hh => fin M4 q1 q2 q3 q4 (fun h => by
              rw [q5 _ (by omega), z2 h, if_neg (by omega)]) (fun s y1 _ => q5 s y1) 0 0
            by_cases g1 : nI (ca (i * 7 + j)) &&& 64 = 0
            · have f := keep (Or.inl (by have := d4.mp g1; omega))
              repeat (first | refine x_kcg rfl ?_ | refine x_opp rfl rfl ?_ | refine x_go rfl ?_)
              refine x_ifc br_eq (fun _ => ?_) (fun h => absurd g1 h)
              refine x_lvs [(0, .ref g), (1, .int (nI i)), (2, .int (nI j))] rfl rfl rfl ⟨rfl, rfl, rfl, trivial⟩ ?_
              exact f
            · have g64 : ca (i * 7 + j) / 64 = 1 := by
                have : ¬ ca (i * 7 + j) / 64 = 0 := fun h => g1 (d4.mpr h)
                omega
              have x5 : nI H - 1 = nI (H - 1) := pk_sub (b := 1) (by omega)
              repeat (first | refine x_kcg rfl ?_ | refine x_opp rfl rfl ?_ | refine x_go rfl ?_)
              refine x_ifc br_eq (fun h => absurd h g1) (fun _ => ?_)
              repeat (first | refine x_kcg rfl ?_ | refine x_opp rfl rfl ?_ | refine x_go rfl ?_ | refine m_getg h1 rfl rfl rfl ?_)
              rw [e5c, x5]
              by_cases g2 : i + 1 < H
              · refine x_icm br_ge (fun h => absurd h (nI_ge (by omega) (by omega))) (fun _ => ?_)
                have x6 : nI (j * 7 + (H - 1 - i)) - 1 = nI (j * 7 + (H - 1 - (i + 1))) := by
                  rw [show (1 : Int32) = nI 1 from rfl, pk_sub (by omega)]
                  congr 1
                  omega
                have e7 : M4.1 sp (j * 7 + (H - 1 - (i + 1))) = nI 0 := by rw [q5 _ (by omega)]; exact z2 g2
                have f := fin (m_setI M4 sp (j * 7 + (H - 1 - (i + 1))) (nI 32)) q1 (fun a ha => by rw [mI_ne _ _ _ ha]; exact q2 a ha) (fun s hs => by
                  rw [mI_at]
                  by_cases e : s = j * 7 + (H - 1 - (i + 1))
                  · rw [if_pos ⟨rfl, e⟩]
                    exact ⟨32, by decide, rfl⟩
                  · rw [if_neg (fun h => e h.2)]
                    exact q3 s hs) (by rw [mI_at, if_neg (fun h => by have := h.2; omega)]; exact q4) (fun _ => by rw [mI_at, if_pos ⟨rfl, rfl⟩, if_pos g64]) (fun s y1 y2 => by rw [mI_at, if_neg (fun h => y2 g2 h.2)]; exact q5 s y1) 0 0
                repeat (first | refine x_kcg rfl ?_ | refine x_opp rfl rfl ?_ | refine x_go rfl ?_ | refine m_getg h1 rfl rfl rfl ?_)
                rw [x6]
                repeat (first | refine x_kcg rfl ?_ | refine x_opp rfl rfl ?_ | refine x_go rfl ?_)
                refine m_iald hsp (vp_in_nI (by omega) (by decide)) ?_
                rw [nI_clamp (by omega), e7]
                repeat (first | refine x_kcg rfl ?_ | refine x_opp rfl rfl ?_ | refine x_go rfl ?_)
                rw [show nI 0 ||| 32 = nI 32 by decide]
                refine m_iast hsp (vp_in_nI (by omega) (by decide)) ?_
                rw [nI_clamp (by omega)]
                refine x_fall ?_
                refine x_lvs [(0, .ref g), (1, .int (nI i)), (2, .int (nI j))] rfl rfl rfl ⟨rfl, rfl, rfl, trivial⟩ ?_
                exact f
              · have f := keep (Or.inr g2)
                refine x_icm br_ge (fun _ => ?_) (fun h => absurd (nI_le (by omega) (by omega)) h)
                refine x_lvs [(0, .ref g), (1, .int (nI i)), (2, .int (nI j))] rfl rfl rfl ⟨rfl, rfl, rfl, trivial⟩ ?_
                exact f
          have h128 : ∀ M3 : mm_T, (∀ s, s ≠ j * 7 + (H - 1 - i) → M3.1 sp s = M2.1 sp s) → (∃ v, v < 128 ∧ M3.1 sp (j * 7 + (H - 1 - i)) = nI v) → ∀ s, s < 49 → ∃ v, v < 128 ∧ M3.1 sp s = nI v := by
            intro M3 y1 y2 s hs
            by_cases e : s = j * 7 + (H - 1 - i)
            · rw [e]
              exact y2
            · rw [y1 s e]
              exact k3 s hs
          have tT : tqT ca i j = ca (i * 7 + j) % 32 + (if ca (i * 7 + j) / 32 % 2 = 1 then 64 else 0) := rfl
          repeat (first | refine x_kcg rfl ?_ | refine x_opp rfl rfl ?_ | refine x_go rfl ?_ | refine m_getg h1 rfl rfl rfl ?_)
          rw [e6b]
          refine x_icm br_ge (fun h => absurd h (nI_ge hj (by omega))) (fun _ => ?_)
          repeat (first | refine x_kcg rfl ?_ | refine x_opp rfl rfl ?_ | refine x_go rfl ?_ | refine m_getg h1 rfl rfl rfl ?_)
          rw [mul7]
          refine m_iald hc (vp_in_nI (by omega) (by decide)) ?_
          rw [nI_clamp (by omega), ec]
          repeat (first | refine x_kcg rfl ?_ | refine x_opp rfl rfl ?_ | refine x_go rfl ?_ | refine m_getg h1 rfl rfl rfl ?_)
          rw [e5b, x1]
          repeat (first | refine x_kcg rfl ?_ | refine x_opp rfl rfl ?_ | refine x_go rfl ?_ | refine m_getg h1 rfl rfl rfl ?_)
          refine m_iald hsp (vp_in_nI (by omega) (by decide)) ?_
          rw [nI_clamp (by omega), ev]
          repeat (first | refine x_kcg rfl ?_ | refine x_opp rfl rfl ?_ | refine x_go rfl ?_)
          rw [d1]
          refine m_iast hsp (vp_in_nI (by omega) (by decide)) ?_
          rw [nI_clamp (by omega)]
          repeat (first | refine x_kcg rfl ?_ | refine x_opp rfl rfl ?_ | refine x_go rfl ?_)
          by_cases g0 : nI (ca (i * 7 + j)) &&& 32 = 0
          · have t0 : tqT ca i j = ca (i * 7 + j) % 32 := by rw [tT, if_neg (by have := d3.mp g0; omega)]; rfl
            refine x_ifc br_eq (fun _ => ?_) (fun h => absurd g0 h)
            refine x_lvs [(0, .ref g), (1, .int (nI i)), (2, .int (nI j)), (3, .int (nI (ca (i * 7 + j)))), (4, .int (nI (j * 7 + (H - 1 - i))))] rfl rfl rfl ⟨rfl, rfl, rfl, rfl, rfl, trivial⟩ ?_
            have w1 : (m_setI M2 sp (j * 7 + (H - 1 - i)) (nI (32 * tqX ca i j i j + ca (i * 7 + j) % 32))).1 sp (j * 7 + (H - 1 - i)) = nI (32 * tqX ca i j i j + ca (i * 7 + j) % 32) := by rw [mI_at, if_pos ⟨rfl, rfl⟩]
            have w2 : ∀ s, s ≠ j * 7 + (H - 1 - i) → (m_setI M2 sp (j * 7 + (H - 1 - i)) (nI (32 * tqX ca i j i j + ca (i * 7 + j) % 32))).1 sp s = M2.1 sp s := fun s hs => by rw [mI_at, if_neg (fun h => hs h.2)]
            exact T6 _ k1 (fun a ha => by rw [mI_ne _ _ _ ha]; exact k2 a ha) (h128 _ w2 ⟨_, by omega, w1⟩) (by rw [w1, t0]) w2
          · have t0 : tqT ca i j = ca (i * 7 + j) % 32 + 64 := by
              rw [tT, if_pos]
              have : ¬ ca (i * 7 + j) / 32 % 2 = 0 := fun h => g0 (d3.mpr h)
              omega
            refine x_ifc br_eq (fun h => absurd h g0) (fun _ => ?_)
            repeat (first | refine x_kcg rfl ?_ | refine x_opp rfl rfl ?_ | refine x_go rfl ?_ | refine m_getg h1 rfl rfl rfl ?_)
            refine m_iald hsp (vp_in_nI (by omega) (by decide)) ?_
            rw [nI_clamp (by omega), mI_at, if_pos ⟨rfl, rfl⟩]
            repeat (first | refine x_kcg rfl ?_ | refine x_opp rfl rfl ?_ | refine x_go rfl ?_)
            rw [d2]
            refine m_iast hsp (vp_in_nI (by omega) (by decide)) ?_
            rw [nI_clamp (by omega)]
            refine x_fall ?_
            refine x_lvs [(0, .ref g), (1, .int (nI i)), (2, .int (nI j)), (3, .int (nI (ca (i * 7 + j)))), (4, .int (nI (j * 7 + (H - 1 - i))))] rfl rfl rfl ⟨rfl, rfl, rfl, rfl, rfl, trivial⟩ ?_
            have w1 : (m_setI (m_setI M2 sp (j * 7 + (H - 1 - i)) (nI (32 * tqX ca i j i j + ca (i * 7 + j) % 32))) sp (j * 7 + (H - 1 - i)) (nI (32 * tqX ca i j i j + ca (i * 7 + j) % 32 + 64))).1 sp (j * 7 + (H - 1 - i)) = nI (32 * tqX ca i j i j + ca (i * 7 + j) % 32 + 64) := by rw [mI_at, if_pos ⟨rfl, rfl⟩]
            have w2 : ∀ s, s ≠ j * 7 + (H - 1 - i) → (m_setI (m_setI M2 sp (j * 7 + (H - 1 - i)) (nI (32 * tqX ca i j i j + ca (i * 7 + j) % 32))) sp (j * 7 + (H - 1 - i)) (nI (32 * tqX ca i j i j + ca (i * 7 + j) % 32 + 64))).1 sp s = M2.1 sp s := fun s hs => by rw [mI_at, if_neg (fun h => hs h.2), mI_at, if_neg (fun h => hs h.2)]
            exact T6 _ k1 (fun a ha => by rw [mI_ne _ _ _ ha, mI_ne _ _ _ ha]; exact k2 a ha) (h128 _ w2 ⟨_, by omega, w1⟩) (by rw [w1, t0, Nat.add_assoc]) w2
      have fin := lp2 M1 f1 f2 f3 f4
      repeat (first | refine x_kcg rfl ?_ | refine x_opp rfl rfl ?_ | refine x_go rfl ?_ | refine m_getg h1 rfl rfl rfl ?_)
      rw [e5]
      refine x_icm br_ge (fun h => absurd h (nI_ge hi (by omega))) (fun _ => ?_)
      repeat (first | refine x_kcg rfl ?_ | refine x_incg rfl rfl ?_ | refine x_opp rfl rfl ?_)
      refine x_fall ?_
      refine x_lvs [(0, .ref g), (1, .int (nI i)), (2, .int (nI 0))] rfl rfl rfl ⟨rfl, rfl, rfl, trivial⟩ ?_
      exact fin
  repeat (first | refine x_kcg rfl ?_ | refine x_opp rfl rfl ?_ | refine x_go rfl ?_ | refine m_getg h1 rfl rfl rfl ?_)
  refine m_callS rfl rfl (c_fill hsp (by decide) ?_)
  have fz : ∀ s, s < 49 → (m_setA M sp (aFill (M.1 sp) 49 0)).1 sp s = 0 := fun s hs => by
    rw [mA_eq]
    unfold aFill
    rw [if_pos hs]
  have fin := lp (m_setA M sp (aFill (M.1 sp) 49 0)) rfl (fun a ha => mA_ne _ _ ha) (fun s hs => ⟨0, by decide, fz s hs⟩) (fun a b ha hb => by
    rw [fz _ (by omega), tq_0.1, tq_0.2]
    rfl)
  repeat (first | refine x_kcg rfl ?_ | refine x_incg rfl rfl ?_ | refine x_opp rfl rfl ?_)
  refine x_fall ?_
  refine x_lvs [(0, .ref g), (1, .int (nI 0))] rfl rfl rfl ⟨rfl, rfl, trivial⟩ ?_
  exact fin
end CGT
