/-! the grid: counting -/
theorem loop_dn {P : Nat → Prop} (N : Nat) (h0 : P N) (hs : ∀ j, j < N → P (j + 1) → P j) : P 0 := by
  have h : ∀ k, k ≤ N → P (N - k) := by
    intro k
    induction k with
    | zero => exact fun _ => h0
    | succ k ih =>
      intro hk
      have h1 := ih (by omega)
      have e : N - k = (N - (k + 1)) + 1 := by omega
      rw [e] at h1
      exact hs _ (by omega) h1
  have h1 := h N (Nat.le_refl N)
  rw [Nat.sub_self] at h1
  exact h1
def cnt (p : Nat → Bool) : Nat → Nat
  | 0 => 0
  | n + 1 => cnt p n + (if p n = true then 1 else 0)
def sumN (f : Nat → Nat) : Nat → Nat
  | 0 => 0
  | n + 1 => sumN f n + f n
theorem cnt_t {p : Nat → Bool} {n : Nat} (h : p n = true) : cnt p (n + 1) = cnt p n + 1 := by
  show cnt p n + (if p n = true then 1 else 0) = _
  rw [if_pos h]
theorem cnt_f {p : Nat → Bool} {n : Nat} (h : p n = false) : cnt p (n + 1) = cnt p n := by
  show cnt p n + (if p n = true then 1 else 0) = _
  rw [if_neg (by rw [h]; exact Bool.false_ne_true)]
  rfl
theorem cnt_le (p : Nat → Bool) : ∀ n, cnt p n ≤ n
  | 0 => Nat.le_refl 0
  | n + 1 => by
    have := cnt_le p n
    unfold cnt
    split <;> omega
theorem n7 {x : Int32} (h0 : 0 ≤ x) (h7 : x ≤ 7) : ∃ n : Nat, n ≤ 7 ∧ x = nI n := by
  have h1 : ¬ x < 0 := by
    rw [Int32.lt_iff_toInt_lt]
    rw [Int32.le_iff_toInt_le] at h0
    have e0 : (0 : Int32).toInt = 0 := by decide
    omega
  obtain ⟨j, hj, rfl⟩ := nI_of h1
  refine ⟨j, ?_, rfl⟩
  rw [Int32.le_iff_toInt_le, nI_toInt hj] at h7
  have e7 : (7 : Int32).toInt = 7 := by decide
  omega
/-- a row's length: -1 or a number up to 7 -/
theorem ln7 {x : Int32} (hm : -1 ≤ x) (h7 : x ≤ 7) : x = -1 ∨ ∃ n : Nat, n ≤ 7 ∧ x = nI n := by
  by_cases h0 : 0 ≤ x
  · exact Or.inr (n7 h0 h7)
  · refine Or.inl ?_
    rw [Int32.le_iff_toInt_le] at hm h0
    have em : (-1 : Int32).toInt = -1 := by decide
    have e0 : (0 : Int32).toInt = 0 := by decide
    apply Int32.toInt_inj.mp
    omega
theorem ln_cl {x : Int32} (hm : -1 ≤ x) (h7 : x ≤ 7) : x.toNatClampNeg ≤ 7 := by
  rcases ln7 hm h7 with rfl | ⟨n, hn, rfl⟩
  · decide
  · rw [nI_clamp (by omega)]; exact hn
theorem ln_ge {x : Int32} (hm : -1 ≤ x) (h7 : x ≤ 7) {j : Nat} (hj : x.toNatClampNeg ≤ j) (hb : j ≤ 7) : x ≤ nI j := by
  rcases ln7 hm h7 with rfl | ⟨n, hn, rfl⟩
  · rw [Int32.le_iff_toInt_le, nI_toInt (by omega)]
    have em : (-1 : Int32).toInt = -1 := by decide
    omega
  · rw [nI_clamp (by omega)] at hj
    exact nI_le hj (by omega)
theorem ln_lt {x : Int32} (hm : -1 ≤ x) (h7 : x ≤ 7) {j : Nat} (hj : j < x.toNatClampNeg) : ¬ x ≤ nI j := by
  rcases ln7 hm h7 with rfl | ⟨n, hn, rfl⟩
  · exact absurd hj (by rw [show (-1 : Int32).toNatClampNeg = 0 from by decide]; omega)
  · rw [nI_clamp (by omega)] at hj
    exact nI_ge hj (by omega)
/-- squares of a row that are no black -/
def gWr (cs : Nat → Int32) (i : Nat) : Nat → Bool := fun j => decide (cs (i * 7 + j) &&& 31 ≠ 27)
def gLr (cs : Nat → Int32) (i : Nat) : Nat → Bool := fun j => decide (1 ≤ cs (i * 7 + j) &&& 31) && decide (cs (i * 7 + j) &&& 31 ≤ 26)
def gWN (H : Nat) (ln cs : Nat → Int32) : Nat := sumN (fun i => cnt (gWr cs i) (ln i).toNatClampNeg) H
def gLN (H : Nat) (ln cs : Nat → Int32) : Nat := sumN (fun i => cnt (gLr cs i) (ln i).toNatClampNeg) H
section G3
variable {L : Nat} {xs : Nat → Int32} {d : Nat} {sh : List sh_T} {M : mm_T} {Q : Option Value → sm_W → Prop} {g c l sp re : Nat}
theorem c_whites {H : Nat} (hg : gSh sh g c l sp re) (hk : gOK M g l) (hH : M.1 g 5 = nI H) (hH7 : H ≤ 7) (hq : Q (some (.int (nI (gWN H (M.1 l) (M.1 c))))) (wm sh M)) : sm_E L xs (d + 2) 115 [.ref g] (wm sh M) Q := by
  have hl := gOK_7 hk
  refine e_intro rfl rfl ?_
  repeat (first | refine x_kcg rfl ?_ | refine x_incg rfl rfl ?_ | refine x_opp rfl rfl ?_)
  refine x_fall ?_
  refine x_lvs [(0, .ref g), (1, .int (nI 0)), (2, .int (nI 0))] rfl rfl rfl ⟨rfl, rfl, rfl, trivial⟩ ?_
  refine loop_dn (P := fun i => sm_X L xs (d + 1) 115 1 (sm_code 115 1) [(0, .ref g), (1, .int (nI (gWN i (M.1 l) (M.1 c)))), (2, .int (nI i))] [] (wm sh M) Q) H ?_ ?_
  · repeat (first | refine x_kcg rfl ?_ | refine x_opp rfl rfl ?_ | refine x_go rfl ?_ | refine m_getg hg.1 rfl rfl rfl ?_)
    rw [hH]
    refine x_icm br_ge (fun _ => ?_) (fun h1 => absurd (nI_le (Nat.le_refl H) (by omega)) h1)
    repeat (first | refine x_kcg rfl ?_ | refine x_opp rfl rfl ?_ | refine x_go rfl ?_)
    exact x_iret rfl hq
  · intro i hi hP
    have hi7 : i < 7 := by omega
    repeat (first | refine x_kcg rfl ?_ | refine x_opp rfl rfl ?_ | refine x_go rfl ?_ | refine m_getg hg.1 rfl rfl rfl ?_)
    rw [hH]
    refine x_icm br_ge (fun h1 => absurd h1 (nI_ge hi (by omega))) (fun _ => ?_)
    repeat (first | refine x_kcg rfl ?_ | refine x_incg rfl rfl ?_ | refine x_opp rfl rfl ?_)
    refine x_fall ?_
    refine x_lvs [(0, .ref g), (1, .int (nI (gWN i (M.1 l) (M.1 c) + cnt (gWr (M.1 c) i) 0))), (2, .int (nI i)), (3, .int (nI 0))] rfl rfl rfl ⟨rfl, rfl, rfl, rfl, trivial⟩ ?_
    refine loop_dn (P := fun j => sm_X L xs (d + 1) 115 3 (sm_code 115 3) [(0, .ref g), (1, .int (nI (gWN i (M.1 l) (M.1 c) + cnt (gWr (M.1 c) i) j))), (2, .int (nI i)), (3, .int (nI j))] [] (wm sh M) Q) (M.1 l i).toNatClampNeg ?_ ?_
    · have hc7 := ln_cl (hl i hi7).1 (hl i hi7).2
      repeat (first | refine x_kcg rfl ?_ | refine x_opp rfl rfl ?_ | refine x_go rfl ?_ | refine m_getg hg.1 rfl rfl rfl ?_)
      refine m_iald hg.2.2.1 (in7 hi7) ?_
      rw [nI_clamp (by omega)]
      refine x_icm br_ge (fun _ => ?_) (fun h1 => absurd (ln_ge (hl i hi7).1 (hl i hi7).2 (Nat.le_refl _) hc7) h1)
      repeat (first | refine x_kcg rfl ?_ | refine x_incg rfl rfl ?_ | refine x_opp rfl rfl ?_)
      refine x_goto ?_
      refine x_lvs [(0, .ref g), (1, .int (nI (gWN (i + 1) (M.1 l) (M.1 c)))), (2, .int (nI (i + 1)))] rfl rfl rfl ⟨rfl, rfl, rfl, trivial⟩ ?_
      exact hP
    · intro j hj hP2
      have hj7 : j < 7 := Nat.lt_of_lt_of_le hj (ln_cl (hl i hi7).1 (hl i hi7).2)
      repeat (first | refine x_kcg rfl ?_ | refine x_opp rfl rfl ?_ | refine x_go rfl ?_ | refine m_getg hg.1 rfl rfl rfl ?_)
      refine m_iald hg.2.2.1 (in7 hi7) ?_
      rw [nI_clamp (by omega)]
      refine x_icm br_ge (fun h1 => absurd h1 (ln_lt (hl i hi7).1 (hl i hi7).2 hj)) (fun _ => ?_)
      repeat (first | refine x_kcg rfl ?_ | refine x_opp rfl rfl ?_ | refine x_go rfl ?_ | refine m_getg hg.1 rfl rfl rfl ?_)
      refine m_callV hg.1 rfl rfl rfl (c_signOf hg.1 hg.2.1 (in49 hi7 hj7) ?_)
      rw [mul7, nI_clamp (by omega)]
      repeat (first | refine x_kcg rfl ?_ | refine x_opp rfl rfl ?_ | refine x_go rfl ?_)
      refine x_icm br_eq (fun h2 => ?_) (fun h2 => ?_)
      · have e : cnt (gWr (M.1 c) i) (j + 1) = cnt (gWr (M.1 c) i) j := cnt_f (decide_eq_false (fun h => h h2))
        rw [e] at hP2
        repeat (first | refine x_kcg rfl ?_ | refine x_incg rfl rfl ?_ | refine x_opp rfl rfl ?_)
        refine x_goto ?_
        refine x_lvs [(0, .ref g), (1, .int (nI (gWN i (M.1 l) (M.1 c) + cnt (gWr (M.1 c) i) j))), (2, .int (nI i)), (3, .int (nI (j + 1)))] rfl rfl rfl ⟨rfl, rfl, rfl, rfl, trivial⟩ ?_
        exact hP2
      · have e : cnt (gWr (M.1 c) i) (j + 1) = cnt (gWr (M.1 c) i) j + 1 := cnt_t (decide_eq_true h2)
        rw [e] at hP2
        repeat (first | refine x_kcg rfl ?_ | refine x_incg rfl rfl ?_ | refine x_opp rfl rfl ?_)
        refine x_fall ?_
        repeat (first | refine x_kcg rfl ?_ | refine x_incg rfl rfl ?_ | refine x_opp rfl rfl ?_)
        refine x_goto ?_
        refine x_lvs [(0, .ref g), (1, .int (nI (gWN i (M.1 l) (M.1 c) + (cnt (gWr (M.1 c) i) j + 1)))), (2, .int (nI i)), (3, .int (nI (j + 1)))] rfl rfl rfl ⟨rfl, rfl, rfl, rfl, trivial⟩ ?_
        exact hP2
end G3
