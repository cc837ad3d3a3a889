/-! the entries of a grid, seen from its joins -/
def vJR (h : Int32) (ln cs : Nat → Int32) (i j : Nat) : Bool := decide (i < 7) && (decide (j < 7) && gJR h ln cs (nI i) (nI j))
def vJB (h : Int32) (ln cs : Nat → Int32) (i j : Nat) : Bool := decide (i < 7) && (decide (j < 7) && gJB h ln cs (nI i) (nI j))
/-- what a grid's numbers keep to -/
def vOK (h : Int32) (ln : Nat → Int32) (H Wd : Nat) : Prop := h = nI H ∧ H ≤ 7 ∧ Wd ≤ 7 ∧ ∀ i, i < 7 → -1 ≤ ln i ∧ ln i ≤ nI Wd
theorem vOK_7 {h : Int32} {ln : Nat → Int32} {H Wd : Nat} (v : vOK h ln H Wd) : ∀ i, i < 7 → -1 ≤ ln i ∧ ln i ≤ 7 := fun i hi => ⟨(v.2.2.2 i hi).1, Int32.le_trans (v.2.2.2 i hi).2 (nI_le (b := 7) v.2.2.1 (by decide))⟩
theorem vOK_h {h : Int32} {ln : Nat → Int32} {H Wd : Nat} (v : vOK h ln H Wd) : h ≤ 7 := by rw [v.1]; exact nI_le (b := 7) v.2.1 (by decide)
/-- a white square is inside -/
theorem gWh_in {h : Int32} {ln cs : Nat → Int32} {H Wd i j : Nat} (v : vOK h ln H Wd) (hi : i < 7) (hj : j < 14) (g : gWh h ln cs (nI i) (nI j) = true) : i < H ∧ j < Wd ∧ j < (ln i).toNatClampNeg := by
  obtain ⟨i', j', hi', hj', e1, e2⟩ := gWh_t g (vOK_h v) (vOK_7 v)
  have e1 := (nI_eq (by omega) (by omega)).mp e1
  have e2 := (nI_eq (by omega) (by omega)).mp e2
  subst e1 e2
  have hw : wS h ln cs (i * 7 + j) = true := by
    unfold wS
    rw [show (i * 7 + j) / 7 = i by omega, show (i * 7 + j) % 7 = j by omega]
    exact g
  have k := wS_t v.1 v.2.1 (vOK_7 v) (show i * 7 + j < 49 by omega) hw
  rw [show (i * 7 + j) / 7 = i by omega, show (i * 7 + j) % 7 = j by omega] at k
  refine ⟨k.1, ?_, k.2⟩
  have hb := v.2.2.2 i hi
  have h2 := k.2
  obtain ⟨l7, lj⟩ := ln_nat hb.1 (vOK_7 v i hi).2
  have := (lj Wd v.2.2.1).1 hb.2
  omega
theorem gJR_w {h : Int32} {ln cs : Nat → Int32} {r k : Int32} (g : gJR h ln cs r k = true) : gWh h ln cs r k = true ∧ gWh h ln cs r (k + 1) = true := by
  unfold gJR at g
  split at g
  · cases g
  · split at g
    · cases g
    · rename_i h1 h2
      exact ⟨nf_t h1, nf_t h2⟩
theorem gJB_w {h : Int32} {ln cs : Nat → Int32} {r k : Int32} (g : gJB h ln cs r k = true) : gWh h ln cs r k = true ∧ gWh h ln cs (r + 1) k = true := by
  unfold gJB at g
  split at g
  · cases g
  · split at g
    · cases g
    · rename_i h1 h2
      exact ⟨nf_t h1, nf_t h2⟩
theorem v_jOK {h : Int32} {ln cs : Nat → Int32} {H Wd : Nat} (v : vOK h ln H Wd) : jOK (vJR h ln cs) (vJB h ln cs) Wd H := by
  have tR : ∀ i j, vJR h ln cs i j = true → i < 7 ∧ j < 7 ∧ i < H ∧ j + 1 < Wd := by
    intro i j hg
    unfold vJR at hg
    rw [Bool.and_eq_true, Bool.and_eq_true, decide_eq_true_iff, decide_eq_true_iff] at hg
    obtain ⟨hi, hj, g⟩ := hg
    have k := (gJR_w g).2
    rw [nI_1] at k
    have := gWh_in v hi (by omega) k
    exact ⟨hi, hj, this.1, this.2.1⟩
  have tB : ∀ i j, vJB h ln cs i j = true → i < 7 ∧ j < 7 ∧ i + 1 < H ∧ j < Wd := by
    intro i j hg
    unfold vJB at hg
    rw [Bool.and_eq_true, Bool.and_eq_true, decide_eq_true_iff, decide_eq_true_iff] at hg
    obtain ⟨hi, hj, g⟩ := hg
    have k := (gJB_w g).2
    rw [nI_1] at k
    obtain ⟨i', j', hi', hj', e1, e2⟩ := gWh_t k (vOK_h v) (vOK_7 v)
    have e1 := (nI_eq (by omega) (by omega)).mp e1
    have := gWh_in v (show i + 1 < 7 by omega) (by omega) k
    exact ⟨hi, hj, this.1, this.2.1⟩
  refine ⟨v.2.2.1, v.2.1, fun i j hc => ?_, fun i j hc => ?_, fun i j hc => ?_, fun i j hc => ?_⟩
  · exact nt_f (fun h => by have := tR i j h; omega)
  · exact nt_f (fun h => by have := tR i j h; omega)
  · exact nt_f (fun h => by have := tB i j h; omega)
  · exact nt_f (fun h => by have := tB i j h; omega)
theorem v_R {h : Int32} {ln cs : Nat → Int32} {i j : Nat} (hi : i < 7) (hj : j < 7) : vJR h ln cs i j = gJR h ln cs (nI i) (nI j) := by
  unfold vJR
  rw [decide_eq_true hi, decide_eq_true hj]
  rfl
theorem v_B {h : Int32} {ln cs : Nat → Int32} {i j : Nat} (hi : i < 7) (hj : j < 7) : vJB h ln cs i j = gJB h ln cs (nI i) (nI j) := by
  unfold vJB
  rw [decide_eq_true hi, decide_eq_true hj]
  rfl
theorem gWh_m1c {h : Int32} {ln cs : Nat → Int32} {r : Int32} : gWh h ln cs r (-1) = false := by
  unfold gWh gPl
  split
  · rfl
  · rw [if_pos (show (-1 : Int32) < 0 by decide), if_pos rfl]
theorem gWh_m1r {h : Int32} {ln cs : Nat → Int32} {k : Int32} : gWh h ln cs (-1) k = false := by
  unfold gWh gRow
  rw [if_pos (show (-1 : Int32) < 0 by decide), if_pos rfl]
theorem v_lR {h : Int32} {ln cs : Nat → Int32} {i j : Nat} (hi : i < 7) (hj : j < 7) : gJR h ln cs (nI i) (nI j - 1) = (Nat.ble 1 j && vJR h ln cs i (j - 1)) := by
  cases j with
  | zero =>
    have : gJR h ln cs (nI i) (nI 0 - 1) = false := by
      rw [show nI 0 - 1 = -1 from rfl]
      exact nt_f (fun g => by have := (gJR_w g).1; rw [gWh_m1c] at this; cases this)
    rw [this]
    rfl
  | succ j =>
    rw [nI_pred, Nat.add_sub_cancel, v_R hi (by omega), ble_dec, decide_eq_true (by omega : 1 ≤ j + 1), Bool.true_and]
theorem v_lB {h : Int32} {ln cs : Nat → Int32} {i j : Nat} (hi : i < 7) (hj : j < 7) : gJB h ln cs (nI i - 1) (nI j) = (Nat.ble 1 i && vJB h ln cs (i - 1) j) := by
  cases i with
  | zero =>
    have : gJB h ln cs (nI 0 - 1) (nI j) = false := by
      rw [show nI 0 - 1 = -1 from rfl]
      exact nt_f (fun g => by have := (gJB_w g).1; rw [gWh_m1r] at this; cases this)
    rw [this]
    rfl
  | succ i =>
    rw [nI_pred, Nat.add_sub_cancel, v_B (by omega) hj, ble_dec, decide_eq_true (by omega : 1 ≤ i + 1), Bool.true_and]
theorem v_eA {h : Int32} {ln cs : Nat → Int32} {i j : Nat} (hi : i < 7) (hj : j < 7) : eA h ln cs i j = aA (vJR h ln cs) i j := by
  unfold eA aA lA
  rw [v_lR hi hj, ← v_R hi hj]
  cases vJR h ln cs i j <;> cases (Nat.ble 1 j && vJR h ln cs i (j - 1)) <;> rfl
theorem v_eB {h : Int32} {ln cs : Nat → Int32} {i j : Nat} (hi : i < 7) (hj : j < 7) : eB h ln cs i j = aB (vJB h ln cs) i j := by
  unfold eB aB lA
  rw [v_lB hi hj, ← v_B hi hj]
  dsimp only
  cases vJB h ln cs i j <;> cases (Nat.ble 1 i && vJB h ln cs (i - 1) j) <;> rfl
theorem runF_ext {p q : Nat → Bool} : ∀ {k m}, (∀ n, m ≤ n → n < m + k → p n = q n) → runF p m k = runF q m k
  | 0, _, _ => rfl
  | k + 1, m, h => by
    unfold runF
    rw [h m (Nat.le_refl _) (by omega), runF_ext (fun n h1 h2 => h n (by omega) (by omega))]
theorem v_La {h : Int32} {ln cs : Nat → Int32} {H Wd i j : Nat} (v : vOK h ln H Wd) (hi : i < 7) (hj : j < 7) : eLa h ln cs i j = aL (vJR h ln cs) i j := by
  unfold eLa aL lL
  refine runF_ext (fun n h1 h2 => ?_)
  by_cases g : j + n - 1 < 7
  · exact (v_R hi g).symm
  · have e1 : vJR h ln cs i (j + n - 1) = false := by
      unfold vJR
      rw [decide_eq_false g, Bool.false_and, Bool.and_false]
    rw [e1]
    exact nt_f (fun h3 => by
      have := gJR_hi (vOK_h v) (vOK_7 v) (by omega) h3
      omega)
theorem v_Lb {h : Int32} {ln cs : Nat → Int32} {H Wd i j : Nat} (v : vOK h ln H Wd) (hi : i < 7) (hj : j < 7) : eLb h ln cs i j = bL (vJB h ln cs) i j := by
  unfold eLb bL lL
  refine runF_ext (fun n h1 h2 => ?_)
  by_cases g : i + n - 1 < 7
  · exact (v_B g hj).symm
  · have e1 : vJB h ln cs (i + n - 1) j = false := by
      unfold vJB
      rw [decide_eq_false g, Bool.false_and]
    show gJB h ln cs (nI (i + n - 1)) (nI j) = vJB h ln cs (i + n - 1) j
    rw [e1]
    exact nt_f (fun h3 => by
      have := gJB_hi (vOK_h v) (vOK_7 v) (by omega) h3
      omega)
theorem eRow_ext {A B A' B' : Nat → Nat → Bool} {la lb la' lb' : Nat → Nat → Nat} {i : Nat} {s : List eT × Nat} : ∀ j, (∀ k, k < j → A i k = A' i k ∧ B i k = B' i k ∧ la i k = la' i k ∧ lb i k = lb' i k) → eRow A B la lb i s j = eRow A' B' la' lb' i s j
  | 0, _ => rfl
  | j + 1, h => by
    unfold eRow eStep
    obtain ⟨h1, h2, h3, h4⟩ := h j (by omega)
    rw [eRow_ext j (fun k hk => h k (by omega)), h1, h2, h3, h4]
theorem eAll_ext {A B A' B' : Nat → Nat → Bool} {la lb la' lb' : Nat → Nat → Nat} {W : Nat} : ∀ i, (∀ k j, k < i → j < W → A k j = A' k j ∧ B k j = B' k j ∧ la k j = la' k j ∧ lb k j = lb' k j) → eAll A B la lb W i = eAll A' B' la' lb' W i
  | 0, _ => rfl
  | i + 1, h => by
    unfold eAll
    rw [eAll_ext i (fun k j hk => h k j (by omega)), eRow_ext W (fun k hk => h i k (by omega) hk)]
theorem v_ents {h : Int32} {ln cs : Nat → Int32} {H Wd : Nat} (v : vOK h ln H Wd) : ents h ln cs Wd H = eAl (vJR h ln cs) (vJB h ln cs) Wd H := by
  unfold ents eAl
  rw [eAll_ext H (fun k j hk hj => ⟨v_eA (by have := v.2.1; omega) (by have := v.2.2.1; omega), v_eB (by have := v.2.1; omega) (by have := v.2.2.1; omega), v_La v (by have := v.2.1; omega) (by have := v.2.2.1; omega), v_Lb v (by have := v.2.1; omega) (by have := v.2.2.1; omega)⟩)]
theorem v_len {h : Int32} {ln cs : Nat → Int32} {H Wd : Nat} (v : vOK h ln H Wd) : (ents h ln cs Wd H).length ≤ 42 := by rw [v_ents v]; exact eAl_len (v_jOK v)
theorem v_eok {h : Int32} {ln cs : Nat → Int32} {H Wd : Nat} (v : vOK h ln H Wd) : ∀ e, e ∈ ents h ln cs Wd H → eOK e := by rw [v_ents v]; exact eAl_ok (v_jOK v)
theorem cov_bool : ∀ a b c e : Bool, ((if a = true then (1 : Int32) else if b = true then 1 else 0) + (if c = true then 1 else if e = true then 1 else 0)) = nI ((if (a || b) = true then 1 else 0) + (if (c || e) = true then 1 else 0)) := by decide
/-- entries through a square: counted by joins, counted over all entries -/
theorem v_cov {h : Int32} {ln cs : Nat → Int32} {H Wd s : Nat} (v : vOK h ln H Wd) (hs : s < 49) : gTh h ln cs (nI (s / 7)) (nI (s % 7)) = nI (lsum (eCov s) (ents h ln cs Wd H)) := by
  rw [v_ents v, eAl_cov (v_jOK v) hs]
  unfold gTh lIn
  rw [v_lR (by omega) (by omega), v_lB (by omega) (by omega), ← v_R (by omega) (by omega), ← v_B (by omega) (by omega)]
  exact cov_bool _ _ _ _
