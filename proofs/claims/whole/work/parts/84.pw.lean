/-! counts of a grid, half turns, two views of one grid -/
theorem gPl_vis {ln : Int32} {j : Nat} (hm : -1 ≤ ln) (h7 : ln ≤ 7) (hj : j < 8) : gPl ln (nI j) 1 = decide (j < ln.toNatClampNeg) := by
  unfold gPl
  rw [if_neg (nI_pos (by omega))]
  obtain ⟨l7, lj⟩ := ln_nat hm h7
  have e1 : (1 : Int32).toInt = 1 := by decide
  have e7 : (7 : Int32).toInt = 7 := by decide
  have em : (-1 : Int32).toInt = -1 := by decide
  have hm2 := hm
  have h72 := h7
  rw [Int32.le_iff_toInt_le] at hm2 h72
  have es : (ln - 1).toInt = ln.toInt - 1 := by
    rw [Int32.toInt_sub, e1]
    apply Int.bmod_eq_of_le <;> omega
  have hjt : (nI j).toInt = j := nI_toInt (by omega)
  by_cases g : ln - 1 < nI j
  · rw [if_pos g, eq_comm, decide_eq_false_iff_not]
    rw [Int32.lt_iff_toInt_lt, es, hjt] at g
    intro h
    have h2 : ln.toInt.toNat = ln.toNatClampNeg := rfl
    omega
  · rw [if_neg g, eq_comm, decide_eq_true_iff]
    rw [Int32.lt_iff_toInt_lt, es, hjt] at g
    have h2 : ln.toInt.toNat = ln.toNatClampNeg := rfl
    omega
theorem gRow_vis {H i : Nat} (hH : H ≤ 7) (hi : i < 8) : gRow (nI H) (nI i) = decide (i < H) := by
  unfold gRow
  rw [if_neg (nI_pos (by omega))]
  by_cases g : nI H ≤ nI i
  · rw [if_pos g, eq_comm, decide_eq_false_iff_not]
    rw [nI_leI (by omega) (by omega)] at g
    omega
  · rw [if_neg g, eq_comm, decide_eq_true_iff]
    rw [nI_leI (by omega) (by omega)] at g
    omega
theorem gWh_vis {h : Int32} {ln cs : Nat → Int32} {H Wd i j : Nat} (v : vOK h ln H Wd) (hi : i < 7) (hj : j < 7) : gWh h ln cs (nI i) (nI j) = (decide (i < H) && (decide (j < (ln i).toNatClampNeg) && decide (cs (i * 7 + j) &&& 31 ≠ 27))) := by
  have hb := vOK_7 v i hi
  unfold gWh
  rw [v.1, gRow_vis v.2.1 (by omega), nI_clamp (by omega), gPl_vis hb.1 hb.2 (by omega), mul7, nI_clamp (by omega)]
  by_cases g1 : i < H
  · rw [decide_eq_true g1, if_neg (by decide)]
    by_cases g2 : j < (ln i).toNatClampNeg
    · rw [decide_eq_true g2, if_neg (by decide)]
      by_cases g3 : cs (i * 7 + j) &&& 31 = 27
      · rw [if_pos g3, decide_eq_false (fun h => h g3)]
        rfl
      · rw [if_neg g3, decide_eq_true g3]
        rfl
    · rw [decide_eq_false g2, if_pos rfl]
      rfl
  · rw [decide_eq_false g1, if_pos rfl]
    rfl
theorem cnt_rows {p : Nat → Bool} {ln : Nat → Int32} {H : Nat} (hH : H ≤ 7) (hl : ∀ i, i < 7 → (ln i).toNatClampNeg ≤ 7) (hp : ∀ s, s < 49 → p s = true → s / 7 < H ∧ s % 7 < (ln (s / 7)).toNatClampNeg) : cnt p 49 = sumN (fun i => cnt (fun j => p (i * 7 + j)) (ln i).toNatClampNeg) H := by
  rw [show 49 = 7 * 7 from rfl, cnt_7 p 7, sumN_ext (fun i => cnt (fun j => p (i * 7 + j)) 7) hH]
  · refine sumN_eq (fun i hi => ?_)
    refine cnt_ext _ (hl i (by omega)) (fun j h1 h2 => nt_f (fun h => ?_))
    have := (hp (i * 7 + j) (by omega) h).2
    rw [show (i * 7 + j) / 7 = i by omega, show (i * 7 + j) % 7 = j by omega] at this
    omega
  · intro i h1 h2
    rw [cnt_eq (q := fun _ => false) (fun j hj => nt_f (fun h => ?_)), cnt_0]
    have := (hp (i * 7 + j) (by omega) h).1
    rw [show (i * 7 + j) / 7 = i by omega] at this
    omega
theorem vOK_l7 {h : Int32} {ln : Nat → Int32} {H Wd : Nat} (v : vOK h ln H Wd) : ∀ i, i < 7 → (ln i).toNatClampNeg ≤ 7 := fun i hi => (ln_nat (vOK_7 v i hi).1 (vOK_7 v i hi).2).1
theorem wS_in {h : Int32} {ln cs : Nat → Int32} {H Wd i j : Nat} (v : vOK h ln H Wd) (hi : i < H) (hj : j < (ln i).toNatClampNeg) : wS h ln cs (i * 7 + j) = decide (cs (i * 7 + j) &&& 31 ≠ 27) := by
  have h7 := vOK_l7 v i (by have := v.2.1; omega)
  unfold wS
  rw [show (i * 7 + j) / 7 = i by omega, show (i * 7 + j) % 7 = j by omega, gWh_vis v (by have := v.2.1; omega) (by omega), decide_eq_true hi, decide_eq_true hj, Bool.true_and, Bool.true_and]
/-- white squares, counted by rows and over all squares -/
theorem v_WN {h : Int32} {ln cs : Nat → Int32} {H Wd : Nat} (v : vOK h ln H Wd) (es : List eT) : gWN H ln cs = cnt (fun s => wS h ln cs s && (decide ((-1 : Int32) < 0) || decide (nI (lsum (eCov s) es) = -1))) 49 := by
  rw [cnt_rows v.2.1 (vOK_l7 v) (fun s hs hw => by rw [Bool.and_eq_true] at hw; exact wS_t v.1 v.2.1 (vOK_7 v) hs hw.1)]
  unfold gWN
  refine sumN_eq (fun i hi => cnt_eq (fun j hj => ?_))
  show decide (cs (i * 7 + j) &&& 31 ≠ 27) = _
  rw [wS_in v hi hj, decide_eq_true (by decide : (-1 : Int32) < 0), Bool.true_or, Bool.and_true]
/-- white squares in so many entries -/
theorem v_EN {h : Int32} {ln cs : Nat → Int32} {H Wd : Nat} (v : vOK h ln H Wd) {o : Int32} (ho : ¬ o < 0) : gEN H h ln cs o = cnt (fun s => wS h ln cs s && (decide (o < 0) || decide (nI (lsum (eCov s) (ents h ln cs Wd H)) = o))) 49 := by
  rw [cnt_rows v.2.1 (vOK_l7 v) (fun s hs hw => by rw [Bool.and_eq_true] at hw; exact wS_t v.1 v.2.1 (vOK_7 v) hs hw.1)]
  unfold gEN
  refine sumN_eq (fun i hi => cnt_eq (fun j hj => ?_))
  have h7 := vOK_l7 v i (by have := v.2.1; omega)
  have hH := v.2.1
  have e1 : (i * 7 + j) / 7 = i := by omega
  have e2 : (i * 7 + j) % 7 = j := by omega
  have k := v_cov (cs := cs) v (show i * 7 + j < 49 by omega)
  rw [e1, e2] at k
  rw [decide_eq_false ho, Bool.false_or, ← k]
  show (gWh h ln cs (nI i) (nI j) && decide (gTh h ln cs (nI i) (nI j) = o)) = _
  unfold wS
  rw [e1, e2]
theorem anyB_t_iff (p : Nat → Bool) (n : Nat) : anyB p n = true ↔ ∃ i, i < n ∧ p i = true := by
  constructor
  · intro h
    by_cases g : ∃ i, i < n ∧ p i = true
    · exact g
    · have : anyB p n = false := (anyB_iff p n).mpr (fun i hi => nt_f (fun h2 => g ⟨i, hi, h2⟩))
      rw [this] at h
      cases h
  · rintro ⟨i, hi, h⟩
    exact anyB_t h hi
theorem any2_iff (p : Nat → Nat → Bool) (W H : Nat) : any2 p W H = true ↔ ∃ i j, i < H ∧ j < W ∧ p i j = true := by
  unfold any2
  rw [anyB_t_iff]
  constructor
  · rintro ⟨i, hi, h⟩
    obtain ⟨j, hj, h2⟩ := (anyB_t_iff _ _).mp h
    exact ⟨i, j, hi, hj, h2⟩
  · rintro ⟨i, j, hi, hj, h⟩
    exact ⟨i, hi, (anyB_t_iff _ _).mpr ⟨j, hj, h⟩⟩
theorem turn_n {H i : Nat} (hi : i < H) : nI H - 1 - nI i = nI (H - 1 - i) := by
  rw [show (1 : Int32) = nI 1 from rfl, pk_sub (by omega), pk_sub (by omega)]
/-- half turns: asked one way, asked both ways -/
theorem v_half {h w : Int32} {ln cs : Nat → Int32} {H Wd : Nat} (hh : h = nI H) (hw : w = nI Wd) : any2 (gHt h w ln cs) Wd H = any2 (gHm h w ln cs) Wd H := by
  have key : any2 (gHt h w ln cs) Wd H = true ↔ any2 (gHm h w ln cs) Wd H = true := by
    rw [any2_iff, any2_iff]
    constructor
    · rintro ⟨i, j, hi, hj, g⟩
      refine ⟨i, j, hi, hj, ?_⟩
      unfold gHt at g
      unfold gHm
      rw [Bool.and_eq_true, Bool.not_eq_true'] at g
      rw [g.1, g.2]
      rfl
    · rintro ⟨i, j, hi, hj, g⟩
      unfold gHm at g
      rw [bne_iff_ne] at g
      cases a : gWh h ln cs (nI i) (nI j) with
      | true =>
        refine ⟨i, j, hi, hj, ?_⟩
        unfold gHt
        rw [a] at g
        rw [a, nt_f (fun e => g e.symm)]
        rfl
      | false =>
        refine ⟨H - 1 - i, Wd - 1 - j, by omega, by omega, ?_⟩
        rw [a] at g
        unfold gHt
        rw [hh, hw] at *
        rw [turn_n hi, turn_n hj] at g
        rw [turn_n (show H - 1 - i < H by omega), turn_n (show Wd - 1 - j < Wd by omega), show H - 1 - (H - 1 - i) = i by omega, show Wd - 1 - (Wd - 1 - j) = j by omega, a, nf_t (fun e => g e.symm)]
        rfl
  cases x : any2 (gHm h w ln cs) Wd H with
  | true => exact key.mpr x
  | false => exact nt_f (fun e => by rw [key.mp e] at x; cases x)
/-- two views of one grid: the same lengths, the same visible squares -/
def vEq (ln ln' cs cs' : Nat → Int32) (H : Nat) : Prop := (∀ i, i < 7 → ln i = ln' i) ∧ ∀ i j, i < H → j < (ln i).toNatClampNeg → cs (i * 7 + j) = cs' (i * 7 + j)
theorem vEq_Wh {h : Int32} {ln ln' cs cs' : Nat → Int32} {H Wd : Nat} (v : vOK h ln H Wd) (e : vEq ln ln' cs cs' H) (r k : Int32) : gWh h ln cs r k = gWh h ln' cs' r k := by
  have v' : vOK h ln' H Wd := ⟨v.1, v.2.1, v.2.2.1, fun i hi => by rw [← e.1 i hi]; exact v.2.2.2 i hi⟩
  have one : ∀ i j, i < 7 → j < 7 → gWh h ln cs (nI i) (nI j) = gWh h ln' cs' (nI i) (nI j) := by
    intro i j hi hj
    rw [gWh_vis v hi hj, gWh_vis v' hi hj, ← e.1 i hi]
    by_cases g1 : i < H
    · by_cases g2 : j < (ln i).toNatClampNeg
      · rw [e.2 i j g1 g2]
      · rw [decide_eq_false g2]
        rfl
    · rw [decide_eq_false g1]
      rfl
  cases a : gWh h ln cs r k with
  | true =>
    obtain ⟨i, j, hi, hj, rfl, rfl⟩ := gWh_t a (vOK_h v) (vOK_7 v)
    rw [← one i j hi hj, a]
  | false =>
    cases b : gWh h ln' cs' r k with
    | false => rfl
    | true =>
      obtain ⟨i, j, hi, hj, rfl, rfl⟩ := gWh_t b (vOK_h v') (vOK_7 v')
      rw [one i j hi hj, b] at a
      cases a
theorem vEq_c {h : Int32} {ln ln' cs cs' : Nat → Int32} {H Wd : Nat} (v : vOK h ln H Wd) (e : vEq ln ln' cs cs' H) {r k : Int32} (g : gWh h ln cs r k = true) : cs (r * 7 + k).toNatClampNeg = cs' (r * 7 + k).toNatClampNeg := by
  obtain ⟨i, j, hi, hj, rfl, rfl⟩ := gWh_t g (vOK_h v) (vOK_7 v)
  have k := gWh_in v hi (by omega) g
  rw [mul7, nI_clamp (by omega)]
  exact e.2 i j k.1 k.2.2
theorem vEq_JR {h : Int32} {ln ln' cs cs' : Nat → Int32} {H Wd : Nat} (v : vOK h ln H Wd) (e : vEq ln ln' cs cs' H) (r k : Int32) : gJR h ln cs r k = gJR h ln' cs' r k := by
  unfold gJR
  rw [← vEq_Wh v e, ← vEq_Wh v e]
  by_cases g : gWh h ln cs r k = true
  · rw [vEq_c v e g]
  · rw [nt_f g]
    rfl
theorem vEq_JB {h : Int32} {ln ln' cs cs' : Nat → Int32} {H Wd : Nat} (v : vOK h ln H Wd) (e : vEq ln ln' cs cs' H) (r k : Int32) : gJB h ln cs r k = gJB h ln' cs' r k := by
  unfold gJB
  rw [← vEq_Wh v e, ← vEq_Wh v e]
  by_cases g : gWh h ln cs r k = true
  · rw [vEq_c v e g]
  · rw [nt_f g]
    rfl
theorem vEq_ents {h : Int32} {ln ln' cs cs' : Nat → Int32} {H Wd : Nat} (v : vOK h ln H Wd) (e : vEq ln ln' cs cs' H) : ents h ln cs Wd H = ents h ln' cs' Wd H := by
  have jr := vEq_JR v e
  have jb := vEq_JB v e
  unfold ents
  have e1 : eA h ln cs = eA h ln' cs' := by funext i j; unfold eA; rw [jr, jr]
  have e2 : eB h ln cs = eB h ln' cs' := by funext i j; unfold eB; rw [jb, jb]
  have e3 : eLa h ln cs = eLa h ln' cs' := by funext i j; unfold eLa; exact runF_ext (fun n _ _ => jr _ _)
  have e4 : eLb h ln cs = eLb h ln' cs' := by funext i j; unfold eLb; exact runF_ext (fun n _ _ => jb _ _)
  rw [e1, e2, e3, e4]
theorem vEq_SN {ln ln' cs cs' : Nat → Int32} {H : Nat} (hH : H ≤ 7) (e : vEq ln ln' cs cs' H) : gSN H ln = gSN H ln' := by
  unfold gSN
  exact sumN_eq (fun i hi => by rw [e.1 i (by omega)])
theorem vEq_WN {ln ln' cs cs' : Nat → Int32} {H : Nat} (hH : H ≤ 7) (e : vEq ln ln' cs cs' H) : gWN H ln cs = gWN H ln' cs' := by
  unfold gWN
  refine sumN_eq (fun i hi => ?_)
  rw [← e.1 i (by omega)]
  exact cnt_eq (fun j hj => by unfold gWr; rw [e.2 i j hi hj])
theorem vEq_LN {ln ln' cs cs' : Nat → Int32} {H : Nat} (hH : H ≤ 7) (e : vEq ln ln' cs cs' H) : gLN H ln cs = gLN H ln' cs' := by
  unfold gLN
  refine sumN_eq (fun i hi => ?_)
  rw [← e.1 i (by omega)]
  exact cnt_eq (fun j hj => by unfold gLr; rw [e.2 i j hi hj])
theorem vEq_wS {h : Int32} {ln ln' cs cs' : Nat → Int32} {H Wd : Nat} (v : vOK h ln H Wd) (e : vEq ln ln' cs cs' H) : wS h ln cs = wS h ln' cs' := by
  funext s
  unfold wS
  exact vEq_Wh v e _ _
