/-! the grid: refusals, signs, bars, joins, a new one -/
def gSh (sh : List sh_T) (g c l sp re : Nat) : Prop := sh[g]? = some (gridS c l sp re) ∧ sh[c]? = some (arrI 49) ∧ sh[l]? = some (arrI 7) ∧ sh[sp]? = some (arrI 49) ∧ sh[re]? = some (arrI 49) ∧ c ≠ g ∧ l ≠ g ∧ l ≠ c ∧ sp ≠ g ∧ sp ≠ c ∧ sp ≠ l ∧ re ≠ g ∧ re ≠ c ∧ re ≠ l ∧ re ≠ sp
/-- a grid's numbers are as they must be -/
def gOK (M : mm_T) (g l : Nat) : Prop := (0 ≤ M.1 g 5 ∧ M.1 g 5 ≤ 7) ∧ (0 ≤ M.1 g 6 ∧ M.1 g 6 ≤ 7) ∧ ∀ i, i < 7 → -1 ≤ M.1 l i ∧ M.1 l i ≤ M.1 g 6
theorem gOK_7 {M : mm_T} {g l : Nat} (h : gOK M g l) : ∀ i, i < 7 → -1 ≤ M.1 l i ∧ M.1 l i ≤ 7 := fun i hi => ⟨(h.2.2 i hi).1, Int32.le_trans (h.2.2 i hi).2 h.2.1.2⟩
theorem gWh_t {h : Int32} {ln cs : Nat → Int32} {r k : Int32} (hw : gWh h ln cs r k = true) (h7 : h ≤ 7) (hl : ∀ i, i < 7 → -1 ≤ ln i ∧ ln i ≤ 7) : ∃ i j : Nat, i < 7 ∧ j < 7 ∧ r = nI i ∧ k = nI j := by
  unfold gWh at hw
  split at hw
  · cases hw
  · rename_i h1
    split at hw
    · cases hw
    · rename_i h2
      obtain ⟨i, hi, rfl⟩ := gRow_t (nf_t h1) h7
      rw [nI_clamp (by omega)] at h2
      obtain ⟨j, hj, rfl⟩ := gPl_t (nf_t h2) (hl i hi).2 (hl i hi).1
      exact ⟨i, j, hi, hj, rfl, rfl⟩
def gRR (th h : Int32) (ln : Nat → Int32) (r : Int32) : Int32 := if th ≠ 0 then (if gRow h r = true then (if 0 ≤ ln r.toNatClampNeg then 0 else 1) else 2) else 1
def gSR (th h : Int32) (ln : Nat → Int32) (r k : Int32) : Int32 := if gRR th h ln r = 0 then (if gPl (ln r.toNatClampNeg) k 1 = false then 2 else 0) else gRR th h ln r
def gJR (h : Int32) (ln cs : Nat → Int32) (r k : Int32) : Bool := if gWh h ln cs r k = false then false else if gWh h ln cs r (k + 1) = false then false else if cs (r * 7 + k).toNatClampNeg &&& 32 ≠ 0 then false else true
def gJB (h : Int32) (ln cs : Nat → Int32) (r k : Int32) : Bool := if gWh h ln cs r k = false then false else if gWh h ln cs (r + 1) k = false then false else if cs (r * 7 + k).toNatClampNeg &&& 64 ≠ 0 then false else true
theorem gRR_0 {th h : Int32} {ln : Nat → Int32} {r : Int32} (h0 : gRR th h ln r = 0) (h7 : h ≤ 7) : ∃ i : Nat, i < 7 ∧ r = nI i ∧ gRow h (nI i) = true ∧ 0 ≤ ln i ∧ th ≠ 0 := by
  unfold gRR at h0
  split at h0
  · rename_i ht
    split at h0
    · rename_i h1
      split at h0
      · rename_i h2
        obtain ⟨i, hi, rfl⟩ := gRow_t h1 h7
        rw [nI_clamp (by omega)] at h2
        exact ⟨i, hi, rfl, h1, h2, ht⟩
      · cases h0
    · cases h0
  · cases h0
section G2
variable {L : Nat} {xs : Nat → Int32} {d : Nat} {sh : List sh_T} {M : mm_T} {Q : Option Value → sm_W → Prop} {g c l sp re : Nat}
theorem c_rowRefusal {r : Int32} (hg : gSh sh g c l sp re) (hk : gOK M g l) (hq : Q (some (.int (gRR (M.1 g 4) (M.1 g 5) (M.1 l) r))) (wm sh M)) : sm_E L xs (d + 2) 15 [.ref g, .int r] (wm sh M) Q := by
  refine e_intro rfl rfl ?_
  repeat (first | refine x_kcg rfl ?_ | refine x_opp rfl rfl ?_ | refine x_go rfl ?_ | refine m_getg hg.1 rfl rfl rfl ?_)
  refine x_ifc br_ne (fun h1 => ?_) (fun h1 => ?_)
  · repeat (first | refine x_kcg rfl ?_ | refine x_opp rfl rfl ?_ | refine x_go rfl ?_ | refine m_getg hg.1 rfl rfl rfl ?_)
    refine m_callV hg.1 rfl rfl rfl (c_hasRow hg.1 ?_)
    refine x_ifc br_nez (fun h2 => ?_) (fun h2 => ?_)
    · obtain ⟨i, hi, rfl⟩ := gRow_t h2 hk.1.2
      repeat (first | refine x_kcg rfl ?_ | refine x_opp rfl rfl ?_ | refine x_go rfl ?_ | refine m_getg hg.1 rfl rfl rfl ?_)
      refine m_iald hg.2.2.1 (in7 hi) ?_
      refine x_ifc br_ge (fun h3 => ?_) (fun h3 => ?_)
      · repeat (first | refine x_kcg rfl ?_ | refine x_opp rfl rfl ?_ | refine x_go rfl ?_)
        refine x_iret rfl ?_
        unfold gRR at hq
        rw [if_pos h1, if_pos h2, if_pos h3] at hq
        exact hq
      · repeat (first | refine x_kcg rfl ?_ | refine x_opp rfl rfl ?_ | refine x_go rfl ?_)
        refine x_iret rfl ?_
        unfold gRR at hq
        rw [if_pos h1, if_pos h2, if_neg h3] at hq
        exact hq
    · repeat (first | refine x_kcg rfl ?_ | refine x_opp rfl rfl ?_ | refine x_go rfl ?_)
      refine x_iret rfl ?_
      unfold gRR at hq
      rw [if_pos h1, if_neg h2] at hq
      exact hq
  · repeat (first | refine x_kcg rfl ?_ | refine x_opp rfl rfl ?_ | refine x_go rfl ?_)
    refine x_iret rfl ?_
    unfold gRR at hq
    rw [if_neg h1] at hq
    exact hq
theorem c_squareRefusal {r k : Int32} (hg : gSh sh g c l sp re) (hk : gOK M g l) (hq : Q (some (.int (gSR (M.1 g 4) (M.1 g 5) (M.1 l) r k))) (wm sh M)) : sm_E L xs (d + 3) 18 [.ref g, .int r, .int k] (wm sh M) Q := by
  refine e_intro rfl rfl ?_
  repeat (first | refine x_kcg rfl ?_ | refine x_opp rfl rfl ?_ | refine x_go rfl ?_ | refine m_getg hg.1 rfl rfl rfl ?_)
  refine m_callV hg.1 rfl rfl rfl (c_rowRefusal hg hk ?_)
  repeat (first | refine x_kcg rfl ?_ | refine x_opp rfl rfl ?_ | refine x_go rfl ?_ | refine m_getg hg.1 rfl rfl rfl ?_)
  refine x_ifc br_eq (fun h1 => ?_) (fun h1 => ?_)
  · obtain ⟨i, hi, rfl, -, -, -⟩ := gRR_0 h1 hk.1.2
    repeat (first | refine x_kcg rfl ?_ | refine x_opp rfl rfl ?_ | refine x_go rfl ?_ | refine m_getg hg.1 rfl rfl rfl ?_)
    refine m_callV hg.1 rfl rfl rfl (c_hasPlaces (w := 1) hg.1 hg.2.2.1 (in7 hi) ?_)
    refine x_ifc br_eqz (fun h2 => ?_) (fun h2 => ?_)
    · repeat (first | refine x_kcg rfl ?_ | refine x_opp rfl rfl ?_ | refine x_go rfl ?_)
      refine x_iret rfl ?_
      unfold gSR at hq
      rw [if_pos h1, if_pos h2] at hq
      exact hq
    · repeat (first | refine x_kcg rfl ?_ | refine x_opp rfl rfl ?_ | refine x_go rfl ?_)
      refine x_iret rfl ?_
      unfold gSR at hq
      rw [if_pos h1, if_neg h2] at hq
      exact hq
  · repeat (first | refine x_kcg rfl ?_ | refine x_opp rfl rfl ?_ | refine x_go rfl ?_)
    refine x_iret rfl ?_
    unfold gSR at hq
    rw [if_neg h1] at hq
    exact hq
theorem c_listFor {b : Bool} (hg : gSh sh g c l sp re) (hq : Q (some (.int (if b = true then M.1 g 8 else M.1 g 7))) (wm sh M)) : sm_E L xs (d + 1) 71 [.ref g, .int (zz b)] (wm sh M) Q := by
  refine e_intro rfl rfl ?_
  repeat (first | refine x_kcg rfl ?_ | refine x_opp rfl rfl ?_ | refine x_go rfl ?_ | refine m_getg hg.1 rfl rfl rfl ?_)
  refine x_ifc br_eqz (fun h1 => ?_) (fun h1 => ?_)
  · repeat (first | refine x_kcg rfl ?_ | refine x_opp rfl rfl ?_ | refine x_go rfl ?_ | refine m_getg hg.1 rfl rfl rfl ?_)
    refine x_iret rfl ?_
    rw [if_neg (by rw [h1]; exact Bool.false_ne_true)] at hq
    exact hq
  · repeat (first | refine x_kcg rfl ?_ | refine x_opp rfl rfl ?_ | refine x_go rfl ?_ | refine m_getg hg.1 rfl rfl rfl ?_)
    refine x_iret rfl ?_
    rw [if_pos (nf_t h1)] at hq
    exact hq
theorem c_putSign {r k v : Int32} (hg : gSh sh g c l sp re) (hr : vp_in (r * 7 + k) 49) (hq : Q none (wm sh (m_setI M c (r * 7 + k).toNatClampNeg (M.1 c (r * 7 + k).toNatClampNeg &&& (-32) ||| v)))) : sm_E L xs (d + 1) 21 [.ref g, .int r, .int k, .int v] (wm sh M) Q := by
  refine e_intro rfl rfl ?_
  repeat (first | refine x_kcg rfl ?_ | refine x_opp rfl rfl ?_ | refine x_go rfl ?_ | refine m_getg hg.1 rfl rfl rfl ?_)
  refine m_iald hg.2.1 hr ?_
  repeat (first | refine x_kcg rfl ?_ | refine x_opp rfl rfl ?_ | refine x_go rfl ?_ | refine m_getg hg.1 rfl rfl rfl ?_)
  refine m_iast hg.2.1 hr ?_
  exact x_ret hq
theorem c_putBar {r k v : Int32} {b : Bool} (hg : gSh sh g c l sp re) (hr : vp_in (r * 7 + k) 49) (hq : Q (some (.int (if M.1 c (r * 7 + k).toNatClampNeg &&& v = 0 then 0 else 1))) (wm sh (m_setI M c (r * 7 + k).toNatClampNeg (if b = true then M.1 c (r * 7 + k).toNatClampNeg ||| v else M.1 c (r * 7 + k).toNatClampNeg &&& (v ^^^ (-1)))))) : sm_E L xs (d + 1) 24 [.ref g, .int r, .int k, .int v, .int (zz b)] (wm sh M) Q := by
  refine e_intro rfl rfl ?_
  repeat (first | refine x_kcg rfl ?_ | refine x_opp rfl rfl ?_ | refine x_go rfl ?_ | refine m_getg hg.1 rfl rfl rfl ?_)
  refine m_iald hg.2.1 hr ?_
  repeat (first | refine x_kcg rfl ?_ | refine x_opp rfl rfl ?_ | refine x_go rfl ?_ | refine m_getg hg.1 rfl rfl rfl ?_)
  refine x_ifc br_eq (fun h1 => ?_) (fun h1 => ?_)
  · rw [if_pos h1] at hq
    repeat (first | refine x_kcg rfl ?_ | refine x_opp rfl rfl ?_ | refine x_go rfl ?_ | refine m_getg hg.1 rfl rfl rfl ?_)
    refine x_ifc br_eqz (fun h2 => ?_) (fun h2 => ?_)
    · rw [if_neg (by rw [h2]; exact Bool.false_ne_true)] at hq
      repeat (first | refine x_kcg rfl ?_ | refine x_opp rfl rfl ?_ | refine x_go rfl ?_ | refine m_getg hg.1 rfl rfl rfl ?_)
      refine m_iald hg.2.1 hr ?_
      repeat (first | refine x_kcg rfl ?_ | refine x_opp rfl rfl ?_ | refine x_go rfl ?_ | refine m_getg hg.1 rfl rfl rfl ?_)
      refine m_iast hg.2.1 hr ?_
      repeat (first | refine x_kcg rfl ?_ | refine x_opp rfl rfl ?_ | refine x_go rfl ?_)
      exact x_zret (Or.inl rfl) hq
    · rw [if_pos (nf_t h2)] at hq
      repeat (first | refine x_kcg rfl ?_ | refine x_opp rfl rfl ?_ | refine x_go rfl ?_ | refine m_getg hg.1 rfl rfl rfl ?_)
      refine m_iald hg.2.1 hr ?_
      repeat (first | refine x_kcg rfl ?_ | refine x_opp rfl rfl ?_ | refine x_go rfl ?_ | refine m_getg hg.1 rfl rfl rfl ?_)
      refine m_iast hg.2.1 hr ?_
      repeat (first | refine x_kcg rfl ?_ | refine x_opp rfl rfl ?_ | refine x_go rfl ?_)
      exact x_zret (Or.inl rfl) hq
  · rw [if_neg h1] at hq
    repeat (first | refine x_kcg rfl ?_ | refine x_opp rfl rfl ?_ | refine x_go rfl ?_ | refine m_getg hg.1 rfl rfl rfl ?_)
    refine x_ifc br_eqz (fun h2 => ?_) (fun h2 => ?_)
    · rw [if_neg (by rw [h2]; exact Bool.false_ne_true)] at hq
      repeat (first | refine x_kcg rfl ?_ | refine x_opp rfl rfl ?_ | refine x_go rfl ?_ | refine m_getg hg.1 rfl rfl rfl ?_)
      refine m_iald hg.2.1 hr ?_
      repeat (first | refine x_kcg rfl ?_ | refine x_opp rfl rfl ?_ | refine x_go rfl ?_ | refine m_getg hg.1 rfl rfl rfl ?_)
      refine m_iast hg.2.1 hr ?_
      repeat (first | refine x_kcg rfl ?_ | refine x_opp rfl rfl ?_ | refine x_go rfl ?_)
      exact x_zret (Or.inr rfl) hq
    · rw [if_pos (nf_t h2)] at hq
      repeat (first | refine x_kcg rfl ?_ | refine x_opp rfl rfl ?_ | refine x_go rfl ?_ | refine m_getg hg.1 rfl rfl rfl ?_)
      refine m_iald hg.2.1 hr ?_
      repeat (first | refine x_kcg rfl ?_ | refine x_opp rfl rfl ?_ | refine x_go rfl ?_ | refine m_getg hg.1 rfl rfl rfl ?_)
      refine m_iast hg.2.1 hr ?_
      repeat (first | refine x_kcg rfl ?_ | refine x_opp rfl rfl ?_ | refine x_go rfl ?_)
      exact x_zret (Or.inr rfl) hq
theorem c_white {r k : Int32} (hg : gSh sh g c l sp re) (hk : gOK M g l) (hq : Q (some (.int (zz (gWh (M.1 g 5) (M.1 l) (M.1 c) r k)))) (wm sh M)) : sm_E L xs (d + 2) 76 [.ref g, .int r, .int k] (wm sh M) Q := c_isWhite hg.1 hg.2.2.1 hg.2.1 hk.1.2 (gOK_7 hk) hq
theorem c_joinsRight {r k : Int32} (hg : gSh sh g c l sp re) (hk : gOK M g l) (hq : Q (some (.int (zz (gJR (M.1 g 5) (M.1 l) (M.1 c) r k)))) (wm sh M)) : sm_E L xs (d + 3) 75 [.ref g, .int r, .int k] (wm sh M) Q := by
  refine e_intro rfl rfl ?_
  repeat (first | refine x_kcg rfl ?_ | refine x_opp rfl rfl ?_ | refine x_go rfl ?_ | refine m_getg hg.1 rfl rfl rfl ?_)
  refine m_callV hg.1 rfl rfl rfl (c_white hg hk ?_)
  refine x_ifc br_eqz (fun h1 => ?_) (fun h1 => ?_)
  · repeat (first | refine x_kcg rfl ?_ | refine x_opp rfl rfl ?_ | refine x_go rfl ?_)
    refine x_zret (Or.inl rfl) ?_
    unfold gJR at hq
    rw [if_pos h1] at hq
    exact hq
  · repeat (first | refine x_kcg rfl ?_ | refine x_opp rfl rfl ?_ | refine x_go rfl ?_)
    refine m_callV hg.1 rfl rfl rfl (c_white hg hk ?_)
    refine x_ifc br_eqz (fun h2 => ?_) (fun h2 => ?_)
    · repeat (first | refine x_kcg rfl ?_ | refine x_opp rfl rfl ?_ | refine x_go rfl ?_)
      refine x_zret (Or.inl rfl) ?_
      unfold gJR at hq
      rw [if_neg h1, if_pos h2] at hq
      exact hq
    · obtain ⟨i, j, hi, hj, rfl, rfl⟩ := gWh_t (nf_t h1) hk.1.2 (gOK_7 hk)
      repeat (first | refine x_kcg rfl ?_ | refine x_opp rfl rfl ?_ | refine x_go rfl ?_ | refine m_getg hg.1 rfl rfl rfl ?_)
      refine m_iald hg.2.1 (in49 hi hj) ?_
      repeat (first | refine x_kcg rfl ?_ | refine x_opp rfl rfl ?_ | refine x_go rfl ?_ | refine m_getg hg.1 rfl rfl rfl ?_)
      refine x_ifc br_ne (fun h3 => ?_) (fun h3 => ?_)
      · repeat (first | refine x_kcg rfl ?_ | refine x_opp rfl rfl ?_ | refine x_go rfl ?_)
        refine x_zret (Or.inl rfl) ?_
        unfold gJR at hq
        rw [if_neg h1, if_neg h2, if_pos h3] at hq
        exact hq
      · repeat (first | refine x_kcg rfl ?_ | refine x_opp rfl rfl ?_ | refine x_go rfl ?_)
        refine x_zret (Or.inr rfl) ?_
        unfold gJR at hq
        rw [if_neg h1, if_neg h2, if_neg h3] at hq
        exact hq
theorem c_joinsBelow {r k : Int32} (hg : gSh sh g c l sp re) (hk : gOK M g l) (hq : Q (some (.int (zz (gJB (M.1 g 5) (M.1 l) (M.1 c) r k)))) (wm sh M)) : sm_E L xs (d + 3) 77 [.ref g, .int r, .int k] (wm sh M) Q := by
  refine e_intro rfl rfl ?_
  repeat (first | refine x_kcg rfl ?_ | refine x_opp rfl rfl ?_ | refine x_go rfl ?_ | refine m_getg hg.1 rfl rfl rfl ?_)
  refine m_callV hg.1 rfl rfl rfl (c_white hg hk ?_)
  refine x_ifc br_eqz (fun h1 => ?_) (fun h1 => ?_)
  · repeat (first | refine x_kcg rfl ?_ | refine x_opp rfl rfl ?_ | refine x_go rfl ?_)
    refine x_zret (Or.inl rfl) ?_
    unfold gJB at hq
    rw [if_pos h1] at hq
    exact hq
  · repeat (first | refine x_kcg rfl ?_ | refine x_opp rfl rfl ?_ | refine x_go rfl ?_)
    refine m_callV hg.1 rfl rfl rfl (c_white hg hk ?_)
    refine x_ifc br_eqz (fun h2 => ?_) (fun h2 => ?_)
    · repeat (first | refine x_kcg rfl ?_ | refine x_opp rfl rfl ?_ | refine x_go rfl ?_)
      refine x_zret (Or.inl rfl) ?_
      unfold gJB at hq
      rw [if_neg h1, if_pos h2] at hq
      exact hq
    · obtain ⟨i, j, hi, hj, rfl, rfl⟩ := gWh_t (nf_t h1) hk.1.2 (gOK_7 hk)
      repeat (first | refine x_kcg rfl ?_ | refine x_opp rfl rfl ?_ | refine x_go rfl ?_ | refine m_getg hg.1 rfl rfl rfl ?_)
      refine m_iald hg.2.1 (in49 hi hj) ?_
      repeat (first | refine x_kcg rfl ?_ | refine x_opp rfl rfl ?_ | refine x_go rfl ?_ | refine m_getg hg.1 rfl rfl rfl ?_)
      refine x_ifc br_ne (fun h3 => ?_) (fun h3 => ?_)
      · repeat (first | refine x_kcg rfl ?_ | refine x_opp rfl rfl ?_ | refine x_go rfl ?_)
        refine x_zret (Or.inl rfl) ?_
        unfold gJB at hq
        rw [if_neg h1, if_neg h2, if_pos h3] at hq
        exact hq
      · repeat (first | refine x_kcg rfl ?_ | refine x_opp rfl rfl ?_ | refine x_go rfl ?_)
        refine x_zret (Or.inr rfl) ?_
        unfold gJB at hq
        rw [if_neg h1, if_neg h2, if_neg h3] at hq
        exact hq
def gNew (M : mm_T) (g c l : Nat) (h w : Int32) : mm_T := m_setI (m_setI (m_setA (m_setA (m_setI (m_setI (m_setI M g 4 1) g 5 h) g 6 w) c (aFill (M.1 c) 49 0)) l (aFill (M.1 l) 7 w)) g 7 (-1)) g 8 (-1)
theorem c_gbegin {h w : Int32} (hg : gSh sh g c l sp re) (hq : Q none (wm sh (gNew M g c l h w))) : sm_E L xs (d + 2) 12 [.ref g, .int h, .int w] (wm sh M) Q := by
  refine e_intro rfl rfl ?_
  obtain ⟨h1, h2, h3, -, -, n1, n2, n3, -⟩ := hg
  repeat (first | refine x_kcg rfl ?_ | refine x_opp rfl rfl ?_ | refine x_go rfl ?_)
  refine m_putI h1 rfl ?_
  repeat (first | refine x_kcg rfl ?_ | refine x_opp rfl rfl ?_ | refine x_go rfl ?_)
  refine m_putI h1 rfl ?_
  repeat (first | refine x_kcg rfl ?_ | refine x_opp rfl rfl ?_ | refine x_go rfl ?_)
  refine m_putI h1 rfl ?_
  repeat (first | refine x_kcg rfl ?_ | refine x_opp rfl rfl ?_ | refine x_go rfl ?_ | refine m_getg h1 rfl rfl rfl ?_)
  refine m_callS rfl rfl (c_fill h2 (by decide) ?_)
  repeat (first | refine x_kcg rfl ?_ | refine x_opp rfl rfl ?_ | refine x_go rfl ?_ | refine m_getg h1 rfl rfl rfl ?_)
  refine m_callS rfl rfl (c_fill h3 (by decide) ?_)
  repeat (first | refine x_kcg rfl ?_ | refine x_opp rfl rfl ?_ | refine x_go rfl ?_)
  refine m_putI h1 rfl ?_
  repeat (first | refine x_kcg rfl ?_ | refine x_opp rfl rfl ?_ | refine x_go rfl ?_)
  refine m_putI h1 rfl ?_
  refine x_ret ?_
  rw [mA_ne _ _ n3, mI_ne _ _ _ n2, mI_ne _ _ _ n2, mI_ne _ _ _ n2, mI_ne _ _ _ n1, mI_ne _ _ _ n1, mI_ne _ _ _ n1]
  exact hq
end G2
