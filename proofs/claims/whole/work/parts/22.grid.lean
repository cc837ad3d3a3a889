/-! numbers and branches; the grid's small questions -/
def zz (x : Bool) : Int32 := if x = true then 1 else 0
theorem zz_t : zz true = 1 := rfl
theorem zz_f : zz false = 0 := rfl
theorem zz_01 (x : Bool) : zz x = 0 ∨ zz x = 1 := by cases x <;> simp [zz]
theorem br_eqz {x : Bool} (a b : sm_O) : (x = false → sm_br .eq (zz x) 0 a b = a) ∧ (¬ x = false → sm_br .eq (zz x) 0 a b = b) := by
  cases x
  · exact ⟨fun _ => rfl, fun h => absurd rfl h⟩
  · exact ⟨fun h => (by cases h), fun _ => rfl⟩
theorem br_nez {x : Bool} (a b : sm_O) : (x = true → sm_br .ne (zz x) 0 a b = a) ∧ (¬ x = true → sm_br .ne (zz x) 0 a b = b) := by
  cases x
  · exact ⟨fun h => (by cases h), fun _ => rfl⟩
  · exact ⟨fun _ => rfl, fun h => absurd rfl h⟩
theorem nf_t {x : Bool} (h : ¬ x = false) : x = true := by cases x <;> simp_all
theorem nt_f {x : Bool} (h : ¬ x = true) : x = false := by cases x <;> simp_all
section MC
variable {L : Nat} {xs : Nat → Int32} {d y cb : Nat} {is : List sm_I} {lv lv' : sm_L} {st st' : List Value} {sh : List sh_T} {M : mm_T} {Q : Option Value → sm_W → Prop} {a n : Nat} {s : sh_T}
theorem m_callV {k yy : Nat} {as : List Value} (hs : sh[a]? = some s) (ht : m_vt (s (M.1 a) (M.2.1 a) (M.2.2 a)) k = some yy) (hb : (Nat.ble (k % 16) st.length && Nat.ble (sm_words (st.drop (k % 16))) 8) = true) (hst : (st.take (k % 16)).reverse = .ref a :: as) (he : sm_E L xs d yy (.ref a :: as) (wm sh M) (fun r w1 => sm_X L xs d y cb is lv (r.toList ++ st.drop (k % 16)) w1 Q)) : sm_X L xs d y cb (.invokevirtual k :: is) lv st (wm sh M) Q := m_invV hs ht hb hst he (fun _ _ h => h)
theorem m_callS {k : Nat} {as : List Value} (hb : (Nat.ble (k % 16) st.length && Nat.ble (sm_words (st.drop (k % 16))) 8) = true) (hst : (st.take (k % 16)).reverse = as) (he : sm_E L xs d (k / 256) as (wm sh M) (fun r w1 => sm_X L xs d y cb is lv (r.toList ++ st.drop (k % 16)) w1 Q)) : sm_X L xs d y cb (.invokestatic k :: is) lv st (wm sh M) Q := by
  subst hst
  exact x_invS hb he (fun _ _ h => h)
end MC
theorem i7 {r h : Int32} (h1 : ¬ r < 0) (h2 : ¬ h ≤ r) (h3 : h ≤ 7) : ∃ i : Nat, i < 7 ∧ r = nI i := by
  obtain ⟨j, hj, rfl⟩ := nI_of h1
  refine ⟨j, ?_, rfl⟩
  rw [Int32.le_iff_toInt_le] at h2 h3
  rw [nI_toInt hj] at h2
  have : (7 : Int32).toInt = 7 := by decide
  omega
theorem nI7 : (7 : Int32) = nI 7 := by decide
theorem mul7 (i j : Nat) : nI i * 7 + nI j = nI (i * 7 + j) := by rw [nI7, pk_mul, nI_add]
def gRow (h r : Int32) : Bool := if r < 0 then false else if h ≤ r then false else true
def gPl (ln c w : Int32) : Bool := if c < 0 then false else if ln - w < c then false else true
def gWh (h : Int32) (ln cs : Nat → Int32) (r c : Int32) : Bool := if gRow h r = false then false else if gPl (ln r.toNatClampNeg) c 1 = false then false else if cs (r * 7 + c).toNatClampNeg &&& 31 = 27 then false else true
theorem gRow_t {h r : Int32} (g : gRow h r = true) (h7 : h ≤ 7) : ∃ i : Nat, i < 7 ∧ r = nI i := by
  unfold gRow at g
  split at g
  · cases g
  · split at g
    · cases g
    · rename_i h1 h2
      exact i7 h1 h2 h7
theorem gPl_t {ln c : Int32} (g : gPl ln c 1 = true) (h7 : ln ≤ 7) (hm : -1 ≤ ln) : ∃ j : Nat, j < 7 ∧ c = nI j := by
  unfold gPl at g
  split at g
  · cases g
  · split at g
    · cases g
    · rename_i h1 h2
      obtain ⟨j, hj, rfl⟩ := nI_of h1
      refine ⟨j, ?_, rfl⟩
      rw [Int32.lt_iff_toInt_lt] at h2
      rw [Int32.le_iff_toInt_le] at h7 hm
      rw [nI_toInt hj] at h2
      have e7 : (7 : Int32).toInt = 7 := by decide
      have em : (-1 : Int32).toInt = -1 := by decide
      have e1 : (1 : Int32).toInt = 1 := by decide
      have es : (ln - 1).toInt = ln.toInt - 1 := by
        rw [Int32.toInt_sub, e1]
        apply Int.bmod_eq_of_le <;> omega
      omega
theorem in7 {i : Nat} (h : i < 7) : vp_in (nI i) 7 := vp_in_nI h (by decide)
theorem in49 {i j : Nat} (h : i < 7) (hj : j < 7) : vp_in (nI i * 7 + nI j) 49 := by
  rw [mul7]
  exact vp_in_nI (by omega) (by decide)
section G1
variable {L : Nat} {xs : Nat → Int32} {d : Nat} {sh : List sh_T} {M : mm_T} {Q : Option Value → sm_W → Prop} {g c l sp re : Nat}
theorem c_hasRow {r : Int32} (hg : sh[g]? = some (gridS c l sp re)) (hq : Q (some (.int (zz (gRow (M.1 g 5) r)))) (wm sh M)) : sm_E L xs (d + 1) 16 [.ref g, .int r] (wm sh M) Q := by
  refine e_intro rfl rfl ?_
  repeat (first | refine x_kcg rfl ?_ | refine x_opp rfl rfl ?_ | refine x_go rfl ?_ | refine m_getg hg rfl rfl rfl ?_)
  refine x_ifc br_lt (fun h1 => ?_) (fun h1 => ?_)
  · repeat (first | refine x_kcg rfl ?_ | refine x_opp rfl rfl ?_ | refine x_go rfl ?_ | refine m_getg hg rfl rfl rfl ?_)
    refine x_zret (Or.inl rfl) ?_
    simp only [gRow, h1, if_true, zz_f] at hq
    exact hq
  · repeat (first | refine x_kcg rfl ?_ | refine x_opp rfl rfl ?_ | refine x_go rfl ?_ | refine m_getg hg rfl rfl rfl ?_)
    refine x_icm br_ge (fun h2 => ?_) (fun h2 => ?_)
    · repeat (first | refine x_kcg rfl ?_ | refine x_opp rfl rfl ?_ | refine x_go rfl ?_ | refine m_getg hg rfl rfl rfl ?_)
      refine x_zret (Or.inl rfl) ?_
      simp only [gRow, h1, h2, if_true, if_false, zz_f] at hq
      exact hq
    · repeat (first | refine x_kcg rfl ?_ | refine x_opp rfl rfl ?_ | refine x_go rfl ?_ | refine m_getg hg rfl rfl rfl ?_)
      refine x_zret (Or.inr rfl) ?_
      simp only [gRow, h1, h2, if_false, zz_t] at hq
      exact hq
theorem c_hasPlaces {r k w : Int32} (hg : sh[g]? = some (gridS c l sp re)) (hl : sh[l]? = some (arrI 7)) (hr : vp_in r 7) (hq : Q (some (.int (zz (gPl (M.1 l r.toNatClampNeg) k w)))) (wm sh M)) : sm_E L xs (d + 1) 19 [.ref g, .int r, .int k, .int w] (wm sh M) Q := by
  refine e_intro rfl rfl ?_
  repeat (first | refine x_kcg rfl ?_ | refine x_opp rfl rfl ?_ | refine x_go rfl ?_ | refine m_getg hg rfl rfl rfl ?_)
  refine x_ifc br_lt (fun h1 => ?_) (fun h1 => ?_)
  · repeat (first | refine x_kcg rfl ?_ | refine x_opp rfl rfl ?_ | refine x_go rfl ?_ | refine m_getg hg rfl rfl rfl ?_)
    refine x_zret (Or.inl rfl) ?_
    simp only [gPl, h1, if_true, zz_f] at hq
    exact hq
  · repeat (first | refine x_kcg rfl ?_ | refine x_opp rfl rfl ?_ | refine x_go rfl ?_ | refine m_getg hg rfl rfl rfl ?_)
    refine m_iald hl hr ?_
    repeat (first | refine x_kcg rfl ?_ | refine x_opp rfl rfl ?_ | refine x_go rfl ?_ | refine m_getg hg rfl rfl rfl ?_)
    refine x_icm br_gt (fun h2 => ?_) (fun h2 => ?_)
    · repeat (first | refine x_kcg rfl ?_ | refine x_opp rfl rfl ?_ | refine x_go rfl ?_ | refine m_getg hg rfl rfl rfl ?_)
      refine x_zret (Or.inl rfl) ?_
      simp only [gPl, h1, h2, if_true, if_false, zz_f] at hq
      exact hq
    · repeat (first | refine x_kcg rfl ?_ | refine x_opp rfl rfl ?_ | refine x_go rfl ?_ | refine m_getg hg rfl rfl rfl ?_)
      refine x_zret (Or.inr rfl) ?_
      simp only [gPl, h1, h2, if_false, zz_t] at hq
      exact hq
theorem c_signOf {r k : Int32} (hg : sh[g]? = some (gridS c l sp re)) (hc : sh[c]? = some (arrI 49)) (hr : vp_in (r * 7 + k) 49) (hq : Q (some (.int (M.1 c (r * 7 + k).toNatClampNeg &&& 31))) (wm sh M)) : sm_E L xs (d + 1) 20 [.ref g, .int r, .int k] (wm sh M) Q := by
  refine e_intro rfl rfl ?_
  repeat (first | refine x_kcg rfl ?_ | refine x_opp rfl rfl ?_ | refine x_go rfl ?_ | refine m_getg hg rfl rfl rfl ?_)
  refine m_iald hc hr ?_
  repeat (first | refine x_kcg rfl ?_ | refine x_opp rfl rfl ?_ | refine x_go rfl ?_ | refine m_getg hg rfl rfl rfl ?_)
  exact x_iret rfl hq
theorem c_isWhite {r k : Int32} (hg : sh[g]? = some (gridS c l sp re)) (hl : sh[l]? = some (arrI 7)) (hc : sh[c]? = some (arrI 49)) (h7 : M.1 g 5 ≤ 7) (hl7 : ∀ i, i < 7 → -1 ≤ M.1 l i ∧ M.1 l i ≤ 7) (hq : Q (some (.int (zz (gWh (M.1 g 5) (M.1 l) (M.1 c) r k)))) (wm sh M)) : sm_E L xs (d + 2) 76 [.ref g, .int r, .int k] (wm sh M) Q := by
  refine e_intro rfl rfl ?_
  repeat (first | refine x_kcg rfl ?_ | refine x_opp rfl rfl ?_ | refine x_go rfl ?_ | refine m_getg hg rfl rfl rfl ?_)
  refine m_callV hg rfl rfl rfl (c_hasRow hg ?_)
  refine x_ifc br_eqz (fun h1 => ?_) (fun h1 => ?_)
  · repeat (first | refine x_kcg rfl ?_ | refine x_opp rfl rfl ?_ | refine x_go rfl ?_ | refine m_getg hg rfl rfl rfl ?_)
    refine x_zret (Or.inl rfl) ?_
    simp only [gWh, h1, if_true, zz_f] at hq
    exact hq
  · obtain ⟨i, hi, rfl⟩ := gRow_t (nf_t h1) h7
    repeat (first | refine x_kcg rfl ?_ | refine x_opp rfl rfl ?_ | refine x_go rfl ?_ | refine m_getg hg rfl rfl rfl ?_)
    refine m_callV hg rfl rfl rfl (c_hasPlaces hg hl (in7 hi) ?_)
    refine x_ifc br_eqz (fun h2 => ?_) (fun h2 => ?_)
    · repeat (first | refine x_kcg rfl ?_ | refine x_opp rfl rfl ?_ | refine x_go rfl ?_ | refine m_getg hg rfl rfl rfl ?_)
      refine x_zret (Or.inl rfl) ?_
      simp only [gWh, h1, h2, if_true, if_false, Bool.true_eq_false, zz_f] at hq
      exact hq
    · have e1 : (nI i).toNatClampNeg = i := nI_clamp (by omega)
      obtain ⟨j, hj, rfl⟩ := gPl_t (nf_t h2) (by rw [e1]; exact (hl7 i hi).2) (by rw [e1]; exact (hl7 i hi).1)
      repeat (first | refine x_kcg rfl ?_ | refine x_opp rfl rfl ?_ | refine x_go rfl ?_ | refine m_getg hg rfl rfl rfl ?_)
      refine m_callV hg rfl rfl rfl (c_signOf hg hc (in49 hi hj) ?_)
      repeat (first | refine x_kcg rfl ?_ | refine x_opp rfl rfl ?_ | refine x_go rfl ?_ | refine m_getg hg rfl rfl rfl ?_)
      refine x_icm br_eq (fun h3 => ?_) (fun h3 => ?_)
      · have h3 : M.1 c (nI i * 7 + nI j).toNatClampNeg &&& 31 = 27 := h3
        repeat (first | refine x_kcg rfl ?_ | refine x_opp rfl rfl ?_ | refine x_go rfl ?_ | refine m_getg hg rfl rfl rfl ?_)
        refine x_zret (Or.inl rfl) ?_
        simp only [gWh, h1, h2, h3, if_true, if_false, Bool.true_eq_false, zz_f] at hq
        exact hq
      · have h3 : ¬ M.1 c (nI i * 7 + nI j).toNatClampNeg &&& 31 = 27 := h3
        repeat (first | refine x_kcg rfl ?_ | refine x_opp rfl rfl ?_ | refine x_go rfl ?_ | refine m_getg hg rfl rfl rfl ?_)
        refine x_zret (Or.inr rfl) ?_
        simp only [gWh, h1, h2, h3, if_false, Bool.true_eq_false, zz_t] at hq
        exact hq
end G1
