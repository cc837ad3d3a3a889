/-! the desk gathers for all entries -/
def loI (o : Option Nat) : Int32 := match o with | none => -1 | some l => nI l
def lsL : List (List wsT) → Nat
  | [] => 0
  | x :: r => x.length + lsL r
theorem lsL_app : ∀ (a : List (List wsT)) (x : List wsT), lsL (a ++ [x]) = lsL a + x.length
  | [], x => by simp [lsL]
  | y :: a, x => by
    show y.length + lsL (a ++ [x]) = y.length + lsL a + x.length
    rw [lsL_app a x]
    omega
/-- what gathering may change -/
def gaF (M M' : mm_T) (b z : Nat) : Prop := M'.2.2 = M.2.2 ∧ (∀ a, a ≠ 1 → a ≠ 2 → a ≠ 3 → (a < b ∨ b + 14 < a) → M'.1 a = M.1 a) ∧ (∀ a, (a < b ∨ b + 14 < a) → M'.2.1 a = M.2.1 a) ∧ M'.1 1 5 = nI z ∧ M'.1 3 = if z = 0 then M.1 3 else upd (M.1 3) z (M.1 3 z + 1)
theorem gaF_kF {M M1 M2 : mm_T} {b e z : Nat} (h : gaF M M1 b 0) (k : kF M1 M2 b e z) : gaF M M2 b z := by
  obtain ⟨a1, a2, a3, a4, a5⟩ := h
  obtain ⟨⟨k1, k2, k3, k4, k5⟩, k6, k7⟩ := k
  rw [if_pos rfl] at a5
  refine ⟨k1.trans a1, fun a x y z w => (k2 a x y z (by omega) (by omega)).trans (a2 a x y z w), fun a w => (k4 a (by omega)).trans (a3 a w), k6, by rw [k7, a5]⟩
/-- the candidates of the entries so far -/
def cAll (M : mm_T) (b : Nat) (acc : List (List wsT)) : Prop := ∀ e, e < acc.length → (acc.getD e []).length ≤ 40 ∧ M.1 (b + 7) e = nI (acc.getD e []).length ∧ ∀ j, j < (acc.getD e []).length → M.2.1 (b + 6) (40 * e + j) = ((acc.getD e []).getD j (0, 0)).1
theorem getD_app {α : Type} (l : List α) (x z : α) (k : Nat) : (l ++ [x]).getD k z = if k < l.length then l.getD k z else if k = l.length then x else z := by
  rw [List.getD_eq_getElem?_getD]
  by_cases g : k < l.length
  · rw [if_pos g, List.getElem?_append_left g, List.getD_eq_getElem?_getD]
  · rw [if_neg g, List.getElem?_append_right (by omega)]
    by_cases e : k = l.length
    · rw [if_pos e, e, Nat.sub_self]
      rfl
    · rw [if_neg e, List.getElem?_eq_none (by simp; omega)]
      rfl
theorem gL_len {E : Nat → lT} {n l : Nat} (hE : lOK E n) (hl : l < n) (v : Nat → Nat) (m : Nat) : (gL E l v m).2.2.length ≤ 40 := by
  unfold gL
  by_cases r0 : (askF E l 1 0).2.1 ≠ 0
  · rw [if_pos r0]
    exact Nat.zero_le _
  · rw [if_neg r0]
    obtain ⟨m0, hm0, em0⟩ := (askF_val hE l hl 1 0 (Decidable.not_not.mp r0)).2.1 rfl
    have en : (askF E l 1 0).2.2.toInt32 = nI m0 := by rw [em0, k64_i]
    rw [en, nI_clamp (by omega)]
    have := gF_len E l v m m0 0 []
    simp at this
    show (gF E l v m m0 0 []).2.2.length ≤ 40
    omega
section CGB
variable {L : Nat} {xs : Nat → Int32} {d : Nat} {dy : List sh_T} {M : mm_T} {Q : Option Value → sm_W → Prop} {b : Nat} {E : Nat → lT} {P : Nat → Nat} {n : Nat} {g c l sp re : Nat}
theorem c_gatherNone {e B : Nat} {f : Nat → Int32} (hb1 : 13 ≤ b) (hs : srSh (sh0 ++ dy) b) (he : e < 42) (hn : n ≤ 16) (h43 : M.1 4 3 = nI n) (tr : cTr M (B, f)) (h5 : M.1 1 5 = 0) (hF : ∀ M', kF M M' b e 1 → cTr M' (B, f) → Q (some (.int 0)) (wm (sh0 ++ dy) M')) : sm_E L xs (d + 5) 91 [.ref b, .int (nI e), .int (-1)] (wm (sh0 ++ dy) M) Q := by
  obtain ⟨s0, s1, s6, s7, s8, -, s10, -⟩ := hs
  have f0 : kF M (m_setI M (b + 7) e 0) b e 0 := ⟨⟨rfl, fun a _ _ _ x _ => mI_ne _ _ _ x, fun j hj => by rw [mI_at, if_neg (fun h => hj h.2)], fun _ _ => rfl, fun _ _ => rfl⟩, by rw [mI_ne _ _ _ (by omega)]; exact h5, by rw [if_pos rfl, mI_ne _ _ _ (by omega)]⟩
  have tr0 : cTr (m_setI M (b + 7) e 0) (B, f) := by
    unfold cTr
    rw [mI_ne _ _ _ (by omega), mI_ne _ _ _ (by omega)]
    exact tr
  have h43' : (m_setI M (b + 7) e 0).1 4 3 = nI n := by rw [mI_ne _ _ _ (by omega)]; exact h43
  have hw : wantP (m_setI M (b + 7) e 0) 4 5 (-1) = none := by
    unfold wantP
    rw [if_neg]
    unfold gRow
    rw [if_pos (by decide)]
    decide
  generalize hM0 : m_setI M (b + 7) e 0 = M0 at f0 tr0 h43' hw
  have f1 := kF_cff hb1 (by decide : (1 : Nat) ≠ 0) f0 (cff_find (k := 1) tr0 (by decide))
  have fin := hF _ f1 (cff_find (k := 1) tr0 (by decide)).2.2.2.1
  refine e_intro rfl rfl ?_
  repeat (first | refine x_kcg rfl ?_ | refine x_opp rfl rfl ?_ | refine x_go rfl ?_ | refine m_getg s0 rfl rfl rfl ?_)
  refine m_iast s7 (vp_in_nI (by omega) (by decide)) ?_
  rw [nI_clamp (by omega), hM0]
  repeat (first | refine x_kcg rfl ?_ | refine x_opp rfl rfl ?_ | refine x_go rfl ?_ | refine m_getg s0 rfl rfl rfl ?_)
  refine m_callV (s_4 dy) rfl rfl rfl (c_wanted (d := d + 1) (ssh dy) (by rw [h43']; exact nI_le (b := 16) hn (by decide)) (fun a ha => by rw [hw] at ha; cases ha) (fun _ => ?_))
  repeat (first | refine x_kcg rfl ?_ | refine x_opp rfl rfl ?_ | refine x_go rfl ?_)
  refine x_ifnonN ?_
  repeat (first | refine x_kcg rfl ?_ | refine x_opp rfl rfl ?_ | refine x_go rfl ?_)
  exact x_zret (Or.inl rfl) fin
theorem l_gall {es : List eT} {al dl : Option Nat} {v : Nat → Nat → Nat} (hb1 : 13 ≤ b) (hb2 : b ≤ 28) (hs : srSh (sh0 ++ dy) b) (hg : gSh (sh0 ++ dy) g c l sp re) (hgp : 45 ≤ g) (hE : lOK E n) (hal : ∀ k, al = some k → k < n) (hdl : ∀ k, dl = some k → k < n) (h7 : M.1 g 7 = loI al) (h8 : M.1 g 8 = loI dl) (hL : cLs (sh0 ++ dy) M E P n) (h42 : es.length ≤ 42) (hoks : ∀ e, e ∈ es → eOK e) (hv : ∀ e i, e < es.length → i < (eAt es e).2.2.1 → v e i < 32 ∧ sg5 (M.1 c (mPl (eAt es e) i)) = v e i) :
    ∀ r e acc M1 s, e + r = es.length → gaF M M1 b 0 → tabIs M1 (b + 1) (b + 2) (b + 3) (b + 4) (b + 5) es → (∀ s, s < 49 → M1.1 (b + 10) s = M.1 c s) → acc.length = e → cAll M1 b acc → M1.1 b 14 = nI (lsL acc) → cTr M1 s →
      ((gR E (fun e => if (eAt es e).2.1 = true then dl else al) v (fun e => (eAt es e).2.2.1) r e acc).2.1 = 0 → ∀ M', gaF M M' b 0 → tabIs M' (b + 1) (b + 2) (b + 3) (b + 4) (b + 5) es → (∀ s, s < 49 → M'.1 (b + 10) s = M.1 c s) → (gR E (fun e => if (eAt es e).2.1 = true then dl else al) v (fun e => (eAt es e).2.2.1) r e acc).2.2.length = es.length → cAll M' b (gR E (fun e => if (eAt es e).2.1 = true then dl else al) v (fun e => (eAt es e).2.2.1) r e acc).2.2 → M'.1 b 14 = nI (lsL (gR E (fun e => if (eAt es e).2.1 = true then dl else al) v (fun e => (eAt es e).2.2.1) r e acc).2.2) → cTr M' (trc s (gR E (fun e => if (eAt es e).2.1 = true then dl else al) v (fun e => (eAt es e).2.2.1) r e acc).1) → sm_X L xs (d + 40) 90 5 (sm_code 90 5) [(0, .ref b), (1, .ref g)] [] (wm (sh0 ++ dy) M') Q) →
      ((gR E (fun e => if (eAt es e).2.1 = true then dl else al) v (fun e => (eAt es e).2.2.1) r e acc).2.1 ≠ 0 → ∀ M', gaF M M' b (gR E (fun e => if (eAt es e).2.1 = true then dl else al) v (fun e => (eAt es e).2.2.1) r e acc).2.1 → cTr M' (trc s (gR E (fun e => if (eAt es e).2.1 = true then dl else al) v (fun e => (eAt es e).2.2.1) r e acc).1) → Q (some (.int 0)) (wm (sh0 ++ dy) M')) →
      sm_X L xs (d + 40) 90 1 (sm_code 90 1) [(0, .ref b), (1, .ref g), (2, .int (nI e))] [] (wm (sh0 ++ dy) M1) Q := by
  have hs' := hs
  obtain ⟨s0, s1, s6, s7, s8, -, s10, -⟩ := hs
  intro r
  induction r with
  | zero =>
    intro e acc M1 s he f t ce ha ca c14 tr hS hF
    have he : e = es.length := he
    have fin := hS rfl M1 f t ce (by show acc.length = _; omega) ca c14 tr
    repeat (first | refine x_kcg rfl ?_ | refine x_opp rfl rfl ?_ | refine x_go rfl ?_ | refine m_getg s0 rfl rfl rfl ?_)
    refine m_get s1.1 rfl ?_
    rw [t.1]
    refine x_icm br_ge (fun _ => ?_) (fun h => absurd (nI_le (by omega) (by omega)) h)
    refine x_lvs [(0, .ref b), (1, .ref g)] rfl rfl rfl ⟨rfl, rfl, trivial⟩ ?_
    exact fin
  | succ r ih =>
    intro e acc M1 s he f t ce ha ca c14 tr hS hF
    have hlt : e < es.length := by omega
    have hn := hE.1
    obtain ⟨t1, t2, t3, t4⟩ := t.2 e _ (eAt_get hlt)
    have hok : eOK (eAt es e) := hoks _ (List.mem_of_getElem? (eAt_get hlt))
    have L1 : cLs (sh0 ++ dy) M1 E P n := cLs_fr2 (f.2.1 4 (by decide) (by decide) (by decide) (by omega)) f.1 (fun a ha => ⟨f.2.1 a (by omega) (by omega) (by omega) (by omega), f.2.2.1 a (by omega)⟩) hL
    have h50 : M1.1 1 5 = 0 := f.2.2.2.1
    have eg : M1.1 g = M.1 g := f.2.1 g (by omega) (by omega) (by omega) (by omega)
    unfold gR at hS hF
    have hli : (if (eAt es e).2.1 = true then M1.1 g 8 else M1.1 g 7) = loI (if (eAt es e).2.1 = true then dl else al) := by
      rw [eg, h7, h8]
      cases (eAt es e).2.1 <;> rfl
    have hlv : ∀ k, (if (eAt es e).2.1 = true then dl else al) = some k → k < n := by
      intro k hk
      cases hb : (eAt es e).2.1 with
      | true => rw [hb] at hk; exact hdl k hk
      | false => rw [hb] at hk; exact hal k hk
    generalize hlo : (if (eAt es e).2.1 = true then dl else al) = lo at hli hlv
    rw [hlo] at hS hF
    obtain ⟨B, fr⟩ := s
    repeat (first | refine x_kcg rfl ?_ | refine x_opp rfl rfl ?_ | refine x_go rfl ?_ | refine m_getg s0 rfl rfl rfl ?_)
    refine m_get s1.1 rfl ?_
    rw [t.1]
    refine x_icm br_ge (fun h => absurd h (nI_ge hlt (by omega))) (fun _ => ?_)
    repeat (first | refine x_kcg rfl ?_ | refine x_opp rfl rfl ?_ | refine x_go rfl ?_ | refine m_getg s0 rfl rfl rfl ?_)
    refine m_get s1.1 rfl ?_
    repeat (first | refine x_kcg rfl ?_ | refine x_opp rfl rfl ?_ | refine x_go rfl ?_)
    refine m_bald s1.2.2.1 (vp_in_nI (by omega) (by decide)) ?_
    rw [nI_clamp (by omega), t2]
    refine m_callV hg.1 rfl rfl rfl (c_listFor hg ?_)
    rw [hli]
    cases lo with
    | none =>
      dsimp only at hS hF
      refine m_callV s0 rfl rfl rfl (e_up (by omega : 0 + 5 ≤ d + 40) (c_gatherNone hb1 hs' (by omega) hn L1.1 tr h50 (fun M2 k2 tr2 => ?_)))
      have fin := hF (by show (1 : Nat) ≠ 0; decide) M2 (gaF_kF f k2) tr2
      refine x_ifc br_ne (fun h => absurd rfl h) (fun _ => ?_)
      repeat (first | refine x_kcg rfl ?_ | refine x_opp rfl rfl ?_ | refine x_go rfl ?_)
      exact x_zret (Or.inl rfl) fin
    | some ll =>
      dsimp only at hS hF
      have hll := hlv ll rfl
      refine m_callV s0 rfl rfl rfl (e_up (by omega : 0 + 2 * ll + 8 ≤ d + 40) (c_gatherFor (v := v e) hb1 hb2 hs' hE hll L1 t h42 hlt hok (fun i hi => ⟨(hv e i hlt hi).1, by rw [ce _ (mPl_lt hok hi)]; exact (hv e i hlt hi).2⟩) tr h50 (fun r0 M2 k2 c2 tr2 => ?_) (fun r0 M2 k2 tr2 => ?_)))
      · rw [if_neg (fun h => h r0)] at hS hF
        have f2 := gaF_kF f k2
        have glen := gL_len hE hll (v e) (eAt es e).2.2.1
        generalize hgl : gL E ll (v e) (eAt es e).2.2.1 = gl at hS hF r0 k2 c2 tr2 glen
        have e14 : M2.1 b 14 = nI (lsL acc) := by rw [k2.1.2.1 b (by omega) (by omega) (by omega) (by omega) (by omega)]; exact c14
        have f3 : gaF M (m_setI M2 b 14 (nI (lsL acc + gl.2.2.length))) b 0 := ⟨f2.1, fun a x y z w => by rw [mI_ne _ _ _ (by omega)]; exact f2.2.1 a x y z w, f2.2.2.1, by rw [mI_ne _ _ _ (by omega)]; exact f2.2.2.2.1, by rw [mI_ne _ _ _ (by omega)]; exact f2.2.2.2.2⟩
        have fin := ih (e + 1) (acc ++ [gl.2.2]) (m_setI M2 b 14 (nI (lsL acc + gl.2.2.length))) (trc (B, fr) gl.1) (by omega) f3 (by
            unfold tabIs
            rw [mI_ne _ _ _ (by omega), mI_ne _ _ _ (by omega), mI_ne _ _ _ (by omega), mI_ne _ _ _ (by omega), mI_ne _ _ _ (by omega), k2.1.2.1 (b + 1) (by omega) (by omega) (by omega) (by omega) (by omega), k2.1.2.1 (b + 2) (by omega) (by omega) (by omega) (by omega) (by omega), k2.1.2.1 (b + 3) (by omega) (by omega) (by omega) (by omega) (by omega), k2.1.2.1 (b + 4) (by omega) (by omega) (by omega) (by omega) (by omega), k2.1.2.1 (b + 5) (by omega) (by omega) (by omega) (by omega) (by omega)]
            exact t) (fun s hs => by rw [mI_ne _ _ _ (by omega), k2.1.2.1 (b + 10) (by omega) (by omega) (by omega) (by omega) (by omega)]; exact ce s hs) (by simp; omega) (by
            intro e' he'
            rw [List.length_append] at he'
            rw [getD_app, mI_ne _ _ _ (by omega)]
            by_cases ge : e' < acc.length
            · rw [if_pos ge, k2.1.2.2.1 e' (by omega)]
              obtain ⟨q0, q1, q2⟩ := ca e' ge
              refine ⟨q0, q1, fun j hj => ?_⟩
              show M2.2.1 (b + 6) (40 * e' + j) = _
              rw [k2.1.2.2.2.2 _ (by omega)]
              exact q2 j hj
            · rw [if_neg ge, if_pos (by simp at he'; omega)]
              have ee : e' = e := by simp at he'; omega
              subst ee
              exact ⟨glen, c2.1, fun j hj => (c2.2 j hj).1⟩) (by rw [mI_at, if_pos ⟨rfl, rfl⟩, lsL_app]) (by
            unfold cTr
            rw [mI_ne _ _ _ (by omega), mI_ne _ _ _ (by omega)]
            exact tr2) (fun q0 M' q1 q2 q3 q4 q5 q6 q7 => hS q0 M' q1 q2 q3 q4 q5 q6 (by rw [trc_app]; exact q7)) (fun q0 M' q1 q2 => hF q0 M' q1 (by rw [trc_app]; exact q2))
        refine x_ifc br_ne (fun _ => ?_) (fun h => absurd z10 h)
        repeat (first | refine x_kcg rfl ?_ | refine x_opp rfl rfl ?_ | refine x_go rfl ?_ | refine m_getg s0 rfl rfl rfl ?_)
        rw [e14]
        repeat (first | refine x_kcg rfl ?_ | refine x_opp rfl rfl ?_ | refine x_go rfl ?_ | refine m_getg s0 rfl rfl rfl ?_)
        refine m_iald s7 (vp_in_nI (by omega) (by decide)) ?_
        rw [nI_clamp (by omega), c2.1]
        repeat (first | refine x_kcg rfl ?_ | refine x_opp rfl rfl ?_ | refine x_go rfl ?_)
        rw [nI_add]
        refine m_putI s0 rfl ?_
        repeat (first | refine x_kcg rfl ?_ | refine x_incg rfl rfl ?_ | refine x_opp rfl rfl ?_)
        refine x_goto ?_
        refine x_lvs [(0, .ref b), (1, .ref g), (2, .int (nI (e + 1)))] rfl rfl rfl ⟨rfl, rfl, rfl, trivial⟩ ?_
        exact fin
      · rw [if_pos r0] at hF
        have fin := hF r0 M2 (gaF_kF f k2) tr2
        refine x_ifc br_ne (fun h => absurd rfl h) (fun _ => ?_)
        repeat (first | refine x_kcg rfl ?_ | refine x_opp rfl rfl ?_ | refine x_go rfl ?_)
        exact x_zret (Or.inl rfl) fin
/-- the data that gathering makes -/
def gD (es : List eT) (C : List (List wsT)) (B0 : Nat → Nat) : sD := (es, fun e => (C.getD e []).map (fun x => x.1), fun k => (oAll (fun e => (C.getD e []).length) es.length).getD k 0, B0)
theorem map_getD (l : List wsT) (j : Nat) : (l.map (fun x => x.1)).getD j 0 = (l.getD j (0, 0)).1 := by
  rw [List.getD_eq_getElem?_getD, List.getD_eq_getElem?_getD, List.getElem?_map]
  cases l[j]? <;> rfl
theorem c_gather {H Wd B : Nat} {al dl : Option Nat} {f : Nat → Int32} (hb1 : 13 ≤ b) (hb2 : b ≤ 28) (hs : srSh (sh0 ++ dy) b) (hg : gSh (sh0 ++ dy) g c l sp re) (hgp : 45 ≤ g ∧ 45 ≤ c ∧ 45 ≤ l) (hk : gOK M g l) (hH : M.1 g 5 = nI H) (hH7 : H ≤ 7) (hW : M.1 g 6 = nI Wd) (hW7 : Wd ≤ 7) (hE : lOK E n) (hal : ∀ k, al = some k → k < n) (hdl : ∀ k, dl = some k → k < n) (h7 : M.1 g 7 = loI al) (h8 : M.1 g 8 = loI dl) (hL : cLs (sh0 ++ dy) M E P n) (es : List eT) (hes : es = ents (M.1 g 5) (M.1 l) (M.1 c) Wd H) (h42 : es.length ≤ 42) (hoks : ∀ e, e ∈ es → eOK e) (tr : cTr M (B, f)) (h5 : M.1 1 5 = 0) (R : List Nat × Nat × List (List wsT)) (hR : R = gR E (fun e => if (eAt es e).2.1 = true then dl else al) (fun e i => sg5 (M.1 c (mPl (eAt es e) i))) (fun e => (eAt es e).2.2.1) es.length 0 [])
    (hdD : R.2.1 = 0 → dOK (gD es R.2.2 (fun s => sg5 (M.1 c s))))
    (hS : R.2.1 = 0 → ∀ M', gaF M M' b 0 → cD M' b (gD es R.2.2 (fun s => sg5 (M.1 c s))) → cS M' b (gD es R.2.2 (fun s => sg5 (M.1 c s))) (0, fun _ => 0, fun _ => 0) → M'.1 b 13 = 0 → M'.1 b 14 = nI (lsL R.2.2) → cTr M' (trc (B, f) R.1) → Q (some (.int 1)) (wm (sh0 ++ dy) M'))
    (hF : R.2.1 ≠ 0 → ∀ M', gaF M M' b R.2.1 → cTr M' (trc (B, f) R.1) → Q (some (.int 0)) (wm (sh0 ++ dy) M')) : sm_E L xs (d + 41) 90 [.ref b, .ref g] (wm (sh0 ++ dy) M) Q := by
  have hs' := hs
  obtain ⟨s0, s1, s6, s7, s8, s9, s10, s11, s12, s13, s14⟩ := hs
  refine e_intro rfl rfl ?_
  repeat (first | refine x_kcg rfl ?_ | refine x_opp rfl rfl ?_ | refine x_go rfl ?_ | refine m_getg s0 rfl rfl rfl ?_)
  refine m_callV s1.1 rfl rfl rfl (c_lookAt (d := d + 35) hg s1 hk hH hH7 hW hW7 ⟨by omega, by omega, by omega, by omega, by omega⟩ ⟨by omega, by omega, by omega, by omega, by omega⟩ ⟨by omega, by omega, by omega, by omega, by omega⟩ (by rw [← hes]; exact h42) (fun M1 t1 f1 => ?_))
  rw [← hes] at t1
  have ec : M1.1 c = M.1 c := f1.2 c (by omega) (by omega) (by omega) (by omega) (by omega)
  have h1 := hg.1
  repeat (first | refine x_kcg rfl ?_ | refine x_opp rfl rfl ?_ | refine x_go rfl ?_ | refine m_getg h1 rfl rfl rfl ?_)
  refine m_get s0 rfl ?_
  repeat (first | refine x_kcg rfl ?_ | refine x_opp rfl rfl ?_ | refine x_go rfl ?_ | refine m_getg s0 rfl rfl rfl ?_)
  refine x_invS (Q1 := fun r w => ∃ M2, r = none ∧ w = wm (sh0 ++ dy) M2 ∧ M2 = m_setA M1 (b + 10) (va_cpy (M1.1 c) (M1.1 (b + 10)) 0 0 49)) rfl (c_copy (sp := 0) (dp := 0) (k := 49) hg.2.1 s10 (by decide) (by decide) (by decide) (by decide) ⟨_, rfl, rfl, rfl⟩) ?_
  rintro _ _ ⟨M2, rfl, rfl, hM2⟩
  repeat (first | refine x_kcg rfl ?_ | refine x_opp rfl rfl ?_ | refine x_go rfl ?_)
  refine m_putI s0 rfl ?_
  have m2 : ∀ a, a ≠ b + 10 → M2.1 a = M1.1 a := fun a ha => by rw [hM2, mA_1ne _ _ ha]
  have m2L : M2.2 = M.2 := by rw [hM2]; exact f1.1
  have m2c : ∀ s, s < 49 → M2.1 (b + 10) s = M.1 c s := by
    intro s hs
    rw [hM2, mA_eq, ec]
    show (if 0 ≤ s ∧ s < 0 + 49 then M.1 c (0 + (s - 0)) else _) = _
    rw [if_pos ⟨Nat.zero_le _, by omega⟩, Nat.zero_add, Nat.sub_zero]
  generalize hM3 : m_setI M2 b (2104 / 4 % 128) 0 = M3
  have m3 : ∀ a, a ≠ b → a ≠ b + 10 → M3.1 a = M1.1 a := fun a ha hb => by rw [← hM3, mI_ne _ _ _ ha]; exact m2 a hb
  have g3 : gaF M M3 b 0 := by
    refine ⟨by rw [← hM3, mI_2, m2L], fun a x y z w => ?_, fun a _ => by rw [← hM3, mI_2, m2L], ?_, ?_⟩
    · rw [m3 a (by omega) (by omega)]
      exact f1.2 a (by omega) (by omega) (by omega) (by omega) (by omega)
    · rw [m3 1 (by omega) (by omega), f1.2 1 (by omega) (by omega) (by omega) (by omega) (by omega)]
      exact h5
    · rw [if_pos rfl, m3 3 (by omega) (by omega)]
      exact f1.2 3 (by omega) (by omega) (by omega) (by omega) (by omega)
  have t3 : tabIs M3 (b + 1) (b + 2) (b + 3) (b + 4) (b + 5) es := by
    unfold tabIs
    rw [m3 (b + 1) (by omega) (by omega), m3 (b + 2) (by omega) (by omega), m3 (b + 3) (by omega) (by omega), m3 (b + 4) (by omega) (by omega), m3 (b + 5) (by omega) (by omega)]
    exact t1
  have tr3 : cTr M3 (B, f) := by
    unfold cTr
    rw [m3 1 (by omega) (by omega), m3 2 (by omega) (by omega), f1.2 1 (by omega) (by omega) (by omega) (by omega) (by omega), f1.2 2 (by omega) (by omega) (by omega) (by omega) (by omega)]
    exact tr
  have fin := l_gall (L := L) (xs := xs) (d := d) (Q := Q) (v := fun e i => sg5 (M.1 c (mPl (eAt es e) i))) hb1 hb2 hs' hg hgp.1 hE hal hdl h7 h8 hL h42 hoks (fun e i _ _ => ⟨(sg5_eq _).2, rfl⟩) es.length 0 [] M3 (B, f) (by omega) g3 t3 (fun s hs => by rw [← hM3, mI_ne _ _ _ (by omega)]; exact m2c s hs) rfl (fun e he => absurd he (Nat.not_lt_zero e)) (by rw [← hM3, mI_at, if_pos ⟨rfl, rfl⟩]; rfl) tr3 ?_ ?_
  · repeat (first | refine x_kcg rfl ?_ | refine x_incg rfl rfl ?_ | refine x_opp rfl rfl ?_)
    refine x_fall ?_
    refine x_lvs [(0, .ref b), (1, .ref g), (2, .int (nI 0))] rfl rfl rfl ⟨rfl, rfl, rfl, trivial⟩ ?_
    exact fin
  · rw [← hR]
    intro r0 M4 g4 t4 ce4 len4 ca4 c14 tr4
    have hd := hdD r0
    generalize hDD : gD es R.2.2 (fun s => sg5 (M.1 c s)) = D at hS hd
    have D1 : D.1 = es := by rw [← hDD]; rfl
    have mnE : ∀ e, D.2.1 e = (R.2.2.getD e []).map (fun x => x.1) := fun e => by rw [← hDD]; rfl
    have odE : ∀ k, D.2.2.1 k = (oAll (fun e => (R.2.2.getD e []).length) es.length).getD k 0 := fun k => by rw [← hDD]; rfl
    have b0E : D.2.2.2 = fun s => sg5 (M.1 c s) := by rw [← hDD]; rfl
    repeat (first | refine x_kcg rfl ?_ | refine x_opp rfl rfl ?_ | refine x_go rfl ?_)
    refine m_callV s0 rfl rfl rfl (c_order (d := d + 39) (nn := es.length) (mn := fun e => (R.2.2.getD e []).length) hs' h42 t4.1 (fun e he => ⟨(ca4 e (by omega)).2.1, (ca4 e (by omega)).1⟩) (fun M5 o5 q5 => ?_))
    have m5 : ∀ a, a ≠ b + 9 → M5.1 a = M4.1 a := o5.2
    generalize hM6 : m_setI (m_setI M5 b 12 0) b 13 0 = M6
    have m6 : ∀ a, a ≠ b → a ≠ b + 9 → M6.1 a = M4.1 a := fun a ha hb => by rw [← hM6, mI_ne _ _ _ ha, mI_ne _ _ _ ha]; exact m5 a hb
    have m6L : M6.2 = M4.2 := by rw [← hM6]; exact o5.1
    have e12 : M6.1 b 12 = nI 0 := by rw [← hM6, mI_at, if_neg (by omega), mI_at, if_pos ⟨rfl, rfl⟩]; rfl
    have e13 : M6.1 b 13 = 0 := by rw [← hM6, mI_at, if_pos ⟨rfl, rfl⟩]
    have e14 : M6.1 b 14 = nI (lsL R.2.2) := by rw [← hM6, mI_at, if_neg (by omega), mI_at, if_neg (by omega), m5 b (by omega)]; exact c14
    have e9 : ∀ k, k < es.length → M6.1 (b + 9) k = nI (D.2.2.1 k) := fun k hk => by rw [← hM6, mI_ne _ _ _ (by omega), mI_ne _ _ _ (by omega), odE]; exact q5 k hk
    have D6 : cD M6 b D := by
      refine ⟨?_, fun e he => ?_, fun e k he hk => ?_, fun k hk => ?_⟩
      · rw [D1]
        unfold tabIs
        rw [m6 (b + 1) (by omega) (by omega), m6 (b + 2) (by omega) (by omega), m6 (b + 3) (by omega) (by omega), m6 (b + 4) (by omega) (by omega), m6 (b + 5) (by omega) (by omega)]
        exact t4
      · rw [D1] at he
        rw [m6 (b + 7) (by omega) (by omega), mnE, List.length_map]
        exact (ca4 e (by omega)).2.1
      · rw [D1] at he
        rw [mnE, List.length_map] at hk
        rw [m6L, mnE, map_getD]
        exact (ca4 e (by omega)).2.2 k hk
      · rw [D1] at hk
        exact e9 k hk
    have hb6 : ∀ e, e ∈ D.1 → ∀ i, i < e.2.2.1 → sg5 (M6.1 (b + 10) (mPl e i)) = D.2.2.2 (mPl e i) := by
      intro e he i hi
      rw [D1] at he
      rw [m6 (b + 10) (by omega) (by omega), ce4 _ (mPl_lt (hoks e he) hi), b0E]
    have g6 : gaF M M6 b 0 := ⟨by rw [m6L]; exact g4.1, fun a x y z w => by rw [m6 a (by omega) (by omega)]; exact g4.2.1 a x y z w, fun a w => by rw [m6L]; exact g4.2.2.1 a w, by rw [m6 1 (by omega) (by omega)]; exact g4.2.2.2.1, by rw [m6 3 (by omega) (by omega)]; exact g4.2.2.2.2⟩
    have tr6 : cTr M6 (trc (B, f) R.1) := by
      unfold cTr
      rw [m6 1 (by omega) (by omega), m6 2 (by omega) (by omega)]
      exact tr4
    repeat (first | refine x_kcg rfl ?_ | refine x_opp rfl rfl ?_ | refine x_go rfl ?_)
    refine m_putI s0 rfl ?_
    repeat (first | refine x_kcg rfl ?_ | refine x_opp rfl rfl ?_ | refine x_go rfl ?_)
    refine m_putI s0 rfl ?_
    rw [show m_setI (m_setI M5 b (2096 / 4 % 128) 0) b (2102 / 4 % 128) 0 = M6 from hM6]
    repeat (first | refine x_kcg rfl ?_ | refine x_opp rfl rfl ?_ | refine x_go rfl ?_)
    refine m_callV s0 rfl rfl rfl (c_arrive (d := d + 37) (k := 0) (f := D.2.2.2) hs' hd D6 e12 (Nat.zero_le _) hb6 ?_)
    repeat (first | refine x_kcg rfl ?_ | refine x_opp rfl rfl ?_ | refine x_go rfl ?_)
    have a7 : ∀ a, a ≠ b + 11 → (arM M6 b D D.2.2.2 0).1 a = M6.1 a := by
      intro a ha
      unfold arM
      split
      · show (m_setI M6 (b + 11) 0 0).1 a = _
        rw [mI_ne _ _ _ ha]
      · rfl
    have a7L : ∀ a, a ≠ b + 12 → a ≠ b + 13 → (arM M6 b D D.2.2.2 0).2.1 a = M6.2.1 a := by
      intro a h1 h2
      unfold arM
      split
      · rw [mL_ne _ _ _ h2, mL_ne _ _ _ h1]
        rfl
      · rfl
    have a7R : (arM M6 b D D.2.2.2 0).2.2 = M6.2.2 := by
      unfold arM
      split <;> rfl
    have D7 : cD (arM M6 b D D.2.2.2 0) b D := by
      unfold cD tabIs
      rw [a7 (b + 1) (by omega), a7 (b + 2) (by omega), a7 (b + 3) (by omega), a7 (b + 4) (by omega), a7 (b + 5) (by omega), a7 (b + 7) (by omega), a7 (b + 9) (by omega), a7L (b + 6) (by omega) (by omega)]
      exact D6
    refine x_zret (Or.inr rfl) (hS r0 _ ⟨by rw [a7R]; exact g6.1, fun a x y z w => by rw [a7 a (by omega)]; exact g6.2.1 a x y z w, fun a w => by rw [a7L a (by omega) (by omega)]; exact g6.2.2.1 a w, by rw [a7 1 (by omega)]; exact g6.2.2.2.1, by rw [a7 3 (by omega)]; exact g6.2.2.2.2⟩ D7 ⟨?_, ?_, ?_, ?_, ?_⟩ ?_ ?_ ?_)
    · rw [a7 b (by omega)]
      exact e12
    · intro k hk1 hk2
      have hk1 : k ≤ 0 := hk1
      have ek : k = 0 := by omega
      subst ek
      unfold arM
      rw [if_pos hk2]
      show (m_setI M6 (b + 11) 0 0).1 (b + 11) 0 = _
      rw [mI_at, if_pos ⟨rfl, rfl⟩]
      rfl
    · intro k hk
      exact absurd hk (Nat.not_lt_zero k)
    · intro k hk1 hk2
      have hk1 : k ≤ 0 := hk1
      have ek : k = 0 := by omega
      subst ek
      unfold arM
      rw [if_pos hk2]
      rw [mL_ne _ _ _ (show b + 12 ≠ b + 13 by omega), mL_at, if_pos ⟨rfl, rfl⟩, mL_at, if_pos ⟨rfl, rfl⟩]
      exact ⟨rfl, rfl⟩
    · intro e he i hi
      rw [a7 (b + 10) (by omega)]
      exact hb6 e he i hi
    · rw [a7 b (by omega)]
      exact e13
    · rw [a7 b (by omega)]
      exact e14
    · unfold cTr
      rw [a7 1 (by omega), a7 2 (by omega)]
      exact tr6
  · rw [← hR]
    intro r0 M4 g4 tr4
    exact hF r0 M4 g4 tr4
end CGB
