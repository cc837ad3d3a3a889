/-! pure facts: data of a searching, how many bodies -/
theorem gR_get {E : Nat → lT} {lf : Nat → Option Nat} {v : Nat → Nat → Nat} {ln : Nat → Nat} : ∀ r e acc, (gR E lf v ln r e acc).2.1 = 0 → acc.length = e → (gR E lf v ln r e acc).2.2.length = e + r ∧ ∀ e', e' < e + r → (e' < e → (gR E lf v ln r e acc).2.2.getD e' [] = acc.getD e' []) ∧ (e ≤ e' → ∃ l, lf e' = some l ∧ (gL E l (v e') (ln e')).2.1 = 0 ∧ (gR E lf v ln r e acc).2.2.getD e' [] = (gL E l (v e') (ln e')).2.2)
  | 0, e, acc, _, ha => ⟨by show acc.length = e + 0; omega, fun e' he' => ⟨fun _ => rfl, fun h => by omega⟩⟩
  | r + 1, e, acc, h0, ha => by
    unfold gR at h0 ⊢
    cases hl : lf e with
    | none => rw [hl] at h0; cases h0
    | some l =>
      rw [hl] at h0
      dsimp only at h0 ⊢
      by_cases r0 : (gL E l (v e) (ln e)).2.1 ≠ 0
      · rw [if_pos r0] at h0
        exact absurd h0 r0
      · rw [if_neg r0] at h0 ⊢
        obtain ⟨g1, g2⟩ := gR_get r (e + 1) (acc ++ [(gL E l (v e) (ln e)).2.2]) h0 (by simp; omega)
        refine ⟨by show (gR E lf v ln r (e + 1) (acc ++ [(gL E l (v e) (ln e)).2.2])).2.2.length = _; omega, fun e' he' => ?_⟩
        obtain ⟨p1, p2⟩ := g2 e' (by omega)
        refine ⟨fun h => ?_, fun h => ?_⟩
        · show (gR E lf v ln r (e + 1) (acc ++ [(gL E l (v e) (ln e)).2.2])).2.2.getD e' [] = _
          rw [p1 (by omega), getD_app, if_pos (by omega)]
        · by_cases ee : e' = e
          · subst ee
            refine ⟨l, hl, Decidable.not_not.mp r0, ?_⟩
            show (gR E lf v ln r (e' + 1) (acc ++ [(gL E l (v e') (ln e')).2.2])).2.2.getD e' [] = _
            rw [p1 (by omega), getD_app, if_neg (by omega), if_pos ha.symm]
          · exact p2 (by omega)
theorem gL_ok {E : Nat → lT} {m l : Nat} (hE : lOK E m) (hl : l < m) {v : Nat → Nat} {n : Nat} (hn : 2 ≤ n) : ∀ x, x ∈ (gL E l v n).2.2 → wOK 26 x.1 n := by
  unfold gL
  by_cases r0 : (askF E l 1 0).2.1 ≠ 0
  · rw [if_pos r0]
    intro x hx
    cases hx
  · rw [if_neg r0]
    exact gF_ok hE hl hn _ 0 [] (fun x hx => by cases hx)
/-- what gathering makes are good data -/
theorem gD_ok {E : Nat → lT} {m : Nat} {lf : Nat → Option Nat} {v : Nat → Nat → Nat} {es : List eT} {B0 : Nat → Nat} (hE : lOK E m) (hlf : ∀ e l, lf e = some l → l < m) (h42 : es.length ≤ 42) (hoks : ∀ e, e ∈ es → eOK e) (hB : ∀ s, B0 s < 32) (h0 : (gR E lf v (fun e => (eAt es e).2.2.1) es.length 0 []).2.1 = 0) : dOK (gD es (gR E lf v (fun e => (eAt es e).2.2.1) es.length 0 []).2.2 B0) := by
  obtain ⟨g1, g2⟩ := gR_get es.length 0 [] h0 rfl
  generalize hR : (gR E lf v (fun e => (eAt es e).2.2.1) es.length 0 []).2.2 = C at g1 g2
  have key : ∀ e, e < es.length → ∃ l, l < m ∧ C.getD e [] = (gL E l (v e) (eAt es e).2.2.1).2.2 := by
    intro e he
    obtain ⟨l, h1, h2, h3⟩ := (g2 e (by omega)).2 (Nat.zero_le _)
    exact ⟨l, hlf e l h1, h3⟩
  refine ⟨h42, hoks, fun k hk => ?_, fun k hk => ?_, fun k w hk hw => ?_, hB⟩
  · have hk : k < es.length := hk
    show (oAll (fun e => (C.getD e []).length) es.length).getD k 0 < es.length
    have hl := oAll_len (fun e => (C.getD e []).length) es.length
    rw [List.getD_eq_getElem?_getD, List.getElem?_eq_getElem (by omega)]
    exact (oAll_mem _ _ _).mp (List.getElem_mem _)
  · have hk : k < es.length := hk
    show ((C.getD k []).map (fun x => x.1)).length ≤ 40
    rw [List.length_map]
    obtain ⟨l, h1, h2⟩ := key k hk
    rw [h2]
    exact gL_len hE h1 _ _
  · have hk : k < es.length := hk
    have hw : w ∈ (C.getD k []).map (fun x => x.1) := hw
    obtain ⟨l, h1, h2⟩ := key k hk
    rw [h2, List.mem_map] at hw
    obtain ⟨x, hx, rfl⟩ := hw
    exact gL_ok hE h1 (hoks _ (List.mem_of_getElem? (eAt_get hk))).2.1 x hx
theorem gD_inj {es : List eT} {C : List (List wsT)} {B0 : Nat → Nat} : ∀ i j, i < (gD es C B0).1.length → j < (gD es C B0).1.length → (gD es C B0).2.2.1 i = (gD es C B0).2.2.1 j → i = j := by
  intro i j hi hj h
  have hi : i < es.length := hi
  have hj : j < es.length := hj
  have h : (oAll (fun e => (C.getD e []).length) es.length).getD i 0 = (oAll (fun e => (C.getD e []).length) es.length).getD j 0 := h
  have hl := oAll_len (fun e => (C.getD e []).length) es.length
  have hn := oAll_nd (fun e => (C.getD e []).length) es.length
  generalize oAll (fun e => (C.getD e []).length) es.length = o at h hl hn
  rw [List.getD_eq_getElem?_getD, List.getD_eq_getElem?_getD, List.getElem?_eq_getElem (by omega), List.getElem?_eq_getElem (by omega)] at h
  have hp := List.pairwise_iff_getElem.mp hn
  rcases Nat.lt_trichotomy i j with g | g | g
  · exact absurd h (hp i j (by omega) (by omega) g)
  · exact g
  · exact absurd h.symm (hp j i (by omega) (by omega) g)
theorem gD_sur {es : List eT} {C : List (List wsT)} {B0 : Nat → Nat} : ∀ e, e < es.length → ∃ k, k < es.length ∧ (gD es C B0).2.2.1 k = e := by
  intro e he
  have hl := oAll_len (fun e => (C.getD e []).length) es.length
  have hm := (oAll_mem (fun e => (C.getD e []).length) es.length e).mpr he
  obtain ⟨k, hk, ek⟩ := List.getElem_of_mem hm
  refine ⟨k, by omega, ?_⟩
  show (oAll (fun e => (C.getD e []).length) es.length).getD k 0 = e
  rw [List.getD_eq_getElem?_getD, List.getElem?_eq_getElem hk, ek]
  rfl
/-- the weights of lists: what a list asks weighs less -/
def lWt (E : Nat → lT) (w : Nat → Nat) (n : Nat) : Prop := ∀ l, l < n → w l = 1 + (if 3 ≤ lK (E l) then w (lA1 (E l)) else 0) + (if lK (E l) = 4 then w (lA2 (E l)) else 0)
theorem ask_len {E : Nat → lT} {n : Nat} (hE : lOK E n) {w : Nat → Nat} (hw : lWt E w n) : ∀ l, l < n → ∀ act o, (askF E l act o).1.length ≤ 2 * w l := by
  intro l
  induction l using Nat.strongRecOn with
  | _ l ih =>
    intro hl act o
    obtain ⟨h0, h1, h2, -⟩ := hE.2 l hl
    have wl := hw l hl
    rw [askF_eq hE hl]
    by_cases g1 : lDr (E l) = true
    · rw [if_pos g1]
      exact Nat.zero_le _
    · rw [if_neg g1]
      by_cases g2 : lK (E l) < 3
      · rw [if_pos g2]
        have hL : (askL (E l) act o).1.length ≤ 2 := by
          unfold askL
          by_cases a0 : act = 0
          · rw [if_pos a0]
            show (if lK (E l) = 2 then [20, 0] else [0]).length ≤ 2
            split <;> decide
          · rw [if_neg a0]
            by_cases a1 : act = 1
            · rw [if_pos a1]
              show (if lK (E l) = 2 then [21] else [1]).length ≤ 2
              split <;> decide
            · rw [if_neg a1]
              by_cases a2 : act = 2
              · rw [if_pos a2]
                by_cases o1 : o < 0
                · rw [if_pos o1]
                  show [2].length ≤ 2
                  decide
                · rw [if_neg o1]
                  by_cases o2 : (nI (lMy (E l))).toInt64 ≤ o
                  · rw [if_pos o2]
                    show [2].length ≤ 2
                    decide
                  · rw [if_neg o2]
                    show [2].length ≤ 2
                    decide
              · rw [if_neg a2]
                show (if lK (E l) = 1 then [13, 3] else [3]).length ≤ 2
                split <;> decide
        omega
      · rw [if_neg g2]
        have a1 := h1 (by omega)
        have i1 := ih _ a1 (by omega)
        rw [if_pos (by omega)] at wl
        by_cases g3 : lK (E l) = 3
        · rw [if_pos g3]
          by_cases c1 : act = 0 ∧ fitB (lPt (E l)) o = false
          · rw [if_pos c1]
            show [30].length ≤ _
            simp
            omega
          · rw [if_neg c1]
            have := i1 act o
            dsimp only
            by_cases r0 : (askF E (lA1 (E l)) act o).2.1 = 0
            · rw [if_pos r0, List.length_cons]
              omega
            · rw [if_neg r0, List.length_cons]
              omega
        · rw [if_neg g3]
          have a2 := h2 (by omega)
          have i2 := ih _ a2 (by omega)
          rw [if_pos (by omega)] at wl
          have j1 := i1 act o
          dsimp only
          by_cases r0 : (askF E (lA1 (E l)) act o).2.1 = 0
          · rw [if_pos r0]
            by_cases c1 : act ≠ 1 ∧ (act = 3 ∨ (askF E (lA1 (E l)) act o).2.2 ≠ 0)
            · rw [if_pos c1]
              have j2 := i2 (if act = 2 then 0 else act) (if act = 2 then (askF E (lA1 (E l)) act o).2.2 else o)
              generalize askF E (lA2 (E l)) _ _ = r2 at j2 ⊢
              by_cases r1 : r2.2.1 = 0
              · rw [if_pos r1, List.length_cons, List.length_append]
                omega
              · rw [if_neg r1, List.length_cons, List.length_append]
                omega
            · rw [if_neg c1, List.length_cons]
              omega
          · rw [if_neg r0, List.length_cons]
            omega
theorem gF_cl {E : Nat → lT} {l K : Nat} (hK : ∀ act o, (askF E l act o).1.length ≤ K) (v : Nat → Nat) (n : Nat) : ∀ r k acc, (gF E l v n r k acc).1.length ≤ 2 * K * r
  | 0, k, acc => by
    show ([] : List Nat).length ≤ _
    simp
  | r + 1, k, acc => by
    have h1 := hK 2 (i64 k)
    have h2 := hK 3 (askF E l 2 (i64 k)).2.2
    have e : 2 * K * (r + 1) = 2 * K * r + 2 * K := by rw [Nat.mul_succ]
    unfold gF
    by_cases c1 : (askF E l 2 (i64 k)).2.1 ≠ 0
    · rw [if_pos c1]
      show (askF E l 2 (i64 k)).1.length ≤ _
      omega
    · rw [if_neg c1]
      by_cases c2 : agrB v n (askF E l 2 (i64 k)).2.2 = true
      · rw [if_pos c2]
        by_cases c3 : (askF E l 3 (askF E l 2 (i64 k)).2.2).2.1 ≠ 0
        · rw [if_pos c3]
          show ((askF E l 2 (i64 k)).1 ++ (askF E l 3 (askF E l 2 (i64 k)).2.2).1).length ≤ _
          rw [List.length_append]
          omega
        · rw [if_neg c3]
          have h3 := gF_cl hK v n r (k + 1) (cIns acc ((askF E l 2 (i64 k)).2.2, (askF E l 3 (askF E l 2 (i64 k)).2.2).2.2.toInt32))
          show ((askF E l 2 (i64 k)).1 ++ ((askF E l 3 (askF E l 2 (i64 k)).2.2).1 ++ _)).length ≤ _
          rw [List.length_append, List.length_append]
          omega
      · rw [if_neg c2]
        have h3 := gF_cl hK v n r (k + 1) acc
        show ((askF E l 2 (i64 k)).1 ++ _).length ≤ _
        rw [List.length_append]
        omega
theorem gL_cl {E : Nat → lT} {n l K : Nat} (hE : lOK E n) (hl : l < n) (hK : ∀ act o, (askF E l act o).1.length ≤ K) (v : Nat → Nat) (m : Nat) : (gL E l v m).1.length ≤ 81 * K := by
  have h1 := hK 1 0
  unfold gL
  by_cases r0 : (askF E l 1 0).2.1 ≠ 0
  · rw [if_pos r0]
    show (askF E l 1 0).1.length ≤ _
    omega
  · rw [if_neg r0]
    obtain ⟨m0, hm0, em0⟩ := (askF_val hE l hl 1 0 (Decidable.not_not.mp r0)).2.1 rfl
    have en : (askF E l 1 0).2.2.toInt32 = nI m0 := by rw [em0, k64_i]
    rw [en, nI_clamp (by omega)]
    have h2 := gF_cl hK v m m0 0 []
    show ((askF E l 1 0).1 ++ _).length ≤ _
    rw [List.length_append]
    have h3 : 2 * K * m0 ≤ 2 * K * 40 := Nat.mul_le_mul_left _ hm0
    omega
theorem gR_cl {E : Nat → lT} {n K : Nat} {lf : Nat → Option Nat} {v : Nat → Nat → Nat} {ln : Nat → Nat} (hE : lOK E n) (hlf : ∀ e l, lf e = some l → l < n) (hK : ∀ l, l < n → ∀ act o, (askF E l act o).1.length ≤ K) : ∀ r e acc, (gR E lf v ln r e acc).1.length ≤ 81 * K * r
  | 0, e, acc => by
    show ([] : List Nat).length ≤ _
    simp
  | r + 1, e, acc => by
    have e1 : 81 * K * (r + 1) = 81 * K * r + 81 * K := by rw [Nat.mul_succ]
    unfold gR
    cases hl : lf e with
    | none =>
      show ([] : List Nat).length ≤ _
      simp
    | some l =>
      have h1 := gL_cl hE (hlf e l hl) (hK l (hlf e l hl)) (v e) (ln e)
      dsimp only
      by_cases r0 : (gL E l (v e) (ln e)).2.1 ≠ 0
      · rw [if_pos r0]
        show (gL E l (v e) (ln e)).1.length ≤ _
        omega
      · rw [if_neg r0]
        have h2 := gR_cl hE hlf hK (v := v) (ln := ln) r (e + 1) (acc ++ [(gL E l (v e) (ln e)).2.2])
        show ((gL E l (v e) (ln e)).1 ++ _).length ≤ _
        rw [List.length_append]
        omega
