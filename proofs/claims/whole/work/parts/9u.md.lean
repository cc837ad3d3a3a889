/-! the desk moves a row -/
def dBar (x : Int32) (p q : Bool) : Int32 := if q = true then (if p = true then x &&& (-33) else x) &&& (-65) else (if p = true then x &&& (-33) else x)
/-- a row's squares behind dropping outer bars -/
def dOut (f : Nat → Int32) (b len H W s : Nat) : Int32 := dBar (f s) (decide (s / 7 = b ∧ s % 7 < len ∧ s % 7 + 1 = W)) (decide (s / 7 = b ∧ s % 7 < len ∧ b + 1 = H))
theorem dOut_no {f : Nat → Int32} {b len H W s : Nat} (h : ¬ (s / 7 = b ∧ s % 7 < len)) : dOut f b len H W s = f s := by
  unfold dOut
  rw [decide_eq_false (fun q => h ⟨q.1, q.2.1⟩), decide_eq_false (fun q => h ⟨q.1, q.2.1⟩)]
  rfl
/-- the finding of a row that is to be moved -/
def mvR (M : mm_T) (G T : Nat) (rr c ss d w : Int32) : Int32 := if M.1 66 G = 0 then 1 else if gRow (M.1 67 G) rr = false then 2 else if M.1 66 T = 0 then 1 else if gRow (M.1 67 T) ss = false then 2 else if mL M G rr.toNatClampNeg < 0 then 1 else if mL M T ss.toNatClampNeg < 0 then 1 else if gPl (mL M G rr.toNatClampNeg) c w = false then 2 else if gPl (mL M T ss.toNatClampNeg) d w = false then 2 else 0
section MD
variable {L : Nat} {xs : Nat → Int32} {t d : Nat} {dy : List sh_T} {M : mm_T} {Q : Option Value → sm_W → Prop} {n G T : Nat}
set_option maxRecDepth 4000 in
theorem c_drop {b len H W : Nat} (hT : T < 4) (hb : b < H) (hH : H ≤ 7) (hW7 : W ≤ 7) (e5 : M.1 (45 + 5 * T) 5 = nI H) (e6 : M.1 (45 + 5 * T) 6 = nI W) (hl : M.1 (47 + 5 * T) b = nI len) (l7 : len ≤ 7)
    (hq : ∀ M', M'.2 = M.2 → (∀ x, x ≠ 46 + 5 * T → M'.1 x = M.1 x) → (∀ s, M'.1 (46 + 5 * T) s = dOut (M.1 (46 + 5 * T)) b len H W s) → Q none (wm (sh0 ++ dy) M')) : sm_E L xs (d + 1) 127 [.ref (45 + 5 * T), .int (nI b)] (wm (sh0 ++ dy) M) Q := by
  obtain ⟨sg, sc, sl, -⟩ := gsh_at dy T hT
  refine e_intro rfl rfl ?_
  refine x_kcg rfl ?_
  refine x_opp rfl rfl ?_
  refine x_go rfl ?_
  refine x_lvs [(0, .ref (45 + 5 * T)), (1, .int (nI b)), (2, .int (nI 0))] rfl rfl rfl ⟨rfl, rfl, rfl, trivial⟩ ?_
  refine loop_dn (P := fun j => ∀ M1, M1.2 = M.2 → (∀ x, x ≠ 46 + 5 * T → M1.1 x = M.1 x) → (∀ s, M1.1 (46 + 5 * T) s = dOut (M.1 (46 + 5 * T)) b j H W s) → sm_X L xs d 127 1 (sm_code 127 1) [(0, .ref (45 + 5 * T)), (1, .int (nI b)), (2, .int (nI j))] [] (wm (sh0 ++ dy) M1) Q) len ?_ ?_ M rfl (fun _ _ => rfl) (fun s => by rw [dOut_no (by omega)])
  · intro M1 f1 f2 f3
    have g : nI len ≤ nI len := Int32.le_refl _
    have el : M1.1 (47 + 5 * T) b = nI len := by rw [f2 _ (by omega)]; exact hl
    have fin := hq M1 f1 f2 f3
    refine x_opp rfl rfl ?_
    refine x_opp rfl rfl ?_
    refine m_getg sg rfl rfl rfl ?_
    refine x_opp rfl rfl ?_
    refine a_ialdN sl (k := b) rfl rfl rfl (by omega) (by decide) ?_
    rw [el]
    refine a_icT rfl rfl br_ge (by first | exact g | exact nt_f g | exact tnf g | exact fnt g | exact Int32.not_lt.mp g | exact Int32.not_le.mp g | exact Int32.not_lt.mpr g | exact Int32.not_le.mpr g) ?_
    refine a_ret rfl rfl ?_
    exact fin
  · intro j hj ih M1 f1 f2 f3
    have g : ¬ nI len ≤ nI j := nI_ge hj (by omega)
    have el : M1.1 (47 + 5 * T) b = nI len := by rw [f2 _ (by omega)]; exact hl
    have e6' : ∀ v, (m_setI M1 (46 + 5 * T) (b * 7 + j) v).1 (45 + 5 * T) 5 = nI H := fun v => by rw [mI_ne _ _ _ (by omega), f2 _ (by omega)]; exact e5
    have e61 : M1.1 (45 + 5 * T) 6 = nI W := by rw [f2 _ (by omega)]; exact e6
    have e51 : M1.1 (45 + 5 * T) 5 = nI H := by rw [f2 _ (by omega)]; exact e5
    have xw : 1 ≤ W → nI W - 1 = nI (W - 1) := fun h => pk_sub (b := 1) h
    have xh : nI H - 1 = nI (H - 1) := pk_sub (b := 1) (by omega)
    have cell : M1.1 (46 + 5 * T) (b * 7 + j) = M.1 (46 + 5 * T) (b * 7 + j) := by rw [f3, dOut_no (by omega)]
    -- the cell then
    have fin : ∀ M5, M5.2 = M1.2 → (∀ x, x ≠ 46 + 5 * T → M5.1 x = M1.1 x) → (∀ s, s ≠ b * 7 + j → M5.1 (46 + 5 * T) s = M1.1 (46 + 5 * T) s) → M5.1 (46 + 5 * T) (b * 7 + j) = dBar (M.1 (46 + 5 * T) (b * 7 + j)) (decide (j + 1 = W)) (decide (b + 1 = H)) → sm_X L xs d 127 6 (sm_code 127 6) [(0, .ref (45 + 5 * T)), (1, .int (nI b)), (2, .int (nI j))] [] (wm (sh0 ++ dy) M5) Q := by
      intro M5 q1 q2 q3 q4
      have fin := ih M5 (q1.trans f1) (fun x hx => (q2 x hx).trans (f2 x hx)) (fun s => by
        by_cases e : s = b * 7 + j
        · subst e
          rw [q4]
          unfold dOut
          have x1 : (b * 7 + j) / 7 = b := by omega
          have x2 : (b * 7 + j) % 7 = j := by omega
          rw [x1, x2]
          congr 1
          · exact decide_eq_decide.mpr (by omega)
          · exact decide_eq_decide.mpr (by omega)
        · rw [q3 s e, f3 s]
          unfold dOut
          congr 1
          · exact decide_eq_decide.mpr (by omega)
          · exact decide_eq_decide.mpr (by omega))
      first | refine x_incg rfl rfl ?_ | refine x_opp rfl rfl ?_
      refine x_go rfl ?_
      refine x_lvs [(0, .ref (45 + 5 * T)), (1, .int (nI b)), (2, .int (nI (j + 1)))] rfl rfl rfl ⟨rfl, rfl, rfl, trivial⟩ ?_
      exact fin
    have w0 : (nI j = nI W - 1) ↔ j + 1 = W := by
      constructor
      · intro e
        by_cases h1 : 1 ≤ W
        · rw [xw h1, nI_eq (by omega) (by omega)] at e
          omega
        · have : W = 0 := by omega
          subst this
          exfalso
          have : nI j ≤ (-1 : Int32) := by rw [e]; decide
          exact absurd (Int32.le_trans (nI_pos' (n := j) (by omega)) this) (by decide)
      · intro e
        rw [← e]
        exact (nI_pred j).symm
    have h0 : (nI b = nI H - 1) ↔ b + 1 = H := by
      rw [xh, nI_eq (by omega) (by omega)]
      omega
    -- from the second question on
    have second : ∀ M4, M4.2 = M1.2 → (∀ x, x ≠ 46 + 5 * T → M4.1 x = M1.1 x) → (∀ s, s ≠ b * 7 + j → M4.1 (46 + 5 * T) s = M1.1 (46 + 5 * T) s) → M4.1 (46 + 5 * T) (b * 7 + j) = (if decide (j + 1 = W) = true then M.1 (46 + 5 * T) (b * 7 + j) &&& (-33) else M.1 (46 + 5 * T) (b * 7 + j)) → sm_X L xs d 127 4 (sm_code 127 4) [(0, .ref (45 + 5 * T)), (1, .int (nI b)), (2, .int (nI j))] [] (wm (sh0 ++ dy) M4) Q := by
      intro M4 q1 q2 q3 q4
      have e54 : M4.1 (45 + 5 * T) 5 = nI H := by rw [q2 _ (by omega)]; exact e51
      by_cases c2 : b + 1 = H
      · have n2 : ¬ nI b ≠ nI H - 1 := fun h => h (h0.mpr c2)
        have f := fin (m_setI M4 (46 + 5 * T) (b * 7 + j) (M4.1 (46 + 5 * T) (b * 7 + j) &&& (-65))) q1 (fun x hx => by rw [mI_ne _ _ _ hx]; exact q2 x hx) (fun s hs => by rw [mI_at, if_neg (fun h => hs h.2)]; exact q3 s hs) (by
          rw [mI_at, if_pos ⟨rfl, rfl⟩, q4]
          unfold dBar
          rw [if_pos (decide_eq_true c2)])
        refine x_opp rfl rfl ?_
        refine x_opp rfl rfl ?_
        refine m_getg sg rfl rfl rfl ?_
        refine x_kcg rfl ?_
        refine x_opp rfl rfl ?_
        rw [e54]
        refine a_icF rfl rfl br_ne (by first | exact n2 | exact nt_f n2 | exact tnf n2 | exact fnt n2 | exact Int32.not_lt.mp n2 | exact Int32.not_le.mp n2 | exact Int32.not_lt.mpr n2 | exact Int32.not_le.mpr n2) ?_
        refine x_opp rfl rfl ?_
        refine m_getg sg rfl rfl rfl ?_
        refine x_opp rfl rfl ?_
        refine x_kcg rfl ?_
        iterate 4 (refine x_opp rfl rfl ?_)
        rw [mul7]
        refine a_ialdN sc (k := b * 7 + j) rfl rfl rfl (by omega) (by decide) ?_
        refine x_kcg rfl ?_
        refine x_opp rfl rfl ?_
        refine a_iastN sc (k := b * 7 + j) rfl rfl rfl (by omega) (by decide) ?_
        refine x_go rfl ?_
        refine x_lvs [(0, .ref (45 + 5 * T)), (1, .int (nI b)), (2, .int (nI j))] rfl rfl rfl ⟨rfl, rfl, rfl, trivial⟩ ?_
        exact f
      · have n2 : nI b ≠ nI H - 1 := fun h => c2 (h0.mp h)
        have f := fin M4 q1 q2 q3 (by
          rw [q4]
          unfold dBar
          rw [decide_eq_false c2]
          rfl)
        refine x_opp rfl rfl ?_
        refine x_opp rfl rfl ?_
        refine m_getg sg rfl rfl rfl ?_
        refine x_kcg rfl ?_
        refine x_opp rfl rfl ?_
        rw [e54]
        refine a_icT rfl rfl br_ne (by first | exact n2 | exact nt_f n2 | exact tnf n2 | exact fnt n2 | exact Int32.not_lt.mp n2 | exact Int32.not_le.mp n2 | exact Int32.not_lt.mpr n2 | exact Int32.not_le.mpr n2) ?_
        refine x_lvs [(0, .ref (45 + 5 * T)), (1, .int (nI b)), (2, .int (nI j))] rfl rfl rfl ⟨rfl, rfl, rfl, trivial⟩ ?_
        exact f
    by_cases c1 : j + 1 = W
    · have n1 : ¬ nI j ≠ nI W - 1 := fun h => h (w0.mpr c1)
      have f := second (m_setI M1 (46 + 5 * T) (b * 7 + j) (M1.1 (46 + 5 * T) (b * 7 + j) &&& (-33))) rfl (fun x hx => by rw [mI_ne _ _ _ hx]) (fun s hs => by rw [mI_at, if_neg (fun h => hs h.2)]) (by rw [mI_at, if_pos ⟨rfl, rfl⟩, if_pos (decide_eq_true c1), cell])
      refine x_opp rfl rfl ?_
      refine x_opp rfl rfl ?_
      refine m_getg sg rfl rfl rfl ?_
      refine x_opp rfl rfl ?_
      refine a_ialdN sl (k := b) rfl rfl rfl (by omega) (by decide) ?_
      rw [el]
      refine a_icF rfl rfl br_ge (by first | exact g | exact nt_f g | exact tnf g | exact fnt g | exact Int32.not_lt.mp g | exact Int32.not_le.mp g | exact Int32.not_lt.mpr g | exact Int32.not_le.mpr g) ?_
      refine x_opp rfl rfl ?_
      refine x_opp rfl rfl ?_
      refine m_getg sg rfl rfl rfl ?_
      refine x_kcg rfl ?_
      refine x_opp rfl rfl ?_
      rw [e61]
      refine a_icF rfl rfl br_ne (by first | exact n1 | exact nt_f n1 | exact tnf n1 | exact fnt n1 | exact Int32.not_lt.mp n1 | exact Int32.not_le.mp n1 | exact Int32.not_lt.mpr n1 | exact Int32.not_le.mpr n1) ?_
      refine x_opp rfl rfl ?_
      refine m_getg sg rfl rfl rfl ?_
      refine x_opp rfl rfl ?_
      refine x_kcg rfl ?_
      iterate 4 (refine x_opp rfl rfl ?_)
      rw [mul7]
      refine a_ialdN sc (k := b * 7 + j) rfl rfl rfl (by omega) (by decide) ?_
      refine x_kcg rfl ?_
      refine x_opp rfl rfl ?_
      refine a_iastN sc (k := b * 7 + j) rfl rfl rfl (by omega) (by decide) ?_
      refine x_go rfl ?_
      refine x_lvs [(0, .ref (45 + 5 * T)), (1, .int (nI b)), (2, .int (nI j))] rfl rfl rfl ⟨rfl, rfl, rfl, trivial⟩ ?_
      exact f
    · have n1 : nI j ≠ nI W - 1 := fun h => c1 (w0.mp h)
      have f := second M1 rfl (fun _ _ => rfl) (fun _ _ => rfl) (by rw [if_neg (by rw [decide_eq_false c1]; decide), cell])
      refine x_opp rfl rfl ?_
      refine x_opp rfl rfl ?_
      refine m_getg sg rfl rfl rfl ?_
      refine x_opp rfl rfl ?_
      refine a_ialdN sl (k := b) rfl rfl rfl (by omega) (by decide) ?_
      rw [el]
      refine a_icF rfl rfl br_ge (by first | exact g | exact nt_f g | exact tnf g | exact fnt g | exact Int32.not_lt.mp g | exact Int32.not_le.mp g | exact Int32.not_lt.mpr g | exact Int32.not_le.mpr g) ?_
      refine x_opp rfl rfl ?_
      refine x_opp rfl rfl ?_
      refine m_getg sg rfl rfl rfl ?_
      refine x_kcg rfl ?_
      refine x_opp rfl rfl ?_
      rw [e61]
      refine a_icT rfl rfl br_ne (by first | exact n1 | exact nt_f n1 | exact tnf n1 | exact fnt n1 | exact Int32.not_lt.mp n1 | exact Int32.not_le.mp n1 | exact Int32.not_lt.mpr n1 | exact Int32.not_le.mpr n1) ?_
      refine x_lvs [(0, .ref (45 + 5 * T)), (1, .int (nI b)), (2, .int (nI j))] rfl rfl rfl ⟨rfl, rfl, rfl, trivial⟩ ?_
      exact f
/-- a row's squares copied -/
def dCp (f g : Nat → Int32) (a c0 b d0 w0 s : Nat) : Int32 := if b * 7 + d0 ≤ s ∧ s < b * 7 + d0 + w0 then g (a * 7 + c0 + (s - (b * 7 + d0))) else f s
set_option maxRecDepth 4000 in
theorem c_takeRow {a c0 b d0 w0 len H W : Nat} (hG : G < 4) (hT : T < 4) (ha : a < 7) (hb : b < H) (hH : H ≤ 7) (hW7 : W ≤ 7) (hc : c0 + w0 ≤ 7) (hd : d0 + w0 ≤ 7) (e5 : M.1 (45 + 5 * T) 5 = nI H) (e6 : M.1 (45 + 5 * T) 6 = nI W) (hl : M.1 (47 + 5 * T) b = nI len) (l7 : len ≤ 7)
    (hq : ∀ M', M'.2 = M.2 → (∀ x, x ≠ 46 + 5 * T → M'.1 x = M.1 x) → (∀ s, M'.1 (46 + 5 * T) s = dOut (dCp (M.1 (46 + 5 * T)) (M.1 (46 + 5 * G)) a c0 b d0 w0) b len H W s) → Q none (wm (sh0 ++ dy) M')) : sm_E L xs (d + 2) 126 [.ref (45 + 5 * T), .int (nI b), .int (nI d0), .ref (45 + 5 * G), .int (nI a), .int (nI c0), .int (nI w0)] (wm (sh0 ++ dy) M) Q := by
  obtain ⟨sg, sc, -⟩ := gsh_at dy T hT
  obtain ⟨sg', sc', -⟩ := gsh_at dy G hG
  refine e_intro rfl rfl ?_
  by_cases z : w0 = 0
  · subst z
    have g : nI 0 ≤ 0 := by decide
    refine x_opp rfl rfl ?_
    refine a_ifT rfl rfl br_le (by first | exact g | exact nt_f g | exact tnf g | exact fnt g | exact Int32.not_lt.mp g | exact Int32.not_le.mp g | exact Int32.not_lt.mpr g | exact Int32.not_le.mpr g) ?_
    refine x_opp rfl rfl ?_
    refine x_opp rfl rfl ?_
    refine a_callV sg rfl rfl rfl rfl (c_drop hT hb hH hW7 e5 e6 hl l7 (fun M' q1 q2 q3 => ?_))
    refine a_ret rfl rfl ?_
    refine hq M' q1 q2 (fun s => ?_)
    rw [q3 s]
    have : dCp (M.1 (46 + 5 * T)) (M.1 (46 + 5 * G)) a c0 b d0 0 = M.1 (46 + 5 * T) := by
      funext x
      unfold dCp
      rw [if_neg (by omega)]
    rw [this]
  · have g : ¬ nI w0 ≤ 0 := nI_nle (by omega) (by omega)
    refine x_opp rfl rfl ?_
    refine a_ifF rfl rfl br_le (by first | exact g | exact nt_f g | exact tnf g | exact fnt g | exact Int32.not_lt.mp g | exact Int32.not_le.mp g | exact Int32.not_lt.mpr g | exact Int32.not_le.mpr g) ?_
    refine x_opp rfl rfl ?_
    refine m_getg sg' rfl rfl rfl ?_
    refine x_opp rfl rfl ?_
    refine x_kcg rfl ?_
    iterate 4 (refine x_opp rfl rfl ?_)
    refine m_getg sg rfl rfl rfl ?_
    refine x_opp rfl rfl ?_
    refine x_kcg rfl ?_
    iterate 4 (refine x_opp rfl rfl ?_)
    rw [mul7, mul7]
    refine a_callS rfl rfl rfl rfl (c_copy (sp := a * 7 + c0) (dp := b * 7 + d0) (k := w0) sc' sc (by omega) (by omega) (by decide) (by decide) ?_)
    refine x_go rfl ?_
    refine x_opp rfl rfl ?_
    refine x_opp rfl rfl ?_
    refine a_callV sg rfl rfl rfl rfl (c_drop (len := len) hT hb hH hW7 (by rw [mA_1ne _ _ (by omega)]; exact e5) (by rw [mA_1ne _ _ (by omega)]; exact e6) (by rw [mA_1ne _ _ (by omega)]; exact hl) l7 (fun M' q1 q2 q3 => ?_))
    refine a_ret rfl rfl ?_
    refine hq M' q1 (fun x hx => by rw [q2 x hx, mA_1ne _ _ hx]) (fun s => ?_)
    rw [q3 s, mA_eq]
    rfl
end MD
