/-! gathering: both -/
def gRs (M : mm_T) (G : Nat) (E : Nat → lT) (al dl : Option Nat) : List Nat × Nat × List (List wsT) := gR E (fun e => if (eAt (gE M G) e).2.1 = true then dl else al) (fun e i => sg5 (M.1 (46 + 5 * G) (mPl (eAt (gE M G) e) i))) (fun e => (eAt (gE M G) e).2.2.1) (gE M G).length 0 []
def gDs (M : mm_T) (G : Nat) (R : List Nat × Nat × List (List wsT)) : sD := gD (gE M G) R.2.2 (fun s => sg5 (M.1 (46 + 5 * G) s))
def s00 : sS := (0, fun _ => 0, fun _ => 0)
theorem gF_fd {E : Nat → lT} {n l : Nat} (hE : lOK E n) (hl : l < n) {v : Nat → Nat} {m : Nat} : ∀ r k acc, (gF E l v m r k acc).2.1 ≤ 2
  | 0, k, acc => Nat.zero_le _
  | r + 1, k, acc => by
    unfold gF
    by_cases h : (askF E l 2 (i64 k)).2.1 ≠ 0
    · rw [if_pos h]; exact askF_fd hE l hl 2 _
    · rw [if_neg h]
      by_cases h2 : agrB v m (askF E l 2 (i64 k)).2.2 = true
      · rw [if_pos h2]
        by_cases h3 : (askF E l 3 (askF E l 2 (i64 k)).2.2).2.1 ≠ 0
        · rw [if_pos h3]; exact askF_fd hE l hl 3 _
        · rw [if_neg h3]; exact gF_fd hE hl r _ _
      · rw [if_neg h2]; exact gF_fd hE hl r _ _
theorem gL_fd {E : Nat → lT} {n l : Nat} (hE : lOK E n) (hl : l < n) (v : Nat → Nat) (m : Nat) : (gL E l v m).2.1 ≤ 2 := by
  unfold gL
  by_cases h : (askF E l 1 0).2.1 ≠ 0
  · rw [if_pos h]; exact askF_fd hE l hl 1 _
  · rw [if_neg h]; exact gF_fd hE hl _ _ _
theorem gR_fd {E : Nat → lT} {n : Nat} {lf : Nat → Option Nat} {v : Nat → Nat → Nat} {ln : Nat → Nat} (hE : lOK E n) (hlf : ∀ e l, lf e = some l → l < n) : ∀ r e acc, (gR E lf v ln r e acc).2.1 ≤ 2
  | 0, e, acc => Nat.zero_le _
  | r + 1, e, acc => by
    unfold gR
    cases h : lf e with
    | none => exact (by decide : 1 ≤ 2)
    | some l =>
      dsimp only
      by_cases h2 : (gL E l (v e) (ln e)).2.1 ≠ 0
      · rw [if_pos h2]; exact gL_fd hE (hlf e l h) _ _
      · rw [if_neg h2]; exact gR_fd hE hlf r _ _
section GA
variable {L : Nat} {xs : Nat → Int32} {t d : Nat} {dy : List sh_T} {M : mm_T} {Q : Option Value → sm_W → Prop} {n G b : Nat} {E : Nat → lT} {P w : Nat → Nat} {al dl : Option Nat} {R : List Nat × Nat × List (List wsT)} {s : Nat × (Nat → Int32)}
theorem lf_lt (hal : ∀ l, al = some l → l < n) (hdl : ∀ l, dl = some l → l < n) {es : List eT} : ∀ e l, (if (eAt es e).2.1 = true then dl else al) = some l → l < n := fun e l h => by
  split at h
  · exact hdl l h
  · exact hal l h
theorem gRs_2 (hE : lOK E n) (hal : ∀ l, al = some l → l < n) (hdl : ∀ l, dl = some l → l < n) : (gRs M G E al dl).2.1 ≤ 2 := gR_fd hE (lf_lt hal hdl) _ _ _
theorem gRs_len (h : rG M n) (hG : G < 4) (hL : rL dy M E P w n) (hal : ∀ l, al = some l → l < n) (hdl : ∀ l, dl = some l → l < n) : (gRs M G E al dl).1.length ≤ 204120 := by
  have hw : ∀ l, l < n → ∀ act o, (askF E l act o).1.length ≤ 60 := fun l hl act o => by
    have := ask_len hL.1 hL.2.2.2.2.1 l hl act o
    have := (hL.2.2.2.2.2.1 l hl).1
    omega
  have k := gR_cl (K := 60) (v := fun e i => sg5 (M.1 (46 + 5 * G) (mPl (eAt (gE M G) e) i))) (ln := fun e => (eAt (gE M G) e).2.2.1) hL.1 (lf_lt hal hdl (es := gE M G)) hw (gE M G).length 0 []
  have := (gE_ok h hG).1
  unfold gRs
  omega
theorem gDs_ok (h : rG M n) (hG : G < 4) (hE : lOK E n) (hal : ∀ l, al = some l → l < n) (hdl : ∀ l, dl = some l → l < n) (hR : R = gRs M G E al dl) (h0 : R.2.1 = 0) : dOK (gDs M G R) := by
  subst hR
  exact gD_ok hE (lf_lt hal hdl) (gE_ok h hG).1 (gE_ok h hG).2.1 (fun s => (sg5_eq _).2) h0
theorem s00_I (D : sD) : sI D s00 := ⟨Nat.zero_le _, fun k hk => absurd hk (Nat.not_lt_zero k), fun k _ _ => Nat.zero_le _⟩
theorem c_gat (hb : b = 13 ∨ b = 28) (h : rG M n) (hL : rL dy M E P w n) (hG : G < 4) (tr : cTr M s) (h5 : M.1 1 5 = 0) (h7 : M.1 (45 + 5 * G) 7 = loI al) (h8 : M.1 (45 + 5 * G) 8 = loI dl) (hal : ∀ l, al = some l → l < n) (hdl : ∀ l, dl = some l → l < n) (hR : R = gRs M G E al dl)
    (hS : R.2.1 = 0 → ∀ M', gaF M M' b 0 → cD M' b (gDs M G R) → cS M' b (gDs M G R) s00 → M'.1 b 13 = 0 → M'.1 b 14 = nI (lsL R.2.2) → cTr M' (trc s R.1) → Q (some (.int 1)) (wm (sh0 ++ dy) M'))
    (hF : R.2.1 ≠ 0 → ∀ M', gaF M M' b R.2.1 → cTr M' (trc s R.1) → Q (some (.int 0)) (wm (sh0 ++ dy) M')) : sm_E L xs (d + 41) 90 [.ref b, .ref (45 + 5 * G)] (wm (sh0 ++ dy) M) Q := by
  obtain ⟨B, f⟩ := s
  obtain ⟨H, W, b1, b2, b3, b4, b5, b6, gk, mk, v1, v2, a1, a2⟩ := rG_v h hG
  have v0 : vOK (M.1 67 G) (M.1 (47 + 5 * G)) H W := ⟨b4, b1, b2, fun i hi => by rw [v2.1 i hi]; exact v1.2.2.2 i hi⟩
  have e : ents (M.1 (45 + 5 * G) 5) (M.1 (47 + 5 * G)) (M.1 (46 + 5 * G)) W H = gE M G := by
    unfold gE
    rw [b3, ← b4, vEq_ents v0 v2, b6, b4, nI_clamp (by omega), nI_clamp (by omega)]
  have hs : srSh (sh0 ++ dy) b := by
    rcases hb with rfl | rfl
    · exact srSh_13 dy
    · exact srSh_28 dy
  obtain ⟨o1, o2, -⟩ := gE_ok h hG
  exact c_gather (by omega) (by omega) hs (gsh_at dy G hG) (by omega) gk b3 b1 b5 b2 hL.1 hal hdl h7 h8 hL.2.1 (gE M G) e.symm o1 o2 tr h5 R hR (fun q => gDs_ok h hG hL.1 hal hdl hR q) hS hF
theorem k_beg {Mr : mm_T} {q : Nat} (hq1 : q ≤ 1) (h : rG M n) (hL : rL dy M E P w n) (hG : G < 4) (fr : ∀ a i, a = 4 ∨ a = 6 ∨ (66 ≤ a ∧ a ≤ 83) ∨ 114 ≤ a ∨ (a = 65 ∧ i = 9) → Mr.1 a i = M.1 a i) (f2 : ∀ a, a = 78 ∨ a = 82 ∨ 114 ≤ a → Mr.2.1 a = M.2.1 a) (f3 : Mr.2.2 5 = M.2.2 5) (tr : mTr Mr s) (h73 : M.1 73 G = loI al) (h74 : M.1 74 G = loI dl) (hal : ∀ l, al = some l → l < n) (hdl : ∀ l, dl = some l → l < n) (hR : R = gRs M G E al dl) (hB : s.1 + 204120 + 2 < 2 ^ 31)
    (hS : R.2.1 = 0 → ∀ M', bF Mr M' q → mD M' q (gDs M G R) → mS M' q (gDs M G R) s00 → M'.1 98 q = nI (lsL R.2.2) → (∀ s, s < 49 → M'.1 106 (49 * q + s) = M.1 70 (49 * G + s)) → mTr M' (trc s R.1) → Q (some (.int 1)) (wm (sh0 ++ dy) M'))
    (hF : R.2.1 ≠ 0 → ∀ M', bF Mr M' q → mTr M' (trc s R.1) → M'.1 65 31 = nI R.2.1 → Q (some (.int 0)) (wm (sh0 ++ dy) M')) : sm_E L xs (d + 7) 194 [.ref 65, .int (nI q), .int (nI G)] (wm (sh0 ++ dy) Mr) Q := by
  have len := gRs_len h hG hL hal hdl
  rw [← hR] at len
  obtain ⟨B, f⟩ := s
  obtain ⟨H, W, b1, b2, b3, b4, b5, b6, gk, mk, v1, v2, a1, a2⟩ := rG_v h hG
  have ml : mL Mr G = mL M G := funext fun i => fr 69 _ (by omega)
  have mc : mC Mr G = mC M G := funext fun i => by
    unfold mC tld
    rw [fr 70 _ (by omega), fr 71 _ (by omega), fr 72 _ (by omega)]
  have e : gE M G = ents (Mr.1 67 G) (mL Mr G) (mC Mr G) W H := by
    unfold gE
    rw [fr 67 _ (by omega), ml, mc, b4, b6, nI_clamp (by omega), nI_clamp (by omega)]
  have ms : msOK Mr := fun x hx => by
    rw [fr 70 _ (by omega), fr 71 _ (by omega), fr 72 _ (by omega)]
    exact h.1 x hx
  obtain ⟨o1, o2, o3⟩ := gE_ok h hG
  refine k_beginSearch (B0 := fun x => sg5 (M.1 (46 + 5 * G) x)) hq1 hG (mgOK_fr (fun a i x y => fr a i (by omega)) mk) ms (by rw [fr _ _ (by omega)]; exact b4) b1 (by rw [fr _ _ (by omega)]; exact b6) b2 hL.1 hal hdl (by rw [fr _ _ (by omega)]; exact h73) (by rw [fr _ _ (by omega)]; exact h74) (rL_fr hL (fun a i x => fr a i (by omega)) f2 f3).2.2.1 (gE M G) e o1 o2 tr (fun x hx i hi => ?_) R hR (by omega) (fun q M' y1 y2 y3 y4 y5 y6 => hS q M' y1 y2 y3 y4 (fun x hx => by rw [y5 x hx, fr _ _ (by omega)]) y6) hF
  rw [fr _ _ (by omega), ← o3 x hx i hi]
  exact sg5_eq _
end GA
