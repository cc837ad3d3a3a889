/-! pairs: squares are changed -/
theorem lt_dec : ∀ n, n < 32 → ∀ v, v < 32 → ∀ a b : Bool, ((nI n + (if a = true then 0 else 32) + (if b = true then 0 else 64)) &&& (-32) ||| nI v) = nI v + (if a = true then 0 else 32) + (if b = true then 0 else 64) := by decide +kernel
theorem tl_dec : ∀ v, v < 32 → ∀ a b : Bool, nI v + (if a = true then 0 else 32) + (if b = true then 0 else 64) = nI (v + (if a = true then 0 else 32) + (if b = true then 0 else 64)) ∧ v + (if a = true then 0 else 32) + (if b = true then 0 else 64) < 128 := by decide +kernel
theorem br_dec : ∀ n, n < 32 → ∀ a b : Bool, (((nI n + (if a = true then 0 else 32) + (if b = true then 0 else 64)) ||| 32) = nI n + 32 + (if b = true then 0 else 64)) ∧ (((nI n + (if a = true then 0 else 32) + (if b = true then 0 else 64)) &&& (32 ^^^ (-1))) = nI n + 0 + (if b = true then 0 else 64)) ∧ (((nI n + (if a = true then 0 else 32) + (if b = true then 0 else 64)) ||| 64) = nI n + (if a = true then 0 else 32) + 64) ∧ (((nI n + (if a = true then 0 else 32) + (if b = true then 0 else 64)) &&& (64 ^^^ (-1))) = nI n + (if a = true then 0 else 32) + 0) := by decide +kernel
theorem nI_ofm {x : Int32} {m : Nat} (h0 : ¬ x < 0) (hm : x ≤ nI m) (h31 : m < 2 ^ 31) : ∃ n : Nat, n ≤ m ∧ x = nI n := by
  obtain ⟨j, hj, rfl⟩ := nI_of h0
  refine ⟨j, ?_, rfl⟩
  rw [Int32.le_iff_toInt_le, nI_toInt hj, nI_toInt h31] at hm
  omega
theorem mgOK_fr {M M' : mm_T} {G : Nat} (h : ∀ a i, 66 ≤ a → a ≤ 69 → M'.1 a i = M.1 a i) (k : mgOK M G) : mgOK M' G := by
  have e : mL M' G = mL M G := funext (fun i => h 69 _ (by decide) (by decide))
  unfold mgOK
  rw [e, h 67 _ (by decide) (by decide), h 68 _ (by decide) (by decide)]
  exact k
theorem inR_26 {v : Int32} (hv : inR v 0 26 = true) : ¬ v < 0 ∧ v ≤ 26 := by
  have hv0 : ¬ v < 0 := fun h => by unfold inR at hv; rw [if_pos h] at hv; cases hv
  refine ⟨hv0, ?_⟩
  unfold inR at hv
  rw [if_neg hv0] at hv
  by_cases q : (26 : Int32) < v
  · rw [if_pos q] at hv; cases hv
  · exact Int32.not_lt.mp q
theorem tld_ok {M : mm_T} {s : Nat} (h : (∃ n, n < 32 ∧ M.1 70 s = nI n) ∧ (M.1 71 s = 0 ∨ M.1 71 s = 1) ∧ (M.1 72 s = 0 ∨ M.1 72 s = 1)) : ∃ ca, ca < 128 ∧ tld M s = nI ca := by
  obtain ⟨⟨n, hn, e⟩, -, -⟩ := h
  have k := tl_dec n hn (decide (M.1 71 s = 0)) (decide (M.1 72 s = 0))
  simp only [decide_eq_true_eq] at k
  unfold tld
  rw [e]
  exact ⟨_, k.2, k.1⟩
/-- one square of a grid has changed, on both sides -/
theorem rG_sq {M M' : mm_T} {n G i0 j0 : Nat} (h : rG M n) (hG : G < 4) (hi : i0 < 7) (hj : j0 < 7) (fr : ∀ a i, (45 ≤ a ∧ a ≤ 64 ∧ (a - 45) % 5 < 3) ∨ (66 ≤ a ∧ a ≤ 74) → ¬ (a = 46 + 5 * G ∧ i = i0 * 7 + j0) → ¬ (70 ≤ a ∧ a ≤ 72 ∧ i = 49 * G + (i0 * 7 + j0)) → M'.1 a i = M.1 a i) (h2 : M'.2.2 7 = M.2.2 7)
    (k1 : M'.1 (46 + 5 * G) (i0 * 7 + j0) = mC M' G (i0 * 7 + j0)) (k3 : (∃ n, n < 32 ∧ M'.1 70 (49 * G + (i0 * 7 + j0)) = nI n) ∧ (M'.1 71 (49 * G + (i0 * 7 + j0)) = 0 ∨ M'.1 71 (49 * G + (i0 * 7 + j0)) = 1) ∧ (M'.1 72 (49 * G + (i0 * 7 + j0)) = 0 ∨ M'.1 72 (49 * G + (i0 * 7 + j0)) = 1)) (k4 : M'.1 71 (49 * G + (i0 * 7 + j0)) = M.1 71 (49 * G + (i0 * 7 + j0)) ∨ ¬ M.1 68 G = nI (j0 + 1)) : rG M' n := by
  obtain ⟨g1, g2, g3⟩ := h
  refine ⟨fun s hs => ?_, fun K hK => by rw [h2]; exact g2 K hK, fun K hK => ?_⟩
  · by_cases e : s = 49 * G + (i0 * 7 + j0)
    · subst e; exact k3
    · rw [fr 70 s (by omega) (by omega) (by omega), fr 71 s (by omega) (by omega) (by omega), fr 72 s (by omega) (by omega) (by omega)]
      exact g1 s hs
  · by_cases e : K = G
    · subst e
      obtain ⟨⟨a1, a2⟩, ⟨H, W, b1, b2, b3, b4, b5, b6, b7, b8, b9⟩, c1, ⟨al, dl, d1, d2, d3, d4, d5, d6⟩⟩ := g3 K hK
      have eL : ∀ i, i < 7 → mL M' K i = mL M K i := mL_ext (fun i hi => fr 69 _ (by omega) (by omega) (by omega))
      refine ⟨⟨?_, ?_⟩, ⟨H, W, b1, b2, ?_, ?_, ?_, ?_, fun i hi => ?_, fun i j hi hj => ?_, fun i hi hj hw => ?_⟩, fun s hs => ?_, ⟨al, dl, ?_, ?_, ?_, ?_, d5, d6⟩⟩
      · rw [fr _ _ (by omega) (by omega) (by omega), fr _ _ (by omega) (by omega) (by omega)]; exact a1
      · rw [fr _ _ (by omega) (by omega) (by omega)]; exact a2
      · rw [fr _ _ (by omega) (by omega) (by omega)]; exact b3
      · rw [fr _ _ (by omega) (by omega) (by omega)]; exact b4
      · rw [fr _ _ (by omega) (by omega) (by omega)]; exact b5
      · rw [fr _ _ (by omega) (by omega) (by omega)]; exact b6
      · rw [fr _ _ (by omega) (by omega) (by omega), eL i hi]; exact b7 i hi
      · rw [eL i (by omega)] at hj
        by_cases q : i * 7 + j = i0 * 7 + j0
        · rw [q]; exact k1
        · have := ln_cl (b7 i (by omega)).2.1 (Int32.le_trans (b7 i (by omega)).2.2.1 (nI_le (b := 7) b2 (by decide)))
          unfold mC tld
          rw [fr _ _ (by omega) (by omega) (by omega), fr 70 _ (by omega) (by omega) (by omega), fr 71 _ (by omega) (by omega) (by omega), fr 72 _ (by omega) (by omega) (by omega)]
          exact b8 i j hi hj
      · rw [eL i (by omega)] at hj
        by_cases q : i * 7 + (W - 1) = i0 * 7 + j0
        · rcases k4 with k4 | k4
          · rw [q, k4, ← q]; exact b9 i hi hj hw
          · exact absurd (by rw [b6]; congr 1; omega) k4
        · rw [fr 71 _ (by omega) (by omega) (by omega)]; exact b9 i hi hj hw
      · by_cases q : s = i0 * 7 + j0
        · subst q
          rw [k1]
          exact tld_ok k3
        · rw [fr _ _ (by omega) (by omega) (by omega)]; exact c1 s hs
      · rw [fr _ _ (by omega) (by omega) (by omega)]; exact d1
      · rw [fr _ _ (by omega) (by omega) (by omega)]; exact d2
      · rw [fr _ _ (by omega) (by omega) (by omega)]; exact d3
      · rw [fr _ _ (by omega) (by omega) (by omega)]; exact d4
    · exact rg_fr (Nat.le_refl n) (fun a i x y => fr a i (by omega) (by omega) (by omega)) (fun a x => fr a K (by omega) (by omega) (by omega)) (fun i _ => fr 69 _ (by omega) (by omega) (by omega)) (fun a s x y _ => fr a _ (by omega) (by omega) (by omega)) (g3 K hK)
section AJ
variable {L : Nat} {xs : Nat → Int32} {d y cb : Nat} {is : List sm_I} {lv : sm_L} {st st0 : List Value} {Q : Option Value → sm_W → Prop} {i : sm_I} {sh : List sh_T} {M : mm_T} {a : Nat} {s : sh_T}
theorem a_putJ {k : Nat} {v : Int32} (j : Nat) (hs : sh[a]? = some s) (hi : pfI i = some k) (hst : st0 = .int v :: .ref a :: st) (hj : k / 4 % 128 = j) (hv : m_pf (s (M.1 a) (M.2.1 a) (M.2.2 a)) k (.int v) = some (s (upd (M.1 a) j v) (M.2.1 a) (M.2.2 a))) (h : sm_X L xs d y cb is lv st (wm sh (m_setI M a j v)) Q) : sm_X L xs d y cb (i :: is) lv st0 (wm sh M) Q := by
  subst hj
  exact a_putI hs hi hst hv h
theorem a_putK {k : Nat} {v : Int64} (j : Nat) (hs : sh[a]? = some s) (hi : pfI i = some k) (hst : st0 = .long v :: .ref a :: st) (hj : k / 4 % 128 = j) (hv : m_pf (s (M.1 a) (M.2.1 a) (M.2.2 a)) k (.long v) = some (s (M.1 a) (vp_updL (M.2.1 a) j v) (M.2.2 a))) (h : sm_X L xs d y cb is lv st (wm sh (m_setL M a j v)) Q) : sm_X L xs d y cb (i :: is) lv st0 (wm sh M) Q := by
  subst hj
  exact a_putL hs hi hst hv h
end AJ
section PC
variable {L : Nat} {xs : Nat → Int32} {t d : Nat} {dy : List sh_T} {M : mm_T} {Q : Option Value → sm_W → Prop} {n G : Nat}
/-- a visible square: what both sides hold of it -/
theorem rG_vis {i j : Nat} (h : rG M n) (hG : G < 4) (hi : ∀ H, H ≤ 7 → M.1 67 G = nI H → i < H) (hj : j < (mL M G i).toNatClampNeg) (i7 : i < 7) (j7 : j < 7) : M.1 (46 + 5 * G) (i * 7 + j) = mC M G (i * 7 + j) ∧ M.1 (46 + 5 * G) (i * 7 + j) &&& 31 = M.1 70 (49 * G + (i * 7 + j)) ∧ M.1 (46 + 5 * G) (i * 7 + j) &&& 32 = (if M.1 71 (49 * G + (i * 7 + j)) = 0 then 0 else 32) ∧ M.1 (46 + 5 * G) (i * 7 + j) &&& 64 = (if M.1 72 (49 * G + (i * 7 + j)) = 0 then 0 else 64) := by
  obtain ⟨H2, W, b1, b2, b3, b4, b5, b6, gk, mk, v1, v2, a1, a2⟩ := rG_v h hG
  have e := v2.2 i j (hi H2 b1 b4) (by rw [v2.1 i i7]; exact hj)
  have := tld_3 h.1 (show 49 * G + (i * 7 + j) < 196 by omega)
  rw [e]
  exact ⟨rfl, this.1, this.2.1, this.2.2⟩
/-- both bars and the sign of a square's cell, anew -/
theorem c_sign {i j : Nat} (hG : G < 4) (hi : i < 7) (hj : j < 7) (hq : Q (some (.int (M.1 (46 + 5 * G) (i * 7 + j) &&& 31))) (wm (sh0 ++ dy) M)) : sm_E L xs (d + 1) 20 [.ref (45 + 5 * G), .int (nI i), .int (nI j)] (wm (sh0 ++ dy) M) Q := by
  obtain ⟨sg, sc, -⟩ := gsh_at dy G hG
  refine c_signOf sg sc (in49 hi hj) ?_
  rw [mul7, nI_clamp (by omega)]
  exact hq
theorem c_pSign {i j : Nat} {v : Int32} (hG : G < 4) (hi : i < 7) (hj : j < 7) (hq : Q none (wm (sh0 ++ dy) (m_setI M (46 + 5 * G) (i * 7 + j) (M.1 (46 + 5 * G) (i * 7 + j) &&& (-32) ||| v)))) : sm_E L xs (d + 1) 21 [.ref (45 + 5 * G), .int (nI i), .int (nI j), .int v] (wm (sh0 ++ dy) M) Q := by
  refine c_putSign (gsh_at dy G hG) (in49 hi hj) ?_
  rw [mul7, nI_clamp (by omega)]
  exact hq
theorem c_pBar {i j : Nat} {v : Int32} {b : Bool} (hG : G < 4) (hi : i < 7) (hj : j < 7) (hq : Q (some (.int (if M.1 (46 + 5 * G) (i * 7 + j) &&& v = 0 then 0 else 1))) (wm (sh0 ++ dy) (m_setI M (46 + 5 * G) (i * 7 + j) (if b = true then M.1 (46 + 5 * G) (i * 7 + j) ||| v else M.1 (46 + 5 * G) (i * 7 + j) &&& (v ^^^ (-1)))))) : sm_E L xs (d + 1) 24 [.ref (45 + 5 * G), .int (nI i), .int (nI j), .int v, .int (zz b)] (wm (sh0 ++ dy) M) Q := by
  refine c_putBar (gsh_at dy G hG) (in49 hi hj) ?_
  rw [mul7, nI_clamp (by omega)]
  exact hq
theorem k_sq {i j : Nat} (hq : Q (some (.int (nI (49 * G + (i * 7 + j))))) (wm (sh0 ++ dy) M)) : sm_E L xs (d + 1) 157 [.int (nI G), .int (nI i), .int (nI j)] (wm (sh0 ++ dy) M) Q := by
  refine k_square ?_
  rw [sq_eq]
  exact hq
/-- only grids have changed, and a searching can't go on -/
theorem R_g {M' : mm_T} {s : Nat × (Nat → Int32)} {E : Nat → lT} {P w : Nat → Nat} (hN : rN M t s) (hL : rL dy M E P w n) (hQ : rQ M) (hG : rG M' n)
    (fr : ∀ a i, (a = 0 ∧ i ≠ 11) ∨ (a = 1 ∧ i ≠ 5) ∨ a = 2 ∨ a = 3 ∨ a = 4 ∨ a = 6 ∨ a = 44 ∨ (a = 65 ∧ i ≠ 19 ∧ i ≠ 38) ∨ (75 ≤ a ∧ a ≤ 85) ∨ 114 ≤ a → M'.1 a i = M.1 a i) (f2 : M'.2.1 = M.2.1) (f3 : M'.2.2 5 = M.2.2 5) (h5 : M'.1 1 5 = M'.1 65 19) (h11 : M'.1 0 11 = 0) (h38 : M'.1 65 38 = 0) : rR (t + 1) dy M' :=
  ⟨s, E, P, w, n, hG, rN_cl hN (Nat.le_succ t) (fun a i h => fr a i (by omega)) h5, rL_fr hL (fun a i h => fr a i (by omega)) (fun a _ => by rw [f2]) f3, rS_0 h11 h38, rQ_fr hQ (fun a i h => fr a i (by omega)) (fun a _ => by rw [f2])⟩
end PC
