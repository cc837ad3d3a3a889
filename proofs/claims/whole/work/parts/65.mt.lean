/-! the searching of the reference: set a word, take it back -/
def btN (z : Nat → Bool) : Nat → Nat
  | 0 => 0
  | i + 1 => btN z i + (if z i = true then 2 ^ i else 0)
theorem btN_lt (z : Nat → Bool) : ∀ n, btN z n < 2 ^ n
  | 0 => by show 0 < 1; decide
  | n + 1 => by
    have := btN_lt z n
    unfold btN
    rw [Nat.pow_succ]
    split <;> omega
theorem bt_or : ∀ i, i < 7 → ∀ m, m < 2 ^ i → nI m ||| (1 <<< (nI i &&& 31)) = nI (m + 2 ^ i) := by decide +kernel
theorem bt_get : ∀ i, i < 7 → ∀ m, m < 128 → ((nI m >>> (nI i &&& 31)) &&& 1 = 1 ↔ m / 2 ^ i % 2 = 1) := by decide +kernel
theorem btN_bit (z : Nat → Bool) : ∀ n i, i < n → (btN z n / 2 ^ i % 2 = 1 ↔ z i = true)
  | 0, i, h => by omega
  | n + 1, i, h => by
    unfold btN
    have hl := btN_lt z n
    have hp : 0 < 2 ^ i := Nat.pow_pos (by decide)
    by_cases e : i = n
    · subst e
      by_cases g : z i = true
      · rw [if_pos g, Nat.add_div_right _ hp, Nat.div_eq_of_lt hl]
        simp [g]
      · rw [if_neg g, Nat.add_zero, Nat.div_eq_of_lt hl]
        simp [g]
    · rw [← btN_bit z n i (by omega)]
      by_cases g : z n = true
      · rw [if_pos g]
        have e2 : 2 ^ n = 2 ^ i * (2 * 2 ^ (n - i - 1)) := by
          rw [← Nat.pow_succ', ← Nat.pow_add]
          congr 1
          omega
        rw [e2, Nat.add_mul_div_left _ _ hp, Nat.add_mul_mod_self_left]
      · rw [if_neg g, Nat.add_zero]
/-- is a square in one of the entries -/
def sCov (D : sD) (s : Nat) : Prop := ∃ e, e ∈ D.1 ∧ ∃ i, i < e.2.2.1 ∧ s = mPl e i
def sZ (D : sD) (tk : Nat → Int64) (k : Nat) : Nat → Bool := fun i => Nat.beq (sB D tk k (mPl (sE D k) i)) 0
def mS (M : mm_T) (q : Nat) (D : sD) (S : sS) : Prop := M.1 97 q = nI S.1 ∧ (∀ k, k ≤ S.1 → k < D.1.length → M.1 103 (48 * q + k) = nI (S.2.1 k)) ∧ (∀ k, k < S.1 → M.2.1 104 (48 * q + k) = S.2.2 k) ∧ (∀ k, k < S.1 → M.1 105 (48 * q + k) = nI (btN (sZ D S.2.2 k) (sE D k).2.2.1)) ∧ ∀ s, sCov D s → M.1 106 (49 * q + s) = nI (sB D S.2.2 S.1 s)
/-- what a searching's steps may change -/
def gFr (M M' : mm_T) (q : Nat) (D : sD) : Prop := M'.2.2 = M.2.2 ∧ (∀ a, a ≠ 97 → a ≠ 103 → a ≠ 105 → a ≠ 106 → M'.1 a = M.1 a) ∧ (∀ a, a ≠ 104 → M'.2.1 a = M.2.1 a) ∧ (∀ j, j ≠ q → M'.1 97 j = M.1 97 j) ∧ (∀ j, (j < 48 * q ∨ 48 * q + 48 ≤ j) → M'.1 103 j = M.1 103 j ∧ M'.1 105 j = M.1 105 j ∧ M'.2.1 104 j = M.2.1 104 j) ∧ ∀ j, (∀ s, sCov D s → j ≠ 49 * q + s) → M'.1 106 j = M.1 106 j
theorem gFr_rfl (M : mm_T) (q : Nat) (D : sD) : gFr M M q D := ⟨rfl, fun _ _ _ _ _ => rfl, fun _ _ => rfl, fun _ _ => rfl, fun _ _ => ⟨rfl, rfl, rfl⟩, fun _ _ => rfl⟩
theorem gFr_tr {M M1 M2 : mm_T} {q : Nat} {D : sD} (h : gFr M M1 q D) (h2 : gFr M1 M2 q D) : gFr M M2 q D := by
  obtain ⟨a1, a2, a3, a4, a5, a6⟩ := h
  obtain ⟨b1, b2, b3, b4, b5, b6⟩ := h2
  refine ⟨b1.trans a1, fun a x y z w => (b2 a x y z w).trans (a2 a x y z w), fun a x => (b3 a x).trans (a3 a x), fun j x => (b4 j x).trans (a4 j x), fun j x => ?_, fun j x => (b6 j x).trans (a6 j x)⟩
  obtain ⟨c1, c2, c3⟩ := a5 j x
  obtain ⟨d1, d2, d3⟩ := b5 j x
  exact ⟨d1.trans c1, d2.trans c2, d3.trans c3⟩
theorem mD_fr {M M1 : mm_T} {q : Nat} {D : sD} (h : gFr M M1 q D) (hd : mD M q D) : mD M1 q D := by
  unfold mD
  rw [h.2.1 96 (by decide) (by decide) (by decide) (by decide), h.2.1 108 (by decide) (by decide) (by decide) (by decide), h.2.1 107 (by decide) (by decide) (by decide) (by decide), h.2.1 101 (by decide) (by decide) (by decide) (by decide), h.2.1 102 (by decide) (by decide) (by decide) (by decide), h.2.2.1 99 (by decide)]
  exact hd
theorem sCov_lt {D : sD} (hd : dOK D) {s : Nat} (h : sCov D s) : s < 49 := by
  obtain ⟨e, he, i, hi, rfl⟩ := h
  exact mPl_lt (hd.2.1 e he) hi
theorem sCov_e {D : sD} (hd : dOK D) {k i : Nat} (hk : k < D.1.length) (hi : i < (sE D k).2.2.1) : sCov D (mPl (sE D k) i) := ⟨_, List.mem_of_getElem? (eAt_get (hd.2.2.1 k hk)), i, hi, rfl⟩
section MT4
variable {L : Nat} {xs : Nat → Int32} {d : Nat} {dy : List sh_T} {M : mm_T} {Q : Option Value → sm_W → Prop} {q : Nat} {D : sD} {S : sS}
/-- the loop that sets a word -/
def swI (M0 M1 : mm_T) (q : Nat) (D : sD) (b0 : Nat → Nat) (e : eT) (w : Int64) (D0 i : Nat) : Prop := M1.2 = M0.2 ∧ (∀ a, a ≠ 105 → a ≠ 106 → M1.1 a = M0.1 a) ∧ (∀ j, j ≠ D0 → M1.1 105 j = M0.1 105 j) ∧ M1.1 105 D0 = nI (btN (fun i => Nat.beq (b0 (mPl e i)) 0) i) ∧ (∀ s, sCov D s → M1.1 106 (49 * q + s) = nI (putN b0 e (lt5 w) i s)) ∧ ∀ j, (∀ s, sCov D s → j ≠ 49 * q + s) → M1.1 106 j = M0.1 106 j
set_option maxRecDepth 4000 in
theorem k_setWord {nx : Nat → Nat} {w : Int64} (hq1 : q ≤ 1) (hd : dOK D) (hD : mD M q D) (hS : mS M q D (S.1, nx, S.2.2)) (hlt : S.1 < D.1.length) (ha : agrP (sV (sE D S.1) (sB D S.2.2 S.1)) (sE D S.1).2.2.1 w)
    (hq : ∀ M', mS M' q D (S.1 + 1, updN nx (S.1 + 1) 0, updW S.2.2 S.1 w) → gFr M M' q D → Q none (wm (sh0 ++ dy) M')) : sm_E L xs (d + 2) 204 [.ref 65, .int (nI q), .int (nI (48 * q + D.2.2.1 S.1)), .long w] (wm (sh0 ++ dy) M) Q := by
  have hm := s_65 dy
  obtain ⟨a1, a2, a3, a4, a5⟩ := hS
  have a1 : M.1 97 q = nI S.1 := a1
  have h42 := hd.1
  have hx := hd.2.2.1 S.1 hlt
  have ho : eOK (sE D S.1) := dOK_e hd hlt
  have h7 : (sE D S.1).2.2.1 ≤ 7 := by
    have := ho.2.2
    split at this <;> omega
  have hq2 : q < 2 := by omega
  have e8 : M.1 108 (48 * q + D.2.2.1 S.1) = nI (sE D S.1).2.2.1 := hD.2.1 _ hx
  have e7 : ∀ i, i < (sE D S.1).2.2.1 → M.1 107 (7 * (48 * q + D.2.2.1 S.1) + i) = nI (mPl (sE D S.1) i) := fun i hi => hD.2.2.1 _ i hx hi
  have b32 := fun s => sB_lt hd S.2.2 s S.1
  generalize hb0 : sB D S.2.2 S.1 = b0 at ha b32
  generalize he : sE D S.1 = e at *
  generalize hxx : D.2.2.1 S.1 = x at *
  generalize hM0 : m_setI (m_setL M 104 (48 * q + S.1) w) 105 (48 * q + S.1) 0 = M0
  have f0 : ∀ a, a ≠ 105 → M0.1 a = M.1 a := fun a x => by rw [← hM0, mI_ne _ _ _ x]; rfl
  have start : swI M0 M0 q D b0 e w (48 * q + S.1) 0 := by
    refine ⟨rfl, fun _ _ _ => rfl, fun _ _ => rfl, ?_, fun s hs => ?_, fun _ _ => rfl⟩
    · rw [← hM0, mI_at, if_pos ⟨rfl, rfl⟩]
      rfl
    · rw [f0 106 (by decide), a5 s hs]
      show nI (sB D S.2.2 S.1 s) = nI (b0 s)
      rw [hb0]
  have fin : ∀ M1, swI M0 M1 q D b0 e w (48 * q + S.1) e.2.2.1 → sm_X L xs (d + 1) 204 5 (sm_code 204 5) [(0, .ref 65), (1, .int (nI q)), (2, .int (nI (48 * q + x))), (3, .long w), (5, .int (nI (48 * q + S.1))), (6, .int (nI e.2.2.1))] [] (wm (sh0 ++ dy) M1) Q := by
    intro M1 h1
    obtain ⟨c1, c2, c3, c4, c5, c6⟩ := h1
    have g97 : M1.1 97 q = nI S.1 := by rw [c2 97 (by decide) (by decide), f0 97 (by decide)]; exact a1
    have e1 : nI S.1 + 1 = nI (S.1 + 1) := nI_1 S.1
    have g48b : ¬ (48 : Int32) ≤ nI (S.1 + 1) := nI_ge (b := 48) (by omega) (by decide)
    have key : ∀ k, k ≤ S.1 → sB D (updW S.2.2 S.1 w) k = sB D S.2.2 k := fun k hk => sB_ext D (fun j hj => by unfold updW; rw [if_neg (by omega)])
    have res := hq (m_setI (m_setI M1 97 q (nI (S.1 + 1))) 103 (48 * q + (S.1 + 1)) 0) (by
      refine ⟨?_, fun k hk1 hk2 => ?_, fun k hk1 => ?_, fun k hk1 => ?_, fun s hs => ?_⟩
      · rw [mI_ne _ _ _ (by decide), mI_at, if_pos ⟨rfl, rfl⟩]
      · have hk1 : k ≤ S.1 + 1 := hk1
        rw [mI_at]
        show _ = nI (updN nx (S.1 + 1) 0 k)
        unfold updN
        by_cases e2 : k = S.1 + 1
        · rw [if_pos ⟨rfl, by omega⟩, if_pos e2]
          rfl
        · rw [if_neg (fun h => e2 (by have := h.2; omega)), if_neg e2, mI_ne _ _ _ (by decide), c2 103 (by decide) (by decide), f0 103 (by decide)]
          exact a2 k (show k ≤ S.1 by omega) hk2
      · have hk1 : k < S.1 + 1 := hk1
        show M1.2.1 104 (48 * q + k) = updW S.2.2 S.1 w k
        rw [c1, ← hM0]
        show (m_setL M 104 (48 * q + S.1) w).2.1 104 (48 * q + k) = _
        rw [mL_at]
        unfold updW
        by_cases e2 : k = S.1
        · rw [if_pos ⟨rfl, by omega⟩, if_pos e2]
        · rw [if_neg (fun h => e2 (by have := h.2; omega)), if_neg e2]
          exact a3 k (show k < S.1 by omega)
      · have hk1 : k < S.1 + 1 := hk1
        rw [mI_ne _ _ _ (by decide), mI_ne _ _ _ (by decide)]
        show _ = nI (btN (sZ D (updW S.2.2 S.1 w) k) (sE D k).2.2.1)
        unfold sZ
        rw [key k (by omega)]
        by_cases e2 : k = S.1
        · subst e2
          rw [c4, hb0, he]
        · rw [c3 _ (by omega), ← hM0, mI_at, if_neg (fun h => e2 (by have := h.2; omega))]
          exact a4 k (show k < S.1 by omega)
      · rw [mI_ne _ _ _ (by decide), mI_ne _ _ _ (by decide), c5 s hs]
        show _ = nI (putN (sB D (updW S.2.2 S.1 w) S.1) (sE D S.1) (lt5 (updW S.2.2 S.1 w S.1)) (sE D S.1).2.2.1 s)
        rw [key S.1 (Nat.le_refl _), hb0, he, show updW S.2.2 S.1 w S.1 = w by unfold updW; rw [if_pos rfl]]) (by
      refine ⟨?_, fun a y1 y2 y3 y4 => ?_, fun a y1 => ?_, fun j hj => ?_, fun j hj => ⟨?_, ?_, ?_⟩, fun j hj => ?_⟩
      · show M1.2.2 = M.2.2
        rw [c1, ← hM0]
        rfl
      · rw [mI_ne _ _ _ y2, mI_ne _ _ _ y1, c2 a y3 y4, f0 a y3]
      · show M1.2.1 a = M.2.1 a
        rw [c1, ← hM0]
        show (m_setL M 104 (48 * q + S.1) w).2.1 a = _
        rw [mL_ne _ _ _ y1]
      · rw [mI_ne _ _ _ (by decide), mI_at, if_neg (fun h => hj h.2), c2 97 (by decide) (by decide), f0 97 (by decide)]
      · rw [mI_at, if_neg (fun h => by have := h.2; omega), mI_ne _ _ _ (by decide), c2 103 (by decide) (by decide), f0 103 (by decide)]
      · rw [mI_ne _ _ _ (by decide), mI_ne _ _ _ (by decide), c3 j (by omega), ← hM0, mI_at, if_neg (fun h => by have := h.2; omega)]
        rfl
      · show M1.2.1 104 j = _
        rw [c1, ← hM0]
        show (m_setL M 104 (48 * q + S.1) w).2.1 104 j = _
        rw [mL_at, if_neg (fun h => by have := h.2; omega)]
      · rw [mI_ne _ _ _ (by decide), mI_ne _ _ _ (by decide), c6 j hj, f0 106 (by decide)])
    have g97b : (m_setI M1 97 q (nI (S.1 + 1))).1 97 q = nI (S.1 + 1) := by rw [mI_at, if_pos ⟨rfl, rfl⟩]
    have a48 := g48 q (S.1 + 1)
    have hix : 48 * q + (S.1 + 1) < 96 := by omega
    repeat (first | refine x_kcg rfl ?_ | refine x_opp rfl rfl ?_ | refine x_go rfl ?_ | refine m_getg hm rfl rfl rfl ?_)
    refine m_iald (s_97 dy) (vp_in_nI hq2 (by decide)) ?_
    rw [nI_clamp (by omega), g97]
    repeat (first | refine x_kcg rfl ?_ | refine x_opp rfl rfl ?_ | refine x_go rfl ?_)
    rw [e1]
    refine m_iast (s_97 dy) (vp_in_nI hq2 (by decide)) ?_
    rw [nI_clamp (by omega)]
    repeat (first | refine x_kcg rfl ?_ | refine x_opp rfl rfl ?_ | refine x_go rfl ?_ | refine m_getg hm rfl rfl rfl ?_)
    refine m_iald (s_97 dy) (vp_in_nI hq2 (by decide)) ?_
    rw [nI_clamp (by omega), g97b]
    repeat (first | refine x_kcg rfl ?_ | refine x_opp rfl rfl ?_ | refine x_go rfl ?_)
    refine x_icm br_ge (fun h => absurd h g48b) (fun _ => ?_)
    repeat (first | refine x_kcg rfl ?_ | refine x_opp rfl rfl ?_ | refine x_go rfl ?_ | refine m_getg hm rfl rfl rfl ?_)
    refine m_iald (s_97 dy) (vp_in_nI hq2 (by decide)) ?_
    rw [nI_clamp (by omega), g97b]
    repeat (first | refine x_kcg rfl ?_ | refine x_opp rfl rfl ?_ | refine x_go rfl ?_)
    rw [a48]
    refine m_iast (s_103 dy) (vp_in_nI hix (by decide)) ?_
    rw [nI_clamp (by omega)]
    exact x_ret res
  have lp : ∀ M1, swI M0 M1 q D b0 e w (48 * q + S.1) 0 → sm_X L xs (d + 1) 204 1 (sm_code 204 1) [(0, .ref 65), (1, .int (nI q)), (2, .int (nI (48 * q + x))), (3, .long w), (5, .int (nI (48 * q + S.1))), (6, .int (nI 0))] [] (wm (sh0 ++ dy) M1) Q := by
    refine loop_dn (P := fun i => ∀ M1, swI M0 M1 q D b0 e w (48 * q + S.1) i → sm_X L xs (d + 1) 204 1 (sm_code 204 1) [(0, .ref 65), (1, .int (nI q)), (2, .int (nI (48 * q + x))), (3, .long w), (5, .int (nI (48 * q + S.1))), (6, .int (nI i))] [] (wm (sh0 ++ dy) M1) Q) e.2.2.1 ?_ ?_
    · intro M1 h1
      have f := fin M1 h1
      have g : M1.1 108 (48 * q + x) ≤ nI e.2.2.1 := by
        rw [h1.2.1 108 (by decide) (by decide), f0 108 (by decide), e8]
        exact nI_le (Nat.le_refl _) (by omega)
      repeat' (first | (refine a_stop 5 rfl ?_; exact f) | refine x_kcg rfl ?_ | refine x_incg rfl rfl ?_ | refine x_opp rfl rfl ?_ | refine x_go rfl ?_ | (refine a_at isGf rfl ?_; first | refine m_getg hm rfl rfl rfl ?_) | (refine a_at isPf rfl ?_; first | refine a_putI hm rfl rfl rfl ?_ | refine a_putL hm rfl rfl rfl ?_) | (refine a_at isAr rfl ?_; first | refine a_ialdN (s_108 dy) (k := (48 * q + x)) rfl rfl rfl (by omega) (by decide) ?_ | refine a_baldN (s_108 dy) (k := (48 * q + x)) rfl rfl rfl (by omega) (by decide) ?_ | refine a_laldN (s_108 dy) (k := (48 * q + x)) rfl rfl rfl (by omega) (by decide) ?_ | refine a_iastN (s_108 dy) (k := (48 * q + x)) rfl rfl rfl (by omega) (by decide) ?_ | refine a_lastN (s_108 dy) (k := (48 * q + x)) rfl rfl rfl (by omega) (by decide) ?_ | refine a_bastN (s_108 dy) (k := (48 * q + x)) rfl rfl rfl (by omega) (by decide) ?_ ?_ | refine a_iald hm rfl rfl ?_ ?_ | refine a_bald hm rfl rfl ?_ ?_ | refine a_lald hm rfl rfl ?_ ?_ | refine a_iast hm rfl rfl ?_ ?_ | refine a_last hm rfl rfl ?_ ?_ | refine a_bast hm rfl rfl ?_ ?_ ?_) | (refine a_at isIf rfl ?_; first | (refine a_ifT rfl rfl br_eqz (by assumption) ?_) | (refine a_ifF rfl rfl br_eqz (by assumption) ?_) | (refine a_ifT rfl rfl br_nez (by assumption) ?_) | (refine a_ifF rfl rfl br_nez (by assumption) ?_) | (refine a_ifT rfl rfl br_eqz (nt_f (by assumption)) ?_) | (refine a_ifF rfl rfl br_eqz (tnf (by assumption)) ?_) | (refine a_ifF rfl rfl br_nez (fnt (by assumption)) ?_) | (refine a_if rfl rfl br_eqz (fun _ => ?_) (fun _ => ?_)) | (refine a_if rfl rfl br_nez (fun _ => ?_) (fun _ => ?_)) | (refine a_ifF rfl rfl br_ne (fun h => h (by assumption)) ?_) | (refine a_ifT rfl rfl br_eq (by assumption) ?_) | (refine a_ifF rfl rfl br_eq (by assumption) ?_) | (refine a_ifT rfl rfl br_ne (by assumption) ?_) | (refine a_ifF rfl rfl br_ne (by assumption) ?_) | (refine a_ifT rfl rfl br_lt (by assumption) ?_) | (refine a_ifF rfl rfl br_lt (by assumption) ?_) | (refine a_ifT rfl rfl br_ge (by assumption) ?_) | (refine a_ifF rfl rfl br_ge (by assumption) ?_) | (refine a_ifT rfl rfl br_gt (by assumption) ?_) | (refine a_ifF rfl rfl br_gt (by assumption) ?_) | (refine a_ifT rfl rfl br_le (by assumption) ?_) | (refine a_ifF rfl rfl br_le (by assumption) ?_) | (refine a_if rfl rfl br_eq (fun _ => ?_) (fun _ => ?_)) | (refine a_if rfl rfl br_ne (fun _ => ?_) (fun _ => ?_)) | (refine a_if rfl rfl br_lt (fun _ => ?_) (fun _ => ?_)) | (refine a_if rfl rfl br_ge (fun _ => ?_) (fun _ => ?_)) | (refine a_if rfl rfl br_gt (fun _ => ?_) (fun _ => ?_)) | (refine a_if rfl rfl br_le (fun _ => ?_) (fun _ => ?_))) | (refine a_at isIc rfl ?_; first | (refine a_icF rfl rfl br_ne (fun h => h (by assumption)) ?_) | (refine a_icT rfl rfl br_eq (by assumption) ?_) | (refine a_icF rfl rfl br_eq (by assumption) ?_) | (refine a_icT rfl rfl br_ne (by assumption) ?_) | (refine a_icF rfl rfl br_ne (by assumption) ?_) | (refine a_icT rfl rfl br_lt (by assumption) ?_) | (refine a_icF rfl rfl br_lt (by assumption) ?_) | (refine a_icT rfl rfl br_ge (by assumption) ?_) | (refine a_icF rfl rfl br_ge (by assumption) ?_) | (refine a_icT rfl rfl br_gt (by assumption) ?_) | (refine a_icF rfl rfl br_gt (by assumption) ?_) | (refine a_icT rfl rfl br_le (by assumption) ?_) | (refine a_icF rfl rfl br_le (by assumption) ?_) | (refine a_ic rfl rfl br_eq (fun _ => ?_) (fun _ => ?_)) | (refine a_ic rfl rfl br_ne (fun _ => ?_) (fun _ => ?_)) | (refine a_ic rfl rfl br_lt (fun _ => ?_) (fun _ => ?_)) | (refine a_ic rfl rfl br_ge (fun _ => ?_) (fun _ => ?_)) | (refine a_ic rfl rfl br_gt (fun _ => ?_) (fun _ => ?_)) | (refine a_ic rfl rfl br_le (fun _ => ?_) (fun _ => ?_))) | (refine a_at isRt rfl ?_; first | refine a_iret rfl rfl rfl ?_ | refine a_zret rfl rfl ?_ ?_ | refine a_lret rfl rfl ?_ | refine a_ret rfl rfl ?_))
    · intro i hi ih M1 h1
      obtain ⟨c1, c2, c3, c4, c5, c6⟩ := id h1
      have g8 : M1.1 108 (48 * q + x) = nI e.2.2.1 := by rw [c2 108 (by decide) (by decide), f0 108 (by decide), e8]
      have g7b : M1.1 107 (7 * (48 * q + x) + i) = nI (mPl e i) := by rw [c2 107 (by decide) (by decide), f0 107 (by decide)]; exact e7 i hi
      have p49 : mPl e i < 49 := mPl_lt ho hi
      have cov : sCov D (mPl e i) := by
        have := sCov_e (i := i) hd hlt (by rw [he]; exact hi)
        rw [he] at this
        exact this
      have e6 : M1.1 106 (49 * q + mPl e i) = nI (b0 (mPl e i)) := by
        rw [c5 _ cov, putN_ne _ _ _ (fun j hj e3 => by have := mPl_inj e e3; omega)]
      have x1 := g7 (48 * q + x) i
      have x2 := g49 q (mPl e i)
      have hix : 7 * (48 * q + x) + i < 672 := by omega
      have hiy : 49 * q + mPl e i < 98 := by omega
      have bl := btN_lt (fun i => Nat.beq (b0 (mPl e i)) 0) i
      have T4 : ∀ M2, swI M0 M2 q D b0 e w (48 * q + S.1) (i + 1) → ∀ v7 : Int32, sm_X L xs (d + 1) 204 4 (sm_code 204 4) [(0, .ref 65), (1, .int (nI q)), (2, .int (nI (48 * q + x))), (3, .long w), (5, .int (nI (48 * q + S.1))), (6, .int (nI i)), (7, .int v7)] [] (wm (sh0 ++ dy) M2) Q := by
        intro M2 h2 v7
        have f := ih M2 h2
        repeat (first | refine x_kcg rfl ?_ | refine x_incg rfl rfl ?_ | refine x_opp rfl rfl ?_)
        refine x_goto ?_
        refine x_lvs [(0, .ref 65), (1, .int (nI q)), (2, .int (nI (48 * q + x))), (3, .long w), (5, .int (nI (48 * q + S.1))), (6, .int (nI (i + 1)))] rfl rfl rfl ⟨rfl, rfl, rfl, rfl, rfl, rfl, trivial⟩ ?_
        exact f
      repeat (first | refine x_kcg rfl ?_ | refine x_opp rfl rfl ?_ | refine x_go rfl ?_ | refine m_getg hm rfl rfl rfl ?_)
      refine m_iald (s_108 dy) (vp_in_nI (by omega) (by decide)) ?_
      rw [nI_clamp (by omega), g8]
      refine x_icm br_ge (fun h => absurd h (nI_ge hi (by omega))) (fun _ => ?_)
      repeat (first | refine x_kcg rfl ?_ | refine x_opp rfl rfl ?_ | refine x_go rfl ?_ | refine m_getg hm rfl rfl rfl ?_)
      rw [x1]
      refine m_iald (s_107 dy) (vp_in_nI hix (by decide)) ?_
      rw [nI_clamp (by omega), g7b]
      repeat (first | refine x_kcg rfl ?_ | refine x_opp rfl rfl ?_ | refine x_go rfl ?_ | refine m_getg hm rfl rfl rfl ?_)
      rw [x2]
      repeat (first | refine x_kcg rfl ?_ | refine x_opp rfl rfl ?_ | refine x_go rfl ?_ | refine m_getg hm rfl rfl rfl ?_)
      refine m_iald (s_106 dy) (vp_in_nI hiy (by decide)) ?_
      rw [nI_clamp (by omega), e6]
      by_cases z : b0 (mPl e i) = 0
      · rw [z]
        refine x_ifc br_ne (fun h => absurd rfl h) (fun _ => ?_)
        repeat (first | refine x_kcg rfl ?_ | refine x_opp rfl rfl ?_ | refine x_go rfl ?_ | refine m_getg hm rfl rfl rfl ?_)
        refine m_callS rfl rfl (k_place (by omega) ?_)
        repeat (first | refine x_kcg rfl ?_ | refine x_opp rfl rfl ?_ | refine x_go rfl ?_)
        refine m_iast (s_106 dy) (vp_in_nI hiy (by decide)) ?_
        rw [nI_clamp (by omega)]
        have c4b : (m_setI M1 106 (49 * q + mPl e i) (nI (lt5 w i))).1 105 (48 * q + S.1) = nI (btN (fun i => Nat.beq (b0 (mPl e i)) 0) i) := by rw [mI_ne _ _ _ (by decide)]; exact c4
        have hor := bt_or i (by omega) _ bl
        repeat (first | refine x_kcg rfl ?_ | refine x_opp rfl rfl ?_ | refine x_go rfl ?_ | refine m_getg hm rfl rfl rfl ?_)
        refine m_iald (s_105 dy) (vp_in_nI (by omega) (by decide)) ?_
        rw [nI_clamp (by omega), c4b]
        repeat (first | refine x_kcg rfl ?_ | refine x_opp rfl rfl ?_ | refine x_go rfl ?_)
        rw [hor]
        refine m_iast (s_105 dy) (vp_in_nI (by omega) (by decide)) ?_
        rw [nI_clamp (by omega)]
        refine x_fall ?_
        refine x_lvs [(0, .ref 65), (1, .int (nI q)), (2, .int (nI (48 * q + x))), (3, .long w), (5, .int (nI (48 * q + S.1))), (6, .int (nI i)), (7, .int (nI (49 * q + mPl e i)))] rfl rfl rfl ⟨rfl, rfl, rfl, rfl, rfl, rfl, rfl, trivial⟩ ?_
        refine T4 _ ?_ _
        refine ⟨c1, fun a y1 y2 => ?_, fun j hj => ?_, ?_, fun s hs => ?_, fun j hj => ?_⟩
        · rw [mI_ne _ _ _ y1, mI_ne _ _ _ y2]
          exact c2 a y1 y2
        · rw [mI_at, if_neg (fun h => hj h.2), mI_ne _ _ _ (by decide)]
          exact c3 j hj
        · rw [mI_at, if_pos ⟨rfl, rfl⟩]
          show _ = nI (btN _ i + (if Nat.beq (b0 (mPl e i)) 0 = true then 2 ^ i else 0))
          rw [beq_tt z, if_pos rfl]
        · rw [mI_ne _ _ _ (by decide), mI_at]
          show _ = nI (if s = mPl e i then lt5 w i else putN b0 e (lt5 w) i s)
          by_cases e2 : s = mPl e i
          · rw [if_pos ⟨rfl, by omega⟩, if_pos e2]
          · rw [if_neg (fun h => e2 (by have := h.2; omega)), if_neg e2]
            exact c5 s hs
        · rw [mI_ne _ _ _ (by decide), mI_at, if_neg (fun h => hj _ cov h.2)]
          exact c6 j hj
      · have nz : ¬ nI (b0 (mPl e i)) = 0 := fun h => z ((nI0_iff (b32 _)).mp h)
        refine x_ifc br_ne (fun _ => ?_) (fun h => absurd nz h)
        refine x_lvs [(0, .ref 65), (1, .int (nI q)), (2, .int (nI (48 * q + x))), (3, .long w), (5, .int (nI (48 * q + S.1))), (6, .int (nI i)), (7, .int (nI (49 * q + mPl e i)))] rfl rfl rfl ⟨rfl, rfl, rfl, rfl, rfl, rfl, rfl, trivial⟩ ?_
        refine T4 _ ?_ _
        refine ⟨c1, c2, c3, ?_, fun s hs => ?_, c6⟩
        · rw [c4]
          show _ = nI (btN _ i + (if Nat.beq (b0 (mPl e i)) 0 = true then 2 ^ i else 0))
          rw [beq_f z]
          rfl
        · rw [c5 s hs]
          show _ = nI (if s = mPl e i then lt5 w i else putN b0 e (lt5 w) i s)
          by_cases e2 : s = mPl e i
          · rw [if_pos e2, e2, putN_ne _ _ _ (fun j hj e3 => by have := mPl_inj e e3; omega)]
            have h3 : b0 (mPl e i) = lt5 w i := (ha.2 i hi).resolve_left z
            rw [h3]
          · rw [if_neg e2]
  have f := lp M0 start
  have x1 := g48 q S.1
  refine e_intro rfl rfl ?_
  repeat (first | refine x_kcg rfl ?_ | refine x_opp rfl rfl ?_ | refine x_go rfl ?_ | refine m_getg hm rfl rfl rfl ?_)
  refine m_iald (s_97 dy) (vp_in_nI hq2 (by decide)) ?_
  rw [nI_clamp (by omega), a1]
  repeat (first | refine x_kcg rfl ?_ | refine x_opp rfl rfl ?_ | refine x_go rfl ?_)
  rw [x1]
  repeat (first | refine x_kcg rfl ?_ | refine x_opp rfl rfl ?_ | refine x_go rfl ?_ | refine m_getg hm rfl rfl rfl ?_)
  refine m_last (s_104 dy) (vp_in_nI (by omega) (by decide)) ?_
  rw [nI_clamp (by omega)]
  repeat (first | refine x_kcg rfl ?_ | refine x_opp rfl rfl ?_ | refine x_go rfl ?_ | refine m_getg hm rfl rfl rfl ?_)
  refine m_iast (s_105 dy) (vp_in_nI (by omega) (by decide)) ?_
  rw [nI_clamp (by omega), hM0]
  repeat (first | refine x_kcg rfl ?_ | refine x_incg rfl rfl ?_ | refine x_opp rfl rfl ?_)
  refine x_fall ?_
  refine x_lvs [(0, .ref 65), (1, .int (nI q)), (2, .int (nI (48 * q + x))), (3, .long w), (5, .int (nI (48 * q + S.1))), (6, .int (nI 0))] rfl rfl rfl ⟨rfl, rfl, rfl, rfl, rfl, rfl, trivial⟩ ?_
  exact f
/-- squares emptied again -/
def tkN (b1 : Nat → Nat) (e : eT) (z : Nat → Bool) : Nat → Nat → Nat
  | 0 => b1
  | i + 1 => fun s => if s = mPl e i ∧ z i = true then 0 else tkN b1 e z i s
theorem tkN_ne {b1 : Nat → Nat} {e : eT} {z : Nat → Bool} {s : Nat} : ∀ {k}, (∀ i, i < k → z i = true → s ≠ mPl e i) → tkN b1 e z k s = b1 s
  | 0, _ => rfl
  | k + 1, h => by
    show (if s = mPl e k ∧ z k = true then 0 else tkN b1 e z k s) = b1 s
    rw [if_neg (fun g => h k (by omega) g.2 g.1)]
    exact tkN_ne (fun i hi => h i (by omega))
theorem tkN_at {b1 : Nat → Nat} {e : eT} {z : Nat → Bool} {i : Nat} (hz : z i = true) : ∀ {k}, i < k → tkN b1 e z k (mPl e i) = 0
  | 0, h => by omega
  | k + 1, h => by
    show (if mPl e i = mPl e k ∧ z k = true then 0 else tkN b1 e z k (mPl e i)) = 0
    by_cases g : i = k
    · subst g
      rw [if_pos ⟨rfl, hz⟩]
    · rw [if_neg (fun g2 => g (mPl_inj e g2.1))]
      exact tkN_at hz (by omega)
theorem tkN_back {D : sD} {tk : Nat → Int64} {k : Nat} (ha : agrP (sV (sE D k) (sB D tk k)) (sE D k).2.2.1 (tk k)) (s : Nat) : tkN (sB D tk (k + 1)) (sE D k) (sZ D tk k) (sE D k).2.2.1 s = sB D tk k s := by
  have e1 : sB D tk (k + 1) = putN (sB D tk k) (sE D k) (lt5 (tk k)) (sE D k).2.2.1 := rfl
  by_cases g : ∃ i, i < (sE D k).2.2.1 ∧ s = mPl (sE D k) i
  · obtain ⟨i, hi, rfl⟩ := g
    by_cases z : sB D tk k (mPl (sE D k) i) = 0
    · have hz : sZ D tk k i = true := beq_tt z
      rw [tkN_at hz hi, z]
    · rw [tkN_ne (fun j hj hz e2 => ?_), e1, putN_at _ _ _ hi]
      · exact ((ha.2 i hi).resolve_left z).symm
      · have := mPl_inj _ e2
        subst this
        exact z (Nat.eq_of_beq_eq_true hz)
  · rw [tkN_ne (fun j hj _ e2 => g ⟨j, hj, e2⟩), e1, putN_ne _ _ _ (fun j hj e2 => g ⟨j, hj, e2⟩)]
def tbI (M0 M1 : mm_T) (q : Nat) (D : sD) (b1 : Nat → Nat) (e : eT) (z : Nat → Bool) (i : Nat) : Prop := M1.2 = M0.2 ∧ (∀ a, a ≠ 106 → M1.1 a = M0.1 a) ∧ (∀ s, sCov D s → M1.1 106 (49 * q + s) = nI (tkN b1 e z i s)) ∧ ∀ j, (∀ s, sCov D s → j ≠ 49 * q + s) → M1.1 106 j = M0.1 106 j
set_option maxRecDepth 4000 in
theorem k_takeBack {k : Nat} (hq1 : q ≤ 1) (hd : dOK D) (hD : mD M q D) (hI : sI D S) (hS : mS M q D S) (hk : S.1 = k + 1)
    (hq : ∀ M', mS M' q D (sBack S) → gFr M M' q D → Q none (wm (sh0 ++ dy) M')) : sm_E L xs (d + 2) 202 [.ref 65, .int (nI q)] (wm (sh0 ++ dy) M) Q := by
  have hm := s_65 dy
  obtain ⟨a1, a2, a3, a4, a5⟩ := hS
  obtain ⟨i1, i2, i3⟩ := hI
  have h42 := hd.1
  have hlt : k < D.1.length := by omega
  have hx := hd.2.2.1 k hlt
  have ho : eOK (sE D k) := dOK_e hd hlt
  have h7 : (sE D k).2.2.1 ≤ 7 := by
    have := ho.2.2
    split at this <;> omega
  have hq2 : q < 2 := by omega
  have e8 : M.1 108 (48 * q + D.2.2.1 k) = nI (sE D k).2.2.1 := hD.2.1 _ hx
  have e7 : ∀ i, i < (sE D k).2.2.1 → M.1 107 (7 * (48 * q + D.2.2.1 k) + i) = nI (mPl (sE D k) i) := fun i hi => hD.2.2.1 _ i hx hi
  have e9 : M.1 102 (48 * q + k) = nI (D.2.2.1 k) := hD.2.2.2.2.2 k hlt
  have e5 := a4 k (by omega)
  have hag := i2 k (by omega)
  have hback := tkN_back hag
  rw [hk] at a1 a5
  generalize hx0 : D.2.2.1 k = x at *
  generalize hM0 : m_setI M 97 q (nI k) = M0
  have f0 : ∀ a, a ≠ 97 → M0.1 a = M.1 a := fun a x => by rw [← hM0, mI_ne _ _ _ x]
  have g97 : M0.1 97 q = nI k := by rw [← hM0, mI_at, if_pos ⟨rfl, rfl⟩]
  have fin : ∀ M1, tbI M0 M1 q D (sB D S.2.2 (k + 1)) (sE D k) (sZ D S.2.2 k) (sE D k).2.2.1 → Q none (wm (sh0 ++ dy) M1) := by
    intro M1 h1
    obtain ⟨c1, c2, c3, c4⟩ := h1
    have hkk : S.1 - 1 = k := by omega
    refine hq M1 ⟨?_, fun j hj1 hj2 => ?_, fun j hj1 => ?_, fun j hj1 => ?_, fun s hs => ?_⟩ ⟨?_, fun a y1 y2 y3 y4 => ?_, fun a y1 => ?_, fun j hj => ?_, fun j hj => ⟨?_, ?_, ?_⟩, fun j hj => ?_⟩
    · show M1.1 97 q = nI (S.1 - 1)
      rw [hkk, c2 97 (by decide)]
      exact g97
    · have hj1 : j ≤ S.1 - 1 := hj1
      rw [c2 103 (by decide), f0 103 (by decide)]
      exact a2 j (by omega) hj2
    · have hj1 : j < S.1 - 1 := hj1
      rw [c1, ← hM0]
      exact a3 j (by omega)
    · have hj1 : j < S.1 - 1 := hj1
      rw [c2 105 (by decide), f0 105 (by decide)]
      exact a4 j (by omega)
    · rw [c3 s hs, hback s]
      show _ = nI (sB D S.2.2 (S.1 - 1) s)
      rw [hkk]
    · rw [c1, ← hM0]
      rfl
    · rw [c2 a y4, f0 a y1]
    · rw [c1, ← hM0]
      rfl
    · rw [c2 97 (by decide), ← hM0, mI_at, if_neg (fun h => hj h.2)]
    · rw [c2 103 (by decide), f0 103 (by decide)]
    · rw [c2 105 (by decide), f0 105 (by decide)]
    · rw [c1, ← hM0]
      rfl
    · rw [c4 j hj, f0 106 (by decide)]
  have lp : ∀ M1, tbI M0 M1 q D (sB D S.2.2 (k + 1)) (sE D k) (sZ D S.2.2 k) 0 → sm_X L xs (d + 1) 202 1 (sm_code 202 1) [(0, .ref 65), (1, .int (nI q)), (2, .int (nI (48 * q + k))), (3, .int (nI (48 * q + x))), (4, .int (nI 0))] [] (wm (sh0 ++ dy) M1) Q := by
    refine loop_dn (P := fun i => ∀ M1, tbI M0 M1 q D (sB D S.2.2 (k + 1)) (sE D k) (sZ D S.2.2 k) i → sm_X L xs (d + 1) 202 1 (sm_code 202 1) [(0, .ref 65), (1, .int (nI q)), (2, .int (nI (48 * q + k))), (3, .int (nI (48 * q + x))), (4, .int (nI i))] [] (wm (sh0 ++ dy) M1) Q) (sE D k).2.2.1 ?_ ?_
    · intro M1 h1
      have f := fin M1 h1
      have g : M1.1 108 (48 * q + x) ≤ nI (sE D k).2.2.1 := by
        rw [h1.2.1 108 (by decide), f0 108 (by decide), e8]
        exact nI_le (Nat.le_refl _) (by omega)
      have hix : 48 * q + x < 96 := by omega
      repeat' (first | refine x_kcg rfl ?_ | refine x_incg rfl rfl ?_ | refine x_opp rfl rfl ?_ | refine x_go rfl ?_ | (refine a_at isGf rfl ?_; first | refine m_getg hm rfl rfl rfl ?_) | (refine a_at isPf rfl ?_; first | refine a_putI hm rfl rfl rfl ?_ | refine a_putL hm rfl rfl rfl ?_) | (refine a_at isAr rfl ?_; first | refine a_ialdN (s_108 dy) (k := (48 * q + x)) rfl rfl rfl (by omega) (by decide) ?_ | refine a_baldN (s_108 dy) (k := (48 * q + x)) rfl rfl rfl (by omega) (by decide) ?_ | refine a_laldN (s_108 dy) (k := (48 * q + x)) rfl rfl rfl (by omega) (by decide) ?_ | refine a_iastN (s_108 dy) (k := (48 * q + x)) rfl rfl rfl (by omega) (by decide) ?_ | refine a_lastN (s_108 dy) (k := (48 * q + x)) rfl rfl rfl (by omega) (by decide) ?_ | refine a_bastN (s_108 dy) (k := (48 * q + x)) rfl rfl rfl (by omega) (by decide) ?_ ?_ | refine a_iald hm rfl rfl ?_ ?_ | refine a_bald hm rfl rfl ?_ ?_ | refine a_lald hm rfl rfl ?_ ?_ | refine a_iast hm rfl rfl ?_ ?_ | refine a_last hm rfl rfl ?_ ?_ | refine a_bast hm rfl rfl ?_ ?_ ?_) | (refine a_at isIf rfl ?_; first | (refine a_ifT rfl rfl br_eqz (by assumption) ?_) | (refine a_ifF rfl rfl br_eqz (by assumption) ?_) | (refine a_ifT rfl rfl br_nez (by assumption) ?_) | (refine a_ifF rfl rfl br_nez (by assumption) ?_) | (refine a_ifT rfl rfl br_eqz (nt_f (by assumption)) ?_) | (refine a_ifF rfl rfl br_eqz (tnf (by assumption)) ?_) | (refine a_ifF rfl rfl br_nez (fnt (by assumption)) ?_) | (refine a_if rfl rfl br_eqz (fun _ => ?_) (fun _ => ?_)) | (refine a_if rfl rfl br_nez (fun _ => ?_) (fun _ => ?_)) | (refine a_ifF rfl rfl br_ne (fun h => h (by assumption)) ?_) | (refine a_ifT rfl rfl br_eq (by assumption) ?_) | (refine a_ifF rfl rfl br_eq (by assumption) ?_) | (refine a_ifT rfl rfl br_ne (by assumption) ?_) | (refine a_ifF rfl rfl br_ne (by assumption) ?_) | (refine a_ifT rfl rfl br_lt (by assumption) ?_) | (refine a_ifF rfl rfl br_lt (by assumption) ?_) | (refine a_ifT rfl rfl br_ge (by assumption) ?_) | (refine a_ifF rfl rfl br_ge (by assumption) ?_) | (refine a_ifT rfl rfl br_gt (by assumption) ?_) | (refine a_ifF rfl rfl br_gt (by assumption) ?_) | (refine a_ifT rfl rfl br_le (by assumption) ?_) | (refine a_ifF rfl rfl br_le (by assumption) ?_) | (refine a_if rfl rfl br_eq (fun _ => ?_) (fun _ => ?_)) | (refine a_if rfl rfl br_ne (fun _ => ?_) (fun _ => ?_)) | (refine a_if rfl rfl br_lt (fun _ => ?_) (fun _ => ?_)) | (refine a_if rfl rfl br_ge (fun _ => ?_) (fun _ => ?_)) | (refine a_if rfl rfl br_gt (fun _ => ?_) (fun _ => ?_)) | (refine a_if rfl rfl br_le (fun _ => ?_) (fun _ => ?_))) | (refine a_at isIc rfl ?_; first | (refine a_icF rfl rfl br_ne (fun h => h (by assumption)) ?_) | (refine a_icT rfl rfl br_eq (by assumption) ?_) | (refine a_icF rfl rfl br_eq (by assumption) ?_) | (refine a_icT rfl rfl br_ne (by assumption) ?_) | (refine a_icF rfl rfl br_ne (by assumption) ?_) | (refine a_icT rfl rfl br_lt (by assumption) ?_) | (refine a_icF rfl rfl br_lt (by assumption) ?_) | (refine a_icT rfl rfl br_ge (by assumption) ?_) | (refine a_icF rfl rfl br_ge (by assumption) ?_) | (refine a_icT rfl rfl br_gt (by assumption) ?_) | (refine a_icF rfl rfl br_gt (by assumption) ?_) | (refine a_icT rfl rfl br_le (by assumption) ?_) | (refine a_icF rfl rfl br_le (by assumption) ?_) | (refine a_ic rfl rfl br_eq (fun _ => ?_) (fun _ => ?_)) | (refine a_ic rfl rfl br_ne (fun _ => ?_) (fun _ => ?_)) | (refine a_ic rfl rfl br_lt (fun _ => ?_) (fun _ => ?_)) | (refine a_ic rfl rfl br_ge (fun _ => ?_) (fun _ => ?_)) | (refine a_ic rfl rfl br_gt (fun _ => ?_) (fun _ => ?_)) | (refine a_ic rfl rfl br_le (fun _ => ?_) (fun _ => ?_))) | (refine a_at isRt rfl ?_; first | refine a_iret rfl rfl rfl ?_ | refine a_zret rfl rfl ?_ ?_ | refine a_lret rfl rfl ?_ | refine a_ret rfl rfl ?_))
      exact f
    · intro i hi ih M1 h1
      obtain ⟨c1, c2, c3, c4⟩ := id h1
      have g8 : M1.1 108 (48 * q + x) = nI (sE D k).2.2.1 := by rw [c2 108 (by decide), f0 108 (by decide), e8]
      have g5 : M1.1 105 (48 * q + k) = nI (btN (sZ D S.2.2 k) (sE D k).2.2.1) := by rw [c2 105 (by decide), f0 105 (by decide)]; exact e5
      have g7b : M1.1 107 (7 * (48 * q + x) + i) = nI (mPl (sE D k) i) := by rw [c2 107 (by decide), f0 107 (by decide)]; exact e7 i hi
      have p49 : mPl (sE D k) i < 49 := mPl_lt ho hi
      have cov : sCov D (mPl (sE D k) i) := sCov_e hd hlt hi
      have x1 := g7 (48 * q + x) i
      have x2 := g49 q (mPl (sE D k) i)
      have hix : 7 * (48 * q + x) + i < 672 := by omega
      have hiy : 49 * q + mPl (sE D k) i < 98 := by omega
      have bl : btN (sZ D S.2.2 k) (sE D k).2.2.1 < 128 := Nat.lt_of_lt_of_le (btN_lt _ _) (show 2 ^ (sE D k).2.2.1 ≤ 2 ^ 7 from Nat.pow_le_pow_right (by decide) h7)
      have bg := (bt_get i (by omega) _ bl).trans (btN_bit (sZ D S.2.2 k) _ i hi)
      repeat (first | refine x_kcg rfl ?_ | refine x_opp rfl rfl ?_ | refine x_go rfl ?_ | refine m_getg hm rfl rfl rfl ?_)
      refine m_iald (s_108 dy) (vp_in_nI (by omega) (by decide)) ?_
      rw [nI_clamp (by omega), g8]
      refine x_icm br_ge (fun h => absurd h (nI_ge hi (by omega))) (fun _ => ?_)
      repeat (first | refine x_kcg rfl ?_ | refine x_opp rfl rfl ?_ | refine x_go rfl ?_ | refine m_getg hm rfl rfl rfl ?_)
      refine m_iald (s_105 dy) (vp_in_nI (by omega) (by decide)) ?_
      rw [nI_clamp (by omega), g5]
      repeat (first | refine x_kcg rfl ?_ | refine x_opp rfl rfl ?_ | refine x_go rfl ?_)
      by_cases z : sZ D S.2.2 k i = true
      · refine x_icm br_ne (fun h => absurd (bg.mpr z) h) (fun _ => ?_)
        repeat (first | refine x_kcg rfl ?_ | refine x_opp rfl rfl ?_ | refine x_go rfl ?_ | refine m_getg hm rfl rfl rfl ?_)
        rw [x1]
        refine m_iald (s_107 dy) (vp_in_nI hix (by decide)) ?_
        rw [nI_clamp (by omega), g7b]
        repeat (first | refine x_kcg rfl ?_ | refine x_opp rfl rfl ?_ | refine x_go rfl ?_)
        rw [x2]
        repeat (first | refine x_kcg rfl ?_ | refine x_opp rfl rfl ?_ | refine x_go rfl ?_)
        refine m_iast (s_106 dy) (vp_in_nI hiy (by decide)) ?_
        rw [nI_clamp (by omega)]
        have f := ih (m_setI M1 106 (49 * q + mPl (sE D k) i) 0) (by
          refine ⟨c1, fun a y1 => ?_, fun s hs => ?_, fun j hj => ?_⟩
          · rw [mI_ne _ _ _ y1]
            exact c2 a y1
          · rw [mI_at]
            show _ = nI (if s = mPl (sE D k) i ∧ sZ D S.2.2 k i = true then 0 else tkN _ _ _ i s)
            by_cases e2 : s = mPl (sE D k) i
            · rw [if_pos ⟨rfl, by omega⟩, if_pos ⟨e2, z⟩]
              rfl
            · rw [if_neg (fun h => e2 (by have := h.2; omega)), if_neg (fun h => e2 h.1)]
              exact c3 s hs
          · rw [mI_at, if_neg (fun h => hj _ cov h.2)]
            exact c4 j hj)
        refine x_fall ?_
        repeat (first | refine x_kcg rfl ?_ | refine x_incg rfl rfl ?_ | refine x_opp rfl rfl ?_)
        refine x_goto ?_
        refine x_lvs [(0, .ref 65), (1, .int (nI q)), (2, .int (nI (48 * q + k))), (3, .int (nI (48 * q + x))), (4, .int (nI (i + 1)))] rfl rfl rfl ⟨rfl, rfl, rfl, rfl, rfl, trivial⟩ ?_
        exact f
      · refine x_icm br_ne (fun _ => ?_) (fun h => absurd (fun h2 => z (bg.mp h2)) h)
        have f := ih M1 (by
          refine ⟨c1, c2, fun s hs => ?_, c4⟩
          show _ = nI (if s = mPl (sE D k) i ∧ sZ D S.2.2 k i = true then 0 else tkN _ _ _ i s)
          rw [if_neg (fun h => z h.2)]
          exact c3 s hs)
        repeat (first | refine x_kcg rfl ?_ | refine x_incg rfl rfl ?_ | refine x_opp rfl rfl ?_)
        refine x_goto ?_
        refine x_lvs [(0, .ref 65), (1, .int (nI q)), (2, .int (nI (48 * q + k))), (3, .int (nI (48 * q + x))), (4, .int (nI (i + 1)))] rfl rfl rfl ⟨rfl, rfl, rfl, rfl, rfl, trivial⟩ ?_
        exact f
  have f := lp M0 ⟨rfl, fun _ _ => rfl, fun s hs => by rw [f0 106 (by decide)]; exact a5 s hs, fun _ _ => rfl⟩
  have x1 := g48 q k
  have x2 := g48 q x
  have e9b : M0.1 102 (48 * q + k) = nI x := by rw [f0 102 (by decide)]; exact e9
  refine e_intro rfl rfl ?_
  repeat (first | refine x_kcg rfl ?_ | refine x_opp rfl rfl ?_ | refine x_go rfl ?_ | refine m_getg hm rfl rfl rfl ?_)
  refine m_iald (s_97 dy) (vp_in_nI hq2 (by decide)) ?_
  rw [nI_clamp (by omega), a1]
  repeat (first | refine x_kcg rfl ?_ | refine x_opp rfl rfl ?_ | refine x_go rfl ?_)
  rw [nI_pred]
  refine m_iast (s_97 dy) (vp_in_nI hq2 (by decide)) ?_
  rw [nI_clamp (by omega), hM0]
  repeat (first | refine x_kcg rfl ?_ | refine x_opp rfl rfl ?_ | refine x_go rfl ?_ | refine m_getg hm rfl rfl rfl ?_)
  refine m_iald (s_97 dy) (vp_in_nI hq2 (by decide)) ?_
  rw [nI_clamp (by omega), g97]
  repeat (first | refine x_kcg rfl ?_ | refine x_opp rfl rfl ?_ | refine x_go rfl ?_)
  rw [x1]
  repeat (first | refine x_kcg rfl ?_ | refine x_opp rfl rfl ?_ | refine x_go rfl ?_ | refine m_getg hm rfl rfl rfl ?_)
  refine m_iald (s_102 dy) (vp_in_nI (by omega) (by decide)) ?_
  rw [nI_clamp (by omega), e9b]
  repeat (first | refine x_kcg rfl ?_ | refine x_incg rfl rfl ?_ | refine x_opp rfl rfl ?_)
  rw [x2]
  refine x_fall ?_
  refine x_lvs [(0, .ref 65), (1, .int (nI q)), (2, .int (nI (48 * q + k))), (3, .int (nI (48 * q + x))), (4, .int (nI 0))] rfl rfl rfl ⟨rfl, rfl, rfl, rfl, rfl, trivial⟩ ?_
  exact f
end MT4
