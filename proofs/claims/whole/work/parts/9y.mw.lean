/-! pairs: rows are moved: what refusals say -/
theorem sub_dec : ∀ len, len ≤ 7 → ∀ w, w ≤ 7 → (nI len - nI w).toInt = (len : Int) - (w : Int) := by decide
def rowF (r : Int32) (k : Nat) : Int32 := if 100 < r then -1 else if -100 ≤ r then r + nI k else -1
theorem gRow_big {r : Int32} {k H : Nat} (hk : k < 8) (hH : H ≤ 7) (hr : 100 < r ∨ r < -100) : gRow (nI H) (r + nI k) = false := by
  unfold gRow
  have b1 := Int32.le_toInt r
  have b2 := Int32.toInt_lt r
  have e : (r + nI k).toInt = (r.toInt + (k : Int)).bmod (2 ^ 32) := by rw [Int32.toInt_add, nI_toInt (by omega)]
  have hr' : 100 < r.toInt ∨ r.toInt < -100 := by
    rcases hr with h | h
    · rw [Int32.lt_iff_toInt_lt] at h; exact Or.inl h
    · rw [Int32.lt_iff_toInt_lt] at h; exact Or.inr h
  by_cases z : r + nI k < 0
  · rw [if_pos z]
  · rw [if_neg z]
    rw [if_pos]
    rw [Int32.lt_iff_toInt_lt, e] at z
    rw [Int32.le_iff_toInt_le, e, nI_toInt (by omega)]
    have z0 : (0 : Int32).toInt = 0 := rfl
    rw [z0] at z
    unfold Int.bmod at z ⊢
    dsimp only at z ⊢
    split at z <;> split <;> omega
theorem gRow_m1 {H : Int32} : gRow H (-1) = false := by
  unfold gRow
  rw [if_pos (by decide)]
theorem rowF_in {r : Int32} {k : Nat} (h1 : ¬ 100 < r) (h2 : -100 ≤ r) : rowF r k = r + nI k := by unfold rowF; rw [if_neg h1, if_pos h2]
/-- a row far away is one that isn't there, for both -/
theorem rowF_row {r : Int32} {k H : Nat} (hk : k < 8) (hH : H ≤ 7) : gRow (nI H) (rowF r k) = gRow (nI H) (r + nI k) ∧ (gRow (nI H) (r + nI k) = true → rowF r k = r + nI k) := by
  by_cases c1 : 100 < r
  · have : rowF r k = -1 := by unfold rowF; rw [if_pos c1]
    rw [this, gRow_m1, gRow_big hk hH (Or.inl c1)]
    exact ⟨rfl, fun h => by cases h⟩
  · by_cases c2 : -100 ≤ r
    · rw [rowF_in c1 c2]
      exact ⟨rfl, fun _ => rfl⟩
    · have : rowF r k = -1 := by unfold rowF; rw [if_neg c1, if_neg c2]
      rw [this, gRow_m1, gRow_big hk hH (Or.inr (Int32.not_le.mp c2))]
      exact ⟨rfl, fun h => by cases h⟩
section MW
variable {L : Nat} {xs : Nat → Int32} {t d : Nat} {dy : List sh_T} {M : mm_T} {Q : Option Value → sm_W → Prop} {n G T : Nat}
theorem mv_row {r s c e w : Int32} {k HG H : Nat} (hk : k < 8) (eG : M.1 67 G = nI HG) (hHG : HG ≤ 7) (eT : M.1 67 T = nI H) (hH : H ≤ 7) : mvR M G T (rowF r k) c (rowF s k) e w = mvR M G T (r + nI k) c (s + nI k) e w := by
  obtain ⟨x1, x2⟩ := rowF_row (r := r) hk hHG
  obtain ⟨y1, y2⟩ := rowF_row (r := s) hk hH
  unfold mvR
  rw [eG, eT, x1, y1]
  by_cases c1 : M.1 66 G = 0
  · rw [if_pos c1, if_pos c1]
  · rw [if_neg c1, if_neg c1]
    by_cases c2 : gRow (nI HG) (r + nI k) = true
    · rw [x2 c2]
      by_cases c4 : gRow (nI H) (s + nI k) = true
      · rw [y2 c4]
      · rw [nt_f c4, if_pos (rfl : false = false), if_pos (rfl : false = false)]
    · rw [nt_f c2, if_pos (rfl : false = false), if_pos (rfl : false = false)]
theorem mvR_fr {M' : mm_T} {rr c ss e w : Int32} (h : ∀ x i, 66 ≤ x → x ≤ 69 → M'.1 x i = M.1 x i) : mvR M' G T rr c ss e w = mvR M G T rr c ss e w := by
  have e1 : mL M' G = mL M G := funext fun i => h 69 _ (by decide) (by decide)
  have e2 : mL M' T = mL M T := funext fun i => h 69 _ (by decide) (by decide)
  unfold mvR
  rw [e1, e2, h 66 _ (by decide) (by decide), h 67 _ (by decide) (by decide), h 66 _ (by decide) (by decide), h 67 _ (by decide) (by decide)]
theorem pl_nat {ln c : Int32} {w0 : Nat} (hm : 0 ≤ ln) (h7 : ln ≤ 7) (hw : w0 ≤ 7) (g : gPl ln c (nI w0) = true) : ∃ c0, c = nI c0 ∧ c0 + w0 ≤ ln.toNatClampNeg := by
  obtain ⟨len, hl, rfl⟩ := n7 hm h7
  obtain ⟨g1, g2⟩ := gPl_tt g
  obtain ⟨c0, hc, rfl⟩ := nI_of g1
  rw [Int32.lt_iff_toInt_lt, sub_dec len hl w0 hw, nI_toInt hc] at g2
  refine ⟨c0, rfl, ?_⟩
  rw [nI_clamp (by omega)]
  omega
/-- what holds of a row that can be moved -/
theorem mv_facts {rr c ss e : Int32} {w0 : Nat} (h : rG M n) (hG : G < 4) (hT4 : T < 4) (w7 : w0 ≤ 7) (q : mvR M G T rr c ss e (nI w0) = 0) : ∃ a b c0 d0, rr = nI a ∧ ss = nI b ∧ c = nI c0 ∧ e = nI d0 ∧ (∀ HG, HG ≤ 7 → M.1 67 G = nI HG → a < HG) ∧ a < 7 ∧ (∀ H, H ≤ 7 → M.1 67 T = nI H → b < H) ∧ b < 7 ∧ c0 + w0 ≤ (mL M G a).toNatClampNeg ∧ d0 + w0 ≤ (mL M T b).toNatClampNeg ∧ 0 ≤ mL M T b := by
  obtain ⟨HG, WG, b1, b2, b3, b4, b5, b6, gk, mk, v1, v2, a1, a2⟩ := rG_v h hG
  obtain ⟨H', W', b1', b2', b3', b4', b5', b6', gk', mk', v1', v2', a1', a2'⟩ := rG_v h hT4
  unfold mvR at q
  by_cases c1 : M.1 66 G = 0
  · rw [if_pos c1] at q; exact absurd q (by decide)
  · rw [if_neg c1] at q
    by_cases c2 : gRow (M.1 67 G) rr = true
    · rw [if_neg (tnf c2)] at q
      by_cases c3 : M.1 66 T = 0
      · rw [if_pos c3] at q; exact absurd q (by decide)
      · rw [if_neg c3] at q
        by_cases c4 : gRow (M.1 67 T) ss = true
        · rw [if_neg (tnf c4)] at q
          rw [b4] at c2
          rw [b4'] at c4
          obtain ⟨a, ha, rfl⟩ := gRow_m (by omega) c2
          obtain ⟨b, hb, rfl⟩ := gRow_m (by omega) c4
          rw [nI_clamp (by omega), nI_clamp (by omega)] at q
          by_cases c5 : mL M G a < 0
          · rw [if_pos c5] at q; exact absurd q (by decide)
          · rw [if_neg c5] at q
            by_cases c6 : mL M T b < 0
            · rw [if_pos c6] at q; exact absurd q (by decide)
            · rw [if_neg c6] at q
              by_cases c7 : gPl (mL M G a) c (nI w0) = true
              · rw [if_neg (tnf c7)] at q
                by_cases c8 : gPl (mL M T b) e (nI w0) = true
                · obtain ⟨c0, rfl, hc⟩ := pl_nat (Int32.not_lt.mp c5) (mgOK_7 mk a (by omega)).2 w7 c7
                  obtain ⟨d0, rfl, hd⟩ := pl_nat (Int32.not_lt.mp c6) (mgOK_7 mk' b (by omega)).2 w7 c8
                  exact ⟨a, b, c0, d0, rfl, rfl, rfl, rfl, fun K hK eK => by have := nI_H b1 hK b4 eK; omega, by omega, fun K hK eK => by have := nI_H b1' hK b4' eK; omega, by omega, hc, hd, Int32.not_lt.mp c6⟩
                · rw [if_pos (nt_f c8)] at q; exact absurd q (by decide)
              · rw [if_pos (nt_f c7)] at q; exact absurd q (by decide)
        · rw [if_pos (nt_f c4)] at q; exact absurd q (by decide)
    · rw [if_pos (nt_f c2)] at q; exact absurd q (by decide)
theorem mvR_12 (rr c ss e w : Int32) : mvR M G T rr c ss e w = 0 ∨ ∃ k, (k = 1 ∨ k = 2) ∧ mvR M G T rr c ss e w = nI k := by
  unfold mvR
  repeat' split
  all_goals first | exact Or.inl rfl | exact Or.inr ⟨1, Or.inl rfl, rfl⟩ | exact Or.inr ⟨2, Or.inr rfl, rfl⟩
theorem first_ne (q : Nat → Int32) : ∀ h0, ∃ K, K ≤ h0 ∧ (∀ j, j < K → q j = 0) ∧ (K = h0 ∨ q K ≠ 0)
  | 0 => ⟨0, Nat.le_refl 0, fun j h => absurd h (Nat.not_lt_zero j), Or.inl rfl⟩
  | h0 + 1 => by
    obtain ⟨K, k1, k2, k3⟩ := first_ne q h0
    rcases k3 with rfl | k3
    · by_cases z : q K = 0
      · exact ⟨K + 1, Nat.le_refl _, fun j hj => by
          by_cases e : j = K
          · rw [e]; exact z
          · exact k2 j (by omega), Or.inl rfl⟩
      · exact ⟨K, by omega, k2, Or.inr z⟩
    · exact ⟨K, by omega, k2, Or.inr k3⟩
end MW
