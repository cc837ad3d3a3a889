/-! words as numbers -/
def wN (w : Int64) : Nat := w.toUInt64.toNat
/-- the i-th letter -/
def lt5 (w : Int64) (i : Nat) : Nat := wN w / 32 ^ i % 32
theorem sh_amt : ∀ i, i < 7 → ((5 * nI i).toInt64.toUInt64 &&& Int64.toUInt64 63) = UInt64.ofNat (5 * i) := by decide
theorem wN_shr (w : Int64) (k : Nat) (hk : k < 64) : wN ((w.toUInt64 >>> UInt64.ofNat k).toInt64) = wN w / 2 ^ k := by
  unfold wN
  rw [UInt64.toUInt64_toInt64, UInt64.toNat_shiftRight, Nat.shiftRight_eq_div_pow]
  congr 2
  rw [UInt64.toNat_ofNat']
  omega
theorem wN_31 (w : Int64) : wN (w &&& 31) = wN w % 32 := by
  unfold wN
  rw [show (w &&& 31).toUInt64 = w.toUInt64 &&& 31 from rfl, UInt64.toNat_and]
  exact Nat.and_two_pow_sub_one_eq_mod _ 5
theorem wN_inj {v w : Int64} (h : wN v = wN w) : v = w := by
  unfold wN at h
  have := UInt64.toNat_inj.mp h
  cases v
  cases w
  exact congrArg Int64.ofUInt64 this
theorem i32_small (x : Int64) : x.toInt32 = nI (wN x) := by
  unfold wN nI at *
  apply Int32.toBitVec_inj.mp
  apply BitVec.eq_of_toNat_eq
  rw [Int64.toBitVec_toInt32]
  show _ = (BitVec.ofNat 32 x.toUInt64.toNat).toNat
  rw [BitVec.toNat_ofNat, BitVec.signExtend_eq_setWidth_of_le _ (by decide), BitVec.toNat_setWidth]
  rfl
theorem ltr_eq (w : Int64) {i : Nat} (hi : i < 7) : ltr w (nI i) = nI (lt5 w i) := by
  unfold ltr lt5
  rw [sh_amt i hi, i32_small]
  rw [wN_31, wN_shr w (5 * i) (by omega), Nat.pow_mul]
theorem lt5_lt (w : Int64) (i : Nat) : lt5 w i < 32 := Nat.mod_lt _ (by decide)
/-- a letter as the reference takes it -/
def pl5 (w : Int64) (i : Int32) : Int32 := ((w.toUInt64 >>> ((5 * i).toInt64.toUInt64 &&& Int64.toUInt64 63)).toInt64).toInt32 &&& 31
theorem nI_and31 (n : Nat) : nI n &&& 31 = nI (n % 32) := by
  unfold nI
  apply Int32.toBitVec_inj.mp
  apply BitVec.eq_of_toNat_eq
  rw [Int32.toBitVec_and]
  show (BitVec.ofNat 32 n &&& BitVec.ofNat 32 31).toNat = (BitVec.ofNat 32 (n % 32)).toNat
  rw [BitVec.toNat_and, BitVec.toNat_ofNat, BitVec.toNat_ofNat, BitVec.toNat_ofNat]
  rw [show 31 % 2 ^ 32 = 2 ^ 5 - 1 from rfl, Nat.and_two_pow_sub_one_eq_mod]
  omega
theorem pl5_eq (w : Int64) {i : Nat} (hi : i < 7) : pl5 w (nI i) = nI (lt5 w i) := by
  unfold pl5 lt5
  rw [sh_amt i hi, i32_small, nI_and31, wN_shr w (5 * i) (by omega), Nat.pow_mul]
theorem wN_sh5 (r : Int64) : wN (shr5 r) = wN r / 32 := by
  unfold shr5
  rw [show ((5 : Int32).toInt64.toUInt64 &&& Int64.toUInt64 63) = UInt64.ofNat 5 by decide, wN_shr r 5 (by decide)]
theorem wN_0 {w : Int64} : w = 0 ↔ wN w = 0 := ⟨fun h => by rw [h]; rfl, fun h => wN_inj (by rw [h]; rfl)⟩
theorem wN_lt (w : Int64) : wN w < 32 ^ 13 := Nat.lt_of_lt_of_le w.toUInt64.toNat_lt (by decide)
/-- a word of n letters up to t -/
def wOK (t : Nat) (w : Int64) (n : Nat) : Prop := 2 ≤ n ∧ n ≤ 7 ∧ wN w < 32 ^ n ∧ ∀ i, i < n → 1 ≤ lt5 w i ∧ lt5 w i ≤ t
theorem i64_small {x : Int64} (h : wN x < 2 ^ 63) : x.toInt = wN x := by
  unfold wN at *
  rw [Int64.toInt, BitVec.toInt_eq_toNat_of_lt]
  · rfl
  · show 2 * x.toUInt64.toNat < 2 ^ 64
    omega
theorem top_lt {t : Nat} (ht : t < 32) (r : Int64) : ((nI t).toInt64 < r &&& 31) = (t < wN r % 32) := by
  rw [Int64.lt_iff_toInt_lt, i64_small (x := r &&& 31) (by rw [wN_31]; omega), wN_31]
  have e : (nI t).toInt64.toInt = t := by
    have : ∀ t, t < 32 → (nI t).toInt64.toInt = t := by decide
    exact this t ht
  rw [e]
  apply propext
  omega
theorem lnUp_ok {t : Nat} (ht : t < 32) : ∀ k r n, ∃ m, m ≤ k ∧ (lnUp (nI t) k r n).2 = n + m ∧ wN (lnUp (nI t) k r n).1 = wN r / 32 ^ m ∧ (∀ i, i < m → 1 ≤ wN r / 32 ^ i % 32 ∧ wN r / 32 ^ i % 32 ≤ t) ∧ (m = k ∨ wN r / 32 ^ m % 32 = 0 ∨ t < wN r / 32 ^ m % 32)
  | 0, r, n => ⟨0, Nat.le_refl 0, rfl, by simp [lnUp], fun i hi => absurd hi (Nat.not_lt_zero i), Or.inl rfl⟩
  | k + 1, r, n => by
    unfold lnUp
    by_cases h1 : r &&& 31 = 0
    · rw [if_pos h1]
      refine ⟨0, Nat.zero_le _, rfl, by simp, fun i hi => absurd hi (Nat.not_lt_zero i), Or.inr (Or.inl ?_)⟩
      rw [wN_0, wN_31] at h1
      simpa using h1
    · rw [if_neg h1]
      rw [wN_0, wN_31] at h1
      by_cases h2 : (nI t).toInt64 < r &&& 31
      · rw [if_pos h2]
        refine ⟨0, Nat.zero_le _, rfl, by simp, fun i hi => absurd hi (Nat.not_lt_zero i), Or.inr (Or.inr ?_)⟩
        rw [top_lt ht] at h2
        simpa using h2
      · rw [if_neg h2]
        rw [top_lt ht] at h2
        obtain ⟨m, h3, h4, h5, h6, h7⟩ := lnUp_ok ht k (shr5 r) (n + 1)
        have e : ∀ i, wN (shr5 r) / 32 ^ i = wN r / 32 ^ (i + 1) := by
          intro i
          rw [wN_sh5, Nat.div_div_eq_div_mul, Nat.pow_succ, Nat.mul_comm]
        refine ⟨m + 1, by omega, by rw [h4]; omega, by rw [h5, e], ?_, ?_⟩
        · intro i hi
          cases i with
          | zero => simp only [Nat.pow_zero, Nat.div_one]; omega
          | succ i =>
            rw [← e]
            exact h6 i (by omega)
        · rw [← e]
          rcases h7 with h7 | h7 | h7
          · exact Or.inl (by omega)
          · exact Or.inr (Or.inl h7)
          · exact Or.inr (Or.inr h7)
theorem nI_lt2 : ∀ n, n ≤ 7 → ((nI n < 2) = (n < 2)) := by decide
theorem lenU_ok {t n : Nat} {w : Int64} (ht : t < 32) (h : wOK t w n) : lenU w (nI t) = nI n := by
  obtain ⟨h1, h2, h3, h4⟩ := h
  obtain ⟨m, k1, k2, k3, k4, k5⟩ := lnUp_ok ht 7 w 0
  have hm : m = n := by
    rcases Nat.lt_trichotomy m n with g | g | g
    · have := h4 m g
      unfold lt5 at this
      omega
    · exact g
    · have := (k4 n g).1
      rw [Nat.div_eq_of_lt h3] at this
      omega
  subst hm
  unfold lenU
  rw [k2, Nat.zero_add, if_neg, if_neg]
  · rw [nI_lt2 m k1]
    omega
  · rw [Ne, wN_0, k3, Nat.div_eq_of_lt h3]
    exact fun g => g rfl
theorem lenU_ne {t : Nat} {w : Int64} (ht : t < 32) (h : lenU w (nI t) ≠ 0) : ∃ n, wOK t w n := by
  obtain ⟨m, k1, k2, k3, k4, k5⟩ := lnUp_ok ht 7 w 0
  unfold lenU at h
  rw [k2, Nat.zero_add] at h
  by_cases g1 : (lnUp (nI t) 7 w 0).1 ≠ 0
  · rw [if_pos g1] at h
    exact absurd rfl h
  · rw [if_neg g1] at h
    by_cases g2 : nI m < 2
    · rw [if_pos g2] at h
      exact absurd rfl h
    · rw [nI_lt2 m k1] at g2
      have g1 := Decidable.not_not.mp g1
      rw [wN_0, k3] at g1
      refine ⟨m, by omega, k1, ?_, k4⟩
      have hp : 0 < 32 ^ m := Nat.pow_pos (by decide)
      have := Nat.div_add_mod (wN w) (32 ^ m)
      have := Nat.mod_lt (wN w) hp
      rw [g1] at *
      omega
theorem nI_ne07 : ∀ n, n ≤ 7 → 2 ≤ n → nI n ≠ 0 := by decide
theorem lenU_iff {t : Nat} {w : Int64} (ht : t < 32) : lenU w (nI t) ≠ 0 ↔ ∃ n, wOK t w n := ⟨lenU_ne ht, fun ⟨n, h⟩ => by rw [lenU_ok ht h]; exact nI_ne07 n h.2.1 h.1⟩
/-- how many places a number has, of five bits each -/
def szf : Nat → Int64 → Nat
  | 0, _ => 0
  | k + 1, r => if r = 0 then 0 else szf k (shr5 r) + 1
theorem szf_ok : ∀ k r, wN r < 32 ^ k → wN r < 32 ^ szf k r ∧ (∀ m, szf k r = m + 1 → 32 ^ m ≤ wN r) ∧ szf k r ≤ k
  | 0, r, h => ⟨h, fun m hm => by simp [szf] at hm, Nat.le_refl 0⟩
  | k + 1, r, h => by
    unfold szf
    by_cases g : r = 0
    · rw [if_pos g]
      rw [wN_0] at g
      exact ⟨by rw [g]; decide, fun m hm => (by cases hm), Nat.zero_le _⟩
    · rw [if_neg g]
      rw [wN_0] at g
      have e := wN_sh5 r
      have hk : wN (shr5 r) < 32 ^ k := by
        rw [e]
        rw [Nat.pow_succ] at h
        omega
      obtain ⟨h1, h2, h3⟩ := szf_ok k (shr5 r) hk
      refine ⟨?_, ?_, by omega⟩
      · rw [Nat.pow_succ]
        omega
      · intro m hm
        have hm : szf k (shr5 r) = m := by omega
        cases m with
        | zero => simp only [Nat.pow_zero]; omega
        | succ m =>
          have := h2 m hm
          rw [Nat.pow_succ]
          omega
theorem szf_eq {t n : Nat} {w : Int64} (h : wOK t w n) : szf 13 w = n := by
  obtain ⟨h1, h2, h3, h4⟩ := h
  obtain ⟨k1, k2, -⟩ := szf_ok 13 w (wN_lt w)
  have hl := (h4 (n - 1) (by omega)).1
  unfold lt5 at hl
  have hge : 32 ^ (n - 1) ≤ wN w := by
    rcases Nat.lt_or_ge (wN w) (32 ^ (n - 1)) with g | g
    · rw [Nat.div_eq_of_lt g] at hl
      omega
    · exact g
  rcases Nat.lt_trichotomy (szf 13 w) n with g | g | g
  · have : 32 ^ szf 13 w ≤ 32 ^ (n - 1) := Nat.pow_le_pow_right (by decide) (by omega)
    omega
  · exact g
  · obtain ⟨m, hm⟩ : ∃ m, szf 13 w = m + 1 := ⟨szf 13 w - 1, by omega⟩
    have := k2 m hm
    have : 32 ^ n ≤ 32 ^ m := Nat.pow_le_pow_right (by decide) (by omega)
    omega
theorem szf_0 {w : Int64} (h : w = 0) : szf 13 w = 0 := by
  unfold szf
  rw [if_pos h]
/-- the reference's question is the class's -/
theorem wOK_sz {t : Nat} {w : Int64} : (∃ n, wOK t w n) ↔ (2 ≤ szf 13 w ∧ szf 13 w ≤ 7 ∧ ∀ i, i < szf 13 w → 1 ≤ lt5 w i ∧ lt5 w i ≤ t) := by
  constructor
  · rintro ⟨n, h⟩
    rw [szf_eq h]
    exact ⟨h.1, h.2.1, h.2.2.2⟩
  · intro h
    exact ⟨szf 13 w, h.1, h.2.1, (szf_ok 13 w (wN_lt w)).1, h.2.2⟩
theorem lt5_hi {t n : Nat} {w : Int64} (h : wOK t w n) {i : Nat} (hi : n ≤ i) : lt5 w i = 0 := by
  unfold lt5
  rw [Nat.div_eq_of_lt]
  · 
    exact Nat.lt_of_lt_of_le h.2.2.1 (Nat.pow_le_pow_right (by decide) hi)
/-! what stands, masks, and what agrees -/
theorem wN_or (v w : Int64) : wN (v ||| w) = wN v ||| wN w := by
  unfold wN
  rw [show (v ||| w).toUInt64 = v.toUInt64 ||| w.toUInt64 from rfl, UInt64.toNat_or]
theorem wN_and (v w : Int64) : wN (v &&& w) = wN v &&& wN w := by
  unfold wN
  rw [show (v &&& w).toUInt64 = v.toUInt64 &&& w.toUInt64 from rfl, UInt64.toNat_and]
theorem wN_xor (v w : Int64) : wN (v ^^^ w) = wN v ^^^ wN w := by
  unfold wN
  rw [show (v ^^^ w).toUInt64 = v.toUInt64 ^^^ w.toUInt64 from rfl, UInt64.toNat_xor]
theorem sl_dec : ∀ a, a < 32 → ∀ i, i < 7 → wN ((nI a).toInt64 <<< ((5 * nI i).toInt64 &&& 63)) = a * 32 ^ i := by decide +kernel
theorem and31_nat (x : Int32) : ∃ a, a < 32 ∧ x &&& 31 = nI a := by
  refine ⟨x.toBitVec.toNat % 32, Nat.mod_lt _ (by decide), ?_⟩
  have : x = nI x.toBitVec.toNat := by
    unfold nI
    apply Int32.toBitVec_inj.mp
    apply BitVec.eq_of_toNat_eq
    show _ = (BitVec.ofNat 32 _).toNat
    rw [BitVec.toNat_ofNat]
    have := x.toBitVec.isLt
    omega
  conv => lhs; rw [this]
  exact nI_and31 _
/-- the sign of a cell, as a number -/
def sg5 (x : Int32) : Nat := (x &&& 31).toNatClampNeg
theorem nI_cl32 : ∀ a, a < 32 → (nI a).toNatClampNeg = a := by decide
theorem sg5_eq (x : Int32) : x &&& 31 = nI (sg5 x) ∧ sg5 x < 32 := by
  obtain ⟨a, h1, h2⟩ := and31_nat x
  unfold sg5
  rw [h2, nI_cl32 a h1]
  exact ⟨rfl, h1⟩
theorem or_add {a b k : Nat} (h : a < 32 ^ k) : a ||| b * 32 ^ k = a + b * 32 ^ k := by
  have e : (32 : Nat) ^ k = 2 ^ (5 * k) := by rw [Nat.pow_mul]
  rw [e] at h ⊢
  rw [Nat.or_comm, ← Nat.shiftLeft_eq, ← Nat.shiftLeft_add_eq_or_of_lt h, Nat.add_comm]
theorem stF_ok (f : Nat → Int32) : ∀ n, n ≤ 7 → wN (stF f n) < 32 ^ n ∧ ∀ i, lt5 (stF f n) i = if i < n then sg5 (f i) else 0
  | 0, _ => ⟨by show 0 < 1; decide, fun i => by
      rw [if_neg (Nat.not_lt_zero i)]
      unfold lt5
      rw [show wN (stF f 0) = 0 from rfl, Nat.zero_div]⟩
  | n + 1, hn => by
    obtain ⟨h1, h2⟩ := stF_ok f n (by omega)
    obtain ⟨s1, s2⟩ := sg5_eq (f n)
    have e : wN (stF f (n + 1)) = wN (stF f n) + sg5 (f n) * 32 ^ n := by
      show wN (stF f n ||| _) = _
      rw [wN_or, s1, sl_dec _ s2 n (by omega), or_add h1]
    have hp : (32 : Nat) ^ n * 32 = 32 ^ (n + 1) := (Nat.pow_succ ..).symm
    refine ⟨?_, ?_⟩
    · rw [e, ← hp]
      have : sg5 (f n) * 32 ^ n ≤ 31 * 32 ^ n := Nat.mul_le_mul_right _ (by omega)
      omega
    · intro i
      unfold lt5
      rw [e]
      rcases Nat.lt_trichotomy i n with g | g | g
      · rw [if_pos (by omega)]
        have h3 := h2 i
        rw [if_pos g] at h3
        rw [← h3]
        unfold lt5
        have e2 : (32 : Nat) ^ n = 32 ^ i * (32 * 32 ^ (n - i - 1)) := by
          rw [← Nat.pow_succ', ← Nat.pow_add]
          congr 1
          omega
        have e3 : sg5 (f n) * 32 ^ n = 32 ^ i * (32 * (32 ^ (n - i - 1) * sg5 (f n))) := by
          rw [e2, Nat.mul_comm, Nat.mul_assoc, Nat.mul_assoc]
        rw [e3, Nat.add_mul_div_left _ _ (Nat.pow_pos (by decide)), Nat.add_mul_mod_self_left]
      · subst g
        rw [if_pos (by omega), Nat.mul_comm, Nat.add_mul_div_left _ _ (Nat.pow_pos (by decide)), Nat.div_eq_of_lt h1, Nat.zero_add, Nat.mod_eq_of_lt s2]
      · rw [if_neg (by omega), Nat.div_eq_of_lt]
        have h3 : sg5 (f n) * 32 ^ n ≤ 31 * 32 ^ n := Nat.mul_le_mul_right _ (by omega)
        have h4 : (32 : Nat) ^ (n + 1) ≤ 32 ^ i := Nat.pow_le_pow_right (by decide) (by omega)
        omega
theorem m31_dec : ∀ i, i < 7 → wN (31 <<< ((5 * nI i).toInt64 &&& 63)) = 31 * 32 ^ i := by decide +kernel
theorem nI0_iff {a : Nat} (h : a < 32) : nI a = 0 ↔ a = 0 := by
  have : ∀ a, a < 32 → (nI a = 0 ↔ a = 0) := by decide
  exact this a h
theorem tb_lt5 (w : Int64) {i b : Nat} (hb : b < 5) : (wN w).testBit (5 * i + b) = (lt5 w i).testBit b := by
  unfold lt5
  rw [show (32 : Nat) ^ i = 2 ^ (5 * i) by rw [Nat.pow_mul], show 32 = 2 ^ 5 from rfl, Nat.testBit_mod_two_pow, Nat.testBit_div_two_pow]
  simp [hb, Nat.add_comm]
theorem tb_31 : ∀ b, b < 5 → (31 : Nat).testBit b = true := by decide
theorem mkF_ok (w : Int64) : ∀ n, n ≤ 7 → wN (mkF w n) < 32 ^ n ∧ ∀ i, lt5 (mkF w n) i = if i < n ∧ lt5 w i ≠ 0 then 31 else 0 := by
  intro n
  have key : ∀ n, n ≤ 7 → mkF w n = stF (fun i => if lt5 w i = 0 then 0 else 31) n := by
    intro n
    induction n with
    | zero => intro _; rfl
    | succ n ih =>
      intro hn
      unfold mkF stF
      rw [ih (by omega), ltr_eq w (show n < 7 by omega)]
      by_cases g : lt5 w n = 0
      · rw [if_pos ((nI0_iff (lt5_lt w n)).2 g)]
        apply wN_inj
        rw [wN_or, if_pos g]
        have := sl_dec 0 (by decide) n (by omega)
        rw [show (0 : Int32) &&& 31 = nI 0 from rfl, this, Nat.zero_mul, Nat.or_zero]
      · rw [if_neg (fun e => g ((nI0_iff (lt5_lt w n)).1 e))]
        apply wN_inj
        rw [wN_or, wN_or, if_neg g, m31_dec n (by omega), show (31 : Int32) &&& 31 = nI 31 from rfl, sl_dec 31 (by decide) n (by omega)]
  intro hn
  rw [key n hn]
  obtain ⟨h1, h2⟩ := stF_ok (fun i => if lt5 w i = 0 then 0 else 31) n hn
  refine ⟨h1, fun i => ?_⟩
  rw [h2 i]
  by_cases g : i < n
  · rw [if_pos g]
    by_cases g2 : lt5 w i = 0
    · simp only [g2, if_true, ne_eq, not_true_eq_false, and_false, if_false]
      decide
    · simp only [g, g2, if_true, ne_eq, not_false_eq_true, and_true, if_false]
      decide
  · rw [if_neg g, if_neg (fun h => g h.1)]
theorem lt5_ext {v w : Int64} (h : ∀ i, i < 13 → lt5 v i = lt5 w i) : v = w := by
  apply wN_inj
  apply Nat.eq_of_testBit_eq
  intro k
  rcases Nat.lt_or_ge k 65 with g | g
  · have e : k = 5 * (k / 5) + k % 5 := by omega
    rw [e, tb_lt5 v (Nat.mod_lt _ (by decide)), tb_lt5 w (Nat.mod_lt _ (by decide)), h (k / 5) (by omega)]
  · rw [Nat.testBit_lt_two_pow (Nat.lt_of_lt_of_le (wN_lt v) (by rw [show (32 : Nat) ^ 13 = 2 ^ 65 from by decide]; exact Nat.pow_le_pow_right (by decide) g)), Nat.testBit_lt_two_pow (Nat.lt_of_lt_of_le (wN_lt w) (by rw [show (32 : Nat) ^ 13 = 2 ^ 65 from by decide]; exact Nat.pow_le_pow_right (by decide) g))]
/-- where a mask of what stands is, the word has what stands -/
theorem agr_iff (w st : Int64) : ((w ^^^ st) &&& mkF st 7 = 0) ↔ ∀ i, i < 7 → lt5 st i = 0 ∨ lt5 w i = lt5 st i := by
  obtain ⟨m1, m2⟩ := mkF_ok st 7 (Nat.le_refl 7)
  rw [wN_0, wN_and, wN_xor]
  constructor
  · intro h i hi
    by_cases g : lt5 st i = 0
    · exact Or.inl g
    · right
      apply Nat.eq_of_testBit_eq
      intro b
      rcases Nat.lt_or_ge b 5 with hb | hb
      · rw [← tb_lt5 w hb, ← tb_lt5 st hb]
        have h1 := congrArg (fun n => n.testBit (5 * i + b)) h
        simp only [Nat.testBit_and, Nat.testBit_xor, Nat.zero_testBit] at h1
        rw [tb_lt5 (mkF st 7) hb, m2 i, if_pos ⟨hi, g⟩, tb_31 b hb, Bool.and_true] at h1
        cases h2 : (wN w).testBit (5 * i + b) <;> cases h3 : (wN st).testBit (5 * i + b) <;> rw [h2, h3] at h1 <;> first | rfl | cases h1
      · have e : ∀ x : Int64, (lt5 x i).testBit b = false := fun x => Nat.testBit_lt_two_pow (Nat.lt_of_lt_of_le (lt5_lt x i) (by rw [show 32 = 2 ^ 5 from rfl]; exact Nat.pow_le_pow_right (by decide) hb))
        rw [e, e]
  · intro h
    apply Nat.eq_of_testBit_eq
    intro k
    rw [Nat.zero_testBit, Nat.testBit_and, Nat.testBit_xor]
    have e : k = 5 * (k / 5) + k % 5 := by omega
    have hb : k % 5 < 5 := Nat.mod_lt _ (by decide)
    rw [e, tb_lt5 w hb, tb_lt5 st hb, tb_lt5 (mkF st 7) hb, m2 (k / 5)]
    by_cases g : k / 5 < 7 ∧ lt5 st (k / 5) ≠ 0
    · rcases h (k / 5) g.1 with h1 | h1
      · exact absurd h1 g.2
      · rw [h1]
        simp
    · rw [if_neg g, Nat.zero_testBit, Bool.and_false]
/-! a pattern's letters -/
def tdF (p : Int64) : Nat → Int64
  | 0 => 0
  | i + 1 => if ltr p (nI i) = 27 then tdF p i else tdF p i ||| ((ltr p (nI i)).toInt64 <<< ((5 * nI i).toInt64 &&& 63))
theorem n32_dec : ∀ a, a < 32 → (nI a &&& 31 = nI a) ∧ sg5 (nI a) = a ∧ (nI a = 27 ↔ a = 27) := by decide
theorem tdF_ok (p : Int64) : ∀ n, n ≤ 7 → wN (tdF p n) < 32 ^ n ∧ ∀ i, lt5 (tdF p n) i = if i < n ∧ lt5 p i ≠ 27 then lt5 p i else 0 := by
  intro n
  have key : ∀ n, n ≤ 7 → tdF p n = stF (fun i => if lt5 p i = 27 then 0 else nI (lt5 p i)) n := by
    intro n
    induction n with
    | zero => intro _; rfl
    | succ n ih =>
      intro hn
      unfold tdF stF
      rw [ih (by omega), ltr_eq p (show n < 7 by omega)]
      by_cases g : lt5 p n = 27
      · rw [if_pos ((n32_dec _ (lt5_lt p n)).2.2.2 g)]
        apply wN_inj
        rw [wN_or, if_pos g]
        have := sl_dec 0 (by decide) n (by omega)
        rw [show (0 : Int32) &&& 31 = nI 0 from rfl, this, Nat.zero_mul, Nat.or_zero]
      · rw [if_neg (fun e => g ((n32_dec _ (lt5_lt p n)).2.2.1 e)), if_neg g, (n32_dec _ (lt5_lt p n)).1]
  intro hn
  rw [key n hn]
  obtain ⟨h1, h2⟩ := stF_ok (fun i => if lt5 p i = 27 then 0 else nI (lt5 p i)) n hn
  refine ⟨h1, fun i => ?_⟩
  rw [h2 i]
  by_cases g : i < n
  · rw [if_pos g]
    by_cases g2 : lt5 p i = 27
    · simp only [g2, if_true, ne_eq, not_true_eq_false, and_false, if_false]
      decide
    · simp only [g, g2, ne_eq, not_false_eq_true, and_true, if_true, if_false]
      exact (n32_dec _ (lt5_lt p i)).2.1
  · simp only [g, if_false, false_and]
/-- a word of the lists: none, or one -/
def wdP (w : Int64) : Prop := w = 0 ∨ ∃ n, wOK 26 w n
theorem nI_inj7 : ∀ m, m ≤ 7 → ∀ n, n ≤ 7 → (nI m = nI n ↔ m = n) := by decide
theorem lenU_z (t : Nat) (ht : t < 32) : lenU 0 (nI t) = 0 := by
  by_cases h : lenU 0 (nI t) = 0
  · exact h
  · obtain ⟨n, hn⟩ := lenU_ne ht h
    have := (hn.2.2.2 0 (by have := hn.1; omega)).1
    exact absurd this (by decide)
theorem lenU_is {w : Int64} (hw : wdP w) {n : Nat} (hn : 2 ≤ n) (h7 : n ≤ 7) : lenU w (nI 26) = nI n ↔ szf 13 w = n := by
  rcases hw with rfl | ⟨m, hm⟩
  · rw [lenU_z 26 (by decide), szf_0 rfl]
    constructor
    · intro h
      exact absurd h.symm (nI_ne07 n h7 hn)
    · intro h
      omega
  · rw [lenU_ok (by decide) hm, szf_eq hm]
    exact nI_inj7 m hm.2.1 n h7
def fitP (p w : Int64) : Prop := szf 13 w = szf 13 p ∧ ∀ i, i < 7 → lt5 p i = 27 ∨ lt5 p i = lt5 w i
theorem fit_iff {p w : Int64} {n : Nat} (hp : wOK 27 p n) (hw : wdP w) : (lenU w (nI 26) = nI n ∧ (w ^^^ tdF p n) &&& mkF (tdF p n) 7 = 0) ↔ fitP p w := by
  unfold fitP
  rw [lenU_is hw hp.1 hp.2.1, szf_eq hp, agr_iff]
  constructor
  · rintro ⟨h1, h2⟩
    refine ⟨h1, fun i hi => ?_⟩
    by_cases g : lt5 p i = 27
    · exact Or.inl g
    · right
      by_cases g2 : i < n
      · have h3 := h2 i hi
        rw [(tdF_ok p n hp.2.1).2 i, if_pos ⟨g2, g⟩] at h3
        rcases h3 with h3 | h3
        · have := (hp.2.2.2 i g2).1
          omega
        · exact h3.symm
      · rw [lt5_hi hp (by omega)]
        rcases hw with rfl | ⟨m, hm⟩
        · unfold lt5
          rw [show wN 0 = 0 from rfl, Nat.zero_div]
        · rw [szf_eq hm] at h1
          subst h1
          rw [lt5_hi hm (by omega)]
  · rintro ⟨h1, h2⟩
    refine ⟨h1, fun i hi => ?_⟩
    rw [(tdF_ok p n hp.2.1).2 i]
    by_cases g : i < n ∧ lt5 p i ≠ 27
    · rw [if_pos g]
      rcases h2 i hi with h3 | h3
      · exact absurd h3 g.2
      · exact Or.inr h3.symm
    · rw [if_neg g]
      exact Or.inl rfl
/-- a word agrees with what stands in an entry of n squares -/
def agrP (f : Nat → Nat) (n : Nat) (w : Int64) : Prop := szf 13 w = n ∧ ∀ i, i < n → f i = 0 ∨ f i = lt5 w i
theorem agr_sz {f : Nat → Int32} {n : Nat} {w : Int64} (hw : wdP w) (hn : 2 ≤ n) (h7 : n ≤ 7) : (lenU w (nI 26) = nI n ∧ (w ^^^ stF f n) &&& mkF (stF f n) 7 = 0) ↔ agrP (fun i => sg5 (f i)) n w := by
  unfold agrP
  rw [lenU_is hw hn h7, agr_iff]
  constructor
  · rintro ⟨h1, h2⟩
    refine ⟨h1, fun i hi => ?_⟩
    have := h2 i (by omega)
    rw [(stF_ok f n h7).2 i, if_pos hi] at this
    rcases this with h | h
    · exact Or.inl h
    · exact Or.inr h.symm
  · rintro ⟨h1, h2⟩
    refine ⟨h1, fun i hi => ?_⟩
    rw [(stF_ok f n h7).2 i]
    by_cases g : i < n
    · rw [if_pos g]
      rcases h2 i g with h | h
      · exact Or.inl h
      · exact Or.inr h.symm
    · rw [if_neg g]
      exact Or.inl rfl
/-- the order of words, by their first unlike letters -/
def bfN (v w : Int64) : Nat → Nat → Bool
  | 0, _ => false
  | k + 1, i => if lt5 v i = lt5 w i then bfN v w k (i + 1) else decide (lt5 v i < lt5 w i)
theorem n32_sub : ∀ a, a < 32 → ∀ b, b < 32 → (nI a - nI b = 0 ↔ a = b) ∧ (0 ≤ nI a - nI b ↔ b ≤ a) ∧ (nI a = nI b ↔ a = b) ∧ (nI a < nI b ↔ a < b) ∧ (nI b ≤ nI a ↔ b ≤ a) := by decide
theorem bfF_eq (v w : Int64) : ∀ k i, i + k = 7 → bfF v w k i = bfN v w k i
  | 0, _, _ => rfl
  | k + 1, i, h => by
    unfold bfF bfN
    rw [ltr_eq v (show i < 7 by omega), ltr_eq w (show i < 7 by omega), bfF_eq v w k (i + 1) (by omega)]
    obtain ⟨h1, h2, -⟩ := n32_sub _ (lt5_lt v i) _ (lt5_lt w i)
    by_cases g : lt5 v i = lt5 w i
    · rw [if_pos (h1.2 g), if_pos g]
    · rw [if_neg (fun e => g (h1.1 e)), if_neg g]
      by_cases g2 : lt5 w i ≤ lt5 v i
      · rw [if_pos (h2.2 g2), eq_comm, decide_eq_false_iff_not]
        omega
      · rw [if_neg (fun e => g2 (h2.1 e)), eq_comm, decide_eq_true_iff]
        omega
