/-! filling goes on: both -/
theorem tl_new {ca m v : Nat} {x y : Int32} (hca : ca < 128) (hm : m < 32) (h : nI ca = nI m + (if x = 0 then 0 else 32) + (if y = 0 then 0 else 64)) : nI (ca / 32 * 32 + v) = nI v + (if x = 0 then 0 else 32) + (if y = 0 then 0 else 64) := by
  have key : ∀ p q : Nat, p < 2 → q < 2 → nI ca = nI m + nI (32 * p) + nI (64 * q) → nI (ca / 32 * 32 + v) = nI v + nI (32 * p) + nI (64 * q) := by
    intro p q hp hq e
    rw [nI_add, nI_add, nI_eq (by omega) (by omega)] at e
    rw [nI_add, nI_add]
    congr 1
    omega
  by_cases hx : x = 0
  · rw [if_pos hx] at h ⊢
    by_cases hy : y = 0
    · rw [if_pos hy] at h ⊢
      exact key 0 0 (by omega) (by omega) h
    · rw [if_neg hy] at h ⊢
      exact key 0 1 (by omega) (by omega) h
  · rw [if_neg hx] at h ⊢
    by_cases hy : y = 0
    · rw [if_pos hy] at h ⊢
      exact key 1 0 (by omega) (by omega) h
    · rw [if_neg hy] at h ⊢
      exact key 1 1 (by omega) (by omega) h
section FQ
variable {L : Nat} {xs : Nat → Int32} {t d : Nat} {dy : List sh_T} {M : mm_T} {Q : Option Value → sm_W → Prop} {n G : Nat}
/-- letters written into some squares of a grid, by both -/
theorem rG_let {M' : mm_T} {ca : Nat → Nat} (h : rG M n) (hG : G < 4) (hca : ∀ s, s < 49 → M.1 (46 + 5 * G) s = nI (ca s) ∧ ca s < 128) (fr : ∀ a i, (45 ≤ a ∧ a ≤ 64 ∧ (a - 45) % 5 < 3) ∨ (66 ≤ a ∧ a ≤ 74) → a ≠ 46 + 5 * G → ¬ (a = 70 ∧ 49 * G ≤ i ∧ i < 49 * G + 49) → M'.1 a i = M.1 a i) (h2 : M'.2.2 7 = M.2.2 7)
    (key : ∀ s, s < 49 → (M'.1 (46 + 5 * G) s = M.1 (46 + 5 * G) s ∧ M'.1 70 (49 * G + s) = M.1 70 (49 * G + s)) ∨ ∃ v, v < 32 ∧ M'.1 (46 + 5 * G) s = nI (ca s / 32 * 32 + v) ∧ M'.1 70 (49 * G + s) = nI v) : rG M' n := by
  obtain ⟨⟨a1, a2⟩, ⟨H, W, z1, z2, z3, z4, z5, z6, z7, z8, z9⟩, z10, ⟨al, dl, d1, d2, d3, d4, d5, d6⟩⟩ := h.2.2 G hG
  have ml : mL M' G = mL M G := funext fun i => fr 69 _ (by omega) (by omega) (by omega)
  refine rG_one (G := G) h hG (fun a i q1 q2 => fr a i q1 (fun e => q2 (Or.inl (by omega))) (fun e => q2 (Or.inr (Or.inr (Or.inr (by omega)))))) h2 (fun s hs => ?_) ⟨⟨?_, ?_⟩, ⟨H, W, z1, z2, ?_, ?_, ?_, ?_, fun i hi => ?_, fun i j hi hj => ?_, fun i hi hj hw => ?_⟩, fun s hs => ?_, al, dl, ?_, ?_, ?_, ?_, d5, d6⟩
  · obtain ⟨m1, m2, m3⟩ := h.1 (49 * G + s) (by omega)
    rw [fr 71 _ (by omega) (by omega) (by omega), fr 72 _ (by omega) (by omega) (by omega)]
    refine ⟨?_, m2, m3⟩
    rcases key s hs with k | ⟨v, hv, -, k⟩
    · rw [k.2]; exact m1
    · exact ⟨v, hv, k⟩
  · rw [fr _ _ (by omega) (by omega) (by omega), fr _ _ (by omega) (by omega) (by omega)]; exact a1
  · rw [fr _ _ (by omega) (by omega) (by omega)]; exact a2
  · rw [fr _ _ (by omega) (by omega) (by omega)]; exact z3
  · rw [fr _ _ (by omega) (by omega) (by omega)]; exact z4
  · rw [fr _ _ (by omega) (by omega) (by omega)]; exact z5
  · rw [fr _ _ (by omega) (by omega) (by omega)]; exact z6
  · rw [fr _ _ (by omega) (by omega) (by omega), ml]; exact z7 i hi
  · rw [ml] at hj
    have l7 : (mL M G i).toNatClampNeg ≤ 7 := by
      have := z7 i (by omega)
      exact ln_cl this.2.1 (Int32.le_trans this.2.2.1 (nI_le (b := 7) z2 (by decide)))
    have old := z8 i j hi hj
    have s49 : i * 7 + j < 49 := by omega
    unfold mC tld at old ⊢
    rw [fr 71 _ (by omega) (by omega) (by omega), fr 72 _ (by omega) (by omega) (by omega)]
    rcases key (i * 7 + j) s49 with k | ⟨v, hv, k1, k2⟩
    · rw [k.1, k.2]; exact old
    · obtain ⟨⟨m, hm, em⟩, -, -⟩ := h.1 (49 * G + (i * 7 + j)) (by omega)
      rw [(hca _ s49).1, em] at old
      rw [k1, k2]
      exact tl_new (hca _ s49).2 hm old
  · rw [fr 71 _ (by omega) (by omega) (by omega)]
    rw [ml] at hj
    exact z9 i hi hj hw
  · rcases key s hs with k | ⟨v, hv, k1, k2⟩
    · rw [k.1]; exact z10 s hs
    · have := (hca s hs).2
      exact ⟨ca s / 32 * 32 + v, by omega, k1⟩
  · rw [fr _ _ (by omega) (by omega) (by omega)]; exact d1
  · rw [fr _ _ (by omega) (by omega) (by omega)]; exact d2
  · rw [fr _ _ (by omega) (by omega) (by omega)]; exact d3
  · rw [fr _ _ (by omega) (by omega) (by omega)]; exact d4
set_option maxHeartbeats 1000000 in
theorem R_fo {Ma Mb Mc Md : mm_T} {s : Nat × (Nat → Int32)} {E : Nat → lT} {P w : Nat → Nat} {D : sD} {r : Nat × sS × Nat} {ca : Nat → Nat} (hG : rG M n) (hL : rL dy M E P w n) (hQ : rQ M) (hN : rN Md t s) (hG4 : G < 4) (hca : ∀ s, s < 49 → M.1 (46 + 5 * G) s = nI (ca s) ∧ ca s < 128)
    (fa : ∀ a i, (a = 0 ∧ (i = 7 ∨ i = 8 ∨ i = 12 ∨ i = 13)) ∨ a = 4 ∨ a = 6 ∨ 45 ≤ a → Ma.1 a i = M.1 a i) (fa2 : ∀ a, a < 13 ∨ 27 < a → Ma.2.1 a = M.2.1 a) (fa3 : Ma.2.2 = M.2.2) (h10 : Ma.1 0 10 = nI G)
    (hb : dFo Ma Mb D G ca r)
    (fc : ∀ a i, a ≤ 64 ∨ (66 ≤ a ∧ a ≤ 83) ∨ 109 ≤ a ∨ (a = 65 ∧ (i = 9 ∨ i = 23 ∨ 58 ≤ i)) → Mc.1 a i = Mb.1 a i) (fc2 : ∀ a, a ≤ 64 ∨ (66 ≤ a ∧ a ≤ 83) ∨ 109 ≤ a → Mc.2.1 a = Mb.2.1 a) (fc3 : Mc.2.2 = Mb.2.2)
    (hd : dOK D) (hin : ∀ i j, i < D.1.length → j < D.1.length → D.2.2.1 i = D.2.2.1 j → i = j) (h14 : Ma.1 13 14 = Mc.1 98 0) (hout : ∀ s, s < 49 → ¬ sCov D s → Mc.1 106 s = M.1 70 (49 * G + s))
    (he : kFo Mc Md D G r) : rR t dy Md := by
  obtain ⟨b1, b2, b3, b4, b5, b6, ⟨b7, b8, b9, b10⟩, b11, b12, b13⟩ := hb
  obtain ⟨e1, e2, e3, e4, e5, e6, e7, ⟨e8, e9, e10, e11⟩, e12, e13, e14, e15⟩ := he
  have m3 : Md.2.2 = M.2.2 := by rw [e1, fc3, b1, fa3]
  have m2 : ∀ a, a < 13 ∨ (27 < a ∧ a ≤ 64) ∨ (66 ≤ a ∧ a ≤ 83) ∨ 109 ≤ a → Md.2.1 a = M.2.1 a := fun a h => by rw [e4 a (by omega), fc2 a (by omega), b4 a (by omega), fa2 a (by omega)]
  -- from the desk's end
  have f1 : ∀ a i, a ≤ 64 → Md.1 a i = Mb.1 a i := fun a i h => by rw [e2 a (by omega) (by omega) (by omega) (by omega) (by omega) (by omega), fc a i (by omega)]
  have f2 : ∀ a i, a = 4 ∨ a = 6 ∨ (45 ≤ a ∧ a ≤ 64) ∨ (66 ≤ a ∧ a ≤ 83) ∨ 109 ≤ a → a ≠ 46 + 5 * G → a ≠ 70 → Md.1 a i = M.1 a i := fun a i h h3 h4 => by
    rw [e2 a (by omega) h4 (by omega) (by omega) (by omega) (by omega), fc a i (by omega), b2 a (by omega) (by omega) (by omega) (by omega) (by omega) h3, fa a i (by omega)]
  have f65 : ∀ i, i = 9 ∨ 58 ≤ i → Md.1 65 i = M.1 65 i := fun i h => by
    rw [e3 i (by omega) (by omega) (by omega) (by omega), fc 65 i (by omega), b2 65 (by decide) (by decide) (by decide) (by decide) (by decide) (by omega), fa 65 i (by omega)]
  have c70 : ∀ i, Mc.1 70 i = M.1 70 i := fun i => by rw [fc 70 i (by omega), b2 70 (by decide) (by decide) (by decide) (by decide) (by decide) (by omega), fa 70 i (by omega)]
  have cov : ∀ s, sCov D s → s < 49 := fun s hs => by
    obtain ⟨e, he, i, hi, rfl⟩ := hs
    exact mPl_lt (hd.2.1 e he) hi
  refine ⟨s, E, P, w, n, ?_, hN, ?_, ?_, ?_⟩
  · refine rG_let hG hG4 hca (fun a i h h3 h4 => ?_) (by rw [m3]) (fun s hs => ?_)
    · by_cases q : a = 70
      · subst q
        rw [e13 i (by omega), c70]
      · exact f2 a i (by omega) h3 q
    · by_cases q : r.1 = 1
      · obtain ⟨x1, x2⟩ := b13 q
        obtain ⟨y1, y2⟩ := e15 q
        by_cases c : sCov D s
        · exact Or.inr ⟨_, sB_lt hd _ _ _, by rw [f1 _ _ (by omega)]; exact x1 s c, y1 s hs c⟩
        · exact Or.inl ⟨by rw [f1 _ _ (by omega), x2 s hs c]; exact (hca s hs).1.symm, by rw [y2 s hs c]; exact hout s hs c⟩
      · refine Or.inl ⟨?_, ?_⟩
        · rw [f1 _ _ (by omega), b12 q, fa _ _ (by omega)]
        · rw [e14 q, c70]
  · exact rL_fr hL (fun a i h => by
      by_cases q : a = 65
      · subst q; exact f65 i (by omega)
      · exact f2 a i (by omega) (by omega) (by omega)) (fun a h => m2 a (by omega)) (by rw [m3])
  · refine ⟨by rw [f1 _ _ (by omega), b5, e5], ?_⟩
    by_cases q : r.1 = 2
    · refine Or.inr ⟨by rw [f1 _ _ (by omega), b5, if_pos q], ?_⟩
      obtain ⟨x1, x2, x3, x4, x5⟩ := b11 q
      obtain ⟨y1, y2, y3, y4⟩ := e12 q
      have l1 : ∀ a, a ≤ 64 → Md.2.1 a = Mb.2.1 a := fun a h => by rw [e4 a (by omega), fc2 a (by omega)]
      refine ⟨G, D, r.2.1, hG4, ?_, e6, hd, hin, y1, cD_ex2 (M := Mb) (fun a i h h2 => f1 a i (by omega)) (fun a h => l1 a (by omega)) x3, cS_ex2 (M := Mb) (fun a i h => f1 a i (by omega)) (fun a h h2 => l1 a (by omega)) x2, ?_, y3, y2, ?_, fun s hs hc => ?_⟩
      · rw [f1 _ _ (by omega), b3 10 (by decide) (by decide)]; exact h10
      · rw [f1 _ _ (by omega)]; exact x4
      · rw [f1 _ _ (by omega), x5, h14, e2 98 (by decide) (by decide) (by decide) (by decide) (by decide) (by decide)]
      · rw [y4 s hc, hout s hs hc, e14 (by omega), c70]
    · exact Or.inl (by rw [f1 _ _ (by omega), b5, if_neg q])
  · obtain ⟨⟨k, m, q1, q2, q3, q4, q5, q6, q7⟩, ⟨q8, q9, q10, q11⟩, q12, q13⟩ := hQ
    refine ⟨⟨k, m, q1, q2, ?_, ?_, ?_, ?_, fun j e x y => ?_⟩, ⟨?_, ?_, ?_, ?_⟩, ?_, ?_⟩
    · rw [f1 _ _ (by omega), b3 7 (by decide) (by decide), fa _ _ (by omega)]; exact q3
    · rw [f65 _ (by omega)]; exact q4
    · rw [f1 _ _ (by omega), b3 8 (by decide) (by decide), fa _ _ (by omega)]; exact q5
    · rw [f65 _ (by omega)]; exact q6
    · rw [m2 _ (by omega), m2 _ (by omega)]; exact q7 j e x y
    · rw [f1 _ _ (by omega), b7, e8]
    · rw [f1 _ _ (by omega), b8, e9]
    · rw [f1 _ _ (by omega), b9, e10]
    · rw [f1 _ _ (by omega), b10, e11, h14]
    · rw [f1 _ _ (by omega), b6, e7, fc _ _ (by omega), b2 65 (by decide) (by decide) (by decide) (by decide) (by decide) (by omega), fa _ _ (by omega), fa _ _ (by omega), q12]
    · rw [f1 _ _ (by omega), b3 13 (by decide) (by decide), fa _ _ (by omega), f65 _ (by omega)]; exact q13
end FQ
