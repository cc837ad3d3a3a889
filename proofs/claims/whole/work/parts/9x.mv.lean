/-! rows moved one behind another: what both sides hold -/
def hT (M : mm_T) (T : Nat) : Nat := (M.1 67 T).toNatClampNeg
def wT (M : mm_T) (T : Nat) : Nat := (M.1 68 T).toNatClampNeg
def cdT (M : mm_T) (G T r0 s0 c0 d0 w0 : Nat) : Nat → Nat → Int32
  | 0 => M.1 (46 + 5 * T)
  | k + 1 => fun s => dOut (dCp (cdT M G T r0 s0 c0 d0 w0 k) (if G = T then cdT M G T r0 s0 c0 d0 w0 k else M.1 (46 + 5 * G)) (r0 + k) c0 (s0 + k) d0 w0) (s0 + k) (mL M T (s0 + k)).toNatClampNeg (hT M T) (wT M T) s
def sgS (M : mm_T) (G T r0 s0 c0 d0 w0 : Nat) : Nat → Nat → Int32
  | 0 => M.1 70
  | k + 1 => fun x => rfC (sgS M G T r0 s0 c0 d0 w0 k) G T (r0 + k) c0 (s0 + k) d0 w0 x
def rtS (M : mm_T) (G T r0 s0 c0 d0 w0 : Nat) : Nat → Nat → Int32
  | 0 => M.1 71
  | k + 1 => fun x => if 1 ≤ wT M T ∧ x = 49 * T + ((s0 + k) * 7 + (wT M T - 1)) then 0 else rfC (rtS M G T r0 s0 c0 d0 w0 k) G T (r0 + k) c0 (s0 + k) d0 w0 x
def udS (M : mm_T) (G T r0 s0 c0 d0 w0 : Nat) : Nat → Nat → Int32
  | 0 => M.1 72
  | k + 1 => fun x => if s0 + k + 1 = hT M T ∧ 49 * T + (s0 + k) * 7 ≤ x ∧ x < 49 * T + (s0 + k) * 7 + 7 then 0 else rfC (udS M G T r0 s0 c0 d0 w0 k) G T (r0 + k) c0 (s0 + k) d0 w0 x
/-- both sides' squares behind k rows -/
def cmb (M : mm_T) (G T r0 s0 c0 d0 w0 k : Nat) : mm_T := (fun x => if x = 46 + 5 * T then cdT M G T r0 s0 c0 d0 w0 k else if x = 70 then sgS M G T r0 s0 c0 d0 w0 k else if x = 71 then rtS M G T r0 s0 c0 d0 w0 k else if x = 72 then udS M G T r0 s0 c0 d0 w0 k else M.1 x, M.2)
theorem dB_dec : ∀ m, m < 32 → ∀ a b p q : Bool, dBar (nI m + (if a = true then 0 else 32) + (if b = true then 0 else 64)) p q = nI m + (if (a || p) = true then 0 else 32) + (if (b || q) = true then 0 else 64) := by decide +kernel
theorem dB_new {m : Nat} (hm : m < 32) (x y : Int32) (p q : Bool) : dBar (nI m + (if x = 0 then 0 else 32) + (if y = 0 then 0 else 64)) p q = nI m + (if (if p = true then 0 else x) = 0 then 0 else 32) + (if (if q = true then 0 else y) = 0 then 0 else 64) := by
  have k := dB_dec m hm (decide (x = 0)) (decide (y = 0)) p q
  simp only [decide_eq_true_eq, Bool.or_eq_true] at k
  rw [k]
  congr 1
  · congr 1
    cases p <;> simp
  · cases q <;> simp
theorem dB_lt : ∀ ca, ca < 128 → ∀ p q : Bool, (dBar (nI ca) p q).toNatClampNeg < 128 ∧ dBar (nI ca) p q = nI (dBar (nI ca) p q).toNatClampNeg := by decide +kernel
section MV
variable {M : mm_T} {n G T r0 s0 c0 d0 w0 k : Nat}
theorem cmb_o {x : Nat} (h1 : x ≠ 46 + 5 * T) (h2 : x ≠ 70) (h3 : x ≠ 71) (h4 : x ≠ 72) : (cmb M G T r0 s0 c0 d0 w0 k).1 x = M.1 x := by
  unfold cmb
  dsimp only
  rw [if_neg h1, if_neg h2, if_neg h3, if_neg h4]
theorem cmb_c : (cmb M G T r0 s0 c0 d0 w0 k).1 (46 + 5 * T) = cdT M G T r0 s0 c0 d0 w0 k := if_pos rfl
theorem cmb_s (hT : T < 4) : (cmb M G T r0 s0 c0 d0 w0 k).1 70 = sgS M G T r0 s0 c0 d0 w0 k ∧ (cmb M G T r0 s0 c0 d0 w0 k).1 71 = rtS M G T r0 s0 c0 d0 w0 k ∧ (cmb M G T r0 s0 c0 d0 w0 k).1 72 = udS M G T r0 s0 c0 d0 w0 k := by
  refine ⟨?_, ?_, ?_⟩
  · unfold cmb
    dsimp only
    rw [if_neg (by omega)]
    rfl
  · unfold cmb
    dsimp only
    rw [if_neg (by omega)]
    rfl
  · unfold cmb
    dsimp only
    rw [if_neg (by omega)]
    rfl
theorem cmb_l (hT : T < 4) (K : Nat) : mL (cmb M G T r0 s0 c0 d0 w0 k) K = mL M K := by
  funext i
  unfold mL
  rw [cmb_o (by omega) (by decide) (by decide) (by decide)]
theorem cmb_0 (hT : T < 4) : cmb M G T r0 s0 c0 d0 w0 0 = M := by
  refine Prod.ext (funext fun x => ?_) rfl
  unfold cmb
  dsimp only
  split
  · rename_i h; rw [h]; rfl
  · split
    · rename_i h; rw [h]; rfl
    · split
      · rename_i h; rw [h]; rfl
      · split
        · rename_i h; rw [h]; rfl
        · rfl
theorem rfC_out {f : Nat → Int32} {a b x : Nat} (h : ¬ (49 * T + (b * 7 + d0) ≤ x ∧ x < 49 * T + (b * 7 + d0) + w0)) : rfC f G T a c0 b d0 w0 x = f x := if_neg h
set_option maxHeartbeats 1000000 in
/-- one row more -/
theorem rG_row (h : rG (cmb M G T r0 s0 c0 d0 w0 k) n) (hG : G < 4) (hT4 : T < 4) {HG : Nat} (eHG : M.1 67 G = nI HG) (hHG : HG ≤ 7) {H W : Nat} (eH : M.1 67 T = nI H) (hH : H ≤ 7) (eW : M.1 68 T = nI W) (hW : W ≤ 7) (ha : r0 + k < HG) (hb : s0 + k < H) (hc : c0 + w0 ≤ (mL M G (r0 + k)).toNatClampNeg) (hd : d0 + w0 ≤ (mL M T (s0 + k)).toNatClampNeg) : rG (cmb M G T r0 s0 c0 d0 w0 (k + 1)) n := by
  have hH' : hT M T = H := by unfold hT; rw [eH, nI_clamp (by omega)]
  have hW' : wT M T = W := by unfold wT; rw [eW, nI_clamp (by omega)]
  obtain ⟨x70, x71, x72⟩ := cmb_s (M := M) (G := G) (r0 := r0) (s0 := s0) (c0 := c0) (d0 := d0) (w0 := w0) (k := k) hT4
  obtain ⟨y70, y71, y72⟩ := cmb_s (M := M) (G := G) (r0 := r0) (s0 := s0) (c0 := c0) (d0 := d0) (w0 := w0) (k := k + 1) hT4
  have ms := h.1
  rw [show msOK (cmb M G T r0 s0 c0 d0 w0 k) = ∀ s, s < 196 → (∃ n, n < 32 ∧ sgS M G T r0 s0 c0 d0 w0 k s = nI n) ∧ (rtS M G T r0 s0 c0 d0 w0 k s = 0 ∨ rtS M G T r0 s0 c0 d0 w0 k s = 1) ∧ (udS M G T r0 s0 c0 d0 w0 k s = 0 ∨ udS M G T r0 s0 c0 d0 w0 k s = 1) from by unfold msOK; rw [x70, x71, x72]] at ms
  -- the other grid's lengths, and this one's
  obtain ⟨-, ⟨Hg, Wg, g1, g2, g3, g4, g5, g6, g7, g8, g9⟩, gc, -⟩ := h.2.2 G hG
  have lG7 : (mL M G (r0 + k)).toNatClampNeg ≤ 7 := by
    have := g7 (r0 + k) (by omega)
    rw [cmb_l hT4] at this
    exact ln_cl this.2.1 (Int32.le_trans this.2.2.1 (nI_le (b := 7) g2 (by decide)))
  obtain ⟨⟨a1, a2⟩, ⟨H0, W0, z1, z2, z3, z4, z5, z6, z7, z8, z9⟩, z10, ⟨al, dl, d1, d2, d3, d4, d5, d6⟩⟩ := h.2.2 T hT4
  have o67 : (cmb M G T r0 s0 c0 d0 w0 k).1 67 T = nI H := by rw [cmb_o (by omega) (by decide) (by decide) (by decide)]; exact eH
  have o68 : (cmb M G T r0 s0 c0 d0 w0 k).1 68 T = nI W := by rw [cmb_o (by omega) (by decide) (by decide) (by decide)]; exact eW
  have eH0 : H0 = H := nI_H z1 hH z4 o67
  have eW0 : W0 = W := nI_H z2 hW z6 o68
  have eHg : Hg = HG := nI_H g1 hHG g4 (by rw [cmb_o (by omega) (by decide) (by decide) (by decide)]; exact eHG)
  subst eH0 eW0 eHg
  have lT7 : ∀ i, i < 7 → (mL M T i).toNatClampNeg ≤ 7 := fun i hi => by
    have := z7 i hi
    rw [cmb_l hT4] at this
    exact ln_cl this.2.1 (Int32.le_trans this.2.2.1 (nI_le (b := 7) z2 (by decide)))
  have lb7 := lT7 (s0 + k) (by omega)
  -- the copied signs and bars are good
  have cp : ∀ (f : Nat → Int32) (p : Int32 → Prop), (∀ s, s < 196 → p (f s)) → ∀ s, s < 196 → p (rfC f G T (r0 + k) c0 (s0 + k) d0 w0 s) := by
    intro f p hp s hs
    unfold rfC
    split
    · exact hp _ (by omega)
    · exact hp s hs
  have same : ∀ x, x ≠ 46 + 5 * T → x ≠ 70 → x ≠ 71 → x ≠ 72 → (cmb M G T r0 s0 c0 d0 w0 (k + 1)).1 x = (cmb M G T r0 s0 c0 d0 w0 k).1 x := fun x p1 p2 p3 p4 => by rw [cmb_o p1 p2 p3 p4, cmb_o p1 p2 p3 p4]
  have nsg : ∀ x, sgS M G T r0 s0 c0 d0 w0 (k + 1) x = rfC (sgS M G T r0 s0 c0 d0 w0 k) G T (r0 + k) c0 (s0 + k) d0 w0 x := fun _ => rfl
  have nrt : ∀ x, rtS M G T r0 s0 c0 d0 w0 (k + 1) x = if 1 ≤ W0 ∧ x = 49 * T + ((s0 + k) * 7 + (W0 - 1)) then 0 else rfC (rtS M G T r0 s0 c0 d0 w0 k) G T (r0 + k) c0 (s0 + k) d0 w0 x := fun x => by
    rw [← hW']
    rfl
  have nud : ∀ x, udS M G T r0 s0 c0 d0 w0 (k + 1) x = if s0 + k + 1 = H0 ∧ 49 * T + (s0 + k) * 7 ≤ x ∧ x < 49 * T + (s0 + k) * 7 + 7 then 0 else rfC (udS M G T r0 s0 c0 d0 w0 k) G T (r0 + k) c0 (s0 + k) d0 w0 x := fun x => by
    rw [← hH']
    rfl
  have ncd : ∀ s, cdT M G T r0 s0 c0 d0 w0 (k + 1) s = dOut (dCp (cdT M G T r0 s0 c0 d0 w0 k) ((cmb M G T r0 s0 c0 d0 w0 k).1 (46 + 5 * G)) (r0 + k) c0 (s0 + k) d0 w0) (s0 + k) (mL M T (s0 + k)).toNatClampNeg H0 W0 s := fun s => by
    have e : (cmb M G T r0 s0 c0 d0 w0 k).1 (46 + 5 * G) = if G = T then cdT M G T r0 s0 c0 d0 w0 k else M.1 (46 + 5 * G) := by
      by_cases q : G = T
      · subst q; rw [if_pos rfl, cmb_c]
      · rw [if_neg q, cmb_o (by omega) (by omega) (by omega) (by omega)]
    rw [e, ← hH', ← hW']
    rfl
  have lt128 : ∀ s, s < 49 → ∃ v, v < 128 ∧ dCp (cdT M G T r0 s0 c0 d0 w0 k) ((cmb M G T r0 s0 c0 d0 w0 k).1 (46 + 5 * G)) (r0 + k) c0 (s0 + k) d0 w0 s = nI v := fun s hs => by
    unfold dCp
    split
    · exact gc _ (by omega)
    · have := z10 s hs
      rw [cmb_c] at this
      exact this
  refine rG_one (G := T) h hT4 (fun a i q1 q2 => ?_) rfl (fun s hs => ?_) ⟨⟨?_, ?_⟩, ⟨H0, W0, z1, z2, ?_, ?_, ?_, ?_, fun i hi => ?_, fun i j hi hj => ?_, fun i hi hj hw => ?_⟩, fun s hs => ?_, al, dl, ?_, ?_, ?_, ?_, d5, d6⟩
  · unfold ownG at q2
    by_cases p70 : a = 70
    · subst p70; rw [y70, x70, nsg, rfC_out (by omega)]
    · by_cases p71 : a = 71
      · subst p71; rw [y71, x71, nrt, if_neg (by omega), rfC_out (by omega)]
      · by_cases p72 : a = 72
        · subst p72; rw [y72, x72, nud, if_neg (by omega), rfC_out (by omega)]
        · rw [same a (by omega) p70 p71 p72]
  · rw [y70, y71, y72, nsg, nrt, nud]
    refine ⟨cp _ (fun v => ∃ n, n < 32 ∧ v = nI n) (fun s hs => (ms s hs).1) _ (by omega), ?_, ?_⟩
    · split
      · exact Or.inl rfl
      · exact cp _ (fun v => v = 0 ∨ v = 1) (fun s hs => (ms s hs).2.1) _ (by omega)
    · split
      · exact Or.inl rfl
      · exact cp _ (fun v => v = 0 ∨ v = 1) (fun s hs => (ms s hs).2.2) _ (by omega)
  · rw [same _ (by omega) (by omega) (by omega) (by omega), same _ (by omega) (by omega) (by omega) (by omega)]; exact a1
  · rw [same _ (by omega) (by omega) (by omega) (by omega)]; exact a2
  · rw [same _ (by omega) (by omega) (by omega) (by omega)]; exact z3
  · rw [same _ (by omega) (by omega) (by omega) (by omega)]; exact z4
  · rw [same _ (by omega) (by omega) (by omega) (by omega)]; exact z5
  · rw [same _ (by omega) (by omega) (by omega) (by omega)]; exact z6
  · rw [same _ (by omega) (by omega) (by omega) (by omega), cmb_l hT4]
    have := z7 i hi
    rw [cmb_l hT4] at this
    exact this
  · rw [cmb_l hT4] at hj
    have l7 := lT7 i (by omega)
    have old := z8 i j hi (by rw [cmb_l hT4]; exact hj)
    unfold mC tld at old ⊢
    rw [cmb_c, x70, x71, x72] at old
    rw [cmb_c, y70, y71, y72, nsg, nrt, nud, ncd]
    by_cases q : i = s0 + k
    · have q7 : (i * 7 + j) / 7 = s0 + k := by omega
      have q8 : (i * 7 + j) % 7 = j := by omega
      -- what is copied, on both sides
      have cpy : dCp (cdT M G T r0 s0 c0 d0 w0 k) ((cmb M G T r0 s0 c0 d0 w0 k).1 (46 + 5 * G)) (r0 + k) c0 (s0 + k) d0 w0 (i * 7 + j) = rfC (sgS M G T r0 s0 c0 d0 w0 k) G T (r0 + k) c0 (s0 + k) d0 w0 (49 * T + (i * 7 + j)) + (if rfC (rtS M G T r0 s0 c0 d0 w0 k) G T (r0 + k) c0 (s0 + k) d0 w0 (49 * T + (i * 7 + j)) = 0 then 0 else 32) + (if rfC (udS M G T r0 s0 c0 d0 w0 k) G T (r0 + k) c0 (s0 + k) d0 w0 (49 * T + (i * 7 + j)) = 0 then 0 else 64) := by
        by_cases z : d0 ≤ j ∧ j < d0 + w0
        · have in1 : ∀ f : Nat → Int32, rfC f G T (r0 + k) c0 (s0 + k) d0 w0 (49 * T + (i * 7 + j)) = f (49 * G + ((r0 + k) * 7 + (c0 + (j - d0)))) := fun f => by
            unfold rfC
            rw [if_pos (by omega)]
            congr 1
            omega
          have in2 : ∀ f g : Nat → Int32, dCp f g (r0 + k) c0 (s0 + k) d0 w0 (i * 7 + j) = g ((r0 + k) * 7 + (c0 + (j - d0))) := fun f g => by
            unfold dCp
            rw [if_pos (by omega)]
            congr 1
            omega
          rw [in1, in1, in1, in2]
          have g := g8 (r0 + k) (c0 + (j - d0)) (by omega) (by rw [cmb_l hT4]; omega)
          unfold mC tld at g
          rw [x70, x71, x72] at g
          exact g
        · rw [rfC_out (by omega), rfC_out (by omega), rfC_out (by omega)]
          unfold dCp
          rw [if_neg (by omega)]
          exact old
      obtain ⟨m, hm, em⟩ := cp _ (fun v => ∃ n, n < 32 ∧ v = nI n) (fun s hs => (ms s hs).1) (49 * T + (i * 7 + j)) (by omega)
      unfold dOut
      rw [cpy, em, dB_new hm, q7, q8]
      congr 1
      · congr 1
        refine ifc ?_
        by_cases p : j + 1 = W0
        · rw [if_pos (decide_eq_true ⟨rfl, by rw [← q]; exact hj, p⟩), if_pos (by omega)]
        · rw [if_neg (by rw [decide_eq_false (fun z => p z.2.2)]; decide), if_neg (by omega)]
      · refine ifc ?_
        by_cases p : s0 + k + 1 = H0
        · rw [if_pos (decide_eq_true ⟨rfl, by rw [← q]; exact hj, p⟩), if_pos (by omega)]
        · rw [if_neg (by rw [decide_eq_false (fun z => p z.2.2)]; decide), if_neg (fun z => p z.1)]
    · rw [dOut_no (by omega), rfC_out (by omega), if_neg (show ¬ (1 ≤ W0 ∧ 49 * T + (i * 7 + j) = 49 * T + ((s0 + k) * 7 + (W0 - 1))) by omega), rfC_out (by omega), if_neg (show ¬ (s0 + k + 1 = H0 ∧ 49 * T + (s0 + k) * 7 ≤ 49 * T + (i * 7 + j) ∧ 49 * T + (i * 7 + j) < 49 * T + (s0 + k) * 7 + 7) by omega), rfC_out (by omega)]
      unfold dCp
      rw [if_neg (by omega)]
      exact old
  · rw [cmb_l hT4] at hj
    rw [y71, nrt]
    by_cases q : i = s0 + k
    · rw [if_pos ⟨hw, by rw [q]⟩]
    · rw [if_neg (by omega), rfC_out (by omega)]
      have := z9 i hi (by rw [cmb_l hT4]; exact hj) hw
      rw [x71] at this
      exact this
  · rw [cmb_c, ncd]
    obtain ⟨v, hv, ev⟩ := lt128 s hs
    unfold dOut
    rw [ev]
    have := dB_lt v hv (decide (s / 7 = s0 + k ∧ s % 7 < (mL M T (s0 + k)).toNatClampNeg ∧ s % 7 + 1 = W0)) (decide (s / 7 = s0 + k ∧ s % 7 < (mL M T (s0 + k)).toNatClampNeg ∧ s0 + k + 1 = H0))
    exact ⟨_, this.1, this.2⟩
  · rw [same _ (by omega) (by omega) (by omega) (by omega)]; exact d1
  · rw [same _ (by omega) (by omega) (by omega) (by omega)]; exact d2
  · rw [same _ (by omega) (by omega) (by omega) (by omega)]; exact d3
  · rw [same _ (by omega) (by omega) (by omega) (by omega)]; exact d4
end MV
