/-! the reference's questions of lists: all of it -/
def frM (M : mm_T) (t l act : Nat) (o : Int64) (ph : Nat) : Prop := M.1 86 t = nI l ∧ M.1 87 t = nI act ∧ M.2.1 88 t = o ∧ M.1 89 t = nI ph
theorem frM_aft {M M1 : mm_T} {t t2 l act ph : Nat} {o : Int64} {s : Nat × (Nat → Int32)} (h : aft M M1 t2 s) (ht : t < t2) (hf : frM M t l act o ph) : frM M1 t l act o ph ∧ M1.2.1 90 t = M.2.1 90 t := by
  obtain ⟨c1, c2, c3, c4, c5⟩ := h.2.1 t ht
  unfold frM
  rw [c1, c2, c3, c4]
  exact ⟨hf, c5⟩
theorem frM_ph {M : mm_T} {t l act ph : Nat} {o : Int64} (hf : frM M t l act o ph) (p : Nat) : frM (m_setI M 89 t (nI p)) t l act o p := by
  obtain ⟨h1, h2, h3, h4⟩ := hf
  refine ⟨?_, ?_, h3, ?_⟩
  · rw [mI_ne _ _ _ (by decide)]; exact h1
  · rw [mI_ne _ _ _ (by decide)]; exact h2
  · rw [mI_at, if_pos ⟨rfl, rfl⟩]
theorem aft_ph {M : mm_T} {t p : Nat} {s : Nat × (Nat → Int32)} (h : mTr M s) : aft M (m_setI M 89 t (nI p)) t s := aft_I (aft_rfl t h) (Or.inr ⟨by decide, Nat.le_refl t⟩)
/-- behind a push: the frame on top -/
theorem push_ok {M M1 : mm_T} {t a act : Nat} {o : Int64} {s : Nat × (Nat → Int32)} (h : aft M M1 (t + 1) s) (h31 : M1.1 65 31 = 0) : aft M (mPush M1 (t + 1) (nI a) (nI act) o) (t + 1) s ∧ (mPush M1 (t + 1) (nI a) (nI act) o).1 65 24 = nI (t + 1 + 1) ∧ (mPush M1 (t + 1) (nI a) (nI act) o).1 65 31 = 0 ∧ frM (mPush M1 (t + 1) (nI a) (nI act) o) (t + 1) a act o 0 := by
  unfold mPush frM
  refine ⟨?_, ?_, ?_, ?_, ?_, ?_, ?_⟩
  · exact aft_I (aft_I (aft_L (aft_I (aft_I h (Or.inr ⟨by decide, Nat.le_refl _⟩)) (Or.inr ⟨by decide, Nat.le_refl _⟩)) (Or.inr ⟨by decide, Nat.le_refl _⟩)) (Or.inr ⟨by decide, Nat.le_refl _⟩)) (Or.inl ⟨rfl, Or.inl rfl⟩)
  · rw [mI_at, if_pos ⟨rfl, rfl⟩]
  · rw [mI_at, if_neg (by omega), mI_at, if_neg (by omega), mL_1, mI_at, if_neg (by omega), mI_at, if_neg (by omega)]
    exact h31
  · rw [mI_at, if_neg (by omega), mI_at, if_neg (by omega), mL_1, mI_at, if_neg (by omega), mI_at, if_pos ⟨rfl, rfl⟩]
  · rw [mI_at, if_neg (by omega), mI_at, if_neg (by omega), mL_1, mI_at, if_pos ⟨rfl, rfl⟩]
  · rw [mI_2, mI_2, mL_at, if_pos ⟨rfl, rfl⟩]
  · rw [mI_at, if_neg (by omega), mI_at, if_pos ⟨rfl, rfl⟩]
    rfl
theorem askF_f {E : Nat → lT} {n : Nat} (hE : lOK E n) : ∀ l, l < n → ∀ act o, (askF E l act o).2.1 ≤ 2 := by
  intro l
  induction l using Nat.strongRecOn with
  | _ l ih =>
    intro hl act o
    obtain ⟨h0, h1, h2, -⟩ := hE.2 l hl
    rw [askF_eq hE hl]
    by_cases g1 : lDr (E l) = true
    · rw [if_pos g1]
      decide
    · rw [if_neg g1]
      by_cases g2 : lK (E l) < 3
      · rw [if_pos g2]
        unfold askL
        by_cases a0 : act = 0
        · rw [if_pos a0]
          exact Nat.zero_le _
        · rw [if_neg a0]
          by_cases a1 : act = 1
          · rw [if_pos a1]
            exact Nat.zero_le _
          · rw [if_neg a1]
            by_cases a2 : act = 2
            · rw [if_pos a2]
              by_cases o1 : o < 0
              · rw [if_pos o1]
                decide
              · rw [if_neg o1]
                by_cases o2 : (nI (lMy (E l))).toInt64 ≤ o
                · rw [if_pos o2]
                  decide
                · rw [if_neg o2]
                  exact Nat.zero_le _
            · rw [if_neg a2]
              exact Nat.zero_le _
      · rw [if_neg g2]
        have a1 := h1 (by omega)
        have i1 := ih _ a1 (by omega)
        by_cases g3 : lK (E l) = 3
        · rw [if_pos g3]
          by_cases c1 : act = 0 ∧ fitB (lPt (E l)) o = false
          · rw [if_pos c1]
            exact Nat.zero_le _
          · rw [if_neg c1]
            dsimp only
            by_cases r0 : (askF E (lA1 (E l)) act o).2.1 = 0
            · rw [if_pos r0]
              exact Nat.zero_le _
            · rw [if_neg r0]
              exact i1 act o
        · rw [if_neg g3]
          have a2 := h2 (by omega)
          have i2 := ih _ a2 (by omega)
          dsimp only
          by_cases r0 : (askF E (lA1 (E l)) act o).2.1 = 0
          · rw [if_pos r0]
            by_cases c1 : act ≠ 1 ∧ (act = 3 ∨ (askF E (lA1 (E l)) act o).2.2 ≠ 0)
            · rw [if_pos c1]
              have i3 := i2 (if act = 2 then 0 else act) (if act = 2 then (askF E (lA1 (E l)) act o).2.2 else o)
              generalize askF E (lA2 (E l)) _ _ = r2 at i3 ⊢
              by_cases r1 : r2.2.1 = 0
              · rw [if_pos r1]
                exact Nat.zero_le _
              · rw [if_neg r1]
                exact i3
            · rw [if_neg c1]
              exact Nat.zero_le _
          · rw [if_neg r0]
            exact i1 act o
section MT3
variable {L : Nat} {xs : Nat → Int32} {d : Nat} {dy : List sh_T} {Q : Option Value → sm_W → Prop} {E : Nat → lT} {n : Nat} {l0 a0 : Int32} {o0 : Int64}
theorem l_ask (hE : lOK E n) : ∀ l, l < n → ∀ (act : Nat) (o : Int64) (t : Nat) (M : mm_T) (B : Nat) (f : Nat → Int32), act ≤ 3 → t + l < 39 → mLs M E n → mTr M (B, f) → B + (askF E l act o).1.length + 2 < 2 ^ 31 → M.1 65 24 = nI (t + 1) → M.1 65 31 = 0 → frM M t l act o 0 →
    ((askF E l act o).2.1 = 0 → ∀ M', aft M M' t (trc (B, f) (askF E l act o).1) → M'.1 65 24 = nI t → M'.2.1 65 30 = (askF E l act o).2.2 → M'.1 65 31 = 0 → hAsk L xs d dy Q l0 a0 o0 M') →
    ((askF E l act o).2.1 ≠ 0 → ∀ M', aft M M' t (trc (B, f) (askF E l act o).1) → M'.1 65 31 = nI (askF E l act o).2.1 → hAsk L xs d dy Q l0 a0 o0 M') → hAsk L xs d dy Q l0 a0 o0 M := by
  intro l
  induction l using Nat.strongRecOn with
  | _ l ih =>
    intro hl act o t M B f ha ht hs tr hB h24 h31 hf hS hF
    obtain ⟨h0, h1, h2, -⟩ := hE.2 l hl
    have hn16 := hE.1
    obtain ⟨s1, s2, s3, s4, s5, -⟩ := hs l hl
    have ht40 : t < 40 := by omega
    have hl16 : l < 16 := by omega
    obtain ⟨f1, f2, f3, f4⟩ := id hf
    rw [askF_eq hE hl] at hB hS hF
    by_cases g1 : lDr (E l) = true
    · rw [if_pos g1] at hF
      refine l_itD ht40 hl16 h24 h31 f1 f4 (by rw [s5, g1]; rfl) ?_
      refine hF (by decide) _ (aft_I (aft_I (aft_rfl t tr) (Or.inr ⟨by decide, Nat.le_refl t⟩)) (Or.inl ⟨rfl, Or.inr rfl⟩)) ?_
      rw [mI_at, if_pos ⟨rfl, rfl⟩]
      rfl
    · rw [if_neg g1] at hB hS hF
      have hd : M.1 80 l = 0 := by rw [s5, nt_f g1]; rfl
      have aM1 : aft M (m_setI M 89 t (nI (0 + 1))) t (B, f) := aft_ph tr
      have e24 : (m_setI M 89 t (nI (0 + 1))).1 65 24 = nI (t + 1) := by rw [mI_ne _ _ _ (by decide)]; exact h24
      have e31 : (m_setI M 89 t (nI (0 + 1))).1 65 31 = 0 := by rw [mI_ne _ _ _ (by decide)]; exact h31
      have fM1 := frM_ph hf (0 + 1)
      have lM1 := mLs_aft aM1 hs
      by_cases g2 : lK (E l) < 3
      · rw [if_pos g2] at hB hS hF
        refine l_it (act := act) (o := o) (k := lK (E l)) ht40 hl16 h24 h31 f1 f2 f3 f4 (by decide) s1 h0 (fun _ => hd) (fun _ => ?_) (fun h => by omega) (fun h => by omega)
        have hB2 : B + 2 < 2 ^ 31 := by omega
        have hh : act = 0 ∨ act = 1 ∨ act = 2 ∨ act = 3 := by omega
        rcases hh with rfl | rfl | rfl | rfl
        · exact k_plain0 (d := d + 1) hl hE lM1 g2 e24 aM1.2.2 hB2 (fun M' p1 p2 p3 p4 => ⟨M', rfl, rfl, hS rfl M' (aft_tr aM1 p1) p2 p3 (p4.trans e31)⟩)
        · exact k_plain1 (d := d + 1) hl hE lM1 g2 e24 aM1.2.2 hB2 (fun M' p1 p2 p3 p4 => ⟨M', rfl, rfl, hS rfl M' (aft_tr aM1 p1) p2 p3 (p4.trans e31)⟩)
        · exact k_plain2 (d := d + 1) hl hE lM1 g2 e24 aM1.2.2 hB2 (fun h M' p1 p2 p3 p4 => ⟨M', rfl, rfl, hS h M' (aft_tr aM1 p1) p2 p3 (p4.trans e31)⟩) (fun h M' p1 p2 => ⟨M', rfl, rfl, hF (by rw [h]; decide) M' (aft_tr aM1 p1) (by rw [h]; exact p2)⟩)
        · exact k_plain3 (d := d + 1) hl hE lM1 g2 e24 aM1.2.2 hB2 (fun M' p1 p2 p3 p4 => ⟨M', rfl, rfl, hS rfl M' (aft_tr aM1 p1) p2 p3 (p4.trans e31)⟩)
      · rw [if_neg g2] at hB hS hF
        have a1 := h1 (by omega)
        by_cases g3 : lK (E l) = 3
        · rw [if_pos g3] at hB hS hF
          have e78 : (m_setI M 89 t (nI (0 + 1))).2.1 78 l = lPt (E l) := s4 g3
          have e76 : (m_setI M 89 t (nI (0 + 1))).1 76 l = nI (lA1 (E l)) := by rw [mI_ne _ _ _ (by decide)]; exact s2 (by omega)
          refine l_it (act := act) (o := o) (k := lK (E l)) ht40 hl16 h24 h31 f1 f2 f3 f4 (by decide) s1 h0 (fun _ => hd) (fun h => by omega) (fun _ => ?_) (fun h => by omega)
          by_cases c1 : act = 0 ∧ fitB (lPt (E l)) o = false
          · rw [if_pos c1] at hB hS hF
            obtain ⟨c0, c2⟩ := c1
            subst c0
            obtain ⟨p1, p2, p3, p4⟩ := pop_ok (t := t) 0 (aft_B (c := nI 30) aM1) (by rw [mBeg_f _ _ _ (by decide)]; rw [e31, h31])
            exact k_pat0f (d := d) hl16 aM1.2.2.1 (by omega) e24 (by rw [e78]; exact c2) ⟨_, rfl, rfl, hS rfl _ p1 p2 p3 (p4.trans h31)⟩
          · rw [if_neg c1] at hB hS hF
            have hfit : act = 0 → fitB ((m_setI M 89 t (nI (0 + 1))).2.1 78 l) o = true := by
              intro e
              rw [e78]
              exact nf_t (fun h => c1 ⟨e, h⟩)
            refine k_pat0p (d := d) hl16 aM1.2.2.1 (by omega) e24 (by omega) e76 ha hfit ⟨_, rfl, rfl, ?_⟩
            have aM2 : aft M (mBeg (m_setI M 89 t (nI (0 + 1))) B (nI (30 + act))) t (B + 1, upd f (B % 100) (nI (30 + act))) := aft_B aM1
            have aM2' : aft (m_setI M 89 t (nI (0 + 1))) (mBeg (m_setI M 89 t (nI (0 + 1))) B (nI (30 + act))) (t + 1) (B + 1, upd f (B % 100) (nI (30 + act))) := aft_B (aft_rfl (t + 1) aM1.2.2)
            obtain ⟨q1, q2, q3, q4⟩ := push_ok (a := lA1 (E l)) (act := act) (o := o) aM2' (by rw [mBeg_f _ _ _ (by decide)]; exact e31)
            generalize hM2 : mPush (mBeg (m_setI M 89 t (nI (0 + 1))) B (nI (30 + act))) (t + 1) (nI (lA1 (E l))) (nI act) o = M2 at q1 q2 q3 q4 ⊢
            have fM2 := (frM_aft q1 (Nat.lt_succ_self t) fM1).1
            have lM2 := mLs_aft q1 lM1
            have aMM2 : aft M M2 t (B + 1, upd f (B % 100) (nI (30 + act))) := aft_tr aM1 (aft_le q1 (by omega))
            dsimp only at hB hS hF
            refine ih (lA1 (E l)) a1 (by omega) act o (t + 1) M2 (B + 1) (upd f (B % 100) (nI (30 + act))) ha (by omega) lM2 q1.2.2 ?_ q2 q3 q4 ?_ ?_
            · by_cases r0 : (askF E (lA1 (E l)) act o).2.1 = 0
              · rw [if_pos r0, List.length_cons] at hB
                omega
              · rw [if_neg r0, List.length_cons] at hB
                omega
            · intro r0 M3 p1 p2 p3 p4
              rw [if_pos r0] at hS
              have fM3 := (frM_aft p1 (Nat.lt_succ_self t) fM2).1
              have aM3 := aft_tr aMM2 (aft_le p1 (by omega : t ≤ t + 1))
              have lM3 := mLs_aft p1 lM2
              obtain ⟨u1, -, -, u4, -⟩ := lM3 l hl
              refine l_it (act := act) (o := o) (ph := 1) (k := lK (E l)) ht40 hl16 p2 p4 fM3.1 fM3.2.1 fM3.2.2.1 fM3.2.2.2 (by decide) u1 h0 (fun h => by omega) (fun h => by omega) (fun _ => ?_) (fun h => by omega)
              have e24b : (m_setI M3 89 t (nI (1 + 1))).1 65 24 = nI (t + 1) := by rw [mI_ne _ _ _ (by decide)]; exact p2
              have e31b : (m_setI M3 89 t (nI (1 + 1))).1 65 31 = M.1 65 31 := by rw [mI_ne _ _ _ (by decide), p4, h31]
              refine k_pat1 (d := d) hl16 e24b ha ⟨_, rfl, rfl, ?_⟩
              have v1 : (m_setI M3 89 t (nI (1 + 1))).2.1 65 30 = (askF E (lA1 (E l)) act o).2.2 := p3
              have v2 : (m_setI M3 89 t (nI (1 + 1))).2.1 78 l = lPt (E l) := u4 g3
              rw [v1, v2]
              have aM4 : aft M (m_setI M3 89 t (nI (1 + 1))) t (trc (B + 1, upd f (B % 100) (nI (30 + act))) (askF E (lA1 (E l)) act o).1) := aft_I aM3 (Or.inr ⟨by decide, Nat.le_refl t⟩)
              obtain ⟨w1, w2, w3, w4⟩ := pop_ok (if act = 2 then (if fitB (lPt (E l)) (askF E (lA1 (E l)) act o).2.2 = true then (askF E (lA1 (E l)) act o).2.2 else 0) else if act = 3 then (askF E (lA1 (E l)) act o).2.2 + 1 else (askF E (lA1 (E l)) act o).2.2) aM4 e31b
              exact hS rfl _ w1 w2 w3 (w4.trans h31)
            · intro r0 M3 p1 p2
              rw [if_neg r0] at hF
              exact hF r0 M3 (aft_tr aMM2 (aft_le p1 (by omega : t ≤ t + 1))) p2
        · rw [if_neg g3] at hB hS hF
          have g4 : lK (E l) = 4 := by omega
          have a2 := h2 g4
          have e76 : (m_setI M 89 t (nI (0 + 1))).1 76 l = nI (lA1 (E l)) := by rw [mI_ne _ _ _ (by decide)]; exact s2 (by omega)
          refine l_it (act := act) (o := o) (k := lK (E l)) ht40 hl16 h24 h31 f1 f2 f3 f4 (by decide) s1 h0 (fun _ => hd) (fun h => by omega) (fun h => by omega) (fun _ => ?_)
          refine k_joi0 (d := d) hl16 aM1.2.2.1 (by omega) e24 (by omega) e76 ⟨_, rfl, rfl, ?_⟩
          have aM2' : aft (m_setI M 89 t (nI (0 + 1))) (mBeg (m_setI M 89 t (nI (0 + 1))) B (nI (40 + act))) (t + 1) (B + 1, upd f (B % 100) (nI (40 + act))) := aft_B (aft_rfl (t + 1) aM1.2.2)
          obtain ⟨q1, q2, q3, q4⟩ := push_ok (a := lA1 (E l)) (act := act) (o := o) aM2' (by rw [mBeg_f _ _ _ (by decide)]; exact e31)
          generalize hM2 : mPush (mBeg (m_setI M 89 t (nI (0 + 1))) B (nI (40 + act))) (t + 1) (nI (lA1 (E l))) (nI act) o = M2 at q1 q2 q3 q4 ⊢
          have fM2 := (frM_aft q1 (Nat.lt_succ_self t) fM1).1
          have lM2 := mLs_aft q1 lM1
          have aMM2 : aft M M2 t (B + 1, upd f (B % 100) (nI (40 + act))) := aft_tr aM1 (aft_le q1 (by omega))
          dsimp only at hB hS hF
          refine ih (lA1 (E l)) a1 (by omega) act o (t + 1) M2 (B + 1) (upd f (B % 100) (nI (40 + act))) ha (by omega) lM2 q1.2.2 ?_ q2 q3 q4 ?_ ?_
          · by_cases r0 : (askF E (lA1 (E l)) act o).2.1 = 0
            · rw [if_pos r0] at hB
              by_cases c1 : act ≠ 1 ∧ (act = 3 ∨ (askF E (lA1 (E l)) act o).2.2 ≠ 0)
              · rw [if_pos c1] at hB
                generalize askF E (lA2 (E l)) _ _ = r2 at hB
                by_cases r1 : r2.2.1 = 0
                · rw [if_pos r1, List.length_cons, List.length_append] at hB
                  omega
                · rw [if_neg r1, List.length_cons, List.length_append] at hB
                  omega
              · rw [if_neg c1, List.length_cons] at hB
                omega
            · rw [if_neg r0, List.length_cons] at hB
              omega
          · intro r0 M3 p1 p2 p3 p4
            rw [if_pos r0] at hB hS hF
            have fM3 := (frM_aft p1 (Nat.lt_succ_self t) fM2).1
            have aM3 := aft_tr aMM2 (aft_le p1 (by omega : t ≤ t + 1))
            have lM3 := mLs_aft p1 lM2
            obtain ⟨u1, -, u3, -⟩ := lM3 l hl
            refine l_it (act := act) (o := o) (ph := 1) (k := lK (E l)) ht40 hl16 p2 p4 fM3.1 fM3.2.1 fM3.2.2.1 fM3.2.2.2 (by decide) u1 h0 (fun h => by omega) (fun h => by omega) (fun h => by omega) (fun _ => ?_)
            have e24b : (m_setI M3 89 t (nI (1 + 1))).1 65 24 = nI (t + 1) := by rw [mI_ne _ _ _ (by decide)]; exact p2
            have e31b : (m_setI M3 89 t (nI (1 + 1))).1 65 31 = 0 := by rw [mI_ne _ _ _ (by decide), p4]
            have v1 : (m_setI M3 89 t (nI (1 + 1))).2.1 65 30 = (askF E (lA1 (E l)) act o).2.2 := p3
            have aM4 : aft M (m_setI M3 89 t (nI (1 + 1))) t (trc (B + 1, upd f (B % 100) (nI (40 + act))) (askF E (lA1 (E l)) act o).1) := aft_I aM3 (Or.inr ⟨by decide, Nat.le_refl t⟩)
            have lM4 := mLs_aft aM4 hs
            have fM4 := frM_ph fM3 (1 + 1)
            by_cases c1 : act ≠ 1 ∧ (act = 3 ∨ (askF E (lA1 (E l)) act o).2.2 ≠ 0)
            · rw [if_pos c1] at hB hS hF
              have e77 : (m_setI M3 89 t (nI (1 + 1))).1 77 l = nI (lA2 (E l)) := by rw [mI_ne _ _ _ (by decide)]; exact u3 g4
              refine k_joi1p (d := d) hl16 e24b (by omega) e77 ha (by rw [v1]; exact c1) ⟨_, rfl, rfl, ?_⟩
              rw [v1]
              generalize hM4 : m_setI M3 89 t (nI (1 + 1)) = M4 at e24b e31b v1 aM4 lM4 fM4 e77 ⊢
              have aK : aft M (m_setL M4 90 t (askF E (lA1 (E l)) act o).2.2) t (trc (B + 1, upd f (B % 100) (nI (40 + act))) (askF E (lA1 (E l)) act o).1) := aft_L aM4 (Or.inr ⟨by decide, Nat.le_refl t⟩)
              have fK : frM (m_setL M4 90 t (askF E (lA1 (E l)) act o).2.2) t l act o (1 + 1) := ⟨fM4.1, fM4.2.1, by rw [mL_at, if_neg (by omega)]; exact fM4.2.2.1, fM4.2.2.2⟩
              have kK : (m_setL M4 90 t (askF E (lA1 (E l)) act o).2.2).2.1 90 t = (askF E (lA1 (E l)) act o).2.2 := by rw [mL_at, if_pos ⟨rfl, rfl⟩]
              have lK2 := mLs_aft aK hs
              have kK24 : (m_setL M4 90 t (askF E (lA1 (E l)) act o).2.2).1 65 31 = 0 := e31b
              generalize hMK : m_setL M4 90 t (askF E (lA1 (E l)) act o).2.2 = MK at aK fK kK lK2 kK24 ⊢
              have tlen : (trc (B + 1, upd f (B % 100) (nI (40 + act))) (askF E (lA1 (E l)) act o).1).1 = B + 1 + (askF E (lA1 (E l)) act o).1.length := trc_len _ _
              generalize htr : trc (B + 1, upd f (B % 100) (nI (40 + act))) (askF E (lA1 (E l)) act o).1 = s3 at aK tlen
              obtain ⟨B3, f3'⟩ := s3
              dsimp only at tlen
              obtain ⟨q1b, q2b, q3b, q4b⟩ := push_ok (a := lA2 (E l)) (act := if act = 2 then 0 else act) (o := if act = 2 then (askF E (lA1 (E l)) act o).2.2 else o) (aft_rfl (t + 1) aK.2.2) kK24
              generalize hM5 : mPush MK (t + 1) (nI (lA2 (E l))) (nI (if act = 2 then 0 else act)) (if act = 2 then (askF E (lA1 (E l)) act o).2.2 else o) = M5 at q1b q2b q3b q4b ⊢
              have fM5 := frM_aft q1b (Nat.lt_succ_self t) fK
              have lM5 := mLs_aft q1b lK2
              have aMM5 : aft M M5 t (B3, f3') := aft_tr aK (aft_le q1b (by omega))
              have eapp : ∀ cs, trc (B, f) ((40 + act) :: ((askF E (lA1 (E l)) act o).1 ++ cs)) = trc (B3, f3') cs := by
                intro cs
                rw [trc_cons, trc_app, ← htr]
              refine ih (lA2 (E l)) a2 (by omega) (if act = 2 then 0 else act) _ (t + 1) M5 B3 f3' (by split <;> omega) (by omega) lM5 q1b.2.2 ?_ q2b q3b q4b ?_ ?_
              · by_cases r1 : (askF E (lA2 (E l)) (if act = 2 then 0 else act) (if act = 2 then (askF E (lA1 (E l)) act o).2.2 else o)).2.1 = 0
                · rw [if_pos r1, List.length_cons, List.length_append] at hB
                  omega
                · rw [if_neg r1, List.length_cons, List.length_append] at hB
                  omega
              · intro r1 M6 p1b p2b p3b p4b
                rw [if_pos r1] at hS
                have fM6 := frM_aft p1b (Nat.lt_succ_self t) fM5.1
                have aM6 := aft_tr aMM5 (aft_le p1b (by omega : t ≤ t + 1))
                have lM6 := mLs_aft p1b lM5
                obtain ⟨u1b, -⟩ := lM6 l hl
                refine l_it (act := act) (o := o) (ph := 2) (k := lK (E l)) ht40 hl16 p2b p4b fM6.1.1 fM6.1.2.1 fM6.1.2.2.1 fM6.1.2.2.2 (by decide) u1b h0 (fun h => by omega) (fun h => by omega) (fun h => by omega) (fun _ => ?_)
                have e24c : (m_setI M6 89 t (nI (2 + 1))).1 65 24 = nI (t + 1) := by rw [mI_ne _ _ _ (by decide)]; exact p2b
                have e31c : (m_setI M6 89 t (nI (2 + 1))).1 65 31 = M.1 65 31 := by rw [mI_ne _ _ _ (by decide), p4b, h31]
                refine k_joi2 (d := d) ht40 e24c ha c1.1 ⟨_, rfl, rfl, ?_⟩
                have w1 : (m_setI M6 89 t (nI (2 + 1))).2.1 65 30 = (askF E (lA2 (E l)) (if act = 2 then 0 else act) (if act = 2 then (askF E (lA1 (E l)) act o).2.2 else o)).2.2 := p3b
                have w2 : (m_setI M6 89 t (nI (2 + 1))).2.1 90 t = (askF E (lA1 (E l)) act o).2.2 := by
                  show M6.2.1 90 t = _
                  rw [fM6.2, fM5.2]
                  exact kK
                rw [w1, w2]
                have aM7 : aft M (m_setI M6 89 t (nI (2 + 1))) t _ := aft_I aM6 (Or.inr ⟨by decide, Nat.le_refl t⟩)
                obtain ⟨y1, y2, y3, y4⟩ := pop_ok (askJ act (askF E (lA1 (E l)) act o).2.2 (askF E (lA2 (E l)) (if act = 2 then 0 else act) (if act = 2 then (askF E (lA1 (E l)) act o).2.2 else o)).2.2) aM7 e31c
                rw [← eapp] at y1
                exact hS rfl _ y1 y2 y3 (y4.trans h31)
              · intro r1 M6 p1b p2b
                rw [if_neg r1] at hF
                have aM6 := aft_tr aMM5 (aft_le p1b (by omega : t ≤ t + 1))
                rw [← eapp] at aM6
                exact hF r1 M6 aM6 p2b
            · rw [if_neg c1] at hB hS hF
              obtain ⟨w1, w2, w3, w4⟩ := pop_ok (t := t) (askF E (lA1 (E l)) act o).2.2 aM4 (by rw [e31b, h31])
              refine k_joi1e (d := d) e24b ha (by rw [v1]; exact c1) ⟨_, rfl, rfl, ?_⟩
              rw [v1]
              exact hS rfl _ w1 w2 w3 (w4.trans h31)
          · intro r0 M3 p1 p2
            rw [if_neg r0] at hF
            exact hF r0 M3 (aft_tr aMM2 (aft_le p1 (by omega : t ≤ t + 1))) p2
set_option maxRecDepth 4000 in
theorem k_asks {M : mm_T} {l act B : Nat} {o : Int64} {f : Nat → Int32} (hE : lOK E n) (hl : l < n) (ha : act ≤ 3) (hs : mLs M E n) (tr : mTr M (B, f)) (hB : B + (askF E l act o).1.length + 2 < 2 ^ 31)
    (hS : (askF E l act o).2.1 = 0 → ∀ M', aft M M' 0 (trc (B, f) (askF E l act o).1) → M'.2.1 65 30 = (askF E l act o).2.2 → Q (some (.int 1)) (wm (sh0 ++ dy) M'))
    (hF : (askF E l act o).2.1 ≠ 0 → ∀ M', aft M M' 0 (trc (B, f) (askF E l act o).1) → M'.1 65 31 = nI (askF E l act o).2.1 → Q (some (.int 0)) (wm (sh0 ++ dy) M')) : sm_E L xs (d + 4) 171 [.ref 65, .int (nI l), .int (nI act), .long o] (wm (sh0 ++ dy) M) Q := by
  have hm := s_65 dy
  have hn := hE.1
  refine e_intro rfl rfl ?_
  have a0 : aft M (m_setI (m_setI M 65 24 0) 65 31 0) 0 (B, f) := aft_I (aft_I (aft_rfl 0 tr) (Or.inl ⟨rfl, Or.inl rfl⟩)) (Or.inl ⟨rfl, Or.inr rfl⟩)
  have e24 : (m_setI (m_setI M 65 24 0) 65 31 0).1 65 24 = nI 0 := by
    rw [mI_at, if_neg (by omega), mI_at, if_pos ⟨rfl, rfl⟩]
    rfl
  have e31 : (m_setI (m_setI M 65 24 0) 65 31 0).1 65 31 = 0 := by rw [mI_at, if_pos ⟨rfl, rfl⟩]
  generalize hM1 : m_setI (m_setI M 65 24 0) 65 31 0 = M1 at a0 e24 e31
  have q1 : aft M (mPush M1 0 (nI l) (nI act) o) 0 (B, f) := aft_I (aft_I (aft_L (aft_I (aft_I a0 (Or.inr ⟨by decide, Nat.le_refl _⟩)) (Or.inr ⟨by decide, Nat.le_refl _⟩)) (Or.inr ⟨by decide, Nat.le_refl _⟩)) (Or.inr ⟨by decide, Nat.le_refl _⟩)) (Or.inl ⟨rfl, Or.inl rfl⟩)
  have q2 : (mPush M1 0 (nI l) (nI act) o).1 65 24 = nI (0 + 1) := by
    unfold mPush
    rw [mI_at, if_pos ⟨rfl, rfl⟩]
  have q3 : (mPush M1 0 (nI l) (nI act) o).1 65 31 = 0 := by
    unfold mPush
    rw [mI_at, if_neg (by omega), mI_at, if_neg (by omega), mL_1, mI_at, if_neg (by omega), mI_at, if_neg (by omega)]
    exact e31
  have q4 : frM (mPush M1 0 (nI l) (nI act) o) 0 l act o 0 := by
    unfold mPush frM
    refine ⟨?_, ?_, ?_, ?_⟩
    · rw [mI_at, if_neg (by omega), mI_at, if_neg (by omega), mL_1, mI_at, if_neg (by omega), mI_at, if_pos ⟨rfl, rfl⟩]
    · rw [mI_at, if_neg (by omega), mI_at, if_neg (by omega), mL_1, mI_at, if_pos ⟨rfl, rfl⟩]
    · rw [mI_2, mI_2, mL_at, if_pos ⟨rfl, rfl⟩]
    · rw [mI_at, if_neg (by omega), mI_at, if_pos ⟨rfl, rfl⟩]
      rfl
  have fin : hAsk L xs d dy Q (nI l) (nI act) o (mPush M1 0 (nI l) (nI act) o) := by
    refine l_ask hE l hl act o 0 _ B f ha (by omega) (mLs_aft q1 hs) q1.2.2 hB q2 q3 q4 ?_ ?_
    · intro r0 M' p1 p2 p3 p4
      have fin := hS r0 M' (aft_tr q1 p1) p3
      have z : M'.1 65 24 ≤ 0 := by rw [p2]; decide
      have z1 : M'.1 65 31 = 0 := p4
      repeat' (first | refine x_kcg rfl ?_ | refine x_incg rfl rfl ?_ | refine x_opp rfl rfl ?_ | refine x_go rfl ?_ | (refine a_at isGf rfl ?_; first | refine m_getg hm rfl rfl rfl ?_) | (refine a_at isPf rfl ?_; first | refine a_putI hm rfl rfl rfl ?_ | refine a_putL hm rfl rfl rfl ?_) | (refine a_at isAr rfl ?_; first | refine a_iald hm rfl rfl ?_ ?_ | refine a_bald hm rfl rfl ?_ ?_ | refine a_lald hm rfl rfl ?_ ?_ | refine a_iast hm rfl rfl ?_ ?_ | refine a_last hm rfl rfl ?_ ?_ | refine a_bast hm rfl rfl ?_ ?_ ?_) | (refine a_at isIf rfl ?_; first | (refine a_ifT rfl rfl br_eqz (by assumption) ?_) | (refine a_ifF rfl rfl br_eqz (by assumption) ?_) | (refine a_ifT rfl rfl br_nez (by assumption) ?_) | (refine a_ifF rfl rfl br_nez (by assumption) ?_) | (refine a_ifT rfl rfl br_eqz (nt_f (by assumption)) ?_) | (refine a_ifF rfl rfl br_eqz (tnf (by assumption)) ?_) | (refine a_ifF rfl rfl br_nez (fnt (by assumption)) ?_) | (refine a_if rfl rfl br_eqz (fun _ => ?_) (fun _ => ?_)) | (refine a_if rfl rfl br_nez (fun _ => ?_) (fun _ => ?_)) | (refine a_ifF rfl rfl br_ne (fun h => h (by assumption)) ?_) | (refine a_ifT rfl rfl br_eq (by assumption) ?_) | (refine a_ifF rfl rfl br_eq (by assumption) ?_) | (refine a_ifT rfl rfl br_ne (by assumption) ?_) | (refine a_ifF rfl rfl br_ne (by assumption) ?_) | (refine a_ifT rfl rfl br_lt (by assumption) ?_) | (refine a_ifF rfl rfl br_lt (by assumption) ?_) | (refine a_ifT rfl rfl br_ge (by assumption) ?_) | (refine a_ifF rfl rfl br_ge (by assumption) ?_) | (refine a_ifT rfl rfl br_gt (by assumption) ?_) | (refine a_ifF rfl rfl br_gt (by assumption) ?_) | (refine a_ifT rfl rfl br_le (by assumption) ?_) | (refine a_ifF rfl rfl br_le (by assumption) ?_) | (refine a_if rfl rfl br_eq (fun _ => ?_) (fun _ => ?_)) | (refine a_if rfl rfl br_ne (fun _ => ?_) (fun _ => ?_)) | (refine a_if rfl rfl br_lt (fun _ => ?_) (fun _ => ?_)) | (refine a_if rfl rfl br_ge (fun _ => ?_) (fun _ => ?_)) | (refine a_if rfl rfl br_gt (fun _ => ?_) (fun _ => ?_)) | (refine a_if rfl rfl br_le (fun _ => ?_) (fun _ => ?_))) | (refine a_at isIc rfl ?_; first | (refine a_icF rfl rfl br_ne (fun h => h (by assumption)) ?_) | (refine a_icT rfl rfl br_eq (by assumption) ?_) | (refine a_icF rfl rfl br_eq (by assumption) ?_) | (refine a_icT rfl rfl br_ne (by assumption) ?_) | (refine a_icF rfl rfl br_ne (by assumption) ?_) | (refine a_icT rfl rfl br_lt (by assumption) ?_) | (refine a_icF rfl rfl br_lt (by assumption) ?_) | (refine a_icT rfl rfl br_ge (by assumption) ?_) | (refine a_icF rfl rfl br_ge (by assumption) ?_) | (refine a_icT rfl rfl br_gt (by assumption) ?_) | (refine a_icF rfl rfl br_gt (by assumption) ?_) | (refine a_icT rfl rfl br_le (by assumption) ?_) | (refine a_icF rfl rfl br_le (by assumption) ?_) | (refine a_ic rfl rfl br_eq (fun _ => ?_) (fun _ => ?_)) | (refine a_ic rfl rfl br_ne (fun _ => ?_) (fun _ => ?_)) | (refine a_ic rfl rfl br_lt (fun _ => ?_) (fun _ => ?_)) | (refine a_ic rfl rfl br_ge (fun _ => ?_) (fun _ => ?_)) | (refine a_ic rfl rfl br_gt (fun _ => ?_) (fun _ => ?_)) | (refine a_ic rfl rfl br_le (fun _ => ?_) (fun _ => ?_))) | (refine a_at isRt rfl ?_; first | refine a_iret rfl rfl rfl ?_ | refine a_zret rfl rfl ?_ ?_ | refine a_lret rfl rfl ?_ | refine a_ret rfl rfl ?_))
      · exact Or.inr rfl
      · exact fin
    · intro r0 M' p1 p2
      have fin := hF r0 M' (aft_tr q1 p1) p2
      have z1 : ¬ M'.1 65 31 = 0 := by
        rw [p2]
        intro e
        have hlt : (askF E l act o).2.1 < 2 ^ 31 := by
          have := askF_f hE l hl act o
          omega
        exact r0 ((nI_eq (b := 0) hlt (by decide)).mp e)
      by_cases z : M'.1 65 24 ≤ 0
      · repeat' (first | refine x_kcg rfl ?_ | refine x_incg rfl rfl ?_ | refine x_opp rfl rfl ?_ | refine x_go rfl ?_ | (refine a_at isGf rfl ?_; first | refine m_getg hm rfl rfl rfl ?_) | (refine a_at isPf rfl ?_; first | refine a_putI hm rfl rfl rfl ?_ | refine a_putL hm rfl rfl rfl ?_) | (refine a_at isAr rfl ?_; first | refine a_iald hm rfl rfl ?_ ?_ | refine a_bald hm rfl rfl ?_ ?_ | refine a_lald hm rfl rfl ?_ ?_ | refine a_iast hm rfl rfl ?_ ?_ | refine a_last hm rfl rfl ?_ ?_ | refine a_bast hm rfl rfl ?_ ?_ ?_) | (refine a_at isIf rfl ?_; first | (refine a_ifT rfl rfl br_eqz (by assumption) ?_) | (refine a_ifF rfl rfl br_eqz (by assumption) ?_) | (refine a_ifT rfl rfl br_nez (by assumption) ?_) | (refine a_ifF rfl rfl br_nez (by assumption) ?_) | (refine a_ifT rfl rfl br_eqz (nt_f (by assumption)) ?_) | (refine a_ifF rfl rfl br_eqz (tnf (by assumption)) ?_) | (refine a_ifF rfl rfl br_nez (fnt (by assumption)) ?_) | (refine a_if rfl rfl br_eqz (fun _ => ?_) (fun _ => ?_)) | (refine a_if rfl rfl br_nez (fun _ => ?_) (fun _ => ?_)) | (refine a_ifF rfl rfl br_ne (fun h => h (by assumption)) ?_) | (refine a_ifT rfl rfl br_eq (by assumption) ?_) | (refine a_ifF rfl rfl br_eq (by assumption) ?_) | (refine a_ifT rfl rfl br_ne (by assumption) ?_) | (refine a_ifF rfl rfl br_ne (by assumption) ?_) | (refine a_ifT rfl rfl br_lt (by assumption) ?_) | (refine a_ifF rfl rfl br_lt (by assumption) ?_) | (refine a_ifT rfl rfl br_ge (by assumption) ?_) | (refine a_ifF rfl rfl br_ge (by assumption) ?_) | (refine a_ifT rfl rfl br_gt (by assumption) ?_) | (refine a_ifF rfl rfl br_gt (by assumption) ?_) | (refine a_ifT rfl rfl br_le (by assumption) ?_) | (refine a_ifF rfl rfl br_le (by assumption) ?_) | (refine a_if rfl rfl br_eq (fun _ => ?_) (fun _ => ?_)) | (refine a_if rfl rfl br_ne (fun _ => ?_) (fun _ => ?_)) | (refine a_if rfl rfl br_lt (fun _ => ?_) (fun _ => ?_)) | (refine a_if rfl rfl br_ge (fun _ => ?_) (fun _ => ?_)) | (refine a_if rfl rfl br_gt (fun _ => ?_) (fun _ => ?_)) | (refine a_if rfl rfl br_le (fun _ => ?_) (fun _ => ?_))) | (refine a_at isIc rfl ?_; first | (refine a_icF rfl rfl br_ne (fun h => h (by assumption)) ?_) | (refine a_icT rfl rfl br_eq (by assumption) ?_) | (refine a_icF rfl rfl br_eq (by assumption) ?_) | (refine a_icT rfl rfl br_ne (by assumption) ?_) | (refine a_icF rfl rfl br_ne (by assumption) ?_) | (refine a_icT rfl rfl br_lt (by assumption) ?_) | (refine a_icF rfl rfl br_lt (by assumption) ?_) | (refine a_icT rfl rfl br_ge (by assumption) ?_) | (refine a_icF rfl rfl br_ge (by assumption) ?_) | (refine a_icT rfl rfl br_gt (by assumption) ?_) | (refine a_icF rfl rfl br_gt (by assumption) ?_) | (refine a_icT rfl rfl br_le (by assumption) ?_) | (refine a_icF rfl rfl br_le (by assumption) ?_) | (refine a_ic rfl rfl br_eq (fun _ => ?_) (fun _ => ?_)) | (refine a_ic rfl rfl br_ne (fun _ => ?_) (fun _ => ?_)) | (refine a_ic rfl rfl br_lt (fun _ => ?_) (fun _ => ?_)) | (refine a_ic rfl rfl br_ge (fun _ => ?_) (fun _ => ?_)) | (refine a_ic rfl rfl br_gt (fun _ => ?_) (fun _ => ?_)) | (refine a_ic rfl rfl br_le (fun _ => ?_) (fun _ => ?_))) | (refine a_at isRt rfl ?_; first | refine a_iret rfl rfl rfl ?_ | refine a_zret rfl rfl ?_ ?_ | refine a_lret rfl rfl ?_ | refine a_ret rfl rfl ?_))
        · exact Or.inl rfl
        · exact fin
      · repeat' (first | refine x_kcg rfl ?_ | refine x_incg rfl rfl ?_ | refine x_opp rfl rfl ?_ | refine x_go rfl ?_ | (refine a_at isGf rfl ?_; first | refine m_getg hm rfl rfl rfl ?_) | (refine a_at isPf rfl ?_; first | refine a_putI hm rfl rfl rfl ?_ | refine a_putL hm rfl rfl rfl ?_) | (refine a_at isAr rfl ?_; first | refine a_iald hm rfl rfl ?_ ?_ | refine a_bald hm rfl rfl ?_ ?_ | refine a_lald hm rfl rfl ?_ ?_ | refine a_iast hm rfl rfl ?_ ?_ | refine a_last hm rfl rfl ?_ ?_ | refine a_bast hm rfl rfl ?_ ?_ ?_) | (refine a_at isIf rfl ?_; first | (refine a_ifT rfl rfl br_eqz (by assumption) ?_) | (refine a_ifF rfl rfl br_eqz (by assumption) ?_) | (refine a_ifT rfl rfl br_nez (by assumption) ?_) | (refine a_ifF rfl rfl br_nez (by assumption) ?_) | (refine a_ifT rfl rfl br_eqz (nt_f (by assumption)) ?_) | (refine a_ifF rfl rfl br_eqz (tnf (by assumption)) ?_) | (refine a_ifF rfl rfl br_nez (fnt (by assumption)) ?_) | (refine a_if rfl rfl br_eqz (fun _ => ?_) (fun _ => ?_)) | (refine a_if rfl rfl br_nez (fun _ => ?_) (fun _ => ?_)) | (refine a_ifF rfl rfl br_ne (fun h => h (by assumption)) ?_) | (refine a_ifT rfl rfl br_eq (by assumption) ?_) | (refine a_ifF rfl rfl br_eq (by assumption) ?_) | (refine a_ifT rfl rfl br_ne (by assumption) ?_) | (refine a_ifF rfl rfl br_ne (by assumption) ?_) | (refine a_ifT rfl rfl br_lt (by assumption) ?_) | (refine a_ifF rfl rfl br_lt (by assumption) ?_) | (refine a_ifT rfl rfl br_ge (by assumption) ?_) | (refine a_ifF rfl rfl br_ge (by assumption) ?_) | (refine a_ifT rfl rfl br_gt (by assumption) ?_) | (refine a_ifF rfl rfl br_gt (by assumption) ?_) | (refine a_ifT rfl rfl br_le (by assumption) ?_) | (refine a_ifF rfl rfl br_le (by assumption) ?_) | (refine a_if rfl rfl br_eq (fun _ => ?_) (fun _ => ?_)) | (refine a_if rfl rfl br_ne (fun _ => ?_) (fun _ => ?_)) | (refine a_if rfl rfl br_lt (fun _ => ?_) (fun _ => ?_)) | (refine a_if rfl rfl br_ge (fun _ => ?_) (fun _ => ?_)) | (refine a_if rfl rfl br_gt (fun _ => ?_) (fun _ => ?_)) | (refine a_if rfl rfl br_le (fun _ => ?_) (fun _ => ?_))) | (refine a_at isIc rfl ?_; first | (refine a_icF rfl rfl br_ne (fun h => h (by assumption)) ?_) | (refine a_icT rfl rfl br_eq (by assumption) ?_) | (refine a_icF rfl rfl br_eq (by assumption) ?_) | (refine a_icT rfl rfl br_ne (by assumption) ?_) | (refine a_icF rfl rfl br_ne (by assumption) ?_) | (refine a_icT rfl rfl br_lt (by assumption) ?_) | (refine a_icF rfl rfl br_lt (by assumption) ?_) | (refine a_icT rfl rfl br_ge (by assumption) ?_) | (refine a_icF rfl rfl br_ge (by assumption) ?_) | (refine a_icT rfl rfl br_gt (by assumption) ?_) | (refine a_icF rfl rfl br_gt (by assumption) ?_) | (refine a_icT rfl rfl br_le (by assumption) ?_) | (refine a_icF rfl rfl br_le (by assumption) ?_) | (refine a_ic rfl rfl br_eq (fun _ => ?_) (fun _ => ?_)) | (refine a_ic rfl rfl br_ne (fun _ => ?_) (fun _ => ?_)) | (refine a_ic rfl rfl br_lt (fun _ => ?_) (fun _ => ?_)) | (refine a_ic rfl rfl br_ge (fun _ => ?_) (fun _ => ?_)) | (refine a_ic rfl rfl br_gt (fun _ => ?_) (fun _ => ?_)) | (refine a_ic rfl rfl br_le (fun _ => ?_) (fun _ => ?_))) | (refine a_at isRt rfl ?_; first | refine a_iret rfl rfl rfl ?_ | refine a_zret rfl rfl ?_ ?_ | refine a_lret rfl rfl ?_ | refine a_ret rfl rfl ?_))
        · exact Or.inl rfl
        · exact fin
  repeat (first | refine x_kcg rfl ?_ | refine x_opp rfl rfl ?_ | refine x_go rfl ?_)
  refine m_putI hm rfl ?_
  repeat (first | refine x_kcg rfl ?_ | refine x_opp rfl rfl ?_ | refine x_go rfl ?_)
  refine m_putI hm rfl ?_
  repeat (first | refine x_kcg rfl ?_ | refine x_opp rfl rfl ?_ | refine x_go rfl ?_)
  rw [show m_setI (m_setI M 65 (3168 / 4 % 128) 0) 65 (3196 / 4 % 128) 0 = M1 from hM1]
  refine m_callV hm rfl rfl rfl (k_push e24 (by decide) ?_)
  refine x_fall ?_
  exact fin
end MT3
