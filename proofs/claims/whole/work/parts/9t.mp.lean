/-! pairs: a grid is mirrored -/
section MP
variable {L : Nat} {xs : Nat → Int32} {t d : Nat} {dy : List sh_T} {M : mm_T} {Q : Option Value → sm_W → Prop} {n G : Nat}
set_option maxRecDepth 4000 in
theorem p_mirror {g : Int32} (h : rR t dy M) : pr L xs t dy M 135 225 [.int g] := by
  have hR := h; obtain ⟨s, E, P, w, n, hG, hN, hL, hS, hQ⟩ := h; have z0 : (0 : Int32) = 0 := rfl; have z1 : (0 : Int32) ≤ 0 := (by decide); have z11 : ¬ (1 : Int32) = 0 := (by decide); have z12 : ¬ (1 : Int32) ≤ 0 := (by decide); obtain ⟨M1, hM1⟩ : ∃ M1, m_setI M 1 5 0 = M1 := ⟨_, rfl⟩; have g1 : rG M1 n := hM1 ▸ rG_c hG; obtain ⟨M2, hM2⟩ : ∃ M2, m_setI M1 65 19 0 = M2 := ⟨_, rfl⟩; have g2 : rG M2 n := hM2 ▸ rG_z g1
  unfold pr; refine e_intro rfl rfl ?_
  by_cases hg : gRow 4 g = true
  · obtain ⟨G, hG4, rfl⟩ := gRow4 hg
    have hgr := g1.2.1 G hG4
    have gs := gsh_at dy G hG4
    obtain ⟨sg, -⟩ := gsh_at dy G hG4
    by_cases hb : M1.1 66 G = 0 ∨ (¬ M1.1 66 G = 0 ∧ lkG M1 G = true)
    · have g3 : rG (m_setI (nFind M1 1 3 (nI 1)) 65 19 0) n := rG_z (rG_f g1)
      have hb3 : (m_setI (nFind M1 1 3 (nI 1)) 65 19 0).1 66 G = 0 ∨ (¬ (m_setI (nFind M1 1 3 (nI 1)) 65 19 0).1 66 G = 0 ∧ lkG (m_setI (nFind M1 1 3 (nI 1)) 65 19 0) G = true) := hb
      refine x_opp rfl rfl ?_
      refine m_getg (s_0 dy) rfl rfl rfl ?_
      refine a_callV (s_1 dy) rfl rfl rfl rfl (c_clear (s_1 dy) ?_)
      refine x_opp rfl rfl ?_
      refine x_opp rfl rfl ?_
      rw [hM1]
      refine a_callV (s_0 dy) rfl rfl rfl rfl (c_tref1 g1 hG4 hb ?_)
      refine x_opp rfl rfl ?_
      refine x_opp rfl rfl ?_
      refine a_ifF rfl rfl br_eq (by decide) ?_
      refine x_opp rfl rfl ?_
      refine a_iret rfl rfl rfl ?_
      refine ⟨_, dy, _, rfl, rfl, ?_⟩; refine e_intro rfl rfl ?_
      refine x_opp rfl rfl ?_
      refine x_kcg rfl ?_
      refine a_putJ 19 (s_65 dy) rfl rfl rfl rfl ?_
      refine x_opp rfl rfl ?_
      refine a_callS rfl rfl rfl rfl (k_isGrid ?_)
      refine a_ifT rfl rfl br_nez (by first | exact hg | exact nt_f hg | exact tnf hg | exact fnt hg | exact Int32.not_lt.mp hg | exact Int32.not_le.mp hg | exact Int32.not_lt.mpr hg | exact Int32.not_le.mpr hg) ?_
      refine x_opp rfl rfl ?_
      refine x_opp rfl rfl ?_
      refine a_callV (s_65 dy) rfl rfl rfl rfl (k_unfit1 g3 hG4 hb3 ?_)
      refine x_opp rfl rfl ?_
      refine x_opp rfl rfl ?_
      refine a_ifF rfl rfl br_ge (by decide) ?_
      refine x_opp rfl rfl ?_
      refine a_iret rfl rfl rfl ?_
      subst hM1
      exact ⟨rfl, _, rfl, R_fd (k := 1) (by decide) hR⟩
    · have th : ¬ M1.1 66 G = 0 := fun q => hb (Or.inl q)
      have lk : lkG M1 G = false := nt_f (fun q => hb (Or.inr ⟨th, q⟩))
      cases hc : ctG M1 G with
      | true =>
        have lk2 : lkG M2 G = false := by subst hM2; exact lk
        have hc2 : ctG M2 G = true := by subst hM2; exact hc
        have th2 : ¬ M2.1 66 G = 0 := by subst hM2; exact th
        refine x_opp rfl rfl ?_
        refine m_getg (s_0 dy) rfl rfl rfl ?_
        refine a_callV (s_1 dy) rfl rfl rfl rfl (c_clear (s_1 dy) ?_)
        refine x_opp rfl rfl ?_
        refine x_opp rfl rfl ?_
        rw [hM1]
        refine a_callV (s_0 dy) rfl rfl rfl rfl (c_tref2 g1 hG4 th lk hc ?_)
        refine x_opp rfl rfl ?_
        refine x_opp rfl rfl ?_
        refine a_ifF rfl rfl br_eq (by decide) ?_
        refine x_opp rfl rfl ?_
        refine a_iret rfl rfl rfl ?_
        refine ⟨_, dy, _, rfl, rfl, ?_⟩; refine e_intro rfl rfl ?_
        refine x_opp rfl rfl ?_
        refine x_kcg rfl ?_
        refine a_putJ 19 (s_65 dy) rfl rfl rfl rfl ?_
        refine x_opp rfl rfl ?_
        refine a_callS rfl rfl rfl rfl (k_isGrid ?_)
        rw [hM2]
        refine a_ifT rfl rfl br_nez (by first | exact hg | exact nt_f hg | exact tnf hg | exact fnt hg | exact Int32.not_lt.mp hg | exact Int32.not_le.mp hg | exact Int32.not_lt.mpr hg | exact Int32.not_le.mpr hg) ?_
        refine x_opp rfl rfl ?_
        refine x_opp rfl rfl ?_
        refine a_callV (s_65 dy) rfl rfl rfl rfl (k_unfit2 g2 hG4 th2 lk2 hc2 ?_)
        refine x_opp rfl rfl ?_
        refine x_opp rfl rfl ?_
        refine a_ifF rfl rfl br_ge (by decide) ?_
        refine x_opp rfl rfl ?_
        refine a_iret rfl rfl rfl ?_
        subst hM2; subst hM1; exact ⟨rfl, _, rfl, R_cl hR⟩
      | false =>
        obtain ⟨H, W, b1, b2, b3, b4, b5, b6, gk, mk, v1, v2, a1, a2⟩ := rG_v g1 hG4
        obtain ⟨ca, hca⟩ := rG_ca g1 hG4
        refine x_opp rfl rfl ?_
        refine m_getg (s_0 dy) rfl rfl rfl ?_
        refine a_callV (s_1 dy) rfl rfl rfl rfl (c_clear (s_1 dy) ?_)
        refine x_opp rfl rfl ?_
        refine x_opp rfl rfl ?_
        rw [hM1]
        refine a_callV (s_0 dy) rfl rfl rfl rfl (c_tref2 g1 hG4 th lk hc ?_)
        refine x_opp rfl rfl ?_
        refine x_opp rfl rfl ?_
        refine a_ifT rfl rfl br_eq (by decide) ?_
        refine x_opp rfl rfl ?_
        refine m_getg (s_0 dy) rfl rfl rfl ?_
        refine x_opp rfl rfl ?_
        refine a_gr hG4 rfl rfl hgr ?_
        refine a_callV sg rfl rfl rfl rfl (c_swap gs b3 b1 b5 b2 hca (fun M3 c1 c2 c3 c4 c5 c6 c7 c8 => ?_))
        refine x_opp rfl rfl ?_
        refine x_kcg rfl ?_
        refine a_putJ 11 (s_0 dy) rfl rfl rfl rfl ?_
        refine x_opp rfl rfl ?_
        refine m_getg (s_0 dy) rfl rfl rfl ?_
        refine x_opp rfl rfl ?_
        refine a_gr hG4 rfl rfl (by rw [show (m_setI M3 0 11 0).2.2 = M1.2.2 from congrArg Prod.snd c1]; exact hgr) ?_
        refine m_getg sg rfl rfl rfl ?_
        rw [show (m_setI M3 0 11 0).1 (45 + 5 * G) 6 = nI W from (by rw [mI_ne _ _ _ (by omega)]; exact c6)]
        refine a_iret rfl rfl rfl ?_
        refine ⟨_, dy, _, rfl, rfl, ?_⟩; refine e_intro rfl rfl ?_
        obtain ⟨M4, hM4⟩ : ∃ M4, m_setI (m_setI M3 0 11 0) 65 19 0 = M4 := ⟨_, rfl⟩
        have f4 : ∀ a i, 66 ≤ a → M4.1 a i = M1.1 a i := fun a i x => by
          rw [← hM4, mI_ne _ _ _ (by omega), mI_ne _ _ _ (by omega), c2 a (by omega) (by omega) (by omega) (by omega)]
        have fL : mL M4 G = mL M1 G := funext fun i => f4 69 _ (by decide)
        have ms4 : msOK M4 := fun s hs => by
          rw [f4 70 _ (by decide), f4 71 _ (by decide), f4 72 _ (by decide)]
          exact g1.1 s hs
        -- the reference's own view is as it was
        have un : ∀ Q', Q' (some (.int 0)) (wm (sh0 ++ dy) M4) → sm_E L xs 99 223 [.ref 65, .int (nI G)] (wm (sh0 ++ dy) M4) Q' := by
          intro Q' hq'
          have lk4 : anyB (gLack (mL M4 G)) H = false := by
            rw [fL]
            unfold lkG at lk
            rw [b4, nI_clamp (by omega)] at lk
            exact lk
          have ct4 : anyB (gCut (mL M4 G) (M4.1 68 G)) H = false := by
            rw [fL, f4 68 _ (by decide)]
            unfold ctG at hc
            rw [b4, nI_clamp (by omega)] at hc
            exact hc
          have th4 : ¬ M4.1 66 G = 0 := by rw [f4 66 _ (by decide)]; exact th
          have mk4 : mgOK M4 G := mgOK_fr (fun a i x _ => f4 a i x) mk
          refine e_intro rfl rfl ?_
          refine x_opp rfl rfl ?_
          refine m_getg (s_65 dy) rfl rfl rfl ?_
          refine x_opp rfl rfl ?_
          refine a_baldN (s_66 dy) (k := G) rfl rfl rfl (by omega) (by decide) ?_
          refine a_ifT rfl rfl br_ne (by first | exact th4 | exact nt_f th4 | exact tnf th4 | exact fnt th4 | exact Int32.not_lt.mp th4 | exact Int32.not_le.mp th4 | exact Int32.not_lt.mpr th4 | exact Int32.not_le.mpr th4) ?_
          refine x_kcg rfl ?_
          refine x_opp rfl rfl ?_
          refine x_kcg rfl ?_
          refine x_opp rfl rfl ?_
          refine x_kcg rfl ?_
          refine x_opp rfl rfl ?_
          refine x_go rfl ?_
          refine x_lvs [(0, .ref 65), (1, .int (nI G)), (2, .int 0), (3, .int 0), (4, .int (nI 0))] rfl rfl rfl ⟨rfl, rfl, rfl, rfl, rfl, trivial⟩ ?_
          refine l_unfit (d := 97) hG4 mk4 (by rw [f4 67 _ (by decide)]; exact b4) b1 ?_
          rw [lk4, ct4]
          refine x_opp rfl rfl ?_
          refine a_ifT rfl rfl br_eqz (by first | exact rfl | exact nt_f rfl | exact tnf rfl | exact fnt rfl | exact Int32.not_lt.mp rfl | exact Int32.not_le.mp rfl | exact Int32.not_lt.mpr rfl | exact Int32.not_le.mpr rfl) ?_
          refine x_opp rfl rfl ?_
          refine a_ifT rfl rfl br_eqz (by first | exact rfl | exact nt_f rfl | exact tnf rfl | exact fnt rfl | exact Int32.not_lt.mp rfl | exact Int32.not_le.mp rfl | exact Int32.not_lt.mpr rfl | exact Int32.not_le.mpr rfl) ?_
          refine x_kcg rfl ?_
          refine x_go rfl ?_
          refine a_iret rfl rfl rfl ?_
          exact hq'
        refine x_opp rfl rfl ?_
        refine x_kcg rfl ?_
        refine a_putJ 19 (s_65 dy) rfl rfl rfl rfl ?_
        refine x_opp rfl rfl ?_
        refine a_callS rfl rfl rfl rfl (k_isGrid ?_)
        rw [hM4]
        refine a_ifT rfl rfl br_nez (by first | exact hg | exact nt_f hg | exact tnf hg | exact fnt hg | exact Int32.not_lt.mp hg | exact Int32.not_le.mp hg | exact Int32.not_lt.mpr hg | exact Int32.not_le.mpr hg) ?_
        refine x_opp rfl rfl ?_
        refine x_opp rfl rfl ?_
        refine a_callV (s_65 dy) rfl rfl rfl rfl (un _ ?_)
        refine x_opp rfl rfl ?_
        refine x_opp rfl rfl ?_
        refine a_ifT rfl rfl br_ge (by decide) ?_
        refine x_opp rfl rfl ?_
        refine x_opp rfl rfl ?_
        refine a_callV (s_65 dy) rfl rfl rfl rfl (k_hold hG4 ms4 (fun M5 h5 p5 => ?_))
        refine x_opp rfl rfl ?_
        refine x_opp rfl rfl ?_
        refine a_callV (s_65 dy) rfl rfl rfl rfl (k_clear hG4 (fun M6 z6 q6 => ?_))
        refine x_opp rfl rfl ?_
        refine m_getg (s_65 dy) rfl rfl rfl ?_
        refine x_opp rfl rfl ?_
        have e67 : M6.1 67 G = nI H := by rw [q6.2.1 67 (by decide), p5.2 67 (by decide), f4 67 _ (by decide)]; exact b4
        have e68 : M6.1 68 G = nI W := by rw [q6.2.1 68 (by decide), p5.2 68 (by decide), f4 68 _ (by decide)]; exact b6
        refine a_ialdN (s_68 dy) (k := G) rfl rfl rfl (by omega) (by decide) ?_
        refine x_opp rfl rfl ?_
        refine x_kcg rfl ?_
        refine x_opp rfl rfl ?_
        refine x_go rfl ?_
        rw [e68]
        refine x_lvs [(0, .ref 65), (1, .int (nI G)), (3, .int (nI W)), (4, .int (nI 0))] rfl rfl rfl ⟨rfl, rfl, rfl, rfl, trivial⟩ ?_
        refine l_miM (hs := fun s => M1.1 70 (49 * G + s)) (hr := fun s => M1.1 71 (49 * G + s)) (hu := fun s => M1.1 72 (49 * G + s)) hG4 b1 b2 e67 (fun s hs => ?_) (fun s hs => g1.1 (49 * G + s) (by omega)) (fun M7 q7 ms7 tm7 => ?_) (msG_z z6) (fun a b ha hb => ?_)
        · rw [q6.2.1 111 (by decide), q6.2.1 112 (by decide), q6.2.1 113 (by decide), (h5 s hs).1, (h5 s hs).2.1, (h5 s hs).2.2, f4 70 _ (by decide), f4 71 _ (by decide), f4 72 _ (by decide)]
          exact ⟨rfl, rfl, rfl⟩
        · refine x_opp rfl rfl ?_
          refine a_callV (s_65 dy) rfl rfl rfl rfl (k_changed ?_)
          refine x_opp rfl rfl ?_
          refine a_iret rfl rfl rfl ?_
          refine ⟨rfl, _, rfl, ?_⟩
          subst hM1
          refine R_mirror (M3 := M3) (M4 := M4) (M5 := M7) hN hL hQ hG hG4 b1 b2 b4 b6 hc (fun s hs => by have := hca s hs; rw [mI_ne _ _ _ (by omega)] at this; exact this) c1 c2 c3 c4 c5 c6 c7 c8 hM4.symm (fun a ha => ?_) ?_ (fun a s x y z => ?_) ms7 tm7 rfl
          · rw [q7.2.1 a (by omega), q6.2.1 a (by omega), p5.2 a (by omega)]
          · rw [q7.1, q6.1, p5.1]
          · rw [q7.2.2 a s z, q6.2.2 a s z, p5.2 a (by omega)]
        · have p : a * 7 + (W - 1 - b) < 49 := by omega
          obtain ⟨y1, y2, y3⟩ := z6 _ p
          refine ⟨?_, ?_, ?_⟩
          · rw [y1, if_neg (by omega)]
          · rw [y3, if_neg (by omega)]
          · rw [y2, if_neg (fun q => absurd q.2.1 (by omega))]
  · refine x_opp rfl rfl ?_
    refine m_getg (s_0 dy) rfl rfl rfl ?_
    refine a_callV (s_1 dy) rfl rfl rfl rfl (c_clear (s_1 dy) ?_)
    refine x_opp rfl rfl ?_
    refine x_opp rfl rfl ?_
    rw [hM1]
    refine a_callV (s_0 dy) rfl rfl rfl rfl (c_tref0 hg ?_)
    refine x_opp rfl rfl ?_
    refine x_opp rfl rfl ?_
    refine a_ifF rfl rfl br_eq (by decide) ?_
    refine x_opp rfl rfl ?_
    refine a_iret rfl rfl rfl ?_
    refine ⟨_, dy, _, rfl, rfl, ?_⟩; refine e_intro rfl rfl ?_
    refine x_opp rfl rfl ?_
    refine x_kcg rfl ?_
    refine a_putJ 19 (s_65 dy) rfl rfl rfl rfl ?_
    refine x_opp rfl rfl ?_
    refine a_callS rfl rfl rfl rfl (k_isGrid ?_)
    rw [hM2]
    refine a_ifF rfl rfl br_nez (by first | exact hg | exact nt_f hg | exact tnf hg | exact fnt hg | exact Int32.not_lt.mp hg | exact Int32.not_le.mp hg | exact Int32.not_lt.mpr hg | exact Int32.not_le.mpr hg) ?_
    refine x_kcg rfl ?_
    refine a_iret rfl rfl rfl ?_
    subst hM2; subst hM1; exact ⟨rfl, _, rfl, R_cl hR⟩
end MP
