/-! the law's run from the empty world, and its room -/
theorem sz_map {B : Nat} {f : Nat → sh_T → va_E} {dy : List sh_T} (h : ∀ i s, s ∈ dy → sm_sl (f i s) ≤ B) : ((dy.mapIdx f).map sm_sl).sum ≤ B * dy.length := by
  induction dy generalizing f with
  | nil => simp
  | cons a l ih =>
    rw [List.mapIdx_cons, List.map_cons, List.sum_cons, List.length_cons, Nat.mul_succ]
    have h1 := h 0 a List.mem_cons_self
    have h2 := ih (f := fun i => f (i + 1)) (fun i s hs => h (i + 1) s (List.mem_cons_of_mem a hs))
    omega
set_option maxRecDepth 20000 in
theorem sh_b : ∀ s, s ∈ sh0 → ∀ f g r, sm_sl (s f g r) ≤ 4000 := by
  unfold sh0
  simp only [List.forall_mem_cons]
  exact ⟨fun _ _ _ => (by decide : (14 : Nat) ≤ 4000), fun _ _ _ => (by decide : (6 : Nat) ≤ 4000), fun _ _ _ => (by decide : (100 : Nat) ≤ 4000), fun _ _ _ => (by decide : (6 : Nat) ≤ 4000), fun _ _ _ => (by decide : (4 : Nat) ≤ 4000), fun _ _ _ => (by decide : (16 : Nat) ≤ 4000), fun _ _ _ => (by decide : (16 : Nat) ≤ 4000), fun _ _ _ => (by decide : (4 : Nat) ≤ 4000), fun _ _ _ => (by decide : (5 : Nat) ≤ 4000), fun _ _ _ => (by decide : (42 : Nat) ≤ 4000), fun _ _ _ => (by decide : (42 : Nat) ≤ 4000), fun _ _ _ => (by decide : (42 : Nat) ≤ 4000), fun _ _ _ => (by decide : (42 : Nat) ≤ 4000), fun _ _ _ => (by decide : (17 : Nat) ≤ 4000), fun _ _ _ => (by decide : (5 : Nat) ≤ 4000), fun _ _ _ => (by decide : (42 : Nat) ≤ 4000), fun _ _ _ => (by decide : (42 : Nat) ≤ 4000), fun _ _ _ => (by decide : (42 : Nat) ≤ 4000), fun _ _ _ => (by decide : (42 : Nat) ≤ 4000), fun _ _ _ => (by decide : (1680 : Nat) ≤ 4000), fun _ _ _ => (by decide : (42 : Nat) ≤ 4000), fun _ _ _ => (by decide : (40 : Nat) ≤ 4000), fun _ _ _ => (by decide : (42 : Nat) ≤ 4000), fun _ _ _ => (by decide : (49 : Nat) ≤ 4000), fun _ _ _ => (by decide : (42 : Nat) ≤ 4000), fun _ _ _ => (by decide : (42 : Nat) ≤ 4000), fun _ _ _ => (by decide : (42 : Nat) ≤ 4000), fun _ _ _ => (by decide : (42 : Nat) ≤ 4000), fun _ _ _ => (by decide : (17 : Nat) ≤ 4000), fun _ _ _ => (by decide : (5 : Nat) ≤ 4000), fun _ _ _ => (by decide : (42 : Nat) ≤ 4000), fun _ _ _ => (by decide : (42 : Nat) ≤ 4000), fun _ _ _ => (by decide : (42 : Nat) ≤ 4000), fun _ _ _ => (by decide : (42 : Nat) ≤ 4000), fun _ _ _ => (by decide : (1680 : Nat) ≤ 4000), fun _ _ _ => (by decide : (42 : Nat) ≤ 4000), fun _ _ _ => (by decide : (40 : Nat) ≤ 4000), fun _ _ _ => (by decide : (42 : Nat) ≤ 4000), fun _ _ _ => (by decide : (49 : Nat) ≤ 4000), fun _ _ _ => (by decide : (42 : Nat) ≤ 4000), fun _ _ _ => (by decide : (42 : Nat) ≤ 4000), fun _ _ _ => (by decide : (42 : Nat) ≤ 4000), fun _ _ _ => (by decide : (42 : Nat) ≤ 4000), fun _ _ _ => (by decide : (126 : Nat) ≤ 4000), fun _ _ _ => (by decide : (4 : Nat) ≤ 4000), fun _ _ _ => (by decide : (9 : Nat) ≤ 4000), fun _ _ _ => (by decide : (49 : Nat) ≤ 4000), fun _ _ _ => (by decide : (7 : Nat) ≤ 4000), fun _ _ _ => (by decide : (49 : Nat) ≤ 4000), fun _ _ _ => (by decide : (49 : Nat) ≤ 4000), fun _ _ _ => (by decide : (9 : Nat) ≤ 4000), fun _ _ _ => (by decide : (49 : Nat) ≤ 4000), fun _ _ _ => (by decide : (7 : Nat) ≤ 4000), fun _ _ _ => (by decide : (49 : Nat) ≤ 4000), fun _ _ _ => (by decide : (49 : Nat) ≤ 4000), fun _ _ _ => (by decide : (9 : Nat) ≤ 4000), fun _ _ _ => (by decide : (49 : Nat) ≤ 4000), fun _ _ _ => (by decide : (7 : Nat) ≤ 4000), fun _ _ _ => (by decide : (49 : Nat) ≤ 4000), fun _ _ _ => (by decide : (49 : Nat) ≤ 4000), fun _ _ _ => (by decide : (9 : Nat) ≤ 4000), fun _ _ _ => (by decide : (49 : Nat) ≤ 4000), fun _ _ _ => (by decide : (7 : Nat) ≤ 4000), fun _ _ _ => (by decide : (49 : Nat) ≤ 4000), fun _ _ _ => (by decide : (49 : Nat) ≤ 4000), fun _ _ _ => (by decide : (65 : Nat) ≤ 4000), fun _ _ _ => (by decide : (4 : Nat) ≤ 4000), fun _ _ _ => (by decide : (4 : Nat) ≤ 4000), fun _ _ _ => (by decide : (4 : Nat) ≤ 4000), fun _ _ _ => (by decide : (28 : Nat) ≤ 4000), fun _ _ _ => (by decide : (196 : Nat) ≤ 4000), fun _ _ _ => (by decide : (196 : Nat) ≤ 4000), fun _ _ _ => (by decide : (196 : Nat) ≤ 4000), fun _ _ _ => (by decide : (4 : Nat) ≤ 4000), fun _ _ _ => (by decide : (4 : Nat) ≤ 4000), fun _ _ _ => (by decide : (16 : Nat) ≤ 4000), fun _ _ _ => (by decide : (16 : Nat) ≤ 4000), fun _ _ _ => (by decide : (16 : Nat) ≤ 4000), fun _ _ _ => (by decide : (16 : Nat) ≤ 4000), fun _ _ _ => (by decide : (16 : Nat) ≤ 4000), fun _ _ _ => (by decide : (16 : Nat) ≤ 4000), fun _ _ _ => (by decide : (16 : Nat) ≤ 4000), fun _ _ _ => (by decide : (640 : Nat) ≤ 4000), fun _ _ _ => (by decide : (640 : Nat) ≤ 4000), fun _ _ _ => (by decide : (6 : Nat) ≤ 4000), fun _ _ _ => (by decide : (100 : Nat) ≤ 4000), fun _ _ _ => (by decide : (40 : Nat) ≤ 4000), fun _ _ _ => (by decide : (40 : Nat) ≤ 4000), fun _ _ _ => (by decide : (40 : Nat) ≤ 4000), fun _ _ _ => (by decide : (40 : Nat) ≤ 4000), fun _ _ _ => (by decide : (40 : Nat) ≤ 4000), fun _ _ _ => (by decide : (48 : Nat) ≤ 4000), fun _ _ _ => (by decide : (48 : Nat) ≤ 4000), fun _ _ _ => (by decide : (48 : Nat) ≤ 4000), fun _ _ _ => (by decide : (48 : Nat) ≤ 4000), fun _ _ _ => (by decide : (48 : Nat) ≤ 4000), fun _ _ _ => (by decide : (2 : Nat) ≤ 4000), fun _ _ _ => (by decide : (2 : Nat) ≤ 4000), fun _ _ _ => (by decide : (2 : Nat) ≤ 4000), fun _ _ _ => (by decide : (3840 : Nat) ≤ 4000), fun _ _ _ => (by decide : (3840 : Nat) ≤ 4000), fun _ _ _ => (by decide : (96 : Nat) ≤ 4000), fun _ _ _ => (by decide : (96 : Nat) ≤ 4000), fun _ _ _ => (by decide : (96 : Nat) ≤ 4000), fun _ _ _ => (by decide : (96 : Nat) ≤ 4000), fun _ _ _ => (by decide : (96 : Nat) ≤ 4000), fun _ _ _ => (by decide : (98 : Nat) ≤ 4000), fun _ _ _ => (by decide : (672 : Nat) ≤ 4000), fun _ _ _ => (by decide : (96 : Nat) ≤ 4000), fun _ _ _ => (by decide : (144 : Nat) ≤ 4000), fun _ _ _ => (by decide : (49 : Nat) ≤ 4000), fun _ _ _ => (by decide : (49 : Nat) ≤ 4000), fun _ _ _ => (by decide : (49 : Nat) ≤ 4000), fun _ _ _ => (by decide : (49 : Nat) ≤ 4000), fun s hs => (nomatch hs)⟩
theorem sz_R {t : Nat} {dy : List sh_T} {M : mm_T} (h : rR t dy M) : (wm (sh0 ++ dy) M).length ≤ 600000 ∧ sm_sz (wm (sh0 ++ dy) M) ≤ 7302250 := by
  obtain ⟨s, E, P, w, n, -, -, hL, -⟩ := h
  have n16 := hL.1.1
  obtain ⟨d1, d2⟩ := hL.2.2.2.2.2.2.2.2.1
  refine ⟨by rw [wm_len, List.length_append, sh0_len]; omega, ?_⟩
  have k := sz_map (B := 4000) (f := fun i s => s (M.1 i) (M.2.1 i) (M.2.2 i)) (dy := sh0 ++ dy) (fun i s hs => by
    rcases List.mem_append.mp hs with hs | hs
    · exact sh_b s hs _ _ _
    · rcases d2 s hs with rfl | rfl | rfl | rfl | ⟨a, rfl⟩ | ⟨a, rfl⟩ | ⟨a, b, rfl⟩
      · exact (by decide : (40 : Nat) ≤ 4000)
      · exact (by decide : (40 : Nat) ≤ 4000)
      · exact (by decide : (7 : Nat) ≤ 4000)
      · exact (by decide : (5 : Nat) ≤ 4000)
      · exact (by decide : (4 : Nat) ≤ 4000)
      · exact (by decide : (4 : Nat) ≤ 4000)
      · exact (by decide : (5 : Nat) ≤ 4000))
  rw [List.length_append, sh0_len] at k
  unfold sm_sz wm
  omega
set_option maxRecDepth 20000 in
theorem run_law {L : Nat} {xs : Nat → Int32} (hL : L ≤ 4608) : sm_E L xs (1000 + 1) 231 [.retAddr 0] [] (fun r w => r = some (.int 1) ∧ w.length ≤ 600000 ∧ sm_sz w ≤ 7302250) := by
  refine e_intro rfl rfl ?_
  refine x_op rfl ?_
  refine x_opp rfl rfl ?_
  refine x_invP (Q1 := fun r w1 => r = none ∧ w1 = (wm sh0 M0).take 65) rfl rfl rfl rfl (e_up (d := 10) (by decide) ⟨40, none, _, run_D L xs, rfl, rfl⟩) ?_
  rintro _ _ ⟨rfl, rfl⟩
  refine x_opp rfl rfl ?_
  refine x_op (st' := .ref 65 :: _) (w' := (wm sh0 M0).take 65 ++ [.inr (6, sm_dflt.getD 6 [])]) rfl ?_
  refine x_opp rfl rfl ?_
  refine x_invP (a := 65) (Q1 := fun r w1 => r = none ∧ w1 = wm (sh0 ++ []) M0) rfl rfl rfl rfl (e_up (d := 10) (by decide) ⟨40, none, _, run_M L xs, rfl, rfl⟩) ?_
  rintro _ _ ⟨rfl, rfl⟩
  refine x_opp rfl rfl ?_
  refine x_kcg rfl ?_
  refine x_opp rfl rfl ?_
  refine x_go rfl ?_
  have fin := l_law (L := L) (xs := xs) (d := 1000) (Q := fun r w => r = some (.int 1) ∧ w.length ≤ 600000 ∧ sm_sz w ≤ 7302250) (by decide) hL (fun t dy M h => ⟨rfl, sz_R h⟩) [] M0 R_0
  refine x_lvs [(0, .retAddr 0), (1, .ref 0), (2, .ref 65), (3, .int (nI (9 * 0)))] rfl rfl rfl ⟨rfl, rfl, rfl, rfl, trivial⟩ ?_
  exact fin
