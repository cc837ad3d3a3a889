/-! all holds behind the constructors -/
theorem rg_0 : ∀ G, G < 4 → rg M0 0 G := by
  intro G hG
  rcases (show G = 0 ∨ G = 1 ∨ G = 2 ∨ G = 3 by omega) with rfl | rfl | rfl | rfl
  all_goals exact ⟨⟨rfl, Or.inl rfl⟩, ⟨0, 0, by decide, by decide, rfl, rfl, rfl, rfl, fun i hi => ⟨rfl, (by decide : (-1 : Int32) ≤ 0), (by decide : (0 : Int32) ≤ 0), fun _ => rfl⟩, fun i j hi => absurd hi (Nat.not_lt_zero i), fun i hi => absurd hi (Nat.not_lt_zero i)⟩, fun s hs => ⟨0, by decide, rfl⟩, none, none, rfl, rfl, rfl, rfl, fun l h => (nomatch h), fun l h => (nomatch h)⟩
theorem R_0 : rR 0 [] M0 := by
  refine ⟨(0, fun _ => 0), fun _ => (0, 0, 0, 0, false, 0, fun _ => 0, fun _ => 0), fun _ => 0, fun _ => 0, 0, ⟨fun s hs => ⟨⟨0, by decide, rfl⟩, Or.inl rfl, Or.inl rfl⟩, fun G hG => ?_, rg_0⟩, ⟨⟨rfl, rfl, rfl, fun i hi => rfl⟩, ⟨rfl, fun i hi => rfl⟩, rfl, fun i hi => rfl, by decide⟩, ?_, ⟨rfl, Or.inl rfl⟩, ⟨⟨0, 0, by decide, by decide, rfl, rfl, rfl, rfl, fun j e hj => absurd hj (Nat.not_lt_zero j)⟩, ⟨rfl, rfl, rfl, rfl⟩, rfl, rfl⟩⟩
  · rcases (show G = 0 ∨ G = 1 ∨ G = 2 ∨ G = 3 by omega) with rfl | rfl | rfl | rfl <;> rfl
  · refine ⟨?_, ⟨rfl, fun l hl => absurd hl (Nat.not_lt_zero l)⟩, fun l hl => absurd hl (Nat.not_lt_zero l), rfl, ?_, fun l hl => absurd hl (Nat.not_lt_zero l), fun l hl => absurd hl (Nat.not_lt_zero l), fun l m _ hm => absurd hm (Nat.not_lt_zero m), ⟨by decide, fun s hs => (nomatch hs)⟩, fun l _ _ => ⟨rfl, rfl⟩⟩
    · exact ⟨by decide, fun l hl => absurd hl (Nat.not_lt_zero l)⟩
    · exact fun l hl => absurd hl (Nat.not_lt_zero l)
