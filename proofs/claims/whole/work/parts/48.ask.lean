/-! what a list says: the bodies that begin, and the answer -/
/-- a list: kind, first, second, pattern, dropped, how many words, words, scores -/
abbrev lT : Type := Nat × Nat × Nat × Int64 × Bool × Nat × (Nat → Int64) × (Nat → Int32)
def lK (e : lT) : Nat := e.1
def lA1 (e : lT) : Nat := e.2.1
def lA2 (e : lT) : Nat := e.2.2.1
def lPt (e : lT) : Int64 := e.2.2.2.1
def lDr (e : lT) : Bool := e.2.2.2.2.1
def lMy (e : lT) : Nat := e.2.2.2.2.2.1
def lWd (e : lT) : Nat → Int64 := e.2.2.2.2.2.2.1
def lSc (e : lT) : Nat → Int32 := e.2.2.2.2.2.2.2
/-- where a word stands last; none -/
def sAt (f : Nat → Int64) (w : Int64) : Nat → Option Nat
  | 0 => none
  | k + 1 => if f k = w then some k else sAt f w k
def fitB (p w : Int64) : Bool := Nat.beq (szf 13 w) (szf 13 p) && !(anyB (fun i => !(Nat.beq (lt5 p i) 27 || Nat.beq (lt5 p i) (lt5 w i))) 7)
theorem anyB_iff (p : Nat → Bool) : ∀ n, anyB p n = false ↔ ∀ i, i < n → p i = false
  | 0 => ⟨fun _ i hi => absurd hi (Nat.not_lt_zero i), fun _ => rfl⟩
  | n + 1 => by
    rw [show anyB p (n + 1) = (anyB p n || p n) from rfl, Bool.or_eq_false_iff, anyB_iff p n]
    constructor
    · rintro ⟨h1, h2⟩ i hi
      by_cases e : i = n
      · subst e
        exact h2
      · exact h1 i (by omega)
    · intro h
      exact ⟨fun i hi => h i (by omega), h n (by omega)⟩
theorem fitB_iff (p w : Int64) : fitB p w = true ↔ fitP p w := by
  unfold fitB fitP
  rw [Bool.and_eq_true, Bool.not_eq_true', anyB_iff]
  constructor
  · rintro ⟨h1, h2⟩
    refine ⟨Nat.eq_of_beq_eq_true h1, fun i hi => ?_⟩
    have := h2 i hi
    rw [Bool.not_eq_false', Bool.or_eq_true] at this
    rcases this with h | h
    · exact Or.inl (Nat.eq_of_beq_eq_true h)
    · exact Or.inr (Nat.eq_of_beq_eq_true h)
  · rintro ⟨h1, h2⟩
    refine ⟨beq_tt h1, fun i hi => ?_⟩
    rw [Bool.not_eq_false', Bool.or_eq_true]
    rcases h2 i hi with h | h
    · exact Or.inl (beq_tt h)
    · exact Or.inr (beq_tt h)
/-- an answer: the bodies begun, the finding (0: none), the value -/
abbrev aT : Type := List Nat × Nat × Int64
def b64 (b : Bool) : Int64 := if b = true then 1 else 0
/-- a plain, scored or banned list -/
def askL (e : lT) (act : Nat) (o : Int64) : aT :=
  if act = 0 then (if lK e = 2 then [20, 0] else [0], 0, b64 ((sAt (lWd e) o (lMy e)).isSome == !(Nat.beq (lK e) 2)))
  else if act = 1 then (if lK e = 2 then [21] else [1], 0, if lK e = 2 then 0 else (nI (lMy e)).toInt64)
  else if act = 2 then (if o < 0 then ([2], 2, 0) else if (nI (lMy e)).toInt64 ≤ o then ([2], 2, 0) else ([2], 0, lWd e o.toInt32.toNatClampNeg))
  else (if lK e = 1 then [13, 3] else [3], 0, match sAt (lWd e) o (lMy e) with | some k => if lK e = 1 then (lSc e k).toInt64 else 0 | none => 0)
def askJ (act : Nat) (v v2 : Int64) : Int64 := if act = 0 then v2 else if act = 3 then v + v2 else if v2 = 0 then 0 else v
def askP (E : Nat → lT) : Nat → Nat → Nat → Int64 → aT
  | 0, _, _, _ => ([], 1, 0)
  | k + 1, l, act, o =>
    if lDr (E l) = true then ([], 1, 0)
    else if lK (E l) < 3 then askL (E l) act o
    else if lK (E l) = 3 then
      (if act = 0 ∧ fitB (lPt (E l)) o = false then ([30], 0, 0)
       else let r := askP E k (lA1 (E l)) act o
        if r.2.1 = 0 then ((30 + act) :: r.1, 0, if act = 2 then (if fitB (lPt (E l)) r.2.2 = true then r.2.2 else 0) else if act = 3 then r.2.2 + 1 else r.2.2)
        else ((30 + act) :: r.1, r.2.1, 0))
    else
      (let r := askP E k (lA1 (E l)) act o
       if r.2.1 = 0 then
        (if act ≠ 1 ∧ (act = 3 ∨ r.2.2 ≠ 0) then
          (let r2 := askP E k (lA2 (E l)) (if act = 2 then 0 else act) (if act = 2 then r.2.2 else o)
           if r2.2.1 = 0 then ((40 + act) :: (r.1 ++ r2.1), 0, askJ act r.2.2 r2.2.2) else ((40 + act) :: (r.1 ++ r2.1), r2.2.1, 0))
         else ((40 + act) :: r.1, 0, r.2.2))
       else ((40 + act) :: r.1, r.2.1, 0))
/-- lists ask lists that were made before -/
def lOK (E : Nat → lT) (n : Nat) : Prop := n ≤ 16 ∧ ∀ l, l < n → lK (E l) ≤ 4 ∧ (3 ≤ lK (E l) → lA1 (E l) < l) ∧ (lK (E l) = 4 → lA2 (E l) < l) ∧ (lK (E l) = 3 → ∃ m, wOK 27 (lPt (E l)) m) ∧ lMy (E l) ≤ 40 ∧ (∀ i, i < lMy (E l) → ∃ m, wOK 26 (lWd (E l) i) m) ∧ (∀ i j, i < lMy (E l) → j < lMy (E l) → lWd (E l) i = lWd (E l) j → i = j)
/-- more fuel says the same -/
theorem askP_up {E : Nat → lT} {n : Nat} (h : lOK E n) : ∀ k l, l < n → l < k → ∀ act o, askP E (k + 1) l act o = askP E k l act o
  | 0, l, _, hk => by omega
  | k + 1, l, hl, hk => by
    intro act o
    obtain ⟨-, h1, h2, -⟩ := h.2 l hl
    unfold askP
    by_cases g1 : lDr (E l) = true
    · rw [if_pos g1, if_pos g1]
    · rw [if_neg g1, if_neg g1]
      by_cases g2 : lK (E l) < 3
      · rw [if_pos g2, if_pos g2]
      · rw [if_neg g2, if_neg g2]
        have a1 := h1 (by omega)
        have e1 := askP_up h k (lA1 (E l)) (by omega) (by omega)
        by_cases g3 : lK (E l) = 3
        · rw [if_pos g3, if_pos g3, e1]
        · rw [if_neg g3, if_neg g3, e1]
          obtain ⟨h0, -⟩ := h.2 l hl
          have a2 := h2 (by omega)
          have e2 := askP_up h k (lA2 (E l)) (by omega) (by omega)
          dsimp only
          rw [e2]
def askF (E : Nat → lT) (l act : Nat) (o : Int64) : aT := askP E (l + 1) l act o
theorem askP_F {E : Nat → lT} {n : Nat} (h : lOK E n) {l : Nat} (hl : l < n) (act : Nat) (o : Int64) : ∀ k, l < k → askP E k l act o = askF E l act o := by
  intro k hk
  have : ∀ j, askP E (l + 1 + j) l act o = askF E l act o := by
    intro j
    induction j with
    | zero => rfl
    | succ j ih =>
      rw [← ih]
      exact askP_up h (l + 1 + j) l hl (by omega) act o
  have e := this (k - (l + 1))
  rw [show l + 1 + (k - (l + 1)) = k by omega] at e
  exact e
/-- one question, by the questions of lists before -/
theorem askF_eq {E : Nat → lT} {n : Nat} (h : lOK E n) {l : Nat} (hl : l < n) (act : Nat) (o : Int64) : askF E l act o =
    if lDr (E l) = true then ([], 1, 0)
    else if lK (E l) < 3 then askL (E l) act o
    else if lK (E l) = 3 then
      (if act = 0 ∧ fitB (lPt (E l)) o = false then ([30], 0, 0)
       else let r := askF E (lA1 (E l)) act o
        if r.2.1 = 0 then ((30 + act) :: r.1, 0, if act = 2 then (if fitB (lPt (E l)) r.2.2 = true then r.2.2 else 0) else if act = 3 then r.2.2 + 1 else r.2.2)
        else ((30 + act) :: r.1, r.2.1, 0))
    else
      (let r := askF E (lA1 (E l)) act o
       if r.2.1 = 0 then
        (if act ≠ 1 ∧ (act = 3 ∨ r.2.2 ≠ 0) then
          (let r2 := askF E (lA2 (E l)) (if act = 2 then 0 else act) (if act = 2 then r.2.2 else o)
           if r2.2.1 = 0 then ((40 + act) :: (r.1 ++ r2.1), 0, askJ act r.2.2 r2.2.2) else ((40 + act) :: (r.1 ++ r2.1), r2.2.1, 0))
         else ((40 + act) :: r.1, 0, r.2.2))
       else ((40 + act) :: r.1, r.2.1, 0)) := by
  obtain ⟨h0, h1, h2, -⟩ := h.2 l hl
  conv => lhs; unfold askF askP
  by_cases g1 : lDr (E l) = true
  · rw [if_pos g1, if_pos g1]
  · rw [if_neg g1, if_neg g1]
    by_cases g2 : lK (E l) < 3
    · rw [if_pos g2, if_pos g2]
    · rw [if_neg g2, if_neg g2]
      have a1 := h1 (by omega)
      have e1 : ∀ act o, askP E l (lA1 (E l)) act o = askF E (lA1 (E l)) act o := fun act o => askP_F h (by omega) act o l a1
      by_cases g3 : lK (E l) = 3
      · rw [if_pos g3, if_pos g3, e1]
      · rw [if_neg g3, if_neg g3, e1]
        have a2 := h2 (by omega)
        have e2 : ∀ act o, askP E l (lA2 (E l)) act o = askF E (lA2 (E l)) act o := fun act o => askP_F h (by omega) act o l a2
        dsimp only
        rw [e2]
/-- the trace behind bodies: how many ever, and the ring -/
def trc (s : Nat × (Nat → Int32)) (cs : List Nat) : Nat × (Nat → Int32) := cs.foldl (fun s c => (s.1 + 1, upd s.2 (s.1 % 100) (nI c))) s
theorem trc_nil (s : Nat × (Nat → Int32)) : trc s [] = s := rfl
theorem trc_cons (s : Nat × (Nat → Int32)) (c : Nat) (cs : List Nat) : trc s (c :: cs) = trc (s.1 + 1, upd s.2 (s.1 % 100) (nI c)) cs := rfl
theorem trc_app (s : Nat × (Nat → Int32)) (cs ds : List Nat) : trc s (cs ++ ds) = trc (trc s cs) ds := List.foldl_append
theorem trc_len (cs : List Nat) : ∀ s : Nat × (Nat → Int32), (trc s cs).1 = s.1 + cs.length := by
  induction cs with
  | nil => intro s; rfl
  | cons c cs ih =>
    intro s
    rw [trc_cons, ih, List.length_cons]
    show s.1 + 1 + cs.length = _
    omega
/-- the value of a question of a word is a word or none; of how many, a small number; of a yes or no, 0 or 1 -/
def aVal (act : Nat) (v : Int64) : Prop := (act = 0 → v = 0 ∨ v = 1) ∧ (act = 1 → ∃ m, m ≤ 40 ∧ v = (nI m).toInt64) ∧ (act = 2 → wdP v)
theorem b64_01 (b : Bool) : b64 b = 0 ∨ b64 b = 1 := by cases b <;> simp [b64]
theorem askF_val {E : Nat → lT} {n : Nat} (h : lOK E n) : ∀ l, l < n → ∀ act o, (askF E l act o).2.1 = 0 → aVal act (askF E l act o).2.2 := by
  intro l
  induction l using Nat.strongRecOn with
  | _ l ih =>
    intro hl act o
    obtain ⟨h0, h1, h2, h3, h4, h5, h6⟩ := h.2 l hl
    rw [askF_eq h hl]
    by_cases g1 : lDr (E l) = true
    · rw [if_pos g1]
      intro e
      cases e
    · rw [if_neg g1]
      by_cases g2 : lK (E l) < 3
      · rw [if_pos g2]
        unfold askL
        by_cases a0 : act = 0
        · rw [if_pos a0]
          intro _
          exact ⟨fun _ => b64_01 _, fun e => by omega, fun e => by omega⟩
        · rw [if_neg a0]
          by_cases a1 : act = 1
          · rw [if_pos a1]
            intro _
            refine ⟨fun e => by omega, fun _ => ?_, fun e => by omega⟩
            dsimp only
            split
            · exact ⟨0, by decide, rfl⟩
            · exact ⟨_, h4, rfl⟩
          · rw [if_neg a1]
            by_cases a2 : act = 2
            · rw [if_pos a2]
              by_cases o1 : o < 0
              · rw [if_pos o1]
                intro e
                cases e
              · rw [if_neg o1]
                by_cases o2 : (nI (lMy (E l))).toInt64 ≤ o
                · rw [if_pos o2]
                  intro e
                  cases e
                · rw [if_neg o2]
                  intro _
                  refine ⟨fun e => by omega, fun e => by omega, fun _ => Or.inr (h5 _ ?_)⟩
                  rw [Int64.lt_iff_toInt_lt] at o1
                  rw [Int64.le_iff_toInt_le] at o2
                  have e1 : ((nI (lMy (E l))).toInt64).toInt = lMy (E l) := by
                    rw [Int32.toInt_toInt64, nI_toInt (by omega)]
                  have e0 : (0 : Int64).toInt = 0 := by decide
                  rw [e1] at o2
                  rw [e0] at o1
                  have e2 : o.toInt32.toInt = o.toInt := by
                    rw [Int64.toInt_toInt32]
                    apply Int.bmod_eq_of_le <;> omega
                  show o.toInt32.toInt.toNat < lMy (E l)
                  rw [e2]
                  omega
            · rw [if_neg a2]
              intro _
              exact ⟨fun e => by omega, fun e => by omega, fun e => by omega⟩
      · rw [if_neg g2]
        have a1 := h1 (by omega)
        have i1 := ih _ a1 (by omega)
        by_cases g3 : lK (E l) = 3
        · rw [if_pos g3]
          by_cases c1 : act = 0 ∧ fitB (lPt (E l)) o = false
          · rw [if_pos c1]
            intro _
            exact ⟨fun _ => Or.inl rfl, fun e => by omega, fun e => by omega⟩
          · rw [if_neg c1]
            dsimp only
            by_cases r0 : (askF E (lA1 (E l)) act o).2.1 = 0
            · rw [if_pos r0]
              intro _
              obtain ⟨v0, v1, v2⟩ := i1 act o r0
              refine ⟨fun e => ?_, fun e => ?_, fun e => ?_⟩
              · subst e
                simpa using v0 rfl
              · subst e
                simpa using v1 rfl
              · subst e
                dsimp only
                rw [if_pos rfl]
                split
                · exact v2 rfl
                · exact Or.inl rfl
            · rw [if_neg r0]
              intro e
              exact absurd e r0
        · rw [if_neg g3]
          have a2 := h2 (by omega)
          have i2 := ih _ a2 (by omega)
          dsimp only
          by_cases r0 : (askF E (lA1 (E l)) act o).2.1 = 0
          · rw [if_pos r0]
            obtain ⟨v0, v1, v2⟩ := i1 act o r0
            by_cases c1 : act ≠ 1 ∧ (act = 3 ∨ (askF E (lA1 (E l)) act o).2.2 ≠ 0)
            · rw [if_pos c1]
              by_cases r1 : (askF E (lA2 (E l)) (if act = 2 then 0 else act) (if act = 2 then (askF E (lA1 (E l)) act o).2.2 else o)).2.1 = 0
              · rw [if_pos r1]
                intro _
                obtain ⟨w0, w1, w2⟩ := i2 _ _ r1
                refine ⟨fun e => ?_, fun e => absurd e c1.1, fun e => ?_⟩
                · subst e
                  exact w0 rfl
                · subst e
                  show wdP (askJ 2 _ _)
                  unfold askJ
                  generalize (askF E (lA2 (E l)) _ _).2.2 = x2
                  rw [if_neg (by decide), if_neg (by decide)]
                  split
                  · exact Or.inl rfl
                  · exact v2 rfl
              · rw [if_neg r1]
                intro e
                exact absurd e r1
            · rw [if_neg c1]
              intro _
              exact ⟨v0, v1, v2⟩
          · rw [if_neg r0]
            intro e
            exact absurd e r0
