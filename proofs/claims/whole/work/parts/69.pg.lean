/-! candidates of an entry, in their order -/
abbrev wsT : Type := Int64 × Int32
def ahd (x y : wsT) : Bool := decide (y.2 < x.2) || (decide (x.2 = y.2) && bfN x.1 y.1 7 0)
def gt0 {α : Type} (l : List α) (z : α) (i : Nat) : α := l.getD i z
/-- where a thing is put in, from the end -/
def insI (p : Nat → Bool) : Nat → Nat
  | 0 => 0
  | i + 1 => if p i = true then insI p i else i + 1
theorem insI_le (p : Nat → Bool) : ∀ i, insI p i ≤ i
  | 0 => Nat.le_refl 0
  | i + 1 => by
    unfold insI
    split
    · have := insI_le p i
      omega
    · exact Nat.le_refl _
def lIns {α : Type} (l : List α) (i : Nat) (x : α) : List α := l.take i ++ x :: l.drop i
theorem lIns_len {α : Type} {l : List α} {i : Nat} (x : α) (h : i ≤ l.length) : (lIns l i x).length = l.length + 1 := by
  unfold lIns
  rw [List.length_append, List.length_cons, List.length_take, List.length_drop]
  omega
theorem lIns_get {α : Type} {l : List α} {i : Nat} (x z : α) (h : i ≤ l.length) (j : Nat) : (lIns l i x).getD j z = if j < i then l.getD j z else if j = i then x else l.getD (j - 1) z := by
  unfold lIns
  rw [List.getD_eq_getElem?_getD]
  by_cases g : j < i
  · rw [if_pos g, List.getElem?_append_left (by rw [List.length_take]; omega), List.getElem?_take, if_pos g, List.getD_eq_getElem?_getD]
  · rw [if_neg g, List.getElem?_append_right (by rw [List.length_take]; omega), List.length_take, show min i l.length = i by omega]
    by_cases e : j = i
    · rw [if_pos e, e, Nat.sub_self]
      rfl
    · rw [if_neg e, show j - i = (j - 1 - i) + 1 by omega, List.getElem?_cons_succ, List.getElem?_drop, List.getD_eq_getElem?_getD]
      congr 2
      omega
def cIx (l : List wsT) (x : wsT) : Nat := insI (fun i => ahd x (l.getD i (0, 0))) l.length
def cIns (l : List wsT) (x : wsT) : List wsT := lIns l (cIx l x) x
theorem cIns_len (l : List wsT) (x : wsT) : (cIns l x).length = l.length + 1 := lIns_len x (insI_le _ _)
theorem cIns_mem {l : List wsT} {x y : wsT} (h : y ∈ cIns l x) : y = x ∨ y ∈ l := by
  unfold cIns lIns at h
  rw [List.mem_append, List.mem_cons] at h
  rcases h with h | h | h
  · exact Or.inr (List.mem_of_mem_take h)
  · exact Or.inl h
  · exact Or.inr (List.mem_of_mem_drop h)
def i64 (k : Nat) : Int64 := (nI k).toInt64
/-- gathering over the words of a list: the bodies, the finding, the candidates -/
def gF (E : Nat → lT) (l : Nat) (v : Nat → Nat) (n : Nat) : Nat → Nat → List wsT → List Nat × Nat × List wsT
  | 0, _, acc => ([], 0, acc)
  | r + 1, k, acc =>
    if (askF E l 2 (i64 k)).2.1 ≠ 0 then ((askF E l 2 (i64 k)).1, (askF E l 2 (i64 k)).2.1, acc)
    else if agrB v n (askF E l 2 (i64 k)).2.2 = true then
      (if (askF E l 3 (askF E l 2 (i64 k)).2.2).2.1 ≠ 0 then ((askF E l 2 (i64 k)).1 ++ (askF E l 3 (askF E l 2 (i64 k)).2.2).1, (askF E l 3 (askF E l 2 (i64 k)).2.2).2.1, acc)
       else ((askF E l 2 (i64 k)).1 ++ ((askF E l 3 (askF E l 2 (i64 k)).2.2).1 ++ (gF E l v n r (k + 1) (cIns acc ((askF E l 2 (i64 k)).2.2, (askF E l 3 (askF E l 2 (i64 k)).2.2).2.2.toInt32))).1), (gF E l v n r (k + 1) (cIns acc ((askF E l 2 (i64 k)).2.2, (askF E l 3 (askF E l 2 (i64 k)).2.2).2.2.toInt32))).2))
    else ((askF E l 2 (i64 k)).1 ++ (gF E l v n r (k + 1) acc).1, (gF E l v n r (k + 1) acc).2)
def gL (E : Nat → lT) (l : Nat) (v : Nat → Nat) (n : Nat) : List Nat × Nat × List wsT :=
  if (askF E l 1 0).2.1 ≠ 0 then ((askF E l 1 0).1, (askF E l 1 0).2.1, [])
  else ((askF E l 1 0).1 ++ (gF E l v n (askF E l 1 0).2.2.toInt32.toNatClampNeg 0 []).1, (gF E l v n (askF E l 1 0).2.2.toInt32.toNatClampNeg 0 []).2)
theorem gF_len (E : Nat → lT) (l : Nat) (v : Nat → Nat) (n : Nat) : ∀ r k acc, (gF E l v n r k acc).2.2.length ≤ acc.length + r
  | 0, k, acc => by
    show acc.length ≤ _
    omega
  | r + 1, k, acc => by
    unfold gF
    split
    · show acc.length ≤ _
      omega
    · split
      · split
        · show acc.length ≤ _
          omega
        · have := gF_len E l v n r (k + 1) (cIns acc ((askF E l 2 (i64 k)).2.2, (askF E l 3 (askF E l 2 (i64 k)).2.2).2.2.toInt32))
          rw [cIns_len] at this
          show (gF E l v n r (k + 1) _).2.2.length ≤ _
          omega
      · have := gF_len E l v n r (k + 1) acc
        show (gF E l v n r (k + 1) acc).2.2.length ≤ _
        omega
theorem gF_ok {E : Nat → lT} {m : Nat} (hE : lOK E m) {l : Nat} (hl : l < m) {v : Nat → Nat} {n : Nat} (hn : 2 ≤ n) : ∀ r k acc, (∀ x, x ∈ acc → wOK 26 x.1 n) → ∀ x, x ∈ (gF E l v n r k acc).2.2 → wOK 26 x.1 n
  | 0, k, acc, h => h
  | r + 1, k, acc, h => by
    unfold gF
    split
    · exact h
    · rename_i g1
      have g1 := Decidable.not_not.mp g1
      split
      · rename_i g2
        split
        · exact h
        · refine gF_ok hE hl hn r (k + 1) _ (fun x hx => ?_)
          rcases cIns_mem hx with e | e
          · subst e
            have hw := (askF_val hE l hl 2 (i64 k) g1).2.2 rfl
            have hs := ((agrB_iff _ _ _).mp g2).1
            rcases hw with z | ⟨m1, hm1⟩
            · rw [z, szf_0 rfl] at hs
              omega
            · rw [szf_eq hm1] at hs
              subst hs
              exact hm1
          · exact h x e
      · exact gF_ok hE hl hn r (k + 1) acc h
/-- an order of the entries: by how many candidates, stable -/
def oIns (mn : Nat → Nat) (l : List Nat) (e : Nat) : List Nat := lIns l (insI (fun i => Nat.ble (mn e + 1) (mn (l.getD i 0))) l.length) e
def oAll (mn : Nat → Nat) : Nat → List Nat
  | 0 => []
  | e + 1 => oIns mn (oAll mn e) e
theorem oAll_len (mn : Nat → Nat) : ∀ n, (oAll mn n).length = n
  | 0 => rfl
  | n + 1 => by
    show (oIns mn (oAll mn n) n).length = n + 1
    unfold oIns
    rw [lIns_len _ (insI_le _ _), oAll_len mn n]
theorem oAll_mem (mn : Nat → Nat) : ∀ n x, x ∈ oAll mn n ↔ x < n
  | 0, x => by simp [oAll]
  | n + 1, x => by
    show x ∈ oIns mn (oAll mn n) n ↔ _
    unfold oIns lIns
    rw [List.mem_append, List.mem_cons]
    have ih := oAll_mem mn n x
    generalize insI _ _ = i
    have key : x ∈ oAll mn n ↔ (x ∈ (oAll mn n).take i ∨ x ∈ (oAll mn n).drop i) := by
      conv => lhs; rw [← List.take_append_drop i (oAll mn n)]
      rw [List.mem_append]
    rw [ih] at key
    constructor
    · rintro (h | h | h)
      · have := key.mpr (Or.inl h); omega
      · omega
      · have := key.mpr (Or.inr h); omega
    · intro h
      by_cases e : x = n
      · exact Or.inr (Or.inl e)
      · rcases key.mp (by omega) with h1 | h1
        · exact Or.inl h1
        · exact Or.inr (Or.inr h1)
theorem oAll_nd (mn : Nat → Nat) : ∀ n, (oAll mn n).Nodup
  | 0 => List.nodup_nil
  | n + 1 => by
    show (oIns mn (oAll mn n) n).Nodup
    unfold oIns lIns
    generalize insI _ _ = i
    have ih := oAll_nd mn n
    have hn : n ∉ oAll mn n := fun h => by have := (oAll_mem mn n n).mp h; omega
    rw [← List.take_append_drop i (oAll mn n)] at ih hn
    rw [List.nodup_append] at ih ⊢
    rw [List.mem_append] at hn
    refine ⟨ih.1, List.nodup_cons.mpr ⟨fun h => hn (Or.inr h), ih.2.1⟩, fun a ha b hb => ?_⟩
    rcases List.mem_cons.mp hb with e | e
    · subst e
      intro e2
      subst e2
      exact hn (Or.inl ha)
    · exact ih.2.2 a ha b e
