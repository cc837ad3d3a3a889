/-! a searching, as both do it -/
/-- the i-th entry; one that isn't there has no squares -/
def eAt (es : List eT) (k : Nat) : eT := es.getD k (0, false, 0, 0)
theorem eAt_get {es : List eT} {k : Nat} (h : k < es.length) : es[k]? = some (eAt es k) := by
  unfold eAt
  rw [List.getD_eq_getElem?_getD, List.getElem?_eq_getElem h]
  rfl
theorem mPl_inj (e : eT) {i j : Nat} (h : mPl e i = mPl e j) : i = j := by
  unfold mPl at h
  split at h <;> omega
theorem mPl_lt {e : eT} (h : eOK e) {i : Nat} (hi : i < e.2.2.1) : mPl e i < 49 := by
  unfold mPl
  obtain ⟨h1, h2, h3⟩ := h
  split at h3
  · rename_i g
    rw [if_pos g]
    omega
  · rename_i g
    rw [if_neg g]
    omega
/-- letters written into an entry's first k squares -/
def putN (b : Nat → Nat) (e : eT) (w : Nat → Nat) : Nat → Nat → Nat
  | 0 => b
  | k + 1 => fun s => if s = mPl e k then w k else putN b e w k s
theorem putN_at (b : Nat → Nat) (e : eT) (w : Nat → Nat) : ∀ {k i}, i < k → putN b e w k (mPl e i) = w i
  | 0, i, h => by omega
  | k + 1, i, h => by
    unfold putN
    by_cases g : i = k
    · subst g
      rw [if_pos rfl]
    · rw [if_neg (fun e1 => g (mPl_inj e e1))]
      exact putN_at b e w (by omega)
theorem putN_ne (b : Nat → Nat) (e : eT) (w : Nat → Nat) {s : Nat} : ∀ {k}, (∀ i, i < k → s ≠ mPl e i) → putN b e w k s = b s
  | 0, _ => rfl
  | k + 1, h => by
    unfold putN
    rw [if_neg (h k (by omega))]
    exact putN_ne b e w (fun i hi => h i (by omega))
/-- a searching's data: the entries, the candidates of each, the order, the letters at its start -/
abbrev sD : Type := List eT × (Nat → List Int64) × (Nat → Nat) × (Nat → Nat)
def sE (D : sD) (k : Nat) : eT := eAt D.1 (D.2.2.1 k)
def sC (D : sD) (k : Nat) : List Int64 := D.2.1 (D.2.2.1 k)
/-- its state: how deep, how many were looked at by depth, what is set by depth -/
abbrev sS : Type := Nat × (Nat → Nat) × (Nat → Int64)
/-- the board at a depth -/
def sB (D : sD) (tk : Nat → Int64) : Nat → Nat → Nat
  | 0 => D.2.2.2
  | k + 1 => putN (sB D tk k) (sE D k) (lt5 (tk k)) (sE D k).2.2.1
theorem sB_ext (D : sD) {tk tk2 : Nat → Int64} : ∀ {k}, (∀ j, j < k → tk j = tk2 j) → sB D tk k = sB D tk2 k
  | 0, _ => rfl
  | k + 1, h => by
    unfold sB
    rw [sB_ext D (fun j hj => h j (by omega)), h k (by omega)]
/-- what an entry's squares show on a board -/
def sV (e : eT) (b : Nat → Nat) (i : Nat) : Nat := b (mPl e i)
def updW (f : Nat → Int64) (k : Nat) (v : Int64) : Nat → Int64 := fun j => if j = k then v else f j
def updN (f : Nat → Nat) (k : Nat) (v : Nat) : Nat → Nat := fun j => if j = k then v else f j
def anyW (f : Nat → Int64) (w : Int64) (n : Nat) : Bool := anyB (fun k => decide (f k = w)) n
def agrB (v : Nat → Nat) (n : Nat) (w : Int64) : Bool := Nat.beq (szf 13 w) n && !(anyB (fun i => !(Nat.beq (v i) 0 || Nat.beq (v i) (lt5 w i))) n)
theorem agrB_iff (v : Nat → Nat) (n : Nat) (w : Int64) : agrB v n w = true ↔ agrP v n w := by
  unfold agrB agrP
  rw [Bool.and_eq_true, Bool.not_eq_true', anyB_iff]
  constructor
  · rintro ⟨h1, h2⟩
    refine ⟨Nat.eq_of_beq_eq_true h1, fun i hi => ?_⟩
    have := h2 i hi
    rw [Bool.not_eq_false', Bool.or_eq_true] at this
    rcases this with h | h
    · exact Or.inl (Nat.eq_of_beq_eq_true h)
    · exact Or.inr (Nat.eq_of_beq_eq_true h)
  · rintro ⟨h1, h2⟩
    refine ⟨beq_tt h1, fun i hi => ?_⟩
    rw [Bool.not_eq_false', Bool.or_eq_true]
    rcases h2 i hi with h | h
    · exact Or.inl (beq_tt h)
    · exact Or.inr (beq_tt h)
/-- the word that is looked at next -/
def sW (D : sD) (S : sS) : Int64 := (sC D S.1).getD (S.2.1 S.1) 0
def sOk (D : sD) (S : sS) : Bool := agrB (sV (sE D S.1) (sB D S.2.2 S.1)) (sE D S.1).2.2.1 (sW D S) && !(anyW S.2.2 (sW D S) S.1)
def sLook (D : sD) (S : sS) : sS := if sOk D S = true then (S.1 + 1, updN (updN S.2.1 S.1 (S.2.1 S.1 + 1)) (S.1 + 1) 0, updW S.2.2 S.1 (sW D S)) else (S.1, updN S.2.1 S.1 (S.2.1 S.1 + 1), S.2.2)
def sBack (S : sS) : sS := (S.1 - 1, S.2.1, S.2.2)
/-- on to the next filling: 1: it stands; 0: there is none; 2: no steps are left -/
def sNx (D : sD) (lim : Nat) : Nat → sS → Nat → Option (Nat × sS × Nat)
  | 0, _, _ => none
  | k + 1, S, p => if S.1 = D.1.length then some (1, S, p)
    else if (sC D S.1).length ≤ S.2.1 S.1 then (if S.1 = 0 then some (0, S, p) else sNx D lim k (sBack S) p)
    else if p = lim then some (2, S, p) else sNx D lim k (sLook D S) (p + 1)
/-- enough fuel -/
theorem sNx_some (D : sD) (lim : Nat) : ∀ k S p, p ≤ lim → 2 * (lim - p) + S.1 < k → ∃ r, sNx D lim k S p = some r
  | 0, S, p, _, h => by omega
  | k + 1, S, p, hp, h => by
    unfold sNx
    by_cases g1 : S.1 = D.1.length
    · exact ⟨_, if_pos g1⟩
    · rw [if_neg g1]
      by_cases g2 : (sC D S.1).length ≤ S.2.1 S.1
      · rw [if_pos g2]
        by_cases g3 : S.1 = 0
        · exact ⟨_, if_pos g3⟩
        · rw [if_neg g3]
          refine sNx_some D lim k (sBack S) p hp ?_
          show 2 * (lim - p) + (S.1 - 1) < k
          omega
      · rw [if_neg g2]
        by_cases g3 : p = lim
        · exact ⟨_, if_pos g3⟩
        · rw [if_neg g3]
          refine sNx_some D lim k (sLook D S) (p + 1) (by omega) ?_
          unfold sLook
          split
          · show 2 * (lim - (p + 1)) + (S.1 + 1) < k
            omega
          · show 2 * (lim - (p + 1)) + S.1 < k
            omega
/-- what a state keeps to: the words that are set agree -/
def sI (D : sD) (S : sS) : Prop := S.1 ≤ D.1.length ∧ (∀ k, k < S.1 → agrP (sV (sE D k) (sB D S.2.2 k)) (sE D k).2.2.1 (S.2.2 k)) ∧ ∀ k, k ≤ S.1 → k < D.1.length → S.2.1 k ≤ (sC D k).length
/-- what data keep to -/
def dOK (D : sD) : Prop := D.1.length ≤ 42 ∧ (∀ e, e ∈ D.1 → eOK e) ∧ (∀ k, k < D.1.length → D.2.2.1 k < D.1.length) ∧ (∀ k, k < D.1.length → (D.2.1 k).length ≤ 40) ∧ (∀ k w, k < D.1.length → w ∈ D.2.1 k → wOK 26 w (eAt D.1 k).2.2.1) ∧ ∀ s, D.2.2.2 s < 32
theorem dOK_e {D : sD} (h : dOK D) {k : Nat} (hk : k < D.1.length) : eOK (sE D k) := h.2.1 _ (List.mem_of_getElem? (eAt_get (h.2.2.1 k hk)))
theorem sB_lt {D : sD} (h : dOK D) (tk : Nat → Int64) (s : Nat) : ∀ k, sB D tk k s < 32
  | 0 => h.2.2.2.2.2 s
  | k + 1 => by
    unfold sB
    have ih := sB_lt h tk s k
    generalize (sE D k).2.2.1 = m
    induction m with
    | zero => exact ih
    | succ m ihm =>
      unfold putN
      split
      · exact lt5_lt _ _
      · exact ihm
theorem sI_back {D : sD} {S : sS} (h : sI D S) : sI D (sBack S) := by
  obtain ⟨h1, h2, h3⟩ := h
  refine ⟨?_, fun k hk => h2 k ?_, fun k hk => h3 k ?_⟩
  · show S.1 - 1 ≤ _
    omega
  · have : k < S.1 - 1 := hk
    omega
  · have : k ≤ S.1 - 1 := hk
    omega
theorem sI_look {D : sD} {S : sS} (h : sI D S) (hd : S.1 < D.1.length) (hn : S.2.1 S.1 < (sC D S.1).length) : sI D (sLook D S) := by
  obtain ⟨h1, h2, h3⟩ := h
  unfold sLook
  by_cases g : sOk D S = true
  · rw [if_pos g]
    unfold sOk at g
    rw [Bool.and_eq_true, agrB_iff] at g
    have key : ∀ k, k ≤ S.1 → sB D (updW S.2.2 S.1 (sW D S)) k = sB D S.2.2 k := fun k hk => sB_ext D (fun j hj => by unfold updW; rw [if_neg (by omega)])
    refine ⟨?_, fun k hk => ?_, fun k hk hk2 => ?_⟩
    · show S.1 + 1 ≤ _
      omega
    · have hk : k < S.1 + 1 := hk
      show agrP (sV (sE D k) (sB D (updW S.2.2 S.1 (sW D S)) k)) (sE D k).2.2.1 (updW S.2.2 S.1 (sW D S) k)
      rw [key k (by omega)]
      by_cases e : k = S.1
      · subst e
        unfold updW
        rw [if_pos rfl]
        exact g.1
      · unfold updW
        rw [if_neg e]
        exact h2 k (by omega)
    · have hk : k ≤ S.1 + 1 := hk
      show updN (updN S.2.1 S.1 (S.2.1 S.1 + 1)) (S.1 + 1) 0 k ≤ _
      unfold updN
      by_cases e : k = S.1 + 1
      · rw [if_pos e]
        omega
      · rw [if_neg e]
        by_cases e2 : k = S.1
        · subst e2
          rw [if_pos rfl]
          omega
        · rw [if_neg e2]
          exact h3 k (by omega) hk2
  · rw [if_neg g]
    refine ⟨h1, h2, fun k hk hk2 => ?_⟩
    show updN S.2.1 S.1 (S.2.1 S.1 + 1) k ≤ _
    unfold updN
    by_cases e2 : k = S.1
    · subst e2
      rw [if_pos rfl]
      omega
    · rw [if_neg e2]
      exact h3 k hk hk2
/-- back from a depth: where the entry was empty it is empty again, all else is the same -/
theorem sB_back {D : sD} {tk : Nat → Int64} {k : Nat} (ha : agrP (sV (sE D k) (sB D tk k)) (sE D k).2.2.1 (tk k)) (s : Nat) : sB D tk k s = if ∃ i, i < (sE D k).2.2.1 ∧ s = mPl (sE D k) i ∧ sB D tk k s = 0 then 0 else sB D tk (k + 1) s := by
  by_cases g : ∃ i, i < (sE D k).2.2.1 ∧ s = mPl (sE D k) i
  · obtain ⟨i, hi, rfl⟩ := g
    show _ = if _ then 0 else putN (sB D tk k) (sE D k) (lt5 (tk k)) (sE D k).2.2.1 (mPl (sE D k) i)
    rw [putN_at _ _ _ hi]
    rcases ha.2 i hi with h | h
    · have h : sB D tk k (mPl (sE D k) i) = 0 := h
      rw [if_pos ⟨i, hi, rfl, h⟩]
      exact h
    · have h : sB D tk k (mPl (sE D k) i) = lt5 (tk k) i := h
      by_cases z : sB D tk k (mPl (sE D k) i) = 0
      · rw [if_pos ⟨i, hi, rfl, z⟩]
        exact z
      · rw [if_neg (fun ⟨_, _, _, h3⟩ => z h3)]
        exact h
  · rw [if_neg (fun ⟨i, hi, e, _⟩ => g ⟨i, hi, e⟩)]
    show _ = putN (sB D tk k) (sE D k) (lt5 (tk k)) (sE D k).2.2.1 s
    rw [putN_ne _ _ _ (fun i hi e => g ⟨i, hi, e⟩)]
