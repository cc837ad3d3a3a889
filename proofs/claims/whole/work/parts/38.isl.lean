/-! islands: two ways to count them -/
/-- an injection of the one kind into the other -/
theorem cnt_rm (p : Nat → Bool) (x : Nat) (hx : p x = true) : ∀ n, x < n → cnt p n = cnt (fun s => p s && !(Nat.beq s x)) n + 1 := by
  intro n
  induction n with
  | zero => intro h; omega
  | succ n ih =>
    intro h
    unfold cnt
    by_cases e : n = x
    · subst e
      have same : ∀ m, m ≤ n → cnt p m = cnt (fun s => p s && !(Nat.beq s n)) m := by
        intro m
        induction m with
        | zero => intro _; rfl
        | succ m ihm =>
          intro hm
          unfold cnt
          rw [ihm (by omega)]
          have : Nat.beq m n = false := by
            cases hb : Nat.beq m n with
            | false => rfl
            | true => have := Nat.eq_of_beq_eq_true hb; omega
          simp [this]
      rw [same n (Nat.le_refl n)]
      simp [hx]
    · rw [ih (by omega)]
      have : Nat.beq n x = false := by
        cases hb : Nat.beq n x with
        | false => rfl
        | true => exact absurd (Nat.eq_of_beq_eq_true hb) e
      simp [this]
      omega
theorem cnt_inj (p : Nat → Bool) (N : Nat) : ∀ n, n ≤ N → ∀ (q : Nat → Bool) (f : Nat → Nat), (∀ a, a < n → p a = true → f a < N ∧ q (f a) = true) → (∀ a b, a < n → b < n → p a = true → p b = true → f a = f b → a = b) → cnt p n ≤ cnt q N := by
  intro n
  induction n with
  | zero => intro _ q f _ _; exact Nat.zero_le _
  | succ n ih =>
    intro hn q f h1 h2
    show cnt p n + (if p n = true then 1 else 0) ≤ cnt q N
    by_cases hp : p n = true
    · rw [if_pos hp, cnt_rm q (f n) (h1 n (by omega) hp).2 N (h1 n (by omega) hp).1]
      have := ih (by omega) (fun s => q s && !(Nat.beq s (f n))) f (by
        intro a ha hpa
        refine ⟨(h1 a (by omega) hpa).1, ?_⟩
        have hne : Nat.beq (f a) (f n) = false := by
          cases hb : Nat.beq (f a) (f n) with
          | false => rfl
          | true =>
            have := h2 a n (by omega) (by omega) hpa hp (Nat.eq_of_beq_eq_true hb)
            omega
        show (q (f a) && !(Nat.beq (f a) (f n))) = true
        rw [(h1 a (by omega) hpa).2, hne]
        rfl) (by
        intro a b ha hb
        exact h2 a b (by omega) (by omega))
      omega
    · rw [if_neg hp]
      exact ih (by omega) q f (fun a ha => h1 a (by omega)) (fun a b ha hb => h2 a b (by omega) (by omega))
/-- joined by steps between white neighbours -/
def con (adj : Nat → Nat → Prop) (a b : Nat) : Prop := ∀ P : Nat → Prop, P a → (∀ x y, P x → adj x y → P y) → P b
theorem con_rfl {adj : Nat → Nat → Prop} (a : Nat) : con adj a a := fun _ h _ => h
theorem con_step {adj : Nat → Nat → Prop} {a b c : Nat} (h : con adj a b) (hs : adj b c) : con adj a c := fun P h1 h2 => h2 _ _ (h P h1 h2) hs
theorem con_trans {adj : Nat → Nat → Prop} {a b c : Nat} (h1 : con adj a b) (h2 : con adj b c) : con adj a c := h2 (fun x => con adj a x) h1 (fun _ _ ih hs => con_step ih hs)
theorem con_sym {adj : Nat → Nat → Prop} (hs : ∀ a b, adj a b → adj b a) {a b : Nat} (h : con adj a b) : con adj b a := h (fun x => con adj x a) (con_rfl _) (fun _ _ ih hc => con_trans (con_step (con_rfl _) (hs _ _ hc)) ih)
/-- two ways to name the classes have as many names -/
theorem cls_eq {adj : Nat → Nat → Prop} (N : Nat) (st fx : Nat → Bool) (lab : Nat → Nat) (wh : Nat → Bool)
    (hsym : ∀ a b, adj a b → adj b a)
    (s1 : ∀ a, a < N → st a = true → wh a = true) (s2 : ∀ a b, a < N → b < N → st a = true → st b = true → con adj a b → a = b) (s3 : ∀ a, a < N → wh a = true → ∃ b, b < N ∧ st b = true ∧ con adj b a)
    (f1 : ∀ a, a < N → fx a = true → wh a = true ∧ lab a = a) (f2 : ∀ a, a < N → wh a = true → lab a < N ∧ fx (lab a) = true ∧ con adj a (lab a)) (f3 : ∀ a b, a < N → b < N → wh a = true → wh b = true → con adj a b → lab a = lab b) : cnt st N = cnt fx N := by
  apply Nat.le_antisymm
  · refine cnt_inj st N N (Nat.le_refl N) fx lab (fun a ha h => ⟨(f2 a ha (s1 a ha h)).1, (f2 a ha (s1 a ha h)).2.1⟩) ?_
    intro a b ha hb h1 h2 e
    refine s2 a b ha hb h1 h2 ?_
    have k1 := (f2 a ha (s1 a ha h1)).2.2
    have k2 := (f2 b hb (s1 b hb h2)).2.2
    rw [e] at k1
    exact con_trans k1 (con_sym hsym k2)
  · obtain ⟨g, hg⟩ : ∃ g : Nat → Nat, ∀ a, a < N → wh a = true → g a < N ∧ st (g a) = true ∧ con adj (g a) a := by
      refine Classical.axiomOfChoice (r := fun a b => a < N → wh a = true → b < N ∧ st b = true ∧ con adj b a) (fun a => ?_)
      by_cases h : a < N ∧ wh a = true
      · obtain ⟨b, hb⟩ := s3 a h.1 h.2
        exact ⟨b, fun _ _ => hb⟩
      · exact ⟨0, fun h1 h2 => absurd ⟨h1, h2⟩ h⟩
    refine cnt_inj fx N N (Nat.le_refl N) st g (fun a ha h => ⟨(hg a ha (f1 a ha h).1).1, (hg a ha (f1 a ha h).1).2.1⟩) ?_
    intro a b ha hb h1 h2 e
    have k1 := (hg a ha (f1 a ha h1).1).2.2
    have k2 := (hg b hb (f1 b hb h2).1).2.2
    rw [e] at k1
    have := f3 a b ha hb (f1 a ha h1).1 (f1 b hb h2).1 (con_trans (con_sym hsym k1) k2)
    rw [(f1 a ha h1).2, (f1 b hb h2).2] at this
    exact this
/-- the neighbours of a square -/
def bnb (s : Nat) : List Nat := (if s % 7 < 6 then [s + 1] else []) ++ ((if 0 < s % 7 then [s - 1] else []) ++ ((if s < 42 then [s + 7] else []) ++ (if 7 ≤ s then [s - 7] else [])))
theorem bnb_iff (a b : Nat) : b ∈ bnb a ↔ (a % 7 < 6 ∧ b = a + 1) ∨ (0 < a % 7 ∧ b = a - 1) ∨ (a < 42 ∧ b = a + 7) ∨ (7 ≤ a ∧ b = a - 7) := by
  unfold bnb
  simp only [List.mem_append]
  constructor
  · rintro (h | h | h | h) <;> split at h <;> simp at h <;> omega
  · rintro (h | h | h | h)
    · exact Or.inl (by rw [if_pos h.1]; simp [h.2])
    · exact Or.inr (Or.inl (by rw [if_pos h.1]; simp [h.2]))
    · exact Or.inr (Or.inr (Or.inl (by rw [if_pos h.1]; simp [h.2])))
    · exact Or.inr (Or.inr (Or.inr (by rw [if_pos h.1]; simp [h.2])))
def badj (wv : Nat → Bool) (a b : Nat) : Prop := a < 49 ∧ b < 49 ∧ wv a = true ∧ wv b = true ∧ b ∈ bnb a
theorem badj_sym (wv : Nat → Bool) (a b : Nat) (h : badj wv a b) : badj wv b a := by
  obtain ⟨h1, h2, h3, h4, h5⟩ := h
  refine ⟨h2, h1, h4, h3, ?_⟩
  rw [bnb_iff] at h5 ⊢
  omega
/-- reach one square: what was reached, and the queue -/
def bst (wv : Nat → Bool) (st : (Nat → Bool) × List Nat) (t : Nat) : (Nat → Bool) × List Nat := if (wv t && !st.1 t) = true then (fun s => if s = t then true else st.1 s, st.2 ++ [t]) else st
/-- spread from the i-th of the queue on -/
def bsp (wv : Nat → Bool) : Nat → Nat → (Nat → Bool) × List Nat → (Nat → Bool) × List Nat
  | 0, _, st => st
  | k + 1, i, st => match st.2[i]? with
    | none => st
    | some s => bsp wv k (i + 1) ((bnb s).foldl (bst wv) st)
theorem nd_len : ∀ (l : List Nat) (p : Nat → Bool) (N : Nat), l.Nodup → (∀ a, a ∈ l → a < N ∧ p a = true) → l.length ≤ cnt p N
  | [], _, _, _, _ => Nat.zero_le _
  | x :: l, p, N, hn, h => by
    rw [List.nodup_cons] at hn
    have hx := h x List.mem_cons_self
    rw [cnt_rm p x hx.2 N hx.1, List.length_cons]
    have := nd_len l (fun s => p s && !(Nat.beq s x)) N hn.2 (by
      intro a ha
      have h1 := h a (List.mem_cons_of_mem _ ha)
      refine ⟨h1.1, ?_⟩
      have hne : Nat.beq a x = false := by
        cases hb : Nat.beq a x with
        | false => rfl
        | true => rw [Nat.eq_of_beq_eq_true hb] at ha; exact absurd ha hn.1
      show (p a && !(Nat.beq a x)) = true
      rw [h1.2, hne]
      rfl)
    omega
/-- what holds while a queue is gone through -/
def bJ (wv re0 : Nat → Bool) (s : Nat) (st : (Nat → Bool) × List Nat) : Prop := st.2.Nodup ∧ (∀ a, a ∈ st.2 → a < 49 ∧ wv a = true ∧ re0 a = false ∧ con (badj wv) s a) ∧ ∀ a, st.1 a = true ↔ (re0 a = true ∨ a ∈ st.2)
theorem bJ_len {wv re0 : Nat → Bool} {s : Nat} {st : (Nat → Bool) × List Nat} (h : bJ wv re0 s st) : st.2.length ≤ 49 :=
  Nat.le_trans (nd_len st.2 wv 49 h.1 (fun a ha => ⟨(h.2.1 a ha).1, (h.2.1 a ha).2.1⟩)) (cnt_le wv 49)
theorem bJ_st {wv re0 : Nat → Bool} {s : Nat} {st : (Nat → Bool) × List Nat} (h : bJ wv re0 s st) {a t : Nat} (ha : a ∈ st.2) (ht : t < 49) (hb : t ∈ bnb a) : bJ wv re0 s (bst wv st t) ∧ (∃ l, (bst wv st t).2 = st.2 ++ l) ∧ (wv t = true → (bst wv st t).1 t = true) ∧ (∀ x, st.1 x = true → (bst wv st t).1 x = true) := by
  unfold bst
  by_cases hc : (wv t && !st.1 t) = true
  · rw [if_pos hc]
    rw [Bool.and_eq_true, Bool.not_eq_true'] at hc
    have hn : t ∉ st.2 := fun g => by
      have := (h.2.2 t).2 (Or.inr g)
      rw [hc.2] at this
      cases this
    have h0 : re0 t = false := by
      cases hb : re0 t with
      | false => rfl
      | true =>
        have := (h.2.2 t).2 (Or.inl hb)
        rw [hc.2] at this
        cases this
    have hk := h.2.1 a ha
    refine ⟨⟨?_, ?_, ?_⟩, ⟨[t], rfl⟩, fun _ => by simp, fun x hx => by simp [hx]⟩
    · show (st.2 ++ [t]).Nodup
      rw [List.nodup_append]
      refine ⟨h.1, by simp, ?_⟩
      intro x hx y hy
      rw [List.mem_singleton] at hy
      subst hy
      intro e
      subst e
      exact hn hx
    · intro x hx
      have hx2 : x ∈ st.2 ++ [t] := hx
      rw [List.mem_append, List.mem_singleton] at hx2
      rcases hx2 with hx2 | rfl
      · exact h.2.1 x hx2
      · exact ⟨ht, hc.1, h0, con_step hk.2.2.2 ⟨hk.1, ht, hk.2.1, hc.1, hb⟩⟩
    · intro x
      show (if x = t then true else st.1 x) = true ↔ (re0 x = true ∨ x ∈ st.2 ++ [t])
      rw [List.mem_append, List.mem_singleton]
      by_cases e : x = t
      · rw [if_pos e]
        exact ⟨fun _ => Or.inr (Or.inr e), fun _ => rfl⟩
      · rw [if_neg e, h.2.2 x]
        constructor
        · rintro (g | g)
          · exact Or.inl g
          · exact Or.inr (Or.inl g)
        · rintro (g | g | g)
          · exact Or.inl g
          · exact Or.inr g
          · exact absurd g e
  · rw [if_neg hc]
    refine ⟨h, ⟨[], by simp⟩, ?_, fun x hx => hx⟩
    intro hw
    cases hb : st.1 t with
    | true => rfl
    | false =>
      rw [hw, hb] at hc
      exact absurd rfl hc
theorem bJ_fold {wv re0 : Nat → Bool} {s a : Nat} : ∀ (l : List Nat) {st : (Nat → Bool) × List Nat}, bJ wv re0 s st → a ∈ st.2 → (∀ t, t ∈ l → t < 49 ∧ t ∈ bnb a) → bJ wv re0 s (l.foldl (bst wv) st) ∧ (∃ m, (l.foldl (bst wv) st).2 = st.2 ++ m) ∧ (∀ t, t ∈ l → wv t = true → (l.foldl (bst wv) st).1 t = true) ∧ (∀ x, st.1 x = true → (l.foldl (bst wv) st).1 x = true)
  | [], st, h, _, _ => ⟨h, ⟨[], by simp⟩, fun t ht => (by cases ht), fun _ hx => hx⟩
  | t :: l, st, h, ha, hl => by
    have ht := hl t List.mem_cons_self
    obtain ⟨h1, ⟨m1, e1⟩, h3, h4⟩ := bJ_st h ha ht.1 ht.2
    obtain ⟨k1, ⟨m2, e2⟩, k3, k4⟩ := bJ_fold l h1 (by rw [e1]; exact List.mem_append_left _ ha) (fun x hx => hl x (List.mem_cons_of_mem _ hx))
    refine ⟨k1, ⟨m1 ++ m2, ?_⟩, ?_, fun x hx => k4 x (h4 x hx)⟩
    · rw [List.foldl_cons, e2, e1, List.append_assoc]
    · intro x hx hw
      rcases List.mem_cons.mp hx with rfl | hx
      · exact k4 _ (h3 hw)
      · exact k3 x hx hw
theorem bnb_lt {a t : Nat} (ha : a < 49) (h : t ∈ bnb a) : t < 49 := by
  rw [bnb_iff] at h
  omega
/-- behind the spreading just what is joined with the start has been reached besides -/
theorem bsp_ok {wv re0 : Nat → Bool} {s : Nat} (h0 : ∀ a b, re0 a = true → badj wv a b → re0 b = true) : ∀ k i st, i + k = 49 → bJ wv re0 s st → i ≤ st.2.length → s ∈ st.2 → (∀ j x, j < i → st.2[j]? = some x → ∀ t, badj wv x t → st.1 t = true) → ∀ a, (bsp wv k i st).1 a = true ↔ (re0 a = true ∨ con (badj wv) s a) := by
  intro k
  have fin : ∀ i (st : (Nat → Bool) × List Nat), bJ wv re0 s st → st.2.length ≤ i → s ∈ st.2 → (∀ j x, j < i → st.2[j]? = some x → ∀ t, badj wv x t → st.1 t = true) → ∀ a, st.1 a = true ↔ (re0 a = true ∨ con (badj wv) s a) := by
    intro i st hJ hi hs hp a
    rw [hJ.2.2 a]
    constructor
    · rintro (g | g)
      · exact Or.inl g
      · exact Or.inr (hJ.2.1 a g).2.2.2
    · rintro (g | g)
      · exact Or.inl g
      · right
        refine g (fun x => x ∈ st.2) hs ?_
        intro b c ih hc
        · obtain ⟨j, hj, e⟩ := List.getElem_of_mem ih
          have h1 := hp j b (by omega) (by rw [List.getElem?_eq_getElem hj, e]) c hc
          rcases (hJ.2.2 c).1 h1 with g | g
          · have h2 := h0 c b g (badj_sym wv _ _ hc)
            rw [(hJ.2.1 b ih).2.2.1] at h2
            cases h2
          · exact g
  induction k with
  | zero =>
    intro i st hi hJ hl hs hp
    exact fin i st hJ (by have := bJ_len hJ; omega) hs hp
  | succ k ih =>
    intro i st hi hJ hl hs hp
    unfold bsp
    cases hq : st.2[i]? with
    | none =>
      dsimp only
      exact fin i st hJ (List.getElem?_eq_none_iff.mp hq) hs hp
    | some x =>
      dsimp only
      have hx : x ∈ st.2 := List.mem_of_getElem? hq
      obtain ⟨k1, ⟨m, e⟩, k3, k4⟩ := bJ_fold (bnb x) hJ hx (fun t ht => ⟨bnb_lt (hJ.2.1 x hx).1 ht, ht⟩)
      refine ih (i + 1) _ (by omega) k1 ?_ ?_ ?_
      · rw [e, List.length_append]
        have := (List.getElem?_eq_some_iff.mp hq).1
        omega
      · rw [e]
        exact List.mem_append_left _ hs
      · intro j y hj hy t ht
        have hlt := (List.getElem?_eq_some_iff.mp hq).1
        rw [e, List.getElem?_append_left (by omega)] at hy
        by_cases h1 : j < i
        · exact k4 t (hp j y h1 hy t ht)
        · have h2 : j = i := by omega
          subst h2
          rw [hq] at hy
          cases hy
          exact k3 t ht.2.2.2.2 ht.2.2.2.1
/-- a square of the great loop: the reached, and how many islands -/
def bout (wv : Nat → Bool) (s : Nat) (st : (Nat → Bool) × Nat) : (Nat → Bool) × Nat := if (wv s && !st.1 s) = true then ((bsp wv 49 0 (fun x => if x = s then true else st.1 x, [s])).1, st.2 + 1) else st
def bI (wv : Nat → Bool) (st : (Nat → Bool) × Nat) : Prop := (∀ a, st.1 a = true → a < 49 ∧ wv a = true) ∧ (∀ a b, st.1 a = true → badj wv a b → st.1 b = true) ∧ ∃ ss : Nat → Bool, cnt ss 49 = st.2 ∧ (∀ a, ss a = true → st.1 a = true) ∧ (∀ a b, ss a = true → ss b = true → con (badj wv) a b → a = b) ∧ (∀ a, st.1 a = true → ∃ b, ss b = true ∧ con (badj wv) b a)
theorem bI_con {wv : Nat → Bool} {st : (Nat → Bool) × Nat} (h : bI wv st) {a b : Nat} (ha : st.1 a = true) (hc : con (badj wv) a b) : st.1 b = true := by
  exact hc (fun x => st.1 x = true) ha (fun _ _ ih h2 => h.2.1 _ _ ih h2)
theorem con_lt {wv : Nat → Bool} {a b : Nat} (h : con (badj wv) a b) (ha : a < 49 ∧ wv a = true) : b < 49 ∧ wv b = true := by
  exact h (fun x => x < 49 ∧ wv x = true) ha (fun _ _ _ h2 => ⟨h2.2.1, h2.2.2.2.1⟩)
theorem bI_out {wv : Nat → Bool} {s : Nat} {st : (Nat → Bool) × Nat} (hs : s < 49) (h : bI wv st) : bI wv (bout wv s st) ∧ (wv s = true → (bout wv s st).1 s = true) ∧ (∀ a, st.1 a = true → (bout wv s st).1 a = true) := by
  unfold bout
  by_cases hc : (wv s && !st.1 s) = true
  · rw [if_pos hc]
    rw [Bool.and_eq_true, Bool.not_eq_true'] at hc
    have key : ∀ a, (bsp wv 49 0 (fun x => if x = s then true else st.1 x, [s])).1 a = true ↔ (st.1 a = true ∨ con (badj wv) s a) := by
      refine bsp_ok h.2.1 49 0 _ rfl ⟨by simp, ?_, ?_⟩ (Nat.zero_le _) (by simp) (fun j x hj => absurd hj (Nat.not_lt_zero j))
      · intro a ha
        have : a = s := List.mem_singleton.mp ha
        subst this
        exact ⟨hs, hc.1, hc.2, con_rfl _⟩
      · intro a
        show (if a = s then true else st.1 a) = true ↔ (st.1 a = true ∨ a ∈ [s])
        rw [List.mem_singleton]
        by_cases e : a = s
        · rw [if_pos e]
          exact ⟨fun _ => Or.inr e, fun _ => rfl⟩
        · rw [if_neg e]
          exact ⟨Or.inl, fun g => g.resolve_right e⟩
    refine ⟨⟨?_, ?_, ?_⟩, fun _ => (key s).2 (Or.inr (con_rfl s)), fun a ha => (key a).2 (Or.inl ha)⟩
    · intro a ha
      rcases (key a).1 ha with g | g
      · exact h.1 a g
      · exact con_lt g ⟨hs, hc.1⟩
    · intro a b ha hab
      refine (key b).2 ?_
      rcases (key a).1 ha with g | g
      · exact Or.inl (h.2.1 a b g hab)
      · exact Or.inr (con_step g hab)
    · obtain ⟨ss, c1, c2, c3, c4⟩ := h.2.2
      have hns : ss s = false := by
        cases hb : ss s with
        | false => rfl
        | true =>
          have := c2 s hb
          rw [hc.2] at this
          cases this
      refine ⟨fun x => if x = s then true else ss x, ?_, ?_, ?_, ?_⟩
      · rw [cnt_rm _ s (by simp) 49 hs]
        show _ = st.2 + 1
        rw [← c1]
        congr 1
        congr 1
        funext x
        by_cases e : x = s
        · subst e
          simp [hns]
        · have : Nat.beq x s = false := by
            cases hb : Nat.beq x s with
            | false => rfl
            | true => exact absurd (Nat.eq_of_beq_eq_true hb) e
          simp [e, this]
      · intro a ha
        refine (key a).2 ?_
        by_cases e : a = s
        · subst e
          exact Or.inr (con_rfl _)
        · dsimp only at ha
          rw [if_neg e] at ha
          exact Or.inl (c2 a ha)
      · intro a b ha hb hab
        dsimp only at ha hb
        by_cases e : a = s
        · subst e
          by_cases e2 : b = a
          · exact e2.symm
          · rw [if_neg e2] at hb
            have := bI_con h (c2 b hb) (con_sym (badj_sym wv) hab)
            rw [hc.2] at this
            cases this
        · rw [if_neg e] at ha
          by_cases e2 : b = s
          · subst e2
            have := bI_con h (c2 a ha) hab
            rw [hc.2] at this
            cases this
          · rw [if_neg e2] at hb
            exact c3 a b ha hb hab
      · intro a ha
        rcases (key a).1 ha with g | g
        · obtain ⟨b, b1, b2⟩ := c4 a g
          have e : b ≠ s := fun e => by
            subst e
            rw [hns] at b1
            cases b1
          exact ⟨b, by dsimp only; rw [if_neg e]; exact b1, b2⟩
        · exact ⟨s, by simp, g⟩
  · rw [if_neg hc]
    refine ⟨h, ?_, fun a ha => ha⟩
    intro hw
    cases hb : st.1 s with
    | true => rfl
    | false =>
      rw [hw, hb] at hc
      exact absurd rfl hc
theorem cnt_0 (n : Nat) : cnt (fun _ => false) n = 0 := by
  induction n with
  | zero => rfl
  | succ n ih => unfold cnt; rw [ih]; rfl
theorem bI_0 (wv : Nat → Bool) : bI wv (fun _ => false, 0) := ⟨fun a h => (by cases h), fun a b h => (by cases h), ⟨fun _ => false, cnt_0 49, fun a h => (by cases h), fun a b h => (by cases h), fun a h => (by cases h)⟩⟩
/-- the reference: the labels of the white squares, and how many there are -/
def uni (wv : Nat → Bool) (a b : Nat) (st : (Nat → Nat) × Nat) : (Nat → Nat) × Nat := if (wv a && wv b && !(Nat.beq (st.1 a) (st.1 b))) = true then (fun s => if st.1 s = st.1 b then st.1 a else st.1 s, st.2 - 1) else st
def uEa (s : Nat) : Nat := if s % 7 < 6 then s + 1 else s
def uSo (s : Nat) : Nat := if s < 42 then s + 7 else s
def uAll (wv : Nat → Bool) : Nat → (Nat → Nat) × Nat
  | 0 => (fun s => s, cnt wv 49)
  | s + 1 => uni wv s (uSo s) (uni wv s (uEa s) (uAll wv s))
def uI (wv : Nat → Bool) (st : (Nat → Nat) × Nat) : Prop := (∀ a, a < 49 → wv a = true → st.1 a < 49 ∧ wv (st.1 a) = true ∧ st.1 (st.1 a) = st.1 a ∧ con (badj wv) a (st.1 a)) ∧ st.2 = cnt (fun s => wv s && Nat.beq (st.1 s) s) 49
theorem beq_f {a b : Nat} (h : a ≠ b) : Nat.beq a b = false := by
  cases hb : Nat.beq a b with
  | false => rfl
  | true => exact absurd (Nat.eq_of_beq_eq_true hb) h
theorem beq_tt {a b : Nat} (h : a = b) : Nat.beq a b = true := by
  subst h
  exact Nat.beq_refl a
theorem uI_uni {wv : Nat → Bool} {a b : Nat} {st : (Nat → Nat) × Nat} (h : uI wv st) (ha : a < 49) (hb : b < 49) (hab : a = b ∨ b ∈ bnb a) :
    uI wv (uni wv a b st) ∧ (wv a = true → wv b = true → (uni wv a b st).1 a = (uni wv a b st).1 b) ∧ (∀ x y, st.1 x = st.1 y → (uni wv a b st).1 x = (uni wv a b st).1 y) ∧ (uni wv a b st).2 ≤ st.2 := by
  unfold uni
  by_cases hc : (wv a && wv b && !(Nat.beq (st.1 a) (st.1 b))) = true
  · rw [if_pos hc]
    rw [Bool.and_eq_true, Bool.and_eq_true, Bool.not_eq_true'] at hc
    obtain ⟨⟨wa, wb⟩, hne⟩ := hc
    have hne : st.1 a ≠ st.1 b := fun e => by rw [beq_tt e] at hne; cases hne
    have hadj : badj wv a b := by
      rcases hab with e | e
      · subst e
        exact absurd rfl hne
      · exact ⟨ha, hb, wa, wb, e⟩
    have ka := h.1 a ha wa
    have kb := h.1 b hb wb
    have cba : con (badj wv) (st.1 b) (st.1 a) := con_trans (con_sym (badj_sym wv) kb.2.2.2) (con_trans (con_step (con_rfl b) (badj_sym wv _ _ hadj)) ka.2.2.2)
    refine ⟨⟨?_, ?_⟩, ?_, ?_, Nat.sub_le _ _⟩
    · intro x hx wx
      have kx := h.1 x hx wx
      dsimp only
      by_cases e : st.1 x = st.1 b
      · rw [if_pos e, ka.2.2.1]
        refine ⟨ka.1, ka.2.1, ?_, ?_⟩
        · split <;> rfl
        · refine con_trans kx.2.2.2 ?_
          rw [e]
          exact cba
      · rw [if_neg e, kx.2.2.1, if_neg e]
        exact ⟨kx.1, kx.2.1, rfl, kx.2.2.2⟩
    · dsimp only
      rw [h.2, cnt_rm (fun s => wv s && Nat.beq (st.1 s) s) (st.1 b) (by rw [kb.2.1, beq_tt kb.2.2.1]; rfl) 49 kb.1, Nat.add_sub_cancel]
      congr 1
      funext x
      by_cases e : st.1 x = st.1 b
      · rw [if_pos e]
        by_cases e2 : x = st.1 b
        · subst e2
          rw [beq_tt rfl, beq_f hne]
          simp
        · rw [e, beq_f (fun e3 => e2 e3.symm)]
          have : Nat.beq (st.1 a) x = false := by
            refine beq_f (fun e3 => ?_)
            subst e3
            rw [ka.2.2.1] at e
            exact hne e
          rw [this]
          simp
      · rw [if_neg e]
        have : Nat.beq x (st.1 b) = false := by
          refine beq_f (fun e3 => ?_)
          subst e3
          exact e kb.2.2.1
        rw [this]
        simp
    · intro _ _
      dsimp only
      rw [if_neg hne, if_pos rfl]
    · intro x y e
      dsimp only
      rw [e]
  · rw [if_neg hc]
    refine ⟨h, ?_, fun _ _ e => e, Nat.le_refl _⟩
    intro wa wb
    rw [wa, wb] at hc
    cases hb : Nat.beq (st.1 a) (st.1 b) with
    | true => exact Nat.eq_of_beq_eq_true hb
    | false =>
      rw [hb] at hc
      exact absurd rfl hc
theorem uEa_nb (s : Nat) : s = uEa s ∨ uEa s ∈ bnb s := by
  rw [bnb_iff]
  unfold uEa
  split <;> omega
theorem uSo_nb (s : Nat) : s = uSo s ∨ uSo s ∈ bnb s := by
  rw [bnb_iff]
  unfold uSo
  split <;> omega
theorem uEa_lt {s : Nat} (h : s < 49) : uEa s < 49 := by
  unfold uEa
  split <;> omega
theorem uSo_lt {s : Nat} (h : s < 49) : uSo s < 49 := by
  unfold uSo
  split <;> omega
theorem uI_0 (wv : Nat → Bool) : uI wv (uAll wv 0) := by
  refine ⟨fun a ha wa => ⟨ha, wa, rfl, con_rfl a⟩, ?_⟩
  show cnt wv 49 = cnt (fun s => wv s && Nat.beq s s) 49
  congr 1
  funext s
  rw [Nat.beq_refl]
  simp
theorem uAll_ok (wv : Nat → Bool) : ∀ n, n ≤ 49 → uI wv (uAll wv n) ∧ ∀ s, s < n → wv s = true → (wv (uEa s) = true → (uAll wv n).1 s = (uAll wv n).1 (uEa s)) ∧ (wv (uSo s) = true → (uAll wv n).1 s = (uAll wv n).1 (uSo s)) := by
  intro n
  induction n with
  | zero => intro _; exact ⟨uI_0 wv, fun s hs => absurd hs (Nat.not_lt_zero s)⟩
  | succ n ih =>
    intro hn
    obtain ⟨h1, h2⟩ := ih (by omega)
    obtain ⟨a1, a2, a3, -⟩ := uI_uni h1 (show n < 49 by omega) (uEa_lt (by omega)) (uEa_nb n)
    obtain ⟨b1, b2, b3, -⟩ := uI_uni a1 (show n < 49 by omega) (uSo_lt (by omega)) (uSo_nb n)
    refine ⟨b1, ?_⟩
    intro s hs ws
    by_cases e : s = n
    · subst e
      exact ⟨fun w => b3 _ _ (a2 ws w), fun w => b2 ws w⟩
    · have := h2 s (by omega) ws
      exact ⟨fun w => b3 _ _ (a3 _ _ (this.1 w)), fun w => b3 _ _ (a3 _ _ (this.2 w))⟩
/-- the two counts are one -/
theorem isl_eq (wv : Nat → Bool) (st : (Nat → Bool) × Nat) (h : bI wv st) (hall : ∀ a, a < 49 → wv a = true → st.1 a = true) : st.2 = (uAll wv 49).2 := by
  obtain ⟨ss, c1, c2, c3, c4⟩ := h.2.2
  obtain ⟨u1, u2⟩ := uAll_ok wv 49 (Nat.le_refl 49)
  rw [← c1, u1.2]
  refine cls_eq (adj := badj wv) 49 ss _ (uAll wv 49).1 wv (badj_sym wv) (fun a ha hs => (h.1 a (c2 a hs)).2) (fun a b _ _ h1 h2 hc => c3 a b h1 h2 hc) ?_ ?_ ?_ ?_
  · intro a ha wa
    obtain ⟨b, b1, b2⟩ := c4 a (hall a ha wa)
    exact ⟨b, (h.1 b (c2 b b1)).1, b1, b2⟩
  · intro a ha hx
    rw [Bool.and_eq_true] at hx
    exact ⟨hx.1, Nat.eq_of_beq_eq_true hx.2⟩
  · intro a ha wa
    have := u1.1 a ha wa
    refine ⟨this.1, ?_, this.2.2.2⟩
    rw [this.2.1, beq_tt this.2.2.1]
    rfl
  · intro a b ha hb wa wb hc
    have key : ∀ x y, badj wv x y → (uAll wv 49).1 x = (uAll wv 49).1 y := by
      intro x y hxy
      obtain ⟨h1, h2, h3, h4, h5⟩ := hxy
      rw [bnb_iff] at h5
      rcases h5 with ⟨g, e⟩ | ⟨g, e⟩ | ⟨g, e⟩ | ⟨g, e⟩
      · have e2 : uEa x = y := by unfold uEa; rw [if_pos g, e]
        have := (u2 x h1 h3).1
        rw [e2] at this
        exact this h4
      · have e2 : uEa y = x := by unfold uEa; rw [if_pos (by omega)]; omega
        have := (u2 y h2 h4).1
        rw [e2] at this
        exact (this h3).symm
      · have e2 : uSo x = y := by unfold uSo; rw [if_pos g, e]
        have := (u2 x h1 h3).2
        rw [e2] at this
        exact this h4
      · have e2 : uSo y = x := by unfold uSo; rw [if_pos (by omega)]; omega
        have := (u2 y h2 h4).2
        rw [e2] at this
        exact (this h3).symm
    have : ∀ y, con (badj wv) a y → (uAll wv 49).1 a = (uAll wv 49).1 y := by
      intro y hy
      exact hy (fun x => (uAll wv 49).1 a = (uAll wv 49).1 x) rfl (fun x z ih h2 => by rw [ih]; exact key _ _ h2)
    exact this b hc
