/-! the entries of a grid -/
abbrev eT : Type := Nat × Bool × Nat × Nat
/-- what a square adds to the entries (A, B: one across, one down begins there; la, lb: how long) -/
def eStep (A B : Nat → Nat → Bool) (la lb : Nat → Nat → Nat) (i j : Nat) (s : List eT × Nat) : List eT × Nat :=
  let n := s.2 + (if (A i j || B i j) = true then 1 else 0)
  (s.1 ++ ((if A i j = true then [(i * 7 + j, false, la i j, n)] else []) ++ (if B i j = true then [(i * 7 + j, true, lb i j, n)] else [])), n)
def eRow (A B : Nat → Nat → Bool) (la lb : Nat → Nat → Nat) (i : Nat) (s : List eT × Nat) : Nat → List eT × Nat
  | 0 => s
  | j + 1 => eStep A B la lb i j (eRow A B la lb i s j)
def eAll (A B : Nat → Nat → Bool) (la lb : Nat → Nat → Nat) (W : Nat) : Nat → List eT × Nat
  | 0 => ([], 0)
  | i + 1 => eRow A B la lb i (eAll A B la lb W i) W
theorem eStep_le (A B : Nat → Nat → Bool) (la lb : Nat → Nat → Nat) (i j : Nat) (s : List eT × Nat) : s.1.length ≤ (eStep A B la lb i j s).1.length := by
  unfold eStep
  dsimp only
  rw [List.length_append]
  omega
theorem eRow_le (A B : Nat → Nat → Bool) (la lb : Nat → Nat → Nat) (i : Nat) (s : List eT × Nat) {j k : Nat} (h : j ≤ k) : (eRow A B la lb i s j).1.length ≤ (eRow A B la lb i s k).1.length := by
  induction h with
  | refl => exact Nat.le_refl _
  | step _ ih => exact Nat.le_trans ih (eStep_le A B la lb i _ _)
theorem eAll_le (A B : Nat → Nat → Bool) (la lb : Nat → Nat → Nat) (W : Nat) {i k : Nat} (h : i ≤ k) : (eAll A B la lb W i).1.length ≤ (eAll A B la lb W k).1.length := by
  induction h with
  | refl => exact Nat.le_refl _
  | step _ ih => exact Nat.le_trans ih (eRow_le A B la lb _ _ (Nat.zero_le W))
def tabIs (M : mm_T) (t sa dn le nu : Nat) (es : List eT) : Prop := M.1 t 4 = nI es.length ∧ ∀ k q, es[k]? = some q → M.1 sa k = nI q.1 ∧ M.1 dn k = zz q.2.1 ∧ M.1 le k = nI q.2.2.1 ∧ M.1 nu k = nI q.2.2.2
def tFr (M M' : mm_T) (t sa dn le nu : Nat) : Prop := M'.2 = M.2 ∧ ∀ a, a ≠ t → a ≠ sa → a ≠ dn → a ≠ le → a ≠ nu → M'.1 a = M.1 a
theorem tabIs_add {sh : List sh_T} {M M0 : mm_T} {t sa dn le nu s k n : Nat} {b : Bool} {es : List eT} (ht : tSh sh t sa dn le nu) (h : tabIs M t sa dn le nu es) (hf : tFr M0 M t sa dn le nu) :
    tabIs (tAdd M t sa dn le nu es.length (nI s) (zz b) (nI k) (nI n)) t sa dn le nu (es ++ [(s, b, k, n)]) ∧ tFr M0 (tAdd M t sa dn le nu es.length (nI s) (zz b) (nI k) (nI n)) t sa dn le nu := by
  obtain ⟨-, -, -, -, -, n1, n2, n3, n4, n5, n6, n7, n8, n9, n10⟩ := ht
  have e1 : (tAdd M t sa dn le nu es.length (nI s) (zz b) (nI k) (nI n)).1 sa = upd (M.1 sa) es.length (nI s) := by
    unfold tAdd
    rw [mI_ne _ _ _ n1, mI_ne _ _ _ (Ne.symm n7), mI_ne _ _ _ (Ne.symm n6), mI_ne _ _ _ (Ne.symm n5), mI_eq]
  have e2 : (tAdd M t sa dn le nu es.length (nI s) (zz b) (nI k) (nI n)).1 dn = upd (M.1 dn) es.length (zz b) := by
    unfold tAdd
    rw [mI_ne _ _ _ n2, mI_ne _ _ _ (Ne.symm n9), mI_ne _ _ _ (Ne.symm n8), mI_eq, mI_ne _ _ _ n5]
  have e3 : (tAdd M t sa dn le nu es.length (nI s) (zz b) (nI k) (nI n)).1 le = upd (M.1 le) es.length (nI k) := by
    unfold tAdd
    rw [mI_ne _ _ _ n3, mI_ne _ _ _ (Ne.symm n10), mI_eq, mI_ne _ _ _ n8, mI_ne _ _ _ n6]
  have e4 : (tAdd M t sa dn le nu es.length (nI s) (zz b) (nI k) (nI n)).1 nu = upd (M.1 nu) es.length (nI n) := by
    unfold tAdd
    rw [mI_ne _ _ _ n4, mI_eq, mI_ne _ _ _ n10, mI_ne _ _ _ n9, mI_ne _ _ _ n7]
  refine ⟨⟨?_, ?_⟩, ?_, ?_⟩
  · unfold tAdd
    rw [mI_eq, pk_us, List.length_append]
    rfl
  · intro j q hj
    rw [e1, e2, e3, e4]
    by_cases hl : j < es.length
    · rw [List.getElem?_append_left hl] at hj
      have hne : j ≠ es.length := by omega
      rw [pk_un hne, pk_un hne, pk_un hne, pk_un hne]
      exact h.2 j q hj
    · rw [List.getElem?_append_right (by omega)] at hj
      have h1 : j - es.length < 1 := (List.getElem?_eq_some_iff.mp hj).1
      have h2 : j = es.length := by omega
      subst h2
      rw [Nat.sub_self] at hj
      cases hj
      rw [pk_us, pk_us, pk_us, pk_us]
      exact ⟨rfl, rfl, rfl, rfl⟩
  · exact hf.1
  · intro a g1 g2 g3 g4 g5
    unfold tAdd
    rw [mI_ne _ _ _ g1, mI_ne _ _ _ g5, mI_ne _ _ _ g4, mI_ne _ _ _ g3, mI_ne _ _ _ g2]
    exact hf.2 a g1 g2 g3 g4 g5
def eA (h : Int32) (ln cs : Nat → Int32) (i j : Nat) : Bool := if gJR h ln cs (nI i) (nI j) = false then false else if gJR h ln cs (nI i) (nI j - 1) = true then false else true
def eB (h : Int32) (ln cs : Nat → Int32) (i j : Nat) : Bool := if gJB h ln cs (nI i) (nI j) = false then false else if gJB h ln cs (nI i - 1) (nI j) = true then false else true
def eLa (h : Int32) (ln cs : Nat → Int32) (i j : Nat) : Nat := runF (fun n => gJR h ln cs (nI i) (nI (j + n - 1))) 1 6
def eLb (h : Int32) (ln cs : Nat → Int32) (i j : Nat) : Nat := runF (fun n => gJB h ln cs (nI (i + n - 1)) (nI j)) 1 6
def ents (h : Int32) (ln cs : Nat → Int32) (W H : Nat) : List eT := (eAll (eA h ln cs) (eB h ln cs) (eLa h ln cs) (eLb h ln cs) W H).1
section LA
variable {L : Nat} {xs : Nat → Int32} {d : Nat} {sh : List sh_T} {M : mm_T} {Q : Option Value → sm_W → Prop} {g c l sp re t sa dn le nu : Nat}
theorem c_lookAt {H Wd : Nat} (hg : gSh sh g c l sp re) (ht : tSh sh t sa dn le nu) (hk : gOK M g l) (hH : M.1 g 5 = nI H) (hH7 : H ≤ 7) (hW : M.1 g 6 = nI Wd) (hW7 : Wd ≤ 7)
    (hgt : g ≠ t ∧ g ≠ sa ∧ g ≠ dn ∧ g ≠ le ∧ g ≠ nu) (hct : c ≠ t ∧ c ≠ sa ∧ c ≠ dn ∧ c ≠ le ∧ c ≠ nu) (hlt : l ≠ t ∧ l ≠ sa ∧ l ≠ dn ∧ l ≠ le ∧ l ≠ nu)
    (h42 : (ents (M.1 g 5) (M.1 l) (M.1 c) Wd H).length ≤ 42)
    (hq : ∀ M', tabIs M' t sa dn le nu (ents (M.1 g 5) (M.1 l) (M.1 c) Wd H) → tFr M M' t sa dn le nu → Q none (wm sh M')) : sm_E L xs (d + 5) 74 [.ref t, .ref g] (wm sh M) Q := by
  have key : ∀ M', tFr M M' t sa dn le nu → M'.1 g = M.1 g ∧ M'.1 c = M.1 c ∧ M'.1 l = M.1 l ∧ gOK M' g l := by
    intro M' hf
    have k1 := hf.2 g hgt.1 hgt.2.1 hgt.2.2.1 hgt.2.2.2.1 hgt.2.2.2.2
    have k2 := hf.2 c hct.1 hct.2.1 hct.2.2.1 hct.2.2.2.1 hct.2.2.2.2
    have k3 := hf.2 l hlt.1 hlt.2.1 hlt.2.2.1 hlt.2.2.2.1 hlt.2.2.2.2
    refine ⟨k1, k2, k3, ?_⟩
    unfold gOK
    rw [k1, k3]
    exact hk
  unfold ents at h42 hq
  generalize hA : eA (M.1 g 5) (M.1 l) (M.1 c) = A at h42 hq
  generalize hB : eB (M.1 g 5) (M.1 l) (M.1 c) = B at h42 hq
  generalize hla : eLa (M.1 g 5) (M.1 l) (M.1 c) = la at h42 hq
  generalize hlb : eLb (M.1 g 5) (M.1 l) (M.1 c) = lb at h42 hq
  refine e_intro rfl rfl ?_
  repeat (first | refine x_kcg rfl ?_ | refine x_incg rfl rfl ?_ | refine x_opp rfl rfl ?_)
  refine m_putI ht.1 rfl ?_
  repeat (first | refine x_kcg rfl ?_ | refine x_incg rfl rfl ?_ | refine x_opp rfl rfl ?_)
  refine x_fall ?_
  refine x_lvs [(0, .ref t), (1, .ref g), (2, .int (nI 0)), (3, .int (nI 0))] rfl rfl rfl ⟨rfl, rfl, rfl, rfl, trivial⟩ ?_
  have hstart : tabIs (m_setI M t 4 0) t sa dn le nu [] ∧ tFr M (m_setI M t 4 0) t sa dn le nu := by
    refine ⟨⟨by rw [mI_eq]; rfl, fun k q h => (by cases h)⟩, rfl, fun a h1 _ _ _ _ => mI_ne _ _ _ h1⟩
  refine loop_dn (P := fun i => ∀ M', tabIs M' t sa dn le nu (eAll A B la lb Wd i).1 → tFr M M' t sa dn le nu → sm_X L xs (d + 4) 74 1 (sm_code 74 1) [(0, .ref t), (1, .ref g), (2, .int (nI (eAll A B la lb Wd i).2)), (3, .int (nI i))] [] (wm sh M') Q) H ?_ ?_ _ hstart.1 hstart.2
  · intro M' h1 h2
    obtain ⟨k1, -, -, -⟩ := key M' h2
    repeat (first | refine x_kcg rfl ?_ | refine x_opp rfl rfl ?_ | refine x_go rfl ?_ | refine m_getg hg.1 rfl rfl rfl ?_)
    rw [k1, hH]
    refine x_icm br_ge (fun _ => ?_) (fun h3 => absurd (nI_le (Nat.le_refl H) (by omega)) h3)
    exact x_ret (hq M' h1 h2)
  · intro i hi hP M' h1 h2
    obtain ⟨k1, -, -, -⟩ := key M' h2
    repeat (first | refine x_kcg rfl ?_ | refine x_opp rfl rfl ?_ | refine x_go rfl ?_ | refine m_getg hg.1 rfl rfl rfl ?_)
    rw [k1, hH]
    refine x_icm br_ge (fun h3 => absurd h3 (nI_ge hi (by omega))) (fun _ => ?_)
    repeat (first | refine x_kcg rfl ?_ | refine x_incg rfl rfl ?_ | refine x_opp rfl rfl ?_)
    refine x_fall ?_
    refine x_lvs [(0, .ref t), (1, .ref g), (2, .int (nI (eRow A B la lb i (eAll A B la lb Wd i) 0).2)), (3, .int (nI i)), (4, .int (nI 0))] rfl rfl rfl ⟨rfl, rfl, rfl, rfl, rfl, trivial⟩ ?_
    refine loop_dn (P := fun j => ∀ M', tabIs M' t sa dn le nu (eRow A B la lb i (eAll A B la lb Wd i) j).1 → tFr M M' t sa dn le nu → sm_X L xs (d + 4) 74 3 (sm_code 74 3) [(0, .ref t), (1, .ref g), (2, .int (nI (eRow A B la lb i (eAll A B la lb Wd i) j).2)), (3, .int (nI i)), (4, .int (nI j))] [] (wm sh M') Q) Wd ?_ ?_ M' h1 h2
    · intro M1 g1 g2
      obtain ⟨k1, -, -, -⟩ := key M1 g2
      repeat (first | refine x_kcg rfl ?_ | refine x_opp rfl rfl ?_ | refine x_go rfl ?_ | refine m_getg hg.1 rfl rfl rfl ?_)
      rw [k1, hW]
      refine x_icm br_ge (fun _ => ?_) (fun h3 => absurd (nI_le (Nat.le_refl Wd) (by omega)) h3)
      repeat (first | refine x_kcg rfl ?_ | refine x_incg rfl rfl ?_ | refine x_opp rfl rfl ?_)
      refine x_goto ?_
      refine x_lvs [(0, .ref t), (1, .ref g), (2, .int (nI (eAll A B la lb Wd (i + 1)).2)), (3, .int (nI (i + 1)))] rfl rfl rfl ⟨rfl, rfl, rfl, rfl, trivial⟩ ?_
      exact hP M1 g1 g2
    · intro j hj hP2 M1 g1 g2
      obtain ⟨k1, k2, k3, k4⟩ := key M1 g2
      have hle : (eStep A B la lb i j (eRow A B la lb i (eAll A B la lb Wd i) j)).1.length ≤ 42 := by
        refine Nat.le_trans ?_ h42
        refine Nat.le_trans ?_ (eAll_le A B la lb Wd (show i + 1 ≤ H by omega))
        exact eRow_le A B la lb i _ (show j + 1 ≤ Wd by omega)
      have hP3 : ∀ M', tabIs M' t sa dn le nu (eStep A B la lb i j (eRow A B la lb i (eAll A B la lb Wd i) j)).1 → tFr M M' t sa dn le nu → sm_X L xs (d + 4) 74 3 (sm_code 74 3) [(0, .ref t), (1, .ref g), (2, .int (nI (eStep A B la lb i j (eRow A B la lb i (eAll A B la lb Wd i) j)).2)), (3, .int (nI i)), (4, .int (nI (j + 1)))] [] (wm sh M') Q := hP2
      generalize eRow A B la lb i (eAll A B la lb Wd i) j = s at g1 hle hP3 ⊢
      obtain ⟨es, num⟩ := s
      dsimp only at g1 ⊢
      unfold eStep at hle hP3
      dsimp only at hle hP3
      repeat (first | refine x_kcg rfl ?_ | refine x_opp rfl rfl ?_ | refine x_go rfl ?_ | refine m_getg hg.1 rfl rfl rfl ?_)
      rw [k1, hW]
      refine x_icm br_ge (fun h3 => absurd h3 (nI_ge hj (by omega))) (fun _ => ?_)
      have eb : eB (M.1 g 5) (M.1 l) (M.1 c) i j = B i j := by rw [hB]
      have ea : eA (M.1 g 5) (M.1 l) (M.1 c) i j = A i j := by rw [hA]
      generalize hn1 : num + (if (A i j || B i j) = true then 1 else 0) = n1 at hle hP3
      rw [List.length_append, List.length_append] at hle
      have T19 : ∀ M2, tabIs M2 t sa dn le nu (es ++ ((if A i j = true then [(i * 7 + j, false, la i j, n1)] else []) ++ (if B i j = true then [(i * 7 + j, true, lb i j, n1)] else []))) → tFr M M2 t sa dn le nu → sm_X L xs (d + 4) 74 19 (sm_code 74 19) [(0, .ref t), (1, .ref g), (2, .int (nI n1)), (3, .int (nI i)), (4, .int (nI j)), (5, .int (zz (A i j))), (6, .int (zz (B i j)))] [] (wm sh M2) Q := by
        intro M2 q1 q2
        repeat (first | refine x_kcg rfl ?_ | refine x_incg rfl rfl ?_ | refine x_opp rfl rfl ?_)
        refine x_goto ?_
        refine x_lvs [(0, .ref t), (1, .ref g), (2, .int (nI n1)), (3, .int (nI i)), (4, .int (nI (j + 1)))] rfl rfl rfl ⟨rfl, rfl, rfl, rfl, rfl, trivial⟩ ?_
        exact hP3 M2 q1 q2
      have T17 : ∀ M2, tabIs M2 t sa dn le nu (es ++ (if A i j = true then [(i * 7 + j, false, la i j, n1)] else [])) → tFr M M2 t sa dn le nu → sm_X L xs (d + 4) 74 17 (sm_code 74 17) [(0, .ref t), (1, .ref g), (2, .int (nI n1)), (3, .int (nI i)), (4, .int (nI j)), (5, .int (zz (A i j))), (6, .int (zz (B i j)))] [] (wm sh M2) Q := by
        intro M2 q1 q2
        repeat (first | refine x_kcg rfl ?_ | refine x_opp rfl rfl ?_ | refine x_go rfl ?_)
        refine x_ifc br_eqz (fun h3 => ?_) (fun h3 => ?_)
        · refine T19 M2 ?_ q2
          rw [if_neg (show ¬ B i j = true by rw [h3]; exact Bool.false_ne_true), List.append_nil]
          exact q1
        · have h3 := nf_t h3
          obtain ⟨u1, u2, u3, u4⟩ := key M2 q2
          rw [if_pos h3] at hle
          rw [show ([(i * 7 + j, true, lb i j, n1)] : List eT).length = 1 from rfl] at hle
          repeat (first | refine x_kcg rfl ?_ | refine x_opp rfl rfl ?_ | refine x_go rfl ?_)
          rw [mul7]
          refine m_callS rfl rfl (c_downL hg u4 ?_)
          rw [u1, u2, u3, show runF (fun n => gJB (M.1 g 5) (M.1 l) (M.1 c) (nI (i + n - 1)) (nI j)) 1 6 = lb i j by rw [← hlb]; rfl]
          repeat (first | refine x_kcg rfl ?_ | refine x_opp rfl rfl ?_ | refine x_go rfl ?_)
          have hlen : (es ++ (if A i j = true then [(i * 7 + j, false, la i j, n1)] else [])).length < 42 := by
            rw [List.length_append]
            omega
          refine m_callV ht.1 rfl rfl rfl (c_add ht q1.1 hlen (Or.inr rfl) ?_)
          obtain ⟨v1, v2⟩ := tabIs_add (s := i * 7 + j) (b := true) (k := lb i j) (n := n1) ht q1 q2
          repeat (first | refine x_kcg rfl ?_ | refine x_incg rfl rfl ?_ | refine x_opp rfl rfl ?_)
          refine x_fall ?_
          refine T19 _ ?_ v2
          rw [if_pos h3, ← List.append_assoc]
          exact v1
      have T15 : ∀ M2, tabIs M2 t sa dn le nu es → tFr M M2 t sa dn le nu → sm_X L xs (d + 4) 74 15 (sm_code 74 15) [(0, .ref t), (1, .ref g), (2, .int (nI n1)), (3, .int (nI i)), (4, .int (nI j)), (5, .int (zz (A i j))), (6, .int (zz (B i j)))] [] (wm sh M2) Q := by
        intro M2 q1 q2
        repeat (first | refine x_kcg rfl ?_ | refine x_opp rfl rfl ?_ | refine x_go rfl ?_)
        refine x_ifc br_eqz (fun h3 => ?_) (fun h3 => ?_)
        · refine T17 M2 ?_ q2
          rw [if_neg (show ¬ A i j = true by rw [h3]; exact Bool.false_ne_true), List.append_nil]
          exact q1
        · have h3 := nf_t h3
          obtain ⟨u1, u2, u3, u4⟩ := key M2 q2
          rw [if_pos h3] at hle
          rw [show ([(i * 7 + j, false, la i j, n1)] : List eT).length = 1 from rfl] at hle
          repeat (first | refine x_kcg rfl ?_ | refine x_opp rfl rfl ?_ | refine x_go rfl ?_)
          rw [mul7]
          refine m_callS rfl rfl (c_across hg u4 ?_)
          rw [u1, u2, u3, show runF (fun n => gJR (M.1 g 5) (M.1 l) (M.1 c) (nI i) (nI (j + n - 1))) 1 6 = la i j by rw [← hla]; rfl]
          repeat (first | refine x_kcg rfl ?_ | refine x_opp rfl rfl ?_ | refine x_go rfl ?_)
          refine m_callV ht.1 rfl rfl rfl (c_add ht q1.1 (by omega) (Or.inl rfl) ?_)
          obtain ⟨v1, v2⟩ := tabIs_add (s := i * 7 + j) (b := false) (k := la i j) (n := n1) ht q1 q2
          repeat (first | refine x_kcg rfl ?_ | refine x_incg rfl rfl ?_ | refine x_opp rfl rfl ?_)
          refine x_fall ?_
          refine T17 _ ?_ v2
          rw [if_pos h3]
          exact v1
      have T12 : sm_X L xs (d + 4) 74 12 (sm_code 74 12) [(0, .ref t), (1, .ref g), (2, .int (nI num)), (3, .int (nI i)), (4, .int (nI j)), (5, .int (zz (A i j)))] [.int (zz (B i j))] (wm sh M1) Q := by
        have T14 : (A i j || B i j) = true → sm_X L xs (d + 4) 74 14 (sm_code 74 14) [(0, .ref t), (1, .ref g), (2, .int (nI num)), (3, .int (nI i)), (4, .int (nI j)), (5, .int (zz (A i j))), (6, .int (zz (B i j)))] [] (wm sh M1) Q := by
          intro hab
          rw [if_pos hab] at hn1
          subst hn1
          repeat (first | refine x_kcg rfl ?_ | refine x_incg rfl rfl ?_ | refine x_opp rfl rfl ?_)
          refine x_fall ?_
          refine x_lvs [(0, .ref t), (1, .ref g), (2, .int (nI (num + 1))), (3, .int (nI i)), (4, .int (nI j)), (5, .int (zz (A i j))), (6, .int (zz (B i j)))] rfl rfl rfl ⟨rfl, rfl, rfl, rfl, rfl, rfl, rfl, trivial⟩ ?_
          exact T15 M1 g1 g2
        repeat (first | refine x_kcg rfl ?_ | refine x_opp rfl rfl ?_ | refine x_go rfl ?_)
        refine x_ifc br_nez (fun h3 => ?_) (fun h3 => ?_)
        · refine x_lvs [(0, .ref t), (1, .ref g), (2, .int (nI num)), (3, .int (nI i)), (4, .int (nI j)), (5, .int (zz (A i j))), (6, .int (zz (B i j)))] rfl rfl rfl ⟨rfl, rfl, rfl, rfl, rfl, rfl, rfl, trivial⟩ ?_
          exact T14 (by rw [h3]; rfl)
        · repeat (first | refine x_kcg rfl ?_ | refine x_opp rfl rfl ?_ | refine x_go rfl ?_)
          refine x_ifc br_eqz (fun h4 => ?_) (fun h4 => ?_)
          · rw [if_neg (by rw [nt_f h3, h4]; exact Bool.false_ne_true)] at hn1
            subst hn1
            refine x_lvs [(0, .ref t), (1, .ref g), (2, .int (nI num)), (3, .int (nI i)), (4, .int (nI j)), (5, .int (zz (A i j))), (6, .int (zz (B i j)))] rfl rfl rfl ⟨rfl, rfl, rfl, rfl, rfl, rfl, rfl, trivial⟩ ?_
            exact T15 M1 g1 g2
          · refine x_lvs [(0, .ref t), (1, .ref g), (2, .int (nI num)), (3, .int (nI i)), (4, .int (nI j)), (5, .int (zz (A i j))), (6, .int (zz (B i j)))] rfl rfl rfl ⟨rfl, rfl, rfl, rfl, rfl, rfl, rfl, trivial⟩ ?_
            exact T14 (by rw [nf_t h4, Bool.or_true])
      have T8 : sm_X L xs (d + 4) 74 8 (sm_code 74 8) [(0, .ref t), (1, .ref g), (2, .int (nI num)), (3, .int (nI i)), (4, .int (nI j))] [.int (zz (A i j))] (wm sh M1) Q := by
        unfold eB at eb
        repeat (first | refine x_kcg rfl ?_ | refine x_opp rfl rfl ?_ | refine x_go rfl ?_)
        refine m_callV hg.1 rfl rfl rfl (c_joinsBelow hg k4 ?_)
        rw [k1, k2, k3]
        refine x_ifc br_eqz (fun h3 => ?_) (fun h3 => ?_)
        · rw [if_pos h3] at eb
          rw [← eb] at T12
          repeat (first | refine x_kcg rfl ?_ | refine x_incg rfl rfl ?_ | refine x_opp rfl rfl ?_)
          refine x_fall ?_
          refine x_lvs [(0, .ref t), (1, .ref g), (2, .int (nI num)), (3, .int (nI i)), (4, .int (nI j)), (5, .int (zz (A i j)))] rfl rfl rfl ⟨rfl, rfl, rfl, rfl, rfl, rfl, trivial⟩ ?_
          exact T12
        · rw [if_neg h3] at eb
          repeat (first | refine x_kcg rfl ?_ | refine x_opp rfl rfl ?_ | refine x_go rfl ?_)
          refine m_callV hg.1 rfl rfl rfl (c_joinsBelow hg k4 ?_)
          rw [k1, k2, k3]
          refine x_ifc br_nez (fun h4 => ?_) (fun h4 => ?_)
          · rw [if_pos h4] at eb
            rw [← eb] at T12
            repeat (first | refine x_kcg rfl ?_ | refine x_incg rfl rfl ?_ | refine x_opp rfl rfl ?_)
            refine x_fall ?_
            refine x_lvs [(0, .ref t), (1, .ref g), (2, .int (nI num)), (3, .int (nI i)), (4, .int (nI j)), (5, .int (zz (A i j)))] rfl rfl rfl ⟨rfl, rfl, rfl, rfl, rfl, rfl, trivial⟩ ?_
            exact T12
          · rw [if_neg h4] at eb
            rw [← eb] at T12
            repeat (first | refine x_kcg rfl ?_ | refine x_incg rfl rfl ?_ | refine x_opp rfl rfl ?_)
            refine x_goto ?_
            refine x_lvs [(0, .ref t), (1, .ref g), (2, .int (nI num)), (3, .int (nI i)), (4, .int (nI j)), (5, .int (zz (A i j)))] rfl rfl rfl ⟨rfl, rfl, rfl, rfl, rfl, rfl, trivial⟩ ?_
            exact T12
      unfold eA at ea
      repeat (first | refine x_kcg rfl ?_ | refine x_opp rfl rfl ?_ | refine x_go rfl ?_)
      refine m_callV hg.1 rfl rfl rfl (c_joinsRight hg k4 ?_)
      rw [k1, k2, k3]
      refine x_ifc br_eqz (fun h3 => ?_) (fun h3 => ?_)
      · rw [if_pos h3] at ea
        rw [← ea] at T8
        repeat (first | refine x_kcg rfl ?_ | refine x_incg rfl rfl ?_ | refine x_opp rfl rfl ?_)
        refine x_fall ?_
        exact T8
      · rw [if_neg h3] at ea
        repeat (first | refine x_kcg rfl ?_ | refine x_opp rfl rfl ?_ | refine x_go rfl ?_)
        refine m_callV hg.1 rfl rfl rfl (c_joinsRight hg k4 ?_)
        rw [k1, k2, k3]
        refine x_ifc br_nez (fun h4 => ?_) (fun h4 => ?_)
        · rw [if_pos h4] at ea
          rw [← ea] at T8
          repeat (first | refine x_kcg rfl ?_ | refine x_incg rfl rfl ?_ | refine x_opp rfl rfl ?_)
          refine x_fall ?_
          exact T8
        · rw [if_neg h4] at ea
          rw [← ea] at T8
          repeat (first | refine x_kcg rfl ?_ | refine x_incg rfl rfl ?_ | refine x_opp rfl rfl ?_)
          refine x_goto ?_
          exact T8
end LA
