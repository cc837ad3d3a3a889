/-! blocks, methods, calls: every run of the small machine is a run of the machine -/
section BLK
variable {p : Program} {l : Launch} {e : Env} {R : Room} {s : State} {m : MethodId} {args : Array Value} {below : List Frame} {meth : Method} {c : Code} {Q : State → Prop} {D : va_G} {cy : Nat → ClassId} {b base : Nat} {w0 : sm_W} {nL : Nat}
variable {cc : ByteArray} {o : Nat} {L : Nat} {xs : Nat → Int32} {pc : Nat} {lv lv' : sm_L} {st st' : List Value} {w w' w1 : sm_W}
variable {ini : Bool} {ret : Option FieldType} {bo : Bool} {bp : List Nat} {cb len : Nat} {rc si : sm_I}
variable {d : Nat} {r : Option Value}
theorem sm_inv_some {calls : Nat → List Value → sm_W → sm_O} {k n : Nat} {st st1 : List Value} {w w1 : sm_W} (h : sm_inv calls k n st w = some (st1, w1)) : ∃ (y : Nat) (as rest : List Value) (r : Option Value), as.length = n % 16 ∧ st = as.reverse ++ rest ∧ sm_words rest ≤ 8 ∧ sm_tg k n as w = some y ∧ calls y as w = some (r, w1) ∧ st1 = r.toList ++ rest := by
  unfold sm_inv at h
  cases hb : (Nat.ble (n % 16) st.length && Nat.ble (sm_words (st.drop (n % 16))) 8) with
  | false => rw [hb] at h; cases h
  | true =>
    rw [hb] at h
    simp only [Bool.and_eq_true] at hb
    have h1 := Nat.le_of_ble_eq_true hb.1
    have h2 := Nat.le_of_ble_eq_true hb.2
    simp only [cond_true] at h
    split at h
    · rename_i y hy
      split at h
      · rename_i r w2 hc
        cases h
        refine ⟨y, (st.take (n % 16)).reverse, st.drop (n % 16), r, by simp; omega, by rw [List.reverse_reverse, List.take_append_drop], h2, hy, hc, rfl⟩
      · cases h
    · cases h
/-- the end of a method: what a return's walk must give -/
def sm_End (p : Program) (l : Launch) (e : Env) (R : Room) (s : State) (m : MethodId) (args : Array Value) (below : List Frame) (meth : Method) (c : Code) (Q : State → Prop) (D : va_G) (cy : Nat → ClassId) (b base : Nat) (w0 : sm_W) (cc : ByteArray) (ret : Option FieldType) (r : Option Value) (wf : sm_W) : Prop :=
  ∀ (pc : Nat) (rc : sm_I) (H : Heap) (locs : List Loc) (cells slots : Nat) (ls : Array Slot), decode cc pc = .ok (rc, 1) →
    ((rc = .ireturn ∧ ret = some .int ∧ ∃ x, r = some (.int x)) ∨ (rc = .ireturn ∧ ret = some .boolean ∧ (r = some (.int 0) ∨ r = some (.int 1))) ∨ (rc = .lreturn ∧ ret = some .long ∧ ∃ x, r = some (.long x)) ∨ (rc = .areturn ∧ (∃ t, ret = some (.object t)) ∧ (r = some .null ∨ ∃ a, r = some (.ref a))) ∨ (rc = .return_ ∧ ret = none ∧ r = none)) →
    va_P D sm_cl (sm_ws cy b base wf) H → H.size = base + wf.length → va_S (fun q => base ≤ q) s.heap H locs → s.heap.size + cells = base + wf.length → sm_sz w0 + slots = sm_sz wf →
    W p l e R s m args below meth c H locs cells slots Q (F0 m pc ls (r.toList.map (sm_v b base)))
theorem sm_br_some {cd : Jvm.ClassFile.Cond} {x y : Int32} {f g : sm_O} {q : Option Value × sm_W} (h : sm_br cd x y f g = some q) : f = some q ∨ g = some q := by
  unfold sm_br at h
  cases cd <;> (dsimp only at h; split at h) <;> first | exact Or.inl h | exact Or.inr h
theorem sm_blk_mono {calls : Nat → List Value → sm_W → sm_O} {jump : Nat → sm_L → List Value → sm_W → sm_O} {wf : sm_W} (hc : ∀ y as w r w1, calls y as w = some (r, w1) → w.length ≤ w1.length ∧ sm_sz w ≤ sm_sz w1) (hj : ∀ t lv st w, jump t lv st w = some (r, wf) → w.length ≤ wf.length ∧ sm_sz w ≤ sm_sz wf) :
    ∀ (is : List sm_I) (lv : sm_L) (st : List Value) (w : sm_W), sm_blk L xs calls jump bo cb is lv st w = some (r, wf) → w.length ≤ wf.length ∧ sm_sz w ≤ sm_sz wf
  | [], _, _, _, h => by cases h
  | i :: is, lv, st, w, h => by
    have step : ∀ (lv1 : sm_L) (st1 : List Value) (w1 : sm_W), w.length ≤ w1.length ∧ sm_sz w ≤ sm_sz w1 → sm_blk L xs calls jump bo cb is lv1 st1 w1 = some (r, wf) → w.length ≤ wf.length ∧ sm_sz w ≤ sm_sz wf := by
      intro lv1 st1 w1 h1 h2
      have h3 := sm_blk_mono hc hj is lv1 st1 w1 h2
      omega
    have inv : ∀ (k n : Nat) (st1 : List Value) (w1 : sm_W), sm_inv calls k n st w = some (st1, w1) → sm_blk L xs calls jump bo cb is lv st1 w1 = some (r, wf) → w.length ≤ wf.length ∧ sm_sz w ≤ sm_sz wf := by
      intro k n st1 w1 h1 h2
      obtain ⟨y, as, rest, r1, -, -, -, -, h3, -⟩ := sm_inv_some h1
      exact step lv st1 w1 (hc _ _ _ _ _ h3) h2
    unfold sm_blk at h
    split at h
    · exact hj _ _ _ _ h
    · exact hj _ _ _ _ h
    · split at h
      · rcases sm_br_some h with h | h <;> exact hj _ _ _ _ h
      · cases h
    · split at h
      · rcases sm_br_some h with h | h <;> exact hj _ _ _ _ h
      · cases h
    · split at h
      · exact hj _ _ _ _ h
      · exact hj _ _ _ _ h
      · cases h
    · split at h
      · exact hj _ _ _ _ h
      · exact hj _ _ _ _ h
      · cases h
    · split at h
      · split at h
        · exact hj _ _ _ _ h
        · split at h
          · exact hj _ _ _ _ h
          · cases h
      · cases h
    · split at h
      · split at h
        · cases h
        · cases h
          exact sm_m_refl _
      · cases h
    · split at h
      · cases h
        exact sm_m_refl _
      · cases h
    · split at h
      · cases h
        exact sm_m_refl _
      · cases h
        exact sm_m_refl _
      · cases h
    · split at h
      · cases h
        exact sm_m_refl _
      · cases h
    · split at h
      · rename_i st1 w1 h1
        exact inv _ _ _ _ h1 h
      · cases h
    · split at h
      · rename_i st1 w1 h1
        exact inv _ _ _ _ h1 h
      · cases h
    · split at h
      · rename_i st1 w1 h1
        exact inv _ _ _ _ h1 h
      · cases h
    · split at h
      · rename_i lv1 st1 w1 h1
        exact step _ _ _ (sm_op_mono h1) h
      · cases h
theorem sm_tgt_some {off t : Int} (h : sm_tgt bp pc off t = true) : ∃ q, bp[t.toNat]? = some q ∧ (pc : Int) + off = (q : Int) := by
  unfold sm_tgt at h
  split at h
  · rename_i q hq
    exact ⟨q, hq, of_decide_eq_true h⟩
  · cases h
theorem sm_nxt_some {t : Nat} (h : sm_nxt bp t pc = true) : bp[t]? = some pc := by
  unfold sm_nxt at h
  split at h
  · rename_i q hq
    rw [hq, Nat.eq_of_beq_eq_true h]
  · cases h
end BLK
