/-! a block's run -/
section BLK2
variable {p : Program} {l : Launch} {e : Env} {R : Room} {s : State} {m : MethodId} {args : Array Value} {below : List Frame} {meth : Method} {c : Code} {Q : State → Prop} {D : va_G} {cy : Nat → ClassId} {b base : Nat} {w0 : sm_W} {nL : Nat}
variable {cc : ByteArray} {o : Nat} {L : Nat} {xs : Nat → Int32} {pc : Nat} {lv lv' : sm_L} {st st' : List Value} {w w' w1 wf : sm_W}
variable {ini : Bool} {ret : Option FieldType} {bo : Bool} {bp : List Nat} {cb len : Nat} {rc si : sm_I}
variable {r : Option Value} {calls : Nat → List Value → sm_W → sm_O} {jump : Nat → sm_L → List Value → sm_W → sm_O}
theorem sm_inv_static (C : sm_C p s m args c D cy b base nL cc o L xs) (hM : (∃ d, sm_Ms l D cy b base L xs d calls ∧ d + 1 ≤ R.frames ∧ 64 * (d + 1) ≤ R.locals) ∨ ∀ y as w, calls y as w = none) {n : Nat} {st1 : List Value} (he : sm_enc o ini nL ret bo bp cb pc len rc (.invokestatic n) = true) (hd : decode cc pc = .ok (rc, len)) (hi : sm_inv calls 0 n st w = some (st1, w1)) (hcap : base + w1.length ≤ s.heap.size + R.cells ∧ sm_sz w1 ≤ sm_sz w0 + R.slots) (k : sm_KK p l e R s m args below meth c Q D cy b base w0 nL (pc + len) (lv) (st1) (w1)) : sm_KK p l e R s m args below meth c Q D cy b base w0 nL (pc) (lv) (st) (w) := by
  obtain ⟨y, as, rest, r1, hn, rfl, hw, htg, hc, rfl⟩ := sm_inv_some hi
  have htg : y = n / 256 := (Option.some.inj htg).symm
  subst htg
  rcases hM with ⟨d, M, hR⟩ | hM
  · simp only [sm_enc] at he
    split at he
    · rename_i idx
      simp only [Bool.and_eq_true] at he
      obtain ⟨h3, he⟩ := he
      have h3 := Nat.eq_of_beq_eq_true h3
      subst h3
      cases hb : Nat.beq (n / 256) 400 with
      | true =>
        rw [hb] at he
        simp only [cond_true, Bool.and_eq_true] at he
        rw [Nat.eq_of_beq_eq_true hb, M.2.2.1] at hc
        exact sm_ok_copy C ⟨by omega, by omega⟩ hd he.2 hw hc k
      | false =>
        rw [hb] at he
        simp only [cond_false, Bool.and_eq_true, Bool.not_eq_true'] at he
        have h5 := Nat.eq_of_beq_eq_true he.1.1
        refine sm_ok_static C M hR hd he.2 ⟨fun h => ?_, fun h => ?_⟩ (hn.trans h5) hw hc hcap k
        · rw [h] at hb; cases hb
        · have h6 := he.1.2; rw [h] at h6; cases h6
    · cases he
  · rw [hM] at hc; cases hc
theorem sm_inv_special (C : sm_C p s m args c D cy b base nL cc o L xs) (hM : (∃ d, sm_Ms l D cy b base L xs d calls ∧ d + 1 ≤ R.frames ∧ 64 * (d + 1) ≤ R.locals) ∨ ∀ y as w, calls y as w = none) {n : Nat} {st1 : List Value} (he : sm_enc o ini nL ret bo bp cb pc len rc (.invokespecial n) = true) (hd : decode cc pc = .ok (rc, len)) (hi : sm_inv calls 1 n st w = some (st1, w1)) (hcap : base + w1.length ≤ s.heap.size + R.cells ∧ sm_sz w1 ≤ sm_sz w0 + R.slots) (k : sm_KK p l e R s m args below meth c Q D cy b base w0 nL (pc + len) (lv) (st1) (w1)) : sm_KK p l e R s m args below meth c Q D cy b base w0 nL (pc) (lv) (st) (w) := by
  obtain ⟨y, as, rest, r1, hn, rfl, hw, htg, hc, rfl⟩ := sm_inv_some hi
  simp only [sm_tg] at htg
  split at htg
  · rename_i a as
    split at htg
    · rename_i ci fs ha
      cases hs : sm_sub ci (n / 16 % 16) with
      | false => rw [hs] at htg; cases htg
      | true =>
        rw [hs] at htg
        have htg : y = n / 256 := (Option.some.inj htg).symm
        subst htg
        rcases hM with ⟨d, M, hR⟩ | hM
        · simp only [sm_enc] at he
          split at he
          · rename_i idx
            simp only [Bool.and_eq_true] at he
            obtain ⟨h3, he⟩ := he
            have h3 := Nat.eq_of_beq_eq_true h3
            subst h3
            rw [List.length_cons] at hn
            cases hb : Nat.beq (n / 256) 401 with
            | true =>
              rw [hb] at he
              simp only [cond_true, Bool.and_eq_true] at he
              rw [Nat.eq_of_beq_eq_true hb] at hc
              obtain ⟨⟨a2, h6⟩, rfl, rfl⟩ := M.2.2.2 _ _ _ _ hc
              cases h6
              exact sm_ok_obj C ⟨by omega, by omega⟩ hd he.2 hw k
            | false =>
              rw [hb] at he
              simp only [cond_false, Bool.and_eq_true, Bool.not_eq_true', Bool.or_eq_true] at he
              have h5 := Nat.eq_of_beq_eq_true he.1.1
              have hy0 : n / 256 ≠ 400 ∧ n / 256 ≠ 401 := ⟨fun h => (by have h6 := he.1.2; rw [h] at h6; cases h6), fun h => (by rw [h] at hb; cases hb)⟩
              rcases he.2 with h7 | h7
              · exact sm_ok_init C M hR hd h7 hy0 (by omega) hw hc hcap k
              · exact sm_ok_super C M hR hd h7 hy0 ha (by omega) hw hc hcap k
          · cases he
        · rw [hM] at hc; cases hc
    · cases htg
  · cases htg
theorem sm_inv_virtual (C : sm_C p s m args c D cy b base nL cc o L xs) (hM : (∃ d, sm_Ms l D cy b base L xs d calls ∧ d + 1 ≤ R.frames ∧ 64 * (d + 1) ≤ R.locals) ∨ ∀ y as w, calls y as w = none) {n : Nat} {st1 : List Value} (he : sm_enc o ini nL ret bo bp cb pc len rc (.invokevirtual n) = true) (hd : decode cc pc = .ok (rc, len)) (hi : sm_inv calls 2 n st w = some (st1, w1)) (hcap : base + w1.length ≤ s.heap.size + R.cells ∧ sm_sz w1 ≤ sm_sz w0 + R.slots) (k : sm_KK p l e R s m args below meth c Q D cy b base w0 nL (pc + len) (lv) (st1) (w1)) : sm_KK p l e R s m args below meth c Q D cy b base w0 nL (pc) (lv) (st) (w) := by
  obtain ⟨y, as, rest, r1, hn, rfl, hw, htg, hc, rfl⟩ := sm_inv_some hi
  simp only [sm_tg] at htg
  split at htg
  · rename_i a as
    split at htg
    · rename_i ci fs ha
      rcases hM with ⟨d, M, hR⟩ | hM
      · simp only [sm_enc] at he
        split at he
        · rename_i idx
          simp only [Bool.and_eq_true] at he
          obtain ⟨h3, he⟩ := he
          have h3 := Nat.eq_of_beq_eq_true h3
          subst h3
          rw [List.length_cons] at hn
          intro H locs cells slots ls J
          have hci := sm_ci J.1 ha
          have h4 := List.all_eq_true.mp he ci (List.mem_range.mpr hci)
          rw [htg] at h4
          simp only [Bool.and_eq_true, Bool.not_eq_true', Bool.or_eq_true] at h4
          obtain ⟨⟨⟨h5, h6⟩, h7⟩, h8⟩ := h4
          have h5 := Nat.eq_of_beq_eq_true h5
          have hy0 : y ≠ 400 ∧ y ≠ 401 := ⟨fun h => (by rw [h] at h6; cases h6), fun h => (by rw [h] at h7; cases h7)⟩
          rcases h8 with h8 | h8
          · exact sm_ok_virt C M hR hd h8 hy0 ha (by omega) hw hc hcap k H locs cells slots ls J
          · exact sm_ok_virtU C M hR hd h8 hy0 ha (by omega) hw hc hcap k H locs cells slots ls J
        · cases he
      · rw [hM] at hc; cases hc
    · cases htg
  · cases htg
theorem sm_op_ne {i : sm_I} {q : sm_L × List Value × sm_W} (h : sm_op L xs i lv st w = some q) : sm_isEnd i = false := by
  cases i <;> first | rfl | (simp only [sm_op] at h; cases h)
theorem sm_enc_ar (h : sm_enc o ini nL ret bo bp cb pc len rc .areturn = true) : rc = .areturn ∧ len = 1 ∧ ∃ t, ret = some (.object t) := by
  simp only [sm_enc, Bool.and_eq_true, decide_eq_true_eq] at h
  obtain ⟨⟨h1, h2⟩, h3⟩ := h
  refine ⟨h1, Nat.eq_of_beq_eq_true h2, ?_⟩
  split at h3
  · exact ⟨_, rfl⟩
  · cases h3
set_option maxHeartbeats 4000000 in
theorem sm_blk_ok (C : sm_C p s m args c D cy b base nL cc o L xs) (hini : ini = true → meth.name = "<init>") (hM : (∃ d, sm_Ms l D cy b base L xs d calls ∧ d + 1 ≤ R.frames ∧ 64 * (d + 1) ≤ R.locals) ∨ ∀ y as w, calls y as w = none) (hcm : ∀ y as w r w1, calls y as w = some (r, w1) → w.length ≤ w1.length ∧ sm_sz w ≤ sm_sz w1)
    (hj : ∀ t lv st w, jump t lv st w = some (r, wf) → ∀ q, bp[t]? = some q → sm_KK p l e R s m args below meth c Q D cy b base w0 nL (q) (lv) (st) (w)) (hjm : ∀ t lv st w, jump t lv st w = some (r, wf) → w.length ≤ wf.length ∧ sm_sz w ≤ sm_sz wf)
    (hcap : base + wf.length ≤ s.heap.size + R.cells ∧ sm_sz wf ≤ sm_sz w0 + R.slots) (E : sm_End p l e R s m args below meth c Q D cy b base w0 cc ret r wf) :
    ∀ (is : List sm_I) (pc : Nat) (lv : sm_L) (st : List Value) (w : sm_W), sm_okB cc o ini nL ret bo bp cb pc is = true → sm_blk L xs calls jump bo cb is lv st w = some (r, wf) → sm_KK p l e R s m args below meth c Q D cy b base w0 nL (pc) (lv) (st) (w)
  | [], _, _, _, _, _, h => by cases h
  | i :: is, pc, lv, st, w, hok, h => by
    unfold sm_okB at hok
    split at hok
    · rename_i t
      exact hj _ _ _ _ h pc (sm_nxt_some hok)
    · split at hok
      · rename_i hnw xd rc len hd
        simp only [Bool.and_eq_true, Bool.or_eq_true] at hok
        obtain ⟨he, hrest⟩ := hok
        have mono := sm_blk_mono (bo := bo) (cb := cb) hcm hjm (L := L) (xs := xs)
        have step : ∀ (lv1 : sm_L) (st1 : List Value) (w1 : sm_W), sm_isEnd i = false → sm_blk L xs calls jump bo cb is lv1 st1 w1 = some (r, wf) → (sm_KK p l e R s m args below meth c Q D cy b base w0 nL (pc + len) (lv1) (st1) (w1)) ∧ (base + w1.length ≤ s.heap.size + R.cells ∧ sm_sz w1 ≤ sm_sz w0 + R.slots) := by
          intro lv1 st1 w1 hend h1
          have h2 := mono is lv1 st1 w1 h1
          refine ⟨sm_blk_ok C hini hM hcm hj hjm hcap E is (pc + len) lv1 st1 w1 (hrest.resolve_left (by rw [hend]; exact Bool.false_ne_true)) h1, by omega, by omega⟩
        unfold sm_blk at h
        split at h
        · rename_i t
          simp only [sm_enc] at he
          split at he
          · simp only [Bool.and_eq_true] at he
            obtain ⟨q, hq, ht⟩ := sm_tgt_some he.1
            have h3 := Nat.eq_of_beq_eq_true he.2
            subst h3
            intro H locs cells slots ls J
            exact lv_goto C.1 C.2.1 hd ht (hj _ _ _ _ h q hq H locs cells slots ls J)
          · cases he
        · exact absurd rfl (hnw _)
        · rename_i cd t
          simp only [sm_enc] at he
          split at he
          · rename_i c2 off
            simp only [Bool.and_eq_true, decide_eq_true_eq] at he
            obtain ⟨⟨⟨h0, h1⟩, h2⟩, h3⟩ := he
            subst h0
            obtain ⟨q, hq, ht⟩ := sm_tgt_some h1
            have hn := sm_nxt_some h2
            have h3 := Nat.eq_of_beq_eq_true h3
            subst h3
            split at h
            · intro H locs cells slots ls J
              unfold sm_br at h
              cases c2 with
              | eq =>
                dsimp only at h
                exact lv_if_eq C.1 C.2.1 hd ht (fun hx => by rw [if_pos hx] at h; exact hj _ _ _ _ h q hq H locs cells slots ls J) (fun hx => by rw [if_neg hx] at h; exact hj _ _ _ _ h _ hn H locs cells slots ls J)
              | lt =>
                dsimp only at h
                exact lv_if_lt C.1 C.2.1 hd ht (fun hx => by rw [if_pos hx] at h; exact hj _ _ _ _ h q hq H locs cells slots ls J) (fun hx => by rw [if_neg hx] at h; exact hj _ _ _ _ h _ hn H locs cells slots ls J)
              | ge =>
                dsimp only at h
                exact lv_if_ge C.1 C.2.1 hd ht (fun hx => by rw [if_pos hx] at h; exact hj _ _ _ _ h q hq H locs cells slots ls J) (fun hx => by rw [if_neg hx] at h; exact hj _ _ _ _ h _ hn H locs cells slots ls J)
              | gt =>
                dsimp only at h
                exact lv_if_gt C.1 C.2.1 hd ht (fun hx => by rw [if_pos hx] at h; exact hj _ _ _ _ h q hq H locs cells slots ls J) (fun hx => by rw [if_neg hx] at h; exact hj _ _ _ _ h _ hn H locs cells slots ls J)
              | le =>
                dsimp only at h
                exact lv_if_le C.1 C.2.1 hd ht (fun hx => by rw [if_pos hx] at h; exact hj _ _ _ _ h q hq H locs cells slots ls J) (fun hx => by rw [if_neg hx] at h; exact hj _ _ _ _ h _ hn H locs cells slots ls J)
              | ne =>
                dsimp only at h
                exact lv_if_ne C.1 C.2.1 hd ht (fun hx => by rw [if_neg hx] at h; exact hj _ _ _ _ h q hq H locs cells slots ls J) (fun hx => by rw [if_pos hx] at h; exact hj _ _ _ _ h _ hn H locs cells slots ls J)
            · cases h
          · cases he
        · rename_i cd t
          simp only [sm_enc] at he
          split at he
          · rename_i c2 off
            simp only [Bool.and_eq_true, decide_eq_true_eq] at he
            obtain ⟨⟨⟨h0, h1⟩, h2⟩, h3⟩ := he
            subst h0
            obtain ⟨q, hq, ht⟩ := sm_tgt_some h1
            have hn := sm_nxt_some h2
            have h3 := Nat.eq_of_beq_eq_true h3
            subst h3
            split at h
            · intro H locs cells slots ls J
              unfold sm_br at h
              cases c2 with
              | eq =>
                dsimp only at h
                exact lv_icmp_eq C.1 C.2.1 hd ht (fun hx => by rw [if_pos hx] at h; exact hj _ _ _ _ h q hq H locs cells slots ls J) (fun hx => by rw [if_neg hx] at h; exact hj _ _ _ _ h _ hn H locs cells slots ls J)
              | lt =>
                dsimp only at h
                exact lv_icmp_lt C.1 C.2.1 hd ht (fun hx => by rw [if_pos hx] at h; exact hj _ _ _ _ h q hq H locs cells slots ls J) (fun hx => by rw [if_neg hx] at h; exact hj _ _ _ _ h _ hn H locs cells slots ls J)
              | ge =>
                dsimp only at h
                exact lv_icmp_ge C.1 C.2.1 hd ht (fun hx => by rw [if_pos hx] at h; exact hj _ _ _ _ h q hq H locs cells slots ls J) (fun hx => by rw [if_neg hx] at h; exact hj _ _ _ _ h _ hn H locs cells slots ls J)
              | gt =>
                dsimp only at h
                exact lv_icmp_gt C.1 C.2.1 hd ht (fun hx => by rw [if_pos hx] at h; exact hj _ _ _ _ h q hq H locs cells slots ls J) (fun hx => by rw [if_neg hx] at h; exact hj _ _ _ _ h _ hn H locs cells slots ls J)
              | le =>
                dsimp only at h
                exact lv_icmp_le C.1 C.2.1 hd ht (fun hx => by rw [if_pos hx] at h; exact hj _ _ _ _ h q hq H locs cells slots ls J) (fun hx => by rw [if_neg hx] at h; exact hj _ _ _ _ h _ hn H locs cells slots ls J)
              | ne =>
                dsimp only at h
                exact lv_icmp_ne C.1 C.2.1 hd ht (fun hx => by rw [if_neg hx] at h; exact hj _ _ _ _ h q hq H locs cells slots ls J) (fun hx => by rw [if_pos hx] at h; exact hj _ _ _ _ h _ hn H locs cells slots ls J)
            · cases h
          · cases he
        · rename_i t
          simp only [sm_enc] at he
          split at he
          · simp only [Bool.and_eq_true] at he
            obtain ⟨⟨h1, h2⟩, h3⟩ := he
            obtain ⟨q, hq, ht⟩ := sm_tgt_some h1
            have hn := sm_nxt_some h2
            have h3 := Nat.eq_of_beq_eq_true h3
            subst h3
            split at h
            · intro H locs cells slots ls J
              exact lv_ifnullN C.1 C.2.1 hd ht (hj _ _ _ _ h q hq H locs cells slots ls J)
            · intro H locs cells slots ls J
              exact lv_ifnull C.1 C.2.1 hd (hj _ _ _ _ h _ hn H locs cells slots ls J)
            · cases h
          · cases he
        · rename_i t
          simp only [sm_enc] at he
          split at he
          · simp only [Bool.and_eq_true] at he
            obtain ⟨⟨h1, h2⟩, h3⟩ := he
            obtain ⟨q, hq, ht⟩ := sm_tgt_some h1
            have hn := sm_nxt_some h2
            have h3 := Nat.eq_of_beq_eq_true h3
            subst h3
            split at h
            · intro H locs cells slots ls J
              exact lv_ifnonnull C.1 C.2.1 hd ht (hj _ _ _ _ h q hq H locs cells slots ls J)
            · intro H locs cells slots ls J
              exact lv_ifnonnullN C.1 C.2.1 hd (hj _ _ _ _ h _ hn H locs cells slots ls J)
            · cases h
          · cases he
        · rename_i dd lo hi offs
          simp only [sm_enc] at he
          split at he
          · simp only [Bool.and_eq_true, decide_eq_true_eq] at he
            obtain ⟨⟨⟨⟨h1, rfl⟩, rfl⟩, h4⟩, h5⟩ := he
            obtain ⟨q, hq, ht⟩ := sm_tgt_some h1
            split at h
            · rename_i x rr
              split at h
              · rename_i hx
                intro H locs cells slots ls J
                exact lv_tableOut C.1 C.2.1 hd hx ht (hj _ _ _ _ h q hq H locs cells slots ls J)
              · rename_i hx
                split at h
                · rename_i t hoff
                  have hlt := (Array.getElem?_eq_some_iff.mp hoff).1
                  have h6 := List.all_eq_true.mp h5 _ (List.mem_range.mpr hlt)
                  rw [hoff] at h6
                  split at h6
                  · rename_i a t2 ha2 ht2
                    cases ht2
                    obtain ⟨q2, hq2, ht3⟩ := sm_tgt_some h6
                    intro H locs cells slots ls J
                    exact lv_tableIn C.1 C.2.1 hd (fun g => hx (Or.inl g)) (fun g => hx (Or.inr g)) ha2 ht3 (hj _ _ _ _ h q2 hq2 H locs cells slots ls J)
                  · cases h6
                · cases h
            · cases h
          · cases he
        · have he2 : (decide (rc = .ireturn) && Nat.beq len 1 && (bif bo then decide (ret = some .boolean) else decide (ret = some .int))) = true := he
          simp only [Bool.and_eq_true, decide_eq_true_eq] at he2
          obtain ⟨⟨rfl, h1⟩, h2⟩ := he2
          have h1 := Nat.eq_of_beq_eq_true h1
          subst h1
          split at h
          · split at h
            · cases h
            · rename_i x hx
              cases h
              intro H locs cells slots ls J
              refine J.size C.2.2.2.2.2.2.2.1 fun hz => ?_
              refine E pc .ireturn H locs cells slots ls hd ?_ J.1 hz J.2.1 J.2.2.2.1 J.2.2.2.2
              cases bo with
              | false => exact Or.inl ⟨rfl, of_decide_eq_true h2, _, rfl⟩
              | true =>
                have h3 : x = 0 ∨ x = 1 := Decidable.not_not.mp fun hn => hx ⟨rfl, hn⟩
                exact Or.inr (Or.inl ⟨rfl, of_decide_eq_true h2, h3.imp (fun g => by rw [g]) (fun g => by rw [g])⟩)
          · cases h
        · have he2 : (decide (rc = .lreturn) && Nat.beq len 1 && decide (ret = some .long)) = true := he
          simp only [Bool.and_eq_true, decide_eq_true_eq] at he2
          obtain ⟨⟨rfl, h1⟩, h2⟩ := he2
          have h1 := Nat.eq_of_beq_eq_true h1
          subst h1
          split at h
          · cases h
            intro H locs cells slots ls J
            refine J.size C.2.2.2.2.2.2.2.1 fun hz => ?_
            exact E pc .lreturn H locs cells slots ls hd (Or.inr (Or.inr (Or.inl ⟨rfl, h2, _, rfl⟩))) J.1 hz J.2.1 J.2.2.2.1 J.2.2.2.2
          · cases h
        · obtain ⟨rfl, rfl, hro⟩ := sm_enc_ar he
          split at h
          · cases h
            intro H locs cells slots ls J
            refine J.size C.2.2.2.2.2.2.2.1 fun hz => ?_
            exact E pc .areturn H locs cells slots ls hd (Or.inr (Or.inr (Or.inr (Or.inl ⟨rfl, hro, Or.inr ⟨_, rfl⟩⟩)))) J.1 hz J.2.1 J.2.2.2.1 J.2.2.2.2
          · cases h
            intro H locs cells slots ls J
            refine J.size C.2.2.2.2.2.2.2.1 fun hz => ?_
            exact E pc .areturn H locs cells slots ls hd (Or.inr (Or.inr (Or.inr (Or.inl ⟨rfl, hro, Or.inl rfl⟩)))) J.1 hz J.2.1 J.2.2.2.1 J.2.2.2.2
          · cases h
        · have he2 : (decide (rc = .return_) && Nat.beq len 1 && decide (ret = none)) = true := he
          simp only [Bool.and_eq_true, decide_eq_true_eq] at he2
          obtain ⟨⟨rfl, h1⟩, h2⟩ := he2
          have h1 := Nat.eq_of_beq_eq_true h1
          subst h1
          split at h
          · cases h
            intro H locs cells slots ls J
            refine J.size C.2.2.2.2.2.2.2.1 fun hz => ?_
            exact E pc .return_ H locs cells slots ls hd (Or.inr (Or.inr (Or.inr (Or.inr ⟨rfl, h2, rfl⟩)))) J.1 hz J.2.1 J.2.2.2.1 J.2.2.2.2
          · cases h
        · split at h
          · rename_i n st1 w1 hi
            have hs := step _ _ _ rfl h
            exact sm_inv_static C hM he hd hi hs.2 hs.1
          · cases h
        · split at h
          · rename_i n st1 w1 hi
            have hs := step _ _ _ rfl h
            exact sm_inv_special C hM he hd hi hs.2 hs.1
          · cases h
        · split at h
          · rename_i n st1 w1 hi
            have hs := step _ _ _ rfl h
            exact sm_inv_virtual C hM he hd hi hs.2 hs.1
          · cases h
        · split at h
          · rename_i lv1 st1 w1 hop
            have hs := step _ _ _ (sm_op_ne hop) h
            exact sm_op_ok C hini he hd hop hs.2 hs.1
          · cases h
      · cases hok
end BLK2
