/-! THE CLAIM OUT OF ONE WALK OF THE LAW'S BODY. Your part is whole_start (and what it stands on); all else here is the same for every law, but numbers. -/
def R_law : String := "WordGridLaw"
def lw_P (b : Addr) (xs : List Int32) (args : Array Value) (s : State) : Prop := args = #[.ref b] ∧ s.IntsAt b xs ∧ xs.length ≤ 4608 ∧ (Jvm.Cond.and given_1 narrow_1).before args s = true
def lw_Q (_ : Array Value) (s : State) (o : Outcome) (t : State) : Prop := o = .returned (some (.int 1)) ∧ Framed s o t [] 600000 7302250
def lw_Z (below : List Frame) (a : Array Value) (s : State) : State → Prop := fun t => ∃ o, t.status = .running ∧ Ended t below o ∧ lw_Q a s o t
/-- the law's own end, with 1 on the stack, nothing written that was there before, its room as the claim has it -/
theorem lw_ret {p : Program} {l : Launch} {e : Env} {s : State} {m : MethodId} {below : List Frame} {meth : Method} {c : Code} {b : Nat} (hx : p.tables.exec = Jvm.exec) (hb : c.code = code) (hr : meth.sig.returnType = ret) (hlocks : meth.locks = false) {pc : Nat} {H : Heap} {ls : Array Slot} (hdg : decode code pc = .ok (.ireturn, 1)) : W p l e room_1 s m #[Value.ref b] below meth c H [] 600000 7302250 (lw_Z below #[Value.ref b] s) (F0 m pc ls [.int 1]) := by
  intro T hT X
  obtain ⟨fs, hret, hrun, hended, hW, hframe⟩ := X.leave (v := some (.int 1)) (hlocks := hlocks) (fun h => by rw [hr] at h; cases h)
  have hmeth' : T.vm.method? m = some meth := X.method'
  refine ⟨T.setFrames fs, ?_, .returned (some (.int 1)), hrun, hended, rfl, ⟨_, rfl⟩, hW, hframe⟩
  jvm_step X.here [X.here.top, hx, hb, hdg, hmeth', hr, ret, narrow_b1]
  (try refine ⟨rfl, ?_⟩); (try refine ⟨rfl, ?_⟩)
  first | (intro acts; rw [hret _ acts rfl rfl rfl]) | rw [hret _ _ rfl rfl rfl]
  exact Steps.refl _
/-- what holds at the law's entry: the machine, the code, the tables' words (any of lw_tbl by 'hts w (by decide +kernel)'), the script of L ints xs at the cell b, what the Statement gives of the start (any of its parts by flat_of_before) -/
def lw_At (p : Program) (s : State) (m : MethodId) (meth : Method) (c : Code) (b L : Nat) (xs : Nat → Int32) : Prop :=
  p.tables.exec = Jvm.exec ∧ c.code = code ∧ meth.sig.returnType = ret ∧ c.maxLocals = 4 ∧ s.vm.findClass R_law = some m.cls ∧ (∀ w ∈ lw_tbl, w.before #[Value.ref b] s = true) ∧ va_X b L xs s s.heap ∧ b < s.heap.size ∧ meth.locks = false ∧ (Jvm.Cond.and given_1 narrow_1).before #[Value.ref b] s = true
/-! the law's run of the small machine gives the claim's walk -/
theorem sm_lawbp_eq : sm_bp.getD 231 [] = sm_lawbp := by rfl
theorem sm_lawpr_eq : (sm_prog.getD 231 (false, [])).2 = q_L_law := by rfl
theorem sm_lawbo_eq : sm_bo 231 = true := by rfl
set_option maxRecDepth 100000 in
theorem sm_lb_all : ([0, 1, 2, 3, 4, 5, 6, 7, 8, 9, 10, 11, 12, 13, 14, 15, 16, 17, 18, 19, 20, 21, 22, 23, 24, 25, 26, 27, 28, 29, 30, 31, 32, 33, 34, 35, 36, 37, 38, 39, 40, 41, 42, 43, 44, 45, 46, 47, 48, 49, 50, 51, 52, 53, 54, 55, 56, 57, 58, 59, 60, 61, 62, 63, 64, 65, 66, 67, 68, 69, 70, 71, 72, 73, 74, 75, 76, 77, 78, 79, 80, 81, 82, 83, 84, 85, 86, 87, 88, 89, 90]).all (fun b => sm_okB code 13 false 4 (some .boolean) true sm_lawbp b (sm_lawbp.getD b 0) (q_L_law.getD b [])) = true := by
  simp only [List.all_eq_true, List.forall_mem_cons]
  refine ⟨sm_lb_0, sm_lb_1, sm_lb_2, sm_lb_3, sm_lb_4, sm_lb_5, sm_lb_6, sm_lb_7, sm_lb_8, sm_lb_9, sm_lb_10, sm_lb_11, sm_lb_12, sm_lb_13, sm_lb_14, sm_lb_15, sm_lb_16, sm_lb_17, sm_lb_18, sm_lb_19, sm_lb_20, sm_lb_21, sm_lb_22, sm_lb_23, sm_lb_24, sm_lb_25, sm_lb_26, sm_lb_27, sm_lb_28, sm_lb_29, sm_lb_30, sm_lb_31, sm_lb_32, sm_lb_33, sm_lb_34, sm_lb_35, sm_lb_36, sm_lb_37, sm_lb_38, sm_lb_39, sm_lb_40, sm_lb_41, sm_lb_42, sm_lb_43, sm_lb_44, sm_lb_45, sm_lb_46, sm_lb_47, sm_lb_48, sm_lb_49, sm_lb_50, sm_lb_51, sm_lb_52, sm_lb_53, sm_lb_54, sm_lb_55, sm_lb_56, sm_lb_57, sm_lb_58, sm_lb_59, sm_lb_60, sm_lb_61, sm_lb_62, sm_lb_63, sm_lb_64, sm_lb_65, sm_lb_66, sm_lb_67, sm_lb_68, sm_lb_69, sm_lb_70, sm_lb_71, sm_lb_72, sm_lb_73, sm_lb_74, sm_lb_75, sm_lb_76, sm_lb_77, sm_lb_78, sm_lb_79, sm_lb_80, sm_lb_81, sm_lb_82, sm_lb_83, sm_lb_84, sm_lb_85, sm_lb_86, sm_lb_87, sm_lb_88, sm_lb_89, sm_lb_90, fun _ h => by cases h⟩
theorem sm_ok_law : sm_okQ code 13 false 4 (some .boolean) (sm_bo 231) (sm_bp.getD 231 []) ((sm_prog.getD 231 (false, [])).2) = true := by
  rw [sm_lawbp_eq, sm_lawpr_eq, sm_lawbo_eq]
  unfold sm_okQ
  have h1 : Nat.beq sm_lawbp.length q_L_law.length = true := by decide +kernel
  have h2 : List.range q_L_law.length = [0, 1, 2, 3, 4, 5, 6, 7, 8, 9, 10, 11, 12, 13, 14, 15, 16, 17, 18, 19, 20, 21, 22, 23, 24, 25, 26, 27, 28, 29, 30, 31, 32, 33, 34, 35, 36, 37, 38, 39, 40, 41, 42, 43, 44, 45, 46, 47, 48, 49, 50, 51, 52, 53, 54, 55, 56, 57, 58, 59, 60, 61, 62, 63, 64, 65, 66, 67, 68, 69, 70, 71, 72, 73, 74, 75, 76, 77, 78, 79, 80, 81, 82, 83, 84, 85, 86, 87, 88, 89, 90] := by decide +kernel
  rw [h1, h2, sm_lb_all]
  rfl
theorem sm_asd_on {w : Cond} (h : sm_asd w = true) : w.onTables = true := by
  cases w <;> first | rfl | (simp [sm_asd] at h)
theorem sm_K_start {args : Array Value} {s : State} (hts : ∀ w ∈ lw_tbl, w.before args s = true) (hgv : (Jvm.Cond.and given_1 narrow_1).before args s = true) : ∃ (D : va_G) (cy : Nat → ClassId), sm_K D cy s := by
  have ht2 : ∀ w ∈ sm_ts, w.before args s = true := fun w hw => hts w (List.mem_filter.mp hw).1
  have hcl : ∀ ci : Nat, ∃ q : ClassId × (Nat → Nat), ci < 12 → u_Kn s (sm_cn ci) (sm_T ci) (sm_N ci) q.1 q.2 := by
    intro ci
    by_cases h : ci < 12
    · obtain ⟨cC, iS, hk⟩ := u_known (C := sm_cn ci) (T := sm_T ci) (N := sm_N ci) (n := sm_N ci) ht2 (sm_cin h) (ht2 _ (sm_cinst h).1)
      exact ⟨(cC, iS), fun _ => hk⟩
    · exact ⟨(0, fun _ => 0), fun g => absurd g h⟩
  obtain ⟨f, hf⟩ := Classical.axiomOfChoice hcl
  obtain ⟨c0, k0, p0, a1, a2, a3⟩ := Cond.arrayClass_spec (hts _ (sm_at_mem sm_okar.1))
  obtain ⟨c1, k1, p1, b1, b2, b3⟩ := Cond.arrayClass_spec (hts _ (sm_at_mem sm_okar.2.1))
  obtain ⟨c2, k2, p2, d1, d2, d3⟩ := Cond.arrayClass_spec (hts _ (sm_at_mem sm_okar.2.2.1))
  obtain ⟨p3, c3, k3, e1, e2, e3, e4, e5⟩ := Cond.arrayOver_spec (hts _ (sm_at_mem sm_okar.2.2.2.1))
  obtain ⟨p4, c4, k4, f1, f2, f3, f4, f5⟩ := Cond.arrayOver_spec (hts _ (sm_at_mem sm_okar.2.2.2.2))
  have hs := flat_of_before _ hgv
  refine ⟨(fun ci => (f ci).1, fun ci => (f ci).2), fun t => if t = 0 then c0 else if t = 1 then c1 else if t = 2 then c2 else if t = 3 then c3 else c4, ⟨?_, ?_⟩, fun w hw ha => va_Nw.of (sm_asd_on ha) (hts w hw), va_AO.of (hts _ (sm_at_mem sm_okar.2.2.2.1)), va_AO.of (hts _ (sm_at_mem sm_okar.2.2.2.2)), va_Nc.of (hs (.not (.castable "WordGrid$Pattern" "WordGrid$Plain")) (by decide +kernel)), va_Nc.of (hs (.not (.castable "WordGrid$Joined" "WordGrid$Plain")) (by decide +kernel))⟩
  · intro ci q hq
    have hlt : ci < 12 := by
      have := (List.getElem?_eq_some_iff.mp hq).1
      simpa [sm_cl] using this
    rw [sm_cl_get hlt] at hq
    cases hq
    exact hf ci hlt
  · intro k q hq
    match k, hq with
    | 0, hq => cases hq; exact ⟨fun N z => ⟨(fun k h => by cases h), k0, a2, p0, a3⟩, a1⟩
    | 1, hq => cases hq; exact ⟨fun N z => ⟨(fun k h => by cases h), k1, b2, p1, b3⟩, b1⟩
    | 2, hq => cases hq; exact ⟨fun N z => ⟨(fun k h => by cases h), k2, d2, p2, d3⟩, d1⟩
    | 3, hq => cases hq; exact ⟨fun N z => ⟨(fun k h => by cases h), k3, e3, p3, e4⟩, k3, p3, e3, e4, e1, e5⟩
    | 4, hq => cases hq; exact ⟨fun N z => ⟨(fun k h => by cases h), k4, f3, p4, f4⟩, k4, p4, f3, f4, f1, f5⟩
    | k + 5, hq => simp [sm_tys] at hq
set_option maxHeartbeats 2000000 in
theorem sm_whole {p : Program} {e : Env} {s : State} {m : MethodId} {below : List Frame} {meth : Method} {c : Code} (l : Launch) {b L : Nat} {xs : Nat → Int32} (C0 : lw_At p s m meth c b L xs) (n : Nat) (wf : sm_W)
    (hrun : sm_meth L xs (sm_call L xs 1000 n) 231 n 0 [(0, .retAddr 0)] [] [] = some (some (.int 1), wf)) (hcap : wf.length ≤ 600000 ∧ sm_sz wf ≤ 7302250) :
    W p l e room_1 s m #[Value.ref b] below meth c s.heap [] 0 0 (lw_Z below #[Value.ref b] s) (entryFrame m ([Value.ref b] : List Value).toArray 4) := by
  obtain ⟨hx, hb, hr, hml, hown, hts, hX, hbl, hlocks, hgv⟩ := C0
  obtain ⟨D, cy, hK⟩ := sm_K_start hts hgv
  have C : sm_C p s m #[Value.ref b] c D cy b s.heap.size 4 code 13 L xs := ⟨hx, hb, hown, fun w hw => hts w (List.mem_filter.mp hw).1, hK, hX, hbl, Nat.le_refl _, hml⟩
  have E : sm_End p l e room_1 s m #[Value.ref b] below meth c (lw_Z below #[Value.ref b] s) D cy b s.heap.size [] code (some .boolean) (some (.int 1)) wf := by
    intro pc rc H locs cells slots ls hd hkind hP1 hz1 hS1 hc1 hs1
    have hsz : sm_sz [] = 0 := rfl
    rcases hkind with ⟨rfl, h1, -⟩ | ⟨rfl, h1, -⟩ | ⟨rfl, h1, -⟩ | ⟨rfl, ⟨t, h1⟩, -⟩ | ⟨rfl, h1, -⟩
    · cases h1
    · refine va_forget (fun q hq => hS1.2.2 q hq) ?_
      refine W.widen (k := 600000) (n := 7302250) (by omega) (by omega) ?_
      exact lw_ret hx hb hr hlocks hd
    · cases h1
    · cases h1
    · cases h1
  have hl := lv_entry ([Value.ref b]) (n := 4) (Nat.le_of_ble_eq_true rfl)
  rw [lg_entry_eq]
  generalize (lg_sl ([Value.ref b]) ++ List.replicate (4 - (lg_sl ([Value.ref b])).length) Slot.unset).toArray = ls at hl ⊢
  have key := sm_meth_ok (l := l) (w0 := []) (y := 231) (R := room_1) C (fun h => by cases h) sm_ok_law (Or.inl ⟨999, sm_Ms_ok l D cy b s.heap.size L xs n 999, by decide, by decide⟩) (sm_call_mono 1000) ⟨by show s.heap.size + wf.length ≤ s.heap.size + 600000; omega, by show sm_sz wf ≤ 0 + 7302250; omega⟩ E n 0 [(0, .retAddr 0)] [] [] hrun 0 (sm_bp0 (y := 231) sm_ok_law)
  exact key s.heap [] 0 0 ls ⟨fun k q h => (by cases h), va_S.rf, hl, rfl, rfl⟩
