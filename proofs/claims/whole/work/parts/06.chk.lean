/-! the checks of the tables, each decided by the kernel -/
def sm_at (i : Nat) (w : Cond) : Bool := decide (lw_tbl[i]? = some w)
theorem sm_at_mem {i : Nat} {w : Cond} (h : sm_at i w = true) : w ∈ lw_tbl := List.mem_of_getElem? (of_decide_eq_true h)
def sm_cn (o : Nat) : String := sm_nm.getD o ""
def sm_Fs (ci : Nat) : List (String × String × String × Bool) := sm_FL.getD ci []
def sm_T (ci : Nat) : u_T := fun k => (sm_Fs ci).getD k ("", "", "", false)
def sm_N (ci : Nat) : Nat := (sm_Fs ci).length
def sm_ty (ci : Nat) : Nat → FieldType := fun k => (parseFieldDescriptor (sm_T ci k).2.2.1).getD .int
def sm_cl : List vw_C := (List.range 12).map (fun ci => (sm_cn ci, sm_T ci, sm_N ci))
def sm_m0 : sm_M := (⟨"", "", ""⟩, ByteArray.empty, 0, none, 0, 0, 0, 0, 0, 0)
def sm_m (y : Nat) : sm_M := sm_MT.getD y sm_m0
def sm_y (y : Nat) : MethodName := (sm_m y).1
abbrev sm_bytes (y : Nat) : ByteArray := (sm_m y).2.1
abbrev sm_nL (y : Nat) : Nat := (sm_m y).2.2.1
abbrev sm_ret (y : Nat) : Option FieldType := (sm_m y).2.2.2.1
abbrev sm_own (y : Nat) : Nat := (sm_m y).2.2.2.2.1
abbrev sm_np (y : Nat) : Nat := (sm_m y).2.2.2.2.2.1
abbrev sm_stat (y : Nat) : Nat := (sm_m y).2.2.2.2.2.2.1
def sm_okc (ci : Nat) : Bool :=
  (List.range (sm_N ci)).all (fun k => sm_at ((sm_HL.getD ci ([], 0, 0)).1.getD k 0) (u_lay (sm_cn ci) (sm_T ci) k) && (parseFieldDescriptor (sm_T ci k).2.2.1).isSome && decide (defaultValue (sm_ty ci k) = vp_V (sm_dflt.getD ci []) k))
    && sm_at (sm_HL.getD ci ([], 0, 0)).2.1 (.instantiable (sm_cn ci) (sm_N ci)) && sm_at (sm_HL.getD ci ([], 0, 0)).2.2 (.initialized (sm_cn ci)) && decide ((sm_Fs ci).map (fun f => f.2.1)).Nodup && decide ((sm_dflt.getD ci []).length = sm_N ci)
def sm_okm (e : sm_M) : Bool :=
  sm_at e.2.2.2.2.2.2.2.2.1 (bif Nat.beq e.2.2.2.2.2.2.1 1 then .static e.1 else .instanceMethod e.1)
    && (Nat.beq e.2.2.2.2.1 16 || sm_at e.2.2.2.2.2.2.2.2.2 (.initialized e.1.cls)) && decide ((parseMethodDescriptor e.1.desc).map (fun d => d.parameters.length) = some e.2.2.2.2.2.1)
    && decide (e.1.cls ≠ "java/lang/invoke/MethodHandle" ∧ e.1.cls ≠ "java/lang/invoke/VarHandle") && (Nat.beq e.2.2.2.2.1 16 || Nat.beq e.2.2.2.2.1 14 || plainName e.1.cls) && decide (e.2.2.1 ≤ 40) && decide (sm_cn e.2.2.2.2.1 = e.1.cls)
def sm_okLF (e : Nat × Nat × Nat × String × Nat × Nat) : Bool := match e with
  | (o, idx, n, ref, h, h2) => (List.range 12).all (fun ci => !(sm_sub ci (n / 512)) ||
      (Nat.ble (n / 4 % 128 + 1) (sm_N ci) && sm_at h (.fieldLink (sm_cn o) idx ref (sm_T ci (n / 4 % 128)).2.1 (sm_T ci (n / 4 % 128)).2.2.1)
        && (decide (ref = (sm_T ci (n / 4 % 128)).1) || sm_at h2 (.sameField ref (sm_T ci (n / 4 % 128)).1 (sm_T ci (n / 4 % 128)).2.1 (sm_T ci (n / 4 % 128)).2.2.1))
        && (match sm_ty ci (n / 4 % 128) with | .int => Nat.beq (n % 4) 0 | .long => Nat.beq (n % 4) 1 | .boolean => Nat.beq (n % 4) 2 | .object _ => Nat.beq (n % 4) 3 | .array _ => Nat.beq (n % 4) 3 | _ => false)))
def sm_link (o idx y nest h : Nat) : Bool := bif Nat.beq nest 0 then sm_at h (.methodLink (sm_cn o) idx (sm_y y)) else sm_at h (.methodLinkNest (sm_cn o) idx (sm_y y) "WordGrid")
def sm_okLS (e : Nat × Nat × Nat × Nat × Nat) : Bool := match e with
  | (o, idx, y, nest, h) => sm_link o idx y nest h && Nat.beq (sm_stat y) 1 && Nat.ble (y + 1) sm_MT.length && !(Nat.beq (sm_own y) 16)
def sm_okLI (e : Nat × Nat × Nat × Nat × Nat) : Bool := match e with
  | (o, idx, y, nest, h) => sm_link o idx y nest h && Nat.beq (sm_stat y) 0 && Nat.ble (y + 1) sm_MT.length && decide ((sm_y y).name = "<init>") && decide (sm_ret y = none) && !(Nat.beq (sm_own y) 16)
def sm_okLV (e : Nat × Nat × Nat × Nat × Nat × Nat) : Bool := match e with
  | (o, idx, ci, y, h, h2) => sm_at h (.methodLink (sm_cn o) idx (sm_y y)) && sm_at h2 (.selects (sm_cn ci) (sm_y y) (sm_y y)) && decide ((sm_y y).cls = sm_cn ci) && Nat.beq (sm_stat y) 0 && Nat.ble (y + 1) sm_MT.length && Nat.ble (ci + 1) 12 && !(Nat.beq (sm_own y) 16)
def sm_okLU (e : Nat × Nat × Nat × Nat × MethodName × String × Nat × Nat × Nat × Nat × Nat) : Bool := match e with
  | (o, idx, ci, y, x, owner, h, h2, h3, dk, h4) => sm_at h (.methodLink (sm_cn o) idx x) && sm_at h2 (.sameMethod x.cls owner x.name x.desc) && sm_at h3 (.selects (sm_cn ci) x (sm_y y)) && Nat.beq (sm_stat y) 0 && Nat.ble (y + 1) sm_MT.length && Nat.ble (ci + 1) 12 && !(Nat.beq (sm_own y) 16)
      && (bif Nat.beq dk 0 then decide (sm_y h4 = ⟨owner, x.name, x.desc⟩) && Nat.beq (sm_stat h4) 0 && Nat.ble (h4 + 1) sm_MT.length else sm_at h4 (.declares ⟨owner, x.name, x.desc⟩))
      && decide (owner ≠ "java/lang/invoke/MethodHandle" ∧ owner ≠ "java/lang/invoke/VarHandle") && decide ((parseMethodDescriptor x.desc).map (fun d => d.parameters.length) = some (sm_np y))
def sm_okLP (e : Nat × Nat × Nat × Nat × Nat × Nat) : Bool := match e with
  | (o, idx, y, h, h2, h3) => sm_at h (.methodLink (sm_cn o) idx (sm_y y)) && sm_at h2 (.sameMethod (sm_y y).cls (sm_y y).cls (sm_y y).name (sm_y y).desc) && sm_at h3 (.superclass (sm_cn o) (sm_y y).cls) && Nat.beq (sm_stat y) 0 && Nat.ble (y + 1) sm_MT.length && decide ((sm_y y).name ≠ "<init>") && !(Nat.beq (sm_own y) 16)
def sm_okLC (e : Nat × Nat × Nat × Nat) : Bool := match e with
  | (o, idx, c, h) => sm_at h (.classLink (sm_cn o) idx (bif Nat.beq c 103 then "WordGrid$Grid" else bif Nat.beq c 104 then "WordGrid$WordList" else sm_cn c)) && (Nat.ble (c + 1) 12 || Nat.beq c 103 || Nat.beq c 104)
def sm_okLK (e : Nat × Nat × Nat × Nat × Nat) : Bool := match e with
  | (o, idx, v, k, h) => bif Nat.beq k 0 then sm_at h (.constant (sm_cn o) idx (Int32.ofInt (Int.ofNat v))) else sm_at h (.constantLong (sm_cn o) idx (Int64.ofNat v))
def sm_okLA (e : Nat × Nat × Nat) : Bool := match e with
  | (o, idx, h) => sm_at h (.methodLink (sm_cn o) idx arraycopyName)
def sm_okLO (e : Nat × Nat × Nat) : Bool := match e with
  | (o, idx, h) => sm_at h (.methodLink (sm_cn o) idx objectInit)
set_option maxRecDepth 100000 in
theorem sm_mc_0 : sm_MT_0.map (fun e => lw_tbl[e.2.2.2.2.2.2.2.1]?) = sm_MT_0.map (fun e => some (.code e.1 e.2.1 e.2.2.1 e.2.2.2.1)) := by rfl
set_option maxRecDepth 100000 in
theorem sm_mc_1 : sm_MT_1.map (fun e => lw_tbl[e.2.2.2.2.2.2.2.1]?) = sm_MT_1.map (fun e => some (.code e.1 e.2.1 e.2.2.1 e.2.2.2.1)) := by rfl
set_option maxRecDepth 100000 in
theorem sm_mc_2 : sm_MT_2.map (fun e => lw_tbl[e.2.2.2.2.2.2.2.1]?) = sm_MT_2.map (fun e => some (.code e.1 e.2.1 e.2.2.1 e.2.2.2.1)) := by rfl
set_option maxRecDepth 100000 in
theorem sm_mc_3 : sm_MT_3.map (fun e => lw_tbl[e.2.2.2.2.2.2.2.1]?) = sm_MT_3.map (fun e => some (.code e.1 e.2.1 e.2.2.1 e.2.2.2.1)) := by rfl
set_option maxRecDepth 100000 in
theorem sm_mc_4 : sm_MT_4.map (fun e => lw_tbl[e.2.2.2.2.2.2.2.1]?) = sm_MT_4.map (fun e => some (.code e.1 e.2.1 e.2.2.1 e.2.2.2.1)) := by rfl
set_option maxRecDepth 100000 in
theorem sm_mc_5 : sm_MT_5.map (fun e => lw_tbl[e.2.2.2.2.2.2.2.1]?) = sm_MT_5.map (fun e => some (.code e.1 e.2.1 e.2.2.1 e.2.2.2.1)) := by rfl
theorem sm_mc : ∀ e ∈ sm_MT, Cond.code e.1 e.2.1 e.2.2.1 e.2.2.2.1 ∈ lw_tbl := by
  have key : ∀ (l : List sm_M), l.map (fun e => lw_tbl[e.2.2.2.2.2.2.2.1]?) = l.map (fun e => some (Cond.code e.1 e.2.1 e.2.2.1 e.2.2.2.1)) → ∀ e ∈ l, Cond.code e.1 e.2.1 e.2.2.1 e.2.2.2.1 ∈ lw_tbl := by
    intro l h e he
    have h2 := List.map_inj_left.mp h e he
    exact List.mem_of_getElem? h2
  intro e he
  have he : e ∈ sm_MT_0 ++ (sm_MT_1 ++ (sm_MT_2 ++ (sm_MT_3 ++ (sm_MT_4 ++ (sm_MT_5))))) := he
  simp only [List.mem_append] at he
  rcases he with he | he | he | he | he | he
  · exact key _ sm_mc_0 e he
  · exact key _ sm_mc_1 e he
  · exact key _ sm_mc_2 e he
  · exact key _ sm_mc_3 e he
  · exact key _ sm_mc_4 e he
  · exact key _ sm_mc_5 e he
theorem sm_okc_ok : (List.range 12).all sm_okc = true := by decide +kernel
theorem sm_okm_ok : sm_MT.all sm_okm = true := by decide +kernel
theorem sm_math_ok : (sm_MT.filter (fun e => Nat.beq e.2.2.2.2.1 14)).all (fun e => plainFor e.1) = true := by decide +kernel
theorem sm_okLF_ok : sm_LF.all sm_okLF = true := by decide +kernel
theorem sm_okLS_ok : sm_LS.all sm_okLS = true := by decide +kernel
theorem sm_okLI_ok : sm_LI.all sm_okLI = true := by decide +kernel
theorem sm_okLV_ok : sm_LV.all sm_okLV = true := by decide +kernel
theorem sm_okLU_ok : sm_LU.all sm_okLU = true := by decide +kernel
theorem sm_okLP_ok : sm_LP.all sm_okLP = true := by decide +kernel
theorem sm_okLC_ok : sm_LC.all sm_okLC = true := by decide +kernel
theorem sm_okLK_ok : sm_LK.all sm_okLK = true := by decide +kernel
theorem sm_okLA_ok : sm_LA.all sm_okLA = true := by decide +kernel
theorem sm_okLO_ok : sm_LO.all sm_okLO = true := by decide +kernel
theorem sm_okac : sm_at 752 (.native arraycopyName) = true ∧ sm_at 751 (.static arraycopyName) = true ∧ sm_at 68 (.initialized "java/lang/System") = true := by decide +kernel
theorem sm_okoi : sm_at 75 (.instanceMethod objectInit) = true ∧ sm_at 76 (.code objectInit ⟨#[0xb1]⟩ 1 none) = true := by decide +kernel
theorem sm_okar : sm_at 106 (.arrayClass .int) = true ∧ sm_at 226 (.arrayClass .long) = true ∧ sm_at 162 (.arrayClass .boolean) = true ∧ sm_at 131 (.arrayOver (.object "WordGrid$Grid")) = true ∧ sm_at 114 (.arrayOver (.object "WordGrid$WordList")) = true := by decide +kernel
/-- the words that a method's frame keeps: those of the tables that stay as they are -/
def sm_ts : List Cond := lw_tbl.filter goodWord
theorem sm_good {w : Cond} (h : w ∈ lw_tbl) (g : goodWord w = true) : w ∈ sm_ts := List.mem_filter.mpr ⟨h, g⟩
