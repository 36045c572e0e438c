/-! SOUNDNESS, the theorem -/
def aq_tyl : List FieldType := [.int, .boolean, .long, .byte, .array .long]
def aq_tys (dA : FieldType → ClassId) : List (ClassId × FieldType) := aq_tyl.map (fun t => (dA t, t))
/-- what else holds of a state, of its tables and of what lies below the base -/
def aq_XOk (base : Nat) (X : State → Prop) : Prop := (∀ U V : State, X U → U.vm = V.vm → U.heap = V.heap → X V) ∧ ∀ s U : State, X s → s.WarmedH U.vm → base ≤ s.heap.size → (∀ q : Nat, q < base → U.heap[q]? = s.heap[q]?) → X U
def aq_Pc (D : va_G) (cl : List vw_C) (dA : FieldType → ClassId) (base : Nat) (sp : Nat → Nat) (X : State → Prop) (as : List Value) (h : aq_H) : Array Value → State → Prop := fun v U => v = (as.map (aq_v base sp)).toArray ∧ aq_Abs D cl dA base sp h U.heap ∧ va_K D cl (aq_tys dA) U ∧ X U
def aq_Qc (D : va_G) (cl : List vw_C) (dA : FieldType → ClassId) (base : Nat) (sp : Nat → Nat) (r : Option Value) (h' : aq_H) : Array Value → State → Outcome → State → Prop := fun _ st o t => o = .returned (r.map (aq_v base sp)) ∧ aq_Abs D cl dA base sp h' t.heap ∧ va_F (fun q => base ≤ q) st t
/-- a method does what F says -/
def aq_MS (l : Launch) (D : va_G) (cl : List vw_C) (dA : FieldType → ClassId) (base : Nat) (sp : Nat → Nat) (X : State → Prop) (W0 : List Cond) (y : MethodName) (bytes : ByteArray) (maxL : Nat) (ret : Option FieldType) (f lo mc ms : Nat) (F : aq_F) : Prop :=
  ∀ (as : List Value) (h : aq_H) (r : Option Value) (h' : aq_H), F as h r h' → Met l y (Cond.code y bytes maxL ret :: W0) { frames := f, cells := mc, slots := ms, locals := lo } (aq_Pc D cl dA base sp X as h) (aq_Qc D cl dA base sp r h') mc ms (fun q => base ≤ q)
def aq_lnk (W0 : List Cond) (X : State → Prop) (own : String) (idx : Nat) (y : MethodName) : Prop := Cond.methodLink own idx y ∈ W0 ∨ ∃ host, ∀ U, X U → va_Nw (.methodLinkNest own idx y host) U
def aq_FOk (W0 : List Cond) (cl : List vw_C) (own nm : String) (q : Nat × Nat × Nat × FieldType × Bool) : Prop :=
  ∃ (C : String) (T : u_T) (N : Nat) (t0 : Nat → FieldType), cl[q.2.1]? = some (C, T, N) ∧ q.2.2.1 < N ∧ Cond.fieldLink own q.1 (T q.2.2.1).1 (T q.2.2.1).2.1 (T q.2.2.1).2.2.1 ∈ W0 ∧ (∀ w ∈ u_ws C T N, w ∈ W0) ∧ (∀ k, k < N → parseFieldDescriptor (T k).2.2.1 = some (t0 k)) ∧ (∀ a, a < N → ∀ b, b < N → a ≠ b → (T a).2.1 ≠ (T b).2.1) ∧ t0 q.2.2.1 = q.2.2.2.1 ∧ (q.2.2.2.2 = true → (T q.2.2.1).2.2.2 = false ∨ ((T q.2.2.1).2.2.2 = true ∧ nm = "<init>" ∧ (T q.2.2.1).1 = own))
def aq_COk (l : Launch) (D : va_G) (cl : List vw_C) (dA : FieldType → ClassId) (base : Nat) (sp : Nat → Nat) (X : State → Prop) (W0 : List Cond) (own : String) (f lo : Nat) (q : Nat × Nat × Nat × Nat × Nat × Nat × aq_F) : Prop :=
  ∃ (y : MethodName) (bytes : ByteArray) (maxL : Nat) (ret : Option FieldType) (f' lo' : Nat), aq_MS l D cl dA base sp X W0 y bytes maxL ret f' lo' q.2.2.2.2.1 q.2.2.2.2.2.1 q.2.2.2.2.2.2 ∧ f' + 1 ≤ f ∧ 8 + (maxL + 11) + lo' ≤ lo ∧ Cond.code y bytes maxL ret ∈ W0 ∧ Cond.initialized y.cls ∈ W0 ∧ aq_lnk W0 X own q.1 y ∧ (y.cls ≠ "java/lang/invoke/MethodHandle" ∧ y.cls ≠ "java/lang/invoke/VarHandle" ∧ (parseMethodDescriptor y.desc).map (fun d => d.parameters.length) = some q.2.2.2.1) ∧
    ((q.2.1 = 0 ∧ Cond.static y ∈ W0) ∨ (q.2.1 = 1 ∧ Cond.instanceMethod y ∈ W0 ∧ Cond.selects y.cls y y ∈ W0 ∧ ((∃ T, cl[q.2.2.1]? = some (y.cls, T)) ∨ ∃ k, q.2.2.1 = 1000 + k ∧ ∀ U, X U → sp k < base ∧ ∃ cellB : Cell, U.heap[sp k]? = some cellB ∧ cellB.vm.isStatics = false ∧ U.vm.findClass y.cls = some cellB.cls)) ∨ (q.2.1 = 2 ∧ Cond.instanceMethod y ∈ W0 ∧ y.name = "<init>" ∧ ret = none))
def aq_NOk (W0 : List Cond) (cl : List vw_C) (own : String) (q : Nat × Nat × List Value) : Prop :=
  ∃ (C : String) (T : u_T) (t0 : Nat → FieldType), cl[q.2.1]? = some (C, T, q.2.2.length) ∧ Cond.classLink own q.1 C ∈ W0 ∧ Cond.instantiable C q.2.2.length ∈ W0 ∧ Cond.initialized C ∈ W0 ∧ (∀ w ∈ u_ws C T q.2.2.length, w ∈ W0) ∧ (∀ k, k < q.2.2.length → parseFieldDescriptor (T k).2.2.1 = some (t0 k)) ∧ (∀ j, j < q.2.2.length → defaultValue (t0 j) = vp_V q.2.2 j) ∧ ∀ v ∈ q.2.2, ∀ b sp, aq_v b sp v = v
def aq_KOk (W0 : List Cond) (X : State → Prop) (sp : Nat → Nat) (own : String) (q : Nat × Value) : Prop :=
  (∃ v, q.2 = .int v ∧ Cond.constant own q.1 v ∈ W0) ∨ (∃ v, q.2 = .long v ∧ Cond.constantLong own q.1 v ∈ W0) ∨ ∃ k tx, q.2 = .retAddr k ∧ ∀ U, X U → vk_R own q.1 tx (sp k) U
theorem aq_pr_idx {b : Nat} {sp : Nat → Nat} {L : aq_L} {i : Nat} {v : Value} (e : L[i]? = some (some v)) : ∃ k : Nat, (aq_pr b sp L)[k]? = some (i, aq_v b sp v) := List.getElem?_of_mem (aq_pr_mem.mpr ⟨v, e, rfl⟩)
theorem aq_seti (cA : ClassId) (n : Nat) (f : Nat → Int32) (k : Nat) (x : Int32) : (vp_cell cA (n, .inl f)).setSlot k (.int x) = vp_cell cA (n, .inl (upd f k x)) := by
  rw [vp_cell_i, vp_cell_i, arrV_store]
  refine congrArg (arrV cA n) (funext fun q => ?_)
  by_cases hq : q = k <;> simp [updV, upd, hq]
theorem aq_setl (cA : ClassId) (n : Nat) (f : Nat → Int64) (k : Nat) (x : Int64) : (vp_cell cA (n, .inr (.inl f))).setSlot k (.long x) = vp_cell cA (n, .inr (.inl (vp_updL f k x))) := by
  rw [vp_cell_l, vp_cell_l, arrV_store]
  refine congrArg (arrV cA n) (funext fun q => ?_)
  by_cases hq : q = k <;> simp [updV, vp_updL, hq]
theorem aq_nrw {t : FieldType} (h : aq_isB t = true ∨ t = .char) (x : Int32) : narrow t (.int x) = .int (vp_nar t x) := by
  rcases h with h | h
  · cases t <;> simp [aq_isB] at h <;> rfl
  · subst h; rfl
theorem aq_narrow_v {t : FieldType} {v : Value} (b : Nat) (sp : Nat → Nat) (h : narrow t v = v) : narrow t (aq_v b sp v) = aq_v b sp v := by
  cases v with
  | ref k => cases t <;> rfl
  | retAddr k => cases t <;> rfl
  | _ => exact h
theorem aq_fits_v {t : FieldType} {v : Value} (b : Nat) (sp : Nat → Nat) (h : fits t v = true) (hn : ∀ k, v ≠ .retAddr k) : fits t (aq_v b sp v) = true := by
  cases v with
  | ref k => cases t <;> simp [fits, aq_v] at h ⊢
  | retAddr k => exact absurd rfl (hn k)
  | _ => exact h
theorem aq_fits_r {t : FieldType} {k : Nat} (h : fits t (.retAddr k) = true) : False := by
  cases t <;> simp [fits] at h
theorem aq_map_none {q : List Value} (h : ∀ v ∈ q, ∀ b sp, aq_v b sp v = v) (b : Nat) (sp : Nat → Nat) : q.map (aq_v b sp) = q := by
  conv => rhs; rw [← List.map_id q]
  apply List.map_congr_left
  intro v hv
  exact h v hv b sp
section AQS
variable {p : Program} {l : Launch} {e : Env} {R : Room} {s : State} {m : MethodId} {args : Array Value} {below : List Frame} {meth : Method} {c : Code} {D : va_G} {cl : List vw_C} {dA : FieldType → ClassId} {base : Nat} {sp : Nat → Nat} {X : State → Prop} {W0 : List Cond}
theorem aq_blind (hX : aq_XOk base X) (as : List Value) (h : aq_H) : FrameBlind (aq_Pc D cl dA base sp X as h) := by
  intro a U g mk q
  obtain ⟨q1, q2, q3, q4⟩ := q
  exact ⟨q1, q2, va_K.moved (u := U) (U := U.calling g mk a) (Vm.Alike.refl U.vm) q3, hX.1 U _ q4 rfl rfl⟩
/-- behind a call -/
theorem aq_ret {H : Heap} {locs : List Loc} {cells slots mc ms : Nat} {pc : Nat} {ls : Array Slot} {st0 rest : List Value} {a : Array Value} {r : Option Value} {h' : aq_H} {Q : State → Prop}
    (hr : va_Run p l e R s m args below meth c H locs cells slots mc ms (F0 m pc ls st0) rest (aq_Qc D cl dA base sp r h' a) (fun q => base ≤ q)) (hS : va_S (fun q => base ≤ q) s.heap H locs)
    (kk : ∀ (H1 : Heap) (locs1 : List Loc), aq_Abs D cl dA base sp h' H1 → va_S (fun q => base ≤ q) s.heap H1 locs1 → W p l e R s m args below meth c H1 locs1 (cells + mc) (slots + ms) Q (F0 m (pc + 3) ls ((r.map (aq_v base sp)).toList ++ rest))) : W p l e R s m args below meth c H locs cells slots Q (F0 m pc ls st0) := by
  intro T hT X
  obtain ⟨v, st₀, t, T', L, h0, X', hL, e1, e2, ⟨hv, hab, hz, hk⟩, st⟩ := hr T hT X
  cases hv
  rw [h0] at hz hk
  obtain ⟨t2, a1, b1⟩ := kk T'.heap (locs ++ L) (by rw [e1]; exact hab) ⟨Nat.le_trans hS.1 (by rw [e1]; exact hz), fun q h1 h2 => by rw [e1, hk q (Nat.lt_of_lt_of_le h1 hS.1) h2]; exact hS.2.1 q h1 h2, fun q hq => by
      rcases List.mem_append.mp hq with h | h
      · exact hS.2.2 q h
      · exact hL q h⟩ T' rfl X'
  exact ⟨t2, st t2 a1, b1⟩
theorem aq_goodIn {own : MethodName} {cc : ByteArray} {nL : Nat} {rt : Option FieldType} {y : MethodName} {bytes : ByteArray} {maxL : Nat} {ret : Option FieldType} (hW0 : W0.all goodWord = true) (hy : Cond.code y bytes maxL ret ∈ W0) : GoodIn (Cond.code own cc nL rt :: W0) (Cond.code y bytes maxL ret :: W0) := by
  intro w hw
  rcases List.mem_cons.mp hw with h1 | h1
  · subst h1
    exact ⟨List.mem_cons_of_mem _ hy, Or.inl rfl⟩
  · exact ⟨List.mem_cons_of_mem _ h1, good_of_word (List.all_eq_true.mp hW0 w h1)⟩
/-- the rule for new long[n][k], at a pool index -/
def aq_Mu (p : Program) (l : Launch) (e : Env) (R : Room) (s : State) (m : MethodId) (args : Array Value) (below : List Frame) (meth : Method) (c : Code) (dA : FieldType → ClassId) (cc : ByteArray) (idx : Nat) : Prop :=
  ∀ (pc : Nat) (x y : Int32) (H : Heap) (locs : List Loc) (cells slots : Nat) (ls : Array Slot) (rest : List Value) (Q : State → Prop), decode cc pc = .ok (.multianewarray idx 2, 4) → ¬ x < 0 → ¬ y < 0 → x.toNatClampNeg ≤ 65536 → y.toNatClampNeg ≤ 65536 → cells + (1 + x.toNatClampNeg) ≤ R.cells → slots + (x.toNatClampNeg + x.toNatClampNeg * y.toNatClampNeg) ≤ R.slots →
    (∀ H1 : Heap, H1.size = H.size + 1 + x.toNatClampNeg → (∀ q : Nat, q < H.size → H1[q]? = H[q]?) → H1[H.size]? = some (vp_cell (dA (.array .long)) (x.toNatClampNeg, .inr (.inr (.inr (.inr (fun j => some (H.size + 1 + j))))))) → (∀ j : Nat, j < x.toNatClampNeg → H1[H.size + 1 + j]? = some (vp_cell (dA .long) (y.toNatClampNeg, .inr (.inl (fun _ => 0))))) →
      W p l e R s m args below meth c H1 locs (cells + (1 + x.toNatClampNeg)) (slots + (x.toNatClampNeg + x.toNatClampNeg * y.toNatClampNeg)) Q (F0 m (pc + 4) ls (.ref H.size :: rest))) →
    W p l e R s m args below meth c H locs cells slots Q (F0 m pc ls (.int y :: .int x :: rest))
theorem aq_Abs.app {h : aq_H} {H H1 : Heap} {es : aq_H} (hA : aq_Abs D cl dA base sp h H) (hv : ∀ (j : Nat) (e : aq_E), es[j]? = some e → va_at D cl (base + (h.length + j), aq_e dA base sp e) H1) (z : H1.size = H.size + es.length) (oq : ∀ q : Nat, q < H.size → H1[q]? = H[q]?) : aq_Abs D cl dA base sp (h ++ es) H1 := by
  refine ⟨by rw [z, hA.1]; simp; omega, fun k q hk => ?_⟩
  rw [aq_w_get] at hk
  by_cases hl : k < h.length
  · rw [List.getElem?_append_left hl] at hk
    have hq : (aq_w dA base sp h)[k]? = some q := by rw [aq_w_get]; exact hk
    exact (hA.2 k q hq).kept (oq q.1 ((hA.2 k q hq).lt))
  · rw [List.getElem?_append_right (by omega)] at hk
    cases he : es[k - h.length]? with
    | none => rw [he] at hk; cases hk
    | some e =>
      rw [he] at hk
      cases hk
      have := hv _ e he
      rw [show h.length + (k - h.length) = k by omega] at this
      exact this
set_option maxHeartbeats 4000000 in
/-- THE WALK: aq_W gives W -/
theorem aq_sound {E : aq_Env} {y : MethodName} {cc : ByteArray} {nL f lo mc ms : Nat} {rt : Option FieldType} {own : String} {Q : Option Value → aq_H → Prop} {Qc : Array Value → State → Outcome → State → Prop}
    (hx : p.tables.exec = Jvm.exec) (hb : c.code = cc) (hr : meth.sig.returnType = rt) (hlocks : meth.locks = false) (hml : c.maxLocals = nL) (hown : s.vm.findClass own = some m.cls) (hnm : meth.name = y.name) (hts : ∀ w ∈ Cond.code y cc nL rt :: W0, w.before args s = true)
    (hRf : R.frames = f) (hRl : R.locals = lo) (hRc : R.cells = mc) (hRs : R.slots = ms) (hX : aq_XOk base X) (hXs : X s) (hbz : base ≤ s.heap.size) (hK : va_K D cl (aq_tys dA) s)
    (hW0 : W0.all goodWord = true) (hcl : cl.length ≤ 1000) (hck : aq_cks cc E.1 = true) (hrt : E.2.2.2.2.2.1 = rt) (hAr : ∀ t ∈ [FieldType.int, .boolean, .long, .byte], Cond.arrayClass t ∈ W0)
    (hF : ∀ q ∈ E.2.1, aq_FOk W0 cl own y.name q) (hC : ∀ q ∈ E.2.2.1, aq_COk l D cl dA base sp X W0 own f lo q) (hKc : ∀ q ∈ E.2.2.2.1, aq_KOk W0 X sp own q) (hN : ∀ q ∈ E.2.2.2.2.1, aq_NOk W0 cl own q)
    (hO : E.2.2.2.2.2.2.1 = 0 ∨ (Cond.methodLink own E.2.2.2.2.2.2.1 Lib.objectInit ∈ W0 ∧ Cond.instanceMethod Lib.objectInit ∈ W0 ∧ Cond.code Lib.objectInit ⟨#[0xb1]⟩ 1 none ∈ W0 ∧ 1 ≤ f ∧ 20 ≤ lo))
    (hSc : ∀ q, E.2.2.2.2.2.2.2 = some q → va_X (sp 0) q.1 q.2 s s.heap ∧ sp 0 < base) (hMu : ∀ (pc idx n : Nat) (ts : List Nat), E.1[pc]? = some (some (Instr.multianewarray idx 2, n, ts)) → aq_Mu p l e R s m args below meth c dA cc idx)
    (hQ : ∀ (r : Option Value) (h' : aq_H) (t : State), Q r h' → aq_Abs D cl dA base sp h' t.heap → va_F (fun q => base ≤ q) s t → Qc args s (.returned (r.map (aq_v base sp))) t)
    {pc : Nat} {L : aq_L} {st : List Value} {h : aq_H} {bc bs : Nat} (hw : aq_W E Q pc L st h bc bs) :
    ∀ (H : Heap) (locs : List Loc) (cells slots : Nat) (ls : Array Slot), aq_hl base sp ls nL L → aq_Abs D cl dA base sp h H → va_S (fun q => base ≤ q) s.heap H locs → cells + bc ≤ mc → slots + bs ≤ ms → W p l e R s m args below meth c H locs cells slots (MQ below Qc args s mc ms (fun q => base ≤ q)) (F0 m pc ls (st.map (aq_v base sp))) := by
  have htm : ∀ w ∈ W0, w.before args s = true := fun w hw => hts w (List.mem_cons_of_mem _ hw)
  have hXU : ∀ (H : Heap) (locs : List Loc), va_S (fun q => base ≤ q) s.heap H locs → ∀ U : State, U.heap = H → s.WarmedH U.vm → X U := by
    intro H locs hS U hU hW
    refine hX.2 s U hXs hW hbz (fun q hq => ?_)
    rw [hU]
    exact hS.2.1 q (by omega) (by omega)
  refine hw (fun pc L st h bc bs => ∀ (H : Heap) (locs : List Loc) (cells slots : Nat) (ls : Array Slot), aq_hl base sp ls nL L → aq_Abs D cl dA base sp h H → va_S (fun q => base ≤ q) s.heap H locs → cells + bc ≤ mc → slots + bs ≤ ms → W p l e R s m args below meth c H locs cells slots (MQ below Qc args s mc ms (fun q => base ≤ q)) (F0 m pc ls (st.map (aq_v base sp)))) ?_
  intro pc L st h bc bs i hi hs H locs cells slots ls hl hA hS hbc hbs
  unfold aq_stp at hs
  split at hs
  · obtain ⟨hd, hn, ht⟩ := aq_ck1 hck hi rfl
    subst hn
    have hz := hs
    exact lv_null hx hb hd (hz H locs cells slots ls hl hA hS hbc hbs)
  · obtain ⟨hd, hn, ht⟩ := aq_ck1 hck hi rfl
    subst hn
    have hz := hs
    exact lv_iconst hx hb hd rfl (hz H locs cells slots ls hl hA hS hbc hbs)
  · obtain ⟨hd, hn, ht⟩ := aq_ck1 hck hi rfl
    subst hn
    have hz := hs
    exact lv_bipush hx hb hd rfl (hz H locs cells slots ls hl hA hS hbc hbs)
  · obtain ⟨hd, hn, ht⟩ := aq_ck1 hck hi rfl
    subst hn
    have hz := hs
    exact lv_sipush hx hb hd rfl (hz H locs cells slots ls hl hA hS hbc hbs)
  · obtain ⟨hd, hn, ht⟩ := aq_ck1 hck hi rfl
    subst hn
    have hz := hs
    exact lv_lconst hx hb hd rfl (hz H locs cells slots ls hl hA hS hbc hbs)
  · obtain ⟨hd, hn, ht⟩ := aq_ck1 hck hi rfl
    subst hn
    obtain ⟨x, e1, hz⟩ := aq_gI_inv hs
    exact lv_iload_n hx hb hd rfl (hl.2.2.2 _ _ e1) (hz H locs cells slots ls hl hA hS hbc hbs)
  · obtain ⟨hd, hn, ht⟩ := aq_ck1 hck hi rfl
    subst hn
    obtain ⟨x, e1, hz⟩ := aq_gI_inv hs
    exact lv_iload hx hb hd (hl.2.2.2 _ _ e1) (hz H locs cells slots ls hl hA hS hbc hbs)
  · obtain ⟨hd, hn, ht⟩ := aq_ck1 hck hi rfl
    subst hn
    obtain ⟨x, e1, hz⟩ := aq_gL_inv hs
    exact lv_lload_n hx hb hd rfl (hl.2.2.2 _ _ e1) (hz H locs cells slots ls hl hA hS hbc hbs)
  · obtain ⟨hd, hn, ht⟩ := aq_ck1 hck hi rfl
    subst hn
    obtain ⟨x, e1, hz⟩ := aq_gL_inv hs
    exact lv_lload hx hb hd (hl.2.2.2 _ _ e1) (hz H locs cells slots ls hl hA hS hbc hbs)
  · obtain ⟨hd, hn, ht⟩ := aq_ck1 hck hi rfl
    subst hn
    obtain ⟨v, e1, h1, hz⟩ := aq_gA_inv hs
    have e2 := hl.2.2.2 _ _ e1
    cases v with
    | int x => simp [aq_isA] at h1
    | long x => simp [aq_isA] at h1
    | float x => simp [aq_isA] at h1
    | double x => simp [aq_isA] at h1
    | null => exact lv_aload_nN hx hb hd rfl e2 (hz H locs cells slots ls hl hA hS hbc hbs)
    | ref a => exact lv_aload_n hx hb hd rfl e2 (hz H locs cells slots ls hl hA hS hbc hbs)
    | retAddr a => exact lv_aload_n hx hb hd rfl e2 (hz H locs cells slots ls hl hA hS hbc hbs)
  · obtain ⟨hd, hn, ht⟩ := aq_ck1 hck hi rfl
    subst hn
    obtain ⟨v, e1, h1, hz⟩ := aq_gA_inv hs
    have e2 := hl.2.2.2 _ _ e1
    cases v with
    | int x => simp [aq_isA] at h1
    | long x => simp [aq_isA] at h1
    | float x => simp [aq_isA] at h1
    | double x => simp [aq_isA] at h1
    | null => exact lv_aloadN hx hb hd e2 (hz H locs cells slots ls hl hA hS hbc hbs)
    | ref a => exact lv_aload hx hb hd e2 (hz H locs cells slots ls hl hA hS hbc hbs)
    | retAddr a => exact lv_aload hx hb hd e2 (hz H locs cells slots ls hl hA hS hbc hbs)
  · obtain ⟨hd, hn, ht⟩ := aq_ck1 hck hi rfl
    subst hn
    obtain ⟨x, r, e0, h2, hz⟩ := aq_1i_inv hs
    clear hs
    subst e0
    exact lv_istore_n hx hb hd rfl hl.has (by rw [← hl.2.2.1]; exact h2) rfl (fun ls' h' => hz H locs cells slots ls' (hl.s1 rfl h') hA hS hbc hbs)
  · obtain ⟨hd, hn, ht⟩ := aq_ck1 hck hi rfl
    subst hn
    obtain ⟨x, r, e0, h2, hz⟩ := aq_1i_inv hs
    clear hs
    subst e0
    exact lv_istore hx hb hd hl.has (by rw [← hl.2.2.1]; exact h2) rfl (fun ls' h' => hz H locs cells slots ls' (hl.s1 rfl h') hA hS hbc hbs)
  · obtain ⟨hd, hn, ht⟩ := aq_ck1 hck hi rfl
    subst hn
    obtain ⟨x, r, e0, h2, hz⟩ := aq_1l_inv hs
    clear hs
    subst e0
    exact lv_lstore_n hx hb hd rfl hl.has (by rw [← hl.2.2.1]; exact h2) rfl (fun ls' h' => hz H locs cells slots ls' (hl.s2 rfl h') hA hS hbc hbs)
  · obtain ⟨hd, hn, ht⟩ := aq_ck1 hck hi rfl
    subst hn
    obtain ⟨x, r, e0, h2, hz⟩ := aq_1l_inv hs
    clear hs
    subst e0
    exact lv_lstore hx hb hd hl.has (by rw [← hl.2.2.1]; exact h2) rfl (fun ls' h' => hz H locs cells slots ls' (hl.s2 rfl h') hA hS hbc hbs)
  · obtain ⟨hd, hn, ht⟩ := aq_ck1 hck hi rfl
    subst hn
    obtain ⟨v, r, e0, h1, h2, hz⟩ := aq_1v_inv hs
    clear hs
    subst e0
    cases v with
    | int x => simp [aq_isA] at h1
    | long x => simp [aq_isA] at h1
    | float x => simp [aq_isA] at h1
    | double x => simp [aq_isA] at h1
    | null => exact lv_astore_nN hx hb hd rfl hl.has (by rw [← hl.2.2.1]; exact h2) rfl (fun ls' h' => hz H locs cells slots ls' (hl.s1 rfl h') hA hS hbc hbs)
    | ref a => exact lv_astore_n hx hb hd rfl hl.has (by rw [← hl.2.2.1]; exact h2) rfl (fun ls' h' => hz H locs cells slots ls' (hl.s1 rfl h') hA hS hbc hbs)
    | retAddr a => exact lv_astore_n hx hb hd rfl hl.has (by rw [← hl.2.2.1]; exact h2) rfl (fun ls' h' => hz H locs cells slots ls' (hl.s1 rfl h') hA hS hbc hbs)
  · obtain ⟨hd, hn, ht⟩ := aq_ck1 hck hi rfl
    subst hn
    obtain ⟨v, r, e0, h1, h2, hz⟩ := aq_1v_inv hs
    clear hs
    subst e0
    cases v with
    | int x => simp [aq_isA] at h1
    | long x => simp [aq_isA] at h1
    | float x => simp [aq_isA] at h1
    | double x => simp [aq_isA] at h1
    | null => exact lv_astoreN hx hb hd hl.has (by rw [← hl.2.2.1]; exact h2) rfl (fun ls' h' => hz H locs cells slots ls' (hl.s1 rfl h') hA hS hbc hbs)
    | ref a => exact lv_astore hx hb hd hl.has (by rw [← hl.2.2.1]; exact h2) rfl (fun ls' h' => hz H locs cells slots ls' (hl.s1 rfl h') hA hS hbc hbs)
    | retAddr a => exact lv_astore hx hb hd hl.has (by rw [← hl.2.2.1]; exact h2) rfl (fun ls' h' => hz H locs cells slots ls' (hl.s1 rfl h') hA hS hbc hbs)
  · obtain ⟨hd, hn, ht⟩ := aq_ck1 hck hi rfl
    subst hn
    obtain ⟨x, e1, h2, hz⟩ := aq_gI_inv hs
    obtain ⟨k0, hk0⟩ := aq_pr_idx (b := base) (sp := sp) e1
    exact lv_iinc hx hb hd hl.has hk0 rfl (by rw [← hl.2.2.1]; exact h2) rfl (fun ls' h' => hz H locs cells slots ls' (hl.s1 rfl h') hA hS hbc hbs)
  · obtain ⟨hd, hn, ht⟩ := aq_ck1 hck hi rfl
    subst hn
    obtain ⟨x, y, r, e0, hz⟩ := aq_2i_inv hs
    clear hs
    subst e0
    exact lv_iadd hx hb hd (hz H locs cells slots ls hl hA hS hbc hbs)
  · obtain ⟨hd, hn, ht⟩ := aq_ck1 hck hi rfl
    subst hn
    obtain ⟨x, y, r, e0, hz⟩ := aq_2i_inv hs
    clear hs
    subst e0
    exact lv_isub hx hb hd (hz H locs cells slots ls hl hA hS hbc hbs)
  · obtain ⟨hd, hn, ht⟩ := aq_ck1 hck hi rfl
    subst hn
    obtain ⟨x, y, r, e0, hz⟩ := aq_2i_inv hs
    clear hs
    subst e0
    exact lv_imul hx hb hd (hz H locs cells slots ls hl hA hS hbc hbs)
  · obtain ⟨hd, hn, ht⟩ := aq_ck1 hck hi rfl
    subst hn
    obtain ⟨x, y, r, e0, hz⟩ := aq_2i_inv hs
    clear hs
    subst e0
    exact lv_iand hx hb hd (hz H locs cells slots ls hl hA hS hbc hbs)
  · obtain ⟨hd, hn, ht⟩ := aq_ck1 hck hi rfl
    subst hn
    obtain ⟨x, y, r, e0, hz⟩ := aq_2i_inv hs
    clear hs
    subst e0
    exact lv_ior hx hb hd (hz H locs cells slots ls hl hA hS hbc hbs)
  · obtain ⟨hd, hn, ht⟩ := aq_ck1 hck hi rfl
    subst hn
    obtain ⟨x, y, r, e0, hz⟩ := aq_2i_inv hs
    clear hs
    subst e0
    exact lv_ixor hx hb hd (hz H locs cells slots ls hl hA hS hbc hbs)
  · obtain ⟨hd, hn, ht⟩ := aq_ck1 hck hi rfl
    subst hn
    obtain ⟨x, y, r, e0, hz⟩ := aq_2i_inv hs
    clear hs
    subst e0
    exact lv_ishl hx hb hd (hz H locs cells slots ls hl hA hS hbc hbs)
  · obtain ⟨hd, hn, ht⟩ := aq_ck1 hck hi rfl
    subst hn
    obtain ⟨x, y, r, e0, hz⟩ := aq_2i_inv hs
    clear hs
    subst e0
    exact lv_ishr hx hb hd (hz H locs cells slots ls hl hA hS hbc hbs)
  · obtain ⟨hd, hn, ht⟩ := aq_ck1 hck hi rfl
    subst hn
    obtain ⟨x, y, r, e0, hz⟩ := aq_2i_inv hs
    clear hs
    subst e0
    exact lv_iushr hx hb hd rfl (hz H locs cells slots ls hl hA hS hbc hbs)
  · obtain ⟨hd, hn, ht⟩ := aq_ck1 hck hi rfl
    subst hn
    obtain ⟨x, y, r, e0, h1, hz⟩ := aq_2i_inv hs
    clear hs
    subst e0
    exact lv_idiv hx hb hd h1 (hz H locs cells slots ls hl hA hS hbc hbs)
  · obtain ⟨hd, hn, ht⟩ := aq_ck1 hck hi rfl
    subst hn
    obtain ⟨x, y, r, e0, h1, hz⟩ := aq_2i_inv hs
    clear hs
    subst e0
    exact lv_irem hx hb hd h1 (hz H locs cells slots ls hl hA hS hbc hbs)
  · obtain ⟨hd, hn, ht⟩ := aq_ck1 hck hi rfl
    subst hn
    obtain ⟨x, y, r, e0, hz⟩ := aq_2l_inv hs
    clear hs
    subst e0
    exact lv_ladd hx hb hd (hz H locs cells slots ls hl hA hS hbc hbs)
  · obtain ⟨hd, hn, ht⟩ := aq_ck1 hck hi rfl
    subst hn
    obtain ⟨x, y, r, e0, hz⟩ := aq_2l_inv hs
    clear hs
    subst e0
    exact lv_lsub hx hb hd (hz H locs cells slots ls hl hA hS hbc hbs)
  · obtain ⟨hd, hn, ht⟩ := aq_ck1 hck hi rfl
    subst hn
    obtain ⟨x, y, r, e0, hz⟩ := aq_2l_inv hs
    clear hs
    subst e0
    exact lv_lmul hx hb hd (hz H locs cells slots ls hl hA hS hbc hbs)
  · obtain ⟨hd, hn, ht⟩ := aq_ck1 hck hi rfl
    subst hn
    obtain ⟨x, y, r, e0, hz⟩ := aq_2l_inv hs
    clear hs
    subst e0
    exact lv_land hx hb hd (hz H locs cells slots ls hl hA hS hbc hbs)
  · obtain ⟨hd, hn, ht⟩ := aq_ck1 hck hi rfl
    subst hn
    obtain ⟨x, y, r, e0, hz⟩ := aq_2l_inv hs
    clear hs
    subst e0
    exact lv_lor hx hb hd (hz H locs cells slots ls hl hA hS hbc hbs)
  · obtain ⟨hd, hn, ht⟩ := aq_ck1 hck hi rfl
    subst hn
    obtain ⟨x, y, r, e0, hz⟩ := aq_2l_inv hs
    clear hs
    subst e0
    exact lv_lxor hx hb hd (hz H locs cells slots ls hl hA hS hbc hbs)
  · obtain ⟨hd, hn, ht⟩ := aq_ck1 hck hi rfl
    subst hn
    obtain ⟨x, y, r, e0, h1, hz⟩ := aq_2l_inv hs
    clear hs
    subst e0
    exact lv_ldiv hx hb hd h1 (hz H locs cells slots ls hl hA hS hbc hbs)
  · obtain ⟨hd, hn, ht⟩ := aq_ck1 hck hi rfl
    subst hn
    obtain ⟨x, y, r, e0, h1, hz⟩ := aq_2l_inv hs
    clear hs
    subst e0
    exact lv_lrem hx hb hd h1 (hz H locs cells slots ls hl hA hS hbc hbs)
  · obtain ⟨hd, hn, ht⟩ := aq_ck1 hck hi rfl
    subst hn
    obtain ⟨x, y, r, e0, hz⟩ := aq_2l_inv hs
    clear hs
    subst e0
    exact W.lcmp hx hb hd (hz H locs cells slots ls hl hA hS hbc hbs)
  · obtain ⟨hd, hn, ht⟩ := aq_ck1 hck hi rfl
    subst hn
    obtain ⟨x, r, e0, hz⟩ := aq_1i_inv hs
    clear hs
    subst e0
    exact lv_ineg hx hb hd (hz H locs cells slots ls hl hA hS hbc hbs)
  · obtain ⟨hd, hn, ht⟩ := aq_ck1 hck hi rfl
    subst hn
    obtain ⟨x, r, e0, hz⟩ := aq_1i_inv hs
    clear hs
    subst e0
    exact lv_i2l hx hb hd rfl (hz H locs cells slots ls hl hA hS hbc hbs)
  · obtain ⟨hd, hn, ht⟩ := aq_ck1 hck hi rfl
    subst hn
    obtain ⟨x, r, e0, hz⟩ := aq_1i_inv hs
    clear hs
    subst e0
    exact lv_i2b hx hb hd rfl (hz H locs cells slots ls hl hA hS hbc hbs)
  · obtain ⟨hd, hn, ht⟩ := aq_ck1 hck hi rfl
    subst hn
    obtain ⟨x, r, e0, hz⟩ := aq_1i_inv hs
    clear hs
    subst e0
    exact lv_i2c hx hb hd rfl (hz H locs cells slots ls hl hA hS hbc hbs)
  · obtain ⟨hd, hn, ht⟩ := aq_ck1 hck hi rfl
    subst hn
    obtain ⟨x, r, e0, hz⟩ := aq_1i_inv hs
    clear hs
    subst e0
    exact lv_i2s hx hb hd rfl (hz H locs cells slots ls hl hA hS hbc hbs)
  · obtain ⟨hd, hn, ht⟩ := aq_ck1 hck hi rfl
    subst hn
    obtain ⟨x, r, e0, hz⟩ := aq_1l_inv hs
    clear hs
    subst e0
    exact lv_lneg hx hb hd (hz H locs cells slots ls hl hA hS hbc hbs)
  · obtain ⟨hd, hn, ht⟩ := aq_ck1 hck hi rfl
    subst hn
    obtain ⟨x, r, e0, hz⟩ := aq_1l_inv hs
    clear hs
    subst e0
    exact lv_l2i hx hb hd rfl (hz H locs cells slots ls hl hA hS hbc hbs)
  · obtain ⟨hd, hn, ht⟩ := aq_ck1 hck hi rfl
    subst hn
    obtain ⟨x, y, r, e0, hz⟩ := aq_li_inv hs
    clear hs
    subst e0
    exact lv_lshl hx hb hd rfl (hz H locs cells slots ls hl hA hS hbc hbs)
  · obtain ⟨hd, hn, ht⟩ := aq_ck1 hck hi rfl
    subst hn
    obtain ⟨x, y, r, e0, hz⟩ := aq_li_inv hs
    clear hs
    subst e0
    exact lv_lshr hx hb hd rfl (hz H locs cells slots ls hl hA hS hbc hbs)
  · obtain ⟨hd, hn, ht⟩ := aq_ck1 hck hi rfl
    subst hn
    obtain ⟨x, y, r, e0, hz⟩ := aq_li_inv hs
    clear hs
    subst e0
    exact lv_lushr hx hb hd rfl (hz H locs cells slots ls hl hA hS hbc hbs)
  · obtain ⟨hd, hn, ht⟩ := aq_ck1 hck hi rfl
    subst hn
    obtain ⟨v, r, e0, h1, hz⟩ := aq_1v_inv hs
    clear hs
    subst e0
    exact lv_pop hx hb hd (by rw [aq_v_cat]; exact h1) (hz H locs cells slots ls hl hA hS hbc hbs)
  · obtain ⟨hd, hn, ht⟩ := aq_ck1 hck hi rfl
    subst hn
    obtain ⟨v, r, e0, h1, hz⟩ := aq_1v_inv hs
    clear hs
    subst e0
    exact lv_dup hx hb hd (by rw [aq_v_cat]; exact h1) (hz H locs cells slots ls hl hA hS hbc hbs)
  · obtain ⟨hd, hn, ht⟩ := aq_ck1 hck hi rfl
    subst hn
    obtain ⟨v, w, r, e0, h1, h2, hz⟩ := aq_2v_inv hs
    clear hs
    subst e0
    exact lv_dup_x1 hx hb hd (by rw [aq_v_cat]; exact h1) (by rw [aq_v_cat]; exact h2) (hz H locs cells slots ls hl hA hS hbc hbs)
  · obtain ⟨hd, hn, ht⟩ := aq_ck1 hck hi rfl
    subst hn
    obtain ⟨v, w, u, r, e0, h1, h2, h3, hz⟩ := aq_3v_inv hs
    clear hs
    subst e0
    exact lv_dup_x2 hx hb hd (by rw [aq_v_cat]; exact h1) (by rw [aq_v_cat]; exact h2) (by rw [aq_v_cat]; exact h3) (hz H locs cells slots ls hl hA hS hbc hbs)
  · obtain ⟨hd, hn, ht⟩ := aq_ck1 hck hi rfl
    subst hn
    obtain ⟨v, r, e0, hz⟩ := aq_1v_inv hs
    clear hs
    subst e0
    by_cases hc : v.category = 2
    · rw [if_pos hc] at hz
      exact lv_dup2_2 hx hb hd (by rw [aq_v_cat]; exact hc) (hz H locs cells slots ls hl hA hS hbc hbs)
    · rw [if_neg hc] at hz
      obtain ⟨w, r', e0, h1, hw'⟩ := aq_1v_inv hz
      clear hz
      subst e0
      have hz := hw'
      exact lv_dup2_11 hx hb hd (by rw [aq_v_cat]; rcases lv_cat v with q | q; exact q; exact absurd q hc) (by rw [aq_v_cat]; exact h1) (hz H locs cells slots ls hl hA hS hbc hbs)
  · obtain ⟨hd, hn, ht⟩ := aq_ck1 hck hi rfl
    subst hn
    obtain ⟨v, w, r, e0, h1, h2, hz⟩ := aq_2v_inv hs
    clear hs
    subst e0
    exact lv_dup2_x1_2 hx hb hd (by rw [aq_v_cat]; exact h1) (by rw [aq_v_cat]; exact h2) (hz H locs cells slots ls hl hA hS hbc hbs)
  · obtain ⟨hd, hn, ht⟩ := aq_ck1 hck hi rfl
    subst hn
    obtain ⟨v, w, u, r, e0, h1, h2, h3, hz⟩ := aq_3v_inv hs
    clear hs
    subst e0
    exact lv_dup2_x2_2 hx hb hd (by rw [aq_v_cat]; exact h1) (by rw [aq_v_cat]; exact h2) (by rw [aq_v_cat]; exact h3) (hz H locs cells slots ls hl hA hS hbc hbs)
  · obtain ⟨hd, hn, ht⟩ := aq_ck1 hck hi rfl
    subst hn
    obtain ⟨x, r, e0, hz⟩ := aq_1i_inv hs
    clear hs
    subst e0
    exact lv_if_eq hx hb hd (of_decide_eq_true ht) (fun c => by rw [if_pos c] at hz; exact hz H locs cells slots ls hl hA hS hbc hbs) (fun c => by rw [if_neg (c)] at hz; exact hz H locs cells slots ls hl hA hS hbc hbs)
  · obtain ⟨hd, hn, ht⟩ := aq_ck1 hck hi rfl
    subst hn
    obtain ⟨x, y, r, e0, hz⟩ := aq_2i_inv hs
    clear hs
    subst e0
    exact lv_icmp_eq hx hb hd (of_decide_eq_true ht) (fun c => by rw [if_pos c] at hz; exact hz H locs cells slots ls hl hA hS hbc hbs) (fun c => by rw [if_neg (c)] at hz; exact hz H locs cells slots ls hl hA hS hbc hbs)
  · obtain ⟨hd, hn, ht⟩ := aq_ck1 hck hi rfl
    subst hn
    obtain ⟨x, r, e0, hz⟩ := aq_1i_inv hs
    clear hs
    subst e0
    exact lv_if_ne hx hb hd (of_decide_eq_true ht) (fun c => by rw [if_pos c] at hz; exact hz H locs cells slots ls hl hA hS hbc hbs) (fun c => by rw [if_neg (fun q => q c)] at hz; exact hz H locs cells slots ls hl hA hS hbc hbs)
  · obtain ⟨hd, hn, ht⟩ := aq_ck1 hck hi rfl
    subst hn
    obtain ⟨x, y, r, e0, hz⟩ := aq_2i_inv hs
    clear hs
    subst e0
    exact lv_icmp_ne hx hb hd (of_decide_eq_true ht) (fun c => by rw [if_pos c] at hz; exact hz H locs cells slots ls hl hA hS hbc hbs) (fun c => by rw [if_neg (fun q => q c)] at hz; exact hz H locs cells slots ls hl hA hS hbc hbs)
  · obtain ⟨hd, hn, ht⟩ := aq_ck1 hck hi rfl
    subst hn
    obtain ⟨x, r, e0, hz⟩ := aq_1i_inv hs
    clear hs
    subst e0
    exact lv_if_lt hx hb hd (of_decide_eq_true ht) (fun c => by rw [if_pos c] at hz; exact hz H locs cells slots ls hl hA hS hbc hbs) (fun c => by rw [if_neg (c)] at hz; exact hz H locs cells slots ls hl hA hS hbc hbs)
  · obtain ⟨hd, hn, ht⟩ := aq_ck1 hck hi rfl
    subst hn
    obtain ⟨x, y, r, e0, hz⟩ := aq_2i_inv hs
    clear hs
    subst e0
    exact lv_icmp_lt hx hb hd (of_decide_eq_true ht) (fun c => by rw [if_pos c] at hz; exact hz H locs cells slots ls hl hA hS hbc hbs) (fun c => by rw [if_neg (c)] at hz; exact hz H locs cells slots ls hl hA hS hbc hbs)
  · obtain ⟨hd, hn, ht⟩ := aq_ck1 hck hi rfl
    subst hn
    obtain ⟨x, r, e0, hz⟩ := aq_1i_inv hs
    clear hs
    subst e0
    exact lv_if_ge hx hb hd (of_decide_eq_true ht) (fun c => by rw [if_pos c] at hz; exact hz H locs cells slots ls hl hA hS hbc hbs) (fun c => by rw [if_neg (c)] at hz; exact hz H locs cells slots ls hl hA hS hbc hbs)
  · obtain ⟨hd, hn, ht⟩ := aq_ck1 hck hi rfl
    subst hn
    obtain ⟨x, y, r, e0, hz⟩ := aq_2i_inv hs
    clear hs
    subst e0
    exact lv_icmp_ge hx hb hd (of_decide_eq_true ht) (fun c => by rw [if_pos c] at hz; exact hz H locs cells slots ls hl hA hS hbc hbs) (fun c => by rw [if_neg (c)] at hz; exact hz H locs cells slots ls hl hA hS hbc hbs)
  · obtain ⟨hd, hn, ht⟩ := aq_ck1 hck hi rfl
    subst hn
    obtain ⟨x, r, e0, hz⟩ := aq_1i_inv hs
    clear hs
    subst e0
    exact lv_if_gt hx hb hd (of_decide_eq_true ht) (fun c => by rw [if_pos c] at hz; exact hz H locs cells slots ls hl hA hS hbc hbs) (fun c => by rw [if_neg (c)] at hz; exact hz H locs cells slots ls hl hA hS hbc hbs)
  · obtain ⟨hd, hn, ht⟩ := aq_ck1 hck hi rfl
    subst hn
    obtain ⟨x, y, r, e0, hz⟩ := aq_2i_inv hs
    clear hs
    subst e0
    exact lv_icmp_gt hx hb hd (of_decide_eq_true ht) (fun c => by rw [if_pos c] at hz; exact hz H locs cells slots ls hl hA hS hbc hbs) (fun c => by rw [if_neg (c)] at hz; exact hz H locs cells slots ls hl hA hS hbc hbs)
  · obtain ⟨hd, hn, ht⟩ := aq_ck1 hck hi rfl
    subst hn
    obtain ⟨x, r, e0, hz⟩ := aq_1i_inv hs
    clear hs
    subst e0
    exact lv_if_le hx hb hd (of_decide_eq_true ht) (fun c => by rw [if_pos c] at hz; exact hz H locs cells slots ls hl hA hS hbc hbs) (fun c => by rw [if_neg (c)] at hz; exact hz H locs cells slots ls hl hA hS hbc hbs)
  · obtain ⟨hd, hn, ht⟩ := aq_ck1 hck hi rfl
    subst hn
    obtain ⟨x, y, r, e0, hz⟩ := aq_2i_inv hs
    clear hs
    subst e0
    exact lv_icmp_le hx hb hd (of_decide_eq_true ht) (fun c => by rw [if_pos c] at hz; exact hz H locs cells slots ls hl hA hS hbc hbs) (fun c => by rw [if_neg (c)] at hz; exact hz H locs cells slots ls hl hA hS hbc hbs)
  · obtain ⟨hd, hn, ht⟩ := aq_ck1 hck hi rfl
    subst hn
    obtain ⟨v, r, e0, h1, hz⟩ := aq_1v_inv hs
    clear hs
    subst e0
    cases v with
    | int x => simp [aq_isA] at h1
    | long x => simp [aq_isA] at h1
    | float x => simp [aq_isA] at h1
    | double x => simp [aq_isA] at h1
    | null => rw [if_pos rfl] at hz; exact lv_ifnullN hx hb hd (of_decide_eq_true ht) (hz H locs cells slots ls hl hA hS hbc hbs)
    | ref a => rw [if_neg (by intro q; cases q)] at hz; exact lv_ifnull hx hb hd (hz H locs cells slots ls hl hA hS hbc hbs)
    | retAddr a => rw [if_neg (by intro q; cases q)] at hz; exact lv_ifnull hx hb hd (hz H locs cells slots ls hl hA hS hbc hbs)
  · obtain ⟨hd, hn, ht⟩ := aq_ck1 hck hi rfl
    subst hn
    obtain ⟨v, r, e0, h1, hz⟩ := aq_1v_inv hs
    clear hs
    subst e0
    cases v with
    | int x => simp [aq_isA] at h1
    | long x => simp [aq_isA] at h1
    | float x => simp [aq_isA] at h1
    | double x => simp [aq_isA] at h1
    | null => rw [if_pos rfl] at hz; exact lv_ifnonnullN hx hb hd (hz H locs cells slots ls hl hA hS hbc hbs)
    | ref a => rw [if_neg (by intro q; cases q)] at hz; exact lv_ifnonnull hx hb hd (of_decide_eq_true ht) (hz H locs cells slots ls hl hA hS hbc hbs)
    | retAddr a => rw [if_neg (by intro q; cases q)] at hz; exact lv_ifnonnull hx hb hd (of_decide_eq_true ht) (hz H locs cells slots ls hl hA hS hbc hbs)
  · obtain ⟨hd, hn, ht⟩ := aq_ck1 hck hi rfl
    have hz := hs
    exact lv_goto hx hb hd (of_decide_eq_true ht) (hz H locs cells slots ls hl hA hS hbc hbs)
  · obtain ⟨hd, ht⟩ := aq_ck2 hck hi rfl
    rename_i dd lw hg os nn ts
    obtain ⟨x, r, e0, hz1⟩ := aq_1i_inv hs
    clear hs
    subst e0
    obtain ⟨t, e1, hz⟩ := aq_sm_inv hz1
    cases ts with
    | nil => split at e1 <;> simp at e1
    | cons t0 ts =>
      have ht2 : (decide ((pc : Int) + dd = (t0 : Int)) && decide (os.toList.map (fun o => (pc : Int) + o) = ts.map (fun t : Nat => (t : Int)))) = true := ht
      simp only [Bool.and_eq_true, decide_eq_true_eq] at ht2
      by_cases hc : x.toInt < lw ∨ hg < x.toInt
      · rw [if_pos hc] at e1
        have e2 : t0 = t := by simpa using e1
        subst e2
        exact lv_tableOut hx hb hd hc ht2.1 (hz H locs cells slots ls hl hA hS hbc hbs)
      · rw [if_neg hc] at e1
        rw [List.getElem?_cons_succ] at e1
        have e3 : (ts.map (fun t : Nat => (t : Int)))[(x.toInt - lw).toNat]? = some (t : Int) := by rw [List.getElem?_map, e1]; rfl
        rw [← ht2.2, List.getElem?_map] at e3
        cases e4 : os.toList[(x.toInt - lw).toNat]? with
        | none => rw [e4] at e3; cases e3
        | some o =>
          rw [e4] at e3
          exact lv_tableIn hx hb hd (fun q => hc (Or.inl q)) (fun q => hc (Or.inr q)) (by rw [← Array.getElem?_toList]; exact e4) (Option.some.inj e3) (hz H locs cells slots ls hl hA hS hbc hbs)
  · obtain ⟨hd, ht⟩ := aq_ck2 hck hi rfl
    rename_i dd ps nn t0 ts
    obtain ⟨x, r, e0, hz⟩ := aq_1i_inv hs
    clear hs
    subst e0
    have ht2 : (decide ((pc : Int) + dd = (t0 : Int)) && (decide (ps.toList.map (fun o => (pc : Int) + o.2) = ts.map (fun t : Nat => (t : Int))) && (ps.toList.zip (ps.toList.drop 1)).all (fun (a, next) => a.1 < next.1))) = true := ht
    simp only [Bool.and_eq_true, decide_eq_true_eq] at ht2
    have key : ∀ (l : List (Int × Int)) (ts : List Nat), l.map (fun o => (pc : Int) + o.2) = ts.map (fun t : Nat => (t : Int)) → (pc : Int) + Op.lookupswitch.offset l dd x.toInt = (aq_look l ts t0 x : Int) := by
      intro l
      induction l with
      | nil => intro ts hts; exact ht2.1
      | cons q l ih =>
        intro ts hts
        cases ts with
        | nil => simp at hts
        | cons t ts =>
          obtain ⟨qa, qo⟩ := q
          simp only [List.map_cons, List.cons.injEq] at hts
          rw [Op.lookupswitch.offset_cons]
          unfold aq_look
          by_cases hq : x.toInt = qa
          · rw [if_pos hq, if_pos (by first | exact hq | exact hq.symm)]
            exact hts.1
          · rw [if_neg hq, if_neg (by first | exact hq | exact (fun z => hq z.symm))]
            exact ih ts hts.2
    exact lv_lookup hx hb hd ht2.2.2 rfl (key ps.toList ts ht2.2.1) (hz H locs cells slots ls hl hA hS hbc hbs)
  · obtain ⟨hd, hn, ht⟩ := aq_ck1 hck hi rfl
    subst hn
    obtain ⟨a, r, e0, hz1⟩ := aq_1a_inv hs
    clear hs
    subst e0
    obtain ⟨q, e1, hz2⟩ := aq_sm_inv hz1
    obtain ⟨ci, fs, e2, h1, hz3⟩ := aq_ob_inv hz2
    obtain ⟨v, e3, hz⟩ := aq_sm_inv hz3
    subst h1
    obtain ⟨C, T, N, t0, k1, k2, k3, k4, -⟩ := hF _ (aq_lk_mem e1)
    exact va_get (ref := (T q.2.1).1) hx hb hts (fun w hw => List.mem_cons_of_mem _ (k4 w hw)) hown hK hA.2 a (aq_w_at e2) k1 q.2.1 k2 (htm _ k3) (fun _ h9 => h9) (by rw [List.getElem?_map, e3]; rfl) hd (hz H locs cells slots ls hl hA hS hbc hbs)
  · obtain ⟨hd, hn, ht⟩ := aq_ck1 hck hi rfl
    subst hn
    obtain ⟨a, v, r, e0, hz1⟩ := aq_va_inv hs
    clear hs
    subst e0
    obtain ⟨q, e1, w1, w2, w3, hz2⟩ := aq_sm_inv hz1
    obtain ⟨ci, fs, e2, h1, h2, hz⟩ := aq_ob_inv hz2
    subst h1
    obtain ⟨C, T, N, t0, k1, k2, k3, k4, k5, k6, k7, k8⟩ := hF _ (aq_lk_mem e1)
    have hnr : ∀ k, v ≠ .retAddr k := fun k e => aq_fits_r (by rw [e] at w3; exact w3)
    have hap := va_apart (own := own) hts (fun w hw => List.mem_cons_of_mem _ (k4 w hw)) t0 k5 k6 hK k1
    obtain ⟨r', g1, cell, q1, q2, q3, q4⟩ := hA.2 a _ (aq_w_at e2)
    have hr' : r' = (C, T, N) := Option.some.inj (g1.symm.trans k1)
    subst hr'
    obtain ⟨hSl, hfc, kC, hkC, hkind⟩ := hK.1 _ _ k1
    obtain ⟨cf, kf, fi, fd, hi2, hsl⟩ := hSl q.2.1 k2
    have hlay := hts _ (List.mem_cons_of_mem _ (k4 _ (u_in_lay k2)))
    have hst := (u_facts hfc hkC (u_lays hts (fun w hw => List.mem_cons_of_mem _ (k4 w hw)) k2) hi2).1
    have hpd : parseFieldDescriptor (T q.2.1).2.2.1 = some q.2.2.1 := by rw [k5 _ k2]; exact congrArg some k7
    have hnv := aq_narrow_v base sp w2
    have hfv := aq_fits_v base sp w3 hnr
    have fin : ∀ (H1 : Heap) (lc : List Loc), H1[base + a]? = some (cell.setSlot fd.slot (aq_v base sp v)) → H1.size = H.size → (∀ z : Nat, z ≠ base + a → H1[z]? = H[z]?) → va_S (fun q => base ≤ q) s.heap H1 lc → W p l e R s m args below meth c H1 lc cells slots (MQ below Qc args s mc ms (fun q => base ≤ q)) (F0 m (pc + 3) ls (r.map (aq_v base sp))) := by
      intro H1 lc e5 e6 e7 hS1
      refine hz H1 lc cells slots ls hl (hA.set e2 ?_ e6 e7) hS1 hbc hbs
      rw [hsl] at e5
      refine ⟨_, k1, t_OB.to (V := updV (vp_V (fs.map (aq_v base sp))) q.2.1 (aq_v base sp v)) ⟨_, e5, q2, q3, t_set q4 hap k2 _⟩ (fun j _ => ?_)⟩
      rw [vp_updV_set (by simpa using h2)]
      show vp_V ((fs.map (aq_v base sp)).set q.2.1 (aq_v base sp v)) j = vp_V ((fs.set q.2.1 v).map (aq_v base sp)) j
      rw [List.map_set]
    rcases k8 w1 with z1 | ⟨z1, z2, z3⟩
    · unfold u_lay at hlay
      rw [if_neg (by rw [z1]; decide)] at hlay
      have h6 := u_store hfc hkC hkind hlay hi2 hpd hnv hfv
      exact W.putK hx hb (f := fd) ⟨hown, htm _ k3, ⟨_, _, _, hi2⟩, hst⟩ (by rw [q2]; exact h6) q1 q3 (by rw [hsl]; exact k2_hasslot (q4 _ k2)) rfl rfl hd fun H' e5 e6 e7 => fin H' _ e5 e6 e7 (hS.put e6 e7 (show base ≤ base + a by omega))
    · unfold u_lay at hlay
      rw [if_pos z1] at hlay
      have hcf : m.cls = cf := by
        obtain ⟨_, _, c', _, _, _, -, -, hf', -, -, -, hown2, -⟩ := Cond.laysFinal_spec hlay
        have e8 : c' = cf := by have := hi2.symm.trans hf'; simp at this; exact this.1.symm
        rw [z3] at hown2
        rw [← e8]; exact Option.some.inj (hown.symm.trans hown2)
      have h6 := u_fits hfc hkC hkind (Or.inr hlay) hi2 hpd hnv hfv
      exact W.putFinK hx hb hown (htm _ k3) hi2 hst hcf (hnm.trans z2) (by rw [q2]; exact h6) q1 q3 (by rw [hsl]; exact k2_hasslot (q4 _ k2)) rfl rfl hd fun H' e5 e6 e7 => fin H' _ e5 e6 e7 (hS.put e6 e7 (show base ≤ base + a by omega))
  · obtain ⟨hd, hn, ht⟩ := aq_ck1 hck hi rfl
    subst hn
    rcases hs with hs | hs
    · obtain ⟨a, i, r, e0, hz1⟩ := aq_ia_inv hs
      clear hs
      subst e0
      obtain ⟨n', f', e1, hin, hz⟩ := aq_arI_inv hz1
      exact va_iald hx hb hK hA.2 a 0 (aq_w_at e1) rfl hin hd (hz H locs cells slots ls hl hA hS hbc hbs)
    · obtain ⟨v, w, r, e0, i, h1, h2, hz1⟩ := aq_2v_inv hs
      clear hs
      subst e0
      subst h1
      subst h2
      obtain ⟨q, e1, hin, hz⟩ := aq_sm_inv hz1
      obtain ⟨s1, s2⟩ := hSc q e1
      exact va_sld (A := fun q => base ≤ q) hx hb s1 (by omega) (by show ¬ base ≤ sp 0; omega) hS hin hd (hz H locs cells slots ls hl hA hS hbc hbs)
  · obtain ⟨hd, hn, ht⟩ := aq_ck1 hck hi rfl
    subst hn
    obtain ⟨a, i, r, e0, hz1⟩ := aq_ia_inv hs
    clear hs
    subst e0
    obtain ⟨t, n', f', e1, hty, hin, hz⟩ := aq_arB_inv hz1
    cases t <;> simp [aq_isB] at hty
    · exact va_bald hx hb hK hA.2 a 3 (aq_w_at e1) rfl hin hd (hz H locs cells slots ls hl hA hS hbc hbs)
    · exact va_zald hx hb hK hA.2 a 1 (aq_w_at e1) rfl hin hd (hz H locs cells slots ls hl hA hS hbc hbs)
  · obtain ⟨hd, hn, ht⟩ := aq_ck1 hck hi rfl
    subst hn
    obtain ⟨a, i, r, e0, hz1⟩ := aq_ia_inv hs
    clear hs
    subst e0
    obtain ⟨n', f', e1, hin, hz⟩ := aq_arL_inv hz1
    exact va_lald hx hb hK hA.2 a 2 (aq_w_at e1) rfl hin hd (hz H locs cells slots ls hl hA hS hbc hbs)
  · obtain ⟨hd, hn, ht⟩ := aq_ck1 hck hi rfl
    subst hn
    obtain ⟨a, i, r, e0, hz1⟩ := aq_ia_inv hs
    clear hs
    subst e0
    obtain ⟨t, n', f', e1, hty, hin, hz⟩ := aq_arA_inv hz1
    subst hty
    have hlt : i.toNatClampNeg < n' := Nat.not_le.mp fun q => hin (Or.inr q)
    have e2 : va_rf ((f' i.toNatClampNeg).map (fun k => base + k)) = aq_v base sp (va_rf (f' i.toNatClampNeg)) := by cases f' i.toNatClampNeg <;> rfl
    refine W.aald (v := va_rf ((f' i.toNatClampNeg).map (fun k => base + k))) (ty := .array .long) hx hb (hA.2 a _ (aq_w_at e1)) ((hK.2 4 _ rfl).1 n' (fun j => va_rf ((f' j).map (fun k => base + k)))) rfl (fun q => by cases q) (by show ¬ (i < 0 ∨ (arrV _ _ _).slots.size ≤ _); rw [arrV_size]; exact hin) (arrV_read (dA (.array .long)) (fun j => va_rf ((f' j).map (fun k => base + k))) hlt) rfl rfl hd ?_
    rw [e2]
    exact hz H locs cells slots ls hl hA hS hbc hbs
  · obtain ⟨hd, hn, ht⟩ := aq_ck1 hck hi rfl
    subst hn
    obtain ⟨a, i, x, r, e0, hz1⟩ := aq_iia_inv hs
    clear hs
    subst e0
    obtain ⟨n', f', e1, hin, hz⟩ := aq_arI_inv hz1
    refine W.iast hx hb (hA.2 a _ (aq_w_at e1)) ((hK.2 0 _ rfl).1 n' (fun j => .int (f' j))) (fun q => by cases q) (by show ¬ (i < 0 ∨ (arrV _ _ _).slots.size ≤ _); rw [arrV_size]; exact hin) rfl rfl hd fun H1 e5 z oq => ?_
    refine hz H1 _ cells slots ls hl (hA.set e1 ?_ z oq) (hS.put z oq (show base ≤ base + a by omega)) hbc hbs
    show H1[base + a]? = some (vp_cell _ _)
    rw [e5]
    exact congrArg some (aq_seti _ _ _ _ _)
  · obtain ⟨hd, hn, ht⟩ := aq_ck1 hck hi rfl
    subst hn
    obtain ⟨a, i, x, r, e0, hz1⟩ := aq_iia_inv hs
    clear hs
    subst e0
    obtain ⟨t, n', f', e1, hty, hin, hz⟩ := aq_arB_inv hz1
    cases t <;> simp [aq_isB] at hty
    · refine W.bast hx hb (hA.2 a _ (aq_w_at e1)) ((hK.2 3 _ rfl).1 n' (fun j => .int (f' j))) (fun q => by cases q) (by show ¬ (i < 0 ∨ (arrV _ _ _).slots.size ≤ _); rw [arrV_size]; exact hin) rfl rfl hd fun H1 e5 z oq => ?_
      refine hz H1 _ cells slots ls hl (hA.set e1 ?_ z oq) (hS.put z oq (show base ≤ base + a by omega)) hbc hbs
      show H1[base + a]? = some (vp_cell _ _)
      rw [e5]
      exact congrArg some ((congrArg _ (aq_nrw (Or.inl rfl) x)).trans (aq_seti _ _ _ _ _))
    · refine W.zast hx hb (hA.2 a _ (aq_w_at e1)) ((hK.2 1 _ rfl).1 n' (fun j => .int (f' j))) (fun q => by cases q) (by show ¬ (i < 0 ∨ (arrV _ _ _).slots.size ≤ _); rw [arrV_size]; exact hin) rfl rfl hd fun H1 e5 z oq => ?_
      refine hz H1 _ cells slots ls hl (hA.set e1 ?_ z oq) (hS.put z oq (show base ≤ base + a by omega)) hbc hbs
      show H1[base + a]? = some (vp_cell _ _)
      rw [e5]
      exact congrArg some ((congrArg _ (aq_nrw (Or.inl rfl) x)).trans (aq_seti _ _ _ _ _))
  · obtain ⟨hd, hn, ht⟩ := aq_ck1 hck hi rfl
    subst hn
    obtain ⟨a, i, x, r, e0, hz1⟩ := aq_lia_inv hs
    clear hs
    subst e0
    obtain ⟨n', f', e1, hin, hz⟩ := aq_arL_inv hz1
    refine W.last hx hb (hA.2 a _ (aq_w_at e1)) ((hK.2 2 _ rfl).1 n' (fun j => .long (f' j))) (fun q => by cases q) (by show ¬ (i < 0 ∨ (arrV _ _ _).slots.size ≤ _); rw [arrV_size]; exact hin) rfl rfl hd fun H1 e5 z oq => ?_
    refine hz H1 _ cells slots ls hl (hA.set e1 ?_ z oq) (hS.put z oq (show base ≤ base + a by omega)) hbc hbs
    show H1[base + a]? = some (vp_cell _ _)
    rw [e5]
    exact congrArg some (aq_setl _ _ _ _ _)
  · obtain ⟨hd, hn, ht⟩ := aq_ck1 hck hi rfl
    subst hn
    rcases hs with hs | hs
    · obtain ⟨a, r, e0, hz1⟩ := aq_1a_inv hs
      clear hs
      subst e0
      obtain ⟨t, x, e1, hty, hz⟩ := aq_arN_inv hz1
      have key : ∃ t0 : Nat, (aq_tys dA)[t0]? = some (dA t, t) := by
        obtain ⟨k, hk⟩ := List.getElem?_of_mem hty
        exact ⟨k, by unfold aq_tys; rw [List.getElem?_map, show aq_tyl[k]? = some t from hk]; rfl⟩
      obtain ⟨t0, hk⟩ := key
      exact va_alen (x := aq_a base x) hx hb hK hA.2 a t0 (aq_w_at e1) hk rfl hd (hz H locs cells slots ls hl hA hS hbc hbs)
    · obtain ⟨v, r, e0, h1, hz1⟩ := aq_1v_inv hs
      clear hs
      subst e0
      subst h1
      obtain ⟨q, e1, hz⟩ := aq_sm_inv hz1
      obtain ⟨s1, s2⟩ := hSc q e1
      exact va_slen (A := fun q => base ≤ q) hx hb s1 (by omega) (by show ¬ base ≤ sp 0; omega) hS hd (hz H locs cells slots ls hl hA hS hbc hbs)
  · obtain ⟨hd, hn, ht⟩ := aq_ck1 hck hi rfl
    subst hn
    obtain ⟨x, r, e0, h1, h2, h3, h4, hz⟩ := aq_1i_inv hs
    clear hs
    subst e0
    refine va_newaK hx hb (atype := .int) (htm _ (hAr _ (by decide))) rfl hd rfl h1 rfl (by show x.toNatClampNeg * 4 ≤ _; omega) (by omega) (by omega) rfl fun H1 cA e5 z oq hAr2 hNm => ?_
    have hcA : cA = dA .int := by
      have q1 := (hK.2 0 (dA .int, .int) rfl).2
      exact Option.some.inj (hNm.symm.trans q1)
    subst hcA
    have hsz : H.size = base + h.length := hA.1
    refine W.eq (g2 := F0 m (pc + 2) ls ((Value.ref h.length :: r).map (aq_v base sp))) (by rw [hsz]; rfl) ?_
    refine hz H1 locs (cells + 1) (slots + x.toNatClampNeg) ls hl (hA.push ?_ z oq) ⟨by rw [z]; exact Nat.le_succ_of_le hS.1, fun q g1 g2 => by rw [oq q (Nat.lt_of_lt_of_le g1 hS.1)]; exact hS.2.1 q g1 g2, hS.2.2⟩ (by omega) (by omega)
    show H1[base + h.length]? = some (vp_cell _ _)
    rw [← hsz, e5]
    rfl
  · obtain ⟨hd, hn, ht⟩ := aq_ck1 hck hi rfl
    subst hn
    obtain ⟨x, r, e0, h1, h2, h3, h4, hz⟩ := aq_1i_inv hs
    clear hs
    subst e0
    refine va_newaK hx hb (atype := .boolean) (htm _ (hAr _ (by decide))) rfl hd rfl h1 rfl (by show x.toNatClampNeg * 1 ≤ _; omega) (by omega) (by omega) rfl fun H1 cA e5 z oq hAr2 hNm => ?_
    have hcA : cA = dA .boolean := by
      have q1 := (hK.2 1 (dA .boolean, .boolean) rfl).2
      exact Option.some.inj (hNm.symm.trans q1)
    subst hcA
    have hsz : H.size = base + h.length := hA.1
    refine W.eq (g2 := F0 m (pc + 2) ls ((Value.ref h.length :: r).map (aq_v base sp))) (by rw [hsz]; rfl) ?_
    refine hz H1 locs (cells + 1) (slots + x.toNatClampNeg) ls hl (hA.push ?_ z oq) ⟨by rw [z]; exact Nat.le_succ_of_le hS.1, fun q g1 g2 => by rw [oq q (Nat.lt_of_lt_of_le g1 hS.1)]; exact hS.2.1 q g1 g2, hS.2.2⟩ (by omega) (by omega)
    show H1[base + h.length]? = some (vp_cell _ _)
    rw [← hsz, e5]
    rfl
  · obtain ⟨hd, hn, ht⟩ := aq_ck1 hck hi rfl
    subst hn
    obtain ⟨x, r, e0, h1, h2, h3, h4, hz⟩ := aq_1i_inv hs
    clear hs
    subst e0
    refine va_newaK hx hb (atype := .byte) (htm _ (hAr _ (by decide))) rfl hd rfl h1 rfl (by show x.toNatClampNeg * 1 ≤ _; omega) (by omega) (by omega) rfl fun H1 cA e5 z oq hAr2 hNm => ?_
    have hcA : cA = dA .byte := by
      have q1 := (hK.2 3 (dA .byte, .byte) rfl).2
      exact Option.some.inj (hNm.symm.trans q1)
    subst hcA
    have hsz : H.size = base + h.length := hA.1
    refine W.eq (g2 := F0 m (pc + 2) ls ((Value.ref h.length :: r).map (aq_v base sp))) (by rw [hsz]; rfl) ?_
    refine hz H1 locs (cells + 1) (slots + x.toNatClampNeg) ls hl (hA.push ?_ z oq) ⟨by rw [z]; exact Nat.le_succ_of_le hS.1, fun q g1 g2 => by rw [oq q (Nat.lt_of_lt_of_le g1 hS.1)]; exact hS.2.1 q g1 g2, hS.2.2⟩ (by omega) (by omega)
    show H1[base + h.length]? = some (vp_cell _ _)
    rw [← hsz, e5]
    rfl
  · obtain ⟨hd, hn, ht⟩ := aq_ck1 hck hi rfl
    subst hn
    obtain ⟨x, r, e0, h1, h2, h3, h4, hz⟩ := aq_1i_inv hs
    clear hs
    subst e0
    refine va_newaK hx hb (atype := .long) (htm _ (hAr _ (by decide))) rfl hd rfl h1 rfl (by show x.toNatClampNeg * 8 ≤ _; omega) (by omega) (by omega) rfl fun H1 cA e5 z oq hAr2 hNm => ?_
    have hcA : cA = dA .long := by
      have q1 := (hK.2 2 (dA .long, .long) rfl).2
      exact Option.some.inj (hNm.symm.trans q1)
    subst hcA
    have hsz : H.size = base + h.length := hA.1
    refine W.eq (g2 := F0 m (pc + 2) ls ((Value.ref h.length :: r).map (aq_v base sp))) (by rw [hsz]; rfl) ?_
    refine hz H1 locs (cells + 1) (slots + x.toNatClampNeg) ls hl (hA.push ?_ z oq) ⟨by rw [z]; exact Nat.le_succ_of_le hS.1, fun q g1 g2 => by rw [oq q (Nat.lt_of_lt_of_le g1 hS.1)]; exact hS.2.1 q g1 g2, hS.2.2⟩ (by omega) (by omega)
    show H1[base + h.length]? = some (vp_cell _ _)
    rw [← hsz, e5]
    rfl
  · obtain ⟨hd, hn, ht⟩ := aq_ck1 hck hi rfl
    subst hn
    obtain ⟨x, y, r, e0, h1, h2, h3, h4, h5, h6, hz⟩ := aq_2i_inv hs
    clear hs
    subst e0
    have hsz : H.size = base + h.length := hA.1
    refine hMu _ _ _ _ hi pc x y H locs cells slots ls (r.map (aq_v base sp)) _ hd h1 h2 h3 h4 (by omega) (by omega) fun H1 z oq e5 e6 => ?_
    refine W.eq (g2 := F0 m (pc + 4) ls ((Value.ref h.length :: r).map (aq_v base sp))) (by rw [hsz]; rfl) ?_
    refine hz H1 locs _ _ ls hl (hA.app ?_ (by rw [z, List.length_cons, List.length_replicate]; omega) oq) ⟨by rw [z]; have := hS.1; omega, fun q g1 g2 => by rw [oq q (Nat.lt_of_lt_of_le g1 hS.1)]; exact hS.2.1 q g1 g2, hS.2.2⟩ (by omega) (by omega)
    intro j el hj
    cases j with
    | zero =>
      cases hj
      show H1[base + (h.length + 0)]? = some (vp_cell _ _)
      rw [Nat.add_zero, ← hsz, e5]
      refine congrArg some ?_
      show vp_cell _ _ = vp_cell _ (x.toNatClampNeg, .inr (.inr (.inr (.inr (fun j => some (base + (h.length + 1 + j)))))))
      have e7 : (fun j => some (H.size + 1 + j)) = (fun j : Nat => some (base + (h.length + 1 + j))) := by
        funext j
        rw [hsz]
        simp only [Nat.add_assoc]
      rw [e7]
    | succ j =>
      rw [List.getElem?_cons_succ, List.getElem?_replicate] at hj
      split at hj
      · rename_i hlt
        cases hj
        show H1[base + (h.length + (j + 1))]? = some (vp_cell _ _)
        rw [show base + (h.length + (j + 1)) = H.size + 1 + j by omega, e6 j hlt]
        rfl
      · cases hj
  · obtain ⟨hd, hn, ht⟩ := aq_ck1 hck hi rfl
    subst hn
    obtain ⟨q, e1, h1, h2, hz⟩ := aq_sm_inv hs
    obtain ⟨C, T, t0, k1, k2, k3, k4, k5, k6, k7, k8⟩ := hN _ (aq_lk_mem e1)
    have hKn := hK.1 _ _ k1
    refine W.newcK hx hb hown (htm _ k2) (htm _ k3) (htm _ k4) rfl hd (by omega) (by show slots + q.2.length ≤ R.slots; omega) hKn.2.1 rfl fun H1 kC hkC e5 z oq => ?_
    have hsz : H.size = base + h.length := hA.1
    refine W.eq (g2 := F0 m (pc + 3) ls ((Value.ref h.length :: st).map (aq_v base sp))) (by rw [hsz]; rfl) ?_
    refine hz H1 locs (cells + 1) (slots + q.2.length) ls hl (hA.push ?_ z oq) ⟨by rw [z]; exact Nat.le_succ_of_le hS.1, fun q g1 g2 => by rw [oq q (Nat.lt_of_lt_of_le g1 hS.1)]; exact hS.2.1 q g1 g2, hS.2.2⟩ (by omega) (by omega)
    rw [← hsz]
    refine ⟨_, k1, (u_born t0 hts (fun w hw => List.mem_cons_of_mem _ (k5 w hw)) hKn hkC e5 k6).to (fun j hj => ?_)⟩
    show defaultValue (t0 j) = vp_V (q.2.map (aq_v base sp)) j
    rw [aq_map_none k8]
    exact k7 j hj
  · obtain ⟨hd, hn, ht⟩ := aq_ck1 hck hi rfl
    subst hn
    obtain ⟨v, e1, hcv, hz⟩ := aq_sm_inv hs
    rcases hKc _ (aq_lk_mem e1) with ⟨x, e2, k1⟩ | ⟨x, e2, k1⟩ | ⟨k, tx, e2, k1⟩
    · subst e2
      exact lv_ldc hx hb hown (htm _ k1) hd (hz H locs cells slots ls hl hA hS hbc hbs)
    · subst e2; simp [aq_cI] at hcv
    · subst e2
      exact va_ldcS hx hb hown (k1 s hXs) hd (hz H locs cells slots ls hl hA hS hbc hbs)
  · obtain ⟨hd, hn, ht⟩ := aq_ck1 hck hi rfl
    subst hn
    obtain ⟨v, e1, hcv, hz⟩ := aq_sm_inv hs
    rcases hKc _ (aq_lk_mem e1) with ⟨x, e2, k1⟩ | ⟨x, e2, k1⟩ | ⟨k, tx, e2, k1⟩
    · subst e2; simp [aq_cL] at hcv
    · subst e2
      exact lv_ldc2 hx hb hown (htm _ k1) hd (hz H locs cells slots ls hl hA hS hbc hbs)
    · subst e2; simp [aq_cL] at hcv
  · obtain ⟨hd, hn, ht⟩ := aq_ck1 hck hi rfl
    subst hn
    unfold aq_call at hs
    obtain ⟨q, e1, hkd, hz1⟩ := aq_sm_inv hs
    obtain ⟨z, e2, w1, w2, w3, w4, r, h', hf, hz⟩ := aq_sm_inv hz1
    obtain ⟨zas, zr⟩ := z
    obtain ⟨y', bytes, maxL, ret, f', lo', hM, k1, k2, k3, k4, k5, k6, k7⟩ := hC _ (aq_lk_mem e1)
    obtain ⟨as', g1, g2, g3⟩ := aq_pop_spec e2
    rw [List.append_nil] at g1
    subst g1
    have hP := hM zas h r h' hf
    have hG := aq_goodIn (own := y) (cc := cc) (nL := nL) (rt := rt) hW0 k3
    have hrs : (r.toList ++ zr).map (aq_v base sp) = (r.map (aq_v base sp)).toList ++ zr.map (aq_v base sp) := by cases r <;> simp
    have hPU : ∀ U : State, U.heap = H → s.WarmedH U.vm → aq_Pc D cl dA base sp X zas h (zas.map (aq_v base sp)).toArray U := fun U hU hW => ⟨rfl, by rw [hU]; exact hA, va_K.moved hW.alike hK, hXU H locs hS U hU hW⟩
    have hst : st.map (aq_v base sp) = (zas.map (aq_v base sp)).reverse ++ zr.map (aq_v base sp) := by rw [g2, List.map_append, List.map_reverse]
    have hroom : 2 * (F0 m pc ls (st.map (aq_v base sp))).monitorRoom + ((zr.map (aq_v base sp)).map fun v => v.category).sum ≤ 8 := lv_room (aq_sh_sum (aq_v base sp) (aq_v_cat base sp) w1)
    have hfit : cells + q.2.2.2.1 ≤ R.cells ∧ slots + q.2.2.2.2.1 ≤ R.slots := by omega
    have hgo : ∀ (H1 : Heap) (locs1 : List Loc), aq_Abs D cl dA base sp h' H1 → va_S (fun q => base ≤ q) s.heap H1 locs1 → W p l e R s m args below meth c H1 locs1 (cells + q.2.2.2.1) (slots + q.2.2.2.2.1) (MQ below Qc args s mc ms (fun q => base ≤ q)) (F0 m (pc + 3) ls ((r.map (aq_v base sp)).toList ++ zr.map (aq_v base sp))) := by
      intro H1 locs1 a1 a2
      rw [← hrs]
      exact hz H1 locs1 _ _ ls hl a1 a2 (by omega) (by omega)
    rcases k7 with ⟨k8, -⟩ | ⟨-, k8, k9, k10⟩ | ⟨k8, -⟩
    · exact absurd (hkd.symm.trans k8) (by decide)
    · cases zas with
      | nil => simp at g3
      | cons v as2 =>
        have w4' : aq_rc h q.2.1 v := w4
        have g3' : (as2.map (aq_v base sp)).length = q.2.2.1 := by rw [List.length_map]; simp at g3; exact g3
        have recv : ∃ ba : Nat, aq_v base sp v = .ref ba ∧ ∃ cellB : Cell, H[ba]? = some cellB ∧ cellB.vm.isStatics = false ∧ s.vm.findClass y'.cls = some cellB.cls := by
          cases v with
          | ref a =>
            refine ⟨base + a, rfl, ?_⟩
            obtain ⟨ci, fs, e5, e6⟩ := aq_ob_inv w4'
            rcases k10 with ⟨T, k10⟩ | ⟨k, k10, -⟩
            · exact va_recv hK hA.2 (q0 := a) (by rw [e6]; exact k10) (aq_w_at e5)
            · exfalso
              obtain ⟨rr, k11, -⟩ := hA.2 a _ (aq_w_at e5)
              have e8 : ci = 1000 + k := e6.trans k10
              have hlt : ci < cl.length := (List.getElem?_eq_some_iff.mp k11).1
              omega
          | retAddr k =>
            refine ⟨sp k, rfl, ?_⟩
            have e6 : q.2.1 = 1000 + k := w4'
            rcases k10 with ⟨T, k10⟩ | ⟨k', k10, k11⟩
            · exfalso
              have hlt : q.2.1 < cl.length := (List.getElem?_eq_some_iff.mp k10).1
              omega
            · have e8 : k' = k := by have e9 : q.2.1 = 1000 + k' := k10; omega
              subst e8
              obtain ⟨l1, cellB, l2, l3, l4⟩ := k11 s hXs
              exact ⟨cellB, by rw [hS.2.1 _ (by omega) (by show ¬ base ≤ sp k'; omega)]; exact l2, l3, l4⟩
          | _ => exact absurd w4' id
        obtain ⟨ba, hba, hrecv⟩ := recv
        have hst2 : st.map (aq_v base sp) = (as2.map (aq_v base sp)).reverse ++ .ref ba :: zr.map (aq_v base sp) := by rw [hst, List.map_cons, hba]; simp
        have hPU2 : ∀ U : State, U.heap = H → s.WarmedH U.vm → aq_Pc D cl dA base sp X (v :: as2) h (Value.ref ba :: as2.map (aq_v base sp)).toArray U := fun U hU hW => by have q9 := hPU U hU hW; rw [List.map_cons, hba] at q9; exact q9
        rcases k5 with k5 | ⟨host, k5⟩
        · have cb := callB_of (rm := { frames := f', cells := q.2.2.2.1, slots := q.2.2.2.2.1, locals := lo' }) (R := R) (own := own) (index := _) q.2.2.1 hts hG rfl rfl rfl (htm _ k4) (htm _ k5) k6 ⟨by show f' + 1 ≤ R.frames; omega, by show 8 + (maxL + 11) + lo' ≤ R.locals; omega⟩
          exact aq_ret (va_runV (As := as2.map (aq_v base sp)) (rest := zr.map (aq_v base sp)) ⟨hx, hb, hml, hown, hts⟩ hP ⟨cb, htm _ k8, htm _ k9⟩ ⟨aq_blind hX _ _, hrecv, hPU2⟩ rfl g3' hl.1 hst2 hroom hd hfit) hS hgo
        · have cb := va_cnB (rm := { frames := f', cells := q.2.2.2.1, slots := q.2.2.2.2.1, locals := lo' }) (R := R) (own := own) (host := host) (index := _) q.2.2.1 hts hG rfl rfl rfl (k5 s hXs) (htm _ k4) k6 ⟨by show f' + 1 ≤ R.frames; omega, by show 8 + (maxL + 11) + lo' ≤ R.locals; omega⟩
          exact aq_ret (va_runVN (As := as2.map (aq_v base sp)) (rest := zr.map (aq_v base sp)) ⟨hx, hb, hml, hown, hts⟩ hP ⟨cb, htm _ k8, htm _ k9⟩ ⟨aq_blind hX _ _, hrecv, hPU2⟩ rfl g3' hl.1 hst2 hroom hd hfit) hS hgo
    · exact absurd (hkd.symm.trans k8) (by decide)
  · obtain ⟨hd, hn, ht⟩ := aq_ck1 hck hi rfl
    subst hn
    unfold aq_call at hs
    obtain ⟨q, e1, hkd, hz1⟩ := aq_sm_inv hs
    obtain ⟨z, e2, w1, w2, w3, w4, r, h', hf, hz⟩ := aq_sm_inv hz1
    obtain ⟨zas, zr⟩ := z
    obtain ⟨y', bytes, maxL, ret, f', lo', hM, k1, k2, k3, k4, k5, k6, k7⟩ := hC _ (aq_lk_mem e1)
    obtain ⟨as', g1, g2, g3⟩ := aq_pop_spec e2
    rw [List.append_nil] at g1
    subst g1
    have hP := hM zas h r h' hf
    have hG := aq_goodIn (own := y) (cc := cc) (nL := nL) (rt := rt) hW0 k3
    have hrs : (r.toList ++ zr).map (aq_v base sp) = (r.map (aq_v base sp)).toList ++ zr.map (aq_v base sp) := by cases r <;> simp
    have hPU : ∀ U : State, U.heap = H → s.WarmedH U.vm → aq_Pc D cl dA base sp X zas h (zas.map (aq_v base sp)).toArray U := fun U hU hW => ⟨rfl, by rw [hU]; exact hA, va_K.moved hW.alike hK, hXU H locs hS U hU hW⟩
    have hst : st.map (aq_v base sp) = (zas.map (aq_v base sp)).reverse ++ zr.map (aq_v base sp) := by rw [g2, List.map_append, List.map_reverse]
    have hroom : 2 * (F0 m pc ls (st.map (aq_v base sp))).monitorRoom + ((zr.map (aq_v base sp)).map fun v => v.category).sum ≤ 8 := lv_room (aq_sh_sum (aq_v base sp) (aq_v_cat base sp) w1)
    have hfit : cells + q.2.2.2.1 ≤ R.cells ∧ slots + q.2.2.2.2.1 ≤ R.slots := by omega
    have hgo : ∀ (H1 : Heap) (locs1 : List Loc), aq_Abs D cl dA base sp h' H1 → va_S (fun q => base ≤ q) s.heap H1 locs1 → W p l e R s m args below meth c H1 locs1 (cells + q.2.2.2.1) (slots + q.2.2.2.2.1) (MQ below Qc args s mc ms (fun q => base ≤ q)) (F0 m (pc + 3) ls ((r.map (aq_v base sp)).toList ++ zr.map (aq_v base sp))) := by
      intro H1 locs1 a1 a2
      rw [← hrs]
      exact hz H1 locs1 _ _ ls hl a1 a2 (by omega) (by omega)
    have g3' : (zas.map (aq_v base sp)).length = q.2.2.1 := by rw [List.length_map, g3]; rfl
    rcases k7 with ⟨-, k8⟩ | ⟨k8, -⟩ | ⟨k8, -⟩
    · rcases k5 with k5 | ⟨host, k5⟩
      · have cb := callB_of (rm := { frames := f', cells := q.2.2.2.1, slots := q.2.2.2.2.1, locals := lo' }) (R := R) (own := own) (index := _) q.2.2.1 hts hG rfl rfl rfl (htm _ k4) (htm _ k5) k6 ⟨by show f' + 1 ≤ R.frames; omega, by show 8 + (maxL + 11) + lo' ≤ R.locals; omega⟩
        exact aq_ret (va_runS (As := zas.map (aq_v base sp)) (rest := zr.map (aq_v base sp)) ⟨hx, hb, hml, hown, hts⟩ hP ⟨cb, htm _ k8⟩ ⟨aq_blind hX _ _, hPU⟩ rfl g3' hl.1 hst hroom hd hfit) hS hgo
      · have cb := va_cnB (rm := { frames := f', cells := q.2.2.2.1, slots := q.2.2.2.2.1, locals := lo' }) (R := R) (own := own) (host := host) (index := _) q.2.2.1 hts hG rfl rfl rfl (k5 s hXs) (htm _ k4) k6 ⟨by show f' + 1 ≤ R.frames; omega, by show 8 + (maxL + 11) + lo' ≤ R.locals; omega⟩
        exact aq_ret (va_runSN (As := zas.map (aq_v base sp)) (rest := zr.map (aq_v base sp)) ⟨hx, hb, hml, hown, hts⟩ hP ⟨cb, htm _ k8, trivial⟩ ⟨aq_blind hX _ _, hPU⟩ rfl g3' hl.1 hst hroom hd hfit) hS hgo
    · exact absurd (hkd.symm.trans k8) (by decide)
    · exact absurd (hkd.symm.trans k8) (by decide)
  · obtain ⟨hd, hn, ht⟩ := aq_ck1 hck hi rfl
    subst hn
    split at hs
    · rename_i hc
      obtain ⟨a, r, e0, h00, h1, hz⟩ := aq_1a_inv hs
      clear hs
      subst e0
      rcases hO with h0 | ⟨o1, o2, o3, o4, o5⟩
      · exact absurd (hc.trans h0) h00
      · subst hc
        have hsum := aq_sh_sum (aq_v base sp) (aq_v_cat base sp) h1
        exact W.objInit hx hb hown (htm _ o1) (htm _ o2) (htm _ o3) rfl (by rw [hml]; exact hl.1) rfl hd (by omega) (by show 2 * 0 + ((r.map (aq_v base sp)).map fun v => v.category).sum + 12 ≤ R.locals; omega) (hz H locs cells slots ls hl hA hS hbc hbs)
    · unfold aq_call at hs
      obtain ⟨q, e1, hkd, hz1⟩ := aq_sm_inv hs
      obtain ⟨z, e2, w1, w2, w3, w4, r, h', hf, hz⟩ := aq_sm_inv hz1
      obtain ⟨zas, zr⟩ := z
      obtain ⟨y', bytes, maxL, ret, f', lo', hM, k1, k2, k3, k4, k5, k6, k7⟩ := hC _ (aq_lk_mem e1)
      obtain ⟨as', g1, g2, g3⟩ := aq_pop_spec e2
      rw [List.append_nil] at g1
      subst g1
      have hP := hM zas h r h' hf
      have hG := aq_goodIn (own := y) (cc := cc) (nL := nL) (rt := rt) hW0 k3
      have hrs : (r.toList ++ zr).map (aq_v base sp) = (r.map (aq_v base sp)).toList ++ zr.map (aq_v base sp) := by cases r <;> simp
      have hPU : ∀ U : State, U.heap = H → s.WarmedH U.vm → aq_Pc D cl dA base sp X zas h (zas.map (aq_v base sp)).toArray U := fun U hU hW => ⟨rfl, by rw [hU]; exact hA, va_K.moved hW.alike hK, hXU H locs hS U hU hW⟩
      have hst : st.map (aq_v base sp) = (zas.map (aq_v base sp)).reverse ++ zr.map (aq_v base sp) := by rw [g2, List.map_append, List.map_reverse]
      have hroom : 2 * (F0 m pc ls (st.map (aq_v base sp))).monitorRoom + ((zr.map (aq_v base sp)).map fun v => v.category).sum ≤ 8 := lv_room (aq_sh_sum (aq_v base sp) (aq_v_cat base sp) w1)
      have hfit : cells + q.2.2.2.1 ≤ R.cells ∧ slots + q.2.2.2.2.1 ≤ R.slots := by omega
      have hgo : ∀ (H1 : Heap) (locs1 : List Loc), aq_Abs D cl dA base sp h' H1 → va_S (fun q => base ≤ q) s.heap H1 locs1 → W p l e R s m args below meth c H1 locs1 (cells + q.2.2.2.1) (slots + q.2.2.2.2.1) (MQ below Qc args s mc ms (fun q => base ≤ q)) (F0 m (pc + 3) ls ((r.map (aq_v base sp)).toList ++ zr.map (aq_v base sp))) := by
        intro H1 locs1 a1 a2
        rw [← hrs]
        exact hz H1 locs1 _ _ ls hl a1 a2 (by omega) (by omega)
      rcases k7 with ⟨k8, -⟩ | ⟨k8, -⟩ | ⟨-, k8, k9, k10⟩
      · exact absurd (hkd.symm.trans k8) (by decide)
      · exact absurd (hkd.symm.trans k8) (by decide)
      · subst k10
        cases zas with
        | nil => simp at g3
        | cons v as2 =>
          have w4' : aq_rn v := w4
          have g3' : (as2.map (aq_v base sp)).length = q.2.2.1 := by rw [List.length_map]; simp at g3; exact g3
          cases v with
          | ref a =>
            have hst2 : st.map (aq_v base sp) = (as2.map (aq_v base sp)).reverse ++ .ref (base + a) :: zr.map (aq_v base sp) := by rw [hst, List.map_cons]; simp [aq_v]
            rcases k5 with k5 | ⟨host, k5⟩
            · have cb := callB_of (rm := { frames := f', cells := q.2.2.2.1, slots := q.2.2.2.2.1, locals := lo' }) (R := R) (own := own) (index := _) q.2.2.1 hts hG rfl rfl rfl (htm _ k4) (htm _ k5) k6 ⟨by show f' + 1 ≤ R.frames; omega, by show 8 + (maxL + 11) + lo' ≤ R.locals; omega⟩
              exact aq_ret (va_runI (As := as2.map (aq_v base sp)) (b := base + a) (rest := zr.map (aq_v base sp)) ⟨hx, hb, hml, hown, hts⟩ hP ⟨cb, k9, htm _ k8⟩ ⟨aq_blind hX _ _, hPU⟩ rfl g3' hl.1 hst2 hroom hd hfit) hS hgo
            · have cb := va_cnB (rm := { frames := f', cells := q.2.2.2.1, slots := q.2.2.2.2.1, locals := lo' }) (R := R) (own := own) (host := host) (index := _) q.2.2.1 hts hG rfl rfl rfl (k5 s hXs) (htm _ k4) k6 ⟨by show f' + 1 ≤ R.frames; omega, by show 8 + (maxL + 11) + lo' ≤ R.locals; omega⟩
              exact aq_ret (va_runIN (As := as2.map (aq_v base sp)) (b := base + a) (rest := zr.map (aq_v base sp)) ⟨hx, hb, hml, hown, hts⟩ hP ⟨cb, k9, htm _ k8⟩ ⟨aq_blind hX _ _, hPU⟩ rfl g3' hl.1 hst2 hroom hd hfit) hS hgo
          | _ => exact absurd w4' id
  · obtain ⟨hd, hn, ht⟩ := aq_ck1 hck hi rfl
    obtain ⟨x, r, e0, h1, hz1⟩ := aq_1i_inv hs
    clear hs
    subst e0
    subst h1
    obtain ⟨ty, e1, hnw, hq⟩ := aq_sm_inv hz1
    refine W.widen (k := mc) (n := ms) (by omega) (by omega) ?_
    exact W.zret hx hb (by rw [hr, ← hrt]; exact e1) hnw (fun t ht hW => hQ _ _ t hq (by rw [ht]; exact hA) (hS.F ht)) hS.2.2 hd
  · obtain ⟨hd, hn, ht⟩ := aq_ck1 hck hi rfl
    obtain ⟨x, r, e0, h1, e1, hq⟩ := aq_1l_inv hs
    clear hs
    subst e0
    subst h1
    refine W.widen (k := mc) (n := ms) (by omega) (by omega) ?_
    exact W.lret hx hb (by rw [hr, ← hrt]; exact e1) (fun t ht hW => hQ _ _ t hq (by rw [ht]; exact hA) (hS.F ht)) hS.2.2 hd
  · obtain ⟨hd, hn, ht⟩ := aq_ck1 hck hi rfl
    obtain ⟨e0, e1, hq⟩ := hs
    subst e0
    refine W.widen (k := mc) (n := ms) (by omega) (by omega) ?_
    exact W.vret hx hb (by rw [hr, ← hrt]; exact e1) (fun t ht hW => hQ _ _ t hq (by rw [ht]; exact hA) (hS.F ht)) hS.2.2 hd
  · exact absurd hs id
end AQS
/-- what a method does, by its code -/
def aq_R (E : aq_Env) (maxL mc ms : Nat) : aq_F := fun as h r h' => (aq_en as).length ≤ maxL ∧ aq_W E (fun r' h'' => r' = r ∧ h'' = h') 0 (aq_pad maxL as) [] h mc ms
def aq_MuOk (l : Launch) (D : va_G) (cl : List vw_C) (dA : FieldType → ClassId) (X : State → Prop) (W0 : List Cond) (own : String) (cc : ByteArray) (E : aq_Env) : Prop :=
  ∀ (pc idx n : Nat) (ts : List Nat), E.1[pc]? = some (some (Instr.multianewarray idx 2, n, ts)) → ∀ (p : Program) (e : Env) (R : Room) (s : State) (m : MethodId) (args : Array Value) (below : List Frame) (meth : Method) (c : Code), p.tables.exec = Jvm.exec → c.code = cc → s.vm.findClass own = some m.cls → (∀ w ∈ W0, w.before args s = true) → X s → va_K D cl (aq_tys dA) s → aq_Mu p l e R s m args below meth c dA cc idx
def aq_isM : Option aq_I → Bool
  | some (.multianewarray _ _, _) => true
  | _ => false
theorem aq_noMu {l : Launch} {D : va_G} {cl : List vw_C} {dA : FieldType → ClassId} {X : State → Prop} {W0 : List Cond} {own : String} {cc : ByteArray} {E : aq_Env} (h : E.1.all (fun o => !aq_isM o) = true) : aq_MuOk l D cl dA X W0 own cc E := by
  intro pc idx n ts hi
  have h1 := List.all_eq_true.mp h _ (List.mem_of_getElem? hi)
  simp [aq_isM] at h1
theorem aq_met {l : Launch} {D : va_G} {cl : List vw_C} {dA : FieldType → ClassId} {base : Nat} {sp : Nat → Nat} {X : State → Prop} {W0 : List Cond} {E : aq_Env} {y : MethodName} {cc : ByteArray} {nL f lo mc ms : Nat} {rt : Option FieldType} {own : String}
    (hy : plainFor y = true) (hyo : y.cls = own) (hX : aq_XOk base X) (hW0 : W0.all goodWord = true) (hcl : cl.length ≤ 1000) (hck : aq_cks cc E.1 = true) (hrt : E.2.2.2.2.2.1 = rt) (hAr : ∀ t ∈ [FieldType.int, .boolean, .long, .byte], Cond.arrayClass t ∈ W0)
    (hF : ∀ q ∈ E.2.1, aq_FOk W0 cl own y.name q) (hC : ∀ q ∈ E.2.2.1, aq_COk l D cl dA base sp X W0 own f lo q) (hKc : ∀ q ∈ E.2.2.2.1, aq_KOk W0 X sp own q) (hN : ∀ q ∈ E.2.2.2.2.1, aq_NOk W0 cl own q)
    (hO : E.2.2.2.2.2.2.1 = 0 ∨ (Cond.methodLink own E.2.2.2.2.2.2.1 Lib.objectInit ∈ W0 ∧ Cond.instanceMethod Lib.objectInit ∈ W0 ∧ Cond.code Lib.objectInit ⟨#[0xb1]⟩ 1 none ∈ W0 ∧ 1 ≤ f ∧ 20 ≤ lo))
    (hSc : ∀ q, E.2.2.2.2.2.2.2 = some q → ∀ U : State, X U → va_X (sp 0) q.1 q.2 U U.heap ∧ sp 0 < base) (hMu : aq_MuOk l D cl dA X W0 own cc E) : aq_MS l D cl dA base sp X W0 y cc nL rt f lo mc ms (aq_R E nL mc ms) := by
  intro as h r h' hR
  obtain ⟨hlen, hw⟩ := hR
  refine va_MetF (cc := cc) (maxL := nL) (ret := rt) hy rfl ?_
  intro p e s m args below meth c s₁ B hml hv
  obtain ⟨hargs, hA, hK, hXs⟩ := hv
  subst hargs
  have hown : s.vm.findClass own = some m.cls := hyo ▸ findClass_of_methodNamed B.named
  have hts := atoms_spec (ws := Cond.code y cc nL rt :: W0) B.pre
  rw [lg_entry_eq]
  exact aq_sound (E := E) (y := y) (f := f) (lo := lo) B.exec B.bytes B.returns B.notSynchronized hml hown (name_of_methodNamed B.named B.method).1 hts rfl rfl rfl rfl hX hXs (by rw [hA.1]; omega) hK hW0 hcl hck hrt hAr hF hC hKc hN hO (fun q hq => hSc q hq s hXs) (fun pc idx n ts hi => hMu pc idx n ts hi p e _ s m _ below meth c B.exec B.bytes hown (fun w hw => hts w (List.mem_cons_of_mem _ hw)) hXs hK) (fun r1 h1 t hq hab hF => by obtain ⟨q1, q2⟩ := hq; subst q1; subst q2; exact ⟨rfl, hab, hF⟩) hw s.heap [] 0 0 _ (aq_hl_entry hlen) hA va_S.rf (by show 0 + mc ≤ mc; omega) (by show 0 + ms ≤ ms; omega)
