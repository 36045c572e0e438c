/-! charAt of the one text constant, through the library's own code -/
set_option maxRecDepth 100000 in
theorem gx_798 : Cond.code (⟨"java/lang/String", "isLatin1", "()Z"⟩ : MethodName) prog_14_method_154_code 1 (some .boolean) ∈ gW0 := gl_in (i := 798) rfl rfl
set_option maxRecDepth 100000 in
theorem gx_803 : Cond.code (⟨"java/lang/StringLatin1", "charAt", "([BI)C"⟩ : MethodName) prog_15_method_2_code 2 (some .char) ∈ gW0 := gl_in (i := 803) rfl rfl
set_option maxRecDepth 100000 in
theorem gx_806 : Cond.code (⟨"java/lang/String", "checkIndex", "(II)V"⟩ : MethodName) prog_14_method_155_code 2 none ∈ gW0 := gl_in (i := 806) rfl rfl
set_option maxRecDepth 100000 in
theorem gx_811 : Cond.code (⟨"jdk/internal/util/Preconditions", "checkIndex", "(IILjava/util/function/BiFunction;)I"⟩ : MethodName) prog_18_method_11_code 3 (some .int) ∈ gW0 := gl_in (i := 811) rfl rfl
theorem gx_795 : Cond.methodLink "java/lang/String" 492 (⟨"java/lang/String", "isLatin1", "()Z"⟩ : MethodName) ∈ gW0 := gl_in (i := 795) (by decide +kernel) rfl
theorem gx_796 : Cond.instanceMethod (⟨"java/lang/String", "isLatin1", "()Z"⟩ : MethodName) ∈ gW0 := gl_in (i := 796) (by decide +kernel) rfl
theorem gx_797 : Cond.selects "java/lang/String" (⟨"java/lang/String", "isLatin1", "()Z"⟩ : MethodName) (⟨"java/lang/String", "isLatin1", "()Z"⟩ : MethodName) ∈ gW0 := gl_in (i := 797) (by decide +kernel) rfl
theorem gx_801 : Cond.methodLink "java/lang/String" 495 (⟨"java/lang/StringLatin1", "charAt", "([BI)C"⟩ : MethodName) ∈ gW0 := gl_in (i := 801) (by decide +kernel) rfl
theorem gx_802 : Cond.static (⟨"java/lang/StringLatin1", "charAt", "([BI)C"⟩ : MethodName) ∈ gW0 := gl_in (i := 802) (by decide +kernel) rfl
theorem gx_804 : Cond.methodLink "java/lang/StringLatin1" 9 (⟨"java/lang/String", "checkIndex", "(II)V"⟩ : MethodName) ∈ gW0 := gl_in (i := 804) (by decide +kernel) rfl
theorem gx_805 : Cond.static (⟨"java/lang/String", "checkIndex", "(II)V"⟩ : MethodName) ∈ gW0 := gl_in (i := 805) (by decide +kernel) rfl
theorem gx_809 : Cond.methodLink "java/lang/String" 1059 (⟨"jdk/internal/util/Preconditions", "checkIndex", "(IILjava/util/function/BiFunction;)I"⟩ : MethodName) ∈ gW0 := gl_in (i := 809) (by decide +kernel) rfl
theorem gx_810 : Cond.static (⟨"jdk/internal/util/Preconditions", "checkIndex", "(IILjava/util/function/BiFunction;)I"⟩ : MethodName) ∈ gW0 := gl_in (i := 810) (by decide +kernel) rfl
theorem gx_67 : Cond.initialized "java/lang/String" ∈ gW0 := gl_in (i := 67) (by decide +kernel) rfl
theorem gx_68 : Cond.initialized "java/lang/StringLatin1" ∈ gW0 := gl_in (i := 68) (by decide +kernel) rfl
theorem gx_69 : Cond.initialized "jdk/internal/util/Preconditions" ∈ gW0 := gl_in (i := 69) (by decide +kernel) rfl
theorem gx_799 : Cond.fieldLink "java/lang/String" 38 "java/lang/String" "COMPACT_STRINGS" "Z" ∈ gW0 := gl_in (i := 799) (by decide +kernel) rfl
theorem gx_807 : Cond.fieldLink "java/lang/String" 1053 "jdk/internal/util/Preconditions" "SIOOBE_FORMATTER" "Ljava/util/function/BiFunction;" ∈ gW0 := gl_in (i := 807) (by decide +kernel) rfl
theorem gx_1119 : Cond.fieldLink "java/lang/String" 15 "java/lang/String" "coder" "B" ∈ gW0 := gl_in (i := 1119) (by decide +kernel) rfl
theorem gx_1120 : Cond.fieldLink "java/lang/String" 9 "java/lang/String" "value" "[B" ∈ gW0 := gl_in (i := 1120) (by decide +kernel) rfl
/-- what lies below the base: the text, and three statics -/
def fqV (fq : Option Nat) : Value := match fq with
  | none => .null
  | some q => .ref q
def fqA (fq : Option Nat) : Value := match fq with
  | none => .null
  | some _ => .retAddr 3
def SX (base kA vA : Nat) (fq : Option Nat) (U : State) : Prop := vk_S 1 [4] [[94, 62, 118, 60]] (fun _ => kA) (fun _ => vA) (fun q => base ≤ q) U U.heap ∧ va_Z "java/lang/String" "COMPACT_STRINGS" "Z" (.int 1) (fun q => base ≤ q) U U.heap ∧ va_Z "jdk/internal/util/Preconditions" "SIOOBE_FORMATTER" "Ljava/util/function/BiFunction;" (fqV fq) (fun q => base ≤ q) U U.heap
def k_pci : List (Option aq_I) := [some (.iload_n 0, 1, []), some (.ifCond .lt 8, 4, [9]), none, none, some (.iload_n 0, 5, []), some (.iload_n 1, 6, []), some (.if_icmp .lt 10, 9, [16]), none, none, none, none, none, none, none, none, none, some (.iload_n 0, 17, []), some (.ireturn, 18, [])]
def e_pci : aq_Env := (k_pci, [], [], [], [], (some .int), 0, none)
theorem ck_pci : aq_cks prog_18_method_11_code k_pci = true := by decide +kernel
section CHA
variable {l : Launch} {D : va_G} {dA : FieldType → ClassId} {base : Nat} {sp : Nat → Nat} {X : State → Prop}
theorem ok_pci (hX : aq_XOk base X) : aq_MS l D gCl dA base sp X gW0 (⟨"jdk/internal/util/Preconditions", "checkIndex", "(IILjava/util/function/BiFunction;)I"⟩ : MethodName) prog_18_method_11_code 3 (some .int) 0 0 0 0 (aq_R e_pci 3 0 0) :=
  aq_met (own := "jdk/internal/util/Preconditions") (by decide +kernel) rfl hX gl_all (by decide) ck_pci rfl gl_arr (fun _ h => absurd h List.not_mem_nil) (fun _ h => absurd h List.not_mem_nil) (fun _ h => absurd h List.not_mem_nil) (fun _ h => absurd h List.not_mem_nil) (Or.inl rfl) (fun _ h => by cases h) (aq_noMu rfl)
theorem pci_R {h : aq_H} {j n : Nat} (hj : j < n) (hn : n < 2 ^ 31) (fq : Option Nat) : aq_R e_pci 3 0 0 [.int (nI j), .int (nI n), fqA fq] h (some (.int (nI j))) h := by
  have hen : aq_pad 3 [.int (nI j), .int (nI n), fqA fq] = [some (.int (nI j)), some (.int (nI n)), some (fqA fq)] := by cases fq <;> rfl
  have hle : (aq_en [Value.int (nI j), .int (nI n), fqA fq]).length ≤ 3 := by cases fq <;> exact Nat.le_refl 3
  refine ⟨hle, ?_⟩
  rw [hen]
  have s0 : ∀ (Q : Option Value → aq_H → Prop) (L : aq_L) (r : List Value) (h : aq_H), aq_W e_pci Q 0 L r h 0 0 = (aq_gI L 0 (fun x => aq_W e_pci Q 1 L (.int x :: r) h 0 0)) := fun Q L r h => aq_un (i := (.iload_n 0, 1, [])) rfl
  have s1 : ∀ (Q : Option Value → aq_H → Prop) (L : aq_L) (r : List Value) (h : aq_H) (x : Int32), aq_W e_pci Q 1 L (.int x :: r) h 0 0 = (if x < 0 then aq_W e_pci Q 9 L r h 0 0 else aq_W e_pci Q 4 L r h 0 0) := fun Q L r h x => aq_un (i := (.ifCond .lt 8, 4, [9])) rfl
  have s4 : ∀ (Q : Option Value → aq_H → Prop) (L : aq_L) (r : List Value) (h : aq_H), aq_W e_pci Q 4 L r h 0 0 = (aq_gI L 0 (fun x => aq_W e_pci Q 5 L (.int x :: r) h 0 0)) := fun Q L r h => aq_un (i := (.iload_n 0, 5, [])) rfl
  have s5 : ∀ (Q : Option Value → aq_H → Prop) (L : aq_L) (r : List Value) (h : aq_H), aq_W e_pci Q 5 L r h 0 0 = (aq_gI L 1 (fun x => aq_W e_pci Q 6 L (.int x :: r) h 0 0)) := fun Q L r h => aq_un (i := (.iload_n 1, 6, [])) rfl
  have s6 : ∀ (Q : Option Value → aq_H → Prop) (L : aq_L) (r : List Value) (h : aq_H) (x y : Int32), aq_W e_pci Q 6 L (.int y :: .int x :: r) h 0 0 = (if x < y then aq_W e_pci Q 16 L r h 0 0 else aq_W e_pci Q 9 L r h 0 0) := fun Q L r h x y => aq_un (i := (.if_icmp .lt 10, 9, [16])) rfl
  have s16 : ∀ (Q : Option Value → aq_H → Prop) (L : aq_L) (r : List Value) (h : aq_H), aq_W e_pci Q 16 L r h 0 0 = (aq_gI L 0 (fun x => aq_W e_pci Q 17 L (.int x :: r) h 0 0)) := fun Q L r h => aq_un (i := (.iload_n 0, 17, [])) rfl
  have s17 : ∀ (Q : Option Value → aq_H → Prop) (L : aq_L) (h : aq_H) (x : Int32), aq_W e_pci Q 17 L [.int x] h 0 0 = ((([] : List Value) = [] ∧ narrow (.int) (.int x) = .int x ∧ Q (some (.int x)) h)) := fun Q L h x => aq_un (i := (.ireturn, 18, [])) rfl
  simp only [s0, s1, s4, s5, s6, s16, s17, aq_gI, aq_gL, aq_gA, aq_isA, aq_s1, aq_s2, aq_kill, aq_ob, aq_sm, aq_arI, aq_arB, aq_isB, aq_arL, aq_arA, aq_arN, aq_sh, Value.category, List.getElem?_cons_zero, List.getElem?_cons_succ, List.length_cons, List.length_nil, Option.toList_some, Option.toList_none, List.cons_append, List.nil_append, true_and, and_true, List.set_cons_zero, List.set_cons_succ, aq_n1, aq_n2, aq_n3, aq_n4, aq_f1, aq_f2, aq_f3, aq_f4, aq_gs, aq_ty1, aq_ty2, aq_ty3, aq_ty4, aq_ty5, Nat.reduceAdd, Nat.reduceLT, Nat.reduceEqDiff, Nat.reduceSub, if_true, if_false, ne_eq, not_false_eq_true, not_true_eq_false, Option.map_some, Option.map_none, Nat.zero_add, reduceCtorEq, Nat.reduceLeDiff, one_ne_zero_a, zero_ne_one_a, nI_pos (show j < 2 ^ 31 by omega), nI_lt hj hn, and_self]
def F_isL : aq_F := fun as h r h' => as = [.retAddr 1] ∧ r = some (.int 1) ∧ h' = h
def F_chk : aq_F := fun as h r h' => ∃ j n : Nat, j < n ∧ n < 2 ^ 31 ∧ as = [.int (nI j), .int (nI n)] ∧ r = none ∧ h' = h
def F_lat : aq_F := fun as h r h' => ∃ j : Nat, j < 4 ∧ as = [.retAddr 2, .int (nI j)] ∧ r = some (.int (nI (([94, 62, 118, 60] : List Nat).getD j 0))) ∧ h' = h
theorem ms_isL {fq : Option Nat} (hX : aq_XOk base X) (hS : ∀ U, X U → SX base (sp 1) (sp 2) fq U) : aq_MS l D gCl dA base sp X gW0 (⟨"java/lang/String", "isLatin1", "()Z"⟩ : MethodName) prog_14_method_154_code 1 (some .boolean) 0 0 0 0 F_isL := by
  intro as h r h' hF
  obtain ⟨rfl, rfl, rfl⟩ := hF
  refine va_MetF (cc := prog_14_method_154_code) (maxL := 1) (ret := some .boolean) (by decide +kernel) rfl ?_
  intro p e s m args below meth c s₁ B hml hv
  obtain ⟨hargs, hA, hK, hXs⟩ := hv
  subst hargs
  have hown : s.vm.findClass "java/lang/String" = some m.cls := findClass_of_methodNamed B.named
  have hts := atoms_spec (ws := Cond.code (⟨"java/lang/String", "isLatin1", "()Z"⟩ : MethodName) prog_14_method_154_code 1 (some .boolean) :: gW0) B.pre
  have hx := B.exec
  have hb := B.bytes
  have hr := B.returns
  have hlocks : meth.locks = false := B.notSynchronized
  obtain ⟨hstr, hz, -⟩ := hS s hXs
  rw [lg_entry_eq]
  have hl := lv_entry ([Value.retAddr 1].map (aq_v base sp)) (n := 1) (Nat.le_of_ble_eq_true rfl)
  generalize (lg_sl ([Value.retAddr 1].map (aq_v base sp)) ++ List.replicate (1 - (lg_sl ([Value.retAddr 1].map (aq_v base sp))).length) Slot.unset).toArray = ls at hl ⊢
  have l0 : ls[0]? = some (.val (.ref (sp 1))) := hl.2.2 (0, .ref (sp 1)) (by simp [lv_args, aq_v])
  refine va_gets hx hb hz va_S.rf hown (hts _ (List.mem_cons_of_mem _ gx_799)) (fun x h => h) (pc := 0) (by decide +kernel) ?_
  refine lv_if_eq hx hb (off := 14) (tgt := 17) (by decide +kernel) (by decide) (fun h => absurd h (by decide)) (fun _ => ?_)
  refine lv_aload_n hx hb (k := 0) (i := 0) (by decide +kernel) rfl l0 ?_
  refine vk_getf hx hb (hstr.1 0 (by decide)).2.1 va_S.rf hown (hts _ (List.mem_cons_of_mem _ gx_1119)) (fun x h => h) (by decide +kernel) ?_
  refine lv_if_ne hx hb (off := 7) (tgt := 17) (by decide +kernel) (by decide) (fun h => absurd rfl h) (fun _ => ?_)
  refine lv_iconst hx hb (n := 1) (v := 1) (by decide +kernel) (by decide) ?_
  refine lv_goto hx hb (off := 4) (tgt := 18) (by decide +kernel) (by decide) ?_
  exact W.zret hx hb hr (ty := .boolean) rfl (fun t ht hW => ⟨rfl, by rw [ht]; exact hA, va_S.rf.F ht⟩) (fun q h => absurd h List.not_mem_nil) (by decide +kernel)
theorem ms_chk {fq : Option Nat} (hX : aq_XOk base X) (hf : fqV fq = aq_v base sp (fqA fq)) (hS : ∀ U, X U → SX base (sp 1) (sp 2) fq U) : aq_MS l D gCl dA base sp X gW0 (⟨"java/lang/String", "checkIndex", "(II)V"⟩ : MethodName) prog_14_method_155_code 2 none 1 22 0 0 F_chk := by
  intro as h r h' hF
  obtain ⟨j, n, hj, hn, rfl, rfl, rfl⟩ := hF
  refine va_MetF (cc := prog_14_method_155_code) (maxL := 2) (ret := none) (by decide +kernel) rfl ?_
  intro p e s m args below meth c s₁ B hml hv
  obtain ⟨hargs, hA, hK, hXs⟩ := hv
  subst hargs
  have hown : s.vm.findClass "java/lang/String" = some m.cls := findClass_of_methodNamed B.named
  have hts := atoms_spec (ws := Cond.code (⟨"java/lang/String", "checkIndex", "(II)V"⟩ : MethodName) prog_14_method_155_code 2 none :: gW0) B.pre
  have hx := B.exec
  have hb := B.bytes
  have hr := B.returns
  have hlocks : meth.locks = false := B.notSynchronized
  obtain ⟨hstr, -, hz⟩ := hS s hXs
  rw [lg_entry_eq]
  have hl := lv_entry ([Value.int (nI j), .int (nI n)].map (aq_v base sp)) (n := 2) (Nat.le_of_ble_eq_true rfl)
  generalize (lg_sl ([Value.int (nI j), .int (nI n)].map (aq_v base sp)) ++ List.replicate (2 - (lg_sl ([Value.int (nI j), .int (nI n)].map (aq_v base sp))).length) Slot.unset).toArray = ls at hl ⊢
  have l0 : ls[0]? = some (.val (.int (nI j))) := hl.2.2 (0, .int (nI j)) (by simp [lv_args, aq_v])
  have l1 : ls[1]? = some (.val (.int (nI n))) := hl.2.2 (1, .int (nI n)) (by simp [lv_args, aq_v, Value.category])
  refine lv_iload_n hx hb (k := 0) (i := 0) (pc := 0) (by decide +kernel) rfl l0 ?_
  refine lv_iload_n hx hb (k := 1) (i := 1) (by decide +kernel) rfl l1 ?_
  refine va_gets hx hb hz va_S.rf hown (hts _ (List.mem_cons_of_mem _ gx_807)) (fun x h => h) (by decide +kernel) ?_
  have hP := ok_pci (l := l) (D := D) (dA := dA) (sp := sp) hX [.int (nI j), .int (nI n), fqA fq] h' (some (.int (nI j))) h' (pci_R hj hn fq)
  have hG := aq_goodIn (own := (⟨"java/lang/String", "checkIndex", "(II)V"⟩ : MethodName)) (cc := prog_14_method_155_code) (nL := 2) (rt := none) gl_all gx_811
  have cb := callB_of (rm := { frames := 0, cells := 0, slots := 0, locals := 0 }) (R := { frames := 1, cells := 0, slots := 0, locals := 22 }) (own := "java/lang/String") (index := 1059) 3 hts hG rfl rfl rfl (hts _ (List.mem_cons_of_mem _ gx_69)) (hts _ (List.mem_cons_of_mem _ gx_809)) ⟨by decide, by decide, by decide +kernel⟩ ⟨by decide, by decide⟩
  have hS0 : va_S (fun q => base ≤ q) s.heap s.heap [] := va_S.rf
  refine aq_ret (va_runS (As := [Value.int (nI j), .int (nI n), fqA fq].map (aq_v base sp)) (rest := []) ⟨hx, hb, hml, hown, hts⟩ hP ⟨cb, hts _ (List.mem_cons_of_mem _ gx_810)⟩ ⟨aq_blind hX _ _, fun U hU hW => ⟨rfl, by rw [hU]; exact hA, va_K.moved hW.alike hK, hX.2 s U hXs hW (by rw [hA.1]; omega) (fun q _ => by rw [hU])⟩⟩ rfl rfl hl.1 (by rw [hf]; rfl) (lv_room (Nat.le_of_ble_eq_true rfl)) (show decode prog_14_method_155_code 5 = .ok (.invokestatic 1059, 3) by decide +kernel) ⟨Nat.le_refl _, Nat.le_refl _⟩) hS0 ?_
  intro H1 locs1 a1 a2
  refine lv_pop hx hb (va := .int (nI j)) (by decide +kernel) rfl ?_
  exact W.vret hx hb hr (fun t ht hW => ⟨rfl, by rw [ht]; exact a1, a2.F ht⟩) a2.2.2 (by decide +kernel)
theorem lat_v : ∀ j, j < 4 → ((((([[94, 62, 118, 60]] : List (List Int32)).getD 0 []).getD j 0) &&& 255).toUInt32 % 65536).toInt32 = nI (([94, 62, 118, 60] : List Nat).getD j 0) := by decide
theorem lat_n : ∀ j, j < 4 → narrow .char (.int (nI (([94, 62, 118, 60] : List Nat).getD j 0))) = .int (nI (([94, 62, 118, 60] : List Nat).getD j 0)) := by decide
theorem ms_lat {fq : Option Nat} (hX : aq_XOk base X) (hf : fqV fq = aq_v base sp (fqA fq)) (hS : ∀ U, X U → SX base (sp 1) (sp 2) fq U) : aq_MS l D gCl dA base sp X gW0 (⟨"java/lang/StringLatin1", "charAt", "([BI)C"⟩ : MethodName) prog_15_method_2_code 2 (some .char) 2 43 0 0 F_lat := by
  intro as h r h' hF
  obtain ⟨j, hj, rfl, rfl, rfl⟩ := hF
  refine va_MetF (cc := prog_15_method_2_code) (maxL := 2) (ret := some .char) (by decide +kernel) rfl ?_
  intro p e s m args below meth c s₁ B hml hv
  obtain ⟨hargs, hA, hK, hXs⟩ := hv
  subst hargs
  have hown : s.vm.findClass "java/lang/StringLatin1" = some m.cls := findClass_of_methodNamed B.named
  have hts := atoms_spec (ws := Cond.code (⟨"java/lang/StringLatin1", "charAt", "([BI)C"⟩ : MethodName) prog_15_method_2_code 2 (some .char) :: gW0) B.pre
  have hx := B.exec
  have hb := B.bytes
  have hr := B.returns
  have hlocks : meth.locks = false := B.notSynchronized
  obtain ⟨hstr, -, -⟩ := hS s hXs
  have hT := (hstr.1 0 (by decide)).2.2.2
  rw [lg_entry_eq]
  have hl := lv_entry ([Value.retAddr 2, .int (nI j)].map (aq_v base sp)) (n := 2) (Nat.le_of_ble_eq_true rfl)
  generalize (lg_sl ([Value.retAddr 2, .int (nI j)].map (aq_v base sp)) ++ List.replicate (2 - (lg_sl ([Value.retAddr 2, .int (nI j)].map (aq_v base sp))).length) Slot.unset).toArray = ls at hl ⊢
  have l0 : ls[0]? = some (.val (.ref (sp 2))) := hl.2.2 (0, .ref (sp 2)) (by simp [lv_args, aq_v])
  have l1 : ls[1]? = some (.val (.int (nI j))) := hl.2.2 (1, .int (nI j)) (by simp [lv_args, aq_v, Value.category])
  refine lv_iload_n hx hb (k := 1) (i := 1) (pc := 0) (by decide +kernel) rfl l1 ?_
  refine lv_aload_n hx hb (k := 0) (i := 0) (by decide +kernel) rfl l0 ?_
  refine va_tlen hx hb hT va_S.rf (v := nI 4) rfl (by decide +kernel) ?_
  have hP := ms_chk (l := l) (D := D) (dA := dA) hX hf hS [.int (nI j), .int (nI 4)] h' none h' ⟨j, 4, hj, by decide, rfl, rfl, rfl⟩
  have hG := aq_goodIn (own := (⟨"java/lang/StringLatin1", "charAt", "([BI)C"⟩ : MethodName)) (cc := prog_15_method_2_code) (nL := 2) (rt := some .char) gl_all gx_806
  have cb := callB_of (rm := { frames := 1, cells := 0, slots := 0, locals := 22 }) (R := { frames := 2, cells := 0, slots := 0, locals := 43 }) (own := "java/lang/StringLatin1") (index := 9) 2 hts hG rfl rfl rfl (hts _ (List.mem_cons_of_mem _ gx_67)) (hts _ (List.mem_cons_of_mem _ gx_804)) ⟨by decide, by decide, by decide +kernel⟩ ⟨by decide, by decide⟩
  have hS0 : va_S (fun q => base ≤ q) s.heap s.heap [] := va_S.rf
  refine aq_ret (va_runS (As := [Value.int (nI j), .int (nI 4)].map (aq_v base sp)) (rest := []) ⟨hx, hb, hml, hown, hts⟩ hP ⟨cb, hts _ (List.mem_cons_of_mem _ gx_805)⟩ ⟨aq_blind hX _ _, fun U hU hW => ⟨rfl, by rw [hU]; exact hA, va_K.moved hW.alike hK, hX.2 s U hXs hW (by rw [hA.1]; omega) (fun q _ => by rw [hU])⟩⟩ rfl rfl hl.1 rfl (lv_room (Nat.le_of_ble_eq_true rfl)) (show decode prog_15_method_2_code 3 = .ok (.invokestatic 9, 3) by decide +kernel) ⟨Nat.le_refl _, Nat.le_refl _⟩) hS0 ?_
  intro H1 locs1 a1 a2
  show W _ _ _ _ _ _ _ _ _ _ _ _ _ _ _ (F0 m 6 ls [])
  refine lv_aload_n hx hb (k := 0) (i := 0) (by decide +kernel) rfl l0 ?_
  refine lv_iload_n hx hb (k := 1) (i := 1) (by decide +kernel) rfl l1 ?_
  refine va_tb hx hb hT a2 (vp_in_nI (show j < 4 from hj) (show 4 < 2 ^ 31 by decide)) (v := .int ((([[94, 62, 118, 60]] : List (List Int32)).getD 0 []).getD j 0)) (by rw [nI_clamp (by omega)]) (by decide +kernel) ?_
  refine lv_sipush hx hb (n := 255) (v := 255) (by decide +kernel) (by decide) ?_
  refine lv_iand hx hb (by decide +kernel) ?_
  refine lv_i2c hx hb (by decide +kernel) (lat_v j hj) ?_
  exact W.zret hx hb hr (ty := .char) (lat_n j hj) (fun t ht hW => ⟨rfl, by rw [ht]; exact a1, a2.F ht⟩) a2.2.2 (by decide +kernel)
theorem ms_charAt {fq : Option Nat} (hX : aq_XOk base X) (hf : fqV fq = aq_v base sp (fqA fq)) (hS : ∀ U, X U → SX base (sp 1) (sp 2) fq U) : aq_MS l D gCl dA base sp X gW0 yJ0_charAt_5068e cJ0_charAt_5068e 2 (some .char) 3 80 0 0 F_charAt := by
  intro as h r h' hF
  obtain ⟨j, hj, rfl, rfl, rfl⟩ := hF
  refine va_MetF (cc := cJ0_charAt_5068e) (maxL := 2) (ret := some .char) (by decide +kernel) rfl ?_
  intro p e s m args below meth c s₁ B hml hv
  obtain ⟨hargs, hA, hK, hXs⟩ := hv
  subst hargs
  have hown : s.vm.findClass "java/lang/String" = some m.cls := findClass_of_methodNamed B.named
  have hts := atoms_spec (ws := Cond.code yJ0_charAt_5068e cJ0_charAt_5068e 2 (some .char) :: gW0) B.pre
  have hx := B.exec
  have hb := B.bytes
  have hr := B.returns
  have hlocks : meth.locks = false := B.notSynchronized
  obtain ⟨hstr, -, -⟩ := hS s hXs
  rw [lg_entry_eq]
  have hl := lv_entry ([Value.retAddr 1, .int (nI j)].map (aq_v base sp)) (n := 2) (Nat.le_of_ble_eq_true rfl)
  generalize (lg_sl ([Value.retAddr 1, .int (nI j)].map (aq_v base sp)) ++ List.replicate (2 - (lg_sl ([Value.retAddr 1, .int (nI j)].map (aq_v base sp))).length) Slot.unset).toArray = ls at hl ⊢
  have l0 : ls[0]? = some (.val (.ref (sp 1))) := hl.2.2 (0, .ref (sp 1)) (by simp [lv_args, aq_v])
  have l1 : ls[1]? = some (.val (.int (nI j))) := hl.2.2 (1, .int (nI j)) (by simp [lv_args, aq_v, Value.category])
  have hS0 : va_S (fun q => base ≤ q) s.heap s.heap [] := va_S.rf
  refine lv_aload_n hx hb (k := 0) (i := 0) (pc := 0) (by decide +kernel) rfl l0 ?_
  have hP := ms_isL (l := l) (D := D) (dA := dA) hX hS [.retAddr 1] h' (some (.int 1)) h' ⟨rfl, rfl, rfl⟩
  have hG := aq_goodIn (own := yJ0_charAt_5068e) (cc := cJ0_charAt_5068e) (nL := 2) (rt := some .char) gl_all gx_798
  have cb := callB_of (rm := { frames := 0, cells := 0, slots := 0, locals := 0 }) (R := { frames := 3, cells := 0, slots := 0, locals := 80 }) (own := "java/lang/String") (index := 492) 0 hts hG rfl rfl rfl (hts _ (List.mem_cons_of_mem _ gx_67)) (hts _ (List.mem_cons_of_mem _ gx_795)) ⟨by decide, by decide, by decide +kernel⟩ ⟨by decide, by decide⟩
  refine aq_ret (va_runV (As := []) (rest := []) ⟨hx, hb, hml, hown, hts⟩ hP ⟨cb, hts _ (List.mem_cons_of_mem _ gx_796), hts _ (List.mem_cons_of_mem _ gx_797)⟩ ⟨aq_blind hX _ _, vk_recv hstr (by decide : 0 < 1) hS0, fun U hU hW => ⟨rfl, by rw [hU]; exact hA, va_K.moved hW.alike hK, hX.2 s U hXs hW (by rw [hA.1]; omega) (fun q _ => by rw [hU])⟩⟩ rfl rfl hl.1 rfl (lv_room (Nat.le_of_ble_eq_true rfl)) (show decode cJ0_charAt_5068e 1 = .ok (.invokevirtual 492, 3) by decide +kernel) ⟨Nat.le_refl _, Nat.le_refl _⟩) hS0 ?_
  intro H1 locs1 a1 a2
  show W _ _ _ _ _ _ _ _ _ _ _ _ _ _ _ (F0 m 4 ls [.int 1])
  refine lv_if_eq hx hb (off := 12) (tgt := 16) (by decide +kernel) (by decide) (fun h => absurd h (by decide)) (fun _ => ?_)
  refine lv_aload_n hx hb (k := 0) (i := 0) (by decide +kernel) rfl l0 ?_
  refine vk_getf hx hb (hstr.1 0 (by decide)).2.2.1 a2 hown (hts _ (List.mem_cons_of_mem _ gx_1120)) (fun x h => h) (by decide +kernel) ?_
  refine lv_iload_n hx hb (k := 1) (i := 1) (by decide +kernel) rfl l1 ?_
  have hP2 := ms_lat (l := l) (D := D) (dA := dA) hX hf hS [.retAddr 2, .int (nI j)] h' _ h' ⟨j, hj, rfl, rfl, rfl⟩
  have hG2 := aq_goodIn (own := yJ0_charAt_5068e) (cc := cJ0_charAt_5068e) (nL := 2) (rt := some .char) gl_all gx_803
  have cb2 := callB_of (rm := { frames := 2, cells := 0, slots := 0, locals := 43 }) (R := { frames := 3, cells := 0, slots := 0, locals := 80 }) (own := "java/lang/String") (index := 495) 2 hts hG2 rfl rfl rfl (hts _ (List.mem_cons_of_mem _ gx_68)) (hts _ (List.mem_cons_of_mem _ gx_801)) ⟨by decide, by decide, by decide +kernel⟩ ⟨by decide, by decide⟩
  refine aq_ret (va_runS (As := [Value.retAddr 2, .int (nI j)].map (aq_v base sp)) (rest := []) ⟨hx, hb, hml, hown, hts⟩ hP2 ⟨cb2, hts _ (List.mem_cons_of_mem _ gx_802)⟩ ⟨aq_blind hX _ _, fun U hU hW => ⟨rfl, by rw [hU]; exact a1, va_K.moved hW.alike hK, hX.2 s U hXs hW (by rw [hA.1]; omega) (fun q hq => by rw [hU]; exact a2.2.1 q (by rw [hA.1]; omega) (by omega))⟩⟩ rfl rfl hl.1 rfl (lv_room (Nat.le_of_ble_eq_true rfl)) (show decode cJ0_charAt_5068e 12 = .ok (.invokestatic 495, 3) by decide +kernel) ⟨Nat.le_refl _, Nat.le_refl _⟩) a2 ?_
  intro H2 locs2 b1 b2
  exact W.zret hx hb hr (ty := .char) (lat_n j hj) (fun t ht hW => ⟨rfl, by rw [ht]; exact b1, b2.F ht⟩) b2.2.2 (by decide +kernel)
end CHA
