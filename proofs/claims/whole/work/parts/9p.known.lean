/-! what the tables say at the start -/
theorem ao_spec {args : Array Value} {s : State} (h : (Cond.arrayOver (.array .long)).before args s = true) : ∃ (comp cA : ClassId) (k : Class), s.vm.findClass (FieldType.array .long).toString = some comp ∧ s.vm.classes[cA]? = some k ∧ k.kind = .array comp (.array .long) ∧ s.vm.findClass ("[" ++ (FieldType.array .long).toString) = some cA := by
  simp only [Cond.before, Cond.holds, Cond.value, beq_iff_eq] at h
  cases hc : s.vm.findClass (FieldType.array .long).toString with
  | none => simp [hc] at h
  | some comp =>
    simp only [hc, Option.bind_some, Option.bind_eq_some_iff, Option.map_eq_some_iff] at h
    obtain ⟨cA, hi, k, hk, hb⟩ := h
    obtain ⟨hlt, hp, -⟩ := Array.findIdx?_eq_some_iff_getElem.mp hi
    have hkk : s.vm.classes[cA] = k := (Array.getElem?_eq_some_iff.mp hk).2
    rw [hkk] at hp
    cases hkind : k.kind with
    | array component ty =>
      rw [hkind] at hb hp
      simp at hb hp
      exact ⟨comp, cA, k, rfl, hk, by rw [hkind, hp, hb.1], hb.2⟩
    | _ => rw [hkind] at hb; simp at hb
theorem gw_in {args : Array Value} {s : State} (hts : ∀ w ∈ lw_tbl, w.before args s = true) : ∀ w ∈ gW0, w.before args s = true := fun w hw => hts w (List.mem_filter.mp hw).1
theorem arr_known {args : Array Value} {s : State} {t : FieldType} (h : (Cond.arrayClass t).before args s = true) (hp : ∀ (U : State) (cA : ClassId), va_RA U cA t = (U.vm.findClass ("[" ++ t.toString) = some cA)) : ∃ cA : ClassId, ArrOfT s cA t ∧ va_RA s cA t := by
  obtain ⟨c, k, comp, h1, h2, h3⟩ := Cond.arrayClass_spec h
  exact ⟨c, fun n z => ⟨fun k h => (by cases h), k, h2, comp, h3⟩, by rw [hp]; exact h1⟩
theorem known {args : Array Value} {s : State} (hts : ∀ w ∈ lw_tbl, w.before args s = true) (hao : (Cond.arrayOver (.array .long)).before args s = true) : ∃ (D : va_G) (dA : FieldType → ClassId), va_K D gCl (aq_tys dA) s := by
  have hg := gw_in hts
  obtain ⟨c0, i0, k0⟩ := u_known (C := RX0) (T := TX0) (N := 8) (n := 8) hg inW0 (hg _ gw_80)
  obtain ⟨c1, i1, k1⟩ := u_known (C := RX1) (T := TX1) (N := 5) (n := 5) hg inW1 (hg _ gw_223)
  obtain ⟨c2, i2, k2⟩ := u_known (C := RX2) (T := TX2) (N := 3) (n := 3) hg inW2 (hg _ gw_246)
  obtain ⟨c3, i3, k3⟩ := u_known (C := RX3) (T := TX3) (N := 8) (n := 8) hg inW3 (hg _ gw_188)
  obtain ⟨c4, i4, k4⟩ := u_known (C := RX4) (T := TX4) (N := 2) (n := 2) hg inW4 (hg _ gw_313)
  obtain ⟨c5, i5, k5⟩ := u_known (C := RX5) (T := TX5) (N := 8) (n := 8) hg inW5 (hg _ gw_262)
  obtain ⟨c6, i6, k6⟩ := u_known (C := RX6) (T := TX6) (N := 8) (n := 8) hg inW6 (hg _ gw_133)
  obtain ⟨c7, i7, k7⟩ := u_known (C := RX7) (T := TX7) (N := 3) (n := 3) hg inW7 (hg _ gw_168)
  obtain ⟨c8, i8, k8⟩ := u_known (C := RX8) (T := TX8) (N := 4) (n := 4) hg inW8 (hg _ gw_294)
  obtain ⟨c9, i9, k9⟩ := u_known (C := RX9) (T := TX9) (N := 10) (n := 10) hg inW9 (hg _ gw_72)
  obtain ⟨c10, i10, k10⟩ := u_known (C := RX10) (T := TX10) (N := 26) (n := 26) hg inW10 (hg _ gw_849)
  obtain ⟨aI, a1, a2⟩ := arr_known (hg _ gw_131) (fun _ _ => rfl)
  obtain ⟨aZ, z1, z2⟩ := arr_known (hg _ gw_130) (fun _ _ => rfl)
  obtain ⟨aJ, j1, j2⟩ := arr_known (hg _ gw_186) (fun _ _ => rfl)
  obtain ⟨aB, b1, b2⟩ := arr_known (hg _ gw_844) (fun _ _ => rfl)
  obtain ⟨comp, aA, kA, o1, o2, o3, o4⟩ := ao_spec hao
  refine ⟨(fun k => [c0, c1, c2, c3, c4, c5, c6, c7, c8, c9, c10].getD k 0, fun k => [i0, i1, i2, i3, i4, i5, i6, i7, i8, i9, i10].getD k (fun _ => 0)), fun t => match t with
    | .int => aI
    | .boolean => aZ
    | .long => aJ
    | .byte => aB
    | _ => aA, fun c q hq => ?_, fun k q hk => ?_⟩
  · match c, hq with
    | 0, hq => cases hq; exact k0
    | 1, hq => cases hq; exact k1
    | 2, hq => cases hq; exact k2
    | 3, hq => cases hq; exact k3
    | 4, hq => cases hq; exact k4
    | 5, hq => cases hq; exact k5
    | 6, hq => cases hq; exact k6
    | 7, hq => cases hq; exact k7
    | 8, hq => cases hq; exact k8
    | 9, hq => cases hq; exact k9
    | 10, hq => cases hq; exact k10
    | c + 11, hq => simp [gCl] at hq
  · match k, hk with
    | 0, hk => cases hk; exact ⟨a1, a2⟩
    | 1, hk => cases hk; exact ⟨z1, z2⟩
    | 2, hk => cases hk; exact ⟨j1, j2⟩
    | 3, hk => cases hk; exact ⟨b1, b2⟩
    | 4, hk => cases hk; exact ⟨fun n z => ⟨fun k h => (by cases h), kA, o2, comp, o3⟩, o4⟩
    | k + 5, hk => simp [aq_tys, aq_tyl] at hk
