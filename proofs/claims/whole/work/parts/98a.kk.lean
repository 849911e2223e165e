
theorem arr_cls {ty : FieldType} {s : State} {args : Array Value} (h : (Cond.arrayClass ty).before args s = true) : ∃ c : ClassId, s.vm.findClass ("[" ++ ty.toString) = some c ∧ ArrOfT s c ty := by
  obtain ⟨c, k, comp, h1, h2, h3⟩ := Cond.arrayClass_spec h
  exact ⟨c, h1, fun N z => ⟨(fun q hq => by cases hq), k, h2, comp, h3⟩⟩
theorem arr_over {s : State} {ty : FieldType} (h : va_AOA ty s) : ∃ c : ClassId, s.vm.findClass ("[" ++ (FieldType.array ty).toString) = some c ∧ ArrOfT s c (.array ty) := by
  have h2 : (((s.vm.findClass (FieldType.array ty).toString).bind fun comp => (aoI s.vm comp).bind fun c => (s.vm.classes[c]?).map (aoK ty s.vm c)) == some true) = true := h
  cases hf : s.vm.findClass (FieldType.array ty).toString with
  | none => rw [hf] at h2; simp at h2
  | some comp =>
    rw [hf] at h2
    rw [Option.bind_some] at h2
    cases hc : aoI s.vm comp with
    | none => rw [hc] at h2; simp at h2
    | some q =>
      rw [hc] at h2
      rw [Option.bind_some] at h2
      cases hk : s.vm.classes[q]? with
      | none => rw [hk] at h2; simp at h2
      | some k =>
        rw [hk] at h2
        rw [Option.map_some] at h2
        have h3 : aoK ty s.vm q k = true := by simpa using h2
        unfold aoK at h3
        cases hkk : k.kind with
        | array c9 t9 =>
          rw [hkk] at h3
          have h4 : t9 = FieldType.array ty ∧ s.vm.findClass ("[" ++ (FieldType.array ty).toString) = some q := by simpa using h3
          exact ⟨q, h4.2, fun N z => ⟨(fun q hq => by cases hq), k, hk, c9, by rw [hkk, h4.1]⟩⟩
        | _ => rw [hkk] at h3; simp at h3

theorem st_in_RX1 : ∀ w ∈ u_ws RX1 TX1 7, w ∈ lw_tbl := by decide +kernel
theorem st_in_RX3 : ∀ w ∈ u_ws RX3 TX3 13, w ∈ lw_tbl := by decide +kernel
theorem st_in_RX4 : ∀ w ∈ u_ws RX4 TX4 7, w ∈ lw_tbl := by decide +kernel
theorem st_in_RX5 : ∀ w ∈ u_ws RX5 TX5 15, w ∈ lw_tbl := by decide +kernel
theorem st_in_RX6 : ∀ w ∈ u_ws RX6 TX6 4, w ∈ lw_tbl := by decide +kernel
theorem st_in_RX7 : ∀ w ∈ u_ws RX7 TX7 3, w ∈ lw_tbl := by decide +kernel
theorem st_in_RX8 : ∀ w ∈ u_ws RX8 TX8 8, w ∈ lw_tbl := by decide +kernel
theorem st_in_RX9 : ∀ w ∈ u_ws RX9 TX9 33, w ∈ lw_tbl := by decide +kernel
theorem st_a0 : (Cond.arrayClass .int : Cond) ∈ lw_tbl := by decide +kernel
theorem st_a1 : (Cond.arrayClass .byte : Cond) ∈ lw_tbl := by decide +kernel
theorem st_a2 : (Cond.arrayClass .long : Cond) ∈ lw_tbl := by decide +kernel
theorem st_a3 : (Cond.arrayClass .boolean : Cond) ∈ lw_tbl := by decide +kernel
theorem st_a4 : (Cond.arrayOver (.object RX6) : Cond) ∈ lw_tbl := by decide +kernel
theorem st_a5 : (Cond.arrayOver (.array .int) : Cond) ∈ lw_tbl := by decide +kernel
theorem st_i_RX1 : (Cond.instantiable RX1 7 : Cond) ∈ lw_tbl := by decide +kernel
theorem st_i_RX3 : (Cond.instantiable RX3 13 : Cond) ∈ lw_tbl := by decide +kernel
theorem st_i_RX4 : (Cond.instantiable RX4 7 : Cond) ∈ lw_tbl := by decide +kernel
theorem st_i_RX5 : (Cond.instantiable RX5 15 : Cond) ∈ lw_tbl := by decide +kernel
theorem st_i_RX6 : (Cond.instantiable RX6 4 : Cond) ∈ lw_tbl := by decide +kernel
theorem st_i_RX7 : (Cond.instantiable RX7 3 : Cond) ∈ lw_tbl := by decide +kernel
theorem st_i_RX8 : (Cond.instantiable RX8 8 : Cond) ∈ lw_tbl := by decide +kernel
theorem st_i_RX9 : (Cond.instantiable RX9 33 : Cond) ∈ lw_tbl := by decide +kernel
theorem st_KK {s : State} {args : Array Value} (hts : ∀ w ∈ lw_tbl, w.before args s = true) : ∃ G : GG, KK G s := by
  obtain ⟨c0, i0, k0⟩ := u_known (C := RX1) (T := TX1) (N := 7) hts st_in_RX1 (hts _ st_i_RX1)
  obtain ⟨c1, i1, k1⟩ := u_known (C := RX3) (T := TX3) (N := 13) hts st_in_RX3 (hts _ st_i_RX3)
  obtain ⟨c2, i2, k2⟩ := u_known (C := RX4) (T := TX4) (N := 7) hts st_in_RX4 (hts _ st_i_RX4)
  obtain ⟨c3, i3, k3⟩ := u_known (C := RX5) (T := TX5) (N := 15) hts st_in_RX5 (hts _ st_i_RX5)
  obtain ⟨c4, i4, k4⟩ := u_known (C := RX6) (T := TX6) (N := 4) hts st_in_RX6 (hts _ st_i_RX6)
  obtain ⟨c5, i5, k5⟩ := u_known (C := RX7) (T := TX7) (N := 3) hts st_in_RX7 (hts _ st_i_RX7)
  obtain ⟨c6, i6, k6⟩ := u_known (C := RX8) (T := TX8) (N := 8) hts st_in_RX8 (hts _ st_i_RX8)
  obtain ⟨c7, i7, k7⟩ := u_known (C := RX9) (T := TX9) (N := 33) hts st_in_RX9 (hts _ st_i_RX9)
  obtain ⟨a0, f0, r0⟩ := arr_cls (hts _ st_a0)
  obtain ⟨a1, f1, r1⟩ := arr_cls (hts _ st_a1)
  obtain ⟨a2, f2, r2⟩ := arr_cls (hts _ st_a2)
  obtain ⟨a3, f3, r3⟩ := arr_cls (hts _ st_a3)
  obtain ⟨comp4, a4, q4, g1, g2, g3, g4, f4⟩ := Cond.arrayOver_spec (va_AO.of (hts _ st_a4))
  obtain ⟨a5, f5, r5⟩ := arr_over (va_AOA.of (hts _ st_a5))
  have e0 : "[" ++ FieldType.int.toString = "[I" := by decide
  have e1 : "[" ++ FieldType.byte.toString = "[B" := by decide
  have e2 : "[" ++ FieldType.long.toString = "[J" := by decide
  have e3 : "[" ++ FieldType.boolean.toString = "[Z" := by decide
  have e4 : "[" ++ (FieldType.object RX6).toString = "[LStoneDates$Stone;" := by decide
  have e5 : "[" ++ (FieldType.array .int).toString = "[[I" := by decide
  refine ⟨((fun c => match c with | 0 => c0 | 1 => c1 | 2 => c2 | 3 => c3 | 4 => c4 | 5 => c5 | 6 => c6 | _ => c7, fun c => match c with | 0 => i0 | 1 => i1 | 2 => i2 | 3 => i3 | 4 => i4 | 5 => i5 | 6 => i6 | _ => i7), fun c => match c with | 0 => a0 | 1 => a1 | 2 => a2 | 3 => a3 | 4 => a4 | _ => a5), ⟨fun c q hq => ?_, fun k q hq => ?_⟩, by rw [← e0]; exact f0, by rw [← e1]; exact f1, by rw [← e2]; exact f2, by rw [← e3]; exact f3, by rw [← e4]; exact f4, by rw [← e5]; exact f5⟩
  · match c, hq with
    | 0, hq => cases hq; exact k0
    | 1, hq => cases hq; exact k1
    | 2, hq => cases hq; exact k2
    | 3, hq => cases hq; exact k3
    | 4, hq => cases hq; exact k4
    | 5, hq => cases hq; exact k5
    | 6, hq => cases hq; exact k6
    | 7, hq => cases hq; exact k7
    | c + 8, hq => simp at hq
  · match k, hq with
    | 0, hq => cases hq; exact ⟨r0, f0⟩
    | 1, hq => cases hq; exact ⟨r1, f1⟩
    | 2, hq => cases hq; exact ⟨r2, f2⟩
    | 3, hq => cases hq; exact ⟨r3, f3⟩
    | 4, hq => cases hq; exact ⟨fun N z => ⟨(fun q hq => by cases hq), q4, g3, comp4, g4⟩, q4, comp4, g3, g4, g1, f4⟩
    | 5, hq => cases hq; exact ⟨r5, f5⟩
    | k + 6, hq => simp [tys0] at hq
