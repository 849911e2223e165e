
section Given
variable {args : Array Value} {s : State} {A : Nat → Prop}
theorem eq_ref {t u : Term} {b : Nat} (h : (Cond.eq t u).before args s = true) (hu : u.eval args s none [] s = some (.ref b)) : t.eval args s none [] s = some (.ref b) := by
  cases hv : t.eval args s none [] s with
  | none => simp [Cond.before, Cond.holds, Cond.value, hv] at h
  | some w =>
    simp only [Cond.before, Cond.holds, Cond.value, hv, hu] at h
    cases w <;> simp_all
theorem ex_ref {t : Term} {C : String} (h : (Cond.exactly t C).before args s = true) : ∃ a : Nat, t.eval args s none [] s = some (.ref a) := by
  obtain ⟨a, c, cA, kA, q1, -⟩ := Cond.exactly_spec (args := args) (first := s) (o := none) (s := s) (idx := []) (t := t) (cls := C) h
  exact ⟨a, q1⟩
theorem str_of {tm : Term} {bs : List Int} (hN : bs.length < 2 ^ 31) (hex : (Cond.exactly tm "java/lang/String").before args s = true) (hco : (Cond.eq (.field tm "java/lang/String" "coder" "B") (.int 0)).before args s = true) (har : (Cond.arrayOf (tVl tm) .byte).before args s = true) (hle : (Cond.eq (.length (tVl tm)) (.int (Int32.ofNat bs.length))).before args s = true)
    (hel : ∀ j : Nat, j < bs.length → (Cond.eq (.elem (tVl tm) (.int (Int32.ofNat j))) (.int (iz (bs.getD j 0)))).before args s = true) (hA : ∀ a : Nat, a < s.heap.size → ¬ A a) : ∃ q : Nat × Nat, tm.eval args s none [] s = some (.ref q.1) ∧ StrAt q.1 q.2 bs A s s.heap := by
  obtain ⟨a, q1⟩ := ex_ref hex
  obtain ⟨t, ht, hT⟩ := va_Tof (f := fun j => .int (iz (bs.getD j 0))) (A := A) hN har (va_eqt hle) (fun j hj => va_eqt (hel j hj)) hA
  exact ⟨(a, t), q1, va_Oof hex q1 hA, vk_OFof q1 (va_eqt hco) hA, vk_OFof q1 ht hA, hT⟩
theorem st_fo (hts : ∀ w ∈ lw_tbl, w.before args s = true) (hs : ∀ w ∈ flN, w.before args s = true) (hA : ∀ a : Nat, a < s.heap.size → ¬ A a) : ∃ fo : Option Nat, StrVm fo A s s.heap := by
  have h1 := va_Zof (hts _ n_st.2.2.1) (hts _ n_st.2.2.2.1) (va_eqi (hs _ n_sv.1)) hA
  rcases va_Zqof (hts _ n_st.2.2.2.2.1) (hts _ n_st.2.2.2.2.2) (hs _ n_sv.2) hA with h2 | ⟨t, h2⟩
  · exact ⟨none, h1, h2⟩
  · exact ⟨some t, h1, h2⟩
theorem st_kind (hts : ∀ w ∈ lw_tbl, w.before args s = true) (hs : ∀ w ∈ flN, w.before args s = true) (hA : ∀ a : Nat, a < s.heap.size → ¬ A a) : ∃ (kt : Nat) (kd sa va : Nat → Nat), KindAt kt kd sa va A s s.heap := by
  have h0 : ∀ i : Nat, ∃ q : Nat × Nat × Nat, i < 7 → (tKd i).eval args s none [] s = some (.ref q.1) ∧ va_OF "StoneDates$Kind" "word" "Ljava/lang/String;" (.ref q.2.1) q.1 A s s.heap ∧ va_OF "StoneDates$Kind" "first" "I" (.int (iz (kF i))) q.1 A s s.heap ∧ va_OF "StoneDates$Kind" "width" "I" (.int (iz (kW i))) q.1 A s s.heap ∧ StrAt q.2.1 q.2.2 (wb i) A s s.heap := by
    intro i
    by_cases hi : i < 7
    · obtain ⟨a, q1⟩ := ex_ref (hs _ (n_dx i hi))
      obtain ⟨⟨b, v⟩, q2, q3⟩ := str_of (A := A) (tm := .string "StoneDates$Kind" (kdx i)) (bs := wb i) (by have := (wb_ok i hi).1; omega) (hs _ (n_kx i hi)) (hs _ (n_kc i hi)) (hs _ (n_ka i hi)) (hs _ (n_kl i hi)) (fun j hj => hs _ (n_ke i hi j hj)) hA
      exact ⟨(a, b, v), fun _ => ⟨q1, vk_OFof q1 (eq_ref (hs _ (n_dw i hi)) q2) hA, vk_OFof q1 (va_eqt (hs _ (n_df i hi))) hA, vk_OFof q1 (va_eqt (hs _ (n_dn i hi))) hA, q3⟩⟩
    · exact ⟨(0, 0, 0), fun h => absurd h hi⟩
  obtain ⟨ad, had⟩ := Classical.axiomOfChoice h0
  obtain ⟨t, ht, hT⟩ := va_Tof (tm := tKs) (ty := .object "StoneDates$Kind") (N := 7) (f := fun j => .ref (ad j).1) (A := A) (by decide) (hs _ n_ks.1) (va_eqt (hs _ n_ks.2.1)) (fun j hj => eq_ref (hs _ (n_ks.2.2 j hj)) (had j hj).1) hA
  exact ⟨t, fun i => (ad i).1, fun i => (ad i).2.1, fun i => (ad i).2.2, va_Zof (hts _ n_st.1) (hts _ n_st.2.1) ht hA, hT, fun i hi => (had i hi).2⟩
theorem st_mwrd (hts : ∀ w ∈ lw_tbl, w.before args s = true) (hs : ∀ w ∈ flN, w.before args s = true) (hA : ∀ a : Nat, a < s.heap.size → ¬ A a) : ∃ (ma mv : Nat → Nat), MWrd ma mv A s s.heap := by
  have h0 : ∀ i : Nat, ∃ q : Nat × Nat, i < 7 → (Term.string RX9 (mix i)).eval args s none [] s = some (.ref q.1) ∧ StrAt q.1 q.2 (wb i) A s s.heap := by
    intro i
    by_cases hi : i < 7
    · obtain ⟨q, q1, q2⟩ := str_of (A := A) (tm := .string RX9 (mix i)) (bs := wb i) (by have := (wb_ok i hi).1; omega) (hs _ (n_mx i hi)) (hs _ (n_mc i hi)) (hs _ (n_ma i hi)) (hs _ (n_ml i hi)) (fun j hj => hs _ (n_me i hi j hj)) hA
      exact ⟨q, fun _ => ⟨q1, q2⟩⟩
    · exact ⟨(0, 0), fun h => absurd h hi⟩
  obtain ⟨ad, had⟩ := Classical.axiomOfChoice h0
  exact ⟨fun i => (ad i).1, fun i => (ad i).2, fun i hi => ⟨vk_R.of (hts _ (n_mr i hi)) (had i hi).1, (had i hi).2⟩⟩
theorem st_the (hts : ∀ w ∈ lw_tbl, w.before args s = true) (hs : ∀ w ∈ flN, w.before args s = true) (hA : ∀ a : Nat, a < s.heap.size → ¬ A a) : ∃ ga : Nat → Nat, ThE ga A s s.heap := by
  have h0 : ∀ k : Nat, ∃ a : Nat, (∃ q ∈ thT, q.1 = k) → (Term.string RX8 k).eval args s none [] s = some (.ref a) := by
    intro k
    by_cases hk : ∃ q ∈ thT, q.1 = k
    · obtain ⟨q, hq, e⟩ := hk
      obtain ⟨a, ha⟩ := ex_ref (hs _ (n_tx q hq))
      exact ⟨a, fun _ => by rw [← e]; exact ha⟩
    · exact ⟨0, fun h => absurd h hk⟩
  obtain ⟨ga, hga⟩ := Classical.axiomOfChoice h0
  exact ⟨ga, vx_Zqof (hts _ n_th.1) (hts _ n_th.2.2) (hs _ n_tv.1) hA, vx_Zqof (hts _ n_th.2.1) (hts _ n_th.2.2) (hs _ n_tv.2) hA, fun w hw => va_Nw.of (thW_ok w hw).2 (hts _ (n_tw w hw)), fun q hq => vk_R.of (hts _ (n_tt q hq)) (hga q.1 ⟨q, hq, rfl⟩)⟩
theorem st_fn (hts : ∀ w ∈ lw_tbl, w.before args s = true) : FnE A s s.heap := by
  intro k hk
  rcases u_lays (C := RX6) (T := TX6) (N := 4) hts st_in_RX6 hk with h | h
  · obtain ⟨c, k1, c', k', i, f, -, -, h3, h4, -⟩ := Cond.lays_spec h
    exact ⟨c', k', i, f, h3, h4⟩
  · obtain ⟨c, k1, c', k', i, f, -, -, h3, h4, -⟩ := Cond.laysFinal_spec h
    exact ⟨c', k', i, f, h3, h4⟩
theorem st_CE (hts : ∀ w ∈ lw_tbl, w.before args s = true) (hs : ∀ w ∈ flN, w.before args s = true) (hA : ∀ a : Nat, a < s.heap.size → ¬ A a) : ∃ (ga : Nat → Nat) (kfo : Option Nat) (kkt : Nat) (kkd : Nat → Nat) (ksa : Nat → Nat) (kva : Nat → Nat) (ma : Nat → Nat) (mv : Nat → Nat), CE ga kfo kkt kkd ksa kva ma mv A s s.heap := by
  obtain ⟨ga, h1⟩ := st_the hts hs hA
  obtain ⟨fo, h2⟩ := st_fo hts hs hA
  obtain ⟨kt, kd, sa, va, h3⟩ := st_kind hts hs hA
  obtain ⟨ma, mv, h4⟩ := st_mwrd hts hs hA
  exact ⟨ga, fo, kt, kd, sa, va, ma, mv, h1, ⟨fun n hn => va_Nw.of rfl (hts _ (n_c1 n hn)), fun n hn k hk hq => va_Nc.of (hs _ (n_c2 n hn k hk hq))⟩, ⟨h2, h3⟩, va_Nw.of rfl (hts _ n_cl), ⟨h2, h4⟩, st_fn hts⟩
theorem st_ao (hts : ∀ w ∈ lw_tbl, w.before args s = true) : And2 AoE NsE A s s.heap :=
  ⟨⟨va_AO.of (hts _ st_a4), va_AOA.of (hts _ st_a5)⟩, va_Nw.of rfl (hts _ n_ns.1), va_Nw.of rfl (hts _ n_ns.2.1), va_Nw.of rfl (hts _ n_ns.2.2)⟩
end Given
