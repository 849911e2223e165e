
theorem ps_ne {M : Nat → Int → Int} {i : Int} {k : Nat} (h1 : k ≠ (i + 1 + 0).toNat) (h2 : k ≠ (i + 1 + 13).toNat) : psM M i k = M k := by
  unfold psM
  rw [um_ne h2, um_ne h1]
theorem ps_g {M : Nat → Int → Int} {i j : Int} (hi : 0 ≤ i) (h : 0 ≤ j ∧ j < 30) : psM M i (i + 1 + 0).toNat j = M (i + 0).toNat j := by
  unfold psM
  rw [um_ne (by omega), um_at]
  unfold cpz
  rw [if_pos (by omega), show (0 : Int) + (j - 0) = j from by omega]
theorem ps_o {M : Nat → Int → Int} {i j : Int} (hi : 0 ≤ i) (h : 0 ≤ j ∧ j < 30) : psM M i (i + 1 + 13).toNat j = M (i + 13).toNat j := by
  unfold psM
  rw [um_at]
  unfold cpz
  rw [if_pos (by omega), show (0 : Int) + (j - 0) = j from by omega, um_ne (by omega)]
def DOk (mb : Int → Option Nat) (js : Int → Int) (M : Nat → Int → Int) (Ls : Int → List Int) (v : Int) : Prop := GOk mb v ∧ (0 ≤ szX js Ls v ∧ szX js Ls v ≤ 300) ∧ Mono (dlX M Ls v) (szX js Ls v) ∧ ∀ j : Int, 0 ≤ j → j < szX js Ls v → -9000000 < dlX M Ls v j ∧ dlX M Ls v j < 9000000
/-- two groups being joined, as far as stone x -/
def JI (M N : Nat → Int → Int) (i fs sc ap x : Int) : Prop := (∀ k : Nat, k ≠ (i + 1 + 0).toNat → k ≠ (i + 1 + 13).toNat → N k = M k) ∧
  (∀ j : Int, 0 ≤ j → j < x → N (i + 1 + 0).toNat j = (if M (i + 0).toNat j = fs ∨ M (i + 0).toNat j = sc then 30 + i else M (i + 0).toNat j) ∧ N (i + 1 + 13).toNat j = M (i + 13).toNat j + (if M (i + 0).toNat j = sc then ap else 0)) ∧
  (∀ j : Int, x ≤ j → 0 ≤ j → j < 30 → N (i + 1 + 0).toNat j = M (i + 0).toNat j ∧ N (i + 1 + 13).toNat j = M (i + 13).toNat j)
theorem ji_0 {M : Nat → Int → Int} {i fs sc ap : Int} (hi : 0 ≤ i) : JI M (psM M i) i fs sc ap 0 :=
  ⟨fun k h1 h2 => ps_ne h1 h2, fun j h1 h2 => absurd h2 (by omega), fun j h1 h2 h3 => ⟨ps_g hi ⟨h2, h3⟩, ps_o hi ⟨h2, h3⟩⟩⟩
theorem ji_n {M N : Nat → Int → Int} {i fs sc ap x : Int} (h : JI M N i fs sc ap x) (hx : 0 ≤ x ∧ x < 30) (h1 : M (i + 0).toNat x ≠ fs) (h2 : M (i + 0).toNat x ≠ sc) : JI M N i fs sc ap (x + 1) := by
  refine ⟨h.1, fun j q1 q2 => ?_, fun j q1 q2 q3 => h.2.2 j (by omega) q2 q3⟩
  by_cases e1 : j = x
  · subst e1
    have h3 := h.2.2 j (by omega) q1 hx.2
    rw [if_neg (fun q => q.elim h1 h2), if_neg h2, h3.1, h3.2]
    exact ⟨rfl, by omega⟩
  · exact h.2.1 j q1 (by omega)
theorem ji_g {M N : Nat → Int → Int} {i fs sc ap x : Int} (hi : 0 ≤ i) (h : JI M N i fs sc ap x) (hx : 0 ≤ x ∧ x < 30) (h1 : M (i + 0).toNat x = fs) (h2 : M (i + 0).toNat x ≠ sc) : JI M (um N (i + 1 + 0).toNat (us (N (i + 1 + 0).toNat) x (30 + i))) i fs sc ap (x + 1) := by
  refine ⟨fun k q1 q2 => (um_ne q1).trans (h.1 k q1 q2), fun j q1 q2 => ?_, fun j q1 q2 q3 => ?_⟩
  · rw [um_at, um_ne (by omega)]
    by_cases e1 : j = x
    · subst e1
      have h3 := h.2.2 j (by omega) q1 hx.2
      rw [us_at, if_pos (Or.inl h1), if_neg h2, h3.2]
      exact ⟨rfl, by omega⟩
    · rw [us_ne e1]
      exact h.2.1 j q1 (by omega)
  · rw [um_at, um_ne (by omega), us_ne (by omega)]
    exact h.2.2 j (by omega) q2 q3
theorem ji_b {M N : Nat → Int → Int} {i fs sc ap x : Int} (hi : 0 ≤ i) (h : JI M N i fs sc ap x) (hx : 0 ≤ x ∧ x < 30) (h2 : M (i + 0).toNat x = sc) : JI M (um (um N (i + 1 + 13).toNat (us (N (i + 1 + 13).toNat) x (M (i + 13).toNat x + ap))) (i + 1 + 0).toNat (us ((um N (i + 1 + 13).toNat (us (N (i + 1 + 13).toNat) x (M (i + 13).toNat x + ap))) (i + 1 + 0).toNat) x (30 + i))) i fs sc ap (x + 1) := by
  refine ⟨fun k q1 q2 => (um_ne q1).trans ((um_ne q2).trans (h.1 k q1 q2)), fun j q1 q2 => ?_, fun j q1 q2 q3 => ?_⟩
  · rw [um_at, um_ne (j := (i + 1 + 13).toNat) (by omega), um_at, um_ne (by omega)]
    by_cases e1 : j = x
    · subst e1
      rw [us_at, us_at, if_pos (Or.inr h2), if_pos h2]
      exact ⟨rfl, rfl⟩
    · rw [us_ne e1, us_ne e1]
      exact h.2.1 j q1 (by omega)
  · rw [um_at, um_ne (j := (i + 1 + 13).toNat) (by omega), um_at, um_ne (by omega), us_ne (by omega), us_ne (by omega)]
    exact h.2.2 j (by omega) q2 q3
/-- what a join answers and leaves: 0 cannot, 2 must, 1 may -/
def JP (Ls : Int → List Int) (M Mo : Nat → Int → Int) (js jo : Int → Int) (i fs sc ap h : Int) : Prop :=
  (h = 0 ∧ ((fs = sc ∧ ap ≠ 0) ∨ (fs ≠ sc ∧ ∀ v, ¬ (Inl (dlX M Ls fs) (szX js Ls fs) v ∧ Inl (dlX M Ls sc) (szX js Ls sc) (v + ap)))) ∧ (∀ k : Nat, k ≠ (i + 26).toNat → Mo k = M k) ∧ ∀ j, j ≠ i → jo j = js j) ∨
  (h = 2 ∧ fs = sc ∧ ap = 0 ∧ Mo = psM M i ∧ jo = js) ∨
  (h = 1 ∧ fs ≠ sc ∧ ∃ (rr : Int → Int) (n : Int), (0 < n ∧ n ≤ 300) ∧ Mono rr n ∧ (∀ v, Inl rr n v ↔ (Inl (dlX M Ls fs) (szX js Ls fs) v ∧ Inl (dlX M Ls sc) (szX js Ls sc) (v + ap))) ∧ jo = us js i n ∧ JI (um M (i + 26).toNat rr) Mo i fs sc ap 30)
theorem hw_X3_join_5b42a7 : (.fieldLink RX3 29 "StoneDates$Net" "group" "[[I" : Cond) ∈ wsX3_join := by decide +kernel
theorem hi_X3_join_X3 : ∀ w ∈ u_ws RX3 TX3 13, w ∈ wsX3_join := by decide +kernel
theorem hw_X3_join_7cb8c8 : (.fieldLink RX3 17 "StoneDates$Net" "from" "[I" : Cond) ∈ wsX3_join := by decide +kernel
theorem hw_X3_join_d4916d : (.fieldLink RX3 21 "StoneDates$Net" "to" "[I" : Cond) ∈ wsX3_join := by decide +kernel
theorem hw_X3_join_121212 : (.fieldLink RX3 24 "StoneDates$Net" "days" "[I" : Cond) ∈ wsX3_join := by decide +kernel
theorem hw_X3_join_1dff87 : (.fieldLink RX3 32 "StoneDates$Net" "offset" "[[I" : Cond) ∈ wsX3_join := by decide +kernel
theorem mdv_X3_meet : yX3_meet.cls = RX3 ∧ yX3_meet.cls ≠ "java/lang/invoke/MethodHandle" ∧ yX3_meet.cls ≠ "java/lang/invoke/VarHandle" ∧ (parseMethodDescriptor yX3_meet.desc).map (fun d => d.parameters.length) = some 4 := by decide +kernel
theorem mdv_X3_pass : yX3_pass.cls = RX3 ∧ yX3_pass.cls ≠ "java/lang/invoke/MethodHandle" ∧ yX3_pass.cls ≠ "java/lang/invoke/VarHandle" ∧ (parseMethodDescriptor yX3_pass.desc).map (fun d => d.parameters.length) = some 1 := by decide +kernel
set_option maxHeartbeats 4000000 in
set_option maxRecDepth 100000 in
theorem c_X3_join (l : Launch) (G : GG) (nt : Nat) (mem : Nat) (fr : Nat) (to_ : Nat) (da : Nat) (gr : Nat) (of_ : Nat) (jo : Nat) (jsA : Nat) (ad : Nat → Nat) (mb : Int → Option Nat) (fF : Int → Int) (tT : Int → Int) (dD : Int → Int) (js : Int → Int) (M : Nat → Int → Int) (size : Int) (mcn : Int) (few : Int) (wrg : Int) (slv : Int) (sd : Int → Nat) (Ls : Int → List Int) (i : Int) (hi : 0 ≤ i ∧ i < 12) (hf : 0 ≤ fF i ∧ fF i < 30) (ht : 0 ≤ tT i ∧ tT i < 30) (hD1 : DOk mb js M Ls (M (i + 0).toNat (fF i))) (hD2 : DOk mb js M Ls (M (i + 0).toNat (tT i))) (hg : ∀ j : Int, 0 ≤ j → j < 30 → 0 ≤ M (i + 0).toNat j ∧ M (i + 0).toNat j < 30 + i) (ho1 : -9000000 < M (i + 13).toNat (fF i) ∧ M (i + 13).toNat (fF i) < 9000000) (ho2 : -9000000 < M (i + 13).toNat (tT i) ∧ M (i + 13).toNat (tT i) < 9000000) (hd : -600000 < dD i ∧ dD i < 600000) : Ci l yX3_join wsX3_join ({ frames := 2, cells := 0, slots := 0, locals := 61 }) G (NetE mb sd Ls) [.ref nt, .int (iz i)] (wpl [(nt, .inr (1, [.int (iz size), .int (iz mcn), .int (iz few), .int (iz wrg), .int (iz slv), .ref mem, .ref fr, .ref to_, .ref da, .ref gr, .ref of_, .ref jo, .ref jsA])), (mem, .inl (G.2 4, 30, .inr (.inr (.inr (.inr (rv mb)))))), (fr, .inl (G.2 0, 12, .inl (av fF))), (to_, .inl (G.2 0, 12, .inl (av tT))), (da, .inl (G.2 0, 12, .inl (av dD))), (gr, .inl (G.2 5, 13, .inr (.inr (.inr (.inr (rv (fun k_ => some (ad (k_ + 0).toNat)))))))), (of_, .inl (G.2 5, 13, .inr (.inr (.inr (.inr (rv (fun k_ => some (ad (k_ + 13).toNat)))))))), (jo, .inl (G.2 5, 12, .inr (.inr (.inr (.inr (rv (fun k_ => some (ad (k_ + 26).toNat)))))))), (jsA, .inl (G.2 0, 12, .inl (av js)))] (rows 38 ad (ctM G M))) 0 0 (fun u : Int × (Nat → Int → Int) × (Int → Int) => match u with | (h, Mo, jo_) => (wpl [(nt, .inr (1, [.int (iz size), .int (iz mcn), .int (iz few), .int (iz wrg), .int (iz slv), .ref mem, .ref fr, .ref to_, .ref da, .ref gr, .ref of_, .ref jo, .ref jsA])), (mem, .inl (G.2 4, 30, .inr (.inr (.inr (.inr (rv mb)))))), (fr, .inl (G.2 0, 12, .inl (av fF))), (to_, .inl (G.2 0, 12, .inl (av tT))), (da, .inl (G.2 0, 12, .inl (av dD))), (gr, .inl (G.2 5, 13, .inr (.inr (.inr (.inr (rv (fun k_ => some (ad (k_ + 0).toNat)))))))), (of_, .inl (G.2 5, 13, .inr (.inr (.inr (.inr (rv (fun k_ => some (ad (k_ + 13).toNat)))))))), (jo, .inl (G.2 5, 12, .inr (.inr (.inr (.inr (rv (fun k_ => some (ad (k_ + 26).toNat)))))))), (jsA, .inl (G.2 0, 12, .inl (av jo_)))] (rows 38 ad (ctM G Mo)))) (fun (r : Int32) (u : Int × (Nat → Int → Int) × (Int → Int)) => match u with | (h, Mo, jo_) => (r = (iz h)) ∧ (JP Ls M Mo js jo_ i (M (i + 0).toNat (fF i)) (M (i + 0).toNat (tT i)) (dD i + M (i + 13).toNat (fF i) - M (i + 13).toNat (tT i)) h)) := by
  refine Ci_intro (cc := cX3_join) (maxL := 6) (ret := (some .int)) (by decide) rfl (Nat.le_of_ble_eq_true rfl) ?_
  intro p e s m below meth c A F hA hP hD hK hE ls hl
  have hX_ := F.1
  have hB_ := F.2.1
  have hts := F.2.2.2.2.2.1
  have hown := F.2.2.2.2.1
  have hml := F.2.2.2.1
  have hS : va_S A s.heap s.heap [] := va_S.rf
  have hl : lv_has ls 6 [(0, .ref nt), (1, .int (iz i))] := hl
  refine lv_aload_n hX_ hB_ dX3_join_0 rfl (lv_at hl 0 rfl) ?_
  refine va_get (D := G.1) (ci := 1) (v := .ref gr) (C := RX3) (T := TX3) (N := 13) hX_ hB_ hts hi_X3_join_X3 hown hK.1 hP 0 rfl rfl 9 (by decide) (hts _ hw_X3_join_5b42a7) (fun _ h9 => h9) rfl dX3_join_1 ?_
  refine lv_iload_n hX_ hB_ dX3_join_4 rfl (lv_at hl 1 rfl) ?_
  refine zk_rald hX_ hB_ hK.1 hP 5 rfl (by omega) (by decide) rfl dX3_join_5 ?_
  refine lv_aload_n hX_ hB_ dX3_join_6 rfl (lv_at hl 0 rfl) ?_
  refine va_get (D := G.1) (ci := 1) (v := .ref fr) (C := RX3) (T := TX3) (N := 13) hX_ hB_ hts hi_X3_join_X3 hown hK.1 hP 0 rfl rfl 6 (by decide) (hts _ hw_X3_join_7cb8c8) (fun _ h9 => h9) rfl dX3_join_7 ?_
  refine lv_iload_n hX_ hB_ dX3_join_10 rfl (lv_at hl 1 rfl) ?_
  refine zk_iald hX_ hB_ hK.1 hP 2 0 rfl rfl (by omega) (by decide) dX3_join_11 ?_
  refine zk_pald (M := M) hX_ hB_ hK.1 hP 9 (i + 0).toNat rfl (by omega) (ln_lo (by omega)) (by omega) (by decide) dX3_join_12 ?_
  refine lv_istore_n (lv' := [(2, .int (iz (M (i + 0).toNat (fF i)))), (0, .ref nt), (1, .int (iz i))]) hX_ hB_ dX3_join_13 rfl hl (by decide) rfl (fun ls hl => ?_)
  refine lv_aload_n hX_ hB_ dX3_join_14 rfl (lv_at hl 1 rfl) ?_
  refine va_get (D := G.1) (ci := 1) (v := .ref gr) (C := RX3) (T := TX3) (N := 13) hX_ hB_ hts hi_X3_join_X3 hown hK.1 hP 0 rfl rfl 9 (by decide) (hts _ hw_X3_join_5b42a7) (fun _ h9 => h9) rfl dX3_join_15 ?_
  refine lv_iload_n hX_ hB_ dX3_join_18 rfl (lv_at hl 2 rfl) ?_
  refine zk_rald hX_ hB_ hK.1 hP 5 rfl (by omega) (by decide) rfl dX3_join_19 ?_
  refine lv_aload_n hX_ hB_ dX3_join_20 rfl (lv_at hl 1 rfl) ?_
  refine va_get (D := G.1) (ci := 1) (v := .ref to_) (C := RX3) (T := TX3) (N := 13) hX_ hB_ hts hi_X3_join_X3 hown hK.1 hP 0 rfl rfl 7 (by decide) (hts _ hw_X3_join_d4916d) (fun _ h9 => h9) rfl dX3_join_21 ?_
  refine lv_iload_n hX_ hB_ dX3_join_24 rfl (lv_at hl 2 rfl) ?_
  refine zk_iald hX_ hB_ hK.1 hP 3 0 rfl rfl (by omega) (by decide) dX3_join_25 ?_
  refine zk_pald (M := M) hX_ hB_ hK.1 hP 9 (i + 0).toNat rfl (by omega) (ln_lo (by omega)) (by omega) (by decide) dX3_join_26 ?_
  refine lv_istore_n (lv' := [(3, .int (iz (M (i + 0).toNat (tT i)))), (2, .int (iz (M (i + 0).toNat (fF i)))), (0, .ref nt), (1, .int (iz i))]) hX_ hB_ dX3_join_27 rfl hl (by decide) rfl (fun ls hl => ?_)
  refine lv_aload_n hX_ hB_ dX3_join_28 rfl (lv_at hl 2 rfl) ?_
  refine va_get (D := G.1) (ci := 1) (v := .ref da) (C := RX3) (T := TX3) (N := 13) hX_ hB_ hts hi_X3_join_X3 hown hK.1 hP 0 rfl rfl 8 (by decide) (hts _ hw_X3_join_121212) (fun _ h9 => h9) rfl dX3_join_29 ?_
  refine lv_iload_n hX_ hB_ dX3_join_32 rfl (lv_at hl 3 rfl) ?_
  refine zk_iald hX_ hB_ hK.1 hP 4 0 rfl rfl (by omega) (by decide) dX3_join_33 ?_
  refine lv_aload_n hX_ hB_ dX3_join_34 rfl (lv_at hl 2 rfl) ?_
  refine va_get (D := G.1) (ci := 1) (v := .ref of_) (C := RX3) (T := TX3) (N := 13) hX_ hB_ hts hi_X3_join_X3 hown hK.1 hP 0 rfl rfl 10 (by decide) (hts _ hw_X3_join_1dff87) (fun _ h9 => h9) rfl dX3_join_35 ?_
  refine lv_iload_n hX_ hB_ dX3_join_38 rfl (lv_at hl 3 rfl) ?_
  refine zk_rald hX_ hB_ hK.1 hP 6 rfl (by omega) (by decide) rfl dX3_join_39 ?_
  refine lv_aload_n hX_ hB_ dX3_join_40 rfl (lv_at hl 2 rfl) ?_
  refine va_get (D := G.1) (ci := 1) (v := .ref fr) (C := RX3) (T := TX3) (N := 13) hX_ hB_ hts hi_X3_join_X3 hown hK.1 hP 0 rfl rfl 6 (by decide) (hts _ hw_X3_join_7cb8c8) (fun _ h9 => h9) rfl dX3_join_41 ?_
  refine lv_iload_n hX_ hB_ dX3_join_44 rfl (lv_at hl 3 rfl) ?_
  refine zk_iald hX_ hB_ hK.1 hP 2 0 rfl rfl (by omega) (by decide) dX3_join_45 ?_
  refine zk_pald (M := M) hX_ hB_ hK.1 hP 9 (i + 13).toNat rfl (by omega) (ln_lo (by omega)) (by omega) (by decide) dX3_join_46 ?_
  refine zk_iadd hX_ hB_ dX3_join_47 ?_
  refine lv_aload_n hX_ hB_ dX3_join_48 rfl (lv_at hl 2 rfl) ?_
  refine va_get (D := G.1) (ci := 1) (v := .ref of_) (C := RX3) (T := TX3) (N := 13) hX_ hB_ hts hi_X3_join_X3 hown hK.1 hP 0 rfl rfl 10 (by decide) (hts _ hw_X3_join_1dff87) (fun _ h9 => h9) rfl dX3_join_49 ?_
  refine lv_iload_n hX_ hB_ dX3_join_52 rfl (lv_at hl 3 rfl) ?_
  refine zk_rald hX_ hB_ hK.1 hP 6 rfl (by omega) (by decide) rfl dX3_join_53 ?_
  refine lv_aload_n hX_ hB_ dX3_join_54 rfl (lv_at hl 2 rfl) ?_
  refine va_get (D := G.1) (ci := 1) (v := .ref to_) (C := RX3) (T := TX3) (N := 13) hX_ hB_ hts hi_X3_join_X3 hown hK.1 hP 0 rfl rfl 7 (by decide) (hts _ hw_X3_join_d4916d) (fun _ h9 => h9) rfl dX3_join_55 ?_
  refine lv_iload_n hX_ hB_ dX3_join_58 rfl (lv_at hl 3 rfl) ?_
  refine zk_iald hX_ hB_ hK.1 hP 3 0 rfl rfl (by omega) (by decide) dX3_join_59 ?_
  refine zk_pald (M := M) hX_ hB_ hK.1 hP 9 (i + 13).toNat rfl (by omega) (ln_lo (by omega)) (by omega) (by decide) dX3_join_60 ?_
  refine zk_isub hX_ hB_ dX3_join_61 ?_
  refine lv_istore (lv' := [(4, .int (iz (((dD i) + (M (i + 13).toNat (fF i))) - (M (i + 13).toNat (tT i))))), (3, .int (iz (M (i + 0).toNat (tT i)))), (2, .int (iz (M (i + 0).toNat (fF i)))), (0, .ref nt), (1, .int (iz i))]) hX_ hB_ dX3_join_62 hl (by decide) rfl (fun ls hl => ?_)
  have hg1 := hg (fF i) hf.1 hf.2
  have hg2 := hg (tT i) ht.1 ht.2
  refine lv_iload_n hX_ hB_ dX3_join_64 rfl (lv_at hl 2 rfl) ?_
  refine lv_iload_n hX_ hB_ dX3_join_65 rfl (lv_at hl 1 rfl) ?_
  refine zk_icmp_ne (tgt := 83) hX_ hB_ (by omega) (by omega) dX3_join_66 (by decide) (fun c_66 => ?_) (fun c_66 => ?_)
  · skip
    refine lv_aload_n hX_ hB_ dX3_join_83 rfl (lv_at hl 3 rfl) ?_
    refine lv_iload_n hX_ hB_ dX3_join_84 rfl (lv_at hl 4 rfl) ?_
    refine lv_iload_n hX_ hB_ dX3_join_85 rfl (lv_at hl 2 rfl) ?_
    refine lv_iload_n hX_ hB_ dX3_join_86 rfl (lv_at hl 1 rfl) ?_
    refine lv_iload hX_ hB_ dX3_join_87 (lv_at hl 0 rfl) ?_
    refine backA_i (run_V (As := [.int (iz i), .int (iz (M (i + 0).toNat (fF i))), .int (iz (M (i + 0).toNat (tT i))), .int (iz (((dD i) + (M (i + 13).toNat (fF i))) - (M (i + 13).toNat (tT i))))]) (rest := []) (wc := (wpl [(nt, .inr (1, [.int (iz size), .int (iz mcn), .int (iz few), .int (iz wrg), .int (iz slv), .ref mem, .ref fr, .ref to_, .ref da, .ref gr, .ref of_, .ref jo, .ref jsA])), (mem, .inl (G.2 4, 30, .inr (.inr (.inr (.inr (rv mb)))))), (fr, .inl (G.2 0, 12, .inl (av fF))), (to_, .inl (G.2 0, 12, .inl (av tT))), (da, .inl (G.2 0, 12, .inl (av dD))), (gr, .inl (G.2 5, 13, .inr (.inr (.inr (.inr (rv (fun k_ => some (ad (k_ + 0).toNat)))))))), (of_, .inl (G.2 5, 13, .inr (.inr (.inr (.inr (rv (fun k_ => some (ad (k_ + 13).toNat)))))))), (jo, .inl (G.2 5, 12, .inr (.inr (.inr (.inr (rv (fun k_ => some (ad (k_ + 26).toNat)))))))), (jsA, .inl (G.2 0, 12, .inl (av js)))] (rows 38 ad (ctM G M)))) F (c_X3_meet l G nt mem fr to_ da gr of_ jo jsA ad mb fF tT dD js M size mcn few wrg slv sd Ls i (M (i + 0).toNat (fF i)) (M (i + 0).toNat (tT i)) (((dD i) + (M (i + 13).toNat (fF i))) - (M (i + 13).toNat (tT i))) (by omega) hD1.1 hD2.1 ⟨hg1.2, hg2.2⟩ hD1.2.1 hD2.2.1 hD1.2.2.1 hD2.2.2.1 hD1.2.2.2 hD2.2.2.2 (by omega) _) (netE_ext mb sd Ls) gX3_join_X3_meet rfl rfl rfl mdv_X3_meet ⟨Nat.le_of_ble_eq_true rfl, Nat.le_of_ble_eq_true rfl⟩ (va_recv hK.1 hP (ci := 1) (q0 := 0) rfl rfl) (preA (netE_ext mb sd Ls) hK hP hD hS hA hE _) rfl hl.1 (Nat.le_of_ble_eq_true rfl) dX3_join_89 ⟨by decide, by decide⟩) hD hS hA (fun r__ u__ H locs hw hP hD hS => ?_)
    obtain ⟨rr, n⟩ := u__
    try dsimp only at hw hP hD
    obtain ⟨rfl, hw_89⟩ := hw
    have hP : va_P G.1 vwCl (wpl [(nt, .inr (1, [.int (iz size), .int (iz mcn), .int (iz few), .int (iz wrg), .int (iz slv), .ref mem, .ref fr, .ref to_, .ref da, .ref gr, .ref of_, .ref jo, .ref jsA])), (mem, .inl (G.2 4, 30, .inr (.inr (.inr (.inr (rv mb)))))), (fr, .inl (G.2 0, 12, .inl (av fF))), (to_, .inl (G.2 0, 12, .inl (av tT))), (da, .inl (G.2 0, 12, .inl (av dD))), (gr, .inl (G.2 5, 13, .inr (.inr (.inr (.inr (rv (fun k_ => some (ad (k_ + 0).toNat)))))))), (of_, .inl (G.2 5, 13, .inr (.inr (.inr (.inr (rv (fun k_ => some (ad (k_ + 13).toNat)))))))), (jo, .inl (G.2 5, 12, .inr (.inr (.inr (.inr (rv (fun k_ => some (ad (k_ + 26).toNat)))))))), (jsA, .inl (G.2 0, 12, .inl (av (us js i n))))] (rows 38 ad (ctM G (um M (i + 26).toNat rr)))) _ := hP
    have hD : va_D A (wpl [(nt, .inr (1, [.int (iz size), .int (iz mcn), .int (iz few), .int (iz wrg), .int (iz slv), .ref mem, .ref fr, .ref to_, .ref da, .ref gr, .ref of_, .ref jo, .ref jsA])), (mem, .inl (G.2 4, 30, .inr (.inr (.inr (.inr (rv mb)))))), (fr, .inl (G.2 0, 12, .inl (av fF))), (to_, .inl (G.2 0, 12, .inl (av tT))), (da, .inl (G.2 0, 12, .inl (av dD))), (gr, .inl (G.2 5, 13, .inr (.inr (.inr (.inr (rv (fun k_ => some (ad (k_ + 0).toNat)))))))), (of_, .inl (G.2 5, 13, .inr (.inr (.inr (.inr (rv (fun k_ => some (ad (k_ + 13).toNat)))))))), (jo, .inl (G.2 5, 12, .inr (.inr (.inr (.inr (rv (fun k_ => some (ad (k_ + 26).toNat)))))))), (jsA, .inl (G.2 0, 12, .inl (av (us js i n))))] (rows 38 ad (ctM G (um M (i + 26).toNat rr)))) := hD
    refine zk_bif_ne (tgt := 97) hX_ hB_ dX3_join_92 (by decide) (fun c_92 => ?_) (fun c_92 => ?_)
    · skip
      refine lv_aload_n hX_ hB_ dX3_join_97 rfl (lv_at hl 3 rfl) ?_
      refine lv_iload_n hX_ hB_ dX3_join_98 rfl (lv_at hl 4 rfl) ?_
      refine backA_v (run_V (As := [.int (iz i)]) (rest := []) (wc := (wpl [(nt, .inr (1, [.int (iz size), .int (iz mcn), .int (iz few), .int (iz wrg), .int (iz slv), .ref mem, .ref fr, .ref to_, .ref da, .ref gr, .ref of_, .ref jo, .ref jsA])), (mem, .inl (G.2 4, 30, .inr (.inr (.inr (.inr (rv mb)))))), (fr, .inl (G.2 0, 12, .inl (av fF))), (to_, .inl (G.2 0, 12, .inl (av tT))), (da, .inl (G.2 0, 12, .inl (av dD))), (gr, .inl (G.2 5, 13, .inr (.inr (.inr (.inr (rv (fun k_ => some (ad (k_ + 0).toNat)))))))), (of_, .inl (G.2 5, 13, .inr (.inr (.inr (.inr (rv (fun k_ => some (ad (k_ + 13).toNat)))))))), (jo, .inl (G.2 5, 12, .inr (.inr (.inr (.inr (rv (fun k_ => some (ad (k_ + 26).toNat)))))))), (jsA, .inl (G.2 0, 12, .inl (av (us js i n))))] (rows 38 ad (ctM G (um M (i + 26).toNat rr))))) F (c_X3_pass l G nt mem fr to_ da gr of_ jo jsA ad mb fF tT dD (us js i n) (um M (i + 26).toNat rr) size mcn few wrg slv i (by omega) _) ext0 gX3_join_X3_pass rfl rfl rfl mdv_X3_pass ⟨Nat.le_of_ble_eq_true rfl, Nat.le_of_ble_eq_true rfl⟩ (va_recv hK.1 hP (ci := 1) (q0 := 0) rfl rfl) (preA ext0 hK hP hD hS hA trivial _) rfl hl.1 (Nat.le_of_ble_eq_true rfl) dX3_join_99 ⟨by decide, by decide⟩) hD hS hA (fun u__ H locs hw hP hD hS => ?_)
      have hw_99 := hw
      have hP : va_P G.1 vwCl (wpl [(nt, .inr (1, [.int (iz size), .int (iz mcn), .int (iz few), .int (iz wrg), .int (iz slv), .ref mem, .ref fr, .ref to_, .ref da, .ref gr, .ref of_, .ref jo, .ref jsA])), (mem, .inl (G.2 4, 30, .inr (.inr (.inr (.inr (rv mb)))))), (fr, .inl (G.2 0, 12, .inl (av fF))), (to_, .inl (G.2 0, 12, .inl (av tT))), (da, .inl (G.2 0, 12, .inl (av dD))), (gr, .inl (G.2 5, 13, .inr (.inr (.inr (.inr (rv (fun k_ => some (ad (k_ + 0).toNat)))))))), (of_, .inl (G.2 5, 13, .inr (.inr (.inr (.inr (rv (fun k_ => some (ad (k_ + 13).toNat)))))))), (jo, .inl (G.2 5, 12, .inr (.inr (.inr (.inr (rv (fun k_ => some (ad (k_ + 26).toNat)))))))), (jsA, .inl (G.2 0, 12, .inl (av (us js i n))))] (rows 38 ad (ctM G (psM (um M (i + 26).toNat rr) i)))) _ := hP
      have hD : va_D A (wpl [(nt, .inr (1, [.int (iz size), .int (iz mcn), .int (iz few), .int (iz wrg), .int (iz slv), .ref mem, .ref fr, .ref to_, .ref da, .ref gr, .ref of_, .ref jo, .ref jsA])), (mem, .inl (G.2 4, 30, .inr (.inr (.inr (.inr (rv mb)))))), (fr, .inl (G.2 0, 12, .inl (av fF))), (to_, .inl (G.2 0, 12, .inl (av tT))), (da, .inl (G.2 0, 12, .inl (av dD))), (gr, .inl (G.2 5, 13, .inr (.inr (.inr (.inr (rv (fun k_ => some (ad (k_ + 0).toNat)))))))), (of_, .inl (G.2 5, 13, .inr (.inr (.inr (.inr (rv (fun k_ => some (ad (k_ + 13).toNat)))))))), (jo, .inl (G.2 5, 12, .inr (.inr (.inr (.inr (rv (fun k_ => some (ad (k_ + 26).toNat)))))))), (jsA, .inl (G.2 0, 12, .inl (av (us js i n))))] (rows 38 ad (ctM G (psM (um M (i + 26).toNat rr) i)))) := hD
      refine zk_iconst hX_ hB_ dX3_join_102 ?_
      refine lv_istore (lv' := [(5, .int (iz 0)), (4, .int (iz (((dD i) + (M (i + 13).toNat (fF i))) - (M (i + 13).toNat (tT i))))), (3, .int (iz (M (i + 0).toNat (tT i)))), (2, .int (iz (M (i + 0).toNat (fF i)))), (0, .ref nt), (1, .int (iz i))]) hX_ hB_ dX3_join_103 hl (by decide) rfl (fun ls hl => ?_)
      have loop_105 : ∀ (n_105 : Nat), ∀ (Mq : Nat → Int → Int) (x : Int), (0 ≤ x ∧ x ≤ 30) → (JI (um M (i + 26).toNat rr) Mq i (M (i + 0).toNat (fF i)) (M (i + 0).toNat (tT i)) (dD i + M (i + 13).toNat (fF i) - M (i + 13).toNat (tT i)) x) → ((30 - x).toNat < n_105) → ∀ (H : Heap) (locs : List Loc), va_P G.1 vwCl (wpl [(nt, .inr (1, [.int (iz size), .int (iz mcn), .int (iz few), .int (iz wrg), .int (iz slv), .ref mem, .ref fr, .ref to_, .ref da, .ref gr, .ref of_, .ref jo, .ref jsA])), (mem, .inl (G.2 4, 30, .inr (.inr (.inr (.inr (rv mb)))))), (fr, .inl (G.2 0, 12, .inl (av fF))), (to_, .inl (G.2 0, 12, .inl (av tT))), (da, .inl (G.2 0, 12, .inl (av dD))), (gr, .inl (G.2 5, 13, .inr (.inr (.inr (.inr (rv (fun k_ => some (ad (k_ + 0).toNat)))))))), (of_, .inl (G.2 5, 13, .inr (.inr (.inr (.inr (rv (fun k_ => some (ad (k_ + 13).toNat)))))))), (jo, .inl (G.2 5, 12, .inr (.inr (.inr (.inr (rv (fun k_ => some (ad (k_ + 26).toNat)))))))), (jsA, .inl (G.2 0, 12, .inl (av (us js i n))))] (rows 38 ad (ctM G Mq))) H → va_D A (wpl [(nt, .inr (1, [.int (iz size), .int (iz mcn), .int (iz few), .int (iz wrg), .int (iz slv), .ref mem, .ref fr, .ref to_, .ref da, .ref gr, .ref of_, .ref jo, .ref jsA])), (mem, .inl (G.2 4, 30, .inr (.inr (.inr (.inr (rv mb)))))), (fr, .inl (G.2 0, 12, .inl (av fF))), (to_, .inl (G.2 0, 12, .inl (av tT))), (da, .inl (G.2 0, 12, .inl (av dD))), (gr, .inl (G.2 5, 13, .inr (.inr (.inr (.inr (rv (fun k_ => some (ad (k_ + 0).toNat)))))))), (of_, .inl (G.2 5, 13, .inr (.inr (.inr (.inr (rv (fun k_ => some (ad (k_ + 13).toNat)))))))), (jo, .inl (G.2 5, 12, .inr (.inr (.inr (.inr (rv (fun k_ => some (ad (k_ + 26).toNat)))))))), (jsA, .inl (G.2 0, 12, .inl (av (us js i n))))] (rows 38 ad (ctM G Mq))) → va_S A s.heap H locs → ∀ ls : Array Slot, lv_has ls 6 [(0, .ref nt), (1, .int (iz i)), (2, .int (iz (M (i + 0).toNat (fF i)))), (3, .int (iz (M (i + 0).toNat (tT i)))), (4, .int (iz (((dD i) + (M (i + 13).toNat (fF i))) - (M (i + 13).toNat (tT i))))), (5, .int (iz x))] → W p l e ({ frames := 2, cells := 0, slots := 0, locals := 61 }) s m ([.ref nt, .int (iz i)] : List Value).toArray below meth c H locs 0 0 (MQ below (va_Qi (fun (r : Int32) (u : Int × (Nat → Int → Int) × (Int → Int)) => match u with | (h, Mo, jo_) => (r = (iz h)) ∧ (JP Ls M Mo js jo_ i (M (i + 0).toNat (fF i)) (M (i + 0).toNat (tT i)) (dD i + M (i + 13).toNat (fF i) - M (i + 13).toNat (tT i)) h)) (fun u__ t__ => Pst G A ((fun u : Int × (Nat → Int → Int) × (Int → Int) => match u with | (h, Mo, jo_) => (wpl [(nt, .inr (1, [.int (iz size), .int (iz mcn), .int (iz few), .int (iz wrg), .int (iz slv), .ref mem, .ref fr, .ref to_, .ref da, .ref gr, .ref of_, .ref jo, .ref jsA])), (mem, .inl (G.2 4, 30, .inr (.inr (.inr (.inr (rv mb)))))), (fr, .inl (G.2 0, 12, .inl (av fF))), (to_, .inl (G.2 0, 12, .inl (av tT))), (da, .inl (G.2 0, 12, .inl (av dD))), (gr, .inl (G.2 5, 13, .inr (.inr (.inr (.inr (rv (fun k_ => some (ad (k_ + 0).toNat)))))))), (of_, .inl (G.2 5, 13, .inr (.inr (.inr (.inr (rv (fun k_ => some (ad (k_ + 13).toNat)))))))), (jo, .inl (G.2 5, 12, .inr (.inr (.inr (.inr (rv (fun k_ => some (ad (k_ + 26).toNat)))))))), (jsA, .inl (G.2 0, 12, .inl (av jo_)))] (rows 38 ad (ctM G Mo)))) u__) t__) A) ([.ref nt, .int (iz i)] : List Value).toArray s 0 0 A) (F0 m 105 ls []) := by
        intro n_105
        induction n_105 with
        | zero =>
          intro Mq x hx hJI hm H locs hP hD hS ls hl
          exact absurd hm (Nat.not_lt_zero _)
        | succ n_105 ih_105 =>
          intro Mq x hx hJI hm H locs hP hD hS ls hl
          have eg : um M (i + 26).toNat rr (i + 0).toNat = M (i + 0).toNat := um_ne (by omega)
          have eo : um M (i + 26).toNat rr (i + 13).toNat = M (i + 13).toNat := um_ne (by omega)
          refine lv_iload hX_ hB_ dX3_join_105 (lv_at hl 5 rfl) ?_
          refine zk_bipush hX_ hB_ (by decide) dX3_join_107 ?_
          refine zk_icmp_ge (tgt := 188) hX_ hB_ (by omega) (by omega) dX3_join_109 (by decide) (fun c_109 => ?_) (fun c_109 => ?_)
          · skip
            refine zk_iconst hX_ hB_ dX3_join_188 ?_
            have hx30 : x = 30 := by omega
            subst hx30
            exact fin_i (wf := (fun u : Int × (Nat → Int → Int) × (Int → Int) => match u with | (h, Mo, jo_) => (wpl [(nt, .inr (1, [.int (iz size), .int (iz mcn), .int (iz few), .int (iz wrg), .int (iz slv), .ref mem, .ref fr, .ref to_, .ref da, .ref gr, .ref of_, .ref jo, .ref jsA])), (mem, .inl (G.2 4, 30, .inr (.inr (.inr (.inr (rv mb)))))), (fr, .inl (G.2 0, 12, .inl (av fF))), (to_, .inl (G.2 0, 12, .inl (av tT))), (da, .inl (G.2 0, 12, .inl (av dD))), (gr, .inl (G.2 5, 13, .inr (.inr (.inr (.inr (rv (fun k_ => some (ad (k_ + 0).toNat)))))))), (of_, .inl (G.2 5, 13, .inr (.inr (.inr (.inr (rv (fun k_ => some (ad (k_ + 13).toNat)))))))), (jo, .inl (G.2 5, 12, .inr (.inr (.inr (.inr (rv (fun k_ => some (ad (k_ + 26).toNat)))))))), (jsA, .inl (G.2 0, 12, .inl (av jo_)))] (rows 38 ad (ctM G Mo))))) (1, Mq, us js i n) F rfl hP hD hK hS (by decide) (by decide) dX3_join_189 (by exact ⟨rfl, Or.inr (Or.inr ⟨rfl, by omega, rr, n, ⟨of_decide_eq_true c_92, hw_89.1.2⟩, hw_89.2.1, hw_89.2.2, rfl, hJI⟩)⟩)
          · skip
            have hgx := hg x (by omega) (by omega)
            refine lv_aload_n hX_ hB_ dX3_join_112 rfl (lv_at hl 0 rfl) ?_
            refine va_get (D := G.1) (ci := 1) (v := .ref gr) (C := RX3) (T := TX3) (N := 13) hX_ hB_ hts hi_X3_join_X3 hown hK.1 hP 0 rfl rfl 9 (by decide) (hts _ hw_X3_join_5b42a7) (fun _ h9 => h9) rfl dX3_join_113 ?_
            refine lv_iload_n hX_ hB_ dX3_join_116 rfl (lv_at hl 1 rfl) ?_
            refine zk_rald hX_ hB_ hK.1 hP 5 rfl (by omega) (by decide) rfl dX3_join_117 ?_
            refine lv_iload hX_ hB_ dX3_join_118 (lv_at hl 5 rfl) ?_
            refine zk_pald (M := Mq) hX_ hB_ hK.1 hP 9 (i + 0).toNat rfl (by omega) (ln_lo (by omega)) (by omega) (by decide) dX3_join_120 ?_
            refine zk_topi (y := (iz (M (i + 0).toNat x))) (by first | rw [hJI.1 _ (by omega) (by omega), um_ne (by omega)] | rw [um_ne (by omega), hJI.1 _ (by omega) (by omega), um_ne (by omega)]) ?_
            refine lv_iload_n hX_ hB_ dX3_join_121 rfl (lv_at hl 3 rfl) ?_
            refine zk_icmp_ne (tgt := 141) hX_ hB_ (by omega) (by omega) dX3_join_122 (by decide) (fun c_122 => ?_) (fun c_122 => ?_)
            · skip
              refine lv_aload_n hX_ hB_ dX3_join_141 rfl (lv_at hl 0 rfl) ?_
              refine va_get (D := G.1) (ci := 1) (v := .ref gr) (C := RX3) (T := TX3) (N := 13) hX_ hB_ hts hi_X3_join_X3 hown hK.1 hP 0 rfl rfl 9 (by decide) (hts _ hw_X3_join_5b42a7) (fun _ h9 => h9) rfl dX3_join_142 ?_
              refine lv_iload_n hX_ hB_ dX3_join_145 rfl (lv_at hl 1 rfl) ?_
              refine zk_rald hX_ hB_ hK.1 hP 5 rfl (by omega) (by decide) rfl dX3_join_146 ?_
              refine lv_iload hX_ hB_ dX3_join_147 (lv_at hl 5 rfl) ?_
              refine zk_pald (M := Mq) hX_ hB_ hK.1 hP 9 (i + 0).toNat rfl (by omega) (ln_lo (by omega)) (by omega) (by decide) dX3_join_149 ?_
              refine zk_topi (y := (iz (M (i + 0).toNat x))) (by first | rw [hJI.1 _ (by omega) (by omega), um_ne (by omega)] | rw [um_ne (by omega), hJI.1 _ (by omega) (by omega), um_ne (by omega)]) ?_
              refine lv_iload_n hX_ hB_ dX3_join_150 rfl (lv_at hl 2 rfl) ?_
              refine zk_icmp_eq (tgt := 167) hX_ hB_ (by omega) (by omega) dX3_join_151 (by decide) (fun c_151 => ?_) (fun c_151 => ?_)
              · skip
                refine lv_aload_n hX_ hB_ dX3_join_167 rfl (lv_at hl 0 rfl) ?_
                refine va_get (D := G.1) (ci := 1) (v := .ref gr) (C := RX3) (T := TX3) (N := 13) hX_ hB_ hts hi_X3_join_X3 hown hK.1 hP 0 rfl rfl 9 (by decide) (hts _ hw_X3_join_5b42a7) (fun _ h9 => h9) rfl dX3_join_168 ?_
                refine lv_iload_n hX_ hB_ dX3_join_171 rfl (lv_at hl 1 rfl) ?_
                refine zk_iconst hX_ hB_ dX3_join_172 ?_
                refine zk_iadd hX_ hB_ dX3_join_173 ?_
                refine zk_rald hX_ hB_ hK.1 hP 5 rfl (by omega) (by decide) rfl dX3_join_174 ?_
                refine lv_iload hX_ hB_ dX3_join_175 (lv_at hl 5 rfl) ?_
                refine zk_bipush hX_ hB_ (by decide) dX3_join_177 ?_
                refine lv_iload_n hX_ hB_ dX3_join_179 rfl (lv_at hl 1 rfl) ?_
                refine zk_iadd hX_ hB_ dX3_join_180 ?_
                refine zk_past (M := Mq) hX_ hB_ hK.1 hP hD hS 9 (i + 1 + 0).toNat rfl (by omega) (ln_lo (by omega)) (by omega) (by decide) dX3_join_181 (fun H locs hP hD hS => ?_)
                have hP : va_P G.1 vwCl (wpl [(nt, .inr (1, [.int (iz size), .int (iz mcn), .int (iz few), .int (iz wrg), .int (iz slv), .ref mem, .ref fr, .ref to_, .ref da, .ref gr, .ref of_, .ref jo, .ref jsA])), (mem, .inl (G.2 4, 30, .inr (.inr (.inr (.inr (rv mb)))))), (fr, .inl (G.2 0, 12, .inl (av fF))), (to_, .inl (G.2 0, 12, .inl (av tT))), (da, .inl (G.2 0, 12, .inl (av dD))), (gr, .inl (G.2 5, 13, .inr (.inr (.inr (.inr (rv (fun k_ => some (ad (k_ + 0).toNat)))))))), (of_, .inl (G.2 5, 13, .inr (.inr (.inr (.inr (rv (fun k_ => some (ad (k_ + 13).toNat)))))))), (jo, .inl (G.2 5, 12, .inr (.inr (.inr (.inr (rv (fun k_ => some (ad (k_ + 26).toNat)))))))), (jsA, .inl (G.2 0, 12, .inl (av (us js i n))))] (rows 38 ad (ctM G (um Mq (i + 1 + 0).toNat (us (Mq (i + 1 + 0).toNat) x (30 + i)))))) _ := hP
                have hD : va_D A (wpl [(nt, .inr (1, [.int (iz size), .int (iz mcn), .int (iz few), .int (iz wrg), .int (iz slv), .ref mem, .ref fr, .ref to_, .ref da, .ref gr, .ref of_, .ref jo, .ref jsA])), (mem, .inl (G.2 4, 30, .inr (.inr (.inr (.inr (rv mb)))))), (fr, .inl (G.2 0, 12, .inl (av fF))), (to_, .inl (G.2 0, 12, .inl (av tT))), (da, .inl (G.2 0, 12, .inl (av dD))), (gr, .inl (G.2 5, 13, .inr (.inr (.inr (.inr (rv (fun k_ => some (ad (k_ + 0).toNat)))))))), (of_, .inl (G.2 5, 13, .inr (.inr (.inr (.inr (rv (fun k_ => some (ad (k_ + 13).toNat)))))))), (jo, .inl (G.2 5, 12, .inr (.inr (.inr (.inr (rv (fun k_ => some (ad (k_ + 26).toNat)))))))), (jsA, .inl (G.2 0, 12, .inl (av (us js i n))))] (rows 38 ad (ctM G (um Mq (i + 1 + 0).toNat (us (Mq (i + 1 + 0).toNat) x (30 + i)))))) := hD
                refine lv_iinc (v := (iz (x + 1))) (lv' := [(5, .int (iz (x + 1))), (0, .ref nt), (1, .int (iz i)), (2, .int (iz (M (i + 0).toNat (fF i)))), (3, .int (iz (M (i + 0).toNat (tT i)))), (4, .int (iz (((dD i) + (M (i + 13).toNat (fF i))) - (M (i + 13).toNat (tT i)))))]) hX_ hB_ dX3_join_182 hl (k := 5) rfl (iz_add _ _) (by decide) rfl (fun ls hl => ?_)
                refine lv_goto (tgt := 105) hX_ hB_ dX3_join_185 (by decide) ?_
                exact ih_105 (um Mq (i + 1 + 0).toNat (us (Mq (i + 1 + 0).toNat) x (30 + i))) (x + 1) (by omega) (by first | exact ji_n hJI (by omega) (by rw [eg]; omega) (by rw [eg]; omega) | exact ji_g hi.1 hJI (by omega) (by rw [eg]; omega) (by rw [eg]; omega) | (have q9 := ji_b hi.1 hJI (by omega) (by rw [eg]; omega); rw [eo] at q9; exact q9) | (exfalso; omega)) (by omega) _ _ hP hD hS ls (lv_sub hl [1, 2, 3, 4, 5, 0] rfl)
              · skip
                refine lv_aload_n hX_ hB_ dX3_join_154 rfl (lv_at hl 0 rfl) ?_
                refine va_get (D := G.1) (ci := 1) (v := .ref gr) (C := RX3) (T := TX3) (N := 13) hX_ hB_ hts hi_X3_join_X3 hown hK.1 hP 0 rfl rfl 9 (by decide) (hts _ hw_X3_join_5b42a7) (fun _ h9 => h9) rfl dX3_join_155 ?_
                refine lv_iload_n hX_ hB_ dX3_join_158 rfl (lv_at hl 1 rfl) ?_
                refine zk_rald hX_ hB_ hK.1 hP 5 rfl (by omega) (by decide) rfl dX3_join_159 ?_
                refine lv_iload hX_ hB_ dX3_join_160 (lv_at hl 5 rfl) ?_
                refine zk_pald (M := Mq) hX_ hB_ hK.1 hP 9 (i + 0).toNat rfl (by omega) (ln_lo (by omega)) (by omega) (by decide) dX3_join_162 ?_
                refine zk_topi (y := (iz (M (i + 0).toNat x))) (by first | rw [hJI.1 _ (by omega) (by omega), um_ne (by omega)] | rw [um_ne (by omega), hJI.1 _ (by omega) (by omega), um_ne (by omega)]) ?_
                refine lv_iload_n hX_ hB_ dX3_join_163 rfl (lv_at hl 3 rfl) ?_
                refine zk_icmp_ne (tgt := 182) hX_ hB_ (by omega) (by omega) dX3_join_164 (by decide) (fun c_164 => ?_) (fun c_164 => ?_)
                · skip
                  refine lv_iinc (v := (iz (x + 1))) (lv' := [(5, .int (iz (x + 1))), (0, .ref nt), (1, .int (iz i)), (2, .int (iz (M (i + 0).toNat (fF i)))), (3, .int (iz (M (i + 0).toNat (tT i)))), (4, .int (iz (((dD i) + (M (i + 13).toNat (fF i))) - (M (i + 13).toNat (tT i)))))]) hX_ hB_ dX3_join_182 hl (k := 5) rfl (iz_add _ _) (by decide) rfl (fun ls hl => ?_)
                  refine lv_goto (tgt := 105) hX_ hB_ dX3_join_185 (by decide) ?_
                  exact ih_105 Mq (x + 1) (by omega) (by first | exact ji_n hJI (by omega) (by rw [eg]; omega) (by rw [eg]; omega) | exact ji_g hi.1 hJI (by omega) (by rw [eg]; omega) (by rw [eg]; omega) | (have q9 := ji_b hi.1 hJI (by omega) (by rw [eg]; omega); rw [eo] at q9; exact q9) | (exfalso; omega)) (by omega) _ _ hP hD hS ls (lv_sub hl [1, 2, 3, 4, 5, 0] rfl)
                · skip
                  refine lv_aload_n hX_ hB_ dX3_join_167 rfl (lv_at hl 0 rfl) ?_
                  refine va_get (D := G.1) (ci := 1) (v := .ref gr) (C := RX3) (T := TX3) (N := 13) hX_ hB_ hts hi_X3_join_X3 hown hK.1 hP 0 rfl rfl 9 (by decide) (hts _ hw_X3_join_5b42a7) (fun _ h9 => h9) rfl dX3_join_168 ?_
                  refine lv_iload_n hX_ hB_ dX3_join_171 rfl (lv_at hl 1 rfl) ?_
                  refine zk_iconst hX_ hB_ dX3_join_172 ?_
                  refine zk_iadd hX_ hB_ dX3_join_173 ?_
                  refine zk_rald hX_ hB_ hK.1 hP 5 rfl (by omega) (by decide) rfl dX3_join_174 ?_
                  refine lv_iload hX_ hB_ dX3_join_175 (lv_at hl 5 rfl) ?_
                  refine zk_bipush hX_ hB_ (by decide) dX3_join_177 ?_
                  refine lv_iload_n hX_ hB_ dX3_join_179 rfl (lv_at hl 1 rfl) ?_
                  refine zk_iadd hX_ hB_ dX3_join_180 ?_
                  refine zk_past (M := Mq) hX_ hB_ hK.1 hP hD hS 9 (i + 1 + 0).toNat rfl (by omega) (ln_lo (by omega)) (by omega) (by decide) dX3_join_181 (fun H locs hP hD hS => ?_)
                  have hP : va_P G.1 vwCl (wpl [(nt, .inr (1, [.int (iz size), .int (iz mcn), .int (iz few), .int (iz wrg), .int (iz slv), .ref mem, .ref fr, .ref to_, .ref da, .ref gr, .ref of_, .ref jo, .ref jsA])), (mem, .inl (G.2 4, 30, .inr (.inr (.inr (.inr (rv mb)))))), (fr, .inl (G.2 0, 12, .inl (av fF))), (to_, .inl (G.2 0, 12, .inl (av tT))), (da, .inl (G.2 0, 12, .inl (av dD))), (gr, .inl (G.2 5, 13, .inr (.inr (.inr (.inr (rv (fun k_ => some (ad (k_ + 0).toNat)))))))), (of_, .inl (G.2 5, 13, .inr (.inr (.inr (.inr (rv (fun k_ => some (ad (k_ + 13).toNat)))))))), (jo, .inl (G.2 5, 12, .inr (.inr (.inr (.inr (rv (fun k_ => some (ad (k_ + 26).toNat)))))))), (jsA, .inl (G.2 0, 12, .inl (av (us js i n))))] (rows 38 ad (ctM G (um Mq (i + 1 + 0).toNat (us (Mq (i + 1 + 0).toNat) x (30 + i)))))) _ := hP
                  have hD : va_D A (wpl [(nt, .inr (1, [.int (iz size), .int (iz mcn), .int (iz few), .int (iz wrg), .int (iz slv), .ref mem, .ref fr, .ref to_, .ref da, .ref gr, .ref of_, .ref jo, .ref jsA])), (mem, .inl (G.2 4, 30, .inr (.inr (.inr (.inr (rv mb)))))), (fr, .inl (G.2 0, 12, .inl (av fF))), (to_, .inl (G.2 0, 12, .inl (av tT))), (da, .inl (G.2 0, 12, .inl (av dD))), (gr, .inl (G.2 5, 13, .inr (.inr (.inr (.inr (rv (fun k_ => some (ad (k_ + 0).toNat)))))))), (of_, .inl (G.2 5, 13, .inr (.inr (.inr (.inr (rv (fun k_ => some (ad (k_ + 13).toNat)))))))), (jo, .inl (G.2 5, 12, .inr (.inr (.inr (.inr (rv (fun k_ => some (ad (k_ + 26).toNat)))))))), (jsA, .inl (G.2 0, 12, .inl (av (us js i n))))] (rows 38 ad (ctM G (um Mq (i + 1 + 0).toNat (us (Mq (i + 1 + 0).toNat) x (30 + i)))))) := hD
                  refine lv_iinc (v := (iz (x + 1))) (lv' := [(5, .int (iz (x + 1))), (0, .ref nt), (1, .int (iz i)), (2, .int (iz (M (i + 0).toNat (fF i)))), (3, .int (iz (M (i + 0).toNat (tT i)))), (4, .int (iz (((dD i) + (M (i + 13).toNat (fF i))) - (M (i + 13).toNat (tT i)))))]) hX_ hB_ dX3_join_182 hl (k := 5) rfl (iz_add _ _) (by decide) rfl (fun ls hl => ?_)
                  refine lv_goto (tgt := 105) hX_ hB_ dX3_join_185 (by decide) ?_
                  exact ih_105 (um Mq (i + 1 + 0).toNat (us (Mq (i + 1 + 0).toNat) x (30 + i))) (x + 1) (by omega) (by first | exact ji_n hJI (by omega) (by rw [eg]; omega) (by rw [eg]; omega) | exact ji_g hi.1 hJI (by omega) (by rw [eg]; omega) (by rw [eg]; omega) | (have q9 := ji_b hi.1 hJI (by omega) (by rw [eg]; omega); rw [eo] at q9; exact q9) | (exfalso; omega)) (by omega) _ _ hP hD hS ls (lv_sub hl [1, 2, 3, 4, 5, 0] rfl)
            · skip
              refine lv_aload_n hX_ hB_ dX3_join_125 rfl (lv_at hl 0 rfl) ?_
              refine va_get (D := G.1) (ci := 1) (v := .ref of_) (C := RX3) (T := TX3) (N := 13) hX_ hB_ hts hi_X3_join_X3 hown hK.1 hP 0 rfl rfl 10 (by decide) (hts _ hw_X3_join_1dff87) (fun _ h9 => h9) rfl dX3_join_126 ?_
              refine lv_iload_n hX_ hB_ dX3_join_129 rfl (lv_at hl 1 rfl) ?_
              refine zk_iconst hX_ hB_ dX3_join_130 ?_
              refine zk_iadd hX_ hB_ dX3_join_131 ?_
              refine zk_rald hX_ hB_ hK.1 hP 6 rfl (by omega) (by decide) rfl dX3_join_132 ?_
              refine lv_iload hX_ hB_ dX3_join_133 (lv_at hl 5 rfl) ?_
              refine lv_dup2_11 hX_ hB_ dX3_join_135 rfl rfl ?_
              refine zk_pald (M := Mq) hX_ hB_ hK.1 hP 9 (i + 1 + 13).toNat rfl (by omega) (ln_lo (by omega)) (by omega) (by decide) dX3_join_136 ?_
              refine zk_topi (y := (iz (M (i + 13).toNat x))) (by rw [(hJI.2.2 x (by omega) (by omega) (by omega)).2, um_ne (by omega)]) ?_
              refine lv_iload hX_ hB_ dX3_join_137 (lv_at hl 4 rfl) ?_
              refine zk_iadd hX_ hB_ dX3_join_139 ?_
              refine zk_past (M := Mq) hX_ hB_ hK.1 hP hD hS 9 (i + 1 + 13).toNat rfl (by omega) (ln_lo (by omega)) (by omega) (by decide) dX3_join_140 (fun H locs hP hD hS => ?_)
              have hP : va_P G.1 vwCl (wpl [(nt, .inr (1, [.int (iz size), .int (iz mcn), .int (iz few), .int (iz wrg), .int (iz slv), .ref mem, .ref fr, .ref to_, .ref da, .ref gr, .ref of_, .ref jo, .ref jsA])), (mem, .inl (G.2 4, 30, .inr (.inr (.inr (.inr (rv mb)))))), (fr, .inl (G.2 0, 12, .inl (av fF))), (to_, .inl (G.2 0, 12, .inl (av tT))), (da, .inl (G.2 0, 12, .inl (av dD))), (gr, .inl (G.2 5, 13, .inr (.inr (.inr (.inr (rv (fun k_ => some (ad (k_ + 0).toNat)))))))), (of_, .inl (G.2 5, 13, .inr (.inr (.inr (.inr (rv (fun k_ => some (ad (k_ + 13).toNat)))))))), (jo, .inl (G.2 5, 12, .inr (.inr (.inr (.inr (rv (fun k_ => some (ad (k_ + 26).toNat)))))))), (jsA, .inl (G.2 0, 12, .inl (av (us js i n))))] (rows 38 ad (ctM G (um Mq (i + 1 + 13).toNat (us (Mq (i + 1 + 13).toNat) x ((M (i + 13).toNat x) + (((dD i) + (M (i + 13).toNat (fF i))) - (M (i + 13).toNat (tT i))))))))) _ := hP
              have hD : va_D A (wpl [(nt, .inr (1, [.int (iz size), .int (iz mcn), .int (iz few), .int (iz wrg), .int (iz slv), .ref mem, .ref fr, .ref to_, .ref da, .ref gr, .ref of_, .ref jo, .ref jsA])), (mem, .inl (G.2 4, 30, .inr (.inr (.inr (.inr (rv mb)))))), (fr, .inl (G.2 0, 12, .inl (av fF))), (to_, .inl (G.2 0, 12, .inl (av tT))), (da, .inl (G.2 0, 12, .inl (av dD))), (gr, .inl (G.2 5, 13, .inr (.inr (.inr (.inr (rv (fun k_ => some (ad (k_ + 0).toNat)))))))), (of_, .inl (G.2 5, 13, .inr (.inr (.inr (.inr (rv (fun k_ => some (ad (k_ + 13).toNat)))))))), (jo, .inl (G.2 5, 12, .inr (.inr (.inr (.inr (rv (fun k_ => some (ad (k_ + 26).toNat)))))))), (jsA, .inl (G.2 0, 12, .inl (av (us js i n))))] (rows 38 ad (ctM G (um Mq (i + 1 + 13).toNat (us (Mq (i + 1 + 13).toNat) x ((M (i + 13).toNat x) + (((dD i) + (M (i + 13).toNat (fF i))) - (M (i + 13).toNat (tT i))))))))) := hD
              refine lv_aload_n hX_ hB_ dX3_join_141 rfl (lv_at hl 0 rfl) ?_
              refine va_get (D := G.1) (ci := 1) (v := .ref gr) (C := RX3) (T := TX3) (N := 13) hX_ hB_ hts hi_X3_join_X3 hown hK.1 hP 0 rfl rfl 9 (by decide) (hts _ hw_X3_join_5b42a7) (fun _ h9 => h9) rfl dX3_join_142 ?_
              refine lv_iload_n hX_ hB_ dX3_join_145 rfl (lv_at hl 1 rfl) ?_
              refine zk_rald hX_ hB_ hK.1 hP 5 rfl (by omega) (by decide) rfl dX3_join_146 ?_
              refine lv_iload hX_ hB_ dX3_join_147 (lv_at hl 5 rfl) ?_
              refine zk_pald (M := um Mq (i + 1 + 13).toNat (us (Mq (i + 1 + 13).toNat) x ((M (i + 13).toNat x) + (((dD i) + (M (i + 13).toNat (fF i))) - (M (i + 13).toNat (tT i)))))) hX_ hB_ hK.1 hP 9 (i + 0).toNat rfl (by omega) (ln_lo (by omega)) (by omega) (by decide) dX3_join_149 ?_
              refine zk_topi (y := (iz (M (i + 0).toNat x))) (by first | rw [hJI.1 _ (by omega) (by omega), um_ne (by omega)] | rw [um_ne (by omega), hJI.1 _ (by omega) (by omega), um_ne (by omega)]) ?_
              refine lv_iload_n hX_ hB_ dX3_join_150 rfl (lv_at hl 2 rfl) ?_
              refine zk_icmp_eq (tgt := 167) hX_ hB_ (by omega) (by omega) dX3_join_151 (by decide) (fun c_151 => ?_) (fun c_151 => ?_)
              · skip
                refine lv_aload_n hX_ hB_ dX3_join_167 rfl (lv_at hl 0 rfl) ?_
                refine va_get (D := G.1) (ci := 1) (v := .ref gr) (C := RX3) (T := TX3) (N := 13) hX_ hB_ hts hi_X3_join_X3 hown hK.1 hP 0 rfl rfl 9 (by decide) (hts _ hw_X3_join_5b42a7) (fun _ h9 => h9) rfl dX3_join_168 ?_
                refine lv_iload_n hX_ hB_ dX3_join_171 rfl (lv_at hl 1 rfl) ?_
                refine zk_iconst hX_ hB_ dX3_join_172 ?_
                refine zk_iadd hX_ hB_ dX3_join_173 ?_
                refine zk_rald hX_ hB_ hK.1 hP 5 rfl (by omega) (by decide) rfl dX3_join_174 ?_
                refine lv_iload hX_ hB_ dX3_join_175 (lv_at hl 5 rfl) ?_
                refine zk_bipush hX_ hB_ (by decide) dX3_join_177 ?_
                refine lv_iload_n hX_ hB_ dX3_join_179 rfl (lv_at hl 1 rfl) ?_
                refine zk_iadd hX_ hB_ dX3_join_180 ?_
                refine zk_past (M := um Mq (i + 1 + 13).toNat (us (Mq (i + 1 + 13).toNat) x ((M (i + 13).toNat x) + (((dD i) + (M (i + 13).toNat (fF i))) - (M (i + 13).toNat (tT i)))))) hX_ hB_ hK.1 hP hD hS 9 (i + 1 + 0).toNat rfl (by omega) (ln_lo (by omega)) (by omega) (by decide) dX3_join_181 (fun H locs hP hD hS => ?_)
                have hP : va_P G.1 vwCl (wpl [(nt, .inr (1, [.int (iz size), .int (iz mcn), .int (iz few), .int (iz wrg), .int (iz slv), .ref mem, .ref fr, .ref to_, .ref da, .ref gr, .ref of_, .ref jo, .ref jsA])), (mem, .inl (G.2 4, 30, .inr (.inr (.inr (.inr (rv mb)))))), (fr, .inl (G.2 0, 12, .inl (av fF))), (to_, .inl (G.2 0, 12, .inl (av tT))), (da, .inl (G.2 0, 12, .inl (av dD))), (gr, .inl (G.2 5, 13, .inr (.inr (.inr (.inr (rv (fun k_ => some (ad (k_ + 0).toNat)))))))), (of_, .inl (G.2 5, 13, .inr (.inr (.inr (.inr (rv (fun k_ => some (ad (k_ + 13).toNat)))))))), (jo, .inl (G.2 5, 12, .inr (.inr (.inr (.inr (rv (fun k_ => some (ad (k_ + 26).toNat)))))))), (jsA, .inl (G.2 0, 12, .inl (av (us js i n))))] (rows 38 ad (ctM G (um (um Mq (i + 1 + 13).toNat (us (Mq (i + 1 + 13).toNat) x ((M (i + 13).toNat x) + (((dD i) + (M (i + 13).toNat (fF i))) - (M (i + 13).toNat (tT i)))))) (i + 1 + 0).toNat (us ((um Mq (i + 1 + 13).toNat (us (Mq (i + 1 + 13).toNat) x ((M (i + 13).toNat x) + (((dD i) + (M (i + 13).toNat (fF i))) - (M (i + 13).toNat (tT i)))))) (i + 1 + 0).toNat) x (30 + i)))))) _ := hP
                have hD : va_D A (wpl [(nt, .inr (1, [.int (iz size), .int (iz mcn), .int (iz few), .int (iz wrg), .int (iz slv), .ref mem, .ref fr, .ref to_, .ref da, .ref gr, .ref of_, .ref jo, .ref jsA])), (mem, .inl (G.2 4, 30, .inr (.inr (.inr (.inr (rv mb)))))), (fr, .inl (G.2 0, 12, .inl (av fF))), (to_, .inl (G.2 0, 12, .inl (av tT))), (da, .inl (G.2 0, 12, .inl (av dD))), (gr, .inl (G.2 5, 13, .inr (.inr (.inr (.inr (rv (fun k_ => some (ad (k_ + 0).toNat)))))))), (of_, .inl (G.2 5, 13, .inr (.inr (.inr (.inr (rv (fun k_ => some (ad (k_ + 13).toNat)))))))), (jo, .inl (G.2 5, 12, .inr (.inr (.inr (.inr (rv (fun k_ => some (ad (k_ + 26).toNat)))))))), (jsA, .inl (G.2 0, 12, .inl (av (us js i n))))] (rows 38 ad (ctM G (um (um Mq (i + 1 + 13).toNat (us (Mq (i + 1 + 13).toNat) x ((M (i + 13).toNat x) + (((dD i) + (M (i + 13).toNat (fF i))) - (M (i + 13).toNat (tT i)))))) (i + 1 + 0).toNat (us ((um Mq (i + 1 + 13).toNat (us (Mq (i + 1 + 13).toNat) x ((M (i + 13).toNat x) + (((dD i) + (M (i + 13).toNat (fF i))) - (M (i + 13).toNat (tT i)))))) (i + 1 + 0).toNat) x (30 + i)))))) := hD
                refine lv_iinc (v := (iz (x + 1))) (lv' := [(5, .int (iz (x + 1))), (0, .ref nt), (1, .int (iz i)), (2, .int (iz (M (i + 0).toNat (fF i)))), (3, .int (iz (M (i + 0).toNat (tT i)))), (4, .int (iz (((dD i) + (M (i + 13).toNat (fF i))) - (M (i + 13).toNat (tT i)))))]) hX_ hB_ dX3_join_182 hl (k := 5) rfl (iz_add _ _) (by decide) rfl (fun ls hl => ?_)
                refine lv_goto (tgt := 105) hX_ hB_ dX3_join_185 (by decide) ?_
                exact ih_105 (um (um Mq (i + 1 + 13).toNat (us (Mq (i + 1 + 13).toNat) x ((M (i + 13).toNat x) + (((dD i) + (M (i + 13).toNat (fF i))) - (M (i + 13).toNat (tT i)))))) (i + 1 + 0).toNat (us ((um Mq (i + 1 + 13).toNat (us (Mq (i + 1 + 13).toNat) x ((M (i + 13).toNat x) + (((dD i) + (M (i + 13).toNat (fF i))) - (M (i + 13).toNat (tT i)))))) (i + 1 + 0).toNat) x (30 + i))) (x + 1) (by omega) (by first | exact ji_n hJI (by omega) (by rw [eg]; omega) (by rw [eg]; omega) | exact ji_g hi.1 hJI (by omega) (by rw [eg]; omega) (by rw [eg]; omega) | (have q9 := ji_b hi.1 hJI (by omega) (by rw [eg]; omega); rw [eo] at q9; exact q9) | (exfalso; omega)) (by omega) _ _ hP hD hS ls (lv_sub hl [1, 2, 3, 4, 5, 0] rfl)
              · skip
                refine lv_aload_n hX_ hB_ dX3_join_154 rfl (lv_at hl 0 rfl) ?_
                refine va_get (D := G.1) (ci := 1) (v := .ref gr) (C := RX3) (T := TX3) (N := 13) hX_ hB_ hts hi_X3_join_X3 hown hK.1 hP 0 rfl rfl 9 (by decide) (hts _ hw_X3_join_5b42a7) (fun _ h9 => h9) rfl dX3_join_155 ?_
                refine lv_iload_n hX_ hB_ dX3_join_158 rfl (lv_at hl 1 rfl) ?_
                refine zk_rald hX_ hB_ hK.1 hP 5 rfl (by omega) (by decide) rfl dX3_join_159 ?_
                refine lv_iload hX_ hB_ dX3_join_160 (lv_at hl 5 rfl) ?_
                refine zk_pald (M := um Mq (i + 1 + 13).toNat (us (Mq (i + 1 + 13).toNat) x ((M (i + 13).toNat x) + (((dD i) + (M (i + 13).toNat (fF i))) - (M (i + 13).toNat (tT i)))))) hX_ hB_ hK.1 hP 9 (i + 0).toNat rfl (by omega) (ln_lo (by omega)) (by omega) (by decide) dX3_join_162 ?_
                refine zk_topi (y := (iz (M (i + 0).toNat x))) (by first | rw [hJI.1 _ (by omega) (by omega), um_ne (by omega)] | rw [um_ne (by omega), hJI.1 _ (by omega) (by omega), um_ne (by omega)]) ?_
                refine lv_iload_n hX_ hB_ dX3_join_163 rfl (lv_at hl 3 rfl) ?_
                refine zk_icmp_ne (tgt := 182) hX_ hB_ (by omega) (by omega) dX3_join_164 (by decide) (fun c_164 => ?_) (fun c_164 => ?_)
                · skip
                  refine lv_iinc (v := (iz (x + 1))) (lv' := [(5, .int (iz (x + 1))), (0, .ref nt), (1, .int (iz i)), (2, .int (iz (M (i + 0).toNat (fF i)))), (3, .int (iz (M (i + 0).toNat (tT i)))), (4, .int (iz (((dD i) + (M (i + 13).toNat (fF i))) - (M (i + 13).toNat (tT i)))))]) hX_ hB_ dX3_join_182 hl (k := 5) rfl (iz_add _ _) (by decide) rfl (fun ls hl => ?_)
                  refine lv_goto (tgt := 105) hX_ hB_ dX3_join_185 (by decide) ?_
                  exact ih_105 (um Mq (i + 1 + 13).toNat (us (Mq (i + 1 + 13).toNat) x ((M (i + 13).toNat x) + (((dD i) + (M (i + 13).toNat (fF i))) - (M (i + 13).toNat (tT i)))))) (x + 1) (by omega) (by first | exact ji_n hJI (by omega) (by rw [eg]; omega) (by rw [eg]; omega) | exact ji_g hi.1 hJI (by omega) (by rw [eg]; omega) (by rw [eg]; omega) | (have q9 := ji_b hi.1 hJI (by omega) (by rw [eg]; omega); rw [eo] at q9; exact q9) | (exfalso; omega)) (by omega) _ _ hP hD hS ls (lv_sub hl [1, 2, 3, 4, 5, 0] rfl)
                · skip
                  refine lv_aload_n hX_ hB_ dX3_join_167 rfl (lv_at hl 0 rfl) ?_
                  refine va_get (D := G.1) (ci := 1) (v := .ref gr) (C := RX3) (T := TX3) (N := 13) hX_ hB_ hts hi_X3_join_X3 hown hK.1 hP 0 rfl rfl 9 (by decide) (hts _ hw_X3_join_5b42a7) (fun _ h9 => h9) rfl dX3_join_168 ?_
                  refine lv_iload_n hX_ hB_ dX3_join_171 rfl (lv_at hl 1 rfl) ?_
                  refine zk_iconst hX_ hB_ dX3_join_172 ?_
                  refine zk_iadd hX_ hB_ dX3_join_173 ?_
                  refine zk_rald hX_ hB_ hK.1 hP 5 rfl (by omega) (by decide) rfl dX3_join_174 ?_
                  refine lv_iload hX_ hB_ dX3_join_175 (lv_at hl 5 rfl) ?_
                  refine zk_bipush hX_ hB_ (by decide) dX3_join_177 ?_
                  refine lv_iload_n hX_ hB_ dX3_join_179 rfl (lv_at hl 1 rfl) ?_
                  refine zk_iadd hX_ hB_ dX3_join_180 ?_
                  refine zk_past (M := um Mq (i + 1 + 13).toNat (us (Mq (i + 1 + 13).toNat) x ((M (i + 13).toNat x) + (((dD i) + (M (i + 13).toNat (fF i))) - (M (i + 13).toNat (tT i)))))) hX_ hB_ hK.1 hP hD hS 9 (i + 1 + 0).toNat rfl (by omega) (ln_lo (by omega)) (by omega) (by decide) dX3_join_181 (fun H locs hP hD hS => ?_)
                  have hP : va_P G.1 vwCl (wpl [(nt, .inr (1, [.int (iz size), .int (iz mcn), .int (iz few), .int (iz wrg), .int (iz slv), .ref mem, .ref fr, .ref to_, .ref da, .ref gr, .ref of_, .ref jo, .ref jsA])), (mem, .inl (G.2 4, 30, .inr (.inr (.inr (.inr (rv mb)))))), (fr, .inl (G.2 0, 12, .inl (av fF))), (to_, .inl (G.2 0, 12, .inl (av tT))), (da, .inl (G.2 0, 12, .inl (av dD))), (gr, .inl (G.2 5, 13, .inr (.inr (.inr (.inr (rv (fun k_ => some (ad (k_ + 0).toNat)))))))), (of_, .inl (G.2 5, 13, .inr (.inr (.inr (.inr (rv (fun k_ => some (ad (k_ + 13).toNat)))))))), (jo, .inl (G.2 5, 12, .inr (.inr (.inr (.inr (rv (fun k_ => some (ad (k_ + 26).toNat)))))))), (jsA, .inl (G.2 0, 12, .inl (av (us js i n))))] (rows 38 ad (ctM G (um (um Mq (i + 1 + 13).toNat (us (Mq (i + 1 + 13).toNat) x ((M (i + 13).toNat x) + (((dD i) + (M (i + 13).toNat (fF i))) - (M (i + 13).toNat (tT i)))))) (i + 1 + 0).toNat (us ((um Mq (i + 1 + 13).toNat (us (Mq (i + 1 + 13).toNat) x ((M (i + 13).toNat x) + (((dD i) + (M (i + 13).toNat (fF i))) - (M (i + 13).toNat (tT i)))))) (i + 1 + 0).toNat) x (30 + i)))))) _ := hP
                  have hD : va_D A (wpl [(nt, .inr (1, [.int (iz size), .int (iz mcn), .int (iz few), .int (iz wrg), .int (iz slv), .ref mem, .ref fr, .ref to_, .ref da, .ref gr, .ref of_, .ref jo, .ref jsA])), (mem, .inl (G.2 4, 30, .inr (.inr (.inr (.inr (rv mb)))))), (fr, .inl (G.2 0, 12, .inl (av fF))), (to_, .inl (G.2 0, 12, .inl (av tT))), (da, .inl (G.2 0, 12, .inl (av dD))), (gr, .inl (G.2 5, 13, .inr (.inr (.inr (.inr (rv (fun k_ => some (ad (k_ + 0).toNat)))))))), (of_, .inl (G.2 5, 13, .inr (.inr (.inr (.inr (rv (fun k_ => some (ad (k_ + 13).toNat)))))))), (jo, .inl (G.2 5, 12, .inr (.inr (.inr (.inr (rv (fun k_ => some (ad (k_ + 26).toNat)))))))), (jsA, .inl (G.2 0, 12, .inl (av (us js i n))))] (rows 38 ad (ctM G (um (um Mq (i + 1 + 13).toNat (us (Mq (i + 1 + 13).toNat) x ((M (i + 13).toNat x) + (((dD i) + (M (i + 13).toNat (fF i))) - (M (i + 13).toNat (tT i)))))) (i + 1 + 0).toNat (us ((um Mq (i + 1 + 13).toNat (us (Mq (i + 1 + 13).toNat) x ((M (i + 13).toNat x) + (((dD i) + (M (i + 13).toNat (fF i))) - (M (i + 13).toNat (tT i)))))) (i + 1 + 0).toNat) x (30 + i)))))) := hD
                  refine lv_iinc (v := (iz (x + 1))) (lv' := [(5, .int (iz (x + 1))), (0, .ref nt), (1, .int (iz i)), (2, .int (iz (M (i + 0).toNat (fF i)))), (3, .int (iz (M (i + 0).toNat (tT i)))), (4, .int (iz (((dD i) + (M (i + 13).toNat (fF i))) - (M (i + 13).toNat (tT i)))))]) hX_ hB_ dX3_join_182 hl (k := 5) rfl (iz_add _ _) (by decide) rfl (fun ls hl => ?_)
                  refine lv_goto (tgt := 105) hX_ hB_ dX3_join_185 (by decide) ?_
                  exact ih_105 (um (um Mq (i + 1 + 13).toNat (us (Mq (i + 1 + 13).toNat) x ((M (i + 13).toNat x) + (((dD i) + (M (i + 13).toNat (fF i))) - (M (i + 13).toNat (tT i)))))) (i + 1 + 0).toNat (us ((um Mq (i + 1 + 13).toNat (us (Mq (i + 1 + 13).toNat) x ((M (i + 13).toNat x) + (((dD i) + (M (i + 13).toNat (fF i))) - (M (i + 13).toNat (tT i)))))) (i + 1 + 0).toNat) x (30 + i))) (x + 1) (by omega) (by first | exact ji_n hJI (by omega) (by rw [eg]; omega) (by rw [eg]; omega) | exact ji_g hi.1 hJI (by omega) (by rw [eg]; omega) (by rw [eg]; omega) | (have q9 := ji_b hi.1 hJI (by omega) (by rw [eg]; omega); rw [eo] at q9; exact q9) | (exfalso; omega)) (by omega) _ _ hP hD hS ls (lv_sub hl [1, 2, 3, 4, 5, 0] rfl)
      exact loop_105 _ (psM (um M (i + 26).toNat rr) i) 0 (by omega) (by exact ji_0 hi.1) (Nat.lt_succ_self _) _ _ hP hD hS ls (lv_sub hl [4, 5, 3, 2, 1, 0] rfl)
    · skip
      refine zk_iconst hX_ hB_ dX3_join_95 ?_
      exact fin_i (wf := (fun u : Int × (Nat → Int → Int) × (Int → Int) => match u with | (h, Mo, jo_) => (wpl [(nt, .inr (1, [.int (iz size), .int (iz mcn), .int (iz few), .int (iz wrg), .int (iz slv), .ref mem, .ref fr, .ref to_, .ref da, .ref gr, .ref of_, .ref jo, .ref jsA])), (mem, .inl (G.2 4, 30, .inr (.inr (.inr (.inr (rv mb)))))), (fr, .inl (G.2 0, 12, .inl (av fF))), (to_, .inl (G.2 0, 12, .inl (av tT))), (da, .inl (G.2 0, 12, .inl (av dD))), (gr, .inl (G.2 5, 13, .inr (.inr (.inr (.inr (rv (fun k_ => some (ad (k_ + 0).toNat)))))))), (of_, .inl (G.2 5, 13, .inr (.inr (.inr (.inr (rv (fun k_ => some (ad (k_ + 13).toNat)))))))), (jo, .inl (G.2 5, 12, .inr (.inr (.inr (.inr (rv (fun k_ => some (ad (k_ + 26).toNat)))))))), (jsA, .inl (G.2 0, 12, .inl (av jo_)))] (rows 38 ad (ctM G Mo))))) (0, (um M (i + 26).toNat rr), us js i n) F rfl hP hD hK hS (by decide) (by decide) dX3_join_96 (by exact ⟨rfl, Or.inl ⟨rfl, Or.inr ⟨by omega, fun v q => (fun ⟨j, q1, q2, _⟩ => absurd (of_decide_eq_false c_92) (by omega)) ((hw_89.2.2 v).2 q)⟩, fun _ q => um_ne q, fun _ q => us_ne q⟩⟩)
  · skip
    refine lv_iload hX_ hB_ dX3_join_69 (lv_at hl 0 rfl) ?_
    refine zk_if_eq (tgt := 76) hX_ hB_ (by omega) dX3_join_71 (by decide) (fun c_71 => ?_) (fun c_71 => ?_)
    · skip
      refine lv_aload_n hX_ hB_ dX3_join_76 rfl (lv_at hl 3 rfl) ?_
      refine lv_iload_n hX_ hB_ dX3_join_77 rfl (lv_at hl 4 rfl) ?_
      refine backA_v (run_V (As := [.int (iz i)]) (rest := []) (wc := (wpl [(nt, .inr (1, [.int (iz size), .int (iz mcn), .int (iz few), .int (iz wrg), .int (iz slv), .ref mem, .ref fr, .ref to_, .ref da, .ref gr, .ref of_, .ref jo, .ref jsA])), (mem, .inl (G.2 4, 30, .inr (.inr (.inr (.inr (rv mb)))))), (fr, .inl (G.2 0, 12, .inl (av fF))), (to_, .inl (G.2 0, 12, .inl (av tT))), (da, .inl (G.2 0, 12, .inl (av dD))), (gr, .inl (G.2 5, 13, .inr (.inr (.inr (.inr (rv (fun k_ => some (ad (k_ + 0).toNat)))))))), (of_, .inl (G.2 5, 13, .inr (.inr (.inr (.inr (rv (fun k_ => some (ad (k_ + 13).toNat)))))))), (jo, .inl (G.2 5, 12, .inr (.inr (.inr (.inr (rv (fun k_ => some (ad (k_ + 26).toNat)))))))), (jsA, .inl (G.2 0, 12, .inl (av js)))] (rows 38 ad (ctM G M)))) F (c_X3_pass l G nt mem fr to_ da gr of_ jo jsA ad mb fF tT dD js M size mcn few wrg slv i (by omega) _) ext0 gX3_join_X3_pass rfl rfl rfl mdv_X3_pass ⟨Nat.le_of_ble_eq_true rfl, Nat.le_of_ble_eq_true rfl⟩ (va_recv hK.1 hP (ci := 1) (q0 := 0) rfl rfl) (preA ext0 hK hP hD hS hA trivial _) rfl hl.1 (Nat.le_of_ble_eq_true rfl) dX3_join_78 ⟨by decide, by decide⟩) hD hS hA (fun u__ H locs hw hP hD hS => ?_)
      have hw_78 := hw
      have hP : va_P G.1 vwCl (wpl [(nt, .inr (1, [.int (iz size), .int (iz mcn), .int (iz few), .int (iz wrg), .int (iz slv), .ref mem, .ref fr, .ref to_, .ref da, .ref gr, .ref of_, .ref jo, .ref jsA])), (mem, .inl (G.2 4, 30, .inr (.inr (.inr (.inr (rv mb)))))), (fr, .inl (G.2 0, 12, .inl (av fF))), (to_, .inl (G.2 0, 12, .inl (av tT))), (da, .inl (G.2 0, 12, .inl (av dD))), (gr, .inl (G.2 5, 13, .inr (.inr (.inr (.inr (rv (fun k_ => some (ad (k_ + 0).toNat)))))))), (of_, .inl (G.2 5, 13, .inr (.inr (.inr (.inr (rv (fun k_ => some (ad (k_ + 13).toNat)))))))), (jo, .inl (G.2 5, 12, .inr (.inr (.inr (.inr (rv (fun k_ => some (ad (k_ + 26).toNat)))))))), (jsA, .inl (G.2 0, 12, .inl (av js)))] (rows 38 ad (ctM G (psM M i)))) _ := hP
      have hD : va_D A (wpl [(nt, .inr (1, [.int (iz size), .int (iz mcn), .int (iz few), .int (iz wrg), .int (iz slv), .ref mem, .ref fr, .ref to_, .ref da, .ref gr, .ref of_, .ref jo, .ref jsA])), (mem, .inl (G.2 4, 30, .inr (.inr (.inr (.inr (rv mb)))))), (fr, .inl (G.2 0, 12, .inl (av fF))), (to_, .inl (G.2 0, 12, .inl (av tT))), (da, .inl (G.2 0, 12, .inl (av dD))), (gr, .inl (G.2 5, 13, .inr (.inr (.inr (.inr (rv (fun k_ => some (ad (k_ + 0).toNat)))))))), (of_, .inl (G.2 5, 13, .inr (.inr (.inr (.inr (rv (fun k_ => some (ad (k_ + 13).toNat)))))))), (jo, .inl (G.2 5, 12, .inr (.inr (.inr (.inr (rv (fun k_ => some (ad (k_ + 26).toNat)))))))), (jsA, .inl (G.2 0, 12, .inl (av js)))] (rows 38 ad (ctM G (psM M i)))) := hD
      refine zk_iconst hX_ hB_ dX3_join_81 ?_
      exact fin_i (wf := (fun u : Int × (Nat → Int → Int) × (Int → Int) => match u with | (h, Mo, jo_) => (wpl [(nt, .inr (1, [.int (iz size), .int (iz mcn), .int (iz few), .int (iz wrg), .int (iz slv), .ref mem, .ref fr, .ref to_, .ref da, .ref gr, .ref of_, .ref jo, .ref jsA])), (mem, .inl (G.2 4, 30, .inr (.inr (.inr (.inr (rv mb)))))), (fr, .inl (G.2 0, 12, .inl (av fF))), (to_, .inl (G.2 0, 12, .inl (av tT))), (da, .inl (G.2 0, 12, .inl (av dD))), (gr, .inl (G.2 5, 13, .inr (.inr (.inr (.inr (rv (fun k_ => some (ad (k_ + 0).toNat)))))))), (of_, .inl (G.2 5, 13, .inr (.inr (.inr (.inr (rv (fun k_ => some (ad (k_ + 13).toNat)))))))), (jo, .inl (G.2 5, 12, .inr (.inr (.inr (.inr (rv (fun k_ => some (ad (k_ + 26).toNat)))))))), (jsA, .inl (G.2 0, 12, .inl (av jo_)))] (rows 38 ad (ctM G Mo))))) (2, psM M i, js) F rfl hP hD hK hS (by decide) (by decide) dX3_join_82 (by exact ⟨rfl, Or.inr (Or.inl ⟨rfl, by omega, by omega, rfl, rfl⟩)⟩)
    · skip
      refine zk_iconst hX_ hB_ dX3_join_74 ?_
      exact fin_i (wf := (fun u : Int × (Nat → Int → Int) × (Int → Int) => match u with | (h, Mo, jo_) => (wpl [(nt, .inr (1, [.int (iz size), .int (iz mcn), .int (iz few), .int (iz wrg), .int (iz slv), .ref mem, .ref fr, .ref to_, .ref da, .ref gr, .ref of_, .ref jo, .ref jsA])), (mem, .inl (G.2 4, 30, .inr (.inr (.inr (.inr (rv mb)))))), (fr, .inl (G.2 0, 12, .inl (av fF))), (to_, .inl (G.2 0, 12, .inl (av tT))), (da, .inl (G.2 0, 12, .inl (av dD))), (gr, .inl (G.2 5, 13, .inr (.inr (.inr (.inr (rv (fun k_ => some (ad (k_ + 0).toNat)))))))), (of_, .inl (G.2 5, 13, .inr (.inr (.inr (.inr (rv (fun k_ => some (ad (k_ + 13).toNat)))))))), (jo, .inl (G.2 5, 12, .inr (.inr (.inr (.inr (rv (fun k_ => some (ad (k_ + 26).toNat)))))))), (jsA, .inl (G.2 0, 12, .inl (av jo_)))] (rows 38 ad (ctM G Mo))))) (0, M, js) F rfl hP hD hK hS (by decide) (by decide) dX3_join_75 (by exact ⟨rfl, Or.inl ⟨rfl, Or.inl ⟨by omega, by omega⟩, fun _ _ => rfl, fun _ _ => rfl⟩⟩)
