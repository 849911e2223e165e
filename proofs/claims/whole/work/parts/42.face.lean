theorem mds_X0_has : yX0_has.cls ≠ "java/lang/invoke/MethodHandle" ∧ yX0_has.cls ≠ "java/lang/invoke/VarHandle" ∧ (parseMethodDescriptor yX0_has.desc).map (fun d => d.parameters.length) = some 1 := by decide +kernel
theorem tk_X8_checkDay_54 : Cond.classLink RX8 54 "java/lang/IllegalArgumentException" ∈ wsX8_checkDay := by decide +kernel
theorem ti_X8_checkDay_54 : Cond.initialized "java/lang/IllegalArgumentException" ∈ wsX8_checkDay := by decide +kernel
theorem tg_X8_checkDay_58 : ∀ w ∈ (vx_atS RX8 58 "java/lang/IllegalArgumentException" supN).filter goodWord, w ∈ wsX8_checkDay := by decide +kernel
theorem tf_58 : Bundle.fit "java/lang/IllegalArgumentException" = true ∧ ∀ n ∈ supN, Bundle.fit n = true := by decide +kernel
theorem to_54_58 : ∀ w ∈ Cond.classLink RX8 54 "java/lang/IllegalArgumentException" :: Cond.initialized "java/lang/IllegalArgumentException" :: vx_atS RX8 58 "java/lang/IllegalArgumentException" supN, vx_ot w = true := by decide +kernel
set_option maxHeartbeats 4000000 in
set_option maxRecDepth 100000 in
theorem c_X8_checkDay (l : Launch) (G : GG) (hl0 : l.stackTraces = false) (ga : Nat → Nat) (h : Nat) (d : Int) (hd : R31 d) : Xc l yX8_checkDay wsX8_checkDay ({ frames := 6, cells := 1, slots := 6, locals := 90 }) G (ThE ga) [.ref h, .int (iz d)] [] 1 6 (Qkv G (fun _ : Unit => []) (fun (_ : Unit) => isDay d = true)) (fun En : String => isDay d = false ∧ En = "java/lang/IllegalArgumentException") := by
  refine Xc_intro (cc := cX8_checkDay) (maxL := 2) (ret := none) (by decide) rfl (Nat.le_of_ble_eq_true rfl) ?_
  intro p e s m below meth c A F htb hA hP hD hK hE ls hl
  have hX_ := F.1
  have hB_ := F.2.1
  have hts := F.2.2.2.2.2.1
  have hown := F.2.2.2.2.1
  have hml := F.2.2.2.1
  have hS : va_S A s.heap s.heap [] := va_S.rf
  have hl : lv_has ls 2 [(0, .ref h), (1, .int (iz d))] := hl
  refine lv_iload_n hX_ hB_ dX8_checkDay_0 rfl (lv_at hl 1 rfl) ?_
  refine back_i (wr := []) (run_S (As := [.int (iz d)]) (rest := []) (wc := []) F (c_X0_has l G d (by omega) _) ext0 gX8_checkDay_X0_has rfl rfl rfl mds_X0_has ⟨Nat.le_of_ble_eq_true rfl, Nat.le_of_ble_eq_true rfl⟩ (pre_of ext0 hK hP hD hS hA trivial [] (by decide) rfl _) rfl hl.1 (Nat.le_of_ble_eq_true rfl) dX8_checkDay_1 ⟨by decide, by decide⟩) hP hD hS hA [] [] rfl rfl (by decide) (by decide) (fun r__ u__ H locs hw hP hD hS => ?_)
  subst hw
  have hP := hP.sub (ws' := []) [] rfl
  have hD := hD.sub (ws' := []) [] (by decide) rfl
  refine zk_bif_ne (tgt := 17) hX_ hB_ dX8_checkDay_4 (by decide) (fun c_4 => ?_) (fun c_4 => ?_)
  · skip
    refine vx_ret ?_
    exact fin_v (wf := (fun _ : Unit => [])) () F hP hD hK hS (by decide) (by decide) dX8_checkDay_17 (by exact c_4)
  · skip
    exact xthrow (ga := ga) (cls := "java/lang/IllegalArgumentException") (text := "no such day") hl0 F rfl htb hE (by decide) (by decide) tk_X8_checkDay_54 ti_X8_checkDay_54 tg_X8_checkDay_58 tf_58 to_54_58 hP hD hK hS hl.1 (by exact ⟨c_4, rfl⟩) dX8_checkDay_7 dX8_checkDay_10 dX8_checkDay_11 dX8_checkDay_13 dX8_checkDay_16 (by decide) (Nat.le_of_ble_eq_true rfl) (by decide) (by decide) (by decide) (by decide)

theorem tk_X8_checkTown_204 : Cond.classLink RX8 204 "java/lang/IndexOutOfBoundsException" ∈ wsX8_checkTown := by decide +kernel
theorem ti_X8_checkTown_204 : Cond.initialized "java/lang/IndexOutOfBoundsException" ∈ wsX8_checkTown := by decide +kernel
theorem tg_X8_checkTown_208 : ∀ w ∈ (vx_atS RX8 208 "java/lang/IndexOutOfBoundsException" supN).filter goodWord, w ∈ wsX8_checkTown := by decide +kernel
theorem tf_208 : Bundle.fit "java/lang/IndexOutOfBoundsException" = true ∧ ∀ n ∈ supN, Bundle.fit n = true := by decide +kernel
theorem to_204_208 : ∀ w ∈ Cond.classLink RX8 204 "java/lang/IndexOutOfBoundsException" :: Cond.initialized "java/lang/IndexOutOfBoundsException" :: vx_atS RX8 208 "java/lang/IndexOutOfBoundsException" supN, vx_ot w = true := by decide +kernel
theorem hw_X8_checkTown_ccd203 : (.fieldLink RX8 47 "StoneDates" "townCount" "I" : Cond) ∈ wsX8_checkTown := by decide +kernel
theorem hi_X8_checkTown_X8 : ∀ w ∈ u_ws RX8 TX8 8, w ∈ wsX8_checkTown := by decide +kernel
set_option maxHeartbeats 4000000 in
set_option maxRecDepth 100000 in
theorem c_X8_checkTown (l : Launch) (G : GG) (hl0 : l.stackTraces = false) (ga : Nat → Nat) (h : Nat) (bA : Nat) (stA : Nat) (rd_ : Nat) (fi : Nat) (ne : Nat) (ks : Nat) (tc : Int) (sc : Int) (k : Int) (hk : R31 k) (ht : 0 ≤ tc ∧ tc ≤ 10) : Xc l yX8_checkTown wsX8_checkTown ({ frames := 6, cells := 1, slots := 6, locals := 90 }) G (ThE ga) [.ref h, .int (iz k)] [(h, .inr (6, [.ref bA, .ref stA, .ref rd_, .ref fi, .ref ne, .ref ks, .int (iz tc), .int (iz sc)]))] 1 6 (Qkv G (fun _ : Unit => [(h, .inr (6, [.ref bA, .ref stA, .ref rd_, .ref fi, .ref ne, .ref ks, .int (iz tc), .int (iz sc)]))]) (fun (_ : Unit) => 0 ≤ k ∧ k < tc)) (fun En : String => ¬ (0 ≤ k ∧ k < tc) ∧ En = "java/lang/IndexOutOfBoundsException") := by
  refine Xc_intro (cc := cX8_checkTown) (maxL := 2) (ret := none) (by decide) rfl (Nat.le_of_ble_eq_true rfl) ?_
  intro p e s m below meth c A F htb hA hP hD hK hE ls hl
  have hX_ := F.1
  have hB_ := F.2.1
  have hts := F.2.2.2.2.2.1
  have hown := F.2.2.2.2.1
  have hml := F.2.2.2.1
  have hS : va_S A s.heap s.heap [] := va_S.rf
  have hl : lv_has ls 2 [(0, .ref h), (1, .int (iz k))] := hl
  refine lv_iload_n hX_ hB_ dX8_checkTown_0 rfl (lv_at hl 1 rfl) ?_
  refine zk_if_lt (tgt := 12) hX_ hB_ (by omega) dX8_checkTown_1 (by decide) (fun c_1 => ?_) (fun c_1 => ?_)
  · skip
    exact xthrow (ga := ga) (cls := "java/lang/IndexOutOfBoundsException") (text := "no such town") hl0 F rfl htb hE (by decide) (by decide) tk_X8_checkTown_204 ti_X8_checkTown_204 tg_X8_checkTown_208 tf_208 to_204_208 hP hD hK hS hl.1 (by exact ⟨by omega, rfl⟩) dX8_checkTown_12 dX8_checkTown_15 dX8_checkTown_16 dX8_checkTown_18 dX8_checkTown_21 (by decide) (Nat.le_of_ble_eq_true rfl) (by decide) (by decide) (by decide) (by decide)
  · skip
    refine lv_iload_n hX_ hB_ dX8_checkTown_4 rfl (lv_at hl 1 rfl) ?_
    refine lv_aload_n hX_ hB_ dX8_checkTown_5 rfl (lv_at hl 0 rfl) ?_
    refine va_get (D := G.1) (ci := 6) (v := .int (iz tc)) (C := RX8) (T := TX8) (N := 8) hX_ hB_ hts hi_X8_checkTown_X8 hown hK.1 hP 0 rfl rfl 6 (by decide) (hts _ hw_X8_checkTown_ccd203) (fun _ h9 => h9) rfl dX8_checkTown_6 ?_
    refine zk_icmp_lt (tgt := 22) hX_ hB_ (by omega) (by omega) dX8_checkTown_9 (by decide) (fun c_9 => ?_) (fun c_9 => ?_)
    · skip
      refine vx_ret ?_
      exact fin_v (wf := (fun _ : Unit => [(h, .inr (6, [.ref bA, .ref stA, .ref rd_, .ref fi, .ref ne, .ref ks, .int (iz tc), .int (iz sc)]))])) () F hP hD hK hS (by decide) (by decide) dX8_checkTown_22 (by omega)
    · skip
      exact xthrow (ga := ga) (cls := "java/lang/IndexOutOfBoundsException") (text := "no such town") hl0 F rfl htb hE (by decide) (by decide) tk_X8_checkTown_204 ti_X8_checkTown_204 tg_X8_checkTown_208 tf_208 to_204_208 hP hD hK hS hl.1 (by exact ⟨by omega, rfl⟩) dX8_checkTown_12 dX8_checkTown_15 dX8_checkTown_16 dX8_checkTown_18 dX8_checkTown_21 (by decide) (Nat.le_of_ble_eq_true rfl) (by decide) (by decide) (by decide) (by decide)

theorem tk_X8_town_54 : Cond.classLink RX8 54 "java/lang/IllegalArgumentException" ∈ wsX8_town := by decide +kernel
theorem ti_X8_town_54 : Cond.initialized "java/lang/IllegalArgumentException" ∈ wsX8_town := by decide +kernel
theorem tg_X8_town_58 : ∀ w ∈ (vx_atS RX8 58 "java/lang/IllegalArgumentException" supN).filter goodWord, w ∈ wsX8_town := by decide +kernel
theorem hw_X8_town_ccd203 : (.fieldLink RX8 47 "StoneDates" "townCount" "I" : Cond) ∈ wsX8_town := by decide +kernel
theorem hi_X8_town_X8 : ∀ w ∈ u_ws RX8 TX8 8, w ∈ wsX8_town := by decide +kernel
theorem hw_X8_town_8a9af3 : (.fieldLink RX8 9 "StoneDates" "bases" "[I" : Cond) ∈ wsX8_town := by decide +kernel
theorem tk_X8_town_61 : Cond.classLink RX8 61 "java/lang/IllegalStateException" ∈ wsX8_town := by decide +kernel
theorem ti_X8_town_61 : Cond.initialized "java/lang/IllegalStateException" ∈ wsX8_town := by decide +kernel
theorem tg_X8_town_65 : ∀ w ∈ (vx_atS RX8 65 "java/lang/IllegalStateException" supN).filter goodWord, w ∈ wsX8_town := by decide +kernel
theorem tf_65 : Bundle.fit "java/lang/IllegalStateException" = true ∧ ∀ n ∈ supN, Bundle.fit n = true := by decide +kernel
theorem to_61_65 : ∀ w ∈ Cond.classLink RX8 61 "java/lang/IllegalStateException" :: Cond.initialized "java/lang/IllegalStateException" :: vx_atS RX8 65 "java/lang/IllegalStateException" supN, vx_ot w = true := by decide +kernel
set_option maxHeartbeats 4000000 in
set_option maxRecDepth 100000 in
theorem c_X8_town (l : Launch) (G : GG) (hl0 : l.stackTraces = false) (ga : Nat → Nat) (h : Nat) (bA : Nat) (stA : Nat) (rd_ : Nat) (fi : Nat) (ne : Nat) (ks : Nat) (tc : Int) (sc : Int) (bs : Int → Int) (b : Int) (hb0 : R31 b) (ht : 0 ≤ tc ∧ tc ≤ 10) : Xc l yX8_town wsX8_town ({ frames := 6, cells := 1, slots := 6, locals := 90 }) G (ThE ga) [.ref h, .int (iz b)] [(h, .inr (6, [.ref bA, .ref stA, .ref rd_, .ref fi, .ref ne, .ref ks, .int (iz tc), .int (iz sc)])), (bA, .inl (G.2 0, 10, .inl (av bs)))] 1 6 (Qki G (fun _ : Unit => [(h, .inr (6, [.ref bA, .ref stA, .ref rd_, .ref fi, .ref ne, .ref ks, .int (iz (tc + 1)), .int (iz sc)])), (bA, .inl (G.2 0, 10, .inl (av (us bs tc b))))]) (fun (r : Int32) (_ : Unit) => (r = (iz tc)) ∧ ((0 ≤ b ∧ b < 4400) ∧ tc < 10))) (fun En : String => (¬ (0 ≤ b ∧ b < 4400) ∧ En = "java/lang/IllegalArgumentException") ∨ ((0 ≤ b ∧ b < 4400) ∧ tc = 10 ∧ En = "java/lang/IllegalStateException")) := by
  refine Xc_intro (cc := cX8_town) (maxL := 2) (ret := (some .int)) (by decide) rfl (Nat.le_of_ble_eq_true rfl) ?_
  intro p e s m below meth c A F htb hA hP hD hK hE ls hl
  have hX_ := F.1
  have hB_ := F.2.1
  have hts := F.2.2.2.2.2.1
  have hown := F.2.2.2.2.1
  have hml := F.2.2.2.1
  have hS : va_S A s.heap s.heap [] := va_S.rf
  have hl : lv_has ls 2 [(0, .ref h), (1, .int (iz b))] := hl
  refine lv_iload_n hX_ hB_ dX8_town_0 rfl (lv_at hl 1 rfl) ?_
  refine zk_if_lt (tgt := 11) hX_ hB_ (by omega) dX8_town_1 (by decide) (fun c_1 => ?_) (fun c_1 => ?_)
  · skip
    exact xthrow (ga := ga) (cls := "java/lang/IllegalArgumentException") (text := "no such base") hl0 F rfl htb hE (by decide) (by decide) tk_X8_town_54 ti_X8_town_54 tg_X8_town_58 tf_58 to_54_58 hP hD hK hS hl.1 (by exact Or.inl ⟨by omega, rfl⟩) dX8_town_11 dX8_town_14 dX8_town_15 dX8_town_17 dX8_town_20 (by decide) (Nat.le_of_ble_eq_true rfl) (by decide) (by decide) (by decide) (by decide)
  · skip
    refine lv_iload_n hX_ hB_ dX8_town_4 rfl (lv_at hl 1 rfl) ?_
    refine zk_sipush hX_ hB_ (by decide) dX8_town_5 ?_
    refine zk_icmp_lt (tgt := 21) hX_ hB_ (by omega) (by omega) dX8_town_8 (by decide) (fun c_8 => ?_) (fun c_8 => ?_)
    · skip
      refine lv_aload_n hX_ hB_ dX8_town_21 rfl (lv_at hl 0 rfl) ?_
      refine va_get (D := G.1) (ci := 6) (v := .int (iz tc)) (C := RX8) (T := TX8) (N := 8) hX_ hB_ hts hi_X8_town_X8 hown hK.1 hP 0 rfl rfl 6 (by decide) (hts _ hw_X8_town_ccd203) (fun _ h9 => h9) rfl dX8_town_22 ?_
      refine zk_bipush hX_ hB_ (by decide) dX8_town_25 ?_
      refine zk_icmp_lt (tgt := 40) hX_ hB_ (by omega) (by omega) dX8_town_27 (by decide) (fun c_27 => ?_) (fun c_27 => ?_)
      · skip
        refine lv_aload_n hX_ hB_ dX8_town_40 rfl (lv_at hl 0 rfl) ?_
        refine va_get (D := G.1) (ci := 6) (v := .ref bA) (C := RX8) (T := TX8) (N := 8) hX_ hB_ hts hi_X8_town_X8 hown hK.1 hP 0 rfl rfl 0 (by decide) (hts _ hw_X8_town_8a9af3) (fun _ h9 => h9) rfl dX8_town_41 ?_
        refine lv_aload_n hX_ hB_ dX8_town_44 rfl (lv_at hl 0 rfl) ?_
        refine va_get (D := G.1) (ci := 6) (v := .int (iz tc)) (C := RX8) (T := TX8) (N := 8) hX_ hB_ hts hi_X8_town_X8 hown hK.1 hP 0 rfl rfl 6 (by decide) (hts _ hw_X8_town_ccd203) (fun _ h9 => h9) rfl dX8_town_45 ?_
        refine lv_iload_n hX_ hB_ dX8_town_48 rfl (lv_at hl 1 rfl) ?_
        refine zk_iast hX_ hB_ hK.1 hP hD hS 1 0 rfl rfl (by omega) (by decide) dX8_town_49 (fun H locs hP hD hS => ?_)
        have hP : va_P G.1 vwCl [(h, .inr (6, [.ref bA, .ref stA, .ref rd_, .ref fi, .ref ne, .ref ks, .int (iz tc), .int (iz sc)])), (bA, .inl (G.2 0, 10, .inl (av (us bs tc b))))] _ := hP
        have hD : va_D A [(h, .inr (6, [.ref bA, .ref stA, .ref rd_, .ref fi, .ref ne, .ref ks, .int (iz tc), .int (iz sc)])), (bA, .inl (G.2 0, 10, .inl (av (us bs tc b))))] := hD
        refine lv_aload_n hX_ hB_ dX8_town_50 rfl (lv_at hl 0 rfl) ?_
        refine lv_dup hX_ hB_ dX8_town_51 rfl ?_
        refine va_get (D := G.1) (ci := 6) (v := .int (iz tc)) (C := RX8) (T := TX8) (N := 8) hX_ hB_ hts hi_X8_town_X8 hown hK.1 hP 0 rfl rfl 6 (by decide) (hts _ hw_X8_town_ccd203) (fun _ h9 => h9) rfl dX8_town_52 ?_
        refine zk_iconst hX_ hB_ dX8_town_55 ?_
        refine zk_iadd hX_ hB_ dX8_town_56 ?_
        refine va_put (D := G.1) (ci := 6) (v := .int (iz (tc + 1))) (ty := .int) (C := RX8) (T := TX8) (N := 8) hX_ hB_ hts hi_X8_town_X8 tyX8 tyX8_ok nmX8 hown hK.1 hP hD hS 0 rfl rfl 6 (by decide) (hts _ hw_X8_town_ccd203) (fun _ h9 => h9) rfl (by decide +kernel) rfl rfl (Nat.le_of_ble_eq_true rfl) dX8_town_57 (fun H locs hP hD hS => ?_)
        have hP : va_P G.1 vwCl [(h, .inr (6, [.ref bA, .ref stA, .ref rd_, .ref fi, .ref ne, .ref ks, .int (iz (tc + 1)), .int (iz sc)])), (bA, .inl (G.2 0, 10, .inl (av (us bs tc b))))] _ := hP
        have hD : va_D A [(h, .inr (6, [.ref bA, .ref stA, .ref rd_, .ref fi, .ref ne, .ref ks, .int (iz (tc + 1)), .int (iz sc)])), (bA, .inl (G.2 0, 10, .inl (av (us bs tc b))))] := hD
        refine lv_aload_n hX_ hB_ dX8_town_60 rfl (lv_at hl 0 rfl) ?_
        refine va_get (D := G.1) (ci := 6) (v := .int (iz (tc + 1))) (C := RX8) (T := TX8) (N := 8) hX_ hB_ hts hi_X8_town_X8 hown hK.1 hP 0 rfl rfl 6 (by decide) (hts _ hw_X8_town_ccd203) (fun _ h9 => h9) rfl dX8_town_61 ?_
        refine zk_iconst hX_ hB_ dX8_town_64 ?_
        refine zk_isub hX_ hB_ dX8_town_65 ?_
        refine zk_topi (y := (iz tc)) (congrArg iz (by omega)) ?_
        refine vx_ret ?_
        exact fin_i (wf := (fun _ : Unit => [(h, .inr (6, [.ref bA, .ref stA, .ref rd_, .ref fi, .ref ne, .ref ks, .int (iz (tc + 1)), .int (iz sc)])), (bA, .inl (G.2 0, 10, .inl (av (us bs tc b))))])) () F rfl hP hD hK hS (by decide) (by decide) dX8_town_66 (by exact ⟨rfl, by omega⟩)
      · skip
        exact xthrow (ga := ga) (cls := "java/lang/IllegalStateException") (text := "there are 10 towns") hl0 F rfl htb hE (by decide) (by decide) tk_X8_town_61 ti_X8_town_61 tg_X8_town_65 tf_65 to_61_65 hP hD hK hS hl.1 (by exact Or.inr ⟨by omega, by omega, rfl⟩) dX8_town_30 dX8_town_33 dX8_town_34 dX8_town_36 dX8_town_39 (by decide) (Nat.le_of_ble_eq_true rfl) (by decide) (by decide) (by decide) (by decide)
    · skip
      exact xthrow (ga := ga) (cls := "java/lang/IllegalArgumentException") (text := "no such base") hl0 F rfl htb hE (by decide) (by decide) tk_X8_town_54 ti_X8_town_54 tg_X8_town_58 tf_58 to_54_58 hP hD hK hS hl.1 (by exact Or.inl ⟨by omega, rfl⟩) dX8_town_11 dX8_town_14 dX8_town_15 dX8_town_17 dX8_town_20 (by decide) (Nat.le_of_ble_eq_true rfl) (by decide) (by decide) (by decide) (by decide)

theorem mdv_X8_checkDay : yX8_checkDay.cls = RX8 ∧ yX8_checkDay.cls ≠ "java/lang/invoke/MethodHandle" ∧ yX8_checkDay.cls ≠ "java/lang/invoke/VarHandle" ∧ (parseMethodDescriptor yX8_checkDay.desc).map (fun d => d.parameters.length) = some 1 := by decide +kernel
theorem tk_X8_of_54 : Cond.classLink RX8 54 "java/lang/IllegalArgumentException" ∈ wsX8_of := by decide +kernel
theorem ti_X8_of_54 : Cond.initialized "java/lang/IllegalArgumentException" ∈ wsX8_of := by decide +kernel
theorem tg_X8_of_58 : ∀ w ∈ (vx_atS RX8 58 "java/lang/IllegalArgumentException" supN).filter goodWord, w ∈ wsX8_of := by decide +kernel
set_option maxHeartbeats 4000000 in
set_option maxRecDepth 100000 in
theorem c_X8_of (l : Launch) (G : GG) (hl0 : l.stackTraces = false) (ga : Nat → Nat) (h : Nat) (bA : Nat) (stA : Nat) (rd_ : Nat) (fi : Nat) (ne : Nat) (ks : Nat) (tc : Int) (sc : Int) (d : Int) (k : Int) (hd : R31 d) (hk : R31 k) : Xc l yX8_of wsX8_of ({ frames := 7, cells := 2, slots := 12, locals := 111 }) G (ThE ga) [.ref h, .int (iz d), .int (iz k)] [(h, .inr (6, [.ref bA, .ref stA, .ref rd_, .ref fi, .ref ne, .ref ks, .int (iz tc), .int (iz sc)]))] 2 12 (Qki G (fun _ : Unit => [(h, .inr (6, [.ref bA, .ref stA, .ref rd_, .ref fi, .ref ne, .ref ks, .int (iz tc), .int (iz sc)]))]) (fun (r : Int32) (_ : Unit) => (r = (iz (sgn d k 0))) ∧ (isDay d = true ∧ 0 ≤ k ∧ k ≤ 9))) (fun En : String => ¬ (isDay d = true ∧ 0 ≤ k ∧ k ≤ 9) ∧ En = "java/lang/IllegalArgumentException") := by
  refine Xc_intro (cc := cX8_of) (maxL := 3) (ret := (some .int)) (by decide) rfl (Nat.le_of_ble_eq_true rfl) ?_
  intro p e s m below meth c A F htb hA hP hD hK hE ls hl
  have hX_ := F.1
  have hB_ := F.2.1
  have hts := F.2.2.2.2.2.1
  have hown := F.2.2.2.2.1
  have hml := F.2.2.2.1
  have hS : va_S A s.heap s.heap [] := va_S.rf
  have hl : lv_has ls 3 [(0, .ref h), (1, .int (iz d)), (2, .int (iz k))] := hl
  refine lv_aload_n hX_ hB_ dX8_of_0 rfl (lv_at hl 0 rfl) ?_
  refine lv_iload_n hX_ hB_ dX8_of_1 rfl (lv_at hl 1 rfl) ?_
  refine xback_v (wr := [(h, .inr (6, [.ref bA, .ref stA, .ref rd_, .ref fi, .ref ne, .ref ks, .int (iz tc), .int (iz sc)]))]) (xrun_V (As := [.int (iz d)]) (rest := []) (wc := []) F (c_X8_checkDay l G hl0 ga h d (by omega)) (thE_ext ga) gX8_of_X8_checkDay rfl rfl rfl mdv_X8_checkDay ⟨Nat.le_of_ble_eq_true rfl, Nat.le_of_ble_eq_true rfl⟩ (va_recv hK.1 hP (ci := 6) (q0 := 0) rfl rfl) (pre_of (thE_ext ga) hK hP hD hS hA hE [] (by decide) rfl _) rfl hl.1 (Nat.le_of_ble_eq_true rfl) dX8_of_2 ⟨by decide, by decide⟩) hP hD hS hA [] [0] rfl rfl (by decide) (by decide) (fun En ce q9 H locs hx hP hD hS g1 g2 g3 => ?_) (fun u__ H locs hw hP hD hS => ?_)
  · skip
    have hP := hP.sub (ws' := [(h, .inr (6, [.ref bA, .ref stA, .ref rd_, .ref fi, .ref ne, .ref ks, .int (iz tc), .int (iz sc)]))]) [0] rfl
    have hD := hD.sub (ws' := [(h, .inr (6, [.ref bA, .ref stA, .ref rd_, .ref fi, .ref ne, .ref ks, .int (iz tc), .int (iz sc)]))]) [0] (by decide) rfl
    exact xout F htb hP hD hK hS (by exact ⟨fun q => (by rw [hx.1] at q; cases q.1), hx.2⟩) g1 g2 g3 (by decide) (by decide)
  have hw_2 := hw
  have hP := hP.sub (ws' := [(h, .inr (6, [.ref bA, .ref stA, .ref rd_, .ref fi, .ref ne, .ref ks, .int (iz tc), .int (iz sc)]))]) [0] rfl
  have hD := hD.sub (ws' := [(h, .inr (6, [.ref bA, .ref stA, .ref rd_, .ref fi, .ref ne, .ref ks, .int (iz tc), .int (iz sc)]))]) [0] (by decide) rfl
  have hdd := of_decide_eq_true hw_2
  refine lv_iload_n hX_ hB_ dX8_of_5 rfl (lv_at hl 2 rfl) ?_
  refine zk_if_lt (tgt := 15) hX_ hB_ (by omega) dX8_of_6 (by decide) (fun c_6 => ?_) (fun c_6 => ?_)
  · skip
    exact xthrow (ga := ga) (cls := "java/lang/IllegalArgumentException") (text := "no such sign") hl0 F rfl htb hE (by decide) (by decide) tk_X8_of_54 ti_X8_of_54 tg_X8_of_58 tf_58 to_54_58 hP hD hK hS hl.1 (by exact ⟨by omega, rfl⟩) dX8_of_15 dX8_of_18 dX8_of_19 dX8_of_21 dX8_of_24 (by decide) (Nat.le_of_ble_eq_true rfl) (by decide) (by decide) (by decide) (by decide)
  · skip
    refine lv_iload_n hX_ hB_ dX8_of_9 rfl (lv_at hl 2 rfl) ?_
    refine zk_bipush hX_ hB_ (by decide) dX8_of_10 ?_
    refine zk_icmp_le (tgt := 25) hX_ hB_ (by omega) (by omega) dX8_of_12 (by decide) (fun c_12 => ?_) (fun c_12 => ?_)
    · skip
      refine lv_iload_n hX_ hB_ dX8_of_25 rfl (lv_at hl 1 rfl) ?_
      refine lv_iload_n hX_ hB_ dX8_of_26 rfl (lv_at hl 2 rfl) ?_
      refine zk_iconst hX_ hB_ dX8_of_27 ?_
      refine back_i (wr := [(h, .inr (6, [.ref bA, .ref stA, .ref rd_, .ref fi, .ref ne, .ref ks, .int (iz tc), .int (iz sc)]))]) (run_S (As := [.int (iz d), .int (iz k), .int (iz 0)]) (rest := []) (wc := []) F (c_X0_signOf l G d k 0 (by omega) (by omega) (by omega) _) ext0 gX8_of_X0_signOf rfl rfl rfl mds_X0_signOf ⟨Nat.le_of_ble_eq_true rfl, Nat.le_of_ble_eq_true rfl⟩ (pre_of ext0 hK hP hD hS hA trivial [] (by decide) rfl _) rfl hl.1 (Nat.le_of_ble_eq_true rfl) dX8_of_28 ⟨by decide, by decide⟩) hP hD hS hA [] [0] rfl rfl (by decide) (by decide) (fun r__ u__ H locs hw hP hD hS => ?_)
      subst hw
      have hP := hP.sub (ws' := [(h, .inr (6, [.ref bA, .ref stA, .ref rd_, .ref fi, .ref ne, .ref ks, .int (iz tc), .int (iz sc)]))]) [0] rfl
      have hD := hD.sub (ws' := [(h, .inr (6, [.ref bA, .ref stA, .ref rd_, .ref fi, .ref ne, .ref ks, .int (iz tc), .int (iz sc)]))]) [0] (by decide) rfl
      refine vx_ret ?_
      exact fin_i (wf := (fun _ : Unit => [(h, .inr (6, [.ref bA, .ref stA, .ref rd_, .ref fi, .ref ne, .ref ks, .int (iz tc), .int (iz sc)]))])) () F rfl hP hD hK hS (by decide) (by decide) dX8_of_31 (by exact ⟨rfl, hw_2, by omega⟩)
    · skip
      exact xthrow (ga := ga) (cls := "java/lang/IllegalArgumentException") (text := "no such sign") hl0 F rfl htb hE (by decide) (by decide) tk_X8_of_54 ti_X8_of_54 tg_X8_of_58 tf_58 to_54_58 hP hD hK hS hl.1 (by exact ⟨by omega, rfl⟩) dX8_of_15 dX8_of_18 dX8_of_19 dX8_of_21 dX8_of_24 (by decide) (Nat.le_of_ble_eq_true rfl) (by decide) (by decide) (by decide) (by decide)

theorem mdv_X8_checkTown : yX8_checkTown.cls = RX8 ∧ yX8_checkTown.cls ≠ "java/lang/invoke/MethodHandle" ∧ yX8_checkTown.cls ≠ "java/lang/invoke/VarHandle" ∧ (parseMethodDescriptor yX8_checkTown.desc).map (fun d => d.parameters.length) = some 1 := by decide +kernel
theorem hw_X8_moon_8a9af3 : (.fieldLink RX8 9 "StoneDates" "bases" "[I" : Cond) ∈ wsX8_moon := by decide +kernel
theorem hi_X8_moon_X8 : ∀ w ∈ u_ws RX8 TX8 8, w ∈ wsX8_moon := by decide +kernel
set_option maxHeartbeats 4000000 in
set_option maxRecDepth 100000 in
theorem c_X8_moon (l : Launch) (G : GG) (hl0 : l.stackTraces = false) (ga : Nat → Nat) (h : Nat) (bA : Nat) (stA : Nat) (rd_ : Nat) (fi : Nat) (ne : Nat) (ks : Nat) (tc : Int) (sc : Int) (bs : Int → Int) (d : Int) (k : Int) (hd : R31 d) (hk : R31 k) (ht : 0 ≤ tc ∧ tc ≤ 10) (hbs : ∀ i : Int, 0 ≤ i → i < tc → 0 ≤ bs i ∧ bs i < 4400) : Xc l yX8_moon wsX8_moon ({ frames := 7, cells := 2, slots := 12, locals := 111 }) G (ThE ga) [.ref h, .int (iz d), .int (iz k)] [(h, .inr (6, [.ref bA, .ref stA, .ref rd_, .ref fi, .ref ne, .ref ks, .int (iz tc), .int (iz sc)])), (bA, .inl (G.2 0, 10, .inl (av bs)))] 2 12 (Qki G (fun _ : Unit => [(h, .inr (6, [.ref bA, .ref stA, .ref rd_, .ref fi, .ref ne, .ref ks, .int (iz tc), .int (iz sc)])), (bA, .inl (G.2 0, 10, .inl (av bs)))]) (fun (r : Int32) (_ : Unit) => (r = (iz (sgn d 10 (bs k)))) ∧ (isDay d = true ∧ 0 ≤ k ∧ k < tc))) (fun En : String => (isDay d = false ∧ En = "java/lang/IllegalArgumentException") ∨ (isDay d = true ∧ ¬ (0 ≤ k ∧ k < tc) ∧ En = "java/lang/IndexOutOfBoundsException")) := by
  refine Xc_intro (cc := cX8_moon) (maxL := 3) (ret := (some .int)) (by decide) rfl (Nat.le_of_ble_eq_true rfl) ?_
  intro p e s m below meth c A F htb hA hP hD hK hE ls hl
  have hX_ := F.1
  have hB_ := F.2.1
  have hts := F.2.2.2.2.2.1
  have hown := F.2.2.2.2.1
  have hml := F.2.2.2.1
  have hS : va_S A s.heap s.heap [] := va_S.rf
  have hl : lv_has ls 3 [(0, .ref h), (1, .int (iz d)), (2, .int (iz k))] := hl
  refine lv_aload_n hX_ hB_ dX8_moon_0 rfl (lv_at hl 0 rfl) ?_
  refine lv_iload_n hX_ hB_ dX8_moon_1 rfl (lv_at hl 1 rfl) ?_
  refine xback_v (wr := [(h, .inr (6, [.ref bA, .ref stA, .ref rd_, .ref fi, .ref ne, .ref ks, .int (iz tc), .int (iz sc)])), (bA, .inl (G.2 0, 10, .inl (av bs)))]) (xrun_V (As := [.int (iz d)]) (rest := []) (wc := []) F (c_X8_checkDay l G hl0 ga h d (by omega)) (thE_ext ga) gX8_moon_X8_checkDay rfl rfl rfl mdv_X8_checkDay ⟨Nat.le_of_ble_eq_true rfl, Nat.le_of_ble_eq_true rfl⟩ (va_recv hK.1 hP (ci := 6) (q0 := 0) rfl rfl) (pre_of (thE_ext ga) hK hP hD hS hA hE [] (by decide) rfl _) rfl hl.1 (Nat.le_of_ble_eq_true rfl) dX8_moon_2 ⟨by decide, by decide⟩) hP hD hS hA [] [0, 1] rfl rfl (by decide) (by decide) (fun En ce q9 H locs hx hP hD hS g1 g2 g3 => ?_) (fun u__ H locs hw hP hD hS => ?_)
  · skip
    have hP := hP.sub (ws' := [(h, .inr (6, [.ref bA, .ref stA, .ref rd_, .ref fi, .ref ne, .ref ks, .int (iz tc), .int (iz sc)])), (bA, .inl (G.2 0, 10, .inl (av bs)))]) [0, 1] rfl
    have hD := hD.sub (ws' := [(h, .inr (6, [.ref bA, .ref stA, .ref rd_, .ref fi, .ref ne, .ref ks, .int (iz tc), .int (iz sc)])), (bA, .inl (G.2 0, 10, .inl (av bs)))]) [0, 1] (by decide) rfl
    exact xout F htb hP hD hK hS (by exact Or.inl hx) g1 g2 g3 (by decide) (by decide)
  have hw_2 := hw
  have hP := hP.sub (ws' := [(h, .inr (6, [.ref bA, .ref stA, .ref rd_, .ref fi, .ref ne, .ref ks, .int (iz tc), .int (iz sc)])), (bA, .inl (G.2 0, 10, .inl (av bs)))]) [0, 1] rfl
  have hD := hD.sub (ws' := [(h, .inr (6, [.ref bA, .ref stA, .ref rd_, .ref fi, .ref ne, .ref ks, .int (iz tc), .int (iz sc)])), (bA, .inl (G.2 0, 10, .inl (av bs)))]) [0, 1] (by decide) rfl
  have hdd := of_decide_eq_true hw_2
  refine lv_aload_n hX_ hB_ dX8_moon_5 rfl (lv_at hl 0 rfl) ?_
  refine lv_iload_n hX_ hB_ dX8_moon_6 rfl (lv_at hl 2 rfl) ?_
  refine xback_v (wr := [(bA, .inl (G.2 0, 10, .inl (av bs)))]) (xrun_V (As := [.int (iz k)]) (rest := []) (wc := [(h, .inr (6, [.ref bA, .ref stA, .ref rd_, .ref fi, .ref ne, .ref ks, .int (iz tc), .int (iz sc)]))]) F (c_X8_checkTown l G hl0 ga h bA stA rd_ fi ne ks tc sc k (by omega) (by omega)) (thE_ext ga) gX8_moon_X8_checkTown rfl rfl rfl mdv_X8_checkTown ⟨Nat.le_of_ble_eq_true rfl, Nat.le_of_ble_eq_true rfl⟩ (va_recv hK.1 (hP.sub (ws' := [(h, .inr (6, [.ref bA, .ref stA, .ref rd_, .ref fi, .ref ne, .ref ks, .int (iz tc), .int (iz sc)]))]) [0] rfl) (ci := 6) (q0 := 0) rfl rfl) (pre_of (thE_ext ga) hK hP hD hS hA hE [0] (by decide) rfl _) rfl hl.1 (Nat.le_of_ble_eq_true rfl) dX8_moon_7 ⟨by decide, by decide⟩) hP hD hS hA [0] [1] rfl rfl (by decide) (by decide) (fun En ce q9 H locs hx hP hD hS g1 g2 g3 => ?_) (fun u__ H locs hw hP hD hS => ?_)
  · skip
    have hP := hP.sub (ws' := [(h, .inr (6, [.ref bA, .ref stA, .ref rd_, .ref fi, .ref ne, .ref ks, .int (iz tc), .int (iz sc)])), (bA, .inl (G.2 0, 10, .inl (av bs)))]) [1, 0] rfl
    have hD := hD.sub (ws' := [(h, .inr (6, [.ref bA, .ref stA, .ref rd_, .ref fi, .ref ne, .ref ks, .int (iz tc), .int (iz sc)])), (bA, .inl (G.2 0, 10, .inl (av bs)))]) [1, 0] (by decide) rfl
    exact xout F htb hP hD hK hS (by exact Or.inr ⟨hw_2, hx.1, hx.2⟩) g1 g2 g3 (by decide) (by decide)
  have hw_7 := hw
  have hP := hP.sub (ws' := [(h, .inr (6, [.ref bA, .ref stA, .ref rd_, .ref fi, .ref ne, .ref ks, .int (iz tc), .int (iz sc)])), (bA, .inl (G.2 0, 10, .inl (av bs)))]) [1, 0] rfl
  have hD := hD.sub (ws' := [(h, .inr (6, [.ref bA, .ref stA, .ref rd_, .ref fi, .ref ne, .ref ks, .int (iz tc), .int (iz sc)])), (bA, .inl (G.2 0, 10, .inl (av bs)))]) [1, 0] (by decide) rfl
  refine lv_iload_n hX_ hB_ dX8_moon_10 rfl (lv_at hl 1 rfl) ?_
  refine zk_bipush hX_ hB_ (by decide) dX8_moon_11 ?_
  refine lv_aload_n hX_ hB_ dX8_moon_13 rfl (lv_at hl 0 rfl) ?_
  refine va_get (D := G.1) (ci := 6) (v := .ref bA) (C := RX8) (T := TX8) (N := 8) hX_ hB_ hts hi_X8_moon_X8 hown hK.1 hP 0 rfl rfl 0 (by decide) (hts _ hw_X8_moon_8a9af3) (fun _ h9 => h9) rfl dX8_moon_14 ?_
  refine lv_iload_n hX_ hB_ dX8_moon_17 rfl (lv_at hl 2 rfl) ?_
  refine zk_iald hX_ hB_ hK.1 hP 1 0 rfl rfl (by omega) (by decide) dX8_moon_18 ?_
  have hbk := hbs k (by omega) (by omega)
  refine back_i (wr := [(h, .inr (6, [.ref bA, .ref stA, .ref rd_, .ref fi, .ref ne, .ref ks, .int (iz tc), .int (iz sc)])), (bA, .inl (G.2 0, 10, .inl (av bs)))]) (run_S (As := [.int (iz d), .int (iz 10), .int (iz (bs k))]) (rest := []) (wc := []) F (c_X0_signOf l G d 10 (bs k) (by omega) (by omega) (by omega) _) ext0 gX8_moon_X0_signOf rfl rfl rfl mds_X0_signOf ⟨Nat.le_of_ble_eq_true rfl, Nat.le_of_ble_eq_true rfl⟩ (pre_of ext0 hK hP hD hS hA trivial [] (by decide) rfl _) rfl hl.1 (Nat.le_of_ble_eq_true rfl) dX8_moon_19 ⟨by decide, by decide⟩) hP hD hS hA [] [0, 1] rfl rfl (by decide) (by decide) (fun r__ u__ H locs hw hP hD hS => ?_)
  subst hw
  have hP := hP.sub (ws' := [(h, .inr (6, [.ref bA, .ref stA, .ref rd_, .ref fi, .ref ne, .ref ks, .int (iz tc), .int (iz sc)])), (bA, .inl (G.2 0, 10, .inl (av bs)))]) [0, 1] rfl
  have hD := hD.sub (ws' := [(h, .inr (6, [.ref bA, .ref stA, .ref rd_, .ref fi, .ref ne, .ref ks, .int (iz tc), .int (iz sc)])), (bA, .inl (G.2 0, 10, .inl (av bs)))]) [0, 1] (by decide) rfl
  refine vx_ret ?_
  exact fin_i (wf := (fun _ : Unit => [(h, .inr (6, [.ref bA, .ref stA, .ref rd_, .ref fi, .ref ne, .ref ks, .int (iz tc), .int (iz sc)])), (bA, .inl (G.2 0, 10, .inl (av bs)))])) () F rfl hP hD hK hS (by decide) (by decide) dX8_moon_22 (by exact ⟨rfl, hw_2, hw_7⟩)
