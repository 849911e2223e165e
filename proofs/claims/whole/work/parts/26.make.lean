theorem hw_X4_init_961243 : (.methodLink RX4 3 objectInit : Cond) ∈ wsX4_init := by decide +kernel
theorem hw_X4_init_fba9d5 : (.instanceMethod objectInit : Cond) ∈ wsX4_init := by decide +kernel
theorem hw_X4_init_9febdb : (.code objectInit ⟨#[0xb1]⟩ 1 none : Cond) ∈ wsX4_init := by decide +kernel
theorem hw_X4_init_d160d5 : (.arrayClass .int : Cond) ∈ wsX4_init := by decide +kernel
theorem hw_X4_init_a94271 : (.fieldLink RX4 9 "StoneDates$Reader" "sets" "[I" : Cond) ∈ wsX4_init := by decide +kernel
theorem hi_X4_init_X4 : ∀ w ∈ u_ws RX4 TX4 7, w ∈ wsX4_init := by decide +kernel
theorem hw_X4_init_932782 : (.fieldLink RX4 15 "StoneDates$Reader" "bytes" "[I" : Cond) ∈ wsX4_init := by decide +kernel
set_option maxHeartbeats 4000000 in
set_option maxRecDepth 100000 in
theorem c_X4_init (l : Launch) (G : GG) (h : Nat) : Cv l yX4_init wsX4_init ({ frames := 1, cells := 2, slots := 211, locals := 20 }) G E0 [.ref h] [(h, .inr (2, [.null, .int (iz 0), .int (iz 0), .null, .int (iz 0), .int (iz 0), .int (iz 0)]))] 2 211 (fun u : Nat × Nat => match u with | (sA, bA) => [(h, .inr (2, [.ref sA, .int (iz 0), .int (iz 0), .ref bA, .int (iz 0), .int (iz 0), .int (iz 0)])), (sA, .inl (G.2 0, 11, .inl (rv (fun _ => 0)))), (bA, .inl (G.2 0, 200, .inl (av (fun _ => 0))))]) (fun (u : Nat × Nat) => match u with | (sA, bA) => True) := by
  refine Cv_intro (cc := cX4_init) (maxL := 1) (ret := none) (by decide) rfl (Nat.le_of_ble_eq_true rfl) ?_
  intro p e s m below meth c A F hA hP hD hK hE ls hl
  have hX_ := F.1
  have hB_ := F.2.1
  have hts := F.2.2.2.2.2.1
  have hown := F.2.2.2.2.1
  have hml := F.2.2.2.1
  have hin : meth.name = "<init>" := F.2.2.2.2.2.2.2
  have hS : va_S A s.heap s.heap [] := va_S.rf
  have hl : lv_has ls 1 [(0, .ref h)] := hl
  refine lv_aload_n hX_ hB_ dX4_init_0 rfl (lv_at hl 0 rfl) ?_
  refine W.objInit hX_ hB_ hown (hts _ hw_X4_init_961243) (hts _ hw_X4_init_fba9d5) (hts _ hw_X4_init_9febdb) rfl (by rw [hml]; exact hl.1) rfl dX4_init_1 (Nat.le_of_ble_eq_true rfl) (Nat.le_of_ble_eq_true rfl) ?_
  refine W.eq (g2 := F0 m 4 ls []) rfl ?_
  refine lv_aload_n hX_ hB_ dX4_init_4 rfl (lv_at hl 0 rfl) ?_
  refine zk_bipush hX_ hB_ (by decide) dX4_init_5 ?_
  refine zk_newa (atype := .int) (a0 := (11, .inl (rv (fun _ => 0)))) hX_ hB_ (hts _ hw_X4_init_d160d5) rfl hK.2.1 hP hD hS hA (N := 11) rfl (by omega) (by omega) (by omega) (by decide) (by decide) (by decide) dX4_init_7 (fun a1 H hP hD hS => ?_)
  have hP : va_P G.1 vwCl [(h, .inr (2, [.null, .int (iz 0), .int (iz 0), .null, .int (iz 0), .int (iz 0), .int (iz 0)])), (a1, .inl (G.2 0, 11, .inl (rv (fun _ => 0))))] _ := hP
  have hD : va_D A [(h, .inr (2, [.null, .int (iz 0), .int (iz 0), .null, .int (iz 0), .int (iz 0), .int (iz 0)])), (a1, .inl (G.2 0, 11, .inl (rv (fun _ => 0))))] := hD
  refine va_putF (D := G.1) (ci := 2) (v := .ref a1) (ty := (.array .int)) (C := RX4) (T := TX4) (N := 7) hX_ hB_ hts hi_X4_init_X4 tyX4 tyX4_ok nmX4 hown hK.1 hP hD hS 0 rfl rfl 0 (by decide) (hts _ hw_X4_init_a94271) (fun _ h9 => h9) rfl hin rfl (by decide +kernel) rfl rfl (Nat.le_of_ble_eq_true rfl) dX4_init_9 (fun H locs hP hD hS => ?_)
  have hP : va_P G.1 vwCl [(h, .inr (2, [.ref a1, .int (iz 0), .int (iz 0), .null, .int (iz 0), .int (iz 0), .int (iz 0)])), (a1, .inl (G.2 0, 11, .inl (rv (fun _ => 0))))] _ := hP
  have hD : va_D A [(h, .inr (2, [.ref a1, .int (iz 0), .int (iz 0), .null, .int (iz 0), .int (iz 0), .int (iz 0)])), (a1, .inl (G.2 0, 11, .inl (rv (fun _ => 0))))] := hD
  refine lv_aload_n hX_ hB_ dX4_init_12 rfl (lv_at hl 0 rfl) ?_
  refine zk_sipush hX_ hB_ (by decide) dX4_init_13 ?_
  refine zk_newa (atype := .int) (a0 := (200, .inl (av (fun _ => 0)))) hX_ hB_ (hts _ hw_X4_init_d160d5) rfl hK.2.1 hP hD hS hA (N := 200) rfl (by omega) (by omega) (by omega) (by decide) (by decide) (by decide) dX4_init_16 (fun a2 H hP hD hS => ?_)
  have hP : va_P G.1 vwCl [(h, .inr (2, [.ref a1, .int (iz 0), .int (iz 0), .null, .int (iz 0), .int (iz 0), .int (iz 0)])), (a1, .inl (G.2 0, 11, .inl (rv (fun _ => 0)))), (a2, .inl (G.2 0, 200, .inl (av (fun _ => 0))))] _ := hP
  have hD : va_D A [(h, .inr (2, [.ref a1, .int (iz 0), .int (iz 0), .null, .int (iz 0), .int (iz 0), .int (iz 0)])), (a1, .inl (G.2 0, 11, .inl (rv (fun _ => 0)))), (a2, .inl (G.2 0, 200, .inl (av (fun _ => 0))))] := hD
  refine va_putF (D := G.1) (ci := 2) (v := .ref a2) (ty := (.array .int)) (C := RX4) (T := TX4) (N := 7) hX_ hB_ hts hi_X4_init_X4 tyX4 tyX4_ok nmX4 hown hK.1 hP hD hS 0 rfl rfl 3 (by decide) (hts _ hw_X4_init_932782) (fun _ h9 => h9) rfl hin rfl (by decide +kernel) rfl rfl (Nat.le_of_ble_eq_true rfl) dX4_init_18 (fun H locs hP hD hS => ?_)
  have hP : va_P G.1 vwCl [(h, .inr (2, [.ref a1, .int (iz 0), .int (iz 0), .ref a2, .int (iz 0), .int (iz 0), .int (iz 0)])), (a1, .inl (G.2 0, 11, .inl (rv (fun _ => 0)))), (a2, .inl (G.2 0, 200, .inl (av (fun _ => 0))))] _ := hP
  have hD : va_D A [(h, .inr (2, [.ref a1, .int (iz 0), .int (iz 0), .ref a2, .int (iz 0), .int (iz 0), .int (iz 0)])), (a1, .inl (G.2 0, 11, .inl (rv (fun _ => 0)))), (a2, .inl (G.2 0, 200, .inl (av (fun _ => 0))))] := hD
  exact fin_v (wf := (fun u : Nat × Nat => match u with | (sA, bA) => [(h, .inr (2, [.ref sA, .int (iz 0), .int (iz 0), .ref bA, .int (iz 0), .int (iz 0), .int (iz 0)])), (sA, .inl (G.2 0, 11, .inl (rv (fun _ => 0)))), (bA, .inl (G.2 0, 200, .inl (av (fun _ => 0))))])) (a1, a2) F hP hD hK hS (by decide) (by decide) dX4_init_21 trivial

theorem hw_X7_init_e35d0f : (.methodLink RX7 3 objectInit : Cond) ∈ wsX7_init := by decide +kernel
theorem hw_X7_init_fba9d5 : (.instanceMethod objectInit : Cond) ∈ wsX7_init := by decide +kernel
theorem hw_X7_init_9febdb : (.code objectInit ⟨#[0xb1]⟩ 1 none : Cond) ∈ wsX7_init := by decide +kernel
theorem hw_X7_init_52cee4 : (.methodLink RX7 9 Lib.Math.max.name : Cond) ∈ wsX7_init := by decide +kernel
theorem hw_X7_init_80a2ec : (.static Lib.Math.max.name : Cond) ∈ wsX7_init := by decide +kernel
theorem hw_X7_init_868a92 : (.initialized "java/lang/Math" : Cond) ∈ wsX7_init := by decide +kernel
theorem hw_X7_init_b6349a : (.code Lib.Math.max.name Lib.Math.max.code 2 (some .int) : Cond) ∈ wsX7_init := by decide +kernel
theorem hw_X7_init_170ca7 : (.fieldLink RX7 15 "StoneDates$Wheel" "period" "I" : Cond) ∈ wsX7_init := by decide +kernel
theorem hi_X7_init_X7 : ∀ w ∈ u_ws RX7 TX7 3, w ∈ wsX7_init := by decide +kernel
theorem hw_X7_init_f2af49 : (.arrayClass .long : Cond) ∈ wsX7_init := by decide +kernel
theorem hw_X7_init_b5407b : (.fieldLink RX7 19 "StoneDates$Wheel" "bits" "[J" : Cond) ∈ wsX7_init := by decide +kernel
set_option maxHeartbeats 4000000 in
set_option maxRecDepth 100000 in
theorem c_X7_init (l : Launch) (G : GG) (h : Nat) (n : Nat) (P : Int) (hP0 : 0 < P ∧ P ≤ 4400) (hn : (P + 60) / 64 + 2 = n) : Cv l yX7_init wsX7_init ({ frames := 1, cells := 1, slots := 71, locals := 21 }) G E0 [.ref h, .int (iz P)] [(h, .inr (5, [.int (iz 0), .null, .int (zb false)]))] 1 71 (fun bA : Nat => [(h, .inr (5, [.int (iz P), .ref bA, .int (zb false)])), (bA, .inl (G.2 2, n, .inr (.inl (rv (fun _ => 0)))))]) (fun (bA : Nat) => True) := by
  refine Cv_intro (cc := cX7_init) (maxL := 2) (ret := none) (by decide) rfl (Nat.le_of_ble_eq_true rfl) ?_
  intro p e s m below meth c A F hA hP hD hK hE ls hl
  have hX_ := F.1
  have hB_ := F.2.1
  have hts := F.2.2.2.2.2.1
  have hown := F.2.2.2.2.1
  have hml := F.2.2.2.1
  have hin : meth.name = "<init>" := F.2.2.2.2.2.2.2
  have hS : va_S A s.heap s.heap [] := va_S.rf
  have hl : lv_has ls 2 [(0, .ref h), (1, .int (iz P))] := hl
  refine lv_aload_n hX_ hB_ dX7_init_0 rfl (lv_at hl 0 rfl) ?_
  refine W.objInit hX_ hB_ hown (hts _ hw_X7_init_e35d0f) (hts _ hw_X7_init_fba9d5) (hts _ hw_X7_init_9febdb) rfl (by rw [hml]; exact hl.1) rfl dX7_init_1 (Nat.le_of_ble_eq_true rfl) (Nat.le_of_ble_eq_true rfl) ?_
  refine W.eq (g2 := F0 m 4 ls []) rfl ?_
  refine lv_aload_n hX_ hB_ dX7_init_4 rfl (lv_at hl 0 rfl) ?_
  refine zk_iconst hX_ hB_ dX7_init_5 ?_
  refine lv_iload_n hX_ hB_ dX7_init_6 rfl (lv_at hl 1 rfl) ?_
  refine zk_mmax hX_ hB_ (by rw [hml]; exact hl.1.symm) hown (hts _ hw_X7_init_52cee4) (hts _ hw_X7_init_80a2ec) (hts _ hw_X7_init_868a92) (hts _ hw_X7_init_b6349a) (Nat.le_of_ble_eq_true rfl) (Nat.le_of_ble_eq_true rfl) (by decide) (by decide) (by omega) (by omega) dX7_init_7 ?_
  refine zk_topi (y := (iz P)) (congrArg iz (by unfold imax; split <;> omega)) ?_
  refine va_putF (D := G.1) (ci := 5) (v := .int (iz P)) (ty := .int) (C := RX7) (T := TX7) (N := 3) hX_ hB_ hts hi_X7_init_X7 tyX7 tyX7_ok nmX7 hown hK.1 hP hD hS 0 rfl rfl 0 (by decide) (hts _ hw_X7_init_170ca7) (fun _ h9 => h9) rfl hin rfl (by decide +kernel) rfl rfl (Nat.le_of_ble_eq_true rfl) dX7_init_10 (fun H locs hP hD hS => ?_)
  have hP : va_P G.1 vwCl [(h, .inr (5, [.int (iz P), .null, .int (zb false)]))] _ := hP
  have hD : va_D A [(h, .inr (5, [.int (iz P), .null, .int (zb false)]))] := hD
  refine lv_aload_n hX_ hB_ dX7_init_13 rfl (lv_at hl 0 rfl) ?_
  refine lv_aload_n hX_ hB_ dX7_init_14 rfl (lv_at hl 0 rfl) ?_
  refine va_get (D := G.1) (ci := 5) (v := .int (iz P)) (C := RX7) (T := TX7) (N := 3) hX_ hB_ hts hi_X7_init_X7 hown hK.1 hP 0 rfl rfl 0 (by decide) (hts _ hw_X7_init_170ca7) (fun _ h9 => h9) rfl dX7_init_15 ?_
  refine zk_bipush hX_ hB_ (by decide) dX7_init_18 ?_
  refine zk_iadd hX_ hB_ dX7_init_20 ?_
  refine zk_bipush hX_ hB_ (by decide) dX7_init_21 ?_
  refine zk_idiv hX_ hB_ (by omega) (by omega) (by omega) (by omega) dX7_init_23 ?_
  refine zk_iconst hX_ hB_ dX7_init_24 ?_
  refine zk_iadd hX_ hB_ dX7_init_25 ?_
  refine zk_newa (atype := .long) (a0 := (n, .inr (.inl (rv (fun _ => 0))))) hX_ hB_ (hts _ hw_X7_init_f2af49) rfl hK.2.2.2.1 hP hD hS hA (N := n) rfl (by omega) (by omega) (by omega) (by show n * 8 ≤ 536870912; omega) (by decide) (by show 0 + n ≤ 71; omega) dX7_init_26 (fun a1 H hP hD hS => ?_)
  have hP : va_P G.1 vwCl [(h, .inr (5, [.int (iz P), .null, .int (zb false)])), (a1, .inl (G.2 2, n, .inr (.inl (rv (fun _ => 0)))))] _ := hP
  have hD : va_D A [(h, .inr (5, [.int (iz P), .null, .int (zb false)])), (a1, .inl (G.2 2, n, .inr (.inl (rv (fun _ => 0)))))] := hD
  refine va_putF (D := G.1) (ci := 5) (v := .ref a1) (ty := (.array .long)) (C := RX7) (T := TX7) (N := 3) hX_ hB_ hts hi_X7_init_X7 tyX7 tyX7_ok nmX7 hown hK.1 hP hD hS 0 rfl rfl 1 (by decide) (hts _ hw_X7_init_b5407b) (fun _ h9 => h9) rfl hin rfl (by decide +kernel) rfl rfl (Nat.le_of_ble_eq_true rfl) dX7_init_28 (fun H locs hP hD hS => ?_)
  have hP : va_P G.1 vwCl [(h, .inr (5, [.int (iz P), .ref a1, .int (zb false)])), (a1, .inl (G.2 2, n, .inr (.inl (rv (fun _ => 0)))))] _ := hP
  have hD : va_D A [(h, .inr (5, [.int (iz P), .ref a1, .int (zb false)])), (a1, .inl (G.2 2, n, .inr (.inl (rv (fun _ => 0)))))] := hD
  exact fin_v (wf := (fun bA : Nat => [(h, .inr (5, [.int (iz P), .ref bA, .int (zb false)])), (bA, .inl (G.2 2, n, .inr (.inl (rv (fun _ => 0)))))])) a1 F hP hD hK hS (by decide) (by omega) dX7_init_31 trivial

theorem hw_X1_init_00c12a : (.methodLink RX1 3 objectInit : Cond) ∈ wsX1_init := by decide +kernel
theorem hw_X1_init_fba9d5 : (.instanceMethod objectInit : Cond) ∈ wsX1_init := by decide +kernel
theorem hw_X1_init_9febdb : (.code objectInit ⟨#[0xb1]⟩ 1 none : Cond) ∈ wsX1_init := by decide +kernel
theorem hw_X1_init_d160d5 : (.arrayClass .int : Cond) ∈ wsX1_init := by decide +kernel
theorem hw_X1_init_3a39cb : (.fieldLink RX1 9 "StoneDates$Finder" "days" "[I" : Cond) ∈ wsX1_init := by decide +kernel
theorem hi_X1_init_X1 : ∀ w ∈ u_ws RX1 TX1 7, w ∈ wsX1_init := by decide +kernel
theorem hw_X1_init_be5305 : (.classLink RX1 15 RX7 : Cond) ∈ wsX1_init := by decide +kernel
theorem hw_X1_init_effe72 : (.instantiable RX7 3 : Cond) ∈ wsX1_init := by decide +kernel
theorem hw_X1_init_0fc290 : (.initialized RX7 : Cond) ∈ wsX1_init := by decide +kernel
theorem hi_X1_init_X7 : ∀ w ∈ u_ws RX7 TX7 3, w ∈ wsX1_init := by decide +kernel
theorem mds_X7_init : yX7_init.cls ≠ "java/lang/invoke/MethodHandle" ∧ yX7_init.cls ≠ "java/lang/invoke/VarHandle" ∧ (parseMethodDescriptor yX7_init.desc).map (fun d => d.parameters.length) = some 1 := by decide +kernel
theorem hw_X1_init_c59408 : (.methodLink RX1 17 yX7_init : Cond) ∈ wsX1_init := by decide +kernel
theorem hw_X1_init_8631ab : (.instanceMethod yX7_init : Cond) ∈ wsX1_init := by decide +kernel
theorem hw_X1_init_5ade71 : (.fieldLink RX1 20 "StoneDates$Finder" "inner" "LStoneDates$Wheel;" : Cond) ∈ wsX1_init := by decide +kernel
theorem hw_X1_init_acb36f : (.fieldLink RX1 24 "StoneDates$Finder" "thirteen" "LStoneDates$Wheel;" : Cond) ∈ wsX1_init := by decide +kernel
theorem hw_X1_init_4ac8d0 : (.fieldLink RX1 27 "StoneDates$Finder" "year" "LStoneDates$Wheel;" : Cond) ∈ wsX1_init := by decide +kernel
theorem hw_X1_init_20a1a4 : (.fieldLink RX1 30 "StoneDates$Finder" "lunar" "LStoneDates$Wheel;" : Cond) ∈ wsX1_init := by decide +kernel
set_option maxHeartbeats 4000000 in
set_option maxRecDepth 100000 in
theorem c_X1_init (l : Launch) (G : GG) (h : Nat) : Cv l yX1_init wsX1_init ({ frames := 2, cells := 9, slots := 596, locals := 42 }) G E0 [.ref h] [(h, .inr (0, [.null, .int (iz 0), .int (iz 0), .null, .null, .null, .null]))] 9 596 (fun u : Nat × Nat × Nat × Nat × Nat × Nat × Nat × Nat × Nat => match u with | (dA, w1, b1, w2, b2, w3, b3, w4, b4) => [(h, .inr (0, [.ref dA, .int (iz 0), .int (iz 0), .ref w1, .ref w2, .ref w3, .ref w4])), (dA, .inl (G.2 0, 300, .inl (av (fun _ => 0)))), (w1, .inr (5, [.int (iz 360), .ref b1, .int (zb false)])), (b1, .inl (G.2 2, 8, .inr (.inl (rv (fun _ => 0))))), (w2, .inr (5, [.int (iz 13), .ref b2, .int (zb false)])), (b2, .inl (G.2 2, 3, .inr (.inl (rv (fun _ => 0))))), (w3, .inr (5, [.int (iz 365), .ref b3, .int (zb false)])), (b3, .inl (G.2 2, 8, .inr (.inl (rv (fun _ => 0))))), (w4, .inr (5, [.int (iz 4400), .ref b4, .int (zb false)])), (b4, .inl (G.2 2, 71, .inr (.inl (rv (fun _ => 0)))))]) (fun (u : Nat × Nat × Nat × Nat × Nat × Nat × Nat × Nat × Nat) => match u with | (dA, w1, b1, w2, b2, w3, b3, w4, b4) => True) := by
  refine Cv_intro (cc := cX1_init) (maxL := 1) (ret := none) (by decide) rfl (Nat.le_of_ble_eq_true rfl) ?_
  intro p e s m below meth c A F hA hP hD hK hE ls hl
  have hX_ := F.1
  have hB_ := F.2.1
  have hts := F.2.2.2.2.2.1
  have hown := F.2.2.2.2.1
  have hml := F.2.2.2.1
  have hin : meth.name = "<init>" := F.2.2.2.2.2.2.2
  have hS : va_S A s.heap s.heap [] := va_S.rf
  have hl : lv_has ls 1 [(0, .ref h)] := hl
  refine lv_aload_n hX_ hB_ dX1_init_0 rfl (lv_at hl 0 rfl) ?_
  refine W.objInit hX_ hB_ hown (hts _ hw_X1_init_00c12a) (hts _ hw_X1_init_fba9d5) (hts _ hw_X1_init_9febdb) rfl (by rw [hml]; exact hl.1) rfl dX1_init_1 (Nat.le_of_ble_eq_true rfl) (Nat.le_of_ble_eq_true rfl) ?_
  refine W.eq (g2 := F0 m 4 ls []) rfl ?_
  refine lv_aload_n hX_ hB_ dX1_init_4 rfl (lv_at hl 0 rfl) ?_
  refine zk_sipush hX_ hB_ (by decide) dX1_init_5 ?_
  refine zk_newa (atype := .int) (a0 := (300, .inl (av (fun _ => 0)))) hX_ hB_ (hts _ hw_X1_init_d160d5) rfl hK.2.1 hP hD hS hA (N := 300) rfl (by omega) (by omega) (by omega) (by decide) (by decide) (by decide) dX1_init_8 (fun d1 H hP hD hS => ?_)
  have hP : va_P G.1 vwCl [(h, .inr (0, [.null, .int (iz 0), .int (iz 0), .null, .null, .null, .null])), (d1, .inl (G.2 0, 300, .inl (av (fun _ => 0))))] _ := hP
  have hD : va_D A [(h, .inr (0, [.null, .int (iz 0), .int (iz 0), .null, .null, .null, .null])), (d1, .inl (G.2 0, 300, .inl (av (fun _ => 0))))] := hD
  refine va_putF (D := G.1) (ci := 0) (v := .ref d1) (ty := (.array .int)) (C := RX1) (T := TX1) (N := 7) hX_ hB_ hts hi_X1_init_X1 tyX1 tyX1_ok nmX1 hown hK.1 hP hD hS 0 rfl rfl 0 (by decide) (hts _ hw_X1_init_3a39cb) (fun _ h9 => h9) rfl hin rfl (by decide +kernel) rfl rfl (Nat.le_of_ble_eq_true rfl) dX1_init_10 (fun H locs hP hD hS => ?_)
  have hP : va_P G.1 vwCl [(h, .inr (0, [.ref d1, .int (iz 0), .int (iz 0), .null, .null, .null, .null])), (d1, .inl (G.2 0, 300, .inl (av (fun _ => 0))))] _ := hP
  have hD : va_D A [(h, .inr (0, [.ref d1, .int (iz 0), .int (iz 0), .null, .null, .null, .null])), (d1, .inl (G.2 0, 300, .inl (av (fun _ => 0))))] := hD
  refine lv_aload_n hX_ hB_ dX1_init_13 rfl (lv_at hl 0 rfl) ?_
  refine va_new (D := G.1) (ci := 5) (fs := [.int (iz 0), .null, .int (zb false)]) (C := RX7) (T := TX7) (N := 3) hX_ hB_ hts hi_X1_init_X7 tyX7 tyX7_ok hown (hts _ hw_X1_init_be5305) (hts _ hw_X1_init_effe72) (hts _ hw_X1_init_0fc290) hK.1 hP hD hS hA rfl (fun j hj => by rcases (show j = 0 ∨ j = 1 ∨ j = 2 by omega) with rfl | rfl | rfl <;> rfl) (by decide) (by decide) dX1_init_14 (fun o1 H hP hD hS => ?_)
  have hP : va_P G.1 vwCl [(h, .inr (0, [.ref d1, .int (iz 0), .int (iz 0), .null, .null, .null, .null])), (d1, .inl (G.2 0, 300, .inl (av (fun _ => 0)))), (o1, .inr (5, [.int (iz 0), .null, .int (zb false)]))] _ := hP
  have hD : va_D A [(h, .inr (0, [.ref d1, .int (iz 0), .int (iz 0), .null, .null, .null, .null])), (d1, .inl (G.2 0, 300, .inl (av (fun _ => 0)))), (o1, .inr (5, [.int (iz 0), .null, .int (zb false)]))] := hD
  refine lv_dup hX_ hB_ dX1_init_17 rfl ?_
  refine zk_sipush hX_ hB_ (by decide) dX1_init_18 ?_
  refine back_v (wr := [(h, .inr (0, [.ref d1, .int (iz 0), .int (iz 0), .null, .null, .null, .null])), (d1, .inl (G.2 0, 300, .inl (av (fun _ => 0))))]) (run_I (As := [.int (iz 360)]) (rest := [.ref o1, .ref h]) (wc := [(o1, .inr (5, [.int (iz 0), .null, .int (zb false)]))]) F (c_X7_init l G o1 8 360 (by omega) (by omega) _) ext0 ggX1_init_X7_init rfl rfl rfl (hts _ hw_X1_init_0fc290) (hts _ hw_X1_init_c59408) (hts _ hw_X1_init_8631ab) rfl mds_X7_init ⟨Nat.le_of_ble_eq_true rfl, Nat.le_of_ble_eq_true rfl⟩ (pre_of ext0 hK hP hD hS hA trivial [2] (by decide) rfl _) rfl hl.1 (Nat.le_of_ble_eq_true rfl) dX1_init_21 ⟨by decide, by decide⟩) hP hD hS hA [2] [0, 1] rfl rfl (by decide) (by decide) (fun u__ H locs hw hP hD hS => ?_)
  obtain ⟨e1, rfl⟩ : ∃ z, z = u__ := ⟨_, rfl⟩
  try dsimp only at hw hP hD
  have hw_21 := hw
  have hP := hP.sub (ws' := [(h, .inr (0, [.ref d1, .int (iz 0), .int (iz 0), .null, .null, .null, .null])), (d1, .inl (G.2 0, 300, .inl (av (fun _ => 0)))), (o1, .inr (5, [.int (iz 360), .ref e1, .int (zb false)])), (e1, .inl (G.2 2, 8, .inr (.inl (rv (fun _ => 0)))))]) [0, 1, 2, 3] rfl
  have hD := hD.sub (ws' := [(h, .inr (0, [.ref d1, .int (iz 0), .int (iz 0), .null, .null, .null, .null])), (d1, .inl (G.2 0, 300, .inl (av (fun _ => 0)))), (o1, .inr (5, [.int (iz 360), .ref e1, .int (zb false)])), (e1, .inl (G.2 2, 8, .inr (.inl (rv (fun _ => 0)))))]) [0, 1, 2, 3] (by decide) rfl
  refine va_putF (D := G.1) (ci := 0) (v := .ref o1) (ty := (.object "StoneDates$Wheel")) (C := RX1) (T := TX1) (N := 7) hX_ hB_ hts hi_X1_init_X1 tyX1 tyX1_ok nmX1 hown hK.1 hP hD hS 0 rfl rfl 3 (by decide) (hts _ hw_X1_init_5ade71) (fun _ h9 => h9) rfl hin rfl (by decide +kernel) rfl rfl (Nat.le_of_ble_eq_true rfl) dX1_init_24 (fun H locs hP hD hS => ?_)
  have hP : va_P G.1 vwCl [(h, .inr (0, [.ref d1, .int (iz 0), .int (iz 0), .ref o1, .null, .null, .null])), (d1, .inl (G.2 0, 300, .inl (av (fun _ => 0)))), (o1, .inr (5, [.int (iz 360), .ref e1, .int (zb false)])), (e1, .inl (G.2 2, 8, .inr (.inl (rv (fun _ => 0)))))] _ := hP
  have hD : va_D A [(h, .inr (0, [.ref d1, .int (iz 0), .int (iz 0), .ref o1, .null, .null, .null])), (d1, .inl (G.2 0, 300, .inl (av (fun _ => 0)))), (o1, .inr (5, [.int (iz 360), .ref e1, .int (zb false)])), (e1, .inl (G.2 2, 8, .inr (.inl (rv (fun _ => 0)))))] := hD
  refine lv_aload_n hX_ hB_ dX1_init_27 rfl (lv_at hl 0 rfl) ?_
  refine va_new (D := G.1) (ci := 5) (fs := [.int (iz 0), .null, .int (zb false)]) (C := RX7) (T := TX7) (N := 3) hX_ hB_ hts hi_X1_init_X7 tyX7 tyX7_ok hown (hts _ hw_X1_init_be5305) (hts _ hw_X1_init_effe72) (hts _ hw_X1_init_0fc290) hK.1 hP hD hS hA rfl (fun j hj => by rcases (show j = 0 ∨ j = 1 ∨ j = 2 by omega) with rfl | rfl | rfl <;> rfl) (by decide) (by decide) dX1_init_28 (fun o2 H hP hD hS => ?_)
  have hP : va_P G.1 vwCl [(h, .inr (0, [.ref d1, .int (iz 0), .int (iz 0), .ref o1, .null, .null, .null])), (d1, .inl (G.2 0, 300, .inl (av (fun _ => 0)))), (o1, .inr (5, [.int (iz 360), .ref e1, .int (zb false)])), (e1, .inl (G.2 2, 8, .inr (.inl (rv (fun _ => 0))))), (o2, .inr (5, [.int (iz 0), .null, .int (zb false)]))] _ := hP
  have hD : va_D A [(h, .inr (0, [.ref d1, .int (iz 0), .int (iz 0), .ref o1, .null, .null, .null])), (d1, .inl (G.2 0, 300, .inl (av (fun _ => 0)))), (o1, .inr (5, [.int (iz 360), .ref e1, .int (zb false)])), (e1, .inl (G.2 2, 8, .inr (.inl (rv (fun _ => 0))))), (o2, .inr (5, [.int (iz 0), .null, .int (zb false)]))] := hD
  refine lv_dup hX_ hB_ dX1_init_31 rfl ?_
  refine zk_bipush hX_ hB_ (by decide) dX1_init_32 ?_
  refine back_v (wr := [(h, .inr (0, [.ref d1, .int (iz 0), .int (iz 0), .ref o1, .null, .null, .null])), (d1, .inl (G.2 0, 300, .inl (av (fun _ => 0)))), (o1, .inr (5, [.int (iz 360), .ref e1, .int (zb false)])), (e1, .inl (G.2 2, 8, .inr (.inl (rv (fun _ => 0)))))]) (run_I (As := [.int (iz 13)]) (rest := [.ref o2, .ref h]) (wc := [(o2, .inr (5, [.int (iz 0), .null, .int (zb false)]))]) F (c_X7_init l G o2 3 13 (by omega) (by omega) _) ext0 ggX1_init_X7_init rfl rfl rfl (hts _ hw_X1_init_0fc290) (hts _ hw_X1_init_c59408) (hts _ hw_X1_init_8631ab) rfl mds_X7_init ⟨Nat.le_of_ble_eq_true rfl, Nat.le_of_ble_eq_true rfl⟩ (pre_of ext0 hK hP hD hS hA trivial [4] (by decide) rfl _) rfl hl.1 (Nat.le_of_ble_eq_true rfl) dX1_init_34 ⟨by decide, by decide⟩) hP hD hS hA [4] [0, 1, 2, 3] rfl rfl (by decide) (by decide) (fun u__ H locs hw hP hD hS => ?_)
  obtain ⟨e2, rfl⟩ : ∃ z, z = u__ := ⟨_, rfl⟩
  try dsimp only at hw hP hD
  have hw_34 := hw
  have hP := hP.sub (ws' := [(h, .inr (0, [.ref d1, .int (iz 0), .int (iz 0), .ref o1, .null, .null, .null])), (d1, .inl (G.2 0, 300, .inl (av (fun _ => 0)))), (o1, .inr (5, [.int (iz 360), .ref e1, .int (zb false)])), (e1, .inl (G.2 2, 8, .inr (.inl (rv (fun _ => 0))))), (o2, .inr (5, [.int (iz 13), .ref e2, .int (zb false)])), (e2, .inl (G.2 2, 3, .inr (.inl (rv (fun _ => 0)))))]) [0, 1, 2, 3, 4, 5] rfl
  have hD := hD.sub (ws' := [(h, .inr (0, [.ref d1, .int (iz 0), .int (iz 0), .ref o1, .null, .null, .null])), (d1, .inl (G.2 0, 300, .inl (av (fun _ => 0)))), (o1, .inr (5, [.int (iz 360), .ref e1, .int (zb false)])), (e1, .inl (G.2 2, 8, .inr (.inl (rv (fun _ => 0))))), (o2, .inr (5, [.int (iz 13), .ref e2, .int (zb false)])), (e2, .inl (G.2 2, 3, .inr (.inl (rv (fun _ => 0)))))]) [0, 1, 2, 3, 4, 5] (by decide) rfl
  refine va_putF (D := G.1) (ci := 0) (v := .ref o2) (ty := (.object "StoneDates$Wheel")) (C := RX1) (T := TX1) (N := 7) hX_ hB_ hts hi_X1_init_X1 tyX1 tyX1_ok nmX1 hown hK.1 hP hD hS 0 rfl rfl 4 (by decide) (hts _ hw_X1_init_acb36f) (fun _ h9 => h9) rfl hin rfl (by decide +kernel) rfl rfl (Nat.le_of_ble_eq_true rfl) dX1_init_37 (fun H locs hP hD hS => ?_)
  have hP : va_P G.1 vwCl [(h, .inr (0, [.ref d1, .int (iz 0), .int (iz 0), .ref o1, .ref o2, .null, .null])), (d1, .inl (G.2 0, 300, .inl (av (fun _ => 0)))), (o1, .inr (5, [.int (iz 360), .ref e1, .int (zb false)])), (e1, .inl (G.2 2, 8, .inr (.inl (rv (fun _ => 0))))), (o2, .inr (5, [.int (iz 13), .ref e2, .int (zb false)])), (e2, .inl (G.2 2, 3, .inr (.inl (rv (fun _ => 0)))))] _ := hP
  have hD : va_D A [(h, .inr (0, [.ref d1, .int (iz 0), .int (iz 0), .ref o1, .ref o2, .null, .null])), (d1, .inl (G.2 0, 300, .inl (av (fun _ => 0)))), (o1, .inr (5, [.int (iz 360), .ref e1, .int (zb false)])), (e1, .inl (G.2 2, 8, .inr (.inl (rv (fun _ => 0))))), (o2, .inr (5, [.int (iz 13), .ref e2, .int (zb false)])), (e2, .inl (G.2 2, 3, .inr (.inl (rv (fun _ => 0)))))] := hD
  refine lv_aload_n hX_ hB_ dX1_init_40 rfl (lv_at hl 0 rfl) ?_
  refine va_new (D := G.1) (ci := 5) (fs := [.int (iz 0), .null, .int (zb false)]) (C := RX7) (T := TX7) (N := 3) hX_ hB_ hts hi_X1_init_X7 tyX7 tyX7_ok hown (hts _ hw_X1_init_be5305) (hts _ hw_X1_init_effe72) (hts _ hw_X1_init_0fc290) hK.1 hP hD hS hA rfl (fun j hj => by rcases (show j = 0 ∨ j = 1 ∨ j = 2 by omega) with rfl | rfl | rfl <;> rfl) (by decide) (by decide) dX1_init_41 (fun o3 H hP hD hS => ?_)
  have hP : va_P G.1 vwCl [(h, .inr (0, [.ref d1, .int (iz 0), .int (iz 0), .ref o1, .ref o2, .null, .null])), (d1, .inl (G.2 0, 300, .inl (av (fun _ => 0)))), (o1, .inr (5, [.int (iz 360), .ref e1, .int (zb false)])), (e1, .inl (G.2 2, 8, .inr (.inl (rv (fun _ => 0))))), (o2, .inr (5, [.int (iz 13), .ref e2, .int (zb false)])), (e2, .inl (G.2 2, 3, .inr (.inl (rv (fun _ => 0))))), (o3, .inr (5, [.int (iz 0), .null, .int (zb false)]))] _ := hP
  have hD : va_D A [(h, .inr (0, [.ref d1, .int (iz 0), .int (iz 0), .ref o1, .ref o2, .null, .null])), (d1, .inl (G.2 0, 300, .inl (av (fun _ => 0)))), (o1, .inr (5, [.int (iz 360), .ref e1, .int (zb false)])), (e1, .inl (G.2 2, 8, .inr (.inl (rv (fun _ => 0))))), (o2, .inr (5, [.int (iz 13), .ref e2, .int (zb false)])), (e2, .inl (G.2 2, 3, .inr (.inl (rv (fun _ => 0))))), (o3, .inr (5, [.int (iz 0), .null, .int (zb false)]))] := hD
  refine lv_dup hX_ hB_ dX1_init_44 rfl ?_
  refine zk_sipush hX_ hB_ (by decide) dX1_init_45 ?_
  refine back_v (wr := [(h, .inr (0, [.ref d1, .int (iz 0), .int (iz 0), .ref o1, .ref o2, .null, .null])), (d1, .inl (G.2 0, 300, .inl (av (fun _ => 0)))), (o1, .inr (5, [.int (iz 360), .ref e1, .int (zb false)])), (e1, .inl (G.2 2, 8, .inr (.inl (rv (fun _ => 0))))), (o2, .inr (5, [.int (iz 13), .ref e2, .int (zb false)])), (e2, .inl (G.2 2, 3, .inr (.inl (rv (fun _ => 0)))))]) (run_I (As := [.int (iz 365)]) (rest := [.ref o3, .ref h]) (wc := [(o3, .inr (5, [.int (iz 0), .null, .int (zb false)]))]) F (c_X7_init l G o3 8 365 (by omega) (by omega) _) ext0 ggX1_init_X7_init rfl rfl rfl (hts _ hw_X1_init_0fc290) (hts _ hw_X1_init_c59408) (hts _ hw_X1_init_8631ab) rfl mds_X7_init ⟨Nat.le_of_ble_eq_true rfl, Nat.le_of_ble_eq_true rfl⟩ (pre_of ext0 hK hP hD hS hA trivial [6] (by decide) rfl _) rfl hl.1 (Nat.le_of_ble_eq_true rfl) dX1_init_48 ⟨by decide, by decide⟩) hP hD hS hA [6] [0, 1, 2, 3, 4, 5] rfl rfl (by decide) (by decide) (fun u__ H locs hw hP hD hS => ?_)
  obtain ⟨e3, rfl⟩ : ∃ z, z = u__ := ⟨_, rfl⟩
  try dsimp only at hw hP hD
  have hw_48 := hw
  have hP := hP.sub (ws' := [(h, .inr (0, [.ref d1, .int (iz 0), .int (iz 0), .ref o1, .ref o2, .null, .null])), (d1, .inl (G.2 0, 300, .inl (av (fun _ => 0)))), (o1, .inr (5, [.int (iz 360), .ref e1, .int (zb false)])), (e1, .inl (G.2 2, 8, .inr (.inl (rv (fun _ => 0))))), (o2, .inr (5, [.int (iz 13), .ref e2, .int (zb false)])), (e2, .inl (G.2 2, 3, .inr (.inl (rv (fun _ => 0))))), (o3, .inr (5, [.int (iz 365), .ref e3, .int (zb false)])), (e3, .inl (G.2 2, 8, .inr (.inl (rv (fun _ => 0)))))]) [0, 1, 2, 3, 4, 5, 6, 7] rfl
  have hD := hD.sub (ws' := [(h, .inr (0, [.ref d1, .int (iz 0), .int (iz 0), .ref o1, .ref o2, .null, .null])), (d1, .inl (G.2 0, 300, .inl (av (fun _ => 0)))), (o1, .inr (5, [.int (iz 360), .ref e1, .int (zb false)])), (e1, .inl (G.2 2, 8, .inr (.inl (rv (fun _ => 0))))), (o2, .inr (5, [.int (iz 13), .ref e2, .int (zb false)])), (e2, .inl (G.2 2, 3, .inr (.inl (rv (fun _ => 0))))), (o3, .inr (5, [.int (iz 365), .ref e3, .int (zb false)])), (e3, .inl (G.2 2, 8, .inr (.inl (rv (fun _ => 0)))))]) [0, 1, 2, 3, 4, 5, 6, 7] (by decide) rfl
  refine va_putF (D := G.1) (ci := 0) (v := .ref o3) (ty := (.object "StoneDates$Wheel")) (C := RX1) (T := TX1) (N := 7) hX_ hB_ hts hi_X1_init_X1 tyX1 tyX1_ok nmX1 hown hK.1 hP hD hS 0 rfl rfl 5 (by decide) (hts _ hw_X1_init_4ac8d0) (fun _ h9 => h9) rfl hin rfl (by decide +kernel) rfl rfl (Nat.le_of_ble_eq_true rfl) dX1_init_51 (fun H locs hP hD hS => ?_)
  have hP : va_P G.1 vwCl [(h, .inr (0, [.ref d1, .int (iz 0), .int (iz 0), .ref o1, .ref o2, .ref o3, .null])), (d1, .inl (G.2 0, 300, .inl (av (fun _ => 0)))), (o1, .inr (5, [.int (iz 360), .ref e1, .int (zb false)])), (e1, .inl (G.2 2, 8, .inr (.inl (rv (fun _ => 0))))), (o2, .inr (5, [.int (iz 13), .ref e2, .int (zb false)])), (e2, .inl (G.2 2, 3, .inr (.inl (rv (fun _ => 0))))), (o3, .inr (5, [.int (iz 365), .ref e3, .int (zb false)])), (e3, .inl (G.2 2, 8, .inr (.inl (rv (fun _ => 0)))))] _ := hP
  have hD : va_D A [(h, .inr (0, [.ref d1, .int (iz 0), .int (iz 0), .ref o1, .ref o2, .ref o3, .null])), (d1, .inl (G.2 0, 300, .inl (av (fun _ => 0)))), (o1, .inr (5, [.int (iz 360), .ref e1, .int (zb false)])), (e1, .inl (G.2 2, 8, .inr (.inl (rv (fun _ => 0))))), (o2, .inr (5, [.int (iz 13), .ref e2, .int (zb false)])), (e2, .inl (G.2 2, 3, .inr (.inl (rv (fun _ => 0))))), (o3, .inr (5, [.int (iz 365), .ref e3, .int (zb false)])), (e3, .inl (G.2 2, 8, .inr (.inl (rv (fun _ => 0)))))] := hD
  refine lv_aload_n hX_ hB_ dX1_init_54 rfl (lv_at hl 0 rfl) ?_
  refine va_new (D := G.1) (ci := 5) (fs := [.int (iz 0), .null, .int (zb false)]) (C := RX7) (T := TX7) (N := 3) hX_ hB_ hts hi_X1_init_X7 tyX7 tyX7_ok hown (hts _ hw_X1_init_be5305) (hts _ hw_X1_init_effe72) (hts _ hw_X1_init_0fc290) hK.1 hP hD hS hA rfl (fun j hj => by rcases (show j = 0 ∨ j = 1 ∨ j = 2 by omega) with rfl | rfl | rfl <;> rfl) (by decide) (by decide) dX1_init_55 (fun o4 H hP hD hS => ?_)
  have hP : va_P G.1 vwCl [(h, .inr (0, [.ref d1, .int (iz 0), .int (iz 0), .ref o1, .ref o2, .ref o3, .null])), (d1, .inl (G.2 0, 300, .inl (av (fun _ => 0)))), (o1, .inr (5, [.int (iz 360), .ref e1, .int (zb false)])), (e1, .inl (G.2 2, 8, .inr (.inl (rv (fun _ => 0))))), (o2, .inr (5, [.int (iz 13), .ref e2, .int (zb false)])), (e2, .inl (G.2 2, 3, .inr (.inl (rv (fun _ => 0))))), (o3, .inr (5, [.int (iz 365), .ref e3, .int (zb false)])), (e3, .inl (G.2 2, 8, .inr (.inl (rv (fun _ => 0))))), (o4, .inr (5, [.int (iz 0), .null, .int (zb false)]))] _ := hP
  have hD : va_D A [(h, .inr (0, [.ref d1, .int (iz 0), .int (iz 0), .ref o1, .ref o2, .ref o3, .null])), (d1, .inl (G.2 0, 300, .inl (av (fun _ => 0)))), (o1, .inr (5, [.int (iz 360), .ref e1, .int (zb false)])), (e1, .inl (G.2 2, 8, .inr (.inl (rv (fun _ => 0))))), (o2, .inr (5, [.int (iz 13), .ref e2, .int (zb false)])), (e2, .inl (G.2 2, 3, .inr (.inl (rv (fun _ => 0))))), (o3, .inr (5, [.int (iz 365), .ref e3, .int (zb false)])), (e3, .inl (G.2 2, 8, .inr (.inl (rv (fun _ => 0))))), (o4, .inr (5, [.int (iz 0), .null, .int (zb false)]))] := hD
  refine lv_dup hX_ hB_ dX1_init_58 rfl ?_
  refine zk_sipush hX_ hB_ (by decide) dX1_init_59 ?_
  refine back_v (wr := [(h, .inr (0, [.ref d1, .int (iz 0), .int (iz 0), .ref o1, .ref o2, .ref o3, .null])), (d1, .inl (G.2 0, 300, .inl (av (fun _ => 0)))), (o1, .inr (5, [.int (iz 360), .ref e1, .int (zb false)])), (e1, .inl (G.2 2, 8, .inr (.inl (rv (fun _ => 0))))), (o2, .inr (5, [.int (iz 13), .ref e2, .int (zb false)])), (e2, .inl (G.2 2, 3, .inr (.inl (rv (fun _ => 0))))), (o3, .inr (5, [.int (iz 365), .ref e3, .int (zb false)])), (e3, .inl (G.2 2, 8, .inr (.inl (rv (fun _ => 0)))))]) (run_I (As := [.int (iz 4400)]) (rest := [.ref o4, .ref h]) (wc := [(o4, .inr (5, [.int (iz 0), .null, .int (zb false)]))]) F (c_X7_init l G o4 71 4400 (by omega) (by omega) _) ext0 ggX1_init_X7_init rfl rfl rfl (hts _ hw_X1_init_0fc290) (hts _ hw_X1_init_c59408) (hts _ hw_X1_init_8631ab) rfl mds_X7_init ⟨Nat.le_of_ble_eq_true rfl, Nat.le_of_ble_eq_true rfl⟩ (pre_of ext0 hK hP hD hS hA trivial [8] (by decide) rfl _) rfl hl.1 (Nat.le_of_ble_eq_true rfl) dX1_init_62 ⟨by decide, by decide⟩) hP hD hS hA [8] [0, 1, 2, 3, 4, 5, 6, 7] rfl rfl (by decide) (by decide) (fun u__ H locs hw hP hD hS => ?_)
  obtain ⟨e4, rfl⟩ : ∃ z, z = u__ := ⟨_, rfl⟩
  try dsimp only at hw hP hD
  have hw_62 := hw
  have hP := hP.sub (ws' := [(h, .inr (0, [.ref d1, .int (iz 0), .int (iz 0), .ref o1, .ref o2, .ref o3, .null])), (d1, .inl (G.2 0, 300, .inl (av (fun _ => 0)))), (o1, .inr (5, [.int (iz 360), .ref e1, .int (zb false)])), (e1, .inl (G.2 2, 8, .inr (.inl (rv (fun _ => 0))))), (o2, .inr (5, [.int (iz 13), .ref e2, .int (zb false)])), (e2, .inl (G.2 2, 3, .inr (.inl (rv (fun _ => 0))))), (o3, .inr (5, [.int (iz 365), .ref e3, .int (zb false)])), (e3, .inl (G.2 2, 8, .inr (.inl (rv (fun _ => 0))))), (o4, .inr (5, [.int (iz 4400), .ref e4, .int (zb false)])), (e4, .inl (G.2 2, 71, .inr (.inl (rv (fun _ => 0)))))]) [0, 1, 2, 3, 4, 5, 6, 7, 8, 9] rfl
  have hD := hD.sub (ws' := [(h, .inr (0, [.ref d1, .int (iz 0), .int (iz 0), .ref o1, .ref o2, .ref o3, .null])), (d1, .inl (G.2 0, 300, .inl (av (fun _ => 0)))), (o1, .inr (5, [.int (iz 360), .ref e1, .int (zb false)])), (e1, .inl (G.2 2, 8, .inr (.inl (rv (fun _ => 0))))), (o2, .inr (5, [.int (iz 13), .ref e2, .int (zb false)])), (e2, .inl (G.2 2, 3, .inr (.inl (rv (fun _ => 0))))), (o3, .inr (5, [.int (iz 365), .ref e3, .int (zb false)])), (e3, .inl (G.2 2, 8, .inr (.inl (rv (fun _ => 0))))), (o4, .inr (5, [.int (iz 4400), .ref e4, .int (zb false)])), (e4, .inl (G.2 2, 71, .inr (.inl (rv (fun _ => 0)))))]) [0, 1, 2, 3, 4, 5, 6, 7, 8, 9] (by decide) rfl
  refine va_putF (D := G.1) (ci := 0) (v := .ref o4) (ty := (.object "StoneDates$Wheel")) (C := RX1) (T := TX1) (N := 7) hX_ hB_ hts hi_X1_init_X1 tyX1 tyX1_ok nmX1 hown hK.1 hP hD hS 0 rfl rfl 6 (by decide) (hts _ hw_X1_init_20a1a4) (fun _ h9 => h9) rfl hin rfl (by decide +kernel) rfl rfl (Nat.le_of_ble_eq_true rfl) dX1_init_65 (fun H locs hP hD hS => ?_)
  have hP : va_P G.1 vwCl [(h, .inr (0, [.ref d1, .int (iz 0), .int (iz 0), .ref o1, .ref o2, .ref o3, .ref o4])), (d1, .inl (G.2 0, 300, .inl (av (fun _ => 0)))), (o1, .inr (5, [.int (iz 360), .ref e1, .int (zb false)])), (e1, .inl (G.2 2, 8, .inr (.inl (rv (fun _ => 0))))), (o2, .inr (5, [.int (iz 13), .ref e2, .int (zb false)])), (e2, .inl (G.2 2, 3, .inr (.inl (rv (fun _ => 0))))), (o3, .inr (5, [.int (iz 365), .ref e3, .int (zb false)])), (e3, .inl (G.2 2, 8, .inr (.inl (rv (fun _ => 0))))), (o4, .inr (5, [.int (iz 4400), .ref e4, .int (zb false)])), (e4, .inl (G.2 2, 71, .inr (.inl (rv (fun _ => 0)))))] _ := hP
  have hD : va_D A [(h, .inr (0, [.ref d1, .int (iz 0), .int (iz 0), .ref o1, .ref o2, .ref o3, .ref o4])), (d1, .inl (G.2 0, 300, .inl (av (fun _ => 0)))), (o1, .inr (5, [.int (iz 360), .ref e1, .int (zb false)])), (e1, .inl (G.2 2, 8, .inr (.inl (rv (fun _ => 0))))), (o2, .inr (5, [.int (iz 13), .ref e2, .int (zb false)])), (e2, .inl (G.2 2, 3, .inr (.inl (rv (fun _ => 0))))), (o3, .inr (5, [.int (iz 365), .ref e3, .int (zb false)])), (e3, .inl (G.2 2, 8, .inr (.inl (rv (fun _ => 0))))), (o4, .inr (5, [.int (iz 4400), .ref e4, .int (zb false)])), (e4, .inl (G.2 2, 71, .inr (.inl (rv (fun _ => 0)))))] := hD
  exact fin_v (wf := (fun u : Nat × Nat × Nat × Nat × Nat × Nat × Nat × Nat × Nat => match u with | (dA, w1, b1, w2, b2, w3, b3, w4, b4) => [(h, .inr (0, [.ref dA, .int (iz 0), .int (iz 0), .ref w1, .ref w2, .ref w3, .ref w4])), (dA, .inl (G.2 0, 300, .inl (av (fun _ => 0)))), (w1, .inr (5, [.int (iz 360), .ref b1, .int (zb false)])), (b1, .inl (G.2 2, 8, .inr (.inl (rv (fun _ => 0))))), (w2, .inr (5, [.int (iz 13), .ref b2, .int (zb false)])), (b2, .inl (G.2 2, 3, .inr (.inl (rv (fun _ => 0))))), (w3, .inr (5, [.int (iz 365), .ref b3, .int (zb false)])), (b3, .inl (G.2 2, 8, .inr (.inl (rv (fun _ => 0))))), (w4, .inr (5, [.int (iz 4400), .ref b4, .int (zb false)])), (b4, .inl (G.2 2, 71, .inr (.inl (rv (fun _ => 0)))))])) (d1, o1, e1, o2, e2, o3, e3, o4, e4) F hP hD hK hS (by decide) (by decide) dX1_init_68 trivial

theorem hw_X6_init_134ff4 : (.methodLink RX6 1 objectInit : Cond) ∈ wsX6_init := by decide +kernel
theorem hw_X6_init_fba9d5 : (.instanceMethod objectInit : Cond) ∈ wsX6_init := by decide +kernel
theorem hw_X6_init_9febdb : (.code objectInit ⟨#[0xb1]⟩ 1 none : Cond) ∈ wsX6_init := by decide +kernel
theorem hw_X6_init_6d60b8 : (.fieldLink RX6 7 "StoneDates$Stone" "base" "I" : Cond) ∈ wsX6_init := by decide +kernel
theorem hi_X6_init_X6 : ∀ w ∈ u_ws RX6 TX6 4, w ∈ wsX6_init := by decide +kernel
theorem hw_X6_init_6c15d0 : (.fieldLink RX6 13 "StoneDates$Stone" "sets" "[I" : Cond) ∈ wsX6_init := by decide +kernel
theorem hw_X6_init_3a046f : (.fieldLink RX6 17 "StoneDates$Stone" "days" "[I" : Cond) ∈ wsX6_init := by decide +kernel
theorem hw_X6_init_a5b524 : (.fieldLink RX6 20 "StoneDates$Stone" "many" "I" : Cond) ∈ wsX6_init := by decide +kernel
set_option maxHeartbeats 4000000 in
set_option maxRecDepth 100000 in
theorem c_X6_init (l : Launch) (G : GG) (h : Nat) (b : Int) (sA : Nat) (dA : Nat) (many : Int) : Cv l yX6_init wsX6_init ({ frames := 1, cells := 0, slots := 0, locals := 20 }) G E0 [.ref h, .int (iz b), .ref sA, .ref dA, .int (iz many)] [(h, .inr (4, [.int (iz 0), .null, .null, .int (iz 0)]))] 0 0 (fun _ : Unit => [(h, .inr (4, [.int (iz b), .ref sA, .ref dA, .int (iz many)]))]) (fun (_ : Unit) => True) := by
  refine Cv_intro (cc := cX6_init) (maxL := 5) (ret := none) (by decide) rfl (Nat.le_of_ble_eq_true rfl) ?_
  intro p e s m below meth c A F hA hP hD hK hE ls hl
  have hX_ := F.1
  have hB_ := F.2.1
  have hts := F.2.2.2.2.2.1
  have hown := F.2.2.2.2.1
  have hml := F.2.2.2.1
  have hin : meth.name = "<init>" := F.2.2.2.2.2.2.2
  have hS : va_S A s.heap s.heap [] := va_S.rf
  have hl : lv_has ls 5 [(0, .ref h), (1, .int (iz b)), (2, .ref sA), (3, .ref dA), (4, .int (iz many))] := hl
  refine lv_aload_n hX_ hB_ dX6_init_0 rfl (lv_at hl 0 rfl) ?_
  refine W.objInit hX_ hB_ hown (hts _ hw_X6_init_134ff4) (hts _ hw_X6_init_fba9d5) (hts _ hw_X6_init_9febdb) rfl (by rw [hml]; exact hl.1) rfl dX6_init_1 (Nat.le_of_ble_eq_true rfl) (Nat.le_of_ble_eq_true rfl) ?_
  refine W.eq (g2 := F0 m 4 ls []) rfl ?_
  refine lv_aload_n hX_ hB_ dX6_init_4 rfl (lv_at hl 0 rfl) ?_
  refine lv_iload_n hX_ hB_ dX6_init_5 rfl (lv_at hl 1 rfl) ?_
  refine va_putF (D := G.1) (ci := 4) (v := .int (iz b)) (ty := .int) (C := RX6) (T := TX6) (N := 4) hX_ hB_ hts hi_X6_init_X6 tyX6 tyX6_ok nmX6 hown hK.1 hP hD hS 0 rfl rfl 0 (by decide) (hts _ hw_X6_init_6d60b8) (fun _ h9 => h9) rfl hin rfl (by decide +kernel) rfl rfl (Nat.le_of_ble_eq_true rfl) dX6_init_6 (fun H locs hP hD hS => ?_)
  have hP : va_P G.1 vwCl [(h, .inr (4, [.int (iz b), .null, .null, .int (iz 0)]))] _ := hP
  have hD : va_D A [(h, .inr (4, [.int (iz b), .null, .null, .int (iz 0)]))] := hD
  refine lv_aload_n hX_ hB_ dX6_init_9 rfl (lv_at hl 0 rfl) ?_
  refine lv_aload_n hX_ hB_ dX6_init_10 rfl (lv_at hl 2 rfl) ?_
  refine va_putF (D := G.1) (ci := 4) (v := .ref sA) (ty := (.array .int)) (C := RX6) (T := TX6) (N := 4) hX_ hB_ hts hi_X6_init_X6 tyX6 tyX6_ok nmX6 hown hK.1 hP hD hS 0 rfl rfl 1 (by decide) (hts _ hw_X6_init_6c15d0) (fun _ h9 => h9) rfl hin rfl (by decide +kernel) rfl rfl (Nat.le_of_ble_eq_true rfl) dX6_init_11 (fun H locs hP hD hS => ?_)
  have hP : va_P G.1 vwCl [(h, .inr (4, [.int (iz b), .ref sA, .null, .int (iz 0)]))] _ := hP
  have hD : va_D A [(h, .inr (4, [.int (iz b), .ref sA, .null, .int (iz 0)]))] := hD
  refine lv_aload_n hX_ hB_ dX6_init_14 rfl (lv_at hl 0 rfl) ?_
  refine lv_aload_n hX_ hB_ dX6_init_15 rfl (lv_at hl 3 rfl) ?_
  refine va_putF (D := G.1) (ci := 4) (v := .ref dA) (ty := (.array .int)) (C := RX6) (T := TX6) (N := 4) hX_ hB_ hts hi_X6_init_X6 tyX6 tyX6_ok nmX6 hown hK.1 hP hD hS 0 rfl rfl 2 (by decide) (hts _ hw_X6_init_3a046f) (fun _ h9 => h9) rfl hin rfl (by decide +kernel) rfl rfl (Nat.le_of_ble_eq_true rfl) dX6_init_16 (fun H locs hP hD hS => ?_)
  have hP : va_P G.1 vwCl [(h, .inr (4, [.int (iz b), .ref sA, .ref dA, .int (iz 0)]))] _ := hP
  have hD : va_D A [(h, .inr (4, [.int (iz b), .ref sA, .ref dA, .int (iz 0)]))] := hD
  refine lv_aload_n hX_ hB_ dX6_init_19 rfl (lv_at hl 0 rfl) ?_
  refine lv_iload hX_ hB_ dX6_init_20 (lv_at hl 4 rfl) ?_
  refine va_putF (D := G.1) (ci := 4) (v := .int (iz many)) (ty := .int) (C := RX6) (T := TX6) (N := 4) hX_ hB_ hts hi_X6_init_X6 tyX6 tyX6_ok nmX6 hown hK.1 hP hD hS 0 rfl rfl 3 (by decide) (hts _ hw_X6_init_a5b524) (fun _ h9 => h9) rfl hin rfl (by decide +kernel) rfl rfl (Nat.le_of_ble_eq_true rfl) dX6_init_22 (fun H locs hP hD hS => ?_)
  have hP : va_P G.1 vwCl [(h, .inr (4, [.int (iz b), .ref sA, .ref dA, .int (iz many)]))] _ := hP
  have hD : va_D A [(h, .inr (4, [.int (iz b), .ref sA, .ref dA, .int (iz many)]))] := hD
  exact fin_v (wf := (fun _ : Unit => [(h, .inr (4, [.int (iz b), .ref sA, .ref dA, .int (iz many)]))])) () F hP hD hK hS (by decide) (by decide) dX6_init_25 trivial

theorem hw_X5_init_02a479 : (.methodLink RX5 3 objectInit : Cond) ∈ wsX5_init := by decide +kernel
theorem hw_X5_init_fba9d5 : (.instanceMethod objectInit : Cond) ∈ wsX5_init := by decide +kernel
theorem hw_X5_init_9febdb : (.code objectInit ⟨#[0xb1]⟩ 1 none : Cond) ∈ wsX5_init := by decide +kernel
theorem hw_X5_init_d160d5 : (.arrayClass .int : Cond) ∈ wsX5_init := by decide +kernel
theorem hw_X5_init_33b0e1 : (.fieldLink RX5 9 "StoneDates$Sky" "eclipses" "[I" : Cond) ∈ wsX5_init := by decide +kernel
theorem hi_X5_init_X5 : ∀ w ∈ u_ws RX5 TX5 15, w ∈ wsX5_init := by decide +kernel
theorem hw_X5_init_3be308 : (.arrayClass .boolean : Cond) ∈ wsX5_init := by decide +kernel
theorem hw_X5_init_ea45f9 : (.fieldLink RX5 15 "StoneDates$Sky" "isNaming" "[Z" : Cond) ∈ wsX5_init := by decide +kernel
theorem hw_X5_init_336b52 : (.fieldLink RX5 19 "StoneDates$Sky" "dayOf" "[I" : Cond) ∈ wsX5_init := by decide +kernel
theorem hw_X5_init_520157 : (.fieldLink RX5 22 "StoneDates$Sky" "turns" "[I" : Cond) ∈ wsX5_init := by decide +kernel
theorem hw_X5_init_069bc0 : (.fieldLink RX5 25 "StoneDates$Sky" "dates" "[I" : Cond) ∈ wsX5_init := by decide +kernel
theorem hw_X5_init_a6b57e : (.fieldLink RX5 28 "StoneDates$Sky" "next" "[I" : Cond) ∈ wsX5_init := by decide +kernel
theorem hw_X5_init_927464 : (.fieldLink RX5 31 "StoneDates$Sky" "solvedNear" "I" : Cond) ∈ wsX5_init := by decide +kernel
set_option maxHeartbeats 4000000 in
set_option maxRecDepth 100000 in
theorem c_X5_init (l : Launch) (G : GG) (h : Nat) : Cv l yX5_init wsX5_init ({ frames := 1, cells := 6, slots := 280, locals := 20 }) G E0 [.ref h] [(h, .inr (3, [.int (iz 0), .int (iz 0), .int (iz 0), .int (iz 0), .null, .null, .null, .null, .null, .null, .int (iz 0), .int (iz 0), .int (iz 0), .long (lz 0), .long (lz 0)]))] 6 280 (fun u : Nat × Nat × Nat × Nat × Nat × Nat => match u with | (eA, nA, oA, tA, aA, xA) => [(h, .inr (3, [.int (iz 0), .int (iz 0), .int (iz 0), .int (iz 0), .ref eA, .ref nA, .ref oA, .ref tA, .ref aA, .ref xA, .int (iz (-1)), .int (iz 0), .int (iz 0), .long (lz 0), .long (lz 0)])), (eA, .inl (G.2 0, 40, .inl (av (fun _ => 0)))), (nA, .inl (G.2 3, 30, .inl (bv (fun _ => false)))), (oA, .inl (G.2 0, 30, .inl (av (fun _ => 0)))), (tA, .inl (G.2 0, 120, .inl (av (fun _ => 0)))), (aA, .inl (G.2 0, 30, .inl (av (fun _ => 0)))), (xA, .inl (G.2 0, 30, .inl (av (fun _ => 0))))]) (fun (u : Nat × Nat × Nat × Nat × Nat × Nat) => match u with | (eA, nA, oA, tA, aA, xA) => True) := by
  refine Cv_intro (cc := cX5_init) (maxL := 1) (ret := none) (by decide) rfl (Nat.le_of_ble_eq_true rfl) ?_
  intro p e s m below meth c A F hA hP hD hK hE ls hl
  have hX_ := F.1
  have hB_ := F.2.1
  have hts := F.2.2.2.2.2.1
  have hown := F.2.2.2.2.1
  have hml := F.2.2.2.1
  have hin : meth.name = "<init>" := F.2.2.2.2.2.2.2
  have hS : va_S A s.heap s.heap [] := va_S.rf
  have hl : lv_has ls 1 [(0, .ref h)] := hl
  refine lv_aload_n hX_ hB_ dX5_init_0 rfl (lv_at hl 0 rfl) ?_
  refine W.objInit hX_ hB_ hown (hts _ hw_X5_init_02a479) (hts _ hw_X5_init_fba9d5) (hts _ hw_X5_init_9febdb) rfl (by rw [hml]; exact hl.1) rfl dX5_init_1 (Nat.le_of_ble_eq_true rfl) (Nat.le_of_ble_eq_true rfl) ?_
  refine W.eq (g2 := F0 m 4 ls []) rfl ?_
  refine lv_aload_n hX_ hB_ dX5_init_4 rfl (lv_at hl 0 rfl) ?_
  refine zk_bipush hX_ hB_ (by decide) dX5_init_5 ?_
  refine zk_newa (atype := .int) (a0 := (40, .inl (av (fun _ => 0)))) hX_ hB_ (hts _ hw_X5_init_d160d5) rfl hK.2.1 hP hD hS hA (N := 40) rfl (by omega) (by omega) (by omega) (by decide) (by decide) (by decide) dX5_init_7 (fun v1 H hP hD hS => ?_)
  have hP : va_P G.1 vwCl [(h, .inr (3, [.int (iz 0), .int (iz 0), .int (iz 0), .int (iz 0), .null, .null, .null, .null, .null, .null, .int (iz 0), .int (iz 0), .int (iz 0), .long (lz 0), .long (lz 0)])), (v1, .inl (G.2 0, 40, .inl (av (fun _ => 0))))] _ := hP
  have hD : va_D A [(h, .inr (3, [.int (iz 0), .int (iz 0), .int (iz 0), .int (iz 0), .null, .null, .null, .null, .null, .null, .int (iz 0), .int (iz 0), .int (iz 0), .long (lz 0), .long (lz 0)])), (v1, .inl (G.2 0, 40, .inl (av (fun _ => 0))))] := hD
  refine va_putF (D := G.1) (ci := 3) (v := .ref v1) (ty := (.array .int)) (C := RX5) (T := TX5) (N := 15) hX_ hB_ hts hi_X5_init_X5 tyX5 tyX5_ok nmX5 hown hK.1 hP hD hS 0 rfl rfl 4 (by decide) (hts _ hw_X5_init_33b0e1) (fun _ h9 => h9) rfl hin rfl (by decide +kernel) rfl rfl (Nat.le_of_ble_eq_true rfl) dX5_init_9 (fun H locs hP hD hS => ?_)
  have hP : va_P G.1 vwCl [(h, .inr (3, [.int (iz 0), .int (iz 0), .int (iz 0), .int (iz 0), .ref v1, .null, .null, .null, .null, .null, .int (iz 0), .int (iz 0), .int (iz 0), .long (lz 0), .long (lz 0)])), (v1, .inl (G.2 0, 40, .inl (av (fun _ => 0))))] _ := hP
  have hD : va_D A [(h, .inr (3, [.int (iz 0), .int (iz 0), .int (iz 0), .int (iz 0), .ref v1, .null, .null, .null, .null, .null, .int (iz 0), .int (iz 0), .int (iz 0), .long (lz 0), .long (lz 0)])), (v1, .inl (G.2 0, 40, .inl (av (fun _ => 0))))] := hD
  refine lv_aload_n hX_ hB_ dX5_init_12 rfl (lv_at hl 0 rfl) ?_
  refine zk_bipush hX_ hB_ (by decide) dX5_init_13 ?_
  refine zk_newa (atype := .boolean) (a0 := (30, .inl (bv (fun _ => false)))) hX_ hB_ (hts _ hw_X5_init_3be308) rfl hK.2.2.2.2.1 hP hD hS hA (N := 30) rfl (by omega) (by omega) (by omega) (by decide) (by decide) (by decide) dX5_init_15 (fun v2 H hP hD hS => ?_)
  have hP : va_P G.1 vwCl [(h, .inr (3, [.int (iz 0), .int (iz 0), .int (iz 0), .int (iz 0), .ref v1, .null, .null, .null, .null, .null, .int (iz 0), .int (iz 0), .int (iz 0), .long (lz 0), .long (lz 0)])), (v1, .inl (G.2 0, 40, .inl (av (fun _ => 0)))), (v2, .inl (G.2 3, 30, .inl (bv (fun _ => false))))] _ := hP
  have hD : va_D A [(h, .inr (3, [.int (iz 0), .int (iz 0), .int (iz 0), .int (iz 0), .ref v1, .null, .null, .null, .null, .null, .int (iz 0), .int (iz 0), .int (iz 0), .long (lz 0), .long (lz 0)])), (v1, .inl (G.2 0, 40, .inl (av (fun _ => 0)))), (v2, .inl (G.2 3, 30, .inl (bv (fun _ => false))))] := hD
  refine va_putF (D := G.1) (ci := 3) (v := .ref v2) (ty := (.array .boolean)) (C := RX5) (T := TX5) (N := 15) hX_ hB_ hts hi_X5_init_X5 tyX5 tyX5_ok nmX5 hown hK.1 hP hD hS 0 rfl rfl 5 (by decide) (hts _ hw_X5_init_ea45f9) (fun _ h9 => h9) rfl hin rfl (by decide +kernel) rfl rfl (Nat.le_of_ble_eq_true rfl) dX5_init_17 (fun H locs hP hD hS => ?_)
  have hP : va_P G.1 vwCl [(h, .inr (3, [.int (iz 0), .int (iz 0), .int (iz 0), .int (iz 0), .ref v1, .ref v2, .null, .null, .null, .null, .int (iz 0), .int (iz 0), .int (iz 0), .long (lz 0), .long (lz 0)])), (v1, .inl (G.2 0, 40, .inl (av (fun _ => 0)))), (v2, .inl (G.2 3, 30, .inl (bv (fun _ => false))))] _ := hP
  have hD : va_D A [(h, .inr (3, [.int (iz 0), .int (iz 0), .int (iz 0), .int (iz 0), .ref v1, .ref v2, .null, .null, .null, .null, .int (iz 0), .int (iz 0), .int (iz 0), .long (lz 0), .long (lz 0)])), (v1, .inl (G.2 0, 40, .inl (av (fun _ => 0)))), (v2, .inl (G.2 3, 30, .inl (bv (fun _ => false))))] := hD
  refine lv_aload_n hX_ hB_ dX5_init_20 rfl (lv_at hl 0 rfl) ?_
  refine zk_bipush hX_ hB_ (by decide) dX5_init_21 ?_
  refine zk_newa (atype := .int) (a0 := (30, .inl (av (fun _ => 0)))) hX_ hB_ (hts _ hw_X5_init_d160d5) rfl hK.2.1 hP hD hS hA (N := 30) rfl (by omega) (by omega) (by omega) (by decide) (by decide) (by decide) dX5_init_23 (fun v3 H hP hD hS => ?_)
  have hP : va_P G.1 vwCl [(h, .inr (3, [.int (iz 0), .int (iz 0), .int (iz 0), .int (iz 0), .ref v1, .ref v2, .null, .null, .null, .null, .int (iz 0), .int (iz 0), .int (iz 0), .long (lz 0), .long (lz 0)])), (v1, .inl (G.2 0, 40, .inl (av (fun _ => 0)))), (v2, .inl (G.2 3, 30, .inl (bv (fun _ => false)))), (v3, .inl (G.2 0, 30, .inl (av (fun _ => 0))))] _ := hP
  have hD : va_D A [(h, .inr (3, [.int (iz 0), .int (iz 0), .int (iz 0), .int (iz 0), .ref v1, .ref v2, .null, .null, .null, .null, .int (iz 0), .int (iz 0), .int (iz 0), .long (lz 0), .long (lz 0)])), (v1, .inl (G.2 0, 40, .inl (av (fun _ => 0)))), (v2, .inl (G.2 3, 30, .inl (bv (fun _ => false)))), (v3, .inl (G.2 0, 30, .inl (av (fun _ => 0))))] := hD
  refine va_putF (D := G.1) (ci := 3) (v := .ref v3) (ty := (.array .int)) (C := RX5) (T := TX5) (N := 15) hX_ hB_ hts hi_X5_init_X5 tyX5 tyX5_ok nmX5 hown hK.1 hP hD hS 0 rfl rfl 6 (by decide) (hts _ hw_X5_init_336b52) (fun _ h9 => h9) rfl hin rfl (by decide +kernel) rfl rfl (Nat.le_of_ble_eq_true rfl) dX5_init_25 (fun H locs hP hD hS => ?_)
  have hP : va_P G.1 vwCl [(h, .inr (3, [.int (iz 0), .int (iz 0), .int (iz 0), .int (iz 0), .ref v1, .ref v2, .ref v3, .null, .null, .null, .int (iz 0), .int (iz 0), .int (iz 0), .long (lz 0), .long (lz 0)])), (v1, .inl (G.2 0, 40, .inl (av (fun _ => 0)))), (v2, .inl (G.2 3, 30, .inl (bv (fun _ => false)))), (v3, .inl (G.2 0, 30, .inl (av (fun _ => 0))))] _ := hP
  have hD : va_D A [(h, .inr (3, [.int (iz 0), .int (iz 0), .int (iz 0), .int (iz 0), .ref v1, .ref v2, .ref v3, .null, .null, .null, .int (iz 0), .int (iz 0), .int (iz 0), .long (lz 0), .long (lz 0)])), (v1, .inl (G.2 0, 40, .inl (av (fun _ => 0)))), (v2, .inl (G.2 3, 30, .inl (bv (fun _ => false)))), (v3, .inl (G.2 0, 30, .inl (av (fun _ => 0))))] := hD
  refine lv_aload_n hX_ hB_ dX5_init_28 rfl (lv_at hl 0 rfl) ?_
  refine zk_bipush hX_ hB_ (by decide) dX5_init_29 ?_
  refine zk_newa (atype := .int) (a0 := (120, .inl (av (fun _ => 0)))) hX_ hB_ (hts _ hw_X5_init_d160d5) rfl hK.2.1 hP hD hS hA (N := 120) rfl (by omega) (by omega) (by omega) (by decide) (by decide) (by decide) dX5_init_31 (fun v4 H hP hD hS => ?_)
  have hP : va_P G.1 vwCl [(h, .inr (3, [.int (iz 0), .int (iz 0), .int (iz 0), .int (iz 0), .ref v1, .ref v2, .ref v3, .null, .null, .null, .int (iz 0), .int (iz 0), .int (iz 0), .long (lz 0), .long (lz 0)])), (v1, .inl (G.2 0, 40, .inl (av (fun _ => 0)))), (v2, .inl (G.2 3, 30, .inl (bv (fun _ => false)))), (v3, .inl (G.2 0, 30, .inl (av (fun _ => 0)))), (v4, .inl (G.2 0, 120, .inl (av (fun _ => 0))))] _ := hP
  have hD : va_D A [(h, .inr (3, [.int (iz 0), .int (iz 0), .int (iz 0), .int (iz 0), .ref v1, .ref v2, .ref v3, .null, .null, .null, .int (iz 0), .int (iz 0), .int (iz 0), .long (lz 0), .long (lz 0)])), (v1, .inl (G.2 0, 40, .inl (av (fun _ => 0)))), (v2, .inl (G.2 3, 30, .inl (bv (fun _ => false)))), (v3, .inl (G.2 0, 30, .inl (av (fun _ => 0)))), (v4, .inl (G.2 0, 120, .inl (av (fun _ => 0))))] := hD
  refine va_putF (D := G.1) (ci := 3) (v := .ref v4) (ty := (.array .int)) (C := RX5) (T := TX5) (N := 15) hX_ hB_ hts hi_X5_init_X5 tyX5 tyX5_ok nmX5 hown hK.1 hP hD hS 0 rfl rfl 7 (by decide) (hts _ hw_X5_init_520157) (fun _ h9 => h9) rfl hin rfl (by decide +kernel) rfl rfl (Nat.le_of_ble_eq_true rfl) dX5_init_33 (fun H locs hP hD hS => ?_)
  have hP : va_P G.1 vwCl [(h, .inr (3, [.int (iz 0), .int (iz 0), .int (iz 0), .int (iz 0), .ref v1, .ref v2, .ref v3, .ref v4, .null, .null, .int (iz 0), .int (iz 0), .int (iz 0), .long (lz 0), .long (lz 0)])), (v1, .inl (G.2 0, 40, .inl (av (fun _ => 0)))), (v2, .inl (G.2 3, 30, .inl (bv (fun _ => false)))), (v3, .inl (G.2 0, 30, .inl (av (fun _ => 0)))), (v4, .inl (G.2 0, 120, .inl (av (fun _ => 0))))] _ := hP
  have hD : va_D A [(h, .inr (3, [.int (iz 0), .int (iz 0), .int (iz 0), .int (iz 0), .ref v1, .ref v2, .ref v3, .ref v4, .null, .null, .int (iz 0), .int (iz 0), .int (iz 0), .long (lz 0), .long (lz 0)])), (v1, .inl (G.2 0, 40, .inl (av (fun _ => 0)))), (v2, .inl (G.2 3, 30, .inl (bv (fun _ => false)))), (v3, .inl (G.2 0, 30, .inl (av (fun _ => 0)))), (v4, .inl (G.2 0, 120, .inl (av (fun _ => 0))))] := hD
  refine lv_aload_n hX_ hB_ dX5_init_36 rfl (lv_at hl 0 rfl) ?_
  refine zk_bipush hX_ hB_ (by decide) dX5_init_37 ?_
  refine zk_newa (atype := .int) (a0 := (30, .inl (av (fun _ => 0)))) hX_ hB_ (hts _ hw_X5_init_d160d5) rfl hK.2.1 hP hD hS hA (N := 30) rfl (by omega) (by omega) (by omega) (by decide) (by decide) (by decide) dX5_init_39 (fun v5 H hP hD hS => ?_)
  have hP : va_P G.1 vwCl [(h, .inr (3, [.int (iz 0), .int (iz 0), .int (iz 0), .int (iz 0), .ref v1, .ref v2, .ref v3, .ref v4, .null, .null, .int (iz 0), .int (iz 0), .int (iz 0), .long (lz 0), .long (lz 0)])), (v1, .inl (G.2 0, 40, .inl (av (fun _ => 0)))), (v2, .inl (G.2 3, 30, .inl (bv (fun _ => false)))), (v3, .inl (G.2 0, 30, .inl (av (fun _ => 0)))), (v4, .inl (G.2 0, 120, .inl (av (fun _ => 0)))), (v5, .inl (G.2 0, 30, .inl (av (fun _ => 0))))] _ := hP
  have hD : va_D A [(h, .inr (3, [.int (iz 0), .int (iz 0), .int (iz 0), .int (iz 0), .ref v1, .ref v2, .ref v3, .ref v4, .null, .null, .int (iz 0), .int (iz 0), .int (iz 0), .long (lz 0), .long (lz 0)])), (v1, .inl (G.2 0, 40, .inl (av (fun _ => 0)))), (v2, .inl (G.2 3, 30, .inl (bv (fun _ => false)))), (v3, .inl (G.2 0, 30, .inl (av (fun _ => 0)))), (v4, .inl (G.2 0, 120, .inl (av (fun _ => 0)))), (v5, .inl (G.2 0, 30, .inl (av (fun _ => 0))))] := hD
  refine va_putF (D := G.1) (ci := 3) (v := .ref v5) (ty := (.array .int)) (C := RX5) (T := TX5) (N := 15) hX_ hB_ hts hi_X5_init_X5 tyX5 tyX5_ok nmX5 hown hK.1 hP hD hS 0 rfl rfl 8 (by decide) (hts _ hw_X5_init_069bc0) (fun _ h9 => h9) rfl hin rfl (by decide +kernel) rfl rfl (Nat.le_of_ble_eq_true rfl) dX5_init_41 (fun H locs hP hD hS => ?_)
  have hP : va_P G.1 vwCl [(h, .inr (3, [.int (iz 0), .int (iz 0), .int (iz 0), .int (iz 0), .ref v1, .ref v2, .ref v3, .ref v4, .ref v5, .null, .int (iz 0), .int (iz 0), .int (iz 0), .long (lz 0), .long (lz 0)])), (v1, .inl (G.2 0, 40, .inl (av (fun _ => 0)))), (v2, .inl (G.2 3, 30, .inl (bv (fun _ => false)))), (v3, .inl (G.2 0, 30, .inl (av (fun _ => 0)))), (v4, .inl (G.2 0, 120, .inl (av (fun _ => 0)))), (v5, .inl (G.2 0, 30, .inl (av (fun _ => 0))))] _ := hP
  have hD : va_D A [(h, .inr (3, [.int (iz 0), .int (iz 0), .int (iz 0), .int (iz 0), .ref v1, .ref v2, .ref v3, .ref v4, .ref v5, .null, .int (iz 0), .int (iz 0), .int (iz 0), .long (lz 0), .long (lz 0)])), (v1, .inl (G.2 0, 40, .inl (av (fun _ => 0)))), (v2, .inl (G.2 3, 30, .inl (bv (fun _ => false)))), (v3, .inl (G.2 0, 30, .inl (av (fun _ => 0)))), (v4, .inl (G.2 0, 120, .inl (av (fun _ => 0)))), (v5, .inl (G.2 0, 30, .inl (av (fun _ => 0))))] := hD
  refine lv_aload_n hX_ hB_ dX5_init_44 rfl (lv_at hl 0 rfl) ?_
  refine zk_bipush hX_ hB_ (by decide) dX5_init_45 ?_
  refine zk_newa (atype := .int) (a0 := (30, .inl (av (fun _ => 0)))) hX_ hB_ (hts _ hw_X5_init_d160d5) rfl hK.2.1 hP hD hS hA (N := 30) rfl (by omega) (by omega) (by omega) (by decide) (by decide) (by decide) dX5_init_47 (fun v6 H hP hD hS => ?_)
  have hP : va_P G.1 vwCl [(h, .inr (3, [.int (iz 0), .int (iz 0), .int (iz 0), .int (iz 0), .ref v1, .ref v2, .ref v3, .ref v4, .ref v5, .null, .int (iz 0), .int (iz 0), .int (iz 0), .long (lz 0), .long (lz 0)])), (v1, .inl (G.2 0, 40, .inl (av (fun _ => 0)))), (v2, .inl (G.2 3, 30, .inl (bv (fun _ => false)))), (v3, .inl (G.2 0, 30, .inl (av (fun _ => 0)))), (v4, .inl (G.2 0, 120, .inl (av (fun _ => 0)))), (v5, .inl (G.2 0, 30, .inl (av (fun _ => 0)))), (v6, .inl (G.2 0, 30, .inl (av (fun _ => 0))))] _ := hP
  have hD : va_D A [(h, .inr (3, [.int (iz 0), .int (iz 0), .int (iz 0), .int (iz 0), .ref v1, .ref v2, .ref v3, .ref v4, .ref v5, .null, .int (iz 0), .int (iz 0), .int (iz 0), .long (lz 0), .long (lz 0)])), (v1, .inl (G.2 0, 40, .inl (av (fun _ => 0)))), (v2, .inl (G.2 3, 30, .inl (bv (fun _ => false)))), (v3, .inl (G.2 0, 30, .inl (av (fun _ => 0)))), (v4, .inl (G.2 0, 120, .inl (av (fun _ => 0)))), (v5, .inl (G.2 0, 30, .inl (av (fun _ => 0)))), (v6, .inl (G.2 0, 30, .inl (av (fun _ => 0))))] := hD
  refine va_putF (D := G.1) (ci := 3) (v := .ref v6) (ty := (.array .int)) (C := RX5) (T := TX5) (N := 15) hX_ hB_ hts hi_X5_init_X5 tyX5 tyX5_ok nmX5 hown hK.1 hP hD hS 0 rfl rfl 9 (by decide) (hts _ hw_X5_init_a6b57e) (fun _ h9 => h9) rfl hin rfl (by decide +kernel) rfl rfl (Nat.le_of_ble_eq_true rfl) dX5_init_49 (fun H locs hP hD hS => ?_)
  have hP : va_P G.1 vwCl [(h, .inr (3, [.int (iz 0), .int (iz 0), .int (iz 0), .int (iz 0), .ref v1, .ref v2, .ref v3, .ref v4, .ref v5, .ref v6, .int (iz 0), .int (iz 0), .int (iz 0), .long (lz 0), .long (lz 0)])), (v1, .inl (G.2 0, 40, .inl (av (fun _ => 0)))), (v2, .inl (G.2 3, 30, .inl (bv (fun _ => false)))), (v3, .inl (G.2 0, 30, .inl (av (fun _ => 0)))), (v4, .inl (G.2 0, 120, .inl (av (fun _ => 0)))), (v5, .inl (G.2 0, 30, .inl (av (fun _ => 0)))), (v6, .inl (G.2 0, 30, .inl (av (fun _ => 0))))] _ := hP
  have hD : va_D A [(h, .inr (3, [.int (iz 0), .int (iz 0), .int (iz 0), .int (iz 0), .ref v1, .ref v2, .ref v3, .ref v4, .ref v5, .ref v6, .int (iz 0), .int (iz 0), .int (iz 0), .long (lz 0), .long (lz 0)])), (v1, .inl (G.2 0, 40, .inl (av (fun _ => 0)))), (v2, .inl (G.2 3, 30, .inl (bv (fun _ => false)))), (v3, .inl (G.2 0, 30, .inl (av (fun _ => 0)))), (v4, .inl (G.2 0, 120, .inl (av (fun _ => 0)))), (v5, .inl (G.2 0, 30, .inl (av (fun _ => 0)))), (v6, .inl (G.2 0, 30, .inl (av (fun _ => 0))))] := hD
  refine lv_aload_n hX_ hB_ dX5_init_52 rfl (lv_at hl 0 rfl) ?_
  refine zk_iconst hX_ hB_ dX5_init_53 ?_
  refine va_put (D := G.1) (ci := 3) (v := .int (iz (-1))) (ty := .int) (C := RX5) (T := TX5) (N := 15) hX_ hB_ hts hi_X5_init_X5 tyX5 tyX5_ok nmX5 hown hK.1 hP hD hS 0 rfl rfl 10 (by decide) (hts _ hw_X5_init_927464) (fun _ h9 => h9) rfl (by decide +kernel) rfl rfl (Nat.le_of_ble_eq_true rfl) dX5_init_54 (fun H locs hP hD hS => ?_)
  have hP : va_P G.1 vwCl [(h, .inr (3, [.int (iz 0), .int (iz 0), .int (iz 0), .int (iz 0), .ref v1, .ref v2, .ref v3, .ref v4, .ref v5, .ref v6, .int (iz (-1)), .int (iz 0), .int (iz 0), .long (lz 0), .long (lz 0)])), (v1, .inl (G.2 0, 40, .inl (av (fun _ => 0)))), (v2, .inl (G.2 3, 30, .inl (bv (fun _ => false)))), (v3, .inl (G.2 0, 30, .inl (av (fun _ => 0)))), (v4, .inl (G.2 0, 120, .inl (av (fun _ => 0)))), (v5, .inl (G.2 0, 30, .inl (av (fun _ => 0)))), (v6, .inl (G.2 0, 30, .inl (av (fun _ => 0))))] _ := hP
  have hD : va_D A [(h, .inr (3, [.int (iz 0), .int (iz 0), .int (iz 0), .int (iz 0), .ref v1, .ref v2, .ref v3, .ref v4, .ref v5, .ref v6, .int (iz (-1)), .int (iz 0), .int (iz 0), .long (lz 0), .long (lz 0)])), (v1, .inl (G.2 0, 40, .inl (av (fun _ => 0)))), (v2, .inl (G.2 3, 30, .inl (bv (fun _ => false)))), (v3, .inl (G.2 0, 30, .inl (av (fun _ => 0)))), (v4, .inl (G.2 0, 120, .inl (av (fun _ => 0)))), (v5, .inl (G.2 0, 30, .inl (av (fun _ => 0)))), (v6, .inl (G.2 0, 30, .inl (av (fun _ => 0))))] := hD
  exact fin_v (wf := (fun u : Nat × Nat × Nat × Nat × Nat × Nat => match u with | (eA, nA, oA, tA, aA, xA) => [(h, .inr (3, [.int (iz 0), .int (iz 0), .int (iz 0), .int (iz 0), .ref eA, .ref nA, .ref oA, .ref tA, .ref aA, .ref xA, .int (iz (-1)), .int (iz 0), .int (iz 0), .long (lz 0), .long (lz 0)])), (eA, .inl (G.2 0, 40, .inl (av (fun _ => 0)))), (nA, .inl (G.2 3, 30, .inl (bv (fun _ => false)))), (oA, .inl (G.2 0, 30, .inl (av (fun _ => 0)))), (tA, .inl (G.2 0, 120, .inl (av (fun _ => 0)))), (aA, .inl (G.2 0, 30, .inl (av (fun _ => 0)))), (xA, .inl (G.2 0, 30, .inl (av (fun _ => 0))))])) (v1, v2, v3, v4, v5, v6) F hP hD hK hS (by decide) (by decide) dX5_init_57 trivial
