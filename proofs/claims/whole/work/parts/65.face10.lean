theorem mdv_X6_allows : yX6_allows.cls = RX6 ∧ yX6_allows.cls ≠ "java/lang/invoke/MethodHandle" ∧ yX6_allows.cls ≠ "java/lang/invoke/VarHandle" ∧ (parseMethodDescriptor yX6_allows.desc).map (fun d => d.parameters.length) = some 1 := by decide +kernel
set_option maxHeartbeats 4000000 in
set_option maxRecDepth 100000 in
theorem c_X8_fits (l : Launch) (G : GG) (hl0 : l.stackTraces = false) (ga : Nat → Nat) (h : Nat) (bA : Nat) (stA : Nat) (rd_ : Nat) (fi : Nat) (nt : Nat) (ks : Nat) (tc : Int) (sc : Int) (sa : Int → Option Nat) (ss : Int → Nat) (sb : Int → Int) (sts : Int → Int → Int32) (x : Int) (d : Int) (hsc : 0 ≤ sc ∧ sc ≤ 30) (hsa : ∀ j : Int, 0 ≤ j → j < sc → ∃ y, sa j = some y) (hx0 : R31 x) (hd : R31 d) (hsb : ∀ j : Int, 0 ≤ j → j < sc → 0 ≤ sb j ∧ sb j < 4400) : Xc l yX8_fits wsX8_fits ({ frames := 7, cells := 2, slots := 12, locals := 112 }) G (And2 (ThE ga) (fun A U H => ∀ k : Int, 0 ≤ k → k < 30 → ∀ x, sa k = some x → va_O "StoneDates$Stone" x A U H ∧ StSE x (ss k) (sb k) (sts k) A U H)) [.ref h, .int (iz x), .int (iz d)] [(h, .inr (6, [.ref bA, .ref stA, .ref rd_, .ref fi, .ref nt, .ref ks, .int (iz tc), .int (iz sc)])), (stA, .inl (G.2 4, 30, .inr (.inr (.inr (.inr (rv sa))))))] 2 12 (Qki G (fun _ : Unit => [(h, .inr (6, [.ref bA, .ref stA, .ref rd_, .ref fi, .ref nt, .ref ks, .int (iz tc), .int (iz sc)])), (stA, .inl (G.2 4, 30, .inr (.inr (.inr (.inr (rv sa))))))]) (fun (r : Int32) (_ : Unit) => (r = (zb (fitS (sts x) (sb x) d))) ∧ ((0 ≤ x ∧ x < sc) ∧ isDay d = true))) (fun En : String => (¬ (0 ≤ x ∧ x < sc) ∧ En = "java/lang/IndexOutOfBoundsException") ∨ ((0 ≤ x ∧ x < sc) ∧ isDay d = false ∧ En = "java/lang/IllegalArgumentException")) := by
  refine Xc_intro (cc := cX8_fits) (maxL := 4) (ret := (some .boolean)) (by decide) rfl (Nat.le_of_ble_eq_true rfl) ?_
  intro p e s m below meth c A F htb hA hP hD hK hE ls hl
  have hX_ := F.1
  have hB_ := F.2.1
  have hts := F.2.2.2.2.2.1
  have hown := F.2.2.2.2.1
  have hml := F.2.2.2.1
  have hS : va_S A s.heap s.heap [] := va_S.rf
  have hl : lv_has ls 4 [(0, .ref h), (1, .int (iz x)), (2, .int (iz d))] := hl
  refine lv_aload_n hX_ hB_ dX8_fits_0 rfl (lv_at hl 0 rfl) ?_
  refine lv_iload_n hX_ hB_ dX8_fits_1 rfl (lv_at hl 1 rfl) ?_
  refine xback_q (wr := []) (xrun_V (As := [.int (iz x)]) (rest := []) (wc := [(h, .inr (6, [.ref bA, .ref stA, .ref rd_, .ref fi, .ref nt, .ref ks, .int (iz tc), .int (iz sc)])), (stA, .inl (G.2 4, 30, .inr (.inr (.inr (.inr (rv sa))))))]) F (c_X8_stoneAt l G hl0 ga h bA stA rd_ fi nt ks tc sc sa x hsc hsa (by omega)) (thE_ext ga) gX8_fits_X8_stoneAt rfl rfl rfl mdv_X8_stoneAt ⟨Nat.le_of_ble_eq_true rfl, Nat.le_of_ble_eq_true rfl⟩ (va_recv hK.1 (hP.sub (ws' := [(h, .inr (6, [.ref bA, .ref stA, .ref rd_, .ref fi, .ref nt, .ref ks, .int (iz tc), .int (iz sc)])), (stA, .inl (G.2 4, 30, .inr (.inr (.inr (.inr (rv sa))))))]) [0, 1] rfl) (ci := 6) (q0 := 0) rfl rfl) (pre_of (thE_ext ga) hK hP hD hS hA hE.1 [0, 1] (by decide) rfl _) rfl hl.1 (Nat.le_of_ble_eq_true rfl) dX8_fits_2 ⟨by decide, by decide⟩) hP hD hS hA [0, 1] [] rfl rfl (by decide) (by decide) (fun En ce q9 H locs hx hP hD hS g1 g2 g3 => ?_) (fun r__ u__ H locs hw hP hD hS => ?_)
  · skip
    have hP := hP.sub (ws' := [(h, .inr (6, [.ref bA, .ref stA, .ref rd_, .ref fi, .ref nt, .ref ks, .int (iz tc), .int (iz sc)])), (stA, .inl (G.2 4, 30, .inr (.inr (.inr (.inr (rv sa))))))]) [0, 1] rfl
    have hD := hD.sub (ws' := [(h, .inr (6, [.ref bA, .ref stA, .ref rd_, .ref fi, .ref nt, .ref ks, .int (iz tc), .int (iz sc)])), (stA, .inl (G.2 4, 30, .inr (.inr (.inr (.inr (rv sa))))))]) [0, 1] (by decide) rfl
    exact xout F htb hP hD hK hS (by exact Or.inl hx) g1 g2 g3 (by decide) (by decide)
  obtain ⟨rfl, hw_2⟩ := hw
  have hP := hP.sub (ws' := [(h, .inr (6, [.ref bA, .ref stA, .ref rd_, .ref fi, .ref nt, .ref ks, .int (iz tc), .int (iz sc)])), (stA, .inl (G.2 4, 30, .inr (.inr (.inr (.inr (rv sa))))))]) [0, 1] rfl
  have hD := hD.sub (ws' := [(h, .inr (6, [.ref bA, .ref stA, .ref rd_, .ref fi, .ref nt, .ref ks, .int (iz tc), .int (iz sc)])), (stA, .inl (G.2 4, 30, .inr (.inr (.inr (.inr (rv sa))))))]) [0, 1] (by decide) rfl
  rcases hq_a : sa x with _ | x_a
  · skip
    exact absurd (hq_a.symm.trans (hsa x (by omega) (by omega)).choose_spec) (by simp)
  · skip
    refine zk_top (y := .ref x_a) rfl ?_
    refine lv_astore_n (lv' := [(3, .ref x_a), (0, .ref h), (1, .int (iz x)), (2, .int (iz d))]) hX_ hB_ dX8_fits_5 rfl hl (by decide) rfl (fun ls hl => ?_)
    refine lv_aload_n hX_ hB_ dX8_fits_6 rfl (lv_at hl 1 rfl) ?_
    refine lv_iload_n hX_ hB_ dX8_fits_7 rfl (lv_at hl 3 rfl) ?_
    refine xback_v (wr := [(h, .inr (6, [.ref bA, .ref stA, .ref rd_, .ref fi, .ref nt, .ref ks, .int (iz tc), .int (iz sc)])), (stA, .inl (G.2 4, 30, .inr (.inr (.inr (.inr (rv sa))))))]) (xrun_V (As := [.int (iz d)]) (rest := []) (wc := []) F (c_X8_checkDay l G hl0 ga h d (by omega)) (thE_ext ga) gX8_fits_X8_checkDay rfl rfl rfl mdv_X8_checkDay ⟨Nat.le_of_ble_eq_true rfl, Nat.le_of_ble_eq_true rfl⟩ (va_recv hK.1 hP (ci := 6) (q0 := 0) rfl rfl) (pre_of (thE_ext ga) hK hP hD hS hA hE.1 [] (by decide) rfl _) rfl hl.1 (Nat.le_of_ble_eq_true rfl) dX8_fits_8 ⟨by decide, by decide⟩) hP hD hS hA [] [0, 1] rfl rfl (by decide) (by decide) (fun En ce q9 H locs hx hP hD hS g1 g2 g3 => ?_) (fun u__ H locs hw hP hD hS => ?_)
    · skip
      have hP := hP.sub (ws' := [(h, .inr (6, [.ref bA, .ref stA, .ref rd_, .ref fi, .ref nt, .ref ks, .int (iz tc), .int (iz sc)])), (stA, .inl (G.2 4, 30, .inr (.inr (.inr (.inr (rv sa))))))]) [0, 1] rfl
      have hD := hD.sub (ws' := [(h, .inr (6, [.ref bA, .ref stA, .ref rd_, .ref fi, .ref nt, .ref ks, .int (iz tc), .int (iz sc)])), (stA, .inl (G.2 4, 30, .inr (.inr (.inr (.inr (rv sa))))))]) [0, 1] (by decide) rfl
      exact xout F htb hP hD hK hS (by exact Or.inr ⟨hw_2, hx⟩) g1 g2 g3 (by decide) (by decide)
    have hw_8 := hw
    have hP := hP.sub (ws' := [(h, .inr (6, [.ref bA, .ref stA, .ref rd_, .ref fi, .ref nt, .ref ks, .int (iz tc), .int (iz sc)])), (stA, .inl (G.2 4, 30, .inr (.inr (.inr (.inr (rv sa))))))]) [0, 1] rfl
    have hD := hD.sub (ws' := [(h, .inr (6, [.ref bA, .ref stA, .ref rd_, .ref fi, .ref nt, .ref ks, .int (iz tc), .int (iz sc)])), (stA, .inl (G.2 4, 30, .inr (.inr (.inr (.inr (rv sa))))))]) [0, 1] (by decide) rfl
    have hdd := of_decide_eq_true hw_8
    refine lv_aload_n hX_ hB_ dX8_fits_11 rfl (lv_at hl 0 rfl) ?_
    refine lv_iload_n hX_ hB_ dX8_fits_12 rfl (lv_at hl 3 rfl) ?_
    refine back_i (wr := [(h, .inr (6, [.ref bA, .ref stA, .ref rd_, .ref fi, .ref nt, .ref ks, .int (iz tc), .int (iz sc)])), (stA, .inl (G.2 4, 30, .inr (.inr (.inr (.inr (rv sa))))))]) (run_V (As := [.int (iz d)]) (rest := []) (wc := []) F (c_X6_allows_f l G x_a (ss x) (sb x) (sts x) d (by omega) (hsb x (by omega) (by omega)) _) (stSE_ext _ _ _ _) gX8_fits_X6_allows rfl rfl rfl mdv_X6_allows ⟨Nat.le_of_ble_eq_true rfl, Nat.le_of_ble_eq_true rfl⟩ (va_Orecv (hE.2 x (by omega) (by omega) x_a hq_a).1 hS) (pre_of (stSE_ext _ _ _ _) hK hP hD hS hA (hE.2 x (by omega) (by omega) x_a hq_a).2 [] (by decide) rfl _) rfl hl.1 (Nat.le_of_ble_eq_true rfl) dX8_fits_13 ⟨by decide, by decide⟩) hP hD hS hA [] [0, 1] rfl rfl (by decide) (by decide) (fun r__ u__ H locs hw hP hD hS => ?_)
    subst hw
    have hP := hP.sub (ws' := [(h, .inr (6, [.ref bA, .ref stA, .ref rd_, .ref fi, .ref nt, .ref ks, .int (iz tc), .int (iz sc)])), (stA, .inl (G.2 4, 30, .inr (.inr (.inr (.inr (rv sa))))))]) [0, 1] rfl
    have hD := hD.sub (ws' := [(h, .inr (6, [.ref bA, .ref stA, .ref rd_, .ref fi, .ref nt, .ref ks, .int (iz tc), .int (iz sc)])), (stA, .inl (G.2 4, 30, .inr (.inr (.inr (.inr (rv sa))))))]) [0, 1] (by decide) rfl
    refine vx_ret ?_
    exact fin_i (wf := (fun _ : Unit => [(h, .inr (6, [.ref bA, .ref stA, .ref rd_, .ref fi, .ref nt, .ref ks, .int (iz tc), .int (iz sc)])), (stA, .inl (G.2 4, 30, .inr (.inr (.inr (.inr (rv sa))))))])) () F (zb_nar _) hP hD hK hS (by decide) (by decide) dX8_fits_16 (by exact ⟨rfl, hw_2, hw_8⟩)
