theorem sgn_rng {d k b : Int} (hd : 0 ≤ d ∧ d < 2000000) (hb : 0 ≤ b ∧ b < 4400) : 0 ≤ sgn d k b ∧ sgn d k b < 2000000 := by
  unfold sgn
  repeat' split
  all_goals omega
/-- a day fits the first n sets of a stone -/
def fitU (st : Int → Int32) (b d : Int) : Nat → Bool
  | 0 => true
  | n + 1 => fitU st b d n && hold (st n) (sgn d n b)
def fitS (st : Int → Int32) (b d : Int) : Bool := fitU st b d 11
theorem fitU_no {st : Int → Int32} {b d : Int} {n : Nat} : ∀ {m : Nat}, n ≤ m → fitU st b d n = false → fitU st b d m = false
  | 0, h, e => by
    have : n = 0 := by omega
    subst this
    exact e
  | m + 1, h, e => by
    by_cases q : n = m + 1
    · subst q
      exact e
    · unfold fitU
      rw [fitU_no (m := m) (by omega) e]
      rfl
theorem fitU_z {st : Int → Int32} {b d i : Int} (h : 0 ≤ i) : fitU st b d (i + 1).toNat = (fitU st b d i.toNat && hold (st i) (sgn d i b)) := by
  have e : (i + 1).toNat = i.toNat + 1 := by omega
  rw [e]
  show (fitU st b d i.toNat && hold (st (i.toNat : Int)) (sgn d (i.toNat : Int) b)) = _
  rw [Int.toNat_of_nonneg h]

theorem hw_X6_allows_6c15d0 : (.fieldLink RX6 13 "StoneDates$Stone" "sets" "[I" : Cond) ∈ wsX6_allows := by decide +kernel
theorem hi_X6_allows_X6 : ∀ w ∈ u_ws RX6 TX6 4, w ∈ wsX6_allows := by decide +kernel
theorem hw_X6_allows_6d60b8 : (.fieldLink RX6 7 "StoneDates$Stone" "base" "I" : Cond) ∈ wsX6_allows := by decide +kernel
theorem mds_X0_signOf : yX0_signOf.cls ≠ "java/lang/invoke/MethodHandle" ∧ yX0_signOf.cls ≠ "java/lang/invoke/VarHandle" ∧ (parseMethodDescriptor yX0_signOf.desc).map (fun d => d.parameters.length) = some 3 := by decide +kernel
theorem mds_X0_holds : yX0_holds.cls ≠ "java/lang/invoke/MethodHandle" ∧ yX0_holds.cls ≠ "java/lang/invoke/VarHandle" ∧ (parseMethodDescriptor yX0_holds.desc).map (fun d => d.parameters.length) = some 2 := by decide +kernel
set_option maxHeartbeats 4000000 in
set_option maxRecDepth 100000 in
theorem c_X6_allows (l : Launch) (G : GG) (h : Nat) (sA : Nat) (dA : Nat) (b : Int) (many : Int) (st : Int → Int32) (d : Int) (hd : 0 ≤ d ∧ d < 2000000) (hb0 : 0 ≤ b ∧ b < 4400) : Ci l yX6_allows wsX6_allows ({ frames := 1, cells := 0, slots := 0, locals := 22 }) G E0 [.ref h, .int (iz d)] [(h, .inr (4, [.int (iz b), .ref sA, .ref dA, .int (iz many)])), (sA, .inl (G.2 0, 11, .inl (rv st)))] 0 0 (fun _ : Unit => [(h, .inr (4, [.int (iz b), .ref sA, .ref dA, .int (iz many)])), (sA, .inl (G.2 0, 11, .inl (rv st)))]) (fun (r : Int32) (_ : Unit) => r = (zb (fitS st b d))) := by
  refine Ci_intro (cc := cX6_allows) (maxL := 3) (ret := (some .boolean)) (by decide) rfl (Nat.le_of_ble_eq_true rfl) ?_
  intro p e s m below meth c A F hA hP hD hK hE ls hl
  have hX_ := F.1
  have hB_ := F.2.1
  have hts := F.2.2.2.2.2.1
  have hown := F.2.2.2.2.1
  have hml := F.2.2.2.1
  have hS : va_S A s.heap s.heap [] := va_S.rf
  have hl : lv_has ls 3 [(0, .ref h), (1, .int (iz d))] := hl
  refine zk_iconst hX_ hB_ dX6_allows_0 ?_
  refine lv_istore_n (lv' := [(2, .int (iz 0)), (0, .ref h), (1, .int (iz d))]) hX_ hB_ dX6_allows_1 rfl hl (by decide) rfl (fun ls hl => ?_)
  have loop_2 : ∀ (n_2 : Nat), ∀ (i : Int), (0 ≤ i ∧ i ≤ 11) → (fitU st b d i.toNat = true) → ((11 - i).toNat < n_2) → ∀ (H : Heap) (locs : List Loc), va_P G.1 vwCl [(h, .inr (4, [.int (iz b), .ref sA, .ref dA, .int (iz many)])), (sA, .inl (G.2 0, 11, .inl (rv st)))] H → va_D A [(h, .inr (4, [.int (iz b), .ref sA, .ref dA, .int (iz many)])), (sA, .inl (G.2 0, 11, .inl (rv st)))] → va_S A s.heap H locs → ∀ ls : Array Slot, lv_has ls 3 [(0, .ref h), (1, .int (iz d)), (2, .int (iz i))] → W p l e ({ frames := 1, cells := 0, slots := 0, locals := 22 }) s m ([.ref h, .int (iz d)] : List Value).toArray below meth c H locs 0 0 (MQ below (va_Qi (fun (r : Int32) (_ : Unit) => r = (zb (fitS st b d))) (fun u__ t__ => Pst G A ((fun _ : Unit => [(h, .inr (4, [.int (iz b), .ref sA, .ref dA, .int (iz many)])), (sA, .inl (G.2 0, 11, .inl (rv st)))]) u__) t__) A) ([.ref h, .int (iz d)] : List Value).toArray s 0 0 A) (F0 m 2 ls []) := by
    intro n_2
    induction n_2 with
    | zero =>
      intro i hi hf hm H locs hP hD hS ls hl
      exact absurd hm (Nat.not_lt_zero _)
    | succ n_2 ih_2 =>
      intro i hi hf hm H locs hP hD hS ls hl
      refine lv_iload_n hX_ hB_ dX6_allows_2 rfl (lv_at hl 2 rfl) ?_
      refine lv_aload_n hX_ hB_ dX6_allows_3 rfl (lv_at hl 0 rfl) ?_
      refine va_get (D := G.1) (ci := 4) (v := .ref sA) (C := RX6) (T := TX6) (N := 4) hX_ hB_ hts hi_X6_allows_X6 hown hK.1 hP 0 rfl rfl 1 (by decide) (hts _ hw_X6_allows_6c15d0) (fun _ h9 => h9) rfl dX6_allows_4 ?_
      refine zk_alen hX_ hB_ hK.1 hP 1 0 (11) rfl rfl rfl dX6_allows_7 ?_
      refine zk_icmp_ge (tgt := 40) hX_ hB_ (by omega) (by omega) dX6_allows_8 (by decide) (fun c_8 => ?_) (fun c_8 => ?_)
      · skip
        refine zk_iconst hX_ hB_ dX6_allows_40 ?_
        refine zk_topi (y := zb true) rfl ?_
        exact fin_i (wf := (fun _ : Unit => [(h, .inr (4, [.int (iz b), .ref sA, .ref dA, .int (iz many)])), (sA, .inl (G.2 0, 11, .inl (rv st)))])) () F (zb_nar _) hP hD hK hS (by decide) (by decide) dX6_allows_41 (by refine congrArg zb ?_; have : i = 11 := (by omega); subst this; exact hf.symm)
      · skip
        refine lv_aload_n hX_ hB_ dX6_allows_11 rfl (lv_at hl 0 rfl) ?_
        refine va_get (D := G.1) (ci := 4) (v := .ref sA) (C := RX6) (T := TX6) (N := 4) hX_ hB_ hts hi_X6_allows_X6 hown hK.1 hP 0 rfl rfl 1 (by decide) (hts _ hw_X6_allows_6c15d0) (fun _ h9 => h9) rfl dX6_allows_12 ?_
        refine lv_iload_n hX_ hB_ dX6_allows_15 rfl (lv_at hl 2 rfl) ?_
        refine zk_ialdr hX_ hB_ hK.1 hP 1 0 rfl rfl (by omega) (by decide) dX6_allows_16 ?_
        refine lv_iload_n hX_ hB_ dX6_allows_17 rfl (lv_at hl 1 rfl) ?_
        refine lv_iload_n hX_ hB_ dX6_allows_18 rfl (lv_at hl 2 rfl) ?_
        refine lv_aload_n hX_ hB_ dX6_allows_19 rfl (lv_at hl 0 rfl) ?_
        refine va_get (D := G.1) (ci := 4) (v := .int (iz b)) (C := RX6) (T := TX6) (N := 4) hX_ hB_ hts hi_X6_allows_X6 hown hK.1 hP 0 rfl rfl 0 (by decide) (hts _ hw_X6_allows_6d60b8) (fun _ h9 => h9) rfl dX6_allows_20 ?_
        refine back_i (wr := [(h, .inr (4, [.int (iz b), .ref sA, .ref dA, .int (iz many)])), (sA, .inl (G.2 0, 11, .inl (rv st)))]) (run_S (As := [.int (iz d), .int (iz i), .int (iz b)]) (rest := [.int (st i)]) (wc := []) F (c_X0_signOf l G d i b (by omega) (by omega) (by omega) _) ext0 gX6_allows_X0_signOf rfl rfl rfl mds_X0_signOf ⟨Nat.le_of_ble_eq_true rfl, Nat.le_of_ble_eq_true rfl⟩ (pre_of ext0 hK hP hD hS hA trivial [] (by decide) rfl _) rfl hl.1 (Nat.le_of_ble_eq_true rfl) dX6_allows_23 ⟨by decide, by decide⟩) hP hD hS hA [] [0, 1] rfl rfl (by decide) (by decide) (fun r__ u__ H locs hw hP hD hS => ?_)
        subst hw
        have hP := hP.sub (ws' := [(h, .inr (4, [.int (iz b), .ref sA, .ref dA, .int (iz many)])), (sA, .inl (G.2 0, 11, .inl (rv st)))]) [0, 1] rfl
        have hD := hD.sub (ws' := [(h, .inr (4, [.int (iz b), .ref sA, .ref dA, .int (iz many)])), (sA, .inl (G.2 0, 11, .inl (rv st)))]) [0, 1] (by decide) rfl
        have hsg := sgn_rng (k := i) hd hb0
        refine back_i (wr := [(h, .inr (4, [.int (iz b), .ref sA, .ref dA, .int (iz many)])), (sA, .inl (G.2 0, 11, .inl (rv st)))]) (run_S (As := [.int (st i), .int (iz (sgn d i b))]) (rest := []) (wc := []) F (c_X0_holds l G (st i) (sgn d i b) (by omega) _) ext0 gX6_allows_X0_holds rfl rfl rfl mds_X0_holds ⟨Nat.le_of_ble_eq_true rfl, Nat.le_of_ble_eq_true rfl⟩ (pre_of ext0 hK hP hD hS hA trivial [] (by decide) rfl _) rfl hl.1 (Nat.le_of_ble_eq_true rfl) dX6_allows_26 ⟨by decide, by decide⟩) hP hD hS hA [] [0, 1] rfl rfl (by decide) (by decide) (fun r__ u__ H locs hw hP hD hS => ?_)
        subst hw
        have hP := hP.sub (ws' := [(h, .inr (4, [.int (iz b), .ref sA, .ref dA, .int (iz many)])), (sA, .inl (G.2 0, 11, .inl (rv st)))]) [0, 1] rfl
        have hD := hD.sub (ws' := [(h, .inr (4, [.int (iz b), .ref sA, .ref dA, .int (iz many)])), (sA, .inl (G.2 0, 11, .inl (rv st)))]) [0, 1] (by decide) rfl
        refine zk_bif_ne (tgt := 34) hX_ hB_ dX6_allows_29 (by decide) (fun c_29 => ?_) (fun c_29 => ?_)
        · skip
          refine lv_iinc (v := (iz (i + 1))) (lv' := [(2, .int (iz (i + 1))), (0, .ref h), (1, .int (iz d))]) hX_ hB_ dX6_allows_34 hl (k := 2) rfl (iz_add _ _) (by decide) rfl (fun ls hl => ?_)
          refine lv_goto (tgt := 2) hX_ hB_ dX6_allows_37 (by decide) ?_
          exact ih_2 (i + 1) (by omega) (by rw [fitU_z hi.1, hf, c_29]; rfl) (by omega) _ _ hP hD hS ls (lv_sub hl [1, 2, 0] rfl)
        · skip
          refine zk_iconst hX_ hB_ dX6_allows_32 ?_
          refine zk_topi (y := zb false) rfl ?_
          exact fin_i (wf := (fun _ : Unit => [(h, .inr (4, [.int (iz b), .ref sA, .ref dA, .int (iz many)])), (sA, .inl (G.2 0, 11, .inl (rv st)))])) () F (zb_nar _) hP hD hK hS (by decide) (by decide) dX6_allows_33 (by refine congrArg zb ?_; exact (fitU_no (n := (i + 1).toNat) (by omega) (by rw [fitU_z hi.1, hf, c_29]; rfl)).symm)
  exact loop_2 _ 0 (by omega) (by rfl) (Nat.lt_succ_self _) _ _ hP hD hS ls (lv_sub hl [1, 2, 0] rfl)
