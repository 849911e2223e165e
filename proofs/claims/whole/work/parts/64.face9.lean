
/-- a stone's base and sets, which nobody writes -/
def StSE (h sA : Nat) (b : Int) (st : Int → Int32) : EE := fun A U H => va_OF "StoneDates$Stone" "base" "I" (.int (iz b)) h A U H ∧ va_OF "StoneDates$Stone" "sets" "[I" (.ref sA) h A U H ∧ va_T .int sA 11 (fun j => .int (st (j : Int))) A U H
theorem stSE_ext (h sA : Nat) (b : Int) (st : Int → Int32) : Ext (StSE h sA b st) :=
  ⟨fun A u U H hv h => ⟨va_OF.moved hv.alike h.1, va_OF.moved hv.alike h.2.1, va_T.moved hv.alike h.2.2⟩, fun A U H H1 hq h => ⟨h.1.kept hq, h.2.1.kept hq, h.2.2.kept hq⟩, fun A B U H hq h => ⟨h.1.narrow hq, h.2.1.narrow hq, h.2.2.narrow hq⟩⟩
set_option maxHeartbeats 4000000 in
set_option maxRecDepth 100000 in
theorem c_X6_allows_f (l : Launch) (G : GG) (h : Nat) (sA : Nat) (b : Int) (st : Int → Int32) (d : Int) (hd : 0 ≤ d ∧ d < 2000000) (hb0 : 0 ≤ b ∧ b < 4400) : Ci l yX6_allows wsX6_allows ({ frames := 1, cells := 0, slots := 0, locals := 22 }) G (StSE h sA b st) [.ref h, .int (iz d)] [] 0 0 (fun _ : Unit => []) (fun (r : Int32) (_ : Unit) => r = (zb (fitS st b d))) := by
  refine Ci_intro (cc := cX6_allows) (maxL := 3) (ret := (some .boolean)) (by decide) rfl (Nat.le_of_ble_eq_true rfl) ?_
  intro p e s m below meth c A F hA hP hD hK hE ls hl
  have hX_ := F.1
  have hB_ := F.2.1
  have hts := F.2.2.2.2.2.1
  have hown := F.2.2.2.2.1
  have hml := F.2.2.2.1
  have hS : va_S A s.heap s.heap [] := va_S.rf
  have hl : lv_has ls 3 [(0, .ref h), (1, .int (iz d))] := hl
  refine zk_iconst hX_ hB_ dX6_allows_0 ?_
  refine lv_istore_n (lv' := [(2, .int (iz 0)), (0, .ref h), (1, .int (iz d))]) hX_ hB_ dX6_allows_1 rfl hl (by decide) rfl (fun ls hl => ?_)
  have loop_2 : ∀ (n_2 : Nat), ∀ (i : Int), (0 ≤ i ∧ i ≤ 11) → (fitU st b d i.toNat = true) → ((11 - i).toNat < n_2) → ∀ (H : Heap) (locs : List Loc), va_P G.1 vwCl [] H → va_D A [] → va_S A s.heap H locs → ∀ ls : Array Slot, lv_has ls 3 [(0, .ref h), (1, .int (iz d)), (2, .int (iz i))] → W p l e ({ frames := 1, cells := 0, slots := 0, locals := 22 }) s m ([.ref h, .int (iz d)] : List Value).toArray below meth c H locs 0 0 (MQ below (va_Qi (fun (r : Int32) (_ : Unit) => r = (zb (fitS st b d))) (fun u__ t__ => Pst G A ((fun _ : Unit => []) u__) t__) A) ([.ref h, .int (iz d)] : List Value).toArray s 0 0 A) (F0 m 2 ls []) := by
    intro n_2
    induction n_2 with
    | zero =>
      intro i hi hf hm H locs hP hD hS ls hl
      exact absurd hm (Nat.not_lt_zero _)
    | succ n_2 ih_2 =>
      intro i hi hf hm H locs hP hD hS ls hl
      refine lv_iload_n hX_ hB_ dX6_allows_2 rfl (lv_at hl 2 rfl) ?_
      refine lv_aload_n hX_ hB_ dX6_allows_3 rfl (lv_at hl 0 rfl) ?_
      refine vk_getf (v := .ref sA) hX_ hB_ hE.2.1 hS hown (hts _ hw_X6_allows_6c15d0) (fun _ h9 => h9) dX6_allows_4 ?_
      refine va_tlen (v := iz (11 : Int)) hX_ hB_ hE.2.2 hS rfl dX6_allows_7 ?_
      refine zk_icmp_ge (tgt := 40) hX_ hB_ (by omega) (by omega) dX6_allows_8 (by decide) (fun c_8 => ?_) (fun c_8 => ?_)
      · skip
        refine zk_iconst hX_ hB_ dX6_allows_40 ?_
        refine zk_topi (y := zb true) rfl ?_
        exact fin_i (wf := (fun _ : Unit => [])) () F (zb_nar _) hP hD hK hS (by decide) (by decide) dX6_allows_41 (by refine congrArg zb ?_; have : i = 11 := (by omega); subst this; exact hf.symm)
      · skip
        refine lv_aload_n hX_ hB_ dX6_allows_11 rfl (lv_at hl 0 rfl) ?_
        refine vk_getf (v := .ref sA) hX_ hB_ hE.2.1 hS hown (hts _ hw_X6_allows_6c15d0) (fun _ h9 => h9) dX6_allows_12 ?_
        refine lv_iload_n hX_ hB_ dX6_allows_15 rfl (lv_at hl 2 rfl) ?_
        refine va_ti (v := .int (st i)) hX_ hB_ hE.2.2 hS (iz_in (by omega) (by decide)) (by rw [iz_cl (by omega)]; rw [Int.toNat_of_nonneg (by omega)]) dX6_allows_16 ?_
        refine lv_iload_n hX_ hB_ dX6_allows_17 rfl (lv_at hl 1 rfl) ?_
        refine lv_iload_n hX_ hB_ dX6_allows_18 rfl (lv_at hl 2 rfl) ?_
        refine lv_aload_n hX_ hB_ dX6_allows_19 rfl (lv_at hl 0 rfl) ?_
        refine vk_getf (v := .int (iz b)) hX_ hB_ hE.1 hS hown (hts _ hw_X6_allows_6d60b8) (fun _ h9 => h9) dX6_allows_20 ?_
        refine back_i (wr := []) (run_S (As := [.int (iz d), .int (iz i), .int (iz b)]) (rest := [.int (st i)]) (wc := []) F (c_X0_signOf l G d i b (by omega) (by omega) (by omega) _) ext0 gX6_allows_X0_signOf rfl rfl rfl mds_X0_signOf ⟨Nat.le_of_ble_eq_true rfl, Nat.le_of_ble_eq_true rfl⟩ (pre_of ext0 hK hP hD hS hA trivial [] (by decide) rfl _) rfl hl.1 (Nat.le_of_ble_eq_true rfl) dX6_allows_23 ⟨by decide, by decide⟩) hP hD hS hA [] [] rfl rfl (by decide) (by decide) (fun r__ u__ H locs hw hP hD hS => ?_)
        subst hw
        have hP := hP.sub (ws' := []) [] rfl
        have hD := hD.sub (ws' := []) [] (by decide) rfl
        have hsg := sgn_rng (k := i) hd hb0
        refine back_i (wr := []) (run_S (As := [.int (st i), .int (iz (sgn d i b))]) (rest := []) (wc := []) F (c_X0_holds l G (st i) (sgn d i b) (by omega) _) ext0 gX6_allows_X0_holds rfl rfl rfl mds_X0_holds ⟨Nat.le_of_ble_eq_true rfl, Nat.le_of_ble_eq_true rfl⟩ (pre_of ext0 hK hP hD hS hA trivial [] (by decide) rfl _) rfl hl.1 (Nat.le_of_ble_eq_true rfl) dX6_allows_26 ⟨by decide, by decide⟩) hP hD hS hA [] [] rfl rfl (by decide) (by decide) (fun r__ u__ H locs hw hP hD hS => ?_)
        subst hw
        have hP := hP.sub (ws' := []) [] rfl
        have hD := hD.sub (ws' := []) [] (by decide) rfl
        refine zk_bif_ne (tgt := 34) hX_ hB_ dX6_allows_29 (by decide) (fun c_29 => ?_) (fun c_29 => ?_)
        · skip
          refine lv_iinc (v := (iz (i + 1))) (lv' := [(2, .int (iz (i + 1))), (0, .ref h), (1, .int (iz d))]) hX_ hB_ dX6_allows_34 hl (k := 2) rfl (iz_add _ _) (by decide) rfl (fun ls hl => ?_)
          refine lv_goto (tgt := 2) hX_ hB_ dX6_allows_37 (by decide) ?_
          exact ih_2 (i + 1) (by omega) (by rw [fitU_z hi.1, hf, c_29]; rfl) (by omega) _ _ hP hD hS ls (lv_sub hl [1, 2, 0] rfl)
        · skip
          refine zk_iconst hX_ hB_ dX6_allows_32 ?_
          refine zk_topi (y := zb false) rfl ?_
          exact fin_i (wf := (fun _ : Unit => [])) () F (zb_nar _) hP hD hK hS (by decide) (by decide) dX6_allows_33 (by refine congrArg zb ?_; exact (fitU_no (n := (i + 1).toNat) (by omega) (by rw [fitU_z hi.1, hf, c_29]; rfl)).symm)
  exact loop_2 _ 0 (by omega) (by rfl) (Nat.lt_succ_self _) _ _ hP hD hS ls (lv_sub hl [1, 2, 0] rfl)
