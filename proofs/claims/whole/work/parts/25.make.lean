/-- the byte of a number that comes s bits up -/
def byt (x : Int32) (s : Int) : Int := ((x >>> (iz s &&& 31)) &&& iz 255).toInt
theorem byt_eq (x : Int32) (s : Int) : (x >>> (iz s &&& 31)) &&& iz 255 = iz (byt x s) := (iz_of _).symm
theorem byt_rng (x : Int32) (s : Int) : 0 ≤ byt x s ∧ byt x s ≤ 255 := by
  unfold byt
  obtain ⟨j, hj, e⟩ := pk_andE (x >>> (iz s &&& 31)) (m := iz 255) 8 (by decide)
  rw [e, nI_toInt (by omega)]
  omega

theorem hw_X4_put_494a85 : (.fieldLink RX4 18 "StoneDates$Reader" "size" "I" : Cond) ∈ wsX4_put := by decide +kernel
theorem hi_X4_put_X4 : ∀ w ∈ u_ws RX4 TX4 7, w ∈ wsX4_put := by decide +kernel
theorem hw_X4_put_932782 : (.fieldLink RX4 15 "StoneDates$Reader" "bytes" "[I" : Cond) ∈ wsX4_put := by decide +kernel
set_option maxHeartbeats 4000000 in
set_option maxRecDepth 100000 in
theorem c_X4_put (l : Launch) (G : GG) (h : Nat) (sA : Nat) (bA : Nat) (st : Int → Int32) (size : Int) (fault : Int) (len : Int) (at_ : Int) (heard : Int32) (bt : Int → Int) (x : Int32) (hs : 0 ≤ size ∧ size ≤ 196) : Cv l yX4_put wsX4_put ({ frames := 0, cells := 0, slots := 0, locals := 0 }) G E0 [.ref h, .int x] [(h, .inr (2, [.ref sA, .int (iz size), .int (iz fault), .ref bA, .int (iz len), .int (iz at_), .int heard])), (sA, .inl (G.2 0, 11, .inl (rv st))), (bA, .inl (G.2 0, 200, .inl (av bt)))] 0 0 (fun _ : Unit => [(h, .inr (2, [.ref sA, .int (iz ((((size + 1) + 1) + 1) + 1)), .int (iz fault), .ref bA, .int (iz len), .int (iz at_), .int heard])), (sA, .inl (G.2 0, 11, .inl (rv st))), (bA, .inl (G.2 0, 200, .inl (av (us (us (us (us bt size (byt x 24)) (size + 1) (byt x 16)) ((size + 1) + 1) (byt x 8)) (((size + 1) + 1) + 1) (byt x 0)))))]) (fun (_ : Unit) => True) := by
  refine Cv_intro (cc := cX4_put) (maxL := 3) (ret := none) (by decide) rfl (Nat.le_of_ble_eq_true rfl) ?_
  intro p e s m below meth c A F hA hP hD hK hE ls hl
  have hX_ := F.1
  have hB_ := F.2.1
  have hts := F.2.2.2.2.2.1
  have hown := F.2.2.2.2.1
  have hml := F.2.2.2.1
  have hS : va_S A s.heap s.heap [] := va_S.rf
  have hl : lv_has ls 3 [(0, .ref h), (1, .int x)] := hl
  refine zk_bipush hX_ hB_ (by decide) dX4_put_0 ?_
  refine lv_istore_n (lv' := [(2, .int (iz 24)), (0, .ref h), (1, .int x)]) hX_ hB_ dX4_put_2 rfl hl (by decide) rfl (fun ls hl => ?_)
  refine lv_iload_n hX_ hB_ dX4_put_3 rfl (lv_at hl 0 rfl) ?_
  refine zk_if_lt (tgt := 49) hX_ hB_ (by omega) dX4_put_4 (by decide) (fun c_4 => absurd c_4 (by decide)) (fun c_4 => ?_)
  refine lv_aload_n hX_ hB_ dX4_put_7 rfl (lv_at hl 1 rfl) ?_
  refine va_get (D := G.1) (ci := 2) (v := .int (iz size)) (C := RX4) (T := TX4) (N := 7) hX_ hB_ hts hi_X4_put_X4 hown hK.1 hP 0 rfl rfl 1 (by decide) (hts _ hw_X4_put_494a85) (fun _ h9 => h9) rfl dX4_put_8 ?_
  refine zk_sipush hX_ hB_ (by decide) dX4_put_11 ?_
  refine zk_icmp_ge (tgt := 49) hX_ hB_ (by omega) (by omega) dX4_put_14 (by decide) (fun c_14 => ?_) (fun c_14 => ?_)
  · skip
    exfalso; omega
  · skip
    refine lv_aload_n hX_ hB_ dX4_put_17 rfl (lv_at hl 1 rfl) ?_
    refine va_get (D := G.1) (ci := 2) (v := .ref bA) (C := RX4) (T := TX4) (N := 7) hX_ hB_ hts hi_X4_put_X4 hown hK.1 hP 0 rfl rfl 3 (by decide) (hts _ hw_X4_put_932782) (fun _ h9 => h9) rfl dX4_put_18 ?_
    refine lv_aload_n hX_ hB_ dX4_put_21 rfl (lv_at hl 1 rfl) ?_
    refine va_get (D := G.1) (ci := 2) (v := .int (iz size)) (C := RX4) (T := TX4) (N := 7) hX_ hB_ hts hi_X4_put_X4 hown hK.1 hP 0 rfl rfl 1 (by decide) (hts _ hw_X4_put_494a85) (fun _ h9 => h9) rfl dX4_put_22 ?_
    refine lv_iload_n hX_ hB_ dX4_put_25 rfl (lv_at hl 2 rfl) ?_
    refine lv_iload_n hX_ hB_ dX4_put_26 rfl (lv_at hl 0 rfl) ?_
    refine lv_ishr hX_ hB_ dX4_put_27 ?_
    refine zk_sipush hX_ hB_ (by decide) dX4_put_28 ?_
    refine lv_iand hX_ hB_ dX4_put_31 ?_
    refine zk_topi (byt_eq x 24) ?_
    refine zk_iast hX_ hB_ hK.1 hP hD hS 2 0 rfl rfl (by omega) (by decide) dX4_put_32 (fun H locs hP hD hS => ?_)
    have hP : va_P G.1 vwCl [(h, .inr (2, [.ref sA, .int (iz size), .int (iz fault), .ref bA, .int (iz len), .int (iz at_), .int heard])), (sA, .inl (G.2 0, 11, .inl (rv st))), (bA, .inl (G.2 0, 200, .inl (av (us bt size (byt x 24)))))] _ := hP
    have hD : va_D A [(h, .inr (2, [.ref sA, .int (iz size), .int (iz fault), .ref bA, .int (iz len), .int (iz at_), .int heard])), (sA, .inl (G.2 0, 11, .inl (rv st))), (bA, .inl (G.2 0, 200, .inl (av (us bt size (byt x 24)))))] := hD
    refine lv_aload_n hX_ hB_ dX4_put_33 rfl (lv_at hl 1 rfl) ?_
    refine lv_dup hX_ hB_ dX4_put_34 rfl ?_
    refine va_get (D := G.1) (ci := 2) (v := .int (iz size)) (C := RX4) (T := TX4) (N := 7) hX_ hB_ hts hi_X4_put_X4 hown hK.1 hP 0 rfl rfl 1 (by decide) (hts _ hw_X4_put_494a85) (fun _ h9 => h9) rfl dX4_put_35 ?_
    refine zk_iconst hX_ hB_ dX4_put_38 ?_
    refine zk_iadd hX_ hB_ dX4_put_39 ?_
    refine va_put (D := G.1) (ci := 2) (v := .int (iz (size + 1))) (ty := .int) (C := RX4) (T := TX4) (N := 7) hX_ hB_ hts hi_X4_put_X4 tyX4 tyX4_ok nmX4 hown hK.1 hP hD hS 0 rfl rfl 1 (by decide) (hts _ hw_X4_put_494a85) (fun _ h9 => h9) rfl (by decide +kernel) rfl rfl (Nat.le_of_ble_eq_true rfl) dX4_put_40 (fun H locs hP hD hS => ?_)
    have hP : va_P G.1 vwCl [(h, .inr (2, [.ref sA, .int (iz (size + 1)), .int (iz fault), .ref bA, .int (iz len), .int (iz at_), .int heard])), (sA, .inl (G.2 0, 11, .inl (rv st))), (bA, .inl (G.2 0, 200, .inl (av (us bt size (byt x 24)))))] _ := hP
    have hD : va_D A [(h, .inr (2, [.ref sA, .int (iz (size + 1)), .int (iz fault), .ref bA, .int (iz len), .int (iz at_), .int heard])), (sA, .inl (G.2 0, 11, .inl (rv st))), (bA, .inl (G.2 0, 200, .inl (av (us bt size (byt x 24)))))] := hD
    refine lv_iinc (v := (iz 16)) (lv' := [(2, .int (iz 16)), (0, .ref h), (1, .int x)]) hX_ hB_ dX4_put_43 hl (k := 0) rfl (by decide) (by decide) rfl (fun ls hl => ?_)
    refine lv_goto (tgt := 3) hX_ hB_ dX4_put_46 (by decide) ?_
    refine lv_iload_n hX_ hB_ dX4_put_3 rfl (lv_at hl 0 rfl) ?_
    refine zk_if_lt (tgt := 49) hX_ hB_ (by omega) dX4_put_4 (by decide) (fun c_4 => absurd c_4 (by decide)) (fun c_4 => ?_)
    refine lv_aload_n hX_ hB_ dX4_put_7 rfl (lv_at hl 1 rfl) ?_
    refine va_get (D := G.1) (ci := 2) (v := .int (iz (size + 1))) (C := RX4) (T := TX4) (N := 7) hX_ hB_ hts hi_X4_put_X4 hown hK.1 hP 0 rfl rfl 1 (by decide) (hts _ hw_X4_put_494a85) (fun _ h9 => h9) rfl dX4_put_8 ?_
    refine zk_sipush hX_ hB_ (by decide) dX4_put_11 ?_
    refine zk_icmp_ge (tgt := 49) hX_ hB_ (by omega) (by omega) dX4_put_14 (by decide) (fun c_14 => ?_) (fun c_14 => ?_)
    · skip
      exfalso; omega
    · skip
      refine lv_aload_n hX_ hB_ dX4_put_17 rfl (lv_at hl 1 rfl) ?_
      refine va_get (D := G.1) (ci := 2) (v := .ref bA) (C := RX4) (T := TX4) (N := 7) hX_ hB_ hts hi_X4_put_X4 hown hK.1 hP 0 rfl rfl 3 (by decide) (hts _ hw_X4_put_932782) (fun _ h9 => h9) rfl dX4_put_18 ?_
      refine lv_aload_n hX_ hB_ dX4_put_21 rfl (lv_at hl 1 rfl) ?_
      refine va_get (D := G.1) (ci := 2) (v := .int (iz (size + 1))) (C := RX4) (T := TX4) (N := 7) hX_ hB_ hts hi_X4_put_X4 hown hK.1 hP 0 rfl rfl 1 (by decide) (hts _ hw_X4_put_494a85) (fun _ h9 => h9) rfl dX4_put_22 ?_
      refine lv_iload_n hX_ hB_ dX4_put_25 rfl (lv_at hl 2 rfl) ?_
      refine lv_iload_n hX_ hB_ dX4_put_26 rfl (lv_at hl 0 rfl) ?_
      refine lv_ishr hX_ hB_ dX4_put_27 ?_
      refine zk_sipush hX_ hB_ (by decide) dX4_put_28 ?_
      refine lv_iand hX_ hB_ dX4_put_31 ?_
      refine zk_topi (byt_eq x 16) ?_
      refine zk_iast hX_ hB_ hK.1 hP hD hS 2 0 rfl rfl (by omega) (by decide) dX4_put_32 (fun H locs hP hD hS => ?_)
      have hP : va_P G.1 vwCl [(h, .inr (2, [.ref sA, .int (iz (size + 1)), .int (iz fault), .ref bA, .int (iz len), .int (iz at_), .int heard])), (sA, .inl (G.2 0, 11, .inl (rv st))), (bA, .inl (G.2 0, 200, .inl (av (us (us bt size (byt x 24)) (size + 1) (byt x 16)))))] _ := hP
      have hD : va_D A [(h, .inr (2, [.ref sA, .int (iz (size + 1)), .int (iz fault), .ref bA, .int (iz len), .int (iz at_), .int heard])), (sA, .inl (G.2 0, 11, .inl (rv st))), (bA, .inl (G.2 0, 200, .inl (av (us (us bt size (byt x 24)) (size + 1) (byt x 16)))))] := hD
      refine lv_aload_n hX_ hB_ dX4_put_33 rfl (lv_at hl 1 rfl) ?_
      refine lv_dup hX_ hB_ dX4_put_34 rfl ?_
      refine va_get (D := G.1) (ci := 2) (v := .int (iz (size + 1))) (C := RX4) (T := TX4) (N := 7) hX_ hB_ hts hi_X4_put_X4 hown hK.1 hP 0 rfl rfl 1 (by decide) (hts _ hw_X4_put_494a85) (fun _ h9 => h9) rfl dX4_put_35 ?_
      refine zk_iconst hX_ hB_ dX4_put_38 ?_
      refine zk_iadd hX_ hB_ dX4_put_39 ?_
      refine va_put (D := G.1) (ci := 2) (v := .int (iz ((size + 1) + 1))) (ty := .int) (C := RX4) (T := TX4) (N := 7) hX_ hB_ hts hi_X4_put_X4 tyX4 tyX4_ok nmX4 hown hK.1 hP hD hS 0 rfl rfl 1 (by decide) (hts _ hw_X4_put_494a85) (fun _ h9 => h9) rfl (by decide +kernel) rfl rfl (Nat.le_of_ble_eq_true rfl) dX4_put_40 (fun H locs hP hD hS => ?_)
      have hP : va_P G.1 vwCl [(h, .inr (2, [.ref sA, .int (iz ((size + 1) + 1)), .int (iz fault), .ref bA, .int (iz len), .int (iz at_), .int heard])), (sA, .inl (G.2 0, 11, .inl (rv st))), (bA, .inl (G.2 0, 200, .inl (av (us (us bt size (byt x 24)) (size + 1) (byt x 16)))))] _ := hP
      have hD : va_D A [(h, .inr (2, [.ref sA, .int (iz ((size + 1) + 1)), .int (iz fault), .ref bA, .int (iz len), .int (iz at_), .int heard])), (sA, .inl (G.2 0, 11, .inl (rv st))), (bA, .inl (G.2 0, 200, .inl (av (us (us bt size (byt x 24)) (size + 1) (byt x 16)))))] := hD
      refine lv_iinc (v := (iz 8)) (lv' := [(2, .int (iz 8)), (0, .ref h), (1, .int x)]) hX_ hB_ dX4_put_43 hl (k := 0) rfl (by decide) (by decide) rfl (fun ls hl => ?_)
      refine lv_goto (tgt := 3) hX_ hB_ dX4_put_46 (by decide) ?_
      refine lv_iload_n hX_ hB_ dX4_put_3 rfl (lv_at hl 0 rfl) ?_
      refine zk_if_lt (tgt := 49) hX_ hB_ (by omega) dX4_put_4 (by decide) (fun c_4 => absurd c_4 (by decide)) (fun c_4 => ?_)
      refine lv_aload_n hX_ hB_ dX4_put_7 rfl (lv_at hl 1 rfl) ?_
      refine va_get (D := G.1) (ci := 2) (v := .int (iz ((size + 1) + 1))) (C := RX4) (T := TX4) (N := 7) hX_ hB_ hts hi_X4_put_X4 hown hK.1 hP 0 rfl rfl 1 (by decide) (hts _ hw_X4_put_494a85) (fun _ h9 => h9) rfl dX4_put_8 ?_
      refine zk_sipush hX_ hB_ (by decide) dX4_put_11 ?_
      refine zk_icmp_ge (tgt := 49) hX_ hB_ (by omega) (by omega) dX4_put_14 (by decide) (fun c_14 => ?_) (fun c_14 => ?_)
      · skip
        exfalso; omega
      · skip
        refine lv_aload_n hX_ hB_ dX4_put_17 rfl (lv_at hl 1 rfl) ?_
        refine va_get (D := G.1) (ci := 2) (v := .ref bA) (C := RX4) (T := TX4) (N := 7) hX_ hB_ hts hi_X4_put_X4 hown hK.1 hP 0 rfl rfl 3 (by decide) (hts _ hw_X4_put_932782) (fun _ h9 => h9) rfl dX4_put_18 ?_
        refine lv_aload_n hX_ hB_ dX4_put_21 rfl (lv_at hl 1 rfl) ?_
        refine va_get (D := G.1) (ci := 2) (v := .int (iz ((size + 1) + 1))) (C := RX4) (T := TX4) (N := 7) hX_ hB_ hts hi_X4_put_X4 hown hK.1 hP 0 rfl rfl 1 (by decide) (hts _ hw_X4_put_494a85) (fun _ h9 => h9) rfl dX4_put_22 ?_
        refine lv_iload_n hX_ hB_ dX4_put_25 rfl (lv_at hl 2 rfl) ?_
        refine lv_iload_n hX_ hB_ dX4_put_26 rfl (lv_at hl 0 rfl) ?_
        refine lv_ishr hX_ hB_ dX4_put_27 ?_
        refine zk_sipush hX_ hB_ (by decide) dX4_put_28 ?_
        refine lv_iand hX_ hB_ dX4_put_31 ?_
        refine zk_topi (byt_eq x 8) ?_
        refine zk_iast hX_ hB_ hK.1 hP hD hS 2 0 rfl rfl (by omega) (by decide) dX4_put_32 (fun H locs hP hD hS => ?_)
        have hP : va_P G.1 vwCl [(h, .inr (2, [.ref sA, .int (iz ((size + 1) + 1)), .int (iz fault), .ref bA, .int (iz len), .int (iz at_), .int heard])), (sA, .inl (G.2 0, 11, .inl (rv st))), (bA, .inl (G.2 0, 200, .inl (av (us (us (us bt size (byt x 24)) (size + 1) (byt x 16)) ((size + 1) + 1) (byt x 8)))))] _ := hP
        have hD : va_D A [(h, .inr (2, [.ref sA, .int (iz ((size + 1) + 1)), .int (iz fault), .ref bA, .int (iz len), .int (iz at_), .int heard])), (sA, .inl (G.2 0, 11, .inl (rv st))), (bA, .inl (G.2 0, 200, .inl (av (us (us (us bt size (byt x 24)) (size + 1) (byt x 16)) ((size + 1) + 1) (byt x 8)))))] := hD
        refine lv_aload_n hX_ hB_ dX4_put_33 rfl (lv_at hl 1 rfl) ?_
        refine lv_dup hX_ hB_ dX4_put_34 rfl ?_
        refine va_get (D := G.1) (ci := 2) (v := .int (iz ((size + 1) + 1))) (C := RX4) (T := TX4) (N := 7) hX_ hB_ hts hi_X4_put_X4 hown hK.1 hP 0 rfl rfl 1 (by decide) (hts _ hw_X4_put_494a85) (fun _ h9 => h9) rfl dX4_put_35 ?_
        refine zk_iconst hX_ hB_ dX4_put_38 ?_
        refine zk_iadd hX_ hB_ dX4_put_39 ?_
        refine va_put (D := G.1) (ci := 2) (v := .int (iz (((size + 1) + 1) + 1))) (ty := .int) (C := RX4) (T := TX4) (N := 7) hX_ hB_ hts hi_X4_put_X4 tyX4 tyX4_ok nmX4 hown hK.1 hP hD hS 0 rfl rfl 1 (by decide) (hts _ hw_X4_put_494a85) (fun _ h9 => h9) rfl (by decide +kernel) rfl rfl (Nat.le_of_ble_eq_true rfl) dX4_put_40 (fun H locs hP hD hS => ?_)
        have hP : va_P G.1 vwCl [(h, .inr (2, [.ref sA, .int (iz (((size + 1) + 1) + 1)), .int (iz fault), .ref bA, .int (iz len), .int (iz at_), .int heard])), (sA, .inl (G.2 0, 11, .inl (rv st))), (bA, .inl (G.2 0, 200, .inl (av (us (us (us bt size (byt x 24)) (size + 1) (byt x 16)) ((size + 1) + 1) (byt x 8)))))] _ := hP
        have hD : va_D A [(h, .inr (2, [.ref sA, .int (iz (((size + 1) + 1) + 1)), .int (iz fault), .ref bA, .int (iz len), .int (iz at_), .int heard])), (sA, .inl (G.2 0, 11, .inl (rv st))), (bA, .inl (G.2 0, 200, .inl (av (us (us (us bt size (byt x 24)) (size + 1) (byt x 16)) ((size + 1) + 1) (byt x 8)))))] := hD
        refine lv_iinc (v := (iz 0)) (lv' := [(2, .int (iz 0)), (0, .ref h), (1, .int x)]) hX_ hB_ dX4_put_43 hl (k := 0) rfl (by decide) (by decide) rfl (fun ls hl => ?_)
        refine lv_goto (tgt := 3) hX_ hB_ dX4_put_46 (by decide) ?_
        refine lv_iload_n hX_ hB_ dX4_put_3 rfl (lv_at hl 0 rfl) ?_
        refine zk_if_lt (tgt := 49) hX_ hB_ (by omega) dX4_put_4 (by decide) (fun c_4 => absurd c_4 (by decide)) (fun c_4 => ?_)
        refine lv_aload_n hX_ hB_ dX4_put_7 rfl (lv_at hl 1 rfl) ?_
        refine va_get (D := G.1) (ci := 2) (v := .int (iz (((size + 1) + 1) + 1))) (C := RX4) (T := TX4) (N := 7) hX_ hB_ hts hi_X4_put_X4 hown hK.1 hP 0 rfl rfl 1 (by decide) (hts _ hw_X4_put_494a85) (fun _ h9 => h9) rfl dX4_put_8 ?_
        refine zk_sipush hX_ hB_ (by decide) dX4_put_11 ?_
        refine zk_icmp_ge (tgt := 49) hX_ hB_ (by omega) (by omega) dX4_put_14 (by decide) (fun c_14 => ?_) (fun c_14 => ?_)
        · skip
          exfalso; omega
        · skip
          refine lv_aload_n hX_ hB_ dX4_put_17 rfl (lv_at hl 1 rfl) ?_
          refine va_get (D := G.1) (ci := 2) (v := .ref bA) (C := RX4) (T := TX4) (N := 7) hX_ hB_ hts hi_X4_put_X4 hown hK.1 hP 0 rfl rfl 3 (by decide) (hts _ hw_X4_put_932782) (fun _ h9 => h9) rfl dX4_put_18 ?_
          refine lv_aload_n hX_ hB_ dX4_put_21 rfl (lv_at hl 1 rfl) ?_
          refine va_get (D := G.1) (ci := 2) (v := .int (iz (((size + 1) + 1) + 1))) (C := RX4) (T := TX4) (N := 7) hX_ hB_ hts hi_X4_put_X4 hown hK.1 hP 0 rfl rfl 1 (by decide) (hts _ hw_X4_put_494a85) (fun _ h9 => h9) rfl dX4_put_22 ?_
          refine lv_iload_n hX_ hB_ dX4_put_25 rfl (lv_at hl 2 rfl) ?_
          refine lv_iload_n hX_ hB_ dX4_put_26 rfl (lv_at hl 0 rfl) ?_
          refine lv_ishr hX_ hB_ dX4_put_27 ?_
          refine zk_sipush hX_ hB_ (by decide) dX4_put_28 ?_
          refine lv_iand hX_ hB_ dX4_put_31 ?_
          refine zk_topi (byt_eq x 0) ?_
          refine zk_iast hX_ hB_ hK.1 hP hD hS 2 0 rfl rfl (by omega) (by decide) dX4_put_32 (fun H locs hP hD hS => ?_)
          have hP : va_P G.1 vwCl [(h, .inr (2, [.ref sA, .int (iz (((size + 1) + 1) + 1)), .int (iz fault), .ref bA, .int (iz len), .int (iz at_), .int heard])), (sA, .inl (G.2 0, 11, .inl (rv st))), (bA, .inl (G.2 0, 200, .inl (av (us (us (us (us bt size (byt x 24)) (size + 1) (byt x 16)) ((size + 1) + 1) (byt x 8)) (((size + 1) + 1) + 1) (byt x 0)))))] _ := hP
          have hD : va_D A [(h, .inr (2, [.ref sA, .int (iz (((size + 1) + 1) + 1)), .int (iz fault), .ref bA, .int (iz len), .int (iz at_), .int heard])), (sA, .inl (G.2 0, 11, .inl (rv st))), (bA, .inl (G.2 0, 200, .inl (av (us (us (us (us bt size (byt x 24)) (size + 1) (byt x 16)) ((size + 1) + 1) (byt x 8)) (((size + 1) + 1) + 1) (byt x 0)))))] := hD
          refine lv_aload_n hX_ hB_ dX4_put_33 rfl (lv_at hl 1 rfl) ?_
          refine lv_dup hX_ hB_ dX4_put_34 rfl ?_
          refine va_get (D := G.1) (ci := 2) (v := .int (iz (((size + 1) + 1) + 1))) (C := RX4) (T := TX4) (N := 7) hX_ hB_ hts hi_X4_put_X4 hown hK.1 hP 0 rfl rfl 1 (by decide) (hts _ hw_X4_put_494a85) (fun _ h9 => h9) rfl dX4_put_35 ?_
          refine zk_iconst hX_ hB_ dX4_put_38 ?_
          refine zk_iadd hX_ hB_ dX4_put_39 ?_
          refine va_put (D := G.1) (ci := 2) (v := .int (iz ((((size + 1) + 1) + 1) + 1))) (ty := .int) (C := RX4) (T := TX4) (N := 7) hX_ hB_ hts hi_X4_put_X4 tyX4 tyX4_ok nmX4 hown hK.1 hP hD hS 0 rfl rfl 1 (by decide) (hts _ hw_X4_put_494a85) (fun _ h9 => h9) rfl (by decide +kernel) rfl rfl (Nat.le_of_ble_eq_true rfl) dX4_put_40 (fun H locs hP hD hS => ?_)
          have hP : va_P G.1 vwCl [(h, .inr (2, [.ref sA, .int (iz ((((size + 1) + 1) + 1) + 1)), .int (iz fault), .ref bA, .int (iz len), .int (iz at_), .int heard])), (sA, .inl (G.2 0, 11, .inl (rv st))), (bA, .inl (G.2 0, 200, .inl (av (us (us (us (us bt size (byt x 24)) (size + 1) (byt x 16)) ((size + 1) + 1) (byt x 8)) (((size + 1) + 1) + 1) (byt x 0)))))] _ := hP
          have hD : va_D A [(h, .inr (2, [.ref sA, .int (iz ((((size + 1) + 1) + 1) + 1)), .int (iz fault), .ref bA, .int (iz len), .int (iz at_), .int heard])), (sA, .inl (G.2 0, 11, .inl (rv st))), (bA, .inl (G.2 0, 200, .inl (av (us (us (us (us bt size (byt x 24)) (size + 1) (byt x 16)) ((size + 1) + 1) (byt x 8)) (((size + 1) + 1) + 1) (byt x 0)))))] := hD
          refine lv_iinc (v := (iz (-8))) (lv' := [(2, .int (iz (-8))), (0, .ref h), (1, .int x)]) hX_ hB_ dX4_put_43 hl (k := 0) rfl (by decide) (by decide) rfl (fun ls hl => ?_)
          refine lv_goto (tgt := 3) hX_ hB_ dX4_put_46 (by decide) ?_
          refine lv_iload_n hX_ hB_ dX4_put_3 rfl (lv_at hl 0 rfl) ?_
          refine zk_if_lt (tgt := 49) hX_ hB_ (by omega) dX4_put_4 (by decide) (fun c_4 => ?_) (fun c_4 => absurd c_4 (by decide))
          exact fin_v (wf := (fun _ : Unit => [(h, .inr (2, [.ref sA, .int (iz ((((size + 1) + 1) + 1) + 1)), .int (iz fault), .ref bA, .int (iz len), .int (iz at_), .int heard])), (sA, .inl (G.2 0, 11, .inl (rv st))), (bA, .inl (G.2 0, 200, .inl (av (us (us (us (us bt size (byt x 24)) (size + 1) (byt x 16)) ((size + 1) + 1) (byt x 8)) (((size + 1) + 1) + 1) (byt x 0)))))])) () F hP hD hK hS (by decide) (by decide) dX4_put_49 trivial
