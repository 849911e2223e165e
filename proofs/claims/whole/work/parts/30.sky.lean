theorem us_same {α : Type} (g : Int → α) (z : Int) : us g z (g z) = g := by
  funext j
  unfold us
  by_cases h : j = z
  · rw [if_pos h, h]
  · rw [if_neg h]

theorem hw_X5_tell_ea45f9 : (.fieldLink RX5 15 "StoneDates$Sky" "isNaming" "[Z" : Cond) ∈ wsX5_tell := by decide +kernel
theorem hi_X5_tell_X5 : ∀ w ∈ u_ws RX5 TX5 15, w ∈ wsX5_tell := by decide +kernel
theorem hw_X5_tell_336b52 : (.fieldLink RX5 19 "StoneDates$Sky" "dayOf" "[I" : Cond) ∈ wsX5_tell := by decide +kernel
theorem hw_X5_tell_d91d34 : (.fieldLink RX5 44 "StoneDates$Sky" "naming" "I" : Cond) ∈ wsX5_tell := by decide +kernel
theorem hw_X5_tell_927464 : (.fieldLink RX5 31 "StoneDates$Sky" "solvedNear" "I" : Cond) ∈ wsX5_tell := by decide +kernel
set_option maxHeartbeats 4000000 in
set_option maxRecDepth 100000 in
theorem c_X5_tell (l : Launch) (G : GG) (h : Nat) (eA : Nat) (nA : Nat) (oA : Nat) (tA : Nat) (aA : Nat) (xA : Nat) (size : Int) (naming : Int) (bs : Int) (ba : Int) (sn : Int) (ag : Int) (sl : Int) (ht : Int) (bm : Int) (ec : Int → Int) (nm : Int → Bool) (dO : Int → Int) (t : Int → Int) (d : Int → Int) (x : Int → Int) (k : Int) (dy : Int) (is : Bool) (hk : 0 ≤ k ∧ k < 30) (hn : 0 ≤ naming ∧ naming ≤ 30) : Ci l yX5_tell wsX5_tell ({ frames := 0, cells := 0, slots := 0, locals := 0 }) G E0 [.ref h, .int (iz k), .int (iz dy), .int (zb is)] [(h, .inr (3, [.int (iz size), .int (iz naming), .int (iz bs), .int (iz ba), .ref eA, .ref nA, .ref oA, .ref tA, .ref aA, .ref xA, .int (iz sn), .int (iz ag), .int (iz sl), .long (lz ht), .long (lz bm)])), (eA, .inl (G.2 0, 40, .inl (av ec))), (nA, .inl (G.2 3, 30, .inl (bv nm))), (oA, .inl (G.2 0, 30, .inl (av dO))), (tA, .inl (G.2 0, 120, .inl (av t))), (aA, .inl (G.2 0, 30, .inl (av d))), (xA, .inl (G.2 0, 30, .inl (av x)))] 0 0 (fun _ : Unit => [(h, .inr (3, [.int (iz size), .int (iz (if nm k = is then naming else naming + (if is then 1 else -1))), .int (iz bs), .int (iz ba), .ref eA, .ref nA, .ref oA, .ref tA, .ref aA, .ref xA, .int (iz (if nm k = is then sn else -1)), .int (iz ag), .int (iz sl), .long (lz ht), .long (lz bm)])), (eA, .inl (G.2 0, 40, .inl (av ec))), (nA, .inl (G.2 3, 30, .inl (bv (us nm k is)))), (oA, .inl (G.2 0, 30, .inl (av (if nm k = is then dO else us dO k dy)))), (tA, .inl (G.2 0, 120, .inl (av t))), (aA, .inl (G.2 0, 30, .inl (av d))), (xA, .inl (G.2 0, 30, .inl (av x)))]) (fun (r : Int32) (_ : Unit) => r = (zb (nm k))) := by
  refine Ci_intro (cc := cX5_tell) (maxL := 5) (ret := (some .boolean)) (by decide) rfl (Nat.le_of_ble_eq_true rfl) ?_
  intro p e s m below meth c A F hA hP hD hK hE ls hl
  have hX_ := F.1
  have hB_ := F.2.1
  have hts := F.2.2.2.2.2.1
  have hown := F.2.2.2.2.1
  have hml := F.2.2.2.1
  have hS : va_S A s.heap s.heap [] := va_S.rf
  have hl : lv_has ls 5 [(0, .ref h), (1, .int (iz k)), (2, .int (iz dy)), (3, .int (zb is))] := hl
  refine lv_iload_n hX_ hB_ dX5_tell_0 rfl (lv_at hl 1 rfl) ?_
  refine zk_if_lt (tgt := 10) hX_ hB_ (by omega) dX5_tell_1 (by decide) (fun c_1 => ?_) (fun c_1 => ?_)
  · skip
    exfalso; omega
  · skip
    refine lv_iload_n hX_ hB_ dX5_tell_4 rfl (lv_at hl 1 rfl) ?_
    refine zk_bipush hX_ hB_ (by decide) dX5_tell_5 ?_
    refine zk_icmp_lt (tgt := 12) hX_ hB_ (by omega) (by omega) dX5_tell_7 (by decide) (fun c_7 => ?_) (fun c_7 => ?_)
    · skip
      refine lv_aload_n hX_ hB_ dX5_tell_12 rfl (lv_at hl 0 rfl) ?_
      refine va_get (D := G.1) (ci := 3) (v := .ref nA) (C := RX5) (T := TX5) (N := 15) hX_ hB_ hts hi_X5_tell_X5 hown hK.1 hP 0 rfl rfl 5 (by decide) (hts _ hw_X5_tell_ea45f9) (fun _ h9 => h9) rfl dX5_tell_13 ?_
      refine lv_iload_n hX_ hB_ dX5_tell_16 rfl (lv_at hl 1 rfl) ?_
      refine zk_zald hX_ hB_ hK.1 hP 2 3 rfl rfl (by omega) (by decide) dX5_tell_17 ?_
      refine lv_istore (lv' := [(4, .int (zb (nm k))), (0, .ref h), (1, .int (iz k)), (2, .int (iz dy)), (3, .int (zb is))]) hX_ hB_ dX5_tell_18 hl (by decide) rfl (fun ls hl => ?_)
      refine lv_iload hX_ hB_ dX5_tell_20 (lv_at hl 0 rfl) ?_
      refine lv_iload_n hX_ hB_ dX5_tell_22 rfl (lv_at hl 4 rfl) ?_
      refine zk_bcmp_eq (tgt := 63) hX_ hB_ dX5_tell_23 (by decide) (fun c_23 => ?_) (fun c_23 => ?_)
      · skip
        refine lv_iload hX_ hB_ dX5_tell_63 (lv_at hl 0 rfl) ?_
        try rw [hq] at hP hD
        first | (have hne : ¬ nm k = is := c_23) | skip
        first | (have heq : nm k = is := c_23) | skip
        exact fin_i (wf := (fun _ : Unit => [(h, .inr (3, [.int (iz size), .int (iz (if nm k = is then naming else naming + (if is then 1 else -1))), .int (iz bs), .int (iz ba), .ref eA, .ref nA, .ref oA, .ref tA, .ref aA, .ref xA, .int (iz (if nm k = is then sn else -1)), .int (iz ag), .int (iz sl), .long (lz ht), .long (lz bm)])), (eA, .inl (G.2 0, 40, .inl (av ec))), (nA, .inl (G.2 3, 30, .inl (bv (us nm k is)))), (oA, .inl (G.2 0, 30, .inl (av (if nm k = is then dO else us dO k dy)))), (tA, .inl (G.2 0, 120, .inl (av t))), (aA, .inl (G.2 0, 30, .inl (av d))), (xA, .inl (G.2 0, 30, .inl (av x)))])) () F (zb_nar _) (by (try dsimp only); (first | rw [if_neg c_23, if_neg c_23, if_neg c_23] | rw [if_pos c_23, if_pos c_23, if_pos c_23, ← c_23, us_same]); exact hP) (by (try dsimp only); (first | rw [if_neg c_23, if_neg c_23, if_neg c_23] | rw [if_pos c_23, if_pos c_23, if_pos c_23, ← c_23, us_same]); exact hD) hK hS (by decide) (by decide) dX5_tell_65 rfl
      · skip
        refine lv_aload_n hX_ hB_ dX5_tell_26 rfl (lv_at hl 1 rfl) ?_
        refine va_get (D := G.1) (ci := 3) (v := .ref nA) (C := RX5) (T := TX5) (N := 15) hX_ hB_ hts hi_X5_tell_X5 hown hK.1 hP 0 rfl rfl 5 (by decide) (hts _ hw_X5_tell_ea45f9) (fun _ h9 => h9) rfl dX5_tell_27 ?_
        refine lv_iload_n hX_ hB_ dX5_tell_30 rfl (lv_at hl 2 rfl) ?_
        refine lv_iload_n hX_ hB_ dX5_tell_31 rfl (lv_at hl 4 rfl) ?_
        refine zk_zast hX_ hB_ hK.1 hP hD hS 2 3 rfl rfl (by omega) (by decide) dX5_tell_32 (fun H locs hP hD hS => ?_)
        have hP : va_P G.1 vwCl [(h, .inr (3, [.int (iz size), .int (iz naming), .int (iz bs), .int (iz ba), .ref eA, .ref nA, .ref oA, .ref tA, .ref aA, .ref xA, .int (iz sn), .int (iz ag), .int (iz sl), .long (lz ht), .long (lz bm)])), (eA, .inl (G.2 0, 40, .inl (av ec))), (nA, .inl (G.2 3, 30, .inl (bv (us nm k is)))), (oA, .inl (G.2 0, 30, .inl (av dO))), (tA, .inl (G.2 0, 120, .inl (av t))), (aA, .inl (G.2 0, 30, .inl (av d))), (xA, .inl (G.2 0, 30, .inl (av x)))] _ := hP
        have hD : va_D A [(h, .inr (3, [.int (iz size), .int (iz naming), .int (iz bs), .int (iz ba), .ref eA, .ref nA, .ref oA, .ref tA, .ref aA, .ref xA, .int (iz sn), .int (iz ag), .int (iz sl), .long (lz ht), .long (lz bm)])), (eA, .inl (G.2 0, 40, .inl (av ec))), (nA, .inl (G.2 3, 30, .inl (bv (us nm k is)))), (oA, .inl (G.2 0, 30, .inl (av dO))), (tA, .inl (G.2 0, 120, .inl (av t))), (aA, .inl (G.2 0, 30, .inl (av d))), (xA, .inl (G.2 0, 30, .inl (av x)))] := hD
        refine lv_aload_n hX_ hB_ dX5_tell_33 rfl (lv_at hl 1 rfl) ?_
        refine va_get (D := G.1) (ci := 3) (v := .ref oA) (C := RX5) (T := TX5) (N := 15) hX_ hB_ hts hi_X5_tell_X5 hown hK.1 hP 0 rfl rfl 6 (by decide) (hts _ hw_X5_tell_336b52) (fun _ h9 => h9) rfl dX5_tell_34 ?_
        refine lv_iload_n hX_ hB_ dX5_tell_37 rfl (lv_at hl 2 rfl) ?_
        refine lv_iload_n hX_ hB_ dX5_tell_38 rfl (lv_at hl 3 rfl) ?_
        refine zk_iast hX_ hB_ hK.1 hP hD hS 3 0 rfl rfl (by omega) (by decide) dX5_tell_39 (fun H locs hP hD hS => ?_)
        have hP : va_P G.1 vwCl [(h, .inr (3, [.int (iz size), .int (iz naming), .int (iz bs), .int (iz ba), .ref eA, .ref nA, .ref oA, .ref tA, .ref aA, .ref xA, .int (iz sn), .int (iz ag), .int (iz sl), .long (lz ht), .long (lz bm)])), (eA, .inl (G.2 0, 40, .inl (av ec))), (nA, .inl (G.2 3, 30, .inl (bv (us nm k is)))), (oA, .inl (G.2 0, 30, .inl (av (us dO k dy)))), (tA, .inl (G.2 0, 120, .inl (av t))), (aA, .inl (G.2 0, 30, .inl (av d))), (xA, .inl (G.2 0, 30, .inl (av x)))] _ := hP
        have hD : va_D A [(h, .inr (3, [.int (iz size), .int (iz naming), .int (iz bs), .int (iz ba), .ref eA, .ref nA, .ref oA, .ref tA, .ref aA, .ref xA, .int (iz sn), .int (iz ag), .int (iz sl), .long (lz ht), .long (lz bm)])), (eA, .inl (G.2 0, 40, .inl (av ec))), (nA, .inl (G.2 3, 30, .inl (bv (us nm k is)))), (oA, .inl (G.2 0, 30, .inl (av (us dO k dy)))), (tA, .inl (G.2 0, 120, .inl (av t))), (aA, .inl (G.2 0, 30, .inl (av d))), (xA, .inl (G.2 0, 30, .inl (av x)))] := hD
        have join_54 : ∀ (q : Int), (q = if is then 1 else -1) → ∀ (H : Heap) (locs : List Loc), va_P G.1 vwCl [(h, .inr (3, [.int (iz size), .int (iz naming), .int (iz bs), .int (iz ba), .ref eA, .ref nA, .ref oA, .ref tA, .ref aA, .ref xA, .int (iz sn), .int (iz ag), .int (iz sl), .long (lz ht), .long (lz bm)])), (eA, .inl (G.2 0, 40, .inl (av ec))), (nA, .inl (G.2 3, 30, .inl (bv (us nm k is)))), (oA, .inl (G.2 0, 30, .inl (av (us dO k dy)))), (tA, .inl (G.2 0, 120, .inl (av t))), (aA, .inl (G.2 0, 30, .inl (av d))), (xA, .inl (G.2 0, 30, .inl (av x)))] H → va_D A [(h, .inr (3, [.int (iz size), .int (iz naming), .int (iz bs), .int (iz ba), .ref eA, .ref nA, .ref oA, .ref tA, .ref aA, .ref xA, .int (iz sn), .int (iz ag), .int (iz sl), .long (lz ht), .long (lz bm)])), (eA, .inl (G.2 0, 40, .inl (av ec))), (nA, .inl (G.2 3, 30, .inl (bv (us nm k is)))), (oA, .inl (G.2 0, 30, .inl (av (us dO k dy)))), (tA, .inl (G.2 0, 120, .inl (av t))), (aA, .inl (G.2 0, 30, .inl (av d))), (xA, .inl (G.2 0, 30, .inl (av x)))] → va_S A s.heap H locs → ∀ ls : Array Slot, lv_has ls 5 [(0, .ref h), (1, .int (iz k)), (2, .int (iz dy)), (3, .int (zb is)), (4, .int (zb (nm k)))] → W p l e ({ frames := 0, cells := 0, slots := 0, locals := 0 }) s m ([.ref h, .int (iz k), .int (iz dy), .int (zb is)] : List Value).toArray below meth c H locs 0 0 (MQ below (va_Qi (fun (r : Int32) (_ : Unit) => r = (zb (nm k))) (fun u__ t__ => Pst G A ((fun _ : Unit => [(h, .inr (3, [.int (iz size), .int (iz (if nm k = is then naming else naming + (if is then 1 else -1))), .int (iz bs), .int (iz ba), .ref eA, .ref nA, .ref oA, .ref tA, .ref aA, .ref xA, .int (iz (if nm k = is then sn else -1)), .int (iz ag), .int (iz sl), .long (lz ht), .long (lz bm)])), (eA, .inl (G.2 0, 40, .inl (av ec))), (nA, .inl (G.2 3, 30, .inl (bv (us nm k is)))), (oA, .inl (G.2 0, 30, .inl (av (if nm k = is then dO else us dO k dy)))), (tA, .inl (G.2 0, 120, .inl (av t))), (aA, .inl (G.2 0, 30, .inl (av d))), (xA, .inl (G.2 0, 30, .inl (av x)))]) u__) t__) A) ([.ref h, .int (iz k), .int (iz dy), .int (zb is)] : List Value).toArray s 0 0 A) (F0 m 54 ls [.int (iz q), .int (iz naming), .ref h]) := by
          intro q hq H locs hP hD hS ls hl
          refine zk_iadd hX_ hB_ dX5_tell_54 ?_
          refine va_put (D := G.1) (ci := 3) (v := .int (iz (naming + q))) (ty := .int) (C := RX5) (T := TX5) (N := 15) hX_ hB_ hts hi_X5_tell_X5 tyX5 tyX5_ok nmX5 hown hK.1 hP hD hS 0 rfl rfl 1 (by decide) (hts _ hw_X5_tell_d91d34) (fun _ h9 => h9) rfl (by decide +kernel) rfl rfl (Nat.le_of_ble_eq_true rfl) dX5_tell_55 (fun H locs hP hD hS => ?_)
          have hP : va_P G.1 vwCl [(h, .inr (3, [.int (iz size), .int (iz (naming + q)), .int (iz bs), .int (iz ba), .ref eA, .ref nA, .ref oA, .ref tA, .ref aA, .ref xA, .int (iz sn), .int (iz ag), .int (iz sl), .long (lz ht), .long (lz bm)])), (eA, .inl (G.2 0, 40, .inl (av ec))), (nA, .inl (G.2 3, 30, .inl (bv (us nm k is)))), (oA, .inl (G.2 0, 30, .inl (av (us dO k dy)))), (tA, .inl (G.2 0, 120, .inl (av t))), (aA, .inl (G.2 0, 30, .inl (av d))), (xA, .inl (G.2 0, 30, .inl (av x)))] _ := hP
          have hD : va_D A [(h, .inr (3, [.int (iz size), .int (iz (naming + q)), .int (iz bs), .int (iz ba), .ref eA, .ref nA, .ref oA, .ref tA, .ref aA, .ref xA, .int (iz sn), .int (iz ag), .int (iz sl), .long (lz ht), .long (lz bm)])), (eA, .inl (G.2 0, 40, .inl (av ec))), (nA, .inl (G.2 3, 30, .inl (bv (us nm k is)))), (oA, .inl (G.2 0, 30, .inl (av (us dO k dy)))), (tA, .inl (G.2 0, 120, .inl (av t))), (aA, .inl (G.2 0, 30, .inl (av d))), (xA, .inl (G.2 0, 30, .inl (av x)))] := hD
          refine lv_aload_n hX_ hB_ dX5_tell_58 rfl (lv_at hl 0 rfl) ?_
          refine zk_iconst hX_ hB_ dX5_tell_59 ?_
          refine va_put (D := G.1) (ci := 3) (v := .int (iz (-1))) (ty := .int) (C := RX5) (T := TX5) (N := 15) hX_ hB_ hts hi_X5_tell_X5 tyX5 tyX5_ok nmX5 hown hK.1 hP hD hS 0 rfl rfl 10 (by decide) (hts _ hw_X5_tell_927464) (fun _ h9 => h9) rfl (by decide +kernel) rfl rfl (Nat.le_of_ble_eq_true rfl) dX5_tell_60 (fun H locs hP hD hS => ?_)
          have hP : va_P G.1 vwCl [(h, .inr (3, [.int (iz size), .int (iz (naming + q)), .int (iz bs), .int (iz ba), .ref eA, .ref nA, .ref oA, .ref tA, .ref aA, .ref xA, .int (iz (-1)), .int (iz ag), .int (iz sl), .long (lz ht), .long (lz bm)])), (eA, .inl (G.2 0, 40, .inl (av ec))), (nA, .inl (G.2 3, 30, .inl (bv (us nm k is)))), (oA, .inl (G.2 0, 30, .inl (av (us dO k dy)))), (tA, .inl (G.2 0, 120, .inl (av t))), (aA, .inl (G.2 0, 30, .inl (av d))), (xA, .inl (G.2 0, 30, .inl (av x)))] _ := hP
          have hD : va_D A [(h, .inr (3, [.int (iz size), .int (iz (naming + q)), .int (iz bs), .int (iz ba), .ref eA, .ref nA, .ref oA, .ref tA, .ref aA, .ref xA, .int (iz (-1)), .int (iz ag), .int (iz sl), .long (lz ht), .long (lz bm)])), (eA, .inl (G.2 0, 40, .inl (av ec))), (nA, .inl (G.2 3, 30, .inl (bv (us nm k is)))), (oA, .inl (G.2 0, 30, .inl (av (us dO k dy)))), (tA, .inl (G.2 0, 120, .inl (av t))), (aA, .inl (G.2 0, 30, .inl (av d))), (xA, .inl (G.2 0, 30, .inl (av x)))] := hD
          refine lv_iload hX_ hB_ dX5_tell_63 (lv_at hl 4 rfl) ?_
          try rw [hq] at hP hD
          first | (have hne : ¬ nm k = is := c_23) | skip
          first | (have heq : nm k = is := c_23) | skip
          exact fin_i (wf := (fun _ : Unit => [(h, .inr (3, [.int (iz size), .int (iz (if nm k = is then naming else naming + (if is then 1 else -1))), .int (iz bs), .int (iz ba), .ref eA, .ref nA, .ref oA, .ref tA, .ref aA, .ref xA, .int (iz (if nm k = is then sn else -1)), .int (iz ag), .int (iz sl), .long (lz ht), .long (lz bm)])), (eA, .inl (G.2 0, 40, .inl (av ec))), (nA, .inl (G.2 3, 30, .inl (bv (us nm k is)))), (oA, .inl (G.2 0, 30, .inl (av (if nm k = is then dO else us dO k dy)))), (tA, .inl (G.2 0, 120, .inl (av t))), (aA, .inl (G.2 0, 30, .inl (av d))), (xA, .inl (G.2 0, 30, .inl (av x)))])) () F (zb_nar _) (by (try dsimp only); (first | rw [if_neg c_23, if_neg c_23, if_neg c_23] | rw [if_pos c_23, if_pos c_23, if_pos c_23, ← c_23, us_same]); exact hP) (by (try dsimp only); (first | rw [if_neg c_23, if_neg c_23, if_neg c_23] | rw [if_pos c_23, if_pos c_23, if_pos c_23, ← c_23, us_same]); exact hD) hK hS (by decide) (by decide) dX5_tell_65 rfl
        refine lv_aload_n hX_ hB_ dX5_tell_40 rfl (lv_at hl 1 rfl) ?_
        refine lv_dup hX_ hB_ dX5_tell_41 rfl ?_
        refine va_get (D := G.1) (ci := 3) (v := .int (iz naming)) (C := RX5) (T := TX5) (N := 15) hX_ hB_ hts hi_X5_tell_X5 hown hK.1 hP 0 rfl rfl 1 (by decide) (hts _ hw_X5_tell_d91d34) (fun _ h9 => h9) rfl dX5_tell_42 ?_
        refine lv_iload_n hX_ hB_ dX5_tell_45 rfl (lv_at hl 4 rfl) ?_
        refine zk_bif_eq (tgt := 53) hX_ hB_ dX5_tell_46 (by decide) (fun c_46 => ?_) (fun c_46 => ?_)
        · skip
          refine zk_iconst hX_ hB_ dX5_tell_53 ?_
          exact join_54 (-1) (by rw [c_46]; rfl) _ _ hP hD hS ls (lv_sub hl [1, 2, 3, 4, 0] rfl)
        · skip
          refine zk_iconst hX_ hB_ dX5_tell_49 ?_
          refine lv_goto (tgt := 54) hX_ hB_ dX5_tell_50 (by decide) ?_
          exact join_54 1 (by rw [c_46]; rfl) _ _ hP hD hS ls (lv_sub hl [1, 2, 3, 4, 0] rfl)
    · skip
      exfalso; omega

theorem hw_X5_consider_cf89c6 : (.fieldLink RX5 61 "StoneDates$Sky" "height" "J" : Cond) ∈ wsX5_consider := by decide +kernel
theorem hi_X5_consider_X5 : ∀ w ∈ u_ws RX5 TX5 15, w ∈ wsX5_consider := by decide +kernel
theorem hw_X5_consider_466412 : (.fieldLink RX5 58 "StoneDates$Sky" "slope" "I" : Cond) ∈ wsX5_consider := by decide +kernel
theorem hw_X5_consider_b6fae5 : (.fieldLink RX5 55 "StoneDates$Sky" "agreeing" "I" : Cond) ∈ wsX5_consider := by decide +kernel
theorem hw_X5_consider_79c78d : (.fieldLink RX5 65 "StoneDates$Sky" "bestAgreeing" "I" : Cond) ∈ wsX5_consider := by decide +kernel
theorem hw_X5_consider_efb6a3 : (.fieldLink RX5 89 "StoneDates$Sky" "bestSum" "J" : Cond) ∈ wsX5_consider := by decide +kernel
theorem hw_X5_consider_d8c36f : (.fieldLink RX5 92 "StoneDates$Sky" "bestStart" "I" : Cond) ∈ wsX5_consider := by decide +kernel
set_option maxHeartbeats 4000000 in
set_option maxRecDepth 100000 in
theorem c_X5_consider (l : Launch) (G : GG) (h : Nat) (eA : Nat) (nA : Nat) (oA : Nat) (tA : Nat) (aA : Nat) (xA : Nat) (size : Int) (naming : Int) (bs : Int) (ba : Int) (sn : Int) (ag : Int) (sl : Int) (ht : Int) (bm : Int) (ec : Int → Int) (nm : Int → Bool) (dO : Int → Int) (t : Int → Int) (d : Int → Int) (x : Int → Int) (st : Int) (h1 : R31 sl ∧ R31 st ∧ R31 ag ∧ R31 ba) (h2 : R63 (ht + sl * st) ∧ R63 bm) : Cv l yX5_consider wsX5_consider ({ frames := 0, cells := 0, slots := 0, locals := 0 }) G E0 [.ref h, .int (iz st)] [(h, .inr (3, [.int (iz size), .int (iz naming), .int (iz bs), .int (iz ba), .ref eA, .ref nA, .ref oA, .ref tA, .ref aA, .ref xA, .int (iz sn), .int (iz ag), .int (iz sl), .long (lz ht), .long (lz bm)])), (eA, .inl (G.2 0, 40, .inl (av ec))), (nA, .inl (G.2 3, 30, .inl (bv nm))), (oA, .inl (G.2 0, 30, .inl (av dO))), (tA, .inl (G.2 0, 120, .inl (av t))), (aA, .inl (G.2 0, 30, .inl (av d))), (xA, .inl (G.2 0, 30, .inl (av x)))] 0 0 (fun _ : Unit => [(h, .inr (3, [.int (iz size), .int (iz naming), .int (iz (if (ba < ag ∨ ag = ba ∧ ht + sl * st < bm) then st else bs)), .int (iz (if (ba < ag ∨ ag = ba ∧ ht + sl * st < bm) then ag else ba)), .ref eA, .ref nA, .ref oA, .ref tA, .ref aA, .ref xA, .int (iz sn), .int (iz ag), .int (iz sl), .long (lz ht), .long (lz (if (ba < ag ∨ ag = ba ∧ ht + sl * st < bm) then ht + sl * st else bm))])), (eA, .inl (G.2 0, 40, .inl (av ec))), (nA, .inl (G.2 3, 30, .inl (bv nm))), (oA, .inl (G.2 0, 30, .inl (av dO))), (tA, .inl (G.2 0, 120, .inl (av t))), (aA, .inl (G.2 0, 30, .inl (av d))), (xA, .inl (G.2 0, 30, .inl (av x)))]) (fun (_ : Unit) => True) := by
  refine Cv_intro (cc := cX5_consider) (maxL := 4) (ret := none) (by decide) rfl (Nat.le_of_ble_eq_true rfl) ?_
  intro p e s m below meth c A F hA hP hD hK hE ls hl
  have hX_ := F.1
  have hB_ := F.2.1
  have hts := F.2.2.2.2.2.1
  have hown := F.2.2.2.2.1
  have hml := F.2.2.2.1
  have hS : va_S A s.heap s.heap [] := va_S.rf
  have hl : lv_has ls 4 [(0, .ref h), (1, .int (iz st))] := hl
  refine lv_aload_n hX_ hB_ dX5_consider_0 rfl (lv_at hl 0 rfl) ?_
  refine va_get (D := G.1) (ci := 3) (v := .long (lz ht)) (C := RX5) (T := TX5) (N := 15) hX_ hB_ hts hi_X5_consider_X5 hown hK.1 hP 0 rfl rfl 13 (by decide) (hts _ hw_X5_consider_cf89c6) (fun _ h9 => h9) rfl dX5_consider_1 ?_
  refine lv_aload_n hX_ hB_ dX5_consider_4 rfl (lv_at hl 0 rfl) ?_
  refine va_get (D := G.1) (ci := 3) (v := .int (iz sl)) (C := RX5) (T := TX5) (N := 15) hX_ hB_ hts hi_X5_consider_X5 hown hK.1 hP 0 rfl rfl 12 (by decide) (hts _ hw_X5_consider_466412) (fun _ h9 => h9) rfl dX5_consider_5 ?_
  refine zk_i2l hX_ hB_ (by omega) dX5_consider_8 ?_
  refine lv_iload_n hX_ hB_ dX5_consider_9 rfl (lv_at hl 1 rfl) ?_
  refine zk_i2l hX_ hB_ (by omega) dX5_consider_10 ?_
  refine zk_lmul hX_ hB_ dX5_consider_11 ?_
  refine zk_ladd hX_ hB_ dX5_consider_12 ?_
  refine lv_lstore_n (lv' := [(2, .long (lz (ht + (sl * st)))), (0, .ref h), (1, .int (iz st))]) hX_ hB_ dX5_consider_13 rfl hl (by decide) rfl (fun ls hl => ?_)
  refine lv_aload_n hX_ hB_ dX5_consider_14 rfl (lv_at hl 1 rfl) ?_
  refine va_get (D := G.1) (ci := 3) (v := .int (iz ag)) (C := RX5) (T := TX5) (N := 15) hX_ hB_ hts hi_X5_consider_X5 hown hK.1 hP 0 rfl rfl 11 (by decide) (hts _ hw_X5_consider_b6fae5) (fun _ h9 => h9) rfl dX5_consider_15 ?_
  refine lv_aload_n hX_ hB_ dX5_consider_18 rfl (lv_at hl 1 rfl) ?_
  refine va_get (D := G.1) (ci := 3) (v := .int (iz ba)) (C := RX5) (T := TX5) (N := 15) hX_ hB_ hts hi_X5_consider_X5 hown hK.1 hP 0 rfl rfl 3 (by decide) (hts _ hw_X5_consider_79c78d) (fun _ h9 => h9) rfl dX5_consider_19 ?_
  refine zk_icmp_gt (tgt := 45) hX_ hB_ (by omega) (by omega) dX5_consider_22 (by decide) (fun c_22 => ?_) (fun c_22 => ?_)
  · skip
    refine lv_aload_n hX_ hB_ dX5_consider_45 rfl (lv_at hl 1 rfl) ?_
    refine lv_aload_n hX_ hB_ dX5_consider_46 rfl (lv_at hl 1 rfl) ?_
    refine va_get (D := G.1) (ci := 3) (v := .int (iz ag)) (C := RX5) (T := TX5) (N := 15) hX_ hB_ hts hi_X5_consider_X5 hown hK.1 hP 0 rfl rfl 11 (by decide) (hts _ hw_X5_consider_b6fae5) (fun _ h9 => h9) rfl dX5_consider_47 ?_
    refine va_put (D := G.1) (ci := 3) (v := .int (iz ag)) (ty := .int) (C := RX5) (T := TX5) (N := 15) hX_ hB_ hts hi_X5_consider_X5 tyX5 tyX5_ok nmX5 hown hK.1 hP hD hS 0 rfl rfl 3 (by decide) (hts _ hw_X5_consider_79c78d) (fun _ h9 => h9) rfl (by decide +kernel) rfl rfl (Nat.le_of_ble_eq_true rfl) dX5_consider_50 (fun H locs hP hD hS => ?_)
    have hP : va_P G.1 vwCl [(h, .inr (3, [.int (iz size), .int (iz naming), .int (iz bs), .int (iz ag), .ref eA, .ref nA, .ref oA, .ref tA, .ref aA, .ref xA, .int (iz sn), .int (iz ag), .int (iz sl), .long (lz ht), .long (lz bm)])), (eA, .inl (G.2 0, 40, .inl (av ec))), (nA, .inl (G.2 3, 30, .inl (bv nm))), (oA, .inl (G.2 0, 30, .inl (av dO))), (tA, .inl (G.2 0, 120, .inl (av t))), (aA, .inl (G.2 0, 30, .inl (av d))), (xA, .inl (G.2 0, 30, .inl (av x)))] _ := hP
    have hD : va_D A [(h, .inr (3, [.int (iz size), .int (iz naming), .int (iz bs), .int (iz ag), .ref eA, .ref nA, .ref oA, .ref tA, .ref aA, .ref xA, .int (iz sn), .int (iz ag), .int (iz sl), .long (lz ht), .long (lz bm)])), (eA, .inl (G.2 0, 40, .inl (av ec))), (nA, .inl (G.2 3, 30, .inl (bv nm))), (oA, .inl (G.2 0, 30, .inl (av dO))), (tA, .inl (G.2 0, 120, .inl (av t))), (aA, .inl (G.2 0, 30, .inl (av d))), (xA, .inl (G.2 0, 30, .inl (av x)))] := hD
    refine lv_aload_n hX_ hB_ dX5_consider_53 rfl (lv_at hl 1 rfl) ?_
    refine lv_lload_n hX_ hB_ dX5_consider_54 rfl (lv_at hl 0 rfl) ?_
    refine va_put (D := G.1) (ci := 3) (v := .long (lz (ht + (sl * st)))) (ty := .long) (C := RX5) (T := TX5) (N := 15) hX_ hB_ hts hi_X5_consider_X5 tyX5 tyX5_ok nmX5 hown hK.1 hP hD hS 0 rfl rfl 14 (by decide) (hts _ hw_X5_consider_efb6a3) (fun _ h9 => h9) rfl (by decide +kernel) rfl rfl (Nat.le_of_ble_eq_true rfl) dX5_consider_55 (fun H locs hP hD hS => ?_)
    have hP : va_P G.1 vwCl [(h, .inr (3, [.int (iz size), .int (iz naming), .int (iz bs), .int (iz ag), .ref eA, .ref nA, .ref oA, .ref tA, .ref aA, .ref xA, .int (iz sn), .int (iz ag), .int (iz sl), .long (lz ht), .long (lz (ht + (sl * st)))])), (eA, .inl (G.2 0, 40, .inl (av ec))), (nA, .inl (G.2 3, 30, .inl (bv nm))), (oA, .inl (G.2 0, 30, .inl (av dO))), (tA, .inl (G.2 0, 120, .inl (av t))), (aA, .inl (G.2 0, 30, .inl (av d))), (xA, .inl (G.2 0, 30, .inl (av x)))] _ := hP
    have hD : va_D A [(h, .inr (3, [.int (iz size), .int (iz naming), .int (iz bs), .int (iz ag), .ref eA, .ref nA, .ref oA, .ref tA, .ref aA, .ref xA, .int (iz sn), .int (iz ag), .int (iz sl), .long (lz ht), .long (lz (ht + (sl * st)))])), (eA, .inl (G.2 0, 40, .inl (av ec))), (nA, .inl (G.2 3, 30, .inl (bv nm))), (oA, .inl (G.2 0, 30, .inl (av dO))), (tA, .inl (G.2 0, 120, .inl (av t))), (aA, .inl (G.2 0, 30, .inl (av d))), (xA, .inl (G.2 0, 30, .inl (av x)))] := hD
    refine lv_aload_n hX_ hB_ dX5_consider_58 rfl (lv_at hl 1 rfl) ?_
    refine lv_iload_n hX_ hB_ dX5_consider_59 rfl (lv_at hl 2 rfl) ?_
    refine va_put (D := G.1) (ci := 3) (v := .int (iz st)) (ty := .int) (C := RX5) (T := TX5) (N := 15) hX_ hB_ hts hi_X5_consider_X5 tyX5 tyX5_ok nmX5 hown hK.1 hP hD hS 0 rfl rfl 2 (by decide) (hts _ hw_X5_consider_d8c36f) (fun _ h9 => h9) rfl (by decide +kernel) rfl rfl (Nat.le_of_ble_eq_true rfl) dX5_consider_60 (fun H locs hP hD hS => ?_)
    have hP : va_P G.1 vwCl [(h, .inr (3, [.int (iz size), .int (iz naming), .int (iz st), .int (iz ag), .ref eA, .ref nA, .ref oA, .ref tA, .ref aA, .ref xA, .int (iz sn), .int (iz ag), .int (iz sl), .long (lz ht), .long (lz (ht + (sl * st)))])), (eA, .inl (G.2 0, 40, .inl (av ec))), (nA, .inl (G.2 3, 30, .inl (bv nm))), (oA, .inl (G.2 0, 30, .inl (av dO))), (tA, .inl (G.2 0, 120, .inl (av t))), (aA, .inl (G.2 0, 30, .inl (av d))), (xA, .inl (G.2 0, 30, .inl (av x)))] _ := hP
    have hD : va_D A [(h, .inr (3, [.int (iz size), .int (iz naming), .int (iz st), .int (iz ag), .ref eA, .ref nA, .ref oA, .ref tA, .ref aA, .ref xA, .int (iz sn), .int (iz ag), .int (iz sl), .long (lz ht), .long (lz (ht + (sl * st)))])), (eA, .inl (G.2 0, 40, .inl (av ec))), (nA, .inl (G.2 3, 30, .inl (bv nm))), (oA, .inl (G.2 0, 30, .inl (av dO))), (tA, .inl (G.2 0, 120, .inl (av t))), (aA, .inl (G.2 0, 30, .inl (av d))), (xA, .inl (G.2 0, 30, .inl (av x)))] := hD
    have hc : (ba < ag ∨ ag = ba ∧ ht + sl * st < bm) := by omega
    exact fin_v (wf := (fun _ : Unit => [(h, .inr (3, [.int (iz size), .int (iz naming), .int (iz (if (ba < ag ∨ ag = ba ∧ ht + sl * st < bm) then st else bs)), .int (iz (if (ba < ag ∨ ag = ba ∧ ht + sl * st < bm) then ag else ba)), .ref eA, .ref nA, .ref oA, .ref tA, .ref aA, .ref xA, .int (iz sn), .int (iz ag), .int (iz sl), .long (lz ht), .long (lz (if (ba < ag ∨ ag = ba ∧ ht + sl * st < bm) then ht + sl * st else bm))])), (eA, .inl (G.2 0, 40, .inl (av ec))), (nA, .inl (G.2 3, 30, .inl (bv nm))), (oA, .inl (G.2 0, 30, .inl (av dO))), (tA, .inl (G.2 0, 120, .inl (av t))), (aA, .inl (G.2 0, 30, .inl (av d))), (xA, .inl (G.2 0, 30, .inl (av x)))])) () F (by (try dsimp only); rw [if_pos hc, if_pos hc, if_pos hc]; exact hP) (by (try dsimp only); rw [if_pos hc, if_pos hc, if_pos hc]; exact hD) hK hS (by decide) (by decide) dX5_consider_63 trivial
  · skip
    refine lv_aload_n hX_ hB_ dX5_consider_25 rfl (lv_at hl 1 rfl) ?_
    refine va_get (D := G.1) (ci := 3) (v := .int (iz ag)) (C := RX5) (T := TX5) (N := 15) hX_ hB_ hts hi_X5_consider_X5 hown hK.1 hP 0 rfl rfl 11 (by decide) (hts _ hw_X5_consider_b6fae5) (fun _ h9 => h9) rfl dX5_consider_26 ?_
    refine lv_aload_n hX_ hB_ dX5_consider_29 rfl (lv_at hl 1 rfl) ?_
    refine va_get (D := G.1) (ci := 3) (v := .int (iz ba)) (C := RX5) (T := TX5) (N := 15) hX_ hB_ hts hi_X5_consider_X5 hown hK.1 hP 0 rfl rfl 3 (by decide) (hts _ hw_X5_consider_79c78d) (fun _ h9 => h9) rfl dX5_consider_30 ?_
    refine zk_icmp_ne (tgt := 63) hX_ hB_ (by omega) (by omega) dX5_consider_33 (by decide) (fun c_33 => ?_) (fun c_33 => ?_)
    · skip
      have hc : ¬ (ba < ag ∨ ag = ba ∧ ht + sl * st < bm) := by omega
      exact fin_v (wf := (fun _ : Unit => [(h, .inr (3, [.int (iz size), .int (iz naming), .int (iz (if (ba < ag ∨ ag = ba ∧ ht + sl * st < bm) then st else bs)), .int (iz (if (ba < ag ∨ ag = ba ∧ ht + sl * st < bm) then ag else ba)), .ref eA, .ref nA, .ref oA, .ref tA, .ref aA, .ref xA, .int (iz sn), .int (iz ag), .int (iz sl), .long (lz ht), .long (lz (if (ba < ag ∨ ag = ba ∧ ht + sl * st < bm) then ht + sl * st else bm))])), (eA, .inl (G.2 0, 40, .inl (av ec))), (nA, .inl (G.2 3, 30, .inl (bv nm))), (oA, .inl (G.2 0, 30, .inl (av dO))), (tA, .inl (G.2 0, 120, .inl (av t))), (aA, .inl (G.2 0, 30, .inl (av d))), (xA, .inl (G.2 0, 30, .inl (av x)))])) () F (by (try dsimp only); rw [if_neg hc, if_neg hc, if_neg hc]; exact hP) (by (try dsimp only); rw [if_neg hc, if_neg hc, if_neg hc]; exact hD) hK hS (by decide) (by decide) dX5_consider_63 trivial
    · skip
      refine lv_lload_n hX_ hB_ dX5_consider_36 rfl (lv_at hl 0 rfl) ?_
      refine lv_aload_n hX_ hB_ dX5_consider_37 rfl (lv_at hl 1 rfl) ?_
      refine va_get (D := G.1) (ci := 3) (v := .long (lz bm)) (C := RX5) (T := TX5) (N := 15) hX_ hB_ hts hi_X5_consider_X5 hown hK.1 hP 0 rfl rfl 14 (by decide) (hts _ hw_X5_consider_efb6a3) (fun _ h9 => h9) rfl dX5_consider_38 ?_
      refine W.lcmp hX_ hB_ dX5_consider_41 ?_
      refine zk_lcz_ge (tgt := 63) hX_ hB_ (by omega) (by omega) dX5_consider_42 (by decide) (fun c_42 => ?_) (fun c_42 => ?_)
      · skip
        have hc : ¬ (ba < ag ∨ ag = ba ∧ ht + sl * st < bm) := by omega
        exact fin_v (wf := (fun _ : Unit => [(h, .inr (3, [.int (iz size), .int (iz naming), .int (iz (if (ba < ag ∨ ag = ba ∧ ht + sl * st < bm) then st else bs)), .int (iz (if (ba < ag ∨ ag = ba ∧ ht + sl * st < bm) then ag else ba)), .ref eA, .ref nA, .ref oA, .ref tA, .ref aA, .ref xA, .int (iz sn), .int (iz ag), .int (iz sl), .long (lz ht), .long (lz (if (ba < ag ∨ ag = ba ∧ ht + sl * st < bm) then ht + sl * st else bm))])), (eA, .inl (G.2 0, 40, .inl (av ec))), (nA, .inl (G.2 3, 30, .inl (bv nm))), (oA, .inl (G.2 0, 30, .inl (av dO))), (tA, .inl (G.2 0, 120, .inl (av t))), (aA, .inl (G.2 0, 30, .inl (av d))), (xA, .inl (G.2 0, 30, .inl (av x)))])) () F (by (try dsimp only); rw [if_neg hc, if_neg hc, if_neg hc]; exact hP) (by (try dsimp only); rw [if_neg hc, if_neg hc, if_neg hc]; exact hD) hK hS (by decide) (by decide) dX5_consider_63 trivial
      · skip
        refine lv_aload_n hX_ hB_ dX5_consider_45 rfl (lv_at hl 1 rfl) ?_
        refine lv_aload_n hX_ hB_ dX5_consider_46 rfl (lv_at hl 1 rfl) ?_
        refine va_get (D := G.1) (ci := 3) (v := .int (iz ag)) (C := RX5) (T := TX5) (N := 15) hX_ hB_ hts hi_X5_consider_X5 hown hK.1 hP 0 rfl rfl 11 (by decide) (hts _ hw_X5_consider_b6fae5) (fun _ h9 => h9) rfl dX5_consider_47 ?_
        refine va_put (D := G.1) (ci := 3) (v := .int (iz ag)) (ty := .int) (C := RX5) (T := TX5) (N := 15) hX_ hB_ hts hi_X5_consider_X5 tyX5 tyX5_ok nmX5 hown hK.1 hP hD hS 0 rfl rfl 3 (by decide) (hts _ hw_X5_consider_79c78d) (fun _ h9 => h9) rfl (by decide +kernel) rfl rfl (Nat.le_of_ble_eq_true rfl) dX5_consider_50 (fun H locs hP hD hS => ?_)
        have hP : va_P G.1 vwCl [(h, .inr (3, [.int (iz size), .int (iz naming), .int (iz bs), .int (iz ag), .ref eA, .ref nA, .ref oA, .ref tA, .ref aA, .ref xA, .int (iz sn), .int (iz ag), .int (iz sl), .long (lz ht), .long (lz bm)])), (eA, .inl (G.2 0, 40, .inl (av ec))), (nA, .inl (G.2 3, 30, .inl (bv nm))), (oA, .inl (G.2 0, 30, .inl (av dO))), (tA, .inl (G.2 0, 120, .inl (av t))), (aA, .inl (G.2 0, 30, .inl (av d))), (xA, .inl (G.2 0, 30, .inl (av x)))] _ := hP
        have hD : va_D A [(h, .inr (3, [.int (iz size), .int (iz naming), .int (iz bs), .int (iz ag), .ref eA, .ref nA, .ref oA, .ref tA, .ref aA, .ref xA, .int (iz sn), .int (iz ag), .int (iz sl), .long (lz ht), .long (lz bm)])), (eA, .inl (G.2 0, 40, .inl (av ec))), (nA, .inl (G.2 3, 30, .inl (bv nm))), (oA, .inl (G.2 0, 30, .inl (av dO))), (tA, .inl (G.2 0, 120, .inl (av t))), (aA, .inl (G.2 0, 30, .inl (av d))), (xA, .inl (G.2 0, 30, .inl (av x)))] := hD
        refine lv_aload_n hX_ hB_ dX5_consider_53 rfl (lv_at hl 1 rfl) ?_
        refine lv_lload_n hX_ hB_ dX5_consider_54 rfl (lv_at hl 0 rfl) ?_
        refine va_put (D := G.1) (ci := 3) (v := .long (lz (ht + (sl * st)))) (ty := .long) (C := RX5) (T := TX5) (N := 15) hX_ hB_ hts hi_X5_consider_X5 tyX5 tyX5_ok nmX5 hown hK.1 hP hD hS 0 rfl rfl 14 (by decide) (hts _ hw_X5_consider_efb6a3) (fun _ h9 => h9) rfl (by decide +kernel) rfl rfl (Nat.le_of_ble_eq_true rfl) dX5_consider_55 (fun H locs hP hD hS => ?_)
        have hP : va_P G.1 vwCl [(h, .inr (3, [.int (iz size), .int (iz naming), .int (iz bs), .int (iz ag), .ref eA, .ref nA, .ref oA, .ref tA, .ref aA, .ref xA, .int (iz sn), .int (iz ag), .int (iz sl), .long (lz ht), .long (lz (ht + (sl * st)))])), (eA, .inl (G.2 0, 40, .inl (av ec))), (nA, .inl (G.2 3, 30, .inl (bv nm))), (oA, .inl (G.2 0, 30, .inl (av dO))), (tA, .inl (G.2 0, 120, .inl (av t))), (aA, .inl (G.2 0, 30, .inl (av d))), (xA, .inl (G.2 0, 30, .inl (av x)))] _ := hP
        have hD : va_D A [(h, .inr (3, [.int (iz size), .int (iz naming), .int (iz bs), .int (iz ag), .ref eA, .ref nA, .ref oA, .ref tA, .ref aA, .ref xA, .int (iz sn), .int (iz ag), .int (iz sl), .long (lz ht), .long (lz (ht + (sl * st)))])), (eA, .inl (G.2 0, 40, .inl (av ec))), (nA, .inl (G.2 3, 30, .inl (bv nm))), (oA, .inl (G.2 0, 30, .inl (av dO))), (tA, .inl (G.2 0, 120, .inl (av t))), (aA, .inl (G.2 0, 30, .inl (av d))), (xA, .inl (G.2 0, 30, .inl (av x)))] := hD
        refine lv_aload_n hX_ hB_ dX5_consider_58 rfl (lv_at hl 1 rfl) ?_
        refine lv_iload_n hX_ hB_ dX5_consider_59 rfl (lv_at hl 2 rfl) ?_
        refine va_put (D := G.1) (ci := 3) (v := .int (iz st)) (ty := .int) (C := RX5) (T := TX5) (N := 15) hX_ hB_ hts hi_X5_consider_X5 tyX5 tyX5_ok nmX5 hown hK.1 hP hD hS 0 rfl rfl 2 (by decide) (hts _ hw_X5_consider_d8c36f) (fun _ h9 => h9) rfl (by decide +kernel) rfl rfl (Nat.le_of_ble_eq_true rfl) dX5_consider_60 (fun H locs hP hD hS => ?_)
        have hP : va_P G.1 vwCl [(h, .inr (3, [.int (iz size), .int (iz naming), .int (iz st), .int (iz ag), .ref eA, .ref nA, .ref oA, .ref tA, .ref aA, .ref xA, .int (iz sn), .int (iz ag), .int (iz sl), .long (lz ht), .long (lz (ht + (sl * st)))])), (eA, .inl (G.2 0, 40, .inl (av ec))), (nA, .inl (G.2 3, 30, .inl (bv nm))), (oA, .inl (G.2 0, 30, .inl (av dO))), (tA, .inl (G.2 0, 120, .inl (av t))), (aA, .inl (G.2 0, 30, .inl (av d))), (xA, .inl (G.2 0, 30, .inl (av x)))] _ := hP
        have hD : va_D A [(h, .inr (3, [.int (iz size), .int (iz naming), .int (iz st), .int (iz ag), .ref eA, .ref nA, .ref oA, .ref tA, .ref aA, .ref xA, .int (iz sn), .int (iz ag), .int (iz sl), .long (lz ht), .long (lz (ht + (sl * st)))])), (eA, .inl (G.2 0, 40, .inl (av ec))), (nA, .inl (G.2 3, 30, .inl (bv nm))), (oA, .inl (G.2 0, 30, .inl (av dO))), (tA, .inl (G.2 0, 120, .inl (av t))), (aA, .inl (G.2 0, 30, .inl (av d))), (xA, .inl (G.2 0, 30, .inl (av x)))] := hD
        have hc : (ba < ag ∨ ag = ba ∧ ht + sl * st < bm) := by omega
        exact fin_v (wf := (fun _ : Unit => [(h, .inr (3, [.int (iz size), .int (iz naming), .int (iz (if (ba < ag ∨ ag = ba ∧ ht + sl * st < bm) then st else bs)), .int (iz (if (ba < ag ∨ ag = ba ∧ ht + sl * st < bm) then ag else ba)), .ref eA, .ref nA, .ref oA, .ref tA, .ref aA, .ref xA, .int (iz sn), .int (iz ag), .int (iz sl), .long (lz ht), .long (lz (if (ba < ag ∨ ag = ba ∧ ht + sl * st < bm) then ht + sl * st else bm))])), (eA, .inl (G.2 0, 40, .inl (av ec))), (nA, .inl (G.2 3, 30, .inl (bv nm))), (oA, .inl (G.2 0, 30, .inl (av dO))), (tA, .inl (G.2 0, 120, .inl (av t))), (aA, .inl (G.2 0, 30, .inl (av d))), (xA, .inl (G.2 0, 30, .inl (av x)))])) () F (by (try dsimp only); rw [if_pos hc, if_pos hc, if_pos hc]; exact hP) (by (try dsimp only); rw [if_pos hc, if_pos hc, if_pos hc]; exact hD) hK hS (by decide) (by decide) dX5_consider_63 trivial

theorem hw_X5_turn_a6b57e : (.fieldLink RX5 28 "StoneDates$Sky" "next" "[I" : Cond) ∈ wsX5_turn := by decide +kernel
theorem hi_X5_turn_X5 : ∀ w ∈ u_ws RX5 TX5 15, w ∈ wsX5_turn := by decide +kernel
theorem hw_X5_turn_520157 : (.fieldLink RX5 22 "StoneDates$Sky" "turns" "[I" : Cond) ∈ wsX5_turn := by decide +kernel
theorem hw_X5_turn_069bc0 : (.fieldLink RX5 25 "StoneDates$Sky" "dates" "[I" : Cond) ∈ wsX5_turn := by decide +kernel
theorem hw_X5_turn_cf89c6 : (.fieldLink RX5 61 "StoneDates$Sky" "height" "J" : Cond) ∈ wsX5_turn := by decide +kernel
theorem hw_X5_turn_466412 : (.fieldLink RX5 58 "StoneDates$Sky" "slope" "I" : Cond) ∈ wsX5_turn := by decide +kernel
theorem hw_X5_turn_b6fae5 : (.fieldLink RX5 55 "StoneDates$Sky" "agreeing" "I" : Cond) ∈ wsX5_turn := by decide +kernel
theorem hw_X5_turn_f290e7 : (.constantLong RX5 87 (2) : Cond) ∈ wsX5_turn := by decide +kernel
set_option maxHeartbeats 4000000 in
set_option maxRecDepth 100000 in
theorem c_X5_turn (l : Launch) (G : GG) (h : Nat) (eA : Nat) (nA : Nat) (oA : Nat) (tA : Nat) (aA : Nat) (xA : Nat) (size : Int) (naming : Int) (bs : Int) (ba : Int) (sn : Int) (ag : Int) (sl : Int) (ht : Int) (bm : Int) (ec : Int → Int) (nm : Int → Bool) (dO : Int → Int) (t : Int → Int) (d : Int → Int) (x : Int → Int) (k : Int) (hk : 0 ≤ k ∧ k < 30) (hx : 0 ≤ x k ∧ x k < 120) (hm : R31 (t (x k - x k % 3 + 1) - d k)) : Cv l yX5_turn wsX5_turn ({ frames := 0, cells := 0, slots := 0, locals := 0 }) G E0 [.ref h, .int (iz k)] [(h, .inr (3, [.int (iz size), .int (iz naming), .int (iz bs), .int (iz ba), .ref eA, .ref nA, .ref oA, .ref tA, .ref aA, .ref xA, .int (iz sn), .int (iz ag), .int (iz sl), .long (lz ht), .long (lz bm)])), (eA, .inl (G.2 0, 40, .inl (av ec))), (nA, .inl (G.2 3, 30, .inl (bv nm))), (oA, .inl (G.2 0, 30, .inl (av dO))), (tA, .inl (G.2 0, 120, .inl (av t))), (aA, .inl (G.2 0, 30, .inl (av d))), (xA, .inl (G.2 0, 30, .inl (av x)))] 0 0 (fun _ : Unit => [(h, .inr (3, [.int (iz size), .int (iz naming), .int (iz bs), .int (iz ba), .ref eA, .ref nA, .ref oA, .ref tA, .ref aA, .ref xA, .int (iz sn), .int (iz (if x k % 3 = 1 then ag else ag + (if x k % 3 = 0 then 1 else -1))), .int (iz (if x k % 3 = 1 then sl + 2 else sl - 1)), .long (lz (if x k % 3 = 1 then ht - 2 * (t (x k - x k % 3 + 1) - d k) else ht + (t (x k - x k % 3 + 1) - d k))), .long (lz bm)])), (eA, .inl (G.2 0, 40, .inl (av ec))), (nA, .inl (G.2 3, 30, .inl (bv nm))), (oA, .inl (G.2 0, 30, .inl (av dO))), (tA, .inl (G.2 0, 120, .inl (av t))), (aA, .inl (G.2 0, 30, .inl (av d))), (xA, .inl (G.2 0, 30, .inl (av (us x k (x k + 1)))))]) (fun (_ : Unit) => True) := by
  refine Cv_intro (cc := cX5_turn) (maxL := 4) (ret := none) (by decide) rfl (Nat.le_of_ble_eq_true rfl) ?_
  intro p e s m below meth c A F hA hP hD hK hE ls hl
  have hX_ := F.1
  have hB_ := F.2.1
  have hts := F.2.2.2.2.2.1
  have hown := F.2.2.2.2.1
  have hml := F.2.2.2.1
  have hS : va_S A s.heap s.heap [] := va_S.rf
  have hl : lv_has ls 4 [(0, .ref h), (1, .int (iz k))] := hl
  refine lv_aload_n hX_ hB_ dX5_turn_0 rfl (lv_at hl 0 rfl) ?_
  refine va_get (D := G.1) (ci := 3) (v := .ref xA) (C := RX5) (T := TX5) (N := 15) hX_ hB_ hts hi_X5_turn_X5 hown hK.1 hP 0 rfl rfl 9 (by decide) (hts _ hw_X5_turn_a6b57e) (fun _ h9 => h9) rfl dX5_turn_1 ?_
  refine lv_iload_n hX_ hB_ dX5_turn_4 rfl (lv_at hl 1 rfl) ?_
  refine zk_iald hX_ hB_ hK.1 hP 6 0 rfl rfl (by omega) (by decide) dX5_turn_5 ?_
  refine zk_iconst hX_ hB_ dX5_turn_6 ?_
  refine zk_irem hX_ hB_ (by omega) (by omega) (by omega) (by omega) dX5_turn_7 ?_
  refine lv_istore_n (lv' := [(2, .int (iz ((x k) % 3))), (0, .ref h), (1, .int (iz k))]) hX_ hB_ dX5_turn_8 rfl hl (by decide) rfl (fun ls hl => ?_)
  refine lv_aload_n hX_ hB_ dX5_turn_9 rfl (lv_at hl 1 rfl) ?_
  refine va_get (D := G.1) (ci := 3) (v := .ref tA) (C := RX5) (T := TX5) (N := 15) hX_ hB_ hts hi_X5_turn_X5 hown hK.1 hP 0 rfl rfl 7 (by decide) (hts _ hw_X5_turn_520157) (fun _ h9 => h9) rfl dX5_turn_10 ?_
  refine lv_aload_n hX_ hB_ dX5_turn_13 rfl (lv_at hl 1 rfl) ?_
  refine va_get (D := G.1) (ci := 3) (v := .ref xA) (C := RX5) (T := TX5) (N := 15) hX_ hB_ hts hi_X5_turn_X5 hown hK.1 hP 0 rfl rfl 9 (by decide) (hts _ hw_X5_turn_a6b57e) (fun _ h9 => h9) rfl dX5_turn_14 ?_
  refine lv_iload_n hX_ hB_ dX5_turn_17 rfl (lv_at hl 2 rfl) ?_
  refine zk_iald hX_ hB_ hK.1 hP 6 0 rfl rfl (by omega) (by decide) dX5_turn_18 ?_
  refine lv_iload_n hX_ hB_ dX5_turn_19 rfl (lv_at hl 0 rfl) ?_
  refine zk_isub hX_ hB_ dX5_turn_20 ?_
  refine zk_iconst hX_ hB_ dX5_turn_21 ?_
  refine zk_iadd hX_ hB_ dX5_turn_22 ?_
  refine zk_iald hX_ hB_ hK.1 hP 4 0 rfl rfl (by omega) (by decide) dX5_turn_23 ?_
  refine lv_aload_n hX_ hB_ dX5_turn_24 rfl (lv_at hl 1 rfl) ?_
  refine va_get (D := G.1) (ci := 3) (v := .ref aA) (C := RX5) (T := TX5) (N := 15) hX_ hB_ hts hi_X5_turn_X5 hown hK.1 hP 0 rfl rfl 8 (by decide) (hts _ hw_X5_turn_069bc0) (fun _ h9 => h9) rfl dX5_turn_25 ?_
  refine lv_iload_n hX_ hB_ dX5_turn_28 rfl (lv_at hl 2 rfl) ?_
  refine zk_iald hX_ hB_ hK.1 hP 5 0 rfl rfl (by omega) (by decide) dX5_turn_29 ?_
  refine zk_isub hX_ hB_ dX5_turn_30 ?_
  refine lv_istore_n (lv' := [(3, .int (iz ((t (((x k) - ((x k) % 3)) + 1)) - (d k)))), (2, .int (iz ((x k) % 3))), (0, .ref h), (1, .int (iz k))]) hX_ hB_ dX5_turn_31 rfl hl (by decide) rfl (fun ls hl => ?_)
  refine lv_iload_n hX_ hB_ dX5_turn_32 rfl (lv_at hl 1 rfl) ?_
  refine zk_iconst hX_ hB_ dX5_turn_33 ?_
  refine zk_icmp_ne (tgt := 65) hX_ hB_ (by omega) (by omega) dX5_turn_34 (by decide) (fun c_34 => ?_) (fun c_34 => ?_)
  · skip
    refine lv_aload_n hX_ hB_ dX5_turn_65 rfl (lv_at hl 2 rfl) ?_
    refine lv_dup hX_ hB_ dX5_turn_66 rfl ?_
    refine va_get (D := G.1) (ci := 3) (v := .long (lz ht)) (C := RX5) (T := TX5) (N := 15) hX_ hB_ hts hi_X5_turn_X5 hown hK.1 hP 0 rfl rfl 13 (by decide) (hts _ hw_X5_turn_cf89c6) (fun _ h9 => h9) rfl dX5_turn_67 ?_
    refine lv_iload_n hX_ hB_ dX5_turn_70 rfl (lv_at hl 0 rfl) ?_
    refine zk_i2l hX_ hB_ (by omega) dX5_turn_71 ?_
    refine zk_ladd hX_ hB_ dX5_turn_72 ?_
    refine va_put (D := G.1) (ci := 3) (v := .long (lz (ht + ((t (((x k) - ((x k) % 3)) + 1)) - (d k))))) (ty := .long) (C := RX5) (T := TX5) (N := 15) hX_ hB_ hts hi_X5_turn_X5 tyX5 tyX5_ok nmX5 hown hK.1 hP hD hS 0 rfl rfl 13 (by decide) (hts _ hw_X5_turn_cf89c6) (fun _ h9 => h9) rfl (by decide +kernel) rfl rfl (Nat.le_of_ble_eq_true rfl) dX5_turn_73 (fun H locs hP hD hS => ?_)
    have hP : va_P G.1 vwCl [(h, .inr (3, [.int (iz size), .int (iz naming), .int (iz bs), .int (iz ba), .ref eA, .ref nA, .ref oA, .ref tA, .ref aA, .ref xA, .int (iz sn), .int (iz ag), .int (iz sl), .long (lz (ht + ((t (((x k) - ((x k) % 3)) + 1)) - (d k)))), .long (lz bm)])), (eA, .inl (G.2 0, 40, .inl (av ec))), (nA, .inl (G.2 3, 30, .inl (bv nm))), (oA, .inl (G.2 0, 30, .inl (av dO))), (tA, .inl (G.2 0, 120, .inl (av t))), (aA, .inl (G.2 0, 30, .inl (av d))), (xA, .inl (G.2 0, 30, .inl (av x)))] _ := hP
    have hD : va_D A [(h, .inr (3, [.int (iz size), .int (iz naming), .int (iz bs), .int (iz ba), .ref eA, .ref nA, .ref oA, .ref tA, .ref aA, .ref xA, .int (iz sn), .int (iz ag), .int (iz sl), .long (lz (ht + ((t (((x k) - ((x k) % 3)) + 1)) - (d k)))), .long (lz bm)])), (eA, .inl (G.2 0, 40, .inl (av ec))), (nA, .inl (G.2 3, 30, .inl (bv nm))), (oA, .inl (G.2 0, 30, .inl (av dO))), (tA, .inl (G.2 0, 120, .inl (av t))), (aA, .inl (G.2 0, 30, .inl (av d))), (xA, .inl (G.2 0, 30, .inl (av x)))] := hD
    refine lv_aload_n hX_ hB_ dX5_turn_76 rfl (lv_at hl 2 rfl) ?_
    refine lv_dup hX_ hB_ dX5_turn_77 rfl ?_
    refine va_get (D := G.1) (ci := 3) (v := .int (iz sl)) (C := RX5) (T := TX5) (N := 15) hX_ hB_ hts hi_X5_turn_X5 hown hK.1 hP 0 rfl rfl 12 (by decide) (hts _ hw_X5_turn_466412) (fun _ h9 => h9) rfl dX5_turn_78 ?_
    refine zk_iconst hX_ hB_ dX5_turn_81 ?_
    refine zk_isub hX_ hB_ dX5_turn_82 ?_
    refine va_put (D := G.1) (ci := 3) (v := .int (iz (sl - 1))) (ty := .int) (C := RX5) (T := TX5) (N := 15) hX_ hB_ hts hi_X5_turn_X5 tyX5 tyX5_ok nmX5 hown hK.1 hP hD hS 0 rfl rfl 12 (by decide) (hts _ hw_X5_turn_466412) (fun _ h9 => h9) rfl (by decide +kernel) rfl rfl (Nat.le_of_ble_eq_true rfl) dX5_turn_83 (fun H locs hP hD hS => ?_)
    have hP : va_P G.1 vwCl [(h, .inr (3, [.int (iz size), .int (iz naming), .int (iz bs), .int (iz ba), .ref eA, .ref nA, .ref oA, .ref tA, .ref aA, .ref xA, .int (iz sn), .int (iz ag), .int (iz (sl - 1)), .long (lz (ht + ((t (((x k) - ((x k) % 3)) + 1)) - (d k)))), .long (lz bm)])), (eA, .inl (G.2 0, 40, .inl (av ec))), (nA, .inl (G.2 3, 30, .inl (bv nm))), (oA, .inl (G.2 0, 30, .inl (av dO))), (tA, .inl (G.2 0, 120, .inl (av t))), (aA, .inl (G.2 0, 30, .inl (av d))), (xA, .inl (G.2 0, 30, .inl (av x)))] _ := hP
    have hD : va_D A [(h, .inr (3, [.int (iz size), .int (iz naming), .int (iz bs), .int (iz ba), .ref eA, .ref nA, .ref oA, .ref tA, .ref aA, .ref xA, .int (iz sn), .int (iz ag), .int (iz (sl - 1)), .long (lz (ht + ((t (((x k) - ((x k) % 3)) + 1)) - (d k)))), .long (lz bm)])), (eA, .inl (G.2 0, 40, .inl (av ec))), (nA, .inl (G.2 3, 30, .inl (bv nm))), (oA, .inl (G.2 0, 30, .inl (av dO))), (tA, .inl (G.2 0, 120, .inl (av t))), (aA, .inl (G.2 0, 30, .inl (av d))), (xA, .inl (G.2 0, 30, .inl (av x)))] := hD
    have join_100 : ∀ (q : Int), (q = if x k % 3 = 0 then 1 else -1) → ∀ (H : Heap) (locs : List Loc), va_P G.1 vwCl [(h, .inr (3, [.int (iz size), .int (iz naming), .int (iz bs), .int (iz ba), .ref eA, .ref nA, .ref oA, .ref tA, .ref aA, .ref xA, .int (iz sn), .int (iz ag), .int (iz (sl - 1)), .long (lz (ht + ((t (((x k) - ((x k) % 3)) + 1)) - (d k)))), .long (lz bm)])), (eA, .inl (G.2 0, 40, .inl (av ec))), (nA, .inl (G.2 3, 30, .inl (bv nm))), (oA, .inl (G.2 0, 30, .inl (av dO))), (tA, .inl (G.2 0, 120, .inl (av t))), (aA, .inl (G.2 0, 30, .inl (av d))), (xA, .inl (G.2 0, 30, .inl (av x)))] H → va_D A [(h, .inr (3, [.int (iz size), .int (iz naming), .int (iz bs), .int (iz ba), .ref eA, .ref nA, .ref oA, .ref tA, .ref aA, .ref xA, .int (iz sn), .int (iz ag), .int (iz (sl - 1)), .long (lz (ht + ((t (((x k) - ((x k) % 3)) + 1)) - (d k)))), .long (lz bm)])), (eA, .inl (G.2 0, 40, .inl (av ec))), (nA, .inl (G.2 3, 30, .inl (bv nm))), (oA, .inl (G.2 0, 30, .inl (av dO))), (tA, .inl (G.2 0, 120, .inl (av t))), (aA, .inl (G.2 0, 30, .inl (av d))), (xA, .inl (G.2 0, 30, .inl (av x)))] → va_S A s.heap H locs → ∀ ls : Array Slot, lv_has ls 4 [(0, .ref h), (1, .int (iz k)), (2, .int (iz ((x k) % 3))), (3, .int (iz ((t (((x k) - ((x k) % 3)) + 1)) - (d k))))] → W p l e ({ frames := 0, cells := 0, slots := 0, locals := 0 }) s m ([.ref h, .int (iz k)] : List Value).toArray below meth c H locs 0 0 (MQ below (va_Qv (fun (_ : Unit) => True) (fun u__ t__ => Pst G A ((fun _ : Unit => [(h, .inr (3, [.int (iz size), .int (iz naming), .int (iz bs), .int (iz ba), .ref eA, .ref nA, .ref oA, .ref tA, .ref aA, .ref xA, .int (iz sn), .int (iz (if x k % 3 = 1 then ag else ag + (if x k % 3 = 0 then 1 else -1))), .int (iz (if x k % 3 = 1 then sl + 2 else sl - 1)), .long (lz (if x k % 3 = 1 then ht - 2 * (t (x k - x k % 3 + 1) - d k) else ht + (t (x k - x k % 3 + 1) - d k))), .long (lz bm)])), (eA, .inl (G.2 0, 40, .inl (av ec))), (nA, .inl (G.2 3, 30, .inl (bv nm))), (oA, .inl (G.2 0, 30, .inl (av dO))), (tA, .inl (G.2 0, 120, .inl (av t))), (aA, .inl (G.2 0, 30, .inl (av d))), (xA, .inl (G.2 0, 30, .inl (av (us x k (x k + 1)))))]) u__) t__) A) ([.ref h, .int (iz k)] : List Value).toArray s 0 0 A) (F0 m 100 ls [.int (iz q), .int (iz ag), .ref h]) := by
      intro q hq H locs hP hD hS ls hl
      refine zk_iadd hX_ hB_ dX5_turn_100 ?_
      refine va_put (D := G.1) (ci := 3) (v := .int (iz (ag + q))) (ty := .int) (C := RX5) (T := TX5) (N := 15) hX_ hB_ hts hi_X5_turn_X5 tyX5 tyX5_ok nmX5 hown hK.1 hP hD hS 0 rfl rfl 11 (by decide) (hts _ hw_X5_turn_b6fae5) (fun _ h9 => h9) rfl (by decide +kernel) rfl rfl (Nat.le_of_ble_eq_true rfl) dX5_turn_101 (fun H locs hP hD hS => ?_)
      have hP : va_P G.1 vwCl [(h, .inr (3, [.int (iz size), .int (iz naming), .int (iz bs), .int (iz ba), .ref eA, .ref nA, .ref oA, .ref tA, .ref aA, .ref xA, .int (iz sn), .int (iz (ag + q)), .int (iz (sl - 1)), .long (lz (ht + ((t (((x k) - ((x k) % 3)) + 1)) - (d k)))), .long (lz bm)])), (eA, .inl (G.2 0, 40, .inl (av ec))), (nA, .inl (G.2 3, 30, .inl (bv nm))), (oA, .inl (G.2 0, 30, .inl (av dO))), (tA, .inl (G.2 0, 120, .inl (av t))), (aA, .inl (G.2 0, 30, .inl (av d))), (xA, .inl (G.2 0, 30, .inl (av x)))] _ := hP
      have hD : va_D A [(h, .inr (3, [.int (iz size), .int (iz naming), .int (iz bs), .int (iz ba), .ref eA, .ref nA, .ref oA, .ref tA, .ref aA, .ref xA, .int (iz sn), .int (iz (ag + q)), .int (iz (sl - 1)), .long (lz (ht + ((t (((x k) - ((x k) % 3)) + 1)) - (d k)))), .long (lz bm)])), (eA, .inl (G.2 0, 40, .inl (av ec))), (nA, .inl (G.2 3, 30, .inl (bv nm))), (oA, .inl (G.2 0, 30, .inl (av dO))), (tA, .inl (G.2 0, 120, .inl (av t))), (aA, .inl (G.2 0, 30, .inl (av d))), (xA, .inl (G.2 0, 30, .inl (av x)))] := hD
      refine lv_aload_n hX_ hB_ dX5_turn_104 rfl (lv_at hl 0 rfl) ?_
      refine va_get (D := G.1) (ci := 3) (v := .ref xA) (C := RX5) (T := TX5) (N := 15) hX_ hB_ hts hi_X5_turn_X5 hown hK.1 hP 0 rfl rfl 9 (by decide) (hts _ hw_X5_turn_a6b57e) (fun _ h9 => h9) rfl dX5_turn_105 ?_
      refine lv_iload_n hX_ hB_ dX5_turn_108 rfl (lv_at hl 1 rfl) ?_
      refine lv_dup2_11 hX_ hB_ dX5_turn_109 rfl rfl ?_
      refine zk_iald hX_ hB_ hK.1 hP 6 0 rfl rfl (by omega) (by decide) dX5_turn_110 ?_
      refine zk_iconst hX_ hB_ dX5_turn_111 ?_
      refine zk_iadd hX_ hB_ dX5_turn_112 ?_
      refine zk_iast hX_ hB_ hK.1 hP hD hS 6 0 rfl rfl (by omega) (by decide) dX5_turn_113 (fun H locs hP hD hS => ?_)
      have hP : va_P G.1 vwCl [(h, .inr (3, [.int (iz size), .int (iz naming), .int (iz bs), .int (iz ba), .ref eA, .ref nA, .ref oA, .ref tA, .ref aA, .ref xA, .int (iz sn), .int (iz (ag + q)), .int (iz (sl - 1)), .long (lz (ht + ((t (((x k) - ((x k) % 3)) + 1)) - (d k)))), .long (lz bm)])), (eA, .inl (G.2 0, 40, .inl (av ec))), (nA, .inl (G.2 3, 30, .inl (bv nm))), (oA, .inl (G.2 0, 30, .inl (av dO))), (tA, .inl (G.2 0, 120, .inl (av t))), (aA, .inl (G.2 0, 30, .inl (av d))), (xA, .inl (G.2 0, 30, .inl (av (us x k ((x k) + 1)))))] _ := hP
      have hD : va_D A [(h, .inr (3, [.int (iz size), .int (iz naming), .int (iz bs), .int (iz ba), .ref eA, .ref nA, .ref oA, .ref tA, .ref aA, .ref xA, .int (iz sn), .int (iz (ag + q)), .int (iz (sl - 1)), .long (lz (ht + ((t (((x k) - ((x k) % 3)) + 1)) - (d k)))), .long (lz bm)])), (eA, .inl (G.2 0, 40, .inl (av ec))), (nA, .inl (G.2 3, 30, .inl (bv nm))), (oA, .inl (G.2 0, 30, .inl (av dO))), (tA, .inl (G.2 0, 120, .inl (av t))), (aA, .inl (G.2 0, 30, .inl (av d))), (xA, .inl (G.2 0, 30, .inl (av (us x k ((x k) + 1)))))] := hD
      try rw [hq] at hP hD
      exact fin_v (wf := (fun _ : Unit => [(h, .inr (3, [.int (iz size), .int (iz naming), .int (iz bs), .int (iz ba), .ref eA, .ref nA, .ref oA, .ref tA, .ref aA, .ref xA, .int (iz sn), .int (iz (if x k % 3 = 1 then ag else ag + (if x k % 3 = 0 then 1 else -1))), .int (iz (if x k % 3 = 1 then sl + 2 else sl - 1)), .long (lz (if x k % 3 = 1 then ht - 2 * (t (x k - x k % 3 + 1) - d k) else ht + (t (x k - x k % 3 + 1) - d k))), .long (lz bm)])), (eA, .inl (G.2 0, 40, .inl (av ec))), (nA, .inl (G.2 3, 30, .inl (bv nm))), (oA, .inl (G.2 0, 30, .inl (av dO))), (tA, .inl (G.2 0, 120, .inl (av t))), (aA, .inl (G.2 0, 30, .inl (av d))), (xA, .inl (G.2 0, 30, .inl (av (us x k (x k + 1)))))])) () F (by (try dsimp only); (first | rw [if_pos c_34, if_pos c_34, if_pos c_34] | rw [if_neg c_34, if_neg c_34, if_neg c_34]); exact hP) (by (try dsimp only); (first | rw [if_pos c_34, if_pos c_34, if_pos c_34] | rw [if_neg c_34, if_neg c_34, if_neg c_34]); exact hD) hK hS (by decide) (by decide) dX5_turn_114 trivial
    refine lv_aload_n hX_ hB_ dX5_turn_86 rfl (lv_at hl 2 rfl) ?_
    refine lv_dup hX_ hB_ dX5_turn_87 rfl ?_
    refine va_get (D := G.1) (ci := 3) (v := .int (iz ag)) (C := RX5) (T := TX5) (N := 15) hX_ hB_ hts hi_X5_turn_X5 hown hK.1 hP 0 rfl rfl 11 (by decide) (hts _ hw_X5_turn_b6fae5) (fun _ h9 => h9) rfl dX5_turn_88 ?_
    refine lv_iload_n hX_ hB_ dX5_turn_91 rfl (lv_at hl 1 rfl) ?_
    refine zk_if_ne (tgt := 99) hX_ hB_ (by omega) dX5_turn_92 (by decide) (fun c_92 => ?_) (fun c_92 => ?_)
    · skip
      refine zk_iconst hX_ hB_ dX5_turn_99 ?_
      exact join_100 (-1) (by rw [if_neg c_92]) _ _ hP hD hS ls (lv_sub hl [2, 3, 1, 0] rfl)
    · skip
      refine zk_iconst hX_ hB_ dX5_turn_95 ?_
      refine lv_goto (tgt := 100) hX_ hB_ dX5_turn_96 (by decide) ?_
      exact join_100 1 (by rw [if_pos c_92]) _ _ hP hD hS ls (lv_sub hl [2, 3, 1, 0] rfl)
  · skip
    refine lv_aload_n hX_ hB_ dX5_turn_37 rfl (lv_at hl 2 rfl) ?_
    refine lv_dup hX_ hB_ dX5_turn_38 rfl ?_
    refine va_get (D := G.1) (ci := 3) (v := .long (lz ht)) (C := RX5) (T := TX5) (N := 15) hX_ hB_ hts hi_X5_turn_X5 hown hK.1 hP 0 rfl rfl 13 (by decide) (hts _ hw_X5_turn_cf89c6) (fun _ h9 => h9) rfl dX5_turn_39 ?_
    refine lv_ldc2 hX_ hB_ hown (hts _ hw_X5_turn_f290e7) dX5_turn_42 ?_
    refine zk_topl (y := (lz 2)) (by decide) ?_
    refine lv_iload_n hX_ hB_ dX5_turn_45 rfl (lv_at hl 0 rfl) ?_
    refine zk_i2l hX_ hB_ (by omega) dX5_turn_46 ?_
    refine zk_lmul hX_ hB_ dX5_turn_47 ?_
    refine zk_lsub hX_ hB_ dX5_turn_48 ?_
    refine va_put (D := G.1) (ci := 3) (v := .long (lz (ht - (2 * ((t (((x k) - ((x k) % 3)) + 1)) - (d k)))))) (ty := .long) (C := RX5) (T := TX5) (N := 15) hX_ hB_ hts hi_X5_turn_X5 tyX5 tyX5_ok nmX5 hown hK.1 hP hD hS 0 rfl rfl 13 (by decide) (hts _ hw_X5_turn_cf89c6) (fun _ h9 => h9) rfl (by decide +kernel) rfl rfl (Nat.le_of_ble_eq_true rfl) dX5_turn_49 (fun H locs hP hD hS => ?_)
    have hP : va_P G.1 vwCl [(h, .inr (3, [.int (iz size), .int (iz naming), .int (iz bs), .int (iz ba), .ref eA, .ref nA, .ref oA, .ref tA, .ref aA, .ref xA, .int (iz sn), .int (iz ag), .int (iz sl), .long (lz (ht - (2 * ((t (((x k) - ((x k) % 3)) + 1)) - (d k))))), .long (lz bm)])), (eA, .inl (G.2 0, 40, .inl (av ec))), (nA, .inl (G.2 3, 30, .inl (bv nm))), (oA, .inl (G.2 0, 30, .inl (av dO))), (tA, .inl (G.2 0, 120, .inl (av t))), (aA, .inl (G.2 0, 30, .inl (av d))), (xA, .inl (G.2 0, 30, .inl (av x)))] _ := hP
    have hD : va_D A [(h, .inr (3, [.int (iz size), .int (iz naming), .int (iz bs), .int (iz ba), .ref eA, .ref nA, .ref oA, .ref tA, .ref aA, .ref xA, .int (iz sn), .int (iz ag), .int (iz sl), .long (lz (ht - (2 * ((t (((x k) - ((x k) % 3)) + 1)) - (d k))))), .long (lz bm)])), (eA, .inl (G.2 0, 40, .inl (av ec))), (nA, .inl (G.2 3, 30, .inl (bv nm))), (oA, .inl (G.2 0, 30, .inl (av dO))), (tA, .inl (G.2 0, 120, .inl (av t))), (aA, .inl (G.2 0, 30, .inl (av d))), (xA, .inl (G.2 0, 30, .inl (av x)))] := hD
    refine lv_aload_n hX_ hB_ dX5_turn_52 rfl (lv_at hl 2 rfl) ?_
    refine lv_dup hX_ hB_ dX5_turn_53 rfl ?_
    refine va_get (D := G.1) (ci := 3) (v := .int (iz sl)) (C := RX5) (T := TX5) (N := 15) hX_ hB_ hts hi_X5_turn_X5 hown hK.1 hP 0 rfl rfl 12 (by decide) (hts _ hw_X5_turn_466412) (fun _ h9 => h9) rfl dX5_turn_54 ?_
    refine zk_iconst hX_ hB_ dX5_turn_57 ?_
    refine zk_iadd hX_ hB_ dX5_turn_58 ?_
    refine va_put (D := G.1) (ci := 3) (v := .int (iz (sl + 2))) (ty := .int) (C := RX5) (T := TX5) (N := 15) hX_ hB_ hts hi_X5_turn_X5 tyX5 tyX5_ok nmX5 hown hK.1 hP hD hS 0 rfl rfl 12 (by decide) (hts _ hw_X5_turn_466412) (fun _ h9 => h9) rfl (by decide +kernel) rfl rfl (Nat.le_of_ble_eq_true rfl) dX5_turn_59 (fun H locs hP hD hS => ?_)
    have hP : va_P G.1 vwCl [(h, .inr (3, [.int (iz size), .int (iz naming), .int (iz bs), .int (iz ba), .ref eA, .ref nA, .ref oA, .ref tA, .ref aA, .ref xA, .int (iz sn), .int (iz ag), .int (iz (sl + 2)), .long (lz (ht - (2 * ((t (((x k) - ((x k) % 3)) + 1)) - (d k))))), .long (lz bm)])), (eA, .inl (G.2 0, 40, .inl (av ec))), (nA, .inl (G.2 3, 30, .inl (bv nm))), (oA, .inl (G.2 0, 30, .inl (av dO))), (tA, .inl (G.2 0, 120, .inl (av t))), (aA, .inl (G.2 0, 30, .inl (av d))), (xA, .inl (G.2 0, 30, .inl (av x)))] _ := hP
    have hD : va_D A [(h, .inr (3, [.int (iz size), .int (iz naming), .int (iz bs), .int (iz ba), .ref eA, .ref nA, .ref oA, .ref tA, .ref aA, .ref xA, .int (iz sn), .int (iz ag), .int (iz (sl + 2)), .long (lz (ht - (2 * ((t (((x k) - ((x k) % 3)) + 1)) - (d k))))), .long (lz bm)])), (eA, .inl (G.2 0, 40, .inl (av ec))), (nA, .inl (G.2 3, 30, .inl (bv nm))), (oA, .inl (G.2 0, 30, .inl (av dO))), (tA, .inl (G.2 0, 120, .inl (av t))), (aA, .inl (G.2 0, 30, .inl (av d))), (xA, .inl (G.2 0, 30, .inl (av x)))] := hD
    refine lv_goto (tgt := 104) hX_ hB_ dX5_turn_62 (by decide) ?_
    refine lv_aload_n hX_ hB_ dX5_turn_104 rfl (lv_at hl 2 rfl) ?_
    refine va_get (D := G.1) (ci := 3) (v := .ref xA) (C := RX5) (T := TX5) (N := 15) hX_ hB_ hts hi_X5_turn_X5 hown hK.1 hP 0 rfl rfl 9 (by decide) (hts _ hw_X5_turn_a6b57e) (fun _ h9 => h9) rfl dX5_turn_105 ?_
    refine lv_iload_n hX_ hB_ dX5_turn_108 rfl (lv_at hl 3 rfl) ?_
    refine lv_dup2_11 hX_ hB_ dX5_turn_109 rfl rfl ?_
    refine zk_iald hX_ hB_ hK.1 hP 6 0 rfl rfl (by omega) (by decide) dX5_turn_110 ?_
    refine zk_iconst hX_ hB_ dX5_turn_111 ?_
    refine zk_iadd hX_ hB_ dX5_turn_112 ?_
    refine zk_iast hX_ hB_ hK.1 hP hD hS 6 0 rfl rfl (by omega) (by decide) dX5_turn_113 (fun H locs hP hD hS => ?_)
    have hP : va_P G.1 vwCl [(h, .inr (3, [.int (iz size), .int (iz naming), .int (iz bs), .int (iz ba), .ref eA, .ref nA, .ref oA, .ref tA, .ref aA, .ref xA, .int (iz sn), .int (iz ag), .int (iz (sl + 2)), .long (lz (ht - (2 * ((t (((x k) - ((x k) % 3)) + 1)) - (d k))))), .long (lz bm)])), (eA, .inl (G.2 0, 40, .inl (av ec))), (nA, .inl (G.2 3, 30, .inl (bv nm))), (oA, .inl (G.2 0, 30, .inl (av dO))), (tA, .inl (G.2 0, 120, .inl (av t))), (aA, .inl (G.2 0, 30, .inl (av d))), (xA, .inl (G.2 0, 30, .inl (av (us x k ((x k) + 1)))))] _ := hP
    have hD : va_D A [(h, .inr (3, [.int (iz size), .int (iz naming), .int (iz bs), .int (iz ba), .ref eA, .ref nA, .ref oA, .ref tA, .ref aA, .ref xA, .int (iz sn), .int (iz ag), .int (iz (sl + 2)), .long (lz (ht - (2 * ((t (((x k) - ((x k) % 3)) + 1)) - (d k))))), .long (lz bm)])), (eA, .inl (G.2 0, 40, .inl (av ec))), (nA, .inl (G.2 3, 30, .inl (bv nm))), (oA, .inl (G.2 0, 30, .inl (av dO))), (tA, .inl (G.2 0, 120, .inl (av t))), (aA, .inl (G.2 0, 30, .inl (av d))), (xA, .inl (G.2 0, 30, .inl (av (us x k ((x k) + 1)))))] := hD
    try rw [hq] at hP hD
    exact fin_v (wf := (fun _ : Unit => [(h, .inr (3, [.int (iz size), .int (iz naming), .int (iz bs), .int (iz ba), .ref eA, .ref nA, .ref oA, .ref tA, .ref aA, .ref xA, .int (iz sn), .int (iz (if x k % 3 = 1 then ag else ag + (if x k % 3 = 0 then 1 else -1))), .int (iz (if x k % 3 = 1 then sl + 2 else sl - 1)), .long (lz (if x k % 3 = 1 then ht - 2 * (t (x k - x k % 3 + 1) - d k) else ht + (t (x k - x k % 3 + 1) - d k))), .long (lz bm)])), (eA, .inl (G.2 0, 40, .inl (av ec))), (nA, .inl (G.2 3, 30, .inl (bv nm))), (oA, .inl (G.2 0, 30, .inl (av dO))), (tA, .inl (G.2 0, 120, .inl (av t))), (aA, .inl (G.2 0, 30, .inl (av d))), (xA, .inl (G.2 0, 30, .inl (av (us x k (x k + 1)))))])) () F (by (try dsimp only); (first | rw [if_pos c_34, if_pos c_34, if_pos c_34] | rw [if_neg c_34, if_neg c_34, if_neg c_34]); exact hP) (by (try dsimp only); (first | rw [if_pos c_34, if_pos c_34, if_pos c_34] | rw [if_neg c_34, if_neg c_34, if_neg c_34]); exact hD) hK hS (by decide) (by decide) dX5_turn_114 trivial

theorem hw_X5_firstToTurn_a6b57e : (.fieldLink RX5 28 "StoneDates$Sky" "next" "[I" : Cond) ∈ wsX5_firstToTurn := by decide +kernel
theorem hi_X5_firstToTurn_X5 : ∀ w ∈ u_ws RX5 TX5 15, w ∈ wsX5_firstToTurn := by decide +kernel
theorem hw_X5_firstToTurn_8f8c49 : (.fieldLink RX5 35 "StoneDates$Sky" "size" "I" : Cond) ∈ wsX5_firstToTurn := by decide +kernel
theorem hw_X5_firstToTurn_520157 : (.fieldLink RX5 22 "StoneDates$Sky" "turns" "[I" : Cond) ∈ wsX5_firstToTurn := by decide +kernel
theorem hw_X5_firstToTurn_069bc0 : (.fieldLink RX5 25 "StoneDates$Sky" "dates" "[I" : Cond) ∈ wsX5_firstToTurn := by decide +kernel
set_option maxHeartbeats 4000000 in
set_option maxRecDepth 100000 in
theorem c_X5_firstToTurn (l : Launch) (G : GG) (h : Nat) (eA : Nat) (nA : Nat) (oA : Nat) (tA : Nat) (aA : Nat) (xA : Nat) (size : Int) (naming : Int) (bs : Int) (ba : Int) (sn : Int) (ag : Int) (sl : Int) (ht : Int) (bm : Int) (ec : Int → Int) (nm : Int → Bool) (dO : Int → Int) (t : Int → Int) (d : Int → Int) (x : Int → Int) (n : Int) (hn : 0 ≤ n ∧ n ≤ 30) (hz : 0 ≤ size ∧ size ≤ 40) (hx : ∀ i : Int, 0 ≤ i → i < n → 0 ≤ x i ∧ x i ≤ 120) (htr : ∀ i : Int, 0 ≤ i → i < 3 * size → -2000000 ≤ t i ∧ t i ≤ 20000000) (hd : ∀ i : Int, 0 ≤ i → i < n → 0 ≤ d i ∧ d i ≤ 2000000) : Ci l yX5_firstToTurn wsX5_firstToTurn ({ frames := 0, cells := 0, slots := 0, locals := 0 }) G E0 [.ref h, .int (iz n)] [(h, .inr (3, [.int (iz size), .int (iz naming), .int (iz bs), .int (iz ba), .ref eA, .ref nA, .ref oA, .ref tA, .ref aA, .ref xA, .int (iz sn), .int (iz ag), .int (iz sl), .long (lz ht), .long (lz bm)])), (eA, .inl (G.2 0, 40, .inl (av ec))), (nA, .inl (G.2 3, 30, .inl (bv nm))), (oA, .inl (G.2 0, 30, .inl (av dO))), (tA, .inl (G.2 0, 120, .inl (av t))), (aA, .inl (G.2 0, 30, .inl (av d))), (xA, .inl (G.2 0, 30, .inl (av x)))] 0 0 (fun q : Int => [(h, .inr (3, [.int (iz size), .int (iz naming), .int (iz bs), .int (iz ba), .ref eA, .ref nA, .ref oA, .ref tA, .ref aA, .ref xA, .int (iz sn), .int (iz ag), .int (iz sl), .long (lz ht), .long (lz bm)])), (eA, .inl (G.2 0, 40, .inl (av ec))), (nA, .inl (G.2 3, 30, .inl (bv nm))), (oA, .inl (G.2 0, 30, .inl (av dO))), (tA, .inl (G.2 0, 120, .inl (av t))), (aA, .inl (G.2 0, 30, .inl (av d))), (xA, .inl (G.2 0, 30, .inl (av x)))]) (fun (r : Int32) (q : Int) => r = iz q ∧ ((q = -1 ∧ ∀ i : Int, 0 ≤ i → i < n → 3 * size ≤ x i) ∨ (0 ≤ q ∧ q < n ∧ x q < 3 * size ∧ ∀ i : Int, 0 ≤ i → i < n → x i < 3 * size → t (x q) - d q ≤ t (x i) - d i))) := by
  refine Ci_intro (cc := cX5_firstToTurn) (maxL := 6) (ret := (some .int)) (by decide) rfl (Nat.le_of_ble_eq_true rfl) ?_
  intro p e s m below meth c A F hA hP hD hK hE ls hl
  have hX_ := F.1
  have hB_ := F.2.1
  have hts := F.2.2.2.2.2.1
  have hown := F.2.2.2.2.1
  have hml := F.2.2.2.1
  have hS : va_S A s.heap s.heap [] := va_S.rf
  have hl : lv_has ls 6 [(0, .ref h), (1, .int (iz n))] := hl
  refine zk_iconst hX_ hB_ dX5_firstToTurn_0 ?_
  refine lv_istore_n (lv' := [(2, .int (iz (-1))), (0, .ref h), (1, .int (iz n))]) hX_ hB_ dX5_firstToTurn_1 rfl hl (by decide) rfl (fun ls hl => ?_)
  refine zk_iconst hX_ hB_ dX5_firstToTurn_2 ?_
  refine lv_istore_n (lv' := [(3, .int (iz 0)), (2, .int (iz (-1))), (0, .ref h), (1, .int (iz n))]) hX_ hB_ dX5_firstToTurn_3 rfl hl (by decide) rfl (fun ls hl => ?_)
  refine zk_iconst hX_ hB_ dX5_firstToTurn_4 ?_
  refine lv_istore (lv' := [(4, .int (iz 0)), (3, .int (iz 0)), (2, .int (iz (-1))), (0, .ref h), (1, .int (iz n))]) hX_ hB_ dX5_firstToTurn_5 hl (by decide) rfl (fun ls hl => ?_)
  have loop_7 : ∀ (n_7 : Nat), ∀ (i : Int) (q : Int) (lo : Int), (0 ≤ i ∧ i ≤ n) → ((q = -1 ∧ ∀ j : Int, 0 ≤ j → j < i → 3 * size ≤ x j) ∨ (0 ≤ q ∧ q < i ∧ x q < 3 * size ∧ lo = t (x q) - d q ∧ ∀ j : Int, 0 ≤ j → j < i → x j < 3 * size → t (x q) - d q ≤ t (x j) - d j)) → ((n - i).toNat < n_7) → ∀ (H : Heap) (locs : List Loc), va_P G.1 vwCl [(h, .inr (3, [.int (iz size), .int (iz naming), .int (iz bs), .int (iz ba), .ref eA, .ref nA, .ref oA, .ref tA, .ref aA, .ref xA, .int (iz sn), .int (iz ag), .int (iz sl), .long (lz ht), .long (lz bm)])), (eA, .inl (G.2 0, 40, .inl (av ec))), (nA, .inl (G.2 3, 30, .inl (bv nm))), (oA, .inl (G.2 0, 30, .inl (av dO))), (tA, .inl (G.2 0, 120, .inl (av t))), (aA, .inl (G.2 0, 30, .inl (av d))), (xA, .inl (G.2 0, 30, .inl (av x)))] H → va_D A [(h, .inr (3, [.int (iz size), .int (iz naming), .int (iz bs), .int (iz ba), .ref eA, .ref nA, .ref oA, .ref tA, .ref aA, .ref xA, .int (iz sn), .int (iz ag), .int (iz sl), .long (lz ht), .long (lz bm)])), (eA, .inl (G.2 0, 40, .inl (av ec))), (nA, .inl (G.2 3, 30, .inl (bv nm))), (oA, .inl (G.2 0, 30, .inl (av dO))), (tA, .inl (G.2 0, 120, .inl (av t))), (aA, .inl (G.2 0, 30, .inl (av d))), (xA, .inl (G.2 0, 30, .inl (av x)))] → va_S A s.heap H locs → ∀ ls : Array Slot, lv_has ls 6 [(0, .ref h), (1, .int (iz n)), (2, .int (iz q)), (3, .int (iz lo)), (4, .int (iz i))] → W p l e ({ frames := 0, cells := 0, slots := 0, locals := 0 }) s m ([.ref h, .int (iz n)] : List Value).toArray below meth c H locs 0 0 (MQ below (va_Qi (fun (r : Int32) (q : Int) => r = iz q ∧ ((q = -1 ∧ ∀ i : Int, 0 ≤ i → i < n → 3 * size ≤ x i) ∨ (0 ≤ q ∧ q < n ∧ x q < 3 * size ∧ ∀ i : Int, 0 ≤ i → i < n → x i < 3 * size → t (x q) - d q ≤ t (x i) - d i))) (fun u__ t__ => Pst G A ((fun q : Int => [(h, .inr (3, [.int (iz size), .int (iz naming), .int (iz bs), .int (iz ba), .ref eA, .ref nA, .ref oA, .ref tA, .ref aA, .ref xA, .int (iz sn), .int (iz ag), .int (iz sl), .long (lz ht), .long (lz bm)])), (eA, .inl (G.2 0, 40, .inl (av ec))), (nA, .inl (G.2 3, 30, .inl (bv nm))), (oA, .inl (G.2 0, 30, .inl (av dO))), (tA, .inl (G.2 0, 120, .inl (av t))), (aA, .inl (G.2 0, 30, .inl (av d))), (xA, .inl (G.2 0, 30, .inl (av x)))]) u__) t__) A) ([.ref h, .int (iz n)] : List Value).toArray s 0 0 A) (F0 m 7 ls []) := by
    intro n_7
    induction n_7 with
    | zero =>
      intro i q lo hi hv hm H locs hP hD hS ls hl
      exact absurd hm (Nat.not_lt_zero _)
    | succ n_7 ih_7 =>
      intro i q lo hi hv hm H locs hP hD hS ls hl
      have join_68 : ∀ (q2 : Int) (lo2 : Int), (i < n) → ((q2 = -1 ∧ ∀ j : Int, 0 ≤ j → j < i + 1 → 3 * size ≤ x j) ∨ (0 ≤ q2 ∧ q2 < i + 1 ∧ x q2 < 3 * size ∧ lo2 = t (x q2) - d q2 ∧ ∀ j : Int, 0 ≤ j → j < i + 1 → x j < 3 * size → t (x q2) - d q2 ≤ t (x j) - d j)) → ∀ (H : Heap) (locs : List Loc), va_P G.1 vwCl [(h, .inr (3, [.int (iz size), .int (iz naming), .int (iz bs), .int (iz ba), .ref eA, .ref nA, .ref oA, .ref tA, .ref aA, .ref xA, .int (iz sn), .int (iz ag), .int (iz sl), .long (lz ht), .long (lz bm)])), (eA, .inl (G.2 0, 40, .inl (av ec))), (nA, .inl (G.2 3, 30, .inl (bv nm))), (oA, .inl (G.2 0, 30, .inl (av dO))), (tA, .inl (G.2 0, 120, .inl (av t))), (aA, .inl (G.2 0, 30, .inl (av d))), (xA, .inl (G.2 0, 30, .inl (av x)))] H → va_D A [(h, .inr (3, [.int (iz size), .int (iz naming), .int (iz bs), .int (iz ba), .ref eA, .ref nA, .ref oA, .ref tA, .ref aA, .ref xA, .int (iz sn), .int (iz ag), .int (iz sl), .long (lz ht), .long (lz bm)])), (eA, .inl (G.2 0, 40, .inl (av ec))), (nA, .inl (G.2 3, 30, .inl (bv nm))), (oA, .inl (G.2 0, 30, .inl (av dO))), (tA, .inl (G.2 0, 120, .inl (av t))), (aA, .inl (G.2 0, 30, .inl (av d))), (xA, .inl (G.2 0, 30, .inl (av x)))] → va_S A s.heap H locs → ∀ ls : Array Slot, lv_has ls 6 [(0, .ref h), (1, .int (iz n)), (2, .int (iz q2)), (3, .int (iz lo2)), (4, .int (iz i))] → W p l e ({ frames := 0, cells := 0, slots := 0, locals := 0 }) s m ([.ref h, .int (iz n)] : List Value).toArray below meth c H locs 0 0 (MQ below (va_Qi (fun (r : Int32) (q : Int) => r = iz q ∧ ((q = -1 ∧ ∀ i : Int, 0 ≤ i → i < n → 3 * size ≤ x i) ∨ (0 ≤ q ∧ q < n ∧ x q < 3 * size ∧ ∀ i : Int, 0 ≤ i → i < n → x i < 3 * size → t (x q) - d q ≤ t (x i) - d i))) (fun u__ t__ => Pst G A ((fun q : Int => [(h, .inr (3, [.int (iz size), .int (iz naming), .int (iz bs), .int (iz ba), .ref eA, .ref nA, .ref oA, .ref tA, .ref aA, .ref xA, .int (iz sn), .int (iz ag), .int (iz sl), .long (lz ht), .long (lz bm)])), (eA, .inl (G.2 0, 40, .inl (av ec))), (nA, .inl (G.2 3, 30, .inl (bv nm))), (oA, .inl (G.2 0, 30, .inl (av dO))), (tA, .inl (G.2 0, 120, .inl (av t))), (aA, .inl (G.2 0, 30, .inl (av d))), (xA, .inl (G.2 0, 30, .inl (av x)))]) u__) t__) A) ([.ref h, .int (iz n)] : List Value).toArray s 0 0 A) (F0 m 68 ls []) := by
        intro q2 lo2 hin hv2 H locs hP hD hS ls hl
        refine lv_iinc (v := (iz (i + 1))) (lv' := [(4, .int (iz (i + 1))), (0, .ref h), (1, .int (iz n)), (2, .int (iz q2)), (3, .int (iz lo2))]) hX_ hB_ dX5_firstToTurn_68 hl (k := 4) rfl (iz_add _ _) (by decide) rfl (fun ls hl => ?_)
        refine lv_goto (tgt := 7) hX_ hB_ dX5_firstToTurn_71 (by decide) ?_
        exact ih_7 (i + 1) q2 lo2 (by omega) (by exact hv2) (by omega) _ _ hP hD hS ls (lv_sub hl [1, 2, 3, 4, 0] rfl)
      refine lv_iload hX_ hB_ dX5_firstToTurn_7 (lv_at hl 4 rfl) ?_
      refine lv_iload_n hX_ hB_ dX5_firstToTurn_9 rfl (lv_at hl 1 rfl) ?_
      refine zk_icmp_ge (tgt := 74) hX_ hB_ (by omega) (by omega) dX5_firstToTurn_10 (by decide) (fun c_10 => ?_) (fun c_10 => ?_)
      · skip
        refine lv_iload_n hX_ hB_ dX5_firstToTurn_74 rfl (lv_at hl 2 rfl) ?_
        exact fin_i (wf := (fun q : Int => [(h, .inr (3, [.int (iz size), .int (iz naming), .int (iz bs), .int (iz ba), .ref eA, .ref nA, .ref oA, .ref tA, .ref aA, .ref xA, .int (iz sn), .int (iz ag), .int (iz sl), .long (lz ht), .long (lz bm)])), (eA, .inl (G.2 0, 40, .inl (av ec))), (nA, .inl (G.2 3, 30, .inl (bv nm))), (oA, .inl (G.2 0, 30, .inl (av dO))), (tA, .inl (G.2 0, 120, .inl (av t))), (aA, .inl (G.2 0, 30, .inl (av d))), (xA, .inl (G.2 0, 30, .inl (av x)))])) q F rfl hP hD hK hS (by decide) (by decide) dX5_firstToTurn_75 (by refine ⟨rfl, ?_⟩; have ei : i = n := (by omega); subst ei; rcases hv with ⟨q1, q2⟩ | ⟨q1, q2, q3, q4, q5⟩; exact Or.inl ⟨q1, q2⟩; exact Or.inr ⟨q1, q2, q3, q5⟩)
      · skip
        have hxi := hx i (by omega) (by omega)
        have hdi := hd i (by omega) (by omega)
        refine lv_aload_n hX_ hB_ dX5_firstToTurn_13 rfl (lv_at hl 0 rfl) ?_
        refine va_get (D := G.1) (ci := 3) (v := .ref xA) (C := RX5) (T := TX5) (N := 15) hX_ hB_ hts hi_X5_firstToTurn_X5 hown hK.1 hP 0 rfl rfl 9 (by decide) (hts _ hw_X5_firstToTurn_a6b57e) (fun _ h9 => h9) rfl dX5_firstToTurn_14 ?_
        refine lv_iload hX_ hB_ dX5_firstToTurn_17 (lv_at hl 4 rfl) ?_
        refine zk_iald hX_ hB_ hK.1 hP 6 0 rfl rfl (by omega) (by decide) dX5_firstToTurn_19 ?_
        refine zk_iconst hX_ hB_ dX5_firstToTurn_20 ?_
        refine lv_aload_n hX_ hB_ dX5_firstToTurn_21 rfl (lv_at hl 0 rfl) ?_
        refine va_get (D := G.1) (ci := 3) (v := .int (iz size)) (C := RX5) (T := TX5) (N := 15) hX_ hB_ hts hi_X5_firstToTurn_X5 hown hK.1 hP 0 rfl rfl 0 (by decide) (hts _ hw_X5_firstToTurn_8f8c49) (fun _ h9 => h9) rfl dX5_firstToTurn_22 ?_
        refine zk_imul hX_ hB_ dX5_firstToTurn_25 ?_
        refine zk_icmp_ge (tgt := 68) hX_ hB_ (by omega) (by omega) dX5_firstToTurn_26 (by decide) (fun c_26 => ?_) (fun c_26 => ?_)
        · skip
          exact join_68 q lo (by omega) (by rcases hv with ⟨q1, q2⟩ | ⟨q1, q2, q3, q4, q5⟩; (left; exact ⟨q1, fun j h1 h2 => by by_cases e9 : j = i; (rw [e9]; exact c_26); exact q2 j h1 (by omega)⟩); (right; exact ⟨q1, by omega, q3, q4, fun j h1 h2 h3 => by by_cases e9 : j = i; (rw [e9] at h3; omega); exact q5 j h1 (by omega) h3⟩)) _ _ hP hD hS ls (lv_sub hl [0, 1, 2, 3, 4] rfl)
        · skip
          have hti := htr (x i) (by omega) (by omega)
          refine lv_aload_n hX_ hB_ dX5_firstToTurn_29 rfl (lv_at hl 0 rfl) ?_
          refine va_get (D := G.1) (ci := 3) (v := .ref tA) (C := RX5) (T := TX5) (N := 15) hX_ hB_ hts hi_X5_firstToTurn_X5 hown hK.1 hP 0 rfl rfl 7 (by decide) (hts _ hw_X5_firstToTurn_520157) (fun _ h9 => h9) rfl dX5_firstToTurn_30 ?_
          refine lv_aload_n hX_ hB_ dX5_firstToTurn_33 rfl (lv_at hl 0 rfl) ?_
          refine va_get (D := G.1) (ci := 3) (v := .ref xA) (C := RX5) (T := TX5) (N := 15) hX_ hB_ hts hi_X5_firstToTurn_X5 hown hK.1 hP 0 rfl rfl 9 (by decide) (hts _ hw_X5_firstToTurn_a6b57e) (fun _ h9 => h9) rfl dX5_firstToTurn_34 ?_
          refine lv_iload hX_ hB_ dX5_firstToTurn_37 (lv_at hl 4 rfl) ?_
          refine zk_iald hX_ hB_ hK.1 hP 6 0 rfl rfl (by omega) (by decide) dX5_firstToTurn_39 ?_
          refine zk_iald hX_ hB_ hK.1 hP 4 0 rfl rfl (by omega) (by decide) dX5_firstToTurn_40 ?_
          refine lv_aload_n hX_ hB_ dX5_firstToTurn_41 rfl (lv_at hl 0 rfl) ?_
          refine va_get (D := G.1) (ci := 3) (v := .ref aA) (C := RX5) (T := TX5) (N := 15) hX_ hB_ hts hi_X5_firstToTurn_X5 hown hK.1 hP 0 rfl rfl 8 (by decide) (hts _ hw_X5_firstToTurn_069bc0) (fun _ h9 => h9) rfl dX5_firstToTurn_42 ?_
          refine lv_iload hX_ hB_ dX5_firstToTurn_45 (lv_at hl 4 rfl) ?_
          refine zk_iald hX_ hB_ hK.1 hP 5 0 rfl rfl (by omega) (by decide) dX5_firstToTurn_47 ?_
          refine zk_isub hX_ hB_ dX5_firstToTurn_48 ?_
          refine lv_istore (lv' := [(5, .int (iz ((t (x i)) - (d i)))), (0, .ref h), (1, .int (iz n)), (2, .int (iz q)), (3, .int (iz lo)), (4, .int (iz i))]) hX_ hB_ dX5_firstToTurn_49 hl (by decide) rfl (fun ls hl => ?_)
          have hqr : -1 ≤ q ∧ q < i ∨ q = -1 := by rcases hv with ⟨q1, q2⟩ | ⟨q1, q2, q3⟩ <;> omega
          refine lv_iload_n hX_ hB_ dX5_firstToTurn_51 rfl (lv_at hl 3 rfl) ?_
          refine zk_iconst hX_ hB_ dX5_firstToTurn_52 ?_
          refine zk_icmp_eq (tgt := 62) hX_ hB_ (by omega) (by omega) dX5_firstToTurn_53 (by decide) (fun c_53 => ?_) (fun c_53 => ?_)
          · skip
            refine lv_iload hX_ hB_ dX5_firstToTurn_62 (lv_at hl 5 rfl) ?_
            refine lv_istore_n (lv' := [(2, .int (iz i)), (5, .int (iz ((t (x i)) - (d i)))), (0, .ref h), (1, .int (iz n)), (3, .int (iz lo)), (4, .int (iz i))]) hX_ hB_ dX5_firstToTurn_64 rfl hl (by decide) rfl (fun ls hl => ?_)
            refine lv_iload hX_ hB_ dX5_firstToTurn_65 (lv_at hl 1 rfl) ?_
            refine lv_istore_n (lv' := [(3, .int (iz ((t (x i)) - (d i)))), (2, .int (iz i)), (5, .int (iz ((t (x i)) - (d i)))), (0, .ref h), (1, .int (iz n)), (4, .int (iz i))]) hX_ hB_ dX5_firstToTurn_67 rfl hl (by decide) rfl (fun ls hl => ?_)
            exact join_68 i ((t (x i)) - (d i)) (by omega) (by right; refine ⟨hi.1, by omega, c_26, rfl, fun j h1 h2 h3 => ?_⟩; by_cases e9 : j = i; (rw [e9]; exact Int.le_refl _); (rcases hv with ⟨q1, q2⟩ | ⟨q1, q2, q3, q4, q5⟩; (have := q2 j h1 (by omega); omega); (have := q5 j h1 (by omega) h3; omega))) _ _ hP hD hS ls (lv_sub hl [3, 4, 1, 0, 5] rfl)
          · skip
            have hlo : R31 lo := by rcases hv with ⟨q1, q2⟩ | ⟨q1, q2, q3, q4, q5⟩; omega; (rw [q4]; have := htr (x q) (hx q (by omega) (by omega)).1 q3; have := hd q (by omega) (by omega); omega)
            refine lv_iload hX_ hB_ dX5_firstToTurn_56 (lv_at hl 0 rfl) ?_
            refine lv_iload_n hX_ hB_ dX5_firstToTurn_58 rfl (lv_at hl 4 rfl) ?_
            refine zk_icmp_ge (tgt := 68) hX_ hB_ (by omega) (by omega) dX5_firstToTurn_59 (by decide) (fun c_59 => ?_) (fun c_59 => ?_)
            · skip
              exact join_68 q lo (by omega) (by rcases hv with ⟨q1, q2⟩ | ⟨q1, q2, q3, q4, q5⟩; (exact absurd q1 c_53); (right; exact ⟨q1, by omega, q3, q4, fun j h1 h2 h3 => by by_cases e9 : j = i; (rw [e9]; omega); exact q5 j h1 (by omega) h3⟩)) _ _ hP hD hS ls (lv_sub hl [1, 2, 3, 4, 5] rfl)
            · skip
              refine lv_iload hX_ hB_ dX5_firstToTurn_62 (lv_at hl 5 rfl) ?_
              refine lv_istore_n (lv' := [(2, .int (iz i)), (5, .int (iz ((t (x i)) - (d i)))), (0, .ref h), (1, .int (iz n)), (3, .int (iz lo)), (4, .int (iz i))]) hX_ hB_ dX5_firstToTurn_64 rfl hl (by decide) rfl (fun ls hl => ?_)
              refine lv_iload hX_ hB_ dX5_firstToTurn_65 (lv_at hl 1 rfl) ?_
              refine lv_istore_n (lv' := [(3, .int (iz ((t (x i)) - (d i)))), (2, .int (iz i)), (5, .int (iz ((t (x i)) - (d i)))), (0, .ref h), (1, .int (iz n)), (4, .int (iz i))]) hX_ hB_ dX5_firstToTurn_67 rfl hl (by decide) rfl (fun ls hl => ?_)
              exact join_68 i ((t (x i)) - (d i)) (by omega) (by right; refine ⟨hi.1, by omega, c_26, rfl, fun j h1 h2 h3 => ?_⟩; by_cases e9 : j = i; (rw [e9]; exact Int.le_refl _); (rcases hv with ⟨q1, q2⟩ | ⟨q1, q2, q3, q4, q5⟩; (have := q2 j h1 (by omega); omega); (have := q5 j h1 (by omega) h3; omega))) _ _ hP hD hS ls (lv_sub hl [3, 4, 1, 0, 5] rfl)
  exact loop_7 _ 0 (-1) 0 (by omega) (by left; exact ⟨rfl, fun j h1 h2 => by omega⟩) (Nat.lt_succ_self _) _ _ hP hD hS ls (lv_sub hl [3, 4, 2, 1, 0] rfl)
