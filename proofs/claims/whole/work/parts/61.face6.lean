
def put4 (bt : Int → Int) (sz : Int) (x : Int32) : Int → Int := us (us (us (us bt sz (byt x 24)) (sz + 1) (byt x 16)) ((sz + 1) + 1) (byt x 8)) (((sz + 1) + 1) + 1) (byt x 0)
def fd5 (bt : Int → Int) (sz : Int) (a0 a1 a2 a3 a4 : Int32) : Int → Int := put4 (put4 (put4 (put4 (put4 bt sz a0) (sz + 1 + 1 + 1 + 1) a1) (sz + 1 + 1 + 1 + 1 + 1 + 1 + 1 + 1) a2) (sz + 1 + 1 + 1 + 1 + 1 + 1 + 1 + 1 + 1 + 1 + 1 + 1) a3) (sz + 1 + 1 + 1 + 1 + 1 + 1 + 1 + 1 + 1 + 1 + 1 + 1 + 1 + 1 + 1 + 1) a4
theorem hw_X8_count_ccd203 : (.fieldLink RX8 47 "StoneDates" "townCount" "I" : Cond) ∈ wsX8_count := by decide +kernel
theorem hi_X8_count_X8 : ∀ w ∈ u_ws RX8 TX8 8, w ∈ wsX8_count := by decide +kernel
theorem hw_X8_count_404f88 : (.fieldLink RX8 51 "StoneDates" "stoneCount" "I" : Cond) ∈ wsX8_count := by decide +kernel
theorem hw_X8_count_13ab05 : (.fieldLink RX8 36 "StoneDates" "net" "LStoneDates$Net;" : Cond) ∈ wsX8_count := by decide +kernel
theorem hw_X8_count_d6a9f6 : (.fieldLink RX8 149 "StoneDates$Net" "size" "I" : Cond) ∈ wsX8_count := by decide +kernel
theorem hi_X8_count_X3 : ∀ w ∈ u_ws RX3 TX3 13, w ∈ wsX8_count := by decide +kernel
theorem hw_X8_count_d46095 : (.fieldLink RX8 43 "StoneDates" "sky" "LStoneDates$Sky;" : Cond) ∈ wsX8_count := by decide +kernel
theorem hw_X8_count_bc9ede : (.fieldLink RX8 192 "StoneDates$Sky" "size" "I" : Cond) ∈ wsX8_count := by decide +kernel
theorem hi_X8_count_X5 : ∀ w ∈ u_ws RX5 TX5 15, w ∈ wsX8_count := by decide +kernel
theorem hw_X8_count_18cdf4 : (.fieldLink RX8 193 "StoneDates$Sky" "naming" "I" : Cond) ∈ wsX8_count := by decide +kernel
theorem hw_X8_count_adf928 : (.fieldLink RX8 22 "StoneDates" "reader" "LStoneDates$Reader;" : Cond) ∈ wsX8_count := by decide +kernel
theorem hw_X8_count_7cd515 : (.fieldLink RX8 88 "StoneDates$Reader" "size" "I" : Cond) ∈ wsX8_count := by decide +kernel
theorem hi_X8_count_X4 : ∀ w ∈ u_ws RX4 TX4 7, w ∈ wsX8_count := by decide +kernel
theorem hw_X8_count_3f264e : (.fieldLink RX8 196 "StoneDates$Net" "memberCount" "I" : Cond) ∈ wsX8_count := by decide +kernel
set_option maxHeartbeats 4000000 in
set_option maxRecDepth 100000 in
theorem c_X8_count (l : Launch) (G : GG) (h : Nat) (bA : Nat) (stA : Nat) (rd_ : Nat) (fi : Nat) (nt : Nat) (ks : Nat) (tc : Int) (sc : Int) (mcn : Int) (few : Int) (wrg : Int) (slv : Int) (nsz : Int) (mem : Nat) (fr : Nat) (to_ : Nat) (da : Nat) (gr : Nat) (of_ : Nat) (jo : Nat) (jsA : Nat) (eA : Nat) (nA : Nat) (oA : Nat) (tA : Nat) (aA : Nat) (xA : Nat) (size : Int) (naming : Int) (bs : Int) (ba : Int) (sn : Int) (ag : Int) (sl : Int) (ht : Int) (bm : Int) (sA : Nat) (tb : Nat) (rz : Int) (fault : Int) (len : Int) (at_ : Int) (heard : Int32) (k : Int) (hk : R31 k) : Ci l yX8_count wsX8_count ({ frames := 0, cells := 0, slots := 0, locals := 0 }) G E0 [.ref h, .int (iz k)] [(h, .inr (6, [.ref bA, .ref stA, .ref rd_, .ref fi, .ref nt, .ref ks, .int (iz tc), .int (iz sc)])), (nt, .inr (1, [.int (iz nsz), .int (iz mcn), .int (iz few), .int (iz wrg), .int (iz slv), .ref mem, .ref fr, .ref to_, .ref da, .ref gr, .ref of_, .ref jo, .ref jsA])), (ks, .inr (3, [.int (iz size), .int (iz naming), .int (iz bs), .int (iz ba), .ref eA, .ref nA, .ref oA, .ref tA, .ref aA, .ref xA, .int (iz sn), .int (iz ag), .int (iz sl), .long (lz ht), .long (lz bm)])), (rd_, .inr (2, [.ref sA, .int (iz rz), .int (iz fault), .ref tb, .int (iz len), .int (iz at_), .int heard]))] 0 0 (fun _ : Unit => [(h, .inr (6, [.ref bA, .ref stA, .ref rd_, .ref fi, .ref nt, .ref ks, .int (iz tc), .int (iz sc)])), (nt, .inr (1, [.int (iz nsz), .int (iz mcn), .int (iz few), .int (iz wrg), .int (iz slv), .ref mem, .ref fr, .ref to_, .ref da, .ref gr, .ref of_, .ref jo, .ref jsA])), (ks, .inr (3, [.int (iz size), .int (iz naming), .int (iz bs), .int (iz ba), .ref eA, .ref nA, .ref oA, .ref tA, .ref aA, .ref xA, .int (iz sn), .int (iz ag), .int (iz sl), .long (lz ht), .long (lz bm)])), (rd_, .inr (2, [.ref sA, .int (iz rz), .int (iz fault), .ref tb, .int (iz len), .int (iz at_), .int heard]))]) (fun (r : Int32) (_ : Unit) => r = (iz (if k = 0 then tc else if k = 1 then sc else if k = 2 then nsz else if k = 3 then size else if k = 4 then naming else if k = 5 then rz else if k = 6 then mcn else -1))) := by
  refine Ci_intro (cc := cX8_count) (maxL := 2) (ret := (some .int)) (by decide) rfl (Nat.le_of_ble_eq_true rfl) ?_
  intro p e s m below meth c A F hA hP hD hK hE ls hl
  have hX_ := F.1
  have hB_ := F.2.1
  have hts := F.2.2.2.2.2.1
  have hown := F.2.2.2.2.1
  have hml := F.2.2.2.1
  have hS : va_S A s.heap s.heap [] := va_S.rf
  have hl : lv_has ls 2 [(0, .ref h), (1, .int (iz k))] := hl
  refine lv_iload_n hX_ hB_ dX8_count_0 rfl (lv_at hl 1 rfl) ?_
  by_cases t_1_0 : k = 0
  · skip
    refine zk_tableIn (tgt := 44) hX_ hB_ dX8_count_1 (off := 43) (by omega) (by omega) (by omega) (by rw [t_1_0]; rfl) (by decide) ?_
    refine lv_aload_n hX_ hB_ dX8_count_44 rfl (lv_at hl 0 rfl) ?_
    refine va_get (D := G.1) (ci := 6) (v := .int (iz tc)) (C := RX8) (T := TX8) (N := 8) hX_ hB_ hts hi_X8_count_X8 hown hK.1 hP 0 rfl rfl 6 (by decide) (hts _ hw_X8_count_ccd203) (fun _ h9 => h9) rfl dX8_count_45 ?_
    exact fin_i (wf := (fun _ : Unit => [(h, .inr (6, [.ref bA, .ref stA, .ref rd_, .ref fi, .ref nt, .ref ks, .int (iz tc), .int (iz sc)])), (nt, .inr (1, [.int (iz nsz), .int (iz mcn), .int (iz few), .int (iz wrg), .int (iz slv), .ref mem, .ref fr, .ref to_, .ref da, .ref gr, .ref of_, .ref jo, .ref jsA])), (ks, .inr (3, [.int (iz size), .int (iz naming), .int (iz bs), .int (iz ba), .ref eA, .ref nA, .ref oA, .ref tA, .ref aA, .ref xA, .int (iz sn), .int (iz ag), .int (iz sl), .long (lz ht), .long (lz bm)])), (rd_, .inr (2, [.ref sA, .int (iz rz), .int (iz fault), .ref tb, .int (iz len), .int (iz at_), .int heard]))])) () F rfl hP hD hK hS (by decide) (by decide) dX8_count_48 (by rw [if_pos t_1_0])
  by_cases t_1_1 : k = 1
  · skip
    refine zk_tableIn (tgt := 49) hX_ hB_ dX8_count_1 (off := 48) (by omega) (by omega) (by omega) (by rw [t_1_1]; rfl) (by decide) ?_
    refine lv_aload_n hX_ hB_ dX8_count_49 rfl (lv_at hl 0 rfl) ?_
    refine va_get (D := G.1) (ci := 6) (v := .int (iz sc)) (C := RX8) (T := TX8) (N := 8) hX_ hB_ hts hi_X8_count_X8 hown hK.1 hP 0 rfl rfl 7 (by decide) (hts _ hw_X8_count_404f88) (fun _ h9 => h9) rfl dX8_count_50 ?_
    exact fin_i (wf := (fun _ : Unit => [(h, .inr (6, [.ref bA, .ref stA, .ref rd_, .ref fi, .ref nt, .ref ks, .int (iz tc), .int (iz sc)])), (nt, .inr (1, [.int (iz nsz), .int (iz mcn), .int (iz few), .int (iz wrg), .int (iz slv), .ref mem, .ref fr, .ref to_, .ref da, .ref gr, .ref of_, .ref jo, .ref jsA])), (ks, .inr (3, [.int (iz size), .int (iz naming), .int (iz bs), .int (iz ba), .ref eA, .ref nA, .ref oA, .ref tA, .ref aA, .ref xA, .int (iz sn), .int (iz ag), .int (iz sl), .long (lz ht), .long (lz bm)])), (rd_, .inr (2, [.ref sA, .int (iz rz), .int (iz fault), .ref tb, .int (iz len), .int (iz at_), .int heard]))])) () F rfl hP hD hK hS (by decide) (by decide) dX8_count_53 (by rw [if_neg t_1_0, if_pos t_1_1])
  by_cases t_1_2 : k = 2
  · skip
    refine zk_tableIn (tgt := 54) hX_ hB_ dX8_count_1 (off := 53) (by omega) (by omega) (by omega) (by rw [t_1_2]; rfl) (by decide) ?_
    refine lv_aload_n hX_ hB_ dX8_count_54 rfl (lv_at hl 0 rfl) ?_
    refine va_get (D := G.1) (ci := 6) (v := .ref nt) (C := RX8) (T := TX8) (N := 8) hX_ hB_ hts hi_X8_count_X8 hown hK.1 hP 0 rfl rfl 4 (by decide) (hts _ hw_X8_count_13ab05) (fun _ h9 => h9) rfl dX8_count_55 ?_
    refine va_get (D := G.1) (ci := 1) (v := .int (iz nsz)) (C := RX3) (T := TX3) (N := 13) hX_ hB_ hts hi_X8_count_X3 hown hK.1 hP 1 rfl rfl 0 (by decide) (hts _ hw_X8_count_d6a9f6) (fun _ h9 => h9) rfl dX8_count_58 ?_
    exact fin_i (wf := (fun _ : Unit => [(h, .inr (6, [.ref bA, .ref stA, .ref rd_, .ref fi, .ref nt, .ref ks, .int (iz tc), .int (iz sc)])), (nt, .inr (1, [.int (iz nsz), .int (iz mcn), .int (iz few), .int (iz wrg), .int (iz slv), .ref mem, .ref fr, .ref to_, .ref da, .ref gr, .ref of_, .ref jo, .ref jsA])), (ks, .inr (3, [.int (iz size), .int (iz naming), .int (iz bs), .int (iz ba), .ref eA, .ref nA, .ref oA, .ref tA, .ref aA, .ref xA, .int (iz sn), .int (iz ag), .int (iz sl), .long (lz ht), .long (lz bm)])), (rd_, .inr (2, [.ref sA, .int (iz rz), .int (iz fault), .ref tb, .int (iz len), .int (iz at_), .int heard]))])) () F rfl hP hD hK hS (by decide) (by decide) dX8_count_61 (by rw [if_neg t_1_0, if_neg t_1_1, if_pos t_1_2])
  by_cases t_1_3 : k = 3
  · skip
    refine zk_tableIn (tgt := 62) hX_ hB_ dX8_count_1 (off := 61) (by omega) (by omega) (by omega) (by rw [t_1_3]; rfl) (by decide) ?_
    refine lv_aload_n hX_ hB_ dX8_count_62 rfl (lv_at hl 0 rfl) ?_
    refine va_get (D := G.1) (ci := 6) (v := .ref ks) (C := RX8) (T := TX8) (N := 8) hX_ hB_ hts hi_X8_count_X8 hown hK.1 hP 0 rfl rfl 5 (by decide) (hts _ hw_X8_count_d46095) (fun _ h9 => h9) rfl dX8_count_63 ?_
    refine va_get (D := G.1) (ci := 3) (v := .int (iz size)) (C := RX5) (T := TX5) (N := 15) hX_ hB_ hts hi_X8_count_X5 hown hK.1 hP 2 rfl rfl 0 (by decide) (hts _ hw_X8_count_bc9ede) (fun _ h9 => h9) rfl dX8_count_66 ?_
    exact fin_i (wf := (fun _ : Unit => [(h, .inr (6, [.ref bA, .ref stA, .ref rd_, .ref fi, .ref nt, .ref ks, .int (iz tc), .int (iz sc)])), (nt, .inr (1, [.int (iz nsz), .int (iz mcn), .int (iz few), .int (iz wrg), .int (iz slv), .ref mem, .ref fr, .ref to_, .ref da, .ref gr, .ref of_, .ref jo, .ref jsA])), (ks, .inr (3, [.int (iz size), .int (iz naming), .int (iz bs), .int (iz ba), .ref eA, .ref nA, .ref oA, .ref tA, .ref aA, .ref xA, .int (iz sn), .int (iz ag), .int (iz sl), .long (lz ht), .long (lz bm)])), (rd_, .inr (2, [.ref sA, .int (iz rz), .int (iz fault), .ref tb, .int (iz len), .int (iz at_), .int heard]))])) () F rfl hP hD hK hS (by decide) (by decide) dX8_count_69 (by rw [if_neg t_1_0, if_neg t_1_1, if_neg t_1_2, if_pos t_1_3])
  by_cases t_1_4 : k = 4
  · skip
    refine zk_tableIn (tgt := 70) hX_ hB_ dX8_count_1 (off := 69) (by omega) (by omega) (by omega) (by rw [t_1_4]; rfl) (by decide) ?_
    refine lv_aload_n hX_ hB_ dX8_count_70 rfl (lv_at hl 0 rfl) ?_
    refine va_get (D := G.1) (ci := 6) (v := .ref ks) (C := RX8) (T := TX8) (N := 8) hX_ hB_ hts hi_X8_count_X8 hown hK.1 hP 0 rfl rfl 5 (by decide) (hts _ hw_X8_count_d46095) (fun _ h9 => h9) rfl dX8_count_71 ?_
    refine va_get (D := G.1) (ci := 3) (v := .int (iz naming)) (C := RX5) (T := TX5) (N := 15) hX_ hB_ hts hi_X8_count_X5 hown hK.1 hP 2 rfl rfl 1 (by decide) (hts _ hw_X8_count_18cdf4) (fun _ h9 => h9) rfl dX8_count_74 ?_
    exact fin_i (wf := (fun _ : Unit => [(h, .inr (6, [.ref bA, .ref stA, .ref rd_, .ref fi, .ref nt, .ref ks, .int (iz tc), .int (iz sc)])), (nt, .inr (1, [.int (iz nsz), .int (iz mcn), .int (iz few), .int (iz wrg), .int (iz slv), .ref mem, .ref fr, .ref to_, .ref da, .ref gr, .ref of_, .ref jo, .ref jsA])), (ks, .inr (3, [.int (iz size), .int (iz naming), .int (iz bs), .int (iz ba), .ref eA, .ref nA, .ref oA, .ref tA, .ref aA, .ref xA, .int (iz sn), .int (iz ag), .int (iz sl), .long (lz ht), .long (lz bm)])), (rd_, .inr (2, [.ref sA, .int (iz rz), .int (iz fault), .ref tb, .int (iz len), .int (iz at_), .int heard]))])) () F rfl hP hD hK hS (by decide) (by decide) dX8_count_77 (by rw [if_neg t_1_0, if_neg t_1_1, if_neg t_1_2, if_neg t_1_3, if_pos t_1_4])
  by_cases t_1_5 : k = 5
  · skip
    refine zk_tableIn (tgt := 78) hX_ hB_ dX8_count_1 (off := 77) (by omega) (by omega) (by omega) (by rw [t_1_5]; rfl) (by decide) ?_
    refine lv_aload_n hX_ hB_ dX8_count_78 rfl (lv_at hl 0 rfl) ?_
    refine va_get (D := G.1) (ci := 6) (v := .ref rd_) (C := RX8) (T := TX8) (N := 8) hX_ hB_ hts hi_X8_count_X8 hown hK.1 hP 0 rfl rfl 2 (by decide) (hts _ hw_X8_count_adf928) (fun _ h9 => h9) rfl dX8_count_79 ?_
    refine va_get (D := G.1) (ci := 2) (v := .int (iz rz)) (C := RX4) (T := TX4) (N := 7) hX_ hB_ hts hi_X8_count_X4 hown hK.1 hP 3 rfl rfl 1 (by decide) (hts _ hw_X8_count_7cd515) (fun _ h9 => h9) rfl dX8_count_82 ?_
    exact fin_i (wf := (fun _ : Unit => [(h, .inr (6, [.ref bA, .ref stA, .ref rd_, .ref fi, .ref nt, .ref ks, .int (iz tc), .int (iz sc)])), (nt, .inr (1, [.int (iz nsz), .int (iz mcn), .int (iz few), .int (iz wrg), .int (iz slv), .ref mem, .ref fr, .ref to_, .ref da, .ref gr, .ref of_, .ref jo, .ref jsA])), (ks, .inr (3, [.int (iz size), .int (iz naming), .int (iz bs), .int (iz ba), .ref eA, .ref nA, .ref oA, .ref tA, .ref aA, .ref xA, .int (iz sn), .int (iz ag), .int (iz sl), .long (lz ht), .long (lz bm)])), (rd_, .inr (2, [.ref sA, .int (iz rz), .int (iz fault), .ref tb, .int (iz len), .int (iz at_), .int heard]))])) () F rfl hP hD hK hS (by decide) (by decide) dX8_count_85 (by rw [if_neg t_1_0, if_neg t_1_1, if_neg t_1_2, if_neg t_1_3, if_neg t_1_4, if_pos t_1_5])
  by_cases t_1_6 : k = 6
  · skip
    refine zk_tableIn (tgt := 86) hX_ hB_ dX8_count_1 (off := 85) (by omega) (by omega) (by omega) (by rw [t_1_6]; rfl) (by decide) ?_
    refine lv_aload_n hX_ hB_ dX8_count_86 rfl (lv_at hl 0 rfl) ?_
    refine va_get (D := G.1) (ci := 6) (v := .ref nt) (C := RX8) (T := TX8) (N := 8) hX_ hB_ hts hi_X8_count_X8 hown hK.1 hP 0 rfl rfl 4 (by decide) (hts _ hw_X8_count_13ab05) (fun _ h9 => h9) rfl dX8_count_87 ?_
    refine va_get (D := G.1) (ci := 1) (v := .int (iz mcn)) (C := RX3) (T := TX3) (N := 13) hX_ hB_ hts hi_X8_count_X3 hown hK.1 hP 1 rfl rfl 1 (by decide) (hts _ hw_X8_count_3f264e) (fun _ h9 => h9) rfl dX8_count_90 ?_
    exact fin_i (wf := (fun _ : Unit => [(h, .inr (6, [.ref bA, .ref stA, .ref rd_, .ref fi, .ref nt, .ref ks, .int (iz tc), .int (iz sc)])), (nt, .inr (1, [.int (iz nsz), .int (iz mcn), .int (iz few), .int (iz wrg), .int (iz slv), .ref mem, .ref fr, .ref to_, .ref da, .ref gr, .ref of_, .ref jo, .ref jsA])), (ks, .inr (3, [.int (iz size), .int (iz naming), .int (iz bs), .int (iz ba), .ref eA, .ref nA, .ref oA, .ref tA, .ref aA, .ref xA, .int (iz sn), .int (iz ag), .int (iz sl), .long (lz ht), .long (lz bm)])), (rd_, .inr (2, [.ref sA, .int (iz rz), .int (iz fault), .ref tb, .int (iz len), .int (iz at_), .int heard]))])) () F rfl hP hD hK hS (by decide) (by decide) dX8_count_93 (by rw [if_neg t_1_0, if_neg t_1_1, if_neg t_1_2, if_neg t_1_3, if_neg t_1_4, if_neg t_1_5, if_pos t_1_6])
  refine zk_tableOut (tgt := 94) hX_ hB_ dX8_count_1 (by omega) (by omega) (by decide) ?_
  refine zk_iconst hX_ hB_ dX8_count_94 ?_
  exact fin_i (wf := (fun _ : Unit => [(h, .inr (6, [.ref bA, .ref stA, .ref rd_, .ref fi, .ref nt, .ref ks, .int (iz tc), .int (iz sc)])), (nt, .inr (1, [.int (iz nsz), .int (iz mcn), .int (iz few), .int (iz wrg), .int (iz slv), .ref mem, .ref fr, .ref to_, .ref da, .ref gr, .ref of_, .ref jo, .ref jsA])), (ks, .inr (3, [.int (iz size), .int (iz naming), .int (iz bs), .int (iz ba), .ref eA, .ref nA, .ref oA, .ref tA, .ref aA, .ref xA, .int (iz sn), .int (iz ag), .int (iz sl), .long (lz ht), .long (lz bm)])), (rd_, .inr (2, [.ref sA, .int (iz rz), .int (iz fault), .ref tb, .int (iz len), .int (iz at_), .int heard]))])) () F rfl hP hD hK hS (by decide) (by decide) dX8_count_95 (by rw [if_neg t_1_0, if_neg t_1_1, if_neg t_1_2, if_neg t_1_3, if_neg t_1_4, if_neg t_1_5, if_neg t_1_6])
