theorem iz_shr6 {z : Int} (h0 : 0 ≤ z) (h1 : z < 2147483648) : iz z >>> (iz 6 &&& 31) = iz (z / 64) := iz_shr h0 h1 6 (by decide)
theorem iz_and63 {z : Int} (h0 : 0 ≤ z) (h1 : z < 2147483648) : iz z &&& iz 63 = iz (z % 64) := iz_mask h0 h1 6 (by decide)
/-- bit i of a row of longs -/
def tb (g : Int → Int64) (i : Int) : Bool := (g (i / 64)).toBitVec.getLsbD (i % 64).toNat
theorem amt_s : ∀ k : Nat, k < 64 → ((iz (k : Int)).toInt64 &&& 63).toBitVec.smod 64 = BitVec.ofNat 64 k := by decide
theorem amt_u : ∀ k : Nat, k < 64 → (((iz (k : Int)).toInt64.toUInt64 &&& Int64.toUInt64 63).toBitVec % (64 : BitVec 64)) = BitVec.ofNat 64 k := by decide
theorem lshl_bits (x : Int64) (k : Nat) (hk : k < 64) : (x <<< ((iz (k : Int)).toInt64 &&& 63)).toBitVec = x.toBitVec <<< k := by
  rw [Int64.toBitVec_shiftLeft, amt_s k hk, BitVec.shiftLeft_eq', BitVec.toNat_ofNat, Nat.mod_eq_of_lt (by omega)]
theorem lushr_bits (x : Int64) (k : Nat) (hk : k < 64) : ((x.toUInt64 >>> ((iz (k : Int)).toInt64.toUInt64 &&& Int64.toUInt64 63)).toInt64).toBitVec = x.toBitVec >>> k := by
  show (x.toUInt64 >>> ((iz (k : Int)).toInt64.toUInt64 &&& Int64.toUInt64 63)).toBitVec = x.toBitVec >>> k
  rw [UInt64.toBitVec_shiftRight, amt_u k hk, BitVec.ushiftRight_eq', BitVec.toNat_ofNat, Nat.mod_eq_of_lt (by omega)]
  rfl
theorem one_bits (k : Nat) (hk : k < 64) : (lz 1 <<< ((iz (k : Int)).toInt64 &&& 63)).toBitVec = BitVec.twoPow 64 k := by
  rw [lshl_bits _ k hk]
  rfl
theorem tb_set {g : Int → Int64} {i j : Int} {m : Int64} (hi : 0 ≤ i) (hj : 0 ≤ j) (hm : m.toBitVec = BitVec.twoPow 64 (i % 64).toNat) : tb (us g (i / 64) (g (i / 64) ||| m)) j = (tb g j || decide (j = i)) := by
  unfold tb us
  by_cases h : j / 64 = i / 64
  · rw [if_pos h, Int64.toBitVec_or, hm, BitVec.getLsbD_or, BitVec.getLsbD_twoPow, h]
    congr 1
    have h1 : (j % 64).toNat < 64 := by omega
    by_cases e : j = i
    · subst e
      simp [h1]
    · have h2 : ¬ (i % 64).toNat = (j % 64).toNat := by omega
      simp [e, h2]
  · have e : ¬ j = i := fun q => h (by rw [q])
    rw [if_neg h]
    simp [e]
theorem mod_one {i j P s : Int} (hP : 0 < P) (hi : i % P = s) (hj : j % P = s) (h1 : i ≤ j) (h2 : j < i + P) : j = i := by
  have h3 : (j - i) % P = 0 := by
    rw [Int.sub_emod, hi, hj]
    simp
  have h4 : (j - i) % P = j - i := Int.emod_eq_of_lt (by omega) (by omega)
  omega
theorem mod_le {j P : Int} (hj : 0 ≤ j) (hP : 0 < P) : j % P ≤ j := by
  by_cases h : j < P
  · rw [Int.emod_eq_of_lt hj h]
    exact Int.le_refl _
  · have := Int.emod_lt_of_pos j hP
    omega
theorem mark_step {g gg : Int → Int64} {m : Int64} {P i seat : Int} (hP : 0 < P) (hi : 0 ≤ i) (his : i % P = seat) (hg : ∀ j, 0 ≤ j → j < P + 60 → tb gg j = (tb g j || decide (j % P = seat ∧ j < i))) (hm : m.toBitVec = BitVec.twoPow 64 (i % 64).toNat) : ∀ j, 0 ≤ j → j < P + 60 → tb (us gg (i / 64) (gg (i / 64) ||| m)) j = (tb g j || decide (j % P = seat ∧ j < i + P)) := by
  intro j hj hj2
  rw [tb_set hi hj hm, hg j hj hj2, Bool.or_assoc]
  congr 1
  by_cases e : j = i
  · subst e
    have : j < j + P := by omega
    simp [his, this]
  · by_cases h1 : j % P = seat ∧ j < i
    · have : j < i + P := by omega
      simp [h1.1, h1.2, this]
    · have h2 : ¬ (j % P = seat ∧ j < i + P) := by
        intro q
        rcases Int.lt_or_le j i with h | h
        · exact h1 ⟨q.1, h⟩
        · exact e (mod_one hP his q.1 h q.2)
      simp [h1, h2, e]
theorem full_bits (x : Int64) (j : Nat) (hj : j < 64) : (x &&& (1152921504606846975 : Int64)).toBitVec.getLsbD j = (decide (j < 60) && x.toBitVec.getLsbD j) := by
  have h : ∀ j : Nat, j < 64 → (1152921504606846975 : Int64).toBitVec.getLsbD j = decide (j < 60) := by decide
  rw [Int64.toBitVec_and, BitVec.getLsbD_and, h j hj, Bool.and_comm]
theorem full_only (j : Nat) (hj : j < 64) : (1152921504606846975 : Int64).toBitVec.getLsbD j = decide (j < 60) := by
  revert j
  decide
theorem win_lo {g : Int → Int64} {fm : Int} {k : Nat} (hf : 0 ≤ fm) (hk : (fm % 64) = k) (h4 : k ≤ 4) (j : Nat) (hj : j < 60) : ((g (fm / 64)).toBitVec >>> k).getLsbD j = tb g (fm + j) := by
  unfold tb
  rw [BitVec.getLsbD_ushiftRight]
  have h1 : (fm + (j : Int)) / 64 = fm / 64 := by omega
  have h2 : ((fm + (j : Int)) % 64).toNat = k + j := by omega
  rw [h1, h2]
theorem win_hi {g : Int → Int64} {fm : Int} {k : Nat} (hf : 0 ≤ fm) (hk : (fm % 64) = k) (h4 : 4 < k) (j : Nat) (hj : j < 60) : ((g (fm / 64)).toBitVec >>> k ||| (g (fm / 64 + 1)).toBitVec <<< (64 - k)).getLsbD j = tb g (fm + j) := by
  unfold tb
  rw [BitVec.getLsbD_or, BitVec.getLsbD_ushiftRight, BitVec.getLsbD_shiftLeft]
  by_cases h : k + j < 64
  · have h1 : (fm + (j : Int)) / 64 = fm / 64 := by omega
    have h2 : ((fm + (j : Int)) % 64).toNat = k + j := by omega
    have h3 : j < 64 - k := by omega
    rw [h1, h2]
    simp [h3]
  · have h1 : (fm + (j : Int)) / 64 = fm / 64 + 1 := by omega
    have h2 : ((fm + (j : Int)) % 64).toNat = j - (64 - k) := by omega
    have h3 : ¬ j < 64 - k := by omega
    have h5 : j < 64 := by omega
    rw [h1, h2, BitVec.getLsbD_of_ge _ _ (by omega)]
    simp [h3, h5]

set_option maxHeartbeats 4000000 in
set_option maxRecDepth 100000 in
theorem c_J7_fill_d0a16 (l : Launch) (G : GG) (bA : Nat) (n : Nat) (g : Int → Int64) (v : Int64) (hn : n < 2147483648) : Cv l yJ7_fill_d0a16 wsJ7_fill_d0a16 ({ frames := 0, cells := 0, slots := 0, locals := 0 }) G E0 [.ref bA, .long v] [(bA, .inl (G.2 2, n, .inr (.inl (rv g))))] 0 0 (fun _ : Unit => [(bA, .inl (G.2 2, n, .inr (.inl (rv (fun _ => v)))))]) (fun (_ : Unit) => True) := by
  refine Cv_intro (cc := cJ7_fill_d0a16) (maxL := 5) (ret := none) (by decide) rfl (Nat.le_of_ble_eq_true rfl) ?_
  intro p e s m below meth c A F hA hP hD hK hE ls hl
  have hX_ := F.1
  have hB_ := F.2.1
  have hts := F.2.2.2.2.2.1
  have hown := F.2.2.2.2.1
  have hml := F.2.2.2.1
  have hS : va_S A s.heap s.heap [] := va_S.rf
  have hl : lv_has ls 5 [(0, .ref bA), (1, .long v)] := hl
  refine zk_iconst hX_ hB_ dJ7_fill_d0a16_0 ?_
  refine lv_istore_n (lv' := [(3, .int (iz 0)), (0, .ref bA), (1, .long v)]) hX_ hB_ dJ7_fill_d0a16_1 rfl hl (by decide) rfl (fun ls hl => ?_)
  refine lv_aload_n hX_ hB_ dJ7_fill_d0a16_2 rfl (lv_at hl 1 rfl) ?_
  refine zk_alen hX_ hB_ hK.1 hP 0 2 ((n : Int)) rfl rfl rfl dJ7_fill_d0a16_3 ?_
  refine lv_istore (lv' := [(4, .int (iz (n : Int))), (3, .int (iz 0)), (0, .ref bA), (1, .long v)]) hX_ hB_ dJ7_fill_d0a16_4 hl (by decide) rfl (fun ls hl => ?_)
  have loop_6 : ∀ (n_6 : Nat), ∀ (i : Int) (gg : Int → Int64), (0 ≤ i ∧ i ≤ n) → (∀ j : Int, 0 ≤ j → j < i → gg j = v) → ((n - i).toNat < n_6) → ∀ (H : Heap) (locs : List Loc), va_P G.1 vwCl [(bA, .inl (G.2 2, n, .inr (.inl (rv gg))))] H → va_D A [(bA, .inl (G.2 2, n, .inr (.inl (rv gg))))] → va_S A s.heap H locs → ∀ ls : Array Slot, lv_has ls 5 [(0, .ref bA), (1, .long v), (3, .int (iz i)), (4, .int (iz (n : Int)))] → W p l e ({ frames := 0, cells := 0, slots := 0, locals := 0 }) s m ([.ref bA, .long v] : List Value).toArray below meth c H locs 0 0 (MQ below (va_Qv (fun (_ : Unit) => True) (fun u__ t__ => Pst G A ((fun _ : Unit => [(bA, .inl (G.2 2, n, .inr (.inl (rv (fun _ => v)))))]) u__) t__) A) ([.ref bA, .long v] : List Value).toArray s 0 0 A) (F0 m 6 ls []) := by
    intro n_6
    induction n_6 with
    | zero =>
      intro i gg hi hg hm H locs hP hD hS ls hl
      exact absurd hm (Nat.not_lt_zero _)
    | succ n_6 ih_6 =>
      intro i gg hi hg hm H locs hP hD hS ls hl
      refine lv_iload_n hX_ hB_ dJ7_fill_d0a16_6 rfl (lv_at hl 2 rfl) ?_
      refine lv_iload hX_ hB_ dJ7_fill_d0a16_7 (lv_at hl 3 rfl) ?_
      refine zk_icmp_ge (tgt := 22) hX_ hB_ (by omega) (by omega) dJ7_fill_d0a16_9 (by decide) (fun c_9 => ?_) (fun c_9 => ?_)
      · skip
        have hP := cong_P (q := 0) (y := (n, .inr (.inl (rv (fun _ => v))))) hP hD rfl (cell_l (fun k h1 h2 => hg k h1 (by omega)))
        have hD := va_D.set (p := 0) (e := .inl (G.2 2, n, .inr (.inl (rv (fun _ => v))))) hD rfl
        have hP : va_P G.1 vwCl [(bA, .inl (G.2 2, n, .inr (.inl (rv (fun _ => v)))))] _ := hP
        have hD : va_D A [(bA, .inl (G.2 2, n, .inr (.inl (rv (fun _ => v)))))] := hD
        exact fin_v (wf := (fun _ : Unit => [(bA, .inl (G.2 2, n, .inr (.inl (rv (fun _ => v)))))])) () F hP hD hK hS (by decide) (by decide) dJ7_fill_d0a16_22 trivial
      · skip
        refine lv_aload_n hX_ hB_ dJ7_fill_d0a16_12 rfl (lv_at hl 0 rfl) ?_
        refine lv_iload_n hX_ hB_ dJ7_fill_d0a16_13 rfl (lv_at hl 2 rfl) ?_
        refine lv_lload_n hX_ hB_ dJ7_fill_d0a16_14 rfl (lv_at hl 1 rfl) ?_
        refine zk_last hX_ hB_ hK.1 hP hD hS 0 2 rfl rfl (by omega) (by omega) dJ7_fill_d0a16_15 (fun H locs hP hD hS => ?_)
        have hP : va_P G.1 vwCl [(bA, .inl (G.2 2, n, .inr (.inl (rv (us gg i v)))))] _ := hP
        have hD : va_D A [(bA, .inl (G.2 2, n, .inr (.inl (rv (us gg i v)))))] := hD
        refine lv_iinc (v := (iz (i + 1))) (lv' := [(3, .int (iz (i + 1))), (0, .ref bA), (1, .long v), (4, .int (iz (n : Int)))]) hX_ hB_ dJ7_fill_d0a16_16 hl (k := 2) rfl (iz_add _ _) (by decide) rfl (fun ls hl => ?_)
        refine lv_goto (tgt := 6) hX_ hB_ dJ7_fill_d0a16_19 (by decide) ?_
        exact ih_6 (i + 1) (us gg i v) (by omega) (by intro j h1 h2; unfold us; by_cases q : j = i; rw [if_pos q]; rw [if_neg q]; exact hg j h1 (by omega)) (by omega) _ _ hP hD hS ls (lv_sub hl [1, 2, 0, 3] rfl)
  exact loop_6 _ 0 g (by omega) (by intro j h1 h2; omega) (Nat.lt_succ_self _) _ _ hP hD hS ls (lv_sub hl [2, 3, 1, 0] rfl)

theorem hw_X7_reset_d19d0e : (.fieldLink RX7 23 "StoneDates$Wheel" "free" "Z" : Cond) ∈ wsX7_reset := by decide +kernel
theorem hi_X7_reset_X7 : ∀ w ∈ u_ws RX7 TX7 3, w ∈ wsX7_reset := by decide +kernel
theorem hw_X7_reset_b5407b : (.fieldLink RX7 19 "StoneDates$Wheel" "bits" "[J" : Cond) ∈ wsX7_reset := by decide +kernel
theorem mds_J7_fill_d0a16 : yJ7_fill_d0a16.cls ≠ "java/lang/invoke/MethodHandle" ∧ yJ7_fill_d0a16.cls ≠ "java/lang/invoke/VarHandle" ∧ (parseMethodDescriptor yJ7_fill_d0a16.desc).map (fun d => d.parameters.length) = some 2 := by decide +kernel
set_option maxHeartbeats 4000000 in
set_option maxRecDepth 100000 in
theorem c_X7_reset (l : Launch) (G : GG) (h : Nat) (bA : Nat) (n : Nat) (P : Int) (g : Int → Int64) (fr : Bool) (x : Bool) (hn : n < 2147483648) : Cv l yX7_reset wsX7_reset ({ frames := 1, cells := 0, slots := 0, locals := 24 }) G E0 [.ref h, .int (zb x)] [(h, .inr (5, [.int (iz P), .ref bA, .int (zb fr)])), (bA, .inl (G.2 2, n, .inr (.inl (rv g))))] 0 0 (fun _ : Unit => [(h, .inr (5, [.int (iz P), .ref bA, .int (zb x)])), (bA, .inl (G.2 2, n, .inr (.inl (rv (fun _ => (lz 0))))))]) (fun (_ : Unit) => True) := by
  refine Cv_intro (cc := cX7_reset) (maxL := 2) (ret := none) (by decide) rfl (Nat.le_of_ble_eq_true rfl) ?_
  intro p e s m below meth c A F hA hP hD hK hE ls hl
  have hX_ := F.1
  have hB_ := F.2.1
  have hts := F.2.2.2.2.2.1
  have hown := F.2.2.2.2.1
  have hml := F.2.2.2.1
  have hS : va_S A s.heap s.heap [] := va_S.rf
  have hl : lv_has ls 2 [(0, .ref h), (1, .int (zb x))] := hl
  refine lv_aload_n hX_ hB_ dX7_reset_0 rfl (lv_at hl 0 rfl) ?_
  refine lv_iload_n hX_ hB_ dX7_reset_1 rfl (lv_at hl 1 rfl) ?_
  refine va_put (D := G.1) (ci := 5) (v := .int (zb x)) (ty := .boolean) (C := RX7) (T := TX7) (N := 3) hX_ hB_ hts hi_X7_reset_X7 tyX7 tyX7_ok nmX7 hown hK.1 hP hD hS 0 rfl rfl 2 (by decide) (hts _ hw_X7_reset_d19d0e) (fun _ h9 => h9) rfl (by decide +kernel) (zb_nar _) (zb_fit _) (Nat.le_of_ble_eq_true rfl) dX7_reset_2 (fun H locs hP hD hS => ?_)
  have hP : va_P G.1 vwCl [(h, .inr (5, [.int (iz P), .ref bA, .int (zb x)])), (bA, .inl (G.2 2, n, .inr (.inl (rv g))))] _ := hP
  have hD : va_D A [(h, .inr (5, [.int (iz P), .ref bA, .int (zb x)])), (bA, .inl (G.2 2, n, .inr (.inl (rv g))))] := hD
  refine lv_aload_n hX_ hB_ dX7_reset_5 rfl (lv_at hl 0 rfl) ?_
  refine va_get (D := G.1) (ci := 5) (v := .ref bA) (C := RX7) (T := TX7) (N := 3) hX_ hB_ hts hi_X7_reset_X7 hown hK.1 hP 0 rfl rfl 1 (by decide) (hts _ hw_X7_reset_b5407b) (fun _ h9 => h9) rfl dX7_reset_6 ?_
  refine zk_lconst hX_ hB_ 0 (by decide) dX7_reset_9 ?_
  refine back_v (wr := [(h, .inr (5, [.int (iz P), .ref bA, .int (zb x)]))]) (run_S (As := [.ref bA, .long (lz 0)]) (rest := []) (wc := [(bA, .inl (G.2 2, n, .inr (.inl (rv g))))]) F (c_J7_fill_d0a16 l G bA n g (lz 0) (by omega) _) ext0 gX7_reset_J7_fill_d0a16 rfl rfl rfl mds_J7_fill_d0a16 ⟨Nat.le_of_ble_eq_true rfl, Nat.le_of_ble_eq_true rfl⟩ (pre_of ext0 hK hP hD hS hA trivial [1] (by decide) rfl _) rfl hl.1 (Nat.le_of_ble_eq_true rfl) dX7_reset_10 ⟨by decide, by decide⟩) hP hD hS hA [1] [0] rfl rfl (by decide) (by decide) (fun u__ H locs hw hP hD hS => ?_)
  have hw_10 := hw
  have hP := hP.sub (ws' := [(h, .inr (5, [.int (iz P), .ref bA, .int (zb x)])), (bA, .inl (G.2 2, n, .inr (.inl (rv (fun _ => (lz 0))))))]) [0, 1] rfl
  have hD := hD.sub (ws' := [(h, .inr (5, [.int (iz P), .ref bA, .int (zb x)])), (bA, .inl (G.2 2, n, .inr (.inl (rv (fun _ => (lz 0))))))]) [0, 1] (by decide) rfl
  exact fin_v (wf := (fun _ : Unit => [(h, .inr (5, [.int (iz P), .ref bA, .int (zb x)])), (bA, .inl (G.2 2, n, .inr (.inl (rv (fun _ => (lz 0))))))])) () F hP hD hK hS (by decide) (by decide) dX7_reset_13 trivial

theorem hw_X7_mark_52cee4 : (.methodLink RX7 9 Lib.Math.max.name : Cond) ∈ wsX7_mark := by decide +kernel
theorem hw_X7_mark_80a2ec : (.static Lib.Math.max.name : Cond) ∈ wsX7_mark := by decide +kernel
theorem hw_X7_mark_868a92 : (.initialized "java/lang/Math" : Cond) ∈ wsX7_mark := by decide +kernel
theorem hw_X7_mark_b6349a : (.code Lib.Math.max.name Lib.Math.max.code 2 (some .int) : Cond) ∈ wsX7_mark := by decide +kernel
theorem hw_X7_mark_170ca7 : (.fieldLink RX7 15 "StoneDates$Wheel" "period" "I" : Cond) ∈ wsX7_mark := by decide +kernel
theorem hi_X7_mark_X7 : ∀ w ∈ u_ws RX7 TX7 3, w ∈ wsX7_mark := by decide +kernel
theorem hw_X7_mark_b5407b : (.fieldLink RX7 19 "StoneDates$Wheel" "bits" "[J" : Cond) ∈ wsX7_mark := by decide +kernel
set_option maxHeartbeats 4000000 in
set_option maxRecDepth 100000 in
theorem c_X7_mark (l : Launch) (G : GG) (h : Nat) (bA : Nat) (n : Nat) (P : Int) (g : Int → Int64) (fr : Bool) (st : Int) (hP0 : 0 < P ∧ P < 10000) (hn : (P + 60) / 64 + 2 = n) (hs : 0 ≤ st ∧ st < P) : Cv l yX7_mark wsX7_mark ({ frames := 1, cells := 0, slots := 0, locals := 21 }) G E0 [.ref h, .int (iz st)] [(h, .inr (5, [.int (iz P), .ref bA, .int (zb fr)])), (bA, .inl (G.2 2, n, .inr (.inl (rv g))))] 0 0 (fun g2 : (Int → Int64) => [(h, .inr (5, [.int (iz P), .ref bA, .int (zb fr)])), (bA, .inl (G.2 2, n, .inr (.inl (rv g2))))]) (fun (g2 : (Int → Int64)) => ∀ i : Int, 0 ≤ i → i < P + 60 → tb g2 i = (tb g i || decide (i % P = st))) := by
  refine Cv_intro (cc := cX7_mark) (maxL := 3) (ret := none) (by decide) rfl (Nat.le_of_ble_eq_true rfl) ?_
  intro p e s m below meth c A F hA hP hD hK hE ls hl
  have hX_ := F.1
  have hB_ := F.2.1
  have hts := F.2.2.2.2.2.1
  have hown := F.2.2.2.2.1
  have hml := F.2.2.2.1
  have hS : va_S A s.heap s.heap [] := va_S.rf
  have hl : lv_has ls 3 [(0, .ref h), (1, .int (iz st))] := hl
  refine zk_iconst hX_ hB_ dX7_mark_0 ?_
  refine lv_iload_n hX_ hB_ dX7_mark_1 rfl (lv_at hl 1 rfl) ?_
  refine zk_mmax hX_ hB_ (by rw [hml]; exact hl.1.symm) hown (hts _ hw_X7_mark_52cee4) (hts _ hw_X7_mark_80a2ec) (hts _ hw_X7_mark_868a92) (hts _ hw_X7_mark_b6349a) (Nat.le_of_ble_eq_true rfl) (Nat.le_of_ble_eq_true rfl) (by decide) (by decide) (by omega) (by omega) dX7_mark_2 ?_
  refine zk_topi (y := (iz st)) (congrArg iz (by unfold imax; split <;> omega)) ?_
  refine lv_istore_n (lv' := [(2, .int (iz st)), (0, .ref h), (1, .int (iz st))]) hX_ hB_ dX7_mark_5 rfl hl (by decide) rfl (fun ls hl => ?_)
  have loop_6 : ∀ (n_6 : Nat), ∀ (i : Int) (gg : Int → Int64), (0 ≤ i ∧ i < 2 * P + 60) → (i % P = st) → (∀ j : Int, 0 ≤ j → j < P + 60 → tb gg j = (tb g j || decide (j % P = st ∧ j < i))) → ((2 * P + 60 - i).toNat < n_6) → ∀ (H : Heap) (locs : List Loc), va_P G.1 vwCl [(h, .inr (5, [.int (iz P), .ref bA, .int (zb fr)])), (bA, .inl (G.2 2, n, .inr (.inl (rv gg))))] H → va_D A [(h, .inr (5, [.int (iz P), .ref bA, .int (zb fr)])), (bA, .inl (G.2 2, n, .inr (.inl (rv gg))))] → va_S A s.heap H locs → ∀ ls : Array Slot, lv_has ls 3 [(0, .ref h), (1, .int (iz st)), (2, .int (iz i))] → W p l e ({ frames := 1, cells := 0, slots := 0, locals := 21 }) s m ([.ref h, .int (iz st)] : List Value).toArray below meth c H locs 0 0 (MQ below (va_Qv (fun (g2 : (Int → Int64)) => ∀ i : Int, 0 ≤ i → i < P + 60 → tb g2 i = (tb g i || decide (i % P = st))) (fun u__ t__ => Pst G A ((fun g2 : (Int → Int64) => [(h, .inr (5, [.int (iz P), .ref bA, .int (zb fr)])), (bA, .inl (G.2 2, n, .inr (.inl (rv g2))))]) u__) t__) A) ([.ref h, .int (iz st)] : List Value).toArray s 0 0 A) (F0 m 6 ls []) := by
    intro n_6
    induction n_6 with
    | zero =>
      intro i gg hi his hg hm H locs hP hD hS ls hl
      exact absurd hm (Nat.not_lt_zero _)
    | succ n_6 ih_6 =>
      intro i gg hi his hg hm H locs hP hD hS ls hl
      refine lv_iload_n hX_ hB_ dX7_mark_6 rfl (lv_at hl 2 rfl) ?_
      refine lv_aload_n hX_ hB_ dX7_mark_7 rfl (lv_at hl 0 rfl) ?_
      refine va_get (D := G.1) (ci := 5) (v := .int (iz P)) (C := RX7) (T := TX7) (N := 3) hX_ hB_ hts hi_X7_mark_X7 hown hK.1 hP 0 rfl rfl 0 (by decide) (hts _ hw_X7_mark_170ca7) (fun _ h9 => h9) rfl dX7_mark_8 ?_
      refine zk_bipush hX_ hB_ (by decide) dX7_mark_11 ?_
      refine zk_iadd hX_ hB_ dX7_mark_13 ?_
      refine zk_icmp_ge (tgt := 45) hX_ hB_ (by omega) (by omega) dX7_mark_14 (by decide) (fun c_14 => ?_) (fun c_14 => ?_)
      · skip
        exact fin_v (wf := (fun g2 : (Int → Int64) => [(h, .inr (5, [.int (iz P), .ref bA, .int (zb fr)])), (bA, .inl (G.2 2, n, .inr (.inl (rv g2))))])) gg F hP hD hK hS (by decide) (by decide) dX7_mark_45 (by intro i_ h1 h2; rw [hg i_ h1 h2]; have : i_ < i := (by omega); simp [this])
      · skip
        refine lv_aload_n hX_ hB_ dX7_mark_17 rfl (lv_at hl 0 rfl) ?_
        refine va_get (D := G.1) (ci := 5) (v := .ref bA) (C := RX7) (T := TX7) (N := 3) hX_ hB_ hts hi_X7_mark_X7 hown hK.1 hP 0 rfl rfl 1 (by decide) (hts _ hw_X7_mark_b5407b) (fun _ h9 => h9) rfl dX7_mark_18 ?_
        refine lv_iload_n hX_ hB_ dX7_mark_21 rfl (lv_at hl 2 rfl) ?_
        refine zk_bipush hX_ hB_ (by decide) dX7_mark_22 ?_
        refine lv_ishr hX_ hB_ dX7_mark_24 ?_
        refine zk_topi (y := (iz (i / 64))) (iz_shr6 (by omega) (by omega)) ?_
        refine lv_dup2_11 hX_ hB_ dX7_mark_25 rfl rfl ?_
        refine zk_lald hX_ hB_ hK.1 hP 1 2 rfl rfl (by omega) (by omega) dX7_mark_26 ?_
        refine zk_lconst hX_ hB_ 1 (by decide) dX7_mark_27 ?_
        refine lv_iload_n hX_ hB_ dX7_mark_28 rfl (lv_at hl 2 rfl) ?_
        refine zk_bipush hX_ hB_ (by decide) dX7_mark_29 ?_
        refine lv_iand hX_ hB_ dX7_mark_31 ?_
        refine zk_topi (y := (iz (i % 64))) (iz_and63 (by omega) (by omega)) ?_
        refine lv_lshl hX_ hB_ dX7_mark_32 rfl ?_
        have e64 : ((i % 64).toNat : Int) = i % 64 := by omega
        have hmk := one_bits (i % 64).toNat (by omega)
        rw [e64] at hmk
        refine lv_lor hX_ hB_ dX7_mark_33 ?_
        refine zk_last hX_ hB_ hK.1 hP hD hS 1 2 rfl rfl (by omega) (by omega) dX7_mark_34 (fun H locs hP hD hS => ?_)
        have hP : va_P G.1 vwCl [(h, .inr (5, [.int (iz P), .ref bA, .int (zb fr)])), (bA, .inl (G.2 2, n, .inr (.inl (rv (us gg (i / 64) ((gg (i / 64)) ||| ((lz 1) <<< ((iz (i % 64)).toInt64 &&& 63))))))))] _ := hP
        have hD : va_D A [(h, .inr (5, [.int (iz P), .ref bA, .int (zb fr)])), (bA, .inl (G.2 2, n, .inr (.inl (rv (us gg (i / 64) ((gg (i / 64)) ||| ((lz 1) <<< ((iz (i % 64)).toInt64 &&& 63))))))))] := hD
        refine lv_iload_n hX_ hB_ dX7_mark_35 rfl (lv_at hl 2 rfl) ?_
        refine lv_aload_n hX_ hB_ dX7_mark_36 rfl (lv_at hl 0 rfl) ?_
        refine va_get (D := G.1) (ci := 5) (v := .int (iz P)) (C := RX7) (T := TX7) (N := 3) hX_ hB_ hts hi_X7_mark_X7 hown hK.1 hP 0 rfl rfl 0 (by decide) (hts _ hw_X7_mark_170ca7) (fun _ h9 => h9) rfl dX7_mark_37 ?_
        refine zk_iadd hX_ hB_ dX7_mark_40 ?_
        refine lv_istore_n (lv' := [(2, .int (iz (i + P))), (0, .ref h), (1, .int (iz st))]) hX_ hB_ dX7_mark_41 rfl hl (by decide) rfl (fun ls hl => ?_)
        refine lv_goto (tgt := 6) hX_ hB_ dX7_mark_42 (by decide) ?_
        exact ih_6 (i + P) (us gg (i / 64) ((gg (i / 64)) ||| ((lz 1) <<< ((iz (i % 64)).toInt64 &&& 63)))) (by omega) (by rw [Int.add_emod_right]; exact his) (by exact mark_step hP0.1 hi.1 his hg hmk) (by omega) _ _ hP hD hS ls (lv_sub hl [1, 2, 0] rfl)
  exact loop_6 _ st g (by omega) (by exact Int.emod_eq_of_lt hs.1 hs.2) (by intro j h1 h2; have q : ¬ (j % P = st ∧ j < st) := (fun q => by have := mod_le h1 hP0.1; omega); simp [q]) (Nat.lt_succ_self _) _ _ hP hD hS ls (lv_sub hl [1, 2, 0] rfl)

theorem hw_X7_window_d19d0e : (.fieldLink RX7 23 "StoneDates$Wheel" "free" "Z" : Cond) ∈ wsX7_window := by decide +kernel
theorem hi_X7_window_X7 : ∀ w ∈ u_ws RX7 TX7 3, w ∈ wsX7_window := by decide +kernel
theorem hw_X7_window_170ca7 : (.fieldLink RX7 15 "StoneDates$Wheel" "period" "I" : Cond) ∈ wsX7_window := by decide +kernel
theorem hw_X7_window_b5407b : (.fieldLink RX7 19 "StoneDates$Wheel" "bits" "[J" : Cond) ∈ wsX7_window := by decide +kernel
theorem hw_X7_window_805b2a : (.constantLong RX7 33 (1152921504606846975) : Cond) ∈ wsX7_window := by decide +kernel
set_option maxHeartbeats 4000000 in
set_option maxRecDepth 100000 in
theorem c_X7_window (l : Launch) (G : GG) (h : Nat) (bA : Nat) (n : Nat) (P : Int) (g : Int → Int64) (fr : Bool) (fm : Int) (hP0 : 0 < P ∧ P < 10000) (hn : (P + 60) / 64 + 2 = n) (hf : 0 ≤ fm ∧ fm < P) : Cl l yX7_window wsX7_window ({ frames := 0, cells := 0, slots := 0, locals := 0 }) G E0 [.ref h, .int (iz fm)] [(h, .inr (5, [.int (iz P), .ref bA, .int (zb fr)])), (bA, .inl (G.2 2, n, .inr (.inl (rv g))))] 0 0 (fun _ : Unit => [(h, .inr (5, [.int (iz P), .ref bA, .int (zb fr)])), (bA, .inl (G.2 2, n, .inr (.inl (rv g))))]) (fun (r : Int64) (_ : Unit) => ∀ j : Nat, j < 64 → r.toBitVec.getLsbD j = (decide (j < 60) && (fr || tb g (fm + j)))) := by
  refine Cl_intro (cc := cX7_window) (maxL := 5) (ret := (some .long)) (by decide) rfl (Nat.le_of_ble_eq_true rfl) ?_
  intro p e s m below meth c A F hA hP hD hK hE ls hl
  have hX_ := F.1
  have hB_ := F.2.1
  have hts := F.2.2.2.2.2.1
  have hown := F.2.2.2.2.1
  have hml := F.2.2.2.1
  have hS : va_S A s.heap s.heap [] := va_S.rf
  have hl : lv_has ls 5 [(0, .ref h), (1, .int (iz fm))] := hl
  refine lv_aload_n hX_ hB_ dX7_window_0 rfl (lv_at hl 0 rfl) ?_
  refine va_get (D := G.1) (ci := 5) (v := .int (zb fr)) (C := RX7) (T := TX7) (N := 3) hX_ hB_ hts hi_X7_window_X7 hown hK.1 hP 0 rfl rfl 2 (by decide) (hts _ hw_X7_window_d19d0e) (fun _ h9 => h9) rfl dX7_window_1 ?_
  refine zk_bif_eq (tgt := 11) hX_ hB_ dX7_window_4 (by decide) (fun c_4 => ?_) (fun c_4 => ?_)
  · skip
    refine lv_iload_n hX_ hB_ dX7_window_11 rfl (lv_at hl 1 rfl) ?_
    refine zk_if_lt (tgt := 23) hX_ hB_ (by omega) dX7_window_12 (by decide) (fun c_12 => ?_) (fun c_12 => ?_)
    · skip
      refine zk_lconst hX_ hB_ 0 (by decide) dX7_window_23 ?_
      exact fin_l (wf := (fun _ : Unit => [(h, .inr (5, [.int (iz P), .ref bA, .int (zb fr)])), (bA, .inl (G.2 2, n, .inr (.inl (rv g))))])) () F hP hD hK hS (by decide) (by decide) dX7_window_24 (by exfalso; omega)
    · skip
      refine lv_iload_n hX_ hB_ dX7_window_15 rfl (lv_at hl 1 rfl) ?_
      refine lv_aload_n hX_ hB_ dX7_window_16 rfl (lv_at hl 0 rfl) ?_
      refine va_get (D := G.1) (ci := 5) (v := .int (iz P)) (C := RX7) (T := TX7) (N := 3) hX_ hB_ hts hi_X7_window_X7 hown hK.1 hP 0 rfl rfl 0 (by decide) (hts _ hw_X7_window_170ca7) (fun _ h9 => h9) rfl dX7_window_17 ?_
      refine zk_icmp_lt (tgt := 25) hX_ hB_ (by omega) (by omega) dX7_window_20 (by decide) (fun c_20 => ?_) (fun c_20 => ?_)
      · skip
        refine lv_iload_n hX_ hB_ dX7_window_25 rfl (lv_at hl 1 rfl) ?_
        refine zk_bipush hX_ hB_ (by decide) dX7_window_26 ?_
        refine lv_iand hX_ hB_ dX7_window_28 ?_
        refine zk_topi (y := (iz (fm % 64))) (iz_and63 (by omega) (by omega)) ?_
        refine lv_istore_n (lv' := [(2, .int (iz (fm % 64))), (0, .ref h), (1, .int (iz fm))]) hX_ hB_ dX7_window_29 rfl hl (by decide) rfl (fun ls hl => ?_)
        refine lv_aload_n hX_ hB_ dX7_window_30 rfl (lv_at hl 1 rfl) ?_
        refine va_get (D := G.1) (ci := 5) (v := .ref bA) (C := RX7) (T := TX7) (N := 3) hX_ hB_ hts hi_X7_window_X7 hown hK.1 hP 0 rfl rfl 1 (by decide) (hts _ hw_X7_window_b5407b) (fun _ h9 => h9) rfl dX7_window_31 ?_
        refine lv_iload_n hX_ hB_ dX7_window_34 rfl (lv_at hl 2 rfl) ?_
        refine zk_bipush hX_ hB_ (by decide) dX7_window_35 ?_
        refine lv_ishr hX_ hB_ dX7_window_37 ?_
        refine zk_topi (y := (iz (fm / 64))) (iz_shr6 (by omega) (by omega)) ?_
        refine zk_lald hX_ hB_ hK.1 hP 1 2 rfl rfl (by omega) (by omega) dX7_window_38 ?_
        refine lv_iload_n hX_ hB_ dX7_window_39 rfl (lv_at hl 0 rfl) ?_
        refine lv_lushr hX_ hB_ dX7_window_40 rfl ?_
        refine lv_lstore_n (lv' := [(3, .long (((g (fm / 64)).toUInt64 >>> ((iz (fm % 64)).toInt64.toUInt64 &&& Int64.toUInt64 63)).toInt64)), (2, .int (iz (fm % 64))), (0, .ref h), (1, .int (iz fm))]) hX_ hB_ dX7_window_41 rfl hl (by decide) rfl (fun ls hl => ?_)
        refine lv_iload_n hX_ hB_ dX7_window_42 rfl (lv_at hl 1 rfl) ?_
        refine zk_iconst hX_ hB_ dX7_window_43 ?_
        refine zk_icmp_le (tgt := 66) hX_ hB_ (by omega) (by omega) dX7_window_44 (by decide) (fun c_44 => ?_) (fun c_44 => ?_)
        · skip
          refine lv_lload_n hX_ hB_ dX7_window_66 rfl (lv_at hl 0 rfl) ?_
          refine lv_ldc2 hX_ hB_ hown (hts _ hw_X7_window_805b2a) dX7_window_67 ?_
          refine lv_land hX_ hB_ dX7_window_70 ?_
          obtain ⟨k, hk⟩ : ∃ k : Nat, fm % 64 = k := ⟨(fm % 64).toNat, by omega⟩
          have hk64 : k < 64 := by omega
          rw [hk]
          exact fin_l (wf := (fun _ : Unit => [(h, .inr (5, [.int (iz P), .ref bA, .int (zb fr)])), (bA, .inl (G.2 2, n, .inr (.inl (rv g))))])) () F hP hD hK hS (by decide) (by decide) dX7_window_71 (by intro j hj; rw [full_bits _ j hj, c_4]; by_cases h60 : j < 60; (first | rw [Int64.toBitVec_or, lushr_bits _ k hk64, show (64 : Int) - (k : Int) = ((64 - k : Nat) : Int) from (by omega), lshl_bits _ (64 - k) (by omega), win_hi hf.1 hk (by omega) j h60] | rw [lushr_bits _ k hk64, win_lo hf.1 hk (by omega) j h60]); simp [h60]; simp [h60])
        · skip
          refine lv_lload_n hX_ hB_ dX7_window_47 rfl (lv_at hl 0 rfl) ?_
          refine lv_aload_n hX_ hB_ dX7_window_48 rfl (lv_at hl 2 rfl) ?_
          refine va_get (D := G.1) (ci := 5) (v := .ref bA) (C := RX7) (T := TX7) (N := 3) hX_ hB_ hts hi_X7_window_X7 hown hK.1 hP 0 rfl rfl 1 (by decide) (hts _ hw_X7_window_b5407b) (fun _ h9 => h9) rfl dX7_window_49 ?_
          refine lv_iload_n hX_ hB_ dX7_window_52 rfl (lv_at hl 3 rfl) ?_
          refine zk_bipush hX_ hB_ (by decide) dX7_window_53 ?_
          refine lv_ishr hX_ hB_ dX7_window_55 ?_
          refine zk_topi (y := (iz (fm / 64))) (iz_shr6 (by omega) (by omega)) ?_
          refine zk_iconst hX_ hB_ dX7_window_56 ?_
          refine zk_iadd hX_ hB_ dX7_window_57 ?_
          refine zk_lald hX_ hB_ hK.1 hP 1 2 rfl rfl (by omega) (by omega) dX7_window_58 ?_
          refine zk_bipush hX_ hB_ (by decide) dX7_window_59 ?_
          refine lv_iload_n hX_ hB_ dX7_window_61 rfl (lv_at hl 1 rfl) ?_
          refine zk_isub hX_ hB_ dX7_window_62 ?_
          refine lv_lshl hX_ hB_ dX7_window_63 rfl ?_
          refine lv_lor hX_ hB_ dX7_window_64 ?_
          refine lv_lstore_n (lv' := [(3, .long ((((g (fm / 64)).toUInt64 >>> ((iz (fm % 64)).toInt64.toUInt64 &&& Int64.toUInt64 63)).toInt64) ||| ((g ((fm / 64) + 1)) <<< ((iz (64 - (fm % 64))).toInt64 &&& 63)))), (2, .int (iz (fm % 64))), (0, .ref h), (1, .int (iz fm))]) hX_ hB_ dX7_window_65 rfl hl (by decide) rfl (fun ls hl => ?_)
          refine lv_lload_n hX_ hB_ dX7_window_66 rfl (lv_at hl 0 rfl) ?_
          refine lv_ldc2 hX_ hB_ hown (hts _ hw_X7_window_805b2a) dX7_window_67 ?_
          refine lv_land hX_ hB_ dX7_window_70 ?_
          obtain ⟨k, hk⟩ : ∃ k : Nat, fm % 64 = k := ⟨(fm % 64).toNat, by omega⟩
          have hk64 : k < 64 := by omega
          rw [hk]
          exact fin_l (wf := (fun _ : Unit => [(h, .inr (5, [.int (iz P), .ref bA, .int (zb fr)])), (bA, .inl (G.2 2, n, .inr (.inl (rv g))))])) () F hP hD hK hS (by decide) (by decide) dX7_window_71 (by intro j hj; rw [full_bits _ j hj, c_4]; by_cases h60 : j < 60; (first | rw [Int64.toBitVec_or, lushr_bits _ k hk64, show (64 : Int) - (k : Int) = ((64 - k : Nat) : Int) from (by omega), lshl_bits _ (64 - k) (by omega), win_hi hf.1 hk (by omega) j h60] | rw [lushr_bits _ k hk64, win_lo hf.1 hk (by omega) j h60]); simp [h60]; simp [h60])
      · skip
        refine zk_lconst hX_ hB_ 0 (by decide) dX7_window_23 ?_
        exact fin_l (wf := (fun _ : Unit => [(h, .inr (5, [.int (iz P), .ref bA, .int (zb fr)])), (bA, .inl (G.2 2, n, .inr (.inl (rv g))))])) () F hP hD hK hS (by decide) (by decide) dX7_window_24 (by exfalso; omega)
  · skip
    refine lv_ldc2 hX_ hB_ hown (hts _ hw_X7_window_805b2a) dX7_window_7 ?_
    exact fin_l (wf := (fun _ : Unit => [(h, .inr (5, [.int (iz P), .ref bA, .int (zb fr)])), (bA, .inl (G.2 2, n, .inr (.inl (rv g))))])) () F hP hD hK hS (by decide) (by decide) dX7_window_10 (by intro j hj; rw [full_only j hj, c_4]; simp)
