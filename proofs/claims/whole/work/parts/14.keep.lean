/-- the days from a on, n of them, that hold -/
def fl (f : Int → Bool) (a : Int) : Nat → List Int
  | 0 => []
  | n + 1 => fl f a n ++ (if f (a + n) then [a + (n : Int)] else [])
theorem fl_gap {f : Int → Bool} {a : Int} {t : Nat} : ∀ {u : Nat}, t ≤ u → (∀ j : Nat, t ≤ j → j < u → f (a + j) = false) → fl f a u = fl f a t
  | 0, h, _ => by
    have : t = 0 := by omega
    subst this
    rfl
  | u + 1, h, e => by
    by_cases q : t = u + 1
    · subst q
      rfl
    · show fl f a u ++ (if f (a + u) then [a + (u : Int)] else []) = fl f a t
      rw [e u (by omega) (by omega), fl_gap (u := u) (by omega) (fun j h1 h2 => e j h1 (by omega))]
      simp
theorem fl_app {f : Int → Bool} {a : Int} (m : Nat) : ∀ n : Nat, fl f a (m + n) = fl f a m ++ fl f (a + m) n
  | 0 => by simp [fl]
  | n + 1 => by
    show fl f a (m + n) ++ (if f (a + ((m + n : Nat) : Int)) then [a + ((m + n : Nat) : Int)] else []) = fl f a m ++ (fl f (a + m) n ++ (if f (a + m + n) then [a + m + (n : Int)] else []))
    rw [fl_app m n, List.append_assoc, show a + ((m + n : Nat) : Int) = a + m + n by omega]
theorem fl_cong {f g : Int → Bool} {a : Int} : ∀ {n : Nat}, (∀ j : Nat, j < n → f (a + j) = g (a + j)) → fl f a n = fl g a n
  | 0, _ => rfl
  | n + 1, h => by
    unfold fl
    rw [fl_cong (fun j hj => h j (by omega)), h n (by omega)]
theorem fl_len {f : Int → Bool} {a : Int} : ∀ n : Nat, (fl f a n).length = cnt (fun j => f (a + j)) n
  | 0 => rfl
  | n + 1 => by
    unfold fl cnt
    rw [List.length_append, fl_len n]
    split <;> simp
theorem fl_none {f : Int → Bool} {a : Int} {n : Nat} (h : ∀ j : Nat, j < n → f (a + j) = false) : fl f a n = [] := fl_gap (t := 0) (Nat.zero_le n) (fun j _ h2 => h j h2)
/-- a row holds the first 300 of a list -/
def FD (days : Int → Int) (pre : List Int) : Prop := ∀ k : Nat, k < 300 → k < pre.length → days k = pre.getD k 0
def m300 (l : List Int) : Int := ((min 300 l.length : Nat) : Int)
theorem FD_add {days : Int → Int} {pre : List Int} {v kp : Int} (h : FD days pre) (hk : kp = m300 pre) (hl : kp < 300) : FD (us days kp v) (pre ++ [v]) ∧ kp + 1 = m300 (pre ++ [v]) := by
  unfold m300 at *
  have hlen : kp = (pre.length : Int) := by omega
  refine ⟨fun k h1 h2 => ?_, by simp; omega⟩
  rw [List.length_append, List.length_singleton] at h2
  unfold us
  by_cases e : k = pre.length
  · rw [if_pos (by omega), e]
    simp [List.getD]
  · rw [if_neg (by omega), h k h1 (by omega)]
    simp [List.getD, List.getElem?_append_left (show k < pre.length by omega)]
theorem FD_full {days : Int → Int} {pre : List Int} (ex : List Int) (h : FD days pre) (hk : ¬ m300 pre < 300) : FD days (pre ++ ex) ∧ m300 (pre ++ ex) = m300 pre := by
  unfold m300 at *
  have hl : 300 ≤ pre.length := by omega
  refine ⟨fun k h1 h2 => ?_, by simp; omega⟩
  rw [h k h1 (by omega)]
  simp [List.getD, List.getElem?_append_left (show k < pre.length by omega)]
/-- the lowest bit -/
theorem low_ex {x : Int64} (h : x ≠ lz 0) : ∃ u : Nat, u < 64 ∧ x.toBitVec.getLsbD u = true ∧ (∀ j, j < u → x.toBitVec.getLsbD j = false) ∧ (x &&& -x).toBitVec = BitVec.twoPow 64 u := by
  have h1 : ∃ j, j < 64 ∧ x.toBitVec.getLsbD j = true := by
    apply Classical.byContradiction
    intro q
    apply h
    apply Int64.toBitVec_inj.1
    apply BitVec.eq_of_getLsbD_eq
    intro i hi
    have e0 : (lz 0).toBitVec = 0#64 := by decide
    rw [e0, BitVec.getLsbD_zero]
    cases hb : x.toBitVec.getLsbD i with
    | false => rfl
    | true => exact absurd ⟨i, hi, hb⟩ q
  obtain ⟨u, ⟨hu, hb⟩, hm⟩ := pk_least (fun j => j < 64 ∧ x.toBitVec.getLsbD j = true) h1
  have hlow : ∀ j, j < u → x.toBitVec.getLsbD j = false := by
    intro j hj
    cases hb : x.toBitVec.getLsbD j with
    | false => rfl
    | true => exact absurd ⟨by omega, hb⟩ (hm j hj)
  refine ⟨u, hu, hb, hlow, ?_⟩
  apply BitVec.eq_of_getLsbD_eq
  intro i hi
  rw [Int64.toBitVec_and, Int64.toBitVec_neg, BitVec.getLsbD_and, BitVec.getLsbD_neg, BitVec.getLsbD_twoPow]
  by_cases e : i = u
  · subst e
    have : ¬ ∃ j, j < i ∧ x.toBitVec.getLsbD j = true := fun ⟨j, h1, h2⟩ => by rw [hlow j h1] at h2; cases h2
    simp [hb, hi, this]
  · by_cases h2 : i < u
    · have e2 : ¬ u = i := by omega
      simp [hlow i h2, e2]
    · have : ∃ j, j < i ∧ x.toBitVec.getLsbD j = true := ⟨u, by omega, hb⟩
      have e2 : ¬ u = i := by omega
      cases hb2 : x.toBitVec.getLsbD i <;> simp [hi, this, e2]
theorem low_cnt {y : Int64} {u : Nat} (hu : u < 64) (h : y.toBitVec = BitVec.twoPow 64 u) : cnt (y - lz 1).toBitVec.getLsbD 64 = u := by
  have h1 : ∀ j, j < 64 → (y - lz 1).toBitVec.getLsbD j = decide (j < u) := by
    intro j hj
    have e1 : (lz 1).toBitVec = 1#64 := by decide
    rw [Int64.toBitVec_sub, h, e1]
    have e2 : (BitVec.twoPow 64 u - 1#64).toNat = 2 ^ u - 1 := by
      rw [BitVec.toNat_sub, BitVec.toNat_twoPow]
      have h3 : 2 ^ u < 2 ^ 64 := Nat.pow_lt_pow_right (by decide) hu
      have h4 : 0 < 2 ^ u := Nat.pow_pos (by decide)
      rw [Nat.mod_eq_of_lt h3, show (1#64).toNat = 1 from rfl]
      omega
    show (BitVec.twoPow 64 u - 1#64).toNat.testBit j = _
    rw [e2, Nat.testBit_two_pow_sub_one]
  rw [cnt_cong h1, cnt_lt u 64 (by omega)]
theorem low_out {x left : Int64} {u t : Nat} (hu : u < 64) (hb : left.toBitVec.getLsbD u = true) (hlow : ∀ j, j < u → left.toBitVec.getLsbD j = false) (hy : (left &&& -left).toBitVec = BitVec.twoPow 64 u) (hl : ∀ j, j < 64 → left.toBitVec.getLsbD j = (x.toBitVec.getLsbD j && decide (t ≤ j))) : (∀ j, j < 64 → (left ^^^ (left &&& -left)).toBitVec.getLsbD j = (x.toBitVec.getLsbD j && decide (u + 1 ≤ j))) ∧ t ≤ u ∧ x.toBitVec.getLsbD u = true ∧ ∀ j, t ≤ j → j < u → x.toBitVec.getLsbD j = false := by
  have hq := hl u hu
  rw [hb] at hq
  have htu : t ≤ u := by
    by_cases q : t ≤ u
    · exact q
    · simp [q] at hq
  refine ⟨fun j hj => ?_, htu, by simpa [htu] using hq.symm, fun j h1 h2 => ?_⟩
  · rw [Int64.toBitVec_xor, hy, BitVec.getLsbD_xor, BitVec.getLsbD_twoPow, hl j hj]
    by_cases e : j = u
    · subst e
      have h3 : ¬ j + 1 ≤ j := by omega
      have h4 : x.toBitVec.getLsbD j = true := by simpa [htu] using hq.symm
      simp [hj, htu, h4]
    · have e2 : ¬ u = j := fun q => e q.symm
      by_cases h5 : j < u
      · have h6 := hl j hj
        rw [hlow j h5] at h6
        have h7 : ¬ u + 1 ≤ j := by omega
        rw [← h6]
        simp [e2, h7]
      · have h7 : u + 1 ≤ j := by omega
        have h8 : t ≤ j := by omega
        simp [e2, h7, h8]
  · have h6 := hl j (by omega)
    rw [hlow j h2] at h6
    simpa [h1] using h6.symm

theorem hw_X1_keep_bd4c74 : (.fieldLink RX1 33 "StoneDates$Finder" "kept" "I" : Cond) ∈ wsX1_keep := by decide +kernel
theorem hi_X1_keep_X1 : ∀ w ∈ u_ws RX1 TX1 7, w ∈ wsX1_keep := by decide +kernel
theorem hw_X1_keep_3a39cb : (.fieldLink RX1 9 "StoneDates$Finder" "days" "[I" : Cond) ∈ wsX1_keep := by decide +kernel
theorem mds_J13_bitCount_95d88 : yJ13_bitCount_95d88.cls ≠ "java/lang/invoke/MethodHandle" ∧ yJ13_bitCount_95d88.cls ≠ "java/lang/invoke/VarHandle" ∧ (parseMethodDescriptor yJ13_bitCount_95d88.desc).map (fun d => d.parameters.length) = some 1 := by decide +kernel
set_option maxHeartbeats 4000000 in
set_option maxRecDepth 100000 in
theorem c_X1_keep (l : Launch) (G : GG) (h : Nat) (dA : Nat) (w1 : Nat) (w2 : Nat) (w3 : Nat) (w4 : Nat) (days : Int → Int) (kept : Int) (many : Int) (fm : Int) (x : Int64) (pre : List Int) (hk0 : kept = m300 pre) (hd0 : FD days pre) (hf : 0 ≤ fm ∧ fm < 2000000) : Cv l yX1_keep wsX1_keep ({ frames := 1, cells := 0, slots := 0, locals := 21 }) G E0 [.ref h, .int (iz fm), .long x] [(h, .inr (0, [.ref dA, .int (iz kept), .int (iz many), .ref w1, .ref w2, .ref w3, .ref w4])), (dA, .inl (G.2 0, 300, .inl (av days)))] 0 0 (fun days2 : (Int → Int) => [(h, .inr (0, [.ref dA, .int (iz (m300 (pre ++ fl (fun d => x.toBitVec.getLsbD (d - fm).toNat) fm 64))), .int (iz many), .ref w1, .ref w2, .ref w3, .ref w4])), (dA, .inl (G.2 0, 300, .inl (av days2)))]) (fun (days2 : (Int → Int)) => FD days2 (pre ++ fl (fun d => x.toBitVec.getLsbD (d - fm).toNat) fm 64)) := by
  refine Cv_intro (cc := cX1_keep) (maxL := 8) (ret := none) (by decide) rfl (Nat.le_of_ble_eq_true rfl) ?_
  intro p e s m below meth c A F hA hP hD hK hE ls hl
  have hX_ := F.1
  have hB_ := F.2.1
  have hts := F.2.2.2.2.2.1
  have hown := F.2.2.2.2.1
  have hml := F.2.2.2.1
  have hS : va_S A s.heap s.heap [] := va_S.rf
  have hl : lv_has ls 8 [(0, .ref h), (1, .int (iz fm)), (2, .long x)] := hl
  refine lv_lload_n hX_ hB_ dX1_keep_0 rfl (lv_at hl 2 rfl) ?_
  refine lv_lstore (lv' := [(4, .long x), (0, .ref h), (1, .int (iz fm)), (2, .long x)]) hX_ hB_ dX1_keep_1 hl (by decide) rfl (fun ls hl => ?_)
  have loop_3 : ∀ (n_3 : Nat), ∀ (left : Int64) (dd : Int → Int) (kp : Int) (t : Nat), (t ≤ 64) → (∀ j, j < 64 → left.toBitVec.getLsbD j = (x.toBitVec.getLsbD j && decide (t ≤ j))) → (kp = m300 (pre ++ fl (fun d => x.toBitVec.getLsbD (d - fm).toNat) fm t)) → (FD dd (pre ++ fl (fun d => x.toBitVec.getLsbD (d - fm).toNat) fm t)) → (64 - t < n_3) → ∀ (H : Heap) (locs : List Loc), va_P G.1 vwCl [(h, .inr (0, [.ref dA, .int (iz kp), .int (iz many), .ref w1, .ref w2, .ref w3, .ref w4])), (dA, .inl (G.2 0, 300, .inl (av dd)))] H → va_D A [(h, .inr (0, [.ref dA, .int (iz kp), .int (iz many), .ref w1, .ref w2, .ref w3, .ref w4])), (dA, .inl (G.2 0, 300, .inl (av dd)))] → va_S A s.heap H locs → ∀ ls : Array Slot, lv_has ls 8 [(0, .ref h), (1, .int (iz fm)), (2, .long x), (4, .long left)] → W p l e ({ frames := 1, cells := 0, slots := 0, locals := 21 }) s m ([.ref h, .int (iz fm), .long x] : List Value).toArray below meth c H locs 0 0 (MQ below (va_Qv (fun (days2 : (Int → Int)) => FD days2 (pre ++ fl (fun d => x.toBitVec.getLsbD (d - fm).toNat) fm 64)) (fun u__ t__ => Pst G A ((fun days2 : (Int → Int) => [(h, .inr (0, [.ref dA, .int (iz (m300 (pre ++ fl (fun d => x.toBitVec.getLsbD (d - fm).toNat) fm 64))), .int (iz many), .ref w1, .ref w2, .ref w3, .ref w4])), (dA, .inl (G.2 0, 300, .inl (av days2)))]) u__) t__) A) ([.ref h, .int (iz fm), .long x] : List Value).toArray s 0 0 A) (F0 m 3 ls []) := by
    intro n_3
    induction n_3 with
    | zero =>
      intro left dd kp t ht hl0 hk hd hm H locs hP hD hS ls hl
      exact absurd hm (Nat.not_lt_zero _)
    | succ n_3 ih_3 =>
      intro left dd kp t ht hl0 hk hd hm H locs hP hD hS ls hl
      have hkr : 0 ≤ kp ∧ kp ≤ 300 := by rw [hk]; unfold m300; omega
      refine lv_lload hX_ hB_ dX1_keep_3 (lv_at hl 3 rfl) ?_
      refine zk_lconst hX_ hB_ 0 (by decide) dX1_keep_5 ?_
      refine W.lcmp hX_ hB_ dX1_keep_6 ?_
      refine zk_lc_eq (tgt := 66) hX_ hB_ dX1_keep_7 (by decide) (fun c_7 => ?_) (fun c_7 => ?_)
      · skip
        have e64 : fl (fun d => x.toBitVec.getLsbD (d - fm).toNat) fm 64 = fl (fun d => x.toBitVec.getLsbD (d - fm).toNat) fm t := fl_gap ht (fun j h1 h2 => by show x.toBitVec.getLsbD (fm + (j : Int) - fm).toNat = false; rw [show (fm + (j : Int) - fm).toNat = j from by omega]; have := hl0 j h2; rw [c_7] at this; have e0 : (lz 0).toBitVec = 0#64 := (by decide); rw [e0, BitVec.getLsbD_zero] at this; simpa [h1] using this.symm)
        have ek : kp = m300 (pre ++ fl (fun d => x.toBitVec.getLsbD (d - fm).toNat) fm 64) := by rw [e64]; exact hk
        rw [ek] at hP hD
        rw [← e64] at hd
        exact fin_v (wf := (fun days2 : (Int → Int) => [(h, .inr (0, [.ref dA, .int (iz (m300 (pre ++ fl (fun d => x.toBitVec.getLsbD (d - fm).toNat) fm 64))), .int (iz many), .ref w1, .ref w2, .ref w3, .ref w4])), (dA, .inl (G.2 0, 300, .inl (av days2)))])) dd F hP hD hK hS (by decide) (by decide) dX1_keep_66 (by exact hd)
      · skip
        refine lv_aload_n hX_ hB_ dX1_keep_10 rfl (lv_at hl 0 rfl) ?_
        refine va_get (D := G.1) (ci := 0) (v := .int (iz kp)) (C := RX1) (T := TX1) (N := 7) hX_ hB_ hts hi_X1_keep_X1 hown hK.1 hP 0 rfl rfl 1 (by decide) (hts _ hw_X1_keep_bd4c74) (fun _ h9 => h9) rfl dX1_keep_11 ?_
        refine zk_sipush hX_ hB_ (by decide) dX1_keep_14 ?_
        refine zk_icmp_ge (tgt := 66) hX_ hB_ (by omega) (by omega) dX1_keep_17 (by decide) (fun c_17 => ?_) (fun c_17 => ?_)
        · skip
          have e64 : fl (fun d => x.toBitVec.getLsbD (d - fm).toNat) fm 64 = fl (fun d => x.toBitVec.getLsbD (d - fm).toNat) fm t ++ fl (fun d => x.toBitVec.getLsbD (d - fm).toNat) (fm + t) (64 - t) := by rw [← fl_app]; congr 1; omega
          have hfull := FD_full (fl (fun d => x.toBitVec.getLsbD (d - fm).toNat) (fm + t) (64 - t)) hd (by omega)
          rw [List.append_assoc, ← e64] at hfull
          have ek : kp = m300 (pre ++ fl (fun d => x.toBitVec.getLsbD (d - fm).toNat) fm 64) := by rw [hfull.2]; exact hk
          rw [ek] at hP hD
          exact fin_v (wf := (fun days2 : (Int → Int) => [(h, .inr (0, [.ref dA, .int (iz (m300 (pre ++ fl (fun d => x.toBitVec.getLsbD (d - fm).toNat) fm 64))), .int (iz many), .ref w1, .ref w2, .ref w3, .ref w4])), (dA, .inl (G.2 0, 300, .inl (av days2)))])) dd F hP hD hK hS (by decide) (by decide) dX1_keep_66 (by exact hfull.1)
        · skip
          refine lv_lload hX_ hB_ dX1_keep_20 (lv_at hl 3 rfl) ?_
          refine lv_lload hX_ hB_ dX1_keep_22 (lv_at hl 3 rfl) ?_
          refine lv_lneg hX_ hB_ dX1_keep_24 ?_
          refine lv_land hX_ hB_ dX1_keep_25 ?_
          refine lv_lstore (lv' := [(6, .long (left &&& (-left))), (0, .ref h), (1, .int (iz fm)), (2, .long x), (4, .long left)]) hX_ hB_ dX1_keep_26 hl (by decide) rfl (fun ls hl => ?_)
          obtain ⟨u, hu, hub, hul, huy⟩ := low_ex c_7
          refine lv_aload_n hX_ hB_ dX1_keep_28 rfl (lv_at hl 1 rfl) ?_
          refine va_get (D := G.1) (ci := 0) (v := .ref dA) (C := RX1) (T := TX1) (N := 7) hX_ hB_ hts hi_X1_keep_X1 hown hK.1 hP 0 rfl rfl 0 (by decide) (hts _ hw_X1_keep_3a39cb) (fun _ h9 => h9) rfl dX1_keep_29 ?_
          refine lv_aload_n hX_ hB_ dX1_keep_32 rfl (lv_at hl 1 rfl) ?_
          refine va_get (D := G.1) (ci := 0) (v := .int (iz kp)) (C := RX1) (T := TX1) (N := 7) hX_ hB_ hts hi_X1_keep_X1 hown hK.1 hP 0 rfl rfl 1 (by decide) (hts _ hw_X1_keep_bd4c74) (fun _ h9 => h9) rfl dX1_keep_33 ?_
          refine lv_iload_n hX_ hB_ dX1_keep_36 rfl (lv_at hl 2 rfl) ?_
          refine lv_lload hX_ hB_ dX1_keep_37 (lv_at hl 0 rfl) ?_
          refine zk_lconst hX_ hB_ 1 (by decide) dX1_keep_39 ?_
          refine lv_lsub hX_ hB_ dX1_keep_40 ?_
          refine back_i (wr := [(h, .inr (0, [.ref dA, .int (iz kp), .int (iz many), .ref w1, .ref w2, .ref w3, .ref w4])), (dA, .inl (G.2 0, 300, .inl (av dd)))]) (run_S (As := [.long ((left &&& (-left)) - (lz 1))]) (rest := [.int (iz fm), .int (iz kp), .ref dA]) (wc := []) F (c_J13_bitCount_95d88 l G ((left &&& (-left)) - (lz 1)) _) ext0 gX1_keep_J13_bitCount_95d88 rfl rfl rfl mds_J13_bitCount_95d88 ⟨Nat.le_of_ble_eq_true rfl, Nat.le_of_ble_eq_true rfl⟩ (pre_of ext0 hK hP hD hS hA trivial [] (by decide) rfl _) rfl hl.1 (Nat.le_of_ble_eq_true rfl) dX1_keep_41 ⟨by decide, by decide⟩) hP hD hS hA [] [0, 1] rfl rfl (by decide) (by decide) (fun r__ u__ H locs hw hP hD hS => ?_)
          subst hw
          have hP := hP.sub (ws' := [(h, .inr (0, [.ref dA, .int (iz kp), .int (iz many), .ref w1, .ref w2, .ref w3, .ref w4])), (dA, .inl (G.2 0, 300, .inl (av dd)))]) [0, 1] rfl
          have hD := hD.sub (ws' := [(h, .inr (0, [.ref dA, .int (iz kp), .int (iz many), .ref w1, .ref w2, .ref w3, .ref w4])), (dA, .inl (G.2 0, 300, .inl (av dd)))]) [0, 1] (by decide) rfl
          refine zk_topi (y := (iz (u : Int))) (congrArg (fun n : Nat => iz (n : Int)) (low_cnt hu huy)) ?_
          refine zk_iadd hX_ hB_ dX1_keep_44 ?_
          refine zk_iast hX_ hB_ hK.1 hP hD hS 1 0 rfl rfl (by omega) (by decide) dX1_keep_45 (fun H locs hP hD hS => ?_)
          have hP : va_P G.1 vwCl [(h, .inr (0, [.ref dA, .int (iz kp), .int (iz many), .ref w1, .ref w2, .ref w3, .ref w4])), (dA, .inl (G.2 0, 300, .inl (av (us dd kp (fm + (u : Int))))))] _ := hP
          have hD : va_D A [(h, .inr (0, [.ref dA, .int (iz kp), .int (iz many), .ref w1, .ref w2, .ref w3, .ref w4])), (dA, .inl (G.2 0, 300, .inl (av (us dd kp (fm + (u : Int))))))] := hD
          refine lv_aload_n hX_ hB_ dX1_keep_46 rfl (lv_at hl 1 rfl) ?_
          refine lv_dup hX_ hB_ dX1_keep_47 rfl ?_
          refine va_get (D := G.1) (ci := 0) (v := .int (iz kp)) (C := RX1) (T := TX1) (N := 7) hX_ hB_ hts hi_X1_keep_X1 hown hK.1 hP 0 rfl rfl 1 (by decide) (hts _ hw_X1_keep_bd4c74) (fun _ h9 => h9) rfl dX1_keep_48 ?_
          refine zk_iconst hX_ hB_ dX1_keep_51 ?_
          refine zk_iadd hX_ hB_ dX1_keep_52 ?_
          refine va_put (D := G.1) (ci := 0) (v := .int (iz (kp + 1))) (ty := .int) (C := RX1) (T := TX1) (N := 7) hX_ hB_ hts hi_X1_keep_X1 tyX1 tyX1_ok nmX1 hown hK.1 hP hD hS 0 rfl rfl 1 (by decide) (hts _ hw_X1_keep_bd4c74) (fun _ h9 => h9) rfl (by decide +kernel) rfl rfl (Nat.le_of_ble_eq_true rfl) dX1_keep_53 (fun H locs hP hD hS => ?_)
          have hP : va_P G.1 vwCl [(h, .inr (0, [.ref dA, .int (iz (kp + 1)), .int (iz many), .ref w1, .ref w2, .ref w3, .ref w4])), (dA, .inl (G.2 0, 300, .inl (av (us dd kp (fm + (u : Int))))))] _ := hP
          have hD : va_D A [(h, .inr (0, [.ref dA, .int (iz (kp + 1)), .int (iz many), .ref w1, .ref w2, .ref w3, .ref w4])), (dA, .inl (G.2 0, 300, .inl (av (us dd kp (fm + (u : Int))))))] := hD
          refine lv_lload hX_ hB_ dX1_keep_56 (lv_at hl 4 rfl) ?_
          refine lv_lload hX_ hB_ dX1_keep_58 (lv_at hl 0 rfl) ?_
          refine lv_lxor hX_ hB_ dX1_keep_60 ?_
          refine lv_lstore (lv' := [(4, .long (left ^^^ (left &&& (-left)))), (6, .long (left &&& (-left))), (0, .ref h), (1, .int (iz fm)), (2, .long x)]) hX_ hB_ dX1_keep_61 hl (by decide) rfl (fun ls hl => ?_)
          refine lv_goto (tgt := 3) hX_ hB_ dX1_keep_63 (by decide) ?_
          obtain ⟨o1, o2, o3, o4⟩ := low_out hu hub hul huy hl0
          have hfl : fl (fun d => x.toBitVec.getLsbD (d - fm).toNat) fm (u + 1) = fl (fun d => x.toBitVec.getLsbD (d - fm).toNat) fm t ++ [fm + (u : Int)] := by
            show fl _ fm u ++ _ = _
            have e1 : x.toBitVec.getLsbD (fm + (u : Int) - fm).toNat = true := by rw [show (fm + (u : Int) - fm).toNat = u from by omega]; exact o3
            rw [fl_gap o2 (fun j h1 h2 => by show x.toBitVec.getLsbD (fm + (j : Int) - fm).toNat = false; rw [show (fm + (j : Int) - fm).toNat = j from by omega]; exact o4 j h1 h2), if_pos e1]
          have hadd := FD_add (v := fm + (u : Int)) hd hk (by omega)
          rw [List.append_assoc, ← hfl] at hadd
          exact ih_3 (left ^^^ (left &&& (-left))) (us dd kp (fm + (u : Int))) (kp + 1) (u + 1) (by omega) (by exact o1) (by exact hadd.2) (by exact hadd.1) (by omega) _ _ hP hD hS ls (lv_sub hl [2, 3, 4, 0] rfl)
  exact loop_3 _ x days kept 0 (by omega) (by intro j hj; simp) (by rw [hk0]; simp [fl]) (by simpa [fl] using hd0) (Nat.lt_succ_self _) _ _ hP hD hS ls (lv_sub hl [1, 2, 3, 0] rfl)
