/-- the signs behind the first three places -/
def fitI (st : Int → Int32) (b d : Int) : Bool := hold (st 3) (sgn d 3 b) && hold (st 4) (sgn d 4 b) && hold (st 5) (sgn d 5 b) && hold (st 6) (sgn d 6 b) && hold (st 7) (sgn d 7 b) && hold (st 8) (sgn d 8 b) && hold (st 9) (sgn d 9 b) && hold (st 10) (sgn d 10 b)
theorem fitS_eq (st : Int → Int32) (b d : Int) : fitS st b d = (hold (st 0) (sgn d 0 b) && hold (st 1) (sgn d 1 b) && hold (st 2) (sgn d 2 b) && fitI st b d) := by
  unfold fitS fitI
  simp only [fitU, Bool.true_and, Bool.and_assoc]
  rfl
theorem sg_i {m j b : Int} (hm : m % 360 = 0) (hm0 : 0 ≤ m) (hj : 0 ≤ j) : sgn (1152000 + j) 3 0 = sgn (1152000 + m + j) 3 b ∧ sgn (1152000 + j) 4 0 = sgn (1152000 + m + j) 4 b ∧ sgn (1152000 + j) 6 0 = sgn (1152000 + m + j) 6 b ∧ sgn (1152000 + j) 9 0 = sgn (1152000 + m + j) 9 b := by
  unfold sgn
  simp
  refine ⟨?_, ?_, ?_, ?_⟩ <;> omega
theorem sg_5 {d q b : Int} (h : q = (d + 3) % 13) : q + 1 = sgn d 5 b := by
  unfold sgn
  simp
  omega
theorem sg_7 {d q b : Int} (h : q = (d + 348) % 365) : q % 20 = sgn d 7 b ∧ q / 20 = sgn d 8 b := by
  unfold sgn
  simp
  constructor <;> omega
theorem sg_10 {d q b : Int} (h : q = (d + b) % 4400) : sgn q 10 0 = sgn d 10 b := by
  unfold sgn
  simp
  omega
theorem fitI_eq {st : Int → Int32} {b fm i j : Int} (hf : fm % 360 = 0) (hf0 : 1152000 ≤ fm) (hij : 0 ≤ i + j) : fitI st b (fm + i + j) = (qInner (st 3) (st 4) (st 6) (st 9) (i + j) && qThirteen (st 5) (((fm + 3 + i) % 13 + j) % 13) && qYear (st 7) (st 8) (((fm + 348 + i) % 365 + j) % 365) && qLunar (st 10) (((fm + b + i) % 4400 + j) % 4400)) := by
  have e : fm + i + j = 1152000 + (fm - 1152000) + (i + j) := by omega
  obtain ⟨a1, a2, a3, a4⟩ := sg_i (b := b) (m := fm - 1152000) (j := i + j) (by omega) (by omega) hij
  have b1 := sg_5 (d := fm + i + j) (q := ((fm + 3 + i) % 13 + j) % 13) (b := b) (by omega)
  obtain ⟨c1, c2⟩ := sg_7 (d := fm + i + j) (q := ((fm + 348 + i) % 365 + j) % 365) (b := b) (by omega)
  have d1 := sg_10 (d := fm + i + j) (q := ((fm + b + i) % 4400 + j) % 4400) (b := b) (by omega)
  rw [← e] at a1 a2 a3 a4
  unfold fitI qInner qThirteen qYear qLunar
  rw [a1, a2, a3, a4, b1, c1, c2, d1]
  simp only [Bool.and_assoc]
  cases hold (st 3) (sgn (fm + i + j) 3 b) <;> cases hold (st 4) (sgn (fm + i + j) 4 b) <;> cases hold (st 5) (sgn (fm + i + j) 5 b) <;> cases hold (st 6) (sgn (fm + i + j) 6 b) <;> cases hold (st 7) (sgn (fm + i + j) 7 b) <;> cases hold (st 8) (sgn (fm + i + j) 8 b) <;> simp
theorem bits_none {st : Int → Int32} {b fm i : Int} {fr1 : Bool} {g1 : Int → Int64} {r1 : Int64} (hf : fm % 360 = 0) (hf0 : 1152000 ≤ fm) (hi : 0 ≤ i ∧ i < 360 ∧ i % 60 = 0) (h1 : WP 360 fr1 g1 (qInner (st 3) (st 4) (st 6) (st 9))) (w1 : ∀ j : Nat, j < 64 → r1.toBitVec.getLsbD j = (decide (j < 60) && (fr1 || tb g1 (i + j)))) (h0 : r1 = lz 0) : ∀ j : Nat, j < 64 → r1.toBitVec.getLsbD j = (decide (j < 60) && fitI st b (fm + i + j)) := by
  intro j hj
  have e := w1 j hj
  rw [e]
  by_cases h60 : j < 60
  · have e0 : (lz 0).toBitVec = 0#64 := by decide
    rw [h0, e0, BitVec.getLsbD_zero, h1 (i + j) (by omega) (by omega), Int.emod_eq_of_lt (by omega) (by omega)] at e
    rw [h1 (i + j) (by omega) (by omega), Int.emod_eq_of_lt (by omega) (by omega), fitI_eq hf hf0 (by omega)]
    simp [h60] at e
    simp [h60, e]
  · simp [h60]
theorem bits_all {st : Int → Int32} {b fm i : Int} {fr1 fr2 fr3 fr4 : Bool} {g1 g2 g3 g4 : Int → Int64} {r1 r2 r3 r4 : Int64} (hf : fm % 360 = 0) (hf0 : 1152000 ≤ fm) (hi : 0 ≤ i ∧ i < 360 ∧ i % 60 = 0) (h1 : WP 360 fr1 g1 (qInner (st 3) (st 4) (st 6) (st 9))) (h2 : WP 13 fr2 g2 (qThirteen (st 5))) (h3 : WP 365 fr3 g3 (qYear (st 7) (st 8))) (h4 : WP 4400 fr4 g4 (qLunar (st 10)))
    (w1 : ∀ j : Nat, j < 64 → r1.toBitVec.getLsbD j = (decide (j < 60) && (fr1 || tb g1 (i + j)))) (w2 : ∀ j : Nat, j < 64 → r2.toBitVec.getLsbD j = (decide (j < 60) && (fr2 || tb g2 ((fm + 3 + i) % 13 + j)))) (w3 : ∀ j : Nat, j < 64 → r3.toBitVec.getLsbD j = (decide (j < 60) && (fr3 || tb g3 ((fm + 348 + i) % 365 + j)))) (w4 : ∀ j : Nat, j < 64 → r4.toBitVec.getLsbD j = (decide (j < 60) && (fr4 || tb g4 ((fm + b + i) % 4400 + j)))) :
    ∀ j : Nat, j < 64 → (r1 &&& (r2 &&& r3 &&& r4)).toBitVec.getLsbD j = (decide (j < 60) && fitI st b (fm + i + j)) := by
  intro j hj
  rw [Int64.toBitVec_and, Int64.toBitVec_and, Int64.toBitVec_and, BitVec.getLsbD_and, BitVec.getLsbD_and, BitVec.getLsbD_and, w1 j hj, w2 j hj, w3 j hj, w4 j hj]
  by_cases h60 : j < 60
  · rw [h1 (i + j) (by omega) (by omega), h2 _ (by omega) (by omega), h3 _ (by omega) (by omega), h4 _ (by omega) (by omega), Int.emod_eq_of_lt (a := i + j) (by omega) (by omega), fitI_eq hf hf0 (by omega)]
    simp [h60, Bool.and_assoc]
  · simp [h60]
theorem fl_bits {F : Int → Bool} {x : Int64} {a : Int} (h : ∀ j : Nat, j < 64 → x.toBitVec.getLsbD j = (decide (j < 60) && F (a + j))) : fl (fun d => x.toBitVec.getLsbD (d - a).toNat) a 64 = fl F a 60 ∧ cnt x.toBitVec.getLsbD 64 = (fl F a 60).length := by
  have e1 : fl (fun d => x.toBitVec.getLsbD (d - a).toNat) a 64 = fl F a 60 := by
    rw [fl_gap (t := 60) (u := 64) (by decide) (fun j h1 h2 => by
      show x.toBitVec.getLsbD (a + (j : Int) - a).toNat = false
      rw [show (a + (j : Int) - a).toNat = j from by omega, h j h2]
      have : ¬ j < 60 := by omega
      simp [this])]
    exact fl_cong (fun j hj => by
      show x.toBitVec.getLsbD (a + (j : Int) - a).toNat = _
      rw [show (a + (j : Int) - a).toNat = j from by omega, h j (by omega)]
      simp [hj])
  refine ⟨e1, ?_⟩
  rw [← e1, fl_len]
  exact cnt_cong (fun j _ => by
    show _ = x.toBitVec.getLsbD (a + (j : Int) - a).toNat
    rw [show (a + (j : Int) - a).toNat = j from by omega])
theorem fl_60 {F : Int → Bool} {pre : List Int} {fm i : Int} (hi : 0 ≤ i) : (pre ++ fl F fm i.toNat) ++ fl F (fm + i) 60 = pre ++ fl F fm (i + 60).toNat := by
  rw [List.append_assoc, show (i + 60).toNat = i.toNat + 60 from by omega, fl_app, Int.toNat_of_nonneg hi]

theorem hw_X1_scan_5ade71 : (.fieldLink RX1 20 "StoneDates$Finder" "inner" "LStoneDates$Wheel;" : Cond) ∈ wsX1_scan := by decide +kernel
theorem hi_X1_scan_X1 : ∀ w ∈ u_ws RX1 TX1 7, w ∈ wsX1_scan := by decide +kernel
theorem mdv_X7_window : yX7_window.cls = RX7 ∧ yX7_window.cls ≠ "java/lang/invoke/MethodHandle" ∧ yX7_window.cls ≠ "java/lang/invoke/VarHandle" ∧ (parseMethodDescriptor yX7_window.desc).map (fun d => d.parameters.length) = some 1 := by decide +kernel
theorem hw_X1_scan_4cc088 : (.fieldLink RX1 37 "StoneDates$Finder" "many" "I" : Cond) ∈ wsX1_scan := by decide +kernel
theorem mdv_X1_keep : yX1_keep.cls = RX1 ∧ yX1_keep.cls ≠ "java/lang/invoke/MethodHandle" ∧ yX1_keep.cls ≠ "java/lang/invoke/VarHandle" ∧ (parseMethodDescriptor yX1_keep.desc).map (fun d => d.parameters.length) = some 2 := by decide +kernel
theorem hw_X1_scan_acb36f : (.fieldLink RX1 24 "StoneDates$Finder" "thirteen" "LStoneDates$Wheel;" : Cond) ∈ wsX1_scan := by decide +kernel
theorem hw_X1_scan_4ac8d0 : (.fieldLink RX1 27 "StoneDates$Finder" "year" "LStoneDates$Wheel;" : Cond) ∈ wsX1_scan := by decide +kernel
theorem hw_X1_scan_20a1a4 : (.fieldLink RX1 30 "StoneDates$Finder" "lunar" "LStoneDates$Wheel;" : Cond) ∈ wsX1_scan := by decide +kernel
set_option maxHeartbeats 4000000 in
set_option maxRecDepth 100000 in
theorem c_X1_scan (l : Launch) (G : GG) (h : Nat) (dA : Nat) (w1 : Nat) (w2 : Nat) (w3 : Nat) (w4 : Nat) (b1 : Nat) (b2 : Nat) (b3 : Nat) (b4 : Nat) (days : Int → Int) (kept : Int) (many : Int) (fr1 : Bool) (fr2 : Bool) (fr3 : Bool) (fr4 : Bool) (g1 : Int → Int64) (g2 : Int → Int64) (g3 : Int → Int64) (g4 : Int → Int64) (fm : Int) (b : Int) (st : Int → Int32) (pre : List Int) (h1 : WP 360 fr1 g1 (qInner (st 3) (st 4) (st 6) (st 9))) (h2 : WP 13 fr2 g2 (qThirteen (st 5))) (h3 : WP 365 fr3 g3 (qYear (st 7) (st 8))) (h4 : WP 4400 fr4 g4 (qLunar (st 10))) (hf : 1152000 ≤ fm ∧ fm ≤ 1583999 ∧ fm % 360 = 0) (hb0 : 0 ≤ b ∧ b < 4400) (hk0 : kept = m300 pre) (hm0 : many = (pre.length : Int)) (hd0 : FD days pre) (hpl : pre.length ≤ 500000) : Cv l yX1_scan wsX1_scan ({ frames := 2, cells := 0, slots := 0, locals := 48 }) G E0 [.ref h, .int (iz fm), .int (iz b)] [(h, .inr (0, [.ref dA, .int (iz kept), .int (iz many), .ref w1, .ref w2, .ref w3, .ref w4])), (dA, .inl (G.2 0, 300, .inl (av days))), (w1, .inr (5, [.int (iz 360), .ref b1, .int (zb fr1)])), (b1, .inl (G.2 2, 8, .inr (.inl (rv g1)))), (w2, .inr (5, [.int (iz 13), .ref b2, .int (zb fr2)])), (b2, .inl (G.2 2, 3, .inr (.inl (rv g2)))), (w3, .inr (5, [.int (iz 365), .ref b3, .int (zb fr3)])), (b3, .inl (G.2 2, 8, .inr (.inl (rv g3)))), (w4, .inr (5, [.int (iz 4400), .ref b4, .int (zb fr4)])), (b4, .inl (G.2 2, 71, .inr (.inl (rv g4))))] 0 0 (fun days2 : (Int → Int) => [(h, .inr (0, [.ref dA, .int (iz (m300 (pre ++ fl (fitI st b) fm 360))), .int (iz ((pre ++ fl (fitI st b) fm 360).length : Int)), .ref w1, .ref w2, .ref w3, .ref w4])), (dA, .inl (G.2 0, 300, .inl (av days2))), (w1, .inr (5, [.int (iz 360), .ref b1, .int (zb fr1)])), (b1, .inl (G.2 2, 8, .inr (.inl (rv g1)))), (w2, .inr (5, [.int (iz 13), .ref b2, .int (zb fr2)])), (b2, .inl (G.2 2, 3, .inr (.inl (rv g2)))), (w3, .inr (5, [.int (iz 365), .ref b3, .int (zb fr3)])), (b3, .inl (G.2 2, 8, .inr (.inl (rv g3)))), (w4, .inr (5, [.int (iz 4400), .ref b4, .int (zb fr4)])), (b4, .inl (G.2 2, 71, .inr (.inl (rv g4))))]) (fun (days2 : (Int → Int)) => FD days2 (pre ++ fl (fitI st b) fm 360)) := by
  refine Cv_intro (cc := cX1_scan) (maxL := 9) (ret := none) (by decide) rfl (Nat.le_of_ble_eq_true rfl) ?_
  intro p e s m below meth c A F hA hP hD hK hE ls hl
  have hX_ := F.1
  have hB_ := F.2.1
  have hts := F.2.2.2.2.2.1
  have hown := F.2.2.2.2.1
  have hml := F.2.2.2.1
  have hS : va_S A s.heap s.heap [] := va_S.rf
  have hl : lv_has ls 9 [(0, .ref h), (1, .int (iz fm)), (2, .int (iz b))] := hl
  refine lv_iload_n hX_ hB_ dX1_scan_0 rfl (lv_at hl 1 rfl) ?_
  refine zk_iconst hX_ hB_ dX1_scan_1 ?_
  refine zk_iadd hX_ hB_ dX1_scan_2 ?_
  refine lv_istore_n (lv' := [(3, .int (iz (fm + 3))), (0, .ref h), (1, .int (iz fm)), (2, .int (iz b))]) hX_ hB_ dX1_scan_3 rfl hl (by decide) rfl (fun ls hl => ?_)
  refine lv_iload_n hX_ hB_ dX1_scan_4 rfl (lv_at hl 2 rfl) ?_
  refine zk_sipush hX_ hB_ (by decide) dX1_scan_5 ?_
  refine zk_iadd hX_ hB_ dX1_scan_8 ?_
  refine lv_istore (lv' := [(4, .int (iz (fm + 348))), (3, .int (iz (fm + 3))), (0, .ref h), (1, .int (iz fm)), (2, .int (iz b))]) hX_ hB_ dX1_scan_9 hl (by decide) rfl (fun ls hl => ?_)
  refine lv_iload_n hX_ hB_ dX1_scan_11 rfl (lv_at hl 3 rfl) ?_
  refine lv_iload_n hX_ hB_ dX1_scan_12 rfl (lv_at hl 4 rfl) ?_
  refine zk_iadd hX_ hB_ dX1_scan_13 ?_
  refine lv_istore (lv' := [(5, .int (iz (fm + b))), (4, .int (iz (fm + 348))), (3, .int (iz (fm + 3))), (0, .ref h), (1, .int (iz fm)), (2, .int (iz b))]) hX_ hB_ dX1_scan_14 hl (by decide) rfl (fun ls hl => ?_)
  refine zk_iconst hX_ hB_ dX1_scan_16 ?_
  refine lv_istore (lv' := [(6, .int (iz 0)), (5, .int (iz (fm + b))), (4, .int (iz (fm + 348))), (3, .int (iz (fm + 3))), (0, .ref h), (1, .int (iz fm)), (2, .int (iz b))]) hX_ hB_ dX1_scan_17 hl (by decide) rfl (fun ls hl => ?_)
  have loop_19 : ∀ (n_19 : Nat), ∀ (i : Int) (kp : Int) (mn : Int) (dd : Int → Int), (0 ≤ i ∧ i ≤ 360 ∧ i % 60 = 0) → (kp = m300 (pre ++ fl (fitI st b) fm i.toNat)) → (mn = ((pre ++ fl (fitI st b) fm i.toNat).length : Int)) → (FD dd (pre ++ fl (fitI st b) fm i.toNat)) → ((360 - i).toNat < n_19) → ∀ (H : Heap) (locs : List Loc), va_P G.1 vwCl [(h, .inr (0, [.ref dA, .int (iz kp), .int (iz mn), .ref w1, .ref w2, .ref w3, .ref w4])), (dA, .inl (G.2 0, 300, .inl (av dd))), (w1, .inr (5, [.int (iz 360), .ref b1, .int (zb fr1)])), (b1, .inl (G.2 2, 8, .inr (.inl (rv g1)))), (w2, .inr (5, [.int (iz 13), .ref b2, .int (zb fr2)])), (b2, .inl (G.2 2, 3, .inr (.inl (rv g2)))), (w3, .inr (5, [.int (iz 365), .ref b3, .int (zb fr3)])), (b3, .inl (G.2 2, 8, .inr (.inl (rv g3)))), (w4, .inr (5, [.int (iz 4400), .ref b4, .int (zb fr4)])), (b4, .inl (G.2 2, 71, .inr (.inl (rv g4))))] H → va_D A [(h, .inr (0, [.ref dA, .int (iz kp), .int (iz mn), .ref w1, .ref w2, .ref w3, .ref w4])), (dA, .inl (G.2 0, 300, .inl (av dd))), (w1, .inr (5, [.int (iz 360), .ref b1, .int (zb fr1)])), (b1, .inl (G.2 2, 8, .inr (.inl (rv g1)))), (w2, .inr (5, [.int (iz 13), .ref b2, .int (zb fr2)])), (b2, .inl (G.2 2, 3, .inr (.inl (rv g2)))), (w3, .inr (5, [.int (iz 365), .ref b3, .int (zb fr3)])), (b3, .inl (G.2 2, 8, .inr (.inl (rv g3)))), (w4, .inr (5, [.int (iz 4400), .ref b4, .int (zb fr4)])), (b4, .inl (G.2 2, 71, .inr (.inl (rv g4))))] → va_S A s.heap H locs → ∀ ls : Array Slot, lv_has ls 9 [(0, .ref h), (1, .int (iz fm)), (2, .int (iz b)), (3, .int (iz (fm + 3))), (4, .int (iz (fm + 348))), (5, .int (iz (fm + b))), (6, .int (iz i))] → W p l e ({ frames := 2, cells := 0, slots := 0, locals := 48 }) s m ([.ref h, .int (iz fm), .int (iz b)] : List Value).toArray below meth c H locs 0 0 (MQ below (va_Qv (fun (days2 : (Int → Int)) => FD days2 (pre ++ fl (fitI st b) fm 360)) (fun u__ t__ => Pst G A ((fun days2 : (Int → Int) => [(h, .inr (0, [.ref dA, .int (iz (m300 (pre ++ fl (fitI st b) fm 360))), .int (iz ((pre ++ fl (fitI st b) fm 360).length : Int)), .ref w1, .ref w2, .ref w3, .ref w4])), (dA, .inl (G.2 0, 300, .inl (av days2))), (w1, .inr (5, [.int (iz 360), .ref b1, .int (zb fr1)])), (b1, .inl (G.2 2, 8, .inr (.inl (rv g1)))), (w2, .inr (5, [.int (iz 13), .ref b2, .int (zb fr2)])), (b2, .inl (G.2 2, 3, .inr (.inl (rv g2)))), (w3, .inr (5, [.int (iz 365), .ref b3, .int (zb fr3)])), (b3, .inl (G.2 2, 8, .inr (.inl (rv g3)))), (w4, .inr (5, [.int (iz 4400), .ref b4, .int (zb fr4)])), (b4, .inl (G.2 2, 71, .inr (.inl (rv g4))))]) u__) t__) A) ([.ref h, .int (iz fm), .int (iz b)] : List Value).toArray s 0 0 A) (F0 m 19 ls []) := by
    intro n_19
    induction n_19 with
    | zero =>
      intro i kp mn dd hi hk hmn hd hm H locs hP hD hS ls hl
      exact absurd hm (Nat.not_lt_zero _)
    | succ n_19 ih_19 =>
      intro i kp mn dd hi hk hmn hd hm H locs hP hD hS ls hl
      refine lv_iload hX_ hB_ dX1_scan_19 (lv_at hl 6 rfl) ?_
      refine zk_sipush hX_ hB_ (by decide) dX1_scan_21 ?_
      refine zk_icmp_ge (tgt := 128) hX_ hB_ (by omega) (by omega) dX1_scan_24 (by decide) (fun c_24 => ?_) (fun c_24 => ?_)
      · skip
        have e360 : i = 360 := by omega
        subst e360
        rw [hk, hmn] at hP hD
        exact fin_v (wf := (fun days2 : (Int → Int) => [(h, .inr (0, [.ref dA, .int (iz (m300 (pre ++ fl (fitI st b) fm 360))), .int (iz ((pre ++ fl (fitI st b) fm 360).length : Int)), .ref w1, .ref w2, .ref w3, .ref w4])), (dA, .inl (G.2 0, 300, .inl (av days2))), (w1, .inr (5, [.int (iz 360), .ref b1, .int (zb fr1)])), (b1, .inl (G.2 2, 8, .inr (.inl (rv g1)))), (w2, .inr (5, [.int (iz 13), .ref b2, .int (zb fr2)])), (b2, .inl (G.2 2, 3, .inr (.inl (rv g2)))), (w3, .inr (5, [.int (iz 365), .ref b3, .int (zb fr3)])), (b3, .inl (G.2 2, 8, .inr (.inl (rv g3)))), (w4, .inr (5, [.int (iz 4400), .ref b4, .int (zb fr4)])), (b4, .inl (G.2 2, 71, .inr (.inl (rv g4))))])) dd F hP hD hK hS (by decide) (by decide) dX1_scan_128 (by exact hd)
      · skip
        refine lv_aload_n hX_ hB_ dX1_scan_27 rfl (lv_at hl 0 rfl) ?_
        refine va_get (D := G.1) (ci := 0) (v := .ref w1) (C := RX1) (T := TX1) (N := 7) hX_ hB_ hts hi_X1_scan_X1 hown hK.1 hP 0 rfl rfl 3 (by decide) (hts _ hw_X1_scan_5ade71) (fun _ h9 => h9) rfl dX1_scan_28 ?_
        refine lv_iload hX_ hB_ dX1_scan_31 (lv_at hl 6 rfl) ?_
        refine back_l (wr := [(h, .inr (0, [.ref dA, .int (iz kp), .int (iz mn), .ref w1, .ref w2, .ref w3, .ref w4])), (dA, .inl (G.2 0, 300, .inl (av dd))), (w2, .inr (5, [.int (iz 13), .ref b2, .int (zb fr2)])), (b2, .inl (G.2 2, 3, .inr (.inl (rv g2)))), (w3, .inr (5, [.int (iz 365), .ref b3, .int (zb fr3)])), (b3, .inl (G.2 2, 8, .inr (.inl (rv g3)))), (w4, .inr (5, [.int (iz 4400), .ref b4, .int (zb fr4)])), (b4, .inl (G.2 2, 71, .inr (.inl (rv g4))))]) (run_V (As := [.int (iz i)]) (rest := []) (wc := [(w1, .inr (5, [.int (iz 360), .ref b1, .int (zb fr1)])), (b1, .inl (G.2 2, 8, .inr (.inl (rv g1))))]) F (c_X7_window l G w1 b1 8 360 g1 fr1 i (by omega) (by omega) (by omega) _) ext0 gX1_scan_X7_window rfl rfl rfl mdv_X7_window ⟨Nat.le_of_ble_eq_true rfl, Nat.le_of_ble_eq_true rfl⟩ (va_recv hK.1 (hP.sub (ws' := [(w1, .inr (5, [.int (iz 360), .ref b1, .int (zb fr1)])), (b1, .inl (G.2 2, 8, .inr (.inl (rv g1))))]) [2, 3] rfl) (ci := 5) (q0 := 0) rfl rfl) (pre_of ext0 hK hP hD hS hA trivial [2, 3] (by decide) rfl _) rfl hl.1 (Nat.le_of_ble_eq_true rfl) dX1_scan_33 ⟨by decide, by decide⟩) hP hD hS hA [2, 3] [0, 1, 4, 5, 6, 7, 8, 9] rfl rfl (by decide) (by decide) (fun r__ u__ H locs hw hP hD hS => ?_)
        have hw_33 := hw
        have hP := hP.sub (ws' := [(h, .inr (0, [.ref dA, .int (iz kp), .int (iz mn), .ref w1, .ref w2, .ref w3, .ref w4])), (dA, .inl (G.2 0, 300, .inl (av dd))), (w1, .inr (5, [.int (iz 360), .ref b1, .int (zb fr1)])), (b1, .inl (G.2 2, 8, .inr (.inl (rv g1)))), (w2, .inr (5, [.int (iz 13), .ref b2, .int (zb fr2)])), (b2, .inl (G.2 2, 3, .inr (.inl (rv g2)))), (w3, .inr (5, [.int (iz 365), .ref b3, .int (zb fr3)])), (b3, .inl (G.2 2, 8, .inr (.inl (rv g3)))), (w4, .inr (5, [.int (iz 4400), .ref b4, .int (zb fr4)])), (b4, .inl (G.2 2, 71, .inr (.inl (rv g4))))]) [0, 1, 8, 9, 2, 3, 4, 5, 6, 7] rfl
        have hD := hD.sub (ws' := [(h, .inr (0, [.ref dA, .int (iz kp), .int (iz mn), .ref w1, .ref w2, .ref w3, .ref w4])), (dA, .inl (G.2 0, 300, .inl (av dd))), (w1, .inr (5, [.int (iz 360), .ref b1, .int (zb fr1)])), (b1, .inl (G.2 2, 8, .inr (.inl (rv g1)))), (w2, .inr (5, [.int (iz 13), .ref b2, .int (zb fr2)])), (b2, .inl (G.2 2, 3, .inr (.inl (rv g2)))), (w3, .inr (5, [.int (iz 365), .ref b3, .int (zb fr3)])), (b3, .inl (G.2 2, 8, .inr (.inl (rv g3)))), (w4, .inr (5, [.int (iz 4400), .ref b4, .int (zb fr4)])), (b4, .inl (G.2 2, 71, .inr (.inl (rv g4))))]) [0, 1, 8, 9, 2, 3, 4, 5, 6, 7] (by decide) rfl
        obtain ⟨r1, rfl⟩ : ∃ z, z = r__ := ⟨_, rfl⟩
        refine lv_lstore (lv' := [(7, .long r1), (0, .ref h), (1, .int (iz fm)), (2, .int (iz b)), (3, .int (iz (fm + 3))), (4, .int (iz (fm + 348))), (5, .int (iz (fm + b))), (6, .int (iz i))]) hX_ hB_ dX1_scan_36 hl (by decide) rfl (fun ls hl => ?_)
        have join_98 : ∀ (x : Int64), (∀ j : Nat, j < 64 → x.toBitVec.getLsbD j = (decide (j < 60) && fitI st b (fm + i + j))) → ∀ (H : Heap) (locs : List Loc), va_P G.1 vwCl [(h, .inr (0, [.ref dA, .int (iz kp), .int (iz mn), .ref w1, .ref w2, .ref w3, .ref w4])), (dA, .inl (G.2 0, 300, .inl (av dd))), (w1, .inr (5, [.int (iz 360), .ref b1, .int (zb fr1)])), (b1, .inl (G.2 2, 8, .inr (.inl (rv g1)))), (w2, .inr (5, [.int (iz 13), .ref b2, .int (zb fr2)])), (b2, .inl (G.2 2, 3, .inr (.inl (rv g2)))), (w3, .inr (5, [.int (iz 365), .ref b3, .int (zb fr3)])), (b3, .inl (G.2 2, 8, .inr (.inl (rv g3)))), (w4, .inr (5, [.int (iz 4400), .ref b4, .int (zb fr4)])), (b4, .inl (G.2 2, 71, .inr (.inl (rv g4))))] H → va_D A [(h, .inr (0, [.ref dA, .int (iz kp), .int (iz mn), .ref w1, .ref w2, .ref w3, .ref w4])), (dA, .inl (G.2 0, 300, .inl (av dd))), (w1, .inr (5, [.int (iz 360), .ref b1, .int (zb fr1)])), (b1, .inl (G.2 2, 8, .inr (.inl (rv g1)))), (w2, .inr (5, [.int (iz 13), .ref b2, .int (zb fr2)])), (b2, .inl (G.2 2, 3, .inr (.inl (rv g2)))), (w3, .inr (5, [.int (iz 365), .ref b3, .int (zb fr3)])), (b3, .inl (G.2 2, 8, .inr (.inl (rv g3)))), (w4, .inr (5, [.int (iz 4400), .ref b4, .int (zb fr4)])), (b4, .inl (G.2 2, 71, .inr (.inl (rv g4))))] → va_S A s.heap H locs → ∀ ls : Array Slot, lv_has ls 9 [(0, .ref h), (1, .int (iz fm)), (2, .int (iz b)), (3, .int (iz (fm + 3))), (4, .int (iz (fm + 348))), (5, .int (iz (fm + b))), (6, .int (iz i)), (7, .long x)] → W p l e ({ frames := 2, cells := 0, slots := 0, locals := 48 }) s m ([.ref h, .int (iz fm), .int (iz b)] : List Value).toArray below meth c H locs 0 0 (MQ below (va_Qv (fun (days2 : (Int → Int)) => FD days2 (pre ++ fl (fitI st b) fm 360)) (fun u__ t__ => Pst G A ((fun days2 : (Int → Int) => [(h, .inr (0, [.ref dA, .int (iz (m300 (pre ++ fl (fitI st b) fm 360))), .int (iz ((pre ++ fl (fitI st b) fm 360).length : Int)), .ref w1, .ref w2, .ref w3, .ref w4])), (dA, .inl (G.2 0, 300, .inl (av days2))), (w1, .inr (5, [.int (iz 360), .ref b1, .int (zb fr1)])), (b1, .inl (G.2 2, 8, .inr (.inl (rv g1)))), (w2, .inr (5, [.int (iz 13), .ref b2, .int (zb fr2)])), (b2, .inl (G.2 2, 3, .inr (.inl (rv g2)))), (w3, .inr (5, [.int (iz 365), .ref b3, .int (zb fr3)])), (b3, .inl (G.2 2, 8, .inr (.inl (rv g3)))), (w4, .inr (5, [.int (iz 4400), .ref b4, .int (zb fr4)])), (b4, .inl (G.2 2, 71, .inr (.inl (rv g4))))]) u__) t__) A) ([.ref h, .int (iz fm), .int (iz b)] : List Value).toArray s 0 0 A) (F0 m 98 ls []) := by
          intro x hx H locs hP hD hS ls hl
          refine lv_aload_n hX_ hB_ dX1_scan_98 rfl (lv_at hl 0 rfl) ?_
          refine lv_dup hX_ hB_ dX1_scan_99 rfl ?_
          refine va_get (D := G.1) (ci := 0) (v := .int (iz mn)) (C := RX1) (T := TX1) (N := 7) hX_ hB_ hts hi_X1_scan_X1 hown hK.1 hP 0 rfl rfl 2 (by decide) (hts _ hw_X1_scan_4cc088) (fun _ h9 => h9) rfl dX1_scan_100 ?_
          refine lv_lload hX_ hB_ dX1_scan_103 (lv_at hl 7 rfl) ?_
          refine back_i (wr := [(h, .inr (0, [.ref dA, .int (iz kp), .int (iz mn), .ref w1, .ref w2, .ref w3, .ref w4])), (dA, .inl (G.2 0, 300, .inl (av dd))), (w1, .inr (5, [.int (iz 360), .ref b1, .int (zb fr1)])), (b1, .inl (G.2 2, 8, .inr (.inl (rv g1)))), (w2, .inr (5, [.int (iz 13), .ref b2, .int (zb fr2)])), (b2, .inl (G.2 2, 3, .inr (.inl (rv g2)))), (w3, .inr (5, [.int (iz 365), .ref b3, .int (zb fr3)])), (b3, .inl (G.2 2, 8, .inr (.inl (rv g3)))), (w4, .inr (5, [.int (iz 4400), .ref b4, .int (zb fr4)])), (b4, .inl (G.2 2, 71, .inr (.inl (rv g4))))]) (run_S (As := [.long x]) (rest := [.int (iz mn), .ref h]) (wc := []) F (c_J13_bitCount_95d88 l G x _) ext0 gX1_scan_J13_bitCount_95d88 rfl rfl rfl mds_J13_bitCount_95d88 ⟨Nat.le_of_ble_eq_true rfl, Nat.le_of_ble_eq_true rfl⟩ (pre_of ext0 hK hP hD hS hA trivial [] (by decide) rfl _) rfl hl.1 (Nat.le_of_ble_eq_true rfl) dX1_scan_105 ⟨by decide, by decide⟩) hP hD hS hA [] [0, 1, 2, 3, 4, 5, 6, 7, 8, 9] rfl rfl (by decide) (by decide) (fun r__ u__ H locs hw hP hD hS => ?_)
          subst hw
          have hP := hP.sub (ws' := [(h, .inr (0, [.ref dA, .int (iz kp), .int (iz mn), .ref w1, .ref w2, .ref w3, .ref w4])), (dA, .inl (G.2 0, 300, .inl (av dd))), (w1, .inr (5, [.int (iz 360), .ref b1, .int (zb fr1)])), (b1, .inl (G.2 2, 8, .inr (.inl (rv g1)))), (w2, .inr (5, [.int (iz 13), .ref b2, .int (zb fr2)])), (b2, .inl (G.2 2, 3, .inr (.inl (rv g2)))), (w3, .inr (5, [.int (iz 365), .ref b3, .int (zb fr3)])), (b3, .inl (G.2 2, 8, .inr (.inl (rv g3)))), (w4, .inr (5, [.int (iz 4400), .ref b4, .int (zb fr4)])), (b4, .inl (G.2 2, 71, .inr (.inl (rv g4))))]) [0, 1, 2, 3, 4, 5, 6, 7, 8, 9] rfl
          have hD := hD.sub (ws' := [(h, .inr (0, [.ref dA, .int (iz kp), .int (iz mn), .ref w1, .ref w2, .ref w3, .ref w4])), (dA, .inl (G.2 0, 300, .inl (av dd))), (w1, .inr (5, [.int (iz 360), .ref b1, .int (zb fr1)])), (b1, .inl (G.2 2, 8, .inr (.inl (rv g1)))), (w2, .inr (5, [.int (iz 13), .ref b2, .int (zb fr2)])), (b2, .inl (G.2 2, 3, .inr (.inl (rv g2)))), (w3, .inr (5, [.int (iz 365), .ref b3, .int (zb fr3)])), (b3, .inl (G.2 2, 8, .inr (.inl (rv g3)))), (w4, .inr (5, [.int (iz 4400), .ref b4, .int (zb fr4)])), (b4, .inl (G.2 2, 71, .inr (.inl (rv g4))))]) [0, 1, 2, 3, 4, 5, 6, 7, 8, 9] (by decide) rfl
          refine zk_iadd hX_ hB_ dX1_scan_108 ?_
          refine va_put (D := G.1) (ci := 0) (v := .int (iz (mn + ((cnt x.toBitVec.getLsbD 64 : Nat) : Int)))) (ty := .int) (C := RX1) (T := TX1) (N := 7) hX_ hB_ hts hi_X1_scan_X1 tyX1 tyX1_ok nmX1 hown hK.1 hP hD hS 0 rfl rfl 2 (by decide) (hts _ hw_X1_scan_4cc088) (fun _ h9 => h9) rfl (by decide +kernel) rfl rfl (Nat.le_of_ble_eq_true rfl) dX1_scan_109 (fun H locs hP hD hS => ?_)
          have hP : va_P G.1 vwCl [(h, .inr (0, [.ref dA, .int (iz kp), .int (iz (mn + ((cnt x.toBitVec.getLsbD 64 : Nat) : Int))), .ref w1, .ref w2, .ref w3, .ref w4])), (dA, .inl (G.2 0, 300, .inl (av dd))), (w1, .inr (5, [.int (iz 360), .ref b1, .int (zb fr1)])), (b1, .inl (G.2 2, 8, .inr (.inl (rv g1)))), (w2, .inr (5, [.int (iz 13), .ref b2, .int (zb fr2)])), (b2, .inl (G.2 2, 3, .inr (.inl (rv g2)))), (w3, .inr (5, [.int (iz 365), .ref b3, .int (zb fr3)])), (b3, .inl (G.2 2, 8, .inr (.inl (rv g3)))), (w4, .inr (5, [.int (iz 4400), .ref b4, .int (zb fr4)])), (b4, .inl (G.2 2, 71, .inr (.inl (rv g4))))] _ := hP
          have hD : va_D A [(h, .inr (0, [.ref dA, .int (iz kp), .int (iz (mn + ((cnt x.toBitVec.getLsbD 64 : Nat) : Int))), .ref w1, .ref w2, .ref w3, .ref w4])), (dA, .inl (G.2 0, 300, .inl (av dd))), (w1, .inr (5, [.int (iz 360), .ref b1, .int (zb fr1)])), (b1, .inl (G.2 2, 8, .inr (.inl (rv g1)))), (w2, .inr (5, [.int (iz 13), .ref b2, .int (zb fr2)])), (b2, .inl (G.2 2, 3, .inr (.inl (rv g2)))), (w3, .inr (5, [.int (iz 365), .ref b3, .int (zb fr3)])), (b3, .inl (G.2 2, 8, .inr (.inl (rv g3)))), (w4, .inr (5, [.int (iz 4400), .ref b4, .int (zb fr4)])), (b4, .inl (G.2 2, 71, .inr (.inl (rv g4))))] := hD
          refine lv_aload_n hX_ hB_ dX1_scan_112 rfl (lv_at hl 0 rfl) ?_
          refine lv_iload_n hX_ hB_ dX1_scan_113 rfl (lv_at hl 1 rfl) ?_
          refine lv_iload hX_ hB_ dX1_scan_114 (lv_at hl 6 rfl) ?_
          refine zk_iadd hX_ hB_ dX1_scan_116 ?_
          refine lv_lload hX_ hB_ dX1_scan_117 (lv_at hl 7 rfl) ?_
          refine back_v (wr := [(w1, .inr (5, [.int (iz 360), .ref b1, .int (zb fr1)])), (b1, .inl (G.2 2, 8, .inr (.inl (rv g1)))), (w2, .inr (5, [.int (iz 13), .ref b2, .int (zb fr2)])), (b2, .inl (G.2 2, 3, .inr (.inl (rv g2)))), (w3, .inr (5, [.int (iz 365), .ref b3, .int (zb fr3)])), (b3, .inl (G.2 2, 8, .inr (.inl (rv g3)))), (w4, .inr (5, [.int (iz 4400), .ref b4, .int (zb fr4)])), (b4, .inl (G.2 2, 71, .inr (.inl (rv g4))))]) (run_V (As := [.int (iz (fm + i)), .long x]) (rest := []) (wc := [(h, .inr (0, [.ref dA, .int (iz kp), .int (iz (mn + ((cnt x.toBitVec.getLsbD 64 : Nat) : Int))), .ref w1, .ref w2, .ref w3, .ref w4])), (dA, .inl (G.2 0, 300, .inl (av dd)))]) F (c_X1_keep l G h dA w1 w2 w3 w4 dd kp (mn + ((cnt x.toBitVec.getLsbD 64 : Nat) : Int)) (fm + i) x (pre ++ fl (fitI st b) fm i.toNat) (by exact hk) (by exact hd) (by omega) _) ext0 gX1_scan_X1_keep rfl rfl rfl mdv_X1_keep ⟨Nat.le_of_ble_eq_true rfl, Nat.le_of_ble_eq_true rfl⟩ (va_recv hK.1 (hP.sub (ws' := [(h, .inr (0, [.ref dA, .int (iz kp), .int (iz (mn + ((cnt x.toBitVec.getLsbD 64 : Nat) : Int))), .ref w1, .ref w2, .ref w3, .ref w4])), (dA, .inl (G.2 0, 300, .inl (av dd)))]) [0, 1] rfl) (ci := 0) (q0 := 0) rfl rfl) (pre_of ext0 hK hP hD hS hA trivial [0, 1] (by decide) rfl _) rfl hl.1 (Nat.le_of_ble_eq_true rfl) dX1_scan_119 ⟨by decide, by decide⟩) hP hD hS hA [0, 1] [2, 3, 4, 5, 6, 7, 8, 9] rfl rfl (by decide) (by decide) (fun u__ H locs hw hP hD hS => ?_)
          obtain ⟨days2_119, rfl⟩ : ∃ z, z = u__ := ⟨_, rfl⟩
          try dsimp only at hw hP hD
          have hw_119 := hw
          have hP := hP.sub (ws' := [(h, .inr (0, [.ref dA, .int (iz (m300 ((pre ++ fl (fitI st b) fm i.toNat) ++ fl (fun d => x.toBitVec.getLsbD (d - (fm + i)).toNat) (fm + i) 64))), .int (iz (mn + ((cnt x.toBitVec.getLsbD 64 : Nat) : Int))), .ref w1, .ref w2, .ref w3, .ref w4])), (dA, .inl (G.2 0, 300, .inl (av days2_119))), (w1, .inr (5, [.int (iz 360), .ref b1, .int (zb fr1)])), (b1, .inl (G.2 2, 8, .inr (.inl (rv g1)))), (w2, .inr (5, [.int (iz 13), .ref b2, .int (zb fr2)])), (b2, .inl (G.2 2, 3, .inr (.inl (rv g2)))), (w3, .inr (5, [.int (iz 365), .ref b3, .int (zb fr3)])), (b3, .inl (G.2 2, 8, .inr (.inl (rv g3)))), (w4, .inr (5, [.int (iz 4400), .ref b4, .int (zb fr4)])), (b4, .inl (G.2 2, 71, .inr (.inl (rv g4))))]) [8, 9, 0, 1, 2, 3, 4, 5, 6, 7] rfl
          have hD := hD.sub (ws' := [(h, .inr (0, [.ref dA, .int (iz (m300 ((pre ++ fl (fitI st b) fm i.toNat) ++ fl (fun d => x.toBitVec.getLsbD (d - (fm + i)).toNat) (fm + i) 64))), .int (iz (mn + ((cnt x.toBitVec.getLsbD 64 : Nat) : Int))), .ref w1, .ref w2, .ref w3, .ref w4])), (dA, .inl (G.2 0, 300, .inl (av days2_119))), (w1, .inr (5, [.int (iz 360), .ref b1, .int (zb fr1)])), (b1, .inl (G.2 2, 8, .inr (.inl (rv g1)))), (w2, .inr (5, [.int (iz 13), .ref b2, .int (zb fr2)])), (b2, .inl (G.2 2, 3, .inr (.inl (rv g2)))), (w3, .inr (5, [.int (iz 365), .ref b3, .int (zb fr3)])), (b3, .inl (G.2 2, 8, .inr (.inl (rv g3)))), (w4, .inr (5, [.int (iz 4400), .ref b4, .int (zb fr4)])), (b4, .inl (G.2 2, 71, .inr (.inl (rv g4))))]) [8, 9, 0, 1, 2, 3, 4, 5, 6, 7] (by decide) rfl
          refine lv_iinc (v := (iz (i + 60))) (lv' := [(6, .int (iz (i + 60))), (0, .ref h), (1, .int (iz fm)), (2, .int (iz b)), (3, .int (iz (fm + 3))), (4, .int (iz (fm + 348))), (5, .int (iz (fm + b))), (7, .long x)]) hX_ hB_ dX1_scan_122 hl (k := 6) rfl (iz_add _ _) (by decide) rfl (fun ls hl => ?_)
          refine lv_goto (tgt := 19) hX_ hB_ dX1_scan_125 (by decide) ?_
          obtain ⟨q1, q2⟩ := fl_bits (F := fitI st b) (a := fm + i) hx
          rw [q1, fl_60 hi.1] at hw_119
          exact ih_19 (i + 60) (m300 ((pre ++ fl (fitI st b) fm i.toNat) ++ fl (fun d => x.toBitVec.getLsbD (d - (fm + i)).toNat) (fm + i) 64)) (mn + ((cnt x.toBitVec.getLsbD 64 : Nat) : Int)) days2_119 (by omega) (by rw [q1, fl_60 hi.1]) (by rw [hmn, q2, ← fl_60 hi.1]; simp only [List.length_append]; omega) (by exact hw_119) (by omega) _ _ hP hD hS ls (lv_sub hl [1, 2, 3, 4, 5, 6, 0] rfl)
        refine lv_lload hX_ hB_ dX1_scan_38 (lv_at hl 0 rfl) ?_
        refine zk_lconst hX_ hB_ 0 (by decide) dX1_scan_40 ?_
        refine W.lcmp hX_ hB_ dX1_scan_41 ?_
        refine zk_lc_eq (tgt := 98) hX_ hB_ dX1_scan_42 (by decide) (fun c_42 => ?_) (fun c_42 => ?_)
        · skip
          exact join_98 r1 (by exact bits_none hf.2.2 hf.1 (by omega) h1 hw_33 c_42) _ _ hP hD hS ls (lv_sub hl [1, 2, 3, 4, 5, 6, 7, 0] rfl)
        · skip
          refine lv_lload hX_ hB_ dX1_scan_45 (lv_at hl 0 rfl) ?_
          refine lv_aload_n hX_ hB_ dX1_scan_47 rfl (lv_at hl 1 rfl) ?_
          refine va_get (D := G.1) (ci := 0) (v := .ref w2) (C := RX1) (T := TX1) (N := 7) hX_ hB_ hts hi_X1_scan_X1 hown hK.1 hP 0 rfl rfl 4 (by decide) (hts _ hw_X1_scan_acb36f) (fun _ h9 => h9) rfl dX1_scan_48 ?_
          refine lv_iload_n hX_ hB_ dX1_scan_51 rfl (lv_at hl 4 rfl) ?_
          refine lv_iload hX_ hB_ dX1_scan_52 (lv_at hl 7 rfl) ?_
          refine zk_iadd hX_ hB_ dX1_scan_54 ?_
          refine zk_bipush hX_ hB_ (by decide) dX1_scan_55 ?_
          refine zk_irem hX_ hB_ (by omega) (by omega) (by omega) (by omega) dX1_scan_57 ?_
          refine back_l (wr := [(h, .inr (0, [.ref dA, .int (iz kp), .int (iz mn), .ref w1, .ref w2, .ref w3, .ref w4])), (dA, .inl (G.2 0, 300, .inl (av dd))), (w1, .inr (5, [.int (iz 360), .ref b1, .int (zb fr1)])), (b1, .inl (G.2 2, 8, .inr (.inl (rv g1)))), (w3, .inr (5, [.int (iz 365), .ref b3, .int (zb fr3)])), (b3, .inl (G.2 2, 8, .inr (.inl (rv g3)))), (w4, .inr (5, [.int (iz 4400), .ref b4, .int (zb fr4)])), (b4, .inl (G.2 2, 71, .inr (.inl (rv g4))))]) (run_V (As := [.int (iz (((fm + 3) + i) % 13))]) (rest := [.long r1]) (wc := [(w2, .inr (5, [.int (iz 13), .ref b2, .int (zb fr2)])), (b2, .inl (G.2 2, 3, .inr (.inl (rv g2))))]) F (c_X7_window l G w2 b2 3 13 g2 fr2 (((fm + 3) + i) % 13) (by omega) (by omega) (by omega) _) ext0 gX1_scan_X7_window rfl rfl rfl mdv_X7_window ⟨Nat.le_of_ble_eq_true rfl, Nat.le_of_ble_eq_true rfl⟩ (va_recv hK.1 (hP.sub (ws' := [(w2, .inr (5, [.int (iz 13), .ref b2, .int (zb fr2)])), (b2, .inl (G.2 2, 3, .inr (.inl (rv g2))))]) [4, 5] rfl) (ci := 5) (q0 := 0) rfl rfl) (pre_of ext0 hK hP hD hS hA trivial [4, 5] (by decide) rfl _) rfl hl.1 (Nat.le_of_ble_eq_true rfl) dX1_scan_58 ⟨by decide, by decide⟩) hP hD hS hA [4, 5] [0, 1, 2, 3, 6, 7, 8, 9] rfl rfl (by decide) (by decide) (fun r__ u__ H locs hw hP hD hS => ?_)
          have hw_58 := hw
          have hP := hP.sub (ws' := [(h, .inr (0, [.ref dA, .int (iz kp), .int (iz mn), .ref w1, .ref w2, .ref w3, .ref w4])), (dA, .inl (G.2 0, 300, .inl (av dd))), (w1, .inr (5, [.int (iz 360), .ref b1, .int (zb fr1)])), (b1, .inl (G.2 2, 8, .inr (.inl (rv g1)))), (w2, .inr (5, [.int (iz 13), .ref b2, .int (zb fr2)])), (b2, .inl (G.2 2, 3, .inr (.inl (rv g2)))), (w3, .inr (5, [.int (iz 365), .ref b3, .int (zb fr3)])), (b3, .inl (G.2 2, 8, .inr (.inl (rv g3)))), (w4, .inr (5, [.int (iz 4400), .ref b4, .int (zb fr4)])), (b4, .inl (G.2 2, 71, .inr (.inl (rv g4))))]) [0, 1, 2, 3, 8, 9, 4, 5, 6, 7] rfl
          have hD := hD.sub (ws' := [(h, .inr (0, [.ref dA, .int (iz kp), .int (iz mn), .ref w1, .ref w2, .ref w3, .ref w4])), (dA, .inl (G.2 0, 300, .inl (av dd))), (w1, .inr (5, [.int (iz 360), .ref b1, .int (zb fr1)])), (b1, .inl (G.2 2, 8, .inr (.inl (rv g1)))), (w2, .inr (5, [.int (iz 13), .ref b2, .int (zb fr2)])), (b2, .inl (G.2 2, 3, .inr (.inl (rv g2)))), (w3, .inr (5, [.int (iz 365), .ref b3, .int (zb fr3)])), (b3, .inl (G.2 2, 8, .inr (.inl (rv g3)))), (w4, .inr (5, [.int (iz 4400), .ref b4, .int (zb fr4)])), (b4, .inl (G.2 2, 71, .inr (.inl (rv g4))))]) [0, 1, 2, 3, 8, 9, 4, 5, 6, 7] (by decide) rfl
          obtain ⟨r2, rfl⟩ : ∃ z, z = r__ := ⟨_, rfl⟩
          refine lv_aload_n hX_ hB_ dX1_scan_61 rfl (lv_at hl 1 rfl) ?_
          refine va_get (D := G.1) (ci := 0) (v := .ref w3) (C := RX1) (T := TX1) (N := 7) hX_ hB_ hts hi_X1_scan_X1 hown hK.1 hP 0 rfl rfl 5 (by decide) (hts _ hw_X1_scan_4ac8d0) (fun _ h9 => h9) rfl dX1_scan_62 ?_
          refine lv_iload hX_ hB_ dX1_scan_65 (lv_at hl 5 rfl) ?_
          refine lv_iload hX_ hB_ dX1_scan_67 (lv_at hl 7 rfl) ?_
          refine zk_iadd hX_ hB_ dX1_scan_69 ?_
          refine zk_sipush hX_ hB_ (by decide) dX1_scan_70 ?_
          refine zk_irem hX_ hB_ (by omega) (by omega) (by omega) (by omega) dX1_scan_73 ?_
          refine back_l (wr := [(h, .inr (0, [.ref dA, .int (iz kp), .int (iz mn), .ref w1, .ref w2, .ref w3, .ref w4])), (dA, .inl (G.2 0, 300, .inl (av dd))), (w1, .inr (5, [.int (iz 360), .ref b1, .int (zb fr1)])), (b1, .inl (G.2 2, 8, .inr (.inl (rv g1)))), (w2, .inr (5, [.int (iz 13), .ref b2, .int (zb fr2)])), (b2, .inl (G.2 2, 3, .inr (.inl (rv g2)))), (w4, .inr (5, [.int (iz 4400), .ref b4, .int (zb fr4)])), (b4, .inl (G.2 2, 71, .inr (.inl (rv g4))))]) (run_V (As := [.int (iz (((fm + 348) + i) % 365))]) (rest := [.long r2, .long r1]) (wc := [(w3, .inr (5, [.int (iz 365), .ref b3, .int (zb fr3)])), (b3, .inl (G.2 2, 8, .inr (.inl (rv g3))))]) F (c_X7_window l G w3 b3 8 365 g3 fr3 (((fm + 348) + i) % 365) (by omega) (by omega) (by omega) _) ext0 gX1_scan_X7_window rfl rfl rfl mdv_X7_window ⟨Nat.le_of_ble_eq_true rfl, Nat.le_of_ble_eq_true rfl⟩ (va_recv hK.1 (hP.sub (ws' := [(w3, .inr (5, [.int (iz 365), .ref b3, .int (zb fr3)])), (b3, .inl (G.2 2, 8, .inr (.inl (rv g3))))]) [6, 7] rfl) (ci := 5) (q0 := 0) rfl rfl) (pre_of ext0 hK hP hD hS hA trivial [6, 7] (by decide) rfl _) rfl hl.1 (Nat.le_of_ble_eq_true rfl) dX1_scan_74 ⟨by decide, by decide⟩) hP hD hS hA [6, 7] [0, 1, 2, 3, 4, 5, 8, 9] rfl rfl (by decide) (by decide) (fun r__ u__ H locs hw hP hD hS => ?_)
          have hw_74 := hw
          have hP := hP.sub (ws' := [(h, .inr (0, [.ref dA, .int (iz kp), .int (iz mn), .ref w1, .ref w2, .ref w3, .ref w4])), (dA, .inl (G.2 0, 300, .inl (av dd))), (w1, .inr (5, [.int (iz 360), .ref b1, .int (zb fr1)])), (b1, .inl (G.2 2, 8, .inr (.inl (rv g1)))), (w2, .inr (5, [.int (iz 13), .ref b2, .int (zb fr2)])), (b2, .inl (G.2 2, 3, .inr (.inl (rv g2)))), (w3, .inr (5, [.int (iz 365), .ref b3, .int (zb fr3)])), (b3, .inl (G.2 2, 8, .inr (.inl (rv g3)))), (w4, .inr (5, [.int (iz 4400), .ref b4, .int (zb fr4)])), (b4, .inl (G.2 2, 71, .inr (.inl (rv g4))))]) [0, 1, 2, 3, 4, 5, 8, 9, 6, 7] rfl
          have hD := hD.sub (ws' := [(h, .inr (0, [.ref dA, .int (iz kp), .int (iz mn), .ref w1, .ref w2, .ref w3, .ref w4])), (dA, .inl (G.2 0, 300, .inl (av dd))), (w1, .inr (5, [.int (iz 360), .ref b1, .int (zb fr1)])), (b1, .inl (G.2 2, 8, .inr (.inl (rv g1)))), (w2, .inr (5, [.int (iz 13), .ref b2, .int (zb fr2)])), (b2, .inl (G.2 2, 3, .inr (.inl (rv g2)))), (w3, .inr (5, [.int (iz 365), .ref b3, .int (zb fr3)])), (b3, .inl (G.2 2, 8, .inr (.inl (rv g3)))), (w4, .inr (5, [.int (iz 4400), .ref b4, .int (zb fr4)])), (b4, .inl (G.2 2, 71, .inr (.inl (rv g4))))]) [0, 1, 2, 3, 4, 5, 8, 9, 6, 7] (by decide) rfl
          obtain ⟨r3, rfl⟩ : ∃ z, z = r__ := ⟨_, rfl⟩
          refine lv_land hX_ hB_ dX1_scan_77 ?_
          refine lv_aload_n hX_ hB_ dX1_scan_78 rfl (lv_at hl 1 rfl) ?_
          refine va_get (D := G.1) (ci := 0) (v := .ref w4) (C := RX1) (T := TX1) (N := 7) hX_ hB_ hts hi_X1_scan_X1 hown hK.1 hP 0 rfl rfl 6 (by decide) (hts _ hw_X1_scan_20a1a4) (fun _ h9 => h9) rfl dX1_scan_79 ?_
          refine lv_iload hX_ hB_ dX1_scan_82 (lv_at hl 6 rfl) ?_
          refine lv_iload hX_ hB_ dX1_scan_84 (lv_at hl 7 rfl) ?_
          refine zk_iadd hX_ hB_ dX1_scan_86 ?_
          refine zk_sipush hX_ hB_ (by decide) dX1_scan_87 ?_
          refine zk_irem hX_ hB_ (by omega) (by omega) (by omega) (by omega) dX1_scan_90 ?_
          refine back_l (wr := [(h, .inr (0, [.ref dA, .int (iz kp), .int (iz mn), .ref w1, .ref w2, .ref w3, .ref w4])), (dA, .inl (G.2 0, 300, .inl (av dd))), (w1, .inr (5, [.int (iz 360), .ref b1, .int (zb fr1)])), (b1, .inl (G.2 2, 8, .inr (.inl (rv g1)))), (w2, .inr (5, [.int (iz 13), .ref b2, .int (zb fr2)])), (b2, .inl (G.2 2, 3, .inr (.inl (rv g2)))), (w3, .inr (5, [.int (iz 365), .ref b3, .int (zb fr3)])), (b3, .inl (G.2 2, 8, .inr (.inl (rv g3))))]) (run_V (As := [.int (iz (((fm + b) + i) % 4400))]) (rest := [.long (r2 &&& r3), .long r1]) (wc := [(w4, .inr (5, [.int (iz 4400), .ref b4, .int (zb fr4)])), (b4, .inl (G.2 2, 71, .inr (.inl (rv g4))))]) F (c_X7_window l G w4 b4 71 4400 g4 fr4 (((fm + b) + i) % 4400) (by omega) (by omega) (by omega) _) ext0 gX1_scan_X7_window rfl rfl rfl mdv_X7_window ⟨Nat.le_of_ble_eq_true rfl, Nat.le_of_ble_eq_true rfl⟩ (va_recv hK.1 (hP.sub (ws' := [(w4, .inr (5, [.int (iz 4400), .ref b4, .int (zb fr4)])), (b4, .inl (G.2 2, 71, .inr (.inl (rv g4))))]) [8, 9] rfl) (ci := 5) (q0 := 0) rfl rfl) (pre_of ext0 hK hP hD hS hA trivial [8, 9] (by decide) rfl _) rfl hl.1 (Nat.le_of_ble_eq_true rfl) dX1_scan_91 ⟨by decide, by decide⟩) hP hD hS hA [8, 9] [0, 1, 2, 3, 4, 5, 6, 7] rfl rfl (by decide) (by decide) (fun r__ u__ H locs hw hP hD hS => ?_)
          have hw_91 := hw
          have hP := hP.sub (ws' := [(h, .inr (0, [.ref dA, .int (iz kp), .int (iz mn), .ref w1, .ref w2, .ref w3, .ref w4])), (dA, .inl (G.2 0, 300, .inl (av dd))), (w1, .inr (5, [.int (iz 360), .ref b1, .int (zb fr1)])), (b1, .inl (G.2 2, 8, .inr (.inl (rv g1)))), (w2, .inr (5, [.int (iz 13), .ref b2, .int (zb fr2)])), (b2, .inl (G.2 2, 3, .inr (.inl (rv g2)))), (w3, .inr (5, [.int (iz 365), .ref b3, .int (zb fr3)])), (b3, .inl (G.2 2, 8, .inr (.inl (rv g3)))), (w4, .inr (5, [.int (iz 4400), .ref b4, .int (zb fr4)])), (b4, .inl (G.2 2, 71, .inr (.inl (rv g4))))]) [0, 1, 2, 3, 4, 5, 6, 7, 8, 9] rfl
          have hD := hD.sub (ws' := [(h, .inr (0, [.ref dA, .int (iz kp), .int (iz mn), .ref w1, .ref w2, .ref w3, .ref w4])), (dA, .inl (G.2 0, 300, .inl (av dd))), (w1, .inr (5, [.int (iz 360), .ref b1, .int (zb fr1)])), (b1, .inl (G.2 2, 8, .inr (.inl (rv g1)))), (w2, .inr (5, [.int (iz 13), .ref b2, .int (zb fr2)])), (b2, .inl (G.2 2, 3, .inr (.inl (rv g2)))), (w3, .inr (5, [.int (iz 365), .ref b3, .int (zb fr3)])), (b3, .inl (G.2 2, 8, .inr (.inl (rv g3)))), (w4, .inr (5, [.int (iz 4400), .ref b4, .int (zb fr4)])), (b4, .inl (G.2 2, 71, .inr (.inl (rv g4))))]) [0, 1, 2, 3, 4, 5, 6, 7, 8, 9] (by decide) rfl
          obtain ⟨r4, rfl⟩ : ∃ z, z = r__ := ⟨_, rfl⟩
          refine lv_land hX_ hB_ dX1_scan_94 ?_
          refine lv_land hX_ hB_ dX1_scan_95 ?_
          refine lv_lstore (lv' := [(7, .long (r1 &&& ((r2 &&& r3) &&& r4))), (0, .ref h), (1, .int (iz fm)), (2, .int (iz b)), (3, .int (iz (fm + 3))), (4, .int (iz (fm + 348))), (5, .int (iz (fm + b))), (6, .int (iz i))]) hX_ hB_ dX1_scan_96 hl (by decide) rfl (fun ls hl => ?_)
          exact join_98 (r1 &&& ((r2 &&& r3) &&& r4)) (by exact bits_all hf.2.2 hf.1 (by omega) h1 h2 h3 h4 hw_33 hw_58 hw_74 hw_91) _ _ hP hD hS ls (lv_sub hl [1, 2, 3, 4, 5, 6, 7, 0] rfl)
  exact loop_19 _ 0 kept many days (by omega) (by rw [hk0]; simp [fl]) (by rw [hm0]; simp [fl]) (by simpa [fl] using hd0) (Nat.lt_succ_self _) _ _ hP hD hS ls (lv_sub hl [4, 5, 6, 3, 2, 1, 0] rfl)
