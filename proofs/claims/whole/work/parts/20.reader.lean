/-! the reading of a text, as a value: bytes bt, length n, from the place a on -/
def skF (bt : Int → Int) (n : Int) : Nat → Int → Int
  | 0, a => a
  | k + 1, a => if a < n ∧ bt a = 32 then skF bt n k (a + 1) else a
/-- behind blanks -/
def sk (bt : Int → Int) (n a : Int) : Int := skF bt n (n - a).toNat a
theorem sk_stop {bt : Int → Int} {n a : Int} (h : ¬ (a < n ∧ bt a = 32)) : sk bt n a = a := by
  unfold sk
  cases (n - a).toNat with
  | zero => rfl
  | succ k => unfold skF; rw [if_neg h]
theorem sk_step {bt : Int → Int} {n a : Int} (h : a < n) (h2 : bt a = 32) : sk bt n a = sk bt n (a + 1) := by
  unfold sk
  rw [show (n - a).toNat = (n - (a + 1)).toNat + 1 from by omega]
  show (if a < n ∧ bt a = 32 then _ else _) = _
  rw [if_pos ⟨h, h2⟩]
theorem skF_rng {bt : Int → Int} {n : Int} : ∀ (k : Nat) (a : Int), a ≤ n → a ≤ skF bt n k a ∧ skF bt n k a ≤ n
  | 0, a, h => ⟨Int.le_refl _, h⟩
  | k + 1, a, h => by
    unfold skF
    by_cases q : a < n ∧ bt a = 32
    · rw [if_pos q]
      have := skF_rng (bt := bt) (n := n) k (a + 1) (by omega)
      omega
    · rw [if_neg q]
      omega
theorem sk_rng {bt : Int → Int} {n a : Int} (h : a ≤ n) : a ≤ sk bt n a ∧ sk bt n a ≤ n := skF_rng _ a h
theorem skF_end {bt : Int → Int} {n : Int} : ∀ (k : Nat) (a : Int), n - a ≤ k → ¬ (skF bt n k a < n ∧ bt (skF bt n k a) = 32)
  | 0, a, h => by
    show ¬ (a < n ∧ _)
    omega
  | k + 1, a, h => by
    unfold skF
    by_cases q : a < n ∧ bt a = 32
    · rw [if_pos q]
      exact skF_end k (a + 1) (by omega)
    · rw [if_neg q]
      exact q
theorem sk_end {bt : Int → Int} {n a : Int} : ¬ (sk bt n a < n ∧ bt (sk bt n a) = 32) := skF_end _ a (by omega)
theorem sk_sk {bt : Int → Int} {n a : Int} : sk bt n (sk bt n a) = sk bt n a := sk_stop sk_end
def dg (bt : Int → Int) (n a : Int) : Bool := decide (a < n ∧ 48 ≤ bt a ∧ bt a ≤ 57)
def tkB (bt : Int → Int) (n c a : Int) : Bool := decide (sk bt n a < n ∧ bt (sk bt n a) = c)
def tkP (bt : Int → Int) (n c a : Int) : Int := if tkB bt n c a then sk bt n a + 1 else sk bt n a
theorem tkP_rng {bt : Int → Int} {n c a : Int} (h : a ≤ n) : a ≤ tkP bt n c a ∧ tkP bt n c a ≤ n := by
  have h1 := sk_rng (bt := bt) h
  unfold tkP
  by_cases q : tkB bt n c a = true
  · rw [if_pos q]
    unfold tkB at q
    have := of_decide_eq_true q
    omega
  · rw [if_neg q]
    exact h1
def nOk (bt : Int → Int) (n a : Int) : Bool := dg bt n (sk bt n a) && !(dg bt n (sk bt n a + 1) && dg bt n (sk bt n a + 2))
def nP (bt : Int → Int) (n a : Int) : Int := if dg bt n (sk bt n a) then (if dg bt n (sk bt n a + 1) then sk bt n a + 2 else sk bt n a + 1) else sk bt n a
def nV (bt : Int → Int) (n a : Int) : Int := if dg bt n (sk bt n a + 1) then 10 * (bt (sk bt n a) - 48) + (bt (sk bt n a + 1) - 48) else bt (sk bt n a) - 48
theorem nP_rng {bt : Int → Int} {n a : Int} (h : a ≤ n) : a ≤ nP bt n a ∧ nP bt n a ≤ n := by
  have h1 := sk_rng (bt := bt) h
  unfold nP
  by_cases q : dg bt n (sk bt n a) = true
  · rw [if_pos q]
    have q2 := of_decide_eq_true q
    by_cases q3 : dg bt n (sk bt n a + 1) = true
    · rw [if_pos q3]
      have q4 := of_decide_eq_true q3
      omega
    · rw [if_neg q3]
      omega
  · rw [if_neg q]
    exact h1
theorem nV_rng {bt : Int → Int} {n a : Int} (h : nOk bt n a = true) : 0 ≤ nV bt n a ∧ nV bt n a ≤ 99 := by
  unfold nOk at h
  have h1 : dg bt n (sk bt n a) = true := by
    cases q : dg bt n (sk bt n a) with
    | true => rfl
    | false => rw [q] at h; cases h
  have h2 := of_decide_eq_true h1
  unfold nV
  by_cases q3 : dg bt n (sk bt n a + 1) = true
  · rw [if_pos q3]
    have q4 := of_decide_eq_true q3
    omega
  · rw [if_neg q3]
    omega
/-- a range: whether it stands, where it ends or fails, from, to -/
def rQ (bt : Int → Int) (n a : Int) : Int := tkP bt n 45 (nP bt n a)
def rB (bt : Int → Int) (n a : Int) : Bool := tkB bt n 45 (nP bt n a)
def rOk (bt : Int → Int) (n a : Int) : Bool := nOk bt n a && (!rB bt n a || (nOk bt n (rQ bt n a) && !decide (nV bt n (rQ bt n a) < nV bt n a)))
def rP (bt : Int → Int) (n a : Int) : Int := if nOk bt n a then (if rB bt n a then (if nOk bt n (rQ bt n a) then (if nV bt n (rQ bt n a) < nV bt n a then sk bt n (rQ bt n a) else nP bt n (rQ bt n a)) else nP bt n (rQ bt n a)) else rQ bt n a) else nP bt n a
def rH (bt : Int → Int) (n a : Int) : Int := if rB bt n a then nV bt n (rQ bt n a) else nV bt n a
theorem rP_rng {bt : Int → Int} {n a : Int} (h : a ≤ n) : a ≤ rP bt n a ∧ rP bt n a ≤ n := by
  have h1 := nP_rng (bt := bt) h
  have h2 := tkP_rng (bt := bt) (c := 45) h1.2
  have h3 := nP_rng (bt := bt) h2.2
  have h4 := sk_rng (bt := bt) h2.2
  unfold rP
  repeat' split
  all_goals (unfold rQ at *; omega)
theorem num_bad {bt : Int → Int} {len at_ a v : Int} (hi : sk bt len at_ ≤ a ∧ a ≤ sk bt len at_ + 2 ∧ a ≤ len) (hv : (a = sk bt len at_ ∧ v = 0) ∨ (a = sk bt len at_ + 1 ∧ dg bt len (sk bt len at_) = true ∧ v = bt (sk bt len at_) - 48) ∨ (a = sk bt len at_ + 2 ∧ dg bt len (sk bt len at_) = true ∧ dg bt len (sk bt len at_ + 1) = true ∧ v = 10 * (bt (sk bt len at_) - 48) + (bt (sk bt len at_ + 1) - 48)))
    (h : a = sk bt len at_ ∨ (a ≠ sk bt len at_ ∧ dg bt len a = true)) (hx : dg bt len a = false ∨ 2 ≤ a - sk bt len at_) : nOk bt len at_ = false ∧ nP bt len at_ = a := by
  unfold nOk nP
  rcases hv with ⟨q1, q2⟩ | ⟨q1, q2, q3⟩ | ⟨q1, q2, q3, q4⟩
  · have hd : dg bt len (sk bt len at_) = false := by
      rcases hx with hx | hx
      · rw [← q1]; exact hx
      · omega
    rw [hd]
    exact ⟨rfl, q1.symm⟩
  · exfalso
    rcases h with h | ⟨h, h2⟩
    · omega
    · rcases hx with hx | hx
      · rw [hx] at h2; cases h2
      · omega
  · rcases h with h | ⟨h, h2⟩
    · omega
    · rw [q1] at h2
      rw [q2, q3, h2]
      exact ⟨rfl, q1.symm⟩
theorem num_ok {bt : Int → Int} {len at_ a v : Int} (hi : sk bt len at_ ≤ a ∧ a ≤ sk bt len at_ + 2 ∧ a ≤ len) (hv : (a = sk bt len at_ ∧ v = 0) ∨ (a = sk bt len at_ + 1 ∧ dg bt len (sk bt len at_) = true ∧ v = bt (sk bt len at_) - 48) ∨ (a = sk bt len at_ + 2 ∧ dg bt len (sk bt len at_) = true ∧ dg bt len (sk bt len at_ + 1) = true ∧ v = 10 * (bt (sk bt len at_) - 48) + (bt (sk bt len at_ + 1) - 48)))
    (h : a ≠ sk bt len at_) (h2 : dg bt len a = false) (hx : dg bt len a = false ∨ 2 ≤ a - sk bt len at_) : nOk bt len at_ = true ∧ nP bt len at_ = a ∧ nV bt len at_ = v := by
  unfold nOk nP nV
  rcases hv with ⟨q1, q2⟩ | ⟨q1, q2, q3⟩ | ⟨q1, q2, q3, q4⟩
  · exact absurd q1 h
  · rw [q1] at h2
    rw [q2, h2]
    exact ⟨rfl, q1.symm, q3.symm⟩
  · rw [q1] at h2
    rw [q2, q3, h2]
    exact ⟨rfl, q1.symm, q4.symm⟩

theorem hw_X4_hasRoom_494a85 : (.fieldLink RX4 18 "StoneDates$Reader" "size" "I" : Cond) ∈ wsX4_hasRoom := by decide +kernel
theorem hi_X4_hasRoom_X4 : ∀ w ∈ u_ws RX4 TX4 7, w ∈ wsX4_hasRoom := by decide +kernel
set_option maxHeartbeats 4000000 in
set_option maxRecDepth 100000 in
theorem c_X4_hasRoom (l : Launch) (G : GG) (h : Nat) (sA : Nat) (bA : Nat) (st : Int → Int32) (size : Int) (fault : Int) (len : Int) (at_ : Int) (heard : Int32) (bt : Int → Int) (hs : 0 ≤ size ∧ size ≤ 200) : Ci l yX4_hasRoom wsX4_hasRoom ({ frames := 0, cells := 0, slots := 0, locals := 0 }) G E0 [.ref h] [(h, .inr (2, [.ref sA, .int (iz size), .int (iz fault), .ref bA, .int (iz len), .int (iz at_), .int heard])), (sA, .inl (G.2 0, 11, .inl (rv st))), (bA, .inl (G.2 0, 200, .inl (av bt)))] 0 0 (fun _ : Unit => [(h, .inr (2, [.ref sA, .int (iz size), .int (iz fault), .ref bA, .int (iz len), .int (iz at_), .int heard])), (sA, .inl (G.2 0, 11, .inl (rv st))), (bA, .inl (G.2 0, 200, .inl (av bt)))]) (fun (r : Int32) (_ : Unit) => r = (zb (decide (size + 20 ≤ 200)))) := by
  refine Ci_intro (cc := cX4_hasRoom) (maxL := 1) (ret := (some .boolean)) (by decide) rfl (Nat.le_of_ble_eq_true rfl) ?_
  intro p e s m below meth c A F hA hP hD hK hE ls hl
  have hX_ := F.1
  have hB_ := F.2.1
  have hts := F.2.2.2.2.2.1
  have hown := F.2.2.2.2.1
  have hml := F.2.2.2.1
  have hS : va_S A s.heap s.heap [] := va_S.rf
  have hl : lv_has ls 1 [(0, .ref h)] := hl
  refine lv_aload_n hX_ hB_ dX4_hasRoom_0 rfl (lv_at hl 0 rfl) ?_
  refine va_get (D := G.1) (ci := 2) (v := .int (iz size)) (C := RX4) (T := TX4) (N := 7) hX_ hB_ hts hi_X4_hasRoom_X4 hown hK.1 hP 0 rfl rfl 1 (by decide) (hts _ hw_X4_hasRoom_494a85) (fun _ h9 => h9) rfl dX4_hasRoom_1 ?_
  refine zk_bipush hX_ hB_ (by decide) dX4_hasRoom_4 ?_
  refine zk_iadd hX_ hB_ dX4_hasRoom_6 ?_
  refine zk_sipush hX_ hB_ (by decide) dX4_hasRoom_7 ?_
  refine zk_icmp_gt (tgt := 17) hX_ hB_ (by omega) (by omega) dX4_hasRoom_10 (by decide) (fun c_10 => ?_) (fun c_10 => ?_)
  · skip
    refine zk_iconst hX_ hB_ dX4_hasRoom_17 ?_
    refine zk_topi (y := zb false) rfl ?_
    exact fin_i (wf := (fun _ : Unit => [(h, .inr (2, [.ref sA, .int (iz size), .int (iz fault), .ref bA, .int (iz len), .int (iz at_), .int heard])), (sA, .inl (G.2 0, 11, .inl (rv st))), (bA, .inl (G.2 0, 200, .inl (av bt)))])) () F (zb_nar _) hP hD hK hS (by decide) (by decide) dX4_hasRoom_18 (by refine congrArg zb ?_; simp; omega)
  · skip
    refine zk_iconst hX_ hB_ dX4_hasRoom_13 ?_
    refine lv_goto (tgt := 18) hX_ hB_ dX4_hasRoom_14 (by decide) ?_
    refine zk_topi (y := zb true) rfl ?_
    exact fin_i (wf := (fun _ : Unit => [(h, .inr (2, [.ref sA, .int (iz size), .int (iz fault), .ref bA, .int (iz len), .int (iz at_), .int heard])), (sA, .inl (G.2 0, 11, .inl (rv st))), (bA, .inl (G.2 0, 200, .inl (av bt)))])) () F (zb_nar _) hP hD hK hS (by decide) (by decide) dX4_hasRoom_18 (by refine congrArg zb ?_; simp; omega)

theorem hw_X4_skipBlanks_3794a9 : (.fieldLink RX4 34 "StoneDates$Reader" "at" "I" : Cond) ∈ wsX4_skipBlanks := by decide +kernel
theorem hi_X4_skipBlanks_X4 : ∀ w ∈ u_ws RX4 TX4 7, w ∈ wsX4_skipBlanks := by decide +kernel
theorem hw_X4_skipBlanks_e883ac : (.fieldLink RX4 31 "StoneDates$Reader" "length" "I" : Cond) ∈ wsX4_skipBlanks := by decide +kernel
theorem hw_X4_skipBlanks_932782 : (.fieldLink RX4 15 "StoneDates$Reader" "bytes" "[I" : Cond) ∈ wsX4_skipBlanks := by decide +kernel
set_option maxHeartbeats 4000000 in
set_option maxRecDepth 100000 in
theorem c_X4_skipBlanks (l : Launch) (G : GG) (h : Nat) (sA : Nat) (bA : Nat) (st : Int → Int32) (size : Int) (fault : Int) (len : Int) (at_ : Int) (heard : Int32) (bt : Int → Int) (ha : 0 ≤ at_ ∧ at_ ≤ len ∧ len ≤ 200) (hB : ∀ k : Int, 0 ≤ bt k ∧ bt k ≤ 255) : Cv l yX4_skipBlanks wsX4_skipBlanks ({ frames := 0, cells := 0, slots := 0, locals := 0 }) G E0 [.ref h] [(h, .inr (2, [.ref sA, .int (iz size), .int (iz fault), .ref bA, .int (iz len), .int (iz at_), .int heard])), (sA, .inl (G.2 0, 11, .inl (rv st))), (bA, .inl (G.2 0, 200, .inl (av bt)))] 0 0 (fun _ : Unit => [(h, .inr (2, [.ref sA, .int (iz size), .int (iz fault), .ref bA, .int (iz len), .int (iz (sk bt len at_)), .int heard])), (sA, .inl (G.2 0, 11, .inl (rv st))), (bA, .inl (G.2 0, 200, .inl (av bt)))]) (fun (_ : Unit) => True) := by
  refine Cv_intro (cc := cX4_skipBlanks) (maxL := 1) (ret := none) (by decide) rfl (Nat.le_of_ble_eq_true rfl) ?_
  intro p e s m below meth c A F hA hP hD hK hE ls hl
  have hX_ := F.1
  have hB_ := F.2.1
  have hts := F.2.2.2.2.2.1
  have hown := F.2.2.2.2.1
  have hml := F.2.2.2.1
  have hS : va_S A s.heap s.heap [] := va_S.rf
  have hl : lv_has ls 1 [(0, .ref h)] := hl
  have loop_0 : ∀ (n_0 : Nat), ∀ (a : Int), (0 ≤ a ∧ a ≤ len) → (sk bt len at_ = sk bt len a) → ((len - a).toNat < n_0) → ∀ (H : Heap) (locs : List Loc), va_P G.1 vwCl [(h, .inr (2, [.ref sA, .int (iz size), .int (iz fault), .ref bA, .int (iz len), .int (iz a), .int heard])), (sA, .inl (G.2 0, 11, .inl (rv st))), (bA, .inl (G.2 0, 200, .inl (av bt)))] H → va_D A [(h, .inr (2, [.ref sA, .int (iz size), .int (iz fault), .ref bA, .int (iz len), .int (iz a), .int heard])), (sA, .inl (G.2 0, 11, .inl (rv st))), (bA, .inl (G.2 0, 200, .inl (av bt)))] → va_S A s.heap H locs → ∀ ls : Array Slot, lv_has ls 1 [(0, .ref h)] → W p l e ({ frames := 0, cells := 0, slots := 0, locals := 0 }) s m ([.ref h] : List Value).toArray below meth c H locs 0 0 (MQ below (va_Qv (fun (_ : Unit) => True) (fun u__ t__ => Pst G A ((fun _ : Unit => [(h, .inr (2, [.ref sA, .int (iz size), .int (iz fault), .ref bA, .int (iz len), .int (iz (sk bt len at_)), .int heard])), (sA, .inl (G.2 0, 11, .inl (rv st))), (bA, .inl (G.2 0, 200, .inl (av bt)))]) u__) t__) A) ([.ref h] : List Value).toArray s 0 0 A) (F0 m 0 ls []) := by
    intro n_0
    induction n_0 with
    | zero =>
      intro a hi hs hm H locs hP hD hS ls hl
      exact absurd hm (Nat.not_lt_zero _)
    | succ n_0 ih_0 =>
      intro a hi hs hm H locs hP hD hS ls hl
      refine lv_aload_n hX_ hB_ dX4_skipBlanks_0 rfl (lv_at hl 0 rfl) ?_
      refine va_get (D := G.1) (ci := 2) (v := .int (iz a)) (C := RX4) (T := TX4) (N := 7) hX_ hB_ hts hi_X4_skipBlanks_X4 hown hK.1 hP 0 rfl rfl 5 (by decide) (hts _ hw_X4_skipBlanks_3794a9) (fun _ h9 => h9) rfl dX4_skipBlanks_1 ?_
      refine lv_aload_n hX_ hB_ dX4_skipBlanks_4 rfl (lv_at hl 0 rfl) ?_
      refine va_get (D := G.1) (ci := 2) (v := .int (iz len)) (C := RX4) (T := TX4) (N := 7) hX_ hB_ hts hi_X4_skipBlanks_X4 hown hK.1 hP 0 rfl rfl 4 (by decide) (hts _ hw_X4_skipBlanks_e883ac) (fun _ h9 => h9) rfl dX4_skipBlanks_5 ?_
      refine zk_icmp_ge (tgt := 38) hX_ hB_ (by omega) (by omega) dX4_skipBlanks_8 (by decide) (fun c_8 => ?_) (fun c_8 => ?_)
      · skip
        rw [show a = sk bt len at_ from by rw [hs]; exact (sk_stop (by omega)).symm] at hP hD
        exact fin_v (wf := (fun _ : Unit => [(h, .inr (2, [.ref sA, .int (iz size), .int (iz fault), .ref bA, .int (iz len), .int (iz (sk bt len at_)), .int heard])), (sA, .inl (G.2 0, 11, .inl (rv st))), (bA, .inl (G.2 0, 200, .inl (av bt)))])) () F hP hD hK hS (by decide) (by decide) dX4_skipBlanks_38 trivial
      · skip
        refine lv_aload_n hX_ hB_ dX4_skipBlanks_11 rfl (lv_at hl 0 rfl) ?_
        refine va_get (D := G.1) (ci := 2) (v := .ref bA) (C := RX4) (T := TX4) (N := 7) hX_ hB_ hts hi_X4_skipBlanks_X4 hown hK.1 hP 0 rfl rfl 3 (by decide) (hts _ hw_X4_skipBlanks_932782) (fun _ h9 => h9) rfl dX4_skipBlanks_12 ?_
        refine lv_aload_n hX_ hB_ dX4_skipBlanks_15 rfl (lv_at hl 0 rfl) ?_
        refine va_get (D := G.1) (ci := 2) (v := .int (iz a)) (C := RX4) (T := TX4) (N := 7) hX_ hB_ hts hi_X4_skipBlanks_X4 hown hK.1 hP 0 rfl rfl 5 (by decide) (hts _ hw_X4_skipBlanks_3794a9) (fun _ h9 => h9) rfl dX4_skipBlanks_16 ?_
        have hBa := hB a
        refine zk_iald hX_ hB_ hK.1 hP 2 0 rfl rfl (by omega) (by decide) dX4_skipBlanks_19 ?_
        refine zk_bipush hX_ hB_ (by decide) dX4_skipBlanks_20 ?_
        refine zk_icmp_ne (tgt := 38) hX_ hB_ (by omega) (by omega) dX4_skipBlanks_22 (by decide) (fun c_22 => ?_) (fun c_22 => ?_)
        · skip
          rw [show a = sk bt len at_ from by rw [hs]; exact (sk_stop (fun q => c_22 q.2)).symm] at hP hD
          exact fin_v (wf := (fun _ : Unit => [(h, .inr (2, [.ref sA, .int (iz size), .int (iz fault), .ref bA, .int (iz len), .int (iz (sk bt len at_)), .int heard])), (sA, .inl (G.2 0, 11, .inl (rv st))), (bA, .inl (G.2 0, 200, .inl (av bt)))])) () F hP hD hK hS (by decide) (by decide) dX4_skipBlanks_38 trivial
        · skip
          refine lv_aload_n hX_ hB_ dX4_skipBlanks_25 rfl (lv_at hl 0 rfl) ?_
          refine lv_dup hX_ hB_ dX4_skipBlanks_26 rfl ?_
          refine va_get (D := G.1) (ci := 2) (v := .int (iz a)) (C := RX4) (T := TX4) (N := 7) hX_ hB_ hts hi_X4_skipBlanks_X4 hown hK.1 hP 0 rfl rfl 5 (by decide) (hts _ hw_X4_skipBlanks_3794a9) (fun _ h9 => h9) rfl dX4_skipBlanks_27 ?_
          refine zk_iconst hX_ hB_ dX4_skipBlanks_30 ?_
          refine zk_iadd hX_ hB_ dX4_skipBlanks_31 ?_
          refine va_put (D := G.1) (ci := 2) (v := .int (iz (a + 1))) (ty := .int) (C := RX4) (T := TX4) (N := 7) hX_ hB_ hts hi_X4_skipBlanks_X4 tyX4 tyX4_ok nmX4 hown hK.1 hP hD hS 0 rfl rfl 5 (by decide) (hts _ hw_X4_skipBlanks_3794a9) (fun _ h9 => h9) rfl (by decide +kernel) rfl rfl (Nat.le_of_ble_eq_true rfl) dX4_skipBlanks_32 (fun H locs hP hD hS => ?_)
          have hP : va_P G.1 vwCl [(h, .inr (2, [.ref sA, .int (iz size), .int (iz fault), .ref bA, .int (iz len), .int (iz (a + 1)), .int heard])), (sA, .inl (G.2 0, 11, .inl (rv st))), (bA, .inl (G.2 0, 200, .inl (av bt)))] _ := hP
          have hD : va_D A [(h, .inr (2, [.ref sA, .int (iz size), .int (iz fault), .ref bA, .int (iz len), .int (iz (a + 1)), .int heard])), (sA, .inl (G.2 0, 11, .inl (rv st))), (bA, .inl (G.2 0, 200, .inl (av bt)))] := hD
          refine lv_goto (tgt := 0) hX_ hB_ dX4_skipBlanks_35 (by decide) ?_
          exact ih_0 (a + 1) (by omega) (by rw [hs]; exact sk_step c_8 c_22) (by omega) _ _ hP hD hS ls (lv_sub hl [0] rfl)
  exact loop_0 _ at_ (by omega) (by rfl) (Nat.lt_succ_self _) _ _ hP hD hS ls (lv_sub hl [0] rfl)

theorem hw_X4_isDigitAt_e883ac : (.fieldLink RX4 31 "StoneDates$Reader" "length" "I" : Cond) ∈ wsX4_isDigitAt := by decide +kernel
theorem hi_X4_isDigitAt_X4 : ∀ w ∈ u_ws RX4 TX4 7, w ∈ wsX4_isDigitAt := by decide +kernel
theorem hw_X4_isDigitAt_932782 : (.fieldLink RX4 15 "StoneDates$Reader" "bytes" "[I" : Cond) ∈ wsX4_isDigitAt := by decide +kernel
set_option maxHeartbeats 4000000 in
set_option maxRecDepth 100000 in
theorem c_X4_isDigitAt (l : Launch) (G : GG) (h : Nat) (sA : Nat) (bA : Nat) (st : Int → Int32) (size : Int) (fault : Int) (len : Int) (at_ : Int) (heard : Int32) (bt : Int → Int) (x : Int) (hx0 : 0 ≤ x ∧ x ≤ 1000) (hl0 : 0 ≤ len ∧ len ≤ 200) (hB : ∀ k : Int, 0 ≤ bt k ∧ bt k ≤ 255) : Ci l yX4_isDigitAt wsX4_isDigitAt ({ frames := 0, cells := 0, slots := 0, locals := 0 }) G E0 [.ref h, .int (iz x)] [(h, .inr (2, [.ref sA, .int (iz size), .int (iz fault), .ref bA, .int (iz len), .int (iz at_), .int heard])), (sA, .inl (G.2 0, 11, .inl (rv st))), (bA, .inl (G.2 0, 200, .inl (av bt)))] 0 0 (fun _ : Unit => [(h, .inr (2, [.ref sA, .int (iz size), .int (iz fault), .ref bA, .int (iz len), .int (iz at_), .int heard])), (sA, .inl (G.2 0, 11, .inl (rv st))), (bA, .inl (G.2 0, 200, .inl (av bt)))]) (fun (r : Int32) (_ : Unit) => r = (zb (dg bt len x))) := by
  refine Ci_intro (cc := cX4_isDigitAt) (maxL := 2) (ret := (some .boolean)) (by decide) rfl (Nat.le_of_ble_eq_true rfl) ?_
  intro p e s m below meth c A F hA hP hD hK hE ls hl
  have hX_ := F.1
  have hB_ := F.2.1
  have hts := F.2.2.2.2.2.1
  have hown := F.2.2.2.2.1
  have hml := F.2.2.2.1
  have hS : va_S A s.heap s.heap [] := va_S.rf
  have hl : lv_has ls 2 [(0, .ref h), (1, .int (iz x))] := hl
  refine lv_iload_n hX_ hB_ dX4_isDigitAt_0 rfl (lv_at hl 1 rfl) ?_
  refine lv_aload_n hX_ hB_ dX4_isDigitAt_1 rfl (lv_at hl 0 rfl) ?_
  refine va_get (D := G.1) (ci := 2) (v := .int (iz len)) (C := RX4) (T := TX4) (N := 7) hX_ hB_ hts hi_X4_isDigitAt_X4 hown hK.1 hP 0 rfl rfl 4 (by decide) (hts _ hw_X4_isDigitAt_e883ac) (fun _ h9 => h9) rfl dX4_isDigitAt_2 ?_
  refine zk_icmp_ge (tgt := 34) hX_ hB_ (by omega) (by omega) dX4_isDigitAt_5 (by decide) (fun c_5 => ?_) (fun c_5 => ?_)
  · skip
    refine zk_iconst hX_ hB_ dX4_isDigitAt_34 ?_
    refine zk_topi (y := zb false) rfl ?_
    exact fin_i (wf := (fun _ : Unit => [(h, .inr (2, [.ref sA, .int (iz size), .int (iz fault), .ref bA, .int (iz len), .int (iz at_), .int heard])), (sA, .inl (G.2 0, 11, .inl (rv st))), (bA, .inl (G.2 0, 200, .inl (av bt)))])) () F (zb_nar _) hP hD hK hS (by decide) (by decide) dX4_isDigitAt_35 (by refine congrArg zb ?_; unfold dg; simp; omega)
  · skip
    have hBx := hB x
    refine lv_aload_n hX_ hB_ dX4_isDigitAt_8 rfl (lv_at hl 0 rfl) ?_
    refine va_get (D := G.1) (ci := 2) (v := .ref bA) (C := RX4) (T := TX4) (N := 7) hX_ hB_ hts hi_X4_isDigitAt_X4 hown hK.1 hP 0 rfl rfl 3 (by decide) (hts _ hw_X4_isDigitAt_932782) (fun _ h9 => h9) rfl dX4_isDigitAt_9 ?_
    refine lv_iload_n hX_ hB_ dX4_isDigitAt_12 rfl (lv_at hl 1 rfl) ?_
    refine zk_iald hX_ hB_ hK.1 hP 2 0 rfl rfl (by omega) (by decide) dX4_isDigitAt_13 ?_
    refine zk_bipush hX_ hB_ (by decide) dX4_isDigitAt_14 ?_
    refine zk_icmp_lt (tgt := 34) hX_ hB_ (by omega) (by omega) dX4_isDigitAt_16 (by decide) (fun c_16 => ?_) (fun c_16 => ?_)
    · skip
      refine zk_iconst hX_ hB_ dX4_isDigitAt_34 ?_
      refine zk_topi (y := zb false) rfl ?_
      exact fin_i (wf := (fun _ : Unit => [(h, .inr (2, [.ref sA, .int (iz size), .int (iz fault), .ref bA, .int (iz len), .int (iz at_), .int heard])), (sA, .inl (G.2 0, 11, .inl (rv st))), (bA, .inl (G.2 0, 200, .inl (av bt)))])) () F (zb_nar _) hP hD hK hS (by decide) (by decide) dX4_isDigitAt_35 (by refine congrArg zb ?_; unfold dg; simp; omega)
    · skip
      refine lv_aload_n hX_ hB_ dX4_isDigitAt_19 rfl (lv_at hl 0 rfl) ?_
      refine va_get (D := G.1) (ci := 2) (v := .ref bA) (C := RX4) (T := TX4) (N := 7) hX_ hB_ hts hi_X4_isDigitAt_X4 hown hK.1 hP 0 rfl rfl 3 (by decide) (hts _ hw_X4_isDigitAt_932782) (fun _ h9 => h9) rfl dX4_isDigitAt_20 ?_
      refine lv_iload_n hX_ hB_ dX4_isDigitAt_23 rfl (lv_at hl 1 rfl) ?_
      refine zk_iald hX_ hB_ hK.1 hP 2 0 rfl rfl (by omega) (by decide) dX4_isDigitAt_24 ?_
      refine zk_bipush hX_ hB_ (by decide) dX4_isDigitAt_25 ?_
      refine zk_icmp_gt (tgt := 34) hX_ hB_ (by omega) (by omega) dX4_isDigitAt_27 (by decide) (fun c_27 => ?_) (fun c_27 => ?_)
      · skip
        refine zk_iconst hX_ hB_ dX4_isDigitAt_34 ?_
        refine zk_topi (y := zb false) rfl ?_
        exact fin_i (wf := (fun _ : Unit => [(h, .inr (2, [.ref sA, .int (iz size), .int (iz fault), .ref bA, .int (iz len), .int (iz at_), .int heard])), (sA, .inl (G.2 0, 11, .inl (rv st))), (bA, .inl (G.2 0, 200, .inl (av bt)))])) () F (zb_nar _) hP hD hK hS (by decide) (by decide) dX4_isDigitAt_35 (by refine congrArg zb ?_; unfold dg; simp; omega)
      · skip
        refine zk_iconst hX_ hB_ dX4_isDigitAt_30 ?_
        refine lv_goto (tgt := 35) hX_ hB_ dX4_isDigitAt_31 (by decide) ?_
        refine zk_topi (y := zb true) rfl ?_
        exact fin_i (wf := (fun _ : Unit => [(h, .inr (2, [.ref sA, .int (iz size), .int (iz fault), .ref bA, .int (iz len), .int (iz at_), .int heard])), (sA, .inl (G.2 0, 11, .inl (rv st))), (bA, .inl (G.2 0, 200, .inl (av bt)))])) () F (zb_nar _) hP hD hK hS (by decide) (by decide) dX4_isDigitAt_35 (by refine congrArg zb ?_; unfold dg; simp; omega)

theorem hw_X4_refuse_b3bdd1 : (.fieldLink RX4 113 "StoneDates$Reader" "fault" "I" : Cond) ∈ wsX4_refuse := by decide +kernel
theorem hi_X4_refuse_X4 : ∀ w ∈ u_ws RX4 TX4 7, w ∈ wsX4_refuse := by decide +kernel
set_option maxHeartbeats 4000000 in
set_option maxRecDepth 100000 in
theorem c_X4_refuse (l : Launch) (G : GG) (h : Nat) (sA : Nat) (bA : Nat) (st : Int → Int32) (size : Int) (fault : Int) (len : Int) (at_ : Int) (heard : Int32) (bt : Int → Int) (x : Int) : Ci l yX4_refuse wsX4_refuse ({ frames := 0, cells := 0, slots := 0, locals := 0 }) G E0 [.ref h, .int (iz x)] [(h, .inr (2, [.ref sA, .int (iz size), .int (iz fault), .ref bA, .int (iz len), .int (iz at_), .int heard])), (sA, .inl (G.2 0, 11, .inl (rv st))), (bA, .inl (G.2 0, 200, .inl (av bt)))] 0 0 (fun _ : Unit => [(h, .inr (2, [.ref sA, .int (iz size), .int (iz x), .ref bA, .int (iz len), .int (iz at_), .int heard])), (sA, .inl (G.2 0, 11, .inl (rv st))), (bA, .inl (G.2 0, 200, .inl (av bt)))]) (fun (r : Int32) (_ : Unit) => r = (zb false)) := by
  refine Ci_intro (cc := cX4_refuse) (maxL := 2) (ret := (some .boolean)) (by decide) rfl (Nat.le_of_ble_eq_true rfl) ?_
  intro p e s m below meth c A F hA hP hD hK hE ls hl
  have hX_ := F.1
  have hB_ := F.2.1
  have hts := F.2.2.2.2.2.1
  have hown := F.2.2.2.2.1
  have hml := F.2.2.2.1
  have hS : va_S A s.heap s.heap [] := va_S.rf
  have hl : lv_has ls 2 [(0, .ref h), (1, .int (iz x))] := hl
  refine lv_aload_n hX_ hB_ dX4_refuse_0 rfl (lv_at hl 0 rfl) ?_
  refine lv_iload_n hX_ hB_ dX4_refuse_1 rfl (lv_at hl 1 rfl) ?_
  refine va_put (D := G.1) (ci := 2) (v := .int (iz x)) (ty := .int) (C := RX4) (T := TX4) (N := 7) hX_ hB_ hts hi_X4_refuse_X4 tyX4 tyX4_ok nmX4 hown hK.1 hP hD hS 0 rfl rfl 2 (by decide) (hts _ hw_X4_refuse_b3bdd1) (fun _ h9 => h9) rfl (by decide +kernel) rfl rfl (Nat.le_of_ble_eq_true rfl) dX4_refuse_2 (fun H locs hP hD hS => ?_)
  have hP : va_P G.1 vwCl [(h, .inr (2, [.ref sA, .int (iz size), .int (iz x), .ref bA, .int (iz len), .int (iz at_), .int heard])), (sA, .inl (G.2 0, 11, .inl (rv st))), (bA, .inl (G.2 0, 200, .inl (av bt)))] _ := hP
  have hD : va_D A [(h, .inr (2, [.ref sA, .int (iz size), .int (iz x), .ref bA, .int (iz len), .int (iz at_), .int heard])), (sA, .inl (G.2 0, 11, .inl (rv st))), (bA, .inl (G.2 0, 200, .inl (av bt)))] := hD
  refine zk_iconst hX_ hB_ dX4_refuse_5 ?_
  refine zk_topi (y := zb false) rfl ?_
  exact fin_i (wf := (fun _ : Unit => [(h, .inr (2, [.ref sA, .int (iz size), .int (iz x), .ref bA, .int (iz len), .int (iz at_), .int heard])), (sA, .inl (G.2 0, 11, .inl (rv st))), (bA, .inl (G.2 0, 200, .inl (av bt)))])) () F (zb_nar _) hP hD hK hS (by decide) (by decide) dX4_refuse_6 rfl

theorem mdv_X4_skipBlanks : yX4_skipBlanks.cls = RX4 ∧ yX4_skipBlanks.cls ≠ "java/lang/invoke/MethodHandle" ∧ yX4_skipBlanks.cls ≠ "java/lang/invoke/VarHandle" ∧ (parseMethodDescriptor yX4_skipBlanks.desc).map (fun d => d.parameters.length) = some 0 := by decide +kernel
theorem hw_X4_takes_3794a9 : (.fieldLink RX4 34 "StoneDates$Reader" "at" "I" : Cond) ∈ wsX4_takes := by decide +kernel
theorem hi_X4_takes_X4 : ∀ w ∈ u_ws RX4 TX4 7, w ∈ wsX4_takes := by decide +kernel
theorem hw_X4_takes_e883ac : (.fieldLink RX4 31 "StoneDates$Reader" "length" "I" : Cond) ∈ wsX4_takes := by decide +kernel
theorem hw_X4_takes_932782 : (.fieldLink RX4 15 "StoneDates$Reader" "bytes" "[I" : Cond) ∈ wsX4_takes := by decide +kernel
set_option maxHeartbeats 4000000 in
set_option maxRecDepth 100000 in
theorem c_X4_takes (l : Launch) (G : GG) (h : Nat) (sA : Nat) (bA : Nat) (st : Int → Int32) (size : Int) (fault : Int) (len : Int) (at_ : Int) (heard : Int32) (bt : Int → Int) (x : Int) (ha : 0 ≤ at_ ∧ at_ ≤ len ∧ len ≤ 200) (hB : ∀ k : Int, 0 ≤ bt k ∧ bt k ≤ 255) (hc : 0 ≤ x ∧ x ≤ 65535) : Ci l yX4_takes wsX4_takes ({ frames := 1, cells := 0, slots := 0, locals := 20 }) G E0 [.ref h, .int (iz x)] [(h, .inr (2, [.ref sA, .int (iz size), .int (iz fault), .ref bA, .int (iz len), .int (iz at_), .int heard])), (sA, .inl (G.2 0, 11, .inl (rv st))), (bA, .inl (G.2 0, 200, .inl (av bt)))] 0 0 (fun _ : Unit => [(h, .inr (2, [.ref sA, .int (iz size), .int (iz fault), .ref bA, .int (iz len), .int (iz (tkP bt len x at_)), .int heard])), (sA, .inl (G.2 0, 11, .inl (rv st))), (bA, .inl (G.2 0, 200, .inl (av bt)))]) (fun (r : Int32) (_ : Unit) => r = (zb (tkB bt len x at_))) := by
  refine Ci_intro (cc := cX4_takes) (maxL := 2) (ret := (some .boolean)) (by decide) rfl (Nat.le_of_ble_eq_true rfl) ?_
  intro p e s m below meth c A F hA hP hD hK hE ls hl
  have hX_ := F.1
  have hB_ := F.2.1
  have hts := F.2.2.2.2.2.1
  have hown := F.2.2.2.2.1
  have hml := F.2.2.2.1
  have hS : va_S A s.heap s.heap [] := va_S.rf
  have hl : lv_has ls 2 [(0, .ref h), (1, .int (iz x))] := hl
  refine lv_aload_n hX_ hB_ dX4_takes_0 rfl (lv_at hl 0 rfl) ?_
  refine back_v (wr := []) (run_V (As := []) (rest := []) (wc := [(h, .inr (2, [.ref sA, .int (iz size), .int (iz fault), .ref bA, .int (iz len), .int (iz at_), .int heard])), (sA, .inl (G.2 0, 11, .inl (rv st))), (bA, .inl (G.2 0, 200, .inl (av bt)))]) F (c_X4_skipBlanks l G h sA bA st size fault len at_ heard bt (by omega) (by omega) _) ext0 gX4_takes_X4_skipBlanks rfl rfl rfl mdv_X4_skipBlanks ⟨Nat.le_of_ble_eq_true rfl, Nat.le_of_ble_eq_true rfl⟩ (va_recv hK.1 (hP.sub (ws' := [(h, .inr (2, [.ref sA, .int (iz size), .int (iz fault), .ref bA, .int (iz len), .int (iz at_), .int heard])), (sA, .inl (G.2 0, 11, .inl (rv st))), (bA, .inl (G.2 0, 200, .inl (av bt)))]) [0, 1, 2] rfl) (ci := 2) (q0 := 0) rfl rfl) (pre_of ext0 hK hP hD hS hA trivial [0, 1, 2] (by decide) rfl _) rfl hl.1 (Nat.le_of_ble_eq_true rfl) dX4_takes_1 ⟨by decide, by decide⟩) hP hD hS hA [0, 1, 2] [] rfl rfl (by decide) (by decide) (fun u__ H locs hw hP hD hS => ?_)
  have hw_1 := hw
  have hP := hP.sub (ws' := [(h, .inr (2, [.ref sA, .int (iz size), .int (iz fault), .ref bA, .int (iz len), .int (iz (sk bt len at_)), .int heard])), (sA, .inl (G.2 0, 11, .inl (rv st))), (bA, .inl (G.2 0, 200, .inl (av bt)))]) [0, 1, 2] rfl
  have hD := hD.sub (ws' := [(h, .inr (2, [.ref sA, .int (iz size), .int (iz fault), .ref bA, .int (iz len), .int (iz (sk bt len at_)), .int heard])), (sA, .inl (G.2 0, 11, .inl (rv st))), (bA, .inl (G.2 0, 200, .inl (av bt)))]) [0, 1, 2] (by decide) rfl
  have hsk := sk_rng (bt := bt) (a := at_) (n := len) (by omega)
  refine lv_aload_n hX_ hB_ dX4_takes_4 rfl (lv_at hl 0 rfl) ?_
  refine va_get (D := G.1) (ci := 2) (v := .int (iz (sk bt len at_))) (C := RX4) (T := TX4) (N := 7) hX_ hB_ hts hi_X4_takes_X4 hown hK.1 hP 0 rfl rfl 5 (by decide) (hts _ hw_X4_takes_3794a9) (fun _ h9 => h9) rfl dX4_takes_5 ?_
  refine lv_aload_n hX_ hB_ dX4_takes_8 rfl (lv_at hl 0 rfl) ?_
  refine va_get (D := G.1) (ci := 2) (v := .int (iz len)) (C := RX4) (T := TX4) (N := 7) hX_ hB_ hts hi_X4_takes_X4 hown hK.1 hP 0 rfl rfl 4 (by decide) (hts _ hw_X4_takes_e883ac) (fun _ h9 => h9) rfl dX4_takes_9 ?_
  refine zk_icmp_ge (tgt := 40) hX_ hB_ (by omega) (by omega) dX4_takes_12 (by decide) (fun c_12 => ?_) (fun c_12 => ?_)
  · skip
    refine zk_iconst hX_ hB_ dX4_takes_40 ?_
    have e1 : tkB bt len x at_ = false := decide_eq_false (by omega)
    have e2 : tkP bt len x at_ = sk bt len at_ := by unfold tkP; rw [e1]; rfl
    refine zk_topi (y := zb false) rfl ?_
    exact fin_i (wf := (fun _ : Unit => [(h, .inr (2, [.ref sA, .int (iz size), .int (iz fault), .ref bA, .int (iz len), .int (iz (tkP bt len x at_)), .int heard])), (sA, .inl (G.2 0, 11, .inl (rv st))), (bA, .inl (G.2 0, 200, .inl (av bt)))])) () F (zb_nar _) (by (try dsimp only); rw [e2]; exact hP) (by (try dsimp only); rw [e2]; exact hD) hK hS (by decide) (by decide) dX4_takes_41 (by rw [e1])
  · skip
    have hBs := hB (sk bt len at_)
    refine lv_aload_n hX_ hB_ dX4_takes_15 rfl (lv_at hl 0 rfl) ?_
    refine va_get (D := G.1) (ci := 2) (v := .ref bA) (C := RX4) (T := TX4) (N := 7) hX_ hB_ hts hi_X4_takes_X4 hown hK.1 hP 0 rfl rfl 3 (by decide) (hts _ hw_X4_takes_932782) (fun _ h9 => h9) rfl dX4_takes_16 ?_
    refine lv_aload_n hX_ hB_ dX4_takes_19 rfl (lv_at hl 0 rfl) ?_
    refine va_get (D := G.1) (ci := 2) (v := .int (iz (sk bt len at_))) (C := RX4) (T := TX4) (N := 7) hX_ hB_ hts hi_X4_takes_X4 hown hK.1 hP 0 rfl rfl 5 (by decide) (hts _ hw_X4_takes_3794a9) (fun _ h9 => h9) rfl dX4_takes_20 ?_
    refine zk_iald hX_ hB_ hK.1 hP 2 0 rfl rfl (by omega) (by decide) dX4_takes_23 ?_
    refine lv_iload_n hX_ hB_ dX4_takes_24 rfl (lv_at hl 1 rfl) ?_
    refine zk_icmp_ne (tgt := 40) hX_ hB_ (by omega) (by omega) dX4_takes_25 (by decide) (fun c_25 => ?_) (fun c_25 => ?_)
    · skip
      refine zk_iconst hX_ hB_ dX4_takes_40 ?_
      have e1 : tkB bt len x at_ = false := decide_eq_false (by omega)
      have e2 : tkP bt len x at_ = sk bt len at_ := by unfold tkP; rw [e1]; rfl
      refine zk_topi (y := zb false) rfl ?_
      exact fin_i (wf := (fun _ : Unit => [(h, .inr (2, [.ref sA, .int (iz size), .int (iz fault), .ref bA, .int (iz len), .int (iz (tkP bt len x at_)), .int heard])), (sA, .inl (G.2 0, 11, .inl (rv st))), (bA, .inl (G.2 0, 200, .inl (av bt)))])) () F (zb_nar _) (by (try dsimp only); rw [e2]; exact hP) (by (try dsimp only); rw [e2]; exact hD) hK hS (by decide) (by decide) dX4_takes_41 (by rw [e1])
    · skip
      refine lv_aload_n hX_ hB_ dX4_takes_28 rfl (lv_at hl 0 rfl) ?_
      refine lv_dup hX_ hB_ dX4_takes_29 rfl ?_
      refine va_get (D := G.1) (ci := 2) (v := .int (iz (sk bt len at_))) (C := RX4) (T := TX4) (N := 7) hX_ hB_ hts hi_X4_takes_X4 hown hK.1 hP 0 rfl rfl 5 (by decide) (hts _ hw_X4_takes_3794a9) (fun _ h9 => h9) rfl dX4_takes_30 ?_
      refine zk_iconst hX_ hB_ dX4_takes_33 ?_
      refine zk_iadd hX_ hB_ dX4_takes_34 ?_
      refine va_put (D := G.1) (ci := 2) (v := .int (iz ((sk bt len at_) + 1))) (ty := .int) (C := RX4) (T := TX4) (N := 7) hX_ hB_ hts hi_X4_takes_X4 tyX4 tyX4_ok nmX4 hown hK.1 hP hD hS 0 rfl rfl 5 (by decide) (hts _ hw_X4_takes_3794a9) (fun _ h9 => h9) rfl (by decide +kernel) rfl rfl (Nat.le_of_ble_eq_true rfl) dX4_takes_35 (fun H locs hP hD hS => ?_)
      have hP : va_P G.1 vwCl [(h, .inr (2, [.ref sA, .int (iz size), .int (iz fault), .ref bA, .int (iz len), .int (iz ((sk bt len at_) + 1)), .int heard])), (sA, .inl (G.2 0, 11, .inl (rv st))), (bA, .inl (G.2 0, 200, .inl (av bt)))] _ := hP
      have hD : va_D A [(h, .inr (2, [.ref sA, .int (iz size), .int (iz fault), .ref bA, .int (iz len), .int (iz ((sk bt len at_) + 1)), .int heard])), (sA, .inl (G.2 0, 11, .inl (rv st))), (bA, .inl (G.2 0, 200, .inl (av bt)))] := hD
      refine zk_iconst hX_ hB_ dX4_takes_38 ?_
      have e1 : tkB bt len x at_ = true := decide_eq_true ⟨c_12, c_25⟩
      have e2 : tkP bt len x at_ = sk bt len at_ + 1 := by unfold tkP; rw [if_pos e1]
      refine zk_topi (y := zb true) rfl ?_
      exact fin_i (wf := (fun _ : Unit => [(h, .inr (2, [.ref sA, .int (iz size), .int (iz fault), .ref bA, .int (iz len), .int (iz (tkP bt len x at_)), .int heard])), (sA, .inl (G.2 0, 11, .inl (rv st))), (bA, .inl (G.2 0, 200, .inl (av bt)))])) () F (zb_nar _) (by (try dsimp only); rw [e2]; exact hP) (by (try dsimp only); rw [e2]; exact hD) hK hS (by decide) (by decide) dX4_takes_39 (by rw [e1])

theorem mdv_X4_takes : yX4_takes.cls = RX4 ∧ yX4_takes.cls ≠ "java/lang/invoke/MethodHandle" ∧ yX4_takes.cls ≠ "java/lang/invoke/VarHandle" ∧ (parseMethodDescriptor yX4_takes.desc).map (fun d => d.parameters.length) = some 1 := by decide +kernel
theorem hw_X4_demand_3794a9 : (.fieldLink RX4 34 "StoneDates$Reader" "at" "I" : Cond) ∈ wsX4_demand := by decide +kernel
theorem hi_X4_demand_X4 : ∀ w ∈ u_ws RX4 TX4 7, w ∈ wsX4_demand := by decide +kernel
theorem mdv_X4_refuse : yX4_refuse.cls = RX4 ∧ yX4_refuse.cls ≠ "java/lang/invoke/MethodHandle" ∧ yX4_refuse.cls ≠ "java/lang/invoke/VarHandle" ∧ (parseMethodDescriptor yX4_refuse.desc).map (fun d => d.parameters.length) = some 1 := by decide +kernel
set_option maxHeartbeats 4000000 in
set_option maxRecDepth 100000 in
theorem c_X4_demand (l : Launch) (G : GG) (h : Nat) (sA : Nat) (bA : Nat) (st : Int → Int32) (size : Int) (fault : Int) (len : Int) (at_ : Int) (heard : Int32) (bt : Int → Int) (x : Int) (ha : 0 ≤ at_ ∧ at_ ≤ len ∧ len ≤ 200) (hB : ∀ k : Int, 0 ≤ bt k ∧ bt k ≤ 255) (hc : 0 ≤ x ∧ x ≤ 65535) : Ci l yX4_demand wsX4_demand ({ frames := 2, cells := 0, slots := 0, locals := 41 }) G E0 [.ref h, .int (iz x)] [(h, .inr (2, [.ref sA, .int (iz size), .int (iz fault), .ref bA, .int (iz len), .int (iz at_), .int heard])), (sA, .inl (G.2 0, 11, .inl (rv st))), (bA, .inl (G.2 0, 200, .inl (av bt)))] 0 0 (fun _ : Unit => [(h, .inr (2, [.ref sA, .int (iz size), .int (iz (if tkB bt len x at_ then fault else tkP bt len x at_)), .ref bA, .int (iz len), .int (iz (tkP bt len x at_)), .int heard])), (sA, .inl (G.2 0, 11, .inl (rv st))), (bA, .inl (G.2 0, 200, .inl (av bt)))]) (fun (r : Int32) (_ : Unit) => r = (zb (tkB bt len x at_))) := by
  refine Ci_intro (cc := cX4_demand) (maxL := 2) (ret := (some .boolean)) (by decide) rfl (Nat.le_of_ble_eq_true rfl) ?_
  intro p e s m below meth c A F hA hP hD hK hE ls hl
  have hX_ := F.1
  have hB_ := F.2.1
  have hts := F.2.2.2.2.2.1
  have hown := F.2.2.2.2.1
  have hml := F.2.2.2.1
  have hS : va_S A s.heap s.heap [] := va_S.rf
  have hl : lv_has ls 2 [(0, .ref h), (1, .int (iz x))] := hl
  refine lv_aload_n hX_ hB_ dX4_demand_0 rfl (lv_at hl 0 rfl) ?_
  refine lv_iload_n hX_ hB_ dX4_demand_1 rfl (lv_at hl 1 rfl) ?_
  refine back_i (wr := []) (run_V (As := [.int (iz x)]) (rest := []) (wc := [(h, .inr (2, [.ref sA, .int (iz size), .int (iz fault), .ref bA, .int (iz len), .int (iz at_), .int heard])), (sA, .inl (G.2 0, 11, .inl (rv st))), (bA, .inl (G.2 0, 200, .inl (av bt)))]) F (c_X4_takes l G h sA bA st size fault len at_ heard bt x (by omega) (by omega) (by omega) _) ext0 gX4_demand_X4_takes rfl rfl rfl mdv_X4_takes ⟨Nat.le_of_ble_eq_true rfl, Nat.le_of_ble_eq_true rfl⟩ (va_recv hK.1 (hP.sub (ws' := [(h, .inr (2, [.ref sA, .int (iz size), .int (iz fault), .ref bA, .int (iz len), .int (iz at_), .int heard])), (sA, .inl (G.2 0, 11, .inl (rv st))), (bA, .inl (G.2 0, 200, .inl (av bt)))]) [0, 1, 2] rfl) (ci := 2) (q0 := 0) rfl rfl) (pre_of ext0 hK hP hD hS hA trivial [0, 1, 2] (by decide) rfl _) rfl hl.1 (Nat.le_of_ble_eq_true rfl) dX4_demand_2 ⟨by decide, by decide⟩) hP hD hS hA [0, 1, 2] [] rfl rfl (by decide) (by decide) (fun r__ u__ H locs hw hP hD hS => ?_)
  subst hw
  have hP := hP.sub (ws' := [(h, .inr (2, [.ref sA, .int (iz size), .int (iz fault), .ref bA, .int (iz len), .int (iz (tkP bt len x at_)), .int heard])), (sA, .inl (G.2 0, 11, .inl (rv st))), (bA, .inl (G.2 0, 200, .inl (av bt)))]) [0, 1, 2] rfl
  have hD := hD.sub (ws' := [(h, .inr (2, [.ref sA, .int (iz size), .int (iz fault), .ref bA, .int (iz len), .int (iz (tkP bt len x at_)), .int heard])), (sA, .inl (G.2 0, 11, .inl (rv st))), (bA, .inl (G.2 0, 200, .inl (av bt)))]) [0, 1, 2] (by decide) rfl
  refine zk_bif_ne (tgt := 19) hX_ hB_ dX4_demand_5 (by decide) (fun c_5 => ?_) (fun c_5 => ?_)
  · skip
    refine zk_iconst hX_ hB_ dX4_demand_19 ?_
    refine lv_goto (tgt := 24) hX_ hB_ dX4_demand_20 (by decide) ?_
    have e1 : (if tkB bt len x at_ then fault else tkP bt len x at_) = fault := by rw [c_5]; rfl
    refine zk_topi (y := zb true) rfl ?_
    exact fin_i (wf := (fun _ : Unit => [(h, .inr (2, [.ref sA, .int (iz size), .int (iz (if tkB bt len x at_ then fault else tkP bt len x at_)), .ref bA, .int (iz len), .int (iz (tkP bt len x at_)), .int heard])), (sA, .inl (G.2 0, 11, .inl (rv st))), (bA, .inl (G.2 0, 200, .inl (av bt)))])) () F (zb_nar _) (by (try dsimp only); rw [e1]; exact hP) (by (try dsimp only); rw [e1]; exact hD) hK hS (by decide) (by decide) dX4_demand_24 (by rw [c_5])
  · skip
    refine lv_aload_n hX_ hB_ dX4_demand_8 rfl (lv_at hl 0 rfl) ?_
    refine lv_aload_n hX_ hB_ dX4_demand_9 rfl (lv_at hl 0 rfl) ?_
    refine va_get (D := G.1) (ci := 2) (v := .int (iz (tkP bt len x at_))) (C := RX4) (T := TX4) (N := 7) hX_ hB_ hts hi_X4_demand_X4 hown hK.1 hP 0 rfl rfl 5 (by decide) (hts _ hw_X4_demand_3794a9) (fun _ h9 => h9) rfl dX4_demand_10 ?_
    refine back_i (wr := []) (run_V (As := [.int (iz (tkP bt len x at_))]) (rest := []) (wc := [(h, .inr (2, [.ref sA, .int (iz size), .int (iz fault), .ref bA, .int (iz len), .int (iz (tkP bt len x at_)), .int heard])), (sA, .inl (G.2 0, 11, .inl (rv st))), (bA, .inl (G.2 0, 200, .inl (av bt)))]) F (c_X4_refuse l G h sA bA st size fault len (tkP bt len x at_) heard bt (tkP bt len x at_) _) ext0 gX4_demand_X4_refuse rfl rfl rfl mdv_X4_refuse ⟨Nat.le_of_ble_eq_true rfl, Nat.le_of_ble_eq_true rfl⟩ (va_recv hK.1 (hP.sub (ws' := [(h, .inr (2, [.ref sA, .int (iz size), .int (iz fault), .ref bA, .int (iz len), .int (iz (tkP bt len x at_)), .int heard])), (sA, .inl (G.2 0, 11, .inl (rv st))), (bA, .inl (G.2 0, 200, .inl (av bt)))]) [0, 1, 2] rfl) (ci := 2) (q0 := 0) rfl rfl) (pre_of ext0 hK hP hD hS hA trivial [0, 1, 2] (by decide) rfl _) rfl hl.1 (Nat.le_of_ble_eq_true rfl) dX4_demand_13 ⟨by decide, by decide⟩) hP hD hS hA [0, 1, 2] [] rfl rfl (by decide) (by decide) (fun r__ u__ H locs hw hP hD hS => ?_)
    subst hw
    have hP := hP.sub (ws' := [(h, .inr (2, [.ref sA, .int (iz size), .int (iz (tkP bt len x at_)), .ref bA, .int (iz len), .int (iz (tkP bt len x at_)), .int heard])), (sA, .inl (G.2 0, 11, .inl (rv st))), (bA, .inl (G.2 0, 200, .inl (av bt)))]) [0, 1, 2] rfl
    have hD := hD.sub (ws' := [(h, .inr (2, [.ref sA, .int (iz size), .int (iz (tkP bt len x at_)), .ref bA, .int (iz len), .int (iz (tkP bt len x at_)), .int heard])), (sA, .inl (G.2 0, 11, .inl (rv st))), (bA, .inl (G.2 0, 200, .inl (av bt)))]) [0, 1, 2] (by decide) rfl
    refine zk_bif_eq (tgt := 23) hX_ hB_ dX4_demand_16 (by decide) (fun c_16 => ?_) (fun c_16 => absurd c_16 (by decide))
    refine zk_iconst hX_ hB_ dX4_demand_23 ?_
    have e1 : (if tkB bt len x at_ then fault else tkP bt len x at_) = tkP bt len x at_ := by rw [c_5]; rfl
    refine zk_topi (y := zb false) rfl ?_
    exact fin_i (wf := (fun _ : Unit => [(h, .inr (2, [.ref sA, .int (iz size), .int (iz (if tkB bt len x at_ then fault else tkP bt len x at_)), .ref bA, .int (iz len), .int (iz (tkP bt len x at_)), .int heard])), (sA, .inl (G.2 0, 11, .inl (rv st))), (bA, .inl (G.2 0, 200, .inl (av bt)))])) () F (zb_nar _) (by (try dsimp only); rw [e1]; exact hP) (by (try dsimp only); rw [e1]; exact hD) hK hS (by decide) (by decide) dX4_demand_24 (by rw [c_5])

theorem hw_X4_narrow_a94271 : (.fieldLink RX4 9 "StoneDates$Reader" "sets" "[I" : Cond) ∈ wsX4_narrow := by decide +kernel
theorem hi_X4_narrow_X4 : ∀ w ∈ u_ws RX4 TX4 7, w ∈ wsX4_narrow := by decide +kernel
theorem hw_X4_narrow_897535 : (.fieldLink RX4 101 "StoneDates$Reader" "heard" "I" : Cond) ∈ wsX4_narrow := by decide +kernel
set_option maxHeartbeats 4000000 in
set_option maxRecDepth 100000 in
theorem c_X4_narrow (l : Launch) (G : GG) (h : Nat) (sA : Nat) (bA : Nat) (st : Int → Int32) (size : Int) (fault : Int) (len : Int) (at_ : Int) (heard : Int32) (bt : Int → Int) (x : Int) (hx0 : R31 x) : Cv l yX4_narrow wsX4_narrow ({ frames := 0, cells := 0, slots := 0, locals := 0 }) G E0 [.ref h, .int (iz x)] [(h, .inr (2, [.ref sA, .int (iz size), .int (iz fault), .ref bA, .int (iz len), .int (iz at_), .int heard])), (sA, .inl (G.2 0, 11, .inl (rv st))), (bA, .inl (G.2 0, 200, .inl (av bt)))] 0 0 (fun _ : Unit => [(h, .inr (2, [.ref sA, .int (iz size), .int (iz fault), .ref bA, .int (iz len), .int (iz at_), .int heard])), (sA, .inl (G.2 0, 11, .inl (rv (if 0 ≤ x ∧ x < 11 then us st x (st x &&& heard) else st)))), (bA, .inl (G.2 0, 200, .inl (av bt)))]) (fun (_ : Unit) => True) := by
  refine Cv_intro (cc := cX4_narrow) (maxL := 2) (ret := none) (by decide) rfl (Nat.le_of_ble_eq_true rfl) ?_
  intro p e s m below meth c A F hA hP hD hK hE ls hl
  have hX_ := F.1
  have hB_ := F.2.1
  have hts := F.2.2.2.2.2.1
  have hown := F.2.2.2.2.1
  have hml := F.2.2.2.1
  have hS : va_S A s.heap s.heap [] := va_S.rf
  have hl : lv_has ls 2 [(0, .ref h), (1, .int (iz x))] := hl
  refine lv_iload_n hX_ hB_ dX4_narrow_0 rfl (lv_at hl 1 rfl) ?_
  refine zk_if_lt (tgt := 23) hX_ hB_ (by omega) dX4_narrow_1 (by decide) (fun c_1 => ?_) (fun c_1 => ?_)
  · skip
    exact fin_v (wf := (fun _ : Unit => [(h, .inr (2, [.ref sA, .int (iz size), .int (iz fault), .ref bA, .int (iz len), .int (iz at_), .int heard])), (sA, .inl (G.2 0, 11, .inl (rv (if 0 ≤ x ∧ x < 11 then us st x (st x &&& heard) else st)))), (bA, .inl (G.2 0, 200, .inl (av bt)))])) () F (by (try dsimp only); rw [if_neg (by omega)]; exact hP) (by (try dsimp only); rw [if_neg (by omega)]; exact hD) hK hS (by decide) (by decide) dX4_narrow_23 trivial
  · skip
    refine lv_iload_n hX_ hB_ dX4_narrow_4 rfl (lv_at hl 1 rfl) ?_
    refine zk_bipush hX_ hB_ (by decide) dX4_narrow_5 ?_
    refine zk_icmp_ge (tgt := 23) hX_ hB_ (by omega) (by omega) dX4_narrow_7 (by decide) (fun c_7 => ?_) (fun c_7 => ?_)
    · skip
      exact fin_v (wf := (fun _ : Unit => [(h, .inr (2, [.ref sA, .int (iz size), .int (iz fault), .ref bA, .int (iz len), .int (iz at_), .int heard])), (sA, .inl (G.2 0, 11, .inl (rv (if 0 ≤ x ∧ x < 11 then us st x (st x &&& heard) else st)))), (bA, .inl (G.2 0, 200, .inl (av bt)))])) () F (by (try dsimp only); rw [if_neg (by omega)]; exact hP) (by (try dsimp only); rw [if_neg (by omega)]; exact hD) hK hS (by decide) (by decide) dX4_narrow_23 trivial
    · skip
      refine lv_aload_n hX_ hB_ dX4_narrow_10 rfl (lv_at hl 0 rfl) ?_
      refine va_get (D := G.1) (ci := 2) (v := .ref sA) (C := RX4) (T := TX4) (N := 7) hX_ hB_ hts hi_X4_narrow_X4 hown hK.1 hP 0 rfl rfl 0 (by decide) (hts _ hw_X4_narrow_a94271) (fun _ h9 => h9) rfl dX4_narrow_11 ?_
      refine lv_iload_n hX_ hB_ dX4_narrow_14 rfl (lv_at hl 1 rfl) ?_
      refine lv_dup2_11 hX_ hB_ dX4_narrow_15 rfl rfl ?_
      refine zk_ialdr hX_ hB_ hK.1 hP 1 0 rfl rfl (by omega) (by decide) dX4_narrow_16 ?_
      refine lv_aload_n hX_ hB_ dX4_narrow_17 rfl (lv_at hl 0 rfl) ?_
      refine va_get (D := G.1) (ci := 2) (v := .int heard) (C := RX4) (T := TX4) (N := 7) hX_ hB_ hts hi_X4_narrow_X4 hown hK.1 hP 0 rfl rfl 6 (by decide) (hts _ hw_X4_narrow_897535) (fun _ h9 => h9) rfl dX4_narrow_18 ?_
      refine lv_iand hX_ hB_ dX4_narrow_21 ?_
      refine zk_iastr hX_ hB_ hK.1 hP hD hS 1 0 rfl rfl (by omega) (by decide) dX4_narrow_22 (fun H locs hP hD hS => ?_)
      have hP : va_P G.1 vwCl [(h, .inr (2, [.ref sA, .int (iz size), .int (iz fault), .ref bA, .int (iz len), .int (iz at_), .int heard])), (sA, .inl (G.2 0, 11, .inl (rv (us st x ((st x) &&& heard))))), (bA, .inl (G.2 0, 200, .inl (av bt)))] _ := hP
      have hD : va_D A [(h, .inr (2, [.ref sA, .int (iz size), .int (iz fault), .ref bA, .int (iz len), .int (iz at_), .int heard])), (sA, .inl (G.2 0, 11, .inl (rv (us st x ((st x) &&& heard))))), (bA, .inl (G.2 0, 200, .inl (av bt)))] := hD
      exact fin_v (wf := (fun _ : Unit => [(h, .inr (2, [.ref sA, .int (iz size), .int (iz fault), .ref bA, .int (iz len), .int (iz at_), .int heard])), (sA, .inl (G.2 0, 11, .inl (rv (if 0 ≤ x ∧ x < 11 then us st x (st x &&& heard) else st)))), (bA, .inl (G.2 0, 200, .inl (av bt)))])) () F (by (try dsimp only); rw [if_pos (by omega)]; exact hP) (by (try dsimp only); rw [if_pos (by omega)]; exact hD) hK hS (by decide) (by decide) dX4_narrow_23 trivial

theorem hw_X4_readNumber_3794a9 : (.fieldLink RX4 34 "StoneDates$Reader" "at" "I" : Cond) ∈ wsX4_readNumber := by decide +kernel
theorem hi_X4_readNumber_X4 : ∀ w ∈ u_ws RX4 TX4 7, w ∈ wsX4_readNumber := by decide +kernel
theorem mdv_X4_isDigitAt : yX4_isDigitAt.cls = RX4 ∧ yX4_isDigitAt.cls ≠ "java/lang/invoke/MethodHandle" ∧ yX4_isDigitAt.cls ≠ "java/lang/invoke/VarHandle" ∧ (parseMethodDescriptor yX4_isDigitAt.desc).map (fun d => d.parameters.length) = some 1 := by decide +kernel
theorem hw_X4_readNumber_932782 : (.fieldLink RX4 15 "StoneDates$Reader" "bytes" "[I" : Cond) ∈ wsX4_readNumber := by decide +kernel
set_option maxHeartbeats 4000000 in
set_option maxRecDepth 100000 in
theorem c_X4_readNumber (l : Launch) (G : GG) (h : Nat) (sA : Nat) (bA : Nat) (st : Int → Int32) (size : Int) (fault : Int) (len : Int) (at_ : Int) (heard : Int32) (bt : Int → Int) (ha : 0 ≤ at_ ∧ at_ ≤ len ∧ len ≤ 200) (hB : ∀ k : Int, 0 ≤ bt k ∧ bt k ≤ 255) : Ci l yX4_readNumber wsX4_readNumber ({ frames := 1, cells := 0, slots := 0, locals := 21 }) G E0 [.ref h] [(h, .inr (2, [.ref sA, .int (iz size), .int (iz fault), .ref bA, .int (iz len), .int (iz at_), .int heard])), (sA, .inl (G.2 0, 11, .inl (rv st))), (bA, .inl (G.2 0, 200, .inl (av bt)))] 0 0 (fun _ : Unit => [(h, .inr (2, [.ref sA, .int (iz size), .int (iz (if nOk bt len at_ then fault else nP bt len at_)), .ref bA, .int (iz len), .int (iz (nP bt len at_)), .int heard])), (sA, .inl (G.2 0, 11, .inl (rv st))), (bA, .inl (G.2 0, 200, .inl (av bt)))]) (fun (r : Int32) (_ : Unit) => r = (iz (if nOk bt len at_ then nV bt len at_ else -1))) := by
  refine Ci_intro (cc := cX4_readNumber) (maxL := 3) (ret := (some .int)) (by decide) rfl (Nat.le_of_ble_eq_true rfl) ?_
  intro p e s m below meth c A F hA hP hD hK hE ls hl
  have hX_ := F.1
  have hB_ := F.2.1
  have hts := F.2.2.2.2.2.1
  have hown := F.2.2.2.2.1
  have hml := F.2.2.2.1
  have hS : va_S A s.heap s.heap [] := va_S.rf
  have hl : lv_has ls 3 [(0, .ref h)] := hl
  refine lv_aload_n hX_ hB_ dX4_readNumber_0 rfl (lv_at hl 0 rfl) ?_
  refine back_v (wr := []) (run_V (As := []) (rest := []) (wc := [(h, .inr (2, [.ref sA, .int (iz size), .int (iz fault), .ref bA, .int (iz len), .int (iz at_), .int heard])), (sA, .inl (G.2 0, 11, .inl (rv st))), (bA, .inl (G.2 0, 200, .inl (av bt)))]) F (c_X4_skipBlanks l G h sA bA st size fault len at_ heard bt (by omega) (by omega) _) ext0 gX4_readNumber_X4_skipBlanks rfl rfl rfl mdv_X4_skipBlanks ⟨Nat.le_of_ble_eq_true rfl, Nat.le_of_ble_eq_true rfl⟩ (va_recv hK.1 (hP.sub (ws' := [(h, .inr (2, [.ref sA, .int (iz size), .int (iz fault), .ref bA, .int (iz len), .int (iz at_), .int heard])), (sA, .inl (G.2 0, 11, .inl (rv st))), (bA, .inl (G.2 0, 200, .inl (av bt)))]) [0, 1, 2] rfl) (ci := 2) (q0 := 0) rfl rfl) (pre_of ext0 hK hP hD hS hA trivial [0, 1, 2] (by decide) rfl _) rfl hl.1 (Nat.le_of_ble_eq_true rfl) dX4_readNumber_1 ⟨by decide, by decide⟩) hP hD hS hA [0, 1, 2] [] rfl rfl (by decide) (by decide) (fun u__ H locs hw hP hD hS => ?_)
  have hw_1 := hw
  have hP := hP.sub (ws' := [(h, .inr (2, [.ref sA, .int (iz size), .int (iz fault), .ref bA, .int (iz len), .int (iz (sk bt len at_)), .int heard])), (sA, .inl (G.2 0, 11, .inl (rv st))), (bA, .inl (G.2 0, 200, .inl (av bt)))]) [0, 1, 2] rfl
  have hD := hD.sub (ws' := [(h, .inr (2, [.ref sA, .int (iz size), .int (iz fault), .ref bA, .int (iz len), .int (iz (sk bt len at_)), .int heard])), (sA, .inl (G.2 0, 11, .inl (rv st))), (bA, .inl (G.2 0, 200, .inl (av bt)))]) [0, 1, 2] (by decide) rfl
  have hsk := sk_rng (bt := bt) (a := at_) (n := len) (by omega)
  refine lv_aload_n hX_ hB_ dX4_readNumber_4 rfl (lv_at hl 0 rfl) ?_
  refine va_get (D := G.1) (ci := 2) (v := .int (iz (sk bt len at_))) (C := RX4) (T := TX4) (N := 7) hX_ hB_ hts hi_X4_readNumber_X4 hown hK.1 hP 0 rfl rfl 5 (by decide) (hts _ hw_X4_readNumber_3794a9) (fun _ h9 => h9) rfl dX4_readNumber_5 ?_
  refine lv_istore_n (lv' := [(1, .int (iz (sk bt len at_))), (0, .ref h)]) hX_ hB_ dX4_readNumber_8 rfl hl (by decide) rfl (fun ls hl => ?_)
  refine zk_iconst hX_ hB_ dX4_readNumber_9 ?_
  refine lv_istore_n (lv' := [(2, .int (iz 0)), (1, .int (iz (sk bt len at_))), (0, .ref h)]) hX_ hB_ dX4_readNumber_10 rfl hl (by decide) rfl (fun ls hl => ?_)
  have loop_11 : ∀ (n_11 : Nat), ∀ (a : Int) (v : Int), ((sk bt len at_) ≤ a ∧ a ≤ (sk bt len at_) + 2 ∧ a ≤ len) → ((a = (sk bt len at_) ∧ v = 0) ∨ (a = (sk bt len at_) + 1 ∧ dg bt len (sk bt len at_) = true ∧ v = bt (sk bt len at_) - 48) ∨ (a = (sk bt len at_) + 2 ∧ dg bt len (sk bt len at_) = true ∧ dg bt len ((sk bt len at_) + 1) = true ∧ v = 10 * (bt (sk bt len at_) - 48) + (bt ((sk bt len at_) + 1) - 48))) → (((sk bt len at_) + 2 - a).toNat < n_11) → ∀ (H : Heap) (locs : List Loc), va_P G.1 vwCl [(h, .inr (2, [.ref sA, .int (iz size), .int (iz fault), .ref bA, .int (iz len), .int (iz a), .int heard])), (sA, .inl (G.2 0, 11, .inl (rv st))), (bA, .inl (G.2 0, 200, .inl (av bt)))] H → va_D A [(h, .inr (2, [.ref sA, .int (iz size), .int (iz fault), .ref bA, .int (iz len), .int (iz a), .int heard])), (sA, .inl (G.2 0, 11, .inl (rv st))), (bA, .inl (G.2 0, 200, .inl (av bt)))] → va_S A s.heap H locs → ∀ ls : Array Slot, lv_has ls 3 [(0, .ref h), (1, .int (iz (sk bt len at_))), (2, .int (iz v))] → W p l e ({ frames := 1, cells := 0, slots := 0, locals := 21 }) s m ([.ref h] : List Value).toArray below meth c H locs 0 0 (MQ below (va_Qi (fun (r : Int32) (_ : Unit) => r = (iz (if nOk bt len at_ then nV bt len at_ else -1))) (fun u__ t__ => Pst G A ((fun _ : Unit => [(h, .inr (2, [.ref sA, .int (iz size), .int (iz (if nOk bt len at_ then fault else nP bt len at_)), .ref bA, .int (iz len), .int (iz (nP bt len at_)), .int heard])), (sA, .inl (G.2 0, 11, .inl (rv st))), (bA, .inl (G.2 0, 200, .inl (av bt)))]) u__) t__) A) ([.ref h] : List Value).toArray s 0 0 A) (F0 m 11 ls []) := by
    intro n_11
    induction n_11 with
    | zero =>
      intro a v hi hv hm H locs hP hD hS ls hl
      exact absurd hm (Nat.not_lt_zero _)
    | succ n_11 ih_11 =>
      intro a v hi hv hm H locs hP hD hS ls hl
      refine lv_aload_n hX_ hB_ dX4_readNumber_11 rfl (lv_at hl 0 rfl) ?_
      refine lv_aload_n hX_ hB_ dX4_readNumber_12 rfl (lv_at hl 0 rfl) ?_
      refine va_get (D := G.1) (ci := 2) (v := .int (iz a)) (C := RX4) (T := TX4) (N := 7) hX_ hB_ hts hi_X4_readNumber_X4 hown hK.1 hP 0 rfl rfl 5 (by decide) (hts _ hw_X4_readNumber_3794a9) (fun _ h9 => h9) rfl dX4_readNumber_13 ?_
      refine back_i (wr := []) (run_V (As := [.int (iz a)]) (rest := []) (wc := [(h, .inr (2, [.ref sA, .int (iz size), .int (iz fault), .ref bA, .int (iz len), .int (iz a), .int heard])), (sA, .inl (G.2 0, 11, .inl (rv st))), (bA, .inl (G.2 0, 200, .inl (av bt)))]) F (c_X4_isDigitAt l G h sA bA st size fault len a heard bt a (by omega) (by omega) (by omega) _) ext0 gX4_readNumber_X4_isDigitAt rfl rfl rfl mdv_X4_isDigitAt ⟨Nat.le_of_ble_eq_true rfl, Nat.le_of_ble_eq_true rfl⟩ (va_recv hK.1 (hP.sub (ws' := [(h, .inr (2, [.ref sA, .int (iz size), .int (iz fault), .ref bA, .int (iz len), .int (iz a), .int heard])), (sA, .inl (G.2 0, 11, .inl (rv st))), (bA, .inl (G.2 0, 200, .inl (av bt)))]) [0, 1, 2] rfl) (ci := 2) (q0 := 0) rfl rfl) (pre_of ext0 hK hP hD hS hA trivial [0, 1, 2] (by decide) rfl _) rfl hl.1 (Nat.le_of_ble_eq_true rfl) dX4_readNumber_16 ⟨by decide, by decide⟩) hP hD hS hA [0, 1, 2] [] rfl rfl (by decide) (by decide) (fun r__ u__ H locs hw hP hD hS => ?_)
      subst hw
      have hP := hP.sub (ws' := [(h, .inr (2, [.ref sA, .int (iz size), .int (iz fault), .ref bA, .int (iz len), .int (iz a), .int heard])), (sA, .inl (G.2 0, 11, .inl (rv st))), (bA, .inl (G.2 0, 200, .inl (av bt)))]) [0, 1, 2] rfl
      have hD := hD.sub (ws' := [(h, .inr (2, [.ref sA, .int (iz size), .int (iz fault), .ref bA, .int (iz len), .int (iz a), .int heard])), (sA, .inl (G.2 0, 11, .inl (rv st))), (bA, .inl (G.2 0, 200, .inl (av bt)))]) [0, 1, 2] (by decide) rfl
      refine zk_bif_eq (tgt := 63) hX_ hB_ dX4_readNumber_19 (by decide) (fun c_19 => ?_) (fun c_19 => ?_)
      · skip
        refine lv_aload_n hX_ hB_ dX4_readNumber_63 rfl (lv_at hl 0 rfl) ?_
        refine va_get (D := G.1) (ci := 2) (v := .int (iz a)) (C := RX4) (T := TX4) (N := 7) hX_ hB_ hts hi_X4_readNumber_X4 hown hK.1 hP 0 rfl rfl 5 (by decide) (hts _ hw_X4_readNumber_3794a9) (fun _ h9 => h9) rfl dX4_readNumber_64 ?_
        refine lv_iload_n hX_ hB_ dX4_readNumber_67 rfl (lv_at hl 1 rfl) ?_
        refine zk_icmp_eq (tgt := 82) hX_ hB_ (by omega) (by omega) dX4_readNumber_68 (by decide) (fun c_68 => ?_) (fun c_68 => ?_)
        · skip
          refine lv_aload_n hX_ hB_ dX4_readNumber_82 rfl (lv_at hl 0 rfl) ?_
          refine lv_aload_n hX_ hB_ dX4_readNumber_83 rfl (lv_at hl 0 rfl) ?_
          refine va_get (D := G.1) (ci := 2) (v := .int (iz a)) (C := RX4) (T := TX4) (N := 7) hX_ hB_ hts hi_X4_readNumber_X4 hown hK.1 hP 0 rfl rfl 5 (by decide) (hts _ hw_X4_readNumber_3794a9) (fun _ h9 => h9) rfl dX4_readNumber_84 ?_
          refine back_i (wr := []) (run_V (As := [.int (iz a)]) (rest := []) (wc := [(h, .inr (2, [.ref sA, .int (iz size), .int (iz fault), .ref bA, .int (iz len), .int (iz a), .int heard])), (sA, .inl (G.2 0, 11, .inl (rv st))), (bA, .inl (G.2 0, 200, .inl (av bt)))]) F (c_X4_refuse l G h sA bA st size fault len a heard bt a _) ext0 gX4_readNumber_X4_refuse rfl rfl rfl mdv_X4_refuse ⟨Nat.le_of_ble_eq_true rfl, Nat.le_of_ble_eq_true rfl⟩ (va_recv hK.1 (hP.sub (ws' := [(h, .inr (2, [.ref sA, .int (iz size), .int (iz fault), .ref bA, .int (iz len), .int (iz a), .int heard])), (sA, .inl (G.2 0, 11, .inl (rv st))), (bA, .inl (G.2 0, 200, .inl (av bt)))]) [0, 1, 2] rfl) (ci := 2) (q0 := 0) rfl rfl) (pre_of ext0 hK hP hD hS hA trivial [0, 1, 2] (by decide) rfl _) rfl hl.1 (Nat.le_of_ble_eq_true rfl) dX4_readNumber_87 ⟨by decide, by decide⟩) hP hD hS hA [0, 1, 2] [] rfl rfl (by decide) (by decide) (fun r__ u__ H locs hw hP hD hS => ?_)
          subst hw
          have hP := hP.sub (ws' := [(h, .inr (2, [.ref sA, .int (iz size), .int (iz a), .ref bA, .int (iz len), .int (iz a), .int heard])), (sA, .inl (G.2 0, 11, .inl (rv st))), (bA, .inl (G.2 0, 200, .inl (av bt)))]) [0, 1, 2] rfl
          have hD := hD.sub (ws' := [(h, .inr (2, [.ref sA, .int (iz size), .int (iz a), .ref bA, .int (iz len), .int (iz a), .int heard])), (sA, .inl (G.2 0, 11, .inl (rv st))), (bA, .inl (G.2 0, 200, .inl (av bt)))]) [0, 1, 2] (by decide) rfl
          refine lv_pop hX_ hB_ dX4_readNumber_90 rfl ?_
          refine zk_iconst hX_ hB_ dX4_readNumber_91 ?_
          have e1 : nOk bt len at_ = false ∧ nP bt len at_ = a := num_bad hi hv (by first | exact Or.inl c_68 | exact Or.inr ⟨c_68, c_79⟩) (by first | exact Or.inl c_19 | exact Or.inr c_29)
          exact fin_i (wf := (fun _ : Unit => [(h, .inr (2, [.ref sA, .int (iz size), .int (iz (if nOk bt len at_ then fault else nP bt len at_)), .ref bA, .int (iz len), .int (iz (nP bt len at_)), .int heard])), (sA, .inl (G.2 0, 11, .inl (rv st))), (bA, .inl (G.2 0, 200, .inl (av bt)))])) () F rfl (by (try dsimp only); rw [e1.1, e1.2]; exact hP) (by (try dsimp only); rw [e1.1, e1.2]; exact hD) hK hS (by decide) (by decide) dX4_readNumber_92 (by rw [e1.1]; rfl)
        · skip
          refine lv_aload_n hX_ hB_ dX4_readNumber_71 rfl (lv_at hl 0 rfl) ?_
          refine lv_aload_n hX_ hB_ dX4_readNumber_72 rfl (lv_at hl 0 rfl) ?_
          refine va_get (D := G.1) (ci := 2) (v := .int (iz a)) (C := RX4) (T := TX4) (N := 7) hX_ hB_ hts hi_X4_readNumber_X4 hown hK.1 hP 0 rfl rfl 5 (by decide) (hts _ hw_X4_readNumber_3794a9) (fun _ h9 => h9) rfl dX4_readNumber_73 ?_
          refine back_i (wr := []) (run_V (As := [.int (iz a)]) (rest := []) (wc := [(h, .inr (2, [.ref sA, .int (iz size), .int (iz fault), .ref bA, .int (iz len), .int (iz a), .int heard])), (sA, .inl (G.2 0, 11, .inl (rv st))), (bA, .inl (G.2 0, 200, .inl (av bt)))]) F (c_X4_isDigitAt l G h sA bA st size fault len a heard bt a (by omega) (by omega) (by omega) _) ext0 gX4_readNumber_X4_isDigitAt rfl rfl rfl mdv_X4_isDigitAt ⟨Nat.le_of_ble_eq_true rfl, Nat.le_of_ble_eq_true rfl⟩ (va_recv hK.1 (hP.sub (ws' := [(h, .inr (2, [.ref sA, .int (iz size), .int (iz fault), .ref bA, .int (iz len), .int (iz a), .int heard])), (sA, .inl (G.2 0, 11, .inl (rv st))), (bA, .inl (G.2 0, 200, .inl (av bt)))]) [0, 1, 2] rfl) (ci := 2) (q0 := 0) rfl rfl) (pre_of ext0 hK hP hD hS hA trivial [0, 1, 2] (by decide) rfl _) rfl hl.1 (Nat.le_of_ble_eq_true rfl) dX4_readNumber_76 ⟨by decide, by decide⟩) hP hD hS hA [0, 1, 2] [] rfl rfl (by decide) (by decide) (fun r__ u__ H locs hw hP hD hS => ?_)
          subst hw
          have hP := hP.sub (ws' := [(h, .inr (2, [.ref sA, .int (iz size), .int (iz fault), .ref bA, .int (iz len), .int (iz a), .int heard])), (sA, .inl (G.2 0, 11, .inl (rv st))), (bA, .inl (G.2 0, 200, .inl (av bt)))]) [0, 1, 2] rfl
          have hD := hD.sub (ws' := [(h, .inr (2, [.ref sA, .int (iz size), .int (iz fault), .ref bA, .int (iz len), .int (iz a), .int heard])), (sA, .inl (G.2 0, 11, .inl (rv st))), (bA, .inl (G.2 0, 200, .inl (av bt)))]) [0, 1, 2] (by decide) rfl
          refine zk_bif_eq (tgt := 93) hX_ hB_ dX4_readNumber_79 (by decide) (fun c_79 => ?_) (fun c_79 => ?_)
          · skip
            refine lv_iload_n hX_ hB_ dX4_readNumber_93 rfl (lv_at hl 2 rfl) ?_
            have e1 : nOk bt len at_ = true ∧ nP bt len at_ = a ∧ nV bt len at_ = v := num_ok hi hv c_68 c_79 (by first | exact Or.inl c_19 | exact Or.inr c_29)
            exact fin_i (wf := (fun _ : Unit => [(h, .inr (2, [.ref sA, .int (iz size), .int (iz (if nOk bt len at_ then fault else nP bt len at_)), .ref bA, .int (iz len), .int (iz (nP bt len at_)), .int heard])), (sA, .inl (G.2 0, 11, .inl (rv st))), (bA, .inl (G.2 0, 200, .inl (av bt)))])) () F rfl (by (try dsimp only); rw [e1.1, e1.2.1]; exact hP) (by (try dsimp only); rw [e1.1, e1.2.1]; exact hD) hK hS (by decide) (by decide) dX4_readNumber_94 (by rw [e1.1, e1.2.2]; rfl)
          · skip
            refine lv_aload_n hX_ hB_ dX4_readNumber_82 rfl (lv_at hl 0 rfl) ?_
            refine lv_aload_n hX_ hB_ dX4_readNumber_83 rfl (lv_at hl 0 rfl) ?_
            refine va_get (D := G.1) (ci := 2) (v := .int (iz a)) (C := RX4) (T := TX4) (N := 7) hX_ hB_ hts hi_X4_readNumber_X4 hown hK.1 hP 0 rfl rfl 5 (by decide) (hts _ hw_X4_readNumber_3794a9) (fun _ h9 => h9) rfl dX4_readNumber_84 ?_
            refine back_i (wr := []) (run_V (As := [.int (iz a)]) (rest := []) (wc := [(h, .inr (2, [.ref sA, .int (iz size), .int (iz fault), .ref bA, .int (iz len), .int (iz a), .int heard])), (sA, .inl (G.2 0, 11, .inl (rv st))), (bA, .inl (G.2 0, 200, .inl (av bt)))]) F (c_X4_refuse l G h sA bA st size fault len a heard bt a _) ext0 gX4_readNumber_X4_refuse rfl rfl rfl mdv_X4_refuse ⟨Nat.le_of_ble_eq_true rfl, Nat.le_of_ble_eq_true rfl⟩ (va_recv hK.1 (hP.sub (ws' := [(h, .inr (2, [.ref sA, .int (iz size), .int (iz fault), .ref bA, .int (iz len), .int (iz a), .int heard])), (sA, .inl (G.2 0, 11, .inl (rv st))), (bA, .inl (G.2 0, 200, .inl (av bt)))]) [0, 1, 2] rfl) (ci := 2) (q0 := 0) rfl rfl) (pre_of ext0 hK hP hD hS hA trivial [0, 1, 2] (by decide) rfl _) rfl hl.1 (Nat.le_of_ble_eq_true rfl) dX4_readNumber_87 ⟨by decide, by decide⟩) hP hD hS hA [0, 1, 2] [] rfl rfl (by decide) (by decide) (fun r__ u__ H locs hw hP hD hS => ?_)
            subst hw
            have hP := hP.sub (ws' := [(h, .inr (2, [.ref sA, .int (iz size), .int (iz a), .ref bA, .int (iz len), .int (iz a), .int heard])), (sA, .inl (G.2 0, 11, .inl (rv st))), (bA, .inl (G.2 0, 200, .inl (av bt)))]) [0, 1, 2] rfl
            have hD := hD.sub (ws' := [(h, .inr (2, [.ref sA, .int (iz size), .int (iz a), .ref bA, .int (iz len), .int (iz a), .int heard])), (sA, .inl (G.2 0, 11, .inl (rv st))), (bA, .inl (G.2 0, 200, .inl (av bt)))]) [0, 1, 2] (by decide) rfl
            refine lv_pop hX_ hB_ dX4_readNumber_90 rfl ?_
            refine zk_iconst hX_ hB_ dX4_readNumber_91 ?_
            have e1 : nOk bt len at_ = false ∧ nP bt len at_ = a := num_bad hi hv (by first | exact Or.inl c_68 | exact Or.inr ⟨c_68, c_79⟩) (by first | exact Or.inl c_19 | exact Or.inr c_29)
            exact fin_i (wf := (fun _ : Unit => [(h, .inr (2, [.ref sA, .int (iz size), .int (iz (if nOk bt len at_ then fault else nP bt len at_)), .ref bA, .int (iz len), .int (iz (nP bt len at_)), .int heard])), (sA, .inl (G.2 0, 11, .inl (rv st))), (bA, .inl (G.2 0, 200, .inl (av bt)))])) () F rfl (by (try dsimp only); rw [e1.1, e1.2]; exact hP) (by (try dsimp only); rw [e1.1, e1.2]; exact hD) hK hS (by decide) (by decide) dX4_readNumber_92 (by rw [e1.1]; rfl)
      · skip
        refine lv_aload_n hX_ hB_ dX4_readNumber_22 rfl (lv_at hl 0 rfl) ?_
        refine va_get (D := G.1) (ci := 2) (v := .int (iz a)) (C := RX4) (T := TX4) (N := 7) hX_ hB_ hts hi_X4_readNumber_X4 hown hK.1 hP 0 rfl rfl 5 (by decide) (hts _ hw_X4_readNumber_3794a9) (fun _ h9 => h9) rfl dX4_readNumber_23 ?_
        refine lv_iload_n hX_ hB_ dX4_readNumber_26 rfl (lv_at hl 1 rfl) ?_
        refine zk_isub hX_ hB_ dX4_readNumber_27 ?_
        refine zk_iconst hX_ hB_ dX4_readNumber_28 ?_
        refine zk_icmp_ge (tgt := 63) hX_ hB_ (by omega) (by omega) dX4_readNumber_29 (by decide) (fun c_29 => ?_) (fun c_29 => ?_)
        · skip
          refine lv_aload_n hX_ hB_ dX4_readNumber_63 rfl (lv_at hl 0 rfl) ?_
          refine va_get (D := G.1) (ci := 2) (v := .int (iz a)) (C := RX4) (T := TX4) (N := 7) hX_ hB_ hts hi_X4_readNumber_X4 hown hK.1 hP 0 rfl rfl 5 (by decide) (hts _ hw_X4_readNumber_3794a9) (fun _ h9 => h9) rfl dX4_readNumber_64 ?_
          refine lv_iload_n hX_ hB_ dX4_readNumber_67 rfl (lv_at hl 1 rfl) ?_
          refine zk_icmp_eq (tgt := 82) hX_ hB_ (by omega) (by omega) dX4_readNumber_68 (by decide) (fun c_68 => ?_) (fun c_68 => ?_)
          · skip
            refine lv_aload_n hX_ hB_ dX4_readNumber_82 rfl (lv_at hl 0 rfl) ?_
            refine lv_aload_n hX_ hB_ dX4_readNumber_83 rfl (lv_at hl 0 rfl) ?_
            refine va_get (D := G.1) (ci := 2) (v := .int (iz a)) (C := RX4) (T := TX4) (N := 7) hX_ hB_ hts hi_X4_readNumber_X4 hown hK.1 hP 0 rfl rfl 5 (by decide) (hts _ hw_X4_readNumber_3794a9) (fun _ h9 => h9) rfl dX4_readNumber_84 ?_
            refine back_i (wr := []) (run_V (As := [.int (iz a)]) (rest := []) (wc := [(h, .inr (2, [.ref sA, .int (iz size), .int (iz fault), .ref bA, .int (iz len), .int (iz a), .int heard])), (sA, .inl (G.2 0, 11, .inl (rv st))), (bA, .inl (G.2 0, 200, .inl (av bt)))]) F (c_X4_refuse l G h sA bA st size fault len a heard bt a _) ext0 gX4_readNumber_X4_refuse rfl rfl rfl mdv_X4_refuse ⟨Nat.le_of_ble_eq_true rfl, Nat.le_of_ble_eq_true rfl⟩ (va_recv hK.1 (hP.sub (ws' := [(h, .inr (2, [.ref sA, .int (iz size), .int (iz fault), .ref bA, .int (iz len), .int (iz a), .int heard])), (sA, .inl (G.2 0, 11, .inl (rv st))), (bA, .inl (G.2 0, 200, .inl (av bt)))]) [0, 1, 2] rfl) (ci := 2) (q0 := 0) rfl rfl) (pre_of ext0 hK hP hD hS hA trivial [0, 1, 2] (by decide) rfl _) rfl hl.1 (Nat.le_of_ble_eq_true rfl) dX4_readNumber_87 ⟨by decide, by decide⟩) hP hD hS hA [0, 1, 2] [] rfl rfl (by decide) (by decide) (fun r__ u__ H locs hw hP hD hS => ?_)
            subst hw
            have hP := hP.sub (ws' := [(h, .inr (2, [.ref sA, .int (iz size), .int (iz a), .ref bA, .int (iz len), .int (iz a), .int heard])), (sA, .inl (G.2 0, 11, .inl (rv st))), (bA, .inl (G.2 0, 200, .inl (av bt)))]) [0, 1, 2] rfl
            have hD := hD.sub (ws' := [(h, .inr (2, [.ref sA, .int (iz size), .int (iz a), .ref bA, .int (iz len), .int (iz a), .int heard])), (sA, .inl (G.2 0, 11, .inl (rv st))), (bA, .inl (G.2 0, 200, .inl (av bt)))]) [0, 1, 2] (by decide) rfl
            refine lv_pop hX_ hB_ dX4_readNumber_90 rfl ?_
            refine zk_iconst hX_ hB_ dX4_readNumber_91 ?_
            have e1 : nOk bt len at_ = false ∧ nP bt len at_ = a := num_bad hi hv (by first | exact Or.inl c_68 | exact Or.inr ⟨c_68, c_79⟩) (by first | exact Or.inl c_19 | exact Or.inr c_29)
            exact fin_i (wf := (fun _ : Unit => [(h, .inr (2, [.ref sA, .int (iz size), .int (iz (if nOk bt len at_ then fault else nP bt len at_)), .ref bA, .int (iz len), .int (iz (nP bt len at_)), .int heard])), (sA, .inl (G.2 0, 11, .inl (rv st))), (bA, .inl (G.2 0, 200, .inl (av bt)))])) () F rfl (by (try dsimp only); rw [e1.1, e1.2]; exact hP) (by (try dsimp only); rw [e1.1, e1.2]; exact hD) hK hS (by decide) (by decide) dX4_readNumber_92 (by rw [e1.1]; rfl)
          · skip
            refine lv_aload_n hX_ hB_ dX4_readNumber_71 rfl (lv_at hl 0 rfl) ?_
            refine lv_aload_n hX_ hB_ dX4_readNumber_72 rfl (lv_at hl 0 rfl) ?_
            refine va_get (D := G.1) (ci := 2) (v := .int (iz a)) (C := RX4) (T := TX4) (N := 7) hX_ hB_ hts hi_X4_readNumber_X4 hown hK.1 hP 0 rfl rfl 5 (by decide) (hts _ hw_X4_readNumber_3794a9) (fun _ h9 => h9) rfl dX4_readNumber_73 ?_
            refine back_i (wr := []) (run_V (As := [.int (iz a)]) (rest := []) (wc := [(h, .inr (2, [.ref sA, .int (iz size), .int (iz fault), .ref bA, .int (iz len), .int (iz a), .int heard])), (sA, .inl (G.2 0, 11, .inl (rv st))), (bA, .inl (G.2 0, 200, .inl (av bt)))]) F (c_X4_isDigitAt l G h sA bA st size fault len a heard bt a (by omega) (by omega) (by omega) _) ext0 gX4_readNumber_X4_isDigitAt rfl rfl rfl mdv_X4_isDigitAt ⟨Nat.le_of_ble_eq_true rfl, Nat.le_of_ble_eq_true rfl⟩ (va_recv hK.1 (hP.sub (ws' := [(h, .inr (2, [.ref sA, .int (iz size), .int (iz fault), .ref bA, .int (iz len), .int (iz a), .int heard])), (sA, .inl (G.2 0, 11, .inl (rv st))), (bA, .inl (G.2 0, 200, .inl (av bt)))]) [0, 1, 2] rfl) (ci := 2) (q0 := 0) rfl rfl) (pre_of ext0 hK hP hD hS hA trivial [0, 1, 2] (by decide) rfl _) rfl hl.1 (Nat.le_of_ble_eq_true rfl) dX4_readNumber_76 ⟨by decide, by decide⟩) hP hD hS hA [0, 1, 2] [] rfl rfl (by decide) (by decide) (fun r__ u__ H locs hw hP hD hS => ?_)
            subst hw
            have hP := hP.sub (ws' := [(h, .inr (2, [.ref sA, .int (iz size), .int (iz fault), .ref bA, .int (iz len), .int (iz a), .int heard])), (sA, .inl (G.2 0, 11, .inl (rv st))), (bA, .inl (G.2 0, 200, .inl (av bt)))]) [0, 1, 2] rfl
            have hD := hD.sub (ws' := [(h, .inr (2, [.ref sA, .int (iz size), .int (iz fault), .ref bA, .int (iz len), .int (iz a), .int heard])), (sA, .inl (G.2 0, 11, .inl (rv st))), (bA, .inl (G.2 0, 200, .inl (av bt)))]) [0, 1, 2] (by decide) rfl
            refine zk_bif_eq (tgt := 93) hX_ hB_ dX4_readNumber_79 (by decide) (fun c_79 => ?_) (fun c_79 => ?_)
            · skip
              refine lv_iload_n hX_ hB_ dX4_readNumber_93 rfl (lv_at hl 2 rfl) ?_
              have e1 : nOk bt len at_ = true ∧ nP bt len at_ = a ∧ nV bt len at_ = v := num_ok hi hv c_68 c_79 (by first | exact Or.inl c_19 | exact Or.inr c_29)
              exact fin_i (wf := (fun _ : Unit => [(h, .inr (2, [.ref sA, .int (iz size), .int (iz (if nOk bt len at_ then fault else nP bt len at_)), .ref bA, .int (iz len), .int (iz (nP bt len at_)), .int heard])), (sA, .inl (G.2 0, 11, .inl (rv st))), (bA, .inl (G.2 0, 200, .inl (av bt)))])) () F rfl (by (try dsimp only); rw [e1.1, e1.2.1]; exact hP) (by (try dsimp only); rw [e1.1, e1.2.1]; exact hD) hK hS (by decide) (by decide) dX4_readNumber_94 (by rw [e1.1, e1.2.2]; rfl)
            · skip
              refine lv_aload_n hX_ hB_ dX4_readNumber_82 rfl (lv_at hl 0 rfl) ?_
              refine lv_aload_n hX_ hB_ dX4_readNumber_83 rfl (lv_at hl 0 rfl) ?_
              refine va_get (D := G.1) (ci := 2) (v := .int (iz a)) (C := RX4) (T := TX4) (N := 7) hX_ hB_ hts hi_X4_readNumber_X4 hown hK.1 hP 0 rfl rfl 5 (by decide) (hts _ hw_X4_readNumber_3794a9) (fun _ h9 => h9) rfl dX4_readNumber_84 ?_
              refine back_i (wr := []) (run_V (As := [.int (iz a)]) (rest := []) (wc := [(h, .inr (2, [.ref sA, .int (iz size), .int (iz fault), .ref bA, .int (iz len), .int (iz a), .int heard])), (sA, .inl (G.2 0, 11, .inl (rv st))), (bA, .inl (G.2 0, 200, .inl (av bt)))]) F (c_X4_refuse l G h sA bA st size fault len a heard bt a _) ext0 gX4_readNumber_X4_refuse rfl rfl rfl mdv_X4_refuse ⟨Nat.le_of_ble_eq_true rfl, Nat.le_of_ble_eq_true rfl⟩ (va_recv hK.1 (hP.sub (ws' := [(h, .inr (2, [.ref sA, .int (iz size), .int (iz fault), .ref bA, .int (iz len), .int (iz a), .int heard])), (sA, .inl (G.2 0, 11, .inl (rv st))), (bA, .inl (G.2 0, 200, .inl (av bt)))]) [0, 1, 2] rfl) (ci := 2) (q0 := 0) rfl rfl) (pre_of ext0 hK hP hD hS hA trivial [0, 1, 2] (by decide) rfl _) rfl hl.1 (Nat.le_of_ble_eq_true rfl) dX4_readNumber_87 ⟨by decide, by decide⟩) hP hD hS hA [0, 1, 2] [] rfl rfl (by decide) (by decide) (fun r__ u__ H locs hw hP hD hS => ?_)
              subst hw
              have hP := hP.sub (ws' := [(h, .inr (2, [.ref sA, .int (iz size), .int (iz a), .ref bA, .int (iz len), .int (iz a), .int heard])), (sA, .inl (G.2 0, 11, .inl (rv st))), (bA, .inl (G.2 0, 200, .inl (av bt)))]) [0, 1, 2] rfl
              have hD := hD.sub (ws' := [(h, .inr (2, [.ref sA, .int (iz size), .int (iz a), .ref bA, .int (iz len), .int (iz a), .int heard])), (sA, .inl (G.2 0, 11, .inl (rv st))), (bA, .inl (G.2 0, 200, .inl (av bt)))]) [0, 1, 2] (by decide) rfl
              refine lv_pop hX_ hB_ dX4_readNumber_90 rfl ?_
              refine zk_iconst hX_ hB_ dX4_readNumber_91 ?_
              have e1 : nOk bt len at_ = false ∧ nP bt len at_ = a := num_bad hi hv (by first | exact Or.inl c_68 | exact Or.inr ⟨c_68, c_79⟩) (by first | exact Or.inl c_19 | exact Or.inr c_29)
              exact fin_i (wf := (fun _ : Unit => [(h, .inr (2, [.ref sA, .int (iz size), .int (iz (if nOk bt len at_ then fault else nP bt len at_)), .ref bA, .int (iz len), .int (iz (nP bt len at_)), .int heard])), (sA, .inl (G.2 0, 11, .inl (rv st))), (bA, .inl (G.2 0, 200, .inl (av bt)))])) () F rfl (by (try dsimp only); rw [e1.1, e1.2]; exact hP) (by (try dsimp only); rw [e1.1, e1.2]; exact hD) hK hS (by decide) (by decide) dX4_readNumber_92 (by rw [e1.1]; rfl)
        · skip
          have hd0 : dg bt len a = true := c_19
          have hd1 := of_decide_eq_true hd0
          have hBa := hB a
          refine lv_iload_n hX_ hB_ dX4_readNumber_32 rfl (lv_at hl 2 rfl) ?_
          refine zk_bipush hX_ hB_ (by decide) dX4_readNumber_33 ?_
          refine zk_imul hX_ hB_ dX4_readNumber_35 ?_
          refine lv_aload_n hX_ hB_ dX4_readNumber_36 rfl (lv_at hl 0 rfl) ?_
          refine va_get (D := G.1) (ci := 2) (v := .ref bA) (C := RX4) (T := TX4) (N := 7) hX_ hB_ hts hi_X4_readNumber_X4 hown hK.1 hP 0 rfl rfl 3 (by decide) (hts _ hw_X4_readNumber_932782) (fun _ h9 => h9) rfl dX4_readNumber_37 ?_
          refine lv_aload_n hX_ hB_ dX4_readNumber_40 rfl (lv_at hl 0 rfl) ?_
          refine va_get (D := G.1) (ci := 2) (v := .int (iz a)) (C := RX4) (T := TX4) (N := 7) hX_ hB_ hts hi_X4_readNumber_X4 hown hK.1 hP 0 rfl rfl 5 (by decide) (hts _ hw_X4_readNumber_3794a9) (fun _ h9 => h9) rfl dX4_readNumber_41 ?_
          refine zk_iald hX_ hB_ hK.1 hP 2 0 rfl rfl (by omega) (by decide) dX4_readNumber_44 ?_
          refine zk_iadd hX_ hB_ dX4_readNumber_45 ?_
          refine zk_bipush hX_ hB_ (by decide) dX4_readNumber_46 ?_
          refine zk_isub hX_ hB_ dX4_readNumber_48 ?_
          refine lv_istore_n (lv' := [(2, .int (iz (((v * 10) + (bt a)) - 48))), (0, .ref h), (1, .int (iz (sk bt len at_)))]) hX_ hB_ dX4_readNumber_49 rfl hl (by decide) rfl (fun ls hl => ?_)
          refine lv_aload_n hX_ hB_ dX4_readNumber_50 rfl (lv_at hl 1 rfl) ?_
          refine lv_dup hX_ hB_ dX4_readNumber_51 rfl ?_
          refine va_get (D := G.1) (ci := 2) (v := .int (iz a)) (C := RX4) (T := TX4) (N := 7) hX_ hB_ hts hi_X4_readNumber_X4 hown hK.1 hP 0 rfl rfl 5 (by decide) (hts _ hw_X4_readNumber_3794a9) (fun _ h9 => h9) rfl dX4_readNumber_52 ?_
          refine zk_iconst hX_ hB_ dX4_readNumber_55 ?_
          refine zk_iadd hX_ hB_ dX4_readNumber_56 ?_
          refine va_put (D := G.1) (ci := 2) (v := .int (iz (a + 1))) (ty := .int) (C := RX4) (T := TX4) (N := 7) hX_ hB_ hts hi_X4_readNumber_X4 tyX4 tyX4_ok nmX4 hown hK.1 hP hD hS 0 rfl rfl 5 (by decide) (hts _ hw_X4_readNumber_3794a9) (fun _ h9 => h9) rfl (by decide +kernel) rfl rfl (Nat.le_of_ble_eq_true rfl) dX4_readNumber_57 (fun H locs hP hD hS => ?_)
          have hP : va_P G.1 vwCl [(h, .inr (2, [.ref sA, .int (iz size), .int (iz fault), .ref bA, .int (iz len), .int (iz (a + 1)), .int heard])), (sA, .inl (G.2 0, 11, .inl (rv st))), (bA, .inl (G.2 0, 200, .inl (av bt)))] _ := hP
          have hD : va_D A [(h, .inr (2, [.ref sA, .int (iz size), .int (iz fault), .ref bA, .int (iz len), .int (iz (a + 1)), .int heard])), (sA, .inl (G.2 0, 11, .inl (rv st))), (bA, .inl (G.2 0, 200, .inl (av bt)))] := hD
          refine lv_goto (tgt := 11) hX_ hB_ dX4_readNumber_60 (by decide) ?_
          have hn : a + 1 ≤ len := by omega
          exact ih_11 (a + 1) (((v * 10) + (bt a)) - 48) (by omega) (by rcases hv with ⟨q1, q2⟩ | ⟨q1, q2, q3⟩ | ⟨q1, q2, q3, q4⟩; (subst q1; right; left; exact ⟨rfl, hd0, by omega⟩); (subst q1; right; right; exact ⟨by omega, q2, hd0, by omega⟩); omega) (by omega) _ _ hP hD hS ls (lv_sub hl [1, 2, 0] rfl)
  exact loop_11 _ (sk bt len at_) 0 (by omega) (by left; exact ⟨rfl, rfl⟩) (Nat.lt_succ_self _) _ _ hP hD hS ls (lv_sub hl [2, 1, 0] rfl)
