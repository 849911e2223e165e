/-- what a wheel's row says of its seats -/
def WP (P : Int) (fr : Bool) (g : Int → Int64) (q : Int → Bool) : Prop := ∀ i : Int, 0 ≤ i → i < P + 60 → (fr || tb g i) = q (i % P)
def WI (P : Int) (i : Int) (g : Int → Int64) (q : Int → Bool) : Prop := ∀ j : Int, 0 ≤ j → j < P + 60 → tb g j = (decide (j % P < i) && q (j % P))
theorem WI_0 {P : Int} {q : Int → Bool} (hP : 0 < P) : WI P 0 (fun _ => lz 0) q := by
  intro j h1 h2
  have h3 : ¬ j % P < 0 := by
    have := Int.emod_nonneg j (show P ≠ 0 by omega)
    omega
  have e0 : (lz 0).toBitVec = 0#64 := by decide
  unfold tb
  simp [h3, e0]
theorem WI_yes {P i : Int} {g g2 : Int → Int64} {q : Int → Bool} (h : WI P i g q) (h2 : ∀ j : Int, 0 ≤ j → j < P + 60 → tb g2 j = (tb g j || decide (j % P = i))) (hq : q i = true) : WI P (i + 1) g2 q := by
  intro j h1 h3
  rw [h2 j h1 h3, h j h1 h3]
  by_cases e : j % P = i
  · have h4 : i < i + 1 := by omega
    rw [e]
    simp [hq, h4]
  · by_cases h5 : j % P < i
    · have h6 : j % P < i + 1 := by omega
      simp [h5, h6, e]
    · have h6 : ¬ j % P < i + 1 := by omega
      simp [h5, h6, e]
theorem WI_no {P i : Int} {g : Int → Int64} {q : Int → Bool} (h : WI P i g q) (hq : q i = false) : WI P (i + 1) g q := by
  intro j h1 h3
  rw [h j h1 h3]
  by_cases e : j % P = i
  · rw [e]
    simp [hq]
  · by_cases h5 : j % P < i
    · have h6 : j % P < i + 1 := by omega
      simp [h5, h6]
    · have h6 : ¬ j % P < i + 1 := by omega
      simp [h5, h6]
theorem WP_full {P : Int} {g : Int → Int64} {q : Int → Bool} {fr : Bool} (hP : 0 < P) (hf : fr = false) (h : WI P P g q) : WP P fr g q := by
  intro j h1 h2
  have h3 := Int.emod_lt_of_pos j hP
  rw [h j h1 h2, hf]
  simp [h3]
theorem WP_free {P : Int} {g : Int → Int64} {q : Int → Bool} {fr : Bool} (hP : 0 < P) (hf : fr = true) (hq : ∀ i : Int, 0 ≤ i → i < P → q i = true) : WP P fr g q := by
  intro j h1 h2
  rw [hf, hq _ (Int.emod_nonneg j (by omega)) (Int.emod_lt_of_pos j hP)]
  rfl
theorem hold_any {v : Int} (h : 0 ≤ v ∧ v < 32) : hold (iz (-1)) v = true := by
  have h1 : ∀ k : Nat, k < 32 → hold (iz (-1)) (k : Int) = true := by decide
  have := h1 v.toNat (by omega)
  rwa [Int.toNat_of_nonneg h.1] at this
theorem and_any {a b : Int32} (h : a &&& b = iz (-1)) : a = iz (-1) ∧ b = iz (-1) := by
  have hm : (iz (-1)).toBitVec = BitVec.allOnes 32 := by decide
  have h1 : (a &&& b).toBitVec = BitVec.allOnes 32 := by rw [h, hm]
  rw [Int32.toBitVec_and] at h1
  have h2 : ∀ i, i < 32 → a.toBitVec.getLsbD i = true ∧ b.toBitVec.getLsbD i = true := by
    intro i hi
    have h3 : (a.toBitVec &&& b.toBitVec).getLsbD i = true := by rw [h1, BitVec.getLsbD_allOnes]; simp [hi]
    rw [BitVec.getLsbD_and] at h3
    simpa using h3
  constructor
  · apply Int32.toBitVec_inj.1
    rw [hm]
    apply BitVec.eq_of_getLsbD_eq
    intro i hi
    rw [(h2 i hi).1, BitVec.getLsbD_allOnes]
    simp [hi]
  · apply Int32.toBitVec_inj.1
    rw [hm]
    apply BitVec.eq_of_getLsbD_eq
    intro i hi
    rw [(h2 i hi).2, BitVec.getLsbD_allOnes]
    simp [hi]
def qInner (a b c f : Int32) (i : Int) : Bool := hold a (sgn (1152000 + i) 3 0) && hold b (sgn (1152000 + i) 4 0) && hold c (sgn (1152000 + i) 6 0) && hold f (sgn (1152000 + i) 9 0)
def qThirteen (a : Int32) (i : Int) : Bool := hold a (i + 1)
def qYear (a b : Int32) (i : Int) : Bool := hold a (i % 20) && hold b (i / 20)
def qLunar (a : Int32) (i : Int) : Bool := hold a (sgn i 10 0)
theorem qLunar_any {i : Int} (h : 0 ≤ i) (h2 : i < 4400) : qLunar (iz (-1)) i = true := by
  unfold qLunar
  refine hold_any ?_
  unfold sgn
  simp
  omega
theorem qInner_any {i : Int} (h : 0 ≤ i) (h2 : i < 360) : qInner (iz (-1)) (iz (-1)) (iz (-1)) (iz (-1)) i = true := by
  unfold qInner
  rw [hold_any (by unfold sgn; simp; omega), hold_any (by unfold sgn; simp; omega), hold_any (by unfold sgn; simp; omega), hold_any (by unfold sgn; simp; omega)]
  rfl

theorem mdv_X7_reset : yX7_reset.cls = RX7 ∧ yX7_reset.cls ≠ "java/lang/invoke/MethodHandle" ∧ yX7_reset.cls ≠ "java/lang/invoke/VarHandle" ∧ (parseMethodDescriptor yX7_reset.desc).map (fun d => d.parameters.length) = some 1 := by decide +kernel
theorem hw_X1_turnThirteen_acb36f : (.fieldLink RX1 24 "StoneDates$Finder" "thirteen" "LStoneDates$Wheel;" : Cond) ∈ wsX1_turnThirteen := by decide +kernel
theorem hi_X1_turnThirteen_X1 : ∀ w ∈ u_ws RX1 TX1 7, w ∈ wsX1_turnThirteen := by decide +kernel
theorem mdv_X7_mark : yX7_mark.cls = RX7 ∧ yX7_mark.cls ≠ "java/lang/invoke/MethodHandle" ∧ yX7_mark.cls ≠ "java/lang/invoke/VarHandle" ∧ (parseMethodDescriptor yX7_mark.desc).map (fun d => d.parameters.length) = some 1 := by decide +kernel
set_option maxHeartbeats 4000000 in
set_option maxRecDepth 100000 in
theorem c_X1_turnThirteen (l : Launch) (G : GG) (h : Nat) (dA : Nat) (w1 : Nat) (w2 : Nat) (w3 : Nat) (w4 : Nat) (b2 : Nat) (kept : Int) (many : Int) (fr : Bool) (g : Int → Int64) (nu : Int32) : Cv l yX1_turnThirteen wsX1_turnThirteen ({ frames := 2, cells := 0, slots := 0, locals := 45 }) G E0 [.ref h, .int nu] [(h, .inr (0, [.ref dA, .int (iz kept), .int (iz many), .ref w1, .ref w2, .ref w3, .ref w4])), (w2, .inr (5, [.int (iz 13), .ref b2, .int (zb fr)])), (b2, .inl (G.2 2, 3, .inr (.inl (rv g))))] 0 0 (fun u : Bool × (Int → Int64) => match u with | (fr2, g2) => [(h, .inr (0, [.ref dA, .int (iz kept), .int (iz many), .ref w1, .ref w2, .ref w3, .ref w4])), (w2, .inr (5, [.int (iz 13), .ref b2, .int (zb fr2)])), (b2, .inl (G.2 2, 3, .inr (.inl (rv g2))))]) (fun (u : Bool × (Int → Int64)) => match u with | (fr2, g2) => WP 13 fr2 g2 (qThirteen nu)) := by
  refine Cv_intro (cc := cX1_turnThirteen) (maxL := 3) (ret := none) (by decide) rfl (Nat.le_of_ble_eq_true rfl) ?_
  intro p e s m below meth c A F hA hP hD hK hE ls hl
  have hX_ := F.1
  have hB_ := F.2.1
  have hts := F.2.2.2.2.2.1
  have hown := F.2.2.2.2.1
  have hml := F.2.2.2.1
  have hS : va_S A s.heap s.heap [] := va_S.rf
  have hl : lv_has ls 3 [(0, .ref h), (1, .int nu)] := hl
  have join_14 : ∀ (f2 : Bool), (f2 = decide (nu = iz (-1))) → ∀ (H : Heap) (locs : List Loc), va_P G.1 vwCl [(h, .inr (0, [.ref dA, .int (iz kept), .int (iz many), .ref w1, .ref w2, .ref w3, .ref w4])), (w2, .inr (5, [.int (iz 13), .ref b2, .int (zb fr)])), (b2, .inl (G.2 2, 3, .inr (.inl (rv g))))] H → va_D A [(h, .inr (0, [.ref dA, .int (iz kept), .int (iz many), .ref w1, .ref w2, .ref w3, .ref w4])), (w2, .inr (5, [.int (iz 13), .ref b2, .int (zb fr)])), (b2, .inl (G.2 2, 3, .inr (.inl (rv g))))] → va_S A s.heap H locs → ∀ ls : Array Slot, lv_has ls 3 [(0, .ref h), (1, .int nu)] → W p l e ({ frames := 2, cells := 0, slots := 0, locals := 45 }) s m ([.ref h, .int nu] : List Value).toArray below meth c H locs 0 0 (MQ below (va_Qv (fun (u : Bool × (Int → Int64)) => match u with | (fr2, g2) => WP 13 fr2 g2 (qThirteen nu)) (fun u__ t__ => Pst G A ((fun u : Bool × (Int → Int64) => match u with | (fr2, g2) => [(h, .inr (0, [.ref dA, .int (iz kept), .int (iz many), .ref w1, .ref w2, .ref w3, .ref w4])), (w2, .inr (5, [.int (iz 13), .ref b2, .int (zb fr2)])), (b2, .inl (G.2 2, 3, .inr (.inl (rv g2))))]) u__) t__) A) ([.ref h, .int nu] : List Value).toArray s 0 0 A) (F0 m 14 ls [.int (zb f2), .ref w2]) := by
    intro f2 hf2 H locs hP hD hS ls hl
    refine back_v (wr := [(h, .inr (0, [.ref dA, .int (iz kept), .int (iz many), .ref w1, .ref w2, .ref w3, .ref w4]))]) (run_V (As := [.int (zb f2)]) (rest := []) (wc := [(w2, .inr (5, [.int (iz 13), .ref b2, .int (zb fr)])), (b2, .inl (G.2 2, 3, .inr (.inl (rv g))))]) F (c_X7_reset l G w2 b2 3 13 g fr f2 (by omega) _) ext0 gX1_turnThirteen_X7_reset rfl rfl rfl mdv_X7_reset ⟨Nat.le_of_ble_eq_true rfl, Nat.le_of_ble_eq_true rfl⟩ (va_recv hK.1 (hP.sub (ws' := [(w2, .inr (5, [.int (iz 13), .ref b2, .int (zb fr)])), (b2, .inl (G.2 2, 3, .inr (.inl (rv g))))]) [1, 2] rfl) (ci := 5) (q0 := 0) rfl rfl) (pre_of ext0 hK hP hD hS hA trivial [1, 2] (by decide) rfl _) rfl hl.1 (Nat.le_of_ble_eq_true rfl) dX1_turnThirteen_14 ⟨by decide, by decide⟩) hP hD hS hA [1, 2] [0] rfl rfl (by decide) (by decide) (fun u__ H locs hw hP hD hS => ?_)
    have hw_14 := hw
    have hP := hP.sub (ws' := [(h, .inr (0, [.ref dA, .int (iz kept), .int (iz many), .ref w1, .ref w2, .ref w3, .ref w4])), (w2, .inr (5, [.int (iz 13), .ref b2, .int (zb f2)])), (b2, .inl (G.2 2, 3, .inr (.inl (rv (fun _ => (lz 0))))))]) [0, 1, 2] rfl
    have hD := hD.sub (ws' := [(h, .inr (0, [.ref dA, .int (iz kept), .int (iz many), .ref w1, .ref w2, .ref w3, .ref w4])), (w2, .inr (5, [.int (iz 13), .ref b2, .int (zb f2)])), (b2, .inl (G.2 2, 3, .inr (.inl (rv (fun _ => (lz 0))))))]) [0, 1, 2] (by decide) rfl
    refine zk_iconst hX_ hB_ dX1_turnThirteen_17 ?_
    refine lv_istore_n (lv' := [(2, .int (iz 0)), (0, .ref h), (1, .int nu)]) hX_ hB_ dX1_turnThirteen_18 rfl hl (by decide) rfl (fun ls hl => ?_)
    have loop_19 : ∀ (n_19 : Nat), ∀ (i : Int) (gg : Int → Int64), (0 ≤ i ∧ i ≤ 13) → (WI 13 i gg (qThirteen nu)) → ((13 - i).toNat < n_19) → ∀ (H : Heap) (locs : List Loc), va_P G.1 vwCl [(h, .inr (0, [.ref dA, .int (iz kept), .int (iz many), .ref w1, .ref w2, .ref w3, .ref w4])), (w2, .inr (5, [.int (iz 13), .ref b2, .int (zb f2)])), (b2, .inl (G.2 2, 3, .inr (.inl (rv gg))))] H → va_D A [(h, .inr (0, [.ref dA, .int (iz kept), .int (iz many), .ref w1, .ref w2, .ref w3, .ref w4])), (w2, .inr (5, [.int (iz 13), .ref b2, .int (zb f2)])), (b2, .inl (G.2 2, 3, .inr (.inl (rv gg))))] → va_S A s.heap H locs → ∀ ls : Array Slot, lv_has ls 3 [(0, .ref h), (1, .int nu), (2, .int (iz i))] → W p l e ({ frames := 2, cells := 0, slots := 0, locals := 45 }) s m ([.ref h, .int nu] : List Value).toArray below meth c H locs 0 0 (MQ below (va_Qv (fun (u : Bool × (Int → Int64)) => match u with | (fr2, g2) => WP 13 fr2 g2 (qThirteen nu)) (fun u__ t__ => Pst G A ((fun u : Bool × (Int → Int64) => match u with | (fr2, g2) => [(h, .inr (0, [.ref dA, .int (iz kept), .int (iz many), .ref w1, .ref w2, .ref w3, .ref w4])), (w2, .inr (5, [.int (iz 13), .ref b2, .int (zb fr2)])), (b2, .inl (G.2 2, 3, .inr (.inl (rv g2))))]) u__) t__) A) ([.ref h, .int nu] : List Value).toArray s 0 0 A) (F0 m 19 ls []) := by
      intro n_19
      induction n_19 with
      | zero =>
        intro i gg hi hg hm H locs hP hD hS ls hl
        exact absurd hm (Nat.not_lt_zero _)
      | succ n_19 ih_19 =>
        intro i gg hi hg hm H locs hP hD hS ls hl
        have join_48 : ∀ (g3 : Int → Int64), (i < 13) → (WI 13 (i + 1) g3 (qThirteen nu)) → ∀ (H : Heap) (locs : List Loc), va_P G.1 vwCl [(h, .inr (0, [.ref dA, .int (iz kept), .int (iz many), .ref w1, .ref w2, .ref w3, .ref w4])), (w2, .inr (5, [.int (iz 13), .ref b2, .int (zb f2)])), (b2, .inl (G.2 2, 3, .inr (.inl (rv g3))))] H → va_D A [(h, .inr (0, [.ref dA, .int (iz kept), .int (iz many), .ref w1, .ref w2, .ref w3, .ref w4])), (w2, .inr (5, [.int (iz 13), .ref b2, .int (zb f2)])), (b2, .inl (G.2 2, 3, .inr (.inl (rv g3))))] → va_S A s.heap H locs → ∀ ls : Array Slot, lv_has ls 3 [(0, .ref h), (1, .int nu), (2, .int (iz i))] → W p l e ({ frames := 2, cells := 0, slots := 0, locals := 45 }) s m ([.ref h, .int nu] : List Value).toArray below meth c H locs 0 0 (MQ below (va_Qv (fun (u : Bool × (Int → Int64)) => match u with | (fr2, g2) => WP 13 fr2 g2 (qThirteen nu)) (fun u__ t__ => Pst G A ((fun u : Bool × (Int → Int64) => match u with | (fr2, g2) => [(h, .inr (0, [.ref dA, .int (iz kept), .int (iz many), .ref w1, .ref w2, .ref w3, .ref w4])), (w2, .inr (5, [.int (iz 13), .ref b2, .int (zb fr2)])), (b2, .inl (G.2 2, 3, .inr (.inl (rv g2))))]) u__) t__) A) ([.ref h, .int nu] : List Value).toArray s 0 0 A) (F0 m 48 ls []) := by
          intro g3 hi3 hg3 H locs hP hD hS ls hl
          refine lv_iinc (v := (iz (i + 1))) (lv' := [(2, .int (iz (i + 1))), (0, .ref h), (1, .int nu)]) hX_ hB_ dX1_turnThirteen_48 hl (k := 2) rfl (iz_add _ _) (by decide) rfl (fun ls hl => ?_)
          refine lv_goto (tgt := 19) hX_ hB_ dX1_turnThirteen_51 (by decide) ?_
          exact ih_19 (i + 1) g3 (by omega) (by exact hg3) (by omega) _ _ hP hD hS ls (lv_sub hl [1, 2, 0] rfl)
        refine lv_iload_n hX_ hB_ dX1_turnThirteen_19 rfl (lv_at hl 2 rfl) ?_
        refine zk_bipush hX_ hB_ (by decide) dX1_turnThirteen_20 ?_
        refine zk_icmp_ge (tgt := 54) hX_ hB_ (by omega) (by omega) dX1_turnThirteen_22 (by decide) (fun c_22 => ?_) (fun c_22 => ?_)
        · skip
          exact fin_v (wf := (fun u : Bool × (Int → Int64) => match u with | (fr2, g2) => [(h, .inr (0, [.ref dA, .int (iz kept), .int (iz many), .ref w1, .ref w2, .ref w3, .ref w4])), (w2, .inr (5, [.int (iz 13), .ref b2, .int (zb fr2)])), (b2, .inl (G.2 2, 3, .inr (.inl (rv g2))))])) (f2, gg) F hP hD hK hS (by decide) (by decide) dX1_turnThirteen_54 (by by_cases q9 : nu = iz (-1); exact WP_free (by omega) (by rw [hf2]; simp [q9]) (fun i h1 h2 => by rw [q9]; exact hold_any (by omega)); exact WP_full (by omega) (by rw [hf2]; simp [q9]) (by have : i = 13 := (by omega); subst this; exact hg))
        · skip
          refine lv_iload_n hX_ hB_ dX1_turnThirteen_25 rfl (lv_at hl 1 rfl) ?_
          refine zk_iconst hX_ hB_ dX1_turnThirteen_26 ?_
          refine lv_icmp_eq (tgt := 54) hX_ hB_ dX1_turnThirteen_27 (by decide) (fun c_27 => ?_) (fun c_27 => ?_)
          · skip
            exact fin_v (wf := (fun u : Bool × (Int → Int64) => match u with | (fr2, g2) => [(h, .inr (0, [.ref dA, .int (iz kept), .int (iz many), .ref w1, .ref w2, .ref w3, .ref w4])), (w2, .inr (5, [.int (iz 13), .ref b2, .int (zb fr2)])), (b2, .inl (G.2 2, 3, .inr (.inl (rv g2))))])) (f2, gg) F hP hD hK hS (by decide) (by decide) dX1_turnThirteen_54 (by have q9 := c_27; exact WP_free (by omega) (by rw [hf2]; simp [c_27]) (fun i h1 h2 => by rw [q9]; exact hold_any (by omega)))
          · skip
            refine lv_iload_n hX_ hB_ dX1_turnThirteen_30 rfl (lv_at hl 1 rfl) ?_
            refine lv_iload_n hX_ hB_ dX1_turnThirteen_31 rfl (lv_at hl 2 rfl) ?_
            refine zk_iconst hX_ hB_ dX1_turnThirteen_32 ?_
            refine zk_iadd hX_ hB_ dX1_turnThirteen_33 ?_
            refine back_i (wr := [(h, .inr (0, [.ref dA, .int (iz kept), .int (iz many), .ref w1, .ref w2, .ref w3, .ref w4])), (w2, .inr (5, [.int (iz 13), .ref b2, .int (zb f2)])), (b2, .inl (G.2 2, 3, .inr (.inl (rv gg))))]) (run_S (As := [.int nu, .int (iz (i + 1))]) (rest := []) (wc := []) F (c_X0_holds l G nu (i + 1) (by omega) _) ext0 gX1_turnThirteen_X0_holds rfl rfl rfl mds_X0_holds ⟨Nat.le_of_ble_eq_true rfl, Nat.le_of_ble_eq_true rfl⟩ (pre_of ext0 hK hP hD hS hA trivial [] (by decide) rfl _) rfl hl.1 (Nat.le_of_ble_eq_true rfl) dX1_turnThirteen_34 ⟨by decide, by decide⟩) hP hD hS hA [] [0, 1, 2] rfl rfl (by decide) (by decide) (fun r__ u__ H locs hw hP hD hS => ?_)
            subst hw
            have hP := hP.sub (ws' := [(h, .inr (0, [.ref dA, .int (iz kept), .int (iz many), .ref w1, .ref w2, .ref w3, .ref w4])), (w2, .inr (5, [.int (iz 13), .ref b2, .int (zb f2)])), (b2, .inl (G.2 2, 3, .inr (.inl (rv gg))))]) [0, 1, 2] rfl
            have hD := hD.sub (ws' := [(h, .inr (0, [.ref dA, .int (iz kept), .int (iz many), .ref w1, .ref w2, .ref w3, .ref w4])), (w2, .inr (5, [.int (iz 13), .ref b2, .int (zb f2)])), (b2, .inl (G.2 2, 3, .inr (.inl (rv gg))))]) [0, 1, 2] (by decide) rfl
            refine zk_bif_eq (tgt := 48) hX_ hB_ dX1_turnThirteen_37 (by decide) (fun c_37 => ?_) (fun c_37 => ?_)
            · skip
              exact join_48 gg (by omega) (by exact WI_no hg c_37) _ _ hP hD hS ls (lv_sub hl [0, 1, 2] rfl)
            · skip
              refine lv_aload_n hX_ hB_ dX1_turnThirteen_40 rfl (lv_at hl 0 rfl) ?_
              refine va_get (D := G.1) (ci := 0) (v := .ref w2) (C := RX1) (T := TX1) (N := 7) hX_ hB_ hts hi_X1_turnThirteen_X1 hown hK.1 hP 0 rfl rfl 4 (by decide) (hts _ hw_X1_turnThirteen_acb36f) (fun _ h9 => h9) rfl dX1_turnThirteen_41 ?_
              refine lv_iload_n hX_ hB_ dX1_turnThirteen_44 rfl (lv_at hl 2 rfl) ?_
              refine back_v (wr := [(h, .inr (0, [.ref dA, .int (iz kept), .int (iz many), .ref w1, .ref w2, .ref w3, .ref w4]))]) (run_V (As := [.int (iz i)]) (rest := []) (wc := [(w2, .inr (5, [.int (iz 13), .ref b2, .int (zb f2)])), (b2, .inl (G.2 2, 3, .inr (.inl (rv gg))))]) F (c_X7_mark l G w2 b2 3 13 gg f2 i (by omega) (by omega) (by omega) _) ext0 gX1_turnThirteen_X7_mark rfl rfl rfl mdv_X7_mark ⟨Nat.le_of_ble_eq_true rfl, Nat.le_of_ble_eq_true rfl⟩ (va_recv hK.1 (hP.sub (ws' := [(w2, .inr (5, [.int (iz 13), .ref b2, .int (zb f2)])), (b2, .inl (G.2 2, 3, .inr (.inl (rv gg))))]) [1, 2] rfl) (ci := 5) (q0 := 0) rfl rfl) (pre_of ext0 hK hP hD hS hA trivial [1, 2] (by decide) rfl _) rfl hl.1 (Nat.le_of_ble_eq_true rfl) dX1_turnThirteen_45 ⟨by decide, by decide⟩) hP hD hS hA [1, 2] [0] rfl rfl (by decide) (by decide) (fun u__ H locs hw hP hD hS => ?_)
              obtain ⟨g45, rfl⟩ : ∃ z, z = u__ := ⟨_, rfl⟩
              try dsimp only at hw hP hD
              have hw_45 := hw
              have hP := hP.sub (ws' := [(h, .inr (0, [.ref dA, .int (iz kept), .int (iz many), .ref w1, .ref w2, .ref w3, .ref w4])), (w2, .inr (5, [.int (iz 13), .ref b2, .int (zb f2)])), (b2, .inl (G.2 2, 3, .inr (.inl (rv g45))))]) [0, 1, 2] rfl
              have hD := hD.sub (ws' := [(h, .inr (0, [.ref dA, .int (iz kept), .int (iz many), .ref w1, .ref w2, .ref w3, .ref w4])), (w2, .inr (5, [.int (iz 13), .ref b2, .int (zb f2)])), (b2, .inl (G.2 2, 3, .inr (.inl (rv g45))))]) [0, 1, 2] (by decide) rfl
              exact join_48 g45 (by omega) (by exact WI_yes hg hw_45 c_37) _ _ hP hD hS ls (lv_sub hl [0, 1, 2] rfl)
    exact loop_19 _ 0 (fun _ => (lz 0)) (by omega) (by exact WI_0 (by omega)) (Nat.lt_succ_self _) _ _ hP hD hS ls (lv_sub hl [1, 2, 0] rfl)
  refine lv_aload_n hX_ hB_ dX1_turnThirteen_0 rfl (lv_at hl 0 rfl) ?_
  refine va_get (D := G.1) (ci := 0) (v := .ref w2) (C := RX1) (T := TX1) (N := 7) hX_ hB_ hts hi_X1_turnThirteen_X1 hown hK.1 hP 0 rfl rfl 4 (by decide) (hts _ hw_X1_turnThirteen_acb36f) (fun _ h9 => h9) rfl dX1_turnThirteen_1 ?_
  refine lv_iload_n hX_ hB_ dX1_turnThirteen_4 rfl (lv_at hl 1 rfl) ?_
  refine zk_iconst hX_ hB_ dX1_turnThirteen_5 ?_
  refine lv_icmp_ne (tgt := 13) hX_ hB_ dX1_turnThirteen_6 (by decide) (fun c_6 => ?_) (fun c_6 => ?_)
  · skip
    refine zk_iconst hX_ hB_ dX1_turnThirteen_13 ?_
    refine zk_topi (y := (zb false)) rfl ?_
    exact join_14 false (by simp [c_6]) _ _ hP hD hS ls (lv_sub hl [0, 1] rfl)
  · skip
    refine zk_iconst hX_ hB_ dX1_turnThirteen_9 ?_
    refine zk_topi (y := (zb true)) rfl ?_
    refine lv_goto (tgt := 14) hX_ hB_ dX1_turnThirteen_10 (by decide) ?_
    exact join_14 true (by simp [c_6]) _ _ hP hD hS ls (lv_sub hl [0, 1] rfl)

theorem hw_X1_turnLunar_20a1a4 : (.fieldLink RX1 30 "StoneDates$Finder" "lunar" "LStoneDates$Wheel;" : Cond) ∈ wsX1_turnLunar := by decide +kernel
theorem hi_X1_turnLunar_X1 : ∀ w ∈ u_ws RX1 TX1 7, w ∈ wsX1_turnLunar := by decide +kernel
set_option maxHeartbeats 4000000 in
set_option maxRecDepth 100000 in
theorem c_X1_turnLunar (l : Launch) (G : GG) (h : Nat) (dA : Nat) (w1 : Nat) (w2 : Nat) (w3 : Nat) (w4 : Nat) (b4 : Nat) (kept : Int) (many : Int) (fr : Bool) (g : Int → Int64) (nu : Int32) : Cv l yX1_turnLunar wsX1_turnLunar ({ frames := 2, cells := 0, slots := 0, locals := 45 }) G E0 [.ref h, .int nu] [(h, .inr (0, [.ref dA, .int (iz kept), .int (iz many), .ref w1, .ref w2, .ref w3, .ref w4])), (w4, .inr (5, [.int (iz 4400), .ref b4, .int (zb fr)])), (b4, .inl (G.2 2, 71, .inr (.inl (rv g))))] 0 0 (fun u : Bool × (Int → Int64) => match u with | (fr2, g2) => [(h, .inr (0, [.ref dA, .int (iz kept), .int (iz many), .ref w1, .ref w2, .ref w3, .ref w4])), (w4, .inr (5, [.int (iz 4400), .ref b4, .int (zb fr2)])), (b4, .inl (G.2 2, 71, .inr (.inl (rv g2))))]) (fun (u : Bool × (Int → Int64)) => match u with | (fr2, g2) => WP 4400 fr2 g2 (qLunar nu)) := by
  refine Cv_intro (cc := cX1_turnLunar) (maxL := 3) (ret := none) (by decide) rfl (Nat.le_of_ble_eq_true rfl) ?_
  intro p e s m below meth c A F hA hP hD hK hE ls hl
  have hX_ := F.1
  have hB_ := F.2.1
  have hts := F.2.2.2.2.2.1
  have hown := F.2.2.2.2.1
  have hml := F.2.2.2.1
  have hS : va_S A s.heap s.heap [] := va_S.rf
  have hl : lv_has ls 3 [(0, .ref h), (1, .int nu)] := hl
  have join_14 : ∀ (f2 : Bool), (f2 = decide (nu = iz (-1))) → ∀ (H : Heap) (locs : List Loc), va_P G.1 vwCl [(h, .inr (0, [.ref dA, .int (iz kept), .int (iz many), .ref w1, .ref w2, .ref w3, .ref w4])), (w4, .inr (5, [.int (iz 4400), .ref b4, .int (zb fr)])), (b4, .inl (G.2 2, 71, .inr (.inl (rv g))))] H → va_D A [(h, .inr (0, [.ref dA, .int (iz kept), .int (iz many), .ref w1, .ref w2, .ref w3, .ref w4])), (w4, .inr (5, [.int (iz 4400), .ref b4, .int (zb fr)])), (b4, .inl (G.2 2, 71, .inr (.inl (rv g))))] → va_S A s.heap H locs → ∀ ls : Array Slot, lv_has ls 3 [(0, .ref h), (1, .int nu)] → W p l e ({ frames := 2, cells := 0, slots := 0, locals := 45 }) s m ([.ref h, .int nu] : List Value).toArray below meth c H locs 0 0 (MQ below (va_Qv (fun (u : Bool × (Int → Int64)) => match u with | (fr2, g2) => WP 4400 fr2 g2 (qLunar nu)) (fun u__ t__ => Pst G A ((fun u : Bool × (Int → Int64) => match u with | (fr2, g2) => [(h, .inr (0, [.ref dA, .int (iz kept), .int (iz many), .ref w1, .ref w2, .ref w3, .ref w4])), (w4, .inr (5, [.int (iz 4400), .ref b4, .int (zb fr2)])), (b4, .inl (G.2 2, 71, .inr (.inl (rv g2))))]) u__) t__) A) ([.ref h, .int nu] : List Value).toArray s 0 0 A) (F0 m 14 ls [.int (zb f2), .ref w4]) := by
    intro f2 hf2 H locs hP hD hS ls hl
    refine back_v (wr := [(h, .inr (0, [.ref dA, .int (iz kept), .int (iz many), .ref w1, .ref w2, .ref w3, .ref w4]))]) (run_V (As := [.int (zb f2)]) (rest := []) (wc := [(w4, .inr (5, [.int (iz 4400), .ref b4, .int (zb fr)])), (b4, .inl (G.2 2, 71, .inr (.inl (rv g))))]) F (c_X7_reset l G w4 b4 71 4400 g fr f2 (by omega) _) ext0 gX1_turnLunar_X7_reset rfl rfl rfl mdv_X7_reset ⟨Nat.le_of_ble_eq_true rfl, Nat.le_of_ble_eq_true rfl⟩ (va_recv hK.1 (hP.sub (ws' := [(w4, .inr (5, [.int (iz 4400), .ref b4, .int (zb fr)])), (b4, .inl (G.2 2, 71, .inr (.inl (rv g))))]) [1, 2] rfl) (ci := 5) (q0 := 0) rfl rfl) (pre_of ext0 hK hP hD hS hA trivial [1, 2] (by decide) rfl _) rfl hl.1 (Nat.le_of_ble_eq_true rfl) dX1_turnLunar_14 ⟨by decide, by decide⟩) hP hD hS hA [1, 2] [0] rfl rfl (by decide) (by decide) (fun u__ H locs hw hP hD hS => ?_)
    have hw_14 := hw
    have hP := hP.sub (ws' := [(h, .inr (0, [.ref dA, .int (iz kept), .int (iz many), .ref w1, .ref w2, .ref w3, .ref w4])), (w4, .inr (5, [.int (iz 4400), .ref b4, .int (zb f2)])), (b4, .inl (G.2 2, 71, .inr (.inl (rv (fun _ => (lz 0))))))]) [0, 1, 2] rfl
    have hD := hD.sub (ws' := [(h, .inr (0, [.ref dA, .int (iz kept), .int (iz many), .ref w1, .ref w2, .ref w3, .ref w4])), (w4, .inr (5, [.int (iz 4400), .ref b4, .int (zb f2)])), (b4, .inl (G.2 2, 71, .inr (.inl (rv (fun _ => (lz 0))))))]) [0, 1, 2] (by decide) rfl
    refine zk_iconst hX_ hB_ dX1_turnLunar_17 ?_
    refine lv_istore_n (lv' := [(2, .int (iz 0)), (0, .ref h), (1, .int nu)]) hX_ hB_ dX1_turnLunar_18 rfl hl (by decide) rfl (fun ls hl => ?_)
    have loop_19 : ∀ (n_19 : Nat), ∀ (i : Int) (gg : Int → Int64), (0 ≤ i ∧ i ≤ 4400) → (WI 4400 i gg (qLunar nu)) → ((4400 - i).toNat < n_19) → ∀ (H : Heap) (locs : List Loc), va_P G.1 vwCl [(h, .inr (0, [.ref dA, .int (iz kept), .int (iz many), .ref w1, .ref w2, .ref w3, .ref w4])), (w4, .inr (5, [.int (iz 4400), .ref b4, .int (zb f2)])), (b4, .inl (G.2 2, 71, .inr (.inl (rv gg))))] H → va_D A [(h, .inr (0, [.ref dA, .int (iz kept), .int (iz many), .ref w1, .ref w2, .ref w3, .ref w4])), (w4, .inr (5, [.int (iz 4400), .ref b4, .int (zb f2)])), (b4, .inl (G.2 2, 71, .inr (.inl (rv gg))))] → va_S A s.heap H locs → ∀ ls : Array Slot, lv_has ls 3 [(0, .ref h), (1, .int nu), (2, .int (iz i))] → W p l e ({ frames := 2, cells := 0, slots := 0, locals := 45 }) s m ([.ref h, .int nu] : List Value).toArray below meth c H locs 0 0 (MQ below (va_Qv (fun (u : Bool × (Int → Int64)) => match u with | (fr2, g2) => WP 4400 fr2 g2 (qLunar nu)) (fun u__ t__ => Pst G A ((fun u : Bool × (Int → Int64) => match u with | (fr2, g2) => [(h, .inr (0, [.ref dA, .int (iz kept), .int (iz many), .ref w1, .ref w2, .ref w3, .ref w4])), (w4, .inr (5, [.int (iz 4400), .ref b4, .int (zb fr2)])), (b4, .inl (G.2 2, 71, .inr (.inl (rv g2))))]) u__) t__) A) ([.ref h, .int nu] : List Value).toArray s 0 0 A) (F0 m 19 ls []) := by
      intro n_19
      induction n_19 with
      | zero =>
        intro i gg hi hg hm H locs hP hD hS ls hl
        exact absurd hm (Nat.not_lt_zero _)
      | succ n_19 ih_19 =>
        intro i gg hi hg hm H locs hP hD hS ls hl
        have join_53 : ∀ (g3 : Int → Int64), (i < 4400) → (WI 4400 (i + 1) g3 (qLunar nu)) → ∀ (H : Heap) (locs : List Loc), va_P G.1 vwCl [(h, .inr (0, [.ref dA, .int (iz kept), .int (iz many), .ref w1, .ref w2, .ref w3, .ref w4])), (w4, .inr (5, [.int (iz 4400), .ref b4, .int (zb f2)])), (b4, .inl (G.2 2, 71, .inr (.inl (rv g3))))] H → va_D A [(h, .inr (0, [.ref dA, .int (iz kept), .int (iz many), .ref w1, .ref w2, .ref w3, .ref w4])), (w4, .inr (5, [.int (iz 4400), .ref b4, .int (zb f2)])), (b4, .inl (G.2 2, 71, .inr (.inl (rv g3))))] → va_S A s.heap H locs → ∀ ls : Array Slot, lv_has ls 3 [(0, .ref h), (1, .int nu), (2, .int (iz i))] → W p l e ({ frames := 2, cells := 0, slots := 0, locals := 45 }) s m ([.ref h, .int nu] : List Value).toArray below meth c H locs 0 0 (MQ below (va_Qv (fun (u : Bool × (Int → Int64)) => match u with | (fr2, g2) => WP 4400 fr2 g2 (qLunar nu)) (fun u__ t__ => Pst G A ((fun u : Bool × (Int → Int64) => match u with | (fr2, g2) => [(h, .inr (0, [.ref dA, .int (iz kept), .int (iz many), .ref w1, .ref w2, .ref w3, .ref w4])), (w4, .inr (5, [.int (iz 4400), .ref b4, .int (zb fr2)])), (b4, .inl (G.2 2, 71, .inr (.inl (rv g2))))]) u__) t__) A) ([.ref h, .int nu] : List Value).toArray s 0 0 A) (F0 m 53 ls []) := by
          intro g3 hi3 hg3 H locs hP hD hS ls hl
          refine lv_iinc (v := (iz (i + 1))) (lv' := [(2, .int (iz (i + 1))), (0, .ref h), (1, .int nu)]) hX_ hB_ dX1_turnLunar_53 hl (k := 2) rfl (iz_add _ _) (by decide) rfl (fun ls hl => ?_)
          refine lv_goto (tgt := 19) hX_ hB_ dX1_turnLunar_56 (by decide) ?_
          exact ih_19 (i + 1) g3 (by omega) (by exact hg3) (by omega) _ _ hP hD hS ls (lv_sub hl [1, 2, 0] rfl)
        refine lv_iload_n hX_ hB_ dX1_turnLunar_19 rfl (lv_at hl 2 rfl) ?_
        refine zk_sipush hX_ hB_ (by decide) dX1_turnLunar_20 ?_
        refine zk_icmp_ge (tgt := 59) hX_ hB_ (by omega) (by omega) dX1_turnLunar_23 (by decide) (fun c_23 => ?_) (fun c_23 => ?_)
        · skip
          exact fin_v (wf := (fun u : Bool × (Int → Int64) => match u with | (fr2, g2) => [(h, .inr (0, [.ref dA, .int (iz kept), .int (iz many), .ref w1, .ref w2, .ref w3, .ref w4])), (w4, .inr (5, [.int (iz 4400), .ref b4, .int (zb fr2)])), (b4, .inl (G.2 2, 71, .inr (.inl (rv g2))))])) (f2, gg) F hP hD hK hS (by decide) (by decide) dX1_turnLunar_59 (by by_cases q9 : nu = iz (-1); exact WP_free (by omega) (by rw [hf2]; simp [q9]) (fun i h1 h2 => by rw [q9]; exact qLunar_any h1 h2); exact WP_full (by omega) (by rw [hf2]; simp [q9]) (by have : i = 4400 := (by omega); subst this; exact hg))
        · skip
          refine lv_iload_n hX_ hB_ dX1_turnLunar_26 rfl (lv_at hl 1 rfl) ?_
          refine zk_iconst hX_ hB_ dX1_turnLunar_27 ?_
          refine lv_icmp_eq (tgt := 59) hX_ hB_ dX1_turnLunar_28 (by decide) (fun c_28 => ?_) (fun c_28 => ?_)
          · skip
            exact fin_v (wf := (fun u : Bool × (Int → Int64) => match u with | (fr2, g2) => [(h, .inr (0, [.ref dA, .int (iz kept), .int (iz many), .ref w1, .ref w2, .ref w3, .ref w4])), (w4, .inr (5, [.int (iz 4400), .ref b4, .int (zb fr2)])), (b4, .inl (G.2 2, 71, .inr (.inl (rv g2))))])) (f2, gg) F hP hD hK hS (by decide) (by decide) dX1_turnLunar_59 (by have q9 := c_28; exact WP_free (by omega) (by rw [hf2]; simp [c_28]) (fun i h1 h2 => by rw [q9]; exact qLunar_any h1 h2))
          · skip
            refine lv_iload_n hX_ hB_ dX1_turnLunar_31 rfl (lv_at hl 1 rfl) ?_
            refine lv_iload_n hX_ hB_ dX1_turnLunar_32 rfl (lv_at hl 2 rfl) ?_
            refine zk_bipush hX_ hB_ (by decide) dX1_turnLunar_33 ?_
            refine zk_iconst hX_ hB_ dX1_turnLunar_35 ?_
            refine back_i (wr := [(h, .inr (0, [.ref dA, .int (iz kept), .int (iz many), .ref w1, .ref w2, .ref w3, .ref w4])), (w4, .inr (5, [.int (iz 4400), .ref b4, .int (zb f2)])), (b4, .inl (G.2 2, 71, .inr (.inl (rv gg))))]) (run_S (As := [.int (iz i), .int (iz 10), .int (iz 0)]) (rest := [.int nu]) (wc := []) F (c_X0_signOf l G i 10 0 (by omega) (by omega) (by omega) _) ext0 gX1_turnLunar_X0_signOf rfl rfl rfl mds_X0_signOf ⟨Nat.le_of_ble_eq_true rfl, Nat.le_of_ble_eq_true rfl⟩ (pre_of ext0 hK hP hD hS hA trivial [] (by decide) rfl _) rfl hl.1 (Nat.le_of_ble_eq_true rfl) dX1_turnLunar_36 ⟨by decide, by decide⟩) hP hD hS hA [] [0, 1, 2] rfl rfl (by decide) (by decide) (fun r__ u__ H locs hw hP hD hS => ?_)
            subst hw
            have hP := hP.sub (ws' := [(h, .inr (0, [.ref dA, .int (iz kept), .int (iz many), .ref w1, .ref w2, .ref w3, .ref w4])), (w4, .inr (5, [.int (iz 4400), .ref b4, .int (zb f2)])), (b4, .inl (G.2 2, 71, .inr (.inl (rv gg))))]) [0, 1, 2] rfl
            have hD := hD.sub (ws' := [(h, .inr (0, [.ref dA, .int (iz kept), .int (iz many), .ref w1, .ref w2, .ref w3, .ref w4])), (w4, .inr (5, [.int (iz 4400), .ref b4, .int (zb f2)])), (b4, .inl (G.2 2, 71, .inr (.inl (rv gg))))]) [0, 1, 2] (by decide) rfl
            have hsg := sgn_rng (k := 10) (d := i) (b := 0) (by omega) (by omega)
            refine back_i (wr := [(h, .inr (0, [.ref dA, .int (iz kept), .int (iz many), .ref w1, .ref w2, .ref w3, .ref w4])), (w4, .inr (5, [.int (iz 4400), .ref b4, .int (zb f2)])), (b4, .inl (G.2 2, 71, .inr (.inl (rv gg))))]) (run_S (As := [.int nu, .int (iz (sgn i 10 0))]) (rest := []) (wc := []) F (c_X0_holds l G nu (sgn i 10 0) (by omega) _) ext0 gX1_turnLunar_X0_holds rfl rfl rfl mds_X0_holds ⟨Nat.le_of_ble_eq_true rfl, Nat.le_of_ble_eq_true rfl⟩ (pre_of ext0 hK hP hD hS hA trivial [] (by decide) rfl _) rfl hl.1 (Nat.le_of_ble_eq_true rfl) dX1_turnLunar_39 ⟨by decide, by decide⟩) hP hD hS hA [] [0, 1, 2] rfl rfl (by decide) (by decide) (fun r__ u__ H locs hw hP hD hS => ?_)
            subst hw
            have hP := hP.sub (ws' := [(h, .inr (0, [.ref dA, .int (iz kept), .int (iz many), .ref w1, .ref w2, .ref w3, .ref w4])), (w4, .inr (5, [.int (iz 4400), .ref b4, .int (zb f2)])), (b4, .inl (G.2 2, 71, .inr (.inl (rv gg))))]) [0, 1, 2] rfl
            have hD := hD.sub (ws' := [(h, .inr (0, [.ref dA, .int (iz kept), .int (iz many), .ref w1, .ref w2, .ref w3, .ref w4])), (w4, .inr (5, [.int (iz 4400), .ref b4, .int (zb f2)])), (b4, .inl (G.2 2, 71, .inr (.inl (rv gg))))]) [0, 1, 2] (by decide) rfl
            refine zk_bif_eq (tgt := 53) hX_ hB_ dX1_turnLunar_42 (by decide) (fun c_42 => ?_) (fun c_42 => ?_)
            · skip
              exact join_53 gg (by omega) (by exact WI_no hg c_42) _ _ hP hD hS ls (lv_sub hl [0, 1, 2] rfl)
            · skip
              refine lv_aload_n hX_ hB_ dX1_turnLunar_45 rfl (lv_at hl 0 rfl) ?_
              refine va_get (D := G.1) (ci := 0) (v := .ref w4) (C := RX1) (T := TX1) (N := 7) hX_ hB_ hts hi_X1_turnLunar_X1 hown hK.1 hP 0 rfl rfl 6 (by decide) (hts _ hw_X1_turnLunar_20a1a4) (fun _ h9 => h9) rfl dX1_turnLunar_46 ?_
              refine lv_iload_n hX_ hB_ dX1_turnLunar_49 rfl (lv_at hl 2 rfl) ?_
              refine back_v (wr := [(h, .inr (0, [.ref dA, .int (iz kept), .int (iz many), .ref w1, .ref w2, .ref w3, .ref w4]))]) (run_V (As := [.int (iz i)]) (rest := []) (wc := [(w4, .inr (5, [.int (iz 4400), .ref b4, .int (zb f2)])), (b4, .inl (G.2 2, 71, .inr (.inl (rv gg))))]) F (c_X7_mark l G w4 b4 71 4400 gg f2 i (by omega) (by omega) (by omega) _) ext0 gX1_turnLunar_X7_mark rfl rfl rfl mdv_X7_mark ⟨Nat.le_of_ble_eq_true rfl, Nat.le_of_ble_eq_true rfl⟩ (va_recv hK.1 (hP.sub (ws' := [(w4, .inr (5, [.int (iz 4400), .ref b4, .int (zb f2)])), (b4, .inl (G.2 2, 71, .inr (.inl (rv gg))))]) [1, 2] rfl) (ci := 5) (q0 := 0) rfl rfl) (pre_of ext0 hK hP hD hS hA trivial [1, 2] (by decide) rfl _) rfl hl.1 (Nat.le_of_ble_eq_true rfl) dX1_turnLunar_50 ⟨by decide, by decide⟩) hP hD hS hA [1, 2] [0] rfl rfl (by decide) (by decide) (fun u__ H locs hw hP hD hS => ?_)
              obtain ⟨g2_50, rfl⟩ : ∃ z, z = u__ := ⟨_, rfl⟩
              try dsimp only at hw hP hD
              have hw_50 := hw
              have hP := hP.sub (ws' := [(h, .inr (0, [.ref dA, .int (iz kept), .int (iz many), .ref w1, .ref w2, .ref w3, .ref w4])), (w4, .inr (5, [.int (iz 4400), .ref b4, .int (zb f2)])), (b4, .inl (G.2 2, 71, .inr (.inl (rv g2_50))))]) [0, 1, 2] rfl
              have hD := hD.sub (ws' := [(h, .inr (0, [.ref dA, .int (iz kept), .int (iz many), .ref w1, .ref w2, .ref w3, .ref w4])), (w4, .inr (5, [.int (iz 4400), .ref b4, .int (zb f2)])), (b4, .inl (G.2 2, 71, .inr (.inl (rv g2_50))))]) [0, 1, 2] (by decide) rfl
              exact join_53 g2_50 (by omega) (by exact WI_yes hg hw_50 c_42) _ _ hP hD hS ls (lv_sub hl [0, 1, 2] rfl)
    exact loop_19 _ 0 (fun _ => (lz 0)) (by omega) (by exact WI_0 (by omega)) (Nat.lt_succ_self _) _ _ hP hD hS ls (lv_sub hl [1, 2, 0] rfl)
  refine lv_aload_n hX_ hB_ dX1_turnLunar_0 rfl (lv_at hl 0 rfl) ?_
  refine va_get (D := G.1) (ci := 0) (v := .ref w4) (C := RX1) (T := TX1) (N := 7) hX_ hB_ hts hi_X1_turnLunar_X1 hown hK.1 hP 0 rfl rfl 6 (by decide) (hts _ hw_X1_turnLunar_20a1a4) (fun _ h9 => h9) rfl dX1_turnLunar_1 ?_
  refine lv_iload_n hX_ hB_ dX1_turnLunar_4 rfl (lv_at hl 1 rfl) ?_
  refine zk_iconst hX_ hB_ dX1_turnLunar_5 ?_
  refine lv_icmp_ne (tgt := 13) hX_ hB_ dX1_turnLunar_6 (by decide) (fun c_6 => ?_) (fun c_6 => ?_)
  · skip
    refine zk_iconst hX_ hB_ dX1_turnLunar_13 ?_
    refine zk_topi (y := (zb false)) rfl ?_
    exact join_14 false (by simp [c_6]) _ _ hP hD hS ls (lv_sub hl [0, 1] rfl)
  · skip
    refine zk_iconst hX_ hB_ dX1_turnLunar_9 ?_
    refine zk_topi (y := (zb true)) rfl ?_
    refine lv_goto (tgt := 14) hX_ hB_ dX1_turnLunar_10 (by decide) ?_
    exact join_14 true (by simp [c_6]) _ _ hP hD hS ls (lv_sub hl [0, 1] rfl)

theorem hw_X1_turnYear_4ac8d0 : (.fieldLink RX1 27 "StoneDates$Finder" "year" "LStoneDates$Wheel;" : Cond) ∈ wsX1_turnYear := by decide +kernel
theorem hi_X1_turnYear_X1 : ∀ w ∈ u_ws RX1 TX1 7, w ∈ wsX1_turnYear := by decide +kernel
set_option maxHeartbeats 4000000 in
set_option maxRecDepth 100000 in
theorem c_X1_turnYear (l : Launch) (G : GG) (h : Nat) (dA : Nat) (w1 : Nat) (w2 : Nat) (w3 : Nat) (w4 : Nat) (b3 : Nat) (kept : Int) (many : Int) (fr : Bool) (g : Int → Int64) (se : Int32) (mo : Int32) : Cv l yX1_turnYear wsX1_turnYear ({ frames := 2, cells := 0, slots := 0, locals := 45 }) G E0 [.ref h, .int se, .int mo] [(h, .inr (0, [.ref dA, .int (iz kept), .int (iz many), .ref w1, .ref w2, .ref w3, .ref w4])), (w3, .inr (5, [.int (iz 365), .ref b3, .int (zb fr)])), (b3, .inl (G.2 2, 8, .inr (.inl (rv g))))] 0 0 (fun u : Bool × (Int → Int64) => match u with | (fr2, g2) => [(h, .inr (0, [.ref dA, .int (iz kept), .int (iz many), .ref w1, .ref w2, .ref w3, .ref w4])), (w3, .inr (5, [.int (iz 365), .ref b3, .int (zb fr2)])), (b3, .inl (G.2 2, 8, .inr (.inl (rv g2))))]) (fun (u : Bool × (Int → Int64)) => match u with | (fr2, g2) => WP 365 fr2 g2 (qYear se mo)) := by
  refine Cv_intro (cc := cX1_turnYear) (maxL := 5) (ret := none) (by decide) rfl (Nat.le_of_ble_eq_true rfl) ?_
  intro p e s m below meth c A F hA hP hD hK hE ls hl
  have hX_ := F.1
  have hB_ := F.2.1
  have hts := F.2.2.2.2.2.1
  have hown := F.2.2.2.2.1
  have hml := F.2.2.2.1
  have hS : va_S A s.heap s.heap [] := va_S.rf
  have hl : lv_has ls 5 [(0, .ref h), (1, .int se), (2, .int mo)] := hl
  have join_12 : ∀ (f2 : Bool), (f2 = decide (se &&& mo = iz (-1))) → ∀ (H : Heap) (locs : List Loc), va_P G.1 vwCl [(h, .inr (0, [.ref dA, .int (iz kept), .int (iz many), .ref w1, .ref w2, .ref w3, .ref w4])), (w3, .inr (5, [.int (iz 365), .ref b3, .int (zb fr)])), (b3, .inl (G.2 2, 8, .inr (.inl (rv g))))] H → va_D A [(h, .inr (0, [.ref dA, .int (iz kept), .int (iz many), .ref w1, .ref w2, .ref w3, .ref w4])), (w3, .inr (5, [.int (iz 365), .ref b3, .int (zb fr)])), (b3, .inl (G.2 2, 8, .inr (.inl (rv g))))] → va_S A s.heap H locs → ∀ ls : Array Slot, lv_has ls 5 [(0, .ref h), (1, .int se), (2, .int mo)] → W p l e ({ frames := 2, cells := 0, slots := 0, locals := 45 }) s m ([.ref h, .int se, .int mo] : List Value).toArray below meth c H locs 0 0 (MQ below (va_Qv (fun (u : Bool × (Int → Int64)) => match u with | (fr2, g2) => WP 365 fr2 g2 (qYear se mo)) (fun u__ t__ => Pst G A ((fun u : Bool × (Int → Int64) => match u with | (fr2, g2) => [(h, .inr (0, [.ref dA, .int (iz kept), .int (iz many), .ref w1, .ref w2, .ref w3, .ref w4])), (w3, .inr (5, [.int (iz 365), .ref b3, .int (zb fr2)])), (b3, .inl (G.2 2, 8, .inr (.inl (rv g2))))]) u__) t__) A) ([.ref h, .int se, .int mo] : List Value).toArray s 0 0 A) (F0 m 12 ls [.int (zb f2)]) := by
    intro f2 hf2 H locs hP hD hS ls hl
    refine lv_istore_n (lv' := [(3, .int (zb f2)), (0, .ref h), (1, .int se), (2, .int mo)]) hX_ hB_ dX1_turnYear_12 rfl hl (by decide) rfl (fun ls hl => ?_)
    refine lv_aload_n hX_ hB_ dX1_turnYear_13 rfl (lv_at hl 1 rfl) ?_
    refine va_get (D := G.1) (ci := 0) (v := .ref w3) (C := RX1) (T := TX1) (N := 7) hX_ hB_ hts hi_X1_turnYear_X1 hown hK.1 hP 0 rfl rfl 5 (by decide) (hts _ hw_X1_turnYear_4ac8d0) (fun _ h9 => h9) rfl dX1_turnYear_14 ?_
    refine lv_iload_n hX_ hB_ dX1_turnYear_17 rfl (lv_at hl 0 rfl) ?_
    refine back_v (wr := [(h, .inr (0, [.ref dA, .int (iz kept), .int (iz many), .ref w1, .ref w2, .ref w3, .ref w4]))]) (run_V (As := [.int (zb f2)]) (rest := []) (wc := [(w3, .inr (5, [.int (iz 365), .ref b3, .int (zb fr)])), (b3, .inl (G.2 2, 8, .inr (.inl (rv g))))]) F (c_X7_reset l G w3 b3 8 365 g fr f2 (by omega) _) ext0 gX1_turnYear_X7_reset rfl rfl rfl mdv_X7_reset ⟨Nat.le_of_ble_eq_true rfl, Nat.le_of_ble_eq_true rfl⟩ (va_recv hK.1 (hP.sub (ws' := [(w3, .inr (5, [.int (iz 365), .ref b3, .int (zb fr)])), (b3, .inl (G.2 2, 8, .inr (.inl (rv g))))]) [1, 2] rfl) (ci := 5) (q0 := 0) rfl rfl) (pre_of ext0 hK hP hD hS hA trivial [1, 2] (by decide) rfl _) rfl hl.1 (Nat.le_of_ble_eq_true rfl) dX1_turnYear_18 ⟨by decide, by decide⟩) hP hD hS hA [1, 2] [0] rfl rfl (by decide) (by decide) (fun u__ H locs hw hP hD hS => ?_)
    have hw_18 := hw
    have hP := hP.sub (ws' := [(h, .inr (0, [.ref dA, .int (iz kept), .int (iz many), .ref w1, .ref w2, .ref w3, .ref w4])), (w3, .inr (5, [.int (iz 365), .ref b3, .int (zb f2)])), (b3, .inl (G.2 2, 8, .inr (.inl (rv (fun _ => (lz 0))))))]) [0, 1, 2] rfl
    have hD := hD.sub (ws' := [(h, .inr (0, [.ref dA, .int (iz kept), .int (iz many), .ref w1, .ref w2, .ref w3, .ref w4])), (w3, .inr (5, [.int (iz 365), .ref b3, .int (zb f2)])), (b3, .inl (G.2 2, 8, .inr (.inl (rv (fun _ => (lz 0))))))]) [0, 1, 2] (by decide) rfl
    refine zk_iconst hX_ hB_ dX1_turnYear_21 ?_
    refine lv_istore (lv' := [(4, .int (iz 0)), (3, .int (zb f2)), (0, .ref h), (1, .int se), (2, .int mo)]) hX_ hB_ dX1_turnYear_22 hl (by decide) rfl (fun ls hl => ?_)
    have loop_24 : ∀ (n_24 : Nat), ∀ (i : Int) (gg : Int → Int64), (0 ≤ i ∧ i ≤ 365) → (WI 365 i gg (qYear se mo)) → ((365 - i).toNat < n_24) → ∀ (H : Heap) (locs : List Loc), va_P G.1 vwCl [(h, .inr (0, [.ref dA, .int (iz kept), .int (iz many), .ref w1, .ref w2, .ref w3, .ref w4])), (w3, .inr (5, [.int (iz 365), .ref b3, .int (zb f2)])), (b3, .inl (G.2 2, 8, .inr (.inl (rv gg))))] H → va_D A [(h, .inr (0, [.ref dA, .int (iz kept), .int (iz many), .ref w1, .ref w2, .ref w3, .ref w4])), (w3, .inr (5, [.int (iz 365), .ref b3, .int (zb f2)])), (b3, .inl (G.2 2, 8, .inr (.inl (rv gg))))] → va_S A s.heap H locs → ∀ ls : Array Slot, lv_has ls 5 [(0, .ref h), (1, .int se), (2, .int mo), (3, .int (zb f2)), (4, .int (iz i))] → W p l e ({ frames := 2, cells := 0, slots := 0, locals := 45 }) s m ([.ref h, .int se, .int mo] : List Value).toArray below meth c H locs 0 0 (MQ below (va_Qv (fun (u : Bool × (Int → Int64)) => match u with | (fr2, g2) => WP 365 fr2 g2 (qYear se mo)) (fun u__ t__ => Pst G A ((fun u : Bool × (Int → Int64) => match u with | (fr2, g2) => [(h, .inr (0, [.ref dA, .int (iz kept), .int (iz many), .ref w1, .ref w2, .ref w3, .ref w4])), (w3, .inr (5, [.int (iz 365), .ref b3, .int (zb fr2)])), (b3, .inl (G.2 2, 8, .inr (.inl (rv g2))))]) u__) t__) A) ([.ref h, .int se, .int mo] : List Value).toArray s 0 0 A) (F0 m 24 ls []) := by
      intro n_24
      induction n_24 with
      | zero =>
        intro i gg hi hg hm H locs hP hD hS ls hl
        exact absurd hm (Nat.not_lt_zero _)
      | succ n_24 ih_24 =>
        intro i gg hi hg hm H locs hP hD hS ls hl
        have join_69 : ∀ (g3 : Int → Int64), (i < 365) → (WI 365 (i + 1) g3 (qYear se mo)) → ∀ (H : Heap) (locs : List Loc), va_P G.1 vwCl [(h, .inr (0, [.ref dA, .int (iz kept), .int (iz many), .ref w1, .ref w2, .ref w3, .ref w4])), (w3, .inr (5, [.int (iz 365), .ref b3, .int (zb f2)])), (b3, .inl (G.2 2, 8, .inr (.inl (rv g3))))] H → va_D A [(h, .inr (0, [.ref dA, .int (iz kept), .int (iz many), .ref w1, .ref w2, .ref w3, .ref w4])), (w3, .inr (5, [.int (iz 365), .ref b3, .int (zb f2)])), (b3, .inl (G.2 2, 8, .inr (.inl (rv g3))))] → va_S A s.heap H locs → ∀ ls : Array Slot, lv_has ls 5 [(0, .ref h), (1, .int se), (2, .int mo), (3, .int (zb f2)), (4, .int (iz i))] → W p l e ({ frames := 2, cells := 0, slots := 0, locals := 45 }) s m ([.ref h, .int se, .int mo] : List Value).toArray below meth c H locs 0 0 (MQ below (va_Qv (fun (u : Bool × (Int → Int64)) => match u with | (fr2, g2) => WP 365 fr2 g2 (qYear se mo)) (fun u__ t__ => Pst G A ((fun u : Bool × (Int → Int64) => match u with | (fr2, g2) => [(h, .inr (0, [.ref dA, .int (iz kept), .int (iz many), .ref w1, .ref w2, .ref w3, .ref w4])), (w3, .inr (5, [.int (iz 365), .ref b3, .int (zb fr2)])), (b3, .inl (G.2 2, 8, .inr (.inl (rv g2))))]) u__) t__) A) ([.ref h, .int se, .int mo] : List Value).toArray s 0 0 A) (F0 m 69 ls []) := by
          intro g3 hi3 hg3 H locs hP hD hS ls hl
          refine lv_iinc (v := (iz (i + 1))) (lv' := [(4, .int (iz (i + 1))), (0, .ref h), (1, .int se), (2, .int mo), (3, .int (zb f2))]) hX_ hB_ dX1_turnYear_69 hl (k := 4) rfl (iz_add _ _) (by decide) rfl (fun ls hl => ?_)
          refine lv_goto (tgt := 24) hX_ hB_ dX1_turnYear_72 (by decide) ?_
          exact ih_24 (i + 1) g3 (by omega) (by exact hg3) (by omega) _ _ hP hD hS ls (lv_sub hl [1, 2, 3, 4, 0] rfl)
        refine lv_iload hX_ hB_ dX1_turnYear_24 (lv_at hl 4 rfl) ?_
        refine zk_sipush hX_ hB_ (by decide) dX1_turnYear_26 ?_
        refine zk_icmp_ge (tgt := 75) hX_ hB_ (by omega) (by omega) dX1_turnYear_29 (by decide) (fun c_29 => ?_) (fun c_29 => ?_)
        · skip
          exact fin_v (wf := (fun u : Bool × (Int → Int64) => match u with | (fr2, g2) => [(h, .inr (0, [.ref dA, .int (iz kept), .int (iz many), .ref w1, .ref w2, .ref w3, .ref w4])), (w3, .inr (5, [.int (iz 365), .ref b3, .int (zb fr2)])), (b3, .inl (G.2 2, 8, .inr (.inl (rv g2))))])) (f2, gg) F hP hD hK hS (by decide) (by decide) dX1_turnYear_75 (by by_cases q9 : se &&& mo = iz (-1); exact WP_free (by omega) (by rw [hf2]; simp [q9]) (fun i h1 h2 => by obtain ⟨q1, q2⟩ := and_any q9; rw [q1, q2]; unfold qYear; rw [hold_any (by omega), hold_any (by omega)]; rfl); exact WP_full (by omega) (by rw [hf2]; simp [q9]) (by have : i = 365 := (by omega); subst this; exact hg))
        · skip
          refine lv_iload_n hX_ hB_ dX1_turnYear_32 rfl (lv_at hl 3 rfl) ?_
          refine zk_bif_ne (tgt := 75) hX_ hB_ dX1_turnYear_33 (by decide) (fun c_33 => ?_) (fun c_33 => ?_)
          · skip
            exact fin_v (wf := (fun u : Bool × (Int → Int64) => match u with | (fr2, g2) => [(h, .inr (0, [.ref dA, .int (iz kept), .int (iz many), .ref w1, .ref w2, .ref w3, .ref w4])), (w3, .inr (5, [.int (iz 365), .ref b3, .int (zb fr2)])), (b3, .inl (G.2 2, 8, .inr (.inl (rv g2))))])) (f2, gg) F hP hD hK hS (by decide) (by decide) dX1_turnYear_75 (by have q9 : se &&& mo = iz (-1) := (by rw [hf2] at c_33; simpa using c_33); exact WP_free (by omega) c_33 (fun i h1 h2 => by obtain ⟨q1, q2⟩ := and_any q9; rw [q1, q2]; unfold qYear; rw [hold_any (by omega), hold_any (by omega)]; rfl))
          · skip
            refine lv_iload_n hX_ hB_ dX1_turnYear_36 rfl (lv_at hl 1 rfl) ?_
            refine lv_iload hX_ hB_ dX1_turnYear_37 (lv_at hl 4 rfl) ?_
            refine zk_bipush hX_ hB_ (by decide) dX1_turnYear_39 ?_
            refine zk_irem hX_ hB_ (by omega) (by omega) (by omega) (by omega) dX1_turnYear_41 ?_
            refine back_i (wr := [(h, .inr (0, [.ref dA, .int (iz kept), .int (iz many), .ref w1, .ref w2, .ref w3, .ref w4])), (w3, .inr (5, [.int (iz 365), .ref b3, .int (zb f2)])), (b3, .inl (G.2 2, 8, .inr (.inl (rv gg))))]) (run_S (As := [.int se, .int (iz (i % 20))]) (rest := []) (wc := []) F (c_X0_holds l G se (i % 20) (by omega) _) ext0 gX1_turnYear_X0_holds rfl rfl rfl mds_X0_holds ⟨Nat.le_of_ble_eq_true rfl, Nat.le_of_ble_eq_true rfl⟩ (pre_of ext0 hK hP hD hS hA trivial [] (by decide) rfl _) rfl hl.1 (Nat.le_of_ble_eq_true rfl) dX1_turnYear_42 ⟨by decide, by decide⟩) hP hD hS hA [] [0, 1, 2] rfl rfl (by decide) (by decide) (fun r__ u__ H locs hw hP hD hS => ?_)
            subst hw
            have hP := hP.sub (ws' := [(h, .inr (0, [.ref dA, .int (iz kept), .int (iz many), .ref w1, .ref w2, .ref w3, .ref w4])), (w3, .inr (5, [.int (iz 365), .ref b3, .int (zb f2)])), (b3, .inl (G.2 2, 8, .inr (.inl (rv gg))))]) [0, 1, 2] rfl
            have hD := hD.sub (ws' := [(h, .inr (0, [.ref dA, .int (iz kept), .int (iz many), .ref w1, .ref w2, .ref w3, .ref w4])), (w3, .inr (5, [.int (iz 365), .ref b3, .int (zb f2)])), (b3, .inl (G.2 2, 8, .inr (.inl (rv gg))))]) [0, 1, 2] (by decide) rfl
            refine zk_bif_eq (tgt := 69) hX_ hB_ dX1_turnYear_45 (by decide) (fun c_45 => ?_) (fun c_45 => ?_)
            · skip
              exact join_69 gg (by omega) (by exact WI_no hg (by unfold qYear; rw [c_45]; rfl)) _ _ hP hD hS ls (lv_sub hl [0, 1, 2, 3, 4] rfl)
            · skip
              refine lv_iload_n hX_ hB_ dX1_turnYear_48 rfl (lv_at hl 2 rfl) ?_
              refine lv_iload hX_ hB_ dX1_turnYear_49 (lv_at hl 4 rfl) ?_
              refine zk_bipush hX_ hB_ (by decide) dX1_turnYear_51 ?_
              refine zk_idiv hX_ hB_ (by omega) (by omega) (by omega) (by omega) dX1_turnYear_53 ?_
              refine back_i (wr := [(h, .inr (0, [.ref dA, .int (iz kept), .int (iz many), .ref w1, .ref w2, .ref w3, .ref w4])), (w3, .inr (5, [.int (iz 365), .ref b3, .int (zb f2)])), (b3, .inl (G.2 2, 8, .inr (.inl (rv gg))))]) (run_S (As := [.int mo, .int (iz (i / 20))]) (rest := []) (wc := []) F (c_X0_holds l G mo (i / 20) (by omega) _) ext0 gX1_turnYear_X0_holds rfl rfl rfl mds_X0_holds ⟨Nat.le_of_ble_eq_true rfl, Nat.le_of_ble_eq_true rfl⟩ (pre_of ext0 hK hP hD hS hA trivial [] (by decide) rfl _) rfl hl.1 (Nat.le_of_ble_eq_true rfl) dX1_turnYear_54 ⟨by decide, by decide⟩) hP hD hS hA [] [0, 1, 2] rfl rfl (by decide) (by decide) (fun r__ u__ H locs hw hP hD hS => ?_)
              subst hw
              have hP := hP.sub (ws' := [(h, .inr (0, [.ref dA, .int (iz kept), .int (iz many), .ref w1, .ref w2, .ref w3, .ref w4])), (w3, .inr (5, [.int (iz 365), .ref b3, .int (zb f2)])), (b3, .inl (G.2 2, 8, .inr (.inl (rv gg))))]) [0, 1, 2] rfl
              have hD := hD.sub (ws' := [(h, .inr (0, [.ref dA, .int (iz kept), .int (iz many), .ref w1, .ref w2, .ref w3, .ref w4])), (w3, .inr (5, [.int (iz 365), .ref b3, .int (zb f2)])), (b3, .inl (G.2 2, 8, .inr (.inl (rv gg))))]) [0, 1, 2] (by decide) rfl
              refine zk_bif_eq (tgt := 69) hX_ hB_ dX1_turnYear_57 (by decide) (fun c_57 => ?_) (fun c_57 => ?_)
              · skip
                exact join_69 gg (by omega) (by exact WI_no hg (by unfold qYear; rw [c_45, c_57]; rfl)) _ _ hP hD hS ls (lv_sub hl [0, 1, 2, 3, 4] rfl)
              · skip
                refine lv_aload_n hX_ hB_ dX1_turnYear_60 rfl (lv_at hl 0 rfl) ?_
                refine va_get (D := G.1) (ci := 0) (v := .ref w3) (C := RX1) (T := TX1) (N := 7) hX_ hB_ hts hi_X1_turnYear_X1 hown hK.1 hP 0 rfl rfl 5 (by decide) (hts _ hw_X1_turnYear_4ac8d0) (fun _ h9 => h9) rfl dX1_turnYear_61 ?_
                refine lv_iload hX_ hB_ dX1_turnYear_64 (lv_at hl 4 rfl) ?_
                refine back_v (wr := [(h, .inr (0, [.ref dA, .int (iz kept), .int (iz many), .ref w1, .ref w2, .ref w3, .ref w4]))]) (run_V (As := [.int (iz i)]) (rest := []) (wc := [(w3, .inr (5, [.int (iz 365), .ref b3, .int (zb f2)])), (b3, .inl (G.2 2, 8, .inr (.inl (rv gg))))]) F (c_X7_mark l G w3 b3 8 365 gg f2 i (by omega) (by omega) (by omega) _) ext0 gX1_turnYear_X7_mark rfl rfl rfl mdv_X7_mark ⟨Nat.le_of_ble_eq_true rfl, Nat.le_of_ble_eq_true rfl⟩ (va_recv hK.1 (hP.sub (ws' := [(w3, .inr (5, [.int (iz 365), .ref b3, .int (zb f2)])), (b3, .inl (G.2 2, 8, .inr (.inl (rv gg))))]) [1, 2] rfl) (ci := 5) (q0 := 0) rfl rfl) (pre_of ext0 hK hP hD hS hA trivial [1, 2] (by decide) rfl _) rfl hl.1 (Nat.le_of_ble_eq_true rfl) dX1_turnYear_66 ⟨by decide, by decide⟩) hP hD hS hA [1, 2] [0] rfl rfl (by decide) (by decide) (fun u__ H locs hw hP hD hS => ?_)
                obtain ⟨g2_66, rfl⟩ : ∃ z, z = u__ := ⟨_, rfl⟩
                try dsimp only at hw hP hD
                have hw_66 := hw
                have hP := hP.sub (ws' := [(h, .inr (0, [.ref dA, .int (iz kept), .int (iz many), .ref w1, .ref w2, .ref w3, .ref w4])), (w3, .inr (5, [.int (iz 365), .ref b3, .int (zb f2)])), (b3, .inl (G.2 2, 8, .inr (.inl (rv g2_66))))]) [0, 1, 2] rfl
                have hD := hD.sub (ws' := [(h, .inr (0, [.ref dA, .int (iz kept), .int (iz many), .ref w1, .ref w2, .ref w3, .ref w4])), (w3, .inr (5, [.int (iz 365), .ref b3, .int (zb f2)])), (b3, .inl (G.2 2, 8, .inr (.inl (rv g2_66))))]) [0, 1, 2] (by decide) rfl
                exact join_69 g2_66 (by omega) (by exact WI_yes hg hw_66 (by unfold qYear; rw [c_45, c_57]; rfl)) _ _ hP hD hS ls (lv_sub hl [0, 1, 2, 3, 4] rfl)
    exact loop_24 _ 0 (fun _ => (lz 0)) (by omega) (by exact WI_0 (by omega)) (Nat.lt_succ_self _) _ _ hP hD hS ls (lv_sub hl [2, 3, 4, 1, 0] rfl)
  refine lv_iload_n hX_ hB_ dX1_turnYear_0 rfl (lv_at hl 1 rfl) ?_
  refine lv_iload_n hX_ hB_ dX1_turnYear_1 rfl (lv_at hl 2 rfl) ?_
  refine lv_iand hX_ hB_ dX1_turnYear_2 ?_
  refine zk_iconst hX_ hB_ dX1_turnYear_3 ?_
  refine lv_icmp_ne (tgt := 11) hX_ hB_ dX1_turnYear_4 (by decide) (fun c_4 => ?_) (fun c_4 => ?_)
  · skip
    refine zk_iconst hX_ hB_ dX1_turnYear_11 ?_
    refine zk_topi (y := (zb false)) rfl ?_
    exact join_12 false (by simp [c_4]) _ _ hP hD hS ls (lv_sub hl [0, 1, 2] rfl)
  · skip
    refine zk_iconst hX_ hB_ dX1_turnYear_7 ?_
    refine zk_topi (y := (zb true)) rfl ?_
    refine lv_goto (tgt := 12) hX_ hB_ dX1_turnYear_8 (by decide) ?_
    exact join_12 true (by simp [c_4]) _ _ hP hD hS ls (lv_sub hl [0, 1, 2] rfl)

theorem hw_X1_turnInner_5ade71 : (.fieldLink RX1 20 "StoneDates$Finder" "inner" "LStoneDates$Wheel;" : Cond) ∈ wsX1_turnInner := by decide +kernel
theorem hi_X1_turnInner_X1 : ∀ w ∈ u_ws RX1 TX1 7, w ∈ wsX1_turnInner := by decide +kernel
theorem hw_X1_turnInner_a00a53 : (.constant RX1 56 (1152000) : Cond) ∈ wsX1_turnInner := by decide +kernel
set_option maxHeartbeats 4000000 in
set_option maxRecDepth 100000 in
theorem c_X1_turnInner (l : Launch) (G : GG) (h : Nat) (dA : Nat) (w1 : Nat) (w2 : Nat) (w3 : Nat) (w4 : Nat) (b1 : Nat) (kept : Int) (many : Int) (fr : Bool) (g : Int → Int64) (s3 : Int32) (s4 : Int32) (s6 : Int32) (s9 : Int32) : Cv l yX1_turnInner wsX1_turnInner ({ frames := 2, cells := 0, slots := 0, locals := 45 }) G E0 [.ref h, .int s3, .int s4, .int s6, .int s9] [(h, .inr (0, [.ref dA, .int (iz kept), .int (iz many), .ref w1, .ref w2, .ref w3, .ref w4])), (w1, .inr (5, [.int (iz 360), .ref b1, .int (zb fr)])), (b1, .inl (G.2 2, 8, .inr (.inl (rv g))))] 0 0 (fun u : Bool × (Int → Int64) => match u with | (fr2, g2) => [(h, .inr (0, [.ref dA, .int (iz kept), .int (iz many), .ref w1, .ref w2, .ref w3, .ref w4])), (w1, .inr (5, [.int (iz 360), .ref b1, .int (zb fr2)])), (b1, .inl (G.2 2, 8, .inr (.inl (rv g2))))]) (fun (u : Bool × (Int → Int64)) => match u with | (fr2, g2) => WP 360 fr2 g2 (qInner s3 s4 s6 s9)) := by
  refine Cv_intro (cc := cX1_turnInner) (maxL := 8) (ret := none) (by decide) rfl (Nat.le_of_ble_eq_true rfl) ?_
  intro p e s m below meth c A F hA hP hD hK hE ls hl
  have hX_ := F.1
  have hB_ := F.2.1
  have hts := F.2.2.2.2.2.1
  have hown := F.2.2.2.2.1
  have hml := F.2.2.2.1
  have hS : va_S A s.heap s.heap [] := va_S.rf
  have hl : lv_has ls 8 [(0, .ref h), (1, .int s3), (2, .int s4), (3, .int s6), (4, .int s9)] := hl
  have join_17 : ∀ (f2 : Bool), (f2 = decide (s3 &&& s4 &&& s6 &&& s9 = iz (-1))) → ∀ (H : Heap) (locs : List Loc), va_P G.1 vwCl [(h, .inr (0, [.ref dA, .int (iz kept), .int (iz many), .ref w1, .ref w2, .ref w3, .ref w4])), (w1, .inr (5, [.int (iz 360), .ref b1, .int (zb fr)])), (b1, .inl (G.2 2, 8, .inr (.inl (rv g))))] H → va_D A [(h, .inr (0, [.ref dA, .int (iz kept), .int (iz many), .ref w1, .ref w2, .ref w3, .ref w4])), (w1, .inr (5, [.int (iz 360), .ref b1, .int (zb fr)])), (b1, .inl (G.2 2, 8, .inr (.inl (rv g))))] → va_S A s.heap H locs → ∀ ls : Array Slot, lv_has ls 8 [(0, .ref h), (1, .int s3), (2, .int s4), (3, .int s6), (4, .int s9)] → W p l e ({ frames := 2, cells := 0, slots := 0, locals := 45 }) s m ([.ref h, .int s3, .int s4, .int s6, .int s9] : List Value).toArray below meth c H locs 0 0 (MQ below (va_Qv (fun (u : Bool × (Int → Int64)) => match u with | (fr2, g2) => WP 360 fr2 g2 (qInner s3 s4 s6 s9)) (fun u__ t__ => Pst G A ((fun u : Bool × (Int → Int64) => match u with | (fr2, g2) => [(h, .inr (0, [.ref dA, .int (iz kept), .int (iz many), .ref w1, .ref w2, .ref w3, .ref w4])), (w1, .inr (5, [.int (iz 360), .ref b1, .int (zb fr2)])), (b1, .inl (G.2 2, 8, .inr (.inl (rv g2))))]) u__) t__) A) ([.ref h, .int s3, .int s4, .int s6, .int s9] : List Value).toArray s 0 0 A) (F0 m 17 ls [.int (zb f2)]) := by
    intro f2 hf2 H locs hP hD hS ls hl
    refine lv_istore (lv' := [(5, .int (zb f2)), (0, .ref h), (1, .int s3), (2, .int s4), (3, .int s6), (4, .int s9)]) hX_ hB_ dX1_turnInner_17 hl (by decide) rfl (fun ls hl => ?_)
    refine lv_aload_n hX_ hB_ dX1_turnInner_19 rfl (lv_at hl 1 rfl) ?_
    refine va_get (D := G.1) (ci := 0) (v := .ref w1) (C := RX1) (T := TX1) (N := 7) hX_ hB_ hts hi_X1_turnInner_X1 hown hK.1 hP 0 rfl rfl 3 (by decide) (hts _ hw_X1_turnInner_5ade71) (fun _ h9 => h9) rfl dX1_turnInner_20 ?_
    refine lv_iload hX_ hB_ dX1_turnInner_23 (lv_at hl 0 rfl) ?_
    refine back_v (wr := [(h, .inr (0, [.ref dA, .int (iz kept), .int (iz many), .ref w1, .ref w2, .ref w3, .ref w4]))]) (run_V (As := [.int (zb f2)]) (rest := []) (wc := [(w1, .inr (5, [.int (iz 360), .ref b1, .int (zb fr)])), (b1, .inl (G.2 2, 8, .inr (.inl (rv g))))]) F (c_X7_reset l G w1 b1 8 360 g fr f2 (by omega) _) ext0 gX1_turnInner_X7_reset rfl rfl rfl mdv_X7_reset ⟨Nat.le_of_ble_eq_true rfl, Nat.le_of_ble_eq_true rfl⟩ (va_recv hK.1 (hP.sub (ws' := [(w1, .inr (5, [.int (iz 360), .ref b1, .int (zb fr)])), (b1, .inl (G.2 2, 8, .inr (.inl (rv g))))]) [1, 2] rfl) (ci := 5) (q0 := 0) rfl rfl) (pre_of ext0 hK hP hD hS hA trivial [1, 2] (by decide) rfl _) rfl hl.1 (Nat.le_of_ble_eq_true rfl) dX1_turnInner_25 ⟨by decide, by decide⟩) hP hD hS hA [1, 2] [0] rfl rfl (by decide) (by decide) (fun u__ H locs hw hP hD hS => ?_)
    have hw_25 := hw
    have hP := hP.sub (ws' := [(h, .inr (0, [.ref dA, .int (iz kept), .int (iz many), .ref w1, .ref w2, .ref w3, .ref w4])), (w1, .inr (5, [.int (iz 360), .ref b1, .int (zb f2)])), (b1, .inl (G.2 2, 8, .inr (.inl (rv (fun _ => (lz 0))))))]) [0, 1, 2] rfl
    have hD := hD.sub (ws' := [(h, .inr (0, [.ref dA, .int (iz kept), .int (iz many), .ref w1, .ref w2, .ref w3, .ref w4])), (w1, .inr (5, [.int (iz 360), .ref b1, .int (zb f2)])), (b1, .inl (G.2 2, 8, .inr (.inl (rv (fun _ => (lz 0))))))]) [0, 1, 2] (by decide) rfl
    refine zk_iconst hX_ hB_ dX1_turnInner_28 ?_
    refine lv_istore (lv' := [(6, .int (iz 0)), (5, .int (zb f2)), (0, .ref h), (1, .int s3), (2, .int s4), (3, .int s6), (4, .int s9)]) hX_ hB_ dX1_turnInner_29 hl (by decide) rfl (fun ls hl => ?_)
    have loop_31 : ∀ (n_31 : Nat), ∀ (i : Int) (gg : Int → Int64), (0 ≤ i ∧ i ≤ 360) → (WI 360 i gg (qInner s3 s4 s6 s9)) → ((360 - i).toNat < n_31) → ∀ (H : Heap) (locs : List Loc), va_P G.1 vwCl [(h, .inr (0, [.ref dA, .int (iz kept), .int (iz many), .ref w1, .ref w2, .ref w3, .ref w4])), (w1, .inr (5, [.int (iz 360), .ref b1, .int (zb f2)])), (b1, .inl (G.2 2, 8, .inr (.inl (rv gg))))] H → va_D A [(h, .inr (0, [.ref dA, .int (iz kept), .int (iz many), .ref w1, .ref w2, .ref w3, .ref w4])), (w1, .inr (5, [.int (iz 360), .ref b1, .int (zb f2)])), (b1, .inl (G.2 2, 8, .inr (.inl (rv gg))))] → va_S A s.heap H locs → ∀ ls : Array Slot, lv_has ls 8 [(0, .ref h), (1, .int s3), (2, .int s4), (3, .int s6), (4, .int s9), (5, .int (zb f2)), (6, .int (iz i))] → W p l e ({ frames := 2, cells := 0, slots := 0, locals := 45 }) s m ([.ref h, .int s3, .int s4, .int s6, .int s9] : List Value).toArray below meth c H locs 0 0 (MQ below (va_Qv (fun (u : Bool × (Int → Int64)) => match u with | (fr2, g2) => WP 360 fr2 g2 (qInner s3 s4 s6 s9)) (fun u__ t__ => Pst G A ((fun u : Bool × (Int → Int64) => match u with | (fr2, g2) => [(h, .inr (0, [.ref dA, .int (iz kept), .int (iz many), .ref w1, .ref w2, .ref w3, .ref w4])), (w1, .inr (5, [.int (iz 360), .ref b1, .int (zb fr2)])), (b1, .inl (G.2 2, 8, .inr (.inl (rv g2))))]) u__) t__) A) ([.ref h, .int s3, .int s4, .int s6, .int s9] : List Value).toArray s 0 0 A) (F0 m 31 ls []) := by
      intro n_31
      induction n_31 with
      | zero =>
        intro i gg hi hg hm H locs hP hD hS ls hl
        exact absurd hm (Nat.not_lt_zero _)
      | succ n_31 ih_31 =>
        intro i gg hi hg hm H locs hP hD hS ls hl
        have join_119 : ∀ (g3 : Int → Int64), (i < 360) → (WI 360 (i + 1) g3 (qInner s3 s4 s6 s9)) → ∀ (H : Heap) (locs : List Loc), va_P G.1 vwCl [(h, .inr (0, [.ref dA, .int (iz kept), .int (iz many), .ref w1, .ref w2, .ref w3, .ref w4])), (w1, .inr (5, [.int (iz 360), .ref b1, .int (zb f2)])), (b1, .inl (G.2 2, 8, .inr (.inl (rv g3))))] H → va_D A [(h, .inr (0, [.ref dA, .int (iz kept), .int (iz many), .ref w1, .ref w2, .ref w3, .ref w4])), (w1, .inr (5, [.int (iz 360), .ref b1, .int (zb f2)])), (b1, .inl (G.2 2, 8, .inr (.inl (rv g3))))] → va_S A s.heap H locs → ∀ ls : Array Slot, lv_has ls 8 [(0, .ref h), (1, .int s3), (2, .int s4), (3, .int s6), (4, .int s9), (5, .int (zb f2)), (6, .int (iz i))] → W p l e ({ frames := 2, cells := 0, slots := 0, locals := 45 }) s m ([.ref h, .int s3, .int s4, .int s6, .int s9] : List Value).toArray below meth c H locs 0 0 (MQ below (va_Qv (fun (u : Bool × (Int → Int64)) => match u with | (fr2, g2) => WP 360 fr2 g2 (qInner s3 s4 s6 s9)) (fun u__ t__ => Pst G A ((fun u : Bool × (Int → Int64) => match u with | (fr2, g2) => [(h, .inr (0, [.ref dA, .int (iz kept), .int (iz many), .ref w1, .ref w2, .ref w3, .ref w4])), (w1, .inr (5, [.int (iz 360), .ref b1, .int (zb fr2)])), (b1, .inl (G.2 2, 8, .inr (.inl (rv g2))))]) u__) t__) A) ([.ref h, .int s3, .int s4, .int s6, .int s9] : List Value).toArray s 0 0 A) (F0 m 119 ls []) := by
          intro g3 hi3 hg3 H locs hP hD hS ls hl
          refine lv_iinc (v := (iz (i + 1))) (lv' := [(6, .int (iz (i + 1))), (0, .ref h), (1, .int s3), (2, .int s4), (3, .int s6), (4, .int s9), (5, .int (zb f2))]) hX_ hB_ dX1_turnInner_119 hl (k := 6) rfl (iz_add _ _) (by decide) rfl (fun ls hl => ?_)
          refine lv_goto (tgt := 31) hX_ hB_ dX1_turnInner_122 (by decide) ?_
          exact ih_31 (i + 1) g3 (by omega) (by exact hg3) (by omega) _ _ hP hD hS ls (lv_sub hl [1, 2, 3, 4, 5, 6, 0] rfl)
        refine lv_iload hX_ hB_ dX1_turnInner_31 (lv_at hl 6 rfl) ?_
        refine zk_sipush hX_ hB_ (by decide) dX1_turnInner_33 ?_
        refine zk_icmp_ge (tgt := 125) hX_ hB_ (by omega) (by omega) dX1_turnInner_36 (by decide) (fun c_36 => ?_) (fun c_36 => ?_)
        · skip
          exact fin_v (wf := (fun u : Bool × (Int → Int64) => match u with | (fr2, g2) => [(h, .inr (0, [.ref dA, .int (iz kept), .int (iz many), .ref w1, .ref w2, .ref w3, .ref w4])), (w1, .inr (5, [.int (iz 360), .ref b1, .int (zb fr2)])), (b1, .inl (G.2 2, 8, .inr (.inl (rv g2))))])) (f2, gg) F hP hD hK hS (by decide) (by decide) dX1_turnInner_125 (by by_cases q9 : s3 &&& s4 &&& s6 &&& s9 = iz (-1); exact WP_free (by omega) (by rw [hf2]; simp [q9]) (fun i h1 h2 => by obtain ⟨q1, q4⟩ := and_any q9; obtain ⟨q1, q3⟩ := and_any q1; obtain ⟨q1, q2⟩ := and_any q1; rw [q1, q2, q3, q4]; exact qInner_any h1 h2); exact WP_full (by omega) (by rw [hf2]; simp [q9]) (by have : i = 360 := (by omega); subst this; exact hg))
        · skip
          refine lv_iload hX_ hB_ dX1_turnInner_39 (lv_at hl 5 rfl) ?_
          refine zk_bif_ne (tgt := 125) hX_ hB_ dX1_turnInner_41 (by decide) (fun c_41 => ?_) (fun c_41 => ?_)
          · skip
            exact fin_v (wf := (fun u : Bool × (Int → Int64) => match u with | (fr2, g2) => [(h, .inr (0, [.ref dA, .int (iz kept), .int (iz many), .ref w1, .ref w2, .ref w3, .ref w4])), (w1, .inr (5, [.int (iz 360), .ref b1, .int (zb fr2)])), (b1, .inl (G.2 2, 8, .inr (.inl (rv g2))))])) (f2, gg) F hP hD hK hS (by decide) (by decide) dX1_turnInner_125 (by have q9 : s3 &&& s4 &&& s6 &&& s9 = iz (-1) := (by rw [hf2] at c_41; simpa using c_41); exact WP_free (by omega) c_41 (fun i h1 h2 => by obtain ⟨q1, q4⟩ := and_any q9; obtain ⟨q1, q3⟩ := and_any q1; obtain ⟨q1, q2⟩ := and_any q1; rw [q1, q2, q3, q4]; exact qInner_any h1 h2))
          · skip
            refine zk_ldc hX_ hB_ (1152000) hown (hts _ hw_X1_turnInner_a00a53) (by decide) dX1_turnInner_44 ?_
            refine lv_iload hX_ hB_ dX1_turnInner_46 (lv_at hl 6 rfl) ?_
            refine zk_iadd hX_ hB_ dX1_turnInner_48 ?_
            refine lv_istore (lv' := [(7, .int (iz (1152000 + i))), (0, .ref h), (1, .int s3), (2, .int s4), (3, .int s6), (4, .int s9), (5, .int (zb f2)), (6, .int (iz i))]) hX_ hB_ dX1_turnInner_49 hl (by decide) rfl (fun ls hl => ?_)
            refine lv_iload_n hX_ hB_ dX1_turnInner_51 rfl (lv_at hl 2 rfl) ?_
            refine lv_iload hX_ hB_ dX1_turnInner_52 (lv_at hl 0 rfl) ?_
            refine zk_iconst hX_ hB_ dX1_turnInner_54 ?_
            refine zk_iconst hX_ hB_ dX1_turnInner_55 ?_
            refine back_i (wr := [(h, .inr (0, [.ref dA, .int (iz kept), .int (iz many), .ref w1, .ref w2, .ref w3, .ref w4])), (w1, .inr (5, [.int (iz 360), .ref b1, .int (zb f2)])), (b1, .inl (G.2 2, 8, .inr (.inl (rv gg))))]) (run_S (As := [.int (iz (1152000 + i)), .int (iz 3), .int (iz 0)]) (rest := [.int s3]) (wc := []) F (c_X0_signOf l G (1152000 + i) 3 0 (by omega) (by omega) (by omega) _) ext0 gX1_turnInner_X0_signOf rfl rfl rfl mds_X0_signOf ⟨Nat.le_of_ble_eq_true rfl, Nat.le_of_ble_eq_true rfl⟩ (pre_of ext0 hK hP hD hS hA trivial [] (by decide) rfl _) rfl hl.1 (Nat.le_of_ble_eq_true rfl) dX1_turnInner_56 ⟨by decide, by decide⟩) hP hD hS hA [] [0, 1, 2] rfl rfl (by decide) (by decide) (fun r__ u__ H locs hw hP hD hS => ?_)
            subst hw
            have hP := hP.sub (ws' := [(h, .inr (0, [.ref dA, .int (iz kept), .int (iz many), .ref w1, .ref w2, .ref w3, .ref w4])), (w1, .inr (5, [.int (iz 360), .ref b1, .int (zb f2)])), (b1, .inl (G.2 2, 8, .inr (.inl (rv gg))))]) [0, 1, 2] rfl
            have hD := hD.sub (ws' := [(h, .inr (0, [.ref dA, .int (iz kept), .int (iz many), .ref w1, .ref w2, .ref w3, .ref w4])), (w1, .inr (5, [.int (iz 360), .ref b1, .int (zb f2)])), (b1, .inl (G.2 2, 8, .inr (.inl (rv gg))))]) [0, 1, 2] (by decide) rfl
            have hsg3 := sgn_rng (k := 3) (d := 1152000 + i) (b := 0) (by omega) (by omega)
            refine back_i (wr := [(h, .inr (0, [.ref dA, .int (iz kept), .int (iz many), .ref w1, .ref w2, .ref w3, .ref w4])), (w1, .inr (5, [.int (iz 360), .ref b1, .int (zb f2)])), (b1, .inl (G.2 2, 8, .inr (.inl (rv gg))))]) (run_S (As := [.int s3, .int (iz (sgn (1152000 + i) 3 0))]) (rest := []) (wc := []) F (c_X0_holds l G s3 (sgn (1152000 + i) 3 0) (by omega) _) ext0 gX1_turnInner_X0_holds rfl rfl rfl mds_X0_holds ⟨Nat.le_of_ble_eq_true rfl, Nat.le_of_ble_eq_true rfl⟩ (pre_of ext0 hK hP hD hS hA trivial [] (by decide) rfl _) rfl hl.1 (Nat.le_of_ble_eq_true rfl) dX1_turnInner_59 ⟨by decide, by decide⟩) hP hD hS hA [] [0, 1, 2] rfl rfl (by decide) (by decide) (fun r__ u__ H locs hw hP hD hS => ?_)
            subst hw
            have hP := hP.sub (ws' := [(h, .inr (0, [.ref dA, .int (iz kept), .int (iz many), .ref w1, .ref w2, .ref w3, .ref w4])), (w1, .inr (5, [.int (iz 360), .ref b1, .int (zb f2)])), (b1, .inl (G.2 2, 8, .inr (.inl (rv gg))))]) [0, 1, 2] rfl
            have hD := hD.sub (ws' := [(h, .inr (0, [.ref dA, .int (iz kept), .int (iz many), .ref w1, .ref w2, .ref w3, .ref w4])), (w1, .inr (5, [.int (iz 360), .ref b1, .int (zb f2)])), (b1, .inl (G.2 2, 8, .inr (.inl (rv gg))))]) [0, 1, 2] (by decide) rfl
            refine zk_bif_eq (tgt := 119) hX_ hB_ dX1_turnInner_62 (by decide) (fun c_62 => ?_) (fun c_62 => ?_)
            · skip
              exact join_119 gg (by omega) (by exact WI_no hg (by unfold qInner; rw [c_62]; rfl)) _ _ hP hD hS ls (lv_sub hl [1, 2, 3, 4, 5, 6, 7] rfl)
            · skip
              refine lv_iload_n hX_ hB_ dX1_turnInner_65 rfl (lv_at hl 3 rfl) ?_
              refine lv_iload hX_ hB_ dX1_turnInner_66 (lv_at hl 0 rfl) ?_
              refine zk_iconst hX_ hB_ dX1_turnInner_68 ?_
              refine zk_iconst hX_ hB_ dX1_turnInner_69 ?_
              refine back_i (wr := [(h, .inr (0, [.ref dA, .int (iz kept), .int (iz many), .ref w1, .ref w2, .ref w3, .ref w4])), (w1, .inr (5, [.int (iz 360), .ref b1, .int (zb f2)])), (b1, .inl (G.2 2, 8, .inr (.inl (rv gg))))]) (run_S (As := [.int (iz (1152000 + i)), .int (iz 4), .int (iz 0)]) (rest := [.int s4]) (wc := []) F (c_X0_signOf l G (1152000 + i) 4 0 (by omega) (by omega) (by omega) _) ext0 gX1_turnInner_X0_signOf rfl rfl rfl mds_X0_signOf ⟨Nat.le_of_ble_eq_true rfl, Nat.le_of_ble_eq_true rfl⟩ (pre_of ext0 hK hP hD hS hA trivial [] (by decide) rfl _) rfl hl.1 (Nat.le_of_ble_eq_true rfl) dX1_turnInner_70 ⟨by decide, by decide⟩) hP hD hS hA [] [0, 1, 2] rfl rfl (by decide) (by decide) (fun r__ u__ H locs hw hP hD hS => ?_)
              subst hw
              have hP := hP.sub (ws' := [(h, .inr (0, [.ref dA, .int (iz kept), .int (iz many), .ref w1, .ref w2, .ref w3, .ref w4])), (w1, .inr (5, [.int (iz 360), .ref b1, .int (zb f2)])), (b1, .inl (G.2 2, 8, .inr (.inl (rv gg))))]) [0, 1, 2] rfl
              have hD := hD.sub (ws' := [(h, .inr (0, [.ref dA, .int (iz kept), .int (iz many), .ref w1, .ref w2, .ref w3, .ref w4])), (w1, .inr (5, [.int (iz 360), .ref b1, .int (zb f2)])), (b1, .inl (G.2 2, 8, .inr (.inl (rv gg))))]) [0, 1, 2] (by decide) rfl
              have hsg4 := sgn_rng (k := 4) (d := 1152000 + i) (b := 0) (by omega) (by omega)
              refine back_i (wr := [(h, .inr (0, [.ref dA, .int (iz kept), .int (iz many), .ref w1, .ref w2, .ref w3, .ref w4])), (w1, .inr (5, [.int (iz 360), .ref b1, .int (zb f2)])), (b1, .inl (G.2 2, 8, .inr (.inl (rv gg))))]) (run_S (As := [.int s4, .int (iz (sgn (1152000 + i) 4 0))]) (rest := []) (wc := []) F (c_X0_holds l G s4 (sgn (1152000 + i) 4 0) (by omega) _) ext0 gX1_turnInner_X0_holds rfl rfl rfl mds_X0_holds ⟨Nat.le_of_ble_eq_true rfl, Nat.le_of_ble_eq_true rfl⟩ (pre_of ext0 hK hP hD hS hA trivial [] (by decide) rfl _) rfl hl.1 (Nat.le_of_ble_eq_true rfl) dX1_turnInner_73 ⟨by decide, by decide⟩) hP hD hS hA [] [0, 1, 2] rfl rfl (by decide) (by decide) (fun r__ u__ H locs hw hP hD hS => ?_)
              subst hw
              have hP := hP.sub (ws' := [(h, .inr (0, [.ref dA, .int (iz kept), .int (iz many), .ref w1, .ref w2, .ref w3, .ref w4])), (w1, .inr (5, [.int (iz 360), .ref b1, .int (zb f2)])), (b1, .inl (G.2 2, 8, .inr (.inl (rv gg))))]) [0, 1, 2] rfl
              have hD := hD.sub (ws' := [(h, .inr (0, [.ref dA, .int (iz kept), .int (iz many), .ref w1, .ref w2, .ref w3, .ref w4])), (w1, .inr (5, [.int (iz 360), .ref b1, .int (zb f2)])), (b1, .inl (G.2 2, 8, .inr (.inl (rv gg))))]) [0, 1, 2] (by decide) rfl
              refine zk_bif_eq (tgt := 119) hX_ hB_ dX1_turnInner_76 (by decide) (fun c_76 => ?_) (fun c_76 => ?_)
              · skip
                exact join_119 gg (by omega) (by exact WI_no hg (by unfold qInner; rw [c_62, c_76]; rfl)) _ _ hP hD hS ls (lv_sub hl [1, 2, 3, 4, 5, 6, 7] rfl)
              · skip
                refine lv_iload_n hX_ hB_ dX1_turnInner_79 rfl (lv_at hl 4 rfl) ?_
                refine lv_iload hX_ hB_ dX1_turnInner_80 (lv_at hl 0 rfl) ?_
                refine zk_bipush hX_ hB_ (by decide) dX1_turnInner_82 ?_
                refine zk_iconst hX_ hB_ dX1_turnInner_84 ?_
                refine back_i (wr := [(h, .inr (0, [.ref dA, .int (iz kept), .int (iz many), .ref w1, .ref w2, .ref w3, .ref w4])), (w1, .inr (5, [.int (iz 360), .ref b1, .int (zb f2)])), (b1, .inl (G.2 2, 8, .inr (.inl (rv gg))))]) (run_S (As := [.int (iz (1152000 + i)), .int (iz 6), .int (iz 0)]) (rest := [.int s6]) (wc := []) F (c_X0_signOf l G (1152000 + i) 6 0 (by omega) (by omega) (by omega) _) ext0 gX1_turnInner_X0_signOf rfl rfl rfl mds_X0_signOf ⟨Nat.le_of_ble_eq_true rfl, Nat.le_of_ble_eq_true rfl⟩ (pre_of ext0 hK hP hD hS hA trivial [] (by decide) rfl _) rfl hl.1 (Nat.le_of_ble_eq_true rfl) dX1_turnInner_85 ⟨by decide, by decide⟩) hP hD hS hA [] [0, 1, 2] rfl rfl (by decide) (by decide) (fun r__ u__ H locs hw hP hD hS => ?_)
                subst hw
                have hP := hP.sub (ws' := [(h, .inr (0, [.ref dA, .int (iz kept), .int (iz many), .ref w1, .ref w2, .ref w3, .ref w4])), (w1, .inr (5, [.int (iz 360), .ref b1, .int (zb f2)])), (b1, .inl (G.2 2, 8, .inr (.inl (rv gg))))]) [0, 1, 2] rfl
                have hD := hD.sub (ws' := [(h, .inr (0, [.ref dA, .int (iz kept), .int (iz many), .ref w1, .ref w2, .ref w3, .ref w4])), (w1, .inr (5, [.int (iz 360), .ref b1, .int (zb f2)])), (b1, .inl (G.2 2, 8, .inr (.inl (rv gg))))]) [0, 1, 2] (by decide) rfl
                have hsg6 := sgn_rng (k := 6) (d := 1152000 + i) (b := 0) (by omega) (by omega)
                refine back_i (wr := [(h, .inr (0, [.ref dA, .int (iz kept), .int (iz many), .ref w1, .ref w2, .ref w3, .ref w4])), (w1, .inr (5, [.int (iz 360), .ref b1, .int (zb f2)])), (b1, .inl (G.2 2, 8, .inr (.inl (rv gg))))]) (run_S (As := [.int s6, .int (iz (sgn (1152000 + i) 6 0))]) (rest := []) (wc := []) F (c_X0_holds l G s6 (sgn (1152000 + i) 6 0) (by omega) _) ext0 gX1_turnInner_X0_holds rfl rfl rfl mds_X0_holds ⟨Nat.le_of_ble_eq_true rfl, Nat.le_of_ble_eq_true rfl⟩ (pre_of ext0 hK hP hD hS hA trivial [] (by decide) rfl _) rfl hl.1 (Nat.le_of_ble_eq_true rfl) dX1_turnInner_88 ⟨by decide, by decide⟩) hP hD hS hA [] [0, 1, 2] rfl rfl (by decide) (by decide) (fun r__ u__ H locs hw hP hD hS => ?_)
                subst hw
                have hP := hP.sub (ws' := [(h, .inr (0, [.ref dA, .int (iz kept), .int (iz many), .ref w1, .ref w2, .ref w3, .ref w4])), (w1, .inr (5, [.int (iz 360), .ref b1, .int (zb f2)])), (b1, .inl (G.2 2, 8, .inr (.inl (rv gg))))]) [0, 1, 2] rfl
                have hD := hD.sub (ws' := [(h, .inr (0, [.ref dA, .int (iz kept), .int (iz many), .ref w1, .ref w2, .ref w3, .ref w4])), (w1, .inr (5, [.int (iz 360), .ref b1, .int (zb f2)])), (b1, .inl (G.2 2, 8, .inr (.inl (rv gg))))]) [0, 1, 2] (by decide) rfl
                refine zk_bif_eq (tgt := 119) hX_ hB_ dX1_turnInner_91 (by decide) (fun c_91 => ?_) (fun c_91 => ?_)
                · skip
                  exact join_119 gg (by omega) (by exact WI_no hg (by unfold qInner; rw [c_62, c_76, c_91]; rfl)) _ _ hP hD hS ls (lv_sub hl [1, 2, 3, 4, 5, 6, 7] rfl)
                · skip
                  refine lv_iload hX_ hB_ dX1_turnInner_94 (lv_at hl 5 rfl) ?_
                  refine lv_iload hX_ hB_ dX1_turnInner_96 (lv_at hl 0 rfl) ?_
                  refine zk_bipush hX_ hB_ (by decide) dX1_turnInner_98 ?_
                  refine zk_iconst hX_ hB_ dX1_turnInner_100 ?_
                  refine back_i (wr := [(h, .inr (0, [.ref dA, .int (iz kept), .int (iz many), .ref w1, .ref w2, .ref w3, .ref w4])), (w1, .inr (5, [.int (iz 360), .ref b1, .int (zb f2)])), (b1, .inl (G.2 2, 8, .inr (.inl (rv gg))))]) (run_S (As := [.int (iz (1152000 + i)), .int (iz 9), .int (iz 0)]) (rest := [.int s9]) (wc := []) F (c_X0_signOf l G (1152000 + i) 9 0 (by omega) (by omega) (by omega) _) ext0 gX1_turnInner_X0_signOf rfl rfl rfl mds_X0_signOf ⟨Nat.le_of_ble_eq_true rfl, Nat.le_of_ble_eq_true rfl⟩ (pre_of ext0 hK hP hD hS hA trivial [] (by decide) rfl _) rfl hl.1 (Nat.le_of_ble_eq_true rfl) dX1_turnInner_101 ⟨by decide, by decide⟩) hP hD hS hA [] [0, 1, 2] rfl rfl (by decide) (by decide) (fun r__ u__ H locs hw hP hD hS => ?_)
                  subst hw
                  have hP := hP.sub (ws' := [(h, .inr (0, [.ref dA, .int (iz kept), .int (iz many), .ref w1, .ref w2, .ref w3, .ref w4])), (w1, .inr (5, [.int (iz 360), .ref b1, .int (zb f2)])), (b1, .inl (G.2 2, 8, .inr (.inl (rv gg))))]) [0, 1, 2] rfl
                  have hD := hD.sub (ws' := [(h, .inr (0, [.ref dA, .int (iz kept), .int (iz many), .ref w1, .ref w2, .ref w3, .ref w4])), (w1, .inr (5, [.int (iz 360), .ref b1, .int (zb f2)])), (b1, .inl (G.2 2, 8, .inr (.inl (rv gg))))]) [0, 1, 2] (by decide) rfl
                  have hsg9 := sgn_rng (k := 9) (d := 1152000 + i) (b := 0) (by omega) (by omega)
                  refine back_i (wr := [(h, .inr (0, [.ref dA, .int (iz kept), .int (iz many), .ref w1, .ref w2, .ref w3, .ref w4])), (w1, .inr (5, [.int (iz 360), .ref b1, .int (zb f2)])), (b1, .inl (G.2 2, 8, .inr (.inl (rv gg))))]) (run_S (As := [.int s9, .int (iz (sgn (1152000 + i) 9 0))]) (rest := []) (wc := []) F (c_X0_holds l G s9 (sgn (1152000 + i) 9 0) (by omega) _) ext0 gX1_turnInner_X0_holds rfl rfl rfl mds_X0_holds ⟨Nat.le_of_ble_eq_true rfl, Nat.le_of_ble_eq_true rfl⟩ (pre_of ext0 hK hP hD hS hA trivial [] (by decide) rfl _) rfl hl.1 (Nat.le_of_ble_eq_true rfl) dX1_turnInner_104 ⟨by decide, by decide⟩) hP hD hS hA [] [0, 1, 2] rfl rfl (by decide) (by decide) (fun r__ u__ H locs hw hP hD hS => ?_)
                  subst hw
                  have hP := hP.sub (ws' := [(h, .inr (0, [.ref dA, .int (iz kept), .int (iz many), .ref w1, .ref w2, .ref w3, .ref w4])), (w1, .inr (5, [.int (iz 360), .ref b1, .int (zb f2)])), (b1, .inl (G.2 2, 8, .inr (.inl (rv gg))))]) [0, 1, 2] rfl
                  have hD := hD.sub (ws' := [(h, .inr (0, [.ref dA, .int (iz kept), .int (iz many), .ref w1, .ref w2, .ref w3, .ref w4])), (w1, .inr (5, [.int (iz 360), .ref b1, .int (zb f2)])), (b1, .inl (G.2 2, 8, .inr (.inl (rv gg))))]) [0, 1, 2] (by decide) rfl
                  refine zk_bif_eq (tgt := 119) hX_ hB_ dX1_turnInner_107 (by decide) (fun c_107 => ?_) (fun c_107 => ?_)
                  · skip
                    exact join_119 gg (by omega) (by exact WI_no hg (by unfold qInner; rw [c_62, c_76, c_91, c_107]; rfl)) _ _ hP hD hS ls (lv_sub hl [1, 2, 3, 4, 5, 6, 7] rfl)
                  · skip
                    refine lv_aload_n hX_ hB_ dX1_turnInner_110 rfl (lv_at hl 1 rfl) ?_
                    refine va_get (D := G.1) (ci := 0) (v := .ref w1) (C := RX1) (T := TX1) (N := 7) hX_ hB_ hts hi_X1_turnInner_X1 hown hK.1 hP 0 rfl rfl 3 (by decide) (hts _ hw_X1_turnInner_5ade71) (fun _ h9 => h9) rfl dX1_turnInner_111 ?_
                    refine lv_iload hX_ hB_ dX1_turnInner_114 (lv_at hl 7 rfl) ?_
                    refine back_v (wr := [(h, .inr (0, [.ref dA, .int (iz kept), .int (iz many), .ref w1, .ref w2, .ref w3, .ref w4]))]) (run_V (As := [.int (iz i)]) (rest := []) (wc := [(w1, .inr (5, [.int (iz 360), .ref b1, .int (zb f2)])), (b1, .inl (G.2 2, 8, .inr (.inl (rv gg))))]) F (c_X7_mark l G w1 b1 8 360 gg f2 i (by omega) (by omega) (by omega) _) ext0 gX1_turnInner_X7_mark rfl rfl rfl mdv_X7_mark ⟨Nat.le_of_ble_eq_true rfl, Nat.le_of_ble_eq_true rfl⟩ (va_recv hK.1 (hP.sub (ws' := [(w1, .inr (5, [.int (iz 360), .ref b1, .int (zb f2)])), (b1, .inl (G.2 2, 8, .inr (.inl (rv gg))))]) [1, 2] rfl) (ci := 5) (q0 := 0) rfl rfl) (pre_of ext0 hK hP hD hS hA trivial [1, 2] (by decide) rfl _) rfl hl.1 (Nat.le_of_ble_eq_true rfl) dX1_turnInner_116 ⟨by decide, by decide⟩) hP hD hS hA [1, 2] [0] rfl rfl (by decide) (by decide) (fun u__ H locs hw hP hD hS => ?_)
                    obtain ⟨g2_116, rfl⟩ : ∃ z, z = u__ := ⟨_, rfl⟩
                    try dsimp only at hw hP hD
                    have hw_116 := hw
                    have hP := hP.sub (ws' := [(h, .inr (0, [.ref dA, .int (iz kept), .int (iz many), .ref w1, .ref w2, .ref w3, .ref w4])), (w1, .inr (5, [.int (iz 360), .ref b1, .int (zb f2)])), (b1, .inl (G.2 2, 8, .inr (.inl (rv g2_116))))]) [0, 1, 2] rfl
                    have hD := hD.sub (ws' := [(h, .inr (0, [.ref dA, .int (iz kept), .int (iz many), .ref w1, .ref w2, .ref w3, .ref w4])), (w1, .inr (5, [.int (iz 360), .ref b1, .int (zb f2)])), (b1, .inl (G.2 2, 8, .inr (.inl (rv g2_116))))]) [0, 1, 2] (by decide) rfl
                    exact join_119 g2_116 (by omega) (by exact WI_yes hg hw_116 (by unfold qInner; rw [c_62, c_76, c_91, c_107]; rfl)) _ _ hP hD hS ls (lv_sub hl [1, 2, 3, 4, 5, 6, 7] rfl)
    exact loop_31 _ 0 (fun _ => (lz 0)) (by omega) (by exact WI_0 (by omega)) (Nat.lt_succ_self _) _ _ hP hD hS ls (lv_sub hl [2, 3, 4, 5, 6, 1, 0] rfl)
  refine lv_iload_n hX_ hB_ dX1_turnInner_0 rfl (lv_at hl 1 rfl) ?_
  refine lv_iload_n hX_ hB_ dX1_turnInner_1 rfl (lv_at hl 2 rfl) ?_
  refine lv_iand hX_ hB_ dX1_turnInner_2 ?_
  refine lv_iload_n hX_ hB_ dX1_turnInner_3 rfl (lv_at hl 3 rfl) ?_
  refine lv_iand hX_ hB_ dX1_turnInner_4 ?_
  refine lv_iload hX_ hB_ dX1_turnInner_5 (lv_at hl 4 rfl) ?_
  refine lv_iand hX_ hB_ dX1_turnInner_7 ?_
  refine zk_iconst hX_ hB_ dX1_turnInner_8 ?_
  refine lv_icmp_ne (tgt := 16) hX_ hB_ dX1_turnInner_9 (by decide) (fun c_9 => ?_) (fun c_9 => ?_)
  · skip
    refine zk_iconst hX_ hB_ dX1_turnInner_16 ?_
    refine zk_topi (y := (zb false)) rfl ?_
    exact join_17 false (by simp [c_9]) _ _ hP hD hS ls (lv_sub hl [0, 1, 2, 3, 4] rfl)
  · skip
    refine zk_iconst hX_ hB_ dX1_turnInner_12 ?_
    refine zk_topi (y := (zb true)) rfl ?_
    refine lv_goto (tgt := 17) hX_ hB_ dX1_turnInner_13 (by decide) ?_
    exact join_17 true (by simp [c_9]) _ _ hP hD hS ls (lv_sub hl [0, 1, 2, 3, 4] rfl)
