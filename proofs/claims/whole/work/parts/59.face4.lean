
/-- the stones of the face: cells that nobody writes -/
def StoE (sa : Int → Option Nat) (sd : Int → Nat) (Ls : Int → List Int) (mn : Int → Int) : EE := fun A U H => ∀ k : Int, 0 ≤ k → k < 30 → ∀ x, sa k = some x → va_OF "StoneDates$Stone" "many" "I" (.int (iz (mn k))) x A U H ∧ va_OF "StoneDates$Stone" "days" "[I" (.ref (sd k)) x A U H ∧ va_T .int (sd k) (Ls k).length (fun j => .int (iz ((Ls k).getD j 0))) A U H
theorem stoE_ext (sa : Int → Option Nat) (sd : Int → Nat) (Ls : Int → List Int) (mn : Int → Int) : Ext (StoE sa sd Ls mn) :=
  ⟨fun A u U H hv h k h1 h2 x hx => ⟨va_OF.moved hv.alike (h k h1 h2 x hx).1, va_OF.moved hv.alike (h k h1 h2 x hx).2.1, va_T.moved hv.alike (h k h1 h2 x hx).2.2⟩, fun A U H H1 hq h k h1 h2 x hx => ⟨(h k h1 h2 x hx).1.kept hq, (h k h1 h2 x hx).2.1.kept hq, (h k h1 h2 x hx).2.2.kept hq⟩, fun A B U H hq h k h1 h2 x hx => ⟨(h k h1 h2 x hx).1.narrow hq, (h k h1 h2 x hx).2.1.narrow hq, (h k h1 h2 x hx).2.2.narrow hq⟩⟩
theorem hw_X8_many_cc5595 : (.fieldLink RX8 140 "StoneDates$Stone" "many" "I" : Cond) ∈ wsX8_many := by decide +kernel
set_option maxHeartbeats 4000000 in
set_option maxRecDepth 100000 in
theorem c_X8_many (l : Launch) (G : GG) (hl0 : l.stackTraces = false) (ga : Nat → Nat) (h : Nat) (bA : Nat) (stA : Nat) (rd_ : Nat) (fi : Nat) (nt : Nat) (ks : Nat) (tc : Int) (sc : Int) (sa : Int → Option Nat) (sd : Int → Nat) (Ls : Int → List Int) (mn : Int → Int) (x : Int) (hsc : 0 ≤ sc ∧ sc ≤ 30) (hsa : ∀ j : Int, 0 ≤ j → j < sc → ∃ y, sa j = some y) (hx0 : R31 x) : Xc l yX8_many wsX8_many ({ frames := 7, cells := 1, slots := 6, locals := 112 }) G (And2 (ThE ga) (StoE sa sd Ls mn)) [.ref h, .int (iz x)] [(h, .inr (6, [.ref bA, .ref stA, .ref rd_, .ref fi, .ref nt, .ref ks, .int (iz tc), .int (iz sc)])), (stA, .inl (G.2 4, 30, .inr (.inr (.inr (.inr (rv sa))))))] 1 6 (Qki G (fun _ : Unit => [(h, .inr (6, [.ref bA, .ref stA, .ref rd_, .ref fi, .ref nt, .ref ks, .int (iz tc), .int (iz sc)])), (stA, .inl (G.2 4, 30, .inr (.inr (.inr (.inr (rv sa))))))]) (fun (r : Int32) (_ : Unit) => (r = (iz (mn x))) ∧ (0 ≤ x ∧ x < sc))) (fun En : String => ¬ (0 ≤ x ∧ x < sc) ∧ En = "java/lang/IndexOutOfBoundsException") := by
  refine Xc_intro (cc := cX8_many) (maxL := 2) (ret := (some .int)) (by decide) rfl (Nat.le_of_ble_eq_true rfl) ?_
  intro p e s m below meth c A F htb hA hP hD hK hE ls hl
  have hX_ := F.1
  have hB_ := F.2.1
  have hts := F.2.2.2.2.2.1
  have hown := F.2.2.2.2.1
  have hml := F.2.2.2.1
  have hS : va_S A s.heap s.heap [] := va_S.rf
  have hl : lv_has ls 2 [(0, .ref h), (1, .int (iz x))] := hl
  refine lv_aload_n hX_ hB_ dX8_many_0 rfl (lv_at hl 0 rfl) ?_
  refine lv_iload_n hX_ hB_ dX8_many_1 rfl (lv_at hl 1 rfl) ?_
  refine xback_q (wr := []) (xrun_V (As := [.int (iz x)]) (rest := []) (wc := [(h, .inr (6, [.ref bA, .ref stA, .ref rd_, .ref fi, .ref nt, .ref ks, .int (iz tc), .int (iz sc)])), (stA, .inl (G.2 4, 30, .inr (.inr (.inr (.inr (rv sa))))))]) F (c_X8_stoneAt l G hl0 ga h bA stA rd_ fi nt ks tc sc sa x hsc hsa (by omega)) (thE_ext ga) gX8_many_X8_stoneAt rfl rfl rfl mdv_X8_stoneAt ⟨Nat.le_of_ble_eq_true rfl, Nat.le_of_ble_eq_true rfl⟩ (va_recv hK.1 (hP.sub (ws' := [(h, .inr (6, [.ref bA, .ref stA, .ref rd_, .ref fi, .ref nt, .ref ks, .int (iz tc), .int (iz sc)])), (stA, .inl (G.2 4, 30, .inr (.inr (.inr (.inr (rv sa))))))]) [0, 1] rfl) (ci := 6) (q0 := 0) rfl rfl) (pre_of (thE_ext ga) hK hP hD hS hA hE.1 [0, 1] (by decide) rfl _) rfl hl.1 (Nat.le_of_ble_eq_true rfl) dX8_many_2 ⟨by decide, by decide⟩) hP hD hS hA [0, 1] [] rfl rfl (by decide) (by decide) (fun En ce q9 H locs hx hP hD hS g1 g2 g3 => ?_) (fun r__ u__ H locs hw hP hD hS => ?_)
  · skip
    have hP := hP.sub (ws' := [(h, .inr (6, [.ref bA, .ref stA, .ref rd_, .ref fi, .ref nt, .ref ks, .int (iz tc), .int (iz sc)])), (stA, .inl (G.2 4, 30, .inr (.inr (.inr (.inr (rv sa))))))]) [0, 1] rfl
    have hD := hD.sub (ws' := [(h, .inr (6, [.ref bA, .ref stA, .ref rd_, .ref fi, .ref nt, .ref ks, .int (iz tc), .int (iz sc)])), (stA, .inl (G.2 4, 30, .inr (.inr (.inr (.inr (rv sa))))))]) [0, 1] (by decide) rfl
    exact xout F htb hP hD hK hS (by exact hx) g1 g2 g3 (by decide) (by decide)
  obtain ⟨rfl, hw_2⟩ := hw
  have hP := hP.sub (ws' := [(h, .inr (6, [.ref bA, .ref stA, .ref rd_, .ref fi, .ref nt, .ref ks, .int (iz tc), .int (iz sc)])), (stA, .inl (G.2 4, 30, .inr (.inr (.inr (.inr (rv sa))))))]) [0, 1] rfl
  have hD := hD.sub (ws' := [(h, .inr (6, [.ref bA, .ref stA, .ref rd_, .ref fi, .ref nt, .ref ks, .int (iz tc), .int (iz sc)])), (stA, .inl (G.2 4, 30, .inr (.inr (.inr (.inr (rv sa))))))]) [0, 1] (by decide) rfl
  rcases hq_a : sa x with _ | x_a
  · skip
    exact absurd (hq_a.symm.trans (hsa x (by omega) (by omega)).choose_spec) (by simp)
  · skip
    refine zk_top (y := .ref x_a) rfl ?_
    refine vk_getf (v := .int (iz (mn x))) hX_ hB_ (hE.2 x (by omega) (by omega) x_a hq_a).1 hS hown (hts _ hw_X8_many_cc5595) (fun _ h9 => h9) dX8_many_5 ?_
    refine vx_ret ?_
    exact fin_i (wf := (fun _ : Unit => [(h, .inr (6, [.ref bA, .ref stA, .ref rd_, .ref fi, .ref nt, .ref ks, .int (iz tc), .int (iz sc)])), (stA, .inl (G.2 4, 30, .inr (.inr (.inr (.inr (rv sa))))))])) () F rfl hP hD hK hS (by decide) (by decide) dX8_many_8 (by exact ⟨rfl, by omega⟩)

theorem hw_X8_day_5845df : (.fieldLink RX8 141 "StoneDates$Stone" "days" "[I" : Cond) ∈ wsX8_day := by decide +kernel
set_option maxHeartbeats 4000000 in
set_option maxRecDepth 100000 in
theorem c_X8_day (l : Launch) (G : GG) (hl0 : l.stackTraces = false) (ga : Nat → Nat) (h : Nat) (bA : Nat) (stA : Nat) (rd_ : Nat) (fi : Nat) (nt : Nat) (ks : Nat) (tc : Int) (sc : Int) (sa : Int → Option Nat) (sd : Int → Nat) (Ls : Int → List Int) (mn : Int → Int) (x : Int) (k : Int) (hsc : 0 ≤ sc ∧ sc ≤ 30) (hsa : ∀ j : Int, 0 ≤ j → j < sc → ∃ y, sa j = some y) (hx0 : R31 x) (hk : R31 k) (hLn : (Ls x).length ≤ 300) : Xc l yX8_day wsX8_day ({ frames := 7, cells := 1, slots := 6, locals := 112 }) G (And2 (ThE ga) (StoE sa sd Ls mn)) [.ref h, .int (iz x), .int (iz k)] [(h, .inr (6, [.ref bA, .ref stA, .ref rd_, .ref fi, .ref nt, .ref ks, .int (iz tc), .int (iz sc)])), (stA, .inl (G.2 4, 30, .inr (.inr (.inr (.inr (rv sa))))))] 1 6 (Qki G (fun _ : Unit => [(h, .inr (6, [.ref bA, .ref stA, .ref rd_, .ref fi, .ref nt, .ref ks, .int (iz tc), .int (iz sc)])), (stA, .inl (G.2 4, 30, .inr (.inr (.inr (.inr (rv sa))))))]) (fun (r : Int32) (_ : Unit) => (r = (iz (if 0 ≤ k ∧ k < (Ls x).length then (Ls x).getD k.toNat 0 else -1))) ∧ (0 ≤ x ∧ x < sc))) (fun En : String => ¬ (0 ≤ x ∧ x < sc) ∧ En = "java/lang/IndexOutOfBoundsException") := by
  refine Xc_intro (cc := cX8_day) (maxL := 4) (ret := (some .int)) (by decide) rfl (Nat.le_of_ble_eq_true rfl) ?_
  intro p e s m below meth c A F htb hA hP hD hK hE ls hl
  have hX_ := F.1
  have hB_ := F.2.1
  have hts := F.2.2.2.2.2.1
  have hown := F.2.2.2.2.1
  have hml := F.2.2.2.1
  have hS : va_S A s.heap s.heap [] := va_S.rf
  have hl : lv_has ls 4 [(0, .ref h), (1, .int (iz x)), (2, .int (iz k))] := hl
  refine lv_aload_n hX_ hB_ dX8_day_0 rfl (lv_at hl 0 rfl) ?_
  refine lv_iload_n hX_ hB_ dX8_day_1 rfl (lv_at hl 1 rfl) ?_
  refine xback_q (wr := []) (xrun_V (As := [.int (iz x)]) (rest := []) (wc := [(h, .inr (6, [.ref bA, .ref stA, .ref rd_, .ref fi, .ref nt, .ref ks, .int (iz tc), .int (iz sc)])), (stA, .inl (G.2 4, 30, .inr (.inr (.inr (.inr (rv sa))))))]) F (c_X8_stoneAt l G hl0 ga h bA stA rd_ fi nt ks tc sc sa x hsc hsa (by omega)) (thE_ext ga) gX8_day_X8_stoneAt rfl rfl rfl mdv_X8_stoneAt ⟨Nat.le_of_ble_eq_true rfl, Nat.le_of_ble_eq_true rfl⟩ (va_recv hK.1 (hP.sub (ws' := [(h, .inr (6, [.ref bA, .ref stA, .ref rd_, .ref fi, .ref nt, .ref ks, .int (iz tc), .int (iz sc)])), (stA, .inl (G.2 4, 30, .inr (.inr (.inr (.inr (rv sa))))))]) [0, 1] rfl) (ci := 6) (q0 := 0) rfl rfl) (pre_of (thE_ext ga) hK hP hD hS hA hE.1 [0, 1] (by decide) rfl _) rfl hl.1 (Nat.le_of_ble_eq_true rfl) dX8_day_2 ⟨by decide, by decide⟩) hP hD hS hA [0, 1] [] rfl rfl (by decide) (by decide) (fun En ce q9 H locs hx hP hD hS g1 g2 g3 => ?_) (fun r__ u__ H locs hw hP hD hS => ?_)
  · skip
    have hP := hP.sub (ws' := [(h, .inr (6, [.ref bA, .ref stA, .ref rd_, .ref fi, .ref nt, .ref ks, .int (iz tc), .int (iz sc)])), (stA, .inl (G.2 4, 30, .inr (.inr (.inr (.inr (rv sa))))))]) [0, 1] rfl
    have hD := hD.sub (ws' := [(h, .inr (6, [.ref bA, .ref stA, .ref rd_, .ref fi, .ref nt, .ref ks, .int (iz tc), .int (iz sc)])), (stA, .inl (G.2 4, 30, .inr (.inr (.inr (.inr (rv sa))))))]) [0, 1] (by decide) rfl
    exact xout F htb hP hD hK hS (by exact hx) g1 g2 g3 (by decide) (by decide)
  obtain ⟨rfl, hw_2⟩ := hw
  have hP := hP.sub (ws' := [(h, .inr (6, [.ref bA, .ref stA, .ref rd_, .ref fi, .ref nt, .ref ks, .int (iz tc), .int (iz sc)])), (stA, .inl (G.2 4, 30, .inr (.inr (.inr (.inr (rv sa))))))]) [0, 1] rfl
  have hD := hD.sub (ws' := [(h, .inr (6, [.ref bA, .ref stA, .ref rd_, .ref fi, .ref nt, .ref ks, .int (iz tc), .int (iz sc)])), (stA, .inl (G.2 4, 30, .inr (.inr (.inr (.inr (rv sa))))))]) [0, 1] (by decide) rfl
  rcases hq_a : sa x with _ | x_a
  · skip
    exact absurd (hq_a.symm.trans (hsa x (by omega) (by omega)).choose_spec) (by simp)
  · skip
    refine zk_top (y := .ref x_a) rfl ?_
    refine vk_getf (v := .ref (sd x)) hX_ hB_ (hE.2 x (by omega) (by omega) x_a hq_a).2.1 hS hown (hts _ hw_X8_day_5845df) (fun _ h9 => h9) dX8_day_5 ?_
    refine lv_astore_n (lv' := [(3, .ref (sd x)), (0, .ref h), (1, .int (iz x)), (2, .int (iz k))]) hX_ hB_ dX8_day_8 rfl hl (by decide) rfl (fun ls hl => ?_)
    refine lv_iload_n hX_ hB_ dX8_day_9 rfl (lv_at hl 3 rfl) ?_
    refine zk_if_lt (tgt := 25) hX_ hB_ (by omega) dX8_day_10 (by decide) (fun c_10 => ?_) (fun c_10 => ?_)
    · skip
      refine zk_iconst hX_ hB_ dX8_day_25 ?_
      refine vx_ret ?_
      exact fin_i (wf := (fun _ : Unit => [(h, .inr (6, [.ref bA, .ref stA, .ref rd_, .ref fi, .ref nt, .ref ks, .int (iz tc), .int (iz sc)])), (stA, .inl (G.2 4, 30, .inr (.inr (.inr (.inr (rv sa))))))])) () F rfl hP hD hK hS (by decide) (by decide) dX8_day_26 (by exact ⟨by rw [if_neg (by omega)], by omega⟩)
    · skip
      refine lv_iload_n hX_ hB_ dX8_day_13 rfl (lv_at hl 3 rfl) ?_
      refine lv_aload_n hX_ hB_ dX8_day_14 rfl (lv_at hl 0 rfl) ?_
      refine va_tlen (v := iz ((Ls x).length : Int)) hX_ hB_ (hE.2 x (by omega) (by omega) x_a hq_a).2.2 hS rfl dX8_day_15 ?_
      refine zk_icmp_ge (tgt := 25) hX_ hB_ (by omega) (by omega) dX8_day_16 (by decide) (fun c_16 => ?_) (fun c_16 => ?_)
      · skip
        refine zk_iconst hX_ hB_ dX8_day_25 ?_
        refine vx_ret ?_
        exact fin_i (wf := (fun _ : Unit => [(h, .inr (6, [.ref bA, .ref stA, .ref rd_, .ref fi, .ref nt, .ref ks, .int (iz tc), .int (iz sc)])), (stA, .inl (G.2 4, 30, .inr (.inr (.inr (.inr (rv sa))))))])) () F rfl hP hD hK hS (by decide) (by decide) dX8_day_26 (by exact ⟨by rw [if_neg (by omega)], by omega⟩)
      · skip
        refine lv_aload_n hX_ hB_ dX8_day_19 rfl (lv_at hl 0 rfl) ?_
        refine lv_iload_n hX_ hB_ dX8_day_20 rfl (lv_at hl 3 rfl) ?_
        refine va_ti (v := .int (iz ((Ls x).getD (k).toNat 0))) hX_ hB_ (hE.2 x (by omega) (by omega) x_a hq_a).2.2 hS (iz_in (by omega) (by omega)) (by rw [iz_cl (by omega)]) dX8_day_21 ?_
        refine lv_goto (tgt := 26) hX_ hB_ dX8_day_22 (by decide) ?_
        refine vx_ret ?_
        exact fin_i (wf := (fun _ : Unit => [(h, .inr (6, [.ref bA, .ref stA, .ref rd_, .ref fi, .ref nt, .ref ks, .int (iz tc), .int (iz sc)])), (stA, .inl (G.2 4, 30, .inr (.inr (.inr (.inr (rv sa))))))])) () F rfl hP hD hK hS (by decide) (by decide) dX8_day_26 (by exact ⟨by rw [if_pos (by omega)], by omega⟩)
