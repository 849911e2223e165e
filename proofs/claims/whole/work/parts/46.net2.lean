
theorem um_self {M : Nat → Int → Int} {k : Nat} : um M k (M k) = M := by
  funext j
  unfold um
  split
  · next h => rw [h]
  · rfl
theorem um_um {M : Nat → Int → Int} {k : Nat} {r r2 : Int → Int} : um (um M k r) k r2 = um M k r2 := by
  funext j
  unfold um
  split <;> rfl
theorem hz_of {js : Int → Int} {Ls : Int → List Int} {v z : Int} (h : 0 ≤ z ∧ z < szX js Ls v) (h2 : szX js Ls v ≤ 300) : 0 ≤ z ∧ z < 300 ∧ (v < 30 → z < (Ls v).length ∧ (Ls v).length ≤ 300) := by
  refine ⟨h.1, by omega, fun hv => ?_⟩
  have e1 : szX js Ls v = (Ls v).length := if_neg (by omega)
  rw [e1] at h h2
  exact ⟨h.2, by omega⟩
theorem hw_X3_daysOf_d702f7 : (.fieldLink RX3 11 "StoneDates$Net" "members" "[LStoneDates$Stone;" : Cond) ∈ wsX3_daysOf := by decide +kernel
theorem hi_X3_daysOf_X3 : ∀ w ∈ u_ws RX3 TX3 13, w ∈ wsX3_daysOf := by decide +kernel
theorem hw_X3_daysOf_4c9d18 : (.fieldLink RX3 98 "StoneDates$Stone" "days" "[I" : Cond) ∈ wsX3_daysOf := by decide +kernel
theorem hw_X3_daysOf_d61cf4 : (.fieldLink RX3 35 "StoneDates$Net" "joined" "[[I" : Cond) ∈ wsX3_daysOf := by decide +kernel
set_option maxHeartbeats 4000000 in
set_option maxRecDepth 100000 in
theorem c_X3_daysOf (l : Launch) (G : GG) (nt : Nat) (mem : Nat) (fr : Nat) (to_ : Nat) (da : Nat) (gr : Nat) (of_ : Nat) (jo : Nat) (jsA : Nat) (ad : Nat → Nat) (mb : Int → Option Nat) (fF : Int → Int) (tT : Int → Int) (dD : Int → Int) (js : Int → Int) (M : Nat → Int → Int) (size : Int) (mcn : Int) (few : Int) (wrg : Int) (slv : Int) (sd : Int → Nat) (Ls : Int → List Int) (v : Int) (hv : GOk mb v) : Cq l yX3_daysOf wsX3_daysOf ({ frames := 0, cells := 0, slots := 0, locals := 0 }) G (NetE mb sd Ls) [.ref nt, .int (iz v)] (wpl [(nt, .inr (1, [.int (iz size), .int (iz mcn), .int (iz few), .int (iz wrg), .int (iz slv), .ref mem, .ref fr, .ref to_, .ref da, .ref gr, .ref of_, .ref jo, .ref jsA])), (mem, .inl (G.2 4, 30, .inr (.inr (.inr (.inr (rv mb)))))), (fr, .inl (G.2 0, 12, .inl (av fF))), (to_, .inl (G.2 0, 12, .inl (av tT))), (da, .inl (G.2 0, 12, .inl (av dD))), (gr, .inl (G.2 5, 13, .inr (.inr (.inr (.inr (rv (fun k_ => some (ad (k_ + 0).toNat)))))))), (of_, .inl (G.2 5, 13, .inr (.inr (.inr (.inr (rv (fun k_ => some (ad (k_ + 13).toNat)))))))), (jo, .inl (G.2 5, 12, .inr (.inr (.inr (.inr (rv (fun k_ => some (ad (k_ + 26).toNat)))))))), (jsA, .inl (G.2 0, 12, .inl (av js)))] (rows 38 ad (ctM G M))) 0 0 (fun _ : Unit => (wpl [(nt, .inr (1, [.int (iz size), .int (iz mcn), .int (iz few), .int (iz wrg), .int (iz slv), .ref mem, .ref fr, .ref to_, .ref da, .ref gr, .ref of_, .ref jo, .ref jsA])), (mem, .inl (G.2 4, 30, .inr (.inr (.inr (.inr (rv mb)))))), (fr, .inl (G.2 0, 12, .inl (av fF))), (to_, .inl (G.2 0, 12, .inl (av tT))), (da, .inl (G.2 0, 12, .inl (av dD))), (gr, .inl (G.2 5, 13, .inr (.inr (.inr (.inr (rv (fun k_ => some (ad (k_ + 0).toNat)))))))), (of_, .inl (G.2 5, 13, .inr (.inr (.inr (.inr (rv (fun k_ => some (ad (k_ + 13).toNat)))))))), (jo, .inl (G.2 5, 12, .inr (.inr (.inr (.inr (rv (fun k_ => some (ad (k_ + 26).toNat)))))))), (jsA, .inl (G.2 0, 12, .inl (av js)))] (rows 38 ad (ctM G M)))) (fun (r : Option Nat) (_ : Unit) => r = some (daX ad sd v)) := by
  refine Cq_intro (cc := cX3_daysOf) (maxL := 3) (ret := (some (.array .int))) (by decide) rfl (Nat.le_of_ble_eq_true rfl) ?_
  intro p e s m below meth c A F hA hP hD hK hE ls hl
  have hX_ := F.1
  have hB_ := F.2.1
  have hts := F.2.2.2.2.2.1
  have hown := F.2.2.2.2.1
  have hml := F.2.2.2.1
  have hS : va_S A s.heap s.heap [] := va_S.rf
  have hl : lv_has ls 3 [(0, .ref nt), (1, .int (iz v))] := hl
  have hv0 := hv.1
  have hv1 := hv.2.1
  refine lv_iload_n hX_ hB_ dX3_daysOf_0 rfl (lv_at hl 1 rfl) ?_
  refine zk_bipush hX_ hB_ (by decide) dX3_daysOf_1 ?_
  refine zk_icmp_lt (tgt := 16) hX_ hB_ (by omega) (by omega) dX3_daysOf_3 (by decide) (fun c_3 => ?_) (fun c_3 => ?_)
  · skip
    refine lv_aload_n hX_ hB_ dX3_daysOf_16 rfl (lv_at hl 0 rfl) ?_
    refine va_get (D := G.1) (ci := 1) (v := .ref mem) (C := RX3) (T := TX3) (N := 13) hX_ hB_ hts hi_X3_daysOf_X3 hown hK.1 hP 0 rfl rfl 5 (by decide) (hts _ hw_X3_daysOf_d702f7) (fun _ h9 => h9) rfl dX3_daysOf_17 ?_
    refine lv_iload_n hX_ hB_ dX3_daysOf_20 rfl (lv_at hl 1 rfl) ?_
    refine zk_qald hX_ hB_ hK.1 hP 1 4 rfl rfl (by omega) (by decide) dX3_daysOf_21 ?_
    rcases hq_a : mb v with _ | x_a
    · skip
      refine zk_top (y := .null) rfl ?_
      refine lv_astore_nN (lv' := [(2, .null), (0, .ref nt), (1, .int (iz v))]) hX_ hB_ dX3_daysOf_22 rfl hl (by decide) rfl (fun ls hl => ?_)
      refine lv_aload_nN hX_ hB_ dX3_daysOf_23 rfl (lv_at hl 0 rfl) ?_
      refine lv_ifnonnullN hX_ hB_ dX3_daysOf_24 ?_
      exact absurd (hq_a.symm.trans (hv.2.2 (by omega)).choose_spec) (by simp)
    · skip
      refine zk_top (y := .ref x_a) rfl ?_
      refine lv_astore_n (lv' := [(2, .ref x_a), (0, .ref nt), (1, .int (iz v))]) hX_ hB_ dX3_daysOf_22 rfl hl (by decide) rfl (fun ls hl => ?_)
      refine lv_aload_n hX_ hB_ dX3_daysOf_23 rfl (lv_at hl 0 rfl) ?_
      refine lv_ifnonnull (tgt := 36) hX_ hB_ dX3_daysOf_24 (by decide) ?_
      refine lv_aload_n hX_ hB_ dX3_daysOf_36 rfl (lv_at hl 0 rfl) ?_
      refine vk_getf (v := .ref (sd v)) hX_ hB_ (hE v hv.1 (by omega) x_a hq_a).1 hS hown (hts _ hw_X3_daysOf_4c9d18) (fun _ h9 => h9) dX3_daysOf_37 ?_
      refine zk_top (y := va_rf (some (sd v))) rfl ?_
      exact fin_q (wf := (fun _ : Unit => (wpl [(nt, .inr (1, [.int (iz size), .int (iz mcn), .int (iz few), .int (iz wrg), .int (iz slv), .ref mem, .ref fr, .ref to_, .ref da, .ref gr, .ref of_, .ref jo, .ref jsA])), (mem, .inl (G.2 4, 30, .inr (.inr (.inr (.inr (rv mb)))))), (fr, .inl (G.2 0, 12, .inl (av fF))), (to_, .inl (G.2 0, 12, .inl (av tT))), (da, .inl (G.2 0, 12, .inl (av dD))), (gr, .inl (G.2 5, 13, .inr (.inr (.inr (.inr (rv (fun k_ => some (ad (k_ + 0).toNat)))))))), (of_, .inl (G.2 5, 13, .inr (.inr (.inr (.inr (rv (fun k_ => some (ad (k_ + 13).toNat)))))))), (jo, .inl (G.2 5, 12, .inr (.inr (.inr (.inr (rv (fun k_ => some (ad (k_ + 26).toNat)))))))), (jsA, .inl (G.2 0, 12, .inl (av js)))] (rows 38 ad (ctM G M))))) () F (Or.inr ⟨_, rfl⟩) hP hD hK hS (by decide) (by decide) dX3_daysOf_40 (by unfold daX; rw [if_neg (by omega)])
  · skip
    refine lv_aload_n hX_ hB_ dX3_daysOf_6 rfl (lv_at hl 0 rfl) ?_
    refine va_get (D := G.1) (ci := 1) (v := .ref jo) (C := RX3) (T := TX3) (N := 13) hX_ hB_ hts hi_X3_daysOf_X3 hown hK.1 hP 0 rfl rfl 11 (by decide) (hts _ hw_X3_daysOf_d61cf4) (fun _ h9 => h9) rfl dX3_daysOf_7 ?_
    refine lv_iload_n hX_ hB_ dX3_daysOf_10 rfl (lv_at hl 1 rfl) ?_
    refine zk_bipush hX_ hB_ (by decide) dX3_daysOf_11 ?_
    refine zk_isub hX_ hB_ dX3_daysOf_13 ?_
    refine zk_rald hX_ hB_ hK.1 hP 7 rfl (by omega) (by decide) rfl dX3_daysOf_14 ?_
    refine zk_top (y := va_rf (some (ad (v - 30 + 26).toNat))) rfl ?_
    exact fin_q (wf := (fun _ : Unit => (wpl [(nt, .inr (1, [.int (iz size), .int (iz mcn), .int (iz few), .int (iz wrg), .int (iz slv), .ref mem, .ref fr, .ref to_, .ref da, .ref gr, .ref of_, .ref jo, .ref jsA])), (mem, .inl (G.2 4, 30, .inr (.inr (.inr (.inr (rv mb)))))), (fr, .inl (G.2 0, 12, .inl (av fF))), (to_, .inl (G.2 0, 12, .inl (av tT))), (da, .inl (G.2 0, 12, .inl (av dD))), (gr, .inl (G.2 5, 13, .inr (.inr (.inr (.inr (rv (fun k_ => some (ad (k_ + 0).toNat)))))))), (of_, .inl (G.2 5, 13, .inr (.inr (.inr (.inr (rv (fun k_ => some (ad (k_ + 13).toNat)))))))), (jo, .inl (G.2 5, 12, .inr (.inr (.inr (.inr (rv (fun k_ => some (ad (k_ + 26).toNat)))))))), (jsA, .inl (G.2 0, 12, .inl (av js)))] (rows 38 ad (ctM G M))))) () F (Or.inr ⟨_, rfl⟩) hP hD hK hS (by decide) (by decide) dX3_daysOf_15 (by unfold daX; rw [if_pos (by omega)])

theorem hw_X3_sizeOf_d702f7 : (.fieldLink RX3 11 "StoneDates$Net" "members" "[LStoneDates$Stone;" : Cond) ∈ wsX3_sizeOf := by decide +kernel
theorem hi_X3_sizeOf_X3 : ∀ w ∈ u_ws RX3 TX3 13, w ∈ wsX3_sizeOf := by decide +kernel
theorem hw_X3_sizeOf_4c9d18 : (.fieldLink RX3 98 "StoneDates$Stone" "days" "[I" : Cond) ∈ wsX3_sizeOf := by decide +kernel
theorem hw_X3_sizeOf_df0987 : (.fieldLink RX3 38 "StoneDates$Net" "joinedSize" "[I" : Cond) ∈ wsX3_sizeOf := by decide +kernel
set_option maxHeartbeats 4000000 in
set_option maxRecDepth 100000 in
theorem c_X3_sizeOf (l : Launch) (G : GG) (nt : Nat) (mem : Nat) (fr : Nat) (to_ : Nat) (da : Nat) (gr : Nat) (of_ : Nat) (jo : Nat) (jsA : Nat) (ad : Nat → Nat) (mb : Int → Option Nat) (fF : Int → Int) (tT : Int → Int) (dD : Int → Int) (js : Int → Int) (M : Nat → Int → Int) (size : Int) (mcn : Int) (few : Int) (wrg : Int) (slv : Int) (sd : Int → Nat) (Ls : Int → List Int) (v : Int) (hv : GOk mb v) : Ci l yX3_sizeOf wsX3_sizeOf ({ frames := 0, cells := 0, slots := 0, locals := 0 }) G (NetE mb sd Ls) [.ref nt, .int (iz v)] (wpl [(nt, .inr (1, [.int (iz size), .int (iz mcn), .int (iz few), .int (iz wrg), .int (iz slv), .ref mem, .ref fr, .ref to_, .ref da, .ref gr, .ref of_, .ref jo, .ref jsA])), (mem, .inl (G.2 4, 30, .inr (.inr (.inr (.inr (rv mb)))))), (fr, .inl (G.2 0, 12, .inl (av fF))), (to_, .inl (G.2 0, 12, .inl (av tT))), (da, .inl (G.2 0, 12, .inl (av dD))), (gr, .inl (G.2 5, 13, .inr (.inr (.inr (.inr (rv (fun k_ => some (ad (k_ + 0).toNat)))))))), (of_, .inl (G.2 5, 13, .inr (.inr (.inr (.inr (rv (fun k_ => some (ad (k_ + 13).toNat)))))))), (jo, .inl (G.2 5, 12, .inr (.inr (.inr (.inr (rv (fun k_ => some (ad (k_ + 26).toNat)))))))), (jsA, .inl (G.2 0, 12, .inl (av js)))] (rows 38 ad (ctM G M))) 0 0 (fun _ : Unit => (wpl [(nt, .inr (1, [.int (iz size), .int (iz mcn), .int (iz few), .int (iz wrg), .int (iz slv), .ref mem, .ref fr, .ref to_, .ref da, .ref gr, .ref of_, .ref jo, .ref jsA])), (mem, .inl (G.2 4, 30, .inr (.inr (.inr (.inr (rv mb)))))), (fr, .inl (G.2 0, 12, .inl (av fF))), (to_, .inl (G.2 0, 12, .inl (av tT))), (da, .inl (G.2 0, 12, .inl (av dD))), (gr, .inl (G.2 5, 13, .inr (.inr (.inr (.inr (rv (fun k_ => some (ad (k_ + 0).toNat)))))))), (of_, .inl (G.2 5, 13, .inr (.inr (.inr (.inr (rv (fun k_ => some (ad (k_ + 13).toNat)))))))), (jo, .inl (G.2 5, 12, .inr (.inr (.inr (.inr (rv (fun k_ => some (ad (k_ + 26).toNat)))))))), (jsA, .inl (G.2 0, 12, .inl (av js)))] (rows 38 ad (ctM G M)))) (fun (r : Int32) (_ : Unit) => r = (iz (szX js Ls v))) := by
  refine Ci_intro (cc := cX3_sizeOf) (maxL := 3) (ret := (some .int)) (by decide) rfl (Nat.le_of_ble_eq_true rfl) ?_
  intro p e s m below meth c A F hA hP hD hK hE ls hl
  have hX_ := F.1
  have hB_ := F.2.1
  have hts := F.2.2.2.2.2.1
  have hown := F.2.2.2.2.1
  have hml := F.2.2.2.1
  have hS : va_S A s.heap s.heap [] := va_S.rf
  have hl : lv_has ls 3 [(0, .ref nt), (1, .int (iz v))] := hl
  have hv0 := hv.1
  have hv1 := hv.2.1
  refine lv_iload_n hX_ hB_ dX3_sizeOf_0 rfl (lv_at hl 1 rfl) ?_
  refine zk_bipush hX_ hB_ (by decide) dX3_sizeOf_1 ?_
  refine zk_icmp_lt (tgt := 16) hX_ hB_ (by omega) (by omega) dX3_sizeOf_3 (by decide) (fun c_3 => ?_) (fun c_3 => ?_)
  · skip
    refine lv_aload_n hX_ hB_ dX3_sizeOf_16 rfl (lv_at hl 0 rfl) ?_
    refine va_get (D := G.1) (ci := 1) (v := .ref mem) (C := RX3) (T := TX3) (N := 13) hX_ hB_ hts hi_X3_sizeOf_X3 hown hK.1 hP 0 rfl rfl 5 (by decide) (hts _ hw_X3_sizeOf_d702f7) (fun _ h9 => h9) rfl dX3_sizeOf_17 ?_
    refine lv_iload_n hX_ hB_ dX3_sizeOf_20 rfl (lv_at hl 1 rfl) ?_
    refine zk_qald hX_ hB_ hK.1 hP 1 4 rfl rfl (by omega) (by decide) dX3_sizeOf_21 ?_
    rcases hq_a : mb v with _ | x_a
    · skip
      refine zk_top (y := .null) rfl ?_
      refine lv_astore_nN (lv' := [(2, .null), (0, .ref nt), (1, .int (iz v))]) hX_ hB_ dX3_sizeOf_22 rfl hl (by decide) rfl (fun ls hl => ?_)
      refine lv_aload_nN hX_ hB_ dX3_sizeOf_23 rfl (lv_at hl 0 rfl) ?_
      refine lv_ifnonnullN hX_ hB_ dX3_sizeOf_24 ?_
      exact absurd (hq_a.symm.trans (hv.2.2 (by omega)).choose_spec) (by simp)
    · skip
      refine zk_top (y := .ref x_a) rfl ?_
      refine lv_astore_n (lv' := [(2, .ref x_a), (0, .ref nt), (1, .int (iz v))]) hX_ hB_ dX3_sizeOf_22 rfl hl (by decide) rfl (fun ls hl => ?_)
      refine lv_aload_n hX_ hB_ dX3_sizeOf_23 rfl (lv_at hl 0 rfl) ?_
      refine lv_ifnonnull (tgt := 31) hX_ hB_ dX3_sizeOf_24 (by decide) ?_
      refine lv_aload_n hX_ hB_ dX3_sizeOf_31 rfl (lv_at hl 0 rfl) ?_
      refine vk_getf (v := .ref (sd v)) hX_ hB_ (hE v hv.1 (by omega) x_a hq_a).1 hS hown (hts _ hw_X3_sizeOf_4c9d18) (fun _ h9 => h9) dX3_sizeOf_32 ?_
      refine va_tlen (v := iz ((Ls v).length : Int)) hX_ hB_ (hE v hv.1 (by omega) x_a hq_a).2 hS rfl dX3_sizeOf_35 ?_
      exact fin_i (wf := (fun _ : Unit => (wpl [(nt, .inr (1, [.int (iz size), .int (iz mcn), .int (iz few), .int (iz wrg), .int (iz slv), .ref mem, .ref fr, .ref to_, .ref da, .ref gr, .ref of_, .ref jo, .ref jsA])), (mem, .inl (G.2 4, 30, .inr (.inr (.inr (.inr (rv mb)))))), (fr, .inl (G.2 0, 12, .inl (av fF))), (to_, .inl (G.2 0, 12, .inl (av tT))), (da, .inl (G.2 0, 12, .inl (av dD))), (gr, .inl (G.2 5, 13, .inr (.inr (.inr (.inr (rv (fun k_ => some (ad (k_ + 0).toNat)))))))), (of_, .inl (G.2 5, 13, .inr (.inr (.inr (.inr (rv (fun k_ => some (ad (k_ + 13).toNat)))))))), (jo, .inl (G.2 5, 12, .inr (.inr (.inr (.inr (rv (fun k_ => some (ad (k_ + 26).toNat)))))))), (jsA, .inl (G.2 0, 12, .inl (av js)))] (rows 38 ad (ctM G M))))) () F rfl hP hD hK hS (by decide) (by decide) dX3_sizeOf_36 (by unfold szX; rw [if_neg (by omega)])
  · skip
    refine lv_aload_n hX_ hB_ dX3_sizeOf_6 rfl (lv_at hl 0 rfl) ?_
    refine va_get (D := G.1) (ci := 1) (v := .ref jsA) (C := RX3) (T := TX3) (N := 13) hX_ hB_ hts hi_X3_sizeOf_X3 hown hK.1 hP 0 rfl rfl 12 (by decide) (hts _ hw_X3_sizeOf_df0987) (fun _ h9 => h9) rfl dX3_sizeOf_7 ?_
    refine lv_iload_n hX_ hB_ dX3_sizeOf_10 rfl (lv_at hl 1 rfl) ?_
    refine zk_bipush hX_ hB_ (by decide) dX3_sizeOf_11 ?_
    refine zk_isub hX_ hB_ dX3_sizeOf_13 ?_
    refine zk_iald hX_ hB_ hK.1 hP 8 0 rfl rfl (by omega) (by decide) dX3_sizeOf_14 ?_
    exact fin_i (wf := (fun _ : Unit => (wpl [(nt, .inr (1, [.int (iz size), .int (iz mcn), .int (iz few), .int (iz wrg), .int (iz slv), .ref mem, .ref fr, .ref to_, .ref da, .ref gr, .ref of_, .ref jo, .ref jsA])), (mem, .inl (G.2 4, 30, .inr (.inr (.inr (.inr (rv mb)))))), (fr, .inl (G.2 0, 12, .inl (av fF))), (to_, .inl (G.2 0, 12, .inl (av tT))), (da, .inl (G.2 0, 12, .inl (av dD))), (gr, .inl (G.2 5, 13, .inr (.inr (.inr (.inr (rv (fun k_ => some (ad (k_ + 0).toNat)))))))), (of_, .inl (G.2 5, 13, .inr (.inr (.inr (.inr (rv (fun k_ => some (ad (k_ + 13).toNat)))))))), (jo, .inl (G.2 5, 12, .inr (.inr (.inr (.inr (rv (fun k_ => some (ad (k_ + 26).toNat)))))))), (jsA, .inl (G.2 0, 12, .inl (av js)))] (rows 38 ad (ctM G M))))) () F rfl hP hD hK hS (by decide) (by decide) dX3_sizeOf_15 (by unfold szX; rw [if_pos (by omega)])

theorem mdv_X3_daysOf : yX3_daysOf.cls = RX3 ∧ yX3_daysOf.cls ≠ "java/lang/invoke/MethodHandle" ∧ yX3_daysOf.cls ≠ "java/lang/invoke/VarHandle" ∧ (parseMethodDescriptor yX3_daysOf.desc).map (fun d => d.parameters.length) = some 1 := by decide +kernel
theorem mdv_X3_sizeOf : yX3_sizeOf.cls = RX3 ∧ yX3_sizeOf.cls ≠ "java/lang/invoke/MethodHandle" ∧ yX3_sizeOf.cls ≠ "java/lang/invoke/VarHandle" ∧ (parseMethodDescriptor yX3_sizeOf.desc).map (fun d => d.parameters.length) = some 1 := by decide +kernel
theorem hw_X3_meet_df0987 : (.fieldLink RX3 38 "StoneDates$Net" "joinedSize" "[I" : Cond) ∈ wsX3_meet := by decide +kernel
theorem hi_X3_meet_X3 : ∀ w ∈ u_ws RX3 TX3 13, w ∈ wsX3_meet := by decide +kernel
theorem hw_X3_meet_d61cf4 : (.fieldLink RX3 35 "StoneDates$Net" "joined" "[[I" : Cond) ∈ wsX3_meet := by decide +kernel
set_option maxHeartbeats 4000000 in
set_option maxRecDepth 100000 in
theorem c_X3_meet (l : Launch) (G : GG) (nt : Nat) (mem : Nat) (fr : Nat) (to_ : Nat) (da : Nat) (gr : Nat) (of_ : Nat) (jo : Nat) (jsA : Nat) (ad : Nat → Nat) (mb : Int → Option Nat) (fF : Int → Int) (tT : Int → Int) (dD : Int → Int) (js : Int → Int) (M : Nat → Int → Int) (size : Int) (mcn : Int) (few : Int) (wrg : Int) (slv : Int) (sd : Int → Nat) (Ls : Int → List Int) (i : Int) (fs : Int) (sc : Int) (ap : Int) (hi : 0 ≤ i ∧ i < 12) (hf : GOk mb fs) (hs : GOk mb sc) (hfi : fs < 30 + i ∧ sc < 30 + i) (hna : 0 ≤ szX js Ls fs ∧ szX js Ls fs ≤ 300) (hnb : 0 ≤ szX js Ls sc ∧ szX js Ls sc ≤ 300) (hma : Mono (dlX M Ls fs) (szX js Ls fs)) (hmb : Mono (dlX M Ls sc) (szX js Ls sc)) (hba : ∀ j : Int, 0 ≤ j → j < szX js Ls fs → -9000000 < dlX M Ls fs j ∧ dlX M Ls fs j < 9000000) (hbb : ∀ j : Int, 0 ≤ j → j < szX js Ls sc → -9000000 < dlX M Ls sc j ∧ dlX M Ls sc j < 9000000) (hap : -90000000 < ap ∧ ap < 90000000) : Ci l yX3_meet wsX3_meet ({ frames := 1, cells := 0, slots := 0, locals := 22 }) G (NetE mb sd Ls) [.ref nt, .int (iz i), .int (iz fs), .int (iz sc), .int (iz ap)] (wpl [(nt, .inr (1, [.int (iz size), .int (iz mcn), .int (iz few), .int (iz wrg), .int (iz slv), .ref mem, .ref fr, .ref to_, .ref da, .ref gr, .ref of_, .ref jo, .ref jsA])), (mem, .inl (G.2 4, 30, .inr (.inr (.inr (.inr (rv mb)))))), (fr, .inl (G.2 0, 12, .inl (av fF))), (to_, .inl (G.2 0, 12, .inl (av tT))), (da, .inl (G.2 0, 12, .inl (av dD))), (gr, .inl (G.2 5, 13, .inr (.inr (.inr (.inr (rv (fun k_ => some (ad (k_ + 0).toNat)))))))), (of_, .inl (G.2 5, 13, .inr (.inr (.inr (.inr (rv (fun k_ => some (ad (k_ + 13).toNat)))))))), (jo, .inl (G.2 5, 12, .inr (.inr (.inr (.inr (rv (fun k_ => some (ad (k_ + 26).toNat)))))))), (jsA, .inl (G.2 0, 12, .inl (av js)))] (rows 38 ad (ctM G M))) 0 0 (fun u : (Int → Int) × Int => match u with | (rr, n) => (wpl [(nt, .inr (1, [.int (iz size), .int (iz mcn), .int (iz few), .int (iz wrg), .int (iz slv), .ref mem, .ref fr, .ref to_, .ref da, .ref gr, .ref of_, .ref jo, .ref jsA])), (mem, .inl (G.2 4, 30, .inr (.inr (.inr (.inr (rv mb)))))), (fr, .inl (G.2 0, 12, .inl (av fF))), (to_, .inl (G.2 0, 12, .inl (av tT))), (da, .inl (G.2 0, 12, .inl (av dD))), (gr, .inl (G.2 5, 13, .inr (.inr (.inr (.inr (rv (fun k_ => some (ad (k_ + 0).toNat)))))))), (of_, .inl (G.2 5, 13, .inr (.inr (.inr (.inr (rv (fun k_ => some (ad (k_ + 13).toNat)))))))), (jo, .inl (G.2 5, 12, .inr (.inr (.inr (.inr (rv (fun k_ => some (ad (k_ + 26).toNat)))))))), (jsA, .inl (G.2 0, 12, .inl (av (us js i n))))] (rows 38 ad (ctM G (um M (i + 26).toNat rr))))) (fun (r : Int32) (u : (Int → Int) × Int) => match u with | (rr, n) => (r = (zb (decide (0 < n)))) ∧ ((0 ≤ n ∧ n ≤ 300) ∧ Mono rr n ∧ ∀ v, Inl rr n v ↔ (Inl (dlX M Ls fs) (szX js Ls fs) v ∧ Inl (dlX M Ls sc) (szX js Ls sc) (v + ap)))) := by
  refine Ci_intro (cc := cX3_meet) (maxL := 13) (ret := (some .boolean)) (by decide) rfl (Nat.le_of_ble_eq_true rfl) ?_
  intro p e s m below meth c A F hA hP hD hK hE ls hl
  have hX_ := F.1
  have hB_ := F.2.1
  have hts := F.2.2.2.2.2.1
  have hown := F.2.2.2.2.1
  have hml := F.2.2.2.1
  have hS : va_S A s.heap s.heap [] := va_S.rf
  have hl : lv_has ls 13 [(0, .ref nt), (1, .int (iz i)), (2, .int (iz fs)), (3, .int (iz sc)), (4, .int (iz ap))] := hl
  refine lv_aload_n hX_ hB_ dX3_meet_0 rfl (lv_at hl 0 rfl) ?_
  refine lv_iload_n hX_ hB_ dX3_meet_1 rfl (lv_at hl 2 rfl) ?_
  refine backA_q (run_V (As := [.int (iz fs)]) (rest := []) (wc := (wpl [(nt, .inr (1, [.int (iz size), .int (iz mcn), .int (iz few), .int (iz wrg), .int (iz slv), .ref mem, .ref fr, .ref to_, .ref da, .ref gr, .ref of_, .ref jo, .ref jsA])), (mem, .inl (G.2 4, 30, .inr (.inr (.inr (.inr (rv mb)))))), (fr, .inl (G.2 0, 12, .inl (av fF))), (to_, .inl (G.2 0, 12, .inl (av tT))), (da, .inl (G.2 0, 12, .inl (av dD))), (gr, .inl (G.2 5, 13, .inr (.inr (.inr (.inr (rv (fun k_ => some (ad (k_ + 0).toNat)))))))), (of_, .inl (G.2 5, 13, .inr (.inr (.inr (.inr (rv (fun k_ => some (ad (k_ + 13).toNat)))))))), (jo, .inl (G.2 5, 12, .inr (.inr (.inr (.inr (rv (fun k_ => some (ad (k_ + 26).toNat)))))))), (jsA, .inl (G.2 0, 12, .inl (av js)))] (rows 38 ad (ctM G M)))) F (c_X3_daysOf l G nt mem fr to_ da gr of_ jo jsA ad mb fF tT dD js M size mcn few wrg slv sd Ls fs hf _) (netE_ext mb sd Ls) gX3_meet_X3_daysOf rfl rfl rfl mdv_X3_daysOf ⟨Nat.le_of_ble_eq_true rfl, Nat.le_of_ble_eq_true rfl⟩ (va_recv hK.1 hP (ci := 1) (q0 := 0) rfl rfl) (preA (netE_ext mb sd Ls) hK hP hD hS hA hE _) rfl hl.1 (Nat.le_of_ble_eq_true rfl) dX3_meet_2 ⟨by decide, by decide⟩) hD hS hA (fun r__ u__ H locs hw hP hD hS => ?_)
  subst hw
  have hP : va_P G.1 vwCl (wpl [(nt, .inr (1, [.int (iz size), .int (iz mcn), .int (iz few), .int (iz wrg), .int (iz slv), .ref mem, .ref fr, .ref to_, .ref da, .ref gr, .ref of_, .ref jo, .ref jsA])), (mem, .inl (G.2 4, 30, .inr (.inr (.inr (.inr (rv mb)))))), (fr, .inl (G.2 0, 12, .inl (av fF))), (to_, .inl (G.2 0, 12, .inl (av tT))), (da, .inl (G.2 0, 12, .inl (av dD))), (gr, .inl (G.2 5, 13, .inr (.inr (.inr (.inr (rv (fun k_ => some (ad (k_ + 0).toNat)))))))), (of_, .inl (G.2 5, 13, .inr (.inr (.inr (.inr (rv (fun k_ => some (ad (k_ + 13).toNat)))))))), (jo, .inl (G.2 5, 12, .inr (.inr (.inr (.inr (rv (fun k_ => some (ad (k_ + 26).toNat)))))))), (jsA, .inl (G.2 0, 12, .inl (av js)))] (rows 38 ad (ctM G M))) _ := hP
  have hD : va_D A (wpl [(nt, .inr (1, [.int (iz size), .int (iz mcn), .int (iz few), .int (iz wrg), .int (iz slv), .ref mem, .ref fr, .ref to_, .ref da, .ref gr, .ref of_, .ref jo, .ref jsA])), (mem, .inl (G.2 4, 30, .inr (.inr (.inr (.inr (rv mb)))))), (fr, .inl (G.2 0, 12, .inl (av fF))), (to_, .inl (G.2 0, 12, .inl (av tT))), (da, .inl (G.2 0, 12, .inl (av dD))), (gr, .inl (G.2 5, 13, .inr (.inr (.inr (.inr (rv (fun k_ => some (ad (k_ + 0).toNat)))))))), (of_, .inl (G.2 5, 13, .inr (.inr (.inr (.inr (rv (fun k_ => some (ad (k_ + 13).toNat)))))))), (jo, .inl (G.2 5, 12, .inr (.inr (.inr (.inr (rv (fun k_ => some (ad (k_ + 26).toNat)))))))), (jsA, .inl (G.2 0, 12, .inl (av js)))] (rows 38 ad (ctM G M))) := hD
  refine zk_top (y := .ref (daX ad sd fs)) rfl ?_
  refine lv_astore (lv' := [(5, .ref (daX ad sd fs)), (0, .ref nt), (1, .int (iz i)), (2, .int (iz fs)), (3, .int (iz sc)), (4, .int (iz ap))]) hX_ hB_ dX3_meet_5 hl (by decide) rfl (fun ls hl => ?_)
  refine lv_aload_n hX_ hB_ dX3_meet_7 rfl (lv_at hl 1 rfl) ?_
  refine lv_iload_n hX_ hB_ dX3_meet_8 rfl (lv_at hl 4 rfl) ?_
  refine backA_q (run_V (As := [.int (iz sc)]) (rest := []) (wc := (wpl [(nt, .inr (1, [.int (iz size), .int (iz mcn), .int (iz few), .int (iz wrg), .int (iz slv), .ref mem, .ref fr, .ref to_, .ref da, .ref gr, .ref of_, .ref jo, .ref jsA])), (mem, .inl (G.2 4, 30, .inr (.inr (.inr (.inr (rv mb)))))), (fr, .inl (G.2 0, 12, .inl (av fF))), (to_, .inl (G.2 0, 12, .inl (av tT))), (da, .inl (G.2 0, 12, .inl (av dD))), (gr, .inl (G.2 5, 13, .inr (.inr (.inr (.inr (rv (fun k_ => some (ad (k_ + 0).toNat)))))))), (of_, .inl (G.2 5, 13, .inr (.inr (.inr (.inr (rv (fun k_ => some (ad (k_ + 13).toNat)))))))), (jo, .inl (G.2 5, 12, .inr (.inr (.inr (.inr (rv (fun k_ => some (ad (k_ + 26).toNat)))))))), (jsA, .inl (G.2 0, 12, .inl (av js)))] (rows 38 ad (ctM G M)))) F (c_X3_daysOf l G nt mem fr to_ da gr of_ jo jsA ad mb fF tT dD js M size mcn few wrg slv sd Ls sc hs _) (netE_ext mb sd Ls) gX3_meet_X3_daysOf rfl rfl rfl mdv_X3_daysOf ⟨Nat.le_of_ble_eq_true rfl, Nat.le_of_ble_eq_true rfl⟩ (va_recv hK.1 hP (ci := 1) (q0 := 0) rfl rfl) (preA (netE_ext mb sd Ls) hK hP hD hS hA hE _) rfl hl.1 (Nat.le_of_ble_eq_true rfl) dX3_meet_9 ⟨by decide, by decide⟩) hD hS hA (fun r__ u__ H locs hw hP hD hS => ?_)
  subst hw
  have hP : va_P G.1 vwCl (wpl [(nt, .inr (1, [.int (iz size), .int (iz mcn), .int (iz few), .int (iz wrg), .int (iz slv), .ref mem, .ref fr, .ref to_, .ref da, .ref gr, .ref of_, .ref jo, .ref jsA])), (mem, .inl (G.2 4, 30, .inr (.inr (.inr (.inr (rv mb)))))), (fr, .inl (G.2 0, 12, .inl (av fF))), (to_, .inl (G.2 0, 12, .inl (av tT))), (da, .inl (G.2 0, 12, .inl (av dD))), (gr, .inl (G.2 5, 13, .inr (.inr (.inr (.inr (rv (fun k_ => some (ad (k_ + 0).toNat)))))))), (of_, .inl (G.2 5, 13, .inr (.inr (.inr (.inr (rv (fun k_ => some (ad (k_ + 13).toNat)))))))), (jo, .inl (G.2 5, 12, .inr (.inr (.inr (.inr (rv (fun k_ => some (ad (k_ + 26).toNat)))))))), (jsA, .inl (G.2 0, 12, .inl (av js)))] (rows 38 ad (ctM G M))) _ := hP
  have hD : va_D A (wpl [(nt, .inr (1, [.int (iz size), .int (iz mcn), .int (iz few), .int (iz wrg), .int (iz slv), .ref mem, .ref fr, .ref to_, .ref da, .ref gr, .ref of_, .ref jo, .ref jsA])), (mem, .inl (G.2 4, 30, .inr (.inr (.inr (.inr (rv mb)))))), (fr, .inl (G.2 0, 12, .inl (av fF))), (to_, .inl (G.2 0, 12, .inl (av tT))), (da, .inl (G.2 0, 12, .inl (av dD))), (gr, .inl (G.2 5, 13, .inr (.inr (.inr (.inr (rv (fun k_ => some (ad (k_ + 0).toNat)))))))), (of_, .inl (G.2 5, 13, .inr (.inr (.inr (.inr (rv (fun k_ => some (ad (k_ + 13).toNat)))))))), (jo, .inl (G.2 5, 12, .inr (.inr (.inr (.inr (rv (fun k_ => some (ad (k_ + 26).toNat)))))))), (jsA, .inl (G.2 0, 12, .inl (av js)))] (rows 38 ad (ctM G M))) := hD
  refine zk_top (y := .ref (daX ad sd sc)) rfl ?_
  refine lv_astore (lv' := [(6, .ref (daX ad sd sc)), (5, .ref (daX ad sd fs)), (0, .ref nt), (1, .int (iz i)), (2, .int (iz fs)), (3, .int (iz sc)), (4, .int (iz ap))]) hX_ hB_ dX3_meet_12 hl (by decide) rfl (fun ls hl => ?_)
  refine lv_aload_n hX_ hB_ dX3_meet_14 rfl (lv_at hl 2 rfl) ?_
  refine lv_iload_n hX_ hB_ dX3_meet_15 rfl (lv_at hl 4 rfl) ?_
  refine backA_i (run_V (As := [.int (iz fs)]) (rest := []) (wc := (wpl [(nt, .inr (1, [.int (iz size), .int (iz mcn), .int (iz few), .int (iz wrg), .int (iz slv), .ref mem, .ref fr, .ref to_, .ref da, .ref gr, .ref of_, .ref jo, .ref jsA])), (mem, .inl (G.2 4, 30, .inr (.inr (.inr (.inr (rv mb)))))), (fr, .inl (G.2 0, 12, .inl (av fF))), (to_, .inl (G.2 0, 12, .inl (av tT))), (da, .inl (G.2 0, 12, .inl (av dD))), (gr, .inl (G.2 5, 13, .inr (.inr (.inr (.inr (rv (fun k_ => some (ad (k_ + 0).toNat)))))))), (of_, .inl (G.2 5, 13, .inr (.inr (.inr (.inr (rv (fun k_ => some (ad (k_ + 13).toNat)))))))), (jo, .inl (G.2 5, 12, .inr (.inr (.inr (.inr (rv (fun k_ => some (ad (k_ + 26).toNat)))))))), (jsA, .inl (G.2 0, 12, .inl (av js)))] (rows 38 ad (ctM G M)))) F (c_X3_sizeOf l G nt mem fr to_ da gr of_ jo jsA ad mb fF tT dD js M size mcn few wrg slv sd Ls fs hf _) (netE_ext mb sd Ls) gX3_meet_X3_sizeOf rfl rfl rfl mdv_X3_sizeOf ⟨Nat.le_of_ble_eq_true rfl, Nat.le_of_ble_eq_true rfl⟩ (va_recv hK.1 hP (ci := 1) (q0 := 0) rfl rfl) (preA (netE_ext mb sd Ls) hK hP hD hS hA hE _) rfl hl.1 (Nat.le_of_ble_eq_true rfl) dX3_meet_16 ⟨by decide, by decide⟩) hD hS hA (fun r__ u__ H locs hw hP hD hS => ?_)
  subst hw
  have hP : va_P G.1 vwCl (wpl [(nt, .inr (1, [.int (iz size), .int (iz mcn), .int (iz few), .int (iz wrg), .int (iz slv), .ref mem, .ref fr, .ref to_, .ref da, .ref gr, .ref of_, .ref jo, .ref jsA])), (mem, .inl (G.2 4, 30, .inr (.inr (.inr (.inr (rv mb)))))), (fr, .inl (G.2 0, 12, .inl (av fF))), (to_, .inl (G.2 0, 12, .inl (av tT))), (da, .inl (G.2 0, 12, .inl (av dD))), (gr, .inl (G.2 5, 13, .inr (.inr (.inr (.inr (rv (fun k_ => some (ad (k_ + 0).toNat)))))))), (of_, .inl (G.2 5, 13, .inr (.inr (.inr (.inr (rv (fun k_ => some (ad (k_ + 13).toNat)))))))), (jo, .inl (G.2 5, 12, .inr (.inr (.inr (.inr (rv (fun k_ => some (ad (k_ + 26).toNat)))))))), (jsA, .inl (G.2 0, 12, .inl (av js)))] (rows 38 ad (ctM G M))) _ := hP
  have hD : va_D A (wpl [(nt, .inr (1, [.int (iz size), .int (iz mcn), .int (iz few), .int (iz wrg), .int (iz slv), .ref mem, .ref fr, .ref to_, .ref da, .ref gr, .ref of_, .ref jo, .ref jsA])), (mem, .inl (G.2 4, 30, .inr (.inr (.inr (.inr (rv mb)))))), (fr, .inl (G.2 0, 12, .inl (av fF))), (to_, .inl (G.2 0, 12, .inl (av tT))), (da, .inl (G.2 0, 12, .inl (av dD))), (gr, .inl (G.2 5, 13, .inr (.inr (.inr (.inr (rv (fun k_ => some (ad (k_ + 0).toNat)))))))), (of_, .inl (G.2 5, 13, .inr (.inr (.inr (.inr (rv (fun k_ => some (ad (k_ + 13).toNat)))))))), (jo, .inl (G.2 5, 12, .inr (.inr (.inr (.inr (rv (fun k_ => some (ad (k_ + 26).toNat)))))))), (jsA, .inl (G.2 0, 12, .inl (av js)))] (rows 38 ad (ctM G M))) := hD
  refine lv_istore (lv' := [(7, .int (iz (szX js Ls fs))), (6, .ref (daX ad sd sc)), (5, .ref (daX ad sd fs)), (0, .ref nt), (1, .int (iz i)), (2, .int (iz fs)), (3, .int (iz sc)), (4, .int (iz ap))]) hX_ hB_ dX3_meet_19 hl (by decide) rfl (fun ls hl => ?_)
  refine lv_aload_n hX_ hB_ dX3_meet_21 rfl (lv_at hl 3 rfl) ?_
  refine lv_iload_n hX_ hB_ dX3_meet_22 rfl (lv_at hl 6 rfl) ?_
  refine backA_i (run_V (As := [.int (iz sc)]) (rest := []) (wc := (wpl [(nt, .inr (1, [.int (iz size), .int (iz mcn), .int (iz few), .int (iz wrg), .int (iz slv), .ref mem, .ref fr, .ref to_, .ref da, .ref gr, .ref of_, .ref jo, .ref jsA])), (mem, .inl (G.2 4, 30, .inr (.inr (.inr (.inr (rv mb)))))), (fr, .inl (G.2 0, 12, .inl (av fF))), (to_, .inl (G.2 0, 12, .inl (av tT))), (da, .inl (G.2 0, 12, .inl (av dD))), (gr, .inl (G.2 5, 13, .inr (.inr (.inr (.inr (rv (fun k_ => some (ad (k_ + 0).toNat)))))))), (of_, .inl (G.2 5, 13, .inr (.inr (.inr (.inr (rv (fun k_ => some (ad (k_ + 13).toNat)))))))), (jo, .inl (G.2 5, 12, .inr (.inr (.inr (.inr (rv (fun k_ => some (ad (k_ + 26).toNat)))))))), (jsA, .inl (G.2 0, 12, .inl (av js)))] (rows 38 ad (ctM G M)))) F (c_X3_sizeOf l G nt mem fr to_ da gr of_ jo jsA ad mb fF tT dD js M size mcn few wrg slv sd Ls sc hs _) (netE_ext mb sd Ls) gX3_meet_X3_sizeOf rfl rfl rfl mdv_X3_sizeOf ⟨Nat.le_of_ble_eq_true rfl, Nat.le_of_ble_eq_true rfl⟩ (va_recv hK.1 hP (ci := 1) (q0 := 0) rfl rfl) (preA (netE_ext mb sd Ls) hK hP hD hS hA hE _) rfl hl.1 (Nat.le_of_ble_eq_true rfl) dX3_meet_23 ⟨by decide, by decide⟩) hD hS hA (fun r__ u__ H locs hw hP hD hS => ?_)
  subst hw
  have hP : va_P G.1 vwCl (wpl [(nt, .inr (1, [.int (iz size), .int (iz mcn), .int (iz few), .int (iz wrg), .int (iz slv), .ref mem, .ref fr, .ref to_, .ref da, .ref gr, .ref of_, .ref jo, .ref jsA])), (mem, .inl (G.2 4, 30, .inr (.inr (.inr (.inr (rv mb)))))), (fr, .inl (G.2 0, 12, .inl (av fF))), (to_, .inl (G.2 0, 12, .inl (av tT))), (da, .inl (G.2 0, 12, .inl (av dD))), (gr, .inl (G.2 5, 13, .inr (.inr (.inr (.inr (rv (fun k_ => some (ad (k_ + 0).toNat)))))))), (of_, .inl (G.2 5, 13, .inr (.inr (.inr (.inr (rv (fun k_ => some (ad (k_ + 13).toNat)))))))), (jo, .inl (G.2 5, 12, .inr (.inr (.inr (.inr (rv (fun k_ => some (ad (k_ + 26).toNat)))))))), (jsA, .inl (G.2 0, 12, .inl (av js)))] (rows 38 ad (ctM G M))) _ := hP
  have hD : va_D A (wpl [(nt, .inr (1, [.int (iz size), .int (iz mcn), .int (iz few), .int (iz wrg), .int (iz slv), .ref mem, .ref fr, .ref to_, .ref da, .ref gr, .ref of_, .ref jo, .ref jsA])), (mem, .inl (G.2 4, 30, .inr (.inr (.inr (.inr (rv mb)))))), (fr, .inl (G.2 0, 12, .inl (av fF))), (to_, .inl (G.2 0, 12, .inl (av tT))), (da, .inl (G.2 0, 12, .inl (av dD))), (gr, .inl (G.2 5, 13, .inr (.inr (.inr (.inr (rv (fun k_ => some (ad (k_ + 0).toNat)))))))), (of_, .inl (G.2 5, 13, .inr (.inr (.inr (.inr (rv (fun k_ => some (ad (k_ + 13).toNat)))))))), (jo, .inl (G.2 5, 12, .inr (.inr (.inr (.inr (rv (fun k_ => some (ad (k_ + 26).toNat)))))))), (jsA, .inl (G.2 0, 12, .inl (av js)))] (rows 38 ad (ctM G M))) := hD
  refine lv_istore (lv' := [(8, .int (iz (szX js Ls sc))), (7, .int (iz (szX js Ls fs))), (6, .ref (daX ad sd sc)), (5, .ref (daX ad sd fs)), (0, .ref nt), (1, .int (iz i)), (2, .int (iz fs)), (3, .int (iz sc)), (4, .int (iz ap))]) hX_ hB_ dX3_meet_26 hl (by decide) rfl (fun ls hl => ?_)
  refine zk_iconst hX_ hB_ dX3_meet_28 ?_
  refine lv_istore (lv' := [(9, .int (iz 0)), (8, .int (iz (szX js Ls sc))), (7, .int (iz (szX js Ls fs))), (6, .ref (daX ad sd sc)), (5, .ref (daX ad sd fs)), (0, .ref nt), (1, .int (iz i)), (2, .int (iz fs)), (3, .int (iz sc)), (4, .int (iz ap))]) hX_ hB_ dX3_meet_29 hl (by decide) rfl (fun ls hl => ?_)
  refine zk_iconst hX_ hB_ dX3_meet_31 ?_
  refine lv_istore (lv' := [(10, .int (iz 0)), (9, .int (iz 0)), (8, .int (iz (szX js Ls sc))), (7, .int (iz (szX js Ls fs))), (6, .ref (daX ad sd sc)), (5, .ref (daX ad sd fs)), (0, .ref nt), (1, .int (iz i)), (2, .int (iz fs)), (3, .int (iz sc)), (4, .int (iz ap))]) hX_ hB_ dX3_meet_32 hl (by decide) rfl (fun ls hl => ?_)
  refine zk_iconst hX_ hB_ dX3_meet_34 ?_
  have e_pool : M = um M (i + 26).toNat (M (i + 26).toNat) := um_self.symm
  rw [e_pool] at hP hD
  have hP : va_P G.1 vwCl (wpl [(nt, .inr (1, [.int (iz size), .int (iz mcn), .int (iz few), .int (iz wrg), .int (iz slv), .ref mem, .ref fr, .ref to_, .ref da, .ref gr, .ref of_, .ref jo, .ref jsA])), (mem, .inl (G.2 4, 30, .inr (.inr (.inr (.inr (rv mb)))))), (fr, .inl (G.2 0, 12, .inl (av fF))), (to_, .inl (G.2 0, 12, .inl (av tT))), (da, .inl (G.2 0, 12, .inl (av dD))), (gr, .inl (G.2 5, 13, .inr (.inr (.inr (.inr (rv (fun k_ => some (ad (k_ + 0).toNat)))))))), (of_, .inl (G.2 5, 13, .inr (.inr (.inr (.inr (rv (fun k_ => some (ad (k_ + 13).toNat)))))))), (jo, .inl (G.2 5, 12, .inr (.inr (.inr (.inr (rv (fun k_ => some (ad (k_ + 26).toNat)))))))), (jsA, .inl (G.2 0, 12, .inl (av js)))] (rows 38 ad (ctM G (um M (i + 26).toNat (M (i + 26).toNat))))) _ := hP
  have hD : va_D A (wpl [(nt, .inr (1, [.int (iz size), .int (iz mcn), .int (iz few), .int (iz wrg), .int (iz slv), .ref mem, .ref fr, .ref to_, .ref da, .ref gr, .ref of_, .ref jo, .ref jsA])), (mem, .inl (G.2 4, 30, .inr (.inr (.inr (.inr (rv mb)))))), (fr, .inl (G.2 0, 12, .inl (av fF))), (to_, .inl (G.2 0, 12, .inl (av tT))), (da, .inl (G.2 0, 12, .inl (av dD))), (gr, .inl (G.2 5, 13, .inr (.inr (.inr (.inr (rv (fun k_ => some (ad (k_ + 0).toNat)))))))), (of_, .inl (G.2 5, 13, .inr (.inr (.inr (.inr (rv (fun k_ => some (ad (k_ + 13).toNat)))))))), (jo, .inl (G.2 5, 12, .inr (.inr (.inr (.inr (rv (fun k_ => some (ad (k_ + 26).toNat)))))))), (jsA, .inl (G.2 0, 12, .inl (av js)))] (rows 38 ad (ctM G (um M (i + 26).toNat (M (i + 26).toNat))))) := hD
  refine lv_istore (lv' := [(11, .int (iz 0)), (10, .int (iz 0)), (9, .int (iz 0)), (8, .int (iz (szX js Ls sc))), (7, .int (iz (szX js Ls fs))), (6, .ref (daX ad sd sc)), (5, .ref (daX ad sd fs)), (0, .ref nt), (1, .int (iz i)), (2, .int (iz fs)), (3, .int (iz sc)), (4, .int (iz ap))]) hX_ hB_ dX3_meet_35 hl (by decide) rfl (fun ls hl => ?_)
  have loop_37 : ∀ (n_37 : Nat), ∀ (rr : Int → Int) (o : Int) (u : Int) (n : Int), (MI (dlX M Ls fs) (szX js Ls fs) (dlX M Ls sc) (szX js Ls sc) ap rr o u n) → (((szX js Ls fs - o) + (szX js Ls sc - u)).toNat < n_37) → ∀ (H : Heap) (locs : List Loc), va_P G.1 vwCl (wpl [(nt, .inr (1, [.int (iz size), .int (iz mcn), .int (iz few), .int (iz wrg), .int (iz slv), .ref mem, .ref fr, .ref to_, .ref da, .ref gr, .ref of_, .ref jo, .ref jsA])), (mem, .inl (G.2 4, 30, .inr (.inr (.inr (.inr (rv mb)))))), (fr, .inl (G.2 0, 12, .inl (av fF))), (to_, .inl (G.2 0, 12, .inl (av tT))), (da, .inl (G.2 0, 12, .inl (av dD))), (gr, .inl (G.2 5, 13, .inr (.inr (.inr (.inr (rv (fun k_ => some (ad (k_ + 0).toNat)))))))), (of_, .inl (G.2 5, 13, .inr (.inr (.inr (.inr (rv (fun k_ => some (ad (k_ + 13).toNat)))))))), (jo, .inl (G.2 5, 12, .inr (.inr (.inr (.inr (rv (fun k_ => some (ad (k_ + 26).toNat)))))))), (jsA, .inl (G.2 0, 12, .inl (av js)))] (rows 38 ad (ctM G (um M (i + 26).toNat rr)))) H → va_D A (wpl [(nt, .inr (1, [.int (iz size), .int (iz mcn), .int (iz few), .int (iz wrg), .int (iz slv), .ref mem, .ref fr, .ref to_, .ref da, .ref gr, .ref of_, .ref jo, .ref jsA])), (mem, .inl (G.2 4, 30, .inr (.inr (.inr (.inr (rv mb)))))), (fr, .inl (G.2 0, 12, .inl (av fF))), (to_, .inl (G.2 0, 12, .inl (av tT))), (da, .inl (G.2 0, 12, .inl (av dD))), (gr, .inl (G.2 5, 13, .inr (.inr (.inr (.inr (rv (fun k_ => some (ad (k_ + 0).toNat)))))))), (of_, .inl (G.2 5, 13, .inr (.inr (.inr (.inr (rv (fun k_ => some (ad (k_ + 13).toNat)))))))), (jo, .inl (G.2 5, 12, .inr (.inr (.inr (.inr (rv (fun k_ => some (ad (k_ + 26).toNat)))))))), (jsA, .inl (G.2 0, 12, .inl (av js)))] (rows 38 ad (ctM G (um M (i + 26).toNat rr)))) → va_S A s.heap H locs → ∀ ls : Array Slot, lv_has ls 13 [(0, .ref nt), (1, .int (iz i)), (2, .int (iz fs)), (3, .int (iz sc)), (4, .int (iz ap)), (5, .ref (daX ad sd fs)), (6, .ref (daX ad sd sc)), (7, .int (iz (szX js Ls fs))), (8, .int (iz (szX js Ls sc))), (9, .int (iz o)), (10, .int (iz u)), (11, .int (iz n))] → W p l e ({ frames := 1, cells := 0, slots := 0, locals := 22 }) s m ([.ref nt, .int (iz i), .int (iz fs), .int (iz sc), .int (iz ap)] : List Value).toArray below meth c H locs 0 0 (MQ below (va_Qi (fun (r : Int32) (u : (Int → Int) × Int) => match u with | (rr, n) => (r = (zb (decide (0 < n)))) ∧ ((0 ≤ n ∧ n ≤ 300) ∧ Mono rr n ∧ ∀ v, Inl rr n v ↔ (Inl (dlX M Ls fs) (szX js Ls fs) v ∧ Inl (dlX M Ls sc) (szX js Ls sc) (v + ap)))) (fun u__ t__ => Pst G A ((fun u : (Int → Int) × Int => match u with | (rr, n) => (wpl [(nt, .inr (1, [.int (iz size), .int (iz mcn), .int (iz few), .int (iz wrg), .int (iz slv), .ref mem, .ref fr, .ref to_, .ref da, .ref gr, .ref of_, .ref jo, .ref jsA])), (mem, .inl (G.2 4, 30, .inr (.inr (.inr (.inr (rv mb)))))), (fr, .inl (G.2 0, 12, .inl (av fF))), (to_, .inl (G.2 0, 12, .inl (av tT))), (da, .inl (G.2 0, 12, .inl (av dD))), (gr, .inl (G.2 5, 13, .inr (.inr (.inr (.inr (rv (fun k_ => some (ad (k_ + 0).toNat)))))))), (of_, .inl (G.2 5, 13, .inr (.inr (.inr (.inr (rv (fun k_ => some (ad (k_ + 13).toNat)))))))), (jo, .inl (G.2 5, 12, .inr (.inr (.inr (.inr (rv (fun k_ => some (ad (k_ + 26).toNat)))))))), (jsA, .inl (G.2 0, 12, .inl (av (us js i n))))] (rows 38 ad (ctM G (um M (i + 26).toNat rr))))) u__) t__) A) ([.ref nt, .int (iz i), .int (iz fs), .int (iz sc), .int (iz ap)] : List Value).toArray s 0 0 A) (F0 m 37 ls []) := by
    intro n_37
    induction n_37 with
    | zero =>
      intro rr o u n hMI hm H locs hP hD hS ls hl
      exact absurd hm (Nat.not_lt_zero _)
    | succ n_37 ih_37 =>
      intro rr o u n hMI hm H locs hP hD hS ls hl
      have hMb := hMI.1
      refine lv_iload hX_ hB_ dX3_meet_37 (lv_at hl 9 rfl) ?_
      refine lv_iload hX_ hB_ dX3_meet_39 (lv_at hl 7 rfl) ?_
      refine zk_icmp_ge (tgt := 108) hX_ hB_ (by omega) (by omega) dX3_meet_41 (by decide) (fun c_41 => ?_) (fun c_41 => ?_)
      · skip
        refine lv_aload_n hX_ hB_ dX3_meet_108 rfl (lv_at hl 0 rfl) ?_
        refine va_get (D := G.1) (ci := 1) (v := .ref jsA) (C := RX3) (T := TX3) (N := 13) hX_ hB_ hts hi_X3_meet_X3 hown hK.1 hP 0 rfl rfl 12 (by decide) (hts _ hw_X3_meet_df0987) (fun _ h9 => h9) rfl dX3_meet_109 ?_
        refine lv_iload_n hX_ hB_ dX3_meet_112 rfl (lv_at hl 1 rfl) ?_
        refine lv_iload hX_ hB_ dX3_meet_113 (lv_at hl 11 rfl) ?_
        refine zk_iast hX_ hB_ hK.1 hP hD hS 8 0 rfl rfl (by omega) (by decide) dX3_meet_115 (fun H locs hP hD hS => ?_)
        have hP : va_P G.1 vwCl (wpl [(nt, .inr (1, [.int (iz size), .int (iz mcn), .int (iz few), .int (iz wrg), .int (iz slv), .ref mem, .ref fr, .ref to_, .ref da, .ref gr, .ref of_, .ref jo, .ref jsA])), (mem, .inl (G.2 4, 30, .inr (.inr (.inr (.inr (rv mb)))))), (fr, .inl (G.2 0, 12, .inl (av fF))), (to_, .inl (G.2 0, 12, .inl (av tT))), (da, .inl (G.2 0, 12, .inl (av dD))), (gr, .inl (G.2 5, 13, .inr (.inr (.inr (.inr (rv (fun k_ => some (ad (k_ + 0).toNat)))))))), (of_, .inl (G.2 5, 13, .inr (.inr (.inr (.inr (rv (fun k_ => some (ad (k_ + 13).toNat)))))))), (jo, .inl (G.2 5, 12, .inr (.inr (.inr (.inr (rv (fun k_ => some (ad (k_ + 26).toNat)))))))), (jsA, .inl (G.2 0, 12, .inl (av (us js i n))))] (rows 38 ad (ctM G (um M (i + 26).toNat rr)))) _ := hP
        have hD : va_D A (wpl [(nt, .inr (1, [.int (iz size), .int (iz mcn), .int (iz few), .int (iz wrg), .int (iz slv), .ref mem, .ref fr, .ref to_, .ref da, .ref gr, .ref of_, .ref jo, .ref jsA])), (mem, .inl (G.2 4, 30, .inr (.inr (.inr (.inr (rv mb)))))), (fr, .inl (G.2 0, 12, .inl (av fF))), (to_, .inl (G.2 0, 12, .inl (av tT))), (da, .inl (G.2 0, 12, .inl (av dD))), (gr, .inl (G.2 5, 13, .inr (.inr (.inr (.inr (rv (fun k_ => some (ad (k_ + 0).toNat)))))))), (of_, .inl (G.2 5, 13, .inr (.inr (.inr (.inr (rv (fun k_ => some (ad (k_ + 13).toNat)))))))), (jo, .inl (G.2 5, 12, .inr (.inr (.inr (.inr (rv (fun k_ => some (ad (k_ + 26).toNat)))))))), (jsA, .inl (G.2 0, 12, .inl (av (us js i n))))] (rows 38 ad (ctM G (um M (i + 26).toNat rr)))) := hD
        refine lv_iload hX_ hB_ dX3_meet_116 (lv_at hl 11 rfl) ?_
        refine zk_if_le (tgt := 125) hX_ hB_ (by omega) dX3_meet_118 (by decide) (fun c_118 => ?_) (fun c_118 => ?_)
        · skip
          refine zk_iconst hX_ hB_ dX3_meet_125 ?_
          refine zk_topi (y := zb false) rfl ?_
          exact fin_i (wf := (fun u : (Int → Int) × Int => match u with | (rr, n) => (wpl [(nt, .inr (1, [.int (iz size), .int (iz mcn), .int (iz few), .int (iz wrg), .int (iz slv), .ref mem, .ref fr, .ref to_, .ref da, .ref gr, .ref of_, .ref jo, .ref jsA])), (mem, .inl (G.2 4, 30, .inr (.inr (.inr (.inr (rv mb)))))), (fr, .inl (G.2 0, 12, .inl (av fF))), (to_, .inl (G.2 0, 12, .inl (av tT))), (da, .inl (G.2 0, 12, .inl (av dD))), (gr, .inl (G.2 5, 13, .inr (.inr (.inr (.inr (rv (fun k_ => some (ad (k_ + 0).toNat)))))))), (of_, .inl (G.2 5, 13, .inr (.inr (.inr (.inr (rv (fun k_ => some (ad (k_ + 13).toNat)))))))), (jo, .inl (G.2 5, 12, .inr (.inr (.inr (.inr (rv (fun k_ => some (ad (k_ + 26).toNat)))))))), (jsA, .inl (G.2 0, 12, .inl (av (us js i n))))] (rows 38 ad (ctM G (um M (i + 26).toNat rr)))))) (rr, n) F (zb_nar _) hP hD hK hS (by decide) (by decide) dX3_meet_126 (by exact ⟨congrArg zb (by simp; omega), by omega, mi_end hMI (by omega)⟩)
        · skip
          refine zk_iconst hX_ hB_ dX3_meet_121 ?_
          refine lv_goto (tgt := 126) hX_ hB_ dX3_meet_122 (by decide) ?_
          refine zk_topi (y := zb true) rfl ?_
          exact fin_i (wf := (fun u : (Int → Int) × Int => match u with | (rr, n) => (wpl [(nt, .inr (1, [.int (iz size), .int (iz mcn), .int (iz few), .int (iz wrg), .int (iz slv), .ref mem, .ref fr, .ref to_, .ref da, .ref gr, .ref of_, .ref jo, .ref jsA])), (mem, .inl (G.2 4, 30, .inr (.inr (.inr (.inr (rv mb)))))), (fr, .inl (G.2 0, 12, .inl (av fF))), (to_, .inl (G.2 0, 12, .inl (av tT))), (da, .inl (G.2 0, 12, .inl (av dD))), (gr, .inl (G.2 5, 13, .inr (.inr (.inr (.inr (rv (fun k_ => some (ad (k_ + 0).toNat)))))))), (of_, .inl (G.2 5, 13, .inr (.inr (.inr (.inr (rv (fun k_ => some (ad (k_ + 13).toNat)))))))), (jo, .inl (G.2 5, 12, .inr (.inr (.inr (.inr (rv (fun k_ => some (ad (k_ + 26).toNat)))))))), (jsA, .inl (G.2 0, 12, .inl (av (us js i n))))] (rows 38 ad (ctM G (um M (i + 26).toNat rr)))))) (rr, n) F (zb_nar _) hP hD hK hS (by decide) (by decide) dX3_meet_126 (by exact ⟨congrArg zb (by simp; omega), by omega, mi_end hMI (by omega)⟩)
      · skip
        refine lv_iload hX_ hB_ dX3_meet_44 (lv_at hl 10 rfl) ?_
        refine lv_iload hX_ hB_ dX3_meet_46 (lv_at hl 8 rfl) ?_
        refine zk_icmp_ge (tgt := 108) hX_ hB_ (by omega) (by omega) dX3_meet_48 (by decide) (fun c_48 => ?_) (fun c_48 => ?_)
        · skip
          refine lv_aload_n hX_ hB_ dX3_meet_108 rfl (lv_at hl 0 rfl) ?_
          refine va_get (D := G.1) (ci := 1) (v := .ref jsA) (C := RX3) (T := TX3) (N := 13) hX_ hB_ hts hi_X3_meet_X3 hown hK.1 hP 0 rfl rfl 12 (by decide) (hts _ hw_X3_meet_df0987) (fun _ h9 => h9) rfl dX3_meet_109 ?_
          refine lv_iload_n hX_ hB_ dX3_meet_112 rfl (lv_at hl 1 rfl) ?_
          refine lv_iload hX_ hB_ dX3_meet_113 (lv_at hl 11 rfl) ?_
          refine zk_iast hX_ hB_ hK.1 hP hD hS 8 0 rfl rfl (by omega) (by decide) dX3_meet_115 (fun H locs hP hD hS => ?_)
          have hP : va_P G.1 vwCl (wpl [(nt, .inr (1, [.int (iz size), .int (iz mcn), .int (iz few), .int (iz wrg), .int (iz slv), .ref mem, .ref fr, .ref to_, .ref da, .ref gr, .ref of_, .ref jo, .ref jsA])), (mem, .inl (G.2 4, 30, .inr (.inr (.inr (.inr (rv mb)))))), (fr, .inl (G.2 0, 12, .inl (av fF))), (to_, .inl (G.2 0, 12, .inl (av tT))), (da, .inl (G.2 0, 12, .inl (av dD))), (gr, .inl (G.2 5, 13, .inr (.inr (.inr (.inr (rv (fun k_ => some (ad (k_ + 0).toNat)))))))), (of_, .inl (G.2 5, 13, .inr (.inr (.inr (.inr (rv (fun k_ => some (ad (k_ + 13).toNat)))))))), (jo, .inl (G.2 5, 12, .inr (.inr (.inr (.inr (rv (fun k_ => some (ad (k_ + 26).toNat)))))))), (jsA, .inl (G.2 0, 12, .inl (av (us js i n))))] (rows 38 ad (ctM G (um M (i + 26).toNat rr)))) _ := hP
          have hD : va_D A (wpl [(nt, .inr (1, [.int (iz size), .int (iz mcn), .int (iz few), .int (iz wrg), .int (iz slv), .ref mem, .ref fr, .ref to_, .ref da, .ref gr, .ref of_, .ref jo, .ref jsA])), (mem, .inl (G.2 4, 30, .inr (.inr (.inr (.inr (rv mb)))))), (fr, .inl (G.2 0, 12, .inl (av fF))), (to_, .inl (G.2 0, 12, .inl (av tT))), (da, .inl (G.2 0, 12, .inl (av dD))), (gr, .inl (G.2 5, 13, .inr (.inr (.inr (.inr (rv (fun k_ => some (ad (k_ + 0).toNat)))))))), (of_, .inl (G.2 5, 13, .inr (.inr (.inr (.inr (rv (fun k_ => some (ad (k_ + 13).toNat)))))))), (jo, .inl (G.2 5, 12, .inr (.inr (.inr (.inr (rv (fun k_ => some (ad (k_ + 26).toNat)))))))), (jsA, .inl (G.2 0, 12, .inl (av (us js i n))))] (rows 38 ad (ctM G (um M (i + 26).toNat rr)))) := hD
          refine lv_iload hX_ hB_ dX3_meet_116 (lv_at hl 11 rfl) ?_
          refine zk_if_le (tgt := 125) hX_ hB_ (by omega) dX3_meet_118 (by decide) (fun c_118 => ?_) (fun c_118 => ?_)
          · skip
            refine zk_iconst hX_ hB_ dX3_meet_125 ?_
            refine zk_topi (y := zb false) rfl ?_
            exact fin_i (wf := (fun u : (Int → Int) × Int => match u with | (rr, n) => (wpl [(nt, .inr (1, [.int (iz size), .int (iz mcn), .int (iz few), .int (iz wrg), .int (iz slv), .ref mem, .ref fr, .ref to_, .ref da, .ref gr, .ref of_, .ref jo, .ref jsA])), (mem, .inl (G.2 4, 30, .inr (.inr (.inr (.inr (rv mb)))))), (fr, .inl (G.2 0, 12, .inl (av fF))), (to_, .inl (G.2 0, 12, .inl (av tT))), (da, .inl (G.2 0, 12, .inl (av dD))), (gr, .inl (G.2 5, 13, .inr (.inr (.inr (.inr (rv (fun k_ => some (ad (k_ + 0).toNat)))))))), (of_, .inl (G.2 5, 13, .inr (.inr (.inr (.inr (rv (fun k_ => some (ad (k_ + 13).toNat)))))))), (jo, .inl (G.2 5, 12, .inr (.inr (.inr (.inr (rv (fun k_ => some (ad (k_ + 26).toNat)))))))), (jsA, .inl (G.2 0, 12, .inl (av (us js i n))))] (rows 38 ad (ctM G (um M (i + 26).toNat rr)))))) (rr, n) F (zb_nar _) hP hD hK hS (by decide) (by decide) dX3_meet_126 (by exact ⟨congrArg zb (by simp; omega), by omega, mi_end hMI (by omega)⟩)
          · skip
            refine zk_iconst hX_ hB_ dX3_meet_121 ?_
            refine lv_goto (tgt := 126) hX_ hB_ dX3_meet_122 (by decide) ?_
            refine zk_topi (y := zb true) rfl ?_
            exact fin_i (wf := (fun u : (Int → Int) × Int => match u with | (rr, n) => (wpl [(nt, .inr (1, [.int (iz size), .int (iz mcn), .int (iz few), .int (iz wrg), .int (iz slv), .ref mem, .ref fr, .ref to_, .ref da, .ref gr, .ref of_, .ref jo, .ref jsA])), (mem, .inl (G.2 4, 30, .inr (.inr (.inr (.inr (rv mb)))))), (fr, .inl (G.2 0, 12, .inl (av fF))), (to_, .inl (G.2 0, 12, .inl (av tT))), (da, .inl (G.2 0, 12, .inl (av dD))), (gr, .inl (G.2 5, 13, .inr (.inr (.inr (.inr (rv (fun k_ => some (ad (k_ + 0).toNat)))))))), (of_, .inl (G.2 5, 13, .inr (.inr (.inr (.inr (rv (fun k_ => some (ad (k_ + 13).toNat)))))))), (jo, .inl (G.2 5, 12, .inr (.inr (.inr (.inr (rv (fun k_ => some (ad (k_ + 26).toNat)))))))), (jsA, .inl (G.2 0, 12, .inl (av (us js i n))))] (rows 38 ad (ctM G (um M (i + 26).toNat rr)))))) (rr, n) F (zb_nar _) hP hD hK hS (by decide) (by decide) dX3_meet_126 (by exact ⟨congrArg zb (by simp; omega), by omega, mi_end hMI (by omega)⟩)
        · skip
          refine lv_aload hX_ hB_ dX3_meet_51 (lv_at hl 6 rfl) ?_
          refine lv_iload hX_ hB_ dX3_meet_53 (lv_at hl 10 rfl) ?_
          refine zk_dald hX_ hB_ hK.1 hP hE hS 9 sc rfl hs (hz_of (by omega) hnb.2) dX3_meet_55 ?_
          refine zk_topi (y := (iz (dlX M Ls sc u))) (by rw [dlX_um (by omega) (by omega)]) ?_
          refine lv_aload hX_ hB_ dX3_meet_56 (lv_at hl 5 rfl) ?_
          refine lv_iload hX_ hB_ dX3_meet_58 (lv_at hl 9 rfl) ?_
          refine zk_dald hX_ hB_ hK.1 hP hE hS 9 fs rfl hf (hz_of (by omega) hna.2) dX3_meet_60 ?_
          refine zk_topi (y := (iz (dlX M Ls fs o))) (by rw [dlX_um (by omega) (by omega)]) ?_
          refine zk_isub hX_ hB_ dX3_meet_61 ?_
          refine lv_iload hX_ hB_ dX3_meet_62 (lv_at hl 4 rfl) ?_
          refine zk_isub hX_ hB_ dX3_meet_64 ?_
          have hb1 := hba o (by omega) (by omega)
          have hb2 := hbb u (by omega) (by omega)
          refine lv_istore (lv' := [(12, .int (iz (((dlX M Ls sc u) - (dlX M Ls fs o)) - ap))), (0, .ref nt), (1, .int (iz i)), (2, .int (iz fs)), (3, .int (iz sc)), (4, .int (iz ap)), (5, .ref (daX ad sd fs)), (6, .ref (daX ad sd sc)), (7, .int (iz (szX js Ls fs))), (8, .int (iz (szX js Ls sc))), (9, .int (iz o)), (10, .int (iz u)), (11, .int (iz n))]) hX_ hB_ dX3_meet_65 hl (by decide) rfl (fun ls hl => ?_)
          refine lv_iload hX_ hB_ dX3_meet_67 (lv_at hl 0 rfl) ?_
          refine zk_if_ne (tgt := 89) hX_ hB_ (by omega) dX3_meet_69 (by decide) (fun c_69 => ?_) (fun c_69 => ?_)
          · skip
            refine lv_iload hX_ hB_ dX3_meet_89 (lv_at hl 0 rfl) ?_
            refine zk_if_lt (tgt := 97) hX_ hB_ (by omega) dX3_meet_91 (by decide) (fun c_91 => ?_) (fun c_91 => ?_)
            · skip
              refine lv_iload hX_ hB_ dX3_meet_97 (lv_at hl 0 rfl) ?_
              refine zk_if_gt (tgt := 105) hX_ hB_ (by omega) dX3_meet_99 (by decide) (fun c_99 => ?_) (fun c_99 => ?_)
              · skip
                refine lv_goto (tgt := 37) hX_ hB_ dX3_meet_105 (by decide) ?_
                exact ih_37 rr o u n (by first | exact mi_hit hma hmb hMI (by omega) (by omega) (by omega) | exact mi_hi hmb hMI (by omega) (by omega) (by omega) | exact mi_lo hma hMI (by omega) (by omega) (by omega) | (exfalso; omega)) (by omega) _ _ hP hD hS ls (lv_sub hl [1, 2, 3, 4, 5, 6, 7, 8, 9, 10, 11, 12] rfl)
              · skip
                refine lv_iinc (v := (iz (u + 1))) (lv' := [(10, .int (iz (u + 1))), (12, .int (iz (((dlX M Ls sc u) - (dlX M Ls fs o)) - ap))), (0, .ref nt), (1, .int (iz i)), (2, .int (iz fs)), (3, .int (iz sc)), (4, .int (iz ap)), (5, .ref (daX ad sd fs)), (6, .ref (daX ad sd sc)), (7, .int (iz (szX js Ls fs))), (8, .int (iz (szX js Ls sc))), (9, .int (iz o)), (11, .int (iz n))]) hX_ hB_ dX3_meet_102 hl (k := 11) rfl (iz_add _ _) (by decide) rfl (fun ls hl => ?_)
                refine lv_goto (tgt := 37) hX_ hB_ dX3_meet_105 (by decide) ?_
                exact ih_37 rr o (u + 1) n (by first | exact mi_hit hma hmb hMI (by omega) (by omega) (by omega) | exact mi_hi hmb hMI (by omega) (by omega) (by omega) | exact mi_lo hma hMI (by omega) (by omega) (by omega) | (exfalso; omega)) (by omega) _ _ hP hD hS ls (lv_sub hl [2, 3, 4, 5, 6, 7, 8, 9, 10, 11, 0, 12] rfl)
            · skip
              refine lv_iinc (v := (iz (o + 1))) (lv' := [(9, .int (iz (o + 1))), (12, .int (iz (((dlX M Ls sc u) - (dlX M Ls fs o)) - ap))), (0, .ref nt), (1, .int (iz i)), (2, .int (iz fs)), (3, .int (iz sc)), (4, .int (iz ap)), (5, .ref (daX ad sd fs)), (6, .ref (daX ad sd sc)), (7, .int (iz (szX js Ls fs))), (8, .int (iz (szX js Ls sc))), (10, .int (iz u)), (11, .int (iz n))]) hX_ hB_ dX3_meet_94 hl (k := 10) rfl (iz_add _ _) (by decide) rfl (fun ls hl => ?_)
              refine lv_iload hX_ hB_ dX3_meet_97 (lv_at hl 1 rfl) ?_
              refine zk_if_gt (tgt := 105) hX_ hB_ (by omega) dX3_meet_99 (by decide) (fun c_99 => ?_) (fun c_99 => ?_)
              · skip
                refine lv_goto (tgt := 37) hX_ hB_ dX3_meet_105 (by decide) ?_
                exact ih_37 rr (o + 1) u n (by first | exact mi_hit hma hmb hMI (by omega) (by omega) (by omega) | exact mi_hi hmb hMI (by omega) (by omega) (by omega) | exact mi_lo hma hMI (by omega) (by omega) (by omega) | (exfalso; omega)) (by omega) _ _ hP hD hS ls (lv_sub hl [2, 3, 4, 5, 6, 7, 8, 9, 10, 0, 11, 12] rfl)
              · skip
                refine lv_iinc (v := (iz (u + 1))) (lv' := [(10, .int (iz (u + 1))), (9, .int (iz (o + 1))), (12, .int (iz (((dlX M Ls sc u) - (dlX M Ls fs o)) - ap))), (0, .ref nt), (1, .int (iz i)), (2, .int (iz fs)), (3, .int (iz sc)), (4, .int (iz ap)), (5, .ref (daX ad sd fs)), (6, .ref (daX ad sd sc)), (7, .int (iz (szX js Ls fs))), (8, .int (iz (szX js Ls sc))), (11, .int (iz n))]) hX_ hB_ dX3_meet_102 hl (k := 11) rfl (iz_add _ _) (by decide) rfl (fun ls hl => ?_)
                refine lv_goto (tgt := 37) hX_ hB_ dX3_meet_105 (by decide) ?_
                exact ih_37 rr (o + 1) (u + 1) n (by first | exact mi_hit hma hmb hMI (by omega) (by omega) (by omega) | exact mi_hi hmb hMI (by omega) (by omega) (by omega) | exact mi_lo hma hMI (by omega) (by omega) (by omega) | (exfalso; omega)) (by omega) _ _ hP hD hS ls (lv_sub hl [3, 4, 5, 6, 7, 8, 9, 10, 11, 1, 0, 12] rfl)
          · skip
            refine lv_aload_n hX_ hB_ dX3_meet_72 rfl (lv_at hl 1 rfl) ?_
            refine va_get (D := G.1) (ci := 1) (v := .ref jo) (C := RX3) (T := TX3) (N := 13) hX_ hB_ hts hi_X3_meet_X3 hown hK.1 hP 0 rfl rfl 11 (by decide) (hts _ hw_X3_meet_d61cf4) (fun _ h9 => h9) rfl dX3_meet_73 ?_
            refine lv_iload_n hX_ hB_ dX3_meet_76 rfl (lv_at hl 2 rfl) ?_
            refine zk_rald hX_ hB_ hK.1 hP 7 rfl (by omega) (by decide) rfl dX3_meet_77 ?_
            refine lv_iload hX_ hB_ dX3_meet_78 (lv_at hl 12 rfl) ?_
            refine lv_aload hX_ hB_ dX3_meet_80 (lv_at hl 6 rfl) ?_
            refine lv_iload hX_ hB_ dX3_meet_82 (lv_at hl 10 rfl) ?_
            refine zk_dald hX_ hB_ hK.1 hP hE hS 9 fs rfl hf (hz_of (by omega) hna.2) dX3_meet_84 ?_
            refine zk_topi (y := (iz (dlX M Ls fs o))) (by rw [dlX_um (by omega) (by omega)]) ?_
            refine zk_past (M := (um M (i + 26).toNat rr)) hX_ hB_ hK.1 hP hD hS 9 (i + 26).toNat rfl (by omega) (ln_hi (by omega)) (by omega) (by decide) dX3_meet_85 (fun H locs hP hD hS => ?_)
            have hP : va_P G.1 vwCl (wpl [(nt, .inr (1, [.int (iz size), .int (iz mcn), .int (iz few), .int (iz wrg), .int (iz slv), .ref mem, .ref fr, .ref to_, .ref da, .ref gr, .ref of_, .ref jo, .ref jsA])), (mem, .inl (G.2 4, 30, .inr (.inr (.inr (.inr (rv mb)))))), (fr, .inl (G.2 0, 12, .inl (av fF))), (to_, .inl (G.2 0, 12, .inl (av tT))), (da, .inl (G.2 0, 12, .inl (av dD))), (gr, .inl (G.2 5, 13, .inr (.inr (.inr (.inr (rv (fun k_ => some (ad (k_ + 0).toNat)))))))), (of_, .inl (G.2 5, 13, .inr (.inr (.inr (.inr (rv (fun k_ => some (ad (k_ + 13).toNat)))))))), (jo, .inl (G.2 5, 12, .inr (.inr (.inr (.inr (rv (fun k_ => some (ad (k_ + 26).toNat)))))))), (jsA, .inl (G.2 0, 12, .inl (av js)))] (rows 38 ad (ctM G (um (um M (i + 26).toNat rr) (i + 26).toNat (us ((um M (i + 26).toNat rr) (i + 26).toNat) n (dlX M Ls fs o)))))) _ := hP
            have hD : va_D A (wpl [(nt, .inr (1, [.int (iz size), .int (iz mcn), .int (iz few), .int (iz wrg), .int (iz slv), .ref mem, .ref fr, .ref to_, .ref da, .ref gr, .ref of_, .ref jo, .ref jsA])), (mem, .inl (G.2 4, 30, .inr (.inr (.inr (.inr (rv mb)))))), (fr, .inl (G.2 0, 12, .inl (av fF))), (to_, .inl (G.2 0, 12, .inl (av tT))), (da, .inl (G.2 0, 12, .inl (av dD))), (gr, .inl (G.2 5, 13, .inr (.inr (.inr (.inr (rv (fun k_ => some (ad (k_ + 0).toNat)))))))), (of_, .inl (G.2 5, 13, .inr (.inr (.inr (.inr (rv (fun k_ => some (ad (k_ + 13).toNat)))))))), (jo, .inl (G.2 5, 12, .inr (.inr (.inr (.inr (rv (fun k_ => some (ad (k_ + 26).toNat)))))))), (jsA, .inl (G.2 0, 12, .inl (av js)))] (rows 38 ad (ctM G (um (um M (i + 26).toNat rr) (i + 26).toNat (us ((um M (i + 26).toNat rr) (i + 26).toNat) n (dlX M Ls fs o)))))) := hD
            have e_pool : um (um M (i + 26).toNat rr) (i + 26).toNat (us ((um M (i + 26).toNat rr) (i + 26).toNat) n (dlX M Ls fs o)) = um M (i + 26).toNat (us rr n (dlX M Ls fs o)) := by rw [um_at, um_um]
            rw [e_pool] at hP hD
            have hP : va_P G.1 vwCl (wpl [(nt, .inr (1, [.int (iz size), .int (iz mcn), .int (iz few), .int (iz wrg), .int (iz slv), .ref mem, .ref fr, .ref to_, .ref da, .ref gr, .ref of_, .ref jo, .ref jsA])), (mem, .inl (G.2 4, 30, .inr (.inr (.inr (.inr (rv mb)))))), (fr, .inl (G.2 0, 12, .inl (av fF))), (to_, .inl (G.2 0, 12, .inl (av tT))), (da, .inl (G.2 0, 12, .inl (av dD))), (gr, .inl (G.2 5, 13, .inr (.inr (.inr (.inr (rv (fun k_ => some (ad (k_ + 0).toNat)))))))), (of_, .inl (G.2 5, 13, .inr (.inr (.inr (.inr (rv (fun k_ => some (ad (k_ + 13).toNat)))))))), (jo, .inl (G.2 5, 12, .inr (.inr (.inr (.inr (rv (fun k_ => some (ad (k_ + 26).toNat)))))))), (jsA, .inl (G.2 0, 12, .inl (av js)))] (rows 38 ad (ctM G (um M (i + 26).toNat (us rr n (dlX M Ls fs o)))))) _ := hP
            have hD : va_D A (wpl [(nt, .inr (1, [.int (iz size), .int (iz mcn), .int (iz few), .int (iz wrg), .int (iz slv), .ref mem, .ref fr, .ref to_, .ref da, .ref gr, .ref of_, .ref jo, .ref jsA])), (mem, .inl (G.2 4, 30, .inr (.inr (.inr (.inr (rv mb)))))), (fr, .inl (G.2 0, 12, .inl (av fF))), (to_, .inl (G.2 0, 12, .inl (av tT))), (da, .inl (G.2 0, 12, .inl (av dD))), (gr, .inl (G.2 5, 13, .inr (.inr (.inr (.inr (rv (fun k_ => some (ad (k_ + 0).toNat)))))))), (of_, .inl (G.2 5, 13, .inr (.inr (.inr (.inr (rv (fun k_ => some (ad (k_ + 13).toNat)))))))), (jo, .inl (G.2 5, 12, .inr (.inr (.inr (.inr (rv (fun k_ => some (ad (k_ + 26).toNat)))))))), (jsA, .inl (G.2 0, 12, .inl (av js)))] (rows 38 ad (ctM G (um M (i + 26).toNat (us rr n (dlX M Ls fs o)))))) := hD
            refine lv_iinc (v := (iz (n + 1))) (lv' := [(11, .int (iz (n + 1))), (12, .int (iz (((dlX M Ls sc u) - (dlX M Ls fs o)) - ap))), (0, .ref nt), (1, .int (iz i)), (2, .int (iz fs)), (3, .int (iz sc)), (4, .int (iz ap)), (5, .ref (daX ad sd fs)), (6, .ref (daX ad sd sc)), (7, .int (iz (szX js Ls fs))), (8, .int (iz (szX js Ls sc))), (9, .int (iz o)), (10, .int (iz u))]) hX_ hB_ dX3_meet_86 hl (k := 12) rfl (iz_add _ _) (by decide) rfl (fun ls hl => ?_)
            refine lv_iload hX_ hB_ dX3_meet_89 (lv_at hl 1 rfl) ?_
            refine zk_if_lt (tgt := 97) hX_ hB_ (by omega) dX3_meet_91 (by decide) (fun c_91 => ?_) (fun c_91 => ?_)
            · skip
              refine lv_iload hX_ hB_ dX3_meet_97 (lv_at hl 1 rfl) ?_
              refine zk_if_gt (tgt := 105) hX_ hB_ (by omega) dX3_meet_99 (by decide) (fun c_99 => ?_) (fun c_99 => ?_)
              · skip
                refine lv_goto (tgt := 37) hX_ hB_ dX3_meet_105 (by decide) ?_
                exact ih_37 (us rr n (dlX M Ls fs o)) o u (n + 1) (by first | exact mi_hit hma hmb hMI (by omega) (by omega) (by omega) | exact mi_hi hmb hMI (by omega) (by omega) (by omega) | exact mi_lo hma hMI (by omega) (by omega) (by omega) | (exfalso; omega)) (by omega) _ _ hP hD hS ls (lv_sub hl [2, 3, 4, 5, 6, 7, 8, 9, 10, 11, 12, 0] rfl)
              · skip
                refine lv_iinc (v := (iz (u + 1))) (lv' := [(10, .int (iz (u + 1))), (11, .int (iz (n + 1))), (12, .int (iz (((dlX M Ls sc u) - (dlX M Ls fs o)) - ap))), (0, .ref nt), (1, .int (iz i)), (2, .int (iz fs)), (3, .int (iz sc)), (4, .int (iz ap)), (5, .ref (daX ad sd fs)), (6, .ref (daX ad sd sc)), (7, .int (iz (szX js Ls fs))), (8, .int (iz (szX js Ls sc))), (9, .int (iz o))]) hX_ hB_ dX3_meet_102 hl (k := 12) rfl (iz_add _ _) (by decide) rfl (fun ls hl => ?_)
                refine lv_goto (tgt := 37) hX_ hB_ dX3_meet_105 (by decide) ?_
                exact ih_37 (us rr n (dlX M Ls fs o)) o (u + 1) (n + 1) (by first | exact mi_hit hma hmb hMI (by omega) (by omega) (by omega) | exact mi_hi hmb hMI (by omega) (by omega) (by omega) | exact mi_lo hma hMI (by omega) (by omega) (by omega) | (exfalso; omega)) (by omega) _ _ hP hD hS ls (lv_sub hl [3, 4, 5, 6, 7, 8, 9, 10, 11, 12, 0, 1] rfl)
            · skip
              refine lv_iinc (v := (iz (o + 1))) (lv' := [(9, .int (iz (o + 1))), (11, .int (iz (n + 1))), (12, .int (iz (((dlX M Ls sc u) - (dlX M Ls fs o)) - ap))), (0, .ref nt), (1, .int (iz i)), (2, .int (iz fs)), (3, .int (iz sc)), (4, .int (iz ap)), (5, .ref (daX ad sd fs)), (6, .ref (daX ad sd sc)), (7, .int (iz (szX js Ls fs))), (8, .int (iz (szX js Ls sc))), (10, .int (iz u))]) hX_ hB_ dX3_meet_94 hl (k := 11) rfl (iz_add _ _) (by decide) rfl (fun ls hl => ?_)
              refine lv_iload hX_ hB_ dX3_meet_97 (lv_at hl 2 rfl) ?_
              refine zk_if_gt (tgt := 105) hX_ hB_ (by omega) dX3_meet_99 (by decide) (fun c_99 => ?_) (fun c_99 => ?_)
              · skip
                refine lv_goto (tgt := 37) hX_ hB_ dX3_meet_105 (by decide) ?_
                exact ih_37 (us rr n (dlX M Ls fs o)) (o + 1) u (n + 1) (by first | exact mi_hit hma hmb hMI (by omega) (by omega) (by omega) | exact mi_hi hmb hMI (by omega) (by omega) (by omega) | exact mi_lo hma hMI (by omega) (by omega) (by omega) | (exfalso; omega)) (by omega) _ _ hP hD hS ls (lv_sub hl [3, 4, 5, 6, 7, 8, 9, 10, 11, 0, 12, 1] rfl)
              · skip
                refine lv_iinc (v := (iz (u + 1))) (lv' := [(10, .int (iz (u + 1))), (9, .int (iz (o + 1))), (11, .int (iz (n + 1))), (12, .int (iz (((dlX M Ls sc u) - (dlX M Ls fs o)) - ap))), (0, .ref nt), (1, .int (iz i)), (2, .int (iz fs)), (3, .int (iz sc)), (4, .int (iz ap)), (5, .ref (daX ad sd fs)), (6, .ref (daX ad sd sc)), (7, .int (iz (szX js Ls fs))), (8, .int (iz (szX js Ls sc)))]) hX_ hB_ dX3_meet_102 hl (k := 12) rfl (iz_add _ _) (by decide) rfl (fun ls hl => ?_)
                refine lv_goto (tgt := 37) hX_ hB_ dX3_meet_105 (by decide) ?_
                exact ih_37 (us rr n (dlX M Ls fs o)) (o + 1) (u + 1) (n + 1) (by first | exact mi_hit hma hmb hMI (by omega) (by omega) (by omega) | exact mi_hi hmb hMI (by omega) (by omega) (by omega) | exact mi_lo hma hMI (by omega) (by omega) (by omega) | (exfalso; omega)) (by omega) _ _ hP hD hS ls (lv_sub hl [4, 5, 6, 7, 8, 9, 10, 11, 12, 1, 0, 2] rfl)
  exact loop_37 _ (M (i + 26).toNat) 0 0 0 (by exact mi_0 hna.1 hnb.1) (Nat.lt_succ_self _) _ _ hP hD hS ls (lv_sub hl [7, 8, 9, 10, 11, 6, 5, 4, 3, 2, 1, 0] rfl)
