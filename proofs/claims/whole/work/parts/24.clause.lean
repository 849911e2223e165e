abbrev SS : Type := Int → Int → Bool
def nar (f : SS) (k : Int) (h : Int → Bool) : SS := fun k' v => if k' = k then f k' v && h v else f k' v
def RSS (ss : Int → Int32) (f : SS) : Prop := ∀ k : Int, 0 ≤ k → k < 11 → RS (ss k) (f k)
theorem RSS_nar {ss : Int → Int32} {f : SS} {x : Int32} {h : Int → Bool} {k : Int} (h1 : RSS ss f) (h2 : RS x h) : RSS (us ss k (ss k &&& x)) (nar f k h) := by
  intro j j0 j1 v v0 v1
  unfold us nar
  by_cases e : j = k
  · subst e
    rw [if_pos rfl, if_pos rfl, hold_and ⟨v0, v1⟩, h1 j j0 j1 v v0 v1, h2 v v0 v1]
  · rw [if_neg e, if_neg e]
    exact h1 j j0 j1 v v0 v1
/-- the parts of a clause, from the i-th on, w of them, the i-th for the sign F + i -/
def pl (bt : Int → Int) (n F : Int) : Nat → Int → Int → SS → Bool × Int × SS
  | 0, _, a, f => (true, a, f)
  | w + 1, i, a, f => if 0 < i then (if tkB bt n 46 a then (if (part bt n (tkP bt n 46 a)).1 then pl bt n F w (i + 1) (part bt n (tkP bt n 46 a)).2.1 (nar f (F + i) (part bt n (tkP bt n 46 a)).2.2) else (false, (part bt n (tkP bt n 46 a)).2.1, f)) else (false, tkP bt n 46 a, f))
      else (if (part bt n a).1 then pl bt n F w (i + 1) (part bt n a).2.1 (nar f (F + i) (part bt n a).2.2) else (false, (part bt n a).2.1, f))
def cl (bt : Int → Int) (n a : Int) (f : SS) : Bool × Int × SS := match kix bt n a with
  | none => (false, a, f)
  | some ki => if (pl bt n (kF ki) (kW ki).toNat 0 (we bt n a) f).1 then (tkB bt n 59 (pl bt n (kF ki) (kW ki).toNat 0 (we bt n a) f).2.1, tkP bt n 59 (pl bt n (kF ki) (kW ki).toNat 0 (we bt n a) f).2.1, (pl bt n (kF ki) (kW ki).toNat 0 (we bt n a) f).2.2) else pl bt n (kF ki) (kW ki).toNat 0 (we bt n a) f
def tx (bt : Int → Int) (n : Int) : Nat → Int → SS → Bool × Int × SS
  | 0, a, f => (decide (n ≤ a), a, f)
  | k + 1, a, f => if a < n then (if (cl bt n a f).1 then tx bt n k (sk bt n (cl bt n a f).2.1) (cl bt n a f).2.2 else (false, (cl bt n a f).2.1, f)) else (true, a, f)
/-- a text of n bytes: whether it stands, the place of its fault, its sets -/
def rd (bt : Int → Int) (n : Int) : Bool × Int × SS := tx bt n 12 (sk bt n 0) (fun _ _ => true)
theorem pl_rng {bt : Int → Int} {n F : Int} : ∀ (w : Nat) (i a : Int) (f : SS), a ≤ n → a ≤ (pl bt n F w i a f).2.1 ∧ (pl bt n F w i a f).2.1 ≤ n
  | 0, i, a, f, h => ⟨Int.le_refl _, h⟩
  | w + 1, i, a, f, h => by
    have h1 := tkP_rng (bt := bt) (c := 46) h
    have h2 := part_rng (bt := bt) h1.2
    have h3 := part_rng (bt := bt) h
    unfold pl
    split
    · split
      · split
        · have := pl_rng (bt := bt) (F := F) w (i + 1) (part bt n (tkP bt n 46 a)).2.1 (nar f (F + i) (part bt n (tkP bt n 46 a)).2.2) h2.2
          omega
        · exact ⟨by show a ≤ (part bt n (tkP bt n 46 a)).2.1; omega, h2.2⟩
      · exact h1
    · split
      · have := pl_rng (bt := bt) (F := F) w (i + 1) (part bt n a).2.1 (nar f (F + i) (part bt n a).2.2) h3.2
        omega
      · exact h3
theorem cl_rng {bt : Int → Int} {n a : Int} {f : SS} (h : a ≤ n) : a ≤ (cl bt n a f).2.1 ∧ (cl bt n a f).2.1 ≤ n := by
  have h0 := we_rng (bt := bt) h
  unfold cl
  split
  · exact ⟨Int.le_refl _, h⟩
  · rename_i ki _
    have h1 := pl_rng (bt := bt) (F := kF ki) (kW ki).toNat 0 (we bt n a) f h0.2
    have h2 := tkP_rng (bt := bt) (c := 59) h1.2
    split
    · exact ⟨by show a ≤ tkP bt n 59 _; omega, h2.2⟩
    · omega

theorem hw_X4_readClause_3794a9 : (.fieldLink RX4 34 "StoneDates$Reader" "at" "I" : Cond) ∈ wsX4_readClause := by decide +kernel
theorem hi_X4_readClause_X4 : ∀ w ∈ u_ws RX4 TX4 7, w ∈ wsX4_readClause := by decide +kernel
theorem mdv_X4_readWord : yX4_readWord.cls = RX4 ∧ yX4_readWord.cls ≠ "java/lang/invoke/MethodHandle" ∧ yX4_readWord.cls ≠ "java/lang/invoke/VarHandle" ∧ (parseMethodDescriptor yX4_readWord.desc).map (fun d => d.parameters.length) = some 0 := by decide +kernel
theorem hw_X4_readClause_88b343 : (.fieldLink RX4 58 "StoneDates$Kind" "width" "I" : Cond) ∈ wsX4_readClause := by decide +kernel
theorem mdv_X4_demand : yX4_demand.cls = RX4 ∧ yX4_demand.cls ≠ "java/lang/invoke/MethodHandle" ∧ yX4_demand.cls ≠ "java/lang/invoke/VarHandle" ∧ (parseMethodDescriptor yX4_demand.desc).map (fun d => d.parameters.length) = some 1 := by decide +kernel
theorem mdv_X4_readPart : yX4_readPart.cls = RX4 ∧ yX4_readPart.cls ≠ "java/lang/invoke/MethodHandle" ∧ yX4_readPart.cls ≠ "java/lang/invoke/VarHandle" ∧ (parseMethodDescriptor yX4_readPart.desc).map (fun d => d.parameters.length) = some 0 := by decide +kernel
theorem hw_X4_readClause_80c147 : (.fieldLink RX4 70 "StoneDates$Kind" "first" "I" : Cond) ∈ wsX4_readClause := by decide +kernel
theorem mdv_X4_narrow : yX4_narrow.cls = RX4 ∧ yX4_narrow.cls ≠ "java/lang/invoke/MethodHandle" ∧ yX4_narrow.cls ≠ "java/lang/invoke/VarHandle" ∧ (parseMethodDescriptor yX4_narrow.desc).map (fun d => d.parameters.length) = some 1 := by decide +kernel
set_option maxHeartbeats 4000000 in
set_option maxRecDepth 100000 in
theorem c_X4_readClause (l : Launch) (G : GG) (h : Nat) (sA : Nat) (bA : Nat) (st : Int → Int32) (size : Int) (fault : Int) (len : Int) (at_ : Int) (heard : Int32) (bt : Int → Int) (fo : Option Nat) (kt : Nat) (kd : Nat → Nat) (sa : Nat → Nat) (va : Nat → Nat) (f : SS) (ha : 0 ≤ at_ ∧ at_ ≤ len ∧ len ≤ 200) (hB : ∀ k : Int, 0 ≤ bt k ∧ bt k ≤ 255) (hss : RSS st f) : Ci l yX4_readClause wsX4_readClause ({ frames := 6, cells := 0, slots := 0, locals := 134 }) G (EKind fo kt kd sa va) [.ref h] [(h, .inr (2, [.ref sA, .int (iz size), .int (iz fault), .ref bA, .int (iz len), .int (iz at_), .int heard])), (sA, .inl (G.2 0, 11, .inl (rv st))), (bA, .inl (G.2 0, 200, .inl (av bt)))] 0 0 (fun u : (Int → Int32) × Int32 × Int => match u with | (st2, heard2, at2) => [(h, .inr (2, [.ref sA, .int (iz size), .int (iz (if (cl bt len at_ f).1 then fault else (cl bt len at_ f).2.1)), .ref bA, .int (iz len), .int (iz at2), .int heard2])), (sA, .inl (G.2 0, 11, .inl (rv st2))), (bA, .inl (G.2 0, 200, .inl (av bt)))]) (fun (r : Int32) (u : (Int → Int32) × Int32 × Int) => match u with | (st2, heard2, at2) => (r = (zb ((cl bt len at_ f).1))) ∧ ((cl bt len at_ f).1 = true → at2 = (cl bt len at_ f).2.1 ∧ RSS st2 (cl bt len at_ f).2.2)) := by
  refine Ci_intro (cc := cX4_readClause) (maxL := 4) (ret := (some .boolean)) (by decide) rfl (Nat.le_of_ble_eq_true rfl) ?_
  intro p e s m below meth c A F hA hP hD hK hE ls hl
  have hX_ := F.1
  have hB_ := F.2.1
  have hts := F.2.2.2.2.2.1
  have hown := F.2.2.2.2.1
  have hml := F.2.2.2.1
  have hS : va_S A s.heap s.heap [] := va_S.rf
  have hl : lv_has ls 4 [(0, .ref h)] := hl
  refine lv_aload_n hX_ hB_ dX4_readClause_0 rfl (lv_at hl 0 rfl) ?_
  refine va_get (D := G.1) (ci := 2) (v := .int (iz at_)) (C := RX4) (T := TX4) (N := 7) hX_ hB_ hts hi_X4_readClause_X4 hown hK.1 hP 0 rfl rfl 5 (by decide) (hts _ hw_X4_readClause_3794a9) (fun _ h9 => h9) rfl dX4_readClause_1 ?_
  refine lv_istore_n (lv' := [(1, .int (iz at_)), (0, .ref h)]) hX_ hB_ dX4_readClause_4 rfl hl (by decide) rfl (fun ls hl => ?_)
  refine lv_aload_n hX_ hB_ dX4_readClause_5 rfl (lv_at hl 1 rfl) ?_
  refine back_q (wr := []) (run_V (As := []) (rest := []) (wc := [(h, .inr (2, [.ref sA, .int (iz size), .int (iz fault), .ref bA, .int (iz len), .int (iz at_), .int heard])), (sA, .inl (G.2 0, 11, .inl (rv st))), (bA, .inl (G.2 0, 200, .inl (av bt)))]) F (c_X4_readWord l G h sA bA st size fault len at_ heard bt fo kt kd sa va (by omega) (by omega) _) (ekind_ext fo kt kd sa va) gX4_readClause_X4_readWord rfl rfl rfl mdv_X4_readWord ⟨Nat.le_of_ble_eq_true rfl, Nat.le_of_ble_eq_true rfl⟩ (va_recv hK.1 (hP.sub (ws' := [(h, .inr (2, [.ref sA, .int (iz size), .int (iz fault), .ref bA, .int (iz len), .int (iz at_), .int heard])), (sA, .inl (G.2 0, 11, .inl (rv st))), (bA, .inl (G.2 0, 200, .inl (av bt)))]) [0, 1, 2] rfl) (ci := 2) (q0 := 0) rfl rfl) (pre_of (ekind_ext fo kt kd sa va) hK hP hD hS hA hE [0, 1, 2] (by decide) rfl _) rfl hl.1 (Nat.le_of_ble_eq_true rfl) dX4_readClause_6 ⟨by decide, by decide⟩) hP hD hS hA [0, 1, 2] [] rfl rfl (by decide) (by decide) (fun r__ u__ H locs hw hP hD hS => ?_)
  subst hw
  have hP := hP.sub (ws' := [(h, .inr (2, [.ref sA, .int (iz size), .int (iz fault), .ref bA, .int (iz len), .int (iz (we bt len at_)), .int heard])), (sA, .inl (G.2 0, 11, .inl (rv st))), (bA, .inl (G.2 0, 200, .inl (av bt)))]) [0, 1, 2] rfl
  have hD := hD.sub (ws' := [(h, .inr (2, [.ref sA, .int (iz size), .int (iz fault), .ref bA, .int (iz len), .int (iz (we bt len at_)), .int heard])), (sA, .inl (G.2 0, 11, .inl (rv st))), (bA, .inl (G.2 0, 200, .inl (av bt)))]) [0, 1, 2] (by decide) rfl
  rcases hkx : kix bt len at_ with _ | ki
  · skip
    have hwe := we_rng (bt := bt) (a := at_) (n := len) (by omega)
    refine lv_astore_nN (lv' := [(2, .null), (1, .int (iz at_)), (0, .ref h)]) hX_ hB_ dX4_readClause_9 rfl hl (by decide) rfl (fun ls hl => ?_)
    refine lv_aload_nN hX_ hB_ dX4_readClause_10 rfl (lv_at hl 0 rfl) ?_
    refine lv_ifnonnullN hX_ hB_ dX4_readClause_11 ?_
    refine lv_aload_n hX_ hB_ dX4_readClause_14 rfl (lv_at hl 2 rfl) ?_
    refine lv_iload_n hX_ hB_ dX4_readClause_15 rfl (lv_at hl 1 rfl) ?_
    refine back_i (wr := []) (run_V (As := [.int (iz at_)]) (rest := []) (wc := [(h, .inr (2, [.ref sA, .int (iz size), .int (iz fault), .ref bA, .int (iz len), .int (iz (we bt len at_)), .int heard])), (sA, .inl (G.2 0, 11, .inl (rv st))), (bA, .inl (G.2 0, 200, .inl (av bt)))]) F (c_X4_refuse l G h sA bA st size fault len (we bt len at_) heard bt at_ _) ext0 gX4_readClause_X4_refuse rfl rfl rfl mdv_X4_refuse ⟨Nat.le_of_ble_eq_true rfl, Nat.le_of_ble_eq_true rfl⟩ (va_recv hK.1 (hP.sub (ws' := [(h, .inr (2, [.ref sA, .int (iz size), .int (iz fault), .ref bA, .int (iz len), .int (iz (we bt len at_)), .int heard])), (sA, .inl (G.2 0, 11, .inl (rv st))), (bA, .inl (G.2 0, 200, .inl (av bt)))]) [0, 1, 2] rfl) (ci := 2) (q0 := 0) rfl rfl) (pre_of ext0 hK hP hD hS hA trivial [0, 1, 2] (by decide) rfl _) rfl hl.1 (Nat.le_of_ble_eq_true rfl) dX4_readClause_16 ⟨by decide, by decide⟩) hP hD hS hA [0, 1, 2] [] rfl rfl (by decide) (by decide) (fun r__ u__ H locs hw hP hD hS => ?_)
    subst hw
    have hP := hP.sub (ws' := [(h, .inr (2, [.ref sA, .int (iz size), .int (iz at_), .ref bA, .int (iz len), .int (iz (we bt len at_)), .int heard])), (sA, .inl (G.2 0, 11, .inl (rv st))), (bA, .inl (G.2 0, 200, .inl (av bt)))]) [0, 1, 2] rfl
    have hD := hD.sub (ws' := [(h, .inr (2, [.ref sA, .int (iz size), .int (iz at_), .ref bA, .int (iz len), .int (iz (we bt len at_)), .int heard])), (sA, .inl (G.2 0, 11, .inl (rv st))), (bA, .inl (G.2 0, 200, .inl (av bt)))]) [0, 1, 2] (by decide) rfl
    have ec : (cl bt len at_ f) = (false, at_, f) := by unfold cl; rw [hkx]
    exact fin_i (wf := (fun u : (Int → Int32) × Int32 × Int => match u with | (st2, heard2, at2) => [(h, .inr (2, [.ref sA, .int (iz size), .int (iz (if (cl bt len at_ f).1 then fault else (cl bt len at_ f).2.1)), .ref bA, .int (iz len), .int (iz at2), .int heard2])), (sA, .inl (G.2 0, 11, .inl (rv st2))), (bA, .inl (G.2 0, 200, .inl (av bt)))])) (st, heard, we bt len at_) F (zb_nar _) (by (try dsimp only); rw [ec]; exact hP) (by (try dsimp only); rw [ec]; exact hD) hK hS (by decide) (by decide) dX4_readClause_19 (by exact ⟨by rw [ec], fun q => by rw [ec] at q; cases q⟩)
  · skip
    have hki := kix_lt hkx
    have hwe := we_rng (bt := bt) (a := at_) (n := len) (by omega)
    have hkr := kW_rng ki hki
    refine lv_astore_n (lv' := [(2, .ref (kd ki)), (1, .int (iz at_)), (0, .ref h)]) hX_ hB_ dX4_readClause_9 rfl hl (by decide) rfl (fun ls hl => ?_)
    refine lv_aload_n hX_ hB_ dX4_readClause_10 rfl (lv_at hl 0 rfl) ?_
    refine lv_ifnonnull (tgt := 20) hX_ hB_ dX4_readClause_11 (by decide) ?_
    refine zk_iconst hX_ hB_ dX4_readClause_20 ?_
    refine lv_istore_n (lv' := [(3, .int (iz 0)), (2, .ref (kd ki)), (1, .int (iz at_)), (0, .ref h)]) hX_ hB_ dX4_readClause_21 rfl hl (by decide) rfl (fun ls hl => ?_)
    have loop_22 : ∀ (n_22 : Nat), ∀ (i : Int) (a : Int) (ss : Int → Int32) (hd : Int32) (ft : Int) (ff : SS), (0 ≤ i ∧ i ≤ kW ki) → (0 ≤ a ∧ a ≤ len) → (RSS ss ff) → (ft = fault) → ((pl bt len (kF ki) (kW ki).toNat 0 (we bt len at_) f) = pl bt len (kF ki) (kW ki - i).toNat i a ff) → ((kW ki - i).toNat < n_22) → ∀ (H : Heap) (locs : List Loc), va_P G.1 vwCl [(h, .inr (2, [.ref sA, .int (iz size), .int (iz ft), .ref bA, .int (iz len), .int (iz a), .int hd])), (sA, .inl (G.2 0, 11, .inl (rv ss))), (bA, .inl (G.2 0, 200, .inl (av bt)))] H → va_D A [(h, .inr (2, [.ref sA, .int (iz size), .int (iz ft), .ref bA, .int (iz len), .int (iz a), .int hd])), (sA, .inl (G.2 0, 11, .inl (rv ss))), (bA, .inl (G.2 0, 200, .inl (av bt)))] → va_S A s.heap H locs → ∀ ls : Array Slot, lv_has ls 4 [(0, .ref h), (1, .int (iz at_)), (2, .ref (kd ki)), (3, .int (iz i))] → W p l e ({ frames := 6, cells := 0, slots := 0, locals := 134 }) s m ([.ref h] : List Value).toArray below meth c H locs 0 0 (MQ below (va_Qi (fun (r : Int32) (u : (Int → Int32) × Int32 × Int) => match u with | (st2, heard2, at2) => (r = (zb ((cl bt len at_ f).1))) ∧ ((cl bt len at_ f).1 = true → at2 = (cl bt len at_ f).2.1 ∧ RSS st2 (cl bt len at_ f).2.2)) (fun u__ t__ => Pst G A ((fun u : (Int → Int32) × Int32 × Int => match u with | (st2, heard2, at2) => [(h, .inr (2, [.ref sA, .int (iz size), .int (iz (if (cl bt len at_ f).1 then fault else (cl bt len at_ f).2.1)), .ref bA, .int (iz len), .int (iz at2), .int heard2])), (sA, .inl (G.2 0, 11, .inl (rv st2))), (bA, .inl (G.2 0, 200, .inl (av bt)))]) u__) t__) A) ([.ref h] : List Value).toArray s 0 0 A) (F0 m 22 ls []) := by
      intro n_22
      induction n_22 with
      | zero =>
        intro i a ss hd ft ff hi hai hs2 eft hp hm H locs hP hD hS ls hl
        exact absurd hm (Nat.not_lt_zero _)
      | succ n_22 ih_22 =>
        intro i a ss hd ft ff hi hai hs2 eft hp hm H locs hP hD hS ls hl
        have hkw : i < kW ki → (kW ki - i).toNat = (kW ki - (i + 1)).toNat + 1 := fun _ => by omega
        refine lv_iload_n hX_ hB_ dX4_readClause_22 rfl (lv_at hl 3 rfl) ?_
        refine lv_aload_n hX_ hB_ dX4_readClause_23 rfl (lv_at hl 2 rfl) ?_
        refine vk_getf (v := .int (iz (kW ki))) hX_ hB_ (hE.2.2.2 ki hki).2.2.1 hS hown (hts _ hw_X4_readClause_88b343) (fun _ h9 => h9) dX4_readClause_24 ?_
        refine zk_icmp_ge (tgt := 70) hX_ hB_ (by omega) (by omega) dX4_readClause_27 (by decide) (fun c_27 => ?_) (fun c_27 => ?_)
        · skip
          have hik : i = kW ki := by omega
          have hpl0 : (pl bt len (kF ki) (kW ki).toNat 0 (we bt len at_) f) = (true, a, ff) := by rw [hp, hik, Int.sub_self]; rfl
          refine lv_aload_n hX_ hB_ dX4_readClause_70 rfl (lv_at hl 0 rfl) ?_
          refine zk_bipush hX_ hB_ (by decide) dX4_readClause_71 ?_
          refine back_i (wr := []) (run_V (As := [.int (iz 59)]) (rest := []) (wc := [(h, .inr (2, [.ref sA, .int (iz size), .int (iz ft), .ref bA, .int (iz len), .int (iz a), .int hd])), (sA, .inl (G.2 0, 11, .inl (rv ss))), (bA, .inl (G.2 0, 200, .inl (av bt)))]) F (c_X4_demand l G h sA bA ss size ft len a hd bt 59 (by omega) (by omega) (by omega) _) ext0 gX4_readClause_X4_demand rfl rfl rfl mdv_X4_demand ⟨Nat.le_of_ble_eq_true rfl, Nat.le_of_ble_eq_true rfl⟩ (va_recv hK.1 (hP.sub (ws' := [(h, .inr (2, [.ref sA, .int (iz size), .int (iz ft), .ref bA, .int (iz len), .int (iz a), .int hd])), (sA, .inl (G.2 0, 11, .inl (rv ss))), (bA, .inl (G.2 0, 200, .inl (av bt)))]) [0, 1, 2] rfl) (ci := 2) (q0 := 0) rfl rfl) (pre_of ext0 hK hP hD hS hA trivial [0, 1, 2] (by decide) rfl _) rfl hl.1 (Nat.le_of_ble_eq_true rfl) dX4_readClause_73 ⟨by decide, by decide⟩) hP hD hS hA [0, 1, 2] [] rfl rfl (by decide) (by decide) (fun r__ u__ H locs hw hP hD hS => ?_)
          subst hw
          have hP := hP.sub (ws' := [(h, .inr (2, [.ref sA, .int (iz size), .int (iz (if tkB bt len 59 a then ft else tkP bt len 59 a)), .ref bA, .int (iz len), .int (iz (tkP bt len 59 a)), .int hd])), (sA, .inl (G.2 0, 11, .inl (rv ss))), (bA, .inl (G.2 0, 200, .inl (av bt)))]) [0, 1, 2] rfl
          have hD := hD.sub (ws' := [(h, .inr (2, [.ref sA, .int (iz size), .int (iz (if tkB bt len 59 a then ft else tkP bt len 59 a)), .ref bA, .int (iz len), .int (iz (tkP bt len 59 a)), .int hd])), (sA, .inl (G.2 0, 11, .inl (rv ss))), (bA, .inl (G.2 0, 200, .inl (av bt)))]) [0, 1, 2] (by decide) rfl
          have ec : (cl bt len at_ f) = (tkB bt len 59 a, tkP bt len 59 a, ff) := by unfold cl; rw [hkx]; show (if _ then _ else _) = _; rw [hpl0]; rfl
          rw [eft] at hP hD
          exact fin_i (wf := (fun u : (Int → Int32) × Int32 × Int => match u with | (st2, heard2, at2) => [(h, .inr (2, [.ref sA, .int (iz size), .int (iz (if (cl bt len at_ f).1 then fault else (cl bt len at_ f).2.1)), .ref bA, .int (iz len), .int (iz at2), .int heard2])), (sA, .inl (G.2 0, 11, .inl (rv st2))), (bA, .inl (G.2 0, 200, .inl (av bt)))])) (ss, hd, tkP bt len 59 a) F (zb_nar _) (by (try dsimp only); rw [ec]; exact hP) (by (try dsimp only); rw [ec]; exact hD) hK hS (by decide) (by decide) dX4_readClause_76 (by exact ⟨by rw [ec], fun q => by rw [ec]; exact ⟨rfl, hs2⟩⟩)
        · skip
          have join_45 : ∀ (b : Int), (0 ≤ b ∧ b ≤ len) → ((part bt len b).1 = true → pl bt len (kF ki) ((kW ki - (i + 1)).toNat + 1) i a ff = pl bt len (kF ki) (kW ki - (i + 1)).toNat (i + 1) (part bt len b).2.1 (nar ff (kF ki + i) (part bt len b).2.2)) → ((part bt len b).1 = false → pl bt len (kF ki) ((kW ki - (i + 1)).toNat + 1) i a ff = (false, (part bt len b).2.1, ff)) → (i < kW ki) → ∀ (H : Heap) (locs : List Loc), va_P G.1 vwCl [(h, .inr (2, [.ref sA, .int (iz size), .int (iz ft), .ref bA, .int (iz len), .int (iz b), .int hd])), (sA, .inl (G.2 0, 11, .inl (rv ss))), (bA, .inl (G.2 0, 200, .inl (av bt)))] H → va_D A [(h, .inr (2, [.ref sA, .int (iz size), .int (iz ft), .ref bA, .int (iz len), .int (iz b), .int hd])), (sA, .inl (G.2 0, 11, .inl (rv ss))), (bA, .inl (G.2 0, 200, .inl (av bt)))] → va_S A s.heap H locs → ∀ ls : Array Slot, lv_has ls 4 [(0, .ref h), (1, .int (iz at_)), (2, .ref (kd ki)), (3, .int (iz i))] → W p l e ({ frames := 6, cells := 0, slots := 0, locals := 134 }) s m ([.ref h] : List Value).toArray below meth c H locs 0 0 (MQ below (va_Qi (fun (r : Int32) (u : (Int → Int32) × Int32 × Int) => match u with | (st2, heard2, at2) => (r = (zb ((cl bt len at_ f).1))) ∧ ((cl bt len at_ f).1 = true → at2 = (cl bt len at_ f).2.1 ∧ RSS st2 (cl bt len at_ f).2.2)) (fun u__ t__ => Pst G A ((fun u : (Int → Int32) × Int32 × Int => match u with | (st2, heard2, at2) => [(h, .inr (2, [.ref sA, .int (iz size), .int (iz (if (cl bt len at_ f).1 then fault else (cl bt len at_ f).2.1)), .ref bA, .int (iz len), .int (iz at2), .int heard2])), (sA, .inl (G.2 0, 11, .inl (rv st2))), (bA, .inl (G.2 0, 200, .inl (av bt)))]) u__) t__) A) ([.ref h] : List Value).toArray s 0 0 A) (F0 m 45 ls []) := by
            intro b hbb hpt hpf hik H locs hP hD hS ls hl
            refine lv_aload_n hX_ hB_ dX4_readClause_45 rfl (lv_at hl 0 rfl) ?_
            refine back_i (wr := []) (run_V (As := []) (rest := []) (wc := [(h, .inr (2, [.ref sA, .int (iz size), .int (iz ft), .ref bA, .int (iz len), .int (iz b), .int hd])), (sA, .inl (G.2 0, 11, .inl (rv ss))), (bA, .inl (G.2 0, 200, .inl (av bt)))]) F (c_X4_readPart l G h sA bA ss size ft len b hd bt (by omega) (by omega) _) ext0 gX4_readClause_X4_readPart rfl rfl rfl mdv_X4_readPart ⟨Nat.le_of_ble_eq_true rfl, Nat.le_of_ble_eq_true rfl⟩ (va_recv hK.1 (hP.sub (ws' := [(h, .inr (2, [.ref sA, .int (iz size), .int (iz ft), .ref bA, .int (iz len), .int (iz b), .int hd])), (sA, .inl (G.2 0, 11, .inl (rv ss))), (bA, .inl (G.2 0, 200, .inl (av bt)))]) [0, 1, 2] rfl) (ci := 2) (q0 := 0) rfl rfl) (pre_of ext0 hK hP hD hS hA trivial [0, 1, 2] (by decide) rfl _) rfl hl.1 (Nat.le_of_ble_eq_true rfl) dX4_readClause_46 ⟨by decide, by decide⟩) hP hD hS hA [0, 1, 2] [] rfl rfl (by decide) (by decide) (fun r__ u__ H locs hw hP hD hS => ?_)
            obtain ⟨hd2, a2⟩ := u__
            try dsimp only at hw hP hD
            obtain ⟨rfl, hw_46⟩ := hw
            have hP := hP.sub (ws' := [(h, .inr (2, [.ref sA, .int (iz size), .int (iz (if (part bt len b).1 then ft else (part bt len b).2.1)), .ref bA, .int (iz len), .int (iz a2), .int hd2])), (sA, .inl (G.2 0, 11, .inl (rv ss))), (bA, .inl (G.2 0, 200, .inl (av bt)))]) [0, 1, 2] rfl
            have hD := hD.sub (ws' := [(h, .inr (2, [.ref sA, .int (iz size), .int (iz (if (part bt len b).1 then ft else (part bt len b).2.1)), .ref bA, .int (iz len), .int (iz a2), .int hd2])), (sA, .inl (G.2 0, 11, .inl (rv ss))), (bA, .inl (G.2 0, 200, .inl (av bt)))]) [0, 1, 2] (by decide) rfl
            have hprn := part_rng (bt := bt) (a := b) (n := len) (by omega)
            refine zk_bif_ne (tgt := 54) hX_ hB_ dX4_readClause_49 (by decide) (fun c_49 => ?_) (fun c_49 => ?_)
            · skip
              have hpr := hw_46 c_49
              have hpp := hpt c_49
              have e_rep : (a2) = ((part bt len b).2.1) := hpr.1
              rw [e_rep] at hP hD
              have e_rep : (if (part bt len b).1 then ft else (part bt len b).2.1) = ft := by rw [c_49]; rfl
              rw [e_rep] at hP hD
              refine lv_aload_n hX_ hB_ dX4_readClause_54 rfl (lv_at hl 0 rfl) ?_
              refine lv_aload_n hX_ hB_ dX4_readClause_55 rfl (lv_at hl 2 rfl) ?_
              refine vk_getf (v := .int (iz (kF ki))) hX_ hB_ (hE.2.2.2 ki hki).2.1 hS hown (hts _ hw_X4_readClause_80c147) (fun _ h9 => h9) dX4_readClause_56 ?_
              refine lv_iload_n hX_ hB_ dX4_readClause_59 rfl (lv_at hl 3 rfl) ?_
              refine zk_iadd hX_ hB_ dX4_readClause_60 ?_
              refine back_v (wr := []) (run_V (As := [.int (iz ((kF ki) + i))]) (rest := []) (wc := [(h, .inr (2, [.ref sA, .int (iz size), .int (iz ft), .ref bA, .int (iz len), .int (iz ((part bt len b).2.1)), .int hd2])), (sA, .inl (G.2 0, 11, .inl (rv ss))), (bA, .inl (G.2 0, 200, .inl (av bt)))]) F (c_X4_narrow l G h sA bA ss size ft len ((part bt len b).2.1) hd2 bt ((kF ki) + i) (by omega) _) ext0 gX4_readClause_X4_narrow rfl rfl rfl mdv_X4_narrow ⟨Nat.le_of_ble_eq_true rfl, Nat.le_of_ble_eq_true rfl⟩ (va_recv hK.1 (hP.sub (ws' := [(h, .inr (2, [.ref sA, .int (iz size), .int (iz ft), .ref bA, .int (iz len), .int (iz ((part bt len b).2.1)), .int hd2])), (sA, .inl (G.2 0, 11, .inl (rv ss))), (bA, .inl (G.2 0, 200, .inl (av bt)))]) [0, 1, 2] rfl) (ci := 2) (q0 := 0) rfl rfl) (pre_of ext0 hK hP hD hS hA trivial [0, 1, 2] (by decide) rfl _) rfl hl.1 (Nat.le_of_ble_eq_true rfl) dX4_readClause_61 ⟨by decide, by decide⟩) hP hD hS hA [0, 1, 2] [] rfl rfl (by decide) (by decide) (fun u__ H locs hw hP hD hS => ?_)
              have hw_61 := hw
              have hP := hP.sub (ws' := [(h, .inr (2, [.ref sA, .int (iz size), .int (iz ft), .ref bA, .int (iz len), .int (iz ((part bt len b).2.1)), .int hd2])), (sA, .inl (G.2 0, 11, .inl (rv (if 0 ≤ ((kF ki) + i) ∧ ((kF ki) + i) < 11 then us ss ((kF ki) + i) (ss ((kF ki) + i) &&& hd2) else ss)))), (bA, .inl (G.2 0, 200, .inl (av bt)))]) [0, 1, 2] rfl
              have hD := hD.sub (ws' := [(h, .inr (2, [.ref sA, .int (iz size), .int (iz ft), .ref bA, .int (iz len), .int (iz ((part bt len b).2.1)), .int hd2])), (sA, .inl (G.2 0, 11, .inl (rv (if 0 ≤ ((kF ki) + i) ∧ ((kF ki) + i) < 11 then us ss ((kF ki) + i) (ss ((kF ki) + i) &&& hd2) else ss)))), (bA, .inl (G.2 0, 200, .inl (av bt)))]) [0, 1, 2] (by decide) rfl
              refine lv_iinc (v := (iz (i + 1))) (lv' := [(3, .int (iz (i + 1))), (0, .ref h), (1, .int (iz at_)), (2, .ref (kd ki))]) hX_ hB_ dX4_readClause_64 hl (k := 3) rfl (iz_add _ _) (by decide) rfl (fun ls hl => ?_)
              refine lv_goto (tgt := 22) hX_ hB_ dX4_readClause_67 (by decide) ?_
              exact ih_22 (i + 1) ((part bt len b).2.1) (if 0 ≤ ((kF ki) + i) ∧ ((kF ki) + i) < 11 then us ss ((kF ki) + i) (ss ((kF ki) + i) &&& hd2) else ss) hd2 ft (nar ff (kF ki + i) (part bt len b).2.2) (by omega) (by omega) (by rw [if_pos (by omega)]; exact RSS_nar hs2 hpr.2) (by exact eft) (by rw [hp, hkw (by omega)]; exact hpp) (by omega) _ _ hP hD hS ls (lv_sub hl [1, 2, 3, 0] rfl)
            · skip
              refine zk_iconst hX_ hB_ dX4_readClause_52 ?_
              have eq9 : (pl bt len (kF ki) (kW ki).toNat 0 (we bt len at_) f) = (false, (part bt len b).2.1, ff) := by rw [hp, hkw (by omega)]; exact hpf c_49
              have ec : (cl bt len at_ f) = (false, (part bt len b).2.1, ff) := by unfold cl; rw [hkx]; show (if _ then _ else _) = _; rw [eq9]; rfl
              rw [c_49] at hP hD
              refine zk_topi (y := zb false) rfl ?_
              exact fin_i (wf := (fun u : (Int → Int32) × Int32 × Int => match u with | (st2, heard2, at2) => [(h, .inr (2, [.ref sA, .int (iz size), .int (iz (if (cl bt len at_ f).1 then fault else (cl bt len at_ f).2.1)), .ref bA, .int (iz len), .int (iz at2), .int heard2])), (sA, .inl (G.2 0, 11, .inl (rv st2))), (bA, .inl (G.2 0, 200, .inl (av bt)))])) (ss, hd2, a2) F (zb_nar _) (by (try dsimp only); rw [ec]; exact hP) (by (try dsimp only); rw [ec]; exact hD) hK hS (by decide) (by decide) dX4_readClause_53 (by exact ⟨by rw [ec], fun q => by rw [ec] at q; cases q⟩)
          refine lv_iload_n hX_ hB_ dX4_readClause_30 rfl (lv_at hl 3 rfl) ?_
          refine zk_if_le (tgt := 45) hX_ hB_ (by omega) dX4_readClause_31 (by decide) (fun c_31 => ?_) (fun c_31 => ?_)
          · skip
            exact join_45 a (by omega) (by intro q; show (if _ then _ else _) = _; rw [if_neg (by omega), q]; rfl) (by intro q; show (if _ then _ else _) = _; rw [if_neg (by omega), q]; rfl) (by omega) _ _ hP hD hS ls (lv_sub hl [0, 1, 2, 3] rfl)
          · skip
            refine lv_aload_n hX_ hB_ dX4_readClause_34 rfl (lv_at hl 0 rfl) ?_
            refine zk_bipush hX_ hB_ (by decide) dX4_readClause_35 ?_
            refine back_i (wr := []) (run_V (As := [.int (iz 46)]) (rest := []) (wc := [(h, .inr (2, [.ref sA, .int (iz size), .int (iz ft), .ref bA, .int (iz len), .int (iz a), .int hd])), (sA, .inl (G.2 0, 11, .inl (rv ss))), (bA, .inl (G.2 0, 200, .inl (av bt)))]) F (c_X4_demand l G h sA bA ss size ft len a hd bt 46 (by omega) (by omega) (by omega) _) ext0 gX4_readClause_X4_demand rfl rfl rfl mdv_X4_demand ⟨Nat.le_of_ble_eq_true rfl, Nat.le_of_ble_eq_true rfl⟩ (va_recv hK.1 (hP.sub (ws' := [(h, .inr (2, [.ref sA, .int (iz size), .int (iz ft), .ref bA, .int (iz len), .int (iz a), .int hd])), (sA, .inl (G.2 0, 11, .inl (rv ss))), (bA, .inl (G.2 0, 200, .inl (av bt)))]) [0, 1, 2] rfl) (ci := 2) (q0 := 0) rfl rfl) (pre_of ext0 hK hP hD hS hA trivial [0, 1, 2] (by decide) rfl _) rfl hl.1 (Nat.le_of_ble_eq_true rfl) dX4_readClause_37 ⟨by decide, by decide⟩) hP hD hS hA [0, 1, 2] [] rfl rfl (by decide) (by decide) (fun r__ u__ H locs hw hP hD hS => ?_)
            subst hw
            have hP := hP.sub (ws' := [(h, .inr (2, [.ref sA, .int (iz size), .int (iz (if tkB bt len 46 a then ft else tkP bt len 46 a)), .ref bA, .int (iz len), .int (iz (tkP bt len 46 a)), .int hd])), (sA, .inl (G.2 0, 11, .inl (rv ss))), (bA, .inl (G.2 0, 200, .inl (av bt)))]) [0, 1, 2] rfl
            have hD := hD.sub (ws' := [(h, .inr (2, [.ref sA, .int (iz size), .int (iz (if tkB bt len 46 a then ft else tkP bt len 46 a)), .ref bA, .int (iz len), .int (iz (tkP bt len 46 a)), .int hd])), (sA, .inl (G.2 0, 11, .inl (rv ss))), (bA, .inl (G.2 0, 200, .inl (av bt)))]) [0, 1, 2] (by decide) rfl
            refine zk_bif_ne (tgt := 45) hX_ hB_ dX4_readClause_40 (by decide) (fun c_40 => ?_) (fun c_40 => ?_)
            · skip
              have e8 : (if tkB bt len 46 a then ft else tkP bt len 46 a) = ft := by rw [c_40]; rfl
              rw [e8] at hP hD
              have ht9 := tkP_rng (bt := bt) (c := 46) (a := a) (n := len) (by omega)
              exact join_45 (tkP bt len 46 a) (by omega) (by intro q; show (if _ then _ else _) = _; rw [if_pos (by omega), c_40, if_pos rfl, q]; rfl) (by intro q; show (if _ then _ else _) = _; rw [if_pos (by omega), c_40, if_pos rfl, q]; rfl) (by omega) _ _ hP hD hS ls (lv_sub hl [0, 1, 2, 3] rfl)
            · skip
              refine zk_iconst hX_ hB_ dX4_readClause_43 ?_
              have eq9 : (pl bt len (kF ki) (kW ki).toNat 0 (we bt len at_) f) = (false, tkP bt len 46 a, ff) := by rw [hp, hkw (by omega)]; show (if _ then _ else _) = _; rw [if_pos (by omega), c_40]; rfl
              have ec : (cl bt len at_ f) = (false, tkP bt len 46 a, ff) := by unfold cl; rw [hkx]; show (if _ then _ else _) = _; rw [eq9]; rfl
              rw [c_40] at hP hD
              refine zk_topi (y := zb false) rfl ?_
              exact fin_i (wf := (fun u : (Int → Int32) × Int32 × Int => match u with | (st2, heard2, at2) => [(h, .inr (2, [.ref sA, .int (iz size), .int (iz (if (cl bt len at_ f).1 then fault else (cl bt len at_ f).2.1)), .ref bA, .int (iz len), .int (iz at2), .int heard2])), (sA, .inl (G.2 0, 11, .inl (rv st2))), (bA, .inl (G.2 0, 200, .inl (av bt)))])) (ss, hd, tkP bt len 46 a) F (zb_nar _) (by (try dsimp only); rw [ec]; exact hP) (by (try dsimp only); rw [ec]; exact hD) hK hS (by decide) (by decide) dX4_readClause_44 (by exact ⟨by rw [ec], fun q => by rw [ec] at q; cases q⟩)
    exact loop_22 _ 0 (we bt len at_) st heard fault f (by omega) (by omega) (by exact hss) (by rfl) (by rw [Int.sub_zero]) (Nat.lt_succ_self _) _ _ hP hD hS ls (lv_sub hl [3, 2, 1, 0] rfl)

set_option maxHeartbeats 4000000 in
set_option maxRecDepth 100000 in
theorem c_J7_fill_53178 (l : Launch) (G : GG) (bA : Nat) (n : Nat) (g : Int → Int32) (v : Int32) (hn : n < 2147483648) : Cv l yJ7_fill_53178 wsJ7_fill_53178 ({ frames := 0, cells := 0, slots := 0, locals := 0 }) G E0 [.ref bA, .int v] [(bA, .inl (G.2 0, n, .inl (rv g)))] 0 0 (fun _ : Unit => [(bA, .inl (G.2 0, n, .inl (rv (fun _ => v))))]) (fun (_ : Unit) => True) := by
  refine Cv_intro (cc := cJ7_fill_53178) (maxL := 4) (ret := none) (by decide) rfl (Nat.le_of_ble_eq_true rfl) ?_
  intro p e s m below meth c A F hA hP hD hK hE ls hl
  have hX_ := F.1
  have hB_ := F.2.1
  have hts := F.2.2.2.2.2.1
  have hown := F.2.2.2.2.1
  have hml := F.2.2.2.1
  have hS : va_S A s.heap s.heap [] := va_S.rf
  have hl : lv_has ls 4 [(0, .ref bA), (1, .int v)] := hl
  refine zk_iconst hX_ hB_ dJ7_fill_53178_0 ?_
  refine lv_istore_n (lv' := [(2, .int (iz 0)), (0, .ref bA), (1, .int v)]) hX_ hB_ dJ7_fill_53178_1 rfl hl (by decide) rfl (fun ls hl => ?_)
  refine lv_aload_n hX_ hB_ dJ7_fill_53178_2 rfl (lv_at hl 1 rfl) ?_
  refine zk_alen hX_ hB_ hK.1 hP 0 0 ((n : Int)) rfl rfl rfl dJ7_fill_53178_3 ?_
  refine lv_istore_n (lv' := [(3, .int (iz (n : Int))), (2, .int (iz 0)), (0, .ref bA), (1, .int v)]) hX_ hB_ dJ7_fill_53178_4 rfl hl (by decide) rfl (fun ls hl => ?_)
  have loop_5 : ∀ (n_5 : Nat), ∀ (i : Int) (gg : Int → Int32), (0 ≤ i ∧ i ≤ n) → (∀ j : Int, 0 ≤ j → j < i → gg j = v) → ((n - i).toNat < n_5) → ∀ (H : Heap) (locs : List Loc), va_P G.1 vwCl [(bA, .inl (G.2 0, n, .inl (rv gg)))] H → va_D A [(bA, .inl (G.2 0, n, .inl (rv gg)))] → va_S A s.heap H locs → ∀ ls : Array Slot, lv_has ls 4 [(0, .ref bA), (1, .int v), (2, .int (iz i)), (3, .int (iz (n : Int)))] → W p l e ({ frames := 0, cells := 0, slots := 0, locals := 0 }) s m ([.ref bA, .int v] : List Value).toArray below meth c H locs 0 0 (MQ below (va_Qv (fun (_ : Unit) => True) (fun u__ t__ => Pst G A ((fun _ : Unit => [(bA, .inl (G.2 0, n, .inl (rv (fun _ => v))))]) u__) t__) A) ([.ref bA, .int v] : List Value).toArray s 0 0 A) (F0 m 5 ls []) := by
    intro n_5
    induction n_5 with
    | zero =>
      intro i gg hi hg hm H locs hP hD hS ls hl
      exact absurd hm (Nat.not_lt_zero _)
    | succ n_5 ih_5 =>
      intro i gg hi hg hm H locs hP hD hS ls hl
      refine lv_iload_n hX_ hB_ dJ7_fill_53178_5 rfl (lv_at hl 2 rfl) ?_
      refine lv_iload_n hX_ hB_ dJ7_fill_53178_6 rfl (lv_at hl 3 rfl) ?_
      refine zk_icmp_ge (tgt := 20) hX_ hB_ (by omega) (by omega) dJ7_fill_53178_7 (by decide) (fun c_7 => ?_) (fun c_7 => ?_)
      · skip
        have hP := cong_P (q := 0) (y := (n, .inl (rv (fun _ => v)))) hP hD rfl (cell_i (fun k h1 h2 => hg k h1 (by omega)))
        have hD := va_D.set (p := 0) (e := .inl (G.2 0, n, .inl (rv (fun _ => v)))) hD rfl
        have hP : va_P G.1 vwCl [(bA, .inl (G.2 0, n, .inl (rv (fun _ => v))))] _ := hP
        have hD : va_D A [(bA, .inl (G.2 0, n, .inl (rv (fun _ => v))))] := hD
        exact fin_v (wf := (fun _ : Unit => [(bA, .inl (G.2 0, n, .inl (rv (fun _ => v))))])) () F hP hD hK hS (by decide) (by decide) dJ7_fill_53178_20 trivial
      · skip
        refine lv_aload_n hX_ hB_ dJ7_fill_53178_10 rfl (lv_at hl 0 rfl) ?_
        refine lv_iload_n hX_ hB_ dJ7_fill_53178_11 rfl (lv_at hl 2 rfl) ?_
        refine lv_iload_n hX_ hB_ dJ7_fill_53178_12 rfl (lv_at hl 1 rfl) ?_
        refine zk_iastr hX_ hB_ hK.1 hP hD hS 0 0 rfl rfl (by omega) (by omega) dJ7_fill_53178_13 (fun H locs hP hD hS => ?_)
        have hP : va_P G.1 vwCl [(bA, .inl (G.2 0, n, .inl (rv (us gg i v))))] _ := hP
        have hD : va_D A [(bA, .inl (G.2 0, n, .inl (rv (us gg i v))))] := hD
        refine lv_iinc (v := (iz (i + 1))) (lv' := [(2, .int (iz (i + 1))), (0, .ref bA), (1, .int v), (3, .int (iz (n : Int)))]) hX_ hB_ dJ7_fill_53178_14 hl (k := 2) rfl (iz_add _ _) (by decide) rfl (fun ls hl => ?_)
        refine lv_goto (tgt := 5) hX_ hB_ dJ7_fill_53178_17 (by decide) ?_
        exact ih_5 (i + 1) (us gg i v) (by omega) (by intro j h1 h2; unfold us; by_cases q : j = i; rw [if_pos q]; rw [if_neg q]; exact hg j h1 (by omega)) (by omega) _ _ hP hD hS ls (lv_sub hl [1, 2, 0, 3] rfl)
  exact loop_5 _ 0 g (by omega) (by intro j h1 h2; omega) (Nat.lt_succ_self _) _ _ hP hD hS ls (lv_sub hl [2, 3, 1, 0] rfl)

theorem hw_X4_read_3c6918 : (.methodLink RX4 22 Lib.Math.min.name : Cond) ∈ wsX4_read := by decide +kernel
theorem hw_X4_read_79b26a : (.static Lib.Math.min.name : Cond) ∈ wsX4_read := by decide +kernel
theorem hw_X4_read_868a92 : (.initialized "java/lang/Math" : Cond) ∈ wsX4_read := by decide +kernel
theorem hw_X4_read_0fd793 : (.code Lib.Math.min.name Lib.Math.min.code 2 (some .int) : Cond) ∈ wsX4_read := by decide +kernel
theorem hw_X4_read_05143d : (.methodLink RX4 28 Lib.Math.max.name : Cond) ∈ wsX4_read := by decide +kernel
theorem hw_X4_read_80a2ec : (.static Lib.Math.max.name : Cond) ∈ wsX4_read := by decide +kernel
theorem hw_X4_read_b6349a : (.code Lib.Math.max.name Lib.Math.max.code 2 (some .int) : Cond) ∈ wsX4_read := by decide +kernel
theorem hw_X4_read_e883ac : (.fieldLink RX4 31 "StoneDates$Reader" "length" "I" : Cond) ∈ wsX4_read := by decide +kernel
theorem hi_X4_read_X4 : ∀ w ∈ u_ws RX4 TX4 7, w ∈ wsX4_read := by decide +kernel
theorem hw_X4_read_3794a9 : (.fieldLink RX4 34 "StoneDates$Reader" "at" "I" : Cond) ∈ wsX4_read := by decide +kernel
theorem hw_X4_read_a94271 : (.fieldLink RX4 9 "StoneDates$Reader" "sets" "[I" : Cond) ∈ wsX4_read := by decide +kernel
theorem mds_J7_fill_53178 : yJ7_fill_53178.cls ≠ "java/lang/invoke/MethodHandle" ∧ yJ7_fill_53178.cls ≠ "java/lang/invoke/VarHandle" ∧ (parseMethodDescriptor yJ7_fill_53178.desc).map (fun d => d.parameters.length) = some 2 := by decide +kernel
theorem mdv_X4_readClause : yX4_readClause.cls = RX4 ∧ yX4_readClause.cls ≠ "java/lang/invoke/MethodHandle" ∧ yX4_readClause.cls ≠ "java/lang/invoke/VarHandle" ∧ (parseMethodDescriptor yX4_readClause.desc).map (fun d => d.parameters.length) = some 0 := by decide +kernel
set_option maxHeartbeats 4000000 in
set_option maxRecDepth 100000 in
theorem c_X4_read (l : Launch) (G : GG) (h : Nat) (sA : Nat) (bA : Nat) (st : Int → Int32) (size : Int) (fault : Int) (len : Int) (at_ : Int) (heard : Int32) (bt : Int → Int) (fo : Option Nat) (kt : Nat) (kd : Nat → Nat) (sa : Nat → Nat) (va : Nat → Nat) (n : Int) (hn : 0 ≤ n ∧ n ≤ 200) (hB : ∀ k : Int, 0 ≤ bt k ∧ bt k ≤ 255) : Ci l yX4_read wsX4_read ({ frames := 7, cells := 0, slots := 0, locals := 157 }) G (EKind fo kt kd sa va) [.ref h, .int (iz n)] [(h, .inr (2, [.ref sA, .int (iz size), .int (iz fault), .ref bA, .int (iz len), .int (iz at_), .int heard])), (sA, .inl (G.2 0, 11, .inl (rv st))), (bA, .inl (G.2 0, 200, .inl (av bt)))] 0 0 (fun u : (Int → Int32) × Int32 × Int => match u with | (st2, heard2, at2) => [(h, .inr (2, [.ref sA, .int (iz size), .int (iz (if (rd bt n).1 then fault else (rd bt n).2.1)), .ref bA, .int (iz n), .int (iz at2), .int heard2])), (sA, .inl (G.2 0, 11, .inl (rv st2))), (bA, .inl (G.2 0, 200, .inl (av bt)))]) (fun (r : Int32) (u : (Int → Int32) × Int32 × Int) => match u with | (st2, heard2, at2) => (r = (zb ((rd bt n).1))) ∧ ((rd bt n).1 = true → RSS st2 (rd bt n).2.2)) := by
  refine Ci_intro (cc := cX4_read) (maxL := 3) (ret := (some .boolean)) (by decide) rfl (Nat.le_of_ble_eq_true rfl) ?_
  intro p e s m below meth c A F hA hP hD hK hE ls hl
  have hX_ := F.1
  have hB_ := F.2.1
  have hts := F.2.2.2.2.2.1
  have hown := F.2.2.2.2.1
  have hml := F.2.2.2.1
  have hS : va_S A s.heap s.heap [] := va_S.rf
  have hl : lv_has ls 3 [(0, .ref h), (1, .int (iz n))] := hl
  refine lv_aload_n hX_ hB_ dX4_read_0 rfl (lv_at hl 0 rfl) ?_
  refine zk_iconst hX_ hB_ dX4_read_1 ?_
  refine lv_iload_n hX_ hB_ dX4_read_2 rfl (lv_at hl 1 rfl) ?_
  refine zk_sipush hX_ hB_ (by decide) dX4_read_3 ?_
  refine zk_mmin hX_ hB_ (by rw [hml]; exact hl.1.symm) hown (hts _ hw_X4_read_3c6918) (hts _ hw_X4_read_79b26a) (hts _ hw_X4_read_868a92) (hts _ hw_X4_read_0fd793) (Nat.le_of_ble_eq_true rfl) (Nat.le_of_ble_eq_true rfl) (by decide) (by decide) (by omega) (by omega) dX4_read_6 ?_
  refine zk_topi (y := (iz n)) (congrArg iz (by unfold imin; split <;> omega)) ?_
  refine zk_mmax hX_ hB_ (by rw [hml]; exact hl.1.symm) hown (hts _ hw_X4_read_05143d) (hts _ hw_X4_read_80a2ec) (hts _ hw_X4_read_868a92) (hts _ hw_X4_read_b6349a) (Nat.le_of_ble_eq_true rfl) (Nat.le_of_ble_eq_true rfl) (by decide) (by decide) (by omega) (by omega) dX4_read_9 ?_
  refine zk_topi (y := (iz n)) (congrArg iz (by unfold imax; split <;> omega)) ?_
  refine va_put (D := G.1) (ci := 2) (v := .int (iz n)) (ty := .int) (C := RX4) (T := TX4) (N := 7) hX_ hB_ hts hi_X4_read_X4 tyX4 tyX4_ok nmX4 hown hK.1 hP hD hS 0 rfl rfl 4 (by decide) (hts _ hw_X4_read_e883ac) (fun _ h9 => h9) rfl (by decide +kernel) rfl rfl (Nat.le_of_ble_eq_true rfl) dX4_read_12 (fun H locs hP hD hS => ?_)
  have hP : va_P G.1 vwCl [(h, .inr (2, [.ref sA, .int (iz size), .int (iz fault), .ref bA, .int (iz n), .int (iz at_), .int heard])), (sA, .inl (G.2 0, 11, .inl (rv st))), (bA, .inl (G.2 0, 200, .inl (av bt)))] _ := hP
  have hD : va_D A [(h, .inr (2, [.ref sA, .int (iz size), .int (iz fault), .ref bA, .int (iz n), .int (iz at_), .int heard])), (sA, .inl (G.2 0, 11, .inl (rv st))), (bA, .inl (G.2 0, 200, .inl (av bt)))] := hD
  refine lv_aload_n hX_ hB_ dX4_read_15 rfl (lv_at hl 0 rfl) ?_
  refine zk_iconst hX_ hB_ dX4_read_16 ?_
  refine va_put (D := G.1) (ci := 2) (v := .int (iz 0)) (ty := .int) (C := RX4) (T := TX4) (N := 7) hX_ hB_ hts hi_X4_read_X4 tyX4 tyX4_ok nmX4 hown hK.1 hP hD hS 0 rfl rfl 5 (by decide) (hts _ hw_X4_read_3794a9) (fun _ h9 => h9) rfl (by decide +kernel) rfl rfl (Nat.le_of_ble_eq_true rfl) dX4_read_17 (fun H locs hP hD hS => ?_)
  have hP : va_P G.1 vwCl [(h, .inr (2, [.ref sA, .int (iz size), .int (iz fault), .ref bA, .int (iz n), .int (iz 0), .int heard])), (sA, .inl (G.2 0, 11, .inl (rv st))), (bA, .inl (G.2 0, 200, .inl (av bt)))] _ := hP
  have hD : va_D A [(h, .inr (2, [.ref sA, .int (iz size), .int (iz fault), .ref bA, .int (iz n), .int (iz 0), .int heard])), (sA, .inl (G.2 0, 11, .inl (rv st))), (bA, .inl (G.2 0, 200, .inl (av bt)))] := hD
  refine lv_aload_n hX_ hB_ dX4_read_20 rfl (lv_at hl 0 rfl) ?_
  refine va_get (D := G.1) (ci := 2) (v := .ref sA) (C := RX4) (T := TX4) (N := 7) hX_ hB_ hts hi_X4_read_X4 hown hK.1 hP 0 rfl rfl 0 (by decide) (hts _ hw_X4_read_a94271) (fun _ h9 => h9) rfl dX4_read_21 ?_
  refine zk_iconst hX_ hB_ dX4_read_24 ?_
  refine back_v (wr := [(h, .inr (2, [.ref sA, .int (iz size), .int (iz fault), .ref bA, .int (iz n), .int (iz 0), .int heard])), (bA, .inl (G.2 0, 200, .inl (av bt)))]) (run_S (As := [.ref sA, .int (iz (-1))]) (rest := []) (wc := [(sA, .inl (G.2 0, 11, .inl (rv st)))]) F (c_J7_fill_53178 l G sA 11 st (iz (-1)) (by omega) _) ext0 gX4_read_J7_fill_53178 rfl rfl rfl mds_J7_fill_53178 ⟨Nat.le_of_ble_eq_true rfl, Nat.le_of_ble_eq_true rfl⟩ (pre_of ext0 hK hP hD hS hA trivial [1] (by decide) rfl _) rfl hl.1 (Nat.le_of_ble_eq_true rfl) dX4_read_25 ⟨by decide, by decide⟩) hP hD hS hA [1] [0, 2] rfl rfl (by decide) (by decide) (fun u__ H locs hw hP hD hS => ?_)
  have hw_25 := hw
  have hP := hP.sub (ws' := [(h, .inr (2, [.ref sA, .int (iz size), .int (iz fault), .ref bA, .int (iz n), .int (iz 0), .int heard])), (sA, .inl (G.2 0, 11, .inl (rv (fun _ => (iz (-1)))))), (bA, .inl (G.2 0, 200, .inl (av bt)))]) [0, 2, 1] rfl
  have hD := hD.sub (ws' := [(h, .inr (2, [.ref sA, .int (iz size), .int (iz fault), .ref bA, .int (iz n), .int (iz 0), .int heard])), (sA, .inl (G.2 0, 11, .inl (rv (fun _ => (iz (-1)))))), (bA, .inl (G.2 0, 200, .inl (av bt)))]) [0, 2, 1] (by decide) rfl
  refine lv_aload_n hX_ hB_ dX4_read_28 rfl (lv_at hl 0 rfl) ?_
  refine back_v (wr := []) (run_V (As := []) (rest := []) (wc := [(h, .inr (2, [.ref sA, .int (iz size), .int (iz fault), .ref bA, .int (iz n), .int (iz 0), .int heard])), (sA, .inl (G.2 0, 11, .inl (rv (fun _ => (iz (-1)))))), (bA, .inl (G.2 0, 200, .inl (av bt)))]) F (c_X4_skipBlanks l G h sA bA (fun _ => (iz (-1))) size fault n 0 heard bt (by omega) (by omega) _) ext0 gX4_read_X4_skipBlanks rfl rfl rfl mdv_X4_skipBlanks ⟨Nat.le_of_ble_eq_true rfl, Nat.le_of_ble_eq_true rfl⟩ (va_recv hK.1 (hP.sub (ws' := [(h, .inr (2, [.ref sA, .int (iz size), .int (iz fault), .ref bA, .int (iz n), .int (iz 0), .int heard])), (sA, .inl (G.2 0, 11, .inl (rv (fun _ => (iz (-1)))))), (bA, .inl (G.2 0, 200, .inl (av bt)))]) [0, 1, 2] rfl) (ci := 2) (q0 := 0) rfl rfl) (pre_of ext0 hK hP hD hS hA trivial [0, 1, 2] (by decide) rfl _) rfl hl.1 (Nat.le_of_ble_eq_true rfl) dX4_read_29 ⟨by decide, by decide⟩) hP hD hS hA [0, 1, 2] [] rfl rfl (by decide) (by decide) (fun u__ H locs hw hP hD hS => ?_)
  have hw_29 := hw
  have hP := hP.sub (ws' := [(h, .inr (2, [.ref sA, .int (iz size), .int (iz fault), .ref bA, .int (iz n), .int (iz (sk bt n 0)), .int heard])), (sA, .inl (G.2 0, 11, .inl (rv (fun _ => (iz (-1)))))), (bA, .inl (G.2 0, 200, .inl (av bt)))]) [0, 1, 2] rfl
  have hD := hD.sub (ws' := [(h, .inr (2, [.ref sA, .int (iz size), .int (iz fault), .ref bA, .int (iz n), .int (iz (sk bt n 0)), .int heard])), (sA, .inl (G.2 0, 11, .inl (rv (fun _ => (iz (-1)))))), (bA, .inl (G.2 0, 200, .inl (av bt)))]) [0, 1, 2] (by decide) rfl
  have hsk := sk_rng (bt := bt) (a := 0) (n := n) (by omega)
  refine zk_iconst hX_ hB_ dX4_read_32 ?_
  refine lv_istore_n (lv' := [(2, .int (iz 0)), (0, .ref h), (1, .int (iz n))]) hX_ hB_ dX4_read_33 rfl hl (by decide) rfl (fun ls hl => ?_)
  have loop_34 : ∀ (n_34 : Nat), ∀ (i : Int) (a : Int) (ss : Int → Int32) (hd : Int32) (ft : Int) (ff : SS), (0 ≤ i ∧ i ≤ 12) → (0 ≤ a ∧ a ≤ n) → (RSS ss ff) → (ft = fault) → ((rd bt n) = tx bt n (12 - i).toNat a ff) → ((12 - i).toNat < n_34) → ∀ (H : Heap) (locs : List Loc), va_P G.1 vwCl [(h, .inr (2, [.ref sA, .int (iz size), .int (iz ft), .ref bA, .int (iz n), .int (iz a), .int hd])), (sA, .inl (G.2 0, 11, .inl (rv ss))), (bA, .inl (G.2 0, 200, .inl (av bt)))] H → va_D A [(h, .inr (2, [.ref sA, .int (iz size), .int (iz ft), .ref bA, .int (iz n), .int (iz a), .int hd])), (sA, .inl (G.2 0, 11, .inl (rv ss))), (bA, .inl (G.2 0, 200, .inl (av bt)))] → va_S A s.heap H locs → ∀ ls : Array Slot, lv_has ls 3 [(0, .ref h), (1, .int (iz n)), (2, .int (iz i))] → W p l e ({ frames := 7, cells := 0, slots := 0, locals := 157 }) s m ([.ref h, .int (iz n)] : List Value).toArray below meth c H locs 0 0 (MQ below (va_Qi (fun (r : Int32) (u : (Int → Int32) × Int32 × Int) => match u with | (st2, heard2, at2) => (r = (zb ((rd bt n).1))) ∧ ((rd bt n).1 = true → RSS st2 (rd bt n).2.2)) (fun u__ t__ => Pst G A ((fun u : (Int → Int32) × Int32 × Int => match u with | (st2, heard2, at2) => [(h, .inr (2, [.ref sA, .int (iz size), .int (iz (if (rd bt n).1 then fault else (rd bt n).2.1)), .ref bA, .int (iz n), .int (iz at2), .int heard2])), (sA, .inl (G.2 0, 11, .inl (rv st2))), (bA, .inl (G.2 0, 200, .inl (av bt)))]) u__) t__) A) ([.ref h, .int (iz n)] : List Value).toArray s 0 0 A) (F0 m 34 ls []) := by
    intro n_34
    induction n_34 with
    | zero =>
      intro i a ss hd ft ff hi hai hs2 eft hp hm H locs hP hD hS ls hl
      exact absurd hm (Nat.not_lt_zero _)
    | succ n_34 ih_34 =>
      intro i a ss hd ft ff hi hai hs2 eft hp hm H locs hP hD hS ls hl
      have hkw : i < 12 → (12 - i).toNat = (12 - (i + 1)).toNat + 1 := fun _ => by omega
      have join_70 : ((rd bt n) = (decide (n ≤ a), a, ff)) → ∀ (H : Heap) (locs : List Loc), va_P G.1 vwCl [(h, .inr (2, [.ref sA, .int (iz size), .int (iz ft), .ref bA, .int (iz n), .int (iz a), .int hd])), (sA, .inl (G.2 0, 11, .inl (rv ss))), (bA, .inl (G.2 0, 200, .inl (av bt)))] H → va_D A [(h, .inr (2, [.ref sA, .int (iz size), .int (iz ft), .ref bA, .int (iz n), .int (iz a), .int hd])), (sA, .inl (G.2 0, 11, .inl (rv ss))), (bA, .inl (G.2 0, 200, .inl (av bt)))] → va_S A s.heap H locs → ∀ ls : Array Slot, lv_has ls 3 [(0, .ref h), (1, .int (iz n)), (2, .int (iz i))] → W p l e ({ frames := 7, cells := 0, slots := 0, locals := 157 }) s m ([.ref h, .int (iz n)] : List Value).toArray below meth c H locs 0 0 (MQ below (va_Qi (fun (r : Int32) (u : (Int → Int32) × Int32 × Int) => match u with | (st2, heard2, at2) => (r = (zb ((rd bt n).1))) ∧ ((rd bt n).1 = true → RSS st2 (rd bt n).2.2)) (fun u__ t__ => Pst G A ((fun u : (Int → Int32) × Int32 × Int => match u with | (st2, heard2, at2) => [(h, .inr (2, [.ref sA, .int (iz size), .int (iz (if (rd bt n).1 then fault else (rd bt n).2.1)), .ref bA, .int (iz n), .int (iz at2), .int heard2])), (sA, .inl (G.2 0, 11, .inl (rv st2))), (bA, .inl (G.2 0, 200, .inl (av bt)))]) u__) t__) A) ([.ref h, .int (iz n)] : List Value).toArray s 0 0 A) (F0 m 70 ls []) := by
        intro  hrd H locs hP hD hS ls hl
        refine lv_aload_n hX_ hB_ dX4_read_70 rfl (lv_at hl 0 rfl) ?_
        refine va_get (D := G.1) (ci := 2) (v := .int (iz a)) (C := RX4) (T := TX4) (N := 7) hX_ hB_ hts hi_X4_read_X4 hown hK.1 hP 0 rfl rfl 5 (by decide) (hts _ hw_X4_read_3794a9) (fun _ h9 => h9) rfl dX4_read_71 ?_
        refine lv_aload_n hX_ hB_ dX4_read_74 rfl (lv_at hl 0 rfl) ?_
        refine va_get (D := G.1) (ci := 2) (v := .int (iz n)) (C := RX4) (T := TX4) (N := 7) hX_ hB_ hts hi_X4_read_X4 hown hK.1 hP 0 rfl rfl 4 (by decide) (hts _ hw_X4_read_e883ac) (fun _ h9 => h9) rfl dX4_read_75 ?_
        refine zk_icmp_ge (tgt := 92) hX_ hB_ (by omega) (by omega) dX4_read_78 (by decide) (fun c_78 => ?_) (fun c_78 => ?_)
        · skip
          refine zk_iconst hX_ hB_ dX4_read_92 ?_
          refine lv_goto (tgt := 97) hX_ hB_ dX4_read_93 (by decide) ?_
          have e7 : decide (n ≤ a) = true := decide_eq_true c_78
          rw [eft] at hP hD
          refine zk_topi (y := zb true) rfl ?_
          exact fin_i (wf := (fun u : (Int → Int32) × Int32 × Int => match u with | (st2, heard2, at2) => [(h, .inr (2, [.ref sA, .int (iz size), .int (iz (if (rd bt n).1 then fault else (rd bt n).2.1)), .ref bA, .int (iz n), .int (iz at2), .int heard2])), (sA, .inl (G.2 0, 11, .inl (rv st2))), (bA, .inl (G.2 0, 200, .inl (av bt)))])) (ss, hd, a) F (zb_nar _) (by (try dsimp only); rw [hrd, e7]; exact hP) (by (try dsimp only); rw [hrd, e7]; exact hD) hK hS (by decide) (by decide) dX4_read_97 (by exact ⟨by rw [hrd, e7], fun _ => by rw [hrd]; exact hs2⟩)
        · skip
          refine lv_aload_n hX_ hB_ dX4_read_81 rfl (lv_at hl 0 rfl) ?_
          refine lv_aload_n hX_ hB_ dX4_read_82 rfl (lv_at hl 0 rfl) ?_
          refine va_get (D := G.1) (ci := 2) (v := .int (iz a)) (C := RX4) (T := TX4) (N := 7) hX_ hB_ hts hi_X4_read_X4 hown hK.1 hP 0 rfl rfl 5 (by decide) (hts _ hw_X4_read_3794a9) (fun _ h9 => h9) rfl dX4_read_83 ?_
          refine back_i (wr := []) (run_V (As := [.int (iz a)]) (rest := []) (wc := [(h, .inr (2, [.ref sA, .int (iz size), .int (iz ft), .ref bA, .int (iz n), .int (iz a), .int hd])), (sA, .inl (G.2 0, 11, .inl (rv ss))), (bA, .inl (G.2 0, 200, .inl (av bt)))]) F (c_X4_refuse l G h sA bA ss size ft n a hd bt a _) ext0 gX4_read_X4_refuse rfl rfl rfl mdv_X4_refuse ⟨Nat.le_of_ble_eq_true rfl, Nat.le_of_ble_eq_true rfl⟩ (va_recv hK.1 (hP.sub (ws' := [(h, .inr (2, [.ref sA, .int (iz size), .int (iz ft), .ref bA, .int (iz n), .int (iz a), .int hd])), (sA, .inl (G.2 0, 11, .inl (rv ss))), (bA, .inl (G.2 0, 200, .inl (av bt)))]) [0, 1, 2] rfl) (ci := 2) (q0 := 0) rfl rfl) (pre_of ext0 hK hP hD hS hA trivial [0, 1, 2] (by decide) rfl _) rfl hl.1 (Nat.le_of_ble_eq_true rfl) dX4_read_86 ⟨by decide, by decide⟩) hP hD hS hA [0, 1, 2] [] rfl rfl (by decide) (by decide) (fun r__ u__ H locs hw hP hD hS => ?_)
          subst hw
          have hP := hP.sub (ws' := [(h, .inr (2, [.ref sA, .int (iz size), .int (iz a), .ref bA, .int (iz n), .int (iz a), .int hd])), (sA, .inl (G.2 0, 11, .inl (rv ss))), (bA, .inl (G.2 0, 200, .inl (av bt)))]) [0, 1, 2] rfl
          have hD := hD.sub (ws' := [(h, .inr (2, [.ref sA, .int (iz size), .int (iz a), .ref bA, .int (iz n), .int (iz a), .int hd])), (sA, .inl (G.2 0, 11, .inl (rv ss))), (bA, .inl (G.2 0, 200, .inl (av bt)))]) [0, 1, 2] (by decide) rfl
          refine zk_bif_eq (tgt := 96) hX_ hB_ dX4_read_89 (by decide) (fun c_89 => ?_) (fun c_89 => absurd c_89 (by decide))
          refine zk_iconst hX_ hB_ dX4_read_96 ?_
          have e7 : decide (n ≤ a) = false := decide_eq_false (by omega)
          refine zk_topi (y := zb false) rfl ?_
          exact fin_i (wf := (fun u : (Int → Int32) × Int32 × Int => match u with | (st2, heard2, at2) => [(h, .inr (2, [.ref sA, .int (iz size), .int (iz (if (rd bt n).1 then fault else (rd bt n).2.1)), .ref bA, .int (iz n), .int (iz at2), .int heard2])), (sA, .inl (G.2 0, 11, .inl (rv st2))), (bA, .inl (G.2 0, 200, .inl (av bt)))])) (ss, hd, a) F (zb_nar _) (by (try dsimp only); rw [hrd, e7]; exact hP) (by (try dsimp only); rw [hrd, e7]; exact hD) hK hS (by decide) (by decide) dX4_read_97 (by exact ⟨by rw [hrd, e7], fun q => by rw [hrd, e7] at q; cases q⟩)
      refine lv_iload_n hX_ hB_ dX4_read_34 rfl (lv_at hl 2 rfl) ?_
      refine zk_bipush hX_ hB_ (by decide) dX4_read_35 ?_
      refine zk_icmp_ge (tgt := 70) hX_ hB_ (by omega) (by omega) dX4_read_37 (by decide) (fun c_37 => ?_) (fun c_37 => ?_)
      · skip
        exact join_70  (by rw [hp, show (12 - i).toNat = 0 from by omega]; rfl) _ _ hP hD hS ls (lv_sub hl [0, 1, 2] rfl)
      · skip
        refine lv_aload_n hX_ hB_ dX4_read_40 rfl (lv_at hl 0 rfl) ?_
        refine va_get (D := G.1) (ci := 2) (v := .int (iz a)) (C := RX4) (T := TX4) (N := 7) hX_ hB_ hts hi_X4_read_X4 hown hK.1 hP 0 rfl rfl 5 (by decide) (hts _ hw_X4_read_3794a9) (fun _ h9 => h9) rfl dX4_read_41 ?_
        refine lv_aload_n hX_ hB_ dX4_read_44 rfl (lv_at hl 0 rfl) ?_
        refine va_get (D := G.1) (ci := 2) (v := .int (iz n)) (C := RX4) (T := TX4) (N := 7) hX_ hB_ hts hi_X4_read_X4 hown hK.1 hP 0 rfl rfl 4 (by decide) (hts _ hw_X4_read_e883ac) (fun _ h9 => h9) rfl dX4_read_45 ?_
        refine zk_icmp_ge (tgt := 70) hX_ hB_ (by omega) (by omega) dX4_read_48 (by decide) (fun c_48 => ?_) (fun c_48 => ?_)
        · skip
          exact join_70  (by rw [hp]; rcases Int.lt_or_le i 12 with q | q; (rw [hkw q]; show (if _ then _ else _) = _; rw [if_neg (by omega), decide_eq_true c_48]); (rw [show (12 - i).toNat = 0 from by omega]; rfl)) _ _ hP hD hS ls (lv_sub hl [0, 1, 2] rfl)
        · skip
          refine lv_aload_n hX_ hB_ dX4_read_51 rfl (lv_at hl 0 rfl) ?_
          refine back_i (wr := []) (run_V (As := []) (rest := []) (wc := [(h, .inr (2, [.ref sA, .int (iz size), .int (iz ft), .ref bA, .int (iz n), .int (iz a), .int hd])), (sA, .inl (G.2 0, 11, .inl (rv ss))), (bA, .inl (G.2 0, 200, .inl (av bt)))]) F (c_X4_readClause l G h sA bA ss size ft n a hd bt fo kt kd sa va ff (by omega) (by omega) (by exact hs2) _) (ekind_ext fo kt kd sa va) gX4_read_X4_readClause rfl rfl rfl mdv_X4_readClause ⟨Nat.le_of_ble_eq_true rfl, Nat.le_of_ble_eq_true rfl⟩ (va_recv hK.1 (hP.sub (ws' := [(h, .inr (2, [.ref sA, .int (iz size), .int (iz ft), .ref bA, .int (iz n), .int (iz a), .int hd])), (sA, .inl (G.2 0, 11, .inl (rv ss))), (bA, .inl (G.2 0, 200, .inl (av bt)))]) [0, 1, 2] rfl) (ci := 2) (q0 := 0) rfl rfl) (pre_of (ekind_ext fo kt kd sa va) hK hP hD hS hA hE [0, 1, 2] (by decide) rfl _) rfl hl.1 (Nat.le_of_ble_eq_true rfl) dX4_read_52 ⟨by decide, by decide⟩) hP hD hS hA [0, 1, 2] [] rfl rfl (by decide) (by decide) (fun r__ u__ H locs hw hP hD hS => ?_)
          obtain ⟨ss2, hd2, a2⟩ := u__
          try dsimp only at hw hP hD
          obtain ⟨rfl, hw_52⟩ := hw
          have hP := hP.sub (ws' := [(h, .inr (2, [.ref sA, .int (iz size), .int (iz (if (cl bt n a ff).1 then ft else (cl bt n a ff).2.1)), .ref bA, .int (iz n), .int (iz a2), .int hd2])), (sA, .inl (G.2 0, 11, .inl (rv ss2))), (bA, .inl (G.2 0, 200, .inl (av bt)))]) [0, 1, 2] rfl
          have hD := hD.sub (ws' := [(h, .inr (2, [.ref sA, .int (iz size), .int (iz (if (cl bt n a ff).1 then ft else (cl bt n a ff).2.1)), .ref bA, .int (iz n), .int (iz a2), .int hd2])), (sA, .inl (G.2 0, 11, .inl (rv ss2))), (bA, .inl (G.2 0, 200, .inl (av bt)))]) [0, 1, 2] (by decide) rfl
          have hcr := cl_rng (bt := bt) (a := a) (n := n) (f := ff) (by omega)
          refine zk_bif_ne (tgt := 60) hX_ hB_ dX4_read_55 (by decide) (fun c_55 => ?_) (fun c_55 => ?_)
          · skip
            have e_rep : (a2) = ((cl bt n a ff).2.1) := (hw_52 c_55).1
            rw [e_rep] at hP hD
            have e_rep : (if (cl bt n a ff).1 then ft else (cl bt n a ff).2.1) = ft := by rw [c_55]; rfl
            rw [e_rep] at hP hD
            refine lv_aload_n hX_ hB_ dX4_read_60 rfl (lv_at hl 0 rfl) ?_
            refine back_v (wr := []) (run_V (As := []) (rest := []) (wc := [(h, .inr (2, [.ref sA, .int (iz size), .int (iz ft), .ref bA, .int (iz n), .int (iz ((cl bt n a ff).2.1)), .int hd2])), (sA, .inl (G.2 0, 11, .inl (rv ss2))), (bA, .inl (G.2 0, 200, .inl (av bt)))]) F (c_X4_skipBlanks l G h sA bA ss2 size ft n ((cl bt n a ff).2.1) hd2 bt (by omega) (by omega) _) ext0 gX4_read_X4_skipBlanks rfl rfl rfl mdv_X4_skipBlanks ⟨Nat.le_of_ble_eq_true rfl, Nat.le_of_ble_eq_true rfl⟩ (va_recv hK.1 (hP.sub (ws' := [(h, .inr (2, [.ref sA, .int (iz size), .int (iz ft), .ref bA, .int (iz n), .int (iz ((cl bt n a ff).2.1)), .int hd2])), (sA, .inl (G.2 0, 11, .inl (rv ss2))), (bA, .inl (G.2 0, 200, .inl (av bt)))]) [0, 1, 2] rfl) (ci := 2) (q0 := 0) rfl rfl) (pre_of ext0 hK hP hD hS hA trivial [0, 1, 2] (by decide) rfl _) rfl hl.1 (Nat.le_of_ble_eq_true rfl) dX4_read_61 ⟨by decide, by decide⟩) hP hD hS hA [0, 1, 2] [] rfl rfl (by decide) (by decide) (fun u__ H locs hw hP hD hS => ?_)
            have hw_61 := hw
            have hP := hP.sub (ws' := [(h, .inr (2, [.ref sA, .int (iz size), .int (iz ft), .ref bA, .int (iz n), .int (iz (sk bt n ((cl bt n a ff).2.1))), .int hd2])), (sA, .inl (G.2 0, 11, .inl (rv ss2))), (bA, .inl (G.2 0, 200, .inl (av bt)))]) [0, 1, 2] rfl
            have hD := hD.sub (ws' := [(h, .inr (2, [.ref sA, .int (iz size), .int (iz ft), .ref bA, .int (iz n), .int (iz (sk bt n ((cl bt n a ff).2.1))), .int hd2])), (sA, .inl (G.2 0, 11, .inl (rv ss2))), (bA, .inl (G.2 0, 200, .inl (av bt)))]) [0, 1, 2] (by decide) rfl
            refine lv_iinc (v := (iz (i + 1))) (lv' := [(2, .int (iz (i + 1))), (0, .ref h), (1, .int (iz n))]) hX_ hB_ dX4_read_64 hl (k := 2) rfl (iz_add _ _) (by decide) rfl (fun ls hl => ?_)
            refine lv_goto (tgt := 34) hX_ hB_ dX4_read_67 (by decide) ?_
            have hsk2 := sk_rng (bt := bt) (a := (cl bt n a ff).2.1) (n := n) (by omega)
            exact ih_34 (i + 1) (sk bt n ((cl bt n a ff).2.1)) ss2 hd2 ft ((cl bt n a ff).2.2) (by omega) (by omega) (by exact (hw_52 c_55).2) (by exact eft) (by rw [hp, hkw (by omega)]; show (if _ then _ else _) = _; rw [if_pos c_48, c_55]; rfl) (by omega) _ _ hP hD hS ls (lv_sub hl [1, 2, 0] rfl)
          · skip
            refine zk_iconst hX_ hB_ dX4_read_58 ?_
            have er : (rd bt n) = (false, (cl bt n a ff).2.1, ff) := by rw [hp, hkw (by omega)]; show (if _ then _ else _) = _; rw [if_pos c_48, c_55]; rfl
            rw [c_55, eft] at hP hD
            refine zk_topi (y := zb false) rfl ?_
            exact fin_i (wf := (fun u : (Int → Int32) × Int32 × Int => match u with | (st2, heard2, at2) => [(h, .inr (2, [.ref sA, .int (iz size), .int (iz (if (rd bt n).1 then fault else (rd bt n).2.1)), .ref bA, .int (iz n), .int (iz at2), .int heard2])), (sA, .inl (G.2 0, 11, .inl (rv st2))), (bA, .inl (G.2 0, 200, .inl (av bt)))])) (ss2, hd2, a2) F (zb_nar _) (by (try dsimp only); rw [er]; exact hP) (by (try dsimp only); rw [er]; exact hD) hK hS (by decide) (by decide) dX4_read_59 (by exact ⟨by rw [er], fun q => by rw [er] at q; cases q⟩)
  exact loop_34 _ 0 (sk bt n 0) (fun _ => (iz (-1))) heard fault (fun _ _ => true) (by omega) (by omega) (by intro k h1 h2 v h3 h4; exact hold_any (by omega)) (by rfl) (by rfl) (Nat.lt_succ_self _) _ _ hP hD hS ls (lv_sub hl [1, 2, 0] rfl)
