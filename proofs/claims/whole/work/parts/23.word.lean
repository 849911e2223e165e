/-- the words, their first signs, how many signs each tells of -/
def wb (i : Nat) : List Int := [[108, 111, 110, 103], [110, 117, 109, 98, 101, 114], [110, 97, 109, 101], [115, 101, 97, 116], [109, 111, 110, 116, 104], [108, 111, 114, 100], [109, 111, 111, 110]].getD i []
def kF (i : Nat) : Int := [0, 5, 6, 7, 8, 9, 10].getD i 0
def kW (i : Nat) : Int := [5, 1, 1, 1, 1, 1, 1].getD i 0
theorem wb_ok : ∀ i : Nat, i < 7 → (wb i).length < 1000 ∧ ∀ k : Nat, 0 ≤ (wb i).getD k 0 ∧ (wb i).getD k 0 < 256 := by
  have h : ∀ i : Nat, i < 7 → (wb i).length < 7 ∧ ∀ k : Nat, k < 7 → 0 ≤ (wb i).getD k 0 ∧ (wb i).getD k 0 < 256 := by decide
  intro i hi
  refine ⟨by have := (h i hi).1; omega, fun k => ?_⟩
  by_cases hk : k < 7
  · exact (h i hi).2 k hk
  · have h1 : (wb i).getD k 0 = 0 := by
      have := (h i hi).1
      simp [List.getD, List.getElem?_eq_none (show (wb i).length ≤ k by omega)]
    rw [h1]
    omega
theorem kW_rng : ∀ i : Nat, i < 7 → 1 ≤ kW i ∧ kW i ≤ 5 ∧ 0 ≤ kF i ∧ kF i + kW i ≤ 11 := by decide
def eqU (bt : Int → Int) (bs : List Int) (a : Int) : Nat → Bool
  | 0 => true
  | k + 1 => eqU bt bs a k && decide (bs.getD k 0 = bt (a + k))
theorem eqU_no {bt : Int → Int} {bs : List Int} {a : Int} {n : Nat} : ∀ {m : Nat}, n ≤ m → eqU bt bs a n = false → eqU bt bs a m = false
  | 0, h, e => by
    have : n = 0 := by omega
    subst this
    exact e
  | m + 1, h, e => by
    by_cases q : n = m + 1
    · subst q
      exact e
    · unfold eqU
      rw [eqU_no (m := m) (by omega) e]
      rfl
theorem eqU_z {bt : Int → Int} {bs : List Int} {a i : Int} (h : 0 ≤ i) : eqU bt bs a (i + 1).toNat = (eqU bt bs a i.toNat && decide (bs.getD i.toNat 0 = bt (a + i))) := by
  rw [show (i + 1).toNat = i.toNat + 1 from by omega]
  show (eqU bt bs a i.toNat && decide (bs.getD i.toNat 0 = bt (a + (i.toNat : Int)))) = _
  rw [Int.toNat_of_nonneg h]
def wq (bt : Int → Int) (bs : List Int) (a z : Int) : Bool := decide ((bs.length : Int) = z - a) && eqU bt bs a bs.length
/-- where the small letters end -/
def weF (bt : Int → Int) (n : Int) : Nat → Int → Int
  | 0, a => a
  | k + 1, a => if a < n ∧ 97 ≤ bt a ∧ bt a ≤ 122 then weF bt n k (a + 1) else a
def we (bt : Int → Int) (n a : Int) : Int := weF bt n (n - a).toNat a
theorem we_stop {bt : Int → Int} {n a : Int} (h : ¬ (a < n ∧ 97 ≤ bt a ∧ bt a ≤ 122)) : we bt n a = a := by
  unfold we
  cases (n - a).toNat with
  | zero => rfl
  | succ k => unfold weF; rw [if_neg h]
theorem we_step {bt : Int → Int} {n a : Int} (h : a < n ∧ 97 ≤ bt a ∧ bt a ≤ 122) : we bt n a = we bt n (a + 1) := by
  unfold we
  rw [show (n - a).toNat = (n - (a + 1)).toNat + 1 from by omega]
  show (if a < n ∧ 97 ≤ bt a ∧ bt a ≤ 122 then _ else _) = _
  rw [if_pos h]
theorem weF_rng {bt : Int → Int} {n : Int} : ∀ (k : Nat) (a : Int), a ≤ n → a ≤ weF bt n k a ∧ weF bt n k a ≤ n
  | 0, a, h => ⟨Int.le_refl _, h⟩
  | k + 1, a, h => by
    unfold weF
    by_cases q : a < n ∧ 97 ≤ bt a ∧ bt a ≤ 122
    · rw [if_pos q]
      have := weF_rng (bt := bt) (n := n) k (a + 1) (by omega)
      omega
    · rw [if_neg q]
      omega
theorem we_rng {bt : Int → Int} {n a : Int} (h : a ≤ n) : a ≤ we bt n a ∧ we bt n a ≤ n := weF_rng _ a h
/-- the first of the words from the i-th on that stands there -/
def kxF (bt : Int → Int) (n a : Int) : Nat → Nat → Option Nat
  | 0, _ => none
  | k + 1, i => if wq bt (wb i) a (we bt n a) then some i else kxF bt n a k (i + 1)
def kix (bt : Int → Int) (n a : Int) : Option Nat := kxF bt n a 7 0
theorem kxF_lt {bt : Int → Int} {n a : Int} : ∀ (k i j : Nat), kxF bt n a k i = some j → j < i + k
  | 0, i, j, h => by cases h
  | k + 1, i, j, h => by
    unfold kxF at h
    split at h
    · cases h; omega
    · have := kxF_lt k (i + 1) j h
      omega
theorem kix_lt {bt : Int → Int} {n a : Int} {j : Nat} (h : kix bt n a = some j) : j < 7 := by
  have := kxF_lt 7 0 j h
  omega
def KindAt (kt : Nat) (kd sa va : Nat → Nat) : EE := fun A U H => va_Z "StoneDates$Reader" "KINDS" "[LStoneDates$Kind;" (.ref kt) A U H ∧ va_T (.object "StoneDates$Kind") kt 7 (fun j => .ref (kd j)) A U H ∧ ∀ i : Nat, i < 7 → va_OF "StoneDates$Kind" "word" "Ljava/lang/String;" (.ref (sa i)) (kd i) A U H ∧ va_OF "StoneDates$Kind" "first" "I" (.int (iz (kF i))) (kd i) A U H ∧ va_OF "StoneDates$Kind" "width" "I" (.int (iz (kW i))) (kd i) A U H ∧ StrAt (sa i) (va i) (wb i) A U H
theorem kindAt_ext (kt : Nat) (kd sa va : Nat → Nat) : Ext (KindAt kt kd sa va) :=
  ⟨fun A u U H hv h => ⟨va_Z.moved hv.alike h.1, va_T.moved hv.alike h.2.1, fun i hi => ⟨va_OF.moved hv.alike (h.2.2 i hi).1, va_OF.moved hv.alike (h.2.2 i hi).2.1, va_OF.moved hv.alike (h.2.2 i hi).2.2.1, (strAt_ext _ _ _).1 A u U H hv (h.2.2 i hi).2.2.2⟩⟩,
   fun A U H H1 hq h => ⟨h.1.kept hq, h.2.1.kept hq, fun i hi => ⟨(h.2.2 i hi).1.kept hq, (h.2.2 i hi).2.1.kept hq, (h.2.2 i hi).2.2.1.kept hq, (strAt_ext _ _ _).2.1 A U H H1 hq (h.2.2 i hi).2.2.2⟩⟩,
   fun A B U H hq h => ⟨h.1.narrow hq, h.2.1.narrow hq, fun i hi => ⟨(h.2.2 i hi).1.narrow hq, (h.2.2 i hi).2.1.narrow hq, (h.2.2 i hi).2.2.1.narrow hq, (strAt_ext _ _ _).2.2 A B U H hq (h.2.2 i hi).2.2.2⟩⟩⟩
abbrev EKind (fo : Option Nat) (kt : Nat) (kd sa va : Nat → Nat) : EE := And2 (StrVm fo) (KindAt kt kd sa va)
theorem ekind_ext (fo : Option Nat) (kt : Nat) (kd sa va : Nat → Nat) : Ext (EKind fo kt kd sa va) := and2_ext (strVm_ext fo) (kindAt_ext kt kd sa va)

theorem mdv_J0_length_8abf5 : yJ0_length_8abf5.cls = RJ0 ∧ yJ0_length_8abf5.cls ≠ "java/lang/invoke/MethodHandle" ∧ yJ0_length_8abf5.cls ≠ "java/lang/invoke/VarHandle" ∧ (parseMethodDescriptor yJ0_length_8abf5.desc).map (fun d => d.parameters.length) = some 0 := by decide +kernel
theorem mdv_J0_charAt_5068e : yJ0_charAt_5068e.cls = RJ0 ∧ yJ0_charAt_5068e.cls ≠ "java/lang/invoke/MethodHandle" ∧ yJ0_charAt_5068e.cls ≠ "java/lang/invoke/VarHandle" ∧ (parseMethodDescriptor yJ0_charAt_5068e.desc).map (fun d => d.parameters.length) = some 1 := by decide +kernel
theorem hw_X4_isWord_932782 : (.fieldLink RX4 15 "StoneDates$Reader" "bytes" "[I" : Cond) ∈ wsX4_isWord := by decide +kernel
theorem hi_X4_isWord_X4 : ∀ w ∈ u_ws RX4 TX4 7, w ∈ wsX4_isWord := by decide +kernel
set_option maxHeartbeats 4000000 in
set_option maxRecDepth 100000 in
theorem c_X4_isWord (l : Launch) (G : GG) (h : Nat) (sA : Nat) (bA : Nat) (st : Int → Int32) (size : Int) (fault : Int) (len : Int) (at_ : Int) (heard : Int32) (bt : Int → Int) (fo : Option Nat) (a : Nat) (v : Nat) (bs : List Int) (fr : Int) (tt : Int) (hB : ∀ k : Int, 0 ≤ bt k ∧ bt k ≤ 255) (hft : 0 ≤ fr ∧ fr ≤ tt ∧ tt ≤ 200) (hbl : bs.length < 1000) (hbs : ∀ k : Nat, 0 ≤ bs.getD k 0 ∧ bs.getD k 0 < 256) : Ci l yX4_isWord wsX4_isWord ({ frames := 4, cells := 0, slots := 0, locals := 85 }) G (EStr fo a v bs) [.ref h, .ref a, .int (iz fr), .int (iz tt)] [(h, .inr (2, [.ref sA, .int (iz size), .int (iz fault), .ref bA, .int (iz len), .int (iz at_), .int heard])), (sA, .inl (G.2 0, 11, .inl (rv st))), (bA, .inl (G.2 0, 200, .inl (av bt)))] 0 0 (fun _ : Unit => [(h, .inr (2, [.ref sA, .int (iz size), .int (iz fault), .ref bA, .int (iz len), .int (iz at_), .int heard])), (sA, .inl (G.2 0, 11, .inl (rv st))), (bA, .inl (G.2 0, 200, .inl (av bt)))]) (fun (r : Int32) (_ : Unit) => r = (zb (wq bt bs fr tt))) := by
  refine Ci_intro (cc := cX4_isWord) (maxL := 5) (ret := (some .boolean)) (by decide) rfl (Nat.le_of_ble_eq_true rfl) ?_
  intro p e s m below meth c A F hA hP hD hK hE ls hl
  have hX_ := F.1
  have hB_ := F.2.1
  have hts := F.2.2.2.2.2.1
  have hown := F.2.2.2.2.1
  have hml := F.2.2.2.1
  have hS : va_S A s.heap s.heap [] := va_S.rf
  have hl : lv_has ls 5 [(0, .ref h), (1, .ref a), (2, .int (iz fr)), (3, .int (iz tt))] := hl
  refine lv_aload_n hX_ hB_ dX4_isWord_0 rfl (lv_at hl 1 rfl) ?_
  refine back_i (wr := [(h, .inr (2, [.ref sA, .int (iz size), .int (iz fault), .ref bA, .int (iz len), .int (iz at_), .int heard])), (sA, .inl (G.2 0, 11, .inl (rv st))), (bA, .inl (G.2 0, 200, .inl (av bt)))]) (run_V (As := []) (rest := []) (wc := []) F (c_J0_length_8abf5 l G fo a v bs (by omega) _) (estr_ext fo a v bs) gX4_isWord_J0_length_8abf5 rfl rfl rfl mdv_J0_length_8abf5 ⟨Nat.le_of_ble_eq_true rfl, Nat.le_of_ble_eq_true rfl⟩ (va_Orecv hE.2.1 hS) (pre_of (estr_ext fo a v bs) hK hP hD hS hA hE [] (by decide) rfl _) rfl hl.1 (Nat.le_of_ble_eq_true rfl) dX4_isWord_1 ⟨by decide, by decide⟩) hP hD hS hA [] [0, 1, 2] rfl rfl (by decide) (by decide) (fun r__ u__ H locs hw hP hD hS => ?_)
  subst hw
  have hP := hP.sub (ws' := [(h, .inr (2, [.ref sA, .int (iz size), .int (iz fault), .ref bA, .int (iz len), .int (iz at_), .int heard])), (sA, .inl (G.2 0, 11, .inl (rv st))), (bA, .inl (G.2 0, 200, .inl (av bt)))]) [0, 1, 2] rfl
  have hD := hD.sub (ws' := [(h, .inr (2, [.ref sA, .int (iz size), .int (iz fault), .ref bA, .int (iz len), .int (iz at_), .int heard])), (sA, .inl (G.2 0, 11, .inl (rv st))), (bA, .inl (G.2 0, 200, .inl (av bt)))]) [0, 1, 2] (by decide) rfl
  refine lv_iload_n hX_ hB_ dX4_isWord_4 rfl (lv_at hl 3 rfl) ?_
  refine lv_iload_n hX_ hB_ dX4_isWord_5 rfl (lv_at hl 2 rfl) ?_
  refine zk_isub hX_ hB_ dX4_isWord_6 ?_
  refine zk_icmp_eq (tgt := 12) hX_ hB_ (by omega) (by omega) dX4_isWord_7 (by decide) (fun c_7 => ?_) (fun c_7 => ?_)
  · skip
    refine zk_iconst hX_ hB_ dX4_isWord_12 ?_
    refine lv_istore (lv' := [(4, .int (iz 0)), (0, .ref h), (1, .ref a), (2, .int (iz fr)), (3, .int (iz tt))]) hX_ hB_ dX4_isWord_13 hl (by decide) rfl (fun ls hl => ?_)
    have loop_15 : ∀ (n_15 : Nat), ∀ (i : Int), (0 ≤ i ∧ i ≤ bs.length) → (eqU bt bs fr i.toNat = true) → (((bs.length : Int) - i).toNat < n_15) → ∀ (H : Heap) (locs : List Loc), va_P G.1 vwCl [(h, .inr (2, [.ref sA, .int (iz size), .int (iz fault), .ref bA, .int (iz len), .int (iz at_), .int heard])), (sA, .inl (G.2 0, 11, .inl (rv st))), (bA, .inl (G.2 0, 200, .inl (av bt)))] H → va_D A [(h, .inr (2, [.ref sA, .int (iz size), .int (iz fault), .ref bA, .int (iz len), .int (iz at_), .int heard])), (sA, .inl (G.2 0, 11, .inl (rv st))), (bA, .inl (G.2 0, 200, .inl (av bt)))] → va_S A s.heap H locs → ∀ ls : Array Slot, lv_has ls 5 [(0, .ref h), (1, .ref a), (2, .int (iz fr)), (3, .int (iz tt)), (4, .int (iz i))] → W p l e ({ frames := 4, cells := 0, slots := 0, locals := 85 }) s m ([.ref h, .ref a, .int (iz fr), .int (iz tt)] : List Value).toArray below meth c H locs 0 0 (MQ below (va_Qi (fun (r : Int32) (_ : Unit) => r = (zb (wq bt bs fr tt))) (fun u__ t__ => Pst G A ((fun _ : Unit => [(h, .inr (2, [.ref sA, .int (iz size), .int (iz fault), .ref bA, .int (iz len), .int (iz at_), .int heard])), (sA, .inl (G.2 0, 11, .inl (rv st))), (bA, .inl (G.2 0, 200, .inl (av bt)))]) u__) t__) A) ([.ref h, .ref a, .int (iz fr), .int (iz tt)] : List Value).toArray s 0 0 A) (F0 m 15 ls []) := by
      intro n_15
      induction n_15 with
      | zero =>
        intro i hi hq hm H locs hP hD hS ls hl
        exact absurd hm (Nat.not_lt_zero _)
      | succ n_15 ih_15 =>
        intro i hi hq hm H locs hP hD hS ls hl
        refine lv_iload hX_ hB_ dX4_isWord_15 (lv_at hl 4 rfl) ?_
        refine lv_aload_n hX_ hB_ dX4_isWord_17 rfl (lv_at hl 1 rfl) ?_
        refine back_i (wr := [(h, .inr (2, [.ref sA, .int (iz size), .int (iz fault), .ref bA, .int (iz len), .int (iz at_), .int heard])), (sA, .inl (G.2 0, 11, .inl (rv st))), (bA, .inl (G.2 0, 200, .inl (av bt)))]) (run_V (As := []) (rest := [.int (iz i)]) (wc := []) F (c_J0_length_8abf5 l G fo a v bs (by omega) _) (estr_ext fo a v bs) gX4_isWord_J0_length_8abf5 rfl rfl rfl mdv_J0_length_8abf5 ⟨Nat.le_of_ble_eq_true rfl, Nat.le_of_ble_eq_true rfl⟩ (va_Orecv hE.2.1 hS) (pre_of (estr_ext fo a v bs) hK hP hD hS hA hE [] (by decide) rfl _) rfl hl.1 (Nat.le_of_ble_eq_true rfl) dX4_isWord_18 ⟨by decide, by decide⟩) hP hD hS hA [] [0, 1, 2] rfl rfl (by decide) (by decide) (fun r__ u__ H locs hw hP hD hS => ?_)
        subst hw
        have hP := hP.sub (ws' := [(h, .inr (2, [.ref sA, .int (iz size), .int (iz fault), .ref bA, .int (iz len), .int (iz at_), .int heard])), (sA, .inl (G.2 0, 11, .inl (rv st))), (bA, .inl (G.2 0, 200, .inl (av bt)))]) [0, 1, 2] rfl
        have hD := hD.sub (ws' := [(h, .inr (2, [.ref sA, .int (iz size), .int (iz fault), .ref bA, .int (iz len), .int (iz at_), .int heard])), (sA, .inl (G.2 0, 11, .inl (rv st))), (bA, .inl (G.2 0, 200, .inl (av bt)))]) [0, 1, 2] (by decide) rfl
        refine zk_icmp_ge (tgt := 50) hX_ hB_ (by omega) (by omega) dX4_isWord_21 (by decide) (fun c_21 => ?_) (fun c_21 => ?_)
        · skip
          refine zk_iconst hX_ hB_ dX4_isWord_50 ?_
          refine zk_topi (y := zb true) rfl ?_
          exact fin_i (wf := (fun _ : Unit => [(h, .inr (2, [.ref sA, .int (iz size), .int (iz fault), .ref bA, .int (iz len), .int (iz at_), .int heard])), (sA, .inl (G.2 0, 11, .inl (rv st))), (bA, .inl (G.2 0, 200, .inl (av bt)))])) () F (zb_nar _) hP hD hK hS (by decide) (by decide) dX4_isWord_51 (by refine congrArg zb ?_; unfold wq; have e9 : i.toNat = bs.length := (by omega); rw [e9] at hq; rw [decide_eq_true c_7, hq]; rfl)
        · skip
          refine lv_aload_n hX_ hB_ dX4_isWord_24 rfl (lv_at hl 1 rfl) ?_
          refine lv_iload hX_ hB_ dX4_isWord_25 (lv_at hl 4 rfl) ?_
          refine back_i (wr := [(h, .inr (2, [.ref sA, .int (iz size), .int (iz fault), .ref bA, .int (iz len), .int (iz at_), .int heard])), (sA, .inl (G.2 0, 11, .inl (rv st))), (bA, .inl (G.2 0, 200, .inl (av bt)))]) (run_V (As := [.int (iz i)]) (rest := []) (wc := []) F (c_J0_charAt_5068e l G fo a v bs i (by omega) (by omega) (by exact hbs) _) (estr_ext fo a v bs) gX4_isWord_J0_charAt_5068e rfl rfl rfl mdv_J0_charAt_5068e ⟨Nat.le_of_ble_eq_true rfl, Nat.le_of_ble_eq_true rfl⟩ (va_Orecv hE.2.1 hS) (pre_of (estr_ext fo a v bs) hK hP hD hS hA hE [] (by decide) rfl _) rfl hl.1 (Nat.le_of_ble_eq_true rfl) dX4_isWord_27 ⟨by decide, by decide⟩) hP hD hS hA [] [0, 1, 2] rfl rfl (by decide) (by decide) (fun r__ u__ H locs hw hP hD hS => ?_)
          subst hw
          have hP := hP.sub (ws' := [(h, .inr (2, [.ref sA, .int (iz size), .int (iz fault), .ref bA, .int (iz len), .int (iz at_), .int heard])), (sA, .inl (G.2 0, 11, .inl (rv st))), (bA, .inl (G.2 0, 200, .inl (av bt)))]) [0, 1, 2] rfl
          have hD := hD.sub (ws' := [(h, .inr (2, [.ref sA, .int (iz size), .int (iz fault), .ref bA, .int (iz len), .int (iz at_), .int heard])), (sA, .inl (G.2 0, 11, .inl (rv st))), (bA, .inl (G.2 0, 200, .inl (av bt)))]) [0, 1, 2] (by decide) rfl
          refine lv_aload_n hX_ hB_ dX4_isWord_30 rfl (lv_at hl 0 rfl) ?_
          refine va_get (D := G.1) (ci := 2) (v := .ref bA) (C := RX4) (T := TX4) (N := 7) hX_ hB_ hts hi_X4_isWord_X4 hown hK.1 hP 0 rfl rfl 3 (by decide) (hts _ hw_X4_isWord_932782) (fun _ h9 => h9) rfl dX4_isWord_31 ?_
          refine lv_iload_n hX_ hB_ dX4_isWord_34 rfl (lv_at hl 2 rfl) ?_
          refine lv_iload hX_ hB_ dX4_isWord_35 (lv_at hl 4 rfl) ?_
          refine zk_iadd hX_ hB_ dX4_isWord_37 ?_
          have hBi := hB (fr + i)
          have hbi := hbs i.toNat
          refine zk_iald hX_ hB_ hK.1 hP 2 0 rfl rfl (by omega) (by decide) dX4_isWord_38 ?_
          refine zk_icmp_eq (tgt := 44) hX_ hB_ (by omega) (by omega) dX4_isWord_39 (by decide) (fun c_39 => ?_) (fun c_39 => ?_)
          · skip
            refine lv_iinc (v := (iz (i + 1))) (lv' := [(4, .int (iz (i + 1))), (0, .ref h), (1, .ref a), (2, .int (iz fr)), (3, .int (iz tt))]) hX_ hB_ dX4_isWord_44 hl (k := 4) rfl (iz_add _ _) (by decide) rfl (fun ls hl => ?_)
            refine lv_goto (tgt := 15) hX_ hB_ dX4_isWord_47 (by decide) ?_
            exact ih_15 (i + 1) (by omega) (by rw [eqU_z hi.1, hq, decide_eq_true c_39]; rfl) (by omega) _ _ hP hD hS ls (lv_sub hl [1, 2, 3, 4, 0] rfl)
          · skip
            refine zk_iconst hX_ hB_ dX4_isWord_42 ?_
            refine zk_topi (y := zb false) rfl ?_
            exact fin_i (wf := (fun _ : Unit => [(h, .inr (2, [.ref sA, .int (iz size), .int (iz fault), .ref bA, .int (iz len), .int (iz at_), .int heard])), (sA, .inl (G.2 0, 11, .inl (rv st))), (bA, .inl (G.2 0, 200, .inl (av bt)))])) () F (zb_nar _) hP hD hK hS (by decide) (by decide) dX4_isWord_43 (by refine congrArg zb ?_; unfold wq; rw [eqU_no (n := (i + 1).toNat) (m := bs.length) (by omega) (by rw [eqU_z hi.1, decide_eq_false c_39, Bool.and_false]), Bool.and_false])
    exact loop_15 _ 0 (by omega) (by rfl) (Nat.lt_succ_self _) _ _ hP hD hS ls (lv_sub hl [1, 2, 3, 4, 0] rfl)
  · skip
    refine zk_iconst hX_ hB_ dX4_isWord_10 ?_
    refine zk_topi (y := zb false) rfl ?_
    exact fin_i (wf := (fun _ : Unit => [(h, .inr (2, [.ref sA, .int (iz size), .int (iz fault), .ref bA, .int (iz len), .int (iz at_), .int heard])), (sA, .inl (G.2 0, 11, .inl (rv st))), (bA, .inl (G.2 0, 200, .inl (av bt)))])) () F (zb_nar _) hP hD hK hS (by decide) (by decide) dX4_isWord_11 (by refine congrArg zb ?_; unfold wq; rw [decide_eq_false c_7]; rfl)

theorem hw_X4_readWord_140398 : (.fieldLink RX4 77 "StoneDates$Reader" "KINDS" "[LStoneDates$Kind;" : Cond) ∈ wsX4_readWord := by decide +kernel
theorem hw_X4_readWord_f253b8 : (.fieldLink RX4 81 "StoneDates$Kind" "word" "Ljava/lang/String;" : Cond) ∈ wsX4_readWord := by decide +kernel
theorem hw_X4_readWord_3794a9 : (.fieldLink RX4 34 "StoneDates$Reader" "at" "I" : Cond) ∈ wsX4_readWord := by decide +kernel
theorem hi_X4_readWord_X4 : ∀ w ∈ u_ws RX4 TX4 7, w ∈ wsX4_readWord := by decide +kernel
theorem mdv_X4_isWord : yX4_isWord.cls = RX4 ∧ yX4_isWord.cls ≠ "java/lang/invoke/MethodHandle" ∧ yX4_isWord.cls ≠ "java/lang/invoke/VarHandle" ∧ (parseMethodDescriptor yX4_isWord.desc).map (fun d => d.parameters.length) = some 3 := by decide +kernel
theorem hw_X4_readWord_e883ac : (.fieldLink RX4 31 "StoneDates$Reader" "length" "I" : Cond) ∈ wsX4_readWord := by decide +kernel
theorem hw_X4_readWord_932782 : (.fieldLink RX4 15 "StoneDates$Reader" "bytes" "[I" : Cond) ∈ wsX4_readWord := by decide +kernel
set_option maxHeartbeats 4000000 in
set_option maxRecDepth 100000 in
theorem c_X4_readWord (l : Launch) (G : GG) (h : Nat) (sA : Nat) (bA : Nat) (st : Int → Int32) (size : Int) (fault : Int) (len : Int) (at_ : Int) (heard : Int32) (bt : Int → Int) (fo : Option Nat) (kt : Nat) (kd : Nat → Nat) (sa : Nat → Nat) (va : Nat → Nat) (ha : 0 ≤ at_ ∧ at_ ≤ len ∧ len ≤ 200) (hB : ∀ k : Int, 0 ≤ bt k ∧ bt k ≤ 255) : Cq l yX4_readWord wsX4_readWord ({ frames := 5, cells := 0, slots := 0, locals := 109 }) G (EKind fo kt kd sa va) [.ref h] [(h, .inr (2, [.ref sA, .int (iz size), .int (iz fault), .ref bA, .int (iz len), .int (iz at_), .int heard])), (sA, .inl (G.2 0, 11, .inl (rv st))), (bA, .inl (G.2 0, 200, .inl (av bt)))] 0 0 (fun _ : Unit => [(h, .inr (2, [.ref sA, .int (iz size), .int (iz fault), .ref bA, .int (iz len), .int (iz (we bt len at_)), .int heard])), (sA, .inl (G.2 0, 11, .inl (rv st))), (bA, .inl (G.2 0, 200, .inl (av bt)))]) (fun (r : Option Nat) (_ : Unit) => r = (kix bt len at_).map kd) := by
  refine Cq_intro (cc := cX4_readWord) (maxL := 6) (ret := (some (.object "StoneDates$Kind"))) (by decide) rfl (Nat.le_of_ble_eq_true rfl) ?_
  intro p e s m below meth c A F hA hP hD hK hE ls hl
  have hX_ := F.1
  have hB_ := F.2.1
  have hts := F.2.2.2.2.2.1
  have hown := F.2.2.2.2.1
  have hml := F.2.2.2.1
  have hS : va_S A s.heap s.heap [] := va_S.rf
  have hl : lv_has ls 6 [(0, .ref h)] := hl
  have join_57 : ∀ (a : Int), (a = we bt len at_) → (at_ ≤ we bt len at_ ∧ we bt len at_ ≤ len) → ∀ (H : Heap) (locs : List Loc), va_P G.1 vwCl [(h, .inr (2, [.ref sA, .int (iz size), .int (iz fault), .ref bA, .int (iz len), .int (iz a), .int heard])), (sA, .inl (G.2 0, 11, .inl (rv st))), (bA, .inl (G.2 0, 200, .inl (av bt)))] H → va_D A [(h, .inr (2, [.ref sA, .int (iz size), .int (iz fault), .ref bA, .int (iz len), .int (iz a), .int heard])), (sA, .inl (G.2 0, 11, .inl (rv st))), (bA, .inl (G.2 0, 200, .inl (av bt)))] → va_S A s.heap H locs → ∀ ls : Array Slot, lv_has ls 6 [(0, .ref h), (1, .int (iz at_))] → W p l e ({ frames := 5, cells := 0, slots := 0, locals := 109 }) s m ([.ref h] : List Value).toArray below meth c H locs 0 0 (MQ below (va_Qq (fun (r : Option Nat) (_ : Unit) => r = (kix bt len at_).map kd) (fun u__ t__ => Pst G A ((fun _ : Unit => [(h, .inr (2, [.ref sA, .int (iz size), .int (iz fault), .ref bA, .int (iz len), .int (iz (we bt len at_)), .int heard])), (sA, .inl (G.2 0, 11, .inl (rv st))), (bA, .inl (G.2 0, 200, .inl (av bt)))]) u__) t__) A) ([.ref h] : List Value).toArray s 0 0 A) (F0 m 57 ls []) := by
    intro a ea hr H locs hP hD hS ls hl
    have e_rep : (a) = (we bt len at_) := ea
    rw [e_rep] at hP hD
    refine va_gets (v := .ref kt) hX_ hB_ hE.2.1 hS hown (hts _ hw_X4_readWord_140398) (fun _ h9 => h9) dX4_readWord_57 ?_
    refine lv_astore_n (lv' := [(2, .ref kt), (0, .ref h), (1, .int (iz at_))]) hX_ hB_ dX4_readWord_60 rfl hl (by decide) rfl (fun ls hl => ?_)
    refine lv_aload_n hX_ hB_ dX4_readWord_61 rfl (lv_at hl 0 rfl) ?_
    refine va_tlen (v := iz (7 : Int)) hX_ hB_ hE.2.2.1 hS rfl dX4_readWord_62 ?_
    refine lv_istore_n (lv' := [(3, .int (iz 7)), (2, .ref kt), (0, .ref h), (1, .int (iz at_))]) hX_ hB_ dX4_readWord_63 rfl hl (by decide) rfl (fun ls hl => ?_)
    refine zk_iconst hX_ hB_ dX4_readWord_64 ?_
    refine lv_istore (lv' := [(4, .int (iz 0)), (3, .int (iz 7)), (2, .ref kt), (0, .ref h), (1, .int (iz at_))]) hX_ hB_ dX4_readWord_65 hl (by decide) rfl (fun ls hl => ?_)
    have loop_67 : ∀ (n_67 : Nat), ∀ (i : Int), (0 ≤ i ∧ i ≤ 7) → (kix bt len at_ = kxF bt len at_ (7 - i).toNat i.toNat) → ((7 - i).toNat < n_67) → ∀ (H : Heap) (locs : List Loc), va_P G.1 vwCl [(h, .inr (2, [.ref sA, .int (iz size), .int (iz fault), .ref bA, .int (iz len), .int (iz (we bt len at_)), .int heard])), (sA, .inl (G.2 0, 11, .inl (rv st))), (bA, .inl (G.2 0, 200, .inl (av bt)))] H → va_D A [(h, .inr (2, [.ref sA, .int (iz size), .int (iz fault), .ref bA, .int (iz len), .int (iz (we bt len at_)), .int heard])), (sA, .inl (G.2 0, 11, .inl (rv st))), (bA, .inl (G.2 0, 200, .inl (av bt)))] → va_S A s.heap H locs → ∀ ls : Array Slot, lv_has ls 6 [(0, .ref h), (1, .int (iz at_)), (2, .ref kt), (3, .int (iz 7)), (4, .int (iz i))] → W p l e ({ frames := 5, cells := 0, slots := 0, locals := 109 }) s m ([.ref h] : List Value).toArray below meth c H locs 0 0 (MQ below (va_Qq (fun (r : Option Nat) (_ : Unit) => r = (kix bt len at_).map kd) (fun u__ t__ => Pst G A ((fun _ : Unit => [(h, .inr (2, [.ref sA, .int (iz size), .int (iz fault), .ref bA, .int (iz len), .int (iz (we bt len at_)), .int heard])), (sA, .inl (G.2 0, 11, .inl (rv st))), (bA, .inl (G.2 0, 200, .inl (av bt)))]) u__) t__) A) ([.ref h] : List Value).toArray s 0 0 A) (F0 m 67 ls []) := by
      intro n_67
      induction n_67 with
      | zero =>
        intro i hi hq hm H locs hP hD hS ls hl
        exact absurd hm (Nat.not_lt_zero _)
      | succ n_67 ih_67 =>
        intro i hi hq hm H locs hP hD hS ls hl
        refine lv_iload hX_ hB_ dX4_readWord_67 (lv_at hl 4 rfl) ?_
        refine lv_iload_n hX_ hB_ dX4_readWord_69 rfl (lv_at hl 3 rfl) ?_
        refine zk_icmp_ge (tgt := 105) hX_ hB_ (by omega) (by omega) dX4_readWord_70 (by decide) (fun c_70 => ?_) (fun c_70 => ?_)
        · skip
          refine lv_null hX_ hB_ dX4_readWord_105 ?_
          refine zk_top (y := va_rf none) rfl ?_
          exact fin_q (wf := (fun _ : Unit => [(h, .inr (2, [.ref sA, .int (iz size), .int (iz fault), .ref bA, .int (iz len), .int (iz (we bt len at_)), .int heard])), (sA, .inl (G.2 0, 11, .inl (rv st))), (bA, .inl (G.2 0, 200, .inl (av bt)))])) () F (Or.inl ⟨_, rfl⟩) hP hD hK hS (by decide) (by decide) dX4_readWord_106 (by have e9 : kix bt len at_ = none := (by rw [hq, show (7 - i).toNat = 0 from by omega]; rfl); rw [e9]; rfl)
        · skip
          refine lv_aload_n hX_ hB_ dX4_readWord_73 rfl (lv_at hl 2 rfl) ?_
          refine lv_iload hX_ hB_ dX4_readWord_74 (lv_at hl 4 rfl) ?_
          refine vb_tq (v := .ref (kd i.toNat)) hX_ hB_ hE.2.2.1 hS (iz_in (by omega) (by decide)) (by rw [iz_cl (by omega)]) dX4_readWord_76 ?_
          refine lv_astore (lv' := [(5, .ref (kd i.toNat)), (0, .ref h), (1, .int (iz at_)), (2, .ref kt), (3, .int (iz 7)), (4, .int (iz i))]) hX_ hB_ dX4_readWord_77 hl (by decide) rfl (fun ls hl => ?_)
          have hwb := wb_ok i.toNat (by omega)
          refine lv_aload_n hX_ hB_ dX4_readWord_79 rfl (lv_at hl 1 rfl) ?_
          refine lv_aload hX_ hB_ dX4_readWord_80 (lv_at hl 0 rfl) ?_
          refine vk_getf (v := .ref (sa i.toNat)) hX_ hB_ (hE.2.2.2 i.toNat (by omega)).1 hS hown (hts _ hw_X4_readWord_f253b8) (fun _ h9 => h9) dX4_readWord_82 ?_
          refine lv_iload_n hX_ hB_ dX4_readWord_85 rfl (lv_at hl 2 rfl) ?_
          refine lv_aload_n hX_ hB_ dX4_readWord_86 rfl (lv_at hl 1 rfl) ?_
          refine va_get (D := G.1) (ci := 2) (v := .int (iz (we bt len at_))) (C := RX4) (T := TX4) (N := 7) hX_ hB_ hts hi_X4_readWord_X4 hown hK.1 hP 0 rfl rfl 5 (by decide) (hts _ hw_X4_readWord_3794a9) (fun _ h9 => h9) rfl dX4_readWord_87 ?_
          refine back_i (wr := []) (run_V (As := [.ref (sa i.toNat), .int (iz at_), .int (iz (we bt len at_))]) (rest := []) (wc := [(h, .inr (2, [.ref sA, .int (iz size), .int (iz fault), .ref bA, .int (iz len), .int (iz (we bt len at_)), .int heard])), (sA, .inl (G.2 0, 11, .inl (rv st))), (bA, .inl (G.2 0, 200, .inl (av bt)))]) F (c_X4_isWord l G h sA bA st size fault len (we bt len at_) heard bt fo (sa i.toNat) (va i.toNat) (wb i.toNat) at_ (we bt len at_) (by exact hB) (by omega) (by exact hwb.1) (by exact hwb.2) _) (estr_ext fo (sa i.toNat) (va i.toNat) (wb i.toNat)) gX4_readWord_X4_isWord rfl rfl rfl mdv_X4_isWord ⟨Nat.le_of_ble_eq_true rfl, Nat.le_of_ble_eq_true rfl⟩ (va_recv hK.1 (hP.sub (ws' := [(h, .inr (2, [.ref sA, .int (iz size), .int (iz fault), .ref bA, .int (iz len), .int (iz (we bt len at_)), .int heard])), (sA, .inl (G.2 0, 11, .inl (rv st))), (bA, .inl (G.2 0, 200, .inl (av bt)))]) [0, 1, 2] rfl) (ci := 2) (q0 := 0) rfl rfl) (pre_of (estr_ext fo (sa i.toNat) (va i.toNat) (wb i.toNat)) hK hP hD hS hA ⟨hE.1, (hE.2.2.2 i.toNat (by omega)).2.2.2⟩ [0, 1, 2] (by decide) rfl _) rfl hl.1 (Nat.le_of_ble_eq_true rfl) dX4_readWord_90 ⟨by decide, by decide⟩) hP hD hS hA [0, 1, 2] [] rfl rfl (by decide) (by decide) (fun r__ u__ H locs hw hP hD hS => ?_)
          subst hw
          have hP := hP.sub (ws' := [(h, .inr (2, [.ref sA, .int (iz size), .int (iz fault), .ref bA, .int (iz len), .int (iz (we bt len at_)), .int heard])), (sA, .inl (G.2 0, 11, .inl (rv st))), (bA, .inl (G.2 0, 200, .inl (av bt)))]) [0, 1, 2] rfl
          have hD := hD.sub (ws' := [(h, .inr (2, [.ref sA, .int (iz size), .int (iz fault), .ref bA, .int (iz len), .int (iz (we bt len at_)), .int heard])), (sA, .inl (G.2 0, 11, .inl (rv st))), (bA, .inl (G.2 0, 200, .inl (av bt)))]) [0, 1, 2] (by decide) rfl
          refine zk_bif_eq (tgt := 99) hX_ hB_ dX4_readWord_93 (by decide) (fun c_93 => ?_) (fun c_93 => ?_)
          · skip
            refine lv_iinc (v := (iz (i + 1))) (lv' := [(4, .int (iz (i + 1))), (5, .ref (kd i.toNat)), (0, .ref h), (1, .int (iz at_)), (2, .ref kt), (3, .int (iz 7))]) hX_ hB_ dX4_readWord_99 hl (k := 5) rfl (iz_add _ _) (by decide) rfl (fun ls hl => ?_)
            refine lv_goto (tgt := 67) hX_ hB_ dX4_readWord_102 (by decide) ?_
            exact ih_67 (i + 1) (by omega) (by rw [hq, show (7 - i).toNat = (7 - (i + 1)).toNat + 1 from by omega, show (i + 1).toNat = i.toNat + 1 from by omega]; show (if _ then _ else _) = _; rw [c_93]; rfl) (by omega) _ _ hP hD hS ls (lv_sub hl [2, 3, 4, 5, 0] rfl)
          · skip
            refine lv_aload hX_ hB_ dX4_readWord_96 (lv_at hl 0 rfl) ?_
            refine zk_top (y := va_rf (some (kd i.toNat))) rfl ?_
            exact fin_q (wf := (fun _ : Unit => [(h, .inr (2, [.ref sA, .int (iz size), .int (iz fault), .ref bA, .int (iz len), .int (iz (we bt len at_)), .int heard])), (sA, .inl (G.2 0, 11, .inl (rv st))), (bA, .inl (G.2 0, 200, .inl (av bt)))])) () F (Or.inl ⟨_, rfl⟩) hP hD hK hS (by decide) (by decide) dX4_readWord_98 (by have e9 : kix bt len at_ = some i.toNat := (by rw [hq, show (7 - i).toNat = (7 - (i + 1)).toNat + 1 from by omega]; show (if _ then _ else _) = _; rw [c_93]; rfl); rw [e9]; rfl)
    exact loop_67 _ 0 (by omega) (by rfl) (Nat.lt_succ_self _) _ _ hP hD hS ls (lv_sub hl [3, 4, 2, 1, 0] rfl)
  refine lv_aload_n hX_ hB_ dX4_readWord_0 rfl (lv_at hl 0 rfl) ?_
  refine va_get (D := G.1) (ci := 2) (v := .int (iz at_)) (C := RX4) (T := TX4) (N := 7) hX_ hB_ hts hi_X4_readWord_X4 hown hK.1 hP 0 rfl rfl 5 (by decide) (hts _ hw_X4_readWord_3794a9) (fun _ h9 => h9) rfl dX4_readWord_1 ?_
  refine lv_istore_n (lv' := [(1, .int (iz at_)), (0, .ref h)]) hX_ hB_ dX4_readWord_4 rfl hl (by decide) rfl (fun ls hl => ?_)
  have loop_5 : ∀ (n_5 : Nat), ∀ (a : Int), (at_ ≤ a ∧ a ≤ len) → (we bt len at_ = we bt len a) → ((len - a).toNat < n_5) → ∀ (H : Heap) (locs : List Loc), va_P G.1 vwCl [(h, .inr (2, [.ref sA, .int (iz size), .int (iz fault), .ref bA, .int (iz len), .int (iz a), .int heard])), (sA, .inl (G.2 0, 11, .inl (rv st))), (bA, .inl (G.2 0, 200, .inl (av bt)))] H → va_D A [(h, .inr (2, [.ref sA, .int (iz size), .int (iz fault), .ref bA, .int (iz len), .int (iz a), .int heard])), (sA, .inl (G.2 0, 11, .inl (rv st))), (bA, .inl (G.2 0, 200, .inl (av bt)))] → va_S A s.heap H locs → ∀ ls : Array Slot, lv_has ls 6 [(0, .ref h), (1, .int (iz at_))] → W p l e ({ frames := 5, cells := 0, slots := 0, locals := 109 }) s m ([.ref h] : List Value).toArray below meth c H locs 0 0 (MQ below (va_Qq (fun (r : Option Nat) (_ : Unit) => r = (kix bt len at_).map kd) (fun u__ t__ => Pst G A ((fun _ : Unit => [(h, .inr (2, [.ref sA, .int (iz size), .int (iz fault), .ref bA, .int (iz len), .int (iz (we bt len at_)), .int heard])), (sA, .inl (G.2 0, 11, .inl (rv st))), (bA, .inl (G.2 0, 200, .inl (av bt)))]) u__) t__) A) ([.ref h] : List Value).toArray s 0 0 A) (F0 m 5 ls []) := by
    intro n_5
    induction n_5 with
    | zero =>
      intro a hi hs hm H locs hP hD hS ls hl
      exact absurd hm (Nat.not_lt_zero _)
    | succ n_5 ih_5 =>
      intro a hi hs hm H locs hP hD hS ls hl
      refine lv_aload_n hX_ hB_ dX4_readWord_5 rfl (lv_at hl 0 rfl) ?_
      refine va_get (D := G.1) (ci := 2) (v := .int (iz a)) (C := RX4) (T := TX4) (N := 7) hX_ hB_ hts hi_X4_readWord_X4 hown hK.1 hP 0 rfl rfl 5 (by decide) (hts _ hw_X4_readWord_3794a9) (fun _ h9 => h9) rfl dX4_readWord_6 ?_
      refine lv_aload_n hX_ hB_ dX4_readWord_9 rfl (lv_at hl 0 rfl) ?_
      refine va_get (D := G.1) (ci := 2) (v := .int (iz len)) (C := RX4) (T := TX4) (N := 7) hX_ hB_ hts hi_X4_readWord_X4 hown hK.1 hP 0 rfl rfl 4 (by decide) (hts _ hw_X4_readWord_e883ac) (fun _ h9 => h9) rfl dX4_readWord_10 ?_
      refine zk_icmp_ge (tgt := 57) hX_ hB_ (by omega) (by omega) dX4_readWord_13 (by decide) (fun c_13 => ?_) (fun c_13 => ?_)
      · skip
        exact join_57 a (by rw [hs]; exact (we_stop (by omega)).symm) (by exact we_rng (by omega)) _ _ hP hD hS ls (lv_sub hl [0, 1] rfl)
      · skip
        have hBa := hB a
        refine lv_aload_n hX_ hB_ dX4_readWord_16 rfl (lv_at hl 0 rfl) ?_
        refine va_get (D := G.1) (ci := 2) (v := .ref bA) (C := RX4) (T := TX4) (N := 7) hX_ hB_ hts hi_X4_readWord_X4 hown hK.1 hP 0 rfl rfl 3 (by decide) (hts _ hw_X4_readWord_932782) (fun _ h9 => h9) rfl dX4_readWord_17 ?_
        refine lv_aload_n hX_ hB_ dX4_readWord_20 rfl (lv_at hl 0 rfl) ?_
        refine va_get (D := G.1) (ci := 2) (v := .int (iz a)) (C := RX4) (T := TX4) (N := 7) hX_ hB_ hts hi_X4_readWord_X4 hown hK.1 hP 0 rfl rfl 5 (by decide) (hts _ hw_X4_readWord_3794a9) (fun _ h9 => h9) rfl dX4_readWord_21 ?_
        refine zk_iald hX_ hB_ hK.1 hP 2 0 rfl rfl (by omega) (by decide) dX4_readWord_24 ?_
        refine zk_bipush hX_ hB_ (by decide) dX4_readWord_25 ?_
        refine zk_icmp_lt (tgt := 57) hX_ hB_ (by omega) (by omega) dX4_readWord_27 (by decide) (fun c_27 => ?_) (fun c_27 => ?_)
        · skip
          exact join_57 a (by rw [hs]; exact (we_stop (by omega)).symm) (by exact we_rng (by omega)) _ _ hP hD hS ls (lv_sub hl [0, 1] rfl)
        · skip
          refine lv_aload_n hX_ hB_ dX4_readWord_30 rfl (lv_at hl 0 rfl) ?_
          refine va_get (D := G.1) (ci := 2) (v := .ref bA) (C := RX4) (T := TX4) (N := 7) hX_ hB_ hts hi_X4_readWord_X4 hown hK.1 hP 0 rfl rfl 3 (by decide) (hts _ hw_X4_readWord_932782) (fun _ h9 => h9) rfl dX4_readWord_31 ?_
          refine lv_aload_n hX_ hB_ dX4_readWord_34 rfl (lv_at hl 0 rfl) ?_
          refine va_get (D := G.1) (ci := 2) (v := .int (iz a)) (C := RX4) (T := TX4) (N := 7) hX_ hB_ hts hi_X4_readWord_X4 hown hK.1 hP 0 rfl rfl 5 (by decide) (hts _ hw_X4_readWord_3794a9) (fun _ h9 => h9) rfl dX4_readWord_35 ?_
          refine zk_iald hX_ hB_ hK.1 hP 2 0 rfl rfl (by omega) (by decide) dX4_readWord_38 ?_
          refine zk_bipush hX_ hB_ (by decide) dX4_readWord_39 ?_
          refine zk_icmp_gt (tgt := 57) hX_ hB_ (by omega) (by omega) dX4_readWord_41 (by decide) (fun c_41 => ?_) (fun c_41 => ?_)
          · skip
            exact join_57 a (by rw [hs]; exact (we_stop (by omega)).symm) (by exact we_rng (by omega)) _ _ hP hD hS ls (lv_sub hl [0, 1] rfl)
          · skip
            refine lv_aload_n hX_ hB_ dX4_readWord_44 rfl (lv_at hl 0 rfl) ?_
            refine lv_dup hX_ hB_ dX4_readWord_45 rfl ?_
            refine va_get (D := G.1) (ci := 2) (v := .int (iz a)) (C := RX4) (T := TX4) (N := 7) hX_ hB_ hts hi_X4_readWord_X4 hown hK.1 hP 0 rfl rfl 5 (by decide) (hts _ hw_X4_readWord_3794a9) (fun _ h9 => h9) rfl dX4_readWord_46 ?_
            refine zk_iconst hX_ hB_ dX4_readWord_49 ?_
            refine zk_iadd hX_ hB_ dX4_readWord_50 ?_
            refine va_put (D := G.1) (ci := 2) (v := .int (iz (a + 1))) (ty := .int) (C := RX4) (T := TX4) (N := 7) hX_ hB_ hts hi_X4_readWord_X4 tyX4 tyX4_ok nmX4 hown hK.1 hP hD hS 0 rfl rfl 5 (by decide) (hts _ hw_X4_readWord_3794a9) (fun _ h9 => h9) rfl (by decide +kernel) rfl rfl (Nat.le_of_ble_eq_true rfl) dX4_readWord_51 (fun H locs hP hD hS => ?_)
            have hP : va_P G.1 vwCl [(h, .inr (2, [.ref sA, .int (iz size), .int (iz fault), .ref bA, .int (iz len), .int (iz (a + 1)), .int heard])), (sA, .inl (G.2 0, 11, .inl (rv st))), (bA, .inl (G.2 0, 200, .inl (av bt)))] _ := hP
            have hD : va_D A [(h, .inr (2, [.ref sA, .int (iz size), .int (iz fault), .ref bA, .int (iz len), .int (iz (a + 1)), .int heard])), (sA, .inl (G.2 0, 11, .inl (rv st))), (bA, .inl (G.2 0, 200, .inl (av bt)))] := hD
            refine lv_goto (tgt := 5) hX_ hB_ dX4_readWord_54 (by decide) ?_
            exact ih_5 (a + 1) (by omega) (by rw [hs]; exact we_step ⟨c_13, c_27, c_41⟩) (by omega) _ _ hP hD hS ls (lv_sub hl [0, 1] rfl)
  exact loop_5 _ at_ (by omega) (by rfl) (Nat.lt_succ_self _) _ _ hP hD hS ls (lv_sub hl [1, 0] rfl)
