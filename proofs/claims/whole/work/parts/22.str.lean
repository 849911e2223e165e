/-! texts that nobody writes: a String's cell and its bytes; what its methods read of the VM -/
def StrAt (a v : Nat) (bs : List Int) : EE := fun A U H => va_O "java/lang/String" a A U H ∧ va_OF "java/lang/String" "coder" "B" (.int (iz 0)) a A U H ∧ va_OF "java/lang/String" "value" "[B" (.ref v) a A U H ∧ va_T .byte v bs.length (fun j => .int (iz (bs.getD j 0))) A U H
theorem strAt_ext (a v : Nat) (bs : List Int) : Ext (StrAt a v bs) :=
  ⟨fun A u U H hv h => ⟨va_O.moved hv.alike h.1, va_OF.moved hv.alike h.2.1, va_OF.moved hv.alike h.2.2.1, va_T.moved hv.alike h.2.2.2⟩, fun A U H H1 hq h => ⟨h.1.kept hq, h.2.1.kept hq, h.2.2.1.kept hq, h.2.2.2.kept hq⟩, fun A B U H hq h => ⟨h.1.narrow hq, h.2.1.narrow hq, h.2.2.1.narrow hq, h.2.2.2.narrow hq⟩⟩
def StrVm (fo : Option Nat) : EE := fun A U H => va_Z "java/lang/String" "COMPACT_STRINGS" "Z" (.int (iz 1)) A U H ∧ va_Z "jdk/internal/util/Preconditions" "SIOOBE_FORMATTER" "Ljava/util/function/BiFunction;" (va_rf fo) A U H
theorem strVm_ext (fo : Option Nat) : Ext (StrVm fo) :=
  ⟨fun A u U H hv h => ⟨va_Z.moved hv.alike h.1, va_Z.moved hv.alike h.2⟩, fun A U H H1 hq h => ⟨h.1.kept hq, h.2.kept hq⟩, fun A B U H hq h => ⟨h.1.narrow hq, h.2.narrow hq⟩⟩
def And2 (E1 E2 : EE) : EE := fun A U H => E1 A U H ∧ E2 A U H
theorem and2_ext {E1 E2 : EE} (h1 : Ext E1) (h2 : Ext E2) : Ext (And2 E1 E2) :=
  ⟨fun A u U H hv h => ⟨h1.1 A u U H hv h.1, h2.1 A u U H hv h.2⟩, fun A U H H' hq h => ⟨h1.2.1 A U H H' hq h.1, h2.2.1 A U H H' hq h.2⟩, fun A B U H hq h => ⟨h1.2.2 A B U H hq h.1, h2.2.2 A B U H hq h.2⟩⟩
abbrev EStr (fo : Option Nat) (a v : Nat) (bs : List Int) : EE := And2 (StrVm fo) (StrAt a v bs)
theorem estr_ext (fo : Option Nat) (a v : Nat) (bs : List Int) : Ext (EStr fo a v bs) := and2_ext (strVm_ext fo) (strAt_ext a v bs)
/-- what a byte row says alone -/
def BytAt (v : Nat) (bs : List Int) : EE := fun A U H => va_T .byte v bs.length (fun j => .int (iz (bs.getD j 0))) A U H
theorem bytAt_ext (v : Nat) (bs : List Int) : Ext (BytAt v bs) := ⟨fun A u U H hv h => va_T.moved hv.alike h, fun A U H H1 hq h => h.kept hq, fun A B U H hq h => h.narrow hq⟩
abbrev EByt (fo : Option Nat) (v : Nat) (bs : List Int) : EE := And2 (StrVm fo) (BytAt v bs)
theorem ebyt_ext (fo : Option Nat) (v : Nat) (bs : List Int) : Ext (EByt fo v bs) := and2_ext (strVm_ext fo) (bytAt_ext v bs)
theorem iz_shr0 {z : Int} (h0 : 0 ≤ z) (h1 : z < 2147483648) : iz z >>> (iz 0 &&& 31) = iz z := by
  have := iz_shr h0 h1 0 (by decide)
  rw [show (2 : Int) ^ 0 = 1 from rfl, Int.ediv_one] at this
  exact this
theorem iz_and255 {z : Int} (h0 : 0 ≤ z) (h1 : z < 256) : iz z &&& iz 255 = iz z := by
  have := iz_mask h0 (by omega) 8 (by decide)
  rw [show (2 : Int) ^ 8 = 256 from rfl, Int.emod_eq_of_lt h0 h1] at this
  exact this
theorem i2c_n : ∀ k : Nat, k < 256 → ((iz (k : Int)).toUInt32 % 65536).toInt32 = iz (k : Int) := by decide +kernel
theorem i2c_z {z : Int} (h0 : 0 ≤ z) (h1 : z < 256) : ((iz z).toUInt32 % 65536).toInt32 = iz z := by
  have := i2c_n z.toNat (by omega)
  rwa [Int.toNat_of_nonneg h0] at this
theorem nar_c : ∀ k : Nat, k < 256 → narrow .char (.int (iz (k : Int))) = .int (iz (k : Int)) := by decide +kernel
theorem nar_cz {z : Int} (h0 : 0 ≤ z) (h1 : z < 256) : narrow .char (.int (iz z)) = .int (iz z) := by
  have := nar_c z.toNat (by omega)
  rwa [Int.toNat_of_nonneg h0] at this

theorem hw_J0_coder_7d493_4d9a4f : (.fieldLink RJ0 38 "java/lang/String" "COMPACT_STRINGS" "Z" : Cond) ∈ wsJ0_coder_7d493 := by decide +kernel
theorem hw_J0_coder_7d493_1d69a2 : (.fieldLink RJ0 15 "java/lang/String" "coder" "B" : Cond) ∈ wsJ0_coder_7d493 := by decide +kernel
set_option maxHeartbeats 4000000 in
set_option maxRecDepth 100000 in
theorem c_J0_coder_7d493 (l : Launch) (G : GG) (fo : Option Nat) (a : Nat) (v : Nat) (bs : List Int) : Ci l yJ0_coder_7d493 wsJ0_coder_7d493 ({ frames := 0, cells := 0, slots := 0, locals := 0 }) G (EStr fo a v bs) [.ref a] [] 0 0 (fun _ : Unit => []) (fun (r : Int32) (_ : Unit) => r = (iz 0)) := by
  refine Ci_intro (cc := cJ0_coder_7d493) (maxL := 1) (ret := (some .byte)) (by decide) rfl (Nat.le_of_ble_eq_true rfl) ?_
  intro p e s m below meth c A F hA hP hD hK hE ls hl
  have hX_ := F.1
  have hB_ := F.2.1
  have hts := F.2.2.2.2.2.1
  have hown := F.2.2.2.2.1
  have hml := F.2.2.2.1
  have hS : va_S A s.heap s.heap [] := va_S.rf
  have hl : lv_has ls 1 [(0, .ref a)] := hl
  refine va_gets (v := .int (iz 1)) hX_ hB_ hE.1.1 hS hown (hts _ hw_J0_coder_7d493_4d9a4f) (fun _ h9 => h9) dJ0_coder_7d493_0 ?_
  refine zk_if_eq (tgt := 13) hX_ hB_ (by omega) dJ0_coder_7d493_3 (by decide) (fun c_3 => absurd c_3 (by decide)) (fun c_3 => ?_)
  refine lv_aload_n hX_ hB_ dJ0_coder_7d493_6 rfl (lv_at hl 0 rfl) ?_
  refine vk_getf (v := .int (iz 0)) hX_ hB_ hE.2.2.1 hS hown (hts _ hw_J0_coder_7d493_1d69a2) (fun _ h9 => h9) dJ0_coder_7d493_7 ?_
  refine lv_goto (tgt := 14) hX_ hB_ dJ0_coder_7d493_10 (by decide) ?_
  exact fin_i (wf := (fun _ : Unit => [])) () F rfl hP hD hK hS (by decide) (by decide) dJ0_coder_7d493_14 rfl

theorem hw_J0_isLatin1_aae02_4d9a4f : (.fieldLink RJ0 38 "java/lang/String" "COMPACT_STRINGS" "Z" : Cond) ∈ wsJ0_isLatin1_aae02 := by decide +kernel
theorem hw_J0_isLatin1_aae02_1d69a2 : (.fieldLink RJ0 15 "java/lang/String" "coder" "B" : Cond) ∈ wsJ0_isLatin1_aae02 := by decide +kernel
set_option maxHeartbeats 4000000 in
set_option maxRecDepth 100000 in
theorem c_J0_isLatin1_aae02 (l : Launch) (G : GG) (fo : Option Nat) (a : Nat) (v : Nat) (bs : List Int) : Ci l yJ0_isLatin1_aae02 wsJ0_isLatin1_aae02 ({ frames := 0, cells := 0, slots := 0, locals := 0 }) G (EStr fo a v bs) [.ref a] [] 0 0 (fun _ : Unit => []) (fun (r : Int32) (_ : Unit) => r = (zb true)) := by
  refine Ci_intro (cc := cJ0_isLatin1_aae02) (maxL := 1) (ret := (some .boolean)) (by decide) rfl (Nat.le_of_ble_eq_true rfl) ?_
  intro p e s m below meth c A F hA hP hD hK hE ls hl
  have hX_ := F.1
  have hB_ := F.2.1
  have hts := F.2.2.2.2.2.1
  have hown := F.2.2.2.2.1
  have hml := F.2.2.2.1
  have hS : va_S A s.heap s.heap [] := va_S.rf
  have hl : lv_has ls 1 [(0, .ref a)] := hl
  refine va_gets (v := .int (iz 1)) hX_ hB_ hE.1.1 hS hown (hts _ hw_J0_isLatin1_aae02_4d9a4f) (fun _ h9 => h9) dJ0_isLatin1_aae02_0 ?_
  refine zk_if_eq (tgt := 17) hX_ hB_ (by omega) dJ0_isLatin1_aae02_3 (by decide) (fun c_3 => absurd c_3 (by decide)) (fun c_3 => ?_)
  refine lv_aload_n hX_ hB_ dJ0_isLatin1_aae02_6 rfl (lv_at hl 0 rfl) ?_
  refine vk_getf (v := .int (iz 0)) hX_ hB_ hE.2.2.1 hS hown (hts _ hw_J0_isLatin1_aae02_1d69a2) (fun _ h9 => h9) dJ0_isLatin1_aae02_7 ?_
  refine zk_if_ne (tgt := 17) hX_ hB_ (by omega) dJ0_isLatin1_aae02_10 (by decide) (fun c_10 => absurd c_10 (by decide)) (fun c_10 => ?_)
  refine zk_iconst hX_ hB_ dJ0_isLatin1_aae02_13 ?_
  refine lv_goto (tgt := 18) hX_ hB_ dJ0_isLatin1_aae02_14 (by decide) ?_
  refine zk_topi (y := zb true) rfl ?_
  exact fin_i (wf := (fun _ : Unit => [])) () F (zb_nar _) hP hD hK hS (by decide) (by decide) dJ0_isLatin1_aae02_18 rfl

theorem hw_J0_length_8abf5_16026c : (.fieldLink RJ0 9 "java/lang/String" "value" "[B" : Cond) ∈ wsJ0_length_8abf5 := by decide +kernel
theorem mdv_J0_coder_7d493 : yJ0_coder_7d493.cls = RJ0 ∧ yJ0_coder_7d493.cls ≠ "java/lang/invoke/MethodHandle" ∧ yJ0_coder_7d493.cls ≠ "java/lang/invoke/VarHandle" ∧ (parseMethodDescriptor yJ0_coder_7d493.desc).map (fun d => d.parameters.length) = some 0 := by decide +kernel
set_option maxHeartbeats 4000000 in
set_option maxRecDepth 100000 in
theorem c_J0_length_8abf5 (l : Launch) (G : GG) (fo : Option Nat) (a : Nat) (v : Nat) (bs : List Int) (hbl : bs.length < 1000) : Ci l yJ0_length_8abf5 wsJ0_length_8abf5 ({ frames := 1, cells := 0, slots := 0, locals := 20 }) G (EStr fo a v bs) [.ref a] [] 0 0 (fun _ : Unit => []) (fun (r : Int32) (_ : Unit) => r = (iz (bs.length : Int))) := by
  refine Ci_intro (cc := cJ0_length_8abf5) (maxL := 1) (ret := (some .int)) (by decide) rfl (Nat.le_of_ble_eq_true rfl) ?_
  intro p e s m below meth c A F hA hP hD hK hE ls hl
  have hX_ := F.1
  have hB_ := F.2.1
  have hts := F.2.2.2.2.2.1
  have hown := F.2.2.2.2.1
  have hml := F.2.2.2.1
  have hS : va_S A s.heap s.heap [] := va_S.rf
  have hl : lv_has ls 1 [(0, .ref a)] := hl
  refine lv_aload_n hX_ hB_ dJ0_length_8abf5_0 rfl (lv_at hl 0 rfl) ?_
  refine vk_getf (v := .ref v) hX_ hB_ hE.2.2.2.1 hS hown (hts _ hw_J0_length_8abf5_16026c) (fun _ h9 => h9) dJ0_length_8abf5_1 ?_
  refine va_tlen (v := iz (bs.length : Int)) hX_ hB_ hE.2.2.2.2 hS rfl dJ0_length_8abf5_4 ?_
  refine lv_aload_n hX_ hB_ dJ0_length_8abf5_5 rfl (lv_at hl 0 rfl) ?_
  refine back_i (wr := []) (run_V (As := []) (rest := [.int (iz (bs.length : Int))]) (wc := []) F (c_J0_coder_7d493 l G fo a v bs _) (estr_ext fo a v bs) gJ0_length_8abf5_J0_coder_7d493 rfl rfl rfl mdv_J0_coder_7d493 ⟨Nat.le_of_ble_eq_true rfl, Nat.le_of_ble_eq_true rfl⟩ (va_Orecv hE.2.1 hS) (pre_of (estr_ext fo a v bs) hK hP hD hS hA hE [] (by decide) rfl _) rfl hl.1 (Nat.le_of_ble_eq_true rfl) dJ0_length_8abf5_6 ⟨by decide, by decide⟩) hP hD hS hA [] [] rfl rfl (by decide) (by decide) (fun r__ u__ H locs hw hP hD hS => ?_)
  subst hw
  have hP := hP.sub (ws' := []) [] rfl
  have hD := hD.sub (ws' := []) [] (by decide) rfl
  refine lv_ishr hX_ hB_ dJ0_length_8abf5_9 ?_
  refine zk_topi (y := (iz (bs.length : Int))) (iz_shr0 (by omega) (by omega)) ?_
  exact fin_i (wf := (fun _ : Unit => [])) () F rfl hP hD hK hS (by decide) (by decide) dJ0_length_8abf5_10 rfl

set_option maxHeartbeats 4000000 in
set_option maxRecDepth 100000 in
theorem c_J3_checkIndex_r (l : Launch) (G : GG) (x : Int) (n : Int) (q : Nat) (hx0 : 0 ≤ x ∧ x < n ∧ n < 100000) : Ci l yJ3_checkIndex_8e157 wsJ3_checkIndex_8e157 ({ frames := 0, cells := 0, slots := 0, locals := 0 }) G E0 [.int (iz x), .int (iz n), .ref q] [] 0 0 (fun _ : Unit => []) (fun (r : Int32) (_ : Unit) => r = (iz x)) := by
  refine Ci_intro (cc := cJ3_checkIndex_8e157) (maxL := 3) (ret := (some .int)) (by decide) rfl (Nat.le_of_ble_eq_true rfl) ?_
  intro p e s m below meth c A F hA hP hD hK hE ls hl
  have hX_ := F.1
  have hB_ := F.2.1
  have hts := F.2.2.2.2.2.1
  have hown := F.2.2.2.2.1
  have hml := F.2.2.2.1
  have hS : va_S A s.heap s.heap [] := va_S.rf
  have hl : lv_has ls 3 [(0, .int (iz x)), (1, .int (iz n)), (2, .ref q)] := hl
  refine lv_iload_n hX_ hB_ dJ3_checkIndex_8e157_0 rfl (lv_at hl 0 rfl) ?_
  refine zk_if_lt (tgt := 9) hX_ hB_ (by omega) dJ3_checkIndex_8e157_1 (by decide) (fun c_1 => ?_) (fun c_1 => ?_)
  · skip
    exfalso; omega
  · skip
    refine lv_iload_n hX_ hB_ dJ3_checkIndex_8e157_4 rfl (lv_at hl 0 rfl) ?_
    refine lv_iload_n hX_ hB_ dJ3_checkIndex_8e157_5 rfl (lv_at hl 1 rfl) ?_
    refine zk_icmp_lt (tgt := 16) hX_ hB_ (by omega) (by omega) dJ3_checkIndex_8e157_6 (by decide) (fun c_6 => ?_) (fun c_6 => ?_)
    · skip
      refine lv_iload_n hX_ hB_ dJ3_checkIndex_8e157_16 rfl (lv_at hl 0 rfl) ?_
      exact fin_i (wf := (fun _ : Unit => [])) () F rfl hP hD hK hS (by decide) (by decide) dJ3_checkIndex_8e157_17 rfl
    · skip
      exfalso; omega

set_option maxHeartbeats 4000000 in
set_option maxRecDepth 100000 in
theorem c_J3_checkIndex_n (l : Launch) (G : GG) (x : Int) (n : Int) (hx0 : 0 ≤ x ∧ x < n ∧ n < 100000) : Ci l yJ3_checkIndex_8e157 wsJ3_checkIndex_8e157 ({ frames := 0, cells := 0, slots := 0, locals := 0 }) G E0 [.int (iz x), .int (iz n), .null] [] 0 0 (fun _ : Unit => []) (fun (r : Int32) (_ : Unit) => r = (iz x)) := by
  refine Ci_intro (cc := cJ3_checkIndex_8e157) (maxL := 3) (ret := (some .int)) (by decide) rfl (Nat.le_of_ble_eq_true rfl) ?_
  intro p e s m below meth c A F hA hP hD hK hE ls hl
  have hX_ := F.1
  have hB_ := F.2.1
  have hts := F.2.2.2.2.2.1
  have hown := F.2.2.2.2.1
  have hml := F.2.2.2.1
  have hS : va_S A s.heap s.heap [] := va_S.rf
  have hl : lv_has ls 3 [(0, .int (iz x)), (1, .int (iz n)), (2, .null)] := hl
  refine lv_iload_n hX_ hB_ dJ3_checkIndex_8e157_0 rfl (lv_at hl 0 rfl) ?_
  refine zk_if_lt (tgt := 9) hX_ hB_ (by omega) dJ3_checkIndex_8e157_1 (by decide) (fun c_1 => ?_) (fun c_1 => ?_)
  · skip
    exfalso; omega
  · skip
    refine lv_iload_n hX_ hB_ dJ3_checkIndex_8e157_4 rfl (lv_at hl 0 rfl) ?_
    refine lv_iload_n hX_ hB_ dJ3_checkIndex_8e157_5 rfl (lv_at hl 1 rfl) ?_
    refine zk_icmp_lt (tgt := 16) hX_ hB_ (by omega) (by omega) dJ3_checkIndex_8e157_6 (by decide) (fun c_6 => ?_) (fun c_6 => ?_)
    · skip
      refine lv_iload_n hX_ hB_ dJ3_checkIndex_8e157_16 rfl (lv_at hl 0 rfl) ?_
      exact fin_i (wf := (fun _ : Unit => [])) () F rfl hP hD hK hS (by decide) (by decide) dJ3_checkIndex_8e157_17 rfl
    · skip
      exfalso; omega

theorem hw_J0_checkIndex_df160_724dfa : (.fieldLink RJ0 1053 "jdk/internal/util/Preconditions" "SIOOBE_FORMATTER" "Ljava/util/function/BiFunction;" : Cond) ∈ wsJ0_checkIndex_df160 := by decide +kernel
theorem mds_J3_checkIndex_8e157 : yJ3_checkIndex_8e157.cls ≠ "java/lang/invoke/MethodHandle" ∧ yJ3_checkIndex_8e157.cls ≠ "java/lang/invoke/VarHandle" ∧ (parseMethodDescriptor yJ3_checkIndex_8e157.desc).map (fun d => d.parameters.length) = some 3 := by decide +kernel
set_option maxHeartbeats 4000000 in
set_option maxRecDepth 100000 in
theorem c_J0_checkIndex_df160 (l : Launch) (G : GG) (fo : Option Nat) (x : Int) (n : Int) (hx0 : 0 ≤ x ∧ x < n ∧ n < 100000) : Cv l yJ0_checkIndex_df160 wsJ0_checkIndex_df160 ({ frames := 1, cells := 0, slots := 0, locals := 22 }) G (StrVm fo) [.int (iz x), .int (iz n)] [] 0 0 (fun _ : Unit => []) (fun (_ : Unit) => True) := by
  refine Cv_intro (cc := cJ0_checkIndex_df160) (maxL := 2) (ret := none) (by decide) rfl (Nat.le_of_ble_eq_true rfl) ?_
  intro p e s m below meth c A F hA hP hD hK hE ls hl
  have hX_ := F.1
  have hB_ := F.2.1
  have hts := F.2.2.2.2.2.1
  have hown := F.2.2.2.2.1
  have hml := F.2.2.2.1
  have hS : va_S A s.heap s.heap [] := va_S.rf
  have hl : lv_has ls 2 [(0, .int (iz x)), (1, .int (iz n))] := hl
  refine lv_iload_n hX_ hB_ dJ0_checkIndex_df160_0 rfl (lv_at hl 0 rfl) ?_
  refine lv_iload_n hX_ hB_ dJ0_checkIndex_df160_1 rfl (lv_at hl 1 rfl) ?_
  refine va_gets (v := va_rf fo) hX_ hB_ hE.2 hS hown (hts _ hw_J0_checkIndex_df160_724dfa) (fun _ h9 => h9) dJ0_checkIndex_df160_2 ?_
  rcases fo with _ | q
  · skip
    refine back_i (wr := []) (run_S (As := [.int (iz x), .int (iz n), .null]) (rest := []) (wc := []) F (c_J3_checkIndex_n l G x n (by omega) _) ext0 gJ0_checkIndex_df160_J3_checkIndex_8e157 rfl rfl rfl mds_J3_checkIndex_8e157 ⟨Nat.le_of_ble_eq_true rfl, Nat.le_of_ble_eq_true rfl⟩ (pre_of ext0 hK hP hD hS hA trivial [] (by decide) rfl _) rfl hl.1 (Nat.le_of_ble_eq_true rfl) dJ0_checkIndex_df160_5 ⟨by decide, by decide⟩) hP hD hS hA [] [] rfl rfl (by decide) (by decide) (fun r__ u__ H locs hw hP hD hS => ?_)
    subst hw
    have hP := hP.sub (ws' := []) [] rfl
    have hD := hD.sub (ws' := []) [] (by decide) rfl
    refine lv_pop hX_ hB_ dJ0_checkIndex_df160_8 rfl ?_
    exact fin_v (wf := (fun _ : Unit => [])) () F hP hD hK hS (by decide) (by decide) dJ0_checkIndex_df160_9 trivial
  · skip
    refine back_i (wr := []) (run_S (As := [.int (iz x), .int (iz n), .ref q]) (rest := []) (wc := []) F (c_J3_checkIndex_r l G x n q (by omega) _) ext0 gJ0_checkIndex_df160_J3_checkIndex_8e157 rfl rfl rfl mds_J3_checkIndex_8e157 ⟨Nat.le_of_ble_eq_true rfl, Nat.le_of_ble_eq_true rfl⟩ (pre_of ext0 hK hP hD hS hA trivial [] (by decide) rfl _) rfl hl.1 (Nat.le_of_ble_eq_true rfl) dJ0_checkIndex_df160_5 ⟨by decide, by decide⟩) hP hD hS hA [] [] rfl rfl (by decide) (by decide) (fun r__ u__ H locs hw hP hD hS => ?_)
    subst hw
    have hP := hP.sub (ws' := []) [] rfl
    have hD := hD.sub (ws' := []) [] (by decide) rfl
    refine lv_pop hX_ hB_ dJ0_checkIndex_df160_8 rfl ?_
    exact fin_v (wf := (fun _ : Unit => [])) () F hP hD hK hS (by decide) (by decide) dJ0_checkIndex_df160_9 trivial

theorem mds_J0_checkIndex_df160 : yJ0_checkIndex_df160.cls ≠ "java/lang/invoke/MethodHandle" ∧ yJ0_checkIndex_df160.cls ≠ "java/lang/invoke/VarHandle" ∧ (parseMethodDescriptor yJ0_checkIndex_df160.desc).map (fun d => d.parameters.length) = some 2 := by decide +kernel
set_option maxHeartbeats 4000000 in
set_option maxRecDepth 100000 in
theorem c_J1_charAt_3b067 (l : Launch) (G : GG) (fo : Option Nat) (v : Nat) (bs : List Int) (x : Int) (hbl : bs.length < 1000) (hx0 : 0 ≤ x ∧ x < bs.length) (hbs : ∀ k : Nat, 0 ≤ bs.getD k 0 ∧ bs.getD k 0 < 256) : Ci l yJ1_charAt_3b067 wsJ1_charAt_3b067 ({ frames := 2, cells := 0, slots := 0, locals := 43 }) G (EByt fo v bs) [.ref v, .int (iz x)] [] 0 0 (fun _ : Unit => []) (fun (r : Int32) (_ : Unit) => r = (iz (bs.getD x.toNat 0))) := by
  refine Ci_intro (cc := cJ1_charAt_3b067) (maxL := 2) (ret := (some .char)) (by decide) rfl (Nat.le_of_ble_eq_true rfl) ?_
  intro p e s m below meth c A F hA hP hD hK hE ls hl
  have hX_ := F.1
  have hB_ := F.2.1
  have hts := F.2.2.2.2.2.1
  have hown := F.2.2.2.2.1
  have hml := F.2.2.2.1
  have hS : va_S A s.heap s.heap [] := va_S.rf
  have hl : lv_has ls 2 [(0, .ref v), (1, .int (iz x))] := hl
  refine lv_iload_n hX_ hB_ dJ1_charAt_3b067_0 rfl (lv_at hl 1 rfl) ?_
  refine lv_aload_n hX_ hB_ dJ1_charAt_3b067_1 rfl (lv_at hl 0 rfl) ?_
  refine va_tlen (v := iz (bs.length : Int)) hX_ hB_ hE.2 hS rfl dJ1_charAt_3b067_2 ?_
  refine back_v (wr := []) (run_S (As := [.int (iz x), .int (iz (bs.length : Int))]) (rest := []) (wc := []) F (c_J0_checkIndex_df160 l G fo x (bs.length : Int) (by omega) _) (strVm_ext fo) gJ1_charAt_3b067_J0_checkIndex_df160 rfl rfl rfl mds_J0_checkIndex_df160 ⟨Nat.le_of_ble_eq_true rfl, Nat.le_of_ble_eq_true rfl⟩ (pre_of (strVm_ext fo) hK hP hD hS hA hE.1 [] (by decide) rfl _) rfl hl.1 (Nat.le_of_ble_eq_true rfl) dJ1_charAt_3b067_3 ⟨by decide, by decide⟩) hP hD hS hA [] [] rfl rfl (by decide) (by decide) (fun u__ H locs hw hP hD hS => ?_)
  have hw_3 := hw
  have hP := hP.sub (ws' := []) [] rfl
  have hD := hD.sub (ws' := []) [] (by decide) rfl
  refine lv_aload_n hX_ hB_ dJ1_charAt_3b067_6 rfl (lv_at hl 0 rfl) ?_
  refine lv_iload_n hX_ hB_ dJ1_charAt_3b067_7 rfl (lv_at hl 1 rfl) ?_
  refine va_tb (v := .int (iz (bs.getD x.toNat 0))) hX_ hB_ hE.2 hS (iz_in (by omega) (by omega)) (by rw [iz_cl (by omega)]) dJ1_charAt_3b067_8 ?_
  refine zk_sipush hX_ hB_ (by decide) dJ1_charAt_3b067_9 ?_
  have hbx := hbs x.toNat
  refine lv_iand hX_ hB_ dJ1_charAt_3b067_12 ?_
  refine zk_topi (y := (iz (bs.getD x.toNat 0))) (iz_and255 hbx.1 hbx.2) ?_
  refine lv_i2c hX_ hB_ dJ1_charAt_3b067_13 rfl ?_
  refine zk_topi (y := (iz (bs.getD x.toNat 0))) (i2c_z hbx.1 hbx.2) ?_
  exact fin_i (wf := (fun _ : Unit => [])) () F (nar_cz hbx.1 hbx.2) hP hD hK hS (by decide) (by decide) dJ1_charAt_3b067_14 rfl

theorem mdv_J0_isLatin1_aae02 : yJ0_isLatin1_aae02.cls = RJ0 ∧ yJ0_isLatin1_aae02.cls ≠ "java/lang/invoke/MethodHandle" ∧ yJ0_isLatin1_aae02.cls ≠ "java/lang/invoke/VarHandle" ∧ (parseMethodDescriptor yJ0_isLatin1_aae02.desc).map (fun d => d.parameters.length) = some 0 := by decide +kernel
theorem hw_J0_charAt_5068e_16026c : (.fieldLink RJ0 9 "java/lang/String" "value" "[B" : Cond) ∈ wsJ0_charAt_5068e := by decide +kernel
theorem mds_J1_charAt_3b067 : yJ1_charAt_3b067.cls ≠ "java/lang/invoke/MethodHandle" ∧ yJ1_charAt_3b067.cls ≠ "java/lang/invoke/VarHandle" ∧ (parseMethodDescriptor yJ1_charAt_3b067.desc).map (fun d => d.parameters.length) = some 2 := by decide +kernel
set_option maxHeartbeats 4000000 in
set_option maxRecDepth 100000 in
theorem c_J0_charAt_5068e (l : Launch) (G : GG) (fo : Option Nat) (a : Nat) (v : Nat) (bs : List Int) (x : Int) (hbl : bs.length < 1000) (hx0 : 0 ≤ x ∧ x < bs.length) (hbs : ∀ k : Nat, 0 ≤ bs.getD k 0 ∧ bs.getD k 0 < 256) : Ci l yJ0_charAt_5068e wsJ0_charAt_5068e ({ frames := 3, cells := 0, slots := 0, locals := 64 }) G (EStr fo a v bs) [.ref a, .int (iz x)] [] 0 0 (fun _ : Unit => []) (fun (r : Int32) (_ : Unit) => r = (iz (bs.getD x.toNat 0))) := by
  refine Ci_intro (cc := cJ0_charAt_5068e) (maxL := 2) (ret := (some .char)) (by decide) rfl (Nat.le_of_ble_eq_true rfl) ?_
  intro p e s m below meth c A F hA hP hD hK hE ls hl
  have hX_ := F.1
  have hB_ := F.2.1
  have hts := F.2.2.2.2.2.1
  have hown := F.2.2.2.2.1
  have hml := F.2.2.2.1
  have hS : va_S A s.heap s.heap [] := va_S.rf
  have hl : lv_has ls 2 [(0, .ref a), (1, .int (iz x))] := hl
  refine lv_aload_n hX_ hB_ dJ0_charAt_5068e_0 rfl (lv_at hl 0 rfl) ?_
  refine back_i (wr := []) (run_V (As := []) (rest := []) (wc := []) F (c_J0_isLatin1_aae02 l G fo a v bs _) (estr_ext fo a v bs) gJ0_charAt_5068e_J0_isLatin1_aae02 rfl rfl rfl mdv_J0_isLatin1_aae02 ⟨Nat.le_of_ble_eq_true rfl, Nat.le_of_ble_eq_true rfl⟩ (va_Orecv hE.2.1 hS) (pre_of (estr_ext fo a v bs) hK hP hD hS hA hE [] (by decide) rfl _) rfl hl.1 (Nat.le_of_ble_eq_true rfl) dJ0_charAt_5068e_1 ⟨by decide, by decide⟩) hP hD hS hA [] [] rfl rfl (by decide) (by decide) (fun r__ u__ H locs hw hP hD hS => ?_)
  subst hw
  have hP := hP.sub (ws' := []) [] rfl
  have hD := hD.sub (ws' := []) [] (by decide) rfl
  refine zk_bif_eq (tgt := 16) hX_ hB_ dJ0_charAt_5068e_4 (by decide) (fun c_4 => absurd c_4 (by decide)) (fun c_4 => ?_)
  refine lv_aload_n hX_ hB_ dJ0_charAt_5068e_7 rfl (lv_at hl 0 rfl) ?_
  refine vk_getf (v := .ref v) hX_ hB_ hE.2.2.2.1 hS hown (hts _ hw_J0_charAt_5068e_16026c) (fun _ h9 => h9) dJ0_charAt_5068e_8 ?_
  refine lv_iload_n hX_ hB_ dJ0_charAt_5068e_11 rfl (lv_at hl 1 rfl) ?_
  refine back_i (wr := []) (run_S (As := [.ref v, .int (iz x)]) (rest := []) (wc := []) F (c_J1_charAt_3b067 l G fo v bs x (by omega) (by omega) (by exact hbs) _) (ebyt_ext fo v bs) gJ0_charAt_5068e_J1_charAt_3b067 rfl rfl rfl mds_J1_charAt_3b067 ⟨Nat.le_of_ble_eq_true rfl, Nat.le_of_ble_eq_true rfl⟩ (pre_of (ebyt_ext fo v bs) hK hP hD hS hA ⟨hE.1, hE.2.2.2.2⟩ [] (by decide) rfl _) rfl hl.1 (Nat.le_of_ble_eq_true rfl) dJ0_charAt_5068e_12 ⟨by decide, by decide⟩) hP hD hS hA [] [] rfl rfl (by decide) (by decide) (fun r__ u__ H locs hw hP hD hS => ?_)
  subst hw
  have hP := hP.sub (ws' := []) [] rfl
  have hD := hD.sub (ws' := []) [] (by decide) rfl
  have hbx := hbs x.toNat
  exact fin_i (wf := (fun _ : Unit => [])) () F (nar_cz hbx.1 hbx.2) hP hD hK hS (by decide) (by decide) dJ0_charAt_5068e_15 rfl
