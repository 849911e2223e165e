theorem hw_J6_bitCount_0f7a4_9bc275 : (.constant RJ6 265 (1431655765) : Cond) ∈ wsJ6_bitCount_0f7a4 := by decide +kernel
theorem hw_J6_bitCount_0f7a4_d88256 : (.constant RJ6 266 (858993459) : Cond) ∈ wsJ6_bitCount_0f7a4 := by decide +kernel
theorem hw_J6_bitCount_0f7a4_1fe042 : (.constant RJ6 267 (252645135) : Cond) ∈ wsJ6_bitCount_0f7a4 := by decide +kernel
set_option maxHeartbeats 4000000 in
set_option maxRecDepth 100000 in
theorem c_J6_bitCount_0f7a4 (l : Launch) (G : GG) (x : Int32) : Ci l yJ6_bitCount_0f7a4 wsJ6_bitCount_0f7a4 ({ frames := 0, cells := 0, slots := 0, locals := 0 }) G E0 [.int x] [] 0 0 (fun _ : Unit => []) (fun (r : Int32) (_ : Unit) => r = (bc32 x)) := by
  refine Ci_intro (cc := cJ6_bitCount_0f7a4) (maxL := 1) (ret := (some .int)) (by decide) rfl (Nat.le_of_ble_eq_true rfl) ?_
  intro p e s m below meth c A F hA hP hD hK hE ls hl
  have hX_ := F.1
  have hB_ := F.2.1
  have hts := F.2.2.2.2.2.1
  have hown := F.2.2.2.2.1
  have hml := F.2.2.2.1
  have hS : va_S A s.heap s.heap [] := va_S.rf
  have hl : lv_has ls 1 [(0, .int x)] := hl
  refine lv_iload_n hX_ hB_ dJ6_bitCount_0f7a4_0 rfl (lv_at hl 0 rfl) ?_
  refine lv_iload_n hX_ hB_ dJ6_bitCount_0f7a4_1 rfl (lv_at hl 0 rfl) ?_
  refine zk_iconst hX_ hB_ dJ6_bitCount_0f7a4_2 ?_
  refine lv_iushr hX_ hB_ dJ6_bitCount_0f7a4_3 rfl ?_
  refine lv_ldcw hX_ hB_ hown (hts _ hw_J6_bitCount_0f7a4_9bc275) dJ6_bitCount_0f7a4_4 ?_
  refine lv_iand hX_ hB_ dJ6_bitCount_0f7a4_7 ?_
  refine lv_isub hX_ hB_ dJ6_bitCount_0f7a4_8 ?_
  refine zk_topi (y := (b32_0 x)) rfl ?_
  refine lv_istore_n (lv' := [(0, .int (b32_0 x))]) hX_ hB_ dJ6_bitCount_0f7a4_9 rfl hl (by decide) rfl (fun ls hl => ?_)
  refine lv_iload_n hX_ hB_ dJ6_bitCount_0f7a4_10 rfl (lv_at hl 0 rfl) ?_
  refine lv_ldcw hX_ hB_ hown (hts _ hw_J6_bitCount_0f7a4_d88256) dJ6_bitCount_0f7a4_11 ?_
  refine lv_iand hX_ hB_ dJ6_bitCount_0f7a4_14 ?_
  refine lv_iload_n hX_ hB_ dJ6_bitCount_0f7a4_15 rfl (lv_at hl 0 rfl) ?_
  refine zk_iconst hX_ hB_ dJ6_bitCount_0f7a4_16 ?_
  refine lv_iushr hX_ hB_ dJ6_bitCount_0f7a4_17 rfl ?_
  refine lv_ldcw hX_ hB_ hown (hts _ hw_J6_bitCount_0f7a4_d88256) dJ6_bitCount_0f7a4_18 ?_
  refine lv_iand hX_ hB_ dJ6_bitCount_0f7a4_21 ?_
  refine lv_iadd hX_ hB_ dJ6_bitCount_0f7a4_22 ?_
  refine zk_topi (y := (b32_1 (b32_0 x))) rfl ?_
  refine lv_istore_n (lv' := [(0, .int (b32_1 (b32_0 x)))]) hX_ hB_ dJ6_bitCount_0f7a4_23 rfl hl (by decide) rfl (fun ls hl => ?_)
  refine lv_iload_n hX_ hB_ dJ6_bitCount_0f7a4_24 rfl (lv_at hl 0 rfl) ?_
  refine lv_iload_n hX_ hB_ dJ6_bitCount_0f7a4_25 rfl (lv_at hl 0 rfl) ?_
  refine zk_iconst hX_ hB_ dJ6_bitCount_0f7a4_26 ?_
  refine lv_iushr hX_ hB_ dJ6_bitCount_0f7a4_27 rfl ?_
  refine lv_iadd hX_ hB_ dJ6_bitCount_0f7a4_28 ?_
  refine lv_ldcw hX_ hB_ hown (hts _ hw_J6_bitCount_0f7a4_1fe042) dJ6_bitCount_0f7a4_29 ?_
  refine lv_iand hX_ hB_ dJ6_bitCount_0f7a4_32 ?_
  refine zk_topi (y := (b32_2 (b32_1 (b32_0 x)))) rfl ?_
  refine lv_istore_n (lv' := [(0, .int (b32_2 (b32_1 (b32_0 x))))]) hX_ hB_ dJ6_bitCount_0f7a4_33 rfl hl (by decide) rfl (fun ls hl => ?_)
  refine lv_iload_n hX_ hB_ dJ6_bitCount_0f7a4_34 rfl (lv_at hl 0 rfl) ?_
  refine lv_iload_n hX_ hB_ dJ6_bitCount_0f7a4_35 rfl (lv_at hl 0 rfl) ?_
  refine zk_bipush hX_ hB_ (by decide) dJ6_bitCount_0f7a4_36 ?_
  refine lv_iushr hX_ hB_ dJ6_bitCount_0f7a4_38 rfl ?_
  refine lv_iadd hX_ hB_ dJ6_bitCount_0f7a4_39 ?_
  refine zk_topi (y := (b32_3 (b32_2 (b32_1 (b32_0 x))))) rfl ?_
  refine lv_istore_n (lv' := [(0, .int (b32_3 (b32_2 (b32_1 (b32_0 x)))))]) hX_ hB_ dJ6_bitCount_0f7a4_40 rfl hl (by decide) rfl (fun ls hl => ?_)
  refine lv_iload_n hX_ hB_ dJ6_bitCount_0f7a4_41 rfl (lv_at hl 0 rfl) ?_
  refine lv_iload_n hX_ hB_ dJ6_bitCount_0f7a4_42 rfl (lv_at hl 0 rfl) ?_
  refine zk_bipush hX_ hB_ (by decide) dJ6_bitCount_0f7a4_43 ?_
  refine lv_iushr hX_ hB_ dJ6_bitCount_0f7a4_45 rfl ?_
  refine lv_iadd hX_ hB_ dJ6_bitCount_0f7a4_46 ?_
  refine zk_topi (y := (b32_4 (b32_3 (b32_2 (b32_1 (b32_0 x)))))) rfl ?_
  refine lv_istore_n (lv' := [(0, .int (b32_4 (b32_3 (b32_2 (b32_1 (b32_0 x))))))]) hX_ hB_ dJ6_bitCount_0f7a4_47 rfl hl (by decide) rfl (fun ls hl => ?_)
  refine lv_iload_n hX_ hB_ dJ6_bitCount_0f7a4_48 rfl (lv_at hl 0 rfl) ?_
  refine zk_bipush hX_ hB_ (by decide) dJ6_bitCount_0f7a4_49 ?_
  refine lv_iand hX_ hB_ dJ6_bitCount_0f7a4_51 ?_
  refine zk_topi (y := (b32_5 (b32_4 (b32_3 (b32_2 (b32_1 (b32_0 x))))))) rfl ?_
  exact fin_i (wf := (fun _ : Unit => [])) () F rfl hP hD hK hS (by decide) (by decide) dJ6_bitCount_0f7a4_52 rfl
