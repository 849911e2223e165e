/-- a day; its signs by their numbers, the moon behind them -/
def isDay (d : Int) : Bool := decide (1152000 ≤ d ∧ d ≤ 1583999)
def sgn (d k b : Int) : Int := if k = 0 then d / 144000 else if k = 1 then d % 144000 / 7200 else if k = 2 then d % 7200 / 360 else if k = 3 then d % 360 / 20 else if k = 4 then d % 20 else if k = 5 then (d + 3) % 13 + 1 else if k = 6 then (d + 19) % 20 else if k = 7 then (d + 348) % 365 % 20 else if k = 8 then (d + 348) % 365 / 20 else if k = 9 then (d + 8) % 9 + 1 else (d + b) * 149 % 4400 / 149
def hold (x : Int32) (v : Int) : Bool := decide (0 ≤ v ∧ v < 32) && !decide (((x >>> (iz v &&& 31)) &&& iz 1) = 0)

theorem hw_X0_has_65b443 : (.constant RX0 11 (1152000) : Cond) ∈ wsX0_has := by decide +kernel
theorem hw_X0_has_2940ae : (.constant RX0 12 (1583999) : Cond) ∈ wsX0_has := by decide +kernel
set_option maxHeartbeats 4000000 in
set_option maxRecDepth 100000 in
theorem c_X0_has (l : Launch) (G : GG) (d : Int) (hd : R31 d) : Ci l yX0_has wsX0_has ({ frames := 0, cells := 0, slots := 0, locals := 0 }) G E0 [.int (iz d)] [] 0 0 (fun _ : Unit => []) (fun (r : Int32) (_ : Unit) => r = (zb (isDay d))) := by
  refine Ci_intro (cc := cX0_has) (maxL := 1) (ret := (some .boolean)) (by decide) rfl (Nat.le_of_ble_eq_true rfl) ?_
  intro p e s m below meth c A F hA hP hD hK hE ls hl
  have hX_ := F.1
  have hB_ := F.2.1
  have hts := F.2.2.2.2.2.1
  have hown := F.2.2.2.2.1
  have hml := F.2.2.2.1
  have hS : va_S A s.heap s.heap [] := va_S.rf
  have hl : lv_has ls 1 [(0, .int (iz d))] := hl
  refine lv_iload_n hX_ hB_ dX0_has_0 rfl (lv_at hl 0 rfl) ?_
  refine zk_ldc hX_ hB_ (1152000) hown (hts _ hw_X0_has_65b443) (by decide) dX0_has_1 ?_
  refine zk_icmp_lt (tgt := 16) hX_ hB_ (by omega) (by omega) dX0_has_3 (by decide) (fun c_3 => ?_) (fun c_3 => ?_)
  · skip
    refine zk_iconst hX_ hB_ dX0_has_16 ?_
    refine zk_topi (y := zb false) rfl ?_
    exact fin_i (wf := (fun _ : Unit => [])) () F (zb_nar _) hP hD hK hS (by decide) (by decide) dX0_has_17 (by refine congrArg zb ?_; unfold isDay; simp; omega)
  · skip
    refine lv_iload_n hX_ hB_ dX0_has_6 rfl (lv_at hl 0 rfl) ?_
    refine zk_ldc hX_ hB_ (1583999) hown (hts _ hw_X0_has_2940ae) (by decide) dX0_has_7 ?_
    refine zk_icmp_gt (tgt := 16) hX_ hB_ (by omega) (by omega) dX0_has_9 (by decide) (fun c_9 => ?_) (fun c_9 => ?_)
    · skip
      refine zk_iconst hX_ hB_ dX0_has_16 ?_
      refine zk_topi (y := zb false) rfl ?_
      exact fin_i (wf := (fun _ : Unit => [])) () F (zb_nar _) hP hD hK hS (by decide) (by decide) dX0_has_17 (by refine congrArg zb ?_; unfold isDay; simp; omega)
    · skip
      refine zk_iconst hX_ hB_ dX0_has_12 ?_
      refine lv_goto (tgt := 17) hX_ hB_ dX0_has_13 (by decide) ?_
      refine zk_topi (y := zb true) rfl ?_
      exact fin_i (wf := (fun _ : Unit => [])) () F (zb_nar _) hP hD hK hS (by decide) (by decide) dX0_has_17 (by refine congrArg zb ?_; unfold isDay; simp; omega)

theorem hw_X0_signOf_1967f3 : (.constant RX0 13 (144000) : Cond) ∈ wsX0_signOf := by decide +kernel
set_option maxHeartbeats 4000000 in
set_option maxRecDepth 100000 in
theorem c_X0_signOf (l : Launch) (G : GG) (d : Int) (k : Int) (b : Int) (hd : 0 ≤ d ∧ d < 2000000) (hk : R31 k) (hb0 : 0 ≤ b ∧ b < 4400) : Ci l yX0_signOf wsX0_signOf ({ frames := 0, cells := 0, slots := 0, locals := 0 }) G E0 [.int (iz d), .int (iz k), .int (iz b)] [] 0 0 (fun _ : Unit => []) (fun (r : Int32) (_ : Unit) => r = (iz (sgn d k b))) := by
  refine Ci_intro (cc := cX0_signOf) (maxL := 3) (ret := (some .int)) (by decide) rfl (Nat.le_of_ble_eq_true rfl) ?_
  intro p e s m below meth c A F hA hP hD hK hE ls hl
  have hX_ := F.1
  have hB_ := F.2.1
  have hts := F.2.2.2.2.2.1
  have hown := F.2.2.2.2.1
  have hml := F.2.2.2.1
  have hS : va_S A s.heap s.heap [] := va_S.rf
  have hl : lv_has ls 3 [(0, .int (iz d)), (1, .int (iz k)), (2, .int (iz b))] := hl
  refine lv_iload_n hX_ hB_ dX0_signOf_0 rfl (lv_at hl 1 rfl) ?_
  by_cases t_1_0 : k = 0
  · skip
    refine zk_tableIn (tgt := 56) hX_ hB_ dX0_signOf_1 (off := 55) (by omega) (by omega) (by omega) (by rw [t_1_0]; rfl) (by decide) ?_
    refine lv_iload_n hX_ hB_ dX0_signOf_56 rfl (lv_at hl 0 rfl) ?_
    refine zk_ldc hX_ hB_ (144000) hown (hts _ hw_X0_signOf_1967f3) (by decide) dX0_signOf_57 ?_
    refine zk_idiv hX_ hB_ (by omega) (by omega) (by omega) (by omega) dX0_signOf_59 ?_
    exact fin_i (wf := (fun _ : Unit => [])) () F rfl hP hD hK hS (by decide) (by decide) dX0_signOf_60 (by refine congrArg iz ?_; unfold sgn; (try rw [t_1_0]); (try rw [t_1_1]); (try rw [t_1_2]); (try rw [t_1_3]); (try rw [t_1_4]); (try rw [t_1_5]); (try rw [t_1_6]); (try rw [t_1_7]); (try rw [t_1_8]); (try rw [t_1_9]); simp [*])
  by_cases t_1_1 : k = 1
  · skip
    refine zk_tableIn (tgt := 61) hX_ hB_ dX0_signOf_1 (off := 60) (by omega) (by omega) (by omega) (by rw [t_1_1]; rfl) (by decide) ?_
    refine lv_iload_n hX_ hB_ dX0_signOf_61 rfl (lv_at hl 0 rfl) ?_
    refine zk_ldc hX_ hB_ (144000) hown (hts _ hw_X0_signOf_1967f3) (by decide) dX0_signOf_62 ?_
    refine zk_irem hX_ hB_ (by omega) (by omega) (by omega) (by omega) dX0_signOf_64 ?_
    refine zk_sipush hX_ hB_ (by decide) dX0_signOf_65 ?_
    refine zk_idiv hX_ hB_ (by omega) (by omega) (by omega) (by omega) dX0_signOf_68 ?_
    exact fin_i (wf := (fun _ : Unit => [])) () F rfl hP hD hK hS (by decide) (by decide) dX0_signOf_69 (by refine congrArg iz ?_; unfold sgn; (try rw [t_1_0]); (try rw [t_1_1]); (try rw [t_1_2]); (try rw [t_1_3]); (try rw [t_1_4]); (try rw [t_1_5]); (try rw [t_1_6]); (try rw [t_1_7]); (try rw [t_1_8]); (try rw [t_1_9]); simp [*])
  by_cases t_1_2 : k = 2
  · skip
    refine zk_tableIn (tgt := 70) hX_ hB_ dX0_signOf_1 (off := 69) (by omega) (by omega) (by omega) (by rw [t_1_2]; rfl) (by decide) ?_
    refine lv_iload_n hX_ hB_ dX0_signOf_70 rfl (lv_at hl 0 rfl) ?_
    refine zk_sipush hX_ hB_ (by decide) dX0_signOf_71 ?_
    refine zk_irem hX_ hB_ (by omega) (by omega) (by omega) (by omega) dX0_signOf_74 ?_
    refine zk_sipush hX_ hB_ (by decide) dX0_signOf_75 ?_
    refine zk_idiv hX_ hB_ (by omega) (by omega) (by omega) (by omega) dX0_signOf_78 ?_
    exact fin_i (wf := (fun _ : Unit => [])) () F rfl hP hD hK hS (by decide) (by decide) dX0_signOf_79 (by refine congrArg iz ?_; unfold sgn; (try rw [t_1_0]); (try rw [t_1_1]); (try rw [t_1_2]); (try rw [t_1_3]); (try rw [t_1_4]); (try rw [t_1_5]); (try rw [t_1_6]); (try rw [t_1_7]); (try rw [t_1_8]); (try rw [t_1_9]); simp [*])
  by_cases t_1_3 : k = 3
  · skip
    refine zk_tableIn (tgt := 80) hX_ hB_ dX0_signOf_1 (off := 79) (by omega) (by omega) (by omega) (by rw [t_1_3]; rfl) (by decide) ?_
    refine lv_iload_n hX_ hB_ dX0_signOf_80 rfl (lv_at hl 0 rfl) ?_
    refine zk_sipush hX_ hB_ (by decide) dX0_signOf_81 ?_
    refine zk_irem hX_ hB_ (by omega) (by omega) (by omega) (by omega) dX0_signOf_84 ?_
    refine zk_bipush hX_ hB_ (by decide) dX0_signOf_85 ?_
    refine zk_idiv hX_ hB_ (by omega) (by omega) (by omega) (by omega) dX0_signOf_87 ?_
    exact fin_i (wf := (fun _ : Unit => [])) () F rfl hP hD hK hS (by decide) (by decide) dX0_signOf_88 (by refine congrArg iz ?_; unfold sgn; (try rw [t_1_0]); (try rw [t_1_1]); (try rw [t_1_2]); (try rw [t_1_3]); (try rw [t_1_4]); (try rw [t_1_5]); (try rw [t_1_6]); (try rw [t_1_7]); (try rw [t_1_8]); (try rw [t_1_9]); simp [*])
  by_cases t_1_4 : k = 4
  · skip
    refine zk_tableIn (tgt := 89) hX_ hB_ dX0_signOf_1 (off := 88) (by omega) (by omega) (by omega) (by rw [t_1_4]; rfl) (by decide) ?_
    refine lv_iload_n hX_ hB_ dX0_signOf_89 rfl (lv_at hl 0 rfl) ?_
    refine zk_bipush hX_ hB_ (by decide) dX0_signOf_90 ?_
    refine zk_irem hX_ hB_ (by omega) (by omega) (by omega) (by omega) dX0_signOf_92 ?_
    exact fin_i (wf := (fun _ : Unit => [])) () F rfl hP hD hK hS (by decide) (by decide) dX0_signOf_93 (by refine congrArg iz ?_; unfold sgn; (try rw [t_1_0]); (try rw [t_1_1]); (try rw [t_1_2]); (try rw [t_1_3]); (try rw [t_1_4]); (try rw [t_1_5]); (try rw [t_1_6]); (try rw [t_1_7]); (try rw [t_1_8]); (try rw [t_1_9]); simp [*])
  by_cases t_1_5 : k = 5
  · skip
    refine zk_tableIn (tgt := 94) hX_ hB_ dX0_signOf_1 (off := 93) (by omega) (by omega) (by omega) (by rw [t_1_5]; rfl) (by decide) ?_
    refine lv_iload_n hX_ hB_ dX0_signOf_94 rfl (lv_at hl 0 rfl) ?_
    refine zk_iconst hX_ hB_ dX0_signOf_95 ?_
    refine zk_iadd hX_ hB_ dX0_signOf_96 ?_
    refine zk_bipush hX_ hB_ (by decide) dX0_signOf_97 ?_
    refine zk_irem hX_ hB_ (by omega) (by omega) (by omega) (by omega) dX0_signOf_99 ?_
    refine zk_iconst hX_ hB_ dX0_signOf_100 ?_
    refine zk_iadd hX_ hB_ dX0_signOf_101 ?_
    exact fin_i (wf := (fun _ : Unit => [])) () F rfl hP hD hK hS (by decide) (by decide) dX0_signOf_102 (by refine congrArg iz ?_; unfold sgn; (try rw [t_1_0]); (try rw [t_1_1]); (try rw [t_1_2]); (try rw [t_1_3]); (try rw [t_1_4]); (try rw [t_1_5]); (try rw [t_1_6]); (try rw [t_1_7]); (try rw [t_1_8]); (try rw [t_1_9]); simp [*])
  by_cases t_1_6 : k = 6
  · skip
    refine zk_tableIn (tgt := 103) hX_ hB_ dX0_signOf_1 (off := 102) (by omega) (by omega) (by omega) (by rw [t_1_6]; rfl) (by decide) ?_
    refine lv_iload_n hX_ hB_ dX0_signOf_103 rfl (lv_at hl 0 rfl) ?_
    refine zk_bipush hX_ hB_ (by decide) dX0_signOf_104 ?_
    refine zk_iadd hX_ hB_ dX0_signOf_106 ?_
    refine zk_bipush hX_ hB_ (by decide) dX0_signOf_107 ?_
    refine zk_irem hX_ hB_ (by omega) (by omega) (by omega) (by omega) dX0_signOf_109 ?_
    exact fin_i (wf := (fun _ : Unit => [])) () F rfl hP hD hK hS (by decide) (by decide) dX0_signOf_110 (by refine congrArg iz ?_; unfold sgn; (try rw [t_1_0]); (try rw [t_1_1]); (try rw [t_1_2]); (try rw [t_1_3]); (try rw [t_1_4]); (try rw [t_1_5]); (try rw [t_1_6]); (try rw [t_1_7]); (try rw [t_1_8]); (try rw [t_1_9]); simp [*])
  by_cases t_1_7 : k = 7
  · skip
    refine zk_tableIn (tgt := 111) hX_ hB_ dX0_signOf_1 (off := 110) (by omega) (by omega) (by omega) (by rw [t_1_7]; rfl) (by decide) ?_
    refine lv_iload_n hX_ hB_ dX0_signOf_111 rfl (lv_at hl 0 rfl) ?_
    refine zk_sipush hX_ hB_ (by decide) dX0_signOf_112 ?_
    refine zk_iadd hX_ hB_ dX0_signOf_115 ?_
    refine zk_sipush hX_ hB_ (by decide) dX0_signOf_116 ?_
    refine zk_irem hX_ hB_ (by omega) (by omega) (by omega) (by omega) dX0_signOf_119 ?_
    refine zk_bipush hX_ hB_ (by decide) dX0_signOf_120 ?_
    refine zk_irem hX_ hB_ (by omega) (by omega) (by omega) (by omega) dX0_signOf_122 ?_
    exact fin_i (wf := (fun _ : Unit => [])) () F rfl hP hD hK hS (by decide) (by decide) dX0_signOf_123 (by refine congrArg iz ?_; unfold sgn; (try rw [t_1_0]); (try rw [t_1_1]); (try rw [t_1_2]); (try rw [t_1_3]); (try rw [t_1_4]); (try rw [t_1_5]); (try rw [t_1_6]); (try rw [t_1_7]); (try rw [t_1_8]); (try rw [t_1_9]); simp [*])
  by_cases t_1_8 : k = 8
  · skip
    refine zk_tableIn (tgt := 124) hX_ hB_ dX0_signOf_1 (off := 123) (by omega) (by omega) (by omega) (by rw [t_1_8]; rfl) (by decide) ?_
    refine lv_iload_n hX_ hB_ dX0_signOf_124 rfl (lv_at hl 0 rfl) ?_
    refine zk_sipush hX_ hB_ (by decide) dX0_signOf_125 ?_
    refine zk_iadd hX_ hB_ dX0_signOf_128 ?_
    refine zk_sipush hX_ hB_ (by decide) dX0_signOf_129 ?_
    refine zk_irem hX_ hB_ (by omega) (by omega) (by omega) (by omega) dX0_signOf_132 ?_
    refine zk_bipush hX_ hB_ (by decide) dX0_signOf_133 ?_
    refine zk_idiv hX_ hB_ (by omega) (by omega) (by omega) (by omega) dX0_signOf_135 ?_
    exact fin_i (wf := (fun _ : Unit => [])) () F rfl hP hD hK hS (by decide) (by decide) dX0_signOf_136 (by refine congrArg iz ?_; unfold sgn; (try rw [t_1_0]); (try rw [t_1_1]); (try rw [t_1_2]); (try rw [t_1_3]); (try rw [t_1_4]); (try rw [t_1_5]); (try rw [t_1_6]); (try rw [t_1_7]); (try rw [t_1_8]); (try rw [t_1_9]); simp [*])
  by_cases t_1_9 : k = 9
  · skip
    refine zk_tableIn (tgt := 137) hX_ hB_ dX0_signOf_1 (off := 136) (by omega) (by omega) (by omega) (by rw [t_1_9]; rfl) (by decide) ?_
    refine lv_iload_n hX_ hB_ dX0_signOf_137 rfl (lv_at hl 0 rfl) ?_
    refine zk_bipush hX_ hB_ (by decide) dX0_signOf_138 ?_
    refine zk_iadd hX_ hB_ dX0_signOf_140 ?_
    refine zk_bipush hX_ hB_ (by decide) dX0_signOf_141 ?_
    refine zk_irem hX_ hB_ (by omega) (by omega) (by omega) (by omega) dX0_signOf_143 ?_
    refine zk_iconst hX_ hB_ dX0_signOf_144 ?_
    refine zk_iadd hX_ hB_ dX0_signOf_145 ?_
    exact fin_i (wf := (fun _ : Unit => [])) () F rfl hP hD hK hS (by decide) (by decide) dX0_signOf_146 (by refine congrArg iz ?_; unfold sgn; (try rw [t_1_0]); (try rw [t_1_1]); (try rw [t_1_2]); (try rw [t_1_3]); (try rw [t_1_4]); (try rw [t_1_5]); (try rw [t_1_6]); (try rw [t_1_7]); (try rw [t_1_8]); (try rw [t_1_9]); simp [*])
  refine zk_tableOut (tgt := 147) hX_ hB_ dX0_signOf_1 (by omega) (by omega) (by decide) ?_
  refine lv_iload_n hX_ hB_ dX0_signOf_147 rfl (lv_at hl 0 rfl) ?_
  refine lv_iload_n hX_ hB_ dX0_signOf_148 rfl (lv_at hl 2 rfl) ?_
  refine zk_iadd hX_ hB_ dX0_signOf_149 ?_
  refine zk_sipush hX_ hB_ (by decide) dX0_signOf_150 ?_
  refine zk_imul hX_ hB_ dX0_signOf_153 ?_
  refine zk_sipush hX_ hB_ (by decide) dX0_signOf_154 ?_
  refine zk_irem hX_ hB_ (by omega) (by omega) (by omega) (by omega) dX0_signOf_157 ?_
  refine zk_sipush hX_ hB_ (by decide) dX0_signOf_158 ?_
  refine zk_idiv hX_ hB_ (by omega) (by omega) (by omega) (by omega) dX0_signOf_161 ?_
  exact fin_i (wf := (fun _ : Unit => [])) () F rfl hP hD hK hS (by decide) (by decide) dX0_signOf_162 (by refine congrArg iz ?_; unfold sgn; (try rw [t_1_0]); (try rw [t_1_1]); (try rw [t_1_2]); (try rw [t_1_3]); (try rw [t_1_4]); (try rw [t_1_5]); (try rw [t_1_6]); (try rw [t_1_7]); (try rw [t_1_8]); (try rw [t_1_9]); simp [*])

set_option maxHeartbeats 4000000 in
set_option maxRecDepth 100000 in
theorem c_X0_holds (l : Launch) (G : GG) (x : Int32) (v : Int) (hv : R31 v) : Ci l yX0_holds wsX0_holds ({ frames := 0, cells := 0, slots := 0, locals := 0 }) G E0 [.int x, .int (iz v)] [] 0 0 (fun _ : Unit => []) (fun (r : Int32) (_ : Unit) => r = (zb (hold x v))) := by
  refine Ci_intro (cc := cX0_holds) (maxL := 2) (ret := (some .boolean)) (by decide) rfl (Nat.le_of_ble_eq_true rfl) ?_
  intro p e s m below meth c A F hA hP hD hK hE ls hl
  have hX_ := F.1
  have hB_ := F.2.1
  have hts := F.2.2.2.2.2.1
  have hown := F.2.2.2.2.1
  have hml := F.2.2.2.1
  have hS : va_S A s.heap s.heap [] := va_S.rf
  have hl : lv_has ls 2 [(0, .int x), (1, .int (iz v))] := hl
  refine lv_iload_n hX_ hB_ dX0_holds_0 rfl (lv_at hl 1 rfl) ?_
  refine zk_if_lt (tgt := 22) hX_ hB_ (by omega) dX0_holds_1 (by decide) (fun c_1 => ?_) (fun c_1 => ?_)
  · skip
    refine zk_iconst hX_ hB_ dX0_holds_22 ?_
    refine zk_topi (y := zb false) rfl ?_
    exact fin_i (wf := (fun _ : Unit => [])) () F (zb_nar _) hP hD hK hS (by decide) (by decide) dX0_holds_23 (by refine congrArg zb ?_; unfold hold; simp [*]; try omega)
  · skip
    refine lv_iload_n hX_ hB_ dX0_holds_4 rfl (lv_at hl 1 rfl) ?_
    refine zk_bipush hX_ hB_ (by decide) dX0_holds_5 ?_
    refine zk_icmp_ge (tgt := 22) hX_ hB_ (by omega) (by omega) dX0_holds_7 (by decide) (fun c_7 => ?_) (fun c_7 => ?_)
    · skip
      refine zk_iconst hX_ hB_ dX0_holds_22 ?_
      refine zk_topi (y := zb false) rfl ?_
      exact fin_i (wf := (fun _ : Unit => [])) () F (zb_nar _) hP hD hK hS (by decide) (by decide) dX0_holds_23 (by refine congrArg zb ?_; unfold hold; simp [*]; try omega)
    · skip
      refine lv_iload_n hX_ hB_ dX0_holds_10 rfl (lv_at hl 0 rfl) ?_
      refine lv_iload_n hX_ hB_ dX0_holds_11 rfl (lv_at hl 1 rfl) ?_
      refine lv_ishr hX_ hB_ dX0_holds_12 ?_
      refine zk_iconst hX_ hB_ dX0_holds_13 ?_
      refine lv_iand hX_ hB_ dX0_holds_14 ?_
      refine lv_if_eq (tgt := 22) hX_ hB_ dX0_holds_15 (by decide) (fun c_15 => ?_) (fun c_15 => ?_)
      · skip
        refine zk_iconst hX_ hB_ dX0_holds_22 ?_
        refine zk_topi (y := zb false) rfl ?_
        exact fin_i (wf := (fun _ : Unit => [])) () F (zb_nar _) hP hD hK hS (by decide) (by decide) dX0_holds_23 (by refine congrArg zb ?_; unfold hold; simp [*]; try omega)
      · skip
        refine zk_iconst hX_ hB_ dX0_holds_18 ?_
        refine lv_goto (tgt := 23) hX_ hB_ dX0_holds_19 (by decide) ?_
        refine zk_topi (y := zb true) rfl ?_
        exact fin_i (wf := (fun _ : Unit => [])) () F (zb_nar _) hP hD hK hS (by decide) (by decide) dX0_holds_23 (by refine congrArg zb ?_; unfold hold; simp [*]; try omega)
